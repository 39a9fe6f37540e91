section
-- ===== PART A: goes FIRST, ahead of the names: the tables' words, and 'selects' of the private methods out of them =====
/-- a private method of a class that the tables say can be made, by its rows of tables_1 -/
def lw_okq (q : MethodName × Nat) : Prop := (q.1.cls ≠ "java/lang/invoke/MethodHandle" ∧ q.1.cls ≠ "java/lang/invoke/VarHandle") ∧ Cond.instantiable q.1.cls q.2 ∈ tables_1 ∧ Cond.privateMethod q.1 ∈ tables_1 ∧ Cond.instanceMethod q.1 ∈ tables_1
theorem lw_p0 : lw_okq (⟨"java/lang/Throwable", "fillInStackTrace", "(I)Ljava/lang/Throwable;"⟩, 6) := ⟨⟨by decide +kernel, by decide +kernel⟩, List.mem_of_getElem? (i := 176) (by decide +kernel), List.mem_of_getElem? (i := 174) (by decide +kernel), List.mem_of_getElem? (i := 175) (by decide +kernel)⟩
theorem lw_p1 : lw_okq (⟨"FragileRules", "firstRefusingMarks", "(LFragileRules$Unit;)I"⟩, 10) := ⟨⟨by decide +kernel, by decide +kernel⟩, List.mem_of_getElem? (i := 16) (by decide +kernel), List.mem_of_getElem? (i := 222) (by decide +kernel), List.mem_of_getElem? (i := 223) (by decide +kernel)⟩
theorem lw_p2 : lw_okq (⟨"FragileRules", "firstRefusing", "(ILFragileRules$Unit;LFragileRules$Unit;I)I"⟩, 10) := ⟨⟨by decide +kernel, by decide +kernel⟩, List.mem_of_getElem? (i := 16) (by decide +kernel), List.mem_of_getElem? (i := 230) (by decide +kernel), List.mem_of_getElem? (i := 231) (by decide +kernel)⟩
theorem lw_p3 : lw_okq (⟨"FragileRules", "addRule", "(III)I"⟩, 10) := ⟨⟨by decide +kernel, by decide +kernel⟩, List.mem_of_getElem? (i := 16) (by decide +kernel), List.mem_of_getElem? (i := 268) (by decide +kernel), List.mem_of_getElem? (i := 269) (by decide +kernel)⟩
theorem lw_p4 : lw_okq (⟨"FragileRules", "addLines", "(I)V"⟩, 10) := ⟨⟨by decide +kernel, by decide +kernel⟩, List.mem_of_getElem? (i := 16) (by decide +kernel), List.mem_of_getElem? (i := 321) (by decide +kernel), List.mem_of_getElem? (i := 322) (by decide +kernel)⟩
theorem lw_p5 : lw_okq (⟨"FragileRules", "isUnit", "(I)Z"⟩, 10) := ⟨⟨by decide +kernel, by decide +kernel⟩, List.mem_of_getElem? (i := 16) (by decide +kernel), List.mem_of_getElem? (i := 342) (by decide +kernel), List.mem_of_getElem? (i := 343) (by decide +kernel)⟩
theorem lw_p6 : lw_okq (⟨"FragileRules", "verdict", "(ILFragileRules$Unit;LFragileRules$Unit;I)I"⟩, 10) := ⟨⟨by decide +kernel, by decide +kernel⟩, List.mem_of_getElem? (i := 16) (by decide +kernel), List.mem_of_getElem? (i := 379) (by decide +kernel), List.mem_of_getElem? (i := 380) (by decide +kernel)⟩
theorem lw_p7 : lw_okq (⟨"FragileRules", "isRuleNumber", "(I)Z"⟩, 10) := ⟨⟨by decide +kernel, by decide +kernel⟩, List.mem_of_getElem? (i := 16) (by decide +kernel), List.mem_of_getElem? (i := 414) (by decide +kernel), List.mem_of_getElem? (i := 415) (by decide +kernel)⟩
theorem lw_p8 : lw_okq (⟨"FragileRules", "placeInOrder", "(I)I"⟩, 10) := ⟨⟨by decide +kernel, by decide +kernel⟩, List.mem_of_getElem? (i := 16) (by decide +kernel), List.mem_of_getElem? (i := 420) (by decide +kernel), List.mem_of_getElem? (i := 421) (by decide +kernel)⟩
theorem lw_p9 : lw_okq (⟨"FragileRulesModel", "ask", "()I"⟩, 25) := ⟨⟨by decide +kernel, by decide +kernel⟩, List.mem_of_getElem? (i := 443) (by decide +kernel), List.mem_of_getElem? (i := 536) (by decide +kernel), List.mem_of_getElem? (i := 537) (by decide +kernel)⟩
theorem lw_p10 : lw_okq (⟨"FragileRulesModel", "concerns", "(I)Z"⟩, 25) := ⟨⟨by decide +kernel, by decide +kernel⟩, List.mem_of_getElem? (i := 443) (by decide +kernel), List.mem_of_getElem? (i := 540) (by decide +kernel), List.mem_of_getElem? (i := 541) (by decide +kernel)⟩
theorem lw_p11 : lw_okq (⟨"FragileRulesModel", "refuses", "(I)Z"⟩, 25) := ⟨⟨by decide +kernel, by decide +kernel⟩, List.mem_of_getElem? (i := 443) (by decide +kernel), List.mem_of_getElem? (i := 544) (by decide +kernel), List.mem_of_getElem? (i := 545) (by decide +kernel)⟩
theorem lw_p12 : lw_okq (⟨"FragileRulesModel", "ownRefuses", "(I)Z"⟩, 25) := ⟨⟨by decide +kernel, by decide +kernel⟩, List.mem_of_getElem? (i := 443) (by decide +kernel), List.mem_of_getElem? (i := 548) (by decide +kernel), List.mem_of_getElem? (i := 549) (by decide +kernel)⟩
theorem lw_p13 : lw_okq (⟨"FragileRulesModel", "add", "(III)V"⟩, 25) := ⟨⟨by decide +kernel, by decide +kernel⟩, List.mem_of_getElem? (i := 443) (by decide +kernel), List.mem_of_getElem? (i := 562) (by decide +kernel), List.mem_of_getElem? (i := 563) (by decide +kernel)⟩
theorem lw_p14 : lw_okq (⟨"FragileRulesModel", "go", "(Z)I"⟩, 25) := ⟨⟨by decide +kernel, by decide +kernel⟩, List.mem_of_getElem? (i := 443) (by decide +kernel), List.mem_of_getElem? (i := 578) (by decide +kernel), List.mem_of_getElem? (i := 579) (by decide +kernel)⟩
theorem lw_p15 : lw_okq (⟨"FragileRulesModel", "line", "(Z)V"⟩, 25) := ⟨⟨by decide +kernel, by decide +kernel⟩, List.mem_of_getElem? (i := 443) (by decide +kernel), List.mem_of_getElem? (i := 582) (by decide +kernel), List.mem_of_getElem? (i := 583) (by decide +kernel)⟩
def lw_privs_1 : List (MethodName × Nat) := [(⟨"java/lang/Throwable", "fillInStackTrace", "(I)Ljava/lang/Throwable;"⟩, 6), (⟨"FragileRules", "firstRefusingMarks", "(LFragileRules$Unit;)I"⟩, 10), (⟨"FragileRules", "firstRefusing", "(ILFragileRules$Unit;LFragileRules$Unit;I)I"⟩, 10), (⟨"FragileRules", "addRule", "(III)I"⟩, 10), (⟨"FragileRules", "addLines", "(I)V"⟩, 10), (⟨"FragileRules", "isUnit", "(I)Z"⟩, 10), (⟨"FragileRules", "verdict", "(ILFragileRules$Unit;LFragileRules$Unit;I)I"⟩, 10), (⟨"FragileRules", "isRuleNumber", "(I)Z"⟩, 10), (⟨"FragileRules", "placeInOrder", "(I)I"⟩, 10), (⟨"FragileRulesModel", "ask", "()I"⟩, 25), (⟨"FragileRulesModel", "concerns", "(I)Z"⟩, 25), (⟨"FragileRulesModel", "refuses", "(I)Z"⟩, 25), (⟨"FragileRulesModel", "ownRefuses", "(I)Z"⟩, 25), (⟨"FragileRulesModel", "add", "(III)V"⟩, 25), (⟨"FragileRulesModel", "go", "(Z)I"⟩, 25), (⟨"FragileRulesModel", "line", "(Z)V"⟩, 25)]
theorem lw_r1 : ∀ q ∈ lw_privs_1, lw_okq q := List.forall_mem_cons.mpr ⟨lw_p0, List.forall_mem_cons.mpr ⟨lw_p1, List.forall_mem_cons.mpr ⟨lw_p2, List.forall_mem_cons.mpr ⟨lw_p3, List.forall_mem_cons.mpr ⟨lw_p4, List.forall_mem_cons.mpr ⟨lw_p5, List.forall_mem_cons.mpr ⟨lw_p6, List.forall_mem_cons.mpr ⟨lw_p7, List.forall_mem_cons.mpr ⟨lw_p8, List.forall_mem_cons.mpr ⟨lw_p9, List.forall_mem_cons.mpr ⟨lw_p10, List.forall_mem_cons.mpr ⟨lw_p11, List.forall_mem_cons.mpr ⟨lw_p12, List.forall_mem_cons.mpr ⟨lw_p13, List.forall_mem_cons.mpr ⟨lw_p14, List.forall_mem_cons.mpr ⟨lw_p15, fun _ h => absurd h List.not_mem_nil⟩⟩⟩⟩⟩⟩⟩⟩⟩⟩⟩⟩⟩⟩⟩⟩
theorem lw_p16 : lw_okq (⟨"FragileRulesModel", "look", "()I"⟩, 25) := ⟨⟨by decide +kernel, by decide +kernel⟩, List.mem_of_getElem? (i := 443) (by decide +kernel), List.mem_of_getElem? (i := 586) (by decide +kernel), List.mem_of_getElem? (i := 587) (by decide +kernel)⟩
theorem lw_p17 : lw_okq (⟨"FragileRulesModel", "fail", "()V"⟩, 25) := ⟨⟨by decide +kernel, by decide +kernel⟩, List.mem_of_getElem? (i := 443) (by decide +kernel), List.mem_of_getElem? (i := 593) (by decide +kernel), List.mem_of_getElem? (i := 594) (by decide +kernel)⟩
theorem lw_p18 : lw_okq (⟨"FragileRulesModel", "take", "(I)V"⟩, 25) := ⟨⟨by decide +kernel, by decide +kernel⟩, List.mem_of_getElem? (i := 443) (by decide +kernel), List.mem_of_getElem? (i := 597) (by decide +kernel), List.mem_of_getElem? (i := 598) (by decide +kernel)⟩
theorem lw_p19 : lw_okq (⟨"FragileRulesModel", "digit", "(I)I"⟩, 25) := ⟨⟨by decide +kernel, by decide +kernel⟩, List.mem_of_getElem? (i := 443) (by decide +kernel), List.mem_of_getElem? (i := 601) (by decide +kernel), List.mem_of_getElem? (i := 602) (by decide +kernel)⟩
theorem lw_p20 : lw_okq (⟨"FragileRulesModel", "isUnit", "(I)Z"⟩, 25) := ⟨⟨by decide +kernel, by decide +kernel⟩, List.mem_of_getElem? (i := 443) (by decide +kernel), List.mem_of_getElem? (i := 609) (by decide +kernel), List.mem_of_getElem? (i := 610) (by decide +kernel)⟩
theorem lw_p21 : lw_okq (⟨"FragileRulesModel", "verdict", "()I"⟩, 25) := ⟨⟨by decide +kernel, by decide +kernel⟩, List.mem_of_getElem? (i := 443) (by decide +kernel), List.mem_of_getElem? (i := 613) (by decide +kernel), List.mem_of_getElem? (i := 614) (by decide +kernel)⟩
theorem lw_p22 : lw_okq (⟨"FragileRulesModel", "isNumber", "(I)Z"⟩, 25) := ⟨⟨by decide +kernel, by decide +kernel⟩, List.mem_of_getElem? (i := 443) (by decide +kernel), List.mem_of_getElem? (i := 637) (by decide +kernel), List.mem_of_getElem? (i := 638) (by decide +kernel)⟩
theorem lw_p23 : lw_okq (⟨"FragileRulesModel", "placeOf", "(I)I"⟩, 25) := ⟨⟨by decide +kernel, by decide +kernel⟩, List.mem_of_getElem? (i := 443) (by decide +kernel), List.mem_of_getElem? (i := 641) (by decide +kernel), List.mem_of_getElem? (i := 642) (by decide +kernel)⟩
def lw_privs_2 : List (MethodName × Nat) := [(⟨"FragileRulesModel", "look", "()I"⟩, 25), (⟨"FragileRulesModel", "fail", "()V"⟩, 25), (⟨"FragileRulesModel", "take", "(I)V"⟩, 25), (⟨"FragileRulesModel", "digit", "(I)I"⟩, 25), (⟨"FragileRulesModel", "isUnit", "(I)Z"⟩, 25), (⟨"FragileRulesModel", "verdict", "()I"⟩, 25), (⟨"FragileRulesModel", "isNumber", "(I)Z"⟩, 25), (⟨"FragileRulesModel", "placeOf", "(I)I"⟩, 25)]
theorem lw_r2 : ∀ q ∈ lw_privs_2, lw_okq q := List.forall_mem_cons.mpr ⟨lw_p16, List.forall_mem_cons.mpr ⟨lw_p17, List.forall_mem_cons.mpr ⟨lw_p18, List.forall_mem_cons.mpr ⟨lw_p19, List.forall_mem_cons.mpr ⟨lw_p20, List.forall_mem_cons.mpr ⟨lw_p21, List.forall_mem_cons.mpr ⟨lw_p22, List.forall_mem_cons.mpr ⟨lw_p23, fun _ h => absurd h List.not_mem_nil⟩⟩⟩⟩⟩⟩⟩⟩
def lw_privs : List (MethodName × Nat) := lw_privs_1 ++ (lw_privs_2)
def lw_tbl : List Cond := k2_sels lw_privs ++ tables_1
theorem lw_privs_ok : ∀ q ∈ lw_privs, lw_okq q := by
  show ∀ q ∈ lw_privs_1 ++ (lw_privs_2), lw_okq q
  exact List.forall_mem_append.mpr ⟨lw_r1, lw_r2⟩
/-- the words that stay while the tables warm -/
def fr_tbl : List Cond := lw_tbl.filter goodWord
theorem fr_in {w : Cond} (i : Nat) (h : lw_tbl[i]? = some w) (hg : goodWord w = true) : w ∈ fr_tbl := List.mem_filter.mpr ⟨List.mem_of_getElem? h, hg⟩
theorem fr_tbl_good : ∀ w ∈ fr_tbl, goodWord w = true := fun _ h => (List.mem_filter.mp h).2
theorem fr_good {y : MethodName} {b : ByteArray} {n : Nat} {r : Option FieldType} (h : Cond.code y b n r ∈ fr_tbl) : GoodIn fr_tbl (.code y b n r :: fr_tbl) := by
  intro w hw
  rcases List.mem_cons.mp hw with rfl | hw
  · exact ⟨h, good_of_word (fr_tbl_good _ h)⟩
  · exact ⟨hw, good_of_word (fr_tbl_good _ hw)⟩
theorem fr_goodL {L ws : List Cond} (h : ∀ w ∈ L, w ∈ fr_tbl) (hw : GoodIn fr_tbl ws) : GoodIn fr_tbl (L ++ ws) := by
  intro w h1
  rcases List.mem_append.mp h1 with h1 | h1
  · exact ⟨h w h1, good_of_word (fr_tbl_good _ (h w h1))⟩
  · exact hw w h1
theorem fr_goodV {own C : String} {i n : Nat} {y : MethodName} {b : ByteArray} {r : Option FieldType} (h1 : Cond.methodLink own i y ∈ fr_tbl) (h2 : Cond.instanceMethod y ∈ fr_tbl) (h3 : Cond.selects C y y ∈ fr_tbl) (h4 : Cond.initialized C ∈ fr_tbl) (h5 : Cond.code y b n r ∈ fr_tbl) : GoodIn fr_tbl (wsV own i C y (.code y b n r :: fr_tbl)) :=
  fr_goodL (by intro w hw; simp only [List.mem_cons, List.not_mem_nil, or_false] at hw; rcases hw with rfl | rfl | rfl | rfl <;> assumption) (fr_good h5)
theorem fr_goodS {own : String} {i n : Nat} {y : MethodName} {b : ByteArray} {r : Option FieldType} (h1 : Cond.methodLink own i y ∈ fr_tbl) (h2 : Cond.static y ∈ fr_tbl) (h3 : Cond.initialized own ∈ fr_tbl) (h5 : Cond.code y b n r ∈ fr_tbl) : GoodIn fr_tbl (wsS own i y (.code y b n r :: fr_tbl)) :=
  fr_goodL (by intro w hw; simp only [List.mem_cons, List.not_mem_nil, or_false] at hw; rcases hw with rfl | rfl | rfl <;> assumption) (fr_good h5)
theorem fr_goodSS {own : String} {i n : Nat} {y : MethodName} {b : ByteArray} {r : Option FieldType} (h1 : Cond.methodLink own i y ∈ fr_tbl) (h2 : Cond.static y ∈ fr_tbl) (h3 : Cond.initialized y.cls ∈ fr_tbl) (h5 : Cond.code y b n r ∈ fr_tbl) : GoodIn fr_tbl (va_wsS own i y (.code y b n r :: fr_tbl)) :=
  fr_goodL (by intro w hw; simp only [List.mem_cons, List.not_mem_nil, or_false] at hw; rcases hw with rfl | rfl | rfl <;> assumption) (fr_good h5)
def TXF : u_T := fun k => match k with
  | 0 => ("FragileRules", "units", "[LFragileRules$Unit;", true)
  | 1 => ("FragileRules", "unitCount", "I", false)
  | 2 => ("FragileRules", "rules", "[LFragileRules$Rule;", true)
  | 3 => ("FragileRules", "ruleCount", "I", false)
  | 4 => ("FragileRules", "numbersInOrder", "[I", true)
  | 5 => ("FragileRules", "askedNumbers", "[I", true)
  | 6 => ("FragileRules", "askedCount", "I", false)
  | 7 => ("FragileRules", "text", "LFragileRules$Text;", true)
  | 8 => ("FragileRules", "verdictCount", "I", false)
  | _ => ("FragileRules", "refusedCount", "I", false)
def tyXF : Nat → FieldType := fun k => match k with
  | 0 => .array (.object "FragileRules$Unit")
  | 1 => .int
  | 2 => .array (.object "FragileRules$Rule")
  | 3 => .int
  | 4 => .array .int
  | 5 => .array .int
  | 6 => .int
  | 7 => .object "FragileRules$Text"
  | 8 => .int
  | _ => .int
theorem nmXF : ∀ a, a < 10 → ∀ b, b < 10 → a ≠ b → (TXF a).2.1 ≠ (TXF b).2.1 := by decide +kernel
theorem tokXF : ∀ k, k < 10 → parseFieldDescriptor (TXF k).2.2.1 = some (tyXF k) := by decide +kernel
theorem iXF : ∀ w ∈ u_ws "FragileRules" TXF 10, w ∈ fr_tbl := by decide +kernel
def TXU : u_T := fun k => match k with
  | 0 => ("FragileRules$Unit", "kind", "I", false)
  | 1 => ("FragileRules$Unit", "weight", "I", false)
  | _ => ("FragileRules$Unit", "marks", "I", false)
def tyXU : Nat → FieldType := fun k => match k with
  | 0 => .int
  | 1 => .int
  | _ => .int
theorem nmXU : ∀ a, a < 3 → ∀ b, b < 3 → a ≠ b → (TXU a).2.1 ≠ (TXU b).2.1 := by decide +kernel
theorem tokXU : ∀ k, k < 3 → parseFieldDescriptor (TXU k).2.2.1 = some (tyXU k) := by decide +kernel
theorem iXU : ∀ w ∈ u_ws "FragileRules$Unit" TXU 3, w ∈ fr_tbl := by decide +kernel
def TXR : u_T := fun k => match k with
  | 0 => ("FragileRules$Rule", "row", "I", false)
  | 1 => ("FragileRules$Rule", "a", "I", false)
  | 2 => ("FragileRules$Rule", "b", "I", false)
  | _ => ("FragileRules$Rule", "refusals", "I", false)
def tyXR : Nat → FieldType := fun k => match k with
  | 0 => .int
  | 1 => .int
  | 2 => .int
  | _ => .int
theorem nmXR : ∀ a, a < 4 → ∀ b, b < 4 → a ≠ b → (TXR a).2.1 ≠ (TXR b).2.1 := by decide +kernel
theorem tokXR : ∀ k, k < 4 → parseFieldDescriptor (TXR k).2.2.1 = some (tyXR k) := by decide +kernel
theorem iXR : ∀ w ∈ u_ws "FragileRules$Rule" TXR 4, w ∈ fr_tbl := by decide +kernel
def TXT : u_T := fun k => match k with
  | 0 => ("FragileRules$Text", "signs", "[I", true)
  | _ => ("FragileRules$Text", "length", "I", false)
def tyXT : Nat → FieldType := fun k => match k with
  | 0 => .array .int
  | _ => .int
theorem nmXT : ∀ a, a < 2 → ∀ b, b < 2 → a ≠ b → (TXT a).2.1 ≠ (TXT b).2.1 := by decide +kernel
theorem tokXT : ∀ k, k < 2 → parseFieldDescriptor (TXT k).2.2.1 = some (tyXT k) := by decide +kernel
theorem iXT : ∀ w ∈ u_ws "FragileRules$Text" TXT 2, w ∈ fr_tbl := by decide +kernel
def TXM : u_T := fun k => match k with
  | 0 => ("FragileRulesModel", "units", "I", false)
  | 1 => ("FragileRulesModel", "rules", "I", false)
  | 2 => ("FragileRulesModel", "signs", "I", false)
  | 3 => ("FragileRulesModel", "verdicts", "I", false)
  | 4 => ("FragileRulesModel", "refusals", "I", false)
  | 5 => ("FragileRulesModel", "thrown", "I", false)
  | 6 => ("FragileRulesModel", "kind", "[I", true)
  | 7 => ("FragileRulesModel", "weight", "[I", true)
  | 8 => ("FragileRulesModel", "marks", "[I", true)
  | 9 => ("FragileRulesModel", "row", "[I", true)
  | 10 => ("FragileRulesModel", "first", "[I", true)
  | 11 => ("FragileRulesModel", "second", "[I", true)
  | 12 => ("FragileRulesModel", "refused", "[I", true)
  | 13 => ("FragileRulesModel", "order", "[I", true)
  | 14 => ("FragileRulesModel", "text", "[I", true)
  | 15 => ("FragileRulesModel", "asked", "[I", true)
  | 16 => ("FragileRulesModel", "askedMany", "I", false)
  | 17 => ("FragileRulesModel", "question", "I", false)
  | 18 => ("FragileRulesModel", "below", "I", false)
  | 19 => ("FragileRulesModel", "above", "I", false)
  | 20 => ("FragileRulesModel", "place", "I", false)
  | 21 => ("FragileRulesModel", "mark", "I", false)
  | 22 => ("FragileRulesModel", "had", "I", false)
  | 23 => ("FragileRulesModel", "p", "I", false)
  | _ => ("FragileRulesModel", "bad", "I", false)
def tyXM : Nat → FieldType := fun k => match k with
  | 0 => .int
  | 1 => .int
  | 2 => .int
  | 3 => .int
  | 4 => .int
  | 5 => .int
  | 6 => .array .int
  | 7 => .array .int
  | 8 => .array .int
  | 9 => .array .int
  | 10 => .array .int
  | 11 => .array .int
  | 12 => .array .int
  | 13 => .array .int
  | 14 => .array .int
  | 15 => .array .int
  | 16 => .int
  | 17 => .int
  | 18 => .int
  | 19 => .int
  | 20 => .int
  | 21 => .int
  | 22 => .int
  | 23 => .int
  | _ => .int
theorem nmXM : ∀ a, a < 25 → ∀ b, b < 25 → a ≠ b → (TXM a).2.1 ≠ (TXM b).2.1 := by decide +kernel
theorem tokXM : ∀ k, k < 25 → parseFieldDescriptor (TXM k).2.2.1 = some (tyXM k) := by decide +kernel
theorem iXM : ∀ w ∈ u_ws "FragileRulesModel" TXM 25, w ∈ fr_tbl := by decide +kernel
abbrev vwCl : List vw_C := [("FragileRules", TXF, 10), ("FragileRules$Unit", TXU, 3), ("FragileRules$Rule", TXR, 4), ("FragileRules$Text", TXT, 2), ("FragileRulesModel", TXM, 25)]
end
section
/-! BASE: contracts between two worlds: from the cells w with the arguments As the method comes back with r, and the cells are w'. A world here is ALL the cells that the caller tells of: no cutting, no joining. -/
/-- words that stay by laws of their own -/
def fr_nest : Cond → Bool
  | .methodLinkNest .. => true
  | .declares _ => true
  | .castable .. => true
  | .arrayOver (.object _) => true
  | .not (.castable ..) => true
  | .stringRef .. => true
  | _ => false
theorem fr_nc_back {C T : String} {U : State} (h : va_Nc C T U) : va_Nw (.not (.castable C T)) U := by
  obtain ⟨c, t, h1, h2, h3⟩ := h
  simp [va_Nw, Cond.before, Cond.holds, Cond.value, h1, h2, h3]
theorem fr_str {own tx : String} {k cur : Nat} {A : Array Value} {U : State} (hown : U.vm.findClass own = some cur) (h : (Cond.stringRef own k tx).before A U = true) : ∃ a, vk_R own k tx a U := by
  obtain ⟨_, _, _, a, -, -, -, -, -, he⟩ := Cond.stringRef_spec hown h
  exact ⟨a, vk_R.of h he⟩
theorem fr_nest_warm {q : Cond} (h : fr_nest q = true) {s U : State} (hW : s.WarmedH U.vm) (hZ : va_Nw q s) : va_Nw q U := by
  unfold fr_nest at h
  split at h
  · exact va_Nw.warmM hW hZ
  · exact va_Nw.warmD hW hZ
  · exact va_Nw.warmC hW hZ
  · exact va_AO.moved hW.alike hZ
  · exact fr_nc_back ((va_Nc.of hZ).moved hW.alike)
  · rename_i own k tx
    cases hc : s.vm.findClass own with
    | none => simp [va_Nw, Cond.before, Cond.holds, Cond.value, hc] at hZ
    | some cur =>
      obtain ⟨a, hv⟩ := fr_str hc hZ
      exact (vk_R.warm hW hv).1
  · cases h
theorem fr_noHandlers {c : Code} (h : c.exceptionTable.isEmpty = true) : c.exceptionTable.toList = [] := by
  have h0 : c.exceptionTable.size = 0 := by simpa [Array.isEmpty] using h
  exact List.eq_nil_of_length_eq_zero (by simpa using h0)
theorem fr_ne {x k : Int32} {a : Int} (hk : k.toInt = a) (h : ¬ x = k) : x.toInt ≠ a := fun q => h (Int32.toInt_inj.mp (q.trans hk.symm))
section FRZ
/-- a static of Throwable that holds a reference or null, at a cell outside A -/
def fr_zf (n d : String) (A : Nat → Prop) (U : State) (H : Heap) : Prop := ∃ (c : ClassId) (k : Class) (i : Nat) (f : Field) (a : Nat) (cell : Cell) (v : Value),
  U.vm.findClass Bundle.tN = some c ∧ U.fieldFound? Bundle.tN n d = some (c, k, i, f) ∧ f.isStatic = true ∧ k.statics = some a ∧ H[a]? = some cell ∧ cell.vm.isStatics = true ∧ cell.cls = c ∧ f.slot < cell.slots.size ∧ k.staticTypes[f.slot]? = some f.type ∧ cell.slots[f.slot]? = some v ∧ (v = .null ∨ ∃ t, v = .ref t) ∧ ¬ A a
theorem fr_zf.moved {n d : String} {A : Nat → Prop} {u U : State} {H : Heap} (hvm : u.vm.Alike U.vm) (h : fr_zf n d A u H) : fr_zf n d A U H := by
  obtain ⟨c, k, i, f, a, cell, v, h1, h2, h3, h4, h5, h6, h7, h8, h9, h10⟩ := h
  obtain ⟨k', hi', he⟩ := State.fieldFound?_setVm hvm h2
  exact ⟨c, k', i, f, a, cell, v, by rw [hvm.findClass]; exact h1, hi', h3, by rw [he]; exact h4, h5, h6, h7, h8, by rw [he]; exact h9, h10⟩
theorem fr_zf.kept {n d : String} {A : Nat → Prop} {U : State} {H H1 : Heap} (h : fr_zf n d A U H) (hq : ∀ a : Nat, a < H.size → ¬ A a → H1[a]? = H[a]?) : fr_zf n d A U H1 := by
  obtain ⟨c, k, i, f, a, cell, v, h1, h2, h3, h4, h5, h6, h7, h8, h9, h10, h11, h12⟩ := h
  exact ⟨c, k, i, f, a, cell, v, h1, h2, h3, h4, by rw [hq a (Array.getElem?_eq_some_iff.mp h5).1 h12]; exact h5, h6, h7, h8, h9, h10, h11, h12⟩
theorem fr_zf.narrow {n d : String} {A B : Nat → Prop} {U : State} {H : Heap} (h : fr_zf n d A U H) (hAB : ∀ q, B q → A q) : fr_zf n d B U H := by
  obtain ⟨c, k, i, f, a, cell, v, h1, h2, h3, h4, h5, h6, h7, h8, h9, h10, h11, h12⟩ := h
  exact ⟨c, k, i, f, a, cell, v, h1, h2, h3, h4, h5, h6, h7, h8, h9, h10, h11, fun z => h12 (hAB a z)⟩
theorem fr_zf.of {args : Array Value} {s : State} {n d : String} {A : Nat → Prop} (hl : (Cond.laysStatic Bundle.tN n d).before args s = true) (hr : (Cond.isRef (.static Bundle.tN n d)).before args s = true) (hA : ∀ a : Nat, a < s.heap.size → ¬ A a) : fr_zf n d A s s.heap := by
  obtain ⟨c, k, i, f, a, cell, hc, hi, hst, ha, hcell, hs, hcls, hlt, hty⟩ := Cond.laysStatic_spec hl
  cases hv : (Term.static Bundle.tN n d).eval args s none [] s with
  | none => simp [Cond.before, Cond.holds, Cond.value, hv] at hr
  | some v =>
    obtain ⟨hst', a', cell', ha', hcell', -, hslot⟩ := Term.static_spec hi hv
    cases ha.symm.trans ha'
    cases hcell.symm.trans hcell'
    simp only [Cond.before, Cond.holds, Cond.value, hv] at hr
    refine ⟨c, k, i, f, a, cell, v, hc, hi, hst, ha, hcell, hs, hcls, hlt, hty, hslot, ?_, hA a (Array.getElem?_eq_some_iff.mp hcell).1⟩
    cases v with
    | null => exact Or.inl rfl
    | ref t => exact Or.inr ⟨t, rfl⟩
    | _ => simp at hr
theorem fr_zf.lays {args : Array Value} {s : State} {n d : String} {A : Nat → Prop} (h : fr_zf n d A s s.heap) : (Cond.laysStatic Bundle.tN n d).before args s = true := by
  obtain ⟨c, k, i, f, a, cell, v, h1, h2, h3, h4, h5, h6, h7, h8, h9, h10, h11, h12⟩ := h
  simp [Cond.before, Cond.holds, Cond.value, h1, h2, h3, h4, h5, h6, h7, h8, h9]
theorem fr_zf.isRef {args : Array Value} {s : State} {n d : String} {A : Nat → Prop} (h : fr_zf n d A s s.heap) : (Cond.isRef (.static Bundle.tN n d)).before args s = true := by
  obtain ⟨c, k, i, f, a, cell, v, h1, h2, h3, h4, h5, h6, h7, h8, h9, h10, h11, h12⟩ := h
  rcases h11 with rfl | ⟨t, rfl⟩ <;> simp [Cond.before, Cond.holds, Cond.value, Term.eval, State.fieldNamed?, h2, h3, h4, h5, h6, h10]
end FRZ
/-- what every contract asks of Throwable's statics: no method of ours writes them -/
def fr_zz (A : Nat → Prop) (U : State) (H : Heap) : Prop := fr_zf "UNASSIGNED_STACK" Bundle.steD A U H ∧ fr_zf "SUPPRESSED_SENTINEL" Bundle.listD A U H
section FRB
variable {p : Program} {l : Launch} {e : Env} {R : Room} {s : State} {m : MethodId} {args : Array Value} {below : List Frame} {meth : Method} {c : Code} {H : Heap} {locs : List Loc} {cells slots : Nat} {Q : State → Prop}
variable {D : va_G} {cl : List vw_C} {tys : List (ClassId × FieldType)} {A : Nat → Prop} {nw tbl : List Cond}
/-- what a contract asks of its start -/
def fr_Pre (D : va_G) (cl : List vw_C) (tys : List (ClassId × FieldType)) (nw : List Cond) (w : va_W) (sz : Nat) (U : State) : Prop :=
  U.heap.size = sz ∧ va_P D cl w U.heap ∧ va_K D cl tys U ∧ va_D (fun _ => True) w ∧ (∀ q ∈ nw, fr_nest q = true ∧ va_Nw q U) ∧ fr_zz (va_A w sz) U U.heap
/-- what it says of its end -/
def fr_End (D : va_G) (cl : List vw_C) (tys : List (ClassId × FieldType)) (w : va_W) (A : Nat → Prop) (_ : Unit) (t : State) : Prop := va_P D cl w t.heap ∧ va_K D cl tys t ∧ va_D A w
def fr_Qi (D : va_G) (cl : List vw_C) (tys : List (ClassId × FieldType)) (r : Int32) (w : va_W) (A : Nat → Prop) : Array Value → State → Outcome → State → Prop := va_Qi (fun r' (_ : Unit) => r' = r) (fr_End D cl tys w A) A
def fr_Qv (D : va_G) (cl : List vw_C) (tys : List (ClassId × FieldType)) (w : va_W) (A : Nat → Prop) : Array Value → State → Outcome → State → Prop := va_Qv (fun (_ : Unit) => True) (fr_End D cl tys w A) A
def fr_Mi (l : Launch) (y : MethodName) (ws : List Cond) (rm : Room) (D : va_G) (cl : List vw_C) (tys : List (ClassId × FieldType)) (nw : List Cond) (As : List Value) (w : va_W) (r : Int32) (w' : va_W) (mc ms : Nat) : Prop :=
  ∀ sz : Nat, Met l y ws rm (va_Pc As (fr_Pre D cl tys nw w sz)) (fr_Qi D cl tys r w' (va_A w sz)) mc ms (va_A w sz)
def fr_Mv (l : Launch) (y : MethodName) (ws : List Cond) (rm : Room) (D : va_G) (cl : List vw_C) (tys : List (ClassId × FieldType)) (nw : List Cond) (As : List Value) (w : va_W) (w' : va_W) (mc ms : Nat) : Prop :=
  ∀ sz : Nat, Met l y ws rm (va_Pc As (fr_Pre D cl tys nw w sz)) (fr_Qv D cl tys w' (va_A w sz)) mc ms (va_A w sz)
theorem fr_blind {As : List Value} {w : va_W} {sz : Nat} : FrameBlind (va_Pc As (fr_Pre D cl tys nw w sz)) := fun a U g mk q => by
  obtain ⟨q0, q1, qP, qK, qD, qN, qZ⟩ := q
  exact ⟨q0, q1, qP, va_K.moved (u := U) (U := U.calling g mk a) (Vm.Alike.refl U.vm) qK, qD, fun z hz => ⟨(qN z hz).1, fr_nest_warm (qN z hz).1 (s := U) (U := U.calling g mk a) (State.WarmedH.refl U) (qN z hz).2⟩,
    qZ.1.moved (u := U) (U := U.calling g mk a) (Vm.Alike.refl U.vm), qZ.2.moved (u := U) (U := U.calling g mk a) (Vm.Alike.refl U.vm)⟩
/-- the facts that stand through a method's walk -/
def fr_Cx (p : Program) (s : State) (m : MethodId) (args : Array Value) (meth : Method) (c : Code) (own : String) (cc : ByteArray) (maxL : Nat) (ret : Option FieldType) (hh : List ExceptionTableEntry) (tbl nw : List Cond) (D : va_G) (cl : List vw_C) (tys : List (ClassId × FieldType)) (A : Nat → Prop) : Prop :=
  p.tables.exec = Jvm.exec ∧ c.code = cc ∧ c.maxLocals = maxL ∧ s.vm.findClass own = some m.cls ∧ (∀ w ∈ tbl, w.before args s = true) ∧ va_K D cl tys s ∧ meth.locks = false ∧ meth.sig.returnType = ret ∧ (∀ q : Nat, s.heap.size ≤ q → A q) ∧ (∀ q ∈ nw, fr_nest q = true ∧ va_Nw q s) ∧ fr_zz A s s.heap ∧ c.exceptionTable.toList = hh
theorem fr_Mi.of {y : MethodName} {rm : Room} {As : List Value} {w : va_W} {r : Int32} {w' : va_W} {mc ms : Nat} {cc : ByteArray} {maxL : Nat} {ret : Option FieldType} (hy : plainName y.cls = true) (hnL : (lg_sl As).length ≤ maxL)
    (body : ∀ (p : Program) (e : Env) (s : State) (m : MethodId) (below : List Frame) (meth : Method) (c : Code) (A : Nat → Prop) (H : Heap) (locs : List Loc) (ls : Array Slot), fr_Cx p s m As.toArray meth c y.cls cc maxL ret [] tbl nw D cl tys A → va_P D cl w H → va_D A w → va_S A s.heap H locs → lv_has ls maxL (lv_args 0 As) →
      W p l e rm s m As.toArray below meth c H locs 0 0 (MQ below (fr_Qi D cl tys r w' A) As.toArray s mc ms A) (F0 m 0 ls [])) : fr_Mi l y (.code y cc maxL ret :: tbl) rm D cl tys nw As w r w' mc ms := by
  intro sz
  refine Met.ofW (cc := cc) (maxL := maxL) (ret := ret) hy rfl ?_
  intro p e s m args below meth c s₁ B hml hv
  obtain ⟨rfl, hsz, hP, hK, hD0, hN, hZ⟩ := hv
  subst hsz
  have hts := atoms_spec (ws := .code y cc maxL ret :: tbl) B.pre
  rw [lg_entry_eq]
  exact body p e s m below meth c (va_A w s.heap.size) s.heap [] _ ⟨B.exec, B.bytes, hml, findClass_of_methodNamed B.named, fun z hz => hts z (List.mem_cons_of_mem _ hz), hK, B.notSynchronized, B.returns, fun q h => Or.inr h, hN, hZ, fr_noHandlers (B.noHandlers (hts _ List.mem_cons_self))⟩ hP hD0.self va_S.rf (lv_entry As hnL)
theorem fr_Mv.of {y : MethodName} {rm : Room} {As : List Value} {w : va_W} {w' : va_W} {mc ms : Nat} {cc : ByteArray} {maxL : Nat} {ret : Option FieldType} (hy : plainName y.cls = true) (hnL : (lg_sl As).length ≤ maxL)
    (body : ∀ (p : Program) (e : Env) (s : State) (m : MethodId) (below : List Frame) (meth : Method) (c : Code) (A : Nat → Prop) (H : Heap) (locs : List Loc) (ls : Array Slot), fr_Cx p s m As.toArray meth c y.cls cc maxL ret [] tbl nw D cl tys A → meth.name = y.name → va_P D cl w H → va_D A w → va_S A s.heap H locs → lv_has ls maxL (lv_args 0 As) →
      W p l e rm s m As.toArray below meth c H locs 0 0 (MQ below (fr_Qv D cl tys w' A) As.toArray s mc ms A) (F0 m 0 ls [])) : fr_Mv l y (.code y cc maxL ret :: tbl) rm D cl tys nw As w w' mc ms := by
  intro sz
  refine Met.ofW (cc := cc) (maxL := maxL) (ret := ret) hy rfl ?_
  intro p e s m args below meth c s₁ B hml hv
  obtain ⟨rfl, hsz, hP, hK, hD0, hN, hZ⟩ := hv
  subst hsz
  have hts := atoms_spec (ws := .code y cc maxL ret :: tbl) B.pre
  rw [lg_entry_eq]
  exact body p e s m below meth c (va_A w s.heap.size) s.heap [] _ ⟨B.exec, B.bytes, hml, findClass_of_methodNamed B.named, fun z hz => hts z (List.mem_cons_of_mem _ hz), hK, B.notSynchronized, B.returns, fun q h => Or.inr h, hN, hZ, fr_noHandlers (B.noHandlers (hts _ List.mem_cons_self))⟩ (name_of_methodNamed B.named B.method).1 hP hD0.self va_S.rf (lv_entry As hnL)
variable {own : String} {cc : ByteArray} {nL pc : Nat} {ret : Option FieldType} {hh : List ExceptionTableEntry} {ls : Array Slot} {w w' : va_W} {st0 rest : List Value}
theorem fr_iret {v r : Int32} (C : fr_Cx p s m args meth c own cc nL (some .int) hh tbl nw D cl tys A) (hP : va_P D cl w H) (hD : va_D A w) (hS : va_S A s.heap H locs) (hv : v = r) (hdg : decode cc pc = .ok (.ireturn, 1)) :
    W p l e R s m args below meth c H locs cells slots (MQ below (fr_Qi D cl tys r w A) args s cells slots A) (F0 m pc ls [.int v]) := by
  obtain ⟨hx, hb, hml, hown, ht, hK, hlocks, hr, hA, hN, hZ, hT⟩ := C
  exact W.iret (v := v) hx hb hr (fun t ht hW => ⟨⟨v, (), rfl, hv, by rw [ht]; exact hP, va_K.moved hW.alike hK, hD⟩, hS.F ht⟩) hS.2.2 hdg hlocks
theorem fr_zret {v r : Int32} (C : fr_Cx p s m args meth c own cc nL (some .boolean) hh tbl nw D cl tys A) (hP : va_P D cl w H) (hD : va_D A w) (hS : va_S A s.heap H locs) (hv : v = r) (hn : v = 0 ∨ v = 1) (hdg : decode cc pc = .ok (.ireturn, 1)) :
    W p l e R s m args below meth c H locs cells slots (MQ below (fr_Qi D cl tys r w A) args s cells slots A) (F0 m pc ls [.int v]) := by
  obtain ⟨hx, hb, hml, hown, ht, hK, hlocks, hr, hA, hN, hZ, hT⟩ := C
  exact W.zret (v := v) hx hb hr (by rcases hn with rfl | rfl <;> rfl) (fun t ht hW => ⟨⟨v, (), rfl, hv, by rw [ht]; exact hP, va_K.moved hW.alike hK, hD⟩, hS.F ht⟩) hS.2.2 hdg hlocks
theorem fr_vret (C : fr_Cx p s m args meth c own cc nL none hh tbl nw D cl tys A) (hP : va_P D cl w H) (hD : va_D A w) (hS : va_S A s.heap H locs) (hdg : decode cc pc = .ok (.return_, 1)) :
    W p l e R s m args below meth c H locs cells slots (MQ below (fr_Qv D cl tys w A) args s cells slots A) (F0 m pc ls []) := by
  obtain ⟨hx, hb, hml, hown, ht, hK, hlocks, hr, hA, hN, hZ, hT⟩ := C
  exact W.vret hx hb hr (fun t ht hW => ⟨⟨(), rfl, trivial, by rw [ht]; exact hP, va_K.moved hW.alike hK, hD⟩, hS.F ht⟩) hS.2.2 hdg hlocks
theorem fr_free (hA : ∀ q : Nat, s.heap.size ≤ q → A q) (hD : va_D A w) (hS : va_S A s.heap H locs) : ∀ q, va_A w H.size q → A q := by
  intro q h
  rcases h with ⟨k, e0, h⟩ | h
  · exact hD.2 k _ h
  · exact hA q (Nat.le_trans hS.1 h)
variable {y : MethodName} {bytes : ByteArray} {maxL n index mc ms : Nat} {rty : Option FieldType} {ws : List Cond} {rm : Room} {C0 : String} {b : Addr} {As : List Value} {r : Int32} {host : String}
/-- the start of a callee's contract, at the caller's heap -/
theorem fr_pre (C : fr_Cx p s m args meth c own cc nL ret hh tbl nw D cl tys A) (hP : va_P D cl w H) (hD : va_D A w) (hS : va_S A s.heap H locs) : ∀ U : State, U.heap = H → s.WarmedH U.vm → va_Pc As (fr_Pre D cl tys nw w H.size) As.toArray U := by
  obtain ⟨hx, hb, hml, hown, ht, hK, hlocks, hr, hA, hN, hZ, hT⟩ := C
  exact fun U hU hW => ⟨rfl, by rw [hU], by rw [hU]; exact hP, va_K.moved hW.alike hK, hD.weaken (fun _ _ _ _ => trivial), fun q hq => ⟨(hN q hq).1, fr_nest_warm (hN q hq).1 hW (hN q hq).2⟩,
    by rw [hU]; exact ⟨((hZ.1.kept hS.2.1).narrow (fr_free hA hD hS)).moved hW.alike, ((hZ.2.kept hS.2.1).narrow (fr_free hA hD hS)).moved hW.alike⟩⟩
theorem fr_backi (C : fr_Cx p s m args meth c own cc nL ret hh tbl nw D cl tys A) (hD : va_D A w) (hS : va_S A s.heap H locs)
    (hr : va_Run p l e R s m args below meth c H locs cells slots mc ms (F0 m pc ls st0) rest (fr_Qi D cl tys r w' (va_A w H.size) As.toArray) (va_A w H.size))
    (kk : ∀ (H : Heap) (locs : List Loc), va_P D cl w' H → va_D A w' → va_S A s.heap H locs → W p l e R s m args below meth c H locs (cells + mc) (slots + ms) Q (F0 m (pc + 3) ls (.int r :: rest))) : W p l e R s m args below meth c H locs cells slots Q (F0 m pc ls st0) := by
  have hFc := fr_free C.2.2.2.2.2.2.2.2.1 hD hS
  refine va_calli (post := fun r' (_ : Unit) => r' = r) (B := fr_End D cl tys w' (va_A w H.size)) (A1 := va_A w H.size) hr hS (fun q _ h => hFc q h) hFc (fun r' u t H1 locs1 ht hvm hw hB hz hk hS1 => ?_)
  obtain ⟨hP1, hK1, hD1⟩ := hB
  rw [ht] at hP1
  subst hw
  exact kk H1 locs1 hP1 (hD1.weaken (fun _ _ _ h => hFc _ h)) hS1
theorem fr_backv (C : fr_Cx p s m args meth c own cc nL ret hh tbl nw D cl tys A) (hD : va_D A w) (hS : va_S A s.heap H locs)
    (hr : va_Run p l e R s m args below meth c H locs cells slots mc ms (F0 m pc ls st0) rest (fr_Qv D cl tys w' (va_A w H.size) As.toArray) (va_A w H.size))
    (kk : ∀ (H : Heap) (locs : List Loc), va_P D cl w' H → va_D A w' → va_S A s.heap H locs → W p l e R s m args below meth c H locs (cells + mc) (slots + ms) Q (F0 m (pc + 3) ls rest)) : W p l e R s m args below meth c H locs cells slots Q (F0 m pc ls st0) := by
  have hFc := fr_free C.2.2.2.2.2.2.2.2.1 hD hS
  refine va_callv (post := fun (_ : Unit) => True) (B := fr_End D cl tys w' (va_A w H.size)) (A1 := va_A w H.size) hr hS (fun q _ h => hFc q h) hFc (fun u t H1 locs1 ht hvm hw hB hz hk hS1 => ?_)
  obtain ⟨hP1, hK1, hD1⟩ := hB
  rw [ht] at hP1
  exact kk H1 locs1 hP1 (hD1.weaken (fun _ _ _ h => hFc _ h)) hS1
theorem fr_callVi (C : fr_Cx p s m args meth c own cc nL ret hh tbl nw D cl tys A) (hP : va_P D cl w H) (hD : va_D A w) (hS : va_S A s.heap H locs) (hM : fr_Mi l y ws rm D cl tys nw (.ref b :: As) w r w' mc ms) (cw : CallW R s args own C0 index y bytes maxL rty ws rm mc ms n)
    (hrecv : ∃ cellB : Cell, H[b]? = some cellB ∧ cellB.vm.isStatics = false ∧ s.vm.findClass C0 = some cellB.cls) (hn : As.length = n) (hsz : ls.size = nL) (hW : (rest.map fun v => v.category).sum ≤ 8) (hdg : decode cc pc = .ok (.invokevirtual index, 3)) (hf : cells + mc ≤ R.cells ∧ slots + ms ≤ R.slots)
    (kk : ∀ (H : Heap) (locs : List Loc), va_P D cl w' H → va_D A w' → va_S A s.heap H locs → W p l e R s m args below meth c H locs (cells + mc) (slots + ms) Q (F0 m (pc + 3) ls (.int r :: rest))) : W p l e R s m args below meth c H locs cells slots Q (F0 m pc ls (As.reverse ++ .ref b :: rest)) :=
  fr_backi C hD hS (va_runV (As := As) (rest := rest) ⟨C.1, C.2.1, C.2.2.1, C.2.2.2.1, C.2.2.2.2.1⟩ (hM H.size) cw ⟨fr_blind, hrecv, fr_pre C hP hD hS⟩ rfl hn hsz rfl (lv_room hW) hdg hf) kk
theorem fr_callVv (C : fr_Cx p s m args meth c own cc nL ret hh tbl nw D cl tys A) (hP : va_P D cl w H) (hD : va_D A w) (hS : va_S A s.heap H locs) (hM : fr_Mv l y ws rm D cl tys nw (.ref b :: As) w w' mc ms) (cw : CallW R s args own C0 index y bytes maxL rty ws rm mc ms n)
    (hrecv : ∃ cellB : Cell, H[b]? = some cellB ∧ cellB.vm.isStatics = false ∧ s.vm.findClass C0 = some cellB.cls) (hn : As.length = n) (hsz : ls.size = nL) (hW : (rest.map fun v => v.category).sum ≤ 8) (hdg : decode cc pc = .ok (.invokevirtual index, 3)) (hf : cells + mc ≤ R.cells ∧ slots + ms ≤ R.slots)
    (kk : ∀ (H : Heap) (locs : List Loc), va_P D cl w' H → va_D A w' → va_S A s.heap H locs → W p l e R s m args below meth c H locs (cells + mc) (slots + ms) Q (F0 m (pc + 3) ls rest)) : W p l e R s m args below meth c H locs cells slots Q (F0 m pc ls (As.reverse ++ .ref b :: rest)) :=
  fr_backv C hD hS (va_runV (As := As) (rest := rest) ⟨C.1, C.2.1, C.2.2.1, C.2.2.2.1, C.2.2.2.2.1⟩ (hM H.size) cw ⟨fr_blind, hrecv, fr_pre C hP hD hS⟩ rfl hn hsz rfl (lv_room hW) hdg hf) kk
theorem fr_callSi (C : fr_Cx p s m args meth c own cc nL ret hh tbl nw D cl tys A) (hP : va_P D cl w H) (hD : va_D A w) (hS : va_S A s.heap H locs) (hM : fr_Mi l y ws rm D cl tys nw As w r w' mc ms) (cw : CallB R s args own index y bytes maxL rty ws rm mc ms n ∧ (Cond.static y).before args s = true)
    (hn : As.length = n) (hsz : ls.size = nL) (hW : (rest.map fun v => v.category).sum ≤ 8) (hdg : decode cc pc = .ok (.invokestatic index, 3)) (hf : cells + mc ≤ R.cells ∧ slots + ms ≤ R.slots)
    (kk : ∀ (H : Heap) (locs : List Loc), va_P D cl w' H → va_D A w' → va_S A s.heap H locs → W p l e R s m args below meth c H locs (cells + mc) (slots + ms) Q (F0 m (pc + 3) ls (.int r :: rest))) : W p l e R s m args below meth c H locs cells slots Q (F0 m pc ls (As.reverse ++ rest)) :=
  fr_backi C hD hS (va_runS (As := As) (rest := rest) ⟨C.1, C.2.1, C.2.2.1, C.2.2.2.1, C.2.2.2.2.1⟩ (hM H.size) cw ⟨fr_blind, fr_pre C hP hD hS⟩ rfl hn hsz rfl (lv_room hW) hdg hf) kk
theorem fr_callSv (C : fr_Cx p s m args meth c own cc nL ret hh tbl nw D cl tys A) (hP : va_P D cl w H) (hD : va_D A w) (hS : va_S A s.heap H locs) (hM : fr_Mv l y ws rm D cl tys nw As w w' mc ms) (cw : CallB R s args own index y bytes maxL rty ws rm mc ms n ∧ (Cond.static y).before args s = true)
    (hn : As.length = n) (hsz : ls.size = nL) (hW : (rest.map fun v => v.category).sum ≤ 8) (hdg : decode cc pc = .ok (.invokestatic index, 3)) (hf : cells + mc ≤ R.cells ∧ slots + ms ≤ R.slots)
    (kk : ∀ (H : Heap) (locs : List Loc), va_P D cl w' H → va_D A w' → va_S A s.heap H locs → W p l e R s m args below meth c H locs (cells + mc) (slots + ms) Q (F0 m (pc + 3) ls rest)) : W p l e R s m args below meth c H locs cells slots Q (F0 m pc ls (As.reverse ++ rest)) :=
  fr_backv C hD hS (va_runS (As := As) (rest := rest) ⟨C.1, C.2.1, C.2.2.1, C.2.2.2.1, C.2.2.2.2.1⟩ (hM H.size) cw ⟨fr_blind, fr_pre C hP hD hS⟩ rfl hn hsz rfl (lv_room hW) hdg hf) kk
theorem fr_callSNi (C : fr_Cx p s m args meth c own cc nL ret hh tbl nw D cl tys A) (hP : va_P D cl w H) (hD : va_D A w) (hS : va_S A s.heap H locs) (hM : fr_Mi l y ws rm D cl tys nw As w r w' mc ms) (cw : va_CN R s args own index y host bytes maxL rty ws rm mc ms n ∧ (Cond.static y).before args s = true ∧ True)
    (hn : As.length = n) (hsz : ls.size = nL) (hW : (rest.map fun v => v.category).sum ≤ 8) (hdg : decode cc pc = .ok (.invokestatic index, 3)) (hf : cells + mc ≤ R.cells ∧ slots + ms ≤ R.slots)
    (kk : ∀ (H : Heap) (locs : List Loc), va_P D cl w' H → va_D A w' → va_S A s.heap H locs → W p l e R s m args below meth c H locs (cells + mc) (slots + ms) Q (F0 m (pc + 3) ls (.int r :: rest))) : W p l e R s m args below meth c H locs cells slots Q (F0 m pc ls (As.reverse ++ rest)) :=
  fr_backi C hD hS (va_runSN (As := As) (rest := rest) ⟨C.1, C.2.1, C.2.2.1, C.2.2.2.1, C.2.2.2.2.1⟩ (hM H.size) cw ⟨fr_blind, fr_pre C hP hD hS⟩ rfl hn hsz rfl (lv_room hW) hdg hf) kk
theorem fr_callINv (C : fr_Cx p s m args meth c own cc nL ret hh tbl nw D cl tys A) (hP : va_P D cl w H) (hD : va_D A w) (hS : va_S A s.heap H locs) (hM : fr_Mv l y ws rm D cl tys nw (.ref b :: As) w w' mc ms) (cw : va_CN R s args own index y host bytes maxL none ws rm mc ms n ∧ y.name = "<init>" ∧ (Cond.instanceMethod y).before args s = true)
    (hn : As.length = n) (hsz : ls.size = nL) (hW : (rest.map fun v => v.category).sum ≤ 8) (hdg : decode cc pc = .ok (.invokespecial index, 3)) (hf : cells + mc ≤ R.cells ∧ slots + ms ≤ R.slots)
    (kk : ∀ (H : Heap) (locs : List Loc), va_P D cl w' H → va_D A w' → va_S A s.heap H locs → W p l e R s m args below meth c H locs (cells + mc) (slots + ms) Q (F0 m (pc + 3) ls rest)) : W p l e R s m args below meth c H locs cells slots Q (F0 m pc ls (As.reverse ++ .ref b :: rest)) :=
  fr_backv C hD hS (va_runIN (As := As) (rest := rest) ⟨C.1, C.2.1, C.2.2.1, C.2.2.2.1, C.2.2.2.2.1⟩ (hM H.size) cw ⟨fr_blind, fr_pre C hP hD hS⟩ rfl hn hsz rfl (lv_room hW) hdg hf) kk
theorem fr_callIv (C : fr_Cx p s m args meth c own cc nL ret hh tbl nw D cl tys A) (hP : va_P D cl w H) (hD : va_D A w) (hS : va_S A s.heap H locs) (hM : fr_Mv l y ws rm D cl tys nw (.ref b :: As) w w' mc ms) (cw : CallB R s args own index y bytes maxL none ws rm mc ms n ∧ y.name = "<init>" ∧ (Cond.instanceMethod y).before args s = true)
    (hn : As.length = n) (hsz : ls.size = nL) (hW : (rest.map fun v => v.category).sum ≤ 8) (hdg : decode cc pc = .ok (.invokespecial index, 3)) (hf : cells + mc ≤ R.cells ∧ slots + ms ≤ R.slots)
    (kk : ∀ (H : Heap) (locs : List Loc), va_P D cl w' H → va_D A w' → va_S A s.heap H locs → W p l e R s m args below meth c H locs (cells + mc) (slots + ms) Q (F0 m (pc + 3) ls rest)) : W p l e R s m args below meth c H locs cells slots Q (F0 m pc ls (As.reverse ++ .ref b :: rest)) :=
  fr_backv C hD hS (va_runI (As := As) (rest := rest) ⟨C.1, C.2.1, C.2.2.1, C.2.2.2.1, C.2.2.2.2.1⟩ (hM H.size) cw ⟨fr_blind, fr_pre C hP hD hS⟩ rfl hn hsz rfl (lv_room hW) hdg hf) kk
end FRB
end
section
/-! THE CLASS's WORLD. Its numbers are one function f: row 0: 0 unitCount, 1 ruleCount, 2 askedCount, 3 verdictCount, 4 refusedCount, 5 text.length; rows 1, 2, 3: a unit's kind, weight, marks; 4, 5, 6, 7: a rule's row, a, b, refusals; 8 the order, 9 what was asked, 10 the signs.
Its addresses are one function al: 0 the object, 1 units, 2 rules, 3 order, 4 asked, 5 the text, 6 its signs, 7 + i unit i, 17 + i rule i. ka: the array classes' numbers: 0 of units, 1 of rules, 2 of ints, 3 of longs. -/
def fr_up (f : Nat → Nat → Int32) (r k : Nat) (v : Int32) : Nat → Nat → Int32 := fun r' k' => if r' = r ∧ k' = k then v else f r' k'
def fr_uc (al : Nat → Nat) (f : Nat → Nat → Int32) (i : Nat) : Nat × va_E := (al (7 + i), .inr (1, [.int (f 1 i), .int (f 2 i), .int (f 3 i)]))
def fr_rc (al : Nat → Nat) (f : Nat → Nat → Int32) (i : Nat) : Nat × va_E := (al (17 + i), .inr (2, [.int (f 4 i), .int (f 5 i), .int (f 6 i), .int (f 7 i)]))
def fr_oc (al : Nat → Nat) (f : Nat → Nat → Int32) : Nat × va_E := (al 0, .inr (0, [.ref (al 1), .int (f 0 0), .ref (al 2), .int (f 0 1), .ref (al 3), .ref (al 4), .int (f 0 2), .ref (al 5), .int (f 0 3), .int (f 0 4)]))
def fr_tc (al : Nat → Nat) (f : Nat → Nat → Int32) : Nat × va_E := (al 5, .inr (3, [.ref (al 6), .int (f 0 5)]))
def fr_ia (c : ClassId) (n a : Nat) (f : Nat → Int32) : Nat × va_E := (a, .inl (c, n, .inl f))
def fr_qa (c : ClassId) (n a : Nat) (g : Nat → Option Nat) : Nat × va_E := (a, .inl (c, n, .inr (.inr (.inr (.inr g)))))
def fr_cw (ka : Nat → ClassId) (al : Nat → Nat) (f : Nat → Nat → Int32) (Z : va_W) : va_W :=
  fr_oc al f :: fr_qa (ka 0) 10 (al 1) (fun i => some (al (7 + i))) :: fr_qa (ka 1) 12 (al 2) (fun i => some (al (17 + i))) :: fr_ia (ka 2) 12 (al 3) (fun j => f 8 j) :: fr_ia (ka 2) 12 (al 4) (fun j => f 9 j) :: fr_tc al f :: fr_ia (ka 2) 200 (al 6) (fun j => f 10 j) ::
    ((List.range 10).map (fr_uc al f) ++ ((List.range 12).map (fr_rc al f) ++ Z))
theorem fr_cw_u {ka : Nat → ClassId} {al : Nat → Nat} {f : Nat → Nat → Int32} {Z : va_W} {i : Nat} (h : i < 10) : (fr_cw ka al f Z)[7 + i]? = some (fr_uc al f i) := by
  rw [show 7 + i = i + 7 from Nat.add_comm _ _]
  show ((List.range 10).map (fr_uc al f) ++ ((List.range 12).map (fr_rc al f) ++ Z))[i]? = _
  rw [List.getElem?_append_left (by simpa using h)]
  simp [List.getElem?_range, h]
theorem fr_cw_r {ka : Nat → ClassId} {al : Nat → Nat} {f : Nat → Nat → Int32} {Z : va_W} {i : Nat} (h : i < 12) : (fr_cw ka al f Z)[17 + i]? = some (fr_rc al f i) := by
  rw [show 17 + i = (i + 10) + 7 from by omega]
  show ((List.range 10).map (fr_uc al f) ++ ((List.range 12).map (fr_rc al f) ++ Z))[i + 10]? = _
  rw [List.getElem?_append_right (by simp), List.getElem?_append_left (by simpa using h)]
  simp [List.getElem?_range, h]
/-- a cell of a row of cells is written: the row of the new numbers -/
theorem fr_map_set {β : Type} (F G : Nat → β) (n i : Nat) (h : i < n) (hne : ∀ j, j ≠ i → F j = G j) : ((List.range n).map F).set i (G i) = (List.range n).map G := by
  apply List.ext_getElem?
  intro j
  by_cases hj : j = i
  · subst hj
    rw [List.getElem?_set_self (by simpa using h)]
    simp [List.getElem?_range, h]
  · rw [List.getElem?_set_ne (Ne.symm hj)]
    simp only [List.getElem?_map]
    by_cases hl : j < n
    · simp [List.getElem?_range, hl, hne j hj]
    · simp [List.getElem?_range, hl]
theorem fr_up_s {f : Nat → Nat → Int32} {r k : Nat} {v : Int32} : fr_up f r k v r k = v := by simp [fr_up]
theorem fr_up_r {f : Nat → Nat → Int32} {r k r' k' : Nat} {v : Int32} (h : r' ≠ r) : fr_up f r k v r' k' = f r' k' := by simp [fr_up, h]
theorem fr_up_k {f : Nat → Nat → Int32} {r k r' k' : Nat} {v : Int32} (h : k' ≠ k) : fr_up f r k v r' k' = f r' k' := by simp [fr_up, h]
/-! NUMBERS -/
theorem fr_t1 {x y : Int32} (h : x < y) : x.toInt < y.toInt := Int32.lt_iff_toInt_lt.mp h
theorem fr_t2 {x y : Int32} (h : ¬ x < y) : y.toInt ≤ x.toInt := by rw [Int32.lt_iff_toInt_lt] at h; omega
theorem fr_t3 {x y : Int32} (h : x ≤ y) : x.toInt ≤ y.toInt := Int32.le_iff_toInt_le.mp h
theorem fr_t4 {x y : Int32} (h : ¬ x ≤ y) : y.toInt < x.toInt := by rw [Int32.le_iff_toInt_le] at h; omega
theorem fr_t5 {x y : Int32} (h : x = y) : x.toInt = y.toInt := by rw [h]
theorem fr_t6 {x y : Int32} (h : ¬ x = y) : x.toInt ≠ y.toInt := fun q => h (Int32.toInt_inj.mp q)
theorem fr_no {P : Prop} {Q : Prop} (h : P) (g : ¬ P) : Q := absurd h g
theorem fr_lt {x : Int32} {n : Nat} (h : vp_in x n) : x.toNatClampNeg < n := Nat.not_le.mp fun q => h (Or.inr q)
theorem fr_clamp {x : Int32} (h : 0 ≤ x.toInt) : (x.toNatClampNeg : Int) = x.toInt := Int.toNat_of_nonneg h
theorem fr_sub1 {x : Int32} (h : 1 ≤ x.toInt) : (x - 1).toInt = x.toInt - 1 := by
  have h1 := x.toInt_lt
  rw [Int32.toInt_sub, show (1 : Int32).toInt = 1 from rfl, Int.bmod_def]
  split <;> omega
theorem fr_add1 {x : Int32} (h0 : 0 ≤ x.toInt) (h : x.toInt < 2147483647) : (x + 1).toInt = x.toInt + 1 := by
  rw [Int32.toInt_add, show (1 : Int32).toInt = 1 from rfl, Int.bmod_def]
  split <;> omega
theorem fr_step {x B : Int32} {b : Int} {n : Nat} (hB : B.toInt = b) (c : ¬ B ≤ x) (h : 0 ≤ x.toInt ∧ x.toInt ≤ b ∧ b < x.toInt + ((n + 1 : Nat) : Int)) : 0 ≤ (x + 1).toInt ∧ (x + 1).toInt ≤ b ∧ b < (x + 1).toInt + (n : Int) := by
  have h1 := fr_t4 c
  have h2 := B.toInt_lt
  have h3 := fr_add1 (x := x) h.1 (by omega)
  omega
theorem fr_start {B : Int32} {k : Int} {n : Nat} (h : 0 ≤ B.toInt ∧ B.toInt ≤ k) (hk : k < (n : Int)) : 0 ≤ (0 : Int32).toInt ∧ (0 : Int32).toInt ≤ B.toInt ∧ B.toInt < (0 : Int32).toInt + (n : Int) := by
  have z : (0 : Int32).toInt = 0 := rfl
  omega
/-- the order's numbers are rules' numbers -/
def fr_ord (f : Nat → Nat → Int32) : Prop := ∀ k : Nat, (k : Int) < (f 0 1).toInt → 1 ≤ (f 8 k).toInt ∧ (f 8 k).toInt ≤ (f 0 1).toInt
/-- at the head of the asking loop -/
def fr_lp (g : Nat → Nat → Int32) (x : Int32) (n : Nat) : Prop := (0 ≤ (g 0 1).toInt ∧ (g 0 1).toInt ≤ 12) ∧ fr_ord g ∧ 0 ≤ (g 0 2).toInt ∧ (g 0 2).toInt ≤ x.toInt ∧ 0 ≤ x.toInt ∧ x.toInt ≤ (g 0 1).toInt ∧ (g 0 1).toInt < x.toInt + (n : Int)
theorem fr_lp_0 {g : Nat → Nat → Int32} {x : Int32} {P : Prop} (h : fr_lp g x 0) : P := by
  obtain ⟨h1, h2, h3, h4, h5, h6, h7⟩ := h
  exact absurd h7 (by omega)
theorem fr_lp_ord {g : Nat → Nat → Int32} {x : Int32} {n : Nat} (h : fr_lp g x n) (c : ¬ g 0 1 ≤ x) : 1 ≤ (g 8 x.toNatClampNeg).toInt ∧ (g 8 x.toNatClampNeg).toInt ≤ (g 0 1).toInt := by
  obtain ⟨h1, h2, h3, h4, h5, h6, h7⟩ := h
  have h8 := fr_t4 c
  exact h2 _ (by rw [fr_clamp h5]; exact h8)
theorem fr_lp_in {f : Nat → Nat → Int32} (gR : 0 ≤ (f 0 1).toInt ∧ (f 0 1).toInt ≤ 12) (gO : fr_ord f) : fr_lp (fr_up f 0 2 0) 0 13 := by
  have z : (0 : Int32).toInt = 0 := rfl
  refine ⟨gR, gO, ?_, ?_, ?_, ?_, ?_⟩
  · show 0 ≤ (0 : Int32).toInt; omega
  · show (0 : Int32).toInt ≤ _; omega
  · omega
  · show _ ≤ (f 0 1).toInt; omega
  · show (f 0 1).toInt < _; omega
theorem fr_lp_a {g : Nat → Nat → Int32} {x : Int32} {n : Nat} (h : fr_lp g x (n + 1)) (c : ¬ g 0 1 ≤ x) : fr_lp g (x + 1) n := by
  obtain ⟨h1, h2, h3, h4, h5, h6, h7⟩ := h
  have h8 := fr_t4 c
  have h9 := fr_add1 (x := x) h5 (by omega)
  exact ⟨h1, h2, h3, by omega, by omega, by omega, by omega⟩
theorem fr_lp_b {g : Nat → Nat → Int32} {x v : Int32} {n k : Nat} (h : fr_lp g x (n + 1)) (c : ¬ g 0 1 ≤ x) : fr_lp (fr_up (fr_up g 9 k v) 0 2 (g 0 2 + 1)) (x + 1) n := by
  obtain ⟨h1, h2, h3, h4, h5, h6, h7⟩ := h
  have h8 := fr_t4 c
  have h9 := fr_add1 (x := x) h5 (by omega)
  have h10 := fr_add1 (x := g 0 2) h3 (by omega)
  have e1 : fr_up (fr_up g 9 k v) 0 2 (g 0 2 + 1) 0 2 = g 0 2 + 1 := rfl
  have e2 : fr_up (fr_up g 9 k v) 0 2 (g 0 2 + 1) 0 1 = g 0 1 := rfl
  refine ⟨h1, h2, ?_, ?_, by omega, ?_, ?_⟩
  · rw [e1]; omega
  · rw [e1]; omega
  · rw [e2]; omega
  · rw [e2]; omega
def fr_row (f : Nat → Nat → Int32) (r : Nat) (h : Nat → Int32) : Nat → Nat → Int32 := fun r' k' => if r' = r then h k' else f r' k'
def fr_ro (g : Nat → Nat → Int32) : Prop := (0 ≤ (g 0 1).toInt ∧ (g 0 1).toInt ≤ 12) ∧ fr_ord g
/-- at the head of the loop over the marks -/
def fr_mk (x : Int32) (n : Nat) : Prop := (x = 1 ∧ 6 ≤ n) ∨ (x = 2 ∧ 5 ≤ n) ∨ (x = 4 ∧ 4 ≤ n) ∨ (x = 8 ∧ 3 ≤ n) ∨ (x = 16 ∧ 2 ≤ n) ∨ (x = 32 ∧ 1 ≤ n)
theorem fr_mk_0 {x : Int32} {P : Prop} (h : fr_mk x 0) : P := by
  rcases h with ⟨-, h⟩ | ⟨-, h⟩ | ⟨-, h⟩ | ⟨-, h⟩ | ⟨-, h⟩ | ⟨-, h⟩ <;> exact absurd h (by omega)
theorem fr_mk_b {x : Int32} {n : Nat} (h : fr_mk x (n + 1)) (c : ¬ 16 < x) : fr_mk (x <<< ((1 : Int32) &&& 31)) n := by
  rcases h with ⟨rfl, h⟩ | ⟨rfl, h⟩ | ⟨rfl, h⟩ | ⟨rfl, h⟩ | ⟨rfl, h⟩ | ⟨rfl, h⟩
  · exact Or.inr (Or.inl ⟨by decide, by omega⟩)
  · exact Or.inr (Or.inr (Or.inl ⟨by decide, by omega⟩))
  · exact Or.inr (Or.inr (Or.inr (Or.inl ⟨by decide, by omega⟩)))
  · exact Or.inr (Or.inr (Or.inr (Or.inr (Or.inl ⟨by decide, by omega⟩))))
  · exact Or.inr (Or.inr (Or.inr (Or.inr (Or.inr ⟨by decide, by omega⟩))))
  · exact absurd (by decide) c
/-- at the head of the loop over the lines -/
def fr_al (g : Nat → Nat → Int32) (x y : Int32) (n : Nat) : Prop := (0 ≤ (g 0 5).toInt ∧ (g 0 5).toInt ≤ 200) ∧ 0 ≤ (g 0 1).toInt ∧ (g 0 1).toInt + (x.toInt - y.toInt) ≤ 12 ∧ 0 ≤ y.toInt ∧ y.toInt ≤ x.toInt ∧ x.toInt < y.toInt + (n : Int)
theorem fr_al_0 {g : Nat → Nat → Int32} {x y : Int32} {P : Prop} (h : fr_al g x y 0) : P := by
  obtain ⟨-, -, -, -, h1, h2⟩ := h
  exact absurd h2 (by omega)
theorem fr_al_in {f : Nat → Nat → Int32} {x : Int32} (gT : 0 ≤ (f 0 5).toInt ∧ (f 0 5).toInt ≤ 200) (gR : 0 ≤ (f 0 1).toInt ∧ (f 0 1).toInt + x.toInt ≤ 12 ∧ 0 ≤ x.toInt) : fr_al f x 0 13 := by
  have z : (0 : Int32).toInt = 0 := rfl
  exact ⟨gT, gR.1, by omega, by omega, by omega, by omega⟩
theorem fr_al_r {g : Nat → Nat → Int32} {x y : Int32} {n : Nat} (h : fr_al g x y n) (c : ¬ x ≤ y) : 0 ≤ (g 0 1).toInt ∧ (g 0 1).toInt < 12 := by
  obtain ⟨-, h1, h2, h3, h4, h5⟩ := h
  have := fr_t4 c
  omega
theorem fr_nv {f : Nat → Nat → Int32} {x3 : Int32} {n : Nat} (gR : 0 ≤ (f 0 1).toInt ∧ (f 0 1).toInt ≤ 12) (hm : 1 ≤ x3.toInt ∧ x3.toInt ≤ (f 0 1).toInt + 1 ∧ (f 0 1).toInt + 1 < x3.toInt + ((n + 1 : Nat) : Int)) (c : ¬ f 0 1 < x3) : 1 ≤ (x3 + 1).toInt ∧ (x3 + 1).toInt ≤ (f 0 1).toInt + 1 ∧ (f 0 1).toInt + 1 < (x3 + 1).toInt + (n : Int) := by
  have h1 := fr_t2 c
  have h2 := fr_add1 (x := x3) (by omega) (by omega)
  omega
end
section
/-! THROWS: a method that returns or throws; the making and throwing of an exception with a written text; its catching by the caller. -/
section FRR
variable {p : Program} {l : Launch} {e : Env} {R : Room} {s : State} {m : MethodId} {args : Array Value} {below : List Frame} {meth : Method} {c : Code} {T : State} {locs : List Loc} {cells slots : Nat}
theorem fr_sbn_base {x b : State} {fs : List Frame} {L : List Loc} {k n : Nat} (h : (x.setFrames fs).sameButNew b L k n) : x.sameButNew b L k n := by
  obtain ⟨h1, h2⟩ := h
  rw [State.setFrames_setFrames] at h1
  exact ⟨h1, h2⟩
/-- the walk stands at T as it would if the method had been entered at T's heap -/
theorem fr_rebase {R' : Room} (X : Stand p l e R s m args below meth c T locs cells slots) (hf : R'.frames ≤ R.frames) (hl : R'.locals ≤ R.locals) (hc : cells + R'.cells ≤ R.cells) (hs : slots + R'.slots ≤ R.slots) : Stand p l e R' (T.setFrames (.invoking m args :: below)) m args below meth c T [] 0 0 := by
  obtain ⟨g₀, hfr⟩ := X.frames_eq
  have hcur := State.cur_lt_of_frames hfr
  have hF : (T.setFrames (.invoking m args :: below)).frames = .invoking m args :: below := State.frames_setFrames _ hcur
  have hm : (T.setFrames (.invoking m args :: below)).vm.method? m = some meth := X.method'
  obtain ⟨t, ht, -⟩ := State.frames_cons hF
  obtain ⟨t0, ht0, -⟩ := State.frames_cons hfr
  refine ⟨X.admits, X.cas, X.clock, hF, ?_, ?_, hm, X.code, X.here, X.tail, State.WarmedH.refl (T.setFrames (.invoking m args :: below)), by rw [State.stackLimits_setFrames], by rw [State.stackBytes_setFrames], ?_⟩
  · have h := X.room
    have h1 := X.heapSize
    have h2 := X.used
    have h3 := X.book
    have h4 : (T.setFrames (.invoking m args :: below)).localsInUse = s.localsInUse := by
      rw [State.localsInUse_invoking X.frames X.method X.code, State.localsInUse_invoking hF hm X.code]
    have h5 : (T.setFrames (.invoking m args :: below)).me.stackBytes = s.me.stackBytes := by rw [State.stackBytes_setFrames]; exact X.bytes
    have h6 : e.platform.stackLimits (T.setFrames (.invoking m args :: below)).me = e.platform.stackLimits s.me := by rw [State.stackLimits_setFrames]; exact X.limits
    have h7 : (T.setFrames (.invoking m args :: below)).frames.length = s.frames.length := by rw [hF, X.frames]
    have h8 : (T.setFrames (.invoking m args :: below)).slotsTrue = true := h3
    have h9 : (T.setFrames (.invoking m args :: below)).heap.size = T.heap.size := rfl
    have h10 : (T.setFrames (.invoking m args :: below)).slotsUsed = T.slotsUsed := rfl
    simp only [State.hasRoom, Bool.and_eq_true, decide_eq_true_eq] at h ⊢
    rw [h4, h5, h6, h7, h9, h10]
    obtain ⟨⟨⟨⟨a1, a2, a3, a4, a5, a6⟩, a7⟩, a8⟩, a9⟩ := h
    exact ⟨⟨⟨⟨by omega, by omega, by omega, by omega, by omega, a6⟩, by omega⟩, by omega⟩, h8⟩
  · have h := X.hears
    have hw := X.warmed.alike
    have hmT : T.vm.method? m = some meth := X.method'
    cases below with
    | nil => simpa [State.hears, State.setFrames, hmT, X.method] using h
    | cons q r => cases q <;> simpa [State.hears, State.setFrames, hmT, X.method, State.code?_eq, hw.method?] using h
  · have h := (State.sameButNew.refl (T.setFrames (.invoking m args :: below)) ht).setFrames T.frames (by simpa [State.setFrames] using hcur)
    rw [State.setFrames_setFrames, State.setFrames_self ht0] at h
    exact h
end FRR
section FRX
variable {p : Program} {l : Launch} {e : Env} {R : Room} {s : State} {m : MethodId} {args : Array Value} {below : List Frame} {meth : Method} {c : Code} {H : Heap} {locs : List Loc} {cells slots : Nat} {Q : State → Prop}
variable {D : va_G} {cl : List vw_C} {tys : List (ClassId × FieldType)} {A : Nat → Prop} {nw tbl : List Cond}
/-- a method that returns (x = none) or throws an exception of class E (x = some E); in both cases the cells are w' -/
def fr_Ox (Qn : Array Value → State → Outcome → State → Prop) (D : va_G) (cl : List vw_C) (tys : List (ClassId × FieldType)) (x : Option String) (w : va_W) (mc ms : Nat) (A : Nat → Prop) (a : Array Value) (st : State) (o : Outcome) (t : State) : Prop :=
  (x = none ∧ Qn a st o t ∧ ∃ L, FrameEnd st o t L mc ms ∧ ∀ q ∈ L, A q.base) ∨
  (∃ (E : String) (q : Addr) (ce : Cell) (L : List Loc), x = some E ∧ o = .threw q ∧ t.heap[q]? = some ce ∧ ce.vm = .none ∧ st.vm.findClass E = some ce.cls ∧ st.WarmedH t.vm ∧ st.sameButNew ({ t with vm := st.vm } : State) L mc ms ∧ (∀ z ∈ L, A z.base) ∧ fr_End D cl tys w A () t ∧ va_F A st t)
def fr_Mx (Qn : Int32 → va_W → (Nat → Prop) → Array Value → State → Outcome → State → Prop) (l : Launch) (y : MethodName) (ws : List Cond) (rm : Room) (D : va_G) (cl : List vw_C) (tys : List (ClassId × FieldType)) (nw : List Cond) (As : List Value) (w : va_W) (x : Option String) (r : Int32) (w' : va_W) (mc ms : Nat) : Prop :=
  ∀ sz : Nat, MetFree l y (headSpec ws rm) (va_Pc As (fr_Pre D cl tys nw w sz)) (fun _ _ _ _ _ => True) (fr_Ox (Qn r w' (va_A w sz)) D cl tys x w' mc ms (va_A w sz))
def fr_XQ (below : List Frame) (Qn : Array Value → State → Outcome → State → Prop) (D : va_G) (cl : List vw_C) (tys : List (ClassId × FieldType)) (x : Option String) (w : va_W) (a : Array Value) (s : State) (mc ms : Nat) (A : Nat → Prop) : State → Prop := fun t =>
  ∃ o, t.status = .running ∧ Ended t below o ∧ fr_Ox Qn D cl tys x w mc ms A a s o t
/-- a returning road in a method that may throw -/
theorem fr_xret {Qn : Array Value → State → Outcome → State → Prop} {x : Option String} {w : va_W} {mc ms : Nat} {g : JFrame} (hx : x = none) (k : W p l e R s m args below meth c H locs cells slots (MQ below Qn args s mc ms A) g) : W p l e R s m args below meth c H locs cells slots (fr_XQ below Qn D cl tys x w args s mc ms A) g := by
  intro T hT X
  obtain ⟨t, h1, o, h2, h3, h4, h5⟩ := k T hT X
  exact ⟨t, h1, o, h2, h3, Or.inl ⟨hx, h4, h5⟩⟩
theorem fr_Mx.of {Qn : Int32 → va_W → (Nat → Prop) → Array Value → State → Outcome → State → Prop} {y : MethodName} {rm : Room} {As : List Value} {w : va_W} {x : Option String} {r : Int32} {w' : va_W} {mc ms : Nat} {cc : ByteArray} {maxL : Nat} {ret : Option FieldType} (hy : plainName y.cls = true) (hnL : (lg_sl As).length ≤ maxL)
    (body : ∀ (p : Program) (e : Env) (s : State) (m : MethodId) (below : List Frame) (meth : Method) (c : Code) (A : Nat → Prop) (H : Heap) (locs : List Loc) (ls : Array Slot), fr_Cx p s m As.toArray meth c y.cls cc maxL ret [] tbl nw D cl tys A → va_P D cl w H → va_D A w → va_S A s.heap H locs → lv_has ls maxL (lv_args 0 As) →
      W p l e rm s m As.toArray below meth c H locs 0 0 (fr_XQ below (Qn r w' A) D cl tys x w' As.toArray s mc ms A) (F0 m 0 ls [])) : fr_Mx Qn l y (.code y cc maxL ret :: tbl) rm D cl tys nw As w x r w' mc ms := by
  intro sz
  refine MetFree.of_bodyS (code := cc) (maxLocals := maxL) (ret := ret) hy ?_ ?_
  · intro args s m h hn
    obtain ⟨meth, c, h1, h2, h3, h4, h5, h6, -, -⟩ := Cond.code_spec hn (atoms_spec (ws := .code y cc maxL ret :: tbl) h _ List.mem_cons_self)
    exact ⟨meth, c, h1, h2, h3, h4, h5, h6⟩
  · intro p e s m args below meth c s₁ B hml hv _
    obtain ⟨rfl, hsz, hP, hK, hD0, hN, hZ⟩ := hv
    subst hsz
    have hts := atoms_spec (ws := .code y cc maxL ret :: tbl) B.pre
    have hh0 : s₁.heap = s.heap := by rw [B.state]; rfl
    have K := body p e s m below meth c (va_A w s.heap.size) s.heap [] _ ⟨B.exec, B.bytes, hml, findClass_of_methodNamed B.named, fun z hz => hts z (List.mem_cons_of_mem _ hz), hK, B.notSynchronized, B.returns, fun q h => Or.inr h, hN, hZ, fr_noHandlers (B.noHandlers (hts _ List.mem_cons_self))⟩ hP hD0.self va_S.rf (lv_entry As hnL)
    rw [← lg_entry_eq] at K
    obtain ⟨t, a1, o, b1, b2, b3⟩ := K s₁ hh0 (Stand.of_body B)
    exact ⟨t, o, a1, b1, b2, b3⟩
theorem fr_Mx_none {y : MethodName} {ws : List Cond} {rm : Room} {As : List Value} {w : va_W} {x : Option String} {r : Int32} {w' : va_W} {mc ms : Nat} (h : fr_Mx (fr_Qi D cl tys) l y ws rm D cl tys nw As w x r w' mc ms) (hx : x = none) : fr_Mi l y ws rm D cl tys nw As w r w' mc ms := by
  intro sz p e ha hc hk s m args below hf happ hP hK
  obtain ⟨n, o, h1, h2, h3, h4⟩ := h sz p e ha hc hk s m args below hf happ hP hK
  refine ⟨n, o, h1, h2, h3, ?_⟩
  rcases h4 with ⟨-, h4, h5⟩ | ⟨E, q, ce, L, hE, -⟩
  · exact ⟨h4, h5⟩
  · rw [hx] at hE; cases hE
theorem fr_Mx_nonev {y : MethodName} {ws : List Cond} {rm : Room} {As : List Value} {w : va_W} {x : Option String} {r : Int32} {w' : va_W} {mc ms : Nat} (h : fr_Mx (fun _ => fr_Qv D cl tys) l y ws rm D cl tys nw As w x r w' mc ms) (hx : x = none) : fr_Mv l y ws rm D cl tys nw As w w' mc ms := by
  intro sz p e ha hc hk s m args below hf happ hP hK
  obtain ⟨n, o, h1, h2, h3, h4⟩ := h sz p e ha hc hk s m args below hf happ hP hK
  refine ⟨n, o, h1, h2, h3, ?_⟩
  rcases h4 with ⟨-, h4, h5⟩ | ⟨E, q, ce, L, hE, -⟩
  · exact ⟨h4, h5⟩
  · rw [hx] at hE; cases hE
def fr_z4 : List Cond := [.laysStatic Bundle.tN "UNASSIGNED_STACK" Bundle.steD, .laysStatic Bundle.tN "SUPPRESSED_SENTINEL" Bundle.listD, .isRef (.static Bundle.tN "UNASSIGNED_STACK" Bundle.steD), .isRef (.static Bundle.tN "SUPPRESSED_SENTINEL" Bundle.listD)]
theorem fr_z4_at {A : Nat → Prop} {U : State} (h : fr_zz A U U.heap) : ∀ w ∈ fr_z4, w.before args U = true := by
  intro w hw
  simp only [fr_z4, List.mem_cons, List.not_mem_nil, or_false] at hw
  rcases hw with rfl | rfl | rfl | rfl
  · exact h.1.lays
  · exact h.2.lays
  · exact h.1.isRef
  · exact h.2.isRef
variable {cc : ByteArray} {nL pc : Nat} {ls : Array Slot} {st : List Value} {own : String} {ret : Option FieldType} {hh : List ExceptionTableEntry}
set_option maxHeartbeats 1000000 in
/-- throw new E("a written text"), from its 'new' to the method's end -/
theorem fr_throwS {E tx : String} {names : List String} {ik is ic sa : Nat} (C : fr_Cx p s m args meth c own cc nL ret [] tbl nw D cl tys A) (hsz : ls.size = nL) (hl : l.stackTraces = false) (hcls : Bundle.fit E = true) (hnames : ∀ n ∈ names, Bundle.fit n = true) (hS : va_S A s.heap H locs)
    (hcl : (Cond.classLink own ik E).before args s = true) (hins : (Cond.instantiable E 6).before args s = true) (hini : (Cond.initialized E).before args s = true)
    (hg0 : goodWord (.classLink own ik E) = true ∧ goodWord (.instantiable E 6) = true ∧ goodWord (.initialized E) = true)
    (hgt : ∀ w ∈ tbl, goodWord w = true) (hat : ∀ w ∈ Bundle.ownAtoms own ic E names, w ∈ tbl ∨ (w ∈ nw ∧ w.onTables = true) ∨ w ∈ fr_z4) (hR : vk_R own is tx sa s)
    (hf1 : names.length + 3 < R.frames) (hf2 : 1 + (st.map fun v => v.category).sum + (13 * (names.length + 1) + 42) ≤ R.locals) (hf3 : cells + 1 ≤ R.cells) (hf4 : slots + 6 ≤ R.slots)
    (d0 : decode cc pc = .ok (.new ik, 3)) (d3 : decode cc (pc + 3) = .ok (.dup, 1)) (d4 : decode cc (pc + 4) = .ok (.ldc is, 2)) (d6 : decode cc (pc + 6) = .ok (.invokespecial ic, 3)) (d9 : decode cc (pc + 9) = .ok (.athrow, 1))
    (hQ : ∀ (t : State) (q : Addr) (ce : Cell), t.status = .running → Ended t below (.threw q) → t.heap[q]? = some ce → ce.vm = .none → s.vm.findClass E = some ce.cls → s.WarmedH t.vm → s.sameButNew ({ t with vm := s.vm } : State) locs (cells + 1) (slots + 6) → (∀ (a : Addr) (cell : Cell), H[a]? = some cell → t.heap[a]? = some cell) → H.size ≤ t.heap.size → Q t) :
    W p l e R s m args below meth c H locs cells slots Q (F0 m pc ls st) := by
  obtain ⟨hx, hb, hml, hown, ht, hK, hlocks, hr, hA, hN, hZ, hT0⟩ := C
  intro T hT X
  have hout : ∀ x ∈ c.exceptionTable.toList, covers x (pc + 9) = false := by rw [hT0]; intro x hx; cases hx
  have htr : e.platform.stackTraces = false := by rw [X.admits.platform]; exact hl
  have X' := fr_rebase (R' := { frames := R.frames, cells := 1, slots := 6, locals := R.locals }) X (Nat.le_refl _) (Nat.le_refl _) hf3 hf4
  have hZ' : fr_zz A (T.setFrames (.invoking m args :: below)) T.heap := by
    rw [hT]
    exact ⟨(hZ.1.kept hS.2.1).moved X.warmed.alike, (hZ.2.kept hS.2.1).moved X.warmed.alike⟩
  have word : ∀ w : Cond, goodWord w = true → w.before args s = true → w.before args (T.setFrames (.invoking m args :: below)) = true := fun w hg hw => word_at (U := T.setFrames (.invoking m args :: below)) X.warmed (good_of_word hg) hw
  have hat' : ∀ w ∈ Bundle.ownAtoms own ic E names, w.before args (T.setFrames (.invoking m args :: below)) = true := by
    intro w hw
    rcases hat w hw with h1 | ⟨h1, h2⟩ | h1
    · exact word w (hgt w h1) (ht w h1)
    · exact va_Nw.use h2 (fr_nest_warm (hN w h1).1 (U := T.setFrames (.invoking m args :: below)) X.warmed (hN w h1).2)
    · exact fr_z4_at hZ' w h1
  have hown' : (T.setFrames (.invoking m args :: below)).vm.findClass own = some m.cls := by
    show T.vm.findClass own = some m.cls
    rw [X.warmed.alike.findClass]; exact hown
  have K : W p l e { frames := R.frames, cells := 1, slots := 6, locals := R.locals } (T.setFrames (.invoking m args :: below)) m args below meth c T.heap [] 0 0 Q (F0 m pc ls st) := by
    refine W.newc hx hb hown' (word _ hg0.1 hcl) (word _ hg0.2.1 hins) (word _ hg0.2.2 hini) rfl d0 (Nat.le_refl _) (Nat.le_refl _) (fun cC kC h1 h2 h3 h4 => ?_)
    refine W.eq (g2 := F0 m (pc + 3) ls (.ref T.heap.size :: st)) rfl ?_
    refine lv_dup hx hb d3 rfl ?_
    refine va_ldcS hx hb hown' (tx := tx) (q := sa) (vk_R.warm X.warmed hR) d4 ?_
    intro T2 hT2 X2
    obtain ⟨U, hst, hrun, hend, hW, hsame, ce, hce, hOwn⟩ := X2.ctorThrowS hx htr (own := own) (cls := E) (names := names) (ic := ic) hown' hcls hnames hat' (fun x hx => by cases hx) h1 h2 (a := T.heap.size) (by rw [hT2]; simp [freshCell]) (Nat.le_refl _) (msg := .ref sa) rfl
      (g := F0 m (pc + 6) ls (.ref sa :: .ref T.heap.size :: .ref T.heap.size :: st)) rfl (hsz.trans hml.symm) rfl rfl (rest := st) rfl (by rw [hb]; exact d6) (by rw [hb]; exact d9) hout hf1 (by simpa [Value.category, JFrame.monitorRoom] using hf2) hlocks
    have hsame' : T.sameButNew ({ U with vm := T.vm } : State) [] 1 6 := fr_sbn_base hsame
    refine ⟨U, hst, hQ U T.heap.size ce hrun hend hce hOwn.vm ?_ (State.WarmedH.trans X.warmed hW) ?_ ?_ ?_⟩
    · rw [← X.warmed.alike.findClass]; exact hOwn.cls
    · have h := X.same.trans (hsame'.setVm s.vm)
      rw [List.append_nil] at h
      exact h
    · intro a cell ha
      rw [← hT] at ha
      exact State.sameButNew.old_cell hsame' ha
    · rw [← hT]
      exact hsame'.2.1
  exact K T rfl X'
/-- the end of such a road, as a contract has it -/
theorem fr_xthrow {Qn : Array Value → State → Outcome → State → Prop} {E : String} {x : Option String} {w : va_W} {mc ms : Nat} (hx : x = some E) (hK : va_K D cl tys s) (hP : va_P D cl w H) (hD : va_D A w) (hS : va_S A s.heap H locs) (hc : mc = cells + 1) (hs : ms = slots + 6) :
    ∀ (t : State) (q : Addr) (ce : Cell), t.status = .running → Ended t below (.threw q) → t.heap[q]? = some ce → ce.vm = .none → s.vm.findClass E = some ce.cls → s.WarmedH t.vm → s.sameButNew ({ t with vm := s.vm } : State) locs (cells + 1) (slots + 6) → (∀ (a : Addr) (cell : Cell), H[a]? = some cell → t.heap[a]? = some cell) → H.size ≤ t.heap.size → fr_XQ below Qn D cl tys x w args s mc ms A t := by
  subst hc; subst hs
  intro t q ce h1 h2 h3 h4 h5 h6 h7 h8 h9
  have hk : ∀ a : Nat, a < H.size → t.heap[a]? = H[a]? := fun a ha => by
    have e1 : H[a]? = some (H[a]) := Array.getElem?_eq_getElem ha
    rw [e1]; exact h8 a _ e1
  refine ⟨.threw q, h1, h2, Or.inr ⟨E, q, ce, locs, hx, rfl, h3, h4, h5, h6, h7, hS.2.2, ⟨?_, va_K.moved h6.alike hK, hD⟩, ?_⟩⟩
  · exact hP.kept (fun k z hz => hk z.1 (hP k z hz).lt)
  · exact ⟨Nat.le_trans hS.1 h9, fun a h10 h11 => by rw [hk a (Nat.lt_of_lt_of_le h10 hS.1)]; exact hS.2.1 a h10 h11⟩
end FRX
/-! An exception whose constructor's own link is another entry than 7 (NoSuchElementException(String): 13): the library's ctorThrowS speaks of the entry 7 alone. The same road, its first step told by its own bytes. -/
def fr_oat (own : String) (ic : Nat) (X Y : String) (names : List String) (i0 : Nat) (b0 : ByteArray) : List Cond :=
  Bundle.throwableAtoms ++ Bundle.throwableSAtoms ++ Bundle.passSAtoms X Y i0 b0 ++ Bundle.chainSAtoms Y names ++
  [.methodLink own ic (Bundle.initS X), .instantiable X 6, .selects X Bundle.tFill0 Bundle.tFill0, .selects X Bundle.tFill Bundle.tFill,
   .lays X Bundle.tN "cause" "Ljava/lang/Throwable;", .lays X Bundle.tN "stackTrace" Bundle.steD, .lays X Bundle.tN "suppressedExceptions" Bundle.listD, .lays X Bundle.tN "detailMessage" "Ljava/lang/String;",
   .isRef (.static Bundle.tN "UNASSIGNED_STACK" Bundle.steD), .isRef (.static Bundle.tN "SUPPRESSED_SENTINEL" Bundle.listD),
   .fieldLink Bundle.tN 198 Bundle.tN "backtrace" "Ljava/lang/Object;", .lays Bundle.tN Bundle.tN "backtrace" "Ljava/lang/Object;", .lays X Bundle.tN "backtrace" "Ljava/lang/Object;"]
section FRK
variable {p : Program} {l : Launch} {e : Env} {R : Room} {s : State} {m : MethodId} {args : Array Value} {below : List Frame} {meth : Method} {c : Code} {T : State} {cells slots : Nat}
theorem fr_fill {pl : Platform} {X : String} {y : MethodName} {cX : ClassId} {f : MethodId} (ha : l.admits e) (hf : s.vm.findClass X = some cX) (hy : y.cls ≠ "java/lang/invoke/MethodHandle" ∧ y.cls ≠ "java/lang/invoke/VarHandle") (hn : s.methodNamed? y = some f) (h : (Cond.selects X y y).before args s = true) : selectMethod e.platform s.vm cX f = .method f := by
  obtain ⟨c2, r2, m2, q1, q2, q3, q4, -⟩ := Cond.selects_spec h
  cases Option.some.inj (q1.symm.trans hf)
  cases Option.some.inj (q2.symm.trans (State.methodFound?_of_named hn hy))
  cases Option.some.inj (q3.symm.trans hn)
  rw [Launch.admits_selectMethod ha]; exact q4
set_option maxHeartbeats 1000000 in
theorem fr_ctor13 {own X Y : String} {names : List String} {ic i0 : Nat} {b0 : ByteArray} (St : Stand p l e R s m args below meth c T [] cells slots) (hexec : p.tables.exec = Jvm.exec) (htr : e.platform.stackTraces = false) (hown : s.vm.findClass own = some m.cls) (hX : Bundle.fit X = true) (hY : Bundle.fit Y = true) (hnames : ∀ n ∈ names, Bundle.fit n = true)
    (k0 : decode b0 0 = .ok (.aload_n 0, 1)) (k1 : decode b0 1 = .ok (.aload_n 1, 1)) (k2 : decode b0 2 = .ok (.invokespecial i0, 3)) (k5 : decode b0 5 = .ok (.return_, 1))
    (h : ∀ w ∈ fr_oat own ic X Y names i0 b0, w.before args s = true) {a : Addr} {cX : ClassId} {kX : Class} (hfX : s.vm.findClass X = some cX) (hkX : s.vm.classes[cX]? = some kX) (hcell : T.heap[a]? = some (freshCell cX kX)) (hnew : s.heap.size ≤ a) {msg : Value} (hmsg : msg.isRef = true)
    {g : JFrame} (hg : g.method = m) (hsize : g.locals.size = c.maxLocals) (hlocked : g.locked = none) (hentered : g.entered = []) {rest : List Value} (hstack : g.stack = msg :: .ref a :: .ref a :: rest)
    (d6 : decode c.code g.pc = .ok (.invokespecial ic, 3)) (d9 : decode c.code (g.pc + 3) = .ok (.athrow, 1)) (hout : ∀ x ∈ c.exceptionTable.toList, covers x (g.pc + 3) = false)
    (hf1 : names.length + 4 < R.frames) (hf2 : 2 * g.monitorRoom + ((Value.ref a :: rest).map fun v => v.category).sum + (13 * (names.length + 2) + 42) ≤ R.locals) (hlocks : meth.locks = false) :
    ∃ U : State, Steps p.tables e below (T.setTop g) U ∧ U.status = .running ∧ Ended U below (.threw a) ∧ s.WarmedH U.vm ∧ s.sameButNew ({ U with vm := s.vm } : State) [] cells slots ∧ ∃ ce, U.heap[a]? = some ce ∧ ce.vm = .none ∧ s.vm.findClass X = some ce.cls := by
  have howns : e.platform.frameOwnsMonitors = true := by rw [St.admits.platform]
  have hfin : e.platform.finalization = false := by rw [St.admits.platform]
  have hpl : e.platform.magicAccessors = ({} : Platform).magicAccessors := by rw [St.admits.platform]
  obtain ⟨Tc, Z0, L, -, Ys⟩ := ThrowableC.of_atoms (args := args) howns hfin hpl (fun x hx => h x (by simp [fr_oat, hx]))
  obtain ⟨Z, M, LZ, LM, hnZ⟩ := Init0T.ofS_atoms (args := args) hpl L Ys (fun x hx => h x (by simp [fr_oat, hx]))
  obtain ⟨P1, Ps, hlen, L1, hL, hP1m, hlink1, hlink⟩ := Bundle.chainS (args := args) hpl hnZ names Y hY hnames (fun x hx => h x (by simp [fr_oat, hx]))
  obtain ⟨P, LP, hPm, hPs⟩ := PassC.ofS_atoms (args := args) (s := s) hpl (X := X) (Y := Y) (Bundle.fit_spec hX).1 (Bundle.fit_spec hY).2 k0 k1 k2 k5 (fun x hx => h x (by simp [fr_oat, hx]))
  have hPsup : P.sup = P1.m := Option.some.inj (hPs.symm.trans hP1m)
  have hfound : s.vm.findClass X = some P.m.cls := findClass_of_methodNamed hPm
  cases Option.some.inj (hfX.symm.trans hfound)
  obtain ⟨c1, kX', hc1, hk, hord, -, -, hn6⟩ := Cond.instantiable_spec (h (.instantiable X 6) (by simp [fr_oat]))
  cases Option.some.inj (hc1.symm.trans hfound)
  cases Option.some.inj (hkX.symm.trans hk)
  have hsel0 := fr_fill (pl := e.platform) (args := args) St.admits hfound (by decide) Ys.fill0 (h (.selects X Bundle.tFill0 Bundle.tFill0) (by simp [fr_oat]))
  have hselF := fr_fill (pl := e.platform) (args := args) St.admits hfound (by decide) Ys.fill (h (.selects X Bundle.tFill Bundle.tFill) (by simp [fr_oat]))
  obtain ⟨cellS, hcS, hiss⟩ := Ys.statics
  obtain ⟨u0, hu0⟩ := Cond.staticRefV Ys.unassigned L.unassignedStatic L.statics hcS hiss (h (.isRef (.static Bundle.tN "UNASSIGNED_STACK" Bundle.steD)) (by simp [fr_oat]))
  obtain ⟨sen, hsen⟩ := Cond.staticRefV Ys.sentinel L.sentinelStatic L.statics hcS hiss (h (.isRef (.static Bundle.tN "SUPPRESSED_SENTINEL" Bundle.listD)) (by simp [fr_oat]))
  obtain ⟨ci198, i198, fB, hk198, hg198, ha198, hsB, -, hnB, htB, hffB⟩ := Cond.ownField (t := .object "java/lang/Object") Ys.found L.cls (by decide +kernel) (h (.fieldLink Bundle.tN 198 Bundle.tN "backtrace" "Ljava/lang/Object;") (by simp [fr_oat])) (h (.lays Bundle.tN Bundle.tN "backtrace" "Ljava/lang/Object;") (by simp [fr_oat])) e.platform hpl
  have hcellS : T.heap[Tc.aS]? = some cellS := State.sameButNew.old_cell (s' := T.setVm s.vm) St.same hcS
  have hknownS : cellS.vm ≠ .unknown := by
    intro hu
    rw [hu] at hiss
    cases hiss
  have hneS : Tc.aS ≠ a := Nat.ne_of_lt (Nat.lt_of_lt_of_le (Array.getElem?_eq_some_iff.mp hcS).1 hnew)
  obtain ⟨iM, hffM⟩ := Ys.msg
  obtain ⟨tyC, dC, hdC, hdnC⟩ := Cond.laysAt hfound hk Ys.cause (h (.lays X Bundle.tN "cause" "Ljava/lang/Throwable;") (by simp [fr_oat]))
  obtain ⟨tyS, dS, hdS, hdnS⟩ := Cond.laysAt hfound hk Ys.stack (h (.lays X Bundle.tN "stackTrace" Bundle.steD) (by simp [fr_oat]))
  obtain ⟨tyP, dP, hdP, hdnP⟩ := Cond.laysAt hfound hk Ys.supp (h (.lays X Bundle.tN "suppressedExceptions" Bundle.listD) (by simp [fr_oat]))
  obtain ⟨tyM, -, -, -⟩ := Cond.laysAt hfound hk hffM (h (.lays X Bundle.tN "detailMessage" "Ljava/lang/String;") (by simp [fr_oat]))
  obtain ⟨tyB, dB, hdB, hdnB⟩ := Cond.laysAt hfound hk hffB (h (.lays X Bundle.tN "backtrace" "Ljava/lang/Object;") (by simp [fr_oat]))
  have bC := Cond.laysApart hdB hdC hdnB hdnC (by rw [hnB, Ys.causeName]; decide)
  have bS := Cond.laysApart hdB hdS hdnB hdnS (by rw [hnB, Ys.stackName]; decide)
  have bP := Cond.laysApart hdB hdP hdnB hdnP (by rw [hnB, Ys.suppName]; decide)
  have hskip : SkipFacts Tc e.platform s (fun u => u) u0 ((preparedCellV Tc.toThrowableT (freshCell P.m.cls kX) a u0 sen).withEntry T.cur) :=
    ⟨{ ci198 := ci198, i198 := i198, fBack := fB }, ⟨hk198, hg198, ha198, hsB⟩, by
      have := fresh_default (c := P.m.cls) tyB
      rw [htB] at this
      simpa [preparedCellV, Cell.setSlot, Cell.withEntry, Array.getElem?_setIfInBounds, bC, bS, bP, bC.symm, bS.symm, bP.symm, defaultValue] using this, fun _ _ => rfl⟩
  obtain ⟨tm, methC, cdC, kC, vm₁, hnC, -, -, -, -, -, -, -, hW₁, st1⟩ := Steps.initColdS (tb := p.tables) (e := e) (below := below) (s := s) (U := T) St.here hexec St.warmed hpl hown (t := Bundle.initS X) rfl rfl (Bundle.fit_spec hX).2
    (h (.methodLink own ic (Bundle.initS X)) (by simp [fr_oat])) (h (.instanceMethod (Bundle.initS X)) (by simp [fr_oat, Bundle.passSAtoms])) (bytes := b0) (maxL := 2) (h (.code (Bundle.initS X) b0 2 none) (by simp [fr_oat, Bundle.passSAtoms]))
    (f := g) hg (a := a) (msg := msg) (rest := .ref a :: rest) hstack d6
  cases Option.some.inj (hnC.symm.trans hPm)
  obtain ⟨vm₂, X₂, st2⟩ := (St.noted hW₁).ctorMessageOffV hexec (g := { g with stack := .ref a :: rest }) hg hsize Tc L Z LZ M LM (P :: P1 :: Ps)
    (fun Q hQ => by
      rcases List.mem_cons.mp hQ with rfl | hQ
      · exact LP
      · rcases List.mem_cons.mp hQ with rfl | hQ
        · exact L1
        · exact hL Q hQ) ⟨hPsup, hlink1, hlink⟩ (u0 := u0) (sen := sen) (self := a) hmsg (cell := freshCell P.m.cls kX) (cellS := cellS)
    hcell (fun _ => by simp) (by simp) rfl rfl hsel0 hselF hcellS hneS hknownS hu0 hsen
    (Takes.of_laid hk hord tyC (by rw [Ys.causeType]; rfl)) (Takes.of_laid hk hord tyS (by rw [Ys.stackType]; exact fits_refV_array _ u0)) (Takes.of_laid hk hord tyP (by rw [Ys.suppType]; exact fits_refV_object _ sen))
    (Takes.of_laid hk hord tyM (by rw [Ys.msgType]; exact fits_refV_object _ ⟨msg, hmsg⟩)) Ys.objLocals hskip htr [] d6
    (by simp only [List.length_cons, hlen]; omega) (by simp only [List.length_cons, hlen]; exact hf2)
  obtain ⟨hwalk, hrun, hended, hWU, hsame⟩ := X₂.athrowLeaves hexec (g := { g with stack := .ref a :: rest, pc := g.pc + 3 }) hg hlocked hentered hout (a := a) (rest := rest) rfl d9 hlocks
  have hlt : a < ((T.setVm vm₁).setVm vm₂).heap.size := (Array.getElem?_eq_some_iff.mp hcell).1
  have hU := heapAt_setCell_self (s := (T.setVm vm₁).setVm vm₂) (plainBareV Tc.toThrowableT (freshCell P.m.cls kX) a u0 sen msg) hlt
  refine ⟨_, st1 _ (fun acts => ?_), hrun, hended, hWU, hsame.weaken (fun y hy hlt' => ?_) (Nat.le_refl _) (Nat.le_refl _), _, hU, rfl, hfound⟩
  · rw [doInvoke_state]
    exact st2 _ hwalk
  · exfalso
    have hb : y.base = a := by
      simp only [List.nil_append, List.mem_cons, List.not_mem_nil, or_false] at hy
      rcases hy with rfl | rfl | rfl | rfl | rfl <;> rfl
    rw [hb] at hlt'
    exact Nat.not_lt.mpr hnew hlt'
end FRK
end
