section
-- ===== PART A: goes FIRST, ahead of the names: the tables' words, and 'selects' of the private methods out of them =====
/-- a private method of a class that the tables say can be made, by its rows of tables_1 -/
def lw_okq (q : MethodName × Nat) : Prop := (q.1.cls ≠ "java/lang/invoke/MethodHandle" ∧ q.1.cls ≠ "java/lang/invoke/VarHandle") ∧ Cond.instantiable q.1.cls q.2 ∈ tables_1 ∧ Cond.privateMethod q.1 ∈ tables_1 ∧ Cond.instanceMethod q.1 ∈ tables_1
theorem lw_p0 : lw_okq (⟨"CoinStrings$Grouping", "leaderOf", "(I)I"⟩, 2) := ⟨⟨by decide +kernel, by decide +kernel⟩, List.mem_of_getElem? (i := 86) (by decide +kernel), List.mem_of_getElem? (i := 202) (by decide +kernel), List.mem_of_getElem? (i := 203) (by decide +kernel)⟩
theorem lw_p1 : lw_okq (⟨"CoinStrings$Grouping", "unite", "(II)V"⟩, 2) := ⟨⟨by decide +kernel, by decide +kernel⟩, List.mem_of_getElem? (i := 86) (by decide +kernel), List.mem_of_getElem? (i := 210) (by decide +kernel), List.mem_of_getElem? (i := 211) (by decide +kernel)⟩
theorem lw_p2 : lw_okq (⟨"CoinStrings$Text", "putString", "(I)V"⟩, 3) := ⟨⟨by decide +kernel, by decide +kernel⟩, List.mem_of_getElem? (i := 99) (by decide +kernel), List.mem_of_getElem? (i := 234) (by decide +kernel), List.mem_of_getElem? (i := 235) (by decide +kernel)⟩
theorem lw_p3 : lw_okq (⟨"CoinStrings$Text", "putDigit", "(I)V"⟩, 3) := ⟨⟨by decide +kernel, by decide +kernel⟩, List.mem_of_getElem? (i := 99) (by decide +kernel), List.mem_of_getElem? (i := 238) (by decide +kernel), List.mem_of_getElem? (i := 239) (by decide +kernel)⟩
theorem lw_p4 : lw_okq (⟨"CoinStrings$Text", "put", "(C)V"⟩, 3) := ⟨⟨by decide +kernel, by decide +kernel⟩, List.mem_of_getElem? (i := 99) (by decide +kernel), List.mem_of_getElem? (i := 242) (by decide +kernel), List.mem_of_getElem? (i := 243) (by decide +kernel)⟩
theorem lw_p5 : lw_okq (⟨"java/lang/Throwable", "fillInStackTrace", "(I)Ljava/lang/Throwable;"⟩, 6) := ⟨⟨by decide +kernel, by decide +kernel⟩, List.mem_of_getElem? (i := 303) (by decide +kernel), List.mem_of_getElem? (i := 301) (by decide +kernel), List.mem_of_getElem? (i := 302) (by decide +kernel)⟩
theorem lw_p6 : lw_okq (⟨"CoinStrings", "requireBegun", "()V"⟩, 12) := ⟨⟨by decide +kernel, by decide +kernel⟩, List.mem_of_getElem? (i := 20) (by decide +kernel), List.mem_of_getElem? (i := 394) (by decide +kernel), List.mem_of_getElem? (i := 395) (by decide +kernel)⟩
theorem lw_p7 : lw_okq (⟨"CoinStrings", "sever", "(I)I"⟩, 12) := ⟨⟨by decide +kernel, by decide +kernel⟩, List.mem_of_getElem? (i := 20) (by decide +kernel), List.mem_of_getElem? (i := 429) (by decide +kernel), List.mem_of_getElem? (i := 430) (by decide +kernel)⟩
theorem lw_p8 : lw_okq (⟨"CoinStrings$Web", "hangsOnlyOn", "(III)Z"⟩, 4) := ⟨⟨by decide +kernel, by decide +kernel⟩, List.mem_of_getElem? (i := 28) (by decide +kernel), List.mem_of_getElem? (i := 437) (by decide +kernel), List.mem_of_getElem? (i := 438) (by decide +kernel)⟩
theorem lw_p9 : lw_okq (⟨"CoinStrings$Margins", "given", "(II)I"⟩, 3) := ⟨⟨by decide +kernel, by decide +kernel⟩, List.mem_of_getElem? (i := 48) (by decide +kernel), List.mem_of_getElem? (i := 477) (by decide +kernel), List.mem_of_getElem? (i := 478) (by decide +kernel)⟩
theorem lw_p10 : lw_okq (⟨"CoinStringsModel", "hang", "(II)V"⟩, 21) := ⟨⟨by decide +kernel, by decide +kernel⟩, List.mem_of_getElem? (i := 592) (by decide +kernel), List.mem_of_getElem? (i := 673) (by decide +kernel), List.mem_of_getElem? (i := 674) (by decide +kernel)⟩
theorem lw_p11 : lw_okq (⟨"CoinStringsModel", "asks", "()Z"⟩, 21) := ⟨⟨by decide +kernel, by decide +kernel⟩, List.mem_of_getElem? (i := 592) (by decide +kernel), List.mem_of_getElem? (i := 693) (by decide +kernel), List.mem_of_getElem? (i := 694) (by decide +kernel)⟩
theorem lw_p12 : lw_okq (⟨"CoinStringsModel", "solve", "()V"⟩, 21) := ⟨⟨by decide +kernel, by decide +kernel⟩, List.mem_of_getElem? (i := 592) (by decide +kernel), List.mem_of_getElem? (i := 697) (by decide +kernel), List.mem_of_getElem? (i := 698) (by decide +kernel)⟩
theorem lw_p13 : lw_okq (⟨"CoinStringsModel", "marginOf", "(I)I"⟩, 21) := ⟨⟨by decide +kernel, by decide +kernel⟩, List.mem_of_getElem? (i := 592) (by decide +kernel), List.mem_of_getElem? (i := 701) (by decide +kernel), List.mem_of_getElem? (i := 702) (by decide +kernel)⟩
theorem lw_p14 : lw_okq (⟨"CoinStringsModel", "marginBy", "(II)I"⟩, 21) := ⟨⟨by decide +kernel, by decide +kernel⟩, List.mem_of_getElem? (i := 592) (by decide +kernel), List.mem_of_getElem? (i := 705) (by decide +kernel), List.mem_of_getElem? (i := 706) (by decide +kernel)⟩
theorem lw_p15 : lw_okq (⟨"CoinStringsModel", "takes", "(II)I"⟩, 21) := ⟨⟨by decide +kernel, by decide +kernel⟩, List.mem_of_getElem? (i := 592) (by decide +kernel), List.mem_of_getElem? (i := 709) (by decide +kernel), List.mem_of_getElem? (i := 710) (by decide +kernel)⟩
def lw_privs_1 : List (MethodName × Nat) := [(⟨"CoinStrings$Grouping", "leaderOf", "(I)I"⟩, 2), (⟨"CoinStrings$Grouping", "unite", "(II)V"⟩, 2), (⟨"CoinStrings$Text", "putString", "(I)V"⟩, 3), (⟨"CoinStrings$Text", "putDigit", "(I)V"⟩, 3), (⟨"CoinStrings$Text", "put", "(C)V"⟩, 3), (⟨"java/lang/Throwable", "fillInStackTrace", "(I)Ljava/lang/Throwable;"⟩, 6), (⟨"CoinStrings", "requireBegun", "()V"⟩, 12), (⟨"CoinStrings", "sever", "(I)I"⟩, 12), (⟨"CoinStrings$Web", "hangsOnlyOn", "(III)Z"⟩, 4), (⟨"CoinStrings$Margins", "given", "(II)I"⟩, 3), (⟨"CoinStringsModel", "hang", "(II)V"⟩, 21), (⟨"CoinStringsModel", "asks", "()Z"⟩, 21), (⟨"CoinStringsModel", "solve", "()V"⟩, 21), (⟨"CoinStringsModel", "marginOf", "(I)I"⟩, 21), (⟨"CoinStringsModel", "marginBy", "(II)I"⟩, 21), (⟨"CoinStringsModel", "takes", "(II)I"⟩, 21)]
theorem lw_r1 : ∀ q ∈ lw_privs_1, lw_okq q := List.forall_mem_cons.mpr ⟨lw_p0, List.forall_mem_cons.mpr ⟨lw_p1, List.forall_mem_cons.mpr ⟨lw_p2, List.forall_mem_cons.mpr ⟨lw_p3, List.forall_mem_cons.mpr ⟨lw_p4, List.forall_mem_cons.mpr ⟨lw_p5, List.forall_mem_cons.mpr ⟨lw_p6, List.forall_mem_cons.mpr ⟨lw_p7, List.forall_mem_cons.mpr ⟨lw_p8, List.forall_mem_cons.mpr ⟨lw_p9, List.forall_mem_cons.mpr ⟨lw_p10, List.forall_mem_cons.mpr ⟨lw_p11, List.forall_mem_cons.mpr ⟨lw_p12, List.forall_mem_cons.mpr ⟨lw_p13, List.forall_mem_cons.mpr ⟨lw_p14, List.forall_mem_cons.mpr ⟨lw_p15, fun _ h => absurd h List.not_mem_nil⟩⟩⟩⟩⟩⟩⟩⟩⟩⟩⟩⟩⟩⟩⟩⟩
theorem lw_p16 : lw_okq (⟨"CoinStringsModel", "nimOf", "(I)I"⟩, 21) := ⟨⟨by decide +kernel, by decide +kernel⟩, List.mem_of_getElem? (i := 592) (by decide +kernel), List.mem_of_getElem? (i := 713) (by decide +kernel), List.mem_of_getElem? (i := 714) (by decide +kernel)⟩
theorem lw_p17 : lw_okq (⟨"CoinStringsModel", "goodSet", "()I"⟩, 21) := ⟨⟨by decide +kernel, by decide +kernel⟩, List.mem_of_getElem? (i := 592) (by decide +kernel), List.mem_of_getElem? (i := 721) (by decide +kernel), List.mem_of_getElem? (i := 722) (by decide +kernel)⟩
theorem lw_p18 : lw_okq (⟨"CoinStringsModel", "make", "(I)I"⟩, 21) := ⟨⟨by decide +kernel, by decide +kernel⟩, List.mem_of_getElem? (i := 592) (by decide +kernel), List.mem_of_getElem? (i := 737) (by decide +kernel), List.mem_of_getElem? (i := 738) (by decide +kernel)⟩
theorem lw_p19 : lw_okq (⟨"CoinStringsModel", "belong", "(II)I"⟩, 21) := ⟨⟨by decide +kernel, by decide +kernel⟩, List.mem_of_getElem? (i := 592) (by decide +kernel), List.mem_of_getElem? (i := 765) (by decide +kernel), List.mem_of_getElem? (i := 766) (by decide +kernel)⟩
theorem lw_p20 : lw_okq (⟨"CoinStringsModel", "part", "()V"⟩, 21) := ⟨⟨by decide +kernel, by decide +kernel⟩, List.mem_of_getElem? (i := 592) (by decide +kernel), List.mem_of_getElem? (i := 773) (by decide +kernel), List.mem_of_getElem? (i := 774) (by decide +kernel)⟩
theorem lw_p21 : lw_okq (⟨"CoinStringsModel", "spread", "()V"⟩, 21) := ⟨⟨by decide +kernel, by decide +kernel⟩, List.mem_of_getElem? (i := 592) (by decide +kernel), List.mem_of_getElem? (i := 777) (by decide +kernel), List.mem_of_getElem? (i := 778) (by decide +kernel)⟩
theorem lw_p22 : lw_okq (⟨"CoinStringsModel", "joined", "(II)Z"⟩, 21) := ⟨⟨by decide +kernel, by decide +kernel⟩, List.mem_of_getElem? (i := 592) (by decide +kernel), List.mem_of_getElem? (i := 781) (by decide +kernel), List.mem_of_getElem? (i := 782) (by decide +kernel)⟩
theorem lw_p23 : lw_okq (⟨"CoinStringsModel", "write", "(I)V"⟩, 21) := ⟨⟨by decide +kernel, by decide +kernel⟩, List.mem_of_getElem? (i := 592) (by decide +kernel), List.mem_of_getElem? (i := 793) (by decide +kernel), List.mem_of_getElem? (i := 794) (by decide +kernel)⟩
def lw_privs_2 : List (MethodName × Nat) := [(⟨"CoinStringsModel", "nimOf", "(I)I"⟩, 21), (⟨"CoinStringsModel", "goodSet", "()I"⟩, 21), (⟨"CoinStringsModel", "make", "(I)I"⟩, 21), (⟨"CoinStringsModel", "belong", "(II)I"⟩, 21), (⟨"CoinStringsModel", "part", "()V"⟩, 21), (⟨"CoinStringsModel", "spread", "()V"⟩, 21), (⟨"CoinStringsModel", "joined", "(II)Z"⟩, 21), (⟨"CoinStringsModel", "write", "(I)V"⟩, 21)]
theorem lw_r2 : ∀ q ∈ lw_privs_2, lw_okq q := List.forall_mem_cons.mpr ⟨lw_p16, List.forall_mem_cons.mpr ⟨lw_p17, List.forall_mem_cons.mpr ⟨lw_p18, List.forall_mem_cons.mpr ⟨lw_p19, List.forall_mem_cons.mpr ⟨lw_p20, List.forall_mem_cons.mpr ⟨lw_p21, List.forall_mem_cons.mpr ⟨lw_p22, List.forall_mem_cons.mpr ⟨lw_p23, fun _ h => absurd h List.not_mem_nil⟩⟩⟩⟩⟩⟩⟩⟩
def lw_privs : List (MethodName × Nat) := lw_privs_1 ++ (lw_privs_2)
def lw_tbl : List Cond := k2_sels lw_privs ++ tables_1
theorem lw_privs_ok : ∀ q ∈ lw_privs, lw_okq q := by
  show ∀ q ∈ lw_privs_1 ++ (lw_privs_2), lw_okq q
  exact List.forall_mem_append.mpr ⟨lw_r1, lw_r2⟩
/-- the words of the tables that every state that is warmer has too -/
def gw_tbl : List Cond := lw_tbl.filter goodWord
theorem gw_t {i : Nat} {w : Cond} (h : tables_1[i]? = some w) (hg : goodWord w = true) : w ∈ gw_tbl := List.mem_filter.mpr ⟨List.mem_append_right _ (List.mem_of_getElem? h), hg⟩
theorem gw_p {i : Nat} {w : Cond} (h : (k2_sels lw_privs)[i]? = some w) (hg : goodWord w = true) : w ∈ gw_tbl := List.mem_filter.mpr ⟨List.mem_append_left _ (List.mem_of_getElem? h), hg⟩
/-- a method's words: its code, and all the tables' -/
abbrev gw (y : MethodName) (cc : ByteArray) (maxL : Nat) (ret : Option FieldType) : List Cond := Cond.code y cc maxL ret :: gw_tbl
theorem gq {c w : Cond} (h : w ∈ gw_tbl) : w ∈ c :: gw_tbl := List.mem_cons_of_mem _ h
theorem gw_good {w : Cond} (h : w ∈ gw_tbl) : (w.onTables && w.keeps) = true ∨ ∃ ty, w = .arrayClass ty := good_of_word (List.mem_filter.mp h).2
theorem gw_in {c d : Cond} (h : d ∈ gw_tbl) : GoodIn (c :: gw_tbl) (d :: gw_tbl) := fun w hw => by
  rcases List.mem_cons.mp hw with e | e
  · subst e
    exact ⟨gq h, gw_good h⟩
  · exact ⟨gq e, gw_good e⟩
theorem gw_V {c : Cond} {own C : String} {idx : Nat} {y : MethodName} {d : Cond} (h1 : Cond.methodLink own idx y ∈ gw_tbl) (h2 : Cond.instanceMethod y ∈ gw_tbl) (h3 : Cond.selects C y y ∈ gw_tbl) (h4 : Cond.initialized C ∈ gw_tbl) (h5 : d ∈ gw_tbl) : GoodIn (c :: gw_tbl) (wsV own idx C y (d :: gw_tbl)) := fun w hw => by
  unfold wsV at hw
  rcases List.mem_append.mp hw with e | e
  · simp only [List.mem_cons, List.not_mem_nil, or_false] at e
    rcases e with e | e | e | e <;> subst e
    · exact ⟨gq h1, gw_good h1⟩
    · exact ⟨gq h2, gw_good h2⟩
    · exact ⟨gq h3, gw_good h3⟩
    · exact ⟨gq h4, gw_good h4⟩
  · exact gw_in h5 w e
theorem gw_S {c : Cond} {own : String} {idx : Nat} {y : MethodName} {d : Cond} (h1 : Cond.methodLink own idx y ∈ gw_tbl) (h2 : Cond.static y ∈ gw_tbl) (h4 : Cond.initialized own ∈ gw_tbl) (h5 : d ∈ gw_tbl) : GoodIn (c :: gw_tbl) (wsS own idx y (d :: gw_tbl)) := fun w hw => by
  unfold wsS at hw
  rcases List.mem_append.mp hw with e | e
  · simp only [List.mem_cons, List.not_mem_nil, or_false] at e
    rcases e with e | e | e <;> subst e
    · exact ⟨gq h1, gw_good h1⟩
    · exact ⟨gq h2, gw_good h2⟩
    · exact ⟨gq h4, gw_good h4⟩
  · exact gw_in h5 w e
theorem gw_U {c : Cond} {own C owner : String} {idx : Nat} {x y : MethodName} {d : Cond} (h1 : Cond.methodLink own idx x ∈ gw_tbl) (h2 : Cond.sameMethod x.cls owner x.name x.desc ∈ gw_tbl) (h3 : Cond.selects C x y ∈ gw_tbl) (h4 : Cond.instanceMethod y ∈ gw_tbl) (h6 : Cond.initialized y.cls ∈ gw_tbl) (h5 : d ∈ gw_tbl) : GoodIn (c :: gw_tbl) (va_wsU own idx C owner x y (d :: gw_tbl)) := fun w hw => by
  unfold va_wsU at hw
  rcases List.mem_append.mp hw with e | e
  · simp only [List.mem_cons, List.not_mem_nil, or_false] at e
    rcases e with e | e | e | e | e <;> subst e
    · exact ⟨gq h1, gw_good h1⟩
    · exact ⟨gq h2, gw_good h2⟩
    · exact ⟨gq h3, gw_good h3⟩
    · exact ⟨gq h4, gw_good h4⟩
    · exact ⟨gq h6, gw_good h6⟩
  · exact gw_in h5 w e
end
section
def fT_C : u_T := fun k => match k with
  | 0 => ("CoinStrings", "web", "LCoinStrings$Web;", true)
  | 1 => ("CoinStrings", "margins", "LCoinStrings$Margins;", true)
  | 2 => ("CoinStrings", "nimValues", "LCoinStrings$NimValues;", true)
  | 3 => ("CoinStrings", "grouping", "LCoinStrings$Grouping;", true)
  | 4 => ("CoinStrings", "text", "LCoinStrings$Text;", true)
  | 5 => ("CoinStrings", "cutStrings", "[I", true)
  | 6 => ("CoinStrings", "cutters", "[I", true)
  | 7 => ("CoinStrings", "takings", "[I", true)
  | 8 => ("CoinStrings", "cutCount", "I", false)
  | 9 => ("CoinStrings", "position", "I", false)
  | 10 => ("CoinStrings", "onTurn", "I", false)
  | _ => ("CoinStrings", "begun", "Z", false)
def fy_C : Nat → FieldType := fun k => match k with
  | 0 => .object "CoinStrings$Web"
  | 1 => .object "CoinStrings$Margins"
  | 2 => .object "CoinStrings$NimValues"
  | 3 => .object "CoinStrings$Grouping"
  | 4 => .object "CoinStrings$Text"
  | 5 => .array .int
  | 6 => .array .int
  | 7 => .array .int
  | 8 => .int
  | 9 => .int
  | 10 => .int
  | _ => .boolean
theorem fn_C : ∀ a, a < 12 → ∀ b, b < 12 → a ≠ b → (fT_C a).2.1 ≠ (fT_C b).2.1 := by decide +kernel
theorem fk_C : ∀ k, k < 12 → parseFieldDescriptor (fT_C k).2.2.1 = some (fy_C k) := by decide +kernel
def fT_W : u_T := fun k => match k with
  | 0 => ("CoinStrings$Web", "lesserEnds", "[I", true)
  | 1 => ("CoinStrings$Web", "otherEnds", "[I", true)
  | 2 => ("CoinStrings$Web", "stringsOfCoins", "[I", true)
  | _ => ("CoinStrings$Web", "size", "I", false)
def fy_W : Nat → FieldType := fun k => match k with
  | 0 => .array .int
  | 1 => .array .int
  | 2 => .array .int
  | _ => .int
theorem fn_W : ∀ a, a < 4 → ∀ b, b < 4 → a ≠ b → (fT_W a).2.1 ≠ (fT_W b).2.1 := by decide +kernel
theorem fk_W : ∀ k, k < 4 → parseFieldDescriptor (fT_W k).2.2.1 = some (fy_W k) := by decide +kernel
def fT_M : u_T := fun k => match k with
  | 0 => ("CoinStrings$Values", "web", "LCoinStrings$Web;", true)
  | 1 => ("CoinStrings$Values", "known", "[B", true)
  | _ => ("CoinStrings$Values", "ready", "Z", false)
def fy_M : Nat → FieldType := fun k => match k with
  | 0 => .object "CoinStrings$Web"
  | 1 => .array .byte
  | _ => .boolean
theorem fn_M : ∀ a, a < 3 → ∀ b, b < 3 → a ≠ b → (fT_M a).2.1 ≠ (fT_M b).2.1 := by decide +kernel
theorem fk_M : ∀ k, k < 3 → parseFieldDescriptor (fT_M k).2.2.1 = some (fy_M k) := by decide +kernel
def fT_N : u_T := fun k => match k with
  | 0 => ("CoinStrings$Values", "web", "LCoinStrings$Web;", true)
  | 1 => ("CoinStrings$Values", "known", "[B", true)
  | _ => ("CoinStrings$Values", "ready", "Z", false)
def fy_N : Nat → FieldType := fun k => match k with
  | 0 => .object "CoinStrings$Web"
  | 1 => .array .byte
  | _ => .boolean
theorem fn_N : ∀ a, a < 3 → ∀ b, b < 3 → a ≠ b → (fT_N a).2.1 ≠ (fT_N b).2.1 := by decide +kernel
theorem fk_N : ∀ k, k < 3 → parseFieldDescriptor (fT_N k).2.2.1 = some (fy_N k) := by decide +kernel
def fT_G : u_T := fun k => match k with
  | 0 => ("CoinStrings$Grouping", "web", "LCoinStrings$Web;", true)
  | _ => ("CoinStrings$Grouping", "leaders", "[I", true)
def fy_G : Nat → FieldType := fun k => match k with
  | 0 => .object "CoinStrings$Web"
  | _ => .array .int
theorem fn_G : ∀ a, a < 2 → ∀ b, b < 2 → a ≠ b → (fT_G a).2.1 ≠ (fT_G b).2.1 := by decide +kernel
theorem fk_G : ∀ k, k < 2 → parseFieldDescriptor (fT_G k).2.2.1 = some (fy_G k) := by decide +kernel
def fT_T : u_T := fun k => match k with
  | 0 => ("CoinStrings$Text", "web", "LCoinStrings$Web;", true)
  | 1 => ("CoinStrings$Text", "characters", "[C", true)
  | _ => ("CoinStrings$Text", "length", "I", false)
def fy_T : Nat → FieldType := fun k => match k with
  | 0 => .object "CoinStrings$Web"
  | 1 => .array .char
  | _ => .int
theorem fn_T : ∀ a, a < 3 → ∀ b, b < 3 → a ≠ b → (fT_T a).2.1 ≠ (fT_T b).2.1 := by decide +kernel
theorem fk_T : ∀ k, k < 3 → parseFieldDescriptor (fT_T k).2.2.1 = some (fy_T k) := by decide +kernel
def fT_R : u_T := fun k => match k with
  | 0 => ("CoinStringsModel", "thrown", "I", false)
  | 1 => ("CoinStringsModel", "size", "I", false)
  | 2 => ("CoinStringsModel", "one", "[I", true)
  | 3 => ("CoinStringsModel", "two", "[I", true)
  | 4 => ("CoinStringsModel", "own", "[I", true)
  | 5 => ("CoinStringsModel", "begun", "Z", false)
  | 6 => ("CoinStringsModel", "left", "I", false)
  | 7 => ("CoinStringsModel", "turn", "I", false)
  | 8 => ("CoinStringsModel", "taken", "[I", true)
  | 9 => ("CoinStringsModel", "cuts", "I", false)
  | 10 => ("CoinStringsModel", "cutOf", "[I", true)
  | 11 => ("CoinStringsModel", "turnOf", "[I", true)
  | 12 => ("CoinStringsModel", "taken0", "[I", true)
  | 13 => ("CoinStringsModel", "taken1", "[I", true)
  | 14 => ("CoinStringsModel", "solved", "Z", false)
  | 15 => ("CoinStringsModel", "margins", "[I", true)
  | 16 => ("CoinStringsModel", "nims", "[I", true)
  | 17 => ("CoinStringsModel", "groupCount", "I", false)
  | 18 => ("CoinStringsModel", "groupOf", "[I", true)
  | 19 => ("CoinStringsModel", "text", "[I", true)
  | _ => ("CoinStringsModel", "length", "I", false)
def fy_R : Nat → FieldType := fun k => match k with
  | 0 => .int
  | 1 => .int
  | 2 => .array .int
  | 3 => .array .int
  | 4 => .array .int
  | 5 => .boolean
  | 6 => .int
  | 7 => .int
  | 8 => .array .int
  | 9 => .int
  | 10 => .array .int
  | 11 => .array .int
  | 12 => .array .int
  | 13 => .array .int
  | 14 => .boolean
  | 15 => .array .int
  | 16 => .array .int
  | 17 => .int
  | 18 => .array .int
  | 19 => .array .int
  | _ => .int
theorem fn_R : ∀ a, a < 21 → ∀ b, b < 21 → a ≠ b → (fT_R a).2.1 ≠ (fT_R b).2.1 := by decide +kernel
theorem fk_R : ∀ k, k < 21 → parseFieldDescriptor (fT_R k).2.2.1 = some (fy_R k) := by decide +kernel
abbrev cl_v : List vw_C := [("CoinStrings", fT_C, 12), ("CoinStrings$Web", fT_W, 4), ("CoinStrings$Margins", fT_M, 3), ("CoinStrings$NimValues", fT_N, 3), ("CoinStrings$Grouping", fT_G, 2), ("CoinStrings$Text", fT_T, 3), ("CoinStringsModel", fT_R, 21)]
abbrev cd_C_init : ByteArray := prog_1_method_1_code
abbrev mn_C_init : MethodName := ⟨"CoinStrings", "<init>", "()V"⟩
abbrev cd_W_init : ByteArray := prog_7_method_1_code
abbrev mn_W_init : MethodName := ⟨"CoinStrings$Web", "<init>", "()V"⟩
abbrev cd_M_init : ByteArray := prog_3_method_1_code
abbrev mn_M_init : MethodName := ⟨"CoinStrings$Margins", "<init>", "(LCoinStrings$Web;)V"⟩
abbrev cd_V_init : ByteArray := prog_6_method_1_code
abbrev mn_V_init : MethodName := ⟨"CoinStrings$Values", "<init>", "(LCoinStrings$Web;)V"⟩
abbrev cd_N_init : ByteArray := prog_4_method_1_code
abbrev mn_N_init : MethodName := ⟨"CoinStrings$NimValues", "<init>", "(LCoinStrings$Web;)V"⟩
abbrev cd_G_init : ByteArray := prog_2_method_1_code
abbrev mn_G_init : MethodName := ⟨"CoinStrings$Grouping", "<init>", "(LCoinStrings$Web;)V"⟩
abbrev cd_T_init : ByteArray := prog_5_method_1_code
abbrev mn_T_init : MethodName := ⟨"CoinStrings$Text", "<init>", "(LCoinStrings$Web;)V"⟩
abbrev cd_C_clear : ByteArray := prog_1_method_5_code
abbrev mn_C_clear : MethodName := ⟨"CoinStrings", "clear", "()V"⟩
abbrev cd_W_dropAll : ByteArray := prog_7_method_6_code
abbrev mn_W_dropAll : MethodName := ⟨"CoinStrings$Web", "dropAll", "()V"⟩
abbrev cd_A_fill : ByteArray := prog_18_method_103_code
abbrev mn_A_fill : MethodName := ⟨"java/util/Arrays", "fill", "([II)V"⟩
abbrev cd_C_turn : ByteArray := prog_1_method_9_code
abbrev mn_C_turn : MethodName := ⟨"CoinStrings", "turn", "()I"⟩
abbrev cd_C_left : ByteArray := prog_1_method_11_code
abbrev mn_C_left : MethodName := ⟨"CoinStrings", "left", "()I"⟩
abbrev cd_C_groups : ByteArray := prog_1_method_17_code
abbrev mn_C_groups : MethodName := ⟨"CoinStrings", "groups", "()I"⟩
abbrev cd_G_sort : ByteArray := prog_2_method_2_code
abbrev mn_G_sort : MethodName := ⟨"CoinStrings$Grouping", "sort", "(I)V"⟩
abbrev cd_W_holding : ByteArray := prog_7_method_9_code
abbrev mn_W_holding : MethodName := ⟨"CoinStrings$Web", "holding", "(II)I"⟩
abbrev cd_I_bitCount : ByteArray := prog_14_method_49_code
abbrev mn_I_bitCount : MethodName := ⟨"java/lang/Integer", "bitCount", "(I)I"⟩
abbrev cd_W_size : ByteArray := prog_7_method_2_code
abbrev mn_W_size : MethodName := ⟨"CoinStrings$Web", "size", "()I"⟩
abbrev cd_C_has : ByteArray := prog_1_method_25_code
abbrev mn_C_has : MethodName := ⟨"CoinStrings", "has", "(II)Z"⟩
abbrev cd_W_lesserEnd : ByteArray := prog_7_method_4_code
abbrev mn_W_lesserEnd : MethodName := ⟨"CoinStrings$Web", "lesserEnd", "(I)I"⟩
abbrev cd_G_leaderOf : ByteArray := prog_2_method_7_code
abbrev mn_G_leaderOf : MethodName := ⟨"CoinStrings$Grouping", "leaderOf", "(I)I"⟩
abbrev cd_W_otherEnd : ByteArray := prog_7_method_5_code
abbrev mn_W_otherEnd : MethodName := ⟨"CoinStrings$Web", "otherEnd", "(I)I"⟩
abbrev cd_G_unite : ByteArray := prog_2_method_8_code
abbrev mn_G_unite : MethodName := ⟨"CoinStrings$Grouping", "unite", "(II)V"⟩
abbrev cd_G_count : ByteArray := prog_2_method_3_code
abbrev mn_G_count : MethodName := ⟨"CoinStrings$Grouping", "count", "()I"⟩
abbrev cd_C_show : ByteArray := prog_1_method_19_code
abbrev mn_C_show : MethodName := ⟨"CoinStrings", "show", "()I"⟩
abbrev cd_T_write : ByteArray := prog_5_method_4_code
abbrev mn_T_write : MethodName := ⟨"CoinStrings$Text", "write", "(I)V"⟩
abbrev cd_T_putString : ByteArray := prog_5_method_5_code
abbrev mn_T_putString : MethodName := ⟨"CoinStrings$Text", "putString", "(I)V"⟩
abbrev cd_T_putDigit : ByteArray := prog_5_method_6_code
abbrev mn_T_putDigit : MethodName := ⟨"CoinStrings$Text", "putDigit", "(I)V"⟩
abbrev cd_T_put : ByteArray := prog_5_method_7_code
abbrev mn_T_put : MethodName := ⟨"CoinStrings$Text", "put", "(C)V"⟩
abbrev cd_T_length : ByteArray := prog_5_method_2_code
abbrev mn_T_length : MethodName := ⟨"CoinStrings$Text", "length", "()I"⟩
abbrev cd_L_add : ByteArray := method_3_code
abbrev mn_L_add : MethodName := ⟨"CoinStringsLaw", "add", "(LCoinStrings;II[J)I"⟩
abbrev cd_C_add : ByteArray := prog_1_method_2_code
abbrev mn_C_add : MethodName := ⟨"CoinStrings", "add", "(II)I"⟩
abbrev cd_C_isCoin : ByteArray := prog_1_method_23_code
abbrev mn_C_isCoin : MethodName := ⟨"CoinStrings", "isCoin", "(I)Z"⟩
abbrev cd_W_join : ByteArray := prog_7_method_7_code
abbrev mn_W_join : MethodName := ⟨"CoinStrings$Web", "join", "(II)V"⟩
abbrev cd_W_everyString : ByteArray := prog_7_method_3_code
abbrev mn_W_everyString : MethodName := ⟨"CoinStrings$Web", "everyString", "()I"⟩
abbrev cd_L_board : ByteArray := method_4_code
abbrev mn_L_board : MethodName := ⟨"CoinStringsLaw", "board", "(LCoinStrings;II[J)I"⟩
abbrev cd_C_board : ByteArray := prog_1_method_3_code
abbrev mn_C_board : MethodName := ⟨"CoinStrings", "board", "(II)I"⟩
abbrev cd_C_isBoard : ByteArray := prog_1_method_24_code
abbrev mn_C_isBoard : MethodName := ⟨"CoinStrings", "isBoard", "(II)Z"⟩
abbrev cd_W_joinBoard : ByteArray := prog_7_method_8_code
abbrev mn_W_joinBoard : MethodName := ⟨"CoinStrings$Web", "joinBoard", "(II)V"⟩
abbrev cd_L_begin : ByteArray := method_5_code
abbrev mn_L_begin : MethodName := ⟨"CoinStringsLaw", "begin", "(LCoinStrings;)I"⟩
abbrev cd_C_begin : ByteArray := prog_1_method_4_code
abbrev mn_C_begin : MethodName := ⟨"CoinStrings", "begin", "()V"⟩
abbrev cd_V_forget : ByteArray := prog_6_method_2_code
abbrev mn_V_forget : MethodName := ⟨"CoinStrings$Values", "forget", "()V"⟩
abbrev cd_L_cut : ByteArray := method_6_code
abbrev mn_L_cut : MethodName := ⟨"CoinStringsLaw", "cut", "(LCoinStrings;I[J)I"⟩
abbrev cd_C_cut : ByteArray := prog_1_method_6_code
abbrev mn_C_cut : MethodName := ⟨"CoinStrings", "cut", "(I)I"⟩
abbrev cd_C_requireBegun : ByteArray := prog_1_method_21_code
abbrev mn_C_requireBegun : MethodName := ⟨"CoinStrings", "requireBegun", "()V"⟩
abbrev cd_C_sever : ByteArray := prog_1_method_22_code
abbrev mn_C_sever : MethodName := ⟨"CoinStrings", "sever", "(I)I"⟩
abbrev cd_W_freed : ByteArray := prog_7_method_10_code
abbrev mn_W_freed : MethodName := ⟨"CoinStrings$Web", "freed", "(II)I"⟩
abbrev cd_W_hangsOnlyOn : ByteArray := prog_7_method_11_code
abbrev mn_W_hangsOnlyOn : MethodName := ⟨"CoinStrings$Web", "hangsOnlyOn", "(III)Z"⟩
abbrev cd_C_without : ByteArray := prog_1_method_26_code
abbrev mn_C_without : MethodName := ⟨"CoinStrings", "without", "(II)I"⟩
abbrev cd_L_undo : ByteArray := method_7_code
abbrev mn_L_undo : MethodName := ⟨"CoinStringsLaw", "undo", "(LCoinStrings;[J)I"⟩
abbrev cd_C_undo : ByteArray := prog_1_method_7_code
abbrev mn_C_undo : MethodName := ⟨"CoinStrings", "undo", "()I"⟩
abbrev cd_L_play : ByteArray := method_8_code
abbrev mn_L_play : MethodName := ⟨"CoinStringsLaw", "play", "(LCoinStrings;[J)I"⟩
abbrev cd_C_play : ByteArray := prog_1_method_8_code
abbrev mn_C_play : MethodName := ⟨"CoinStrings", "play", "()I"⟩
abbrev cd_V_markedStrings : ByteArray := prog_6_method_4_code
abbrev mn_V_markedStrings : MethodName := ⟨"CoinStrings$Values", "markedStrings", "(I)I"⟩
abbrev cd_V_prepare : ByteArray := prog_6_method_5_code
abbrev mn_V_prepare : MethodName := ⟨"CoinStrings$Values", "prepare", "()V"⟩
abbrev cd_M_workOut : ByteArray := prog_3_method_2_code
abbrev mn_M_workOut : MethodName := ⟨"CoinStrings$Margins", "workOut", "(I)I"⟩
abbrev cd_M_given : ByteArray := prog_3_method_4_code
abbrev mn_M_given : MethodName := ⟨"CoinStrings$Margins", "given", "(II)I"⟩
abbrev cd_N_workOut : ByteArray := prog_4_method_2_code
abbrev mn_N_workOut : MethodName := ⟨"CoinStrings$NimValues", "workOut", "(I)I"⟩
abbrev cd_C_least : ByteArray := prog_1_method_27_code
abbrev mn_C_least : MethodName := ⟨"CoinStrings", "least", "(I)I"⟩
abbrev cd_M_isMarked : ByteArray := prog_3_method_3_code
abbrev mn_M_isMarked : MethodName := ⟨"CoinStrings$Margins", "isMarked", "(II)Z"⟩
abbrev cd_N_isMarked : ByteArray := prog_4_method_3_code
abbrev mn_N_isMarked : MethodName := ⟨"CoinStrings$NimValues", "isMarked", "(II)Z"⟩
abbrev cd_L_taken : ByteArray := method_9_code
abbrev mn_L_taken : MethodName := ⟨"CoinStringsLaw", "taken", "(LCoinStrings;I[J)I"⟩
abbrev cd_C_taken : ByteArray := prog_1_method_10_code
abbrev mn_C_taken : MethodName := ⟨"CoinStrings", "taken", "(I)I"⟩
abbrev cd_L_strings : ByteArray := method_10_code
abbrev mn_L_strings : MethodName := ⟨"CoinStringsLaw", "strings", "(LCoinStrings;I[J)I"⟩
abbrev cd_C_strings : ByteArray := prog_1_method_12_code
abbrev mn_C_strings : MethodName := ⟨"CoinStrings", "strings", "(I)I"⟩
abbrev cd_L_margin : ByteArray := method_11_code
abbrev mn_L_margin : MethodName := ⟨"CoinStringsLaw", "margin", "(LCoinStrings;[J)I"⟩
abbrev cd_C_margin : ByteArray := prog_1_method_13_code
abbrev mn_C_margin : MethodName := ⟨"CoinStrings", "margin", "()I"⟩
abbrev cd_V_of : ByteArray := prog_6_method_3_code
abbrev mn_V_of : MethodName := ⟨"CoinStrings$Values", "of", "(I)I"⟩
abbrev cd_L_good : ByteArray := method_12_code
abbrev mn_L_good : MethodName := ⟨"CoinStringsLaw", "good", "(LCoinStrings;[J)I"⟩
abbrev cd_C_good : ByteArray := prog_1_method_14_code
abbrev mn_C_good : MethodName := ⟨"CoinStrings", "good", "()I"⟩
abbrev cd_L_nim : ByteArray := method_13_code
abbrev mn_L_nim : MethodName := ⟨"CoinStringsLaw", "nim", "(LCoinStrings;[J)I"⟩
abbrev cd_C_nim : ByteArray := prog_1_method_15_code
abbrev mn_C_nim : MethodName := ⟨"CoinStrings", "nim", "()I"⟩
abbrev cd_L_mad : ByteArray := method_14_code
abbrev mn_L_mad : MethodName := ⟨"CoinStringsLaw", "mad", "(LCoinStrings;[J)I"⟩
abbrev cd_C_mad : ByteArray := prog_1_method_16_code
abbrev mn_C_mad : MethodName := ⟨"CoinStrings", "mad", "()I"⟩
abbrev cd_L_group : ByteArray := method_15_code
abbrev mn_L_group : MethodName := ⟨"CoinStringsLaw", "group", "(LCoinStrings;I[J)I"⟩
abbrev cd_C_group : ByteArray := prog_1_method_18_code
abbrev mn_C_group : MethodName := ⟨"CoinStrings", "group", "(I)I"⟩
abbrev cd_G_leader : ByteArray := prog_2_method_4_code
abbrev mn_G_leader : MethodName := ⟨"CoinStrings$Grouping", "leader", "(I)I"⟩
abbrev cd_G_length : ByteArray := prog_2_method_5_code
abbrev mn_G_length : MethodName := ⟨"CoinStrings$Grouping", "length", "(I)I"⟩
abbrev cd_G_isLoop : ByteArray := prog_2_method_6_code
abbrev mn_G_isLoop : MethodName := ⟨"CoinStrings$Grouping", "isLoop", "(II)Z"⟩
abbrev cd_L_at : ByteArray := method_16_code
abbrev mn_L_at : MethodName := ⟨"CoinStringsLaw", "at", "(LCoinStrings;I[J)I"⟩
abbrev cd_C_at : ByteArray := prog_1_method_20_code
abbrev mn_C_at : MethodName := ⟨"CoinStrings", "at", "(I)I"⟩
abbrev cd_T_character : ByteArray := prog_5_method_3_code
abbrev mn_T_character : MethodName := ⟨"CoinStrings$Text", "character", "(I)I"⟩
abbrev cd_R_init : ByteArray := prog_9_method_1_code
abbrev mn_R_init : MethodName := ⟨"CoinStringsModel", "<init>", "()V"⟩
abbrev cd_R_thrown : ByteArray := prog_9_method_2_code
abbrev mn_R_thrown : MethodName := ⟨"CoinStringsModel", "thrown", "()I"⟩
abbrev cd_R_add : ByteArray := prog_9_method_5_code
abbrev mn_R_add : MethodName := ⟨"CoinStringsModel", "add", "(II)I"⟩
abbrev cd_R_isCoin : ByteArray := prog_9_method_3_code
abbrev mn_R_isCoin : MethodName := ⟨"CoinStringsModel", "isCoin", "(I)Z"⟩
abbrev cd_R_hang : ByteArray := prog_9_method_4_code
abbrev mn_R_hang : MethodName := ⟨"CoinStringsModel", "hang", "(II)V"⟩
abbrev cd_R_board : ByteArray := prog_9_method_6_code
abbrev mn_R_board : MethodName := ⟨"CoinStringsModel", "board", "(II)I"⟩
abbrev cd_R_begin : ByteArray := prog_9_method_7_code
abbrev mn_R_begin : MethodName := ⟨"CoinStringsModel", "begin", "()V"⟩
abbrev cd_R_clear : ByteArray := prog_9_method_8_code
abbrev mn_R_clear : MethodName := ⟨"CoinStringsModel", "clear", "()V"⟩
abbrev cd_R_margin : ByteArray := prog_9_method_17_code
abbrev mn_R_margin : MethodName := ⟨"CoinStringsModel", "margin", "()I"⟩
abbrev cd_R_asks : ByteArray := prog_9_method_15_code
abbrev mn_R_asks : MethodName := ⟨"CoinStringsModel", "asks", "()Z"⟩
abbrev cd_R_solve : ByteArray := prog_9_method_14_code
abbrev mn_R_solve : MethodName := ⟨"CoinStringsModel", "solve", "()V"⟩
abbrev cd_R_marginOf : ByteArray := prog_9_method_12_code
abbrev mn_R_marginOf : MethodName := ⟨"CoinStringsModel", "marginOf", "(I)I"⟩
abbrev cd_R_marginBy : ByteArray := prog_9_method_11_code
abbrev mn_R_marginBy : MethodName := ⟨"CoinStringsModel", "marginBy", "(II)I"⟩
abbrev cd_R_takes : ByteArray := prog_9_method_10_code
abbrev mn_R_takes : MethodName := ⟨"CoinStringsModel", "takes", "(II)I"⟩
abbrev cd_R_nimOf : ByteArray := prog_9_method_13_code
abbrev mn_R_nimOf : MethodName := ⟨"CoinStringsModel", "nimOf", "(I)I"⟩
abbrev cd_R_good : ByteArray := prog_9_method_18_code
abbrev mn_R_good : MethodName := ⟨"CoinStringsModel", "good", "()I"⟩
abbrev cd_R_goodSet : ByteArray := prog_9_method_16_code
abbrev mn_R_goodSet : MethodName := ⟨"CoinStringsModel", "goodSet", "()I"⟩
abbrev cd_R_nim : ByteArray := prog_9_method_19_code
abbrev mn_R_nim : MethodName := ⟨"CoinStringsModel", "nim", "()I"⟩
abbrev cd_R_mad : ByteArray := prog_9_method_20_code
abbrev mn_R_mad : MethodName := ⟨"CoinStringsModel", "mad", "()I"⟩
abbrev cd_R_cut : ByteArray := prog_9_method_22_code
abbrev mn_R_cut : MethodName := ⟨"CoinStringsModel", "cut", "(I)I"⟩
abbrev cd_R_make : ByteArray := prog_9_method_21_code
abbrev mn_R_make : MethodName := ⟨"CoinStringsModel", "make", "(I)I"⟩
abbrev cd_R_undo : ByteArray := prog_9_method_23_code
abbrev mn_R_undo : MethodName := ⟨"CoinStringsModel", "undo", "()I"⟩
abbrev cd_R_play : ByteArray := prog_9_method_24_code
abbrev mn_R_play : MethodName := ⟨"CoinStringsModel", "play", "()I"⟩
abbrev cd_R_turn : ByteArray := prog_9_method_25_code
abbrev mn_R_turn : MethodName := ⟨"CoinStringsModel", "turn", "()I"⟩
abbrev cd_R_taken : ByteArray := prog_9_method_26_code
abbrev mn_R_taken : MethodName := ⟨"CoinStringsModel", "taken", "(I)I"⟩
abbrev cd_R_left : ByteArray := prog_9_method_27_code
abbrev mn_R_left : MethodName := ⟨"CoinStringsModel", "left", "()I"⟩
abbrev cd_R_strings : ByteArray := prog_9_method_28_code
abbrev mn_R_strings : MethodName := ⟨"CoinStringsModel", "strings", "(I)I"⟩
abbrev cd_R_belong : ByteArray := prog_9_method_9_code
abbrev mn_R_belong : MethodName := ⟨"CoinStringsModel", "belong", "(II)I"⟩
abbrev cd_R_groups : ByteArray := prog_9_method_32_code
abbrev mn_R_groups : MethodName := ⟨"CoinStringsModel", "groups", "()I"⟩
abbrev cd_R_part : ByteArray := prog_9_method_30_code
abbrev mn_R_part : MethodName := ⟨"CoinStringsModel", "part", "()V"⟩
abbrev cd_R_spread : ByteArray := prog_9_method_31_code
abbrev mn_R_spread : MethodName := ⟨"CoinStringsModel", "spread", "()V"⟩
abbrev cd_R_joined : ByteArray := prog_9_method_29_code
abbrev mn_R_joined : MethodName := ⟨"CoinStringsModel", "joined", "(II)Z"⟩
abbrev cd_R_group : ByteArray := prog_9_method_33_code
abbrev mn_R_group : MethodName := ⟨"CoinStringsModel", "group", "(I)I"⟩
abbrev cd_R_show : ByteArray := prog_9_method_35_code
abbrev mn_R_show : MethodName := ⟨"CoinStringsModel", "show", "()I"⟩
abbrev cd_R_write : ByteArray := prog_9_method_34_code
abbrev mn_R_write : MethodName := ⟨"CoinStringsModel", "write", "(I)V"⟩
abbrev cd_R_at : ByteArray := prog_9_method_36_code
abbrev mn_R_at : MethodName := ⟨"CoinStringsModel", "at", "(I)I"⟩
abbrev cd_L_law : ByteArray := code
abbrev mn_L_law : MethodName := ⟨"CoinStringsLaw", "law", "([I)Z"⟩
end
section
theorem dc_C_init_0 : decode cd_C_init 0 = .ok (.aload_n 0, 1) := by decide +kernel
theorem dc_C_init_1 : decode cd_C_init 1 = .ok (.invokespecial 3, 3) := by decide +kernel
theorem dc_C_init_4 : decode cd_C_init 4 = .ok (.aload_n 0, 1) := by decide +kernel
theorem dc_C_init_5 : decode cd_C_init 5 = .ok (.new 9, 3) := by decide +kernel
theorem dc_C_init_8 : decode cd_C_init 8 = .ok (.dup, 1) := by decide +kernel
theorem dc_C_init_9 : decode cd_C_init 9 = .ok (.invokespecial 11, 3) := by decide +kernel
theorem dc_C_init_12 : decode cd_C_init 12 = .ok (.putfield 12, 3) := by decide +kernel
theorem dc_C_init_15 : decode cd_C_init 15 = .ok (.aload_n 0, 1) := by decide +kernel
theorem dc_C_init_16 : decode cd_C_init 16 = .ok (.new 16, 3) := by decide +kernel
theorem dc_C_init_19 : decode cd_C_init 19 = .ok (.dup, 1) := by decide +kernel
theorem dc_C_init_20 : decode cd_C_init 20 = .ok (.aload_n 0, 1) := by decide +kernel
theorem dc_C_init_21 : decode cd_C_init 21 = .ok (.getfield 12, 3) := by decide +kernel
theorem dc_C_init_24 : decode cd_C_init 24 = .ok (.invokespecial 18, 3) := by decide +kernel
theorem dc_C_init_27 : decode cd_C_init 27 = .ok (.putfield 21, 3) := by decide +kernel
theorem dc_C_init_30 : decode cd_C_init 30 = .ok (.aload_n 0, 1) := by decide +kernel
theorem dc_C_init_31 : decode cd_C_init 31 = .ok (.new 25, 3) := by decide +kernel
theorem dc_C_init_34 : decode cd_C_init 34 = .ok (.dup, 1) := by decide +kernel
theorem dc_C_init_35 : decode cd_C_init 35 = .ok (.aload_n 0, 1) := by decide +kernel
theorem dc_C_init_36 : decode cd_C_init 36 = .ok (.getfield 12, 3) := by decide +kernel
theorem dc_C_init_39 : decode cd_C_init 39 = .ok (.invokespecial 27, 3) := by decide +kernel
theorem dc_C_init_42 : decode cd_C_init 42 = .ok (.putfield 28, 3) := by decide +kernel
theorem dc_C_init_45 : decode cd_C_init 45 = .ok (.aload_n 0, 1) := by decide +kernel
theorem dc_C_init_46 : decode cd_C_init 46 = .ok (.new 32, 3) := by decide +kernel
theorem dc_C_init_49 : decode cd_C_init 49 = .ok (.dup, 1) := by decide +kernel
theorem dc_C_init_50 : decode cd_C_init 50 = .ok (.aload_n 0, 1) := by decide +kernel
theorem dc_C_init_51 : decode cd_C_init 51 = .ok (.getfield 12, 3) := by decide +kernel
theorem dc_C_init_54 : decode cd_C_init 54 = .ok (.invokespecial 34, 3) := by decide +kernel
theorem dc_C_init_57 : decode cd_C_init 57 = .ok (.putfield 35, 3) := by decide +kernel
theorem dc_C_init_60 : decode cd_C_init 60 = .ok (.aload_n 0, 1) := by decide +kernel
theorem dc_C_init_61 : decode cd_C_init 61 = .ok (.new 39, 3) := by decide +kernel
theorem dc_C_init_64 : decode cd_C_init 64 = .ok (.dup, 1) := by decide +kernel
theorem dc_C_init_65 : decode cd_C_init 65 = .ok (.aload_n 0, 1) := by decide +kernel
theorem dc_C_init_66 : decode cd_C_init 66 = .ok (.getfield 12, 3) := by decide +kernel
theorem dc_C_init_69 : decode cd_C_init 69 = .ok (.invokespecial 41, 3) := by decide +kernel
theorem dc_C_init_72 : decode cd_C_init 72 = .ok (.putfield 42, 3) := by decide +kernel
theorem dc_C_init_75 : decode cd_C_init 75 = .ok (.aload_n 0, 1) := by decide +kernel
theorem dc_C_init_76 : decode cd_C_init 76 = .ok (.bipush 12, 2) := by decide +kernel
theorem dc_C_init_78 : decode cd_C_init 78 = .ok (.newarray .int, 2) := by decide +kernel
theorem dc_C_init_80 : decode cd_C_init 80 = .ok (.putfield 46, 3) := by decide +kernel
theorem dc_C_init_83 : decode cd_C_init 83 = .ok (.aload_n 0, 1) := by decide +kernel
theorem dc_C_init_84 : decode cd_C_init 84 = .ok (.bipush 12, 2) := by decide +kernel
theorem dc_C_init_86 : decode cd_C_init 86 = .ok (.newarray .int, 2) := by decide +kernel
theorem dc_C_init_88 : decode cd_C_init 88 = .ok (.putfield 50, 3) := by decide +kernel
theorem dc_C_init_91 : decode cd_C_init 91 = .ok (.aload_n 0, 1) := by decide +kernel
theorem dc_C_init_92 : decode cd_C_init 92 = .ok (.iconst 2, 1) := by decide +kernel
theorem dc_C_init_93 : decode cd_C_init 93 = .ok (.newarray .int, 2) := by decide +kernel
theorem dc_C_init_95 : decode cd_C_init 95 = .ok (.putfield 53, 3) := by decide +kernel
theorem dc_C_init_98 : decode cd_C_init 98 = .ok (.return_, 1) := by decide +kernel
theorem dc_W_init_0 : decode cd_W_init 0 = .ok (.aload_n 0, 1) := by decide +kernel
theorem dc_W_init_1 : decode cd_W_init 1 = .ok (.invokespecial 3, 3) := by decide +kernel
theorem dc_W_init_4 : decode cd_W_init 4 = .ok (.aload_n 0, 1) := by decide +kernel
theorem dc_W_init_5 : decode cd_W_init 5 = .ok (.bipush 12, 2) := by decide +kernel
theorem dc_W_init_7 : decode cd_W_init 7 = .ok (.newarray .int, 2) := by decide +kernel
theorem dc_W_init_9 : decode cd_W_init 9 = .ok (.putfield 9, 3) := by decide +kernel
theorem dc_W_init_12 : decode cd_W_init 12 = .ok (.aload_n 0, 1) := by decide +kernel
theorem dc_W_init_13 : decode cd_W_init 13 = .ok (.bipush 12, 2) := by decide +kernel
theorem dc_W_init_15 : decode cd_W_init 15 = .ok (.newarray .int, 2) := by decide +kernel
theorem dc_W_init_17 : decode cd_W_init 17 = .ok (.putfield 15, 3) := by decide +kernel
theorem dc_W_init_20 : decode cd_W_init 20 = .ok (.aload_n 0, 1) := by decide +kernel
theorem dc_W_init_21 : decode cd_W_init 21 = .ok (.bipush 8, 2) := by decide +kernel
theorem dc_W_init_23 : decode cd_W_init 23 = .ok (.newarray .int, 2) := by decide +kernel
theorem dc_W_init_25 : decode cd_W_init 25 = .ok (.putfield 18, 3) := by decide +kernel
theorem dc_W_init_28 : decode cd_W_init 28 = .ok (.return_, 1) := by decide +kernel
theorem dc_M_init_0 : decode cd_M_init 0 = .ok (.aload_n 0, 1) := by decide +kernel
theorem dc_M_init_1 : decode cd_M_init 1 = .ok (.aload_n 1, 1) := by decide +kernel
theorem dc_M_init_2 : decode cd_M_init 2 = .ok (.invokespecial 3, 3) := by decide +kernel
theorem dc_M_init_5 : decode cd_M_init 5 = .ok (.return_, 1) := by decide +kernel
theorem dc_V_init_0 : decode cd_V_init 0 = .ok (.aload_n 0, 1) := by decide +kernel
theorem dc_V_init_1 : decode cd_V_init 1 = .ok (.invokespecial 3, 3) := by decide +kernel
theorem dc_V_init_4 : decode cd_V_init 4 = .ok (.aload_n 0, 1) := by decide +kernel
theorem dc_V_init_5 : decode cd_V_init 5 = .ok (.sipush 4096, 3) := by decide +kernel
theorem dc_V_init_8 : decode cd_V_init 8 = .ok (.newarray .byte, 2) := by decide +kernel
theorem dc_V_init_10 : decode cd_V_init 10 = .ok (.putfield 9, 3) := by decide +kernel
theorem dc_V_init_13 : decode cd_V_init 13 = .ok (.aload_n 0, 1) := by decide +kernel
theorem dc_V_init_14 : decode cd_V_init 14 = .ok (.aload_n 1, 1) := by decide +kernel
theorem dc_V_init_15 : decode cd_V_init 15 = .ok (.putfield 15, 3) := by decide +kernel
theorem dc_V_init_18 : decode cd_V_init 18 = .ok (.return_, 1) := by decide +kernel
theorem dc_N_init_0 : decode cd_N_init 0 = .ok (.aload_n 0, 1) := by decide +kernel
theorem dc_N_init_1 : decode cd_N_init 1 = .ok (.aload_n 1, 1) := by decide +kernel
theorem dc_N_init_2 : decode cd_N_init 2 = .ok (.invokespecial 3, 3) := by decide +kernel
theorem dc_N_init_5 : decode cd_N_init 5 = .ok (.return_, 1) := by decide +kernel
theorem dc_G_init_0 : decode cd_G_init 0 = .ok (.aload_n 0, 1) := by decide +kernel
theorem dc_G_init_1 : decode cd_G_init 1 = .ok (.invokespecial 3, 3) := by decide +kernel
theorem dc_G_init_4 : decode cd_G_init 4 = .ok (.aload_n 0, 1) := by decide +kernel
theorem dc_G_init_5 : decode cd_G_init 5 = .ok (.bipush 8, 2) := by decide +kernel
theorem dc_G_init_7 : decode cd_G_init 7 = .ok (.newarray .int, 2) := by decide +kernel
theorem dc_G_init_9 : decode cd_G_init 9 = .ok (.putfield 9, 3) := by decide +kernel
theorem dc_G_init_12 : decode cd_G_init 12 = .ok (.aload_n 0, 1) := by decide +kernel
theorem dc_G_init_13 : decode cd_G_init 13 = .ok (.aload_n 1, 1) := by decide +kernel
theorem dc_G_init_14 : decode cd_G_init 14 = .ok (.putfield 15, 3) := by decide +kernel
theorem dc_G_init_17 : decode cd_G_init 17 = .ok (.return_, 1) := by decide +kernel
theorem dc_T_init_0 : decode cd_T_init 0 = .ok (.aload_n 0, 1) := by decide +kernel
theorem dc_T_init_1 : decode cd_T_init 1 = .ok (.invokespecial 3, 3) := by decide +kernel
theorem dc_T_init_4 : decode cd_T_init 4 = .ok (.aload_n 0, 1) := by decide +kernel
theorem dc_T_init_5 : decode cd_T_init 5 = .ok (.bipush 84, 2) := by decide +kernel
theorem dc_T_init_7 : decode cd_T_init 7 = .ok (.newarray .char, 2) := by decide +kernel
theorem dc_T_init_9 : decode cd_T_init 9 = .ok (.putfield 11, 3) := by decide +kernel
theorem dc_T_init_12 : decode cd_T_init 12 = .ok (.aload_n 0, 1) := by decide +kernel
theorem dc_T_init_13 : decode cd_T_init 13 = .ok (.aload_n 1, 1) := by decide +kernel
theorem dc_T_init_14 : decode cd_T_init 14 = .ok (.putfield 15, 3) := by decide +kernel
theorem dc_T_init_17 : decode cd_T_init 17 = .ok (.return_, 1) := by decide +kernel
theorem dc_C_clear_0 : decode cd_C_clear 0 = .ok (.aload_n 0, 1) := by decide +kernel
theorem dc_C_clear_1 : decode cd_C_clear 1 = .ok (.getfield 12, 3) := by decide +kernel
theorem dc_C_clear_4 : decode cd_C_clear 4 = .ok (.invokevirtual 96, 3) := by decide +kernel
theorem dc_C_clear_7 : decode cd_C_clear 7 = .ok (.aload_n 0, 1) := by decide +kernel
theorem dc_C_clear_8 : decode cd_C_clear 8 = .ok (.getfield 53, 3) := by decide +kernel
theorem dc_C_clear_11 : decode cd_C_clear 11 = .ok (.iconst 0, 1) := by decide +kernel
theorem dc_C_clear_12 : decode cd_C_clear 12 = .ok (.invokestatic 99, 3) := by decide +kernel
theorem dc_C_clear_15 : decode cd_C_clear 15 = .ok (.aload_n 0, 1) := by decide +kernel
theorem dc_C_clear_16 : decode cd_C_clear 16 = .ok (.iconst 0, 1) := by decide +kernel
theorem dc_C_clear_17 : decode cd_C_clear 17 = .ok (.putfield 105, 3) := by decide +kernel
theorem dc_C_clear_20 : decode cd_C_clear 20 = .ok (.aload_n 0, 1) := by decide +kernel
theorem dc_C_clear_21 : decode cd_C_clear 21 = .ok (.iconst 0, 1) := by decide +kernel
theorem dc_C_clear_22 : decode cd_C_clear 22 = .ok (.putfield 81, 3) := by decide +kernel
theorem dc_C_clear_25 : decode cd_C_clear 25 = .ok (.aload_n 0, 1) := by decide +kernel
theorem dc_C_clear_26 : decode cd_C_clear 26 = .ok (.iconst 0, 1) := by decide +kernel
theorem dc_C_clear_27 : decode cd_C_clear 27 = .ok (.putfield 108, 3) := by decide +kernel
theorem dc_C_clear_30 : decode cd_C_clear 30 = .ok (.aload_n 0, 1) := by decide +kernel
theorem dc_C_clear_31 : decode cd_C_clear 31 = .ok (.iconst 0, 1) := by decide +kernel
theorem dc_C_clear_32 : decode cd_C_clear 32 = .ok (.putfield 63, 3) := by decide +kernel
theorem dc_C_clear_35 : decode cd_C_clear 35 = .ok (.return_, 1) := by decide +kernel
theorem dc_W_dropAll_0 : decode cd_W_dropAll 0 = .ok (.aload_n 0, 1) := by decide +kernel
theorem dc_W_dropAll_1 : decode cd_W_dropAll 1 = .ok (.iconst 0, 1) := by decide +kernel
theorem dc_W_dropAll_2 : decode cd_W_dropAll 2 = .ok (.putfield 21, 3) := by decide +kernel
theorem dc_W_dropAll_5 : decode cd_W_dropAll 5 = .ok (.aload_n 0, 1) := by decide +kernel
theorem dc_W_dropAll_6 : decode cd_W_dropAll 6 = .ok (.getfield 18, 3) := by decide +kernel
theorem dc_W_dropAll_9 : decode cd_W_dropAll 9 = .ok (.iconst 0, 1) := by decide +kernel
theorem dc_W_dropAll_10 : decode cd_W_dropAll 10 = .ok (.invokestatic 25, 3) := by decide +kernel
theorem dc_W_dropAll_13 : decode cd_W_dropAll 13 = .ok (.return_, 1) := by decide +kernel
theorem dc_A_fill_0 : decode cd_A_fill 0 = .ok (.iconst 0, 1) := by decide +kernel
theorem dc_A_fill_1 : decode cd_A_fill 1 = .ok (.istore_n 2, 1) := by decide +kernel
theorem dc_A_fill_2 : decode cd_A_fill 2 = .ok (.aload_n 0, 1) := by decide +kernel
theorem dc_A_fill_3 : decode cd_A_fill 3 = .ok (.arraylength, 1) := by decide +kernel
theorem dc_A_fill_4 : decode cd_A_fill 4 = .ok (.istore_n 3, 1) := by decide +kernel
theorem dc_A_fill_5 : decode cd_A_fill 5 = .ok (.iload_n 2, 1) := by decide +kernel
theorem dc_A_fill_6 : decode cd_A_fill 6 = .ok (.iload_n 3, 1) := by decide +kernel
theorem dc_A_fill_7 : decode cd_A_fill 7 = .ok (.if_icmp .ge 13, 3) := by decide +kernel
theorem dc_A_fill_10 : decode cd_A_fill 10 = .ok (.aload_n 0, 1) := by decide +kernel
theorem dc_A_fill_11 : decode cd_A_fill 11 = .ok (.iload_n 2, 1) := by decide +kernel
theorem dc_A_fill_12 : decode cd_A_fill 12 = .ok (.iload_n 1, 1) := by decide +kernel
theorem dc_A_fill_13 : decode cd_A_fill 13 = .ok (.iastore, 1) := by decide +kernel
theorem dc_A_fill_14 : decode cd_A_fill 14 = .ok (.iinc 2 1, 3) := by decide +kernel
theorem dc_A_fill_17 : decode cd_A_fill 17 = .ok (.goto (-12), 3) := by decide +kernel
theorem dc_A_fill_20 : decode cd_A_fill 20 = .ok (.return_, 1) := by decide +kernel
theorem dc_C_turn_0 : decode cd_C_turn 0 = .ok (.aload_n 0, 1) := by decide +kernel
theorem dc_C_turn_1 : decode cd_C_turn 1 = .ok (.getfield 108, 3) := by decide +kernel
theorem dc_C_turn_4 : decode cd_C_turn 4 = .ok (.ireturn, 1) := by decide +kernel
theorem dc_C_left_0 : decode cd_C_left 0 = .ok (.aload_n 0, 1) := by decide +kernel
theorem dc_C_left_1 : decode cd_C_left 1 = .ok (.getfield 81, 3) := by decide +kernel
theorem dc_C_left_4 : decode cd_C_left 4 = .ok (.ireturn, 1) := by decide +kernel
theorem dc_C_groups_0 : decode cd_C_groups 0 = .ok (.aload_n 0, 1) := by decide +kernel
theorem dc_C_groups_1 : decode cd_C_groups 1 = .ok (.getfield 35, 3) := by decide +kernel
theorem dc_C_groups_4 : decode cd_C_groups 4 = .ok (.aload_n 0, 1) := by decide +kernel
theorem dc_C_groups_5 : decode cd_C_groups 5 = .ok (.getfield 81, 3) := by decide +kernel
theorem dc_C_groups_8 : decode cd_C_groups 8 = .ok (.invokevirtual 145, 3) := by decide +kernel
theorem dc_C_groups_11 : decode cd_C_groups 11 = .ok (.aload_n 0, 1) := by decide +kernel
theorem dc_C_groups_12 : decode cd_C_groups 12 = .ok (.getfield 35, 3) := by decide +kernel
theorem dc_C_groups_15 : decode cd_C_groups 15 = .ok (.invokevirtual 149, 3) := by decide +kernel
theorem dc_C_groups_18 : decode cd_C_groups 18 = .ok (.ireturn, 1) := by decide +kernel
theorem dc_G_sort_0 : decode cd_G_sort 0 = .ok (.iconst 0, 1) := by decide +kernel
theorem dc_G_sort_1 : decode cd_G_sort 1 = .ok (.istore_n 2, 1) := by decide +kernel
theorem dc_G_sort_2 : decode cd_G_sort 2 = .ok (.iload_n 2, 1) := by decide +kernel
theorem dc_G_sort_3 : decode cd_G_sort 3 = .ok (.bipush 8, 2) := by decide +kernel
theorem dc_G_sort_5 : decode cd_G_sort 5 = .ok (.if_icmp .ge 33, 3) := by decide +kernel
theorem dc_G_sort_8 : decode cd_G_sort 8 = .ok (.aload_n 0, 1) := by decide +kernel
theorem dc_G_sort_9 : decode cd_G_sort 9 = .ok (.getfield 9, 3) := by decide +kernel
theorem dc_G_sort_12 : decode cd_G_sort 12 = .ok (.iload_n 2, 1) := by decide +kernel
theorem dc_G_sort_13 : decode cd_G_sort 13 = .ok (.aload_n 0, 1) := by decide +kernel
theorem dc_G_sort_14 : decode cd_G_sort 14 = .ok (.getfield 15, 3) := by decide +kernel
theorem dc_G_sort_17 : decode cd_G_sort 17 = .ok (.iload_n 1, 1) := by decide +kernel
theorem dc_G_sort_18 : decode cd_G_sort 18 = .ok (.iload_n 2, 1) := by decide +kernel
theorem dc_G_sort_19 : decode cd_G_sort 19 = .ok (.invokevirtual 19, 3) := by decide +kernel
theorem dc_G_sort_22 : decode cd_G_sort 22 = .ok (.iconst 2, 1) := by decide +kernel
theorem dc_G_sort_23 : decode cd_G_sort 23 = .ok (.if_icmp .ne 7, 3) := by decide +kernel
theorem dc_G_sort_26 : decode cd_G_sort 26 = .ok (.iload_n 2, 1) := by decide +kernel
theorem dc_G_sort_27 : decode cd_G_sort 27 = .ok (.goto 4, 3) := by decide +kernel
theorem dc_G_sort_30 : decode cd_G_sort 30 = .ok (.iconst (-1), 1) := by decide +kernel
theorem dc_G_sort_31 : decode cd_G_sort 31 = .ok (.iastore, 1) := by decide +kernel
theorem dc_G_sort_32 : decode cd_G_sort 32 = .ok (.iinc 2 1, 3) := by decide +kernel
theorem dc_G_sort_35 : decode cd_G_sort 35 = .ok (.goto (-33), 3) := by decide +kernel
theorem dc_G_sort_38 : decode cd_G_sort 38 = .ok (.iconst 0, 1) := by decide +kernel
theorem dc_G_sort_39 : decode cd_G_sort 39 = .ok (.istore_n 2, 1) := by decide +kernel
theorem dc_G_sort_40 : decode cd_G_sort 40 = .ok (.iload_n 2, 1) := by decide +kernel
theorem dc_G_sort_41 : decode cd_G_sort 41 = .ok (.aload_n 0, 1) := by decide +kernel
theorem dc_G_sort_42 : decode cd_G_sort 42 = .ok (.getfield 15, 3) := by decide +kernel
theorem dc_G_sort_45 : decode cd_G_sort 45 = .ok (.invokevirtual 25, 3) := by decide +kernel
theorem dc_G_sort_48 : decode cd_G_sort 48 = .ok (.if_icmp .ge 45, 3) := by decide +kernel
theorem dc_G_sort_51 : decode cd_G_sort 51 = .ok (.iload_n 1, 1) := by decide +kernel
theorem dc_G_sort_52 : decode cd_G_sort 52 = .ok (.iload_n 2, 1) := by decide +kernel
theorem dc_G_sort_53 : decode cd_G_sort 53 = .ok (.invokestatic 29, 3) := by decide +kernel
theorem dc_G_sort_56 : decode cd_G_sort 56 = .ok (.ifCond .eq 31, 3) := by decide +kernel
theorem dc_G_sort_59 : decode cd_G_sort 59 = .ok (.aload_n 0, 1) := by decide +kernel
theorem dc_G_sort_60 : decode cd_G_sort 60 = .ok (.aload_n 0, 1) := by decide +kernel
theorem dc_G_sort_61 : decode cd_G_sort 61 = .ok (.aload_n 0, 1) := by decide +kernel
theorem dc_G_sort_62 : decode cd_G_sort 62 = .ok (.getfield 15, 3) := by decide +kernel
theorem dc_G_sort_65 : decode cd_G_sort 65 = .ok (.iload_n 2, 1) := by decide +kernel
theorem dc_G_sort_66 : decode cd_G_sort 66 = .ok (.invokevirtual 33, 3) := by decide +kernel
theorem dc_G_sort_69 : decode cd_G_sort 69 = .ok (.invokevirtual 37, 3) := by decide +kernel
theorem dc_G_sort_72 : decode cd_G_sort 72 = .ok (.aload_n 0, 1) := by decide +kernel
theorem dc_G_sort_73 : decode cd_G_sort 73 = .ok (.aload_n 0, 1) := by decide +kernel
theorem dc_G_sort_74 : decode cd_G_sort 74 = .ok (.getfield 15, 3) := by decide +kernel
theorem dc_G_sort_77 : decode cd_G_sort 77 = .ok (.iload_n 2, 1) := by decide +kernel
theorem dc_G_sort_78 : decode cd_G_sort 78 = .ok (.invokevirtual 40, 3) := by decide +kernel
theorem dc_G_sort_81 : decode cd_G_sort 81 = .ok (.invokevirtual 37, 3) := by decide +kernel
theorem dc_G_sort_84 : decode cd_G_sort 84 = .ok (.invokevirtual 43, 3) := by decide +kernel
theorem dc_G_sort_87 : decode cd_G_sort 87 = .ok (.iinc 2 1, 3) := by decide +kernel
theorem dc_G_sort_90 : decode cd_G_sort 90 = .ok (.goto (-50), 3) := by decide +kernel
theorem dc_G_sort_93 : decode cd_G_sort 93 = .ok (.return_, 1) := by decide +kernel
theorem dc_W_holding_0 : decode cd_W_holding 0 = .ok (.iload_n 1, 1) := by decide +kernel
theorem dc_W_holding_1 : decode cd_W_holding 1 = .ok (.aload_n 0, 1) := by decide +kernel
theorem dc_W_holding_2 : decode cd_W_holding 2 = .ok (.getfield 18, 3) := by decide +kernel
theorem dc_W_holding_5 : decode cd_W_holding 5 = .ok (.iload_n 2, 1) := by decide +kernel
theorem dc_W_holding_6 : decode cd_W_holding 6 = .ok (.iaload, 1) := by decide +kernel
theorem dc_W_holding_7 : decode cd_W_holding 7 = .ok (.iand, 1) := by decide +kernel
theorem dc_W_holding_8 : decode cd_W_holding 8 = .ok (.invokestatic 44, 3) := by decide +kernel
theorem dc_W_holding_11 : decode cd_W_holding 11 = .ok (.ireturn, 1) := by decide +kernel
theorem dc_I_bitCount_0 : decode cd_I_bitCount 0 = .ok (.iload_n 0, 1) := by decide +kernel
theorem dc_I_bitCount_1 : decode cd_I_bitCount 1 = .ok (.iload_n 0, 1) := by decide +kernel
theorem dc_I_bitCount_2 : decode cd_I_bitCount 2 = .ok (.iconst 1, 1) := by decide +kernel
theorem dc_I_bitCount_3 : decode cd_I_bitCount 3 = .ok (.iushr, 1) := by decide +kernel
theorem dc_I_bitCount_4 : decode cd_I_bitCount 4 = .ok (.ldc_w 265, 3) := by decide +kernel
theorem dc_I_bitCount_7 : decode cd_I_bitCount 7 = .ok (.iand, 1) := by decide +kernel
theorem dc_I_bitCount_8 : decode cd_I_bitCount 8 = .ok (.isub, 1) := by decide +kernel
theorem dc_I_bitCount_9 : decode cd_I_bitCount 9 = .ok (.istore_n 0, 1) := by decide +kernel
theorem dc_I_bitCount_10 : decode cd_I_bitCount 10 = .ok (.iload_n 0, 1) := by decide +kernel
theorem dc_I_bitCount_11 : decode cd_I_bitCount 11 = .ok (.ldc_w 266, 3) := by decide +kernel
theorem dc_I_bitCount_14 : decode cd_I_bitCount 14 = .ok (.iand, 1) := by decide +kernel
theorem dc_I_bitCount_15 : decode cd_I_bitCount 15 = .ok (.iload_n 0, 1) := by decide +kernel
theorem dc_I_bitCount_16 : decode cd_I_bitCount 16 = .ok (.iconst 2, 1) := by decide +kernel
theorem dc_I_bitCount_17 : decode cd_I_bitCount 17 = .ok (.iushr, 1) := by decide +kernel
theorem dc_I_bitCount_18 : decode cd_I_bitCount 18 = .ok (.ldc_w 266, 3) := by decide +kernel
theorem dc_I_bitCount_21 : decode cd_I_bitCount 21 = .ok (.iand, 1) := by decide +kernel
theorem dc_I_bitCount_22 : decode cd_I_bitCount 22 = .ok (.iadd, 1) := by decide +kernel
theorem dc_I_bitCount_23 : decode cd_I_bitCount 23 = .ok (.istore_n 0, 1) := by decide +kernel
theorem dc_I_bitCount_24 : decode cd_I_bitCount 24 = .ok (.iload_n 0, 1) := by decide +kernel
theorem dc_I_bitCount_25 : decode cd_I_bitCount 25 = .ok (.iload_n 0, 1) := by decide +kernel
theorem dc_I_bitCount_26 : decode cd_I_bitCount 26 = .ok (.iconst 4, 1) := by decide +kernel
theorem dc_I_bitCount_27 : decode cd_I_bitCount 27 = .ok (.iushr, 1) := by decide +kernel
theorem dc_I_bitCount_28 : decode cd_I_bitCount 28 = .ok (.iadd, 1) := by decide +kernel
theorem dc_I_bitCount_29 : decode cd_I_bitCount 29 = .ok (.ldc_w 267, 3) := by decide +kernel
theorem dc_I_bitCount_32 : decode cd_I_bitCount 32 = .ok (.iand, 1) := by decide +kernel
theorem dc_I_bitCount_33 : decode cd_I_bitCount 33 = .ok (.istore_n 0, 1) := by decide +kernel
theorem dc_I_bitCount_34 : decode cd_I_bitCount 34 = .ok (.iload_n 0, 1) := by decide +kernel
theorem dc_I_bitCount_35 : decode cd_I_bitCount 35 = .ok (.iload_n 0, 1) := by decide +kernel
theorem dc_I_bitCount_36 : decode cd_I_bitCount 36 = .ok (.bipush 8, 2) := by decide +kernel
theorem dc_I_bitCount_38 : decode cd_I_bitCount 38 = .ok (.iushr, 1) := by decide +kernel
theorem dc_I_bitCount_39 : decode cd_I_bitCount 39 = .ok (.iadd, 1) := by decide +kernel
theorem dc_I_bitCount_40 : decode cd_I_bitCount 40 = .ok (.istore_n 0, 1) := by decide +kernel
theorem dc_I_bitCount_41 : decode cd_I_bitCount 41 = .ok (.iload_n 0, 1) := by decide +kernel
theorem dc_I_bitCount_42 : decode cd_I_bitCount 42 = .ok (.iload_n 0, 1) := by decide +kernel
theorem dc_I_bitCount_43 : decode cd_I_bitCount 43 = .ok (.bipush 16, 2) := by decide +kernel
theorem dc_I_bitCount_45 : decode cd_I_bitCount 45 = .ok (.iushr, 1) := by decide +kernel
theorem dc_I_bitCount_46 : decode cd_I_bitCount 46 = .ok (.iadd, 1) := by decide +kernel
theorem dc_I_bitCount_47 : decode cd_I_bitCount 47 = .ok (.istore_n 0, 1) := by decide +kernel
theorem dc_I_bitCount_48 : decode cd_I_bitCount 48 = .ok (.iload_n 0, 1) := by decide +kernel
theorem dc_I_bitCount_49 : decode cd_I_bitCount 49 = .ok (.bipush 63, 2) := by decide +kernel
theorem dc_I_bitCount_51 : decode cd_I_bitCount 51 = .ok (.iand, 1) := by decide +kernel
theorem dc_I_bitCount_52 : decode cd_I_bitCount 52 = .ok (.ireturn, 1) := by decide +kernel
theorem dc_W_size_0 : decode cd_W_size 0 = .ok (.aload_n 0, 1) := by decide +kernel
theorem dc_W_size_1 : decode cd_W_size 1 = .ok (.getfield 21, 3) := by decide +kernel
theorem dc_W_size_4 : decode cd_W_size 4 = .ok (.ireturn, 1) := by decide +kernel
theorem dc_C_has_0 : decode cd_C_has 0 = .ok (.iload_n 0, 1) := by decide +kernel
theorem dc_C_has_1 : decode cd_C_has 1 = .ok (.iload_n 1, 1) := by decide +kernel
theorem dc_C_has_2 : decode cd_C_has 2 = .ok (.ishr, 1) := by decide +kernel
theorem dc_C_has_3 : decode cd_C_has 3 = .ok (.iconst 1, 1) := by decide +kernel
theorem dc_C_has_4 : decode cd_C_has 4 = .ok (.iand, 1) := by decide +kernel
theorem dc_C_has_5 : decode cd_C_has 5 = .ok (.iconst 1, 1) := by decide +kernel
theorem dc_C_has_6 : decode cd_C_has 6 = .ok (.if_icmp .ne 7, 3) := by decide +kernel
theorem dc_C_has_9 : decode cd_C_has 9 = .ok (.iconst 1, 1) := by decide +kernel
theorem dc_C_has_10 : decode cd_C_has 10 = .ok (.goto 4, 3) := by decide +kernel
theorem dc_C_has_13 : decode cd_C_has 13 = .ok (.iconst 0, 1) := by decide +kernel
theorem dc_C_has_14 : decode cd_C_has 14 = .ok (.ireturn, 1) := by decide +kernel
theorem dc_W_lesserEnd_0 : decode cd_W_lesserEnd 0 = .ok (.aload_n 0, 1) := by decide +kernel
theorem dc_W_lesserEnd_1 : decode cd_W_lesserEnd 1 = .ok (.getfield 9, 3) := by decide +kernel
theorem dc_W_lesserEnd_4 : decode cd_W_lesserEnd 4 = .ok (.iload_n 1, 1) := by decide +kernel
theorem dc_W_lesserEnd_5 : decode cd_W_lesserEnd 5 = .ok (.iaload, 1) := by decide +kernel
theorem dc_W_lesserEnd_6 : decode cd_W_lesserEnd 6 = .ok (.ireturn, 1) := by decide +kernel
theorem dc_G_leaderOf_0 : decode cd_G_leaderOf 0 = .ok (.iload_n 1, 1) := by decide +kernel
theorem dc_G_leaderOf_1 : decode cd_G_leaderOf 1 = .ok (.iconst (-1), 1) := by decide +kernel
theorem dc_G_leaderOf_2 : decode cd_G_leaderOf 2 = .ok (.if_icmp .ne 7, 3) := by decide +kernel
theorem dc_G_leaderOf_5 : decode cd_G_leaderOf 5 = .ok (.iconst (-1), 1) := by decide +kernel
theorem dc_G_leaderOf_6 : decode cd_G_leaderOf 6 = .ok (.goto 9, 3) := by decide +kernel
theorem dc_G_leaderOf_9 : decode cd_G_leaderOf 9 = .ok (.aload_n 0, 1) := by decide +kernel
theorem dc_G_leaderOf_10 : decode cd_G_leaderOf 10 = .ok (.getfield 9, 3) := by decide +kernel
theorem dc_G_leaderOf_13 : decode cd_G_leaderOf 13 = .ok (.iload_n 1, 1) := by decide +kernel
theorem dc_G_leaderOf_14 : decode cd_G_leaderOf 14 = .ok (.iaload, 1) := by decide +kernel
theorem dc_G_leaderOf_15 : decode cd_G_leaderOf 15 = .ok (.ireturn, 1) := by decide +kernel
theorem dc_W_otherEnd_0 : decode cd_W_otherEnd 0 = .ok (.aload_n 0, 1) := by decide +kernel
theorem dc_W_otherEnd_1 : decode cd_W_otherEnd 1 = .ok (.getfield 15, 3) := by decide +kernel
theorem dc_W_otherEnd_4 : decode cd_W_otherEnd 4 = .ok (.iload_n 1, 1) := by decide +kernel
theorem dc_W_otherEnd_5 : decode cd_W_otherEnd 5 = .ok (.iaload, 1) := by decide +kernel
theorem dc_W_otherEnd_6 : decode cd_W_otherEnd 6 = .ok (.ireturn, 1) := by decide +kernel
theorem dc_G_unite_0 : decode cd_G_unite 0 = .ok (.iload_n 1, 1) := by decide +kernel
theorem dc_G_unite_1 : decode cd_G_unite 1 = .ok (.iconst (-1), 1) := by decide +kernel
theorem dc_G_unite_2 : decode cd_G_unite 2 = .ok (.if_icmp .eq 8, 3) := by decide +kernel
theorem dc_G_unite_5 : decode cd_G_unite 5 = .ok (.iload_n 2, 1) := by decide +kernel
theorem dc_G_unite_6 : decode cd_G_unite 6 = .ok (.iconst (-1), 1) := by decide +kernel
theorem dc_G_unite_7 : decode cd_G_unite 7 = .ok (.if_icmp .ne 4, 3) := by decide +kernel
theorem dc_G_unite_10 : decode cd_G_unite 10 = .ok (.return_, 1) := by decide +kernel
theorem dc_G_unite_11 : decode cd_G_unite 11 = .ok (.iconst 0, 1) := by decide +kernel
theorem dc_G_unite_12 : decode cd_G_unite 12 = .ok (.istore_n 3, 1) := by decide +kernel
theorem dc_G_unite_13 : decode cd_G_unite 13 = .ok (.iload_n 3, 1) := by decide +kernel
theorem dc_G_unite_14 : decode cd_G_unite 14 = .ok (.bipush 8, 2) := by decide +kernel
theorem dc_G_unite_16 : decode cd_G_unite 16 = .ok (.if_icmp .ge 34, 3) := by decide +kernel
theorem dc_G_unite_19 : decode cd_G_unite 19 = .ok (.aload_n 0, 1) := by decide +kernel
theorem dc_G_unite_20 : decode cd_G_unite 20 = .ok (.getfield 9, 3) := by decide +kernel
theorem dc_G_unite_23 : decode cd_G_unite 23 = .ok (.iload_n 3, 1) := by decide +kernel
theorem dc_G_unite_24 : decode cd_G_unite 24 = .ok (.iaload, 1) := by decide +kernel
theorem dc_G_unite_25 : decode cd_G_unite 25 = .ok (.iload_n 1, 1) := by decide +kernel
theorem dc_G_unite_26 : decode cd_G_unite 26 = .ok (.iload_n 2, 1) := by decide +kernel
theorem dc_G_unite_27 : decode cd_G_unite 27 = .ok (.invokestatic 47, 3) := by decide +kernel
theorem dc_G_unite_30 : decode cd_G_unite 30 = .ok (.if_icmp .ne 14, 3) := by decide +kernel
theorem dc_G_unite_33 : decode cd_G_unite 33 = .ok (.aload_n 0, 1) := by decide +kernel
theorem dc_G_unite_34 : decode cd_G_unite 34 = .ok (.getfield 9, 3) := by decide +kernel
theorem dc_G_unite_37 : decode cd_G_unite 37 = .ok (.iload_n 3, 1) := by decide +kernel
theorem dc_G_unite_38 : decode cd_G_unite 38 = .ok (.iload_n 1, 1) := by decide +kernel
theorem dc_G_unite_39 : decode cd_G_unite 39 = .ok (.iload_n 2, 1) := by decide +kernel
theorem dc_G_unite_40 : decode cd_G_unite 40 = .ok (.invokestatic 52, 3) := by decide +kernel
theorem dc_G_unite_43 : decode cd_G_unite 43 = .ok (.iastore, 1) := by decide +kernel
theorem dc_G_unite_44 : decode cd_G_unite 44 = .ok (.iinc 3 1, 3) := by decide +kernel
theorem dc_G_unite_47 : decode cd_G_unite 47 = .ok (.goto (-34), 3) := by decide +kernel
theorem dc_G_unite_50 : decode cd_G_unite 50 = .ok (.return_, 1) := by decide +kernel
theorem dc_G_count_0 : decode cd_G_count 0 = .ok (.iconst 0, 1) := by decide +kernel
theorem dc_G_count_1 : decode cd_G_count 1 = .ok (.istore_n 1, 1) := by decide +kernel
theorem dc_G_count_2 : decode cd_G_count 2 = .ok (.iconst 0, 1) := by decide +kernel
theorem dc_G_count_3 : decode cd_G_count 3 = .ok (.istore_n 2, 1) := by decide +kernel
theorem dc_G_count_4 : decode cd_G_count 4 = .ok (.iload_n 2, 1) := by decide +kernel
theorem dc_G_count_5 : decode cd_G_count 5 = .ok (.bipush 8, 2) := by decide +kernel
theorem dc_G_count_7 : decode cd_G_count 7 = .ok (.if_icmp .ge 22, 3) := by decide +kernel
theorem dc_G_count_10 : decode cd_G_count 10 = .ok (.aload_n 0, 1) := by decide +kernel
theorem dc_G_count_11 : decode cd_G_count 11 = .ok (.getfield 9, 3) := by decide +kernel
theorem dc_G_count_14 : decode cd_G_count 14 = .ok (.iload_n 2, 1) := by decide +kernel
theorem dc_G_count_15 : decode cd_G_count 15 = .ok (.iaload, 1) := by decide +kernel
theorem dc_G_count_16 : decode cd_G_count 16 = .ok (.iload_n 2, 1) := by decide +kernel
theorem dc_G_count_17 : decode cd_G_count 17 = .ok (.if_icmp .ne 6, 3) := by decide +kernel
theorem dc_G_count_20 : decode cd_G_count 20 = .ok (.iinc 1 1, 3) := by decide +kernel
theorem dc_G_count_23 : decode cd_G_count 23 = .ok (.iinc 2 1, 3) := by decide +kernel
theorem dc_G_count_26 : decode cd_G_count 26 = .ok (.goto (-22), 3) := by decide +kernel
theorem dc_G_count_29 : decode cd_G_count 29 = .ok (.iload_n 1, 1) := by decide +kernel
theorem dc_G_count_30 : decode cd_G_count 30 = .ok (.ireturn, 1) := by decide +kernel
theorem dc_C_show_0 : decode cd_C_show 0 = .ok (.aload_n 0, 1) := by decide +kernel
theorem dc_C_show_1 : decode cd_C_show 1 = .ok (.getfield 42, 3) := by decide +kernel
theorem dc_C_show_4 : decode cd_C_show 4 = .ok (.aload_n 0, 1) := by decide +kernel
theorem dc_C_show_5 : decode cd_C_show 5 = .ok (.getfield 81, 3) := by decide +kernel
theorem dc_C_show_8 : decode cd_C_show 8 = .ok (.invokevirtual 161, 3) := by decide +kernel
theorem dc_C_show_11 : decode cd_C_show 11 = .ok (.aload_n 0, 1) := by decide +kernel
theorem dc_C_show_12 : decode cd_C_show 12 = .ok (.getfield 42, 3) := by decide +kernel
theorem dc_C_show_15 : decode cd_C_show 15 = .ok (.invokevirtual 164, 3) := by decide +kernel
theorem dc_C_show_18 : decode cd_C_show 18 = .ok (.ireturn, 1) := by decide +kernel
theorem dc_T_write_0 : decode cd_T_write 0 = .ok (.aload_n 0, 1) := by decide +kernel
theorem dc_T_write_1 : decode cd_T_write 1 = .ok (.iconst 0, 1) := by decide +kernel
theorem dc_T_write_2 : decode cd_T_write 2 = .ok (.putfield 19, 3) := by decide +kernel
theorem dc_T_write_5 : decode cd_T_write 5 = .ok (.iconst 0, 1) := by decide +kernel
theorem dc_T_write_6 : decode cd_T_write 6 = .ok (.istore_n 2, 1) := by decide +kernel
theorem dc_T_write_7 : decode cd_T_write 7 = .ok (.iload_n 2, 1) := by decide +kernel
theorem dc_T_write_8 : decode cd_T_write 8 = .ok (.aload_n 0, 1) := by decide +kernel
theorem dc_T_write_9 : decode cd_T_write 9 = .ok (.getfield 15, 3) := by decide +kernel
theorem dc_T_write_12 : decode cd_T_write 12 = .ok (.invokevirtual 23, 3) := by decide +kernel
theorem dc_T_write_15 : decode cd_T_write 15 = .ok (.if_icmp .ge 22, 3) := by decide +kernel
theorem dc_T_write_18 : decode cd_T_write 18 = .ok (.iload_n 1, 1) := by decide +kernel
theorem dc_T_write_19 : decode cd_T_write 19 = .ok (.iload_n 2, 1) := by decide +kernel
theorem dc_T_write_20 : decode cd_T_write 20 = .ok (.invokestatic 29, 3) := by decide +kernel
theorem dc_T_write_23 : decode cd_T_write 23 = .ok (.ifCond .eq 8, 3) := by decide +kernel
theorem dc_T_write_26 : decode cd_T_write 26 = .ok (.aload_n 0, 1) := by decide +kernel
theorem dc_T_write_27 : decode cd_T_write 27 = .ok (.iload_n 2, 1) := by decide +kernel
theorem dc_T_write_28 : decode cd_T_write 28 = .ok (.invokevirtual 33, 3) := by decide +kernel
theorem dc_T_write_31 : decode cd_T_write 31 = .ok (.iinc 2 1, 3) := by decide +kernel
theorem dc_T_write_34 : decode cd_T_write 34 = .ok (.goto (-27), 3) := by decide +kernel
theorem dc_T_write_37 : decode cd_T_write 37 = .ok (.return_, 1) := by decide +kernel
theorem dc_T_putString_0 : decode cd_T_putString 0 = .ok (.iload_n 1, 1) := by decide +kernel
theorem dc_T_putString_1 : decode cd_T_putString 1 = .ok (.bipush 10, 2) := by decide +kernel
theorem dc_T_putString_3 : decode cd_T_putString 3 = .ok (.if_icmp .lt 11, 3) := by decide +kernel
theorem dc_T_putString_6 : decode cd_T_putString 6 = .ok (.aload_n 0, 1) := by decide +kernel
theorem dc_T_putString_7 : decode cd_T_putString 7 = .ok (.iload_n 1, 1) := by decide +kernel
theorem dc_T_putString_8 : decode cd_T_putString 8 = .ok (.bipush 10, 2) := by decide +kernel
theorem dc_T_putString_10 : decode cd_T_putString 10 = .ok (.idiv, 1) := by decide +kernel
theorem dc_T_putString_11 : decode cd_T_putString 11 = .ok (.invokevirtual 37, 3) := by decide +kernel
theorem dc_T_putString_14 : decode cd_T_putString 14 = .ok (.aload_n 0, 1) := by decide +kernel
theorem dc_T_putString_15 : decode cd_T_putString 15 = .ok (.iload_n 1, 1) := by decide +kernel
theorem dc_T_putString_16 : decode cd_T_putString 16 = .ok (.bipush 10, 2) := by decide +kernel
theorem dc_T_putString_18 : decode cd_T_putString 18 = .ok (.irem, 1) := by decide +kernel
theorem dc_T_putString_19 : decode cd_T_putString 19 = .ok (.invokevirtual 37, 3) := by decide +kernel
theorem dc_T_putString_22 : decode cd_T_putString 22 = .ok (.aload_n 0, 1) := by decide +kernel
theorem dc_T_putString_23 : decode cd_T_putString 23 = .ok (.bipush 58, 2) := by decide +kernel
theorem dc_T_putString_25 : decode cd_T_putString 25 = .ok (.invokevirtual 40, 3) := by decide +kernel
theorem dc_T_putString_28 : decode cd_T_putString 28 = .ok (.aload_n 0, 1) := by decide +kernel
theorem dc_T_putString_29 : decode cd_T_putString 29 = .ok (.aload_n 0, 1) := by decide +kernel
theorem dc_T_putString_30 : decode cd_T_putString 30 = .ok (.getfield 15, 3) := by decide +kernel
theorem dc_T_putString_33 : decode cd_T_putString 33 = .ok (.iload_n 1, 1) := by decide +kernel
theorem dc_T_putString_34 : decode cd_T_putString 34 = .ok (.invokevirtual 44, 3) := by decide +kernel
theorem dc_T_putString_37 : decode cd_T_putString 37 = .ok (.invokevirtual 37, 3) := by decide +kernel
theorem dc_T_putString_40 : decode cd_T_putString 40 = .ok (.aload_n 0, 1) := by decide +kernel
theorem dc_T_putString_41 : decode cd_T_putString 41 = .ok (.getfield 15, 3) := by decide +kernel
theorem dc_T_putString_44 : decode cd_T_putString 44 = .ok (.iload_n 1, 1) := by decide +kernel
theorem dc_T_putString_45 : decode cd_T_putString 45 = .ok (.invokevirtual 48, 3) := by decide +kernel
theorem dc_T_putString_48 : decode cd_T_putString 48 = .ok (.iconst (-1), 1) := by decide +kernel
theorem dc_T_putString_49 : decode cd_T_putString 49 = .ok (.if_icmp .ne 12, 3) := by decide +kernel
theorem dc_T_putString_52 : decode cd_T_putString 52 = .ok (.aload_n 0, 1) := by decide +kernel
theorem dc_T_putString_53 : decode cd_T_putString 53 = .ok (.bipush 61, 2) := by decide +kernel
theorem dc_T_putString_55 : decode cd_T_putString 55 = .ok (.invokevirtual 40, 3) := by decide +kernel
theorem dc_T_putString_58 : decode cd_T_putString 58 = .ok (.goto 21, 3) := by decide +kernel
theorem dc_T_putString_61 : decode cd_T_putString 61 = .ok (.aload_n 0, 1) := by decide +kernel
theorem dc_T_putString_62 : decode cd_T_putString 62 = .ok (.bipush 45, 2) := by decide +kernel
theorem dc_T_putString_64 : decode cd_T_putString 64 = .ok (.invokevirtual 40, 3) := by decide +kernel
theorem dc_T_putString_67 : decode cd_T_putString 67 = .ok (.aload_n 0, 1) := by decide +kernel
theorem dc_T_putString_68 : decode cd_T_putString 68 = .ok (.aload_n 0, 1) := by decide +kernel
theorem dc_T_putString_69 : decode cd_T_putString 69 = .ok (.getfield 15, 3) := by decide +kernel
theorem dc_T_putString_72 : decode cd_T_putString 72 = .ok (.iload_n 1, 1) := by decide +kernel
theorem dc_T_putString_73 : decode cd_T_putString 73 = .ok (.invokevirtual 48, 3) := by decide +kernel
theorem dc_T_putString_76 : decode cd_T_putString 76 = .ok (.invokevirtual 37, 3) := by decide +kernel
theorem dc_T_putString_79 : decode cd_T_putString 79 = .ok (.aload_n 0, 1) := by decide +kernel
theorem dc_T_putString_80 : decode cd_T_putString 80 = .ok (.bipush 59, 2) := by decide +kernel
theorem dc_T_putString_82 : decode cd_T_putString 82 = .ok (.invokevirtual 40, 3) := by decide +kernel
theorem dc_T_putString_85 : decode cd_T_putString 85 = .ok (.return_, 1) := by decide +kernel
theorem dc_T_putDigit_0 : decode cd_T_putDigit 0 = .ok (.aload_n 0, 1) := by decide +kernel
theorem dc_T_putDigit_1 : decode cd_T_putDigit 1 = .ok (.bipush 48, 2) := by decide +kernel
theorem dc_T_putDigit_3 : decode cd_T_putDigit 3 = .ok (.iload_n 1, 1) := by decide +kernel
theorem dc_T_putDigit_4 : decode cd_T_putDigit 4 = .ok (.iadd, 1) := by decide +kernel
theorem dc_T_putDigit_5 : decode cd_T_putDigit 5 = .ok (.i2c, 1) := by decide +kernel
theorem dc_T_putDigit_6 : decode cd_T_putDigit 6 = .ok (.invokevirtual 40, 3) := by decide +kernel
theorem dc_T_putDigit_9 : decode cd_T_putDigit 9 = .ok (.return_, 1) := by decide +kernel
theorem dc_T_put_0 : decode cd_T_put 0 = .ok (.aload_n 0, 1) := by decide +kernel
theorem dc_T_put_1 : decode cd_T_put 1 = .ok (.getfield 11, 3) := by decide +kernel
theorem dc_T_put_4 : decode cd_T_put 4 = .ok (.aload_n 0, 1) := by decide +kernel
theorem dc_T_put_5 : decode cd_T_put 5 = .ok (.getfield 19, 3) := by decide +kernel
theorem dc_T_put_8 : decode cd_T_put 8 = .ok (.iload_n 1, 1) := by decide +kernel
theorem dc_T_put_9 : decode cd_T_put 9 = .ok (.castore, 1) := by decide +kernel
theorem dc_T_put_10 : decode cd_T_put 10 = .ok (.aload_n 0, 1) := by decide +kernel
theorem dc_T_put_11 : decode cd_T_put 11 = .ok (.dup, 1) := by decide +kernel
theorem dc_T_put_12 : decode cd_T_put 12 = .ok (.getfield 19, 3) := by decide +kernel
theorem dc_T_put_15 : decode cd_T_put 15 = .ok (.iconst 1, 1) := by decide +kernel
theorem dc_T_put_16 : decode cd_T_put 16 = .ok (.iadd, 1) := by decide +kernel
theorem dc_T_put_17 : decode cd_T_put 17 = .ok (.putfield 19, 3) := by decide +kernel
theorem dc_T_put_20 : decode cd_T_put 20 = .ok (.return_, 1) := by decide +kernel
theorem dc_T_length_0 : decode cd_T_length 0 = .ok (.aload_n 0, 1) := by decide +kernel
theorem dc_T_length_1 : decode cd_T_length 1 = .ok (.getfield 19, 3) := by decide +kernel
theorem dc_T_length_4 : decode cd_T_length 4 = .ok (.ireturn, 1) := by decide +kernel
theorem dc_L_add_0 : decode cd_L_add 0 = .ok (.aload_n 3, 1) := by decide +kernel
theorem dc_L_add_1 : decode cd_L_add 1 = .ok (.iconst 0, 1) := by decide +kernel
theorem dc_L_add_2 : decode cd_L_add 2 = .ok (.aload_n 0, 1) := by decide +kernel
theorem dc_L_add_3 : decode cd_L_add 3 = .ok (.iload_n 1, 1) := by decide +kernel
theorem dc_L_add_4 : decode cd_L_add 4 = .ok (.iload_n 2, 1) := by decide +kernel
theorem dc_L_add_5 : decode cd_L_add 5 = .ok (.invokevirtual 7, 3) := by decide +kernel
theorem dc_L_add_8 : decode cd_L_add 8 = .ok (.i2l, 1) := by decide +kernel
theorem dc_L_add_9 : decode cd_L_add 9 = .ok (.lastore, 1) := by decide +kernel
theorem dc_L_add_10 : decode cd_L_add 10 = .ok (.goto 11, 3) := by decide +kernel
theorem dc_L_add_13 : decode cd_L_add 13 = .ok (.astore 4, 2) := by decide +kernel
theorem dc_L_add_15 : decode cd_L_add 15 = .ok (.iconst 1, 1) := by decide +kernel
theorem dc_L_add_16 : decode cd_L_add 16 = .ok (.ireturn, 1) := by decide +kernel
theorem dc_L_add_17 : decode cd_L_add 17 = .ok (.astore 4, 2) := by decide +kernel
theorem dc_L_add_19 : decode cd_L_add 19 = .ok (.iconst 2, 1) := by decide +kernel
theorem dc_L_add_20 : decode cd_L_add 20 = .ok (.ireturn, 1) := by decide +kernel
theorem dc_L_add_21 : decode cd_L_add 21 = .ok (.iconst 0, 1) := by decide +kernel
theorem dc_L_add_22 : decode cd_L_add 22 = .ok (.ireturn, 1) := by decide +kernel
theorem dc_C_add_0 : decode cd_C_add 0 = .ok (.iload_n 1, 1) := by decide +kernel
theorem dc_C_add_1 : decode cd_C_add 1 = .ok (.invokestatic 56, 3) := by decide +kernel
theorem dc_C_add_4 : decode cd_C_add 4 = .ok (.ifCond .eq 20, 3) := by decide +kernel
theorem dc_C_add_7 : decode cd_C_add 7 = .ok (.iload_n 2, 1) := by decide +kernel
theorem dc_C_add_8 : decode cd_C_add 8 = .ok (.invokestatic 56, 3) := by decide +kernel
theorem dc_C_add_11 : decode cd_C_add 11 = .ok (.ifCond .ne 8, 3) := by decide +kernel
theorem dc_C_add_14 : decode cd_C_add 14 = .ok (.iload_n 2, 1) := by decide +kernel
theorem dc_C_add_15 : decode cd_C_add 15 = .ok (.iconst (-1), 1) := by decide +kernel
theorem dc_C_add_16 : decode cd_C_add 16 = .ok (.if_icmp .ne 8, 3) := by decide +kernel
theorem dc_C_add_19 : decode cd_C_add 19 = .ok (.iload_n 1, 1) := by decide +kernel
theorem dc_C_add_20 : decode cd_C_add 20 = .ok (.iload_n 2, 1) := by decide +kernel
theorem dc_C_add_21 : decode cd_C_add 21 = .ok (.if_icmp .ne 11, 3) := by decide +kernel
theorem dc_C_add_24 : decode cd_C_add 24 = .ok (.new 60, 3) := by decide +kernel
theorem dc_C_add_27 : decode cd_C_add 27 = .ok (.dup, 1) := by decide +kernel
theorem dc_C_add_28 : decode cd_C_add 28 = .ok (.invokespecial 62, 3) := by decide +kernel
theorem dc_C_add_31 : decode cd_C_add 31 = .ok (.athrow, 1) := by decide +kernel
theorem dc_C_add_32 : decode cd_C_add 32 = .ok (.aload_n 0, 1) := by decide +kernel
theorem dc_C_add_33 : decode cd_C_add 33 = .ok (.getfield 63, 3) := by decide +kernel
theorem dc_C_add_36 : decode cd_C_add 36 = .ok (.ifCond .ne 15, 3) := by decide +kernel
theorem dc_C_add_39 : decode cd_C_add 39 = .ok (.aload_n 0, 1) := by decide +kernel
theorem dc_C_add_40 : decode cd_C_add 40 = .ok (.getfield 12, 3) := by decide +kernel
theorem dc_C_add_43 : decode cd_C_add 43 = .ok (.invokevirtual 67, 3) := by decide +kernel
theorem dc_C_add_46 : decode cd_C_add 46 = .ok (.bipush 12, 2) := by decide +kernel
theorem dc_C_add_48 : decode cd_C_add 48 = .ok (.if_icmp .lt 11, 3) := by decide +kernel
theorem dc_C_add_51 : decode cd_C_add 51 = .ok (.new 71, 3) := by decide +kernel
theorem dc_C_add_54 : decode cd_C_add 54 = .ok (.dup, 1) := by decide +kernel
theorem dc_C_add_55 : decode cd_C_add 55 = .ok (.invokespecial 73, 3) := by decide +kernel
theorem dc_C_add_58 : decode cd_C_add 58 = .ok (.athrow, 1) := by decide +kernel
theorem dc_C_add_59 : decode cd_C_add 59 = .ok (.aload_n 0, 1) := by decide +kernel
theorem dc_C_add_60 : decode cd_C_add 60 = .ok (.getfield 12, 3) := by decide +kernel
theorem dc_C_add_63 : decode cd_C_add 63 = .ok (.iload_n 1, 1) := by decide +kernel
theorem dc_C_add_64 : decode cd_C_add 64 = .ok (.iload_n 2, 1) := by decide +kernel
theorem dc_C_add_65 : decode cd_C_add 65 = .ok (.invokevirtual 74, 3) := by decide +kernel
theorem dc_C_add_68 : decode cd_C_add 68 = .ok (.aload_n 0, 1) := by decide +kernel
theorem dc_C_add_69 : decode cd_C_add 69 = .ok (.aload_n 0, 1) := by decide +kernel
theorem dc_C_add_70 : decode cd_C_add 70 = .ok (.getfield 12, 3) := by decide +kernel
theorem dc_C_add_73 : decode cd_C_add 73 = .ok (.invokevirtual 78, 3) := by decide +kernel
theorem dc_C_add_76 : decode cd_C_add 76 = .ok (.putfield 81, 3) := by decide +kernel
theorem dc_C_add_79 : decode cd_C_add 79 = .ok (.aload_n 0, 1) := by decide +kernel
theorem dc_C_add_80 : decode cd_C_add 80 = .ok (.getfield 12, 3) := by decide +kernel
theorem dc_C_add_83 : decode cd_C_add 83 = .ok (.invokevirtual 67, 3) := by decide +kernel
theorem dc_C_add_86 : decode cd_C_add 86 = .ok (.iconst 1, 1) := by decide +kernel
theorem dc_C_add_87 : decode cd_C_add 87 = .ok (.isub, 1) := by decide +kernel
theorem dc_C_add_88 : decode cd_C_add 88 = .ok (.ireturn, 1) := by decide +kernel
theorem dc_C_isCoin_0 : decode cd_C_isCoin 0 = .ok (.iload_n 0, 1) := by decide +kernel
theorem dc_C_isCoin_1 : decode cd_C_isCoin 1 = .ok (.ifCond .lt 13, 3) := by decide +kernel
theorem dc_C_isCoin_4 : decode cd_C_isCoin 4 = .ok (.iload_n 0, 1) := by decide +kernel
theorem dc_C_isCoin_5 : decode cd_C_isCoin 5 = .ok (.bipush 8, 2) := by decide +kernel
theorem dc_C_isCoin_7 : decode cd_C_isCoin 7 = .ok (.if_icmp .ge 7, 3) := by decide +kernel
theorem dc_C_isCoin_10 : decode cd_C_isCoin 10 = .ok (.iconst 1, 1) := by decide +kernel
theorem dc_C_isCoin_11 : decode cd_C_isCoin 11 = .ok (.goto 4, 3) := by decide +kernel
theorem dc_C_isCoin_14 : decode cd_C_isCoin 14 = .ok (.iconst 0, 1) := by decide +kernel
theorem dc_C_isCoin_15 : decode cd_C_isCoin 15 = .ok (.ireturn, 1) := by decide +kernel
theorem dc_W_join_0 : decode cd_W_join 0 = .ok (.iconst 1, 1) := by decide +kernel
theorem dc_W_join_1 : decode cd_W_join 1 = .ok (.aload_n 0, 1) := by decide +kernel
theorem dc_W_join_2 : decode cd_W_join 2 = .ok (.getfield 21, 3) := by decide +kernel
theorem dc_W_join_5 : decode cd_W_join 5 = .ok (.ishl, 1) := by decide +kernel
theorem dc_W_join_6 : decode cd_W_join 6 = .ok (.istore_n 3, 1) := by decide +kernel
theorem dc_W_join_7 : decode cd_W_join 7 = .ok (.aload_n 0, 1) := by decide +kernel
theorem dc_W_join_8 : decode cd_W_join 8 = .ok (.getfield 18, 3) := by decide +kernel
theorem dc_W_join_11 : decode cd_W_join 11 = .ok (.iload_n 1, 1) := by decide +kernel
theorem dc_W_join_12 : decode cd_W_join 12 = .ok (.dup2, 1) := by decide +kernel
theorem dc_W_join_13 : decode cd_W_join 13 = .ok (.iaload, 1) := by decide +kernel
theorem dc_W_join_14 : decode cd_W_join 14 = .ok (.iload_n 3, 1) := by decide +kernel
theorem dc_W_join_15 : decode cd_W_join 15 = .ok (.ior, 1) := by decide +kernel
theorem dc_W_join_16 : decode cd_W_join 16 = .ok (.iastore, 1) := by decide +kernel
theorem dc_W_join_17 : decode cd_W_join 17 = .ok (.iload_n 2, 1) := by decide +kernel
theorem dc_W_join_18 : decode cd_W_join 18 = .ok (.iconst (-1), 1) := by decide +kernel
theorem dc_W_join_19 : decode cd_W_join 19 = .ok (.if_icmp .ne 26, 3) := by decide +kernel
theorem dc_W_join_22 : decode cd_W_join 22 = .ok (.aload_n 0, 1) := by decide +kernel
theorem dc_W_join_23 : decode cd_W_join 23 = .ok (.getfield 9, 3) := by decide +kernel
theorem dc_W_join_26 : decode cd_W_join 26 = .ok (.aload_n 0, 1) := by decide +kernel
theorem dc_W_join_27 : decode cd_W_join 27 = .ok (.getfield 21, 3) := by decide +kernel
theorem dc_W_join_30 : decode cd_W_join 30 = .ok (.iload_n 1, 1) := by decide +kernel
theorem dc_W_join_31 : decode cd_W_join 31 = .ok (.iastore, 1) := by decide +kernel
theorem dc_W_join_32 : decode cd_W_join 32 = .ok (.aload_n 0, 1) := by decide +kernel
theorem dc_W_join_33 : decode cd_W_join 33 = .ok (.getfield 15, 3) := by decide +kernel
theorem dc_W_join_36 : decode cd_W_join 36 = .ok (.aload_n 0, 1) := by decide +kernel
theorem dc_W_join_37 : decode cd_W_join 37 = .ok (.getfield 21, 3) := by decide +kernel
theorem dc_W_join_40 : decode cd_W_join 40 = .ok (.iconst (-1), 1) := by decide +kernel
theorem dc_W_join_41 : decode cd_W_join 41 = .ok (.iastore, 1) := by decide +kernel
theorem dc_W_join_42 : decode cd_W_join 42 = .ok (.goto 41, 3) := by decide +kernel
theorem dc_W_join_45 : decode cd_W_join 45 = .ok (.aload_n 0, 1) := by decide +kernel
theorem dc_W_join_46 : decode cd_W_join 46 = .ok (.getfield 18, 3) := by decide +kernel
theorem dc_W_join_49 : decode cd_W_join 49 = .ok (.iload_n 2, 1) := by decide +kernel
theorem dc_W_join_50 : decode cd_W_join 50 = .ok (.dup2, 1) := by decide +kernel
theorem dc_W_join_51 : decode cd_W_join 51 = .ok (.iaload, 1) := by decide +kernel
theorem dc_W_join_52 : decode cd_W_join 52 = .ok (.iload_n 3, 1) := by decide +kernel
theorem dc_W_join_53 : decode cd_W_join 53 = .ok (.ior, 1) := by decide +kernel
theorem dc_W_join_54 : decode cd_W_join 54 = .ok (.iastore, 1) := by decide +kernel
theorem dc_W_join_55 : decode cd_W_join 55 = .ok (.aload_n 0, 1) := by decide +kernel
theorem dc_W_join_56 : decode cd_W_join 56 = .ok (.getfield 9, 3) := by decide +kernel
theorem dc_W_join_59 : decode cd_W_join 59 = .ok (.aload_n 0, 1) := by decide +kernel
theorem dc_W_join_60 : decode cd_W_join 60 = .ok (.getfield 21, 3) := by decide +kernel
theorem dc_W_join_63 : decode cd_W_join 63 = .ok (.iload_n 1, 1) := by decide +kernel
theorem dc_W_join_64 : decode cd_W_join 64 = .ok (.iload_n 2, 1) := by decide +kernel
theorem dc_W_join_65 : decode cd_W_join 65 = .ok (.invokestatic 31, 3) := by decide +kernel
theorem dc_W_join_68 : decode cd_W_join 68 = .ok (.iastore, 1) := by decide +kernel
theorem dc_W_join_69 : decode cd_W_join 69 = .ok (.aload_n 0, 1) := by decide +kernel
theorem dc_W_join_70 : decode cd_W_join 70 = .ok (.getfield 15, 3) := by decide +kernel
theorem dc_W_join_73 : decode cd_W_join 73 = .ok (.aload_n 0, 1) := by decide +kernel
theorem dc_W_join_74 : decode cd_W_join 74 = .ok (.getfield 21, 3) := by decide +kernel
theorem dc_W_join_77 : decode cd_W_join 77 = .ok (.iload_n 1, 1) := by decide +kernel
theorem dc_W_join_78 : decode cd_W_join 78 = .ok (.iload_n 2, 1) := by decide +kernel
theorem dc_W_join_79 : decode cd_W_join 79 = .ok (.invokestatic 37, 3) := by decide +kernel
theorem dc_W_join_82 : decode cd_W_join 82 = .ok (.iastore, 1) := by decide +kernel
theorem dc_W_join_83 : decode cd_W_join 83 = .ok (.aload_n 0, 1) := by decide +kernel
theorem dc_W_join_84 : decode cd_W_join 84 = .ok (.dup, 1) := by decide +kernel
theorem dc_W_join_85 : decode cd_W_join 85 = .ok (.getfield 21, 3) := by decide +kernel
theorem dc_W_join_88 : decode cd_W_join 88 = .ok (.iconst 1, 1) := by decide +kernel
theorem dc_W_join_89 : decode cd_W_join 89 = .ok (.iadd, 1) := by decide +kernel
theorem dc_W_join_90 : decode cd_W_join 90 = .ok (.putfield 21, 3) := by decide +kernel
theorem dc_W_join_93 : decode cd_W_join 93 = .ok (.return_, 1) := by decide +kernel
theorem dc_W_everyString_0 : decode cd_W_everyString 0 = .ok (.iconst 1, 1) := by decide +kernel
theorem dc_W_everyString_1 : decode cd_W_everyString 1 = .ok (.aload_n 0, 1) := by decide +kernel
theorem dc_W_everyString_2 : decode cd_W_everyString 2 = .ok (.getfield 21, 3) := by decide +kernel
theorem dc_W_everyString_5 : decode cd_W_everyString 5 = .ok (.ishl, 1) := by decide +kernel
theorem dc_W_everyString_6 : decode cd_W_everyString 6 = .ok (.iconst 1, 1) := by decide +kernel
theorem dc_W_everyString_7 : decode cd_W_everyString 7 = .ok (.isub, 1) := by decide +kernel
theorem dc_W_everyString_8 : decode cd_W_everyString 8 = .ok (.ireturn, 1) := by decide +kernel
theorem dc_L_board_0 : decode cd_L_board 0 = .ok (.aload_n 3, 1) := by decide +kernel
theorem dc_L_board_1 : decode cd_L_board 1 = .ok (.iconst 0, 1) := by decide +kernel
theorem dc_L_board_2 : decode cd_L_board 2 = .ok (.aload_n 0, 1) := by decide +kernel
theorem dc_L_board_3 : decode cd_L_board 3 = .ok (.iload_n 1, 1) := by decide +kernel
theorem dc_L_board_4 : decode cd_L_board 4 = .ok (.iload_n 2, 1) := by decide +kernel
theorem dc_L_board_5 : decode cd_L_board 5 = .ok (.invokevirtual 17, 3) := by decide +kernel
theorem dc_L_board_8 : decode cd_L_board 8 = .ok (.i2l, 1) := by decide +kernel
theorem dc_L_board_9 : decode cd_L_board 9 = .ok (.lastore, 1) := by decide +kernel
theorem dc_L_board_10 : decode cd_L_board 10 = .ok (.goto 11, 3) := by decide +kernel
theorem dc_L_board_13 : decode cd_L_board 13 = .ok (.astore 4, 2) := by decide +kernel
theorem dc_L_board_15 : decode cd_L_board 15 = .ok (.iconst 1, 1) := by decide +kernel
theorem dc_L_board_16 : decode cd_L_board 16 = .ok (.ireturn, 1) := by decide +kernel
theorem dc_L_board_17 : decode cd_L_board 17 = .ok (.astore 4, 2) := by decide +kernel
theorem dc_L_board_19 : decode cd_L_board 19 = .ok (.iconst 2, 1) := by decide +kernel
theorem dc_L_board_20 : decode cd_L_board 20 = .ok (.ireturn, 1) := by decide +kernel
theorem dc_L_board_21 : decode cd_L_board 21 = .ok (.iconst 0, 1) := by decide +kernel
theorem dc_L_board_22 : decode cd_L_board 22 = .ok (.ireturn, 1) := by decide +kernel
theorem dc_C_board_0 : decode cd_C_board 0 = .ok (.iload_n 1, 1) := by decide +kernel
theorem dc_C_board_1 : decode cd_C_board 1 = .ok (.iload_n 2, 1) := by decide +kernel
theorem dc_C_board_2 : decode cd_C_board 2 = .ok (.invokestatic 85, 3) := by decide +kernel
theorem dc_C_board_5 : decode cd_C_board 5 = .ok (.ifCond .ne 11, 3) := by decide +kernel
theorem dc_C_board_8 : decode cd_C_board 8 = .ok (.new 60, 3) := by decide +kernel
theorem dc_C_board_11 : decode cd_C_board 11 = .ok (.dup, 1) := by decide +kernel
theorem dc_C_board_12 : decode cd_C_board 12 = .ok (.invokespecial 62, 3) := by decide +kernel
theorem dc_C_board_15 : decode cd_C_board 15 = .ok (.athrow, 1) := by decide +kernel
theorem dc_C_board_16 : decode cd_C_board 16 = .ok (.aload_n 0, 1) := by decide +kernel
end
section
theorem dc_C_board_17 : decode cd_C_board 17 = .ok (.getfield 63, 3) := by decide +kernel
theorem dc_C_board_20 : decode cd_C_board 20 = .ok (.ifCond .ne 13, 3) := by decide +kernel
theorem dc_C_board_23 : decode cd_C_board 23 = .ok (.aload_n 0, 1) := by decide +kernel
theorem dc_C_board_24 : decode cd_C_board 24 = .ok (.getfield 12, 3) := by decide +kernel
theorem dc_C_board_27 : decode cd_C_board 27 = .ok (.invokevirtual 67, 3) := by decide +kernel
theorem dc_C_board_30 : decode cd_C_board 30 = .ok (.ifCond .le 11, 3) := by decide +kernel
theorem dc_C_board_33 : decode cd_C_board 33 = .ok (.new 71, 3) := by decide +kernel
theorem dc_C_board_36 : decode cd_C_board 36 = .ok (.dup, 1) := by decide +kernel
theorem dc_C_board_37 : decode cd_C_board 37 = .ok (.invokespecial 73, 3) := by decide +kernel
theorem dc_C_board_40 : decode cd_C_board 40 = .ok (.athrow, 1) := by decide +kernel
theorem dc_C_board_41 : decode cd_C_board 41 = .ok (.aload_n 0, 1) := by decide +kernel
theorem dc_C_board_42 : decode cd_C_board 42 = .ok (.getfield 12, 3) := by decide +kernel
theorem dc_C_board_45 : decode cd_C_board 45 = .ok (.iload_n 1, 1) := by decide +kernel
theorem dc_C_board_46 : decode cd_C_board 46 = .ok (.iload_n 2, 1) := by decide +kernel
theorem dc_C_board_47 : decode cd_C_board 47 = .ok (.invokevirtual 89, 3) := by decide +kernel
theorem dc_C_board_50 : decode cd_C_board 50 = .ok (.aload_n 0, 1) := by decide +kernel
theorem dc_C_board_51 : decode cd_C_board 51 = .ok (.aload_n 0, 1) := by decide +kernel
theorem dc_C_board_52 : decode cd_C_board 52 = .ok (.getfield 12, 3) := by decide +kernel
theorem dc_C_board_55 : decode cd_C_board 55 = .ok (.invokevirtual 78, 3) := by decide +kernel
theorem dc_C_board_58 : decode cd_C_board 58 = .ok (.putfield 81, 3) := by decide +kernel
theorem dc_C_board_61 : decode cd_C_board 61 = .ok (.aload_n 0, 1) := by decide +kernel
theorem dc_C_board_62 : decode cd_C_board 62 = .ok (.getfield 12, 3) := by decide +kernel
theorem dc_C_board_65 : decode cd_C_board 65 = .ok (.invokevirtual 67, 3) := by decide +kernel
theorem dc_C_board_68 : decode cd_C_board 68 = .ok (.ireturn, 1) := by decide +kernel
theorem dc_C_isBoard_0 : decode cd_C_isBoard 0 = .ok (.iload_n 0, 1) := by decide +kernel
theorem dc_C_isBoard_1 : decode cd_C_isBoard 1 = .ok (.iconst 1, 1) := by decide +kernel
theorem dc_C_isBoard_2 : decode cd_C_isBoard 2 = .ok (.if_icmp .lt 20, 3) := by decide +kernel
theorem dc_C_isBoard_5 : decode cd_C_isBoard 5 = .ok (.iload_n 1, 1) := by decide +kernel
theorem dc_C_isBoard_6 : decode cd_C_isBoard 6 = .ok (.iconst 1, 1) := by decide +kernel
theorem dc_C_isBoard_7 : decode cd_C_isBoard 7 = .ok (.if_icmp .lt 15, 3) := by decide +kernel
theorem dc_C_isBoard_10 : decode cd_C_isBoard 10 = .ok (.iload_n 0, 1) := by decide +kernel
theorem dc_C_isBoard_11 : decode cd_C_isBoard 11 = .ok (.bipush 12, 2) := by decide +kernel
theorem dc_C_isBoard_13 : decode cd_C_isBoard 13 = .ok (.if_icmp .gt 9, 3) := by decide +kernel
theorem dc_C_isBoard_16 : decode cd_C_isBoard 16 = .ok (.iload_n 1, 1) := by decide +kernel
theorem dc_C_isBoard_17 : decode cd_C_isBoard 17 = .ok (.bipush 12, 2) := by decide +kernel
theorem dc_C_isBoard_19 : decode cd_C_isBoard 19 = .ok (.if_icmp .le 5, 3) := by decide +kernel
theorem dc_C_isBoard_22 : decode cd_C_isBoard 22 = .ok (.iconst 0, 1) := by decide +kernel
theorem dc_C_isBoard_23 : decode cd_C_isBoard 23 = .ok (.ireturn, 1) := by decide +kernel
theorem dc_C_isBoard_24 : decode cd_C_isBoard 24 = .ok (.iload_n 0, 1) := by decide +kernel
theorem dc_C_isBoard_25 : decode cd_C_isBoard 25 = .ok (.iload_n 1, 1) := by decide +kernel
theorem dc_C_isBoard_26 : decode cd_C_isBoard 26 = .ok (.iconst 1, 1) := by decide +kernel
theorem dc_C_isBoard_27 : decode cd_C_isBoard 27 = .ok (.iadd, 1) := by decide +kernel
theorem dc_C_isBoard_28 : decode cd_C_isBoard 28 = .ok (.imul, 1) := by decide +kernel
theorem dc_C_isBoard_29 : decode cd_C_isBoard 29 = .ok (.iload_n 1, 1) := by decide +kernel
theorem dc_C_isBoard_30 : decode cd_C_isBoard 30 = .ok (.iload_n 0, 1) := by decide +kernel
theorem dc_C_isBoard_31 : decode cd_C_isBoard 31 = .ok (.iconst 1, 1) := by decide +kernel
theorem dc_C_isBoard_32 : decode cd_C_isBoard 32 = .ok (.iadd, 1) := by decide +kernel
theorem dc_C_isBoard_33 : decode cd_C_isBoard 33 = .ok (.imul, 1) := by decide +kernel
theorem dc_C_isBoard_34 : decode cd_C_isBoard 34 = .ok (.iadd, 1) := by decide +kernel
theorem dc_C_isBoard_35 : decode cd_C_isBoard 35 = .ok (.bipush 12, 2) := by decide +kernel
theorem dc_C_isBoard_37 : decode cd_C_isBoard 37 = .ok (.if_icmp .gt 7, 3) := by decide +kernel
theorem dc_C_isBoard_40 : decode cd_C_isBoard 40 = .ok (.iconst 1, 1) := by decide +kernel
theorem dc_C_isBoard_41 : decode cd_C_isBoard 41 = .ok (.goto 4, 3) := by decide +kernel
theorem dc_C_isBoard_44 : decode cd_C_isBoard 44 = .ok (.iconst 0, 1) := by decide +kernel
theorem dc_C_isBoard_45 : decode cd_C_isBoard 45 = .ok (.ireturn, 1) := by decide +kernel
theorem dc_W_joinBoard_0 : decode cd_W_joinBoard 0 = .ok (.iconst 0, 1) := by decide +kernel
theorem dc_W_joinBoard_1 : decode cd_W_joinBoard 1 = .ok (.istore_n 3, 1) := by decide +kernel
theorem dc_W_joinBoard_2 : decode cd_W_joinBoard 2 = .ok (.iload_n 3, 1) := by decide +kernel
theorem dc_W_joinBoard_3 : decode cd_W_joinBoard 3 = .ok (.iload_n 1, 1) := by decide +kernel
theorem dc_W_joinBoard_4 : decode cd_W_joinBoard 4 = .ok (.if_icmp .ge 98, 3) := by decide +kernel
theorem dc_W_joinBoard_7 : decode cd_W_joinBoard 7 = .ok (.iconst 0, 1) := by decide +kernel
theorem dc_W_joinBoard_8 : decode cd_W_joinBoard 8 = .ok (.istore 4, 2) := by decide +kernel
theorem dc_W_joinBoard_10 : decode cd_W_joinBoard 10 = .ok (.iload 4, 2) := by decide +kernel
theorem dc_W_joinBoard_12 : decode cd_W_joinBoard 12 = .ok (.iload_n 2, 1) := by decide +kernel
theorem dc_W_joinBoard_13 : decode cd_W_joinBoard 13 = .ok (.if_icmp .ge 83, 3) := by decide +kernel
theorem dc_W_joinBoard_16 : decode cd_W_joinBoard 16 = .ok (.iload_n 3, 1) := by decide +kernel
theorem dc_W_joinBoard_17 : decode cd_W_joinBoard 17 = .ok (.iload_n 2, 1) := by decide +kernel
theorem dc_W_joinBoard_18 : decode cd_W_joinBoard 18 = .ok (.imul, 1) := by decide +kernel
theorem dc_W_joinBoard_19 : decode cd_W_joinBoard 19 = .ok (.iload 4, 2) := by decide +kernel
theorem dc_W_joinBoard_21 : decode cd_W_joinBoard 21 = .ok (.iadd, 1) := by decide +kernel
theorem dc_W_joinBoard_22 : decode cd_W_joinBoard 22 = .ok (.istore 5, 2) := by decide +kernel
theorem dc_W_joinBoard_24 : decode cd_W_joinBoard 24 = .ok (.iload_n 3, 1) := by decide +kernel
theorem dc_W_joinBoard_25 : decode cd_W_joinBoard 25 = .ok (.ifCond .ne 10, 3) := by decide +kernel
theorem dc_W_joinBoard_28 : decode cd_W_joinBoard 28 = .ok (.aload_n 0, 1) := by decide +kernel
theorem dc_W_joinBoard_29 : decode cd_W_joinBoard 29 = .ok (.iload 5, 2) := by decide +kernel
theorem dc_W_joinBoard_31 : decode cd_W_joinBoard 31 = .ok (.iconst (-1), 1) := by decide +kernel
theorem dc_W_joinBoard_32 : decode cd_W_joinBoard 32 = .ok (.invokevirtual 40, 3) := by decide +kernel
theorem dc_W_joinBoard_35 : decode cd_W_joinBoard 35 = .ok (.iload 4, 2) := by decide +kernel
theorem dc_W_joinBoard_37 : decode cd_W_joinBoard 37 = .ok (.ifCond .ne 10, 3) := by decide +kernel
theorem dc_W_joinBoard_40 : decode cd_W_joinBoard 40 = .ok (.aload_n 0, 1) := by decide +kernel
theorem dc_W_joinBoard_41 : decode cd_W_joinBoard 41 = .ok (.iload 5, 2) := by decide +kernel
theorem dc_W_joinBoard_43 : decode cd_W_joinBoard 43 = .ok (.iconst (-1), 1) := by decide +kernel
theorem dc_W_joinBoard_44 : decode cd_W_joinBoard 44 = .ok (.invokevirtual 40, 3) := by decide +kernel
theorem dc_W_joinBoard_47 : decode cd_W_joinBoard 47 = .ok (.aload_n 0, 1) := by decide +kernel
theorem dc_W_joinBoard_48 : decode cd_W_joinBoard 48 = .ok (.iload 5, 2) := by decide +kernel
theorem dc_W_joinBoard_50 : decode cd_W_joinBoard 50 = .ok (.iload 4, 2) := by decide +kernel
theorem dc_W_joinBoard_52 : decode cd_W_joinBoard 52 = .ok (.iload_n 2, 1) := by decide +kernel
theorem dc_W_joinBoard_53 : decode cd_W_joinBoard 53 = .ok (.iconst 1, 1) := by decide +kernel
theorem dc_W_joinBoard_54 : decode cd_W_joinBoard 54 = .ok (.isub, 1) := by decide +kernel
theorem dc_W_joinBoard_55 : decode cd_W_joinBoard 55 = .ok (.if_icmp .ne 7, 3) := by decide +kernel
theorem dc_W_joinBoard_58 : decode cd_W_joinBoard 58 = .ok (.iconst (-1), 1) := by decide +kernel
theorem dc_W_joinBoard_59 : decode cd_W_joinBoard 59 = .ok (.goto 7, 3) := by decide +kernel
theorem dc_W_joinBoard_62 : decode cd_W_joinBoard 62 = .ok (.iload 5, 2) := by decide +kernel
theorem dc_W_joinBoard_64 : decode cd_W_joinBoard 64 = .ok (.iconst 1, 1) := by decide +kernel
theorem dc_W_joinBoard_65 : decode cd_W_joinBoard 65 = .ok (.iadd, 1) := by decide +kernel
theorem dc_W_joinBoard_66 : decode cd_W_joinBoard 66 = .ok (.invokevirtual 40, 3) := by decide +kernel
theorem dc_W_joinBoard_69 : decode cd_W_joinBoard 69 = .ok (.aload_n 0, 1) := by decide +kernel
theorem dc_W_joinBoard_70 : decode cd_W_joinBoard 70 = .ok (.iload 5, 2) := by decide +kernel
theorem dc_W_joinBoard_72 : decode cd_W_joinBoard 72 = .ok (.iload_n 3, 1) := by decide +kernel
theorem dc_W_joinBoard_73 : decode cd_W_joinBoard 73 = .ok (.iload_n 1, 1) := by decide +kernel
theorem dc_W_joinBoard_74 : decode cd_W_joinBoard 74 = .ok (.iconst 1, 1) := by decide +kernel
theorem dc_W_joinBoard_75 : decode cd_W_joinBoard 75 = .ok (.isub, 1) := by decide +kernel
theorem dc_W_joinBoard_76 : decode cd_W_joinBoard 76 = .ok (.if_icmp .ne 7, 3) := by decide +kernel
theorem dc_W_joinBoard_79 : decode cd_W_joinBoard 79 = .ok (.iconst (-1), 1) := by decide +kernel
theorem dc_W_joinBoard_80 : decode cd_W_joinBoard 80 = .ok (.goto 7, 3) := by decide +kernel
theorem dc_W_joinBoard_83 : decode cd_W_joinBoard 83 = .ok (.iload 5, 2) := by decide +kernel
theorem dc_W_joinBoard_85 : decode cd_W_joinBoard 85 = .ok (.iload_n 2, 1) := by decide +kernel
theorem dc_W_joinBoard_86 : decode cd_W_joinBoard 86 = .ok (.iadd, 1) := by decide +kernel
theorem dc_W_joinBoard_87 : decode cd_W_joinBoard 87 = .ok (.invokevirtual 40, 3) := by decide +kernel
theorem dc_W_joinBoard_90 : decode cd_W_joinBoard 90 = .ok (.iinc 4 1, 3) := by decide +kernel
theorem dc_W_joinBoard_93 : decode cd_W_joinBoard 93 = .ok (.goto (-83), 3) := by decide +kernel
theorem dc_W_joinBoard_96 : decode cd_W_joinBoard 96 = .ok (.iinc 3 1, 3) := by decide +kernel
theorem dc_W_joinBoard_99 : decode cd_W_joinBoard 99 = .ok (.goto (-97), 3) := by decide +kernel
theorem dc_W_joinBoard_102 : decode cd_W_joinBoard 102 = .ok (.return_, 1) := by decide +kernel
theorem dc_L_begin_0 : decode cd_L_begin 0 = .ok (.aload_n 0, 1) := by decide +kernel
theorem dc_L_begin_1 : decode cd_L_begin 1 = .ok (.invokevirtual 20, 3) := by decide +kernel
theorem dc_L_begin_4 : decode cd_L_begin 4 = .ok (.goto 6, 3) := by decide +kernel
theorem dc_L_begin_7 : decode cd_L_begin 7 = .ok (.astore_n 1, 1) := by decide +kernel
theorem dc_L_begin_8 : decode cd_L_begin 8 = .ok (.iconst 1, 1) := by decide +kernel
theorem dc_L_begin_9 : decode cd_L_begin 9 = .ok (.ireturn, 1) := by decide +kernel
theorem dc_L_begin_10 : decode cd_L_begin 10 = .ok (.iconst 0, 1) := by decide +kernel
theorem dc_L_begin_11 : decode cd_L_begin 11 = .ok (.ireturn, 1) := by decide +kernel
theorem dc_C_begin_0 : decode cd_C_begin 0 = .ok (.aload_n 0, 1) := by decide +kernel
theorem dc_C_begin_1 : decode cd_C_begin 1 = .ok (.getfield 63, 3) := by decide +kernel
theorem dc_C_begin_4 : decode cd_C_begin 4 = .ok (.ifCond .ne 13, 3) := by decide +kernel
theorem dc_C_begin_7 : decode cd_C_begin 7 = .ok (.aload_n 0, 1) := by decide +kernel
theorem dc_C_begin_8 : decode cd_C_begin 8 = .ok (.getfield 12, 3) := by decide +kernel
theorem dc_C_begin_11 : decode cd_C_begin 11 = .ok (.invokevirtual 67, 3) := by decide +kernel
theorem dc_C_begin_14 : decode cd_C_begin 14 = .ok (.ifCond .ne 11, 3) := by decide +kernel
theorem dc_C_begin_17 : decode cd_C_begin 17 = .ok (.new 71, 3) := by decide +kernel
theorem dc_C_begin_20 : decode cd_C_begin 20 = .ok (.dup, 1) := by decide +kernel
theorem dc_C_begin_21 : decode cd_C_begin 21 = .ok (.invokespecial 73, 3) := by decide +kernel
theorem dc_C_begin_24 : decode cd_C_begin 24 = .ok (.athrow, 1) := by decide +kernel
theorem dc_C_begin_25 : decode cd_C_begin 25 = .ok (.aload_n 0, 1) := by decide +kernel
theorem dc_C_begin_26 : decode cd_C_begin 26 = .ok (.iconst 1, 1) := by decide +kernel
theorem dc_C_begin_27 : decode cd_C_begin 27 = .ok (.putfield 63, 3) := by decide +kernel
theorem dc_C_begin_30 : decode cd_C_begin 30 = .ok (.aload_n 0, 1) := by decide +kernel
theorem dc_C_begin_31 : decode cd_C_begin 31 = .ok (.getfield 21, 3) := by decide +kernel
theorem dc_C_begin_34 : decode cd_C_begin 34 = .ok (.invokevirtual 92, 3) := by decide +kernel
theorem dc_C_begin_37 : decode cd_C_begin 37 = .ok (.aload_n 0, 1) := by decide +kernel
theorem dc_C_begin_38 : decode cd_C_begin 38 = .ok (.getfield 28, 3) := by decide +kernel
theorem dc_C_begin_41 : decode cd_C_begin 41 = .ok (.invokevirtual 95, 3) := by decide +kernel
theorem dc_C_begin_44 : decode cd_C_begin 44 = .ok (.return_, 1) := by decide +kernel
theorem dc_V_forget_0 : decode cd_V_forget 0 = .ok (.aload_n 0, 1) := by decide +kernel
theorem dc_V_forget_1 : decode cd_V_forget 1 = .ok (.iconst 0, 1) := by decide +kernel
theorem dc_V_forget_2 : decode cd_V_forget 2 = .ok (.putfield 19, 3) := by decide +kernel
theorem dc_V_forget_5 : decode cd_V_forget 5 = .ok (.return_, 1) := by decide +kernel
theorem dc_L_cut_0 : decode cd_L_cut 0 = .ok (.aload_n 2, 1) := by decide +kernel
theorem dc_L_cut_1 : decode cd_L_cut 1 = .ok (.iconst 0, 1) := by decide +kernel
theorem dc_L_cut_2 : decode cd_L_cut 2 = .ok (.aload_n 0, 1) := by decide +kernel
theorem dc_L_cut_3 : decode cd_L_cut 3 = .ok (.iload_n 1, 1) := by decide +kernel
theorem dc_L_cut_4 : decode cd_L_cut 4 = .ok (.invokevirtual 23, 3) := by decide +kernel
theorem dc_L_cut_7 : decode cd_L_cut 7 = .ok (.i2l, 1) := by decide +kernel
theorem dc_L_cut_8 : decode cd_L_cut 8 = .ok (.lastore, 1) := by decide +kernel
theorem dc_L_cut_9 : decode cd_L_cut 9 = .ok (.goto 12, 3) := by decide +kernel
theorem dc_L_cut_12 : decode cd_L_cut 12 = .ok (.astore_n 3, 1) := by decide +kernel
theorem dc_L_cut_13 : decode cd_L_cut 13 = .ok (.iconst 1, 1) := by decide +kernel
theorem dc_L_cut_14 : decode cd_L_cut 14 = .ok (.ireturn, 1) := by decide +kernel
theorem dc_L_cut_15 : decode cd_L_cut 15 = .ok (.astore_n 3, 1) := by decide +kernel
theorem dc_L_cut_16 : decode cd_L_cut 16 = .ok (.iconst 2, 1) := by decide +kernel
theorem dc_L_cut_17 : decode cd_L_cut 17 = .ok (.ireturn, 1) := by decide +kernel
theorem dc_L_cut_18 : decode cd_L_cut 18 = .ok (.astore_n 3, 1) := by decide +kernel
theorem dc_L_cut_19 : decode cd_L_cut 19 = .ok (.iconst 3, 1) := by decide +kernel
theorem dc_L_cut_20 : decode cd_L_cut 20 = .ok (.ireturn, 1) := by decide +kernel
theorem dc_L_cut_21 : decode cd_L_cut 21 = .ok (.iconst 0, 1) := by decide +kernel
theorem dc_L_cut_22 : decode cd_L_cut 22 = .ok (.ireturn, 1) := by decide +kernel
theorem dc_C_cut_0 : decode cd_C_cut 0 = .ok (.aload_n 0, 1) := by decide +kernel
theorem dc_C_cut_1 : decode cd_C_cut 1 = .ok (.invokevirtual 111, 3) := by decide +kernel
theorem dc_C_cut_4 : decode cd_C_cut 4 = .ok (.iload_n 1, 1) := by decide +kernel
theorem dc_C_cut_5 : decode cd_C_cut 5 = .ok (.ifCond .lt 14, 3) := by decide +kernel
theorem dc_C_cut_8 : decode cd_C_cut 8 = .ok (.iload_n 1, 1) := by decide +kernel
theorem dc_C_cut_9 : decode cd_C_cut 9 = .ok (.aload_n 0, 1) := by decide +kernel
theorem dc_C_cut_10 : decode cd_C_cut 10 = .ok (.getfield 12, 3) := by decide +kernel
theorem dc_C_cut_13 : decode cd_C_cut 13 = .ok (.invokevirtual 67, 3) := by decide +kernel
theorem dc_C_cut_16 : decode cd_C_cut 16 = .ok (.if_icmp .lt 11, 3) := by decide +kernel
theorem dc_C_cut_19 : decode cd_C_cut 19 = .ok (.new 114, 3) := by decide +kernel
theorem dc_C_cut_22 : decode cd_C_cut 22 = .ok (.dup, 1) := by decide +kernel
theorem dc_C_cut_23 : decode cd_C_cut 23 = .ok (.invokespecial 116, 3) := by decide +kernel
theorem dc_C_cut_26 : decode cd_C_cut 26 = .ok (.athrow, 1) := by decide +kernel
theorem dc_C_cut_27 : decode cd_C_cut 27 = .ok (.aload_n 0, 1) := by decide +kernel
theorem dc_C_cut_28 : decode cd_C_cut 28 = .ok (.getfield 81, 3) := by decide +kernel
theorem dc_C_cut_31 : decode cd_C_cut 31 = .ok (.iload_n 1, 1) := by decide +kernel
theorem dc_C_cut_32 : decode cd_C_cut 32 = .ok (.invokestatic 117, 3) := by decide +kernel
theorem dc_C_cut_35 : decode cd_C_cut 35 = .ok (.ifCond .ne 11, 3) := by decide +kernel
theorem dc_C_cut_38 : decode cd_C_cut 38 = .ok (.new 120, 3) := by decide +kernel
theorem dc_C_cut_41 : decode cd_C_cut 41 = .ok (.dup, 1) := by decide +kernel
theorem dc_C_cut_42 : decode cd_C_cut 42 = .ok (.invokespecial 122, 3) := by decide +kernel
theorem dc_C_cut_45 : decode cd_C_cut 45 = .ok (.athrow, 1) := by decide +kernel
theorem dc_C_cut_46 : decode cd_C_cut 46 = .ok (.aload_n 0, 1) := by decide +kernel
theorem dc_C_cut_47 : decode cd_C_cut 47 = .ok (.iload_n 1, 1) := by decide +kernel
theorem dc_C_cut_48 : decode cd_C_cut 48 = .ok (.invokevirtual 123, 3) := by decide +kernel
theorem dc_C_cut_51 : decode cd_C_cut 51 = .ok (.ireturn, 1) := by decide +kernel
theorem dc_C_requireBegun_0 : decode cd_C_requireBegun 0 = .ok (.aload_n 0, 1) := by decide +kernel
theorem dc_C_requireBegun_1 : decode cd_C_requireBegun 1 = .ok (.getfield 63, 3) := by decide +kernel
theorem dc_C_requireBegun_4 : decode cd_C_requireBegun 4 = .ok (.ifCond .ne 11, 3) := by decide +kernel
theorem dc_C_requireBegun_7 : decode cd_C_requireBegun 7 = .ok (.new 71, 3) := by decide +kernel
theorem dc_C_requireBegun_10 : decode cd_C_requireBegun 10 = .ok (.dup, 1) := by decide +kernel
theorem dc_C_requireBegun_11 : decode cd_C_requireBegun 11 = .ok (.invokespecial 73, 3) := by decide +kernel
theorem dc_C_requireBegun_14 : decode cd_C_requireBegun 14 = .ok (.athrow, 1) := by decide +kernel
theorem dc_C_requireBegun_15 : decode cd_C_requireBegun 15 = .ok (.return_, 1) := by decide +kernel
theorem dc_C_sever_0 : decode cd_C_sever 0 = .ok (.aload_n 0, 1) := by decide +kernel
theorem dc_C_sever_1 : decode cd_C_sever 1 = .ok (.getfield 12, 3) := by decide +kernel
theorem dc_C_sever_4 : decode cd_C_sever 4 = .ok (.aload_n 0, 1) := by decide +kernel
theorem dc_C_sever_5 : decode cd_C_sever 5 = .ok (.getfield 81, 3) := by decide +kernel
theorem dc_C_sever_8 : decode cd_C_sever 8 = .ok (.iload_n 1, 1) := by decide +kernel
theorem dc_C_sever_9 : decode cd_C_sever 9 = .ok (.invokevirtual 127, 3) := by decide +kernel
theorem dc_C_sever_12 : decode cd_C_sever 12 = .ok (.istore_n 2, 1) := by decide +kernel
theorem dc_C_sever_13 : decode cd_C_sever 13 = .ok (.aload_n 0, 1) := by decide +kernel
theorem dc_C_sever_14 : decode cd_C_sever 14 = .ok (.getfield 46, 3) := by decide +kernel
theorem dc_C_sever_17 : decode cd_C_sever 17 = .ok (.aload_n 0, 1) := by decide +kernel
theorem dc_C_sever_18 : decode cd_C_sever 18 = .ok (.getfield 105, 3) := by decide +kernel
theorem dc_C_sever_21 : decode cd_C_sever 21 = .ok (.iload_n 1, 1) := by decide +kernel
theorem dc_C_sever_22 : decode cd_C_sever 22 = .ok (.iastore, 1) := by decide +kernel
theorem dc_C_sever_23 : decode cd_C_sever 23 = .ok (.aload_n 0, 1) := by decide +kernel
theorem dc_C_sever_24 : decode cd_C_sever 24 = .ok (.getfield 50, 3) := by decide +kernel
theorem dc_C_sever_27 : decode cd_C_sever 27 = .ok (.aload_n 0, 1) := by decide +kernel
theorem dc_C_sever_28 : decode cd_C_sever 28 = .ok (.getfield 105, 3) := by decide +kernel
theorem dc_C_sever_31 : decode cd_C_sever 31 = .ok (.aload_n 0, 1) := by decide +kernel
theorem dc_C_sever_32 : decode cd_C_sever 32 = .ok (.getfield 108, 3) := by decide +kernel
theorem dc_C_sever_35 : decode cd_C_sever 35 = .ok (.iastore, 1) := by decide +kernel
theorem dc_C_sever_36 : decode cd_C_sever 36 = .ok (.aload_n 0, 1) := by decide +kernel
theorem dc_C_sever_37 : decode cd_C_sever 37 = .ok (.dup, 1) := by decide +kernel
theorem dc_C_sever_38 : decode cd_C_sever 38 = .ok (.getfield 105, 3) := by decide +kernel
theorem dc_C_sever_41 : decode cd_C_sever 41 = .ok (.iconst 1, 1) := by decide +kernel
theorem dc_C_sever_42 : decode cd_C_sever 42 = .ok (.iadd, 1) := by decide +kernel
theorem dc_C_sever_43 : decode cd_C_sever 43 = .ok (.putfield 105, 3) := by decide +kernel
theorem dc_C_sever_46 : decode cd_C_sever 46 = .ok (.aload_n 0, 1) := by decide +kernel
theorem dc_C_sever_47 : decode cd_C_sever 47 = .ok (.aload_n 0, 1) := by decide +kernel
theorem dc_C_sever_48 : decode cd_C_sever 48 = .ok (.getfield 81, 3) := by decide +kernel
theorem dc_C_sever_51 : decode cd_C_sever 51 = .ok (.iload_n 1, 1) := by decide +kernel
theorem dc_C_sever_52 : decode cd_C_sever 52 = .ok (.invokestatic 169, 3) := by decide +kernel
theorem dc_C_sever_55 : decode cd_C_sever 55 = .ok (.putfield 81, 3) := by decide +kernel
theorem dc_C_sever_58 : decode cd_C_sever 58 = .ok (.aload_n 0, 1) := by decide +kernel
theorem dc_C_sever_59 : decode cd_C_sever 59 = .ok (.getfield 53, 3) := by decide +kernel
theorem dc_C_sever_62 : decode cd_C_sever 62 = .ok (.aload_n 0, 1) := by decide +kernel
theorem dc_C_sever_63 : decode cd_C_sever 63 = .ok (.getfield 108, 3) := by decide +kernel
theorem dc_C_sever_66 : decode cd_C_sever 66 = .ok (.dup2, 1) := by decide +kernel
theorem dc_C_sever_67 : decode cd_C_sever 67 = .ok (.iaload, 1) := by decide +kernel
theorem dc_C_sever_68 : decode cd_C_sever 68 = .ok (.iload_n 2, 1) := by decide +kernel
theorem dc_C_sever_69 : decode cd_C_sever 69 = .ok (.iadd, 1) := by decide +kernel
theorem dc_C_sever_70 : decode cd_C_sever 70 = .ok (.iastore, 1) := by decide +kernel
theorem dc_C_sever_71 : decode cd_C_sever 71 = .ok (.iload_n 2, 1) := by decide +kernel
theorem dc_C_sever_72 : decode cd_C_sever 72 = .ok (.ifCond .ne 13, 3) := by decide +kernel
theorem dc_C_sever_75 : decode cd_C_sever 75 = .ok (.aload_n 0, 1) := by decide +kernel
theorem dc_C_sever_76 : decode cd_C_sever 76 = .ok (.iconst 1, 1) := by decide +kernel
theorem dc_C_sever_77 : decode cd_C_sever 77 = .ok (.aload_n 0, 1) := by decide +kernel
theorem dc_C_sever_78 : decode cd_C_sever 78 = .ok (.getfield 108, 3) := by decide +kernel
theorem dc_C_sever_81 : decode cd_C_sever 81 = .ok (.isub, 1) := by decide +kernel
theorem dc_C_sever_82 : decode cd_C_sever 82 = .ok (.putfield 108, 3) := by decide +kernel
theorem dc_C_sever_85 : decode cd_C_sever 85 = .ok (.iload_n 2, 1) := by decide +kernel
theorem dc_C_sever_86 : decode cd_C_sever 86 = .ok (.ireturn, 1) := by decide +kernel
theorem dc_W_freed_0 : decode cd_W_freed 0 = .ok (.aload_n 0, 1) := by decide +kernel
theorem dc_W_freed_1 : decode cd_W_freed 1 = .ok (.iload_n 1, 1) := by decide +kernel
theorem dc_W_freed_2 : decode cd_W_freed 2 = .ok (.aload_n 0, 1) := by decide +kernel
theorem dc_W_freed_3 : decode cd_W_freed 3 = .ok (.getfield 9, 3) := by decide +kernel
theorem dc_W_freed_6 : decode cd_W_freed 6 = .ok (.iload_n 2, 1) := by decide +kernel
theorem dc_W_freed_7 : decode cd_W_freed 7 = .ok (.iaload, 1) := by decide +kernel
theorem dc_W_freed_8 : decode cd_W_freed 8 = .ok (.iload_n 2, 1) := by decide +kernel
theorem dc_W_freed_9 : decode cd_W_freed 9 = .ok (.invokevirtual 50, 3) := by decide +kernel
theorem dc_W_freed_12 : decode cd_W_freed 12 = .ok (.ifCond .eq 7, 3) := by decide +kernel
theorem dc_W_freed_15 : decode cd_W_freed 15 = .ok (.iconst 1, 1) := by decide +kernel
theorem dc_W_freed_16 : decode cd_W_freed 16 = .ok (.goto 4, 3) := by decide +kernel
theorem dc_W_freed_19 : decode cd_W_freed 19 = .ok (.iconst 0, 1) := by decide +kernel
theorem dc_W_freed_20 : decode cd_W_freed 20 = .ok (.istore_n 3, 1) := by decide +kernel
theorem dc_W_freed_21 : decode cd_W_freed 21 = .ok (.aload_n 0, 1) := by decide +kernel
theorem dc_W_freed_22 : decode cd_W_freed 22 = .ok (.getfield 15, 3) := by decide +kernel
theorem dc_W_freed_25 : decode cd_W_freed 25 = .ok (.iload_n 2, 1) := by decide +kernel
theorem dc_W_freed_26 : decode cd_W_freed 26 = .ok (.iaload, 1) := by decide +kernel
theorem dc_W_freed_27 : decode cd_W_freed 27 = .ok (.iconst (-1), 1) := by decide +kernel
theorem dc_W_freed_28 : decode cd_W_freed 28 = .ok (.if_icmp .eq 21, 3) := by decide +kernel
theorem dc_W_freed_31 : decode cd_W_freed 31 = .ok (.aload_n 0, 1) := by decide +kernel
theorem dc_W_freed_32 : decode cd_W_freed 32 = .ok (.iload_n 1, 1) := by decide +kernel
theorem dc_W_freed_33 : decode cd_W_freed 33 = .ok (.aload_n 0, 1) := by decide +kernel
theorem dc_W_freed_34 : decode cd_W_freed 34 = .ok (.getfield 15, 3) := by decide +kernel
theorem dc_W_freed_37 : decode cd_W_freed 37 = .ok (.iload_n 2, 1) := by decide +kernel
theorem dc_W_freed_38 : decode cd_W_freed 38 = .ok (.iaload, 1) := by decide +kernel
theorem dc_W_freed_39 : decode cd_W_freed 39 = .ok (.iload_n 2, 1) := by decide +kernel
theorem dc_W_freed_40 : decode cd_W_freed 40 = .ok (.invokevirtual 50, 3) := by decide +kernel
theorem dc_W_freed_43 : decode cd_W_freed 43 = .ok (.ifCond .eq 6, 3) := by decide +kernel
theorem dc_W_freed_46 : decode cd_W_freed 46 = .ok (.iinc 3 1, 3) := by decide +kernel
theorem dc_W_freed_49 : decode cd_W_freed 49 = .ok (.iload_n 3, 1) := by decide +kernel
theorem dc_W_freed_50 : decode cd_W_freed 50 = .ok (.ireturn, 1) := by decide +kernel
theorem dc_W_hangsOnlyOn_0 : decode cd_W_hangsOnlyOn 0 = .ok (.iload_n 1, 1) := by decide +kernel
theorem dc_W_hangsOnlyOn_1 : decode cd_W_hangsOnlyOn 1 = .ok (.aload_n 0, 1) := by decide +kernel
theorem dc_W_hangsOnlyOn_2 : decode cd_W_hangsOnlyOn 2 = .ok (.getfield 18, 3) := by decide +kernel
theorem dc_W_hangsOnlyOn_5 : decode cd_W_hangsOnlyOn 5 = .ok (.iload_n 2, 1) := by decide +kernel
theorem dc_W_hangsOnlyOn_6 : decode cd_W_hangsOnlyOn 6 = .ok (.iaload, 1) := by decide +kernel
theorem dc_W_hangsOnlyOn_7 : decode cd_W_hangsOnlyOn 7 = .ok (.iand, 1) := by decide +kernel
theorem dc_W_hangsOnlyOn_8 : decode cd_W_hangsOnlyOn 8 = .ok (.iconst 1, 1) := by decide +kernel
theorem dc_W_hangsOnlyOn_9 : decode cd_W_hangsOnlyOn 9 = .ok (.iload_n 3, 1) := by decide +kernel
theorem dc_W_hangsOnlyOn_10 : decode cd_W_hangsOnlyOn 10 = .ok (.ishl, 1) := by decide +kernel
theorem dc_W_hangsOnlyOn_11 : decode cd_W_hangsOnlyOn 11 = .ok (.if_icmp .ne 7, 3) := by decide +kernel
theorem dc_W_hangsOnlyOn_14 : decode cd_W_hangsOnlyOn 14 = .ok (.iconst 1, 1) := by decide +kernel
theorem dc_W_hangsOnlyOn_15 : decode cd_W_hangsOnlyOn 15 = .ok (.goto 4, 3) := by decide +kernel
theorem dc_W_hangsOnlyOn_18 : decode cd_W_hangsOnlyOn 18 = .ok (.iconst 0, 1) := by decide +kernel
theorem dc_W_hangsOnlyOn_19 : decode cd_W_hangsOnlyOn 19 = .ok (.ireturn, 1) := by decide +kernel
theorem dc_C_without_0 : decode cd_C_without 0 = .ok (.iload_n 0, 1) := by decide +kernel
theorem dc_C_without_1 : decode cd_C_without 1 = .ok (.iconst 1, 1) := by decide +kernel
theorem dc_C_without_2 : decode cd_C_without 2 = .ok (.iload_n 1, 1) := by decide +kernel
theorem dc_C_without_3 : decode cd_C_without 3 = .ok (.ishl, 1) := by decide +kernel
theorem dc_C_without_4 : decode cd_C_without 4 = .ok (.iconst (-1), 1) := by decide +kernel
theorem dc_C_without_5 : decode cd_C_without 5 = .ok (.ixor, 1) := by decide +kernel
theorem dc_C_without_6 : decode cd_C_without 6 = .ok (.iand, 1) := by decide +kernel
theorem dc_C_without_7 : decode cd_C_without 7 = .ok (.ireturn, 1) := by decide +kernel
theorem dc_L_undo_0 : decode cd_L_undo 0 = .ok (.aload_n 1, 1) := by decide +kernel
theorem dc_L_undo_1 : decode cd_L_undo 1 = .ok (.iconst 0, 1) := by decide +kernel
theorem dc_L_undo_2 : decode cd_L_undo 2 = .ok (.aload_n 0, 1) := by decide +kernel
theorem dc_L_undo_3 : decode cd_L_undo 3 = .ok (.invokevirtual 31, 3) := by decide +kernel
theorem dc_L_undo_6 : decode cd_L_undo 6 = .ok (.i2l, 1) := by decide +kernel
theorem dc_L_undo_7 : decode cd_L_undo 7 = .ok (.lastore, 1) := by decide +kernel
theorem dc_L_undo_8 : decode cd_L_undo 8 = .ok (.goto 6, 3) := by decide +kernel
theorem dc_L_undo_11 : decode cd_L_undo 11 = .ok (.astore_n 2, 1) := by decide +kernel
theorem dc_L_undo_12 : decode cd_L_undo 12 = .ok (.iconst 1, 1) := by decide +kernel
theorem dc_L_undo_13 : decode cd_L_undo 13 = .ok (.ireturn, 1) := by decide +kernel
theorem dc_L_undo_14 : decode cd_L_undo 14 = .ok (.iconst 0, 1) := by decide +kernel
theorem dc_L_undo_15 : decode cd_L_undo 15 = .ok (.ireturn, 1) := by decide +kernel
theorem dc_C_undo_0 : decode cd_C_undo 0 = .ok (.aload_n 0, 1) := by decide +kernel
theorem dc_C_undo_1 : decode cd_C_undo 1 = .ok (.getfield 105, 3) := by decide +kernel
theorem dc_C_undo_4 : decode cd_C_undo 4 = .ok (.ifCond .ne 11, 3) := by decide +kernel
theorem dc_C_undo_7 : decode cd_C_undo 7 = .ok (.new 120, 3) := by decide +kernel
theorem dc_C_undo_10 : decode cd_C_undo 10 = .ok (.dup, 1) := by decide +kernel
theorem dc_C_undo_11 : decode cd_C_undo 11 = .ok (.invokespecial 122, 3) := by decide +kernel
theorem dc_C_undo_14 : decode cd_C_undo 14 = .ok (.athrow, 1) := by decide +kernel
theorem dc_C_undo_15 : decode cd_C_undo 15 = .ok (.aload_n 0, 1) := by decide +kernel
theorem dc_C_undo_16 : decode cd_C_undo 16 = .ok (.dup, 1) := by decide +kernel
theorem dc_C_undo_17 : decode cd_C_undo 17 = .ok (.getfield 105, 3) := by decide +kernel
theorem dc_C_undo_20 : decode cd_C_undo 20 = .ok (.iconst 1, 1) := by decide +kernel
theorem dc_C_undo_21 : decode cd_C_undo 21 = .ok (.isub, 1) := by decide +kernel
theorem dc_C_undo_22 : decode cd_C_undo 22 = .ok (.putfield 105, 3) := by decide +kernel
theorem dc_C_undo_25 : decode cd_C_undo 25 = .ok (.aload_n 0, 1) := by decide +kernel
theorem dc_C_undo_26 : decode cd_C_undo 26 = .ok (.getfield 46, 3) := by decide +kernel
theorem dc_C_undo_29 : decode cd_C_undo 29 = .ok (.aload_n 0, 1) := by decide +kernel
theorem dc_C_undo_30 : decode cd_C_undo 30 = .ok (.getfield 105, 3) := by decide +kernel
theorem dc_C_undo_33 : decode cd_C_undo 33 = .ok (.iaload, 1) := by decide +kernel
theorem dc_C_undo_34 : decode cd_C_undo 34 = .ok (.istore_n 1, 1) := by decide +kernel
theorem dc_C_undo_35 : decode cd_C_undo 35 = .ok (.aload_n 0, 1) := by decide +kernel
theorem dc_C_undo_36 : decode cd_C_undo 36 = .ok (.dup, 1) := by decide +kernel
theorem dc_C_undo_37 : decode cd_C_undo 37 = .ok (.getfield 81, 3) := by decide +kernel
theorem dc_C_undo_40 : decode cd_C_undo 40 = .ok (.iconst 1, 1) := by decide +kernel
theorem dc_C_undo_41 : decode cd_C_undo 41 = .ok (.iload_n 1, 1) := by decide +kernel
theorem dc_C_undo_42 : decode cd_C_undo 42 = .ok (.ishl, 1) := by decide +kernel
theorem dc_C_undo_43 : decode cd_C_undo 43 = .ok (.ior, 1) := by decide +kernel
theorem dc_C_undo_44 : decode cd_C_undo 44 = .ok (.putfield 81, 3) := by decide +kernel
theorem dc_C_undo_47 : decode cd_C_undo 47 = .ok (.aload_n 0, 1) := by decide +kernel
theorem dc_C_undo_48 : decode cd_C_undo 48 = .ok (.aload_n 0, 1) := by decide +kernel
theorem dc_C_undo_49 : decode cd_C_undo 49 = .ok (.getfield 50, 3) := by decide +kernel
theorem dc_C_undo_52 : decode cd_C_undo 52 = .ok (.aload_n 0, 1) := by decide +kernel
theorem dc_C_undo_53 : decode cd_C_undo 53 = .ok (.getfield 105, 3) := by decide +kernel
theorem dc_C_undo_56 : decode cd_C_undo 56 = .ok (.iaload, 1) := by decide +kernel
theorem dc_C_undo_57 : decode cd_C_undo 57 = .ok (.putfield 108, 3) := by decide +kernel
theorem dc_C_undo_60 : decode cd_C_undo 60 = .ok (.aload_n 0, 1) := by decide +kernel
theorem dc_C_undo_61 : decode cd_C_undo 61 = .ok (.getfield 53, 3) := by decide +kernel
theorem dc_C_undo_64 : decode cd_C_undo 64 = .ok (.aload_n 0, 1) := by decide +kernel
theorem dc_C_undo_65 : decode cd_C_undo 65 = .ok (.getfield 108, 3) := by decide +kernel
theorem dc_C_undo_68 : decode cd_C_undo 68 = .ok (.dup2, 1) := by decide +kernel
theorem dc_C_undo_69 : decode cd_C_undo 69 = .ok (.iaload, 1) := by decide +kernel
theorem dc_C_undo_70 : decode cd_C_undo 70 = .ok (.aload_n 0, 1) := by decide +kernel
theorem dc_C_undo_71 : decode cd_C_undo 71 = .ok (.getfield 12, 3) := by decide +kernel
theorem dc_C_undo_74 : decode cd_C_undo 74 = .ok (.aload_n 0, 1) := by decide +kernel
theorem dc_C_undo_75 : decode cd_C_undo 75 = .ok (.getfield 81, 3) := by decide +kernel
theorem dc_C_undo_78 : decode cd_C_undo 78 = .ok (.iload_n 1, 1) := by decide +kernel
theorem dc_C_undo_79 : decode cd_C_undo 79 = .ok (.invokevirtual 127, 3) := by decide +kernel
theorem dc_C_undo_82 : decode cd_C_undo 82 = .ok (.isub, 1) := by decide +kernel
theorem dc_C_undo_83 : decode cd_C_undo 83 = .ok (.iastore, 1) := by decide +kernel
theorem dc_C_undo_84 : decode cd_C_undo 84 = .ok (.iload_n 1, 1) := by decide +kernel
theorem dc_C_undo_85 : decode cd_C_undo 85 = .ok (.ireturn, 1) := by decide +kernel
theorem dc_L_play_0 : decode cd_L_play 0 = .ok (.aload_n 1, 1) := by decide +kernel
theorem dc_L_play_1 : decode cd_L_play 1 = .ok (.iconst 0, 1) := by decide +kernel
theorem dc_L_play_2 : decode cd_L_play 2 = .ok (.aload_n 0, 1) := by decide +kernel
theorem dc_L_play_3 : decode cd_L_play 3 = .ok (.invokevirtual 35, 3) := by decide +kernel
theorem dc_L_play_6 : decode cd_L_play 6 = .ok (.i2l, 1) := by decide +kernel
theorem dc_L_play_7 : decode cd_L_play 7 = .ok (.lastore, 1) := by decide +kernel
theorem dc_L_play_8 : decode cd_L_play 8 = .ok (.goto 6, 3) := by decide +kernel
theorem dc_L_play_11 : decode cd_L_play 11 = .ok (.astore_n 2, 1) := by decide +kernel
theorem dc_L_play_12 : decode cd_L_play 12 = .ok (.iconst 1, 1) := by decide +kernel
theorem dc_L_play_13 : decode cd_L_play 13 = .ok (.ireturn, 1) := by decide +kernel
theorem dc_L_play_14 : decode cd_L_play 14 = .ok (.iconst 0, 1) := by decide +kernel
theorem dc_L_play_15 : decode cd_L_play 15 = .ok (.ireturn, 1) := by decide +kernel
theorem dc_C_play_0 : decode cd_C_play 0 = .ok (.aload_n 0, 1) := by decide +kernel
theorem dc_C_play_1 : decode cd_C_play 1 = .ok (.invokevirtual 111, 3) := by decide +kernel
theorem dc_C_play_4 : decode cd_C_play 4 = .ok (.aload_n 0, 1) := by decide +kernel
theorem dc_C_play_5 : decode cd_C_play 5 = .ok (.getfield 108, 3) := by decide +kernel
theorem dc_C_play_8 : decode cd_C_play 8 = .ok (.istore_n 1, 1) := by decide +kernel
theorem dc_C_play_9 : decode cd_C_play 9 = .ok (.iconst 0, 1) := by decide +kernel
theorem dc_C_play_10 : decode cd_C_play 10 = .ok (.istore_n 2, 1) := by decide +kernel
theorem dc_C_play_11 : decode cd_C_play 11 = .ok (.iload_n 2, 1) := by decide +kernel
theorem dc_C_play_12 : decode cd_C_play 12 = .ok (.bipush 12, 2) := by decide +kernel
theorem dc_C_play_14 : decode cd_C_play 14 = .ok (.if_icmp .ge 43, 3) := by decide +kernel
theorem dc_C_play_17 : decode cd_C_play 17 = .ok (.aload_n 0, 1) := by decide +kernel
theorem dc_C_play_18 : decode cd_C_play 18 = .ok (.getfield 81, 3) := by decide +kernel
theorem dc_C_play_21 : decode cd_C_play 21 = .ok (.ifCond .eq 36, 3) := by decide +kernel
theorem dc_C_play_24 : decode cd_C_play 24 = .ok (.aload_n 0, 1) := by decide +kernel
theorem dc_C_play_25 : decode cd_C_play 25 = .ok (.getfield 108, 3) := by decide +kernel
theorem dc_C_play_28 : decode cd_C_play 28 = .ok (.iload_n 1, 1) := by decide +kernel
theorem dc_C_play_29 : decode cd_C_play 29 = .ok (.if_icmp .ne 28, 3) := by decide +kernel
theorem dc_C_play_32 : decode cd_C_play 32 = .ok (.aload_n 0, 1) := by decide +kernel
theorem dc_C_play_33 : decode cd_C_play 33 = .ok (.aload_n 0, 1) := by decide +kernel
theorem dc_C_play_34 : decode cd_C_play 34 = .ok (.getfield 21, 3) := by decide +kernel
theorem dc_C_play_37 : decode cd_C_play 37 = .ok (.aload_n 0, 1) := by decide +kernel
theorem dc_C_play_38 : decode cd_C_play 38 = .ok (.getfield 81, 3) := by decide +kernel
theorem dc_C_play_41 : decode cd_C_play 41 = .ok (.invokevirtual 131, 3) := by decide +kernel
theorem dc_C_play_44 : decode cd_C_play 44 = .ok (.invokestatic 134, 3) := by decide +kernel
theorem dc_C_play_47 : decode cd_C_play 47 = .ok (.invokevirtual 123, 3) := by decide +kernel
theorem dc_C_play_50 : decode cd_C_play 50 = .ok (.pop, 1) := by decide +kernel
theorem dc_C_play_51 : decode cd_C_play 51 = .ok (.iinc 2 1, 3) := by decide +kernel
theorem dc_C_play_54 : decode cd_C_play 54 = .ok (.goto (-43), 3) := by decide +kernel
theorem dc_C_play_57 : decode cd_C_play 57 = .ok (.iload_n 2, 1) := by decide +kernel
theorem dc_C_play_58 : decode cd_C_play 58 = .ok (.ireturn, 1) := by decide +kernel
theorem dc_V_markedStrings_0 : decode cd_V_markedStrings 0 = .ok (.aload_n 0, 1) := by decide +kernel
theorem dc_V_markedStrings_1 : decode cd_V_markedStrings 1 = .ok (.invokevirtual 23, 3) := by decide +kernel
theorem dc_V_markedStrings_4 : decode cd_V_markedStrings 4 = .ok (.iconst 0, 1) := by decide +kernel
theorem dc_V_markedStrings_5 : decode cd_V_markedStrings 5 = .ok (.istore_n 2, 1) := by decide +kernel
theorem dc_V_markedStrings_6 : decode cd_V_markedStrings 6 = .ok (.iconst 0, 1) := by decide +kernel
theorem dc_V_markedStrings_7 : decode cd_V_markedStrings 7 = .ok (.istore_n 3, 1) := by decide +kernel
theorem dc_V_markedStrings_8 : decode cd_V_markedStrings 8 = .ok (.iload_n 3, 1) := by decide +kernel
theorem dc_V_markedStrings_9 : decode cd_V_markedStrings 9 = .ok (.aload_n 0, 1) := by decide +kernel
theorem dc_V_markedStrings_10 : decode cd_V_markedStrings 10 = .ok (.getfield 15, 3) := by decide +kernel
theorem dc_V_markedStrings_13 : decode cd_V_markedStrings 13 = .ok (.invokevirtual 26, 3) := by decide +kernel
theorem dc_V_markedStrings_16 : decode cd_V_markedStrings 16 = .ok (.if_icmp .ge 32, 3) := by decide +kernel
theorem dc_V_markedStrings_19 : decode cd_V_markedStrings 19 = .ok (.iload_n 1, 1) := by decide +kernel
theorem dc_V_markedStrings_20 : decode cd_V_markedStrings 20 = .ok (.iload_n 3, 1) := by decide +kernel
theorem dc_V_markedStrings_21 : decode cd_V_markedStrings 21 = .ok (.invokestatic 32, 3) := by decide +kernel
theorem dc_V_markedStrings_24 : decode cd_V_markedStrings 24 = .ok (.ifCond .eq 18, 3) := by decide +kernel
theorem dc_V_markedStrings_27 : decode cd_V_markedStrings 27 = .ok (.aload_n 0, 1) := by decide +kernel
theorem dc_V_markedStrings_28 : decode cd_V_markedStrings 28 = .ok (.iload_n 1, 1) := by decide +kernel
theorem dc_V_markedStrings_29 : decode cd_V_markedStrings 29 = .ok (.iload_n 3, 1) := by decide +kernel
theorem dc_V_markedStrings_30 : decode cd_V_markedStrings 30 = .ok (.invokevirtual 36, 3) := by decide +kernel
theorem dc_V_markedStrings_33 : decode cd_V_markedStrings 33 = .ok (.ifCond .eq 9, 3) := by decide +kernel
theorem dc_V_markedStrings_36 : decode cd_V_markedStrings 36 = .ok (.iload_n 2, 1) := by decide +kernel
theorem dc_V_markedStrings_37 : decode cd_V_markedStrings 37 = .ok (.iconst 1, 1) := by decide +kernel
theorem dc_V_markedStrings_38 : decode cd_V_markedStrings 38 = .ok (.iload_n 3, 1) := by decide +kernel
theorem dc_V_markedStrings_39 : decode cd_V_markedStrings 39 = .ok (.ishl, 1) := by decide +kernel
theorem dc_V_markedStrings_40 : decode cd_V_markedStrings 40 = .ok (.ior, 1) := by decide +kernel
theorem dc_V_markedStrings_41 : decode cd_V_markedStrings 41 = .ok (.istore_n 2, 1) := by decide +kernel
theorem dc_V_markedStrings_42 : decode cd_V_markedStrings 42 = .ok (.iinc 3 1, 3) := by decide +kernel
theorem dc_V_markedStrings_45 : decode cd_V_markedStrings 45 = .ok (.goto (-37), 3) := by decide +kernel
theorem dc_V_markedStrings_48 : decode cd_V_markedStrings 48 = .ok (.iload_n 2, 1) := by decide +kernel
theorem dc_V_markedStrings_49 : decode cd_V_markedStrings 49 = .ok (.ireturn, 1) := by decide +kernel
theorem dc_V_prepare_0 : decode cd_V_prepare 0 = .ok (.aload_n 0, 1) := by decide +kernel
theorem dc_V_prepare_1 : decode cd_V_prepare 1 = .ok (.getfield 19, 3) := by decide +kernel
theorem dc_V_prepare_4 : decode cd_V_prepare 4 = .ok (.ifCond .eq 4, 3) := by decide +kernel
theorem dc_V_prepare_7 : decode cd_V_prepare 7 = .ok (.return_, 1) := by decide +kernel
theorem dc_V_prepare_8 : decode cd_V_prepare 8 = .ok (.iconst 0, 1) := by decide +kernel
theorem dc_V_prepare_9 : decode cd_V_prepare 9 = .ok (.istore_n 1, 1) := by decide +kernel
theorem dc_V_prepare_10 : decode cd_V_prepare 10 = .ok (.iload_n 1, 1) := by decide +kernel
theorem dc_V_prepare_11 : decode cd_V_prepare 11 = .ok (.aload_n 0, 1) := by decide +kernel
theorem dc_V_prepare_12 : decode cd_V_prepare 12 = .ok (.getfield 15, 3) := by decide +kernel
theorem dc_V_prepare_15 : decode cd_V_prepare 15 = .ok (.invokevirtual 39, 3) := by decide +kernel
theorem dc_V_prepare_18 : decode cd_V_prepare 18 = .ok (.if_icmp .gt 21, 3) := by decide +kernel
theorem dc_V_prepare_21 : decode cd_V_prepare 21 = .ok (.aload_n 0, 1) := by decide +kernel
theorem dc_V_prepare_22 : decode cd_V_prepare 22 = .ok (.getfield 9, 3) := by decide +kernel
theorem dc_V_prepare_25 : decode cd_V_prepare 25 = .ok (.iload_n 1, 1) := by decide +kernel
theorem dc_V_prepare_26 : decode cd_V_prepare 26 = .ok (.aload_n 0, 1) := by decide +kernel
theorem dc_V_prepare_27 : decode cd_V_prepare 27 = .ok (.iload_n 1, 1) := by decide +kernel
theorem dc_V_prepare_28 : decode cd_V_prepare 28 = .ok (.invokevirtual 42, 3) := by decide +kernel
theorem dc_V_prepare_31 : decode cd_V_prepare 31 = .ok (.i2b, 1) := by decide +kernel
theorem dc_V_prepare_32 : decode cd_V_prepare 32 = .ok (.bastore, 1) := by decide +kernel
theorem dc_V_prepare_33 : decode cd_V_prepare 33 = .ok (.iinc 1 1, 3) := by decide +kernel
theorem dc_V_prepare_36 : decode cd_V_prepare 36 = .ok (.goto (-26), 3) := by decide +kernel
theorem dc_V_prepare_39 : decode cd_V_prepare 39 = .ok (.aload_n 0, 1) := by decide +kernel
theorem dc_V_prepare_40 : decode cd_V_prepare 40 = .ok (.iconst 1, 1) := by decide +kernel
theorem dc_V_prepare_41 : decode cd_V_prepare 41 = .ok (.putfield 19, 3) := by decide +kernel
theorem dc_V_prepare_44 : decode cd_V_prepare 44 = .ok (.return_, 1) := by decide +kernel
theorem dc_M_workOut_0 : decode cd_M_workOut 0 = .ok (.iload_n 1, 1) := by decide +kernel
theorem dc_M_workOut_1 : decode cd_M_workOut 1 = .ok (.ifCond .ne 5, 3) := by decide +kernel
theorem dc_M_workOut_4 : decode cd_M_workOut 4 = .ok (.iconst 0, 1) := by decide +kernel
theorem dc_M_workOut_5 : decode cd_M_workOut 5 = .ok (.ireturn, 1) := by decide +kernel
theorem dc_M_workOut_6 : decode cd_M_workOut 6 = .ok (.bipush (-8), 2) := by decide +kernel
theorem dc_M_workOut_8 : decode cd_M_workOut 8 = .ok (.istore_n 2, 1) := by decide +kernel
theorem dc_M_workOut_9 : decode cd_M_workOut 9 = .ok (.iconst 0, 1) := by decide +kernel
theorem dc_M_workOut_10 : decode cd_M_workOut 10 = .ok (.istore_n 3, 1) := by decide +kernel
theorem dc_M_workOut_11 : decode cd_M_workOut 11 = .ok (.iload_n 3, 1) := by decide +kernel
theorem dc_M_workOut_12 : decode cd_M_workOut 12 = .ok (.aload_n 0, 1) := by decide +kernel
theorem dc_M_workOut_13 : decode cd_M_workOut 13 = .ok (.getfield 9, 3) := by decide +kernel
theorem dc_M_workOut_16 : decode cd_M_workOut 16 = .ok (.invokevirtual 15, 3) := by decide +kernel
theorem dc_M_workOut_19 : decode cd_M_workOut 19 = .ok (.if_icmp .ge 28, 3) := by decide +kernel
theorem dc_M_workOut_22 : decode cd_M_workOut 22 = .ok (.iload_n 1, 1) := by decide +kernel
theorem dc_M_workOut_23 : decode cd_M_workOut 23 = .ok (.iload_n 3, 1) := by decide +kernel
theorem dc_M_workOut_24 : decode cd_M_workOut 24 = .ok (.invokestatic 21, 3) := by decide +kernel
theorem dc_M_workOut_27 : decode cd_M_workOut 27 = .ok (.ifCond .eq 14, 3) := by decide +kernel
theorem dc_M_workOut_30 : decode cd_M_workOut 30 = .ok (.iload_n 2, 1) := by decide +kernel
theorem dc_M_workOut_31 : decode cd_M_workOut 31 = .ok (.aload_n 0, 1) := by decide +kernel
theorem dc_M_workOut_32 : decode cd_M_workOut 32 = .ok (.iload_n 1, 1) := by decide +kernel
theorem dc_M_workOut_33 : decode cd_M_workOut 33 = .ok (.iload_n 3, 1) := by decide +kernel
theorem dc_M_workOut_34 : decode cd_M_workOut 34 = .ok (.invokevirtual 25, 3) := by decide +kernel
theorem dc_M_workOut_37 : decode cd_M_workOut 37 = .ok (.invokestatic 29, 3) := by decide +kernel
theorem dc_M_workOut_40 : decode cd_M_workOut 40 = .ok (.istore_n 2, 1) := by decide +kernel
theorem dc_M_workOut_41 : decode cd_M_workOut 41 = .ok (.iinc 3 1, 3) := by decide +kernel
theorem dc_M_workOut_44 : decode cd_M_workOut 44 = .ok (.goto (-33), 3) := by decide +kernel
theorem dc_M_workOut_47 : decode cd_M_workOut 47 = .ok (.iload_n 2, 1) := by decide +kernel
theorem dc_M_workOut_48 : decode cd_M_workOut 48 = .ok (.ireturn, 1) := by decide +kernel
theorem dc_M_given_0 : decode cd_M_given 0 = .ok (.aload_n 0, 1) := by decide +kernel
theorem dc_M_given_1 : decode cd_M_given 1 = .ok (.getfield 9, 3) := by decide +kernel
theorem dc_M_given_4 : decode cd_M_given 4 = .ok (.iload_n 1, 1) := by decide +kernel
theorem dc_M_given_5 : decode cd_M_given 5 = .ok (.iload_n 2, 1) := by decide +kernel
theorem dc_M_given_6 : decode cd_M_given 6 = .ok (.invokevirtual 38, 3) := by decide +kernel
theorem dc_M_given_9 : decode cd_M_given 9 = .ok (.istore_n 3, 1) := by decide +kernel
theorem dc_M_given_10 : decode cd_M_given 10 = .ok (.aload_n 0, 1) := by decide +kernel
theorem dc_M_given_11 : decode cd_M_given 11 = .ok (.getfield 34, 3) := by decide +kernel
theorem dc_M_given_14 : decode cd_M_given 14 = .ok (.iload_n 1, 1) := by decide +kernel
theorem dc_M_given_15 : decode cd_M_given 15 = .ok (.iload_n 2, 1) := by decide +kernel
theorem dc_M_given_16 : decode cd_M_given 16 = .ok (.invokestatic 41, 3) := by decide +kernel
theorem dc_M_given_19 : decode cd_M_given 19 = .ok (.baload, 1) := by decide +kernel
theorem dc_M_given_20 : decode cd_M_given 20 = .ok (.istore 4, 2) := by decide +kernel
theorem dc_M_given_22 : decode cd_M_given 22 = .ok (.iload_n 3, 1) := by decide +kernel
theorem dc_M_given_23 : decode cd_M_given 23 = .ok (.ifCond .le 10, 3) := by decide +kernel
theorem dc_M_given_26 : decode cd_M_given 26 = .ok (.iload_n 3, 1) := by decide +kernel
theorem dc_M_given_27 : decode cd_M_given 27 = .ok (.iload 4, 2) := by decide +kernel
theorem dc_M_given_29 : decode cd_M_given 29 = .ok (.iadd, 1) := by decide +kernel
theorem dc_M_given_30 : decode cd_M_given 30 = .ok (.goto 6, 3) := by decide +kernel
theorem dc_M_given_33 : decode cd_M_given 33 = .ok (.iload 4, 2) := by decide +kernel
theorem dc_M_given_35 : decode cd_M_given 35 = .ok (.ineg, 1) := by decide +kernel
theorem dc_M_given_36 : decode cd_M_given 36 = .ok (.ireturn, 1) := by decide +kernel
theorem dc_N_workOut_0 : decode cd_N_workOut 0 = .ok (.iconst 0, 1) := by decide +kernel
theorem dc_N_workOut_1 : decode cd_N_workOut 1 = .ok (.istore_n 2, 1) := by decide +kernel
theorem dc_N_workOut_2 : decode cd_N_workOut 2 = .ok (.iconst 0, 1) := by decide +kernel
theorem dc_N_workOut_3 : decode cd_N_workOut 3 = .ok (.istore_n 3, 1) := by decide +kernel
theorem dc_N_workOut_4 : decode cd_N_workOut 4 = .ok (.iconst 0, 1) := by decide +kernel
theorem dc_N_workOut_5 : decode cd_N_workOut 5 = .ok (.istore 4, 2) := by decide +kernel
theorem dc_N_workOut_7 : decode cd_N_workOut 7 = .ok (.iconst 0, 1) := by decide +kernel
theorem dc_N_workOut_8 : decode cd_N_workOut 8 = .ok (.istore 5, 2) := by decide +kernel
theorem dc_N_workOut_10 : decode cd_N_workOut 10 = .ok (.iload 5, 2) := by decide +kernel
theorem dc_N_workOut_12 : decode cd_N_workOut 12 = .ok (.aload_n 0, 1) := by decide +kernel
theorem dc_N_workOut_13 : decode cd_N_workOut 13 = .ok (.getfield 9, 3) := by decide +kernel
theorem dc_N_workOut_16 : decode cd_N_workOut 16 = .ok (.invokevirtual 15, 3) := by decide +kernel
theorem dc_N_workOut_19 : decode cd_N_workOut 19 = .ok (.if_icmp .ge 102, 3) := by decide +kernel
theorem dc_N_workOut_22 : decode cd_N_workOut 22 = .ok (.iload_n 1, 1) := by decide +kernel
theorem dc_N_workOut_23 : decode cd_N_workOut 23 = .ok (.iload 5, 2) := by decide +kernel
theorem dc_N_workOut_25 : decode cd_N_workOut 25 = .ok (.invokestatic 21, 3) := by decide +kernel
theorem dc_N_workOut_28 : decode cd_N_workOut 28 = .ok (.ifCond .ne 6, 3) := by decide +kernel
theorem dc_N_workOut_31 : decode cd_N_workOut 31 = .ok (.goto 84, 3) := by decide +kernel
theorem dc_N_workOut_34 : decode cd_N_workOut 34 = .ok (.aload_n 0, 1) := by decide +kernel
theorem dc_N_workOut_35 : decode cd_N_workOut 35 = .ok (.getfield 25, 3) := by decide +kernel
theorem dc_N_workOut_38 : decode cd_N_workOut 38 = .ok (.iload_n 1, 1) := by decide +kernel
theorem dc_N_workOut_39 : decode cd_N_workOut 39 = .ok (.iload 5, 2) := by decide +kernel
theorem dc_N_workOut_41 : decode cd_N_workOut 41 = .ok (.invokestatic 29, 3) := by decide +kernel
theorem dc_N_workOut_44 : decode cd_N_workOut 44 = .ok (.baload, 1) := by decide +kernel
theorem dc_N_workOut_45 : decode cd_N_workOut 45 = .ok (.istore 6, 2) := by decide +kernel
theorem dc_N_workOut_47 : decode cd_N_workOut 47 = .ok (.aload_n 0, 1) := by decide +kernel
theorem dc_N_workOut_48 : decode cd_N_workOut 48 = .ok (.getfield 9, 3) := by decide +kernel
theorem dc_N_workOut_51 : decode cd_N_workOut 51 = .ok (.iload_n 1, 1) := by decide +kernel
theorem dc_N_workOut_52 : decode cd_N_workOut 52 = .ok (.iload 5, 2) := by decide +kernel
theorem dc_N_workOut_54 : decode cd_N_workOut 54 = .ok (.invokevirtual 33, 3) := by decide +kernel
theorem dc_N_workOut_57 : decode cd_N_workOut 57 = .ok (.ifCond .le 7, 3) := by decide +kernel
theorem dc_N_workOut_60 : decode cd_N_workOut 60 = .ok (.iconst 1, 1) := by decide +kernel
theorem dc_N_workOut_61 : decode cd_N_workOut 61 = .ok (.goto 4, 3) := by decide +kernel
theorem dc_N_workOut_64 : decode cd_N_workOut 64 = .ok (.iconst 0, 1) := by decide +kernel
theorem dc_N_workOut_65 : decode cd_N_workOut 65 = .ok (.istore 7, 2) := by decide +kernel
theorem dc_N_workOut_67 : decode cd_N_workOut 67 = .ok (.iload 6, 2) := by decide +kernel
theorem dc_N_workOut_69 : decode cd_N_workOut 69 = .ok (.iconst (-1), 1) := by decide +kernel
theorem dc_N_workOut_70 : decode cd_N_workOut 70 = .ok (.if_icmp .ne 23, 3) := by decide +kernel
theorem dc_N_workOut_73 : decode cd_N_workOut 73 = .ok (.iload 4, 2) := by decide +kernel
theorem dc_N_workOut_75 : decode cd_N_workOut 75 = .ok (.ifCond .ne 8, 3) := by decide +kernel
theorem dc_N_workOut_78 : decode cd_N_workOut 78 = .ok (.iload 7, 2) := by decide +kernel
theorem dc_N_workOut_80 : decode cd_N_workOut 80 = .ok (.ifCond .eq 7, 3) := by decide +kernel
theorem dc_N_workOut_83 : decode cd_N_workOut 83 = .ok (.iconst 1, 1) := by decide +kernel
theorem dc_N_workOut_84 : decode cd_N_workOut 84 = .ok (.goto 4, 3) := by decide +kernel
theorem dc_N_workOut_87 : decode cd_N_workOut 87 = .ok (.iconst 0, 1) := by decide +kernel
theorem dc_N_workOut_88 : decode cd_N_workOut 88 = .ok (.istore 4, 2) := by decide +kernel
theorem dc_N_workOut_90 : decode cd_N_workOut 90 = .ok (.goto 25, 3) := by decide +kernel
theorem dc_N_workOut_93 : decode cd_N_workOut 93 = .ok (.iload 7, 2) := by decide +kernel
theorem dc_N_workOut_95 : decode cd_N_workOut 95 = .ok (.ifCond .eq 13, 3) := by decide +kernel
theorem dc_N_workOut_98 : decode cd_N_workOut 98 = .ok (.iload_n 3, 1) := by decide +kernel
theorem dc_N_workOut_99 : decode cd_N_workOut 99 = .ok (.iconst 1, 1) := by decide +kernel
theorem dc_N_workOut_100 : decode cd_N_workOut 100 = .ok (.iload 6, 2) := by decide +kernel
theorem dc_N_workOut_102 : decode cd_N_workOut 102 = .ok (.ishl, 1) := by decide +kernel
theorem dc_N_workOut_103 : decode cd_N_workOut 103 = .ok (.ior, 1) := by decide +kernel
theorem dc_N_workOut_104 : decode cd_N_workOut 104 = .ok (.istore_n 3, 1) := by decide +kernel
theorem dc_N_workOut_105 : decode cd_N_workOut 105 = .ok (.goto 10, 3) := by decide +kernel
theorem dc_N_workOut_108 : decode cd_N_workOut 108 = .ok (.iload_n 2, 1) := by decide +kernel
theorem dc_N_workOut_109 : decode cd_N_workOut 109 = .ok (.iconst 1, 1) := by decide +kernel
theorem dc_N_workOut_110 : decode cd_N_workOut 110 = .ok (.iload 6, 2) := by decide +kernel
theorem dc_N_workOut_112 : decode cd_N_workOut 112 = .ok (.ishl, 1) := by decide +kernel
theorem dc_N_workOut_113 : decode cd_N_workOut 113 = .ok (.ior, 1) := by decide +kernel
theorem dc_N_workOut_114 : decode cd_N_workOut 114 = .ok (.istore_n 2, 1) := by decide +kernel
theorem dc_N_workOut_115 : decode cd_N_workOut 115 = .ok (.iinc 5 1, 3) := by decide +kernel
theorem dc_N_workOut_118 : decode cd_N_workOut 118 = .ok (.goto (-108), 3) := by decide +kernel
theorem dc_N_workOut_121 : decode cd_N_workOut 121 = .ok (.iload 4, 2) := by decide +kernel
theorem dc_N_workOut_123 : decode cd_N_workOut 123 = .ok (.ifCond .eq 5, 3) := by decide +kernel
theorem dc_N_workOut_126 : decode cd_N_workOut 126 = .ok (.iconst (-1), 1) := by decide +kernel
theorem dc_N_workOut_127 : decode cd_N_workOut 127 = .ok (.ireturn, 1) := by decide +kernel
theorem dc_N_workOut_128 : decode cd_N_workOut 128 = .ok (.iload_n 3, 1) := by decide +kernel
theorem dc_N_workOut_129 : decode cd_N_workOut 129 = .ok (.ifCond .ne 10, 3) := by decide +kernel
theorem dc_N_workOut_132 : decode cd_N_workOut 132 = .ok (.iload_n 2, 1) := by decide +kernel
theorem dc_N_workOut_133 : decode cd_N_workOut 133 = .ok (.iconst (-1), 1) := by decide +kernel
theorem dc_N_workOut_134 : decode cd_N_workOut 134 = .ok (.ixor, 1) := by decide +kernel
theorem dc_N_workOut_135 : decode cd_N_workOut 135 = .ok (.invokestatic 36, 3) := by decide +kernel
theorem dc_N_workOut_138 : decode cd_N_workOut 138 = .ok (.ireturn, 1) := by decide +kernel
theorem dc_N_workOut_139 : decode cd_N_workOut 139 = .ok (.iload_n 3, 1) := by decide +kernel
theorem dc_N_workOut_140 : decode cd_N_workOut 140 = .ok (.invokestatic 40, 3) := by decide +kernel
theorem dc_N_workOut_143 : decode cd_N_workOut 143 = .ok (.iconst 1, 1) := by decide +kernel
theorem dc_N_workOut_144 : decode cd_N_workOut 144 = .ok (.if_icmp .gt 9, 3) := by decide +kernel
theorem dc_N_workOut_147 : decode cd_N_workOut 147 = .ok (.iload_n 3, 1) := by decide +kernel
theorem dc_N_workOut_148 : decode cd_N_workOut 148 = .ok (.iload_n 2, 1) := by decide +kernel
theorem dc_N_workOut_149 : decode cd_N_workOut 149 = .ok (.iand, 1) := by decide +kernel
theorem dc_N_workOut_150 : decode cd_N_workOut 150 = .ok (.ifCond .eq 7, 3) := by decide +kernel
theorem dc_N_workOut_153 : decode cd_N_workOut 153 = .ok (.iconst (-1), 1) := by decide +kernel
theorem dc_N_workOut_154 : decode cd_N_workOut 154 = .ok (.goto 7, 3) := by decide +kernel
theorem dc_N_workOut_157 : decode cd_N_workOut 157 = .ok (.iload_n 3, 1) := by decide +kernel
theorem dc_N_workOut_158 : decode cd_N_workOut 158 = .ok (.invokestatic 36, 3) := by decide +kernel
end
section
theorem dc_N_workOut_161 : decode cd_N_workOut 161 = .ok (.ireturn, 1) := by decide +kernel
theorem dc_C_least_0 : decode cd_C_least 0 = .ok (.iconst 0, 1) := by decide +kernel
theorem dc_C_least_1 : decode cd_C_least 1 = .ok (.istore_n 1, 1) := by decide +kernel
theorem dc_C_least_2 : decode cd_C_least 2 = .ok (.iload_n 1, 1) := by decide +kernel
theorem dc_C_least_3 : decode cd_C_least 3 = .ok (.bipush 12, 2) := by decide +kernel
theorem dc_C_least_5 : decode cd_C_least 5 = .ok (.if_icmp .ge 17, 3) := by decide +kernel
theorem dc_C_least_8 : decode cd_C_least 8 = .ok (.iload_n 0, 1) := by decide +kernel
theorem dc_C_least_9 : decode cd_C_least 9 = .ok (.iload_n 1, 1) := by decide +kernel
theorem dc_C_least_10 : decode cd_C_least 10 = .ok (.invokestatic 117, 3) := by decide +kernel
theorem dc_C_least_13 : decode cd_C_least 13 = .ok (.ifCond .ne 9, 3) := by decide +kernel
theorem dc_C_least_16 : decode cd_C_least 16 = .ok (.iinc 1 1, 3) := by decide +kernel
theorem dc_C_least_19 : decode cd_C_least 19 = .ok (.goto (-17), 3) := by decide +kernel
theorem dc_C_least_22 : decode cd_C_least 22 = .ok (.iload_n 1, 1) := by decide +kernel
theorem dc_C_least_23 : decode cd_C_least 23 = .ok (.ireturn, 1) := by decide +kernel
theorem dc_M_isMarked_0 : decode cd_M_isMarked 0 = .ok (.aload_n 0, 1) := by decide +kernel
theorem dc_M_isMarked_1 : decode cd_M_isMarked 1 = .ok (.iload_n 1, 1) := by decide +kernel
theorem dc_M_isMarked_2 : decode cd_M_isMarked 2 = .ok (.iload_n 2, 1) := by decide +kernel
theorem dc_M_isMarked_3 : decode cd_M_isMarked 3 = .ok (.invokevirtual 25, 3) := by decide +kernel
theorem dc_M_isMarked_6 : decode cd_M_isMarked 6 = .ok (.aload_n 0, 1) := by decide +kernel
theorem dc_M_isMarked_7 : decode cd_M_isMarked 7 = .ok (.getfield 34, 3) := by decide +kernel
theorem dc_M_isMarked_10 : decode cd_M_isMarked 10 = .ok (.iload_n 1, 1) := by decide +kernel
theorem dc_M_isMarked_11 : decode cd_M_isMarked 11 = .ok (.baload, 1) := by decide +kernel
theorem dc_M_isMarked_12 : decode cd_M_isMarked 12 = .ok (.if_icmp .ne 7, 3) := by decide +kernel
theorem dc_M_isMarked_15 : decode cd_M_isMarked 15 = .ok (.iconst 1, 1) := by decide +kernel
theorem dc_M_isMarked_16 : decode cd_M_isMarked 16 = .ok (.goto 4, 3) := by decide +kernel
theorem dc_M_isMarked_19 : decode cd_M_isMarked 19 = .ok (.iconst 0, 1) := by decide +kernel
theorem dc_M_isMarked_20 : decode cd_M_isMarked 20 = .ok (.ireturn, 1) := by decide +kernel
theorem dc_N_isMarked_0 : decode cd_N_isMarked 0 = .ok (.aload_n 0, 1) := by decide +kernel
theorem dc_N_isMarked_1 : decode cd_N_isMarked 1 = .ok (.getfield 9, 3) := by decide +kernel
theorem dc_N_isMarked_4 : decode cd_N_isMarked 4 = .ok (.iload_n 1, 1) := by decide +kernel
theorem dc_N_isMarked_5 : decode cd_N_isMarked 5 = .ok (.iload_n 2, 1) := by decide +kernel
theorem dc_N_isMarked_6 : decode cd_N_isMarked 6 = .ok (.invokevirtual 33, 3) := by decide +kernel
theorem dc_N_isMarked_9 : decode cd_N_isMarked 9 = .ok (.ifCond .ne 21, 3) := by decide +kernel
theorem dc_N_isMarked_12 : decode cd_N_isMarked 12 = .ok (.aload_n 0, 1) := by decide +kernel
theorem dc_N_isMarked_13 : decode cd_N_isMarked 13 = .ok (.getfield 25, 3) := by decide +kernel
theorem dc_N_isMarked_16 : decode cd_N_isMarked 16 = .ok (.iload_n 1, 1) := by decide +kernel
theorem dc_N_isMarked_17 : decode cd_N_isMarked 17 = .ok (.iload_n 2, 1) := by decide +kernel
theorem dc_N_isMarked_18 : decode cd_N_isMarked 18 = .ok (.invokestatic 29, 3) := by decide +kernel
theorem dc_N_isMarked_21 : decode cd_N_isMarked 21 = .ok (.baload, 1) := by decide +kernel
theorem dc_N_isMarked_22 : decode cd_N_isMarked 22 = .ok (.iconst (-1), 1) := by decide +kernel
theorem dc_N_isMarked_23 : decode cd_N_isMarked 23 = .ok (.if_icmp .ne 7, 3) := by decide +kernel
theorem dc_N_isMarked_26 : decode cd_N_isMarked 26 = .ok (.iconst 1, 1) := by decide +kernel
theorem dc_N_isMarked_27 : decode cd_N_isMarked 27 = .ok (.goto 4, 3) := by decide +kernel
theorem dc_N_isMarked_30 : decode cd_N_isMarked 30 = .ok (.iconst 0, 1) := by decide +kernel
theorem dc_N_isMarked_31 : decode cd_N_isMarked 31 = .ok (.ireturn, 1) := by decide +kernel
theorem dc_L_taken_0 : decode cd_L_taken 0 = .ok (.aload_n 2, 1) := by decide +kernel
theorem dc_L_taken_1 : decode cd_L_taken 1 = .ok (.iconst 0, 1) := by decide +kernel
theorem dc_L_taken_2 : decode cd_L_taken 2 = .ok (.aload_n 0, 1) := by decide +kernel
theorem dc_L_taken_3 : decode cd_L_taken 3 = .ok (.iload_n 1, 1) := by decide +kernel
theorem dc_L_taken_4 : decode cd_L_taken 4 = .ok (.invokevirtual 38, 3) := by decide +kernel
theorem dc_L_taken_7 : decode cd_L_taken 7 = .ok (.i2l, 1) := by decide +kernel
theorem dc_L_taken_8 : decode cd_L_taken 8 = .ok (.lastore, 1) := by decide +kernel
theorem dc_L_taken_9 : decode cd_L_taken 9 = .ok (.goto 6, 3) := by decide +kernel
theorem dc_L_taken_12 : decode cd_L_taken 12 = .ok (.astore_n 3, 1) := by decide +kernel
theorem dc_L_taken_13 : decode cd_L_taken 13 = .ok (.iconst 1, 1) := by decide +kernel
theorem dc_L_taken_14 : decode cd_L_taken 14 = .ok (.ireturn, 1) := by decide +kernel
theorem dc_L_taken_15 : decode cd_L_taken 15 = .ok (.iconst 0, 1) := by decide +kernel
theorem dc_L_taken_16 : decode cd_L_taken 16 = .ok (.ireturn, 1) := by decide +kernel
theorem dc_C_taken_0 : decode cd_C_taken 0 = .ok (.iload_n 1, 1) := by decide +kernel
theorem dc_C_taken_1 : decode cd_C_taken 1 = .ok (.ifCond .lt 8, 3) := by decide +kernel
theorem dc_C_taken_4 : decode cd_C_taken 4 = .ok (.iload_n 1, 1) := by decide +kernel
theorem dc_C_taken_5 : decode cd_C_taken 5 = .ok (.iconst 2, 1) := by decide +kernel
theorem dc_C_taken_6 : decode cd_C_taken 6 = .ok (.if_icmp .lt 11, 3) := by decide +kernel
theorem dc_C_taken_9 : decode cd_C_taken 9 = .ok (.new 114, 3) := by decide +kernel
theorem dc_C_taken_12 : decode cd_C_taken 12 = .ok (.dup, 1) := by decide +kernel
theorem dc_C_taken_13 : decode cd_C_taken 13 = .ok (.invokespecial 116, 3) := by decide +kernel
theorem dc_C_taken_16 : decode cd_C_taken 16 = .ok (.athrow, 1) := by decide +kernel
theorem dc_C_taken_17 : decode cd_C_taken 17 = .ok (.aload_n 0, 1) := by decide +kernel
theorem dc_C_taken_18 : decode cd_C_taken 18 = .ok (.getfield 53, 3) := by decide +kernel
theorem dc_C_taken_21 : decode cd_C_taken 21 = .ok (.iload_n 1, 1) := by decide +kernel
theorem dc_C_taken_22 : decode cd_C_taken 22 = .ok (.iaload, 1) := by decide +kernel
theorem dc_C_taken_23 : decode cd_C_taken 23 = .ok (.ireturn, 1) := by decide +kernel
theorem dc_L_strings_0 : decode cd_L_strings 0 = .ok (.aload_n 2, 1) := by decide +kernel
theorem dc_L_strings_1 : decode cd_L_strings 1 = .ok (.iconst 0, 1) := by decide +kernel
theorem dc_L_strings_2 : decode cd_L_strings 2 = .ok (.aload_n 0, 1) := by decide +kernel
theorem dc_L_strings_3 : decode cd_L_strings 3 = .ok (.iload_n 1, 1) := by decide +kernel
theorem dc_L_strings_4 : decode cd_L_strings 4 = .ok (.invokevirtual 41, 3) := by decide +kernel
theorem dc_L_strings_7 : decode cd_L_strings 7 = .ok (.i2l, 1) := by decide +kernel
theorem dc_L_strings_8 : decode cd_L_strings 8 = .ok (.lastore, 1) := by decide +kernel
theorem dc_L_strings_9 : decode cd_L_strings 9 = .ok (.goto 6, 3) := by decide +kernel
theorem dc_L_strings_12 : decode cd_L_strings 12 = .ok (.astore_n 3, 1) := by decide +kernel
theorem dc_L_strings_13 : decode cd_L_strings 13 = .ok (.iconst 1, 1) := by decide +kernel
theorem dc_L_strings_14 : decode cd_L_strings 14 = .ok (.ireturn, 1) := by decide +kernel
theorem dc_L_strings_15 : decode cd_L_strings 15 = .ok (.iconst 0, 1) := by decide +kernel
theorem dc_L_strings_16 : decode cd_L_strings 16 = .ok (.ireturn, 1) := by decide +kernel
theorem dc_C_strings_0 : decode cd_C_strings 0 = .ok (.iload_n 1, 1) := by decide +kernel
theorem dc_C_strings_1 : decode cd_C_strings 1 = .ok (.invokestatic 56, 3) := by decide +kernel
theorem dc_C_strings_4 : decode cd_C_strings 4 = .ok (.ifCond .ne 11, 3) := by decide +kernel
theorem dc_C_strings_7 : decode cd_C_strings 7 = .ok (.new 114, 3) := by decide +kernel
theorem dc_C_strings_10 : decode cd_C_strings 10 = .ok (.dup, 1) := by decide +kernel
theorem dc_C_strings_11 : decode cd_C_strings 11 = .ok (.invokespecial 116, 3) := by decide +kernel
theorem dc_C_strings_14 : decode cd_C_strings 14 = .ok (.athrow, 1) := by decide +kernel
theorem dc_C_strings_15 : decode cd_C_strings 15 = .ok (.aload_n 0, 1) := by decide +kernel
theorem dc_C_strings_16 : decode cd_C_strings 16 = .ok (.getfield 12, 3) := by decide +kernel
theorem dc_C_strings_19 : decode cd_C_strings 19 = .ok (.aload_n 0, 1) := by decide +kernel
theorem dc_C_strings_20 : decode cd_C_strings 20 = .ok (.getfield 81, 3) := by decide +kernel
theorem dc_C_strings_23 : decode cd_C_strings 23 = .ok (.iload_n 1, 1) := by decide +kernel
theorem dc_C_strings_24 : decode cd_C_strings 24 = .ok (.invokevirtual 137, 3) := by decide +kernel
theorem dc_C_strings_27 : decode cd_C_strings 27 = .ok (.ireturn, 1) := by decide +kernel
theorem dc_L_margin_0 : decode cd_L_margin 0 = .ok (.aload_n 1, 1) := by decide +kernel
theorem dc_L_margin_1 : decode cd_L_margin 1 = .ok (.iconst 0, 1) := by decide +kernel
theorem dc_L_margin_2 : decode cd_L_margin 2 = .ok (.aload_n 0, 1) := by decide +kernel
theorem dc_L_margin_3 : decode cd_L_margin 3 = .ok (.invokevirtual 44, 3) := by decide +kernel
theorem dc_L_margin_6 : decode cd_L_margin 6 = .ok (.i2l, 1) := by decide +kernel
theorem dc_L_margin_7 : decode cd_L_margin 7 = .ok (.lastore, 1) := by decide +kernel
theorem dc_L_margin_8 : decode cd_L_margin 8 = .ok (.goto 6, 3) := by decide +kernel
theorem dc_L_margin_11 : decode cd_L_margin 11 = .ok (.astore_n 2, 1) := by decide +kernel
theorem dc_L_margin_12 : decode cd_L_margin 12 = .ok (.iconst 1, 1) := by decide +kernel
theorem dc_L_margin_13 : decode cd_L_margin 13 = .ok (.ireturn, 1) := by decide +kernel
theorem dc_L_margin_14 : decode cd_L_margin 14 = .ok (.iconst 0, 1) := by decide +kernel
theorem dc_L_margin_15 : decode cd_L_margin 15 = .ok (.ireturn, 1) := by decide +kernel
theorem dc_C_margin_0 : decode cd_C_margin 0 = .ok (.aload_n 0, 1) := by decide +kernel
theorem dc_C_margin_1 : decode cd_C_margin 1 = .ok (.invokevirtual 111, 3) := by decide +kernel
theorem dc_C_margin_4 : decode cd_C_margin 4 = .ok (.aload_n 0, 1) := by decide +kernel
theorem dc_C_margin_5 : decode cd_C_margin 5 = .ok (.getfield 21, 3) := by decide +kernel
theorem dc_C_margin_8 : decode cd_C_margin 8 = .ok (.aload_n 0, 1) := by decide +kernel
theorem dc_C_margin_9 : decode cd_C_margin 9 = .ok (.getfield 81, 3) := by decide +kernel
theorem dc_C_margin_12 : decode cd_C_margin 12 = .ok (.invokevirtual 140, 3) := by decide +kernel
theorem dc_C_margin_15 : decode cd_C_margin 15 = .ok (.ireturn, 1) := by decide +kernel
theorem dc_V_of_0 : decode cd_V_of 0 = .ok (.aload_n 0, 1) := by decide +kernel
theorem dc_V_of_1 : decode cd_V_of 1 = .ok (.invokevirtual 23, 3) := by decide +kernel
theorem dc_V_of_4 : decode cd_V_of 4 = .ok (.aload_n 0, 1) := by decide +kernel
theorem dc_V_of_5 : decode cd_V_of 5 = .ok (.getfield 9, 3) := by decide +kernel
theorem dc_V_of_8 : decode cd_V_of 8 = .ok (.iload_n 1, 1) := by decide +kernel
theorem dc_V_of_9 : decode cd_V_of 9 = .ok (.baload, 1) := by decide +kernel
theorem dc_V_of_10 : decode cd_V_of 10 = .ok (.ireturn, 1) := by decide +kernel
theorem dc_L_good_0 : decode cd_L_good 0 = .ok (.aload_n 1, 1) := by decide +kernel
theorem dc_L_good_1 : decode cd_L_good 1 = .ok (.iconst 0, 1) := by decide +kernel
theorem dc_L_good_2 : decode cd_L_good 2 = .ok (.aload_n 0, 1) := by decide +kernel
theorem dc_L_good_3 : decode cd_L_good 3 = .ok (.invokevirtual 47, 3) := by decide +kernel
theorem dc_L_good_6 : decode cd_L_good 6 = .ok (.i2l, 1) := by decide +kernel
theorem dc_L_good_7 : decode cd_L_good 7 = .ok (.lastore, 1) := by decide +kernel
theorem dc_L_good_8 : decode cd_L_good 8 = .ok (.goto 6, 3) := by decide +kernel
theorem dc_L_good_11 : decode cd_L_good 11 = .ok (.astore_n 2, 1) := by decide +kernel
theorem dc_L_good_12 : decode cd_L_good 12 = .ok (.iconst 1, 1) := by decide +kernel
theorem dc_L_good_13 : decode cd_L_good 13 = .ok (.ireturn, 1) := by decide +kernel
theorem dc_L_good_14 : decode cd_L_good 14 = .ok (.iconst 0, 1) := by decide +kernel
theorem dc_L_good_15 : decode cd_L_good 15 = .ok (.ireturn, 1) := by decide +kernel
theorem dc_C_good_0 : decode cd_C_good 0 = .ok (.aload_n 0, 1) := by decide +kernel
theorem dc_C_good_1 : decode cd_C_good 1 = .ok (.invokevirtual 111, 3) := by decide +kernel
theorem dc_C_good_4 : decode cd_C_good 4 = .ok (.aload_n 0, 1) := by decide +kernel
theorem dc_C_good_5 : decode cd_C_good 5 = .ok (.getfield 21, 3) := by decide +kernel
theorem dc_C_good_8 : decode cd_C_good 8 = .ok (.aload_n 0, 1) := by decide +kernel
theorem dc_C_good_9 : decode cd_C_good 9 = .ok (.getfield 81, 3) := by decide +kernel
theorem dc_C_good_12 : decode cd_C_good 12 = .ok (.invokevirtual 131, 3) := by decide +kernel
theorem dc_C_good_15 : decode cd_C_good 15 = .ok (.ireturn, 1) := by decide +kernel
theorem dc_L_nim_0 : decode cd_L_nim 0 = .ok (.aload_n 1, 1) := by decide +kernel
theorem dc_L_nim_1 : decode cd_L_nim 1 = .ok (.iconst 0, 1) := by decide +kernel
theorem dc_L_nim_2 : decode cd_L_nim 2 = .ok (.aload_n 0, 1) := by decide +kernel
theorem dc_L_nim_3 : decode cd_L_nim 3 = .ok (.invokevirtual 50, 3) := by decide +kernel
theorem dc_L_nim_6 : decode cd_L_nim 6 = .ok (.i2l, 1) := by decide +kernel
theorem dc_L_nim_7 : decode cd_L_nim 7 = .ok (.lastore, 1) := by decide +kernel
theorem dc_L_nim_8 : decode cd_L_nim 8 = .ok (.goto 6, 3) := by decide +kernel
theorem dc_L_nim_11 : decode cd_L_nim 11 = .ok (.astore_n 2, 1) := by decide +kernel
theorem dc_L_nim_12 : decode cd_L_nim 12 = .ok (.iconst 1, 1) := by decide +kernel
theorem dc_L_nim_13 : decode cd_L_nim 13 = .ok (.ireturn, 1) := by decide +kernel
theorem dc_L_nim_14 : decode cd_L_nim 14 = .ok (.iconst 0, 1) := by decide +kernel
theorem dc_L_nim_15 : decode cd_L_nim 15 = .ok (.ireturn, 1) := by decide +kernel
theorem dc_C_nim_0 : decode cd_C_nim 0 = .ok (.aload_n 0, 1) := by decide +kernel
theorem dc_C_nim_1 : decode cd_C_nim 1 = .ok (.invokevirtual 111, 3) := by decide +kernel
theorem dc_C_nim_4 : decode cd_C_nim 4 = .ok (.aload_n 0, 1) := by decide +kernel
theorem dc_C_nim_5 : decode cd_C_nim 5 = .ok (.getfield 28, 3) := by decide +kernel
theorem dc_C_nim_8 : decode cd_C_nim 8 = .ok (.aload_n 0, 1) := by decide +kernel
theorem dc_C_nim_9 : decode cd_C_nim 9 = .ok (.getfield 81, 3) := by decide +kernel
theorem dc_C_nim_12 : decode cd_C_nim 12 = .ok (.invokevirtual 143, 3) := by decide +kernel
theorem dc_C_nim_15 : decode cd_C_nim 15 = .ok (.ireturn, 1) := by decide +kernel
theorem dc_L_mad_0 : decode cd_L_mad 0 = .ok (.aload_n 1, 1) := by decide +kernel
theorem dc_L_mad_1 : decode cd_L_mad 1 = .ok (.iconst 0, 1) := by decide +kernel
theorem dc_L_mad_2 : decode cd_L_mad 2 = .ok (.aload_n 0, 1) := by decide +kernel
theorem dc_L_mad_3 : decode cd_L_mad 3 = .ok (.invokevirtual 53, 3) := by decide +kernel
theorem dc_L_mad_6 : decode cd_L_mad 6 = .ok (.i2l, 1) := by decide +kernel
theorem dc_L_mad_7 : decode cd_L_mad 7 = .ok (.lastore, 1) := by decide +kernel
theorem dc_L_mad_8 : decode cd_L_mad 8 = .ok (.goto 6, 3) := by decide +kernel
theorem dc_L_mad_11 : decode cd_L_mad 11 = .ok (.astore_n 2, 1) := by decide +kernel
theorem dc_L_mad_12 : decode cd_L_mad 12 = .ok (.iconst 1, 1) := by decide +kernel
theorem dc_L_mad_13 : decode cd_L_mad 13 = .ok (.ireturn, 1) := by decide +kernel
theorem dc_L_mad_14 : decode cd_L_mad 14 = .ok (.iconst 0, 1) := by decide +kernel
theorem dc_L_mad_15 : decode cd_L_mad 15 = .ok (.ireturn, 1) := by decide +kernel
theorem dc_C_mad_0 : decode cd_C_mad 0 = .ok (.aload_n 0, 1) := by decide +kernel
theorem dc_C_mad_1 : decode cd_C_mad 1 = .ok (.invokevirtual 111, 3) := by decide +kernel
theorem dc_C_mad_4 : decode cd_C_mad 4 = .ok (.aload_n 0, 1) := by decide +kernel
theorem dc_C_mad_5 : decode cd_C_mad 5 = .ok (.getfield 28, 3) := by decide +kernel
theorem dc_C_mad_8 : decode cd_C_mad 8 = .ok (.aload_n 0, 1) := by decide +kernel
theorem dc_C_mad_9 : decode cd_C_mad 9 = .ok (.getfield 81, 3) := by decide +kernel
theorem dc_C_mad_12 : decode cd_C_mad 12 = .ok (.invokevirtual 144, 3) := by decide +kernel
theorem dc_C_mad_15 : decode cd_C_mad 15 = .ok (.ireturn, 1) := by decide +kernel
theorem dc_L_group_0 : decode cd_L_group 0 = .ok (.aload_n 2, 1) := by decide +kernel
theorem dc_L_group_1 : decode cd_L_group 1 = .ok (.iconst 0, 1) := by decide +kernel
theorem dc_L_group_2 : decode cd_L_group 2 = .ok (.aload_n 0, 1) := by decide +kernel
theorem dc_L_group_3 : decode cd_L_group 3 = .ok (.iload_n 1, 1) := by decide +kernel
theorem dc_L_group_4 : decode cd_L_group 4 = .ok (.invokevirtual 56, 3) := by decide +kernel
theorem dc_L_group_7 : decode cd_L_group 7 = .ok (.i2l, 1) := by decide +kernel
theorem dc_L_group_8 : decode cd_L_group 8 = .ok (.lastore, 1) := by decide +kernel
theorem dc_L_group_9 : decode cd_L_group 9 = .ok (.goto 6, 3) := by decide +kernel
theorem dc_L_group_12 : decode cd_L_group 12 = .ok (.astore_n 3, 1) := by decide +kernel
theorem dc_L_group_13 : decode cd_L_group 13 = .ok (.iconst 1, 1) := by decide +kernel
theorem dc_L_group_14 : decode cd_L_group 14 = .ok (.ireturn, 1) := by decide +kernel
theorem dc_L_group_15 : decode cd_L_group 15 = .ok (.iconst 0, 1) := by decide +kernel
theorem dc_L_group_16 : decode cd_L_group 16 = .ok (.ireturn, 1) := by decide +kernel
theorem dc_C_group_0 : decode cd_C_group 0 = .ok (.aload_n 0, 1) := by decide +kernel
theorem dc_C_group_1 : decode cd_C_group 1 = .ok (.getfield 35, 3) := by decide +kernel
theorem dc_C_group_4 : decode cd_C_group 4 = .ok (.aload_n 0, 1) := by decide +kernel
theorem dc_C_group_5 : decode cd_C_group 5 = .ok (.getfield 81, 3) := by decide +kernel
theorem dc_C_group_8 : decode cd_C_group 8 = .ok (.invokevirtual 145, 3) := by decide +kernel
theorem dc_C_group_11 : decode cd_C_group 11 = .ok (.iload_n 1, 1) := by decide +kernel
theorem dc_C_group_12 : decode cd_C_group 12 = .ok (.ifCond .lt 14, 3) := by decide +kernel
theorem dc_C_group_15 : decode cd_C_group 15 = .ok (.iload_n 1, 1) := by decide +kernel
theorem dc_C_group_16 : decode cd_C_group 16 = .ok (.aload_n 0, 1) := by decide +kernel
theorem dc_C_group_17 : decode cd_C_group 17 = .ok (.getfield 35, 3) := by decide +kernel
theorem dc_C_group_20 : decode cd_C_group 20 = .ok (.invokevirtual 149, 3) := by decide +kernel
theorem dc_C_group_23 : decode cd_C_group 23 = .ok (.if_icmp .lt 11, 3) := by decide +kernel
theorem dc_C_group_26 : decode cd_C_group 26 = .ok (.new 114, 3) := by decide +kernel
theorem dc_C_group_29 : decode cd_C_group 29 = .ok (.dup, 1) := by decide +kernel
theorem dc_C_group_30 : decode cd_C_group 30 = .ok (.invokespecial 116, 3) := by decide +kernel
theorem dc_C_group_33 : decode cd_C_group 33 = .ok (.athrow, 1) := by decide +kernel
theorem dc_C_group_34 : decode cd_C_group 34 = .ok (.aload_n 0, 1) := by decide +kernel
theorem dc_C_group_35 : decode cd_C_group 35 = .ok (.getfield 35, 3) := by decide +kernel
theorem dc_C_group_38 : decode cd_C_group 38 = .ok (.iload_n 1, 1) := by decide +kernel
theorem dc_C_group_39 : decode cd_C_group 39 = .ok (.invokevirtual 152, 3) := by decide +kernel
theorem dc_C_group_42 : decode cd_C_group 42 = .ok (.istore_n 2, 1) := by decide +kernel
theorem dc_C_group_43 : decode cd_C_group 43 = .ok (.aload_n 0, 1) := by decide +kernel
theorem dc_C_group_44 : decode cd_C_group 44 = .ok (.getfield 35, 3) := by decide +kernel
theorem dc_C_group_47 : decode cd_C_group 47 = .ok (.iload_n 2, 1) := by decide +kernel
theorem dc_C_group_48 : decode cd_C_group 48 = .ok (.invokevirtual 155, 3) := by decide +kernel
theorem dc_C_group_51 : decode cd_C_group 51 = .ok (.istore_n 3, 1) := by decide +kernel
theorem dc_C_group_52 : decode cd_C_group 52 = .ok (.aload_n 0, 1) := by decide +kernel
theorem dc_C_group_53 : decode cd_C_group 53 = .ok (.getfield 35, 3) := by decide +kernel
theorem dc_C_group_56 : decode cd_C_group 56 = .ok (.iload_n 2, 1) := by decide +kernel
theorem dc_C_group_57 : decode cd_C_group 57 = .ok (.aload_n 0, 1) := by decide +kernel
theorem dc_C_group_58 : decode cd_C_group 58 = .ok (.getfield 81, 3) := by decide +kernel
theorem dc_C_group_61 : decode cd_C_group 61 = .ok (.invokevirtual 158, 3) := by decide +kernel
theorem dc_C_group_64 : decode cd_C_group 64 = .ok (.ifCond .eq 10, 3) := by decide +kernel
theorem dc_C_group_67 : decode cd_C_group 67 = .ok (.iload_n 3, 1) := by decide +kernel
theorem dc_C_group_68 : decode cd_C_group 68 = .ok (.bipush 100, 2) := by decide +kernel
theorem dc_C_group_70 : decode cd_C_group 70 = .ok (.iadd, 1) := by decide +kernel
theorem dc_C_group_71 : decode cd_C_group 71 = .ok (.goto 4, 3) := by decide +kernel
theorem dc_C_group_74 : decode cd_C_group 74 = .ok (.iload_n 3, 1) := by decide +kernel
theorem dc_C_group_75 : decode cd_C_group 75 = .ok (.ireturn, 1) := by decide +kernel
theorem dc_G_leader_0 : decode cd_G_leader 0 = .ok (.iconst 0, 1) := by decide +kernel
theorem dc_G_leader_1 : decode cd_G_leader 1 = .ok (.istore_n 2, 1) := by decide +kernel
theorem dc_G_leader_2 : decode cd_G_leader 2 = .ok (.iconst 0, 1) := by decide +kernel
theorem dc_G_leader_3 : decode cd_G_leader 3 = .ok (.istore_n 3, 1) := by decide +kernel
theorem dc_G_leader_4 : decode cd_G_leader 4 = .ok (.iload_n 3, 1) := by decide +kernel
theorem dc_G_leader_5 : decode cd_G_leader 5 = .ok (.bipush 8, 2) := by decide +kernel
theorem dc_G_leader_7 : decode cd_G_leader 7 = .ok (.if_icmp .ge 29, 3) := by decide +kernel
theorem dc_G_leader_10 : decode cd_G_leader 10 = .ok (.aload_n 0, 1) := by decide +kernel
theorem dc_G_leader_11 : decode cd_G_leader 11 = .ok (.getfield 9, 3) := by decide +kernel
theorem dc_G_leader_14 : decode cd_G_leader 14 = .ok (.iload_n 3, 1) := by decide +kernel
theorem dc_G_leader_15 : decode cd_G_leader 15 = .ok (.iaload, 1) := by decide +kernel
theorem dc_G_leader_16 : decode cd_G_leader 16 = .ok (.iload_n 3, 1) := by decide +kernel
theorem dc_G_leader_17 : decode cd_G_leader 17 = .ok (.if_icmp .ne 13, 3) := by decide +kernel
theorem dc_G_leader_20 : decode cd_G_leader 20 = .ok (.iload_n 2, 1) := by decide +kernel
theorem dc_G_leader_21 : decode cd_G_leader 21 = .ok (.iload_n 1, 1) := by decide +kernel
theorem dc_G_leader_22 : decode cd_G_leader 22 = .ok (.if_icmp .ne 5, 3) := by decide +kernel
theorem dc_G_leader_25 : decode cd_G_leader 25 = .ok (.iload_n 3, 1) := by decide +kernel
theorem dc_G_leader_26 : decode cd_G_leader 26 = .ok (.ireturn, 1) := by decide +kernel
theorem dc_G_leader_27 : decode cd_G_leader 27 = .ok (.iinc 2 1, 3) := by decide +kernel
theorem dc_G_leader_30 : decode cd_G_leader 30 = .ok (.iinc 3 1, 3) := by decide +kernel
theorem dc_G_leader_33 : decode cd_G_leader 33 = .ok (.goto (-29), 3) := by decide +kernel
theorem dc_G_leader_36 : decode cd_G_leader 36 = .ok (.iconst (-1), 1) := by decide +kernel
theorem dc_G_leader_37 : decode cd_G_leader 37 = .ok (.ireturn, 1) := by decide +kernel
theorem dc_G_length_0 : decode cd_G_length 0 = .ok (.iconst 0, 1) := by decide +kernel
theorem dc_G_length_1 : decode cd_G_length 1 = .ok (.istore_n 2, 1) := by decide +kernel
theorem dc_G_length_2 : decode cd_G_length 2 = .ok (.iconst 0, 1) := by decide +kernel
theorem dc_G_length_3 : decode cd_G_length 3 = .ok (.istore_n 3, 1) := by decide +kernel
theorem dc_G_length_4 : decode cd_G_length 4 = .ok (.iload_n 3, 1) := by decide +kernel
theorem dc_G_length_5 : decode cd_G_length 5 = .ok (.bipush 8, 2) := by decide +kernel
theorem dc_G_length_7 : decode cd_G_length 7 = .ok (.if_icmp .ge 22, 3) := by decide +kernel
theorem dc_G_length_10 : decode cd_G_length 10 = .ok (.aload_n 0, 1) := by decide +kernel
theorem dc_G_length_11 : decode cd_G_length 11 = .ok (.getfield 9, 3) := by decide +kernel
theorem dc_G_length_14 : decode cd_G_length 14 = .ok (.iload_n 3, 1) := by decide +kernel
theorem dc_G_length_15 : decode cd_G_length 15 = .ok (.iaload, 1) := by decide +kernel
theorem dc_G_length_16 : decode cd_G_length 16 = .ok (.iload_n 1, 1) := by decide +kernel
theorem dc_G_length_17 : decode cd_G_length 17 = .ok (.if_icmp .ne 6, 3) := by decide +kernel
theorem dc_G_length_20 : decode cd_G_length 20 = .ok (.iinc 2 1, 3) := by decide +kernel
theorem dc_G_length_23 : decode cd_G_length 23 = .ok (.iinc 3 1, 3) := by decide +kernel
theorem dc_G_length_26 : decode cd_G_length 26 = .ok (.goto (-22), 3) := by decide +kernel
theorem dc_G_length_29 : decode cd_G_length 29 = .ok (.iload_n 2, 1) := by decide +kernel
theorem dc_G_length_30 : decode cd_G_length 30 = .ok (.ireturn, 1) := by decide +kernel
theorem dc_G_isLoop_0 : decode cd_G_isLoop 0 = .ok (.iconst 0, 1) := by decide +kernel
theorem dc_G_isLoop_1 : decode cd_G_isLoop 1 = .ok (.istore_n 3, 1) := by decide +kernel
theorem dc_G_isLoop_2 : decode cd_G_isLoop 2 = .ok (.iload_n 3, 1) := by decide +kernel
theorem dc_G_isLoop_3 : decode cd_G_isLoop 3 = .ok (.aload_n 0, 1) := by decide +kernel
theorem dc_G_isLoop_4 : decode cd_G_isLoop 4 = .ok (.getfield 15, 3) := by decide +kernel
theorem dc_G_isLoop_7 : decode cd_G_isLoop 7 = .ok (.invokevirtual 25, 3) := by decide +kernel
theorem dc_G_isLoop_10 : decode cd_G_isLoop 10 = .ok (.if_icmp .ge 72, 3) := by decide +kernel
theorem dc_G_isLoop_13 : decode cd_G_isLoop 13 = .ok (.aload_n 0, 1) := by decide +kernel
theorem dc_G_isLoop_14 : decode cd_G_isLoop 14 = .ok (.aload_n 0, 1) := by decide +kernel
theorem dc_G_isLoop_15 : decode cd_G_isLoop 15 = .ok (.getfield 15, 3) := by decide +kernel
theorem dc_G_isLoop_18 : decode cd_G_isLoop 18 = .ok (.iload_n 3, 1) := by decide +kernel
theorem dc_G_isLoop_19 : decode cd_G_isLoop 19 = .ok (.invokevirtual 33, 3) := by decide +kernel
theorem dc_G_isLoop_22 : decode cd_G_isLoop 22 = .ok (.invokevirtual 37, 3) := by decide +kernel
theorem dc_G_isLoop_25 : decode cd_G_isLoop 25 = .ok (.iload_n 1, 1) := by decide +kernel
theorem dc_G_isLoop_26 : decode cd_G_isLoop 26 = .ok (.if_icmp .ne 7, 3) := by decide +kernel
theorem dc_G_isLoop_29 : decode cd_G_isLoop 29 = .ok (.iconst 1, 1) := by decide +kernel
theorem dc_G_isLoop_30 : decode cd_G_isLoop 30 = .ok (.goto 4, 3) := by decide +kernel
theorem dc_G_isLoop_33 : decode cd_G_isLoop 33 = .ok (.iconst 0, 1) := by decide +kernel
theorem dc_G_isLoop_34 : decode cd_G_isLoop 34 = .ok (.istore 4, 2) := by decide +kernel
theorem dc_G_isLoop_36 : decode cd_G_isLoop 36 = .ok (.aload_n 0, 1) := by decide +kernel
theorem dc_G_isLoop_37 : decode cd_G_isLoop 37 = .ok (.aload_n 0, 1) := by decide +kernel
theorem dc_G_isLoop_38 : decode cd_G_isLoop 38 = .ok (.getfield 15, 3) := by decide +kernel
theorem dc_G_isLoop_41 : decode cd_G_isLoop 41 = .ok (.iload_n 3, 1) := by decide +kernel
theorem dc_G_isLoop_42 : decode cd_G_isLoop 42 = .ok (.invokevirtual 40, 3) := by decide +kernel
theorem dc_G_isLoop_45 : decode cd_G_isLoop 45 = .ok (.invokevirtual 37, 3) := by decide +kernel
theorem dc_G_isLoop_48 : decode cd_G_isLoop 48 = .ok (.iload_n 1, 1) := by decide +kernel
theorem dc_G_isLoop_49 : decode cd_G_isLoop 49 = .ok (.if_icmp .ne 7, 3) := by decide +kernel
theorem dc_G_isLoop_52 : decode cd_G_isLoop 52 = .ok (.iconst 1, 1) := by decide +kernel
theorem dc_G_isLoop_53 : decode cd_G_isLoop 53 = .ok (.goto 4, 3) := by decide +kernel
theorem dc_G_isLoop_56 : decode cd_G_isLoop 56 = .ok (.iconst 0, 1) := by decide +kernel
theorem dc_G_isLoop_57 : decode cd_G_isLoop 57 = .ok (.istore 5, 2) := by decide +kernel
theorem dc_G_isLoop_59 : decode cd_G_isLoop 59 = .ok (.iload_n 2, 1) := by decide +kernel
theorem dc_G_isLoop_60 : decode cd_G_isLoop 60 = .ok (.iload_n 3, 1) := by decide +kernel
theorem dc_G_isLoop_61 : decode cd_G_isLoop 61 = .ok (.invokestatic 29, 3) := by decide +kernel
theorem dc_G_isLoop_64 : decode cd_G_isLoop 64 = .ok (.ifCond .eq 12, 3) := by decide +kernel
theorem dc_G_isLoop_67 : decode cd_G_isLoop 67 = .ok (.iload 4, 2) := by decide +kernel
theorem dc_G_isLoop_69 : decode cd_G_isLoop 69 = .ok (.iload 5, 2) := by decide +kernel
theorem dc_G_isLoop_71 : decode cd_G_isLoop 71 = .ok (.if_icmp .eq 5, 3) := by decide +kernel
theorem dc_G_isLoop_74 : decode cd_G_isLoop 74 = .ok (.iconst 0, 1) := by decide +kernel
theorem dc_G_isLoop_75 : decode cd_G_isLoop 75 = .ok (.ireturn, 1) := by decide +kernel
theorem dc_G_isLoop_76 : decode cd_G_isLoop 76 = .ok (.iinc 3 1, 3) := by decide +kernel
theorem dc_G_isLoop_79 : decode cd_G_isLoop 79 = .ok (.goto (-77), 3) := by decide +kernel
theorem dc_G_isLoop_82 : decode cd_G_isLoop 82 = .ok (.iconst 1, 1) := by decide +kernel
theorem dc_G_isLoop_83 : decode cd_G_isLoop 83 = .ok (.ireturn, 1) := by decide +kernel
theorem dc_L_at_0 : decode cd_L_at 0 = .ok (.aload_n 2, 1) := by decide +kernel
theorem dc_L_at_1 : decode cd_L_at 1 = .ok (.iconst 0, 1) := by decide +kernel
theorem dc_L_at_2 : decode cd_L_at 2 = .ok (.aload_n 0, 1) := by decide +kernel
theorem dc_L_at_3 : decode cd_L_at 3 = .ok (.iload_n 1, 1) := by decide +kernel
theorem dc_L_at_4 : decode cd_L_at 4 = .ok (.invokevirtual 59, 3) := by decide +kernel
theorem dc_L_at_7 : decode cd_L_at 7 = .ok (.i2l, 1) := by decide +kernel
theorem dc_L_at_8 : decode cd_L_at 8 = .ok (.lastore, 1) := by decide +kernel
theorem dc_L_at_9 : decode cd_L_at 9 = .ok (.goto 6, 3) := by decide +kernel
theorem dc_L_at_12 : decode cd_L_at 12 = .ok (.astore_n 3, 1) := by decide +kernel
theorem dc_L_at_13 : decode cd_L_at 13 = .ok (.iconst 1, 1) := by decide +kernel
theorem dc_L_at_14 : decode cd_L_at 14 = .ok (.ireturn, 1) := by decide +kernel
theorem dc_L_at_15 : decode cd_L_at 15 = .ok (.iconst 0, 1) := by decide +kernel
theorem dc_L_at_16 : decode cd_L_at 16 = .ok (.ireturn, 1) := by decide +kernel
theorem dc_C_at_0 : decode cd_C_at 0 = .ok (.iload_n 1, 1) := by decide +kernel
theorem dc_C_at_1 : decode cd_C_at 1 = .ok (.ifCond .lt 14, 3) := by decide +kernel
theorem dc_C_at_4 : decode cd_C_at 4 = .ok (.iload_n 1, 1) := by decide +kernel
theorem dc_C_at_5 : decode cd_C_at 5 = .ok (.aload_n 0, 1) := by decide +kernel
theorem dc_C_at_6 : decode cd_C_at 6 = .ok (.getfield 42, 3) := by decide +kernel
theorem dc_C_at_9 : decode cd_C_at 9 = .ok (.invokevirtual 164, 3) := by decide +kernel
theorem dc_C_at_12 : decode cd_C_at 12 = .ok (.if_icmp .lt 11, 3) := by decide +kernel
theorem dc_C_at_15 : decode cd_C_at 15 = .ok (.new 114, 3) := by decide +kernel
theorem dc_C_at_18 : decode cd_C_at 18 = .ok (.dup, 1) := by decide +kernel
theorem dc_C_at_19 : decode cd_C_at 19 = .ok (.invokespecial 116, 3) := by decide +kernel
theorem dc_C_at_22 : decode cd_C_at 22 = .ok (.athrow, 1) := by decide +kernel
theorem dc_C_at_23 : decode cd_C_at 23 = .ok (.aload_n 0, 1) := by decide +kernel
theorem dc_C_at_24 : decode cd_C_at 24 = .ok (.getfield 42, 3) := by decide +kernel
theorem dc_C_at_27 : decode cd_C_at 27 = .ok (.iload_n 1, 1) := by decide +kernel
theorem dc_C_at_28 : decode cd_C_at 28 = .ok (.invokevirtual 166, 3) := by decide +kernel
theorem dc_C_at_31 : decode cd_C_at 31 = .ok (.ireturn, 1) := by decide +kernel
theorem dc_T_character_0 : decode cd_T_character 0 = .ok (.aload_n 0, 1) := by decide +kernel
theorem dc_T_character_1 : decode cd_T_character 1 = .ok (.getfield 11, 3) := by decide +kernel
theorem dc_T_character_4 : decode cd_T_character 4 = .ok (.iload_n 1, 1) := by decide +kernel
theorem dc_T_character_5 : decode cd_T_character 5 = .ok (.caload, 1) := by decide +kernel
theorem dc_T_character_6 : decode cd_T_character 6 = .ok (.ireturn, 1) := by decide +kernel
theorem dc_R_init_0 : decode cd_R_init 0 = .ok (.aload_n 0, 1) := by decide +kernel
theorem dc_R_init_1 : decode cd_R_init 1 = .ok (.invokespecial 1, 3) := by decide +kernel
theorem dc_R_init_4 : decode cd_R_init 4 = .ok (.aload_n 0, 1) := by decide +kernel
theorem dc_R_init_5 : decode cd_R_init 5 = .ok (.bipush 12, 2) := by decide +kernel
theorem dc_R_init_7 : decode cd_R_init 7 = .ok (.newarray .int, 2) := by decide +kernel
theorem dc_R_init_9 : decode cd_R_init 9 = .ok (.putfield 7, 3) := by decide +kernel
theorem dc_R_init_12 : decode cd_R_init 12 = .ok (.aload_n 0, 1) := by decide +kernel
theorem dc_R_init_13 : decode cd_R_init 13 = .ok (.bipush 12, 2) := by decide +kernel
theorem dc_R_init_15 : decode cd_R_init 15 = .ok (.newarray .int, 2) := by decide +kernel
theorem dc_R_init_17 : decode cd_R_init 17 = .ok (.putfield 13, 3) := by decide +kernel
theorem dc_R_init_20 : decode cd_R_init 20 = .ok (.aload_n 0, 1) := by decide +kernel
theorem dc_R_init_21 : decode cd_R_init 21 = .ok (.bipush 8, 2) := by decide +kernel
theorem dc_R_init_23 : decode cd_R_init 23 = .ok (.newarray .int, 2) := by decide +kernel
theorem dc_R_init_25 : decode cd_R_init 25 = .ok (.putfield 16, 3) := by decide +kernel
theorem dc_R_init_28 : decode cd_R_init 28 = .ok (.aload_n 0, 1) := by decide +kernel
theorem dc_R_init_29 : decode cd_R_init 29 = .ok (.iconst 2, 1) := by decide +kernel
theorem dc_R_init_30 : decode cd_R_init 30 = .ok (.newarray .int, 2) := by decide +kernel
theorem dc_R_init_32 : decode cd_R_init 32 = .ok (.putfield 19, 3) := by decide +kernel
theorem dc_R_init_35 : decode cd_R_init 35 = .ok (.aload_n 0, 1) := by decide +kernel
theorem dc_R_init_36 : decode cd_R_init 36 = .ok (.bipush 12, 2) := by decide +kernel
theorem dc_R_init_38 : decode cd_R_init 38 = .ok (.newarray .int, 2) := by decide +kernel
theorem dc_R_init_40 : decode cd_R_init 40 = .ok (.putfield 22, 3) := by decide +kernel
theorem dc_R_init_43 : decode cd_R_init 43 = .ok (.aload_n 0, 1) := by decide +kernel
theorem dc_R_init_44 : decode cd_R_init 44 = .ok (.bipush 12, 2) := by decide +kernel
theorem dc_R_init_46 : decode cd_R_init 46 = .ok (.newarray .int, 2) := by decide +kernel
theorem dc_R_init_48 : decode cd_R_init 48 = .ok (.putfield 25, 3) := by decide +kernel
theorem dc_R_init_51 : decode cd_R_init 51 = .ok (.aload_n 0, 1) := by decide +kernel
theorem dc_R_init_52 : decode cd_R_init 52 = .ok (.bipush 12, 2) := by decide +kernel
theorem dc_R_init_54 : decode cd_R_init 54 = .ok (.newarray .int, 2) := by decide +kernel
theorem dc_R_init_56 : decode cd_R_init 56 = .ok (.putfield 28, 3) := by decide +kernel
theorem dc_R_init_59 : decode cd_R_init 59 = .ok (.aload_n 0, 1) := by decide +kernel
theorem dc_R_init_60 : decode cd_R_init 60 = .ok (.bipush 12, 2) := by decide +kernel
theorem dc_R_init_62 : decode cd_R_init 62 = .ok (.newarray .int, 2) := by decide +kernel
theorem dc_R_init_64 : decode cd_R_init 64 = .ok (.putfield 31, 3) := by decide +kernel
theorem dc_R_init_67 : decode cd_R_init 67 = .ok (.aload_n 0, 1) := by decide +kernel
theorem dc_R_init_68 : decode cd_R_init 68 = .ok (.sipush 4096, 3) := by decide +kernel
theorem dc_R_init_71 : decode cd_R_init 71 = .ok (.newarray .int, 2) := by decide +kernel
theorem dc_R_init_73 : decode cd_R_init 73 = .ok (.putfield 34, 3) := by decide +kernel
theorem dc_R_init_76 : decode cd_R_init 76 = .ok (.aload_n 0, 1) := by decide +kernel
theorem dc_R_init_77 : decode cd_R_init 77 = .ok (.sipush 4096, 3) := by decide +kernel
theorem dc_R_init_80 : decode cd_R_init 80 = .ok (.newarray .int, 2) := by decide +kernel
theorem dc_R_init_82 : decode cd_R_init 82 = .ok (.putfield 37, 3) := by decide +kernel
theorem dc_R_init_85 : decode cd_R_init 85 = .ok (.aload_n 0, 1) := by decide +kernel
theorem dc_R_init_86 : decode cd_R_init 86 = .ok (.bipush 8, 2) := by decide +kernel
theorem dc_R_init_88 : decode cd_R_init 88 = .ok (.newarray .int, 2) := by decide +kernel
theorem dc_R_init_90 : decode cd_R_init 90 = .ok (.putfield 40, 3) := by decide +kernel
theorem dc_R_init_93 : decode cd_R_init 93 = .ok (.aload_n 0, 1) := by decide +kernel
theorem dc_R_init_94 : decode cd_R_init 94 = .ok (.bipush 96, 2) := by decide +kernel
theorem dc_R_init_96 : decode cd_R_init 96 = .ok (.newarray .int, 2) := by decide +kernel
theorem dc_R_init_98 : decode cd_R_init 98 = .ok (.putfield 43, 3) := by decide +kernel
theorem dc_R_init_101 : decode cd_R_init 101 = .ok (.return_, 1) := by decide +kernel
theorem dc_R_thrown_0 : decode cd_R_thrown 0 = .ok (.aload_n 0, 1) := by decide +kernel
theorem dc_R_thrown_1 : decode cd_R_thrown 1 = .ok (.getfield 46, 3) := by decide +kernel
theorem dc_R_thrown_4 : decode cd_R_thrown 4 = .ok (.ireturn, 1) := by decide +kernel
theorem dc_R_add_0 : decode cd_R_add 0 = .ok (.aload_n 0, 1) := by decide +kernel
theorem dc_R_add_1 : decode cd_R_add 1 = .ok (.iload_n 1, 1) := by decide +kernel
theorem dc_R_add_2 : decode cd_R_add 2 = .ok (.invokestatic 56, 3) := by decide +kernel
theorem dc_R_add_5 : decode cd_R_add 5 = .ok (.ifCond .eq 19, 3) := by decide +kernel
theorem dc_R_add_8 : decode cd_R_add 8 = .ok (.iload_n 2, 1) := by decide +kernel
theorem dc_R_add_9 : decode cd_R_add 9 = .ok (.iconst (-1), 1) := by decide +kernel
theorem dc_R_add_10 : decode cd_R_add 10 = .ok (.if_icmp .lt 14, 3) := by decide +kernel
theorem dc_R_add_13 : decode cd_R_add 13 = .ok (.iload_n 2, 1) := by decide +kernel
theorem dc_R_add_14 : decode cd_R_add 14 = .ok (.bipush 7, 2) := by decide +kernel
theorem dc_R_add_16 : decode cd_R_add 16 = .ok (.if_icmp .gt 8, 3) := by decide +kernel
theorem dc_R_add_19 : decode cd_R_add 19 = .ok (.iload_n 1, 1) := by decide +kernel
theorem dc_R_add_20 : decode cd_R_add 20 = .ok (.iload_n 2, 1) := by decide +kernel
theorem dc_R_add_21 : decode cd_R_add 21 = .ok (.if_icmp .ne 7, 3) := by decide +kernel
theorem dc_R_add_24 : decode cd_R_add 24 = .ok (.iconst 1, 1) := by decide +kernel
theorem dc_R_add_25 : decode cd_R_add 25 = .ok (.goto 24, 3) := by decide +kernel
theorem dc_R_add_28 : decode cd_R_add 28 = .ok (.aload_n 0, 1) := by decide +kernel
theorem dc_R_add_29 : decode cd_R_add 29 = .ok (.getfield 60, 3) := by decide +kernel
theorem dc_R_add_32 : decode cd_R_add 32 = .ok (.ifCond .ne 12, 3) := by decide +kernel
theorem dc_R_add_35 : decode cd_R_add 35 = .ok (.aload_n 0, 1) := by decide +kernel
theorem dc_R_add_36 : decode cd_R_add 36 = .ok (.getfield 50, 3) := by decide +kernel
theorem dc_R_add_39 : decode cd_R_add 39 = .ok (.bipush 12, 2) := by decide +kernel
theorem dc_R_add_41 : decode cd_R_add 41 = .ok (.if_icmp .ne 7, 3) := by decide +kernel
theorem dc_R_add_44 : decode cd_R_add 44 = .ok (.iconst 2, 1) := by decide +kernel
theorem dc_R_add_45 : decode cd_R_add 45 = .ok (.goto 4, 3) := by decide +kernel
theorem dc_R_add_48 : decode cd_R_add 48 = .ok (.iconst 0, 1) := by decide +kernel
theorem dc_R_add_49 : decode cd_R_add 49 = .ok (.putfield 46, 3) := by decide +kernel
theorem dc_R_add_52 : decode cd_R_add 52 = .ok (.aload_n 0, 1) := by decide +kernel
theorem dc_R_add_53 : decode cd_R_add 53 = .ok (.getfield 46, 3) := by decide +kernel
theorem dc_R_add_56 : decode cd_R_add 56 = .ok (.ifCond .le 5, 3) := by decide +kernel
theorem dc_R_add_59 : decode cd_R_add 59 = .ok (.iconst 0, 1) := by decide +kernel
theorem dc_R_add_60 : decode cd_R_add 60 = .ok (.ireturn, 1) := by decide +kernel
theorem dc_R_add_61 : decode cd_R_add 61 = .ok (.aload_n 0, 1) := by decide +kernel
theorem dc_R_add_62 : decode cd_R_add 62 = .ok (.iload_n 1, 1) := by decide +kernel
theorem dc_R_add_63 : decode cd_R_add 63 = .ok (.iload_n 2, 1) := by decide +kernel
theorem dc_R_add_64 : decode cd_R_add 64 = .ok (.invokevirtual 64, 3) := by decide +kernel
theorem dc_R_add_67 : decode cd_R_add 67 = .ok (.aload_n 0, 1) := by decide +kernel
theorem dc_R_add_68 : decode cd_R_add 68 = .ok (.getfield 50, 3) := by decide +kernel
theorem dc_R_add_71 : decode cd_R_add 71 = .ok (.iconst 1, 1) := by decide +kernel
theorem dc_R_add_72 : decode cd_R_add 72 = .ok (.isub, 1) := by decide +kernel
theorem dc_R_add_73 : decode cd_R_add 73 = .ok (.ireturn, 1) := by decide +kernel
theorem dc_R_isCoin_0 : decode cd_R_isCoin 0 = .ok (.iload_n 0, 1) := by decide +kernel
theorem dc_R_isCoin_1 : decode cd_R_isCoin 1 = .ok (.ifCond .lt 13, 3) := by decide +kernel
theorem dc_R_isCoin_4 : decode cd_R_isCoin 4 = .ok (.iload_n 0, 1) := by decide +kernel
theorem dc_R_isCoin_5 : decode cd_R_isCoin 5 = .ok (.bipush 7, 2) := by decide +kernel
theorem dc_R_isCoin_7 : decode cd_R_isCoin 7 = .ok (.if_icmp .gt 7, 3) := by decide +kernel
theorem dc_R_isCoin_10 : decode cd_R_isCoin 10 = .ok (.iconst 1, 1) := by decide +kernel
theorem dc_R_isCoin_11 : decode cd_R_isCoin 11 = .ok (.goto 4, 3) := by decide +kernel
theorem dc_R_isCoin_14 : decode cd_R_isCoin 14 = .ok (.iconst 0, 1) := by decide +kernel
theorem dc_R_isCoin_15 : decode cd_R_isCoin 15 = .ok (.ireturn, 1) := by decide +kernel
theorem dc_R_hang_0 : decode cd_R_hang 0 = .ok (.aload_n 0, 1) := by decide +kernel
theorem dc_R_hang_1 : decode cd_R_hang 1 = .ok (.getfield 7, 3) := by decide +kernel
theorem dc_R_hang_4 : decode cd_R_hang 4 = .ok (.aload_n 0, 1) := by decide +kernel
theorem dc_R_hang_5 : decode cd_R_hang 5 = .ok (.getfield 50, 3) := by decide +kernel
theorem dc_R_hang_8 : decode cd_R_hang 8 = .ok (.iload_n 1, 1) := by decide +kernel
theorem dc_R_hang_9 : decode cd_R_hang 9 = .ok (.iastore, 1) := by decide +kernel
theorem dc_R_hang_10 : decode cd_R_hang 10 = .ok (.aload_n 0, 1) := by decide +kernel
theorem dc_R_hang_11 : decode cd_R_hang 11 = .ok (.getfield 13, 3) := by decide +kernel
theorem dc_R_hang_14 : decode cd_R_hang 14 = .ok (.aload_n 0, 1) := by decide +kernel
theorem dc_R_hang_15 : decode cd_R_hang 15 = .ok (.getfield 50, 3) := by decide +kernel
theorem dc_R_hang_18 : decode cd_R_hang 18 = .ok (.iload_n 2, 1) := by decide +kernel
theorem dc_R_hang_19 : decode cd_R_hang 19 = .ok (.iastore, 1) := by decide +kernel
theorem dc_R_hang_20 : decode cd_R_hang 20 = .ok (.aload_n 0, 1) := by decide +kernel
theorem dc_R_hang_21 : decode cd_R_hang 21 = .ok (.getfield 16, 3) := by decide +kernel
theorem dc_R_hang_24 : decode cd_R_hang 24 = .ok (.iload_n 1, 1) := by decide +kernel
theorem dc_R_hang_25 : decode cd_R_hang 25 = .ok (.aload_n 0, 1) := by decide +kernel
theorem dc_R_hang_26 : decode cd_R_hang 26 = .ok (.getfield 16, 3) := by decide +kernel
theorem dc_R_hang_29 : decode cd_R_hang 29 = .ok (.iload_n 1, 1) := by decide +kernel
theorem dc_R_hang_30 : decode cd_R_hang 30 = .ok (.iaload, 1) := by decide +kernel
theorem dc_R_hang_31 : decode cd_R_hang 31 = .ok (.iconst 1, 1) := by decide +kernel
theorem dc_R_hang_32 : decode cd_R_hang 32 = .ok (.aload_n 0, 1) := by decide +kernel
theorem dc_R_hang_33 : decode cd_R_hang 33 = .ok (.getfield 50, 3) := by decide +kernel
theorem dc_R_hang_36 : decode cd_R_hang 36 = .ok (.ishl, 1) := by decide +kernel
theorem dc_R_hang_37 : decode cd_R_hang 37 = .ok (.ior, 1) := by decide +kernel
theorem dc_R_hang_38 : decode cd_R_hang 38 = .ok (.iastore, 1) := by decide +kernel
theorem dc_R_hang_39 : decode cd_R_hang 39 = .ok (.iload_n 2, 1) := by decide +kernel
theorem dc_R_hang_40 : decode cd_R_hang 40 = .ok (.ifCond .lt 22, 3) := by decide +kernel
theorem dc_R_hang_43 : decode cd_R_hang 43 = .ok (.aload_n 0, 1) := by decide +kernel
theorem dc_R_hang_44 : decode cd_R_hang 44 = .ok (.getfield 16, 3) := by decide +kernel
theorem dc_R_hang_47 : decode cd_R_hang 47 = .ok (.iload_n 2, 1) := by decide +kernel
theorem dc_R_hang_48 : decode cd_R_hang 48 = .ok (.aload_n 0, 1) := by decide +kernel
theorem dc_R_hang_49 : decode cd_R_hang 49 = .ok (.getfield 16, 3) := by decide +kernel
theorem dc_R_hang_52 : decode cd_R_hang 52 = .ok (.iload_n 2, 1) := by decide +kernel
theorem dc_R_hang_53 : decode cd_R_hang 53 = .ok (.iaload, 1) := by decide +kernel
theorem dc_R_hang_54 : decode cd_R_hang 54 = .ok (.iconst 1, 1) := by decide +kernel
theorem dc_R_hang_55 : decode cd_R_hang 55 = .ok (.aload_n 0, 1) := by decide +kernel
theorem dc_R_hang_56 : decode cd_R_hang 56 = .ok (.getfield 50, 3) := by decide +kernel
theorem dc_R_hang_59 : decode cd_R_hang 59 = .ok (.ishl, 1) := by decide +kernel
theorem dc_R_hang_60 : decode cd_R_hang 60 = .ok (.ior, 1) := by decide +kernel
theorem dc_R_hang_61 : decode cd_R_hang 61 = .ok (.iastore, 1) := by decide +kernel
theorem dc_R_hang_62 : decode cd_R_hang 62 = .ok (.aload_n 0, 1) := by decide +kernel
theorem dc_R_hang_63 : decode cd_R_hang 63 = .ok (.aload_n 0, 1) := by decide +kernel
theorem dc_R_hang_64 : decode cd_R_hang 64 = .ok (.getfield 53, 3) := by decide +kernel
theorem dc_R_hang_67 : decode cd_R_hang 67 = .ok (.iconst 1, 1) := by decide +kernel
theorem dc_R_hang_68 : decode cd_R_hang 68 = .ok (.aload_n 0, 1) := by decide +kernel
theorem dc_R_hang_69 : decode cd_R_hang 69 = .ok (.getfield 50, 3) := by decide +kernel
theorem dc_R_hang_72 : decode cd_R_hang 72 = .ok (.ishl, 1) := by decide +kernel
theorem dc_R_hang_73 : decode cd_R_hang 73 = .ok (.ior, 1) := by decide +kernel
theorem dc_R_hang_74 : decode cd_R_hang 74 = .ok (.putfield 53, 3) := by decide +kernel
theorem dc_R_hang_77 : decode cd_R_hang 77 = .ok (.aload_n 0, 1) := by decide +kernel
theorem dc_R_hang_78 : decode cd_R_hang 78 = .ok (.dup, 1) := by decide +kernel
theorem dc_R_hang_79 : decode cd_R_hang 79 = .ok (.getfield 50, 3) := by decide +kernel
theorem dc_R_hang_82 : decode cd_R_hang 82 = .ok (.iconst 1, 1) := by decide +kernel
theorem dc_R_hang_83 : decode cd_R_hang 83 = .ok (.iadd, 1) := by decide +kernel
theorem dc_R_hang_84 : decode cd_R_hang 84 = .ok (.putfield 50, 3) := by decide +kernel
theorem dc_R_hang_87 : decode cd_R_hang 87 = .ok (.return_, 1) := by decide +kernel
theorem dc_R_board_0 : decode cd_R_board 0 = .ok (.iload_n 1, 1) := by decide +kernel
theorem dc_R_board_1 : decode cd_R_board 1 = .ok (.iconst 1, 1) := by decide +kernel
theorem dc_R_board_2 : decode cd_R_board 2 = .ok (.if_icmp .lt 38, 3) := by decide +kernel
theorem dc_R_board_5 : decode cd_R_board 5 = .ok (.iload_n 2, 1) := by decide +kernel
theorem dc_R_board_6 : decode cd_R_board 6 = .ok (.iconst 1, 1) := by decide +kernel
theorem dc_R_board_7 : decode cd_R_board 7 = .ok (.if_icmp .lt 33, 3) := by decide +kernel
theorem dc_R_board_10 : decode cd_R_board 10 = .ok (.iload_n 1, 1) := by decide +kernel
theorem dc_R_board_11 : decode cd_R_board 11 = .ok (.bipush 12, 2) := by decide +kernel
theorem dc_R_board_13 : decode cd_R_board 13 = .ok (.if_icmp .gt 27, 3) := by decide +kernel
theorem dc_R_board_16 : decode cd_R_board 16 = .ok (.iload_n 2, 1) := by decide +kernel
theorem dc_R_board_17 : decode cd_R_board 17 = .ok (.bipush 12, 2) := by decide +kernel
theorem dc_R_board_19 : decode cd_R_board 19 = .ok (.if_icmp .gt 21, 3) := by decide +kernel
theorem dc_R_board_22 : decode cd_R_board 22 = .ok (.iload_n 1, 1) := by decide +kernel
theorem dc_R_board_23 : decode cd_R_board 23 = .ok (.iload_n 2, 1) := by decide +kernel
theorem dc_R_board_24 : decode cd_R_board 24 = .ok (.iadd, 1) := by decide +kernel
theorem dc_R_board_25 : decode cd_R_board 25 = .ok (.iconst 2, 1) := by decide +kernel
theorem dc_R_board_26 : decode cd_R_board 26 = .ok (.iload_n 1, 1) := by decide +kernel
theorem dc_R_board_27 : decode cd_R_board 27 = .ok (.imul, 1) := by decide +kernel
theorem dc_R_board_28 : decode cd_R_board 28 = .ok (.iload_n 2, 1) := by decide +kernel
theorem dc_R_board_29 : decode cd_R_board 29 = .ok (.imul, 1) := by decide +kernel
theorem dc_R_board_30 : decode cd_R_board 30 = .ok (.iadd, 1) := by decide +kernel
theorem dc_R_board_31 : decode cd_R_board 31 = .ok (.bipush 12, 2) := by decide +kernel
theorem dc_R_board_33 : decode cd_R_board 33 = .ok (.if_icmp .gt 7, 3) := by decide +kernel
theorem dc_R_board_36 : decode cd_R_board 36 = .ok (.iconst 1, 1) := by decide +kernel
theorem dc_R_board_37 : decode cd_R_board 37 = .ok (.goto 4, 3) := by decide +kernel
theorem dc_R_board_40 : decode cd_R_board 40 = .ok (.iconst 0, 1) := by decide +kernel
theorem dc_R_board_41 : decode cd_R_board 41 = .ok (.istore_n 3, 1) := by decide +kernel
theorem dc_R_board_42 : decode cd_R_board 42 = .ok (.aload_n 0, 1) := by decide +kernel
theorem dc_R_board_43 : decode cd_R_board 43 = .ok (.iload_n 3, 1) := by decide +kernel
theorem dc_R_board_44 : decode cd_R_board 44 = .ok (.ifCond .ne 7, 3) := by decide +kernel
theorem dc_R_board_47 : decode cd_R_board 47 = .ok (.iconst 1, 1) := by decide +kernel
theorem dc_R_board_48 : decode cd_R_board 48 = .ok (.goto 22, 3) := by decide +kernel
theorem dc_R_board_51 : decode cd_R_board 51 = .ok (.aload_n 0, 1) := by decide +kernel
theorem dc_R_board_52 : decode cd_R_board 52 = .ok (.getfield 60, 3) := by decide +kernel
theorem dc_R_board_55 : decode cd_R_board 55 = .ok (.ifCond .ne 10, 3) := by decide +kernel
theorem dc_R_board_58 : decode cd_R_board 58 = .ok (.aload_n 0, 1) := by decide +kernel
theorem dc_R_board_59 : decode cd_R_board 59 = .ok (.getfield 50, 3) := by decide +kernel
theorem dc_R_board_62 : decode cd_R_board 62 = .ok (.ifCond .le 7, 3) := by decide +kernel
theorem dc_R_board_65 : decode cd_R_board 65 = .ok (.iconst 2, 1) := by decide +kernel
theorem dc_R_board_66 : decode cd_R_board 66 = .ok (.goto 4, 3) := by decide +kernel
theorem dc_R_board_69 : decode cd_R_board 69 = .ok (.iconst 0, 1) := by decide +kernel
theorem dc_R_board_70 : decode cd_R_board 70 = .ok (.putfield 46, 3) := by decide +kernel
theorem dc_R_board_73 : decode cd_R_board 73 = .ok (.aload_n 0, 1) := by decide +kernel
theorem dc_R_board_74 : decode cd_R_board 74 = .ok (.getfield 46, 3) := by decide +kernel
theorem dc_R_board_77 : decode cd_R_board 77 = .ok (.ifCond .le 5, 3) := by decide +kernel
theorem dc_R_board_80 : decode cd_R_board 80 = .ok (.iconst 0, 1) := by decide +kernel
theorem dc_R_board_81 : decode cd_R_board 81 = .ok (.ireturn, 1) := by decide +kernel
theorem dc_R_board_82 : decode cd_R_board 82 = .ok (.iconst 0, 1) := by decide +kernel
theorem dc_R_board_83 : decode cd_R_board 83 = .ok (.istore 4, 2) := by decide +kernel
theorem dc_R_board_85 : decode cd_R_board 85 = .ok (.iload 4, 2) := by decide +kernel
theorem dc_R_board_87 : decode cd_R_board 87 = .ok (.iload_n 1, 1) := by decide +kernel
theorem dc_R_board_88 : decode cd_R_board 88 = .ok (.iload_n 2, 1) := by decide +kernel
theorem dc_R_board_89 : decode cd_R_board 89 = .ok (.imul, 1) := by decide +kernel
theorem dc_R_board_90 : decode cd_R_board 90 = .ok (.if_icmp .ge 89, 3) := by decide +kernel
theorem dc_R_board_93 : decode cd_R_board 93 = .ok (.iload 4, 2) := by decide +kernel
theorem dc_R_board_95 : decode cd_R_board 95 = .ok (.iload_n 2, 1) := by decide +kernel
theorem dc_R_board_96 : decode cd_R_board 96 = .ok (.idiv, 1) := by decide +kernel
theorem dc_R_board_97 : decode cd_R_board 97 = .ok (.istore 5, 2) := by decide +kernel
theorem dc_R_board_99 : decode cd_R_board 99 = .ok (.iload 4, 2) := by decide +kernel
theorem dc_R_board_101 : decode cd_R_board 101 = .ok (.iload_n 2, 1) := by decide +kernel
theorem dc_R_board_102 : decode cd_R_board 102 = .ok (.irem, 1) := by decide +kernel
theorem dc_R_board_103 : decode cd_R_board 103 = .ok (.istore 6, 2) := by decide +kernel
theorem dc_R_board_105 : decode cd_R_board 105 = .ok (.iload 5, 2) := by decide +kernel
theorem dc_R_board_107 : decode cd_R_board 107 = .ok (.ifCond .ne 10, 3) := by decide +kernel
theorem dc_R_board_110 : decode cd_R_board 110 = .ok (.aload_n 0, 1) := by decide +kernel
theorem dc_R_board_111 : decode cd_R_board 111 = .ok (.iload 4, 2) := by decide +kernel
theorem dc_R_board_113 : decode cd_R_board 113 = .ok (.iconst (-1), 1) := by decide +kernel
theorem dc_R_board_114 : decode cd_R_board 114 = .ok (.invokevirtual 64, 3) := by decide +kernel
theorem dc_R_board_117 : decode cd_R_board 117 = .ok (.iload 6, 2) := by decide +kernel
theorem dc_R_board_119 : decode cd_R_board 119 = .ok (.ifCond .ne 10, 3) := by decide +kernel
theorem dc_R_board_122 : decode cd_R_board 122 = .ok (.aload_n 0, 1) := by decide +kernel
theorem dc_R_board_123 : decode cd_R_board 123 = .ok (.iload 4, 2) := by decide +kernel
theorem dc_R_board_125 : decode cd_R_board 125 = .ok (.iconst (-1), 1) := by decide +kernel
theorem dc_R_board_126 : decode cd_R_board 126 = .ok (.invokevirtual 64, 3) := by decide +kernel
theorem dc_R_board_129 : decode cd_R_board 129 = .ok (.aload_n 0, 1) := by decide +kernel
theorem dc_R_board_130 : decode cd_R_board 130 = .ok (.iload 4, 2) := by decide +kernel
theorem dc_R_board_132 : decode cd_R_board 132 = .ok (.iload 6, 2) := by decide +kernel
theorem dc_R_board_134 : decode cd_R_board 134 = .ok (.iconst 1, 1) := by decide +kernel
theorem dc_R_board_135 : decode cd_R_board 135 = .ok (.iadd, 1) := by decide +kernel
theorem dc_R_board_136 : decode cd_R_board 136 = .ok (.iload_n 2, 1) := by decide +kernel
theorem dc_R_board_137 : decode cd_R_board 137 = .ok (.if_icmp .ge 10, 3) := by decide +kernel
theorem dc_R_board_140 : decode cd_R_board 140 = .ok (.iload 4, 2) := by decide +kernel
theorem dc_R_board_142 : decode cd_R_board 142 = .ok (.iconst 1, 1) := by decide +kernel
theorem dc_R_board_143 : decode cd_R_board 143 = .ok (.iadd, 1) := by decide +kernel
end
section
theorem dc_R_board_144 : decode cd_R_board 144 = .ok (.goto 4, 3) := by decide +kernel
theorem dc_R_board_147 : decode cd_R_board 147 = .ok (.iconst (-1), 1) := by decide +kernel
theorem dc_R_board_148 : decode cd_R_board 148 = .ok (.invokevirtual 64, 3) := by decide +kernel
theorem dc_R_board_151 : decode cd_R_board 151 = .ok (.aload_n 0, 1) := by decide +kernel
theorem dc_R_board_152 : decode cd_R_board 152 = .ok (.iload 4, 2) := by decide +kernel
theorem dc_R_board_154 : decode cd_R_board 154 = .ok (.iload 5, 2) := by decide +kernel
theorem dc_R_board_156 : decode cd_R_board 156 = .ok (.iconst 1, 1) := by decide +kernel
theorem dc_R_board_157 : decode cd_R_board 157 = .ok (.iadd, 1) := by decide +kernel
theorem dc_R_board_158 : decode cd_R_board 158 = .ok (.iload_n 1, 1) := by decide +kernel
theorem dc_R_board_159 : decode cd_R_board 159 = .ok (.if_icmp .ge 10, 3) := by decide +kernel
theorem dc_R_board_162 : decode cd_R_board 162 = .ok (.iload 4, 2) := by decide +kernel
theorem dc_R_board_164 : decode cd_R_board 164 = .ok (.iload_n 2, 1) := by decide +kernel
theorem dc_R_board_165 : decode cd_R_board 165 = .ok (.iadd, 1) := by decide +kernel
theorem dc_R_board_166 : decode cd_R_board 166 = .ok (.goto 4, 3) := by decide +kernel
theorem dc_R_board_169 : decode cd_R_board 169 = .ok (.iconst (-1), 1) := by decide +kernel
theorem dc_R_board_170 : decode cd_R_board 170 = .ok (.invokevirtual 64, 3) := by decide +kernel
theorem dc_R_board_173 : decode cd_R_board 173 = .ok (.iinc 4 1, 3) := by decide +kernel
theorem dc_R_board_176 : decode cd_R_board 176 = .ok (.goto (-91), 3) := by decide +kernel
theorem dc_R_board_179 : decode cd_R_board 179 = .ok (.aload_n 0, 1) := by decide +kernel
theorem dc_R_board_180 : decode cd_R_board 180 = .ok (.getfield 50, 3) := by decide +kernel
theorem dc_R_board_183 : decode cd_R_board 183 = .ok (.ireturn, 1) := by decide +kernel
theorem dc_R_begin_0 : decode cd_R_begin 0 = .ok (.aload_n 0, 1) := by decide +kernel
theorem dc_R_begin_1 : decode cd_R_begin 1 = .ok (.aload_n 0, 1) := by decide +kernel
theorem dc_R_begin_2 : decode cd_R_begin 2 = .ok (.getfield 60, 3) := by decide +kernel
theorem dc_R_begin_5 : decode cd_R_begin 5 = .ok (.ifCond .ne 10, 3) := by decide +kernel
theorem dc_R_begin_8 : decode cd_R_begin 8 = .ok (.aload_n 0, 1) := by decide +kernel
theorem dc_R_begin_9 : decode cd_R_begin 9 = .ok (.getfield 50, 3) := by decide +kernel
theorem dc_R_begin_12 : decode cd_R_begin 12 = .ok (.ifCond .ne 7, 3) := by decide +kernel
theorem dc_R_begin_15 : decode cd_R_begin 15 = .ok (.iconst 1, 1) := by decide +kernel
theorem dc_R_begin_16 : decode cd_R_begin 16 = .ok (.goto 4, 3) := by decide +kernel
theorem dc_R_begin_19 : decode cd_R_begin 19 = .ok (.iconst 0, 1) := by decide +kernel
theorem dc_R_begin_20 : decode cd_R_begin 20 = .ok (.putfield 46, 3) := by decide +kernel
theorem dc_R_begin_23 : decode cd_R_begin 23 = .ok (.aload_n 0, 1) := by decide +kernel
theorem dc_R_begin_24 : decode cd_R_begin 24 = .ok (.getfield 46, 3) := by decide +kernel
theorem dc_R_begin_27 : decode cd_R_begin 27 = .ok (.ifCond .le 4, 3) := by decide +kernel
theorem dc_R_begin_30 : decode cd_R_begin 30 = .ok (.return_, 1) := by decide +kernel
theorem dc_R_begin_31 : decode cd_R_begin 31 = .ok (.aload_n 0, 1) := by decide +kernel
theorem dc_R_begin_32 : decode cd_R_begin 32 = .ok (.iconst 1, 1) := by decide +kernel
theorem dc_R_begin_33 : decode cd_R_begin 33 = .ok (.putfield 60, 3) := by decide +kernel
theorem dc_R_begin_36 : decode cd_R_begin 36 = .ok (.aload_n 0, 1) := by decide +kernel
theorem dc_R_begin_37 : decode cd_R_begin 37 = .ok (.iconst 0, 1) := by decide +kernel
theorem dc_R_begin_38 : decode cd_R_begin 38 = .ok (.putfield 68, 3) := by decide +kernel
theorem dc_R_begin_41 : decode cd_R_begin 41 = .ok (.aload_n 0, 1) := by decide +kernel
theorem dc_R_begin_42 : decode cd_R_begin 42 = .ok (.iconst 0, 1) := by decide +kernel
theorem dc_R_begin_43 : decode cd_R_begin 43 = .ok (.putfield 71, 3) := by decide +kernel
theorem dc_R_begin_46 : decode cd_R_begin 46 = .ok (.aload_n 0, 1) := by decide +kernel
theorem dc_R_begin_47 : decode cd_R_begin 47 = .ok (.iconst 0, 1) := by decide +kernel
theorem dc_R_begin_48 : decode cd_R_begin 48 = .ok (.putfield 74, 3) := by decide +kernel
theorem dc_R_begin_51 : decode cd_R_begin 51 = .ok (.return_, 1) := by decide +kernel
theorem dc_R_clear_0 : decode cd_R_clear 0 = .ok (.aload_n 0, 1) := by decide +kernel
theorem dc_R_clear_1 : decode cd_R_clear 1 = .ok (.iconst 0, 1) := by decide +kernel
theorem dc_R_clear_2 : decode cd_R_clear 2 = .ok (.putfield 46, 3) := by decide +kernel
theorem dc_R_clear_5 : decode cd_R_clear 5 = .ok (.aload_n 0, 1) := by decide +kernel
theorem dc_R_clear_6 : decode cd_R_clear 6 = .ok (.iconst 0, 1) := by decide +kernel
theorem dc_R_clear_7 : decode cd_R_clear 7 = .ok (.putfield 50, 3) := by decide +kernel
theorem dc_R_clear_10 : decode cd_R_clear 10 = .ok (.iconst 0, 1) := by decide +kernel
theorem dc_R_clear_11 : decode cd_R_clear 11 = .ok (.istore_n 1, 1) := by decide +kernel
theorem dc_R_clear_12 : decode cd_R_clear 12 = .ok (.iload_n 1, 1) := by decide +kernel
theorem dc_R_clear_13 : decode cd_R_clear 13 = .ok (.bipush 8, 2) := by decide +kernel
theorem dc_R_clear_15 : decode cd_R_clear 15 = .ok (.if_icmp .ge 16, 3) := by decide +kernel
theorem dc_R_clear_18 : decode cd_R_clear 18 = .ok (.aload_n 0, 1) := by decide +kernel
theorem dc_R_clear_19 : decode cd_R_clear 19 = .ok (.getfield 16, 3) := by decide +kernel
theorem dc_R_clear_22 : decode cd_R_clear 22 = .ok (.iload_n 1, 1) := by decide +kernel
theorem dc_R_clear_23 : decode cd_R_clear 23 = .ok (.iconst 0, 1) := by decide +kernel
theorem dc_R_clear_24 : decode cd_R_clear 24 = .ok (.iastore, 1) := by decide +kernel
theorem dc_R_clear_25 : decode cd_R_clear 25 = .ok (.iinc 1 1, 3) := by decide +kernel
theorem dc_R_clear_28 : decode cd_R_clear 28 = .ok (.goto (-16), 3) := by decide +kernel
theorem dc_R_clear_31 : decode cd_R_clear 31 = .ok (.aload_n 0, 1) := by decide +kernel
theorem dc_R_clear_32 : decode cd_R_clear 32 = .ok (.iconst 0, 1) := by decide +kernel
theorem dc_R_clear_33 : decode cd_R_clear 33 = .ok (.putfield 60, 3) := by decide +kernel
theorem dc_R_clear_36 : decode cd_R_clear 36 = .ok (.aload_n 0, 1) := by decide +kernel
theorem dc_R_clear_37 : decode cd_R_clear 37 = .ok (.iconst 0, 1) := by decide +kernel
theorem dc_R_clear_38 : decode cd_R_clear 38 = .ok (.putfield 53, 3) := by decide +kernel
theorem dc_R_clear_41 : decode cd_R_clear 41 = .ok (.aload_n 0, 1) := by decide +kernel
theorem dc_R_clear_42 : decode cd_R_clear 42 = .ok (.iconst 0, 1) := by decide +kernel
theorem dc_R_clear_43 : decode cd_R_clear 43 = .ok (.putfield 68, 3) := by decide +kernel
theorem dc_R_clear_46 : decode cd_R_clear 46 = .ok (.aload_n 0, 1) := by decide +kernel
theorem dc_R_clear_47 : decode cd_R_clear 47 = .ok (.iconst 0, 1) := by decide +kernel
theorem dc_R_clear_48 : decode cd_R_clear 48 = .ok (.putfield 71, 3) := by decide +kernel
theorem dc_R_clear_51 : decode cd_R_clear 51 = .ok (.aload_n 0, 1) := by decide +kernel
theorem dc_R_clear_52 : decode cd_R_clear 52 = .ok (.getfield 19, 3) := by decide +kernel
theorem dc_R_clear_55 : decode cd_R_clear 55 = .ok (.iconst 0, 1) := by decide +kernel
theorem dc_R_clear_56 : decode cd_R_clear 56 = .ok (.iconst 0, 1) := by decide +kernel
theorem dc_R_clear_57 : decode cd_R_clear 57 = .ok (.iastore, 1) := by decide +kernel
theorem dc_R_clear_58 : decode cd_R_clear 58 = .ok (.aload_n 0, 1) := by decide +kernel
theorem dc_R_clear_59 : decode cd_R_clear 59 = .ok (.getfield 19, 3) := by decide +kernel
theorem dc_R_clear_62 : decode cd_R_clear 62 = .ok (.iconst 1, 1) := by decide +kernel
theorem dc_R_clear_63 : decode cd_R_clear 63 = .ok (.iconst 0, 1) := by decide +kernel
theorem dc_R_clear_64 : decode cd_R_clear 64 = .ok (.iastore, 1) := by decide +kernel
theorem dc_R_clear_65 : decode cd_R_clear 65 = .ok (.aload_n 0, 1) := by decide +kernel
theorem dc_R_clear_66 : decode cd_R_clear 66 = .ok (.iconst 0, 1) := by decide +kernel
theorem dc_R_clear_67 : decode cd_R_clear 67 = .ok (.putfield 74, 3) := by decide +kernel
theorem dc_R_clear_70 : decode cd_R_clear 70 = .ok (.return_, 1) := by decide +kernel
theorem dc_R_margin_0 : decode cd_R_margin 0 = .ok (.aload_n 0, 1) := by decide +kernel
theorem dc_R_margin_1 : decode cd_R_margin 1 = .ok (.invokevirtual 94, 3) := by decide +kernel
theorem dc_R_margin_4 : decode cd_R_margin 4 = .ok (.ifCond .eq 15, 3) := by decide +kernel
theorem dc_R_margin_7 : decode cd_R_margin 7 = .ok (.aload_n 0, 1) := by decide +kernel
theorem dc_R_margin_8 : decode cd_R_margin 8 = .ok (.getfield 34, 3) := by decide +kernel
theorem dc_R_margin_11 : decode cd_R_margin 11 = .ok (.aload_n 0, 1) := by decide +kernel
theorem dc_R_margin_12 : decode cd_R_margin 12 = .ok (.getfield 53, 3) := by decide +kernel
theorem dc_R_margin_15 : decode cd_R_margin 15 = .ok (.iaload, 1) := by decide +kernel
theorem dc_R_margin_16 : decode cd_R_margin 16 = .ok (.goto 4, 3) := by decide +kernel
theorem dc_R_margin_19 : decode cd_R_margin 19 = .ok (.iconst 0, 1) := by decide +kernel
theorem dc_R_margin_20 : decode cd_R_margin 20 = .ok (.ireturn, 1) := by decide +kernel
theorem dc_R_asks_0 : decode cd_R_asks 0 = .ok (.aload_n 0, 1) := by decide +kernel
theorem dc_R_asks_1 : decode cd_R_asks 1 = .ok (.aload_n 0, 1) := by decide +kernel
theorem dc_R_asks_2 : decode cd_R_asks 2 = .ok (.getfield 60, 3) := by decide +kernel
theorem dc_R_asks_5 : decode cd_R_asks 5 = .ok (.ifCond .eq 7, 3) := by decide +kernel
theorem dc_R_asks_8 : decode cd_R_asks 8 = .ok (.iconst 0, 1) := by decide +kernel
theorem dc_R_asks_9 : decode cd_R_asks 9 = .ok (.goto 4, 3) := by decide +kernel
theorem dc_R_asks_12 : decode cd_R_asks 12 = .ok (.iconst 1, 1) := by decide +kernel
theorem dc_R_asks_13 : decode cd_R_asks 13 = .ok (.putfield 46, 3) := by decide +kernel
theorem dc_R_asks_16 : decode cd_R_asks 16 = .ok (.aload_n 0, 1) := by decide +kernel
theorem dc_R_asks_17 : decode cd_R_asks 17 = .ok (.getfield 60, 3) := by decide +kernel
theorem dc_R_asks_20 : decode cd_R_asks 20 = .ok (.ifCond .eq 7, 3) := by decide +kernel
theorem dc_R_asks_23 : decode cd_R_asks 23 = .ok (.aload_n 0, 1) := by decide +kernel
theorem dc_R_asks_24 : decode cd_R_asks 24 = .ok (.invokevirtual 91, 3) := by decide +kernel
theorem dc_R_asks_27 : decode cd_R_asks 27 = .ok (.aload_n 0, 1) := by decide +kernel
theorem dc_R_asks_28 : decode cd_R_asks 28 = .ok (.getfield 60, 3) := by decide +kernel
theorem dc_R_asks_31 : decode cd_R_asks 31 = .ok (.ireturn, 1) := by decide +kernel
theorem dc_R_solve_0 : decode cd_R_solve 0 = .ok (.iconst 0, 1) := by decide +kernel
theorem dc_R_solve_1 : decode cd_R_solve 1 = .ok (.istore_n 1, 1) := by decide +kernel
theorem dc_R_solve_2 : decode cd_R_solve 2 = .ok (.iload_n 1, 1) := by decide +kernel
theorem dc_R_solve_3 : decode cd_R_solve 3 = .ok (.iconst 1, 1) := by decide +kernel
theorem dc_R_solve_4 : decode cd_R_solve 4 = .ok (.aload_n 0, 1) := by decide +kernel
theorem dc_R_solve_5 : decode cd_R_solve 5 = .ok (.getfield 50, 3) := by decide +kernel
theorem dc_R_solve_8 : decode cd_R_solve 8 = .ok (.ishl, 1) := by decide +kernel
theorem dc_R_solve_9 : decode cd_R_solve 9 = .ok (.if_icmp .ge 38, 3) := by decide +kernel
theorem dc_R_solve_12 : decode cd_R_solve 12 = .ok (.aload_n 0, 1) := by decide +kernel
theorem dc_R_solve_13 : decode cd_R_solve 13 = .ok (.getfield 74, 3) := by decide +kernel
theorem dc_R_solve_16 : decode cd_R_solve 16 = .ok (.ifCond .ne 31, 3) := by decide +kernel
theorem dc_R_solve_19 : decode cd_R_solve 19 = .ok (.aload_n 0, 1) := by decide +kernel
theorem dc_R_solve_20 : decode cd_R_solve 20 = .ok (.getfield 34, 3) := by decide +kernel
theorem dc_R_solve_23 : decode cd_R_solve 23 = .ok (.iload_n 1, 1) := by decide +kernel
theorem dc_R_solve_24 : decode cd_R_solve 24 = .ok (.aload_n 0, 1) := by decide +kernel
theorem dc_R_solve_25 : decode cd_R_solve 25 = .ok (.iload_n 1, 1) := by decide +kernel
theorem dc_R_solve_26 : decode cd_R_solve 26 = .ok (.invokevirtual 84, 3) := by decide +kernel
theorem dc_R_solve_29 : decode cd_R_solve 29 = .ok (.iastore, 1) := by decide +kernel
theorem dc_R_solve_30 : decode cd_R_solve 30 = .ok (.aload_n 0, 1) := by decide +kernel
theorem dc_R_solve_31 : decode cd_R_solve 31 = .ok (.getfield 37, 3) := by decide +kernel
theorem dc_R_solve_34 : decode cd_R_solve 34 = .ok (.iload_n 1, 1) := by decide +kernel
theorem dc_R_solve_35 : decode cd_R_solve 35 = .ok (.aload_n 0, 1) := by decide +kernel
theorem dc_R_solve_36 : decode cd_R_solve 36 = .ok (.iload_n 1, 1) := by decide +kernel
theorem dc_R_solve_37 : decode cd_R_solve 37 = .ok (.invokevirtual 88, 3) := by decide +kernel
theorem dc_R_solve_40 : decode cd_R_solve 40 = .ok (.iastore, 1) := by decide +kernel
theorem dc_R_solve_41 : decode cd_R_solve 41 = .ok (.iinc 1 1, 3) := by decide +kernel
theorem dc_R_solve_44 : decode cd_R_solve 44 = .ok (.goto (-42), 3) := by decide +kernel
theorem dc_R_solve_47 : decode cd_R_solve 47 = .ok (.aload_n 0, 1) := by decide +kernel
theorem dc_R_solve_48 : decode cd_R_solve 48 = .ok (.iconst 1, 1) := by decide +kernel
theorem dc_R_solve_49 : decode cd_R_solve 49 = .ok (.putfield 74, 3) := by decide +kernel
theorem dc_R_solve_52 : decode cd_R_solve 52 = .ok (.return_, 1) := by decide +kernel
theorem dc_R_marginOf_0 : decode cd_R_marginOf 0 = .ok (.iconst 0, 1) := by decide +kernel
theorem dc_R_marginOf_1 : decode cd_R_marginOf 1 = .ok (.istore_n 2, 1) := by decide +kernel
theorem dc_R_marginOf_2 : decode cd_R_marginOf 2 = .ok (.iconst 0, 1) := by decide +kernel
theorem dc_R_marginOf_3 : decode cd_R_marginOf 3 = .ok (.istore_n 3, 1) := by decide +kernel
theorem dc_R_marginOf_4 : decode cd_R_marginOf 4 = .ok (.iconst 0, 1) := by decide +kernel
theorem dc_R_marginOf_5 : decode cd_R_marginOf 5 = .ok (.istore 4, 2) := by decide +kernel
theorem dc_R_marginOf_7 : decode cd_R_marginOf 7 = .ok (.iload 4, 2) := by decide +kernel
theorem dc_R_marginOf_9 : decode cd_R_marginOf 9 = .ok (.aload_n 0, 1) := by decide +kernel
theorem dc_R_marginOf_10 : decode cd_R_marginOf 10 = .ok (.getfield 50, 3) := by decide +kernel
theorem dc_R_marginOf_13 : decode cd_R_marginOf 13 = .ok (.if_icmp .ge 47, 3) := by decide +kernel
theorem dc_R_marginOf_16 : decode cd_R_marginOf 16 = .ok (.iload_n 1, 1) := by decide +kernel
theorem dc_R_marginOf_17 : decode cd_R_marginOf 17 = .ok (.iload 4, 2) := by decide +kernel
theorem dc_R_marginOf_19 : decode cd_R_marginOf 19 = .ok (.ishr, 1) := by decide +kernel
theorem dc_R_marginOf_20 : decode cd_R_marginOf 20 = .ok (.iconst 1, 1) := by decide +kernel
theorem dc_R_marginOf_21 : decode cd_R_marginOf 21 = .ok (.iand, 1) := by decide +kernel
theorem dc_R_marginOf_22 : decode cd_R_marginOf 22 = .ok (.iconst 1, 1) := by decide +kernel
theorem dc_R_marginOf_23 : decode cd_R_marginOf 23 = .ok (.if_icmp .ne 31, 3) := by decide +kernel
theorem dc_R_marginOf_26 : decode cd_R_marginOf 26 = .ok (.aload_n 0, 1) := by decide +kernel
theorem dc_R_marginOf_27 : decode cd_R_marginOf 27 = .ok (.iload 4, 2) := by decide +kernel
theorem dc_R_marginOf_29 : decode cd_R_marginOf 29 = .ok (.iload_n 1, 1) := by decide +kernel
theorem dc_R_marginOf_30 : decode cd_R_marginOf 30 = .ok (.invokevirtual 81, 3) := by decide +kernel
theorem dc_R_marginOf_33 : decode cd_R_marginOf 33 = .ok (.istore 5, 2) := by decide +kernel
theorem dc_R_marginOf_35 : decode cd_R_marginOf 35 = .ok (.iload_n 3, 1) := by decide +kernel
theorem dc_R_marginOf_36 : decode cd_R_marginOf 36 = .ok (.ifCond .eq 9, 3) := by decide +kernel
theorem dc_R_marginOf_39 : decode cd_R_marginOf 39 = .ok (.iload 5, 2) := by decide +kernel
theorem dc_R_marginOf_41 : decode cd_R_marginOf 41 = .ok (.iload_n 2, 1) := by decide +kernel
theorem dc_R_marginOf_42 : decode cd_R_marginOf 42 = .ok (.if_icmp .le 8, 3) := by decide +kernel
theorem dc_R_marginOf_45 : decode cd_R_marginOf 45 = .ok (.iload 5, 2) := by decide +kernel
theorem dc_R_marginOf_47 : decode cd_R_marginOf 47 = .ok (.goto 4, 3) := by decide +kernel
theorem dc_R_marginOf_50 : decode cd_R_marginOf 50 = .ok (.iload_n 2, 1) := by decide +kernel
theorem dc_R_marginOf_51 : decode cd_R_marginOf 51 = .ok (.istore_n 2, 1) := by decide +kernel
theorem dc_R_marginOf_52 : decode cd_R_marginOf 52 = .ok (.iconst 1, 1) := by decide +kernel
theorem dc_R_marginOf_53 : decode cd_R_marginOf 53 = .ok (.istore_n 3, 1) := by decide +kernel
theorem dc_R_marginOf_54 : decode cd_R_marginOf 54 = .ok (.iinc 4 1, 3) := by decide +kernel
theorem dc_R_marginOf_57 : decode cd_R_marginOf 57 = .ok (.goto (-50), 3) := by decide +kernel
theorem dc_R_marginOf_60 : decode cd_R_marginOf 60 = .ok (.iload_n 2, 1) := by decide +kernel
theorem dc_R_marginOf_61 : decode cd_R_marginOf 61 = .ok (.ireturn, 1) := by decide +kernel
theorem dc_R_marginBy_0 : decode cd_R_marginBy 0 = .ok (.iload_n 2, 1) := by decide +kernel
theorem dc_R_marginBy_1 : decode cd_R_marginBy 1 = .ok (.iconst 1, 1) := by decide +kernel
theorem dc_R_marginBy_2 : decode cd_R_marginBy 2 = .ok (.iload_n 1, 1) := by decide +kernel
theorem dc_R_marginBy_3 : decode cd_R_marginBy 3 = .ok (.ishl, 1) := by decide +kernel
theorem dc_R_marginBy_4 : decode cd_R_marginBy 4 = .ok (.iconst (-1), 1) := by decide +kernel
theorem dc_R_marginBy_5 : decode cd_R_marginBy 5 = .ok (.ixor, 1) := by decide +kernel
theorem dc_R_marginBy_6 : decode cd_R_marginBy 6 = .ok (.iand, 1) := by decide +kernel
theorem dc_R_marginBy_7 : decode cd_R_marginBy 7 = .ok (.istore_n 3, 1) := by decide +kernel
theorem dc_R_marginBy_8 : decode cd_R_marginBy 8 = .ok (.aload_n 0, 1) := by decide +kernel
theorem dc_R_marginBy_9 : decode cd_R_marginBy 9 = .ok (.iload_n 1, 1) := by decide +kernel
theorem dc_R_marginBy_10 : decode cd_R_marginBy 10 = .ok (.iload_n 3, 1) := by decide +kernel
theorem dc_R_marginBy_11 : decode cd_R_marginBy 11 = .ok (.invokevirtual 77, 3) := by decide +kernel
theorem dc_R_marginBy_14 : decode cd_R_marginBy 14 = .ok (.istore 4, 2) := by decide +kernel
theorem dc_R_marginBy_16 : decode cd_R_marginBy 16 = .ok (.iload 4, 2) := by decide +kernel
theorem dc_R_marginBy_18 : decode cd_R_marginBy 18 = .ok (.ifCond .le 15, 3) := by decide +kernel
theorem dc_R_marginBy_21 : decode cd_R_marginBy 21 = .ok (.iload 4, 2) := by decide +kernel
theorem dc_R_marginBy_23 : decode cd_R_marginBy 23 = .ok (.aload_n 0, 1) := by decide +kernel
theorem dc_R_marginBy_24 : decode cd_R_marginBy 24 = .ok (.getfield 34, 3) := by decide +kernel
theorem dc_R_marginBy_27 : decode cd_R_marginBy 27 = .ok (.iload_n 3, 1) := by decide +kernel
theorem dc_R_marginBy_28 : decode cd_R_marginBy 28 = .ok (.iaload, 1) := by decide +kernel
theorem dc_R_marginBy_29 : decode cd_R_marginBy 29 = .ok (.iadd, 1) := by decide +kernel
theorem dc_R_marginBy_30 : decode cd_R_marginBy 30 = .ok (.goto 10, 3) := by decide +kernel
theorem dc_R_marginBy_33 : decode cd_R_marginBy 33 = .ok (.aload_n 0, 1) := by decide +kernel
theorem dc_R_marginBy_34 : decode cd_R_marginBy 34 = .ok (.getfield 34, 3) := by decide +kernel
theorem dc_R_marginBy_37 : decode cd_R_marginBy 37 = .ok (.iload_n 3, 1) := by decide +kernel
theorem dc_R_marginBy_38 : decode cd_R_marginBy 38 = .ok (.iaload, 1) := by decide +kernel
theorem dc_R_marginBy_39 : decode cd_R_marginBy 39 = .ok (.ineg, 1) := by decide +kernel
theorem dc_R_marginBy_40 : decode cd_R_marginBy 40 = .ok (.ireturn, 1) := by decide +kernel
theorem dc_R_takes_0 : decode cd_R_takes 0 = .ok (.aload_n 0, 1) := by decide +kernel
theorem dc_R_takes_1 : decode cd_R_takes 1 = .ok (.getfield 16, 3) := by decide +kernel
theorem dc_R_takes_4 : decode cd_R_takes 4 = .ok (.aload_n 0, 1) := by decide +kernel
theorem dc_R_takes_5 : decode cd_R_takes 5 = .ok (.getfield 7, 3) := by decide +kernel
theorem dc_R_takes_8 : decode cd_R_takes 8 = .ok (.iload_n 1, 1) := by decide +kernel
theorem dc_R_takes_9 : decode cd_R_takes 9 = .ok (.iaload, 1) := by decide +kernel
theorem dc_R_takes_10 : decode cd_R_takes 10 = .ok (.iaload, 1) := by decide +kernel
theorem dc_R_takes_11 : decode cd_R_takes 11 = .ok (.iload_n 2, 1) := by decide +kernel
theorem dc_R_takes_12 : decode cd_R_takes 12 = .ok (.iand, 1) := by decide +kernel
theorem dc_R_takes_13 : decode cd_R_takes 13 = .ok (.ifCond .ne 7, 3) := by decide +kernel
theorem dc_R_takes_16 : decode cd_R_takes 16 = .ok (.iconst 1, 1) := by decide +kernel
theorem dc_R_takes_17 : decode cd_R_takes 17 = .ok (.goto 4, 3) := by decide +kernel
theorem dc_R_takes_20 : decode cd_R_takes 20 = .ok (.iconst 0, 1) := by decide +kernel
theorem dc_R_takes_21 : decode cd_R_takes 21 = .ok (.istore_n 3, 1) := by decide +kernel
theorem dc_R_takes_22 : decode cd_R_takes 22 = .ok (.aload_n 0, 1) := by decide +kernel
theorem dc_R_takes_23 : decode cd_R_takes 23 = .ok (.getfield 13, 3) := by decide +kernel
theorem dc_R_takes_26 : decode cd_R_takes 26 = .ok (.iload_n 1, 1) := by decide +kernel
theorem dc_R_takes_27 : decode cd_R_takes 27 = .ok (.iaload, 1) := by decide +kernel
theorem dc_R_takes_28 : decode cd_R_takes 28 = .ok (.ifCond .lt 25, 3) := by decide +kernel
theorem dc_R_takes_31 : decode cd_R_takes 31 = .ok (.aload_n 0, 1) := by decide +kernel
theorem dc_R_takes_32 : decode cd_R_takes 32 = .ok (.getfield 16, 3) := by decide +kernel
theorem dc_R_takes_35 : decode cd_R_takes 35 = .ok (.aload_n 0, 1) := by decide +kernel
theorem dc_R_takes_36 : decode cd_R_takes 36 = .ok (.getfield 13, 3) := by decide +kernel
theorem dc_R_takes_39 : decode cd_R_takes 39 = .ok (.iload_n 1, 1) := by decide +kernel
theorem dc_R_takes_40 : decode cd_R_takes 40 = .ok (.iaload, 1) := by decide +kernel
theorem dc_R_takes_41 : decode cd_R_takes 41 = .ok (.iaload, 1) := by decide +kernel
theorem dc_R_takes_42 : decode cd_R_takes 42 = .ok (.iload_n 2, 1) := by decide +kernel
theorem dc_R_takes_43 : decode cd_R_takes 43 = .ok (.iand, 1) := by decide +kernel
theorem dc_R_takes_44 : decode cd_R_takes 44 = .ok (.ifCond .ne 9, 3) := by decide +kernel
theorem dc_R_takes_47 : decode cd_R_takes 47 = .ok (.iload_n 3, 1) := by decide +kernel
theorem dc_R_takes_48 : decode cd_R_takes 48 = .ok (.iconst 1, 1) := by decide +kernel
theorem dc_R_takes_49 : decode cd_R_takes 49 = .ok (.iadd, 1) := by decide +kernel
theorem dc_R_takes_50 : decode cd_R_takes 50 = .ok (.goto 4, 3) := by decide +kernel
theorem dc_R_takes_53 : decode cd_R_takes 53 = .ok (.iload_n 3, 1) := by decide +kernel
theorem dc_R_takes_54 : decode cd_R_takes 54 = .ok (.ireturn, 1) := by decide +kernel
theorem dc_R_nimOf_0 : decode cd_R_nimOf 0 = .ok (.iconst 0, 1) := by decide +kernel
theorem dc_R_nimOf_1 : decode cd_R_nimOf 1 = .ok (.istore_n 2, 1) := by decide +kernel
theorem dc_R_nimOf_2 : decode cd_R_nimOf 2 = .ok (.iconst 0, 1) := by decide +kernel
theorem dc_R_nimOf_3 : decode cd_R_nimOf 3 = .ok (.istore_n 3, 1) := by decide +kernel
theorem dc_R_nimOf_4 : decode cd_R_nimOf 4 = .ok (.iconst 0, 1) := by decide +kernel
theorem dc_R_nimOf_5 : decode cd_R_nimOf 5 = .ok (.istore 4, 2) := by decide +kernel
theorem dc_R_nimOf_7 : decode cd_R_nimOf 7 = .ok (.iconst 0, 1) := by decide +kernel
theorem dc_R_nimOf_8 : decode cd_R_nimOf 8 = .ok (.istore 5, 2) := by decide +kernel
theorem dc_R_nimOf_10 : decode cd_R_nimOf 10 = .ok (.iconst 0, 1) := by decide +kernel
theorem dc_R_nimOf_11 : decode cd_R_nimOf 11 = .ok (.istore 6, 2) := by decide +kernel
theorem dc_R_nimOf_13 : decode cd_R_nimOf 13 = .ok (.iload 6, 2) := by decide +kernel
theorem dc_R_nimOf_15 : decode cd_R_nimOf 15 = .ok (.aload_n 0, 1) := by decide +kernel
theorem dc_R_nimOf_16 : decode cd_R_nimOf 16 = .ok (.getfield 50, 3) := by decide +kernel
theorem dc_R_nimOf_19 : decode cd_R_nimOf 19 = .ok (.if_icmp .ge 99, 3) := by decide +kernel
theorem dc_R_nimOf_22 : decode cd_R_nimOf 22 = .ok (.iload_n 1, 1) := by decide +kernel
theorem dc_R_nimOf_23 : decode cd_R_nimOf 23 = .ok (.iload 6, 2) := by decide +kernel
theorem dc_R_nimOf_25 : decode cd_R_nimOf 25 = .ok (.ishr, 1) := by decide +kernel
theorem dc_R_nimOf_26 : decode cd_R_nimOf 26 = .ok (.iconst 1, 1) := by decide +kernel
theorem dc_R_nimOf_27 : decode cd_R_nimOf 27 = .ok (.iand, 1) := by decide +kernel
theorem dc_R_nimOf_28 : decode cd_R_nimOf 28 = .ok (.iconst 1, 1) := by decide +kernel
theorem dc_R_nimOf_29 : decode cd_R_nimOf 29 = .ok (.if_icmp .ne 83, 3) := by decide +kernel
theorem dc_R_nimOf_32 : decode cd_R_nimOf 32 = .ok (.iload_n 1, 1) := by decide +kernel
theorem dc_R_nimOf_33 : decode cd_R_nimOf 33 = .ok (.iconst 1, 1) := by decide +kernel
theorem dc_R_nimOf_34 : decode cd_R_nimOf 34 = .ok (.iload 6, 2) := by decide +kernel
theorem dc_R_nimOf_36 : decode cd_R_nimOf 36 = .ok (.ishl, 1) := by decide +kernel
theorem dc_R_nimOf_37 : decode cd_R_nimOf 37 = .ok (.iconst (-1), 1) := by decide +kernel
theorem dc_R_nimOf_38 : decode cd_R_nimOf 38 = .ok (.ixor, 1) := by decide +kernel
theorem dc_R_nimOf_39 : decode cd_R_nimOf 39 = .ok (.iand, 1) := by decide +kernel
theorem dc_R_nimOf_40 : decode cd_R_nimOf 40 = .ok (.istore 7, 2) := by decide +kernel
theorem dc_R_nimOf_42 : decode cd_R_nimOf 42 = .ok (.aload_n 0, 1) := by decide +kernel
theorem dc_R_nimOf_43 : decode cd_R_nimOf 43 = .ok (.getfield 37, 3) := by decide +kernel
theorem dc_R_nimOf_46 : decode cd_R_nimOf 46 = .ok (.iload 7, 2) := by decide +kernel
theorem dc_R_nimOf_48 : decode cd_R_nimOf 48 = .ok (.iaload, 1) := by decide +kernel
theorem dc_R_nimOf_49 : decode cd_R_nimOf 49 = .ok (.iconst (-1), 1) := by decide +kernel
theorem dc_R_nimOf_50 : decode cd_R_nimOf 50 = .ok (.if_icmp .ne 7, 3) := by decide +kernel
theorem dc_R_nimOf_53 : decode cd_R_nimOf 53 = .ok (.iconst 0, 1) := by decide +kernel
theorem dc_R_nimOf_54 : decode cd_R_nimOf 54 = .ok (.goto 12, 3) := by decide +kernel
theorem dc_R_nimOf_57 : decode cd_R_nimOf 57 = .ok (.iconst 1, 1) := by decide +kernel
theorem dc_R_nimOf_58 : decode cd_R_nimOf 58 = .ok (.aload_n 0, 1) := by decide +kernel
theorem dc_R_nimOf_59 : decode cd_R_nimOf 59 = .ok (.getfield 37, 3) := by decide +kernel
theorem dc_R_nimOf_62 : decode cd_R_nimOf 62 = .ok (.iload 7, 2) := by decide +kernel
theorem dc_R_nimOf_64 : decode cd_R_nimOf 64 = .ok (.iaload, 1) := by decide +kernel
theorem dc_R_nimOf_65 : decode cd_R_nimOf 65 = .ok (.ishl, 1) := by decide +kernel
theorem dc_R_nimOf_66 : decode cd_R_nimOf 66 = .ok (.istore 8, 2) := by decide +kernel
theorem dc_R_nimOf_68 : decode cd_R_nimOf 68 = .ok (.aload_n 0, 1) := by decide +kernel
theorem dc_R_nimOf_69 : decode cd_R_nimOf 69 = .ok (.iload 6, 2) := by decide +kernel
theorem dc_R_nimOf_71 : decode cd_R_nimOf 71 = .ok (.iload 7, 2) := by decide +kernel
theorem dc_R_nimOf_73 : decode cd_R_nimOf 73 = .ok (.invokevirtual 77, 3) := by decide +kernel
theorem dc_R_nimOf_76 : decode cd_R_nimOf 76 = .ok (.ifCond .ne 11, 3) := by decide +kernel
theorem dc_R_nimOf_79 : decode cd_R_nimOf 79 = .ok (.iload_n 2, 1) := by decide +kernel
theorem dc_R_nimOf_80 : decode cd_R_nimOf 80 = .ok (.iload 8, 2) := by decide +kernel
theorem dc_R_nimOf_82 : decode cd_R_nimOf 82 = .ok (.ior, 1) := by decide +kernel
theorem dc_R_nimOf_83 : decode cd_R_nimOf 83 = .ok (.istore_n 2, 1) := by decide +kernel
theorem dc_R_nimOf_84 : decode cd_R_nimOf 84 = .ok (.goto 28, 3) := by decide +kernel
theorem dc_R_nimOf_87 : decode cd_R_nimOf 87 = .ok (.iconst 1, 1) := by decide +kernel
theorem dc_R_nimOf_88 : decode cd_R_nimOf 88 = .ok (.istore 5, 2) := by decide +kernel
theorem dc_R_nimOf_90 : decode cd_R_nimOf 90 = .ok (.iload 4, 2) := by decide +kernel
theorem dc_R_nimOf_92 : decode cd_R_nimOf 92 = .ok (.ifCond .ne 8, 3) := by decide +kernel
theorem dc_R_nimOf_95 : decode cd_R_nimOf 95 = .ok (.iload 8, 2) := by decide +kernel
theorem dc_R_nimOf_97 : decode cd_R_nimOf 97 = .ok (.ifCond .ne 7, 3) := by decide +kernel
theorem dc_R_nimOf_100 : decode cd_R_nimOf 100 = .ok (.iconst 1, 1) := by decide +kernel
theorem dc_R_nimOf_101 : decode cd_R_nimOf 101 = .ok (.goto 4, 3) := by decide +kernel
theorem dc_R_nimOf_104 : decode cd_R_nimOf 104 = .ok (.iconst 0, 1) := by decide +kernel
theorem dc_R_nimOf_105 : decode cd_R_nimOf 105 = .ok (.istore 4, 2) := by decide +kernel
theorem dc_R_nimOf_107 : decode cd_R_nimOf 107 = .ok (.iload_n 3, 1) := by decide +kernel
theorem dc_R_nimOf_108 : decode cd_R_nimOf 108 = .ok (.iload 8, 2) := by decide +kernel
theorem dc_R_nimOf_110 : decode cd_R_nimOf 110 = .ok (.ior, 1) := by decide +kernel
theorem dc_R_nimOf_111 : decode cd_R_nimOf 111 = .ok (.istore_n 3, 1) := by decide +kernel
theorem dc_R_nimOf_112 : decode cd_R_nimOf 112 = .ok (.iinc 6 1, 3) := by decide +kernel
theorem dc_R_nimOf_115 : decode cd_R_nimOf 115 = .ok (.goto (-102), 3) := by decide +kernel
theorem dc_R_nimOf_118 : decode cd_R_nimOf 118 = .ok (.iconst 0, 1) := by decide +kernel
theorem dc_R_nimOf_119 : decode cd_R_nimOf 119 = .ok (.istore 6, 2) := by decide +kernel
theorem dc_R_nimOf_121 : decode cd_R_nimOf 121 = .ok (.iload 5, 2) := by decide +kernel
theorem dc_R_nimOf_123 : decode cd_R_nimOf 123 = .ok (.ifCond .ne 22, 3) := by decide +kernel
theorem dc_R_nimOf_126 : decode cd_R_nimOf 126 = .ok (.iload_n 2, 1) := by decide +kernel
theorem dc_R_nimOf_127 : decode cd_R_nimOf 127 = .ok (.iload 6, 2) := by decide +kernel
theorem dc_R_nimOf_129 : decode cd_R_nimOf 129 = .ok (.ishr, 1) := by decide +kernel
theorem dc_R_nimOf_130 : decode cd_R_nimOf 130 = .ok (.iconst 1, 1) := by decide +kernel
theorem dc_R_nimOf_131 : decode cd_R_nimOf 131 = .ok (.iand, 1) := by decide +kernel
theorem dc_R_nimOf_132 : decode cd_R_nimOf 132 = .ok (.iconst 1, 1) := by decide +kernel
theorem dc_R_nimOf_133 : decode cd_R_nimOf 133 = .ok (.if_icmp .ne 9, 3) := by decide +kernel
theorem dc_R_nimOf_136 : decode cd_R_nimOf 136 = .ok (.iinc 6 1, 3) := by decide +kernel
theorem dc_R_nimOf_139 : decode cd_R_nimOf 139 = .ok (.goto (-13), 3) := by decide +kernel
theorem dc_R_nimOf_142 : decode cd_R_nimOf 142 = .ok (.iload 6, 2) := by decide +kernel
theorem dc_R_nimOf_144 : decode cd_R_nimOf 144 = .ok (.ireturn, 1) := by decide +kernel
theorem dc_R_nimOf_145 : decode cd_R_nimOf 145 = .ok (.iload 4, 2) := by decide +kernel
theorem dc_R_nimOf_147 : decode cd_R_nimOf 147 = .ok (.ifCond .ne 17, 3) := by decide +kernel
theorem dc_R_nimOf_150 : decode cd_R_nimOf 150 = .ok (.iload_n 3, 1) := by decide +kernel
theorem dc_R_nimOf_151 : decode cd_R_nimOf 151 = .ok (.iload_n 3, 1) := by decide +kernel
theorem dc_R_nimOf_152 : decode cd_R_nimOf 152 = .ok (.iconst 1, 1) := by decide +kernel
theorem dc_R_nimOf_153 : decode cd_R_nimOf 153 = .ok (.isub, 1) := by decide +kernel
theorem dc_R_nimOf_154 : decode cd_R_nimOf 154 = .ok (.iand, 1) := by decide +kernel
theorem dc_R_nimOf_155 : decode cd_R_nimOf 155 = .ok (.ifCond .ne 9, 3) := by decide +kernel
theorem dc_R_nimOf_158 : decode cd_R_nimOf 158 = .ok (.iload_n 3, 1) := by decide +kernel
theorem dc_R_nimOf_159 : decode cd_R_nimOf 159 = .ok (.iload_n 2, 1) := by decide +kernel
theorem dc_R_nimOf_160 : decode cd_R_nimOf 160 = .ok (.iand, 1) := by decide +kernel
theorem dc_R_nimOf_161 : decode cd_R_nimOf 161 = .ok (.ifCond .eq 5, 3) := by decide +kernel
theorem dc_R_nimOf_164 : decode cd_R_nimOf 164 = .ok (.iconst (-1), 1) := by decide +kernel
theorem dc_R_nimOf_165 : decode cd_R_nimOf 165 = .ok (.ireturn, 1) := by decide +kernel
theorem dc_R_nimOf_166 : decode cd_R_nimOf 166 = .ok (.iload_n 3, 1) := by decide +kernel
theorem dc_R_nimOf_167 : decode cd_R_nimOf 167 = .ok (.iload 6, 2) := by decide +kernel
theorem dc_R_nimOf_169 : decode cd_R_nimOf 169 = .ok (.ishr, 1) := by decide +kernel
theorem dc_R_nimOf_170 : decode cd_R_nimOf 170 = .ok (.iconst 1, 1) := by decide +kernel
theorem dc_R_nimOf_171 : decode cd_R_nimOf 171 = .ok (.if_icmp .eq 9, 3) := by decide +kernel
theorem dc_R_nimOf_174 : decode cd_R_nimOf 174 = .ok (.iinc 6 1, 3) := by decide +kernel
theorem dc_R_nimOf_177 : decode cd_R_nimOf 177 = .ok (.goto (-11), 3) := by decide +kernel
theorem dc_R_nimOf_180 : decode cd_R_nimOf 180 = .ok (.iload 6, 2) := by decide +kernel
theorem dc_R_nimOf_182 : decode cd_R_nimOf 182 = .ok (.ireturn, 1) := by decide +kernel
theorem dc_R_good_0 : decode cd_R_good 0 = .ok (.aload_n 0, 1) := by decide +kernel
theorem dc_R_good_1 : decode cd_R_good 1 = .ok (.invokevirtual 94, 3) := by decide +kernel
theorem dc_R_good_4 : decode cd_R_good 4 = .ok (.ifCond .eq 10, 3) := by decide +kernel
theorem dc_R_good_7 : decode cd_R_good 7 = .ok (.aload_n 0, 1) := by decide +kernel
theorem dc_R_good_8 : decode cd_R_good 8 = .ok (.invokevirtual 98, 3) := by decide +kernel
theorem dc_R_good_11 : decode cd_R_good 11 = .ok (.goto 4, 3) := by decide +kernel
theorem dc_R_good_14 : decode cd_R_good 14 = .ok (.iconst 0, 1) := by decide +kernel
theorem dc_R_good_15 : decode cd_R_good 15 = .ok (.ireturn, 1) := by decide +kernel
theorem dc_R_goodSet_0 : decode cd_R_goodSet 0 = .ok (.iconst 0, 1) := by decide +kernel
theorem dc_R_goodSet_1 : decode cd_R_goodSet 1 = .ok (.istore_n 1, 1) := by decide +kernel
theorem dc_R_goodSet_2 : decode cd_R_goodSet 2 = .ok (.iconst 0, 1) := by decide +kernel
theorem dc_R_goodSet_3 : decode cd_R_goodSet 3 = .ok (.istore_n 2, 1) := by decide +kernel
theorem dc_R_goodSet_4 : decode cd_R_goodSet 4 = .ok (.iload_n 2, 1) := by decide +kernel
theorem dc_R_goodSet_5 : decode cd_R_goodSet 5 = .ok (.aload_n 0, 1) := by decide +kernel
theorem dc_R_goodSet_6 : decode cd_R_goodSet 6 = .ok (.getfield 50, 3) := by decide +kernel
theorem dc_R_goodSet_9 : decode cd_R_goodSet 9 = .ok (.if_icmp .ge 52, 3) := by decide +kernel
theorem dc_R_goodSet_12 : decode cd_R_goodSet 12 = .ok (.aload_n 0, 1) := by decide +kernel
theorem dc_R_goodSet_13 : decode cd_R_goodSet 13 = .ok (.getfield 53, 3) := by decide +kernel
theorem dc_R_goodSet_16 : decode cd_R_goodSet 16 = .ok (.iload_n 2, 1) := by decide +kernel
theorem dc_R_goodSet_17 : decode cd_R_goodSet 17 = .ok (.ishr, 1) := by decide +kernel
theorem dc_R_goodSet_18 : decode cd_R_goodSet 18 = .ok (.iconst 1, 1) := by decide +kernel
theorem dc_R_goodSet_19 : decode cd_R_goodSet 19 = .ok (.iand, 1) := by decide +kernel
theorem dc_R_goodSet_20 : decode cd_R_goodSet 20 = .ok (.iconst 1, 1) := by decide +kernel
theorem dc_R_goodSet_21 : decode cd_R_goodSet 21 = .ok (.if_icmp .ne 32, 3) := by decide +kernel
theorem dc_R_goodSet_24 : decode cd_R_goodSet 24 = .ok (.aload_n 0, 1) := by decide +kernel
theorem dc_R_goodSet_25 : decode cd_R_goodSet 25 = .ok (.iload_n 2, 1) := by decide +kernel
theorem dc_R_goodSet_26 : decode cd_R_goodSet 26 = .ok (.aload_n 0, 1) := by decide +kernel
theorem dc_R_goodSet_27 : decode cd_R_goodSet 27 = .ok (.getfield 53, 3) := by decide +kernel
theorem dc_R_goodSet_30 : decode cd_R_goodSet 30 = .ok (.invokevirtual 81, 3) := by decide +kernel
theorem dc_R_goodSet_33 : decode cd_R_goodSet 33 = .ok (.aload_n 0, 1) := by decide +kernel
theorem dc_R_goodSet_34 : decode cd_R_goodSet 34 = .ok (.getfield 34, 3) := by decide +kernel
theorem dc_R_goodSet_37 : decode cd_R_goodSet 37 = .ok (.aload_n 0, 1) := by decide +kernel
theorem dc_R_goodSet_38 : decode cd_R_goodSet 38 = .ok (.getfield 53, 3) := by decide +kernel
theorem dc_R_goodSet_41 : decode cd_R_goodSet 41 = .ok (.iaload, 1) := by decide +kernel
theorem dc_R_goodSet_42 : decode cd_R_goodSet 42 = .ok (.if_icmp .ne 11, 3) := by decide +kernel
theorem dc_R_goodSet_45 : decode cd_R_goodSet 45 = .ok (.iload_n 1, 1) := by decide +kernel
theorem dc_R_goodSet_46 : decode cd_R_goodSet 46 = .ok (.iconst 1, 1) := by decide +kernel
theorem dc_R_goodSet_47 : decode cd_R_goodSet 47 = .ok (.iload_n 2, 1) := by decide +kernel
theorem dc_R_goodSet_48 : decode cd_R_goodSet 48 = .ok (.ishl, 1) := by decide +kernel
theorem dc_R_goodSet_49 : decode cd_R_goodSet 49 = .ok (.ior, 1) := by decide +kernel
theorem dc_R_goodSet_50 : decode cd_R_goodSet 50 = .ok (.goto 4, 3) := by decide +kernel
theorem dc_R_goodSet_53 : decode cd_R_goodSet 53 = .ok (.iload_n 1, 1) := by decide +kernel
theorem dc_R_goodSet_54 : decode cd_R_goodSet 54 = .ok (.istore_n 1, 1) := by decide +kernel
theorem dc_R_goodSet_55 : decode cd_R_goodSet 55 = .ok (.iinc 2 1, 3) := by decide +kernel
theorem dc_R_goodSet_58 : decode cd_R_goodSet 58 = .ok (.goto (-54), 3) := by decide +kernel
theorem dc_R_goodSet_61 : decode cd_R_goodSet 61 = .ok (.iload_n 1, 1) := by decide +kernel
theorem dc_R_goodSet_62 : decode cd_R_goodSet 62 = .ok (.ireturn, 1) := by decide +kernel
theorem dc_R_nim_0 : decode cd_R_nim 0 = .ok (.aload_n 0, 1) := by decide +kernel
theorem dc_R_nim_1 : decode cd_R_nim 1 = .ok (.invokevirtual 94, 3) := by decide +kernel
theorem dc_R_nim_4 : decode cd_R_nim 4 = .ok (.ifCond .eq 15, 3) := by decide +kernel
theorem dc_R_nim_7 : decode cd_R_nim 7 = .ok (.aload_n 0, 1) := by decide +kernel
theorem dc_R_nim_8 : decode cd_R_nim 8 = .ok (.getfield 37, 3) := by decide +kernel
theorem dc_R_nim_11 : decode cd_R_nim 11 = .ok (.aload_n 0, 1) := by decide +kernel
theorem dc_R_nim_12 : decode cd_R_nim 12 = .ok (.getfield 53, 3) := by decide +kernel
theorem dc_R_nim_15 : decode cd_R_nim 15 = .ok (.iaload, 1) := by decide +kernel
theorem dc_R_nim_16 : decode cd_R_nim 16 = .ok (.goto 4, 3) := by decide +kernel
theorem dc_R_nim_19 : decode cd_R_nim 19 = .ok (.iconst 0, 1) := by decide +kernel
theorem dc_R_nim_20 : decode cd_R_nim 20 = .ok (.ireturn, 1) := by decide +kernel
theorem dc_R_mad_0 : decode cd_R_mad 0 = .ok (.aload_n 0, 1) := by decide +kernel
theorem dc_R_mad_1 : decode cd_R_mad 1 = .ok (.invokevirtual 94, 3) := by decide +kernel
theorem dc_R_mad_4 : decode cd_R_mad 4 = .ok (.ifCond .ne 5, 3) := by decide +kernel
theorem dc_R_mad_7 : decode cd_R_mad 7 = .ok (.iconst 0, 1) := by decide +kernel
theorem dc_R_mad_8 : decode cd_R_mad 8 = .ok (.ireturn, 1) := by decide +kernel
theorem dc_R_mad_9 : decode cd_R_mad 9 = .ok (.iconst 0, 1) := by decide +kernel
theorem dc_R_mad_10 : decode cd_R_mad 10 = .ok (.istore_n 1, 1) := by decide +kernel
theorem dc_R_mad_11 : decode cd_R_mad 11 = .ok (.iconst 0, 1) := by decide +kernel
theorem dc_R_mad_12 : decode cd_R_mad 12 = .ok (.istore_n 2, 1) := by decide +kernel
theorem dc_R_mad_13 : decode cd_R_mad 13 = .ok (.iload_n 2, 1) := by decide +kernel
theorem dc_R_mad_14 : decode cd_R_mad 14 = .ok (.aload_n 0, 1) := by decide +kernel
theorem dc_R_mad_15 : decode cd_R_mad 15 = .ok (.getfield 50, 3) := by decide +kernel
theorem dc_R_mad_18 : decode cd_R_mad 18 = .ok (.if_icmp .ge 61, 3) := by decide +kernel
theorem dc_R_mad_21 : decode cd_R_mad 21 = .ok (.aload_n 0, 1) := by decide +kernel
theorem dc_R_mad_22 : decode cd_R_mad 22 = .ok (.getfield 53, 3) := by decide +kernel
theorem dc_R_mad_25 : decode cd_R_mad 25 = .ok (.iconst 1, 1) := by decide +kernel
theorem dc_R_mad_26 : decode cd_R_mad 26 = .ok (.iload_n 2, 1) := by decide +kernel
theorem dc_R_mad_27 : decode cd_R_mad 27 = .ok (.ishl, 1) := by decide +kernel
theorem dc_R_mad_28 : decode cd_R_mad 28 = .ok (.iconst (-1), 1) := by decide +kernel
theorem dc_R_mad_29 : decode cd_R_mad 29 = .ok (.ixor, 1) := by decide +kernel
theorem dc_R_mad_30 : decode cd_R_mad 30 = .ok (.iand, 1) := by decide +kernel
theorem dc_R_mad_31 : decode cd_R_mad 31 = .ok (.istore_n 3, 1) := by decide +kernel
theorem dc_R_mad_32 : decode cd_R_mad 32 = .ok (.aload_n 0, 1) := by decide +kernel
theorem dc_R_mad_33 : decode cd_R_mad 33 = .ok (.getfield 53, 3) := by decide +kernel
theorem dc_R_mad_36 : decode cd_R_mad 36 = .ok (.iload_n 2, 1) := by decide +kernel
theorem dc_R_mad_37 : decode cd_R_mad 37 = .ok (.ishr, 1) := by decide +kernel
theorem dc_R_mad_38 : decode cd_R_mad 38 = .ok (.iconst 1, 1) := by decide +kernel
theorem dc_R_mad_39 : decode cd_R_mad 39 = .ok (.iand, 1) := by decide +kernel
theorem dc_R_mad_40 : decode cd_R_mad 40 = .ok (.iconst 1, 1) := by decide +kernel
theorem dc_R_mad_41 : decode cd_R_mad 41 = .ok (.if_icmp .ne 30, 3) := by decide +kernel
theorem dc_R_mad_44 : decode cd_R_mad 44 = .ok (.aload_n 0, 1) := by decide +kernel
theorem dc_R_mad_45 : decode cd_R_mad 45 = .ok (.iload_n 2, 1) := by decide +kernel
theorem dc_R_mad_46 : decode cd_R_mad 46 = .ok (.iload_n 3, 1) := by decide +kernel
theorem dc_R_mad_47 : decode cd_R_mad 47 = .ok (.invokevirtual 77, 3) := by decide +kernel
theorem dc_R_mad_50 : decode cd_R_mad 50 = .ok (.ifCond .ne 21, 3) := by decide +kernel
theorem dc_R_mad_53 : decode cd_R_mad 53 = .ok (.aload_n 0, 1) := by decide +kernel
theorem dc_R_mad_54 : decode cd_R_mad 54 = .ok (.getfield 37, 3) := by decide +kernel
theorem dc_R_mad_57 : decode cd_R_mad 57 = .ok (.iload_n 3, 1) := by decide +kernel
theorem dc_R_mad_58 : decode cd_R_mad 58 = .ok (.iaload, 1) := by decide +kernel
theorem dc_R_mad_59 : decode cd_R_mad 59 = .ok (.iconst (-1), 1) := by decide +kernel
theorem dc_R_mad_60 : decode cd_R_mad 60 = .ok (.if_icmp .ne 11, 3) := by decide +kernel
theorem dc_R_mad_63 : decode cd_R_mad 63 = .ok (.iload_n 1, 1) := by decide +kernel
theorem dc_R_mad_64 : decode cd_R_mad 64 = .ok (.iconst 1, 1) := by decide +kernel
theorem dc_R_mad_65 : decode cd_R_mad 65 = .ok (.iload_n 2, 1) := by decide +kernel
theorem dc_R_mad_66 : decode cd_R_mad 66 = .ok (.ishl, 1) := by decide +kernel
theorem dc_R_mad_67 : decode cd_R_mad 67 = .ok (.ior, 1) := by decide +kernel
theorem dc_R_mad_68 : decode cd_R_mad 68 = .ok (.goto 4, 3) := by decide +kernel
theorem dc_R_mad_71 : decode cd_R_mad 71 = .ok (.iload_n 1, 1) := by decide +kernel
theorem dc_R_mad_72 : decode cd_R_mad 72 = .ok (.istore_n 1, 1) := by decide +kernel
theorem dc_R_mad_73 : decode cd_R_mad 73 = .ok (.iinc 2 1, 3) := by decide +kernel
theorem dc_R_mad_76 : decode cd_R_mad 76 = .ok (.goto (-63), 3) := by decide +kernel
theorem dc_R_mad_79 : decode cd_R_mad 79 = .ok (.iload_n 1, 1) := by decide +kernel
theorem dc_R_mad_80 : decode cd_R_mad 80 = .ok (.ireturn, 1) := by decide +kernel
theorem dc_R_cut_0 : decode cd_R_cut 0 = .ok (.aload_n 0, 1) := by decide +kernel
theorem dc_R_cut_1 : decode cd_R_cut 1 = .ok (.aload_n 0, 1) := by decide +kernel
theorem dc_R_cut_2 : decode cd_R_cut 2 = .ok (.getfield 60, 3) := by decide +kernel
theorem dc_R_cut_5 : decode cd_R_cut 5 = .ok (.ifCond .ne 7, 3) := by decide +kernel
theorem dc_R_cut_8 : decode cd_R_cut 8 = .ok (.iconst 1, 1) := by decide +kernel
theorem dc_R_cut_9 : decode cd_R_cut 9 = .ok (.goto 35, 3) := by decide +kernel
theorem dc_R_cut_12 : decode cd_R_cut 12 = .ok (.iload_n 1, 1) := by decide +kernel
theorem dc_R_cut_13 : decode cd_R_cut 13 = .ok (.ifCond .lt 11, 3) := by decide +kernel
theorem dc_R_cut_16 : decode cd_R_cut 16 = .ok (.iload_n 1, 1) := by decide +kernel
theorem dc_R_cut_17 : decode cd_R_cut 17 = .ok (.aload_n 0, 1) := by decide +kernel
theorem dc_R_cut_18 : decode cd_R_cut 18 = .ok (.getfield 50, 3) := by decide +kernel
theorem dc_R_cut_21 : decode cd_R_cut 21 = .ok (.if_icmp .lt 7, 3) := by decide +kernel
theorem dc_R_cut_24 : decode cd_R_cut 24 = .ok (.iconst 2, 1) := by decide +kernel
theorem dc_R_cut_25 : decode cd_R_cut 25 = .ok (.goto 19, 3) := by decide +kernel
theorem dc_R_cut_28 : decode cd_R_cut 28 = .ok (.aload_n 0, 1) := by decide +kernel
theorem dc_R_cut_29 : decode cd_R_cut 29 = .ok (.getfield 53, 3) := by decide +kernel
theorem dc_R_cut_32 : decode cd_R_cut 32 = .ok (.iload_n 1, 1) := by decide +kernel
theorem dc_R_cut_33 : decode cd_R_cut 33 = .ok (.ishr, 1) := by decide +kernel
theorem dc_R_cut_34 : decode cd_R_cut 34 = .ok (.iconst 1, 1) := by decide +kernel
theorem dc_R_cut_35 : decode cd_R_cut 35 = .ok (.iand, 1) := by decide +kernel
theorem dc_R_cut_36 : decode cd_R_cut 36 = .ok (.ifCond .ne 7, 3) := by decide +kernel
theorem dc_R_cut_39 : decode cd_R_cut 39 = .ok (.iconst 3, 1) := by decide +kernel
theorem dc_R_cut_40 : decode cd_R_cut 40 = .ok (.goto 4, 3) := by decide +kernel
theorem dc_R_cut_43 : decode cd_R_cut 43 = .ok (.iconst 0, 1) := by decide +kernel
theorem dc_R_cut_44 : decode cd_R_cut 44 = .ok (.putfield 46, 3) := by decide +kernel
theorem dc_R_cut_47 : decode cd_R_cut 47 = .ok (.aload_n 0, 1) := by decide +kernel
theorem dc_R_cut_48 : decode cd_R_cut 48 = .ok (.getfield 46, 3) := by decide +kernel
theorem dc_R_cut_51 : decode cd_R_cut 51 = .ok (.ifCond .le 7, 3) := by decide +kernel
theorem dc_R_cut_54 : decode cd_R_cut 54 = .ok (.iconst 0, 1) := by decide +kernel
theorem dc_R_cut_55 : decode cd_R_cut 55 = .ok (.goto 8, 3) := by decide +kernel
theorem dc_R_cut_58 : decode cd_R_cut 58 = .ok (.aload_n 0, 1) := by decide +kernel
theorem dc_R_cut_59 : decode cd_R_cut 59 = .ok (.iload_n 1, 1) := by decide +kernel
theorem dc_R_cut_60 : decode cd_R_cut 60 = .ok (.invokevirtual 102, 3) := by decide +kernel
theorem dc_R_cut_63 : decode cd_R_cut 63 = .ok (.ireturn, 1) := by decide +kernel
theorem dc_R_make_0 : decode cd_R_make 0 = .ok (.aload_n 0, 1) := by decide +kernel
theorem dc_R_make_1 : decode cd_R_make 1 = .ok (.getfield 22, 3) := by decide +kernel
theorem dc_R_make_4 : decode cd_R_make 4 = .ok (.aload_n 0, 1) := by decide +kernel
theorem dc_R_make_5 : decode cd_R_make 5 = .ok (.getfield 68, 3) := by decide +kernel
theorem dc_R_make_8 : decode cd_R_make 8 = .ok (.iload_n 1, 1) := by decide +kernel
theorem dc_R_make_9 : decode cd_R_make 9 = .ok (.iastore, 1) := by decide +kernel
theorem dc_R_make_10 : decode cd_R_make 10 = .ok (.aload_n 0, 1) := by decide +kernel
theorem dc_R_make_11 : decode cd_R_make 11 = .ok (.getfield 25, 3) := by decide +kernel
theorem dc_R_make_14 : decode cd_R_make 14 = .ok (.aload_n 0, 1) := by decide +kernel
theorem dc_R_make_15 : decode cd_R_make 15 = .ok (.getfield 68, 3) := by decide +kernel
theorem dc_R_make_18 : decode cd_R_make 18 = .ok (.aload_n 0, 1) := by decide +kernel
theorem dc_R_make_19 : decode cd_R_make 19 = .ok (.getfield 71, 3) := by decide +kernel
theorem dc_R_make_22 : decode cd_R_make 22 = .ok (.iastore, 1) := by decide +kernel
theorem dc_R_make_23 : decode cd_R_make 23 = .ok (.aload_n 0, 1) := by decide +kernel
theorem dc_R_make_24 : decode cd_R_make 24 = .ok (.getfield 28, 3) := by decide +kernel
theorem dc_R_make_27 : decode cd_R_make 27 = .ok (.aload_n 0, 1) := by decide +kernel
theorem dc_R_make_28 : decode cd_R_make 28 = .ok (.getfield 68, 3) := by decide +kernel
theorem dc_R_make_31 : decode cd_R_make 31 = .ok (.aload_n 0, 1) := by decide +kernel
theorem dc_R_make_32 : decode cd_R_make 32 = .ok (.getfield 19, 3) := by decide +kernel
theorem dc_R_make_35 : decode cd_R_make 35 = .ok (.iconst 0, 1) := by decide +kernel
theorem dc_R_make_36 : decode cd_R_make 36 = .ok (.iaload, 1) := by decide +kernel
theorem dc_R_make_37 : decode cd_R_make 37 = .ok (.iastore, 1) := by decide +kernel
theorem dc_R_make_38 : decode cd_R_make 38 = .ok (.aload_n 0, 1) := by decide +kernel
theorem dc_R_make_39 : decode cd_R_make 39 = .ok (.getfield 31, 3) := by decide +kernel
theorem dc_R_make_42 : decode cd_R_make 42 = .ok (.aload_n 0, 1) := by decide +kernel
theorem dc_R_make_43 : decode cd_R_make 43 = .ok (.getfield 68, 3) := by decide +kernel
theorem dc_R_make_46 : decode cd_R_make 46 = .ok (.aload_n 0, 1) := by decide +kernel
theorem dc_R_make_47 : decode cd_R_make 47 = .ok (.getfield 19, 3) := by decide +kernel
theorem dc_R_make_50 : decode cd_R_make 50 = .ok (.iconst 1, 1) := by decide +kernel
theorem dc_R_make_51 : decode cd_R_make 51 = .ok (.iaload, 1) := by decide +kernel
theorem dc_R_make_52 : decode cd_R_make 52 = .ok (.iastore, 1) := by decide +kernel
theorem dc_R_make_53 : decode cd_R_make 53 = .ok (.aload_n 0, 1) := by decide +kernel
theorem dc_R_make_54 : decode cd_R_make 54 = .ok (.dup, 1) := by decide +kernel
theorem dc_R_make_55 : decode cd_R_make 55 = .ok (.getfield 68, 3) := by decide +kernel
theorem dc_R_make_58 : decode cd_R_make 58 = .ok (.iconst 1, 1) := by decide +kernel
theorem dc_R_make_59 : decode cd_R_make 59 = .ok (.iadd, 1) := by decide +kernel
theorem dc_R_make_60 : decode cd_R_make 60 = .ok (.putfield 68, 3) := by decide +kernel
theorem dc_R_make_63 : decode cd_R_make 63 = .ok (.aload_n 0, 1) := by decide +kernel
theorem dc_R_make_64 : decode cd_R_make 64 = .ok (.aload_n 0, 1) := by decide +kernel
theorem dc_R_make_65 : decode cd_R_make 65 = .ok (.getfield 53, 3) := by decide +kernel
theorem dc_R_make_68 : decode cd_R_make 68 = .ok (.iconst 1, 1) := by decide +kernel
theorem dc_R_make_69 : decode cd_R_make 69 = .ok (.iload_n 1, 1) := by decide +kernel
theorem dc_R_make_70 : decode cd_R_make 70 = .ok (.ishl, 1) := by decide +kernel
theorem dc_R_make_71 : decode cd_R_make 71 = .ok (.iconst (-1), 1) := by decide +kernel
theorem dc_R_make_72 : decode cd_R_make 72 = .ok (.ixor, 1) := by decide +kernel
theorem dc_R_make_73 : decode cd_R_make 73 = .ok (.iand, 1) := by decide +kernel
theorem dc_R_make_74 : decode cd_R_make 74 = .ok (.putfield 53, 3) := by decide +kernel
theorem dc_R_make_77 : decode cd_R_make 77 = .ok (.aload_n 0, 1) := by decide +kernel
theorem dc_R_make_78 : decode cd_R_make 78 = .ok (.iload_n 1, 1) := by decide +kernel
theorem dc_R_make_79 : decode cd_R_make 79 = .ok (.aload_n 0, 1) := by decide +kernel
theorem dc_R_make_80 : decode cd_R_make 80 = .ok (.getfield 53, 3) := by decide +kernel
theorem dc_R_make_83 : decode cd_R_make 83 = .ok (.invokevirtual 77, 3) := by decide +kernel
theorem dc_R_make_86 : decode cd_R_make 86 = .ok (.istore_n 2, 1) := by decide +kernel
theorem dc_R_make_87 : decode cd_R_make 87 = .ok (.aload_n 0, 1) := by decide +kernel
theorem dc_R_make_88 : decode cd_R_make 88 = .ok (.getfield 19, 3) := by decide +kernel
theorem dc_R_make_91 : decode cd_R_make 91 = .ok (.aload_n 0, 1) := by decide +kernel
theorem dc_R_make_92 : decode cd_R_make 92 = .ok (.getfield 71, 3) := by decide +kernel
theorem dc_R_make_95 : decode cd_R_make 95 = .ok (.dup2, 1) := by decide +kernel
theorem dc_R_make_96 : decode cd_R_make 96 = .ok (.iaload, 1) := by decide +kernel
theorem dc_R_make_97 : decode cd_R_make 97 = .ok (.iload_n 2, 1) := by decide +kernel
theorem dc_R_make_98 : decode cd_R_make 98 = .ok (.iadd, 1) := by decide +kernel
theorem dc_R_make_99 : decode cd_R_make 99 = .ok (.iastore, 1) := by decide +kernel
theorem dc_R_make_100 : decode cd_R_make 100 = .ok (.aload_n 0, 1) := by decide +kernel
theorem dc_R_make_101 : decode cd_R_make 101 = .ok (.iload_n 2, 1) := by decide +kernel
theorem dc_R_make_102 : decode cd_R_make 102 = .ok (.ifCond .le 10, 3) := by decide +kernel
theorem dc_R_make_105 : decode cd_R_make 105 = .ok (.aload_n 0, 1) := by decide +kernel
theorem dc_R_make_106 : decode cd_R_make 106 = .ok (.getfield 71, 3) := by decide +kernel
theorem dc_R_make_109 : decode cd_R_make 109 = .ok (.goto 9, 3) := by decide +kernel
theorem dc_R_make_112 : decode cd_R_make 112 = .ok (.iconst 1, 1) := by decide +kernel
theorem dc_R_make_113 : decode cd_R_make 113 = .ok (.aload_n 0, 1) := by decide +kernel
theorem dc_R_make_114 : decode cd_R_make 114 = .ok (.getfield 71, 3) := by decide +kernel
theorem dc_R_make_117 : decode cd_R_make 117 = .ok (.isub, 1) := by decide +kernel
theorem dc_R_make_118 : decode cd_R_make 118 = .ok (.putfield 71, 3) := by decide +kernel
theorem dc_R_make_121 : decode cd_R_make 121 = .ok (.iload_n 2, 1) := by decide +kernel
theorem dc_R_make_122 : decode cd_R_make 122 = .ok (.ireturn, 1) := by decide +kernel
theorem dc_R_undo_0 : decode cd_R_undo 0 = .ok (.aload_n 0, 1) := by decide +kernel
theorem dc_R_undo_1 : decode cd_R_undo 1 = .ok (.aload_n 0, 1) := by decide +kernel
theorem dc_R_undo_2 : decode cd_R_undo 2 = .ok (.getfield 68, 3) := by decide +kernel
theorem dc_R_undo_5 : decode cd_R_undo 5 = .ok (.ifCond .ne 7, 3) := by decide +kernel
theorem dc_R_undo_8 : decode cd_R_undo 8 = .ok (.iconst 1, 1) := by decide +kernel
theorem dc_R_undo_9 : decode cd_R_undo 9 = .ok (.goto 4, 3) := by decide +kernel
theorem dc_R_undo_12 : decode cd_R_undo 12 = .ok (.iconst 0, 1) := by decide +kernel
theorem dc_R_undo_13 : decode cd_R_undo 13 = .ok (.putfield 46, 3) := by decide +kernel
theorem dc_R_undo_16 : decode cd_R_undo 16 = .ok (.aload_n 0, 1) := by decide +kernel
theorem dc_R_undo_17 : decode cd_R_undo 17 = .ok (.getfield 46, 3) := by decide +kernel
theorem dc_R_undo_20 : decode cd_R_undo 20 = .ok (.ifCond .le 5, 3) := by decide +kernel
theorem dc_R_undo_23 : decode cd_R_undo 23 = .ok (.iconst 0, 1) := by decide +kernel
theorem dc_R_undo_24 : decode cd_R_undo 24 = .ok (.ireturn, 1) := by decide +kernel
theorem dc_R_undo_25 : decode cd_R_undo 25 = .ok (.aload_n 0, 1) := by decide +kernel
theorem dc_R_undo_26 : decode cd_R_undo 26 = .ok (.dup, 1) := by decide +kernel
theorem dc_R_undo_27 : decode cd_R_undo 27 = .ok (.getfield 68, 3) := by decide +kernel
theorem dc_R_undo_30 : decode cd_R_undo 30 = .ok (.iconst 1, 1) := by decide +kernel
theorem dc_R_undo_31 : decode cd_R_undo 31 = .ok (.isub, 1) := by decide +kernel
theorem dc_R_undo_32 : decode cd_R_undo 32 = .ok (.putfield 68, 3) := by decide +kernel
theorem dc_R_undo_35 : decode cd_R_undo 35 = .ok (.aload_n 0, 1) := by decide +kernel
theorem dc_R_undo_36 : decode cd_R_undo 36 = .ok (.aload_n 0, 1) := by decide +kernel
end
section
theorem dc_R_undo_37 : decode cd_R_undo 37 = .ok (.getfield 53, 3) := by decide +kernel
theorem dc_R_undo_40 : decode cd_R_undo 40 = .ok (.iconst 1, 1) := by decide +kernel
theorem dc_R_undo_41 : decode cd_R_undo 41 = .ok (.aload_n 0, 1) := by decide +kernel
theorem dc_R_undo_42 : decode cd_R_undo 42 = .ok (.getfield 22, 3) := by decide +kernel
theorem dc_R_undo_45 : decode cd_R_undo 45 = .ok (.aload_n 0, 1) := by decide +kernel
theorem dc_R_undo_46 : decode cd_R_undo 46 = .ok (.getfield 68, 3) := by decide +kernel
theorem dc_R_undo_49 : decode cd_R_undo 49 = .ok (.iaload, 1) := by decide +kernel
theorem dc_R_undo_50 : decode cd_R_undo 50 = .ok (.ishl, 1) := by decide +kernel
theorem dc_R_undo_51 : decode cd_R_undo 51 = .ok (.ior, 1) := by decide +kernel
theorem dc_R_undo_52 : decode cd_R_undo 52 = .ok (.putfield 53, 3) := by decide +kernel
theorem dc_R_undo_55 : decode cd_R_undo 55 = .ok (.aload_n 0, 1) := by decide +kernel
theorem dc_R_undo_56 : decode cd_R_undo 56 = .ok (.aload_n 0, 1) := by decide +kernel
theorem dc_R_undo_57 : decode cd_R_undo 57 = .ok (.getfield 25, 3) := by decide +kernel
theorem dc_R_undo_60 : decode cd_R_undo 60 = .ok (.aload_n 0, 1) := by decide +kernel
theorem dc_R_undo_61 : decode cd_R_undo 61 = .ok (.getfield 68, 3) := by decide +kernel
theorem dc_R_undo_64 : decode cd_R_undo 64 = .ok (.iaload, 1) := by decide +kernel
theorem dc_R_undo_65 : decode cd_R_undo 65 = .ok (.putfield 71, 3) := by decide +kernel
theorem dc_R_undo_68 : decode cd_R_undo 68 = .ok (.aload_n 0, 1) := by decide +kernel
theorem dc_R_undo_69 : decode cd_R_undo 69 = .ok (.getfield 19, 3) := by decide +kernel
theorem dc_R_undo_72 : decode cd_R_undo 72 = .ok (.iconst 0, 1) := by decide +kernel
theorem dc_R_undo_73 : decode cd_R_undo 73 = .ok (.aload_n 0, 1) := by decide +kernel
theorem dc_R_undo_74 : decode cd_R_undo 74 = .ok (.getfield 28, 3) := by decide +kernel
theorem dc_R_undo_77 : decode cd_R_undo 77 = .ok (.aload_n 0, 1) := by decide +kernel
theorem dc_R_undo_78 : decode cd_R_undo 78 = .ok (.getfield 68, 3) := by decide +kernel
theorem dc_R_undo_81 : decode cd_R_undo 81 = .ok (.iaload, 1) := by decide +kernel
theorem dc_R_undo_82 : decode cd_R_undo 82 = .ok (.iastore, 1) := by decide +kernel
theorem dc_R_undo_83 : decode cd_R_undo 83 = .ok (.aload_n 0, 1) := by decide +kernel
theorem dc_R_undo_84 : decode cd_R_undo 84 = .ok (.getfield 19, 3) := by decide +kernel
theorem dc_R_undo_87 : decode cd_R_undo 87 = .ok (.iconst 1, 1) := by decide +kernel
theorem dc_R_undo_88 : decode cd_R_undo 88 = .ok (.aload_n 0, 1) := by decide +kernel
theorem dc_R_undo_89 : decode cd_R_undo 89 = .ok (.getfield 31, 3) := by decide +kernel
theorem dc_R_undo_92 : decode cd_R_undo 92 = .ok (.aload_n 0, 1) := by decide +kernel
theorem dc_R_undo_93 : decode cd_R_undo 93 = .ok (.getfield 68, 3) := by decide +kernel
theorem dc_R_undo_96 : decode cd_R_undo 96 = .ok (.iaload, 1) := by decide +kernel
theorem dc_R_undo_97 : decode cd_R_undo 97 = .ok (.iastore, 1) := by decide +kernel
theorem dc_R_undo_98 : decode cd_R_undo 98 = .ok (.aload_n 0, 1) := by decide +kernel
theorem dc_R_undo_99 : decode cd_R_undo 99 = .ok (.getfield 22, 3) := by decide +kernel
theorem dc_R_undo_102 : decode cd_R_undo 102 = .ok (.aload_n 0, 1) := by decide +kernel
theorem dc_R_undo_103 : decode cd_R_undo 103 = .ok (.getfield 68, 3) := by decide +kernel
theorem dc_R_undo_106 : decode cd_R_undo 106 = .ok (.iaload, 1) := by decide +kernel
theorem dc_R_undo_107 : decode cd_R_undo 107 = .ok (.ireturn, 1) := by decide +kernel
theorem dc_R_play_0 : decode cd_R_play 0 = .ok (.aload_n 0, 1) := by decide +kernel
theorem dc_R_play_1 : decode cd_R_play 1 = .ok (.invokevirtual 94, 3) := by decide +kernel
theorem dc_R_play_4 : decode cd_R_play 4 = .ok (.ifCond .ne 5, 3) := by decide +kernel
theorem dc_R_play_7 : decode cd_R_play 7 = .ok (.iconst 0, 1) := by decide +kernel
theorem dc_R_play_8 : decode cd_R_play 8 = .ok (.ireturn, 1) := by decide +kernel
theorem dc_R_play_9 : decode cd_R_play 9 = .ok (.aload_n 0, 1) := by decide +kernel
theorem dc_R_play_10 : decode cd_R_play 10 = .ok (.getfield 71, 3) := by decide +kernel
theorem dc_R_play_13 : decode cd_R_play 13 = .ok (.istore_n 1, 1) := by decide +kernel
theorem dc_R_play_14 : decode cd_R_play 14 = .ok (.iconst 0, 1) := by decide +kernel
theorem dc_R_play_15 : decode cd_R_play 15 = .ok (.istore_n 2, 1) := by decide +kernel
theorem dc_R_play_16 : decode cd_R_play 16 = .ok (.aload_n 0, 1) := by decide +kernel
theorem dc_R_play_17 : decode cd_R_play 17 = .ok (.getfield 53, 3) := by decide +kernel
theorem dc_R_play_20 : decode cd_R_play 20 = .ok (.ifCond .eq 47, 3) := by decide +kernel
theorem dc_R_play_23 : decode cd_R_play 23 = .ok (.aload_n 0, 1) := by decide +kernel
theorem dc_R_play_24 : decode cd_R_play 24 = .ok (.getfield 71, 3) := by decide +kernel
theorem dc_R_play_27 : decode cd_R_play 27 = .ok (.iload_n 1, 1) := by decide +kernel
theorem dc_R_play_28 : decode cd_R_play 28 = .ok (.if_icmp .ne 39, 3) := by decide +kernel
theorem dc_R_play_31 : decode cd_R_play 31 = .ok (.aload_n 0, 1) := by decide +kernel
theorem dc_R_play_32 : decode cd_R_play 32 = .ok (.invokevirtual 98, 3) := by decide +kernel
theorem dc_R_play_35 : decode cd_R_play 35 = .ok (.istore_n 3, 1) := by decide +kernel
theorem dc_R_play_36 : decode cd_R_play 36 = .ok (.iconst 0, 1) := by decide +kernel
theorem dc_R_play_37 : decode cd_R_play 37 = .ok (.istore 4, 2) := by decide +kernel
theorem dc_R_play_39 : decode cd_R_play 39 = .ok (.iload_n 3, 1) := by decide +kernel
theorem dc_R_play_40 : decode cd_R_play 40 = .ok (.iload 4, 2) := by decide +kernel
theorem dc_R_play_42 : decode cd_R_play 42 = .ok (.ishr, 1) := by decide +kernel
theorem dc_R_play_43 : decode cd_R_play 43 = .ok (.iconst 1, 1) := by decide +kernel
theorem dc_R_play_44 : decode cd_R_play 44 = .ok (.iand, 1) := by decide +kernel
theorem dc_R_play_45 : decode cd_R_play 45 = .ok (.ifCond .ne 9, 3) := by decide +kernel
theorem dc_R_play_48 : decode cd_R_play 48 = .ok (.iinc 4 1, 3) := by decide +kernel
theorem dc_R_play_51 : decode cd_R_play 51 = .ok (.goto (-12), 3) := by decide +kernel
theorem dc_R_play_54 : decode cd_R_play 54 = .ok (.aload_n 0, 1) := by decide +kernel
theorem dc_R_play_55 : decode cd_R_play 55 = .ok (.iload 4, 2) := by decide +kernel
theorem dc_R_play_57 : decode cd_R_play 57 = .ok (.invokevirtual 102, 3) := by decide +kernel
theorem dc_R_play_60 : decode cd_R_play 60 = .ok (.pop, 1) := by decide +kernel
theorem dc_R_play_61 : decode cd_R_play 61 = .ok (.iinc 2 1, 3) := by decide +kernel
theorem dc_R_play_64 : decode cd_R_play 64 = .ok (.goto (-48), 3) := by decide +kernel
theorem dc_R_play_67 : decode cd_R_play 67 = .ok (.iload_n 2, 1) := by decide +kernel
theorem dc_R_play_68 : decode cd_R_play 68 = .ok (.ireturn, 1) := by decide +kernel
theorem dc_R_turn_0 : decode cd_R_turn 0 = .ok (.aload_n 0, 1) := by decide +kernel
theorem dc_R_turn_1 : decode cd_R_turn 1 = .ok (.iconst 0, 1) := by decide +kernel
theorem dc_R_turn_2 : decode cd_R_turn 2 = .ok (.putfield 46, 3) := by decide +kernel
theorem dc_R_turn_5 : decode cd_R_turn 5 = .ok (.aload_n 0, 1) := by decide +kernel
theorem dc_R_turn_6 : decode cd_R_turn 6 = .ok (.getfield 71, 3) := by decide +kernel
theorem dc_R_turn_9 : decode cd_R_turn 9 = .ok (.ireturn, 1) := by decide +kernel
theorem dc_R_taken_0 : decode cd_R_taken 0 = .ok (.aload_n 0, 1) := by decide +kernel
theorem dc_R_taken_1 : decode cd_R_taken 1 = .ok (.iload_n 1, 1) := by decide +kernel
theorem dc_R_taken_2 : decode cd_R_taken 2 = .ok (.ifCond .eq 8, 3) := by decide +kernel
theorem dc_R_taken_5 : decode cd_R_taken 5 = .ok (.iload_n 1, 1) := by decide +kernel
theorem dc_R_taken_6 : decode cd_R_taken 6 = .ok (.iconst 1, 1) := by decide +kernel
theorem dc_R_taken_7 : decode cd_R_taken 7 = .ok (.if_icmp .ne 7, 3) := by decide +kernel
theorem dc_R_taken_10 : decode cd_R_taken 10 = .ok (.iconst 0, 1) := by decide +kernel
theorem dc_R_taken_11 : decode cd_R_taken 11 = .ok (.goto 4, 3) := by decide +kernel
theorem dc_R_taken_14 : decode cd_R_taken 14 = .ok (.iconst 1, 1) := by decide +kernel
theorem dc_R_taken_15 : decode cd_R_taken 15 = .ok (.putfield 46, 3) := by decide +kernel
theorem dc_R_taken_18 : decode cd_R_taken 18 = .ok (.aload_n 0, 1) := by decide +kernel
theorem dc_R_taken_19 : decode cd_R_taken 19 = .ok (.getfield 46, 3) := by decide +kernel
theorem dc_R_taken_22 : decode cd_R_taken 22 = .ok (.ifCond .le 7, 3) := by decide +kernel
theorem dc_R_taken_25 : decode cd_R_taken 25 = .ok (.iconst 0, 1) := by decide +kernel
theorem dc_R_taken_26 : decode cd_R_taken 26 = .ok (.goto 9, 3) := by decide +kernel
theorem dc_R_taken_29 : decode cd_R_taken 29 = .ok (.aload_n 0, 1) := by decide +kernel
theorem dc_R_taken_30 : decode cd_R_taken 30 = .ok (.getfield 19, 3) := by decide +kernel
theorem dc_R_taken_33 : decode cd_R_taken 33 = .ok (.iload_n 1, 1) := by decide +kernel
theorem dc_R_taken_34 : decode cd_R_taken 34 = .ok (.iaload, 1) := by decide +kernel
theorem dc_R_taken_35 : decode cd_R_taken 35 = .ok (.ireturn, 1) := by decide +kernel
theorem dc_R_left_0 : decode cd_R_left 0 = .ok (.aload_n 0, 1) := by decide +kernel
theorem dc_R_left_1 : decode cd_R_left 1 = .ok (.iconst 0, 1) := by decide +kernel
theorem dc_R_left_2 : decode cd_R_left 2 = .ok (.putfield 46, 3) := by decide +kernel
theorem dc_R_left_5 : decode cd_R_left 5 = .ok (.aload_n 0, 1) := by decide +kernel
theorem dc_R_left_6 : decode cd_R_left 6 = .ok (.getfield 53, 3) := by decide +kernel
theorem dc_R_left_9 : decode cd_R_left 9 = .ok (.ireturn, 1) := by decide +kernel
theorem dc_R_strings_0 : decode cd_R_strings 0 = .ok (.aload_n 0, 1) := by decide +kernel
theorem dc_R_strings_1 : decode cd_R_strings 1 = .ok (.iload_n 1, 1) := by decide +kernel
theorem dc_R_strings_2 : decode cd_R_strings 2 = .ok (.invokestatic 56, 3) := by decide +kernel
theorem dc_R_strings_5 : decode cd_R_strings 5 = .ok (.ifCond .eq 7, 3) := by decide +kernel
theorem dc_R_strings_8 : decode cd_R_strings 8 = .ok (.iconst 0, 1) := by decide +kernel
theorem dc_R_strings_9 : decode cd_R_strings 9 = .ok (.goto 4, 3) := by decide +kernel
theorem dc_R_strings_12 : decode cd_R_strings 12 = .ok (.iconst 1, 1) := by decide +kernel
theorem dc_R_strings_13 : decode cd_R_strings 13 = .ok (.putfield 46, 3) := by decide +kernel
theorem dc_R_strings_16 : decode cd_R_strings 16 = .ok (.aload_n 0, 1) := by decide +kernel
theorem dc_R_strings_17 : decode cd_R_strings 17 = .ok (.getfield 46, 3) := by decide +kernel
theorem dc_R_strings_20 : decode cd_R_strings 20 = .ok (.ifCond .le 7, 3) := by decide +kernel
theorem dc_R_strings_23 : decode cd_R_strings 23 = .ok (.iconst 0, 1) := by decide +kernel
theorem dc_R_strings_24 : decode cd_R_strings 24 = .ok (.goto 12, 3) := by decide +kernel
theorem dc_R_strings_27 : decode cd_R_strings 27 = .ok (.aload_n 0, 1) := by decide +kernel
theorem dc_R_strings_28 : decode cd_R_strings 28 = .ok (.iload_n 1, 1) := by decide +kernel
theorem dc_R_strings_29 : decode cd_R_strings 29 = .ok (.aload_n 0, 1) := by decide +kernel
theorem dc_R_strings_30 : decode cd_R_strings 30 = .ok (.getfield 53, 3) := by decide +kernel
theorem dc_R_strings_33 : decode cd_R_strings 33 = .ok (.invokevirtual 105, 3) := by decide +kernel
theorem dc_R_strings_36 : decode cd_R_strings 36 = .ok (.ireturn, 1) := by decide +kernel
theorem dc_R_belong_0 : decode cd_R_belong 0 = .ok (.iconst 0, 1) := by decide +kernel
theorem dc_R_belong_1 : decode cd_R_belong 1 = .ok (.istore_n 3, 1) := by decide +kernel
theorem dc_R_belong_2 : decode cd_R_belong 2 = .ok (.iconst 0, 1) := by decide +kernel
theorem dc_R_belong_3 : decode cd_R_belong 3 = .ok (.istore 4, 2) := by decide +kernel
theorem dc_R_belong_5 : decode cd_R_belong 5 = .ok (.iload 4, 2) := by decide +kernel
theorem dc_R_belong_7 : decode cd_R_belong 7 = .ok (.aload_n 0, 1) := by decide +kernel
theorem dc_R_belong_8 : decode cd_R_belong 8 = .ok (.getfield 50, 3) := by decide +kernel
theorem dc_R_belong_11 : decode cd_R_belong 11 = .ok (.if_icmp .ge 28, 3) := by decide +kernel
theorem dc_R_belong_14 : decode cd_R_belong 14 = .ok (.iload_n 3, 1) := by decide +kernel
theorem dc_R_belong_15 : decode cd_R_belong 15 = .ok (.aload_n 0, 1) := by decide +kernel
theorem dc_R_belong_16 : decode cd_R_belong 16 = .ok (.getfield 16, 3) := by decide +kernel
theorem dc_R_belong_19 : decode cd_R_belong 19 = .ok (.iload_n 1, 1) := by decide +kernel
theorem dc_R_belong_20 : decode cd_R_belong 20 = .ok (.iaload, 1) := by decide +kernel
theorem dc_R_belong_21 : decode cd_R_belong 21 = .ok (.iload 4, 2) := by decide +kernel
theorem dc_R_belong_23 : decode cd_R_belong 23 = .ok (.ishr, 1) := by decide +kernel
theorem dc_R_belong_24 : decode cd_R_belong 24 = .ok (.iload_n 2, 1) := by decide +kernel
theorem dc_R_belong_25 : decode cd_R_belong 25 = .ok (.iload 4, 2) := by decide +kernel
theorem dc_R_belong_27 : decode cd_R_belong 27 = .ok (.ishr, 1) := by decide +kernel
theorem dc_R_belong_28 : decode cd_R_belong 28 = .ok (.iand, 1) := by decide +kernel
theorem dc_R_belong_29 : decode cd_R_belong 29 = .ok (.iconst 1, 1) := by decide +kernel
theorem dc_R_belong_30 : decode cd_R_belong 30 = .ok (.iand, 1) := by decide +kernel
theorem dc_R_belong_31 : decode cd_R_belong 31 = .ok (.iadd, 1) := by decide +kernel
theorem dc_R_belong_32 : decode cd_R_belong 32 = .ok (.istore_n 3, 1) := by decide +kernel
theorem dc_R_belong_33 : decode cd_R_belong 33 = .ok (.iinc 4 1, 3) := by decide +kernel
theorem dc_R_belong_36 : decode cd_R_belong 36 = .ok (.goto (-31), 3) := by decide +kernel
theorem dc_R_belong_39 : decode cd_R_belong 39 = .ok (.iload_n 3, 1) := by decide +kernel
theorem dc_R_belong_40 : decode cd_R_belong 40 = .ok (.ireturn, 1) := by decide +kernel
theorem dc_R_groups_0 : decode cd_R_groups 0 = .ok (.aload_n 0, 1) := by decide +kernel
theorem dc_R_groups_1 : decode cd_R_groups 1 = .ok (.iconst 0, 1) := by decide +kernel
theorem dc_R_groups_2 : decode cd_R_groups 2 = .ok (.putfield 46, 3) := by decide +kernel
theorem dc_R_groups_5 : decode cd_R_groups 5 = .ok (.aload_n 0, 1) := by decide +kernel
theorem dc_R_groups_6 : decode cd_R_groups 6 = .ok (.invokevirtual 118, 3) := by decide +kernel
theorem dc_R_groups_9 : decode cd_R_groups 9 = .ok (.aload_n 0, 1) := by decide +kernel
theorem dc_R_groups_10 : decode cd_R_groups 10 = .ok (.getfield 108, 3) := by decide +kernel
theorem dc_R_groups_13 : decode cd_R_groups 13 = .ok (.ireturn, 1) := by decide +kernel
theorem dc_R_part_0 : decode cd_R_part 0 = .ok (.aload_n 0, 1) := by decide +kernel
theorem dc_R_part_1 : decode cd_R_part 1 = .ok (.iconst 0, 1) := by decide +kernel
theorem dc_R_part_2 : decode cd_R_part 2 = .ok (.putfield 108, 3) := by decide +kernel
theorem dc_R_part_5 : decode cd_R_part 5 = .ok (.iconst 0, 1) := by decide +kernel
theorem dc_R_part_6 : decode cd_R_part 6 = .ok (.istore_n 1, 1) := by decide +kernel
theorem dc_R_part_7 : decode cd_R_part 7 = .ok (.iload_n 1, 1) := by decide +kernel
theorem dc_R_part_8 : decode cd_R_part 8 = .ok (.bipush 8, 2) := by decide +kernel
theorem dc_R_part_10 : decode cd_R_part 10 = .ok (.if_icmp .ge 16, 3) := by decide +kernel
theorem dc_R_part_13 : decode cd_R_part 13 = .ok (.aload_n 0, 1) := by decide +kernel
theorem dc_R_part_14 : decode cd_R_part 14 = .ok (.getfield 40, 3) := by decide +kernel
theorem dc_R_part_17 : decode cd_R_part 17 = .ok (.iload_n 1, 1) := by decide +kernel
theorem dc_R_part_18 : decode cd_R_part 18 = .ok (.iconst (-1), 1) := by decide +kernel
theorem dc_R_part_19 : decode cd_R_part 19 = .ok (.iastore, 1) := by decide +kernel
theorem dc_R_part_20 : decode cd_R_part 20 = .ok (.iinc 1 1, 3) := by decide +kernel
theorem dc_R_part_23 : decode cd_R_part 23 = .ok (.goto (-16), 3) := by decide +kernel
theorem dc_R_part_26 : decode cd_R_part 26 = .ok (.iconst 0, 1) := by decide +kernel
theorem dc_R_part_27 : decode cd_R_part 27 = .ok (.istore_n 1, 1) := by decide +kernel
theorem dc_R_part_28 : decode cd_R_part 28 = .ok (.iload_n 1, 1) := by decide +kernel
theorem dc_R_part_29 : decode cd_R_part 29 = .ok (.bipush 8, 2) := by decide +kernel
theorem dc_R_part_31 : decode cd_R_part 31 = .ok (.if_icmp .ge 55, 3) := by decide +kernel
theorem dc_R_part_34 : decode cd_R_part 34 = .ok (.aload_n 0, 1) := by decide +kernel
theorem dc_R_part_35 : decode cd_R_part 35 = .ok (.getfield 40, 3) := by decide +kernel
theorem dc_R_part_38 : decode cd_R_part 38 = .ok (.iload_n 1, 1) := by decide +kernel
theorem dc_R_part_39 : decode cd_R_part 39 = .ok (.iaload, 1) := by decide +kernel
theorem dc_R_part_40 : decode cd_R_part 40 = .ok (.ifCond .ge 40, 3) := by decide +kernel
theorem dc_R_part_43 : decode cd_R_part 43 = .ok (.aload_n 0, 1) := by decide +kernel
theorem dc_R_part_44 : decode cd_R_part 44 = .ok (.iload_n 1, 1) := by decide +kernel
theorem dc_R_part_45 : decode cd_R_part 45 = .ok (.aload_n 0, 1) := by decide +kernel
theorem dc_R_part_46 : decode cd_R_part 46 = .ok (.getfield 53, 3) := by decide +kernel
theorem dc_R_part_49 : decode cd_R_part 49 = .ok (.invokevirtual 105, 3) := by decide +kernel
theorem dc_R_part_52 : decode cd_R_part 52 = .ok (.iconst 2, 1) := by decide +kernel
theorem dc_R_part_53 : decode cd_R_part 53 = .ok (.if_icmp .ne 27, 3) := by decide +kernel
theorem dc_R_part_56 : decode cd_R_part 56 = .ok (.aload_n 0, 1) := by decide +kernel
theorem dc_R_part_57 : decode cd_R_part 57 = .ok (.getfield 40, 3) := by decide +kernel
theorem dc_R_part_60 : decode cd_R_part 60 = .ok (.iload_n 1, 1) := by decide +kernel
theorem dc_R_part_61 : decode cd_R_part 61 = .ok (.aload_n 0, 1) := by decide +kernel
theorem dc_R_part_62 : decode cd_R_part 62 = .ok (.getfield 108, 3) := by decide +kernel
theorem dc_R_part_65 : decode cd_R_part 65 = .ok (.iastore, 1) := by decide +kernel
theorem dc_R_part_66 : decode cd_R_part 66 = .ok (.aload_n 0, 1) := by decide +kernel
theorem dc_R_part_67 : decode cd_R_part 67 = .ok (.invokevirtual 111, 3) := by decide +kernel
theorem dc_R_part_70 : decode cd_R_part 70 = .ok (.aload_n 0, 1) := by decide +kernel
theorem dc_R_part_71 : decode cd_R_part 71 = .ok (.dup, 1) := by decide +kernel
theorem dc_R_part_72 : decode cd_R_part 72 = .ok (.getfield 108, 3) := by decide +kernel
theorem dc_R_part_75 : decode cd_R_part 75 = .ok (.iconst 1, 1) := by decide +kernel
theorem dc_R_part_76 : decode cd_R_part 76 = .ok (.iadd, 1) := by decide +kernel
theorem dc_R_part_77 : decode cd_R_part 77 = .ok (.putfield 108, 3) := by decide +kernel
theorem dc_R_part_80 : decode cd_R_part 80 = .ok (.iinc 1 1, 3) := by decide +kernel
theorem dc_R_part_83 : decode cd_R_part 83 = .ok (.goto (-55), 3) := by decide +kernel
theorem dc_R_part_86 : decode cd_R_part 86 = .ok (.return_, 1) := by decide +kernel
theorem dc_R_spread_0 : decode cd_R_spread 0 = .ok (.iconst 1, 1) := by decide +kernel
theorem dc_R_spread_1 : decode cd_R_spread 1 = .ok (.istore_n 1, 1) := by decide +kernel
theorem dc_R_spread_2 : decode cd_R_spread 2 = .ok (.iload_n 1, 1) := by decide +kernel
theorem dc_R_spread_3 : decode cd_R_spread 3 = .ok (.ifCond .eq 92, 3) := by decide +kernel
theorem dc_R_spread_6 : decode cd_R_spread 6 = .ok (.iconst 0, 1) := by decide +kernel
theorem dc_R_spread_7 : decode cd_R_spread 7 = .ok (.istore_n 1, 1) := by decide +kernel
theorem dc_R_spread_8 : decode cd_R_spread 8 = .ok (.iconst 0, 1) := by decide +kernel
theorem dc_R_spread_9 : decode cd_R_spread 9 = .ok (.istore_n 2, 1) := by decide +kernel
theorem dc_R_spread_10 : decode cd_R_spread 10 = .ok (.iload_n 2, 1) := by decide +kernel
theorem dc_R_spread_11 : decode cd_R_spread 11 = .ok (.bipush 8, 2) := by decide +kernel
theorem dc_R_spread_13 : decode cd_R_spread 13 = .ok (.if_icmp .ge 79, 3) := by decide +kernel
theorem dc_R_spread_16 : decode cd_R_spread 16 = .ok (.iconst 0, 1) := by decide +kernel
theorem dc_R_spread_17 : decode cd_R_spread 17 = .ok (.istore_n 3, 1) := by decide +kernel
theorem dc_R_spread_18 : decode cd_R_spread 18 = .ok (.iload_n 3, 1) := by decide +kernel
theorem dc_R_spread_19 : decode cd_R_spread 19 = .ok (.bipush 8, 2) := by decide +kernel
theorem dc_R_spread_21 : decode cd_R_spread 21 = .ok (.if_icmp .ge 65, 3) := by decide +kernel
theorem dc_R_spread_24 : decode cd_R_spread 24 = .ok (.aload_n 0, 1) := by decide +kernel
theorem dc_R_spread_25 : decode cd_R_spread 25 = .ok (.getfield 40, 3) := by decide +kernel
theorem dc_R_spread_28 : decode cd_R_spread 28 = .ok (.iload_n 2, 1) := by decide +kernel
theorem dc_R_spread_29 : decode cd_R_spread 29 = .ok (.iaload, 1) := by decide +kernel
theorem dc_R_spread_30 : decode cd_R_spread 30 = .ok (.ifCond .ge 56, 3) := by decide +kernel
theorem dc_R_spread_33 : decode cd_R_spread 33 = .ok (.aload_n 0, 1) := by decide +kernel
theorem dc_R_spread_34 : decode cd_R_spread 34 = .ok (.getfield 40, 3) := by decide +kernel
theorem dc_R_spread_37 : decode cd_R_spread 37 = .ok (.iload_n 3, 1) := by decide +kernel
theorem dc_R_spread_38 : decode cd_R_spread 38 = .ok (.iaload, 1) := by decide +kernel
theorem dc_R_spread_39 : decode cd_R_spread 39 = .ok (.aload_n 0, 1) := by decide +kernel
theorem dc_R_spread_40 : decode cd_R_spread 40 = .ok (.getfield 108, 3) := by decide +kernel
theorem dc_R_spread_43 : decode cd_R_spread 43 = .ok (.if_icmp .ne 37, 3) := by decide +kernel
theorem dc_R_spread_46 : decode cd_R_spread 46 = .ok (.aload_n 0, 1) := by decide +kernel
theorem dc_R_spread_47 : decode cd_R_spread 47 = .ok (.iload_n 2, 1) := by decide +kernel
theorem dc_R_spread_48 : decode cd_R_spread 48 = .ok (.aload_n 0, 1) := by decide +kernel
theorem dc_R_spread_49 : decode cd_R_spread 49 = .ok (.getfield 53, 3) := by decide +kernel
theorem dc_R_spread_52 : decode cd_R_spread 52 = .ok (.invokevirtual 105, 3) := by decide +kernel
theorem dc_R_spread_55 : decode cd_R_spread 55 = .ok (.iconst 2, 1) := by decide +kernel
theorem dc_R_spread_56 : decode cd_R_spread 56 = .ok (.if_icmp .ne 24, 3) := by decide +kernel
theorem dc_R_spread_59 : decode cd_R_spread 59 = .ok (.aload_n 0, 1) := by decide +kernel
theorem dc_R_spread_60 : decode cd_R_spread 60 = .ok (.iload_n 2, 1) := by decide +kernel
theorem dc_R_spread_61 : decode cd_R_spread 61 = .ok (.iload_n 3, 1) := by decide +kernel
theorem dc_R_spread_62 : decode cd_R_spread 62 = .ok (.invokevirtual 114, 3) := by decide +kernel
theorem dc_R_spread_65 : decode cd_R_spread 65 = .ok (.ifCond .eq 15, 3) := by decide +kernel
theorem dc_R_spread_68 : decode cd_R_spread 68 = .ok (.aload_n 0, 1) := by decide +kernel
theorem dc_R_spread_69 : decode cd_R_spread 69 = .ok (.getfield 40, 3) := by decide +kernel
theorem dc_R_spread_72 : decode cd_R_spread 72 = .ok (.iload_n 2, 1) := by decide +kernel
theorem dc_R_spread_73 : decode cd_R_spread 73 = .ok (.aload_n 0, 1) := by decide +kernel
theorem dc_R_spread_74 : decode cd_R_spread 74 = .ok (.getfield 108, 3) := by decide +kernel
theorem dc_R_spread_77 : decode cd_R_spread 77 = .ok (.iastore, 1) := by decide +kernel
theorem dc_R_spread_78 : decode cd_R_spread 78 = .ok (.iconst 1, 1) := by decide +kernel
theorem dc_R_spread_79 : decode cd_R_spread 79 = .ok (.istore_n 1, 1) := by decide +kernel
theorem dc_R_spread_80 : decode cd_R_spread 80 = .ok (.iinc 3 1, 3) := by decide +kernel
theorem dc_R_spread_83 : decode cd_R_spread 83 = .ok (.goto (-65), 3) := by decide +kernel
theorem dc_R_spread_86 : decode cd_R_spread 86 = .ok (.iinc 2 1, 3) := by decide +kernel
theorem dc_R_spread_89 : decode cd_R_spread 89 = .ok (.goto (-79), 3) := by decide +kernel
theorem dc_R_spread_92 : decode cd_R_spread 92 = .ok (.goto (-90), 3) := by decide +kernel
theorem dc_R_spread_95 : decode cd_R_spread 95 = .ok (.return_, 1) := by decide +kernel
theorem dc_R_joined_0 : decode cd_R_joined 0 = .ok (.iconst 0, 1) := by decide +kernel
theorem dc_R_joined_1 : decode cd_R_joined 1 = .ok (.istore_n 3, 1) := by decide +kernel
theorem dc_R_joined_2 : decode cd_R_joined 2 = .ok (.iconst 0, 1) := by decide +kernel
theorem dc_R_joined_3 : decode cd_R_joined 3 = .ok (.istore 4, 2) := by decide +kernel
theorem dc_R_joined_5 : decode cd_R_joined 5 = .ok (.iload 4, 2) := by decide +kernel
theorem dc_R_joined_7 : decode cd_R_joined 7 = .ok (.aload_n 0, 1) := by decide +kernel
theorem dc_R_joined_8 : decode cd_R_joined 8 = .ok (.getfield 50, 3) := by decide +kernel
theorem dc_R_joined_11 : decode cd_R_joined 11 = .ok (.if_icmp .ge 76, 3) := by decide +kernel
theorem dc_R_joined_14 : decode cd_R_joined 14 = .ok (.iload_n 3, 1) := by decide +kernel
theorem dc_R_joined_15 : decode cd_R_joined 15 = .ok (.ifCond .ne 60, 3) := by decide +kernel
theorem dc_R_joined_18 : decode cd_R_joined 18 = .ok (.aload_n 0, 1) := by decide +kernel
theorem dc_R_joined_19 : decode cd_R_joined 19 = .ok (.getfield 53, 3) := by decide +kernel
theorem dc_R_joined_22 : decode cd_R_joined 22 = .ok (.iload 4, 2) := by decide +kernel
theorem dc_R_joined_24 : decode cd_R_joined 24 = .ok (.ishr, 1) := by decide +kernel
theorem dc_R_joined_25 : decode cd_R_joined 25 = .ok (.iconst 1, 1) := by decide +kernel
theorem dc_R_joined_26 : decode cd_R_joined 26 = .ok (.iand, 1) := by decide +kernel
theorem dc_R_joined_27 : decode cd_R_joined 27 = .ok (.iconst 1, 1) := by decide +kernel
theorem dc_R_joined_28 : decode cd_R_joined 28 = .ok (.if_icmp .ne 51, 3) := by decide +kernel
theorem dc_R_joined_31 : decode cd_R_joined 31 = .ok (.aload_n 0, 1) := by decide +kernel
theorem dc_R_joined_32 : decode cd_R_joined 32 = .ok (.getfield 7, 3) := by decide +kernel
theorem dc_R_joined_35 : decode cd_R_joined 35 = .ok (.iload 4, 2) := by decide +kernel
theorem dc_R_joined_37 : decode cd_R_joined 37 = .ok (.iaload, 1) := by decide +kernel
theorem dc_R_joined_38 : decode cd_R_joined 38 = .ok (.iload_n 1, 1) := by decide +kernel
theorem dc_R_joined_39 : decode cd_R_joined 39 = .ok (.if_icmp .ne 14, 3) := by decide +kernel
theorem dc_R_joined_42 : decode cd_R_joined 42 = .ok (.aload_n 0, 1) := by decide +kernel
theorem dc_R_joined_43 : decode cd_R_joined 43 = .ok (.getfield 13, 3) := by decide +kernel
theorem dc_R_joined_46 : decode cd_R_joined 46 = .ok (.iload 4, 2) := by decide +kernel
theorem dc_R_joined_48 : decode cd_R_joined 48 = .ok (.iaload, 1) := by decide +kernel
theorem dc_R_joined_49 : decode cd_R_joined 49 = .ok (.iload_n 2, 1) := by decide +kernel
theorem dc_R_joined_50 : decode cd_R_joined 50 = .ok (.if_icmp .eq 25, 3) := by decide +kernel
theorem dc_R_joined_53 : decode cd_R_joined 53 = .ok (.aload_n 0, 1) := by decide +kernel
theorem dc_R_joined_54 : decode cd_R_joined 54 = .ok (.getfield 7, 3) := by decide +kernel
theorem dc_R_joined_57 : decode cd_R_joined 57 = .ok (.iload 4, 2) := by decide +kernel
theorem dc_R_joined_59 : decode cd_R_joined 59 = .ok (.iaload, 1) := by decide +kernel
theorem dc_R_joined_60 : decode cd_R_joined 60 = .ok (.iload_n 2, 1) := by decide +kernel
theorem dc_R_joined_61 : decode cd_R_joined 61 = .ok (.if_icmp .ne 18, 3) := by decide +kernel
theorem dc_R_joined_64 : decode cd_R_joined 64 = .ok (.aload_n 0, 1) := by decide +kernel
theorem dc_R_joined_65 : decode cd_R_joined 65 = .ok (.getfield 13, 3) := by decide +kernel
theorem dc_R_joined_68 : decode cd_R_joined 68 = .ok (.iload 4, 2) := by decide +kernel
theorem dc_R_joined_70 : decode cd_R_joined 70 = .ok (.iaload, 1) := by decide +kernel
theorem dc_R_joined_71 : decode cd_R_joined 71 = .ok (.iload_n 1, 1) := by decide +kernel
theorem dc_R_joined_72 : decode cd_R_joined 72 = .ok (.if_icmp .ne 7, 3) := by decide +kernel
theorem dc_R_joined_75 : decode cd_R_joined 75 = .ok (.iconst 1, 1) := by decide +kernel
theorem dc_R_joined_76 : decode cd_R_joined 76 = .ok (.goto 4, 3) := by decide +kernel
theorem dc_R_joined_79 : decode cd_R_joined 79 = .ok (.iconst 0, 1) := by decide +kernel
theorem dc_R_joined_80 : decode cd_R_joined 80 = .ok (.istore_n 3, 1) := by decide +kernel
theorem dc_R_joined_81 : decode cd_R_joined 81 = .ok (.iinc 4 1, 3) := by decide +kernel
theorem dc_R_joined_84 : decode cd_R_joined 84 = .ok (.goto (-79), 3) := by decide +kernel
theorem dc_R_joined_87 : decode cd_R_joined 87 = .ok (.iload_n 3, 1) := by decide +kernel
theorem dc_R_joined_88 : decode cd_R_joined 88 = .ok (.ireturn, 1) := by decide +kernel
theorem dc_R_group_0 : decode cd_R_group 0 = .ok (.aload_n 0, 1) := by decide +kernel
theorem dc_R_group_1 : decode cd_R_group 1 = .ok (.invokevirtual 118, 3) := by decide +kernel
theorem dc_R_group_4 : decode cd_R_group 4 = .ok (.aload_n 0, 1) := by decide +kernel
theorem dc_R_group_5 : decode cd_R_group 5 = .ok (.iload_n 1, 1) := by decide +kernel
theorem dc_R_group_6 : decode cd_R_group 6 = .ok (.ifCond .lt 11, 3) := by decide +kernel
theorem dc_R_group_9 : decode cd_R_group 9 = .ok (.iload_n 1, 1) := by decide +kernel
theorem dc_R_group_10 : decode cd_R_group 10 = .ok (.aload_n 0, 1) := by decide +kernel
theorem dc_R_group_11 : decode cd_R_group 11 = .ok (.getfield 108, 3) := by decide +kernel
theorem dc_R_group_14 : decode cd_R_group 14 = .ok (.if_icmp .lt 7, 3) := by decide +kernel
theorem dc_R_group_17 : decode cd_R_group 17 = .ok (.iconst 1, 1) := by decide +kernel
theorem dc_R_group_18 : decode cd_R_group 18 = .ok (.goto 4, 3) := by decide +kernel
theorem dc_R_group_21 : decode cd_R_group 21 = .ok (.iconst 0, 1) := by decide +kernel
theorem dc_R_group_22 : decode cd_R_group 22 = .ok (.putfield 46, 3) := by decide +kernel
theorem dc_R_group_25 : decode cd_R_group 25 = .ok (.aload_n 0, 1) := by decide +kernel
theorem dc_R_group_26 : decode cd_R_group 26 = .ok (.getfield 46, 3) := by decide +kernel
theorem dc_R_group_29 : decode cd_R_group 29 = .ok (.ifCond .le 5, 3) := by decide +kernel
theorem dc_R_group_32 : decode cd_R_group 32 = .ok (.iconst 0, 1) := by decide +kernel
theorem dc_R_group_33 : decode cd_R_group 33 = .ok (.ireturn, 1) := by decide +kernel
theorem dc_R_group_34 : decode cd_R_group 34 = .ok (.iconst 0, 1) := by decide +kernel
theorem dc_R_group_35 : decode cd_R_group 35 = .ok (.istore_n 2, 1) := by decide +kernel
theorem dc_R_group_36 : decode cd_R_group 36 = .ok (.iconst 1, 1) := by decide +kernel
theorem dc_R_group_37 : decode cd_R_group 37 = .ok (.istore_n 3, 1) := by decide +kernel
theorem dc_R_group_38 : decode cd_R_group 38 = .ok (.iconst 0, 1) := by decide +kernel
theorem dc_R_group_39 : decode cd_R_group 39 = .ok (.istore 4, 2) := by decide +kernel
theorem dc_R_group_41 : decode cd_R_group 41 = .ok (.iload 4, 2) := by decide +kernel
theorem dc_R_group_43 : decode cd_R_group 43 = .ok (.bipush 8, 2) := by decide +kernel
theorem dc_R_group_45 : decode cd_R_group 45 = .ok (.if_icmp .ge 28, 3) := by decide +kernel
theorem dc_R_group_48 : decode cd_R_group 48 = .ok (.iload_n 2, 1) := by decide +kernel
theorem dc_R_group_49 : decode cd_R_group 49 = .ok (.aload_n 0, 1) := by decide +kernel
theorem dc_R_group_50 : decode cd_R_group 50 = .ok (.getfield 40, 3) := by decide +kernel
theorem dc_R_group_53 : decode cd_R_group 53 = .ok (.iload 4, 2) := by decide +kernel
theorem dc_R_group_55 : decode cd_R_group 55 = .ok (.iaload, 1) := by decide +kernel
theorem dc_R_group_56 : decode cd_R_group 56 = .ok (.iload_n 1, 1) := by decide +kernel
theorem dc_R_group_57 : decode cd_R_group 57 = .ok (.if_icmp .ne 7, 3) := by decide +kernel
theorem dc_R_group_60 : decode cd_R_group 60 = .ok (.iconst 1, 1) := by decide +kernel
theorem dc_R_group_61 : decode cd_R_group 61 = .ok (.goto 4, 3) := by decide +kernel
theorem dc_R_group_64 : decode cd_R_group 64 = .ok (.iconst 0, 1) := by decide +kernel
theorem dc_R_group_65 : decode cd_R_group 65 = .ok (.iadd, 1) := by decide +kernel
theorem dc_R_group_66 : decode cd_R_group 66 = .ok (.istore_n 2, 1) := by decide +kernel
theorem dc_R_group_67 : decode cd_R_group 67 = .ok (.iinc 4 1, 3) := by decide +kernel
theorem dc_R_group_70 : decode cd_R_group 70 = .ok (.goto (-29), 3) := by decide +kernel
theorem dc_R_group_73 : decode cd_R_group 73 = .ok (.iconst 0, 1) := by decide +kernel
theorem dc_R_group_74 : decode cd_R_group 74 = .ok (.istore 4, 2) := by decide +kernel
theorem dc_R_group_76 : decode cd_R_group 76 = .ok (.iload 4, 2) := by decide +kernel
theorem dc_R_group_78 : decode cd_R_group 78 = .ok (.aload_n 0, 1) := by decide +kernel
theorem dc_R_group_79 : decode cd_R_group 79 = .ok (.getfield 50, 3) := by decide +kernel
theorem dc_R_group_82 : decode cd_R_group 82 = .ok (.if_icmp .ge 94, 3) := by decide +kernel
theorem dc_R_group_85 : decode cd_R_group 85 = .ok (.aload_n 0, 1) := by decide +kernel
theorem dc_R_group_86 : decode cd_R_group 86 = .ok (.getfield 40, 3) := by decide +kernel
theorem dc_R_group_89 : decode cd_R_group 89 = .ok (.aload_n 0, 1) := by decide +kernel
theorem dc_R_group_90 : decode cd_R_group 90 = .ok (.getfield 7, 3) := by decide +kernel
theorem dc_R_group_93 : decode cd_R_group 93 = .ok (.iload 4, 2) := by decide +kernel
theorem dc_R_group_95 : decode cd_R_group 95 = .ok (.iaload, 1) := by decide +kernel
theorem dc_R_group_96 : decode cd_R_group 96 = .ok (.iaload, 1) := by decide +kernel
theorem dc_R_group_97 : decode cd_R_group 97 = .ok (.iload_n 1, 1) := by decide +kernel
theorem dc_R_group_98 : decode cd_R_group 98 = .ok (.if_icmp .ne 7, 3) := by decide +kernel
theorem dc_R_group_101 : decode cd_R_group 101 = .ok (.iconst 1, 1) := by decide +kernel
theorem dc_R_group_102 : decode cd_R_group 102 = .ok (.goto 4, 3) := by decide +kernel
theorem dc_R_group_105 : decode cd_R_group 105 = .ok (.iconst 0, 1) := by decide +kernel
theorem dc_R_group_106 : decode cd_R_group 106 = .ok (.istore 5, 2) := by decide +kernel
theorem dc_R_group_108 : decode cd_R_group 108 = .ok (.aload_n 0, 1) := by decide +kernel
theorem dc_R_group_109 : decode cd_R_group 109 = .ok (.getfield 13, 3) := by decide +kernel
theorem dc_R_group_112 : decode cd_R_group 112 = .ok (.iload 4, 2) := by decide +kernel
theorem dc_R_group_114 : decode cd_R_group 114 = .ok (.iaload, 1) := by decide +kernel
theorem dc_R_group_115 : decode cd_R_group 115 = .ok (.ifCond .lt 23, 3) := by decide +kernel
theorem dc_R_group_118 : decode cd_R_group 118 = .ok (.aload_n 0, 1) := by decide +kernel
theorem dc_R_group_119 : decode cd_R_group 119 = .ok (.getfield 40, 3) := by decide +kernel
theorem dc_R_group_122 : decode cd_R_group 122 = .ok (.aload_n 0, 1) := by decide +kernel
theorem dc_R_group_123 : decode cd_R_group 123 = .ok (.getfield 13, 3) := by decide +kernel
theorem dc_R_group_126 : decode cd_R_group 126 = .ok (.iload 4, 2) := by decide +kernel
theorem dc_R_group_128 : decode cd_R_group 128 = .ok (.iaload, 1) := by decide +kernel
theorem dc_R_group_129 : decode cd_R_group 129 = .ok (.iaload, 1) := by decide +kernel
theorem dc_R_group_130 : decode cd_R_group 130 = .ok (.iload_n 1, 1) := by decide +kernel
theorem dc_R_group_131 : decode cd_R_group 131 = .ok (.if_icmp .ne 7, 3) := by decide +kernel
theorem dc_R_group_134 : decode cd_R_group 134 = .ok (.iconst 1, 1) := by decide +kernel
theorem dc_R_group_135 : decode cd_R_group 135 = .ok (.goto 4, 3) := by decide +kernel
theorem dc_R_group_138 : decode cd_R_group 138 = .ok (.iconst 0, 1) := by decide +kernel
theorem dc_R_group_139 : decode cd_R_group 139 = .ok (.istore 6, 2) := by decide +kernel
theorem dc_R_group_141 : decode cd_R_group 141 = .ok (.iload_n 3, 1) := by decide +kernel
theorem dc_R_group_142 : decode cd_R_group 142 = .ok (.ifCond .eq 26, 3) := by decide +kernel
theorem dc_R_group_145 : decode cd_R_group 145 = .ok (.aload_n 0, 1) := by decide +kernel
theorem dc_R_group_146 : decode cd_R_group 146 = .ok (.getfield 53, 3) := by decide +kernel
theorem dc_R_group_149 : decode cd_R_group 149 = .ok (.iload 4, 2) := by decide +kernel
theorem dc_R_group_151 : decode cd_R_group 151 = .ok (.ishr, 1) := by decide +kernel
theorem dc_R_group_152 : decode cd_R_group 152 = .ok (.iconst 1, 1) := by decide +kernel
theorem dc_R_group_153 : decode cd_R_group 153 = .ok (.iand, 1) := by decide +kernel
theorem dc_R_group_154 : decode cd_R_group 154 = .ok (.ifCond .eq 10, 3) := by decide +kernel
theorem dc_R_group_157 : decode cd_R_group 157 = .ok (.iload 5, 2) := by decide +kernel
theorem dc_R_group_159 : decode cd_R_group 159 = .ok (.iload 6, 2) := by decide +kernel
theorem dc_R_group_161 : decode cd_R_group 161 = .ok (.if_icmp .ne 7, 3) := by decide +kernel
theorem dc_R_group_164 : decode cd_R_group 164 = .ok (.iconst 1, 1) := by decide +kernel
theorem dc_R_group_165 : decode cd_R_group 165 = .ok (.goto 4, 3) := by decide +kernel
theorem dc_R_group_168 : decode cd_R_group 168 = .ok (.iconst 0, 1) := by decide +kernel
theorem dc_R_group_169 : decode cd_R_group 169 = .ok (.istore_n 3, 1) := by decide +kernel
theorem dc_R_group_170 : decode cd_R_group 170 = .ok (.iinc 4 1, 3) := by decide +kernel
theorem dc_R_group_173 : decode cd_R_group 173 = .ok (.goto (-97), 3) := by decide +kernel
theorem dc_R_group_176 : decode cd_R_group 176 = .ok (.iload_n 3, 1) := by decide +kernel
theorem dc_R_group_177 : decode cd_R_group 177 = .ok (.ifCond .eq 10, 3) := by decide +kernel
theorem dc_R_group_180 : decode cd_R_group 180 = .ok (.iload_n 2, 1) := by decide +kernel
theorem dc_R_group_181 : decode cd_R_group 181 = .ok (.bipush 100, 2) := by decide +kernel
theorem dc_R_group_183 : decode cd_R_group 183 = .ok (.iadd, 1) := by decide +kernel
theorem dc_R_group_184 : decode cd_R_group 184 = .ok (.goto 4, 3) := by decide +kernel
theorem dc_R_group_187 : decode cd_R_group 187 = .ok (.iload_n 2, 1) := by decide +kernel
theorem dc_R_group_188 : decode cd_R_group 188 = .ok (.ireturn, 1) := by decide +kernel
theorem dc_R_show_0 : decode cd_R_show 0 = .ok (.aload_n 0, 1) := by decide +kernel
theorem dc_R_show_1 : decode cd_R_show 1 = .ok (.iconst 0, 1) := by decide +kernel
theorem dc_R_show_2 : decode cd_R_show 2 = .ok (.putfield 46, 3) := by decide +kernel
theorem dc_R_show_5 : decode cd_R_show 5 = .ok (.aload_n 0, 1) := by decide +kernel
theorem dc_R_show_6 : decode cd_R_show 6 = .ok (.iconst 0, 1) := by decide +kernel
theorem dc_R_show_7 : decode cd_R_show 7 = .ok (.putfield 121, 3) := by decide +kernel
theorem dc_R_show_10 : decode cd_R_show 10 = .ok (.iconst 0, 1) := by decide +kernel
theorem dc_R_show_11 : decode cd_R_show 11 = .ok (.istore_n 1, 1) := by decide +kernel
theorem dc_R_show_12 : decode cd_R_show 12 = .ok (.iload_n 1, 1) := by decide +kernel
theorem dc_R_show_13 : decode cd_R_show 13 = .ok (.aload_n 0, 1) := by decide +kernel
theorem dc_R_show_14 : decode cd_R_show 14 = .ok (.getfield 50, 3) := by decide +kernel
theorem dc_R_show_17 : decode cd_R_show 17 = .ok (.if_icmp .ge 168, 3) := by decide +kernel
theorem dc_R_show_20 : decode cd_R_show 20 = .ok (.aload_n 0, 1) := by decide +kernel
theorem dc_R_show_21 : decode cd_R_show 21 = .ok (.getfield 53, 3) := by decide +kernel
theorem dc_R_show_24 : decode cd_R_show 24 = .ok (.iload_n 1, 1) := by decide +kernel
theorem dc_R_show_25 : decode cd_R_show 25 = .ok (.ishr, 1) := by decide +kernel
theorem dc_R_show_26 : decode cd_R_show 26 = .ok (.iconst 1, 1) := by decide +kernel
theorem dc_R_show_27 : decode cd_R_show 27 = .ok (.iand, 1) := by decide +kernel
theorem dc_R_show_28 : decode cd_R_show 28 = .ok (.iconst 1, 1) := by decide +kernel
theorem dc_R_show_29 : decode cd_R_show 29 = .ok (.if_icmp .ne 150, 3) := by decide +kernel
theorem dc_R_show_32 : decode cd_R_show 32 = .ok (.iload_n 1, 1) := by decide +kernel
theorem dc_R_show_33 : decode cd_R_show 33 = .ok (.bipush 9, 2) := by decide +kernel
theorem dc_R_show_35 : decode cd_R_show 35 = .ok (.if_icmp .le 9, 3) := by decide +kernel
theorem dc_R_show_38 : decode cd_R_show 38 = .ok (.aload_n 0, 1) := by decide +kernel
theorem dc_R_show_39 : decode cd_R_show 39 = .ok (.bipush 49, 2) := by decide +kernel
theorem dc_R_show_41 : decode cd_R_show 41 = .ok (.invokevirtual 124, 3) := by decide +kernel
theorem dc_R_show_44 : decode cd_R_show 44 = .ok (.aload_n 0, 1) := by decide +kernel
theorem dc_R_show_45 : decode cd_R_show 45 = .ok (.bipush 48, 2) := by decide +kernel
theorem dc_R_show_47 : decode cd_R_show 47 = .ok (.iload_n 1, 1) := by decide +kernel
theorem dc_R_show_48 : decode cd_R_show 48 = .ok (.bipush 10, 2) := by decide +kernel
theorem dc_R_show_50 : decode cd_R_show 50 = .ok (.irem, 1) := by decide +kernel
theorem dc_R_show_51 : decode cd_R_show 51 = .ok (.iadd, 1) := by decide +kernel
theorem dc_R_show_52 : decode cd_R_show 52 = .ok (.invokevirtual 124, 3) := by decide +kernel
theorem dc_R_show_55 : decode cd_R_show 55 = .ok (.aload_n 0, 1) := by decide +kernel
theorem dc_R_show_56 : decode cd_R_show 56 = .ok (.bipush 58, 2) := by decide +kernel
theorem dc_R_show_58 : decode cd_R_show 58 = .ok (.invokevirtual 124, 3) := by decide +kernel
theorem dc_R_show_61 : decode cd_R_show 61 = .ok (.aload_n 0, 1) := by decide +kernel
theorem dc_R_show_62 : decode cd_R_show 62 = .ok (.bipush 48, 2) := by decide +kernel
theorem dc_R_show_64 : decode cd_R_show 64 = .ok (.aload_n 0, 1) := by decide +kernel
theorem dc_R_show_65 : decode cd_R_show 65 = .ok (.getfield 13, 3) := by decide +kernel
theorem dc_R_show_68 : decode cd_R_show 68 = .ok (.iload_n 1, 1) := by decide +kernel
theorem dc_R_show_69 : decode cd_R_show 69 = .ok (.iaload, 1) := by decide +kernel
theorem dc_R_show_70 : decode cd_R_show 70 = .ok (.ifCond .lt 27, 3) := by decide +kernel
theorem dc_R_show_73 : decode cd_R_show 73 = .ok (.aload_n 0, 1) := by decide +kernel
theorem dc_R_show_74 : decode cd_R_show 74 = .ok (.getfield 13, 3) := by decide +kernel
theorem dc_R_show_77 : decode cd_R_show 77 = .ok (.iload_n 1, 1) := by decide +kernel
theorem dc_R_show_78 : decode cd_R_show 78 = .ok (.iaload, 1) := by decide +kernel
theorem dc_R_show_79 : decode cd_R_show 79 = .ok (.aload_n 0, 1) := by decide +kernel
theorem dc_R_show_80 : decode cd_R_show 80 = .ok (.getfield 7, 3) := by decide +kernel
theorem dc_R_show_83 : decode cd_R_show 83 = .ok (.iload_n 1, 1) := by decide +kernel
theorem dc_R_show_84 : decode cd_R_show 84 = .ok (.iaload, 1) := by decide +kernel
theorem dc_R_show_85 : decode cd_R_show 85 = .ok (.if_icmp .ge 12, 3) := by decide +kernel
theorem dc_R_show_88 : decode cd_R_show 88 = .ok (.aload_n 0, 1) := by decide +kernel
theorem dc_R_show_89 : decode cd_R_show 89 = .ok (.getfield 13, 3) := by decide +kernel
theorem dc_R_show_92 : decode cd_R_show 92 = .ok (.iload_n 1, 1) := by decide +kernel
theorem dc_R_show_93 : decode cd_R_show 93 = .ok (.iaload, 1) := by decide +kernel
theorem dc_R_show_94 : decode cd_R_show 94 = .ok (.goto 9, 3) := by decide +kernel
theorem dc_R_show_97 : decode cd_R_show 97 = .ok (.aload_n 0, 1) := by decide +kernel
theorem dc_R_show_98 : decode cd_R_show 98 = .ok (.getfield 7, 3) := by decide +kernel
theorem dc_R_show_101 : decode cd_R_show 101 = .ok (.iload_n 1, 1) := by decide +kernel
theorem dc_R_show_102 : decode cd_R_show 102 = .ok (.iaload, 1) := by decide +kernel
theorem dc_R_show_103 : decode cd_R_show 103 = .ok (.iadd, 1) := by decide +kernel
theorem dc_R_show_104 : decode cd_R_show 104 = .ok (.invokevirtual 124, 3) := by decide +kernel
theorem dc_R_show_107 : decode cd_R_show 107 = .ok (.aload_n 0, 1) := by decide +kernel
theorem dc_R_show_108 : decode cd_R_show 108 = .ok (.aload_n 0, 1) := by decide +kernel
theorem dc_R_show_109 : decode cd_R_show 109 = .ok (.getfield 13, 3) := by decide +kernel
theorem dc_R_show_112 : decode cd_R_show 112 = .ok (.iload_n 1, 1) := by decide +kernel
theorem dc_R_show_113 : decode cd_R_show 113 = .ok (.iaload, 1) := by decide +kernel
theorem dc_R_show_114 : decode cd_R_show 114 = .ok (.ifCond .ge 8, 3) := by decide +kernel
theorem dc_R_show_117 : decode cd_R_show 117 = .ok (.bipush 61, 2) := by decide +kernel
theorem dc_R_show_119 : decode cd_R_show 119 = .ok (.goto 5, 3) := by decide +kernel
theorem dc_R_show_122 : decode cd_R_show 122 = .ok (.bipush 45, 2) := by decide +kernel
theorem dc_R_show_124 : decode cd_R_show 124 = .ok (.invokevirtual 124, 3) := by decide +kernel
theorem dc_R_show_127 : decode cd_R_show 127 = .ok (.aload_n 0, 1) := by decide +kernel
theorem dc_R_show_128 : decode cd_R_show 128 = .ok (.getfield 13, 3) := by decide +kernel
theorem dc_R_show_131 : decode cd_R_show 131 = .ok (.iload_n 1, 1) := by decide +kernel
theorem dc_R_show_132 : decode cd_R_show 132 = .ok (.iaload, 1) := by decide +kernel
theorem dc_R_show_133 : decode cd_R_show 133 = .ok (.ifCond .lt 40, 3) := by decide +kernel
theorem dc_R_show_136 : decode cd_R_show 136 = .ok (.aload_n 0, 1) := by decide +kernel
theorem dc_R_show_137 : decode cd_R_show 137 = .ok (.bipush 48, 2) := by decide +kernel
theorem dc_R_show_139 : decode cd_R_show 139 = .ok (.aload_n 0, 1) := by decide +kernel
theorem dc_R_show_140 : decode cd_R_show 140 = .ok (.getfield 13, 3) := by decide +kernel
theorem dc_R_show_143 : decode cd_R_show 143 = .ok (.iload_n 1, 1) := by decide +kernel
theorem dc_R_show_144 : decode cd_R_show 144 = .ok (.iaload, 1) := by decide +kernel
theorem dc_R_show_145 : decode cd_R_show 145 = .ok (.aload_n 0, 1) := by decide +kernel
theorem dc_R_show_146 : decode cd_R_show 146 = .ok (.getfield 7, 3) := by decide +kernel
theorem dc_R_show_149 : decode cd_R_show 149 = .ok (.iload_n 1, 1) := by decide +kernel
theorem dc_R_show_150 : decode cd_R_show 150 = .ok (.iaload, 1) := by decide +kernel
theorem dc_R_show_151 : decode cd_R_show 151 = .ok (.if_icmp .ge 12, 3) := by decide +kernel
theorem dc_R_show_154 : decode cd_R_show 154 = .ok (.aload_n 0, 1) := by decide +kernel
theorem dc_R_show_155 : decode cd_R_show 155 = .ok (.getfield 7, 3) := by decide +kernel
theorem dc_R_show_158 : decode cd_R_show 158 = .ok (.iload_n 1, 1) := by decide +kernel
theorem dc_R_show_159 : decode cd_R_show 159 = .ok (.iaload, 1) := by decide +kernel
theorem dc_R_show_160 : decode cd_R_show 160 = .ok (.goto 9, 3) := by decide +kernel
theorem dc_R_show_163 : decode cd_R_show 163 = .ok (.aload_n 0, 1) := by decide +kernel
theorem dc_R_show_164 : decode cd_R_show 164 = .ok (.getfield 13, 3) := by decide +kernel
theorem dc_R_show_167 : decode cd_R_show 167 = .ok (.iload_n 1, 1) := by decide +kernel
theorem dc_R_show_168 : decode cd_R_show 168 = .ok (.iaload, 1) := by decide +kernel
theorem dc_R_show_169 : decode cd_R_show 169 = .ok (.iadd, 1) := by decide +kernel
theorem dc_R_show_170 : decode cd_R_show 170 = .ok (.invokevirtual 124, 3) := by decide +kernel
theorem dc_R_show_173 : decode cd_R_show 173 = .ok (.aload_n 0, 1) := by decide +kernel
theorem dc_R_show_174 : decode cd_R_show 174 = .ok (.bipush 59, 2) := by decide +kernel
theorem dc_R_show_176 : decode cd_R_show 176 = .ok (.invokevirtual 124, 3) := by decide +kernel
theorem dc_R_show_179 : decode cd_R_show 179 = .ok (.iinc 1 1, 3) := by decide +kernel
theorem dc_R_show_182 : decode cd_R_show 182 = .ok (.goto (-170), 3) := by decide +kernel
theorem dc_R_show_185 : decode cd_R_show 185 = .ok (.aload_n 0, 1) := by decide +kernel
theorem dc_R_show_186 : decode cd_R_show 186 = .ok (.getfield 121, 3) := by decide +kernel
theorem dc_R_show_189 : decode cd_R_show 189 = .ok (.ireturn, 1) := by decide +kernel
theorem dc_R_write_0 : decode cd_R_write 0 = .ok (.aload_n 0, 1) := by decide +kernel
theorem dc_R_write_1 : decode cd_R_write 1 = .ok (.getfield 43, 3) := by decide +kernel
theorem dc_R_write_4 : decode cd_R_write 4 = .ok (.aload_n 0, 1) := by decide +kernel
theorem dc_R_write_5 : decode cd_R_write 5 = .ok (.getfield 121, 3) := by decide +kernel
theorem dc_R_write_8 : decode cd_R_write 8 = .ok (.iload_n 1, 1) := by decide +kernel
theorem dc_R_write_9 : decode cd_R_write 9 = .ok (.iastore, 1) := by decide +kernel
theorem dc_R_write_10 : decode cd_R_write 10 = .ok (.aload_n 0, 1) := by decide +kernel
theorem dc_R_write_11 : decode cd_R_write 11 = .ok (.dup, 1) := by decide +kernel
theorem dc_R_write_12 : decode cd_R_write 12 = .ok (.getfield 121, 3) := by decide +kernel
theorem dc_R_write_15 : decode cd_R_write 15 = .ok (.iconst 1, 1) := by decide +kernel
theorem dc_R_write_16 : decode cd_R_write 16 = .ok (.iadd, 1) := by decide +kernel
theorem dc_R_write_17 : decode cd_R_write 17 = .ok (.putfield 121, 3) := by decide +kernel
theorem dc_R_write_20 : decode cd_R_write 20 = .ok (.return_, 1) := by decide +kernel
theorem dc_R_at_0 : decode cd_R_at 0 = .ok (.aload_n 0, 1) := by decide +kernel
theorem dc_R_at_1 : decode cd_R_at 1 = .ok (.iload_n 1, 1) := by decide +kernel
theorem dc_R_at_2 : decode cd_R_at 2 = .ok (.ifCond .lt 11, 3) := by decide +kernel
theorem dc_R_at_5 : decode cd_R_at 5 = .ok (.iload_n 1, 1) := by decide +kernel
theorem dc_R_at_6 : decode cd_R_at 6 = .ok (.aload_n 0, 1) := by decide +kernel
theorem dc_R_at_7 : decode cd_R_at 7 = .ok (.getfield 121, 3) := by decide +kernel
theorem dc_R_at_10 : decode cd_R_at 10 = .ok (.if_icmp .lt 7, 3) := by decide +kernel
theorem dc_R_at_13 : decode cd_R_at 13 = .ok (.iconst 1, 1) := by decide +kernel
theorem dc_R_at_14 : decode cd_R_at 14 = .ok (.goto 4, 3) := by decide +kernel
theorem dc_R_at_17 : decode cd_R_at 17 = .ok (.iconst 0, 1) := by decide +kernel
theorem dc_R_at_18 : decode cd_R_at 18 = .ok (.putfield 46, 3) := by decide +kernel
theorem dc_R_at_21 : decode cd_R_at 21 = .ok (.aload_n 0, 1) := by decide +kernel
theorem dc_R_at_22 : decode cd_R_at 22 = .ok (.getfield 46, 3) := by decide +kernel
theorem dc_R_at_25 : decode cd_R_at 25 = .ok (.ifCond .le 7, 3) := by decide +kernel
theorem dc_R_at_28 : decode cd_R_at 28 = .ok (.iconst 0, 1) := by decide +kernel
theorem dc_R_at_29 : decode cd_R_at 29 = .ok (.goto 9, 3) := by decide +kernel
theorem dc_R_at_32 : decode cd_R_at 32 = .ok (.aload_n 0, 1) := by decide +kernel
theorem dc_R_at_33 : decode cd_R_at 33 = .ok (.getfield 43, 3) := by decide +kernel
theorem dc_R_at_36 : decode cd_R_at 36 = .ok (.iload_n 1, 1) := by decide +kernel
theorem dc_R_at_37 : decode cd_R_at 37 = .ok (.iaload, 1) := by decide +kernel
theorem dc_R_at_38 : decode cd_R_at 38 = .ok (.ireturn, 1) := by decide +kernel
theorem dc_L_law_0 : decode cd_L_law 0 = .ok (.new 8, 3) := by decide +kernel
theorem dc_L_law_3 : decode cd_L_law 3 = .ok (.dup, 1) := by decide +kernel
theorem dc_L_law_4 : decode cd_L_law 4 = .ok (.invokespecial 62, 3) := by decide +kernel
theorem dc_L_law_7 : decode cd_L_law 7 = .ok (.astore_n 1, 1) := by decide +kernel
theorem dc_L_law_8 : decode cd_L_law 8 = .ok (.new 63, 3) := by decide +kernel
theorem dc_L_law_11 : decode cd_L_law 11 = .ok (.dup, 1) := by decide +kernel
theorem dc_L_law_12 : decode cd_L_law 12 = .ok (.invokespecial 65, 3) := by decide +kernel
theorem dc_L_law_15 : decode cd_L_law 15 = .ok (.astore_n 2, 1) := by decide +kernel
theorem dc_L_law_16 : decode cd_L_law 16 = .ok (.iconst 1, 1) := by decide +kernel
theorem dc_L_law_17 : decode cd_L_law 17 = .ok (.newarray .long, 2) := by decide +kernel
theorem dc_L_law_19 : decode cd_L_law 19 = .ok (.astore_n 3, 1) := by decide +kernel
theorem dc_L_law_20 : decode cd_L_law 20 = .ok (.iconst 0, 1) := by decide +kernel
theorem dc_L_law_21 : decode cd_L_law 21 = .ok (.istore 4, 2) := by decide +kernel
theorem dc_L_law_23 : decode cd_L_law 23 = .ok (.iload 4, 2) := by decide +kernel
theorem dc_L_law_25 : decode cd_L_law 25 = .ok (.aload_n 0, 1) := by decide +kernel
theorem dc_L_law_26 : decode cd_L_law 26 = .ok (.arraylength, 1) := by decide +kernel
theorem dc_L_law_27 : decode cd_L_law 27 = .ok (.iconst 3, 1) := by decide +kernel
theorem dc_L_law_28 : decode cd_L_law 28 = .ok (.isub, 1) := by decide +kernel
theorem dc_L_law_29 : decode cd_L_law 29 = .ok (.if_icmp .gt 872, 3) := by decide +kernel
theorem dc_L_law_32 : decode cd_L_law 32 = .ok (.aload_n 0, 1) := by decide +kernel
theorem dc_L_law_33 : decode cd_L_law 33 = .ok (.iload 4, 2) := by decide +kernel
theorem dc_L_law_35 : decode cd_L_law 35 = .ok (.iaload, 1) := by decide +kernel
theorem dc_L_law_36 : decode cd_L_law 36 = .ok (.bipush 31, 2) := by decide +kernel
theorem dc_L_law_38 : decode cd_L_law 38 = .ok (.iand, 1) := by decide +kernel
theorem dc_L_law_39 : decode cd_L_law 39 = .ok (.tableswitch 856 0 18 #[89, 157, 225, 249, 260, 316, 360, 404, 417, 473, 486, 542, 586, 630, 674, 718, 731, 787, 800], 89) := by decide +kernel
theorem dc_L_law_128 : decode cd_L_law 128 = .ok (.aload_n 1, 1) := by decide +kernel
theorem dc_L_law_129 : decode cd_L_law 129 = .ok (.aload_n 0, 1) := by decide +kernel
theorem dc_L_law_130 : decode cd_L_law 130 = .ok (.iload 4, 2) := by decide +kernel
theorem dc_L_law_132 : decode cd_L_law 132 = .ok (.iconst 1, 1) := by decide +kernel
theorem dc_L_law_133 : decode cd_L_law 133 = .ok (.iadd, 1) := by decide +kernel
theorem dc_L_law_134 : decode cd_L_law 134 = .ok (.iaload, 1) := by decide +kernel
theorem dc_L_law_135 : decode cd_L_law 135 = .ok (.aload_n 0, 1) := by decide +kernel
theorem dc_L_law_136 : decode cd_L_law 136 = .ok (.iload 4, 2) := by decide +kernel
theorem dc_L_law_138 : decode cd_L_law 138 = .ok (.iconst 2, 1) := by decide +kernel
theorem dc_L_law_139 : decode cd_L_law 139 = .ok (.iadd, 1) := by decide +kernel
theorem dc_L_law_140 : decode cd_L_law 140 = .ok (.iaload, 1) := by decide +kernel
end
section
theorem dc_L_law_141 : decode cd_L_law 141 = .ok (.aload_n 3, 1) := by decide +kernel
theorem dc_L_law_142 : decode cd_L_law 142 = .ok (.invokestatic 66, 3) := by decide +kernel
theorem dc_L_law_145 : decode cd_L_law 145 = .ok (.istore 5, 2) := by decide +kernel
theorem dc_L_law_147 : decode cd_L_law 147 = .ok (.aload_n 2, 1) := by decide +kernel
theorem dc_L_law_148 : decode cd_L_law 148 = .ok (.aload_n 0, 1) := by decide +kernel
theorem dc_L_law_149 : decode cd_L_law 149 = .ok (.iload 4, 2) := by decide +kernel
theorem dc_L_law_151 : decode cd_L_law 151 = .ok (.iconst 1, 1) := by decide +kernel
theorem dc_L_law_152 : decode cd_L_law 152 = .ok (.iadd, 1) := by decide +kernel
theorem dc_L_law_153 : decode cd_L_law 153 = .ok (.iaload, 1) := by decide +kernel
theorem dc_L_law_154 : decode cd_L_law 154 = .ok (.aload_n 0, 1) := by decide +kernel
theorem dc_L_law_155 : decode cd_L_law 155 = .ok (.iload 4, 2) := by decide +kernel
theorem dc_L_law_157 : decode cd_L_law 157 = .ok (.iconst 2, 1) := by decide +kernel
theorem dc_L_law_158 : decode cd_L_law 158 = .ok (.iadd, 1) := by decide +kernel
theorem dc_L_law_159 : decode cd_L_law 159 = .ok (.iaload, 1) := by decide +kernel
theorem dc_L_law_160 : decode cd_L_law 160 = .ok (.invokevirtual 71, 3) := by decide +kernel
theorem dc_L_law_163 : decode cd_L_law 163 = .ok (.istore 6, 2) := by decide +kernel
theorem dc_L_law_165 : decode cd_L_law 165 = .ok (.aload_n 2, 1) := by decide +kernel
theorem dc_L_law_166 : decode cd_L_law 166 = .ok (.invokevirtual 72, 3) := by decide +kernel
theorem dc_L_law_169 : decode cd_L_law 169 = .ok (.iload 5, 2) := by decide +kernel
theorem dc_L_law_171 : decode cd_L_law 171 = .ok (.if_icmp .eq 5, 3) := by decide +kernel
theorem dc_L_law_174 : decode cd_L_law 174 = .ok (.iconst 0, 1) := by decide +kernel
theorem dc_L_law_175 : decode cd_L_law 175 = .ok (.ireturn, 1) := by decide +kernel
theorem dc_L_law_176 : decode cd_L_law 176 = .ok (.iload 5, 2) := by decide +kernel
theorem dc_L_law_178 : decode cd_L_law 178 = .ok (.ifCond .ne 15, 3) := by decide +kernel
theorem dc_L_law_181 : decode cd_L_law 181 = .ok (.aload_n 3, 1) := by decide +kernel
theorem dc_L_law_182 : decode cd_L_law 182 = .ok (.iconst 0, 1) := by decide +kernel
theorem dc_L_law_183 : decode cd_L_law 183 = .ok (.laload, 1) := by decide +kernel
theorem dc_L_law_184 : decode cd_L_law 184 = .ok (.iload 6, 2) := by decide +kernel
theorem dc_L_law_186 : decode cd_L_law 186 = .ok (.i2l, 1) := by decide +kernel
theorem dc_L_law_187 : decode cd_L_law 187 = .ok (.lcmp, 1) := by decide +kernel
theorem dc_L_law_188 : decode cd_L_law 188 = .ok (.ifCond .eq 5, 3) := by decide +kernel
theorem dc_L_law_191 : decode cd_L_law 191 = .ok (.iconst 0, 1) := by decide +kernel
theorem dc_L_law_192 : decode cd_L_law 192 = .ok (.ireturn, 1) := by decide +kernel
theorem dc_L_law_193 : decode cd_L_law 193 = .ok (.goto 702, 3) := by decide +kernel
theorem dc_L_law_196 : decode cd_L_law 196 = .ok (.aload_n 1, 1) := by decide +kernel
theorem dc_L_law_197 : decode cd_L_law 197 = .ok (.aload_n 0, 1) := by decide +kernel
theorem dc_L_law_198 : decode cd_L_law 198 = .ok (.iload 4, 2) := by decide +kernel
theorem dc_L_law_200 : decode cd_L_law 200 = .ok (.iconst 1, 1) := by decide +kernel
theorem dc_L_law_201 : decode cd_L_law 201 = .ok (.iadd, 1) := by decide +kernel
theorem dc_L_law_202 : decode cd_L_law 202 = .ok (.iaload, 1) := by decide +kernel
theorem dc_L_law_203 : decode cd_L_law 203 = .ok (.aload_n 0, 1) := by decide +kernel
theorem dc_L_law_204 : decode cd_L_law 204 = .ok (.iload 4, 2) := by decide +kernel
theorem dc_L_law_206 : decode cd_L_law 206 = .ok (.iconst 2, 1) := by decide +kernel
theorem dc_L_law_207 : decode cd_L_law 207 = .ok (.iadd, 1) := by decide +kernel
theorem dc_L_law_208 : decode cd_L_law 208 = .ok (.iaload, 1) := by decide +kernel
theorem dc_L_law_209 : decode cd_L_law 209 = .ok (.aload_n 3, 1) := by decide +kernel
theorem dc_L_law_210 : decode cd_L_law 210 = .ok (.invokestatic 75, 3) := by decide +kernel
theorem dc_L_law_213 : decode cd_L_law 213 = .ok (.istore 5, 2) := by decide +kernel
theorem dc_L_law_215 : decode cd_L_law 215 = .ok (.aload_n 2, 1) := by decide +kernel
theorem dc_L_law_216 : decode cd_L_law 216 = .ok (.aload_n 0, 1) := by decide +kernel
theorem dc_L_law_217 : decode cd_L_law 217 = .ok (.iload 4, 2) := by decide +kernel
theorem dc_L_law_219 : decode cd_L_law 219 = .ok (.iconst 1, 1) := by decide +kernel
theorem dc_L_law_220 : decode cd_L_law 220 = .ok (.iadd, 1) := by decide +kernel
theorem dc_L_law_221 : decode cd_L_law 221 = .ok (.iaload, 1) := by decide +kernel
theorem dc_L_law_222 : decode cd_L_law 222 = .ok (.aload_n 0, 1) := by decide +kernel
theorem dc_L_law_223 : decode cd_L_law 223 = .ok (.iload 4, 2) := by decide +kernel
theorem dc_L_law_225 : decode cd_L_law 225 = .ok (.iconst 2, 1) := by decide +kernel
theorem dc_L_law_226 : decode cd_L_law 226 = .ok (.iadd, 1) := by decide +kernel
theorem dc_L_law_227 : decode cd_L_law 227 = .ok (.iaload, 1) := by decide +kernel
theorem dc_L_law_228 : decode cd_L_law 228 = .ok (.invokevirtual 77, 3) := by decide +kernel
theorem dc_L_law_231 : decode cd_L_law 231 = .ok (.istore 6, 2) := by decide +kernel
theorem dc_L_law_233 : decode cd_L_law 233 = .ok (.aload_n 2, 1) := by decide +kernel
theorem dc_L_law_234 : decode cd_L_law 234 = .ok (.invokevirtual 72, 3) := by decide +kernel
theorem dc_L_law_237 : decode cd_L_law 237 = .ok (.iload 5, 2) := by decide +kernel
theorem dc_L_law_239 : decode cd_L_law 239 = .ok (.if_icmp .eq 5, 3) := by decide +kernel
theorem dc_L_law_242 : decode cd_L_law 242 = .ok (.iconst 0, 1) := by decide +kernel
theorem dc_L_law_243 : decode cd_L_law 243 = .ok (.ireturn, 1) := by decide +kernel
theorem dc_L_law_244 : decode cd_L_law 244 = .ok (.iload 5, 2) := by decide +kernel
theorem dc_L_law_246 : decode cd_L_law 246 = .ok (.ifCond .ne 15, 3) := by decide +kernel
theorem dc_L_law_249 : decode cd_L_law 249 = .ok (.aload_n 3, 1) := by decide +kernel
theorem dc_L_law_250 : decode cd_L_law 250 = .ok (.iconst 0, 1) := by decide +kernel
theorem dc_L_law_251 : decode cd_L_law 251 = .ok (.laload, 1) := by decide +kernel
theorem dc_L_law_252 : decode cd_L_law 252 = .ok (.iload 6, 2) := by decide +kernel
theorem dc_L_law_254 : decode cd_L_law 254 = .ok (.i2l, 1) := by decide +kernel
theorem dc_L_law_255 : decode cd_L_law 255 = .ok (.lcmp, 1) := by decide +kernel
theorem dc_L_law_256 : decode cd_L_law 256 = .ok (.ifCond .eq 5, 3) := by decide +kernel
theorem dc_L_law_259 : decode cd_L_law 259 = .ok (.iconst 0, 1) := by decide +kernel
theorem dc_L_law_260 : decode cd_L_law 260 = .ok (.ireturn, 1) := by decide +kernel
theorem dc_L_law_261 : decode cd_L_law 261 = .ok (.goto 634, 3) := by decide +kernel
theorem dc_L_law_264 : decode cd_L_law 264 = .ok (.aload_n 1, 1) := by decide +kernel
theorem dc_L_law_265 : decode cd_L_law 265 = .ok (.invokestatic 78, 3) := by decide +kernel
theorem dc_L_law_268 : decode cd_L_law 268 = .ok (.istore 5, 2) := by decide +kernel
theorem dc_L_law_270 : decode cd_L_law 270 = .ok (.aload_n 2, 1) := by decide +kernel
theorem dc_L_law_271 : decode cd_L_law 271 = .ok (.invokevirtual 81, 3) := by decide +kernel
theorem dc_L_law_274 : decode cd_L_law 274 = .ok (.aload_n 2, 1) := by decide +kernel
theorem dc_L_law_275 : decode cd_L_law 275 = .ok (.invokevirtual 72, 3) := by decide +kernel
theorem dc_L_law_278 : decode cd_L_law 278 = .ok (.iload 5, 2) := by decide +kernel
theorem dc_L_law_280 : decode cd_L_law 280 = .ok (.if_icmp .eq 5, 3) := by decide +kernel
theorem dc_L_law_283 : decode cd_L_law 283 = .ok (.iconst 0, 1) := by decide +kernel
theorem dc_L_law_284 : decode cd_L_law 284 = .ok (.ireturn, 1) := by decide +kernel
theorem dc_L_law_285 : decode cd_L_law 285 = .ok (.goto 610, 3) := by decide +kernel
theorem dc_L_law_288 : decode cd_L_law 288 = .ok (.aload_n 1, 1) := by decide +kernel
theorem dc_L_law_289 : decode cd_L_law 289 = .ok (.invokevirtual 82, 3) := by decide +kernel
theorem dc_L_law_292 : decode cd_L_law 292 = .ok (.aload_n 2, 1) := by decide +kernel
theorem dc_L_law_293 : decode cd_L_law 293 = .ok (.invokevirtual 85, 3) := by decide +kernel
theorem dc_L_law_296 : decode cd_L_law 296 = .ok (.goto 599, 3) := by decide +kernel
theorem dc_L_law_299 : decode cd_L_law 299 = .ok (.aload_n 1, 1) := by decide +kernel
theorem dc_L_law_300 : decode cd_L_law 300 = .ok (.aload_n 0, 1) := by decide +kernel
theorem dc_L_law_301 : decode cd_L_law 301 = .ok (.iload 4, 2) := by decide +kernel
theorem dc_L_law_303 : decode cd_L_law 303 = .ok (.iconst 1, 1) := by decide +kernel
theorem dc_L_law_304 : decode cd_L_law 304 = .ok (.iadd, 1) := by decide +kernel
theorem dc_L_law_305 : decode cd_L_law 305 = .ok (.iaload, 1) := by decide +kernel
theorem dc_L_law_306 : decode cd_L_law 306 = .ok (.aload_n 3, 1) := by decide +kernel
theorem dc_L_law_307 : decode cd_L_law 307 = .ok (.invokestatic 86, 3) := by decide +kernel
theorem dc_L_law_310 : decode cd_L_law 310 = .ok (.istore 5, 2) := by decide +kernel
theorem dc_L_law_312 : decode cd_L_law 312 = .ok (.aload_n 2, 1) := by decide +kernel
theorem dc_L_law_313 : decode cd_L_law 313 = .ok (.aload_n 0, 1) := by decide +kernel
theorem dc_L_law_314 : decode cd_L_law 314 = .ok (.iload 4, 2) := by decide +kernel
theorem dc_L_law_316 : decode cd_L_law 316 = .ok (.iconst 1, 1) := by decide +kernel
theorem dc_L_law_317 : decode cd_L_law 317 = .ok (.iadd, 1) := by decide +kernel
theorem dc_L_law_318 : decode cd_L_law 318 = .ok (.iaload, 1) := by decide +kernel
theorem dc_L_law_319 : decode cd_L_law 319 = .ok (.invokevirtual 89, 3) := by decide +kernel
theorem dc_L_law_322 : decode cd_L_law 322 = .ok (.istore 6, 2) := by decide +kernel
theorem dc_L_law_324 : decode cd_L_law 324 = .ok (.aload_n 2, 1) := by decide +kernel
theorem dc_L_law_325 : decode cd_L_law 325 = .ok (.invokevirtual 72, 3) := by decide +kernel
theorem dc_L_law_328 : decode cd_L_law 328 = .ok (.iload 5, 2) := by decide +kernel
theorem dc_L_law_330 : decode cd_L_law 330 = .ok (.if_icmp .eq 5, 3) := by decide +kernel
theorem dc_L_law_333 : decode cd_L_law 333 = .ok (.iconst 0, 1) := by decide +kernel
theorem dc_L_law_334 : decode cd_L_law 334 = .ok (.ireturn, 1) := by decide +kernel
theorem dc_L_law_335 : decode cd_L_law 335 = .ok (.iload 5, 2) := by decide +kernel
theorem dc_L_law_337 : decode cd_L_law 337 = .ok (.ifCond .ne 15, 3) := by decide +kernel
theorem dc_L_law_340 : decode cd_L_law 340 = .ok (.aload_n 3, 1) := by decide +kernel
theorem dc_L_law_341 : decode cd_L_law 341 = .ok (.iconst 0, 1) := by decide +kernel
theorem dc_L_law_342 : decode cd_L_law 342 = .ok (.laload, 1) := by decide +kernel
theorem dc_L_law_343 : decode cd_L_law 343 = .ok (.iload 6, 2) := by decide +kernel
theorem dc_L_law_345 : decode cd_L_law 345 = .ok (.i2l, 1) := by decide +kernel
theorem dc_L_law_346 : decode cd_L_law 346 = .ok (.lcmp, 1) := by decide +kernel
theorem dc_L_law_347 : decode cd_L_law 347 = .ok (.ifCond .eq 5, 3) := by decide +kernel
theorem dc_L_law_350 : decode cd_L_law 350 = .ok (.iconst 0, 1) := by decide +kernel
theorem dc_L_law_351 : decode cd_L_law 351 = .ok (.ireturn, 1) := by decide +kernel
theorem dc_L_law_352 : decode cd_L_law 352 = .ok (.goto 543, 3) := by decide +kernel
theorem dc_L_law_355 : decode cd_L_law 355 = .ok (.aload_n 1, 1) := by decide +kernel
theorem dc_L_law_356 : decode cd_L_law 356 = .ok (.aload_n 3, 1) := by decide +kernel
theorem dc_L_law_357 : decode cd_L_law 357 = .ok (.invokestatic 90, 3) := by decide +kernel
theorem dc_L_law_360 : decode cd_L_law 360 = .ok (.istore 5, 2) := by decide +kernel
theorem dc_L_law_362 : decode cd_L_law 362 = .ok (.aload_n 2, 1) := by decide +kernel
theorem dc_L_law_363 : decode cd_L_law 363 = .ok (.invokevirtual 93, 3) := by decide +kernel
theorem dc_L_law_366 : decode cd_L_law 366 = .ok (.istore 6, 2) := by decide +kernel
theorem dc_L_law_368 : decode cd_L_law 368 = .ok (.aload_n 2, 1) := by decide +kernel
theorem dc_L_law_369 : decode cd_L_law 369 = .ok (.invokevirtual 72, 3) := by decide +kernel
theorem dc_L_law_372 : decode cd_L_law 372 = .ok (.iload 5, 2) := by decide +kernel
theorem dc_L_law_374 : decode cd_L_law 374 = .ok (.if_icmp .eq 5, 3) := by decide +kernel
theorem dc_L_law_377 : decode cd_L_law 377 = .ok (.iconst 0, 1) := by decide +kernel
theorem dc_L_law_378 : decode cd_L_law 378 = .ok (.ireturn, 1) := by decide +kernel
theorem dc_L_law_379 : decode cd_L_law 379 = .ok (.iload 5, 2) := by decide +kernel
theorem dc_L_law_381 : decode cd_L_law 381 = .ok (.ifCond .ne 15, 3) := by decide +kernel
theorem dc_L_law_384 : decode cd_L_law 384 = .ok (.aload_n 3, 1) := by decide +kernel
theorem dc_L_law_385 : decode cd_L_law 385 = .ok (.iconst 0, 1) := by decide +kernel
theorem dc_L_law_386 : decode cd_L_law 386 = .ok (.laload, 1) := by decide +kernel
theorem dc_L_law_387 : decode cd_L_law 387 = .ok (.iload 6, 2) := by decide +kernel
theorem dc_L_law_389 : decode cd_L_law 389 = .ok (.i2l, 1) := by decide +kernel
theorem dc_L_law_390 : decode cd_L_law 390 = .ok (.lcmp, 1) := by decide +kernel
theorem dc_L_law_391 : decode cd_L_law 391 = .ok (.ifCond .eq 5, 3) := by decide +kernel
theorem dc_L_law_394 : decode cd_L_law 394 = .ok (.iconst 0, 1) := by decide +kernel
theorem dc_L_law_395 : decode cd_L_law 395 = .ok (.ireturn, 1) := by decide +kernel
theorem dc_L_law_396 : decode cd_L_law 396 = .ok (.goto 499, 3) := by decide +kernel
theorem dc_L_law_399 : decode cd_L_law 399 = .ok (.aload_n 1, 1) := by decide +kernel
theorem dc_L_law_400 : decode cd_L_law 400 = .ok (.aload_n 3, 1) := by decide +kernel
theorem dc_L_law_401 : decode cd_L_law 401 = .ok (.invokestatic 94, 3) := by decide +kernel
theorem dc_L_law_404 : decode cd_L_law 404 = .ok (.istore 5, 2) := by decide +kernel
theorem dc_L_law_406 : decode cd_L_law 406 = .ok (.aload_n 2, 1) := by decide +kernel
theorem dc_L_law_407 : decode cd_L_law 407 = .ok (.invokevirtual 96, 3) := by decide +kernel
theorem dc_L_law_410 : decode cd_L_law 410 = .ok (.istore 6, 2) := by decide +kernel
theorem dc_L_law_412 : decode cd_L_law 412 = .ok (.aload_n 2, 1) := by decide +kernel
theorem dc_L_law_413 : decode cd_L_law 413 = .ok (.invokevirtual 72, 3) := by decide +kernel
theorem dc_L_law_416 : decode cd_L_law 416 = .ok (.iload 5, 2) := by decide +kernel
theorem dc_L_law_418 : decode cd_L_law 418 = .ok (.if_icmp .eq 5, 3) := by decide +kernel
theorem dc_L_law_421 : decode cd_L_law 421 = .ok (.iconst 0, 1) := by decide +kernel
theorem dc_L_law_422 : decode cd_L_law 422 = .ok (.ireturn, 1) := by decide +kernel
theorem dc_L_law_423 : decode cd_L_law 423 = .ok (.iload 5, 2) := by decide +kernel
theorem dc_L_law_425 : decode cd_L_law 425 = .ok (.ifCond .ne 15, 3) := by decide +kernel
theorem dc_L_law_428 : decode cd_L_law 428 = .ok (.aload_n 3, 1) := by decide +kernel
theorem dc_L_law_429 : decode cd_L_law 429 = .ok (.iconst 0, 1) := by decide +kernel
theorem dc_L_law_430 : decode cd_L_law 430 = .ok (.laload, 1) := by decide +kernel
theorem dc_L_law_431 : decode cd_L_law 431 = .ok (.iload 6, 2) := by decide +kernel
theorem dc_L_law_433 : decode cd_L_law 433 = .ok (.i2l, 1) := by decide +kernel
theorem dc_L_law_434 : decode cd_L_law 434 = .ok (.lcmp, 1) := by decide +kernel
theorem dc_L_law_435 : decode cd_L_law 435 = .ok (.ifCond .eq 5, 3) := by decide +kernel
theorem dc_L_law_438 : decode cd_L_law 438 = .ok (.iconst 0, 1) := by decide +kernel
theorem dc_L_law_439 : decode cd_L_law 439 = .ok (.ireturn, 1) := by decide +kernel
theorem dc_L_law_440 : decode cd_L_law 440 = .ok (.goto 455, 3) := by decide +kernel
theorem dc_L_law_443 : decode cd_L_law 443 = .ok (.aload_n 1, 1) := by decide +kernel
theorem dc_L_law_444 : decode cd_L_law 444 = .ok (.invokevirtual 97, 3) := by decide +kernel
theorem dc_L_law_447 : decode cd_L_law 447 = .ok (.aload_n 2, 1) := by decide +kernel
theorem dc_L_law_448 : decode cd_L_law 448 = .ok (.invokevirtual 100, 3) := by decide +kernel
theorem dc_L_law_451 : decode cd_L_law 451 = .ok (.if_icmp .eq 444, 3) := by decide +kernel
theorem dc_L_law_454 : decode cd_L_law 454 = .ok (.iconst 0, 1) := by decide +kernel
theorem dc_L_law_455 : decode cd_L_law 455 = .ok (.ireturn, 1) := by decide +kernel
theorem dc_L_law_456 : decode cd_L_law 456 = .ok (.aload_n 1, 1) := by decide +kernel
theorem dc_L_law_457 : decode cd_L_law 457 = .ok (.aload_n 0, 1) := by decide +kernel
theorem dc_L_law_458 : decode cd_L_law 458 = .ok (.iload 4, 2) := by decide +kernel
theorem dc_L_law_460 : decode cd_L_law 460 = .ok (.iconst 1, 1) := by decide +kernel
theorem dc_L_law_461 : decode cd_L_law 461 = .ok (.iadd, 1) := by decide +kernel
theorem dc_L_law_462 : decode cd_L_law 462 = .ok (.iaload, 1) := by decide +kernel
theorem dc_L_law_463 : decode cd_L_law 463 = .ok (.aload_n 3, 1) := by decide +kernel
theorem dc_L_law_464 : decode cd_L_law 464 = .ok (.invokestatic 101, 3) := by decide +kernel
theorem dc_L_law_467 : decode cd_L_law 467 = .ok (.istore 5, 2) := by decide +kernel
theorem dc_L_law_469 : decode cd_L_law 469 = .ok (.aload_n 2, 1) := by decide +kernel
theorem dc_L_law_470 : decode cd_L_law 470 = .ok (.aload_n 0, 1) := by decide +kernel
theorem dc_L_law_471 : decode cd_L_law 471 = .ok (.iload 4, 2) := by decide +kernel
theorem dc_L_law_473 : decode cd_L_law 473 = .ok (.iconst 1, 1) := by decide +kernel
theorem dc_L_law_474 : decode cd_L_law 474 = .ok (.iadd, 1) := by decide +kernel
theorem dc_L_law_475 : decode cd_L_law 475 = .ok (.iaload, 1) := by decide +kernel
theorem dc_L_law_476 : decode cd_L_law 476 = .ok (.invokevirtual 103, 3) := by decide +kernel
theorem dc_L_law_479 : decode cd_L_law 479 = .ok (.istore 6, 2) := by decide +kernel
theorem dc_L_law_481 : decode cd_L_law 481 = .ok (.aload_n 2, 1) := by decide +kernel
theorem dc_L_law_482 : decode cd_L_law 482 = .ok (.invokevirtual 72, 3) := by decide +kernel
theorem dc_L_law_485 : decode cd_L_law 485 = .ok (.iload 5, 2) := by decide +kernel
theorem dc_L_law_487 : decode cd_L_law 487 = .ok (.if_icmp .eq 5, 3) := by decide +kernel
theorem dc_L_law_490 : decode cd_L_law 490 = .ok (.iconst 0, 1) := by decide +kernel
theorem dc_L_law_491 : decode cd_L_law 491 = .ok (.ireturn, 1) := by decide +kernel
theorem dc_L_law_492 : decode cd_L_law 492 = .ok (.iload 5, 2) := by decide +kernel
theorem dc_L_law_494 : decode cd_L_law 494 = .ok (.ifCond .ne 15, 3) := by decide +kernel
theorem dc_L_law_497 : decode cd_L_law 497 = .ok (.aload_n 3, 1) := by decide +kernel
theorem dc_L_law_498 : decode cd_L_law 498 = .ok (.iconst 0, 1) := by decide +kernel
theorem dc_L_law_499 : decode cd_L_law 499 = .ok (.laload, 1) := by decide +kernel
theorem dc_L_law_500 : decode cd_L_law 500 = .ok (.iload 6, 2) := by decide +kernel
theorem dc_L_law_502 : decode cd_L_law 502 = .ok (.i2l, 1) := by decide +kernel
theorem dc_L_law_503 : decode cd_L_law 503 = .ok (.lcmp, 1) := by decide +kernel
theorem dc_L_law_504 : decode cd_L_law 504 = .ok (.ifCond .eq 5, 3) := by decide +kernel
theorem dc_L_law_507 : decode cd_L_law 507 = .ok (.iconst 0, 1) := by decide +kernel
theorem dc_L_law_508 : decode cd_L_law 508 = .ok (.ireturn, 1) := by decide +kernel
theorem dc_L_law_509 : decode cd_L_law 509 = .ok (.goto 386, 3) := by decide +kernel
theorem dc_L_law_512 : decode cd_L_law 512 = .ok (.aload_n 1, 1) := by decide +kernel
theorem dc_L_law_513 : decode cd_L_law 513 = .ok (.invokevirtual 104, 3) := by decide +kernel
theorem dc_L_law_516 : decode cd_L_law 516 = .ok (.aload_n 2, 1) := by decide +kernel
theorem dc_L_law_517 : decode cd_L_law 517 = .ok (.invokevirtual 107, 3) := by decide +kernel
theorem dc_L_law_520 : decode cd_L_law 520 = .ok (.if_icmp .eq 375, 3) := by decide +kernel
theorem dc_L_law_523 : decode cd_L_law 523 = .ok (.iconst 0, 1) := by decide +kernel
theorem dc_L_law_524 : decode cd_L_law 524 = .ok (.ireturn, 1) := by decide +kernel
theorem dc_L_law_525 : decode cd_L_law 525 = .ok (.aload_n 1, 1) := by decide +kernel
theorem dc_L_law_526 : decode cd_L_law 526 = .ok (.aload_n 0, 1) := by decide +kernel
theorem dc_L_law_527 : decode cd_L_law 527 = .ok (.iload 4, 2) := by decide +kernel
theorem dc_L_law_529 : decode cd_L_law 529 = .ok (.iconst 1, 1) := by decide +kernel
theorem dc_L_law_530 : decode cd_L_law 530 = .ok (.iadd, 1) := by decide +kernel
theorem dc_L_law_531 : decode cd_L_law 531 = .ok (.iaload, 1) := by decide +kernel
theorem dc_L_law_532 : decode cd_L_law 532 = .ok (.aload_n 3, 1) := by decide +kernel
theorem dc_L_law_533 : decode cd_L_law 533 = .ok (.invokestatic 108, 3) := by decide +kernel
theorem dc_L_law_536 : decode cd_L_law 536 = .ok (.istore 5, 2) := by decide +kernel
theorem dc_L_law_538 : decode cd_L_law 538 = .ok (.aload_n 2, 1) := by decide +kernel
theorem dc_L_law_539 : decode cd_L_law 539 = .ok (.aload_n 0, 1) := by decide +kernel
theorem dc_L_law_540 : decode cd_L_law 540 = .ok (.iload 4, 2) := by decide +kernel
theorem dc_L_law_542 : decode cd_L_law 542 = .ok (.iconst 1, 1) := by decide +kernel
theorem dc_L_law_543 : decode cd_L_law 543 = .ok (.iadd, 1) := by decide +kernel
theorem dc_L_law_544 : decode cd_L_law 544 = .ok (.iaload, 1) := by decide +kernel
theorem dc_L_law_545 : decode cd_L_law 545 = .ok (.invokevirtual 110, 3) := by decide +kernel
theorem dc_L_law_548 : decode cd_L_law 548 = .ok (.istore 6, 2) := by decide +kernel
theorem dc_L_law_550 : decode cd_L_law 550 = .ok (.aload_n 2, 1) := by decide +kernel
theorem dc_L_law_551 : decode cd_L_law 551 = .ok (.invokevirtual 72, 3) := by decide +kernel
theorem dc_L_law_554 : decode cd_L_law 554 = .ok (.iload 5, 2) := by decide +kernel
theorem dc_L_law_556 : decode cd_L_law 556 = .ok (.if_icmp .eq 5, 3) := by decide +kernel
theorem dc_L_law_559 : decode cd_L_law 559 = .ok (.iconst 0, 1) := by decide +kernel
theorem dc_L_law_560 : decode cd_L_law 560 = .ok (.ireturn, 1) := by decide +kernel
theorem dc_L_law_561 : decode cd_L_law 561 = .ok (.iload 5, 2) := by decide +kernel
theorem dc_L_law_563 : decode cd_L_law 563 = .ok (.ifCond .ne 15, 3) := by decide +kernel
theorem dc_L_law_566 : decode cd_L_law 566 = .ok (.aload_n 3, 1) := by decide +kernel
theorem dc_L_law_567 : decode cd_L_law 567 = .ok (.iconst 0, 1) := by decide +kernel
theorem dc_L_law_568 : decode cd_L_law 568 = .ok (.laload, 1) := by decide +kernel
theorem dc_L_law_569 : decode cd_L_law 569 = .ok (.iload 6, 2) := by decide +kernel
theorem dc_L_law_571 : decode cd_L_law 571 = .ok (.i2l, 1) := by decide +kernel
theorem dc_L_law_572 : decode cd_L_law 572 = .ok (.lcmp, 1) := by decide +kernel
theorem dc_L_law_573 : decode cd_L_law 573 = .ok (.ifCond .eq 5, 3) := by decide +kernel
theorem dc_L_law_576 : decode cd_L_law 576 = .ok (.iconst 0, 1) := by decide +kernel
theorem dc_L_law_577 : decode cd_L_law 577 = .ok (.ireturn, 1) := by decide +kernel
theorem dc_L_law_578 : decode cd_L_law 578 = .ok (.goto 317, 3) := by decide +kernel
theorem dc_L_law_581 : decode cd_L_law 581 = .ok (.aload_n 1, 1) := by decide +kernel
theorem dc_L_law_582 : decode cd_L_law 582 = .ok (.aload_n 3, 1) := by decide +kernel
theorem dc_L_law_583 : decode cd_L_law 583 = .ok (.invokestatic 111, 3) := by decide +kernel
theorem dc_L_law_586 : decode cd_L_law 586 = .ok (.istore 5, 2) := by decide +kernel
theorem dc_L_law_588 : decode cd_L_law 588 = .ok (.aload_n 2, 1) := by decide +kernel
theorem dc_L_law_589 : decode cd_L_law 589 = .ok (.invokevirtual 113, 3) := by decide +kernel
theorem dc_L_law_592 : decode cd_L_law 592 = .ok (.istore 6, 2) := by decide +kernel
theorem dc_L_law_594 : decode cd_L_law 594 = .ok (.aload_n 2, 1) := by decide +kernel
theorem dc_L_law_595 : decode cd_L_law 595 = .ok (.invokevirtual 72, 3) := by decide +kernel
theorem dc_L_law_598 : decode cd_L_law 598 = .ok (.iload 5, 2) := by decide +kernel
theorem dc_L_law_600 : decode cd_L_law 600 = .ok (.if_icmp .eq 5, 3) := by decide +kernel
theorem dc_L_law_603 : decode cd_L_law 603 = .ok (.iconst 0, 1) := by decide +kernel
theorem dc_L_law_604 : decode cd_L_law 604 = .ok (.ireturn, 1) := by decide +kernel
theorem dc_L_law_605 : decode cd_L_law 605 = .ok (.iload 5, 2) := by decide +kernel
theorem dc_L_law_607 : decode cd_L_law 607 = .ok (.ifCond .ne 15, 3) := by decide +kernel
theorem dc_L_law_610 : decode cd_L_law 610 = .ok (.aload_n 3, 1) := by decide +kernel
theorem dc_L_law_611 : decode cd_L_law 611 = .ok (.iconst 0, 1) := by decide +kernel
theorem dc_L_law_612 : decode cd_L_law 612 = .ok (.laload, 1) := by decide +kernel
theorem dc_L_law_613 : decode cd_L_law 613 = .ok (.iload 6, 2) := by decide +kernel
theorem dc_L_law_615 : decode cd_L_law 615 = .ok (.i2l, 1) := by decide +kernel
theorem dc_L_law_616 : decode cd_L_law 616 = .ok (.lcmp, 1) := by decide +kernel
theorem dc_L_law_617 : decode cd_L_law 617 = .ok (.ifCond .eq 5, 3) := by decide +kernel
theorem dc_L_law_620 : decode cd_L_law 620 = .ok (.iconst 0, 1) := by decide +kernel
theorem dc_L_law_621 : decode cd_L_law 621 = .ok (.ireturn, 1) := by decide +kernel
theorem dc_L_law_622 : decode cd_L_law 622 = .ok (.goto 273, 3) := by decide +kernel
theorem dc_L_law_625 : decode cd_L_law 625 = .ok (.aload_n 1, 1) := by decide +kernel
theorem dc_L_law_626 : decode cd_L_law 626 = .ok (.aload_n 3, 1) := by decide +kernel
theorem dc_L_law_627 : decode cd_L_law 627 = .ok (.invokestatic 114, 3) := by decide +kernel
theorem dc_L_law_630 : decode cd_L_law 630 = .ok (.istore 5, 2) := by decide +kernel
theorem dc_L_law_632 : decode cd_L_law 632 = .ok (.aload_n 2, 1) := by decide +kernel
theorem dc_L_law_633 : decode cd_L_law 633 = .ok (.invokevirtual 116, 3) := by decide +kernel
theorem dc_L_law_636 : decode cd_L_law 636 = .ok (.istore 6, 2) := by decide +kernel
theorem dc_L_law_638 : decode cd_L_law 638 = .ok (.aload_n 2, 1) := by decide +kernel
theorem dc_L_law_639 : decode cd_L_law 639 = .ok (.invokevirtual 72, 3) := by decide +kernel
theorem dc_L_law_642 : decode cd_L_law 642 = .ok (.iload 5, 2) := by decide +kernel
theorem dc_L_law_644 : decode cd_L_law 644 = .ok (.if_icmp .eq 5, 3) := by decide +kernel
theorem dc_L_law_647 : decode cd_L_law 647 = .ok (.iconst 0, 1) := by decide +kernel
theorem dc_L_law_648 : decode cd_L_law 648 = .ok (.ireturn, 1) := by decide +kernel
theorem dc_L_law_649 : decode cd_L_law 649 = .ok (.iload 5, 2) := by decide +kernel
theorem dc_L_law_651 : decode cd_L_law 651 = .ok (.ifCond .ne 15, 3) := by decide +kernel
theorem dc_L_law_654 : decode cd_L_law 654 = .ok (.aload_n 3, 1) := by decide +kernel
theorem dc_L_law_655 : decode cd_L_law 655 = .ok (.iconst 0, 1) := by decide +kernel
theorem dc_L_law_656 : decode cd_L_law 656 = .ok (.laload, 1) := by decide +kernel
theorem dc_L_law_657 : decode cd_L_law 657 = .ok (.iload 6, 2) := by decide +kernel
theorem dc_L_law_659 : decode cd_L_law 659 = .ok (.i2l, 1) := by decide +kernel
theorem dc_L_law_660 : decode cd_L_law 660 = .ok (.lcmp, 1) := by decide +kernel
theorem dc_L_law_661 : decode cd_L_law 661 = .ok (.ifCond .eq 5, 3) := by decide +kernel
theorem dc_L_law_664 : decode cd_L_law 664 = .ok (.iconst 0, 1) := by decide +kernel
theorem dc_L_law_665 : decode cd_L_law 665 = .ok (.ireturn, 1) := by decide +kernel
theorem dc_L_law_666 : decode cd_L_law 666 = .ok (.goto 229, 3) := by decide +kernel
theorem dc_L_law_669 : decode cd_L_law 669 = .ok (.aload_n 1, 1) := by decide +kernel
theorem dc_L_law_670 : decode cd_L_law 670 = .ok (.aload_n 3, 1) := by decide +kernel
theorem dc_L_law_671 : decode cd_L_law 671 = .ok (.invokestatic 117, 3) := by decide +kernel
theorem dc_L_law_674 : decode cd_L_law 674 = .ok (.istore 5, 2) := by decide +kernel
theorem dc_L_law_676 : decode cd_L_law 676 = .ok (.aload_n 2, 1) := by decide +kernel
theorem dc_L_law_677 : decode cd_L_law 677 = .ok (.invokevirtual 119, 3) := by decide +kernel
theorem dc_L_law_680 : decode cd_L_law 680 = .ok (.istore 6, 2) := by decide +kernel
theorem dc_L_law_682 : decode cd_L_law 682 = .ok (.aload_n 2, 1) := by decide +kernel
theorem dc_L_law_683 : decode cd_L_law 683 = .ok (.invokevirtual 72, 3) := by decide +kernel
theorem dc_L_law_686 : decode cd_L_law 686 = .ok (.iload 5, 2) := by decide +kernel
theorem dc_L_law_688 : decode cd_L_law 688 = .ok (.if_icmp .eq 5, 3) := by decide +kernel
theorem dc_L_law_691 : decode cd_L_law 691 = .ok (.iconst 0, 1) := by decide +kernel
theorem dc_L_law_692 : decode cd_L_law 692 = .ok (.ireturn, 1) := by decide +kernel
theorem dc_L_law_693 : decode cd_L_law 693 = .ok (.iload 5, 2) := by decide +kernel
theorem dc_L_law_695 : decode cd_L_law 695 = .ok (.ifCond .ne 15, 3) := by decide +kernel
theorem dc_L_law_698 : decode cd_L_law 698 = .ok (.aload_n 3, 1) := by decide +kernel
theorem dc_L_law_699 : decode cd_L_law 699 = .ok (.iconst 0, 1) := by decide +kernel
theorem dc_L_law_700 : decode cd_L_law 700 = .ok (.laload, 1) := by decide +kernel
theorem dc_L_law_701 : decode cd_L_law 701 = .ok (.iload 6, 2) := by decide +kernel
theorem dc_L_law_703 : decode cd_L_law 703 = .ok (.i2l, 1) := by decide +kernel
theorem dc_L_law_704 : decode cd_L_law 704 = .ok (.lcmp, 1) := by decide +kernel
theorem dc_L_law_705 : decode cd_L_law 705 = .ok (.ifCond .eq 5, 3) := by decide +kernel
theorem dc_L_law_708 : decode cd_L_law 708 = .ok (.iconst 0, 1) := by decide +kernel
theorem dc_L_law_709 : decode cd_L_law 709 = .ok (.ireturn, 1) := by decide +kernel
theorem dc_L_law_710 : decode cd_L_law 710 = .ok (.goto 185, 3) := by decide +kernel
theorem dc_L_law_713 : decode cd_L_law 713 = .ok (.aload_n 1, 1) := by decide +kernel
theorem dc_L_law_714 : decode cd_L_law 714 = .ok (.aload_n 3, 1) := by decide +kernel
theorem dc_L_law_715 : decode cd_L_law 715 = .ok (.invokestatic 120, 3) := by decide +kernel
theorem dc_L_law_718 : decode cd_L_law 718 = .ok (.istore 5, 2) := by decide +kernel
theorem dc_L_law_720 : decode cd_L_law 720 = .ok (.aload_n 2, 1) := by decide +kernel
theorem dc_L_law_721 : decode cd_L_law 721 = .ok (.invokevirtual 122, 3) := by decide +kernel
theorem dc_L_law_724 : decode cd_L_law 724 = .ok (.istore 6, 2) := by decide +kernel
theorem dc_L_law_726 : decode cd_L_law 726 = .ok (.aload_n 2, 1) := by decide +kernel
theorem dc_L_law_727 : decode cd_L_law 727 = .ok (.invokevirtual 72, 3) := by decide +kernel
theorem dc_L_law_730 : decode cd_L_law 730 = .ok (.iload 5, 2) := by decide +kernel
theorem dc_L_law_732 : decode cd_L_law 732 = .ok (.if_icmp .eq 5, 3) := by decide +kernel
theorem dc_L_law_735 : decode cd_L_law 735 = .ok (.iconst 0, 1) := by decide +kernel
theorem dc_L_law_736 : decode cd_L_law 736 = .ok (.ireturn, 1) := by decide +kernel
theorem dc_L_law_737 : decode cd_L_law 737 = .ok (.iload 5, 2) := by decide +kernel
theorem dc_L_law_739 : decode cd_L_law 739 = .ok (.ifCond .ne 15, 3) := by decide +kernel
theorem dc_L_law_742 : decode cd_L_law 742 = .ok (.aload_n 3, 1) := by decide +kernel
theorem dc_L_law_743 : decode cd_L_law 743 = .ok (.iconst 0, 1) := by decide +kernel
theorem dc_L_law_744 : decode cd_L_law 744 = .ok (.laload, 1) := by decide +kernel
theorem dc_L_law_745 : decode cd_L_law 745 = .ok (.iload 6, 2) := by decide +kernel
theorem dc_L_law_747 : decode cd_L_law 747 = .ok (.i2l, 1) := by decide +kernel
theorem dc_L_law_748 : decode cd_L_law 748 = .ok (.lcmp, 1) := by decide +kernel
theorem dc_L_law_749 : decode cd_L_law 749 = .ok (.ifCond .eq 5, 3) := by decide +kernel
theorem dc_L_law_752 : decode cd_L_law 752 = .ok (.iconst 0, 1) := by decide +kernel
theorem dc_L_law_753 : decode cd_L_law 753 = .ok (.ireturn, 1) := by decide +kernel
theorem dc_L_law_754 : decode cd_L_law 754 = .ok (.goto 141, 3) := by decide +kernel
theorem dc_L_law_757 : decode cd_L_law 757 = .ok (.aload_n 1, 1) := by decide +kernel
theorem dc_L_law_758 : decode cd_L_law 758 = .ok (.invokevirtual 123, 3) := by decide +kernel
theorem dc_L_law_761 : decode cd_L_law 761 = .ok (.aload_n 2, 1) := by decide +kernel
theorem dc_L_law_762 : decode cd_L_law 762 = .ok (.invokevirtual 126, 3) := by decide +kernel
theorem dc_L_law_765 : decode cd_L_law 765 = .ok (.if_icmp .eq 130, 3) := by decide +kernel
theorem dc_L_law_768 : decode cd_L_law 768 = .ok (.iconst 0, 1) := by decide +kernel
theorem dc_L_law_769 : decode cd_L_law 769 = .ok (.ireturn, 1) := by decide +kernel
theorem dc_L_law_770 : decode cd_L_law 770 = .ok (.aload_n 1, 1) := by decide +kernel
theorem dc_L_law_771 : decode cd_L_law 771 = .ok (.aload_n 0, 1) := by decide +kernel
theorem dc_L_law_772 : decode cd_L_law 772 = .ok (.iload 4, 2) := by decide +kernel
theorem dc_L_law_774 : decode cd_L_law 774 = .ok (.iconst 1, 1) := by decide +kernel
theorem dc_L_law_775 : decode cd_L_law 775 = .ok (.iadd, 1) := by decide +kernel
theorem dc_L_law_776 : decode cd_L_law 776 = .ok (.iaload, 1) := by decide +kernel
theorem dc_L_law_777 : decode cd_L_law 777 = .ok (.aload_n 3, 1) := by decide +kernel
theorem dc_L_law_778 : decode cd_L_law 778 = .ok (.invokestatic 127, 3) := by decide +kernel
theorem dc_L_law_781 : decode cd_L_law 781 = .ok (.istore 5, 2) := by decide +kernel
theorem dc_L_law_783 : decode cd_L_law 783 = .ok (.aload_n 2, 1) := by decide +kernel
theorem dc_L_law_784 : decode cd_L_law 784 = .ok (.aload_n 0, 1) := by decide +kernel
theorem dc_L_law_785 : decode cd_L_law 785 = .ok (.iload 4, 2) := by decide +kernel
theorem dc_L_law_787 : decode cd_L_law 787 = .ok (.iconst 1, 1) := by decide +kernel
theorem dc_L_law_788 : decode cd_L_law 788 = .ok (.iadd, 1) := by decide +kernel
theorem dc_L_law_789 : decode cd_L_law 789 = .ok (.iaload, 1) := by decide +kernel
theorem dc_L_law_790 : decode cd_L_law 790 = .ok (.invokevirtual 129, 3) := by decide +kernel
theorem dc_L_law_793 : decode cd_L_law 793 = .ok (.istore 6, 2) := by decide +kernel
theorem dc_L_law_795 : decode cd_L_law 795 = .ok (.aload_n 2, 1) := by decide +kernel
theorem dc_L_law_796 : decode cd_L_law 796 = .ok (.invokevirtual 72, 3) := by decide +kernel
theorem dc_L_law_799 : decode cd_L_law 799 = .ok (.iload 5, 2) := by decide +kernel
theorem dc_L_law_801 : decode cd_L_law 801 = .ok (.if_icmp .eq 5, 3) := by decide +kernel
theorem dc_L_law_804 : decode cd_L_law 804 = .ok (.iconst 0, 1) := by decide +kernel
theorem dc_L_law_805 : decode cd_L_law 805 = .ok (.ireturn, 1) := by decide +kernel
theorem dc_L_law_806 : decode cd_L_law 806 = .ok (.iload 5, 2) := by decide +kernel
theorem dc_L_law_808 : decode cd_L_law 808 = .ok (.ifCond .ne 15, 3) := by decide +kernel
theorem dc_L_law_811 : decode cd_L_law 811 = .ok (.aload_n 3, 1) := by decide +kernel
theorem dc_L_law_812 : decode cd_L_law 812 = .ok (.iconst 0, 1) := by decide +kernel
theorem dc_L_law_813 : decode cd_L_law 813 = .ok (.laload, 1) := by decide +kernel
theorem dc_L_law_814 : decode cd_L_law 814 = .ok (.iload 6, 2) := by decide +kernel
theorem dc_L_law_816 : decode cd_L_law 816 = .ok (.i2l, 1) := by decide +kernel
theorem dc_L_law_817 : decode cd_L_law 817 = .ok (.lcmp, 1) := by decide +kernel
theorem dc_L_law_818 : decode cd_L_law 818 = .ok (.ifCond .eq 5, 3) := by decide +kernel
theorem dc_L_law_821 : decode cd_L_law 821 = .ok (.iconst 0, 1) := by decide +kernel
theorem dc_L_law_822 : decode cd_L_law 822 = .ok (.ireturn, 1) := by decide +kernel
theorem dc_L_law_823 : decode cd_L_law 823 = .ok (.goto 72, 3) := by decide +kernel
theorem dc_L_law_826 : decode cd_L_law 826 = .ok (.aload_n 1, 1) := by decide +kernel
theorem dc_L_law_827 : decode cd_L_law 827 = .ok (.invokevirtual 130, 3) := by decide +kernel
theorem dc_L_law_830 : decode cd_L_law 830 = .ok (.aload_n 2, 1) := by decide +kernel
theorem dc_L_law_831 : decode cd_L_law 831 = .ok (.invokevirtual 133, 3) := by decide +kernel
theorem dc_L_law_834 : decode cd_L_law 834 = .ok (.if_icmp .eq 61, 3) := by decide +kernel
theorem dc_L_law_837 : decode cd_L_law 837 = .ok (.iconst 0, 1) := by decide +kernel
theorem dc_L_law_838 : decode cd_L_law 838 = .ok (.ireturn, 1) := by decide +kernel
theorem dc_L_law_839 : decode cd_L_law 839 = .ok (.aload_n 1, 1) := by decide +kernel
theorem dc_L_law_840 : decode cd_L_law 840 = .ok (.aload_n 0, 1) := by decide +kernel
theorem dc_L_law_841 : decode cd_L_law 841 = .ok (.iload 4, 2) := by decide +kernel
theorem dc_L_law_843 : decode cd_L_law 843 = .ok (.iconst 1, 1) := by decide +kernel
theorem dc_L_law_844 : decode cd_L_law 844 = .ok (.iadd, 1) := by decide +kernel
theorem dc_L_law_845 : decode cd_L_law 845 = .ok (.iaload, 1) := by decide +kernel
theorem dc_L_law_846 : decode cd_L_law 846 = .ok (.aload_n 3, 1) := by decide +kernel
theorem dc_L_law_847 : decode cd_L_law 847 = .ok (.invokestatic 134, 3) := by decide +kernel
theorem dc_L_law_850 : decode cd_L_law 850 = .ok (.istore 5, 2) := by decide +kernel
theorem dc_L_law_852 : decode cd_L_law 852 = .ok (.aload_n 2, 1) := by decide +kernel
theorem dc_L_law_853 : decode cd_L_law 853 = .ok (.aload_n 0, 1) := by decide +kernel
theorem dc_L_law_854 : decode cd_L_law 854 = .ok (.iload 4, 2) := by decide +kernel
theorem dc_L_law_856 : decode cd_L_law 856 = .ok (.iconst 1, 1) := by decide +kernel
theorem dc_L_law_857 : decode cd_L_law 857 = .ok (.iadd, 1) := by decide +kernel
theorem dc_L_law_858 : decode cd_L_law 858 = .ok (.iaload, 1) := by decide +kernel
theorem dc_L_law_859 : decode cd_L_law 859 = .ok (.invokevirtual 136, 3) := by decide +kernel
theorem dc_L_law_862 : decode cd_L_law 862 = .ok (.istore 6, 2) := by decide +kernel
theorem dc_L_law_864 : decode cd_L_law 864 = .ok (.aload_n 2, 1) := by decide +kernel
theorem dc_L_law_865 : decode cd_L_law 865 = .ok (.invokevirtual 72, 3) := by decide +kernel
theorem dc_L_law_868 : decode cd_L_law 868 = .ok (.iload 5, 2) := by decide +kernel
theorem dc_L_law_870 : decode cd_L_law 870 = .ok (.if_icmp .eq 5, 3) := by decide +kernel
theorem dc_L_law_873 : decode cd_L_law 873 = .ok (.iconst 0, 1) := by decide +kernel
theorem dc_L_law_874 : decode cd_L_law 874 = .ok (.ireturn, 1) := by decide +kernel
theorem dc_L_law_875 : decode cd_L_law 875 = .ok (.iload 5, 2) := by decide +kernel
theorem dc_L_law_877 : decode cd_L_law 877 = .ok (.ifCond .ne 15, 3) := by decide +kernel
theorem dc_L_law_880 : decode cd_L_law 880 = .ok (.aload_n 3, 1) := by decide +kernel
theorem dc_L_law_881 : decode cd_L_law 881 = .ok (.iconst 0, 1) := by decide +kernel
theorem dc_L_law_882 : decode cd_L_law 882 = .ok (.laload, 1) := by decide +kernel
theorem dc_L_law_883 : decode cd_L_law 883 = .ok (.iload 6, 2) := by decide +kernel
theorem dc_L_law_885 : decode cd_L_law 885 = .ok (.i2l, 1) := by decide +kernel
theorem dc_L_law_886 : decode cd_L_law 886 = .ok (.lcmp, 1) := by decide +kernel
theorem dc_L_law_887 : decode cd_L_law 887 = .ok (.ifCond .eq 5, 3) := by decide +kernel
theorem dc_L_law_890 : decode cd_L_law 890 = .ok (.iconst 0, 1) := by decide +kernel
theorem dc_L_law_891 : decode cd_L_law 891 = .ok (.ireturn, 1) := by decide +kernel
theorem dc_L_law_892 : decode cd_L_law 892 = .ok (.goto 3, 3) := by decide +kernel
theorem dc_L_law_895 : decode cd_L_law 895 = .ok (.iinc 4 3, 3) := by decide +kernel
theorem dc_L_law_898 : decode cd_L_law 898 = .ok (.goto (-875), 3) := by decide +kernel
theorem dc_L_law_901 : decode cd_L_law 901 = .ok (.iconst 1, 1) := by decide +kernel
theorem dc_L_law_902 : decode cd_L_law 902 = .ok (.ireturn, 1) := by decide +kernel
end
section
theorem wd_0 : Cond.initialized "CoinStringsLaw" ∈ gw_tbl := gw_t (i := 0) (by decide +kernel) (by decide +kernel)
theorem wd_1 : Cond.initialized "CoinStrings" ∈ gw_tbl := gw_t (i := 1) (by decide +kernel) (by decide +kernel)
theorem wd_2 : Cond.initialized "CoinStrings$Web" ∈ gw_tbl := gw_t (i := 2) (by decide +kernel) (by decide +kernel)
theorem wd_3 : Cond.initialized "CoinStrings$Values" ∈ gw_tbl := gw_t (i := 3) (by decide +kernel) (by decide +kernel)
theorem wd_4 : Cond.initialized "CoinStrings$Margins" ∈ gw_tbl := gw_t (i := 4) (by decide +kernel) (by decide +kernel)
theorem wd_5 : Cond.initialized "CoinStrings$NimValues" ∈ gw_tbl := gw_t (i := 5) (by decide +kernel) (by decide +kernel)
theorem wd_6 : Cond.initialized "CoinStrings$Grouping" ∈ gw_tbl := gw_t (i := 6) (by decide +kernel) (by decide +kernel)
theorem wd_7 : Cond.initialized "CoinStrings$Text" ∈ gw_tbl := gw_t (i := 7) (by decide +kernel) (by decide +kernel)
theorem wd_8 : Cond.initialized "CoinStringsModel" ∈ gw_tbl := gw_t (i := 8) (by decide +kernel) (by decide +kernel)
theorem wd_9 : Cond.initialized "java/lang/Throwable" ∈ gw_tbl := gw_t (i := 9) (by decide +kernel) (by decide +kernel)
theorem wd_10 : Cond.initialized "java/lang/Exception" ∈ gw_tbl := gw_t (i := 10) (by decide +kernel) (by decide +kernel)
theorem wd_11 : Cond.initialized "java/lang/RuntimeException" ∈ gw_tbl := gw_t (i := 11) (by decide +kernel) (by decide +kernel)
theorem wd_12 : Cond.initialized "java/lang/IllegalArgumentException" ∈ gw_tbl := gw_t (i := 12) (by decide +kernel) (by decide +kernel)
theorem wd_13 : Cond.initialized "java/lang/IllegalStateException" ∈ gw_tbl := gw_t (i := 13) (by decide +kernel) (by decide +kernel)
theorem wd_14 : Cond.initialized "java/lang/Math" ∈ gw_tbl := gw_t (i := 14) (by decide +kernel) (by decide +kernel)
theorem wd_15 : Cond.initialized "java/util/Arrays" ∈ gw_tbl := gw_t (i := 15) (by decide +kernel) (by decide +kernel)
theorem wd_16 : Cond.initialized "java/lang/IndexOutOfBoundsException" ∈ gw_tbl := gw_t (i := 16) (by decide +kernel) (by decide +kernel)
theorem wd_17 : Cond.initialized "java/util/NoSuchElementException" ∈ gw_tbl := gw_t (i := 17) (by decide +kernel) (by decide +kernel)
theorem wd_18 : Cond.initialized "java/lang/Integer" ∈ gw_tbl := gw_t (i := 18) (by decide +kernel) (by decide +kernel)
theorem wd_19 : Cond.classLink "CoinStringsLaw" 8 "CoinStrings" ∈ gw_tbl := gw_t (i := 19) (by decide +kernel) (by decide +kernel)
theorem wd_20 : Cond.instantiable "CoinStrings" 12 ∈ gw_tbl := gw_t (i := 20) (by decide +kernel) (by decide +kernel)
theorem wd_21 : Cond.methodLink "CoinStringsLaw" 62 ⟨"CoinStrings", "<init>", "()V"⟩ ∈ gw_tbl := gw_t (i := 21) (by decide +kernel) (by decide +kernel)
theorem wd_22 : Cond.instanceMethod ⟨"CoinStrings", "<init>", "()V"⟩ ∈ gw_tbl := gw_t (i := 22) (by decide +kernel) (by decide +kernel)
theorem wd_23 : Cond.code ⟨"CoinStrings", "<init>", "()V"⟩ prog_1_method_1_code 1 (none) ∈ gw_tbl := gw_t (i := 23) (by decide +kernel) (by decide +kernel)
theorem wd_24 : Cond.methodLink "CoinStrings" 3 ⟨"java/lang/Object", "<init>", "()V"⟩ ∈ gw_tbl := gw_t (i := 24) (by decide +kernel) (by decide +kernel)
theorem wd_25 : Cond.instanceMethod ⟨"java/lang/Object", "<init>", "()V"⟩ ∈ gw_tbl := gw_t (i := 25) (by decide +kernel) (by decide +kernel)
theorem wd_26 : Cond.code ⟨"java/lang/Object", "<init>", "()V"⟩ object_method_1_code 1 (none) ∈ gw_tbl := gw_t (i := 26) (by decide +kernel) (by decide +kernel)
theorem wd_27 : Cond.classLink "CoinStrings" 9 "CoinStrings$Web" ∈ gw_tbl := gw_t (i := 27) (by decide +kernel) (by decide +kernel)
theorem wd_28 : Cond.instantiable "CoinStrings$Web" 4 ∈ gw_tbl := gw_t (i := 28) (by decide +kernel) (by decide +kernel)
theorem wd_30 : Cond.instanceMethod ⟨"CoinStrings$Web", "<init>", "()V"⟩ ∈ gw_tbl := gw_t (i := 30) (by decide +kernel) (by decide +kernel)
theorem wd_31 : Cond.code ⟨"CoinStrings$Web", "<init>", "()V"⟩ prog_7_method_1_code 1 (none) ∈ gw_tbl := gw_t (i := 31) (by decide +kernel) (by decide +kernel)
theorem wd_32 : Cond.methodLink "CoinStrings$Web" 3 ⟨"java/lang/Object", "<init>", "()V"⟩ ∈ gw_tbl := gw_t (i := 32) (by decide +kernel) (by decide +kernel)
theorem wd_33 : Cond.fieldLink "CoinStrings$Web" 9 "CoinStrings$Web" "lesserEnds" "[I" ∈ gw_tbl := gw_t (i := 33) (by decide +kernel) (by decide +kernel)
theorem wd_34 : Cond.fieldLink "CoinStrings$Web" 15 "CoinStrings$Web" "otherEnds" "[I" ∈ gw_tbl := gw_t (i := 34) (by decide +kernel) (by decide +kernel)
theorem wd_35 : Cond.fieldLink "CoinStrings$Web" 18 "CoinStrings$Web" "stringsOfCoins" "[I" ∈ gw_tbl := gw_t (i := 35) (by decide +kernel) (by decide +kernel)
theorem wd_36 : Cond.fieldLink "CoinStrings$Web" 21 "CoinStrings$Web" "size" "I" ∈ gw_tbl := gw_t (i := 36) (by decide +kernel) (by decide +kernel)
theorem wd_46 : Cond.arrayClass .int ∈ gw_tbl := gw_t (i := 46) (by decide +kernel) (by decide +kernel)
theorem wd_47 : Cond.classLink "CoinStrings" 16 "CoinStrings$Margins" ∈ gw_tbl := gw_t (i := 47) (by decide +kernel) (by decide +kernel)
theorem wd_48 : Cond.instantiable "CoinStrings$Margins" 3 ∈ gw_tbl := gw_t (i := 48) (by decide +kernel) (by decide +kernel)
theorem wd_49 : Cond.methodLink "CoinStrings" 18 ⟨"CoinStrings$Margins", "<init>", "(LCoinStrings$Web;)V"⟩ ∈ gw_tbl := gw_t (i := 49) (by decide +kernel) (by decide +kernel)
theorem wd_50 : Cond.instanceMethod ⟨"CoinStrings$Margins", "<init>", "(LCoinStrings$Web;)V"⟩ ∈ gw_tbl := gw_t (i := 50) (by decide +kernel) (by decide +kernel)
theorem wd_51 : Cond.code ⟨"CoinStrings$Margins", "<init>", "(LCoinStrings$Web;)V"⟩ prog_3_method_1_code 2 (none) ∈ gw_tbl := gw_t (i := 51) (by decide +kernel) (by decide +kernel)
theorem wd_52 : Cond.methodLink "CoinStrings$Margins" 3 ⟨"CoinStrings$Values", "<init>", "(LCoinStrings$Web;)V"⟩ ∈ gw_tbl := gw_t (i := 52) (by decide +kernel) (by decide +kernel)
theorem wd_53 : Cond.instanceMethod ⟨"CoinStrings$Values", "<init>", "(LCoinStrings$Web;)V"⟩ ∈ gw_tbl := gw_t (i := 53) (by decide +kernel) (by decide +kernel)
theorem wd_54 : Cond.code ⟨"CoinStrings$Values", "<init>", "(LCoinStrings$Web;)V"⟩ prog_6_method_1_code 2 (none) ∈ gw_tbl := gw_t (i := 54) (by decide +kernel) (by decide +kernel)
theorem wd_55 : Cond.methodLink "CoinStrings$Values" 3 ⟨"java/lang/Object", "<init>", "()V"⟩ ∈ gw_tbl := gw_t (i := 55) (by decide +kernel) (by decide +kernel)
theorem wd_56 : Cond.fieldLink "CoinStrings$Values" 15 "CoinStrings$Values" "web" "LCoinStrings$Web;" ∈ gw_tbl := gw_t (i := 56) (by decide +kernel) (by decide +kernel)
theorem wd_57 : Cond.fieldLink "CoinStrings$Margins" 9 "CoinStrings$Margins" "web" "LCoinStrings$Web;" ∈ gw_tbl := gw_t (i := 57) (by decide +kernel) (by decide +kernel)
theorem wd_58 : Cond.sameField "CoinStrings$Margins" "CoinStrings$Values" "web" "LCoinStrings$Web;" ∈ gw_tbl := gw_t (i := 58) (by decide +kernel) (by decide +kernel)
theorem wd_59 : Cond.fieldLink "CoinStrings$NimValues" 9 "CoinStrings$NimValues" "web" "LCoinStrings$Web;" ∈ gw_tbl := gw_t (i := 59) (by decide +kernel) (by decide +kernel)
theorem wd_60 : Cond.sameField "CoinStrings$NimValues" "CoinStrings$Values" "web" "LCoinStrings$Web;" ∈ gw_tbl := gw_t (i := 60) (by decide +kernel) (by decide +kernel)
theorem wd_61 : Cond.fieldLink "CoinStrings$Values" 9 "CoinStrings$Values" "known" "[B" ∈ gw_tbl := gw_t (i := 61) (by decide +kernel) (by decide +kernel)
theorem wd_62 : Cond.fieldLink "CoinStrings$NimValues" 25 "CoinStrings$NimValues" "known" "[B" ∈ gw_tbl := gw_t (i := 62) (by decide +kernel) (by decide +kernel)
theorem wd_63 : Cond.sameField "CoinStrings$NimValues" "CoinStrings$Values" "known" "[B" ∈ gw_tbl := gw_t (i := 63) (by decide +kernel) (by decide +kernel)
theorem wd_64 : Cond.fieldLink "CoinStrings$Margins" 34 "CoinStrings$Margins" "known" "[B" ∈ gw_tbl := gw_t (i := 64) (by decide +kernel) (by decide +kernel)
theorem wd_65 : Cond.sameField "CoinStrings$Margins" "CoinStrings$Values" "known" "[B" ∈ gw_tbl := gw_t (i := 65) (by decide +kernel) (by decide +kernel)
theorem wd_66 : Cond.fieldLink "CoinStrings$Values" 19 "CoinStrings$Values" "ready" "Z" ∈ gw_tbl := gw_t (i := 66) (by decide +kernel) (by decide +kernel)
theorem wd_74 : Cond.arrayClass .byte ∈ gw_tbl := gw_t (i := 74) (by decide +kernel) (by decide +kernel)
theorem wd_75 : Cond.classLink "CoinStrings" 25 "CoinStrings$NimValues" ∈ gw_tbl := gw_t (i := 75) (by decide +kernel) (by decide +kernel)
theorem wd_76 : Cond.instantiable "CoinStrings$NimValues" 3 ∈ gw_tbl := gw_t (i := 76) (by decide +kernel) (by decide +kernel)
theorem wd_77 : Cond.methodLink "CoinStrings" 27 ⟨"CoinStrings$NimValues", "<init>", "(LCoinStrings$Web;)V"⟩ ∈ gw_tbl := gw_t (i := 77) (by decide +kernel) (by decide +kernel)
theorem wd_78 : Cond.instanceMethod ⟨"CoinStrings$NimValues", "<init>", "(LCoinStrings$Web;)V"⟩ ∈ gw_tbl := gw_t (i := 78) (by decide +kernel) (by decide +kernel)
theorem wd_79 : Cond.code ⟨"CoinStrings$NimValues", "<init>", "(LCoinStrings$Web;)V"⟩ prog_4_method_1_code 2 (none) ∈ gw_tbl := gw_t (i := 79) (by decide +kernel) (by decide +kernel)
theorem wd_80 : Cond.methodLink "CoinStrings$NimValues" 3 ⟨"CoinStrings$Values", "<init>", "(LCoinStrings$Web;)V"⟩ ∈ gw_tbl := gw_t (i := 80) (by decide +kernel) (by decide +kernel)
theorem wd_85 : Cond.classLink "CoinStrings" 32 "CoinStrings$Grouping" ∈ gw_tbl := gw_t (i := 85) (by decide +kernel) (by decide +kernel)
theorem wd_86 : Cond.instantiable "CoinStrings$Grouping" 2 ∈ gw_tbl := gw_t (i := 86) (by decide +kernel) (by decide +kernel)
theorem wd_87 : Cond.methodLink "CoinStrings" 34 ⟨"CoinStrings$Grouping", "<init>", "(LCoinStrings$Web;)V"⟩ ∈ gw_tbl := gw_t (i := 87) (by decide +kernel) (by decide +kernel)
theorem wd_88 : Cond.instanceMethod ⟨"CoinStrings$Grouping", "<init>", "(LCoinStrings$Web;)V"⟩ ∈ gw_tbl := gw_t (i := 88) (by decide +kernel) (by decide +kernel)
theorem wd_89 : Cond.code ⟨"CoinStrings$Grouping", "<init>", "(LCoinStrings$Web;)V"⟩ prog_2_method_1_code 2 (none) ∈ gw_tbl := gw_t (i := 89) (by decide +kernel) (by decide +kernel)
theorem wd_90 : Cond.methodLink "CoinStrings$Grouping" 3 ⟨"java/lang/Object", "<init>", "()V"⟩ ∈ gw_tbl := gw_t (i := 90) (by decide +kernel) (by decide +kernel)
theorem wd_91 : Cond.fieldLink "CoinStrings$Grouping" 15 "CoinStrings$Grouping" "web" "LCoinStrings$Web;" ∈ gw_tbl := gw_t (i := 91) (by decide +kernel) (by decide +kernel)
theorem wd_92 : Cond.fieldLink "CoinStrings$Grouping" 9 "CoinStrings$Grouping" "leaders" "[I" ∈ gw_tbl := gw_t (i := 92) (by decide +kernel) (by decide +kernel)
theorem wd_98 : Cond.classLink "CoinStrings" 39 "CoinStrings$Text" ∈ gw_tbl := gw_t (i := 98) (by decide +kernel) (by decide +kernel)
theorem wd_99 : Cond.instantiable "CoinStrings$Text" 3 ∈ gw_tbl := gw_t (i := 99) (by decide +kernel) (by decide +kernel)
theorem wd_100 : Cond.methodLink "CoinStrings" 41 ⟨"CoinStrings$Text", "<init>", "(LCoinStrings$Web;)V"⟩ ∈ gw_tbl := gw_t (i := 100) (by decide +kernel) (by decide +kernel)
theorem wd_101 : Cond.instanceMethod ⟨"CoinStrings$Text", "<init>", "(LCoinStrings$Web;)V"⟩ ∈ gw_tbl := gw_t (i := 101) (by decide +kernel) (by decide +kernel)
theorem wd_102 : Cond.code ⟨"CoinStrings$Text", "<init>", "(LCoinStrings$Web;)V"⟩ prog_5_method_1_code 2 (none) ∈ gw_tbl := gw_t (i := 102) (by decide +kernel) (by decide +kernel)
theorem wd_103 : Cond.methodLink "CoinStrings$Text" 3 ⟨"java/lang/Object", "<init>", "()V"⟩ ∈ gw_tbl := gw_t (i := 103) (by decide +kernel) (by decide +kernel)
theorem wd_104 : Cond.fieldLink "CoinStrings$Text" 15 "CoinStrings$Text" "web" "LCoinStrings$Web;" ∈ gw_tbl := gw_t (i := 104) (by decide +kernel) (by decide +kernel)
theorem wd_105 : Cond.fieldLink "CoinStrings$Text" 11 "CoinStrings$Text" "characters" "[C" ∈ gw_tbl := gw_t (i := 105) (by decide +kernel) (by decide +kernel)
theorem wd_106 : Cond.fieldLink "CoinStrings$Text" 19 "CoinStrings$Text" "length" "I" ∈ gw_tbl := gw_t (i := 106) (by decide +kernel) (by decide +kernel)
theorem wd_114 : Cond.arrayClass .char ∈ gw_tbl := gw_t (i := 114) (by decide +kernel) (by decide +kernel)
theorem wd_115 : Cond.fieldLink "CoinStrings" 12 "CoinStrings" "web" "LCoinStrings$Web;" ∈ gw_tbl := gw_t (i := 115) (by decide +kernel) (by decide +kernel)
theorem wd_116 : Cond.fieldLink "CoinStrings" 21 "CoinStrings" "margins" "LCoinStrings$Margins;" ∈ gw_tbl := gw_t (i := 116) (by decide +kernel) (by decide +kernel)
theorem wd_117 : Cond.fieldLink "CoinStrings" 28 "CoinStrings" "nimValues" "LCoinStrings$NimValues;" ∈ gw_tbl := gw_t (i := 117) (by decide +kernel) (by decide +kernel)
theorem wd_118 : Cond.fieldLink "CoinStrings" 35 "CoinStrings" "grouping" "LCoinStrings$Grouping;" ∈ gw_tbl := gw_t (i := 118) (by decide +kernel) (by decide +kernel)
theorem wd_119 : Cond.fieldLink "CoinStrings" 42 "CoinStrings" "text" "LCoinStrings$Text;" ∈ gw_tbl := gw_t (i := 119) (by decide +kernel) (by decide +kernel)
theorem wd_120 : Cond.fieldLink "CoinStrings" 46 "CoinStrings" "cutStrings" "[I" ∈ gw_tbl := gw_t (i := 120) (by decide +kernel) (by decide +kernel)
theorem wd_121 : Cond.fieldLink "CoinStrings" 50 "CoinStrings" "cutters" "[I" ∈ gw_tbl := gw_t (i := 121) (by decide +kernel) (by decide +kernel)
theorem wd_122 : Cond.fieldLink "CoinStrings" 53 "CoinStrings" "takings" "[I" ∈ gw_tbl := gw_t (i := 122) (by decide +kernel) (by decide +kernel)
theorem wd_123 : Cond.fieldLink "CoinStrings" 105 "CoinStrings" "cutCount" "I" ∈ gw_tbl := gw_t (i := 123) (by decide +kernel) (by decide +kernel)
theorem wd_124 : Cond.fieldLink "CoinStrings" 81 "CoinStrings" "position" "I" ∈ gw_tbl := gw_t (i := 124) (by decide +kernel) (by decide +kernel)
theorem wd_125 : Cond.fieldLink "CoinStrings" 108 "CoinStrings" "onTurn" "I" ∈ gw_tbl := gw_t (i := 125) (by decide +kernel) (by decide +kernel)
theorem wd_126 : Cond.fieldLink "CoinStrings" 63 "CoinStrings" "begun" "Z" ∈ gw_tbl := gw_t (i := 126) (by decide +kernel) (by decide +kernel)
theorem wd_152 : Cond.methodLink "CoinStringsLaw" 82 ⟨"CoinStrings", "clear", "()V"⟩ ∈ gw_tbl := gw_t (i := 152) (by decide +kernel) (by decide +kernel)
theorem wd_153 : Cond.instanceMethod ⟨"CoinStrings", "clear", "()V"⟩ ∈ gw_tbl := gw_t (i := 153) (by decide +kernel) (by decide +kernel)
theorem wd_154 : Cond.selects "CoinStrings" ⟨"CoinStrings", "clear", "()V"⟩ ⟨"CoinStrings", "clear", "()V"⟩ ∈ gw_tbl := gw_t (i := 154) (by decide +kernel) (by decide +kernel)
theorem wd_155 : Cond.code ⟨"CoinStrings", "clear", "()V"⟩ prog_1_method_5_code 1 (none) ∈ gw_tbl := gw_t (i := 155) (by decide +kernel) (by decide +kernel)
theorem wd_156 : Cond.methodLink "CoinStrings" 96 ⟨"CoinStrings$Web", "dropAll", "()V"⟩ ∈ gw_tbl := gw_t (i := 156) (by decide +kernel) (by decide +kernel)
theorem wd_157 : Cond.instanceMethod ⟨"CoinStrings$Web", "dropAll", "()V"⟩ ∈ gw_tbl := gw_t (i := 157) (by decide +kernel) (by decide +kernel)
theorem wd_158 : Cond.selects "CoinStrings$Web" ⟨"CoinStrings$Web", "dropAll", "()V"⟩ ⟨"CoinStrings$Web", "dropAll", "()V"⟩ ∈ gw_tbl := gw_t (i := 158) (by decide +kernel) (by decide +kernel)
theorem wd_159 : Cond.code ⟨"CoinStrings$Web", "dropAll", "()V"⟩ prog_7_method_6_code 1 (none) ∈ gw_tbl := gw_t (i := 159) (by decide +kernel) (by decide +kernel)
theorem wd_160 : Cond.methodLink "CoinStrings$Web" 25 ⟨"java/util/Arrays", "fill", "([II)V"⟩ ∈ gw_tbl := gw_t (i := 160) (by decide +kernel) (by decide +kernel)
theorem wd_161 : Cond.static ⟨"java/util/Arrays", "fill", "([II)V"⟩ ∈ gw_tbl := gw_t (i := 161) (by decide +kernel) (by decide +kernel)
theorem wd_162 : Cond.code ⟨"java/util/Arrays", "fill", "([II)V"⟩ prog_18_method_103_code 4 (none) ∈ gw_tbl := gw_t (i := 162) (by decide +kernel) (by decide +kernel)
theorem wd_163 : Cond.methodLink "CoinStrings" 99 ⟨"java/util/Arrays", "fill", "([II)V"⟩ ∈ gw_tbl := gw_t (i := 163) (by decide +kernel) (by decide +kernel)
theorem wd_164 : Cond.methodLink "CoinStringsLaw" 97 ⟨"CoinStrings", "turn", "()I"⟩ ∈ gw_tbl := gw_t (i := 164) (by decide +kernel) (by decide +kernel)
theorem wd_165 : Cond.instanceMethod ⟨"CoinStrings", "turn", "()I"⟩ ∈ gw_tbl := gw_t (i := 165) (by decide +kernel) (by decide +kernel)
theorem wd_166 : Cond.selects "CoinStrings" ⟨"CoinStrings", "turn", "()I"⟩ ⟨"CoinStrings", "turn", "()I"⟩ ∈ gw_tbl := gw_t (i := 166) (by decide +kernel) (by decide +kernel)
theorem wd_167 : Cond.code ⟨"CoinStrings", "turn", "()I"⟩ prog_1_method_9_code 1 (some .int) ∈ gw_tbl := gw_t (i := 167) (by decide +kernel) (by decide +kernel)
theorem wd_168 : Cond.methodLink "CoinStringsLaw" 104 ⟨"CoinStrings", "left", "()I"⟩ ∈ gw_tbl := gw_t (i := 168) (by decide +kernel) (by decide +kernel)
theorem wd_169 : Cond.instanceMethod ⟨"CoinStrings", "left", "()I"⟩ ∈ gw_tbl := gw_t (i := 169) (by decide +kernel) (by decide +kernel)
theorem wd_170 : Cond.selects "CoinStrings" ⟨"CoinStrings", "left", "()I"⟩ ⟨"CoinStrings", "left", "()I"⟩ ∈ gw_tbl := gw_t (i := 170) (by decide +kernel) (by decide +kernel)
theorem wd_171 : Cond.code ⟨"CoinStrings", "left", "()I"⟩ prog_1_method_11_code 1 (some .int) ∈ gw_tbl := gw_t (i := 171) (by decide +kernel) (by decide +kernel)
theorem wd_172 : Cond.methodLink "CoinStringsLaw" 123 ⟨"CoinStrings", "groups", "()I"⟩ ∈ gw_tbl := gw_t (i := 172) (by decide +kernel) (by decide +kernel)
theorem wd_173 : Cond.instanceMethod ⟨"CoinStrings", "groups", "()I"⟩ ∈ gw_tbl := gw_t (i := 173) (by decide +kernel) (by decide +kernel)
theorem wd_174 : Cond.selects "CoinStrings" ⟨"CoinStrings", "groups", "()I"⟩ ⟨"CoinStrings", "groups", "()I"⟩ ∈ gw_tbl := gw_t (i := 174) (by decide +kernel) (by decide +kernel)
theorem wd_175 : Cond.code ⟨"CoinStrings", "groups", "()I"⟩ prog_1_method_17_code 1 (some .int) ∈ gw_tbl := gw_t (i := 175) (by decide +kernel) (by decide +kernel)
theorem wd_176 : Cond.methodLink "CoinStrings" 145 ⟨"CoinStrings$Grouping", "sort", "(I)V"⟩ ∈ gw_tbl := gw_t (i := 176) (by decide +kernel) (by decide +kernel)
theorem wd_177 : Cond.instanceMethod ⟨"CoinStrings$Grouping", "sort", "(I)V"⟩ ∈ gw_tbl := gw_t (i := 177) (by decide +kernel) (by decide +kernel)
theorem wd_178 : Cond.selects "CoinStrings$Grouping" ⟨"CoinStrings$Grouping", "sort", "(I)V"⟩ ⟨"CoinStrings$Grouping", "sort", "(I)V"⟩ ∈ gw_tbl := gw_t (i := 178) (by decide +kernel) (by decide +kernel)
theorem wd_179 : Cond.code ⟨"CoinStrings$Grouping", "sort", "(I)V"⟩ prog_2_method_2_code 3 (none) ∈ gw_tbl := gw_t (i := 179) (by decide +kernel) (by decide +kernel)
theorem wd_180 : Cond.methodLink "CoinStrings$Grouping" 19 ⟨"CoinStrings$Web", "holding", "(II)I"⟩ ∈ gw_tbl := gw_t (i := 180) (by decide +kernel) (by decide +kernel)
theorem wd_181 : Cond.instanceMethod ⟨"CoinStrings$Web", "holding", "(II)I"⟩ ∈ gw_tbl := gw_t (i := 181) (by decide +kernel) (by decide +kernel)
theorem wd_182 : Cond.selects "CoinStrings$Web" ⟨"CoinStrings$Web", "holding", "(II)I"⟩ ⟨"CoinStrings$Web", "holding", "(II)I"⟩ ∈ gw_tbl := gw_t (i := 182) (by decide +kernel) (by decide +kernel)
theorem wd_183 : Cond.code ⟨"CoinStrings$Web", "holding", "(II)I"⟩ prog_7_method_9_code 3 (some .int) ∈ gw_tbl := gw_t (i := 183) (by decide +kernel) (by decide +kernel)
theorem wd_184 : Cond.methodLink "CoinStrings$Web" 44 ⟨"java/lang/Integer", "bitCount", "(I)I"⟩ ∈ gw_tbl := gw_t (i := 184) (by decide +kernel) (by decide +kernel)
theorem wd_185 : Cond.static ⟨"java/lang/Integer", "bitCount", "(I)I"⟩ ∈ gw_tbl := gw_t (i := 185) (by decide +kernel) (by decide +kernel)
theorem wd_186 : Cond.code ⟨"java/lang/Integer", "bitCount", "(I)I"⟩ prog_14_method_49_code 1 (some .int) ∈ gw_tbl := gw_t (i := 186) (by decide +kernel) (by decide +kernel)
theorem wd_187 : Cond.constant "java/lang/Integer" 265 1431655765 ∈ gw_tbl := gw_t (i := 187) (by decide +kernel) (by decide +kernel)
theorem wd_188 : Cond.constant "java/lang/Integer" 266 858993459 ∈ gw_tbl := gw_t (i := 188) (by decide +kernel) (by decide +kernel)
theorem wd_189 : Cond.constant "java/lang/Integer" 267 252645135 ∈ gw_tbl := gw_t (i := 189) (by decide +kernel) (by decide +kernel)
theorem wd_190 : Cond.methodLink "CoinStrings$Grouping" 25 ⟨"CoinStrings$Web", "size", "()I"⟩ ∈ gw_tbl := gw_t (i := 190) (by decide +kernel) (by decide +kernel)
theorem wd_191 : Cond.instanceMethod ⟨"CoinStrings$Web", "size", "()I"⟩ ∈ gw_tbl := gw_t (i := 191) (by decide +kernel) (by decide +kernel)
theorem wd_192 : Cond.selects "CoinStrings$Web" ⟨"CoinStrings$Web", "size", "()I"⟩ ⟨"CoinStrings$Web", "size", "()I"⟩ ∈ gw_tbl := gw_t (i := 192) (by decide +kernel) (by decide +kernel)
theorem wd_193 : Cond.code ⟨"CoinStrings$Web", "size", "()I"⟩ prog_7_method_2_code 1 (some .int) ∈ gw_tbl := gw_t (i := 193) (by decide +kernel) (by decide +kernel)
theorem wd_195 : Cond.static ⟨"CoinStrings", "has", "(II)Z"⟩ ∈ gw_tbl := gw_t (i := 195) (by decide +kernel) (by decide +kernel)
theorem wd_196 : Cond.code ⟨"CoinStrings", "has", "(II)Z"⟩ prog_1_method_25_code 2 (some .boolean) ∈ gw_tbl := gw_t (i := 196) (by decide +kernel) (by decide +kernel)
theorem wd_197 : Cond.methodLink "CoinStrings$Grouping" 33 ⟨"CoinStrings$Web", "lesserEnd", "(I)I"⟩ ∈ gw_tbl := gw_t (i := 197) (by decide +kernel) (by decide +kernel)
theorem wd_198 : Cond.instanceMethod ⟨"CoinStrings$Web", "lesserEnd", "(I)I"⟩ ∈ gw_tbl := gw_t (i := 198) (by decide +kernel) (by decide +kernel)
theorem wd_199 : Cond.selects "CoinStrings$Web" ⟨"CoinStrings$Web", "lesserEnd", "(I)I"⟩ ⟨"CoinStrings$Web", "lesserEnd", "(I)I"⟩ ∈ gw_tbl := gw_t (i := 199) (by decide +kernel) (by decide +kernel)
theorem wd_200 : Cond.code ⟨"CoinStrings$Web", "lesserEnd", "(I)I"⟩ prog_7_method_4_code 2 (some .int) ∈ gw_tbl := gw_t (i := 200) (by decide +kernel) (by decide +kernel)
theorem wd_201 : Cond.methodLink "CoinStrings$Grouping" 37 ⟨"CoinStrings$Grouping", "leaderOf", "(I)I"⟩ ∈ gw_tbl := gw_t (i := 201) (by decide +kernel) (by decide +kernel)
theorem wd_203 : Cond.instanceMethod ⟨"CoinStrings$Grouping", "leaderOf", "(I)I"⟩ ∈ gw_tbl := gw_t (i := 203) (by decide +kernel) (by decide +kernel)
theorem wd_204 : Cond.code ⟨"CoinStrings$Grouping", "leaderOf", "(I)I"⟩ prog_2_method_7_code 2 (some .int) ∈ gw_tbl := gw_t (i := 204) (by decide +kernel) (by decide +kernel)
theorem wd_205 : Cond.methodLink "CoinStrings$Grouping" 40 ⟨"CoinStrings$Web", "otherEnd", "(I)I"⟩ ∈ gw_tbl := gw_t (i := 205) (by decide +kernel) (by decide +kernel)
theorem wd_206 : Cond.instanceMethod ⟨"CoinStrings$Web", "otherEnd", "(I)I"⟩ ∈ gw_tbl := gw_t (i := 206) (by decide +kernel) (by decide +kernel)
theorem wd_207 : Cond.selects "CoinStrings$Web" ⟨"CoinStrings$Web", "otherEnd", "(I)I"⟩ ⟨"CoinStrings$Web", "otherEnd", "(I)I"⟩ ∈ gw_tbl := gw_t (i := 207) (by decide +kernel) (by decide +kernel)
theorem wd_208 : Cond.code ⟨"CoinStrings$Web", "otherEnd", "(I)I"⟩ prog_7_method_5_code 2 (some .int) ∈ gw_tbl := gw_t (i := 208) (by decide +kernel) (by decide +kernel)
theorem wd_209 : Cond.methodLink "CoinStrings$Grouping" 43 ⟨"CoinStrings$Grouping", "unite", "(II)V"⟩ ∈ gw_tbl := gw_t (i := 209) (by decide +kernel) (by decide +kernel)
theorem wd_211 : Cond.instanceMethod ⟨"CoinStrings$Grouping", "unite", "(II)V"⟩ ∈ gw_tbl := gw_t (i := 211) (by decide +kernel) (by decide +kernel)
theorem wd_212 : Cond.code ⟨"CoinStrings$Grouping", "unite", "(II)V"⟩ prog_2_method_8_code 4 (none) ∈ gw_tbl := gw_t (i := 212) (by decide +kernel) (by decide +kernel)
theorem wd_213 : Cond.methodLink "CoinStrings$Grouping" 47 ⟨"java/lang/Math", "max", "(II)I"⟩ ∈ gw_tbl := gw_t (i := 213) (by decide +kernel) (by decide +kernel)
theorem wd_214 : Cond.static ⟨"java/lang/Math", "max", "(II)I"⟩ ∈ gw_tbl := gw_t (i := 214) (by decide +kernel) (by decide +kernel)
theorem wd_215 : Cond.code ⟨"java/lang/Math", "max", "(II)I"⟩ prog_15_method_65_code 2 (some .int) ∈ gw_tbl := gw_t (i := 215) (by decide +kernel) (by decide +kernel)
theorem wd_216 : Cond.methodLink "CoinStrings$Grouping" 52 ⟨"java/lang/Math", "min", "(II)I"⟩ ∈ gw_tbl := gw_t (i := 216) (by decide +kernel) (by decide +kernel)
theorem wd_217 : Cond.static ⟨"java/lang/Math", "min", "(II)I"⟩ ∈ gw_tbl := gw_t (i := 217) (by decide +kernel) (by decide +kernel)
theorem wd_218 : Cond.code ⟨"java/lang/Math", "min", "(II)I"⟩ prog_15_method_69_code 2 (some .int) ∈ gw_tbl := gw_t (i := 218) (by decide +kernel) (by decide +kernel)
theorem wd_219 : Cond.methodLink "CoinStrings" 149 ⟨"CoinStrings$Grouping", "count", "()I"⟩ ∈ gw_tbl := gw_t (i := 219) (by decide +kernel) (by decide +kernel)
theorem wd_220 : Cond.instanceMethod ⟨"CoinStrings$Grouping", "count", "()I"⟩ ∈ gw_tbl := gw_t (i := 220) (by decide +kernel) (by decide +kernel)
theorem wd_221 : Cond.selects "CoinStrings$Grouping" ⟨"CoinStrings$Grouping", "count", "()I"⟩ ⟨"CoinStrings$Grouping", "count", "()I"⟩ ∈ gw_tbl := gw_t (i := 221) (by decide +kernel) (by decide +kernel)
theorem wd_222 : Cond.code ⟨"CoinStrings$Grouping", "count", "()I"⟩ prog_2_method_3_code 3 (some .int) ∈ gw_tbl := gw_t (i := 222) (by decide +kernel) (by decide +kernel)
theorem wd_223 : Cond.methodLink "CoinStringsLaw" 130 ⟨"CoinStrings", "show", "()I"⟩ ∈ gw_tbl := gw_t (i := 223) (by decide +kernel) (by decide +kernel)
theorem wd_224 : Cond.instanceMethod ⟨"CoinStrings", "show", "()I"⟩ ∈ gw_tbl := gw_t (i := 224) (by decide +kernel) (by decide +kernel)
theorem wd_225 : Cond.selects "CoinStrings" ⟨"CoinStrings", "show", "()I"⟩ ⟨"CoinStrings", "show", "()I"⟩ ∈ gw_tbl := gw_t (i := 225) (by decide +kernel) (by decide +kernel)
theorem wd_226 : Cond.code ⟨"CoinStrings", "show", "()I"⟩ prog_1_method_19_code 1 (some .int) ∈ gw_tbl := gw_t (i := 226) (by decide +kernel) (by decide +kernel)
theorem wd_227 : Cond.methodLink "CoinStrings" 161 ⟨"CoinStrings$Text", "write", "(I)V"⟩ ∈ gw_tbl := gw_t (i := 227) (by decide +kernel) (by decide +kernel)
theorem wd_228 : Cond.instanceMethod ⟨"CoinStrings$Text", "write", "(I)V"⟩ ∈ gw_tbl := gw_t (i := 228) (by decide +kernel) (by decide +kernel)
theorem wd_229 : Cond.selects "CoinStrings$Text" ⟨"CoinStrings$Text", "write", "(I)V"⟩ ⟨"CoinStrings$Text", "write", "(I)V"⟩ ∈ gw_tbl := gw_t (i := 229) (by decide +kernel) (by decide +kernel)
theorem wd_230 : Cond.code ⟨"CoinStrings$Text", "write", "(I)V"⟩ prog_5_method_4_code 3 (none) ∈ gw_tbl := gw_t (i := 230) (by decide +kernel) (by decide +kernel)
theorem wd_231 : Cond.methodLink "CoinStrings$Text" 23 ⟨"CoinStrings$Web", "size", "()I"⟩ ∈ gw_tbl := gw_t (i := 231) (by decide +kernel) (by decide +kernel)
theorem wd_233 : Cond.methodLink "CoinStrings$Text" 33 ⟨"CoinStrings$Text", "putString", "(I)V"⟩ ∈ gw_tbl := gw_t (i := 233) (by decide +kernel) (by decide +kernel)
theorem wd_235 : Cond.instanceMethod ⟨"CoinStrings$Text", "putString", "(I)V"⟩ ∈ gw_tbl := gw_t (i := 235) (by decide +kernel) (by decide +kernel)
theorem wd_236 : Cond.code ⟨"CoinStrings$Text", "putString", "(I)V"⟩ prog_5_method_5_code 2 (none) ∈ gw_tbl := gw_t (i := 236) (by decide +kernel) (by decide +kernel)
theorem wd_237 : Cond.methodLink "CoinStrings$Text" 37 ⟨"CoinStrings$Text", "putDigit", "(I)V"⟩ ∈ gw_tbl := gw_t (i := 237) (by decide +kernel) (by decide +kernel)
theorem wd_239 : Cond.instanceMethod ⟨"CoinStrings$Text", "putDigit", "(I)V"⟩ ∈ gw_tbl := gw_t (i := 239) (by decide +kernel) (by decide +kernel)
theorem wd_240 : Cond.code ⟨"CoinStrings$Text", "putDigit", "(I)V"⟩ prog_5_method_6_code 2 (none) ∈ gw_tbl := gw_t (i := 240) (by decide +kernel) (by decide +kernel)
theorem wd_241 : Cond.methodLink "CoinStrings$Text" 40 ⟨"CoinStrings$Text", "put", "(C)V"⟩ ∈ gw_tbl := gw_t (i := 241) (by decide +kernel) (by decide +kernel)
theorem wd_243 : Cond.instanceMethod ⟨"CoinStrings$Text", "put", "(C)V"⟩ ∈ gw_tbl := gw_t (i := 243) (by decide +kernel) (by decide +kernel)
theorem wd_244 : Cond.code ⟨"CoinStrings$Text", "put", "(C)V"⟩ prog_5_method_7_code 2 (none) ∈ gw_tbl := gw_t (i := 244) (by decide +kernel) (by decide +kernel)
theorem wd_245 : Cond.methodLink "CoinStrings$Text" 44 ⟨"CoinStrings$Web", "lesserEnd", "(I)I"⟩ ∈ gw_tbl := gw_t (i := 245) (by decide +kernel) (by decide +kernel)
theorem wd_246 : Cond.methodLink "CoinStrings$Text" 48 ⟨"CoinStrings$Web", "otherEnd", "(I)I"⟩ ∈ gw_tbl := gw_t (i := 246) (by decide +kernel) (by decide +kernel)
theorem wd_247 : Cond.methodLink "CoinStrings" 164 ⟨"CoinStrings$Text", "length", "()I"⟩ ∈ gw_tbl := gw_t (i := 247) (by decide +kernel) (by decide +kernel)
theorem wd_248 : Cond.instanceMethod ⟨"CoinStrings$Text", "length", "()I"⟩ ∈ gw_tbl := gw_t (i := 248) (by decide +kernel) (by decide +kernel)
theorem wd_249 : Cond.selects "CoinStrings$Text" ⟨"CoinStrings$Text", "length", "()I"⟩ ⟨"CoinStrings$Text", "length", "()I"⟩ ∈ gw_tbl := gw_t (i := 249) (by decide +kernel) (by decide +kernel)
theorem wd_250 : Cond.code ⟨"CoinStrings$Text", "length", "()I"⟩ prog_5_method_2_code 1 (some .int) ∈ gw_tbl := gw_t (i := 250) (by decide +kernel) (by decide +kernel)
theorem wd_251 : Cond.methodLink "CoinStringsLaw" 66 ⟨"CoinStringsLaw", "add", "(LCoinStrings;II[J)I"⟩ ∈ gw_tbl := gw_t (i := 251) (by decide +kernel) (by decide +kernel)
theorem wd_252 : Cond.static ⟨"CoinStringsLaw", "add", "(LCoinStrings;II[J)I"⟩ ∈ gw_tbl := gw_t (i := 252) (by decide +kernel) (by decide +kernel)
theorem wd_253 : Cond.codeWith ⟨"CoinStringsLaw", "add", "(LCoinStrings;II[J)I"⟩ method_3_code 5 (some .int) [(0, 10, 13, 13), (0, 10, 17, 15)] ∈ gw_tbl := gw_t (i := 253) (by decide +kernel) (by decide +kernel)
theorem wd_254 : Cond.classLink "CoinStringsLaw" 13 "java/lang/IllegalArgumentException" ∈ gw_tbl := gw_t (i := 254) (by decide +kernel) (by decide +kernel)
theorem wd_255 : Cond.classLink "CoinStringsLaw" 15 "java/lang/IllegalStateException" ∈ gw_tbl := gw_t (i := 255) (by decide +kernel) (by decide +kernel)
theorem wd_256 : Cond.methodLink "CoinStringsLaw" 7 ⟨"CoinStrings", "add", "(II)I"⟩ ∈ gw_tbl := gw_t (i := 256) (by decide +kernel) (by decide +kernel)
theorem wd_257 : Cond.instanceMethod ⟨"CoinStrings", "add", "(II)I"⟩ ∈ gw_tbl := gw_t (i := 257) (by decide +kernel) (by decide +kernel)
theorem wd_258 : Cond.selects "CoinStrings" ⟨"CoinStrings", "add", "(II)I"⟩ ⟨"CoinStrings", "add", "(II)I"⟩ ∈ gw_tbl := gw_t (i := 258) (by decide +kernel) (by decide +kernel)
theorem wd_259 : Cond.code ⟨"CoinStrings", "add", "(II)I"⟩ prog_1_method_2_code 3 (some .int) ∈ gw_tbl := gw_t (i := 259) (by decide +kernel) (by decide +kernel)
theorem wd_260 : Cond.methodLink "CoinStrings" 56 ⟨"CoinStrings", "isCoin", "(I)Z"⟩ ∈ gw_tbl := gw_t (i := 260) (by decide +kernel) (by decide +kernel)
theorem wd_261 : Cond.static ⟨"CoinStrings", "isCoin", "(I)Z"⟩ ∈ gw_tbl := gw_t (i := 261) (by decide +kernel) (by decide +kernel)
theorem wd_262 : Cond.code ⟨"CoinStrings", "isCoin", "(I)Z"⟩ prog_1_method_23_code 1 (some .boolean) ∈ gw_tbl := gw_t (i := 262) (by decide +kernel) (by decide +kernel)
theorem wd_263 : Cond.classLink "CoinStrings" 60 "java/lang/IllegalArgumentException" ∈ gw_tbl := gw_t (i := 263) (by decide +kernel) (by decide +kernel)
theorem wd_264 : Cond.instantiable "java/lang/IllegalArgumentException" 6 ∈ gw_tbl := gw_t (i := 264) (by decide +kernel) (by decide +kernel)
theorem wd_272 : Cond.selects "java/lang/IllegalArgumentException" ⟨"java/lang/Throwable", "fillInStackTrace", "(I)Ljava/lang/Throwable;"⟩ ⟨"java/lang/Throwable", "fillInStackTrace", "(I)Ljava/lang/Throwable;"⟩ ∈ gw_tbl := gw_t (i := 272) (by decide +kernel) (by decide +kernel)
theorem wd_273 : Cond.selects "java/lang/IllegalArgumentException" ⟨"java/lang/Throwable", "fillInStackTrace", "()Ljava/lang/Throwable;"⟩ ⟨"java/lang/Throwable", "fillInStackTrace", "()Ljava/lang/Throwable;"⟩ ∈ gw_tbl := gw_t (i := 273) (by decide +kernel) (by decide +kernel)
theorem wd_284 : Cond.fieldLink "java/lang/Throwable" 198 "java/lang/Throwable" "backtrace" "Ljava/lang/Object;" ∈ gw_tbl := gw_t (i := 284) (by decide +kernel) (by decide +kernel)
theorem wd_286 : Cond.instanceMethod ⟨"java/lang/Throwable", "<init>", "()V"⟩ ∈ gw_tbl := gw_t (i := 286) (by decide +kernel) (by decide +kernel)
theorem wd_287 : Cond.code ⟨"java/lang/Throwable", "<init>", "()V"⟩ prog_17_method_1_code 1 (none) ∈ gw_tbl := gw_t (i := 287) (by decide +kernel) (by decide +kernel)
theorem wd_288 : Cond.methodLink "java/lang/Throwable" 1 ⟨"java/lang/Object", "<init>", "()V"⟩ ∈ gw_tbl := gw_t (i := 288) (by decide +kernel) (by decide +kernel)
theorem wd_289 : Cond.fieldLink "java/lang/Throwable" 13 "java/lang/Throwable" "UNASSIGNED_STACK" "[Ljava/lang/StackTraceElement;" ∈ gw_tbl := gw_t (i := 289) (by decide +kernel) (by decide +kernel)
theorem wd_291 : Cond.fieldLink "java/lang/Throwable" 20 "java/lang/Throwable" "SUPPRESSED_SENTINEL" "Ljava/util/List;" ∈ gw_tbl := gw_t (i := 291) (by decide +kernel) (by decide +kernel)
theorem wd_293 : Cond.methodLink "java/lang/Throwable" 27 ⟨"java/lang/Throwable", "fillInStackTrace", "()Ljava/lang/Throwable;"⟩ ∈ gw_tbl := gw_t (i := 293) (by decide +kernel) (by decide +kernel)
theorem wd_294 : Cond.instanceMethod ⟨"java/lang/Throwable", "fillInStackTrace", "()Ljava/lang/Throwable;"⟩ ∈ gw_tbl := gw_t (i := 294) (by decide +kernel) (by decide +kernel)
theorem wd_295 : Cond.sameMethod "java/lang/Throwable" "java/lang/Throwable" "fillInStackTrace" "()Ljava/lang/Throwable;" ∈ gw_tbl := gw_t (i := 295) (by decide +kernel) (by decide +kernel)
theorem wd_296 : Cond.selects "java/lang/IllegalStateException" ⟨"java/lang/Throwable", "fillInStackTrace", "()Ljava/lang/Throwable;"⟩ ⟨"java/lang/Throwable", "fillInStackTrace", "()Ljava/lang/Throwable;"⟩ ∈ gw_tbl := gw_t (i := 296) (by decide +kernel) (by decide +kernel)
theorem wd_297 : Cond.selects "java/lang/IndexOutOfBoundsException" ⟨"java/lang/Throwable", "fillInStackTrace", "()Ljava/lang/Throwable;"⟩ ⟨"java/lang/Throwable", "fillInStackTrace", "()Ljava/lang/Throwable;"⟩ ∈ gw_tbl := gw_t (i := 297) (by decide +kernel) (by decide +kernel)
theorem wd_298 : Cond.selects "java/util/NoSuchElementException" ⟨"java/lang/Throwable", "fillInStackTrace", "()Ljava/lang/Throwable;"⟩ ⟨"java/lang/Throwable", "fillInStackTrace", "()Ljava/lang/Throwable;"⟩ ∈ gw_tbl := gw_t (i := 298) (by decide +kernel) (by decide +kernel)
theorem wd_300 : Cond.methodLink "java/lang/Throwable" 202 ⟨"java/lang/Throwable", "fillInStackTrace", "(I)Ljava/lang/Throwable;"⟩ ∈ gw_tbl := gw_t (i := 300) (by decide +kernel) (by decide +kernel)
theorem wd_302 : Cond.instanceMethod ⟨"java/lang/Throwable", "fillInStackTrace", "(I)Ljava/lang/Throwable;"⟩ ∈ gw_tbl := gw_t (i := 302) (by decide +kernel) (by decide +kernel)
theorem wd_303 : Cond.instantiable "java/lang/Throwable" 6 ∈ gw_tbl := gw_t (i := 303) (by decide +kernel) (by decide +kernel)
theorem wd_305 : Cond.methodLink "CoinStrings" 62 ⟨"java/lang/IllegalArgumentException", "<init>", "()V"⟩ ∈ gw_tbl := gw_t (i := 305) (by decide +kernel) (by decide +kernel)
theorem wd_306 : Cond.instanceMethod ⟨"java/lang/IllegalArgumentException", "<init>", "()V"⟩ ∈ gw_tbl := gw_t (i := 306) (by decide +kernel) (by decide +kernel)
theorem wd_307 : Cond.code ⟨"java/lang/IllegalArgumentException", "<init>", "()V"⟩ prog_11_method_1_code 1 (none) ∈ gw_tbl := gw_t (i := 307) (by decide +kernel) (by decide +kernel)
theorem wd_308 : Cond.methodLink "java/lang/IllegalArgumentException" 1 ⟨"java/lang/RuntimeException", "<init>", "()V"⟩ ∈ gw_tbl := gw_t (i := 308) (by decide +kernel) (by decide +kernel)
theorem wd_309 : Cond.instanceMethod ⟨"java/lang/RuntimeException", "<init>", "()V"⟩ ∈ gw_tbl := gw_t (i := 309) (by decide +kernel) (by decide +kernel)
theorem wd_310 : Cond.code ⟨"java/lang/RuntimeException", "<init>", "()V"⟩ prog_16_method_1_code 1 (none) ∈ gw_tbl := gw_t (i := 310) (by decide +kernel) (by decide +kernel)
theorem wd_311 : Cond.methodLink "java/lang/RuntimeException" 1 ⟨"java/lang/Exception", "<init>", "()V"⟩ ∈ gw_tbl := gw_t (i := 311) (by decide +kernel) (by decide +kernel)
theorem wd_312 : Cond.instanceMethod ⟨"java/lang/Exception", "<init>", "()V"⟩ ∈ gw_tbl := gw_t (i := 312) (by decide +kernel) (by decide +kernel)
theorem wd_313 : Cond.code ⟨"java/lang/Exception", "<init>", "()V"⟩ prog_10_method_1_code 1 (none) ∈ gw_tbl := gw_t (i := 313) (by decide +kernel) (by decide +kernel)
theorem wd_314 : Cond.methodLink "java/lang/Exception" 1 ⟨"java/lang/Throwable", "<init>", "()V"⟩ ∈ gw_tbl := gw_t (i := 314) (by decide +kernel) (by decide +kernel)
theorem wd_315 : Cond.fieldLink "java/lang/Throwable" 198 "java/lang/Throwable" "backtrace" "Ljava/lang/Object;" ∈ gw_tbl := gw_t (i := 315) (by decide +kernel) (by decide +kernel)
theorem wd_316 : Cond.fieldLink "java/lang/Throwable" 7 "java/lang/Throwable" "cause" "Ljava/lang/Throwable;" ∈ gw_tbl := gw_t (i := 316) (by decide +kernel) (by decide +kernel)
theorem wd_317 : Cond.fieldLink "java/lang/Throwable" 17 "java/lang/Throwable" "stackTrace" "[Ljava/lang/StackTraceElement;" ∈ gw_tbl := gw_t (i := 317) (by decide +kernel) (by decide +kernel)
theorem wd_318 : Cond.fieldLink "java/lang/Throwable" 24 "java/lang/Throwable" "suppressedExceptions" "Ljava/util/List;" ∈ gw_tbl := gw_t (i := 318) (by decide +kernel) (by decide +kernel)
theorem wd_327 : Cond.methodLink "CoinStrings" 67 ⟨"CoinStrings$Web", "size", "()I"⟩ ∈ gw_tbl := gw_t (i := 327) (by decide +kernel) (by decide +kernel)
theorem wd_328 : Cond.classLink "CoinStrings" 71 "java/lang/IllegalStateException" ∈ gw_tbl := gw_t (i := 328) (by decide +kernel) (by decide +kernel)
theorem wd_329 : Cond.instantiable "java/lang/IllegalStateException" 6 ∈ gw_tbl := gw_t (i := 329) (by decide +kernel) (by decide +kernel)
theorem wd_331 : Cond.selects "java/lang/IllegalStateException" ⟨"java/lang/Throwable", "fillInStackTrace", "(I)Ljava/lang/Throwable;"⟩ ⟨"java/lang/Throwable", "fillInStackTrace", "(I)Ljava/lang/Throwable;"⟩ ∈ gw_tbl := gw_t (i := 331) (by decide +kernel) (by decide +kernel)
theorem wd_337 : Cond.methodLink "CoinStrings" 73 ⟨"java/lang/IllegalStateException", "<init>", "()V"⟩ ∈ gw_tbl := gw_t (i := 337) (by decide +kernel) (by decide +kernel)
theorem wd_338 : Cond.instanceMethod ⟨"java/lang/IllegalStateException", "<init>", "()V"⟩ ∈ gw_tbl := gw_t (i := 338) (by decide +kernel) (by decide +kernel)
theorem wd_339 : Cond.code ⟨"java/lang/IllegalStateException", "<init>", "()V"⟩ prog_12_method_1_code 1 (none) ∈ gw_tbl := gw_t (i := 339) (by decide +kernel) (by decide +kernel)
theorem wd_340 : Cond.methodLink "java/lang/IllegalStateException" 1 ⟨"java/lang/RuntimeException", "<init>", "()V"⟩ ∈ gw_tbl := gw_t (i := 340) (by decide +kernel) (by decide +kernel)
theorem wd_343 : Cond.methodLink "CoinStrings" 74 ⟨"CoinStrings$Web", "join", "(II)V"⟩ ∈ gw_tbl := gw_t (i := 343) (by decide +kernel) (by decide +kernel)
theorem wd_344 : Cond.instanceMethod ⟨"CoinStrings$Web", "join", "(II)V"⟩ ∈ gw_tbl := gw_t (i := 344) (by decide +kernel) (by decide +kernel)
theorem wd_345 : Cond.selects "CoinStrings$Web" ⟨"CoinStrings$Web", "join", "(II)V"⟩ ⟨"CoinStrings$Web", "join", "(II)V"⟩ ∈ gw_tbl := gw_t (i := 345) (by decide +kernel) (by decide +kernel)
theorem wd_346 : Cond.code ⟨"CoinStrings$Web", "join", "(II)V"⟩ prog_7_method_7_code 4 (none) ∈ gw_tbl := gw_t (i := 346) (by decide +kernel) (by decide +kernel)
theorem wd_347 : Cond.methodLink "CoinStrings$Web" 31 ⟨"java/lang/Math", "min", "(II)I"⟩ ∈ gw_tbl := gw_t (i := 347) (by decide +kernel) (by decide +kernel)
theorem wd_348 : Cond.methodLink "CoinStrings$Web" 37 ⟨"java/lang/Math", "max", "(II)I"⟩ ∈ gw_tbl := gw_t (i := 348) (by decide +kernel) (by decide +kernel)
theorem wd_349 : Cond.methodLink "CoinStrings" 78 ⟨"CoinStrings$Web", "everyString", "()I"⟩ ∈ gw_tbl := gw_t (i := 349) (by decide +kernel) (by decide +kernel)
theorem wd_350 : Cond.instanceMethod ⟨"CoinStrings$Web", "everyString", "()I"⟩ ∈ gw_tbl := gw_t (i := 350) (by decide +kernel) (by decide +kernel)
theorem wd_351 : Cond.selects "CoinStrings$Web" ⟨"CoinStrings$Web", "everyString", "()I"⟩ ⟨"CoinStrings$Web", "everyString", "()I"⟩ ∈ gw_tbl := gw_t (i := 351) (by decide +kernel) (by decide +kernel)
theorem wd_352 : Cond.code ⟨"CoinStrings$Web", "everyString", "()I"⟩ prog_7_method_3_code 1 (some .int) ∈ gw_tbl := gw_t (i := 352) (by decide +kernel) (by decide +kernel)
theorem wd_353 : Cond.methodLink "CoinStringsLaw" 75 ⟨"CoinStringsLaw", "board", "(LCoinStrings;II[J)I"⟩ ∈ gw_tbl := gw_t (i := 353) (by decide +kernel) (by decide +kernel)
theorem wd_354 : Cond.static ⟨"CoinStringsLaw", "board", "(LCoinStrings;II[J)I"⟩ ∈ gw_tbl := gw_t (i := 354) (by decide +kernel) (by decide +kernel)
theorem wd_355 : Cond.codeWith ⟨"CoinStringsLaw", "board", "(LCoinStrings;II[J)I"⟩ method_4_code 5 (some .int) [(0, 10, 13, 13), (0, 10, 17, 15)] ∈ gw_tbl := gw_t (i := 355) (by decide +kernel) (by decide +kernel)
theorem wd_356 : Cond.methodLink "CoinStringsLaw" 17 ⟨"CoinStrings", "board", "(II)I"⟩ ∈ gw_tbl := gw_t (i := 356) (by decide +kernel) (by decide +kernel)
theorem wd_357 : Cond.instanceMethod ⟨"CoinStrings", "board", "(II)I"⟩ ∈ gw_tbl := gw_t (i := 357) (by decide +kernel) (by decide +kernel)
theorem wd_358 : Cond.selects "CoinStrings" ⟨"CoinStrings", "board", "(II)I"⟩ ⟨"CoinStrings", "board", "(II)I"⟩ ∈ gw_tbl := gw_t (i := 358) (by decide +kernel) (by decide +kernel)
theorem wd_359 : Cond.code ⟨"CoinStrings", "board", "(II)I"⟩ prog_1_method_3_code 3 (some .int) ∈ gw_tbl := gw_t (i := 359) (by decide +kernel) (by decide +kernel)
theorem wd_360 : Cond.methodLink "CoinStrings" 85 ⟨"CoinStrings", "isBoard", "(II)Z"⟩ ∈ gw_tbl := gw_t (i := 360) (by decide +kernel) (by decide +kernel)
theorem wd_361 : Cond.static ⟨"CoinStrings", "isBoard", "(II)Z"⟩ ∈ gw_tbl := gw_t (i := 361) (by decide +kernel) (by decide +kernel)
theorem wd_362 : Cond.code ⟨"CoinStrings", "isBoard", "(II)Z"⟩ prog_1_method_24_code 2 (some .boolean) ∈ gw_tbl := gw_t (i := 362) (by decide +kernel) (by decide +kernel)
theorem wd_363 : Cond.methodLink "CoinStrings" 89 ⟨"CoinStrings$Web", "joinBoard", "(II)V"⟩ ∈ gw_tbl := gw_t (i := 363) (by decide +kernel) (by decide +kernel)
theorem wd_364 : Cond.instanceMethod ⟨"CoinStrings$Web", "joinBoard", "(II)V"⟩ ∈ gw_tbl := gw_t (i := 364) (by decide +kernel) (by decide +kernel)
theorem wd_365 : Cond.selects "CoinStrings$Web" ⟨"CoinStrings$Web", "joinBoard", "(II)V"⟩ ⟨"CoinStrings$Web", "joinBoard", "(II)V"⟩ ∈ gw_tbl := gw_t (i := 365) (by decide +kernel) (by decide +kernel)
theorem wd_366 : Cond.code ⟨"CoinStrings$Web", "joinBoard", "(II)V"⟩ prog_7_method_8_code 6 (none) ∈ gw_tbl := gw_t (i := 366) (by decide +kernel) (by decide +kernel)
theorem wd_367 : Cond.methodLink "CoinStrings$Web" 40 ⟨"CoinStrings$Web", "join", "(II)V"⟩ ∈ gw_tbl := gw_t (i := 367) (by decide +kernel) (by decide +kernel)
theorem wd_368 : Cond.methodLink "CoinStringsLaw" 78 ⟨"CoinStringsLaw", "begin", "(LCoinStrings;)I"⟩ ∈ gw_tbl := gw_t (i := 368) (by decide +kernel) (by decide +kernel)
theorem wd_369 : Cond.static ⟨"CoinStringsLaw", "begin", "(LCoinStrings;)I"⟩ ∈ gw_tbl := gw_t (i := 369) (by decide +kernel) (by decide +kernel)
theorem wd_370 : Cond.codeWith ⟨"CoinStringsLaw", "begin", "(LCoinStrings;)I"⟩ method_5_code 2 (some .int) [(0, 4, 7, 15)] ∈ gw_tbl := gw_t (i := 370) (by decide +kernel) (by decide +kernel)
theorem wd_371 : Cond.methodLink "CoinStringsLaw" 20 ⟨"CoinStrings", "begin", "()V"⟩ ∈ gw_tbl := gw_t (i := 371) (by decide +kernel) (by decide +kernel)
theorem wd_372 : Cond.instanceMethod ⟨"CoinStrings", "begin", "()V"⟩ ∈ gw_tbl := gw_t (i := 372) (by decide +kernel) (by decide +kernel)
theorem wd_373 : Cond.selects "CoinStrings" ⟨"CoinStrings", "begin", "()V"⟩ ⟨"CoinStrings", "begin", "()V"⟩ ∈ gw_tbl := gw_t (i := 373) (by decide +kernel) (by decide +kernel)
theorem wd_374 : Cond.code ⟨"CoinStrings", "begin", "()V"⟩ prog_1_method_4_code 1 (none) ∈ gw_tbl := gw_t (i := 374) (by decide +kernel) (by decide +kernel)
theorem wd_375 : Cond.methodLink "CoinStrings" 92 ⟨"CoinStrings$Margins", "forget", "()V"⟩ ∈ gw_tbl := gw_t (i := 375) (by decide +kernel) (by decide +kernel)
theorem wd_376 : Cond.sameMethod "CoinStrings$Margins" "CoinStrings$Values" "forget" "()V" ∈ gw_tbl := gw_t (i := 376) (by decide +kernel) (by decide +kernel)
theorem wd_378 : Cond.selects "CoinStrings$Margins" ⟨"CoinStrings$Margins", "forget", "()V"⟩ ⟨"CoinStrings$Values", "forget", "()V"⟩ ∈ gw_tbl := gw_t (i := 378) (by decide +kernel) (by decide +kernel)
theorem wd_379 : Cond.instanceMethod ⟨"CoinStrings$Values", "forget", "()V"⟩ ∈ gw_tbl := gw_t (i := 379) (by decide +kernel) (by decide +kernel)
theorem wd_380 : Cond.code ⟨"CoinStrings$Values", "forget", "()V"⟩ prog_6_method_2_code 1 (none) ∈ gw_tbl := gw_t (i := 380) (by decide +kernel) (by decide +kernel)
theorem wd_381 : Cond.methodLink "CoinStrings" 95 ⟨"CoinStrings$NimValues", "forget", "()V"⟩ ∈ gw_tbl := gw_t (i := 381) (by decide +kernel) (by decide +kernel)
theorem wd_382 : Cond.sameMethod "CoinStrings$NimValues" "CoinStrings$Values" "forget" "()V" ∈ gw_tbl := gw_t (i := 382) (by decide +kernel) (by decide +kernel)
theorem wd_383 : Cond.selects "CoinStrings$NimValues" ⟨"CoinStrings$NimValues", "forget", "()V"⟩ ⟨"CoinStrings$Values", "forget", "()V"⟩ ∈ gw_tbl := gw_t (i := 383) (by decide +kernel) (by decide +kernel)
theorem wd_384 : Cond.methodLink "CoinStringsLaw" 86 ⟨"CoinStringsLaw", "cut", "(LCoinStrings;I[J)I"⟩ ∈ gw_tbl := gw_t (i := 384) (by decide +kernel) (by decide +kernel)
theorem wd_385 : Cond.static ⟨"CoinStringsLaw", "cut", "(LCoinStrings;I[J)I"⟩ ∈ gw_tbl := gw_t (i := 385) (by decide +kernel) (by decide +kernel)
theorem wd_386 : Cond.codeWith ⟨"CoinStringsLaw", "cut", "(LCoinStrings;I[J)I"⟩ method_6_code 4 (some .int) [(0, 9, 12, 15), (0, 9, 15, 27), (0, 9, 18, 29)] ∈ gw_tbl := gw_t (i := 386) (by decide +kernel) (by decide +kernel)
theorem wd_387 : Cond.classLink "CoinStringsLaw" 27 "java/lang/IndexOutOfBoundsException" ∈ gw_tbl := gw_t (i := 387) (by decide +kernel) (by decide +kernel)
theorem wd_388 : Cond.classLink "CoinStringsLaw" 29 "java/util/NoSuchElementException" ∈ gw_tbl := gw_t (i := 388) (by decide +kernel) (by decide +kernel)
theorem wd_389 : Cond.methodLink "CoinStringsLaw" 23 ⟨"CoinStrings", "cut", "(I)I"⟩ ∈ gw_tbl := gw_t (i := 389) (by decide +kernel) (by decide +kernel)
theorem wd_390 : Cond.instanceMethod ⟨"CoinStrings", "cut", "(I)I"⟩ ∈ gw_tbl := gw_t (i := 390) (by decide +kernel) (by decide +kernel)
theorem wd_391 : Cond.selects "CoinStrings" ⟨"CoinStrings", "cut", "(I)I"⟩ ⟨"CoinStrings", "cut", "(I)I"⟩ ∈ gw_tbl := gw_t (i := 391) (by decide +kernel) (by decide +kernel)
theorem wd_392 : Cond.code ⟨"CoinStrings", "cut", "(I)I"⟩ prog_1_method_6_code 2 (some .int) ∈ gw_tbl := gw_t (i := 392) (by decide +kernel) (by decide +kernel)
theorem wd_393 : Cond.methodLink "CoinStrings" 111 ⟨"CoinStrings", "requireBegun", "()V"⟩ ∈ gw_tbl := gw_t (i := 393) (by decide +kernel) (by decide +kernel)
theorem wd_395 : Cond.instanceMethod ⟨"CoinStrings", "requireBegun", "()V"⟩ ∈ gw_tbl := gw_t (i := 395) (by decide +kernel) (by decide +kernel)
theorem wd_396 : Cond.code ⟨"CoinStrings", "requireBegun", "()V"⟩ prog_1_method_21_code 1 (none) ∈ gw_tbl := gw_t (i := 396) (by decide +kernel) (by decide +kernel)
theorem wd_397 : Cond.classLink "CoinStrings" 114 "java/lang/IndexOutOfBoundsException" ∈ gw_tbl := gw_t (i := 397) (by decide +kernel) (by decide +kernel)
theorem wd_398 : Cond.instantiable "java/lang/IndexOutOfBoundsException" 6 ∈ gw_tbl := gw_t (i := 398) (by decide +kernel) (by decide +kernel)
theorem wd_400 : Cond.selects "java/lang/IndexOutOfBoundsException" ⟨"java/lang/Throwable", "fillInStackTrace", "(I)Ljava/lang/Throwable;"⟩ ⟨"java/lang/Throwable", "fillInStackTrace", "(I)Ljava/lang/Throwable;"⟩ ∈ gw_tbl := gw_t (i := 400) (by decide +kernel) (by decide +kernel)
theorem wd_406 : Cond.methodLink "CoinStrings" 116 ⟨"java/lang/IndexOutOfBoundsException", "<init>", "()V"⟩ ∈ gw_tbl := gw_t (i := 406) (by decide +kernel) (by decide +kernel)
theorem wd_407 : Cond.instanceMethod ⟨"java/lang/IndexOutOfBoundsException", "<init>", "()V"⟩ ∈ gw_tbl := gw_t (i := 407) (by decide +kernel) (by decide +kernel)
theorem wd_408 : Cond.code ⟨"java/lang/IndexOutOfBoundsException", "<init>", "()V"⟩ prog_13_method_1_code 1 (none) ∈ gw_tbl := gw_t (i := 408) (by decide +kernel) (by decide +kernel)
theorem wd_409 : Cond.methodLink "java/lang/IndexOutOfBoundsException" 1 ⟨"java/lang/RuntimeException", "<init>", "()V"⟩ ∈ gw_tbl := gw_t (i := 409) (by decide +kernel) (by decide +kernel)
theorem wd_412 : Cond.methodLink "CoinStrings" 117 ⟨"CoinStrings", "has", "(II)Z"⟩ ∈ gw_tbl := gw_t (i := 412) (by decide +kernel) (by decide +kernel)
theorem wd_413 : Cond.classLink "CoinStrings" 120 "java/util/NoSuchElementException" ∈ gw_tbl := gw_t (i := 413) (by decide +kernel) (by decide +kernel)
theorem wd_414 : Cond.instantiable "java/util/NoSuchElementException" 6 ∈ gw_tbl := gw_t (i := 414) (by decide +kernel) (by decide +kernel)
theorem wd_416 : Cond.selects "java/util/NoSuchElementException" ⟨"java/lang/Throwable", "fillInStackTrace", "(I)Ljava/lang/Throwable;"⟩ ⟨"java/lang/Throwable", "fillInStackTrace", "(I)Ljava/lang/Throwable;"⟩ ∈ gw_tbl := gw_t (i := 416) (by decide +kernel) (by decide +kernel)
theorem wd_422 : Cond.methodLink "CoinStrings" 122 ⟨"java/util/NoSuchElementException", "<init>", "()V"⟩ ∈ gw_tbl := gw_t (i := 422) (by decide +kernel) (by decide +kernel)
theorem wd_423 : Cond.instanceMethod ⟨"java/util/NoSuchElementException", "<init>", "()V"⟩ ∈ gw_tbl := gw_t (i := 423) (by decide +kernel) (by decide +kernel)
theorem wd_424 : Cond.code ⟨"java/util/NoSuchElementException", "<init>", "()V"⟩ prog_19_method_1_code 1 (none) ∈ gw_tbl := gw_t (i := 424) (by decide +kernel) (by decide +kernel)
theorem wd_425 : Cond.methodLink "java/util/NoSuchElementException" 1 ⟨"java/lang/RuntimeException", "<init>", "()V"⟩ ∈ gw_tbl := gw_t (i := 425) (by decide +kernel) (by decide +kernel)
theorem wd_428 : Cond.methodLink "CoinStrings" 123 ⟨"CoinStrings", "sever", "(I)I"⟩ ∈ gw_tbl := gw_t (i := 428) (by decide +kernel) (by decide +kernel)
theorem wd_430 : Cond.instanceMethod ⟨"CoinStrings", "sever", "(I)I"⟩ ∈ gw_tbl := gw_t (i := 430) (by decide +kernel) (by decide +kernel)
theorem wd_431 : Cond.code ⟨"CoinStrings", "sever", "(I)I"⟩ prog_1_method_22_code 3 (some .int) ∈ gw_tbl := gw_t (i := 431) (by decide +kernel) (by decide +kernel)
theorem wd_432 : Cond.methodLink "CoinStrings" 127 ⟨"CoinStrings$Web", "freed", "(II)I"⟩ ∈ gw_tbl := gw_t (i := 432) (by decide +kernel) (by decide +kernel)
theorem wd_433 : Cond.instanceMethod ⟨"CoinStrings$Web", "freed", "(II)I"⟩ ∈ gw_tbl := gw_t (i := 433) (by decide +kernel) (by decide +kernel)
theorem wd_434 : Cond.selects "CoinStrings$Web" ⟨"CoinStrings$Web", "freed", "(II)I"⟩ ⟨"CoinStrings$Web", "freed", "(II)I"⟩ ∈ gw_tbl := gw_t (i := 434) (by decide +kernel) (by decide +kernel)
theorem wd_435 : Cond.code ⟨"CoinStrings$Web", "freed", "(II)I"⟩ prog_7_method_10_code 4 (some .int) ∈ gw_tbl := gw_t (i := 435) (by decide +kernel) (by decide +kernel)
theorem wd_436 : Cond.methodLink "CoinStrings$Web" 50 ⟨"CoinStrings$Web", "hangsOnlyOn", "(III)Z"⟩ ∈ gw_tbl := gw_t (i := 436) (by decide +kernel) (by decide +kernel)
theorem wd_438 : Cond.instanceMethod ⟨"CoinStrings$Web", "hangsOnlyOn", "(III)Z"⟩ ∈ gw_tbl := gw_t (i := 438) (by decide +kernel) (by decide +kernel)
theorem wd_439 : Cond.code ⟨"CoinStrings$Web", "hangsOnlyOn", "(III)Z"⟩ prog_7_method_11_code 4 (some .boolean) ∈ gw_tbl := gw_t (i := 439) (by decide +kernel) (by decide +kernel)
theorem wd_440 : Cond.methodLink "CoinStrings" 169 ⟨"CoinStrings", "without", "(II)I"⟩ ∈ gw_tbl := gw_t (i := 440) (by decide +kernel) (by decide +kernel)
theorem wd_441 : Cond.static ⟨"CoinStrings", "without", "(II)I"⟩ ∈ gw_tbl := gw_t (i := 441) (by decide +kernel) (by decide +kernel)
theorem wd_442 : Cond.code ⟨"CoinStrings", "without", "(II)I"⟩ prog_1_method_26_code 2 (some .int) ∈ gw_tbl := gw_t (i := 442) (by decide +kernel) (by decide +kernel)
theorem wd_443 : Cond.methodLink "CoinStringsLaw" 90 ⟨"CoinStringsLaw", "undo", "(LCoinStrings;[J)I"⟩ ∈ gw_tbl := gw_t (i := 443) (by decide +kernel) (by decide +kernel)
theorem wd_444 : Cond.static ⟨"CoinStringsLaw", "undo", "(LCoinStrings;[J)I"⟩ ∈ gw_tbl := gw_t (i := 444) (by decide +kernel) (by decide +kernel)
theorem wd_445 : Cond.codeWith ⟨"CoinStringsLaw", "undo", "(LCoinStrings;[J)I"⟩ method_7_code 3 (some .int) [(0, 8, 11, 29)] ∈ gw_tbl := gw_t (i := 445) (by decide +kernel) (by decide +kernel)
theorem wd_446 : Cond.methodLink "CoinStringsLaw" 31 ⟨"CoinStrings", "undo", "()I"⟩ ∈ gw_tbl := gw_t (i := 446) (by decide +kernel) (by decide +kernel)
theorem wd_447 : Cond.instanceMethod ⟨"CoinStrings", "undo", "()I"⟩ ∈ gw_tbl := gw_t (i := 447) (by decide +kernel) (by decide +kernel)
theorem wd_448 : Cond.selects "CoinStrings" ⟨"CoinStrings", "undo", "()I"⟩ ⟨"CoinStrings", "undo", "()I"⟩ ∈ gw_tbl := gw_t (i := 448) (by decide +kernel) (by decide +kernel)
theorem wd_449 : Cond.code ⟨"CoinStrings", "undo", "()I"⟩ prog_1_method_7_code 2 (some .int) ∈ gw_tbl := gw_t (i := 449) (by decide +kernel) (by decide +kernel)
theorem wd_450 : Cond.methodLink "CoinStringsLaw" 94 ⟨"CoinStringsLaw", "play", "(LCoinStrings;[J)I"⟩ ∈ gw_tbl := gw_t (i := 450) (by decide +kernel) (by decide +kernel)
theorem wd_451 : Cond.static ⟨"CoinStringsLaw", "play", "(LCoinStrings;[J)I"⟩ ∈ gw_tbl := gw_t (i := 451) (by decide +kernel) (by decide +kernel)
theorem wd_452 : Cond.codeWith ⟨"CoinStringsLaw", "play", "(LCoinStrings;[J)I"⟩ method_8_code 3 (some .int) [(0, 8, 11, 15)] ∈ gw_tbl := gw_t (i := 452) (by decide +kernel) (by decide +kernel)
theorem wd_453 : Cond.methodLink "CoinStringsLaw" 35 ⟨"CoinStrings", "play", "()I"⟩ ∈ gw_tbl := gw_t (i := 453) (by decide +kernel) (by decide +kernel)
theorem wd_454 : Cond.instanceMethod ⟨"CoinStrings", "play", "()I"⟩ ∈ gw_tbl := gw_t (i := 454) (by decide +kernel) (by decide +kernel)
theorem wd_455 : Cond.selects "CoinStrings" ⟨"CoinStrings", "play", "()I"⟩ ⟨"CoinStrings", "play", "()I"⟩ ∈ gw_tbl := gw_t (i := 455) (by decide +kernel) (by decide +kernel)
theorem wd_456 : Cond.code ⟨"CoinStrings", "play", "()I"⟩ prog_1_method_8_code 3 (some .int) ∈ gw_tbl := gw_t (i := 456) (by decide +kernel) (by decide +kernel)
theorem wd_457 : Cond.methodLink "CoinStrings" 131 ⟨"CoinStrings$Margins", "markedStrings", "(I)I"⟩ ∈ gw_tbl := gw_t (i := 457) (by decide +kernel) (by decide +kernel)
theorem wd_458 : Cond.sameMethod "CoinStrings$Margins" "CoinStrings$Values" "markedStrings" "(I)I" ∈ gw_tbl := gw_t (i := 458) (by decide +kernel) (by decide +kernel)
theorem wd_460 : Cond.selects "CoinStrings$Margins" ⟨"CoinStrings$Margins", "markedStrings", "(I)I"⟩ ⟨"CoinStrings$Values", "markedStrings", "(I)I"⟩ ∈ gw_tbl := gw_t (i := 460) (by decide +kernel) (by decide +kernel)
theorem wd_461 : Cond.instanceMethod ⟨"CoinStrings$Values", "markedStrings", "(I)I"⟩ ∈ gw_tbl := gw_t (i := 461) (by decide +kernel) (by decide +kernel)
theorem wd_462 : Cond.code ⟨"CoinStrings$Values", "markedStrings", "(I)I"⟩ prog_6_method_4_code 4 (some .int) ∈ gw_tbl := gw_t (i := 462) (by decide +kernel) (by decide +kernel)
theorem wd_463 : Cond.methodLink "CoinStrings$Values" 23 ⟨"CoinStrings$Values", "prepare", "()V"⟩ ∈ gw_tbl := gw_t (i := 463) (by decide +kernel) (by decide +kernel)
theorem wd_465 : Cond.instanceMethod ⟨"CoinStrings$Values", "prepare", "()V"⟩ ∈ gw_tbl := gw_t (i := 465) (by decide +kernel) (by decide +kernel)
theorem wd_466 : Cond.code ⟨"CoinStrings$Values", "prepare", "()V"⟩ prog_6_method_5_code 2 (none) ∈ gw_tbl := gw_t (i := 466) (by decide +kernel) (by decide +kernel)
theorem wd_467 : Cond.methodLink "CoinStrings$Values" 39 ⟨"CoinStrings$Web", "everyString", "()I"⟩ ∈ gw_tbl := gw_t (i := 467) (by decide +kernel) (by decide +kernel)
theorem wd_468 : Cond.methodLink "CoinStrings$Values" 42 ⟨"CoinStrings$Values", "workOut", "(I)I"⟩ ∈ gw_tbl := gw_t (i := 468) (by decide +kernel) (by decide +kernel)
theorem wd_470 : Cond.sameMethod "CoinStrings$Values" "CoinStrings$Values" "workOut" "(I)I" ∈ gw_tbl := gw_t (i := 470) (by decide +kernel) (by decide +kernel)
theorem wd_471 : Cond.selects "CoinStrings$Margins" ⟨"CoinStrings$Values", "workOut", "(I)I"⟩ ⟨"CoinStrings$Margins", "workOut", "(I)I"⟩ ∈ gw_tbl := gw_t (i := 471) (by decide +kernel) (by decide +kernel)
theorem wd_472 : Cond.instanceMethod ⟨"CoinStrings$Margins", "workOut", "(I)I"⟩ ∈ gw_tbl := gw_t (i := 472) (by decide +kernel) (by decide +kernel)
theorem wd_473 : Cond.code ⟨"CoinStrings$Margins", "workOut", "(I)I"⟩ prog_3_method_2_code 4 (some .int) ∈ gw_tbl := gw_t (i := 473) (by decide +kernel) (by decide +kernel)
theorem wd_474 : Cond.methodLink "CoinStrings$Margins" 15 ⟨"CoinStrings$Web", "size", "()I"⟩ ∈ gw_tbl := gw_t (i := 474) (by decide +kernel) (by decide +kernel)
theorem wd_476 : Cond.methodLink "CoinStrings$Margins" 25 ⟨"CoinStrings$Margins", "given", "(II)I"⟩ ∈ gw_tbl := gw_t (i := 476) (by decide +kernel) (by decide +kernel)
theorem wd_478 : Cond.instanceMethod ⟨"CoinStrings$Margins", "given", "(II)I"⟩ ∈ gw_tbl := gw_t (i := 478) (by decide +kernel) (by decide +kernel)
theorem wd_479 : Cond.code ⟨"CoinStrings$Margins", "given", "(II)I"⟩ prog_3_method_4_code 5 (some .int) ∈ gw_tbl := gw_t (i := 479) (by decide +kernel) (by decide +kernel)
theorem wd_480 : Cond.methodLink "CoinStrings$Margins" 38 ⟨"CoinStrings$Web", "freed", "(II)I"⟩ ∈ gw_tbl := gw_t (i := 480) (by decide +kernel) (by decide +kernel)
theorem wd_482 : Cond.methodLink "CoinStrings$Margins" 29 ⟨"java/lang/Math", "max", "(II)I"⟩ ∈ gw_tbl := gw_t (i := 482) (by decide +kernel) (by decide +kernel)
theorem wd_483 : Cond.selects "CoinStrings$NimValues" ⟨"CoinStrings$Values", "workOut", "(I)I"⟩ ⟨"CoinStrings$NimValues", "workOut", "(I)I"⟩ ∈ gw_tbl := gw_t (i := 483) (by decide +kernel) (by decide +kernel)
theorem wd_484 : Cond.instanceMethod ⟨"CoinStrings$NimValues", "workOut", "(I)I"⟩ ∈ gw_tbl := gw_t (i := 484) (by decide +kernel) (by decide +kernel)
theorem wd_485 : Cond.code ⟨"CoinStrings$NimValues", "workOut", "(I)I"⟩ prog_4_method_2_code 8 (some .int) ∈ gw_tbl := gw_t (i := 485) (by decide +kernel) (by decide +kernel)
theorem wd_486 : Cond.methodLink "CoinStrings$NimValues" 15 ⟨"CoinStrings$Web", "size", "()I"⟩ ∈ gw_tbl := gw_t (i := 486) (by decide +kernel) (by decide +kernel)
theorem wd_489 : Cond.methodLink "CoinStrings$NimValues" 33 ⟨"CoinStrings$Web", "freed", "(II)I"⟩ ∈ gw_tbl := gw_t (i := 489) (by decide +kernel) (by decide +kernel)
theorem wd_491 : Cond.static ⟨"CoinStrings", "least", "(I)I"⟩ ∈ gw_tbl := gw_t (i := 491) (by decide +kernel) (by decide +kernel)
theorem wd_492 : Cond.code ⟨"CoinStrings", "least", "(I)I"⟩ prog_1_method_27_code 2 (some .int) ∈ gw_tbl := gw_t (i := 492) (by decide +kernel) (by decide +kernel)
theorem wd_493 : Cond.methodLink "CoinStrings$NimValues" 40 ⟨"java/lang/Integer", "bitCount", "(I)I"⟩ ∈ gw_tbl := gw_t (i := 493) (by decide +kernel) (by decide +kernel)
theorem wd_494 : Cond.methodLink "CoinStrings$Values" 26 ⟨"CoinStrings$Web", "size", "()I"⟩ ∈ gw_tbl := gw_t (i := 494) (by decide +kernel) (by decide +kernel)
theorem wd_496 : Cond.methodLink "CoinStrings$Values" 36 ⟨"CoinStrings$Values", "isMarked", "(II)Z"⟩ ∈ gw_tbl := gw_t (i := 496) (by decide +kernel) (by decide +kernel)
theorem wd_498 : Cond.sameMethod "CoinStrings$Values" "CoinStrings$Values" "isMarked" "(II)Z" ∈ gw_tbl := gw_t (i := 498) (by decide +kernel) (by decide +kernel)
theorem wd_499 : Cond.selects "CoinStrings$Margins" ⟨"CoinStrings$Values", "isMarked", "(II)Z"⟩ ⟨"CoinStrings$Margins", "isMarked", "(II)Z"⟩ ∈ gw_tbl := gw_t (i := 499) (by decide +kernel) (by decide +kernel)
theorem wd_500 : Cond.instanceMethod ⟨"CoinStrings$Margins", "isMarked", "(II)Z"⟩ ∈ gw_tbl := gw_t (i := 500) (by decide +kernel) (by decide +kernel)
theorem wd_501 : Cond.code ⟨"CoinStrings$Margins", "isMarked", "(II)Z"⟩ prog_3_method_3_code 3 (some .boolean) ∈ gw_tbl := gw_t (i := 501) (by decide +kernel) (by decide +kernel)
theorem wd_502 : Cond.selects "CoinStrings$NimValues" ⟨"CoinStrings$Values", "isMarked", "(II)Z"⟩ ⟨"CoinStrings$NimValues", "isMarked", "(II)Z"⟩ ∈ gw_tbl := gw_t (i := 502) (by decide +kernel) (by decide +kernel)
theorem wd_503 : Cond.instanceMethod ⟨"CoinStrings$NimValues", "isMarked", "(II)Z"⟩ ∈ gw_tbl := gw_t (i := 503) (by decide +kernel) (by decide +kernel)
theorem wd_504 : Cond.code ⟨"CoinStrings$NimValues", "isMarked", "(II)Z"⟩ prog_4_method_3_code 3 (some .boolean) ∈ gw_tbl := gw_t (i := 504) (by decide +kernel) (by decide +kernel)
theorem wd_505 : Cond.methodLink "CoinStrings" 134 ⟨"CoinStrings", "least", "(I)I"⟩ ∈ gw_tbl := gw_t (i := 505) (by decide +kernel) (by decide +kernel)
theorem wd_506 : Cond.methodLink "CoinStringsLaw" 101 ⟨"CoinStringsLaw", "taken", "(LCoinStrings;I[J)I"⟩ ∈ gw_tbl := gw_t (i := 506) (by decide +kernel) (by decide +kernel)
theorem wd_507 : Cond.static ⟨"CoinStringsLaw", "taken", "(LCoinStrings;I[J)I"⟩ ∈ gw_tbl := gw_t (i := 507) (by decide +kernel) (by decide +kernel)
theorem wd_508 : Cond.codeWith ⟨"CoinStringsLaw", "taken", "(LCoinStrings;I[J)I"⟩ method_9_code 4 (some .int) [(0, 9, 12, 27)] ∈ gw_tbl := gw_t (i := 508) (by decide +kernel) (by decide +kernel)
theorem wd_509 : Cond.methodLink "CoinStringsLaw" 38 ⟨"CoinStrings", "taken", "(I)I"⟩ ∈ gw_tbl := gw_t (i := 509) (by decide +kernel) (by decide +kernel)
theorem wd_510 : Cond.instanceMethod ⟨"CoinStrings", "taken", "(I)I"⟩ ∈ gw_tbl := gw_t (i := 510) (by decide +kernel) (by decide +kernel)
theorem wd_511 : Cond.selects "CoinStrings" ⟨"CoinStrings", "taken", "(I)I"⟩ ⟨"CoinStrings", "taken", "(I)I"⟩ ∈ gw_tbl := gw_t (i := 511) (by decide +kernel) (by decide +kernel)
theorem wd_512 : Cond.code ⟨"CoinStrings", "taken", "(I)I"⟩ prog_1_method_10_code 2 (some .int) ∈ gw_tbl := gw_t (i := 512) (by decide +kernel) (by decide +kernel)
theorem wd_513 : Cond.methodLink "CoinStringsLaw" 108 ⟨"CoinStringsLaw", "strings", "(LCoinStrings;I[J)I"⟩ ∈ gw_tbl := gw_t (i := 513) (by decide +kernel) (by decide +kernel)
theorem wd_514 : Cond.static ⟨"CoinStringsLaw", "strings", "(LCoinStrings;I[J)I"⟩ ∈ gw_tbl := gw_t (i := 514) (by decide +kernel) (by decide +kernel)
theorem wd_515 : Cond.codeWith ⟨"CoinStringsLaw", "strings", "(LCoinStrings;I[J)I"⟩ method_10_code 4 (some .int) [(0, 9, 12, 27)] ∈ gw_tbl := gw_t (i := 515) (by decide +kernel) (by decide +kernel)
theorem wd_516 : Cond.methodLink "CoinStringsLaw" 41 ⟨"CoinStrings", "strings", "(I)I"⟩ ∈ gw_tbl := gw_t (i := 516) (by decide +kernel) (by decide +kernel)
theorem wd_517 : Cond.instanceMethod ⟨"CoinStrings", "strings", "(I)I"⟩ ∈ gw_tbl := gw_t (i := 517) (by decide +kernel) (by decide +kernel)
theorem wd_518 : Cond.selects "CoinStrings" ⟨"CoinStrings", "strings", "(I)I"⟩ ⟨"CoinStrings", "strings", "(I)I"⟩ ∈ gw_tbl := gw_t (i := 518) (by decide +kernel) (by decide +kernel)
theorem wd_519 : Cond.code ⟨"CoinStrings", "strings", "(I)I"⟩ prog_1_method_12_code 2 (some .int) ∈ gw_tbl := gw_t (i := 519) (by decide +kernel) (by decide +kernel)
theorem wd_520 : Cond.methodLink "CoinStrings" 137 ⟨"CoinStrings$Web", "holding", "(II)I"⟩ ∈ gw_tbl := gw_t (i := 520) (by decide +kernel) (by decide +kernel)
theorem wd_521 : Cond.methodLink "CoinStringsLaw" 111 ⟨"CoinStringsLaw", "margin", "(LCoinStrings;[J)I"⟩ ∈ gw_tbl := gw_t (i := 521) (by decide +kernel) (by decide +kernel)
theorem wd_522 : Cond.static ⟨"CoinStringsLaw", "margin", "(LCoinStrings;[J)I"⟩ ∈ gw_tbl := gw_t (i := 522) (by decide +kernel) (by decide +kernel)
theorem wd_523 : Cond.codeWith ⟨"CoinStringsLaw", "margin", "(LCoinStrings;[J)I"⟩ method_11_code 3 (some .int) [(0, 8, 11, 15)] ∈ gw_tbl := gw_t (i := 523) (by decide +kernel) (by decide +kernel)
theorem wd_524 : Cond.methodLink "CoinStringsLaw" 44 ⟨"CoinStrings", "margin", "()I"⟩ ∈ gw_tbl := gw_t (i := 524) (by decide +kernel) (by decide +kernel)
theorem wd_525 : Cond.instanceMethod ⟨"CoinStrings", "margin", "()I"⟩ ∈ gw_tbl := gw_t (i := 525) (by decide +kernel) (by decide +kernel)
theorem wd_526 : Cond.selects "CoinStrings" ⟨"CoinStrings", "margin", "()I"⟩ ⟨"CoinStrings", "margin", "()I"⟩ ∈ gw_tbl := gw_t (i := 526) (by decide +kernel) (by decide +kernel)
theorem wd_527 : Cond.code ⟨"CoinStrings", "margin", "()I"⟩ prog_1_method_13_code 1 (some .int) ∈ gw_tbl := gw_t (i := 527) (by decide +kernel) (by decide +kernel)
theorem wd_528 : Cond.methodLink "CoinStrings" 140 ⟨"CoinStrings$Margins", "of", "(I)I"⟩ ∈ gw_tbl := gw_t (i := 528) (by decide +kernel) (by decide +kernel)
theorem wd_529 : Cond.sameMethod "CoinStrings$Margins" "CoinStrings$Values" "of" "(I)I" ∈ gw_tbl := gw_t (i := 529) (by decide +kernel) (by decide +kernel)
theorem wd_531 : Cond.selects "CoinStrings$Margins" ⟨"CoinStrings$Margins", "of", "(I)I"⟩ ⟨"CoinStrings$Values", "of", "(I)I"⟩ ∈ gw_tbl := gw_t (i := 531) (by decide +kernel) (by decide +kernel)
theorem wd_532 : Cond.instanceMethod ⟨"CoinStrings$Values", "of", "(I)I"⟩ ∈ gw_tbl := gw_t (i := 532) (by decide +kernel) (by decide +kernel)
theorem wd_533 : Cond.code ⟨"CoinStrings$Values", "of", "(I)I"⟩ prog_6_method_3_code 2 (some .int) ∈ gw_tbl := gw_t (i := 533) (by decide +kernel) (by decide +kernel)
theorem wd_534 : Cond.methodLink "CoinStringsLaw" 114 ⟨"CoinStringsLaw", "good", "(LCoinStrings;[J)I"⟩ ∈ gw_tbl := gw_t (i := 534) (by decide +kernel) (by decide +kernel)
theorem wd_535 : Cond.static ⟨"CoinStringsLaw", "good", "(LCoinStrings;[J)I"⟩ ∈ gw_tbl := gw_t (i := 535) (by decide +kernel) (by decide +kernel)
theorem wd_536 : Cond.codeWith ⟨"CoinStringsLaw", "good", "(LCoinStrings;[J)I"⟩ method_12_code 3 (some .int) [(0, 8, 11, 15)] ∈ gw_tbl := gw_t (i := 536) (by decide +kernel) (by decide +kernel)
theorem wd_537 : Cond.methodLink "CoinStringsLaw" 47 ⟨"CoinStrings", "good", "()I"⟩ ∈ gw_tbl := gw_t (i := 537) (by decide +kernel) (by decide +kernel)
theorem wd_538 : Cond.instanceMethod ⟨"CoinStrings", "good", "()I"⟩ ∈ gw_tbl := gw_t (i := 538) (by decide +kernel) (by decide +kernel)
theorem wd_539 : Cond.selects "CoinStrings" ⟨"CoinStrings", "good", "()I"⟩ ⟨"CoinStrings", "good", "()I"⟩ ∈ gw_tbl := gw_t (i := 539) (by decide +kernel) (by decide +kernel)
theorem wd_540 : Cond.code ⟨"CoinStrings", "good", "()I"⟩ prog_1_method_14_code 1 (some .int) ∈ gw_tbl := gw_t (i := 540) (by decide +kernel) (by decide +kernel)
theorem wd_541 : Cond.methodLink "CoinStringsLaw" 117 ⟨"CoinStringsLaw", "nim", "(LCoinStrings;[J)I"⟩ ∈ gw_tbl := gw_t (i := 541) (by decide +kernel) (by decide +kernel)
theorem wd_542 : Cond.static ⟨"CoinStringsLaw", "nim", "(LCoinStrings;[J)I"⟩ ∈ gw_tbl := gw_t (i := 542) (by decide +kernel) (by decide +kernel)
theorem wd_543 : Cond.codeWith ⟨"CoinStringsLaw", "nim", "(LCoinStrings;[J)I"⟩ method_13_code 3 (some .int) [(0, 8, 11, 15)] ∈ gw_tbl := gw_t (i := 543) (by decide +kernel) (by decide +kernel)
theorem wd_544 : Cond.methodLink "CoinStringsLaw" 50 ⟨"CoinStrings", "nim", "()I"⟩ ∈ gw_tbl := gw_t (i := 544) (by decide +kernel) (by decide +kernel)
theorem wd_545 : Cond.instanceMethod ⟨"CoinStrings", "nim", "()I"⟩ ∈ gw_tbl := gw_t (i := 545) (by decide +kernel) (by decide +kernel)
theorem wd_546 : Cond.selects "CoinStrings" ⟨"CoinStrings", "nim", "()I"⟩ ⟨"CoinStrings", "nim", "()I"⟩ ∈ gw_tbl := gw_t (i := 546) (by decide +kernel) (by decide +kernel)
theorem wd_547 : Cond.code ⟨"CoinStrings", "nim", "()I"⟩ prog_1_method_15_code 1 (some .int) ∈ gw_tbl := gw_t (i := 547) (by decide +kernel) (by decide +kernel)
theorem wd_548 : Cond.methodLink "CoinStrings" 143 ⟨"CoinStrings$NimValues", "of", "(I)I"⟩ ∈ gw_tbl := gw_t (i := 548) (by decide +kernel) (by decide +kernel)
theorem wd_549 : Cond.sameMethod "CoinStrings$NimValues" "CoinStrings$Values" "of" "(I)I" ∈ gw_tbl := gw_t (i := 549) (by decide +kernel) (by decide +kernel)
theorem wd_550 : Cond.selects "CoinStrings$NimValues" ⟨"CoinStrings$NimValues", "of", "(I)I"⟩ ⟨"CoinStrings$Values", "of", "(I)I"⟩ ∈ gw_tbl := gw_t (i := 550) (by decide +kernel) (by decide +kernel)
theorem wd_551 : Cond.methodLink "CoinStringsLaw" 120 ⟨"CoinStringsLaw", "mad", "(LCoinStrings;[J)I"⟩ ∈ gw_tbl := gw_t (i := 551) (by decide +kernel) (by decide +kernel)
theorem wd_552 : Cond.static ⟨"CoinStringsLaw", "mad", "(LCoinStrings;[J)I"⟩ ∈ gw_tbl := gw_t (i := 552) (by decide +kernel) (by decide +kernel)
theorem wd_553 : Cond.codeWith ⟨"CoinStringsLaw", "mad", "(LCoinStrings;[J)I"⟩ method_14_code 3 (some .int) [(0, 8, 11, 15)] ∈ gw_tbl := gw_t (i := 553) (by decide +kernel) (by decide +kernel)
theorem wd_554 : Cond.methodLink "CoinStringsLaw" 53 ⟨"CoinStrings", "mad", "()I"⟩ ∈ gw_tbl := gw_t (i := 554) (by decide +kernel) (by decide +kernel)
theorem wd_555 : Cond.instanceMethod ⟨"CoinStrings", "mad", "()I"⟩ ∈ gw_tbl := gw_t (i := 555) (by decide +kernel) (by decide +kernel)
theorem wd_556 : Cond.selects "CoinStrings" ⟨"CoinStrings", "mad", "()I"⟩ ⟨"CoinStrings", "mad", "()I"⟩ ∈ gw_tbl := gw_t (i := 556) (by decide +kernel) (by decide +kernel)
theorem wd_557 : Cond.code ⟨"CoinStrings", "mad", "()I"⟩ prog_1_method_16_code 1 (some .int) ∈ gw_tbl := gw_t (i := 557) (by decide +kernel) (by decide +kernel)
theorem wd_558 : Cond.methodLink "CoinStrings" 144 ⟨"CoinStrings$NimValues", "markedStrings", "(I)I"⟩ ∈ gw_tbl := gw_t (i := 558) (by decide +kernel) (by decide +kernel)
theorem wd_559 : Cond.sameMethod "CoinStrings$NimValues" "CoinStrings$Values" "markedStrings" "(I)I" ∈ gw_tbl := gw_t (i := 559) (by decide +kernel) (by decide +kernel)
theorem wd_560 : Cond.selects "CoinStrings$NimValues" ⟨"CoinStrings$NimValues", "markedStrings", "(I)I"⟩ ⟨"CoinStrings$Values", "markedStrings", "(I)I"⟩ ∈ gw_tbl := gw_t (i := 560) (by decide +kernel) (by decide +kernel)
theorem wd_561 : Cond.methodLink "CoinStringsLaw" 127 ⟨"CoinStringsLaw", "group", "(LCoinStrings;I[J)I"⟩ ∈ gw_tbl := gw_t (i := 561) (by decide +kernel) (by decide +kernel)
theorem wd_562 : Cond.static ⟨"CoinStringsLaw", "group", "(LCoinStrings;I[J)I"⟩ ∈ gw_tbl := gw_t (i := 562) (by decide +kernel) (by decide +kernel)
theorem wd_563 : Cond.codeWith ⟨"CoinStringsLaw", "group", "(LCoinStrings;I[J)I"⟩ method_15_code 4 (some .int) [(0, 9, 12, 27)] ∈ gw_tbl := gw_t (i := 563) (by decide +kernel) (by decide +kernel)
theorem wd_564 : Cond.methodLink "CoinStringsLaw" 56 ⟨"CoinStrings", "group", "(I)I"⟩ ∈ gw_tbl := gw_t (i := 564) (by decide +kernel) (by decide +kernel)
theorem wd_565 : Cond.instanceMethod ⟨"CoinStrings", "group", "(I)I"⟩ ∈ gw_tbl := gw_t (i := 565) (by decide +kernel) (by decide +kernel)
theorem wd_566 : Cond.selects "CoinStrings" ⟨"CoinStrings", "group", "(I)I"⟩ ⟨"CoinStrings", "group", "(I)I"⟩ ∈ gw_tbl := gw_t (i := 566) (by decide +kernel) (by decide +kernel)
theorem wd_567 : Cond.code ⟨"CoinStrings", "group", "(I)I"⟩ prog_1_method_18_code 4 (some .int) ∈ gw_tbl := gw_t (i := 567) (by decide +kernel) (by decide +kernel)
theorem wd_568 : Cond.methodLink "CoinStrings" 152 ⟨"CoinStrings$Grouping", "leader", "(I)I"⟩ ∈ gw_tbl := gw_t (i := 568) (by decide +kernel) (by decide +kernel)
theorem wd_569 : Cond.instanceMethod ⟨"CoinStrings$Grouping", "leader", "(I)I"⟩ ∈ gw_tbl := gw_t (i := 569) (by decide +kernel) (by decide +kernel)
theorem wd_570 : Cond.selects "CoinStrings$Grouping" ⟨"CoinStrings$Grouping", "leader", "(I)I"⟩ ⟨"CoinStrings$Grouping", "leader", "(I)I"⟩ ∈ gw_tbl := gw_t (i := 570) (by decide +kernel) (by decide +kernel)
theorem wd_571 : Cond.code ⟨"CoinStrings$Grouping", "leader", "(I)I"⟩ prog_2_method_4_code 4 (some .int) ∈ gw_tbl := gw_t (i := 571) (by decide +kernel) (by decide +kernel)
theorem wd_572 : Cond.methodLink "CoinStrings" 155 ⟨"CoinStrings$Grouping", "length", "(I)I"⟩ ∈ gw_tbl := gw_t (i := 572) (by decide +kernel) (by decide +kernel)
theorem wd_573 : Cond.instanceMethod ⟨"CoinStrings$Grouping", "length", "(I)I"⟩ ∈ gw_tbl := gw_t (i := 573) (by decide +kernel) (by decide +kernel)
theorem wd_574 : Cond.selects "CoinStrings$Grouping" ⟨"CoinStrings$Grouping", "length", "(I)I"⟩ ⟨"CoinStrings$Grouping", "length", "(I)I"⟩ ∈ gw_tbl := gw_t (i := 574) (by decide +kernel) (by decide +kernel)
theorem wd_575 : Cond.code ⟨"CoinStrings$Grouping", "length", "(I)I"⟩ prog_2_method_5_code 4 (some .int) ∈ gw_tbl := gw_t (i := 575) (by decide +kernel) (by decide +kernel)
theorem wd_576 : Cond.methodLink "CoinStrings" 158 ⟨"CoinStrings$Grouping", "isLoop", "(II)Z"⟩ ∈ gw_tbl := gw_t (i := 576) (by decide +kernel) (by decide +kernel)
theorem wd_577 : Cond.instanceMethod ⟨"CoinStrings$Grouping", "isLoop", "(II)Z"⟩ ∈ gw_tbl := gw_t (i := 577) (by decide +kernel) (by decide +kernel)
theorem wd_578 : Cond.selects "CoinStrings$Grouping" ⟨"CoinStrings$Grouping", "isLoop", "(II)Z"⟩ ⟨"CoinStrings$Grouping", "isLoop", "(II)Z"⟩ ∈ gw_tbl := gw_t (i := 578) (by decide +kernel) (by decide +kernel)
theorem wd_579 : Cond.code ⟨"CoinStrings$Grouping", "isLoop", "(II)Z"⟩ prog_2_method_6_code 6 (some .boolean) ∈ gw_tbl := gw_t (i := 579) (by decide +kernel) (by decide +kernel)
theorem wd_580 : Cond.methodLink "CoinStringsLaw" 134 ⟨"CoinStringsLaw", "at", "(LCoinStrings;I[J)I"⟩ ∈ gw_tbl := gw_t (i := 580) (by decide +kernel) (by decide +kernel)
theorem wd_581 : Cond.static ⟨"CoinStringsLaw", "at", "(LCoinStrings;I[J)I"⟩ ∈ gw_tbl := gw_t (i := 581) (by decide +kernel) (by decide +kernel)
theorem wd_582 : Cond.codeWith ⟨"CoinStringsLaw", "at", "(LCoinStrings;I[J)I"⟩ method_16_code 4 (some .int) [(0, 9, 12, 27)] ∈ gw_tbl := gw_t (i := 582) (by decide +kernel) (by decide +kernel)
theorem wd_583 : Cond.methodLink "CoinStringsLaw" 59 ⟨"CoinStrings", "at", "(I)I"⟩ ∈ gw_tbl := gw_t (i := 583) (by decide +kernel) (by decide +kernel)
theorem wd_584 : Cond.instanceMethod ⟨"CoinStrings", "at", "(I)I"⟩ ∈ gw_tbl := gw_t (i := 584) (by decide +kernel) (by decide +kernel)
theorem wd_585 : Cond.selects "CoinStrings" ⟨"CoinStrings", "at", "(I)I"⟩ ⟨"CoinStrings", "at", "(I)I"⟩ ∈ gw_tbl := gw_t (i := 585) (by decide +kernel) (by decide +kernel)
theorem wd_586 : Cond.code ⟨"CoinStrings", "at", "(I)I"⟩ prog_1_method_20_code 2 (some .int) ∈ gw_tbl := gw_t (i := 586) (by decide +kernel) (by decide +kernel)
theorem wd_587 : Cond.methodLink "CoinStrings" 166 ⟨"CoinStrings$Text", "character", "(I)I"⟩ ∈ gw_tbl := gw_t (i := 587) (by decide +kernel) (by decide +kernel)
theorem wd_588 : Cond.instanceMethod ⟨"CoinStrings$Text", "character", "(I)I"⟩ ∈ gw_tbl := gw_t (i := 588) (by decide +kernel) (by decide +kernel)
theorem wd_589 : Cond.selects "CoinStrings$Text" ⟨"CoinStrings$Text", "character", "(I)I"⟩ ⟨"CoinStrings$Text", "character", "(I)I"⟩ ∈ gw_tbl := gw_t (i := 589) (by decide +kernel) (by decide +kernel)
theorem wd_590 : Cond.code ⟨"CoinStrings$Text", "character", "(I)I"⟩ prog_5_method_3_code 2 (some .int) ∈ gw_tbl := gw_t (i := 590) (by decide +kernel) (by decide +kernel)
theorem wd_591 : Cond.classLink "CoinStringsLaw" 63 "CoinStringsModel" ∈ gw_tbl := gw_t (i := 591) (by decide +kernel) (by decide +kernel)
theorem wd_592 : Cond.instantiable "CoinStringsModel" 21 ∈ gw_tbl := gw_t (i := 592) (by decide +kernel) (by decide +kernel)
theorem wd_593 : Cond.methodLink "CoinStringsLaw" 65 ⟨"CoinStringsModel", "<init>", "()V"⟩ ∈ gw_tbl := gw_t (i := 593) (by decide +kernel) (by decide +kernel)
theorem wd_594 : Cond.instanceMethod ⟨"CoinStringsModel", "<init>", "()V"⟩ ∈ gw_tbl := gw_t (i := 594) (by decide +kernel) (by decide +kernel)
theorem wd_595 : Cond.code ⟨"CoinStringsModel", "<init>", "()V"⟩ prog_9_method_1_code 1 (none) ∈ gw_tbl := gw_t (i := 595) (by decide +kernel) (by decide +kernel)
theorem wd_596 : Cond.methodLink "CoinStringsModel" 1 ⟨"java/lang/Object", "<init>", "()V"⟩ ∈ gw_tbl := gw_t (i := 596) (by decide +kernel) (by decide +kernel)
theorem wd_597 : Cond.fieldLink "CoinStringsModel" 46 "CoinStringsModel" "thrown" "I" ∈ gw_tbl := gw_t (i := 597) (by decide +kernel) (by decide +kernel)
theorem wd_598 : Cond.fieldLink "CoinStringsModel" 50 "CoinStringsModel" "size" "I" ∈ gw_tbl := gw_t (i := 598) (by decide +kernel) (by decide +kernel)
theorem wd_599 : Cond.fieldLink "CoinStringsModel" 7 "CoinStringsModel" "one" "[I" ∈ gw_tbl := gw_t (i := 599) (by decide +kernel) (by decide +kernel)
theorem wd_600 : Cond.fieldLink "CoinStringsModel" 13 "CoinStringsModel" "two" "[I" ∈ gw_tbl := gw_t (i := 600) (by decide +kernel) (by decide +kernel)
theorem wd_601 : Cond.fieldLink "CoinStringsModel" 16 "CoinStringsModel" "own" "[I" ∈ gw_tbl := gw_t (i := 601) (by decide +kernel) (by decide +kernel)
theorem wd_602 : Cond.fieldLink "CoinStringsModel" 60 "CoinStringsModel" "begun" "Z" ∈ gw_tbl := gw_t (i := 602) (by decide +kernel) (by decide +kernel)
theorem wd_603 : Cond.fieldLink "CoinStringsModel" 53 "CoinStringsModel" "left" "I" ∈ gw_tbl := gw_t (i := 603) (by decide +kernel) (by decide +kernel)
theorem wd_604 : Cond.fieldLink "CoinStringsModel" 71 "CoinStringsModel" "turn" "I" ∈ gw_tbl := gw_t (i := 604) (by decide +kernel) (by decide +kernel)
theorem wd_605 : Cond.fieldLink "CoinStringsModel" 19 "CoinStringsModel" "taken" "[I" ∈ gw_tbl := gw_t (i := 605) (by decide +kernel) (by decide +kernel)
theorem wd_606 : Cond.fieldLink "CoinStringsModel" 68 "CoinStringsModel" "cuts" "I" ∈ gw_tbl := gw_t (i := 606) (by decide +kernel) (by decide +kernel)
theorem wd_607 : Cond.fieldLink "CoinStringsModel" 22 "CoinStringsModel" "cutOf" "[I" ∈ gw_tbl := gw_t (i := 607) (by decide +kernel) (by decide +kernel)
theorem wd_608 : Cond.fieldLink "CoinStringsModel" 25 "CoinStringsModel" "turnOf" "[I" ∈ gw_tbl := gw_t (i := 608) (by decide +kernel) (by decide +kernel)
theorem wd_609 : Cond.fieldLink "CoinStringsModel" 28 "CoinStringsModel" "taken0" "[I" ∈ gw_tbl := gw_t (i := 609) (by decide +kernel) (by decide +kernel)
theorem wd_610 : Cond.fieldLink "CoinStringsModel" 31 "CoinStringsModel" "taken1" "[I" ∈ gw_tbl := gw_t (i := 610) (by decide +kernel) (by decide +kernel)
theorem wd_611 : Cond.fieldLink "CoinStringsModel" 74 "CoinStringsModel" "solved" "Z" ∈ gw_tbl := gw_t (i := 611) (by decide +kernel) (by decide +kernel)
theorem wd_612 : Cond.fieldLink "CoinStringsModel" 34 "CoinStringsModel" "margins" "[I" ∈ gw_tbl := gw_t (i := 612) (by decide +kernel) (by decide +kernel)
theorem wd_613 : Cond.fieldLink "CoinStringsModel" 37 "CoinStringsModel" "nims" "[I" ∈ gw_tbl := gw_t (i := 613) (by decide +kernel) (by decide +kernel)
theorem wd_614 : Cond.fieldLink "CoinStringsModel" 108 "CoinStringsModel" "groupCount" "I" ∈ gw_tbl := gw_t (i := 614) (by decide +kernel) (by decide +kernel)
theorem wd_615 : Cond.fieldLink "CoinStringsModel" 40 "CoinStringsModel" "groupOf" "[I" ∈ gw_tbl := gw_t (i := 615) (by decide +kernel) (by decide +kernel)
theorem wd_616 : Cond.fieldLink "CoinStringsModel" 43 "CoinStringsModel" "text" "[I" ∈ gw_tbl := gw_t (i := 616) (by decide +kernel) (by decide +kernel)
theorem wd_617 : Cond.fieldLink "CoinStringsModel" 121 "CoinStringsModel" "length" "I" ∈ gw_tbl := gw_t (i := 617) (by decide +kernel) (by decide +kernel)
theorem wd_661 : Cond.methodLink "CoinStringsLaw" 72 ⟨"CoinStringsModel", "thrown", "()I"⟩ ∈ gw_tbl := gw_t (i := 661) (by decide +kernel) (by decide +kernel)
theorem wd_662 : Cond.instanceMethod ⟨"CoinStringsModel", "thrown", "()I"⟩ ∈ gw_tbl := gw_t (i := 662) (by decide +kernel) (by decide +kernel)
theorem wd_663 : Cond.selects "CoinStringsModel" ⟨"CoinStringsModel", "thrown", "()I"⟩ ⟨"CoinStringsModel", "thrown", "()I"⟩ ∈ gw_tbl := gw_t (i := 663) (by decide +kernel) (by decide +kernel)
theorem wd_664 : Cond.code ⟨"CoinStringsModel", "thrown", "()I"⟩ prog_9_method_2_code 1 (some .int) ∈ gw_tbl := gw_t (i := 664) (by decide +kernel) (by decide +kernel)
theorem wd_665 : Cond.methodLink "CoinStringsLaw" 71 ⟨"CoinStringsModel", "add", "(II)I"⟩ ∈ gw_tbl := gw_t (i := 665) (by decide +kernel) (by decide +kernel)
theorem wd_666 : Cond.instanceMethod ⟨"CoinStringsModel", "add", "(II)I"⟩ ∈ gw_tbl := gw_t (i := 666) (by decide +kernel) (by decide +kernel)
theorem wd_667 : Cond.selects "CoinStringsModel" ⟨"CoinStringsModel", "add", "(II)I"⟩ ⟨"CoinStringsModel", "add", "(II)I"⟩ ∈ gw_tbl := gw_t (i := 667) (by decide +kernel) (by decide +kernel)
theorem wd_668 : Cond.code ⟨"CoinStringsModel", "add", "(II)I"⟩ prog_9_method_5_code 3 (some .int) ∈ gw_tbl := gw_t (i := 668) (by decide +kernel) (by decide +kernel)
theorem wd_669 : Cond.methodLink "CoinStringsModel" 56 ⟨"CoinStringsModel", "isCoin", "(I)Z"⟩ ∈ gw_tbl := gw_t (i := 669) (by decide +kernel) (by decide +kernel)
theorem wd_670 : Cond.static ⟨"CoinStringsModel", "isCoin", "(I)Z"⟩ ∈ gw_tbl := gw_t (i := 670) (by decide +kernel) (by decide +kernel)
theorem wd_671 : Cond.code ⟨"CoinStringsModel", "isCoin", "(I)Z"⟩ prog_9_method_3_code 1 (some .boolean) ∈ gw_tbl := gw_t (i := 671) (by decide +kernel) (by decide +kernel)
theorem wd_672 : Cond.methodLink "CoinStringsModel" 64 ⟨"CoinStringsModel", "hang", "(II)V"⟩ ∈ gw_tbl := gw_t (i := 672) (by decide +kernel) (by decide +kernel)
theorem wd_674 : Cond.instanceMethod ⟨"CoinStringsModel", "hang", "(II)V"⟩ ∈ gw_tbl := gw_t (i := 674) (by decide +kernel) (by decide +kernel)
theorem wd_675 : Cond.code ⟨"CoinStringsModel", "hang", "(II)V"⟩ prog_9_method_4_code 3 (none) ∈ gw_tbl := gw_t (i := 675) (by decide +kernel) (by decide +kernel)
theorem wd_676 : Cond.methodLink "CoinStringsLaw" 77 ⟨"CoinStringsModel", "board", "(II)I"⟩ ∈ gw_tbl := gw_t (i := 676) (by decide +kernel) (by decide +kernel)
theorem wd_677 : Cond.instanceMethod ⟨"CoinStringsModel", "board", "(II)I"⟩ ∈ gw_tbl := gw_t (i := 677) (by decide +kernel) (by decide +kernel)
theorem wd_678 : Cond.selects "CoinStringsModel" ⟨"CoinStringsModel", "board", "(II)I"⟩ ⟨"CoinStringsModel", "board", "(II)I"⟩ ∈ gw_tbl := gw_t (i := 678) (by decide +kernel) (by decide +kernel)
theorem wd_679 : Cond.code ⟨"CoinStringsModel", "board", "(II)I"⟩ prog_9_method_6_code 7 (some .int) ∈ gw_tbl := gw_t (i := 679) (by decide +kernel) (by decide +kernel)
theorem wd_680 : Cond.methodLink "CoinStringsLaw" 81 ⟨"CoinStringsModel", "begin", "()V"⟩ ∈ gw_tbl := gw_t (i := 680) (by decide +kernel) (by decide +kernel)
theorem wd_681 : Cond.instanceMethod ⟨"CoinStringsModel", "begin", "()V"⟩ ∈ gw_tbl := gw_t (i := 681) (by decide +kernel) (by decide +kernel)
theorem wd_682 : Cond.selects "CoinStringsModel" ⟨"CoinStringsModel", "begin", "()V"⟩ ⟨"CoinStringsModel", "begin", "()V"⟩ ∈ gw_tbl := gw_t (i := 682) (by decide +kernel) (by decide +kernel)
theorem wd_683 : Cond.code ⟨"CoinStringsModel", "begin", "()V"⟩ prog_9_method_7_code 1 (none) ∈ gw_tbl := gw_t (i := 683) (by decide +kernel) (by decide +kernel)
theorem wd_684 : Cond.methodLink "CoinStringsLaw" 85 ⟨"CoinStringsModel", "clear", "()V"⟩ ∈ gw_tbl := gw_t (i := 684) (by decide +kernel) (by decide +kernel)
theorem wd_685 : Cond.instanceMethod ⟨"CoinStringsModel", "clear", "()V"⟩ ∈ gw_tbl := gw_t (i := 685) (by decide +kernel) (by decide +kernel)
theorem wd_686 : Cond.selects "CoinStringsModel" ⟨"CoinStringsModel", "clear", "()V"⟩ ⟨"CoinStringsModel", "clear", "()V"⟩ ∈ gw_tbl := gw_t (i := 686) (by decide +kernel) (by decide +kernel)
theorem wd_687 : Cond.code ⟨"CoinStringsModel", "clear", "()V"⟩ prog_9_method_8_code 2 (none) ∈ gw_tbl := gw_t (i := 687) (by decide +kernel) (by decide +kernel)
theorem wd_688 : Cond.methodLink "CoinStringsLaw" 113 ⟨"CoinStringsModel", "margin", "()I"⟩ ∈ gw_tbl := gw_t (i := 688) (by decide +kernel) (by decide +kernel)
theorem wd_689 : Cond.instanceMethod ⟨"CoinStringsModel", "margin", "()I"⟩ ∈ gw_tbl := gw_t (i := 689) (by decide +kernel) (by decide +kernel)
theorem wd_690 : Cond.selects "CoinStringsModel" ⟨"CoinStringsModel", "margin", "()I"⟩ ⟨"CoinStringsModel", "margin", "()I"⟩ ∈ gw_tbl := gw_t (i := 690) (by decide +kernel) (by decide +kernel)
theorem wd_691 : Cond.code ⟨"CoinStringsModel", "margin", "()I"⟩ prog_9_method_17_code 1 (some .int) ∈ gw_tbl := gw_t (i := 691) (by decide +kernel) (by decide +kernel)
theorem wd_692 : Cond.methodLink "CoinStringsModel" 94 ⟨"CoinStringsModel", "asks", "()Z"⟩ ∈ gw_tbl := gw_t (i := 692) (by decide +kernel) (by decide +kernel)
theorem wd_694 : Cond.instanceMethod ⟨"CoinStringsModel", "asks", "()Z"⟩ ∈ gw_tbl := gw_t (i := 694) (by decide +kernel) (by decide +kernel)
theorem wd_695 : Cond.code ⟨"CoinStringsModel", "asks", "()Z"⟩ prog_9_method_15_code 1 (some .boolean) ∈ gw_tbl := gw_t (i := 695) (by decide +kernel) (by decide +kernel)
theorem wd_696 : Cond.methodLink "CoinStringsModel" 91 ⟨"CoinStringsModel", "solve", "()V"⟩ ∈ gw_tbl := gw_t (i := 696) (by decide +kernel) (by decide +kernel)
theorem wd_698 : Cond.instanceMethod ⟨"CoinStringsModel", "solve", "()V"⟩ ∈ gw_tbl := gw_t (i := 698) (by decide +kernel) (by decide +kernel)
theorem wd_699 : Cond.code ⟨"CoinStringsModel", "solve", "()V"⟩ prog_9_method_14_code 2 (none) ∈ gw_tbl := gw_t (i := 699) (by decide +kernel) (by decide +kernel)
theorem wd_700 : Cond.methodLink "CoinStringsModel" 84 ⟨"CoinStringsModel", "marginOf", "(I)I"⟩ ∈ gw_tbl := gw_t (i := 700) (by decide +kernel) (by decide +kernel)
theorem wd_702 : Cond.instanceMethod ⟨"CoinStringsModel", "marginOf", "(I)I"⟩ ∈ gw_tbl := gw_t (i := 702) (by decide +kernel) (by decide +kernel)
theorem wd_703 : Cond.code ⟨"CoinStringsModel", "marginOf", "(I)I"⟩ prog_9_method_12_code 6 (some .int) ∈ gw_tbl := gw_t (i := 703) (by decide +kernel) (by decide +kernel)
theorem wd_704 : Cond.methodLink "CoinStringsModel" 81 ⟨"CoinStringsModel", "marginBy", "(II)I"⟩ ∈ gw_tbl := gw_t (i := 704) (by decide +kernel) (by decide +kernel)
theorem wd_706 : Cond.instanceMethod ⟨"CoinStringsModel", "marginBy", "(II)I"⟩ ∈ gw_tbl := gw_t (i := 706) (by decide +kernel) (by decide +kernel)
theorem wd_707 : Cond.code ⟨"CoinStringsModel", "marginBy", "(II)I"⟩ prog_9_method_11_code 5 (some .int) ∈ gw_tbl := gw_t (i := 707) (by decide +kernel) (by decide +kernel)
theorem wd_708 : Cond.methodLink "CoinStringsModel" 77 ⟨"CoinStringsModel", "takes", "(II)I"⟩ ∈ gw_tbl := gw_t (i := 708) (by decide +kernel) (by decide +kernel)
theorem wd_710 : Cond.instanceMethod ⟨"CoinStringsModel", "takes", "(II)I"⟩ ∈ gw_tbl := gw_t (i := 710) (by decide +kernel) (by decide +kernel)
theorem wd_711 : Cond.code ⟨"CoinStringsModel", "takes", "(II)I"⟩ prog_9_method_10_code 4 (some .int) ∈ gw_tbl := gw_t (i := 711) (by decide +kernel) (by decide +kernel)
theorem wd_712 : Cond.methodLink "CoinStringsModel" 88 ⟨"CoinStringsModel", "nimOf", "(I)I"⟩ ∈ gw_tbl := gw_t (i := 712) (by decide +kernel) (by decide +kernel)
theorem wd_714 : Cond.instanceMethod ⟨"CoinStringsModel", "nimOf", "(I)I"⟩ ∈ gw_tbl := gw_t (i := 714) (by decide +kernel) (by decide +kernel)
theorem wd_715 : Cond.code ⟨"CoinStringsModel", "nimOf", "(I)I"⟩ prog_9_method_13_code 9 (some .int) ∈ gw_tbl := gw_t (i := 715) (by decide +kernel) (by decide +kernel)
theorem wd_716 : Cond.methodLink "CoinStringsLaw" 116 ⟨"CoinStringsModel", "good", "()I"⟩ ∈ gw_tbl := gw_t (i := 716) (by decide +kernel) (by decide +kernel)
theorem wd_717 : Cond.instanceMethod ⟨"CoinStringsModel", "good", "()I"⟩ ∈ gw_tbl := gw_t (i := 717) (by decide +kernel) (by decide +kernel)
theorem wd_718 : Cond.selects "CoinStringsModel" ⟨"CoinStringsModel", "good", "()I"⟩ ⟨"CoinStringsModel", "good", "()I"⟩ ∈ gw_tbl := gw_t (i := 718) (by decide +kernel) (by decide +kernel)
theorem wd_719 : Cond.code ⟨"CoinStringsModel", "good", "()I"⟩ prog_9_method_18_code 1 (some .int) ∈ gw_tbl := gw_t (i := 719) (by decide +kernel) (by decide +kernel)
theorem wd_720 : Cond.methodLink "CoinStringsModel" 98 ⟨"CoinStringsModel", "goodSet", "()I"⟩ ∈ gw_tbl := gw_t (i := 720) (by decide +kernel) (by decide +kernel)
theorem wd_722 : Cond.instanceMethod ⟨"CoinStringsModel", "goodSet", "()I"⟩ ∈ gw_tbl := gw_t (i := 722) (by decide +kernel) (by decide +kernel)
theorem wd_723 : Cond.code ⟨"CoinStringsModel", "goodSet", "()I"⟩ prog_9_method_16_code 3 (some .int) ∈ gw_tbl := gw_t (i := 723) (by decide +kernel) (by decide +kernel)
theorem wd_724 : Cond.methodLink "CoinStringsLaw" 119 ⟨"CoinStringsModel", "nim", "()I"⟩ ∈ gw_tbl := gw_t (i := 724) (by decide +kernel) (by decide +kernel)
theorem wd_725 : Cond.instanceMethod ⟨"CoinStringsModel", "nim", "()I"⟩ ∈ gw_tbl := gw_t (i := 725) (by decide +kernel) (by decide +kernel)
theorem wd_726 : Cond.selects "CoinStringsModel" ⟨"CoinStringsModel", "nim", "()I"⟩ ⟨"CoinStringsModel", "nim", "()I"⟩ ∈ gw_tbl := gw_t (i := 726) (by decide +kernel) (by decide +kernel)
theorem wd_727 : Cond.code ⟨"CoinStringsModel", "nim", "()I"⟩ prog_9_method_19_code 1 (some .int) ∈ gw_tbl := gw_t (i := 727) (by decide +kernel) (by decide +kernel)
theorem wd_728 : Cond.methodLink "CoinStringsLaw" 122 ⟨"CoinStringsModel", "mad", "()I"⟩ ∈ gw_tbl := gw_t (i := 728) (by decide +kernel) (by decide +kernel)
theorem wd_729 : Cond.instanceMethod ⟨"CoinStringsModel", "mad", "()I"⟩ ∈ gw_tbl := gw_t (i := 729) (by decide +kernel) (by decide +kernel)
theorem wd_730 : Cond.selects "CoinStringsModel" ⟨"CoinStringsModel", "mad", "()I"⟩ ⟨"CoinStringsModel", "mad", "()I"⟩ ∈ gw_tbl := gw_t (i := 730) (by decide +kernel) (by decide +kernel)
theorem wd_731 : Cond.code ⟨"CoinStringsModel", "mad", "()I"⟩ prog_9_method_20_code 4 (some .int) ∈ gw_tbl := gw_t (i := 731) (by decide +kernel) (by decide +kernel)
theorem wd_732 : Cond.methodLink "CoinStringsLaw" 89 ⟨"CoinStringsModel", "cut", "(I)I"⟩ ∈ gw_tbl := gw_t (i := 732) (by decide +kernel) (by decide +kernel)
theorem wd_733 : Cond.instanceMethod ⟨"CoinStringsModel", "cut", "(I)I"⟩ ∈ gw_tbl := gw_t (i := 733) (by decide +kernel) (by decide +kernel)
theorem wd_734 : Cond.selects "CoinStringsModel" ⟨"CoinStringsModel", "cut", "(I)I"⟩ ⟨"CoinStringsModel", "cut", "(I)I"⟩ ∈ gw_tbl := gw_t (i := 734) (by decide +kernel) (by decide +kernel)
theorem wd_735 : Cond.code ⟨"CoinStringsModel", "cut", "(I)I"⟩ prog_9_method_22_code 2 (some .int) ∈ gw_tbl := gw_t (i := 735) (by decide +kernel) (by decide +kernel)
theorem wd_736 : Cond.methodLink "CoinStringsModel" 102 ⟨"CoinStringsModel", "make", "(I)I"⟩ ∈ gw_tbl := gw_t (i := 736) (by decide +kernel) (by decide +kernel)
theorem wd_738 : Cond.instanceMethod ⟨"CoinStringsModel", "make", "(I)I"⟩ ∈ gw_tbl := gw_t (i := 738) (by decide +kernel) (by decide +kernel)
theorem wd_739 : Cond.code ⟨"CoinStringsModel", "make", "(I)I"⟩ prog_9_method_21_code 3 (some .int) ∈ gw_tbl := gw_t (i := 739) (by decide +kernel) (by decide +kernel)
theorem wd_740 : Cond.methodLink "CoinStringsLaw" 93 ⟨"CoinStringsModel", "undo", "()I"⟩ ∈ gw_tbl := gw_t (i := 740) (by decide +kernel) (by decide +kernel)
theorem wd_741 : Cond.instanceMethod ⟨"CoinStringsModel", "undo", "()I"⟩ ∈ gw_tbl := gw_t (i := 741) (by decide +kernel) (by decide +kernel)
theorem wd_742 : Cond.selects "CoinStringsModel" ⟨"CoinStringsModel", "undo", "()I"⟩ ⟨"CoinStringsModel", "undo", "()I"⟩ ∈ gw_tbl := gw_t (i := 742) (by decide +kernel) (by decide +kernel)
theorem wd_743 : Cond.code ⟨"CoinStringsModel", "undo", "()I"⟩ prog_9_method_23_code 1 (some .int) ∈ gw_tbl := gw_t (i := 743) (by decide +kernel) (by decide +kernel)
theorem wd_744 : Cond.methodLink "CoinStringsLaw" 96 ⟨"CoinStringsModel", "play", "()I"⟩ ∈ gw_tbl := gw_t (i := 744) (by decide +kernel) (by decide +kernel)
theorem wd_745 : Cond.instanceMethod ⟨"CoinStringsModel", "play", "()I"⟩ ∈ gw_tbl := gw_t (i := 745) (by decide +kernel) (by decide +kernel)
theorem wd_746 : Cond.selects "CoinStringsModel" ⟨"CoinStringsModel", "play", "()I"⟩ ⟨"CoinStringsModel", "play", "()I"⟩ ∈ gw_tbl := gw_t (i := 746) (by decide +kernel) (by decide +kernel)
theorem wd_747 : Cond.code ⟨"CoinStringsModel", "play", "()I"⟩ prog_9_method_24_code 5 (some .int) ∈ gw_tbl := gw_t (i := 747) (by decide +kernel) (by decide +kernel)
theorem wd_748 : Cond.methodLink "CoinStringsLaw" 100 ⟨"CoinStringsModel", "turn", "()I"⟩ ∈ gw_tbl := gw_t (i := 748) (by decide +kernel) (by decide +kernel)
theorem wd_749 : Cond.instanceMethod ⟨"CoinStringsModel", "turn", "()I"⟩ ∈ gw_tbl := gw_t (i := 749) (by decide +kernel) (by decide +kernel)
theorem wd_750 : Cond.selects "CoinStringsModel" ⟨"CoinStringsModel", "turn", "()I"⟩ ⟨"CoinStringsModel", "turn", "()I"⟩ ∈ gw_tbl := gw_t (i := 750) (by decide +kernel) (by decide +kernel)
theorem wd_751 : Cond.code ⟨"CoinStringsModel", "turn", "()I"⟩ prog_9_method_25_code 1 (some .int) ∈ gw_tbl := gw_t (i := 751) (by decide +kernel) (by decide +kernel)
theorem wd_752 : Cond.methodLink "CoinStringsLaw" 103 ⟨"CoinStringsModel", "taken", "(I)I"⟩ ∈ gw_tbl := gw_t (i := 752) (by decide +kernel) (by decide +kernel)
theorem wd_753 : Cond.instanceMethod ⟨"CoinStringsModel", "taken", "(I)I"⟩ ∈ gw_tbl := gw_t (i := 753) (by decide +kernel) (by decide +kernel)
theorem wd_754 : Cond.selects "CoinStringsModel" ⟨"CoinStringsModel", "taken", "(I)I"⟩ ⟨"CoinStringsModel", "taken", "(I)I"⟩ ∈ gw_tbl := gw_t (i := 754) (by decide +kernel) (by decide +kernel)
theorem wd_755 : Cond.code ⟨"CoinStringsModel", "taken", "(I)I"⟩ prog_9_method_26_code 2 (some .int) ∈ gw_tbl := gw_t (i := 755) (by decide +kernel) (by decide +kernel)
theorem wd_756 : Cond.methodLink "CoinStringsLaw" 107 ⟨"CoinStringsModel", "left", "()I"⟩ ∈ gw_tbl := gw_t (i := 756) (by decide +kernel) (by decide +kernel)
theorem wd_757 : Cond.instanceMethod ⟨"CoinStringsModel", "left", "()I"⟩ ∈ gw_tbl := gw_t (i := 757) (by decide +kernel) (by decide +kernel)
theorem wd_758 : Cond.selects "CoinStringsModel" ⟨"CoinStringsModel", "left", "()I"⟩ ⟨"CoinStringsModel", "left", "()I"⟩ ∈ gw_tbl := gw_t (i := 758) (by decide +kernel) (by decide +kernel)
theorem wd_759 : Cond.code ⟨"CoinStringsModel", "left", "()I"⟩ prog_9_method_27_code 1 (some .int) ∈ gw_tbl := gw_t (i := 759) (by decide +kernel) (by decide +kernel)
theorem wd_760 : Cond.methodLink "CoinStringsLaw" 110 ⟨"CoinStringsModel", "strings", "(I)I"⟩ ∈ gw_tbl := gw_t (i := 760) (by decide +kernel) (by decide +kernel)
theorem wd_761 : Cond.instanceMethod ⟨"CoinStringsModel", "strings", "(I)I"⟩ ∈ gw_tbl := gw_t (i := 761) (by decide +kernel) (by decide +kernel)
theorem wd_762 : Cond.selects "CoinStringsModel" ⟨"CoinStringsModel", "strings", "(I)I"⟩ ⟨"CoinStringsModel", "strings", "(I)I"⟩ ∈ gw_tbl := gw_t (i := 762) (by decide +kernel) (by decide +kernel)
theorem wd_763 : Cond.code ⟨"CoinStringsModel", "strings", "(I)I"⟩ prog_9_method_28_code 2 (some .int) ∈ gw_tbl := gw_t (i := 763) (by decide +kernel) (by decide +kernel)
theorem wd_764 : Cond.methodLink "CoinStringsModel" 105 ⟨"CoinStringsModel", "belong", "(II)I"⟩ ∈ gw_tbl := gw_t (i := 764) (by decide +kernel) (by decide +kernel)
theorem wd_766 : Cond.instanceMethod ⟨"CoinStringsModel", "belong", "(II)I"⟩ ∈ gw_tbl := gw_t (i := 766) (by decide +kernel) (by decide +kernel)
theorem wd_767 : Cond.code ⟨"CoinStringsModel", "belong", "(II)I"⟩ prog_9_method_9_code 5 (some .int) ∈ gw_tbl := gw_t (i := 767) (by decide +kernel) (by decide +kernel)
theorem wd_768 : Cond.methodLink "CoinStringsLaw" 126 ⟨"CoinStringsModel", "groups", "()I"⟩ ∈ gw_tbl := gw_t (i := 768) (by decide +kernel) (by decide +kernel)
theorem wd_769 : Cond.instanceMethod ⟨"CoinStringsModel", "groups", "()I"⟩ ∈ gw_tbl := gw_t (i := 769) (by decide +kernel) (by decide +kernel)
theorem wd_770 : Cond.selects "CoinStringsModel" ⟨"CoinStringsModel", "groups", "()I"⟩ ⟨"CoinStringsModel", "groups", "()I"⟩ ∈ gw_tbl := gw_t (i := 770) (by decide +kernel) (by decide +kernel)
theorem wd_771 : Cond.code ⟨"CoinStringsModel", "groups", "()I"⟩ prog_9_method_32_code 1 (some .int) ∈ gw_tbl := gw_t (i := 771) (by decide +kernel) (by decide +kernel)
theorem wd_772 : Cond.methodLink "CoinStringsModel" 118 ⟨"CoinStringsModel", "part", "()V"⟩ ∈ gw_tbl := gw_t (i := 772) (by decide +kernel) (by decide +kernel)
theorem wd_774 : Cond.instanceMethod ⟨"CoinStringsModel", "part", "()V"⟩ ∈ gw_tbl := gw_t (i := 774) (by decide +kernel) (by decide +kernel)
theorem wd_775 : Cond.code ⟨"CoinStringsModel", "part", "()V"⟩ prog_9_method_30_code 2 (none) ∈ gw_tbl := gw_t (i := 775) (by decide +kernel) (by decide +kernel)
theorem wd_776 : Cond.methodLink "CoinStringsModel" 111 ⟨"CoinStringsModel", "spread", "()V"⟩ ∈ gw_tbl := gw_t (i := 776) (by decide +kernel) (by decide +kernel)
theorem wd_778 : Cond.instanceMethod ⟨"CoinStringsModel", "spread", "()V"⟩ ∈ gw_tbl := gw_t (i := 778) (by decide +kernel) (by decide +kernel)
theorem wd_779 : Cond.code ⟨"CoinStringsModel", "spread", "()V"⟩ prog_9_method_31_code 4 (none) ∈ gw_tbl := gw_t (i := 779) (by decide +kernel) (by decide +kernel)
theorem wd_780 : Cond.methodLink "CoinStringsModel" 114 ⟨"CoinStringsModel", "joined", "(II)Z"⟩ ∈ gw_tbl := gw_t (i := 780) (by decide +kernel) (by decide +kernel)
theorem wd_782 : Cond.instanceMethod ⟨"CoinStringsModel", "joined", "(II)Z"⟩ ∈ gw_tbl := gw_t (i := 782) (by decide +kernel) (by decide +kernel)
theorem wd_783 : Cond.code ⟨"CoinStringsModel", "joined", "(II)Z"⟩ prog_9_method_29_code 5 (some .boolean) ∈ gw_tbl := gw_t (i := 783) (by decide +kernel) (by decide +kernel)
theorem wd_784 : Cond.methodLink "CoinStringsLaw" 129 ⟨"CoinStringsModel", "group", "(I)I"⟩ ∈ gw_tbl := gw_t (i := 784) (by decide +kernel) (by decide +kernel)
theorem wd_785 : Cond.instanceMethod ⟨"CoinStringsModel", "group", "(I)I"⟩ ∈ gw_tbl := gw_t (i := 785) (by decide +kernel) (by decide +kernel)
theorem wd_786 : Cond.selects "CoinStringsModel" ⟨"CoinStringsModel", "group", "(I)I"⟩ ⟨"CoinStringsModel", "group", "(I)I"⟩ ∈ gw_tbl := gw_t (i := 786) (by decide +kernel) (by decide +kernel)
theorem wd_787 : Cond.code ⟨"CoinStringsModel", "group", "(I)I"⟩ prog_9_method_33_code 7 (some .int) ∈ gw_tbl := gw_t (i := 787) (by decide +kernel) (by decide +kernel)
theorem wd_788 : Cond.methodLink "CoinStringsLaw" 133 ⟨"CoinStringsModel", "show", "()I"⟩ ∈ gw_tbl := gw_t (i := 788) (by decide +kernel) (by decide +kernel)
theorem wd_789 : Cond.instanceMethod ⟨"CoinStringsModel", "show", "()I"⟩ ∈ gw_tbl := gw_t (i := 789) (by decide +kernel) (by decide +kernel)
theorem wd_790 : Cond.selects "CoinStringsModel" ⟨"CoinStringsModel", "show", "()I"⟩ ⟨"CoinStringsModel", "show", "()I"⟩ ∈ gw_tbl := gw_t (i := 790) (by decide +kernel) (by decide +kernel)
theorem wd_791 : Cond.code ⟨"CoinStringsModel", "show", "()I"⟩ prog_9_method_35_code 2 (some .int) ∈ gw_tbl := gw_t (i := 791) (by decide +kernel) (by decide +kernel)
theorem wd_792 : Cond.methodLink "CoinStringsModel" 124 ⟨"CoinStringsModel", "write", "(I)V"⟩ ∈ gw_tbl := gw_t (i := 792) (by decide +kernel) (by decide +kernel)
theorem wd_794 : Cond.instanceMethod ⟨"CoinStringsModel", "write", "(I)V"⟩ ∈ gw_tbl := gw_t (i := 794) (by decide +kernel) (by decide +kernel)
theorem wd_795 : Cond.code ⟨"CoinStringsModel", "write", "(I)V"⟩ prog_9_method_34_code 2 (none) ∈ gw_tbl := gw_t (i := 795) (by decide +kernel) (by decide +kernel)
theorem wd_796 : Cond.methodLink "CoinStringsLaw" 136 ⟨"CoinStringsModel", "at", "(I)I"⟩ ∈ gw_tbl := gw_t (i := 796) (by decide +kernel) (by decide +kernel)
theorem wd_797 : Cond.instanceMethod ⟨"CoinStringsModel", "at", "(I)I"⟩ ∈ gw_tbl := gw_t (i := 797) (by decide +kernel) (by decide +kernel)
theorem wd_798 : Cond.selects "CoinStringsModel" ⟨"CoinStringsModel", "at", "(I)I"⟩ ⟨"CoinStringsModel", "at", "(I)I"⟩ ∈ gw_tbl := gw_t (i := 798) (by decide +kernel) (by decide +kernel)
theorem wd_799 : Cond.code ⟨"CoinStringsModel", "at", "(I)I"⟩ prog_9_method_36_code 2 (some .int) ∈ gw_tbl := gw_t (i := 799) (by decide +kernel) (by decide +kernel)
theorem wd_800 : Cond.arrayClass .long ∈ gw_tbl := gw_t (i := 800) (by decide +kernel) (by decide +kernel)
theorem wd_801 : Cond.sameMethod "java/lang/Throwable" "java/lang/Throwable" "fillInStackTrace" "(I)Ljava/lang/Throwable;" ∈ gw_tbl := gw_t (i := 801) (by decide +kernel) (by decide +kernel)
theorem wd_802 : Cond.sameMethod "CoinStrings$Values" "CoinStrings$Values" "prepare" "()V" ∈ gw_tbl := gw_t (i := 802) (by decide +kernel) (by decide +kernel)
theorem wp_0 : Cond.selects "CoinStrings$Grouping" ⟨"CoinStrings$Grouping", "leaderOf", "(I)I"⟩ ⟨"CoinStrings$Grouping", "leaderOf", "(I)I"⟩ ∈ gw_tbl := gw_p (i := 0) (by decide +kernel) (by decide +kernel)
theorem wp_1 : Cond.selects "CoinStrings$Grouping" ⟨"CoinStrings$Grouping", "unite", "(II)V"⟩ ⟨"CoinStrings$Grouping", "unite", "(II)V"⟩ ∈ gw_tbl := gw_p (i := 1) (by decide +kernel) (by decide +kernel)
theorem wp_2 : Cond.selects "CoinStrings$Text" ⟨"CoinStrings$Text", "putString", "(I)V"⟩ ⟨"CoinStrings$Text", "putString", "(I)V"⟩ ∈ gw_tbl := gw_p (i := 2) (by decide +kernel) (by decide +kernel)
theorem wp_3 : Cond.selects "CoinStrings$Text" ⟨"CoinStrings$Text", "putDigit", "(I)V"⟩ ⟨"CoinStrings$Text", "putDigit", "(I)V"⟩ ∈ gw_tbl := gw_p (i := 3) (by decide +kernel) (by decide +kernel)
theorem wp_4 : Cond.selects "CoinStrings$Text" ⟨"CoinStrings$Text", "put", "(C)V"⟩ ⟨"CoinStrings$Text", "put", "(C)V"⟩ ∈ gw_tbl := gw_p (i := 4) (by decide +kernel) (by decide +kernel)
theorem wp_5 : Cond.selects "java/lang/Throwable" ⟨"java/lang/Throwable", "fillInStackTrace", "(I)Ljava/lang/Throwable;"⟩ ⟨"java/lang/Throwable", "fillInStackTrace", "(I)Ljava/lang/Throwable;"⟩ ∈ gw_tbl := gw_p (i := 5) (by decide +kernel) (by decide +kernel)
theorem wp_6 : Cond.selects "CoinStrings" ⟨"CoinStrings", "requireBegun", "()V"⟩ ⟨"CoinStrings", "requireBegun", "()V"⟩ ∈ gw_tbl := gw_p (i := 6) (by decide +kernel) (by decide +kernel)
theorem wp_7 : Cond.selects "CoinStrings" ⟨"CoinStrings", "sever", "(I)I"⟩ ⟨"CoinStrings", "sever", "(I)I"⟩ ∈ gw_tbl := gw_p (i := 7) (by decide +kernel) (by decide +kernel)
theorem wp_8 : Cond.selects "CoinStrings$Web" ⟨"CoinStrings$Web", "hangsOnlyOn", "(III)Z"⟩ ⟨"CoinStrings$Web", "hangsOnlyOn", "(III)Z"⟩ ∈ gw_tbl := gw_p (i := 8) (by decide +kernel) (by decide +kernel)
theorem wp_9 : Cond.selects "CoinStrings$Margins" ⟨"CoinStrings$Margins", "given", "(II)I"⟩ ⟨"CoinStrings$Margins", "given", "(II)I"⟩ ∈ gw_tbl := gw_p (i := 9) (by decide +kernel) (by decide +kernel)
theorem wp_10 : Cond.selects "CoinStringsModel" ⟨"CoinStringsModel", "hang", "(II)V"⟩ ⟨"CoinStringsModel", "hang", "(II)V"⟩ ∈ gw_tbl := gw_p (i := 10) (by decide +kernel) (by decide +kernel)
theorem wp_11 : Cond.selects "CoinStringsModel" ⟨"CoinStringsModel", "asks", "()Z"⟩ ⟨"CoinStringsModel", "asks", "()Z"⟩ ∈ gw_tbl := gw_p (i := 11) (by decide +kernel) (by decide +kernel)
theorem wp_12 : Cond.selects "CoinStringsModel" ⟨"CoinStringsModel", "solve", "()V"⟩ ⟨"CoinStringsModel", "solve", "()V"⟩ ∈ gw_tbl := gw_p (i := 12) (by decide +kernel) (by decide +kernel)
theorem wp_13 : Cond.selects "CoinStringsModel" ⟨"CoinStringsModel", "marginOf", "(I)I"⟩ ⟨"CoinStringsModel", "marginOf", "(I)I"⟩ ∈ gw_tbl := gw_p (i := 13) (by decide +kernel) (by decide +kernel)
theorem wp_14 : Cond.selects "CoinStringsModel" ⟨"CoinStringsModel", "marginBy", "(II)I"⟩ ⟨"CoinStringsModel", "marginBy", "(II)I"⟩ ∈ gw_tbl := gw_p (i := 14) (by decide +kernel) (by decide +kernel)
theorem wp_15 : Cond.selects "CoinStringsModel" ⟨"CoinStringsModel", "takes", "(II)I"⟩ ⟨"CoinStringsModel", "takes", "(II)I"⟩ ∈ gw_tbl := gw_p (i := 15) (by decide +kernel) (by decide +kernel)
theorem wp_16 : Cond.selects "CoinStringsModel" ⟨"CoinStringsModel", "nimOf", "(I)I"⟩ ⟨"CoinStringsModel", "nimOf", "(I)I"⟩ ∈ gw_tbl := gw_p (i := 16) (by decide +kernel) (by decide +kernel)
theorem wp_17 : Cond.selects "CoinStringsModel" ⟨"CoinStringsModel", "goodSet", "()I"⟩ ⟨"CoinStringsModel", "goodSet", "()I"⟩ ∈ gw_tbl := gw_p (i := 17) (by decide +kernel) (by decide +kernel)
theorem wp_18 : Cond.selects "CoinStringsModel" ⟨"CoinStringsModel", "make", "(I)I"⟩ ⟨"CoinStringsModel", "make", "(I)I"⟩ ∈ gw_tbl := gw_p (i := 18) (by decide +kernel) (by decide +kernel)
theorem wp_19 : Cond.selects "CoinStringsModel" ⟨"CoinStringsModel", "belong", "(II)I"⟩ ⟨"CoinStringsModel", "belong", "(II)I"⟩ ∈ gw_tbl := gw_p (i := 19) (by decide +kernel) (by decide +kernel)
theorem wp_20 : Cond.selects "CoinStringsModel" ⟨"CoinStringsModel", "part", "()V"⟩ ⟨"CoinStringsModel", "part", "()V"⟩ ∈ gw_tbl := gw_p (i := 20) (by decide +kernel) (by decide +kernel)
theorem wp_21 : Cond.selects "CoinStringsModel" ⟨"CoinStringsModel", "spread", "()V"⟩ ⟨"CoinStringsModel", "spread", "()V"⟩ ∈ gw_tbl := gw_p (i := 21) (by decide +kernel) (by decide +kernel)
theorem wp_22 : Cond.selects "CoinStringsModel" ⟨"CoinStringsModel", "joined", "(II)Z"⟩ ⟨"CoinStringsModel", "joined", "(II)Z"⟩ ∈ gw_tbl := gw_p (i := 22) (by decide +kernel) (by decide +kernel)
theorem wp_23 : Cond.selects "CoinStringsModel" ⟨"CoinStringsModel", "write", "(I)V"⟩ ⟨"CoinStringsModel", "write", "(I)V"⟩ ∈ gw_tbl := gw_p (i := 23) (by decide +kernel) (by decide +kernel)
theorem wi_C : ∀ w ∈ u_ws "CoinStrings" fT_C 12, w ∈ gw_tbl := by decide +kernel
theorem wc_C (c : Cond) : ∀ w ∈ u_ws "CoinStrings" fT_C 12, w ∈ c :: gw_tbl := fun w h => gq (wi_C w h)
theorem wi_W : ∀ w ∈ u_ws "CoinStrings$Web" fT_W 4, w ∈ gw_tbl := by decide +kernel
theorem wc_W (c : Cond) : ∀ w ∈ u_ws "CoinStrings$Web" fT_W 4, w ∈ c :: gw_tbl := fun w h => gq (wi_W w h)
theorem wi_M : ∀ w ∈ u_ws "CoinStrings$Margins" fT_M 3, w ∈ gw_tbl := by decide +kernel
theorem wc_M (c : Cond) : ∀ w ∈ u_ws "CoinStrings$Margins" fT_M 3, w ∈ c :: gw_tbl := fun w h => gq (wi_M w h)
theorem wi_N : ∀ w ∈ u_ws "CoinStrings$NimValues" fT_N 3, w ∈ gw_tbl := by decide +kernel
theorem wc_N (c : Cond) : ∀ w ∈ u_ws "CoinStrings$NimValues" fT_N 3, w ∈ c :: gw_tbl := fun w h => gq (wi_N w h)
theorem wi_G : ∀ w ∈ u_ws "CoinStrings$Grouping" fT_G 2, w ∈ gw_tbl := by decide +kernel
theorem wc_G (c : Cond) : ∀ w ∈ u_ws "CoinStrings$Grouping" fT_G 2, w ∈ c :: gw_tbl := fun w h => gq (wi_G w h)
theorem wi_T : ∀ w ∈ u_ws "CoinStrings$Text" fT_T 3, w ∈ gw_tbl := by decide +kernel
theorem wc_T (c : Cond) : ∀ w ∈ u_ws "CoinStrings$Text" fT_T 3, w ∈ c :: gw_tbl := fun w h => gq (wi_T w h)
theorem wi_R : ∀ w ∈ u_ws "CoinStringsModel" fT_R 21, w ∈ gw_tbl := by decide +kernel
theorem wc_R (c : Cond) : ∀ w ∈ u_ws "CoinStringsModel" fT_R 21, w ∈ c :: gw_tbl := fun w h => gq (wi_R w h)
end
section
/-! the walk with its world, its locals (by place) and its stack as indexes -/
/-- locals by place: some v: known; none: not known -/
def kw_has (ls : Array Slot) (nL : Nat) (lv : List (Option Value)) : Prop := lv_has ls nL [] ∧ ∀ (i : Nat) (v : Value), lv[i]? = some (some v) → v.category = 1 ∧ ls[i]? = some (.val v)
/-- what stays the same through a body -/
def kw_X (p : Program) (s : State) (m : MethodId) (args : Array Value) (c : Code) (cc : ByteArray) (nL : Nat) (own : String) (Ts : List Cond) (D : va_G) (cl : List vw_C) (tys : List (ClassId × FieldType)) (A : Nat → Prop) : Prop :=
  CallFix p m c cc nL s args Ts own ∧ va_K D cl tys s ∧ ∀ q, s.heap.size ≤ q → A q
def kw_W (p : Program) (l : Launch) (e : Env) (R : Room) (s : State) (m : MethodId) (args : Array Value) (below : List Frame) (meth : Method) (c : Code) (nL : Nat) (D : va_G) (cl : List vw_C) (A : Nat → Prop) (cells slots : Nat) (Q : State → Prop) (ws : va_W) (pc : Nat) (lv : List (Option Value)) (st : List Value) : Prop :=
  ∀ (H : Heap) (locs : List Loc) (ls : Array Slot), va_P D cl ws H → va_D A ws → va_S A s.heap H locs → kw_has ls nL lv → W p l e R s m args below meth c H locs cells slots Q (F0 m pc ls st)
theorem kw_has.at {ls : Array Slot} {nL : Nat} {lv : List (Option Value)} (h : kw_has ls nL lv) {i : Nat} {v : Value} (hi : lv[i]? = some (some v)) : ls[i]? = some (.val v) := (h.2 i v hi).2
def kw_pairs (nL : Nat) (lv : List (Option Value)) : List (Nat × Value) := (List.range nL).filterMap (fun j => match lv[j]? with
  | some (some v) => some (j, v)
  | _ => none)
theorem kw_pairs_mem {nL : Nat} {lv : List (Option Value)} {q : Nat × Value} : q ∈ kw_pairs nL lv ↔ q.1 < nL ∧ lv[q.1]? = some (some q.2) := by
  unfold kw_pairs
  rw [List.mem_filterMap]
  constructor
  · rintro ⟨j, hj, h⟩
    split at h
    · rename_i v hv
      cases h
      exact ⟨List.mem_range.mp hj, hv⟩
    · cases h
  · rintro ⟨h1, h2⟩
    exact ⟨q.1, List.mem_range.mpr h1, by rw [h2]⟩
theorem kw_store {ls : Array Slot} {nL : Nat} {lv : List (Option Value)} (h : kw_has ls nL lv) (i : Nat) {v : Value} (hc : v.category = 1) :
    lv_has ls nL (kw_pairs nL lv) ∧ ∀ ls' : Array Slot, lv_has ls' nL ((i, v) :: (kw_pairs nL lv).filter (fun q => !(q.1 == i) && !(q.1 + 1 == i && q.2.category == 2))) → kw_has ls' nL (lv.set i (some v)) := by
  refine ⟨⟨h.1.1, h.1.2.1, fun q hq => h.at (kw_pairs_mem.mp hq).2⟩, fun ls' h' => ⟨⟨h'.1, h'.2.1, fun q hq => by cases hq⟩, fun j w hj => ?_⟩⟩
  by_cases hji : j = i
  · subst hji
    by_cases hl : j < lv.length
    · rw [List.getElem?_set_self hl] at hj
      cases hj
      exact ⟨hc, h'.2.2 (j, v) List.mem_cons_self⟩
    · rw [List.getElem?_eq_none (by rw [List.length_set]; omega)] at hj
      cases hj
  · rw [List.getElem?_set_ne (fun z => hji z.symm)] at hj
    obtain ⟨h1, h2⟩ := h.2 j w hj
    refine ⟨h1, h'.2.2 (j, w) (List.mem_cons_of_mem _ (List.mem_filter.mpr ⟨kw_pairs_mem.mpr ⟨?_, hj⟩, ?_⟩))⟩
    · have h3 := (Array.getElem?_eq_some_iff.mp h2).1
      have h4 := h.1.1
      show j < nL
      omega
    · show (!(j == i) && !(j + 1 == i && w.category == 2)) = true
      rw [h1]
      simp [hji]
theorem kw_has.kill {ls : Array Slot} {nL : Nat} {lv : List (Option Value)} (h : kw_has ls nL lv) (i : Nat) : kw_has ls nL (lv.set i none) := by
  refine ⟨h.1, fun j v hj => h.2 j v ?_⟩
  by_cases hji : j = i
  · subst hji
    by_cases hl : j < lv.length
    · rw [List.getElem?_set_self hl] at hj
      cases hj
    · rw [List.getElem?_eq_none (by rw [List.length_set]; omega)] at hj
      cases hj
  · rw [List.getElem?_set_ne (fun z => hji z.symm)] at hj
    exact hj
theorem kw_args_mem : ∀ (vs : List Value) (k i : Nat) (v : Value), (∀ w ∈ vs, w.category = 1) → vs[i]? = some v → (k + i, v) ∈ lv_args k vs := by
  intro vs
  induction vs with
  | nil => intro k i v _ h; simp at h
  | cons w t ih =>
    intro k i v hc h
    have hw : w.category = 1 := hc w List.mem_cons_self
    cases i with
    | zero =>
      simp at h
      subst h
      simp [lv_args]
    | succ i =>
      simp at h
      have h1 := ih (k + 1) i v (fun x hx => hc x (List.mem_cons_of_mem _ hx)) h
      have h2 : k + 1 + i = k + (i + 1) := by omega
      rw [h2] at h1
      unfold lv_args
      rw [if_neg (by rw [hw]; decide)]
      exact List.mem_cons_of_mem _ h1
theorem kw_entry (as : List Value) {n : Nat} (h : (lg_sl as).length ≤ n) (hc : ∀ w ∈ as, w.category = 1) : kw_has ((lg_sl as ++ List.replicate (n - (lg_sl as).length) Slot.unset).toArray) n (as.map some ++ List.replicate (n - as.length) none) := by
  have hl := lv_entry as h
  refine ⟨⟨hl.1, hl.2.1, fun q hq => by cases hq⟩, fun i v hi => ?_⟩
  have hv : as[i]? = some v := by
    by_cases hi2 : i < as.length
    · rw [List.getElem?_append_left (by simpa using hi2), List.getElem?_map] at hi
      cases hx : as[i]? with
      | none => rw [hx] at hi; cases hi
      | some w => rw [hx] at hi; simp at hi; rw [hi]
    · rw [List.getElem?_append_right (by simpa using hi2), List.getElem?_replicate] at hi
      split at hi <;> cases hi
  have hm := hl.2.2 (0 + i, v) (kw_args_mem as 0 i v hc hv)
  rw [Nat.zero_add] at hm
  exact ⟨hc v (List.mem_of_getElem? hv), hm⟩
/-- a world with the cells at the places is replaced by others; what is left over comes behind -/
def kw_put : va_W → List Nat → va_W → va_W
  | ws, i :: is, q :: qs => kw_put (ws.set i q) is qs
  | ws, [], qs => ws ++ qs
  | ws, _ :: _, [] => ws
theorem kw_put_get : ∀ (is : List Nat) (qs ws : va_W), is.length ≤ qs.length → ∀ (k : Nat) (q : Nat × va_E), (kw_put ws is qs)[k]? = some q →
    (k ∉ is ∧ ws[k]? = some q) ∨ ∃ j, qs[j]? = some q ∧ (is[j]? = some k ∨ (is.length ≤ j ∧ k = ws.length + (j - is.length))) := by
  intro is
  induction is with
  | nil =>
    intro qs ws _ k q h
    have h : (ws ++ qs)[k]? = some q := by
      cases qs <;> simpa [kw_put] using h
    by_cases hk : k < ws.length
    · rw [List.getElem?_append_left hk] at h
      exact Or.inl ⟨List.not_mem_nil, h⟩
    · rw [List.getElem?_append_right (by omega)] at h
      exact Or.inr ⟨k - ws.length, h, Or.inr ⟨Nat.zero_le _, by simp; omega⟩⟩
  | cons i is ih =>
    intro qs ws hlen k q h
    cases qs with
    | nil => simp at hlen
    | cons q0 qs =>
      have hlen' : is.length ≤ qs.length := by simpa using hlen
      rcases ih qs (ws.set i q0) hlen' k q h with ⟨h1, h2⟩ | ⟨j, h1, h2⟩
      · by_cases hk : k = i
        · subst hk
          by_cases hl : k < ws.length
          · rw [List.getElem?_set_self hl] at h2
            exact Or.inr ⟨0, by simpa using h2, Or.inl rfl⟩
          · rw [List.getElem?_eq_none (by rw [List.length_set]; omega)] at h2
            cases h2
        · rw [List.getElem?_set_ne (fun z => hk z.symm)] at h2
          exact Or.inl ⟨by simp [hk, h1], h2⟩
      · refine Or.inr ⟨j + 1, by simpa using h1, ?_⟩
        rcases h2 with h2 | ⟨h2, h3⟩
        · exact Or.inl (by simpa using h2)
        · rw [List.length_set] at h3
          exact Or.inr ⟨by simp; omega, by simp; omega⟩
/-- behind a call: the callee's cells at their places, the others as they were -/
theorem kw_join {A0 : Nat → Prop} {D : va_G} {cl : List vw_C} {ws wc w1 : va_W} {H H1 : Heap} (hP : va_P D cl ws H) (hD : va_D A0 ws) (isC : List Nat) (hC : isC.map (fun i => ws[i]?) = wc.map some) (hlen : isC.length ≤ w1.length)
    (hk : ∀ q : Nat, q < H.size → ¬ va_A wc H.size q → H1[q]? = H[q]?) (hF : ∀ q, va_A wc H.size q → A0 q) (hP1 : va_P D cl w1 H1) (hD1 : va_D (va_A wc H.size) w1) : va_P D cl (kw_put ws isC w1) H1 ∧ va_D A0 (kw_put ws isC w1) := by
  have apart : ∀ (k : Nat) (q : Nat × va_E), k ∉ isC → ws[k]? = some q → q.1 < H.size ∧ ¬ va_A wc H.size q.1 := by
    intro k q hn hq
    have hl := (hP k q hq).lt
    refine ⟨hl, fun h => ?_⟩
    rcases h with ⟨k2, e, h⟩ | h
    · have h1 : (isC.map (fun i => ws[i]?))[k2]? = some (some (q.1, e)) := by rw [hC, List.getElem?_map, h]; rfl
      rw [List.getElem?_map] at h1
      cases hi : isC[k2]? with
      | none => rw [hi] at h1; cases h1
      | some i =>
        rw [hi] at h1
        have hij := hD.1 k i q (q.1, e) hq (Option.some.inj h1) rfl
        subst hij
        exact hn (List.mem_of_getElem? hi)
    · omega
  refine ⟨fun k q hq => ?_, fun i j x y hx hy hxy => ?_, fun k q hq => ?_⟩
  · rcases kw_put_get isC w1 ws hlen k q hq with ⟨h1, h2⟩ | ⟨j, h1, -⟩
    · obtain ⟨g1, g2⟩ := apart k q h1 h2
      exact (hP k q h2).kept (hk q.1 g1 g2)
    · exact hP1 j q h1
  · rcases kw_put_get isC w1 ws hlen i x hx with ⟨h1, h2⟩ | ⟨a, h1, h2⟩ <;> rcases kw_put_get isC w1 ws hlen j y hy with ⟨h3, h4⟩ | ⟨b, h3, h4⟩
    · exact hD.1 i j x y h2 h4 hxy
    · exact absurd (by rw [hxy]; exact hD1.2 b y h3) (apart i x h1 h2).2
    · exact absurd (by rw [← hxy]; exact hD1.2 a x h1) (apart j y h3 h4).2
    · have hab := hD1.1 a b x y h1 h3 hxy
      subst hab
      rcases h2 with h2 | ⟨h2, h5⟩ <;> rcases h4 with h4 | ⟨h4, h6⟩
      · exact Option.some.inj (h2.symm.trans h4)
      · rw [List.getElem?_eq_none h4] at h2; cases h2
      · rw [List.getElem?_eq_none h2] at h4; cases h4
      · omega
  · rcases kw_put_get isC w1 ws hlen k q hq with ⟨-, h2⟩ | ⟨j, h1, -⟩
    · exact hD.2 k q h2
    · exact hF _ (hD1.2 j q h1)
section KWA
variable {p : Program} {l : Launch} {e : Env} {R : Room} {s : State} {m : MethodId} {args : Array Value} {below : List Frame} {meth : Method} {c : Code} {cells slots : Nat} {Q : State → Prop}
variable {cc : ByteArray} {nL : Nat} {own : String} {Ts : List Cond} {D : va_G} {cl : List vw_C} {tys : List (ClassId × FieldType)} {A : Nat → Prop}
variable {ws : va_W} {pc : Nat} {lv : List (Option Value)} {rest : List Value}
theorem kw_iconst (X : kw_X p s m args c cc nL own Ts D cl tys A) {n : Int} {v : Int32} (d : decode cc pc = .ok (.iconst n, 1)) (hv : Int32.ofInt n = v) (k : kw_W p l e R s m args below meth c nL D cl A cells slots Q ws (pc + 1) (lv) (.int v :: rest)) : kw_W p l e R s m args below meth c nL D cl A cells slots Q ws (pc) (lv) (rest) := fun H locs ls hP hD hS hl => lv_iconst X.1.1 X.1.2.1 d hv (k H locs ls hP hD hS hl)
theorem kw_bipush (X : kw_X p s m args c cc nL own Ts D cl tys A) {n : Int} {v : Int32} (d : decode cc pc = .ok (.bipush n, 2)) (hv : (Int8.ofInt n).toInt32 = v) (k : kw_W p l e R s m args below meth c nL D cl A cells slots Q ws (pc + 2) (lv) (.int v :: rest)) : kw_W p l e R s m args below meth c nL D cl A cells slots Q ws (pc) (lv) (rest) := fun H locs ls hP hD hS hl => lv_bipush X.1.1 X.1.2.1 d hv (k H locs ls hP hD hS hl)
theorem kw_sipush (X : kw_X p s m args c cc nL own Ts D cl tys A) {n : Int} {v : Int32} (d : decode cc pc = .ok (.sipush n, 3)) (hv : (Int16.ofInt n).toInt32 = v) (k : kw_W p l e R s m args below meth c nL D cl A cells slots Q ws (pc + 3) (lv) (.int v :: rest)) : kw_W p l e R s m args below meth c nL D cl A cells slots Q ws (pc) (lv) (rest) := fun H locs ls hP hD hS hl => lv_sipush X.1.1 X.1.2.1 d hv (k H locs ls hP hD hS hl)
theorem kw_iload_n (X : kw_X p s m args c cc nL own Ts D cl tys A) {k0 : Fin 4} {i : Nat} {x : Int32} (d : decode cc pc = .ok (.iload_n k0, 1)) (hi : (k0 : Nat) = i) (h : lv[i]? = some (some (.int x))) (k : kw_W p l e R s m args below meth c nL D cl A cells slots Q ws (pc + 1) (lv) (.int x :: rest)) : kw_W p l e R s m args below meth c nL D cl A cells slots Q ws (pc) (lv) (rest) := fun H locs ls hP hD hS hl => lv_iload_n X.1.1 X.1.2.1 d hi (hl.at h) (k H locs ls hP hD hS hl)
theorem kw_iload (X : kw_X p s m args c cc nL own Ts D cl tys A) {i : Nat} {x : Int32} (d : decode cc pc = .ok (.iload i, 2)) (h : lv[i]? = some (some (.int x))) (k : kw_W p l e R s m args below meth c nL D cl A cells slots Q ws (pc + 2) (lv) (.int x :: rest)) : kw_W p l e R s m args below meth c nL D cl A cells slots Q ws (pc) (lv) (rest) := fun H locs ls hP hD hS hl => lv_iload X.1.1 X.1.2.1 d (hl.at h) (k H locs ls hP hD hS hl)
theorem kw_aload_n (X : kw_X p s m args c cc nL own Ts D cl tys A) {k0 : Fin 4} {i : Nat} {x : Nat} (d : decode cc pc = .ok (.aload_n k0, 1)) (hi : (k0 : Nat) = i) (h : lv[i]? = some (some (.ref x))) (k : kw_W p l e R s m args below meth c nL D cl A cells slots Q ws (pc + 1) (lv) (.ref x :: rest)) : kw_W p l e R s m args below meth c nL D cl A cells slots Q ws (pc) (lv) (rest) := fun H locs ls hP hD hS hl => lv_aload_n X.1.1 X.1.2.1 d hi (hl.at h) (k H locs ls hP hD hS hl)
theorem kw_aload (X : kw_X p s m args c cc nL own Ts D cl tys A) {i : Nat} {x : Nat} (d : decode cc pc = .ok (.aload i, 2)) (h : lv[i]? = some (some (.ref x))) (k : kw_W p l e R s m args below meth c nL D cl A cells slots Q ws (pc + 2) (lv) (.ref x :: rest)) : kw_W p l e R s m args below meth c nL D cl A cells slots Q ws (pc) (lv) (rest) := fun H locs ls hP hD hS hl => lv_aload X.1.1 X.1.2.1 d (hl.at h) (k H locs ls hP hD hS hl)
theorem kw_istore_n (X : kw_X p s m args c cc nL own Ts D cl tys A) {k0 : Fin 4} {i : Nat} {x : Int32} (d : decode cc pc = .ok (.istore_n k0, 1)) (hi : (k0 : Nat) = i) (hn : i < nL) (k : kw_W p l e R s m args below meth c nL D cl A cells slots Q ws (pc + 1) (lv.set i (some (.int x))) (rest)) : kw_W p l e R s m args below meth c nL D cl A cells slots Q ws (pc) (lv) (.int x :: rest) := fun H locs ls hP hD hS hl => lv_istore_n X.1.1 X.1.2.1 d hi (kw_store hl i (v := .int x) rfl).1 hn rfl (fun ls9 h9 => k H locs ls9 hP hD hS ((kw_store hl i (v := .int x) rfl).2 ls9 h9))
theorem kw_istore (X : kw_X p s m args c cc nL own Ts D cl tys A) {i : Nat} {x : Int32} (d : decode cc pc = .ok (.istore i, 2)) (hn : i < nL) (k : kw_W p l e R s m args below meth c nL D cl A cells slots Q ws (pc + 2) (lv.set i (some (.int x))) (rest)) : kw_W p l e R s m args below meth c nL D cl A cells slots Q ws (pc) (lv) (.int x :: rest) := fun H locs ls hP hD hS hl => lv_istore X.1.1 X.1.2.1 d (kw_store hl i (v := .int x) rfl).1 hn rfl (fun ls9 h9 => k H locs ls9 hP hD hS ((kw_store hl i (v := .int x) rfl).2 ls9 h9))
theorem kw_astore_n (X : kw_X p s m args c cc nL own Ts D cl tys A) {k0 : Fin 4} {i : Nat} {x : Nat} (d : decode cc pc = .ok (.astore_n k0, 1)) (hi : (k0 : Nat) = i) (hn : i < nL) (k : kw_W p l e R s m args below meth c nL D cl A cells slots Q ws (pc + 1) (lv.set i (some (.ref x))) (rest)) : kw_W p l e R s m args below meth c nL D cl A cells slots Q ws (pc) (lv) (.ref x :: rest) := fun H locs ls hP hD hS hl => lv_astore_n X.1.1 X.1.2.1 d hi (kw_store hl i (v := .ref x) rfl).1 hn rfl (fun ls9 h9 => k H locs ls9 hP hD hS ((kw_store hl i (v := .ref x) rfl).2 ls9 h9))
theorem kw_astore (X : kw_X p s m args c cc nL own Ts D cl tys A) {i : Nat} {x : Nat} (d : decode cc pc = .ok (.astore i, 2)) (hn : i < nL) (k : kw_W p l e R s m args below meth c nL D cl A cells slots Q ws (pc + 2) (lv.set i (some (.ref x))) (rest)) : kw_W p l e R s m args below meth c nL D cl A cells slots Q ws (pc) (lv) (.ref x :: rest) := fun H locs ls hP hD hS hl => lv_astore X.1.1 X.1.2.1 d (kw_store hl i (v := .ref x) rfl).1 hn rfl (fun ls9 h9 => k H locs ls9 hP hD hS ((kw_store hl i (v := .ref x) rfl).2 ls9 h9))
theorem kw_iinc (X : kw_X p s m args c cc nL own Ts D cl tys A) {i : Nat} {n : Int} {x v : Int32} (d : decode cc pc = .ok (.iinc i n, 3)) (h : lv[i]? = some (some (.int x))) (hv : x + Int32.ofInt n = v) (hn : i < nL) (k : kw_W p l e R s m args below meth c nL D cl A cells slots Q ws (pc + 3) (lv.set i (some (.int v))) (rest)) : kw_W p l e R s m args below meth c nL D cl A cells slots Q ws (pc) (lv) (rest) := fun H locs ls hP hD hS hl => by
  have hs := kw_store hl i (v := .int v) rfl
  have hm : (i, Value.int x) ∈ kw_pairs nL lv := kw_pairs_mem.mpr ⟨hn, h⟩
  obtain ⟨j, hj⟩ := List.getElem?_of_mem hm
  exact lv_iinc X.1.1 X.1.2.1 d hs.1 hj hv hn rfl (fun ls9 h9 => k H locs ls9 hP hD hS (hs.2 ls9 h9))
theorem kw_iadd (X : kw_X p s m args c cc nL own Ts D cl tys A) {x y v : Int32} (d : decode cc pc = .ok (.iadd, 1)) (hv : x + y = v) (k : kw_W p l e R s m args below meth c nL D cl A cells slots Q ws (pc + 1) (lv) (.int v :: rest)) : kw_W p l e R s m args below meth c nL D cl A cells slots Q ws (pc) (lv) (.int y :: .int x :: rest) := fun H locs ls hP hD hS hl => lv_iadd X.1.1 X.1.2.1 d (by rw [hv]; exact (k H locs ls hP hD hS hl))
theorem kw_isub (X : kw_X p s m args c cc nL own Ts D cl tys A) {x y v : Int32} (d : decode cc pc = .ok (.isub, 1)) (hv : x - y = v) (k : kw_W p l e R s m args below meth c nL D cl A cells slots Q ws (pc + 1) (lv) (.int v :: rest)) : kw_W p l e R s m args below meth c nL D cl A cells slots Q ws (pc) (lv) (.int y :: .int x :: rest) := fun H locs ls hP hD hS hl => lv_isub X.1.1 X.1.2.1 d (by rw [hv]; exact (k H locs ls hP hD hS hl))
theorem kw_imul (X : kw_X p s m args c cc nL own Ts D cl tys A) {x y v : Int32} (d : decode cc pc = .ok (.imul, 1)) (hv : x * y = v) (k : kw_W p l e R s m args below meth c nL D cl A cells slots Q ws (pc + 1) (lv) (.int v :: rest)) : kw_W p l e R s m args below meth c nL D cl A cells slots Q ws (pc) (lv) (.int y :: .int x :: rest) := fun H locs ls hP hD hS hl => lv_imul X.1.1 X.1.2.1 d (by rw [hv]; exact (k H locs ls hP hD hS hl))
theorem kw_iand (X : kw_X p s m args c cc nL own Ts D cl tys A) {x y v : Int32} (d : decode cc pc = .ok (.iand, 1)) (hv : x &&& y = v) (k : kw_W p l e R s m args below meth c nL D cl A cells slots Q ws (pc + 1) (lv) (.int v :: rest)) : kw_W p l e R s m args below meth c nL D cl A cells slots Q ws (pc) (lv) (.int y :: .int x :: rest) := fun H locs ls hP hD hS hl => lv_iand X.1.1 X.1.2.1 d (by rw [hv]; exact (k H locs ls hP hD hS hl))
theorem kw_ior (X : kw_X p s m args c cc nL own Ts D cl tys A) {x y v : Int32} (d : decode cc pc = .ok (.ior, 1)) (hv : x ||| y = v) (k : kw_W p l e R s m args below meth c nL D cl A cells slots Q ws (pc + 1) (lv) (.int v :: rest)) : kw_W p l e R s m args below meth c nL D cl A cells slots Q ws (pc) (lv) (.int y :: .int x :: rest) := fun H locs ls hP hD hS hl => lv_ior X.1.1 X.1.2.1 d (by rw [hv]; exact (k H locs ls hP hD hS hl))
theorem kw_ixor (X : kw_X p s m args c cc nL own Ts D cl tys A) {x y v : Int32} (d : decode cc pc = .ok (.ixor, 1)) (hv : x ^^^ y = v) (k : kw_W p l e R s m args below meth c nL D cl A cells slots Q ws (pc + 1) (lv) (.int v :: rest)) : kw_W p l e R s m args below meth c nL D cl A cells slots Q ws (pc) (lv) (.int y :: .int x :: rest) := fun H locs ls hP hD hS hl => lv_ixor X.1.1 X.1.2.1 d (by rw [hv]; exact (k H locs ls hP hD hS hl))
theorem kw_ishl (X : kw_X p s m args c cc nL own Ts D cl tys A) {x y v : Int32} (d : decode cc pc = .ok (.ishl, 1)) (hv : x <<< (y &&& 31) = v) (k : kw_W p l e R s m args below meth c nL D cl A cells slots Q ws (pc + 1) (lv) (.int v :: rest)) : kw_W p l e R s m args below meth c nL D cl A cells slots Q ws (pc) (lv) (.int y :: .int x :: rest) := fun H locs ls hP hD hS hl => lv_ishl X.1.1 X.1.2.1 d (by rw [hv]; exact (k H locs ls hP hD hS hl))
theorem kw_ishr (X : kw_X p s m args c cc nL own Ts D cl tys A) {x y v : Int32} (d : decode cc pc = .ok (.ishr, 1)) (hv : x >>> (y &&& 31) = v) (k : kw_W p l e R s m args below meth c nL D cl A cells slots Q ws (pc + 1) (lv) (.int v :: rest)) : kw_W p l e R s m args below meth c nL D cl A cells slots Q ws (pc) (lv) (.int y :: .int x :: rest) := fun H locs ls hP hD hS hl => lv_ishr X.1.1 X.1.2.1 d (by rw [hv]; exact (k H locs ls hP hD hS hl))
theorem kw_iushr (X : kw_X p s m args c cc nL own Ts D cl tys A) {x y v : Int32} (d : decode cc pc = .ok (.iushr, 1)) (hv : (x.toUInt32 >>> (y.toUInt32 &&& Int32.toUInt32 31)).toInt32 = v) (k : kw_W p l e R s m args below meth c nL D cl A cells slots Q ws (pc + 1) (lv) (.int v :: rest)) : kw_W p l e R s m args below meth c nL D cl A cells slots Q ws (pc) (lv) (.int y :: .int x :: rest) := fun H locs ls hP hD hS hl => lv_iushr X.1.1 X.1.2.1 d hv (k H locs ls hP hD hS hl)
theorem kw_idiv (X : kw_X p s m args c cc nL own Ts D cl tys A) {x y v : Int32} (d : decode cc pc = .ok (.idiv, 1)) (hne : ¬ y = 0) (hv : x / y = v) (k : kw_W p l e R s m args below meth c nL D cl A cells slots Q ws (pc + 1) (lv) (.int v :: rest)) : kw_W p l e R s m args below meth c nL D cl A cells slots Q ws (pc) (lv) (.int y :: .int x :: rest) := fun H locs ls hP hD hS hl => lv_idiv X.1.1 X.1.2.1 d hne (by rw [hv]; exact (k H locs ls hP hD hS hl))
theorem kw_irem (X : kw_X p s m args c cc nL own Ts D cl tys A) {x y v : Int32} (d : decode cc pc = .ok (.irem, 1)) (hne : ¬ y = 0) (hv : x - x / y * y = v) (k : kw_W p l e R s m args below meth c nL D cl A cells slots Q ws (pc + 1) (lv) (.int v :: rest)) : kw_W p l e R s m args below meth c nL D cl A cells slots Q ws (pc) (lv) (.int y :: .int x :: rest) := fun H locs ls hP hD hS hl => lv_irem X.1.1 X.1.2.1 d hne (by rw [hv]; exact (k H locs ls hP hD hS hl))
theorem kw_ineg (X : kw_X p s m args c cc nL own Ts D cl tys A) {x v : Int32} (d : decode cc pc = .ok (.ineg, 1)) (hv : -x = v) (k : kw_W p l e R s m args below meth c nL D cl A cells slots Q ws (pc + 1) (lv) (.int v :: rest)) : kw_W p l e R s m args below meth c nL D cl A cells slots Q ws (pc) (lv) (.int x :: rest) := fun H locs ls hP hD hS hl => lv_ineg X.1.1 X.1.2.1 d (by rw [hv]; exact (k H locs ls hP hD hS hl))
theorem kw_i2b (X : kw_X p s m args c cc nL own Ts D cl tys A) {x v : Int32} (d : decode cc pc = .ok (.i2b, 1)) (hv : x.toInt8.toInt32 = v) (k : kw_W p l e R s m args below meth c nL D cl A cells slots Q ws (pc + 1) (lv) (.int v :: rest)) : kw_W p l e R s m args below meth c nL D cl A cells slots Q ws (pc) (lv) (.int x :: rest) := fun H locs ls hP hD hS hl => lv_i2b X.1.1 X.1.2.1 d hv (k H locs ls hP hD hS hl)
theorem kw_i2c (X : kw_X p s m args c cc nL own Ts D cl tys A) {x v : Int32} (d : decode cc pc = .ok (.i2c, 1)) (hv : (x.toUInt32 % 65536).toInt32 = v) (k : kw_W p l e R s m args below meth c nL D cl A cells slots Q ws (pc + 1) (lv) (.int v :: rest)) : kw_W p l e R s m args below meth c nL D cl A cells slots Q ws (pc) (lv) (.int x :: rest) := fun H locs ls hP hD hS hl => lv_i2c X.1.1 X.1.2.1 d hv (k H locs ls hP hD hS hl)
theorem kw_i2l (X : kw_X p s m args c cc nL own Ts D cl tys A) {x : Int32} {v : Int64} (d : decode cc pc = .ok (.i2l, 1)) (hv : x.toInt64 = v) (k : kw_W p l e R s m args below meth c nL D cl A cells slots Q ws (pc + 1) (lv) (.long v :: rest)) : kw_W p l e R s m args below meth c nL D cl A cells slots Q ws (pc) (lv) (.int x :: rest) := fun H locs ls hP hD hS hl => lv_i2l X.1.1 X.1.2.1 d hv (k H locs ls hP hD hS hl)
theorem kw_lcmp (X : kw_X p s m args c cc nL own Ts D cl tys A) {x y : Int64} {v : Int32} (d : decode cc pc = .ok (.lcmp, 1)) (hv : lg_cmp x y = v) (k : kw_W p l e R s m args below meth c nL D cl A cells slots Q ws (pc + 1) (lv) (.int v :: rest)) : kw_W p l e R s m args below meth c nL D cl A cells slots Q ws (pc) (lv) (.long y :: .long x :: rest) := fun H locs ls hP hD hS hl => W.lcmp X.1.1 X.1.2.1 d (by rw [hv]; exact (k H locs ls hP hD hS hl))
theorem kw_dup (X : kw_X p s m args c cc nL own Ts D cl tys A) {va : Value} (d : decode cc pc = .ok (.dup, 1)) (h : va.category = 1) (k : kw_W p l e R s m args below meth c nL D cl A cells slots Q ws (pc + 1) (lv) (va :: va :: rest)) : kw_W p l e R s m args below meth c nL D cl A cells slots Q ws (pc) (lv) (va :: rest) := fun H locs ls hP hD hS hl => lv_dup X.1.1 X.1.2.1 d h (k H locs ls hP hD hS hl)
theorem kw_pop (X : kw_X p s m args c cc nL own Ts D cl tys A) {va : Value} (d : decode cc pc = .ok (.pop, 1)) (h : va.category = 1) (k : kw_W p l e R s m args below meth c nL D cl A cells slots Q ws (pc + 1) (lv) (rest)) : kw_W p l e R s m args below meth c nL D cl A cells slots Q ws (pc) (lv) (va :: rest) := fun H locs ls hP hD hS hl => lv_pop X.1.1 X.1.2.1 d h (k H locs ls hP hD hS hl)
theorem kw_dup2 (X : kw_X p s m args c cc nL own Ts D cl tys A) {va vb : Value} (d : decode cc pc = .ok (.dup2, 1)) (h1 : va.category = 1) (h2 : vb.category = 1) (k : kw_W p l e R s m args below meth c nL D cl A cells slots Q ws (pc + 1) (lv) (va :: vb :: va :: vb :: rest)) : kw_W p l e R s m args below meth c nL D cl A cells slots Q ws (pc) (lv) (va :: vb :: rest) := fun H locs ls hP hD hS hl => lv_dup2_11 X.1.1 X.1.2.1 d h1 h2 (k H locs ls hP hD hS hl)
theorem kw_if_eq (X : kw_X p s m args c cc nL own Ts D cl tys A) {x : Int32} {off : Int} {tgt : Nat} (d : decode cc pc = .ok (.ifCond .eq off, 3)) (ht : (pc : Int) + off = (tgt : Int)) (kt : x = 0 → kw_W p l e R s m args below meth c nL D cl A cells slots Q ws (tgt) (lv) (rest)) (kf : ¬ x = 0 → kw_W p l e R s m args below meth c nL D cl A cells slots Q ws (pc + 3) (lv) (rest)) : kw_W p l e R s m args below meth c nL D cl A cells slots Q ws (pc) (lv) (.int x :: rest) := fun H locs ls hP hD hS hl => lv_if_eq X.1.1 X.1.2.1 d ht (fun z => kt z H locs ls hP hD hS hl) (fun z => kf z H locs ls hP hD hS hl)
theorem kw_if_ne (X : kw_X p s m args c cc nL own Ts D cl tys A) {x : Int32} {off : Int} {tgt : Nat} (d : decode cc pc = .ok (.ifCond .ne off, 3)) (ht : (pc : Int) + off = (tgt : Int)) (kt : ¬ x = 0 → kw_W p l e R s m args below meth c nL D cl A cells slots Q ws (tgt) (lv) (rest)) (kf : x = 0 → kw_W p l e R s m args below meth c nL D cl A cells slots Q ws (pc + 3) (lv) (rest)) : kw_W p l e R s m args below meth c nL D cl A cells slots Q ws (pc) (lv) (.int x :: rest) := fun H locs ls hP hD hS hl => lv_if_ne X.1.1 X.1.2.1 d ht (fun z => kt z H locs ls hP hD hS hl) (fun z => kf z H locs ls hP hD hS hl)
theorem kw_if_lt (X : kw_X p s m args c cc nL own Ts D cl tys A) {x : Int32} {off : Int} {tgt : Nat} (d : decode cc pc = .ok (.ifCond .lt off, 3)) (ht : (pc : Int) + off = (tgt : Int)) (kt : x < 0 → kw_W p l e R s m args below meth c nL D cl A cells slots Q ws (tgt) (lv) (rest)) (kf : ¬ x < 0 → kw_W p l e R s m args below meth c nL D cl A cells slots Q ws (pc + 3) (lv) (rest)) : kw_W p l e R s m args below meth c nL D cl A cells slots Q ws (pc) (lv) (.int x :: rest) := fun H locs ls hP hD hS hl => lv_if_lt X.1.1 X.1.2.1 d ht (fun z => kt z H locs ls hP hD hS hl) (fun z => kf z H locs ls hP hD hS hl)
theorem kw_if_ge (X : kw_X p s m args c cc nL own Ts D cl tys A) {x : Int32} {off : Int} {tgt : Nat} (d : decode cc pc = .ok (.ifCond .ge off, 3)) (ht : (pc : Int) + off = (tgt : Int)) (kt : 0 ≤ x → kw_W p l e R s m args below meth c nL D cl A cells slots Q ws (tgt) (lv) (rest)) (kf : ¬ 0 ≤ x → kw_W p l e R s m args below meth c nL D cl A cells slots Q ws (pc + 3) (lv) (rest)) : kw_W p l e R s m args below meth c nL D cl A cells slots Q ws (pc) (lv) (.int x :: rest) := fun H locs ls hP hD hS hl => lv_if_ge X.1.1 X.1.2.1 d ht (fun z => kt z H locs ls hP hD hS hl) (fun z => kf z H locs ls hP hD hS hl)
theorem kw_if_gt (X : kw_X p s m args c cc nL own Ts D cl tys A) {x : Int32} {off : Int} {tgt : Nat} (d : decode cc pc = .ok (.ifCond .gt off, 3)) (ht : (pc : Int) + off = (tgt : Int)) (kt : 0 < x → kw_W p l e R s m args below meth c nL D cl A cells slots Q ws (tgt) (lv) (rest)) (kf : ¬ 0 < x → kw_W p l e R s m args below meth c nL D cl A cells slots Q ws (pc + 3) (lv) (rest)) : kw_W p l e R s m args below meth c nL D cl A cells slots Q ws (pc) (lv) (.int x :: rest) := fun H locs ls hP hD hS hl => lv_if_gt X.1.1 X.1.2.1 d ht (fun z => kt z H locs ls hP hD hS hl) (fun z => kf z H locs ls hP hD hS hl)
theorem kw_if_le (X : kw_X p s m args c cc nL own Ts D cl tys A) {x : Int32} {off : Int} {tgt : Nat} (d : decode cc pc = .ok (.ifCond .le off, 3)) (ht : (pc : Int) + off = (tgt : Int)) (kt : x ≤ 0 → kw_W p l e R s m args below meth c nL D cl A cells slots Q ws (tgt) (lv) (rest)) (kf : ¬ x ≤ 0 → kw_W p l e R s m args below meth c nL D cl A cells slots Q ws (pc + 3) (lv) (rest)) : kw_W p l e R s m args below meth c nL D cl A cells slots Q ws (pc) (lv) (.int x :: rest) := fun H locs ls hP hD hS hl => lv_if_le X.1.1 X.1.2.1 d ht (fun z => kt z H locs ls hP hD hS hl) (fun z => kf z H locs ls hP hD hS hl)
theorem kw_icmp_eq (X : kw_X p s m args c cc nL own Ts D cl tys A) {x y : Int32} {off : Int} {tgt : Nat} (d : decode cc pc = .ok (.if_icmp .eq off, 3)) (ht : (pc : Int) + off = (tgt : Int)) (kt : x = y → kw_W p l e R s m args below meth c nL D cl A cells slots Q ws (tgt) (lv) (rest)) (kf : ¬ x = y → kw_W p l e R s m args below meth c nL D cl A cells slots Q ws (pc + 3) (lv) (rest)) : kw_W p l e R s m args below meth c nL D cl A cells slots Q ws (pc) (lv) (.int y :: .int x :: rest) := fun H locs ls hP hD hS hl => lv_icmp_eq X.1.1 X.1.2.1 d ht (fun z => kt z H locs ls hP hD hS hl) (fun z => kf z H locs ls hP hD hS hl)
theorem kw_icmp_ne (X : kw_X p s m args c cc nL own Ts D cl tys A) {x y : Int32} {off : Int} {tgt : Nat} (d : decode cc pc = .ok (.if_icmp .ne off, 3)) (ht : (pc : Int) + off = (tgt : Int)) (kt : ¬ x = y → kw_W p l e R s m args below meth c nL D cl A cells slots Q ws (tgt) (lv) (rest)) (kf : x = y → kw_W p l e R s m args below meth c nL D cl A cells slots Q ws (pc + 3) (lv) (rest)) : kw_W p l e R s m args below meth c nL D cl A cells slots Q ws (pc) (lv) (.int y :: .int x :: rest) := fun H locs ls hP hD hS hl => lv_icmp_ne X.1.1 X.1.2.1 d ht (fun z => kt z H locs ls hP hD hS hl) (fun z => kf z H locs ls hP hD hS hl)
theorem kw_icmp_lt (X : kw_X p s m args c cc nL own Ts D cl tys A) {x y : Int32} {off : Int} {tgt : Nat} (d : decode cc pc = .ok (.if_icmp .lt off, 3)) (ht : (pc : Int) + off = (tgt : Int)) (kt : x < y → kw_W p l e R s m args below meth c nL D cl A cells slots Q ws (tgt) (lv) (rest)) (kf : ¬ x < y → kw_W p l e R s m args below meth c nL D cl A cells slots Q ws (pc + 3) (lv) (rest)) : kw_W p l e R s m args below meth c nL D cl A cells slots Q ws (pc) (lv) (.int y :: .int x :: rest) := fun H locs ls hP hD hS hl => lv_icmp_lt X.1.1 X.1.2.1 d ht (fun z => kt z H locs ls hP hD hS hl) (fun z => kf z H locs ls hP hD hS hl)
theorem kw_icmp_ge (X : kw_X p s m args c cc nL own Ts D cl tys A) {x y : Int32} {off : Int} {tgt : Nat} (d : decode cc pc = .ok (.if_icmp .ge off, 3)) (ht : (pc : Int) + off = (tgt : Int)) (kt : y ≤ x → kw_W p l e R s m args below meth c nL D cl A cells slots Q ws (tgt) (lv) (rest)) (kf : ¬ y ≤ x → kw_W p l e R s m args below meth c nL D cl A cells slots Q ws (pc + 3) (lv) (rest)) : kw_W p l e R s m args below meth c nL D cl A cells slots Q ws (pc) (lv) (.int y :: .int x :: rest) := fun H locs ls hP hD hS hl => lv_icmp_ge X.1.1 X.1.2.1 d ht (fun z => kt z H locs ls hP hD hS hl) (fun z => kf z H locs ls hP hD hS hl)
theorem kw_icmp_gt (X : kw_X p s m args c cc nL own Ts D cl tys A) {x y : Int32} {off : Int} {tgt : Nat} (d : decode cc pc = .ok (.if_icmp .gt off, 3)) (ht : (pc : Int) + off = (tgt : Int)) (kt : y < x → kw_W p l e R s m args below meth c nL D cl A cells slots Q ws (tgt) (lv) (rest)) (kf : ¬ y < x → kw_W p l e R s m args below meth c nL D cl A cells slots Q ws (pc + 3) (lv) (rest)) : kw_W p l e R s m args below meth c nL D cl A cells slots Q ws (pc) (lv) (.int y :: .int x :: rest) := fun H locs ls hP hD hS hl => lv_icmp_gt X.1.1 X.1.2.1 d ht (fun z => kt z H locs ls hP hD hS hl) (fun z => kf z H locs ls hP hD hS hl)
theorem kw_icmp_le (X : kw_X p s m args c cc nL own Ts D cl tys A) {x y : Int32} {off : Int} {tgt : Nat} (d : decode cc pc = .ok (.if_icmp .le off, 3)) (ht : (pc : Int) + off = (tgt : Int)) (kt : x ≤ y → kw_W p l e R s m args below meth c nL D cl A cells slots Q ws (tgt) (lv) (rest)) (kf : ¬ x ≤ y → kw_W p l e R s m args below meth c nL D cl A cells slots Q ws (pc + 3) (lv) (rest)) : kw_W p l e R s m args below meth c nL D cl A cells slots Q ws (pc) (lv) (.int y :: .int x :: rest) := fun H locs ls hP hD hS hl => lv_icmp_le X.1.1 X.1.2.1 d ht (fun z => kt z H locs ls hP hD hS hl) (fun z => kf z H locs ls hP hD hS hl)
theorem kw_goto (X : kw_X p s m args c cc nL own Ts D cl tys A) {off : Int} {tgt : Nat} (d : decode cc pc = .ok (.goto off, 3)) (ht : (pc : Int) + off = (tgt : Int)) (k : kw_W p l e R s m args below meth c nL D cl A cells slots Q ws (tgt) (lv) (rest)) : kw_W p l e R s m args below meth c nL D cl A cells slots Q ws (pc) (lv) (rest) := fun H locs ls hP hD hS hl => lv_goto X.1.1 X.1.2.1 d ht (k H locs ls hP hD hS hl)
theorem kw_tableOut (X : kw_X p s m args c cc nL own Ts D cl tys A) {dflt lo hi : Int} {offs : Array Int} {len : Nat} {x : Int32} {tgt : Nat} (d : decode cc pc = .ok (.tableswitch dflt lo hi offs, len)) (h : x.toInt < lo ∨ hi < x.toInt) (ht : (pc : Int) + dflt = (tgt : Int)) (k : kw_W p l e R s m args below meth c nL D cl A cells slots Q ws (tgt) (lv) (rest)) : kw_W p l e R s m args below meth c nL D cl A cells slots Q ws (pc) (lv) (.int x :: rest) := fun H locs ls hP hD hS hl => lv_tableOut X.1.1 X.1.2.1 d h ht (k H locs ls hP hD hS hl)
theorem kw_tableIn (X : kw_X p s m args c cc nL own Ts D cl tys A) {dflt lo hi : Int} {offs : Array Int} {len : Nat} {x : Int32} {off : Int} {tgt : Nat} (d : decode cc pc = .ok (.tableswitch dflt lo hi offs, len)) (h1 : ¬ x.toInt < lo) (h2 : ¬ hi < x.toInt) (ho : offs[(x.toInt - lo).toNat]? = some off) (ht : (pc : Int) + off = (tgt : Int)) (k : kw_W p l e R s m args below meth c nL D cl A cells slots Q ws (tgt) (lv) (rest)) : kw_W p l e R s m args below meth c nL D cl A cells slots Q ws (pc) (lv) (.int x :: rest) := fun H locs ls hP hD hS hl => lv_tableIn X.1.1 X.1.2.1 d h1 h2 ho ht (k H locs ls hP hD hS hl)
theorem kw_top {x y : Int32} (h : x = y) (k : kw_W p l e R s m args below meth c nL D cl A cells slots Q ws (pc) (lv) (.int y :: rest)) : kw_W p l e R s m args below meth c nL D cl A cells slots Q ws (pc) (lv) (.int x :: rest) := by rw [h]; exact k
theorem kw_cv {ws' : va_W} {lv' : List (Option Value)} {st st' : List Value} (hw : ws = ws') (hl : lv = lv') (hs : st = st') (k : kw_W p l e R s m args below meth c nL D cl A cells slots Q ws' (pc) (lv') (st')) : kw_W p l e R s m args below meth c nL D cl A cells slots Q ws (pc) (lv) (st) := by subst hw; subst hl; subst hs; exact k
theorem kw_kill (i : Nat) {st : List Value} (k : kw_W p l e R s m args below meth c nL D cl A cells slots Q ws (pc) (lv.set i none) (st)) : kw_W p l e R s m args below meth c nL D cl A cells slots Q ws (pc) (lv) (st) := fun H locs ls hP hD hS hl => k H locs ls hP hD hS (hl.kill i)
theorem kw_widen {k9 n9 : Nat} {st : List Value} (h1 : cells ≤ k9) (h2 : slots ≤ n9) (k : kw_W p l e R s m args below meth c nL D cl A k9 n9 Q ws (pc) (lv) (st)) : kw_W p l e R s m args below meth c nL D cl A cells slots Q ws (pc) (lv) (st) := fun H locs ls hP hD hS hl => W.widen h1 h2 (k H locs ls hP hD hS hl)
theorem kw_loop {α : Type} (I : α → Prop) (μ : α → Nat) (wf : α → va_W) (lf : α → List (Option Value)) (sf : α → List Value) (a0 : α) (h0 : I a0)
    (step : ∀ a, I a → (∀ b, I b → μ b < μ a → kw_W p l e R s m args below meth c nL D cl A cells slots Q (wf b) (pc) (lf b) (sf b)) → kw_W p l e R s m args below meth c nL D cl A cells slots Q (wf a) (pc) (lf a) (sf a)) : kw_W p l e R s m args below meth c nL D cl A cells slots Q (wf a0) (pc) (lf a0) (sf a0) := by
  have key : ∀ (n : Nat) (a : α), I a → μ a < n → kw_W p l e R s m args below meth c nL D cl A cells slots Q (wf a) (pc) (lf a) (sf a) := by
    intro n
    induction n with
    | zero => intro a _ h; exact absurd h (Nat.not_lt_zero _)
    | succ n ih => intro a ha h; exact step a ha (fun b hb hm => ih b hb (by omega))
  exact key (μ a0 + 1) a0 h0 (Nat.lt_succ_self _)
theorem kw_get (X : kw_X p s m args c cc nL own Ts D cl tys A) {ref C : String} {T : u_T} {N ci index a : Nat} {fs : List Value} {v : Value} (hin : ∀ w ∈ u_ws C T N, w ∈ Ts) (q0 : Nat) (he : ws[q0]? = some (a, .inr (ci, fs))) (hc : cl[ci]? = some (C, T, N)) (k : Nat) (hk : k < N) (hlink : Cond.fieldLink own index ref (T k).2.1 (T k).2.2.1 ∈ Ts) (hsame : ∀ x, s.fieldFound? (T k).1 (T k).2.1 (T k).2.2.1 = some x → s.fieldFound? ref (T k).2.1 (T k).2.2.1 = some x) (hv : fs[k]? = some v) (d : decode cc pc = .ok (.getfield index, 3)) (kk : kw_W p l e R s m args below meth c nL D cl A cells slots Q ws (pc + 3) (lv) (v :: rest)) : kw_W p l e R s m args below meth c nL D cl A cells slots Q ws (pc) (lv) (.ref a :: rest) := fun H locs ls hP hD hS hl => va_get X.1.1 X.1.2.1 X.1.2.2.2.2 hin X.1.2.2.2.1 X.2.1 hP q0 he hc k hk (X.1.2.2.2.2 _ hlink) hsame hv d (kk H locs ls hP hD hS hl)
theorem kw_getN (X : kw_X p s m args c cc nL own Ts D cl tys A) {ref C host : String} {T : u_T} {N ci index a : Nat} {fs : List Value} {v : Value} (hin : ∀ w ∈ u_ws C T N, w ∈ Ts) (q0 : Nat) (he : ws[q0]? = some (a, .inr (ci, fs))) (hc : cl[ci]? = some (C, T, N)) (k : Nat) (hk : k < N) (hlink : va_Nw (.fieldLinkNest own index ref (T k).2.1 (T k).2.2.1 host) s) (hsame : ∀ x, s.fieldFound? (T k).1 (T k).2.1 (T k).2.2.1 = some x → s.fieldFound? ref (T k).2.1 (T k).2.2.1 = some x) (hv : fs[k]? = some v) (d : decode cc pc = .ok (.getfield index, 3)) (kk : kw_W p l e R s m args below meth c nL D cl A cells slots Q ws (pc + 3) (lv) (v :: rest)) : kw_W p l e R s m args below meth c nL D cl A cells slots Q ws (pc) (lv) (.ref a :: rest) := fun H locs ls hP hD hS hl => va_getN X.1.1 X.1.2.1 X.1.2.2.2.2 hin X.1.2.2.2.1 X.2.1 hP q0 he hc k hk (va_Nw.use rfl hlink) hsame hv d (kk H locs ls hP hD hS hl)
theorem kw_putf (X : kw_X p s m args c cc nL own Ts D cl tys A) {ref C : String} {T : u_T} {N ci index a : Nat} {fs : List Value} {v : Value} {ty : FieldType} (hin : ∀ w ∈ u_ws C T N, w ∈ Ts) (ty0 : Nat → FieldType) (hty : ∀ k, k < N → parseFieldDescriptor (T k).2.2.1 = some (ty0 k)) (hnm : ∀ a, a < N → ∀ b, b < N → a ≠ b → (T a).2.1 ≠ (T b).2.1) (q0 : Nat) (he : ws[q0]? = some (a, .inr (ci, fs))) (hc : cl[ci]? = some (C, T, N)) (k : Nat) (hk : k < N) (hlink : Cond.fieldLink own index ref (T k).2.1 (T k).2.2.1 ∈ Ts) (hsame : ∀ x, s.fieldFound? (T k).1 (T k).2.1 (T k).2.2.1 = some x → s.fieldFound? ref (T k).2.1 (T k).2.2.1 = some x) (hfin : (T k).2.2.2 = false) (hd : parseFieldDescriptor (T k).2.2.1 = some ty) (hn : narrow ty v = v) (hfit : fits ty v = true) (hlt : k < fs.length) (d : decode cc pc = .ok (.putfield index, 3)) (kk : kw_W p l e R s m args below meth c nL D cl A cells slots Q (ws.set q0 (a, .inr (ci, fs.set k v))) (pc + 3) (lv) (rest)) : kw_W p l e R s m args below meth c nL D cl A cells slots Q ws (pc) (lv) (v :: .ref a :: rest) := fun H locs ls hP hD hS hl => va_put X.1.1 X.1.2.1 X.1.2.2.2.2 hin ty0 hty hnm X.1.2.2.2.1 X.2.1 hP hD hS q0 he hc k hk (X.1.2.2.2.2 _ hlink) hsame hfin hd hn hfit hlt d (fun H9 l9 hP9 hD9 hS9 => kk H9 l9 ls hP9 hD9 hS9 hl)
theorem kw_putF (X : kw_X p s m args c cc nL own Ts D cl tys A) {ref C : String} {T : u_T} {N ci index a : Nat} {fs : List Value} {v : Value} {ty : FieldType} (hin : ∀ w ∈ u_ws C T N, w ∈ Ts) (ty0 : Nat → FieldType) (hty : ∀ k, k < N → parseFieldDescriptor (T k).2.2.1 = some (ty0 k)) (hnm : ∀ a, a < N → ∀ b, b < N → a ≠ b → (T a).2.1 ≠ (T b).2.1) (q0 : Nat) (he : ws[q0]? = some (a, .inr (ci, fs))) (hc : cl[ci]? = some (C, T, N)) (k : Nat) (hk : k < N) (hlink : Cond.fieldLink own index ref (T k).2.1 (T k).2.2.1 ∈ Ts) (hsame : ∀ x, s.fieldFound? (T k).1 (T k).2.1 (T k).2.2.1 = some x → s.fieldFound? ref (T k).2.1 (T k).2.2.1 = some x) (hfin : (T k).2.2.2 = true) (hin2 : meth.name = "<init>") (hdecl : (T k).1 = own) (hd : parseFieldDescriptor (T k).2.2.1 = some ty) (hn : narrow ty v = v) (hfit : fits ty v = true) (hlt : k < fs.length) (d : decode cc pc = .ok (.putfield index, 3)) (kk : kw_W p l e R s m args below meth c nL D cl A cells slots Q (ws.set q0 (a, .inr (ci, fs.set k v))) (pc + 3) (lv) (rest)) : kw_W p l e R s m args below meth c nL D cl A cells slots Q ws (pc) (lv) (v :: .ref a :: rest) := fun H locs ls hP hD hS hl => va_putF X.1.1 X.1.2.1 X.1.2.2.2.2 hin ty0 hty hnm X.1.2.2.2.1 X.2.1 hP hD hS q0 he hc k hk (X.1.2.2.2.2 _ hlink) hsame hfin hin2 hdecl hd hn hfit hlt d (fun H9 l9 hP9 hD9 hS9 => kk H9 l9 ls hP9 hD9 hS9 hl)
theorem kw_iald (X : kw_X p s m args c cc nL own Ts D cl tys A) (q0 t0 : Nat) {cA : ClassId} {n a : Nat} {f : Nat → Int32} {i v : Int32} (ha : ws[q0]? = some (a, .inl (cA, n, .inl f))) (ht : tys[t0]? = some (cA, .int)) (hin : vp_in i n) (hv : f i.toNatClampNeg = v) (d : decode cc pc = .ok (.iaload, 1)) (kk : kw_W p l e R s m args below meth c nL D cl A cells slots Q ws (pc + 1) (lv) (.int v :: rest)) : kw_W p l e R s m args below meth c nL D cl A cells slots Q ws (pc) (lv) (.int i :: .ref a :: rest) := fun H locs ls hP hD hS hl => va_iald X.1.1 X.1.2.1 X.2.1 hP q0 t0 ha ht hin d (by rw [hv]; exact kk H locs ls hP hD hS hl)
theorem kw_bald (X : kw_X p s m args c cc nL own Ts D cl tys A) (q0 t0 : Nat) {cA : ClassId} {n a : Nat} {f : Nat → Int32} {i v : Int32} (ha : ws[q0]? = some (a, .inl (cA, n, .inl f))) (ht : tys[t0]? = some (cA, .byte)) (hin : vp_in i n) (hv : f i.toNatClampNeg = v) (d : decode cc pc = .ok (.baload, 1)) (kk : kw_W p l e R s m args below meth c nL D cl A cells slots Q ws (pc + 1) (lv) (.int v :: rest)) : kw_W p l e R s m args below meth c nL D cl A cells slots Q ws (pc) (lv) (.int i :: .ref a :: rest) := fun H locs ls hP hD hS hl => va_bald X.1.1 X.1.2.1 X.2.1 hP q0 t0 ha ht hin d (by rw [hv]; exact kk H locs ls hP hD hS hl)
theorem kw_cald (X : kw_X p s m args c cc nL own Ts D cl tys A) (q0 t0 : Nat) {cA : ClassId} {n a : Nat} {f : Nat → Int32} {i v : Int32} (ha : ws[q0]? = some (a, .inl (cA, n, .inl f))) (ht : tys[t0]? = some (cA, .char)) (hin : vp_in i n) (hv : f i.toNatClampNeg = v) (d : decode cc pc = .ok (.caload, 1)) (kk : kw_W p l e R s m args below meth c nL D cl A cells slots Q ws (pc + 1) (lv) (.int v :: rest)) : kw_W p l e R s m args below meth c nL D cl A cells slots Q ws (pc) (lv) (.int i :: .ref a :: rest) := fun H locs ls hP hD hS hl => va_cald X.1.1 X.1.2.1 X.2.1 hP q0 t0 ha ht hin d (by rw [hv]; exact kk H locs ls hP hD hS hl)
theorem kw_lald (X : kw_X p s m args c cc nL own Ts D cl tys A) (q0 t0 : Nat) {cA : ClassId} {n a : Nat} {f : Nat → Int64} {i : Int32} {v : Int64} (ha : ws[q0]? = some (a, .inl (cA, n, .inr (.inl f)))) (ht : tys[t0]? = some (cA, .long)) (hin : vp_in i n) (hv : f i.toNatClampNeg = v) (d : decode cc pc = .ok (.laload, 1)) (kk : kw_W p l e R s m args below meth c nL D cl A cells slots Q ws (pc + 1) (lv) (.long v :: rest)) : kw_W p l e R s m args below meth c nL D cl A cells slots Q ws (pc) (lv) (.int i :: .ref a :: rest) := fun H locs ls hP hD hS hl => va_lald X.1.1 X.1.2.1 X.2.1 hP q0 t0 ha ht hin d (by rw [hv]; exact kk H locs ls hP hD hS hl)
theorem kw_iast (X : kw_X p s m args c cc nL own Ts D cl tys A) (q0 t0 : Nat) {cA : ClassId} {n a : Nat} {f : Nat → Int32} {i x : Int32} (ha : ws[q0]? = some (a, .inl (cA, n, .inl f))) (ht : tys[t0]? = some (cA, .int)) (hin : vp_in i n) (d : decode cc pc = .ok (.iastore, 1)) (kk : kw_W p l e R s m args below meth c nL D cl A cells slots Q (ws.set q0 (a, .inl (cA, n, .inl (upd f i.toNatClampNeg x)))) (pc + 1) (lv) (rest)) : kw_W p l e R s m args below meth c nL D cl A cells slots Q ws (pc) (lv) (.int x :: .int i :: .ref a :: rest) := fun H locs ls hP hD hS hl => va_iast X.1.1 X.1.2.1 X.2.1 hP hD hS q0 t0 ha ht hin d (fun H9 l9 hP9 hD9 hS9 => kk H9 l9 ls hP9 hD9 hS9 hl)
theorem kw_bast (X : kw_X p s m args c cc nL own Ts D cl tys A) (q0 t0 : Nat) {cA : ClassId} {n a : Nat} {f : Nat → Int32} {i x : Int32} (ha : ws[q0]? = some (a, .inl (cA, n, .inl f))) (ht : tys[t0]? = some (cA, .byte)) (hin : vp_in i n) (d : decode cc pc = .ok (.bastore, 1)) (kk : kw_W p l e R s m args below meth c nL D cl A cells slots Q (ws.set q0 (a, .inl (cA, n, .inl (upd f i.toNatClampNeg (vp_nar .byte x))))) (pc + 1) (lv) (rest)) : kw_W p l e R s m args below meth c nL D cl A cells slots Q ws (pc) (lv) (.int x :: .int i :: .ref a :: rest) := fun H locs ls hP hD hS hl => va_bast X.1.1 X.1.2.1 X.2.1 hP hD hS q0 t0 ha ht hin d (fun H9 l9 hP9 hD9 hS9 => kk H9 l9 ls hP9 hD9 hS9 hl)
theorem kw_cast (X : kw_X p s m args c cc nL own Ts D cl tys A) (q0 t0 : Nat) {cA : ClassId} {n a : Nat} {f : Nat → Int32} {i x : Int32} (ha : ws[q0]? = some (a, .inl (cA, n, .inl f))) (ht : tys[t0]? = some (cA, .char)) (hin : vp_in i n) (d : decode cc pc = .ok (.castore, 1)) (kk : kw_W p l e R s m args below meth c nL D cl A cells slots Q (ws.set q0 (a, .inl (cA, n, .inl (upd f i.toNatClampNeg (vp_nar .char x))))) (pc + 1) (lv) (rest)) : kw_W p l e R s m args below meth c nL D cl A cells slots Q ws (pc) (lv) (.int x :: .int i :: .ref a :: rest) := fun H locs ls hP hD hS hl => va_cast X.1.1 X.1.2.1 X.2.1 hP hD hS q0 t0 ha ht hin d (fun H9 l9 hP9 hD9 hS9 => kk H9 l9 ls hP9 hD9 hS9 hl)
theorem kw_last (X : kw_X p s m args c cc nL own Ts D cl tys A) (q0 t0 : Nat) {cA : ClassId} {n a : Nat} {f : Nat → Int64} {i : Int32} {x : Int64} (ha : ws[q0]? = some (a, .inl (cA, n, .inr (.inl f)))) (ht : tys[t0]? = some (cA, .long)) (hin : vp_in i n) (d : decode cc pc = .ok (.lastore, 1)) (kk : kw_W p l e R s m args below meth c nL D cl A cells slots Q (ws.set q0 (a, .inl (cA, n, .inr (.inl (vp_updL f i.toNatClampNeg x))))) (pc + 1) (lv) (rest)) : kw_W p l e R s m args below meth c nL D cl A cells slots Q ws (pc) (lv) (.long x :: .int i :: .ref a :: rest) := fun H locs ls hP hD hS hl => va_last X.1.1 X.1.2.1 X.2.1 hP hD hS q0 t0 ha ht hin d (fun H9 l9 hP9 hD9 hS9 => kk H9 l9 ls hP9 hD9 hS9 hl)
theorem kw_alen (X : kw_X p s m args c cc nL own Ts D cl tys A) (q0 t0 : Nat) {cA : ClassId} {a : Nat} {x : vp_A} {ty : FieldType} {v : Int32} (ha : ws[q0]? = some (a, .inl (cA, x))) (ht : tys[t0]? = some (cA, ty)) (hv : Int32.ofNat x.1 = v) (d : decode cc pc = .ok (.arraylength, 1)) (kk : kw_W p l e R s m args below meth c nL D cl A cells slots Q ws (pc + 1) (lv) (.int v :: rest)) : kw_W p l e R s m args below meth c nL D cl A cells slots Q ws (pc) (lv) (.ref a :: rest) := fun H locs ls hP hD hS hl => va_alen X.1.1 X.1.2.1 X.2.1 hP q0 t0 ha ht hv d (kk H locs ls hP hD hS hl)
theorem kw_sld (X : kw_X p s m args c cc nL own Ts D cl tys A) {b L : Nat} {xs : Nat → Int32} {i v : Int32} (hX : va_X b L xs s s.heap) (hbl : b < s.heap.size) (hbA : ¬ A b) (hin : vp_in i L) (hv : xs i.toNatClampNeg = v) (d : decode cc pc = .ok (.iaload, 1)) (kk : kw_W p l e R s m args below meth c nL D cl A cells slots Q ws (pc + 1) (lv) (.int v :: rest)) : kw_W p l e R s m args below meth c nL D cl A cells slots Q ws (pc) (lv) (.int i :: .ref b :: rest) := fun H locs ls hP hD hS hl => va_sld X.1.1 X.1.2.1 hX hbl hbA hS hin d (by rw [hv]; exact kk H locs ls hP hD hS hl)
theorem kw_slen (X : kw_X p s m args c cc nL own Ts D cl tys A) {b L : Nat} {xs : Nat → Int32} (hX : va_X b L xs s s.heap) (hbl : b < s.heap.size) (hbA : ¬ A b) (d : decode cc pc = .ok (.arraylength, 1)) (kk : kw_W p l e R s m args below meth c nL D cl A cells slots Q ws (pc + 1) (lv) (.int (Int32.ofNat L) :: rest)) : kw_W p l e R s m args below meth c nL D cl A cells slots Q ws (pc) (lv) (.ref b :: rest) := fun H locs ls hP hD hS hl => va_slen X.1.1 X.1.2.1 hX hbl hbA hS d (kk H locs ls hP hD hS hl)
theorem kw_new (X : kw_X p s m args c cc nL own Ts D cl tys A) {C : String} {T : u_T} {N ci index : Nat} {fs : List Value} (hin : ∀ w ∈ u_ws C T N, w ∈ Ts) (ty : Nat → FieldType) (hty : ∀ k, k < N → parseFieldDescriptor (T k).2.2.1 = some (ty k)) (hcl : Cond.classLink own index C ∈ Ts) (hinst : Cond.instantiable C N ∈ Ts) (hini : Cond.initialized C ∈ Ts) (hc : cl[ci]? = some (C, T, N)) (hfs : ∀ j, j < N → defaultValue (ty j) = vp_V fs j) (hcells : cells + 1 ≤ R.cells) (hslots : slots + N ≤ R.slots) (d : decode cc pc = .ok (.new index, 3)) (kk : ∀ q : Nat, kw_W p l e R s m args below meth c nL D cl A (cells + 1) (slots + N) Q (ws ++ [(q, .inr (ci, fs))]) (pc + 3) (lv) (.ref q :: rest)) : kw_W p l e R s m args below meth c nL D cl A cells slots Q ws (pc) (lv) (rest) := fun H locs ls hP hD hS hl => va_new X.1.1 X.1.2.1 X.1.2.2.2.2 hin ty hty X.1.2.2.2.1 (X.1.2.2.2.2 _ hcl) (X.1.2.2.2.2 _ hinst) (X.1.2.2.2.2 _ hini) X.2.1 hP hD hS X.2.2 hc hfs hcells hslots d (fun q H9 hP9 hD9 hS9 => kk q H9 locs ls hP9 hD9 hS9 hl)
theorem kw_cls {U : State} {a b : ClassId} {t0 : Nat} {ty : FieldType} (hno : ∀ C, ty ≠ .object C) (h1 : va_K D cl tys U) (ht : tys[t0]? = some (a, ty)) (h2 : va_K D cl (tys ++ [(b, ty)]) U) : b = a := by
  have e1 := (h1.2 t0 _ ht).2
  have e2 := (h2.2 tys.length (b, ty) (by rw [List.getElem?_append_right (Nat.le_refl _)]; simp)).2
  cases ty with
  | object C => exact absurd rfl (hno C)
  | _ => exact Option.some.inj (e2.symm.trans e1)
theorem kw_newa (X : kw_X p s m args c cc nL own Ts D cl tys A) (t0 : Nat) {cA : ClassId} {atype : ArrayType} {ty : FieldType} {n : Int32} {N' : Nat} {a0 : vp_A} (ht : tys[t0]? = some (cA, ty)) (hno : ∀ C, ty ≠ .object C) (harr : Cond.arrayClass (newarray.typeOf atype) ∈ Ts) (hty : newarray.typeOf atype = ty) (ha : ∀ cA : ClassId, vp_cell cA a0 = arrV cA N' (fun _ => defaultValue ty)) (hn : ¬ n < 0) (hN : n.toNatClampNeg = N') (hbytes : N' * componentBytes ty ≤ 536870912) (hcells : cells + 1 ≤ R.cells) (hslots : slots + N' ≤ R.slots) (d : decode cc pc = .ok (.newarray atype, 2)) (kk : ∀ q : Nat, kw_W p l e R s m args below meth c nL D cl A (cells + 1) (slots + N') Q (ws ++ [(q, .inl (cA, a0))]) (pc + 2) (lv) (.ref q :: rest)) : kw_W p l e R s m args below meth c nL D cl A cells slots Q ws (pc) (lv) (.int n :: rest) := fun H locs ls hP hD hS hl => va_newa X.1.1 X.1.2.1 (X.1.2.2.2.2 _ harr) hty X.2.1 hP hD hS X.2.2 ha hn hN hbytes hcells hslots d (fun q cB H9 hK9 hP9 hD9 hS9 => by
    have e9 := kw_cls hno X.2.1 ht hK9
    subst e9
    exact kk q H9 locs ls hP9 hD9 hS9 hl)
theorem kw_objInit (X : kw_X p s m args c cc nL own Ts D cl tys A) {idx a : Nat} (hlink : Cond.methodLink own idx Lib.objectInit ∈ Ts) (hinst : Cond.instanceMethod Lib.objectInit ∈ Ts) (hcode : Cond.code Lib.objectInit ⟨#[0xb1]⟩ 1 none ∈ Ts) (d : decode cc pc = .ok (.invokespecial idx, 3)) (hframes : 1 ≤ R.frames) (hlocals : (rest.map fun v => v.category).sum + 12 ≤ R.locals) (k : kw_W p l e R s m args below meth c nL D cl A cells slots Q ws (pc + 3) (lv) (rest)) : kw_W p l e R s m args below meth c nL D cl A cells slots Q ws (pc) (lv) (.ref a :: rest) := fun H locs ls hP hD hS hl => W.objInit X.1.1 X.1.2.1 X.1.2.2.2.1 (X.1.2.2.2.2 _ hlink) (X.1.2.2.2.2 _ hinst) (X.1.2.2.2.2 _ hcode) rfl (hl.1.1.trans X.1.2.2.1.symm) rfl d hframes (by simpa using hlocals) (k H locs ls hP hD hS hl)
-- MATH max
-- MATH min
/-- the world behind a call, as a contract says it -/
def kw_B (D : va_G) (cl : List vw_C) (tys : List (ClassId × FieldType)) (A : Nat → Prop) : va_W → State → Prop := fun w t => va_P D cl w t.heap ∧ va_K D cl tys t ∧ va_D A w
theorem kw_iret (X : kw_X p s m args c cc nL own Ts D cl tys A) {post : Int32 → va_W → Prop} {v : Int32} (hr : meth.sig.returnType = some .int) (hlocks : meth.locks = false) (d : decode cc pc = .ok (.ireturn, 1)) (hp : post v ws) : kw_W p l e R s m args below meth c nL D cl A cells slots (MQ below (va_Qi post (kw_B D cl tys A) A) args s cells slots A) ws (pc) (lv) ([.int v]) := fun H locs ls hP hD hS hl => W.iret X.1.1 X.1.2.1 hr (fun t ht hW => ⟨⟨v, ws, rfl, hp, by rw [ht]; exact hP, va_K.moved hW.alike X.2.1, hD⟩, hS.F ht⟩) hS.2.2 d hlocks
theorem kw_zret (X : kw_X p s m args c cc nL own Ts D cl tys A) {post : Int32 → va_W → Prop} {v : Int32} {ty : FieldType} (hr : meth.sig.returnType = some ty) (hlocks : meth.locks = false) (hn : narrow ty (.int v) = .int v) (d : decode cc pc = .ok (.ireturn, 1)) (hp : post v ws) : kw_W p l e R s m args below meth c nL D cl A cells slots (MQ below (va_Qi post (kw_B D cl tys A) A) args s cells slots A) ws (pc) (lv) ([.int v]) := fun H locs ls hP hD hS hl => W.zret X.1.1 X.1.2.1 hr hn (fun t ht hW => ⟨⟨v, ws, rfl, hp, by rw [ht]; exact hP, va_K.moved hW.alike X.2.1, hD⟩, hS.F ht⟩) hS.2.2 d hlocks
theorem kw_vret (X : kw_X p s m args c cc nL own Ts D cl tys A) {post : va_W → Prop} (hr : meth.sig.returnType = none) (hlocks : meth.locks = false) (d : decode cc pc = .ok (.return_, 1)) (hp : post ws) : kw_W p l e R s m args below meth c nL D cl A cells slots (MQ below (va_Qv post (kw_B D cl tys A) A) args s cells slots A) ws (pc) (lv) ([]) := fun H locs ls hP hD hS hl => W.vret X.1.1 X.1.2.1 hr (fun t ht hW => ⟨⟨ws, rfl, hp, by rw [ht]; exact hP, va_K.moved hW.alike X.2.1, hD⟩, hS.F ht⟩) hS.2.2 d hlocks
end KWA
end
section
/-! contracts over worlds, and calls -/
/-- words that the tables say and that aren't carried by the lists: links across a nest, abstract declarations -/
def kw_En (bad : List Cond) (U : State) : Prop := ∀ w ∈ bad, va_Nw w U
def kw_nest : Cond → Bool
  | .fieldLinkNest .. => true
  | .methodLinkNest .. => true
  | .declares .. => true
  | .selects .. => true
  | _ => false
theorem kw_En.warm {bad : List Cond} (h : bad.all kw_nest = true) {s U : State} (hW : s.WarmedH U.vm) (hE : kw_En bad s) : kw_En bad U := fun w hw => by
  have h1 := List.all_eq_true.mp h w hw
  have h2 := hE w hw
  cases w <;> first | (simp [kw_nest] at h1; done) | exact va_Nw.warmF hW h2 | exact va_Nw.warmM hW h2 | exact va_Nw.warmD hW h2 | exact word_at hW (Or.inl (by first | rfl | simp [Cond.onTables, Cond.keeps, Cond.steady])) h2
def kw_Pc (D : va_G) (cl : List vw_C) (tys : List (ClassId × FieldType)) (E : State → Prop) (as : List Value) (wc : va_W) (sz : Nat) : Array Value → State → Prop :=
  va_Pc as (fun U => U.heap.size = sz ∧ va_P D cl wc U.heap ∧ va_K D cl tys U ∧ va_D (fun _ => True) wc ∧ E U)
/-- a method that answers an int: from the world wc, post of the answer and the world behind -/
def kw_I (l : Launch) (y : MethodName) (yw : List Cond) (rm : Room) (D : va_G) (cl : List vw_C) (tys : List (ClassId × FieldType)) (E : State → Prop) (as : List Value) (wc : va_W) (post : Int32 → va_W → Prop) (mc ms : Nat) : Prop :=
  ∀ sz : Nat, Met l y yw rm (kw_Pc D cl tys E as wc sz) (va_Qi post (kw_B D cl tys (va_A wc sz)) (va_A wc sz)) mc ms (va_A wc sz)
def kw_V (l : Launch) (y : MethodName) (yw : List Cond) (rm : Room) (D : va_G) (cl : List vw_C) (tys : List (ClassId × FieldType)) (E : State → Prop) (as : List Value) (wc : va_W) (post : va_W → Prop) (mc ms : Nat) : Prop :=
  ∀ sz : Nat, Met l y yw rm (kw_Pc D cl tys E as wc sz) (va_Qv post (kw_B D cl tys (va_A wc sz)) (va_A wc sz)) mc ms (va_A wc sz)
theorem kw_ofI {l : Launch} {y : MethodName} {yw yw' : List Cond} {rm : Room} {D : va_G} {cl : List vw_C} {tys : List (ClassId × FieldType)} {E : State → Prop} {as : List Value} {wc : va_W} {post : Int32 → va_W → Prop} {mc ms : Nat} {cc : ByteArray} {maxL : Nat} {ty : FieldType} (hy : plainName y.cls = true) (hw : yw = Cond.code y cc maxL (some ty) :: yw') (hlen : (lg_sl as).length ≤ maxL) (hcat : as.all (fun w => w.category == 1) = true)
    (body : ∀ (p : Program) (e : Env) (s : State) (m : MethodId) (args : Array Value) (below : List Frame) (meth : Method) (c : Code) (A : Nat → Prop), kw_X p s m args c cc maxL y.cls yw D cl tys A → meth.sig.returnType = (some ty) → meth.locks = false → E s → meth.name = y.name →
      kw_W p l e rm s m args below meth c maxL D cl A 0 0 (MQ below (va_Qi post (kw_B D cl tys A) A) args s mc ms A) wc 0 (as.map some ++ List.replicate (maxL - as.length) none) []) : kw_I l y yw rm D cl tys E as wc post mc ms := by
  intro sz
  refine Met.ofW (cc := cc) (maxL := maxL) (ret := (some ty)) hy hw ?_
  intro p e s m args below meth c s₁ B hml hv
  obtain ⟨rfl, hsz, hP, hK, hD0, hE⟩ := hv
  subst hsz
  rw [lg_entry_eq]
  exact body p e s m _ below meth c (va_A wc s.heap.size) ⟨⟨B.exec, B.bytes, hml, findClass_of_methodNamed B.named, atoms_spec (ws := yw) B.pre⟩, hK, fun q h => Or.inr h⟩ B.returns B.notSynchronized hE (name_of_methodNamed B.named B.method).1 s.heap [] _ hP hD0.self va_S.rf (kw_entry as hlen (fun w hw => by have h9 := List.all_eq_true.mp hcat w hw; simpa using h9))
theorem kw_ofV {l : Launch} {y : MethodName} {yw yw' : List Cond} {rm : Room} {D : va_G} {cl : List vw_C} {tys : List (ClassId × FieldType)} {E : State → Prop} {as : List Value} {wc : va_W} {post : va_W → Prop} {mc ms : Nat} {cc : ByteArray} {maxL : Nat} (hy : plainName y.cls = true) (hw : yw = Cond.code y cc maxL none :: yw') (hlen : (lg_sl as).length ≤ maxL) (hcat : as.all (fun w => w.category == 1) = true)
    (body : ∀ (p : Program) (e : Env) (s : State) (m : MethodId) (args : Array Value) (below : List Frame) (meth : Method) (c : Code) (A : Nat → Prop), kw_X p s m args c cc maxL y.cls yw D cl tys A → meth.sig.returnType = none → meth.locks = false → E s → meth.name = y.name →
      kw_W p l e rm s m args below meth c maxL D cl A 0 0 (MQ below (va_Qv post (kw_B D cl tys A) A) args s mc ms A) wc 0 (as.map some ++ List.replicate (maxL - as.length) none) []) : kw_V l y yw rm D cl tys E as wc post mc ms := by
  intro sz
  refine Met.ofW (cc := cc) (maxL := maxL) (ret := none) hy hw ?_
  intro p e s m args below meth c s₁ B hml hv
  obtain ⟨rfl, hsz, hP, hK, hD0, hE⟩ := hv
  subst hsz
  rw [lg_entry_eq]
  exact body p e s m _ below meth c (va_A wc s.heap.size) ⟨⟨B.exec, B.bytes, hml, findClass_of_methodNamed B.named, atoms_spec (ws := yw) B.pre⟩, hK, fun q h => Or.inr h⟩ B.returns B.notSynchronized hE (name_of_methodNamed B.named B.method).1 s.heap [] _ hP hD0.self va_S.rf (kw_entry as hlen (fun w hw => by have h9 := List.all_eq_true.mp hcat w hw; simpa using h9))
theorem kw_fm {α β : Type} (f : α → Option β) : ∀ (is : List α) (wc : List β), is.map f = wc.map some → is.filterMap f = wc := by
  intro is
  induction is with
  | nil => intro wc h; cases wc <;> simp_all
  | cons i is ih =>
    intro wc h
    cases wc with
    | nil => simp at h
    | cons q wc =>
      simp only [List.map_cons, List.cons.injEq] at h
      rw [List.filterMap_cons, h.1, ih wc h.2]
section KWC
variable {p : Program} {l : Launch} {e : Env} {R : Room} {s : State} {m : MethodId} {args : Array Value} {below : List Frame} {meth : Method} {c : Code} {cells slots : Nat} {Q : State → Prop}
variable {cc : ByteArray} {nL : Nat} {own : String} {Ts : List Cond} {D : va_G} {cl : List vw_C} {tys : List (ClassId × FieldType)} {A : Nat → Prop}
variable {ws wc : va_W} {pc : Nat} {lv : List (Option Value)} {rest st0 : List Value} {E : State → Prop} {as : List Value}
theorem kw_preS (hK : va_K D cl tys s) (hEw : ∀ s U : State, s.WarmedH U.vm → E s → E U) (hE : E s) {H : Heap} (hP : va_P D cl ws H) (hD : va_D A ws) (isC : List Nat) (hC : isC.map (fun i => ws[i]?) = wc.map some) (hnd : va_nd isC = true) : PreS s H (kw_Pc D cl tys E as wc H.size) as := by
  have hPc := hP.sub (ws' := wc) isC (kw_fm _ _ _ hC)
  have hDc := hD.sub (ws' := wc) isC hnd hC
  exact ⟨fun a U g mk q => by
    obtain ⟨q0, q1, qP, qK, qD, qE⟩ := q
    exact ⟨q0, q1, qP, va_K.moved (u := U) (U := U.calling g mk a) (Vm.Alike.refl U.vm) qK, qD, hEw U (U.calling g mk a) (State.WarmedH.refl U) qE⟩,
   fun U hU hW => ⟨rfl, by rw [hU], by rw [hU]; exact hPc, va_K.moved hW.alike hK, hDc.weaken (fun _ _ _ _ => trivial), hEw s U hW hE⟩⟩
theorem kw_fini (X : kw_X p s m args c cc nL own Ts D cl tys A) {post : Int32 → va_W → Prop} {mc ms : Nat} {a : Array Value} (isC : List Nat) (hC : isC.map (fun i => ws[i]?) = wc.map some) (hlen : ∀ (r : Int32) (w : va_W), post r w → isC.length ≤ w.length)
    (hr : ∀ (H : Heap) (locs : List Loc) (ls : Array Slot), va_P D cl ws H → va_D A ws → kw_has ls nL lv → va_Run p l e R s m args below meth c H locs cells slots mc ms (F0 m pc ls st0) rest (va_Qi post (kw_B D cl tys (va_A wc H.size)) (va_A wc H.size) a) (va_A wc H.size))
    (kk : ∀ (r : Int32) (w1 : va_W), post r w1 → kw_W p l e R s m args below meth c nL D cl A (cells + mc) (slots + ms) Q (kw_put ws isC w1) (pc + 3) (lv) (.int r :: rest)) : kw_W p l e R s m args below meth c nL D cl A cells slots Q ws (pc) (lv) (st0) := fun H locs ls hP hD hS hl => by
  have hF := va_free (wc := wc) hD hS X.2.2 isC hC
  refine va_calli (hr H locs ls hP hD hl) hS (fun q _ h => hF q h) hF (fun r u t H1 locs1 ht hvm hp hB hz hk hS1 => ?_)
  obtain ⟨hP1, hK1, hD1⟩ := hB
  rw [ht] at hP1
  obtain ⟨hP2, hD2⟩ := kw_join hP hD isC hC (hlen r u hp) hk hF hP1 hD1
  exact kk r u hp H1 locs1 ls hP2 hD2 hS1 hl
theorem kw_finv (X : kw_X p s m args c cc nL own Ts D cl tys A) {post : va_W → Prop} {mc ms : Nat} {a : Array Value} (isC : List Nat) (hC : isC.map (fun i => ws[i]?) = wc.map some) (hlen : ∀ w : va_W, post w → isC.length ≤ w.length)
    (hr : ∀ (H : Heap) (locs : List Loc) (ls : Array Slot), va_P D cl ws H → va_D A ws → kw_has ls nL lv → va_Run p l e R s m args below meth c H locs cells slots mc ms (F0 m pc ls st0) rest (va_Qv post (kw_B D cl tys (va_A wc H.size)) (va_A wc H.size) a) (va_A wc H.size))
    (kk : ∀ (w1 : va_W), post w1 → kw_W p l e R s m args below meth c nL D cl A (cells + mc) (slots + ms) Q (kw_put ws isC w1) (pc + 3) (lv) (rest)) : kw_W p l e R s m args below meth c nL D cl A cells slots Q ws (pc) (lv) (st0) := fun H locs ls hP hD hS hl => by
  have hF := va_free (wc := wc) hD hS X.2.2 isC hC
  refine va_callv (hr H locs ls hP hD hl) hS (fun q _ h => hF q h) hF (fun u t H1 locs1 ht hvm hp hB hz hk hS1 => ?_)
  obtain ⟨hP1, hK1, hD1⟩ := hB
  rw [ht] at hP1
  obtain ⟨hP2, hD2⟩ := kw_join hP hD isC hC (hlen u hp) hk hF hP1 hD1
  exact kk u hp H1 locs1 ls hP2 hD2 hS1 hl
theorem kw_room {m : MethodId} {pc : Nat} {ls : Array Slot} {st rest : List Value} (h : (rest.map fun v => v.category).sum ≤ 8) : 2 * (F0 m pc ls st).monitorRoom + (rest.map fun v => v.category).sum ≤ 8 := by show 2 * 0 + _ ≤ 8; omega
theorem kw_callVI (X : kw_X p s m args c cc nL own Ts D cl tys A) (hEw : ∀ s U : State, s.WarmedH U.vm → E s → E U) (hE : E s) {y : MethodName} {bytes : ByteArray} {maxL mc ms n index : Nat} {yw : List Cond} {rm : Room} {ret : Option FieldType} {As : List Value} {post : Int32 → va_W → Prop} (q0 : Nat) {b ci : Nat} {fs : List Value} {C : String} {T : u_T} {N : Nat} (he : wc[q0]? = some (b, .inr (ci, fs))) (hc : cl[ci]? = some (C, T, N)) (hM : kw_I l y yw rm D cl tys E (.ref b :: As) wc post mc ms) (cw : CallW R s args own C index y bytes maxL ret yw rm mc ms n) (isC : List Nat) (hC : isC.map (fun i => ws[i]?) = wc.map some) (hnd : va_nd isC = true) (hlen : ∀ (r : Int32) (w : va_W), post r w → isC.length ≤ w.length) (hn : As.length = n) (hst : st0 = As.reverse ++ .ref b :: rest) (hW : (rest.map fun v => v.category).sum ≤ 8) (d : decode cc pc = .ok (.invokevirtual index, 3)) (hf : cells + mc ≤ R.cells ∧ slots + ms ≤ R.slots)
    (kk : ∀ (r : Int32) (w1 : va_W), post r w1 → kw_W p l e R s m args below meth c nL D cl A (cells + mc) (slots + ms) Q (kw_put ws isC w1) (pc + 3) (lv) (.int r :: rest)) : kw_W p l e R s m args below meth c nL D cl A cells slots Q ws (pc) (lv) (st0) :=
  kw_fini X isC hC hlen (fun H locs ls hP hD hl => by
    have hp := kw_preS (as := .ref b :: As) X.2.1 hEw hE hP hD isC hC hnd
    exact va_runV X.1 (hM H.size) cw ⟨hp.1, va_recv X.2.1 (hP.sub (ws' := wc) isC (kw_fm _ _ _ hC)) hc he, hp.2⟩ rfl hn hl.1.1 hst (kw_room hW) d hf) kk
theorem kw_callUI (X : kw_X p s m args c cc nL own Ts D cl tys A) (hEw : ∀ s U : State, s.WarmedH U.vm → E s → E U) (hE : E s) {y : MethodName} {bytes : ByteArray} {maxL mc ms n index : Nat} {yw : List Cond} {rm : Room} {ret : Option FieldType} {owner : String} {x : MethodName} {As : List Value} {post : Int32 → va_W → Prop} (q0 : Nat) {b ci : Nat} {fs : List Value} {C : String} {T : u_T} {N : Nat} (he : wc[q0]? = some (b, .inr (ci, fs))) (hc : cl[ci]? = some (C, T, N)) (hM : kw_I l y yw rm D cl tys E (.ref b :: As) wc post mc ms) (cw : va_CU R s args own C owner index x y bytes maxL ret yw rm mc ms n) (isC : List Nat) (hC : isC.map (fun i => ws[i]?) = wc.map some) (hnd : va_nd isC = true) (hlen : ∀ (r : Int32) (w : va_W), post r w → isC.length ≤ w.length) (hn : As.length = n) (hst : st0 = As.reverse ++ .ref b :: rest) (hW : (rest.map fun v => v.category).sum ≤ 8) (d : decode cc pc = .ok (.invokevirtual index, 3)) (hf : cells + mc ≤ R.cells ∧ slots + ms ≤ R.slots)
    (kk : ∀ (r : Int32) (w1 : va_W), post r w1 → kw_W p l e R s m args below meth c nL D cl A (cells + mc) (slots + ms) Q (kw_put ws isC w1) (pc + 3) (lv) (.int r :: rest)) : kw_W p l e R s m args below meth c nL D cl A cells slots Q ws (pc) (lv) (st0) :=
  kw_fini X isC hC hlen (fun H locs ls hP hD hl => by
    have hp := kw_preS (as := .ref b :: As) X.2.1 hEw hE hP hD isC hC hnd
    exact va_runU X.1 (hM H.size) cw ⟨hp.1, va_recv X.2.1 (hP.sub (ws' := wc) isC (kw_fm _ _ _ hC)) hc he, hp.2⟩ rfl hn hl.1.1 hst (kw_room hW) d hf) kk
theorem kw_callVNI (X : kw_X p s m args c cc nL own Ts D cl tys A) (hEw : ∀ s U : State, s.WarmedH U.vm → E s → E U) (hE : E s) {y : MethodName} {bytes : ByteArray} {maxL mc ms n index : Nat} {yw : List Cond} {rm : Room} {ret : Option FieldType} {host : String} {As : List Value} {post : Int32 → va_W → Prop} (q0 : Nat) {b ci : Nat} {fs : List Value} {C : String} {T : u_T} {N : Nat} (he : wc[q0]? = some (b, .inr (ci, fs))) (hc : cl[ci]? = some (C, T, N)) (hM : kw_I l y yw rm D cl tys E (.ref b :: As) wc post mc ms) (cw : va_CN R s args own index y host bytes maxL ret yw rm mc ms n ∧ (Cond.instanceMethod y).before args s = true ∧ (Cond.selects C y y).before args s = true) (isC : List Nat) (hC : isC.map (fun i => ws[i]?) = wc.map some) (hnd : va_nd isC = true) (hlen : ∀ (r : Int32) (w : va_W), post r w → isC.length ≤ w.length) (hn : As.length = n) (hst : st0 = As.reverse ++ .ref b :: rest) (hW : (rest.map fun v => v.category).sum ≤ 8) (d : decode cc pc = .ok (.invokevirtual index, 3)) (hf : cells + mc ≤ R.cells ∧ slots + ms ≤ R.slots)
    (kk : ∀ (r : Int32) (w1 : va_W), post r w1 → kw_W p l e R s m args below meth c nL D cl A (cells + mc) (slots + ms) Q (kw_put ws isC w1) (pc + 3) (lv) (.int r :: rest)) : kw_W p l e R s m args below meth c nL D cl A cells slots Q ws (pc) (lv) (st0) :=
  kw_fini X isC hC hlen (fun H locs ls hP hD hl => by
    have hp := kw_preS (as := .ref b :: As) X.2.1 hEw hE hP hD isC hC hnd
    exact va_runVN X.1 (hM H.size) cw ⟨hp.1, va_recv X.2.1 (hP.sub (ws' := wc) isC (kw_fm _ _ _ hC)) hc he, hp.2⟩ rfl hn hl.1.1 hst (kw_room hW) d hf) kk
theorem kw_callSI (X : kw_X p s m args c cc nL own Ts D cl tys A) (hEw : ∀ s U : State, s.WarmedH U.vm → E s → E U) (hE : E s) {y : MethodName} {bytes : ByteArray} {maxL mc ms n index : Nat} {yw : List Cond} {rm : Room} {ret : Option FieldType} {As : List Value} {post : Int32 → va_W → Prop} (hM : kw_I l y yw rm D cl tys E As wc post mc ms) (cw : CallB R s args own index y bytes maxL ret yw rm mc ms n ∧ (Cond.static y).before args s = true) (isC : List Nat) (hC : isC.map (fun i => ws[i]?) = wc.map some) (hnd : va_nd isC = true) (hlen : ∀ (r : Int32) (w : va_W), post r w → isC.length ≤ w.length) (hn : As.length = n) (hst : st0 = As.reverse ++ rest) (hW : (rest.map fun v => v.category).sum ≤ 8) (d : decode cc pc = .ok (.invokestatic index, 3)) (hf : cells + mc ≤ R.cells ∧ slots + ms ≤ R.slots)
    (kk : ∀ (r : Int32) (w1 : va_W), post r w1 → kw_W p l e R s m args below meth c nL D cl A (cells + mc) (slots + ms) Q (kw_put ws isC w1) (pc + 3) (lv) (.int r :: rest)) : kw_W p l e R s m args below meth c nL D cl A cells slots Q ws (pc) (lv) (st0) :=
  kw_fini X isC hC hlen (fun H locs ls hP hD hl => va_runS X.1 (hM H.size) cw (kw_preS (as := As) X.2.1 hEw hE hP hD isC hC hnd) rfl hn hl.1.1 hst (kw_room hW) d hf) kk
theorem kw_callSNI (X : kw_X p s m args c cc nL own Ts D cl tys A) (hEw : ∀ s U : State, s.WarmedH U.vm → E s → E U) (hE : E s) {y : MethodName} {bytes : ByteArray} {maxL mc ms n index : Nat} {yw : List Cond} {rm : Room} {ret : Option FieldType} {host : String} {As : List Value} {post : Int32 → va_W → Prop} (hM : kw_I l y yw rm D cl tys E As wc post mc ms) (cw : va_CN R s args own index y host bytes maxL ret yw rm mc ms n ∧ (Cond.static y).before args s = true ∧ True) (isC : List Nat) (hC : isC.map (fun i => ws[i]?) = wc.map some) (hnd : va_nd isC = true) (hlen : ∀ (r : Int32) (w : va_W), post r w → isC.length ≤ w.length) (hn : As.length = n) (hst : st0 = As.reverse ++ rest) (hW : (rest.map fun v => v.category).sum ≤ 8) (d : decode cc pc = .ok (.invokestatic index, 3)) (hf : cells + mc ≤ R.cells ∧ slots + ms ≤ R.slots)
    (kk : ∀ (r : Int32) (w1 : va_W), post r w1 → kw_W p l e R s m args below meth c nL D cl A (cells + mc) (slots + ms) Q (kw_put ws isC w1) (pc + 3) (lv) (.int r :: rest)) : kw_W p l e R s m args below meth c nL D cl A cells slots Q ws (pc) (lv) (st0) :=
  kw_fini X isC hC hlen (fun H locs ls hP hD hl => va_runSN X.1 (hM H.size) cw (kw_preS (as := As) X.2.1 hEw hE hP hD isC hC hnd) rfl hn hl.1.1 hst (kw_room hW) d hf) kk
theorem kw_callVV (X : kw_X p s m args c cc nL own Ts D cl tys A) (hEw : ∀ s U : State, s.WarmedH U.vm → E s → E U) (hE : E s) {y : MethodName} {bytes : ByteArray} {maxL mc ms n index : Nat} {yw : List Cond} {rm : Room} {ret : Option FieldType} {As : List Value} {post : va_W → Prop} (q0 : Nat) {b ci : Nat} {fs : List Value} {C : String} {T : u_T} {N : Nat} (he : wc[q0]? = some (b, .inr (ci, fs))) (hc : cl[ci]? = some (C, T, N)) (hM : kw_V l y yw rm D cl tys E (.ref b :: As) wc post mc ms) (cw : CallW R s args own C index y bytes maxL ret yw rm mc ms n) (isC : List Nat) (hC : isC.map (fun i => ws[i]?) = wc.map some) (hnd : va_nd isC = true) (hlen : ∀ w : va_W, post w → isC.length ≤ w.length) (hn : As.length = n) (hst : st0 = As.reverse ++ .ref b :: rest) (hW : (rest.map fun v => v.category).sum ≤ 8) (d : decode cc pc = .ok (.invokevirtual index, 3)) (hf : cells + mc ≤ R.cells ∧ slots + ms ≤ R.slots)
    (kk : ∀ (w1 : va_W), post w1 → kw_W p l e R s m args below meth c nL D cl A (cells + mc) (slots + ms) Q (kw_put ws isC w1) (pc + 3) (lv) (rest)) : kw_W p l e R s m args below meth c nL D cl A cells slots Q ws (pc) (lv) (st0) :=
  kw_finv X isC hC hlen (fun H locs ls hP hD hl => by
    have hp := kw_preS (as := .ref b :: As) X.2.1 hEw hE hP hD isC hC hnd
    exact va_runV X.1 (hM H.size) cw ⟨hp.1, va_recv X.2.1 (hP.sub (ws' := wc) isC (kw_fm _ _ _ hC)) hc he, hp.2⟩ rfl hn hl.1.1 hst (kw_room hW) d hf) kk
theorem kw_callUV (X : kw_X p s m args c cc nL own Ts D cl tys A) (hEw : ∀ s U : State, s.WarmedH U.vm → E s → E U) (hE : E s) {y : MethodName} {bytes : ByteArray} {maxL mc ms n index : Nat} {yw : List Cond} {rm : Room} {ret : Option FieldType} {owner : String} {x : MethodName} {As : List Value} {post : va_W → Prop} (q0 : Nat) {b ci : Nat} {fs : List Value} {C : String} {T : u_T} {N : Nat} (he : wc[q0]? = some (b, .inr (ci, fs))) (hc : cl[ci]? = some (C, T, N)) (hM : kw_V l y yw rm D cl tys E (.ref b :: As) wc post mc ms) (cw : va_CU R s args own C owner index x y bytes maxL ret yw rm mc ms n) (isC : List Nat) (hC : isC.map (fun i => ws[i]?) = wc.map some) (hnd : va_nd isC = true) (hlen : ∀ w : va_W, post w → isC.length ≤ w.length) (hn : As.length = n) (hst : st0 = As.reverse ++ .ref b :: rest) (hW : (rest.map fun v => v.category).sum ≤ 8) (d : decode cc pc = .ok (.invokevirtual index, 3)) (hf : cells + mc ≤ R.cells ∧ slots + ms ≤ R.slots)
    (kk : ∀ (w1 : va_W), post w1 → kw_W p l e R s m args below meth c nL D cl A (cells + mc) (slots + ms) Q (kw_put ws isC w1) (pc + 3) (lv) (rest)) : kw_W p l e R s m args below meth c nL D cl A cells slots Q ws (pc) (lv) (st0) :=
  kw_finv X isC hC hlen (fun H locs ls hP hD hl => by
    have hp := kw_preS (as := .ref b :: As) X.2.1 hEw hE hP hD isC hC hnd
    exact va_runU X.1 (hM H.size) cw ⟨hp.1, va_recv X.2.1 (hP.sub (ws' := wc) isC (kw_fm _ _ _ hC)) hc he, hp.2⟩ rfl hn hl.1.1 hst (kw_room hW) d hf) kk
theorem kw_callVNV (X : kw_X p s m args c cc nL own Ts D cl tys A) (hEw : ∀ s U : State, s.WarmedH U.vm → E s → E U) (hE : E s) {y : MethodName} {bytes : ByteArray} {maxL mc ms n index : Nat} {yw : List Cond} {rm : Room} {ret : Option FieldType} {host : String} {As : List Value} {post : va_W → Prop} (q0 : Nat) {b ci : Nat} {fs : List Value} {C : String} {T : u_T} {N : Nat} (he : wc[q0]? = some (b, .inr (ci, fs))) (hc : cl[ci]? = some (C, T, N)) (hM : kw_V l y yw rm D cl tys E (.ref b :: As) wc post mc ms) (cw : va_CN R s args own index y host bytes maxL ret yw rm mc ms n ∧ (Cond.instanceMethod y).before args s = true ∧ (Cond.selects C y y).before args s = true) (isC : List Nat) (hC : isC.map (fun i => ws[i]?) = wc.map some) (hnd : va_nd isC = true) (hlen : ∀ w : va_W, post w → isC.length ≤ w.length) (hn : As.length = n) (hst : st0 = As.reverse ++ .ref b :: rest) (hW : (rest.map fun v => v.category).sum ≤ 8) (d : decode cc pc = .ok (.invokevirtual index, 3)) (hf : cells + mc ≤ R.cells ∧ slots + ms ≤ R.slots)
    (kk : ∀ (w1 : va_W), post w1 → kw_W p l e R s m args below meth c nL D cl A (cells + mc) (slots + ms) Q (kw_put ws isC w1) (pc + 3) (lv) (rest)) : kw_W p l e R s m args below meth c nL D cl A cells slots Q ws (pc) (lv) (st0) :=
  kw_finv X isC hC hlen (fun H locs ls hP hD hl => by
    have hp := kw_preS (as := .ref b :: As) X.2.1 hEw hE hP hD isC hC hnd
    exact va_runVN X.1 (hM H.size) cw ⟨hp.1, va_recv X.2.1 (hP.sub (ws' := wc) isC (kw_fm _ _ _ hC)) hc he, hp.2⟩ rfl hn hl.1.1 hst (kw_room hW) d hf) kk
theorem kw_callSV (X : kw_X p s m args c cc nL own Ts D cl tys A) (hEw : ∀ s U : State, s.WarmedH U.vm → E s → E U) (hE : E s) {y : MethodName} {bytes : ByteArray} {maxL mc ms n index : Nat} {yw : List Cond} {rm : Room} {ret : Option FieldType} {As : List Value} {post : va_W → Prop} (hM : kw_V l y yw rm D cl tys E As wc post mc ms) (cw : CallB R s args own index y bytes maxL ret yw rm mc ms n ∧ (Cond.static y).before args s = true) (isC : List Nat) (hC : isC.map (fun i => ws[i]?) = wc.map some) (hnd : va_nd isC = true) (hlen : ∀ w : va_W, post w → isC.length ≤ w.length) (hn : As.length = n) (hst : st0 = As.reverse ++ rest) (hW : (rest.map fun v => v.category).sum ≤ 8) (d : decode cc pc = .ok (.invokestatic index, 3)) (hf : cells + mc ≤ R.cells ∧ slots + ms ≤ R.slots)
    (kk : ∀ (w1 : va_W), post w1 → kw_W p l e R s m args below meth c nL D cl A (cells + mc) (slots + ms) Q (kw_put ws isC w1) (pc + 3) (lv) (rest)) : kw_W p l e R s m args below meth c nL D cl A cells slots Q ws (pc) (lv) (st0) :=
  kw_finv X isC hC hlen (fun H locs ls hP hD hl => va_runS X.1 (hM H.size) cw (kw_preS (as := As) X.2.1 hEw hE hP hD isC hC hnd) rfl hn hl.1.1 hst (kw_room hW) d hf) kk
theorem kw_callSNV (X : kw_X p s m args c cc nL own Ts D cl tys A) (hEw : ∀ s U : State, s.WarmedH U.vm → E s → E U) (hE : E s) {y : MethodName} {bytes : ByteArray} {maxL mc ms n index : Nat} {yw : List Cond} {rm : Room} {ret : Option FieldType} {host : String} {As : List Value} {post : va_W → Prop} (hM : kw_V l y yw rm D cl tys E As wc post mc ms) (cw : va_CN R s args own index y host bytes maxL ret yw rm mc ms n ∧ (Cond.static y).before args s = true ∧ True) (isC : List Nat) (hC : isC.map (fun i => ws[i]?) = wc.map some) (hnd : va_nd isC = true) (hlen : ∀ w : va_W, post w → isC.length ≤ w.length) (hn : As.length = n) (hst : st0 = As.reverse ++ rest) (hW : (rest.map fun v => v.category).sum ≤ 8) (d : decode cc pc = .ok (.invokestatic index, 3)) (hf : cells + mc ≤ R.cells ∧ slots + ms ≤ R.slots)
    (kk : ∀ (w1 : va_W), post w1 → kw_W p l e R s m args below meth c nL D cl A (cells + mc) (slots + ms) Q (kw_put ws isC w1) (pc + 3) (lv) (rest)) : kw_W p l e R s m args below meth c nL D cl A cells slots Q ws (pc) (lv) (st0) :=
  kw_finv X isC hC hlen (fun H locs ls hP hD hl => va_runSN X.1 (hM H.size) cw (kw_preS (as := As) X.2.1 hEw hE hP hD isC hC hnd) rfl hn hl.1.1 hst (kw_room hW) d hf) kk
theorem kw_callI (X : kw_X p s m args c cc nL own Ts D cl tys A) (hEw : ∀ s U : State, s.WarmedH U.vm → E s → E U) (hE : E s) {y : MethodName} {bytes : ByteArray} {maxL mc ms n index : Nat} {yw : List Cond} {rm : Room} {b : Nat} {As : List Value} {post : va_W → Prop} (hM : kw_V l y yw rm D cl tys E (.ref b :: As) wc post mc ms) (cw : CallB R s args own index y bytes maxL none yw rm mc ms n ∧ y.name = "<init>" ∧ (Cond.instanceMethod y).before args s = true) (isC : List Nat) (hC : isC.map (fun i => ws[i]?) = wc.map some) (hnd : va_nd isC = true) (hlen : ∀ w : va_W, post w → isC.length ≤ w.length) (hn : As.length = n) (hst : st0 = As.reverse ++ .ref b :: rest) (hW : (rest.map fun v => v.category).sum ≤ 8) (d : decode cc pc = .ok (.invokespecial index, 3)) (hf : cells + mc ≤ R.cells ∧ slots + ms ≤ R.slots)
    (kk : ∀ (w1 : va_W), post w1 → kw_W p l e R s m args below meth c nL D cl A (cells + mc) (slots + ms) Q (kw_put ws isC w1) (pc + 3) (lv) (rest)) : kw_W p l e R s m args below meth c nL D cl A cells slots Q ws (pc) (lv) (st0) :=
  kw_finv X isC hC hlen (fun H locs ls hP hD hl => va_runI X.1 (hM H.size) cw (kw_preS (as := .ref b :: As) X.2.1 hEw hE hP hD isC hC hnd) rfl hn hl.1.1 hst (kw_room hW) d hf) kk
theorem kw_callIN (X : kw_X p s m args c cc nL own Ts D cl tys A) (hEw : ∀ s U : State, s.WarmedH U.vm → E s → E U) (hE : E s) {y : MethodName} {bytes : ByteArray} {maxL mc ms n index : Nat} {yw : List Cond} {rm : Room} {b : Nat} {host : String} {As : List Value} {post : va_W → Prop} (hM : kw_V l y yw rm D cl tys E (.ref b :: As) wc post mc ms) (cw : va_CN R s args own index y host bytes maxL none yw rm mc ms n ∧ y.name = "<init>" ∧ (Cond.instanceMethod y).before args s = true) (isC : List Nat) (hC : isC.map (fun i => ws[i]?) = wc.map some) (hnd : va_nd isC = true) (hlen : ∀ w : va_W, post w → isC.length ≤ w.length) (hn : As.length = n) (hst : st0 = As.reverse ++ .ref b :: rest) (hW : (rest.map fun v => v.category).sum ≤ 8) (d : decode cc pc = .ok (.invokespecial index, 3)) (hf : cells + mc ≤ R.cells ∧ slots + ms ≤ R.slots)
    (kk : ∀ (w1 : va_W), post w1 → kw_W p l e R s m args below meth c nL D cl A (cells + mc) (slots + ms) Q (kw_put ws isC w1) (pc + 3) (lv) (rest)) : kw_W p l e R s m args below meth c nL D cl A cells slots Q ws (pc) (lv) (st0) :=
  kw_finv X isC hC hlen (fun H locs ls hP hD hl => va_runIN X.1 (hM H.size) cw (kw_preS (as := .ref b :: As) X.2.1 hEw hE hP hD isC hC hnd) rfl hn hl.1.1 hst (kw_room hW) d hf) kk
theorem kw_mmax (X : kw_X p s m args c cc nL own Ts D cl tys A) {index : Nat} (hlink : Cond.methodLink own index Lib.Math.max.name ∈ Ts) (hstat : Cond.static Lib.Math.max.name ∈ Ts) (hini : Cond.initialized "java/lang/Math" ∈ Ts) (hcode : Cond.code Lib.Math.max.name Lib.Math.max.code 2 (some .int) ∈ Ts) (hframes : 1 ≤ R.frames) (hlocals : (rest.map fun v => v.category).sum + 13 ≤ R.locals) (hc : cells ≤ R.cells) (hs : slots ≤ R.slots) {x y v : Int32} (hv : (if x < y then y else x) = v) (d : decode cc pc = .ok (.invokestatic index, 3)) (k : kw_W p l e R s m args below meth c nL D cl A cells slots Q ws (pc + 3) (lv) (.int v :: rest)) : kw_W p l e R s m args below meth c nL D cl A cells slots Q ws (pc) (lv) (.int y :: .int x :: rest) := fun H locs ls hP hD hS hl => va_mmax X.1.1 X.1.2.1 (X.1.2.2.1.trans hl.1.1.symm) X.1.2.2.2.1 (X.1.2.2.2.2 _ hlink) (X.1.2.2.2.2 _ hstat) (X.1.2.2.2.2 _ hini) (X.1.2.2.2.2 _ hcode) hframes hlocals hc hs d (by rw [hv]; exact k H locs ls hP hD hS hl)
theorem kw_mmin (X : kw_X p s m args c cc nL own Ts D cl tys A) {index : Nat} (hlink : Cond.methodLink own index Lib.Math.min.name ∈ Ts) (hstat : Cond.static Lib.Math.min.name ∈ Ts) (hini : Cond.initialized "java/lang/Math" ∈ Ts) (hcode : Cond.code Lib.Math.min.name Lib.Math.min.code 2 (some .int) ∈ Ts) (hframes : 1 ≤ R.frames) (hlocals : (rest.map fun v => v.category).sum + 13 ≤ R.locals) (hc : cells ≤ R.cells) (hs : slots ≤ R.slots) {x y v : Int32} (hv : (if y < x then y else x) = v) (d : decode cc pc = .ok (.invokestatic index, 3)) (k : kw_W p l e R s m args below meth c nL D cl A cells slots Q ws (pc + 3) (lv) (.int v :: rest)) : kw_W p l e R s m args below meth c nL D cl A cells slots Q ws (pc) (lv) (.int y :: .int x :: rest) := fun H locs ls hP hD hS hl => va_mmin X.1.1 X.1.2.1 (X.1.2.2.1.trans hl.1.1.symm) X.1.2.2.2.1 (X.1.2.2.2.2 _ hlink) (X.1.2.2.2.2 _ hstat) (X.1.2.2.2.2 _ hini) (X.1.2.2.2.2 _ hcode) hframes hlocals hc hs d (by rw [hv]; exact k H locs ls hP hD hS hl)
end KWC
end
section
/-! ===== Int32 by its bits: bt x i ===== -/
def bt (x : Int32) (i : Nat) : Bool := x.toBitVec.getLsbD i
theorem b_ext {x y : Int32} (h : ∀ i, i < 32 → bt x i = bt y i) : x = y := Int32.toBitVec_inj.mp (BitVec.eq_of_getLsbD_eq (fun i hi => h i hi))
theorem b_or (x y : Int32) (i : Nat) : bt (x ||| y) i = (bt x i || bt y i) := by unfold bt; rw [Int32.toBitVec_or, BitVec.getLsbD_or]
theorem b_and (x y : Int32) (i : Nat) : bt (x &&& y) i = (bt x i && bt y i) := by unfold bt; rw [Int32.toBitVec_and, BitVec.getLsbD_and]
theorem b_xor (x y : Int32) (i : Nat) : bt (x ^^^ y) i = (bt x i ^^ bt y i) := by unfold bt; rw [Int32.toBitVec_xor, BitVec.getLsbD_xor]
theorem b_big {x : Int32} {i : Nat} (h : 32 ≤ i) : bt x i = false := BitVec.getLsbD_of_ge _ _ h
theorem b_255 (i : Nat) : bt 255 i = decide (i < 8) := by
  rcases Nat.lt_or_ge i 32 with h | h
  · exact (by decide +kernel : ∀ i, i < 32 → bt 255 i = decide (i < 8)) i h
  · rw [b_big h, decide_eq_false (by omega)]
theorem b_65535 (i : Nat) : bt 65535 i = decide (i < 16) := by
  rcases Nat.lt_or_ge i 32 with h | h
  · exact (by decide +kernel : ∀ i, i < 32 → bt 65535 i = decide (i < 16)) i h
  · rw [b_big h, decide_eq_false (by omega)]
theorem b_m1 : ∀ i, i < 32 → bt (-1) i = true := by decide +kernel
theorem b_0 (i : Nat) : bt 0 i = false := BitVec.getLsbD_zero
theorem s_l : ∀ n, n < 32 → ((nI n &&& 31).toBitVec.smod 32).toNat = n := by decide +kernel
theorem s_u : ∀ n, n < 32 → (((nI n).toUInt32 &&& Int32.toUInt32 31).toBitVec % 32).toNat = n := by decide +kernel
theorem b_shl (n : Nat) (hn : n < 32) (x : Int32) {i : Nat} (hi : i < 32) : bt (x <<< (nI n &&& 31)) i = (decide (n ≤ i) && bt x (i - n)) := by
  unfold bt
  rw [Int32.toBitVec_shiftLeft]
  show (x.toBitVec <<< ((nI n &&& 31).toBitVec.smod 32).toNat).getLsbD i = _
  rw [s_l n hn, BitVec.getLsbD_shiftLeft]
  rcases Nat.lt_or_ge i n with h | h
  · simp [h, Nat.not_le.mpr h]
  · simp [hi, h, Nat.not_lt.mpr h]
theorem b_ushr (n : Nat) (hn : n < 32) (x : Int32) (i : Nat) : bt ((x.toUInt32 >>> ((nI n).toUInt32 &&& Int32.toUInt32 31)).toInt32) i = bt x (n + i) := by
  show (x.toUInt32 >>> ((nI n).toUInt32 &&& Int32.toUInt32 31)).toBitVec.getLsbD i = x.toUInt32.toBitVec.getLsbD (n + i)
  rw [UInt32.toBitVec_shiftRight]
  show (x.toUInt32.toBitVec >>> (((nI n).toUInt32 &&& Int32.toUInt32 31).toBitVec % 32).toNat).getLsbD i = _
  rw [s_u n hn, BitVec.getLsbD_ushiftRight]
theorem b_sshr (n : Nat) (hn : n < 32) (x : Int32) {i : Nat} (hi : i < 32) : bt (x >>> (nI n &&& 31)) i = if n + i < 32 then bt x (n + i) else bt x 31 := by
  unfold bt
  rw [Int32.toBitVec_shiftRight]
  show (x.toBitVec.sshiftRight ((nI n &&& 31).toBitVec.smod 32).toNat).getLsbD i = _
  rw [s_l n hn, BitVec.getLsbD_sshiftRight, BitVec.msb_eq_getLsbD_last]
  simp [hi]
theorem b_shl8 (x : Int32) {i : Nat} (hi : i < 32) : bt (x <<< ((8 : Int32) &&& 31)) i = (decide (8 ≤ i) && bt x (i - 8)) := b_shl 8 (by omega) x hi
theorem b_shl16 (x : Int32) {i : Nat} (hi : i < 32) : bt (x <<< ((16 : Int32) &&& 31)) i = (decide (16 ≤ i) && bt x (i - 16)) := b_shl 16 (by omega) x hi
theorem b_shl24 (x : Int32) {i : Nat} (hi : i < 32) : bt (x <<< ((24 : Int32) &&& 31)) i = (decide (24 ≤ i) && bt x (i - 24)) := b_shl 24 (by omega) x hi
theorem b_sshr8 (x : Int32) {i : Nat} (hi : i < 32) : bt (x >>> ((8 : Int32) &&& 31)) i = if 8 + i < 32 then bt x (8 + i) else bt x 31 := b_sshr 8 (by omega) x hi
/-! ===== nI under and, xor, >>>, one bit, 65535 ===== -/
theorem nx_and (a b : Nat) : nI a &&& nI b = nI (a &&& b) := by
  apply Int32.toBitVec_inj.1
  show BitVec.ofNat 32 a &&& BitVec.ofNat 32 b = BitVec.ofNat 32 (a &&& b)
  apply BitVec.eq_of_getLsbD_eq
  intro i hi
  simp [hi]
theorem nx_xor (a b : Nat) : nI a ^^^ nI b = nI (a ^^^ b) := by
  apply Int32.toBitVec_inj.1
  show BitVec.ofNat 32 a ^^^ BitVec.ofNat 32 b = BitVec.ofNat 32 (a ^^^ b)
  apply BitVec.eq_of_getLsbD_eq
  intro i hi
  simp [hi]
theorem nx_cnt : ∀ j : Fin 32, (UInt32.ofNat j.val &&& Int32.toUInt32 31).toNat % 32 = j.val := by decide +kernel
theorem nx_ush {k j : Nat} (hk : k < 65536) (hj : j < 32) : ((nI k).toUInt32 >>> ((nI j).toUInt32 &&& Int32.toUInt32 31)).toInt32 = nI (k >>> j) := by
  have hs : k >>> j ≤ k := by
    rw [Nat.shiftRight_eq_div_pow]
    exact Nat.div_le_self _ _
  have e2 : UInt32.ofNat k >>> (UInt32.ofNat j &&& Int32.toUInt32 31) = UInt32.ofNat (k >>> j) := by
    apply UInt32.toNat_inj.1
    have h1 : (UInt32.ofNat k).toNat = k := Nat.mod_eq_of_lt (by omega)
    have h2 : (UInt32.ofNat (k >>> j)).toNat = k >>> j := Nat.mod_eq_of_lt (by omega)
    rw [UInt32.toNat_shiftRight, nx_cnt ⟨j, hj⟩, h1, h2]
  show (UInt32.ofNat k >>> (UInt32.ofNat j &&& Int32.toUInt32 31)).toInt32 = _
  rw [e2]
  rfl
theorem nx_bit {k j : Nat} (hk : k < 65536) (hj : j < 16) : (((nI k).toUInt32 >>> ((nI j).toUInt32 &&& Int32.toUInt32 31)).toInt32 &&& 1) = 0 ↔ k.testBit j = false := by
  rw [nx_ush hk (by omega)]
  show nI (k >>> j) &&& nI 1 = 0 ↔ _
  rw [nx_and, Nat.and_one_is_mod, ← nI_0, nI_eq (by omega) (by omega), Nat.testBit_eq_decide_div_mod_eq, Nat.shiftRight_eq_div_pow, decide_eq_false_iff_not]
  generalize k / 2 ^ j = z
  omega
theorem nx_mod (k : Nat) : nI k &&& 65535 = nI (k % 65536) := by
  show nI k &&& nI 65535 = _
  rw [nx_and, show (65535 : Nat) = 2 ^ 16 - 1 from rfl, Nat.and_two_pow_sub_one_eq_mod]
theorem nx_m16 {k : Nat} (h : k < 65536) : nI k &&& 65535 = nI k := by rw [nx_mod, Nat.mod_eq_of_lt h]
theorem nx_mask (x : Int32) : ∃ k, k < 65536 ∧ x &&& 65535 = nI k := by
  have e : x = nI x.toBitVec.toNat := by
    apply Int32.toBitVec_inj.1
    show x.toBitVec = BitVec.ofNat 32 x.toBitVec.toNat
    simp
  refine ⟨x.toBitVec.toNat % 65536, Nat.mod_lt _ (by omega), ?_⟩
  rw [← nx_mod, ← e]
/-! bits of small naturals under nI -/
theorem bq_bt (p : Nat) {j : Nat} (hj : j < 32) : bt (nI p) j = p.testBit j := by
  unfold bt
  show (BitVec.ofNat 32 p).getLsbD j = p.testBit j
  rw [BitVec.getLsbD_ofNat]
  simp [hj]
theorem bq_or (a b : Nat) : nI a ||| nI b = nI (a ||| b) := by
  apply Int32.toBitVec_inj.1
  show BitVec.ofNat 32 a ||| BitVec.ofNat 32 b = BitVec.ofNat 32 (a ||| b)
  apply BitVec.eq_of_getLsbD_eq
  intro i hi
  simp [hi]
theorem bq_shl {i : Nat} (hi : i < 31) : nI 1 <<< (nI i &&& 31) = nI (2 ^ i) := by
  have h := pk_shlN (n := 1) (nI i &&& 31) i (s_l i (by omega)) (by
    have h2 : 2 ^ i < 2 ^ 31 := Nat.pow_lt_pow_right (by decide) hi
    omega)
  rw [h, Nat.one_mul]
theorem bq_shr {p i : Nat} (hp : p < 2 ^ 31) (hi : i < 32) : nI p >>> (nI i &&& 31) = nI (p / 2 ^ i) := pk_shrN hp _ i (s_l i hi)
theorem bq_has {p i : Nat} (hp : p < 2 ^ 31) (hi : i < 32) : (nI p >>> (nI i &&& 31)) &&& nI 1 = nI (p / 2 ^ i % 2) := by
  rw [bq_shr hp hi]
  have h1 : p / 2 ^ i < 2 ^ 32 := by
    have := Nat.div_le_self p (2 ^ i)
    omega
  exact pk_andN h1 1 (by decide)
theorem bq_tb (p i : Nat) : p / 2 ^ i % 2 = 1 ↔ p.testBit i = true := by
  rw [Nat.testBit_eq_decide_div_mod_eq, decide_eq_true_eq]
/-- the set without one of its members -/
def bq_wo (p i : Nat) : Nat := p ^^^ (p &&& 2 ^ i)
theorem bq_wo_tb (p i j : Nat) : (bq_wo p i).testBit j = (p.testBit j && !decide (i = j)) := by
  unfold bq_wo
  rw [Nat.testBit_xor, Nat.testBit_and, Nat.testBit_two_pow]
  cases p.testBit j <;> by_cases h : i = j <;> simp [h]
theorem bq_woI {p i : Nat} (hi : i < 31) : nI p &&& ((nI 1 <<< (nI i &&& 31)) ^^^ (-1)) = nI (bq_wo p i) := by
  rw [bq_shl hi]
  apply b_ext
  intro j hj
  rw [b_and, b_xor, bq_bt _ hj, bq_bt _ hj, bq_bt _ hj, b_m1 j hj, bq_wo_tb, Nat.testBit_two_pow]
  cases p.testBit j <;> by_cases h : i = j <;> simp [h]
theorem bq_wo_le (p i : Nat) : bq_wo p i ≤ p := by
  apply Nat.le_of_testBit
  intro j hj
  rw [bq_wo_tb] at hj
  revert hj
  cases p.testBit j <;> simp
theorem bq_wo_lt {p i : Nat} (h : p.testBit i = true) : bq_wo p i < p := by
  refine Nat.lt_of_le_of_ne (bq_wo_le p i) (fun e => ?_)
  have h1 := bq_wo_tb p i i
  rw [e, h] at h1
  simp at h1
theorem bq_lt_of {p n : Nat} (h : ∀ j, n ≤ j → p.testBit j = false) : p < 2 ^ n := Nat.lt_pow_two_of_testBit p h
theorem bq_of_lt {p n j : Nat} (h : p < 2 ^ n) (hj : n ≤ j) : p.testBit j = false := Nat.testBit_lt_two_pow (Nat.lt_of_lt_of_le h (Nat.pow_le_pow_right (by decide) hj))
end
section
/-! the game, as numbers: n strings, string i joins the coins lo i and hi i (8: the ground); a position is a natural whose bits are its strings -/
def gm_mk (lo hi : Nat → Nat) : Nat → Nat → Nat
  | 0, _ => 0
  | i + 1, c => gm_mk lo hi i c ||| (if lo i = c ∨ hi i = c then 2 ^ i else 0)
theorem gm_mk_tb (lo hi : Nat → Nat) (n c j : Nat) : (gm_mk lo hi n c).testBit j = decide (j < n ∧ (lo j = c ∨ hi j = c)) := by
  induction n with
  | zero => simp [gm_mk]
  | succ n ih =>
    unfold gm_mk
    rw [Nat.testBit_or, ih]
    by_cases hj : j = n
    · subst hj
      by_cases h : lo j = c ∨ hi j = c
      · rw [if_pos h]
        simp [h, Nat.testBit_two_pow]
      · rw [if_neg h]
        simp [h]
    · have h2 : (if lo n = c ∨ hi n = c then 2 ^ n else 0).testBit j = false := by
        split
        · rw [Nat.testBit_two_pow]
          simp
          omega
        · simp
      rw [h2, Bool.or_false]
      by_cases h : lo j = c ∨ hi j = c
      · simp [h]
        omega
      · simp [h]
theorem gm_mk_lt (lo hi : Nat → Nat) (n c : Nat) : gm_mk lo hi n c < 2 ^ n := bq_lt_of (fun j hj => by
  rw [gm_mk_tb]
  simp
  omega)
theorem gm_mk_congr {lo hi lo' hi' : Nat → Nat} {n : Nat} (h1 : ∀ i, i < n → lo' i = lo i) (h2 : ∀ i, i < n → hi' i = hi i) (c : Nat) : gm_mk lo' hi' n c = gm_mk lo hi n c := by
  apply Nat.eq_of_testBit_eq
  intro j
  rw [gm_mk_tb, gm_mk_tb]
  by_cases hj : j < n
  · rw [h1 j hj, h2 j hj]
  · simp [hj]
/-- how many coins the cut of string i takes, in the position p -/
def gm_tk (lo hi : Nat → Nat) (n p i : Nat) : Nat := (if p &&& gm_mk lo hi n (lo i) = 2 ^ i then 1 else 0) + (if hi i = 8 then 0 else if p &&& gm_mk lo hi n (hi i) = 2 ^ i then 1 else 0)
/-- that no other string holds the coin, said of the rest -/
theorem gm_only {lo hi : Nat → Nat} {n p i c : Nat} (hi' : i < n) (hp : p.testBit i = true) (hc : lo i = c ∨ hi i = c) : gm_mk lo hi n c &&& bq_wo p i = 0 ↔ p &&& gm_mk lo hi n c = 2 ^ i := by
  constructor
  · intro h
    apply Nat.eq_of_testBit_eq
    intro j
    have h1 : (gm_mk lo hi n c &&& bq_wo p i).testBit j = false := by rw [h]; simp
    rw [Nat.testBit_and, bq_wo_tb] at h1
    rw [Nat.testBit_and, Nat.testBit_two_pow]
    by_cases hj : i = j
    · subst hj
      rw [hp, gm_mk_tb]
      simp [hi', hc]
    · simp only [hj, decide_false, Bool.not_false, Bool.and_true] at h1 ⊢
      rw [Bool.and_comm]
      exact h1
  · intro h
    apply Nat.eq_of_testBit_eq
    intro j
    have h1 : (p &&& gm_mk lo hi n c).testBit j = (2 ^ i).testBit j := by rw [h]
    rw [Nat.testBit_and, Nat.testBit_two_pow] at h1
    rw [Nat.testBit_and, bq_wo_tb]
    by_cases hj : i = j
    · subst hj
      simp
    · simp only [hj, decide_false, Bool.not_false, Bool.and_true] at h1 ⊢
      rw [Bool.and_comm, h1]
      simp
/-! a table that is filled from 0 up -/
def gm_tb (F : (Nat → Int) → Nat → Int) : Nat → Nat → Int
  | 0 => fun _ => 0
  | k + 1 => fun q => if q = k then F (gm_tb F k) k else gm_tb F k q
def gm_vl (F : (Nat → Int) → Nat → Int) (p : Nat) : Int := F (gm_tb F p) p
theorem gm_tb_lt (F : (Nat → Int) → Nat → Int) (k q : Nat) (h : q < k) : gm_tb F k q = gm_vl F q := by
  induction k with
  | zero => omega
  | succ k ih =>
    unfold gm_tb
    by_cases hq : q = k
    · simp only [hq, if_pos rfl]
      rfl
    · simp only [hq, if_false]
      exact ih (by omega)
/-- F looks at lesser places alone -/
def gm_loc (F : (Nat → Int) → Nat → Int) : Prop := ∀ (f g : Nat → Int) (p : Nat), (∀ q, q < p → f q = g q) → F f p = F g p
theorem gm_vl_eq {F : (Nat → Int) → Nat → Int} (hF : gm_loc F) (p : Nat) : gm_vl F p = F (gm_vl F) p := hF _ _ p (fun q hq => gm_tb_lt F p q hq)
/-! margins -/
/-- what the cut of i gives -/
def gm_gv (lo hi : Nat → Nat) (n : Nat) (f : Nat → Int) (p i : Nat) : Int := if 0 < gm_tk lo hi n p i then (gm_tk lo hi n p i : Int) + f (bq_wo p i) else - f (bq_wo p i)
def gm_mx (lo hi : Nat → Nat) (n : Nat) (f : Nat → Int) (p : Nat) : Nat → Int
  | 0 => -8
  | i + 1 => if p.testBit i = true then (if gm_mx lo hi n f p i < gm_gv lo hi n f p i then gm_gv lo hi n f p i else gm_mx lo hi n f p i) else gm_mx lo hi n f p i
def gm_F (lo hi : Nat → Nat) (n : Nat) (f : Nat → Int) (p : Nat) : Int := if p = 0 then 0 else gm_mx lo hi n f p n
def gm_mg (lo hi : Nat → Nat) (n p : Nat) : Int := gm_vl (gm_F lo hi n) p
theorem gm_gv_loc {lo hi : Nat → Nat} {n : Nat} {f g : Nat → Int} {p i : Nat} (h : ∀ q, q < p → f q = g q) (hp : p.testBit i = true) : gm_gv lo hi n f p i = gm_gv lo hi n g p i := by
  unfold gm_gv
  rw [h _ (bq_wo_lt hp)]
theorem gm_mx_loc {lo hi : Nat → Nat} {n : Nat} {f g : Nat → Int} {p : Nat} (h : ∀ q, q < p → f q = g q) (k : Nat) : gm_mx lo hi n f p k = gm_mx lo hi n g p k := by
  induction k with
  | zero => rfl
  | succ k ih =>
    unfold gm_mx
    by_cases hb : p.testBit k = true
    · rw [if_pos hb, if_pos hb, ih, gm_gv_loc h hb]
    · rw [if_neg hb, if_neg hb, ih]
theorem gm_F_loc (lo hi : Nat → Nat) (n : Nat) : gm_loc (gm_F lo hi n) := by
  intro f g p h
  unfold gm_F
  rw [gm_mx_loc h]
theorem gm_mg_eq (lo hi : Nat → Nat) (n p : Nat) : gm_mg lo hi n p = gm_F lo hi n (gm_mg lo hi n) p := gm_vl_eq (gm_F_loc lo hi n) p
/-- the coins that hang -/
def gm_ind (b : Bool) : Nat := if b then 1 else 0
def gm_hc (lo hi : Nat → Nat) (n p c : Nat) : Nat := if p &&& gm_mk lo hi n c = 0 then 0 else 1
def gm_sum (f : Nat → Nat) : Nat → Nat
  | 0 => 0
  | k + 1 => gm_sum f k + f k
def gm_hg (lo hi : Nat → Nat) (n p : Nat) : Nat := gm_sum (gm_hc lo hi n p) 8
theorem gm_sum_le {f : Nat → Nat} (h : ∀ c, f c ≤ 1) (k : Nat) : gm_sum f k ≤ k := by
  induction k with
  | zero => exact Nat.le_refl _
  | succ k ih =>
    unfold gm_sum
    have := h k
    omega
theorem gm_sum_add {f g h : Nat → Nat} (e : ∀ c, f c = g c + h c) (k : Nat) : gm_sum f k = gm_sum g k + gm_sum h k := by
  induction k with
  | zero => rfl
  | succ k ih =>
    unfold gm_sum
    rw [ih, e k]
    omega
theorem gm_sum_one {d v k : Nat} : gm_sum (fun c => if c = d then v else 0) k = if d < k then v else 0 := by
  induction k with
  | zero => rfl
  | succ k ih =>
    unfold gm_sum
    rw [ih]
    by_cases h1 : d < k
    · rw [if_pos h1]
      show v + (if k = d then v else 0) = if d < k + 1 then v else 0
      rw [if_neg (show ¬ k = d by omega), if_pos (show d < k + 1 by omega), Nat.add_zero]
    · rw [if_neg h1]
      show 0 + (if k = d then v else 0) = if d < k + 1 then v else 0
      by_cases h2 : k = d
      · rw [if_pos h2, if_pos (show d < k + 1 by omega), Nat.zero_add]
      · rw [if_neg h2, if_neg (show ¬ d < k + 1 by omega)]
theorem gm_hg_le (lo hi : Nat → Nat) (n p : Nat) : gm_hg lo hi n p ≤ 8 := gm_sum_le (fun c => by unfold gm_hc; split <;> omega) 8
/-- a coin hangs before the cut if it hangs behind it, or if the cut takes it -/
theorem gm_hc_cut {lo hi : Nat → Nat} {n p i c : Nat} (hin : i < n) (hp : p.testBit i = true) : gm_hc lo hi n p c = gm_hc lo hi n (bq_wo p i) c + (if (lo i = c ∨ hi i = c) ∧ p &&& gm_mk lo hi n c = 2 ^ i then 1 else 0) := by
  unfold gm_hc
  by_cases hc : lo i = c ∨ hi i = c
  · have h1 := gm_only (lo := lo) (hi := hi) hin hp hc
    rw [Nat.and_comm] at h1
    have h2 : ¬ p &&& gm_mk lo hi n c = 0 := by
      intro h
      have h3 : (p &&& gm_mk lo hi n c).testBit i = false := by rw [h]; simp
      rw [Nat.testBit_and, hp, gm_mk_tb] at h3
      simp [hin, hc] at h3
    rw [if_neg h2]
    by_cases h4 : p &&& gm_mk lo hi n c = 2 ^ i
    · rw [if_pos (h1.mpr h4), if_pos ⟨hc, h4⟩]
    · rw [if_neg (fun z => h4 (h1.mp z)), if_neg (fun z => h4 z.2)]
  · rw [if_neg (show ¬ ((lo i = c ∨ hi i = c) ∧ p &&& gm_mk lo hi n c = 2 ^ i) from fun z => hc z.1), Nat.add_zero]
    have h1 : bq_wo p i &&& gm_mk lo hi n c = p &&& gm_mk lo hi n c := by
      apply Nat.eq_of_testBit_eq
      intro j
      rw [Nat.testBit_and, Nat.testBit_and, bq_wo_tb, gm_mk_tb]
      by_cases hj : i = j
      · subst hj
        simp [hc]
      · simp [hj]
    rw [h1]
theorem gm_hg_cut {lo hi : Nat → Nat} {n p i : Nat} (hin : i < n) (hp : p.testBit i = true) (h1 : lo i < 8) (h2 : hi i ≤ 8) (h3 : lo i ≠ hi i) : gm_hg lo hi n p = gm_hg lo hi n (bq_wo p i) + gm_tk lo hi n p i := by
  have e1 : gm_hg lo hi n p = gm_hg lo hi n (bq_wo p i) + gm_sum (fun c => if (lo i = c ∨ hi i = c) ∧ p &&& gm_mk lo hi n c = 2 ^ i then 1 else 0) 8 := gm_sum_add (fun c => gm_hc_cut hin hp) 8
  have e2 : gm_sum (fun c => if (lo i = c ∨ hi i = c) ∧ p &&& gm_mk lo hi n c = 2 ^ i then 1 else 0) 8 = gm_sum (fun c => if c = lo i then (if p &&& gm_mk lo hi n (lo i) = 2 ^ i then 1 else 0) else 0) 8 + gm_sum (fun c => if c = hi i then (if p &&& gm_mk lo hi n (hi i) = 2 ^ i then 1 else 0) else 0) 8 := by
    refine gm_sum_add (fun c => ?_) 8
    by_cases ha : c = lo i
    · subst ha
      rw [if_neg h3, if_pos rfl]
      by_cases hb : p &&& gm_mk lo hi n (lo i) = 2 ^ i
      · rw [if_pos hb, if_pos ⟨Or.inl rfl, hb⟩]
      · rw [if_neg hb, if_neg (fun z => hb z.2)]
    · rw [if_neg ha]
      by_cases hb : c = hi i
      · subst hb
        rw [if_pos rfl]
        by_cases hd : p &&& gm_mk lo hi n (hi i) = 2 ^ i
        · rw [if_pos hd, if_pos ⟨Or.inr rfl, hd⟩]
        · rw [if_neg hd, if_neg (fun z => hd z.2)]
      · rw [if_neg hb, if_neg (fun z => by rcases z.1 with z | z; exact ha z.symm; exact hb z.symm)]
  rw [e1, e2, gm_sum_one, gm_sum_one]
  unfold gm_tk
  rw [if_pos h1]
  by_cases h8 : hi i = 8
  · rw [if_pos h8, if_neg (show ¬ hi i < 8 by omega)]
  · rw [if_neg h8, if_pos (show hi i < 8 by omega)]
theorem gm_mx_ge {lo hi : Nat → Nat} {n : Nat} {f : Nat → Int} {p : Nat} : ∀ (k i : Nat), i < k → p.testBit i = true → gm_gv lo hi n f p i ≤ gm_mx lo hi n f p k := by
  intro k
  induction k with
  | zero => intro i h; omega
  | succ k ih =>
    intro i h hb
    unfold gm_mx
    by_cases hk : i = k
    · subst hk
      rw [if_pos hb]
      split <;> omega
    · have h1 := ih i (by omega) hb
      split
      · split <;> omega
      · exact h1
theorem gm_mx_le {lo hi : Nat → Nat} {n : Nat} {f : Nat → Int} {p : Nat} {b : Int} (hb : -8 ≤ b) : ∀ k : Nat, (∀ i, i < k → p.testBit i = true → gm_gv lo hi n f p i ≤ b) → gm_mx lo hi n f p k ≤ b := by
  intro k
  induction k with
  | zero => intro _; exact hb
  | succ k ih =>
    intro h
    have h1 := ih (fun i hi => h i (by omega))
    unfold gm_mx
    split
    · rename_i h2
      have h3 := h k (by omega) h2
      split <;> omega
    · exact h1
theorem gm_bit_of {p n : Nat} (h0 : p ≠ 0) (hp : p < 2 ^ n) : ∃ i, i < n ∧ p.testBit i = true := by
  obtain ⟨i, hi⟩ := Nat.exists_testBit_of_ne_zero h0
  refine ⟨i, ?_, hi⟩
  rcases Nat.lt_or_ge i n with h | h
  · exact h
  · rw [bq_of_lt hp h] at hi
    cases hi
/-- the strings are right -/
def gm_ok (lo hi : Nat → Nat) (n : Nat) : Prop := n ≤ 12 ∧ ∀ i, i < n → lo i < 8 ∧ hi i ≤ 8 ∧ lo i < hi i
theorem gm_mg_bd {lo hi : Nat → Nat} {n : Nat} (ok : gm_ok lo hi n) (p : Nat) (hp : p < 2 ^ n) : -(gm_hg lo hi n p : Int) ≤ gm_mg lo hi n p ∧ gm_mg lo hi n p ≤ gm_hg lo hi n p := by
  induction p using Nat.strongRecOn with
  | _ p ih =>
    rw [gm_mg_eq]
    unfold gm_F
    by_cases h0 : p = 0
    · rw [if_pos h0]
      omega
    · rw [if_neg h0]
      have hg : ∀ i, i < n → p.testBit i = true → -(gm_hg lo hi n p : Int) ≤ gm_gv lo hi n (gm_mg lo hi n) p i ∧ gm_gv lo hi n (gm_mg lo hi n) p i ≤ gm_hg lo hi n p := by
        intro i hz hb
        have hlt := bq_wo_lt hb
        obtain ⟨b1, b2⟩ := ih _ hlt (by omega)
        obtain ⟨o1, o2, o3⟩ := ok.2 i hz
        have hc := gm_hg_cut (lo := lo) (hi := hi) hz hb o1 o2 (Nat.ne_of_lt o3)
        unfold gm_gv
        split <;> omega
      obtain ⟨i, hz, hb⟩ := gm_bit_of h0 hp
      have h1 := gm_mx_ge (lo := lo) (hi := hi) (n := n) (f := gm_mg lo hi n) n i hz hb
      have h2 := gm_mx_le (lo := lo) (hi := hi) (n := n) (f := gm_mg lo hi n) (p := p) (b := gm_hg lo hi n p) (by omega) n (fun i hz hb => (hg i hz hb).2)
      have h3 := (hg i hz hb).1
      omega
theorem gm_mg_8 {lo hi : Nat → Nat} {n : Nat} (ok : gm_ok lo hi n) {p : Nat} (hp : p < 2 ^ n) : -8 ≤ gm_mg lo hi n p ∧ gm_mg lo hi n p ≤ 8 := by
  obtain ⟨h1, h2⟩ := gm_mg_bd ok p hp
  have := gm_hg_le lo hi n p
  omega
theorem gm_tk_2 (lo hi : Nat → Nat) (n p i : Nat) : gm_tk lo hi n p i ≤ 2 := by
  unfold gm_tk
  split <;> split <;> first | omega | (split <;> omega)
theorem gm_gv_8 {lo hi : Nat → Nat} {n : Nat} (ok : gm_ok lo hi n) {p i : Nat} (hp : p < 2 ^ n) (hi' : i < n) (hb : p.testBit i = true) : -8 ≤ gm_gv lo hi n (gm_mg lo hi n) p i ∧ gm_gv lo hi n (gm_mg lo hi n) p i ≤ 8 := by
  have hlt := bq_wo_lt hb
  obtain ⟨b1, b2⟩ := gm_mg_bd ok (bq_wo p i) (by omega)
  obtain ⟨o1, o2, o3⟩ := ok.2 i hi'
  have hc := gm_hg_cut (lo := lo) (hi := hi) hi' hb o1 o2 (Nat.ne_of_lt o3)
  have h8 := gm_hg_le lo hi n p
  unfold gm_gv
  split <;> omega
/-- the same by the other way: the first, then whatever is greater -/
def gm_mx2 (lo hi : Nat → Nat) (n : Nat) (f : Nat → Int) (p : Nat) : Nat → Option Int
  | 0 => none
  | i + 1 => if p.testBit i = true then (match gm_mx2 lo hi n f p i with
    | none => some (gm_gv lo hi n f p i)
    | some b => some (if b < gm_gv lo hi n f p i then gm_gv lo hi n f p i else b)) else gm_mx2 lo hi n f p i
theorem gm_mx2_eq {lo hi : Nat → Nat} {n : Nat} {f : Nat → Int} {p : Nat} : ∀ k : Nat, (∀ i, i < k → p.testBit i = true → -8 ≤ gm_gv lo hi n f p i) → (gm_mx2 lo hi n f p k = none ∧ (∀ i, i < k → p.testBit i = false) ∧ gm_mx lo hi n f p k = -8) ∨ gm_mx2 lo hi n f p k = some (gm_mx lo hi n f p k) := by
  intro k
  induction k with
  | zero => intro _; exact Or.inl ⟨rfl, fun i h => by omega, rfl⟩
  | succ k ih =>
    intro h
    have h1 := ih (fun i hi => h i (by omega))
    unfold gm_mx2 gm_mx
    by_cases hb : p.testBit k = true
    · rw [if_pos hb, if_pos hb]
      have h2 := h k (by omega) hb
      rcases h1 with ⟨e1, -, e3⟩ | e1
      · rw [e1, e3]
        refine Or.inr ?_
        simp only
        congr 1
        split <;> omega
      · rw [e1]
        exact Or.inr rfl
    · rw [if_neg hb, if_neg hb]
      rcases h1 with ⟨e1, e2, e3⟩ | e1
      · refine Or.inl ⟨e1, fun i hi => ?_, e3⟩
        by_cases hk : i = k
        · subst hk
          simpa using hb
        · exact e2 i (by omega)
      · exact Or.inr e1
theorem gm_mx2_mg {lo hi : Nat → Nat} {n : Nat} (ok : gm_ok lo hi n) {p : Nat} (hp : p < 2 ^ n) : (gm_mx2 lo hi n (gm_mg lo hi n) p n).getD 0 = gm_mg lo hi n p := by
  rw [gm_mg_eq]
  unfold gm_F
  rcases gm_mx2_eq (lo := lo) (hi := hi) (n := n) (f := gm_mg lo hi n) (p := p) n (fun i hi hb => (gm_gv_8 ok hp hi hb).1) with ⟨e1, e2, -⟩ | e1
  · have h0 : p = 0 := by
      rcases Nat.eq_zero_or_pos p with h | h
      · exact h
      · obtain ⟨i, hi, hb⟩ := gm_bit_of (by omega) hp
        rw [e2 i hi] at hb
        cases hb
    rw [e1, if_pos h0]
    rfl
  · by_cases h0 : p = 0
    · subst h0
      have h1 : ∀ k, gm_mx2 lo hi n (gm_mg lo hi n) 0 k = none := by
        intro k
        induction k with
        | zero => rfl
        | succ k ih => unfold gm_mx2; simp [ih]
      rw [h1, if_pos rfl]
      rfl
    · rw [e1, if_neg h0]
      rfl
end
section
/-! nim values -/
/-- the first place with b, from i on, k places at the most -/
def gm_fst (b : Nat → Bool) : Nat → Nat → Nat
  | 0, i => i
  | k + 1, i => if b i = true then i else gm_fst b k (i + 1)
theorem gm_fst_spec (b : Nat → Bool) : ∀ (k i : Nat), i ≤ gm_fst b k i ∧ gm_fst b k i ≤ i + k ∧ (gm_fst b k i < i + k → b (gm_fst b k i) = true) ∧ ∀ j, i ≤ j → j < gm_fst b k i → b j = false := by
  intro k
  induction k with
  | zero => intro i; exact ⟨Nat.le_refl _, Nat.le_refl _, fun h => absurd h (Nat.lt_irrefl _), fun j h1 h2 => absurd h2 (by unfold gm_fst; omega)⟩
  | succ k ih =>
    intro i
    unfold gm_fst
    by_cases hb : b i = true
    · rw [if_pos hb]
      exact ⟨Nat.le_refl _, by omega, fun _ => hb, fun j h1 h2 => by omega⟩
    · rw [if_neg hb]
      obtain ⟨h1, h2, h3, h4⟩ := ih (i + 1)
      refine ⟨by omega, by omega, fun h => h3 (by omega), fun j h5 h6 => ?_⟩
      by_cases hj : j = i
      · subst hj
        simpa using hb
      · exact h4 j (by omega) h6
def gm_least (b : Nat → Bool) : Nat := gm_fst b 12 0
theorem gm_least_le (b : Nat → Bool) : gm_least b ≤ 12 := by
  have := (gm_fst_spec b 12 0).2.1
  unfold gm_least
  omega
theorem gm_least_is {b : Nat → Bool} (h : gm_least b < 12) : b (gm_least b) = true := (gm_fst_spec b 12 0).2.2.1 (by unfold gm_least at h; omega)
theorem gm_least_no {b : Nat → Bool} {j : Nat} (h : j < gm_least b) : b j = false := (gm_fst_spec b 12 0).2.2.2 j (Nat.zero_le _) h
theorem gm_least_le_of {b : Nat → Bool} {j : Nat} (h : b j = true) : gm_least b ≤ j := by
  rcases Nat.lt_or_ge j (gm_least b) with h1 | h1
  · rw [gm_least_no h1] at h
    cases h
  · exact h1
theorem gm_least_eq {b : Nat → Bool} {k : Nat} (hk : k ≤ 12) (h1 : k < 12 → b k = true) (h2 : ∀ j, j < k → b j = false) : gm_least b = k := by
  rcases Nat.lt_trichotomy (gm_least b) k with h | h | h
  · have h3 := gm_least_is (b := b) (by omega)
    rw [h2 _ h] at h3
    cases h3
  · exact h
  · have h3 := gm_least_no h
    have h4 := gm_least_le b
    rw [h1 (by omega)] at h3
    cases h3
theorem gm_fst_congr {b c : Nat → Bool} : ∀ (k i : Nat), (∀ j, i ≤ j → j < i + k → b j = c j) → gm_fst b k i = gm_fst c k i := by
  intro k
  induction k with
  | zero => intro i _; rfl
  | succ k ih =>
    intro i h
    unfold gm_fst
    rw [h i (Nat.le_refl _) (by omega), ih (i + 1) (fun j h1 h2 => h j (by omega) (by omega))]
theorem gm_least_congr {b c : Nat → Bool} (h : ∀ j, j < 12 → b j = c j) : gm_least b = gm_least c := gm_fst_congr 12 0 (fun j _ h2 => h j (by omega))
/-- how many strings -/
def gm_pc (p : Nat) : Nat := gm_sum (fun j => if p.testBit j = true then 1 else 0) 12
theorem gm_pc_le (p : Nat) : gm_pc p ≤ 12 := gm_sum_le (fun c => by show (if _ then 1 else 0) ≤ 1; split <;> omega) 12
theorem gm_pc_wo {p i : Nat} (hi : i < 12) (hp : p.testBit i = true) : gm_pc p = gm_pc (bq_wo p i) + 1 := by
  have h := gm_sum_add (f := fun j => if p.testBit j = true then 1 else 0) (g := fun j => if (bq_wo p i).testBit j = true then 1 else 0) (h := fun c => if c = i then 1 else 0) (fun c => by
    show (if p.testBit c = true then 1 else 0) = (if (bq_wo p i).testBit c = true then 1 else 0) + (if c = i then 1 else 0)
    rw [bq_wo_tb]
    by_cases hc : c = i
    · subst hc
      rw [hp]
      simp
    · have hc' : ¬ i = c := fun e => hc e.symm
      simp [hc, hc']) 12
  rw [gm_sum_one, if_pos hi] at h
  exact h
/-- quiet values, taking values, whether a cut that takes leaves a loony position: of the first k strings -/
def gm_st (lo hi : Nat → Nat) (n : Nat) (f : Nat → Int) (p : Nat) : Nat → Nat × Nat × Bool
  | 0 => (0, 0, false)
  | i + 1 => if p.testBit i = true then
      (if f (bq_wo p i) = -1 then ((gm_st lo hi n f p i).1, (gm_st lo hi n f p i).2.1, (gm_st lo hi n f p i).2.2 || decide (0 < gm_tk lo hi n p i))
      else if 0 < gm_tk lo hi n p i then ((gm_st lo hi n f p i).1, (gm_st lo hi n f p i).2.1 ||| 2 ^ (f (bq_wo p i)).toNat, (gm_st lo hi n f p i).2.2)
      else ((gm_st lo hi n f p i).1 ||| 2 ^ (f (bq_wo p i)).toNat, (gm_st lo hi n f p i).2.1, (gm_st lo hi n f p i).2.2))
    else gm_st lo hi n f p i
def gm_out (q : Nat × Nat × Bool) : Int := if q.2.2 = true then -1 else if q.2.1 = 0 then (gm_least (fun i => !q.1.testBit i) : Int)
  else if 1 < gm_pc q.2.1 ∨ q.2.1 &&& q.1 ≠ 0 then -1 else (gm_least (fun i => q.2.1.testBit i) : Int)
def gm_NF (lo hi : Nat → Nat) (n : Nat) (f : Nat → Int) (p : Nat) : Int := gm_out (gm_st lo hi n f p n)
def gm_nm (lo hi : Nat → Nat) (n p : Nat) : Int := gm_vl (gm_NF lo hi n) p
theorem gm_st_loc {lo hi : Nat → Nat} {n : Nat} {f g : Nat → Int} {p : Nat} (h : ∀ q, q < p → f q = g q) (k : Nat) : gm_st lo hi n f p k = gm_st lo hi n g p k := by
  induction k with
  | zero => rfl
  | succ k ih =>
    unfold gm_st
    by_cases hb : p.testBit k = true
    · rw [if_pos hb, if_pos hb, ih, h _ (bq_wo_lt hb)]
    · rw [if_neg hb, if_neg hb, ih]
theorem gm_NF_loc (lo hi : Nat → Nat) (n : Nat) : gm_loc (gm_NF lo hi n) := by
  intro f g p h
  unfold gm_NF
  rw [gm_st_loc h]
theorem gm_nm_eq (lo hi : Nat → Nat) (n p : Nat) : gm_nm lo hi n p = gm_NF lo hi n (gm_nm lo hi n) p := gm_vl_eq (gm_NF_loc lo hi n) p
theorem gm_or_lt {a b k : Nat} (ha : a < 2 ^ k) (hb : b < 2 ^ k) : a ||| b < 2 ^ k := Nat.or_lt_two_pow ha hb
theorem gm_st_lt {lo hi : Nat → Nat} {n : Nat} {f : Nat → Int} {p m : Nat} : ∀ k : Nat, (∀ i, i < k → p.testBit i = true → f (bq_wo p i) < m) → (∀ i, i < k → p.testBit i = true → -1 ≤ f (bq_wo p i)) → (gm_st lo hi n f p k).1 < 2 ^ m ∧ (gm_st lo hi n f p k).2.1 < 2 ^ m := by
  intro k
  induction k with
  | zero => intro _ _; exact ⟨Nat.two_pow_pos m, Nat.two_pow_pos m⟩
  | succ k ih =>
    intro h h0
    obtain ⟨i1, i2⟩ := ih (fun i hi => h i (by omega)) (fun i hi => h0 i (by omega))
    unfold gm_st
    by_cases hb : p.testBit k = true
    · rw [if_pos hb]
      have h1 := h k (by omega) hb
      have h2 := h0 k (by omega) hb
      split
      · exact ⟨i1, i2⟩
      · rename_i hm
        have h3 : 2 ^ (f (bq_wo p k)).toNat < 2 ^ m := Nat.pow_lt_pow_right (by decide) (by omega)
        split
        · exact ⟨i1, gm_or_lt i2 h3⟩
        · exact ⟨gm_or_lt i1 h3, i2⟩
    · rw [if_neg hb]
      exact ⟨i1, i2⟩
theorem gm_nm_bd {lo hi : Nat → Nat} {n : Nat} (hn : n ≤ 12) (p : Nat) (hp : p < 2 ^ n) : -1 ≤ gm_nm lo hi n p ∧ gm_nm lo hi n p ≤ gm_pc p := by
  induction p using Nat.strongRecOn with
  | _ p ih =>
    have hv : ∀ i, i < n → p.testBit i = true → -1 ≤ gm_nm lo hi n (bq_wo p i) ∧ gm_nm lo hi n (bq_wo p i) < gm_pc p := by
      intro i hi hb
      have hlt := bq_wo_lt hb
      obtain ⟨h1, h2⟩ := ih _ hlt (by omega)
      have h3 := gm_pc_wo (by omega : i < 12) hb
      omega
    obtain ⟨q1, q2⟩ := gm_st_lt (lo := lo) (hi := hi) (n := n) (f := gm_nm lo hi n) (p := p) (m := gm_pc p) n (fun i hi hb => (hv i hi hb).2) (fun i hi hb => (hv i hi hb).1)
    rw [gm_nm_eq]
    unfold gm_NF gm_out
    split
    · omega
    · split
      · refine ⟨by omega, ?_⟩
        have h1 : gm_least (fun i => !(gm_st lo hi n (gm_nm lo hi n) p n).1.testBit i) ≤ gm_pc p := gm_least_le_of (by
          rw [bq_of_lt q1 (Nat.le_refl _)]
          rfl)
        omega
      · rename_i h0
        split
        · omega
        · refine ⟨by omega, ?_⟩
          obtain ⟨j, hj, hb⟩ := gm_bit_of h0 q2
          have h1 : gm_least (fun i => (gm_st lo hi n (gm_nm lo hi n) p n).2.1.testBit i) ≤ j := gm_least_le_of hb
          omega
theorem gm_nm_12 {lo hi : Nat → Nat} {n : Nat} (hn : n ≤ 12) {p : Nat} (hp : p < 2 ^ n) : -1 ≤ gm_nm lo hi n p ∧ gm_nm lo hi n p ≤ 12 := by
  have h := gm_nm_bd (lo := lo) (hi := hi) hn p hp
  have := gm_pc_le p
  omega
theorem gm_nm_11 {lo hi : Nat → Nat} {n : Nat} (hn : n ≤ 12) {p i : Nat} (hp : p < 2 ^ n) (hi' : i < n) (hb : p.testBit i = true) : -1 ≤ gm_nm lo hi n (bq_wo p i) ∧ gm_nm lo hi n (bq_wo p i) ≤ 11 := by
  have hlt := bq_wo_lt hb
  have h := gm_nm_bd (lo := lo) (hi := hi) hn (bq_wo p i) (by omega)
  have h1 := gm_pc_wo (by omega : i < 12) hb
  have := gm_pc_le p
  omega
/-- the masks stay under 4096 -/
theorem gm_st_12 {lo hi : Nat → Nat} {n : Nat} (hn : n ≤ 12) {p : Nat} (hp : p < 2 ^ n) {k : Nat} (hk : k ≤ n) : (gm_st lo hi n (gm_nm lo hi n) p k).1 < 4096 ∧ (gm_st lo hi n (gm_nm lo hi n) p k).2.1 < 4096 :=
  gm_st_lt (m := 12) k (fun i hz hb => by have := gm_nm_11 (lo := lo) (hi := hi) hn hp (by omega : i < n) hb; omega) (fun i hi hb => (gm_nm_11 hn hp (by omega : i < n) hb).1)
/-- whether a cut takes: of the first k strings -/
def gm_tks (lo hi : Nat → Nat) (n p : Nat) : Nat → Bool
  | 0 => false
  | i + 1 => gm_tks lo hi n p i || (p.testBit i && decide (0 < gm_tk lo hi n p i))
theorem gm_tks_eq {lo hi : Nat → Nat} {n : Nat} {f : Nat → Int} {p : Nat} (k : Nat) : gm_tks lo hi n p k = false ↔ (gm_st lo hi n f p k).2.1 = 0 ∧ (gm_st lo hi n f p k).2.2 = false := by
  induction k with
  | zero => simp [gm_tks, gm_st]
  | succ k ih =>
    unfold gm_tks gm_st
    by_cases hb : p.testBit k = true
    · rw [if_pos hb, hb]
      by_cases h1 : 0 < gm_tk lo hi n p k
      · split
        · simp [h1]
        · have h2 : (gm_st lo hi n f p k).2.1 ||| 2 ^ (f (bq_wo p k)).toNat ≠ 0 := by
            intro h
            have h3 : ((gm_st lo hi n f p k).2.1 ||| 2 ^ (f (bq_wo p k)).toNat).testBit (f (bq_wo p k)).toNat = false := by rw [h]; simp
            rw [Nat.testBit_or, Nat.testBit_two_pow] at h3
            simp at h3
          simp [h1, h2]
      · split
        · simp [h1, ih]
        · simp [h1, ih]
    · have hb' : p.testBit k = false := by simpa using hb
      rw [if_neg hb, hb']
      simp [ih]
end
section
/-! groups: the least coin of a group leads it; 8: no group -/
def gm_two (lo hi : Nat → Nat) (n p c : Nat) : Prop := c < 8 ∧ gm_pc (p &&& gm_mk lo hi n c) = 2
def gm_uni (L : Nat → Nat) (x y : Nat) : Nat → Nat := fun c => if x = 8 ∨ y = 8 then L c else if L c = max x y then min x y else L c
def gm_L0 (lo hi : Nat → Nat) (n p : Nat) : Nat → Nat := fun c => if c < 8 then (if gm_pc (p &&& gm_mk lo hi n c) = 2 then c else 8) else 8
def gm_L (lo hi : Nat → Nat) (n p : Nat) : Nat → Nat → Nat
  | 0 => gm_L0 lo hi n p
  | i + 1 => if p.testBit i = true then gm_uni (gm_L lo hi n p i) (gm_L lo hi n p i (lo i)) (gm_L lo hi n p i (hi i)) else gm_L lo hi n p i
/-- two coins of groups, joined by a string below k -/
def gm_adj (lo hi : Nat → Nat) (p k a b : Nat) : Prop := ∃ i, i < k ∧ p.testBit i = true ∧ ((lo i = a ∧ hi i = b) ∨ (lo i = b ∧ hi i = a))
/-- what holds of the leaders when k strings are looked at -/
def gm_LI (lo hi : Nat → Nat) (n p k : Nat) (L : Nat → Nat) : Prop :=
  (∀ c, L c = 8 ↔ ¬ gm_two lo hi n p c) ∧ (∀ c, gm_two lo hi n p c → L c ≤ c ∧ L c < 8 ∧ L (L c) = L c) ∧
  (∀ a b, gm_adj lo hi p k a b → gm_two lo hi n p a → gm_two lo hi n p b → L a = L b) ∧
  (∀ M : Nat → Prop, (∀ a b, gm_adj lo hi p k a b → gm_two lo hi n p a → gm_two lo hi n p b → M b → M a) → ∀ a b, gm_two lo hi n p a → gm_two lo hi n p b → L a = L b → M b → M a)
theorem gm_adj_sym {lo hi : Nat → Nat} {p k a b : Nat} (h : gm_adj lo hi p k a b) : gm_adj lo hi p k b a := by
  obtain ⟨i, h1, h2, h3⟩ := h
  exact ⟨i, h1, h2, h3.symm⟩
theorem gm_LI0 (lo hi : Nat → Nat) (n p : Nat) : gm_LI lo hi n p 0 (gm_L0 lo hi n p) := by
  have hL : ∀ c, gm_two lo hi n p c → gm_L0 lo hi n p c = c := fun c hc => by
    unfold gm_L0
    rw [if_pos hc.1, if_pos hc.2]
  refine ⟨fun c => ⟨fun h hc => ?_, fun h => ?_⟩, fun c hc => ?_, fun a b h => ?_, fun M _ a b ha hb h hm => ?_⟩
  · rw [hL c hc] at h
    have := hc.1
    omega
  · unfold gm_L0
    by_cases h8 : c < 8
    · rw [if_pos h8, if_neg (fun h2 => h ⟨h8, h2⟩)]
    · rw [if_neg h8]
  · rw [hL c hc]
    exact ⟨Nat.le_refl _, hc.1, hL c hc⟩
  · obtain ⟨i, h1, -⟩ := h
    omega
  · rw [hL a ha, hL b hb] at h
    subst h
    exact hm
theorem gm_LI_uni {lo hi : Nat → Nat} {n p k : Nat} {L : Nat → Nat} (h : gm_LI lo hi n p k L) (hb : p.testBit k = true) : gm_LI lo hi n p (k + 1) (gm_uni L (L (lo k)) (L (hi k))) := by
  obtain ⟨h1, h2, h3, h4⟩ := h
  have adjS : ∀ a b, gm_adj lo hi p (k + 1) a b → gm_adj lo hi p k a b ∨ ((lo k = a ∧ hi k = b) ∨ (lo k = b ∧ hi k = a)) := by
    rintro a b ⟨i, q1, q2, q3⟩
    by_cases hi' : i = k
    · subst hi'
      exact Or.inr q3
    · exact Or.inl ⟨i, by omega, q2, q3⟩
  have adjU : ∀ a b, gm_adj lo hi p k a b → gm_adj lo hi p (k + 1) a b := by
    rintro a b ⟨i, q1, q2, q3⟩
    exact ⟨i, by omega, q2, q3⟩
  by_cases h8 : L (lo k) = 8 ∨ L (hi k) = 8
  · have e : gm_uni L (L (lo k)) (L (hi k)) = L := by
      funext c
      unfold gm_uni
      rw [if_pos h8]
    rw [e]
    refine ⟨h1, h2, fun a b hab ha hb' => ?_, fun M hM => h4 M (fun a b hab => hM a b (adjU a b hab))⟩
    rcases adjS a b hab with q | q
    · exact h3 a b q ha hb'
    · exfalso
      have n1 := fun z => (h1 (lo k)).mp z
      have n2 := fun z => (h1 (hi k)).mp z
      rcases q with ⟨q1, q2⟩ | ⟨q1, q2⟩
      · rcases h8 with z | z
        · exact n1 z (q1 ▸ ha)
        · exact n2 z (q2 ▸ hb')
      · rcases h8 with z | z
        · exact n1 z (q1 ▸ hb')
        · exact n2 z (q2 ▸ ha)
  · have hx : gm_two lo hi n p (lo k) := Classical.byContradiction (fun z => h8 (Or.inl ((h1 _).mpr z)))
    have hy : gm_two lo hi n p (hi k) := Classical.byContradiction (fun z => h8 (Or.inr ((h1 _).mpr z)))
    obtain ⟨x1, x2, x3⟩ := h2 _ hx
    obtain ⟨y1, y2, y3⟩ := h2 _ hy
    have e : ∀ c, gm_uni L (L (lo k)) (L (hi k)) c = if L c = max (L (lo k)) (L (hi k)) then min (L (lo k)) (L (hi k)) else L c := fun c => by
      unfold gm_uni
      rw [if_neg h8]
    generalize hX : L (lo k) = X at *
    generalize hY : L (hi k) = Y at *
    refine ⟨fun c => ?_, fun c hc => ?_, fun a b hab ha hb' => ?_, fun M hM a b ha hb' hl hm => ?_⟩
    · rw [e]
      constructor
      · intro h
        split at h
        · omega
        · exact (h1 c).mp h
      · intro h
        have h5 := (h1 c).mpr h
        rw [if_neg (by omega)]
        exact h5
    · obtain ⟨c1, c2, c3⟩ := h2 c hc
      rw [e c]
      split
      · rename_i h5
        refine ⟨by omega, by omega, ?_⟩
        rw [e]
        have h6 : L (min X Y) = min X Y := by
          rcases Nat.le_total X Y with q | q
          · rw [Nat.min_eq_left q]; exact x3
          · rw [Nat.min_eq_right q]; exact y3
        rw [h6]
        split <;> omega
      · rename_i h5
        refine ⟨c1, c2, ?_⟩
        rw [e, c3, if_neg h5]
    · rcases adjS a b hab with q | q
      · rw [e, e, h3 a b q ha hb']
      · have hm : ∀ v, v = X ∨ v = Y → (if v = max X Y then min X Y else v) = min X Y := by
          intro v hv
          rcases hv with rfl | rfl <;> split <;> omega
        rcases q with ⟨q1, q2⟩ | ⟨q1, q2⟩
        · subst q1; subst q2
          rw [e, e, hX, hY, hm X (Or.inl rfl), hm Y (Or.inr rfl)]
        · subst q1; subst q2
          rw [e, e, hX, hY, hm X (Or.inl rfl), hm Y (Or.inr rfl)]
    · have hM' : ∀ a b, gm_adj lo hi p k a b → gm_two lo hi n p a → gm_two lo hi n p b → M b → M a := fun a b hab => hM a b (adjU a b hab)
      have key := h4 M hM'
      have exy : M (lo k) ↔ M (hi k) := ⟨hM (hi k) (lo k) ⟨k, by omega, hb, Or.inr ⟨rfl, rfl⟩⟩ hy hx, hM (lo k) (hi k) ⟨k, by omega, hb, Or.inl ⟨rfl, rfl⟩⟩ hx hy⟩
      have toX : ∀ c, gm_two lo hi n p c → L c = X ∨ L c = Y → (M c ↔ M (lo k)) := by
        intro c hc hv
        rcases hv with hv | hv
        · exact ⟨key (lo k) c hx hc (by rw [hX, hv]), key c (lo k) hc hx (by rw [hX, hv])⟩
        · rw [exy]
          exact ⟨key (hi k) c hy hc (by rw [hY, hv]), key c (hi k) hc hy (by rw [hY, hv])⟩
      rw [e, e] at hl
      by_cases ea : L a = L b
      · exact key a b ha hb' ea hm
      · have hab : (L a = X ∨ L a = Y) ∧ (L b = X ∨ L b = Y) := by
          split at hl <;> split at hl <;> omega
        exact (toX a ha hab.1).mpr ((toX b hb' hab.2).mp hm)
theorem gm_LI_ok (lo hi : Nat → Nat) (n p : Nat) : ∀ k, gm_LI lo hi n p k (gm_L lo hi n p k) := by
  intro k
  induction k with
  | zero => exact gm_LI0 lo hi n p
  | succ k ih =>
    unfold gm_L
    by_cases hb : p.testBit k = true
    · rw [if_pos hb]
      exact gm_LI_uni ih hb
    · rw [if_neg hb]
      obtain ⟨h1, h2, h3, h4⟩ := ih
      have e : ∀ a b, gm_adj lo hi p (k + 1) a b ↔ gm_adj lo hi p k a b := by
        intro a b
        constructor
        · rintro ⟨i, q1, q2, q3⟩
          have : i ≠ k := fun z => hb (z ▸ q2)
          exact ⟨i, by omega, q2, q3⟩
        · rintro ⟨i, q1, q2, q3⟩
          exact ⟨i, by omega, q2, q3⟩
      exact ⟨h1, h2, fun a b hab => h3 a b ((e a b).mp hab), fun M hM => h4 M (fun a b hab => hM a b ((e a b).mpr hab))⟩
end
section
/-! ranks of leaders -/
def gm_ldr (L : Nat → Nat) (c : Nat) : Nat := if L c = c then 1 else 0
def gm_rk (L : Nat → Nat) (v : Nat) : Nat := gm_sum (gm_ldr L) v
theorem gm_rk_mono (L : Nat → Nat) {a b : Nat} (h : a ≤ b) : gm_rk L a ≤ gm_rk L b := by
  induction b with
  | zero =>
    have : a = 0 := by omega
    subst this
    exact Nat.le_refl _
  | succ b ih =>
    by_cases hb : a = b + 1
    · subst hb
      exact Nat.le_refl _
    · have := ih (by omega)
      have h2 : gm_rk L (b + 1) = gm_rk L b + gm_ldr L b := rfl
      omega
theorem gm_rk_lt {L : Nat → Nat} {a b : Nat} (ha : L a = a) (h : a < b) : gm_rk L a < gm_rk L b := by
  have h1 := gm_rk_mono L (show a + 1 ≤ b by omega)
  have h2 : gm_rk L (a + 1) = gm_rk L a + gm_ldr L a := rfl
  have h3 : gm_ldr L a = 1 := if_pos ha
  omega
theorem gm_rk_inj {L : Nat → Nat} {a b : Nat} (ha : L a = a) (hb : L b = b) (h : gm_rk L a = gm_rk L b) : a = b := by
  rcases Nat.lt_trichotomy a b with q | q | q
  · have := gm_rk_lt ha q
    omega
  · exact q
  · have := gm_rk_lt hb q
    omega
theorem gm_rk_ex {L : Nat → Nat} {g : Nat} : ∀ v : Nat, g < gm_rk L v → ∃ c, c < v ∧ L c = c ∧ gm_rk L c = g := by
  intro v
  induction v with
  | zero => intro h; exact absurd h (Nat.not_lt_zero _)
  | succ v ih =>
    intro h
    by_cases h1 : g < gm_rk L v
    · obtain ⟨c, a1, a2, a3⟩ := ih h1
      exact ⟨c, by omega, a2, a3⟩
    · have h2 : gm_rk L (v + 1) = gm_rk L v + gm_ldr L v := rfl
      have h3 : gm_ldr L v = 0 ∨ (gm_ldr L v = 1 ∧ L v = v) := by
        unfold gm_ldr
        split
        · exact Or.inr ⟨rfl, by assumption⟩
        · exact Or.inl rfl
      rcases h3 with h3 | ⟨h3, h4⟩
      · omega
      · exact ⟨v, by omega, h4, by omega⟩
/-! the text -/
def gm_str (lo hi : Nat → Nat) (i : Nat) : List Nat := (if 9 < i then [49] else []) ++ [48 + i % 10, 58, 48 + lo i] ++ (if hi i = 8 then [61] else [45, 48 + hi i]) ++ [59]
def gm_txt (lo hi : Nat → Nat) (p : Nat) : Nat → List Nat
  | 0 => []
  | i + 1 => if p.testBit i = true then gm_txt lo hi p i ++ gm_str lo hi i else gm_txt lo hi p i
theorem gm_str_le (lo hi : Nat → Nat) (i : Nat) : (gm_str lo hi i).length ≤ 7 := by
  unfold gm_str
  split <;> split <;> simp
theorem gm_txt_le (lo hi : Nat → Nat) (p k : Nat) : (gm_txt lo hi p k).length ≤ 7 * k := by
  induction k with
  | zero => exact Nat.le_refl _
  | succ k ih =>
    unfold gm_txt
    have := gm_str_le lo hi k
    split
    · rw [List.length_append]
      omega
    · omega
/-! the run: the cuts, newest first -/
def gm_run (lo hi : Nat → Nat) (n : Nat) : List Nat → Nat × Nat × Nat × Nat
  | [] => (2 ^ n - 1, 0, 0, 0)
  | i :: r => (bq_wo (gm_run lo hi n r).1 i,
      if 0 < gm_tk lo hi n (gm_run lo hi n r).1 i then (gm_run lo hi n r).2.1 else 1 - (gm_run lo hi n r).2.1,
      (gm_run lo hi n r).2.2.1 + (if (gm_run lo hi n r).2.1 = 0 then gm_tk lo hi n (gm_run lo hi n r).1 i else 0),
      (gm_run lo hi n r).2.2.2 + (if (gm_run lo hi n r).2.1 = 0 then 0 else gm_tk lo hi n (gm_run lo hi n r).1 i))
def gm_val (lo hi : Nat → Nat) (n : Nat) : List Nat → Prop
  | [] => True
  | i :: r => i < n ∧ (gm_run lo hi n r).1.testBit i = true ∧ gm_val lo hi n r
theorem gm_run_p {lo hi : Nat → Nat} {n : Nat} : ∀ cs : List Nat, (gm_run lo hi n cs).1 < 2 ^ n := by
  intro cs
  induction cs with
  | nil =>
    have := Nat.two_pow_pos n
    show 2 ^ n - 1 < 2 ^ n
    omega
  | cons i r ih => exact Nat.lt_of_le_of_lt (bq_wo_le _ _) ih
theorem gm_run_w {lo hi : Nat → Nat} {n : Nat} : ∀ cs : List Nat, (gm_run lo hi n cs).2.1 ≤ 1 := by
  intro cs
  induction cs with
  | nil => exact Nat.zero_le _
  | cons i r ih =>
    show (if _ then _ else _) ≤ 1
    split
    · exact ih
    · exact Nat.sub_le _ _
theorem gm_pc_full : ∀ n, n ≤ 12 → gm_pc (2 ^ n - 1) = n := by
  intro n hn
  have : ∀ n, n < 13 → gm_pc (2 ^ n - 1) = n := by decide +kernel
  exact this n (by omega)
theorem gm_run_len {lo hi : Nat → Nat} {n : Nat} (hn : n ≤ 12) : ∀ cs : List Nat, gm_val lo hi n cs → gm_pc (gm_run lo hi n cs).1 + cs.length = n := by
  intro cs
  induction cs with
  | nil => intro _; exact gm_pc_full n hn
  | cons i r ih =>
    intro h
    obtain ⟨h1, h2, h3⟩ := h
    have h4 := ih h3
    have h5 := gm_pc_wo (by omega : i < 12) h2
    show gm_pc (bq_wo _ i) + (r.length + 1) = n
    omega
theorem gm_pc_pos {p i : Nat} (hi : i < 12) (h : p.testBit i = true) : 0 < gm_pc p := by
  have := gm_pc_wo hi h
  omega
end
section
/-! small whole numbers as ints -/
def iZ (z : Int) : Int32 := Int32.ofInt z
theorem iZ_nat (n : Nat) : iZ (n : Int) = nI n := by
  show Int32.ofInt (n : Int) = Int32.ofNat n
  exact Int32.ofInt_eq_ofNat
theorem iZ_tab : ∀ k : Nat, k < 256 → (Int32.ofInt ((k : Int) - 128)).toInt = (k : Int) - 128 ∧ (Int32.ofInt ((k : Int) - 128)).toInt8.toInt32 = Int32.ofInt ((k : Int) - 128) := by decide +kernel
theorem iZ_at {z : Int} (h1 : -128 ≤ z) (h2 : z ≤ 127) : (iZ z).toInt = z ∧ (iZ z).toInt8.toInt32 = iZ z := by
  obtain ⟨k, hk⟩ : ∃ k : Nat, z = (k : Int) - 128 := ⟨(z + 128).toNat, by omega⟩
  subst hk
  exact iZ_tab k (by omega)
theorem iZ_toInt {z : Int} (h1 : -128 ≤ z) (h2 : z ≤ 127) : (iZ z).toInt = z := (iZ_at h1 h2).1
theorem iZ_byte {z : Int} (h1 : -128 ≤ z) (h2 : z ≤ 127) : (iZ z).toInt8.toInt32 = iZ z := (iZ_at h1 h2).2
theorem iZ_nar {z : Int} (h1 : -128 ≤ z) (h2 : z ≤ 127) : vp_nar .byte (iZ z) = iZ z := by
  rw [vp_nar_byte]
  exact iZ_byte h1 h2
theorem iZ_lt {a b : Int} (a1 : -128 ≤ a) (a2 : a ≤ 127) (b1 : -128 ≤ b) (b2 : b ≤ 127) : iZ a < iZ b ↔ a < b := by
  rw [Int32.lt_iff_toInt_lt, iZ_toInt a1 a2, iZ_toInt b1 b2]
theorem iZ_inj {a b : Int} (a1 : -128 ≤ a) (a2 : a ≤ 127) (b1 : -128 ≤ b) (b2 : b ≤ 127) : iZ a = iZ b ↔ a = b := by
  rw [← Int32.toInt_inj, iZ_toInt a1 a2, iZ_toInt b1 b2]
theorem iZ_add (a b : Int) : iZ a + iZ b = iZ (a + b) := (Int32.ofInt_add a b).symm
theorem iZ_neg (a : Int) : -iZ a = iZ (-a) := (Int32.ofInt_neg a).symm
theorem iZ_m1 : iZ (-1) = (-1 : Int32) := by decide +kernel
/-- an end as the programs hold it: 8 is the ground -/
def og (c : Nat) : Int32 := if c = 8 then -1 else nI c
theorem og_8 : og 8 = -1 := rfl
theorem og_lt {c : Nat} (h : c < 8) : og c = nI c := if_neg (by omega)
theorem og_tab : ∀ a, a < 9 → ∀ b, b < 9 → (og a = og b ↔ a = b) := by decide +kernel
theorem og_inj {a b : Nat} (ha : a ≤ 8) (hb : b ≤ 8) : og a = og b ↔ a = b := og_tab a (by omega) b (by omega)
theorem og_m1 {a : Nat} (ha : a ≤ 8) : og a = -1 ↔ a = 8 := by
  have h := og_inj ha (Nat.le_refl 8)
  rw [og_8] at h
  exact h
end
section
/-! calls' words out of the tables; words across a nest; worlds -/
section CWS
variable {p : Program} {l : Launch} {e : Env} {R : Room} {s : State} {m : MethodId} {args : Array Value} {below : List Frame} {meth : Method} {c : Code} {cells slots : Nat} {Q : State → Prop}
variable {cc : ByteArray} {nL : Nat} {own : String} {D : va_G} {cl : List vw_C} {tys : List (ClassId × FieldType)} {A : Nat → Prop} {c0 : Cond}
variable {C : String} {idx : Nat} {y : MethodName} {bytes : ByteArray} {maxL mc ms : Nat} {ret : Option FieldType} {rm : Room}
theorem cw_V (n : Nat) (X : kw_X p s m args c cc nL own (c0 :: gw_tbl) D cl tys A) (h1 : Cond.methodLink own idx y ∈ gw_tbl) (h2 : Cond.instanceMethod y ∈ gw_tbl) (h3 : Cond.selects C y y ∈ gw_tbl) (h4 : Cond.initialized C ∈ gw_tbl) (h5 : Cond.code y bytes maxL ret ∈ gw_tbl) (hrc : rm.cells = mc) (hrs : rm.slots = ms)
    (hd : y.cls = C ∧ y.cls ≠ "java/lang/invoke/MethodHandle" ∧ y.cls ≠ "java/lang/invoke/VarHandle" ∧ (parseMethodDescriptor y.desc).map (fun d => d.parameters.length) = some n) (hR : rm.frames + 1 ≤ R.frames ∧ 8 + (maxL + 11) + rm.locals ≤ R.locals) : CallW R s args own C idx y bytes maxL ret (gw y bytes maxL ret) rm mc ms n :=
  cwV n X.1.2.2.2.2 (gw_V h1 h2 h3 h4 h5) rfl hrc hrs hd hR
theorem cw_S (n : Nat) (X : kw_X p s m args c cc nL own (c0 :: gw_tbl) D cl tys A) (h1 : Cond.methodLink own idx y ∈ gw_tbl) (h2 : Cond.static y ∈ gw_tbl) (h4 : Cond.initialized y.cls ∈ gw_tbl) (h5 : Cond.code y bytes maxL ret ∈ gw_tbl) (hrc : rm.cells = mc) (hrs : rm.slots = ms)
    (hd : y.cls ≠ "java/lang/invoke/MethodHandle" ∧ y.cls ≠ "java/lang/invoke/VarHandle" ∧ (parseMethodDescriptor y.desc).map (fun d => d.parameters.length) = some n) (hR : rm.frames + 1 ≤ R.frames ∧ 8 + (maxL + 11) + rm.locals ≤ R.locals) : CallB R s args own idx y bytes maxL ret (gw y bytes maxL ret) rm mc ms n ∧ (Cond.static y).before args s = true :=
  ⟨callB_of n X.1.2.2.2.2 (gw_in h5) rfl hrc hrs (X.1.2.2.2.2 _ (gq h4)) (X.1.2.2.2.2 _ (gq h1)) hd hR, X.1.2.2.2.2 _ (gq h2)⟩
theorem cw_SN {host : String} (n : Nat) (X : kw_X p s m args c cc nL own (c0 :: gw_tbl) D cl tys A) (h1 : va_Nw (.methodLinkNest own idx y host) s) (h2 : Cond.static y ∈ gw_tbl) (h4 : Cond.initialized y.cls ∈ gw_tbl) (h5 : Cond.code y bytes maxL ret ∈ gw_tbl) (hrc : rm.cells = mc) (hrs : rm.slots = ms)
    (hd : y.cls ≠ "java/lang/invoke/MethodHandle" ∧ y.cls ≠ "java/lang/invoke/VarHandle" ∧ (parseMethodDescriptor y.desc).map (fun d => d.parameters.length) = some n) (hR : rm.frames + 1 ≤ R.frames ∧ 8 + (maxL + 11) + rm.locals ≤ R.locals) : va_CN R s args own idx y host bytes maxL ret (gw y bytes maxL ret) rm mc ms n ∧ (Cond.static y).before args s = true ∧ True :=
  ⟨va_cnB n X.1.2.2.2.2 (gw_in h5) rfl hrc hrs h1 (X.1.2.2.2.2 _ (gq h4)) hd hR, X.1.2.2.2.2 _ (gq h2), trivial⟩
theorem cw_U {owner : String} {x : MethodName} (n : Nat) (X : kw_X p s m args c cc nL own (c0 :: gw_tbl) D cl tys A) (h1 : Cond.methodLink own idx x ∈ gw_tbl) (h2 : Cond.sameMethod x.cls owner x.name x.desc ∈ gw_tbl) (h3 : Cond.selects C x y ∈ gw_tbl) (h4 : Cond.instanceMethod y ∈ gw_tbl) (h6 : Cond.initialized y.cls ∈ gw_tbl) (h5 : Cond.code y bytes maxL ret ∈ gw_tbl) (hrc : rm.cells = mc) (hrs : rm.slots = ms)
    (hyx : y = ⟨owner, x.name, x.desc⟩) (hd : owner ≠ "java/lang/invoke/MethodHandle" ∧ owner ≠ "java/lang/invoke/VarHandle" ∧ (parseMethodDescriptor x.desc).map (fun d => d.parameters.length) = some n) (hR : rm.frames + 1 ≤ R.frames ∧ 8 + (maxL + 11) + rm.locals ≤ R.locals) : va_CU R s args own C owner idx x y bytes maxL ret (gw y bytes maxL ret) rm mc ms n :=
  va_cwU n X.1.2.2.2.2 (gw_U h1 h2 h3 h4 h6 h5) rfl hrc hrs hyx hd hR
theorem cw_A {owner : String} {x : MethodName} (n : Nat) (X : kw_X p s m args c cc nL own (c0 :: gw_tbl) D cl tys A) (h1 : Cond.methodLink own idx x ∈ gw_tbl) (h2 : Cond.sameMethod x.cls owner x.name x.desc ∈ gw_tbl) (h3 : Cond.selects C x y ∈ gw_tbl) (h4 : Cond.instanceMethod y ∈ gw_tbl) (h6 : Cond.initialized y.cls ∈ gw_tbl) (h5 : Cond.code y bytes maxL ret ∈ gw_tbl) (hrc : rm.cells = mc) (hrs : rm.slots = ms)
    (hz : va_Nw (.declares ⟨owner, x.name, x.desc⟩) s) (hd : owner ≠ "java/lang/invoke/MethodHandle" ∧ owner ≠ "java/lang/invoke/VarHandle" ∧ (parseMethodDescriptor x.desc).map (fun d => d.parameters.length) = some n) (hR : rm.frames + 1 ≤ R.frames ∧ 8 + (maxL + 11) + rm.locals ≤ R.locals) : va_CU R s args own C owner idx x y bytes maxL ret (gw y bytes maxL ret) rm mc ms n :=
  va_cwA n X.1.2.2.2.2 (gw_U h1 h2 h3 h4 h6 h5) rfl hrc hrs hz hd hR
/-- a private method of a class above the receiver's -/
theorem cw_sel {k : Nat} {args : Array Value} {s : State} (hy : y.cls ≠ "java/lang/invoke/MethodHandle" ∧ y.cls ≠ "java/lang/invoke/VarHandle") (hi : (Cond.instantiable C k).before args s = true) (hp : (Cond.privateMethod y).before args s = true) (hn : (Cond.instanceMethod y).before args s = true) (hs : (Cond.sameMethod y.cls y.cls y.name y.desc).before args s = true) : (Cond.selects C y y).before args s = true := by
  obtain ⟨c1, k1, hc1, hk1, -⟩ := Cond.instantiable_spec hi
  obtain ⟨mk, methM, hnamed, hmethM, -, -⟩ := Cond.instanceMethod_spec hn
  obtain ⟨c2, k2, r2, hc2, hk2, hni, -, -⟩ := Cond.sameMethod_found hs
  have e1 : mk.cls = c2 := Option.some.inj ((findClass_of_methodNamed hnamed).symm.trans hc2)
  have e2 : s.methodFound? y.cls y.name y.desc = some mk := State.methodFound?_of_named hnamed hy
  have e3 : selectMethod {} s.vm c1 mk = .method mk := selectMethod_private hmethM (Cond.privateMethod_at hp mk methM hnamed hmethM)
  simp only [Cond.before, Cond.holds, Cond.value, hc1, e2, hnamed, e3, e1, hk2]
  simp
  exact hni
theorem cw_P (n : Nat) (X : kw_X p s m args c cc nL own (c0 :: gw_tbl) D cl tys A) (h1 : Cond.methodLink own idx y ∈ gw_tbl) (h2 : Cond.instanceMethod y ∈ gw_tbl) (h3 : va_Nw (.selects C y y) s) (h4 : Cond.initialized y.cls ∈ gw_tbl) (h5 : Cond.code y bytes maxL ret ∈ gw_tbl) (hrc : rm.cells = mc) (hrs : rm.slots = ms)
    (hd : y.cls ≠ "java/lang/invoke/MethodHandle" ∧ y.cls ≠ "java/lang/invoke/VarHandle" ∧ (parseMethodDescriptor y.desc).map (fun d => d.parameters.length) = some n) (hR : rm.frames + 1 ≤ R.frames ∧ 8 + (maxL + 11) + rm.locals ≤ R.locals) : CallW R s args own C idx y bytes maxL ret (gw y bytes maxL ret) rm mc ms n :=
  ⟨callB_of n X.1.2.2.2.2 (gw_in h5) rfl hrc hrs (X.1.2.2.2.2 _ (gq h4)) (X.1.2.2.2.2 _ (gq h1)) hd hR, X.1.2.2.2.2 _ (gq h2), va_Nw.use rfl h3⟩
theorem kw_ldcw (X : kw_X p s m args c cc nL own (c0 :: gw_tbl) D cl tys A) {ws : va_W} {pc : Nat} {lv : List (Option Value)} {rest : List Value} {index : Nat} {v : Int32} (hconst : Cond.constant own index v ∈ gw_tbl) (d : decode cc pc = .ok (.ldc_w index, 3)) (k : kw_W p l e R s m args below meth c nL D cl A cells slots Q ws (pc + 3) lv (.int v :: rest)) : kw_W p l e R s m args below meth c nL D cl A cells slots Q ws pc lv rest := fun H locs ls hP hD hS hl => lv_ldcw X.1.1 X.1.2.1 X.1.2.2.2.1 (X.1.2.2.2.2 _ (gq hconst)) d (k H locs ls hP hD hS hl)
end CWS
def bad_w : List Cond := [Cond.methodLinkNest "CoinStrings" 11 ⟨"CoinStrings$Web", "<init>", "()V"⟩ "CoinStrings", Cond.methodLinkNest "CoinStrings$Grouping" 29 ⟨"CoinStrings", "has", "(II)Z"⟩ "CoinStrings", Cond.methodLinkNest "CoinStrings$Text" 29 ⟨"CoinStrings", "has", "(II)Z"⟩ "CoinStrings", Cond.methodLinkNest "CoinStrings$Margins" 21 ⟨"CoinStrings", "has", "(II)Z"⟩ "CoinStrings", Cond.methodLinkNest "CoinStrings$Margins" 41 ⟨"CoinStrings", "without", "(II)I"⟩ "CoinStrings", Cond.methodLinkNest "CoinStrings$NimValues" 21 ⟨"CoinStrings", "has", "(II)Z"⟩ "CoinStrings", Cond.methodLinkNest "CoinStrings$NimValues" 29 ⟨"CoinStrings", "without", "(II)I"⟩ "CoinStrings", Cond.methodLinkNest "CoinStrings$NimValues" 36 ⟨"CoinStrings", "least", "(I)I"⟩ "CoinStrings", Cond.methodLinkNest "CoinStrings$Values" 32 ⟨"CoinStrings", "has", "(II)Z"⟩ "CoinStrings", Cond.declares ⟨"CoinStrings$Values", "workOut", "(I)I"⟩, Cond.declares ⟨"CoinStrings$Values", "isMarked", "(II)Z"⟩, Cond.selects "CoinStrings$Margins" ⟨"CoinStrings$Values", "prepare", "()V"⟩ ⟨"CoinStrings$Values", "prepare", "()V"⟩, Cond.selects "CoinStrings$NimValues" ⟨"CoinStrings$Values", "prepare", "()V"⟩ ⟨"CoinStrings$Values", "prepare", "()V"⟩]
abbrev kE : State → Prop := kw_En bad_w
theorem kEw (s U : State) (hW : s.WarmedH U.vm) (h : kE s) : kE U := kw_En.warm (by decide +kernel) hW h
/-- the arrays' types: int, byte, char, long -/
abbrev kt (kI kB kC kL : ClassId) : List (ClassId × FieldType) := [(kI, .int), (kB, .byte), (kC, .char), (kL, .long)]
theorem kq_inc (k : Nat) : nI k + Int32.ofInt 1 = nI (k + 1) := nI_1 k
/-- Web: its object, lesser ends, other ends, the strings of the coins -/
abbrev wWeb (kI : ClassId) (w0 w1 w2 w3 n : Nat) (les oth soc : Nat → Int32) : va_W := [(w0, .inr (1, [.ref w1, .ref w2, .ref w3, .int (nI n)])), (w1, .inl (kI, 12, .inl les)), (w2, .inl (kI, 12, .inl oth)), (w3, .inl (kI, 8, .inl soc))]
/-- a table of values over Web: the object of the kind ci, its table -/
abbrev wVal (ci : Nat) (kI kB : ClassId) (v0 v1 w0 w1 w2 w3 n : Nat) (rd : Int32) (f les oth soc : Nat → Int32) : va_W := (v0, .inr (ci, [.ref w0, .ref v1, .int rd])) :: (v1, .inl (kB, 4096, .inl f)) :: wWeb kI w0 w1 w2 w3 n les oth soc
/-- its arrays hold the strings lo, hi -/
def webOk (lo hi : Nat → Nat) (n : Nat) (les oth soc : Nat → Int32) : Prop := gm_ok lo hi n ∧ (∀ i, i < n → les i = nI (lo i) ∧ oth i = og (hi i)) ∧ ∀ c, c < 8 → soc c = nI (gm_mk lo hi n c)
/-- f, its first k places as g has them -/
def kq_pre (g f : Nat → Int32) (k : Nat) : Nat → Int32 := fun j => if j < k then g j else f j
theorem kq_pre_upd {g f : Nat → Int32} {k : Nat} {x : Int32} (h : x = g k) : upd (kq_pre g f k) k x = kq_pre g f (k + 1) := by
  funext j
  show (if j = k then x else (if j < k then g j else f j)) = (if j < k + 1 then g j else f j)
  by_cases h1 : j = k
  · rw [if_pos h1, if_pos (show j < k + 1 by omega), h1, h]
  · rw [if_neg h1]
    by_cases h2 : j < k
    · rw [if_pos h2, if_pos (show j < k + 1 by omega)]
    · rw [if_neg h2, if_neg (show ¬ j < k + 1 by omega)]
theorem kq_pre_lt {g f : Nat → Int32} {k j : Nat} (h : j < k) : kq_pre g f k j = g j := if_pos h
theorem kq_pre_ge {g f : Nat → Int32} {k j : Nat} (h : k ≤ j) : kq_pre g f k j = f j := if_neg (by omega)
theorem kq_cl {k : Nat} (h : k < 4096) : (nI k).toNatClampNeg = k := nI_clamp (by omega)
theorem kq_le {a b : Nat} (h : nI a ≤ nI b) (ha : a < 2 ^ 31 := by omega) (hb : b < 2 ^ 31 := by omega) : a ≤ b := (nI_leI ha hb).mp h
theorem kq_nle {a b : Nat} (h : ¬ nI a ≤ nI b) (ha : a < 2 ^ 31 := by omega) (hb : b < 2 ^ 31 := by omega) : b < a := Nat.not_le.mp (fun z => h ((nI_leI ha hb).mpr z))
theorem kq_lt {a b : Nat} (h : nI a < nI b) (ha : a < 2 ^ 31 := by omega) (hb : b < 2 ^ 31 := by omega) : a < b := (nI_ltI ha hb).mp h
theorem kq_nlt {a b : Nat} (h : ¬ nI a < nI b) (ha : a < 2 ^ 31 := by omega) (hb : b < 2 ^ 31 := by omega) : b ≤ a := Nat.not_lt.mp (fun z => h ((nI_ltI ha hb).mpr z))
theorem kq_eq {a b : Nat} (h : nI a = nI b) (ha : a < 2 ^ 31 := by omega) (hb : b < 2 ^ 31 := by omega) : a = b := (nI_eq ha hb).mp h
theorem kq_ne {a b : Nat} (h : ¬ nI a = nI b) (ha : a < 2 ^ 31 := by omega) (hb : b < 2 ^ 31 := by omega) : a ≠ b := fun z => h ((nI_eq ha hb).mpr z)
theorem kq_in {k N : Nat} (h : k < N) (hN : N ≤ 4096) : vp_in (nI k) N := vp_in_nI h (by omega)
end
section
section KWM
variable {p : Program} {l : Launch} {e : Env} {R : Room} {s : State} {m : MethodId} {args : Array Value} {below : List Frame} {meth : Method} {c : Code} {cells slots : Nat} {Q : State → Prop}
variable {cc : ByteArray} {nL : Nat} {own : String} {Ts : List Cond} {D : va_G} {cl : List vw_C} {tys : List (ClassId × FieldType)} {A : Nat → Prop}
variable {ws : va_W} {pc : Nat} {lv : List (Option Value)} {rest : List Value}
theorem kw_if_eq2 (X : kw_X p s m args c cc nL own Ts D cl tys A) {x : Int32} {off : Int} {tgt : Nat} (d : decode cc pc = .ok (.ifCond .eq off, 3)) (ht : (pc : Int) + off = (tgt : Int)) (k : (x = 0 → kw_W p l e R s m args below meth c nL D cl A cells slots Q ws (tgt) (lv) (rest)) ∧ (¬ x = 0 → kw_W p l e R s m args below meth c nL D cl A cells slots Q ws (pc + 3) (lv) (rest))) : kw_W p l e R s m args below meth c nL D cl A cells slots Q ws (pc) (lv) (.int x :: rest) := kw_if_eq X d ht k.1 k.2
theorem kw_if_ne2 (X : kw_X p s m args c cc nL own Ts D cl tys A) {x : Int32} {off : Int} {tgt : Nat} (d : decode cc pc = .ok (.ifCond .ne off, 3)) (ht : (pc : Int) + off = (tgt : Int)) (k : (¬ x = 0 → kw_W p l e R s m args below meth c nL D cl A cells slots Q ws (tgt) (lv) (rest)) ∧ (x = 0 → kw_W p l e R s m args below meth c nL D cl A cells slots Q ws (pc + 3) (lv) (rest))) : kw_W p l e R s m args below meth c nL D cl A cells slots Q ws (pc) (lv) (.int x :: rest) := kw_if_ne X d ht k.1 k.2
theorem kw_if_lt2 (X : kw_X p s m args c cc nL own Ts D cl tys A) {x : Int32} {off : Int} {tgt : Nat} (d : decode cc pc = .ok (.ifCond .lt off, 3)) (ht : (pc : Int) + off = (tgt : Int)) (k : (x < 0 → kw_W p l e R s m args below meth c nL D cl A cells slots Q ws (tgt) (lv) (rest)) ∧ (¬ x < 0 → kw_W p l e R s m args below meth c nL D cl A cells slots Q ws (pc + 3) (lv) (rest))) : kw_W p l e R s m args below meth c nL D cl A cells slots Q ws (pc) (lv) (.int x :: rest) := kw_if_lt X d ht k.1 k.2
theorem kw_if_ge2 (X : kw_X p s m args c cc nL own Ts D cl tys A) {x : Int32} {off : Int} {tgt : Nat} (d : decode cc pc = .ok (.ifCond .ge off, 3)) (ht : (pc : Int) + off = (tgt : Int)) (k : (0 ≤ x → kw_W p l e R s m args below meth c nL D cl A cells slots Q ws (tgt) (lv) (rest)) ∧ (¬ 0 ≤ x → kw_W p l e R s m args below meth c nL D cl A cells slots Q ws (pc + 3) (lv) (rest))) : kw_W p l e R s m args below meth c nL D cl A cells slots Q ws (pc) (lv) (.int x :: rest) := kw_if_ge X d ht k.1 k.2
theorem kw_if_gt2 (X : kw_X p s m args c cc nL own Ts D cl tys A) {x : Int32} {off : Int} {tgt : Nat} (d : decode cc pc = .ok (.ifCond .gt off, 3)) (ht : (pc : Int) + off = (tgt : Int)) (k : (0 < x → kw_W p l e R s m args below meth c nL D cl A cells slots Q ws (tgt) (lv) (rest)) ∧ (¬ 0 < x → kw_W p l e R s m args below meth c nL D cl A cells slots Q ws (pc + 3) (lv) (rest))) : kw_W p l e R s m args below meth c nL D cl A cells slots Q ws (pc) (lv) (.int x :: rest) := kw_if_gt X d ht k.1 k.2
theorem kw_if_le2 (X : kw_X p s m args c cc nL own Ts D cl tys A) {x : Int32} {off : Int} {tgt : Nat} (d : decode cc pc = .ok (.ifCond .le off, 3)) (ht : (pc : Int) + off = (tgt : Int)) (k : (x ≤ 0 → kw_W p l e R s m args below meth c nL D cl A cells slots Q ws (tgt) (lv) (rest)) ∧ (¬ x ≤ 0 → kw_W p l e R s m args below meth c nL D cl A cells slots Q ws (pc + 3) (lv) (rest))) : kw_W p l e R s m args below meth c nL D cl A cells slots Q ws (pc) (lv) (.int x :: rest) := kw_if_le X d ht k.1 k.2
theorem kw_icmp_eq2 (X : kw_X p s m args c cc nL own Ts D cl tys A) {x y : Int32} {off : Int} {tgt : Nat} (d : decode cc pc = .ok (.if_icmp .eq off, 3)) (ht : (pc : Int) + off = (tgt : Int)) (k : (x = y → kw_W p l e R s m args below meth c nL D cl A cells slots Q ws (tgt) (lv) (rest)) ∧ (¬ x = y → kw_W p l e R s m args below meth c nL D cl A cells slots Q ws (pc + 3) (lv) (rest))) : kw_W p l e R s m args below meth c nL D cl A cells slots Q ws (pc) (lv) (.int y :: .int x :: rest) := kw_icmp_eq X d ht k.1 k.2
theorem kw_icmp_ne2 (X : kw_X p s m args c cc nL own Ts D cl tys A) {x y : Int32} {off : Int} {tgt : Nat} (d : decode cc pc = .ok (.if_icmp .ne off, 3)) (ht : (pc : Int) + off = (tgt : Int)) (k : (¬ x = y → kw_W p l e R s m args below meth c nL D cl A cells slots Q ws (tgt) (lv) (rest)) ∧ (x = y → kw_W p l e R s m args below meth c nL D cl A cells slots Q ws (pc + 3) (lv) (rest))) : kw_W p l e R s m args below meth c nL D cl A cells slots Q ws (pc) (lv) (.int y :: .int x :: rest) := kw_icmp_ne X d ht k.1 k.2
theorem kw_icmp_lt2 (X : kw_X p s m args c cc nL own Ts D cl tys A) {x y : Int32} {off : Int} {tgt : Nat} (d : decode cc pc = .ok (.if_icmp .lt off, 3)) (ht : (pc : Int) + off = (tgt : Int)) (k : (x < y → kw_W p l e R s m args below meth c nL D cl A cells slots Q ws (tgt) (lv) (rest)) ∧ (¬ x < y → kw_W p l e R s m args below meth c nL D cl A cells slots Q ws (pc + 3) (lv) (rest))) : kw_W p l e R s m args below meth c nL D cl A cells slots Q ws (pc) (lv) (.int y :: .int x :: rest) := kw_icmp_lt X d ht k.1 k.2
theorem kw_icmp_ge2 (X : kw_X p s m args c cc nL own Ts D cl tys A) {x y : Int32} {off : Int} {tgt : Nat} (d : decode cc pc = .ok (.if_icmp .ge off, 3)) (ht : (pc : Int) + off = (tgt : Int)) (k : (y ≤ x → kw_W p l e R s m args below meth c nL D cl A cells slots Q ws (tgt) (lv) (rest)) ∧ (¬ y ≤ x → kw_W p l e R s m args below meth c nL D cl A cells slots Q ws (pc + 3) (lv) (rest))) : kw_W p l e R s m args below meth c nL D cl A cells slots Q ws (pc) (lv) (.int y :: .int x :: rest) := kw_icmp_ge X d ht k.1 k.2
theorem kw_icmp_gt2 (X : kw_X p s m args c cc nL own Ts D cl tys A) {x y : Int32} {off : Int} {tgt : Nat} (d : decode cc pc = .ok (.if_icmp .gt off, 3)) (ht : (pc : Int) + off = (tgt : Int)) (k : (y < x → kw_W p l e R s m args below meth c nL D cl A cells slots Q ws (tgt) (lv) (rest)) ∧ (¬ y < x → kw_W p l e R s m args below meth c nL D cl A cells slots Q ws (pc + 3) (lv) (rest))) : kw_W p l e R s m args below meth c nL D cl A cells slots Q ws (pc) (lv) (.int y :: .int x :: rest) := kw_icmp_gt X d ht k.1 k.2
theorem kw_icmp_le2 (X : kw_X p s m args c cc nL own Ts D cl tys A) {x y : Int32} {off : Int} {tgt : Nat} (d : decode cc pc = .ok (.if_icmp .le off, 3)) (ht : (pc : Int) + off = (tgt : Int)) (k : (x ≤ y → kw_W p l e R s m args below meth c nL D cl A cells slots Q ws (tgt) (lv) (rest)) ∧ (¬ x ≤ y → kw_W p l e R s m args below meth c nL D cl A cells slots Q ws (pc + 3) (lv) (rest))) : kw_W p l e R s m args below meth c nL D cl A cells slots Q ws (pc) (lv) (.int y :: .int x :: rest) := kw_icmp_le X d ht k.1 k.2
theorem kw_matP (X : kw_X p s m args c cc nL own Ts D cl tys A) {q : Prop} {i9 : Decidable q} {pcf pct E : Nat} {na nb off : Int} {a b : Int32} (d1 : decode cc pcf = .ok (.iconst na, 1)) (ha : Int32.ofInt na = a) (d2 : decode cc (pcf + 1) = .ok (.goto off, 3)) (ho : ((pcf + 1 : Nat) : Int) + off = (E : Int)) (d3 : decode cc pct = .ok (.iconst nb, 1)) (hb : Int32.ofInt nb = b) (hE : pct + 1 = E)
    (k : kw_W p l e R s m args below meth c nL D cl A cells slots Q ws (E) (lv) (.int (if q then b else a) :: rest)) : (q → kw_W p l e R s m args below meth c nL D cl A cells slots Q ws (pct) (lv) (rest)) ∧ (¬ q → kw_W p l e R s m args below meth c nL D cl A cells slots Q ws (pcf) (lv) (rest)) := by
  refine ⟨fun hq => kw_iconst X d3 hb ?_, fun hq => kw_iconst X d1 ha (kw_goto X d2 ho ?_)⟩
  · rw [hE]
    rw [if_pos hq] at k
    exact k
  · rw [if_neg hq] at k
    exact k
theorem kw_matN (X : kw_X p s m args c cc nL own Ts D cl tys A) {q : Prop} {i9 : Decidable q} {pcf pct E : Nat} {na nb off : Int} {a b : Int32} (d1 : decode cc pcf = .ok (.iconst na, 1)) (ha : Int32.ofInt na = a) (d2 : decode cc (pcf + 1) = .ok (.goto off, 3)) (ho : ((pcf + 1 : Nat) : Int) + off = (E : Int)) (d3 : decode cc pct = .ok (.iconst nb, 1)) (hb : Int32.ofInt nb = b) (hE : pct + 1 = E)
    (k : kw_W p l e R s m args below meth c nL D cl A cells slots Q ws (E) (lv) (.int (if q then a else b) :: rest)) : (¬ q → kw_W p l e R s m args below meth c nL D cl A cells slots Q ws (pct) (lv) (rest)) ∧ (q → kw_W p l e R s m args below meth c nL D cl A cells slots Q ws (pcf) (lv) (rest)) := by
  refine ⟨fun hq => kw_iconst X d3 hb ?_, fun hq => kw_iconst X d1 ha (kw_goto X d2 ho ?_)⟩
  · rw [hE]
    rw [if_neg hq] at k
    exact k
  · rw [if_pos hq] at k
    exact k
theorem kw_jn {α : Type} (I : α → Prop) (wf : α → va_W) (lf : α → List (Option Value)) (sf : α → List Value) (J : Nat) {st : List Value} (kJ : ∀ a, I a → kw_W p l e R s m args below meth c nL D cl A cells slots Q (wf a) (J) (lf a) (sf a)) (k : (∀ a, I a → kw_W p l e R s m args below meth c nL D cl A cells slots Q (wf a) (J) (lf a) (sf a)) → kw_W p l e R s m args below meth c nL D cl A cells slots Q ws (pc) (lv) (st)) : kw_W p l e R s m args below meth c nL D cl A cells slots Q ws (pc) (lv) (st) := k kJ
end KWM
/-- a boolean as an int -/
def bI (b : Bool) : Int32 := if b = true then nI 1 else nI 0
theorem bI_t : bI true = nI 1 := rfl
theorem bI_f : bI false = nI 0 := rfl
theorem bI_0 {b : Bool} (h : bI b = 0) : b = false := by
  cases b
  · rfl
  · exact absurd h (by decide)
theorem bI_1 {b : Bool} (h : ¬ bI b = 0) : b = true := by
  cases b
  · exact absurd rfl h
  · rfl
theorem bI_or1 {a b : Bool} (h : a = true) : nI 1 = bI (a || b) := by rw [h]; rfl
theorem bI_or2 {a b : Bool} (h : b = true) : nI 1 = bI (a || b) := by rw [h, Bool.or_true]; rfl
theorem bI_or0 {a b : Bool} (h : a = false) (h2 : b = false) : nI 0 = bI (a || b) := by rw [h, h2]; rfl
theorem bI_le {t : Nat} {i : Decidable (nI t ≤ 0)} (ht : t < 2 ^ 31) : (@ite _ (nI t ≤ 0) i (nI 0) (nI 1)) = bI (decide (0 < t)) := by
  by_cases h : 0 < t
  · rw [if_neg (fun z => by have := kq_le (b := 0) z; omega), decide_eq_true h]; rfl
  · rw [if_pos (show nI t ≤ 0 from (nI_leI (b := 0) ht (by omega)).mpr (by omega)), decide_eq_false h]; rfl
theorem bI_nar (b : Bool) : narrow .boolean (.int (bI b)) = .int (bI b) := by cases b <;> rfl
theorem bI_fit (b : Bool) : fits .boolean (.int (bI b)) = true := by cases b <;> rfl
theorem bI_ite {q : Prop} {i : Decidable q} : (@ite _ q i (nI 1) (nI 0)) = bI (@decide q i) := by
  by_cases h : q
  · rw [if_pos h, decide_eq_true h]; rfl
  · rw [if_neg h, decide_eq_false h]; rfl
theorem iZ_pos {z : Int} (h : 0 ≤ z) : iZ z = nI z.toNat := by
  rw [← iZ_nat, Int.toNat_of_nonneg h]
/-- bit i of any int -/
theorem kq_bit (x : Int32) {i : Nat} (hi : i < 31) : (x >>> (nI i &&& 31)) &&& nI 1 = nI 1 ↔ bt x i = true := by
  have h0 : bt (x >>> (nI i &&& 31)) 0 = bt x i := by
    rw [b_sshr i (by omega) x (by omega), Nat.add_zero, if_pos (by omega)]
  constructor
  · intro h
    have h1 : bt ((x >>> (nI i &&& 31)) &&& nI 1) 0 = bt (nI 1) 0 := by rw [h]
    rw [b_and, h0, bq_bt 1 (by omega)] at h1
    simpa using h1
  · intro h
    apply b_ext
    intro j hj
    rw [b_and, bq_bt 1 hj]
    by_cases hj0 : j = 0
    · subst hj0
      rw [h0, h]
      rfl
    · have : (1 : Nat).testBit j = false := Nat.testBit_lt_two_pow (Nat.one_lt_two_pow hj0)
      rw [this, Bool.and_false]
theorem kq_notbit {q i : Nat} (hi : i < 31) : ((nI q ^^^ (-1)) >>> (nI i &&& 31)) &&& nI 1 = nI 1 ↔ (!q.testBit i) = true := by
  rw [kq_bit _ hi, b_xor, bq_bt q (by omega), b_m1 i (by omega)]
  cases q.testBit i <;> simp
end
section
/-! leaves -/
theorem kq_z1 {c : Prop} {i : Decidable c} (h : ¬ (@ite _ c i (nI 1) (nI 0)) = 0) : c := by
  by_cases hc : c
  · exact hc
  · rw [if_neg hc] at h
    exact absurd nI_0 h
theorem kq_z0 {c : Prop} {i : Decidable c} (h : (@ite _ c i (nI 1) (nI 0)) = 0) : ¬ c := by
  intro hc
  rw [if_pos hc] at h
  exact absurd h (by decide)
theorem kq_has {p i : Nat} (hp : p < 2 ^ 31) (hi : i < 32) : (nI p >>> (nI i &&& 31)) &&& nI 1 = nI 1 ↔ p.testBit i = true := by
  rw [bq_has hp hi, nI_eq (by omega) (by omega)]
  exact bq_tb p i
set_option maxRecDepth 100000 in
set_option maxHeartbeats 4000000 in
theorem ct_has {l : Launch} {D : va_G} {kI kB kC kL : ClassId} (set i : Int32) : kw_I l mn_C_has (gw mn_C_has cd_C_has 2 (some .boolean)) ({ frames := 0, cells := 0, slots := 0, locals := 0 } : Room) D cl_v (kt kI kB kC kL) kE [.int set, .int i] ([]) (fun r w => w = [] ∧ r = if (set >>> (i &&& 31)) &&& nI 1 = nI 1 then nI 1 else nI 0) 0 0 := by
  refine kw_ofI (cc := cd_C_has) (maxL := 2) (ty := .boolean) (by decide) rfl (Nat.le_of_ble_eq_true rfl) rfl ?_
  intro pp ee s m args below meth c A X hr hlk hE hnm
  refine kw_iload_n X dc_C_has_0 rfl rfl ?_
  refine kw_iload_n X dc_C_has_1 rfl rfl ?_
  refine kw_ishr X dc_C_has_2 rfl ?_
  refine kw_iconst (v := (nI 1)) X dc_C_has_3 (by decide) ?_
  refine kw_iand X dc_C_has_4 rfl ?_
  refine kw_iconst (v := (nI 1)) X dc_C_has_5 (by decide) ?_
  refine kw_icmp_ne (tgt := 13) X dc_C_has_6 (by decide) (fun hc6 => ?_) (fun hc6 => ?_)
  · refine kw_iconst (v := (nI 0)) X dc_C_has_13 (by decide) ?_
    exact kw_zret X hr hlk rfl dc_C_has_14 ⟨rfl, by first | exact (if_pos hc6).symm | exact (if_neg hc6).symm⟩
  · refine kw_iconst (v := (nI 1)) X dc_C_has_9 (by decide) ?_
    refine kw_goto (tgt := 14) X dc_C_has_10 (by decide) ?_
    exact kw_zret X hr hlk rfl dc_C_has_14 ⟨rfl, by first | exact (if_pos hc6).symm | exact (if_neg hc6).symm⟩
set_option maxRecDepth 100000 in
set_option maxHeartbeats 4000000 in
theorem ct_hasN {l : Launch} {D : va_G} {kI kB kC kL : ClassId} (p i : Nat) (hp : p < 2 ^ 31) (hi : i < 32) : kw_I l mn_C_has (gw mn_C_has cd_C_has 2 (some .boolean)) ({ frames := 0, cells := 0, slots := 0, locals := 0 } : Room) D cl_v (kt kI kB kC kL) kE [.int (nI p), .int (nI i)] ([]) (fun r w => w = [] ∧ r = if p.testBit i = true then nI 1 else nI 0) 0 0 := by
  refine kw_ofI (cc := cd_C_has) (maxL := 2) (ty := .boolean) (by decide) rfl (Nat.le_of_ble_eq_true rfl) rfl ?_
  intro pp ee s m args below meth c A X hr hlk hE hnm
  refine kw_iload_n X dc_C_has_0 rfl rfl ?_
  refine kw_iload_n X dc_C_has_1 rfl rfl ?_
  refine kw_ishr X dc_C_has_2 rfl ?_
  refine kw_iconst (v := (nI 1)) X dc_C_has_3 (by decide) ?_
  refine kw_iand X dc_C_has_4 rfl ?_
  refine kw_iconst (v := (nI 1)) X dc_C_has_5 (by decide) ?_
  refine kw_icmp_ne (tgt := 13) X dc_C_has_6 (by decide) (fun hc6 => ?_) (fun hc6 => ?_)
  · refine kw_iconst (v := (nI 0)) X dc_C_has_13 (by decide) ?_
    exact kw_zret X hr hlk rfl dc_C_has_14 ⟨rfl, by first | exact (if_pos ((kq_has hp hi).mp hc6)).symm | exact (if_neg (fun z => hc6 ((kq_has hp hi).mpr z))).symm⟩
  · refine kw_iconst (v := (nI 1)) X dc_C_has_9 (by decide) ?_
    refine kw_goto (tgt := 14) X dc_C_has_10 (by decide) ?_
    exact kw_zret X hr hlk rfl dc_C_has_14 ⟨rfl, by first | exact (if_pos ((kq_has hp hi).mp hc6)).symm | exact (if_neg (fun z => hc6 ((kq_has hp hi).mpr z))).symm⟩
set_option maxRecDepth 100000 in
set_option maxHeartbeats 4000000 in
theorem ct_without {l : Launch} {D : va_G} {kI kB kC kL : ClassId} (p i : Nat) (hi : i < 31) : kw_I l mn_C_without (gw mn_C_without cd_C_without 2 (some .int)) ({ frames := 0, cells := 0, slots := 0, locals := 0 } : Room) D cl_v (kt kI kB kC kL) kE [.int (nI p), .int (nI i)] ([]) (fun r w => w = [] ∧ r = nI (bq_wo p i)) 0 0 := by
  refine kw_ofI (cc := cd_C_without) (maxL := 2) (ty := .int) (by decide) rfl (Nat.le_of_ble_eq_true rfl) rfl ?_
  intro pp ee s m args below meth c A X hr hlk hE hnm
  refine kw_iload_n X dc_C_without_0 rfl rfl ?_
  refine kw_iconst (v := (nI 1)) X dc_C_without_1 (by decide) ?_
  refine kw_iload_n X dc_C_without_2 rfl rfl ?_
  refine kw_ishl X dc_C_without_3 rfl ?_
  refine kw_iconst (v := (-1)) X dc_C_without_4 (by decide) ?_
  refine kw_ixor X dc_C_without_5 rfl ?_
  refine kw_iand X dc_C_without_6 rfl ?_
  exact kw_iret X hr hlk dc_C_without_7 ⟨rfl, bq_woI hi⟩
set_option maxRecDepth 100000 in
set_option maxHeartbeats 4000000 in
theorem ct_least {l : Launch} {D : va_G} {kI kB kC kL : ClassId} (set : Int32) (b : Nat → Bool) (hb : ∀ i, i < 12 → ((set >>> (nI i &&& 31)) &&& nI 1 = nI 1 ↔ b i = true)) : kw_I l mn_C_least (gw mn_C_least cd_C_least 2 (some .int)) ({ frames := 1, cells := 0, slots := 0, locals := 21 } : Room) D cl_v (kt kI kB kC kL) kE [.int set] ([]) (fun r w => w = [] ∧ r = nI (gm_least b)) 0 0 := by
  refine kw_ofI (cc := cd_C_least) (maxL := 2) (ty := .int) (by decide) rfl (Nat.le_of_ble_eq_true rfl) rfl ?_
  intro pp ee s m args below meth c A X hr hlk hE hnm
  refine kw_iconst (v := (nI 0)) X dc_C_least_0 (by decide) ?_
  refine kw_istore_n X dc_C_least_1 rfl (by decide) ?_
  refine kw_loop (α := Nat) (fun k => k ≤ 12 ∧ ∀ j, j < k → b j = false) (fun k => 12 - k) (fun _ => []) (fun k => [some (.int set), some (.int (nI k))]) (fun _ => []) 0 ⟨Nat.zero_le _, fun j h => absurd h (Nat.not_lt_zero _)⟩ (fun k hk ih => ?_)
  refine kw_iload_n X dc_C_least_2 rfl rfl ?_
  refine kw_bipush (v := (nI 12)) X dc_C_least_3 (by decide) ?_
  refine kw_icmp_ge (tgt := 22) X dc_C_least_5 (by decide) (fun hc5 => ?_) (fun hc5 => ?_)
  · refine kw_iload_n X dc_C_least_22 rfl rfl ?_
    exact kw_iret X hr hlk dc_C_least_23 ⟨rfl, by first | (have h12 : k = 12 := by (have := kq_le hc5; omega)); rw [gm_least_eq hk.1 (fun z => by omega) hk.2] | (have h12 : k < 12 := by (exact kq_nle hc5)); rw [gm_least_eq hk.1 (fun _ => (hb k h12).mp (kq_z1 hc13)) hk.2]⟩
  · refine kw_iload_n X dc_C_least_8 rfl rfl ?_
    refine kw_iload_n X dc_C_least_9 rfl rfl ?_
    refine kw_callSI X kEw hE (ct_has set (nI k)) (cw_S 2 X wd_412 wd_195 wd_1 wd_196 rfl rfl (by decide +kernel) ⟨Nat.le_of_ble_eq_true rfl, Nat.le_of_ble_eq_true rfl⟩) [] rfl (by decide) (fun _ _ _ => Nat.zero_le _) rfl rfl (Nat.le_of_ble_eq_true rfl) dc_C_least_10 ⟨Nat.zero_le _, Nat.zero_le _⟩ (fun r w hp => ?_)
    obtain ⟨rfl, rfl⟩ := hp
    refine kw_if_ne (tgt := 22) X dc_C_least_13 (by decide) (fun hc13 => ?_) (fun hc13 => ?_)
    · refine kw_iload_n X dc_C_least_22 rfl rfl ?_
      exact kw_iret X hr hlk dc_C_least_23 ⟨rfl, by first | (have h12 : k = 12 := by (have := kq_le hc5; omega)); rw [gm_least_eq hk.1 (fun z => by omega) hk.2] | (have h12 : k < 12 := by (exact kq_nle hc5)); rw [gm_least_eq hk.1 (fun _ => (hb k h12).mp (kq_z1 hc13)) hk.2]⟩
    · refine kw_iinc (v := nI (k + 1)) X dc_C_least_16 rfl (kq_inc k) (by decide) ?_
      refine kw_goto (tgt := 2) X dc_C_least_19 (by decide) ?_
      exact ih (k + 1) ⟨kq_nle hc5, fun j hj => by
        by_cases hjk : j = k
        · subst hjk
          have h1 := kq_z0 hc13
          rw [hb j (kq_nle hc5)] at h1
          simpa using h1
        · exact hk.2 j (by omega)⟩ (by have := kq_nle hc5; omega)
set_option maxRecDepth 100000 in
set_option maxHeartbeats 4000000 in
theorem ct_isCoin {l : Launch} {D : va_G} {kI kB kC kL : ClassId} (a : Int32) : kw_I l mn_C_isCoin (gw mn_C_isCoin cd_C_isCoin 1 (some .boolean)) ({ frames := 0, cells := 0, slots := 0, locals := 0 } : Room) D cl_v (kt kI kB kC kL) kE [.int a] ([]) (fun r w => w = [] ∧ r = if 0 ≤ a ∧ a < nI 8 then nI 1 else nI 0) 0 0 := by
  refine kw_ofI (cc := cd_C_isCoin) (maxL := 1) (ty := .boolean) (by decide) rfl (Nat.le_of_ble_eq_true rfl) rfl ?_
  intro pp ee s m args below meth c A X hr hlk hE hnm
  refine kw_iload_n X dc_C_isCoin_0 rfl rfl ?_
  refine kw_if_lt (tgt := 14) X dc_C_isCoin_1 (by decide) (fun hc1 => ?_) (fun hc1 => ?_)
  · refine kw_iconst (v := (nI 0)) X dc_C_isCoin_14 (by decide) ?_
    exact kw_zret X hr hlk rfl dc_C_isCoin_15 ⟨rfl, by first | exact (if_pos ⟨Int32.not_lt.mp hc1, Int32.not_le.mp hc7⟩).symm | exact (if_neg (fun z => absurd z.2 (Int32.not_lt.mpr hc7))).symm | exact (if_neg (fun z => absurd hc1 (Int32.not_lt.mpr z.1))).symm⟩
  · refine kw_iload_n X dc_C_isCoin_4 rfl rfl ?_
    refine kw_bipush (v := (nI 8)) X dc_C_isCoin_5 (by decide) ?_
    refine kw_icmp_ge (tgt := 14) X dc_C_isCoin_7 (by decide) (fun hc7 => ?_) (fun hc7 => ?_)
    · refine kw_iconst (v := (nI 0)) X dc_C_isCoin_14 (by decide) ?_
      exact kw_zret X hr hlk rfl dc_C_isCoin_15 ⟨rfl, by first | exact (if_pos ⟨Int32.not_lt.mp hc1, Int32.not_le.mp hc7⟩).symm | exact (if_neg (fun z => absurd z.2 (Int32.not_lt.mpr hc7))).symm | exact (if_neg (fun z => absurd hc1 (Int32.not_lt.mpr z.1))).symm⟩
    · refine kw_iconst (v := (nI 1)) X dc_C_isCoin_10 (by decide) ?_
      refine kw_goto (tgt := 15) X dc_C_isCoin_11 (by decide) ?_
      exact kw_zret X hr hlk rfl dc_C_isCoin_15 ⟨rfl, by first | exact (if_pos ⟨Int32.not_lt.mp hc1, Int32.not_le.mp hc7⟩).symm | exact (if_neg (fun z => absurd z.2 (Int32.not_lt.mpr hc7))).symm | exact (if_neg (fun z => absurd hc1 (Int32.not_lt.mpr z.1))).symm⟩
/-- what Integer.bitCount does to an int -/
def bc_1 (x : Int32) : Int32 := x - ((x.toUInt32 >>> ((nI 1).toUInt32 &&& Int32.toUInt32 31)).toInt32 &&& 1431655765)
def bc_2 (x : Int32) : Int32 := (x &&& 858993459) + ((x.toUInt32 >>> ((nI 2).toUInt32 &&& Int32.toUInt32 31)).toInt32 &&& 858993459)
def bc_3 (x : Int32) : Int32 := (x + (x.toUInt32 >>> ((nI 4).toUInt32 &&& Int32.toUInt32 31)).toInt32) &&& 252645135
def bc_4 (x : Int32) : Int32 := x + (x.toUInt32 >>> ((nI 8).toUInt32 &&& Int32.toUInt32 31)).toInt32
def bc_5 (x : Int32) : Int32 := x + (x.toUInt32 >>> ((nI 16).toUInt32 &&& Int32.toUInt32 31)).toInt32
def bc_6 (x : Int32) : Int32 := bc_5 (bc_4 (bc_3 (bc_2 (bc_1 x)))) &&& nI 63
theorem bc_tab : ∀ a, a < 64 → ∀ b, b < 64 → bc_6 (nI (64 * a + b)) = nI (gm_pc (64 * a + b)) := by decide +kernel
theorem bc_ok {m : Nat} (h : m < 4096) : bc_6 (nI m) = nI (gm_pc m) := by
  have h1 := bc_tab (m / 64) (by omega) (m % 64) (by omega)
  rw [show 64 * (m / 64) + m % 64 = m from Nat.div_add_mod m 64] at h1
  exact h1
set_option maxRecDepth 100000 in
set_option maxHeartbeats 4000000 in
theorem ct_bitCount {l : Launch} {D : va_G} {kI kB kC kL : ClassId} (k : Nat) (hk : k < 4096) : kw_I l mn_I_bitCount (gw mn_I_bitCount cd_I_bitCount 1 (some .int)) ({ frames := 0, cells := 0, slots := 0, locals := 0 } : Room) D cl_v (kt kI kB kC kL) kE [.int (nI k)] ([]) (fun r w => w = [] ∧ r = nI (gm_pc k)) 0 0 := by
  refine kw_ofI (cc := cd_I_bitCount) (maxL := 1) (ty := .int) (by decide) rfl (Nat.le_of_ble_eq_true rfl) rfl ?_
  intro pp ee s m args below meth c A X hr hlk hE hnm
  refine kw_iload_n X dc_I_bitCount_0 rfl rfl ?_
  refine kw_iload_n X dc_I_bitCount_1 rfl rfl ?_
  refine kw_iconst (v := (nI 1)) X dc_I_bitCount_2 (by decide) ?_
  refine kw_iushr X dc_I_bitCount_3 rfl ?_
  refine kw_ldcw X wd_187 dc_I_bitCount_4 ?_
  refine kw_iand X dc_I_bitCount_7 rfl ?_
  refine kw_isub X dc_I_bitCount_8 rfl ?_
  refine kw_istore_n X dc_I_bitCount_9 rfl (by decide) ?_
  refine kw_iload_n X dc_I_bitCount_10 rfl rfl ?_
  refine kw_ldcw X wd_188 dc_I_bitCount_11 ?_
  refine kw_iand X dc_I_bitCount_14 rfl ?_
  refine kw_iload_n X dc_I_bitCount_15 rfl rfl ?_
  refine kw_iconst (v := (nI 2)) X dc_I_bitCount_16 (by decide) ?_
  refine kw_iushr X dc_I_bitCount_17 rfl ?_
  refine kw_ldcw X wd_188 dc_I_bitCount_18 ?_
  refine kw_iand X dc_I_bitCount_21 rfl ?_
  refine kw_iadd X dc_I_bitCount_22 rfl ?_
  refine kw_istore_n X dc_I_bitCount_23 rfl (by decide) ?_
  refine kw_iload_n X dc_I_bitCount_24 rfl rfl ?_
  refine kw_iload_n X dc_I_bitCount_25 rfl rfl ?_
  refine kw_iconst (v := (nI 4)) X dc_I_bitCount_26 (by decide) ?_
  refine kw_iushr X dc_I_bitCount_27 rfl ?_
  refine kw_iadd X dc_I_bitCount_28 rfl ?_
  refine kw_ldcw X wd_189 dc_I_bitCount_29 ?_
  refine kw_iand X dc_I_bitCount_32 rfl ?_
  refine kw_istore_n X dc_I_bitCount_33 rfl (by decide) ?_
  refine kw_iload_n X dc_I_bitCount_34 rfl rfl ?_
  refine kw_iload_n X dc_I_bitCount_35 rfl rfl ?_
  refine kw_bipush (v := (nI 8)) X dc_I_bitCount_36 (by decide) ?_
  refine kw_iushr X dc_I_bitCount_38 rfl ?_
  refine kw_iadd X dc_I_bitCount_39 rfl ?_
  refine kw_istore_n X dc_I_bitCount_40 rfl (by decide) ?_
  refine kw_iload_n X dc_I_bitCount_41 rfl rfl ?_
  refine kw_iload_n X dc_I_bitCount_42 rfl rfl ?_
  refine kw_bipush (v := (nI 16)) X dc_I_bitCount_43 (by decide) ?_
  refine kw_iushr X dc_I_bitCount_45 rfl ?_
  refine kw_iadd X dc_I_bitCount_46 rfl ?_
  refine kw_istore_n X dc_I_bitCount_47 rfl (by decide) ?_
  refine kw_iload_n X dc_I_bitCount_48 rfl rfl ?_
  refine kw_bipush (v := (nI 63)) X dc_I_bitCount_49 (by decide) ?_
  refine kw_iand X dc_I_bitCount_51 rfl ?_
  exact kw_iret X hr hlk dc_I_bitCount_52 ⟨rfl, bc_ok hk⟩
set_option maxRecDepth 100000 in
set_option maxHeartbeats 4000000 in
theorem ct_fill {l : Launch} {D : va_G} {kI kB kC kL : ClassId} (a0 n : Nat) (v : Int32) (f : Nat → Int32) (hn : n ≤ 4096) : kw_V l mn_A_fill (gw mn_A_fill cd_A_fill 4 none) ({ frames := 0, cells := 0, slots := 0, locals := 0 } : Room) D cl_v (kt kI kB kC kL) kE [.ref a0, .int v] ([(a0, .inl (kI, n, .inl f))]) (fun w => ∃ g : Nat → Int32, w = [(a0, .inl (kI, n, .inl g))] ∧ ∀ j, j < n → g j = v) 0 0 := by
  refine kw_ofV (cc := cd_A_fill) (maxL := 4) (by decide) rfl (Nat.le_of_ble_eq_true rfl) rfl ?_
  intro pp ee s m args below meth c A X hr hlk hE hnm
  refine kw_iconst (v := (nI 0)) X dc_A_fill_0 (by decide) ?_
  refine kw_istore_n X dc_A_fill_1 rfl (by decide) ?_
  refine kw_aload_n X dc_A_fill_2 rfl rfl ?_
  refine kw_alen X 0 0 rfl rfl rfl dc_A_fill_3 ?_
  refine kw_istore_n X dc_A_fill_4 rfl (by decide) ?_
  refine kw_loop (α := Nat) (fun k => k ≤ n) (fun k => n - k) (fun k => [(a0, .inl (kI, n, .inl (kq_pre (fun _ => v) f k)))]) (fun k => [some (.ref a0), some (.int v), some (.int (nI k)), some (.int (nI n))]) (fun _ => []) 0 (Nat.zero_le _) (fun k hk ih => ?_)
  refine kw_iload_n X dc_A_fill_5 rfl rfl ?_
  refine kw_iload_n X dc_A_fill_6 rfl rfl ?_
  refine kw_icmp_ge (tgt := 20) X dc_A_fill_7 (by decide) (fun hc7 => ?_) (fun hc7 => ?_)
  · exact kw_vret X hr hlk dc_A_fill_20 ⟨_, rfl, fun j hj => kq_pre_lt (by have := kq_le hc7; omega)⟩
  · have hkn : k < n := kq_nle hc7
    refine kw_aload_n X dc_A_fill_10 rfl rfl ?_
    refine kw_iload_n X dc_A_fill_11 rfl rfl ?_
    refine kw_iload_n X dc_A_fill_12 rfl rfl ?_
    refine kw_iast X 0 0 rfl rfl (kq_in hkn hn) dc_A_fill_13 ?_
    refine kw_iinc (v := nI (k + 1)) X dc_A_fill_14 rfl (kq_inc k) (by decide) ?_
    refine kw_goto (tgt := 5) X dc_A_fill_17 (by decide) ?_
    refine kw_cv (ws' := [(a0, .inl (kI, n, .inl (kq_pre (fun _ => v) f (k + 1))))]) (by
      show [(a0, Sum.inl (kI, n, Sum.inl (upd (kq_pre (fun _ => v) f k) (nI k).toNatClampNeg v)))] = _
      rw [kq_cl (by omega), kq_pre_upd rfl]) rfl rfl ?_
    exact ih (k + 1) (by omega) (by omega)
end
section
set_option maxRecDepth 100000 in
set_option maxHeartbeats 4000000 in
theorem ct_size {l : Launch} {D : va_G} {kI kB kC kL : ClassId} (w0 w1 w2 w3 n : Nat) (les oth soc : Nat → Int32)  : kw_I l mn_W_size (gw mn_W_size cd_W_size 1 (some .int)) ({ frames := 0, cells := 0, slots := 0, locals := 0 } : Room) D cl_v (kt kI kB kC kL) kE [.ref w0] (wWeb kI w0 w1 w2 w3 n les oth soc) (fun r w => w = wWeb kI w0 w1 w2 w3 n les oth soc ∧ r = nI n) 0 0 := by
  refine kw_ofI (cc := cd_W_size) (maxL := 1) (ty := .int) (by decide) rfl (Nat.le_of_ble_eq_true rfl) rfl ?_
  intro pp ee s m args below meth c A X hr hlk hE hnm
  refine kw_aload_n X dc_W_size_0 rfl rfl ?_
  refine kw_get X (wc_W _) 0 rfl rfl 3 (by decide) (gq wd_36) (fun _ h => h) rfl dc_W_size_1 ?_
  exact kw_iret X hr hlk dc_W_size_4 ⟨rfl, rfl⟩
set_option maxRecDepth 100000 in
set_option maxHeartbeats 4000000 in
theorem ct_every {l : Launch} {D : va_G} {kI kB kC kL : ClassId} (w0 w1 w2 w3 n : Nat) (les oth soc : Nat → Int32) (hn : n ≤ 12) : kw_I l mn_W_everyString (gw mn_W_everyString cd_W_everyString 1 (some .int)) ({ frames := 0, cells := 0, slots := 0, locals := 0 } : Room) D cl_v (kt kI kB kC kL) kE [.ref w0] (wWeb kI w0 w1 w2 w3 n les oth soc) (fun r w => w = wWeb kI w0 w1 w2 w3 n les oth soc ∧ r = nI (2 ^ n - 1)) 0 0 := by
  refine kw_ofI (cc := cd_W_everyString) (maxL := 1) (ty := .int) (by decide) rfl (Nat.le_of_ble_eq_true rfl) rfl ?_
  intro pp ee s m args below meth c A X hr hlk hE hnm
  refine kw_iconst (v := (nI 1)) X dc_W_everyString_0 (by decide) ?_
  refine kw_aload_n X dc_W_everyString_1 rfl rfl ?_
  refine kw_get X (wc_W _) 0 rfl rfl 3 (by decide) (gq wd_36) (fun _ h => h) rfl dc_W_everyString_2 ?_
  refine kw_ishl (v := nI (2 ^ n)) X dc_W_everyString_5 (bq_shl (by omega)) ?_
  refine kw_iconst (v := (nI 1)) X dc_W_everyString_6 (by decide) ?_
  refine kw_isub (v := nI (2 ^ n - 1)) X dc_W_everyString_7 (pk_sub (Nat.two_pow_pos n)) ?_
  exact kw_iret X hr hlk dc_W_everyString_8 ⟨rfl, rfl⟩
set_option maxRecDepth 100000 in
set_option maxHeartbeats 4000000 in
theorem ct_lesser {l : Launch} {D : va_G} {kI kB kC kL : ClassId} (w0 w1 w2 w3 n : Nat) (les oth soc : Nat → Int32) (i : Nat) (hi : i < 12) : kw_I l mn_W_lesserEnd (gw mn_W_lesserEnd cd_W_lesserEnd 2 (some .int)) ({ frames := 0, cells := 0, slots := 0, locals := 0 } : Room) D cl_v (kt kI kB kC kL) kE [.ref w0, .int (nI i)] (wWeb kI w0 w1 w2 w3 n les oth soc) (fun r w => w = wWeb kI w0 w1 w2 w3 n les oth soc ∧ r = les i) 0 0 := by
  refine kw_ofI (cc := cd_W_lesserEnd) (maxL := 2) (ty := .int) (by decide) rfl (Nat.le_of_ble_eq_true rfl) rfl ?_
  intro pp ee s m args below meth c A X hr hlk hE hnm
  refine kw_aload_n X dc_W_lesserEnd_0 rfl rfl ?_
  refine kw_get X (wc_W _) 0 rfl rfl 0 (by decide) (gq wd_33) (fun _ h => h) rfl dc_W_lesserEnd_1 ?_
  refine kw_iload_n X dc_W_lesserEnd_4 rfl rfl ?_
  refine kw_iald (v := les i) X 1 0 rfl rfl (kq_in hi (by omega)) (by rw [kq_cl (by omega)]) dc_W_lesserEnd_5 ?_
  exact kw_iret X hr hlk dc_W_lesserEnd_6 ⟨rfl, rfl⟩
set_option maxRecDepth 100000 in
set_option maxHeartbeats 4000000 in
theorem ct_other {l : Launch} {D : va_G} {kI kB kC kL : ClassId} (w0 w1 w2 w3 n : Nat) (les oth soc : Nat → Int32) (i : Nat) (hi : i < 12) : kw_I l mn_W_otherEnd (gw mn_W_otherEnd cd_W_otherEnd 2 (some .int)) ({ frames := 0, cells := 0, slots := 0, locals := 0 } : Room) D cl_v (kt kI kB kC kL) kE [.ref w0, .int (nI i)] (wWeb kI w0 w1 w2 w3 n les oth soc) (fun r w => w = wWeb kI w0 w1 w2 w3 n les oth soc ∧ r = oth i) 0 0 := by
  refine kw_ofI (cc := cd_W_otherEnd) (maxL := 2) (ty := .int) (by decide) rfl (Nat.le_of_ble_eq_true rfl) rfl ?_
  intro pp ee s m args below meth c A X hr hlk hE hnm
  refine kw_aload_n X dc_W_otherEnd_0 rfl rfl ?_
  refine kw_get X (wc_W _) 0 rfl rfl 1 (by decide) (gq wd_34) (fun _ h => h) rfl dc_W_otherEnd_1 ?_
  refine kw_iload_n X dc_W_otherEnd_4 rfl rfl ?_
  refine kw_iald (v := oth i) X 2 0 rfl rfl (kq_in hi (by omega)) (by rw [kq_cl (by omega)]) dc_W_otherEnd_5 ?_
  exact kw_iret X hr hlk dc_W_otherEnd_6 ⟨rfl, rfl⟩
theorem kq_mk {lo hi : Nat → Nat} {n : Nat} (hn : n ≤ 12) (c : Nat) : gm_mk lo hi n c < 4096 := Nat.lt_of_lt_of_le (gm_mk_lt lo hi n c) (show 2 ^ n ≤ 2 ^ 12 from Nat.pow_le_pow_right (by decide) hn)
theorem kq_pmk {lo hi : Nat → Nat} {n : Nat} (hn : n ≤ 12) (p c : Nat) : p &&& gm_mk lo hi n c < 4096 := Nat.lt_of_le_of_lt Nat.and_le_right (kq_mk hn c)
theorem kq_p2 {i : Nat} (hi : i < 31) : 2 ^ i < 2 ^ 31 := Nat.pow_lt_pow_right (by decide) hi
theorem webOk_j {lo hi : Nat → Nat} {n a b : Nat} {les oth soc les' oth' soc' : Nat → Int32} (h : webOk lo hi n les oth soc) (hn : n < 12) (ha : a < 8) (hb : b ≤ 8) (hab : a ≠ b) (h1 : ∀ i, i < n → les' i = les i) (h2 : les' n = nI (min a b)) (h3 : ∀ i, i < n → oth' i = oth i) (h4 : oth' n = og (max a b))
    (h5 : ∀ c, c < 8 → soc' c = if c = a ∨ c = b then nI (gm_mk lo hi n c ||| 2 ^ n) else soc c) : webOk (fun i => if i = n then min a b else lo i) (fun i => if i = n then max a b else hi i) (n + 1) les' oth' soc' := by
  obtain ⟨⟨k1, k2⟩, k3, k4⟩ := h
  have eL : ∀ i, i < n → (if i = n then min a b else lo i) = lo i := fun i hi' => if_neg (by omega)
  have eH : ∀ i, i < n → (if i = n then max a b else hi i) = hi i := fun i hi' => if_neg (by omega)
  refine ⟨⟨by omega, fun i hi' => ?_⟩, fun i hi' => ?_, fun c hc => ?_⟩
  · by_cases hin : i = n
    · subst hin
      simp only [if_true]
      omega
    · have := k2 i (by omega)
      simp only [hin, if_false]
      exact this
  · by_cases hin : i = n
    · subst hin
      simp only [if_true]
      exact ⟨h2, h4⟩
    · have := k3 i (by omega)
      simp only [hin, if_false]
      rw [h1 i (by omega), h3 i (by omega)]
      exact this
  · rw [h5 c hc]
    rw [show gm_mk (fun i => if i = n then min a b else lo i) (fun i => if i = n then max a b else hi i) (n + 1) c = gm_mk (fun i => if i = n then min a b else lo i) (fun i => if i = n then max a b else hi i) n c ||| (if (if n = n then min a b else lo n) = c ∨ (if n = n then max a b else hi n) = c then 2 ^ n else 0) from rfl, gm_mk_congr (lo := lo) (hi := hi) eL eH c, if_pos (rfl : n = n), if_pos (rfl : n = n)]
    by_cases hq : c = a ∨ c = b
    · rw [if_pos hq, if_pos (show min a b = c ∨ max a b = c by omega)]
    · rw [if_neg hq, if_neg (show ¬ (min a b = c ∨ max a b = c) by omega), k4 c hc, Nat.or_zero]
set_option maxRecDepth 100000 in
set_option maxHeartbeats 4000000 in
theorem ct_hangs {l : Launch} {D : va_G} {kI kB kC kL : ClassId} (w0 w1 w2 w3 n : Nat) (les oth soc : Nat → Int32) (p c0 i : Nat) (lo hi : Nat → Nat) (ok : webOk lo hi n les oth soc) (hc : c0 < 8) (hi1 : i < 31) : kw_I l mn_W_hangsOnlyOn (gw mn_W_hangsOnlyOn cd_W_hangsOnlyOn 4 (some .boolean)) ({ frames := 0, cells := 0, slots := 0, locals := 0 } : Room) D cl_v (kt kI kB kC kL) kE [.ref w0, .int (nI p), .int (nI c0), .int (nI i)] (wWeb kI w0 w1 w2 w3 n les oth soc) (fun r w => w = wWeb kI w0 w1 w2 w3 n les oth soc ∧ r = if p &&& gm_mk lo hi n c0 = 2 ^ i then nI 1 else nI 0) 0 0 := by
  refine kw_ofI (cc := cd_W_hangsOnlyOn) (maxL := 4) (ty := .boolean) (by decide) rfl (Nat.le_of_ble_eq_true rfl) rfl ?_
  intro pp ee s m args below meth c A X hr hlk hE hnm
  refine kw_iload_n X dc_W_hangsOnlyOn_0 rfl rfl ?_
  refine kw_aload_n X dc_W_hangsOnlyOn_1 rfl rfl ?_
  refine kw_get X (wc_W _) 0 rfl rfl 2 (by decide) (gq wd_35) (fun _ h => h) rfl dc_W_hangsOnlyOn_2 ?_
  refine kw_iload_n X dc_W_hangsOnlyOn_5 rfl rfl ?_
  refine kw_iald (v := nI (gm_mk lo hi n c0)) X 3 0 rfl rfl (kq_in hc (by omega)) (by rw [kq_cl (by omega)]; exact ok.2.2 c0 hc) dc_W_hangsOnlyOn_6 ?_
  refine kw_iand (v := nI (p &&& gm_mk lo hi n c0)) X dc_W_hangsOnlyOn_7 (nx_and _ _) ?_
  refine kw_iconst (v := (nI 1)) X dc_W_hangsOnlyOn_8 (by decide) ?_
  refine kw_iload_n X dc_W_hangsOnlyOn_9 rfl rfl ?_
  refine kw_ishl (v := nI (2 ^ i)) X dc_W_hangsOnlyOn_10 (bq_shl hi1) ?_
  have h31 := kq_p2 hi1
  have hpm := kq_pmk (lo := lo) (hi := hi) ok.1.1 p c0
  refine kw_icmp_ne (tgt := 18) X dc_W_hangsOnlyOn_11 (by decide) (fun hc11 => ?_) (fun hc11 => ?_)
  · refine kw_iconst (v := (nI 0)) X dc_W_hangsOnlyOn_18 (by decide) ?_
    exact kw_zret X hr hlk rfl dc_W_hangsOnlyOn_19 ⟨rfl, by first | exact (if_pos (kq_eq hc11)).symm | exact (if_neg (kq_ne hc11)).symm⟩
  · refine kw_iconst (v := (nI 1)) X dc_W_hangsOnlyOn_14 (by decide) ?_
    refine kw_goto (tgt := 19) X dc_W_hangsOnlyOn_15 (by decide) ?_
    exact kw_zret X hr hlk rfl dc_W_hangsOnlyOn_19 ⟨rfl, by first | exact (if_pos (kq_eq hc11)).symm | exact (if_neg (kq_ne hc11)).symm⟩
set_option maxRecDepth 100000 in
set_option maxHeartbeats 4000000 in
theorem ct_freed {l : Launch} {D : va_G} {kI kB kC kL : ClassId} (w0 w1 w2 w3 n : Nat) (les oth soc : Nat → Int32) (p i : Nat) (lo hi : Nat → Nat) (ok : webOk lo hi n les oth soc) (hi1 : i < n) : kw_I l mn_W_freed (gw mn_W_freed cd_W_freed 4 (some .int)) ({ frames := 1, cells := 0, slots := 0, locals := 23 } : Room) D cl_v (kt kI kB kC kL) kE [.ref w0, .int (nI p), .int (nI i)] (wWeb kI w0 w1 w2 w3 n les oth soc) (fun r w => w = wWeb kI w0 w1 w2 w3 n les oth soc ∧ r = nI (gm_tk lo hi n p i)) 0 0 := by
  refine kw_ofI (cc := cd_W_freed) (maxL := 4) (ty := .int) (by decide) rfl (Nat.le_of_ble_eq_true rfl) rfl ?_
  intro pp ee s m args below meth c A X hr hlk hE hnm
  have hn := ok.1.1
  obtain ⟨o1, o2, o3⟩ := ok.1.2 i hi1
  obtain ⟨e1, e2⟩ := ok.2.1 i hi1
  refine kw_aload_n X dc_W_freed_0 rfl rfl ?_
  refine kw_iload_n X dc_W_freed_1 rfl rfl ?_
  refine kw_aload_n X dc_W_freed_2 rfl rfl ?_
  refine kw_get X (wc_W _) 0 rfl rfl 0 (by decide) (gq wd_33) (fun _ h => h) rfl dc_W_freed_3 ?_
  refine kw_iload_n X dc_W_freed_6 rfl rfl ?_
  refine kw_iald (v := nI (lo i)) X 1 0 rfl rfl (kq_in (by omega) (by omega)) (by rw [kq_cl (by omega)]; exact e1) dc_W_freed_7 ?_
  refine kw_iload_n X dc_W_freed_8 rfl rfl ?_
  refine kw_callVI X kEw hE 0 rfl rfl (ct_hangs w0 w1 w2 w3 n les oth soc p (lo i) i lo hi ok o1 (by omega)) (cw_V 3 X wd_436 wd_438 wp_8 wd_2 wd_439 rfl rfl (by decide +kernel) ⟨Nat.le_of_ble_eq_true rfl, Nat.le_of_ble_eq_true rfl⟩) [0, 1, 2, 3] rfl (by decide) (fun _ _ h => by obtain ⟨rfl, _⟩ := h; exact Nat.le_refl _) rfl rfl (Nat.le_of_ble_eq_true rfl) dc_W_freed_9 ⟨Nat.zero_le _, Nat.zero_le _⟩ (fun r w hp => ?_)
  obtain ⟨rfl, rfl⟩ := hp
  refine kw_if_eq (tgt := 19) X dc_W_freed_12 (by decide) (fun hc12 => ?_) (fun hc12 => ?_)
  · have h12 := kq_z0 hc12
    refine kw_iconst (v := (nI 0)) X dc_W_freed_19 (by decide) ?_
    refine kw_istore_n X dc_W_freed_20 rfl (by decide) ?_
    refine kw_aload_n X dc_W_freed_21 rfl rfl ?_
    refine kw_get X (wc_W _) 0 rfl rfl 1 (by decide) (gq wd_34) (fun _ h => h) rfl dc_W_freed_22 ?_
    refine kw_iload_n X dc_W_freed_25 rfl rfl ?_
    refine kw_iald (v := og (hi i)) X 2 0 rfl rfl (kq_in (by omega) (by omega)) (by rw [kq_cl (by omega)]; exact e2) dc_W_freed_26 ?_
    refine kw_iconst (v := (-1)) X dc_W_freed_27 (by decide) ?_
    refine kw_icmp_eq (tgt := 49) X dc_W_freed_28 (by decide) (fun hc28 => ?_) (fun hc28 => ?_)
    · have h28 := (og_m1 o2).mp hc28
      refine kw_iload_n X dc_W_freed_49 rfl rfl ?_
      exact kw_iret X hr hlk dc_W_freed_50 ⟨rfl, by unfold gm_tk; first | (rw [if_pos h12, if_neg h29, if_pos h43]; exact kq_inc 1) | (rw [if_neg h12, if_neg h29, if_pos h43]; exact kq_inc 0) | (rw [if_pos h12, if_neg h29, if_neg h43]; try rfl) | (rw [if_neg h12, if_neg h29, if_neg h43]; try rfl) | (rw [if_pos h12, if_pos h28]; try rfl) | (rw [if_neg h12, if_pos h28]; try rfl)⟩
    · have h28 : hi i < 8 := by
        have h8 : hi i ≠ 8 := fun z => hc28 ((og_m1 o2).mpr z)
        omega
      have h29 : ¬ hi i = 8 := by omega
      refine kw_aload_n X dc_W_freed_31 rfl rfl ?_
      refine kw_iload_n X dc_W_freed_32 rfl rfl ?_
      refine kw_aload_n X dc_W_freed_33 rfl rfl ?_
      refine kw_get X (wc_W _) 0 rfl rfl 1 (by decide) (gq wd_34) (fun _ h => h) rfl dc_W_freed_34 ?_
      refine kw_iload_n X dc_W_freed_37 rfl rfl ?_
      refine kw_iald (v := nI (hi i)) X 2 0 rfl rfl (kq_in (by omega) (by omega)) (by rw [kq_cl (by omega), e2]; exact og_lt h28) dc_W_freed_38 ?_
      refine kw_iload_n X dc_W_freed_39 rfl rfl ?_
      refine kw_callVI X kEw hE 0 rfl rfl (ct_hangs w0 w1 w2 w3 n les oth soc p (hi i) i lo hi ok h28 (by omega)) (cw_V 3 X wd_436 wd_438 wp_8 wd_2 wd_439 rfl rfl (by decide +kernel) ⟨Nat.le_of_ble_eq_true rfl, Nat.le_of_ble_eq_true rfl⟩) [0, 1, 2, 3] rfl (by decide) (fun _ _ h => by obtain ⟨rfl, _⟩ := h; exact Nat.le_refl _) rfl rfl (Nat.le_of_ble_eq_true rfl) dc_W_freed_40 ⟨Nat.zero_le _, Nat.zero_le _⟩ (fun r w hp => ?_)
      obtain ⟨rfl, rfl⟩ := hp
      refine kw_if_eq (tgt := 49) X dc_W_freed_43 (by decide) (fun hc43 => ?_) (fun hc43 => ?_)
      · have h43 := kq_z0 hc43
        refine kw_iload_n X dc_W_freed_49 rfl rfl ?_
        exact kw_iret X hr hlk dc_W_freed_50 ⟨rfl, by unfold gm_tk; first | (rw [if_pos h12, if_neg h29, if_pos h43]; exact kq_inc 1) | (rw [if_neg h12, if_neg h29, if_pos h43]; exact kq_inc 0) | (rw [if_pos h12, if_neg h29, if_neg h43]; try rfl) | (rw [if_neg h12, if_neg h29, if_neg h43]; try rfl) | (rw [if_pos h12, if_pos h28]; try rfl) | (rw [if_neg h12, if_pos h28]; try rfl)⟩
      · have h43 := kq_z1 hc43
        refine kw_iinc X dc_W_freed_46 rfl rfl (by decide) ?_
        refine kw_iload_n X dc_W_freed_49 rfl rfl ?_
        exact kw_iret X hr hlk dc_W_freed_50 ⟨rfl, by unfold gm_tk; first | (rw [if_pos h12, if_neg h29, if_pos h43]; exact kq_inc 1) | (rw [if_neg h12, if_neg h29, if_pos h43]; exact kq_inc 0) | (rw [if_pos h12, if_neg h29, if_neg h43]; try rfl) | (rw [if_neg h12, if_neg h29, if_neg h43]; try rfl) | (rw [if_pos h12, if_pos h28]; try rfl) | (rw [if_neg h12, if_pos h28]; try rfl)⟩
  · have h12 := kq_z1 hc12
    refine kw_iconst (v := (nI 1)) X dc_W_freed_15 (by decide) ?_
    refine kw_goto (tgt := 20) X dc_W_freed_16 (by decide) ?_
    refine kw_istore_n X dc_W_freed_20 rfl (by decide) ?_
    refine kw_aload_n X dc_W_freed_21 rfl rfl ?_
    refine kw_get X (wc_W _) 0 rfl rfl 1 (by decide) (gq wd_34) (fun _ h => h) rfl dc_W_freed_22 ?_
    refine kw_iload_n X dc_W_freed_25 rfl rfl ?_
    refine kw_iald (v := og (hi i)) X 2 0 rfl rfl (kq_in (by omega) (by omega)) (by rw [kq_cl (by omega)]; exact e2) dc_W_freed_26 ?_
    refine kw_iconst (v := (-1)) X dc_W_freed_27 (by decide) ?_
    refine kw_icmp_eq (tgt := 49) X dc_W_freed_28 (by decide) (fun hc28 => ?_) (fun hc28 => ?_)
    · have h28 := (og_m1 o2).mp hc28
      refine kw_iload_n X dc_W_freed_49 rfl rfl ?_
      exact kw_iret X hr hlk dc_W_freed_50 ⟨rfl, by unfold gm_tk; first | (rw [if_pos h12, if_neg h29, if_pos h43]; exact kq_inc 1) | (rw [if_neg h12, if_neg h29, if_pos h43]; exact kq_inc 0) | (rw [if_pos h12, if_neg h29, if_neg h43]; try rfl) | (rw [if_neg h12, if_neg h29, if_neg h43]; try rfl) | (rw [if_pos h12, if_pos h28]; try rfl) | (rw [if_neg h12, if_pos h28]; try rfl)⟩
    · have h28 : hi i < 8 := by
        have h8 : hi i ≠ 8 := fun z => hc28 ((og_m1 o2).mpr z)
        omega
      have h29 : ¬ hi i = 8 := by omega
      refine kw_aload_n X dc_W_freed_31 rfl rfl ?_
      refine kw_iload_n X dc_W_freed_32 rfl rfl ?_
      refine kw_aload_n X dc_W_freed_33 rfl rfl ?_
      refine kw_get X (wc_W _) 0 rfl rfl 1 (by decide) (gq wd_34) (fun _ h => h) rfl dc_W_freed_34 ?_
      refine kw_iload_n X dc_W_freed_37 rfl rfl ?_
      refine kw_iald (v := nI (hi i)) X 2 0 rfl rfl (kq_in (by omega) (by omega)) (by rw [kq_cl (by omega), e2]; exact og_lt h28) dc_W_freed_38 ?_
      refine kw_iload_n X dc_W_freed_39 rfl rfl ?_
      refine kw_callVI X kEw hE 0 rfl rfl (ct_hangs w0 w1 w2 w3 n les oth soc p (hi i) i lo hi ok h28 (by omega)) (cw_V 3 X wd_436 wd_438 wp_8 wd_2 wd_439 rfl rfl (by decide +kernel) ⟨Nat.le_of_ble_eq_true rfl, Nat.le_of_ble_eq_true rfl⟩) [0, 1, 2, 3] rfl (by decide) (fun _ _ h => by obtain ⟨rfl, _⟩ := h; exact Nat.le_refl _) rfl rfl (Nat.le_of_ble_eq_true rfl) dc_W_freed_40 ⟨Nat.zero_le _, Nat.zero_le _⟩ (fun r w hp => ?_)
      obtain ⟨rfl, rfl⟩ := hp
      refine kw_if_eq (tgt := 49) X dc_W_freed_43 (by decide) (fun hc43 => ?_) (fun hc43 => ?_)
      · have h43 := kq_z0 hc43
        refine kw_iload_n X dc_W_freed_49 rfl rfl ?_
        exact kw_iret X hr hlk dc_W_freed_50 ⟨rfl, by unfold gm_tk; first | (rw [if_pos h12, if_neg h29, if_pos h43]; exact kq_inc 1) | (rw [if_neg h12, if_neg h29, if_pos h43]; exact kq_inc 0) | (rw [if_pos h12, if_neg h29, if_neg h43]; try rfl) | (rw [if_neg h12, if_neg h29, if_neg h43]; try rfl) | (rw [if_pos h12, if_pos h28]; try rfl) | (rw [if_neg h12, if_pos h28]; try rfl)⟩
      · have h43 := kq_z1 hc43
        refine kw_iinc X dc_W_freed_46 rfl rfl (by decide) ?_
        refine kw_iload_n X dc_W_freed_49 rfl rfl ?_
        exact kw_iret X hr hlk dc_W_freed_50 ⟨rfl, by unfold gm_tk; first | (rw [if_pos h12, if_neg h29, if_pos h43]; exact kq_inc 1) | (rw [if_neg h12, if_neg h29, if_pos h43]; exact kq_inc 0) | (rw [if_pos h12, if_neg h29, if_neg h43]; try rfl) | (rw [if_neg h12, if_neg h29, if_neg h43]; try rfl) | (rw [if_pos h12, if_pos h28]; try rfl) | (rw [if_neg h12, if_pos h28]; try rfl)⟩
set_option maxRecDepth 100000 in
set_option maxHeartbeats 4000000 in
theorem ct_holding {l : Launch} {D : va_G} {kI kB kC kL : ClassId} (w0 w1 w2 w3 n : Nat) (les oth soc : Nat → Int32) (p c0 : Nat) (lo hi : Nat → Nat) (ok : webOk lo hi n les oth soc) (hc : c0 < 8) : kw_I l mn_W_holding (gw mn_W_holding cd_W_holding 3 (some .int)) ({ frames := 1, cells := 0, slots := 0, locals := 20 } : Room) D cl_v (kt kI kB kC kL) kE [.ref w0, .int (nI p), .int (nI c0)] (wWeb kI w0 w1 w2 w3 n les oth soc) (fun r w => w = wWeb kI w0 w1 w2 w3 n les oth soc ∧ r = nI (gm_pc (p &&& gm_mk lo hi n c0))) 0 0 := by
  refine kw_ofI (cc := cd_W_holding) (maxL := 3) (ty := .int) (by decide) rfl (Nat.le_of_ble_eq_true rfl) rfl ?_
  intro pp ee s m args below meth c A X hr hlk hE hnm
  refine kw_iload_n X dc_W_holding_0 rfl rfl ?_
  refine kw_aload_n X dc_W_holding_1 rfl rfl ?_
  refine kw_get X (wc_W _) 0 rfl rfl 2 (by decide) (gq wd_35) (fun _ h => h) rfl dc_W_holding_2 ?_
  refine kw_iload_n X dc_W_holding_5 rfl rfl ?_
  refine kw_iald (v := nI (gm_mk lo hi n c0)) X 3 0 rfl rfl (kq_in hc (by omega)) (by rw [kq_cl (by omega)]; exact ok.2.2 c0 hc) dc_W_holding_6 ?_
  refine kw_iand (v := nI (p &&& gm_mk lo hi n c0)) X dc_W_holding_7 (nx_and _ _) ?_
  refine kw_callSI X kEw hE (ct_bitCount _ (kq_pmk ok.1.1 p c0)) (cw_S 1 X wd_184 wd_185 wd_18 wd_186 rfl rfl (by decide +kernel) ⟨Nat.le_of_ble_eq_true rfl, Nat.le_of_ble_eq_true rfl⟩) [] rfl (by decide) (fun _ _ _ => Nat.zero_le _) rfl rfl (Nat.le_of_ble_eq_true rfl) dc_W_holding_8 ⟨Nat.zero_le _, Nat.zero_le _⟩ (fun r w hp => ?_)
  obtain ⟨rfl, rfl⟩ := hp
  exact kw_iret X hr hlk dc_W_holding_11 ⟨rfl, rfl⟩
set_option maxRecDepth 100000 in
set_option maxHeartbeats 4000000 in
theorem ct_dropAll {l : Launch} {D : va_G} {kI kB kC kL : ClassId} (w0 w1 w2 w3 n : Nat) (les oth soc : Nat → Int32) (lo hi : Nat → Nat) : kw_V l mn_W_dropAll (gw mn_W_dropAll cd_W_dropAll 1 none) ({ frames := 1, cells := 0, slots := 0, locals := 23 } : Room) D cl_v (kt kI kB kC kL) kE [.ref w0] (wWeb kI w0 w1 w2 w3 n les oth soc) (fun w => ∃ soc2 : Nat → Int32, w = wWeb kI w0 w1 w2 w3 0 les oth soc2 ∧ webOk lo hi 0 les oth soc2) 0 0 := by
  refine kw_ofV (cc := cd_W_dropAll) (maxL := 1) (by decide) rfl (Nat.le_of_ble_eq_true rfl) rfl ?_
  intro pp ee s m args below meth c A X hr hlk hE hnm
  refine kw_aload_n X dc_W_dropAll_0 rfl rfl ?_
  refine kw_iconst (v := (nI 0)) X dc_W_dropAll_1 (by decide) ?_
  refine kw_putf (ty := .int) X (wc_W _) fy_W fk_W fn_W 0 rfl rfl 3 (by decide) (gq wd_36) (fun _ h => h) rfl (by decide +kernel) rfl rfl (Nat.le_of_ble_eq_true rfl) dc_W_dropAll_2 ?_
  refine kw_aload_n X dc_W_dropAll_5 rfl rfl ?_
  refine kw_get X (wc_W _) 0 rfl rfl 2 (by decide) (gq wd_35) (fun _ h => h) rfl dc_W_dropAll_6 ?_
  refine kw_iconst (v := (nI 0)) X dc_W_dropAll_9 (by decide) ?_
  refine kw_callSV X kEw hE (ct_fill w3 8 (nI 0) soc (by omega)) (cw_S 2 X wd_160 wd_161 wd_15 wd_162 rfl rfl (by decide +kernel) ⟨Nat.le_of_ble_eq_true rfl, Nat.le_of_ble_eq_true rfl⟩) [3] rfl (by decide) (fun _ h => by obtain ⟨g, rfl, _⟩ := h; exact Nat.le_refl _) rfl rfl (Nat.le_of_ble_eq_true rfl) dc_W_dropAll_10 ⟨Nat.zero_le _, Nat.zero_le _⟩ (fun w hp => ?_)
  obtain ⟨g, rfl, hg⟩ := hp
  exact kw_vret X hr hlk dc_W_dropAll_13 ⟨g, rfl, ⟨by omega, fun i hi => absurd hi (Nat.not_lt_zero _)⟩, fun i hi => absurd hi (Nat.not_lt_zero _), fun c hc => hg c hc⟩
set_option maxRecDepth 100000 in
set_option maxHeartbeats 4000000 in
theorem ct_join {l : Launch} {D : va_G} {kI kB kC kL : ClassId} (w0 w1 w2 w3 n : Nat) (les oth soc : Nat → Int32) (a b : Nat) (lo hi : Nat → Nat) (ok : webOk lo hi n les oth soc) (hn : n < 12) (ha : a < 8) (hb : b ≤ 8) (hab : a ≠ b) : kw_V l mn_W_join (gw mn_W_join cd_W_join 4 none) ({ frames := 1, cells := 0, slots := 0, locals := 21 } : Room) D cl_v (kt kI kB kC kL) kE [.ref w0, .int (nI a), .int (og b)] (wWeb kI w0 w1 w2 w3 n les oth soc) (fun w => ∃ les2 oth2 soc2 : Nat → Int32, w = wWeb kI w0 w1 w2 w3 (n + 1) les2 oth2 soc2 ∧ webOk (fun i => if i = n then min a b else lo i) (fun i => if i = n then max a b else hi i) (n + 1) les2 oth2 soc2) 0 0 := by
  refine kw_ofV (cc := cd_W_join) (maxL := 4) (by decide) rfl (Nat.le_of_ble_eq_true rfl) rfl ?_
  intro pp ee s m args below meth c A X hr hlk hE hnm
  refine kw_iconst (v := (nI 1)) X dc_W_join_0 (by decide) ?_
  refine kw_aload_n X dc_W_join_1 rfl rfl ?_
  refine kw_get X (wc_W _) 0 rfl rfl 3 (by decide) (gq wd_36) (fun _ h => h) rfl dc_W_join_2 ?_
  refine kw_ishl (v := nI (2 ^ n)) X dc_W_join_5 (bq_shl (by omega)) ?_
  refine kw_istore_n X dc_W_join_6 rfl (by decide) ?_
  refine kw_aload_n X dc_W_join_7 rfl rfl ?_
  refine kw_get X (wc_W _) 0 rfl rfl 2 (by decide) (gq wd_35) (fun _ h => h) rfl dc_W_join_8 ?_
  refine kw_iload_n X dc_W_join_11 rfl rfl ?_
  refine kw_dup2 X dc_W_join_12 rfl rfl ?_
  refine kw_iald (v := nI (gm_mk lo hi n a)) X 3 0 rfl rfl (kq_in ha (by omega)) (by rw [kq_cl (by omega)]; exact ok.2.2 a ha) dc_W_join_13 ?_
  refine kw_iload_n X dc_W_join_14 rfl rfl ?_
  refine kw_ior (v := nI (gm_mk lo hi n a ||| 2 ^ n)) X dc_W_join_15 (bq_or _ _) ?_
  refine kw_iast X 3 0 rfl rfl (kq_in ha (by omega)) dc_W_join_16 ?_
  refine kw_iload_n X dc_W_join_17 rfl rfl ?_
  refine kw_iconst (v := (-1)) X dc_W_join_18 (by decide) ?_
  refine kw_icmp_ne (tgt := 45) X dc_W_join_19 (by decide) (fun hc19 => ?_) (fun hc19 => ?_)
  · have h19 : b < 8 := by
      have h8 : b ≠ 8 := fun z => hc19 ((og_m1 hb).mpr z)
      omega
    refine kw_aload_n X dc_W_join_45 rfl rfl ?_
    refine kw_get X (wc_W _) 0 rfl rfl 2 (by decide) (gq wd_35) (fun _ h => h) rfl dc_W_join_46 ?_
    refine kw_iload_n X dc_W_join_49 rfl rfl ?_
    refine kw_dup2 X dc_W_join_50 rfl rfl ?_
    refine kw_iald (v := nI (gm_mk lo hi n b)) X 3 0 rfl rfl (by rw [og_lt h19]; exact kq_in h19 (by omega)) (by rw [og_lt h19, kq_cl (by omega), kq_cl (by omega), pk_un (fun z => hab z.symm)]; exact ok.2.2 b h19) dc_W_join_51 ?_
    refine kw_iload_n X dc_W_join_52 rfl rfl ?_
    refine kw_ior (v := nI (gm_mk lo hi n b ||| 2 ^ n)) X dc_W_join_53 (bq_or _ _) ?_
    refine kw_iast X 3 0 rfl rfl (by rw [og_lt h19]; exact kq_in h19 (by omega)) dc_W_join_54 ?_
    refine kw_aload_n X dc_W_join_55 rfl rfl ?_
    refine kw_get X (wc_W _) 0 rfl rfl 0 (by decide) (gq wd_33) (fun _ h => h) rfl dc_W_join_56 ?_
    refine kw_aload_n X dc_W_join_59 rfl rfl ?_
    refine kw_get X (wc_W _) 0 rfl rfl 3 (by decide) (gq wd_36) (fun _ h => h) rfl dc_W_join_60 ?_
    refine kw_iload_n X dc_W_join_63 rfl rfl ?_
    refine kw_iload_n X dc_W_join_64 rfl rfl ?_
    refine kw_mmin (v := nI (min a b)) X (gq wd_347) (gq wd_217) (gq wd_14) (gq wd_218) (Nat.le_of_ble_eq_true rfl) (Nat.le_of_ble_eq_true rfl) (Nat.zero_le _) (Nat.zero_le _) (by rw [og_lt h19]; by_cases hz : nI b < nI a; (rw [if_pos hz, Nat.min_eq_right (by have := kq_lt hz; omega)]); (rw [if_neg hz, Nat.min_eq_left (by have := kq_nlt hz; omega)])) dc_W_join_65 ?_
    refine kw_iast X 1 0 rfl rfl (kq_in hn (by omega)) dc_W_join_68 ?_
    refine kw_aload_n X dc_W_join_69 rfl rfl ?_
    refine kw_get X (wc_W _) 0 rfl rfl 1 (by decide) (gq wd_34) (fun _ h => h) rfl dc_W_join_70 ?_
    refine kw_aload_n X dc_W_join_73 rfl rfl ?_
    refine kw_get X (wc_W _) 0 rfl rfl 3 (by decide) (gq wd_36) (fun _ h => h) rfl dc_W_join_74 ?_
    refine kw_iload_n X dc_W_join_77 rfl rfl ?_
    refine kw_iload_n X dc_W_join_78 rfl rfl ?_
    refine kw_mmax (v := nI (max a b)) X (gq wd_348) (gq wd_214) (gq wd_14) (gq wd_215) (Nat.le_of_ble_eq_true rfl) (Nat.le_of_ble_eq_true rfl) (Nat.zero_le _) (Nat.zero_le _) (by rw [og_lt h19]; by_cases hz : nI a < nI b; (rw [if_pos hz, Nat.max_eq_right (by have := kq_lt hz; omega)]); (rw [if_neg hz, Nat.max_eq_left (by have := kq_nlt hz; omega)])) dc_W_join_79 ?_
    refine kw_iast X 2 0 rfl rfl (kq_in hn (by omega)) dc_W_join_82 ?_
    refine kw_aload_n X dc_W_join_83 rfl rfl ?_
    refine kw_dup X dc_W_join_84 rfl ?_
    refine kw_get X (wc_W _) 0 rfl rfl 3 (by decide) (gq wd_36) (fun _ h => h) rfl dc_W_join_85 ?_
    refine kw_iconst (v := (nI 1)) X dc_W_join_88 (by decide) ?_
    refine kw_iadd (v := nI (n + 1)) X dc_W_join_89 (nI_1 n) ?_
    refine kw_putf (ty := .int) X (wc_W _) fy_W fk_W fn_W 0 rfl rfl 3 (by decide) (gq wd_36) (fun _ h => h) rfl (by decide +kernel) rfl rfl (Nat.le_of_ble_eq_true rfl) dc_W_join_90 ?_
    first
      | exact kw_vret X hr hlk dc_W_join_93 ⟨_, _, _, rfl, webOk_j ok hn ha hb hab (fun i hi => by rw [kq_cl (by omega), pk_un (by omega)]) (by rw [kq_cl (by omega), pk_us, h19, Nat.min_eq_left (by omega)]) (fun i hi => by rw [kq_cl (by omega), pk_un (by omega)]) (by rw [kq_cl (by omega), pk_us, h19, Nat.max_eq_right (by omega)]; rfl) (fun c hc => by
          rw [kq_cl (by omega)]
          by_cases hca : c = a
          · subst hca
            rw [pk_us, if_pos (Or.inl rfl)]
          · rw [pk_un hca, if_neg (show ¬ (c = a ∨ c = b) by omega)])⟩
      | exact kw_vret X hr hlk dc_W_join_93 ⟨_, _, _, rfl, webOk_j ok hn ha hb hab (fun i hi => by rw [kq_cl (by omega), pk_un (by omega)]) (by rw [kq_cl (by omega), pk_us]) (fun i hi => by rw [kq_cl (by omega), pk_un (by omega)]) (by rw [kq_cl (by omega), pk_us, og_lt (by omega)]) (fun c hc => by
          rw [og_lt h19, kq_cl (by omega), kq_cl (by omega)]
          by_cases hcb : c = b
          · subst hcb
            rw [pk_us, if_pos (Or.inr rfl)]
          · rw [pk_un hcb]
            by_cases hca : c = a
            · subst hca
              rw [pk_us, if_pos (Or.inl rfl)]
            · rw [pk_un hca, if_neg (show ¬ (c = a ∨ c = b) by omega)])⟩
  · have h19 := (og_m1 hb).mp hc19
    refine kw_aload_n X dc_W_join_22 rfl rfl ?_
    refine kw_get X (wc_W _) 0 rfl rfl 0 (by decide) (gq wd_33) (fun _ h => h) rfl dc_W_join_23 ?_
    refine kw_aload_n X dc_W_join_26 rfl rfl ?_
    refine kw_get X (wc_W _) 0 rfl rfl 3 (by decide) (gq wd_36) (fun _ h => h) rfl dc_W_join_27 ?_
    refine kw_iload_n X dc_W_join_30 rfl rfl ?_
    refine kw_iast X 1 0 rfl rfl (kq_in hn (by omega)) dc_W_join_31 ?_
    refine kw_aload_n X dc_W_join_32 rfl rfl ?_
    refine kw_get X (wc_W _) 0 rfl rfl 1 (by decide) (gq wd_34) (fun _ h => h) rfl dc_W_join_33 ?_
    refine kw_aload_n X dc_W_join_36 rfl rfl ?_
    refine kw_get X (wc_W _) 0 rfl rfl 3 (by decide) (gq wd_36) (fun _ h => h) rfl dc_W_join_37 ?_
    refine kw_iconst (v := (-1)) X dc_W_join_40 (by decide) ?_
    refine kw_iast X 2 0 rfl rfl (kq_in hn (by omega)) dc_W_join_41 ?_
    refine kw_goto (tgt := 83) X dc_W_join_42 (by decide) ?_
    refine kw_aload_n X dc_W_join_83 rfl rfl ?_
    refine kw_dup X dc_W_join_84 rfl ?_
    refine kw_get X (wc_W _) 0 rfl rfl 3 (by decide) (gq wd_36) (fun _ h => h) rfl dc_W_join_85 ?_
    refine kw_iconst (v := (nI 1)) X dc_W_join_88 (by decide) ?_
    refine kw_iadd (v := nI (n + 1)) X dc_W_join_89 (nI_1 n) ?_
    refine kw_putf (ty := .int) X (wc_W _) fy_W fk_W fn_W 0 rfl rfl 3 (by decide) (gq wd_36) (fun _ h => h) rfl (by decide +kernel) rfl rfl (Nat.le_of_ble_eq_true rfl) dc_W_join_90 ?_
    first
      | exact kw_vret X hr hlk dc_W_join_93 ⟨_, _, _, rfl, webOk_j ok hn ha hb hab (fun i hi => by rw [kq_cl (by omega), pk_un (by omega)]) (by rw [kq_cl (by omega), pk_us, h19, Nat.min_eq_left (by omega)]) (fun i hi => by rw [kq_cl (by omega), pk_un (by omega)]) (by rw [kq_cl (by omega), pk_us, h19, Nat.max_eq_right (by omega)]; rfl) (fun c hc => by
          rw [kq_cl (by omega)]
          by_cases hca : c = a
          · subst hca
            rw [pk_us, if_pos (Or.inl rfl)]
          · rw [pk_un hca, if_neg (show ¬ (c = a ∨ c = b) by omega)])⟩
      | exact kw_vret X hr hlk dc_W_join_93 ⟨_, _, _, rfl, webOk_j ok hn ha hb hab (fun i hi => by rw [kq_cl (by omega), pk_un (by omega)]) (by rw [kq_cl (by omega), pk_us]) (fun i hi => by rw [kq_cl (by omega), pk_un (by omega)]) (by rw [kq_cl (by omega), pk_us, og_lt (by omega)]) (fun c hc => by
          rw [og_lt h19, kq_cl (by omega), kq_cl (by omega)]
          by_cases hcb : c = b
          · subst hcb
            rw [pk_us, if_pos (Or.inr rfl)]
          · rw [pk_un hcb]
            by_cases hca : c = a
            · subst hca
              rw [pk_us, if_pos (Or.inl rfl)]
            · rw [pk_un hca, if_neg (show ¬ (c = a ∨ c = b) by omega)])⟩
end
section
/-! margins, over the class's table -/
theorem gm_mx_lo (lo hi : Nat → Nat) (n : Nat) (f : Nat → Int) (p k : Nat) : -8 ≤ gm_mx lo hi n f p k := by
  induction k with
  | zero => exact Int.le_refl _
  | succ k ih =>
    unfold gm_mx
    split
    · split <;> omega
    · exact ih
theorem gm_mx_8 {lo hi : Nat → Nat} {n : Nat} (ok : gm_ok lo hi n) {p : Nat} (hp : p < 2 ^ n) {k : Nat} (hk : k ≤ n) : gm_mx lo hi n (gm_mg lo hi n) p k ≤ 8 :=
  gm_mx_le (by omega) k (fun i hz hb => (gm_gv_8 ok hp (by omega) hb).2)
/-- the strings below k that q says yes to -/
def gm_ms (q : Nat → Bool) : Nat → Nat
  | 0 => 0
  | i + 1 => if q i = true then gm_ms q i ||| 2 ^ i else gm_ms q i
theorem gm_ms_tb (q : Nat → Bool) (n j : Nat) : (gm_ms q n).testBit j = (decide (j < n) && q j) := by
  induction n with
  | zero => simp [gm_ms]
  | succ n ih =>
    unfold gm_ms
    by_cases hj : j = n
    · subst hj
      by_cases hq : q j = true
      · rw [if_pos hq, Nat.testBit_or, Nat.testBit_two_pow, hq]
        simp
      · rw [if_neg hq, ih]
        simp at hq
        simp [hq]
    · have hne : ¬ n = j := fun e => hj e.symm
      have hd : decide (j < n + 1) = decide (j < n) := by
        by_cases h1 : j < n
        · simp [h1]; omega
        · simp [h1]; omega
      by_cases hq : q n = true
      · rw [if_pos hq, Nat.testBit_or, Nat.testBit_two_pow, ih, hd]
        simp [hne]
      · rw [if_neg hq, ih, hd]
theorem gm_ms_lt (q : Nat → Bool) (n : Nat) : gm_ms q n < 2 ^ n := bq_lt_of (fun j hj => by rw [gm_ms_tb]; simp; omega)
theorem gm_ms_no {q : Nat → Bool} {k : Nat} (h : q k = false) : gm_ms q (k + 1) = gm_ms q k := if_neg (by rw [h]; decide)
theorem kq_f1 {a b : Bool} (h : ¬ a = true) : (a && b) = false := by
  cases a
  · rfl
  · exact absurd rfl h
theorem kq_f2 {a : Bool} {Q : Prop} {i : Decidable Q} (h : ¬ Q) : (a && @decide Q i) = false := by
  rw [decide_eq_false h, Bool.and_false]
def gm_good (lo hi : Nat → Nat) (n p : Nat) : Nat := gm_ms (fun i => p.testBit i && decide (gm_gv lo hi n (gm_mg lo hi n) p i = gm_mg lo hi n p)) n
theorem kq_2n {n p : Nat} (hn : n ≤ 12) (hp : p < 2 ^ n) : p < 4096 := Nat.lt_of_lt_of_le hp (show 2 ^ n ≤ 2 ^ 12 from Nat.pow_le_pow_right (by decide) hn)
set_option maxRecDepth 100000 in
set_option maxHeartbeats 4000000 in
theorem ct_given {l : Launch} {D : va_G} {kI kB kC kL : ClassId} (v0 v1 w0 w1 w2 w3 n : Nat) (rd : Int32) (f les oth soc : Nat → Int32) (lo hi : Nat → Nat) (ok : webOk lo hi n les oth soc) (p i : Nat) (hp : p < 2 ^ n) (hi1 : i < n) (hb : p.testBit i = true) (hf : f (bq_wo p i) = iZ (gm_mg lo hi n (bq_wo p i))) : kw_I l mn_M_given (gw mn_M_given cd_M_given 5 (some .int)) ({ frames := 2, cells := 0, slots := 0, locals := 46 } : Room) D cl_v (kt kI kB kC kL) kE [.ref v0, .int (nI p), .int (nI i)] (wVal 2 kI kB v0 v1 w0 w1 w2 w3 n rd f les oth soc) (fun r w => w = wVal 2 kI kB v0 v1 w0 w1 w2 w3 n rd f les oth soc ∧ r = iZ (gm_gv lo hi n (gm_mg lo hi n) p i)) 0 0 := by
  refine kw_ofI (cc := cd_M_given) (maxL := 5) (ty := .int) (by decide) rfl (Nat.le_of_ble_eq_true rfl) rfl ?_
  intro pp ee s m args below meth c A X hr hlk hE hnm
  have hn := ok.1.1
  have hp4 := kq_2n hn hp
  have hlt := bq_wo_lt hb
  have ht2 := gm_tk_2 lo hi n p i
  refine kw_aload_n X dc_M_given_0 rfl rfl ?_
  refine kw_get X (wc_M _) 0 rfl rfl 0 (by decide) (gq wd_57) (fun x9 h9 => u_same (X.1.2.2.2.2 _ (gq wd_58)) x9 h9) rfl dc_M_given_1 ?_
  refine kw_iload_n X dc_M_given_4 rfl rfl ?_
  refine kw_iload_n X dc_M_given_5 rfl rfl ?_
  refine kw_callVI X kEw hE 0 rfl rfl (ct_freed w0 w1 w2 w3 n les oth soc p i lo hi ok hi1) (cw_V 2 X wd_480 wd_433 wd_434 wd_2 wd_435 rfl rfl (by decide +kernel) ⟨Nat.le_of_ble_eq_true rfl, Nat.le_of_ble_eq_true rfl⟩) [2, 3, 4, 5] rfl (by decide) (fun _ _ h => by obtain ⟨rfl, _⟩ := h; exact Nat.le_refl _) rfl rfl (Nat.le_of_ble_eq_true rfl) dc_M_given_6 ⟨Nat.zero_le _, Nat.zero_le _⟩ (fun r w hp => ?_)
  obtain ⟨rfl, rfl⟩ := hp
  refine kw_istore_n X dc_M_given_9 rfl (by decide) ?_
  refine kw_aload_n X dc_M_given_10 rfl rfl ?_
  refine kw_get X (wc_M _) 0 rfl rfl 1 (by decide) (gq wd_64) (fun x9 h9 => u_same (X.1.2.2.2.2 _ (gq wd_65)) x9 h9) rfl dc_M_given_11 ?_
  refine kw_iload_n X dc_M_given_14 rfl rfl ?_
  refine kw_iload_n X dc_M_given_15 rfl rfl ?_
  refine kw_callSNI X kEw hE (ct_without p i (by omega)) (cw_SN (host := "CoinStrings") 2 X (hE _ (by decide +kernel)) wd_441 wd_1 wd_442 rfl rfl (by decide +kernel) ⟨Nat.le_of_ble_eq_true rfl, Nat.le_of_ble_eq_true rfl⟩) [] rfl (by decide) (fun _ _ _ => Nat.zero_le _) rfl rfl (Nat.le_of_ble_eq_true rfl) dc_M_given_16 ⟨Nat.zero_le _, Nat.zero_le _⟩ (fun r w hp => ?_)
  obtain ⟨rfl, rfl⟩ := hp
  refine kw_bald (v := iZ (gm_mg lo hi n (bq_wo p i))) X 1 1 rfl rfl (kq_in (by omega) (by omega)) (by rw [kq_cl (by omega)]; exact hf) dc_M_given_19 ?_
  refine kw_istore X dc_M_given_20 (by decide) ?_
  refine kw_iload_n X dc_M_given_22 rfl rfl ?_
  refine kw_if_le (tgt := 33) X dc_M_given_23 (by decide) (fun hc23 => ?_) (fun hc23 => ?_)
  · refine kw_iload X dc_M_given_33 rfl ?_
    refine kw_ineg (v := iZ (-gm_mg lo hi n (bq_wo p i))) X dc_M_given_35 (iZ_neg _) ?_
    exact kw_iret X hr hlk dc_M_given_36 ⟨rfl, by unfold gm_gv; first | rw [if_pos (by have := kq_nle (b := 0) hc23; omega)] | rw [if_neg (by have := kq_le (b := 0) hc23; omega)]⟩
  · refine kw_iload_n X dc_M_given_26 rfl rfl ?_
    refine kw_iload X dc_M_given_27 rfl ?_
    refine kw_iadd (v := iZ ((gm_tk lo hi n p i : Int) + gm_mg lo hi n (bq_wo p i))) X dc_M_given_29 (by rw [← iZ_nat, iZ_add]) ?_
    refine kw_goto (tgt := 36) X dc_M_given_30 (by decide) ?_
    exact kw_iret X hr hlk dc_M_given_36 ⟨rfl, by unfold gm_gv; first | rw [if_pos (by have := kq_nle (b := 0) hc23; omega)] | rw [if_neg (by have := kq_le (b := 0) hc23; omega)]⟩
set_option maxRecDepth 100000 in
set_option maxHeartbeats 4000000 in
theorem ct_workM {l : Launch} {D : va_G} {kI kB kC kL : ClassId} (v0 v1 w0 w1 w2 w3 n : Nat) (rd : Int32) (f les oth soc : Nat → Int32) (lo hi : Nat → Nat) (ok : webOk lo hi n les oth soc) (p : Nat) (hp : p < 2 ^ n) (hf : ∀ q, q < p → f q = iZ (gm_mg lo hi n q)) : kw_I l mn_M_workOut (gw mn_M_workOut cd_M_workOut 4 (some .int)) ({ frames := 3, cells := 0, slots := 0, locals := 70 } : Room) D cl_v (kt kI kB kC kL) kE [.ref v0, .int (nI p)] (wVal 2 kI kB v0 v1 w0 w1 w2 w3 n rd f les oth soc) (fun r w => w = wVal 2 kI kB v0 v1 w0 w1 w2 w3 n rd f les oth soc ∧ r = iZ (gm_mg lo hi n p)) 0 0 := by
  refine kw_ofI (cc := cd_M_workOut) (maxL := 4) (ty := .int) (by decide) rfl (Nat.le_of_ble_eq_true rfl) rfl ?_
  intro pp ee s m args below meth c A X hr hlk hE hnm
  have hn := ok.1.1
  have hp4 := kq_2n hn hp
  refine kw_iload_n X dc_M_workOut_0 rfl rfl ?_
  refine kw_if_ne (tgt := 6) X dc_M_workOut_1 (by decide) (fun hc1 => ?_) (fun hc1 => ?_)
  · refine kw_bipush (v := (-8)) X dc_M_workOut_6 (by decide) ?_
    refine kw_istore_n X dc_M_workOut_8 rfl (by decide) ?_
    refine kw_iconst (v := (nI 0)) X dc_M_workOut_9 (by decide) ?_
    refine kw_istore_n X dc_M_workOut_10 rfl (by decide) ?_
    have hp0 : p ≠ 0 := kq_ne (b := 0) hc1
    refine kw_loop (α := Nat) (fun k => k ≤ n) (fun k => n - k) (fun _ => wVal 2 kI kB v0 v1 w0 w1 w2 w3 n rd f les oth soc) (fun k => [some (.ref v0), some (.int (nI p)), some (.int (iZ (gm_mx lo hi n (gm_mg lo hi n) p k))), some (.int (nI k))]) (fun _ => []) 0 (Nat.zero_le _) (fun k hk ih => ?_)
    refine kw_iload_n X dc_M_workOut_11 rfl rfl ?_
    refine kw_aload_n X dc_M_workOut_12 rfl rfl ?_
    refine kw_get X (wc_M _) 0 rfl rfl 0 (by decide) (gq wd_57) (fun x9 h9 => u_same (X.1.2.2.2.2 _ (gq wd_58)) x9 h9) rfl dc_M_workOut_13 ?_
    refine kw_callVI X kEw hE 0 rfl rfl (ct_size w0 w1 w2 w3 n les oth soc) (cw_V 0 X wd_474 wd_191 wd_192 wd_2 wd_193 rfl rfl (by decide +kernel) ⟨Nat.le_of_ble_eq_true rfl, Nat.le_of_ble_eq_true rfl⟩) [2, 3, 4, 5] rfl (by decide) (fun _ _ h => by obtain ⟨rfl, _⟩ := h; exact Nat.le_refl _) rfl rfl (Nat.le_of_ble_eq_true rfl) dc_M_workOut_16 ⟨Nat.zero_le _, Nat.zero_le _⟩ (fun r w hp => ?_)
    obtain ⟨rfl, rfl⟩ := hp
    refine kw_icmp_ge (tgt := 47) X dc_M_workOut_19 (by decide) (fun hc19 => ?_) (fun hc19 => ?_)
    · refine kw_iload_n X dc_M_workOut_47 rfl rfl ?_
      exact kw_iret X hr hlk dc_M_workOut_48 ⟨rfl, by have hkn : k = n := Nat.le_antisymm hk (kq_le hc19); subst hkn; rw [gm_mg_eq]; unfold gm_F; rw [if_neg hp0]⟩
    · have hkn := kq_nle hc19
      refine kw_iload_n X dc_M_workOut_22 rfl rfl ?_
      refine kw_iload_n X dc_M_workOut_23 rfl rfl ?_
      refine kw_callSNI X kEw hE (ct_hasN p k (by omega) (by omega)) (cw_SN (host := "CoinStrings") 2 X (hE _ (by decide +kernel)) wd_195 wd_1 wd_196 rfl rfl (by decide +kernel) ⟨Nat.le_of_ble_eq_true rfl, Nat.le_of_ble_eq_true rfl⟩) [] rfl (by decide) (fun _ _ _ => Nat.zero_le _) rfl rfl (Nat.le_of_ble_eq_true rfl) dc_M_workOut_24 ⟨Nat.zero_le _, Nat.zero_le _⟩ (fun r w hp => ?_)
      obtain ⟨rfl, rfl⟩ := hp
      refine kw_if_eq (tgt := 41) X dc_M_workOut_27 (by decide) (fun hc27 => ?_) (fun hc27 => ?_)
      · have h27 := kq_z0 hc27
        refine kw_iinc (v := nI (k + 1)) X dc_M_workOut_41 rfl (kq_inc k) (by decide) ?_
        refine kw_goto (tgt := 11) X dc_M_workOut_44 (by decide) ?_
        refine kw_cv (lv' := [some (.ref v0), some (.int (nI p)), some (.int (iZ (gm_mx lo hi n (gm_mg lo hi n) p (k + 1)))), some (.int (nI (k + 1)))]) rfl (by first | rfl | (rw [show gm_mx lo hi n (gm_mg lo hi n) p (k + 1) = gm_mx lo hi n (gm_mg lo hi n) p k from if_neg h27]; rfl)) rfl ?_
        exact ih (k + 1) (by omega) (by omega)
      · have h27 := kq_z1 hc27
        refine kw_iload_n X dc_M_workOut_30 rfl rfl ?_
        refine kw_aload_n X dc_M_workOut_31 rfl rfl ?_
        refine kw_iload_n X dc_M_workOut_32 rfl rfl ?_
        refine kw_iload_n X dc_M_workOut_33 rfl rfl ?_
        refine kw_callVI X kEw hE 0 rfl rfl (ct_given v0 v1 w0 w1 w2 w3 n rd f les oth soc lo hi ok p k hp hkn h27 (hf _ (bq_wo_lt h27))) (cw_V 2 X wd_476 wd_478 wp_9 wd_4 wd_479 rfl rfl (by decide +kernel) ⟨Nat.le_of_ble_eq_true rfl, Nat.le_of_ble_eq_true rfl⟩) [0, 1, 2, 3, 4, 5] rfl (by decide) (fun _ _ h => by obtain ⟨rfl, _⟩ := h; exact Nat.le_refl _) rfl rfl (Nat.le_of_ble_eq_true rfl) dc_M_workOut_34 ⟨Nat.zero_le _, Nat.zero_le _⟩ (fun r w hp => ?_)
        obtain ⟨rfl, rfl⟩ := hp
        refine kw_mmax (v := iZ (gm_mx lo hi n (gm_mg lo hi n) p (k + 1))) X (gq wd_482) (gq wd_214) (gq wd_14) (gq wd_215) (Nat.le_of_ble_eq_true rfl) (Nat.le_of_ble_eq_true rfl) (Nat.zero_le _) (Nat.zero_le _) (by have b1 := gm_mx_lo lo hi n (gm_mg lo hi n) p k; have b2 := gm_mx_8 ok.1 hp hk; have b3 := gm_gv_8 ok.1 hp hkn h27; rw [show gm_mx lo hi n (gm_mg lo hi n) p (k + 1) = (if gm_mx lo hi n (gm_mg lo hi n) p k < gm_gv lo hi n (gm_mg lo hi n) p k then gm_gv lo hi n (gm_mg lo hi n) p k else gm_mx lo hi n (gm_mg lo hi n) p k) from if_pos h27]; by_cases hz : gm_mx lo hi n (gm_mg lo hi n) p k < gm_gv lo hi n (gm_mg lo hi n) p k; (rw [if_pos hz, if_pos ((iZ_lt (by omega) (by omega) (by omega) (by omega)).mpr hz)]); (rw [if_neg hz, if_neg (fun z => hz ((iZ_lt (by omega) (by omega) (by omega) (by omega)).mp z))])) dc_M_workOut_37 ?_
        refine kw_istore_n X dc_M_workOut_40 rfl (by decide) ?_
        refine kw_iinc (v := nI (k + 1)) X dc_M_workOut_41 rfl (kq_inc k) (by decide) ?_
        refine kw_goto (tgt := 11) X dc_M_workOut_44 (by decide) ?_
        refine kw_cv (lv' := [some (.ref v0), some (.int (nI p)), some (.int (iZ (gm_mx lo hi n (gm_mg lo hi n) p (k + 1)))), some (.int (nI (k + 1)))]) rfl (by first | rfl | (rw [show gm_mx lo hi n (gm_mg lo hi n) p (k + 1) = gm_mx lo hi n (gm_mg lo hi n) p k from if_neg h27]; rfl)) rfl ?_
        exact ih (k + 1) (by omega) (by omega)
  · refine kw_iconst (v := (nI 0)) X dc_M_workOut_4 (by decide) ?_
    exact kw_iret X hr hlk dc_M_workOut_5 ⟨rfl, by have hp0 : p = 0 := kq_eq (b := 0) hc1; subst hp0; rw [gm_mg_eq]; rfl⟩
set_option maxRecDepth 100000 in
set_option maxHeartbeats 4000000 in
theorem ct_markM {l : Launch} {D : va_G} {kI kB kC kL : ClassId} (v0 v1 w0 w1 w2 w3 n : Nat) (rd : Int32) (f les oth soc : Nat → Int32) (lo hi : Nat → Nat) (ok : webOk lo hi n les oth soc) (p i : Nat) (hp : p < 2 ^ n) (hi1 : i < n) (hb : p.testBit i = true) (hf : ∀ q, q < 2 ^ n → f q = iZ (gm_mg lo hi n q)) : kw_I l mn_M_isMarked (gw mn_M_isMarked cd_M_isMarked 3 (some .boolean)) ({ frames := 3, cells := 0, slots := 0, locals := 70 } : Room) D cl_v (kt kI kB kC kL) kE [.ref v0, .int (nI p), .int (nI i)] (wVal 2 kI kB v0 v1 w0 w1 w2 w3 n rd f les oth soc) (fun r w => w = wVal 2 kI kB v0 v1 w0 w1 w2 w3 n rd f les oth soc ∧ r = if gm_gv lo hi n (gm_mg lo hi n) p i = gm_mg lo hi n p then nI 1 else nI 0) 0 0 := by
  refine kw_ofI (cc := cd_M_isMarked) (maxL := 3) (ty := .boolean) (by decide) rfl (Nat.le_of_ble_eq_true rfl) rfl ?_
  intro pp ee s m args below meth c A X hr hlk hE hnm
  have hn := ok.1.1
  have hp4 := kq_2n hn hp
  have hlt := bq_wo_lt hb
  have b1 := gm_gv_8 ok.1 hp hi1 hb
  have b2 := gm_mg_8 ok.1 hp
  refine kw_aload_n X dc_M_isMarked_0 rfl rfl ?_
  refine kw_iload_n X dc_M_isMarked_1 rfl rfl ?_
  refine kw_iload_n X dc_M_isMarked_2 rfl rfl ?_
  refine kw_callVI X kEw hE 0 rfl rfl (ct_given v0 v1 w0 w1 w2 w3 n rd f les oth soc lo hi ok p i hp hi1 hb (hf _ (by omega))) (cw_V 2 X wd_476 wd_478 wp_9 wd_4 wd_479 rfl rfl (by decide +kernel) ⟨Nat.le_of_ble_eq_true rfl, Nat.le_of_ble_eq_true rfl⟩) [0, 1, 2, 3, 4, 5] rfl (by decide) (fun _ _ h => by obtain ⟨rfl, _⟩ := h; exact Nat.le_refl _) rfl rfl (Nat.le_of_ble_eq_true rfl) dc_M_isMarked_3 ⟨Nat.zero_le _, Nat.zero_le _⟩ (fun r w hp => ?_)
  obtain ⟨rfl, rfl⟩ := hp
  refine kw_aload_n X dc_M_isMarked_6 rfl rfl ?_
  refine kw_get X (wc_M _) 0 rfl rfl 1 (by decide) (gq wd_64) (fun x9 h9 => u_same (X.1.2.2.2.2 _ (gq wd_65)) x9 h9) rfl dc_M_isMarked_7 ?_
  refine kw_iload_n X dc_M_isMarked_10 rfl rfl ?_
  refine kw_bald (v := iZ (gm_mg lo hi n p)) X 1 1 rfl rfl (kq_in (by omega) (by omega)) (by rw [kq_cl (by omega)]; exact hf p hp) dc_M_isMarked_11 ?_
  refine kw_icmp_ne (tgt := 19) X dc_M_isMarked_12 (by decide) (fun hc12 => ?_) (fun hc12 => ?_)
  · refine kw_iconst (v := (nI 0)) X dc_M_isMarked_19 (by decide) ?_
    exact kw_zret X hr hlk rfl dc_M_isMarked_20 ⟨rfl, by first | exact (if_pos ((iZ_inj (by omega) (by omega) (by omega) (by omega)).mp hc12)).symm | exact (if_neg (fun z => hc12 ((iZ_inj (by omega) (by omega) (by omega) (by omega)).mpr z))).symm⟩
  · refine kw_iconst (v := (nI 1)) X dc_M_isMarked_15 (by decide) ?_
    refine kw_goto (tgt := 20) X dc_M_isMarked_16 (by decide) ?_
    exact kw_zret X hr hlk rfl dc_M_isMarked_20 ⟨rfl, by first | exact (if_pos ((iZ_inj (by omega) (by omega) (by omega) (by omega)).mp hc12)).symm | exact (if_neg (fun z => hc12 ((iZ_inj (by omega) (by omega) (by omega) (by omega)).mpr z))).symm⟩
set_option maxRecDepth 100000 in
set_option maxHeartbeats 4000000 in
theorem ct_prepM {l : Launch} {D : va_G} {kI kB kC kL : ClassId} (v0 v1 w0 w1 w2 w3 n : Nat) (rd : Int32) (f les oth soc : Nat → Int32) (lo hi : Nat → Nat) (ok : webOk lo hi n les oth soc) (hrd : (rd = nI 1 ∧ ∀ q, q < 2 ^ n → f q = iZ (gm_mg lo hi n q)) ∨ rd = nI 0) : kw_V l mn_V_prepare (gw mn_V_prepare cd_V_prepare 2 none) ({ frames := 4, cells := 0, slots := 0, locals := 93 } : Room) D cl_v (kt kI kB kC kL) kE [.ref v0] (wVal 2 kI kB v0 v1 w0 w1 w2 w3 n rd f les oth soc) (fun w => ∃ f2 : Nat → Int32, w = wVal 2 kI kB v0 v1 w0 w1 w2 w3 n (nI 1) f2 les oth soc ∧ ∀ q, q < 2 ^ n → f2 q = iZ (gm_mg lo hi n q)) 0 0 := by
  refine kw_ofV (cc := cd_V_prepare) (maxL := 2) (by decide) rfl (Nat.le_of_ble_eq_true rfl) rfl ?_
  intro pp ee s m args below meth c A X hr hlk hE hnm
  have hn := ok.1.1
  have h2n : 2 ^ n ≤ 4096 := show 2 ^ n ≤ 2 ^ 12 from Nat.pow_le_pow_right (by decide) hn
  have h2p := Nat.two_pow_pos n
  refine kw_aload_n X dc_V_prepare_0 rfl rfl ?_
  refine kw_get X (wc_M _) 0 rfl rfl 2 (by decide) (gq wd_66) (fun _ h => h) rfl dc_V_prepare_1 ?_
  refine kw_if_eq (tgt := 8) X dc_V_prepare_4 (by decide) (fun hc4 => ?_) (fun hc4 => ?_)
  · refine kw_iconst (v := (nI 0)) X dc_V_prepare_8 (by decide) ?_
    refine kw_istore_n X dc_V_prepare_9 rfl (by decide) ?_
    refine kw_loop (α := Nat) (fun k => k ≤ 2 ^ n) (fun k => 2 ^ n - k) (fun k => wVal 2 kI kB v0 v1 w0 w1 w2 w3 n rd (kq_pre (fun q => iZ (gm_mg lo hi n q)) f k) les oth soc) (fun k => [some (.ref v0), some (.int (nI k))]) (fun _ => []) 0 (Nat.zero_le _) (fun k hk ih => ?_)
    refine kw_iload_n X dc_V_prepare_10 rfl rfl ?_
    refine kw_aload_n X dc_V_prepare_11 rfl rfl ?_
    refine kw_get X (wc_M _) 0 rfl rfl 0 (by decide) (gq wd_56) (fun _ h => h) rfl dc_V_prepare_12 ?_
    refine kw_callVI X kEw hE 0 rfl rfl (ct_every w0 w1 w2 w3 n les oth soc hn) (cw_V 0 X wd_467 wd_350 wd_351 wd_2 wd_352 rfl rfl (by decide +kernel) ⟨Nat.le_of_ble_eq_true rfl, Nat.le_of_ble_eq_true rfl⟩) [2, 3, 4, 5] rfl (by decide) (fun _ _ h => by obtain ⟨rfl, _⟩ := h; exact Nat.le_refl _) rfl rfl (Nat.le_of_ble_eq_true rfl) dc_V_prepare_15 ⟨Nat.zero_le _, Nat.zero_le _⟩ (fun r w hp => ?_)
    obtain ⟨rfl, rfl⟩ := hp
    refine kw_icmp_gt (tgt := 39) X dc_V_prepare_18 (by decide) (fun hc18 => ?_) (fun hc18 => ?_)
    · refine kw_aload_n X dc_V_prepare_39 rfl rfl ?_
      refine kw_iconst (v := (nI 1)) X dc_V_prepare_40 (by decide) ?_
      refine kw_putf (ty := .boolean) X (wc_M _) fy_M fk_M fn_M 0 rfl rfl 2 (by decide) (gq wd_66) (fun _ h => h) rfl (by decide +kernel) rfl rfl (Nat.le_of_ble_eq_true rfl) dc_V_prepare_41 ?_
      exact kw_vret X hr hlk dc_V_prepare_44 ⟨kq_pre (fun q => iZ (gm_mg lo hi n q)) f k, rfl, fun q hq => kq_pre_lt (by have := kq_lt hc18; omega)⟩
    · have hkn : k < 2 ^ n := by have := kq_nlt hc18; omega
      have b8 := gm_mg_8 ok.1 hkn
      refine kw_aload_n X dc_V_prepare_21 rfl rfl ?_
      refine kw_get X (wc_M _) 0 rfl rfl 1 (by decide) (gq wd_61) (fun _ h => h) rfl dc_V_prepare_22 ?_
      refine kw_iload_n X dc_V_prepare_25 rfl rfl ?_
      refine kw_aload_n X dc_V_prepare_26 rfl rfl ?_
      refine kw_iload_n X dc_V_prepare_27 rfl rfl ?_
      refine kw_callUI X kEw hE 0 rfl rfl (ct_workM v0 v1 w0 w1 w2 w3 n rd (kq_pre (fun q => iZ (gm_mg lo hi n q)) f k) les oth soc lo hi ok k hkn (fun q hq => kq_pre_lt hq)) (cw_A 1 X wd_468 wd_470 wd_471 wd_472 wd_4 wd_473 rfl rfl (hE _ (by decide +kernel)) (by decide +kernel) ⟨Nat.le_of_ble_eq_true rfl, Nat.le_of_ble_eq_true rfl⟩) [0, 1, 2, 3, 4, 5] rfl (by decide) (fun _ _ h => by obtain ⟨rfl, _⟩ := h; exact Nat.le_refl _) rfl rfl (Nat.le_of_ble_eq_true rfl) dc_V_prepare_28 ⟨Nat.zero_le _, Nat.zero_le _⟩ (fun r w hp => ?_)
      obtain ⟨rfl, rfl⟩ := hp
      refine kw_i2b (v := iZ (gm_mg lo hi n k)) X dc_V_prepare_31 (iZ_byte (by omega) (by omega)) ?_
      refine kw_bast X 1 1 rfl rfl (kq_in (by omega) (by omega)) dc_V_prepare_32 ?_
      refine kw_iinc (v := nI (k + 1)) X dc_V_prepare_33 rfl (kq_inc k) (by decide) ?_
      refine kw_goto (tgt := 10) X dc_V_prepare_36 (by decide) ?_
      refine kw_cv (ws' := wVal 2 kI kB v0 v1 w0 w1 w2 w3 n rd (kq_pre (fun q => iZ (gm_mg lo hi n q)) f (k + 1)) les oth soc) (by
        show wVal 2 kI kB v0 v1 w0 w1 w2 w3 n rd (upd (kq_pre (fun q => iZ (gm_mg lo hi n q)) f k) (nI k).toNatClampNeg (vp_nar .byte (iZ (gm_mg lo hi n k)))) les oth soc = _
        rw [kq_cl (by omega), iZ_nar (by omega) (by omega), kq_pre_upd rfl]) rfl rfl ?_
      exact ih (k + 1) (by omega) (by omega)
  · exact kw_vret X hr hlk dc_V_prepare_7 ⟨f, by rcases hrd with ⟨e, _⟩ | e; (subst e; rfl); (exact absurd e hc4), by rcases hrd with ⟨_, h⟩ | e; (exact h); (exact absurd e hc4)⟩
set_option maxRecDepth 100000 in
set_option maxHeartbeats 4000000 in
theorem ct_ofM {l : Launch} {D : va_G} {kI kB kC kL : ClassId} (v0 v1 w0 w1 w2 w3 n : Nat) (rd : Int32) (f les oth soc : Nat → Int32) (lo hi : Nat → Nat) (ok : webOk lo hi n les oth soc) (hrd : (rd = nI 1 ∧ ∀ q, q < 2 ^ n → f q = iZ (gm_mg lo hi n q)) ∨ rd = nI 0) (p : Nat) (hp : p < 2 ^ n) : kw_I l mn_V_of (gw mn_V_of cd_V_of 2 (some .int)) ({ frames := 5, cells := 0, slots := 0, locals := 114 } : Room) D cl_v (kt kI kB kC kL) kE [.ref v0, .int (nI p)] (wVal 2 kI kB v0 v1 w0 w1 w2 w3 n rd f les oth soc) (fun r w => r = iZ (gm_mg lo hi n p) ∧ ∃ f2 : Nat → Int32, w = wVal 2 kI kB v0 v1 w0 w1 w2 w3 n (nI 1) f2 les oth soc ∧ ∀ q, q < 2 ^ n → f2 q = iZ (gm_mg lo hi n q)) 0 0 := by
  refine kw_ofI (cc := cd_V_of) (maxL := 2) (ty := .int) (by decide) rfl (Nat.le_of_ble_eq_true rfl) rfl ?_
  intro pp ee s m args below meth c A X hr hlk hE hnm
  have hp4 := kq_2n ok.1.1 hp
  refine kw_aload_n X dc_V_of_0 rfl rfl ?_
  refine kw_callVV X kEw hE 0 rfl rfl (ct_prepM v0 v1 w0 w1 w2 w3 n rd f les oth soc lo hi ok hrd) (cw_P 0 X wd_463 wd_465 (hE _ (by decide +kernel)) wd_3 wd_466 rfl rfl (by decide +kernel) ⟨Nat.le_of_ble_eq_true rfl, Nat.le_of_ble_eq_true rfl⟩) [0, 1, 2, 3, 4, 5] rfl (by decide) (fun _ h => by obtain ⟨g, rfl, _⟩ := h; exact Nat.le_refl _) rfl rfl (Nat.le_of_ble_eq_true rfl) dc_V_of_1 ⟨Nat.zero_le _, Nat.zero_le _⟩ (fun w hp => ?_)
  obtain ⟨f2, rfl, hf2⟩ := hp
  refine kw_aload_n X dc_V_of_4 rfl rfl ?_
  refine kw_get X (wc_M _) 0 rfl rfl 1 (by decide) (gq wd_61) (fun _ h => h) rfl dc_V_of_5 ?_
  refine kw_iload_n X dc_V_of_8 rfl rfl ?_
  refine kw_bald (v := iZ (gm_mg lo hi n p)) X 1 1 rfl rfl (kq_in (by omega) (by omega)) (by rw [kq_cl (by omega)]; exact hf2 p hp) dc_V_of_9 ?_
  exact kw_iret X hr hlk dc_V_of_10 ⟨rfl, f2, rfl, hf2⟩
set_option maxRecDepth 100000 in
set_option maxHeartbeats 4000000 in
theorem ct_goodM {l : Launch} {D : va_G} {kI kB kC kL : ClassId} (v0 v1 w0 w1 w2 w3 n : Nat) (rd : Int32) (f les oth soc : Nat → Int32) (lo hi : Nat → Nat) (ok : webOk lo hi n les oth soc) (hrd : (rd = nI 1 ∧ ∀ q, q < 2 ^ n → f q = iZ (gm_mg lo hi n q)) ∨ rd = nI 0) (p : Nat) (hp : p < 2 ^ n) : kw_I l mn_V_markedStrings (gw mn_V_markedStrings cd_V_markedStrings 4 (some .int)) ({ frames := 5, cells := 0, slots := 0, locals := 114 } : Room) D cl_v (kt kI kB kC kL) kE [.ref v0, .int (nI p)] (wVal 2 kI kB v0 v1 w0 w1 w2 w3 n rd f les oth soc) (fun r w => r = nI (gm_good lo hi n p) ∧ ∃ f2 : Nat → Int32, w = wVal 2 kI kB v0 v1 w0 w1 w2 w3 n (nI 1) f2 les oth soc ∧ ∀ q, q < 2 ^ n → f2 q = iZ (gm_mg lo hi n q)) 0 0 := by
  refine kw_ofI (cc := cd_V_markedStrings) (maxL := 4) (ty := .int) (by decide) rfl (Nat.le_of_ble_eq_true rfl) rfl ?_
  intro pp ee s m args below meth c A X hr hlk hE hnm
  have hn := ok.1.1
  have hp4 := kq_2n hn hp
  refine kw_aload_n X dc_V_markedStrings_0 rfl rfl ?_
  refine kw_callVV X kEw hE 0 rfl rfl (ct_prepM v0 v1 w0 w1 w2 w3 n rd f les oth soc lo hi ok hrd) (cw_P 0 X wd_463 wd_465 (hE _ (by decide +kernel)) wd_3 wd_466 rfl rfl (by decide +kernel) ⟨Nat.le_of_ble_eq_true rfl, Nat.le_of_ble_eq_true rfl⟩) [0, 1, 2, 3, 4, 5] rfl (by decide) (fun _ h => by obtain ⟨g, rfl, _⟩ := h; exact Nat.le_refl _) rfl rfl (Nat.le_of_ble_eq_true rfl) dc_V_markedStrings_1 ⟨Nat.zero_le _, Nat.zero_le _⟩ (fun w hp => ?_)
  obtain ⟨f2, rfl, hf2⟩ := hp
  refine kw_iconst (v := (nI 0)) X dc_V_markedStrings_4 (by decide) ?_
  refine kw_istore_n X dc_V_markedStrings_5 rfl (by decide) ?_
  refine kw_iconst (v := (nI 0)) X dc_V_markedStrings_6 (by decide) ?_
  refine kw_istore_n X dc_V_markedStrings_7 rfl (by decide) ?_
  refine kw_loop (α := Nat) (fun k => k ≤ n) (fun k => n - k) (fun _ => wVal 2 kI kB v0 v1 w0 w1 w2 w3 n (nI 1) f2 les oth soc) (fun k => [some (.ref v0), some (.int (nI p)), some (.int (nI (gm_ms (fun i => p.testBit i && decide (gm_gv lo hi n (gm_mg lo hi n) p i = gm_mg lo hi n p)) k))), some (.int (nI k))]) (fun _ => []) 0 (Nat.zero_le _) (fun k hk ih => ?_)
  refine kw_iload_n X dc_V_markedStrings_8 rfl rfl ?_
  refine kw_aload_n X dc_V_markedStrings_9 rfl rfl ?_
  refine kw_get X (wc_M _) 0 rfl rfl 0 (by decide) (gq wd_56) (fun _ h => h) rfl dc_V_markedStrings_10 ?_
  refine kw_callVI X kEw hE 0 rfl rfl (ct_size w0 w1 w2 w3 n les oth soc) (cw_V 0 X wd_494 wd_191 wd_192 wd_2 wd_193 rfl rfl (by decide +kernel) ⟨Nat.le_of_ble_eq_true rfl, Nat.le_of_ble_eq_true rfl⟩) [2, 3, 4, 5] rfl (by decide) (fun _ _ h => by obtain ⟨rfl, _⟩ := h; exact Nat.le_refl _) rfl rfl (Nat.le_of_ble_eq_true rfl) dc_V_markedStrings_13 ⟨Nat.zero_le _, Nat.zero_le _⟩ (fun r w hp => ?_)
  obtain ⟨rfl, rfl⟩ := hp
  refine kw_icmp_ge (tgt := 48) X dc_V_markedStrings_16 (by decide) (fun hc16 => ?_) (fun hc16 => ?_)
  · refine kw_iload_n X dc_V_markedStrings_48 rfl rfl ?_
    exact kw_iret X hr hlk dc_V_markedStrings_49 ⟨by have hkn : k = n := Nat.le_antisymm hk (kq_le hc16); subst hkn; rfl, f2, rfl, hf2⟩
  · have hkn := kq_nle hc16
    refine kw_iload_n X dc_V_markedStrings_19 rfl rfl ?_
    refine kw_iload_n X dc_V_markedStrings_20 rfl rfl ?_
    refine kw_callSNI X kEw hE (ct_hasN p k (by omega) (by omega)) (cw_SN (host := "CoinStrings") 2 X (hE _ (by decide +kernel)) wd_195 wd_1 wd_196 rfl rfl (by decide +kernel) ⟨Nat.le_of_ble_eq_true rfl, Nat.le_of_ble_eq_true rfl⟩) [] rfl (by decide) (fun _ _ _ => Nat.zero_le _) rfl rfl (Nat.le_of_ble_eq_true rfl) dc_V_markedStrings_21 ⟨Nat.zero_le _, Nat.zero_le _⟩ (fun r w hp => ?_)
    obtain ⟨rfl, rfl⟩ := hp
    refine kw_if_eq (tgt := 42) X dc_V_markedStrings_24 (by decide) (fun hc24 => ?_) (fun hc24 => ?_)
    · have h24 := kq_z0 hc24
      refine kw_iinc (v := nI (k + 1)) X dc_V_markedStrings_42 rfl (kq_inc k) (by decide) ?_
      refine kw_goto (tgt := 8) X dc_V_markedStrings_45 (by decide) ?_
      refine kw_cv (lv' := [some (.ref v0), some (.int (nI p)), some (.int (nI (gm_ms (fun i => p.testBit i && decide (gm_gv lo hi n (gm_mg lo hi n) p i = gm_mg lo hi n p)) (k + 1)))), some (.int (nI (k + 1)))]) rfl (by first | rfl | (rw [gm_ms_no (q := (fun i => p.testBit i && decide (gm_gv lo hi n (gm_mg lo hi n) p i = gm_mg lo hi n p))) (kq_f2 h33)]; rfl) | (rw [gm_ms_no (q := (fun i => p.testBit i && decide (gm_gv lo hi n (gm_mg lo hi n) p i = gm_mg lo hi n p))) (kq_f1 h24)]; rfl)) rfl ?_
      exact ih (k + 1) (by omega) (by omega)
    · have h24 := kq_z1 hc24
      refine kw_aload_n X dc_V_markedStrings_27 rfl rfl ?_
      refine kw_iload_n X dc_V_markedStrings_28 rfl rfl ?_
      refine kw_iload_n X dc_V_markedStrings_29 rfl rfl ?_
      refine kw_callUI X kEw hE 0 rfl rfl (ct_markM v0 v1 w0 w1 w2 w3 n (nI 1) f2 les oth soc lo hi ok p k hp hkn h24 hf2) (cw_A 2 X wd_496 wd_498 wd_499 wd_500 wd_4 wd_501 rfl rfl (hE _ (by decide +kernel)) (by decide +kernel) ⟨Nat.le_of_ble_eq_true rfl, Nat.le_of_ble_eq_true rfl⟩) [0, 1, 2, 3, 4, 5] rfl (by decide) (fun _ _ h => by obtain ⟨rfl, _⟩ := h; exact Nat.le_refl _) rfl rfl (Nat.le_of_ble_eq_true rfl) dc_V_markedStrings_30 ⟨Nat.zero_le _, Nat.zero_le _⟩ (fun r w hp => ?_)
      obtain ⟨rfl, rfl⟩ := hp
      refine kw_if_eq (tgt := 42) X dc_V_markedStrings_33 (by decide) (fun hc33 => ?_) (fun hc33 => ?_)
      · have h33 := kq_z0 hc33
        refine kw_iinc (v := nI (k + 1)) X dc_V_markedStrings_42 rfl (kq_inc k) (by decide) ?_
        refine kw_goto (tgt := 8) X dc_V_markedStrings_45 (by decide) ?_
        refine kw_cv (lv' := [some (.ref v0), some (.int (nI p)), some (.int (nI (gm_ms (fun i => p.testBit i && decide (gm_gv lo hi n (gm_mg lo hi n) p i = gm_mg lo hi n p)) (k + 1)))), some (.int (nI (k + 1)))]) rfl (by first | rfl | (rw [gm_ms_no (q := (fun i => p.testBit i && decide (gm_gv lo hi n (gm_mg lo hi n) p i = gm_mg lo hi n p))) (kq_f2 h33)]; rfl) | (rw [gm_ms_no (q := (fun i => p.testBit i && decide (gm_gv lo hi n (gm_mg lo hi n) p i = gm_mg lo hi n p))) (kq_f1 h24)]; rfl)) rfl ?_
        exact ih (k + 1) (by omega) (by omega)
      · have h33 := kq_z1 hc33
        refine kw_iload_n X dc_V_markedStrings_36 rfl rfl ?_
        refine kw_iconst (v := (nI 1)) X dc_V_markedStrings_37 (by decide) ?_
        refine kw_iload_n X dc_V_markedStrings_38 rfl rfl ?_
        refine kw_ishl (v := nI (2 ^ k)) X dc_V_markedStrings_39 (bq_shl (by omega)) ?_
        refine kw_ior (v := nI (gm_ms (fun i => p.testBit i && decide (gm_gv lo hi n (gm_mg lo hi n) p i = gm_mg lo hi n p)) (k + 1))) X dc_V_markedStrings_40 (by rw [bq_or, show gm_ms (fun i => p.testBit i && decide (gm_gv lo hi n (gm_mg lo hi n) p i = gm_mg lo hi n p)) (k + 1) = gm_ms (fun i => p.testBit i && decide (gm_gv lo hi n (gm_mg lo hi n) p i = gm_mg lo hi n p)) k ||| 2 ^ k from if_pos (by simp [h24, h33])]) ?_
        refine kw_istore_n X dc_V_markedStrings_41 rfl (by decide) ?_
        refine kw_iinc (v := nI (k + 1)) X dc_V_markedStrings_42 rfl (kq_inc k) (by decide) ?_
        refine kw_goto (tgt := 8) X dc_V_markedStrings_45 (by decide) ?_
        refine kw_cv (lv' := [some (.ref v0), some (.int (nI p)), some (.int (nI (gm_ms (fun i => p.testBit i && decide (gm_gv lo hi n (gm_mg lo hi n) p i = gm_mg lo hi n p)) (k + 1)))), some (.int (nI (k + 1)))]) rfl (by first | rfl | (rw [gm_ms_no (q := (fun i => p.testBit i && decide (gm_gv lo hi n (gm_mg lo hi n) p i = gm_mg lo hi n p))) (kq_f2 h33)]; rfl) | (rw [gm_ms_no (q := (fun i => p.testBit i && decide (gm_gv lo hi n (gm_mg lo hi n) p i = gm_mg lo hi n p))) (kq_f1 h24)]; rfl)) rfl ?_
        exact ih (k + 1) (by omega) (by omega)
set_option maxRecDepth 100000 in
set_option maxHeartbeats 4000000 in
theorem ct_forgetM {l : Launch} {D : va_G} {kI kB kC kL : ClassId} (v0 v1 w0 : Nat) (rd : Int32) : kw_V l mn_V_forget (gw mn_V_forget cd_V_forget 1 none) ({ frames := 0, cells := 0, slots := 0, locals := 0 } : Room) D cl_v (kt kI kB kC kL) kE [.ref v0] ([(v0, .inr (2, [.ref w0, .ref v1, .int rd]))]) (fun w => w = [(v0, .inr (2, [.ref w0, .ref v1, .int (nI 0)]))]) 0 0 := by
  refine kw_ofV (cc := cd_V_forget) (maxL := 1) (by decide) rfl (Nat.le_of_ble_eq_true rfl) rfl ?_
  intro pp ee s m args below meth c A X hr hlk hE hnm
  refine kw_aload_n X dc_V_forget_0 rfl rfl ?_
  refine kw_iconst (v := (nI 0)) X dc_V_forget_1 (by decide) ?_
  refine kw_putf (ty := .boolean) X (wc_M _) fy_M fk_M fn_M 0 rfl rfl 2 (by decide) (gq wd_66) (fun _ h => h) rfl (by decide +kernel) rfl rfl (Nat.le_of_ble_eq_true rfl) dc_V_forget_2 ?_
  exact kw_vret X hr hlk dc_V_forget_5 rfl
end
section
/-! nim values, over the class's table -/
theorem gm_stA {lo hi : Nat → Nat} {n : Nat} {f : Nat → Int} {p k : Nat} (h : ¬ p.testBit k = true) : gm_st lo hi n f p (k + 1) = gm_st lo hi n f p k := if_neg h
theorem gm_stB {lo hi : Nat → Nat} {n : Nat} {f : Nat → Int} {p k : Nat} (h : p.testBit k = true) (hv : f (bq_wo p k) = -1) : gm_st lo hi n f p (k + 1) = ((gm_st lo hi n f p k).1, (gm_st lo hi n f p k).2.1, (gm_st lo hi n f p k).2.2 || decide (0 < gm_tk lo hi n p k)) := by
  rw [gm_st, if_pos h, if_pos hv]
theorem gm_stC {lo hi : Nat → Nat} {n : Nat} {f : Nat → Int} {p k : Nat} (h : p.testBit k = true) (hv : ¬ f (bq_wo p k) = -1) (ht : decide (0 < gm_tk lo hi n p k) = true) : gm_st lo hi n f p (k + 1) = ((gm_st lo hi n f p k).1, (gm_st lo hi n f p k).2.1 ||| 2 ^ (f (bq_wo p k)).toNat, (gm_st lo hi n f p k).2.2) := by
  rw [gm_st, if_pos h, if_neg hv, if_pos (of_decide_eq_true ht)]
theorem gm_stD {lo hi : Nat → Nat} {n : Nat} {f : Nat → Int} {p k : Nat} (h : p.testBit k = true) (hv : ¬ f (bq_wo p k) = -1) (ht : decide (0 < gm_tk lo hi n p k) = false) : gm_st lo hi n f p (k + 1) = ((gm_st lo hi n f p k).1 ||| 2 ^ (f (bq_wo p k)).toNat, (gm_st lo hi n f p k).2.1, (gm_st lo hi n f p k).2.2) := by
  rw [gm_st, if_pos h, if_neg hv, if_neg (of_decide_eq_false ht)]
def gm_mad (lo hi : Nat → Nat) (n p : Nat) : Nat := gm_ms (fun i => p.testBit i && (decide (gm_tk lo hi n p i = 0) && decide (gm_nm lo hi n (bq_wo p i) = -1))) n
theorem kq_pc1 {t : Nat} (h0 : t ≠ 0) (h : ¬ 1 < gm_pc t) (ht : t < 4096) : gm_pc t = 1 := by
  obtain ⟨i, hi, hb⟩ := gm_bit_of h0 (show t < 2 ^ 12 from ht)
  have := gm_pc_pos hi hb
  omega
theorem kq_m1 {z : Int} (h1 : -1 ≤ z) (h2 : z ≤ 12) : iZ z = -1 ↔ z = -1 := by
  rw [← iZ_m1]
  exact iZ_inj (by omega) (by omega) (by omega) (by omega)
set_option maxRecDepth 100000 in
set_option maxHeartbeats 4000000 in
theorem ct_workN {l : Launch} {D : va_G} {kI kB kC kL : ClassId} (v0 v1 w0 w1 w2 w3 n : Nat) (rd : Int32) (f les oth soc : Nat → Int32) (lo hi : Nat → Nat) (ok : webOk lo hi n les oth soc) (p : Nat) (hp : p < 2 ^ n) (hf : ∀ q, q < p → f q = iZ (gm_nm lo hi n q)) : kw_I l mn_N_workOut (gw mn_N_workOut cd_N_workOut 8 (some .int)) ({ frames := 2, cells := 0, slots := 0, locals := 46 } : Room) D cl_v (kt kI kB kC kL) kE [.ref v0, .int (nI p)] (wVal 3 kI kB v0 v1 w0 w1 w2 w3 n rd f les oth soc) (fun r w => w = wVal 3 kI kB v0 v1 w0 w1 w2 w3 n rd f les oth soc ∧ r = iZ (gm_nm lo hi n p)) 0 0 := by
  refine kw_ofI (cc := cd_N_workOut) (maxL := 8) (ty := .int) (by decide) rfl (Nat.le_of_ble_eq_true rfl) rfl ?_
  intro pp ee s m args below meth c A X hr hlk hE hnm
  have hn := ok.1.1
  have hp4 := kq_2n hn hp
  refine kw_iconst (v := (nI 0)) X dc_N_workOut_0 (by decide) ?_
  refine kw_istore_n X dc_N_workOut_1 rfl (by decide) ?_
  refine kw_iconst (v := (nI 0)) X dc_N_workOut_2 (by decide) ?_
  refine kw_istore_n X dc_N_workOut_3 rfl (by decide) ?_
  refine kw_iconst (v := (nI 0)) X dc_N_workOut_4 (by decide) ?_
  refine kw_istore X dc_N_workOut_5 (by decide) ?_
  refine kw_iconst (v := (nI 0)) X dc_N_workOut_7 (by decide) ?_
  refine kw_istore X dc_N_workOut_8 (by decide) ?_
  refine kw_loop (α := Nat) (fun k => k ≤ n) (fun k => n - k) (fun _ => wVal 3 kI kB v0 v1 w0 w1 w2 w3 n rd f les oth soc) (fun k => [some (.ref v0), some (.int (nI p)), some (.int (nI (gm_st lo hi n (gm_nm lo hi n) p k).1)), some (.int (nI (gm_st lo hi n (gm_nm lo hi n) p k).2.1)), some (.int (bI (gm_st lo hi n (gm_nm lo hi n) p k).2.2)), some (.int (nI k)), none, none]) (fun _ => []) 0 (Nat.zero_le _) (fun k hk ih => ?_)
  refine kw_iload X dc_N_workOut_10 rfl ?_
  refine kw_aload_n X dc_N_workOut_12 rfl rfl ?_
  refine kw_get X (wc_N _) 0 rfl rfl 0 (by decide) (gq wd_59) (fun x9 h9 => u_same (X.1.2.2.2.2 _ (gq wd_60)) x9 h9) rfl dc_N_workOut_13 ?_
  refine kw_callVI X kEw hE 0 rfl rfl (ct_size w0 w1 w2 w3 n les oth soc) (cw_V 0 X wd_486 wd_191 wd_192 wd_2 wd_193 rfl rfl (by decide +kernel) ⟨Nat.le_of_ble_eq_true rfl, Nat.le_of_ble_eq_true rfl⟩) [2, 3, 4, 5] rfl (by decide) (fun _ _ h => by obtain ⟨rfl, _⟩ := h; exact Nat.le_refl _) rfl rfl (Nat.le_of_ble_eq_true rfl) dc_N_workOut_16 ⟨Nat.zero_le _, Nat.zero_le _⟩ (fun r w hp => ?_)
  obtain ⟨rfl, rfl⟩ := hp
  refine kw_icmp_ge (tgt := 121) X dc_N_workOut_19 (by decide) (fun hc19 => ?_) (fun hc19 => ?_)
  · have hkn9 : k = n := Nat.le_antisymm hk (kq_le hc19)
    have eST : gm_st lo hi n (gm_nm lo hi n) p n = gm_st lo hi n (gm_nm lo hi n) p k := by rw [hkn9]
    obtain ⟨q1, q2⟩ := gm_st_12 (lo := lo) (hi := hi) hn hp hk
    refine kw_iload X dc_N_workOut_121 rfl ?_
    refine kw_if_eq (tgt := 128) X dc_N_workOut_123 (by decide) (fun hc123 => ?_) (fun hc123 => ?_)
    · have h123 := bI_0 hc123
      have h124 : ¬ (gm_st lo hi n (gm_nm lo hi n) p k).2.2 = true := by rw [h123]; decide
      refine kw_iload_n X dc_N_workOut_128 rfl rfl ?_
      refine kw_if_ne (tgt := 139) X dc_N_workOut_129 (by decide) (fun hc129 => ?_) (fun hc129 => ?_)
      · have h129 := kq_ne (b := 0) hc129
        refine kw_iload_n X dc_N_workOut_139 rfl rfl ?_
        refine kw_callSI X kEw hE (ct_bitCount (gm_st lo hi n (gm_nm lo hi n) p k).2.1 q2) (cw_S 1 X wd_493 wd_185 wd_18 wd_186 rfl rfl (by decide +kernel) ⟨Nat.le_of_ble_eq_true rfl, Nat.le_of_ble_eq_true rfl⟩) [] rfl (by decide) (fun _ _ _ => Nat.zero_le _) rfl rfl (Nat.le_of_ble_eq_true rfl) dc_N_workOut_140 ⟨Nat.zero_le _, Nat.zero_le _⟩ (fun r w hp => ?_)
        obtain ⟨rfl, rfl⟩ := hp
        refine kw_iconst (v := (nI 1)) X dc_N_workOut_143 (by decide) ?_
        refine kw_icmp_gt (tgt := 153) X dc_N_workOut_144 (by decide) (fun hc144 => ?_) (fun hc144 => ?_)
        · have h144 := kq_lt hc144 (by omega) (by have := gm_pc_le (gm_st lo hi n (gm_nm lo hi n) p k).2.1; omega)
          refine kw_iconst (v := (-1)) X dc_N_workOut_153 (by decide) ?_
          refine kw_goto (tgt := 161) X dc_N_workOut_154 (by decide) ?_
          exact kw_iret X hr hlk dc_N_workOut_161 ⟨rfl, by rw [gm_nm_eq]; unfold gm_NF; rw [eST]; unfold gm_out; first | (rw [if_neg h124, if_neg h129, if_neg (fun z => z.elim (fun z => absurd z (Nat.not_lt.mpr h144)) (fun z => z h150))]; exact (iZ_nat _).symm) | (rw [if_neg h124, if_neg h129, if_pos (Or.inr h150)]; rfl) | (rw [if_neg h124, if_neg h129, if_pos (Or.inl h144)]; rfl)⟩
        · have h144 := kq_nlt hc144 (by omega) (by have := gm_pc_le (gm_st lo hi n (gm_nm lo hi n) p k).2.1; omega)
          refine kw_iload_n X dc_N_workOut_147 rfl rfl ?_
          refine kw_iload_n X dc_N_workOut_148 rfl rfl ?_
          refine kw_iand (v := nI ((gm_st lo hi n (gm_nm lo hi n) p k).2.1 &&& (gm_st lo hi n (gm_nm lo hi n) p k).1)) X dc_N_workOut_149 (nx_and _ _) ?_
          refine kw_if_eq (tgt := 157) X dc_N_workOut_150 (by decide) (fun hc150 => ?_) (fun hc150 => ?_)
          · have ha9 : (gm_st lo hi n (gm_nm lo hi n) p k).2.1 &&& (gm_st lo hi n (gm_nm lo hi n) p k).1 ≤ (gm_st lo hi n (gm_nm lo hi n) p k).1 := Nat.and_le_right
            have h150 := kq_eq (b := 0) hc150 (by omega)
            refine kw_iload_n X dc_N_workOut_157 rfl rfl ?_
            refine kw_callSNI X kEw hE (ct_least (nI (gm_st lo hi n (gm_nm lo hi n) p k).2.1) (fun i => (gm_st lo hi n (gm_nm lo hi n) p k).2.1.testBit i) (fun i hi => kq_has (by omega) (by omega))) (cw_SN (host := "CoinStrings") 1 X (hE _ (by decide +kernel)) wd_491 wd_1 wd_492 rfl rfl (by decide +kernel) ⟨Nat.le_of_ble_eq_true rfl, Nat.le_of_ble_eq_true rfl⟩) [] rfl (by decide) (fun _ _ _ => Nat.zero_le _) rfl rfl (Nat.le_of_ble_eq_true rfl) dc_N_workOut_158 ⟨Nat.zero_le _, Nat.zero_le _⟩ (fun r w hp => ?_)
            obtain ⟨rfl, rfl⟩ := hp
            exact kw_iret X hr hlk dc_N_workOut_161 ⟨rfl, by rw [gm_nm_eq]; unfold gm_NF; rw [eST]; unfold gm_out; first | (rw [if_neg h124, if_neg h129, if_neg (fun z => z.elim (fun z => absurd z (Nat.not_lt.mpr h144)) (fun z => z h150))]; exact (iZ_nat _).symm) | (rw [if_neg h124, if_neg h129, if_pos (Or.inr h150)]; rfl) | (rw [if_neg h124, if_neg h129, if_pos (Or.inl h144)]; rfl)⟩
          · have ha9 : (gm_st lo hi n (gm_nm lo hi n) p k).2.1 &&& (gm_st lo hi n (gm_nm lo hi n) p k).1 ≤ (gm_st lo hi n (gm_nm lo hi n) p k).1 := Nat.and_le_right
            have h150 := kq_ne (b := 0) hc150 (by omega)
            refine kw_iconst (v := (-1)) X dc_N_workOut_153 (by decide) ?_
            refine kw_goto (tgt := 161) X dc_N_workOut_154 (by decide) ?_
            exact kw_iret X hr hlk dc_N_workOut_161 ⟨rfl, by rw [gm_nm_eq]; unfold gm_NF; rw [eST]; unfold gm_out; first | (rw [if_neg h124, if_neg h129, if_neg (fun z => z.elim (fun z => absurd z (Nat.not_lt.mpr h144)) (fun z => z h150))]; exact (iZ_nat _).symm) | (rw [if_neg h124, if_neg h129, if_pos (Or.inr h150)]; rfl) | (rw [if_neg h124, if_neg h129, if_pos (Or.inl h144)]; rfl)⟩
      · have h129 := kq_eq (b := 0) hc129
        refine kw_iload_n X dc_N_workOut_132 rfl rfl ?_
        refine kw_iconst (v := (-1)) X dc_N_workOut_133 (by decide) ?_
        refine kw_ixor X dc_N_workOut_134 rfl ?_
        refine kw_callSNI X kEw hE (ct_least (nI (gm_st lo hi n (gm_nm lo hi n) p k).1 ^^^ (-1)) (fun i => !(gm_st lo hi n (gm_nm lo hi n) p k).1.testBit i) (fun i hi => kq_notbit (by omega))) (cw_SN (host := "CoinStrings") 1 X (hE _ (by decide +kernel)) wd_491 wd_1 wd_492 rfl rfl (by decide +kernel) ⟨Nat.le_of_ble_eq_true rfl, Nat.le_of_ble_eq_true rfl⟩) [] rfl (by decide) (fun _ _ _ => Nat.zero_le _) rfl rfl (Nat.le_of_ble_eq_true rfl) dc_N_workOut_135 ⟨Nat.zero_le _, Nat.zero_le _⟩ (fun r w hp => ?_)
        obtain ⟨rfl, rfl⟩ := hp
        exact kw_iret X hr hlk dc_N_workOut_138 ⟨rfl, by rw [gm_nm_eq]; unfold gm_NF; rw [eST]; unfold gm_out; rw [if_neg h124, if_pos h129]; exact (iZ_nat _).symm⟩
    · have h123 := bI_1 hc123
      refine kw_iconst (v := (-1)) X dc_N_workOut_126 (by decide) ?_
      exact kw_iret X hr hlk dc_N_workOut_127 ⟨rfl, by rw [gm_nm_eq]; unfold gm_NF; rw [eST]; unfold gm_out; rw [if_pos h123]; rfl⟩
  · have hkn := kq_nle hc19
    refine kw_iload_n X dc_N_workOut_22 rfl rfl ?_
    refine kw_iload X dc_N_workOut_23 rfl ?_
    refine kw_callSNI X kEw hE (ct_hasN p k (by omega) (by omega)) (cw_SN (host := "CoinStrings") 2 X (hE _ (by decide +kernel)) wd_195 wd_1 wd_196 rfl rfl (by decide +kernel) ⟨Nat.le_of_ble_eq_true rfl, Nat.le_of_ble_eq_true rfl⟩) [] rfl (by decide) (fun _ _ _ => Nat.zero_le _) rfl rfl (Nat.le_of_ble_eq_true rfl) dc_N_workOut_25 ⟨Nat.zero_le _, Nat.zero_le _⟩ (fun r w hp => ?_)
    obtain ⟨rfl, rfl⟩ := hp
    refine kw_if_ne (tgt := 34) X dc_N_workOut_28 (by decide) (fun hc28 => ?_) (fun hc28 => ?_)
    · have h28 := kq_z1 hc28
      have hlt := bq_wo_lt h28
      obtain ⟨b1, b2⟩ := gm_nm_11 (lo := lo) (hi := hi) hn hp hkn h28
      refine kw_aload_n X dc_N_workOut_34 rfl rfl ?_
      refine kw_get X (wc_N _) 0 rfl rfl 1 (by decide) (gq wd_62) (fun x9 h9 => u_same (X.1.2.2.2.2 _ (gq wd_63)) x9 h9) rfl dc_N_workOut_35 ?_
      refine kw_iload_n X dc_N_workOut_38 rfl rfl ?_
      refine kw_iload X dc_N_workOut_39 rfl ?_
      refine kw_callSNI X kEw hE (ct_without p k (by omega)) (cw_SN (host := "CoinStrings") 2 X (hE _ (by decide +kernel)) wd_441 wd_1 wd_442 rfl rfl (by decide +kernel) ⟨Nat.le_of_ble_eq_true rfl, Nat.le_of_ble_eq_true rfl⟩) [] rfl (by decide) (fun _ _ _ => Nat.zero_le _) rfl rfl (Nat.le_of_ble_eq_true rfl) dc_N_workOut_41 ⟨Nat.zero_le _, Nat.zero_le _⟩ (fun r w hp => ?_)
      obtain ⟨rfl, rfl⟩ := hp
      refine kw_bald (v := iZ (gm_nm lo hi n (bq_wo p k))) X 1 1 rfl rfl (kq_in (by omega) (by omega)) (by rw [kq_cl (by omega)]; exact hf _ hlt) dc_N_workOut_44 ?_
      refine kw_istore X dc_N_workOut_45 (by decide) ?_
      refine kw_aload_n X dc_N_workOut_47 rfl rfl ?_
      refine kw_get X (wc_N _) 0 rfl rfl 0 (by decide) (gq wd_59) (fun x9 h9 => u_same (X.1.2.2.2.2 _ (gq wd_60)) x9 h9) rfl dc_N_workOut_48 ?_
      refine kw_iload_n X dc_N_workOut_51 rfl rfl ?_
      refine kw_iload X dc_N_workOut_52 rfl ?_
      refine kw_callVI X kEw hE 0 rfl rfl (ct_freed w0 w1 w2 w3 n les oth soc p k lo hi ok hkn) (cw_V 2 X wd_489 wd_433 wd_434 wd_2 wd_435 rfl rfl (by decide +kernel) ⟨Nat.le_of_ble_eq_true rfl, Nat.le_of_ble_eq_true rfl⟩) [2, 3, 4, 5] rfl (by decide) (fun _ _ h => by obtain ⟨rfl, _⟩ := h; exact Nat.le_refl _) rfl rfl (Nat.le_of_ble_eq_true rfl) dc_N_workOut_54 ⟨Nat.zero_le _, Nat.zero_le _⟩ (fun r w hp => ?_)
      obtain ⟨rfl, rfl⟩ := hp
      refine kw_if_le2 (tgt := 64) X dc_N_workOut_57 (by decide) (kw_matP (i9 := inferInstance) (E := 65) (a := (nI 1)) (b := (nI 0)) X dc_N_workOut_60 (by decide) dc_N_workOut_61 (by decide) dc_N_workOut_64 (by decide) rfl ?_)
      refine kw_top (y := bI (decide (0 < gm_tk lo hi n p k))) (bI_le (by have := gm_tk_2 lo hi n p k; omega)) ?_
      refine kw_istore X dc_N_workOut_65 (by decide) ?_
      refine kw_iload X dc_N_workOut_67 rfl ?_
      refine kw_iconst (v := (-1)) X dc_N_workOut_69 (by decide) ?_
      refine kw_icmp_ne (tgt := 93) X dc_N_workOut_70 (by decide) (fun hc70 => ?_) (fun hc70 => ?_)
      · have h70 : ¬ gm_nm lo hi n (bq_wo p k) = -1 := fun z => hc70 ((kq_m1 b1 (by omega)).mpr z)
        have h71 : 0 ≤ gm_nm lo hi n (bq_wo p k) := by omega
        refine kw_iload X dc_N_workOut_93 rfl ?_
        refine kw_if_eq (tgt := 108) X dc_N_workOut_95 (by decide) (fun hc95 => ?_) (fun hc95 => ?_)
        · have h95 := bI_0 hc95
          refine kw_iload_n X dc_N_workOut_108 rfl rfl ?_
          refine kw_iconst (v := (nI 1)) X dc_N_workOut_109 (by decide) ?_
          refine kw_iload X dc_N_workOut_110 rfl ?_
          refine kw_ishl (v := nI (2 ^ (gm_nm lo hi n (bq_wo p k)).toNat)) X dc_N_workOut_112 (by rw [iZ_pos h71]; exact bq_shl (by omega)) ?_
          refine kw_ior (v := nI ((gm_st lo hi n (gm_nm lo hi n) p k).1 ||| 2 ^ (gm_nm lo hi n (bq_wo p k)).toNat)) X dc_N_workOut_113 (bq_or _ _) ?_
          refine kw_istore_n X dc_N_workOut_114 rfl (by decide) ?_
          refine kw_iinc (v := nI (k + 1)) X dc_N_workOut_115 rfl (kq_inc k) (by decide) ?_
          refine kw_goto (tgt := 10) X dc_N_workOut_118 (by decide) ?_
          refine kw_kill 6 ?_
          refine kw_kill 7 ?_
          refine kw_cv (lv' := [some (.ref v0), some (.int (nI p)), some (.int (nI (gm_st lo hi n (gm_nm lo hi n) p (k + 1)).1)), some (.int (nI (gm_st lo hi n (gm_nm lo hi n) p (k + 1)).2.1)), some (.int (bI (gm_st lo hi n (gm_nm lo hi n) p (k + 1)).2.2)), some (.int (nI (k + 1))), none, none]) rfl (by first | (rw [gm_stB h28 h70]; rfl) | (rw [gm_stC h28 h70 h95]; rfl) | (rw [gm_stD h28 h70 h95]; rfl) | (rw [gm_stA h28]; rfl)) rfl ?_
          exact ih (k + 1) (by omega) (by omega)
        · have h95 := bI_1 hc95
          refine kw_iload_n X dc_N_workOut_98 rfl rfl ?_
          refine kw_iconst (v := (nI 1)) X dc_N_workOut_99 (by decide) ?_
          refine kw_iload X dc_N_workOut_100 rfl ?_
          refine kw_ishl (v := nI (2 ^ (gm_nm lo hi n (bq_wo p k)).toNat)) X dc_N_workOut_102 (by rw [iZ_pos h71]; exact bq_shl (by omega)) ?_
          refine kw_ior (v := nI ((gm_st lo hi n (gm_nm lo hi n) p k).2.1 ||| 2 ^ (gm_nm lo hi n (bq_wo p k)).toNat)) X dc_N_workOut_103 (bq_or _ _) ?_
          refine kw_istore_n X dc_N_workOut_104 rfl (by decide) ?_
          refine kw_goto (tgt := 115) X dc_N_workOut_105 (by decide) ?_
          refine kw_iinc (v := nI (k + 1)) X dc_N_workOut_115 rfl (kq_inc k) (by decide) ?_
          refine kw_goto (tgt := 10) X dc_N_workOut_118 (by decide) ?_
          refine kw_kill 6 ?_
          refine kw_kill 7 ?_
          refine kw_cv (lv' := [some (.ref v0), some (.int (nI p)), some (.int (nI (gm_st lo hi n (gm_nm lo hi n) p (k + 1)).1)), some (.int (nI (gm_st lo hi n (gm_nm lo hi n) p (k + 1)).2.1)), some (.int (bI (gm_st lo hi n (gm_nm lo hi n) p (k + 1)).2.2)), some (.int (nI (k + 1))), none, none]) rfl (by first | (rw [gm_stB h28 h70]; rfl) | (rw [gm_stC h28 h70 h95]; rfl) | (rw [gm_stD h28 h70 h95]; rfl) | (rw [gm_stA h28]; rfl)) rfl ?_
          exact ih (k + 1) (by omega) (by omega)
      · have h70 := (kq_m1 b1 (by omega)).mp hc70
        refine kw_iload X dc_N_workOut_73 rfl ?_
        refine kw_if_ne (tgt := 83) X dc_N_workOut_75 (by decide) (fun hc75 => ?_) (fun hc75 => ?_)
        · have h75 := bI_1 hc75
          refine kw_iconst (v := (nI 1)) X dc_N_workOut_83 (by decide) ?_
          refine kw_goto (tgt := 88) X dc_N_workOut_84 (by decide) ?_
          refine kw_top (y := bI ((gm_st lo hi n (gm_nm lo hi n) p k).2.2 || decide (0 < gm_tk lo hi n p k))) (by first | exact bI_or1 h75 | exact bI_or2 h80 | exact bI_or0 h75 h80) ?_
          refine kw_istore X dc_N_workOut_88 (by decide) ?_
          refine kw_goto (tgt := 115) X dc_N_workOut_90 (by decide) ?_
          refine kw_iinc (v := nI (k + 1)) X dc_N_workOut_115 rfl (kq_inc k) (by decide) ?_
          refine kw_goto (tgt := 10) X dc_N_workOut_118 (by decide) ?_
          refine kw_kill 6 ?_
          refine kw_kill 7 ?_
          refine kw_cv (lv' := [some (.ref v0), some (.int (nI p)), some (.int (nI (gm_st lo hi n (gm_nm lo hi n) p (k + 1)).1)), some (.int (nI (gm_st lo hi n (gm_nm lo hi n) p (k + 1)).2.1)), some (.int (bI (gm_st lo hi n (gm_nm lo hi n) p (k + 1)).2.2)), some (.int (nI (k + 1))), none, none]) rfl (by first | (rw [gm_stB h28 h70]; rfl) | (rw [gm_stC h28 h70 h95]; rfl) | (rw [gm_stD h28 h70 h95]; rfl) | (rw [gm_stA h28]; rfl)) rfl ?_
          exact ih (k + 1) (by omega) (by omega)
        · have h75 := bI_0 hc75
          refine kw_iload X dc_N_workOut_78 rfl ?_
          refine kw_if_eq (tgt := 87) X dc_N_workOut_80 (by decide) (fun hc80 => ?_) (fun hc80 => ?_)
          · have h80 := bI_0 hc80
            refine kw_iconst (v := (nI 0)) X dc_N_workOut_87 (by decide) ?_
            refine kw_top (y := bI ((gm_st lo hi n (gm_nm lo hi n) p k).2.2 || decide (0 < gm_tk lo hi n p k))) (by first | exact bI_or1 h75 | exact bI_or2 h80 | exact bI_or0 h75 h80) ?_
            refine kw_istore X dc_N_workOut_88 (by decide) ?_
            refine kw_goto (tgt := 115) X dc_N_workOut_90 (by decide) ?_
            refine kw_iinc (v := nI (k + 1)) X dc_N_workOut_115 rfl (kq_inc k) (by decide) ?_
            refine kw_goto (tgt := 10) X dc_N_workOut_118 (by decide) ?_
            refine kw_kill 6 ?_
            refine kw_kill 7 ?_
            refine kw_cv (lv' := [some (.ref v0), some (.int (nI p)), some (.int (nI (gm_st lo hi n (gm_nm lo hi n) p (k + 1)).1)), some (.int (nI (gm_st lo hi n (gm_nm lo hi n) p (k + 1)).2.1)), some (.int (bI (gm_st lo hi n (gm_nm lo hi n) p (k + 1)).2.2)), some (.int (nI (k + 1))), none, none]) rfl (by first | (rw [gm_stB h28 h70]; rfl) | (rw [gm_stC h28 h70 h95]; rfl) | (rw [gm_stD h28 h70 h95]; rfl) | (rw [gm_stA h28]; rfl)) rfl ?_
            exact ih (k + 1) (by omega) (by omega)
          · have h80 := bI_1 hc80
            refine kw_iconst (v := (nI 1)) X dc_N_workOut_83 (by decide) ?_
            refine kw_goto (tgt := 88) X dc_N_workOut_84 (by decide) ?_
            refine kw_top (y := bI ((gm_st lo hi n (gm_nm lo hi n) p k).2.2 || decide (0 < gm_tk lo hi n p k))) (by first | exact bI_or1 h75 | exact bI_or2 h80 | exact bI_or0 h75 h80) ?_
            refine kw_istore X dc_N_workOut_88 (by decide) ?_
            refine kw_goto (tgt := 115) X dc_N_workOut_90 (by decide) ?_
            refine kw_iinc (v := nI (k + 1)) X dc_N_workOut_115 rfl (kq_inc k) (by decide) ?_
            refine kw_goto (tgt := 10) X dc_N_workOut_118 (by decide) ?_
            refine kw_kill 6 ?_
            refine kw_kill 7 ?_
            refine kw_cv (lv' := [some (.ref v0), some (.int (nI p)), some (.int (nI (gm_st lo hi n (gm_nm lo hi n) p (k + 1)).1)), some (.int (nI (gm_st lo hi n (gm_nm lo hi n) p (k + 1)).2.1)), some (.int (bI (gm_st lo hi n (gm_nm lo hi n) p (k + 1)).2.2)), some (.int (nI (k + 1))), none, none]) rfl (by first | (rw [gm_stB h28 h70]; rfl) | (rw [gm_stC h28 h70 h95]; rfl) | (rw [gm_stD h28 h70 h95]; rfl) | (rw [gm_stA h28]; rfl)) rfl ?_
            exact ih (k + 1) (by omega) (by omega)
    · have h28 := kq_z0 hc28
      refine kw_goto (tgt := 115) X dc_N_workOut_31 (by decide) ?_
      refine kw_iinc (v := nI (k + 1)) X dc_N_workOut_115 rfl (kq_inc k) (by decide) ?_
      refine kw_goto (tgt := 10) X dc_N_workOut_118 (by decide) ?_
      refine kw_kill 6 ?_
      refine kw_kill 7 ?_
      refine kw_cv (lv' := [some (.ref v0), some (.int (nI p)), some (.int (nI (gm_st lo hi n (gm_nm lo hi n) p (k + 1)).1)), some (.int (nI (gm_st lo hi n (gm_nm lo hi n) p (k + 1)).2.1)), some (.int (bI (gm_st lo hi n (gm_nm lo hi n) p (k + 1)).2.2)), some (.int (nI (k + 1))), none, none]) rfl (by first | (rw [gm_stB h28 h70]; rfl) | (rw [gm_stC h28 h70 h95]; rfl) | (rw [gm_stD h28 h70 h95]; rfl) | (rw [gm_stA h28]; rfl)) rfl ?_
      exact ih (k + 1) (by omega) (by omega)
set_option maxRecDepth 100000 in
set_option maxHeartbeats 4000000 in
theorem ct_markN {l : Launch} {D : va_G} {kI kB kC kL : ClassId} (v0 v1 w0 w1 w2 w3 n : Nat) (rd : Int32) (f les oth soc : Nat → Int32) (lo hi : Nat → Nat) (ok : webOk lo hi n les oth soc) (p i : Nat) (hp : p < 2 ^ n) (hi1 : i < n) (hb : p.testBit i = true) (hf : ∀ q, q < 2 ^ n → f q = iZ (gm_nm lo hi n q)) : kw_I l mn_N_isMarked (gw mn_N_isMarked cd_N_isMarked 3 (some .boolean)) ({ frames := 2, cells := 0, slots := 0, locals := 46 } : Room) D cl_v (kt kI kB kC kL) kE [.ref v0, .int (nI p), .int (nI i)] (wVal 3 kI kB v0 v1 w0 w1 w2 w3 n rd f les oth soc) (fun r w => w = wVal 3 kI kB v0 v1 w0 w1 w2 w3 n rd f les oth soc ∧ r = if gm_tk lo hi n p i = 0 ∧ gm_nm lo hi n (bq_wo p i) = -1 then nI 1 else nI 0) 0 0 := by
  refine kw_ofI (cc := cd_N_isMarked) (maxL := 3) (ty := .boolean) (by decide) rfl (Nat.le_of_ble_eq_true rfl) rfl ?_
  intro pp ee s m args below meth c A X hr hlk hE hnm
  have hn := ok.1.1
  have hp4 := kq_2n hn hp
  have hlt := bq_wo_lt hb
  obtain ⟨b1, b2⟩ := gm_nm_11 (lo := lo) (hi := hi) hn hp hi1 hb
  have ht2 := gm_tk_2 lo hi n p i
  refine kw_aload_n X dc_N_isMarked_0 rfl rfl ?_
  refine kw_get X (wc_N _) 0 rfl rfl 0 (by decide) (gq wd_59) (fun x9 h9 => u_same (X.1.2.2.2.2 _ (gq wd_60)) x9 h9) rfl dc_N_isMarked_1 ?_
  refine kw_iload_n X dc_N_isMarked_4 rfl rfl ?_
  refine kw_iload_n X dc_N_isMarked_5 rfl rfl ?_
  refine kw_callVI X kEw hE 0 rfl rfl (ct_freed w0 w1 w2 w3 n les oth soc p i lo hi ok hi1) (cw_V 2 X wd_489 wd_433 wd_434 wd_2 wd_435 rfl rfl (by decide +kernel) ⟨Nat.le_of_ble_eq_true rfl, Nat.le_of_ble_eq_true rfl⟩) [2, 3, 4, 5] rfl (by decide) (fun _ _ h => by obtain ⟨rfl, _⟩ := h; exact Nat.le_refl _) rfl rfl (Nat.le_of_ble_eq_true rfl) dc_N_isMarked_6 ⟨Nat.zero_le _, Nat.zero_le _⟩ (fun r w hp => ?_)
  obtain ⟨rfl, rfl⟩ := hp
  refine kw_if_ne (tgt := 30) X dc_N_isMarked_9 (by decide) (fun hc9 => ?_) (fun hc9 => ?_)
  · have h9 := kq_ne (b := 0) hc9
    refine kw_iconst (v := (nI 0)) X dc_N_isMarked_30 (by decide) ?_
    exact kw_zret X hr hlk rfl dc_N_isMarked_31 ⟨rfl, by first | exact (if_pos ⟨h9, h23⟩).symm | exact (if_neg (fun z => h23 z.2)).symm | exact (if_neg (fun z => h9 z.1)).symm⟩
  · have h9 := kq_eq (b := 0) hc9
    refine kw_aload_n X dc_N_isMarked_12 rfl rfl ?_
    refine kw_get X (wc_N _) 0 rfl rfl 1 (by decide) (gq wd_62) (fun x9 h9 => u_same (X.1.2.2.2.2 _ (gq wd_63)) x9 h9) rfl dc_N_isMarked_13 ?_
    refine kw_iload_n X dc_N_isMarked_16 rfl rfl ?_
    refine kw_iload_n X dc_N_isMarked_17 rfl rfl ?_
    refine kw_callSNI X kEw hE (ct_without p i (by omega)) (cw_SN (host := "CoinStrings") 2 X (hE _ (by decide +kernel)) wd_441 wd_1 wd_442 rfl rfl (by decide +kernel) ⟨Nat.le_of_ble_eq_true rfl, Nat.le_of_ble_eq_true rfl⟩) [] rfl (by decide) (fun _ _ _ => Nat.zero_le _) rfl rfl (Nat.le_of_ble_eq_true rfl) dc_N_isMarked_18 ⟨Nat.zero_le _, Nat.zero_le _⟩ (fun r w hp => ?_)
    obtain ⟨rfl, rfl⟩ := hp
    refine kw_bald (v := iZ (gm_nm lo hi n (bq_wo p i))) X 1 1 rfl rfl (kq_in (by omega) (by omega)) (by rw [kq_cl (by omega)]; exact hf _ (by omega)) dc_N_isMarked_21 ?_
    refine kw_iconst (v := (-1)) X dc_N_isMarked_22 (by decide) ?_
    refine kw_icmp_ne (tgt := 30) X dc_N_isMarked_23 (by decide) (fun hc23 => ?_) (fun hc23 => ?_)
    · have h23 : ¬ gm_nm lo hi n (bq_wo p i) = -1 := fun z => hc23 ((kq_m1 b1 (by omega)).mpr z)
      refine kw_iconst (v := (nI 0)) X dc_N_isMarked_30 (by decide) ?_
      exact kw_zret X hr hlk rfl dc_N_isMarked_31 ⟨rfl, by first | exact (if_pos ⟨h9, h23⟩).symm | exact (if_neg (fun z => h23 z.2)).symm | exact (if_neg (fun z => h9 z.1)).symm⟩
    · have h23 := (kq_m1 b1 (by omega)).mp hc23
      refine kw_iconst (v := (nI 1)) X dc_N_isMarked_26 (by decide) ?_
      refine kw_goto (tgt := 31) X dc_N_isMarked_27 (by decide) ?_
      exact kw_zret X hr hlk rfl dc_N_isMarked_31 ⟨rfl, by first | exact (if_pos ⟨h9, h23⟩).symm | exact (if_neg (fun z => h23 z.2)).symm | exact (if_neg (fun z => h9 z.1)).symm⟩
set_option maxRecDepth 100000 in
set_option maxHeartbeats 4000000 in
theorem ct_prepN {l : Launch} {D : va_G} {kI kB kC kL : ClassId} (v0 v1 w0 w1 w2 w3 n : Nat) (rd : Int32) (f les oth soc : Nat → Int32) (lo hi : Nat → Nat) (ok : webOk lo hi n les oth soc) (hrd : (rd = nI 1 ∧ ∀ q, q < 2 ^ n → f q = iZ (gm_nm lo hi n q)) ∨ rd = nI 0) : kw_V l mn_V_prepare (gw mn_V_prepare cd_V_prepare 2 none) ({ frames := 3, cells := 0, slots := 0, locals := 73 } : Room) D cl_v (kt kI kB kC kL) kE [.ref v0] (wVal 3 kI kB v0 v1 w0 w1 w2 w3 n rd f les oth soc) (fun w => ∃ f2 : Nat → Int32, w = wVal 3 kI kB v0 v1 w0 w1 w2 w3 n (nI 1) f2 les oth soc ∧ ∀ q, q < 2 ^ n → f2 q = iZ (gm_nm lo hi n q)) 0 0 := by
  refine kw_ofV (cc := cd_V_prepare) (maxL := 2) (by decide) rfl (Nat.le_of_ble_eq_true rfl) rfl ?_
  intro pp ee s m args below meth c A X hr hlk hE hnm
  have hn := ok.1.1
  have h2n : 2 ^ n ≤ 4096 := show 2 ^ n ≤ 2 ^ 12 from Nat.pow_le_pow_right (by decide) hn
  have h2p := Nat.two_pow_pos n
  refine kw_aload_n X dc_V_prepare_0 rfl rfl ?_
  refine kw_get X (wc_N _) 0 rfl rfl 2 (by decide) (gq wd_66) (fun _ h => h) rfl dc_V_prepare_1 ?_
  refine kw_if_eq (tgt := 8) X dc_V_prepare_4 (by decide) (fun hc4 => ?_) (fun hc4 => ?_)
  · refine kw_iconst (v := (nI 0)) X dc_V_prepare_8 (by decide) ?_
    refine kw_istore_n X dc_V_prepare_9 rfl (by decide) ?_
    refine kw_loop (α := Nat) (fun k => k ≤ 2 ^ n) (fun k => 2 ^ n - k) (fun k => wVal 3 kI kB v0 v1 w0 w1 w2 w3 n rd (kq_pre (fun q => iZ (gm_nm lo hi n q)) f k) les oth soc) (fun k => [some (.ref v0), some (.int (nI k))]) (fun _ => []) 0 (Nat.zero_le _) (fun k hk ih => ?_)
    refine kw_iload_n X dc_V_prepare_10 rfl rfl ?_
    refine kw_aload_n X dc_V_prepare_11 rfl rfl ?_
    refine kw_get X (wc_N _) 0 rfl rfl 0 (by decide) (gq wd_56) (fun _ h => h) rfl dc_V_prepare_12 ?_
    refine kw_callVI X kEw hE 0 rfl rfl (ct_every w0 w1 w2 w3 n les oth soc hn) (cw_V 0 X wd_467 wd_350 wd_351 wd_2 wd_352 rfl rfl (by decide +kernel) ⟨Nat.le_of_ble_eq_true rfl, Nat.le_of_ble_eq_true rfl⟩) [2, 3, 4, 5] rfl (by decide) (fun _ _ h => by obtain ⟨rfl, _⟩ := h; exact Nat.le_refl _) rfl rfl (Nat.le_of_ble_eq_true rfl) dc_V_prepare_15 ⟨Nat.zero_le _, Nat.zero_le _⟩ (fun r w hp => ?_)
    obtain ⟨rfl, rfl⟩ := hp
    refine kw_icmp_gt (tgt := 39) X dc_V_prepare_18 (by decide) (fun hc18 => ?_) (fun hc18 => ?_)
    · refine kw_aload_n X dc_V_prepare_39 rfl rfl ?_
      refine kw_iconst (v := (nI 1)) X dc_V_prepare_40 (by decide) ?_
      refine kw_putf (ty := .boolean) X (wc_N _) fy_N fk_N fn_N 0 rfl rfl 2 (by decide) (gq wd_66) (fun _ h => h) rfl (by decide +kernel) rfl rfl (Nat.le_of_ble_eq_true rfl) dc_V_prepare_41 ?_
      exact kw_vret X hr hlk dc_V_prepare_44 ⟨kq_pre (fun q => iZ (gm_nm lo hi n q)) f k, rfl, fun q hq => kq_pre_lt (by have := kq_lt hc18; omega)⟩
    · have hkn : k < 2 ^ n := by have := kq_nlt hc18; omega
      have b8 := gm_nm_12 (lo := lo) (hi := hi) hn hkn
      refine kw_aload_n X dc_V_prepare_21 rfl rfl ?_
      refine kw_get X (wc_N _) 0 rfl rfl 1 (by decide) (gq wd_61) (fun _ h => h) rfl dc_V_prepare_22 ?_
      refine kw_iload_n X dc_V_prepare_25 rfl rfl ?_
      refine kw_aload_n X dc_V_prepare_26 rfl rfl ?_
      refine kw_iload_n X dc_V_prepare_27 rfl rfl ?_
      refine kw_callUI X kEw hE 0 rfl rfl (ct_workN v0 v1 w0 w1 w2 w3 n rd (kq_pre (fun q => iZ (gm_nm lo hi n q)) f k) les oth soc lo hi ok k hkn (fun q hq => kq_pre_lt hq)) (cw_A 1 X wd_468 wd_470 wd_483 wd_484 wd_5 wd_485 rfl rfl (hE _ (by decide +kernel)) (by decide +kernel) ⟨Nat.le_of_ble_eq_true rfl, Nat.le_of_ble_eq_true rfl⟩) [0, 1, 2, 3, 4, 5] rfl (by decide) (fun _ _ h => by obtain ⟨rfl, _⟩ := h; exact Nat.le_refl _) rfl rfl (Nat.le_of_ble_eq_true rfl) dc_V_prepare_28 ⟨Nat.zero_le _, Nat.zero_le _⟩ (fun r w hp => ?_)
      obtain ⟨rfl, rfl⟩ := hp
      refine kw_i2b (v := iZ (gm_nm lo hi n k)) X dc_V_prepare_31 (iZ_byte (by omega) (by omega)) ?_
      refine kw_bast X 1 1 rfl rfl (kq_in (by omega) (by omega)) dc_V_prepare_32 ?_
      refine kw_iinc (v := nI (k + 1)) X dc_V_prepare_33 rfl (kq_inc k) (by decide) ?_
      refine kw_goto (tgt := 10) X dc_V_prepare_36 (by decide) ?_
      refine kw_cv (ws' := wVal 3 kI kB v0 v1 w0 w1 w2 w3 n rd (kq_pre (fun q => iZ (gm_nm lo hi n q)) f (k + 1)) les oth soc) (by
        show wVal 3 kI kB v0 v1 w0 w1 w2 w3 n rd (upd (kq_pre (fun q => iZ (gm_nm lo hi n q)) f k) (nI k).toNatClampNeg (vp_nar .byte (iZ (gm_nm lo hi n k)))) les oth soc = _
        rw [kq_cl (by omega), iZ_nar (by omega) (by omega), kq_pre_upd rfl]) rfl rfl ?_
      exact ih (k + 1) (by omega) (by omega)
  · exact kw_vret X hr hlk dc_V_prepare_7 ⟨f, by rcases hrd with ⟨e, _⟩ | e; (subst e; rfl); (exact absurd e hc4), by rcases hrd with ⟨_, h⟩ | e; (exact h); (exact absurd e hc4)⟩
set_option maxRecDepth 100000 in
set_option maxHeartbeats 4000000 in
theorem ct_ofN {l : Launch} {D : va_G} {kI kB kC kL : ClassId} (v0 v1 w0 w1 w2 w3 n : Nat) (rd : Int32) (f les oth soc : Nat → Int32) (lo hi : Nat → Nat) (ok : webOk lo hi n les oth soc) (hrd : (rd = nI 1 ∧ ∀ q, q < 2 ^ n → f q = iZ (gm_nm lo hi n q)) ∨ rd = nI 0) (p : Nat) (hp : p < 2 ^ n) : kw_I l mn_V_of (gw mn_V_of cd_V_of 2 (some .int)) ({ frames := 4, cells := 0, slots := 0, locals := 94 } : Room) D cl_v (kt kI kB kC kL) kE [.ref v0, .int (nI p)] (wVal 3 kI kB v0 v1 w0 w1 w2 w3 n rd f les oth soc) (fun r w => r = iZ (gm_nm lo hi n p) ∧ ∃ f2 : Nat → Int32, w = wVal 3 kI kB v0 v1 w0 w1 w2 w3 n (nI 1) f2 les oth soc ∧ ∀ q, q < 2 ^ n → f2 q = iZ (gm_nm lo hi n q)) 0 0 := by
  refine kw_ofI (cc := cd_V_of) (maxL := 2) (ty := .int) (by decide) rfl (Nat.le_of_ble_eq_true rfl) rfl ?_
  intro pp ee s m args below meth c A X hr hlk hE hnm
  have hp4 := kq_2n ok.1.1 hp
  refine kw_aload_n X dc_V_of_0 rfl rfl ?_
  refine kw_callVV X kEw hE 0 rfl rfl (ct_prepN v0 v1 w0 w1 w2 w3 n rd f les oth soc lo hi ok hrd) (cw_P 0 X wd_463 wd_465 (hE _ (by decide +kernel)) wd_3 wd_466 rfl rfl (by decide +kernel) ⟨Nat.le_of_ble_eq_true rfl, Nat.le_of_ble_eq_true rfl⟩) [0, 1, 2, 3, 4, 5] rfl (by decide) (fun _ h => by obtain ⟨g, rfl, _⟩ := h; exact Nat.le_refl _) rfl rfl (Nat.le_of_ble_eq_true rfl) dc_V_of_1 ⟨Nat.zero_le _, Nat.zero_le _⟩ (fun w hp => ?_)
  obtain ⟨f2, rfl, hf2⟩ := hp
  refine kw_aload_n X dc_V_of_4 rfl rfl ?_
  refine kw_get X (wc_N _) 0 rfl rfl 1 (by decide) (gq wd_61) (fun _ h => h) rfl dc_V_of_5 ?_
  refine kw_iload_n X dc_V_of_8 rfl rfl ?_
  refine kw_bald (v := iZ (gm_nm lo hi n p)) X 1 1 rfl rfl (kq_in (by omega) (by omega)) (by rw [kq_cl (by omega)]; exact hf2 p hp) dc_V_of_9 ?_
  exact kw_iret X hr hlk dc_V_of_10 ⟨rfl, f2, rfl, hf2⟩
theorem kq_f3 {a : Bool} {Q S : Prop} {i : Decidable Q} {j : Decidable S} (h : ¬ (Q ∧ S)) : (a && (@decide Q i && @decide S j)) = false := by
  by_cases hq : Q
  · by_cases hs : S
    · exact absurd ⟨hq, hs⟩ h
    · rw [decide_eq_false hs, Bool.and_false, Bool.and_false]
  · rw [decide_eq_false hq, Bool.false_and, Bool.and_false]
set_option maxRecDepth 100000 in
set_option maxHeartbeats 4000000 in
theorem ct_madN {l : Launch} {D : va_G} {kI kB kC kL : ClassId} (v0 v1 w0 w1 w2 w3 n : Nat) (rd : Int32) (f les oth soc : Nat → Int32) (lo hi : Nat → Nat) (ok : webOk lo hi n les oth soc) (hrd : (rd = nI 1 ∧ ∀ q, q < 2 ^ n → f q = iZ (gm_nm lo hi n q)) ∨ rd = nI 0) (p : Nat) (hp : p < 2 ^ n) : kw_I l mn_V_markedStrings (gw mn_V_markedStrings cd_V_markedStrings 4 (some .int)) ({ frames := 4, cells := 0, slots := 0, locals := 94 } : Room) D cl_v (kt kI kB kC kL) kE [.ref v0, .int (nI p)] (wVal 3 kI kB v0 v1 w0 w1 w2 w3 n rd f les oth soc) (fun r w => r = nI (gm_mad lo hi n p) ∧ ∃ f2 : Nat → Int32, w = wVal 3 kI kB v0 v1 w0 w1 w2 w3 n (nI 1) f2 les oth soc ∧ ∀ q, q < 2 ^ n → f2 q = iZ (gm_nm lo hi n q)) 0 0 := by
  refine kw_ofI (cc := cd_V_markedStrings) (maxL := 4) (ty := .int) (by decide) rfl (Nat.le_of_ble_eq_true rfl) rfl ?_
  intro pp ee s m args below meth c A X hr hlk hE hnm
  have hn := ok.1.1
  have hp4 := kq_2n hn hp
  refine kw_aload_n X dc_V_markedStrings_0 rfl rfl ?_
  refine kw_callVV X kEw hE 0 rfl rfl (ct_prepN v0 v1 w0 w1 w2 w3 n rd f les oth soc lo hi ok hrd) (cw_P 0 X wd_463 wd_465 (hE _ (by decide +kernel)) wd_3 wd_466 rfl rfl (by decide +kernel) ⟨Nat.le_of_ble_eq_true rfl, Nat.le_of_ble_eq_true rfl⟩) [0, 1, 2, 3, 4, 5] rfl (by decide) (fun _ h => by obtain ⟨g, rfl, _⟩ := h; exact Nat.le_refl _) rfl rfl (Nat.le_of_ble_eq_true rfl) dc_V_markedStrings_1 ⟨Nat.zero_le _, Nat.zero_le _⟩ (fun w hp => ?_)
  obtain ⟨f2, rfl, hf2⟩ := hp
  refine kw_iconst (v := (nI 0)) X dc_V_markedStrings_4 (by decide) ?_
  refine kw_istore_n X dc_V_markedStrings_5 rfl (by decide) ?_
  refine kw_iconst (v := (nI 0)) X dc_V_markedStrings_6 (by decide) ?_
  refine kw_istore_n X dc_V_markedStrings_7 rfl (by decide) ?_
  refine kw_loop (α := Nat) (fun k => k ≤ n) (fun k => n - k) (fun _ => wVal 3 kI kB v0 v1 w0 w1 w2 w3 n (nI 1) f2 les oth soc) (fun k => [some (.ref v0), some (.int (nI p)), some (.int (nI (gm_ms (fun i => p.testBit i && (decide (gm_tk lo hi n p i = 0) && decide (gm_nm lo hi n (bq_wo p i) = -1))) k))), some (.int (nI k))]) (fun _ => []) 0 (Nat.zero_le _) (fun k hk ih => ?_)
  refine kw_iload_n X dc_V_markedStrings_8 rfl rfl ?_
  refine kw_aload_n X dc_V_markedStrings_9 rfl rfl ?_
  refine kw_get X (wc_N _) 0 rfl rfl 0 (by decide) (gq wd_56) (fun _ h => h) rfl dc_V_markedStrings_10 ?_
  refine kw_callVI X kEw hE 0 rfl rfl (ct_size w0 w1 w2 w3 n les oth soc) (cw_V 0 X wd_494 wd_191 wd_192 wd_2 wd_193 rfl rfl (by decide +kernel) ⟨Nat.le_of_ble_eq_true rfl, Nat.le_of_ble_eq_true rfl⟩) [2, 3, 4, 5] rfl (by decide) (fun _ _ h => by obtain ⟨rfl, _⟩ := h; exact Nat.le_refl _) rfl rfl (Nat.le_of_ble_eq_true rfl) dc_V_markedStrings_13 ⟨Nat.zero_le _, Nat.zero_le _⟩ (fun r w hp => ?_)
  obtain ⟨rfl, rfl⟩ := hp
  refine kw_icmp_ge (tgt := 48) X dc_V_markedStrings_16 (by decide) (fun hc16 => ?_) (fun hc16 => ?_)
  · refine kw_iload_n X dc_V_markedStrings_48 rfl rfl ?_
    exact kw_iret X hr hlk dc_V_markedStrings_49 ⟨by have hkn : k = n := Nat.le_antisymm hk (kq_le hc16); subst hkn; rfl, f2, rfl, hf2⟩
  · have hkn := kq_nle hc16
    refine kw_iload_n X dc_V_markedStrings_19 rfl rfl ?_
    refine kw_iload_n X dc_V_markedStrings_20 rfl rfl ?_
    refine kw_callSNI X kEw hE (ct_hasN p k (by omega) (by omega)) (cw_SN (host := "CoinStrings") 2 X (hE _ (by decide +kernel)) wd_195 wd_1 wd_196 rfl rfl (by decide +kernel) ⟨Nat.le_of_ble_eq_true rfl, Nat.le_of_ble_eq_true rfl⟩) [] rfl (by decide) (fun _ _ _ => Nat.zero_le _) rfl rfl (Nat.le_of_ble_eq_true rfl) dc_V_markedStrings_21 ⟨Nat.zero_le _, Nat.zero_le _⟩ (fun r w hp => ?_)
    obtain ⟨rfl, rfl⟩ := hp
    refine kw_if_eq (tgt := 42) X dc_V_markedStrings_24 (by decide) (fun hc24 => ?_) (fun hc24 => ?_)
    · have h24 := kq_z0 hc24
      refine kw_iinc (v := nI (k + 1)) X dc_V_markedStrings_42 rfl (kq_inc k) (by decide) ?_
      refine kw_goto (tgt := 8) X dc_V_markedStrings_45 (by decide) ?_
      refine kw_cv (lv' := [some (.ref v0), some (.int (nI p)), some (.int (nI (gm_ms (fun i => p.testBit i && (decide (gm_tk lo hi n p i = 0) && decide (gm_nm lo hi n (bq_wo p i) = -1))) (k + 1)))), some (.int (nI (k + 1)))]) rfl (by first | rfl | (rw [gm_ms_no (q := (fun i => p.testBit i && (decide (gm_tk lo hi n p i = 0) && decide (gm_nm lo hi n (bq_wo p i) = -1)))) (kq_f3 h33)]; rfl) | (rw [gm_ms_no (q := (fun i => p.testBit i && (decide (gm_tk lo hi n p i = 0) && decide (gm_nm lo hi n (bq_wo p i) = -1)))) (kq_f1 h24)]; rfl)) rfl ?_
      exact ih (k + 1) (by omega) (by omega)
    · have h24 := kq_z1 hc24
      refine kw_aload_n X dc_V_markedStrings_27 rfl rfl ?_
      refine kw_iload_n X dc_V_markedStrings_28 rfl rfl ?_
      refine kw_iload_n X dc_V_markedStrings_29 rfl rfl ?_
      refine kw_callUI X kEw hE 0 rfl rfl (ct_markN v0 v1 w0 w1 w2 w3 n (nI 1) f2 les oth soc lo hi ok p k hp hkn h24 hf2) (cw_A 2 X wd_496 wd_498 wd_502 wd_503 wd_5 wd_504 rfl rfl (hE _ (by decide +kernel)) (by decide +kernel) ⟨Nat.le_of_ble_eq_true rfl, Nat.le_of_ble_eq_true rfl⟩) [0, 1, 2, 3, 4, 5] rfl (by decide) (fun _ _ h => by obtain ⟨rfl, _⟩ := h; exact Nat.le_refl _) rfl rfl (Nat.le_of_ble_eq_true rfl) dc_V_markedStrings_30 ⟨Nat.zero_le _, Nat.zero_le _⟩ (fun r w hp => ?_)
      obtain ⟨rfl, rfl⟩ := hp
      refine kw_if_eq (tgt := 42) X dc_V_markedStrings_33 (by decide) (fun hc33 => ?_) (fun hc33 => ?_)
      · have h33 := kq_z0 hc33
        refine kw_iinc (v := nI (k + 1)) X dc_V_markedStrings_42 rfl (kq_inc k) (by decide) ?_
        refine kw_goto (tgt := 8) X dc_V_markedStrings_45 (by decide) ?_
        refine kw_cv (lv' := [some (.ref v0), some (.int (nI p)), some (.int (nI (gm_ms (fun i => p.testBit i && (decide (gm_tk lo hi n p i = 0) && decide (gm_nm lo hi n (bq_wo p i) = -1))) (k + 1)))), some (.int (nI (k + 1)))]) rfl (by first | rfl | (rw [gm_ms_no (q := (fun i => p.testBit i && (decide (gm_tk lo hi n p i = 0) && decide (gm_nm lo hi n (bq_wo p i) = -1)))) (kq_f3 h33)]; rfl) | (rw [gm_ms_no (q := (fun i => p.testBit i && (decide (gm_tk lo hi n p i = 0) && decide (gm_nm lo hi n (bq_wo p i) = -1)))) (kq_f1 h24)]; rfl)) rfl ?_
        exact ih (k + 1) (by omega) (by omega)
      · have h33 := kq_z1 hc33
        refine kw_iload_n X dc_V_markedStrings_36 rfl rfl ?_
        refine kw_iconst (v := (nI 1)) X dc_V_markedStrings_37 (by decide) ?_
        refine kw_iload_n X dc_V_markedStrings_38 rfl rfl ?_
        refine kw_ishl (v := nI (2 ^ k)) X dc_V_markedStrings_39 (bq_shl (by omega)) ?_
        refine kw_ior (v := nI (gm_ms (fun i => p.testBit i && (decide (gm_tk lo hi n p i = 0) && decide (gm_nm lo hi n (bq_wo p i) = -1))) (k + 1))) X dc_V_markedStrings_40 (by rw [bq_or, show gm_ms (fun i => p.testBit i && (decide (gm_tk lo hi n p i = 0) && decide (gm_nm lo hi n (bq_wo p i) = -1))) (k + 1) = gm_ms (fun i => p.testBit i && (decide (gm_tk lo hi n p i = 0) && decide (gm_nm lo hi n (bq_wo p i) = -1))) k ||| 2 ^ k from if_pos (by simp [h24, h33.1, h33.2])]) ?_
        refine kw_istore_n X dc_V_markedStrings_41 rfl (by decide) ?_
        refine kw_iinc (v := nI (k + 1)) X dc_V_markedStrings_42 rfl (kq_inc k) (by decide) ?_
        refine kw_goto (tgt := 8) X dc_V_markedStrings_45 (by decide) ?_
        refine kw_cv (lv' := [some (.ref v0), some (.int (nI p)), some (.int (nI (gm_ms (fun i => p.testBit i && (decide (gm_tk lo hi n p i = 0) && decide (gm_nm lo hi n (bq_wo p i) = -1))) (k + 1)))), some (.int (nI (k + 1)))]) rfl (by first | rfl | (rw [gm_ms_no (q := (fun i => p.testBit i && (decide (gm_tk lo hi n p i = 0) && decide (gm_nm lo hi n (bq_wo p i) = -1)))) (kq_f3 h33)]; rfl) | (rw [gm_ms_no (q := (fun i => p.testBit i && (decide (gm_tk lo hi n p i = 0) && decide (gm_nm lo hi n (bq_wo p i) = -1)))) (kq_f1 h24)]; rfl)) rfl ?_
        exact ih (k + 1) (by omega) (by omega)
set_option maxRecDepth 100000 in
set_option maxHeartbeats 4000000 in
theorem ct_forgetN {l : Launch} {D : va_G} {kI kB kC kL : ClassId} (v0 v1 w0 : Nat) (rd : Int32) : kw_V l mn_V_forget (gw mn_V_forget cd_V_forget 1 none) ({ frames := 0, cells := 0, slots := 0, locals := 0 } : Room) D cl_v (kt kI kB kC kL) kE [.ref v0] ([(v0, .inr (3, [.ref w0, .ref v1, .int rd]))]) (fun w => w = [(v0, .inr (3, [.ref w0, .ref v1, .int (nI 0)]))]) 0 0 := by
  refine kw_ofV (cc := cd_V_forget) (maxL := 1) (by decide) rfl (Nat.le_of_ble_eq_true rfl) rfl ?_
  intro pp ee s m args below meth c A X hr hlk hE hnm
  refine kw_aload_n X dc_V_forget_0 rfl rfl ?_
  refine kw_iconst (v := (nI 0)) X dc_V_forget_1 (by decide) ?_
  refine kw_putf (ty := .boolean) X (wc_N _) fy_N fk_N fn_N 0 rfl rfl 2 (by decide) (gq wd_66) (fun _ h => h) rfl (by decide +kernel) rfl rfl (Nat.le_of_ble_eq_true rfl) dc_V_forget_2 ?_
  exact kw_vret X hr hlk dc_V_forget_5 rfl
end
section
/-! groups -/
abbrev wGrp (kI : ClassId) (g0 g1 w0 w1 w2 w3 n : Nat) (La les oth soc : Nat → Int32) : va_W := (g0, .inr (4, [.ref w0, .ref g1])) :: (g1, .inl (kI, 8, .inl La)) :: wWeb kI w0 w1 w2 w3 n les oth soc
/-- the array holds the leaders L -/
def grOk (L : Nat → Nat) (La : Nat → Int32) : Prop := L 8 = 8 ∧ (∀ c, L c ≤ 8) ∧ ∀ c, c < 8 → La c = og (L c)
theorem kq_pre_skip {g f : Nat → Int32} {k : Nat} (h : f k = g k) : kq_pre g f k = kq_pre g f (k + 1) := by
  funext j
  show (if j < k then g j else f j) = (if j < k + 1 then g j else f j)
  by_cases h1 : j < k
  · rw [if_pos h1, if_pos (show j < k + 1 by omega)]
  · rw [if_neg h1]
    by_cases h2 : j = k
    · rw [if_pos (show j < k + 1 by omega), h2, h]
    · rw [if_neg (show ¬ j < k + 1 by omega)]
theorem og_max {x y : Nat} (hx : x < 8) (hy : y < 8) : (if og x < og y then og y else og x) = og (max x y) := by
  rw [og_lt hx, og_lt hy, og_lt (show max x y < 8 by omega)]
  by_cases hz : nI x < nI y
  · rw [if_pos hz, Nat.max_eq_right (by have := kq_lt hz; omega)]
  · rw [if_neg hz, Nat.max_eq_left (by have := kq_nlt hz; omega)]
theorem og_min {x y : Nat} (hx : x < 8) (hy : y < 8) : (if og y < og x then og y else og x) = og (min x y) := by
  rw [og_lt hx, og_lt hy, og_lt (show min x y < 8 by omega)]
  by_cases hz : nI y < nI x
  · rw [if_pos hz, Nat.min_eq_right (by have := kq_lt hz; omega)]
  · rw [if_neg hz, Nat.min_eq_left (by have := kq_nlt hz; omega)]
theorem gm_uni_no {L : Nat → Nat} {x y : Nat} (h : x = 8 ∨ y = 8) : gm_uni L x y = L := funext (fun c => if_pos h)
theorem gm_uni_hit {L : Nat → Nat} {x y k : Nat} (hx : x < 8) (hy : y < 8) (h : L k = max x y) : og (min x y) = og (gm_uni L x y k) := by
  unfold gm_uni
  rw [if_neg (by omega), if_pos h]
theorem gm_uni_miss {L : Nat → Nat} {x y k : Nat} (hx : x < 8) (hy : y < 8) (h : ¬ L k = max x y) : og (L k) = og (gm_uni L x y k) := by
  unfold gm_uni
  rw [if_neg (by omega), if_neg h]
theorem gm_L_skip {lo hi : Nat → Nat} {n p i : Nat} (h : ¬ p.testBit i = true) : gm_L lo hi n p (i + 1) = gm_L lo hi n p i := if_neg h
theorem gm_L_step {lo hi : Nat → Nat} {n p i : Nat} (h : p.testBit i = true) : gm_L lo hi n p (i + 1) = gm_uni (gm_L lo hi n p i) (gm_L lo hi n p i (lo i)) (gm_L lo hi n p i (hi i)) := if_pos h
theorem gm_uni_8 {L : Nat → Nat} {x y : Nat} (h8 : L 8 = 8) (hx : x < 8) (hy : y < 8) : gm_uni L x y 8 = 8 := by
  unfold gm_uni
  rw [if_neg (by omega), h8, if_neg (by omega)]
theorem gm_uni_le {L : Nat → Nat} {x y : Nat} (h : ∀ c, L c ≤ 8) (hx : x ≤ 8) (c : Nat) : gm_uni L x y c ≤ 8 := by
  have := h c
  unfold gm_uni
  split
  · omega
  · split <;> omega
theorem gm_L_8 (lo hi : Nat → Nat) (n p k : Nat) : gm_L lo hi n p k 8 = 8 ∧ ∀ c, gm_L lo hi n p k c ≤ 8 := by
  induction k with
  | zero =>
    refine ⟨rfl, fun c => ?_⟩
    show gm_L0 lo hi n p c ≤ 8
    unfold gm_L0
    split
    · split <;> omega
    · omega
  | succ k ih =>
    unfold gm_L
    split
    · refine ⟨?_, fun c => gm_uni_le ih.2 (ih.2 _) c⟩
      unfold gm_uni
      split
      · exact ih.1
      · have h1 := ih.2 (lo k)
        have h2 := ih.2 (hi k)
        rw [ih.1, if_neg (by omega)]
    · exact ih
theorem gm_L_ge {lo hi : Nat → Nat} {n p k c : Nat} (hc : 8 ≤ c) : gm_L lo hi n p k c = 8 := ((gm_LI_ok lo hi n p k).1 c).mpr (fun h => by have := h.1; omega)
def gm_lp (lo hi : Nat → Nat) (p : Nat) (L : Nat → Nat) (v : Nat) : Nat → Bool
  | 0 => true
  | i + 1 => gm_lp lo hi p L v i && (!p.testBit i || (decide (L (lo i) = v) == decide (L (hi i) = v)))
theorem gm_lp_no {lo hi : Nat → Nat} {p : Nat} {L : Nat → Nat} {v i : Nat} : ∀ n : Nat, i < n → p.testBit i = true → (decide (L (lo i) = v) == decide (L (hi i) = v)) = false → gm_lp lo hi p L v n = false := by
  intro n
  induction n with
  | zero => intro h; omega
  | succ n ih =>
    intro h hb he
    unfold gm_lp
    by_cases hn : i = n
    · subst hn
      rw [hb, he]
      simp
    · rw [ih (by omega) hb he]
      rfl
theorem bI_og {a v : Nat} {i : Decidable (og a = nI v)} (ha : a ≤ 8) (hv : v < 8) : (@ite _ (og a = nI v) i (nI 1) (nI 0)) = bI (decide (a = v)) := by
  have h := og_inj ha (show v ≤ 8 by omega)
  rw [og_lt hv] at h
  by_cases hq : a = v
  · rw [if_pos (h.mpr hq), decide_eq_true hq]; rfl
  · rw [if_neg (fun z => hq (h.mp z)), decide_eq_false hq]; rfl
theorem bI_inj {a b : Bool} : bI a = bI b ↔ (a == b) = true := by cases a <;> cases b <;> simp [bI] <;> decide
set_option maxRecDepth 100000 in
set_option maxHeartbeats 4000000 in
theorem ct_leaderOf {l : Launch} {D : va_G} {kI kB kC kL : ClassId} (g0 g1 w0 w1 w2 w3 n : Nat) (La les oth soc : Nat → Int32) (L : Nat → Nat) (gok : grOk L La) (e : Nat) (he : e ≤ 8) : kw_I l mn_G_leaderOf (gw mn_G_leaderOf cd_G_leaderOf 2 (some .int)) ({ frames := 0, cells := 0, slots := 0, locals := 0 } : Room) D cl_v (kt kI kB kC kL) kE [.ref g0, .int (og e)] (wGrp kI g0 g1 w0 w1 w2 w3 n La les oth soc) (fun r w => w = wGrp kI g0 g1 w0 w1 w2 w3 n La les oth soc ∧ r = og (L e)) 0 0 := by
  refine kw_ofI (cc := cd_G_leaderOf) (maxL := 2) (ty := .int) (by decide) rfl (Nat.le_of_ble_eq_true rfl) rfl ?_
  intro pp ee s m args below meth c A X hr hlk hE hnm
  refine kw_iload_n X dc_G_leaderOf_0 rfl rfl ?_
  refine kw_iconst (v := (-1)) X dc_G_leaderOf_1 (by decide) ?_
  refine kw_icmp_ne (tgt := 9) X dc_G_leaderOf_2 (by decide) (fun hc2 => ?_) (fun hc2 => ?_)
  · have h2 : e < 8 := by
      have h8 : e ≠ 8 := fun z => hc2 ((og_m1 he).mpr z)
      omega
    refine kw_aload_n X dc_G_leaderOf_9 rfl rfl ?_
    refine kw_get X (wc_G _) 0 rfl rfl 1 (by decide) (gq wd_92) (fun _ h => h) rfl dc_G_leaderOf_10 ?_
    refine kw_iload_n X dc_G_leaderOf_13 rfl rfl ?_
    refine kw_iald (v := og (L e)) X 1 0 rfl rfl (by rw [og_lt h2]; exact kq_in h2 (by omega)) (by rw [og_lt h2, kq_cl (by omega)]; exact gok.2.2 e h2) dc_G_leaderOf_14 ?_
    exact kw_iret X hr hlk dc_G_leaderOf_15 ⟨rfl, by first | rfl | (rw [h2, gok.1]; rfl)⟩
  · have h2 := (og_m1 he).mp hc2
    refine kw_iconst (v := (-1)) X dc_G_leaderOf_5 (by decide) ?_
    refine kw_goto (tgt := 15) X dc_G_leaderOf_6 (by decide) ?_
    exact kw_iret X hr hlk dc_G_leaderOf_15 ⟨rfl, by first | rfl | (rw [h2, gok.1]; rfl)⟩
set_option maxRecDepth 100000 in
set_option maxHeartbeats 4000000 in
theorem ct_unite {l : Launch} {D : va_G} {kI kB kC kL : ClassId} (g0 g1 w0 w1 w2 w3 n : Nat) (La les oth soc : Nat → Int32) (L : Nat → Nat) (gok : grOk L La) (x y : Nat) (hx : x ≤ 8) (hy : y ≤ 8) : kw_V l mn_G_unite (gw mn_G_unite cd_G_unite 4 none) ({ frames := 1, cells := 0, slots := 0, locals := 21 } : Room) D cl_v (kt kI kB kC kL) kE [.ref g0, .int (og x), .int (og y)] (wGrp kI g0 g1 w0 w1 w2 w3 n La les oth soc) (fun w => ∃ L2 : Nat → Int32, w = wGrp kI g0 g1 w0 w1 w2 w3 n L2 les oth soc ∧ grOk (gm_uni L x y) L2) 0 0 := by
  refine kw_ofV (cc := cd_G_unite) (maxL := 4) (by decide) rfl (Nat.le_of_ble_eq_true rfl) rfl ?_
  intro pp ee s m args below meth c A X hr hlk hE hnm
  refine kw_iload_n X dc_G_unite_0 rfl rfl ?_
  refine kw_iconst (v := (-1)) X dc_G_unite_1 (by decide) ?_
  refine kw_icmp_eq (tgt := 10) X dc_G_unite_2 (by decide) (fun hc2 => ?_) (fun hc2 => ?_)
  · have h2 := (og_m1 hx).mp hc2
    exact kw_vret X hr hlk dc_G_unite_10 ⟨La, rfl, by first | (rw [gm_uni_no (Or.inl h2)]; exact gok) | (rw [gm_uni_no (Or.inr h7)]; exact gok)⟩
  · have h2 : x < 8 := by
      have h8 : x ≠ 8 := fun z => hc2 ((og_m1 hx).mpr z)
      omega
    refine kw_iload_n X dc_G_unite_5 rfl rfl ?_
    refine kw_iconst (v := (-1)) X dc_G_unite_6 (by decide) ?_
    refine kw_icmp_ne (tgt := 11) X dc_G_unite_7 (by decide) (fun hc7 => ?_) (fun hc7 => ?_)
    · have h7 : y < 8 := by
        have h8 : y ≠ 8 := fun z => hc7 ((og_m1 hy).mpr z)
        omega
      refine kw_iconst (v := (nI 0)) X dc_G_unite_11 (by decide) ?_
      refine kw_istore_n X dc_G_unite_12 rfl (by decide) ?_
      refine kw_loop (α := Nat) (fun k => k ≤ 8) (fun k => 8 - k) (fun k => wGrp kI g0 g1 w0 w1 w2 w3 n (kq_pre (fun c => og (gm_uni L x y c)) La k) les oth soc) (fun k => [some (.ref g0), some (.int (og x)), some (.int (og y)), some (.int (nI k))]) (fun _ => []) 0 (Nat.zero_le _) (fun k hk ih => ?_)
      refine kw_iload_n X dc_G_unite_13 rfl rfl ?_
      refine kw_bipush (v := (nI 8)) X dc_G_unite_14 (by decide) ?_
      refine kw_icmp_ge (tgt := 50) X dc_G_unite_16 (by decide) (fun hc16 => ?_) (fun hc16 => ?_)
      · exact kw_vret X hr hlk dc_G_unite_50 ⟨kq_pre (fun c => og (gm_uni L x y c)) La k, rfl, gm_uni_8 gok.1 h2 h7, gm_uni_le gok.2.1 hx, fun c hc => kq_pre_lt (by have := kq_le hc16; omega)⟩
      · have hk8 := kq_nle hc16
        refine kw_aload_n X dc_G_unite_19 rfl rfl ?_
        refine kw_get X (wc_G _) 0 rfl rfl 1 (by decide) (gq wd_92) (fun _ h => h) rfl dc_G_unite_20 ?_
        refine kw_iload_n X dc_G_unite_23 rfl rfl ?_
        refine kw_iald (v := og (L k)) X 1 0 rfl rfl (kq_in hk8 (by omega)) (by rw [kq_cl (by omega), kq_pre_ge (Nat.le_refl k)]; exact gok.2.2 k hk8) dc_G_unite_24 ?_
        refine kw_iload_n X dc_G_unite_25 rfl rfl ?_
        refine kw_iload_n X dc_G_unite_26 rfl rfl ?_
        refine kw_mmax (v := og (max x y)) X (gq wd_213) (gq wd_214) (gq wd_14) (gq wd_215) (Nat.le_of_ble_eq_true rfl) (Nat.le_of_ble_eq_true rfl) (Nat.zero_le _) (Nat.zero_le _) (og_max h2 h7) dc_G_unite_27 ?_
        refine kw_icmp_ne (tgt := 44) X dc_G_unite_30 (by decide) (fun hc30 => ?_) (fun hc30 => ?_)
        · have h30 : ¬ L k = max x y := fun z => hc30 (by rw [z])
          refine kw_iinc (v := nI (k + 1)) X dc_G_unite_44 rfl (kq_inc k) (by decide) ?_
          refine kw_goto (tgt := 13) X dc_G_unite_47 (by decide) ?_
          refine kw_cv (ws' := wGrp kI g0 g1 w0 w1 w2 w3 n (kq_pre (fun c => og (gm_uni L x y c)) La (k + 1)) les oth soc) (by
            first
              | (have e9 := gm_uni_hit (L := L) (k := k) h2 h7 h30
                 show wGrp kI g0 g1 w0 w1 w2 w3 n (upd (kq_pre (fun c => og (gm_uni L x y c)) La k) (nI k).toNatClampNeg (og (min x y))) les oth soc = _
                 rw [kq_cl (by omega), kq_pre_upd (g := fun c => og (gm_uni L x y c)) e9])
              | (have e9 := gm_uni_miss (L := L) (k := k) h2 h7 h30
                 rw [← kq_pre_skip (g := fun c => og (gm_uni L x y c)) ((gok.2.2 k hk8).trans e9)])) rfl rfl ?_
          exact ih (k + 1) (by omega) (by omega)
        · have h30 := (og_inj (gok.2.1 k) (by omega)).mp hc30
          refine kw_aload_n X dc_G_unite_33 rfl rfl ?_
          refine kw_get X (wc_G _) 0 rfl rfl 1 (by decide) (gq wd_92) (fun _ h => h) rfl dc_G_unite_34 ?_
          refine kw_iload_n X dc_G_unite_37 rfl rfl ?_
          refine kw_iload_n X dc_G_unite_38 rfl rfl ?_
          refine kw_iload_n X dc_G_unite_39 rfl rfl ?_
          refine kw_mmin (v := og (min x y)) X (gq wd_216) (gq wd_217) (gq wd_14) (gq wd_218) (Nat.le_of_ble_eq_true rfl) (Nat.le_of_ble_eq_true rfl) (Nat.zero_le _) (Nat.zero_le _) (og_min h2 h7) dc_G_unite_40 ?_
          refine kw_iast X 1 0 rfl rfl (kq_in hk8 (by omega)) dc_G_unite_43 ?_
          refine kw_iinc (v := nI (k + 1)) X dc_G_unite_44 rfl (kq_inc k) (by decide) ?_
          refine kw_goto (tgt := 13) X dc_G_unite_47 (by decide) ?_
          refine kw_cv (ws' := wGrp kI g0 g1 w0 w1 w2 w3 n (kq_pre (fun c => og (gm_uni L x y c)) La (k + 1)) les oth soc) (by
            first
              | (have e9 := gm_uni_hit (L := L) (k := k) h2 h7 h30
                 show wGrp kI g0 g1 w0 w1 w2 w3 n (upd (kq_pre (fun c => og (gm_uni L x y c)) La k) (nI k).toNatClampNeg (og (min x y))) les oth soc = _
                 rw [kq_cl (by omega), kq_pre_upd (g := fun c => og (gm_uni L x y c)) e9])
              | (have e9 := gm_uni_miss (L := L) (k := k) h2 h7 h30
                 rw [← kq_pre_skip (g := fun c => og (gm_uni L x y c)) ((gok.2.2 k hk8).trans e9)])) rfl rfl ?_
          exact ih (k + 1) (by omega) (by omega)
    · have h7 := (og_m1 hy).mp hc7
      exact kw_vret X hr hlk dc_G_unite_10 ⟨La, rfl, by first | (rw [gm_uni_no (Or.inl h2)]; exact gok) | (rw [gm_uni_no (Or.inr h7)]; exact gok)⟩
end
section
set_option maxRecDepth 100000 in
set_option maxHeartbeats 4000000 in
theorem ct_sort {l : Launch} {D : va_G} {kI kB kC kL : ClassId} (g0 g1 w0 w1 w2 w3 n : Nat) (La les oth soc : Nat → Int32) (lo hi : Nat → Nat) (ok : webOk lo hi n les oth soc) (p : Nat) (hp : p < 4096) : kw_V l mn_G_sort (gw mn_G_sort cd_G_sort 3 none) ({ frames := 2, cells := 0, slots := 0, locals := 44 } : Room) D cl_v (kt kI kB kC kL) kE [.ref g0, .int (nI p)] (wGrp kI g0 g1 w0 w1 w2 w3 n La les oth soc) (fun w => ∃ L2 : Nat → Int32, w = wGrp kI g0 g1 w0 w1 w2 w3 n L2 les oth soc ∧ grOk (gm_L lo hi n p n) L2) 0 0 := by
  refine kw_ofV (cc := cd_G_sort) (maxL := 3) (by decide) rfl (Nat.le_of_ble_eq_true rfl) rfl ?_
  intro pp ee s m args below meth c A X hr hlk hE hnm
  have hn := ok.1.1
  refine kw_iconst (v := (nI 0)) X dc_G_sort_0 (by decide) ?_
  refine kw_istore_n X dc_G_sort_1 rfl (by decide) ?_
  refine kw_loop (α := Nat) (fun k => k ≤ 8) (fun k => 8 - k) (fun k => wGrp kI g0 g1 w0 w1 w2 w3 n (kq_pre (fun c => og (gm_L0 lo hi n p c)) La k) les oth soc) (fun k => [some (.ref g0), some (.int (nI p)), some (.int (nI k))]) (fun _ => []) 0 (Nat.zero_le _) (fun k hk ih => ?_)
  refine kw_iload_n X dc_G_sort_2 rfl rfl ?_
  refine kw_bipush (v := (nI 8)) X dc_G_sort_3 (by decide) ?_
  refine kw_icmp_ge (tgt := 38) X dc_G_sort_5 (by decide) (fun hc5 => ?_) (fun hc5 => ?_)
  · refine kw_iconst (v := (nI 0)) X dc_G_sort_38 (by decide) ?_
    refine kw_istore_n X dc_G_sort_39 rfl (by decide) ?_
    have hk9 : k = 8 := Nat.le_antisymm hk (kq_le hc5)
    have hL0 : ∀ c, c < 8 → (kq_pre (fun c => og (gm_L0 lo hi n p c)) La k) c = og (gm_L lo hi n p 0 c) := fun c hc => kq_pre_lt (by omega)
    refine kw_loop (α := Nat × (Nat → Int32)) (fun a => a.1 ≤ n ∧ grOk (gm_L lo hi n p a.1) a.2) (fun a => n - a.1) (fun a => wGrp kI g0 g1 w0 w1 w2 w3 n a.2 les oth soc) (fun a => [some (.ref g0), some (.int (nI p)), some (.int (nI a.1))]) (fun _ => []) (0, kq_pre (fun c => og (gm_L0 lo hi n p c)) La k) ⟨Nat.zero_le _, (gm_L_8 lo hi n p 0).1, (gm_L_8 lo hi n p 0).2, hL0⟩ (fun a hI ih2 => ?_)
    obtain ⟨i, Lb⟩ := a
    obtain ⟨hi9, gok⟩ := hI
    refine kw_iload_n X dc_G_sort_40 rfl rfl ?_
    refine kw_aload_n X dc_G_sort_41 rfl rfl ?_
    refine kw_get X (wc_G _) 0 rfl rfl 0 (by decide) (gq wd_91) (fun _ h => h) rfl dc_G_sort_42 ?_
    refine kw_callVI X kEw hE 0 rfl rfl (ct_size w0 w1 w2 w3 n les oth soc) (cw_V 0 X wd_190 wd_191 wd_192 wd_2 wd_193 rfl rfl (by decide +kernel) ⟨Nat.le_of_ble_eq_true rfl, Nat.le_of_ble_eq_true rfl⟩) [2, 3, 4, 5] rfl (by decide) (fun _ _ h => by obtain ⟨rfl, _⟩ := h; exact Nat.le_refl _) rfl rfl (Nat.le_of_ble_eq_true rfl) dc_G_sort_45 ⟨Nat.zero_le _, Nat.zero_le _⟩ (fun r w hp => ?_)
    obtain ⟨rfl, rfl⟩ := hp
    refine kw_cv (ws' := wGrp kI g0 g1 w0 w1 w2 w3 n Lb les oth soc) rfl rfl rfl ?_
    refine kw_icmp_ge (tgt := 93) X dc_G_sort_48 (by decide) (fun hc48 => ?_) (fun hc48 => ?_)
    · exact kw_vret X hr hlk dc_G_sort_93 ⟨Lb, rfl, by have e9 : i = n := Nat.le_antisymm hi9 (kq_le hc48); have g9 : gm_L lo hi n p n = gm_L lo hi n p i := (by rw [e9]); rw [g9]; exact gok⟩
    · have hin : i < n := kq_nle hc48
      obtain ⟨o1, o2, o3⟩ := ok.1.2 i hin
      obtain ⟨e1, e2⟩ := ok.2.1 i hin
      refine kw_iload_n X dc_G_sort_51 rfl rfl ?_
      refine kw_iload_n X dc_G_sort_52 rfl rfl ?_
      refine kw_callSNI X kEw hE (ct_hasN p i (by omega) (by omega)) (cw_SN (host := "CoinStrings") 2 X (hE _ (by decide +kernel)) wd_195 wd_1 wd_196 rfl rfl (by decide +kernel) ⟨Nat.le_of_ble_eq_true rfl, Nat.le_of_ble_eq_true rfl⟩) [] rfl (by decide) (fun _ _ _ => Nat.zero_le _) rfl rfl (Nat.le_of_ble_eq_true rfl) dc_G_sort_53 ⟨Nat.zero_le _, Nat.zero_le _⟩ (fun r w hp => ?_)
      obtain ⟨rfl, rfl⟩ := hp
      refine kw_cv (ws' := wGrp kI g0 g1 w0 w1 w2 w3 n Lb les oth soc) rfl rfl rfl ?_
      refine kw_if_eq (tgt := 87) X dc_G_sort_56 (by decide) (fun hc56 => ?_) (fun hc56 => ?_)
      · have h56 := kq_z0 hc56
        have gok3 : grOk (gm_L lo hi n p (i + 1)) Lb := by
          rw [gm_L_skip h56]
          exact gok
        refine kw_iinc (v := nI (i + 1)) X dc_G_sort_87 rfl (kq_inc i) (by decide) ?_
        refine kw_goto (tgt := 40) X dc_G_sort_90 (by decide) ?_
        first | exact ih2 (i + 1, L2) ⟨hin, gok2⟩ (by show n - (i + 1) < n - i; omega) | exact ih2 (i + 1, Lb) ⟨hin, gok3⟩ (by show n - (i + 1) < n - i; omega)
      · have h56 := kq_z1 hc56
        refine kw_aload_n X dc_G_sort_59 rfl rfl ?_
        refine kw_aload_n X dc_G_sort_60 rfl rfl ?_
        refine kw_aload_n X dc_G_sort_61 rfl rfl ?_
        refine kw_get X (wc_G _) 0 rfl rfl 0 (by decide) (gq wd_91) (fun _ h => h) rfl dc_G_sort_62 ?_
        refine kw_iload_n X dc_G_sort_65 rfl rfl ?_
        refine kw_callVI X kEw hE 0 rfl rfl (ct_lesser w0 w1 w2 w3 n les oth soc i (by omega)) (cw_V 1 X wd_197 wd_198 wd_199 wd_2 wd_200 rfl rfl (by decide +kernel) ⟨Nat.le_of_ble_eq_true rfl, Nat.le_of_ble_eq_true rfl⟩) [2, 3, 4, 5] rfl (by decide) (fun _ _ h => by obtain ⟨rfl, _⟩ := h; exact Nat.le_refl _) rfl rfl (Nat.le_of_ble_eq_true rfl) dc_G_sort_66 ⟨Nat.zero_le _, Nat.zero_le _⟩ (fun r w hp => ?_)
        obtain ⟨rfl, rfl⟩ := hp
        refine kw_cv (ws' := wGrp kI g0 g1 w0 w1 w2 w3 n Lb les oth soc) rfl rfl rfl ?_
        refine kw_top (y := og (lo i)) (by rw [e1, og_lt o1]) ?_
        refine kw_callVI X kEw hE 0 rfl rfl (ct_leaderOf g0 g1 w0 w1 w2 w3 n Lb les oth soc (gm_L lo hi n p i) gok (lo i) (by omega)) (cw_V 1 X wd_201 wd_203 wp_0 wd_6 wd_204 rfl rfl (by decide +kernel) ⟨Nat.le_of_ble_eq_true rfl, Nat.le_of_ble_eq_true rfl⟩) [0, 1, 2, 3, 4, 5] rfl (by decide) (fun _ _ h => by obtain ⟨rfl, _⟩ := h; exact Nat.le_refl _) rfl rfl (Nat.le_of_ble_eq_true rfl) dc_G_sort_69 ⟨Nat.zero_le _, Nat.zero_le _⟩ (fun r w hp => ?_)
        obtain ⟨rfl, rfl⟩ := hp
        refine kw_cv (ws' := wGrp kI g0 g1 w0 w1 w2 w3 n Lb les oth soc) rfl rfl rfl ?_
        refine kw_aload_n X dc_G_sort_72 rfl rfl ?_
        refine kw_aload_n X dc_G_sort_73 rfl rfl ?_
        refine kw_get X (wc_G _) 0 rfl rfl 0 (by decide) (gq wd_91) (fun _ h => h) rfl dc_G_sort_74 ?_
        refine kw_iload_n X dc_G_sort_77 rfl rfl ?_
        refine kw_callVI X kEw hE 0 rfl rfl (ct_other w0 w1 w2 w3 n les oth soc i (by omega)) (cw_V 1 X wd_205 wd_206 wd_207 wd_2 wd_208 rfl rfl (by decide +kernel) ⟨Nat.le_of_ble_eq_true rfl, Nat.le_of_ble_eq_true rfl⟩) [2, 3, 4, 5] rfl (by decide) (fun _ _ h => by obtain ⟨rfl, _⟩ := h; exact Nat.le_refl _) rfl rfl (Nat.le_of_ble_eq_true rfl) dc_G_sort_78 ⟨Nat.zero_le _, Nat.zero_le _⟩ (fun r w hp => ?_)
        obtain ⟨rfl, rfl⟩ := hp
        refine kw_cv (ws' := wGrp kI g0 g1 w0 w1 w2 w3 n Lb les oth soc) rfl rfl rfl ?_
        refine kw_top (y := og (hi i)) e2 ?_
        refine kw_callVI X kEw hE 0 rfl rfl (ct_leaderOf g0 g1 w0 w1 w2 w3 n Lb les oth soc (gm_L lo hi n p i) gok (hi i) (by omega)) (cw_V 1 X wd_201 wd_203 wp_0 wd_6 wd_204 rfl rfl (by decide +kernel) ⟨Nat.le_of_ble_eq_true rfl, Nat.le_of_ble_eq_true rfl⟩) [0, 1, 2, 3, 4, 5] rfl (by decide) (fun _ _ h => by obtain ⟨rfl, _⟩ := h; exact Nat.le_refl _) rfl rfl (Nat.le_of_ble_eq_true rfl) dc_G_sort_81 ⟨Nat.zero_le _, Nat.zero_le _⟩ (fun r w hp => ?_)
        obtain ⟨rfl, rfl⟩ := hp
        refine kw_cv (ws' := wGrp kI g0 g1 w0 w1 w2 w3 n Lb les oth soc) rfl rfl rfl ?_
        refine kw_callVV X kEw hE 0 rfl rfl (ct_unite g0 g1 w0 w1 w2 w3 n Lb les oth soc (gm_L lo hi n p i) gok (gm_L lo hi n p i (lo i)) (gm_L lo hi n p i (hi i)) (gok.2.1 _) (gok.2.1 _)) (cw_V 2 X wd_209 wd_211 wp_1 wd_6 wd_212 rfl rfl (by decide +kernel) ⟨Nat.le_of_ble_eq_true rfl, Nat.le_of_ble_eq_true rfl⟩) [0, 1, 2, 3, 4, 5] rfl (by decide) (fun _ h => by obtain ⟨g, rfl, _⟩ := h; exact Nat.le_refl _) rfl rfl (Nat.le_of_ble_eq_true rfl) dc_G_sort_84 ⟨Nat.zero_le _, Nat.zero_le _⟩ (fun w hp => ?_)
        obtain ⟨L2, rfl, gok1⟩ := hp
        refine kw_cv (ws' := wGrp kI g0 g1 w0 w1 w2 w3 n L2 les oth soc) rfl rfl rfl ?_
        have gok2 : grOk (gm_L lo hi n p (i + 1)) L2 := by
          rw [gm_L_step h56]
          exact gok1
        refine kw_iinc (v := nI (i + 1)) X dc_G_sort_87 rfl (kq_inc i) (by decide) ?_
        refine kw_goto (tgt := 40) X dc_G_sort_90 (by decide) ?_
        first | exact ih2 (i + 1, L2) ⟨hin, gok2⟩ (by show n - (i + 1) < n - i; omega) | exact ih2 (i + 1, Lb) ⟨hin, gok3⟩ (by show n - (i + 1) < n - i; omega)
  · have hk8 := kq_nle hc5
    have hL1 : gm_pc (p &&& gm_mk lo hi n k) = 2 → nI k = og (gm_L0 lo hi n p k) := fun z => by
      unfold gm_L0
      rw [if_pos hk8, if_pos z, og_lt hk8]
    have hL2 : ¬ gm_pc (p &&& gm_mk lo hi n k) = 2 → (-1 : Int32) = og (gm_L0 lo hi n p k) := fun z => by
      unfold gm_L0
      rw [if_pos hk8, if_neg z]
      rfl
    have hpc := gm_pc_le (p &&& gm_mk lo hi n k)
    refine kw_aload_n X dc_G_sort_8 rfl rfl ?_
    refine kw_get X (wc_G _) 0 rfl rfl 1 (by decide) (gq wd_92) (fun _ h => h) rfl dc_G_sort_9 ?_
    refine kw_iload_n X dc_G_sort_12 rfl rfl ?_
    refine kw_aload_n X dc_G_sort_13 rfl rfl ?_
    refine kw_get X (wc_G _) 0 rfl rfl 0 (by decide) (gq wd_91) (fun _ h => h) rfl dc_G_sort_14 ?_
    refine kw_iload_n X dc_G_sort_17 rfl rfl ?_
    refine kw_iload_n X dc_G_sort_18 rfl rfl ?_
    refine kw_callVI X kEw hE 0 rfl rfl (ct_holding w0 w1 w2 w3 n les oth soc p k lo hi ok hk8) (cw_V 2 X wd_180 wd_181 wd_182 wd_2 wd_183 rfl rfl (by decide +kernel) ⟨Nat.le_of_ble_eq_true rfl, Nat.le_of_ble_eq_true rfl⟩) [2, 3, 4, 5] rfl (by decide) (fun _ _ h => by obtain ⟨rfl, _⟩ := h; exact Nat.le_refl _) rfl rfl (Nat.le_of_ble_eq_true rfl) dc_G_sort_19 ⟨Nat.zero_le _, Nat.zero_le _⟩ (fun r w hp => ?_)
    obtain ⟨rfl, rfl⟩ := hp
    refine kw_cv (ws' := wGrp kI g0 g1 w0 w1 w2 w3 n (kq_pre (fun c => og (gm_L0 lo hi n p c)) La k) les oth soc) rfl rfl rfl ?_
    refine kw_iconst (v := (nI 2)) X dc_G_sort_22 (by decide) ?_
    refine kw_icmp_ne (tgt := 30) X dc_G_sort_23 (by decide) (fun hc23 => ?_) (fun hc23 => ?_)
    · have h23 := kq_ne hc23
      refine kw_iconst (v := (-1)) X dc_G_sort_30 (by decide) ?_
      refine kw_top (y := og (gm_L0 lo hi n p k)) (by first | exact hL1 h23 | exact hL2 h23) ?_
      refine kw_iast X 1 0 rfl rfl (kq_in hk8 (by omega)) dc_G_sort_31 ?_
      refine kw_iinc (v := nI (k + 1)) X dc_G_sort_32 rfl (kq_inc k) (by decide) ?_
      refine kw_goto (tgt := 2) X dc_G_sort_35 (by decide) ?_
      refine kw_cv (ws' := wGrp kI g0 g1 w0 w1 w2 w3 n (kq_pre (fun c => og (gm_L0 lo hi n p c)) La (k + 1)) les oth soc) (by
        show wGrp kI g0 g1 w0 w1 w2 w3 n (upd (kq_pre (fun c => og (gm_L0 lo hi n p c)) La k) (nI k).toNatClampNeg (og (gm_L0 lo hi n p k))) les oth soc = _
        rw [kq_cl (by omega), kq_pre_upd rfl]) rfl rfl ?_
      exact ih (k + 1) (by omega) (by omega)
    · have h23 := kq_eq hc23
      refine kw_iload_n X dc_G_sort_26 rfl rfl ?_
      refine kw_goto (tgt := 31) X dc_G_sort_27 (by decide) ?_
      refine kw_top (y := og (gm_L0 lo hi n p k)) (by first | exact hL1 h23 | exact hL2 h23) ?_
      refine kw_iast X 1 0 rfl rfl (kq_in hk8 (by omega)) dc_G_sort_31 ?_
      refine kw_iinc (v := nI (k + 1)) X dc_G_sort_32 rfl (kq_inc k) (by decide) ?_
      refine kw_goto (tgt := 2) X dc_G_sort_35 (by decide) ?_
      refine kw_cv (ws' := wGrp kI g0 g1 w0 w1 w2 w3 n (kq_pre (fun c => og (gm_L0 lo hi n p c)) La (k + 1)) les oth soc) (by
        show wGrp kI g0 g1 w0 w1 w2 w3 n (upd (kq_pre (fun c => og (gm_L0 lo hi n p c)) La k) (nI k).toNatClampNeg (og (gm_L0 lo hi n p k))) les oth soc = _
        rw [kq_cl (by omega), kq_pre_upd rfl]) rfl rfl ?_
      exact ih (k + 1) (by omega) (by omega)
end
section
set_option maxRecDepth 100000 in
set_option maxHeartbeats 4000000 in
theorem ct_count {l : Launch} {D : va_G} {kI kB kC kL : ClassId} (g0 g1 w0 w1 w2 w3 n : Nat) (La les oth soc : Nat → Int32) (L : Nat → Nat) (gok : grOk L La) : kw_I l mn_G_count (gw mn_G_count cd_G_count 3 (some .int)) ({ frames := 0, cells := 0, slots := 0, locals := 0 } : Room) D cl_v (kt kI kB kC kL) kE [.ref g0] (wGrp kI g0 g1 w0 w1 w2 w3 n La les oth soc) (fun r w => w = wGrp kI g0 g1 w0 w1 w2 w3 n La les oth soc ∧ r = nI (gm_rk L 8)) 0 0 := by
  refine kw_ofI (cc := cd_G_count) (maxL := 3) (ty := .int) (by decide) rfl (Nat.le_of_ble_eq_true rfl) rfl ?_
  intro pp ee s m args below meth c A X hr hlk hE hnm
  refine kw_iconst (v := (nI 0)) X dc_G_count_0 (by decide) ?_
  refine kw_istore_n X dc_G_count_1 rfl (by decide) ?_
  refine kw_iconst (v := (nI 0)) X dc_G_count_2 (by decide) ?_
  refine kw_istore_n X dc_G_count_3 rfl (by decide) ?_
  refine kw_loop (α := Nat) (fun k => k ≤ 8) (fun k => 8 - k) (fun _ => wGrp kI g0 g1 w0 w1 w2 w3 n La les oth soc) (fun k => [some (.ref g0), some (.int (nI (gm_rk L k))), some (.int (nI k))]) (fun _ => []) 0 (Nat.zero_le _) (fun k hk ih => ?_)
  refine kw_iload_n X dc_G_count_4 rfl rfl ?_
  refine kw_bipush (v := (nI 8)) X dc_G_count_5 (by decide) ?_
  refine kw_icmp_ge (tgt := 29) X dc_G_count_7 (by decide) (fun hc7 => ?_) (fun hc7 => ?_)
  · refine kw_iload_n X dc_G_count_29 rfl rfl ?_
    exact kw_iret X hr hlk dc_G_count_30 ⟨rfl, by have e : k = 8 := Nat.le_antisymm hk (kq_le hc7); rw [e]⟩
  · have hk8 := kq_nle hc7
    have hog := og_inj (gok.2.1 k) (show k ≤ 8 by omega)
    rw [og_lt hk8] at hog
    refine kw_aload_n X dc_G_count_10 rfl rfl ?_
    refine kw_get X (wc_G _) 0 rfl rfl 1 (by decide) (gq wd_92) (fun _ h => h) rfl dc_G_count_11 ?_
    refine kw_iload_n X dc_G_count_14 rfl rfl ?_
    refine kw_iald (v := og (L k)) X 1 0 rfl rfl (kq_in hk8 (by omega)) (by rw [kq_cl (by omega)]; exact gok.2.2 k hk8) dc_G_count_15 ?_
    refine kw_iload_n X dc_G_count_16 rfl rfl ?_
    refine kw_icmp_ne (tgt := 23) X dc_G_count_17 (by decide) (fun hc17 => ?_) (fun hc17 => ?_)
    · have h17 : ¬ L k = k := fun z => hc17 (hog.mpr z)
      refine kw_iinc (v := nI (k + 1)) X dc_G_count_23 rfl (kq_inc k) (by decide) ?_
      refine kw_goto (tgt := 4) X dc_G_count_26 (by decide) ?_
      refine kw_cv (lv' := [some (.ref g0), some (.int (nI (gm_rk L (k + 1)))), some (.int (nI (k + 1)))]) rfl (by first | (rw [show gm_rk L (k + 1) = gm_rk L k + 1 from congrArg (gm_rk L k + ·) (if_pos h17)]; rfl) | (rw [show gm_rk L (k + 1) = gm_rk L k from congrArg (gm_rk L k + ·) (if_neg h17)]; rfl)) rfl ?_
      exact ih (k + 1) (by omega) (by omega)
    · have h17 := hog.mp hc17
      refine kw_iinc (v := nI (gm_rk L k + 1)) X dc_G_count_20 rfl (kq_inc _) (by decide) ?_
      refine kw_iinc (v := nI (k + 1)) X dc_G_count_23 rfl (kq_inc k) (by decide) ?_
      refine kw_goto (tgt := 4) X dc_G_count_26 (by decide) ?_
      refine kw_cv (lv' := [some (.ref g0), some (.int (nI (gm_rk L (k + 1)))), some (.int (nI (k + 1)))]) rfl (by first | (rw [show gm_rk L (k + 1) = gm_rk L k + 1 from congrArg (gm_rk L k + ·) (if_pos h17)]; rfl) | (rw [show gm_rk L (k + 1) = gm_rk L k from congrArg (gm_rk L k + ·) (if_neg h17)]; rfl)) rfl ?_
      exact ih (k + 1) (by omega) (by omega)
set_option maxRecDepth 100000 in
set_option maxHeartbeats 4000000 in
theorem ct_leader {l : Launch} {D : va_G} {kI kB kC kL : ClassId} (g0 g1 w0 w1 w2 w3 n : Nat) (La les oth soc : Nat → Int32) (L : Nat → Nat) (gok : grOk L La) (g : Nat) (hg : g < gm_rk L 8) : kw_I l mn_G_leader (gw mn_G_leader cd_G_leader 4 (some .int)) ({ frames := 0, cells := 0, slots := 0, locals := 0 } : Room) D cl_v (kt kI kB kC kL) kE [.ref g0, .int (nI g)] (wGrp kI g0 g1 w0 w1 w2 w3 n La les oth soc) (fun r w => w = wGrp kI g0 g1 w0 w1 w2 w3 n La les oth soc ∧ ∃ c, c < 8 ∧ L c = c ∧ gm_rk L c = g ∧ r = nI c) 0 0 := by
  refine kw_ofI (cc := cd_G_leader) (maxL := 4) (ty := .int) (by decide) rfl (Nat.le_of_ble_eq_true rfl) rfl ?_
  intro pp ee s m args below meth c A X hr hlk hE hnm
  have hr8 : gm_rk L 8 ≤ 8 := gm_sum_le (fun c => by unfold gm_ldr; split <;> omega) 8
  refine kw_iconst (v := (nI 0)) X dc_G_leader_0 (by decide) ?_
  refine kw_istore_n X dc_G_leader_1 rfl (by decide) ?_
  refine kw_iconst (v := (nI 0)) X dc_G_leader_2 (by decide) ?_
  refine kw_istore_n X dc_G_leader_3 rfl (by decide) ?_
  refine kw_loop (α := Nat) (fun k => k ≤ 8 ∧ gm_rk L k ≤ g) (fun k => 8 - k) (fun _ => wGrp kI g0 g1 w0 w1 w2 w3 n La les oth soc) (fun k => [some (.ref g0), some (.int (nI g)), some (.int (nI (gm_rk L k))), some (.int (nI k))]) (fun _ => []) 0 ⟨Nat.zero_le _, Nat.zero_le _⟩ (fun k hk ih => ?_)
  refine kw_iload_n X dc_G_leader_4 rfl rfl ?_
  refine kw_bipush (v := (nI 8)) X dc_G_leader_5 (by decide) ?_
  refine kw_icmp_ge (tgt := 36) X dc_G_leader_7 (by decide) (fun hc7 => ?_) (fun hc7 => ?_)
  · have h7 : k = 8 := Nat.le_antisymm hk.1 (kq_le hc7)
    rw [h7] at hk
    exact absurd hg (by omega)
  · have hk8 := kq_nle hc7
    have hog := og_inj (gok.2.1 k) (show k ≤ 8 by omega)
    rw [og_lt hk8] at hog
    refine kw_aload_n X dc_G_leader_10 rfl rfl ?_
    refine kw_get X (wc_G _) 0 rfl rfl 1 (by decide) (gq wd_92) (fun _ h => h) rfl dc_G_leader_11 ?_
    refine kw_iload_n X dc_G_leader_14 rfl rfl ?_
    refine kw_iald (v := og (L k)) X 1 0 rfl rfl (kq_in hk8 (by omega)) (by rw [kq_cl (by omega)]; exact gok.2.2 k hk8) dc_G_leader_15 ?_
    refine kw_iload_n X dc_G_leader_16 rfl rfl ?_
    refine kw_icmp_ne (tgt := 30) X dc_G_leader_17 (by decide) (fun hc17 => ?_) (fun hc17 => ?_)
    · have h17 : ¬ L k = k := fun z => hc17 (hog.mpr z)
      refine kw_iinc (v := nI (k + 1)) X dc_G_leader_30 rfl (kq_inc k) (by decide) ?_
      refine kw_goto (tgt := 4) X dc_G_leader_33 (by decide) ?_
      refine kw_cv (lv' := [some (.ref g0), some (.int (nI g)), some (.int (nI (gm_rk L (k + 1)))), some (.int (nI (k + 1)))]) rfl (by first | (rw [show gm_rk L (k + 1) = gm_rk L k + 1 from congrArg (gm_rk L k + ·) (if_pos h17)]; rfl) | (rw [show gm_rk L (k + 1) = gm_rk L k from congrArg (gm_rk L k + ·) (if_neg h17)]; rfl)) rfl ?_
      exact ih (k + 1) ⟨by omega, by first | (rw [show gm_rk L (k + 1) = gm_rk L k + 1 from congrArg (gm_rk L k + ·) (if_pos h17)]; omega) | (rw [show gm_rk L (k + 1) = gm_rk L k from congrArg (gm_rk L k + ·) (if_neg h17)]; omega)⟩ (by omega)
    · have h17 := hog.mp hc17
      refine kw_iload_n X dc_G_leader_20 rfl rfl ?_
      refine kw_iload_n X dc_G_leader_21 rfl rfl ?_
      refine kw_icmp_ne (tgt := 27) X dc_G_leader_22 (by decide) (fun hc22 => ?_) (fun hc22 => ?_)
      · have h22 := kq_ne hc22
        refine kw_iinc (v := nI (gm_rk L k + 1)) X dc_G_leader_27 rfl (kq_inc _) (by decide) ?_
        refine kw_iinc (v := nI (k + 1)) X dc_G_leader_30 rfl (kq_inc k) (by decide) ?_
        refine kw_goto (tgt := 4) X dc_G_leader_33 (by decide) ?_
        refine kw_cv (lv' := [some (.ref g0), some (.int (nI g)), some (.int (nI (gm_rk L (k + 1)))), some (.int (nI (k + 1)))]) rfl (by first | (rw [show gm_rk L (k + 1) = gm_rk L k + 1 from congrArg (gm_rk L k + ·) (if_pos h17)]; rfl) | (rw [show gm_rk L (k + 1) = gm_rk L k from congrArg (gm_rk L k + ·) (if_neg h17)]; rfl)) rfl ?_
        exact ih (k + 1) ⟨by omega, by first | (rw [show gm_rk L (k + 1) = gm_rk L k + 1 from congrArg (gm_rk L k + ·) (if_pos h17)]; omega) | (rw [show gm_rk L (k + 1) = gm_rk L k from congrArg (gm_rk L k + ·) (if_neg h17)]; omega)⟩ (by omega)
      · have h22 := kq_eq hc22
        refine kw_iload_n X dc_G_leader_25 rfl rfl ?_
        exact kw_iret X hr hlk dc_G_leader_26 ⟨rfl, k, hk8, h17, h22, rfl⟩
def gm_cnt (L : Nat → Nat) (v k : Nat) : Nat := gm_sum (fun c => if L c = v then 1 else 0) k
set_option maxRecDepth 100000 in
set_option maxHeartbeats 4000000 in
theorem ct_length {l : Launch} {D : va_G} {kI kB kC kL : ClassId} (g0 g1 w0 w1 w2 w3 n : Nat) (La les oth soc : Nat → Int32) (L : Nat → Nat) (gok : grOk L La) (v : Nat) (hv : v < 8) : kw_I l mn_G_length (gw mn_G_length cd_G_length 4 (some .int)) ({ frames := 0, cells := 0, slots := 0, locals := 0 } : Room) D cl_v (kt kI kB kC kL) kE [.ref g0, .int (nI v)] (wGrp kI g0 g1 w0 w1 w2 w3 n La les oth soc) (fun r w => w = wGrp kI g0 g1 w0 w1 w2 w3 n La les oth soc ∧ r = nI (gm_cnt L v 8)) 0 0 := by
  refine kw_ofI (cc := cd_G_length) (maxL := 4) (ty := .int) (by decide) rfl (Nat.le_of_ble_eq_true rfl) rfl ?_
  intro pp ee s m args below meth c A X hr hlk hE hnm
  refine kw_iconst (v := (nI 0)) X dc_G_length_0 (by decide) ?_
  refine kw_istore_n X dc_G_length_1 rfl (by decide) ?_
  refine kw_iconst (v := (nI 0)) X dc_G_length_2 (by decide) ?_
  refine kw_istore_n X dc_G_length_3 rfl (by decide) ?_
  refine kw_loop (α := Nat) (fun k => k ≤ 8) (fun k => 8 - k) (fun _ => wGrp kI g0 g1 w0 w1 w2 w3 n La les oth soc) (fun k => [some (.ref g0), some (.int (nI v)), some (.int (nI (gm_cnt L v k))), some (.int (nI k))]) (fun _ => []) 0 (Nat.zero_le _) (fun k hk ih => ?_)
  refine kw_iload_n X dc_G_length_4 rfl rfl ?_
  refine kw_bipush (v := (nI 8)) X dc_G_length_5 (by decide) ?_
  refine kw_icmp_ge (tgt := 29) X dc_G_length_7 (by decide) (fun hc7 => ?_) (fun hc7 => ?_)
  · refine kw_iload_n X dc_G_length_29 rfl rfl ?_
    exact kw_iret X hr hlk dc_G_length_30 ⟨rfl, by have e : k = 8 := Nat.le_antisymm hk (kq_le hc7); rw [e]⟩
  · have hk8 := kq_nle hc7
    have hog := og_inj (gok.2.1 k) (show v ≤ 8 by omega)
    rw [og_lt hv] at hog
    refine kw_aload_n X dc_G_length_10 rfl rfl ?_
    refine kw_get X (wc_G _) 0 rfl rfl 1 (by decide) (gq wd_92) (fun _ h => h) rfl dc_G_length_11 ?_
    refine kw_iload_n X dc_G_length_14 rfl rfl ?_
    refine kw_iald (v := og (L k)) X 1 0 rfl rfl (kq_in hk8 (by omega)) (by rw [kq_cl (by omega)]; exact gok.2.2 k hk8) dc_G_length_15 ?_
    refine kw_iload_n X dc_G_length_16 rfl rfl ?_
    refine kw_icmp_ne (tgt := 23) X dc_G_length_17 (by decide) (fun hc17 => ?_) (fun hc17 => ?_)
    · have h17 : ¬ L k = v := fun z => hc17 (hog.mpr z)
      refine kw_iinc (v := nI (k + 1)) X dc_G_length_23 rfl (kq_inc k) (by decide) ?_
      refine kw_goto (tgt := 4) X dc_G_length_26 (by decide) ?_
      refine kw_cv (lv' := [some (.ref g0), some (.int (nI v)), some (.int (nI (gm_cnt L v (k + 1)))), some (.int (nI (k + 1)))]) rfl (by first | (rw [show gm_cnt L v (k + 1) = gm_cnt L v k + 1 from congrArg (gm_cnt L v k + ·) (if_pos h17)]; rfl) | (rw [show gm_cnt L v (k + 1) = gm_cnt L v k from congrArg (gm_cnt L v k + ·) (if_neg h17)]; rfl)) rfl ?_
      exact ih (k + 1) (by omega) (by omega)
    · have h17 := hog.mp hc17
      refine kw_iinc (v := nI (gm_cnt L v k + 1)) X dc_G_length_20 rfl (kq_inc _) (by decide) ?_
      refine kw_iinc (v := nI (k + 1)) X dc_G_length_23 rfl (kq_inc k) (by decide) ?_
      refine kw_goto (tgt := 4) X dc_G_length_26 (by decide) ?_
      refine kw_cv (lv' := [some (.ref g0), some (.int (nI v)), some (.int (nI (gm_cnt L v (k + 1)))), some (.int (nI (k + 1)))]) rfl (by first | (rw [show gm_cnt L v (k + 1) = gm_cnt L v k + 1 from congrArg (gm_cnt L v k + ·) (if_pos h17)]; rfl) | (rw [show gm_cnt L v (k + 1) = gm_cnt L v k from congrArg (gm_cnt L v k + ·) (if_neg h17)]; rfl)) rfl ?_
      exact ih (k + 1) (by omega) (by omega)
set_option maxRecDepth 100000 in
set_option maxHeartbeats 4000000 in
theorem ct_isLoop {l : Launch} {D : va_G} {kI kB kC kL : ClassId} (g0 g1 w0 w1 w2 w3 n : Nat) (La les oth soc : Nat → Int32) (lo hi : Nat → Nat) (ok : webOk lo hi n les oth soc) (L : Nat → Nat) (gok : grOk L La) (v : Nat) (hv : v < 8) (p : Nat) (hp : p < 4096) : kw_I l mn_G_isLoop (gw mn_G_isLoop cd_G_isLoop 6 (some .boolean)) ({ frames := 1, cells := 0, slots := 0, locals := 21 } : Room) D cl_v (kt kI kB kC kL) kE [.ref g0, .int (nI v), .int (nI p)] (wGrp kI g0 g1 w0 w1 w2 w3 n La les oth soc) (fun r w => w = wGrp kI g0 g1 w0 w1 w2 w3 n La les oth soc ∧ r = bI (gm_lp lo hi p L v n)) 0 0 := by
  refine kw_ofI (cc := cd_G_isLoop) (maxL := 6) (ty := .boolean) (by decide) rfl (Nat.le_of_ble_eq_true rfl) rfl ?_
  intro pp ee s m args below meth c A X hr hlk hE hnm
  have hn := ok.1.1
  refine kw_iconst (v := (nI 0)) X dc_G_isLoop_0 (by decide) ?_
  refine kw_istore_n X dc_G_isLoop_1 rfl (by decide) ?_
  refine kw_loop (α := Nat) (fun k => k ≤ n ∧ gm_lp lo hi p L v k = true) (fun k => n - k) (fun _ => wGrp kI g0 g1 w0 w1 w2 w3 n La les oth soc) (fun k => [some (.ref g0), some (.int (nI v)), some (.int (nI p)), some (.int (nI k)), none, none]) (fun _ => []) 0 ⟨Nat.zero_le _, rfl⟩ (fun k hk ih => ?_)
  refine kw_iload_n X dc_G_isLoop_2 rfl rfl ?_
  refine kw_aload_n X dc_G_isLoop_3 rfl rfl ?_
  refine kw_get X (wc_G _) 0 rfl rfl 0 (by decide) (gq wd_91) (fun _ h => h) rfl dc_G_isLoop_4 ?_
  refine kw_callVI X kEw hE 0 rfl rfl (ct_size w0 w1 w2 w3 n les oth soc) (cw_V 0 X wd_190 wd_191 wd_192 wd_2 wd_193 rfl rfl (by decide +kernel) ⟨Nat.le_of_ble_eq_true rfl, Nat.le_of_ble_eq_true rfl⟩) [2, 3, 4, 5] rfl (by decide) (fun _ _ h => by obtain ⟨rfl, _⟩ := h; exact Nat.le_refl _) rfl rfl (Nat.le_of_ble_eq_true rfl) dc_G_isLoop_7 ⟨Nat.zero_le _, Nat.zero_le _⟩ (fun r w hp => ?_)
  obtain ⟨rfl, rfl⟩ := hp
  refine kw_cv (ws' := wGrp kI g0 g1 w0 w1 w2 w3 n La les oth soc) rfl rfl rfl ?_
  refine kw_icmp_ge (tgt := 82) X dc_G_isLoop_10 (by decide) (fun hc10 => ?_) (fun hc10 => ?_)
  · refine kw_iconst (v := (nI 1)) X dc_G_isLoop_82 (by decide) ?_
    exact kw_zret X hr hlk rfl dc_G_isLoop_83 ⟨rfl, by have e : k = n := Nat.le_antisymm hk.1 (kq_le hc10); rw [← e, hk.2]; rfl⟩
  · have hkn := kq_nle hc10
    obtain ⟨o1, o2, o3⟩ := ok.1.2 k hkn
    obtain ⟨e1, e2⟩ := ok.2.1 k hkn
    refine kw_aload_n X dc_G_isLoop_13 rfl rfl ?_
    refine kw_aload_n X dc_G_isLoop_14 rfl rfl ?_
    refine kw_get X (wc_G _) 0 rfl rfl 0 (by decide) (gq wd_91) (fun _ h => h) rfl dc_G_isLoop_15 ?_
    refine kw_iload_n X dc_G_isLoop_18 rfl rfl ?_
    refine kw_callVI X kEw hE 0 rfl rfl (ct_lesser w0 w1 w2 w3 n les oth soc k (by omega)) (cw_V 1 X wd_197 wd_198 wd_199 wd_2 wd_200 rfl rfl (by decide +kernel) ⟨Nat.le_of_ble_eq_true rfl, Nat.le_of_ble_eq_true rfl⟩) [2, 3, 4, 5] rfl (by decide) (fun _ _ h => by obtain ⟨rfl, _⟩ := h; exact Nat.le_refl _) rfl rfl (Nat.le_of_ble_eq_true rfl) dc_G_isLoop_19 ⟨Nat.zero_le _, Nat.zero_le _⟩ (fun r w hp => ?_)
    obtain ⟨rfl, rfl⟩ := hp
    refine kw_cv (ws' := wGrp kI g0 g1 w0 w1 w2 w3 n La les oth soc) rfl rfl rfl ?_
    refine kw_top (y := og (lo k)) (by rw [e1, og_lt o1]) ?_
    refine kw_callVI X kEw hE 0 rfl rfl (ct_leaderOf g0 g1 w0 w1 w2 w3 n La les oth soc L gok (lo k) (by omega)) (cw_V 1 X wd_201 wd_203 wp_0 wd_6 wd_204 rfl rfl (by decide +kernel) ⟨Nat.le_of_ble_eq_true rfl, Nat.le_of_ble_eq_true rfl⟩) [0, 1, 2, 3, 4, 5] rfl (by decide) (fun _ _ h => by obtain ⟨rfl, _⟩ := h; exact Nat.le_refl _) rfl rfl (Nat.le_of_ble_eq_true rfl) dc_G_isLoop_22 ⟨Nat.zero_le _, Nat.zero_le _⟩ (fun r w hp => ?_)
    obtain ⟨rfl, rfl⟩ := hp
    refine kw_cv (ws' := wGrp kI g0 g1 w0 w1 w2 w3 n La les oth soc) rfl rfl rfl ?_
    refine kw_iload_n X dc_G_isLoop_25 rfl rfl ?_
    refine kw_icmp_ne2 (tgt := 33) X dc_G_isLoop_26 (by decide) (kw_matN (i9 := inferInstance) (E := 34) (a := (nI 1)) (b := (nI 0)) X dc_G_isLoop_29 (by decide) dc_G_isLoop_30 (by decide) dc_G_isLoop_33 (by decide) rfl ?_)
    refine kw_top (y := bI (decide (L (lo k) = v))) (bI_og (gok.2.1 _) hv) ?_
    refine kw_istore X dc_G_isLoop_34 (by decide) ?_
    refine kw_aload_n X dc_G_isLoop_36 rfl rfl ?_
    refine kw_aload_n X dc_G_isLoop_37 rfl rfl ?_
    refine kw_get X (wc_G _) 0 rfl rfl 0 (by decide) (gq wd_91) (fun _ h => h) rfl dc_G_isLoop_38 ?_
    refine kw_iload_n X dc_G_isLoop_41 rfl rfl ?_
    refine kw_callVI X kEw hE 0 rfl rfl (ct_other w0 w1 w2 w3 n les oth soc k (by omega)) (cw_V 1 X wd_205 wd_206 wd_207 wd_2 wd_208 rfl rfl (by decide +kernel) ⟨Nat.le_of_ble_eq_true rfl, Nat.le_of_ble_eq_true rfl⟩) [2, 3, 4, 5] rfl (by decide) (fun _ _ h => by obtain ⟨rfl, _⟩ := h; exact Nat.le_refl _) rfl rfl (Nat.le_of_ble_eq_true rfl) dc_G_isLoop_42 ⟨Nat.zero_le _, Nat.zero_le _⟩ (fun r w hp => ?_)
    obtain ⟨rfl, rfl⟩ := hp
    refine kw_cv (ws' := wGrp kI g0 g1 w0 w1 w2 w3 n La les oth soc) rfl rfl rfl ?_
    refine kw_top (y := og (hi k)) e2 ?_
    refine kw_callVI X kEw hE 0 rfl rfl (ct_leaderOf g0 g1 w0 w1 w2 w3 n La les oth soc L gok (hi k) (by omega)) (cw_V 1 X wd_201 wd_203 wp_0 wd_6 wd_204 rfl rfl (by decide +kernel) ⟨Nat.le_of_ble_eq_true rfl, Nat.le_of_ble_eq_true rfl⟩) [0, 1, 2, 3, 4, 5] rfl (by decide) (fun _ _ h => by obtain ⟨rfl, _⟩ := h; exact Nat.le_refl _) rfl rfl (Nat.le_of_ble_eq_true rfl) dc_G_isLoop_45 ⟨Nat.zero_le _, Nat.zero_le _⟩ (fun r w hp => ?_)
    obtain ⟨rfl, rfl⟩ := hp
    refine kw_cv (ws' := wGrp kI g0 g1 w0 w1 w2 w3 n La les oth soc) rfl rfl rfl ?_
    refine kw_iload_n X dc_G_isLoop_48 rfl rfl ?_
    refine kw_icmp_ne2 (tgt := 56) X dc_G_isLoop_49 (by decide) (kw_matN (i9 := inferInstance) (E := 57) (a := (nI 1)) (b := (nI 0)) X dc_G_isLoop_52 (by decide) dc_G_isLoop_53 (by decide) dc_G_isLoop_56 (by decide) rfl ?_)
    refine kw_top (y := bI (decide (L (hi k) = v))) (bI_og (gok.2.1 _) hv) ?_
    refine kw_istore X dc_G_isLoop_57 (by decide) ?_
    refine kw_iload_n X dc_G_isLoop_59 rfl rfl ?_
    refine kw_iload_n X dc_G_isLoop_60 rfl rfl ?_
    refine kw_callSNI X kEw hE (ct_hasN p k (by omega) (by omega)) (cw_SN (host := "CoinStrings") 2 X (hE _ (by decide +kernel)) wd_195 wd_1 wd_196 rfl rfl (by decide +kernel) ⟨Nat.le_of_ble_eq_true rfl, Nat.le_of_ble_eq_true rfl⟩) [] rfl (by decide) (fun _ _ _ => Nat.zero_le _) rfl rfl (Nat.le_of_ble_eq_true rfl) dc_G_isLoop_61 ⟨Nat.zero_le _, Nat.zero_le _⟩ (fun r w hp => ?_)
    obtain ⟨rfl, rfl⟩ := hp
    refine kw_cv (ws' := wGrp kI g0 g1 w0 w1 w2 w3 n La les oth soc) rfl rfl rfl ?_
    refine kw_if_eq (tgt := 76) X dc_G_isLoop_64 (by decide) (fun hc64 => ?_) (fun hc64 => ?_)
    · have h64 := kq_z0 hc64
      refine kw_iinc (v := nI (k + 1)) X dc_G_isLoop_76 rfl (kq_inc k) (by decide) ?_
      refine kw_goto (tgt := 2) X dc_G_isLoop_79 (by decide) ?_
      refine kw_kill 4 ?_
      refine kw_kill 5 ?_
      exact ih (k + 1) ⟨by omega, by unfold gm_lp; rw [hk.2]; first | (rw [h71]; simp) | (rw [show p.testBit k = false by simpa using h64]; rfl)⟩ (by omega)
    · have h64 := kq_z1 hc64
      refine kw_iload X dc_G_isLoop_67 rfl ?_
      refine kw_iload X dc_G_isLoop_69 rfl ?_
      refine kw_icmp_eq (tgt := 76) X dc_G_isLoop_71 (by decide) (fun hc71 => ?_) (fun hc71 => ?_)
      · have h71 := bI_inj.mp hc71
        refine kw_iinc (v := nI (k + 1)) X dc_G_isLoop_76 rfl (kq_inc k) (by decide) ?_
        refine kw_goto (tgt := 2) X dc_G_isLoop_79 (by decide) ?_
        refine kw_kill 4 ?_
        refine kw_kill 5 ?_
        exact ih (k + 1) ⟨by omega, by unfold gm_lp; rw [hk.2]; first | (rw [h71]; simp) | (rw [show p.testBit k = false by simpa using h64]; rfl)⟩ (by omega)
      · have h71 : (decide (L (lo k) = v) == decide (L (hi k) = v)) = false := by
          cases hq : (decide (L (lo k) = v) == decide (L (hi k) = v)) with
          | false => rfl
          | true => exact absurd (bI_inj.mpr hq) hc71
        refine kw_iconst (v := (nI 0)) X dc_G_isLoop_74 (by decide) ?_
        exact kw_zret X hr hlk rfl dc_G_isLoop_75 ⟨rfl, by rw [gm_lp_no n hkn h64 h71]; rfl⟩
end
section
/-! the text -/
abbrev wTxt (kI kC : ClassId) (t0 t1 w0 w1 w2 w3 n len : Nat) (ch les oth soc : Nat → Int32) : va_W := (t0, .inr (5, [.ref w0, .ref t1, .int (nI len)])) :: (t1, .inl (kC, 84, .inl ch)) :: wWeb kI w0 w1 w2 w3 n les oth soc
/-- the array holds the text -/
def txOk (T : List Nat) (ch : Nat → Int32) : Prop := T.length ≤ 84 ∧ ∀ (j y : Nat), T[j]? = some y → ch j = nI y
theorem txOk_put {T : List Nat} {ch : Nat → Int32} {x : Nat} (h : txOk T ch) (hl : T.length < 84) : txOk (T ++ [x]) (upd ch T.length (nI x)) := by
  refine ⟨by rw [List.length_append]; simp; omega, fun j y hj => ?_⟩
  by_cases hjl : j < T.length
  · rw [List.getElem?_append_left hjl] at hj
    rw [pk_un (by omega)]
    exact h.2 j y hj
  · rw [List.getElem?_append_right (by omega)] at hj
    by_cases hj0 : j = T.length
    · subst hj0
      rw [Nat.sub_self] at hj
      simp at hj
      rw [pk_us, hj]
    · rw [List.getElem?_eq_none (by simp; omega)] at hj
      cases hj
theorem kq_nar {q : Nat} (h : q < 65536) : vp_nar .char (nI q) = nI q := by
  unfold vp_nar
  rw [(pk_charN h).1]
set_option maxRecDepth 100000 in
set_option maxHeartbeats 4000000 in
theorem ct_tlen {l : Launch} {D : va_G} {kI kB kC kL : ClassId} (t0 t1 w0 w1 w2 w3 n : Nat) (T : List Nat) (ch les oth soc : Nat → Int32)  : kw_I l mn_T_length (gw mn_T_length cd_T_length 1 (some .int)) ({ frames := 0, cells := 0, slots := 0, locals := 0 } : Room) D cl_v (kt kI kB kC kL) kE [.ref t0] (wTxt kI kC t0 t1 w0 w1 w2 w3 n (T).length ch les oth soc) (fun r w => w = wTxt kI kC t0 t1 w0 w1 w2 w3 n (T).length ch les oth soc ∧ r = nI T.length) 0 0 := by
  refine kw_ofI (cc := cd_T_length) (maxL := 1) (ty := .int) (by decide) rfl (Nat.le_of_ble_eq_true rfl) rfl ?_
  intro pp ee s m args below meth c A X hr hlk hE hnm
  refine kw_aload_n X dc_T_length_0 rfl rfl ?_
  refine kw_get X (wc_T _) 0 rfl rfl 2 (by decide) (gq wd_106) (fun _ h => h) rfl dc_T_length_1 ?_
  exact kw_iret X hr hlk dc_T_length_4 ⟨rfl, rfl⟩
set_option maxRecDepth 100000 in
set_option maxHeartbeats 4000000 in
theorem ct_tchar {l : Launch} {D : va_G} {kI kB kC kL : ClassId} (t0 t1 w0 w1 w2 w3 n : Nat) (T : List Nat) (ch les oth soc : Nat → Int32) (hx : txOk T ch) (i y : Nat) (hi : T[i]? = some y) : kw_I l mn_T_character (gw mn_T_character cd_T_character 2 (some .int)) ({ frames := 0, cells := 0, slots := 0, locals := 0 } : Room) D cl_v (kt kI kB kC kL) kE [.ref t0, .int (nI i)] (wTxt kI kC t0 t1 w0 w1 w2 w3 n (T).length ch les oth soc) (fun r w => w = wTxt kI kC t0 t1 w0 w1 w2 w3 n (T).length ch les oth soc ∧ r = nI y) 0 0 := by
  refine kw_ofI (cc := cd_T_character) (maxL := 2) (ty := .int) (by decide) rfl (Nat.le_of_ble_eq_true rfl) rfl ?_
  intro pp ee s m args below meth c A X hr hlk hE hnm
  have hil : i < T.length := (List.getElem?_eq_some_iff.mp hi).1
  have h84 := hx.1
  refine kw_aload_n X dc_T_character_0 rfl rfl ?_
  refine kw_get X (wc_T _) 0 rfl rfl 1 (by decide) (gq wd_105) (fun _ h => h) rfl dc_T_character_1 ?_
  refine kw_iload_n X dc_T_character_4 rfl rfl ?_
  refine kw_cald (v := nI y) X 1 2 rfl rfl (kq_in (by omega) (by omega)) (by rw [kq_cl (by omega)]; exact hx.2 i y hi) dc_T_character_5 ?_
  exact kw_iret X hr hlk dc_T_character_6 ⟨rfl, rfl⟩
set_option maxRecDepth 100000 in
set_option maxHeartbeats 4000000 in
theorem ct_put {l : Launch} {D : va_G} {kI kB kC kL : ClassId} (t0 t1 w0 w1 w2 w3 n : Nat) (T : List Nat) (ch les oth soc : Nat → Int32) (hx : txOk T ch) (hl : T.length < 84) (x : Nat) (hx6 : x < 65536) : kw_V l mn_T_put (gw mn_T_put cd_T_put 2 none) ({ frames := 0, cells := 0, slots := 0, locals := 0 } : Room) D cl_v (kt kI kB kC kL) kE [.ref t0, .int (nI x)] (wTxt kI kC t0 t1 w0 w1 w2 w3 n (T).length ch les oth soc) (fun w => ∃ c2 : Nat → Int32, w = wTxt kI kC t0 t1 w0 w1 w2 w3 n (T ++ [x]).length c2 les oth soc ∧ txOk (T ++ [x]) c2) 0 0 := by
  refine kw_ofV (cc := cd_T_put) (maxL := 2) (by decide) rfl (Nat.le_of_ble_eq_true rfl) rfl ?_
  intro pp ee s m args below meth c A X hr hlk hE hnm
  refine kw_aload_n X dc_T_put_0 rfl rfl ?_
  refine kw_get X (wc_T _) 0 rfl rfl 1 (by decide) (gq wd_105) (fun _ h => h) rfl dc_T_put_1 ?_
  refine kw_aload_n X dc_T_put_4 rfl rfl ?_
  refine kw_get X (wc_T _) 0 rfl rfl 2 (by decide) (gq wd_106) (fun _ h => h) rfl dc_T_put_5 ?_
  refine kw_iload_n X dc_T_put_8 rfl rfl ?_
  refine kw_cast X 1 2 rfl rfl (kq_in hl (by omega)) dc_T_put_9 ?_
  refine kw_aload_n X dc_T_put_10 rfl rfl ?_
  refine kw_dup X dc_T_put_11 rfl ?_
  refine kw_get X (wc_T _) 0 rfl rfl 2 (by decide) (gq wd_106) (fun _ h => h) rfl dc_T_put_12 ?_
  refine kw_iconst (v := (nI 1)) X dc_T_put_15 (by decide) ?_
  refine kw_iadd (v := nI (T ++ [x]).length) X dc_T_put_16 (by rw [List.length_append]; exact nI_1 _) ?_
  refine kw_putf (ty := .int) X (wc_T _) fy_T fk_T fn_T 0 rfl rfl 2 (by decide) (gq wd_106) (fun _ h => h) rfl (by decide +kernel) rfl rfl (Nat.le_of_ble_eq_true rfl) dc_T_put_17 ?_
  exact kw_vret X hr hlk dc_T_put_20 ⟨upd ch T.length (nI x), by rw [kq_cl (by omega), kq_nar hx6]; rfl, txOk_put hx hl⟩
set_option maxRecDepth 100000 in
set_option maxHeartbeats 4000000 in
theorem ct_putDigit {l : Launch} {D : va_G} {kI kB kC kL : ClassId} (t0 t1 w0 w1 w2 w3 n : Nat) (T : List Nat) (ch les oth soc : Nat → Int32) (hx : txOk T ch) (hl : T.length < 84) (d : Nat) (hd : d < 10) : kw_V l mn_T_putDigit (gw mn_T_putDigit cd_T_putDigit 2 none) ({ frames := 1, cells := 0, slots := 0, locals := 21 } : Room) D cl_v (kt kI kB kC kL) kE [.ref t0, .int (nI d)] (wTxt kI kC t0 t1 w0 w1 w2 w3 n (T).length ch les oth soc) (fun w => ∃ c2 : Nat → Int32, w = wTxt kI kC t0 t1 w0 w1 w2 w3 n (T ++ [48 + d]).length c2 les oth soc ∧ txOk (T ++ [48 + d]) c2) 0 0 := by
  refine kw_ofV (cc := cd_T_putDigit) (maxL := 2) (by decide) rfl (Nat.le_of_ble_eq_true rfl) rfl ?_
  intro pp ee s m args below meth c A X hr hlk hE hnm
  refine kw_aload_n X dc_T_putDigit_0 rfl rfl ?_
  refine kw_bipush (v := (nI 48)) X dc_T_putDigit_1 (by decide) ?_
  refine kw_iload_n X dc_T_putDigit_3 rfl rfl ?_
  refine kw_iadd (v := nI (48 + d)) X dc_T_putDigit_4 (nI_add 48 d) ?_
  refine kw_i2c (v := nI (48 + d)) X dc_T_putDigit_5 (by rw [pk_char, pk_tn (by omega), Nat.mod_eq_of_lt (by omega)]) ?_
  refine kw_callVV X kEw hE 0 rfl rfl (ct_put t0 t1 w0 w1 w2 w3 n T ch les oth soc hx hl (48 + d) (by omega)) (cw_V 1 X wd_241 wd_243 wp_4 wd_7 wd_244 rfl rfl (by decide +kernel) ⟨Nat.le_of_ble_eq_true rfl, Nat.le_of_ble_eq_true rfl⟩) [0, 1, 2, 3, 4, 5] rfl (by decide) (fun _ h => by obtain ⟨g, rfl, _⟩ := h; exact Nat.le_refl _) rfl rfl (Nat.le_of_ble_eq_true rfl) dc_T_putDigit_6 ⟨Nat.zero_le _, Nat.zero_le _⟩ (fun w hp => ?_)
  obtain ⟨c2, rfl, hx2⟩ := hp
  refine kw_cv (ws' := wTxt kI kC t0 t1 w0 w1 w2 w3 n (T ++ [48 + d]).length c2 les oth soc) rfl rfl rfl ?_
  exact kw_vret X hr hlk dc_T_putDigit_9 ⟨c2, rfl, hx2⟩
set_option maxRecDepth 100000 in
set_option maxHeartbeats 4000000 in
theorem ct_putString {l : Launch} {D : va_G} {kI kB kC kL : ClassId} (t0 t1 w0 w1 w2 w3 n : Nat) (T : List Nat) (ch les oth soc : Nat → Int32) (lo hi : Nat → Nat) (ok : webOk lo hi n les oth soc) (hx : txOk T ch) (hl : T.length + 7 ≤ 84) (i : Nat) (hi1 : i < n) : kw_V l mn_T_putString (gw mn_T_putString cd_T_putString 2 none) ({ frames := 2, cells := 0, slots := 0, locals := 42 } : Room) D cl_v (kt kI kB kC kL) kE [.ref t0, .int (nI i)] (wTxt kI kC t0 t1 w0 w1 w2 w3 n (T).length ch les oth soc) (fun w => ∃ c2 : Nat → Int32, w = wTxt kI kC t0 t1 w0 w1 w2 w3 n (T ++ gm_str lo hi i).length c2 les oth soc ∧ txOk (T ++ gm_str lo hi i) c2) 0 0 := by
  refine kw_ofV (cc := cd_T_putString) (maxL := 2) (by decide) rfl (Nat.le_of_ble_eq_true rfl) rfl ?_
  intro pp ee s m args below meth c A X hr hlk hE hnm
  have hn := ok.1.1
  obtain ⟨o1, o2, o3⟩ := ok.1.2 i hi1
  obtain ⟨e1, e2⟩ := ok.2.1 i hi1
  refine kw_iload_n X dc_T_putString_0 rfl rfl ?_
  refine kw_bipush (v := (nI 10)) X dc_T_putString_1 (by decide) ?_
  refine kw_icmp_lt (tgt := 14) X dc_T_putString_3 (by decide) (fun hc3 => ?_) (fun hc3 => ?_)
  · have h3 := kq_lt hc3
    obtain ⟨T1, c1, hT1, x1, q1⟩ : ∃ (T1 : List Nat) (c1 : Nat → Int32), T1 = T ++ (if 9 < i then [49] else []) ∧ txOk T1 c1 ∧ wTxt kI kC t0 t1 w0 w1 w2 w3 n (T).length ch les oth soc = wTxt kI kC t0 t1 w0 w1 w2 w3 n (T1).length c1 les oth soc := ⟨T, ch, by rw [if_neg (by omega), List.append_nil], hx, rfl⟩
    refine kw_cv (ws' := wTxt kI kC t0 t1 w0 w1 w2 w3 n (T1).length c1 les oth soc) q1 rfl rfl ?_
    have l1 : T1.length ≤ T.length + 1 := by rw [hT1, List.length_append]; split <;> simp
    refine kw_aload_n X dc_T_putString_14 rfl rfl ?_
    refine kw_iload_n X dc_T_putString_15 rfl rfl ?_
    refine kw_bipush (v := (nI 10)) X dc_T_putString_16 (by decide) ?_
    refine kw_irem (v := nI (i % 10)) X dc_T_putString_18 (by decide) (pk_rem (d := 10) (by omega) (by omega) (by omega)) ?_
    refine kw_callVV X kEw hE 0 rfl rfl (ct_putDigit t0 t1 w0 w1 w2 w3 n T1 c1 les oth soc x1 (by omega) (i % 10) (by omega)) (cw_V 1 X wd_237 wd_239 wp_3 wd_7 wd_240 rfl rfl (by decide +kernel) ⟨Nat.le_of_ble_eq_true rfl, Nat.le_of_ble_eq_true rfl⟩) [0, 1, 2, 3, 4, 5] rfl (by decide) (fun _ h => by obtain ⟨g, rfl, _⟩ := h; exact Nat.le_refl _) rfl rfl (Nat.le_of_ble_eq_true rfl) dc_T_putString_19 ⟨Nat.zero_le _, Nat.zero_le _⟩ (fun w hp => ?_)
    obtain ⟨c2, rfl, x2⟩ := hp
    refine kw_cv (ws' := wTxt kI kC t0 t1 w0 w1 w2 w3 n (T1 ++ [48 + i % 10]).length c2 les oth soc) rfl rfl rfl ?_
    obtain ⟨T2, hT2⟩ : ∃ z, z = T1 ++ [48 + i % 10] := ⟨_, rfl⟩
    rw [← hT2] at x2
    refine kw_cv (ws' := wTxt kI kC t0 t1 w0 w1 w2 w3 n (T2).length c2 les oth soc) (by rw [hT2]) rfl rfl ?_
    have l2 : T2.length = T1.length + 1 := by rw [hT2]; simp
    refine kw_aload_n X dc_T_putString_22 rfl rfl ?_
    refine kw_bipush (v := (nI 58)) X dc_T_putString_23 (by decide) ?_
    refine kw_callVV X kEw hE 0 rfl rfl (ct_put t0 t1 w0 w1 w2 w3 n T2 c2 les oth soc x2 (by omega) (58) (by omega)) (cw_V 1 X wd_241 wd_243 wp_4 wd_7 wd_244 rfl rfl (by decide +kernel) ⟨Nat.le_of_ble_eq_true rfl, Nat.le_of_ble_eq_true rfl⟩) [0, 1, 2, 3, 4, 5] rfl (by decide) (fun _ h => by obtain ⟨g, rfl, _⟩ := h; exact Nat.le_refl _) rfl rfl (Nat.le_of_ble_eq_true rfl) dc_T_putString_25 ⟨Nat.zero_le _, Nat.zero_le _⟩ (fun w hp => ?_)
    obtain ⟨c3, rfl, x3⟩ := hp
    refine kw_cv (ws' := wTxt kI kC t0 t1 w0 w1 w2 w3 n (T2 ++ [58]).length c3 les oth soc) rfl rfl rfl ?_
    obtain ⟨T3, hT3⟩ : ∃ z, z = T2 ++ [58] := ⟨_, rfl⟩
    rw [← hT3] at x3
    refine kw_cv (ws' := wTxt kI kC t0 t1 w0 w1 w2 w3 n (T3).length c3 les oth soc) (by rw [hT3]) rfl rfl ?_
    have l3 : T3.length = T2.length + 1 := by rw [hT3]; simp
    refine kw_aload_n X dc_T_putString_28 rfl rfl ?_
    refine kw_aload_n X dc_T_putString_29 rfl rfl ?_
    refine kw_get X (wc_T _) 0 rfl rfl 0 (by decide) (gq wd_104) (fun _ h => h) rfl dc_T_putString_30 ?_
    refine kw_iload_n X dc_T_putString_33 rfl rfl ?_
    refine kw_callVI X kEw hE 0 rfl rfl (ct_lesser w0 w1 w2 w3 n les oth soc i (by omega)) (cw_V 1 X wd_245 wd_198 wd_199 wd_2 wd_200 rfl rfl (by decide +kernel) ⟨Nat.le_of_ble_eq_true rfl, Nat.le_of_ble_eq_true rfl⟩) [2, 3, 4, 5] rfl (by decide) (fun _ _ h => by obtain ⟨rfl, _⟩ := h; exact Nat.le_refl _) rfl rfl (Nat.le_of_ble_eq_true rfl) dc_T_putString_34 ⟨Nat.zero_le _, Nat.zero_le _⟩ (fun r w hp => ?_)
    obtain ⟨rfl, rfl⟩ := hp
    refine kw_cv (ws' := wTxt kI kC t0 t1 w0 w1 w2 w3 n (T3).length c3 les oth soc) rfl rfl rfl ?_
    refine kw_top (y := nI (lo i)) e1 ?_
    refine kw_callVV X kEw hE 0 rfl rfl (ct_putDigit t0 t1 w0 w1 w2 w3 n T3 c3 les oth soc x3 (by omega) (lo i) (by omega)) (cw_V 1 X wd_237 wd_239 wp_3 wd_7 wd_240 rfl rfl (by decide +kernel) ⟨Nat.le_of_ble_eq_true rfl, Nat.le_of_ble_eq_true rfl⟩) [0, 1, 2, 3, 4, 5] rfl (by decide) (fun _ h => by obtain ⟨g, rfl, _⟩ := h; exact Nat.le_refl _) rfl rfl (Nat.le_of_ble_eq_true rfl) dc_T_putString_37 ⟨Nat.zero_le _, Nat.zero_le _⟩ (fun w hp => ?_)
    obtain ⟨c4, rfl, x4⟩ := hp
    refine kw_cv (ws' := wTxt kI kC t0 t1 w0 w1 w2 w3 n (T3 ++ [48 + lo i]).length c4 les oth soc) rfl rfl rfl ?_
    obtain ⟨T4, hT4⟩ : ∃ z, z = T3 ++ [48 + lo i] := ⟨_, rfl⟩
    rw [← hT4] at x4
    refine kw_cv (ws' := wTxt kI kC t0 t1 w0 w1 w2 w3 n (T4).length c4 les oth soc) (by rw [hT4]) rfl rfl ?_
    have l4 : T4.length = T3.length + 1 := by rw [hT4]; simp
    refine kw_aload_n X dc_T_putString_40 rfl rfl ?_
    refine kw_get X (wc_T _) 0 rfl rfl 0 (by decide) (gq wd_104) (fun _ h => h) rfl dc_T_putString_41 ?_
    refine kw_iload_n X dc_T_putString_44 rfl rfl ?_
    refine kw_callVI X kEw hE 0 rfl rfl (ct_other w0 w1 w2 w3 n les oth soc i (by omega)) (cw_V 1 X wd_246 wd_206 wd_207 wd_2 wd_208 rfl rfl (by decide +kernel) ⟨Nat.le_of_ble_eq_true rfl, Nat.le_of_ble_eq_true rfl⟩) [2, 3, 4, 5] rfl (by decide) (fun _ _ h => by obtain ⟨rfl, _⟩ := h; exact Nat.le_refl _) rfl rfl (Nat.le_of_ble_eq_true rfl) dc_T_putString_45 ⟨Nat.zero_le _, Nat.zero_le _⟩ (fun r w hp => ?_)
    obtain ⟨rfl, rfl⟩ := hp
    refine kw_cv (ws' := wTxt kI kC t0 t1 w0 w1 w2 w3 n (T4).length c4 les oth soc) rfl rfl rfl ?_
    refine kw_top (y := og (hi i)) e2 ?_
    refine kw_iconst (v := (-1)) X dc_T_putString_48 (by decide) ?_
    refine kw_icmp_ne (tgt := 61) X dc_T_putString_49 (by decide) (fun hc49 => ?_) (fun hc49 => ?_)
    · have h49 : hi i < 8 := by
        have h8 : hi i ≠ 8 := fun z => hc49 ((og_m1 o2).mpr z)
        omega
      refine kw_aload_n X dc_T_putString_61 rfl rfl ?_
      refine kw_bipush (v := (nI 45)) X dc_T_putString_62 (by decide) ?_
      refine kw_callVV X kEw hE 0 rfl rfl (ct_put t0 t1 w0 w1 w2 w3 n T4 c4 les oth soc x4 (by omega) (45) (by omega)) (cw_V 1 X wd_241 wd_243 wp_4 wd_7 wd_244 rfl rfl (by decide +kernel) ⟨Nat.le_of_ble_eq_true rfl, Nat.le_of_ble_eq_true rfl⟩) [0, 1, 2, 3, 4, 5] rfl (by decide) (fun _ h => by obtain ⟨g, rfl, _⟩ := h; exact Nat.le_refl _) rfl rfl (Nat.le_of_ble_eq_true rfl) dc_T_putString_64 ⟨Nat.zero_le _, Nat.zero_le _⟩ (fun w hp => ?_)
      obtain ⟨c5, rfl, x5⟩ := hp
      refine kw_cv (ws' := wTxt kI kC t0 t1 w0 w1 w2 w3 n (T4 ++ [45]).length c5 les oth soc) rfl rfl rfl ?_
      obtain ⟨T5, hT5⟩ : ∃ z, z = T4 ++ [45] := ⟨_, rfl⟩
      rw [← hT5] at x5
      refine kw_cv (ws' := wTxt kI kC t0 t1 w0 w1 w2 w3 n (T5).length c5 les oth soc) (by rw [hT5]) rfl rfl ?_
      have l5 : T5.length = T4.length + 1 := by rw [hT5]; simp
      refine kw_aload_n X dc_T_putString_67 rfl rfl ?_
      refine kw_aload_n X dc_T_putString_68 rfl rfl ?_
      refine kw_get X (wc_T _) 0 rfl rfl 0 (by decide) (gq wd_104) (fun _ h => h) rfl dc_T_putString_69 ?_
      refine kw_iload_n X dc_T_putString_72 rfl rfl ?_
      refine kw_callVI X kEw hE 0 rfl rfl (ct_other w0 w1 w2 w3 n les oth soc i (by omega)) (cw_V 1 X wd_246 wd_206 wd_207 wd_2 wd_208 rfl rfl (by decide +kernel) ⟨Nat.le_of_ble_eq_true rfl, Nat.le_of_ble_eq_true rfl⟩) [2, 3, 4, 5] rfl (by decide) (fun _ _ h => by obtain ⟨rfl, _⟩ := h; exact Nat.le_refl _) rfl rfl (Nat.le_of_ble_eq_true rfl) dc_T_putString_73 ⟨Nat.zero_le _, Nat.zero_le _⟩ (fun r w hp => ?_)
      obtain ⟨rfl, rfl⟩ := hp
      refine kw_cv (ws' := wTxt kI kC t0 t1 w0 w1 w2 w3 n (T5).length c5 les oth soc) rfl rfl rfl ?_
      refine kw_top (y := nI (hi i)) (e2.trans (og_lt h49)) ?_
      refine kw_callVV X kEw hE 0 rfl rfl (ct_putDigit t0 t1 w0 w1 w2 w3 n T5 c5 les oth soc x5 (by omega) (hi i) (by omega)) (cw_V 1 X wd_237 wd_239 wp_3 wd_7 wd_240 rfl rfl (by decide +kernel) ⟨Nat.le_of_ble_eq_true rfl, Nat.le_of_ble_eq_true rfl⟩) [0, 1, 2, 3, 4, 5] rfl (by decide) (fun _ h => by obtain ⟨g, rfl, _⟩ := h; exact Nat.le_refl _) rfl rfl (Nat.le_of_ble_eq_true rfl) dc_T_putString_76 ⟨Nat.zero_le _, Nat.zero_le _⟩ (fun w hp => ?_)
      obtain ⟨c6, rfl, x6⟩ := hp
      refine kw_cv (ws' := wTxt kI kC t0 t1 w0 w1 w2 w3 n (T5 ++ [48 + hi i]).length c6 les oth soc) rfl rfl rfl ?_
      obtain ⟨T6, hT6⟩ : ∃ z, z = T5 ++ [48 + hi i] := ⟨_, rfl⟩
      rw [← hT6] at x6
      refine kw_cv (ws' := wTxt kI kC t0 t1 w0 w1 w2 w3 n (T6).length c6 les oth soc) (by rw [hT6]) rfl rfl ?_
      have l6 : T6.length = T5.length + 1 := by rw [hT6]; simp
      refine kw_aload_n X dc_T_putString_79 rfl rfl ?_
      refine kw_bipush (v := (nI 59)) X dc_T_putString_80 (by decide) ?_
      refine kw_callVV X kEw hE 0 rfl rfl (ct_put t0 t1 w0 w1 w2 w3 n T6 c6 les oth soc x6 (by omega) (59) (by omega)) (cw_V 1 X wd_241 wd_243 wp_4 wd_7 wd_244 rfl rfl (by decide +kernel) ⟨Nat.le_of_ble_eq_true rfl, Nat.le_of_ble_eq_true rfl⟩) [0, 1, 2, 3, 4, 5] rfl (by decide) (fun _ h => by obtain ⟨g, rfl, _⟩ := h; exact Nat.le_refl _) rfl rfl (Nat.le_of_ble_eq_true rfl) dc_T_putString_82 ⟨Nat.zero_le _, Nat.zero_le _⟩ (fun w hp => ?_)
      obtain ⟨c7, rfl, x7⟩ := hp
      refine kw_cv (ws' := wTxt kI kC t0 t1 w0 w1 w2 w3 n (T6 ++ [59]).length c7 les oth soc) rfl rfl rfl ?_
      obtain ⟨T7, hT7⟩ : ∃ z, z = T6 ++ [59] := ⟨_, rfl⟩
      rw [← hT7] at x7
      refine kw_cv (ws' := wTxt kI kC t0 t1 w0 w1 w2 w3 n (T7).length c7 les oth soc) (by rw [hT7]) rfl rfl ?_
      have l7 : T7.length = T6.length + 1 := by rw [hT7]; simp
      have hfin : T7 = T ++ gm_str lo hi i := by
        unfold gm_str
        first
          | (rw [hT7, hT6, hT5, hT4, hT3, hT2, hT1, if_neg (show ¬ hi i = 8 by omega)]; simp [List.append_assoc])
          | (rw [hT7, hT6, hT4, hT3, hT2, hT1, if_pos h49]; simp [List.append_assoc])
      exact kw_vret X hr hlk dc_T_putString_85 ⟨c7, by rw [hfin], by rw [← hfin]; exact x7⟩
    · have h49 := (og_m1 o2).mp hc49
      refine kw_aload_n X dc_T_putString_52 rfl rfl ?_
      refine kw_bipush (v := (nI 61)) X dc_T_putString_53 (by decide) ?_
      refine kw_callVV X kEw hE 0 rfl rfl (ct_put t0 t1 w0 w1 w2 w3 n T4 c4 les oth soc x4 (by omega) (61) (by omega)) (cw_V 1 X wd_241 wd_243 wp_4 wd_7 wd_244 rfl rfl (by decide +kernel) ⟨Nat.le_of_ble_eq_true rfl, Nat.le_of_ble_eq_true rfl⟩) [0, 1, 2, 3, 4, 5] rfl (by decide) (fun _ h => by obtain ⟨g, rfl, _⟩ := h; exact Nat.le_refl _) rfl rfl (Nat.le_of_ble_eq_true rfl) dc_T_putString_55 ⟨Nat.zero_le _, Nat.zero_le _⟩ (fun w hp => ?_)
      obtain ⟨c6, rfl, x6⟩ := hp
      refine kw_cv (ws' := wTxt kI kC t0 t1 w0 w1 w2 w3 n (T4 ++ [61]).length c6 les oth soc) rfl rfl rfl ?_
      obtain ⟨T6, hT6⟩ : ∃ z, z = T4 ++ [61] := ⟨_, rfl⟩
      rw [← hT6] at x6
      refine kw_cv (ws' := wTxt kI kC t0 t1 w0 w1 w2 w3 n (T6).length c6 les oth soc) (by rw [hT6]) rfl rfl ?_
      have l6 : T6.length = T4.length + 1 := by rw [hT6]; simp
      refine kw_goto (tgt := 79) X dc_T_putString_58 (by decide) ?_
      refine kw_aload_n X dc_T_putString_79 rfl rfl ?_
      refine kw_bipush (v := (nI 59)) X dc_T_putString_80 (by decide) ?_
      refine kw_callVV X kEw hE 0 rfl rfl (ct_put t0 t1 w0 w1 w2 w3 n T6 c6 les oth soc x6 (by omega) (59) (by omega)) (cw_V 1 X wd_241 wd_243 wp_4 wd_7 wd_244 rfl rfl (by decide +kernel) ⟨Nat.le_of_ble_eq_true rfl, Nat.le_of_ble_eq_true rfl⟩) [0, 1, 2, 3, 4, 5] rfl (by decide) (fun _ h => by obtain ⟨g, rfl, _⟩ := h; exact Nat.le_refl _) rfl rfl (Nat.le_of_ble_eq_true rfl) dc_T_putString_82 ⟨Nat.zero_le _, Nat.zero_le _⟩ (fun w hp => ?_)
      obtain ⟨c7, rfl, x7⟩ := hp
      refine kw_cv (ws' := wTxt kI kC t0 t1 w0 w1 w2 w3 n (T6 ++ [59]).length c7 les oth soc) rfl rfl rfl ?_
      obtain ⟨T7, hT7⟩ : ∃ z, z = T6 ++ [59] := ⟨_, rfl⟩
      rw [← hT7] at x7
      refine kw_cv (ws' := wTxt kI kC t0 t1 w0 w1 w2 w3 n (T7).length c7 les oth soc) (by rw [hT7]) rfl rfl ?_
      have l7 : T7.length = T6.length + 1 := by rw [hT7]; simp
      have hfin : T7 = T ++ gm_str lo hi i := by
        unfold gm_str
        first
          | (rw [hT7, hT6, hT5, hT4, hT3, hT2, hT1, if_neg (show ¬ hi i = 8 by omega)]; simp [List.append_assoc])
          | (rw [hT7, hT6, hT4, hT3, hT2, hT1, if_pos h49]; simp [List.append_assoc])
      exact kw_vret X hr hlk dc_T_putString_85 ⟨c7, by rw [hfin], by rw [← hfin]; exact x7⟩
  · have h3 := kq_nlt hc3
    refine kw_aload_n X dc_T_putString_6 rfl rfl ?_
    refine kw_iload_n X dc_T_putString_7 rfl rfl ?_
    refine kw_bipush (v := (nI 10)) X dc_T_putString_8 (by decide) ?_
    refine kw_idiv (v := nI (i / 10)) X dc_T_putString_10 (by decide) (pk_div (d := 10) (by omega) (by omega) (by omega)) ?_
    refine kw_callVV X kEw hE 0 rfl rfl (ct_putDigit t0 t1 w0 w1 w2 w3 n T ch les oth soc hx (by omega) (i / 10) (by omega)) (cw_V 1 X wd_237 wd_239 wp_3 wd_7 wd_240 rfl rfl (by decide +kernel) ⟨Nat.le_of_ble_eq_true rfl, Nat.le_of_ble_eq_true rfl⟩) [0, 1, 2, 3, 4, 5] rfl (by decide) (fun _ h => by obtain ⟨g, rfl, _⟩ := h; exact Nat.le_refl _) rfl rfl (Nat.le_of_ble_eq_true rfl) dc_T_putString_11 ⟨Nat.zero_le _, Nat.zero_le _⟩ (fun w hp => ?_)
    obtain ⟨c9, rfl, x9⟩ := hp
    refine kw_cv (ws' := wTxt kI kC t0 t1 w0 w1 w2 w3 n (T ++ [48 + i / 10]).length c9 les oth soc) rfl rfl rfl ?_
    obtain ⟨T1, c1, hT1, x1, q1⟩ : ∃ (T1 : List Nat) (c1 : Nat → Int32), T1 = T ++ (if 9 < i then [49] else []) ∧ txOk T1 c1 ∧ wTxt kI kC t0 t1 w0 w1 w2 w3 n (T ++ [48 + i / 10]).length c9 les oth soc = wTxt kI kC t0 t1 w0 w1 w2 w3 n (T1).length c1 les oth soc := ⟨T ++ [48 + i / 10], c9, by rw [if_pos (by omega), show 48 + i / 10 = 49 by omega], x9, rfl⟩
    refine kw_cv (ws' := wTxt kI kC t0 t1 w0 w1 w2 w3 n (T1).length c1 les oth soc) q1 rfl rfl ?_
    have l1 : T1.length ≤ T.length + 1 := by rw [hT1, List.length_append]; split <;> simp
    refine kw_aload_n X dc_T_putString_14 rfl rfl ?_
    refine kw_iload_n X dc_T_putString_15 rfl rfl ?_
    refine kw_bipush (v := (nI 10)) X dc_T_putString_16 (by decide) ?_
    refine kw_irem (v := nI (i % 10)) X dc_T_putString_18 (by decide) (pk_rem (d := 10) (by omega) (by omega) (by omega)) ?_
    refine kw_callVV X kEw hE 0 rfl rfl (ct_putDigit t0 t1 w0 w1 w2 w3 n T1 c1 les oth soc x1 (by omega) (i % 10) (by omega)) (cw_V 1 X wd_237 wd_239 wp_3 wd_7 wd_240 rfl rfl (by decide +kernel) ⟨Nat.le_of_ble_eq_true rfl, Nat.le_of_ble_eq_true rfl⟩) [0, 1, 2, 3, 4, 5] rfl (by decide) (fun _ h => by obtain ⟨g, rfl, _⟩ := h; exact Nat.le_refl _) rfl rfl (Nat.le_of_ble_eq_true rfl) dc_T_putString_19 ⟨Nat.zero_le _, Nat.zero_le _⟩ (fun w hp => ?_)
    obtain ⟨c2, rfl, x2⟩ := hp
    refine kw_cv (ws' := wTxt kI kC t0 t1 w0 w1 w2 w3 n (T1 ++ [48 + i % 10]).length c2 les oth soc) rfl rfl rfl ?_
    obtain ⟨T2, hT2⟩ : ∃ z, z = T1 ++ [48 + i % 10] := ⟨_, rfl⟩
    rw [← hT2] at x2
    refine kw_cv (ws' := wTxt kI kC t0 t1 w0 w1 w2 w3 n (T2).length c2 les oth soc) (by rw [hT2]) rfl rfl ?_
    have l2 : T2.length = T1.length + 1 := by rw [hT2]; simp
    refine kw_aload_n X dc_T_putString_22 rfl rfl ?_
    refine kw_bipush (v := (nI 58)) X dc_T_putString_23 (by decide) ?_
    refine kw_callVV X kEw hE 0 rfl rfl (ct_put t0 t1 w0 w1 w2 w3 n T2 c2 les oth soc x2 (by omega) (58) (by omega)) (cw_V 1 X wd_241 wd_243 wp_4 wd_7 wd_244 rfl rfl (by decide +kernel) ⟨Nat.le_of_ble_eq_true rfl, Nat.le_of_ble_eq_true rfl⟩) [0, 1, 2, 3, 4, 5] rfl (by decide) (fun _ h => by obtain ⟨g, rfl, _⟩ := h; exact Nat.le_refl _) rfl rfl (Nat.le_of_ble_eq_true rfl) dc_T_putString_25 ⟨Nat.zero_le _, Nat.zero_le _⟩ (fun w hp => ?_)
    obtain ⟨c3, rfl, x3⟩ := hp
    refine kw_cv (ws' := wTxt kI kC t0 t1 w0 w1 w2 w3 n (T2 ++ [58]).length c3 les oth soc) rfl rfl rfl ?_
    obtain ⟨T3, hT3⟩ : ∃ z, z = T2 ++ [58] := ⟨_, rfl⟩
    rw [← hT3] at x3
    refine kw_cv (ws' := wTxt kI kC t0 t1 w0 w1 w2 w3 n (T3).length c3 les oth soc) (by rw [hT3]) rfl rfl ?_
    have l3 : T3.length = T2.length + 1 := by rw [hT3]; simp
    refine kw_aload_n X dc_T_putString_28 rfl rfl ?_
    refine kw_aload_n X dc_T_putString_29 rfl rfl ?_
    refine kw_get X (wc_T _) 0 rfl rfl 0 (by decide) (gq wd_104) (fun _ h => h) rfl dc_T_putString_30 ?_
    refine kw_iload_n X dc_T_putString_33 rfl rfl ?_
    refine kw_callVI X kEw hE 0 rfl rfl (ct_lesser w0 w1 w2 w3 n les oth soc i (by omega)) (cw_V 1 X wd_245 wd_198 wd_199 wd_2 wd_200 rfl rfl (by decide +kernel) ⟨Nat.le_of_ble_eq_true rfl, Nat.le_of_ble_eq_true rfl⟩) [2, 3, 4, 5] rfl (by decide) (fun _ _ h => by obtain ⟨rfl, _⟩ := h; exact Nat.le_refl _) rfl rfl (Nat.le_of_ble_eq_true rfl) dc_T_putString_34 ⟨Nat.zero_le _, Nat.zero_le _⟩ (fun r w hp => ?_)
    obtain ⟨rfl, rfl⟩ := hp
    refine kw_cv (ws' := wTxt kI kC t0 t1 w0 w1 w2 w3 n (T3).length c3 les oth soc) rfl rfl rfl ?_
    refine kw_top (y := nI (lo i)) e1 ?_
    refine kw_callVV X kEw hE 0 rfl rfl (ct_putDigit t0 t1 w0 w1 w2 w3 n T3 c3 les oth soc x3 (by omega) (lo i) (by omega)) (cw_V 1 X wd_237 wd_239 wp_3 wd_7 wd_240 rfl rfl (by decide +kernel) ⟨Nat.le_of_ble_eq_true rfl, Nat.le_of_ble_eq_true rfl⟩) [0, 1, 2, 3, 4, 5] rfl (by decide) (fun _ h => by obtain ⟨g, rfl, _⟩ := h; exact Nat.le_refl _) rfl rfl (Nat.le_of_ble_eq_true rfl) dc_T_putString_37 ⟨Nat.zero_le _, Nat.zero_le _⟩ (fun w hp => ?_)
    obtain ⟨c4, rfl, x4⟩ := hp
    refine kw_cv (ws' := wTxt kI kC t0 t1 w0 w1 w2 w3 n (T3 ++ [48 + lo i]).length c4 les oth soc) rfl rfl rfl ?_
    obtain ⟨T4, hT4⟩ : ∃ z, z = T3 ++ [48 + lo i] := ⟨_, rfl⟩
    rw [← hT4] at x4
    refine kw_cv (ws' := wTxt kI kC t0 t1 w0 w1 w2 w3 n (T4).length c4 les oth soc) (by rw [hT4]) rfl rfl ?_
    have l4 : T4.length = T3.length + 1 := by rw [hT4]; simp
    refine kw_aload_n X dc_T_putString_40 rfl rfl ?_
    refine kw_get X (wc_T _) 0 rfl rfl 0 (by decide) (gq wd_104) (fun _ h => h) rfl dc_T_putString_41 ?_
    refine kw_iload_n X dc_T_putString_44 rfl rfl ?_
    refine kw_callVI X kEw hE 0 rfl rfl (ct_other w0 w1 w2 w3 n les oth soc i (by omega)) (cw_V 1 X wd_246 wd_206 wd_207 wd_2 wd_208 rfl rfl (by decide +kernel) ⟨Nat.le_of_ble_eq_true rfl, Nat.le_of_ble_eq_true rfl⟩) [2, 3, 4, 5] rfl (by decide) (fun _ _ h => by obtain ⟨rfl, _⟩ := h; exact Nat.le_refl _) rfl rfl (Nat.le_of_ble_eq_true rfl) dc_T_putString_45 ⟨Nat.zero_le _, Nat.zero_le _⟩ (fun r w hp => ?_)
    obtain ⟨rfl, rfl⟩ := hp
    refine kw_cv (ws' := wTxt kI kC t0 t1 w0 w1 w2 w3 n (T4).length c4 les oth soc) rfl rfl rfl ?_
    refine kw_top (y := og (hi i)) e2 ?_
    refine kw_iconst (v := (-1)) X dc_T_putString_48 (by decide) ?_
    refine kw_icmp_ne (tgt := 61) X dc_T_putString_49 (by decide) (fun hc49 => ?_) (fun hc49 => ?_)
    · have h49 : hi i < 8 := by
        have h8 : hi i ≠ 8 := fun z => hc49 ((og_m1 o2).mpr z)
        omega
      refine kw_aload_n X dc_T_putString_61 rfl rfl ?_
      refine kw_bipush (v := (nI 45)) X dc_T_putString_62 (by decide) ?_
      refine kw_callVV X kEw hE 0 rfl rfl (ct_put t0 t1 w0 w1 w2 w3 n T4 c4 les oth soc x4 (by omega) (45) (by omega)) (cw_V 1 X wd_241 wd_243 wp_4 wd_7 wd_244 rfl rfl (by decide +kernel) ⟨Nat.le_of_ble_eq_true rfl, Nat.le_of_ble_eq_true rfl⟩) [0, 1, 2, 3, 4, 5] rfl (by decide) (fun _ h => by obtain ⟨g, rfl, _⟩ := h; exact Nat.le_refl _) rfl rfl (Nat.le_of_ble_eq_true rfl) dc_T_putString_64 ⟨Nat.zero_le _, Nat.zero_le _⟩ (fun w hp => ?_)
      obtain ⟨c5, rfl, x5⟩ := hp
      refine kw_cv (ws' := wTxt kI kC t0 t1 w0 w1 w2 w3 n (T4 ++ [45]).length c5 les oth soc) rfl rfl rfl ?_
      obtain ⟨T5, hT5⟩ : ∃ z, z = T4 ++ [45] := ⟨_, rfl⟩
      rw [← hT5] at x5
      refine kw_cv (ws' := wTxt kI kC t0 t1 w0 w1 w2 w3 n (T5).length c5 les oth soc) (by rw [hT5]) rfl rfl ?_
      have l5 : T5.length = T4.length + 1 := by rw [hT5]; simp
      refine kw_aload_n X dc_T_putString_67 rfl rfl ?_
      refine kw_aload_n X dc_T_putString_68 rfl rfl ?_
      refine kw_get X (wc_T _) 0 rfl rfl 0 (by decide) (gq wd_104) (fun _ h => h) rfl dc_T_putString_69 ?_
      refine kw_iload_n X dc_T_putString_72 rfl rfl ?_
      refine kw_callVI X kEw hE 0 rfl rfl (ct_other w0 w1 w2 w3 n les oth soc i (by omega)) (cw_V 1 X wd_246 wd_206 wd_207 wd_2 wd_208 rfl rfl (by decide +kernel) ⟨Nat.le_of_ble_eq_true rfl, Nat.le_of_ble_eq_true rfl⟩) [2, 3, 4, 5] rfl (by decide) (fun _ _ h => by obtain ⟨rfl, _⟩ := h; exact Nat.le_refl _) rfl rfl (Nat.le_of_ble_eq_true rfl) dc_T_putString_73 ⟨Nat.zero_le _, Nat.zero_le _⟩ (fun r w hp => ?_)
      obtain ⟨rfl, rfl⟩ := hp
      refine kw_cv (ws' := wTxt kI kC t0 t1 w0 w1 w2 w3 n (T5).length c5 les oth soc) rfl rfl rfl ?_
      refine kw_top (y := nI (hi i)) (e2.trans (og_lt h49)) ?_
      refine kw_callVV X kEw hE 0 rfl rfl (ct_putDigit t0 t1 w0 w1 w2 w3 n T5 c5 les oth soc x5 (by omega) (hi i) (by omega)) (cw_V 1 X wd_237 wd_239 wp_3 wd_7 wd_240 rfl rfl (by decide +kernel) ⟨Nat.le_of_ble_eq_true rfl, Nat.le_of_ble_eq_true rfl⟩) [0, 1, 2, 3, 4, 5] rfl (by decide) (fun _ h => by obtain ⟨g, rfl, _⟩ := h; exact Nat.le_refl _) rfl rfl (Nat.le_of_ble_eq_true rfl) dc_T_putString_76 ⟨Nat.zero_le _, Nat.zero_le _⟩ (fun w hp => ?_)
      obtain ⟨c6, rfl, x6⟩ := hp
      refine kw_cv (ws' := wTxt kI kC t0 t1 w0 w1 w2 w3 n (T5 ++ [48 + hi i]).length c6 les oth soc) rfl rfl rfl ?_
      obtain ⟨T6, hT6⟩ : ∃ z, z = T5 ++ [48 + hi i] := ⟨_, rfl⟩
      rw [← hT6] at x6
      refine kw_cv (ws' := wTxt kI kC t0 t1 w0 w1 w2 w3 n (T6).length c6 les oth soc) (by rw [hT6]) rfl rfl ?_
      have l6 : T6.length = T5.length + 1 := by rw [hT6]; simp
      refine kw_aload_n X dc_T_putString_79 rfl rfl ?_
      refine kw_bipush (v := (nI 59)) X dc_T_putString_80 (by decide) ?_
      refine kw_callVV X kEw hE 0 rfl rfl (ct_put t0 t1 w0 w1 w2 w3 n T6 c6 les oth soc x6 (by omega) (59) (by omega)) (cw_V 1 X wd_241 wd_243 wp_4 wd_7 wd_244 rfl rfl (by decide +kernel) ⟨Nat.le_of_ble_eq_true rfl, Nat.le_of_ble_eq_true rfl⟩) [0, 1, 2, 3, 4, 5] rfl (by decide) (fun _ h => by obtain ⟨g, rfl, _⟩ := h; exact Nat.le_refl _) rfl rfl (Nat.le_of_ble_eq_true rfl) dc_T_putString_82 ⟨Nat.zero_le _, Nat.zero_le _⟩ (fun w hp => ?_)
      obtain ⟨c7, rfl, x7⟩ := hp
      refine kw_cv (ws' := wTxt kI kC t0 t1 w0 w1 w2 w3 n (T6 ++ [59]).length c7 les oth soc) rfl rfl rfl ?_
      obtain ⟨T7, hT7⟩ : ∃ z, z = T6 ++ [59] := ⟨_, rfl⟩
      rw [← hT7] at x7
      refine kw_cv (ws' := wTxt kI kC t0 t1 w0 w1 w2 w3 n (T7).length c7 les oth soc) (by rw [hT7]) rfl rfl ?_
      have l7 : T7.length = T6.length + 1 := by rw [hT7]; simp
      have hfin : T7 = T ++ gm_str lo hi i := by
        unfold gm_str
        first
          | (rw [hT7, hT6, hT5, hT4, hT3, hT2, hT1, if_neg (show ¬ hi i = 8 by omega)]; simp [List.append_assoc])
          | (rw [hT7, hT6, hT4, hT3, hT2, hT1, if_pos h49]; simp [List.append_assoc])
      exact kw_vret X hr hlk dc_T_putString_85 ⟨c7, by rw [hfin], by rw [← hfin]; exact x7⟩
    · have h49 := (og_m1 o2).mp hc49
      refine kw_aload_n X dc_T_putString_52 rfl rfl ?_
      refine kw_bipush (v := (nI 61)) X dc_T_putString_53 (by decide) ?_
      refine kw_callVV X kEw hE 0 rfl rfl (ct_put t0 t1 w0 w1 w2 w3 n T4 c4 les oth soc x4 (by omega) (61) (by omega)) (cw_V 1 X wd_241 wd_243 wp_4 wd_7 wd_244 rfl rfl (by decide +kernel) ⟨Nat.le_of_ble_eq_true rfl, Nat.le_of_ble_eq_true rfl⟩) [0, 1, 2, 3, 4, 5] rfl (by decide) (fun _ h => by obtain ⟨g, rfl, _⟩ := h; exact Nat.le_refl _) rfl rfl (Nat.le_of_ble_eq_true rfl) dc_T_putString_55 ⟨Nat.zero_le _, Nat.zero_le _⟩ (fun w hp => ?_)
      obtain ⟨c6, rfl, x6⟩ := hp
      refine kw_cv (ws' := wTxt kI kC t0 t1 w0 w1 w2 w3 n (T4 ++ [61]).length c6 les oth soc) rfl rfl rfl ?_
      obtain ⟨T6, hT6⟩ : ∃ z, z = T4 ++ [61] := ⟨_, rfl⟩
      rw [← hT6] at x6
      refine kw_cv (ws' := wTxt kI kC t0 t1 w0 w1 w2 w3 n (T6).length c6 les oth soc) (by rw [hT6]) rfl rfl ?_
      have l6 : T6.length = T4.length + 1 := by rw [hT6]; simp
      refine kw_goto (tgt := 79) X dc_T_putString_58 (by decide) ?_
      refine kw_aload_n X dc_T_putString_79 rfl rfl ?_
      refine kw_bipush (v := (nI 59)) X dc_T_putString_80 (by decide) ?_
      refine kw_callVV X kEw hE 0 rfl rfl (ct_put t0 t1 w0 w1 w2 w3 n T6 c6 les oth soc x6 (by omega) (59) (by omega)) (cw_V 1 X wd_241 wd_243 wp_4 wd_7 wd_244 rfl rfl (by decide +kernel) ⟨Nat.le_of_ble_eq_true rfl, Nat.le_of_ble_eq_true rfl⟩) [0, 1, 2, 3, 4, 5] rfl (by decide) (fun _ h => by obtain ⟨g, rfl, _⟩ := h; exact Nat.le_refl _) rfl rfl (Nat.le_of_ble_eq_true rfl) dc_T_putString_82 ⟨Nat.zero_le _, Nat.zero_le _⟩ (fun w hp => ?_)
      obtain ⟨c7, rfl, x7⟩ := hp
      refine kw_cv (ws' := wTxt kI kC t0 t1 w0 w1 w2 w3 n (T6 ++ [59]).length c7 les oth soc) rfl rfl rfl ?_
      obtain ⟨T7, hT7⟩ : ∃ z, z = T6 ++ [59] := ⟨_, rfl⟩
      rw [← hT7] at x7
      refine kw_cv (ws' := wTxt kI kC t0 t1 w0 w1 w2 w3 n (T7).length c7 les oth soc) (by rw [hT7]) rfl rfl ?_
      have l7 : T7.length = T6.length + 1 := by rw [hT7]; simp
      have hfin : T7 = T ++ gm_str lo hi i := by
        unfold gm_str
        first
          | (rw [hT7, hT6, hT5, hT4, hT3, hT2, hT1, if_neg (show ¬ hi i = 8 by omega)]; simp [List.append_assoc])
          | (rw [hT7, hT6, hT4, hT3, hT2, hT1, if_pos h49]; simp [List.append_assoc])
      exact kw_vret X hr hlk dc_T_putString_85 ⟨c7, by rw [hfin], by rw [← hfin]; exact x7⟩
set_option maxRecDepth 100000 in
set_option maxHeartbeats 4000000 in
theorem ct_write {l : Launch} {D : va_G} {kI kB kC kL : ClassId} (t0 t1 w0 w1 w2 w3 n : Nat) (T : List Nat) (ch les oth soc : Nat → Int32) (lo hi : Nat → Nat) (ok : webOk lo hi n les oth soc) (p : Nat) (hp : p < 4096) : kw_V l mn_T_write (gw mn_T_write cd_T_write 3 none) ({ frames := 3, cells := 0, slots := 0, locals := 63 } : Room) D cl_v (kt kI kB kC kL) kE [.ref t0, .int (nI p)] (wTxt kI kC t0 t1 w0 w1 w2 w3 n (T).length ch les oth soc) (fun w => ∃ c2 : Nat → Int32, w = wTxt kI kC t0 t1 w0 w1 w2 w3 n (gm_txt lo hi p n).length c2 les oth soc ∧ txOk (gm_txt lo hi p n) c2) 0 0 := by
  refine kw_ofV (cc := cd_T_write) (maxL := 3) (by decide) rfl (Nat.le_of_ble_eq_true rfl) rfl ?_
  intro pp ee s m args below meth c A X hr hlk hE hnm
  have hn := ok.1.1
  refine kw_aload_n X dc_T_write_0 rfl rfl ?_
  refine kw_iconst (v := (nI 0)) X dc_T_write_1 (by decide) ?_
  refine kw_putf (ty := .int) X (wc_T _) fy_T fk_T fn_T 0 rfl rfl 2 (by decide) (gq wd_106) (fun _ h => h) rfl (by decide +kernel) rfl rfl (Nat.le_of_ble_eq_true rfl) dc_T_write_2 ?_
  refine kw_iconst (v := (nI 0)) X dc_T_write_5 (by decide) ?_
  refine kw_istore_n X dc_T_write_6 rfl (by decide) ?_
  refine kw_loop (α := Nat × (Nat → Int32)) (fun a => a.1 ≤ n ∧ txOk (gm_txt lo hi p a.1) a.2) (fun a => n - a.1) (fun a => wTxt kI kC t0 t1 w0 w1 w2 w3 n (gm_txt lo hi p a.1).length a.2 les oth soc) (fun a => [some (.ref t0), some (.int (nI p)), some (.int (nI a.1))]) (fun _ => []) (0, ch) ⟨Nat.zero_le _, Nat.zero_le _, fun j y h => by cases h⟩ (fun a hI ih => ?_)
  obtain ⟨k, cb⟩ := a
  obtain ⟨hk, hx⟩ := hI
  refine kw_cv (ws' := wTxt kI kC t0 t1 w0 w1 w2 w3 n (gm_txt lo hi p k).length cb les oth soc) rfl rfl rfl ?_
  refine kw_iload_n X dc_T_write_7 rfl rfl ?_
  refine kw_aload_n X dc_T_write_8 rfl rfl ?_
  refine kw_get X (wc_T _) 0 rfl rfl 0 (by decide) (gq wd_104) (fun _ h => h) rfl dc_T_write_9 ?_
  refine kw_callVI X kEw hE 0 rfl rfl (ct_size w0 w1 w2 w3 n les oth soc) (cw_V 0 X wd_231 wd_191 wd_192 wd_2 wd_193 rfl rfl (by decide +kernel) ⟨Nat.le_of_ble_eq_true rfl, Nat.le_of_ble_eq_true rfl⟩) [2, 3, 4, 5] rfl (by decide) (fun _ _ h => by obtain ⟨rfl, _⟩ := h; exact Nat.le_refl _) rfl rfl (Nat.le_of_ble_eq_true rfl) dc_T_write_12 ⟨Nat.zero_le _, Nat.zero_le _⟩ (fun r w hp => ?_)
  obtain ⟨rfl, rfl⟩ := hp
  refine kw_cv (ws' := wTxt kI kC t0 t1 w0 w1 w2 w3 n (gm_txt lo hi p k).length cb les oth soc) rfl rfl rfl ?_
  refine kw_icmp_ge (tgt := 37) X dc_T_write_15 (by decide) (fun hc15 => ?_) (fun hc15 => ?_)
  · have ek : k = n := Nat.le_antisymm hk (kq_le hc15)
    have eT : gm_txt lo hi p n = gm_txt lo hi p k := by rw [ek]
    exact kw_vret X hr hlk dc_T_write_37 ⟨cb, by rw [eT], by rw [eT]; exact hx⟩
  · have hkn : k < n := kq_nle hc15
    have hl7 := gm_txt_le lo hi p k
    refine kw_iload_n X dc_T_write_18 rfl rfl ?_
    refine kw_iload_n X dc_T_write_19 rfl rfl ?_
    refine kw_callSNI X kEw hE (ct_hasN p k (by omega) (by omega)) (cw_SN (host := "CoinStrings") 2 X (hE _ (by decide +kernel)) wd_195 wd_1 wd_196 rfl rfl (by decide +kernel) ⟨Nat.le_of_ble_eq_true rfl, Nat.le_of_ble_eq_true rfl⟩) [] rfl (by decide) (fun _ _ _ => Nat.zero_le _) rfl rfl (Nat.le_of_ble_eq_true rfl) dc_T_write_20 ⟨Nat.zero_le _, Nat.zero_le _⟩ (fun r w hp => ?_)
    obtain ⟨rfl, rfl⟩ := hp
    refine kw_cv (ws' := wTxt kI kC t0 t1 w0 w1 w2 w3 n (gm_txt lo hi p k).length cb les oth soc) rfl rfl rfl ?_
    refine kw_if_eq (tgt := 31) X dc_T_write_23 (by decide) (fun hc23 => ?_) (fun hc23 => ?_)
    · have h23 := kq_z0 hc23
      have e9 : gm_txt lo hi p (k + 1) = gm_txt lo hi p k := if_neg h23
      have hx3 : txOk (gm_txt lo hi p (k + 1)) cb := by
        rw [e9]
        exact hx
      refine kw_cv (ws' := wTxt kI kC t0 t1 w0 w1 w2 w3 n (gm_txt lo hi p (k + 1)).length cb les oth soc) (by rw [e9]) rfl rfl ?_
      refine kw_iinc (v := nI (k + 1)) X dc_T_write_31 rfl (kq_inc k) (by decide) ?_
      refine kw_goto (tgt := 7) X dc_T_write_34 (by decide) ?_
      first | exact ih (k + 1, c2) ⟨hkn, hx2⟩ (by show n - (k + 1) < n - k; omega) | exact ih (k + 1, cb) ⟨hkn, hx3⟩ (by show n - (k + 1) < n - k; omega)
    · have h23 := kq_z1 hc23
      refine kw_aload_n X dc_T_write_26 rfl rfl ?_
      refine kw_iload_n X dc_T_write_27 rfl rfl ?_
      refine kw_callVV X kEw hE 0 rfl rfl (ct_putString t0 t1 w0 w1 w2 w3 n (gm_txt lo hi p k) cb les oth soc lo hi ok hx (by omega) k hkn) (cw_V 1 X wd_233 wd_235 wp_2 wd_7 wd_236 rfl rfl (by decide +kernel) ⟨Nat.le_of_ble_eq_true rfl, Nat.le_of_ble_eq_true rfl⟩) [0, 1, 2, 3, 4, 5] rfl (by decide) (fun _ h => by obtain ⟨g, rfl, _⟩ := h; exact Nat.le_refl _) rfl rfl (Nat.le_of_ble_eq_true rfl) dc_T_write_28 ⟨Nat.zero_le _, Nat.zero_le _⟩ (fun w hp => ?_)
      obtain ⟨c2, rfl, hx1⟩ := hp
      refine kw_cv (ws' := wTxt kI kC t0 t1 w0 w1 w2 w3 n (gm_txt lo hi p k ++ gm_str lo hi k).length c2 les oth soc) rfl rfl rfl ?_
      have e9 : gm_txt lo hi p (k + 1) = gm_txt lo hi p k ++ gm_str lo hi k := if_pos h23
      have hx2 : txOk (gm_txt lo hi p (k + 1)) c2 := by
        rw [e9]
        exact hx1
      refine kw_cv (ws' := wTxt kI kC t0 t1 w0 w1 w2 w3 n (gm_txt lo hi p (k + 1)).length c2 les oth soc) (by rw [e9]) rfl rfl ?_
      refine kw_iinc (v := nI (k + 1)) X dc_T_write_31 rfl (kq_inc k) (by decide) ?_
      refine kw_goto (tgt := 7) X dc_T_write_34 (by decide) ?_
      first | exact ih (k + 1, c2) ⟨hkn, hx2⟩ (by show n - (k + 1) < n - k; omega) | exact ih (k + 1, cb) ⟨hkn, hx3⟩ (by show n - (k + 1) < n - k; omega)
end
section
/-! boards -/
def bd_fit (r c : Nat) : Prop := 1 ≤ r ∧ 1 ≤ c ∧ r ≤ 12 ∧ c ≤ 12 ∧ r * (c + 1) + c * (r + 1) ≤ 12
/-- strings so far, and one more -/
def gm_ad (S : Nat × (Nat → Nat) × (Nat → Nat)) (a b : Nat) : Nat × (Nat → Nat) × (Nat → Nat) := (S.1 + 1, fun i => if i = S.1 then min a b else S.2.1 i, fun i => if i = S.1 then max a b else S.2.2 i)
def gm_ads (S : Nat × (Nat → Nat) × (Nat → Nat)) : List (Nat × Nat) → Nat × (Nat → Nat) × (Nat → Nat)
  | [] => S
  | q :: r => gm_ads (gm_ad S q.1 q.2) r
theorem gm_ads_app (S : Nat × (Nat → Nat) × (Nat → Nat)) (a b : List (Nat × Nat)) : gm_ads S (a ++ b) = gm_ads (gm_ads S a) b := by
  induction a generalizing S with
  | nil => rfl
  | cons q r ih => exact ih _
theorem gm_ads_n (S : Nat × (Nat → Nat) × (Nat → Nat)) (a : List (Nat × Nat)) : (gm_ads S a).1 = S.1 + a.length := by
  induction a generalizing S with
  | nil => rfl
  | cons q r ih =>
    show (gm_ads (gm_ad S q.1 q.2) r).1 = _
    rw [ih]
    show S.1 + 1 + r.length = S.1 + (r.length + 1)
    omega
/-- the strings of a box, in their order -/
def bd_1 (r c k : Nat) : List (Nat × Nat) := if k / c = 0 then [(k, 8)] else []
def bd_2 (c k : Nat) : List (Nat × Nat) := if k % c = 0 then [(k, 8)] else []
def bd_x (c k : Nat) : Nat := if k % c + 1 = c then 8 else k + 1
def bd_y (r c k : Nat) : Nat := if k / c + 1 = r then 8 else k + c
def bd_bx (r c k : Nat) : List (Nat × Nat) := bd_1 r c k ++ bd_2 c k ++ [(k, bd_x c k)] ++ [(k, bd_y r c k)]
def bd_all (r c : Nat) : Nat → List (Nat × Nat)
  | 0 => []
  | k + 1 => bd_all r c k ++ bd_bx r c k
def bd_good (r c k : Nat) : Prop := (bd_all r c k).length + (bd_bx r c k).length ≤ 12 ∧ k < 8 ∧ bd_x c k ≤ 8 ∧ bd_y r c k ≤ 8 ∧ bd_x c k ≠ k ∧ bd_y r c k ≠ k ∧ (k % c + 1 = c ∨ k + 1 < 8) ∧ (k / c + 1 = r ∨ k + c < 8)
def bd_goodB (r c k : Nat) : Bool := decide ((bd_all r c k).length + (bd_bx r c k).length ≤ 12) && (decide (k < 8) && (decide (bd_x c k ≤ 8) && (decide (bd_y r c k ≤ 8) && (decide (bd_x c k ≠ k) && (decide (bd_y r c k ≠ k) && (decide (k % c + 1 = c ∨ k + 1 < 8) && decide (k / c + 1 = r ∨ k + c < 8)))))))
def bd_test (r c k : Nat) : Bool := !(decide (1 ≤ r) && (decide (1 ≤ c) && (decide (r * (c + 1) + c * (r + 1) ≤ 12) && decide (k < r * c)))) || bd_goodB r c k
theorem bd_tab : ∀ r, r < 13 → ∀ c, c < 13 → ∀ k, k < 5 → bd_test r c k = true := by decide +kernel
theorem bd_ok {r c k : Nat} (h : bd_fit r c) (hk : k < r * c) : bd_good r c k := by
  obtain ⟨h1, h2, h3, h4, h5⟩ := h
  have hrc : r * c ≤ 5 := by
    have e1 : r * (c + 1) = r * c + r := Nat.mul_succ r c
    have e2 : c * (r + 1) = c * r + c := Nat.mul_succ c r
    have e3 : c * r = r * c := Nat.mul_comm c r
    omega
  have ht := bd_tab r (by omega) c (by omega) k (by omega)
  unfold bd_test at ht
  rw [decide_eq_true h1, decide_eq_true h2, decide_eq_true h5, decide_eq_true hk] at ht
  simp only [Bool.and_self, Bool.not_true, Bool.false_or] at ht
  unfold bd_goodB at ht
  simp only [Bool.and_eq_true, decide_eq_true_eq] at ht
  exact ht
set_option maxRecDepth 100000 in
set_option maxHeartbeats 4000000 in
theorem ct_isBoard {l : Launch} {D : va_G} {kI kB kC kL : ClassId} (a b : Int32) : kw_I l mn_C_isBoard (gw mn_C_isBoard cd_C_isBoard 2 (some .boolean)) ({ frames := 0, cells := 0, slots := 0, locals := 0 } : Room) D cl_v (kt kI kB kC kL) kE [.int a, .int b] ([]) (fun r w => w = [] ∧ r = if (nI 1 ≤ a ∧ nI 1 ≤ b ∧ a ≤ nI 12 ∧ b ≤ nI 12) ∧ a * (b + nI 1) + b * (a + nI 1) ≤ nI 12 then nI 1 else nI 0) 0 0 := by
  refine kw_ofI (cc := cd_C_isBoard) (maxL := 2) (ty := .boolean) (by decide) rfl (Nat.le_of_ble_eq_true rfl) rfl ?_
  intro pp ee s m args below meth c A X hr hlk hE hnm
  refine kw_iload_n X dc_C_isBoard_0 rfl rfl ?_
  refine kw_iconst (v := (nI 1)) X dc_C_isBoard_1 (by decide) ?_
  refine kw_icmp_lt (tgt := 22) X dc_C_isBoard_2 (by decide) (fun hc2 => ?_) (fun hc2 => ?_)
  · refine kw_iconst (v := (nI 0)) X dc_C_isBoard_22 (by decide) ?_
    exact kw_zret X hr hlk rfl dc_C_isBoard_23 ⟨rfl, by first | exact (if_neg (fun z => absurd hc2 (Int32.not_lt.mpr z.1.1))).symm | exact (if_neg (fun z => absurd hc7 (Int32.not_lt.mpr z.1.2.1))).symm | exact (if_neg (fun z => absurd hc13 (Int32.not_lt.mpr z.1.2.2.1))).symm | exact (if_neg (fun z => hc19 z.1.2.2.2)).symm⟩
  · refine kw_iload_n X dc_C_isBoard_5 rfl rfl ?_
    refine kw_iconst (v := (nI 1)) X dc_C_isBoard_6 (by decide) ?_
    refine kw_icmp_lt (tgt := 22) X dc_C_isBoard_7 (by decide) (fun hc7 => ?_) (fun hc7 => ?_)
    · refine kw_iconst (v := (nI 0)) X dc_C_isBoard_22 (by decide) ?_
      exact kw_zret X hr hlk rfl dc_C_isBoard_23 ⟨rfl, by first | exact (if_neg (fun z => absurd hc2 (Int32.not_lt.mpr z.1.1))).symm | exact (if_neg (fun z => absurd hc7 (Int32.not_lt.mpr z.1.2.1))).symm | exact (if_neg (fun z => absurd hc13 (Int32.not_lt.mpr z.1.2.2.1))).symm | exact (if_neg (fun z => hc19 z.1.2.2.2)).symm⟩
    · refine kw_iload_n X dc_C_isBoard_10 rfl rfl ?_
      refine kw_bipush (v := (nI 12)) X dc_C_isBoard_11 (by decide) ?_
      refine kw_icmp_gt (tgt := 22) X dc_C_isBoard_13 (by decide) (fun hc13 => ?_) (fun hc13 => ?_)
      · refine kw_iconst (v := (nI 0)) X dc_C_isBoard_22 (by decide) ?_
        exact kw_zret X hr hlk rfl dc_C_isBoard_23 ⟨rfl, by first | exact (if_neg (fun z => absurd hc2 (Int32.not_lt.mpr z.1.1))).symm | exact (if_neg (fun z => absurd hc7 (Int32.not_lt.mpr z.1.2.1))).symm | exact (if_neg (fun z => absurd hc13 (Int32.not_lt.mpr z.1.2.2.1))).symm | exact (if_neg (fun z => hc19 z.1.2.2.2)).symm⟩
      · refine kw_iload_n X dc_C_isBoard_16 rfl rfl ?_
        refine kw_bipush (v := (nI 12)) X dc_C_isBoard_17 (by decide) ?_
        refine kw_icmp_le (tgt := 24) X dc_C_isBoard_19 (by decide) (fun hc19 => ?_) (fun hc19 => ?_)
        · refine kw_iload_n X dc_C_isBoard_24 rfl rfl ?_
          refine kw_iload_n X dc_C_isBoard_25 rfl rfl ?_
          refine kw_iconst (v := (nI 1)) X dc_C_isBoard_26 (by decide) ?_
          refine kw_iadd X dc_C_isBoard_27 rfl ?_
          refine kw_imul X dc_C_isBoard_28 rfl ?_
          refine kw_iload_n X dc_C_isBoard_29 rfl rfl ?_
          refine kw_iload_n X dc_C_isBoard_30 rfl rfl ?_
          refine kw_iconst (v := (nI 1)) X dc_C_isBoard_31 (by decide) ?_
          refine kw_iadd X dc_C_isBoard_32 rfl ?_
          refine kw_imul X dc_C_isBoard_33 rfl ?_
          refine kw_iadd X dc_C_isBoard_34 rfl ?_
          refine kw_bipush (v := (nI 12)) X dc_C_isBoard_35 (by decide) ?_
          refine kw_icmp_gt (tgt := 44) X dc_C_isBoard_37 (by decide) (fun hc37 => ?_) (fun hc37 => ?_)
          · refine kw_iconst (v := (nI 0)) X dc_C_isBoard_44 (by decide) ?_
            exact kw_zret X hr hlk rfl dc_C_isBoard_45 ⟨rfl, by first | exact (if_pos ⟨⟨Int32.not_lt.mp hc2, Int32.not_lt.mp hc7, Int32.not_lt.mp hc13, hc19⟩, Int32.not_lt.mp hc37⟩).symm | exact (if_neg (fun z => absurd hc37 (Int32.not_lt.mpr z.2))).symm⟩
          · refine kw_iconst (v := (nI 1)) X dc_C_isBoard_40 (by decide) ?_
            refine kw_goto (tgt := 45) X dc_C_isBoard_41 (by decide) ?_
            exact kw_zret X hr hlk rfl dc_C_isBoard_45 ⟨rfl, by first | exact (if_pos ⟨⟨Int32.not_lt.mp hc2, Int32.not_lt.mp hc7, Int32.not_lt.mp hc13, hc19⟩, Int32.not_lt.mp hc37⟩).symm | exact (if_neg (fun z => absurd hc37 (Int32.not_lt.mpr z.2))).symm⟩
        · refine kw_iconst (v := (nI 0)) X dc_C_isBoard_22 (by decide) ?_
          exact kw_zret X hr hlk rfl dc_C_isBoard_23 ⟨rfl, by first | exact (if_neg (fun z => absurd hc2 (Int32.not_lt.mpr z.1.1))).symm | exact (if_neg (fun z => absurd hc7 (Int32.not_lt.mpr z.1.2.1))).symm | exact (if_neg (fun z => absurd hc13 (Int32.not_lt.mpr z.1.2.2.1))).symm | exact (if_neg (fun z => hc19 z.1.2.2.2)).symm⟩
set_option maxRecDepth 100000 in
set_option maxHeartbeats 4000000 in
theorem ct_joinBoard {l : Launch} {D : va_G} {kI kB kC kL : ClassId} (w0 w1 w2 w3 : Nat) (les oth soc : Nat → Int32) (lo hi : Nat → Nat) (ok : webOk lo hi 0 les oth soc) (rr cn : Nat) (hfit : bd_fit rr cn) : kw_V l mn_W_joinBoard (gw mn_W_joinBoard cd_W_joinBoard 6 none) ({ frames := 2, cells := 0, slots := 0, locals := 44 } : Room) D cl_v (kt kI kB kC kL) kE [.ref w0, .int (nI rr), .int (nI cn)] (wWeb kI w0 w1 w2 w3 0 les oth soc) (fun w => ∃ a : (Nat × (Nat → Nat) × (Nat → Nat)) × (Nat → Int32) × (Nat → Int32) × (Nat → Int32), w = wWeb kI w0 w1 w2 w3 a.1.1 a.2.1 a.2.2.1 a.2.2.2 ∧ a.1 = gm_ads (0, lo, hi) (bd_all rr cn (rr * cn)) ∧ webOk a.1.2.1 a.1.2.2 a.1.1 a.2.1 a.2.2.1 a.2.2.2) 0 0 := by
  refine kw_ofV (cc := cd_W_joinBoard) (maxL := 6) (by decide) rfl (Nat.le_of_ble_eq_true rfl) rfl ?_
  intro pp ee s m args below meth c A X hr hlk hE hnm
  have hf := hfit
  obtain ⟨f1, f2, f3, f4, f5⟩ := hfit
  refine kw_iconst (v := (nI 0)) X dc_W_joinBoard_0 (by decide) ?_
  refine kw_istore_n X dc_W_joinBoard_1 rfl (by decide) ?_
  refine kw_loop (α := Nat × (Nat × (Nat → Nat) × (Nat → Nat)) × (Nat → Int32) × (Nat → Int32) × (Nat → Int32)) (fun a => a.1 ≤ rr ∧ a.2.1 = gm_ads (0, lo, hi) (bd_all rr cn (a.1 * cn)) ∧ webOk a.2.1.2.1 a.2.1.2.2 a.2.1.1 a.2.2.1 a.2.2.2.1 a.2.2.2.2) (fun a => rr - a.1) (fun a => wWeb kI w0 w1 w2 w3 a.2.1.1 a.2.2.1 a.2.2.2.1 a.2.2.2.2) (fun a => [some (.ref w0), some (.int (nI rr)), some (.int (nI cn)), some (.int (nI a.1)), none, none]) (fun _ => []) (0, ((0, lo, hi), les, oth, soc)) ⟨Nat.zero_le _, by show (0, lo, hi) = gm_ads (0, lo, hi) (bd_all rr cn (0 * cn)); rw [Nat.zero_mul]; rfl, ok⟩ (fun a hI ih => ?_)
  obtain ⟨r, x0⟩ := a
  obtain ⟨hr9, ex0, okx0⟩ := hI
  refine kw_cv (ws' := wWeb kI w0 w1 w2 w3 x0.1.1 x0.2.1 x0.2.2.1 x0.2.2.2) (lv' := [some (.ref w0), some (.int (nI rr)), some (.int (nI cn)), some (.int (nI r)), none, none]) rfl rfl rfl ?_
  refine kw_iload_n X dc_W_joinBoard_2 rfl rfl ?_
  refine kw_iload_n X dc_W_joinBoard_3 rfl rfl ?_
  refine kw_icmp_ge (tgt := 102) X dc_W_joinBoard_4 (by decide) (fun hc4 => ?_) (fun hc4 => ?_)
  · exact kw_vret X hr hlk dc_W_joinBoard_102 ⟨x0, rfl, by have e9 : r = rr := Nat.le_antisymm hr9 (kq_le hc4); have e8 : bd_all rr cn (rr * cn) = bd_all rr cn (r * cn) := (by rw [e9]); rw [e8]; exact ex0, okx0⟩
  · have hrr : r < rr := kq_nle hc4
    refine kw_iconst (v := (nI 0)) X dc_W_joinBoard_7 (by decide) ?_
    refine kw_istore X dc_W_joinBoard_8 (by decide) ?_
    refine kw_loop (α := Nat × (Nat × (Nat → Nat) × (Nat → Nat)) × (Nat → Int32) × (Nat → Int32) × (Nat → Int32)) (fun a => a.1 ≤ cn ∧ a.2.1 = gm_ads (0, lo, hi) (bd_all rr cn (r * cn + a.1)) ∧ webOk a.2.1.2.1 a.2.1.2.2 a.2.1.1 a.2.2.1 a.2.2.2.1 a.2.2.2.2) (fun a => cn - a.1) (fun a => wWeb kI w0 w1 w2 w3 a.2.1.1 a.2.2.1 a.2.2.2.1 a.2.2.2.2) (fun a => [some (.ref w0), some (.int (nI rr)), some (.int (nI cn)), some (.int (nI r)), some (.int (nI a.1)), none]) (fun _ => []) (0, x0) ⟨Nat.zero_le _, ex0, okx0⟩ (fun a hI ih2 => ?_)
    obtain ⟨c, y0⟩ := a
    obtain ⟨hc9, ey0, oky0⟩ := hI
    refine kw_cv (ws' := wWeb kI w0 w1 w2 w3 y0.1.1 y0.2.1 y0.2.2.1 y0.2.2.2) (lv' := [some (.ref w0), some (.int (nI rr)), some (.int (nI cn)), some (.int (nI r)), some (.int (nI c)), none]) rfl rfl rfl ?_
    refine kw_iload X dc_W_joinBoard_10 rfl ?_
    refine kw_iload_n X dc_W_joinBoard_12 rfl rfl ?_
    refine kw_icmp_ge (tgt := 96) X dc_W_joinBoard_13 (by decide) (fun hc13 => ?_) (fun hc13 => ?_)
    · have hcE : c = cn := Nat.le_antisymm hc9 (kq_le hc13)
      refine kw_iinc (v := nI (r + 1)) X dc_W_joinBoard_96 rfl (kq_inc r) (by decide) ?_
      refine kw_goto (tgt := 2) X dc_W_joinBoard_99 (by decide) ?_
      refine kw_kill 4 ?_
      refine kw_kill 5 ?_
      exact ih (r + 1, y0) ⟨hrr, by show y0.1 = gm_ads (0, lo, hi) (bd_all rr cn ((r + 1) * cn)); rw [ey0, show (r + 1) * cn = r * cn + c by (rw [Nat.succ_mul]; omega)], oky0⟩ (by show rr - (r + 1) < rr - r; omega)
    · have hcc : c < cn := kq_nle hc13
      obtain ⟨k, hk⟩ : ∃ z, z = r * cn + c := ⟨_, rfl⟩
      have hkr : k / cn = r := by rw [hk, Nat.mul_comm, Nat.mul_add_div (by omega), Nat.div_eq_of_lt hcc, Nat.add_zero]
      have hkc : k % cn = c := by rw [hk, Nat.mul_comm, Nat.mul_add_mod, Nat.mod_eq_of_lt hcc]
      have hkl : k < rr * cn := by
        have e1 : (r + 1) * cn ≤ rr * cn := Nat.mul_le_mul_right cn hrr
        rw [Nat.succ_mul] at e1
        omega
      obtain ⟨b1, hb8, b3, b4, b5, b6, b7, b9⟩ := bd_ok hf hkl
      rw [hkc] at b7
      rw [hkr] at b9
      have nY : y0.1.1 = (bd_all rr cn k).length := by rw [ey0, ← hk, gm_ads_n]; exact Nat.zero_add _
      have lB : (bd_bx rr cn k).length = (bd_1 rr cn k).length + (bd_2 cn k).length + 2 := by unfold bd_bx; simp [List.length_append]; omega
      refine kw_iload_n X dc_W_joinBoard_16 rfl rfl ?_
      refine kw_iload_n X dc_W_joinBoard_17 rfl rfl ?_
      refine kw_imul (v := nI (r * cn)) X dc_W_joinBoard_18 (pk_mul r cn) ?_
      refine kw_iload X dc_W_joinBoard_19 rfl ?_
      refine kw_iadd (v := nI k) X dc_W_joinBoard_21 (by rw [hk]; exact nI_add _ _) ?_
      refine kw_istore X dc_W_joinBoard_22 (by decide) ?_
      refine kw_jn (α := (Nat × (Nat → Nat) × (Nat → Nat)) × (Nat → Int32) × (Nat → Int32) × (Nat → Int32)) (fun a => a.1 = gm_ads y0.1 (bd_1 rr cn k) ∧ webOk a.1.2.1 a.1.2.2 a.1.1 a.2.1 a.2.2.1 a.2.2.2) (fun a => wWeb kI w0 w1 w2 w3 a.1.1 a.2.1 a.2.2.1 a.2.2.2) (fun _ => [some (.ref w0), some (.int (nI rr)), some (.int (nI cn)), some (.int (nI r)), some (.int (nI c)), some (.int (nI k))]) (fun _ => []) 35 (fun y1 hJ => ?_) (fun jn1 => ?_)
      · obtain ⟨ey1, oky1⟩ := hJ
        have my1 : y1.1.1 = y0.1.1 + (bd_1 rr cn k).length := by rw [ey1, gm_ads_n]
        refine kw_jn (α := (Nat × (Nat → Nat) × (Nat → Nat)) × (Nat → Int32) × (Nat → Int32) × (Nat → Int32)) (fun a => a.1 = gm_ads y1.1 (bd_2 cn k) ∧ webOk a.1.2.1 a.1.2.2 a.1.1 a.2.1 a.2.2.1 a.2.2.2) (fun a => wWeb kI w0 w1 w2 w3 a.1.1 a.2.1 a.2.2.1 a.2.2.2) (fun _ => [some (.ref w0), some (.int (nI rr)), some (.int (nI cn)), some (.int (nI r)), some (.int (nI c)), some (.int (nI k))]) (fun _ => []) 47 (fun y3 hJ => ?_) (fun jn2 => ?_)
        · obtain ⟨ez3, oky3⟩ := hJ
          have ey3 : y3.1 = gm_ads (gm_ads y0.1 (bd_1 rr cn k)) (bd_2 cn k) := by rw [ez3, ey1]
          have my3 : y3.1.1 = y1.1.1 + (bd_2 cn k).length := by rw [ez3, gm_ads_n]
          refine kw_aload_n X dc_W_joinBoard_47 rfl rfl ?_
          refine kw_iload X dc_W_joinBoard_48 rfl ?_
          refine kw_jn (α := Unit) (fun _ => True) (fun _ => wWeb kI w0 w1 w2 w3 y3.1.1 y3.2.1 y3.2.2.1 y3.2.2.2) (fun _ => [some (.ref w0), some (.int (nI rr)), some (.int (nI cn)), some (.int (nI r)), some (.int (nI c)), some (.int (nI k))]) (fun _ => [.int (og (bd_x cn k)), .int (nI k), .ref w0]) 66 (fun _ _ => ?_) (fun jn3 => ?_)
          · refine kw_callVV X kEw hE 0 rfl rfl (ct_join w0 w1 w2 w3 y3.1.1 y3.2.1 y3.2.2.1 y3.2.2.2 k (bd_x cn k) y3.1.2.1 y3.1.2.2 oky3 (by omega) hb8 b3 (Ne.symm b5)) (cw_V 2 X wd_367 wd_344 wd_345 wd_2 wd_346 rfl rfl (by decide +kernel) ⟨Nat.le_of_ble_eq_true rfl, Nat.le_of_ble_eq_true rfl⟩) [0, 1, 2, 3] rfl (by decide) (fun _ h => by obtain ⟨g1, g2, g3, rfl, _⟩ := h; exact Nat.le_refl _) rfl rfl (Nat.le_of_ble_eq_true rfl) dc_W_joinBoard_66 ⟨Nat.zero_le _, Nat.zero_le _⟩ (fun w hp => ?_)
            obtain ⟨l9, o9, s9, rfl, ok9⟩ := hp
            refine kw_cv (ws' := wWeb kI w0 w1 w2 w3 (y3.1.1 + 1) l9 o9 s9) rfl rfl rfl ?_
            obtain ⟨y4, ey4⟩ : ∃ z : (Nat × (Nat → Nat) × (Nat → Nat)) × (Nat → Int32) × (Nat → Int32) × (Nat → Int32), z = (gm_ad y3.1 k (bd_x cn k), l9, o9, s9) := ⟨_, rfl⟩
            have oky4 : webOk y4.1.2.1 y4.1.2.2 y4.1.1 y4.2.1 y4.2.2.1 y4.2.2.2 := by rw [ey4]; exact ok9
            have ny4 : y4.1 = gm_ad y3.1 k (bd_x cn k) := by rw [ey4]
            have my4 : y4.1.1 = y3.1.1 + 1 := by rw [ny4]; rfl
            refine kw_cv (ws' := wWeb kI w0 w1 w2 w3 y4.1.1 y4.2.1 y4.2.2.1 y4.2.2.2) (by rw [ey4]; rfl) rfl rfl ?_
            refine kw_aload_n X dc_W_joinBoard_69 rfl rfl ?_
            refine kw_iload X dc_W_joinBoard_70 rfl ?_
            refine kw_jn (α := Unit) (fun _ => True) (fun _ => wWeb kI w0 w1 w2 w3 y4.1.1 y4.2.1 y4.2.2.1 y4.2.2.2) (fun _ => [some (.ref w0), some (.int (nI rr)), some (.int (nI cn)), some (.int (nI r)), some (.int (nI c)), some (.int (nI k))]) (fun _ => [.int (og (bd_y rr cn k)), .int (nI k), .ref w0]) 87 (fun _ _ => ?_) (fun jn4 => ?_)
            · refine kw_callVV X kEw hE 0 rfl rfl (ct_join w0 w1 w2 w3 y4.1.1 y4.2.1 y4.2.2.1 y4.2.2.2 k (bd_y rr cn k) y4.1.2.1 y4.1.2.2 oky4 (by omega) hb8 b4 (Ne.symm b6)) (cw_V 2 X wd_367 wd_344 wd_345 wd_2 wd_346 rfl rfl (by decide +kernel) ⟨Nat.le_of_ble_eq_true rfl, Nat.le_of_ble_eq_true rfl⟩) [0, 1, 2, 3] rfl (by decide) (fun _ h => by obtain ⟨g1, g2, g3, rfl, _⟩ := h; exact Nat.le_refl _) rfl rfl (Nat.le_of_ble_eq_true rfl) dc_W_joinBoard_87 ⟨Nat.zero_le _, Nat.zero_le _⟩ (fun w hp => ?_)
              obtain ⟨l9, o9, s9, rfl, ok9⟩ := hp
              refine kw_cv (ws' := wWeb kI w0 w1 w2 w3 (y4.1.1 + 1) l9 o9 s9) rfl rfl rfl ?_
              obtain ⟨y5, ey5⟩ : ∃ z : (Nat × (Nat → Nat) × (Nat → Nat)) × (Nat → Int32) × (Nat → Int32) × (Nat → Int32), z = (gm_ad y4.1 k (bd_y rr cn k), l9, o9, s9) := ⟨_, rfl⟩
              have oky5 : webOk y5.1.2.1 y5.1.2.2 y5.1.1 y5.2.1 y5.2.2.1 y5.2.2.2 := by rw [ey5]; exact ok9
              have ny5 : y5.1 = gm_ad y4.1 k (bd_y rr cn k) := by rw [ey5]
              have my5 : y5.1.1 = y4.1.1 + 1 := by rw [ny5]; rfl
              refine kw_cv (ws' := wWeb kI w0 w1 w2 w3 y5.1.1 y5.2.1 y5.2.2.1 y5.2.2.2) (by rw [ey5]; rfl) rfl rfl ?_
              refine kw_iinc (v := nI (c + 1)) X dc_W_joinBoard_90 rfl (kq_inc c) (by decide) ?_
              refine kw_goto (tgt := 10) X dc_W_joinBoard_93 (by decide) ?_
              refine kw_kill 5 ?_
              exact ih2 (c + 1, y5) ⟨hcc, by show y5.1 = gm_ads (0, lo, hi) (bd_all rr cn (r * cn + c + 1)); rw [ny5, ny4, ey3, ← hk, show bd_all rr cn (k + 1) = bd_all rr cn k ++ bd_bx rr cn k from rfl, gm_ads_app, hk, ← ey0]; unfold bd_bx; rw [gm_ads_app, gm_ads_app, gm_ads_app]; rfl, oky5⟩ (by show cn - (c + 1) < cn - c; omega)
            · refine kw_iload_n X dc_W_joinBoard_72 rfl rfl ?_
              refine kw_iload_n X dc_W_joinBoard_73 rfl rfl ?_
              refine kw_iconst (v := (nI 1)) X dc_W_joinBoard_74 (by decide) ?_
              refine kw_isub (v := nI (rr - 1)) X dc_W_joinBoard_75 (pk_sub f1) ?_
              refine kw_icmp_ne (tgt := 83) X dc_W_joinBoard_76 (by decide) (fun hc76 => ?_) (fun hc76 => ?_)
              · have h76 := kq_ne hc76
                refine kw_iload X dc_W_joinBoard_83 rfl ?_
                refine kw_iload_n X dc_W_joinBoard_85 rfl rfl ?_
                refine kw_iadd (v := og (bd_y rr cn k)) X dc_W_joinBoard_86 (by unfold bd_y; rw [hkr, if_neg (by omega), og_lt (by omega)]; exact nI_add _ _) ?_
                first | exact jn4 () trivial | (refine kw_top (y := og (bd_y rr cn k)) (by unfold bd_y; rw [hkr, if_pos (by omega)]; rfl) ?_; exact jn4 () trivial)
              · have h76 := kq_eq hc76
                refine kw_iconst (v := (-1)) X dc_W_joinBoard_79 (by decide) ?_
                refine kw_goto (tgt := 87) X dc_W_joinBoard_80 (by decide) ?_
                first | exact jn4 () trivial | (refine kw_top (y := og (bd_y rr cn k)) (by unfold bd_y; rw [hkr, if_pos (by omega)]; rfl) ?_; exact jn4 () trivial)
          · refine kw_iload X dc_W_joinBoard_50 rfl ?_
            refine kw_iload_n X dc_W_joinBoard_52 rfl rfl ?_
            refine kw_iconst (v := (nI 1)) X dc_W_joinBoard_53 (by decide) ?_
            refine kw_isub (v := nI (cn - 1)) X dc_W_joinBoard_54 (pk_sub f2) ?_
            refine kw_icmp_ne (tgt := 62) X dc_W_joinBoard_55 (by decide) (fun hc55 => ?_) (fun hc55 => ?_)
            · have h55 := kq_ne hc55
              refine kw_iload X dc_W_joinBoard_62 rfl ?_
              refine kw_iconst (v := (nI 1)) X dc_W_joinBoard_64 (by decide) ?_
              refine kw_iadd (v := og (bd_x cn k)) X dc_W_joinBoard_65 (by unfold bd_x; rw [hkc, if_neg (by omega), og_lt (by omega)]; exact nI_1 k) ?_
              first | exact jn3 () trivial | (refine kw_top (y := og (bd_x cn k)) (by unfold bd_x; rw [hkc, if_pos (by omega)]; rfl) ?_; exact jn3 () trivial)
            · have h55 := kq_eq hc55
              refine kw_iconst (v := (-1)) X dc_W_joinBoard_58 (by decide) ?_
              refine kw_goto (tgt := 66) X dc_W_joinBoard_59 (by decide) ?_
              first | exact jn3 () trivial | (refine kw_top (y := og (bd_x cn k)) (by unfold bd_x; rw [hkc, if_pos (by omega)]; rfl) ?_; exact jn3 () trivial)
        · refine kw_iload X dc_W_joinBoard_35 rfl ?_
          refine kw_if_ne (tgt := 47) X dc_W_joinBoard_37 (by decide) (fun hc37 => ?_) (fun hc37 => ?_)
          · have h37 := kq_ne (b := 0) hc37
            first | exact jn2 u2 ⟨by rw [nu2]; unfold bd_2; rw [hkc, if_pos h37]; rfl, oku2⟩ | exact jn2 y1 ⟨by unfold bd_2; rw [hkc, if_neg h37]; rfl, oky1⟩
          · have h37 := kq_eq (b := 0) hc37
            have l2 : (bd_2 cn k).length = 1 := by unfold bd_2; rw [hkc, if_pos h37]; rfl
            refine kw_aload_n X dc_W_joinBoard_40 rfl rfl ?_
            refine kw_iload X dc_W_joinBoard_41 rfl ?_
            refine kw_iconst (v := (-1)) X dc_W_joinBoard_43 (by decide) ?_
            refine kw_callVV X kEw hE 0 rfl rfl (ct_join w0 w1 w2 w3 y1.1.1 y1.2.1 y1.2.2.1 y1.2.2.2 k 8 y1.1.2.1 y1.1.2.2 oky1 (by omega) hb8 (by omega) (by omega)) (cw_V 2 X wd_367 wd_344 wd_345 wd_2 wd_346 rfl rfl (by decide +kernel) ⟨Nat.le_of_ble_eq_true rfl, Nat.le_of_ble_eq_true rfl⟩) [0, 1, 2, 3] rfl (by decide) (fun _ h => by obtain ⟨g1, g2, g3, rfl, _⟩ := h; exact Nat.le_refl _) rfl rfl (Nat.le_of_ble_eq_true rfl) dc_W_joinBoard_44 ⟨Nat.zero_le _, Nat.zero_le _⟩ (fun w hp => ?_)
            obtain ⟨l9, o9, s9, rfl, ok9⟩ := hp
            refine kw_cv (ws' := wWeb kI w0 w1 w2 w3 (y1.1.1 + 1) l9 o9 s9) rfl rfl rfl ?_
            obtain ⟨u2, eu2⟩ : ∃ z : (Nat × (Nat → Nat) × (Nat → Nat)) × (Nat → Int32) × (Nat → Int32) × (Nat → Int32), z = (gm_ad y1.1 k 8, l9, o9, s9) := ⟨_, rfl⟩
            have oku2 : webOk u2.1.2.1 u2.1.2.2 u2.1.1 u2.2.1 u2.2.2.1 u2.2.2.2 := by rw [eu2]; exact ok9
            have nu2 : u2.1 = gm_ad y1.1 k 8 := by rw [eu2]
            have mu2 : u2.1.1 = y1.1.1 + 1 := by rw [nu2]; rfl
            refine kw_cv (ws' := wWeb kI w0 w1 w2 w3 u2.1.1 u2.2.1 u2.2.2.1 u2.2.2.2) (by rw [eu2]; rfl) rfl rfl ?_
            first | exact jn2 u2 ⟨by rw [nu2]; unfold bd_2; rw [hkc, if_pos h37]; rfl, oku2⟩ | exact jn2 y1 ⟨by unfold bd_2; rw [hkc, if_neg h37]; rfl, oky1⟩
      · refine kw_iload_n X dc_W_joinBoard_24 rfl rfl ?_
        refine kw_if_ne (tgt := 35) X dc_W_joinBoard_25 (by decide) (fun hc25 => ?_) (fun hc25 => ?_)
        · have h25 := kq_ne (b := 0) hc25
          first | exact jn1 u1 ⟨by rw [nu1]; unfold bd_1; rw [hkr, if_pos h25]; rfl, oku1⟩ | exact jn1 y0 ⟨by unfold bd_1; rw [hkr, if_neg h25]; rfl, oky0⟩
        · have h25 := kq_eq (b := 0) hc25
          have l1 : (bd_1 rr cn k).length = 1 := by unfold bd_1; rw [hkr, if_pos h25]; rfl
          refine kw_aload_n X dc_W_joinBoard_28 rfl rfl ?_
          refine kw_iload X dc_W_joinBoard_29 rfl ?_
          refine kw_iconst (v := (-1)) X dc_W_joinBoard_31 (by decide) ?_
          refine kw_callVV X kEw hE 0 rfl rfl (ct_join w0 w1 w2 w3 y0.1.1 y0.2.1 y0.2.2.1 y0.2.2.2 k 8 y0.1.2.1 y0.1.2.2 oky0 (by omega) hb8 (by omega) (by omega)) (cw_V 2 X wd_367 wd_344 wd_345 wd_2 wd_346 rfl rfl (by decide +kernel) ⟨Nat.le_of_ble_eq_true rfl, Nat.le_of_ble_eq_true rfl⟩) [0, 1, 2, 3] rfl (by decide) (fun _ h => by obtain ⟨g1, g2, g3, rfl, _⟩ := h; exact Nat.le_refl _) rfl rfl (Nat.le_of_ble_eq_true rfl) dc_W_joinBoard_32 ⟨Nat.zero_le _, Nat.zero_le _⟩ (fun w hp => ?_)
          obtain ⟨l9, o9, s9, rfl, ok9⟩ := hp
          refine kw_cv (ws' := wWeb kI w0 w1 w2 w3 (y0.1.1 + 1) l9 o9 s9) rfl rfl rfl ?_
          obtain ⟨u1, eu1⟩ : ∃ z : (Nat × (Nat → Nat) × (Nat → Nat)) × (Nat → Int32) × (Nat → Int32) × (Nat → Int32), z = (gm_ad y0.1 k 8, l9, o9, s9) := ⟨_, rfl⟩
          have oku1 : webOk u1.1.2.1 u1.1.2.2 u1.1.1 u1.2.1 u1.2.2.1 u1.2.2.2 := by rw [eu1]; exact ok9
          have nu1 : u1.1 = gm_ad y0.1 k 8 := by rw [eu1]
          have mu1 : u1.1.1 = y0.1.1 + 1 := by rw [nu1]; rfl
          refine kw_cv (ws' := wWeb kI w0 w1 w2 w3 u1.1.1 u1.2.1 u1.2.2.1 u1.2.2.2) (by rw [eu1]; rfl) rfl rfl ?_
          first | exact jn1 u1 ⟨by rw [nu1]; unfold bd_1; rw [hkr, if_pos h25]; rfl, oku1⟩ | exact jn1 y0 ⟨by unfold bd_1; rw [hkr, if_neg h25]; rfl, oky0⟩
end
section
/-! constructors -/
section CWI
variable {p : Program} {l : Launch} {e : Env} {R : Room} {s : State} {m : MethodId} {args : Array Value} {below : List Frame} {meth : Method} {c : Code}
variable {cc : ByteArray} {nL : Nat} {own : String} {D : va_G} {cl : List vw_C} {tys : List (ClassId × FieldType)} {A : Nat → Prop} {c0 : Cond}
variable {idx : Nat} {y : MethodName} {bytes : ByteArray} {maxL mc ms : Nat} {rm : Room}
theorem cw_I (n : Nat) (X : kw_X p s m args c cc nL own (c0 :: gw_tbl) D cl tys A) (h1 : Cond.methodLink own idx y ∈ gw_tbl) (h2 : Cond.instanceMethod y ∈ gw_tbl) (h4 : Cond.initialized y.cls ∈ gw_tbl) (h5 : Cond.code y bytes maxL none ∈ gw_tbl) (hrc : rm.cells = mc) (hrs : rm.slots = ms) (hy1 : y.name = "<init>")
    (hd : y.cls ≠ "java/lang/invoke/MethodHandle" ∧ y.cls ≠ "java/lang/invoke/VarHandle" ∧ (parseMethodDescriptor y.desc).map (fun d => d.parameters.length) = some n) (hR : rm.frames + 1 ≤ R.frames ∧ 8 + (maxL + 11) + rm.locals ≤ R.locals) : CallB R s args own idx y bytes maxL none (gw y bytes maxL none) rm mc ms n ∧ y.name = "<init>" ∧ (Cond.instanceMethod y).before args s = true :=
  ⟨callB_of n X.1.2.2.2.2 (gw_in h5) rfl hrc hrs (X.1.2.2.2.2 _ (gq h4)) (X.1.2.2.2.2 _ (gq h1)) hd hR, hy1, X.1.2.2.2.2 _ (gq h2)⟩
theorem cw_IN {host : String} (n : Nat) (X : kw_X p s m args c cc nL own (c0 :: gw_tbl) D cl tys A) (h1 : va_Nw (.methodLinkNest own idx y host) s) (h2 : Cond.instanceMethod y ∈ gw_tbl) (h4 : Cond.initialized y.cls ∈ gw_tbl) (h5 : Cond.code y bytes maxL none ∈ gw_tbl) (hrc : rm.cells = mc) (hrs : rm.slots = ms) (hy1 : y.name = "<init>")
    (hd : y.cls ≠ "java/lang/invoke/MethodHandle" ∧ y.cls ≠ "java/lang/invoke/VarHandle" ∧ (parseMethodDescriptor y.desc).map (fun d => d.parameters.length) = some n) (hR : rm.frames + 1 ≤ R.frames ∧ 8 + (maxL + 11) + rm.locals ≤ R.locals) : va_CN R s args own idx y host bytes maxL none (gw y bytes maxL none) rm mc ms n ∧ y.name = "<init>" ∧ (Cond.instanceMethod y).before args s = true :=
  ⟨va_cnB n X.1.2.2.2.2 (gw_in h5) rfl hrc hrs h1 (X.1.2.2.2.2 _ (gq h4)) hd hR, hy1, X.1.2.2.2.2 _ (gq h2)⟩
end CWI
/-- the class's world: 0 the object; 1 to 4 Web; 5, 6 Margins; 7, 8 NimValues; 9, 10 Grouping; 11, 12 Text; 13 the cut strings, 14 who cut, 15 the takings -/
abbrev wCS (kI kB kC : ClassId) (ad : Nat → Nat) (n : Nat) (les oth soc : Nat → Int32) (rM : Int32) (fM : Nat → Int32) (rN : Int32) (fN La : Nat → Int32) (len : Nat) (ch cs ct tk : Nat → Int32) (k p u : Nat) (bg : Bool) : va_W :=
  [(ad 0, .inr (0, [.ref (ad 1), .ref (ad 5), .ref (ad 7), .ref (ad 9), .ref (ad 11), .ref (ad 13), .ref (ad 14), .ref (ad 15), .int (nI k), .int (nI p), .int (nI u), .int (bI bg)])),
   (ad 1, .inr (1, [.ref (ad 2), .ref (ad 3), .ref (ad 4), .int (nI n)])), (ad 2, .inl (kI, 12, .inl les)), (ad 3, .inl (kI, 12, .inl oth)), (ad 4, .inl (kI, 8, .inl soc)),
   (ad 5, .inr (2, [.ref (ad 1), .ref (ad 6), .int rM])), (ad 6, .inl (kB, 4096, .inl fM)), (ad 7, .inr (3, [.ref (ad 1), .ref (ad 8), .int rN])), (ad 8, .inl (kB, 4096, .inl fN)),
   (ad 9, .inr (4, [.ref (ad 1), .ref (ad 10)])), (ad 10, .inl (kI, 8, .inl La)), (ad 11, .inr (5, [.ref (ad 1), .ref (ad 12), .int (nI len)])), (ad 12, .inl (kC, 84, .inl ch)),
   (ad 13, .inl (kI, 12, .inl cs)), (ad 14, .inl (kI, 12, .inl ct)), (ad 15, .inl (kI, 2, .inl tk))]
def ad_of (l : List Nat) : Nat → Nat := fun k => l.getD k 0
/-- the reference's world -/
abbrev wRF (kI : ClassId) (rd : Nat → Nat) (th sz : Nat) (one two own : Nat → Int32) (bg : Bool) (lf tu : Nat) (tk : Nat → Int32) (cu : Nat) (co tO t0 t1 : Nat → Int32) (sv : Bool) (mg nm : Nat → Int32) (gc : Nat) (go tx : Nat → Int32) (len : Nat) : va_W :=
  [(rd 0, .inr (6, [.int (nI th), .int (nI sz), .ref (rd 1), .ref (rd 2), .ref (rd 3), .int (bI bg), .int (nI lf), .int (nI tu), .ref (rd 4), .int (nI cu), .ref (rd 5), .ref (rd 6), .ref (rd 7), .ref (rd 8), .int (bI sv), .ref (rd 9), .ref (rd 10), .int (nI gc), .ref (rd 11), .ref (rd 12), .int (nI len)])),
   (rd 1, .inl (kI, 12, .inl one)), (rd 2, .inl (kI, 12, .inl two)), (rd 3, .inl (kI, 8, .inl own)), (rd 4, .inl (kI, 2, .inl tk)), (rd 5, .inl (kI, 12, .inl co)), (rd 6, .inl (kI, 12, .inl tO)), (rd 7, .inl (kI, 12, .inl t0)), (rd 8, .inl (kI, 12, .inl t1)), (rd 9, .inl (kI, 4096, .inl mg)), (rd 10, .inl (kI, 4096, .inl nm)), (rd 11, .inl (kI, 8, .inl go)), (rd 12, .inl (kI, 96, .inl tx))]
set_option maxRecDepth 100000 in
set_option maxHeartbeats 4000000 in
theorem ct_Winit {l : Launch} {D : va_G} {kI kB kC kL : ClassId} (w0 : Nat) : kw_V l mn_W_init (gw mn_W_init cd_W_init 1 none) ({ frames := 1, cells := 3, slots := 32, locals := 20 } : Room) D cl_v (kt kI kB kC kL) kE [.ref w0] ([(w0, .inr (1, [.null, .null, .null, .int 0]))]) (fun w => ∃ w1 w2 w3 : Nat, w = wWeb kI w0 w1 w2 w3 0 (fun _ => 0) (fun _ => 0) (fun _ => 0)) 3 32 := by
  refine kw_ofV (cc := cd_W_init) (maxL := 1) (by decide) rfl (Nat.le_of_ble_eq_true rfl) rfl ?_
  intro pp ee s m args below meth c A X hr hlk hE hnm
  refine kw_aload_n X dc_W_init_0 rfl rfl ?_
  refine kw_objInit X (gq wd_32) (gq wd_25) (gq wd_26) dc_W_init_1 (Nat.le_of_ble_eq_true rfl) (Nat.le_of_ble_eq_true rfl) ?_
  refine kw_aload_n X dc_W_init_4 rfl rfl ?_
  refine kw_bipush (v := (nI 12)) X dc_W_init_5 (by decide) ?_
  refine kw_newa (atype := .int) (a0 := (12, .inl (fun _ => 0))) (N' := 12) X 0 rfl (fun C h => by cases h) (gq wd_46) rfl (fun _ => rfl) (nI_pos (by decide)) (nI_clamp (by decide)) (by decide) (Nat.le_of_ble_eq_true rfl) (Nat.le_of_ble_eq_true rfl) dc_W_init_7 (fun q7 => ?_)
  refine kw_putF (ty := .array .int) X (wc_W _) fy_W fk_W fn_W 0 rfl rfl 0 (by decide) (gq wd_33) (fun _ h => h) rfl hnm rfl (by decide +kernel) rfl rfl (Nat.le_of_ble_eq_true rfl) dc_W_init_9 ?_
  refine kw_aload_n X dc_W_init_12 rfl rfl ?_
  refine kw_bipush (v := (nI 12)) X dc_W_init_13 (by decide) ?_
  refine kw_newa (atype := .int) (a0 := (12, .inl (fun _ => 0))) (N' := 12) X 0 rfl (fun C h => by cases h) (gq wd_46) rfl (fun _ => rfl) (nI_pos (by decide)) (nI_clamp (by decide)) (by decide) (Nat.le_of_ble_eq_true rfl) (Nat.le_of_ble_eq_true rfl) dc_W_init_15 (fun q15 => ?_)
  refine kw_putF (ty := .array .int) X (wc_W _) fy_W fk_W fn_W 0 rfl rfl 1 (by decide) (gq wd_34) (fun _ h => h) rfl hnm rfl (by decide +kernel) rfl rfl (Nat.le_of_ble_eq_true rfl) dc_W_init_17 ?_
  refine kw_aload_n X dc_W_init_20 rfl rfl ?_
  refine kw_bipush (v := (nI 8)) X dc_W_init_21 (by decide) ?_
  refine kw_newa (atype := .int) (a0 := (8, .inl (fun _ => 0))) (N' := 8) X 0 rfl (fun C h => by cases h) (gq wd_46) rfl (fun _ => rfl) (nI_pos (by decide)) (nI_clamp (by decide)) (by decide) (Nat.le_of_ble_eq_true rfl) (Nat.le_of_ble_eq_true rfl) dc_W_init_23 (fun q23 => ?_)
  refine kw_putF (ty := .array .int) X (wc_W _) fy_W fk_W fn_W 0 rfl rfl 2 (by decide) (gq wd_35) (fun _ h => h) rfl hnm rfl (by decide +kernel) rfl rfl (Nat.le_of_ble_eq_true rfl) dc_W_init_25 ?_
  exact kw_vret X hr hlk dc_W_init_28 ⟨q7, q15, q23, rfl⟩
set_option maxRecDepth 100000 in
set_option maxHeartbeats 4000000 in
theorem ct_VinitM {l : Launch} {D : va_G} {kI kB kC kL : ClassId} (v0 w0 : Nat) : kw_V l mn_V_init (gw mn_V_init cd_V_init 2 none) ({ frames := 1, cells := 1, slots := 4096, locals := 20 } : Room) D cl_v (kt kI kB kC kL) kE [.ref v0, .ref w0] ([(v0, .inr (2, [.null, .null, .int 0]))]) (fun w => ∃ v1 : Nat, w = [(v0, .inr (2, [.ref w0, .ref v1, .int 0])), (v1, .inl (kB, 4096, .inl (fun _ => 0)))]) 1 4096 := by
  refine kw_ofV (cc := cd_V_init) (maxL := 2) (by decide) rfl (Nat.le_of_ble_eq_true rfl) rfl ?_
  intro pp ee s m args below meth c A X hr hlk hE hnm
  refine kw_aload_n X dc_V_init_0 rfl rfl ?_
  refine kw_objInit X (gq wd_55) (gq wd_25) (gq wd_26) dc_V_init_1 (Nat.le_of_ble_eq_true rfl) (Nat.le_of_ble_eq_true rfl) ?_
  refine kw_aload_n X dc_V_init_4 rfl rfl ?_
  refine kw_sipush (v := (nI 4096)) X dc_V_init_5 (by decide) ?_
  refine kw_newa (atype := .byte) (a0 := (4096, .inl (fun _ => 0))) (N' := 4096) X 1 rfl (fun C h => by cases h) (gq wd_74) rfl (fun _ => rfl) (nI_pos (by decide)) (nI_clamp (by decide)) (by decide) (Nat.le_of_ble_eq_true rfl) (Nat.le_of_ble_eq_true rfl) dc_V_init_8 (fun q8 => ?_)
  refine kw_putF (ty := .array .byte) X (wc_M _) fy_M fk_M fn_M 0 rfl rfl 1 (by decide) (gq wd_61) (fun _ h => h) rfl hnm rfl (by decide +kernel) rfl rfl (Nat.le_of_ble_eq_true rfl) dc_V_init_10 ?_
  refine kw_aload_n X dc_V_init_13 rfl rfl ?_
  refine kw_aload_n X dc_V_init_14 rfl rfl ?_
  refine kw_putF (ty := .object "CoinStrings$Web") X (wc_M _) fy_M fk_M fn_M 0 rfl rfl 0 (by decide) (gq wd_56) (fun _ h => h) rfl hnm rfl (by decide +kernel) rfl rfl (Nat.le_of_ble_eq_true rfl) dc_V_init_15 ?_
  exact kw_vret X hr hlk dc_V_init_18 ⟨q8, rfl⟩
set_option maxRecDepth 100000 in
set_option maxHeartbeats 4000000 in
theorem ct_Minit {l : Launch} {D : va_G} {kI kB kC kL : ClassId} (v0 w0 : Nat) : kw_V l mn_M_init (gw mn_M_init cd_M_init 2 none) ({ frames := 2, cells := 1, slots := 4096, locals := 41 } : Room) D cl_v (kt kI kB kC kL) kE [.ref v0, .ref w0] ([(v0, .inr (2, [.null, .null, .int 0]))]) (fun w => ∃ v1 : Nat, w = [(v0, .inr (2, [.ref w0, .ref v1, .int 0])), (v1, .inl (kB, 4096, .inl (fun _ => 0)))]) 1 4096 := by
  refine kw_ofV (cc := cd_M_init) (maxL := 2) (by decide) rfl (Nat.le_of_ble_eq_true rfl) rfl ?_
  intro pp ee s m args below meth c A X hr hlk hE hnm
  refine kw_aload_n X dc_M_init_0 rfl rfl ?_
  refine kw_aload_n X dc_M_init_1 rfl rfl ?_
  refine kw_callI X kEw hE (ct_VinitM v0 w0) (cw_I 1 X wd_52 wd_53 wd_3 wd_54 rfl rfl rfl (by decide +kernel) ⟨Nat.le_of_ble_eq_true rfl, Nat.le_of_ble_eq_true rfl⟩) [0] rfl (by decide) (fun _ h => by obtain ⟨v1, rfl⟩ := h; exact Nat.le_of_ble_eq_true rfl) rfl rfl (Nat.le_of_ble_eq_true rfl) dc_M_init_2 ⟨Nat.le_of_ble_eq_true rfl, Nat.le_of_ble_eq_true rfl⟩ (fun w hp => ?_)
  obtain ⟨v1, rfl⟩ := hp
  exact kw_vret X hr hlk dc_M_init_5 ⟨v1, rfl⟩
set_option maxRecDepth 100000 in
set_option maxHeartbeats 4000000 in
theorem ct_VinitN {l : Launch} {D : va_G} {kI kB kC kL : ClassId} (v0 w0 : Nat) : kw_V l mn_V_init (gw mn_V_init cd_V_init 2 none) ({ frames := 1, cells := 1, slots := 4096, locals := 20 } : Room) D cl_v (kt kI kB kC kL) kE [.ref v0, .ref w0] ([(v0, .inr (3, [.null, .null, .int 0]))]) (fun w => ∃ v1 : Nat, w = [(v0, .inr (3, [.ref w0, .ref v1, .int 0])), (v1, .inl (kB, 4096, .inl (fun _ => 0)))]) 1 4096 := by
  refine kw_ofV (cc := cd_V_init) (maxL := 2) (by decide) rfl (Nat.le_of_ble_eq_true rfl) rfl ?_
  intro pp ee s m args below meth c A X hr hlk hE hnm
  refine kw_aload_n X dc_V_init_0 rfl rfl ?_
  refine kw_objInit X (gq wd_55) (gq wd_25) (gq wd_26) dc_V_init_1 (Nat.le_of_ble_eq_true rfl) (Nat.le_of_ble_eq_true rfl) ?_
  refine kw_aload_n X dc_V_init_4 rfl rfl ?_
  refine kw_sipush (v := (nI 4096)) X dc_V_init_5 (by decide) ?_
  refine kw_newa (atype := .byte) (a0 := (4096, .inl (fun _ => 0))) (N' := 4096) X 1 rfl (fun C h => by cases h) (gq wd_74) rfl (fun _ => rfl) (nI_pos (by decide)) (nI_clamp (by decide)) (by decide) (Nat.le_of_ble_eq_true rfl) (Nat.le_of_ble_eq_true rfl) dc_V_init_8 (fun q8 => ?_)
  refine kw_putF (ty := .array .byte) X (wc_N _) fy_N fk_N fn_N 0 rfl rfl 1 (by decide) (gq wd_61) (fun _ h => h) rfl hnm rfl (by decide +kernel) rfl rfl (Nat.le_of_ble_eq_true rfl) dc_V_init_10 ?_
  refine kw_aload_n X dc_V_init_13 rfl rfl ?_
  refine kw_aload_n X dc_V_init_14 rfl rfl ?_
  refine kw_putF (ty := .object "CoinStrings$Web") X (wc_N _) fy_N fk_N fn_N 0 rfl rfl 0 (by decide) (gq wd_56) (fun _ h => h) rfl hnm rfl (by decide +kernel) rfl rfl (Nat.le_of_ble_eq_true rfl) dc_V_init_15 ?_
  exact kw_vret X hr hlk dc_V_init_18 ⟨q8, rfl⟩
set_option maxRecDepth 100000 in
set_option maxHeartbeats 4000000 in
theorem ct_Ninit {l : Launch} {D : va_G} {kI kB kC kL : ClassId} (v0 w0 : Nat) : kw_V l mn_N_init (gw mn_N_init cd_N_init 2 none) ({ frames := 2, cells := 1, slots := 4096, locals := 41 } : Room) D cl_v (kt kI kB kC kL) kE [.ref v0, .ref w0] ([(v0, .inr (3, [.null, .null, .int 0]))]) (fun w => ∃ v1 : Nat, w = [(v0, .inr (3, [.ref w0, .ref v1, .int 0])), (v1, .inl (kB, 4096, .inl (fun _ => 0)))]) 1 4096 := by
  refine kw_ofV (cc := cd_N_init) (maxL := 2) (by decide) rfl (Nat.le_of_ble_eq_true rfl) rfl ?_
  intro pp ee s m args below meth c A X hr hlk hE hnm
  refine kw_aload_n X dc_N_init_0 rfl rfl ?_
  refine kw_aload_n X dc_N_init_1 rfl rfl ?_
  refine kw_callI X kEw hE (ct_VinitN v0 w0) (cw_I 1 X wd_80 wd_53 wd_3 wd_54 rfl rfl rfl (by decide +kernel) ⟨Nat.le_of_ble_eq_true rfl, Nat.le_of_ble_eq_true rfl⟩) [0] rfl (by decide) (fun _ h => by obtain ⟨v1, rfl⟩ := h; exact Nat.le_of_ble_eq_true rfl) rfl rfl (Nat.le_of_ble_eq_true rfl) dc_N_init_2 ⟨Nat.le_of_ble_eq_true rfl, Nat.le_of_ble_eq_true rfl⟩ (fun w hp => ?_)
  obtain ⟨v1, rfl⟩ := hp
  exact kw_vret X hr hlk dc_N_init_5 ⟨v1, rfl⟩
set_option maxRecDepth 100000 in
set_option maxHeartbeats 4000000 in
theorem ct_Ginit {l : Launch} {D : va_G} {kI kB kC kL : ClassId} (v0 w0 : Nat) : kw_V l mn_G_init (gw mn_G_init cd_G_init 2 none) ({ frames := 1, cells := 1, slots := 8, locals := 20 } : Room) D cl_v (kt kI kB kC kL) kE [.ref v0, .ref w0] ([(v0, .inr (4, [.null, .null]))]) (fun w => ∃ v1 : Nat, w = [(v0, .inr (4, [.ref w0, .ref v1])), (v1, .inl (kI, 8, .inl (fun _ => 0)))]) 1 8 := by
  refine kw_ofV (cc := cd_G_init) (maxL := 2) (by decide) rfl (Nat.le_of_ble_eq_true rfl) rfl ?_
  intro pp ee s m args below meth c A X hr hlk hE hnm
  refine kw_aload_n X dc_G_init_0 rfl rfl ?_
  refine kw_objInit X (gq wd_90) (gq wd_25) (gq wd_26) dc_G_init_1 (Nat.le_of_ble_eq_true rfl) (Nat.le_of_ble_eq_true rfl) ?_
  refine kw_aload_n X dc_G_init_4 rfl rfl ?_
  refine kw_bipush (v := (nI 8)) X dc_G_init_5 (by decide) ?_
  refine kw_newa (atype := .int) (a0 := (8, .inl (fun _ => 0))) (N' := 8) X 0 rfl (fun C h => by cases h) (gq wd_46) rfl (fun _ => rfl) (nI_pos (by decide)) (nI_clamp (by decide)) (by decide) (Nat.le_of_ble_eq_true rfl) (Nat.le_of_ble_eq_true rfl) dc_G_init_7 (fun q7 => ?_)
  refine kw_putF (ty := .array .int) X (wc_G _) fy_G fk_G fn_G 0 rfl rfl 1 (by decide) (gq wd_92) (fun _ h => h) rfl hnm rfl (by decide +kernel) rfl rfl (Nat.le_of_ble_eq_true rfl) dc_G_init_9 ?_
  refine kw_aload_n X dc_G_init_12 rfl rfl ?_
  refine kw_aload_n X dc_G_init_13 rfl rfl ?_
  refine kw_putF (ty := .object "CoinStrings$Web") X (wc_G _) fy_G fk_G fn_G 0 rfl rfl 0 (by decide) (gq wd_91) (fun _ h => h) rfl hnm rfl (by decide +kernel) rfl rfl (Nat.le_of_ble_eq_true rfl) dc_G_init_14 ?_
  exact kw_vret X hr hlk dc_G_init_17 ⟨q7, rfl⟩
set_option maxRecDepth 100000 in
set_option maxHeartbeats 4000000 in
theorem ct_Tinit {l : Launch} {D : va_G} {kI kB kC kL : ClassId} (v0 w0 : Nat) : kw_V l mn_T_init (gw mn_T_init cd_T_init 2 none) ({ frames := 1, cells := 1, slots := 84, locals := 20 } : Room) D cl_v (kt kI kB kC kL) kE [.ref v0, .ref w0] ([(v0, .inr (5, [.null, .null, .int 0]))]) (fun w => ∃ v1 : Nat, w = [(v0, .inr (5, [.ref w0, .ref v1, .int 0])), (v1, .inl (kC, 84, .inl (fun _ => 0)))]) 1 84 := by
  refine kw_ofV (cc := cd_T_init) (maxL := 2) (by decide) rfl (Nat.le_of_ble_eq_true rfl) rfl ?_
  intro pp ee s m args below meth c A X hr hlk hE hnm
  refine kw_aload_n X dc_T_init_0 rfl rfl ?_
  refine kw_objInit X (gq wd_103) (gq wd_25) (gq wd_26) dc_T_init_1 (Nat.le_of_ble_eq_true rfl) (Nat.le_of_ble_eq_true rfl) ?_
  refine kw_aload_n X dc_T_init_4 rfl rfl ?_
  refine kw_bipush (v := (nI 84)) X dc_T_init_5 (by decide) ?_
  refine kw_newa (atype := .char) (a0 := (84, .inl (fun _ => 0))) (N' := 84) X 2 rfl (fun C h => by cases h) (gq wd_114) rfl (fun _ => rfl) (nI_pos (by decide)) (nI_clamp (by decide)) (by decide) (Nat.le_of_ble_eq_true rfl) (Nat.le_of_ble_eq_true rfl) dc_T_init_7 (fun q7 => ?_)
  refine kw_putF (ty := .array .char) X (wc_T _) fy_T fk_T fn_T 0 rfl rfl 1 (by decide) (gq wd_105) (fun _ h => h) rfl hnm rfl (by decide +kernel) rfl rfl (Nat.le_of_ble_eq_true rfl) dc_T_init_9 ?_
  refine kw_aload_n X dc_T_init_12 rfl rfl ?_
  refine kw_aload_n X dc_T_init_13 rfl rfl ?_
  refine kw_putF (ty := .object "CoinStrings$Web") X (wc_T _) fy_T fk_T fn_T 0 rfl rfl 0 (by decide) (gq wd_104) (fun _ h => h) rfl hnm rfl (by decide +kernel) rfl rfl (Nat.le_of_ble_eq_true rfl) dc_T_init_14 ?_
  exact kw_vret X hr hlk dc_T_init_17 ⟨q7, rfl⟩
end
section
set_option maxRecDepth 100000 in
set_option maxHeartbeats 4000000 in
theorem ct_Cinit {l : Launch} {D : va_G} {kI kB kC kL : ClassId} (c0 : Nat) : kw_V l mn_C_init (gw mn_C_init cd_C_init 1 none) ({ frames := 3, cells := 15, slots := 8357, locals := 62 } : Room) D cl_v (kt kI kB kC kL) kE [.ref c0] ([(c0, .inr (0, [.null, .null, .null, .null, .null, .null, .null, .null, .int 0, .int 0, .int 0, .int 0]))]) (fun w => ∃ ad : Nat → Nat, ad 0 = c0 ∧ w = wCS kI kB kC ad 0 (fun _ => 0) (fun _ => 0) (fun _ => 0) (nI 0) (fun _ => 0) (nI 0) (fun _ => 0) (fun _ => 0) 0 (fun _ => 0) (fun _ => 0) (fun _ => 0) (fun _ => 0) 0 0 0 false) 15 8357 := by
  refine kw_ofV (cc := cd_C_init) (maxL := 1) (by decide) rfl (Nat.le_of_ble_eq_true rfl) rfl ?_
  intro pp ee s m args below meth c A X hr hlk hE hnm
  refine kw_aload_n X dc_C_init_0 rfl rfl ?_
  refine kw_objInit X (gq wd_24) (gq wd_25) (gq wd_26) dc_C_init_1 (Nat.le_of_ble_eq_true rfl) (Nat.le_of_ble_eq_true rfl) ?_
  refine kw_aload_n X dc_C_init_4 rfl rfl ?_
  refine kw_new (ci := 1) (fs := [.null, .null, .null, .int 0]) X (wc_W _) fy_W fk_W (gq wd_27) (gq wd_28) (gq wd_2) rfl (by decide +kernel) (Nat.le_of_ble_eq_true rfl) (Nat.le_of_ble_eq_true rfl) dc_C_init_5 (fun q5 => ?_)
  refine kw_dup X dc_C_init_8 rfl ?_
  refine kw_callIN X kEw hE (ct_Winit q5) (cw_IN (host := "CoinStrings") 0 X (hE _ (by decide +kernel)) wd_30 wd_2 wd_31 rfl rfl rfl (by decide +kernel) ⟨Nat.le_of_ble_eq_true rfl, Nat.le_of_ble_eq_true rfl⟩) [1] rfl (by decide) (fun _ h => by obtain ⟨w1, w2, w3, rfl⟩ := h; exact Nat.le_of_ble_eq_true rfl) rfl rfl (Nat.le_of_ble_eq_true rfl) dc_C_init_9 ⟨Nat.le_of_ble_eq_true rfl, Nat.le_of_ble_eq_true rfl⟩ (fun w hp => ?_)
  obtain ⟨w1, w2, w3, rfl⟩ := hp
  refine kw_cv (ws' := [(c0, .inr (0, [.null, .null, .null, .null, .null, .null, .null, .null, .int 0, .int 0, .int 0, .int 0])), (q5, .inr (1, [.ref w1, .ref w2, .ref w3, .int (nI 0)])), (w1, .inl (kI, 12, .inl (fun _ => 0))), (w2, .inl (kI, 12, .inl (fun _ => 0))), (w3, .inl (kI, 8, .inl (fun _ => 0)))]) rfl rfl rfl ?_
  refine kw_putF (ty := .object "CoinStrings$Web") X (wc_C _) fy_C fk_C fn_C 0 rfl rfl 0 (by decide) (gq wd_115) (fun _ h => h) rfl hnm rfl (by decide +kernel) rfl rfl (Nat.le_of_ble_eq_true rfl) dc_C_init_12 ?_
  refine kw_cv (ws' := [(c0, .inr (0, [.ref q5, .null, .null, .null, .null, .null, .null, .null, .int 0, .int 0, .int 0, .int 0])), (q5, .inr (1, [.ref w1, .ref w2, .ref w3, .int (nI 0)])), (w1, .inl (kI, 12, .inl (fun _ => 0))), (w2, .inl (kI, 12, .inl (fun _ => 0))), (w3, .inl (kI, 8, .inl (fun _ => 0)))]) rfl rfl rfl ?_
  refine kw_aload_n X dc_C_init_15 rfl rfl ?_
  refine kw_new (ci := 2) (fs := [.null, .null, .int 0]) X (wc_M _) fy_M fk_M (gq wd_47) (gq wd_48) (gq wd_4) rfl (by decide +kernel) (Nat.le_of_ble_eq_true rfl) (Nat.le_of_ble_eq_true rfl) dc_C_init_16 (fun q16 => ?_)
  refine kw_dup X dc_C_init_19 rfl ?_
  refine kw_aload_n X dc_C_init_20 rfl rfl ?_
  refine kw_get X (wc_C _) 0 rfl rfl 0 (by decide) (gq wd_115) (fun _ h => h) rfl dc_C_init_21 ?_
  refine kw_callI X kEw hE (ct_Minit q16 q5) (cw_I 1 X wd_49 wd_50 wd_4 wd_51 rfl rfl rfl (by decide +kernel) ⟨Nat.le_of_ble_eq_true rfl, Nat.le_of_ble_eq_true rfl⟩) [5] rfl (by decide) (fun _ h => by obtain ⟨v1, rfl⟩ := h; exact Nat.le_of_ble_eq_true rfl) rfl rfl (Nat.le_of_ble_eq_true rfl) dc_C_init_24 ⟨Nat.le_of_ble_eq_true rfl, Nat.le_of_ble_eq_true rfl⟩ (fun w hp => ?_)
  obtain ⟨m1, rfl⟩ := hp
  refine kw_cv (ws' := [(c0, .inr (0, [.ref q5, .null, .null, .null, .null, .null, .null, .null, .int 0, .int 0, .int 0, .int 0])), (q5, .inr (1, [.ref w1, .ref w2, .ref w3, .int (nI 0)])), (w1, .inl (kI, 12, .inl (fun _ => 0))), (w2, .inl (kI, 12, .inl (fun _ => 0))), (w3, .inl (kI, 8, .inl (fun _ => 0))), (q16, .inr (2, [.ref q5, .ref m1, .int 0])), (m1, .inl (kB, 4096, .inl (fun _ => 0)))]) rfl rfl rfl ?_
  refine kw_putF (ty := .object "CoinStrings$Margins") X (wc_C _) fy_C fk_C fn_C 0 rfl rfl 1 (by decide) (gq wd_116) (fun _ h => h) rfl hnm rfl (by decide +kernel) rfl rfl (Nat.le_of_ble_eq_true rfl) dc_C_init_27 ?_
  refine kw_cv (ws' := [(c0, .inr (0, [.ref q5, .ref q16, .null, .null, .null, .null, .null, .null, .int 0, .int 0, .int 0, .int 0])), (q5, .inr (1, [.ref w1, .ref w2, .ref w3, .int (nI 0)])), (w1, .inl (kI, 12, .inl (fun _ => 0))), (w2, .inl (kI, 12, .inl (fun _ => 0))), (w3, .inl (kI, 8, .inl (fun _ => 0))), (q16, .inr (2, [.ref q5, .ref m1, .int 0])), (m1, .inl (kB, 4096, .inl (fun _ => 0)))]) rfl rfl rfl ?_
  refine kw_aload_n X dc_C_init_30 rfl rfl ?_
  refine kw_new (ci := 3) (fs := [.null, .null, .int 0]) X (wc_N _) fy_N fk_N (gq wd_75) (gq wd_76) (gq wd_5) rfl (by decide +kernel) (Nat.le_of_ble_eq_true rfl) (Nat.le_of_ble_eq_true rfl) dc_C_init_31 (fun q31 => ?_)
  refine kw_dup X dc_C_init_34 rfl ?_
  refine kw_aload_n X dc_C_init_35 rfl rfl ?_
  refine kw_get X (wc_C _) 0 rfl rfl 0 (by decide) (gq wd_115) (fun _ h => h) rfl dc_C_init_36 ?_
  refine kw_callI X kEw hE (ct_Ninit q31 q5) (cw_I 1 X wd_77 wd_78 wd_5 wd_79 rfl rfl rfl (by decide +kernel) ⟨Nat.le_of_ble_eq_true rfl, Nat.le_of_ble_eq_true rfl⟩) [7] rfl (by decide) (fun _ h => by obtain ⟨v1, rfl⟩ := h; exact Nat.le_of_ble_eq_true rfl) rfl rfl (Nat.le_of_ble_eq_true rfl) dc_C_init_39 ⟨Nat.le_of_ble_eq_true rfl, Nat.le_of_ble_eq_true rfl⟩ (fun w hp => ?_)
  obtain ⟨n1, rfl⟩ := hp
  refine kw_cv (ws' := [(c0, .inr (0, [.ref q5, .ref q16, .null, .null, .null, .null, .null, .null, .int 0, .int 0, .int 0, .int 0])), (q5, .inr (1, [.ref w1, .ref w2, .ref w3, .int (nI 0)])), (w1, .inl (kI, 12, .inl (fun _ => 0))), (w2, .inl (kI, 12, .inl (fun _ => 0))), (w3, .inl (kI, 8, .inl (fun _ => 0))), (q16, .inr (2, [.ref q5, .ref m1, .int 0])), (m1, .inl (kB, 4096, .inl (fun _ => 0))), (q31, .inr (3, [.ref q5, .ref n1, .int 0])), (n1, .inl (kB, 4096, .inl (fun _ => 0)))]) rfl rfl rfl ?_
  refine kw_putF (ty := .object "CoinStrings$NimValues") X (wc_C _) fy_C fk_C fn_C 0 rfl rfl 2 (by decide) (gq wd_117) (fun _ h => h) rfl hnm rfl (by decide +kernel) rfl rfl (Nat.le_of_ble_eq_true rfl) dc_C_init_42 ?_
  refine kw_cv (ws' := [(c0, .inr (0, [.ref q5, .ref q16, .ref q31, .null, .null, .null, .null, .null, .int 0, .int 0, .int 0, .int 0])), (q5, .inr (1, [.ref w1, .ref w2, .ref w3, .int (nI 0)])), (w1, .inl (kI, 12, .inl (fun _ => 0))), (w2, .inl (kI, 12, .inl (fun _ => 0))), (w3, .inl (kI, 8, .inl (fun _ => 0))), (q16, .inr (2, [.ref q5, .ref m1, .int 0])), (m1, .inl (kB, 4096, .inl (fun _ => 0))), (q31, .inr (3, [.ref q5, .ref n1, .int 0])), (n1, .inl (kB, 4096, .inl (fun _ => 0)))]) rfl rfl rfl ?_
  refine kw_aload_n X dc_C_init_45 rfl rfl ?_
  refine kw_new (ci := 4) (fs := [.null, .null]) X (wc_G _) fy_G fk_G (gq wd_85) (gq wd_86) (gq wd_6) rfl (by decide +kernel) (Nat.le_of_ble_eq_true rfl) (Nat.le_of_ble_eq_true rfl) dc_C_init_46 (fun q46 => ?_)
  refine kw_dup X dc_C_init_49 rfl ?_
  refine kw_aload_n X dc_C_init_50 rfl rfl ?_
  refine kw_get X (wc_C _) 0 rfl rfl 0 (by decide) (gq wd_115) (fun _ h => h) rfl dc_C_init_51 ?_
  refine kw_callI X kEw hE (ct_Ginit q46 q5) (cw_I 1 X wd_87 wd_88 wd_6 wd_89 rfl rfl rfl (by decide +kernel) ⟨Nat.le_of_ble_eq_true rfl, Nat.le_of_ble_eq_true rfl⟩) [9] rfl (by decide) (fun _ h => by obtain ⟨v1, rfl⟩ := h; exact Nat.le_of_ble_eq_true rfl) rfl rfl (Nat.le_of_ble_eq_true rfl) dc_C_init_54 ⟨Nat.le_of_ble_eq_true rfl, Nat.le_of_ble_eq_true rfl⟩ (fun w hp => ?_)
  obtain ⟨g1, rfl⟩ := hp
  refine kw_cv (ws' := [(c0, .inr (0, [.ref q5, .ref q16, .ref q31, .null, .null, .null, .null, .null, .int 0, .int 0, .int 0, .int 0])), (q5, .inr (1, [.ref w1, .ref w2, .ref w3, .int (nI 0)])), (w1, .inl (kI, 12, .inl (fun _ => 0))), (w2, .inl (kI, 12, .inl (fun _ => 0))), (w3, .inl (kI, 8, .inl (fun _ => 0))), (q16, .inr (2, [.ref q5, .ref m1, .int 0])), (m1, .inl (kB, 4096, .inl (fun _ => 0))), (q31, .inr (3, [.ref q5, .ref n1, .int 0])), (n1, .inl (kB, 4096, .inl (fun _ => 0))), (q46, .inr (4, [.ref q5, .ref g1])), (g1, .inl (kI, 8, .inl (fun _ => 0)))]) rfl rfl rfl ?_
  refine kw_putF (ty := .object "CoinStrings$Grouping") X (wc_C _) fy_C fk_C fn_C 0 rfl rfl 3 (by decide) (gq wd_118) (fun _ h => h) rfl hnm rfl (by decide +kernel) rfl rfl (Nat.le_of_ble_eq_true rfl) dc_C_init_57 ?_
  refine kw_cv (ws' := [(c0, .inr (0, [.ref q5, .ref q16, .ref q31, .ref q46, .null, .null, .null, .null, .int 0, .int 0, .int 0, .int 0])), (q5, .inr (1, [.ref w1, .ref w2, .ref w3, .int (nI 0)])), (w1, .inl (kI, 12, .inl (fun _ => 0))), (w2, .inl (kI, 12, .inl (fun _ => 0))), (w3, .inl (kI, 8, .inl (fun _ => 0))), (q16, .inr (2, [.ref q5, .ref m1, .int 0])), (m1, .inl (kB, 4096, .inl (fun _ => 0))), (q31, .inr (3, [.ref q5, .ref n1, .int 0])), (n1, .inl (kB, 4096, .inl (fun _ => 0))), (q46, .inr (4, [.ref q5, .ref g1])), (g1, .inl (kI, 8, .inl (fun _ => 0)))]) rfl rfl rfl ?_
  refine kw_aload_n X dc_C_init_60 rfl rfl ?_
  refine kw_new (ci := 5) (fs := [.null, .null, .int 0]) X (wc_T _) fy_T fk_T (gq wd_98) (gq wd_99) (gq wd_7) rfl (by decide +kernel) (Nat.le_of_ble_eq_true rfl) (Nat.le_of_ble_eq_true rfl) dc_C_init_61 (fun q61 => ?_)
  refine kw_dup X dc_C_init_64 rfl ?_
  refine kw_aload_n X dc_C_init_65 rfl rfl ?_
  refine kw_get X (wc_C _) 0 rfl rfl 0 (by decide) (gq wd_115) (fun _ h => h) rfl dc_C_init_66 ?_
  refine kw_callI X kEw hE (ct_Tinit q61 q5) (cw_I 1 X wd_100 wd_101 wd_7 wd_102 rfl rfl rfl (by decide +kernel) ⟨Nat.le_of_ble_eq_true rfl, Nat.le_of_ble_eq_true rfl⟩) [11] rfl (by decide) (fun _ h => by obtain ⟨v1, rfl⟩ := h; exact Nat.le_of_ble_eq_true rfl) rfl rfl (Nat.le_of_ble_eq_true rfl) dc_C_init_69 ⟨Nat.le_of_ble_eq_true rfl, Nat.le_of_ble_eq_true rfl⟩ (fun w hp => ?_)
  obtain ⟨t1, rfl⟩ := hp
  refine kw_cv (ws' := [(c0, .inr (0, [.ref q5, .ref q16, .ref q31, .ref q46, .null, .null, .null, .null, .int 0, .int 0, .int 0, .int 0])), (q5, .inr (1, [.ref w1, .ref w2, .ref w3, .int (nI 0)])), (w1, .inl (kI, 12, .inl (fun _ => 0))), (w2, .inl (kI, 12, .inl (fun _ => 0))), (w3, .inl (kI, 8, .inl (fun _ => 0))), (q16, .inr (2, [.ref q5, .ref m1, .int 0])), (m1, .inl (kB, 4096, .inl (fun _ => 0))), (q31, .inr (3, [.ref q5, .ref n1, .int 0])), (n1, .inl (kB, 4096, .inl (fun _ => 0))), (q46, .inr (4, [.ref q5, .ref g1])), (g1, .inl (kI, 8, .inl (fun _ => 0))), (q61, .inr (5, [.ref q5, .ref t1, .int 0])), (t1, .inl (kC, 84, .inl (fun _ => 0)))]) rfl rfl rfl ?_
  refine kw_putF (ty := .object "CoinStrings$Text") X (wc_C _) fy_C fk_C fn_C 0 rfl rfl 4 (by decide) (gq wd_119) (fun _ h => h) rfl hnm rfl (by decide +kernel) rfl rfl (Nat.le_of_ble_eq_true rfl) dc_C_init_72 ?_
  refine kw_cv (ws' := [(c0, .inr (0, [.ref q5, .ref q16, .ref q31, .ref q46, .ref q61, .null, .null, .null, .int 0, .int 0, .int 0, .int 0])), (q5, .inr (1, [.ref w1, .ref w2, .ref w3, .int (nI 0)])), (w1, .inl (kI, 12, .inl (fun _ => 0))), (w2, .inl (kI, 12, .inl (fun _ => 0))), (w3, .inl (kI, 8, .inl (fun _ => 0))), (q16, .inr (2, [.ref q5, .ref m1, .int 0])), (m1, .inl (kB, 4096, .inl (fun _ => 0))), (q31, .inr (3, [.ref q5, .ref n1, .int 0])), (n1, .inl (kB, 4096, .inl (fun _ => 0))), (q46, .inr (4, [.ref q5, .ref g1])), (g1, .inl (kI, 8, .inl (fun _ => 0))), (q61, .inr (5, [.ref q5, .ref t1, .int 0])), (t1, .inl (kC, 84, .inl (fun _ => 0)))]) rfl rfl rfl ?_
  refine kw_aload_n X dc_C_init_75 rfl rfl ?_
  refine kw_bipush (v := (nI 12)) X dc_C_init_76 (by decide) ?_
  refine kw_newa (atype := .int) (a0 := (12, .inl (fun _ => 0))) (N' := 12) X 0 rfl (fun C h => by cases h) (gq wd_46) rfl (fun _ => rfl) (nI_pos (by decide)) (nI_clamp (by decide)) (by decide) (Nat.le_of_ble_eq_true rfl) (Nat.le_of_ble_eq_true rfl) dc_C_init_78 (fun q78 => ?_)
  refine kw_putF (ty := .array .int) X (wc_C _) fy_C fk_C fn_C 0 rfl rfl 5 (by decide) (gq wd_120) (fun _ h => h) rfl hnm rfl (by decide +kernel) rfl rfl (Nat.le_of_ble_eq_true rfl) dc_C_init_80 ?_
  refine kw_cv (ws' := [(c0, .inr (0, [.ref q5, .ref q16, .ref q31, .ref q46, .ref q61, .ref q78, .null, .null, .int 0, .int 0, .int 0, .int 0])), (q5, .inr (1, [.ref w1, .ref w2, .ref w3, .int (nI 0)])), (w1, .inl (kI, 12, .inl (fun _ => 0))), (w2, .inl (kI, 12, .inl (fun _ => 0))), (w3, .inl (kI, 8, .inl (fun _ => 0))), (q16, .inr (2, [.ref q5, .ref m1, .int 0])), (m1, .inl (kB, 4096, .inl (fun _ => 0))), (q31, .inr (3, [.ref q5, .ref n1, .int 0])), (n1, .inl (kB, 4096, .inl (fun _ => 0))), (q46, .inr (4, [.ref q5, .ref g1])), (g1, .inl (kI, 8, .inl (fun _ => 0))), (q61, .inr (5, [.ref q5, .ref t1, .int 0])), (t1, .inl (kC, 84, .inl (fun _ => 0))), (q78, .inl (kI, 12, .inl (fun _ => 0)))]) rfl rfl rfl ?_
  refine kw_aload_n X dc_C_init_83 rfl rfl ?_
  refine kw_bipush (v := (nI 12)) X dc_C_init_84 (by decide) ?_
  refine kw_newa (atype := .int) (a0 := (12, .inl (fun _ => 0))) (N' := 12) X 0 rfl (fun C h => by cases h) (gq wd_46) rfl (fun _ => rfl) (nI_pos (by decide)) (nI_clamp (by decide)) (by decide) (Nat.le_of_ble_eq_true rfl) (Nat.le_of_ble_eq_true rfl) dc_C_init_86 (fun q86 => ?_)
  refine kw_putF (ty := .array .int) X (wc_C _) fy_C fk_C fn_C 0 rfl rfl 6 (by decide) (gq wd_121) (fun _ h => h) rfl hnm rfl (by decide +kernel) rfl rfl (Nat.le_of_ble_eq_true rfl) dc_C_init_88 ?_
  refine kw_cv (ws' := [(c0, .inr (0, [.ref q5, .ref q16, .ref q31, .ref q46, .ref q61, .ref q78, .ref q86, .null, .int 0, .int 0, .int 0, .int 0])), (q5, .inr (1, [.ref w1, .ref w2, .ref w3, .int (nI 0)])), (w1, .inl (kI, 12, .inl (fun _ => 0))), (w2, .inl (kI, 12, .inl (fun _ => 0))), (w3, .inl (kI, 8, .inl (fun _ => 0))), (q16, .inr (2, [.ref q5, .ref m1, .int 0])), (m1, .inl (kB, 4096, .inl (fun _ => 0))), (q31, .inr (3, [.ref q5, .ref n1, .int 0])), (n1, .inl (kB, 4096, .inl (fun _ => 0))), (q46, .inr (4, [.ref q5, .ref g1])), (g1, .inl (kI, 8, .inl (fun _ => 0))), (q61, .inr (5, [.ref q5, .ref t1, .int 0])), (t1, .inl (kC, 84, .inl (fun _ => 0))), (q78, .inl (kI, 12, .inl (fun _ => 0))), (q86, .inl (kI, 12, .inl (fun _ => 0)))]) rfl rfl rfl ?_
  refine kw_aload_n X dc_C_init_91 rfl rfl ?_
  refine kw_iconst (v := (nI 2)) X dc_C_init_92 (by decide) ?_
  refine kw_newa (atype := .int) (a0 := (2, .inl (fun _ => 0))) (N' := 2) X 0 rfl (fun C h => by cases h) (gq wd_46) rfl (fun _ => rfl) (nI_pos (by decide)) (nI_clamp (by decide)) (by decide) (Nat.le_of_ble_eq_true rfl) (Nat.le_of_ble_eq_true rfl) dc_C_init_93 (fun q93 => ?_)
  refine kw_putF (ty := .array .int) X (wc_C _) fy_C fk_C fn_C 0 rfl rfl 7 (by decide) (gq wd_122) (fun _ h => h) rfl hnm rfl (by decide +kernel) rfl rfl (Nat.le_of_ble_eq_true rfl) dc_C_init_95 ?_
  refine kw_cv (ws' := [(c0, .inr (0, [.ref q5, .ref q16, .ref q31, .ref q46, .ref q61, .ref q78, .ref q86, .ref q93, .int 0, .int 0, .int 0, .int 0])), (q5, .inr (1, [.ref w1, .ref w2, .ref w3, .int (nI 0)])), (w1, .inl (kI, 12, .inl (fun _ => 0))), (w2, .inl (kI, 12, .inl (fun _ => 0))), (w3, .inl (kI, 8, .inl (fun _ => 0))), (q16, .inr (2, [.ref q5, .ref m1, .int 0])), (m1, .inl (kB, 4096, .inl (fun _ => 0))), (q31, .inr (3, [.ref q5, .ref n1, .int 0])), (n1, .inl (kB, 4096, .inl (fun _ => 0))), (q46, .inr (4, [.ref q5, .ref g1])), (g1, .inl (kI, 8, .inl (fun _ => 0))), (q61, .inr (5, [.ref q5, .ref t1, .int 0])), (t1, .inl (kC, 84, .inl (fun _ => 0))), (q78, .inl (kI, 12, .inl (fun _ => 0))), (q86, .inl (kI, 12, .inl (fun _ => 0))), (q93, .inl (kI, 2, .inl (fun _ => 0)))]) rfl rfl rfl ?_
  exact kw_vret X hr hlk dc_C_init_98 ⟨ad_of [c0, q5, w1, w2, w3, q16, m1, q31, n1, q46, g1, q61, t1, q78, q86, q93], rfl, rfl⟩
end
section
set_option maxRecDepth 100000 in
set_option maxHeartbeats 4000000 in
theorem ct_Rinit {l : Launch} {D : va_G} {kI kB kC kL : ClassId} (c0 : Nat) : kw_V l mn_R_init (gw mn_R_init cd_R_init 1 none) ({ frames := 1, cells := 12, slots := 8378, locals := 20 } : Room) D cl_v (kt kI kB kC kL) kE [.ref c0] ([(c0, .inr (6, [.int 0, .int 0, .null, .null, .null, .int 0, .int 0, .int 0, .null, .int 0, .null, .null, .null, .null, .int 0, .null, .null, .int 0, .null, .null, .int 0]))]) (fun w => ∃ rd : Nat → Nat, rd 0 = c0 ∧ w = wRF kI rd 0 0 (fun _ => 0) (fun _ => 0) (fun _ => 0) false 0 0 (fun _ => 0) 0 (fun _ => 0) (fun _ => 0) (fun _ => 0) (fun _ => 0) false (fun _ => 0) (fun _ => 0) 0 (fun _ => 0) (fun _ => 0) 0) 12 8378 := by
  refine kw_ofV (cc := cd_R_init) (maxL := 1) (by decide) rfl (Nat.le_of_ble_eq_true rfl) rfl ?_
  intro pp ee s m args below meth c A X hr hlk hE hnm
  refine kw_aload_n X dc_R_init_0 rfl rfl ?_
  refine kw_objInit X (gq wd_596) (gq wd_25) (gq wd_26) dc_R_init_1 (Nat.le_of_ble_eq_true rfl) (Nat.le_of_ble_eq_true rfl) ?_
  refine kw_aload_n X dc_R_init_4 rfl rfl ?_
  refine kw_bipush (v := (nI 12)) X dc_R_init_5 (by decide) ?_
  refine kw_newa (atype := .int) (a0 := (12, .inl (fun _ => 0))) (N' := 12) X 0 rfl (fun C h => by cases h) (gq wd_46) rfl (fun _ => rfl) (nI_pos (by decide)) (nI_clamp (by decide)) (by decide) (Nat.le_of_ble_eq_true rfl) (Nat.le_of_ble_eq_true rfl) dc_R_init_7 (fun q7 => ?_)
  refine kw_putF (ty := .array .int) X (wc_R _) fy_R fk_R fn_R 0 rfl rfl 2 (by decide) (gq wd_599) (fun _ h => h) rfl hnm rfl (by decide +kernel) rfl rfl (Nat.le_of_ble_eq_true rfl) dc_R_init_9 ?_
  refine kw_cv (ws' := [(c0, .inr (6, [.int 0, .int 0, .ref q7, .null, .null, .int 0, .int 0, .int 0, .null, .int 0, .null, .null, .null, .null, .int 0, .null, .null, .int 0, .null, .null, .int 0])), (q7, .inl (kI, 12, .inl (fun _ => 0)))]) rfl rfl rfl ?_
  refine kw_aload_n X dc_R_init_12 rfl rfl ?_
  refine kw_bipush (v := (nI 12)) X dc_R_init_13 (by decide) ?_
  refine kw_newa (atype := .int) (a0 := (12, .inl (fun _ => 0))) (N' := 12) X 0 rfl (fun C h => by cases h) (gq wd_46) rfl (fun _ => rfl) (nI_pos (by decide)) (nI_clamp (by decide)) (by decide) (Nat.le_of_ble_eq_true rfl) (Nat.le_of_ble_eq_true rfl) dc_R_init_15 (fun q15 => ?_)
  refine kw_putF (ty := .array .int) X (wc_R _) fy_R fk_R fn_R 0 rfl rfl 3 (by decide) (gq wd_600) (fun _ h => h) rfl hnm rfl (by decide +kernel) rfl rfl (Nat.le_of_ble_eq_true rfl) dc_R_init_17 ?_
  refine kw_cv (ws' := [(c0, .inr (6, [.int 0, .int 0, .ref q7, .ref q15, .null, .int 0, .int 0, .int 0, .null, .int 0, .null, .null, .null, .null, .int 0, .null, .null, .int 0, .null, .null, .int 0])), (q7, .inl (kI, 12, .inl (fun _ => 0))), (q15, .inl (kI, 12, .inl (fun _ => 0)))]) rfl rfl rfl ?_
  refine kw_aload_n X dc_R_init_20 rfl rfl ?_
  refine kw_bipush (v := (nI 8)) X dc_R_init_21 (by decide) ?_
  refine kw_newa (atype := .int) (a0 := (8, .inl (fun _ => 0))) (N' := 8) X 0 rfl (fun C h => by cases h) (gq wd_46) rfl (fun _ => rfl) (nI_pos (by decide)) (nI_clamp (by decide)) (by decide) (Nat.le_of_ble_eq_true rfl) (Nat.le_of_ble_eq_true rfl) dc_R_init_23 (fun q23 => ?_)
  refine kw_putF (ty := .array .int) X (wc_R _) fy_R fk_R fn_R 0 rfl rfl 4 (by decide) (gq wd_601) (fun _ h => h) rfl hnm rfl (by decide +kernel) rfl rfl (Nat.le_of_ble_eq_true rfl) dc_R_init_25 ?_
  refine kw_cv (ws' := [(c0, .inr (6, [.int 0, .int 0, .ref q7, .ref q15, .ref q23, .int 0, .int 0, .int 0, .null, .int 0, .null, .null, .null, .null, .int 0, .null, .null, .int 0, .null, .null, .int 0])), (q7, .inl (kI, 12, .inl (fun _ => 0))), (q15, .inl (kI, 12, .inl (fun _ => 0))), (q23, .inl (kI, 8, .inl (fun _ => 0)))]) rfl rfl rfl ?_
  refine kw_aload_n X dc_R_init_28 rfl rfl ?_
  refine kw_iconst (v := (nI 2)) X dc_R_init_29 (by decide) ?_
  refine kw_newa (atype := .int) (a0 := (2, .inl (fun _ => 0))) (N' := 2) X 0 rfl (fun C h => by cases h) (gq wd_46) rfl (fun _ => rfl) (nI_pos (by decide)) (nI_clamp (by decide)) (by decide) (Nat.le_of_ble_eq_true rfl) (Nat.le_of_ble_eq_true rfl) dc_R_init_30 (fun q30 => ?_)
  refine kw_putF (ty := .array .int) X (wc_R _) fy_R fk_R fn_R 0 rfl rfl 8 (by decide) (gq wd_605) (fun _ h => h) rfl hnm rfl (by decide +kernel) rfl rfl (Nat.le_of_ble_eq_true rfl) dc_R_init_32 ?_
  refine kw_cv (ws' := [(c0, .inr (6, [.int 0, .int 0, .ref q7, .ref q15, .ref q23, .int 0, .int 0, .int 0, .ref q30, .int 0, .null, .null, .null, .null, .int 0, .null, .null, .int 0, .null, .null, .int 0])), (q7, .inl (kI, 12, .inl (fun _ => 0))), (q15, .inl (kI, 12, .inl (fun _ => 0))), (q23, .inl (kI, 8, .inl (fun _ => 0))), (q30, .inl (kI, 2, .inl (fun _ => 0)))]) rfl rfl rfl ?_
  refine kw_aload_n X dc_R_init_35 rfl rfl ?_
  refine kw_bipush (v := (nI 12)) X dc_R_init_36 (by decide) ?_
  refine kw_newa (atype := .int) (a0 := (12, .inl (fun _ => 0))) (N' := 12) X 0 rfl (fun C h => by cases h) (gq wd_46) rfl (fun _ => rfl) (nI_pos (by decide)) (nI_clamp (by decide)) (by decide) (Nat.le_of_ble_eq_true rfl) (Nat.le_of_ble_eq_true rfl) dc_R_init_38 (fun q38 => ?_)
  refine kw_putF (ty := .array .int) X (wc_R _) fy_R fk_R fn_R 0 rfl rfl 10 (by decide) (gq wd_607) (fun _ h => h) rfl hnm rfl (by decide +kernel) rfl rfl (Nat.le_of_ble_eq_true rfl) dc_R_init_40 ?_
  refine kw_cv (ws' := [(c0, .inr (6, [.int 0, .int 0, .ref q7, .ref q15, .ref q23, .int 0, .int 0, .int 0, .ref q30, .int 0, .ref q38, .null, .null, .null, .int 0, .null, .null, .int 0, .null, .null, .int 0])), (q7, .inl (kI, 12, .inl (fun _ => 0))), (q15, .inl (kI, 12, .inl (fun _ => 0))), (q23, .inl (kI, 8, .inl (fun _ => 0))), (q30, .inl (kI, 2, .inl (fun _ => 0))), (q38, .inl (kI, 12, .inl (fun _ => 0)))]) rfl rfl rfl ?_
  refine kw_aload_n X dc_R_init_43 rfl rfl ?_
  refine kw_bipush (v := (nI 12)) X dc_R_init_44 (by decide) ?_
  refine kw_newa (atype := .int) (a0 := (12, .inl (fun _ => 0))) (N' := 12) X 0 rfl (fun C h => by cases h) (gq wd_46) rfl (fun _ => rfl) (nI_pos (by decide)) (nI_clamp (by decide)) (by decide) (Nat.le_of_ble_eq_true rfl) (Nat.le_of_ble_eq_true rfl) dc_R_init_46 (fun q46 => ?_)
  refine kw_putF (ty := .array .int) X (wc_R _) fy_R fk_R fn_R 0 rfl rfl 11 (by decide) (gq wd_608) (fun _ h => h) rfl hnm rfl (by decide +kernel) rfl rfl (Nat.le_of_ble_eq_true rfl) dc_R_init_48 ?_
  refine kw_cv (ws' := [(c0, .inr (6, [.int 0, .int 0, .ref q7, .ref q15, .ref q23, .int 0, .int 0, .int 0, .ref q30, .int 0, .ref q38, .ref q46, .null, .null, .int 0, .null, .null, .int 0, .null, .null, .int 0])), (q7, .inl (kI, 12, .inl (fun _ => 0))), (q15, .inl (kI, 12, .inl (fun _ => 0))), (q23, .inl (kI, 8, .inl (fun _ => 0))), (q30, .inl (kI, 2, .inl (fun _ => 0))), (q38, .inl (kI, 12, .inl (fun _ => 0))), (q46, .inl (kI, 12, .inl (fun _ => 0)))]) rfl rfl rfl ?_
  refine kw_aload_n X dc_R_init_51 rfl rfl ?_
  refine kw_bipush (v := (nI 12)) X dc_R_init_52 (by decide) ?_
  refine kw_newa (atype := .int) (a0 := (12, .inl (fun _ => 0))) (N' := 12) X 0 rfl (fun C h => by cases h) (gq wd_46) rfl (fun _ => rfl) (nI_pos (by decide)) (nI_clamp (by decide)) (by decide) (Nat.le_of_ble_eq_true rfl) (Nat.le_of_ble_eq_true rfl) dc_R_init_54 (fun q54 => ?_)
  refine kw_putF (ty := .array .int) X (wc_R _) fy_R fk_R fn_R 0 rfl rfl 12 (by decide) (gq wd_609) (fun _ h => h) rfl hnm rfl (by decide +kernel) rfl rfl (Nat.le_of_ble_eq_true rfl) dc_R_init_56 ?_
  refine kw_cv (ws' := [(c0, .inr (6, [.int 0, .int 0, .ref q7, .ref q15, .ref q23, .int 0, .int 0, .int 0, .ref q30, .int 0, .ref q38, .ref q46, .ref q54, .null, .int 0, .null, .null, .int 0, .null, .null, .int 0])), (q7, .inl (kI, 12, .inl (fun _ => 0))), (q15, .inl (kI, 12, .inl (fun _ => 0))), (q23, .inl (kI, 8, .inl (fun _ => 0))), (q30, .inl (kI, 2, .inl (fun _ => 0))), (q38, .inl (kI, 12, .inl (fun _ => 0))), (q46, .inl (kI, 12, .inl (fun _ => 0))), (q54, .inl (kI, 12, .inl (fun _ => 0)))]) rfl rfl rfl ?_
  refine kw_aload_n X dc_R_init_59 rfl rfl ?_
  refine kw_bipush (v := (nI 12)) X dc_R_init_60 (by decide) ?_
  refine kw_newa (atype := .int) (a0 := (12, .inl (fun _ => 0))) (N' := 12) X 0 rfl (fun C h => by cases h) (gq wd_46) rfl (fun _ => rfl) (nI_pos (by decide)) (nI_clamp (by decide)) (by decide) (Nat.le_of_ble_eq_true rfl) (Nat.le_of_ble_eq_true rfl) dc_R_init_62 (fun q62 => ?_)
  refine kw_putF (ty := .array .int) X (wc_R _) fy_R fk_R fn_R 0 rfl rfl 13 (by decide) (gq wd_610) (fun _ h => h) rfl hnm rfl (by decide +kernel) rfl rfl (Nat.le_of_ble_eq_true rfl) dc_R_init_64 ?_
  refine kw_cv (ws' := [(c0, .inr (6, [.int 0, .int 0, .ref q7, .ref q15, .ref q23, .int 0, .int 0, .int 0, .ref q30, .int 0, .ref q38, .ref q46, .ref q54, .ref q62, .int 0, .null, .null, .int 0, .null, .null, .int 0])), (q7, .inl (kI, 12, .inl (fun _ => 0))), (q15, .inl (kI, 12, .inl (fun _ => 0))), (q23, .inl (kI, 8, .inl (fun _ => 0))), (q30, .inl (kI, 2, .inl (fun _ => 0))), (q38, .inl (kI, 12, .inl (fun _ => 0))), (q46, .inl (kI, 12, .inl (fun _ => 0))), (q54, .inl (kI, 12, .inl (fun _ => 0))), (q62, .inl (kI, 12, .inl (fun _ => 0)))]) rfl rfl rfl ?_
  refine kw_aload_n X dc_R_init_67 rfl rfl ?_
  refine kw_sipush (v := (nI 4096)) X dc_R_init_68 (by decide) ?_
  refine kw_newa (atype := .int) (a0 := (4096, .inl (fun _ => 0))) (N' := 4096) X 0 rfl (fun C h => by cases h) (gq wd_46) rfl (fun _ => rfl) (nI_pos (by decide)) (nI_clamp (by decide)) (by decide) (Nat.le_of_ble_eq_true rfl) (Nat.le_of_ble_eq_true rfl) dc_R_init_71 (fun q71 => ?_)
  refine kw_putF (ty := .array .int) X (wc_R _) fy_R fk_R fn_R 0 rfl rfl 15 (by decide) (gq wd_612) (fun _ h => h) rfl hnm rfl (by decide +kernel) rfl rfl (Nat.le_of_ble_eq_true rfl) dc_R_init_73 ?_
  refine kw_cv (ws' := [(c0, .inr (6, [.int 0, .int 0, .ref q7, .ref q15, .ref q23, .int 0, .int 0, .int 0, .ref q30, .int 0, .ref q38, .ref q46, .ref q54, .ref q62, .int 0, .ref q71, .null, .int 0, .null, .null, .int 0])), (q7, .inl (kI, 12, .inl (fun _ => 0))), (q15, .inl (kI, 12, .inl (fun _ => 0))), (q23, .inl (kI, 8, .inl (fun _ => 0))), (q30, .inl (kI, 2, .inl (fun _ => 0))), (q38, .inl (kI, 12, .inl (fun _ => 0))), (q46, .inl (kI, 12, .inl (fun _ => 0))), (q54, .inl (kI, 12, .inl (fun _ => 0))), (q62, .inl (kI, 12, .inl (fun _ => 0))), (q71, .inl (kI, 4096, .inl (fun _ => 0)))]) rfl rfl rfl ?_
  refine kw_aload_n X dc_R_init_76 rfl rfl ?_
  refine kw_sipush (v := (nI 4096)) X dc_R_init_77 (by decide) ?_
  refine kw_newa (atype := .int) (a0 := (4096, .inl (fun _ => 0))) (N' := 4096) X 0 rfl (fun C h => by cases h) (gq wd_46) rfl (fun _ => rfl) (nI_pos (by decide)) (nI_clamp (by decide)) (by decide) (Nat.le_of_ble_eq_true rfl) (Nat.le_of_ble_eq_true rfl) dc_R_init_80 (fun q80 => ?_)
  refine kw_putF (ty := .array .int) X (wc_R _) fy_R fk_R fn_R 0 rfl rfl 16 (by decide) (gq wd_613) (fun _ h => h) rfl hnm rfl (by decide +kernel) rfl rfl (Nat.le_of_ble_eq_true rfl) dc_R_init_82 ?_
  refine kw_cv (ws' := [(c0, .inr (6, [.int 0, .int 0, .ref q7, .ref q15, .ref q23, .int 0, .int 0, .int 0, .ref q30, .int 0, .ref q38, .ref q46, .ref q54, .ref q62, .int 0, .ref q71, .ref q80, .int 0, .null, .null, .int 0])), (q7, .inl (kI, 12, .inl (fun _ => 0))), (q15, .inl (kI, 12, .inl (fun _ => 0))), (q23, .inl (kI, 8, .inl (fun _ => 0))), (q30, .inl (kI, 2, .inl (fun _ => 0))), (q38, .inl (kI, 12, .inl (fun _ => 0))), (q46, .inl (kI, 12, .inl (fun _ => 0))), (q54, .inl (kI, 12, .inl (fun _ => 0))), (q62, .inl (kI, 12, .inl (fun _ => 0))), (q71, .inl (kI, 4096, .inl (fun _ => 0))), (q80, .inl (kI, 4096, .inl (fun _ => 0)))]) rfl rfl rfl ?_
  refine kw_aload_n X dc_R_init_85 rfl rfl ?_
  refine kw_bipush (v := (nI 8)) X dc_R_init_86 (by decide) ?_
  refine kw_newa (atype := .int) (a0 := (8, .inl (fun _ => 0))) (N' := 8) X 0 rfl (fun C h => by cases h) (gq wd_46) rfl (fun _ => rfl) (nI_pos (by decide)) (nI_clamp (by decide)) (by decide) (Nat.le_of_ble_eq_true rfl) (Nat.le_of_ble_eq_true rfl) dc_R_init_88 (fun q88 => ?_)
  refine kw_putF (ty := .array .int) X (wc_R _) fy_R fk_R fn_R 0 rfl rfl 18 (by decide) (gq wd_615) (fun _ h => h) rfl hnm rfl (by decide +kernel) rfl rfl (Nat.le_of_ble_eq_true rfl) dc_R_init_90 ?_
  refine kw_cv (ws' := [(c0, .inr (6, [.int 0, .int 0, .ref q7, .ref q15, .ref q23, .int 0, .int 0, .int 0, .ref q30, .int 0, .ref q38, .ref q46, .ref q54, .ref q62, .int 0, .ref q71, .ref q80, .int 0, .ref q88, .null, .int 0])), (q7, .inl (kI, 12, .inl (fun _ => 0))), (q15, .inl (kI, 12, .inl (fun _ => 0))), (q23, .inl (kI, 8, .inl (fun _ => 0))), (q30, .inl (kI, 2, .inl (fun _ => 0))), (q38, .inl (kI, 12, .inl (fun _ => 0))), (q46, .inl (kI, 12, .inl (fun _ => 0))), (q54, .inl (kI, 12, .inl (fun _ => 0))), (q62, .inl (kI, 12, .inl (fun _ => 0))), (q71, .inl (kI, 4096, .inl (fun _ => 0))), (q80, .inl (kI, 4096, .inl (fun _ => 0))), (q88, .inl (kI, 8, .inl (fun _ => 0)))]) rfl rfl rfl ?_
  refine kw_aload_n X dc_R_init_93 rfl rfl ?_
  refine kw_bipush (v := (nI 96)) X dc_R_init_94 (by decide) ?_
  refine kw_newa (atype := .int) (a0 := (96, .inl (fun _ => 0))) (N' := 96) X 0 rfl (fun C h => by cases h) (gq wd_46) rfl (fun _ => rfl) (nI_pos (by decide)) (nI_clamp (by decide)) (by decide) (Nat.le_of_ble_eq_true rfl) (Nat.le_of_ble_eq_true rfl) dc_R_init_96 (fun q96 => ?_)
  refine kw_putF (ty := .array .int) X (wc_R _) fy_R fk_R fn_R 0 rfl rfl 19 (by decide) (gq wd_616) (fun _ h => h) rfl hnm rfl (by decide +kernel) rfl rfl (Nat.le_of_ble_eq_true rfl) dc_R_init_98 ?_
  refine kw_cv (ws' := [(c0, .inr (6, [.int 0, .int 0, .ref q7, .ref q15, .ref q23, .int 0, .int 0, .int 0, .ref q30, .int 0, .ref q38, .ref q46, .ref q54, .ref q62, .int 0, .ref q71, .ref q80, .int 0, .ref q88, .ref q96, .int 0])), (q7, .inl (kI, 12, .inl (fun _ => 0))), (q15, .inl (kI, 12, .inl (fun _ => 0))), (q23, .inl (kI, 8, .inl (fun _ => 0))), (q30, .inl (kI, 2, .inl (fun _ => 0))), (q38, .inl (kI, 12, .inl (fun _ => 0))), (q46, .inl (kI, 12, .inl (fun _ => 0))), (q54, .inl (kI, 12, .inl (fun _ => 0))), (q62, .inl (kI, 12, .inl (fun _ => 0))), (q71, .inl (kI, 4096, .inl (fun _ => 0))), (q80, .inl (kI, 4096, .inl (fun _ => 0))), (q88, .inl (kI, 8, .inl (fun _ => 0))), (q96, .inl (kI, 96, .inl (fun _ => 0)))]) rfl rfl rfl ?_
  exact kw_vret X hr hlk dc_R_init_101 ⟨ad_of [c0, q7, q15, q23, q30, q38, q46, q54, q62, q71, q80, q88, q96], rfl, rfl⟩
end
section
/-! the reference -/
/-- its arrays hold the strings lo, hi; the ends as they were given -/
def rfOk (lo hi : Nat → Nat) (n : Nat) (one two own : Nat → Int32) : Prop := gm_ok lo hi n ∧ (∀ i, i < n → ∃ a b : Nat, a < 8 ∧ b ≤ 8 ∧ a ≠ b ∧ one i = nI a ∧ two i = og b ∧ lo i = min a b ∧ hi i = max a b) ∧ ∀ c, c < 8 → own c = nI (gm_mk lo hi n c)
theorem og_neg {b : Nat} (hb : b ≤ 8) : og b < 0 ↔ b = 8 := (show ∀ b, b < 9 → (og b < 0 ↔ b = 8) by decide +kernel) b (by omega)
theorem og_nn {b : Nat} (hb : b ≤ 8) : 0 ≤ og b ↔ b < 8 := (show ∀ b, b < 9 → (0 ≤ og b ↔ b < 8) by decide +kernel) b (by omega)
theorem gm_tk_ab {lo hi : Nat → Nat} {n p i a b : Nat} (hin : i < n) (hp : p.testBit i = true) (ha : a < 8) (hb : b ≤ 8) (hab : a ≠ b) (h1 : lo i = min a b) (h2 : hi i = max a b) : gm_tk lo hi n p i = (if gm_mk lo hi n a &&& bq_wo p i = 0 then 1 else 0) + (if b = 8 then 0 else if gm_mk lo hi n b &&& bq_wo p i = 0 then 1 else 0) := by
  have e : ∀ c, (lo i = c ∨ hi i = c) → (if p &&& gm_mk lo hi n c = 2 ^ i then 1 else 0) = (if gm_mk lo hi n c &&& bq_wo p i = 0 then 1 else 0) := fun c hc => by
    have h := gm_only (lo := lo) (hi := hi) hin hp hc
    by_cases hz : gm_mk lo hi n c &&& bq_wo p i = 0
    · rw [if_pos hz, if_pos (h.mp hz)]
    · rw [if_neg hz, if_neg (fun z => hz (h.mpr z))]
  unfold gm_tk
  rw [e (lo i) (Or.inl rfl), e (hi i) (Or.inr rfl)]
  rcases Nat.lt_or_ge a b with hl | hl
  · rw [h1, h2, Nat.min_eq_left (by omega), Nat.max_eq_right (by omega)]
  · rw [h1, h2, Nat.min_eq_right (by omega), Nat.max_eq_left (by omega), if_neg (show ¬ a = 8 by omega), if_neg (show ¬ b = 8 by omega), Nat.add_comm]
theorem kq_bb (m p i : Nat) : ((m / 2 ^ i) &&& (p / 2 ^ i)) &&& 1 = if (p &&& m).testBit i = true then 1 else 0 := by
  have h0 : ((m / 2 ^ i) &&& (p / 2 ^ i)).testBit 0 = (p &&& m).testBit i := by
    rw [Nat.testBit_and, Nat.testBit_and, Nat.testBit_div_two_pow, Nat.testBit_div_two_pow, Nat.zero_add, Bool.and_comm]
  rw [Nat.and_one_is_mod]
  rw [Nat.testBit_zero] at h0
  by_cases hz : (p &&& m).testBit i = true
  · rw [if_pos hz]
    rw [hz] at h0
    exact of_decide_eq_true h0
  · rw [if_neg hz]
    have hz' : (p &&& m).testBit i = false := by simpa using hz
    rw [hz'] at h0
    have := of_decide_eq_false h0
    omega
theorem gm_sum_0 {f : Nat → Nat} {n : Nat} (h : ∀ j, n ≤ j → f j = 0) : ∀ k, n ≤ k → gm_sum f k = gm_sum f n := by
  intro k
  induction k with
  | zero => intro hk; have : n = 0 := by omega
            rw [this]
  | succ k ih =>
    intro hk
    by_cases hn : n = k + 1
    · rw [hn]
    · show gm_sum f k + f k = _
      rw [ih (by omega), h k (by omega), Nat.add_zero]
theorem gm_pc_n {q n : Nat} (hq : q < 2 ^ n) (hn : n ≤ 12) : gm_pc q = gm_sum (fun j => if q.testBit j = true then 1 else 0) n :=
  gm_sum_0 (fun j hj => by show (if q.testBit j = true then 1 else 0) = 0; rw [bq_of_lt hq hj]; rfl) 12 hn
theorem rfOk_j {lo hi : Nat → Nat} {n a b : Nat} {one two own one' two' own' : Nat → Int32} (h : rfOk lo hi n one two own) (hn : n < 12) (ha : a < 8) (hb : b ≤ 8) (hab : a ≠ b) (h1 : ∀ i, i < n → one' i = one i) (h2 : one' n = nI a) (h3 : ∀ i, i < n → two' i = two i) (h4 : two' n = og b)
    (h5 : ∀ c, c < 8 → own' c = if c = a ∨ c = b then nI (gm_mk lo hi n c ||| 2 ^ n) else own c) : rfOk (fun i => if i = n then min a b else lo i) (fun i => if i = n then max a b else hi i) (n + 1) one' two' own' := by
  obtain ⟨⟨k1, k2⟩, k3, k4⟩ := h
  have eL : ∀ i, i < n → (if i = n then min a b else lo i) = lo i := fun i hi' => if_neg (by omega)
  have eH : ∀ i, i < n → (if i = n then max a b else hi i) = hi i := fun i hi' => if_neg (by omega)
  refine ⟨⟨by omega, fun i hi' => ?_⟩, fun i hi' => ?_, fun c hc => ?_⟩
  · by_cases hin : i = n
    · subst hin
      simp only [if_true]
      omega
    · have := k2 i (by omega)
      simp only [hin, if_false]
      exact this
  · by_cases hin : i = n
    · subst hin
      simp only [if_true]
      exact ⟨a, b, ha, hb, hab, h2, h4, rfl, rfl⟩
    · obtain ⟨a', b', q⟩ := k3 i (by omega)
      simp only [hin, if_false]
      rw [h1 i (by omega), h3 i (by omega)]
      exact ⟨a', b', q⟩
  · rw [h5 c hc]
    rw [show gm_mk (fun i => if i = n then min a b else lo i) (fun i => if i = n then max a b else hi i) (n + 1) c = gm_mk (fun i => if i = n then min a b else lo i) (fun i => if i = n then max a b else hi i) n c ||| (if (if n = n then min a b else lo n) = c ∨ (if n = n then max a b else hi n) = c then 2 ^ n else 0) from rfl, gm_mk_congr (lo := lo) (hi := hi) eL eH c, if_pos (rfl : n = n), if_pos (rfl : n = n)]
    by_cases hq : c = a ∨ c = b
    · rw [if_pos hq, if_pos (show min a b = c ∨ max a b = c by omega)]
    · rw [if_neg hq, if_neg (show ¬ (min a b = c ∨ max a b = c) by omega), k4 c hc, Nat.or_zero]
theorem kq_ones {n : Nat} : (2 ^ n - 1) ||| 2 ^ n = 2 ^ (n + 1) - 1 := by
  apply Nat.eq_of_testBit_eq
  intro j
  rw [Nat.testBit_or, Nat.testBit_two_pow_sub_one, Nat.testBit_two_pow_sub_one, Nat.testBit_two_pow]
  by_cases h1 : j < n
  · simp [h1]; omega
  · by_cases h2 : n = j
    · simp [h2]
    · simp [h1, h2]; omega
set_option maxRecDepth 100000 in
set_option maxHeartbeats 4000000 in
theorem ct_RisCoin {l : Launch} {D : va_G} {kI kB kC kL : ClassId} (a : Int32) : kw_I l mn_R_isCoin (gw mn_R_isCoin cd_R_isCoin 1 (some .boolean)) ({ frames := 0, cells := 0, slots := 0, locals := 0 } : Room) D cl_v (kt kI kB kC kL) kE [.int a] ([]) (fun r w => w = [] ∧ r = if 0 ≤ a ∧ a ≤ nI 7 then nI 1 else nI 0) 0 0 := by
  refine kw_ofI (cc := cd_R_isCoin) (maxL := 1) (ty := .boolean) (by decide) rfl (Nat.le_of_ble_eq_true rfl) rfl ?_
  intro pp ee s m args below meth c A X hr hlk hE hnm
  refine kw_iload_n X dc_R_isCoin_0 rfl rfl ?_
  refine kw_if_lt (tgt := 14) X dc_R_isCoin_1 (by decide) (fun hc1 => ?_) (fun hc1 => ?_)
  · refine kw_iconst (v := (nI 0)) X dc_R_isCoin_14 (by decide) ?_
    exact kw_zret X hr hlk rfl dc_R_isCoin_15 ⟨rfl, by first | exact (if_pos ⟨Int32.not_lt.mp hc1, Int32.not_lt.mp hc7⟩).symm | exact (if_neg (fun z => absurd hc7 (Int32.not_lt.mpr z.2))).symm | exact (if_neg (fun z => absurd hc1 (Int32.not_lt.mpr z.1))).symm⟩
  · refine kw_iload_n X dc_R_isCoin_4 rfl rfl ?_
    refine kw_bipush (v := (nI 7)) X dc_R_isCoin_5 (by decide) ?_
    refine kw_icmp_gt (tgt := 14) X dc_R_isCoin_7 (by decide) (fun hc7 => ?_) (fun hc7 => ?_)
    · refine kw_iconst (v := (nI 0)) X dc_R_isCoin_14 (by decide) ?_
      exact kw_zret X hr hlk rfl dc_R_isCoin_15 ⟨rfl, by first | exact (if_pos ⟨Int32.not_lt.mp hc1, Int32.not_lt.mp hc7⟩).symm | exact (if_neg (fun z => absurd hc7 (Int32.not_lt.mpr z.2))).symm | exact (if_neg (fun z => absurd hc1 (Int32.not_lt.mpr z.1))).symm⟩
    · refine kw_iconst (v := (nI 1)) X dc_R_isCoin_10 (by decide) ?_
      refine kw_goto (tgt := 15) X dc_R_isCoin_11 (by decide) ?_
      exact kw_zret X hr hlk rfl dc_R_isCoin_15 ⟨rfl, by first | exact (if_pos ⟨Int32.not_lt.mp hc1, Int32.not_lt.mp hc7⟩).symm | exact (if_neg (fun z => absurd hc7 (Int32.not_lt.mpr z.2))).symm | exact (if_neg (fun z => absurd hc1 (Int32.not_lt.mpr z.1))).symm⟩
set_option maxRecDepth 100000 in
set_option maxHeartbeats 4000000 in
theorem ct_hang {l : Launch} {D : va_G} {kI kB kC kL : ClassId} (rd : Nat → Nat) (th n : Nat) (one two own : Nat → Int32) (bg : Bool) (lf tu : Nat) (tk : Nat → Int32) (cu : Nat) (co tO t0 t1 : Nat → Int32) (sv : Bool) (mg nm : Nat → Int32) (gc : Nat) (go tx : Nat → Int32) (len : Nat) (lo hi : Nat → Nat) (ok : rfOk lo hi n one two own) (a b : Nat) (hn : n < 12) (ha : a < 8) (hb : b ≤ 8) (hab : a ≠ b) : kw_V l mn_R_hang (gw mn_R_hang cd_R_hang 3 none) ({ frames := 0, cells := 0, slots := 0, locals := 0 } : Room) D cl_v (kt kI kB kC kL) kE [.ref (rd 0), .int (nI a), .int (og b)] (wRF kI rd th n one two own bg lf tu tk cu co tO t0 t1 sv mg nm gc go tx len) (fun w => ∃ one2 two2 own2 : Nat → Int32, w = wRF kI rd th (n + 1) one2 two2 own2 bg (lf ||| 2 ^ n) tu tk cu co tO t0 t1 sv mg nm gc go tx len ∧ rfOk (fun i => if i = n then min a b else lo i) (fun i => if i = n then max a b else hi i) (n + 1) one2 two2 own2) 0 0 := by
  refine kw_ofV (cc := cd_R_hang) (maxL := 3) (by decide) rfl (Nat.le_of_ble_eq_true rfl) rfl ?_
  intro pp ee s m args below meth c A X hr hlk hE hnm
  refine kw_aload_n X dc_R_hang_0 rfl rfl ?_
  refine kw_get X (wc_R _) 0 rfl rfl 2 (by decide) (gq wd_599) (fun _ h => h) rfl dc_R_hang_1 ?_
  refine kw_aload_n X dc_R_hang_4 rfl rfl ?_
  refine kw_get X (wc_R _) 0 rfl rfl 1 (by decide) (gq wd_598) (fun _ h => h) rfl dc_R_hang_5 ?_
  refine kw_iload_n X dc_R_hang_8 rfl rfl ?_
  refine kw_iast X 1 0 rfl rfl (kq_in hn (by omega)) dc_R_hang_9 ?_
  refine kw_aload_n X dc_R_hang_10 rfl rfl ?_
  refine kw_get X (wc_R _) 0 rfl rfl 3 (by decide) (gq wd_600) (fun _ h => h) rfl dc_R_hang_11 ?_
  refine kw_aload_n X dc_R_hang_14 rfl rfl ?_
  refine kw_get X (wc_R _) 0 rfl rfl 1 (by decide) (gq wd_598) (fun _ h => h) rfl dc_R_hang_15 ?_
  refine kw_iload_n X dc_R_hang_18 rfl rfl ?_
  refine kw_iast X 2 0 rfl rfl (kq_in hn (by omega)) dc_R_hang_19 ?_
  refine kw_aload_n X dc_R_hang_20 rfl rfl ?_
  refine kw_get X (wc_R _) 0 rfl rfl 4 (by decide) (gq wd_601) (fun _ h => h) rfl dc_R_hang_21 ?_
  refine kw_iload_n X dc_R_hang_24 rfl rfl ?_
  refine kw_aload_n X dc_R_hang_25 rfl rfl ?_
  refine kw_get X (wc_R _) 0 rfl rfl 4 (by decide) (gq wd_601) (fun _ h => h) rfl dc_R_hang_26 ?_
  refine kw_iload_n X dc_R_hang_29 rfl rfl ?_
  refine kw_iald (v := nI (gm_mk lo hi n a)) X 3 0 rfl rfl (kq_in ha (by omega)) (by rw [kq_cl (by omega)]; exact ok.2.2 a ha) dc_R_hang_30 ?_
  refine kw_iconst (v := (nI 1)) X dc_R_hang_31 (by decide) ?_
  refine kw_aload_n X dc_R_hang_32 rfl rfl ?_
  refine kw_get X (wc_R _) 0 rfl rfl 1 (by decide) (gq wd_598) (fun _ h => h) rfl dc_R_hang_33 ?_
  refine kw_ishl (v := nI (2 ^ n)) X dc_R_hang_36 (bq_shl (by omega)) ?_
  refine kw_ior (v := nI (gm_mk lo hi n a ||| 2 ^ n)) X dc_R_hang_37 (bq_or _ _) ?_
  refine kw_iast X 3 0 rfl rfl (kq_in ha (by omega)) dc_R_hang_38 ?_
  refine kw_iload_n X dc_R_hang_39 rfl rfl ?_
  refine kw_if_lt (tgt := 62) X dc_R_hang_40 (by decide) (fun hc40 => ?_) (fun hc40 => ?_)
  · have h40 := (og_neg hb).mp hc40
    have hown : ∀ c, c < 8 → upd own (nI a).toNatClampNeg (nI (gm_mk lo hi n a ||| 2 ^ n)) c = if c = a ∨ c = b then nI (gm_mk lo hi n c ||| 2 ^ n) else own c := fun c hc => by
      rw [kq_cl (by omega)]
      by_cases hca : c = a
      · subst hca
        rw [pk_us, if_pos (Or.inl rfl)]
      · rw [pk_un hca, if_neg (show ¬ (c = a ∨ c = b) by omega)]
    refine kw_aload_n X dc_R_hang_62 rfl rfl ?_
    refine kw_aload_n X dc_R_hang_63 rfl rfl ?_
    refine kw_get X (wc_R _) 0 rfl rfl 6 (by decide) (gq wd_603) (fun _ h => h) rfl dc_R_hang_64 ?_
    refine kw_iconst (v := (nI 1)) X dc_R_hang_67 (by decide) ?_
    refine kw_aload_n X dc_R_hang_68 rfl rfl ?_
    refine kw_get X (wc_R _) 0 rfl rfl 1 (by decide) (gq wd_598) (fun _ h => h) rfl dc_R_hang_69 ?_
    refine kw_ishl (v := nI (2 ^ n)) X dc_R_hang_72 (bq_shl (by omega)) ?_
    refine kw_ior (v := nI (lf ||| 2 ^ n)) X dc_R_hang_73 (bq_or _ _) ?_
    refine kw_putf (ty := .int) X (wc_R _) fy_R fk_R fn_R 0 rfl rfl 6 (by decide) (gq wd_603) (fun _ h => h) rfl (by decide +kernel) rfl rfl (Nat.le_of_ble_eq_true rfl) dc_R_hang_74 ?_
    refine kw_aload_n X dc_R_hang_77 rfl rfl ?_
    refine kw_dup X dc_R_hang_78 rfl ?_
    refine kw_get X (wc_R _) 0 rfl rfl 1 (by decide) (gq wd_598) (fun _ h => h) rfl dc_R_hang_79 ?_
    refine kw_iconst (v := (nI 1)) X dc_R_hang_82 (by decide) ?_
    refine kw_iadd (v := nI (n + 1)) X dc_R_hang_83 (nI_1 n) ?_
    refine kw_putf (ty := .int) X (wc_R _) fy_R fk_R fn_R 0 rfl rfl 1 (by decide) (gq wd_598) (fun _ h => h) rfl (by decide +kernel) rfl rfl (Nat.le_of_ble_eq_true rfl) dc_R_hang_84 ?_
    exact kw_vret X hr hlk dc_R_hang_87 ⟨_, _, _, rfl, rfOk_j ok hn ha hb hab (fun i hi => by rw [kq_cl (by omega), pk_un (by omega)]) (by rw [kq_cl (by omega), pk_us]) (fun i hi => by rw [kq_cl (by omega), pk_un (by omega)]) (by rw [kq_cl (by omega), pk_us]) hown⟩
  · have h40 : b < 8 := by
      have h8 : b ≠ 8 := fun z => hc40 ((og_neg hb).mpr z)
      omega
    have hown : ∀ c, c < 8 → upd (upd own (nI a).toNatClampNeg (nI (gm_mk lo hi n a ||| 2 ^ n))) (og b).toNatClampNeg (nI (gm_mk lo hi n b ||| 2 ^ n)) c = if c = a ∨ c = b then nI (gm_mk lo hi n c ||| 2 ^ n) else own c := fun c hc => by
      rw [og_lt h40, kq_cl (by omega), kq_cl (by omega)]
      by_cases hcb : c = b
      · subst hcb
        rw [pk_us, if_pos (Or.inr rfl)]
      · rw [pk_un hcb]
        by_cases hca : c = a
        · subst hca
          rw [pk_us, if_pos (Or.inl rfl)]
        · rw [pk_un hca, if_neg (show ¬ (c = a ∨ c = b) by omega)]
    refine kw_aload_n X dc_R_hang_43 rfl rfl ?_
    refine kw_get X (wc_R _) 0 rfl rfl 4 (by decide) (gq wd_601) (fun _ h => h) rfl dc_R_hang_44 ?_
    refine kw_iload_n X dc_R_hang_47 rfl rfl ?_
    refine kw_aload_n X dc_R_hang_48 rfl rfl ?_
    refine kw_get X (wc_R _) 0 rfl rfl 4 (by decide) (gq wd_601) (fun _ h => h) rfl dc_R_hang_49 ?_
    refine kw_iload_n X dc_R_hang_52 rfl rfl ?_
    refine kw_iald (v := nI (gm_mk lo hi n b)) X 3 0 rfl rfl (by rw [og_lt h40]; exact kq_in h40 (by omega)) (by rw [og_lt h40, kq_cl (by omega), kq_cl (by omega), pk_un (fun z => hab z.symm)]; exact ok.2.2 b h40) dc_R_hang_53 ?_
    refine kw_iconst (v := (nI 1)) X dc_R_hang_54 (by decide) ?_
    refine kw_aload_n X dc_R_hang_55 rfl rfl ?_
    refine kw_get X (wc_R _) 0 rfl rfl 1 (by decide) (gq wd_598) (fun _ h => h) rfl dc_R_hang_56 ?_
    refine kw_ishl (v := nI (2 ^ n)) X dc_R_hang_59 (bq_shl (by omega)) ?_
    refine kw_ior (v := nI (gm_mk lo hi n b ||| 2 ^ n)) X dc_R_hang_60 (bq_or _ _) ?_
    refine kw_iast X 3 0 rfl rfl (by rw [og_lt h40]; exact kq_in h40 (by omega)) dc_R_hang_61 ?_
    refine kw_aload_n X dc_R_hang_62 rfl rfl ?_
    refine kw_aload_n X dc_R_hang_63 rfl rfl ?_
    refine kw_get X (wc_R _) 0 rfl rfl 6 (by decide) (gq wd_603) (fun _ h => h) rfl dc_R_hang_64 ?_
    refine kw_iconst (v := (nI 1)) X dc_R_hang_67 (by decide) ?_
    refine kw_aload_n X dc_R_hang_68 rfl rfl ?_
    refine kw_get X (wc_R _) 0 rfl rfl 1 (by decide) (gq wd_598) (fun _ h => h) rfl dc_R_hang_69 ?_
    refine kw_ishl (v := nI (2 ^ n)) X dc_R_hang_72 (bq_shl (by omega)) ?_
    refine kw_ior (v := nI (lf ||| 2 ^ n)) X dc_R_hang_73 (bq_or _ _) ?_
    refine kw_putf (ty := .int) X (wc_R _) fy_R fk_R fn_R 0 rfl rfl 6 (by decide) (gq wd_603) (fun _ h => h) rfl (by decide +kernel) rfl rfl (Nat.le_of_ble_eq_true rfl) dc_R_hang_74 ?_
    refine kw_aload_n X dc_R_hang_77 rfl rfl ?_
    refine kw_dup X dc_R_hang_78 rfl ?_
    refine kw_get X (wc_R _) 0 rfl rfl 1 (by decide) (gq wd_598) (fun _ h => h) rfl dc_R_hang_79 ?_
    refine kw_iconst (v := (nI 1)) X dc_R_hang_82 (by decide) ?_
    refine kw_iadd (v := nI (n + 1)) X dc_R_hang_83 (nI_1 n) ?_
    refine kw_putf (ty := .int) X (wc_R _) fy_R fk_R fn_R 0 rfl rfl 1 (by decide) (gq wd_598) (fun _ h => h) rfl (by decide +kernel) rfl rfl (Nat.le_of_ble_eq_true rfl) dc_R_hang_84 ?_
    exact kw_vret X hr hlk dc_R_hang_87 ⟨_, _, _, rfl, rfOk_j ok hn ha hb hab (fun i hi => by rw [kq_cl (by omega), pk_un (by omega)]) (by rw [kq_cl (by omega), pk_us]) (fun i hi => by rw [kq_cl (by omega), pk_un (by omega)]) (by rw [kq_cl (by omega), pk_us]) hown⟩
set_option maxRecDepth 100000 in
set_option maxHeartbeats 4000000 in
theorem ct_belong {l : Launch} {D : va_G} {kI kB kC kL : ClassId} (rd : Nat → Nat) (th n : Nat) (one two own : Nat → Int32) (bg : Bool) (lf tu : Nat) (tk : Nat → Int32) (cu : Nat) (co tO t0 t1 : Nat → Int32) (sv : Bool) (mg nm : Nat → Int32) (gc : Nat) (go tx : Nat → Int32) (len : Nat) (lo hi : Nat → Nat) (ok : rfOk lo hi n one two own) (c0 p : Nat) (hc : c0 < 8) (hp : p < 2 ^ n) : kw_I l mn_R_belong (gw mn_R_belong cd_R_belong 5 (some .int)) ({ frames := 0, cells := 0, slots := 0, locals := 0 } : Room) D cl_v (kt kI kB kC kL) kE [.ref (rd 0), .int (nI c0), .int (nI p)] (wRF kI rd th n one two own bg lf tu tk cu co tO t0 t1 sv mg nm gc go tx len) (fun r w => w = wRF kI rd th n one two own bg lf tu tk cu co tO t0 t1 sv mg nm gc go tx len ∧ r = nI (gm_pc (p &&& gm_mk lo hi n c0))) 0 0 := by
  refine kw_ofI (cc := cd_R_belong) (maxL := 5) (ty := .int) (by decide) rfl (Nat.le_of_ble_eq_true rfl) rfl ?_
  intro pp ee s m args below meth c A X hr hlk hE hnm
  have hn := ok.1.1
  have hm4 := kq_mk (lo := lo) (hi := hi) hn c0
  have hp4 := kq_2n hn hp
  refine kw_iconst (v := (nI 0)) X dc_R_belong_0 (by decide) ?_
  refine kw_istore_n X dc_R_belong_1 rfl (by decide) ?_
  refine kw_iconst (v := (nI 0)) X dc_R_belong_2 (by decide) ?_
  refine kw_istore X dc_R_belong_3 (by decide) ?_
  refine kw_loop (α := Nat) (fun k => k ≤ n) (fun k => n - k) (fun _ => wRF kI rd th n one two own bg lf tu tk cu co tO t0 t1 sv mg nm gc go tx len) (fun k => [some (.ref (rd 0)), some (.int (nI c0)), some (.int (nI p)), some (.int (nI (gm_sum (fun j => if (p &&& gm_mk lo hi n c0).testBit j = true then 1 else 0) k))), some (.int (nI k))]) (fun _ => []) 0 (Nat.zero_le _) (fun k hk ih => ?_)
  refine kw_iload X dc_R_belong_5 rfl ?_
  refine kw_aload_n X dc_R_belong_7 rfl rfl ?_
  refine kw_get X (wc_R _) 0 rfl rfl 1 (by decide) (gq wd_598) (fun _ h => h) rfl dc_R_belong_8 ?_
  refine kw_icmp_ge (tgt := 39) X dc_R_belong_11 (by decide) (fun hc11 => ?_) (fun hc11 => ?_)
  · refine kw_iload_n X dc_R_belong_39 rfl rfl ?_
    exact kw_iret X hr hlk dc_R_belong_40 ⟨rfl, by have hkn : k = n := Nat.le_antisymm hk (kq_le hc11); subst hkn; rw [gm_pc_n (Nat.lt_of_le_of_lt Nat.and_le_left hp) hn]⟩
  · have hkn := kq_nle hc11
    refine kw_iload_n X dc_R_belong_14 rfl rfl ?_
    refine kw_aload_n X dc_R_belong_15 rfl rfl ?_
    refine kw_get X (wc_R _) 0 rfl rfl 4 (by decide) (gq wd_601) (fun _ h => h) rfl dc_R_belong_16 ?_
    refine kw_iload_n X dc_R_belong_19 rfl rfl ?_
    refine kw_iald (v := nI (gm_mk lo hi n c0)) X 3 0 rfl rfl (kq_in hc (by omega)) (by rw [kq_cl (by omega)]; exact ok.2.2 c0 hc) dc_R_belong_20 ?_
    refine kw_iload X dc_R_belong_21 rfl ?_
    refine kw_ishr (v := nI (gm_mk lo hi n c0 / 2 ^ k)) X dc_R_belong_23 (bq_shr (by omega) (by omega)) ?_
    refine kw_iload_n X dc_R_belong_24 rfl rfl ?_
    refine kw_iload X dc_R_belong_25 rfl ?_
    refine kw_ishr (v := nI (p / 2 ^ k)) X dc_R_belong_27 (bq_shr (by omega) (by omega)) ?_
    refine kw_iand (v := nI ((gm_mk lo hi n c0 / 2 ^ k) &&& (p / 2 ^ k))) X dc_R_belong_28 (nx_and _ _) ?_
    refine kw_iconst (v := (nI 1)) X dc_R_belong_29 (by decide) ?_
    refine kw_iand (v := nI (if (p &&& gm_mk lo hi n c0).testBit k = true then 1 else 0)) X dc_R_belong_30 ((nx_and _ _).trans (congrArg nI (kq_bb _ _ _))) ?_
    refine kw_iadd (v := nI (gm_sum (fun j => if (p &&& gm_mk lo hi n c0).testBit j = true then 1 else 0) (k + 1))) X dc_R_belong_31 (nI_add _ _) ?_
    refine kw_istore_n X dc_R_belong_32 rfl (by decide) ?_
    refine kw_iinc (v := nI (k + 1)) X dc_R_belong_33 rfl (kq_inc k) (by decide) ?_
    refine kw_goto (tgt := 5) X dc_R_belong_36 (by decide) ?_
    exact ih (k + 1) (by omega) (by omega)
set_option maxRecDepth 100000 in
set_option maxHeartbeats 4000000 in
theorem ct_takes {l : Launch} {D : va_G} {kI kB kC kL : ClassId} (rd : Nat → Nat) (th n : Nat) (one two own : Nat → Int32) (bg : Bool) (lf tu : Nat) (tk : Nat → Int32) (cu : Nat) (co tO t0 t1 : Nat → Int32) (sv : Bool) (mg nm : Nat → Int32) (gc : Nat) (go tx : Nat → Int32) (len : Nat) (lo hi : Nat → Nat) (ok : rfOk lo hi n one two own) (p i : Nat) (hp : p < 2 ^ n) (hi1 : i < n) (hb : p.testBit i = true) : kw_I l mn_R_takes (gw mn_R_takes cd_R_takes 4 (some .int)) ({ frames := 0, cells := 0, slots := 0, locals := 0 } : Room) D cl_v (kt kI kB kC kL) kE [.ref (rd 0), .int (nI i), .int (nI (bq_wo p i))] (wRF kI rd th n one two own bg lf tu tk cu co tO t0 t1 sv mg nm gc go tx len) (fun r w => w = wRF kI rd th n one two own bg lf tu tk cu co tO t0 t1 sv mg nm gc go tx len ∧ r = nI (gm_tk lo hi n p i)) 0 0 := by
  refine kw_ofI (cc := cd_R_takes) (maxL := 4) (ty := .int) (by decide) rfl (Nat.le_of_ble_eq_true rfl) rfl ?_
  intro pp ee s m args below meth c A X hr hlk hE hnm
  have hn := ok.1.1
  have hp4 := kq_2n hn hp
  have hlt := bq_wo_lt hb
  obtain ⟨a, b, ha, hb8, hab, e1, e2, e3, e4⟩ := ok.2.1 i hi1
  have et := gm_tk_ab (lo := lo) (hi := hi) hi1 hb ha hb8 hab e3 e4
  have ma := kq_mk (lo := lo) (hi := hi) hn a
  have mb := kq_mk (lo := lo) (hi := hi) hn b
  have la : gm_mk lo hi n a &&& bq_wo p i < 4096 := Nat.lt_of_le_of_lt Nat.and_le_left ma
  have lb : gm_mk lo hi n b &&& bq_wo p i < 4096 := Nat.lt_of_le_of_lt Nat.and_le_left mb
  refine kw_aload_n X dc_R_takes_0 rfl rfl ?_
  refine kw_get X (wc_R _) 0 rfl rfl 4 (by decide) (gq wd_601) (fun _ h => h) rfl dc_R_takes_1 ?_
  refine kw_aload_n X dc_R_takes_4 rfl rfl ?_
  refine kw_get X (wc_R _) 0 rfl rfl 2 (by decide) (gq wd_599) (fun _ h => h) rfl dc_R_takes_5 ?_
  refine kw_iload_n X dc_R_takes_8 rfl rfl ?_
  refine kw_iald (v := nI a) X 1 0 rfl rfl (kq_in (by omega) (by omega)) (by rw [kq_cl (by omega)]; exact e1) dc_R_takes_9 ?_
  refine kw_iald (v := nI (gm_mk lo hi n a)) X 3 0 rfl rfl (kq_in ha (by omega)) (by rw [kq_cl (by omega)]; exact ok.2.2 a ha) dc_R_takes_10 ?_
  refine kw_iload_n X dc_R_takes_11 rfl rfl ?_
  refine kw_iand (v := nI (gm_mk lo hi n a &&& bq_wo p i)) X dc_R_takes_12 (nx_and _ _) ?_
  refine kw_if_ne (tgt := 20) X dc_R_takes_13 (by decide) (fun hc13 => ?_) (fun hc13 => ?_)
  · have h13 := kq_ne (b := 0) hc13
    refine kw_iconst (v := (nI 0)) X dc_R_takes_20 (by decide) ?_
    refine kw_istore_n X dc_R_takes_21 rfl (by decide) ?_
    refine kw_aload_n X dc_R_takes_22 rfl rfl ?_
    refine kw_get X (wc_R _) 0 rfl rfl 3 (by decide) (gq wd_600) (fun _ h => h) rfl dc_R_takes_23 ?_
    refine kw_iload_n X dc_R_takes_26 rfl rfl ?_
    refine kw_iald (v := og b) X 2 0 rfl rfl (kq_in (by omega) (by omega)) (by rw [kq_cl (by omega)]; exact e2) dc_R_takes_27 ?_
    refine kw_if_lt (tgt := 53) X dc_R_takes_28 (by decide) (fun hc28 => ?_) (fun hc28 => ?_)
    · have h28 := (og_neg hb8).mp hc28
      refine kw_iload_n X dc_R_takes_53 rfl rfl ?_
      exact kw_iret X hr hlk dc_R_takes_54 ⟨rfl, by rw [et]; first | (rw [if_pos h13, if_neg h29, if_pos h44]; exact kq_inc 1) | (rw [if_neg h13, if_neg h29, if_pos h44]; exact kq_inc 0) | (rw [if_pos h13, if_neg h29, if_neg h44]; try rfl) | (rw [if_neg h13, if_neg h29, if_neg h44]; try rfl) | (rw [if_pos h13, if_pos h28]; try rfl) | (rw [if_neg h13, if_pos h28]; try rfl)⟩
    · have h28 : b < 8 := by
        have h8 : b ≠ 8 := fun z => hc28 ((og_neg hb8).mpr z)
        omega
      have h29 : ¬ b = 8 := by omega
      refine kw_aload_n X dc_R_takes_31 rfl rfl ?_
      refine kw_get X (wc_R _) 0 rfl rfl 4 (by decide) (gq wd_601) (fun _ h => h) rfl dc_R_takes_32 ?_
      refine kw_aload_n X dc_R_takes_35 rfl rfl ?_
      refine kw_get X (wc_R _) 0 rfl rfl 3 (by decide) (gq wd_600) (fun _ h => h) rfl dc_R_takes_36 ?_
      refine kw_iload_n X dc_R_takes_39 rfl rfl ?_
      refine kw_iald (v := nI b) X 2 0 rfl rfl (kq_in (by omega) (by omega)) (by rw [kq_cl (by omega), e2]; exact og_lt h28) dc_R_takes_40 ?_
      refine kw_iald (v := nI (gm_mk lo hi n b)) X 3 0 rfl rfl (kq_in h28 (by omega)) (by rw [kq_cl (by omega)]; exact ok.2.2 b h28) dc_R_takes_41 ?_
      refine kw_iload_n X dc_R_takes_42 rfl rfl ?_
      refine kw_iand (v := nI (gm_mk lo hi n b &&& bq_wo p i)) X dc_R_takes_43 (nx_and _ _) ?_
      refine kw_if_ne (tgt := 53) X dc_R_takes_44 (by decide) (fun hc44 => ?_) (fun hc44 => ?_)
      · have h44 := kq_ne (b := 0) hc44
        refine kw_iload_n X dc_R_takes_53 rfl rfl ?_
        exact kw_iret X hr hlk dc_R_takes_54 ⟨rfl, by rw [et]; first | (rw [if_pos h13, if_neg h29, if_pos h44]; exact kq_inc 1) | (rw [if_neg h13, if_neg h29, if_pos h44]; exact kq_inc 0) | (rw [if_pos h13, if_neg h29, if_neg h44]; try rfl) | (rw [if_neg h13, if_neg h29, if_neg h44]; try rfl) | (rw [if_pos h13, if_pos h28]; try rfl) | (rw [if_neg h13, if_pos h28]; try rfl)⟩
      · have h44 := kq_eq (b := 0) hc44
        refine kw_iload_n X dc_R_takes_47 rfl rfl ?_
        refine kw_iconst (v := (nI 1)) X dc_R_takes_48 (by decide) ?_
        refine kw_iadd X dc_R_takes_49 rfl ?_
        refine kw_goto (tgt := 54) X dc_R_takes_50 (by decide) ?_
        exact kw_iret X hr hlk dc_R_takes_54 ⟨rfl, by rw [et]; first | (rw [if_pos h13, if_neg h29, if_pos h44]; exact kq_inc 1) | (rw [if_neg h13, if_neg h29, if_pos h44]; exact kq_inc 0) | (rw [if_pos h13, if_neg h29, if_neg h44]; try rfl) | (rw [if_neg h13, if_neg h29, if_neg h44]; try rfl) | (rw [if_pos h13, if_pos h28]; try rfl) | (rw [if_neg h13, if_pos h28]; try rfl)⟩
  · have h13 := kq_eq (b := 0) hc13
    refine kw_iconst (v := (nI 1)) X dc_R_takes_16 (by decide) ?_
    refine kw_goto (tgt := 21) X dc_R_takes_17 (by decide) ?_
    refine kw_istore_n X dc_R_takes_21 rfl (by decide) ?_
    refine kw_aload_n X dc_R_takes_22 rfl rfl ?_
    refine kw_get X (wc_R _) 0 rfl rfl 3 (by decide) (gq wd_600) (fun _ h => h) rfl dc_R_takes_23 ?_
    refine kw_iload_n X dc_R_takes_26 rfl rfl ?_
    refine kw_iald (v := og b) X 2 0 rfl rfl (kq_in (by omega) (by omega)) (by rw [kq_cl (by omega)]; exact e2) dc_R_takes_27 ?_
    refine kw_if_lt (tgt := 53) X dc_R_takes_28 (by decide) (fun hc28 => ?_) (fun hc28 => ?_)
    · have h28 := (og_neg hb8).mp hc28
      refine kw_iload_n X dc_R_takes_53 rfl rfl ?_
      exact kw_iret X hr hlk dc_R_takes_54 ⟨rfl, by rw [et]; first | (rw [if_pos h13, if_neg h29, if_pos h44]; exact kq_inc 1) | (rw [if_neg h13, if_neg h29, if_pos h44]; exact kq_inc 0) | (rw [if_pos h13, if_neg h29, if_neg h44]; try rfl) | (rw [if_neg h13, if_neg h29, if_neg h44]; try rfl) | (rw [if_pos h13, if_pos h28]; try rfl) | (rw [if_neg h13, if_pos h28]; try rfl)⟩
    · have h28 : b < 8 := by
        have h8 : b ≠ 8 := fun z => hc28 ((og_neg hb8).mpr z)
        omega
      have h29 : ¬ b = 8 := by omega
      refine kw_aload_n X dc_R_takes_31 rfl rfl ?_
      refine kw_get X (wc_R _) 0 rfl rfl 4 (by decide) (gq wd_601) (fun _ h => h) rfl dc_R_takes_32 ?_
      refine kw_aload_n X dc_R_takes_35 rfl rfl ?_
      refine kw_get X (wc_R _) 0 rfl rfl 3 (by decide) (gq wd_600) (fun _ h => h) rfl dc_R_takes_36 ?_
      refine kw_iload_n X dc_R_takes_39 rfl rfl ?_
      refine kw_iald (v := nI b) X 2 0 rfl rfl (kq_in (by omega) (by omega)) (by rw [kq_cl (by omega), e2]; exact og_lt h28) dc_R_takes_40 ?_
      refine kw_iald (v := nI (gm_mk lo hi n b)) X 3 0 rfl rfl (kq_in h28 (by omega)) (by rw [kq_cl (by omega)]; exact ok.2.2 b h28) dc_R_takes_41 ?_
      refine kw_iload_n X dc_R_takes_42 rfl rfl ?_
      refine kw_iand (v := nI (gm_mk lo hi n b &&& bq_wo p i)) X dc_R_takes_43 (nx_and _ _) ?_
      refine kw_if_ne (tgt := 53) X dc_R_takes_44 (by decide) (fun hc44 => ?_) (fun hc44 => ?_)
      · have h44 := kq_ne (b := 0) hc44
        refine kw_iload_n X dc_R_takes_53 rfl rfl ?_
        exact kw_iret X hr hlk dc_R_takes_54 ⟨rfl, by rw [et]; first | (rw [if_pos h13, if_neg h29, if_pos h44]; exact kq_inc 1) | (rw [if_neg h13, if_neg h29, if_pos h44]; exact kq_inc 0) | (rw [if_pos h13, if_neg h29, if_neg h44]; try rfl) | (rw [if_neg h13, if_neg h29, if_neg h44]; try rfl) | (rw [if_pos h13, if_pos h28]; try rfl) | (rw [if_neg h13, if_pos h28]; try rfl)⟩
      · have h44 := kq_eq (b := 0) hc44
        refine kw_iload_n X dc_R_takes_47 rfl rfl ?_
        refine kw_iconst (v := (nI 1)) X dc_R_takes_48 (by decide) ?_
        refine kw_iadd X dc_R_takes_49 rfl ?_
        refine kw_goto (tgt := 54) X dc_R_takes_50 (by decide) ?_
        exact kw_iret X hr hlk dc_R_takes_54 ⟨rfl, by rw [et]; first | (rw [if_pos h13, if_neg h29, if_pos h44]; exact kq_inc 1) | (rw [if_neg h13, if_neg h29, if_pos h44]; exact kq_inc 0) | (rw [if_pos h13, if_neg h29, if_neg h44]; try rfl) | (rw [if_neg h13, if_neg h29, if_neg h44]; try rfl) | (rw [if_pos h13, if_pos h28]; try rfl) | (rw [if_neg h13, if_pos h28]; try rfl)⟩
end
section
theorem kq_none {o : Option Int} (h : bI o.isSome = 0) : o = none := by
  cases o with
  | none => rfl
  | some v => exact absurd h (show ¬ bI true = 0 by decide)
theorem kq_some {o : Option Int} (h : ¬ bI o.isSome = 0) : o = some (o.getD 0) := by
  cases o with
  | none => exact absurd rfl h
  | some v => rfl
theorem gm_mx2_0 {lo hi : Nat → Nat} {n : Nat} {f : Nat → Int} {p k : Nat} (h : ¬ p.testBit k = true) : gm_mx2 lo hi n f p (k + 1) = gm_mx2 lo hi n f p k := if_neg h
theorem gm_mx2_1 {lo hi : Nat → Nat} {n : Nat} {f : Nat → Int} {p k : Nat} (h : p.testBit k = true) (h0 : gm_mx2 lo hi n f p k = none) : gm_mx2 lo hi n f p (k + 1) = some (gm_gv lo hi n f p k) := by
  show (if p.testBit k = true then _ else _) = _
  rw [if_pos h, h0]
theorem gm_mx2_2 {lo hi : Nat → Nat} {n : Nat} {f : Nat → Int} {p k : Nat} {b : Int} (h : p.testBit k = true) (h0 : gm_mx2 lo hi n f p k = some b) (hl : ¬ b < gm_gv lo hi n f p k) : gm_mx2 lo hi n f p (k + 1) = some b := by
  show (if p.testBit k = true then _ else _) = _
  rw [if_pos h, h0]
  show some (if _ then _ else _) = _
  rw [if_neg hl]
theorem gm_mx2_3 {lo hi : Nat → Nat} {n : Nat} {f : Nat → Int} {p k : Nat} {b : Int} (h : p.testBit k = true) (h0 : gm_mx2 lo hi n f p k = some b) (hl : b < gm_gv lo hi n f p k) : gm_mx2 lo hi n f p (k + 1) = some (gm_gv lo hi n f p k) := by
  show (if p.testBit k = true then _ else _) = _
  rw [if_pos h, h0]
  show some (if _ then _ else _) = _
  rw [if_pos hl]
theorem gm_mx2_bd {lo hi : Nat → Nat} {n : Nat} (ok : gm_ok lo hi n) {p : Nat} (hp : p < 2 ^ n) {k : Nat} (hk : k ≤ n) {b : Int} (h : gm_mx2 lo hi n (gm_mg lo hi n) p k = some b) : -8 ≤ b ∧ b ≤ 8 := by
  rcases gm_mx2_eq (lo := lo) (hi := hi) (n := n) (f := gm_mg lo hi n) (p := p) k (fun i hi' hb => (gm_gv_8 ok hp (by omega) hb).1) with ⟨e1, -, -⟩ | e1
  · rw [e1] at h
    cases h
  · rw [e1] at h
    have h := Option.some.inj h
    rw [← h]
    exact ⟨gm_mx_lo lo hi n _ p k, gm_mx_8 ok hp hk⟩
/-- a value as a bit -/
def gm_vb (v : Int) : Nat := if v = -1 then 0 else 2 ^ v.toNat
theorem gm_vb_0 {v : Int} : gm_vb v = 0 ↔ v = -1 := by
  unfold gm_vb
  by_cases h : v = -1
  · rw [if_pos h]; exact ⟨fun _ => h, fun _ => rfl⟩
  · rw [if_neg h]
    have := Nat.two_pow_pos v.toNat
    exact ⟨fun z => by omega, fun z => absurd z h⟩
theorem gm_vb_lt {v : Int} (h : v ≤ 11) : gm_vb v < 4096 := by
  unfold gm_vb
  split
  · omega
  · exact Nat.lt_of_le_of_lt (Nat.pow_le_pow_right (by decide) (show v.toNat ≤ 11 by omega)) (by decide)
theorem gm_stQ {lo hi : Nat → Nat} {n : Nat} {f : Nat → Int} {p k : Nat} (h : p.testBit k = true) (ht : gm_tk lo hi n p k = 0) : gm_st lo hi n f p (k + 1) = ((gm_st lo hi n f p k).1 ||| gm_vb (f (bq_wo p k)), (gm_st lo hi n f p k).2.1, (gm_st lo hi n f p k).2.2) := by
  show (if p.testBit k = true then _ else _) = _
  rw [if_pos h]
  unfold gm_vb
  by_cases hv : f (bq_wo p k) = -1
  · rw [if_pos hv, if_pos hv, ht, Nat.or_zero]
    simp
  · rw [if_neg hv, if_neg hv, if_neg (show ¬ 0 < gm_tk lo hi n p k by omega)]
theorem gm_stT {lo hi : Nat → Nat} {n : Nat} {f : Nat → Int} {p k : Nat} (h : p.testBit k = true) (ht : 0 < gm_tk lo hi n p k) : gm_st lo hi n f p (k + 1) = ((gm_st lo hi n f p k).1, (gm_st lo hi n f p k).2.1 ||| gm_vb (f (bq_wo p k)), (gm_st lo hi n f p k).2.2 || decide (f (bq_wo p k) = -1)) := by
  show (if p.testBit k = true then _ else _) = _
  rw [if_pos h]
  unfold gm_vb
  by_cases hv : f (bq_wo p k) = -1
  · rw [if_pos hv, if_pos hv, Nat.or_zero, decide_eq_true ht, decide_eq_true hv]
  · rw [if_neg hv, if_neg hv, if_pos ht, decide_eq_false hv, Bool.or_false]
theorem gm_tksN {lo hi : Nat → Nat} {n p k : Nat} (h : ¬ p.testBit k = true) : gm_tks lo hi n p (k + 1) = gm_tks lo hi n p k := by
  have h' : p.testBit k = false := by simpa using h
  show (gm_tks lo hi n p k || (p.testBit k && _)) = _
  rw [h', Bool.false_and, Bool.or_false]
theorem gm_tksQ {lo hi : Nat → Nat} {n p k : Nat} (ht : gm_tk lo hi n p k = 0) : gm_tks lo hi n p (k + 1) = gm_tks lo hi n p k := by
  show (gm_tks lo hi n p k || (p.testBit k && decide (0 < gm_tk lo hi n p k))) = _
  rw [ht]
  simp
theorem gm_tksT {lo hi : Nat → Nat} {n p k : Nat} (h : p.testBit k = true) (ht : 0 < gm_tk lo hi n p k) : gm_tks lo hi n p (k + 1) = true := by
  show (gm_tks lo hi n p k || (p.testBit k && decide (0 < gm_tk lo hi n p k))) = _
  rw [h, decide_eq_true ht]
  simp
def gm_pt (t : Nat) : Bool := t == 0 || (if t &&& (t - 1) = 0 then gm_pc t == 1 && t == 2 ^ gm_least (fun i => t.testBit i) else decide (1 < gm_pc t))
theorem gm_pt_tab : ∀ a, a < 64 → ∀ b, b < 64 → gm_pt (64 * a + b) = true := by decide +kernel
theorem gm_pt_ok {t : Nat} (h : t < 4096) (h0 : t ≠ 0) : (t &&& (t - 1) = 0 → gm_pc t = 1 ∧ t = 2 ^ gm_least (fun i => t.testBit i)) ∧ (¬ t &&& (t - 1) = 0 → 1 < gm_pc t) := by
  have h1 := gm_pt_tab (t / 64) (by omega) (t % 64) (by omega)
  rw [Nat.div_add_mod] at h1
  unfold gm_pt at h1
  have h2 : (t == 0) = false := by simpa using h0
  rw [h2, Bool.false_or] at h1
  constructor
  · intro hz
    rw [if_pos hz] at h1
    simpa using h1
  · intro hz
    rw [if_neg hz] at h1
    simpa using h1
theorem rn_q {q : Nat × Nat × Bool} (h2 : q.2.2 = false) (h1 : q.2.1 = 0) : gm_out q = (gm_least (fun i => !q.1.testBit i) : Int) := by
  unfold gm_out
  rw [if_neg (by rw [h2]; decide), if_pos h1]
theorem rn_l {q : Nat × Nat × Bool} (h : q.2.2 = true) : gm_out q = -1 := if_pos h
theorem rn_d {q : Nat × Nat × Bool} (h0 : q.2.1 ≠ 0) (h : 1 < gm_pc q.2.1 ∨ q.2.1 &&& q.1 ≠ 0) : gm_out q = -1 := by
  unfold gm_out
  by_cases h2 : q.2.2 = true
  · rw [if_pos h2]
  · rw [if_neg h2, if_neg h0, if_pos h]
theorem rn_t {q : Nat × Nat × Bool} (h2 : q.2.2 = false) (h0 : q.2.1 ≠ 0) (h : gm_pc q.2.1 = 1) (h3 : q.2.1 &&& q.1 = 0) : gm_out q = (gm_least (fun i => q.2.1.testBit i) : Int) := by
  unfold gm_out
  rw [if_neg (by rw [h2]; decide), if_neg h0, if_neg (by omega)]
theorem gm_tks_T {lo hi : Nat → Nat} {n : Nat} {f : Nat → Int} {p k : Nat} (h : gm_tks lo hi n p k = true) (h2 : (gm_st lo hi n f p k).2.2 = false) : (gm_st lo hi n f p k).2.1 ≠ 0 := fun z => by
  have := (gm_tks_eq (lo := lo) (hi := hi) (n := n) (f := f) (p := p) k).mpr ⟨z, h2⟩
  rw [h] at this
  cases this
theorem kq_pw {J j : Nat} (h : j ≤ J) : 2 ^ J / 2 ^ j = 1 ↔ j = J := by
  rw [Nat.pow_div h (by decide)]
  constructor
  · intro z
    rcases Nat.lt_or_ge j J with q | q
    · have := Nat.pow_le_pow_right (show 0 < 2 by decide) (show 1 ≤ J - j by omega)
      omega
    · omega
  · intro z
    rw [z, Nat.sub_self]
set_option maxRecDepth 100000 in
set_option maxHeartbeats 4000000 in
theorem ct_marginBy {l : Launch} {D : va_G} {kI kB kC kL : ClassId} (rd : Nat → Nat) (th n : Nat) (one two own : Nat → Int32) (bg : Bool) (lf tu : Nat) (tk : Nat → Int32) (cu : Nat) (co tO t0 t1 : Nat → Int32) (sv : Bool) (mg nm : Nat → Int32) (gc : Nat) (go tx : Nat → Int32) (len : Nat) (lo hi : Nat → Nat) (ok : rfOk lo hi n one two own) (p i : Nat) (hp : p < 2 ^ n) (hi1 : i < n) (hb : p.testBit i = true) (hf : mg (bq_wo p i) = iZ (gm_mg lo hi n (bq_wo p i))) : kw_I l mn_R_marginBy (gw mn_R_marginBy cd_R_marginBy 5 (some .int)) ({ frames := 1, cells := 0, slots := 0, locals := 23 } : Room) D cl_v (kt kI kB kC kL) kE [.ref (rd 0), .int (nI i), .int (nI p)] (wRF kI rd th n one two own bg lf tu tk cu co tO t0 t1 sv mg nm gc go tx len) (fun r w => w = wRF kI rd th n one two own bg lf tu tk cu co tO t0 t1 sv mg nm gc go tx len ∧ r = iZ (gm_gv lo hi n (gm_mg lo hi n) p i)) 0 0 := by
  refine kw_ofI (cc := cd_R_marginBy) (maxL := 5) (ty := .int) (by decide) rfl (Nat.le_of_ble_eq_true rfl) rfl ?_
  intro pp ee s m args below meth c A X hr hlk hE hnm
  have hn := ok.1.1
  have hp4 := kq_2n hn hp
  have hlt := bq_wo_lt hb
  have ht2 := gm_tk_2 lo hi n p i
  refine kw_iload_n X dc_R_marginBy_0 rfl rfl ?_
  refine kw_iconst (v := (nI 1)) X dc_R_marginBy_1 (by decide) ?_
  refine kw_iload_n X dc_R_marginBy_2 rfl rfl ?_
  refine kw_ishl X dc_R_marginBy_3 rfl ?_
  refine kw_iconst (v := (-1)) X dc_R_marginBy_4 (by decide) ?_
  refine kw_ixor X dc_R_marginBy_5 rfl ?_
  refine kw_iand (v := nI (bq_wo p i)) X dc_R_marginBy_6 (bq_woI (by omega)) ?_
  refine kw_istore_n X dc_R_marginBy_7 rfl (by decide) ?_
  refine kw_aload_n X dc_R_marginBy_8 rfl rfl ?_
  refine kw_iload_n X dc_R_marginBy_9 rfl rfl ?_
  refine kw_iload_n X dc_R_marginBy_10 rfl rfl ?_
  refine kw_callVI X kEw hE 0 rfl rfl (ct_takes rd th n one two own bg lf tu tk cu co tO t0 t1 sv mg nm gc go tx len lo hi ok p i hp hi1 hb) (cw_V 2 X wd_708 wd_710 wp_15 wd_8 wd_711 rfl rfl (by decide +kernel) ⟨Nat.le_of_ble_eq_true rfl, Nat.le_of_ble_eq_true rfl⟩) [0, 1, 2, 3, 4, 5, 6, 7, 8, 9, 10, 11, 12] rfl (by decide) (fun _ _ h => by obtain ⟨rfl, _⟩ := h; exact Nat.le_refl _) rfl rfl (Nat.le_of_ble_eq_true rfl) dc_R_marginBy_11 ⟨Nat.zero_le _, Nat.zero_le _⟩ (fun r w hp => ?_)
  obtain ⟨rfl, rfl⟩ := hp
  refine kw_cv (ws' := wRF kI rd th n one two own bg lf tu tk cu co tO t0 t1 sv mg nm gc go tx len) rfl rfl rfl ?_
  refine kw_istore X dc_R_marginBy_14 (by decide) ?_
  refine kw_iload X dc_R_marginBy_16 rfl ?_
  refine kw_if_le (tgt := 33) X dc_R_marginBy_18 (by decide) (fun hc18 => ?_) (fun hc18 => ?_)
  · refine kw_aload_n X dc_R_marginBy_33 rfl rfl ?_
    refine kw_get X (wc_R _) 0 rfl rfl 15 (by decide) (gq wd_612) (fun _ h => h) rfl dc_R_marginBy_34 ?_
    refine kw_iload_n X dc_R_marginBy_37 rfl rfl ?_
    refine kw_iald (v := iZ (gm_mg lo hi n (bq_wo p i))) X 9 0 rfl rfl (kq_in (by omega) (by omega)) (by rw [kq_cl (by omega)]; exact hf) dc_R_marginBy_38 ?_
    refine kw_ineg (v := iZ (-gm_mg lo hi n (bq_wo p i))) X dc_R_marginBy_39 (iZ_neg _) ?_
    exact kw_iret X hr hlk dc_R_marginBy_40 ⟨rfl, by unfold gm_gv; first | rw [if_pos (by have := kq_nle (b := 0) hc18; omega)] | rw [if_neg (by have := kq_le (b := 0) hc18; omega)]⟩
  · refine kw_iload X dc_R_marginBy_21 rfl ?_
    refine kw_aload_n X dc_R_marginBy_23 rfl rfl ?_
    refine kw_get X (wc_R _) 0 rfl rfl 15 (by decide) (gq wd_612) (fun _ h => h) rfl dc_R_marginBy_24 ?_
    refine kw_iload_n X dc_R_marginBy_27 rfl rfl ?_
    refine kw_iald (v := iZ (gm_mg lo hi n (bq_wo p i))) X 9 0 rfl rfl (kq_in (by omega) (by omega)) (by rw [kq_cl (by omega)]; exact hf) dc_R_marginBy_28 ?_
    refine kw_iadd (v := iZ ((gm_tk lo hi n p i : Int) + gm_mg lo hi n (bq_wo p i))) X dc_R_marginBy_29 (by rw [← iZ_nat, iZ_add]) ?_
    refine kw_goto (tgt := 40) X dc_R_marginBy_30 (by decide) ?_
    exact kw_iret X hr hlk dc_R_marginBy_40 ⟨rfl, by unfold gm_gv; first | rw [if_pos (by have := kq_nle (b := 0) hc18; omega)] | rw [if_neg (by have := kq_le (b := 0) hc18; omega)]⟩
set_option maxRecDepth 100000 in
set_option maxHeartbeats 4000000 in
theorem ct_marginOf {l : Launch} {D : va_G} {kI kB kC kL : ClassId} (rd : Nat → Nat) (th n : Nat) (one two own : Nat → Int32) (bg : Bool) (lf tu : Nat) (tk : Nat → Int32) (cu : Nat) (co tO t0 t1 : Nat → Int32) (sv : Bool) (mg nm : Nat → Int32) (gc : Nat) (go tx : Nat → Int32) (len : Nat) (lo hi : Nat → Nat) (ok : rfOk lo hi n one two own) (p : Nat) (hp : p < 2 ^ n) (hf : ∀ q, q < p → mg q = iZ (gm_mg lo hi n q)) : kw_I l mn_R_marginOf (gw mn_R_marginOf cd_R_marginOf 6 (some .int)) ({ frames := 2, cells := 0, slots := 0, locals := 47 } : Room) D cl_v (kt kI kB kC kL) kE [.ref (rd 0), .int (nI p)] (wRF kI rd th n one two own bg lf tu tk cu co tO t0 t1 sv mg nm gc go tx len) (fun r w => w = wRF kI rd th n one two own bg lf tu tk cu co tO t0 t1 sv mg nm gc go tx len ∧ r = iZ (gm_mg lo hi n p)) 0 0 := by
  refine kw_ofI (cc := cd_R_marginOf) (maxL := 6) (ty := .int) (by decide) rfl (Nat.le_of_ble_eq_true rfl) rfl ?_
  intro pp ee s m args below meth c A X hr hlk hE hnm
  have hn := ok.1.1
  have hp4 := kq_2n hn hp
  refine kw_iconst (v := (nI 0)) X dc_R_marginOf_0 (by decide) ?_
  refine kw_istore_n X dc_R_marginOf_1 rfl (by decide) ?_
  refine kw_iconst (v := (nI 0)) X dc_R_marginOf_2 (by decide) ?_
  refine kw_istore_n X dc_R_marginOf_3 rfl (by decide) ?_
  refine kw_iconst (v := (nI 0)) X dc_R_marginOf_4 (by decide) ?_
  refine kw_istore X dc_R_marginOf_5 (by decide) ?_
  refine kw_loop (α := Nat) (fun k => k ≤ n) (fun k => n - k) (fun _ => wRF kI rd th n one two own bg lf tu tk cu co tO t0 t1 sv mg nm gc go tx len) (fun k => [some (.ref (rd 0)), some (.int (nI p)), some (.int (iZ ((gm_mx2 lo hi n (gm_mg lo hi n) p k).getD 0))), some (.int (bI (gm_mx2 lo hi n (gm_mg lo hi n) p k).isSome)), some (.int (nI k)), none]) (fun _ => []) 0 (Nat.zero_le _) (fun k hk ih => ?_)
  refine kw_iload X dc_R_marginOf_7 rfl ?_
  refine kw_aload_n X dc_R_marginOf_9 rfl rfl ?_
  refine kw_get X (wc_R _) 0 rfl rfl 1 (by decide) (gq wd_598) (fun _ h => h) rfl dc_R_marginOf_10 ?_
  refine kw_icmp_ge (tgt := 60) X dc_R_marginOf_13 (by decide) (fun hc13 => ?_) (fun hc13 => ?_)
  · refine kw_iload_n X dc_R_marginOf_60 rfl rfl ?_
    exact kw_iret X hr hlk dc_R_marginOf_61 ⟨rfl, by have hkn : n = k := Nat.le_antisymm (kq_le hc13) hk; subst hkn; rw [gm_mx2_mg ok.1 hp]⟩
  · have hkn := kq_nle hc13
    refine kw_iload_n X dc_R_marginOf_16 rfl rfl ?_
    refine kw_iload X dc_R_marginOf_17 rfl ?_
    refine kw_ishr X dc_R_marginOf_19 rfl ?_
    refine kw_iconst (v := (nI 1)) X dc_R_marginOf_20 (by decide) ?_
    refine kw_iand X dc_R_marginOf_21 rfl ?_
    refine kw_iconst (v := (nI 1)) X dc_R_marginOf_22 (by decide) ?_
    refine kw_icmp_ne (tgt := 54) X dc_R_marginOf_23 (by decide) (fun hc23 => ?_) (fun hc23 => ?_)
    · have h23 : ¬ p.testBit k = true := fun z => hc23 ((kq_has (by omega) (by omega)).mpr z)
      have hm := gm_mx2_0 (lo := lo) (hi := hi) (n := n) (f := gm_mg lo hi n) h23
      refine kw_iinc (v := nI (k + 1)) X dc_R_marginOf_54 rfl (kq_inc k) (by decide) ?_
      refine kw_goto (tgt := 7) X dc_R_marginOf_57 (by decide) ?_
      refine kw_kill 5 ?_
      refine kw_cv (lv' := [some (.ref (rd 0)), some (.int (nI p)), some (.int (iZ ((gm_mx2 lo hi n (gm_mg lo hi n) p (k + 1)).getD 0))), some (.int (bI (gm_mx2 lo hi n (gm_mg lo hi n) p (k + 1)).isSome)), some (.int (nI (k + 1))), none]) rfl (by rw [hm]; rfl) rfl ?_
      exact ih (k + 1) (by omega) (by omega)
    · have h23 := (kq_has (by omega) (by omega)).mp hc23
      refine kw_aload_n X dc_R_marginOf_26 rfl rfl ?_
      refine kw_iload X dc_R_marginOf_27 rfl ?_
      refine kw_iload_n X dc_R_marginOf_29 rfl rfl ?_
      refine kw_callVI X kEw hE 0 rfl rfl (ct_marginBy rd th n one two own bg lf tu tk cu co tO t0 t1 sv mg nm gc go tx len lo hi ok p k hp hkn h23 (hf _ (bq_wo_lt h23))) (cw_V 2 X wd_704 wd_706 wp_14 wd_8 wd_707 rfl rfl (by decide +kernel) ⟨Nat.le_of_ble_eq_true rfl, Nat.le_of_ble_eq_true rfl⟩) [0, 1, 2, 3, 4, 5, 6, 7, 8, 9, 10, 11, 12] rfl (by decide) (fun _ _ h => by obtain ⟨rfl, _⟩ := h; exact Nat.le_refl _) rfl rfl (Nat.le_of_ble_eq_true rfl) dc_R_marginOf_30 ⟨Nat.zero_le _, Nat.zero_le _⟩ (fun r w hp => ?_)
      obtain ⟨rfl, rfl⟩ := hp
      refine kw_cv (ws' := wRF kI rd th n one two own bg lf tu tk cu co tO t0 t1 sv mg nm gc go tx len) rfl rfl rfl ?_
      refine kw_istore X dc_R_marginOf_33 (by decide) ?_
      refine kw_iload_n X dc_R_marginOf_35 rfl rfl ?_
      refine kw_if_eq (tgt := 45) X dc_R_marginOf_36 (by decide) (fun hc36 => ?_) (fun hc36 => ?_)
      · have hm := gm_mx2_1 h23 (kq_none hc36)
        refine kw_iload X dc_R_marginOf_45 rfl ?_
        refine kw_goto (tgt := 51) X dc_R_marginOf_47 (by decide) ?_
        refine kw_istore_n X dc_R_marginOf_51 rfl (by decide) ?_
        refine kw_iconst (v := (nI 1)) X dc_R_marginOf_52 (by decide) ?_
        refine kw_istore_n X dc_R_marginOf_53 rfl (by decide) ?_
        refine kw_iinc (v := nI (k + 1)) X dc_R_marginOf_54 rfl (kq_inc k) (by decide) ?_
        refine kw_goto (tgt := 7) X dc_R_marginOf_57 (by decide) ?_
        refine kw_kill 5 ?_
        refine kw_cv (lv' := [some (.ref (rd 0)), some (.int (nI p)), some (.int (iZ ((gm_mx2 lo hi n (gm_mg lo hi n) p (k + 1)).getD 0))), some (.int (bI (gm_mx2 lo hi n (gm_mg lo hi n) p (k + 1)).isSome)), some (.int (nI (k + 1))), none]) rfl (by rw [hm]; rfl) rfl ?_
        exact ih (k + 1) (by omega) (by omega)
      · have h36 := kq_some hc36
        have bb := gm_mx2_bd ok.1 hp hk h36
        have bg8 := gm_gv_8 ok.1 hp hkn h23
        refine kw_iload X dc_R_marginOf_39 rfl ?_
        refine kw_iload_n X dc_R_marginOf_41 rfl rfl ?_
        refine kw_icmp_le (tgt := 50) X dc_R_marginOf_42 (by decide) (fun hc42 => ?_) (fun hc42 => ?_)
        · have hm := gm_mx2_2 h23 h36 (fun z => absurd ((iZ_lt (by omega) (by omega) (by omega) (by omega)).mpr z) (Int32.not_lt.mpr hc42))
          refine kw_iload_n X dc_R_marginOf_50 rfl rfl ?_
          refine kw_istore_n X dc_R_marginOf_51 rfl (by decide) ?_
          refine kw_iconst (v := (nI 1)) X dc_R_marginOf_52 (by decide) ?_
          refine kw_istore_n X dc_R_marginOf_53 rfl (by decide) ?_
          refine kw_iinc (v := nI (k + 1)) X dc_R_marginOf_54 rfl (kq_inc k) (by decide) ?_
          refine kw_goto (tgt := 7) X dc_R_marginOf_57 (by decide) ?_
          refine kw_kill 5 ?_
          refine kw_cv (lv' := [some (.ref (rd 0)), some (.int (nI p)), some (.int (iZ ((gm_mx2 lo hi n (gm_mg lo hi n) p (k + 1)).getD 0))), some (.int (bI (gm_mx2 lo hi n (gm_mg lo hi n) p (k + 1)).isSome)), some (.int (nI (k + 1))), none]) rfl (by rw [hm]; rfl) rfl ?_
          exact ih (k + 1) (by omega) (by omega)
        · have hm := gm_mx2_3 h23 h36 ((iZ_lt (by omega) (by omega) (by omega) (by omega)).mp (Int32.not_le.mp hc42))
          refine kw_iload X dc_R_marginOf_45 rfl ?_
          refine kw_goto (tgt := 51) X dc_R_marginOf_47 (by decide) ?_
          refine kw_istore_n X dc_R_marginOf_51 rfl (by decide) ?_
          refine kw_iconst (v := (nI 1)) X dc_R_marginOf_52 (by decide) ?_
          refine kw_istore_n X dc_R_marginOf_53 rfl (by decide) ?_
          refine kw_iinc (v := nI (k + 1)) X dc_R_marginOf_54 rfl (kq_inc k) (by decide) ?_
          refine kw_goto (tgt := 7) X dc_R_marginOf_57 (by decide) ?_
          refine kw_kill 5 ?_
          refine kw_cv (lv' := [some (.ref (rd 0)), some (.int (nI p)), some (.int (iZ ((gm_mx2 lo hi n (gm_mg lo hi n) p (k + 1)).getD 0))), some (.int (bI (gm_mx2 lo hi n (gm_mg lo hi n) p (k + 1)).isSome)), some (.int (nI (k + 1))), none]) rfl (by rw [hm]; rfl) rfl ?_
          exact ih (k + 1) (by omega) (by omega)
set_option maxRecDepth 100000 in
set_option maxHeartbeats 4000000 in
theorem ct_nimOf {l : Launch} {D : va_G} {kI kB kC kL : ClassId} (rd : Nat → Nat) (th n : Nat) (one two own : Nat → Int32) (bg : Bool) (lf tu : Nat) (tk : Nat → Int32) (cu : Nat) (co tO t0 t1 : Nat → Int32) (sv : Bool) (mg nm : Nat → Int32) (gc : Nat) (go tx : Nat → Int32) (len : Nat) (lo hi : Nat → Nat) (ok : rfOk lo hi n one two own) (p : Nat) (hp : p < 2 ^ n) (hf : ∀ q, q < p → nm q = iZ (gm_nm lo hi n q)) : kw_I l mn_R_nimOf (gw mn_R_nimOf cd_R_nimOf 9 (some .int)) ({ frames := 1, cells := 0, slots := 0, locals := 23 } : Room) D cl_v (kt kI kB kC kL) kE [.ref (rd 0), .int (nI p)] (wRF kI rd th n one two own bg lf tu tk cu co tO t0 t1 sv mg nm gc go tx len) (fun r w => w = wRF kI rd th n one two own bg lf tu tk cu co tO t0 t1 sv mg nm gc go tx len ∧ r = iZ (gm_nm lo hi n p)) 0 0 := by
  refine kw_ofI (cc := cd_R_nimOf) (maxL := 9) (ty := .int) (by decide) rfl (Nat.le_of_ble_eq_true rfl) rfl ?_
  intro pp ee s m args below meth c A X hr hlk hE hnm
  have hn := ok.1.1
  have hp4 := kq_2n hn hp
  refine kw_iconst (v := (nI 0)) X dc_R_nimOf_0 (by decide) ?_
  refine kw_istore_n X dc_R_nimOf_1 rfl (by decide) ?_
  refine kw_iconst (v := (nI 0)) X dc_R_nimOf_2 (by decide) ?_
  refine kw_istore_n X dc_R_nimOf_3 rfl (by decide) ?_
  refine kw_iconst (v := (nI 0)) X dc_R_nimOf_4 (by decide) ?_
  refine kw_istore X dc_R_nimOf_5 (by decide) ?_
  refine kw_iconst (v := (nI 0)) X dc_R_nimOf_7 (by decide) ?_
  refine kw_istore X dc_R_nimOf_8 (by decide) ?_
  refine kw_iconst (v := (nI 0)) X dc_R_nimOf_10 (by decide) ?_
  refine kw_istore X dc_R_nimOf_11 (by decide) ?_
  refine kw_loop (α := Nat) (fun k => k ≤ n) (fun k => n - k) (fun _ => wRF kI rd th n one two own bg lf tu tk cu co tO t0 t1 sv mg nm gc go tx len) (fun k => [some (.ref (rd 0)), some (.int (nI p)), some (.int (nI (gm_st lo hi n (gm_nm lo hi n) p k).1)), some (.int (nI (gm_st lo hi n (gm_nm lo hi n) p k).2.1)), some (.int (bI (gm_st lo hi n (gm_nm lo hi n) p k).2.2)), some (.int (bI (gm_tks lo hi n p k))), some (.int (nI k)), none, none]) (fun _ => []) 0 (Nat.zero_le _) (fun k hk ih => ?_)
  refine kw_iload X dc_R_nimOf_13 rfl ?_
  refine kw_aload_n X dc_R_nimOf_15 rfl rfl ?_
  refine kw_get X (wc_R _) 0 rfl rfl 1 (by decide) (gq wd_598) (fun _ h => h) rfl dc_R_nimOf_16 ?_
  refine kw_icmp_ge (tgt := 118) X dc_R_nimOf_19 (by decide) (fun hc19 => ?_) (fun hc19 => ?_)
  · have hkn : n = k := Nat.le_antisymm (kq_le hc19) hk
    subst hkn
    obtain ⟨q1, q2⟩ := gm_st_12 (lo := lo) (hi := hi) hn hp (Nat.le_refl n)
    refine kw_iconst (v := (nI 0)) X dc_R_nimOf_118 (by decide) ?_
    refine kw_istore X dc_R_nimOf_119 (by decide) ?_
    refine kw_iload X dc_R_nimOf_121 rfl ?_
    refine kw_if_ne (tgt := 145) X dc_R_nimOf_123 (by decide) (fun hc123 => ?_) (fun hc123 => ?_)
    · have h123 := bI_1 hc123
      refine kw_iload X dc_R_nimOf_145 rfl ?_
      refine kw_if_ne (tgt := 164) X dc_R_nimOf_147 (by decide) (fun hc147 => ?_) (fun hc147 => ?_)
      · have hret := rn_l (bI_1 hc147)
        refine kw_iconst (v := (-1)) X dc_R_nimOf_164 (by decide) ?_
        exact kw_iret X hr hlk dc_R_nimOf_165 ⟨rfl, by rw [gm_nm_eq]; unfold gm_NF; rw [hret]; exact iZ_m1.symm⟩
      · have h147 := bI_0 hc147
        have h0 := gm_tks_T h123 h147
        obtain ⟨pt1, pt2⟩ := gm_pt_ok q2 h0
        refine kw_iload_n X dc_R_nimOf_150 rfl rfl ?_
        refine kw_iload_n X dc_R_nimOf_151 rfl rfl ?_
        refine kw_iconst (v := (nI 1)) X dc_R_nimOf_152 (by decide) ?_
        refine kw_isub (v := nI ((gm_st lo hi n (gm_nm lo hi n) p n).2.1 - 1)) X dc_R_nimOf_153 (pk_sub (Nat.pos_of_ne_zero h0)) ?_
        refine kw_iand (v := nI ((gm_st lo hi n (gm_nm lo hi n) p n).2.1 &&& ((gm_st lo hi n (gm_nm lo hi n) p n).2.1 - 1))) X dc_R_nimOf_154 (nx_and _ _) ?_
        refine kw_if_ne (tgt := 164) X dc_R_nimOf_155 (by decide) (fun hc155 => ?_) (fun hc155 => ?_)
        · have hret := rn_d h0 (Or.inl (pt2 (kq_ne (b := 0) hc155 (Nat.lt_of_le_of_lt Nat.and_le_left (by omega)))))
          refine kw_iconst (v := (-1)) X dc_R_nimOf_164 (by decide) ?_
          exact kw_iret X hr hlk dc_R_nimOf_165 ⟨rfl, by rw [gm_nm_eq]; unfold gm_NF; rw [hret]; exact iZ_m1.symm⟩
        · have h155 := kq_eq (b := 0) hc155 (Nat.lt_of_le_of_lt Nat.and_le_left (by omega))
          obtain ⟨pc1, pw1⟩ := pt1 h155
          refine kw_iload_n X dc_R_nimOf_158 rfl rfl ?_
          refine kw_iload_n X dc_R_nimOf_159 rfl rfl ?_
          refine kw_iand (v := nI ((gm_st lo hi n (gm_nm lo hi n) p n).2.1 &&& (gm_st lo hi n (gm_nm lo hi n) p n).1)) X dc_R_nimOf_160 (nx_and _ _) ?_
          refine kw_if_eq (tgt := 166) X dc_R_nimOf_161 (by decide) (fun hc161 => ?_) (fun hc161 => ?_)
          · have h161 := kq_eq (b := 0) hc161 (Nat.lt_of_le_of_lt Nat.and_le_left (by omega))
            obtain ⟨TJ, eTJ⟩ : ∃ J, J = gm_least (fun i => (gm_st lo hi n (gm_nm lo hi n) p n).2.1.testBit i) := ⟨_, rfl⟩
            rw [← eTJ] at pw1
            have hJ12 : TJ < 12 := by
              rcases Nat.lt_or_ge TJ 12 with q | q
              · exact q
              · have := Nat.pow_le_pow_right (show 0 < 2 by decide) q
                omega
            refine kw_loop (α := Nat) (fun j => j ≤ TJ) (fun j => TJ - j) (fun _ => wRF kI rd th n one two own bg lf tu tk cu co tO t0 t1 sv mg nm gc go tx len) (fun j => [some (.ref (rd 0)), some (.int (nI p)), some (.int (nI (gm_st lo hi n (gm_nm lo hi n) p n).1)), some (.int (nI (gm_st lo hi n (gm_nm lo hi n) p n).2.1)), some (.int (bI (gm_st lo hi n (gm_nm lo hi n) p n).2.2)), some (.int (bI (gm_tks lo hi n p n))), some (.int (nI j)), none, none]) (fun _ => []) 0 (Nat.zero_le _) (fun j hj ih2 => ?_)
            refine kw_iload_n X dc_R_nimOf_166 rfl rfl ?_
            refine kw_iload X dc_R_nimOf_167 rfl ?_
            refine kw_ishr (v := nI (2 ^ TJ / 2 ^ j)) X dc_R_nimOf_169 ((bq_shr (by omega) (by omega)).trans (by rw [← pw1])) ?_
            refine kw_iconst (v := (nI 1)) X dc_R_nimOf_170 (by decide) ?_
            refine kw_icmp_eq (tgt := 180) X dc_R_nimOf_171 (by decide) (fun hc171 => ?_) (fun hc171 => ?_)
            · have h171 := (kq_pw hj).mp (kq_eq (b := 1) hc171 (Nat.lt_of_le_of_lt (Nat.div_le_self _ _) (by omega)))
              refine kw_iload X dc_R_nimOf_180 rfl ?_
              exact kw_iret X hr hlk dc_R_nimOf_182 ⟨rfl, by rw [gm_nm_eq]; unfold gm_NF; rw [rn_t h147 h0 pc1 h161, ← eTJ, h171, iZ_nat]⟩
            · have h171 : j ≠ TJ := fun z => hc171 (congrArg nI ((kq_pw hj).mpr z))
              refine kw_iinc (v := nI (j + 1)) X dc_R_nimOf_174 rfl (kq_inc j) (by decide) ?_
              refine kw_goto (tgt := 166) X dc_R_nimOf_177 (by decide) ?_
              exact ih2 (j + 1) (by omega) (by omega)
          · have hret := rn_d h0 (Or.inr (kq_ne (b := 0) hc161 (Nat.lt_of_le_of_lt Nat.and_le_left (by omega))))
            refine kw_iconst (v := (-1)) X dc_R_nimOf_164 (by decide) ?_
            exact kw_iret X hr hlk dc_R_nimOf_165 ⟨rfl, by rw [gm_nm_eq]; unfold gm_NF; rw [hret]; exact iZ_m1.symm⟩
    · have h123 := bI_0 hc123
      obtain ⟨z1, z2⟩ := (gm_tks_eq (lo := lo) (hi := hi) (n := n) (f := gm_nm lo hi n) (p := p) n).mp h123
      refine kw_loop (α := Nat) (fun j => j ≤ 12 ∧ ∀ i, i < j → (gm_st lo hi n (gm_nm lo hi n) p n).1.testBit i = true) (fun j => 12 - j) (fun _ => wRF kI rd th n one two own bg lf tu tk cu co tO t0 t1 sv mg nm gc go tx len) (fun j => [some (.ref (rd 0)), some (.int (nI p)), some (.int (nI (gm_st lo hi n (gm_nm lo hi n) p n).1)), some (.int (nI (gm_st lo hi n (gm_nm lo hi n) p n).2.1)), some (.int (bI (gm_st lo hi n (gm_nm lo hi n) p n).2.2)), some (.int (bI (gm_tks lo hi n p n))), some (.int (nI j)), none, none]) (fun _ => []) 0 ⟨Nat.zero_le _, fun i hi => absurd hi (Nat.not_lt_zero _)⟩ (fun j hj ih2 => ?_)
      obtain ⟨hj12, hj⟩ := hj
      refine kw_iload_n X dc_R_nimOf_126 rfl rfl ?_
      refine kw_iload X dc_R_nimOf_127 rfl ?_
      refine kw_ishr X dc_R_nimOf_129 rfl ?_
      refine kw_iconst (v := (nI 1)) X dc_R_nimOf_130 (by decide) ?_
      refine kw_iand X dc_R_nimOf_131 rfl ?_
      refine kw_iconst (v := (nI 1)) X dc_R_nimOf_132 (by decide) ?_
      refine kw_icmp_ne (tgt := 142) X dc_R_nimOf_133 (by decide) (fun hc133 => ?_) (fun hc133 => ?_)
      · have h133 : (gm_st lo hi n (gm_nm lo hi n) p n).1.testBit j = false := by
          have h9 : ¬ (gm_st lo hi n (gm_nm lo hi n) p n).1.testBit j = true := fun z => hc133 ((kq_has (by omega) (by omega)).mpr z)
          simpa using h9
        refine kw_iload X dc_R_nimOf_142 rfl ?_
        exact kw_iret X hr hlk dc_R_nimOf_144 ⟨rfl, by rw [gm_nm_eq]; unfold gm_NF; rw [rn_q z2 z1, gm_least_eq hj12 (fun _ => by rw [h133]; rfl) (fun i hi => by rw [hj i hi]; rfl), iZ_nat]⟩
      · have h133 : (gm_st lo hi n (gm_nm lo hi n) p n).1.testBit j = true := (kq_has (by omega) (by omega)).mp hc133
        have hj11 : j < 12 := by
          rcases Nat.lt_or_ge j 12 with q | q
          · exact q
          · rw [bq_of_lt (n := 12) q1 q] at h133; cases h133
        refine kw_iinc (v := nI (j + 1)) X dc_R_nimOf_136 rfl (kq_inc j) (by decide) ?_
        refine kw_goto (tgt := 126) X dc_R_nimOf_139 (by decide) ?_
        exact ih2 (j + 1) ⟨by omega, fun i hi => by rcases Nat.lt_or_ge i j with q | q; (exact hj i q); (have e : i = j := (by omega); rw [e]; exact h133)⟩ (by omega)
  · have hkn := kq_nle hc19
    obtain ⟨q1, q2⟩ := gm_st_12 (lo := lo) (hi := hi) hn hp hk
    refine kw_iload_n X dc_R_nimOf_22 rfl rfl ?_
    refine kw_iload X dc_R_nimOf_23 rfl ?_
    refine kw_ishr X dc_R_nimOf_25 rfl ?_
    refine kw_iconst (v := (nI 1)) X dc_R_nimOf_26 (by decide) ?_
    refine kw_iand X dc_R_nimOf_27 rfl ?_
    refine kw_iconst (v := (nI 1)) X dc_R_nimOf_28 (by decide) ?_
    refine kw_icmp_ne (tgt := 112) X dc_R_nimOf_29 (by decide) (fun hc29 => ?_) (fun hc29 => ?_)
    · have h29 : ¬ p.testBit k = true := fun z => hc29 ((kq_has (by omega) (by omega)).mpr z)
      have hm := gm_stA (lo := lo) (hi := hi) (n := n) (f := gm_nm lo hi n) h29
      have hs := gm_tksN (lo := lo) (hi := hi) (n := n) h29
      refine kw_iinc (v := nI (k + 1)) X dc_R_nimOf_112 rfl (kq_inc k) (by decide) ?_
      refine kw_goto (tgt := 13) X dc_R_nimOf_115 (by decide) ?_
      refine kw_kill 7 ?_
      refine kw_kill 8 ?_
      refine kw_cv (lv' := [some (.ref (rd 0)), some (.int (nI p)), some (.int (nI (gm_st lo hi n (gm_nm lo hi n) p (k + 1)).1)), some (.int (nI (gm_st lo hi n (gm_nm lo hi n) p (k + 1)).2.1)), some (.int (bI (gm_st lo hi n (gm_nm lo hi n) p (k + 1)).2.2)), some (.int (bI (gm_tks lo hi n p (k + 1)))), some (.int (nI (k + 1))), none, none]) rfl (by rw [hm, hs]; rfl) rfl ?_
      exact ih (k + 1) (by omega) (by omega)
    · have h29 := (kq_has (by omega) (by omega)).mp hc29
      have hlt := bq_wo_lt h29
      have b11 := gm_nm_11 (lo := lo) (hi := hi) hn hp hkn h29
      have vbl := gm_vb_lt b11.2
      have ht2 := gm_tk_2 lo hi n p k
      refine kw_iload_n X dc_R_nimOf_32 rfl rfl ?_
      refine kw_iconst (v := (nI 1)) X dc_R_nimOf_33 (by decide) ?_
      refine kw_iload X dc_R_nimOf_34 rfl ?_
      refine kw_ishl X dc_R_nimOf_36 rfl ?_
      refine kw_iconst (v := (-1)) X dc_R_nimOf_37 (by decide) ?_
      refine kw_ixor X dc_R_nimOf_38 rfl ?_
      refine kw_iand (v := nI (bq_wo p k)) X dc_R_nimOf_39 (bq_woI (by omega)) ?_
      refine kw_istore X dc_R_nimOf_40 (by decide) ?_
      refine kw_jn (α := Unit) (fun _ => True) (fun _ => wRF kI rd th n one two own bg lf tu tk cu co tO t0 t1 sv mg nm gc go tx len) (fun _ => [some (.ref (rd 0)), some (.int (nI p)), some (.int (nI (gm_st lo hi n (gm_nm lo hi n) p k).1)), some (.int (nI (gm_st lo hi n (gm_nm lo hi n) p k).2.1)), some (.int (bI (gm_st lo hi n (gm_nm lo hi n) p k).2.2)), some (.int (bI (gm_tks lo hi n p k))), some (.int (nI k)), some (.int (nI (bq_wo p k))), none]) (fun _ => [.int (nI (gm_vb (gm_nm lo hi n (bq_wo p k))))]) 66 (fun _ _ => ?_) (fun jn1 => ?_)
      · refine kw_istore X dc_R_nimOf_66 (by decide) ?_
        refine kw_aload_n X dc_R_nimOf_68 rfl rfl ?_
        refine kw_iload X dc_R_nimOf_69 rfl ?_
        refine kw_iload X dc_R_nimOf_71 rfl ?_
        refine kw_callVI X kEw hE 0 rfl rfl (ct_takes rd th n one two own bg lf tu tk cu co tO t0 t1 sv mg nm gc go tx len lo hi ok p k hp hkn h29) (cw_V 2 X wd_708 wd_710 wp_15 wd_8 wd_711 rfl rfl (by decide +kernel) ⟨Nat.le_of_ble_eq_true rfl, Nat.le_of_ble_eq_true rfl⟩) [0, 1, 2, 3, 4, 5, 6, 7, 8, 9, 10, 11, 12] rfl (by decide) (fun _ _ h => by obtain ⟨rfl, _⟩ := h; exact Nat.le_refl _) rfl rfl (Nat.le_of_ble_eq_true rfl) dc_R_nimOf_73 ⟨Nat.zero_le _, Nat.zero_le _⟩ (fun r w hp => ?_)
        obtain ⟨rfl, rfl⟩ := hp
        refine kw_cv (ws' := wRF kI rd th n one two own bg lf tu tk cu co tO t0 t1 sv mg nm gc go tx len) rfl rfl rfl ?_
        refine kw_if_ne (tgt := 87) X dc_R_nimOf_76 (by decide) (fun hc76 => ?_) (fun hc76 => ?_)
        · have h76 : 0 < gm_tk lo hi n p k := by have := kq_ne (b := 0) hc76; omega
          have hm := gm_stT (f := gm_nm lo hi n) h29 h76
          have hs := gm_tksT h29 h76
          refine kw_iconst (v := (nI 1)) X dc_R_nimOf_87 (by decide) ?_
          refine kw_istore X dc_R_nimOf_88 (by decide) ?_
          refine kw_jn (α := Unit) (fun _ => True) (fun _ => wRF kI rd th n one two own bg lf tu tk cu co tO t0 t1 sv mg nm gc go tx len) (fun _ => [some (.ref (rd 0)), some (.int (nI p)), some (.int (nI (gm_st lo hi n (gm_nm lo hi n) p k).1)), some (.int (nI (gm_st lo hi n (gm_nm lo hi n) p k).2.1)), some (.int (bI (gm_st lo hi n (gm_nm lo hi n) p k).2.2)), some (.int (nI 1)), some (.int (nI k)), some (.int (nI (bq_wo p k))), some (.int (nI (gm_vb (gm_nm lo hi n (bq_wo p k)))))]) (fun _ => [.int (bI ((gm_st lo hi n (gm_nm lo hi n) p k).2.2 || decide (gm_nm lo hi n (bq_wo p k) = -1)))]) 105 (fun _ _ => ?_) (fun jn2 => ?_)
          · refine kw_istore X dc_R_nimOf_105 (by decide) ?_
            refine kw_iload_n X dc_R_nimOf_107 rfl rfl ?_
            refine kw_iload X dc_R_nimOf_108 rfl ?_
            refine kw_ior (v := nI ((gm_st lo hi n (gm_nm lo hi n) p k).2.1 ||| gm_vb (gm_nm lo hi n (bq_wo p k)))) X dc_R_nimOf_110 (bq_or _ _) ?_
            refine kw_istore_n X dc_R_nimOf_111 rfl (by decide) ?_
            refine kw_iinc (v := nI (k + 1)) X dc_R_nimOf_112 rfl (kq_inc k) (by decide) ?_
            refine kw_goto (tgt := 13) X dc_R_nimOf_115 (by decide) ?_
            refine kw_kill 7 ?_
            refine kw_kill 8 ?_
            refine kw_cv (lv' := [some (.ref (rd 0)), some (.int (nI p)), some (.int (nI (gm_st lo hi n (gm_nm lo hi n) p (k + 1)).1)), some (.int (nI (gm_st lo hi n (gm_nm lo hi n) p (k + 1)).2.1)), some (.int (bI (gm_st lo hi n (gm_nm lo hi n) p (k + 1)).2.2)), some (.int (bI (gm_tks lo hi n p (k + 1)))), some (.int (nI (k + 1))), none, none]) rfl (by rw [hm, hs]; rfl) rfl ?_
            exact ih (k + 1) (by omega) (by omega)
          · refine kw_iload X dc_R_nimOf_90 rfl ?_
            refine kw_if_ne (tgt := 100) X dc_R_nimOf_92 (by decide) (fun hc92 => ?_) (fun hc92 => ?_)
            · have h92 := bI_1 hc92
              refine kw_iconst (v := (nI 1)) X dc_R_nimOf_100 (by decide) ?_
              refine kw_goto (tgt := 105) X dc_R_nimOf_101 (by decide) ?_
              first
                | (refine kw_top (y := bI ((gm_st lo hi n (gm_nm lo hi n) p k).2.2 || decide (gm_nm lo hi n (bq_wo p k) = -1))) (bI_or1 h92) ?_; exact jn2 () trivial)
                | (refine kw_top (y := bI ((gm_st lo hi n (gm_nm lo hi n) p k).2.2 || decide (gm_nm lo hi n (bq_wo p k) = -1))) (bI_or2 h97) ?_; exact jn2 () trivial)
                | (refine kw_top (y := bI ((gm_st lo hi n (gm_nm lo hi n) p k).2.2 || decide (gm_nm lo hi n (bq_wo p k) = -1))) (bI_or0 h92n h97n) ?_; exact jn2 () trivial)
            · have h92n := bI_0 hc92
              refine kw_iload X dc_R_nimOf_95 rfl ?_
              refine kw_if_ne (tgt := 104) X dc_R_nimOf_97 (by decide) (fun hc97 => ?_) (fun hc97 => ?_)
              · have h97n : decide (gm_nm lo hi n (bq_wo p k) = -1) = false := decide_eq_false (fun z => hc97 (by rw [gm_vb_0.mpr z]; rfl))
                refine kw_iconst (v := (nI 0)) X dc_R_nimOf_104 (by decide) ?_
                first
                  | (refine kw_top (y := bI ((gm_st lo hi n (gm_nm lo hi n) p k).2.2 || decide (gm_nm lo hi n (bq_wo p k) = -1))) (bI_or1 h92) ?_; exact jn2 () trivial)
                  | (refine kw_top (y := bI ((gm_st lo hi n (gm_nm lo hi n) p k).2.2 || decide (gm_nm lo hi n (bq_wo p k) = -1))) (bI_or2 h97) ?_; exact jn2 () trivial)
                  | (refine kw_top (y := bI ((gm_st lo hi n (gm_nm lo hi n) p k).2.2 || decide (gm_nm lo hi n (bq_wo p k) = -1))) (bI_or0 h92n h97n) ?_; exact jn2 () trivial)
              · have h97 : decide (gm_nm lo hi n (bq_wo p k) = -1) = true := decide_eq_true (gm_vb_0.mp (kq_eq (b := 0) hc97))
                refine kw_iconst (v := (nI 1)) X dc_R_nimOf_100 (by decide) ?_
                refine kw_goto (tgt := 105) X dc_R_nimOf_101 (by decide) ?_
                first
                  | (refine kw_top (y := bI ((gm_st lo hi n (gm_nm lo hi n) p k).2.2 || decide (gm_nm lo hi n (bq_wo p k) = -1))) (bI_or1 h92) ?_; exact jn2 () trivial)
                  | (refine kw_top (y := bI ((gm_st lo hi n (gm_nm lo hi n) p k).2.2 || decide (gm_nm lo hi n (bq_wo p k) = -1))) (bI_or2 h97) ?_; exact jn2 () trivial)
                  | (refine kw_top (y := bI ((gm_st lo hi n (gm_nm lo hi n) p k).2.2 || decide (gm_nm lo hi n (bq_wo p k) = -1))) (bI_or0 h92n h97n) ?_; exact jn2 () trivial)
        · have h76 : gm_tk lo hi n p k = 0 := kq_eq (b := 0) hc76
          have hm := gm_stQ (f := gm_nm lo hi n) h29 h76
          have hs := gm_tksQ h76
          refine kw_iload_n X dc_R_nimOf_79 rfl rfl ?_
          refine kw_iload X dc_R_nimOf_80 rfl ?_
          refine kw_ior (v := nI ((gm_st lo hi n (gm_nm lo hi n) p k).1 ||| gm_vb (gm_nm lo hi n (bq_wo p k)))) X dc_R_nimOf_82 (bq_or _ _) ?_
          refine kw_istore_n X dc_R_nimOf_83 rfl (by decide) ?_
          refine kw_goto (tgt := 112) X dc_R_nimOf_84 (by decide) ?_
          refine kw_iinc (v := nI (k + 1)) X dc_R_nimOf_112 rfl (kq_inc k) (by decide) ?_
          refine kw_goto (tgt := 13) X dc_R_nimOf_115 (by decide) ?_
          refine kw_kill 7 ?_
          refine kw_kill 8 ?_
          refine kw_cv (lv' := [some (.ref (rd 0)), some (.int (nI p)), some (.int (nI (gm_st lo hi n (gm_nm lo hi n) p (k + 1)).1)), some (.int (nI (gm_st lo hi n (gm_nm lo hi n) p (k + 1)).2.1)), some (.int (bI (gm_st lo hi n (gm_nm lo hi n) p (k + 1)).2.2)), some (.int (bI (gm_tks lo hi n p (k + 1)))), some (.int (nI (k + 1))), none, none]) rfl (by rw [hm, hs]; rfl) rfl ?_
          exact ih (k + 1) (by omega) (by omega)
      · refine kw_aload_n X dc_R_nimOf_42 rfl rfl ?_
        refine kw_get X (wc_R _) 0 rfl rfl 16 (by decide) (gq wd_613) (fun _ h => h) rfl dc_R_nimOf_43 ?_
        refine kw_iload X dc_R_nimOf_46 rfl ?_
        refine kw_iald (v := iZ (gm_nm lo hi n (bq_wo p k))) X 10 0 rfl rfl (kq_in (by omega) (by omega)) (by rw [kq_cl (by omega)]; exact hf _ hlt) dc_R_nimOf_48 ?_
        refine kw_iconst (v := (-1)) X dc_R_nimOf_49 (by decide) ?_
        refine kw_icmp_ne (tgt := 57) X dc_R_nimOf_50 (by decide) (fun hc50 => ?_) (fun hc50 => ?_)
        · have h50n : ¬ gm_nm lo hi n (bq_wo p k) = -1 := fun z => hc50 (by rw [z]; exact iZ_m1)
          refine kw_iconst (v := (nI 1)) X dc_R_nimOf_57 (by decide) ?_
          refine kw_aload_n X dc_R_nimOf_58 rfl rfl ?_
          refine kw_get X (wc_R _) 0 rfl rfl 16 (by decide) (gq wd_613) (fun _ h => h) rfl dc_R_nimOf_59 ?_
          refine kw_iload X dc_R_nimOf_62 rfl ?_
          refine kw_iald (v := nI (gm_nm lo hi n (bq_wo p k)).toNat) X 10 0 rfl rfl (kq_in (by omega) (by omega)) (by rw [kq_cl (by omega), hf _ hlt]; exact iZ_pos (by omega)) dc_R_nimOf_64 ?_
          refine kw_ishl (v := nI (gm_vb (gm_nm lo hi n (bq_wo p k)))) X dc_R_nimOf_65 ((bq_shl (by omega)).trans (congrArg nI (if_neg h50n).symm)) ?_
          first
            | (refine kw_top (y := nI (gm_vb (gm_nm lo hi n (bq_wo p k)))) (show nI 0 = _ from congrArg nI (gm_vb_0.mpr h50).symm) ?_; exact jn1 () trivial)
            | exact jn1 () trivial
        · have h50 : gm_nm lo hi n (bq_wo p k) = -1 := (iZ_inj (b := -1) (by omega) (by omega) (by omega) (by omega)).mp hc50
          refine kw_iconst (v := (nI 0)) X dc_R_nimOf_53 (by decide) ?_
          refine kw_goto (tgt := 66) X dc_R_nimOf_54 (by decide) ?_
          first
            | (refine kw_top (y := nI (gm_vb (gm_nm lo hi n (bq_wo p k)))) (show nI 0 = _ from congrArg nI (gm_vb_0.mpr h50).symm) ?_; exact jn1 () trivial)
            | exact jn1 () trivial
end
section
set_option maxRecDepth 100000 in
set_option maxHeartbeats 4000000 in
theorem ct_solve {l : Launch} {D : va_G} {kI kB kC kL : ClassId} (rd : Nat → Nat) (th n : Nat) (one two own : Nat → Int32) (bg : Bool) (lf tu : Nat) (tk : Nat → Int32) (cu : Nat) (co tO t0 t1 : Nat → Int32) (sv : Bool) (mg nm : Nat → Int32) (gc : Nat) (go tx : Nat → Int32) (len : Nat) (lo hi : Nat → Nat) (ok : rfOk lo hi n one two own) (hsv : (sv = true ∧ ∀ q, q < 2 ^ n → mg q = iZ (gm_mg lo hi n q) ∧ nm q = iZ (gm_nm lo hi n q)) ∨ sv = false) : kw_V l mn_R_solve (gw mn_R_solve cd_R_solve 2 none) ({ frames := 3, cells := 0, slots := 0, locals := 72 } : Room) D cl_v (kt kI kB kC kL) kE [.ref (rd 0)] (wRF kI rd th n one two own bg lf tu tk cu co tO t0 t1 sv mg nm gc go tx len) (fun w => ∃ mg2 nm2 : Nat → Int32, w = wRF kI rd th n one two own bg lf tu tk cu co tO t0 t1 true mg2 nm2 gc go tx len ∧ ∀ q, q < 2 ^ n → mg2 q = iZ (gm_mg lo hi n q) ∧ nm2 q = iZ (gm_nm lo hi n q)) 0 0 := by
  refine kw_ofV (cc := cd_R_solve) (maxL := 2) (by decide) rfl (Nat.le_of_ble_eq_true rfl) rfl ?_
  intro pp ee s m args below meth c A X hr hlk hE hnm
  have hn := ok.1.1
  have h2n : 2 ^ n ≤ 4096 := show 2 ^ n ≤ 2 ^ 12 from Nat.pow_le_pow_right (by decide) hn
  have h2p := Nat.two_pow_pos n
  refine kw_iconst (v := (nI 0)) X dc_R_solve_0 (by decide) ?_
  refine kw_istore_n X dc_R_solve_1 rfl (by decide) ?_
  refine kw_loop (α := Nat) (fun k => k ≤ 2 ^ n) (fun k => 2 ^ n - k) (fun k => wRF kI rd th n one two own bg lf tu tk cu co tO t0 t1 sv (kq_pre (fun q => iZ (gm_mg lo hi n q)) mg k) (kq_pre (fun q => iZ (gm_nm lo hi n q)) nm k) gc go tx len) (fun k => [some (.ref (rd 0)), some (.int (nI k))]) (fun _ => []) 0 (Nat.zero_le _) (fun k hk ih => ?_)
  refine kw_iload_n X dc_R_solve_2 rfl rfl ?_
  refine kw_iconst (v := (nI 1)) X dc_R_solve_3 (by decide) ?_
  refine kw_aload_n X dc_R_solve_4 rfl rfl ?_
  refine kw_get X (wc_R _) 0 rfl rfl 1 (by decide) (gq wd_598) (fun _ h => h) rfl dc_R_solve_5 ?_
  refine kw_ishl (v := nI (2 ^ n)) X dc_R_solve_8 (bq_shl (by omega)) ?_
  refine kw_icmp_ge (tgt := 47) X dc_R_solve_9 (by decide) (fun hc9 => ?_) (fun hc9 => ?_)
  · have hT : ∀ q, q < 2 ^ n → (kq_pre (fun q => iZ (gm_mg lo hi n q)) mg k) q = iZ (gm_mg lo hi n q) ∧ (kq_pre (fun q => iZ (gm_nm lo hi n q)) nm k) q = iZ (gm_nm lo hi n q) := fun q hq => ⟨kq_pre_lt (by have := kq_le hc9; omega), kq_pre_lt (by have := kq_le hc9; omega)⟩
    refine kw_aload_n X dc_R_solve_47 rfl rfl ?_
    refine kw_iconst (v := (nI 1)) X dc_R_solve_48 (by decide) ?_
    refine kw_putf (ty := .boolean) X (wc_R _) fy_R fk_R fn_R 0 rfl rfl 14 (by decide) (gq wd_611) (fun _ h => h) rfl (by decide +kernel) rfl rfl (Nat.le_of_ble_eq_true rfl) dc_R_solve_49 ?_
    exact kw_vret X hr hlk dc_R_solve_52 ⟨_, _, rfl, hT⟩
  · have hkn : k < 2 ^ n := kq_nle hc9
    refine kw_aload_n X dc_R_solve_12 rfl rfl ?_
    refine kw_get X (wc_R _) 0 rfl rfl 14 (by decide) (gq wd_611) (fun _ h => h) rfl dc_R_solve_13 ?_
    refine kw_if_ne (tgt := 47) X dc_R_solve_16 (by decide) (fun hc16 => ?_) (fun hc16 => ?_)
    · have hT : ∀ q, q < 2 ^ n → (kq_pre (fun q => iZ (gm_mg lo hi n q)) mg k) q = iZ (gm_mg lo hi n q) ∧ (kq_pre (fun q => iZ (gm_nm lo hi n q)) nm k) q = iZ (gm_nm lo hi n q) := fun q hq => by
        rcases hsv with ⟨_, h⟩ | h
        · obtain ⟨h1, h2⟩ := h q hq
          rcases Nat.lt_or_ge q k with z | z
          · exact ⟨kq_pre_lt z, kq_pre_lt z⟩
          · exact ⟨(kq_pre_ge z).trans h1, (kq_pre_ge z).trans h2⟩
        · rw [h] at hc16; exact absurd rfl hc16
      refine kw_aload_n X dc_R_solve_47 rfl rfl ?_
      refine kw_iconst (v := (nI 1)) X dc_R_solve_48 (by decide) ?_
      refine kw_putf (ty := .boolean) X (wc_R _) fy_R fk_R fn_R 0 rfl rfl 14 (by decide) (gq wd_611) (fun _ h => h) rfl (by decide +kernel) rfl rfl (Nat.le_of_ble_eq_true rfl) dc_R_solve_49 ?_
      exact kw_vret X hr hlk dc_R_solve_52 ⟨_, _, rfl, hT⟩
    · refine kw_aload_n X dc_R_solve_19 rfl rfl ?_
      refine kw_get X (wc_R _) 0 rfl rfl 15 (by decide) (gq wd_612) (fun _ h => h) rfl dc_R_solve_20 ?_
      refine kw_iload_n X dc_R_solve_23 rfl rfl ?_
      refine kw_aload_n X dc_R_solve_24 rfl rfl ?_
      refine kw_iload_n X dc_R_solve_25 rfl rfl ?_
      refine kw_callVI X kEw hE 0 rfl rfl (ct_marginOf rd th n one two own bg lf tu tk cu co tO t0 t1 sv (kq_pre (fun q => iZ (gm_mg lo hi n q)) mg k) (kq_pre (fun q => iZ (gm_nm lo hi n q)) nm k) gc go tx len lo hi ok k hkn (fun q hq => kq_pre_lt hq)) (cw_V 1 X wd_700 wd_702 wp_13 wd_8 wd_703 rfl rfl (by decide +kernel) ⟨Nat.le_of_ble_eq_true rfl, Nat.le_of_ble_eq_true rfl⟩) [0, 1, 2, 3, 4, 5, 6, 7, 8, 9, 10, 11, 12] rfl (by decide) (fun _ _ h => by obtain ⟨rfl, _⟩ := h; exact Nat.le_refl _) rfl rfl (Nat.le_of_ble_eq_true rfl) dc_R_solve_26 ⟨Nat.zero_le _, Nat.zero_le _⟩ (fun r w hp => ?_)
      obtain ⟨rfl, rfl⟩ := hp
      refine kw_cv (ws' := wRF kI rd th n one two own bg lf tu tk cu co tO t0 t1 sv (kq_pre (fun q => iZ (gm_mg lo hi n q)) mg k) (kq_pre (fun q => iZ (gm_nm lo hi n q)) nm k) gc go tx len) rfl rfl rfl ?_
      refine kw_iast X 9 0 rfl rfl (kq_in (by omega) (by omega)) dc_R_solve_29 ?_
      refine kw_cv (ws' := wRF kI rd th n one two own bg lf tu tk cu co tO t0 t1 sv (kq_pre (fun q => iZ (gm_mg lo hi n q)) mg (k + 1)) (kq_pre (fun q => iZ (gm_nm lo hi n q)) nm k) gc go tx len) (by
        show wRF kI rd th n one two own bg lf tu tk cu co tO t0 t1 sv (upd (kq_pre (fun q => iZ (gm_mg lo hi n q)) mg k) (nI k).toNatClampNeg (iZ (gm_mg lo hi n k))) (kq_pre (fun q => iZ (gm_nm lo hi n q)) nm k) gc go tx len = _
        rw [kq_cl (by omega), kq_pre_upd rfl]) rfl rfl ?_
      refine kw_aload_n X dc_R_solve_30 rfl rfl ?_
      refine kw_get X (wc_R _) 0 rfl rfl 16 (by decide) (gq wd_613) (fun _ h => h) rfl dc_R_solve_31 ?_
      refine kw_iload_n X dc_R_solve_34 rfl rfl ?_
      refine kw_aload_n X dc_R_solve_35 rfl rfl ?_
      refine kw_iload_n X dc_R_solve_36 rfl rfl ?_
      refine kw_callVI X kEw hE 0 rfl rfl (ct_nimOf rd th n one two own bg lf tu tk cu co tO t0 t1 sv (kq_pre (fun q => iZ (gm_mg lo hi n q)) mg (k + 1)) (kq_pre (fun q => iZ (gm_nm lo hi n q)) nm k) gc go tx len lo hi ok k hkn (fun q hq => kq_pre_lt hq)) (cw_V 1 X wd_712 wd_714 wp_16 wd_8 wd_715 rfl rfl (by decide +kernel) ⟨Nat.le_of_ble_eq_true rfl, Nat.le_of_ble_eq_true rfl⟩) [0, 1, 2, 3, 4, 5, 6, 7, 8, 9, 10, 11, 12] rfl (by decide) (fun _ _ h => by obtain ⟨rfl, _⟩ := h; exact Nat.le_refl _) rfl rfl (Nat.le_of_ble_eq_true rfl) dc_R_solve_37 ⟨Nat.zero_le _, Nat.zero_le _⟩ (fun r w hp => ?_)
      obtain ⟨rfl, rfl⟩ := hp
      refine kw_cv (ws' := wRF kI rd th n one two own bg lf tu tk cu co tO t0 t1 sv (kq_pre (fun q => iZ (gm_mg lo hi n q)) mg (k + 1)) (kq_pre (fun q => iZ (gm_nm lo hi n q)) nm k) gc go tx len) rfl rfl rfl ?_
      refine kw_iast X 10 0 rfl rfl (kq_in (by omega) (by omega)) dc_R_solve_40 ?_
      refine kw_iinc (v := nI (k + 1)) X dc_R_solve_41 rfl (kq_inc k) (by decide) ?_
      refine kw_goto (tgt := 2) X dc_R_solve_44 (by decide) ?_
      refine kw_cv (ws' := wRF kI rd th n one two own bg lf tu tk cu co tO t0 t1 sv (kq_pre (fun q => iZ (gm_mg lo hi n q)) mg (k + 1)) (kq_pre (fun q => iZ (gm_nm lo hi n q)) nm (k + 1)) gc go tx len) (by
        show wRF kI rd th n one two own bg lf tu tk cu co tO t0 t1 sv (kq_pre (fun q => iZ (gm_mg lo hi n q)) mg (k + 1)) (upd (kq_pre (fun q => iZ (gm_nm lo hi n q)) nm k) (nI k).toNatClampNeg (iZ (gm_nm lo hi n k))) gc go tx len = _
        rw [kq_cl (by omega), kq_pre_upd rfl]) rfl rfl ?_
      exact ih (k + 1) (by omega) (by omega)
set_option maxRecDepth 100000 in
set_option maxHeartbeats 4000000 in
theorem ct_asksT {l : Launch} {D : va_G} {kI kB kC kL : ClassId} (rd : Nat → Nat) (th n : Nat) (one two own : Nat → Int32) (lf tu : Nat) (tk : Nat → Int32) (cu : Nat) (co tO t0 t1 : Nat → Int32) (sv : Bool) (mg nm : Nat → Int32) (gc : Nat) (go tx : Nat → Int32) (len : Nat) (lo hi : Nat → Nat) (ok : rfOk lo hi n one two own) (hsv : (sv = true ∧ ∀ q, q < 2 ^ n → mg q = iZ (gm_mg lo hi n q) ∧ nm q = iZ (gm_nm lo hi n q)) ∨ sv = false) : kw_I l mn_R_asks (gw mn_R_asks cd_R_asks 1 (some .boolean)) ({ frames := 4, cells := 0, slots := 0, locals := 93 } : Room) D cl_v (kt kI kB kC kL) kE [.ref (rd 0)] (wRF kI rd th n one two own true lf tu tk cu co tO t0 t1 sv mg nm gc go tx len) (fun r w => r = nI 1 ∧ ∃ mg2 nm2 : Nat → Int32, w = wRF kI rd 0 n one two own true lf tu tk cu co tO t0 t1 true mg2 nm2 gc go tx len ∧ ∀ q, q < 2 ^ n → mg2 q = iZ (gm_mg lo hi n q) ∧ nm2 q = iZ (gm_nm lo hi n q)) 0 0 := by
  refine kw_ofI (cc := cd_R_asks) (maxL := 1) (ty := .boolean) (by decide) rfl (Nat.le_of_ble_eq_true rfl) rfl ?_
  intro pp ee s m args below meth c A X hr hlk hE hnm
  refine kw_aload_n X dc_R_asks_0 rfl rfl ?_
  refine kw_aload_n X dc_R_asks_1 rfl rfl ?_
  refine kw_get X (wc_R _) 0 rfl rfl 5 (by decide) (gq wd_602) (fun _ h => h) rfl dc_R_asks_2 ?_
  refine kw_if_eq (tgt := 12) X dc_R_asks_5 (by decide) (fun hc5 => ?_) (fun hc5 => ?_)
  · exact absurd hc5 (show ¬ bI true = 0 by decide)
  · refine kw_iconst (v := (nI 0)) X dc_R_asks_8 (by decide) ?_
    refine kw_goto (tgt := 13) X dc_R_asks_9 (by decide) ?_
    refine kw_putf (ty := .int) X (wc_R _) fy_R fk_R fn_R 0 rfl rfl 0 (by decide) (gq wd_597) (fun _ h => h) rfl (by decide +kernel) rfl rfl (Nat.le_of_ble_eq_true rfl) dc_R_asks_13 ?_
    refine kw_aload_n X dc_R_asks_16 rfl rfl ?_
    refine kw_get X (wc_R _) 0 rfl rfl 5 (by decide) (gq wd_602) (fun _ h => h) rfl dc_R_asks_17 ?_
    refine kw_if_eq (tgt := 27) X dc_R_asks_20 (by decide) (fun hc20 => ?_) (fun hc20 => ?_)
    · exact absurd hc20 (show ¬ bI true = 0 by decide)
    · refine kw_aload_n X dc_R_asks_23 rfl rfl ?_
      refine kw_callVV X kEw hE 0 rfl rfl (ct_solve rd 0 n one two own true lf tu tk cu co tO t0 t1 sv mg nm gc go tx len lo hi ok hsv) (cw_V 0 X wd_696 wd_698 wp_12 wd_8 wd_699 rfl rfl (by decide +kernel) ⟨Nat.le_of_ble_eq_true rfl, Nat.le_of_ble_eq_true rfl⟩) [0, 1, 2, 3, 4, 5, 6, 7, 8, 9, 10, 11, 12] rfl (by decide) (fun _ h => by obtain ⟨g, g2, rfl, _⟩ := h; exact Nat.le_refl _) rfl rfl (Nat.le_of_ble_eq_true rfl) dc_R_asks_24 ⟨Nat.zero_le _, Nat.zero_le _⟩ (fun w hp => ?_)
      obtain ⟨mg2, nm2, rfl, tb⟩ := hp
      refine kw_cv (ws' := wRF kI rd 0 n one two own true lf tu tk cu co tO t0 t1 true mg2 nm2 gc go tx len) rfl rfl rfl ?_
      refine kw_aload_n X dc_R_asks_27 rfl rfl ?_
      refine kw_get X (wc_R _) 0 rfl rfl 5 (by decide) (gq wd_602) (fun _ h => h) rfl dc_R_asks_28 ?_
      exact kw_zret X hr hlk rfl dc_R_asks_31 ⟨rfl, mg2, nm2, rfl, tb⟩
set_option maxRecDepth 100000 in
set_option maxHeartbeats 4000000 in
theorem ct_asksF {l : Launch} {D : va_G} {kI kB kC kL : ClassId} (rd : Nat → Nat) (th n : Nat) (one two own : Nat → Int32) (lf tu : Nat) (tk : Nat → Int32) (cu : Nat) (co tO t0 t1 : Nat → Int32) (sv : Bool) (mg nm : Nat → Int32) (gc : Nat) (go tx : Nat → Int32) (len : Nat)  : kw_I l mn_R_asks (gw mn_R_asks cd_R_asks 1 (some .boolean)) ({ frames := 0, cells := 0, slots := 0, locals := 0 } : Room) D cl_v (kt kI kB kC kL) kE [.ref (rd 0)] (wRF kI rd th n one two own false lf tu tk cu co tO t0 t1 sv mg nm gc go tx len) (fun r w => w = wRF kI rd 1 n one two own false lf tu tk cu co tO t0 t1 sv mg nm gc go tx len ∧ r = nI 0) 0 0 := by
  refine kw_ofI (cc := cd_R_asks) (maxL := 1) (ty := .boolean) (by decide) rfl (Nat.le_of_ble_eq_true rfl) rfl ?_
  intro pp ee s m args below meth c A X hr hlk hE hnm
  refine kw_aload_n X dc_R_asks_0 rfl rfl ?_
  refine kw_aload_n X dc_R_asks_1 rfl rfl ?_
  refine kw_get X (wc_R _) 0 rfl rfl 5 (by decide) (gq wd_602) (fun _ h => h) rfl dc_R_asks_2 ?_
  refine kw_if_eq (tgt := 12) X dc_R_asks_5 (by decide) (fun hc5 => ?_) (fun hc5 => ?_)
  · refine kw_iconst (v := (nI 1)) X dc_R_asks_12 (by decide) ?_
    refine kw_putf (ty := .int) X (wc_R _) fy_R fk_R fn_R 0 rfl rfl 0 (by decide) (gq wd_597) (fun _ h => h) rfl (by decide +kernel) rfl rfl (Nat.le_of_ble_eq_true rfl) dc_R_asks_13 ?_
    refine kw_aload_n X dc_R_asks_16 rfl rfl ?_
    refine kw_get X (wc_R _) 0 rfl rfl 5 (by decide) (gq wd_602) (fun _ h => h) rfl dc_R_asks_17 ?_
    refine kw_if_eq (tgt := 27) X dc_R_asks_20 (by decide) (fun hc20 => ?_) (fun hc20 => ?_)
    · refine kw_aload_n X dc_R_asks_27 rfl rfl ?_
      refine kw_get X (wc_R _) 0 rfl rfl 5 (by decide) (gq wd_602) (fun _ h => h) rfl dc_R_asks_28 ?_
      exact kw_zret X hr hlk rfl dc_R_asks_31 ⟨rfl, rfl⟩
    · exact absurd rfl hc20
  · exact absurd rfl hc5
set_option maxRecDepth 100000 in
set_option maxHeartbeats 4000000 in
theorem ct_goodSet {l : Launch} {D : va_G} {kI kB kC kL : ClassId} (rd : Nat → Nat) (th n : Nat) (one two own : Nat → Int32) (bg : Bool) (lf tu : Nat) (tk : Nat → Int32) (cu : Nat) (co tO t0 t1 : Nat → Int32) (sv : Bool) (mg nm : Nat → Int32) (gc : Nat) (go tx : Nat → Int32) (len : Nat) (lo hi : Nat → Nat) (ok : rfOk lo hi n one two own) (hp : lf < 2 ^ n) (hf : ∀ q, q < 2 ^ n → mg q = iZ (gm_mg lo hi n q) ∧ nm q = iZ (gm_nm lo hi n q)) : kw_I l mn_R_goodSet (gw mn_R_goodSet cd_R_goodSet 3 (some .int)) ({ frames := 2, cells := 0, slots := 0, locals := 47 } : Room) D cl_v (kt kI kB kC kL) kE [.ref (rd 0)] (wRF kI rd th n one two own bg lf tu tk cu co tO t0 t1 sv mg nm gc go tx len) (fun r w => w = wRF kI rd th n one two own bg lf tu tk cu co tO t0 t1 sv mg nm gc go tx len ∧ r = nI (gm_good lo hi n lf)) 0 0 := by
  refine kw_ofI (cc := cd_R_goodSet) (maxL := 3) (ty := .int) (by decide) rfl (Nat.le_of_ble_eq_true rfl) rfl ?_
  intro pp ee s m args below meth c A X hr hlk hE hnm
  have hn := ok.1.1
  have hp4 := kq_2n hn hp
  have bm := gm_mg_8 ok.1 hp
  refine kw_iconst (v := (nI 0)) X dc_R_goodSet_0 (by decide) ?_
  refine kw_istore_n X dc_R_goodSet_1 rfl (by decide) ?_
  refine kw_iconst (v := (nI 0)) X dc_R_goodSet_2 (by decide) ?_
  refine kw_istore_n X dc_R_goodSet_3 rfl (by decide) ?_
  refine kw_loop (α := Nat) (fun k => k ≤ n) (fun k => n - k) (fun _ => wRF kI rd th n one two own bg lf tu tk cu co tO t0 t1 sv mg nm gc go tx len) (fun k => [some (.ref (rd 0)), some (.int (nI (gm_ms (fun i => lf.testBit i && decide (gm_gv lo hi n (gm_mg lo hi n) lf i = gm_mg lo hi n lf)) k))), some (.int (nI k))]) (fun _ => []) 0 (Nat.zero_le _) (fun k hk ih => ?_)
  refine kw_iload_n X dc_R_goodSet_4 rfl rfl ?_
  refine kw_aload_n X dc_R_goodSet_5 rfl rfl ?_
  refine kw_get X (wc_R _) 0 rfl rfl 1 (by decide) (gq wd_598) (fun _ h => h) rfl dc_R_goodSet_6 ?_
  refine kw_icmp_ge (tgt := 61) X dc_R_goodSet_9 (by decide) (fun hc9 => ?_) (fun hc9 => ?_)
  · refine kw_iload_n X dc_R_goodSet_61 rfl rfl ?_
    exact kw_iret X hr hlk dc_R_goodSet_62 ⟨rfl, by have hkn : n = k := Nat.le_antisymm (kq_le hc9) hk; subst hkn; rfl⟩
  · have hkn := kq_nle hc9
    refine kw_aload_n X dc_R_goodSet_12 rfl rfl ?_
    refine kw_get X (wc_R _) 0 rfl rfl 6 (by decide) (gq wd_603) (fun _ h => h) rfl dc_R_goodSet_13 ?_
    refine kw_iload_n X dc_R_goodSet_16 rfl rfl ?_
    refine kw_ishr X dc_R_goodSet_17 rfl ?_
    refine kw_iconst (v := (nI 1)) X dc_R_goodSet_18 (by decide) ?_
    refine kw_iand X dc_R_goodSet_19 rfl ?_
    refine kw_iconst (v := (nI 1)) X dc_R_goodSet_20 (by decide) ?_
    refine kw_icmp_ne (tgt := 53) X dc_R_goodSet_21 (by decide) (fun hc21 => ?_) (fun hc21 => ?_)
    · have h21 : ¬ lf.testBit k = true := fun z => hc21 ((kq_has (by omega) (by omega)).mpr z)
      refine kw_iload_n X dc_R_goodSet_53 rfl rfl ?_
      refine kw_istore_n X dc_R_goodSet_54 rfl (by decide) ?_
      refine kw_iinc (v := nI (k + 1)) X dc_R_goodSet_55 rfl (kq_inc k) (by decide) ?_
      refine kw_goto (tgt := 4) X dc_R_goodSet_58 (by decide) ?_
      refine kw_cv (lv' := [some (.ref (rd 0)), some (.int (nI (gm_ms (fun i => lf.testBit i && decide (gm_gv lo hi n (gm_mg lo hi n) lf i = gm_mg lo hi n lf)) (k + 1)))), some (.int (nI (k + 1)))]) rfl (by first | rfl | (rw [gm_ms_no (q := (fun i => lf.testBit i && decide (gm_gv lo hi n (gm_mg lo hi n) lf i = gm_mg lo hi n lf))) (kq_f2 h42)]; rfl) | (rw [gm_ms_no (q := (fun i => lf.testBit i && decide (gm_gv lo hi n (gm_mg lo hi n) lf i = gm_mg lo hi n lf))) (kq_f1 h21)]; rfl)) rfl ?_
      exact ih (k + 1) (by omega) (by omega)
    · have h21 := (kq_has (by omega) (by omega)).mp hc21
      have bg8 := gm_gv_8 ok.1 hp hkn h21
      refine kw_aload_n X dc_R_goodSet_24 rfl rfl ?_
      refine kw_iload_n X dc_R_goodSet_25 rfl rfl ?_
      refine kw_aload_n X dc_R_goodSet_26 rfl rfl ?_
      refine kw_get X (wc_R _) 0 rfl rfl 6 (by decide) (gq wd_603) (fun _ h => h) rfl dc_R_goodSet_27 ?_
      refine kw_callVI X kEw hE 0 rfl rfl (ct_marginBy rd th n one two own bg lf tu tk cu co tO t0 t1 sv mg nm gc go tx len lo hi ok lf k hp hkn h21 (hf _ (by have := bq_wo_lt h21; omega)).1) (cw_V 2 X wd_704 wd_706 wp_14 wd_8 wd_707 rfl rfl (by decide +kernel) ⟨Nat.le_of_ble_eq_true rfl, Nat.le_of_ble_eq_true rfl⟩) [0, 1, 2, 3, 4, 5, 6, 7, 8, 9, 10, 11, 12] rfl (by decide) (fun _ _ h => by obtain ⟨rfl, _⟩ := h; exact Nat.le_refl _) rfl rfl (Nat.le_of_ble_eq_true rfl) dc_R_goodSet_30 ⟨Nat.zero_le _, Nat.zero_le _⟩ (fun r w hp => ?_)
      obtain ⟨rfl, rfl⟩ := hp
      refine kw_cv (ws' := wRF kI rd th n one two own bg lf tu tk cu co tO t0 t1 sv mg nm gc go tx len) rfl rfl rfl ?_
      refine kw_aload_n X dc_R_goodSet_33 rfl rfl ?_
      refine kw_get X (wc_R _) 0 rfl rfl 15 (by decide) (gq wd_612) (fun _ h => h) rfl dc_R_goodSet_34 ?_
      refine kw_aload_n X dc_R_goodSet_37 rfl rfl ?_
      refine kw_get X (wc_R _) 0 rfl rfl 6 (by decide) (gq wd_603) (fun _ h => h) rfl dc_R_goodSet_38 ?_
      refine kw_iald (v := iZ (gm_mg lo hi n lf)) X 9 0 rfl rfl (kq_in (by omega) (by omega)) (by rw [kq_cl (by omega)]; exact (hf lf hp).1) dc_R_goodSet_41 ?_
      refine kw_icmp_ne (tgt := 53) X dc_R_goodSet_42 (by decide) (fun hc42 => ?_) (fun hc42 => ?_)
      · have h42 : ¬ gm_gv lo hi n (gm_mg lo hi n) lf k = gm_mg lo hi n lf := fun z => hc42 ((iZ_inj (by omega) (by omega) (by omega) (by omega)).mpr z)
        refine kw_iload_n X dc_R_goodSet_53 rfl rfl ?_
        refine kw_istore_n X dc_R_goodSet_54 rfl (by decide) ?_
        refine kw_iinc (v := nI (k + 1)) X dc_R_goodSet_55 rfl (kq_inc k) (by decide) ?_
        refine kw_goto (tgt := 4) X dc_R_goodSet_58 (by decide) ?_
        refine kw_cv (lv' := [some (.ref (rd 0)), some (.int (nI (gm_ms (fun i => lf.testBit i && decide (gm_gv lo hi n (gm_mg lo hi n) lf i = gm_mg lo hi n lf)) (k + 1)))), some (.int (nI (k + 1)))]) rfl (by first | rfl | (rw [gm_ms_no (q := (fun i => lf.testBit i && decide (gm_gv lo hi n (gm_mg lo hi n) lf i = gm_mg lo hi n lf))) (kq_f2 h42)]; rfl) | (rw [gm_ms_no (q := (fun i => lf.testBit i && decide (gm_gv lo hi n (gm_mg lo hi n) lf i = gm_mg lo hi n lf))) (kq_f1 h21)]; rfl)) rfl ?_
        exact ih (k + 1) (by omega) (by omega)
      · have h42 : gm_gv lo hi n (gm_mg lo hi n) lf k = gm_mg lo hi n lf := (iZ_inj (by omega) (by omega) (by omega) (by omega)).mp hc42
        refine kw_iload_n X dc_R_goodSet_45 rfl rfl ?_
        refine kw_iconst (v := (nI 1)) X dc_R_goodSet_46 (by decide) ?_
        refine kw_iload_n X dc_R_goodSet_47 rfl rfl ?_
        refine kw_ishl (v := nI (2 ^ k)) X dc_R_goodSet_48 (bq_shl (by omega)) ?_
        refine kw_ior (v := nI (gm_ms (fun i => lf.testBit i && decide (gm_gv lo hi n (gm_mg lo hi n) lf i = gm_mg lo hi n lf)) (k + 1))) X dc_R_goodSet_49 (by rw [bq_or, show gm_ms (fun i => lf.testBit i && decide (gm_gv lo hi n (gm_mg lo hi n) lf i = gm_mg lo hi n lf)) (k + 1) = gm_ms (fun i => lf.testBit i && decide (gm_gv lo hi n (gm_mg lo hi n) lf i = gm_mg lo hi n lf)) k ||| 2 ^ k from if_pos (by simp [h21, h42])]) ?_
        refine kw_goto (tgt := 54) X dc_R_goodSet_50 (by decide) ?_
        refine kw_istore_n X dc_R_goodSet_54 rfl (by decide) ?_
        refine kw_iinc (v := nI (k + 1)) X dc_R_goodSet_55 rfl (kq_inc k) (by decide) ?_
        refine kw_goto (tgt := 4) X dc_R_goodSet_58 (by decide) ?_
        refine kw_cv (lv' := [some (.ref (rd 0)), some (.int (nI (gm_ms (fun i => lf.testBit i && decide (gm_gv lo hi n (gm_mg lo hi n) lf i = gm_mg lo hi n lf)) (k + 1)))), some (.int (nI (k + 1)))]) rfl (by first | rfl | (rw [gm_ms_no (q := (fun i => lf.testBit i && decide (gm_gv lo hi n (gm_mg lo hi n) lf i = gm_mg lo hi n lf))) (kq_f2 h42)]; rfl) | (rw [gm_ms_no (q := (fun i => lf.testBit i && decide (gm_gv lo hi n (gm_mg lo hi n) lf i = gm_mg lo hi n lf))) (kq_f1 h21)]; rfl)) rfl ?_
        exact ih (k + 1) (by omega) (by omega)
set_option maxRecDepth 100000 in
set_option maxHeartbeats 4000000 in
theorem ct_RmarginT {l : Launch} {D : va_G} {kI kB kC kL : ClassId} (rd : Nat → Nat) (th n : Nat) (one two own : Nat → Int32) (lf tu : Nat) (tk : Nat → Int32) (cu : Nat) (co tO t0 t1 : Nat → Int32) (sv : Bool) (mg nm : Nat → Int32) (gc : Nat) (go tx : Nat → Int32) (len : Nat) (lo hi : Nat → Nat) (ok : rfOk lo hi n one two own) (hsv : (sv = true ∧ ∀ q, q < 2 ^ n → mg q = iZ (gm_mg lo hi n q) ∧ nm q = iZ (gm_nm lo hi n q)) ∨ sv = false) (hp : lf < 2 ^ n) : kw_I l mn_R_margin (gw mn_R_margin cd_R_margin 1 (some .int)) ({ frames := 5, cells := 0, slots := 0, locals := 113 } : Room) D cl_v (kt kI kB kC kL) kE [.ref (rd 0)] (wRF kI rd th n one two own true lf tu tk cu co tO t0 t1 sv mg nm gc go tx len) (fun r w => r = iZ (gm_mg lo hi n lf) ∧ ∃ mg2 nm2 : Nat → Int32, w = wRF kI rd 0 n one two own true lf tu tk cu co tO t0 t1 true mg2 nm2 gc go tx len ∧ ∀ q, q < 2 ^ n → mg2 q = iZ (gm_mg lo hi n q) ∧ nm2 q = iZ (gm_nm lo hi n q)) 0 0 := by
  refine kw_ofI (cc := cd_R_margin) (maxL := 1) (ty := .int) (by decide) rfl (Nat.le_of_ble_eq_true rfl) rfl ?_
  intro pp ee s m args below meth c A X hr hlk hE hnm
  have hp4 := kq_2n ok.1.1 hp
  refine kw_aload_n X dc_R_margin_0 rfl rfl ?_
  refine kw_callVI X kEw hE 0 rfl rfl (ct_asksT rd th n one two own lf tu tk cu co tO t0 t1 sv mg nm gc go tx len lo hi ok hsv) (cw_V 0 X wd_692 wd_694 wp_11 wd_8 wd_695 rfl rfl (by decide +kernel) ⟨Nat.le_of_ble_eq_true rfl, Nat.le_of_ble_eq_true rfl⟩) [0, 1, 2, 3, 4, 5, 6, 7, 8, 9, 10, 11, 12] rfl (by decide) (fun _ _ h => by obtain ⟨_, g, g2, rfl, _⟩ := h; exact Nat.le_refl _) rfl rfl (Nat.le_of_ble_eq_true rfl) dc_R_margin_1 ⟨Nat.zero_le _, Nat.zero_le _⟩ (fun r w hp => ?_)
  obtain ⟨rfl, mg2, nm2, rfl, tb⟩ := hp
  refine kw_cv (ws' := wRF kI rd 0 n one two own true lf tu tk cu co tO t0 t1 true mg2 nm2 gc go tx len) rfl rfl rfl ?_
  refine kw_if_eq (tgt := 19) X dc_R_margin_4 (by decide) (fun hc4 => ?_) (fun hc4 => ?_)
  · exact absurd hc4 (show ¬ nI 1 = 0 by decide)
  · refine kw_aload_n X dc_R_margin_7 rfl rfl ?_
    refine kw_get X (wc_R _) 0 rfl rfl 15 (by decide) (gq wd_612) (fun _ h => h) rfl dc_R_margin_8 ?_
    refine kw_aload_n X dc_R_margin_11 rfl rfl ?_
    refine kw_get X (wc_R _) 0 rfl rfl 6 (by decide) (gq wd_603) (fun _ h => h) rfl dc_R_margin_12 ?_
    refine kw_iald (v := iZ (gm_mg lo hi n lf)) X 9 0 rfl rfl (kq_in (by omega) (by omega)) (by rw [kq_cl (by omega)]; exact (tb lf hp).1) dc_R_margin_15 ?_
    refine kw_goto (tgt := 20) X dc_R_margin_16 (by decide) ?_
    exact kw_iret X hr hlk dc_R_margin_20 ⟨rfl, mg2, nm2, rfl, tb⟩
set_option maxRecDepth 100000 in
set_option maxHeartbeats 4000000 in
theorem ct_RmarginF {l : Launch} {D : va_G} {kI kB kC kL : ClassId} (rd : Nat → Nat) (th n : Nat) (one two own : Nat → Int32) (lf tu : Nat) (tk : Nat → Int32) (cu : Nat) (co tO t0 t1 : Nat → Int32) (sv : Bool) (mg nm : Nat → Int32) (gc : Nat) (go tx : Nat → Int32) (len : Nat)  : kw_I l mn_R_margin (gw mn_R_margin cd_R_margin 1 (some .int)) ({ frames := 1, cells := 0, slots := 0, locals := 20 } : Room) D cl_v (kt kI kB kC kL) kE [.ref (rd 0)] (wRF kI rd th n one two own false lf tu tk cu co tO t0 t1 sv mg nm gc go tx len) (fun r w => w = wRF kI rd 1 n one two own false lf tu tk cu co tO t0 t1 sv mg nm gc go tx len ∧ r = nI 0) 0 0 := by
  refine kw_ofI (cc := cd_R_margin) (maxL := 1) (ty := .int) (by decide) rfl (Nat.le_of_ble_eq_true rfl) rfl ?_
  intro pp ee s m args below meth c A X hr hlk hE hnm
  refine kw_aload_n X dc_R_margin_0 rfl rfl ?_
  refine kw_callVI X kEw hE 0 rfl rfl (ct_asksF rd th n one two own lf tu tk cu co tO t0 t1 sv mg nm gc go tx len) (cw_V 0 X wd_692 wd_694 wp_11 wd_8 wd_695 rfl rfl (by decide +kernel) ⟨Nat.le_of_ble_eq_true rfl, Nat.le_of_ble_eq_true rfl⟩) [0, 1, 2, 3, 4, 5, 6, 7, 8, 9, 10, 11, 12] rfl (by decide) (fun _ _ h => by obtain ⟨rfl, _⟩ := h; exact Nat.le_refl _) rfl rfl (Nat.le_of_ble_eq_true rfl) dc_R_margin_1 ⟨Nat.zero_le _, Nat.zero_le _⟩ (fun r w hp => ?_)
  obtain ⟨rfl, rfl⟩ := hp
  refine kw_cv (ws' := wRF kI rd 1 n one two own false lf tu tk cu co tO t0 t1 sv mg nm gc go tx len) rfl rfl rfl ?_
  refine kw_if_eq (tgt := 19) X dc_R_margin_4 (by decide) (fun hc4 => ?_) (fun hc4 => ?_)
  · refine kw_iconst (v := (nI 0)) X dc_R_margin_19 (by decide) ?_
    exact kw_iret X hr hlk dc_R_margin_20 ⟨rfl, rfl⟩
  · exact absurd rfl hc4
set_option maxRecDepth 100000 in
set_option maxHeartbeats 4000000 in
theorem ct_RnimT {l : Launch} {D : va_G} {kI kB kC kL : ClassId} (rd : Nat → Nat) (th n : Nat) (one two own : Nat → Int32) (lf tu : Nat) (tk : Nat → Int32) (cu : Nat) (co tO t0 t1 : Nat → Int32) (sv : Bool) (mg nm : Nat → Int32) (gc : Nat) (go tx : Nat → Int32) (len : Nat) (lo hi : Nat → Nat) (ok : rfOk lo hi n one two own) (hsv : (sv = true ∧ ∀ q, q < 2 ^ n → mg q = iZ (gm_mg lo hi n q) ∧ nm q = iZ (gm_nm lo hi n q)) ∨ sv = false) (hp : lf < 2 ^ n) : kw_I l mn_R_nim (gw mn_R_nim cd_R_nim 1 (some .int)) ({ frames := 5, cells := 0, slots := 0, locals := 113 } : Room) D cl_v (kt kI kB kC kL) kE [.ref (rd 0)] (wRF kI rd th n one two own true lf tu tk cu co tO t0 t1 sv mg nm gc go tx len) (fun r w => r = iZ (gm_nm lo hi n lf) ∧ ∃ mg2 nm2 : Nat → Int32, w = wRF kI rd 0 n one two own true lf tu tk cu co tO t0 t1 true mg2 nm2 gc go tx len ∧ ∀ q, q < 2 ^ n → mg2 q = iZ (gm_mg lo hi n q) ∧ nm2 q = iZ (gm_nm lo hi n q)) 0 0 := by
  refine kw_ofI (cc := cd_R_nim) (maxL := 1) (ty := .int) (by decide) rfl (Nat.le_of_ble_eq_true rfl) rfl ?_
  intro pp ee s m args below meth c A X hr hlk hE hnm
  have hp4 := kq_2n ok.1.1 hp
  refine kw_aload_n X dc_R_nim_0 rfl rfl ?_
  refine kw_callVI X kEw hE 0 rfl rfl (ct_asksT rd th n one two own lf tu tk cu co tO t0 t1 sv mg nm gc go tx len lo hi ok hsv) (cw_V 0 X wd_692 wd_694 wp_11 wd_8 wd_695 rfl rfl (by decide +kernel) ⟨Nat.le_of_ble_eq_true rfl, Nat.le_of_ble_eq_true rfl⟩) [0, 1, 2, 3, 4, 5, 6, 7, 8, 9, 10, 11, 12] rfl (by decide) (fun _ _ h => by obtain ⟨_, g, g2, rfl, _⟩ := h; exact Nat.le_refl _) rfl rfl (Nat.le_of_ble_eq_true rfl) dc_R_nim_1 ⟨Nat.zero_le _, Nat.zero_le _⟩ (fun r w hp => ?_)
  obtain ⟨rfl, mg2, nm2, rfl, tb⟩ := hp
  refine kw_cv (ws' := wRF kI rd 0 n one two own true lf tu tk cu co tO t0 t1 true mg2 nm2 gc go tx len) rfl rfl rfl ?_
  refine kw_if_eq (tgt := 19) X dc_R_nim_4 (by decide) (fun hc4 => ?_) (fun hc4 => ?_)
  · exact absurd hc4 (show ¬ nI 1 = 0 by decide)
  · refine kw_aload_n X dc_R_nim_7 rfl rfl ?_
    refine kw_get X (wc_R _) 0 rfl rfl 16 (by decide) (gq wd_613) (fun _ h => h) rfl dc_R_nim_8 ?_
    refine kw_aload_n X dc_R_nim_11 rfl rfl ?_
    refine kw_get X (wc_R _) 0 rfl rfl 6 (by decide) (gq wd_603) (fun _ h => h) rfl dc_R_nim_12 ?_
    refine kw_iald (v := iZ (gm_nm lo hi n lf)) X 10 0 rfl rfl (kq_in (by omega) (by omega)) (by rw [kq_cl (by omega)]; exact (tb lf hp).2) dc_R_nim_15 ?_
    refine kw_goto (tgt := 20) X dc_R_nim_16 (by decide) ?_
    exact kw_iret X hr hlk dc_R_nim_20 ⟨rfl, mg2, nm2, rfl, tb⟩
set_option maxRecDepth 100000 in
set_option maxHeartbeats 4000000 in
theorem ct_RnimF {l : Launch} {D : va_G} {kI kB kC kL : ClassId} (rd : Nat → Nat) (th n : Nat) (one two own : Nat → Int32) (lf tu : Nat) (tk : Nat → Int32) (cu : Nat) (co tO t0 t1 : Nat → Int32) (sv : Bool) (mg nm : Nat → Int32) (gc : Nat) (go tx : Nat → Int32) (len : Nat)  : kw_I l mn_R_nim (gw mn_R_nim cd_R_nim 1 (some .int)) ({ frames := 1, cells := 0, slots := 0, locals := 20 } : Room) D cl_v (kt kI kB kC kL) kE [.ref (rd 0)] (wRF kI rd th n one two own false lf tu tk cu co tO t0 t1 sv mg nm gc go tx len) (fun r w => w = wRF kI rd 1 n one two own false lf tu tk cu co tO t0 t1 sv mg nm gc go tx len ∧ r = nI 0) 0 0 := by
  refine kw_ofI (cc := cd_R_nim) (maxL := 1) (ty := .int) (by decide) rfl (Nat.le_of_ble_eq_true rfl) rfl ?_
  intro pp ee s m args below meth c A X hr hlk hE hnm
  refine kw_aload_n X dc_R_nim_0 rfl rfl ?_
  refine kw_callVI X kEw hE 0 rfl rfl (ct_asksF rd th n one two own lf tu tk cu co tO t0 t1 sv mg nm gc go tx len) (cw_V 0 X wd_692 wd_694 wp_11 wd_8 wd_695 rfl rfl (by decide +kernel) ⟨Nat.le_of_ble_eq_true rfl, Nat.le_of_ble_eq_true rfl⟩) [0, 1, 2, 3, 4, 5, 6, 7, 8, 9, 10, 11, 12] rfl (by decide) (fun _ _ h => by obtain ⟨rfl, _⟩ := h; exact Nat.le_refl _) rfl rfl (Nat.le_of_ble_eq_true rfl) dc_R_nim_1 ⟨Nat.zero_le _, Nat.zero_le _⟩ (fun r w hp => ?_)
  obtain ⟨rfl, rfl⟩ := hp
  refine kw_cv (ws' := wRF kI rd 1 n one two own false lf tu tk cu co tO t0 t1 sv mg nm gc go tx len) rfl rfl rfl ?_
  refine kw_if_eq (tgt := 19) X dc_R_nim_4 (by decide) (fun hc4 => ?_) (fun hc4 => ?_)
  · refine kw_iconst (v := (nI 0)) X dc_R_nim_19 (by decide) ?_
    exact kw_iret X hr hlk dc_R_nim_20 ⟨rfl, rfl⟩
  · exact absurd rfl hc4
set_option maxRecDepth 100000 in
set_option maxHeartbeats 4000000 in
theorem ct_RgoodT {l : Launch} {D : va_G} {kI kB kC kL : ClassId} (rd : Nat → Nat) (th n : Nat) (one two own : Nat → Int32) (lf tu : Nat) (tk : Nat → Int32) (cu : Nat) (co tO t0 t1 : Nat → Int32) (sv : Bool) (mg nm : Nat → Int32) (gc : Nat) (go tx : Nat → Int32) (len : Nat) (lo hi : Nat → Nat) (ok : rfOk lo hi n one two own) (hsv : (sv = true ∧ ∀ q, q < 2 ^ n → mg q = iZ (gm_mg lo hi n q) ∧ nm q = iZ (gm_nm lo hi n q)) ∨ sv = false) (hp : lf < 2 ^ n) : kw_I l mn_R_good (gw mn_R_good cd_R_good 1 (some .int)) ({ frames := 5, cells := 0, slots := 0, locals := 113 } : Room) D cl_v (kt kI kB kC kL) kE [.ref (rd 0)] (wRF kI rd th n one two own true lf tu tk cu co tO t0 t1 sv mg nm gc go tx len) (fun r w => r = nI (gm_good lo hi n lf) ∧ ∃ mg2 nm2 : Nat → Int32, w = wRF kI rd 0 n one two own true lf tu tk cu co tO t0 t1 true mg2 nm2 gc go tx len ∧ ∀ q, q < 2 ^ n → mg2 q = iZ (gm_mg lo hi n q) ∧ nm2 q = iZ (gm_nm lo hi n q)) 0 0 := by
  refine kw_ofI (cc := cd_R_good) (maxL := 1) (ty := .int) (by decide) rfl (Nat.le_of_ble_eq_true rfl) rfl ?_
  intro pp ee s m args below meth c A X hr hlk hE hnm
  refine kw_aload_n X dc_R_good_0 rfl rfl ?_
  refine kw_callVI X kEw hE 0 rfl rfl (ct_asksT rd th n one two own lf tu tk cu co tO t0 t1 sv mg nm gc go tx len lo hi ok hsv) (cw_V 0 X wd_692 wd_694 wp_11 wd_8 wd_695 rfl rfl (by decide +kernel) ⟨Nat.le_of_ble_eq_true rfl, Nat.le_of_ble_eq_true rfl⟩) [0, 1, 2, 3, 4, 5, 6, 7, 8, 9, 10, 11, 12] rfl (by decide) (fun _ _ h => by obtain ⟨_, g, g2, rfl, _⟩ := h; exact Nat.le_refl _) rfl rfl (Nat.le_of_ble_eq_true rfl) dc_R_good_1 ⟨Nat.zero_le _, Nat.zero_le _⟩ (fun r w hp => ?_)
  obtain ⟨rfl, mg2, nm2, rfl, tb⟩ := hp
  refine kw_cv (ws' := wRF kI rd 0 n one two own true lf tu tk cu co tO t0 t1 true mg2 nm2 gc go tx len) rfl rfl rfl ?_
  refine kw_if_eq (tgt := 14) X dc_R_good_4 (by decide) (fun hc4 => ?_) (fun hc4 => ?_)
  · exact absurd hc4 (show ¬ nI 1 = 0 by decide)
  · refine kw_aload_n X dc_R_good_7 rfl rfl ?_
    refine kw_callVI X kEw hE 0 rfl rfl (ct_goodSet rd 0 n one two own true lf tu tk cu co tO t0 t1 true mg2 nm2 gc go tx len lo hi ok hp tb) (cw_V 0 X wd_720 wd_722 wp_17 wd_8 wd_723 rfl rfl (by decide +kernel) ⟨Nat.le_of_ble_eq_true rfl, Nat.le_of_ble_eq_true rfl⟩) [0, 1, 2, 3, 4, 5, 6, 7, 8, 9, 10, 11, 12] rfl (by decide) (fun _ _ h => by obtain ⟨rfl, _⟩ := h; exact Nat.le_refl _) rfl rfl (Nat.le_of_ble_eq_true rfl) dc_R_good_8 ⟨Nat.zero_le _, Nat.zero_le _⟩ (fun r w hp => ?_)
    obtain ⟨rfl, rfl⟩ := hp
    refine kw_cv (ws' := wRF kI rd 0 n one two own true lf tu tk cu co tO t0 t1 true mg2 nm2 gc go tx len) rfl rfl rfl ?_
    refine kw_goto (tgt := 15) X dc_R_good_11 (by decide) ?_
    exact kw_iret X hr hlk dc_R_good_15 ⟨rfl, mg2, nm2, rfl, tb⟩
set_option maxRecDepth 100000 in
set_option maxHeartbeats 4000000 in
theorem ct_RgoodF {l : Launch} {D : va_G} {kI kB kC kL : ClassId} (rd : Nat → Nat) (th n : Nat) (one two own : Nat → Int32) (lf tu : Nat) (tk : Nat → Int32) (cu : Nat) (co tO t0 t1 : Nat → Int32) (sv : Bool) (mg nm : Nat → Int32) (gc : Nat) (go tx : Nat → Int32) (len : Nat)  : kw_I l mn_R_good (gw mn_R_good cd_R_good 1 (some .int)) ({ frames := 1, cells := 0, slots := 0, locals := 20 } : Room) D cl_v (kt kI kB kC kL) kE [.ref (rd 0)] (wRF kI rd th n one two own false lf tu tk cu co tO t0 t1 sv mg nm gc go tx len) (fun r w => w = wRF kI rd 1 n one two own false lf tu tk cu co tO t0 t1 sv mg nm gc go tx len ∧ r = nI 0) 0 0 := by
  refine kw_ofI (cc := cd_R_good) (maxL := 1) (ty := .int) (by decide) rfl (Nat.le_of_ble_eq_true rfl) rfl ?_
  intro pp ee s m args below meth c A X hr hlk hE hnm
  refine kw_aload_n X dc_R_good_0 rfl rfl ?_
  refine kw_callVI X kEw hE 0 rfl rfl (ct_asksF rd th n one two own lf tu tk cu co tO t0 t1 sv mg nm gc go tx len) (cw_V 0 X wd_692 wd_694 wp_11 wd_8 wd_695 rfl rfl (by decide +kernel) ⟨Nat.le_of_ble_eq_true rfl, Nat.le_of_ble_eq_true rfl⟩) [0, 1, 2, 3, 4, 5, 6, 7, 8, 9, 10, 11, 12] rfl (by decide) (fun _ _ h => by obtain ⟨rfl, _⟩ := h; exact Nat.le_refl _) rfl rfl (Nat.le_of_ble_eq_true rfl) dc_R_good_1 ⟨Nat.zero_le _, Nat.zero_le _⟩ (fun r w hp => ?_)
  obtain ⟨rfl, rfl⟩ := hp
  refine kw_cv (ws' := wRF kI rd 1 n one two own false lf tu tk cu co tO t0 t1 sv mg nm gc go tx len) rfl rfl rfl ?_
  refine kw_if_eq (tgt := 14) X dc_R_good_4 (by decide) (fun hc4 => ?_) (fun hc4 => ?_)
  · refine kw_iconst (v := (nI 0)) X dc_R_good_14 (by decide) ?_
    exact kw_iret X hr hlk dc_R_good_15 ⟨rfl, rfl⟩
  · exact absurd rfl hc4
set_option maxRecDepth 100000 in
set_option maxHeartbeats 4000000 in
theorem ct_RmadT {l : Launch} {D : va_G} {kI kB kC kL : ClassId} (rd : Nat → Nat) (th n : Nat) (one two own : Nat → Int32) (lf tu : Nat) (tk : Nat → Int32) (cu : Nat) (co tO t0 t1 : Nat → Int32) (sv : Bool) (mg nm : Nat → Int32) (gc : Nat) (go tx : Nat → Int32) (len : Nat) (lo hi : Nat → Nat) (ok : rfOk lo hi n one two own) (hsv : (sv = true ∧ ∀ q, q < 2 ^ n → mg q = iZ (gm_mg lo hi n q) ∧ nm q = iZ (gm_nm lo hi n q)) ∨ sv = false) (hp : lf < 2 ^ n) : kw_I l mn_R_mad (gw mn_R_mad cd_R_mad 4 (some .int)) ({ frames := 5, cells := 0, slots := 0, locals := 113 } : Room) D cl_v (kt kI kB kC kL) kE [.ref (rd 0)] (wRF kI rd th n one two own true lf tu tk cu co tO t0 t1 sv mg nm gc go tx len) (fun r w => r = nI (gm_mad lo hi n lf) ∧ ∃ mg2 nm2 : Nat → Int32, w = wRF kI rd 0 n one two own true lf tu tk cu co tO t0 t1 true mg2 nm2 gc go tx len ∧ ∀ q, q < 2 ^ n → mg2 q = iZ (gm_mg lo hi n q) ∧ nm2 q = iZ (gm_nm lo hi n q)) 0 0 := by
  refine kw_ofI (cc := cd_R_mad) (maxL := 4) (ty := .int) (by decide) rfl (Nat.le_of_ble_eq_true rfl) rfl ?_
  intro pp ee s m args below meth c A X hr hlk hE hnm
  have hn := ok.1.1
  have hp4 := kq_2n hn hp
  refine kw_aload_n X dc_R_mad_0 rfl rfl ?_
  refine kw_callVI X kEw hE 0 rfl rfl (ct_asksT rd th n one two own lf tu tk cu co tO t0 t1 sv mg nm gc go tx len lo hi ok hsv) (cw_V 0 X wd_692 wd_694 wp_11 wd_8 wd_695 rfl rfl (by decide +kernel) ⟨Nat.le_of_ble_eq_true rfl, Nat.le_of_ble_eq_true rfl⟩) [0, 1, 2, 3, 4, 5, 6, 7, 8, 9, 10, 11, 12] rfl (by decide) (fun _ _ h => by obtain ⟨_, g, g2, rfl, _⟩ := h; exact Nat.le_refl _) rfl rfl (Nat.le_of_ble_eq_true rfl) dc_R_mad_1 ⟨Nat.zero_le _, Nat.zero_le _⟩ (fun r w hp => ?_)
  obtain ⟨rfl, mg2, nm2, rfl, tb⟩ := hp
  refine kw_cv (ws' := wRF kI rd 0 n one two own true lf tu tk cu co tO t0 t1 true mg2 nm2 gc go tx len) rfl rfl rfl ?_
  refine kw_if_ne (tgt := 9) X dc_R_mad_4 (by decide) (fun hc4 => ?_) (fun hc4 => ?_)
  · refine kw_iconst (v := (nI 0)) X dc_R_mad_9 (by decide) ?_
    refine kw_istore_n X dc_R_mad_10 rfl (by decide) ?_
    refine kw_iconst (v := (nI 0)) X dc_R_mad_11 (by decide) ?_
    refine kw_istore_n X dc_R_mad_12 rfl (by decide) ?_
    refine kw_loop (α := Nat) (fun k => k ≤ n) (fun k => n - k) (fun _ => wRF kI rd 0 n one two own true lf tu tk cu co tO t0 t1 true mg2 nm2 gc go tx len) (fun k => [some (.ref (rd 0)), some (.int (nI (gm_ms (fun i => lf.testBit i && (decide (gm_tk lo hi n lf i = 0) && decide (gm_nm lo hi n (bq_wo lf i) = -1))) k))), some (.int (nI k)), none]) (fun _ => []) 0 (Nat.zero_le _) (fun k hk ih => ?_)
    refine kw_iload_n X dc_R_mad_13 rfl rfl ?_
    refine kw_aload_n X dc_R_mad_14 rfl rfl ?_
    refine kw_get X (wc_R _) 0 rfl rfl 1 (by decide) (gq wd_598) (fun _ h => h) rfl dc_R_mad_15 ?_
    refine kw_icmp_ge (tgt := 79) X dc_R_mad_18 (by decide) (fun hc18 => ?_) (fun hc18 => ?_)
    · refine kw_iload_n X dc_R_mad_79 rfl rfl ?_
      exact kw_iret X hr hlk dc_R_mad_80 ⟨by have hkn : n = k := Nat.le_antisymm (kq_le hc18) hk; subst hkn; rfl, mg2, nm2, rfl, tb⟩
    · have hkn := kq_nle hc18
      refine kw_aload_n X dc_R_mad_21 rfl rfl ?_
      refine kw_get X (wc_R _) 0 rfl rfl 6 (by decide) (gq wd_603) (fun _ h => h) rfl dc_R_mad_22 ?_
      refine kw_iconst (v := (nI 1)) X dc_R_mad_25 (by decide) ?_
      refine kw_iload_n X dc_R_mad_26 rfl rfl ?_
      refine kw_ishl X dc_R_mad_27 rfl ?_
      refine kw_iconst (v := (-1)) X dc_R_mad_28 (by decide) ?_
      refine kw_ixor X dc_R_mad_29 rfl ?_
      refine kw_iand (v := nI (bq_wo lf k)) X dc_R_mad_30 (bq_woI (by omega)) ?_
      refine kw_istore_n X dc_R_mad_31 rfl (by decide) ?_
      refine kw_aload_n X dc_R_mad_32 rfl rfl ?_
      refine kw_get X (wc_R _) 0 rfl rfl 6 (by decide) (gq wd_603) (fun _ h => h) rfl dc_R_mad_33 ?_
      refine kw_iload_n X dc_R_mad_36 rfl rfl ?_
      refine kw_ishr X dc_R_mad_37 rfl ?_
      refine kw_iconst (v := (nI 1)) X dc_R_mad_38 (by decide) ?_
      refine kw_iand X dc_R_mad_39 rfl ?_
      refine kw_iconst (v := (nI 1)) X dc_R_mad_40 (by decide) ?_
      refine kw_icmp_ne (tgt := 71) X dc_R_mad_41 (by decide) (fun hc41 => ?_) (fun hc41 => ?_)
      · have h41 : ¬ lf.testBit k = true := fun z => hc41 ((kq_has (by omega) (by omega)).mpr z)
        refine kw_iload_n X dc_R_mad_71 rfl rfl ?_
        refine kw_istore_n X dc_R_mad_72 rfl (by decide) ?_
        refine kw_iinc (v := nI (k + 1)) X dc_R_mad_73 rfl (kq_inc k) (by decide) ?_
        refine kw_goto (tgt := 13) X dc_R_mad_76 (by decide) ?_
        refine kw_kill 3 ?_
        refine kw_cv (lv' := [some (.ref (rd 0)), some (.int (nI (gm_ms (fun i => lf.testBit i && (decide (gm_tk lo hi n lf i = 0) && decide (gm_nm lo hi n (bq_wo lf i) = -1))) (k + 1)))), some (.int (nI (k + 1))), none]) rfl (by first | rfl | (rw [gm_ms_no (q := (fun i => lf.testBit i && (decide (gm_tk lo hi n lf i = 0) && decide (gm_nm lo hi n (bq_wo lf i) = -1)))) (kq_f3 h9)]; rfl) | (rw [gm_ms_no (q := (fun i => lf.testBit i && (decide (gm_tk lo hi n lf i = 0) && decide (gm_nm lo hi n (bq_wo lf i) = -1)))) (kq_f1 h41)]; rfl)) rfl ?_
        exact ih (k + 1) (by omega) (by omega)
      · have h41 := (kq_has (by omega) (by omega)).mp hc41
        have hlt := bq_wo_lt h41
        have b12 := gm_nm_11 (lo := lo) (hi := hi) hn hp hkn h41
        have ht2 := gm_tk_2 lo hi n lf k
        refine kw_aload_n X dc_R_mad_44 rfl rfl ?_
        refine kw_iload_n X dc_R_mad_45 rfl rfl ?_
        refine kw_iload_n X dc_R_mad_46 rfl rfl ?_
        refine kw_callVI X kEw hE 0 rfl rfl (ct_takes rd 0 n one two own true lf tu tk cu co tO t0 t1 true mg2 nm2 gc go tx len lo hi ok lf k hp hkn h41) (cw_V 2 X wd_708 wd_710 wp_15 wd_8 wd_711 rfl rfl (by decide +kernel) ⟨Nat.le_of_ble_eq_true rfl, Nat.le_of_ble_eq_true rfl⟩) [0, 1, 2, 3, 4, 5, 6, 7, 8, 9, 10, 11, 12] rfl (by decide) (fun _ _ h => by obtain ⟨rfl, _⟩ := h; exact Nat.le_refl _) rfl rfl (Nat.le_of_ble_eq_true rfl) dc_R_mad_47 ⟨Nat.zero_le _, Nat.zero_le _⟩ (fun r w hp => ?_)
        obtain ⟨rfl, rfl⟩ := hp
        refine kw_cv (ws' := wRF kI rd 0 n one two own true lf tu tk cu co tO t0 t1 true mg2 nm2 gc go tx len) rfl rfl rfl ?_
        refine kw_if_ne (tgt := 71) X dc_R_mad_50 (by decide) (fun hc50 => ?_) (fun hc50 => ?_)
        · have h9 : ¬ (gm_tk lo hi n lf k = 0 ∧ gm_nm lo hi n (bq_wo lf k) = -1) := fun z => kq_ne (b := 0) hc50 (by omega) (by omega) z.1
          refine kw_iload_n X dc_R_mad_71 rfl rfl ?_
          refine kw_istore_n X dc_R_mad_72 rfl (by decide) ?_
          refine kw_iinc (v := nI (k + 1)) X dc_R_mad_73 rfl (kq_inc k) (by decide) ?_
          refine kw_goto (tgt := 13) X dc_R_mad_76 (by decide) ?_
          refine kw_kill 3 ?_
          refine kw_cv (lv' := [some (.ref (rd 0)), some (.int (nI (gm_ms (fun i => lf.testBit i && (decide (gm_tk lo hi n lf i = 0) && decide (gm_nm lo hi n (bq_wo lf i) = -1))) (k + 1)))), some (.int (nI (k + 1))), none]) rfl (by first | rfl | (rw [gm_ms_no (q := (fun i => lf.testBit i && (decide (gm_tk lo hi n lf i = 0) && decide (gm_nm lo hi n (bq_wo lf i) = -1)))) (kq_f3 h9)]; rfl) | (rw [gm_ms_no (q := (fun i => lf.testBit i && (decide (gm_tk lo hi n lf i = 0) && decide (gm_nm lo hi n (bq_wo lf i) = -1)))) (kq_f1 h41)]; rfl)) rfl ?_
          exact ih (k + 1) (by omega) (by omega)
        · have h50 := kq_eq (b := 0) hc50
          refine kw_aload_n X dc_R_mad_53 rfl rfl ?_
          refine kw_get X (wc_R _) 0 rfl rfl 16 (by decide) (gq wd_613) (fun _ h => h) rfl dc_R_mad_54 ?_
          refine kw_iload_n X dc_R_mad_57 rfl rfl ?_
          refine kw_iald (v := iZ (gm_nm lo hi n (bq_wo lf k))) X 10 0 rfl rfl (kq_in (by omega) (by omega)) (by rw [kq_cl (by omega)]; exact (tb _ (by omega)).2) dc_R_mad_58 ?_
          refine kw_iconst (v := (-1)) X dc_R_mad_59 (by decide) ?_
          refine kw_icmp_ne (tgt := 71) X dc_R_mad_60 (by decide) (fun hc60 => ?_) (fun hc60 => ?_)
          · have h9 : ¬ (gm_tk lo hi n lf k = 0 ∧ gm_nm lo hi n (bq_wo lf k) = -1) := fun z => hc60 (by rw [z.2]; exact iZ_m1)
            refine kw_iload_n X dc_R_mad_71 rfl rfl ?_
            refine kw_istore_n X dc_R_mad_72 rfl (by decide) ?_
            refine kw_iinc (v := nI (k + 1)) X dc_R_mad_73 rfl (kq_inc k) (by decide) ?_
            refine kw_goto (tgt := 13) X dc_R_mad_76 (by decide) ?_
            refine kw_kill 3 ?_
            refine kw_cv (lv' := [some (.ref (rd 0)), some (.int (nI (gm_ms (fun i => lf.testBit i && (decide (gm_tk lo hi n lf i = 0) && decide (gm_nm lo hi n (bq_wo lf i) = -1))) (k + 1)))), some (.int (nI (k + 1))), none]) rfl (by first | rfl | (rw [gm_ms_no (q := (fun i => lf.testBit i && (decide (gm_tk lo hi n lf i = 0) && decide (gm_nm lo hi n (bq_wo lf i) = -1)))) (kq_f3 h9)]; rfl) | (rw [gm_ms_no (q := (fun i => lf.testBit i && (decide (gm_tk lo hi n lf i = 0) && decide (gm_nm lo hi n (bq_wo lf i) = -1)))) (kq_f1 h41)]; rfl)) rfl ?_
            exact ih (k + 1) (by omega) (by omega)
          · have h60 : gm_nm lo hi n (bq_wo lf k) = -1 := (iZ_inj (b := -1) (by omega) (by omega) (by omega) (by omega)).mp hc60
            refine kw_iload_n X dc_R_mad_63 rfl rfl ?_
            refine kw_iconst (v := (nI 1)) X dc_R_mad_64 (by decide) ?_
            refine kw_iload_n X dc_R_mad_65 rfl rfl ?_
            refine kw_ishl (v := nI (2 ^ k)) X dc_R_mad_66 (bq_shl (by omega)) ?_
            refine kw_ior (v := nI (gm_ms (fun i => lf.testBit i && (decide (gm_tk lo hi n lf i = 0) && decide (gm_nm lo hi n (bq_wo lf i) = -1))) (k + 1))) X dc_R_mad_67 (by rw [bq_or, show gm_ms (fun i => lf.testBit i && (decide (gm_tk lo hi n lf i = 0) && decide (gm_nm lo hi n (bq_wo lf i) = -1))) (k + 1) = gm_ms (fun i => lf.testBit i && (decide (gm_tk lo hi n lf i = 0) && decide (gm_nm lo hi n (bq_wo lf i) = -1))) k ||| 2 ^ k from if_pos (by simp [h41, h50, h60])]) ?_
            refine kw_goto (tgt := 72) X dc_R_mad_68 (by decide) ?_
            refine kw_istore_n X dc_R_mad_72 rfl (by decide) ?_
            refine kw_iinc (v := nI (k + 1)) X dc_R_mad_73 rfl (kq_inc k) (by decide) ?_
            refine kw_goto (tgt := 13) X dc_R_mad_76 (by decide) ?_
            refine kw_kill 3 ?_
            refine kw_cv (lv' := [some (.ref (rd 0)), some (.int (nI (gm_ms (fun i => lf.testBit i && (decide (gm_tk lo hi n lf i = 0) && decide (gm_nm lo hi n (bq_wo lf i) = -1))) (k + 1)))), some (.int (nI (k + 1))), none]) rfl (by first | rfl | (rw [gm_ms_no (q := (fun i => lf.testBit i && (decide (gm_tk lo hi n lf i = 0) && decide (gm_nm lo hi n (bq_wo lf i) = -1)))) (kq_f3 h9)]; rfl) | (rw [gm_ms_no (q := (fun i => lf.testBit i && (decide (gm_tk lo hi n lf i = 0) && decide (gm_nm lo hi n (bq_wo lf i) = -1)))) (kq_f1 h41)]; rfl)) rfl ?_
            exact ih (k + 1) (by omega) (by omega)
  · exact absurd hc4 (show ¬ nI 1 = 0 by decide)
set_option maxRecDepth 100000 in
set_option maxHeartbeats 4000000 in
theorem ct_RmadF {l : Launch} {D : va_G} {kI kB kC kL : ClassId} (rd : Nat → Nat) (th n : Nat) (one two own : Nat → Int32) (lf tu : Nat) (tk : Nat → Int32) (cu : Nat) (co tO t0 t1 : Nat → Int32) (sv : Bool) (mg nm : Nat → Int32) (gc : Nat) (go tx : Nat → Int32) (len : Nat)  : kw_I l mn_R_mad (gw mn_R_mad cd_R_mad 4 (some .int)) ({ frames := 1, cells := 0, slots := 0, locals := 20 } : Room) D cl_v (kt kI kB kC kL) kE [.ref (rd 0)] (wRF kI rd th n one two own false lf tu tk cu co tO t0 t1 sv mg nm gc go tx len) (fun r w => w = wRF kI rd 1 n one two own false lf tu tk cu co tO t0 t1 sv mg nm gc go tx len ∧ r = nI 0) 0 0 := by
  refine kw_ofI (cc := cd_R_mad) (maxL := 4) (ty := .int) (by decide) rfl (Nat.le_of_ble_eq_true rfl) rfl ?_
  intro pp ee s m args below meth c A X hr hlk hE hnm
  refine kw_aload_n X dc_R_mad_0 rfl rfl ?_
  refine kw_callVI X kEw hE 0 rfl rfl (ct_asksF rd th n one two own lf tu tk cu co tO t0 t1 sv mg nm gc go tx len) (cw_V 0 X wd_692 wd_694 wp_11 wd_8 wd_695 rfl rfl (by decide +kernel) ⟨Nat.le_of_ble_eq_true rfl, Nat.le_of_ble_eq_true rfl⟩) [0, 1, 2, 3, 4, 5, 6, 7, 8, 9, 10, 11, 12] rfl (by decide) (fun _ _ h => by obtain ⟨rfl, _⟩ := h; exact Nat.le_refl _) rfl rfl (Nat.le_of_ble_eq_true rfl) dc_R_mad_1 ⟨Nat.zero_le _, Nat.zero_le _⟩ (fun r w hp => ?_)
  obtain ⟨rfl, rfl⟩ := hp
  refine kw_cv (ws' := wRF kI rd 1 n one two own false lf tu tk cu co tO t0 t1 sv mg nm gc go tx len) rfl rfl rfl ?_
  refine kw_if_ne (tgt := 9) X dc_R_mad_4 (by decide) (fun hc4 => ?_) (fun hc4 => ?_)
  · exact absurd rfl hc4
  · refine kw_iconst (v := (nI 0)) X dc_R_mad_7 (by decide) ?_
    exact kw_iret X hr hlk dc_R_mad_8 ⟨rfl, rfl⟩
set_option maxRecDepth 100000 in
set_option maxHeartbeats 4000000 in
theorem ct_thrown {l : Launch} {D : va_G} {kI kB kC kL : ClassId} (rd : Nat → Nat) (th n : Nat) (one two own : Nat → Int32) (bg : Bool) (lf tu : Nat) (tk : Nat → Int32) (cu : Nat) (co tO t0 t1 : Nat → Int32) (sv : Bool) (mg nm : Nat → Int32) (gc : Nat) (go tx : Nat → Int32) (len : Nat)  : kw_I l mn_R_thrown (gw mn_R_thrown cd_R_thrown 1 (some .int)) ({ frames := 0, cells := 0, slots := 0, locals := 0 } : Room) D cl_v (kt kI kB kC kL) kE [.ref (rd 0)] (wRF kI rd th n one two own bg lf tu tk cu co tO t0 t1 sv mg nm gc go tx len) (fun r w => w = wRF kI rd th n one two own bg lf tu tk cu co tO t0 t1 sv mg nm gc go tx len ∧ r = nI th) 0 0 := by
  refine kw_ofI (cc := cd_R_thrown) (maxL := 1) (ty := .int) (by decide) rfl (Nat.le_of_ble_eq_true rfl) rfl ?_
  intro pp ee s m args below meth c A X hr hlk hE hnm
  refine kw_aload_n X dc_R_thrown_0 rfl rfl ?_
  refine kw_get X (wc_R _) 0 rfl rfl 0 (by decide) (gq wd_597) (fun _ h => h) rfl dc_R_thrown_1 ?_
  exact kw_iret X hr hlk dc_R_thrown_4 ⟨rfl, rfl⟩
end
