-- ===== PART A: goes FIRST, ahead of the names: the tables' words, and 'selects' of the private methods out of them =====
/-- a private method of a class that the tables say can be made, by its rows of tables_1 -/
def lw_okq (q : MethodName × Nat) : Prop := (q.1.cls ≠ "java/lang/invoke/MethodHandle" ∧ q.1.cls ≠ "java/lang/invoke/VarHandle") ∧ Cond.instantiable q.1.cls q.2 ∈ tables_1 ∧ Cond.privateMethod q.1 ∈ tables_1 ∧ Cond.instanceMethod q.1 ∈ tables_1
theorem lw_p0 : lw_okq (⟨"CoinStrings$Grouping", "leaderOf", "(I)I"⟩, 2) := ⟨⟨by decide +kernel, by decide +kernel⟩, List.mem_of_getElem? (i := 86) (by decide +kernel), List.mem_of_getElem? (i := 202) (by decide +kernel), List.mem_of_getElem? (i := 203) (by decide +kernel)⟩
theorem lw_p1 : lw_okq (⟨"CoinStrings$Grouping", "unite", "(II)V"⟩, 2) := ⟨⟨by decide +kernel, by decide +kernel⟩, List.mem_of_getElem? (i := 86) (by decide +kernel), List.mem_of_getElem? (i := 210) (by decide +kernel), List.mem_of_getElem? (i := 211) (by decide +kernel)⟩
theorem lw_p2 : lw_okq (⟨"CoinStrings$Text", "putString", "(I)V"⟩, 3) := ⟨⟨by decide +kernel, by decide +kernel⟩, List.mem_of_getElem? (i := 99) (by decide +kernel), List.mem_of_getElem? (i := 234) (by decide +kernel), List.mem_of_getElem? (i := 235) (by decide +kernel)⟩
theorem lw_p3 : lw_okq (⟨"CoinStrings$Text", "putDigit", "(I)V"⟩, 3) := ⟨⟨by decide +kernel, by decide +kernel⟩, List.mem_of_getElem? (i := 99) (by decide +kernel), List.mem_of_getElem? (i := 238) (by decide +kernel), List.mem_of_getElem? (i := 239) (by decide +kernel)⟩
theorem lw_p4 : lw_okq (⟨"CoinStrings$Text", "put", "(C)V"⟩, 3) := ⟨⟨by decide +kernel, by decide +kernel⟩, List.mem_of_getElem? (i := 99) (by decide +kernel), List.mem_of_getElem? (i := 242) (by decide +kernel), List.mem_of_getElem? (i := 243) (by decide +kernel)⟩
theorem lw_p5 : lw_okq (⟨"java/lang/Throwable", "fillInStackTrace", "(I)Ljava/lang/Throwable;"⟩, 6) := ⟨⟨by decide +kernel, by decide +kernel⟩, List.mem_of_getElem? (i := 303) (by decide +kernel), List.mem_of_getElem? (i := 301) (by decide +kernel), List.mem_of_getElem? (i := 302) (by decide +kernel)⟩
theorem lw_p6 : lw_okq (⟨"CoinStrings", "requireBegun", "()V"⟩, 12) := ⟨⟨by decide +kernel, by decide +kernel⟩, List.mem_of_getElem? (i := 20) (by decide +kernel), List.mem_of_getElem? (i := 394) (by decide +kernel), List.mem_of_getElem? (i := 395) (by decide +kernel)⟩
theorem lw_p7 : lw_okq (⟨"CoinStrings", "sever", "(I)I"⟩, 12) := ⟨⟨by decide +kernel, by decide +kernel⟩, List.mem_of_getElem? (i := 20) (by decide +kernel), List.mem_of_getElem? (i := 429) (by decide +kernel), List.mem_of_getElem? (i := 430) (by decide +kernel)⟩
theorem lw_p8 : lw_okq (⟨"CoinStrings$Web", "hangsOnlyOn", "(III)Z"⟩, 4) := ⟨⟨by decide +kernel, by decide +kernel⟩, List.mem_of_getElem? (i := 28) (by decide +kernel), List.mem_of_getElem? (i := 437) (by decide +kernel), List.mem_of_getElem? (i := 438) (by decide +kernel)⟩
theorem lw_p9 : lw_okq (⟨"CoinStrings$Margins", "given", "(II)I"⟩, 3) := ⟨⟨by decide +kernel, by decide +kernel⟩, List.mem_of_getElem? (i := 48) (by decide +kernel), List.mem_of_getElem? (i := 477) (by decide +kernel), List.mem_of_getElem? (i := 478) (by decide +kernel)⟩
theorem lw_p10 : lw_okq (⟨"CoinStringsModel", "hang", "(II)V"⟩, 21) := ⟨⟨by decide +kernel, by decide +kernel⟩, List.mem_of_getElem? (i := 592) (by decide +kernel), List.mem_of_getElem? (i := 673) (by decide +kernel), List.mem_of_getElem? (i := 674) (by decide +kernel)⟩
theorem lw_p11 : lw_okq (⟨"CoinStringsModel", "asks", "()Z"⟩, 21) := ⟨⟨by decide +kernel, by decide +kernel⟩, List.mem_of_getElem? (i := 592) (by decide +kernel), List.mem_of_getElem? (i := 693) (by decide +kernel), List.mem_of_getElem? (i := 694) (by decide +kernel)⟩
theorem lw_p12 : lw_okq (⟨"CoinStringsModel", "solve", "()V"⟩, 21) := ⟨⟨by decide +kernel, by decide +kernel⟩, List.mem_of_getElem? (i := 592) (by decide +kernel), List.mem_of_getElem? (i := 697) (by decide +kernel), List.mem_of_getElem? (i := 698) (by decide +kernel)⟩
theorem lw_p13 : lw_okq (⟨"CoinStringsModel", "marginOf", "(I)I"⟩, 21) := ⟨⟨by decide +kernel, by decide +kernel⟩, List.mem_of_getElem? (i := 592) (by decide +kernel), List.mem_of_getElem? (i := 701) (by decide +kernel), List.mem_of_getElem? (i := 702) (by decide +kernel)⟩
theorem lw_p14 : lw_okq (⟨"CoinStringsModel", "marginBy", "(II)I"⟩, 21) := ⟨⟨by decide +kernel, by decide +kernel⟩, List.mem_of_getElem? (i := 592) (by decide +kernel), List.mem_of_getElem? (i := 705) (by decide +kernel), List.mem_of_getElem? (i := 706) (by decide +kernel)⟩
theorem lw_p15 : lw_okq (⟨"CoinStringsModel", "takes", "(II)I"⟩, 21) := ⟨⟨by decide +kernel, by decide +kernel⟩, List.mem_of_getElem? (i := 592) (by decide +kernel), List.mem_of_getElem? (i := 709) (by decide +kernel), List.mem_of_getElem? (i := 710) (by decide +kernel)⟩
def lw_privs_1 : List (MethodName × Nat) := [(⟨"CoinStrings$Grouping", "leaderOf", "(I)I"⟩, 2), (⟨"CoinStrings$Grouping", "unite", "(II)V"⟩, 2), (⟨"CoinStrings$Text", "putString", "(I)V"⟩, 3), (⟨"CoinStrings$Text", "putDigit", "(I)V"⟩, 3), (⟨"CoinStrings$Text", "put", "(C)V"⟩, 3), (⟨"java/lang/Throwable", "fillInStackTrace", "(I)Ljava/lang/Throwable;"⟩, 6), (⟨"CoinStrings", "requireBegun", "()V"⟩, 12), (⟨"CoinStrings", "sever", "(I)I"⟩, 12), (⟨"CoinStrings$Web", "hangsOnlyOn", "(III)Z"⟩, 4), (⟨"CoinStrings$Margins", "given", "(II)I"⟩, 3), (⟨"CoinStringsModel", "hang", "(II)V"⟩, 21), (⟨"CoinStringsModel", "asks", "()Z"⟩, 21), (⟨"CoinStringsModel", "solve", "()V"⟩, 21), (⟨"CoinStringsModel", "marginOf", "(I)I"⟩, 21), (⟨"CoinStringsModel", "marginBy", "(II)I"⟩, 21), (⟨"CoinStringsModel", "takes", "(II)I"⟩, 21)]
theorem lw_r1 : ∀ q ∈ lw_privs_1, lw_okq q := List.forall_mem_cons.mpr ⟨lw_p0, List.forall_mem_cons.mpr ⟨lw_p1, List.forall_mem_cons.mpr ⟨lw_p2, List.forall_mem_cons.mpr ⟨lw_p3, List.forall_mem_cons.mpr ⟨lw_p4, List.forall_mem_cons.mpr ⟨lw_p5, List.forall_mem_cons.mpr ⟨lw_p6, List.forall_mem_cons.mpr ⟨lw_p7, List.forall_mem_cons.mpr ⟨lw_p8, List.forall_mem_cons.mpr ⟨lw_p9, List.forall_mem_cons.mpr ⟨lw_p10, List.forall_mem_cons.mpr ⟨lw_p11, List.forall_mem_cons.mpr ⟨lw_p12, List.forall_mem_cons.mpr ⟨lw_p13, List.forall_mem_cons.mpr ⟨lw_p14, List.forall_mem_cons.mpr ⟨lw_p15, fun _ h => absurd h List.not_mem_nil⟩⟩⟩⟩⟩⟩⟩⟩⟩⟩⟩⟩⟩⟩⟩⟩
theorem lw_p16 : lw_okq (⟨"CoinStringsModel", "nimOf", "(I)I"⟩, 21) := ⟨⟨by decide +kernel, by decide +kernel⟩, List.mem_of_getElem? (i := 592) (by decide +kernel), List.mem_of_getElem? (i := 713) (by decide +kernel), List.mem_of_getElem? (i := 714) (by decide +kernel)⟩
theorem lw_p17 : lw_okq (⟨"CoinStringsModel", "goodSet", "()I"⟩, 21) := ⟨⟨by decide +kernel, by decide +kernel⟩, List.mem_of_getElem? (i := 592) (by decide +kernel), List.mem_of_getElem? (i := 721) (by decide +kernel), List.mem_of_getElem? (i := 722) (by decide +kernel)⟩
theorem lw_p18 : lw_okq (⟨"CoinStringsModel", "make", "(I)I"⟩, 21) := ⟨⟨by decide +kernel, by decide +kernel⟩, List.mem_of_getElem? (i := 592) (by decide +kernel), List.mem_of_getElem? (i := 737) (by decide +kernel), List.mem_of_getElem? (i := 738) (by decide +kernel)⟩
theorem lw_p19 : lw_okq (⟨"CoinStringsModel", "belong", "(II)I"⟩, 21) := ⟨⟨by decide +kernel, by decide +kernel⟩, List.mem_of_getElem? (i := 592) (by decide +kernel), List.mem_of_getElem? (i := 765) (by decide +kernel), List.mem_of_getElem? (i := 766) (by decide +kernel)⟩
theorem lw_p20 : lw_okq (⟨"CoinStringsModel", "part", "()V"⟩, 21) := ⟨⟨by decide +kernel, by decide +kernel⟩, List.mem_of_getElem? (i := 592) (by decide +kernel), List.mem_of_getElem? (i := 773) (by decide +kernel), List.mem_of_getElem? (i := 774) (by decide +kernel)⟩
theorem lw_p21 : lw_okq (⟨"CoinStringsModel", "spread", "()V"⟩, 21) := ⟨⟨by decide +kernel, by decide +kernel⟩, List.mem_of_getElem? (i := 592) (by decide +kernel), List.mem_of_getElem? (i := 777) (by decide +kernel), List.mem_of_getElem? (i := 778) (by decide +kernel)⟩
theorem lw_p22 : lw_okq (⟨"CoinStringsModel", "joined", "(II)Z"⟩, 21) := ⟨⟨by decide +kernel, by decide +kernel⟩, List.mem_of_getElem? (i := 592) (by decide +kernel), List.mem_of_getElem? (i := 781) (by decide +kernel), List.mem_of_getElem? (i := 782) (by decide +kernel)⟩
theorem lw_p23 : lw_okq (⟨"CoinStringsModel", "write", "(I)V"⟩, 21) := ⟨⟨by decide +kernel, by decide +kernel⟩, List.mem_of_getElem? (i := 592) (by decide +kernel), List.mem_of_getElem? (i := 793) (by decide +kernel), List.mem_of_getElem? (i := 794) (by decide +kernel)⟩
def lw_privs_2 : List (MethodName × Nat) := [(⟨"CoinStringsModel", "nimOf", "(I)I"⟩, 21), (⟨"CoinStringsModel", "goodSet", "()I"⟩, 21), (⟨"CoinStringsModel", "make", "(I)I"⟩, 21), (⟨"CoinStringsModel", "belong", "(II)I"⟩, 21), (⟨"CoinStringsModel", "part", "()V"⟩, 21), (⟨"CoinStringsModel", "spread", "()V"⟩, 21), (⟨"CoinStringsModel", "joined", "(II)Z"⟩, 21), (⟨"CoinStringsModel", "write", "(I)V"⟩, 21)]
theorem lw_r2 : ∀ q ∈ lw_privs_2, lw_okq q := List.forall_mem_cons.mpr ⟨lw_p16, List.forall_mem_cons.mpr ⟨lw_p17, List.forall_mem_cons.mpr ⟨lw_p18, List.forall_mem_cons.mpr ⟨lw_p19, List.forall_mem_cons.mpr ⟨lw_p20, List.forall_mem_cons.mpr ⟨lw_p21, List.forall_mem_cons.mpr ⟨lw_p22, List.forall_mem_cons.mpr ⟨lw_p23, fun _ h => absurd h List.not_mem_nil⟩⟩⟩⟩⟩⟩⟩⟩
def lw_privs : List (MethodName × Nat) := lw_privs_1 ++ (lw_privs_2)
def lw_tbl : List Cond := k2_sels lw_privs ++ tables_1
theorem lw_privs_ok : ∀ q ∈ lw_privs, lw_okq q := by
  show ∀ q ∈ lw_privs_1 ++ (lw_privs_2), lw_okq q
  exact List.forall_mem_append.mpr ⟨lw_r1, lw_r2⟩
/-- the words of the tables that every state that is warmer has too -/
def gw_tbl : List Cond := lw_tbl.filter goodWord
theorem gw_t {i : Nat} {w : Cond} (h : tables_1[i]? = some w) (hg : goodWord w = true) : w ∈ gw_tbl := List.mem_filter.mpr ⟨List.mem_append_right _ (List.mem_of_getElem? h), hg⟩
theorem gw_p {i : Nat} {w : Cond} (h : (k2_sels lw_privs)[i]? = some w) (hg : goodWord w = true) : w ∈ gw_tbl := List.mem_filter.mpr ⟨List.mem_append_left _ (List.mem_of_getElem? h), hg⟩
/-- a method's words: its code, and all the tables' -/
abbrev gw (y : MethodName) (cc : ByteArray) (maxL : Nat) (ret : Option FieldType) : List Cond := Cond.code y cc maxL ret :: gw_tbl
theorem gq {c w : Cond} (h : w ∈ gw_tbl) : w ∈ c :: gw_tbl := List.mem_cons_of_mem _ h
theorem gw_good {w : Cond} (h : w ∈ gw_tbl) : (w.onTables && w.keeps) = true ∨ ∃ ty, w = .arrayClass ty := good_of_word (List.mem_filter.mp h).2
theorem gw_in {c d : Cond} (h : d ∈ gw_tbl) : GoodIn (c :: gw_tbl) (d :: gw_tbl) := fun w hw => by
  rcases List.mem_cons.mp hw with e | e
  · subst e
    exact ⟨gq h, gw_good h⟩
  · exact ⟨gq e, gw_good e⟩
theorem gw_V {c : Cond} {own C : String} {idx : Nat} {y : MethodName} {d : Cond} (h1 : Cond.methodLink own idx y ∈ gw_tbl) (h2 : Cond.instanceMethod y ∈ gw_tbl) (h3 : Cond.selects C y y ∈ gw_tbl) (h4 : Cond.initialized C ∈ gw_tbl) (h5 : d ∈ gw_tbl) : GoodIn (c :: gw_tbl) (wsV own idx C y (d :: gw_tbl)) := fun w hw => by
  unfold wsV at hw
  rcases List.mem_append.mp hw with e | e
  · simp only [List.mem_cons, List.not_mem_nil, or_false] at e
    rcases e with e | e | e | e <;> subst e
    · exact ⟨gq h1, gw_good h1⟩
    · exact ⟨gq h2, gw_good h2⟩
    · exact ⟨gq h3, gw_good h3⟩
    · exact ⟨gq h4, gw_good h4⟩
  · exact gw_in h5 w e
theorem gw_S {c : Cond} {own : String} {idx : Nat} {y : MethodName} {d : Cond} (h1 : Cond.methodLink own idx y ∈ gw_tbl) (h2 : Cond.static y ∈ gw_tbl) (h4 : Cond.initialized own ∈ gw_tbl) (h5 : d ∈ gw_tbl) : GoodIn (c :: gw_tbl) (wsS own idx y (d :: gw_tbl)) := fun w hw => by
  unfold wsS at hw
  rcases List.mem_append.mp hw with e | e
  · simp only [List.mem_cons, List.not_mem_nil, or_false] at e
    rcases e with e | e | e <;> subst e
    · exact ⟨gq h1, gw_good h1⟩
    · exact ⟨gq h2, gw_good h2⟩
    · exact ⟨gq h4, gw_good h4⟩
  · exact gw_in h5 w e
theorem gw_U {c : Cond} {own C owner : String} {idx : Nat} {x y : MethodName} {d : Cond} (h1 : Cond.methodLink own idx x ∈ gw_tbl) (h2 : Cond.sameMethod x.cls owner x.name x.desc ∈ gw_tbl) (h3 : Cond.selects C x y ∈ gw_tbl) (h4 : Cond.instanceMethod y ∈ gw_tbl) (h6 : Cond.initialized y.cls ∈ gw_tbl) (h5 : d ∈ gw_tbl) : GoodIn (c :: gw_tbl) (va_wsU own idx C owner x y (d :: gw_tbl)) := fun w hw => by
  unfold va_wsU at hw
  rcases List.mem_append.mp hw with e | e
  · simp only [List.mem_cons, List.not_mem_nil, or_false] at e
    rcases e with e | e | e | e | e <;> subst e
    · exact ⟨gq h1, gw_good h1⟩
    · exact ⟨gq h2, gw_good h2⟩
    · exact ⟨gq h3, gw_good h3⟩
    · exact ⟨gq h4, gw_good h4⟩
    · exact ⟨gq h6, gw_good h6⟩
  · exact gw_in h5 w e
