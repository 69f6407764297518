/-! calls' words out of the tables; words across a nest; worlds -/
section CWS
variable {p : Program} {l : Launch} {e : Env} {R : Room} {s : State} {m : MethodId} {args : Array Value} {below : List Frame} {meth : Method} {c : Code} {cells slots : Nat} {Q : State → Prop}
variable {cc : ByteArray} {nL : Nat} {own : String} {D : va_G} {cl : List vw_C} {tys : List (ClassId × FieldType)} {A : Nat → Prop} {c0 : Cond}
variable {C : String} {idx : Nat} {y : MethodName} {bytes : ByteArray} {maxL mc ms : Nat} {ret : Option FieldType} {rm : Room}
theorem cw_V (n : Nat) (X : kw_X p s m args c cc nL own (c0 :: gw_tbl) D cl tys A) (h1 : Cond.methodLink own idx y ∈ gw_tbl) (h2 : Cond.instanceMethod y ∈ gw_tbl) (h3 : Cond.selects C y y ∈ gw_tbl) (h4 : Cond.initialized C ∈ gw_tbl) (h5 : Cond.code y bytes maxL ret ∈ gw_tbl) (hrc : rm.cells = mc) (hrs : rm.slots = ms)
    (hd : y.cls = C ∧ y.cls ≠ "java/lang/invoke/MethodHandle" ∧ y.cls ≠ "java/lang/invoke/VarHandle" ∧ (parseMethodDescriptor y.desc).map (fun d => d.parameters.length) = some n) (hR : rm.frames + 1 ≤ R.frames ∧ 8 + (maxL + 11) + rm.locals ≤ R.locals) : CallW R s args own C idx y bytes maxL ret (gw y bytes maxL ret) rm mc ms n :=
  cwV n X.1.2.2.2.2 (gw_V h1 h2 h3 h4 h5) rfl hrc hrs hd hR
theorem cw_S (n : Nat) (X : kw_X p s m args c cc nL own (c0 :: gw_tbl) D cl tys A) (h1 : Cond.methodLink own idx y ∈ gw_tbl) (h2 : Cond.static y ∈ gw_tbl) (h4 : Cond.initialized y.cls ∈ gw_tbl) (h5 : Cond.code y bytes maxL ret ∈ gw_tbl) (hrc : rm.cells = mc) (hrs : rm.slots = ms)
    (hd : y.cls ≠ "java/lang/invoke/MethodHandle" ∧ y.cls ≠ "java/lang/invoke/VarHandle" ∧ (parseMethodDescriptor y.desc).map (fun d => d.parameters.length) = some n) (hR : rm.frames + 1 ≤ R.frames ∧ 8 + (maxL + 11) + rm.locals ≤ R.locals) : CallB R s args own idx y bytes maxL ret (gw y bytes maxL ret) rm mc ms n ∧ (Cond.static y).before args s = true :=
  ⟨callB_of n X.1.2.2.2.2 (gw_in h5) rfl hrc hrs (X.1.2.2.2.2 _ (gq h4)) (X.1.2.2.2.2 _ (gq h1)) hd hR, X.1.2.2.2.2 _ (gq h2)⟩
theorem cw_SN {host : String} (n : Nat) (X : kw_X p s m args c cc nL own (c0 :: gw_tbl) D cl tys A) (h1 : va_Nw (.methodLinkNest own idx y host) s) (h2 : Cond.static y ∈ gw_tbl) (h4 : Cond.initialized y.cls ∈ gw_tbl) (h5 : Cond.code y bytes maxL ret ∈ gw_tbl) (hrc : rm.cells = mc) (hrs : rm.slots = ms)
    (hd : y.cls ≠ "java/lang/invoke/MethodHandle" ∧ y.cls ≠ "java/lang/invoke/VarHandle" ∧ (parseMethodDescriptor y.desc).map (fun d => d.parameters.length) = some n) (hR : rm.frames + 1 ≤ R.frames ∧ 8 + (maxL + 11) + rm.locals ≤ R.locals) : va_CN R s args own idx y host bytes maxL ret (gw y bytes maxL ret) rm mc ms n ∧ (Cond.static y).before args s = true ∧ True :=
  ⟨va_cnB n X.1.2.2.2.2 (gw_in h5) rfl hrc hrs h1 (X.1.2.2.2.2 _ (gq h4)) hd hR, X.1.2.2.2.2 _ (gq h2), trivial⟩
theorem cw_U {owner : String} {x : MethodName} (n : Nat) (X : kw_X p s m args c cc nL own (c0 :: gw_tbl) D cl tys A) (h1 : Cond.methodLink own idx x ∈ gw_tbl) (h2 : Cond.sameMethod x.cls owner x.name x.desc ∈ gw_tbl) (h3 : Cond.selects C x y ∈ gw_tbl) (h4 : Cond.instanceMethod y ∈ gw_tbl) (h6 : Cond.initialized y.cls ∈ gw_tbl) (h5 : Cond.code y bytes maxL ret ∈ gw_tbl) (hrc : rm.cells = mc) (hrs : rm.slots = ms)
    (hyx : y = ⟨owner, x.name, x.desc⟩) (hd : owner ≠ "java/lang/invoke/MethodHandle" ∧ owner ≠ "java/lang/invoke/VarHandle" ∧ (parseMethodDescriptor x.desc).map (fun d => d.parameters.length) = some n) (hR : rm.frames + 1 ≤ R.frames ∧ 8 + (maxL + 11) + rm.locals ≤ R.locals) : va_CU R s args own C owner idx x y bytes maxL ret (gw y bytes maxL ret) rm mc ms n :=
  va_cwU n X.1.2.2.2.2 (gw_U h1 h2 h3 h4 h6 h5) rfl hrc hrs hyx hd hR
theorem cw_A {owner : String} {x : MethodName} (n : Nat) (X : kw_X p s m args c cc nL own (c0 :: gw_tbl) D cl tys A) (h1 : Cond.methodLink own idx x ∈ gw_tbl) (h2 : Cond.sameMethod x.cls owner x.name x.desc ∈ gw_tbl) (h3 : Cond.selects C x y ∈ gw_tbl) (h4 : Cond.instanceMethod y ∈ gw_tbl) (h6 : Cond.initialized y.cls ∈ gw_tbl) (h5 : Cond.code y bytes maxL ret ∈ gw_tbl) (hrc : rm.cells = mc) (hrs : rm.slots = ms)
    (hz : va_Nw (.declares ⟨owner, x.name, x.desc⟩) s) (hd : owner ≠ "java/lang/invoke/MethodHandle" ∧ owner ≠ "java/lang/invoke/VarHandle" ∧ (parseMethodDescriptor x.desc).map (fun d => d.parameters.length) = some n) (hR : rm.frames + 1 ≤ R.frames ∧ 8 + (maxL + 11) + rm.locals ≤ R.locals) : va_CU R s args own C owner idx x y bytes maxL ret (gw y bytes maxL ret) rm mc ms n :=
  va_cwA n X.1.2.2.2.2 (gw_U h1 h2 h3 h4 h6 h5) rfl hrc hrs hz hd hR
/-- a private method of a class above the receiver's -/
theorem cw_sel {k : Nat} {args : Array Value} {s : State} (hy : y.cls ≠ "java/lang/invoke/MethodHandle" ∧ y.cls ≠ "java/lang/invoke/VarHandle") (hi : (Cond.instantiable C k).before args s = true) (hp : (Cond.privateMethod y).before args s = true) (hn : (Cond.instanceMethod y).before args s = true) (hs : (Cond.sameMethod y.cls y.cls y.name y.desc).before args s = true) : (Cond.selects C y y).before args s = true := by
  obtain ⟨c1, k1, hc1, hk1, -⟩ := Cond.instantiable_spec hi
  obtain ⟨mk, methM, hnamed, hmethM, -, -⟩ := Cond.instanceMethod_spec hn
  obtain ⟨c2, k2, r2, hc2, hk2, hni, -, -⟩ := Cond.sameMethod_found hs
  have e1 : mk.cls = c2 := Option.some.inj ((findClass_of_methodNamed hnamed).symm.trans hc2)
  have e2 : s.methodFound? y.cls y.name y.desc = some mk := State.methodFound?_of_named hnamed hy
  have e3 : selectMethod {} s.vm c1 mk = .method mk := selectMethod_private hmethM (Cond.privateMethod_at hp mk methM hnamed hmethM)
  simp only [Cond.before, Cond.holds, Cond.value, hc1, e2, hnamed, e3, e1, hk2]
  simp
  exact hni
theorem cw_P (n : Nat) (X : kw_X p s m args c cc nL own (c0 :: gw_tbl) D cl tys A) (h1 : Cond.methodLink own idx y ∈ gw_tbl) (h2 : Cond.instanceMethod y ∈ gw_tbl) (h3 : va_Nw (.selects C y y) s) (h4 : Cond.initialized y.cls ∈ gw_tbl) (h5 : Cond.code y bytes maxL ret ∈ gw_tbl) (hrc : rm.cells = mc) (hrs : rm.slots = ms)
    (hd : y.cls ≠ "java/lang/invoke/MethodHandle" ∧ y.cls ≠ "java/lang/invoke/VarHandle" ∧ (parseMethodDescriptor y.desc).map (fun d => d.parameters.length) = some n) (hR : rm.frames + 1 ≤ R.frames ∧ 8 + (maxL + 11) + rm.locals ≤ R.locals) : CallW R s args own C idx y bytes maxL ret (gw y bytes maxL ret) rm mc ms n :=
  ⟨callB_of n X.1.2.2.2.2 (gw_in h5) rfl hrc hrs (X.1.2.2.2.2 _ (gq h4)) (X.1.2.2.2.2 _ (gq h1)) hd hR, X.1.2.2.2.2 _ (gq h2), va_Nw.use rfl h3⟩
theorem kw_ldcw (X : kw_X p s m args c cc nL own (c0 :: gw_tbl) D cl tys A) {ws : va_W} {pc : Nat} {lv : List (Option Value)} {rest : List Value} {index : Nat} {v : Int32} (hconst : Cond.constant own index v ∈ gw_tbl) (d : decode cc pc = .ok (.ldc_w index, 3)) (k : kw_W p l e R s m args below meth c nL D cl A cells slots Q ws (pc + 3) lv (.int v :: rest)) : kw_W p l e R s m args below meth c nL D cl A cells slots Q ws pc lv rest := fun H locs ls hP hD hS hl => lv_ldcw X.1.1 X.1.2.1 X.1.2.2.2.1 (X.1.2.2.2.2 _ (gq hconst)) d (k H locs ls hP hD hS hl)
end CWS
def bad_w : List Cond := [Cond.methodLinkNest "CoinStrings" 11 ⟨"CoinStrings$Web", "<init>", "()V"⟩ "CoinStrings", Cond.methodLinkNest "CoinStrings$Grouping" 29 ⟨"CoinStrings", "has", "(II)Z"⟩ "CoinStrings", Cond.methodLinkNest "CoinStrings$Text" 29 ⟨"CoinStrings", "has", "(II)Z"⟩ "CoinStrings", Cond.methodLinkNest "CoinStrings$Margins" 21 ⟨"CoinStrings", "has", "(II)Z"⟩ "CoinStrings", Cond.methodLinkNest "CoinStrings$Margins" 41 ⟨"CoinStrings", "without", "(II)I"⟩ "CoinStrings", Cond.methodLinkNest "CoinStrings$NimValues" 21 ⟨"CoinStrings", "has", "(II)Z"⟩ "CoinStrings", Cond.methodLinkNest "CoinStrings$NimValues" 29 ⟨"CoinStrings", "without", "(II)I"⟩ "CoinStrings", Cond.methodLinkNest "CoinStrings$NimValues" 36 ⟨"CoinStrings", "least", "(I)I"⟩ "CoinStrings", Cond.methodLinkNest "CoinStrings$Values" 32 ⟨"CoinStrings", "has", "(II)Z"⟩ "CoinStrings", Cond.declares ⟨"CoinStrings$Values", "workOut", "(I)I"⟩, Cond.declares ⟨"CoinStrings$Values", "isMarked", "(II)Z"⟩, Cond.selects "CoinStrings$Margins" ⟨"CoinStrings$Values", "prepare", "()V"⟩ ⟨"CoinStrings$Values", "prepare", "()V"⟩, Cond.selects "CoinStrings$NimValues" ⟨"CoinStrings$Values", "prepare", "()V"⟩ ⟨"CoinStrings$Values", "prepare", "()V"⟩]
abbrev kE : State → Prop := kw_En bad_w
theorem kEw (s U : State) (hW : s.WarmedH U.vm) (h : kE s) : kE U := kw_En.warm (by decide +kernel) hW h
/-- the arrays' types: int, byte, char, long -/
abbrev kt (kI kB kC kL : ClassId) : List (ClassId × FieldType) := [(kI, .int), (kB, .byte), (kC, .char), (kL, .long)]
theorem kq_inc (k : Nat) : nI k + Int32.ofInt 1 = nI (k + 1) := nI_1 k
/-- Web: its object, lesser ends, other ends, the strings of the coins -/
abbrev wWeb (kI : ClassId) (w0 w1 w2 w3 n : Nat) (les oth soc : Nat → Int32) : va_W := [(w0, .inr (1, [.ref w1, .ref w2, .ref w3, .int (nI n)])), (w1, .inl (kI, 12, .inl les)), (w2, .inl (kI, 12, .inl oth)), (w3, .inl (kI, 8, .inl soc))]
/-- a table of values over Web: the object of the kind ci, its table -/
abbrev wVal (ci : Nat) (kI kB : ClassId) (v0 v1 w0 w1 w2 w3 n : Nat) (rd : Int32) (f les oth soc : Nat → Int32) : va_W := (v0, .inr (ci, [.ref w0, .ref v1, .int rd])) :: (v1, .inl (kB, 4096, .inl f)) :: wWeb kI w0 w1 w2 w3 n les oth soc
/-- its arrays hold the strings lo, hi -/
def webOk (lo hi : Nat → Nat) (n : Nat) (les oth soc : Nat → Int32) : Prop := gm_ok lo hi n ∧ (∀ i, i < n → les i = nI (lo i) ∧ oth i = og (hi i)) ∧ ∀ c, c < 8 → soc c = nI (gm_mk lo hi n c)
/-- f, its first k places as g has them -/
def kq_pre (g f : Nat → Int32) (k : Nat) : Nat → Int32 := fun j => if j < k then g j else f j
theorem kq_pre_upd {g f : Nat → Int32} {k : Nat} {x : Int32} (h : x = g k) : upd (kq_pre g f k) k x = kq_pre g f (k + 1) := by
  funext j
  show (if j = k then x else (if j < k then g j else f j)) = (if j < k + 1 then g j else f j)
  by_cases h1 : j = k
  · rw [if_pos h1, if_pos (show j < k + 1 by omega), h1, h]
  · rw [if_neg h1]
    by_cases h2 : j < k
    · rw [if_pos h2, if_pos (show j < k + 1 by omega)]
    · rw [if_neg h2, if_neg (show ¬ j < k + 1 by omega)]
theorem kq_pre_lt {g f : Nat → Int32} {k j : Nat} (h : j < k) : kq_pre g f k j = g j := if_pos h
theorem kq_pre_ge {g f : Nat → Int32} {k j : Nat} (h : k ≤ j) : kq_pre g f k j = f j := if_neg (by omega)
theorem kq_cl {k : Nat} (h : k < 4096) : (nI k).toNatClampNeg = k := nI_clamp (by omega)
theorem kq_le {a b : Nat} (h : nI a ≤ nI b) (ha : a < 2 ^ 31 := by omega) (hb : b < 2 ^ 31 := by omega) : a ≤ b := (nI_leI ha hb).mp h
theorem kq_nle {a b : Nat} (h : ¬ nI a ≤ nI b) (ha : a < 2 ^ 31 := by omega) (hb : b < 2 ^ 31 := by omega) : b < a := Nat.not_le.mp (fun z => h ((nI_leI ha hb).mpr z))
theorem kq_lt {a b : Nat} (h : nI a < nI b) (ha : a < 2 ^ 31 := by omega) (hb : b < 2 ^ 31 := by omega) : a < b := (nI_ltI ha hb).mp h
theorem kq_nlt {a b : Nat} (h : ¬ nI a < nI b) (ha : a < 2 ^ 31 := by omega) (hb : b < 2 ^ 31 := by omega) : b ≤ a := Nat.not_lt.mp (fun z => h ((nI_ltI ha hb).mpr z))
theorem kq_eq {a b : Nat} (h : nI a = nI b) (ha : a < 2 ^ 31 := by omega) (hb : b < 2 ^ 31 := by omega) : a = b := (nI_eq ha hb).mp h
theorem kq_ne {a b : Nat} (h : ¬ nI a = nI b) (ha : a < 2 ^ 31 := by omega) (hb : b < 2 ^ 31 := by omega) : a ≠ b := fun z => h ((nI_eq ha hb).mpr z)
theorem kq_in {k N : Nat} (h : k < N) (hN : N ≤ 4096) : vp_in (nI k) N := vp_in_nI h (by omega)
