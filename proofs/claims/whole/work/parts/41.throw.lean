/-! contracts of methods that throw; the throw -/
def kx_Q (Xn : String) (post : va_W → Prop) (D : va_G) (cl : List vw_C) (tys : List (ClassId × FieldType)) (A : Nat → Prop) (mc ms : Nat) : Array Value → State → Outcome → State → Prop := fun _ st o t =>
  ∃ (x : Addr) (ce : Cell) (w : va_W) (L : List Loc), o = .threw x ∧ t.heap[x]? = some ce ∧ ce.vm = .none ∧ st.vm.findClass Xn = some ce.cls ∧ post w ∧ kw_B D cl tys A w t ∧ va_F A st t ∧ st.WarmedH t.vm ∧ st.sameButNew ({ t with vm := st.vm } : State) L mc ms ∧ ∀ q ∈ L, A q.base
/-- a method that throws an Xn: from the world wc, post of the world behind -/
def kx_T (l : Launch) (y : MethodName) (yw : List Cond) (rm : Room) (D : va_G) (cl : List vw_C) (tys : List (ClassId × FieldType)) (E : State → Prop) (as : List Value) (wc : va_W) (Xn : String) (post : va_W → Prop) (mc ms : Nat) : Prop :=
  ∀ sz : Nat, MetFree l y (headSpec yw rm) (kw_Pc D cl tys E as wc sz) (fun _ _ _ _ _ => True) (kx_Q Xn post D cl tys (va_A wc sz) mc ms)
def kx_MQ (below : List Frame) (Qx : Array Value → State → Outcome → State → Prop) (a : Array Value) (s : State) : State → Prop := fun t =>
  ∃ o, t.status = .running ∧ Ended t below o ∧ Qx a s o t
theorem kx_ofT {l : Launch} {y : MethodName} {yw yw' : List Cond} {rm : Room} {D : va_G} {cl : List vw_C} {tys : List (ClassId × FieldType)} {E : State → Prop} {as : List Value} {wc : va_W} {Xn : String} {post : va_W → Prop} {mc ms : Nat} {cc : ByteArray} {maxL : Nat} {ret : Option FieldType} (hy : plainName y.cls = true) (hw : yw = Cond.code y cc maxL ret :: yw') (hlen : (lg_sl as).length ≤ maxL) (hcat : as.all (fun w => w.category == 1) = true)
    (body : ∀ (p : Program) (e : Env) (s : State) (m : MethodId) (args : Array Value) (below : List Frame) (meth : Method) (c : Code) (A : Nat → Prop), kw_X p s m args c cc maxL y.cls yw D cl tys A → meth.locks = false → E s → kx_NA A s → c.exceptionTable.toList = [] →
      kw_W p l e rm s m args below meth c maxL D cl A 0 0 (kx_MQ below (kx_Q Xn post D cl tys A mc ms) args s) wc 0 (as.map some ++ List.replicate (maxL - as.length) none) []) : kx_T l y yw rm D cl tys E as wc Xn post mc ms := by
  intro sz
  refine MetFree.of_bodyS (code := cc) (maxLocals := maxL) (ret := ret) hy ?_ ?_
  · intro args s m h hn
    obtain ⟨meth, c, h1, h2, h3, h4, h5, h6, -, -⟩ := Cond.code_spec hn (atoms_spec (ws := yw) h _ (by rw [hw]; exact List.mem_cons_self))
    exact ⟨meth, c, h1, h2, h3, h4, h5, h6⟩
  · intro p e s m args below meth c s₁ B hml hv _
    have hh0 : s₁.heap = s.heap := by rw [B.state]; rfl
    obtain ⟨rfl, hsz, hP, hK, hD0, hE⟩ := hv
    subst hsz
    have htb : c.exceptionTable.toList = [] := by
      have h0 := BodyLoose.noHandlers B (atoms_spec (ws := yw) B.pre _ (by rw [hw]; exact List.mem_cons_self))
      have h1 : c.exceptionTable.size = 0 := by simpa [Array.isEmpty] using h0
      exact List.eq_nil_of_length_eq_zero (by simpa using h1)
    have hb := body p e s m _ below meth c (va_A wc s.heap.size) ⟨⟨B.exec, B.bytes, hml, findClass_of_methodNamed B.named, atoms_spec (ws := yw) B.pre⟩, hK, fun q h => Or.inr h⟩ B.notSynchronized hE (kx_NA.of hP) htb s.heap [] _ hP hD0.self va_S.rf (kw_entry as hlen (fun w hw => by have h9 := List.all_eq_true.mp hcat w hw; simpa using h9))
    rw [← lg_entry_eq] at hb
    obtain ⟨t, a1, o, b1, b2, b3⟩ := hb s₁ hh0 (Stand.of_body B)
    exact ⟨t, o, a1, b1, b2, b3⟩
theorem kx_unframe {U V : State} {F : List Frame} {L : List Loc} {k n : Nat} (h : (U.setFrames F).sameButNew V L k n) : U.sameButNew V L k n := by
  obtain ⟨h1, h2⟩ := h
  rw [State.setFrames_setFrames] at h1
  exact ⟨h1, h2⟩
section KXA
variable {p : Program} {l : Launch} {e : Env} {R : Room} {s : State} {m : MethodId} {args : Array Value} {below : List Frame} {meth : Method} {c : Code} {T : State} {locs : List Loc} {cells slots : Nat}
theorem kx_hears {U : State} {F : List Frame} (hW : s.WarmedH U.vm) (h : s.hears m below = true) : (U.setFrames F).hears m below = true := by
  have hc : ∀ k : MethodId, (U.setFrames F).code? k = s.code? k := fun k => by
    rw [State.code?_eq, State.code?_eq]
    show (U.vm.method? k).bind _ = _
    rw [hW.alike.method?]
  have hm : (U.setFrames F).vm.method? m = s.vm.method? m := hW.alike.method? m
  cases below with
  | nil => simp only [State.hears] at h ⊢; rw [hm]; exact h
  | cons b r => cases b <;> simp only [State.hears] at h ⊢ <;> first | (rw [hc]; exact h) | (rw [hm]; exact h)
/-- the walk goes on from here as from a start of its own -/
theorem kx_rebase (X : Stand p l e R s m args below meth c T locs cells slots) {k n : Nat} (hc : cells + k ≤ R.cells) (hs : slots + n ≤ R.slots) : Stand p l e { frames := R.frames, cells := k, slots := n, locals := R.locals } (T.setFrames (.invoking m args :: below)) m args below meth c T [] 0 0 := by
  obtain ⟨g0, hfr⟩ := X.frames_eq
  have hcur : T.cur < T.threads.size := State.cur_lt_of_frames hfr
  obtain ⟨t, ht, -⟩ := State.frames_cons hfr
  have hf : (T.setFrames (.invoking m args :: below)).frames = .invoking m args :: below := State.frames_setFrames _ hcur
  obtain ⟨r1, r2⟩ := X.roomAbove hc hs
  have hroom := X.room
  have hl1 := State.localsInUse_invoking X.frames X.method X.code
  have hl2 := State.localsInUse_invoking (s := T.setFrames (.invoking m args :: below)) hf X.method' X.code
  have hlim : e.platform.stackLimits (T.setFrames (.invoking m args :: below)).me = e.platform.stackLimits s.me := by rw [State.stackLimits_setFrames]; exact X.limits
  have hby : (T.setFrames (.invoking m args :: below)).me.stackBytes = s.me.stackBytes := by rw [State.stackBytes_setFrames]; exact X.bytes
  have hst : (T.setFrames (.invoking m args :: below)).slotsTrue = true := X.book
  refine ⟨X.admits, X.cas, X.clock, hf, ?_, kx_hears X.warmed X.hears, X.method', X.code, X.here, X.tail, State.WarmedH.refl (T.setFrames (.invoking m args :: below)), by rw [State.stackLimits_setFrames], by rw [State.stackBytes_setFrames], ?_⟩
  · simp only [State.hasRoom, Bool.and_eq_true, decide_eq_true_eq] at hroom ⊢
    obtain ⟨⟨⟨⟨a0, a1, a2, a3, a4, a5⟩, b1⟩, c1⟩, -⟩ := hroom
    rw [X.frames] at a1 a2
    rw [hl1] at a0 a3 a4
    rw [hl2, hf, hlim, hby]
    exact ⟨⟨⟨⟨a0, a1, a2, a3, a4, a5⟩, r1⟩, r2⟩, hst⟩
  · have hcur2 : (T.setFrames (.invoking m args :: below)).cur < (T.setFrames (.invoking m args :: below)).threads.size := State.cur_lt_of_frames hf
    obtain ⟨t2, ht2, -⟩ := State.frames_cons hf
    have h := (State.sameButNew.refl (T.setFrames (.invoking m args :: below)) ht2).setFrames T.frames hcur2
    rw [State.setFrames_setFrames, State.setFrames_self ht] at h
    exact h
end KXA
section KXB
variable {p : Program} {l : Launch} {e : Env} {R : Room} {s : State} {m : MethodId} {args : Array Value} {below : List Frame} {meth : Method} {c : Code} {cells slots : Nat} {Q : State → Prop}
variable {cc : ByteArray} {nL : Nat} {own : String} {D : va_G} {cl : List vw_C} {tys : List (ClassId × FieldType)} {A : Nat → Prop} {c0 : Cond}
variable {ws wc : va_W} {pc : Nat} {lv : List (Option Value)} {rest st0 : List Value} {as : List Value}
def kx_up : List String := ["java/lang/RuntimeException", "java/lang/Exception"]
theorem kx_gw (X : kw_X p s m args c cc nL own (c0 :: gw_tbl) D cl tys A) {U : State} (hW : s.WarmedH U.vm) {a' : Array Value} : ∀ w ∈ gw_tbl, w.before a' U = true := fun w hw => word_at hW (gw_good hw) (X.1.2.2.2.2 w (gq hw))
/-- throw new Xn() -/
theorem kx_throw (X : kw_X p s m args c cc nL own (c0 :: gw_tbl) D cl tys A) (hl0 : l.stackTraces = false) (hE : kEx s) (hN : kx_NA A s) (htb : c.exceptionTable.toList = []) (hlk : meth.locks = false) {Xn : String} {ik ic mc ms : Nat} {post : va_W → Prop} (hcls : Bundle.fit Xn = true) (hk : Cond.classLink own ik Xn ∈ gw_tbl) (hi : Cond.initialized Xn ∈ gw_tbl) (hat : kx_and kx_P (Bundle.ownAtoms0 own ic Xn kx_up))
    (d0 : decode cc pc = .ok (.new ik, 3)) (d3 : decode cc (pc + 3) = .ok (.dup, 1)) (d4 : decode cc (pc + 4) = .ok (.invokespecial ic, 3)) (d7 : decode cc (pc + 7) = .ok (.athrow, 1)) (hR : (5 < R.frames ∧ (rest.map fun v => v.category).sum + 81 ≤ R.locals) ∧ cells + 1 ≤ R.cells ∧ slots + 6 ≤ R.slots) (hm : cells + 1 = mc ∧ slots + 6 = ms) (hp : post ws) :
    kw_W p l e R s m args below meth c nL D cl A cells slots (kx_MQ below (kx_Q Xn post D cl tys A mc ms) args s) ws pc lv rest := fun H locs ls hP hD hS hl T hT X0 => by
  obtain ⟨rfl, rfl⟩ := hm
  have hexec := X.1.1
  have hb := X.1.2.1
  have htr : e.platform.stackTraces = false := by rw [Example.NoTraceControls.admits_follows X0.admits]; exact hl0
  have X1 := kx_rebase X0 (k := 1) (n := 6) hR.2.1 hR.2.2
  have hW1 : s.WarmedH (T.setFrames (.invoking m args :: below)).vm := X0.warmed
  have hEs : kEx (T.setFrames (.invoking m args :: below)) := hE.at hN hS hW1 hT
  have hg := kx_gw (a' := args) X hW1
  have hwd := kx_words hg hEs hat
  have hown : (T.setFrames (.invoking m args :: below)).vm.findClass own = some m.cls := by rw [hW1.alike.findClass]; exact X.1.2.2.2.1
  have hnames : ∀ n ∈ kx_up, Bundle.fit n = true := by decide +kernel
  subst hb
  obtain ⟨vm₁, cX, kX, hfX, hkX, -, -, X₂, st1⟩ := X1.newCold hexec (own := own) (C := Xn) (index := ik) (n := 6) hown (hg _ hk) (hwd (.instantiable Xn 6) (by simp [Bundle.ownAtoms0])) (hg _ hi) (g := F0 m pc ls rest) rfl d0 (Nat.le_refl _) (Nat.le_refl _)
  have hcellA : ((T.setVm vm₁).pushCell { cls := cX, slots := kX.instanceTypes.map defaultValue, vm := .none }).heap[T.heap.size]? = some (freshCell cX kX) := State.heap_pushCell_size _ _
  generalize (T.setVm vm₁).pushCell { cls := cX, slots := kX.instanceTypes.map defaultValue, vm := .none } = T9 at X₂ st1 hcellA
  have hsz : ls.size = c.maxLocals := hl.1.1.trans X.1.2.2.1.symm
  have hcat : (Value.ref T.heap.size).category = 1 := rfl
  obtain ⟨U, hsteps, hrun, hend, hWU, hsame, ce, hce, hoc⟩ := X₂.ctorThrow0 hexec htr (own := own) (cls := Xn) (names := kx_up) (ic := ic) hown hcls hnames hwd (fun x hx => by cases hx) hfX hkX hcellA (Nat.le_refl _)
    (g := F0 m (pc + 4) ls (.ref T.heap.size :: .ref T.heap.size :: rest)) rfl hsz rfl rfl (rest := rest) rfl d4 d7 (fun x hx => by rw [htb] at hx; cases hx) (by show 2 + 3 < R.frames; omega) (by show 2 * 0 + _ + (13 * (2 + 1) + 41) ≤ R.locals; simp only [List.map_cons, List.sum_cons, hcat]; omega) hlk
  have hold : ∀ (q : Nat) (x : Cell), H[q]? = some x → U.heap[q]? = some x := fun q x hx => by
    have h9 : (T.setFrames (.invoking m args :: below)).heap[q]? = some x := by show T.heap[q]? = some x; rw [hT]; exact hx
    exact State.sameButNew.old_cell hsame h9
  have hkp : ∀ q : Nat, q < H.size → U.heap[q]? = H[q]? := fun q hq => by rw [hold q H[q] (Array.getElem?_eq_getElem hq), Array.getElem?_eq_getElem hq]
  have hWs : s.WarmedH U.vm := State.WarmedH.trans hW1 hWU
  refine ⟨U, ?_, .threw T.heap.size, hrun, hend, T.heap.size, ce, ws, locs, rfl, hce, hoc.vm, ?_, hp, ⟨hP.kept (fun k x hx => hkp x.1 (hP k x hx).lt), va_K.moved hWs.alike X.2.1, hD⟩, ?_, hWs, ?_, hS.2.2⟩
  · refine st1 _ ?_
    have hX2 := X₂.here
    jvm_step hX2 [hX2.top, hexec, d3, hcat]
    exact hsteps
  · have h9 := hoc.cls
    rw [hW1.alike.findClass] at h9
    exact h9
  · have hz : H.size ≤ U.heap.size := by rw [← hT]; exact hsame.2.1
    exact ⟨Nat.le_trans hS.1 hz, fun q h1 h2 => (hkp q (Nat.lt_of_lt_of_le h1 hS.1)).trans (hS.2.1 q h1 h2)⟩
  · have h9 := X0.same.trans (kx_unframe (U := T.setVm s.vm) (F := .invoking m args :: below) (hsame.setVm s.vm))
    rw [List.append_nil] at h9
    exact h9
end KXB
