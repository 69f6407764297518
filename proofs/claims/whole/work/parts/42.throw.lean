/-! calls of methods that throw: the caller leaves with it, or catches it -/
def kx_Po (Xn : String) (post : va_W → Prop) (D : va_G) (cl : List vw_C) (A : Nat → Prop) (mc ms : Nat) : Pt → Array Value → Addr → Pt → Prop := fun P a x B =>
  ∃ (g : JFrame) (mk : MethodId) (t : State) (ce : Cell) (w : va_W) (L : List Loc), B.U.heap = t.heap ∧ t.heap[x]? = some ce ∧ ce.vm = .none ∧ P.U.vm.findClass Xn = some ce.cls ∧ post w ∧ va_P D cl w t.heap ∧ va_D A w ∧ va_F A (P.U.calling g mk a) t ∧ B.locs = P.locs ++ L ∧ (∀ q ∈ L, A q.base) ∧ B.cells = P.cells + mc ∧ B.slots = P.slots + ms
def kx_Run (p : Program) (l : Launch) (e : Env) (R : Room) (s : State) (m : MethodId) (args : Array Value) (below : List Frame) (meth : Method) (c : Code) (H : Heap) (locs : List Loc) (cells slots mc ms : Nat) (g : JFrame) (rest : List Value) (Xn : String) (post : va_W → Prop) (D : va_G) (cl : List vw_C) (A : Nat → Prop) : Prop :=
  ∀ T : State, T.heap = H → Stand p l e R s m args below meth c T locs cells slots → ∃ (x : Addr) (ce : Cell) (w : va_W) (T' : State) (L : List Loc), Stand p l e R s m args below meth c T' (locs ++ L) (cells + mc) (slots + ms) ∧ (∀ q ∈ L, A q.base) ∧ T'.heap[x]? = some ce ∧ ce.vm = .none ∧ s.vm.findClass Xn = some ce.cls ∧ post w ∧ va_P D cl w T'.heap ∧ va_D A w ∧ H.size ≤ T'.heap.size ∧ (∀ q : Nat, q < H.size → ¬ A q → T'.heap[q]? = H[q]?) ∧
    Steps p.tables e below (T.setTop g) ((T'.setTop { g with stack := rest }).pushFrame (.throwing x))
section KXC
variable {p : Program} {l : Launch} {e : Env} {R : Room} {s : State} {m : MethodId} {args : Array Value} {below : List Frame} {meth : Method} {c : Code} {H : Heap} {locs : List Loc} {cells slots : Nat}
variable {y : MethodName} {bytes cc : ByteArray} {maxL nL mc ms n index : Nat} {ret : Option FieldType} {yw : List Cond} {rm : Room} {Pc : Array Value → State → Prop} {Ts : List Cond} {own C : String} {b : Addr} {As rest : List Value} {g : JFrame}
variable {D : va_G} {cl : List vw_C} {tys : List (ClassId × FieldType)} {A1 : Nat → Prop} {Xn : String} {post : va_W → Prop}
theorem kx_back (cb : CallB R s args own index y bytes maxL ret yw rm mc ms n) (hM : MetFree l y (headSpec yw rm) Pc (fun _ _ _ _ _ => True) (kx_Q Xn post D cl tys A1 mc ms)) (hbl : FrameBlind Pc) : Jvm.Free.BackT l R p e below s args y 3 8 (PreOf R mc ms Pc) (kx_Po Xn post D cl A1 mc ms) := by
  obtain ⟨hrc, hrs, hfr, hlo, hws, hcw, -, hini, -⟩ := cb
  refine Jvm.Free.BackT.of_free (S := headSpec yw rm) (P := Pc) (K := fun _ _ _ _ _ => True) (Q := kx_Q Xn post D cl tys A1 mc ms) (bytes := bytes) (maxL := maxL) (ret := ret)
    (E := fun _ st o t L k n => k = mc ∧ n = ms ∧ (∀ q ∈ L, A1 q.base) ∧ ∃ (x : Addr) (ce : Cell) (w : va_W), o = .threw x ∧ t.heap[x]? = some ce ∧ ce.vm = .none ∧ st.vm.findClass Xn = some ce.cls ∧ post w ∧ va_P D cl w t.heap ∧ va_D A1 w ∧ va_F A1 st t) hM hfr hlo ?_ ?_ (fun _ _ _ _ _ _ _ _ _ => trivial) ?_ ?_
  · intro m meth c A a X hp
    exact ⟨atoms_intro fun w hw => hws w hw _ _ X.warmed, hws _ hcw _ _ X.warmed, word_at X.warmed (Or.inl (by first | rfl | simp [Cond.onTables, Cond.keeps, Cond.steady])) hini, by rw [show (headSpec yw rm).room.cells = mc from hrc]; exact hp.1, by rw [show (headSpec yw rm).room.slots = ms from hrs]; exact hp.2.1⟩
  · intro m meth c A a g mk X hp
    exact hbl _ _ _ _ hp.2.2
  · intro a st o t hq
    obtain ⟨x, ce, w, L, e1, h1, h2, h3, h4, ⟨h5, -, h6⟩, h7, h8, h9, h10⟩ := hq
    exact ⟨L, mc, ms, ⟨⟨x, e1⟩, h8, h9⟩, rfl, rfl, h10, x, ce, w, e1, h1, h2, h3, h4, h5, h6, h7⟩
  · intro m meth c A a g mk v t L k n X hp hq hF hx
    obtain ⟨e1, e2, hL, x, ce, w, e3, h1, h2, h3, h4, h5, h6, h7⟩ := hx
    cases e3
    subst e1; subst e2
    exact ⟨g, mk, t, ce, w, L, rfl, h1, h2, h3, h4, h5, h6, h7, rfl, hL, rfl, rfl⟩
theorem kx_runV (S : CallFix p m c cc nL s args Ts own) (hM : MetFree l y (headSpec yw rm) Pc (fun _ _ _ _ _ => True) (kx_Q Xn post D cl tys A1 mc ms)) (cw : CallW R s args own C index y bytes maxL ret yw rm mc ms n) (hp : PreV s H C b Pc As)
    (hg : g.method = m) (hn : As.length = n) (hsize : g.locals.size = nL) (hstack : g.stack = As.reverse ++ .ref b :: rest) (hW : 2 * g.monitorRoom + (rest.map fun v => v.category).sum ≤ 8) (hdg : decode cc g.pc = .ok (.invokevirtual index, 3)) (hf : cells + mc ≤ R.cells ∧ slots + ms ≤ R.slots) :
    kx_Run p l e R s m args below meth c H locs cells slots mc ms g rest Xn post D cl A1 := by
  have hK : Jvm.Free.BackT l R p e below s args y 3 8 (PreOf R mc ms Pc) (kx_Po Xn post D cl A1 mc ms) := kx_back cw.1 hM hp.1
  obtain ⟨⟨-, -, -, -, -, -, hcode, -, hy, hlen, hlink⟩, hinst, hsel⟩ := cw
  obtain ⟨hexec, hb, hml, hown, -⟩ := S
  obtain ⟨-, ⟨cellB, hcB, hobj, hcls⟩, hPc⟩ := hp
  subst hb
  intro T hT X
  obtain ⟨mk, methM, hnamed, hmethM, hstM, habM⟩ := Cond.instanceMethod_spec hinst
  obtain ⟨methM', cM, hmethM', -, -, -, -, -, -, hsigM⟩ := Cond.code_spec hnamed hcode
  cases hmethM.symm.trans hmethM'
  obtain ⟨c2, r2, m2, q1, q2, q3, q4, kP, hkP, hkPi⟩ := Cond.selects_spec hsel
  cases hcls.symm.trans q1
  cases (State.methodFound?_of_named hnamed hy).symm.trans q2
  cases hnamed.symm.trans q3
  have hselP : selectMethod e.platform s.vm cellB.cls mk = .method mk := by rw [Launch.admits_selectMethod X.admits]; exact q4
  obtain ⟨vm₁, X₁, hstep₁⟩ := X.invokevirtual hexec hown hlink hnamed hmethM hstM hkP hkPi hy (a := b) (cell := cellB) (by rw [hT]; exact hcB)
    (fun z h => by rw [h] at hobj; cases hobj) hselP hmethM habM hkP hkPi (g := g) hg (argsL := As) (rest := rest) (hn.trans (hlen _ hsigM)) hstack hdg
  obtain ⟨v, ⟨U', l2, c2', s2'⟩, X', hpost, hsteps⟩ := hK m meth c ⟨T.setVm vm₁, locs, cells, slots⟩ { g with stack := rest } (.invokevirtual index) mk (Value.ref b :: As).toArray X₁ hg (hsize.trans hml.symm) hdg hW (X₁.named hnamed) ⟨hf.1, hf.2, hPc (T.setVm vm₁) hT X₁.warmed⟩
  obtain ⟨g', mk', t, ce, w, L, e1, h1, h2, h3, h4, h5, h6, h7, h8, hL, h9, h10⟩ := hpost
  dsimp only [Pt.U, Pt.locs, Pt.cells, Pt.slots] at X' e1 h8 h9 h10 h3 hsteps
  subst h8; subst h9; subst h10
  refine ⟨v, ce, w, U', L, X', hL, by rw [e1]; exact h1, h2, ?_, h4, by rw [e1]; exact h5, h6, ?_, ?_, ?_⟩
  · rw [X₁.warmed.alike.findClass] at h3
    exact h3
  · rw [e1, ← hT]; exact h7.1
  · intro q hq hA
    rw [e1, ← hT]
    exact h7.2 q (by show q < T.heap.size; rw [hT]; exact hq) hA
  · exact hstep₁ _ (fun acts => by rw [doInvoke_state]; exact hsteps)
end KXC
section KXD
variable {p : Program} {l : Launch} {e : Env} {R : Room} {s : State} {m : MethodId} {args : Array Value} {below : List Frame} {meth : Method} {c : Code} {cells slots : Nat} {Q : State → Prop}
variable {cc : ByteArray} {nL : Nat} {own : String} {D : va_G} {cl : List vw_C} {tys : List (ClassId × FieldType)} {A : Nat → Prop} {c0 : Cond}
variable {ws wc : va_W} {pc : Nat} {lv : List (Option Value)} {rest st0 : List Value} {as : List Value}
theorem kEx.calling {U : State} (h : kEx U) (g : JFrame) (mk : MethodId) (a : Array Value) : kEx (U.calling g mk a) := h.moved (U := U.calling g mk a) (State.WarmedH.refl U) (fun _ _ hx _ => hx)
theorem kx_preS (hK : va_K D cl tys s) (hE : kEx s) (hN : kx_NA A s) {H : Heap} {locs : List Loc} (hS : va_S A s.heap H locs) (hP : va_P D cl ws H) (hD : va_D A ws) (isC : List Nat) (hC : isC.map (fun i => ws[i]?) = wc.map some) (hnd : va_nd isC = true) : PreS s H (kw_Pc D cl tys kEx as wc H.size) as := by
  have hPc := hP.sub (ws' := wc) isC (kw_fm _ _ _ hC)
  have hDc := hD.sub (ws' := wc) isC hnd hC
  exact ⟨fun a U g mk q => by
    obtain ⟨q0, q1, qP, qK, qD, qE⟩ := q
    exact ⟨q0, q1, qP, va_K.moved (u := U) (U := U.calling g mk a) (Vm.Alike.refl U.vm) qK, qD, qE.calling g mk a⟩,
   fun U hU hW => ⟨rfl, by rw [hU], by rw [hU]; exact hPc, va_K.moved hW.alike hK, hDc.weaken (fun _ _ _ _ => trivial), hE.at hN hS hW hU⟩⟩
/-- the callee's throw leaves the caller too -/
theorem kx_passV (X : kw_X p s m args c cc nL own (c0 :: gw_tbl) D cl tys A) (hE : kEx s) (hN : kx_NA A s) (htb : c.exceptionTable.toList = []) (hlk : meth.locks = false) {y : MethodName} {bytes : ByteArray} {maxL mc0 ms0 mc ms n index : Nat} {yw : List Cond} {rm : Room} {ret : Option FieldType} {As : List Value} {Xn : String} {postC post : va_W → Prop} (q0 : Nat) {b ci : Nat} {fs : List Value} {C : String} {T : u_T} {N : Nat} (he : wc[q0]? = some (b, .inr (ci, fs))) (hc : cl[ci]? = some (C, T, N)) (hM : kx_T l y yw rm D cl tys kEx (.ref b :: As) wc Xn postC mc0 ms0) (cw : CallW R s args own C index y bytes maxL ret yw rm mc0 ms0 n)
    (isC : List Nat) (hC : isC.map (fun i => ws[i]?) = wc.map some) (hnd : va_nd isC = true) (hlen : ∀ w : va_W, postC w → isC.length ≤ w.length) (hn : As.length = n) (hst : st0 = As.reverse ++ .ref b :: rest) (hW : (rest.map fun v => v.category).sum ≤ 8) (d : decode cc pc = .ok (.invokevirtual index, 3)) (hf : cells + mc0 ≤ R.cells ∧ slots + ms0 ≤ R.slots) (hm : cells + mc0 = mc ∧ slots + ms0 = ms) (hp : ∀ w : va_W, postC w → post (kw_put ws isC w)) :
    kw_W p l e R s m args below meth c nL D cl A cells slots (kx_MQ below (kx_Q Xn post D cl tys A mc ms) args s) ws pc lv st0 := fun H locs ls hP hD hS hl T1 hT1 X1 => by
  obtain ⟨rfl, rfl⟩ := hm
  have hpre := kx_preS (as := .ref b :: As) X.2.1 hE hN hS hP hD isC hC hnd
  have hF := va_free (wc := wc) hD hS X.2.2 isC hC
  obtain ⟨x, ce, w, T', L, X', hL, h1, h2, h3, h4, h5, h6, hz, hk, st⟩ := kx_runV X.1 (hM H.size) cw ⟨hpre.1, va_recv X.2.1 (hP.sub (ws' := wc) isC (kw_fm _ _ _ hC)) hc he, hpre.2⟩ (g := F0 m pc ls st0) rfl hn hl.1.1 hst (kw_room hW) d hf T1 hT1 X1
  obtain ⟨k1, k2, k3, k4, k5⟩ := X'.leaveThrown x (g := F0 m pc ls rest) rfl rfl rfl (fun z hz => by rw [htb] at hz; cases hz) hlk
  obtain ⟨hP2, hD2⟩ := kw_join hP hD isC hC (hlen w h4) hk hF h5 h6
  refine ⟨_, st.trans k1, .threw x, k2, k3, x, ce, kw_put ws isC w, locs ++ L, rfl, h1, h2, h3, hp w h4, ⟨hP2, va_K.moved k4.alike X.2.1, hD2⟩, ⟨Nat.le_trans hS.1 hz, fun q g1 g2 => (hk q (Nat.lt_of_lt_of_le g1 hS.1) (fun z => g2 (hF q z))).trans (hS.2.1 q g1 g2)⟩, k4, k5, fun q hq => ?_⟩
  rcases List.mem_append.mp hq with h | h
  · exact hS.2.2 q h
  · exact hF _ (hL q h)
def kx_rows (hh : List (Nat × Nat × Nat × Nat)) : List ExceptionTableEntry := hh.map (fun q => ⟨q.1, q.2.1, q.2.2.1, q.2.2.2⟩)
theorem kx_tab {hh : List (Nat × Nat × Nat × Nat)} : ∀ {t : List ExceptionTableEntry}, t.map (fun h => (h.startPc, h.endPc, h.handlerPc, h.catchType)) = hh → t = kx_rows hh := by
  intro t h
  subst h
  unfold kx_rows
  rw [List.map_map]
  exact (List.map_id t).symm
/-- the caller catches it -/
theorem kx_catchV (X : kw_X p s m args c cc nL own (c0 :: gw_tbl) D cl tys A) (hE : kEx s) (hN : kx_NA A s) {y : MethodName} {bytes : ByteArray} {maxL mc0 ms0 n index : Nat} {yw : List Cond} {rm : Room} {ret : Option FieldType} {As : List Value} {Xn : String} {postC : va_W → Prop} (q0 : Nat) {b ci : Nat} {fs : List Value} {C : String} {T : u_T} {N : Nat} (he : wc[q0]? = some (b, .inr (ci, fs))) (hc : cl[ci]? = some (C, T, N)) (hM : kx_T l y yw rm D cl tys kEx (.ref b :: As) wc Xn postC mc0 ms0) (cw : CallW R s args own C index y bytes maxL ret yw rm mc0 ms0 n)
    (isC : List Nat) (hC : isC.map (fun i => ws[i]?) = wc.map some) (hnd : va_nd isC = true) (hlen : ∀ w : va_W, postC w → isC.length ≤ w.length) (hn : As.length = n) (hst : st0 = As.reverse ++ .ref b :: rest) (hW : (rest.map fun v => v.category).sum ≤ 8) (d : decode cc pc = .ok (.invokevirtual index, 3)) (hf : cells + mc0 ≤ R.cells ∧ slots + ms0 ≤ R.slots)
    (pre : List ExceptionTableEntry) (x0 : ExceptionTableEntry) (post0 : List ExceptionTableEntry) (hsplit : c.exceptionTable.toList = pre ++ x0 :: post0) (hpass : ∀ z ∈ pre, z.catchType ≠ 0 ∧ ∃ nm, Cond.classLink own z.catchType nm ∈ gw_tbl ∧ Cond.not (.castable Xn nm) ∈ bad_2) (hx : covers x0 pc = true) (h0 : x0.catchType ≠ 0) (hcl : Cond.classLink own x0.catchType Xn ∈ gw_tbl) (hcs : Cond.castable Xn Xn ∈ bad_2)
    (kk : ∀ (w : va_W) (q9 : Addr), postC w → kw_W p l e R s m args below meth c nL D cl A (cells + mc0) (slots + ms0) Q (kw_put ws isC w) x0.handlerPc lv [.ref q9]) : kw_W p l e R s m args below meth c nL D cl A cells slots Q ws pc lv st0 := fun H locs ls hP hD hS hl T1 hT1 X1 => by
  have hpre := kx_preS (as := .ref b :: As) X.2.1 hE hN hS hP hD isC hC hnd
  have hF := va_free (wc := wc) hD hS X.2.2 isC hC
  obtain ⟨x, ce, w, T', L, X', hL, h1, h2, h3, h4, h5, h6, hz, hk, st⟩ := kx_runV X.1 (hM H.size) cw ⟨hpre.1, va_recv X.2.1 (hP.sub (ws' := wc) isC (kw_fm _ _ _ hC)) hc he, hpre.2⟩ (g := F0 m pc ls st0) rfl hn hl.1.1 hst (kw_room hW) d hf T1 hT1 X1
  have hpl : e.platform.magicAccessors = ({} : Platform).magicAccessors := by rw [X'.admits.platform]
  obtain ⟨c3, cT, hc3, hcT, hasg⟩ := Cond.castable_spec (hE.2.1 _ hcs)
  have e3 : c3 = ce.cls := Option.some.inj (hc3.symm.trans h3)
  subst e3
  obtain ⟨hend, hk0⟩ := X'.catches_of_link X.1.2.2.2.1 h0 (X.1.2.2.2.2 _ (gq hcl)) hcT hasg
  have hpa : ∀ z ∈ pre, RowPassed e.platform s m.cls pc ce.cls z := fun z hz9 => by
    obtain ⟨g1, nm, g2, g3⟩ := hpass z hz9
    exact RowPassed.of_words (args := #[]) hpl X.1.2.2.2.1 g1 (word_at (State.WarmedH.refl s) (gw_good g2) (X.1.2.2.2.2 _ (gq g2))) h3 (hE.2.1 _ g3)
  obtain ⟨vm', XV, stV⟩ := X'.caughtThrough x (g := F0 m pc ls rest) rfl h1 (by rw [h2]; rfl) hk0 pre x0 post0 hsplit hpa hx hend
  obtain ⟨hP2, hD2⟩ := kw_join hP hD isC hC (hlen w h4) hk hF h5 h6
  obtain ⟨t, a1, b1⟩ := kk w x h4 T'.heap (locs ++ L) ls hP2 hD2 ⟨Nat.le_trans hS.1 hz, fun q g1 g2 => (hk q (Nat.lt_of_lt_of_le g1 hS.1) (fun z => g2 (hF q z))).trans (hS.2.1 q g1 g2), fun q hq => by
    rcases List.mem_append.mp hq with h | h
    · exact hS.2.2 q h
    · exact hF _ (hL q h)⟩ hl (T'.setVm vm') rfl XV
  have hpt := X'.pushThrowing_eq (F0 m pc ls rest) x
  refine ⟨t, st.trans ?_, b1⟩
  rw [show ({ F0 m pc ls st0 with stack := rest } : JFrame) = F0 m pc ls rest from rfl, hpt]
  exact stV t a1
end KXD
/-- a method with a table of handlers that answers an int -/
theorem kx_ofI {l : Launch} {y : MethodName} {yw yw' : List Cond} {rm : Room} {D : va_G} {cl : List vw_C} {tys : List (ClassId × FieldType)} {E : State → Prop} {as : List Value} {wc : va_W} {post : Int32 → va_W → Prop} {mc ms : Nat} {cc : ByteArray} {maxL : Nat} {ty : FieldType} {hh : List (Nat × Nat × Nat × Nat)} (hy : plainName y.cls = true) (hw : yw = Cond.codeWith y cc maxL (some ty) hh :: yw') (hlen : (lg_sl as).length ≤ maxL) (hcat : as.all (fun w => w.category == 1) = true)
    (body : ∀ (p : Program) (e : Env) (s : State) (m : MethodId) (args : Array Value) (below : List Frame) (meth : Method) (c : Code) (A : Nat → Prop), kw_X p s m args c cc maxL y.cls yw D cl tys A → meth.sig.returnType = some ty → meth.locks = false → E s → kx_NA A s → c.exceptionTable.toList = kx_rows hh →
      kw_W p l e rm s m args below meth c maxL D cl A 0 0 (MQ below (va_Qi post (kw_B D cl tys A) A) args s mc ms A) wc 0 (as.map some ++ List.replicate (maxL - as.length) none) []) : kw_I l y yw rm D cl tys E as wc post mc ms := by
  intro sz
  refine va_MetW (cc := cc) (maxL := maxL) (ret := some ty) (hh := hh) hy hw ?_
  intro p e s m args below meth c s₁ B hml hv
  obtain ⟨rfl, hsz, hP, hK, hD0, hE⟩ := hv
  subst hsz
  have htb : c.exceptionTable.toList = kx_rows hh := by
    obtain ⟨m9, meth9, c9, hn9, h1, h2, -, -, h5, -⟩ := Cond.codeWith_spec (atoms_spec (ws := yw) B.pre _ (by rw [hw]; exact List.mem_cons_self))
    cases B.named.symm.trans hn9
    cases B.method.symm.trans h1
    cases (Stand.of_body B).code.symm.trans h2
    exact kx_tab h5
  rw [lg_entry_eq]
  exact body p e s m _ below meth c (va_A wc s.heap.size) ⟨⟨B.exec, B.bytes, hml, findClass_of_methodNamed B.named, atoms_spec (ws := yw) B.pre⟩, hK, fun q h => Or.inr h⟩ B.returns B.notSynchronized hE (kx_NA.of hP) htb s.heap [] _ hP hD0.self va_S.rf (kw_entry as hlen (fun w hw => by have h9 := List.all_eq_true.mp hcat w hw; simpa using h9))
