/-! calls of methods that throw: the caller leaves with it, or catches it -/
def kx_Run (p : Program) (l : Launch) (e : Env) (R : Room) (s : State) (m : MethodId) (args : Array Value) (below : List Frame) (meth : Method) (c : Code) (H : Heap) (locs : List Loc) (cells slots mc ms : Nat) (g : JFrame) (rest : List Value) (Xn : String) (post : va_W → Prop) (D : va_G) (cl : List vw_C) (A : Nat → Prop) : Prop :=
  ∀ T : State, T.heap = H → Stand p l e R s m args below meth c T locs cells slots → ∃ (x : Addr) (ce : Cell) (w : va_W) (T' : State) (L : List Loc), Stand p l e R s m args below meth c T' (locs ++ L) (cells + mc) (slots + ms) ∧ (∀ q ∈ L, A q.base) ∧ T'.heap[x]? = some ce ∧ ce.vm = .none ∧ s.vm.findClass Xn = some ce.cls ∧ post w ∧ va_P D cl w T'.heap ∧ va_D A w ∧ H.size ≤ T'.heap.size ∧ (∀ q : Nat, q < H.size → ¬ A q → T'.heap[q]? = H[q]?) ∧
    Steps p.tables e below (T.setTop g) ((T'.setTop { g with stack := rest }).pushFrame (.throwing x))
section KXC
variable {p : Program} {l : Launch} {e : Env} {R : Room} {s : State} {m : MethodId} {args : Array Value} {below : List Frame} {meth : Method} {c : Code} {H : Heap} {locs : List Loc} {cells slots : Nat}
variable {y : MethodName} {bytes cc : ByteArray} {maxL nL mc ms n index : Nat} {ret : Option FieldType} {yw : List Cond} {rm : Room} {Pc : Array Value → State → Prop} {Ts : List Cond} {own C : String} {b : Addr} {As rest : List Value} {g : JFrame}
variable {D : va_G} {cl : List vw_C} {tys : List (ClassId × FieldType)} {A1 : Nat → Prop} {Xn : String} {post : va_W → Prop}
/-- a call of a method that throws comes back with the object thrown over the caller's frame -/
theorem kx_called (cb : CallB R s args own index y bytes maxL ret yw rm mc ms n) (hM : MetFree l y (headSpec yw rm) Pc (fun _ _ _ _ _ => True) (kx_Q Xn post D cl tys A1 mc ms)) {U : State} (X : Stand p l e R s m args below meth c U locs cells slots) {ig : Instr} {mk : MethodId} {a : Array Value} (hg : g.method = m) (hsize : g.locals.size = c.maxLocals) (hdg : decode c.code g.pc = .ok (ig, 3)) (hW : 2 * g.monitorRoom + (g.stack.map fun v => v.category).sum ≤ 8) (hn : U.methodNamed? y = some mk) (hf : cells + mc ≤ R.cells ∧ slots + ms ≤ R.slots) (hP : Pc a (U.calling g mk a)) :
    ∃ (x : Addr) (ce : Cell) (w : va_W) (U' : State) (L : List Loc), Stand p l e R s m args below meth c U' (locs ++ L) (cells + mc) (slots + ms) ∧ (∀ q ∈ L, A1 q.base) ∧ U'.heap[x]? = some ce ∧ ce.vm = .none ∧ U.vm.findClass Xn = some ce.cls ∧ post w ∧ va_P D cl w U'.heap ∧ va_D A1 w ∧ va_F A1 U U' ∧
      Steps p.tables e below (doInvoke e (U.setTop g) [] mk a).1 ((U'.setTop g).pushFrame (.throwing x)) := by
  obtain ⟨hrc, hrs, hfr, hlo, hws, hcw, -, hini, -⟩ := cb
  have hAt : At U g.method c below := by rw [hg]; exact X.here
  obtain ⟨my, cy, g1, g2, -, g3, -, -, -, -⟩ := Cond.code_spec hn (hws _ hcw a U X.warmed)
  obtain ⟨ky, g4, -⟩ := className_of_methodNamed hn
  have g5 : ky.init = .initialized := Cond.initialized_spec (findClass_of_methodNamed hn) g4 (word_at (a' := a) X.warmed (Or.inl (by first | rfl | simp [Cond.onTables, Cond.keeps, Cond.steady])) hini)
  have happ : (headSpec yw rm).appliesLoose y e.platform (U.calling g mk a) = true := Spec.appliesLoose_calling (g := g) hAt hdg hn g4 g5 (X.room_calling (g := g) (R' := (headSpec yw rm).room) hsize g1 g2 hfr (by rw [g3]; show 2 * g.monitorRoom + (g.stack.map fun v => v.category).sum + (maxL + 11) + rm.locals ≤ R.locals; omega) (by rw [show (headSpec yw rm).room.cells = mc from hrc]; exact hf.1) (by rw [show (headSpec yw rm).room.slots = ms from hrs]; exact hf.2)) (atoms_intro fun w hw => hws w hw _ _ X.warmed)
  obtain ⟨g0, hU⟩ := X.frames_eq
  have hfr2 : (U.setTop g).frames = [.java g] ++ below := by rw [State.frames_setTop _ hU]; rfl
  obtain ⟨o, t, hsteps, -, hend, x, ce, w, L, rfl, h1, h2, h3, h4, ⟨h5, -, h6⟩, h7, h8, h9, h10⟩ := Steps.callFree hM p X.admits X.cas X.clock (acts := []) hfr2 happ hP trivial
  have h8' : U.WarmedH t.vm := h8
  have hft : t.frames = .throwing x :: (U.setTop g).frames := hend
  rw [State.frames_setTop _ hU] at hft
  obtain ⟨q1, q2, q3, q4, q5, q6⟩ := h9
  have hcall : U.calling g mk a = U.setFrames (.invoking mk a :: .java g :: below) := by rw [State.calling_eq hAt.top, hU]; rfl
  have ht : t = ((({ U with heap := t.heap, slotsUsed := t.slotsUsed } : State).setVm t.vm).setTop g).pushFrame (.throwing x) := by
    have e1 : t = ({ (U.calling g mk a).setFrames t.frames with heap := t.heap, slotsUsed := t.slotsUsed } : State).setVm t.vm := by
      have e0 : t = ({ t with vm := (U.calling g mk a).vm } : State).setVm t.vm := rfl
      have q9 : ({ t with vm := (U.calling g mk a).vm } : State) = { (U.calling g mk a).setFrames t.frames with heap := t.heap, slotsUsed := t.slotsUsed } := q1
      rw [q9] at e0
      exact e0
    have hU2 : (({ U with heap := t.heap, slotsUsed := t.slotsUsed } : State).setVm t.vm).frames = .java g0 :: below := hU
    refine e1.trans ?_
    rw [hcall, State.setFrames_setFrames, hft, State.pushFrame, State.frames_setTop _ hU2, State.setTop_of_frames _ hU2, State.setFrames_setFrames]
    rfl
  obtain ⟨th, hth, -⟩ := State.frames_cons hU
  have hsame : U.sameButNew ({ U with heap := t.heap, slotsUsed := t.slotsUsed } : State) L mc ms := ⟨by
    show ({ U with heap := t.heap, slotsUsed := t.slotsUsed } : State) = { U.setFrames U.frames with heap := t.heap, slotsUsed := t.slotsUsed }
    rw [State.setFrames_self hth], q2, q3, q4, q5, q6⟩
  refine ⟨x, ce, w, ({ U with heap := t.heap, slotsUsed := t.slotsUsed } : State).setVm t.vm, L, ⟨X.admits, X.cas, X.clock, X.frames, X.room, X.hears, X.method, X.code, (X.here.setHeapUsed t.heap t.slotsUsed).setVm h8'.alike, X.tail, State.WarmedH.trans X.warmed h8', X.limits, X.bytes, X.same.trans (hsame.setVm s.vm)⟩, h10, h1, h2, h3, h4, h5, h6, h7, ?_⟩
  rw [← ht]
  exact hsteps
theorem kx_runV (S : CallFix p m c cc nL s args Ts own) (hM : MetFree l y (headSpec yw rm) Pc (fun _ _ _ _ _ => True) (kx_Q Xn post D cl tys A1 mc ms)) (cw : CallW R s args own C index y bytes maxL ret yw rm mc ms n) (hp : PreV s H C b Pc As)
    (hg : g.method = m) (hn : As.length = n) (hsize : g.locals.size = nL) (hstack : g.stack = As.reverse ++ .ref b :: rest) (hW : 2 * g.monitorRoom + (rest.map fun v => v.category).sum ≤ 8) (hdg : decode cc g.pc = .ok (.invokevirtual index, 3)) (hf : cells + mc ≤ R.cells ∧ slots + ms ≤ R.slots) :
    kx_Run p l e R s m args below meth c H locs cells slots mc ms g rest Xn post D cl A1 := by
  have cb := cw.1
  obtain ⟨⟨-, -, -, -, -, -, hcode, -, hy, hlen, hlink⟩, hinst, hsel⟩ := cw
  obtain ⟨hexec, hb, hml, hown, -⟩ := S
  obtain ⟨hp1, ⟨cellB, hcB, hobj, hcls⟩, hPc⟩ := hp
  subst hb
  intro T hT X
  obtain ⟨mk, methM, hnamed, hmethM, hstM, habM⟩ := Cond.instanceMethod_spec hinst
  obtain ⟨methM', cM, hmethM', -, -, -, -, -, -, hsigM⟩ := Cond.code_spec hnamed hcode
  cases hmethM.symm.trans hmethM'
  obtain ⟨c2, r2, m2, q1, q2, q3, q4, kP, hkP, hkPi⟩ := Cond.selects_spec hsel
  cases hcls.symm.trans q1
  cases (State.methodFound?_of_named hnamed hy).symm.trans q2
  cases hnamed.symm.trans q3
  have hselP : selectMethod e.platform s.vm cellB.cls mk = .method mk := by rw [Launch.admits_selectMethod X.admits]; exact q4
  obtain ⟨vm₁, X₁, hstep₁⟩ := X.invokevirtual hexec hown hlink hnamed hmethM hstM hkP hkPi hy (a := b) (cell := cellB) (by rw [hT]; exact hcB)
    (fun z h => by rw [h] at hobj; cases hobj) hselP hmethM habM hkP hkPi (g := g) hg (argsL := As) (rest := rest) (hn.trans (hlen _ hsigM)) hstack hdg
  obtain ⟨x, ce, w, U', L, X', hL, h1, h2, h3, h4, h5, h6, h7, hsteps⟩ := kx_called (g := { g with stack := rest }) cb hM X₁ hg (hsize.trans hml.symm) hdg hW (X₁.named hnamed) hf (hp1 _ _ _ _ (hPc (T.setVm vm₁) hT X₁.warmed))
  refine ⟨x, ce, w, U', L, X', hL, h1, h2, ?_, h4, h5, h6, ?_, ?_, ?_⟩
  · rw [X₁.warmed.alike.findClass] at h3
    exact h3
  · rw [← hT]; exact h7.1
  · intro q hq hA
    rw [← hT]
    exact h7.2 q (by show q < T.heap.size; rw [hT]; exact hq) hA
  · exact hstep₁ _ (fun acts => by rw [doInvoke_state]; exact hsteps)
end KXC
section KXD
variable {p : Program} {l : Launch} {e : Env} {R : Room} {s : State} {m : MethodId} {args : Array Value} {below : List Frame} {meth : Method} {c : Code} {cells slots : Nat} {Q : State → Prop}
variable {cc : ByteArray} {nL : Nat} {own : String} {D : va_G} {cl : List vw_C} {tys : List (ClassId × FieldType)} {A : Nat → Prop} {c0 : Cond}
variable {ws wc : va_W} {pc : Nat} {lv : List (Option Value)} {rest st0 : List Value} {as : List Value}
theorem kEx.calling {U : State} (h : kEx U) (g : JFrame) (mk : MethodId) (a : Array Value) : kEx (U.calling g mk a) := h.moved (U := U.calling g mk a) (State.WarmedH.refl U) (fun _ _ hx _ => hx)
theorem kx_preS (hK : va_K D cl tys s) (hE : kEx s) (hN : kx_NA A s) {H : Heap} {locs : List Loc} (hS : va_S A s.heap H locs) (hP : va_P D cl ws H) (hD : va_D A ws) (isC : List Nat) (hC : isC.map (fun i => ws[i]?) = wc.map some) (hnd : va_nd isC = true) : PreS s H (kw_Pc D cl tys kEx as wc H.size) as := by
  have hPc := hP.sub (ws' := wc) isC (kw_fm _ _ _ hC)
  have hDc := hD.sub (ws' := wc) isC hnd hC
  exact ⟨fun a U g mk q => by
    obtain ⟨q0, q1, qP, qK, qD, qE⟩ := q
    exact ⟨q0, q1, qP, va_K.moved (u := U) (U := U.calling g mk a) (Vm.Alike.refl U.vm) qK, qD, qE.calling g mk a⟩,
   fun U hU hW => ⟨rfl, by rw [hU], by rw [hU]; exact hPc, va_K.moved hW.alike hK, hDc.weaken (fun _ _ _ _ => trivial), hE.at hN hS hW hU⟩⟩
/-- the callee's throw leaves the caller too -/
theorem kx_passV (X : kw_X p s m args c cc nL own (c0 :: gw_tbl) D cl tys A) (hE : kEx s) (hN : kx_NA A s) (htb : c.exceptionTable.toList = []) (hlk : meth.locks = false) {y : MethodName} {bytes : ByteArray} {maxL mc0 ms0 mc ms n index : Nat} {yw : List Cond} {rm : Room} {ret : Option FieldType} {As : List Value} {Xn : String} {postC post : va_W → Prop} (q0 : Nat) {b ci : Nat} {fs : List Value} {C : String} {T : u_T} {N : Nat} (he : wc[q0]? = some (b, .inr (ci, fs))) (hc : cl[ci]? = some (C, T, N)) (hM : kx_T l y yw rm D cl tys kEx (.ref b :: As) wc Xn postC mc0 ms0) (cw : CallW R s args own C index y bytes maxL ret yw rm mc0 ms0 n)
    (isC : List Nat) (hC : isC.map (fun i => ws[i]?) = wc.map some) (hnd : va_nd isC = true) (hlen : ∀ w : va_W, postC w → isC.length ≤ w.length) (hn : As.length = n) (hst : st0 = As.reverse ++ .ref b :: rest) (hW : (rest.map fun v => v.category).sum ≤ 8) (d : decode cc pc = .ok (.invokevirtual index, 3)) (hf : cells + mc0 ≤ R.cells ∧ slots + ms0 ≤ R.slots) (hm : cells + mc0 = mc ∧ slots + ms0 = ms) (hp : ∀ w : va_W, postC w → post (kw_put ws isC w)) :
    kw_W p l e R s m args below meth c nL D cl A cells slots (kx_MQ below (kx_Q Xn post D cl tys A mc ms) args s) ws pc lv st0 := fun H locs ls hP hD hS hl T1 hT1 X1 => by
  obtain ⟨rfl, rfl⟩ := hm
  have hpre := kx_preS (as := .ref b :: As) X.2.1 hE hN hS hP hD isC hC hnd
  have hF := va_free (wc := wc) hD hS X.2.2 isC hC
  obtain ⟨x, ce, w, T', L, X', hL, h1, h2, h3, h4, h5, h6, hz, hk, st⟩ := kx_runV X.1 (hM H.size) cw ⟨hpre.1, va_recv X.2.1 (hP.sub (ws' := wc) isC (kw_fm _ _ _ hC)) hc he, hpre.2⟩ (g := F0 m pc ls st0) rfl hn hl.1.1 hst (kw_room hW) d hf T1 hT1 X1
  obtain ⟨k1, k2, k3, k4, k5⟩ := X'.leaveThrown x (g := F0 m pc ls rest) rfl rfl rfl (fun z hz => by rw [htb] at hz; cases hz) hlk
  obtain ⟨hP2, hD2⟩ := kw_join hP hD isC hC (hlen w h4) hk hF h5 h6
  refine ⟨_, st.trans k1, .threw x, k2, k3, x, ce, kw_put ws isC w, locs ++ L, rfl, h1, h2, h3, hp w h4, ⟨hP2, va_K.moved k4.alike X.2.1, hD2⟩, ⟨Nat.le_trans hS.1 hz, fun q g1 g2 => (hk q (Nat.lt_of_lt_of_le g1 hS.1) (fun z => g2 (hF q z))).trans (hS.2.1 q g1 g2)⟩, k4, k5, fun q hq => ?_⟩
  rcases List.mem_append.mp hq with h | h
  · exact hS.2.2 q h
  · exact hF _ (hL q h)
def kx_rows (hh : List (Nat × Nat × Nat × Nat)) : List ExceptionTableEntry := hh.map (fun q => ⟨q.1, q.2.1, q.2.2.1, q.2.2.2⟩)
theorem kx_tab {hh : List (Nat × Nat × Nat × Nat)} : ∀ {t : List ExceptionTableEntry}, t.map (fun h => (h.startPc, h.endPc, h.handlerPc, h.catchType)) = hh → t = kx_rows hh := by
  intro t h
  subst h
  unfold kx_rows
  rw [List.map_map]
  exact (List.map_id t).symm
/-- the caller catches it -/
theorem kx_catchV (X : kw_X p s m args c cc nL own (c0 :: gw_tbl) D cl tys A) (hE : kEx s) (hN : kx_NA A s) {y : MethodName} {bytes : ByteArray} {maxL mc0 ms0 n index : Nat} {yw : List Cond} {rm : Room} {ret : Option FieldType} {As : List Value} {Xn : String} {postC : va_W → Prop} (q0 : Nat) {b ci : Nat} {fs : List Value} {C : String} {T : u_T} {N : Nat} (he : wc[q0]? = some (b, .inr (ci, fs))) (hc : cl[ci]? = some (C, T, N)) (hM : kx_T l y yw rm D cl tys kEx (.ref b :: As) wc Xn postC mc0 ms0) (cw : CallW R s args own C index y bytes maxL ret yw rm mc0 ms0 n)
    (isC : List Nat) (hC : isC.map (fun i => ws[i]?) = wc.map some) (hnd : va_nd isC = true) (hlen : ∀ w : va_W, postC w → isC.length ≤ w.length) (hn : As.length = n) (hst : st0 = As.reverse ++ .ref b :: rest) (hW : (rest.map fun v => v.category).sum ≤ 8) (d : decode cc pc = .ok (.invokevirtual index, 3)) (hf : cells + mc0 ≤ R.cells ∧ slots + ms0 ≤ R.slots)
    (pre : List ExceptionTableEntry) (x0 : ExceptionTableEntry) (post0 : List ExceptionTableEntry) (hsplit : c.exceptionTable.toList = pre ++ x0 :: post0) (hpass : ∀ z ∈ pre, z.catchType ≠ 0 ∧ ∃ nm, Cond.classLink own z.catchType nm ∈ gw_tbl ∧ Cond.not (.castable Xn nm) ∈ bad_2) (hx : covers x0 pc = true) (h0 : x0.catchType ≠ 0) (hcl : Cond.classLink own x0.catchType Xn ∈ gw_tbl) (hcs : Cond.castable Xn Xn ∈ bad_2)
    (kk : ∀ (w : va_W) (q9 : Addr), postC w → kw_W p l e R s m args below meth c nL D cl A (cells + mc0) (slots + ms0) Q (kw_put ws isC w) x0.handlerPc lv [.ref q9]) : kw_W p l e R s m args below meth c nL D cl A cells slots Q ws pc lv st0 := fun H locs ls hP hD hS hl T1 hT1 X1 => by
  have hpre := kx_preS (as := .ref b :: As) X.2.1 hE hN hS hP hD isC hC hnd
  have hF := va_free (wc := wc) hD hS X.2.2 isC hC
  obtain ⟨x, ce, w, T', L, X', hL, h1, h2, h3, h4, h5, h6, hz, hk, st⟩ := kx_runV X.1 (hM H.size) cw ⟨hpre.1, va_recv X.2.1 (hP.sub (ws' := wc) isC (kw_fm _ _ _ hC)) hc he, hpre.2⟩ (g := F0 m pc ls st0) rfl hn hl.1.1 hst (kw_room hW) d hf T1 hT1 X1
  have hpl : e.platform.magicAccessors = ({} : Platform).magicAccessors := by rw [X'.admits.platform]
  obtain ⟨c3, cT, hc3, hcT, hasg⟩ := Cond.castable_spec (hE.2.1 _ hcs)
  have e3 : c3 = ce.cls := Option.some.inj (hc3.symm.trans h3)
  subst e3
  obtain ⟨cl1, hcl1, hcl2⟩ := Cond.classLink_spec X.1.2.2.2.1 (X.1.2.2.2.2 _ (gq hcl)) e.platform hpl
  cases hcT.symm.trans hcl1
  obtain ⟨k0, hk0, -⟩ := Vm.findClass_spec h3
  have hpa : ∀ z ∈ pre, kx_meets e s m.cls ce.cls z false := fun z hz9 => by
    obtain ⟨g1, nm, g2, g3⟩ := hpass z hz9
    obtain ⟨c9, hc9, hl9⟩ := Cond.classLink_spec X.1.2.2.2.1 (X.1.2.2.2.2 _ (gq g2)) e.platform hpl
    have hv9 := Cond.holds_not_iff.mp (hE.2.1 _ g3)
    simp only [Cond.value, h3, hc9] at hv9
    exact ⟨g1, c9, hl9, Option.some.inj hv9⟩
  obtain ⟨vm', XV, stV⟩ := kx_caught X' x (g := F0 m pc ls rest) rfl h1 h2 ⟨k0, hk0⟩ pre x0 post0 hsplit hpa hx ⟨h0, _, hcl2, hasg⟩
  obtain ⟨hP2, hD2⟩ := kw_join hP hD isC hC (hlen w h4) hk hF h5 h6
  obtain ⟨t, a1, b1⟩ := kk w x h4 T'.heap (locs ++ L) ls hP2 hD2 ⟨Nat.le_trans hS.1 hz, fun q g1 g2 => (hk q (Nat.lt_of_lt_of_le g1 hS.1) (fun z => g2 (hF q z))).trans (hS.2.1 q g1 g2), fun q hq => by
    rcases List.mem_append.mp hq with h | h
    · exact hS.2.2 q h
    · exact hF _ (hL q h)⟩ hl (T'.setVm vm') rfl XV
  exact ⟨t, st.trans (stV t a1), b1⟩
end KXD
/-- a method with a table of handlers that answers an int -/
theorem kx_ofI {l : Launch} {y : MethodName} {yw yw' : List Cond} {rm : Room} {D : va_G} {cl : List vw_C} {tys : List (ClassId × FieldType)} {E : State → Prop} {as : List Value} {wc : va_W} {post : Int32 → va_W → Prop} {mc ms : Nat} {cc : ByteArray} {maxL : Nat} {ty : FieldType} {hh : List (Nat × Nat × Nat × Nat)} (hy : plainName y.cls = true) (hw : yw = Cond.codeWith y cc maxL (some ty) hh :: yw') (hlen : (lg_sl as).length ≤ maxL) (hcat : as.all (fun w => w.category == 1) = true)
    (body : ∀ (p : Program) (e : Env) (s : State) (m : MethodId) (args : Array Value) (below : List Frame) (meth : Method) (c : Code) (A : Nat → Prop), kw_X p s m args c cc maxL y.cls yw D cl tys A → meth.sig.returnType = some ty → meth.locks = false → E s → kx_NA A s → c.exceptionTable.toList = kx_rows hh →
      kw_W p l e rm s m args below meth c maxL D cl A 0 0 (MQ below (va_Qi post (kw_B D cl tys A) A) args s mc ms A) wc 0 (as.map some ++ List.replicate (maxL - as.length) none) []) : kw_I l y yw rm D cl tys E as wc post mc ms := by
  intro sz
  refine va_MetW (cc := cc) (maxL := maxL) (ret := some ty) (hh := hh) hy hw ?_
  intro p e s m args below meth c s₁ B hml hv
  obtain ⟨rfl, hsz, hP, hK, hD0, hE⟩ := hv
  subst hsz
  have htb : c.exceptionTable.toList = kx_rows hh := by
    obtain ⟨m9, meth9, c9, hn9, h1, h2, -, -, h5, -⟩ := Cond.codeWith_spec (atoms_spec (ws := yw) B.pre _ (by rw [hw]; exact List.mem_cons_self))
    cases B.named.symm.trans hn9
    cases B.method.symm.trans h1
    cases (Stand.of_body B).code.symm.trans h2
    exact kx_tab h5
  rw [lg_entry_eq]
  exact body p e s m _ below meth c (va_A wc s.heap.size) ⟨⟨B.exec, B.bytes, hml, findClass_of_methodNamed B.named, atoms_spec (ws := yw) B.pre⟩, hK, fun q h => Or.inr h⟩ B.returns B.notSynchronized hE (kx_NA.of hP) htb s.heap [] _ hP hD0.self va_S.rf (kw_entry as hlen (fun w hw => by have h9 := List.all_eq_true.mp hcat w hw; simpa using h9))
