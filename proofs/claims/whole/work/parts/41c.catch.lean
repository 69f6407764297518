/-! a thrown object over the caller's frame: the search of its rows, by words that are linked there and then -/
section KXS
variable {p : Program} {l : Launch} {e : Env} {R : Room} {s : State} {m : MethodId} {args : Array Value} {below : List Frame} {meth : Method} {c : Code} {T : State} {locs : List Loc} {cells slots : Nat}
/-- how a row that covers the place and names a class meets an object of a class: taken, or passed over -/
def kx_meets (e : Env) (s0 : State) (d : ClassId) (thrown : ClassId) (z : ExceptionTableEntry) (yes : Bool) : Prop := z.catchType ≠ 0 ∧ ∃ k : ClassId, s0.vm.ClassLinks e.platform d z.catchType k ∧ s0.vm.assignable thrown k = yes
theorem kx_row {s0 S : State} {f : JFrame} {x : Addr} {ce : Cell} {z : ExceptionTableEntry} {t : List ExceptionTableEntry} {yes : Bool} (hW : s0.WarmedH S.vm) (hce : S.heap[x]? = some ce) (hv : ce.vm = .none) (hk0 : ∃ k, s0.vm.classes[ce.cls]? = some k) (hz : covers z f.pc = true) (hm : kx_meets e s0 f.method.cls ce.cls z yes) :
    ∃ vm', s0.WarmedH vm' ∧ ∀ (Q : Handler → Pre) (E : CtlPost) (d : Bool) (acts : List Action), Sem.wp (findHandler.go f x (z :: t)) Q E e d acts S ↔ (if yes = true then Q (.found z.handlerPc) d acts (S.setVm vm') else Sem.wp (findHandler.go f x t) Q E e d acts (S.setVm vm')) := by
  obtain ⟨h0, k, hl, ha⟩ := hm
  obtain ⟨hgv, hW2, -⟩ := State.classEntry (e := e) hW hl
  obtain ⟨k1, hk1⟩ := hk0
  obtain ⟨_, _, _, kt, _, _, _, _, _, hkt, _, _⟩ := hl.here
  obtain ⟨k1', hk1', -⟩ := hW2.alike.2.2 _ _ hk1
  obtain ⟨kt', hkt', -⟩ := hW2.alike.2.2 _ _ hkt
  have ha2 : (S.vm.noted f.method.cls z.catchType (.cls k)).assignable ce.cls k = yes := by rw [hW2.alike.assignable]; exact ha
  obtain ⟨o1, o2⟩ := hgv.op (op := VmOp.resolveClass f.method.cls z.catchType) rfl
  have hob : ∀ j, ce.vm ≠ .statics j := fun j h => by rw [hv] at h; cases h
  refine ⟨_, hW2, fun Q E d acts => ?_⟩
  have hz2 := hz
  simp only [covers] at hz2
  cases yes <;> simp [findHandler.go, hz2, h0, o1, o2, hce, hob, hk1', hkt', ha2, VmOp.dirties, VmOp.acts]
theorem kx_rowsgo {s0 : State} {f : JFrame} {x : Addr} {ce : Cell} (hv : ce.vm = .none) (hk0 : ∃ k, s0.vm.classes[ce.cls]? = some k) {z : ExceptionTableEntry} {t : List ExceptionTableEntry} (hz : covers z f.pc = true) (hm : kx_meets e s0 f.method.cls ce.cls z true) :
    ∀ (pre : List ExceptionTableEntry) (S : State), s0.WarmedH S.vm → S.heap[x]? = some ce → (∀ y ∈ pre, kx_meets e s0 f.method.cls ce.cls y false) → ∃ vm', s0.WarmedH vm' ∧ ∀ (Q : Handler → Pre) (E : CtlPost) (d : Bool) (acts : List Action), Sem.wp (findHandler.go f x (pre ++ z :: t)) Q E e d acts S ↔ Q (.found z.handlerPc) d acts (S.setVm vm') := by
  intro pre
  induction pre with
  | nil =>
    intro S hW hce _
    obtain ⟨vm', h1, h2⟩ := kx_row (t := t) hW hce hv hk0 hz hm
    exact ⟨vm', h1, fun Q E d acts => by have h := h2 Q E d acts; rw [if_pos rfl] at h; exact h⟩
  | cons y ys ih =>
    intro S hW hce hp
    have hp2 : ∀ q ∈ ys, kx_meets e s0 f.method.cls ce.cls q false := fun q hq => hp q (List.mem_cons_of_mem _ hq)
    by_cases hy : covers y f.pc = true
    · obtain ⟨vm1, w1, h1⟩ := kx_row (t := ys ++ z :: t) hW hce hv hk0 hy (hp y List.mem_cons_self)
      obtain ⟨vm2, w2, h2⟩ := ih (S.setVm vm1) w1 hce hp2
      refine ⟨vm2, w2, fun Q E d acts => ?_⟩
      have h := h1 Q E d acts
      rw [if_neg (by decide)] at h
      exact h.trans (h2 Q E d acts)
    · obtain ⟨vm2, w2, h2⟩ := ih S hW hce hp2
      refine ⟨vm2, w2, fun Q E d acts => ?_⟩
      rw [List.cons_append, W.findHandler_go_skip (by simpa using hy)]
      exact h2 Q E d acts
/-- the caller goes on at its handler, with the object alone on the stack -/
theorem kx_caught (X : Stand p l e R s m args below meth c T locs cells slots) (x : Addr) {g : JFrame} (hg : g.method = m) {ce : Cell} (hce : T.heap[x]? = some ce) (hv : ce.vm = .none) (hk0 : ∃ k, s.vm.classes[ce.cls]? = some k) (pre : List ExceptionTableEntry) (z : ExceptionTableEntry) (t : List ExceptionTableEntry) (hsplit : c.exceptionTable.toList = pre ++ z :: t) (hpass : ∀ y ∈ pre, kx_meets e s m.cls ce.cls y false) (hz : covers z g.pc = true) (hm : kx_meets e s m.cls ce.cls z true) :
    ∃ vm', Stand p l e R s m args below meth c (T.setVm vm') locs cells slots ∧ ∀ target, Steps p.tables e below ((T.setVm vm').setTop { g with pc := z.handlerPc, stack := [.ref x] }) target → Steps p.tables e below ((T.setTop g).pushFrame (.throwing x)) target := by
  subst hg
  obtain ⟨vm', hW', hq⟩ := kx_rowsgo (e := e) (t := t) hv hk0 hz hm pre ((T.setTop g).pushFrame (.throwing x)) X.warmed hce hpass
  refine ⟨vm', X.noted hW', fun target hr => ?_⟩
  have hfind : ∀ (Q : Handler → Pre) (E : CtlPost) (d : Bool) (acts : List Action), Sem.wp (findHandler g x) Q E e d acts ((T.setTop g).pushFrame (.throwing x)) ↔ Q (.found z.handlerPc) d acts (((T.setTop g).pushFrame (.throwing x)).setVm vm') := fun Q E d acts => by
    rw [W.findHandler_eq (s := (T.setTop g).pushFrame (.throwing x)) (meth := meth) (code := c) X.method' X.code, hsplit]
    exact hq Q E d acts
  have hst : (stepThrowing e ((T.setTop g).pushFrame (.throwing x)) x (.java g :: T.frames.tail)).Is ((((T.setTop g).pushFrame (.throwing x)).setVm vm').setFrames (.java { g with pc := z.handlerPc, stack := [.ref x] } :: T.frames.tail)) [] := by
    simp only [stepThrowing, searchFrame, vmDo]
    generalize hres : Sem.go _ e false [] ((T.setTop g).pushFrame (.throwing x)) = res
    obtain ⟨as, rfl, ha⟩ := Sem.eq_ok_of hres (a := Handler.found z.handlerPc) (s' := ((T.setTop g).pushFrame (.throwing x)).setVm vm') (acts' := []) (by simp [hfind])
    exact ⟨rfl, ha⟩
  obtain ⟨hgo, hw⟩ := X.here.throwing x
  refine Steps.head hgo hw ?_
  rw [stepThread_throwing (frames_entered X.here.top _), hst.1]
  obtain ⟨g0, hfr⟩ := X.frames_eq
  have hfr' : (T.setVm vm').frames = .java g0 :: below := hfr
  rw [State.setTop_of_frames _ hfr'] at hr
  have e1 : ((T.setTop g).pushFrame (.throwing x)).setVm vm' = (T.setVm vm').setFrames (.throwing x :: .java g :: below) := by
    rw [State.pushFrame, State.frames_setTop _ hfr, State.setTop_of_frames _ hfr, State.setFrames_setFrames]
    rfl
  rw [e1, State.setFrames_setFrames, hfr, List.tail_cons]
  exact hr
end KXS
