/-! the law: rules -/
theorem kb_getE {pre x : va_W} {k n : Nat} (hk : pre.length = k) (hn : x.length = n) : (List.range' k n).map (fun i => (pre ++ x)[i]?) = x.map some := by
  have h := kb_get (post := []) hk hn
  rw [List.append_nil] at h
  exact h
theorem kb_putE {pre x y : va_W} {k n : Nat} (hk : pre.length = k) (hn : x.length = n) (hy : y.length = n) : kw_put (pre ++ x) (List.range' k n) y = pre ++ y := by
  have h := kb_put (post := []) hk hn hy
  rw [List.append_nil, List.append_nil] at h
  exact h
theorem kb_getN {pre x post : va_W} {k n : Nat} (hk : pre.length = k) (hn : x.length = n) : (List.range' k n).map (fun i => (pre ++ (x ++ post))[i]?) = (x ++ []).map some := by
  rw [List.append_nil]
  exact kb_get hk hn
theorem ct_Zthrown {l : Launch} {D : va_G} {kI kB kC kL : ClassId} (rd : Nat → Nat) (n : Nat) (lo hi : Nat → Nat) (bg : Bool) (cs T : List Nat) (t : Nat) (S : Bool) (w0 : va_W) (h : rfP kI rd n lo hi bg cs T t S w0) : kw_I l mn_R_thrown (gw mn_R_thrown cd_R_thrown 1 (some .int)) ({ frames := 0, cells := 0, slots := 0, locals := 0 } : Room) D cl_v (kt kI kB kC kL) kE [.ref (rd 0)] w0 (fun r w => r = nI t ∧ rfP kI rd n lo hi bg cs T t S w) 0 0 := by
  obtain ⟨one, two, own, tk, co, tO, t0, t1, sv, mg, nm, gc, go, tx, rfl, zv, zb, zT, ok, ⟨k0, k1⟩, hC, hS, hX⟩ := h
  refine kw_I.mono (ct_thrown rd t n one two own bg (gm_run lo hi n cs).1 (gm_run lo hi n cs).2.1 tk cs.length co tO t0 t1 sv mg nm gc go tx T.length) (fun r w hq => ?_)
  obtain ⟨rfl, e⟩ := hq
  exact ⟨e, one, two, own, tk, co, tO, t0, t1, sv, mg, nm, gc, go, tx, rfl, zv, zb, zT, ok, ⟨k0, k1⟩, hC, hS, hX⟩
section KLA
variable {p : Program} {l : Launch} {e : Env} {R : Room} {s : State} {m : MethodId} {args : Array Value} {below : List Frame} {meth : Method} {c : Code} {cells slots : Nat} {Q : State → Prop}
variable {cc : ByteArray} {nL : Nat} {own : String} {Ts : List Cond} {D : va_G} {cl : List vw_C} {tys : List (ClassId × FieldType)} {A : Nat → Prop} {c0 : Cond}
variable {ws wc : va_W} {pc : Nat} {lv : List (Option Value)} {rest st0 : List Value}
theorem kl_sld (X : kw_X p s m args c cc nL own Ts D cl tys A) {b L : Nat} {xs : Nat → Int32} (hX : va_X b L xs s s.heap) (hbl : b < s.heap.size) (hbA : ¬ A b) {i v : Int32} (hin : vp_in i L) (hv : xs i.toNatClampNeg = v) (d : decode cc pc = .ok (.iaload, 1)) (kk : kw_W p l e R s m args below meth c nL D cl A cells slots Q ws (pc + 1) lv (.int v :: rest)) : kw_W p l e R s m args below meth c nL D cl A cells slots Q ws pc lv (.int i :: .ref b :: rest) :=
  fun H locs ls hP hD hS hl => va_sld X.1.1 X.1.2.1 hX hbl hbA hS hin d (by rw [hv]; exact kk H locs ls hP hD hS hl)
theorem kl_slen (X : kw_X p s m args c cc nL own Ts D cl tys A) {b L : Nat} {xs : Nat → Int32} (hX : va_X b L xs s s.heap) (hbl : b < s.heap.size) (hbA : ¬ A b) (d : decode cc pc = .ok (.arraylength, 1)) (kk : kw_W p l e R s m args below meth c nL D cl A cells slots Q ws (pc + 1) lv (.int (nI L) :: rest)) : kw_W p l e R s m args below meth c nL D cl A cells slots Q ws pc lv (.ref b :: rest) :=
  fun H locs ls hP hD hS hl => va_slen X.1.1 X.1.2.1 hX hbl hbA hS d (kk H locs ls hP hD hS hl)
theorem kl_tabO (X : kw_X p s m args c cc nL own Ts D cl tys A) {dflt lo hi : Int} {offs : Array Int} {len : Nat} {x : Int32} {tgt : Nat} (d : decode cc pc = .ok (.tableswitch dflt lo hi offs, len)) (h : x.toInt < lo ∨ hi < x.toInt) (ht : (pc : Int) + dflt = (tgt : Int)) (kk : kw_W p l e R s m args below meth c nL D cl A cells slots Q ws tgt lv rest) : kw_W p l e R s m args below meth c nL D cl A cells slots Q ws pc lv (.int x :: rest) :=
  fun H locs ls hP hD hS hl => lv_tableOut X.1.1 X.1.2.1 d h ht (kk H locs ls hP hD hS hl)
theorem kl_tabI (X : kw_X p s m args c cc nL own Ts D cl tys A) {dflt lo hi : Int} {offs : Array Int} {len : Nat} {x : Int32} {off : Int} {tgt : Nat} (d : decode cc pc = .ok (.tableswitch dflt lo hi offs, len)) (h1 : ¬ x.toInt < lo) (h2 : ¬ hi < x.toInt) (ho : offs[(x.toInt - lo).toNat]? = some off) (ht : (pc : Int) + off = (tgt : Int)) (kk : kw_W p l e R s m args below meth c nL D cl A cells slots Q ws tgt lv rest) : kw_W p l e R s m args below meth c nL D cl A cells slots Q ws pc lv (.int x :: rest) :=
  fun H locs ls hP hD hS hl => lv_tableIn X.1.1 X.1.2.1 d h1 h2 ho ht (kk H locs ls hP hD hS hl)
/-- a loop whose rounds make cells -/
theorem kl_loop {α : Type} (I : α → Prop) (μ cf nf : α → Nat) (wf : α → va_W) (lf : α → List (Option Value)) (sf : α → List Value) (a0 : α) (h0 : I a0)
    (step : ∀ a, I a → (∀ b, I b → μ b < μ a → kw_W p l e R s m args below meth c nL D cl A (cf b) (nf b) Q (wf b) pc (lf b) (sf b)) → kw_W p l e R s m args below meth c nL D cl A (cf a) (nf a) Q (wf a) pc (lf a) (sf a)) : kw_W p l e R s m args below meth c nL D cl A (cf a0) (nf a0) Q (wf a0) pc (lf a0) (sf a0) := by
  have key : ∀ (n : Nat) (a : α), I a → μ a < n → kw_W p l e R s m args below meth c nL D cl A (cf a) (nf a) Q (wf a) pc (lf a) (sf a) := by
    intro n
    induction n with
    | zero => intro a _ h; exact absurd h (Nat.not_lt_zero _)
    | succ n ih => intro a ha h; exact step a ha (fun b hb hm => ih b hb (by omega))
  exact key (μ a0 + 1) a0 h0 (Nat.lt_succ_self _)
/-- a part of the world, or another order -/
theorem kl_sub {ws' : va_W} (is : List Nat) (hC : is.map (fun i => ws[i]?) = ws'.map some) (hnd : va_nd is = true) (kk : kw_W p l e R s m args below meth c nL D cl A cells slots Q ws' pc lv rest) : kw_W p l e R s m args below meth c nL D cl A cells slots Q ws pc lv rest :=
  fun H locs ls hP hD hS hl => kk H locs ls (hP.sub is (kw_fm _ _ _ hC)) (hD.sub is hnd hC) hS hl
abbrev kx_CS (R : Room) (s : State) (args : Array Value) (own : String) (index : Nat) (y : MethodName) (bytes : ByteArray) (maxL : Nat) (ret : Option FieldType) (hh : List (Nat × Nat × Nat × Nat)) (ws : List Cond) (rm : Room) (mc ms n : Nat) : Prop :=
  (rm.cells = mc ∧ rm.slots = ms ∧ rm.frames + 1 ≤ R.frames ∧ 8 + (maxL + 11) + rm.locals ≤ R.locals ∧ (∀ w ∈ ws, ∀ (a' : Array Value) (U : State), s.WarmedH U.vm → w.before a' U = true) ∧ Cond.codeWith y bytes maxL ret hh ∈ ws) ∧ (Cond.methodLink own index y).before args s = true ∧ (Cond.static y).before args s = true ∧ (Cond.initialized y.cls).before args s = true ∧ (Cond.codeWith y bytes maxL ret hh).before args s = true ∧ (y.cls ≠ "java/lang/invoke/MethodHandle" ∧ y.cls ≠ "java/lang/invoke/VarHandle") ∧ ∀ sig, parseMethodDescriptor y.desc = some sig → n = sig.parameters.length
theorem cw_SW {idx : Nat} {y : MethodName} {bytes : ByteArray} {maxL mc ms : Nat} {ret : Option FieldType} {hh : List (Nat × Nat × Nat × Nat)} {rm : Room} (n : Nat) (X : kw_X p s m args c cc nL own (c0 :: gw_tbl) D cl tys A) (h1 : Cond.methodLink own idx y ∈ gw_tbl) (h2 : Cond.static y ∈ gw_tbl) (h4 : Cond.initialized y.cls ∈ gw_tbl) (h5 : Cond.codeWith y bytes maxL ret hh ∈ gw_tbl) (hrc : rm.cells = mc) (hrs : rm.slots = ms)
    (hd : y.cls ≠ "java/lang/invoke/MethodHandle" ∧ y.cls ≠ "java/lang/invoke/VarHandle" ∧ (parseMethodDescriptor y.desc).map (fun d => d.parameters.length) = some n) (hR : rm.frames + 1 ≤ R.frames ∧ 8 + (maxL + 11) + rm.locals ≤ R.locals) : kx_CS R s args own idx y bytes maxL ret hh (gh y bytes maxL ret hh) rm mc ms n := by
  refine ⟨⟨hrc, hrs, hR.1, hR.2, pay_in X.1.2.2.2.2 (gw_in h5), List.mem_cons_self⟩, X.1.2.2.2.2 _ (gq h1), X.1.2.2.2.2 _ (gq h2), X.1.2.2.2.2 _ (gq h4), X.1.2.2.2.2 _ (gq h5), ⟨hd.1, hd.2.1⟩, fun sig h => ?_⟩
  have h2 := hd.2.2
  rw [h] at h2
  exact (Option.some.inj h2).symm
theorem kx_runSW {y : MethodName} {bytes : ByteArray} {maxL mc ms n index : Nat} {ret : Option FieldType} {hh : List (Nat × Nat × Nat × Nat)} {yw : List Cond} {rm : Room} {Pc : Array Value → State → Prop} {Qc : Array Value → State → Outcome → State → Prop} {free : Addr → Prop} {As : List Value} {H : Heap} {locs : List Loc} {g : JFrame} (S : CallFix p m c cc nL s args Ts own) (hM : Met l y yw rm Pc Qc mc ms free) (cw : kx_CS R s args own index y bytes maxL ret hh yw rm mc ms n) (hp : PreS s H Pc As)
    (hg : g.method = m) (hn : As.length = n) (hsize : g.locals.size = nL) (hstack : g.stack = As.reverse ++ rest) (hW : 2 * g.monitorRoom + (rest.map fun v => v.category).sum ≤ 8) (hdg : decode cc g.pc = .ok (.invokestatic index, 3)) (hf : cells + mc ≤ R.cells ∧ slots + ms ≤ R.slots) :
    va_Run p l e R s m args below meth c H locs cells slots mc ms g rest (Qc As.toArray) free := by
  obtain ⟨⟨hrc, hrs, hfr, hlo, hws, hcw⟩, hlink, hstat, hini, hcode, hy, hlen⟩ := cw
  have hK : Back l R p e below s args y 3 8 (PreOf R mc ms Pc) (PostOf Qc mc ms free) := va_backW (hh := hh) (bytes := bytes) (maxL := maxL) (ret := ret) hM hp.1 hrc hrs hfr hlo hws hcw (fun a' U hW => word_at hW (Or.inl (by first | rfl | simp [Cond.onTables, Cond.keeps, Cond.steady])) hini)
  obtain ⟨hexec, hb, hml, hown, -⟩ := S
  subst hb
  intro T hT X
  obtain ⟨mk, methM, cM, hnamed, hmethM, -, -, -, -, -, -, hsigM⟩ := Cond.codeWith_spec hcode
  have hstatic : methM.isStatic = true := Cond.static_spec hnamed hmethM hstat
  obtain ⟨kP, hkP, -⟩ := className_of_methodNamed hnamed
  have hinitP : kP.init = .initialized := Cond.initialized_spec (findClass_of_methodNamed hnamed) hkP hini
  obtain ⟨vm₁, X₁, hstep₁⟩ := X.invokestatic hexec hown hlink hnamed hmethM hstatic hkP hinitP hy (g := g) hg (argsL := As) (rest := rest) (hn.trans (hlen _ hsigM)) hstack hdg
  obtain ⟨v, ⟨U', l2, c2, s2⟩, X', hpost, hsteps⟩ := hK m meth c ⟨T.setVm vm₁, locs, cells, slots⟩ { g with stack := rest } (.invokestatic index) mk As.toArray X₁ hg (hsize.trans hml.symm) hdg hW (X₁.named hnamed) ⟨hf.1, hf.2, hp.2 (T.setVm vm₁) hT X₁.warmed⟩
  obtain ⟨g', mk', t, L, e1, e2, hq, h1, hL, h2, h3⟩ := hpost
  dsimp only [Pt.U, Pt.locs, Pt.cells, Pt.slots] at X' e1 e2 h1 h2 h3 hsteps
  subst h1; subst h2; subst h3
  exact ⟨v, (T.setVm vm₁).calling g' mk' As.toArray, t, U', L, hT, X', hL, e1, e2, hq, fun target h => hstep₁ _ fun acts => by rw [doInvoke_state]; exact hsteps.trans h⟩
/-- a static call of a helper -/
theorem kx_callSW (X : kw_X p s m args c cc nL own (c0 :: gw_tbl) D cl tys A) (hE : kEx s) (hN : kx_NA A s) {y : MethodName} {bytes : ByteArray} {maxL mc ms n index : Nat} {yw : List Cond} {rm : Room} {ret : Option FieldType} {hh : List (Nat × Nat × Nat × Nat)} {As : List Value} {post : Int32 → va_W → Prop} (hM : kw_I l y yw rm D cl tys kEx As wc post mc ms) (cw : kx_CS R s args own index y bytes maxL ret hh yw rm mc ms n) (isC : List Nat) (hC : isC.map (fun i => ws[i]?) = wc.map some) (hnd : va_nd isC = true) (hlen : ∀ (r : Int32) (w : va_W), post r w → isC.length ≤ w.length) (hn : As.length = n) (hst : st0 = As.reverse ++ rest) (hW : (rest.map fun v => v.category).sum ≤ 8) (d : decode cc pc = .ok (.invokestatic index, 3)) (hf : cells + mc ≤ R.cells ∧ slots + ms ≤ R.slots)
    (kk : ∀ (r : Int32) (w1 : va_W), post r w1 → kw_W p l e R s m args below meth c nL D cl A (cells + mc) (slots + ms) Q (kw_put ws isC w1) (pc + 3) lv (.int r :: rest)) : kw_W p l e R s m args below meth c nL D cl A cells slots Q ws pc lv st0 := fun H locs ls hP hD hS hl => by
  have hF := va_free (wc := wc) hD hS X.2.2 isC hC
  refine va_calli (kx_runSW (g := F0 m pc ls st0) X.1 (hM H.size) cw (kx_preS (as := As) X.2.1 hE hN hS hP hD isC hC hnd) rfl hn hl.1.1 hst (kw_room hW) d hf) hS (fun q _ h => hF q h) hF (fun r u t H1 locs1 ht hvm hp hB hz hk hS1 => ?_)
  obtain ⟨hP1, hK1, hD1⟩ := hB
  rw [ht] at hP1
  obtain ⟨hP2, hD2⟩ := kw_join hP hD isC hC (hlen r u hp) hk hF hP1 hD1
  exact kk r u hp H1 locs1 ls hP2 hD2 hS1 hl
end KLA
