/-! exceptions: the two statics that a new one reads; words beside the lists -/
def kz_1 (n d : String) (U : State) : Prop := ∃ (c : ClassId) (k : Class) (i : Nat) (f : Field) (a : Nat) (cell : Cell), U.vm.findClass Bundle.tN = some c ∧ U.fieldFound? Bundle.tN n d = some (c, k, i, f) ∧ f.isStatic = true ∧ k.statics = some a ∧ U.heap[a]? = some cell ∧ cell.vm.isStatics = true ∧ cell.cls = c ∧ f.slot < cell.slots.size ∧ k.staticTypes[f.slot]? = some f.type ∧ (cell.slots[f.slot]? = some .null ∨ ∃ t, cell.slots[f.slot]? = some (.ref t))
theorem kz_1.of {n d : String} {args : Array Value} {s : State} (hl : (Cond.laysStatic Bundle.tN n d).before args s = true) (hr : (Cond.isRef (.static Bundle.tN n d)).before args s = true) : kz_1 n d s := by
  obtain ⟨c, k, i, f, a, cell, h1, h2, h3, h4, h5, h6, h7, h8, h9⟩ := Cond.laysStatic_spec hl
  cases hv : (Term.static Bundle.tN n d).eval args s none [] s with
  | none => simp [Cond.before, Cond.holds, Cond.value, hv] at hr
  | some w =>
    obtain ⟨-, a', cell', q1, q2, -, q3⟩ := Term.static_spec h2 hv
    cases h4.symm.trans q1
    cases h5.symm.trans q2
    simp only [Cond.before, Cond.holds, Cond.value, hv] at hr
    refine ⟨c, k, i, f, a, cell, h1, h2, h3, h4, h5, h6, h7, h8, h9, ?_⟩
    cases w with
    | null => exact Or.inl q3
    | ref t => exact Or.inr ⟨t, q3⟩
    | _ => simp at hr
theorem kz_1.lays {n d : String} {args : Array Value} {s : State} (h : kz_1 n d s) : (Cond.laysStatic Bundle.tN n d).before args s = true := by
  obtain ⟨c, k, i, f, a, cell, h1, h2, h3, h4, h5, h6, h7, h8, h9, -⟩ := h
  simp [Cond.before, Cond.holds, Cond.value, h1, h2, h3, h4, h5, h6, h7, h8, h9]
theorem kz_1.isRef {n d : String} {args : Array Value} {s : State} (h : kz_1 n d s) : (Cond.isRef (.static Bundle.tN n d)).before args s = true := by
  obtain ⟨c, k, i, f, a, cell, h1, h2, h3, h4, h5, h6, h7, h8, h9, h10⟩ := h
  rcases h10 with h10 | ⟨t, h10⟩
  · simp [Cond.before, Cond.holds, Cond.value, Term.eval, State.fieldNamed?, h2, h3, h4, h5, h6, h10]
  · simp [Cond.before, Cond.holds, Cond.value, Term.eval, State.fieldNamed?, h2, h3, h4, h5, h6, h10]
theorem kz_1.moved {n d : String} {u U : State} (hvm : u.vm.Alike U.vm) (hk : ∀ (a : Nat) (x : Cell), u.heap[a]? = some x → x.vm.isStatics = true → U.heap[a]? = some x) (h : kz_1 n d u) : kz_1 n d U := by
  obtain ⟨c, k, i, f, a, cell, h1, h2, h3, h4, h5, h6, h7, h8, h9, h10⟩ := h
  obtain ⟨k', hi', he⟩ := State.fieldFound?_setVm hvm h2
  exact ⟨c, k', i, f, a, cell, by rw [hvm.findClass]; exact h1, hi', h3, by rw [he]; exact h4, hk a cell h5 h6, h6, h7, h8, by rw [he]; exact h9, h10⟩
def bad_2 : List Cond := [Cond.castable "java/lang/IllegalArgumentException" "java/lang/IllegalArgumentException", Cond.castable "java/lang/IllegalStateException" "java/lang/IllegalStateException", Cond.castable "java/lang/IndexOutOfBoundsException" "java/lang/IndexOutOfBoundsException", Cond.castable "java/util/NoSuchElementException" "java/util/NoSuchElementException", Cond.declares ⟨"java/lang/RuntimeException", "<init>", "()V"⟩, Cond.declares ⟨"java/lang/Exception", "<init>", "()V"⟩, Cond.declares ⟨"java/lang/Throwable", "<init>", "()V"⟩, Cond.not (.castable "java/lang/IllegalStateException" "java/lang/IllegalArgumentException"), Cond.not (.castable "java/lang/IndexOutOfBoundsException" "java/lang/IllegalStateException"), Cond.not (.castable "java/util/NoSuchElementException" "java/lang/IllegalStateException"), Cond.not (.castable "java/util/NoSuchElementException" "java/lang/IndexOutOfBoundsException")]
def kx_E2 (U : State) : Prop := ∀ w ∈ bad_2, va_Nw w U
def kx_cold : Cond → Bool
  | .castable .. => true
  | .not (.castable ..) => true
  | .declares .. => true
  | _ => false
theorem kx_cast {a b : String} {s U : State} (hW : s.WarmedH U.vm) (h : va_Nw (.castable a b) s) : va_Nw (.castable a b) U := by
  unfold va_Nw Cond.before Cond.holds at h ⊢
  simp only [Cond.value] at h ⊢
  rw [hW.alike.findClass, hW.alike.findClass]
  cases h1 : s.vm.findClass a with
  | none => simp [h1] at h
  | some c =>
    cases h2 : s.vm.findClass b with
    | none => simp [h1, h2] at h
    | some t => simp only [h1, h2] at h ⊢; rw [hW.alike.assignable]; exact h
theorem kx_ncast {a b : String} {s U : State} (hW : s.WarmedH U.vm) (h : va_Nw (.not (.castable a b)) s) : va_Nw (.not (.castable a b)) U := by
  have hv := Cond.holds_not_iff.mp h
  refine Cond.holds_not_iff.mpr ?_
  simp only [Cond.value] at hv ⊢
  rw [hW.alike.findClass, hW.alike.findClass]
  cases h1 : s.vm.findClass a with
  | none => simp [h1] at hv
  | some c =>
    cases h2 : s.vm.findClass b with
    | none => simp [h1, h2] at hv
    | some t => simp only [h1, h2] at hv ⊢; rw [hW.alike.assignable]; exact hv
theorem kx_E2.warm {s U : State} (hW : s.WarmedH U.vm) (h : kx_E2 s) : kx_E2 U := fun w hw => by
  have h1 : kx_cold w = true := List.all_eq_true.mp (show bad_2.all kx_cold = true by decide +kernel) w hw
  have h2 := h w hw
  cases w with
  | castable a b => exact kx_cast hW h2
  | declares x => exact va_Nw.warmD hW h2
  | not c =>
    cases c with
    | castable a b => exact kx_ncast hW h2
    | _ => simp [kx_cold] at h1
  | _ => simp [kx_cold] at h1
/-- all that stands beside the lists: nest words, classes of exceptions, the two statics -/
def kEx (U : State) : Prop := kE U ∧ kx_E2 U ∧ kz_1 "UNASSIGNED_STACK" Bundle.steD U ∧ kz_1 "SUPPRESSED_SENTINEL" Bundle.listD U
/-- no cell of statics is among A -/
def kx_NA (A : Nat → Prop) (s : State) : Prop := ∀ (a : Nat) (x : Cell), s.heap[a]? = some x → x.vm.isStatics = true → ¬ A a
theorem kx_obj {D : va_G} {cl : List vw_C} {q : Nat × va_E} {H : Heap} (h : va_at D cl q H) : ∃ x : Cell, H[q.1]? = some x ∧ x.vm.isStatics = false := by
  obtain ⟨a, e⟩ := q
  cases e with
  | inl z =>
    obtain ⟨c, n, f⟩ := z
    refine ⟨_, h, ?_⟩
    rcases f with f | f | f | f | f <;> rfl
  | inr z =>
    obtain ⟨r, -, cell, h1, -, h3, -⟩ := h
    exact ⟨cell, h1, by rw [h3]; rfl⟩
theorem kx_NA.of {D : va_G} {cl : List vw_C} {wc : va_W} {s : State} (h : va_P D cl wc s.heap) : kx_NA (va_A wc s.heap.size) s := by
  intro a x hx hs hA
  rcases hA with ⟨k, e, hk⟩ | hA
  · obtain ⟨y, h1, h2⟩ := kx_obj (h k _ hk)
    cases hx.symm.trans h1
    rw [h2] at hs
    cases hs
  · have := (Array.getElem?_eq_some_iff.mp hx).1
    omega
theorem kEx.moved {s U : State} (hW : s.WarmedH U.vm) (hk : ∀ (a : Nat) (x : Cell), s.heap[a]? = some x → x.vm.isStatics = true → U.heap[a]? = some x) (h : kEx s) : kEx U :=
  ⟨kEw s U hW h.1, h.2.1.warm hW, h.2.2.1.moved hW.alike hk, h.2.2.2.moved hW.alike hk⟩
theorem kEx.at {A : Nat → Prop} {s U : State} {H : Heap} {locs : List Loc} (h : kEx s) (hN : kx_NA A s) (hS : va_S A s.heap H locs) (hW : s.WarmedH U.vm) (hU : U.heap = H) : kEx U :=
  h.moved hW (fun a x hx hs => by rw [hU, hS.2.1 a (Array.getElem?_eq_some_iff.mp hx).1 (hN a x hx hs)]; exact hx)
/-! the words of a new exception -/
def kx_st : List Cond := [.laysStatic Bundle.tN "UNASSIGNED_STACK" Bundle.steD, .laysStatic Bundle.tN "SUPPRESSED_SENTINEL" Bundle.listD, .isRef (.static Bundle.tN "UNASSIGNED_STACK" Bundle.steD), .isRef (.static Bundle.tN "SUPPRESSED_SENTINEL" Bundle.listD)]
def kx_P (w : Cond) : Prop := w ∈ gw_tbl ∨ w ∈ bad_2 ∨ w ∈ kx_st
def kx_and (P : Cond → Prop) : List Cond → Prop
  | [] => True
  | x :: r => P x ∧ kx_and P r
theorem kx_and.all {P : Cond → Prop} : ∀ {l : List Cond}, kx_and P l → ∀ a ∈ l, P a := by
  intro l
  induction l with
  | nil => intro _ a h; cases h
  | cons x r ih =>
    intro h a ha
    rcases List.mem_cons.mp ha with e | ha
    · rw [e]; exact h.1
    · exact ih h.2 a ha
theorem kx_words {args : Array Value} {s : State} {l : List Cond} (hg : ∀ w ∈ gw_tbl, w.before args s = true) (hE : kEx s) (h : kx_and kx_P l) : ∀ a ∈ l, a.before args s = true := by
  intro a ha
  rcases h.all a ha with h1 | h1 | h1
  · exact hg a h1
  · have hc : kx_cold a = true := List.all_eq_true.mp (show bad_2.all kx_cold = true by decide +kernel) a h1
    have h2 := hE.2.1 a h1
    cases a with
    | castable _ _ => exact va_tabs (A := #[]) (u := s) rfl rfl h2
    | declares _ => exact va_tabs (A := #[]) (u := s) rfl rfl h2
    | not c =>
      cases c with
      | castable _ _ =>
        have hv := Cond.holds_not_iff.mp h2
        refine Cond.holds_not_iff.mpr ?_
        simp only [Cond.value] at hv ⊢
        exact hv
      | _ => simp [kx_cold] at hc
    | _ => simp [kx_cold] at hc
  · simp only [kx_st, List.mem_cons, List.not_mem_nil, or_false] at h1
    rcases h1 with e | e | e | e <;> rw [e]
    · exact hE.2.2.1.lays
    · exact hE.2.2.2.lays
    · exact hE.2.2.1.isRef
    · exact hE.2.2.2.isRef
