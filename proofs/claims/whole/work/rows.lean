section
/-! the walk with its world, its locals (by place) and its stack as indexes -/
/-- locals by place: some v: known; none: not known -/
def kw_has (ls : Array Slot) (nL : Nat) (lv : List (Option Value)) : Prop := lv_has ls nL [] ∧ ∀ (i : Nat) (v : Value), lv[i]? = some (some v) → v.category = 1 ∧ ls[i]? = some (.val v)
/-- what stays the same through a body -/
def kw_X (p : Program) (s : State) (m : MethodId) (args : Array Value) (c : Code) (cc : ByteArray) (nL : Nat) (own : String) (Ts : List Cond) (D : va_G) (cl : List vw_C) (tys : List (ClassId × FieldType)) (A : Nat → Prop) : Prop :=
  CallFix p m c cc nL s args Ts own ∧ va_K D cl tys s ∧ ∀ q, s.heap.size ≤ q → A q
def kw_W (p : Program) (l : Launch) (e : Env) (R : Room) (s : State) (m : MethodId) (args : Array Value) (below : List Frame) (meth : Method) (c : Code) (nL : Nat) (D : va_G) (cl : List vw_C) (A : Nat → Prop) (cells slots : Nat) (Q : State → Prop) (ws : va_W) (pc : Nat) (lv : List (Option Value)) (st : List Value) : Prop :=
  ∀ (H : Heap) (locs : List Loc) (ls : Array Slot), va_P D cl ws H → va_D A ws → va_S A s.heap H locs → kw_has ls nL lv → W p l e R s m args below meth c H locs cells slots Q (F0 m pc ls st)
theorem kw_has.at {ls : Array Slot} {nL : Nat} {lv : List (Option Value)} (h : kw_has ls nL lv) {i : Nat} {v : Value} (hi : lv[i]? = some (some v)) : ls[i]? = some (.val v) := (h.2 i v hi).2
def kw_pairs (nL : Nat) (lv : List (Option Value)) : List (Nat × Value) := (List.range nL).filterMap (fun j => match lv[j]? with
  | some (some v) => some (j, v)
  | _ => none)
theorem kw_pairs_mem {nL : Nat} {lv : List (Option Value)} {q : Nat × Value} : q ∈ kw_pairs nL lv ↔ q.1 < nL ∧ lv[q.1]? = some (some q.2) := by
  unfold kw_pairs
  rw [List.mem_filterMap]
  constructor
  · rintro ⟨j, hj, h⟩
    split at h
    · rename_i v hv
      cases h
      exact ⟨List.mem_range.mp hj, hv⟩
    · cases h
  · rintro ⟨h1, h2⟩
    exact ⟨q.1, List.mem_range.mpr h1, by rw [h2]⟩
theorem kw_store {ls : Array Slot} {nL : Nat} {lv : List (Option Value)} (h : kw_has ls nL lv) (i : Nat) {v : Value} (hc : v.category = 1) :
    lv_has ls nL (kw_pairs nL lv) ∧ ∀ ls' : Array Slot, lv_has ls' nL ((i, v) :: (kw_pairs nL lv).filter (fun q => !(q.1 == i) && !(q.1 + 1 == i && q.2.category == 2))) → kw_has ls' nL (lv.set i (some v)) := by
  refine ⟨⟨h.1.1, h.1.2.1, fun q hq => h.at (kw_pairs_mem.mp hq).2⟩, fun ls' h' => ⟨⟨h'.1, h'.2.1, fun q hq => by cases hq⟩, fun j w hj => ?_⟩⟩
  by_cases hji : j = i
  · subst hji
    by_cases hl : j < lv.length
    · rw [List.getElem?_set_self hl] at hj
      cases hj
      exact ⟨hc, h'.2.2 (j, v) List.mem_cons_self⟩
    · rw [List.getElem?_eq_none (by rw [List.length_set]; omega)] at hj
      cases hj
  · rw [List.getElem?_set_ne (fun z => hji z.symm)] at hj
    obtain ⟨h1, h2⟩ := h.2 j w hj
    refine ⟨h1, h'.2.2 (j, w) (List.mem_cons_of_mem _ (List.mem_filter.mpr ⟨kw_pairs_mem.mpr ⟨?_, hj⟩, ?_⟩))⟩
    · have h3 := (Array.getElem?_eq_some_iff.mp h2).1
      have h4 := h.1.1
      show j < nL
      omega
    · show (!(j == i) && !(j + 1 == i && w.category == 2)) = true
      rw [h1]
      simp [hji]
theorem kw_has.kill {ls : Array Slot} {nL : Nat} {lv : List (Option Value)} (h : kw_has ls nL lv) (i : Nat) : kw_has ls nL (lv.set i none) := by
  refine ⟨h.1, fun j v hj => h.2 j v ?_⟩
  by_cases hji : j = i
  · subst hji
    by_cases hl : j < lv.length
    · rw [List.getElem?_set_self hl] at hj
      cases hj
    · rw [List.getElem?_eq_none (by rw [List.length_set]; omega)] at hj
      cases hj
  · rw [List.getElem?_set_ne (fun z => hji z.symm)] at hj
    exact hj
theorem kw_args_mem : ∀ (vs : List Value) (k i : Nat) (v : Value), (∀ w ∈ vs, w.category = 1) → vs[i]? = some v → (k + i, v) ∈ lv_args k vs := by
  intro vs
  induction vs with
  | nil => intro k i v _ h; simp at h
  | cons w t ih =>
    intro k i v hc h
    have hw : w.category = 1 := hc w List.mem_cons_self
    cases i with
    | zero =>
      simp at h
      subst h
      simp [lv_args]
    | succ i =>
      simp at h
      have h1 := ih (k + 1) i v (fun x hx => hc x (List.mem_cons_of_mem _ hx)) h
      have h2 : k + 1 + i = k + (i + 1) := by omega
      rw [h2] at h1
      unfold lv_args
      rw [if_neg (by rw [hw]; decide)]
      exact List.mem_cons_of_mem _ h1
theorem kw_entry (as : List Value) {n : Nat} (h : (lg_sl as).length ≤ n) (hc : ∀ w ∈ as, w.category = 1) : kw_has ((lg_sl as ++ List.replicate (n - (lg_sl as).length) Slot.unset).toArray) n (as.map some ++ List.replicate (n - as.length) none) := by
  have hl := lv_entry as h
  refine ⟨⟨hl.1, hl.2.1, fun q hq => by cases hq⟩, fun i v hi => ?_⟩
  have hv : as[i]? = some v := by
    by_cases hi2 : i < as.length
    · rw [List.getElem?_append_left (by simpa using hi2), List.getElem?_map] at hi
      cases hx : as[i]? with
      | none => rw [hx] at hi; cases hi
      | some w => rw [hx] at hi; simp at hi; rw [hi]
    · rw [List.getElem?_append_right (by simpa using hi2), List.getElem?_replicate] at hi
      split at hi <;> cases hi
  have hm := hl.2.2 (0 + i, v) (kw_args_mem as 0 i v hc hv)
  rw [Nat.zero_add] at hm
  exact ⟨hc v (List.mem_of_getElem? hv), hm⟩
/-- a world with the cells at the places is replaced by others; what is left over comes behind -/
def kw_put : va_W → List Nat → va_W → va_W
  | ws, i :: is, q :: qs => kw_put (ws.set i q) is qs
  | ws, [], qs => ws ++ qs
  | ws, _ :: _, [] => ws
theorem kw_put_get : ∀ (is : List Nat) (qs ws : va_W), is.length ≤ qs.length → ∀ (k : Nat) (q : Nat × va_E), (kw_put ws is qs)[k]? = some q →
    (k ∉ is ∧ ws[k]? = some q) ∨ ∃ j, qs[j]? = some q ∧ (is[j]? = some k ∨ (is.length ≤ j ∧ k = ws.length + (j - is.length))) := by
  intro is
  induction is with
  | nil =>
    intro qs ws _ k q h
    have h : (ws ++ qs)[k]? = some q := by
      cases qs <;> simpa [kw_put] using h
    by_cases hk : k < ws.length
    · rw [List.getElem?_append_left hk] at h
      exact Or.inl ⟨List.not_mem_nil, h⟩
    · rw [List.getElem?_append_right (by omega)] at h
      exact Or.inr ⟨k - ws.length, h, Or.inr ⟨Nat.zero_le _, by simp; omega⟩⟩
  | cons i is ih =>
    intro qs ws hlen k q h
    cases qs with
    | nil => simp at hlen
    | cons q0 qs =>
      have hlen' : is.length ≤ qs.length := by simpa using hlen
      rcases ih qs (ws.set i q0) hlen' k q h with ⟨h1, h2⟩ | ⟨j, h1, h2⟩
      · by_cases hk : k = i
        · subst hk
          by_cases hl : k < ws.length
          · rw [List.getElem?_set_self hl] at h2
            exact Or.inr ⟨0, by simpa using h2, Or.inl rfl⟩
          · rw [List.getElem?_eq_none (by rw [List.length_set]; omega)] at h2
            cases h2
        · rw [List.getElem?_set_ne (fun z => hk z.symm)] at h2
          exact Or.inl ⟨by simp [hk, h1], h2⟩
      · refine Or.inr ⟨j + 1, by simpa using h1, ?_⟩
        rcases h2 with h2 | ⟨h2, h3⟩
        · exact Or.inl (by simpa using h2)
        · rw [List.length_set] at h3
          exact Or.inr ⟨by simp; omega, by simp; omega⟩
/-- behind a call: the callee's cells at their places, the others as they were -/
theorem kw_join {A0 : Nat → Prop} {D : va_G} {cl : List vw_C} {ws wc w1 : va_W} {H H1 : Heap} (hP : va_P D cl ws H) (hD : va_D A0 ws) (isC : List Nat) (hC : isC.map (fun i => ws[i]?) = wc.map some) (hlen : isC.length ≤ w1.length)
    (hk : ∀ q : Nat, q < H.size → ¬ va_A wc H.size q → H1[q]? = H[q]?) (hF : ∀ q, va_A wc H.size q → A0 q) (hP1 : va_P D cl w1 H1) (hD1 : va_D (va_A wc H.size) w1) : va_P D cl (kw_put ws isC w1) H1 ∧ va_D A0 (kw_put ws isC w1) := by
  have apart : ∀ (k : Nat) (q : Nat × va_E), k ∉ isC → ws[k]? = some q → q.1 < H.size ∧ ¬ va_A wc H.size q.1 := by
    intro k q hn hq
    have hl := (hP k q hq).lt
    refine ⟨hl, fun h => ?_⟩
    rcases h with ⟨k2, e, h⟩ | h
    · have h1 : (isC.map (fun i => ws[i]?))[k2]? = some (some (q.1, e)) := by rw [hC, List.getElem?_map, h]; rfl
      rw [List.getElem?_map] at h1
      cases hi : isC[k2]? with
      | none => rw [hi] at h1; cases h1
      | some i =>
        rw [hi] at h1
        have hij := hD.1 k i q (q.1, e) hq (Option.some.inj h1) rfl
        subst hij
        exact hn (List.mem_of_getElem? hi)
    · omega
  refine ⟨fun k q hq => ?_, fun i j x y hx hy hxy => ?_, fun k q hq => ?_⟩
  · rcases kw_put_get isC w1 ws hlen k q hq with ⟨h1, h2⟩ | ⟨j, h1, -⟩
    · obtain ⟨g1, g2⟩ := apart k q h1 h2
      exact (hP k q h2).kept (hk q.1 g1 g2)
    · exact hP1 j q h1
  · rcases kw_put_get isC w1 ws hlen i x hx with ⟨h1, h2⟩ | ⟨a, h1, h2⟩ <;> rcases kw_put_get isC w1 ws hlen j y hy with ⟨h3, h4⟩ | ⟨b, h3, h4⟩
    · exact hD.1 i j x y h2 h4 hxy
    · exact absurd (by rw [hxy]; exact hD1.2 b y h3) (apart i x h1 h2).2
    · exact absurd (by rw [← hxy]; exact hD1.2 a x h1) (apart j y h3 h4).2
    · have hab := hD1.1 a b x y h1 h3 hxy
      subst hab
      rcases h2 with h2 | ⟨h2, h5⟩ <;> rcases h4 with h4 | ⟨h4, h6⟩
      · exact Option.some.inj (h2.symm.trans h4)
      · rw [List.getElem?_eq_none h4] at h2; cases h2
      · rw [List.getElem?_eq_none h2] at h4; cases h4
      · omega
  · rcases kw_put_get isC w1 ws hlen k q hq with ⟨-, h2⟩ | ⟨j, h1, -⟩
    · exact hD.2 k q h2
    · exact hF _ (hD1.2 j q h1)
section KWA
variable {p : Program} {l : Launch} {e : Env} {R : Room} {s : State} {m : MethodId} {args : Array Value} {below : List Frame} {meth : Method} {c : Code} {cells slots : Nat} {Q : State → Prop}
variable {cc : ByteArray} {nL : Nat} {own : String} {Ts : List Cond} {D : va_G} {cl : List vw_C} {tys : List (ClassId × FieldType)} {A : Nat → Prop}
variable {ws : va_W} {pc : Nat} {lv : List (Option Value)} {rest : List Value}
theorem kw_iconst (X : kw_X p s m args c cc nL own Ts D cl tys A) {n : Int} {v : Int32} (d : decode cc pc = .ok (.iconst n, 1)) (hv : Int32.ofInt n = v) (k : kw_W p l e R s m args below meth c nL D cl A cells slots Q ws (pc + 1) (lv) (.int v :: rest)) : kw_W p l e R s m args below meth c nL D cl A cells slots Q ws (pc) (lv) (rest) := fun H locs ls hP hD hS hl => lv_iconst X.1.1 X.1.2.1 d hv (k H locs ls hP hD hS hl)
theorem kw_bipush (X : kw_X p s m args c cc nL own Ts D cl tys A) {n : Int} {v : Int32} (d : decode cc pc = .ok (.bipush n, 2)) (hv : (Int8.ofInt n).toInt32 = v) (k : kw_W p l e R s m args below meth c nL D cl A cells slots Q ws (pc + 2) (lv) (.int v :: rest)) : kw_W p l e R s m args below meth c nL D cl A cells slots Q ws (pc) (lv) (rest) := fun H locs ls hP hD hS hl => lv_bipush X.1.1 X.1.2.1 d hv (k H locs ls hP hD hS hl)
theorem kw_sipush (X : kw_X p s m args c cc nL own Ts D cl tys A) {n : Int} {v : Int32} (d : decode cc pc = .ok (.sipush n, 3)) (hv : (Int16.ofInt n).toInt32 = v) (k : kw_W p l e R s m args below meth c nL D cl A cells slots Q ws (pc + 3) (lv) (.int v :: rest)) : kw_W p l e R s m args below meth c nL D cl A cells slots Q ws (pc) (lv) (rest) := fun H locs ls hP hD hS hl => lv_sipush X.1.1 X.1.2.1 d hv (k H locs ls hP hD hS hl)
theorem kw_iload_n (X : kw_X p s m args c cc nL own Ts D cl tys A) {k0 : Fin 4} {i : Nat} {x : Int32} (d : decode cc pc = .ok (.iload_n k0, 1)) (hi : (k0 : Nat) = i) (h : lv[i]? = some (some (.int x))) (k : kw_W p l e R s m args below meth c nL D cl A cells slots Q ws (pc + 1) (lv) (.int x :: rest)) : kw_W p l e R s m args below meth c nL D cl A cells slots Q ws (pc) (lv) (rest) := fun H locs ls hP hD hS hl => lv_iload_n X.1.1 X.1.2.1 d hi (hl.at h) (k H locs ls hP hD hS hl)
theorem kw_iload (X : kw_X p s m args c cc nL own Ts D cl tys A) {i : Nat} {x : Int32} (d : decode cc pc = .ok (.iload i, 2)) (h : lv[i]? = some (some (.int x))) (k : kw_W p l e R s m args below meth c nL D cl A cells slots Q ws (pc + 2) (lv) (.int x :: rest)) : kw_W p l e R s m args below meth c nL D cl A cells slots Q ws (pc) (lv) (rest) := fun H locs ls hP hD hS hl => lv_iload X.1.1 X.1.2.1 d (hl.at h) (k H locs ls hP hD hS hl)
theorem kw_aload_n (X : kw_X p s m args c cc nL own Ts D cl tys A) {k0 : Fin 4} {i : Nat} {x : Nat} (d : decode cc pc = .ok (.aload_n k0, 1)) (hi : (k0 : Nat) = i) (h : lv[i]? = some (some (.ref x))) (k : kw_W p l e R s m args below meth c nL D cl A cells slots Q ws (pc + 1) (lv) (.ref x :: rest)) : kw_W p l e R s m args below meth c nL D cl A cells slots Q ws (pc) (lv) (rest) := fun H locs ls hP hD hS hl => lv_aload_n X.1.1 X.1.2.1 d hi (hl.at h) (k H locs ls hP hD hS hl)
theorem kw_aload (X : kw_X p s m args c cc nL own Ts D cl tys A) {i : Nat} {x : Nat} (d : decode cc pc = .ok (.aload i, 2)) (h : lv[i]? = some (some (.ref x))) (k : kw_W p l e R s m args below meth c nL D cl A cells slots Q ws (pc + 2) (lv) (.ref x :: rest)) : kw_W p l e R s m args below meth c nL D cl A cells slots Q ws (pc) (lv) (rest) := fun H locs ls hP hD hS hl => lv_aload X.1.1 X.1.2.1 d (hl.at h) (k H locs ls hP hD hS hl)
theorem kw_istore_n (X : kw_X p s m args c cc nL own Ts D cl tys A) {k0 : Fin 4} {i : Nat} {x : Int32} (d : decode cc pc = .ok (.istore_n k0, 1)) (hi : (k0 : Nat) = i) (hn : i < nL) (k : kw_W p l e R s m args below meth c nL D cl A cells slots Q ws (pc + 1) (lv.set i (some (.int x))) (rest)) : kw_W p l e R s m args below meth c nL D cl A cells slots Q ws (pc) (lv) (.int x :: rest) := fun H locs ls hP hD hS hl => lv_istore_n X.1.1 X.1.2.1 d hi (kw_store hl i (v := .int x) rfl).1 hn rfl (fun ls9 h9 => k H locs ls9 hP hD hS ((kw_store hl i (v := .int x) rfl).2 ls9 h9))
theorem kw_istore (X : kw_X p s m args c cc nL own Ts D cl tys A) {i : Nat} {x : Int32} (d : decode cc pc = .ok (.istore i, 2)) (hn : i < nL) (k : kw_W p l e R s m args below meth c nL D cl A cells slots Q ws (pc + 2) (lv.set i (some (.int x))) (rest)) : kw_W p l e R s m args below meth c nL D cl A cells slots Q ws (pc) (lv) (.int x :: rest) := fun H locs ls hP hD hS hl => lv_istore X.1.1 X.1.2.1 d (kw_store hl i (v := .int x) rfl).1 hn rfl (fun ls9 h9 => k H locs ls9 hP hD hS ((kw_store hl i (v := .int x) rfl).2 ls9 h9))
theorem kw_astore_n (X : kw_X p s m args c cc nL own Ts D cl tys A) {k0 : Fin 4} {i : Nat} {x : Nat} (d : decode cc pc = .ok (.astore_n k0, 1)) (hi : (k0 : Nat) = i) (hn : i < nL) (k : kw_W p l e R s m args below meth c nL D cl A cells slots Q ws (pc + 1) (lv.set i (some (.ref x))) (rest)) : kw_W p l e R s m args below meth c nL D cl A cells slots Q ws (pc) (lv) (.ref x :: rest) := fun H locs ls hP hD hS hl => lv_astore_n X.1.1 X.1.2.1 d hi (kw_store hl i (v := .ref x) rfl).1 hn rfl (fun ls9 h9 => k H locs ls9 hP hD hS ((kw_store hl i (v := .ref x) rfl).2 ls9 h9))
theorem kw_astore (X : kw_X p s m args c cc nL own Ts D cl tys A) {i : Nat} {x : Nat} (d : decode cc pc = .ok (.astore i, 2)) (hn : i < nL) (k : kw_W p l e R s m args below meth c nL D cl A cells slots Q ws (pc + 2) (lv.set i (some (.ref x))) (rest)) : kw_W p l e R s m args below meth c nL D cl A cells slots Q ws (pc) (lv) (.ref x :: rest) := fun H locs ls hP hD hS hl => lv_astore X.1.1 X.1.2.1 d (kw_store hl i (v := .ref x) rfl).1 hn rfl (fun ls9 h9 => k H locs ls9 hP hD hS ((kw_store hl i (v := .ref x) rfl).2 ls9 h9))
theorem kw_iinc (X : kw_X p s m args c cc nL own Ts D cl tys A) {i : Nat} {n : Int} {x v : Int32} (d : decode cc pc = .ok (.iinc i n, 3)) (h : lv[i]? = some (some (.int x))) (hv : x + Int32.ofInt n = v) (hn : i < nL) (k : kw_W p l e R s m args below meth c nL D cl A cells slots Q ws (pc + 3) (lv.set i (some (.int v))) (rest)) : kw_W p l e R s m args below meth c nL D cl A cells slots Q ws (pc) (lv) (rest) := fun H locs ls hP hD hS hl => by
  have hs := kw_store hl i (v := .int v) rfl
  have hm : (i, Value.int x) ∈ kw_pairs nL lv := kw_pairs_mem.mpr ⟨hn, h⟩
  obtain ⟨j, hj⟩ := List.getElem?_of_mem hm
  exact lv_iinc X.1.1 X.1.2.1 d hs.1 hj hv hn rfl (fun ls9 h9 => k H locs ls9 hP hD hS (hs.2 ls9 h9))
theorem kw_iadd (X : kw_X p s m args c cc nL own Ts D cl tys A) {x y v : Int32} (d : decode cc pc = .ok (.iadd, 1)) (hv : x + y = v) (k : kw_W p l e R s m args below meth c nL D cl A cells slots Q ws (pc + 1) (lv) (.int v :: rest)) : kw_W p l e R s m args below meth c nL D cl A cells slots Q ws (pc) (lv) (.int y :: .int x :: rest) := fun H locs ls hP hD hS hl => lv_iadd X.1.1 X.1.2.1 d (by rw [hv]; exact (k H locs ls hP hD hS hl))
theorem kw_isub (X : kw_X p s m args c cc nL own Ts D cl tys A) {x y v : Int32} (d : decode cc pc = .ok (.isub, 1)) (hv : x - y = v) (k : kw_W p l e R s m args below meth c nL D cl A cells slots Q ws (pc + 1) (lv) (.int v :: rest)) : kw_W p l e R s m args below meth c nL D cl A cells slots Q ws (pc) (lv) (.int y :: .int x :: rest) := fun H locs ls hP hD hS hl => lv_isub X.1.1 X.1.2.1 d (by rw [hv]; exact (k H locs ls hP hD hS hl))
theorem kw_imul (X : kw_X p s m args c cc nL own Ts D cl tys A) {x y v : Int32} (d : decode cc pc = .ok (.imul, 1)) (hv : x * y = v) (k : kw_W p l e R s m args below meth c nL D cl A cells slots Q ws (pc + 1) (lv) (.int v :: rest)) : kw_W p l e R s m args below meth c nL D cl A cells slots Q ws (pc) (lv) (.int y :: .int x :: rest) := fun H locs ls hP hD hS hl => lv_imul X.1.1 X.1.2.1 d (by rw [hv]; exact (k H locs ls hP hD hS hl))
theorem kw_iand (X : kw_X p s m args c cc nL own Ts D cl tys A) {x y v : Int32} (d : decode cc pc = .ok (.iand, 1)) (hv : x &&& y = v) (k : kw_W p l e R s m args below meth c nL D cl A cells slots Q ws (pc + 1) (lv) (.int v :: rest)) : kw_W p l e R s m args below meth c nL D cl A cells slots Q ws (pc) (lv) (.int y :: .int x :: rest) := fun H locs ls hP hD hS hl => lv_iand X.1.1 X.1.2.1 d (by rw [hv]; exact (k H locs ls hP hD hS hl))
theorem kw_ior (X : kw_X p s m args c cc nL own Ts D cl tys A) {x y v : Int32} (d : decode cc pc = .ok (.ior, 1)) (hv : x ||| y = v) (k : kw_W p l e R s m args below meth c nL D cl A cells slots Q ws (pc + 1) (lv) (.int v :: rest)) : kw_W p l e R s m args below meth c nL D cl A cells slots Q ws (pc) (lv) (.int y :: .int x :: rest) := fun H locs ls hP hD hS hl => lv_ior X.1.1 X.1.2.1 d (by rw [hv]; exact (k H locs ls hP hD hS hl))
theorem kw_ixor (X : kw_X p s m args c cc nL own Ts D cl tys A) {x y v : Int32} (d : decode cc pc = .ok (.ixor, 1)) (hv : x ^^^ y = v) (k : kw_W p l e R s m args below meth c nL D cl A cells slots Q ws (pc + 1) (lv) (.int v :: rest)) : kw_W p l e R s m args below meth c nL D cl A cells slots Q ws (pc) (lv) (.int y :: .int x :: rest) := fun H locs ls hP hD hS hl => lv_ixor X.1.1 X.1.2.1 d (by rw [hv]; exact (k H locs ls hP hD hS hl))
theorem kw_ishl (X : kw_X p s m args c cc nL own Ts D cl tys A) {x y v : Int32} (d : decode cc pc = .ok (.ishl, 1)) (hv : x <<< (y &&& 31) = v) (k : kw_W p l e R s m args below meth c nL D cl A cells slots Q ws (pc + 1) (lv) (.int v :: rest)) : kw_W p l e R s m args below meth c nL D cl A cells slots Q ws (pc) (lv) (.int y :: .int x :: rest) := fun H locs ls hP hD hS hl => lv_ishl X.1.1 X.1.2.1 d (by rw [hv]; exact (k H locs ls hP hD hS hl))
theorem kw_ishr (X : kw_X p s m args c cc nL own Ts D cl tys A) {x y v : Int32} (d : decode cc pc = .ok (.ishr, 1)) (hv : x >>> (y &&& 31) = v) (k : kw_W p l e R s m args below meth c nL D cl A cells slots Q ws (pc + 1) (lv) (.int v :: rest)) : kw_W p l e R s m args below meth c nL D cl A cells slots Q ws (pc) (lv) (.int y :: .int x :: rest) := fun H locs ls hP hD hS hl => lv_ishr X.1.1 X.1.2.1 d (by rw [hv]; exact (k H locs ls hP hD hS hl))
theorem kw_iushr (X : kw_X p s m args c cc nL own Ts D cl tys A) {x y v : Int32} (d : decode cc pc = .ok (.iushr, 1)) (hv : (x.toUInt32 >>> (y.toUInt32 &&& Int32.toUInt32 31)).toInt32 = v) (k : kw_W p l e R s m args below meth c nL D cl A cells slots Q ws (pc + 1) (lv) (.int v :: rest)) : kw_W p l e R s m args below meth c nL D cl A cells slots Q ws (pc) (lv) (.int y :: .int x :: rest) := fun H locs ls hP hD hS hl => lv_iushr X.1.1 X.1.2.1 d hv (k H locs ls hP hD hS hl)
theorem kw_idiv (X : kw_X p s m args c cc nL own Ts D cl tys A) {x y v : Int32} (d : decode cc pc = .ok (.idiv, 1)) (hne : ¬ y = 0) (hv : x / y = v) (k : kw_W p l e R s m args below meth c nL D cl A cells slots Q ws (pc + 1) (lv) (.int v :: rest)) : kw_W p l e R s m args below meth c nL D cl A cells slots Q ws (pc) (lv) (.int y :: .int x :: rest) := fun H locs ls hP hD hS hl => lv_idiv X.1.1 X.1.2.1 d hne (by rw [hv]; exact (k H locs ls hP hD hS hl))
theorem kw_irem (X : kw_X p s m args c cc nL own Ts D cl tys A) {x y v : Int32} (d : decode cc pc = .ok (.irem, 1)) (hne : ¬ y = 0) (hv : x - x / y * y = v) (k : kw_W p l e R s m args below meth c nL D cl A cells slots Q ws (pc + 1) (lv) (.int v :: rest)) : kw_W p l e R s m args below meth c nL D cl A cells slots Q ws (pc) (lv) (.int y :: .int x :: rest) := fun H locs ls hP hD hS hl => lv_irem X.1.1 X.1.2.1 d hne (by rw [hv]; exact (k H locs ls hP hD hS hl))
theorem kw_ineg (X : kw_X p s m args c cc nL own Ts D cl tys A) {x v : Int32} (d : decode cc pc = .ok (.ineg, 1)) (hv : -x = v) (k : kw_W p l e R s m args below meth c nL D cl A cells slots Q ws (pc + 1) (lv) (.int v :: rest)) : kw_W p l e R s m args below meth c nL D cl A cells slots Q ws (pc) (lv) (.int x :: rest) := fun H locs ls hP hD hS hl => lv_ineg X.1.1 X.1.2.1 d (by rw [hv]; exact (k H locs ls hP hD hS hl))
theorem kw_i2b (X : kw_X p s m args c cc nL own Ts D cl tys A) {x v : Int32} (d : decode cc pc = .ok (.i2b, 1)) (hv : x.toInt8.toInt32 = v) (k : kw_W p l e R s m args below meth c nL D cl A cells slots Q ws (pc + 1) (lv) (.int v :: rest)) : kw_W p l e R s m args below meth c nL D cl A cells slots Q ws (pc) (lv) (.int x :: rest) := fun H locs ls hP hD hS hl => lv_i2b X.1.1 X.1.2.1 d hv (k H locs ls hP hD hS hl)
theorem kw_i2c (X : kw_X p s m args c cc nL own Ts D cl tys A) {x v : Int32} (d : decode cc pc = .ok (.i2c, 1)) (hv : (x.toUInt32 % 65536).toInt32 = v) (k : kw_W p l e R s m args below meth c nL D cl A cells slots Q ws (pc + 1) (lv) (.int v :: rest)) : kw_W p l e R s m args below meth c nL D cl A cells slots Q ws (pc) (lv) (.int x :: rest) := fun H locs ls hP hD hS hl => lv_i2c X.1.1 X.1.2.1 d hv (k H locs ls hP hD hS hl)
theorem kw_i2l (X : kw_X p s m args c cc nL own Ts D cl tys A) {x : Int32} {v : Int64} (d : decode cc pc = .ok (.i2l, 1)) (hv : x.toInt64 = v) (k : kw_W p l e R s m args below meth c nL D cl A cells slots Q ws (pc + 1) (lv) (.long v :: rest)) : kw_W p l e R s m args below meth c nL D cl A cells slots Q ws (pc) (lv) (.int x :: rest) := fun H locs ls hP hD hS hl => lv_i2l X.1.1 X.1.2.1 d hv (k H locs ls hP hD hS hl)
theorem kw_lcmp (X : kw_X p s m args c cc nL own Ts D cl tys A) {x y : Int64} {v : Int32} (d : decode cc pc = .ok (.lcmp, 1)) (hv : lg_cmp x y = v) (k : kw_W p l e R s m args below meth c nL D cl A cells slots Q ws (pc + 1) (lv) (.int v :: rest)) : kw_W p l e R s m args below meth c nL D cl A cells slots Q ws (pc) (lv) (.long y :: .long x :: rest) := fun H locs ls hP hD hS hl => W.lcmp X.1.1 X.1.2.1 d (by rw [hv]; exact (k H locs ls hP hD hS hl))
theorem kw_dup (X : kw_X p s m args c cc nL own Ts D cl tys A) {va : Value} (d : decode cc pc = .ok (.dup, 1)) (h : va.category = 1) (k : kw_W p l e R s m args below meth c nL D cl A cells slots Q ws (pc + 1) (lv) (va :: va :: rest)) : kw_W p l e R s m args below meth c nL D cl A cells slots Q ws (pc) (lv) (va :: rest) := fun H locs ls hP hD hS hl => lv_dup X.1.1 X.1.2.1 d h (k H locs ls hP hD hS hl)
theorem kw_pop (X : kw_X p s m args c cc nL own Ts D cl tys A) {va : Value} (d : decode cc pc = .ok (.pop, 1)) (h : va.category = 1) (k : kw_W p l e R s m args below meth c nL D cl A cells slots Q ws (pc + 1) (lv) (rest)) : kw_W p l e R s m args below meth c nL D cl A cells slots Q ws (pc) (lv) (va :: rest) := fun H locs ls hP hD hS hl => lv_pop X.1.1 X.1.2.1 d h (k H locs ls hP hD hS hl)
theorem kw_dup2 (X : kw_X p s m args c cc nL own Ts D cl tys A) {va vb : Value} (d : decode cc pc = .ok (.dup2, 1)) (h1 : va.category = 1) (h2 : vb.category = 1) (k : kw_W p l e R s m args below meth c nL D cl A cells slots Q ws (pc + 1) (lv) (va :: vb :: va :: vb :: rest)) : kw_W p l e R s m args below meth c nL D cl A cells slots Q ws (pc) (lv) (va :: vb :: rest) := fun H locs ls hP hD hS hl => lv_dup2_11 X.1.1 X.1.2.1 d h1 h2 (k H locs ls hP hD hS hl)
theorem kw_if_eq (X : kw_X p s m args c cc nL own Ts D cl tys A) {x : Int32} {off : Int} {tgt : Nat} (d : decode cc pc = .ok (.ifCond .eq off, 3)) (ht : (pc : Int) + off = (tgt : Int)) (kt : x = 0 → kw_W p l e R s m args below meth c nL D cl A cells slots Q ws (tgt) (lv) (rest)) (kf : ¬ x = 0 → kw_W p l e R s m args below meth c nL D cl A cells slots Q ws (pc + 3) (lv) (rest)) : kw_W p l e R s m args below meth c nL D cl A cells slots Q ws (pc) (lv) (.int x :: rest) := fun H locs ls hP hD hS hl => lv_if_eq X.1.1 X.1.2.1 d ht (fun z => kt z H locs ls hP hD hS hl) (fun z => kf z H locs ls hP hD hS hl)
theorem kw_if_ne (X : kw_X p s m args c cc nL own Ts D cl tys A) {x : Int32} {off : Int} {tgt : Nat} (d : decode cc pc = .ok (.ifCond .ne off, 3)) (ht : (pc : Int) + off = (tgt : Int)) (kt : ¬ x = 0 → kw_W p l e R s m args below meth c nL D cl A cells slots Q ws (tgt) (lv) (rest)) (kf : x = 0 → kw_W p l e R s m args below meth c nL D cl A cells slots Q ws (pc + 3) (lv) (rest)) : kw_W p l e R s m args below meth c nL D cl A cells slots Q ws (pc) (lv) (.int x :: rest) := fun H locs ls hP hD hS hl => lv_if_ne X.1.1 X.1.2.1 d ht (fun z => kt z H locs ls hP hD hS hl) (fun z => kf z H locs ls hP hD hS hl)
theorem kw_if_lt (X : kw_X p s m args c cc nL own Ts D cl tys A) {x : Int32} {off : Int} {tgt : Nat} (d : decode cc pc = .ok (.ifCond .lt off, 3)) (ht : (pc : Int) + off = (tgt : Int)) (kt : x < 0 → kw_W p l e R s m args below meth c nL D cl A cells slots Q ws (tgt) (lv) (rest)) (kf : ¬ x < 0 → kw_W p l e R s m args below meth c nL D cl A cells slots Q ws (pc + 3) (lv) (rest)) : kw_W p l e R s m args below meth c nL D cl A cells slots Q ws (pc) (lv) (.int x :: rest) := fun H locs ls hP hD hS hl => lv_if_lt X.1.1 X.1.2.1 d ht (fun z => kt z H locs ls hP hD hS hl) (fun z => kf z H locs ls hP hD hS hl)
theorem kw_if_ge (X : kw_X p s m args c cc nL own Ts D cl tys A) {x : Int32} {off : Int} {tgt : Nat} (d : decode cc pc = .ok (.ifCond .ge off, 3)) (ht : (pc : Int) + off = (tgt : Int)) (kt : 0 ≤ x → kw_W p l e R s m args below meth c nL D cl A cells slots Q ws (tgt) (lv) (rest)) (kf : ¬ 0 ≤ x → kw_W p l e R s m args below meth c nL D cl A cells slots Q ws (pc + 3) (lv) (rest)) : kw_W p l e R s m args below meth c nL D cl A cells slots Q ws (pc) (lv) (.int x :: rest) := fun H locs ls hP hD hS hl => lv_if_ge X.1.1 X.1.2.1 d ht (fun z => kt z H locs ls hP hD hS hl) (fun z => kf z H locs ls hP hD hS hl)
theorem kw_if_gt (X : kw_X p s m args c cc nL own Ts D cl tys A) {x : Int32} {off : Int} {tgt : Nat} (d : decode cc pc = .ok (.ifCond .gt off, 3)) (ht : (pc : Int) + off = (tgt : Int)) (kt : 0 < x → kw_W p l e R s m args below meth c nL D cl A cells slots Q ws (tgt) (lv) (rest)) (kf : ¬ 0 < x → kw_W p l e R s m args below meth c nL D cl A cells slots Q ws (pc + 3) (lv) (rest)) : kw_W p l e R s m args below meth c nL D cl A cells slots Q ws (pc) (lv) (.int x :: rest) := fun H locs ls hP hD hS hl => lv_if_gt X.1.1 X.1.2.1 d ht (fun z => kt z H locs ls hP hD hS hl) (fun z => kf z H locs ls hP hD hS hl)
theorem kw_if_le (X : kw_X p s m args c cc nL own Ts D cl tys A) {x : Int32} {off : Int} {tgt : Nat} (d : decode cc pc = .ok (.ifCond .le off, 3)) (ht : (pc : Int) + off = (tgt : Int)) (kt : x ≤ 0 → kw_W p l e R s m args below meth c nL D cl A cells slots Q ws (tgt) (lv) (rest)) (kf : ¬ x ≤ 0 → kw_W p l e R s m args below meth c nL D cl A cells slots Q ws (pc + 3) (lv) (rest)) : kw_W p l e R s m args below meth c nL D cl A cells slots Q ws (pc) (lv) (.int x :: rest) := fun H locs ls hP hD hS hl => lv_if_le X.1.1 X.1.2.1 d ht (fun z => kt z H locs ls hP hD hS hl) (fun z => kf z H locs ls hP hD hS hl)
theorem kw_icmp_eq (X : kw_X p s m args c cc nL own Ts D cl tys A) {x y : Int32} {off : Int} {tgt : Nat} (d : decode cc pc = .ok (.if_icmp .eq off, 3)) (ht : (pc : Int) + off = (tgt : Int)) (kt : x = y → kw_W p l e R s m args below meth c nL D cl A cells slots Q ws (tgt) (lv) (rest)) (kf : ¬ x = y → kw_W p l e R s m args below meth c nL D cl A cells slots Q ws (pc + 3) (lv) (rest)) : kw_W p l e R s m args below meth c nL D cl A cells slots Q ws (pc) (lv) (.int y :: .int x :: rest) := fun H locs ls hP hD hS hl => lv_icmp_eq X.1.1 X.1.2.1 d ht (fun z => kt z H locs ls hP hD hS hl) (fun z => kf z H locs ls hP hD hS hl)
theorem kw_icmp_ne (X : kw_X p s m args c cc nL own Ts D cl tys A) {x y : Int32} {off : Int} {tgt : Nat} (d : decode cc pc = .ok (.if_icmp .ne off, 3)) (ht : (pc : Int) + off = (tgt : Int)) (kt : ¬ x = y → kw_W p l e R s m args below meth c nL D cl A cells slots Q ws (tgt) (lv) (rest)) (kf : x = y → kw_W p l e R s m args below meth c nL D cl A cells slots Q ws (pc + 3) (lv) (rest)) : kw_W p l e R s m args below meth c nL D cl A cells slots Q ws (pc) (lv) (.int y :: .int x :: rest) := fun H locs ls hP hD hS hl => lv_icmp_ne X.1.1 X.1.2.1 d ht (fun z => kt z H locs ls hP hD hS hl) (fun z => kf z H locs ls hP hD hS hl)
theorem kw_icmp_lt (X : kw_X p s m args c cc nL own Ts D cl tys A) {x y : Int32} {off : Int} {tgt : Nat} (d : decode cc pc = .ok (.if_icmp .lt off, 3)) (ht : (pc : Int) + off = (tgt : Int)) (kt : x < y → kw_W p l e R s m args below meth c nL D cl A cells slots Q ws (tgt) (lv) (rest)) (kf : ¬ x < y → kw_W p l e R s m args below meth c nL D cl A cells slots Q ws (pc + 3) (lv) (rest)) : kw_W p l e R s m args below meth c nL D cl A cells slots Q ws (pc) (lv) (.int y :: .int x :: rest) := fun H locs ls hP hD hS hl => lv_icmp_lt X.1.1 X.1.2.1 d ht (fun z => kt z H locs ls hP hD hS hl) (fun z => kf z H locs ls hP hD hS hl)
theorem kw_icmp_ge (X : kw_X p s m args c cc nL own Ts D cl tys A) {x y : Int32} {off : Int} {tgt : Nat} (d : decode cc pc = .ok (.if_icmp .ge off, 3)) (ht : (pc : Int) + off = (tgt : Int)) (kt : y ≤ x → kw_W p l e R s m args below meth c nL D cl A cells slots Q ws (tgt) (lv) (rest)) (kf : ¬ y ≤ x → kw_W p l e R s m args below meth c nL D cl A cells slots Q ws (pc + 3) (lv) (rest)) : kw_W p l e R s m args below meth c nL D cl A cells slots Q ws (pc) (lv) (.int y :: .int x :: rest) := fun H locs ls hP hD hS hl => lv_icmp_ge X.1.1 X.1.2.1 d ht (fun z => kt z H locs ls hP hD hS hl) (fun z => kf z H locs ls hP hD hS hl)
theorem kw_icmp_gt (X : kw_X p s m args c cc nL own Ts D cl tys A) {x y : Int32} {off : Int} {tgt : Nat} (d : decode cc pc = .ok (.if_icmp .gt off, 3)) (ht : (pc : Int) + off = (tgt : Int)) (kt : y < x → kw_W p l e R s m args below meth c nL D cl A cells slots Q ws (tgt) (lv) (rest)) (kf : ¬ y < x → kw_W p l e R s m args below meth c nL D cl A cells slots Q ws (pc + 3) (lv) (rest)) : kw_W p l e R s m args below meth c nL D cl A cells slots Q ws (pc) (lv) (.int y :: .int x :: rest) := fun H locs ls hP hD hS hl => lv_icmp_gt X.1.1 X.1.2.1 d ht (fun z => kt z H locs ls hP hD hS hl) (fun z => kf z H locs ls hP hD hS hl)
theorem kw_icmp_le (X : kw_X p s m args c cc nL own Ts D cl tys A) {x y : Int32} {off : Int} {tgt : Nat} (d : decode cc pc = .ok (.if_icmp .le off, 3)) (ht : (pc : Int) + off = (tgt : Int)) (kt : x ≤ y → kw_W p l e R s m args below meth c nL D cl A cells slots Q ws (tgt) (lv) (rest)) (kf : ¬ x ≤ y → kw_W p l e R s m args below meth c nL D cl A cells slots Q ws (pc + 3) (lv) (rest)) : kw_W p l e R s m args below meth c nL D cl A cells slots Q ws (pc) (lv) (.int y :: .int x :: rest) := fun H locs ls hP hD hS hl => lv_icmp_le X.1.1 X.1.2.1 d ht (fun z => kt z H locs ls hP hD hS hl) (fun z => kf z H locs ls hP hD hS hl)
theorem kw_goto (X : kw_X p s m args c cc nL own Ts D cl tys A) {off : Int} {tgt : Nat} (d : decode cc pc = .ok (.goto off, 3)) (ht : (pc : Int) + off = (tgt : Int)) (k : kw_W p l e R s m args below meth c nL D cl A cells slots Q ws (tgt) (lv) (rest)) : kw_W p l e R s m args below meth c nL D cl A cells slots Q ws (pc) (lv) (rest) := fun H locs ls hP hD hS hl => lv_goto X.1.1 X.1.2.1 d ht (k H locs ls hP hD hS hl)
theorem kw_tableOut (X : kw_X p s m args c cc nL own Ts D cl tys A) {dflt lo hi : Int} {offs : Array Int} {len : Nat} {x : Int32} {tgt : Nat} (d : decode cc pc = .ok (.tableswitch dflt lo hi offs, len)) (h : x.toInt < lo ∨ hi < x.toInt) (ht : (pc : Int) + dflt = (tgt : Int)) (k : kw_W p l e R s m args below meth c nL D cl A cells slots Q ws (tgt) (lv) (rest)) : kw_W p l e R s m args below meth c nL D cl A cells slots Q ws (pc) (lv) (.int x :: rest) := fun H locs ls hP hD hS hl => lv_tableOut X.1.1 X.1.2.1 d h ht (k H locs ls hP hD hS hl)
theorem kw_tableIn (X : kw_X p s m args c cc nL own Ts D cl tys A) {dflt lo hi : Int} {offs : Array Int} {len : Nat} {x : Int32} {off : Int} {tgt : Nat} (d : decode cc pc = .ok (.tableswitch dflt lo hi offs, len)) (h1 : ¬ x.toInt < lo) (h2 : ¬ hi < x.toInt) (ho : offs[(x.toInt - lo).toNat]? = some off) (ht : (pc : Int) + off = (tgt : Int)) (k : kw_W p l e R s m args below meth c nL D cl A cells slots Q ws (tgt) (lv) (rest)) : kw_W p l e R s m args below meth c nL D cl A cells slots Q ws (pc) (lv) (.int x :: rest) := fun H locs ls hP hD hS hl => lv_tableIn X.1.1 X.1.2.1 d h1 h2 ho ht (k H locs ls hP hD hS hl)
theorem kw_top {x y : Int32} (h : x = y) (k : kw_W p l e R s m args below meth c nL D cl A cells slots Q ws (pc) (lv) (.int y :: rest)) : kw_W p l e R s m args below meth c nL D cl A cells slots Q ws (pc) (lv) (.int x :: rest) := by rw [h]; exact k
theorem kw_cv {ws' : va_W} {lv' : List (Option Value)} {st st' : List Value} (hw : ws = ws') (hl : lv = lv') (hs : st = st') (k : kw_W p l e R s m args below meth c nL D cl A cells slots Q ws' (pc) (lv') (st')) : kw_W p l e R s m args below meth c nL D cl A cells slots Q ws (pc) (lv) (st) := by subst hw; subst hl; subst hs; exact k
theorem kw_kill (i : Nat) {st : List Value} (k : kw_W p l e R s m args below meth c nL D cl A cells slots Q ws (pc) (lv.set i none) (st)) : kw_W p l e R s m args below meth c nL D cl A cells slots Q ws (pc) (lv) (st) := fun H locs ls hP hD hS hl => k H locs ls hP hD hS (hl.kill i)
theorem kw_widen {k9 n9 : Nat} {st : List Value} (h1 : cells ≤ k9) (h2 : slots ≤ n9) (k : kw_W p l e R s m args below meth c nL D cl A k9 n9 Q ws (pc) (lv) (st)) : kw_W p l e R s m args below meth c nL D cl A cells slots Q ws (pc) (lv) (st) := fun H locs ls hP hD hS hl => W.widen h1 h2 (k H locs ls hP hD hS hl)
theorem kw_loop {α : Type} (I : α → Prop) (μ : α → Nat) (wf : α → va_W) (lf : α → List (Option Value)) (sf : α → List Value) (a0 : α) (h0 : I a0)
    (step : ∀ a, I a → (∀ b, I b → μ b < μ a → kw_W p l e R s m args below meth c nL D cl A cells slots Q (wf b) (pc) (lf b) (sf b)) → kw_W p l e R s m args below meth c nL D cl A cells slots Q (wf a) (pc) (lf a) (sf a)) : kw_W p l e R s m args below meth c nL D cl A cells slots Q (wf a0) (pc) (lf a0) (sf a0) := by
  have key : ∀ (n : Nat) (a : α), I a → μ a < n → kw_W p l e R s m args below meth c nL D cl A cells slots Q (wf a) (pc) (lf a) (sf a) := by
    intro n
    induction n with
    | zero => intro a _ h; exact absurd h (Nat.not_lt_zero _)
    | succ n ih => intro a ha h; exact step a ha (fun b hb hm => ih b hb (by omega))
  exact key (μ a0 + 1) a0 h0 (Nat.lt_succ_self _)
theorem kw_get (X : kw_X p s m args c cc nL own Ts D cl tys A) {ref C : String} {T : u_T} {N ci index a : Nat} {fs : List Value} {v : Value} (hin : ∀ w ∈ u_ws C T N, w ∈ Ts) (q0 : Nat) (he : ws[q0]? = some (a, .inr (ci, fs))) (hc : cl[ci]? = some (C, T, N)) (k : Nat) (hk : k < N) (hlink : Cond.fieldLink own index ref (T k).2.1 (T k).2.2.1 ∈ Ts) (hsame : ∀ x, s.fieldFound? (T k).1 (T k).2.1 (T k).2.2.1 = some x → s.fieldFound? ref (T k).2.1 (T k).2.2.1 = some x) (hv : fs[k]? = some v) (d : decode cc pc = .ok (.getfield index, 3)) (kk : kw_W p l e R s m args below meth c nL D cl A cells slots Q ws (pc + 3) (lv) (v :: rest)) : kw_W p l e R s m args below meth c nL D cl A cells slots Q ws (pc) (lv) (.ref a :: rest) := fun H locs ls hP hD hS hl => va_get X.1.1 X.1.2.1 X.1.2.2.2.2 hin X.1.2.2.2.1 X.2.1 hP q0 he hc k hk (X.1.2.2.2.2 _ hlink) hsame hv d (kk H locs ls hP hD hS hl)
theorem kw_getN (X : kw_X p s m args c cc nL own Ts D cl tys A) {ref C host : String} {T : u_T} {N ci index a : Nat} {fs : List Value} {v : Value} (hin : ∀ w ∈ u_ws C T N, w ∈ Ts) (q0 : Nat) (he : ws[q0]? = some (a, .inr (ci, fs))) (hc : cl[ci]? = some (C, T, N)) (k : Nat) (hk : k < N) (hlink : va_Nw (.fieldLinkNest own index ref (T k).2.1 (T k).2.2.1 host) s) (hsame : ∀ x, s.fieldFound? (T k).1 (T k).2.1 (T k).2.2.1 = some x → s.fieldFound? ref (T k).2.1 (T k).2.2.1 = some x) (hv : fs[k]? = some v) (d : decode cc pc = .ok (.getfield index, 3)) (kk : kw_W p l e R s m args below meth c nL D cl A cells slots Q ws (pc + 3) (lv) (v :: rest)) : kw_W p l e R s m args below meth c nL D cl A cells slots Q ws (pc) (lv) (.ref a :: rest) := fun H locs ls hP hD hS hl => va_getN X.1.1 X.1.2.1 X.1.2.2.2.2 hin X.1.2.2.2.1 X.2.1 hP q0 he hc k hk (va_Nw.use rfl hlink) hsame hv d (kk H locs ls hP hD hS hl)
theorem kw_putf (X : kw_X p s m args c cc nL own Ts D cl tys A) {ref C : String} {T : u_T} {N ci index a : Nat} {fs : List Value} {v : Value} {ty : FieldType} (hin : ∀ w ∈ u_ws C T N, w ∈ Ts) (ty0 : Nat → FieldType) (hty : ∀ k, k < N → parseFieldDescriptor (T k).2.2.1 = some (ty0 k)) (hnm : ∀ a, a < N → ∀ b, b < N → a ≠ b → (T a).2.1 ≠ (T b).2.1) (q0 : Nat) (he : ws[q0]? = some (a, .inr (ci, fs))) (hc : cl[ci]? = some (C, T, N)) (k : Nat) (hk : k < N) (hlink : Cond.fieldLink own index ref (T k).2.1 (T k).2.2.1 ∈ Ts) (hsame : ∀ x, s.fieldFound? (T k).1 (T k).2.1 (T k).2.2.1 = some x → s.fieldFound? ref (T k).2.1 (T k).2.2.1 = some x) (hfin : (T k).2.2.2 = false) (hd : parseFieldDescriptor (T k).2.2.1 = some ty) (hn : narrow ty v = v) (hfit : fits ty v = true) (hlt : k < fs.length) (d : decode cc pc = .ok (.putfield index, 3)) (kk : kw_W p l e R s m args below meth c nL D cl A cells slots Q (ws.set q0 (a, .inr (ci, fs.set k v))) (pc + 3) (lv) (rest)) : kw_W p l e R s m args below meth c nL D cl A cells slots Q ws (pc) (lv) (v :: .ref a :: rest) := fun H locs ls hP hD hS hl => va_put X.1.1 X.1.2.1 X.1.2.2.2.2 hin ty0 hty hnm X.1.2.2.2.1 X.2.1 hP hD hS q0 he hc k hk (X.1.2.2.2.2 _ hlink) hsame hfin hd hn hfit hlt d (fun H9 l9 hP9 hD9 hS9 => kk H9 l9 ls hP9 hD9 hS9 hl)
theorem kw_putF (X : kw_X p s m args c cc nL own Ts D cl tys A) {ref C : String} {T : u_T} {N ci index a : Nat} {fs : List Value} {v : Value} {ty : FieldType} (hin : ∀ w ∈ u_ws C T N, w ∈ Ts) (ty0 : Nat → FieldType) (hty : ∀ k, k < N → parseFieldDescriptor (T k).2.2.1 = some (ty0 k)) (hnm : ∀ a, a < N → ∀ b, b < N → a ≠ b → (T a).2.1 ≠ (T b).2.1) (q0 : Nat) (he : ws[q0]? = some (a, .inr (ci, fs))) (hc : cl[ci]? = some (C, T, N)) (k : Nat) (hk : k < N) (hlink : Cond.fieldLink own index ref (T k).2.1 (T k).2.2.1 ∈ Ts) (hsame : ∀ x, s.fieldFound? (T k).1 (T k).2.1 (T k).2.2.1 = some x → s.fieldFound? ref (T k).2.1 (T k).2.2.1 = some x) (hfin : (T k).2.2.2 = true) (hin2 : meth.name = "<init>") (hdecl : (T k).1 = own) (hd : parseFieldDescriptor (T k).2.2.1 = some ty) (hn : narrow ty v = v) (hfit : fits ty v = true) (hlt : k < fs.length) (d : decode cc pc = .ok (.putfield index, 3)) (kk : kw_W p l e R s m args below meth c nL D cl A cells slots Q (ws.set q0 (a, .inr (ci, fs.set k v))) (pc + 3) (lv) (rest)) : kw_W p l e R s m args below meth c nL D cl A cells slots Q ws (pc) (lv) (v :: .ref a :: rest) := fun H locs ls hP hD hS hl => va_putF X.1.1 X.1.2.1 X.1.2.2.2.2 hin ty0 hty hnm X.1.2.2.2.1 X.2.1 hP hD hS q0 he hc k hk (X.1.2.2.2.2 _ hlink) hsame hfin hin2 hdecl hd hn hfit hlt d (fun H9 l9 hP9 hD9 hS9 => kk H9 l9 ls hP9 hD9 hS9 hl)
theorem kw_iald (X : kw_X p s m args c cc nL own Ts D cl tys A) (q0 t0 : Nat) {cA : ClassId} {n a : Nat} {f : Nat → Int32} {i v : Int32} (ha : ws[q0]? = some (a, .inl (cA, n, .inl f))) (ht : tys[t0]? = some (cA, .int)) (hin : vp_in i n) (hv : f i.toNatClampNeg = v) (d : decode cc pc = .ok (.iaload, 1)) (kk : kw_W p l e R s m args below meth c nL D cl A cells slots Q ws (pc + 1) (lv) (.int v :: rest)) : kw_W p l e R s m args below meth c nL D cl A cells slots Q ws (pc) (lv) (.int i :: .ref a :: rest) := fun H locs ls hP hD hS hl => va_iald X.1.1 X.1.2.1 X.2.1 hP q0 t0 ha ht hin d (by rw [hv]; exact kk H locs ls hP hD hS hl)
theorem kw_bald (X : kw_X p s m args c cc nL own Ts D cl tys A) (q0 t0 : Nat) {cA : ClassId} {n a : Nat} {f : Nat → Int32} {i v : Int32} (ha : ws[q0]? = some (a, .inl (cA, n, .inl f))) (ht : tys[t0]? = some (cA, .byte)) (hin : vp_in i n) (hv : f i.toNatClampNeg = v) (d : decode cc pc = .ok (.baload, 1)) (kk : kw_W p l e R s m args below meth c nL D cl A cells slots Q ws (pc + 1) (lv) (.int v :: rest)) : kw_W p l e R s m args below meth c nL D cl A cells slots Q ws (pc) (lv) (.int i :: .ref a :: rest) := fun H locs ls hP hD hS hl => va_bald X.1.1 X.1.2.1 X.2.1 hP q0 t0 ha ht hin d (by rw [hv]; exact kk H locs ls hP hD hS hl)
theorem kw_cald (X : kw_X p s m args c cc nL own Ts D cl tys A) (q0 t0 : Nat) {cA : ClassId} {n a : Nat} {f : Nat → Int32} {i v : Int32} (ha : ws[q0]? = some (a, .inl (cA, n, .inl f))) (ht : tys[t0]? = some (cA, .char)) (hin : vp_in i n) (hv : f i.toNatClampNeg = v) (d : decode cc pc = .ok (.caload, 1)) (kk : kw_W p l e R s m args below meth c nL D cl A cells slots Q ws (pc + 1) (lv) (.int v :: rest)) : kw_W p l e R s m args below meth c nL D cl A cells slots Q ws (pc) (lv) (.int i :: .ref a :: rest) := fun H locs ls hP hD hS hl => va_cald X.1.1 X.1.2.1 X.2.1 hP q0 t0 ha ht hin d (by rw [hv]; exact kk H locs ls hP hD hS hl)
theorem kw_lald (X : kw_X p s m args c cc nL own Ts D cl tys A) (q0 t0 : Nat) {cA : ClassId} {n a : Nat} {f : Nat → Int64} {i : Int32} {v : Int64} (ha : ws[q0]? = some (a, .inl (cA, n, .inr (.inl f)))) (ht : tys[t0]? = some (cA, .long)) (hin : vp_in i n) (hv : f i.toNatClampNeg = v) (d : decode cc pc = .ok (.laload, 1)) (kk : kw_W p l e R s m args below meth c nL D cl A cells slots Q ws (pc + 1) (lv) (.long v :: rest)) : kw_W p l e R s m args below meth c nL D cl A cells slots Q ws (pc) (lv) (.int i :: .ref a :: rest) := fun H locs ls hP hD hS hl => va_lald X.1.1 X.1.2.1 X.2.1 hP q0 t0 ha ht hin d (by rw [hv]; exact kk H locs ls hP hD hS hl)
theorem kw_iast (X : kw_X p s m args c cc nL own Ts D cl tys A) (q0 t0 : Nat) {cA : ClassId} {n a : Nat} {f : Nat → Int32} {i x : Int32} (ha : ws[q0]? = some (a, .inl (cA, n, .inl f))) (ht : tys[t0]? = some (cA, .int)) (hin : vp_in i n) (d : decode cc pc = .ok (.iastore, 1)) (kk : kw_W p l e R s m args below meth c nL D cl A cells slots Q (ws.set q0 (a, .inl (cA, n, .inl (upd f i.toNatClampNeg x)))) (pc + 1) (lv) (rest)) : kw_W p l e R s m args below meth c nL D cl A cells slots Q ws (pc) (lv) (.int x :: .int i :: .ref a :: rest) := fun H locs ls hP hD hS hl => va_iast X.1.1 X.1.2.1 X.2.1 hP hD hS q0 t0 ha ht hin d (fun H9 l9 hP9 hD9 hS9 => kk H9 l9 ls hP9 hD9 hS9 hl)
theorem kw_bast (X : kw_X p s m args c cc nL own Ts D cl tys A) (q0 t0 : Nat) {cA : ClassId} {n a : Nat} {f : Nat → Int32} {i x : Int32} (ha : ws[q0]? = some (a, .inl (cA, n, .inl f))) (ht : tys[t0]? = some (cA, .byte)) (hin : vp_in i n) (d : decode cc pc = .ok (.bastore, 1)) (kk : kw_W p l e R s m args below meth c nL D cl A cells slots Q (ws.set q0 (a, .inl (cA, n, .inl (upd f i.toNatClampNeg (vp_nar .byte x))))) (pc + 1) (lv) (rest)) : kw_W p l e R s m args below meth c nL D cl A cells slots Q ws (pc) (lv) (.int x :: .int i :: .ref a :: rest) := fun H locs ls hP hD hS hl => va_bast X.1.1 X.1.2.1 X.2.1 hP hD hS q0 t0 ha ht hin d (fun H9 l9 hP9 hD9 hS9 => kk H9 l9 ls hP9 hD9 hS9 hl)
theorem kw_cast (X : kw_X p s m args c cc nL own Ts D cl tys A) (q0 t0 : Nat) {cA : ClassId} {n a : Nat} {f : Nat → Int32} {i x : Int32} (ha : ws[q0]? = some (a, .inl (cA, n, .inl f))) (ht : tys[t0]? = some (cA, .char)) (hin : vp_in i n) (d : decode cc pc = .ok (.castore, 1)) (kk : kw_W p l e R s m args below meth c nL D cl A cells slots Q (ws.set q0 (a, .inl (cA, n, .inl (upd f i.toNatClampNeg (vp_nar .char x))))) (pc + 1) (lv) (rest)) : kw_W p l e R s m args below meth c nL D cl A cells slots Q ws (pc) (lv) (.int x :: .int i :: .ref a :: rest) := fun H locs ls hP hD hS hl => va_cast X.1.1 X.1.2.1 X.2.1 hP hD hS q0 t0 ha ht hin d (fun H9 l9 hP9 hD9 hS9 => kk H9 l9 ls hP9 hD9 hS9 hl)
theorem kw_last (X : kw_X p s m args c cc nL own Ts D cl tys A) (q0 t0 : Nat) {cA : ClassId} {n a : Nat} {f : Nat → Int64} {i : Int32} {x : Int64} (ha : ws[q0]? = some (a, .inl (cA, n, .inr (.inl f)))) (ht : tys[t0]? = some (cA, .long)) (hin : vp_in i n) (d : decode cc pc = .ok (.lastore, 1)) (kk : kw_W p l e R s m args below meth c nL D cl A cells slots Q (ws.set q0 (a, .inl (cA, n, .inr (.inl (vp_updL f i.toNatClampNeg x))))) (pc + 1) (lv) (rest)) : kw_W p l e R s m args below meth c nL D cl A cells slots Q ws (pc) (lv) (.long x :: .int i :: .ref a :: rest) := fun H locs ls hP hD hS hl => va_last X.1.1 X.1.2.1 X.2.1 hP hD hS q0 t0 ha ht hin d (fun H9 l9 hP9 hD9 hS9 => kk H9 l9 ls hP9 hD9 hS9 hl)
theorem kw_alen (X : kw_X p s m args c cc nL own Ts D cl tys A) (q0 t0 : Nat) {cA : ClassId} {a : Nat} {x : vp_A} {ty : FieldType} {v : Int32} (ha : ws[q0]? = some (a, .inl (cA, x))) (ht : tys[t0]? = some (cA, ty)) (hv : Int32.ofNat x.1 = v) (d : decode cc pc = .ok (.arraylength, 1)) (kk : kw_W p l e R s m args below meth c nL D cl A cells slots Q ws (pc + 1) (lv) (.int v :: rest)) : kw_W p l e R s m args below meth c nL D cl A cells slots Q ws (pc) (lv) (.ref a :: rest) := fun H locs ls hP hD hS hl => va_alen X.1.1 X.1.2.1 X.2.1 hP q0 t0 ha ht hv d (kk H locs ls hP hD hS hl)
theorem kw_sld (X : kw_X p s m args c cc nL own Ts D cl tys A) {b L : Nat} {xs : Nat → Int32} {i v : Int32} (hX : va_X b L xs s s.heap) (hbl : b < s.heap.size) (hbA : ¬ A b) (hin : vp_in i L) (hv : xs i.toNatClampNeg = v) (d : decode cc pc = .ok (.iaload, 1)) (kk : kw_W p l e R s m args below meth c nL D cl A cells slots Q ws (pc + 1) (lv) (.int v :: rest)) : kw_W p l e R s m args below meth c nL D cl A cells slots Q ws (pc) (lv) (.int i :: .ref b :: rest) := fun H locs ls hP hD hS hl => va_sld X.1.1 X.1.2.1 hX hbl hbA hS hin d (by rw [hv]; exact kk H locs ls hP hD hS hl)
theorem kw_slen (X : kw_X p s m args c cc nL own Ts D cl tys A) {b L : Nat} {xs : Nat → Int32} (hX : va_X b L xs s s.heap) (hbl : b < s.heap.size) (hbA : ¬ A b) (d : decode cc pc = .ok (.arraylength, 1)) (kk : kw_W p l e R s m args below meth c nL D cl A cells slots Q ws (pc + 1) (lv) (.int (Int32.ofNat L) :: rest)) : kw_W p l e R s m args below meth c nL D cl A cells slots Q ws (pc) (lv) (.ref b :: rest) := fun H locs ls hP hD hS hl => va_slen X.1.1 X.1.2.1 hX hbl hbA hS d (kk H locs ls hP hD hS hl)
theorem kw_new (X : kw_X p s m args c cc nL own Ts D cl tys A) {C : String} {T : u_T} {N ci index : Nat} {fs : List Value} (hin : ∀ w ∈ u_ws C T N, w ∈ Ts) (ty : Nat → FieldType) (hty : ∀ k, k < N → parseFieldDescriptor (T k).2.2.1 = some (ty k)) (hcl : Cond.classLink own index C ∈ Ts) (hinst : Cond.instantiable C N ∈ Ts) (hini : Cond.initialized C ∈ Ts) (hc : cl[ci]? = some (C, T, N)) (hfs : ∀ j, j < N → defaultValue (ty j) = vp_V fs j) (hcells : cells + 1 ≤ R.cells) (hslots : slots + N ≤ R.slots) (d : decode cc pc = .ok (.new index, 3)) (kk : ∀ q : Nat, kw_W p l e R s m args below meth c nL D cl A (cells + 1) (slots + N) Q (ws ++ [(q, .inr (ci, fs))]) (pc + 3) (lv) (.ref q :: rest)) : kw_W p l e R s m args below meth c nL D cl A cells slots Q ws (pc) (lv) (rest) := fun H locs ls hP hD hS hl => va_new X.1.1 X.1.2.1 X.1.2.2.2.2 hin ty hty X.1.2.2.2.1 (X.1.2.2.2.2 _ hcl) (X.1.2.2.2.2 _ hinst) (X.1.2.2.2.2 _ hini) X.2.1 hP hD hS X.2.2 hc hfs hcells hslots d (fun q H9 hP9 hD9 hS9 => kk q H9 locs ls hP9 hD9 hS9 hl)
theorem kw_cls {U : State} {a b : ClassId} {t0 : Nat} {ty : FieldType} (hno : ∀ C, ty ≠ .object C) (h1 : va_K D cl tys U) (ht : tys[t0]? = some (a, ty)) (h2 : va_K D cl (tys ++ [(b, ty)]) U) : b = a := by
  have e1 := (h1.2 t0 _ ht).2
  have e2 := (h2.2 tys.length (b, ty) (by rw [List.getElem?_append_right (Nat.le_refl _)]; simp)).2
  cases ty with
  | object C => exact absurd rfl (hno C)
  | _ => exact Option.some.inj (e2.symm.trans e1)
theorem kw_newa (X : kw_X p s m args c cc nL own Ts D cl tys A) (t0 : Nat) {cA : ClassId} {atype : ArrayType} {ty : FieldType} {n : Int32} {N' : Nat} {a0 : vp_A} (ht : tys[t0]? = some (cA, ty)) (hno : ∀ C, ty ≠ .object C) (harr : Cond.arrayClass (newarray.typeOf atype) ∈ Ts) (hty : newarray.typeOf atype = ty) (ha : ∀ cA : ClassId, vp_cell cA a0 = arrV cA N' (fun _ => defaultValue ty)) (hn : ¬ n < 0) (hN : n.toNatClampNeg = N') (hbytes : N' * componentBytes ty ≤ 536870912) (hcells : cells + 1 ≤ R.cells) (hslots : slots + N' ≤ R.slots) (d : decode cc pc = .ok (.newarray atype, 2)) (kk : ∀ q : Nat, kw_W p l e R s m args below meth c nL D cl A (cells + 1) (slots + N') Q (ws ++ [(q, .inl (cA, a0))]) (pc + 2) (lv) (.ref q :: rest)) : kw_W p l e R s m args below meth c nL D cl A cells slots Q ws (pc) (lv) (.int n :: rest) := fun H locs ls hP hD hS hl => va_newa X.1.1 X.1.2.1 (X.1.2.2.2.2 _ harr) hty X.2.1 hP hD hS X.2.2 ha hn hN hbytes hcells hslots d (fun q cB H9 hK9 hP9 hD9 hS9 => by
    have e9 := kw_cls hno X.2.1 ht hK9
    subst e9
    exact kk q H9 locs ls hP9 hD9 hS9 hl)
theorem kw_objInit (X : kw_X p s m args c cc nL own Ts D cl tys A) {idx a : Nat} (hlink : Cond.methodLink own idx Lib.objectInit ∈ Ts) (hinst : Cond.instanceMethod Lib.objectInit ∈ Ts) (hcode : Cond.code Lib.objectInit ⟨#[0xb1]⟩ 1 none ∈ Ts) (d : decode cc pc = .ok (.invokespecial idx, 3)) (hframes : 1 ≤ R.frames) (hlocals : (rest.map fun v => v.category).sum + 12 ≤ R.locals) (k : kw_W p l e R s m args below meth c nL D cl A cells slots Q ws (pc + 3) (lv) (rest)) : kw_W p l e R s m args below meth c nL D cl A cells slots Q ws (pc) (lv) (.ref a :: rest) := fun H locs ls hP hD hS hl => W.objInit X.1.1 X.1.2.1 X.1.2.2.2.1 (X.1.2.2.2.2 _ hlink) (X.1.2.2.2.2 _ hinst) (X.1.2.2.2.2 _ hcode) rfl (hl.1.1.trans X.1.2.2.1.symm) rfl d hframes (by simpa using hlocals) (k H locs ls hP hD hS hl)
-- MATH max
-- MATH min
/-- the world behind a call, as a contract says it -/
def kw_B (D : va_G) (cl : List vw_C) (tys : List (ClassId × FieldType)) (A : Nat → Prop) : va_W → State → Prop := fun w t => va_P D cl w t.heap ∧ va_K D cl tys t ∧ va_D A w
theorem kw_iret (X : kw_X p s m args c cc nL own Ts D cl tys A) {post : Int32 → va_W → Prop} {v : Int32} (hr : meth.sig.returnType = some .int) (hlocks : meth.locks = false) (d : decode cc pc = .ok (.ireturn, 1)) (hp : post v ws) : kw_W p l e R s m args below meth c nL D cl A cells slots (MQ below (va_Qi post (kw_B D cl tys A) A) args s cells slots A) ws (pc) (lv) ([.int v]) := fun H locs ls hP hD hS hl => W.iret X.1.1 X.1.2.1 hr (fun t ht hW => ⟨⟨v, ws, rfl, hp, by rw [ht]; exact hP, va_K.moved hW.alike X.2.1, hD⟩, hS.F ht⟩) hS.2.2 d hlocks
theorem kw_zret (X : kw_X p s m args c cc nL own Ts D cl tys A) {post : Int32 → va_W → Prop} {v : Int32} {ty : FieldType} (hr : meth.sig.returnType = some ty) (hlocks : meth.locks = false) (hn : narrow ty (.int v) = .int v) (d : decode cc pc = .ok (.ireturn, 1)) (hp : post v ws) : kw_W p l e R s m args below meth c nL D cl A cells slots (MQ below (va_Qi post (kw_B D cl tys A) A) args s cells slots A) ws (pc) (lv) ([.int v]) := fun H locs ls hP hD hS hl => W.zret X.1.1 X.1.2.1 hr hn (fun t ht hW => ⟨⟨v, ws, rfl, hp, by rw [ht]; exact hP, va_K.moved hW.alike X.2.1, hD⟩, hS.F ht⟩) hS.2.2 d hlocks
theorem kw_vret (X : kw_X p s m args c cc nL own Ts D cl tys A) {post : va_W → Prop} (hr : meth.sig.returnType = none) (hlocks : meth.locks = false) (d : decode cc pc = .ok (.return_, 1)) (hp : post ws) : kw_W p l e R s m args below meth c nL D cl A cells slots (MQ below (va_Qv post (kw_B D cl tys A) A) args s cells slots A) ws (pc) (lv) ([]) := fun H locs ls hP hD hS hl => W.vret X.1.1 X.1.2.1 hr (fun t ht hW => ⟨⟨ws, rfl, hp, by rw [ht]; exact hP, va_K.moved hW.alike X.2.1, hD⟩, hS.F ht⟩) hS.2.2 d hlocks
end KWA
end
section
/-! contracts over worlds, and calls -/
/-- words that the tables say and that aren't carried by the lists: links across a nest, abstract declarations -/
def kw_En (bad : List Cond) (U : State) : Prop := ∀ w ∈ bad, va_Nw w U
def kw_nest : Cond → Bool
  | .fieldLinkNest .. => true
  | .methodLinkNest .. => true
  | .declares .. => true
  | _ => false
theorem kw_En.warm {bad : List Cond} (h : bad.all kw_nest = true) {s U : State} (hW : s.WarmedH U.vm) (hE : kw_En bad s) : kw_En bad U := fun w hw => by
  have h1 := List.all_eq_true.mp h w hw
  have h2 := hE w hw
  cases w <;> first | (simp [kw_nest] at h1; done) | exact va_Nw.warmF hW h2 | exact va_Nw.warmM hW h2 | exact va_Nw.warmD hW h2
def kw_Pc (D : va_G) (cl : List vw_C) (tys : List (ClassId × FieldType)) (E : State → Prop) (as : List Value) (wc : va_W) (sz : Nat) : Array Value → State → Prop :=
  va_Pc as (fun U => U.heap.size = sz ∧ va_P D cl wc U.heap ∧ va_K D cl tys U ∧ va_D (fun _ => True) wc ∧ E U)
/-- a method that answers an int: from the world wc, post of the answer and the world behind -/
def kw_I (l : Launch) (y : MethodName) (yw : List Cond) (rm : Room) (D : va_G) (cl : List vw_C) (tys : List (ClassId × FieldType)) (E : State → Prop) (as : List Value) (wc : va_W) (post : Int32 → va_W → Prop) (mc ms : Nat) : Prop :=
  ∀ sz : Nat, Met l y yw rm (kw_Pc D cl tys E as wc sz) (va_Qi post (kw_B D cl tys (va_A wc sz)) (va_A wc sz)) mc ms (va_A wc sz)
def kw_V (l : Launch) (y : MethodName) (yw : List Cond) (rm : Room) (D : va_G) (cl : List vw_C) (tys : List (ClassId × FieldType)) (E : State → Prop) (as : List Value) (wc : va_W) (post : va_W → Prop) (mc ms : Nat) : Prop :=
  ∀ sz : Nat, Met l y yw rm (kw_Pc D cl tys E as wc sz) (va_Qv post (kw_B D cl tys (va_A wc sz)) (va_A wc sz)) mc ms (va_A wc sz)
theorem kw_ofI {l : Launch} {y : MethodName} {yw yw' : List Cond} {rm : Room} {D : va_G} {cl : List vw_C} {tys : List (ClassId × FieldType)} {E : State → Prop} {as : List Value} {wc : va_W} {post : Int32 → va_W → Prop} {mc ms : Nat} {cc : ByteArray} {maxL : Nat} {ty : FieldType} (hy : plainName y.cls = true) (hw : yw = Cond.code y cc maxL (some ty) :: yw') (hlen : (lg_sl as).length ≤ maxL) (hcat : as.all (fun w => w.category == 1) = true)
    (body : ∀ (p : Program) (e : Env) (s : State) (m : MethodId) (args : Array Value) (below : List Frame) (meth : Method) (c : Code) (A : Nat → Prop), kw_X p s m args c cc maxL y.cls yw D cl tys A → meth.sig.returnType = (some ty) → meth.locks = false → E s → meth.name = y.name →
      kw_W p l e rm s m args below meth c maxL D cl A 0 0 (MQ below (va_Qi post (kw_B D cl tys A) A) args s mc ms A) wc 0 (as.map some ++ List.replicate (maxL - as.length) none) []) : kw_I l y yw rm D cl tys E as wc post mc ms := by
  intro sz
  refine Met.ofW (cc := cc) (maxL := maxL) (ret := (some ty)) hy hw ?_
  intro p e s m args below meth c s₁ B hml hv
  obtain ⟨rfl, hsz, hP, hK, hD0, hE⟩ := hv
  subst hsz
  rw [lg_entry_eq]
  exact body p e s m _ below meth c (va_A wc s.heap.size) ⟨⟨B.exec, B.bytes, hml, findClass_of_methodNamed B.named, atoms_spec (ws := yw) B.pre⟩, hK, fun q h => Or.inr h⟩ B.returns B.notSynchronized hE (name_of_methodNamed B.named B.method).1 s.heap [] _ hP hD0.self va_S.rf (kw_entry as hlen (fun w hw => by have h9 := List.all_eq_true.mp hcat w hw; simpa using h9))
theorem kw_ofV {l : Launch} {y : MethodName} {yw yw' : List Cond} {rm : Room} {D : va_G} {cl : List vw_C} {tys : List (ClassId × FieldType)} {E : State → Prop} {as : List Value} {wc : va_W} {post : va_W → Prop} {mc ms : Nat} {cc : ByteArray} {maxL : Nat} (hy : plainName y.cls = true) (hw : yw = Cond.code y cc maxL none :: yw') (hlen : (lg_sl as).length ≤ maxL) (hcat : as.all (fun w => w.category == 1) = true)
    (body : ∀ (p : Program) (e : Env) (s : State) (m : MethodId) (args : Array Value) (below : List Frame) (meth : Method) (c : Code) (A : Nat → Prop), kw_X p s m args c cc maxL y.cls yw D cl tys A → meth.sig.returnType = none → meth.locks = false → E s → meth.name = y.name →
      kw_W p l e rm s m args below meth c maxL D cl A 0 0 (MQ below (va_Qv post (kw_B D cl tys A) A) args s mc ms A) wc 0 (as.map some ++ List.replicate (maxL - as.length) none) []) : kw_V l y yw rm D cl tys E as wc post mc ms := by
  intro sz
  refine Met.ofW (cc := cc) (maxL := maxL) (ret := none) hy hw ?_
  intro p e s m args below meth c s₁ B hml hv
  obtain ⟨rfl, hsz, hP, hK, hD0, hE⟩ := hv
  subst hsz
  rw [lg_entry_eq]
  exact body p e s m _ below meth c (va_A wc s.heap.size) ⟨⟨B.exec, B.bytes, hml, findClass_of_methodNamed B.named, atoms_spec (ws := yw) B.pre⟩, hK, fun q h => Or.inr h⟩ B.returns B.notSynchronized hE (name_of_methodNamed B.named B.method).1 s.heap [] _ hP hD0.self va_S.rf (kw_entry as hlen (fun w hw => by have h9 := List.all_eq_true.mp hcat w hw; simpa using h9))
theorem kw_fm {α β : Type} (f : α → Option β) : ∀ (is : List α) (wc : List β), is.map f = wc.map some → is.filterMap f = wc := by
  intro is
  induction is with
  | nil => intro wc h; cases wc <;> simp_all
  | cons i is ih =>
    intro wc h
    cases wc with
    | nil => simp at h
    | cons q wc =>
      simp only [List.map_cons, List.cons.injEq] at h
      rw [List.filterMap_cons, h.1, ih wc h.2]
section KWC
variable {p : Program} {l : Launch} {e : Env} {R : Room} {s : State} {m : MethodId} {args : Array Value} {below : List Frame} {meth : Method} {c : Code} {cells slots : Nat} {Q : State → Prop}
variable {cc : ByteArray} {nL : Nat} {own : String} {Ts : List Cond} {D : va_G} {cl : List vw_C} {tys : List (ClassId × FieldType)} {A : Nat → Prop}
variable {ws wc : va_W} {pc : Nat} {lv : List (Option Value)} {rest st0 : List Value} {E : State → Prop} {as : List Value}
theorem kw_preS (hK : va_K D cl tys s) (hEw : ∀ s U : State, s.WarmedH U.vm → E s → E U) (hE : E s) {H : Heap} (hP : va_P D cl ws H) (hD : va_D A ws) (isC : List Nat) (hC : isC.map (fun i => ws[i]?) = wc.map some) (hnd : va_nd isC = true) : PreS s H (kw_Pc D cl tys E as wc H.size) as := by
  have hPc := hP.sub (ws' := wc) isC (kw_fm _ _ _ hC)
  have hDc := hD.sub (ws' := wc) isC hnd hC
  exact ⟨fun a U g mk q => by
    obtain ⟨q0, q1, qP, qK, qD, qE⟩ := q
    exact ⟨q0, q1, qP, va_K.moved (u := U) (U := U.calling g mk a) (Vm.Alike.refl U.vm) qK, qD, hEw U (U.calling g mk a) (State.WarmedH.refl U) qE⟩,
   fun U hU hW => ⟨rfl, by rw [hU], by rw [hU]; exact hPc, va_K.moved hW.alike hK, hDc.weaken (fun _ _ _ _ => trivial), hEw s U hW hE⟩⟩
theorem kw_fini (X : kw_X p s m args c cc nL own Ts D cl tys A) {post : Int32 → va_W → Prop} {mc ms : Nat} {a : Array Value} (isC : List Nat) (hC : isC.map (fun i => ws[i]?) = wc.map some) (hlen : ∀ (r : Int32) (w : va_W), post r w → isC.length ≤ w.length)
    (hr : ∀ (H : Heap) (locs : List Loc) (ls : Array Slot), va_P D cl ws H → va_D A ws → kw_has ls nL lv → va_Run p l e R s m args below meth c H locs cells slots mc ms (F0 m pc ls st0) rest (va_Qi post (kw_B D cl tys (va_A wc H.size)) (va_A wc H.size) a) (va_A wc H.size))
    (kk : ∀ (r : Int32) (w1 : va_W), post r w1 → kw_W p l e R s m args below meth c nL D cl A (cells + mc) (slots + ms) Q (kw_put ws isC w1) (pc + 3) (lv) (.int r :: rest)) : kw_W p l e R s m args below meth c nL D cl A cells slots Q ws (pc) (lv) (st0) := fun H locs ls hP hD hS hl => by
  have hF := va_free (wc := wc) hD hS X.2.2 isC hC
  refine va_calli (hr H locs ls hP hD hl) hS (fun q _ h => hF q h) hF (fun r u t H1 locs1 ht hvm hp hB hz hk hS1 => ?_)
  obtain ⟨hP1, hK1, hD1⟩ := hB
  rw [ht] at hP1
  obtain ⟨hP2, hD2⟩ := kw_join hP hD isC hC (hlen r u hp) hk hF hP1 hD1
  exact kk r u hp H1 locs1 ls hP2 hD2 hS1 hl
theorem kw_finv (X : kw_X p s m args c cc nL own Ts D cl tys A) {post : va_W → Prop} {mc ms : Nat} {a : Array Value} (isC : List Nat) (hC : isC.map (fun i => ws[i]?) = wc.map some) (hlen : ∀ w : va_W, post w → isC.length ≤ w.length)
    (hr : ∀ (H : Heap) (locs : List Loc) (ls : Array Slot), va_P D cl ws H → va_D A ws → kw_has ls nL lv → va_Run p l e R s m args below meth c H locs cells slots mc ms (F0 m pc ls st0) rest (va_Qv post (kw_B D cl tys (va_A wc H.size)) (va_A wc H.size) a) (va_A wc H.size))
    (kk : ∀ (w1 : va_W), post w1 → kw_W p l e R s m args below meth c nL D cl A (cells + mc) (slots + ms) Q (kw_put ws isC w1) (pc + 3) (lv) (rest)) : kw_W p l e R s m args below meth c nL D cl A cells slots Q ws (pc) (lv) (st0) := fun H locs ls hP hD hS hl => by
  have hF := va_free (wc := wc) hD hS X.2.2 isC hC
  refine va_callv (hr H locs ls hP hD hl) hS (fun q _ h => hF q h) hF (fun u t H1 locs1 ht hvm hp hB hz hk hS1 => ?_)
  obtain ⟨hP1, hK1, hD1⟩ := hB
  rw [ht] at hP1
  obtain ⟨hP2, hD2⟩ := kw_join hP hD isC hC (hlen u hp) hk hF hP1 hD1
  exact kk u hp H1 locs1 ls hP2 hD2 hS1 hl
theorem kw_room {m : MethodId} {pc : Nat} {ls : Array Slot} {st rest : List Value} (h : (rest.map fun v => v.category).sum ≤ 8) : 2 * (F0 m pc ls st).monitorRoom + (rest.map fun v => v.category).sum ≤ 8 := by show 2 * 0 + _ ≤ 8; omega
theorem kw_callVI (X : kw_X p s m args c cc nL own Ts D cl tys A) (hEw : ∀ s U : State, s.WarmedH U.vm → E s → E U) (hE : E s) {y : MethodName} {bytes : ByteArray} {maxL mc ms n index : Nat} {yw : List Cond} {rm : Room} {ret : Option FieldType} {As : List Value} {post : Int32 → va_W → Prop} (q0 : Nat) {b ci : Nat} {fs : List Value} {C : String} {T : u_T} {N : Nat} (he : wc[q0]? = some (b, .inr (ci, fs))) (hc : cl[ci]? = some (C, T, N)) (hM : kw_I l y yw rm D cl tys E (.ref b :: As) wc post mc ms) (cw : CallW R s args own C index y bytes maxL ret yw rm mc ms n) (isC : List Nat) (hC : isC.map (fun i => ws[i]?) = wc.map some) (hnd : va_nd isC = true) (hlen : ∀ (r : Int32) (w : va_W), post r w → isC.length ≤ w.length) (hn : As.length = n) (hst : st0 = As.reverse ++ .ref b :: rest) (hW : (rest.map fun v => v.category).sum ≤ 8) (d : decode cc pc = .ok (.invokevirtual index, 3)) (hf : cells + mc ≤ R.cells ∧ slots + ms ≤ R.slots)
    (kk : ∀ (r : Int32) (w1 : va_W), post r w1 → kw_W p l e R s m args below meth c nL D cl A (cells + mc) (slots + ms) Q (kw_put ws isC w1) (pc + 3) (lv) (.int r :: rest)) : kw_W p l e R s m args below meth c nL D cl A cells slots Q ws (pc) (lv) (st0) :=
  kw_fini X isC hC hlen (fun H locs ls hP hD hl => by
    have hp := kw_preS (as := .ref b :: As) X.2.1 hEw hE hP hD isC hC hnd
    exact va_runV X.1 (hM H.size) cw ⟨hp.1, va_recv X.2.1 (hP.sub (ws' := wc) isC (kw_fm _ _ _ hC)) hc he, hp.2⟩ rfl hn hl.1.1 hst (kw_room hW) d hf) kk
theorem kw_callUI (X : kw_X p s m args c cc nL own Ts D cl tys A) (hEw : ∀ s U : State, s.WarmedH U.vm → E s → E U) (hE : E s) {y : MethodName} {bytes : ByteArray} {maxL mc ms n index : Nat} {yw : List Cond} {rm : Room} {ret : Option FieldType} {owner : String} {x : MethodName} {As : List Value} {post : Int32 → va_W → Prop} (q0 : Nat) {b ci : Nat} {fs : List Value} {C : String} {T : u_T} {N : Nat} (he : wc[q0]? = some (b, .inr (ci, fs))) (hc : cl[ci]? = some (C, T, N)) (hM : kw_I l y yw rm D cl tys E (.ref b :: As) wc post mc ms) (cw : va_CU R s args own C owner index x y bytes maxL ret yw rm mc ms n) (isC : List Nat) (hC : isC.map (fun i => ws[i]?) = wc.map some) (hnd : va_nd isC = true) (hlen : ∀ (r : Int32) (w : va_W), post r w → isC.length ≤ w.length) (hn : As.length = n) (hst : st0 = As.reverse ++ .ref b :: rest) (hW : (rest.map fun v => v.category).sum ≤ 8) (d : decode cc pc = .ok (.invokevirtual index, 3)) (hf : cells + mc ≤ R.cells ∧ slots + ms ≤ R.slots)
    (kk : ∀ (r : Int32) (w1 : va_W), post r w1 → kw_W p l e R s m args below meth c nL D cl A (cells + mc) (slots + ms) Q (kw_put ws isC w1) (pc + 3) (lv) (.int r :: rest)) : kw_W p l e R s m args below meth c nL D cl A cells slots Q ws (pc) (lv) (st0) :=
  kw_fini X isC hC hlen (fun H locs ls hP hD hl => by
    have hp := kw_preS (as := .ref b :: As) X.2.1 hEw hE hP hD isC hC hnd
    exact va_runU X.1 (hM H.size) cw ⟨hp.1, va_recv X.2.1 (hP.sub (ws' := wc) isC (kw_fm _ _ _ hC)) hc he, hp.2⟩ rfl hn hl.1.1 hst (kw_room hW) d hf) kk
theorem kw_callVNI (X : kw_X p s m args c cc nL own Ts D cl tys A) (hEw : ∀ s U : State, s.WarmedH U.vm → E s → E U) (hE : E s) {y : MethodName} {bytes : ByteArray} {maxL mc ms n index : Nat} {yw : List Cond} {rm : Room} {ret : Option FieldType} {host : String} {As : List Value} {post : Int32 → va_W → Prop} (q0 : Nat) {b ci : Nat} {fs : List Value} {C : String} {T : u_T} {N : Nat} (he : wc[q0]? = some (b, .inr (ci, fs))) (hc : cl[ci]? = some (C, T, N)) (hM : kw_I l y yw rm D cl tys E (.ref b :: As) wc post mc ms) (cw : va_CN R s args own index y host bytes maxL ret yw rm mc ms n ∧ (Cond.instanceMethod y).before args s = true ∧ (Cond.selects C y y).before args s = true) (isC : List Nat) (hC : isC.map (fun i => ws[i]?) = wc.map some) (hnd : va_nd isC = true) (hlen : ∀ (r : Int32) (w : va_W), post r w → isC.length ≤ w.length) (hn : As.length = n) (hst : st0 = As.reverse ++ .ref b :: rest) (hW : (rest.map fun v => v.category).sum ≤ 8) (d : decode cc pc = .ok (.invokevirtual index, 3)) (hf : cells + mc ≤ R.cells ∧ slots + ms ≤ R.slots)
    (kk : ∀ (r : Int32) (w1 : va_W), post r w1 → kw_W p l e R s m args below meth c nL D cl A (cells + mc) (slots + ms) Q (kw_put ws isC w1) (pc + 3) (lv) (.int r :: rest)) : kw_W p l e R s m args below meth c nL D cl A cells slots Q ws (pc) (lv) (st0) :=
  kw_fini X isC hC hlen (fun H locs ls hP hD hl => by
    have hp := kw_preS (as := .ref b :: As) X.2.1 hEw hE hP hD isC hC hnd
    exact va_runVN X.1 (hM H.size) cw ⟨hp.1, va_recv X.2.1 (hP.sub (ws' := wc) isC (kw_fm _ _ _ hC)) hc he, hp.2⟩ rfl hn hl.1.1 hst (kw_room hW) d hf) kk
theorem kw_callSI (X : kw_X p s m args c cc nL own Ts D cl tys A) (hEw : ∀ s U : State, s.WarmedH U.vm → E s → E U) (hE : E s) {y : MethodName} {bytes : ByteArray} {maxL mc ms n index : Nat} {yw : List Cond} {rm : Room} {ret : Option FieldType} {As : List Value} {post : Int32 → va_W → Prop} (hM : kw_I l y yw rm D cl tys E As wc post mc ms) (cw : CallB R s args own index y bytes maxL ret yw rm mc ms n ∧ (Cond.static y).before args s = true) (isC : List Nat) (hC : isC.map (fun i => ws[i]?) = wc.map some) (hnd : va_nd isC = true) (hlen : ∀ (r : Int32) (w : va_W), post r w → isC.length ≤ w.length) (hn : As.length = n) (hst : st0 = As.reverse ++ rest) (hW : (rest.map fun v => v.category).sum ≤ 8) (d : decode cc pc = .ok (.invokestatic index, 3)) (hf : cells + mc ≤ R.cells ∧ slots + ms ≤ R.slots)
    (kk : ∀ (r : Int32) (w1 : va_W), post r w1 → kw_W p l e R s m args below meth c nL D cl A (cells + mc) (slots + ms) Q (kw_put ws isC w1) (pc + 3) (lv) (.int r :: rest)) : kw_W p l e R s m args below meth c nL D cl A cells slots Q ws (pc) (lv) (st0) :=
  kw_fini X isC hC hlen (fun H locs ls hP hD hl => va_runS X.1 (hM H.size) cw (kw_preS (as := As) X.2.1 hEw hE hP hD isC hC hnd) rfl hn hl.1.1 hst (kw_room hW) d hf) kk
theorem kw_callSNI (X : kw_X p s m args c cc nL own Ts D cl tys A) (hEw : ∀ s U : State, s.WarmedH U.vm → E s → E U) (hE : E s) {y : MethodName} {bytes : ByteArray} {maxL mc ms n index : Nat} {yw : List Cond} {rm : Room} {ret : Option FieldType} {host : String} {As : List Value} {post : Int32 → va_W → Prop} (hM : kw_I l y yw rm D cl tys E As wc post mc ms) (cw : va_CN R s args own index y host bytes maxL ret yw rm mc ms n ∧ (Cond.static y).before args s = true ∧ True) (isC : List Nat) (hC : isC.map (fun i => ws[i]?) = wc.map some) (hnd : va_nd isC = true) (hlen : ∀ (r : Int32) (w : va_W), post r w → isC.length ≤ w.length) (hn : As.length = n) (hst : st0 = As.reverse ++ rest) (hW : (rest.map fun v => v.category).sum ≤ 8) (d : decode cc pc = .ok (.invokestatic index, 3)) (hf : cells + mc ≤ R.cells ∧ slots + ms ≤ R.slots)
    (kk : ∀ (r : Int32) (w1 : va_W), post r w1 → kw_W p l e R s m args below meth c nL D cl A (cells + mc) (slots + ms) Q (kw_put ws isC w1) (pc + 3) (lv) (.int r :: rest)) : kw_W p l e R s m args below meth c nL D cl A cells slots Q ws (pc) (lv) (st0) :=
  kw_fini X isC hC hlen (fun H locs ls hP hD hl => va_runSN X.1 (hM H.size) cw (kw_preS (as := As) X.2.1 hEw hE hP hD isC hC hnd) rfl hn hl.1.1 hst (kw_room hW) d hf) kk
theorem kw_callVV (X : kw_X p s m args c cc nL own Ts D cl tys A) (hEw : ∀ s U : State, s.WarmedH U.vm → E s → E U) (hE : E s) {y : MethodName} {bytes : ByteArray} {maxL mc ms n index : Nat} {yw : List Cond} {rm : Room} {ret : Option FieldType} {As : List Value} {post : va_W → Prop} (q0 : Nat) {b ci : Nat} {fs : List Value} {C : String} {T : u_T} {N : Nat} (he : wc[q0]? = some (b, .inr (ci, fs))) (hc : cl[ci]? = some (C, T, N)) (hM : kw_V l y yw rm D cl tys E (.ref b :: As) wc post mc ms) (cw : CallW R s args own C index y bytes maxL ret yw rm mc ms n) (isC : List Nat) (hC : isC.map (fun i => ws[i]?) = wc.map some) (hnd : va_nd isC = true) (hlen : ∀ w : va_W, post w → isC.length ≤ w.length) (hn : As.length = n) (hst : st0 = As.reverse ++ .ref b :: rest) (hW : (rest.map fun v => v.category).sum ≤ 8) (d : decode cc pc = .ok (.invokevirtual index, 3)) (hf : cells + mc ≤ R.cells ∧ slots + ms ≤ R.slots)
    (kk : ∀ (w1 : va_W), post w1 → kw_W p l e R s m args below meth c nL D cl A (cells + mc) (slots + ms) Q (kw_put ws isC w1) (pc + 3) (lv) (rest)) : kw_W p l e R s m args below meth c nL D cl A cells slots Q ws (pc) (lv) (st0) :=
  kw_finv X isC hC hlen (fun H locs ls hP hD hl => by
    have hp := kw_preS (as := .ref b :: As) X.2.1 hEw hE hP hD isC hC hnd
    exact va_runV X.1 (hM H.size) cw ⟨hp.1, va_recv X.2.1 (hP.sub (ws' := wc) isC (kw_fm _ _ _ hC)) hc he, hp.2⟩ rfl hn hl.1.1 hst (kw_room hW) d hf) kk
theorem kw_callUV (X : kw_X p s m args c cc nL own Ts D cl tys A) (hEw : ∀ s U : State, s.WarmedH U.vm → E s → E U) (hE : E s) {y : MethodName} {bytes : ByteArray} {maxL mc ms n index : Nat} {yw : List Cond} {rm : Room} {ret : Option FieldType} {owner : String} {x : MethodName} {As : List Value} {post : va_W → Prop} (q0 : Nat) {b ci : Nat} {fs : List Value} {C : String} {T : u_T} {N : Nat} (he : wc[q0]? = some (b, .inr (ci, fs))) (hc : cl[ci]? = some (C, T, N)) (hM : kw_V l y yw rm D cl tys E (.ref b :: As) wc post mc ms) (cw : va_CU R s args own C owner index x y bytes maxL ret yw rm mc ms n) (isC : List Nat) (hC : isC.map (fun i => ws[i]?) = wc.map some) (hnd : va_nd isC = true) (hlen : ∀ w : va_W, post w → isC.length ≤ w.length) (hn : As.length = n) (hst : st0 = As.reverse ++ .ref b :: rest) (hW : (rest.map fun v => v.category).sum ≤ 8) (d : decode cc pc = .ok (.invokevirtual index, 3)) (hf : cells + mc ≤ R.cells ∧ slots + ms ≤ R.slots)
    (kk : ∀ (w1 : va_W), post w1 → kw_W p l e R s m args below meth c nL D cl A (cells + mc) (slots + ms) Q (kw_put ws isC w1) (pc + 3) (lv) (rest)) : kw_W p l e R s m args below meth c nL D cl A cells slots Q ws (pc) (lv) (st0) :=
  kw_finv X isC hC hlen (fun H locs ls hP hD hl => by
    have hp := kw_preS (as := .ref b :: As) X.2.1 hEw hE hP hD isC hC hnd
    exact va_runU X.1 (hM H.size) cw ⟨hp.1, va_recv X.2.1 (hP.sub (ws' := wc) isC (kw_fm _ _ _ hC)) hc he, hp.2⟩ rfl hn hl.1.1 hst (kw_room hW) d hf) kk
theorem kw_callVNV (X : kw_X p s m args c cc nL own Ts D cl tys A) (hEw : ∀ s U : State, s.WarmedH U.vm → E s → E U) (hE : E s) {y : MethodName} {bytes : ByteArray} {maxL mc ms n index : Nat} {yw : List Cond} {rm : Room} {ret : Option FieldType} {host : String} {As : List Value} {post : va_W → Prop} (q0 : Nat) {b ci : Nat} {fs : List Value} {C : String} {T : u_T} {N : Nat} (he : wc[q0]? = some (b, .inr (ci, fs))) (hc : cl[ci]? = some (C, T, N)) (hM : kw_V l y yw rm D cl tys E (.ref b :: As) wc post mc ms) (cw : va_CN R s args own index y host bytes maxL ret yw rm mc ms n ∧ (Cond.instanceMethod y).before args s = true ∧ (Cond.selects C y y).before args s = true) (isC : List Nat) (hC : isC.map (fun i => ws[i]?) = wc.map some) (hnd : va_nd isC = true) (hlen : ∀ w : va_W, post w → isC.length ≤ w.length) (hn : As.length = n) (hst : st0 = As.reverse ++ .ref b :: rest) (hW : (rest.map fun v => v.category).sum ≤ 8) (d : decode cc pc = .ok (.invokevirtual index, 3)) (hf : cells + mc ≤ R.cells ∧ slots + ms ≤ R.slots)
    (kk : ∀ (w1 : va_W), post w1 → kw_W p l e R s m args below meth c nL D cl A (cells + mc) (slots + ms) Q (kw_put ws isC w1) (pc + 3) (lv) (rest)) : kw_W p l e R s m args below meth c nL D cl A cells slots Q ws (pc) (lv) (st0) :=
  kw_finv X isC hC hlen (fun H locs ls hP hD hl => by
    have hp := kw_preS (as := .ref b :: As) X.2.1 hEw hE hP hD isC hC hnd
    exact va_runVN X.1 (hM H.size) cw ⟨hp.1, va_recv X.2.1 (hP.sub (ws' := wc) isC (kw_fm _ _ _ hC)) hc he, hp.2⟩ rfl hn hl.1.1 hst (kw_room hW) d hf) kk
theorem kw_callSV (X : kw_X p s m args c cc nL own Ts D cl tys A) (hEw : ∀ s U : State, s.WarmedH U.vm → E s → E U) (hE : E s) {y : MethodName} {bytes : ByteArray} {maxL mc ms n index : Nat} {yw : List Cond} {rm : Room} {ret : Option FieldType} {As : List Value} {post : va_W → Prop} (hM : kw_V l y yw rm D cl tys E As wc post mc ms) (cw : CallB R s args own index y bytes maxL ret yw rm mc ms n ∧ (Cond.static y).before args s = true) (isC : List Nat) (hC : isC.map (fun i => ws[i]?) = wc.map some) (hnd : va_nd isC = true) (hlen : ∀ w : va_W, post w → isC.length ≤ w.length) (hn : As.length = n) (hst : st0 = As.reverse ++ rest) (hW : (rest.map fun v => v.category).sum ≤ 8) (d : decode cc pc = .ok (.invokestatic index, 3)) (hf : cells + mc ≤ R.cells ∧ slots + ms ≤ R.slots)
    (kk : ∀ (w1 : va_W), post w1 → kw_W p l e R s m args below meth c nL D cl A (cells + mc) (slots + ms) Q (kw_put ws isC w1) (pc + 3) (lv) (rest)) : kw_W p l e R s m args below meth c nL D cl A cells slots Q ws (pc) (lv) (st0) :=
  kw_finv X isC hC hlen (fun H locs ls hP hD hl => va_runS X.1 (hM H.size) cw (kw_preS (as := As) X.2.1 hEw hE hP hD isC hC hnd) rfl hn hl.1.1 hst (kw_room hW) d hf) kk
theorem kw_callSNV (X : kw_X p s m args c cc nL own Ts D cl tys A) (hEw : ∀ s U : State, s.WarmedH U.vm → E s → E U) (hE : E s) {y : MethodName} {bytes : ByteArray} {maxL mc ms n index : Nat} {yw : List Cond} {rm : Room} {ret : Option FieldType} {host : String} {As : List Value} {post : va_W → Prop} (hM : kw_V l y yw rm D cl tys E As wc post mc ms) (cw : va_CN R s args own index y host bytes maxL ret yw rm mc ms n ∧ (Cond.static y).before args s = true ∧ True) (isC : List Nat) (hC : isC.map (fun i => ws[i]?) = wc.map some) (hnd : va_nd isC = true) (hlen : ∀ w : va_W, post w → isC.length ≤ w.length) (hn : As.length = n) (hst : st0 = As.reverse ++ rest) (hW : (rest.map fun v => v.category).sum ≤ 8) (d : decode cc pc = .ok (.invokestatic index, 3)) (hf : cells + mc ≤ R.cells ∧ slots + ms ≤ R.slots)
    (kk : ∀ (w1 : va_W), post w1 → kw_W p l e R s m args below meth c nL D cl A (cells + mc) (slots + ms) Q (kw_put ws isC w1) (pc + 3) (lv) (rest)) : kw_W p l e R s m args below meth c nL D cl A cells slots Q ws (pc) (lv) (st0) :=
  kw_finv X isC hC hlen (fun H locs ls hP hD hl => va_runSN X.1 (hM H.size) cw (kw_preS (as := As) X.2.1 hEw hE hP hD isC hC hnd) rfl hn hl.1.1 hst (kw_room hW) d hf) kk
theorem kw_callI (X : kw_X p s m args c cc nL own Ts D cl tys A) (hEw : ∀ s U : State, s.WarmedH U.vm → E s → E U) (hE : E s) {y : MethodName} {bytes : ByteArray} {maxL mc ms n index : Nat} {yw : List Cond} {rm : Room} {b : Nat} {As : List Value} {post : va_W → Prop} (hM : kw_V l y yw rm D cl tys E (.ref b :: As) wc post mc ms) (cw : CallB R s args own index y bytes maxL none yw rm mc ms n ∧ y.name = "<init>" ∧ (Cond.instanceMethod y).before args s = true) (isC : List Nat) (hC : isC.map (fun i => ws[i]?) = wc.map some) (hnd : va_nd isC = true) (hlen : ∀ w : va_W, post w → isC.length ≤ w.length) (hn : As.length = n) (hst : st0 = As.reverse ++ .ref b :: rest) (hW : (rest.map fun v => v.category).sum ≤ 8) (d : decode cc pc = .ok (.invokespecial index, 3)) (hf : cells + mc ≤ R.cells ∧ slots + ms ≤ R.slots)
    (kk : ∀ (w1 : va_W), post w1 → kw_W p l e R s m args below meth c nL D cl A (cells + mc) (slots + ms) Q (kw_put ws isC w1) (pc + 3) (lv) (rest)) : kw_W p l e R s m args below meth c nL D cl A cells slots Q ws (pc) (lv) (st0) :=
  kw_finv X isC hC hlen (fun H locs ls hP hD hl => va_runI X.1 (hM H.size) cw (kw_preS (as := .ref b :: As) X.2.1 hEw hE hP hD isC hC hnd) rfl hn hl.1.1 hst (kw_room hW) d hf) kk
theorem kw_callIN (X : kw_X p s m args c cc nL own Ts D cl tys A) (hEw : ∀ s U : State, s.WarmedH U.vm → E s → E U) (hE : E s) {y : MethodName} {bytes : ByteArray} {maxL mc ms n index : Nat} {yw : List Cond} {rm : Room} {b : Nat} {host : String} {As : List Value} {post : va_W → Prop} (hM : kw_V l y yw rm D cl tys E (.ref b :: As) wc post mc ms) (cw : va_CN R s args own index y host bytes maxL none yw rm mc ms n ∧ y.name = "<init>" ∧ (Cond.instanceMethod y).before args s = true) (isC : List Nat) (hC : isC.map (fun i => ws[i]?) = wc.map some) (hnd : va_nd isC = true) (hlen : ∀ w : va_W, post w → isC.length ≤ w.length) (hn : As.length = n) (hst : st0 = As.reverse ++ .ref b :: rest) (hW : (rest.map fun v => v.category).sum ≤ 8) (d : decode cc pc = .ok (.invokespecial index, 3)) (hf : cells + mc ≤ R.cells ∧ slots + ms ≤ R.slots)
    (kk : ∀ (w1 : va_W), post w1 → kw_W p l e R s m args below meth c nL D cl A (cells + mc) (slots + ms) Q (kw_put ws isC w1) (pc + 3) (lv) (rest)) : kw_W p l e R s m args below meth c nL D cl A cells slots Q ws (pc) (lv) (st0) :=
  kw_finv X isC hC hlen (fun H locs ls hP hD hl => va_runIN X.1 (hM H.size) cw (kw_preS (as := .ref b :: As) X.2.1 hEw hE hP hD isC hC hnd) rfl hn hl.1.1 hst (kw_room hW) d hf) kk
theorem kw_mmax (X : kw_X p s m args c cc nL own Ts D cl tys A) {index : Nat} (hlink : Cond.methodLink own index Lib.Math.max.name ∈ Ts) (hstat : Cond.static Lib.Math.max.name ∈ Ts) (hini : Cond.initialized "java/lang/Math" ∈ Ts) (hcode : Cond.code Lib.Math.max.name Lib.Math.max.code 2 (some .int) ∈ Ts) (hframes : 1 ≤ R.frames) (hlocals : (rest.map fun v => v.category).sum + 13 ≤ R.locals) (hc : cells ≤ R.cells) (hs : slots ≤ R.slots) {x y v : Int32} (hv : (if x < y then y else x) = v) (d : decode cc pc = .ok (.invokestatic index, 3)) (k : kw_W p l e R s m args below meth c nL D cl A cells slots Q ws (pc + 3) (lv) (.int v :: rest)) : kw_W p l e R s m args below meth c nL D cl A cells slots Q ws (pc) (lv) (.int y :: .int x :: rest) := fun H locs ls hP hD hS hl => va_mmax X.1.1 X.1.2.1 (X.1.2.2.1.trans hl.1.1.symm) X.1.2.2.2.1 (X.1.2.2.2.2 _ hlink) (X.1.2.2.2.2 _ hstat) (X.1.2.2.2.2 _ hini) (X.1.2.2.2.2 _ hcode) hframes hlocals hc hs d (by rw [hv]; exact k H locs ls hP hD hS hl)
theorem kw_mmin (X : kw_X p s m args c cc nL own Ts D cl tys A) {index : Nat} (hlink : Cond.methodLink own index Lib.Math.min.name ∈ Ts) (hstat : Cond.static Lib.Math.min.name ∈ Ts) (hini : Cond.initialized "java/lang/Math" ∈ Ts) (hcode : Cond.code Lib.Math.min.name Lib.Math.min.code 2 (some .int) ∈ Ts) (hframes : 1 ≤ R.frames) (hlocals : (rest.map fun v => v.category).sum + 13 ≤ R.locals) (hc : cells ≤ R.cells) (hs : slots ≤ R.slots) {x y v : Int32} (hv : (if y < x then y else x) = v) (d : decode cc pc = .ok (.invokestatic index, 3)) (k : kw_W p l e R s m args below meth c nL D cl A cells slots Q ws (pc + 3) (lv) (.int v :: rest)) : kw_W p l e R s m args below meth c nL D cl A cells slots Q ws (pc) (lv) (.int y :: .int x :: rest) := fun H locs ls hP hD hS hl => va_mmin X.1.1 X.1.2.1 (X.1.2.2.1.trans hl.1.1.symm) X.1.2.2.2.1 (X.1.2.2.2.2 _ hlink) (X.1.2.2.2.2 _ hstat) (X.1.2.2.2.2 _ hini) (X.1.2.2.2.2 _ hcode) hframes hlocals hc hs d (by rw [hv]; exact k H locs ls hP hD hS hl)
end KWC
end
section
/-! ===== Int32 by its bits: bt x i ===== -/
def bt (x : Int32) (i : Nat) : Bool := x.toBitVec.getLsbD i
theorem b_ext {x y : Int32} (h : ∀ i, i < 32 → bt x i = bt y i) : x = y := Int32.toBitVec_inj.mp (BitVec.eq_of_getLsbD_eq (fun i hi => h i hi))
theorem b_or (x y : Int32) (i : Nat) : bt (x ||| y) i = (bt x i || bt y i) := by unfold bt; rw [Int32.toBitVec_or, BitVec.getLsbD_or]
theorem b_and (x y : Int32) (i : Nat) : bt (x &&& y) i = (bt x i && bt y i) := by unfold bt; rw [Int32.toBitVec_and, BitVec.getLsbD_and]
theorem b_xor (x y : Int32) (i : Nat) : bt (x ^^^ y) i = (bt x i ^^ bt y i) := by unfold bt; rw [Int32.toBitVec_xor, BitVec.getLsbD_xor]
theorem b_big {x : Int32} {i : Nat} (h : 32 ≤ i) : bt x i = false := BitVec.getLsbD_of_ge _ _ h
theorem b_255 (i : Nat) : bt 255 i = decide (i < 8) := by
  rcases Nat.lt_or_ge i 32 with h | h
  · exact (by decide +kernel : ∀ i, i < 32 → bt 255 i = decide (i < 8)) i h
  · rw [b_big h, decide_eq_false (by omega)]
theorem b_65535 (i : Nat) : bt 65535 i = decide (i < 16) := by
  rcases Nat.lt_or_ge i 32 with h | h
  · exact (by decide +kernel : ∀ i, i < 32 → bt 65535 i = decide (i < 16)) i h
  · rw [b_big h, decide_eq_false (by omega)]
theorem b_m1 : ∀ i, i < 32 → bt (-1) i = true := by decide +kernel
theorem b_0 (i : Nat) : bt 0 i = false := BitVec.getLsbD_zero
theorem s_l : ∀ n, n < 32 → ((nI n &&& 31).toBitVec.smod 32).toNat = n := by decide +kernel
theorem s_u : ∀ n, n < 32 → (((nI n).toUInt32 &&& Int32.toUInt32 31).toBitVec % 32).toNat = n := by decide +kernel
theorem b_shl (n : Nat) (hn : n < 32) (x : Int32) {i : Nat} (hi : i < 32) : bt (x <<< (nI n &&& 31)) i = (decide (n ≤ i) && bt x (i - n)) := by
  unfold bt
  rw [Int32.toBitVec_shiftLeft]
  show (x.toBitVec <<< ((nI n &&& 31).toBitVec.smod 32).toNat).getLsbD i = _
  rw [s_l n hn, BitVec.getLsbD_shiftLeft]
  rcases Nat.lt_or_ge i n with h | h
  · simp [h, Nat.not_le.mpr h]
  · simp [hi, h, Nat.not_lt.mpr h]
theorem b_ushr (n : Nat) (hn : n < 32) (x : Int32) (i : Nat) : bt ((x.toUInt32 >>> ((nI n).toUInt32 &&& Int32.toUInt32 31)).toInt32) i = bt x (n + i) := by
  show (x.toUInt32 >>> ((nI n).toUInt32 &&& Int32.toUInt32 31)).toBitVec.getLsbD i = x.toUInt32.toBitVec.getLsbD (n + i)
  rw [UInt32.toBitVec_shiftRight]
  show (x.toUInt32.toBitVec >>> (((nI n).toUInt32 &&& Int32.toUInt32 31).toBitVec % 32).toNat).getLsbD i = _
  rw [s_u n hn, BitVec.getLsbD_ushiftRight]
theorem b_sshr (n : Nat) (hn : n < 32) (x : Int32) {i : Nat} (hi : i < 32) : bt (x >>> (nI n &&& 31)) i = if n + i < 32 then bt x (n + i) else bt x 31 := by
  unfold bt
  rw [Int32.toBitVec_shiftRight]
  show (x.toBitVec.sshiftRight ((nI n &&& 31).toBitVec.smod 32).toNat).getLsbD i = _
  rw [s_l n hn, BitVec.getLsbD_sshiftRight, BitVec.msb_eq_getLsbD_last]
  simp [hi]
theorem b_shl8 (x : Int32) {i : Nat} (hi : i < 32) : bt (x <<< ((8 : Int32) &&& 31)) i = (decide (8 ≤ i) && bt x (i - 8)) := b_shl 8 (by omega) x hi
theorem b_shl16 (x : Int32) {i : Nat} (hi : i < 32) : bt (x <<< ((16 : Int32) &&& 31)) i = (decide (16 ≤ i) && bt x (i - 16)) := b_shl 16 (by omega) x hi
theorem b_shl24 (x : Int32) {i : Nat} (hi : i < 32) : bt (x <<< ((24 : Int32) &&& 31)) i = (decide (24 ≤ i) && bt x (i - 24)) := b_shl 24 (by omega) x hi
theorem b_sshr8 (x : Int32) {i : Nat} (hi : i < 32) : bt (x >>> ((8 : Int32) &&& 31)) i = if 8 + i < 32 then bt x (8 + i) else bt x 31 := b_sshr 8 (by omega) x hi
/-! ===== nI under and, xor, >>>, one bit, 65535 ===== -/
theorem nx_and (a b : Nat) : nI a &&& nI b = nI (a &&& b) := by
  apply Int32.toBitVec_inj.1
  show BitVec.ofNat 32 a &&& BitVec.ofNat 32 b = BitVec.ofNat 32 (a &&& b)
  apply BitVec.eq_of_getLsbD_eq
  intro i hi
  simp [hi]
theorem nx_xor (a b : Nat) : nI a ^^^ nI b = nI (a ^^^ b) := by
  apply Int32.toBitVec_inj.1
  show BitVec.ofNat 32 a ^^^ BitVec.ofNat 32 b = BitVec.ofNat 32 (a ^^^ b)
  apply BitVec.eq_of_getLsbD_eq
  intro i hi
  simp [hi]
theorem nx_cnt : ∀ j : Fin 32, (UInt32.ofNat j.val &&& Int32.toUInt32 31).toNat % 32 = j.val := by decide +kernel
theorem nx_ush {k j : Nat} (hk : k < 65536) (hj : j < 32) : ((nI k).toUInt32 >>> ((nI j).toUInt32 &&& Int32.toUInt32 31)).toInt32 = nI (k >>> j) := by
  have hs : k >>> j ≤ k := by
    rw [Nat.shiftRight_eq_div_pow]
    exact Nat.div_le_self _ _
  have e2 : UInt32.ofNat k >>> (UInt32.ofNat j &&& Int32.toUInt32 31) = UInt32.ofNat (k >>> j) := by
    apply UInt32.toNat_inj.1
    have h1 : (UInt32.ofNat k).toNat = k := Nat.mod_eq_of_lt (by omega)
    have h2 : (UInt32.ofNat (k >>> j)).toNat = k >>> j := Nat.mod_eq_of_lt (by omega)
    rw [UInt32.toNat_shiftRight, nx_cnt ⟨j, hj⟩, h1, h2]
  show (UInt32.ofNat k >>> (UInt32.ofNat j &&& Int32.toUInt32 31)).toInt32 = _
  rw [e2]
  rfl
theorem nx_bit {k j : Nat} (hk : k < 65536) (hj : j < 16) : (((nI k).toUInt32 >>> ((nI j).toUInt32 &&& Int32.toUInt32 31)).toInt32 &&& 1) = 0 ↔ k.testBit j = false := by
  rw [nx_ush hk (by omega)]
  show nI (k >>> j) &&& nI 1 = 0 ↔ _
  rw [nx_and, Nat.and_one_is_mod, ← nI_0, nI_eq (by omega) (by omega), Nat.testBit_eq_decide_div_mod_eq, Nat.shiftRight_eq_div_pow, decide_eq_false_iff_not]
  generalize k / 2 ^ j = z
  omega
theorem nx_mod (k : Nat) : nI k &&& 65535 = nI (k % 65536) := by
  show nI k &&& nI 65535 = _
  rw [nx_and, show (65535 : Nat) = 2 ^ 16 - 1 from rfl, Nat.and_two_pow_sub_one_eq_mod]
theorem nx_m16 {k : Nat} (h : k < 65536) : nI k &&& 65535 = nI k := by rw [nx_mod, Nat.mod_eq_of_lt h]
theorem nx_mask (x : Int32) : ∃ k, k < 65536 ∧ x &&& 65535 = nI k := by
  have e : x = nI x.toBitVec.toNat := by
    apply Int32.toBitVec_inj.1
    show x.toBitVec = BitVec.ofNat 32 x.toBitVec.toNat
    simp
  refine ⟨x.toBitVec.toNat % 65536, Nat.mod_lt _ (by omega), ?_⟩
  rw [← nx_mod, ← e]
/-! bits of small naturals under nI -/
theorem bq_bt (p : Nat) {j : Nat} (hj : j < 32) : bt (nI p) j = p.testBit j := by
  unfold bt
  show (BitVec.ofNat 32 p).getLsbD j = p.testBit j
  rw [BitVec.getLsbD_ofNat]
  simp [hj]
theorem bq_or (a b : Nat) : nI a ||| nI b = nI (a ||| b) := by
  apply Int32.toBitVec_inj.1
  show BitVec.ofNat 32 a ||| BitVec.ofNat 32 b = BitVec.ofNat 32 (a ||| b)
  apply BitVec.eq_of_getLsbD_eq
  intro i hi
  simp [hi]
theorem bq_shl {i : Nat} (hi : i < 31) : nI 1 <<< (nI i &&& 31) = nI (2 ^ i) := by
  have h := pk_shlN (n := 1) (nI i &&& 31) i (s_l i (by omega)) (by
    have h2 : 2 ^ i < 2 ^ 31 := Nat.pow_lt_pow_right (by decide) hi
    omega)
  rw [h, Nat.one_mul]
theorem bq_shr {p i : Nat} (hp : p < 2 ^ 31) (hi : i < 32) : nI p >>> (nI i &&& 31) = nI (p / 2 ^ i) := pk_shrN hp _ i (s_l i hi)
theorem bq_has {p i : Nat} (hp : p < 2 ^ 31) (hi : i < 32) : (nI p >>> (nI i &&& 31)) &&& nI 1 = nI (p / 2 ^ i % 2) := by
  rw [bq_shr hp hi]
  have h1 : p / 2 ^ i < 2 ^ 32 := by
    have := Nat.div_le_self p (2 ^ i)
    omega
  exact pk_andN h1 1 (by decide)
theorem bq_tb (p i : Nat) : p / 2 ^ i % 2 = 1 ↔ p.testBit i = true := by
  rw [Nat.testBit_eq_decide_div_mod_eq, decide_eq_true_eq]
/-- the set without one of its members -/
def bq_wo (p i : Nat) : Nat := p ^^^ (p &&& 2 ^ i)
theorem bq_wo_tb (p i j : Nat) : (bq_wo p i).testBit j = (p.testBit j && !decide (i = j)) := by
  unfold bq_wo
  rw [Nat.testBit_xor, Nat.testBit_and, Nat.testBit_two_pow]
  cases p.testBit j <;> by_cases h : i = j <;> simp [h]
theorem bq_woI {p i : Nat} (hi : i < 31) : nI p &&& ((nI 1 <<< (nI i &&& 31)) ^^^ (-1)) = nI (bq_wo p i) := by
  rw [bq_shl hi]
  apply b_ext
  intro j hj
  rw [b_and, b_xor, bq_bt _ hj, bq_bt _ hj, bq_bt _ hj, b_m1 j hj, bq_wo_tb, Nat.testBit_two_pow]
  cases p.testBit j <;> by_cases h : i = j <;> simp [h]
theorem bq_wo_le (p i : Nat) : bq_wo p i ≤ p := by
  apply Nat.le_of_testBit
  intro j hj
  rw [bq_wo_tb] at hj
  revert hj
  cases p.testBit j <;> simp
theorem bq_wo_lt {p i : Nat} (h : p.testBit i = true) : bq_wo p i < p := by
  refine Nat.lt_of_le_of_ne (bq_wo_le p i) (fun e => ?_)
  have h1 := bq_wo_tb p i i
  rw [e, h] at h1
  simp at h1
theorem bq_lt_of {p n : Nat} (h : ∀ j, n ≤ j → p.testBit j = false) : p < 2 ^ n := Nat.lt_pow_two_of_testBit p h
theorem bq_of_lt {p n j : Nat} (h : p < 2 ^ n) (hj : n ≤ j) : p.testBit j = false := Nat.testBit_lt_two_pow (Nat.lt_of_lt_of_le h (Nat.pow_le_pow_right (by decide) hj))
end
section
/-! the game, as numbers: n strings, string i joins the coins lo i and hi i (8: the ground); a position is a natural whose bits are its strings -/
def gm_mk (lo hi : Nat → Nat) : Nat → Nat → Nat
  | 0, _ => 0
  | i + 1, c => gm_mk lo hi i c ||| (if lo i = c ∨ hi i = c then 2 ^ i else 0)
theorem gm_mk_tb (lo hi : Nat → Nat) (n c j : Nat) : (gm_mk lo hi n c).testBit j = decide (j < n ∧ (lo j = c ∨ hi j = c)) := by
  induction n with
  | zero => simp [gm_mk]
  | succ n ih =>
    unfold gm_mk
    rw [Nat.testBit_or, ih]
    by_cases hj : j = n
    · subst hj
      by_cases h : lo j = c ∨ hi j = c
      · rw [if_pos h]
        simp [h, Nat.testBit_two_pow]
      · rw [if_neg h]
        simp [h]
    · have h2 : (if lo n = c ∨ hi n = c then 2 ^ n else 0).testBit j = false := by
        split
        · rw [Nat.testBit_two_pow]
          simp
          omega
        · simp
      rw [h2, Bool.or_false]
      by_cases h : lo j = c ∨ hi j = c
      · simp [h]
        omega
      · simp [h]
theorem gm_mk_lt (lo hi : Nat → Nat) (n c : Nat) : gm_mk lo hi n c < 2 ^ n := bq_lt_of (fun j hj => by
  rw [gm_mk_tb]
  simp
  omega)
theorem gm_mk_congr {lo hi lo' hi' : Nat → Nat} {n : Nat} (h1 : ∀ i, i < n → lo' i = lo i) (h2 : ∀ i, i < n → hi' i = hi i) (c : Nat) : gm_mk lo' hi' n c = gm_mk lo hi n c := by
  apply Nat.eq_of_testBit_eq
  intro j
  rw [gm_mk_tb, gm_mk_tb]
  by_cases hj : j < n
  · rw [h1 j hj, h2 j hj]
  · simp [hj]
/-- how many coins the cut of string i takes, in the position p -/
def gm_tk (lo hi : Nat → Nat) (n p i : Nat) : Nat := (if p &&& gm_mk lo hi n (lo i) = 2 ^ i then 1 else 0) + (if hi i = 8 then 0 else if p &&& gm_mk lo hi n (hi i) = 2 ^ i then 1 else 0)
/-- that no other string holds the coin, said of the rest -/
theorem gm_only {lo hi : Nat → Nat} {n p i c : Nat} (hi' : i < n) (hp : p.testBit i = true) (hc : lo i = c ∨ hi i = c) : gm_mk lo hi n c &&& bq_wo p i = 0 ↔ p &&& gm_mk lo hi n c = 2 ^ i := by
  constructor
  · intro h
    apply Nat.eq_of_testBit_eq
    intro j
    have h1 : (gm_mk lo hi n c &&& bq_wo p i).testBit j = false := by rw [h]; simp
    rw [Nat.testBit_and, bq_wo_tb] at h1
    rw [Nat.testBit_and, Nat.testBit_two_pow]
    by_cases hj : i = j
    · subst hj
      rw [hp, gm_mk_tb]
      simp [hi', hc]
    · simp only [hj, decide_false, Bool.not_false, Bool.and_true] at h1 ⊢
      rw [Bool.and_comm]
      exact h1
  · intro h
    apply Nat.eq_of_testBit_eq
    intro j
    have h1 : (p &&& gm_mk lo hi n c).testBit j = (2 ^ i).testBit j := by rw [h]
    rw [Nat.testBit_and, Nat.testBit_two_pow] at h1
    rw [Nat.testBit_and, bq_wo_tb]
    by_cases hj : i = j
    · subst hj
      simp
    · simp only [hj, decide_false, Bool.not_false, Bool.and_true] at h1 ⊢
      rw [Bool.and_comm, h1]
      simp
/-! a table that is filled from 0 up -/
def gm_tb (F : (Nat → Int) → Nat → Int) : Nat → Nat → Int
  | 0 => fun _ => 0
  | k + 1 => fun q => if q = k then F (gm_tb F k) k else gm_tb F k q
def gm_vl (F : (Nat → Int) → Nat → Int) (p : Nat) : Int := F (gm_tb F p) p
theorem gm_tb_lt (F : (Nat → Int) → Nat → Int) (k q : Nat) (h : q < k) : gm_tb F k q = gm_vl F q := by
  induction k with
  | zero => omega
  | succ k ih =>
    unfold gm_tb
    by_cases hq : q = k
    · simp only [hq, if_pos rfl]
      rfl
    · simp only [hq, if_false]
      exact ih (by omega)
/-- F looks at lesser places alone -/
def gm_loc (F : (Nat → Int) → Nat → Int) : Prop := ∀ (f g : Nat → Int) (p : Nat), (∀ q, q < p → f q = g q) → F f p = F g p
theorem gm_vl_eq {F : (Nat → Int) → Nat → Int} (hF : gm_loc F) (p : Nat) : gm_vl F p = F (gm_vl F) p := hF _ _ p (fun q hq => gm_tb_lt F p q hq)
/-! margins -/
/-- what the cut of i gives -/
def gm_gv (lo hi : Nat → Nat) (n : Nat) (f : Nat → Int) (p i : Nat) : Int := if 0 < gm_tk lo hi n p i then (gm_tk lo hi n p i : Int) + f (bq_wo p i) else - f (bq_wo p i)
def gm_mx (lo hi : Nat → Nat) (n : Nat) (f : Nat → Int) (p : Nat) : Nat → Int
  | 0 => -8
  | i + 1 => if p.testBit i = true then (if gm_mx lo hi n f p i < gm_gv lo hi n f p i then gm_gv lo hi n f p i else gm_mx lo hi n f p i) else gm_mx lo hi n f p i
def gm_F (lo hi : Nat → Nat) (n : Nat) (f : Nat → Int) (p : Nat) : Int := if p = 0 then 0 else gm_mx lo hi n f p n
def gm_mg (lo hi : Nat → Nat) (n p : Nat) : Int := gm_vl (gm_F lo hi n) p
theorem gm_gv_loc {lo hi : Nat → Nat} {n : Nat} {f g : Nat → Int} {p i : Nat} (h : ∀ q, q < p → f q = g q) (hp : p.testBit i = true) : gm_gv lo hi n f p i = gm_gv lo hi n g p i := by
  unfold gm_gv
  rw [h _ (bq_wo_lt hp)]
theorem gm_mx_loc {lo hi : Nat → Nat} {n : Nat} {f g : Nat → Int} {p : Nat} (h : ∀ q, q < p → f q = g q) (k : Nat) : gm_mx lo hi n f p k = gm_mx lo hi n g p k := by
  induction k with
  | zero => rfl
  | succ k ih =>
    unfold gm_mx
    by_cases hb : p.testBit k = true
    · rw [if_pos hb, if_pos hb, ih, gm_gv_loc h hb]
    · rw [if_neg hb, if_neg hb, ih]
theorem gm_F_loc (lo hi : Nat → Nat) (n : Nat) : gm_loc (gm_F lo hi n) := by
  intro f g p h
  unfold gm_F
  rw [gm_mx_loc h]
theorem gm_mg_eq (lo hi : Nat → Nat) (n p : Nat) : gm_mg lo hi n p = gm_F lo hi n (gm_mg lo hi n) p := gm_vl_eq (gm_F_loc lo hi n) p
/-- the coins that hang -/
def gm_ind (b : Bool) : Nat := if b then 1 else 0
def gm_hc (lo hi : Nat → Nat) (n p c : Nat) : Nat := if p &&& gm_mk lo hi n c = 0 then 0 else 1
def gm_sum (f : Nat → Nat) : Nat → Nat
  | 0 => 0
  | k + 1 => gm_sum f k + f k
def gm_hg (lo hi : Nat → Nat) (n p : Nat) : Nat := gm_sum (gm_hc lo hi n p) 8
theorem gm_sum_le {f : Nat → Nat} (h : ∀ c, f c ≤ 1) (k : Nat) : gm_sum f k ≤ k := by
  induction k with
  | zero => exact Nat.le_refl _
  | succ k ih =>
    unfold gm_sum
    have := h k
    omega
theorem gm_sum_add {f g h : Nat → Nat} (e : ∀ c, f c = g c + h c) (k : Nat) : gm_sum f k = gm_sum g k + gm_sum h k := by
  induction k with
  | zero => rfl
  | succ k ih =>
    unfold gm_sum
    rw [ih, e k]
    omega
theorem gm_sum_one {d v k : Nat} : gm_sum (fun c => if c = d then v else 0) k = if d < k then v else 0 := by
  induction k with
  | zero => rfl
  | succ k ih =>
    unfold gm_sum
    rw [ih]
    by_cases h1 : d < k
    · rw [if_pos h1]
      show v + (if k = d then v else 0) = if d < k + 1 then v else 0
      rw [if_neg (show ¬ k = d by omega), if_pos (show d < k + 1 by omega), Nat.add_zero]
    · rw [if_neg h1]
      show 0 + (if k = d then v else 0) = if d < k + 1 then v else 0
      by_cases h2 : k = d
      · rw [if_pos h2, if_pos (show d < k + 1 by omega), Nat.zero_add]
      · rw [if_neg h2, if_neg (show ¬ d < k + 1 by omega)]
theorem gm_hg_le (lo hi : Nat → Nat) (n p : Nat) : gm_hg lo hi n p ≤ 8 := gm_sum_le (fun c => by unfold gm_hc; split <;> omega) 8
/-- a coin hangs before the cut if it hangs behind it, or if the cut takes it -/
theorem gm_hc_cut {lo hi : Nat → Nat} {n p i c : Nat} (hin : i < n) (hp : p.testBit i = true) : gm_hc lo hi n p c = gm_hc lo hi n (bq_wo p i) c + (if (lo i = c ∨ hi i = c) ∧ p &&& gm_mk lo hi n c = 2 ^ i then 1 else 0) := by
  unfold gm_hc
  by_cases hc : lo i = c ∨ hi i = c
  · have h1 := gm_only (lo := lo) (hi := hi) hin hp hc
    rw [Nat.and_comm] at h1
    have h2 : ¬ p &&& gm_mk lo hi n c = 0 := by
      intro h
      have h3 : (p &&& gm_mk lo hi n c).testBit i = false := by rw [h]; simp
      rw [Nat.testBit_and, hp, gm_mk_tb] at h3
      simp [hin, hc] at h3
    rw [if_neg h2]
    by_cases h4 : p &&& gm_mk lo hi n c = 2 ^ i
    · rw [if_pos (h1.mpr h4), if_pos ⟨hc, h4⟩]
    · rw [if_neg (fun z => h4 (h1.mp z)), if_neg (fun z => h4 z.2)]
  · rw [if_neg (show ¬ ((lo i = c ∨ hi i = c) ∧ p &&& gm_mk lo hi n c = 2 ^ i) from fun z => hc z.1), Nat.add_zero]
    have h1 : bq_wo p i &&& gm_mk lo hi n c = p &&& gm_mk lo hi n c := by
      apply Nat.eq_of_testBit_eq
      intro j
      rw [Nat.testBit_and, Nat.testBit_and, bq_wo_tb, gm_mk_tb]
      by_cases hj : i = j
      · subst hj
        simp [hc]
      · simp [hj]
    rw [h1]
theorem gm_hg_cut {lo hi : Nat → Nat} {n p i : Nat} (hin : i < n) (hp : p.testBit i = true) (h1 : lo i < 8) (h2 : hi i ≤ 8) (h3 : lo i ≠ hi i) : gm_hg lo hi n p = gm_hg lo hi n (bq_wo p i) + gm_tk lo hi n p i := by
  have e1 : gm_hg lo hi n p = gm_hg lo hi n (bq_wo p i) + gm_sum (fun c => if (lo i = c ∨ hi i = c) ∧ p &&& gm_mk lo hi n c = 2 ^ i then 1 else 0) 8 := gm_sum_add (fun c => gm_hc_cut hin hp) 8
  have e2 : gm_sum (fun c => if (lo i = c ∨ hi i = c) ∧ p &&& gm_mk lo hi n c = 2 ^ i then 1 else 0) 8 = gm_sum (fun c => if c = lo i then (if p &&& gm_mk lo hi n (lo i) = 2 ^ i then 1 else 0) else 0) 8 + gm_sum (fun c => if c = hi i then (if p &&& gm_mk lo hi n (hi i) = 2 ^ i then 1 else 0) else 0) 8 := by
    refine gm_sum_add (fun c => ?_) 8
    by_cases ha : c = lo i
    · subst ha
      rw [if_neg h3, if_pos rfl]
      by_cases hb : p &&& gm_mk lo hi n (lo i) = 2 ^ i
      · rw [if_pos hb, if_pos ⟨Or.inl rfl, hb⟩]
      · rw [if_neg hb, if_neg (fun z => hb z.2)]
    · rw [if_neg ha]
      by_cases hb : c = hi i
      · subst hb
        rw [if_pos rfl]
        by_cases hd : p &&& gm_mk lo hi n (hi i) = 2 ^ i
        · rw [if_pos hd, if_pos ⟨Or.inr rfl, hd⟩]
        · rw [if_neg hd, if_neg (fun z => hd z.2)]
      · rw [if_neg hb, if_neg (fun z => by rcases z.1 with z | z; exact ha z.symm; exact hb z.symm)]
  rw [e1, e2, gm_sum_one, gm_sum_one]
  unfold gm_tk
  rw [if_pos h1]
  by_cases h8 : hi i = 8
  · rw [if_pos h8, if_neg (show ¬ hi i < 8 by omega)]
  · rw [if_neg h8, if_pos (show hi i < 8 by omega)]
theorem gm_mx_ge {lo hi : Nat → Nat} {n : Nat} {f : Nat → Int} {p : Nat} : ∀ (k i : Nat), i < k → p.testBit i = true → gm_gv lo hi n f p i ≤ gm_mx lo hi n f p k := by
  intro k
  induction k with
  | zero => intro i h; omega
  | succ k ih =>
    intro i h hb
    unfold gm_mx
    by_cases hk : i = k
    · subst hk
      rw [if_pos hb]
      split <;> omega
    · have h1 := ih i (by omega) hb
      split
      · split <;> omega
      · exact h1
theorem gm_mx_le {lo hi : Nat → Nat} {n : Nat} {f : Nat → Int} {p : Nat} {b : Int} (hb : -8 ≤ b) : ∀ k : Nat, (∀ i, i < k → p.testBit i = true → gm_gv lo hi n f p i ≤ b) → gm_mx lo hi n f p k ≤ b := by
  intro k
  induction k with
  | zero => intro _; exact hb
  | succ k ih =>
    intro h
    have h1 := ih (fun i hi => h i (by omega))
    unfold gm_mx
    split
    · rename_i h2
      have h3 := h k (by omega) h2
      split <;> omega
    · exact h1
theorem gm_bit_of {p n : Nat} (h0 : p ≠ 0) (hp : p < 2 ^ n) : ∃ i, i < n ∧ p.testBit i = true := by
  obtain ⟨i, hi⟩ := Nat.exists_testBit_of_ne_zero h0
  refine ⟨i, ?_, hi⟩
  rcases Nat.lt_or_ge i n with h | h
  · exact h
  · rw [bq_of_lt hp h] at hi
    cases hi
/-- the strings are right -/
def gm_ok (lo hi : Nat → Nat) (n : Nat) : Prop := n ≤ 12 ∧ ∀ i, i < n → lo i < 8 ∧ hi i ≤ 8 ∧ lo i < hi i
theorem gm_mg_bd {lo hi : Nat → Nat} {n : Nat} (ok : gm_ok lo hi n) (p : Nat) (hp : p < 2 ^ n) : -(gm_hg lo hi n p : Int) ≤ gm_mg lo hi n p ∧ gm_mg lo hi n p ≤ gm_hg lo hi n p := by
  induction p using Nat.strongRecOn with
  | _ p ih =>
    rw [gm_mg_eq]
    unfold gm_F
    by_cases h0 : p = 0
    · rw [if_pos h0]
      omega
    · rw [if_neg h0]
      have hg : ∀ i, i < n → p.testBit i = true → -(gm_hg lo hi n p : Int) ≤ gm_gv lo hi n (gm_mg lo hi n) p i ∧ gm_gv lo hi n (gm_mg lo hi n) p i ≤ gm_hg lo hi n p := by
        intro i hz hb
        have hlt := bq_wo_lt hb
        obtain ⟨b1, b2⟩ := ih _ hlt (by omega)
        obtain ⟨o1, o2, o3⟩ := ok.2 i hz
        have hc := gm_hg_cut (lo := lo) (hi := hi) hz hb o1 o2 (Nat.ne_of_lt o3)
        unfold gm_gv
        split <;> omega
      obtain ⟨i, hz, hb⟩ := gm_bit_of h0 hp
      have h1 := gm_mx_ge (lo := lo) (hi := hi) (n := n) (f := gm_mg lo hi n) n i hz hb
      have h2 := gm_mx_le (lo := lo) (hi := hi) (n := n) (f := gm_mg lo hi n) (p := p) (b := gm_hg lo hi n p) (by omega) n (fun i hz hb => (hg i hz hb).2)
      have h3 := (hg i hz hb).1
      omega
theorem gm_mg_8 {lo hi : Nat → Nat} {n : Nat} (ok : gm_ok lo hi n) {p : Nat} (hp : p < 2 ^ n) : -8 ≤ gm_mg lo hi n p ∧ gm_mg lo hi n p ≤ 8 := by
  obtain ⟨h1, h2⟩ := gm_mg_bd ok p hp
  have := gm_hg_le lo hi n p
  omega
theorem gm_tk_2 (lo hi : Nat → Nat) (n p i : Nat) : gm_tk lo hi n p i ≤ 2 := by
  unfold gm_tk
  split <;> split <;> first | omega | (split <;> omega)
theorem gm_gv_8 {lo hi : Nat → Nat} {n : Nat} (ok : gm_ok lo hi n) {p i : Nat} (hp : p < 2 ^ n) (hi' : i < n) (hb : p.testBit i = true) : -8 ≤ gm_gv lo hi n (gm_mg lo hi n) p i ∧ gm_gv lo hi n (gm_mg lo hi n) p i ≤ 8 := by
  have hlt := bq_wo_lt hb
  obtain ⟨b1, b2⟩ := gm_mg_bd ok (bq_wo p i) (by omega)
  obtain ⟨o1, o2, o3⟩ := ok.2 i hi'
  have hc := gm_hg_cut (lo := lo) (hi := hi) hi' hb o1 o2 (Nat.ne_of_lt o3)
  have h8 := gm_hg_le lo hi n p
  unfold gm_gv
  split <;> omega
/-- the same by the other way: the first, then whatever is greater -/
def gm_mx2 (lo hi : Nat → Nat) (n : Nat) (f : Nat → Int) (p : Nat) : Nat → Option Int
  | 0 => none
  | i + 1 => if p.testBit i = true then (match gm_mx2 lo hi n f p i with
    | none => some (gm_gv lo hi n f p i)
    | some b => some (if b < gm_gv lo hi n f p i then gm_gv lo hi n f p i else b)) else gm_mx2 lo hi n f p i
theorem gm_mx2_eq {lo hi : Nat → Nat} {n : Nat} {f : Nat → Int} {p : Nat} : ∀ k : Nat, (∀ i, i < k → p.testBit i = true → -8 ≤ gm_gv lo hi n f p i) → (gm_mx2 lo hi n f p k = none ∧ (∀ i, i < k → p.testBit i = false) ∧ gm_mx lo hi n f p k = -8) ∨ gm_mx2 lo hi n f p k = some (gm_mx lo hi n f p k) := by
  intro k
  induction k with
  | zero => intro _; exact Or.inl ⟨rfl, fun i h => by omega, rfl⟩
  | succ k ih =>
    intro h
    have h1 := ih (fun i hi => h i (by omega))
    unfold gm_mx2 gm_mx
    by_cases hb : p.testBit k = true
    · rw [if_pos hb, if_pos hb]
      have h2 := h k (by omega) hb
      rcases h1 with ⟨e1, -, e3⟩ | e1
      · rw [e1, e3]
        refine Or.inr ?_
        simp only
        congr 1
        split <;> omega
      · rw [e1]
        exact Or.inr rfl
    · rw [if_neg hb, if_neg hb]
      rcases h1 with ⟨e1, e2, e3⟩ | e1
      · refine Or.inl ⟨e1, fun i hi => ?_, e3⟩
        by_cases hk : i = k
        · subst hk
          simpa using hb
        · exact e2 i (by omega)
      · exact Or.inr e1
theorem gm_mx2_mg {lo hi : Nat → Nat} {n : Nat} (ok : gm_ok lo hi n) {p : Nat} (hp : p < 2 ^ n) : (gm_mx2 lo hi n (gm_mg lo hi n) p n).getD 0 = gm_mg lo hi n p := by
  rw [gm_mg_eq]
  unfold gm_F
  rcases gm_mx2_eq (lo := lo) (hi := hi) (n := n) (f := gm_mg lo hi n) (p := p) n (fun i hi hb => (gm_gv_8 ok hp hi hb).1) with ⟨e1, e2, -⟩ | e1
  · have h0 : p = 0 := by
      rcases Nat.eq_zero_or_pos p with h | h
      · exact h
      · obtain ⟨i, hi, hb⟩ := gm_bit_of (by omega) hp
        rw [e2 i hi] at hb
        cases hb
    rw [e1, if_pos h0]
    rfl
  · by_cases h0 : p = 0
    · subst h0
      have h1 : ∀ k, gm_mx2 lo hi n (gm_mg lo hi n) 0 k = none := by
        intro k
        induction k with
        | zero => rfl
        | succ k ih => unfold gm_mx2; simp [ih]
      rw [h1, if_pos rfl]
      rfl
    · rw [e1, if_neg h0]
      rfl
end
section
/-! nim values -/
/-- the first place with b, from i on, k places at the most -/
def gm_fst (b : Nat → Bool) : Nat → Nat → Nat
  | 0, i => i
  | k + 1, i => if b i = true then i else gm_fst b k (i + 1)
theorem gm_fst_spec (b : Nat → Bool) : ∀ (k i : Nat), i ≤ gm_fst b k i ∧ gm_fst b k i ≤ i + k ∧ (gm_fst b k i < i + k → b (gm_fst b k i) = true) ∧ ∀ j, i ≤ j → j < gm_fst b k i → b j = false := by
  intro k
  induction k with
  | zero => intro i; exact ⟨Nat.le_refl _, Nat.le_refl _, fun h => absurd h (Nat.lt_irrefl _), fun j h1 h2 => absurd h2 (by unfold gm_fst; omega)⟩
  | succ k ih =>
    intro i
    unfold gm_fst
    by_cases hb : b i = true
    · rw [if_pos hb]
      exact ⟨Nat.le_refl _, by omega, fun _ => hb, fun j h1 h2 => by omega⟩
    · rw [if_neg hb]
      obtain ⟨h1, h2, h3, h4⟩ := ih (i + 1)
      refine ⟨by omega, by omega, fun h => h3 (by omega), fun j h5 h6 => ?_⟩
      by_cases hj : j = i
      · subst hj
        simpa using hb
      · exact h4 j (by omega) h6
def gm_least (b : Nat → Bool) : Nat := gm_fst b 12 0
theorem gm_least_le (b : Nat → Bool) : gm_least b ≤ 12 := by
  have := (gm_fst_spec b 12 0).2.1
  unfold gm_least
  omega
theorem gm_least_is {b : Nat → Bool} (h : gm_least b < 12) : b (gm_least b) = true := (gm_fst_spec b 12 0).2.2.1 (by unfold gm_least at h; omega)
theorem gm_least_no {b : Nat → Bool} {j : Nat} (h : j < gm_least b) : b j = false := (gm_fst_spec b 12 0).2.2.2 j (Nat.zero_le _) h
theorem gm_least_le_of {b : Nat → Bool} {j : Nat} (h : b j = true) : gm_least b ≤ j := by
  rcases Nat.lt_or_ge j (gm_least b) with h1 | h1
  · rw [gm_least_no h1] at h
    cases h
  · exact h1
theorem gm_least_eq {b : Nat → Bool} {k : Nat} (hk : k ≤ 12) (h1 : k < 12 → b k = true) (h2 : ∀ j, j < k → b j = false) : gm_least b = k := by
  rcases Nat.lt_trichotomy (gm_least b) k with h | h | h
  · have h3 := gm_least_is (b := b) (by omega)
    rw [h2 _ h] at h3
    cases h3
  · exact h
  · have h3 := gm_least_no h
    have h4 := gm_least_le b
    rw [h1 (by omega)] at h3
    cases h3
theorem gm_fst_congr {b c : Nat → Bool} : ∀ (k i : Nat), (∀ j, i ≤ j → j < i + k → b j = c j) → gm_fst b k i = gm_fst c k i := by
  intro k
  induction k with
  | zero => intro i _; rfl
  | succ k ih =>
    intro i h
    unfold gm_fst
    rw [h i (Nat.le_refl _) (by omega), ih (i + 1) (fun j h1 h2 => h j (by omega) (by omega))]
theorem gm_least_congr {b c : Nat → Bool} (h : ∀ j, j < 12 → b j = c j) : gm_least b = gm_least c := gm_fst_congr 12 0 (fun j _ h2 => h j (by omega))
/-- how many strings -/
def gm_pc (p : Nat) : Nat := gm_sum (fun j => if p.testBit j = true then 1 else 0) 12
theorem gm_pc_le (p : Nat) : gm_pc p ≤ 12 := gm_sum_le (fun c => by show (if _ then 1 else 0) ≤ 1; split <;> omega) 12
theorem gm_pc_wo {p i : Nat} (hi : i < 12) (hp : p.testBit i = true) : gm_pc p = gm_pc (bq_wo p i) + 1 := by
  have h := gm_sum_add (f := fun j => if p.testBit j = true then 1 else 0) (g := fun j => if (bq_wo p i).testBit j = true then 1 else 0) (h := fun c => if c = i then 1 else 0) (fun c => by
    show (if p.testBit c = true then 1 else 0) = (if (bq_wo p i).testBit c = true then 1 else 0) + (if c = i then 1 else 0)
    rw [bq_wo_tb]
    by_cases hc : c = i
    · subst hc
      rw [hp]
      simp
    · have hc' : ¬ i = c := fun e => hc e.symm
      simp [hc, hc']) 12
  rw [gm_sum_one, if_pos hi] at h
  exact h
/-- quiet values, taking values, whether a cut that takes leaves a loony position: of the first k strings -/
def gm_st (lo hi : Nat → Nat) (n : Nat) (f : Nat → Int) (p : Nat) : Nat → Nat × Nat × Bool
  | 0 => (0, 0, false)
  | i + 1 => if p.testBit i = true then
      (if f (bq_wo p i) = -1 then ((gm_st lo hi n f p i).1, (gm_st lo hi n f p i).2.1, (gm_st lo hi n f p i).2.2 || decide (0 < gm_tk lo hi n p i))
      else if 0 < gm_tk lo hi n p i then ((gm_st lo hi n f p i).1, (gm_st lo hi n f p i).2.1 ||| 2 ^ (f (bq_wo p i)).toNat, (gm_st lo hi n f p i).2.2)
      else ((gm_st lo hi n f p i).1 ||| 2 ^ (f (bq_wo p i)).toNat, (gm_st lo hi n f p i).2.1, (gm_st lo hi n f p i).2.2))
    else gm_st lo hi n f p i
def gm_out (q : Nat × Nat × Bool) : Int := if q.2.2 = true then -1 else if q.2.1 = 0 then (gm_least (fun i => !q.1.testBit i) : Int)
  else if 1 < gm_pc q.2.1 ∨ q.2.1 &&& q.1 ≠ 0 then -1 else (gm_least (fun i => q.2.1.testBit i) : Int)
def gm_NF (lo hi : Nat → Nat) (n : Nat) (f : Nat → Int) (p : Nat) : Int := gm_out (gm_st lo hi n f p n)
def gm_nm (lo hi : Nat → Nat) (n p : Nat) : Int := gm_vl (gm_NF lo hi n) p
theorem gm_st_loc {lo hi : Nat → Nat} {n : Nat} {f g : Nat → Int} {p : Nat} (h : ∀ q, q < p → f q = g q) (k : Nat) : gm_st lo hi n f p k = gm_st lo hi n g p k := by
  induction k with
  | zero => rfl
  | succ k ih =>
    unfold gm_st
    by_cases hb : p.testBit k = true
    · rw [if_pos hb, if_pos hb, ih, h _ (bq_wo_lt hb)]
    · rw [if_neg hb, if_neg hb, ih]
theorem gm_NF_loc (lo hi : Nat → Nat) (n : Nat) : gm_loc (gm_NF lo hi n) := by
  intro f g p h
  unfold gm_NF
  rw [gm_st_loc h]
theorem gm_nm_eq (lo hi : Nat → Nat) (n p : Nat) : gm_nm lo hi n p = gm_NF lo hi n (gm_nm lo hi n) p := gm_vl_eq (gm_NF_loc lo hi n) p
theorem gm_or_lt {a b k : Nat} (ha : a < 2 ^ k) (hb : b < 2 ^ k) : a ||| b < 2 ^ k := Nat.or_lt_two_pow ha hb
theorem gm_st_lt {lo hi : Nat → Nat} {n : Nat} {f : Nat → Int} {p m : Nat} : ∀ k : Nat, (∀ i, i < k → p.testBit i = true → f (bq_wo p i) < m) → (∀ i, i < k → p.testBit i = true → -1 ≤ f (bq_wo p i)) → (gm_st lo hi n f p k).1 < 2 ^ m ∧ (gm_st lo hi n f p k).2.1 < 2 ^ m := by
  intro k
  induction k with
  | zero => intro _ _; exact ⟨Nat.two_pow_pos m, Nat.two_pow_pos m⟩
  | succ k ih =>
    intro h h0
    obtain ⟨i1, i2⟩ := ih (fun i hi => h i (by omega)) (fun i hi => h0 i (by omega))
    unfold gm_st
    by_cases hb : p.testBit k = true
    · rw [if_pos hb]
      have h1 := h k (by omega) hb
      have h2 := h0 k (by omega) hb
      split
      · exact ⟨i1, i2⟩
      · rename_i hm
        have h3 : 2 ^ (f (bq_wo p k)).toNat < 2 ^ m := Nat.pow_lt_pow_right (by decide) (by omega)
        split
        · exact ⟨i1, gm_or_lt i2 h3⟩
        · exact ⟨gm_or_lt i1 h3, i2⟩
    · rw [if_neg hb]
      exact ⟨i1, i2⟩
theorem gm_nm_bd {lo hi : Nat → Nat} {n : Nat} (hn : n ≤ 12) (p : Nat) (hp : p < 2 ^ n) : -1 ≤ gm_nm lo hi n p ∧ gm_nm lo hi n p ≤ gm_pc p := by
  induction p using Nat.strongRecOn with
  | _ p ih =>
    have hv : ∀ i, i < n → p.testBit i = true → -1 ≤ gm_nm lo hi n (bq_wo p i) ∧ gm_nm lo hi n (bq_wo p i) < gm_pc p := by
      intro i hi hb
      have hlt := bq_wo_lt hb
      obtain ⟨h1, h2⟩ := ih _ hlt (by omega)
      have h3 := gm_pc_wo (by omega : i < 12) hb
      omega
    obtain ⟨q1, q2⟩ := gm_st_lt (lo := lo) (hi := hi) (n := n) (f := gm_nm lo hi n) (p := p) (m := gm_pc p) n (fun i hi hb => (hv i hi hb).2) (fun i hi hb => (hv i hi hb).1)
    rw [gm_nm_eq]
    unfold gm_NF gm_out
    split
    · omega
    · split
      · refine ⟨by omega, ?_⟩
        have h1 : gm_least (fun i => !(gm_st lo hi n (gm_nm lo hi n) p n).1.testBit i) ≤ gm_pc p := gm_least_le_of (by
          rw [bq_of_lt q1 (Nat.le_refl _)]
          rfl)
        omega
      · rename_i h0
        split
        · omega
        · refine ⟨by omega, ?_⟩
          obtain ⟨j, hj, hb⟩ := gm_bit_of h0 q2
          have h1 : gm_least (fun i => (gm_st lo hi n (gm_nm lo hi n) p n).2.1.testBit i) ≤ j := gm_least_le_of hb
          omega
theorem gm_nm_12 {lo hi : Nat → Nat} {n : Nat} (hn : n ≤ 12) {p : Nat} (hp : p < 2 ^ n) : -1 ≤ gm_nm lo hi n p ∧ gm_nm lo hi n p ≤ 12 := by
  have h := gm_nm_bd (lo := lo) (hi := hi) hn p hp
  have := gm_pc_le p
  omega
theorem gm_nm_11 {lo hi : Nat → Nat} {n : Nat} (hn : n ≤ 12) {p i : Nat} (hp : p < 2 ^ n) (hi' : i < n) (hb : p.testBit i = true) : -1 ≤ gm_nm lo hi n (bq_wo p i) ∧ gm_nm lo hi n (bq_wo p i) ≤ 11 := by
  have hlt := bq_wo_lt hb
  have h := gm_nm_bd (lo := lo) (hi := hi) hn (bq_wo p i) (by omega)
  have h1 := gm_pc_wo (by omega : i < 12) hb
  have := gm_pc_le p
  omega
/-- the masks stay under 4096 -/
theorem gm_st_12 {lo hi : Nat → Nat} {n : Nat} (hn : n ≤ 12) {p : Nat} (hp : p < 2 ^ n) {k : Nat} (hk : k ≤ n) : (gm_st lo hi n (gm_nm lo hi n) p k).1 < 4096 ∧ (gm_st lo hi n (gm_nm lo hi n) p k).2.1 < 4096 :=
  gm_st_lt (m := 12) k (fun i hz hb => by have := gm_nm_11 (lo := lo) (hi := hi) hn hp (by omega : i < n) hb; omega) (fun i hi hb => (gm_nm_11 hn hp (by omega : i < n) hb).1)
/-- whether a cut takes: of the first k strings -/
def gm_tks (lo hi : Nat → Nat) (n p : Nat) : Nat → Bool
  | 0 => false
  | i + 1 => gm_tks lo hi n p i || (p.testBit i && decide (0 < gm_tk lo hi n p i))
theorem gm_tks_eq {lo hi : Nat → Nat} {n : Nat} {f : Nat → Int} {p : Nat} (k : Nat) : gm_tks lo hi n p k = false ↔ (gm_st lo hi n f p k).2.1 = 0 ∧ (gm_st lo hi n f p k).2.2 = false := by
  induction k with
  | zero => simp [gm_tks, gm_st]
  | succ k ih =>
    unfold gm_tks gm_st
    by_cases hb : p.testBit k = true
    · rw [if_pos hb, hb]
      by_cases h1 : 0 < gm_tk lo hi n p k
      · split
        · simp [h1]
        · have h2 : (gm_st lo hi n f p k).2.1 ||| 2 ^ (f (bq_wo p k)).toNat ≠ 0 := by
            intro h
            have h3 : ((gm_st lo hi n f p k).2.1 ||| 2 ^ (f (bq_wo p k)).toNat).testBit (f (bq_wo p k)).toNat = false := by rw [h]; simp
            rw [Nat.testBit_or, Nat.testBit_two_pow] at h3
            simp at h3
          simp [h1, h2]
      · split
        · simp [h1, ih]
        · simp [h1, ih]
    · have hb' : p.testBit k = false := by simpa using hb
      rw [if_neg hb, hb']
      simp [ih]
end
section
/-! groups: the least coin of a group leads it; 8: no group -/
def gm_two (lo hi : Nat → Nat) (n p c : Nat) : Prop := c < 8 ∧ gm_pc (p &&& gm_mk lo hi n c) = 2
def gm_uni (L : Nat → Nat) (x y : Nat) : Nat → Nat := fun c => if x = 8 ∨ y = 8 then L c else if L c = max x y then min x y else L c
def gm_L0 (lo hi : Nat → Nat) (n p : Nat) : Nat → Nat := fun c => if c < 8 then (if gm_pc (p &&& gm_mk lo hi n c) = 2 then c else 8) else 8
def gm_L (lo hi : Nat → Nat) (n p : Nat) : Nat → Nat → Nat
  | 0 => gm_L0 lo hi n p
  | i + 1 => if p.testBit i = true then gm_uni (gm_L lo hi n p i) (gm_L lo hi n p i (lo i)) (gm_L lo hi n p i (hi i)) else gm_L lo hi n p i
/-- two coins of groups, joined by a string below k -/
def gm_adj (lo hi : Nat → Nat) (p k a b : Nat) : Prop := ∃ i, i < k ∧ p.testBit i = true ∧ ((lo i = a ∧ hi i = b) ∨ (lo i = b ∧ hi i = a))
/-- what holds of the leaders when k strings are looked at -/
def gm_LI (lo hi : Nat → Nat) (n p k : Nat) (L : Nat → Nat) : Prop :=
  (∀ c, L c = 8 ↔ ¬ gm_two lo hi n p c) ∧ (∀ c, gm_two lo hi n p c → L c ≤ c ∧ L c < 8 ∧ L (L c) = L c) ∧
  (∀ a b, gm_adj lo hi p k a b → gm_two lo hi n p a → gm_two lo hi n p b → L a = L b) ∧
  (∀ M : Nat → Prop, (∀ a b, gm_adj lo hi p k a b → gm_two lo hi n p a → gm_two lo hi n p b → M b → M a) → ∀ a b, gm_two lo hi n p a → gm_two lo hi n p b → L a = L b → M b → M a)
theorem gm_adj_sym {lo hi : Nat → Nat} {p k a b : Nat} (h : gm_adj lo hi p k a b) : gm_adj lo hi p k b a := by
  obtain ⟨i, h1, h2, h3⟩ := h
  exact ⟨i, h1, h2, h3.symm⟩
theorem gm_LI0 (lo hi : Nat → Nat) (n p : Nat) : gm_LI lo hi n p 0 (gm_L0 lo hi n p) := by
  have hL : ∀ c, gm_two lo hi n p c → gm_L0 lo hi n p c = c := fun c hc => by
    unfold gm_L0
    rw [if_pos hc.1, if_pos hc.2]
  refine ⟨fun c => ⟨fun h hc => ?_, fun h => ?_⟩, fun c hc => ?_, fun a b h => ?_, fun M _ a b ha hb h hm => ?_⟩
  · rw [hL c hc] at h
    have := hc.1
    omega
  · unfold gm_L0
    by_cases h8 : c < 8
    · rw [if_pos h8, if_neg (fun h2 => h ⟨h8, h2⟩)]
    · rw [if_neg h8]
  · rw [hL c hc]
    exact ⟨Nat.le_refl _, hc.1, hL c hc⟩
  · obtain ⟨i, h1, -⟩ := h
    omega
  · rw [hL a ha, hL b hb] at h
    subst h
    exact hm
theorem gm_LI_uni {lo hi : Nat → Nat} {n p k : Nat} {L : Nat → Nat} (h : gm_LI lo hi n p k L) (hb : p.testBit k = true) : gm_LI lo hi n p (k + 1) (gm_uni L (L (lo k)) (L (hi k))) := by
  obtain ⟨h1, h2, h3, h4⟩ := h
  have adjS : ∀ a b, gm_adj lo hi p (k + 1) a b → gm_adj lo hi p k a b ∨ ((lo k = a ∧ hi k = b) ∨ (lo k = b ∧ hi k = a)) := by
    rintro a b ⟨i, q1, q2, q3⟩
    by_cases hi' : i = k
    · subst hi'
      exact Or.inr q3
    · exact Or.inl ⟨i, by omega, q2, q3⟩
  have adjU : ∀ a b, gm_adj lo hi p k a b → gm_adj lo hi p (k + 1) a b := by
    rintro a b ⟨i, q1, q2, q3⟩
    exact ⟨i, by omega, q2, q3⟩
  by_cases h8 : L (lo k) = 8 ∨ L (hi k) = 8
  · have e : gm_uni L (L (lo k)) (L (hi k)) = L := by
      funext c
      unfold gm_uni
      rw [if_pos h8]
    rw [e]
    refine ⟨h1, h2, fun a b hab ha hb' => ?_, fun M hM => h4 M (fun a b hab => hM a b (adjU a b hab))⟩
    rcases adjS a b hab with q | q
    · exact h3 a b q ha hb'
    · exfalso
      have n1 := fun z => (h1 (lo k)).mp z
      have n2 := fun z => (h1 (hi k)).mp z
      rcases q with ⟨q1, q2⟩ | ⟨q1, q2⟩
      · rcases h8 with z | z
        · exact n1 z (q1 ▸ ha)
        · exact n2 z (q2 ▸ hb')
      · rcases h8 with z | z
        · exact n1 z (q1 ▸ hb')
        · exact n2 z (q2 ▸ ha)
  · have hx : gm_two lo hi n p (lo k) := Classical.byContradiction (fun z => h8 (Or.inl ((h1 _).mpr z)))
    have hy : gm_two lo hi n p (hi k) := Classical.byContradiction (fun z => h8 (Or.inr ((h1 _).mpr z)))
    obtain ⟨x1, x2, x3⟩ := h2 _ hx
    obtain ⟨y1, y2, y3⟩ := h2 _ hy
    have e : ∀ c, gm_uni L (L (lo k)) (L (hi k)) c = if L c = max (L (lo k)) (L (hi k)) then min (L (lo k)) (L (hi k)) else L c := fun c => by
      unfold gm_uni
      rw [if_neg h8]
    generalize hX : L (lo k) = X at *
    generalize hY : L (hi k) = Y at *
    refine ⟨fun c => ?_, fun c hc => ?_, fun a b hab ha hb' => ?_, fun M hM a b ha hb' hl hm => ?_⟩
    · rw [e]
      constructor
      · intro h
        split at h
        · omega
        · exact (h1 c).mp h
      · intro h
        have h5 := (h1 c).mpr h
        rw [if_neg (by omega)]
        exact h5
    · obtain ⟨c1, c2, c3⟩ := h2 c hc
      rw [e c]
      split
      · rename_i h5
        refine ⟨by omega, by omega, ?_⟩
        rw [e]
        have h6 : L (min X Y) = min X Y := by
          rcases Nat.le_total X Y with q | q
          · rw [Nat.min_eq_left q]; exact x3
          · rw [Nat.min_eq_right q]; exact y3
        rw [h6]
        split <;> omega
      · rename_i h5
        refine ⟨c1, c2, ?_⟩
        rw [e, c3, if_neg h5]
    · rcases adjS a b hab with q | q
      · rw [e, e, h3 a b q ha hb']
      · have hm : ∀ v, v = X ∨ v = Y → (if v = max X Y then min X Y else v) = min X Y := by
          intro v hv
          rcases hv with rfl | rfl <;> split <;> omega
        rcases q with ⟨q1, q2⟩ | ⟨q1, q2⟩
        · subst q1; subst q2
          rw [e, e, hX, hY, hm X (Or.inl rfl), hm Y (Or.inr rfl)]
        · subst q1; subst q2
          rw [e, e, hX, hY, hm X (Or.inl rfl), hm Y (Or.inr rfl)]
    · have hM' : ∀ a b, gm_adj lo hi p k a b → gm_two lo hi n p a → gm_two lo hi n p b → M b → M a := fun a b hab => hM a b (adjU a b hab)
      have key := h4 M hM'
      have exy : M (lo k) ↔ M (hi k) := ⟨hM (hi k) (lo k) ⟨k, by omega, hb, Or.inr ⟨rfl, rfl⟩⟩ hy hx, hM (lo k) (hi k) ⟨k, by omega, hb, Or.inl ⟨rfl, rfl⟩⟩ hx hy⟩
      have toX : ∀ c, gm_two lo hi n p c → L c = X ∨ L c = Y → (M c ↔ M (lo k)) := by
        intro c hc hv
        rcases hv with hv | hv
        · exact ⟨key (lo k) c hx hc (by rw [hX, hv]), key c (lo k) hc hx (by rw [hX, hv])⟩
        · rw [exy]
          exact ⟨key (hi k) c hy hc (by rw [hY, hv]), key c (hi k) hc hy (by rw [hY, hv])⟩
      rw [e, e] at hl
      by_cases ea : L a = L b
      · exact key a b ha hb' ea hm
      · have hab : (L a = X ∨ L a = Y) ∧ (L b = X ∨ L b = Y) := by
          split at hl <;> split at hl <;> omega
        exact (toX a ha hab.1).mpr ((toX b hb' hab.2).mp hm)
theorem gm_LI_ok (lo hi : Nat → Nat) (n p : Nat) : ∀ k, gm_LI lo hi n p k (gm_L lo hi n p k) := by
  intro k
  induction k with
  | zero => exact gm_LI0 lo hi n p
  | succ k ih =>
    unfold gm_L
    by_cases hb : p.testBit k = true
    · rw [if_pos hb]
      exact gm_LI_uni ih hb
    · rw [if_neg hb]
      obtain ⟨h1, h2, h3, h4⟩ := ih
      have e : ∀ a b, gm_adj lo hi p (k + 1) a b ↔ gm_adj lo hi p k a b := by
        intro a b
        constructor
        · rintro ⟨i, q1, q2, q3⟩
          have : i ≠ k := fun z => hb (z ▸ q2)
          exact ⟨i, by omega, q2, q3⟩
        · rintro ⟨i, q1, q2, q3⟩
          exact ⟨i, by omega, q2, q3⟩
      exact ⟨h1, h2, fun a b hab => h3 a b ((e a b).mp hab), fun M hM => h4 M (fun a b hab => hM a b ((e a b).mpr hab))⟩
end
section
/-! ranks of leaders -/
def gm_ldr (L : Nat → Nat) (c : Nat) : Nat := if L c = c then 1 else 0
def gm_rk (L : Nat → Nat) (v : Nat) : Nat := gm_sum (gm_ldr L) v
theorem gm_rk_mono (L : Nat → Nat) {a b : Nat} (h : a ≤ b) : gm_rk L a ≤ gm_rk L b := by
  induction b with
  | zero =>
    have : a = 0 := by omega
    subst this
    exact Nat.le_refl _
  | succ b ih =>
    by_cases hb : a = b + 1
    · subst hb
      exact Nat.le_refl _
    · have := ih (by omega)
      have h2 : gm_rk L (b + 1) = gm_rk L b + gm_ldr L b := rfl
      omega
theorem gm_rk_lt {L : Nat → Nat} {a b : Nat} (ha : L a = a) (h : a < b) : gm_rk L a < gm_rk L b := by
  have h1 := gm_rk_mono L (show a + 1 ≤ b by omega)
  have h2 : gm_rk L (a + 1) = gm_rk L a + gm_ldr L a := rfl
  have h3 : gm_ldr L a = 1 := if_pos ha
  omega
theorem gm_rk_inj {L : Nat → Nat} {a b : Nat} (ha : L a = a) (hb : L b = b) (h : gm_rk L a = gm_rk L b) : a = b := by
  rcases Nat.lt_trichotomy a b with q | q | q
  · have := gm_rk_lt ha q
    omega
  · exact q
  · have := gm_rk_lt hb q
    omega
theorem gm_rk_ex {L : Nat → Nat} {g : Nat} : ∀ v : Nat, g < gm_rk L v → ∃ c, c < v ∧ L c = c ∧ gm_rk L c = g := by
  intro v
  induction v with
  | zero => intro h; exact absurd h (Nat.not_lt_zero _)
  | succ v ih =>
    intro h
    by_cases h1 : g < gm_rk L v
    · obtain ⟨c, a1, a2, a3⟩ := ih h1
      exact ⟨c, by omega, a2, a3⟩
    · have h2 : gm_rk L (v + 1) = gm_rk L v + gm_ldr L v := rfl
      have h3 : gm_ldr L v = 0 ∨ (gm_ldr L v = 1 ∧ L v = v) := by
        unfold gm_ldr
        split
        · exact Or.inr ⟨rfl, by assumption⟩
        · exact Or.inl rfl
      rcases h3 with h3 | ⟨h3, h4⟩
      · omega
      · exact ⟨v, by omega, h4, by omega⟩
/-! the text -/
def gm_str (lo hi : Nat → Nat) (i : Nat) : List Nat := (if 9 < i then [49] else []) ++ [48 + i % 10, 58, 48 + lo i] ++ (if hi i = 8 then [61] else [45, 48 + hi i]) ++ [59]
def gm_txt (lo hi : Nat → Nat) (p : Nat) : Nat → List Nat
  | 0 => []
  | i + 1 => if p.testBit i = true then gm_txt lo hi p i ++ gm_str lo hi i else gm_txt lo hi p i
theorem gm_str_le (lo hi : Nat → Nat) (i : Nat) : (gm_str lo hi i).length ≤ 7 := by
  unfold gm_str
  split <;> split <;> simp
theorem gm_txt_le (lo hi : Nat → Nat) (p k : Nat) : (gm_txt lo hi p k).length ≤ 7 * k := by
  induction k with
  | zero => exact Nat.le_refl _
  | succ k ih =>
    unfold gm_txt
    have := gm_str_le lo hi k
    split
    · rw [List.length_append]
      omega
    · omega
/-! the run: the cuts, newest first -/
def gm_run (lo hi : Nat → Nat) (n : Nat) : List Nat → Nat × Nat × Nat × Nat
  | [] => (2 ^ n - 1, 0, 0, 0)
  | i :: r => (bq_wo (gm_run lo hi n r).1 i,
      if 0 < gm_tk lo hi n (gm_run lo hi n r).1 i then (gm_run lo hi n r).2.1 else 1 - (gm_run lo hi n r).2.1,
      (gm_run lo hi n r).2.2.1 + (if (gm_run lo hi n r).2.1 = 0 then gm_tk lo hi n (gm_run lo hi n r).1 i else 0),
      (gm_run lo hi n r).2.2.2 + (if (gm_run lo hi n r).2.1 = 0 then 0 else gm_tk lo hi n (gm_run lo hi n r).1 i))
def gm_val (lo hi : Nat → Nat) (n : Nat) : List Nat → Prop
  | [] => True
  | i :: r => i < n ∧ (gm_run lo hi n r).1.testBit i = true ∧ gm_val lo hi n r
theorem gm_run_p {lo hi : Nat → Nat} {n : Nat} : ∀ cs : List Nat, (gm_run lo hi n cs).1 < 2 ^ n := by
  intro cs
  induction cs with
  | nil =>
    have := Nat.two_pow_pos n
    show 2 ^ n - 1 < 2 ^ n
    omega
  | cons i r ih => exact Nat.lt_of_le_of_lt (bq_wo_le _ _) ih
theorem gm_run_w {lo hi : Nat → Nat} {n : Nat} : ∀ cs : List Nat, (gm_run lo hi n cs).2.1 ≤ 1 := by
  intro cs
  induction cs with
  | nil => exact Nat.zero_le _
  | cons i r ih =>
    show (if _ then _ else _) ≤ 1
    split
    · exact ih
    · exact Nat.sub_le _ _
theorem gm_pc_full : ∀ n, n ≤ 12 → gm_pc (2 ^ n - 1) = n := by
  intro n hn
  have : ∀ n, n < 13 → gm_pc (2 ^ n - 1) = n := by decide +kernel
  exact this n (by omega)
theorem gm_run_len {lo hi : Nat → Nat} {n : Nat} (hn : n ≤ 12) : ∀ cs : List Nat, gm_val lo hi n cs → gm_pc (gm_run lo hi n cs).1 + cs.length = n := by
  intro cs
  induction cs with
  | nil => intro _; exact gm_pc_full n hn
  | cons i r ih =>
    intro h
    obtain ⟨h1, h2, h3⟩ := h
    have h4 := ih h3
    have h5 := gm_pc_wo (by omega : i < 12) h2
    show gm_pc (bq_wo _ i) + (r.length + 1) = n
    omega
theorem gm_pc_pos {p i : Nat} (hi : i < 12) (h : p.testBit i = true) : 0 < gm_pc p := by
  have := gm_pc_wo hi h
  omega
end
section
/-! small whole numbers as ints -/
def iZ (z : Int) : Int32 := Int32.ofInt z
theorem iZ_nat (n : Nat) : iZ (n : Int) = nI n := by
  show Int32.ofInt (n : Int) = Int32.ofNat n
  exact Int32.ofInt_eq_ofNat
theorem iZ_tab : ∀ k, k < 256 → (Int32.ofInt ((k : Int) - 128)).toInt = (k : Int) - 128 ∧ (Int32.ofInt ((k : Int) - 128)).toInt8.toInt32 = Int32.ofInt ((k : Int) - 128) := by decide +kernel
theorem iZ_at {z : Int} (h1 : -128 ≤ z) (h2 : z ≤ 127) : (iZ z).toInt = z ∧ (iZ z).toInt8.toInt32 = iZ z := by
  obtain ⟨k, hk⟩ : ∃ k : Nat, z = (k : Int) - 128 := ⟨(z + 128).toNat, by omega⟩
  subst hk
  exact iZ_tab k (by omega)
theorem iZ_toInt {z : Int} (h1 : -128 ≤ z) (h2 : z ≤ 127) : (iZ z).toInt = z := (iZ_at h1 h2).1
theorem iZ_byte {z : Int} (h1 : -128 ≤ z) (h2 : z ≤ 127) : (iZ z).toInt8.toInt32 = iZ z := (iZ_at h1 h2).2
theorem iZ_nar {z : Int} (h1 : -128 ≤ z) (h2 : z ≤ 127) : vp_nar .byte (iZ z) = iZ z := by
  rw [vp_nar_byte]
  exact iZ_byte h1 h2
theorem iZ_lt {a b : Int} (a1 : -128 ≤ a) (a2 : a ≤ 127) (b1 : -128 ≤ b) (b2 : b ≤ 127) : iZ a < iZ b ↔ a < b := by
  rw [Int32.lt_iff_toInt_lt, iZ_toInt a1 a2, iZ_toInt b1 b2]
theorem iZ_inj {a b : Int} (a1 : -128 ≤ a) (a2 : a ≤ 127) (b1 : -128 ≤ b) (b2 : b ≤ 127) : iZ a = iZ b ↔ a = b := by
  rw [← Int32.toInt_inj, iZ_toInt a1 a2, iZ_toInt b1 b2]
theorem iZ_add (a b : Int) : iZ a + iZ b = iZ (a + b) := (Int32.ofInt_add a b).symm
theorem iZ_neg (a : Int) : -iZ a = iZ (-a) := (Int32.ofInt_neg a).symm
theorem iZ_m1 : iZ (-1) = (-1 : Int32) := by decide +kernel
/-- an end as the programs hold it: 8 is the ground -/
def og (c : Nat) : Int32 := if c = 8 then -1 else nI c
theorem og_8 : og 8 = -1 := rfl
theorem og_lt {c : Nat} (h : c < 8) : og c = nI c := if_neg (by omega)
theorem og_tab : ∀ a, a < 9 → ∀ b, b < 9 → (og a = og b ↔ a = b) := by decide +kernel
theorem og_inj {a b : Nat} (ha : a ≤ 8) (hb : b ≤ 8) : og a = og b ↔ a = b := og_tab a (by omega) b (by omega)
theorem og_m1 {a : Nat} (ha : a ≤ 8) : og a = -1 ↔ a = 8 := by
  have h := og_inj ha (Nat.le_refl 8)
  rw [og_8] at h
  exact h
end
