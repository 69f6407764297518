/-! worlds in blocks -/
theorem kb_get {pre x post : va_W} {k n : Nat} (hk : pre.length = k) (hn : x.length = n) : (List.range' k n).map (fun i => (pre ++ (x ++ post))[i]?) = x.map some := by
  subst hk
  subst hn
  apply List.ext_getElem?
  intro i
  rw [List.getElem?_map, List.getElem?_map]
  by_cases hi : i < x.length
  · rw [List.getElem?_range' hi]
    simp only [Option.map_some, Nat.one_mul]
    rw [List.getElem?_append_right (by omega), show pre.length + i - pre.length = i by omega, List.getElem?_append_left hi, List.getElem?_eq_getElem hi]
    rfl
  · rw [List.getElem?_eq_none (by rw [List.length_range']; omega), List.getElem?_eq_none (by omega)]
    rfl
theorem kb_put {pre x y post : va_W} {k n : Nat} (hk : pre.length = k) (hn : x.length = n) (hy : y.length = n) : kw_put (pre ++ (x ++ post)) (List.range' k n) y = pre ++ (y ++ post) := by
  subst hn
  induction x generalizing pre y k with
  | nil =>
    have e : y = [] := List.eq_nil_of_length_eq_zero hy
    subst e
    show (pre ++ ([] ++ post)) ++ [] = _
    rw [List.append_nil]
  | cons a x ih =>
    cases y with
    | nil => cases hy
    | cons b y =>
      have hy' : y.length = x.length := Nat.succ.inj hy
      show kw_put ((pre ++ (a :: x ++ post)).set k b) (List.range' (k + 1) x.length) y = _
      have e : (pre ++ (a :: x ++ post)).set k b = (pre ++ [b]) ++ (x ++ post) := by
        rw [List.set_append_right _ _ (by omega), show k - pre.length = 0 by omega]
        simp
      rw [e, ih (pre := pre ++ [b]) (k := k + 1) (by rw [List.length_append]; simp; omega) hy']
      simp
theorem kb_at {pre post : va_W} {a : Nat × va_E} {k : Nat} (hk : pre.length = k) : (pre ++ a :: post)[k]? = some a := by
  rw [List.getElem?_append_right (by omega), show k - pre.length = 0 by omega]
  rfl
theorem kb_set {pre post : va_W} {a b : Nat × va_E} {k : Nat} (hk : pre.length = k) : (pre ++ a :: post).set k b = pre ++ b :: post := by
  rw [List.set_append_right _ _ (by omega), show k - pre.length = 0 by omega]
  rfl
theorem csP_16 {kI kB kC : ClassId} {ad : Nat → Nat} {n : Nat} {lo hi : Nat → Nat} {bg : Bool} {cs T : List Nat} {w : va_W} (h : csP kI kB kC ad n lo hi bg cs T w) : w.length = 16 := by
  obtain ⟨les, oth, soc, rM, fM, rN, fN, La, ch, cst, ct, tk, rfl, -⟩ := h
  rfl
theorem csP_0 {kI kB kC : ClassId} {ad : Nat → Nat} {n : Nat} {lo hi : Nat → Nat} {bg : Bool} {cs T : List Nat} {w : va_W} (h : csP kI kB kC ad n lo hi bg cs T w) : ∃ fs : List Value, w[0]? = some (ad 0, .inr (0, fs)) := by
  obtain ⟨les, oth, soc, rM, fM, rN, fN, La, ch, cst, ct, tk, rfl, -⟩ := h
  exact ⟨_, rfl⟩
theorem rfP_13 {kI : ClassId} {rd : Nat → Nat} {n : Nat} {lo hi : Nat → Nat} {bg : Bool} {cs T : List Nat} {t : Nat} {S : Bool} {w : va_W} (h : rfP kI rd n lo hi bg cs T t S w) : w.length = 13 := by
  obtain ⟨one, two, own, tk, co, tO, t0, t1, sv, mg, nm, gc, go, tx, rfl, -⟩ := h
  rfl
theorem rfP_0 {kI : ClassId} {rd : Nat → Nat} {n : Nat} {lo hi : Nat → Nat} {bg : Bool} {cs T : List Nat} {t : Nat} {S : Bool} {w : va_W} (h : rfP kI rd n lo hi bg cs T t S w) : ∃ fs : List Value, w[0]? = some (rd 0, .inr (6, fs)) := by
  obtain ⟨one, two, own, tk, co, tO, t0, t1, sv, mg, nm, gc, go, tx, rfl, -⟩ := h
  exact ⟨_, rfl⟩
theorem kb_get0 {x post : va_W} {n : Nat} (hn : x.length = n) : (List.range' 0 n).map (fun i => (x ++ post)[i]?) = x.map some := kb_get (pre := []) rfl hn
theorem kb_put0 {x y post : va_W} {n : Nat} (hn : x.length = n) (hy : y.length = n) : kw_put (x ++ post) (List.range' 0 n) y = y ++ post := kb_put (pre := []) rfl hn hy
