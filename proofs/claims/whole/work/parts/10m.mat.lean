section KWM
variable {p : Program} {l : Launch} {e : Env} {R : Room} {s : State} {m : MethodId} {args : Array Value} {below : List Frame} {meth : Method} {c : Code} {cells slots : Nat} {Q : State → Prop}
variable {cc : ByteArray} {nL : Nat} {own : String} {Ts : List Cond} {D : va_G} {cl : List vw_C} {tys : List (ClassId × FieldType)} {A : Nat → Prop}
variable {ws : va_W} {pc : Nat} {lv : List (Option Value)} {rest : List Value}
theorem kw_if_eq2 (X : kw_X p s m args c cc nL own Ts D cl tys A) {x : Int32} {off : Int} {tgt : Nat} (d : decode cc pc = .ok (.ifCond .eq off, 3)) (ht : (pc : Int) + off = (tgt : Int)) (k : (x = 0 → kw_W p l e R s m args below meth c nL D cl A cells slots Q ws (tgt) (lv) (rest)) ∧ (¬ x = 0 → kw_W p l e R s m args below meth c nL D cl A cells slots Q ws (pc + 3) (lv) (rest))) : kw_W p l e R s m args below meth c nL D cl A cells slots Q ws (pc) (lv) (.int x :: rest) := kw_if_eq X d ht k.1 k.2
theorem kw_if_ne2 (X : kw_X p s m args c cc nL own Ts D cl tys A) {x : Int32} {off : Int} {tgt : Nat} (d : decode cc pc = .ok (.ifCond .ne off, 3)) (ht : (pc : Int) + off = (tgt : Int)) (k : (¬ x = 0 → kw_W p l e R s m args below meth c nL D cl A cells slots Q ws (tgt) (lv) (rest)) ∧ (x = 0 → kw_W p l e R s m args below meth c nL D cl A cells slots Q ws (pc + 3) (lv) (rest))) : kw_W p l e R s m args below meth c nL D cl A cells slots Q ws (pc) (lv) (.int x :: rest) := kw_if_ne X d ht k.1 k.2
theorem kw_if_lt2 (X : kw_X p s m args c cc nL own Ts D cl tys A) {x : Int32} {off : Int} {tgt : Nat} (d : decode cc pc = .ok (.ifCond .lt off, 3)) (ht : (pc : Int) + off = (tgt : Int)) (k : (x < 0 → kw_W p l e R s m args below meth c nL D cl A cells slots Q ws (tgt) (lv) (rest)) ∧ (¬ x < 0 → kw_W p l e R s m args below meth c nL D cl A cells slots Q ws (pc + 3) (lv) (rest))) : kw_W p l e R s m args below meth c nL D cl A cells slots Q ws (pc) (lv) (.int x :: rest) := kw_if_lt X d ht k.1 k.2
theorem kw_if_ge2 (X : kw_X p s m args c cc nL own Ts D cl tys A) {x : Int32} {off : Int} {tgt : Nat} (d : decode cc pc = .ok (.ifCond .ge off, 3)) (ht : (pc : Int) + off = (tgt : Int)) (k : (0 ≤ x → kw_W p l e R s m args below meth c nL D cl A cells slots Q ws (tgt) (lv) (rest)) ∧ (¬ 0 ≤ x → kw_W p l e R s m args below meth c nL D cl A cells slots Q ws (pc + 3) (lv) (rest))) : kw_W p l e R s m args below meth c nL D cl A cells slots Q ws (pc) (lv) (.int x :: rest) := kw_if_ge X d ht k.1 k.2
theorem kw_if_gt2 (X : kw_X p s m args c cc nL own Ts D cl tys A) {x : Int32} {off : Int} {tgt : Nat} (d : decode cc pc = .ok (.ifCond .gt off, 3)) (ht : (pc : Int) + off = (tgt : Int)) (k : (0 < x → kw_W p l e R s m args below meth c nL D cl A cells slots Q ws (tgt) (lv) (rest)) ∧ (¬ 0 < x → kw_W p l e R s m args below meth c nL D cl A cells slots Q ws (pc + 3) (lv) (rest))) : kw_W p l e R s m args below meth c nL D cl A cells slots Q ws (pc) (lv) (.int x :: rest) := kw_if_gt X d ht k.1 k.2
theorem kw_if_le2 (X : kw_X p s m args c cc nL own Ts D cl tys A) {x : Int32} {off : Int} {tgt : Nat} (d : decode cc pc = .ok (.ifCond .le off, 3)) (ht : (pc : Int) + off = (tgt : Int)) (k : (x ≤ 0 → kw_W p l e R s m args below meth c nL D cl A cells slots Q ws (tgt) (lv) (rest)) ∧ (¬ x ≤ 0 → kw_W p l e R s m args below meth c nL D cl A cells slots Q ws (pc + 3) (lv) (rest))) : kw_W p l e R s m args below meth c nL D cl A cells slots Q ws (pc) (lv) (.int x :: rest) := kw_if_le X d ht k.1 k.2
theorem kw_icmp_eq2 (X : kw_X p s m args c cc nL own Ts D cl tys A) {x y : Int32} {off : Int} {tgt : Nat} (d : decode cc pc = .ok (.if_icmp .eq off, 3)) (ht : (pc : Int) + off = (tgt : Int)) (k : (x = y → kw_W p l e R s m args below meth c nL D cl A cells slots Q ws (tgt) (lv) (rest)) ∧ (¬ x = y → kw_W p l e R s m args below meth c nL D cl A cells slots Q ws (pc + 3) (lv) (rest))) : kw_W p l e R s m args below meth c nL D cl A cells slots Q ws (pc) (lv) (.int y :: .int x :: rest) := kw_icmp_eq X d ht k.1 k.2
theorem kw_icmp_ne2 (X : kw_X p s m args c cc nL own Ts D cl tys A) {x y : Int32} {off : Int} {tgt : Nat} (d : decode cc pc = .ok (.if_icmp .ne off, 3)) (ht : (pc : Int) + off = (tgt : Int)) (k : (¬ x = y → kw_W p l e R s m args below meth c nL D cl A cells slots Q ws (tgt) (lv) (rest)) ∧ (x = y → kw_W p l e R s m args below meth c nL D cl A cells slots Q ws (pc + 3) (lv) (rest))) : kw_W p l e R s m args below meth c nL D cl A cells slots Q ws (pc) (lv) (.int y :: .int x :: rest) := kw_icmp_ne X d ht k.1 k.2
theorem kw_icmp_lt2 (X : kw_X p s m args c cc nL own Ts D cl tys A) {x y : Int32} {off : Int} {tgt : Nat} (d : decode cc pc = .ok (.if_icmp .lt off, 3)) (ht : (pc : Int) + off = (tgt : Int)) (k : (x < y → kw_W p l e R s m args below meth c nL D cl A cells slots Q ws (tgt) (lv) (rest)) ∧ (¬ x < y → kw_W p l e R s m args below meth c nL D cl A cells slots Q ws (pc + 3) (lv) (rest))) : kw_W p l e R s m args below meth c nL D cl A cells slots Q ws (pc) (lv) (.int y :: .int x :: rest) := kw_icmp_lt X d ht k.1 k.2
theorem kw_icmp_ge2 (X : kw_X p s m args c cc nL own Ts D cl tys A) {x y : Int32} {off : Int} {tgt : Nat} (d : decode cc pc = .ok (.if_icmp .ge off, 3)) (ht : (pc : Int) + off = (tgt : Int)) (k : (y ≤ x → kw_W p l e R s m args below meth c nL D cl A cells slots Q ws (tgt) (lv) (rest)) ∧ (¬ y ≤ x → kw_W p l e R s m args below meth c nL D cl A cells slots Q ws (pc + 3) (lv) (rest))) : kw_W p l e R s m args below meth c nL D cl A cells slots Q ws (pc) (lv) (.int y :: .int x :: rest) := kw_icmp_ge X d ht k.1 k.2
theorem kw_icmp_gt2 (X : kw_X p s m args c cc nL own Ts D cl tys A) {x y : Int32} {off : Int} {tgt : Nat} (d : decode cc pc = .ok (.if_icmp .gt off, 3)) (ht : (pc : Int) + off = (tgt : Int)) (k : (y < x → kw_W p l e R s m args below meth c nL D cl A cells slots Q ws (tgt) (lv) (rest)) ∧ (¬ y < x → kw_W p l e R s m args below meth c nL D cl A cells slots Q ws (pc + 3) (lv) (rest))) : kw_W p l e R s m args below meth c nL D cl A cells slots Q ws (pc) (lv) (.int y :: .int x :: rest) := kw_icmp_gt X d ht k.1 k.2
theorem kw_icmp_le2 (X : kw_X p s m args c cc nL own Ts D cl tys A) {x y : Int32} {off : Int} {tgt : Nat} (d : decode cc pc = .ok (.if_icmp .le off, 3)) (ht : (pc : Int) + off = (tgt : Int)) (k : (x ≤ y → kw_W p l e R s m args below meth c nL D cl A cells slots Q ws (tgt) (lv) (rest)) ∧ (¬ x ≤ y → kw_W p l e R s m args below meth c nL D cl A cells slots Q ws (pc + 3) (lv) (rest))) : kw_W p l e R s m args below meth c nL D cl A cells slots Q ws (pc) (lv) (.int y :: .int x :: rest) := kw_icmp_le X d ht k.1 k.2
theorem kw_matP (X : kw_X p s m args c cc nL own Ts D cl tys A) {q : Prop} {i9 : Decidable q} {pcf pct E : Nat} {na nb off : Int} {a b : Int32} (d1 : decode cc pcf = .ok (.iconst na, 1)) (ha : Int32.ofInt na = a) (d2 : decode cc (pcf + 1) = .ok (.goto off, 3)) (ho : ((pcf + 1 : Nat) : Int) + off = (E : Int)) (d3 : decode cc pct = .ok (.iconst nb, 1)) (hb : Int32.ofInt nb = b) (hE : pct + 1 = E)
    (k : kw_W p l e R s m args below meth c nL D cl A cells slots Q ws (E) (lv) (.int (if q then b else a) :: rest)) : (q → kw_W p l e R s m args below meth c nL D cl A cells slots Q ws (pct) (lv) (rest)) ∧ (¬ q → kw_W p l e R s m args below meth c nL D cl A cells slots Q ws (pcf) (lv) (rest)) := by
  refine ⟨fun hq => kw_iconst X d3 hb ?_, fun hq => kw_iconst X d1 ha (kw_goto X d2 ho ?_)⟩
  · rw [hE]
    rw [if_pos hq] at k
    exact k
  · rw [if_neg hq] at k
    exact k
theorem kw_matN (X : kw_X p s m args c cc nL own Ts D cl tys A) {q : Prop} {i9 : Decidable q} {pcf pct E : Nat} {na nb off : Int} {a b : Int32} (d1 : decode cc pcf = .ok (.iconst na, 1)) (ha : Int32.ofInt na = a) (d2 : decode cc (pcf + 1) = .ok (.goto off, 3)) (ho : ((pcf + 1 : Nat) : Int) + off = (E : Int)) (d3 : decode cc pct = .ok (.iconst nb, 1)) (hb : Int32.ofInt nb = b) (hE : pct + 1 = E)
    (k : kw_W p l e R s m args below meth c nL D cl A cells slots Q ws (E) (lv) (.int (if q then a else b) :: rest)) : (¬ q → kw_W p l e R s m args below meth c nL D cl A cells slots Q ws (pct) (lv) (rest)) ∧ (q → kw_W p l e R s m args below meth c nL D cl A cells slots Q ws (pcf) (lv) (rest)) := by
  refine ⟨fun hq => kw_iconst X d3 hb ?_, fun hq => kw_iconst X d1 ha (kw_goto X d2 ho ?_)⟩
  · rw [hE]
    rw [if_neg hq] at k
    exact k
  · rw [if_pos hq] at k
    exact k
theorem kw_jn {α : Type} (I : α → Prop) (wf : α → va_W) (lf : α → List (Option Value)) (sf : α → List Value) (J : Nat) {st : List Value} (kJ : ∀ a, I a → kw_W p l e R s m args below meth c nL D cl A cells slots Q (wf a) (J) (lf a) (sf a)) (k : (∀ a, I a → kw_W p l e R s m args below meth c nL D cl A cells slots Q (wf a) (J) (lf a) (sf a)) → kw_W p l e R s m args below meth c nL D cl A cells slots Q ws (pc) (lv) (st)) : kw_W p l e R s m args below meth c nL D cl A cells slots Q ws (pc) (lv) (st) := k kJ
end KWM
/-- a boolean as an int -/
def bI (b : Bool) : Int32 := if b = true then nI 1 else nI 0
theorem bI_t : bI true = nI 1 := rfl
theorem bI_f : bI false = nI 0 := rfl
theorem bI_0 {b : Bool} (h : bI b = 0) : b = false := by
  cases b
  · rfl
  · exact absurd h (by decide)
theorem bI_1 {b : Bool} (h : ¬ bI b = 0) : b = true := by
  cases b
  · exact absurd rfl h
  · rfl
theorem bI_or1 {a b : Bool} (h : a = true) : nI 1 = bI (a || b) := by rw [h]; rfl
theorem bI_or2 {a b : Bool} (h : b = true) : nI 1 = bI (a || b) := by rw [h, Bool.or_true]; rfl
theorem bI_or0 {a b : Bool} (h : a = false) (h2 : b = false) : nI 0 = bI (a || b) := by rw [h, h2]; rfl
theorem bI_le {t : Nat} {i : Decidable (nI t ≤ 0)} (ht : t < 2 ^ 31) : (@ite _ (nI t ≤ 0) i (nI 0) (nI 1)) = bI (decide (0 < t)) := by
  by_cases h : 0 < t
  · rw [if_neg (fun z => by have := kq_le (b := 0) z; omega), decide_eq_true h]; rfl
  · rw [if_pos (show nI t ≤ 0 from (nI_leI (b := 0) ht (by omega)).mpr (by omega)), decide_eq_false h]; rfl
theorem bI_nar (b : Bool) : narrow .boolean (.int (bI b)) = .int (bI b) := by cases b <;> rfl
theorem bI_fit (b : Bool) : fits .boolean (.int (bI b)) = true := by cases b <;> rfl
theorem bI_ite {q : Prop} {i : Decidable q} : (@ite _ q i (nI 1) (nI 0)) = bI (@decide q i) := by
  by_cases h : q
  · rw [if_pos h, decide_eq_true h]; rfl
  · rw [if_neg h, decide_eq_false h]; rfl
theorem iZ_pos {z : Int} (h : 0 ≤ z) : iZ z = nI z.toNat := by
  rw [← iZ_nat, Int.toNat_of_nonneg h]
/-- bit i of any int -/
theorem kq_bit (x : Int32) {i : Nat} (hi : i < 31) : (x >>> (nI i &&& 31)) &&& nI 1 = nI 1 ↔ bt x i = true := by
  have h0 : bt (x >>> (nI i &&& 31)) 0 = bt x i := by
    rw [b_sshr i (by omega) x (by omega), Nat.add_zero, if_pos (by omega)]
  constructor
  · intro h
    have h1 : bt ((x >>> (nI i &&& 31)) &&& nI 1) 0 = bt (nI 1) 0 := by rw [h]
    rw [b_and, h0, bq_bt 1 (by omega)] at h1
    simpa using h1
  · intro h
    apply b_ext
    intro j hj
    rw [b_and, bq_bt 1 hj]
    by_cases hj0 : j = 0
    · subst hj0
      rw [h0, h]
      rfl
    · have : (1 : Nat).testBit j = false := Nat.testBit_lt_two_pow (Nat.one_lt_two_pow hj0)
      rw [this, Bool.and_false]
theorem kq_notbit {q i : Nat} (hi : i < 31) : ((nI q ^^^ (-1)) >>> (nI i &&& 31)) &&& nI 1 = nI 1 ↔ (!q.testBit i) = true := by
  rw [kq_bit _ hi, b_xor, bq_bt q (by omega), b_m1 i (by omega)]
  cases q.testBit i <;> simp
