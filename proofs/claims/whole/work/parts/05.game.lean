/-! the game, as numbers: n strings, string i joins the coins lo i and hi i (8: the ground); a position is a natural whose bits are its strings -/
def gm_mk (lo hi : Nat → Nat) : Nat → Nat → Nat
  | 0, _ => 0
  | i + 1, c => gm_mk lo hi i c ||| (if lo i = c ∨ hi i = c then 2 ^ i else 0)
theorem gm_mk_tb (lo hi : Nat → Nat) (n c j : Nat) : (gm_mk lo hi n c).testBit j = decide (j < n ∧ (lo j = c ∨ hi j = c)) := by
  induction n with
  | zero => simp [gm_mk]
  | succ n ih =>
    unfold gm_mk
    rw [Nat.testBit_or, ih]
    by_cases hj : j = n
    · subst hj
      by_cases h : lo j = c ∨ hi j = c
      · rw [if_pos h]
        simp [h, Nat.testBit_two_pow]
      · rw [if_neg h]
        simp [h]
    · have h2 : (if lo n = c ∨ hi n = c then 2 ^ n else 0).testBit j = false := by
        split
        · rw [Nat.testBit_two_pow]
          simp
          omega
        · simp
      rw [h2, Bool.or_false]
      by_cases h : lo j = c ∨ hi j = c
      · simp [h]
        omega
      · simp [h]
theorem gm_mk_lt (lo hi : Nat → Nat) (n c : Nat) : gm_mk lo hi n c < 2 ^ n := bq_lt_of (fun j hj => by
  rw [gm_mk_tb]
  simp
  omega)
theorem gm_mk_congr {lo hi lo' hi' : Nat → Nat} {n : Nat} (h1 : ∀ i, i < n → lo' i = lo i) (h2 : ∀ i, i < n → hi' i = hi i) (c : Nat) : gm_mk lo' hi' n c = gm_mk lo hi n c := by
  apply Nat.eq_of_testBit_eq
  intro j
  rw [gm_mk_tb, gm_mk_tb]
  by_cases hj : j < n
  · rw [h1 j hj, h2 j hj]
  · simp [hj]
/-- how many coins the cut of string i takes, in the position p -/
def gm_tk (lo hi : Nat → Nat) (n p i : Nat) : Nat := (if p &&& gm_mk lo hi n (lo i) = 2 ^ i then 1 else 0) + (if hi i = 8 then 0 else if p &&& gm_mk lo hi n (hi i) = 2 ^ i then 1 else 0)
/-- that no other string holds the coin, said of the rest -/
theorem gm_only {lo hi : Nat → Nat} {n p i c : Nat} (hi' : i < n) (hp : p.testBit i = true) (hc : lo i = c ∨ hi i = c) : gm_mk lo hi n c &&& bq_wo p i = 0 ↔ p &&& gm_mk lo hi n c = 2 ^ i := by
  constructor
  · intro h
    apply Nat.eq_of_testBit_eq
    intro j
    have h1 : (gm_mk lo hi n c &&& bq_wo p i).testBit j = false := by rw [h]; simp
    rw [Nat.testBit_and, bq_wo_tb] at h1
    rw [Nat.testBit_and, Nat.testBit_two_pow]
    by_cases hj : i = j
    · subst hj
      rw [hp, gm_mk_tb]
      simp [hi', hc]
    · simp only [hj, decide_false, Bool.not_false, Bool.and_true] at h1 ⊢
      rw [Bool.and_comm]
      exact h1
  · intro h
    apply Nat.eq_of_testBit_eq
    intro j
    have h1 : (p &&& gm_mk lo hi n c).testBit j = (2 ^ i).testBit j := by rw [h]
    rw [Nat.testBit_and, Nat.testBit_two_pow] at h1
    rw [Nat.testBit_and, bq_wo_tb]
    by_cases hj : i = j
    · subst hj
      simp
    · simp only [hj, decide_false, Bool.not_false, Bool.and_true] at h1 ⊢
      rw [Bool.and_comm, h1]
      simp
/-! a table that is filled from 0 up -/
def gm_tb (F : (Nat → Int) → Nat → Int) : Nat → Nat → Int
  | 0 => fun _ => 0
  | k + 1 => fun q => if q = k then F (gm_tb F k) k else gm_tb F k q
def gm_vl (F : (Nat → Int) → Nat → Int) (p : Nat) : Int := F (gm_tb F p) p
theorem gm_tb_lt (F : (Nat → Int) → Nat → Int) (k q : Nat) (h : q < k) : gm_tb F k q = gm_vl F q := by
  induction k with
  | zero => omega
  | succ k ih =>
    unfold gm_tb
    by_cases hq : q = k
    · simp only [hq, if_pos rfl]
      rfl
    · simp only [hq, if_false]
      exact ih (by omega)
/-- F looks at lesser places alone -/
def gm_loc (F : (Nat → Int) → Nat → Int) : Prop := ∀ (f g : Nat → Int) (p : Nat), (∀ q, q < p → f q = g q) → F f p = F g p
theorem gm_vl_eq {F : (Nat → Int) → Nat → Int} (hF : gm_loc F) (p : Nat) : gm_vl F p = F (gm_vl F) p := hF _ _ p (fun q hq => gm_tb_lt F p q hq)
/-! margins -/
/-- what the cut of i gives -/
def gm_gv (lo hi : Nat → Nat) (n : Nat) (f : Nat → Int) (p i : Nat) : Int := if 0 < gm_tk lo hi n p i then (gm_tk lo hi n p i : Int) + f (bq_wo p i) else - f (bq_wo p i)
def gm_mx (lo hi : Nat → Nat) (n : Nat) (f : Nat → Int) (p : Nat) : Nat → Int
  | 0 => -8
  | i + 1 => if p.testBit i = true then (if gm_mx lo hi n f p i < gm_gv lo hi n f p i then gm_gv lo hi n f p i else gm_mx lo hi n f p i) else gm_mx lo hi n f p i
def gm_F (lo hi : Nat → Nat) (n : Nat) (f : Nat → Int) (p : Nat) : Int := if p = 0 then 0 else gm_mx lo hi n f p n
def gm_mg (lo hi : Nat → Nat) (n p : Nat) : Int := gm_vl (gm_F lo hi n) p
theorem gm_gv_loc {lo hi : Nat → Nat} {n : Nat} {f g : Nat → Int} {p i : Nat} (h : ∀ q, q < p → f q = g q) (hp : p.testBit i = true) : gm_gv lo hi n f p i = gm_gv lo hi n g p i := by
  unfold gm_gv
  rw [h _ (bq_wo_lt hp)]
theorem gm_mx_loc {lo hi : Nat → Nat} {n : Nat} {f g : Nat → Int} {p : Nat} (h : ∀ q, q < p → f q = g q) (k : Nat) : gm_mx lo hi n f p k = gm_mx lo hi n g p k := by
  induction k with
  | zero => rfl
  | succ k ih =>
    unfold gm_mx
    by_cases hb : p.testBit k = true
    · rw [if_pos hb, if_pos hb, ih, gm_gv_loc h hb]
    · rw [if_neg hb, if_neg hb, ih]
theorem gm_F_loc (lo hi : Nat → Nat) (n : Nat) : gm_loc (gm_F lo hi n) := by
  intro f g p h
  unfold gm_F
  rw [gm_mx_loc h]
theorem gm_mg_eq (lo hi : Nat → Nat) (n p : Nat) : gm_mg lo hi n p = gm_F lo hi n (gm_mg lo hi n) p := gm_vl_eq (gm_F_loc lo hi n) p
/-- the coins that hang -/
def gm_ind (b : Bool) : Nat := if b then 1 else 0
def gm_hc (lo hi : Nat → Nat) (n p c : Nat) : Nat := if p &&& gm_mk lo hi n c = 0 then 0 else 1
def gm_sum (f : Nat → Nat) : Nat → Nat
  | 0 => 0
  | k + 1 => gm_sum f k + f k
def gm_hg (lo hi : Nat → Nat) (n p : Nat) : Nat := gm_sum (gm_hc lo hi n p) 8
theorem gm_sum_le {f : Nat → Nat} (h : ∀ c, f c ≤ 1) (k : Nat) : gm_sum f k ≤ k := by
  induction k with
  | zero => exact Nat.le_refl _
  | succ k ih =>
    unfold gm_sum
    have := h k
    omega
theorem gm_sum_add {f g h : Nat → Nat} (e : ∀ c, f c = g c + h c) (k : Nat) : gm_sum f k = gm_sum g k + gm_sum h k := by
  induction k with
  | zero => rfl
  | succ k ih =>
    unfold gm_sum
    rw [ih, e k]
    omega
theorem gm_sum_one {d v k : Nat} : gm_sum (fun c => if c = d then v else 0) k = if d < k then v else 0 := by
  induction k with
  | zero => rfl
  | succ k ih =>
    unfold gm_sum
    rw [ih]
    by_cases h1 : d < k
    · rw [if_pos h1]
      show v + (if k = d then v else 0) = if d < k + 1 then v else 0
      rw [if_neg (show ¬ k = d by omega), if_pos (show d < k + 1 by omega), Nat.add_zero]
    · rw [if_neg h1]
      show 0 + (if k = d then v else 0) = if d < k + 1 then v else 0
      by_cases h2 : k = d
      · rw [if_pos h2, if_pos (show d < k + 1 by omega), Nat.zero_add]
      · rw [if_neg h2, if_neg (show ¬ d < k + 1 by omega)]
theorem gm_hg_le (lo hi : Nat → Nat) (n p : Nat) : gm_hg lo hi n p ≤ 8 := gm_sum_le (fun c => by unfold gm_hc; split <;> omega) 8
/-- a coin hangs before the cut if it hangs behind it, or if the cut takes it -/
theorem gm_hc_cut {lo hi : Nat → Nat} {n p i c : Nat} (hin : i < n) (hp : p.testBit i = true) : gm_hc lo hi n p c = gm_hc lo hi n (bq_wo p i) c + (if (lo i = c ∨ hi i = c) ∧ p &&& gm_mk lo hi n c = 2 ^ i then 1 else 0) := by
  unfold gm_hc
  by_cases hc : lo i = c ∨ hi i = c
  · have h1 := gm_only (lo := lo) (hi := hi) hin hp hc
    rw [Nat.and_comm] at h1
    have h2 : ¬ p &&& gm_mk lo hi n c = 0 := by
      intro h
      have h3 : (p &&& gm_mk lo hi n c).testBit i = false := by rw [h]; simp
      rw [Nat.testBit_and, hp, gm_mk_tb] at h3
      simp [hin, hc] at h3
    rw [if_neg h2]
    by_cases h4 : p &&& gm_mk lo hi n c = 2 ^ i
    · rw [if_pos (h1.mpr h4), if_pos ⟨hc, h4⟩]
    · rw [if_neg (fun z => h4 (h1.mp z)), if_neg (fun z => h4 z.2)]
  · rw [if_neg (show ¬ ((lo i = c ∨ hi i = c) ∧ p &&& gm_mk lo hi n c = 2 ^ i) from fun z => hc z.1), Nat.add_zero]
    have h1 : bq_wo p i &&& gm_mk lo hi n c = p &&& gm_mk lo hi n c := by
      apply Nat.eq_of_testBit_eq
      intro j
      rw [Nat.testBit_and, Nat.testBit_and, bq_wo_tb, gm_mk_tb]
      by_cases hj : i = j
      · subst hj
        simp [hc]
      · simp [hj]
    rw [h1]
theorem gm_hg_cut {lo hi : Nat → Nat} {n p i : Nat} (hin : i < n) (hp : p.testBit i = true) (h1 : lo i < 8) (h2 : hi i ≤ 8) (h3 : lo i ≠ hi i) : gm_hg lo hi n p = gm_hg lo hi n (bq_wo p i) + gm_tk lo hi n p i := by
  have e1 : gm_hg lo hi n p = gm_hg lo hi n (bq_wo p i) + gm_sum (fun c => if (lo i = c ∨ hi i = c) ∧ p &&& gm_mk lo hi n c = 2 ^ i then 1 else 0) 8 := gm_sum_add (fun c => gm_hc_cut hin hp) 8
  have e2 : gm_sum (fun c => if (lo i = c ∨ hi i = c) ∧ p &&& gm_mk lo hi n c = 2 ^ i then 1 else 0) 8 = gm_sum (fun c => if c = lo i then (if p &&& gm_mk lo hi n (lo i) = 2 ^ i then 1 else 0) else 0) 8 + gm_sum (fun c => if c = hi i then (if p &&& gm_mk lo hi n (hi i) = 2 ^ i then 1 else 0) else 0) 8 := by
    refine gm_sum_add (fun c => ?_) 8
    by_cases ha : c = lo i
    · subst ha
      rw [if_neg h3, if_pos rfl]
      by_cases hb : p &&& gm_mk lo hi n (lo i) = 2 ^ i
      · rw [if_pos hb, if_pos ⟨Or.inl rfl, hb⟩]
      · rw [if_neg hb, if_neg (fun z => hb z.2)]
    · rw [if_neg ha]
      by_cases hb : c = hi i
      · subst hb
        rw [if_pos rfl]
        by_cases hd : p &&& gm_mk lo hi n (hi i) = 2 ^ i
        · rw [if_pos hd, if_pos ⟨Or.inr rfl, hd⟩]
        · rw [if_neg hd, if_neg (fun z => hd z.2)]
      · rw [if_neg hb, if_neg (fun z => by rcases z.1 with z | z; exact ha z.symm; exact hb z.symm)]
  rw [e1, e2, gm_sum_one, gm_sum_one]
  unfold gm_tk
  rw [if_pos h1]
  by_cases h8 : hi i = 8
  · rw [if_pos h8, if_neg (show ¬ hi i < 8 by omega)]
  · rw [if_neg h8, if_pos (show hi i < 8 by omega)]
theorem gm_mx_ge {lo hi : Nat → Nat} {n : Nat} {f : Nat → Int} {p : Nat} : ∀ (k i : Nat), i < k → p.testBit i = true → gm_gv lo hi n f p i ≤ gm_mx lo hi n f p k := by
  intro k
  induction k with
  | zero => intro i h; omega
  | succ k ih =>
    intro i h hb
    unfold gm_mx
    by_cases hk : i = k
    · subst hk
      rw [if_pos hb]
      split <;> omega
    · have h1 := ih i (by omega) hb
      split
      · split <;> omega
      · exact h1
theorem gm_mx_le {lo hi : Nat → Nat} {n : Nat} {f : Nat → Int} {p : Nat} {b : Int} (hb : -8 ≤ b) : ∀ k : Nat, (∀ i, i < k → p.testBit i = true → gm_gv lo hi n f p i ≤ b) → gm_mx lo hi n f p k ≤ b := by
  intro k
  induction k with
  | zero => intro _; exact hb
  | succ k ih =>
    intro h
    have h1 := ih (fun i hi => h i (by omega))
    unfold gm_mx
    split
    · rename_i h2
      have h3 := h k (by omega) h2
      split <;> omega
    · exact h1
theorem gm_bit_of {p n : Nat} (h0 : p ≠ 0) (hp : p < 2 ^ n) : ∃ i, i < n ∧ p.testBit i = true := by
  obtain ⟨i, hi⟩ := Nat.exists_testBit_of_ne_zero h0
  refine ⟨i, ?_, hi⟩
  rcases Nat.lt_or_ge i n with h | h
  · exact h
  · rw [bq_of_lt hp h] at hi
    cases hi
/-- the strings are right -/
def gm_ok (lo hi : Nat → Nat) (n : Nat) : Prop := n ≤ 12 ∧ ∀ i, i < n → lo i < 8 ∧ hi i ≤ 8 ∧ lo i < hi i
theorem gm_mg_bd {lo hi : Nat → Nat} {n : Nat} (ok : gm_ok lo hi n) (p : Nat) (hp : p < 2 ^ n) : -(gm_hg lo hi n p : Int) ≤ gm_mg lo hi n p ∧ gm_mg lo hi n p ≤ gm_hg lo hi n p := by
  induction p using Nat.strongRecOn with
  | _ p ih =>
    rw [gm_mg_eq]
    unfold gm_F
    by_cases h0 : p = 0
    · rw [if_pos h0]
      omega
    · rw [if_neg h0]
      have hg : ∀ i, i < n → p.testBit i = true → -(gm_hg lo hi n p : Int) ≤ gm_gv lo hi n (gm_mg lo hi n) p i ∧ gm_gv lo hi n (gm_mg lo hi n) p i ≤ gm_hg lo hi n p := by
        intro i hz hb
        have hlt := bq_wo_lt hb
        obtain ⟨b1, b2⟩ := ih _ hlt (by omega)
        obtain ⟨o1, o2, o3⟩ := ok.2 i hz
        have hc := gm_hg_cut (lo := lo) (hi := hi) hz hb o1 o2 (Nat.ne_of_lt o3)
        unfold gm_gv
        split <;> omega
      obtain ⟨i, hz, hb⟩ := gm_bit_of h0 hp
      have h1 := gm_mx_ge (lo := lo) (hi := hi) (n := n) (f := gm_mg lo hi n) n i hz hb
      have h2 := gm_mx_le (lo := lo) (hi := hi) (n := n) (f := gm_mg lo hi n) (p := p) (b := gm_hg lo hi n p) (by omega) n (fun i hz hb => (hg i hz hb).2)
      have h3 := (hg i hz hb).1
      omega
theorem gm_mg_8 {lo hi : Nat → Nat} {n : Nat} (ok : gm_ok lo hi n) {p : Nat} (hp : p < 2 ^ n) : -8 ≤ gm_mg lo hi n p ∧ gm_mg lo hi n p ≤ 8 := by
  obtain ⟨h1, h2⟩ := gm_mg_bd ok p hp
  have := gm_hg_le lo hi n p
  omega
theorem gm_tk_2 (lo hi : Nat → Nat) (n p i : Nat) : gm_tk lo hi n p i ≤ 2 := by
  unfold gm_tk
  split <;> split <;> first | omega | (split <;> omega)
theorem gm_gv_8 {lo hi : Nat → Nat} {n : Nat} (ok : gm_ok lo hi n) {p i : Nat} (hp : p < 2 ^ n) (hi' : i < n) (hb : p.testBit i = true) : -8 ≤ gm_gv lo hi n (gm_mg lo hi n) p i ∧ gm_gv lo hi n (gm_mg lo hi n) p i ≤ 8 := by
  have hlt := bq_wo_lt hb
  obtain ⟨b1, b2⟩ := gm_mg_bd ok (bq_wo p i) (by omega)
  obtain ⟨o1, o2, o3⟩ := ok.2 i hi'
  have hc := gm_hg_cut (lo := lo) (hi := hi) hi' hb o1 o2 (Nat.ne_of_lt o3)
  have h8 := gm_hg_le lo hi n p
  unfold gm_gv
  split <;> omega
/-- the same by the other way: the first, then whatever is greater -/
def gm_mx2 (lo hi : Nat → Nat) (n : Nat) (f : Nat → Int) (p : Nat) : Nat → Option Int
  | 0 => none
  | i + 1 => if p.testBit i = true then (match gm_mx2 lo hi n f p i with
    | none => some (gm_gv lo hi n f p i)
    | some b => some (if b < gm_gv lo hi n f p i then gm_gv lo hi n f p i else b)) else gm_mx2 lo hi n f p i
theorem gm_mx2_eq {lo hi : Nat → Nat} {n : Nat} {f : Nat → Int} {p : Nat} : ∀ k : Nat, (∀ i, i < k → p.testBit i = true → -8 ≤ gm_gv lo hi n f p i) → (gm_mx2 lo hi n f p k = none ∧ (∀ i, i < k → p.testBit i = false) ∧ gm_mx lo hi n f p k = -8) ∨ gm_mx2 lo hi n f p k = some (gm_mx lo hi n f p k) := by
  intro k
  induction k with
  | zero => intro _; exact Or.inl ⟨rfl, fun i h => by omega, rfl⟩
  | succ k ih =>
    intro h
    have h1 := ih (fun i hi => h i (by omega))
    unfold gm_mx2 gm_mx
    by_cases hb : p.testBit k = true
    · rw [if_pos hb, if_pos hb]
      have h2 := h k (by omega) hb
      rcases h1 with ⟨e1, -, e3⟩ | e1
      · rw [e1, e3]
        refine Or.inr ?_
        simp only
        congr 1
        split <;> omega
      · rw [e1]
        exact Or.inr rfl
    · rw [if_neg hb, if_neg hb]
      rcases h1 with ⟨e1, e2, e3⟩ | e1
      · refine Or.inl ⟨e1, fun i hi => ?_, e3⟩
        by_cases hk : i = k
        · subst hk
          simpa using hb
        · exact e2 i (by omega)
      · exact Or.inr e1
theorem gm_mx2_mg {lo hi : Nat → Nat} {n : Nat} (ok : gm_ok lo hi n) {p : Nat} (hp : p < 2 ^ n) : (gm_mx2 lo hi n (gm_mg lo hi n) p n).getD 0 = gm_mg lo hi n p := by
  rw [gm_mg_eq]
  unfold gm_F
  rcases gm_mx2_eq (lo := lo) (hi := hi) (n := n) (f := gm_mg lo hi n) (p := p) n (fun i hi hb => (gm_gv_8 ok hp hi hb).1) with ⟨e1, e2, -⟩ | e1
  · have h0 : p = 0 := by
      rcases Nat.eq_zero_or_pos p with h | h
      · exact h
      · obtain ⟨i, hi, hb⟩ := gm_bit_of (by omega) hp
        rw [e2 i hi] at hb
        cases hb
    rw [e1, if_pos h0]
    rfl
  · by_cases h0 : p = 0
    · subst h0
      have h1 : ∀ k, gm_mx2 lo hi n (gm_mg lo hi n) 0 k = none := by
        intro k
        induction k with
        | zero => rfl
        | succ k ih => unfold gm_mx2; simp [ih]
      rw [h1, if_pos rfl]
      rfl
    · rw [e1, if_neg h0]
      rfl
