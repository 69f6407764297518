/-! nim values -/
/-- the first place with b, from i on, k places at the most -/
def gm_fst (b : Nat → Bool) : Nat → Nat → Nat
  | 0, i => i
  | k + 1, i => if b i = true then i else gm_fst b k (i + 1)
theorem gm_fst_spec (b : Nat → Bool) : ∀ (k i : Nat), i ≤ gm_fst b k i ∧ gm_fst b k i ≤ i + k ∧ (gm_fst b k i < i + k → b (gm_fst b k i) = true) ∧ ∀ j, i ≤ j → j < gm_fst b k i → b j = false := by
  intro k
  induction k with
  | zero => intro i; exact ⟨Nat.le_refl _, Nat.le_refl _, fun h => absurd h (Nat.lt_irrefl _), fun j h1 h2 => absurd h2 (by unfold gm_fst; omega)⟩
  | succ k ih =>
    intro i
    unfold gm_fst
    by_cases hb : b i = true
    · rw [if_pos hb]
      exact ⟨Nat.le_refl _, by omega, fun _ => hb, fun j h1 h2 => by omega⟩
    · rw [if_neg hb]
      obtain ⟨h1, h2, h3, h4⟩ := ih (i + 1)
      refine ⟨by omega, by omega, fun h => h3 (by omega), fun j h5 h6 => ?_⟩
      by_cases hj : j = i
      · subst hj
        simpa using hb
      · exact h4 j (by omega) h6
def gm_least (b : Nat → Bool) : Nat := gm_fst b 12 0
theorem gm_least_le (b : Nat → Bool) : gm_least b ≤ 12 := by
  have := (gm_fst_spec b 12 0).2.1
  unfold gm_least
  omega
theorem gm_least_is {b : Nat → Bool} (h : gm_least b < 12) : b (gm_least b) = true := (gm_fst_spec b 12 0).2.2.1 (by unfold gm_least at h; omega)
theorem gm_least_no {b : Nat → Bool} {j : Nat} (h : j < gm_least b) : b j = false := (gm_fst_spec b 12 0).2.2.2 j (Nat.zero_le _) h
theorem gm_least_le_of {b : Nat → Bool} {j : Nat} (h : b j = true) : gm_least b ≤ j := by
  rcases Nat.lt_or_ge j (gm_least b) with h1 | h1
  · rw [gm_least_no h1] at h
    cases h
  · exact h1
theorem gm_least_eq {b : Nat → Bool} {k : Nat} (hk : k ≤ 12) (h1 : k < 12 → b k = true) (h2 : ∀ j, j < k → b j = false) : gm_least b = k := by
  rcases Nat.lt_trichotomy (gm_least b) k with h | h | h
  · have h3 := gm_least_is (b := b) (by omega)
    rw [h2 _ h] at h3
    cases h3
  · exact h
  · have h3 := gm_least_no h
    have h4 := gm_least_le b
    rw [h1 (by omega)] at h3
    cases h3
theorem gm_fst_congr {b c : Nat → Bool} : ∀ (k i : Nat), (∀ j, i ≤ j → j < i + k → b j = c j) → gm_fst b k i = gm_fst c k i := by
  intro k
  induction k with
  | zero => intro i _; rfl
  | succ k ih =>
    intro i h
    unfold gm_fst
    rw [h i (Nat.le_refl _) (by omega), ih (i + 1) (fun j h1 h2 => h j (by omega) (by omega))]
theorem gm_least_congr {b c : Nat → Bool} (h : ∀ j, j < 12 → b j = c j) : gm_least b = gm_least c := gm_fst_congr 12 0 (fun j _ h2 => h j (by omega))
/-- how many strings -/
def gm_pc (p : Nat) : Nat := gm_sum (fun j => if p.testBit j = true then 1 else 0) 12
theorem gm_pc_le (p : Nat) : gm_pc p ≤ 12 := gm_sum_le (fun c => by show (if _ then 1 else 0) ≤ 1; split <;> omega) 12
theorem gm_pc_wo {p i : Nat} (hi : i < 12) (hp : p.testBit i = true) : gm_pc p = gm_pc (bq_wo p i) + 1 := by
  have h := gm_sum_add (f := fun j => if p.testBit j = true then 1 else 0) (g := fun j => if (bq_wo p i).testBit j = true then 1 else 0) (h := fun c => if c = i then 1 else 0) (fun c => by
    show (if p.testBit c = true then 1 else 0) = (if (bq_wo p i).testBit c = true then 1 else 0) + (if c = i then 1 else 0)
    rw [bq_wo_tb]
    by_cases hc : c = i
    · subst hc
      rw [hp]
      simp
    · have hc' : ¬ i = c := fun e => hc e.symm
      simp [hc, hc']) 12
  rw [gm_sum_one, if_pos hi] at h
  exact h
/-- quiet values, taking values, whether a cut that takes leaves a loony position: of the first k strings -/
def gm_st (lo hi : Nat → Nat) (n : Nat) (f : Nat → Int) (p : Nat) : Nat → Nat × Nat × Bool
  | 0 => (0, 0, false)
  | i + 1 => if p.testBit i = true then
      (if f (bq_wo p i) = -1 then ((gm_st lo hi n f p i).1, (gm_st lo hi n f p i).2.1, (gm_st lo hi n f p i).2.2 || decide (0 < gm_tk lo hi n p i))
      else if 0 < gm_tk lo hi n p i then ((gm_st lo hi n f p i).1, (gm_st lo hi n f p i).2.1 ||| 2 ^ (f (bq_wo p i)).toNat, (gm_st lo hi n f p i).2.2)
      else ((gm_st lo hi n f p i).1 ||| 2 ^ (f (bq_wo p i)).toNat, (gm_st lo hi n f p i).2.1, (gm_st lo hi n f p i).2.2))
    else gm_st lo hi n f p i
def gm_out (q : Nat × Nat × Bool) : Int := if q.2.2 = true then -1 else if q.2.1 = 0 then (gm_least (fun i => !q.1.testBit i) : Int)
  else if 1 < gm_pc q.2.1 ∨ q.2.1 &&& q.1 ≠ 0 then -1 else (gm_least (fun i => q.2.1.testBit i) : Int)
def gm_NF (lo hi : Nat → Nat) (n : Nat) (f : Nat → Int) (p : Nat) : Int := gm_out (gm_st lo hi n f p n)
def gm_nm (lo hi : Nat → Nat) (n p : Nat) : Int := gm_vl (gm_NF lo hi n) p
theorem gm_st_loc {lo hi : Nat → Nat} {n : Nat} {f g : Nat → Int} {p : Nat} (h : ∀ q, q < p → f q = g q) (k : Nat) : gm_st lo hi n f p k = gm_st lo hi n g p k := by
  induction k with
  | zero => rfl
  | succ k ih =>
    unfold gm_st
    by_cases hb : p.testBit k = true
    · rw [if_pos hb, if_pos hb, ih, h _ (bq_wo_lt hb)]
    · rw [if_neg hb, if_neg hb, ih]
theorem gm_NF_loc (lo hi : Nat → Nat) (n : Nat) : gm_loc (gm_NF lo hi n) := by
  intro f g p h
  unfold gm_NF
  rw [gm_st_loc h]
theorem gm_nm_eq (lo hi : Nat → Nat) (n p : Nat) : gm_nm lo hi n p = gm_NF lo hi n (gm_nm lo hi n) p := gm_vl_eq (gm_NF_loc lo hi n) p
theorem gm_or_lt {a b k : Nat} (ha : a < 2 ^ k) (hb : b < 2 ^ k) : a ||| b < 2 ^ k := Nat.or_lt_two_pow ha hb
theorem gm_st_lt {lo hi : Nat → Nat} {n : Nat} {f : Nat → Int} {p m : Nat} : ∀ k : Nat, (∀ i, i < k → p.testBit i = true → f (bq_wo p i) < m) → (∀ i, i < k → p.testBit i = true → -1 ≤ f (bq_wo p i)) → (gm_st lo hi n f p k).1 < 2 ^ m ∧ (gm_st lo hi n f p k).2.1 < 2 ^ m := by
  intro k
  induction k with
  | zero => intro _ _; exact ⟨Nat.two_pow_pos m, Nat.two_pow_pos m⟩
  | succ k ih =>
    intro h h0
    obtain ⟨i1, i2⟩ := ih (fun i hi => h i (by omega)) (fun i hi => h0 i (by omega))
    unfold gm_st
    by_cases hb : p.testBit k = true
    · rw [if_pos hb]
      have h1 := h k (by omega) hb
      have h2 := h0 k (by omega) hb
      split
      · exact ⟨i1, i2⟩
      · rename_i hm
        have h3 : 2 ^ (f (bq_wo p k)).toNat < 2 ^ m := Nat.pow_lt_pow_right (by decide) (by omega)
        split
        · exact ⟨i1, gm_or_lt i2 h3⟩
        · exact ⟨gm_or_lt i1 h3, i2⟩
    · rw [if_neg hb]
      exact ⟨i1, i2⟩
theorem gm_nm_bd {lo hi : Nat → Nat} {n : Nat} (hn : n ≤ 12) (p : Nat) (hp : p < 2 ^ n) : -1 ≤ gm_nm lo hi n p ∧ gm_nm lo hi n p ≤ gm_pc p := by
  induction p using Nat.strongRecOn with
  | _ p ih =>
    have hv : ∀ i, i < n → p.testBit i = true → -1 ≤ gm_nm lo hi n (bq_wo p i) ∧ gm_nm lo hi n (bq_wo p i) < gm_pc p := by
      intro i hi hb
      have hlt := bq_wo_lt hb
      obtain ⟨h1, h2⟩ := ih _ hlt (by omega)
      have h3 := gm_pc_wo (by omega : i < 12) hb
      omega
    obtain ⟨q1, q2⟩ := gm_st_lt (lo := lo) (hi := hi) (n := n) (f := gm_nm lo hi n) (p := p) (m := gm_pc p) n (fun i hi hb => (hv i hi hb).2) (fun i hi hb => (hv i hi hb).1)
    rw [gm_nm_eq]
    unfold gm_NF gm_out
    split
    · omega
    · split
      · refine ⟨by omega, ?_⟩
        have h1 : gm_least (fun i => !(gm_st lo hi n (gm_nm lo hi n) p n).1.testBit i) ≤ gm_pc p := gm_least_le_of (by
          rw [bq_of_lt q1 (Nat.le_refl _)]
          rfl)
        omega
      · rename_i h0
        split
        · omega
        · refine ⟨by omega, ?_⟩
          obtain ⟨j, hj, hb⟩ := gm_bit_of h0 q2
          have h1 : gm_least (fun i => (gm_st lo hi n (gm_nm lo hi n) p n).2.1.testBit i) ≤ j := gm_least_le_of hb
          omega
theorem gm_nm_12 {lo hi : Nat → Nat} {n : Nat} (hn : n ≤ 12) {p : Nat} (hp : p < 2 ^ n) : -1 ≤ gm_nm lo hi n p ∧ gm_nm lo hi n p ≤ 12 := by
  have h := gm_nm_bd (lo := lo) (hi := hi) hn p hp
  have := gm_pc_le p
  omega
theorem gm_nm_11 {lo hi : Nat → Nat} {n : Nat} (hn : n ≤ 12) {p i : Nat} (hp : p < 2 ^ n) (hi' : i < n) (hb : p.testBit i = true) : -1 ≤ gm_nm lo hi n (bq_wo p i) ∧ gm_nm lo hi n (bq_wo p i) ≤ 11 := by
  have hlt := bq_wo_lt hb
  have h := gm_nm_bd (lo := lo) (hi := hi) hn (bq_wo p i) (by omega)
  have h1 := gm_pc_wo (by omega : i < 12) hb
  have := gm_pc_le p
  omega
/-- the masks stay under 4096 -/
theorem gm_st_12 {lo hi : Nat → Nat} {n : Nat} (hn : n ≤ 12) {p : Nat} (hp : p < 2 ^ n) {k : Nat} (hk : k ≤ n) : (gm_st lo hi n (gm_nm lo hi n) p k).1 < 4096 ∧ (gm_st lo hi n (gm_nm lo hi n) p k).2.1 < 4096 :=
  gm_st_lt (m := 12) k (fun i hz hb => by have := gm_nm_11 (lo := lo) (hi := hi) hn hp (by omega : i < n) hb; omega) (fun i hi hb => (gm_nm_11 hn hp (by omega : i < n) hb).1)
/-- whether a cut takes: of the first k strings -/
def gm_tks (lo hi : Nat → Nat) (n p : Nat) : Nat → Bool
  | 0 => false
  | i + 1 => gm_tks lo hi n p i || (p.testBit i && decide (0 < gm_tk lo hi n p i))
theorem gm_tks_eq {lo hi : Nat → Nat} {n : Nat} {f : Nat → Int} {p : Nat} (k : Nat) : gm_tks lo hi n p k = false ↔ (gm_st lo hi n f p k).2.1 = 0 ∧ (gm_st lo hi n f p k).2.2 = false := by
  induction k with
  | zero => simp [gm_tks, gm_st]
  | succ k ih =>
    unfold gm_tks gm_st
    by_cases hb : p.testBit k = true
    · rw [if_pos hb, hb]
      by_cases h1 : 0 < gm_tk lo hi n p k
      · split
        · simp [h1]
        · have h2 : (gm_st lo hi n f p k).2.1 ||| 2 ^ (f (bq_wo p k)).toNat ≠ 0 := by
            intro h
            have h3 : ((gm_st lo hi n f p k).2.1 ||| 2 ^ (f (bq_wo p k)).toNat).testBit (f (bq_wo p k)).toNat = false := by rw [h]; simp
            rw [Nat.testBit_or, Nat.testBit_two_pow] at h3
            simp at h3
          simp [h1, h2]
      · split
        · simp [h1, ih]
        · simp [h1, ih]
    · have hb' : p.testBit k = false := by simpa using hb
      rw [if_neg hb, hb']
      simp [ih]
