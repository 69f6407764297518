/-! ranks of leaders -/
def gm_ldr (L : Nat → Nat) (c : Nat) : Nat := if L c = c then 1 else 0
def gm_rk (L : Nat → Nat) (v : Nat) : Nat := gm_sum (gm_ldr L) v
theorem gm_rk_mono (L : Nat → Nat) {a b : Nat} (h : a ≤ b) : gm_rk L a ≤ gm_rk L b := by
  induction b with
  | zero =>
    have : a = 0 := by omega
    subst this
    exact Nat.le_refl _
  | succ b ih =>
    by_cases hb : a = b + 1
    · subst hb
      exact Nat.le_refl _
    · have := ih (by omega)
      have h2 : gm_rk L (b + 1) = gm_rk L b + gm_ldr L b := rfl
      omega
theorem gm_rk_lt {L : Nat → Nat} {a b : Nat} (ha : L a = a) (h : a < b) : gm_rk L a < gm_rk L b := by
  have h1 := gm_rk_mono L (show a + 1 ≤ b by omega)
  have h2 : gm_rk L (a + 1) = gm_rk L a + gm_ldr L a := rfl
  have h3 : gm_ldr L a = 1 := if_pos ha
  omega
theorem gm_rk_inj {L : Nat → Nat} {a b : Nat} (ha : L a = a) (hb : L b = b) (h : gm_rk L a = gm_rk L b) : a = b := by
  rcases Nat.lt_trichotomy a b with q | q | q
  · have := gm_rk_lt ha q
    omega
  · exact q
  · have := gm_rk_lt hb q
    omega
theorem gm_rk_ex {L : Nat → Nat} {g : Nat} : ∀ v : Nat, g < gm_rk L v → ∃ c, c < v ∧ L c = c ∧ gm_rk L c = g := by
  intro v
  induction v with
  | zero => intro h; exact absurd h (Nat.not_lt_zero _)
  | succ v ih =>
    intro h
    by_cases h1 : g < gm_rk L v
    · obtain ⟨c, a1, a2, a3⟩ := ih h1
      exact ⟨c, by omega, a2, a3⟩
    · have h2 : gm_rk L (v + 1) = gm_rk L v + gm_ldr L v := rfl
      have h3 : gm_ldr L v = 0 ∨ (gm_ldr L v = 1 ∧ L v = v) := by
        unfold gm_ldr
        split
        · exact Or.inr ⟨rfl, by assumption⟩
        · exact Or.inl rfl
      rcases h3 with h3 | ⟨h3, h4⟩
      · omega
      · exact ⟨v, by omega, h4, by omega⟩
/-! the text -/
def gm_str (lo hi : Nat → Nat) (i : Nat) : List Nat := (if 9 < i then [49] else []) ++ [48 + i % 10, 58, 48 + lo i] ++ (if hi i = 8 then [61] else [45, 48 + hi i]) ++ [59]
def gm_txt (lo hi : Nat → Nat) (p : Nat) : Nat → List Nat
  | 0 => []
  | i + 1 => if p.testBit i = true then gm_txt lo hi p i ++ gm_str lo hi i else gm_txt lo hi p i
theorem gm_str_le (lo hi : Nat → Nat) (i : Nat) : (gm_str lo hi i).length ≤ 7 := by
  unfold gm_str
  split <;> split <;> simp
theorem gm_txt_le (lo hi : Nat → Nat) (p k : Nat) : (gm_txt lo hi p k).length ≤ 7 * k := by
  induction k with
  | zero => exact Nat.le_refl _
  | succ k ih =>
    unfold gm_txt
    have := gm_str_le lo hi k
    split
    · rw [List.length_append]
      omega
    · omega
/-! the run: the cuts, newest first -/
def gm_run (lo hi : Nat → Nat) (n : Nat) : List Nat → Nat × Nat × Nat × Nat
  | [] => (2 ^ n - 1, 0, 0, 0)
  | i :: r => (bq_wo (gm_run lo hi n r).1 i,
      if 0 < gm_tk lo hi n (gm_run lo hi n r).1 i then (gm_run lo hi n r).2.1 else 1 - (gm_run lo hi n r).2.1,
      (gm_run lo hi n r).2.2.1 + (if (gm_run lo hi n r).2.1 = 0 then gm_tk lo hi n (gm_run lo hi n r).1 i else 0),
      (gm_run lo hi n r).2.2.2 + (if (gm_run lo hi n r).2.1 = 0 then 0 else gm_tk lo hi n (gm_run lo hi n r).1 i))
def gm_val (lo hi : Nat → Nat) (n : Nat) : List Nat → Prop
  | [] => True
  | i :: r => i < n ∧ (gm_run lo hi n r).1.testBit i = true ∧ gm_val lo hi n r
theorem gm_run_p {lo hi : Nat → Nat} {n : Nat} : ∀ cs : List Nat, (gm_run lo hi n cs).1 < 2 ^ n := by
  intro cs
  induction cs with
  | nil =>
    have := Nat.two_pow_pos n
    show 2 ^ n - 1 < 2 ^ n
    omega
  | cons i r ih => exact Nat.lt_of_le_of_lt (bq_wo_le _ _) ih
theorem gm_run_w {lo hi : Nat → Nat} {n : Nat} : ∀ cs : List Nat, (gm_run lo hi n cs).2.1 ≤ 1 := by
  intro cs
  induction cs with
  | nil => exact Nat.zero_le _
  | cons i r ih =>
    show (if _ then _ else _) ≤ 1
    split
    · exact ih
    · exact Nat.sub_le _ _
theorem gm_pc_full : ∀ n, n ≤ 12 → gm_pc (2 ^ n - 1) = n := by
  intro n hn
  have : ∀ n, n < 13 → gm_pc (2 ^ n - 1) = n := by decide +kernel
  exact this n (by omega)
theorem gm_run_len {lo hi : Nat → Nat} {n : Nat} (hn : n ≤ 12) : ∀ cs : List Nat, gm_val lo hi n cs → gm_pc (gm_run lo hi n cs).1 + cs.length = n := by
  intro cs
  induction cs with
  | nil => intro _; exact gm_pc_full n hn
  | cons i r ih =>
    intro h
    obtain ⟨h1, h2, h3⟩ := h
    have h4 := ih h3
    have h5 := gm_pc_wo (by omega : i < 12) h2
    show gm_pc (bq_wo _ i) + (r.length + 1) = n
    omega
theorem gm_pc_pos {p i : Nat} (hi : i < 12) (h : p.testBit i = true) : 0 < gm_pc p := by
  have := gm_pc_wo hi h
  omega
