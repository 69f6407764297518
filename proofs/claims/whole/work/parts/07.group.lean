/-! groups: the least coin of a group leads it; 8: no group -/
def gm_two (lo hi : Nat → Nat) (n p c : Nat) : Prop := c < 8 ∧ gm_pc (p &&& gm_mk lo hi n c) = 2
def gm_uni (L : Nat → Nat) (x y : Nat) : Nat → Nat := fun c => if x = 8 ∨ y = 8 then L c else if L c = max x y then min x y else L c
def gm_L0 (lo hi : Nat → Nat) (n p : Nat) : Nat → Nat := fun c => if c < 8 then (if gm_pc (p &&& gm_mk lo hi n c) = 2 then c else 8) else 8
def gm_L (lo hi : Nat → Nat) (n p : Nat) : Nat → Nat → Nat
  | 0 => gm_L0 lo hi n p
  | i + 1 => if p.testBit i = true then gm_uni (gm_L lo hi n p i) (gm_L lo hi n p i (lo i)) (gm_L lo hi n p i (hi i)) else gm_L lo hi n p i
/-- two coins of groups, joined by a string below k -/
def gm_adj (lo hi : Nat → Nat) (p k a b : Nat) : Prop := ∃ i, i < k ∧ p.testBit i = true ∧ ((lo i = a ∧ hi i = b) ∨ (lo i = b ∧ hi i = a))
/-- what holds of the leaders when k strings are looked at -/
def gm_LI (lo hi : Nat → Nat) (n p k : Nat) (L : Nat → Nat) : Prop :=
  (∀ c, L c = 8 ↔ ¬ gm_two lo hi n p c) ∧ (∀ c, gm_two lo hi n p c → L c ≤ c ∧ L c < 8 ∧ L (L c) = L c) ∧
  (∀ a b, gm_adj lo hi p k a b → gm_two lo hi n p a → gm_two lo hi n p b → L a = L b) ∧
  (∀ M : Nat → Prop, (∀ a b, gm_adj lo hi p k a b → gm_two lo hi n p a → gm_two lo hi n p b → M b → M a) → ∀ a b, gm_two lo hi n p a → gm_two lo hi n p b → L a = L b → M b → M a)
theorem gm_adj_sym {lo hi : Nat → Nat} {p k a b : Nat} (h : gm_adj lo hi p k a b) : gm_adj lo hi p k b a := by
  obtain ⟨i, h1, h2, h3⟩ := h
  exact ⟨i, h1, h2, h3.symm⟩
theorem gm_LI0 (lo hi : Nat → Nat) (n p : Nat) : gm_LI lo hi n p 0 (gm_L0 lo hi n p) := by
  have hL : ∀ c, gm_two lo hi n p c → gm_L0 lo hi n p c = c := fun c hc => by
    unfold gm_L0
    rw [if_pos hc.1, if_pos hc.2]
  refine ⟨fun c => ⟨fun h hc => ?_, fun h => ?_⟩, fun c hc => ?_, fun a b h => ?_, fun M _ a b ha hb h hm => ?_⟩
  · rw [hL c hc] at h
    have := hc.1
    omega
  · unfold gm_L0
    by_cases h8 : c < 8
    · rw [if_pos h8, if_neg (fun h2 => h ⟨h8, h2⟩)]
    · rw [if_neg h8]
  · rw [hL c hc]
    exact ⟨Nat.le_refl _, hc.1, hL c hc⟩
  · obtain ⟨i, h1, -⟩ := h
    omega
  · rw [hL a ha, hL b hb] at h
    subst h
    exact hm
theorem gm_LI_uni {lo hi : Nat → Nat} {n p k : Nat} {L : Nat → Nat} (h : gm_LI lo hi n p k L) (hb : p.testBit k = true) : gm_LI lo hi n p (k + 1) (gm_uni L (L (lo k)) (L (hi k))) := by
  obtain ⟨h1, h2, h3, h4⟩ := h
  have adjS : ∀ a b, gm_adj lo hi p (k + 1) a b → gm_adj lo hi p k a b ∨ ((lo k = a ∧ hi k = b) ∨ (lo k = b ∧ hi k = a)) := by
    rintro a b ⟨i, q1, q2, q3⟩
    by_cases hi' : i = k
    · subst hi'
      exact Or.inr q3
    · exact Or.inl ⟨i, by omega, q2, q3⟩
  have adjU : ∀ a b, gm_adj lo hi p k a b → gm_adj lo hi p (k + 1) a b := by
    rintro a b ⟨i, q1, q2, q3⟩
    exact ⟨i, by omega, q2, q3⟩
  by_cases h8 : L (lo k) = 8 ∨ L (hi k) = 8
  · have e : gm_uni L (L (lo k)) (L (hi k)) = L := by
      funext c
      unfold gm_uni
      rw [if_pos h8]
    rw [e]
    refine ⟨h1, h2, fun a b hab ha hb' => ?_, fun M hM => h4 M (fun a b hab => hM a b (adjU a b hab))⟩
    rcases adjS a b hab with q | q
    · exact h3 a b q ha hb'
    · exfalso
      have n1 := fun z => (h1 (lo k)).mp z
      have n2 := fun z => (h1 (hi k)).mp z
      rcases q with ⟨q1, q2⟩ | ⟨q1, q2⟩
      · rcases h8 with z | z
        · exact n1 z (q1 ▸ ha)
        · exact n2 z (q2 ▸ hb')
      · rcases h8 with z | z
        · exact n1 z (q1 ▸ hb')
        · exact n2 z (q2 ▸ ha)
  · have hx : gm_two lo hi n p (lo k) := Classical.byContradiction (fun z => h8 (Or.inl ((h1 _).mpr z)))
    have hy : gm_two lo hi n p (hi k) := Classical.byContradiction (fun z => h8 (Or.inr ((h1 _).mpr z)))
    obtain ⟨x1, x2, x3⟩ := h2 _ hx
    obtain ⟨y1, y2, y3⟩ := h2 _ hy
    have e : ∀ c, gm_uni L (L (lo k)) (L (hi k)) c = if L c = max (L (lo k)) (L (hi k)) then min (L (lo k)) (L (hi k)) else L c := fun c => by
      unfold gm_uni
      rw [if_neg h8]
    generalize hX : L (lo k) = X at *
    generalize hY : L (hi k) = Y at *
    refine ⟨fun c => ?_, fun c hc => ?_, fun a b hab ha hb' => ?_, fun M hM a b ha hb' hl hm => ?_⟩
    · rw [e]
      constructor
      · intro h
        split at h
        · omega
        · exact (h1 c).mp h
      · intro h
        have h5 := (h1 c).mpr h
        rw [if_neg (by omega)]
        exact h5
    · obtain ⟨c1, c2, c3⟩ := h2 c hc
      rw [e c]
      split
      · rename_i h5
        refine ⟨by omega, by omega, ?_⟩
        rw [e]
        have h6 : L (min X Y) = min X Y := by
          rcases Nat.le_total X Y with q | q
          · rw [Nat.min_eq_left q]; exact x3
          · rw [Nat.min_eq_right q]; exact y3
        rw [h6]
        split <;> omega
      · rename_i h5
        refine ⟨c1, c2, ?_⟩
        rw [e, c3, if_neg h5]
    · rcases adjS a b hab with q | q
      · rw [e, e, h3 a b q ha hb']
      · have hm : ∀ v, v = X ∨ v = Y → (if v = max X Y then min X Y else v) = min X Y := by
          intro v hv
          rcases hv with rfl | rfl <;> split <;> omega
        rcases q with ⟨q1, q2⟩ | ⟨q1, q2⟩
        · subst q1; subst q2
          rw [e, e, hX, hY, hm X (Or.inl rfl), hm Y (Or.inr rfl)]
        · subst q1; subst q2
          rw [e, e, hX, hY, hm X (Or.inl rfl), hm Y (Or.inr rfl)]
    · have hM' : ∀ a b, gm_adj lo hi p k a b → gm_two lo hi n p a → gm_two lo hi n p b → M b → M a := fun a b hab => hM a b (adjU a b hab)
      have key := h4 M hM'
      have exy : M (lo k) ↔ M (hi k) := ⟨hM (hi k) (lo k) ⟨k, by omega, hb, Or.inr ⟨rfl, rfl⟩⟩ hy hx, hM (lo k) (hi k) ⟨k, by omega, hb, Or.inl ⟨rfl, rfl⟩⟩ hx hy⟩
      have toX : ∀ c, gm_two lo hi n p c → L c = X ∨ L c = Y → (M c ↔ M (lo k)) := by
        intro c hc hv
        rcases hv with hv | hv
        · exact ⟨key (lo k) c hx hc (by rw [hX, hv]), key c (lo k) hc hx (by rw [hX, hv])⟩
        · rw [exy]
          exact ⟨key (hi k) c hy hc (by rw [hY, hv]), key c (hi k) hc hy (by rw [hY, hv])⟩
      rw [e, e] at hl
      by_cases ea : L a = L b
      · exact key a b ha hb' ea hm
      · have hab : (L a = X ∨ L a = Y) ∧ (L b = X ∨ L b = Y) := by
          split at hl <;> split at hl <;> omega
        exact (toX a ha hab.1).mpr ((toX b hb' hab.2).mp hm)
theorem gm_LI_ok (lo hi : Nat → Nat) (n p : Nat) : ∀ k, gm_LI lo hi n p k (gm_L lo hi n p k) := by
  intro k
  induction k with
  | zero => exact gm_LI0 lo hi n p
  | succ k ih =>
    unfold gm_L
    by_cases hb : p.testBit k = true
    · rw [if_pos hb]
      exact gm_LI_uni ih hb
    · rw [if_neg hb]
      obtain ⟨h1, h2, h3, h4⟩ := ih
      have e : ∀ a b, gm_adj lo hi p (k + 1) a b ↔ gm_adj lo hi p k a b := by
        intro a b
        constructor
        · rintro ⟨i, q1, q2, q3⟩
          have : i ≠ k := fun z => hb (z ▸ q2)
          exact ⟨i, by omega, q2, q3⟩
        · rintro ⟨i, q1, q2, q3⟩
          exact ⟨i, by omega, q2, q3⟩
      exact ⟨h1, h2, fun a b hab => h3 a b ((e a b).mp hab), fun M hM => h4 M (fun a b hab => hM a b ((e a b).mpr hab))⟩
