/-! groups, the reference's way -/
def gm_jn (lo hi : Nat → Nat) (p a b : Nat) : Nat → Bool
  | 0 => false
  | i + 1 => gm_jn lo hi p a b i || (p.testBit i && (decide (lo i = a ∧ hi i = b) || decide (lo i = b ∧ hi i = a)))
theorem gm_jn_1 {lo hi : Nat → Nat} {p a b k : Nat} (h : gm_jn lo hi p a b k = true) : gm_jn lo hi p a b (k + 1) = true := by
  show (gm_jn lo hi p a b k || _) = true
  rw [h, Bool.true_or]
theorem gm_jn_2 {lo hi : Nat → Nat} {p a b k : Nat} (h : p.testBit k = true) (h2 : (lo k = a ∧ hi k = b) ∨ (lo k = b ∧ hi k = a)) : gm_jn lo hi p a b (k + 1) = true := by
  show (gm_jn lo hi p a b k || (p.testBit k && (decide (lo k = a ∧ hi k = b) || decide (lo k = b ∧ hi k = a)))) = true
  rw [h]
  rcases h2 with z | z
  · rw [decide_eq_true z]; simp
  · rw [decide_eq_true z]; simp
theorem gm_jn_3 {lo hi : Nat → Nat} {p a b k : Nat} (h0 : gm_jn lo hi p a b k = false) (h : ¬ p.testBit k = true) : gm_jn lo hi p a b (k + 1) = false := by
  have h' : p.testBit k = false := by simpa using h
  show (gm_jn lo hi p a b k || (p.testBit k && _)) = false
  rw [h', h0]
  rfl
theorem gm_jn_4 {lo hi : Nat → Nat} {p a b k : Nat} (h0 : gm_jn lo hi p a b k = false) (h2 : ¬ ((lo k = a ∧ hi k = b) ∨ (lo k = b ∧ hi k = a))) : gm_jn lo hi p a b (k + 1) = false := by
  show (gm_jn lo hi p a b k || (p.testBit k && (decide (lo k = a ∧ hi k = b) || decide (lo k = b ∧ hi k = a)))) = false
  rw [h0, decide_eq_false (fun z => h2 (Or.inl z)), decide_eq_false (fun z => h2 (Or.inr z))]
  simp
theorem gm_jn_adj {lo hi : Nat → Nat} {p a b : Nat} : ∀ k, gm_jn lo hi p a b k = true ↔ gm_adj lo hi p k a b := by
  intro k
  induction k with
  | zero => exact ⟨fun h => (by cases h), fun ⟨i, h, _⟩ => absurd h (Nat.not_lt_zero _)⟩
  | succ k ih =>
    constructor
    · intro h
      by_cases h0 : gm_jn lo hi p a b k = true
      · obtain ⟨i, h1, h2⟩ := ih.mp h0
        exact ⟨i, by omega, h2⟩
      · have h0' : gm_jn lo hi p a b k = false := by simpa using h0
        by_cases hb : p.testBit k = true
        · by_cases h2 : (lo k = a ∧ hi k = b) ∨ (lo k = b ∧ hi k = a)
          · exact ⟨k, by omega, hb, h2⟩
          · rw [gm_jn_4 h0' h2] at h; cases h
        · rw [gm_jn_3 h0' hb] at h; cases h
    · rintro ⟨i, h1, h2, h3⟩
      by_cases hi' : i = k
      · subst hi'
        exact gm_jn_2 h2 h3
      · exact gm_jn_1 (ih.mpr ⟨i, by omega, h2, h3⟩)
theorem og_nI {x b : Nat} (hx : x ≤ 8) (hb : b < 8) : og x = nI b ↔ x = b := by
  rw [← og_lt hb]
  exact og_inj hx (by omega)
/-- what the reference holds for a coin while the groups below c are laid and M of c's group -/
def gr_v (L : Nat → Nat) (c0 : Nat) (M : Nat → Bool) (a : Nat) : Int32 := if L a < c0 then nI (gm_rk L (L a)) else if M a = true then nI (gm_rk L c0) else -1
/-- how many coins are not marked -/
def gr_un (M : Nat → Bool) : Nat := gm_sum (fun a => if M a = true then 0 else 1) 8
theorem gm_rk_8 (L : Nat → Nat) (v : Nat) : gm_rk L v ≤ v := gm_sum_le (fun c => by unfold gm_ldr; split <;> omega) v
theorem nI_nn {k : Nat} (h : k < 2 ^ 31) : 0 ≤ nI k := (nI_leI (a := 0) (by omega) h).mpr (Nat.zero_le _)
theorem gr_neg {L : Nat → Nat} {c0 : Nat} {M : Nat → Bool} {a : Nat} (hc : c0 ≤ 8) : 0 ≤ gr_v L c0 M a ↔ (L a < c0 ∨ M a = true) := by
  unfold gr_v
  by_cases h1 : L a < c0
  · rw [if_pos h1]
    have := gm_rk_8 L (L a)
    exact ⟨fun _ => Or.inl h1, fun _ => nI_nn (by omega)⟩
  · rw [if_neg h1]
    by_cases h2 : M a = true
    · rw [if_pos h2]
      have := gm_rk_8 L c0
      exact ⟨fun _ => Or.inr h2, fun _ => nI_nn (by omega)⟩
    · rw [if_neg h2]
      exact ⟨fun z => absurd z (by decide), fun z => by rcases z with z | z; exact absurd z h1; exact absurd z h2⟩
theorem gr_eq {L : Nat → Nat} {c0 : Nat} {M : Nat → Bool} {a : Nat} (hc : c0 ≤ 8) (hL : L a < 8 → L (L a) = L a) (hM : M a = true → L a = c0) : gr_v L c0 M a = nI (gm_rk L c0) ↔ M a = true := by
  unfold gr_v
  have r1 := gm_rk_8 L c0
  by_cases h1 : L a < c0
  · rw [if_pos h1]
    have r2 := gm_rk_lt (hL (by omega)) h1
    exact ⟨fun z => by have := kq_eq z; omega, fun z => absurd (hM z) (by omega)⟩
  · rw [if_neg h1]
    by_cases h2 : M a = true
    · rw [if_pos h2]
      exact ⟨fun _ => h2, fun _ => rfl⟩
    · rw [if_neg h2]
      refine ⟨fun z => ?_, fun z => absurd z h2⟩
      have h3 := nI_nn (k := gm_rk L c0) (by omega)
      rw [← z] at h3
      exact absurd h3 (by decide)
theorem gr_un_upd {M : Nat → Bool} {a : Nat} (ha : a < 8) (h : M a = false) : gr_un (fun x => if x = a then true else M x) + 1 = gr_un M := by
  have e := gm_sum_add (f := fun x => if M x = true then 0 else 1) (g := fun x => if (if x = a then true else M x) = true then 0 else 1) (h := fun x => if x = a then 1 else 0) (fun x => by
    show (if M x = true then 0 else 1) = (if (if x = a then true else M x) = true then 0 else 1) + (if x = a then 1 else 0)
    by_cases hx : x = a
    · subst hx
      rw [h]
      simp
    · simp [hx]) 8
  rw [gm_sum_one, if_pos ha] at e
  exact e.symm
/-- marks of c0's group, as far as they go -/
def gr_M (lo hi : Nat → Nat) (n p c0 : Nat) (go : Nat → Int32) (M : Nat → Bool) : Prop :=
  (∀ a, M a = true → a < 8 ∧ gm_L lo hi n p n a = c0) ∧ M c0 = true ∧ ∀ a, a < 8 → go a = gr_v (gm_L lo hi n p n) c0 M a
def gr_cl (lo hi : Nat → Nat) (n p : Nat) (M : Nat → Bool) (a b : Nat) : Prop := M b = true → gm_two lo hi n p a → gm_adj lo hi p n a b → M a = true
theorem gm_L_two {lo hi : Nat → Nat} {n p a : Nat} (h : gm_L lo hi n p n a < 8) : gm_two lo hi n p a := Classical.byContradiction (fun z => by
  have := ((gm_LI_ok lo hi n p n).1 a).mpr z
  omega)
theorem gm_L_idem {lo hi : Nat → Nat} {n p a : Nat} (h : gm_L lo hi n p n a < 8) : gm_L lo hi n p n (gm_L lo hi n p n a) = gm_L lo hi n p n a := ((gm_LI_ok lo hi n p n).2.1 a (gm_L_two h)).2.2
theorem gm_L_le {lo hi : Nat → Nat} {n p a : Nat} (h : gm_two lo hi n p a) : gm_L lo hi n p n a ≤ a := ((gm_LI_ok lo hi n p n).2.1 a h).1
/-- a neighbour of a marked coin is of the group -/
theorem gr_adj {lo hi : Nat → Nat} {n p c0 : Nat} {go : Nat → Int32} {M : Nat → Bool} (hM : gr_M lo hi n p c0 go M) (hc : c0 < 8) {a b : Nat} (hb : M b = true) (ha : gm_two lo hi n p a) (hj : gm_adj lo hi p n a b) : gm_L lo hi n p n a = c0 := by
  obtain ⟨h1, h2⟩ := hM.1 b hb
  exact ((gm_LI_ok lo hi n p n).2.2.1 a b hj ha (gm_L_two (by omega))).trans h2
/-- nothing more to mark: the whole group is marked -/
theorem gr_all {lo hi : Nat → Nat} {n p c0 : Nat} {go : Nat → Int32} {M : Nat → Bool} (hM : gr_M lo hi n p c0 go M) (hc : c0 < 8) (hcl : ∀ a, a < 8 → ∀ b, b < 8 → gr_cl lo hi n p M a b) {a : Nat} (h : gm_L lo hi n p n a = c0) : M a = true := by
  have hL0 := (hM.1 c0 hM.2.1).2
  exact (gm_LI_ok lo hi n p n).2.2.2 (fun x => M x = true) (fun x y hxy hx hy hm => hcl x hx.1 y hy.1 hm hx hxy) a c0 (gm_L_two (by omega)) (gm_L_two (by omega)) (h.trans hL0.symm) hM.2.1
theorem gr_mark {lo hi : Nat → Nat} {n p c0 : Nat} {go : Nat → Int32} {M : Nat → Bool} (hM : gr_M lo hi n p c0 go M) {a : Nat} (ha : a < 8) (hL : gm_L lo hi n p n a = c0) : gr_M lo hi n p c0 (upd go a (nI (gm_rk (gm_L lo hi n p n) c0))) (fun x => if x = a then true else M x) := by
  refine ⟨fun x hx => ?_, ?_, fun x hx => ?_⟩
  · by_cases e : x = a
    · rw [e]; exact ⟨ha, hL⟩
    · exact hM.1 x (by simpa [e] using hx)
  · by_cases e : c0 = a
    · simp [e]
    · simp [e, hM.2.1]
  · unfold gr_v
    by_cases e : x = a
    · subst e
      rw [pk_us, if_neg (by omega), if_pos (by simp)]
    · rw [pk_un e, hM.2.2 x hx]
      simp only [e, if_false]
      rfl
/-- from the coins below c to those below c + 1: c leads no group -/
theorem gr_skip {L : Nat → Nat} {c a : Nat} (h : L c ≠ c) (hL : ∀ a, L a < 8 → L (L a) = L a) (hc : c < 8) : gr_v L c (fun _ => false) a = gr_v L (c + 1) (fun _ => false) a ∧ gm_rk L (c + 1) = gm_rk L c := by
  constructor
  · have hne : L a ≠ c := fun z => h (by have := hL a (by omega); rw [z] at this; exact this)
    unfold gr_v
    by_cases h1 : L a < c
    · rw [if_pos h1, if_pos (by omega)]
    · rw [if_neg h1, if_neg (show ¬ L a < c + 1 by omega)]
      rfl
  · show gm_rk L c + gm_ldr L c = gm_rk L c
    rw [show gm_ldr L c = 0 from if_neg h, Nat.add_zero]
/-- c leads a group, and all of it is marked -/
theorem gr_next {L : Nat → Nat} {c a : Nat} {M : Nat → Bool} (h1 : ∀ a, M a = true → L a = c) (h2 : ∀ a, L a = c → M a = true) : gr_v L c M a = gr_v L (c + 1) (fun _ => false) a := by
  unfold gr_v
  by_cases q : L a < c
  · rw [if_pos q, if_pos (by omega)]
  · rw [if_neg q]
    by_cases q2 : L a = c
    · rw [if_pos (h2 a q2), if_pos (by omega), q2]
    · rw [if_neg (fun z => q2 (h1 a z)), if_neg (show ¬ L a < c + 1 by omega)]
      rfl
theorem gm_two_i {lo hi : Nat → Nat} {n p a : Nat} (ha : a < 8) : nI (gm_pc (p &&& gm_mk lo hi n a)) = nI 2 ↔ gm_two lo hi n p a := by
  have := gm_pc_le (p &&& gm_mk lo hi n a)
  exact ⟨fun z => ⟨ha, kq_eq z⟩, fun z => congrArg nI z.2⟩
set_option maxRecDepth 100000 in
set_option maxHeartbeats 4000000 in
theorem ct_joined {l : Launch} {D : va_G} {kI kB kC kL : ClassId} (rd : Nat → Nat) (th n : Nat) (one two own : Nat → Int32) (bg : Bool) (lf tu : Nat) (tk : Nat → Int32) (cu : Nat) (co tO t0 t1 : Nat → Int32) (sv : Bool) (mg nm : Nat → Int32) (gc : Nat) (go tx : Nat → Int32) (len : Nat) (lo hi : Nat → Nat) (ok : rfOk lo hi n one two own) (a b : Nat) (ha : a < 8) (hb : b < 8) (hp : lf < 2 ^ n) : kw_I l mn_R_joined (gw mn_R_joined cd_R_joined 5 (some .boolean)) ({ frames := 0, cells := 0, slots := 0, locals := 0 } : Room) D cl_v (kt kI kB kC kL) kE [.ref (rd 0), .int (nI a), .int (nI b)] (wRF kI rd th n one two own bg lf tu tk cu co tO t0 t1 sv mg nm gc go tx len) (fun r w => w = wRF kI rd th n one two own bg lf tu tk cu co tO t0 t1 sv mg nm gc go tx len ∧ r = bI (gm_jn lo hi lf a b n)) 0 0 := by
  refine kw_ofI (cc := cd_R_joined) (maxL := 5) (ty := .boolean) (by decide) rfl (Nat.le_of_ble_eq_true rfl) rfl ?_
  intro pp ee s m args below meth c A X hr hlk hE hnm
  have hn := ok.1.1
  have hp4 := kq_2n hn hp
  refine kw_iconst (v := (nI 0)) X dc_R_joined_0 (by decide) ?_
  refine kw_istore_n X dc_R_joined_1 rfl (by decide) ?_
  refine kw_iconst (v := (nI 0)) X dc_R_joined_2 (by decide) ?_
  refine kw_istore X dc_R_joined_3 (by decide) ?_
  refine kw_loop (α := Nat) (fun k => k ≤ n) (fun k => n - k) (fun _ => wRF kI rd th n one two own bg lf tu tk cu co tO t0 t1 sv mg nm gc go tx len) (fun k => [some (.ref (rd 0)), some (.int (nI a)), some (.int (nI b)), some (.int (bI (gm_jn lo hi lf a b k))), some (.int (nI k))]) (fun _ => []) 0 (Nat.zero_le _) (fun k hk ih => ?_)
  refine kw_iload X dc_R_joined_5 rfl ?_
  refine kw_aload_n X dc_R_joined_7 rfl rfl ?_
  refine kw_get X (wc_R _) 0 rfl rfl 1 (by decide) (gq wd_598) (fun _ h => h) rfl dc_R_joined_8 ?_
  refine kw_icmp_ge (tgt := 87) X dc_R_joined_11 (by decide) (fun hc11 => ?_) (fun hc11 => ?_)
  · refine kw_iload_n X dc_R_joined_87 rfl rfl ?_
    exact kw_zret X hr hlk (bI_nar _) dc_R_joined_88 ⟨rfl, by have hkn : n = k := Nat.le_antisymm (kq_le hc11) hk; subst hkn; rfl⟩
  · have hkn := kq_nle hc11
    obtain ⟨x, y, hx, hy, hxy, e1, e2, e3, e4⟩ := ok.2.1 k hkn
    refine kw_jn (α := Unit) (fun _ => True) (fun _ => wRF kI rd th n one two own bg lf tu tk cu co tO t0 t1 sv mg nm gc go tx len) (fun _ => [some (.ref (rd 0)), some (.int (nI a)), some (.int (nI b)), some (.int (bI (gm_jn lo hi lf a b k))), some (.int (nI k))]) (fun _ => [.int (bI (gm_jn lo hi lf a b (k + 1)))]) 80 (fun _ _ => ?_) (fun jn1 => ?_)
    · refine kw_istore_n X dc_R_joined_80 rfl (by decide) ?_
      refine kw_iinc (v := nI (k + 1)) X dc_R_joined_81 rfl (kq_inc k) (by decide) ?_
      refine kw_goto (tgt := 5) X dc_R_joined_84 (by decide) ?_
      exact ih (k + 1) (by omega) (by omega)
    · refine kw_iload_n X dc_R_joined_14 rfl rfl ?_
      refine kw_if_ne (tgt := 75) X dc_R_joined_15 (by decide) (fun hc15 => ?_) (fun hc15 => ?_)
      · have hj1 := gm_jn_1 (bI_1 hc15)
        refine kw_iconst (v := (nI 1)) X dc_R_joined_75 (by decide) ?_
        refine kw_goto (tgt := 80) X dc_R_joined_76 (by decide) ?_
        first
          | (refine kw_top (y := bI (gm_jn lo hi lf a b (k + 1))) (show nI 1 = _ from (congrArg bI hj1).symm) ?_; exact jn1 () trivial)
          | (refine kw_top (y := bI (gm_jn lo hi lf a b (k + 1))) (show nI 0 = _ from (congrArg bI hj0).symm) ?_; exact jn1 () trivial)
      · have h15 := bI_0 hc15
        refine kw_aload_n X dc_R_joined_18 rfl rfl ?_
        refine kw_get X (wc_R _) 0 rfl rfl 6 (by decide) (gq wd_603) (fun _ h => h) rfl dc_R_joined_19 ?_
        refine kw_iload X dc_R_joined_22 rfl ?_
        refine kw_ishr X dc_R_joined_24 rfl ?_
        refine kw_iconst (v := (nI 1)) X dc_R_joined_25 (by decide) ?_
        refine kw_iand X dc_R_joined_26 rfl ?_
        refine kw_iconst (v := (nI 1)) X dc_R_joined_27 (by decide) ?_
        refine kw_icmp_ne (tgt := 79) X dc_R_joined_28 (by decide) (fun hc28 => ?_) (fun hc28 => ?_)
        · have h28 : ¬ lf.testBit k = true := fun z => hc28 ((kq_has (by omega) (by omega)).mpr z)
          have hj0 := gm_jn_3 h15 h28
          refine kw_iconst (v := (nI 0)) X dc_R_joined_79 (by decide) ?_
          first
            | (refine kw_top (y := bI (gm_jn lo hi lf a b (k + 1))) (show nI 1 = _ from (congrArg bI hj1).symm) ?_; exact jn1 () trivial)
            | (refine kw_top (y := bI (gm_jn lo hi lf a b (k + 1))) (show nI 0 = _ from (congrArg bI hj0).symm) ?_; exact jn1 () trivial)
        · have h28 := (kq_has (by omega) (by omega)).mp hc28
          refine kw_aload_n X dc_R_joined_31 rfl rfl ?_
          refine kw_get X (wc_R _) 0 rfl rfl 2 (by decide) (gq wd_599) (fun _ h => h) rfl dc_R_joined_32 ?_
          refine kw_iload X dc_R_joined_35 rfl ?_
          refine kw_iald (v := nI x) X 1 0 rfl rfl (kq_in (by omega) (by omega)) (by rw [kq_cl (by omega)]; exact e1) dc_R_joined_37 ?_
          refine kw_iload_n X dc_R_joined_38 rfl rfl ?_
          refine kw_icmp_ne (tgt := 53) X dc_R_joined_39 (by decide) (fun hc39 => ?_) (fun hc39 => ?_)
          · have h39 : x ≠ a := kq_ne hc39
            refine kw_aload_n X dc_R_joined_53 rfl rfl ?_
            refine kw_get X (wc_R _) 0 rfl rfl 2 (by decide) (gq wd_599) (fun _ h => h) rfl dc_R_joined_54 ?_
            refine kw_iload X dc_R_joined_57 rfl ?_
            refine kw_iald (v := nI x) X 1 0 rfl rfl (kq_in (by omega) (by omega)) (by rw [kq_cl (by omega)]; exact e1) dc_R_joined_59 ?_
            refine kw_iload_n X dc_R_joined_60 rfl rfl ?_
            refine kw_icmp_ne (tgt := 79) X dc_R_joined_61 (by decide) (fun hc61 => ?_) (fun hc61 => ?_)
            · have h61 : x ≠ b := kq_ne hc61
              have hj0 := gm_jn_4 h15 (by omega)
              refine kw_iconst (v := (nI 0)) X dc_R_joined_79 (by decide) ?_
              first
                | (refine kw_top (y := bI (gm_jn lo hi lf a b (k + 1))) (show nI 1 = _ from (congrArg bI hj1).symm) ?_; exact jn1 () trivial)
                | (refine kw_top (y := bI (gm_jn lo hi lf a b (k + 1))) (show nI 0 = _ from (congrArg bI hj0).symm) ?_; exact jn1 () trivial)
            · have h61 : x = b := kq_eq hc61
              refine kw_aload_n X dc_R_joined_64 rfl rfl ?_
              refine kw_get X (wc_R _) 0 rfl rfl 3 (by decide) (gq wd_600) (fun _ h => h) rfl dc_R_joined_65 ?_
              refine kw_iload X dc_R_joined_68 rfl ?_
              refine kw_iald (v := og y) X 2 0 rfl rfl (kq_in (by omega) (by omega)) (by rw [kq_cl (by omega)]; exact e2) dc_R_joined_70 ?_
              refine kw_iload_n X dc_R_joined_71 rfl rfl ?_
              refine kw_icmp_ne (tgt := 79) X dc_R_joined_72 (by decide) (fun hc72 => ?_) (fun hc72 => ?_)
              · have h72 : y ≠ a := fun z => hc72 ((og_nI hy ha).mpr z)
                have hj0 := gm_jn_4 h15 (by omega)
                refine kw_iconst (v := (nI 0)) X dc_R_joined_79 (by decide) ?_
                first
                  | (refine kw_top (y := bI (gm_jn lo hi lf a b (k + 1))) (show nI 1 = _ from (congrArg bI hj1).symm) ?_; exact jn1 () trivial)
                  | (refine kw_top (y := bI (gm_jn lo hi lf a b (k + 1))) (show nI 0 = _ from (congrArg bI hj0).symm) ?_; exact jn1 () trivial)
              · have h72 : y = a := (og_nI hy ha).mp hc72
                have hj1 := gm_jn_2 (lo := lo) (hi := hi) (a := a) (b := b) h28 (by omega)
                refine kw_iconst (v := (nI 1)) X dc_R_joined_75 (by decide) ?_
                refine kw_goto (tgt := 80) X dc_R_joined_76 (by decide) ?_
                first
                  | (refine kw_top (y := bI (gm_jn lo hi lf a b (k + 1))) (show nI 1 = _ from (congrArg bI hj1).symm) ?_; exact jn1 () trivial)
                  | (refine kw_top (y := bI (gm_jn lo hi lf a b (k + 1))) (show nI 0 = _ from (congrArg bI hj0).symm) ?_; exact jn1 () trivial)
          · have h39 : x = a := kq_eq hc39
            refine kw_aload_n X dc_R_joined_42 rfl rfl ?_
            refine kw_get X (wc_R _) 0 rfl rfl 3 (by decide) (gq wd_600) (fun _ h => h) rfl dc_R_joined_43 ?_
            refine kw_iload X dc_R_joined_46 rfl ?_
            refine kw_iald (v := og y) X 2 0 rfl rfl (kq_in (by omega) (by omega)) (by rw [kq_cl (by omega)]; exact e2) dc_R_joined_48 ?_
            refine kw_iload_n X dc_R_joined_49 rfl rfl ?_
            refine kw_icmp_eq (tgt := 75) X dc_R_joined_50 (by decide) (fun hc50 => ?_) (fun hc50 => ?_)
            · have h50 : y = b := (og_nI hy hb).mp hc50
              have hj1 := gm_jn_2 (lo := lo) (hi := hi) (a := a) (b := b) h28 (by omega)
              refine kw_iconst (v := (nI 1)) X dc_R_joined_75 (by decide) ?_
              refine kw_goto (tgt := 80) X dc_R_joined_76 (by decide) ?_
              first
                | (refine kw_top (y := bI (gm_jn lo hi lf a b (k + 1))) (show nI 1 = _ from (congrArg bI hj1).symm) ?_; exact jn1 () trivial)
                | (refine kw_top (y := bI (gm_jn lo hi lf a b (k + 1))) (show nI 0 = _ from (congrArg bI hj0).symm) ?_; exact jn1 () trivial)
            · have h50 : y ≠ b := fun z => hc50 ((og_nI hy hb).mpr z)
              refine kw_aload_n X dc_R_joined_53 rfl rfl ?_
              refine kw_get X (wc_R _) 0 rfl rfl 2 (by decide) (gq wd_599) (fun _ h => h) rfl dc_R_joined_54 ?_
              refine kw_iload X dc_R_joined_57 rfl ?_
              refine kw_iald (v := nI x) X 1 0 rfl rfl (kq_in (by omega) (by omega)) (by rw [kq_cl (by omega)]; exact e1) dc_R_joined_59 ?_
              refine kw_iload_n X dc_R_joined_60 rfl rfl ?_
              refine kw_icmp_ne (tgt := 79) X dc_R_joined_61 (by decide) (fun hc61 => ?_) (fun hc61 => ?_)
              · have h61 : x ≠ b := kq_ne hc61
                have hj0 := gm_jn_4 h15 (by omega)
                refine kw_iconst (v := (nI 0)) X dc_R_joined_79 (by decide) ?_
                first
                  | (refine kw_top (y := bI (gm_jn lo hi lf a b (k + 1))) (show nI 1 = _ from (congrArg bI hj1).symm) ?_; exact jn1 () trivial)
                  | (refine kw_top (y := bI (gm_jn lo hi lf a b (k + 1))) (show nI 0 = _ from (congrArg bI hj0).symm) ?_; exact jn1 () trivial)
              · have h61 : x = b := kq_eq hc61
                refine kw_aload_n X dc_R_joined_64 rfl rfl ?_
                refine kw_get X (wc_R _) 0 rfl rfl 3 (by decide) (gq wd_600) (fun _ h => h) rfl dc_R_joined_65 ?_
                refine kw_iload X dc_R_joined_68 rfl ?_
                refine kw_iald (v := og y) X 2 0 rfl rfl (kq_in (by omega) (by omega)) (by rw [kq_cl (by omega)]; exact e2) dc_R_joined_70 ?_
                refine kw_iload_n X dc_R_joined_71 rfl rfl ?_
                refine kw_icmp_ne (tgt := 79) X dc_R_joined_72 (by decide) (fun hc72 => ?_) (fun hc72 => ?_)
                · have h72 : y ≠ a := fun z => hc72 ((og_nI hy ha).mpr z)
                  have hj0 := gm_jn_4 h15 (by omega)
                  refine kw_iconst (v := (nI 0)) X dc_R_joined_79 (by decide) ?_
                  first
                    | (refine kw_top (y := bI (gm_jn lo hi lf a b (k + 1))) (show nI 1 = _ from (congrArg bI hj1).symm) ?_; exact jn1 () trivial)
                    | (refine kw_top (y := bI (gm_jn lo hi lf a b (k + 1))) (show nI 0 = _ from (congrArg bI hj0).symm) ?_; exact jn1 () trivial)
                · have h72 : y = a := (og_nI hy ha).mp hc72
                  have hj1 := gm_jn_2 (lo := lo) (hi := hi) (a := a) (b := b) h28 (by omega)
                  refine kw_iconst (v := (nI 1)) X dc_R_joined_75 (by decide) ?_
                  refine kw_goto (tgt := 80) X dc_R_joined_76 (by decide) ?_
                  first
                    | (refine kw_top (y := bI (gm_jn lo hi lf a b (k + 1))) (show nI 1 = _ from (congrArg bI hj1).symm) ?_; exact jn1 () trivial)
                    | (refine kw_top (y := bI (gm_jn lo hi lf a b (k + 1))) (show nI 0 = _ from (congrArg bI hj0).symm) ?_; exact jn1 () trivial)
set_option maxRecDepth 100000 in
set_option maxHeartbeats 4000000 in
theorem ct_spread {l : Launch} {D : va_G} {kI kB kC kL : ClassId} (rd : Nat → Nat) (th n : Nat) (one two own : Nat → Int32) (bg : Bool) (lf tu : Nat) (tk : Nat → Int32) (cu : Nat) (co tO t0 t1 : Nat → Int32) (sv : Bool) (mg nm : Nat → Int32) (go tx : Nat → Int32) (len : Nat) (lo hi : Nat → Nat) (ok : rfOk lo hi n one two own) (hp : lf < 2 ^ n) (c0 : Nat) (hc0 : c0 < 8) (Ms : Nat → Bool) (hMs : gr_M lo hi n lf c0 go Ms) : kw_V l mn_R_spread (gw mn_R_spread cd_R_spread 4 none) ({ frames := 1, cells := 0, slots := 0, locals := 24 } : Room) D cl_v (kt kI kB kC kL) kE [.ref (rd 0)] (wRF kI rd th n one two own bg lf tu tk cu co tO t0 t1 sv mg nm (gm_rk (gm_L lo hi n lf n) c0) go tx len) (fun w => ∃ (go2 : Nat → Int32) (M2 : Nat → Bool), w = wRF kI rd th n one two own bg lf tu tk cu co tO t0 t1 sv mg nm (gm_rk (gm_L lo hi n lf n) c0) go2 tx len ∧ gr_M lo hi n lf c0 go2 M2 ∧ ∀ a, gm_L lo hi n lf n a = c0 → M2 a = true) 0 0 := by
  refine kw_ofV (cc := cd_R_spread) (maxL := 4) (by decide) rfl (Nat.le_of_ble_eq_true rfl) rfl ?_
  intro pp ee s m args below meth c A X hr hlk hE hnm
  have hn := ok.1.1
  refine kw_iconst (v := (nI 1)) X dc_R_spread_0 (by decide) ?_
  refine kw_istore_n X dc_R_spread_1 rfl (by decide) ?_
  refine kw_loop (α := (Nat → Bool) × Bool × (Nat → Int32)) (fun a => gr_M lo hi n lf c0 a.2.2 a.1 ∧ (a.2.1 = false → ∀ x, x < 8 → ∀ b, b < 8 → gr_cl lo hi n lf a.1 x b)) (fun a => 2 * gr_un a.1 + (if a.2.1 = true then 1 else 0)) (fun a => wRF kI rd th n one two own bg lf tu tk cu co tO t0 t1 sv mg nm (gm_rk (gm_L lo hi n lf n) c0) a.2.2 tx len) (fun a => [some (.ref (rd 0)), some (.int (bI a.2.1)), none, none]) (fun _ => []) (Ms, true, go) ⟨hMs, fun z => (by cases z)⟩ (fun a hI ih => ?_)
  obtain ⟨M0, mo, g0⟩ := a
  obtain ⟨hM0, hcl0⟩ := hI
  refine kw_cv (ws' := wRF kI rd th n one two own bg lf tu tk cu co tO t0 t1 sv mg nm (gm_rk (gm_L lo hi n lf n) c0) g0 tx len) (lv' := [some (.ref (rd 0)), some (.int (bI mo)), none, none]) rfl rfl rfl ?_
  refine kw_iload_n X dc_R_spread_2 rfl rfl ?_
  refine kw_if_eq (tgt := 95) X dc_R_spread_3 (by decide) (fun hc3 => ?_) (fun hc3 => ?_)
  · have hcl9 := hcl0 (bI_0 hc3)
    exact kw_vret X hr hlk dc_R_spread_95 ⟨g0, M0, rfl, hM0, fun a ha => gr_all hM0 hc0 hcl9 ha⟩
  · refine kw_iconst (v := (nI 0)) X dc_R_spread_6 (by decide) ?_
    refine kw_istore_n X dc_R_spread_7 rfl (by decide) ?_
    refine kw_iconst (v := (nI 0)) X dc_R_spread_8 (by decide) ?_
    refine kw_istore_n X dc_R_spread_9 rfl (by decide) ?_
    refine kw_loop (α := ((Nat → Bool) × Bool × (Nat → Int32)) × Nat) (fun a => gr_M lo hi n lf c0 a.1.2.2 a.1.1 ∧ a.2 ≤ 8 ∧ gr_un a.1.1 ≤ gr_un M0 ∧ (a.1.2.1 = true → gr_un a.1.1 < gr_un M0) ∧ (a.1.2.1 = false → ∀ x, x < a.2 → ∀ b, b < 8 → gr_cl lo hi n lf a.1.1 x b)) (fun a => 8 - a.2) (fun a => wRF kI rd th n one two own bg lf tu tk cu co tO t0 t1 sv mg nm (gm_rk (gm_L lo hi n lf n) c0) a.1.2.2 tx len) (fun a => [some (.ref (rd 0)), some (.int (bI a.1.2.1)), some (.int (nI a.2)), none]) (fun _ => []) ((M0, false, g0), 0) ⟨hM0, Nat.zero_le _, Nat.le_refl _, fun z => (by cases z), fun _ x hx => absurd hx (Nat.not_lt_zero _)⟩ (fun a hI ih2 => ?_)
    obtain ⟨⟨M1, mo1, g1⟩, i⟩ := a
    obtain ⟨hM1, hi8, hun1, hlt1, hcl1⟩ := hI
    have hi8 : i ≤ 8 := hi8
    have hun1 : gr_un M1 ≤ gr_un M0 := hun1
    have hM1 : gr_M lo hi n lf c0 g1 M1 := hM1
    refine kw_cv (ws' := wRF kI rd th n one two own bg lf tu tk cu co tO t0 t1 sv mg nm (gm_rk (gm_L lo hi n lf n) c0) g1 tx len) (lv' := [some (.ref (rd 0)), some (.int (bI mo1)), some (.int (nI i)), none]) rfl rfl rfl ?_
    refine kw_iload_n X dc_R_spread_10 rfl rfl ?_
    refine kw_bipush (v := (nI 8)) X dc_R_spread_11 (by decide) ?_
    refine kw_icmp_ge (tgt := 92) X dc_R_spread_13 (by decide) (fun hc13 => ?_) (fun hc13 => ?_)
    · have he8 : i = 8 := Nat.le_antisymm hi8 (kq_le hc13)
      refine kw_goto (tgt := 2) X dc_R_spread_92 (by decide) ?_
      refine kw_kill 2 ?_
      refine kw_kill 3 ?_
      exact ih (M1, mo1, g1) ⟨hM1, fun z x hx b hb => hcl1 z x (by omega) b hb⟩ (by
        show 2 * gr_un M1 + (if mo1 = true then 1 else 0) < 2 * gr_un M0 + (if mo = true then 1 else 0)
        rw [if_pos (bI_1 hc3)]
        by_cases z : mo1 = true
        · have : gr_un M1 < gr_un M0 := hlt1 z
          rw [if_pos z]
          omega
        · rw [if_neg z]
          omega)
    · have hi7 : i < 8 := kq_nle hc13
      have mi := kq_mk (lo := lo) (hi := hi) hn i
      refine kw_iconst (v := (nI 0)) X dc_R_spread_16 (by decide) ?_
      refine kw_istore_n X dc_R_spread_17 rfl (by decide) ?_
      refine kw_loop (α := ((Nat → Bool) × Bool × (Nat → Int32)) × Nat) (fun a => gr_M lo hi n lf c0 a.1.2.2 a.1.1 ∧ a.2 ≤ 8 ∧ gr_un a.1.1 ≤ gr_un M0 ∧ (a.1.2.1 = true → gr_un a.1.1 < gr_un M0) ∧ (a.1.2.1 = false → (∀ x, x < i → ∀ b, b < 8 → gr_cl lo hi n lf a.1.1 x b) ∧ ∀ b, b < a.2 → gr_cl lo hi n lf a.1.1 i b)) (fun a => 8 - a.2) (fun a => wRF kI rd th n one two own bg lf tu tk cu co tO t0 t1 sv mg nm (gm_rk (gm_L lo hi n lf n) c0) a.1.2.2 tx len) (fun a => [some (.ref (rd 0)), some (.int (bI a.1.2.1)), some (.int (nI i)), some (.int (nI a.2))]) (fun _ => []) ((M1, mo1, g1), 0) ⟨hM1, Nat.zero_le _, hun1, hlt1, fun z => ⟨hcl1 z, fun b hb => absurd hb (Nat.not_lt_zero _)⟩⟩ (fun a hI ih3 => ?_)
      obtain ⟨⟨M2, mo2, g2⟩, j⟩ := a
      obtain ⟨hM2, hj8, hun2, hlt2, hcl2⟩ := hI
      have hj8 : j ≤ 8 := hj8
      have hun2 : gr_un M2 ≤ gr_un M0 := hun2
      have hM2 : gr_M lo hi n lf c0 g2 M2 := hM2
      refine kw_cv (ws' := wRF kI rd th n one two own bg lf tu tk cu co tO t0 t1 sv mg nm (gm_rk (gm_L lo hi n lf n) c0) g2 tx len) (lv' := [some (.ref (rd 0)), some (.int (bI mo2)), some (.int (nI i)), some (.int (nI j))]) rfl rfl rfl ?_
      refine kw_iload_n X dc_R_spread_18 rfl rfl ?_
      refine kw_bipush (v := (nI 8)) X dc_R_spread_19 (by decide) ?_
      refine kw_icmp_ge (tgt := 86) X dc_R_spread_21 (by decide) (fun hc21 => ?_) (fun hc21 => ?_)
      · have he8 : j = 8 := Nat.le_antisymm hj8 (kq_le hc21)
        have hfin : mo2 = false → ∀ x, x < i + 1 → ∀ b, b < 8 → gr_cl lo hi n lf M2 x b := fun z x hx b hb => by
          rcases Nat.lt_or_ge x i with q | q
          · exact (hcl2 z).1 x q b hb
          · have e : x = i := by omega
            rw [e]
            exact (hcl2 z).2 b (by show b < j; omega)
        refine kw_iinc (v := nI (i + 1)) X dc_R_spread_86 rfl (kq_inc i) (by decide) ?_
        refine kw_goto (tgt := 10) X dc_R_spread_89 (by decide) ?_
        refine kw_kill 3 ?_
        exact ih2 ((M2, mo2, g2), i + 1) ⟨hM2, by show i + 1 ≤ 8; omega, hun2, hlt2, hfin⟩ (by show 8 - (i + 1) < 8 - i; omega)
      · have hj7 : j < 8 := kq_nle hc21
        have hjj : j + 1 ≤ 8 := hj7
        refine kw_aload_n X dc_R_spread_24 rfl rfl ?_
        refine kw_get X (wc_R _) 0 rfl rfl 18 (by decide) (gq wd_615) (fun _ h => h) rfl dc_R_spread_25 ?_
        refine kw_iload_n X dc_R_spread_28 rfl rfl ?_
        refine kw_iald (v := gr_v (gm_L lo hi n lf n) c0 M2 i) X 11 0 rfl rfl (kq_in hi7 (by omega)) (by rw [kq_cl (by omega)]; exact hM2.2.2 i hi7) dc_R_spread_29 ?_
        refine kw_if_ge (tgt := 86) X dc_R_spread_30 (by decide) (fun hc30 => ?_) (fun hc30 => ?_)
        · have hgi := (gr_neg (M := M2) (by omega)).mp hc30
          have hfin : mo2 = false → ∀ x, x < i + 1 → ∀ b, b < 8 → gr_cl lo hi n lf M2 x b := fun z x hx b hb => by
            rcases Nat.lt_or_ge x i with q | q
            · exact (hcl2 z).1 x q b hb
            · have e : x = i := by omega
              rw [e]
              intro h1 h2 h3
              rcases hgi with q | q
              · have := gr_adj hM2 hc0 h1 h2 h3
                omega
              · exact q
          refine kw_iinc (v := nI (i + 1)) X dc_R_spread_86 rfl (kq_inc i) (by decide) ?_
          refine kw_goto (tgt := 10) X dc_R_spread_89 (by decide) ?_
          refine kw_kill 3 ?_
          exact ih2 ((M2, mo2, g2), i + 1) ⟨hM2, by show i + 1 ≤ 8; omega, hun2, hlt2, hfin⟩ (by show 8 - (i + 1) < 8 - i; omega)
        · have hgi : ¬ M2 i = true := fun z => hc30 ((gr_neg (M := M2) (by omega)).mpr (Or.inr z))
          refine kw_aload_n X dc_R_spread_33 rfl rfl ?_
          refine kw_get X (wc_R _) 0 rfl rfl 18 (by decide) (gq wd_615) (fun _ h => h) rfl dc_R_spread_34 ?_
          refine kw_iload_n X dc_R_spread_37 rfl rfl ?_
          refine kw_iald (v := gr_v (gm_L lo hi n lf n) c0 M2 j) X 11 0 rfl rfl (kq_in hj7 (by omega)) (by rw [kq_cl (by omega)]; exact hM2.2.2 j hj7) dc_R_spread_38 ?_
          refine kw_aload_n X dc_R_spread_39 rfl rfl ?_
          refine kw_get X (wc_R _) 0 rfl rfl 17 (by decide) (gq wd_614) (fun _ h => h) rfl dc_R_spread_40 ?_
          refine kw_icmp_ne (tgt := 80) X dc_R_spread_43 (by decide) (fun hc43 => ?_) (fun hc43 => ?_)
          · have hno : gr_cl lo hi n lf M2 i j := fun h1 _ _ => absurd ((gr_eq (M := M2) (by omega) (fun q => gm_L_idem q) (fun q => (hM2.1 j q).2)).mpr h1) hc43
            refine kw_iinc (v := nI (j + 1)) X dc_R_spread_80 rfl (kq_inc j) (by decide) ?_
            refine kw_goto (tgt := 18) X dc_R_spread_83 (by decide) ?_
            first
              | exact ih3 ((fun x => if x = i then true else M2 x, true, upd g2 i (nI (gm_rk (gm_L lo hi n lf n) c0))), j + 1) ⟨hMk, hjj, Nat.le_of_lt hunk, fun _ => hunk, fun z => (by cases z)⟩ (by show 8 - (j + 1) < 8 - j; omega)
              | exact ih3 ((M2, mo2, g2), j + 1) ⟨hM2, hjj, hun2, hlt2, fun z => ⟨(hcl2 z).1, fun b hb => by rcases Nat.lt_or_ge b j with q | q; (exact (hcl2 z).2 b q); (have e : b = j := (by have hb9 : b < j + 1 := hb; omega); rw [e]; exact hno)⟩⟩ (by show 8 - (j + 1) < 8 - j; omega)
          · have hMj : M2 j = true := (gr_eq (M := M2) (by omega) (fun q => gm_L_idem q) (fun q => (hM2.1 j q).2)).mp hc43
            refine kw_aload_n X dc_R_spread_46 rfl rfl ?_
            refine kw_iload_n X dc_R_spread_47 rfl rfl ?_
            refine kw_aload_n X dc_R_spread_48 rfl rfl ?_
            refine kw_get X (wc_R _) 0 rfl rfl 6 (by decide) (gq wd_603) (fun _ h => h) rfl dc_R_spread_49 ?_
            refine kw_callVI X kEw hE 0 rfl rfl (ct_belong rd th n one two own bg lf tu tk cu co tO t0 t1 sv mg nm (gm_rk (gm_L lo hi n lf n) c0) g2 tx len lo hi ok i lf hi7 hp) (cw_V 2 X wd_764 wd_766 wp_19 wd_8 wd_767 rfl rfl (by decide +kernel) ⟨Nat.le_of_ble_eq_true rfl, Nat.le_of_ble_eq_true rfl⟩) [0, 1, 2, 3, 4, 5, 6, 7, 8, 9, 10, 11, 12] rfl (by decide) (fun _ _ h => by obtain ⟨rfl, _⟩ := h; exact Nat.le_refl _) rfl rfl (Nat.le_of_ble_eq_true rfl) dc_R_spread_52 ⟨Nat.zero_le _, Nat.zero_le _⟩ (fun r w hp => ?_)
            obtain ⟨rfl, rfl⟩ := hp
            refine kw_cv (ws' := wRF kI rd th n one two own bg lf tu tk cu co tO t0 t1 sv mg nm (gm_rk (gm_L lo hi n lf n) c0) g2 tx len) rfl rfl rfl ?_
            refine kw_iconst (v := (nI 2)) X dc_R_spread_55 (by decide) ?_
            refine kw_icmp_ne (tgt := 80) X dc_R_spread_56 (by decide) (fun hc56 => ?_) (fun hc56 => ?_)
            · have hno : gr_cl lo hi n lf M2 i j := fun _ h2 _ => absurd ((gm_two_i hi7).mpr h2) hc56
              refine kw_iinc (v := nI (j + 1)) X dc_R_spread_80 rfl (kq_inc j) (by decide) ?_
              refine kw_goto (tgt := 18) X dc_R_spread_83 (by decide) ?_
              first
                | exact ih3 ((fun x => if x = i then true else M2 x, true, upd g2 i (nI (gm_rk (gm_L lo hi n lf n) c0))), j + 1) ⟨hMk, hjj, Nat.le_of_lt hunk, fun _ => hunk, fun z => (by cases z)⟩ (by show 8 - (j + 1) < 8 - j; omega)
                | exact ih3 ((M2, mo2, g2), j + 1) ⟨hM2, hjj, hun2, hlt2, fun z => ⟨(hcl2 z).1, fun b hb => by rcases Nat.lt_or_ge b j with q | q; (exact (hcl2 z).2 b q); (have e : b = j := (by have hb9 : b < j + 1 := hb; omega); rw [e]; exact hno)⟩⟩ (by show 8 - (j + 1) < 8 - j; omega)
            · have hti : gm_two lo hi n lf i := (gm_two_i hi7).mp hc56
              refine kw_aload_n X dc_R_spread_59 rfl rfl ?_
              refine kw_iload_n X dc_R_spread_60 rfl rfl ?_
              refine kw_iload_n X dc_R_spread_61 rfl rfl ?_
              refine kw_callVI X kEw hE 0 rfl rfl (ct_joined rd th n one two own bg lf tu tk cu co tO t0 t1 sv mg nm (gm_rk (gm_L lo hi n lf n) c0) g2 tx len lo hi ok i j hi7 hj7 hp) (cw_V 2 X wd_780 wd_782 wp_22 wd_8 wd_783 rfl rfl (by decide +kernel) ⟨Nat.le_of_ble_eq_true rfl, Nat.le_of_ble_eq_true rfl⟩) [0, 1, 2, 3, 4, 5, 6, 7, 8, 9, 10, 11, 12] rfl (by decide) (fun _ _ h => by obtain ⟨rfl, _⟩ := h; exact Nat.le_refl _) rfl rfl (Nat.le_of_ble_eq_true rfl) dc_R_spread_62 ⟨Nat.zero_le _, Nat.zero_le _⟩ (fun r w hp => ?_)
              obtain ⟨rfl, rfl⟩ := hp
              refine kw_cv (ws' := wRF kI rd th n one two own bg lf tu tk cu co tO t0 t1 sv mg nm (gm_rk (gm_L lo hi n lf n) c0) g2 tx len) rfl rfl rfl ?_
              refine kw_if_eq (tgt := 80) X dc_R_spread_65 (by decide) (fun hc65 => ?_) (fun hc65 => ?_)
              · have hno : gr_cl lo hi n lf M2 i j := fun _ _ h3 => by
                  have h9 := bI_0 hc65
                  rw [(gm_jn_adj n).mpr h3] at h9
                  cases h9
                refine kw_iinc (v := nI (j + 1)) X dc_R_spread_80 rfl (kq_inc j) (by decide) ?_
                refine kw_goto (tgt := 18) X dc_R_spread_83 (by decide) ?_
                first
                  | exact ih3 ((fun x => if x = i then true else M2 x, true, upd g2 i (nI (gm_rk (gm_L lo hi n lf n) c0))), j + 1) ⟨hMk, hjj, Nat.le_of_lt hunk, fun _ => hunk, fun z => (by cases z)⟩ (by show 8 - (j + 1) < 8 - j; omega)
                  | exact ih3 ((M2, mo2, g2), j + 1) ⟨hM2, hjj, hun2, hlt2, fun z => ⟨(hcl2 z).1, fun b hb => by rcases Nat.lt_or_ge b j with q | q; (exact (hcl2 z).2 b q); (have e : b = j := (by have hb9 : b < j + 1 := hb; omega); rw [e]; exact hno)⟩⟩ (by show 8 - (j + 1) < 8 - j; omega)
              · have hji : gm_adj lo hi lf n i j := (gm_jn_adj n).mp (bI_1 hc65)
                have hLi := gr_adj hM2 hc0 hMj hti hji
                have hMk := gr_mark hM2 hi7 hLi
                have hunk : gr_un (fun x => if x = i then true else M2 x) < gr_un M0 := by
                  have := gr_un_upd (M := M2) hi7 (by simpa using hgi)
                  omega
                refine kw_aload_n X dc_R_spread_68 rfl rfl ?_
                refine kw_get X (wc_R _) 0 rfl rfl 18 (by decide) (gq wd_615) (fun _ h => h) rfl dc_R_spread_69 ?_
                refine kw_iload_n X dc_R_spread_72 rfl rfl ?_
                refine kw_aload_n X dc_R_spread_73 rfl rfl ?_
                refine kw_get X (wc_R _) 0 rfl rfl 17 (by decide) (gq wd_614) (fun _ h => h) rfl dc_R_spread_74 ?_
                refine kw_iast X 11 0 rfl rfl (kq_in hi7 (by omega)) dc_R_spread_77 ?_
                refine kw_iconst (v := (nI 1)) X dc_R_spread_78 (by decide) ?_
                refine kw_istore_n X dc_R_spread_79 rfl (by decide) ?_
                refine kw_cv (ws' := wRF kI rd th n one two own bg lf tu tk cu co tO t0 t1 sv mg nm (gm_rk (gm_L lo hi n lf n) c0) (upd g2 i (nI (gm_rk (gm_L lo hi n lf n) c0))) tx len) (lv' := [some (.ref (rd 0)), some (.int (bI true)), some (.int (nI i)), some (.int (nI j))]) (by
                  show wRF kI rd th n one two own bg lf tu tk cu co tO t0 t1 sv mg nm (gm_rk (gm_L lo hi n lf n) c0) (upd g2 (nI i).toNatClampNeg (nI (gm_rk (gm_L lo hi n lf n) c0))) tx len = _
                  rw [kq_cl (show i < 4096 by omega)]) rfl rfl ?_
                refine kw_iinc (v := nI (j + 1)) X dc_R_spread_80 rfl (kq_inc j) (by decide) ?_
                refine kw_goto (tgt := 18) X dc_R_spread_83 (by decide) ?_
                first
                  | exact ih3 ((fun x => if x = i then true else M2 x, true, upd g2 i (nI (gm_rk (gm_L lo hi n lf n) c0))), j + 1) ⟨hMk, hjj, Nat.le_of_lt hunk, fun _ => hunk, fun z => (by cases z)⟩ (by show 8 - (j + 1) < 8 - j; omega)
                  | exact ih3 ((M2, mo2, g2), j + 1) ⟨hM2, hjj, hun2, hlt2, fun z => ⟨(hcl2 z).1, fun b hb => by rcases Nat.lt_or_ge b j with q | q; (exact (hcl2 z).2 b q); (have e : b = j := (by have hb9 : b < j + 1 := hb; omega); rw [e]; exact hno)⟩⟩ (by show 8 - (j + 1) < 8 - j; omega)
