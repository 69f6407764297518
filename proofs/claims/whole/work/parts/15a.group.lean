/-! groups -/
abbrev wGrp (kI : ClassId) (g0 g1 w0 w1 w2 w3 n : Nat) (La les oth soc : Nat → Int32) : va_W := (g0, .inr (4, [.ref w0, .ref g1])) :: (g1, .inl (kI, 8, .inl La)) :: wWeb kI w0 w1 w2 w3 n les oth soc
/-- the array holds the leaders L -/
def grOk (L : Nat → Nat) (La : Nat → Int32) : Prop := L 8 = 8 ∧ (∀ c, L c ≤ 8) ∧ ∀ c, c < 8 → La c = og (L c)
theorem kq_pre_skip {g f : Nat → Int32} {k : Nat} (h : f k = g k) : kq_pre g f k = kq_pre g f (k + 1) := by
  funext j
  show (if j < k then g j else f j) = (if j < k + 1 then g j else f j)
  by_cases h1 : j < k
  · rw [if_pos h1, if_pos (show j < k + 1 by omega)]
  · rw [if_neg h1]
    by_cases h2 : j = k
    · rw [if_pos (show j < k + 1 by omega), h2, h]
    · rw [if_neg (show ¬ j < k + 1 by omega)]
theorem og_max {x y : Nat} (hx : x < 8) (hy : y < 8) : (if og x < og y then og y else og x) = og (max x y) := by
  rw [og_lt hx, og_lt hy, og_lt (show max x y < 8 by omega)]
  by_cases hz : nI x < nI y
  · rw [if_pos hz, Nat.max_eq_right (by have := kq_lt hz; omega)]
  · rw [if_neg hz, Nat.max_eq_left (by have := kq_nlt hz; omega)]
theorem og_min {x y : Nat} (hx : x < 8) (hy : y < 8) : (if og y < og x then og y else og x) = og (min x y) := by
  rw [og_lt hx, og_lt hy, og_lt (show min x y < 8 by omega)]
  by_cases hz : nI y < nI x
  · rw [if_pos hz, Nat.min_eq_right (by have := kq_lt hz; omega)]
  · rw [if_neg hz, Nat.min_eq_left (by have := kq_nlt hz; omega)]
theorem gm_uni_no {L : Nat → Nat} {x y : Nat} (h : x = 8 ∨ y = 8) : gm_uni L x y = L := funext (fun c => if_pos h)
theorem gm_uni_hit {L : Nat → Nat} {x y k : Nat} (hx : x < 8) (hy : y < 8) (h : L k = max x y) : og (min x y) = og (gm_uni L x y k) := by
  unfold gm_uni
  rw [if_neg (by omega), if_pos h]
theorem gm_uni_miss {L : Nat → Nat} {x y k : Nat} (hx : x < 8) (hy : y < 8) (h : ¬ L k = max x y) : og (L k) = og (gm_uni L x y k) := by
  unfold gm_uni
  rw [if_neg (by omega), if_neg h]
theorem gm_L_skip {lo hi : Nat → Nat} {n p i : Nat} (h : ¬ p.testBit i = true) : gm_L lo hi n p (i + 1) = gm_L lo hi n p i := if_neg h
theorem gm_L_step {lo hi : Nat → Nat} {n p i : Nat} (h : p.testBit i = true) : gm_L lo hi n p (i + 1) = gm_uni (gm_L lo hi n p i) (gm_L lo hi n p i (lo i)) (gm_L lo hi n p i (hi i)) := if_pos h
theorem gm_uni_8 {L : Nat → Nat} {x y : Nat} (h8 : L 8 = 8) (hx : x < 8) (hy : y < 8) : gm_uni L x y 8 = 8 := by
  unfold gm_uni
  rw [if_neg (by omega), h8, if_neg (by omega)]
theorem gm_uni_le {L : Nat → Nat} {x y : Nat} (h : ∀ c, L c ≤ 8) (hx : x ≤ 8) (c : Nat) : gm_uni L x y c ≤ 8 := by
  have := h c
  unfold gm_uni
  split
  · omega
  · split <;> omega
theorem gm_L_8 (lo hi : Nat → Nat) (n p k : Nat) : gm_L lo hi n p k 8 = 8 ∧ ∀ c, gm_L lo hi n p k c ≤ 8 := by
  induction k with
  | zero =>
    refine ⟨rfl, fun c => ?_⟩
    show gm_L0 lo hi n p c ≤ 8
    unfold gm_L0
    split
    · split <;> omega
    · omega
  | succ k ih =>
    unfold gm_L
    split
    · refine ⟨?_, fun c => gm_uni_le ih.2 (ih.2 _) c⟩
      unfold gm_uni
      split
      · exact ih.1
      · have h1 := ih.2 (lo k)
        have h2 := ih.2 (hi k)
        rw [ih.1, if_neg (by omega)]
    · exact ih
theorem gm_L_ge {lo hi : Nat → Nat} {n p k c : Nat} (hc : 8 ≤ c) : gm_L lo hi n p k c = 8 := ((gm_LI_ok lo hi n p k).1 c).mpr (fun h => by have := h.1; omega)
def gm_lp (lo hi : Nat → Nat) (p : Nat) (L : Nat → Nat) (v : Nat) : Nat → Bool
  | 0 => true
  | i + 1 => gm_lp lo hi p L v i && (!p.testBit i || (decide (L (lo i) = v) == decide (L (hi i) = v)))
theorem gm_lp_no {lo hi : Nat → Nat} {p : Nat} {L : Nat → Nat} {v i : Nat} : ∀ n : Nat, i < n → p.testBit i = true → (decide (L (lo i) = v) == decide (L (hi i) = v)) = false → gm_lp lo hi p L v n = false := by
  intro n
  induction n with
  | zero => intro h; omega
  | succ n ih =>
    intro h hb he
    unfold gm_lp
    by_cases hn : i = n
    · subst hn
      rw [hb, he]
      simp
    · rw [ih (by omega) hb he]
      rfl
theorem bI_og {a v : Nat} {i : Decidable (og a = nI v)} (ha : a ≤ 8) (hv : v < 8) : (@ite _ (og a = nI v) i (nI 1) (nI 0)) = bI (decide (a = v)) := by
  have h := og_inj ha (show v ≤ 8 by omega)
  rw [og_lt hv] at h
  by_cases hq : a = v
  · rw [if_pos (h.mpr hq), decide_eq_true hq]; rfl
  · rw [if_neg (fun z => hq (h.mp z)), decide_eq_false hq]; rfl
theorem bI_inj {a b : Bool} : bI a = bI b ↔ (a == b) = true := by cases a <;> cases b <;> simp [bI] <;> decide
set_option maxRecDepth 100000 in
set_option maxHeartbeats 4000000 in
theorem ct_leaderOf {l : Launch} {D : va_G} {kI kB kC kL : ClassId} (g0 g1 w0 w1 w2 w3 n : Nat) (La les oth soc : Nat → Int32) (L : Nat → Nat) (gok : grOk L La) (e : Nat) (he : e ≤ 8) : kw_I l mn_G_leaderOf (gw mn_G_leaderOf cd_G_leaderOf 2 (some .int)) ({ frames := 0, cells := 0, slots := 0, locals := 0 } : Room) D cl_v (kt kI kB kC kL) kE [.ref g0, .int (og e)] (wGrp kI g0 g1 w0 w1 w2 w3 n La les oth soc) (fun r w => w = wGrp kI g0 g1 w0 w1 w2 w3 n La les oth soc ∧ r = og (L e)) 0 0 := by
  refine kw_ofI (cc := cd_G_leaderOf) (maxL := 2) (ty := .int) (by decide) rfl (Nat.le_of_ble_eq_true rfl) rfl ?_
  intro pp ee s m args below meth c A X hr hlk hE hnm
  refine kw_iload_n X dc_G_leaderOf_0 rfl rfl ?_
  refine kw_iconst (v := (-1)) X dc_G_leaderOf_1 (by decide) ?_
  refine kw_icmp_ne (tgt := 9) X dc_G_leaderOf_2 (by decide) (fun hc2 => ?_) (fun hc2 => ?_)
  · have h2 : e < 8 := by
      have h8 : e ≠ 8 := fun z => hc2 ((og_m1 he).mpr z)
      omega
    refine kw_aload_n X dc_G_leaderOf_9 rfl rfl ?_
    refine kw_get X (wc_G _) 0 rfl rfl 1 (by decide) (gq wd_92) (fun _ h => h) rfl dc_G_leaderOf_10 ?_
    refine kw_iload_n X dc_G_leaderOf_13 rfl rfl ?_
    refine kw_iald (v := og (L e)) X 1 0 rfl rfl (by rw [og_lt h2]; exact kq_in h2 (by omega)) (by rw [og_lt h2, kq_cl (by omega)]; exact gok.2.2 e h2) dc_G_leaderOf_14 ?_
    exact kw_iret X hr hlk dc_G_leaderOf_15 ⟨rfl, by first | rfl | (rw [h2, gok.1]; rfl)⟩
  · have h2 := (og_m1 he).mp hc2
    refine kw_iconst (v := (-1)) X dc_G_leaderOf_5 (by decide) ?_
    refine kw_goto (tgt := 15) X dc_G_leaderOf_6 (by decide) ?_
    exact kw_iret X hr hlk dc_G_leaderOf_15 ⟨rfl, by first | rfl | (rw [h2, gok.1]; rfl)⟩
set_option maxRecDepth 100000 in
set_option maxHeartbeats 4000000 in
theorem ct_unite {l : Launch} {D : va_G} {kI kB kC kL : ClassId} (g0 g1 w0 w1 w2 w3 n : Nat) (La les oth soc : Nat → Int32) (L : Nat → Nat) (gok : grOk L La) (x y : Nat) (hx : x ≤ 8) (hy : y ≤ 8) : kw_V l mn_G_unite (gw mn_G_unite cd_G_unite 4 none) ({ frames := 1, cells := 0, slots := 0, locals := 21 } : Room) D cl_v (kt kI kB kC kL) kE [.ref g0, .int (og x), .int (og y)] (wGrp kI g0 g1 w0 w1 w2 w3 n La les oth soc) (fun w => ∃ L2 : Nat → Int32, w = wGrp kI g0 g1 w0 w1 w2 w3 n L2 les oth soc ∧ grOk (gm_uni L x y) L2) 0 0 := by
  refine kw_ofV (cc := cd_G_unite) (maxL := 4) (by decide) rfl (Nat.le_of_ble_eq_true rfl) rfl ?_
  intro pp ee s m args below meth c A X hr hlk hE hnm
  refine kw_iload_n X dc_G_unite_0 rfl rfl ?_
  refine kw_iconst (v := (-1)) X dc_G_unite_1 (by decide) ?_
  refine kw_icmp_eq (tgt := 10) X dc_G_unite_2 (by decide) (fun hc2 => ?_) (fun hc2 => ?_)
  · have h2 := (og_m1 hx).mp hc2
    exact kw_vret X hr hlk dc_G_unite_10 ⟨La, rfl, by first | (rw [gm_uni_no (Or.inl h2)]; exact gok) | (rw [gm_uni_no (Or.inr h7)]; exact gok)⟩
  · have h2 : x < 8 := by
      have h8 : x ≠ 8 := fun z => hc2 ((og_m1 hx).mpr z)
      omega
    refine kw_iload_n X dc_G_unite_5 rfl rfl ?_
    refine kw_iconst (v := (-1)) X dc_G_unite_6 (by decide) ?_
    refine kw_icmp_ne (tgt := 11) X dc_G_unite_7 (by decide) (fun hc7 => ?_) (fun hc7 => ?_)
    · have h7 : y < 8 := by
        have h8 : y ≠ 8 := fun z => hc7 ((og_m1 hy).mpr z)
        omega
      refine kw_iconst (v := (nI 0)) X dc_G_unite_11 (by decide) ?_
      refine kw_istore_n X dc_G_unite_12 rfl (by decide) ?_
      refine kw_loop (α := Nat) (fun k => k ≤ 8) (fun k => 8 - k) (fun k => wGrp kI g0 g1 w0 w1 w2 w3 n (kq_pre (fun c => og (gm_uni L x y c)) La k) les oth soc) (fun k => [some (.ref g0), some (.int (og x)), some (.int (og y)), some (.int (nI k))]) (fun _ => []) 0 (Nat.zero_le _) (fun k hk ih => ?_)
      refine kw_iload_n X dc_G_unite_13 rfl rfl ?_
      refine kw_bipush (v := (nI 8)) X dc_G_unite_14 (by decide) ?_
      refine kw_icmp_ge (tgt := 50) X dc_G_unite_16 (by decide) (fun hc16 => ?_) (fun hc16 => ?_)
      · exact kw_vret X hr hlk dc_G_unite_50 ⟨kq_pre (fun c => og (gm_uni L x y c)) La k, rfl, gm_uni_8 gok.1 h2 h7, gm_uni_le gok.2.1 hx, fun c hc => kq_pre_lt (by have := kq_le hc16; omega)⟩
      · have hk8 := kq_nle hc16
        refine kw_aload_n X dc_G_unite_19 rfl rfl ?_
        refine kw_get X (wc_G _) 0 rfl rfl 1 (by decide) (gq wd_92) (fun _ h => h) rfl dc_G_unite_20 ?_
        refine kw_iload_n X dc_G_unite_23 rfl rfl ?_
        refine kw_iald (v := og (L k)) X 1 0 rfl rfl (kq_in hk8 (by omega)) (by rw [kq_cl (by omega), kq_pre_ge (Nat.le_refl k)]; exact gok.2.2 k hk8) dc_G_unite_24 ?_
        refine kw_iload_n X dc_G_unite_25 rfl rfl ?_
        refine kw_iload_n X dc_G_unite_26 rfl rfl ?_
        refine kw_mmax (v := og (max x y)) X (gq wd_213) (gq wd_214) (gq wd_14) (gq wd_215) (Nat.le_of_ble_eq_true rfl) (Nat.le_of_ble_eq_true rfl) (Nat.zero_le _) (Nat.zero_le _) (og_max h2 h7) dc_G_unite_27 ?_
        refine kw_icmp_ne (tgt := 44) X dc_G_unite_30 (by decide) (fun hc30 => ?_) (fun hc30 => ?_)
        · have h30 : ¬ L k = max x y := fun z => hc30 (by rw [z])
          refine kw_iinc (v := nI (k + 1)) X dc_G_unite_44 rfl (kq_inc k) (by decide) ?_
          refine kw_goto (tgt := 13) X dc_G_unite_47 (by decide) ?_
          refine kw_cv (ws' := wGrp kI g0 g1 w0 w1 w2 w3 n (kq_pre (fun c => og (gm_uni L x y c)) La (k + 1)) les oth soc) (by
            first
              | (have e9 := gm_uni_hit (L := L) (k := k) h2 h7 h30
                 show wGrp kI g0 g1 w0 w1 w2 w3 n (upd (kq_pre (fun c => og (gm_uni L x y c)) La k) (nI k).toNatClampNeg (og (min x y))) les oth soc = _
                 rw [kq_cl (by omega), kq_pre_upd (g := fun c => og (gm_uni L x y c)) e9])
              | (have e9 := gm_uni_miss (L := L) (k := k) h2 h7 h30
                 rw [← kq_pre_skip (g := fun c => og (gm_uni L x y c)) ((gok.2.2 k hk8).trans e9)])) rfl rfl ?_
          exact ih (k + 1) (by omega) (by omega)
        · have h30 := (og_inj (gok.2.1 k) (by omega)).mp hc30
          refine kw_aload_n X dc_G_unite_33 rfl rfl ?_
          refine kw_get X (wc_G _) 0 rfl rfl 1 (by decide) (gq wd_92) (fun _ h => h) rfl dc_G_unite_34 ?_
          refine kw_iload_n X dc_G_unite_37 rfl rfl ?_
          refine kw_iload_n X dc_G_unite_38 rfl rfl ?_
          refine kw_iload_n X dc_G_unite_39 rfl rfl ?_
          refine kw_mmin (v := og (min x y)) X (gq wd_216) (gq wd_217) (gq wd_14) (gq wd_218) (Nat.le_of_ble_eq_true rfl) (Nat.le_of_ble_eq_true rfl) (Nat.zero_le _) (Nat.zero_le _) (og_min h2 h7) dc_G_unite_40 ?_
          refine kw_iast X 1 0 rfl rfl (kq_in hk8 (by omega)) dc_G_unite_43 ?_
          refine kw_iinc (v := nI (k + 1)) X dc_G_unite_44 rfl (kq_inc k) (by decide) ?_
          refine kw_goto (tgt := 13) X dc_G_unite_47 (by decide) ?_
          refine kw_cv (ws' := wGrp kI g0 g1 w0 w1 w2 w3 n (kq_pre (fun c => og (gm_uni L x y c)) La (k + 1)) les oth soc) (by
            first
              | (have e9 := gm_uni_hit (L := L) (k := k) h2 h7 h30
                 show wGrp kI g0 g1 w0 w1 w2 w3 n (upd (kq_pre (fun c => og (gm_uni L x y c)) La k) (nI k).toNatClampNeg (og (min x y))) les oth soc = _
                 rw [kq_cl (by omega), kq_pre_upd (g := fun c => og (gm_uni L x y c)) e9])
              | (have e9 := gm_uni_miss (L := L) (k := k) h2 h7 h30
                 rw [← kq_pre_skip (g := fun c => og (gm_uni L x y c)) ((gok.2.2 k hk8).trans e9)])) rfl rfl ?_
          exact ih (k + 1) (by omega) (by omega)
    · have h7 := (og_m1 hy).mp hc7
      exact kw_vret X hr hlk dc_G_unite_10 ⟨La, rfl, by first | (rw [gm_uni_no (Or.inl h2)]; exact gok) | (rw [gm_uni_no (Or.inr h7)]; exact gok)⟩
