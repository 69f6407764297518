/-! the reference -/
/-- its arrays hold the strings lo, hi; the ends as they were given -/
def rfOk (lo hi : Nat → Nat) (n : Nat) (one two own : Nat → Int32) : Prop := gm_ok lo hi n ∧ (∀ i, i < n → ∃ a b : Nat, a < 8 ∧ b ≤ 8 ∧ a ≠ b ∧ one i = nI a ∧ two i = og b ∧ lo i = min a b ∧ hi i = max a b) ∧ ∀ c, c < 8 → own c = nI (gm_mk lo hi n c)
theorem og_neg {b : Nat} (hb : b ≤ 8) : og b < 0 ↔ b = 8 := (show ∀ b, b < 9 → (og b < 0 ↔ b = 8) by decide +kernel) b (by omega)
theorem og_nn {b : Nat} (hb : b ≤ 8) : 0 ≤ og b ↔ b < 8 := (show ∀ b, b < 9 → (0 ≤ og b ↔ b < 8) by decide +kernel) b (by omega)
theorem gm_tk_ab {lo hi : Nat → Nat} {n p i a b : Nat} (hin : i < n) (hp : p.testBit i = true) (ha : a < 8) (hb : b ≤ 8) (hab : a ≠ b) (h1 : lo i = min a b) (h2 : hi i = max a b) : gm_tk lo hi n p i = (if gm_mk lo hi n a &&& bq_wo p i = 0 then 1 else 0) + (if b = 8 then 0 else if gm_mk lo hi n b &&& bq_wo p i = 0 then 1 else 0) := by
  have e : ∀ c, (lo i = c ∨ hi i = c) → (if p &&& gm_mk lo hi n c = 2 ^ i then 1 else 0) = (if gm_mk lo hi n c &&& bq_wo p i = 0 then 1 else 0) := fun c hc => by
    have h := gm_only (lo := lo) (hi := hi) hin hp hc
    by_cases hz : gm_mk lo hi n c &&& bq_wo p i = 0
    · rw [if_pos hz, if_pos (h.mp hz)]
    · rw [if_neg hz, if_neg (fun z => hz (h.mpr z))]
  unfold gm_tk
  rw [e (lo i) (Or.inl rfl), e (hi i) (Or.inr rfl)]
  rcases Nat.lt_or_ge a b with hl | hl
  · rw [h1, h2, Nat.min_eq_left (by omega), Nat.max_eq_right (by omega)]
  · rw [h1, h2, Nat.min_eq_right (by omega), Nat.max_eq_left (by omega), if_neg (show ¬ a = 8 by omega), if_neg (show ¬ b = 8 by omega), Nat.add_comm]
theorem kq_bb (m p i : Nat) : ((m / 2 ^ i) &&& (p / 2 ^ i)) &&& 1 = if (p &&& m).testBit i = true then 1 else 0 := by
  have h0 : ((m / 2 ^ i) &&& (p / 2 ^ i)).testBit 0 = (p &&& m).testBit i := by
    rw [Nat.testBit_and, Nat.testBit_and, Nat.testBit_div_two_pow, Nat.testBit_div_two_pow, Nat.zero_add, Bool.and_comm]
  rw [Nat.and_one_is_mod]
  rw [Nat.testBit_zero] at h0
  by_cases hz : (p &&& m).testBit i = true
  · rw [if_pos hz]
    rw [hz] at h0
    exact of_decide_eq_true h0
  · rw [if_neg hz]
    have hz' : (p &&& m).testBit i = false := by simpa using hz
    rw [hz'] at h0
    have := of_decide_eq_false h0
    omega
theorem gm_sum_0 {f : Nat → Nat} {n : Nat} (h : ∀ j, n ≤ j → f j = 0) : ∀ k, n ≤ k → gm_sum f k = gm_sum f n := by
  intro k
  induction k with
  | zero => intro hk; have : n = 0 := by omega
            rw [this]
  | succ k ih =>
    intro hk
    by_cases hn : n = k + 1
    · rw [hn]
    · show gm_sum f k + f k = _
      rw [ih (by omega), h k (by omega), Nat.add_zero]
theorem gm_pc_n {q n : Nat} (hq : q < 2 ^ n) (hn : n ≤ 12) : gm_pc q = gm_sum (fun j => if q.testBit j = true then 1 else 0) n :=
  gm_sum_0 (fun j hj => by show (if q.testBit j = true then 1 else 0) = 0; rw [bq_of_lt hq hj]; rfl) 12 hn
theorem rfOk_j {lo hi : Nat → Nat} {n a b : Nat} {one two own one' two' own' : Nat → Int32} (h : rfOk lo hi n one two own) (hn : n < 12) (ha : a < 8) (hb : b ≤ 8) (hab : a ≠ b) (h1 : ∀ i, i < n → one' i = one i) (h2 : one' n = nI a) (h3 : ∀ i, i < n → two' i = two i) (h4 : two' n = og b)
    (h5 : ∀ c, c < 8 → own' c = if c = a ∨ c = b then nI (gm_mk lo hi n c ||| 2 ^ n) else own c) : rfOk (fun i => if i = n then min a b else lo i) (fun i => if i = n then max a b else hi i) (n + 1) one' two' own' := by
  obtain ⟨⟨k1, k2⟩, k3, k4⟩ := h
  have eL : ∀ i, i < n → (if i = n then min a b else lo i) = lo i := fun i hi' => if_neg (by omega)
  have eH : ∀ i, i < n → (if i = n then max a b else hi i) = hi i := fun i hi' => if_neg (by omega)
  refine ⟨⟨by omega, fun i hi' => ?_⟩, fun i hi' => ?_, fun c hc => ?_⟩
  · by_cases hin : i = n
    · subst hin
      simp only [if_true]
      omega
    · have := k2 i (by omega)
      simp only [hin, if_false]
      exact this
  · by_cases hin : i = n
    · subst hin
      simp only [if_true]
      exact ⟨a, b, ha, hb, hab, h2, h4, rfl, rfl⟩
    · obtain ⟨a', b', q⟩ := k3 i (by omega)
      simp only [hin, if_false]
      rw [h1 i (by omega), h3 i (by omega)]
      exact ⟨a', b', q⟩
  · rw [h5 c hc]
    rw [show gm_mk (fun i => if i = n then min a b else lo i) (fun i => if i = n then max a b else hi i) (n + 1) c = gm_mk (fun i => if i = n then min a b else lo i) (fun i => if i = n then max a b else hi i) n c ||| (if (if n = n then min a b else lo n) = c ∨ (if n = n then max a b else hi n) = c then 2 ^ n else 0) from rfl, gm_mk_congr (lo := lo) (hi := hi) eL eH c, if_pos (rfl : n = n), if_pos (rfl : n = n)]
    by_cases hq : c = a ∨ c = b
    · rw [if_pos hq, if_pos (show min a b = c ∨ max a b = c by omega)]
    · rw [if_neg hq, if_neg (show ¬ (min a b = c ∨ max a b = c) by omega), k4 c hc, Nat.or_zero]
theorem kq_ones {n : Nat} : (2 ^ n - 1) ||| 2 ^ n = 2 ^ (n + 1) - 1 := by
  apply Nat.eq_of_testBit_eq
  intro j
  rw [Nat.testBit_or, Nat.testBit_two_pow_sub_one, Nat.testBit_two_pow_sub_one, Nat.testBit_two_pow]
  by_cases h1 : j < n
  · simp [h1]; omega
  · by_cases h2 : n = j
    · simp [h2]
    · simp [h1, h2]; omega
set_option maxRecDepth 100000 in
set_option maxHeartbeats 4000000 in
theorem ct_RisCoin {l : Launch} {D : va_G} {kI kB kC kL : ClassId} (a : Int32) : kw_I l mn_R_isCoin (gw mn_R_isCoin cd_R_isCoin 1 (some .boolean)) ({ frames := 0, cells := 0, slots := 0, locals := 0 } : Room) D cl_v (kt kI kB kC kL) kE [.int a] ([]) (fun r w => w = [] ∧ r = if 0 ≤ a ∧ a ≤ nI 7 then nI 1 else nI 0) 0 0 := by
  refine kw_ofI (cc := cd_R_isCoin) (maxL := 1) (ty := .boolean) (by decide) rfl (Nat.le_of_ble_eq_true rfl) rfl ?_
  intro pp ee s m args below meth c A X hr hlk hE hnm
  refine kw_iload_n X dc_R_isCoin_0 rfl rfl ?_
  refine kw_if_lt (tgt := 14) X dc_R_isCoin_1 (by decide) (fun hc1 => ?_) (fun hc1 => ?_)
  · refine kw_iconst (v := (nI 0)) X dc_R_isCoin_14 (by decide) ?_
    exact kw_zret X hr hlk rfl dc_R_isCoin_15 ⟨rfl, by first | exact (if_pos ⟨Int32.not_lt.mp hc1, Int32.not_lt.mp hc7⟩).symm | exact (if_neg (fun z => absurd hc7 (Int32.not_lt.mpr z.2))).symm | exact (if_neg (fun z => absurd hc1 (Int32.not_lt.mpr z.1))).symm⟩
  · refine kw_iload_n X dc_R_isCoin_4 rfl rfl ?_
    refine kw_bipush (v := (nI 7)) X dc_R_isCoin_5 (by decide) ?_
    refine kw_icmp_gt (tgt := 14) X dc_R_isCoin_7 (by decide) (fun hc7 => ?_) (fun hc7 => ?_)
    · refine kw_iconst (v := (nI 0)) X dc_R_isCoin_14 (by decide) ?_
      exact kw_zret X hr hlk rfl dc_R_isCoin_15 ⟨rfl, by first | exact (if_pos ⟨Int32.not_lt.mp hc1, Int32.not_lt.mp hc7⟩).symm | exact (if_neg (fun z => absurd hc7 (Int32.not_lt.mpr z.2))).symm | exact (if_neg (fun z => absurd hc1 (Int32.not_lt.mpr z.1))).symm⟩
    · refine kw_iconst (v := (nI 1)) X dc_R_isCoin_10 (by decide) ?_
      refine kw_goto (tgt := 15) X dc_R_isCoin_11 (by decide) ?_
      exact kw_zret X hr hlk rfl dc_R_isCoin_15 ⟨rfl, by first | exact (if_pos ⟨Int32.not_lt.mp hc1, Int32.not_lt.mp hc7⟩).symm | exact (if_neg (fun z => absurd hc7 (Int32.not_lt.mpr z.2))).symm | exact (if_neg (fun z => absurd hc1 (Int32.not_lt.mpr z.1))).symm⟩
set_option maxRecDepth 100000 in
set_option maxHeartbeats 4000000 in
theorem ct_hang {l : Launch} {D : va_G} {kI kB kC kL : ClassId} (rd : Nat → Nat) (th n : Nat) (one two own : Nat → Int32) (bg : Bool) (lf tu : Nat) (tk : Nat → Int32) (cu : Nat) (co tO t0 t1 : Nat → Int32) (sv : Bool) (mg nm : Nat → Int32) (gc : Nat) (go tx : Nat → Int32) (len : Nat) (lo hi : Nat → Nat) (ok : rfOk lo hi n one two own) (a b : Nat) (hn : n < 12) (ha : a < 8) (hb : b ≤ 8) (hab : a ≠ b) : kw_V l mn_R_hang (gw mn_R_hang cd_R_hang 3 none) ({ frames := 0, cells := 0, slots := 0, locals := 0 } : Room) D cl_v (kt kI kB kC kL) kE [.ref (rd 0), .int (nI a), .int (og b)] (wRF kI rd th n one two own bg lf tu tk cu co tO t0 t1 sv mg nm gc go tx len) (fun w => ∃ one2 two2 own2 : Nat → Int32, w = wRF kI rd th (n + 1) one2 two2 own2 bg (lf ||| 2 ^ n) tu tk cu co tO t0 t1 sv mg nm gc go tx len ∧ rfOk (fun i => if i = n then min a b else lo i) (fun i => if i = n then max a b else hi i) (n + 1) one2 two2 own2) 0 0 := by
  refine kw_ofV (cc := cd_R_hang) (maxL := 3) (by decide) rfl (Nat.le_of_ble_eq_true rfl) rfl ?_
  intro pp ee s m args below meth c A X hr hlk hE hnm
  refine kw_aload_n X dc_R_hang_0 rfl rfl ?_
  refine kw_get X (wc_R _) 0 rfl rfl 2 (by decide) (gq wd_599) (fun _ h => h) rfl dc_R_hang_1 ?_
  refine kw_aload_n X dc_R_hang_4 rfl rfl ?_
  refine kw_get X (wc_R _) 0 rfl rfl 1 (by decide) (gq wd_598) (fun _ h => h) rfl dc_R_hang_5 ?_
  refine kw_iload_n X dc_R_hang_8 rfl rfl ?_
  refine kw_iast X 1 0 rfl rfl (kq_in hn (by omega)) dc_R_hang_9 ?_
  refine kw_aload_n X dc_R_hang_10 rfl rfl ?_
  refine kw_get X (wc_R _) 0 rfl rfl 3 (by decide) (gq wd_600) (fun _ h => h) rfl dc_R_hang_11 ?_
  refine kw_aload_n X dc_R_hang_14 rfl rfl ?_
  refine kw_get X (wc_R _) 0 rfl rfl 1 (by decide) (gq wd_598) (fun _ h => h) rfl dc_R_hang_15 ?_
  refine kw_iload_n X dc_R_hang_18 rfl rfl ?_
  refine kw_iast X 2 0 rfl rfl (kq_in hn (by omega)) dc_R_hang_19 ?_
  refine kw_aload_n X dc_R_hang_20 rfl rfl ?_
  refine kw_get X (wc_R _) 0 rfl rfl 4 (by decide) (gq wd_601) (fun _ h => h) rfl dc_R_hang_21 ?_
  refine kw_iload_n X dc_R_hang_24 rfl rfl ?_
  refine kw_aload_n X dc_R_hang_25 rfl rfl ?_
  refine kw_get X (wc_R _) 0 rfl rfl 4 (by decide) (gq wd_601) (fun _ h => h) rfl dc_R_hang_26 ?_
  refine kw_iload_n X dc_R_hang_29 rfl rfl ?_
  refine kw_iald (v := nI (gm_mk lo hi n a)) X 3 0 rfl rfl (kq_in ha (by omega)) (by rw [kq_cl (by omega)]; exact ok.2.2 a ha) dc_R_hang_30 ?_
  refine kw_iconst (v := (nI 1)) X dc_R_hang_31 (by decide) ?_
  refine kw_aload_n X dc_R_hang_32 rfl rfl ?_
  refine kw_get X (wc_R _) 0 rfl rfl 1 (by decide) (gq wd_598) (fun _ h => h) rfl dc_R_hang_33 ?_
  refine kw_ishl (v := nI (2 ^ n)) X dc_R_hang_36 (bq_shl (by omega)) ?_
  refine kw_ior (v := nI (gm_mk lo hi n a ||| 2 ^ n)) X dc_R_hang_37 (bq_or _ _) ?_
  refine kw_iast X 3 0 rfl rfl (kq_in ha (by omega)) dc_R_hang_38 ?_
  refine kw_iload_n X dc_R_hang_39 rfl rfl ?_
  refine kw_if_lt (tgt := 62) X dc_R_hang_40 (by decide) (fun hc40 => ?_) (fun hc40 => ?_)
  · have h40 := (og_neg hb).mp hc40
    have hown : ∀ c, c < 8 → upd own (nI a).toNatClampNeg (nI (gm_mk lo hi n a ||| 2 ^ n)) c = if c = a ∨ c = b then nI (gm_mk lo hi n c ||| 2 ^ n) else own c := fun c hc => by
      rw [kq_cl (by omega)]
      by_cases hca : c = a
      · subst hca
        rw [pk_us, if_pos (Or.inl rfl)]
      · rw [pk_un hca, if_neg (show ¬ (c = a ∨ c = b) by omega)]
    refine kw_aload_n X dc_R_hang_62 rfl rfl ?_
    refine kw_aload_n X dc_R_hang_63 rfl rfl ?_
    refine kw_get X (wc_R _) 0 rfl rfl 6 (by decide) (gq wd_603) (fun _ h => h) rfl dc_R_hang_64 ?_
    refine kw_iconst (v := (nI 1)) X dc_R_hang_67 (by decide) ?_
    refine kw_aload_n X dc_R_hang_68 rfl rfl ?_
    refine kw_get X (wc_R _) 0 rfl rfl 1 (by decide) (gq wd_598) (fun _ h => h) rfl dc_R_hang_69 ?_
    refine kw_ishl (v := nI (2 ^ n)) X dc_R_hang_72 (bq_shl (by omega)) ?_
    refine kw_ior (v := nI (lf ||| 2 ^ n)) X dc_R_hang_73 (bq_or _ _) ?_
    refine kw_putf (ty := .int) X (wc_R _) fy_R fk_R fn_R 0 rfl rfl 6 (by decide) (gq wd_603) (fun _ h => h) rfl (by decide +kernel) rfl rfl (Nat.le_of_ble_eq_true rfl) dc_R_hang_74 ?_
    refine kw_aload_n X dc_R_hang_77 rfl rfl ?_
    refine kw_dup X dc_R_hang_78 rfl ?_
    refine kw_get X (wc_R _) 0 rfl rfl 1 (by decide) (gq wd_598) (fun _ h => h) rfl dc_R_hang_79 ?_
    refine kw_iconst (v := (nI 1)) X dc_R_hang_82 (by decide) ?_
    refine kw_iadd (v := nI (n + 1)) X dc_R_hang_83 (nI_1 n) ?_
    refine kw_putf (ty := .int) X (wc_R _) fy_R fk_R fn_R 0 rfl rfl 1 (by decide) (gq wd_598) (fun _ h => h) rfl (by decide +kernel) rfl rfl (Nat.le_of_ble_eq_true rfl) dc_R_hang_84 ?_
    exact kw_vret X hr hlk dc_R_hang_87 ⟨_, _, _, rfl, rfOk_j ok hn ha hb hab (fun i hi => by rw [kq_cl (by omega), pk_un (by omega)]) (by rw [kq_cl (by omega), pk_us]) (fun i hi => by rw [kq_cl (by omega), pk_un (by omega)]) (by rw [kq_cl (by omega), pk_us]) hown⟩
  · have h40 : b < 8 := by
      have h8 : b ≠ 8 := fun z => hc40 ((og_neg hb).mpr z)
      omega
    have hown : ∀ c, c < 8 → upd (upd own (nI a).toNatClampNeg (nI (gm_mk lo hi n a ||| 2 ^ n))) (og b).toNatClampNeg (nI (gm_mk lo hi n b ||| 2 ^ n)) c = if c = a ∨ c = b then nI (gm_mk lo hi n c ||| 2 ^ n) else own c := fun c hc => by
      rw [og_lt h40, kq_cl (by omega), kq_cl (by omega)]
      by_cases hcb : c = b
      · subst hcb
        rw [pk_us, if_pos (Or.inr rfl)]
      · rw [pk_un hcb]
        by_cases hca : c = a
        · subst hca
          rw [pk_us, if_pos (Or.inl rfl)]
        · rw [pk_un hca, if_neg (show ¬ (c = a ∨ c = b) by omega)]
    refine kw_aload_n X dc_R_hang_43 rfl rfl ?_
    refine kw_get X (wc_R _) 0 rfl rfl 4 (by decide) (gq wd_601) (fun _ h => h) rfl dc_R_hang_44 ?_
    refine kw_iload_n X dc_R_hang_47 rfl rfl ?_
    refine kw_aload_n X dc_R_hang_48 rfl rfl ?_
    refine kw_get X (wc_R _) 0 rfl rfl 4 (by decide) (gq wd_601) (fun _ h => h) rfl dc_R_hang_49 ?_
    refine kw_iload_n X dc_R_hang_52 rfl rfl ?_
    refine kw_iald (v := nI (gm_mk lo hi n b)) X 3 0 rfl rfl (by rw [og_lt h40]; exact kq_in h40 (by omega)) (by rw [og_lt h40, kq_cl (by omega), kq_cl (by omega), pk_un (fun z => hab z.symm)]; exact ok.2.2 b h40) dc_R_hang_53 ?_
    refine kw_iconst (v := (nI 1)) X dc_R_hang_54 (by decide) ?_
    refine kw_aload_n X dc_R_hang_55 rfl rfl ?_
    refine kw_get X (wc_R _) 0 rfl rfl 1 (by decide) (gq wd_598) (fun _ h => h) rfl dc_R_hang_56 ?_
    refine kw_ishl (v := nI (2 ^ n)) X dc_R_hang_59 (bq_shl (by omega)) ?_
    refine kw_ior (v := nI (gm_mk lo hi n b ||| 2 ^ n)) X dc_R_hang_60 (bq_or _ _) ?_
    refine kw_iast X 3 0 rfl rfl (by rw [og_lt h40]; exact kq_in h40 (by omega)) dc_R_hang_61 ?_
    refine kw_aload_n X dc_R_hang_62 rfl rfl ?_
    refine kw_aload_n X dc_R_hang_63 rfl rfl ?_
    refine kw_get X (wc_R _) 0 rfl rfl 6 (by decide) (gq wd_603) (fun _ h => h) rfl dc_R_hang_64 ?_
    refine kw_iconst (v := (nI 1)) X dc_R_hang_67 (by decide) ?_
    refine kw_aload_n X dc_R_hang_68 rfl rfl ?_
    refine kw_get X (wc_R _) 0 rfl rfl 1 (by decide) (gq wd_598) (fun _ h => h) rfl dc_R_hang_69 ?_
    refine kw_ishl (v := nI (2 ^ n)) X dc_R_hang_72 (bq_shl (by omega)) ?_
    refine kw_ior (v := nI (lf ||| 2 ^ n)) X dc_R_hang_73 (bq_or _ _) ?_
    refine kw_putf (ty := .int) X (wc_R _) fy_R fk_R fn_R 0 rfl rfl 6 (by decide) (gq wd_603) (fun _ h => h) rfl (by decide +kernel) rfl rfl (Nat.le_of_ble_eq_true rfl) dc_R_hang_74 ?_
    refine kw_aload_n X dc_R_hang_77 rfl rfl ?_
    refine kw_dup X dc_R_hang_78 rfl ?_
    refine kw_get X (wc_R _) 0 rfl rfl 1 (by decide) (gq wd_598) (fun _ h => h) rfl dc_R_hang_79 ?_
    refine kw_iconst (v := (nI 1)) X dc_R_hang_82 (by decide) ?_
    refine kw_iadd (v := nI (n + 1)) X dc_R_hang_83 (nI_1 n) ?_
    refine kw_putf (ty := .int) X (wc_R _) fy_R fk_R fn_R 0 rfl rfl 1 (by decide) (gq wd_598) (fun _ h => h) rfl (by decide +kernel) rfl rfl (Nat.le_of_ble_eq_true rfl) dc_R_hang_84 ?_
    exact kw_vret X hr hlk dc_R_hang_87 ⟨_, _, _, rfl, rfOk_j ok hn ha hb hab (fun i hi => by rw [kq_cl (by omega), pk_un (by omega)]) (by rw [kq_cl (by omega), pk_us]) (fun i hi => by rw [kq_cl (by omega), pk_un (by omega)]) (by rw [kq_cl (by omega), pk_us]) hown⟩
set_option maxRecDepth 100000 in
set_option maxHeartbeats 4000000 in
theorem ct_belong {l : Launch} {D : va_G} {kI kB kC kL : ClassId} (rd : Nat → Nat) (th n : Nat) (one two own : Nat → Int32) (bg : Bool) (lf tu : Nat) (tk : Nat → Int32) (cu : Nat) (co tO t0 t1 : Nat → Int32) (sv : Bool) (mg nm : Nat → Int32) (gc : Nat) (go tx : Nat → Int32) (len : Nat) (lo hi : Nat → Nat) (ok : rfOk lo hi n one two own) (c0 p : Nat) (hc : c0 < 8) (hp : p < 2 ^ n) : kw_I l mn_R_belong (gw mn_R_belong cd_R_belong 5 (some .int)) ({ frames := 0, cells := 0, slots := 0, locals := 0 } : Room) D cl_v (kt kI kB kC kL) kE [.ref (rd 0), .int (nI c0), .int (nI p)] (wRF kI rd th n one two own bg lf tu tk cu co tO t0 t1 sv mg nm gc go tx len) (fun r w => w = wRF kI rd th n one two own bg lf tu tk cu co tO t0 t1 sv mg nm gc go tx len ∧ r = nI (gm_pc (p &&& gm_mk lo hi n c0))) 0 0 := by
  refine kw_ofI (cc := cd_R_belong) (maxL := 5) (ty := .int) (by decide) rfl (Nat.le_of_ble_eq_true rfl) rfl ?_
  intro pp ee s m args below meth c A X hr hlk hE hnm
  have hn := ok.1.1
  have hm4 := kq_mk (lo := lo) (hi := hi) hn c0
  have hp4 := kq_2n hn hp
  refine kw_iconst (v := (nI 0)) X dc_R_belong_0 (by decide) ?_
  refine kw_istore_n X dc_R_belong_1 rfl (by decide) ?_
  refine kw_iconst (v := (nI 0)) X dc_R_belong_2 (by decide) ?_
  refine kw_istore X dc_R_belong_3 (by decide) ?_
  refine kw_loop (α := Nat) (fun k => k ≤ n) (fun k => n - k) (fun _ => wRF kI rd th n one two own bg lf tu tk cu co tO t0 t1 sv mg nm gc go tx len) (fun k => [some (.ref (rd 0)), some (.int (nI c0)), some (.int (nI p)), some (.int (nI (gm_sum (fun j => if (p &&& gm_mk lo hi n c0).testBit j = true then 1 else 0) k))), some (.int (nI k))]) (fun _ => []) 0 (Nat.zero_le _) (fun k hk ih => ?_)
  refine kw_iload X dc_R_belong_5 rfl ?_
  refine kw_aload_n X dc_R_belong_7 rfl rfl ?_
  refine kw_get X (wc_R _) 0 rfl rfl 1 (by decide) (gq wd_598) (fun _ h => h) rfl dc_R_belong_8 ?_
  refine kw_icmp_ge (tgt := 39) X dc_R_belong_11 (by decide) (fun hc11 => ?_) (fun hc11 => ?_)
  · refine kw_iload_n X dc_R_belong_39 rfl rfl ?_
    exact kw_iret X hr hlk dc_R_belong_40 ⟨rfl, by have hkn : k = n := Nat.le_antisymm hk (kq_le hc11); subst hkn; rw [gm_pc_n (Nat.lt_of_le_of_lt Nat.and_le_left hp) hn]⟩
  · have hkn := kq_nle hc11
    refine kw_iload_n X dc_R_belong_14 rfl rfl ?_
    refine kw_aload_n X dc_R_belong_15 rfl rfl ?_
    refine kw_get X (wc_R _) 0 rfl rfl 4 (by decide) (gq wd_601) (fun _ h => h) rfl dc_R_belong_16 ?_
    refine kw_iload_n X dc_R_belong_19 rfl rfl ?_
    refine kw_iald (v := nI (gm_mk lo hi n c0)) X 3 0 rfl rfl (kq_in hc (by omega)) (by rw [kq_cl (by omega)]; exact ok.2.2 c0 hc) dc_R_belong_20 ?_
    refine kw_iload X dc_R_belong_21 rfl ?_
    refine kw_ishr (v := nI (gm_mk lo hi n c0 / 2 ^ k)) X dc_R_belong_23 (bq_shr (by omega) (by omega)) ?_
    refine kw_iload_n X dc_R_belong_24 rfl rfl ?_
    refine kw_iload X dc_R_belong_25 rfl ?_
    refine kw_ishr (v := nI (p / 2 ^ k)) X dc_R_belong_27 (bq_shr (by omega) (by omega)) ?_
    refine kw_iand (v := nI ((gm_mk lo hi n c0 / 2 ^ k) &&& (p / 2 ^ k))) X dc_R_belong_28 (nx_and _ _) ?_
    refine kw_iconst (v := (nI 1)) X dc_R_belong_29 (by decide) ?_
    refine kw_iand (v := nI (if (p &&& gm_mk lo hi n c0).testBit k = true then 1 else 0)) X dc_R_belong_30 ((nx_and _ _).trans (congrArg nI (kq_bb _ _ _))) ?_
    refine kw_iadd (v := nI (gm_sum (fun j => if (p &&& gm_mk lo hi n c0).testBit j = true then 1 else 0) (k + 1))) X dc_R_belong_31 (nI_add _ _) ?_
    refine kw_istore_n X dc_R_belong_32 rfl (by decide) ?_
    refine kw_iinc (v := nI (k + 1)) X dc_R_belong_33 rfl (kq_inc k) (by decide) ?_
    refine kw_goto (tgt := 5) X dc_R_belong_36 (by decide) ?_
    exact ih (k + 1) (by omega) (by omega)
set_option maxRecDepth 100000 in
set_option maxHeartbeats 4000000 in
theorem ct_takes {l : Launch} {D : va_G} {kI kB kC kL : ClassId} (rd : Nat → Nat) (th n : Nat) (one two own : Nat → Int32) (bg : Bool) (lf tu : Nat) (tk : Nat → Int32) (cu : Nat) (co tO t0 t1 : Nat → Int32) (sv : Bool) (mg nm : Nat → Int32) (gc : Nat) (go tx : Nat → Int32) (len : Nat) (lo hi : Nat → Nat) (ok : rfOk lo hi n one two own) (p i : Nat) (hp : p < 2 ^ n) (hi1 : i < n) (hb : p.testBit i = true) : kw_I l mn_R_takes (gw mn_R_takes cd_R_takes 4 (some .int)) ({ frames := 0, cells := 0, slots := 0, locals := 0 } : Room) D cl_v (kt kI kB kC kL) kE [.ref (rd 0), .int (nI i), .int (nI (bq_wo p i))] (wRF kI rd th n one two own bg lf tu tk cu co tO t0 t1 sv mg nm gc go tx len) (fun r w => w = wRF kI rd th n one two own bg lf tu tk cu co tO t0 t1 sv mg nm gc go tx len ∧ r = nI (gm_tk lo hi n p i)) 0 0 := by
  refine kw_ofI (cc := cd_R_takes) (maxL := 4) (ty := .int) (by decide) rfl (Nat.le_of_ble_eq_true rfl) rfl ?_
  intro pp ee s m args below meth c A X hr hlk hE hnm
  have hn := ok.1.1
  have hp4 := kq_2n hn hp
  have hlt := bq_wo_lt hb
  obtain ⟨a, b, ha, hb8, hab, e1, e2, e3, e4⟩ := ok.2.1 i hi1
  have et := gm_tk_ab (lo := lo) (hi := hi) hi1 hb ha hb8 hab e3 e4
  have ma := kq_mk (lo := lo) (hi := hi) hn a
  have mb := kq_mk (lo := lo) (hi := hi) hn b
  have la : gm_mk lo hi n a &&& bq_wo p i < 4096 := Nat.lt_of_le_of_lt Nat.and_le_left ma
  have lb : gm_mk lo hi n b &&& bq_wo p i < 4096 := Nat.lt_of_le_of_lt Nat.and_le_left mb
  refine kw_aload_n X dc_R_takes_0 rfl rfl ?_
  refine kw_get X (wc_R _) 0 rfl rfl 4 (by decide) (gq wd_601) (fun _ h => h) rfl dc_R_takes_1 ?_
  refine kw_aload_n X dc_R_takes_4 rfl rfl ?_
  refine kw_get X (wc_R _) 0 rfl rfl 2 (by decide) (gq wd_599) (fun _ h => h) rfl dc_R_takes_5 ?_
  refine kw_iload_n X dc_R_takes_8 rfl rfl ?_
  refine kw_iald (v := nI a) X 1 0 rfl rfl (kq_in (by omega) (by omega)) (by rw [kq_cl (by omega)]; exact e1) dc_R_takes_9 ?_
  refine kw_iald (v := nI (gm_mk lo hi n a)) X 3 0 rfl rfl (kq_in ha (by omega)) (by rw [kq_cl (by omega)]; exact ok.2.2 a ha) dc_R_takes_10 ?_
  refine kw_iload_n X dc_R_takes_11 rfl rfl ?_
  refine kw_iand (v := nI (gm_mk lo hi n a &&& bq_wo p i)) X dc_R_takes_12 (nx_and _ _) ?_
  refine kw_if_ne (tgt := 20) X dc_R_takes_13 (by decide) (fun hc13 => ?_) (fun hc13 => ?_)
  · have h13 := kq_ne (b := 0) hc13
    refine kw_iconst (v := (nI 0)) X dc_R_takes_20 (by decide) ?_
    refine kw_istore_n X dc_R_takes_21 rfl (by decide) ?_
    refine kw_aload_n X dc_R_takes_22 rfl rfl ?_
    refine kw_get X (wc_R _) 0 rfl rfl 3 (by decide) (gq wd_600) (fun _ h => h) rfl dc_R_takes_23 ?_
    refine kw_iload_n X dc_R_takes_26 rfl rfl ?_
    refine kw_iald (v := og b) X 2 0 rfl rfl (kq_in (by omega) (by omega)) (by rw [kq_cl (by omega)]; exact e2) dc_R_takes_27 ?_
    refine kw_if_lt (tgt := 53) X dc_R_takes_28 (by decide) (fun hc28 => ?_) (fun hc28 => ?_)
    · have h28 := (og_neg hb8).mp hc28
      refine kw_iload_n X dc_R_takes_53 rfl rfl ?_
      exact kw_iret X hr hlk dc_R_takes_54 ⟨rfl, by rw [et]; first | (rw [if_pos h13, if_neg h29, if_pos h44]; exact kq_inc 1) | (rw [if_neg h13, if_neg h29, if_pos h44]; exact kq_inc 0) | (rw [if_pos h13, if_neg h29, if_neg h44]; try rfl) | (rw [if_neg h13, if_neg h29, if_neg h44]; try rfl) | (rw [if_pos h13, if_pos h28]; try rfl) | (rw [if_neg h13, if_pos h28]; try rfl)⟩
    · have h28 : b < 8 := by
        have h8 : b ≠ 8 := fun z => hc28 ((og_neg hb8).mpr z)
        omega
      have h29 : ¬ b = 8 := by omega
      refine kw_aload_n X dc_R_takes_31 rfl rfl ?_
      refine kw_get X (wc_R _) 0 rfl rfl 4 (by decide) (gq wd_601) (fun _ h => h) rfl dc_R_takes_32 ?_
      refine kw_aload_n X dc_R_takes_35 rfl rfl ?_
      refine kw_get X (wc_R _) 0 rfl rfl 3 (by decide) (gq wd_600) (fun _ h => h) rfl dc_R_takes_36 ?_
      refine kw_iload_n X dc_R_takes_39 rfl rfl ?_
      refine kw_iald (v := nI b) X 2 0 rfl rfl (kq_in (by omega) (by omega)) (by rw [kq_cl (by omega), e2]; exact og_lt h28) dc_R_takes_40 ?_
      refine kw_iald (v := nI (gm_mk lo hi n b)) X 3 0 rfl rfl (kq_in h28 (by omega)) (by rw [kq_cl (by omega)]; exact ok.2.2 b h28) dc_R_takes_41 ?_
      refine kw_iload_n X dc_R_takes_42 rfl rfl ?_
      refine kw_iand (v := nI (gm_mk lo hi n b &&& bq_wo p i)) X dc_R_takes_43 (nx_and _ _) ?_
      refine kw_if_ne (tgt := 53) X dc_R_takes_44 (by decide) (fun hc44 => ?_) (fun hc44 => ?_)
      · have h44 := kq_ne (b := 0) hc44
        refine kw_iload_n X dc_R_takes_53 rfl rfl ?_
        exact kw_iret X hr hlk dc_R_takes_54 ⟨rfl, by rw [et]; first | (rw [if_pos h13, if_neg h29, if_pos h44]; exact kq_inc 1) | (rw [if_neg h13, if_neg h29, if_pos h44]; exact kq_inc 0) | (rw [if_pos h13, if_neg h29, if_neg h44]; try rfl) | (rw [if_neg h13, if_neg h29, if_neg h44]; try rfl) | (rw [if_pos h13, if_pos h28]; try rfl) | (rw [if_neg h13, if_pos h28]; try rfl)⟩
      · have h44 := kq_eq (b := 0) hc44
        refine kw_iload_n X dc_R_takes_47 rfl rfl ?_
        refine kw_iconst (v := (nI 1)) X dc_R_takes_48 (by decide) ?_
        refine kw_iadd X dc_R_takes_49 rfl ?_
        refine kw_goto (tgt := 54) X dc_R_takes_50 (by decide) ?_
        exact kw_iret X hr hlk dc_R_takes_54 ⟨rfl, by rw [et]; first | (rw [if_pos h13, if_neg h29, if_pos h44]; exact kq_inc 1) | (rw [if_neg h13, if_neg h29, if_pos h44]; exact kq_inc 0) | (rw [if_pos h13, if_neg h29, if_neg h44]; try rfl) | (rw [if_neg h13, if_neg h29, if_neg h44]; try rfl) | (rw [if_pos h13, if_pos h28]; try rfl) | (rw [if_neg h13, if_pos h28]; try rfl)⟩
  · have h13 := kq_eq (b := 0) hc13
    refine kw_iconst (v := (nI 1)) X dc_R_takes_16 (by decide) ?_
    refine kw_goto (tgt := 21) X dc_R_takes_17 (by decide) ?_
    refine kw_istore_n X dc_R_takes_21 rfl (by decide) ?_
    refine kw_aload_n X dc_R_takes_22 rfl rfl ?_
    refine kw_get X (wc_R _) 0 rfl rfl 3 (by decide) (gq wd_600) (fun _ h => h) rfl dc_R_takes_23 ?_
    refine kw_iload_n X dc_R_takes_26 rfl rfl ?_
    refine kw_iald (v := og b) X 2 0 rfl rfl (kq_in (by omega) (by omega)) (by rw [kq_cl (by omega)]; exact e2) dc_R_takes_27 ?_
    refine kw_if_lt (tgt := 53) X dc_R_takes_28 (by decide) (fun hc28 => ?_) (fun hc28 => ?_)
    · have h28 := (og_neg hb8).mp hc28
      refine kw_iload_n X dc_R_takes_53 rfl rfl ?_
      exact kw_iret X hr hlk dc_R_takes_54 ⟨rfl, by rw [et]; first | (rw [if_pos h13, if_neg h29, if_pos h44]; exact kq_inc 1) | (rw [if_neg h13, if_neg h29, if_pos h44]; exact kq_inc 0) | (rw [if_pos h13, if_neg h29, if_neg h44]; try rfl) | (rw [if_neg h13, if_neg h29, if_neg h44]; try rfl) | (rw [if_pos h13, if_pos h28]; try rfl) | (rw [if_neg h13, if_pos h28]; try rfl)⟩
    · have h28 : b < 8 := by
        have h8 : b ≠ 8 := fun z => hc28 ((og_neg hb8).mpr z)
        omega
      have h29 : ¬ b = 8 := by omega
      refine kw_aload_n X dc_R_takes_31 rfl rfl ?_
      refine kw_get X (wc_R _) 0 rfl rfl 4 (by decide) (gq wd_601) (fun _ h => h) rfl dc_R_takes_32 ?_
      refine kw_aload_n X dc_R_takes_35 rfl rfl ?_
      refine kw_get X (wc_R _) 0 rfl rfl 3 (by decide) (gq wd_600) (fun _ h => h) rfl dc_R_takes_36 ?_
      refine kw_iload_n X dc_R_takes_39 rfl rfl ?_
      refine kw_iald (v := nI b) X 2 0 rfl rfl (kq_in (by omega) (by omega)) (by rw [kq_cl (by omega), e2]; exact og_lt h28) dc_R_takes_40 ?_
      refine kw_iald (v := nI (gm_mk lo hi n b)) X 3 0 rfl rfl (kq_in h28 (by omega)) (by rw [kq_cl (by omega)]; exact ok.2.2 b h28) dc_R_takes_41 ?_
      refine kw_iload_n X dc_R_takes_42 rfl rfl ?_
      refine kw_iand (v := nI (gm_mk lo hi n b &&& bq_wo p i)) X dc_R_takes_43 (nx_and _ _) ?_
      refine kw_if_ne (tgt := 53) X dc_R_takes_44 (by decide) (fun hc44 => ?_) (fun hc44 => ?_)
      · have h44 := kq_ne (b := 0) hc44
        refine kw_iload_n X dc_R_takes_53 rfl rfl ?_
        exact kw_iret X hr hlk dc_R_takes_54 ⟨rfl, by rw [et]; first | (rw [if_pos h13, if_neg h29, if_pos h44]; exact kq_inc 1) | (rw [if_neg h13, if_neg h29, if_pos h44]; exact kq_inc 0) | (rw [if_pos h13, if_neg h29, if_neg h44]; try rfl) | (rw [if_neg h13, if_neg h29, if_neg h44]; try rfl) | (rw [if_pos h13, if_pos h28]; try rfl) | (rw [if_neg h13, if_pos h28]; try rfl)⟩
      · have h44 := kq_eq (b := 0) hc44
        refine kw_iload_n X dc_R_takes_47 rfl rfl ?_
        refine kw_iconst (v := (nI 1)) X dc_R_takes_48 (by decide) ?_
        refine kw_iadd X dc_R_takes_49 rfl ?_
        refine kw_goto (tgt := 54) X dc_R_takes_50 (by decide) ?_
        exact kw_iret X hr hlk dc_R_takes_54 ⟨rfl, by rw [et]; first | (rw [if_pos h13, if_neg h29, if_pos h44]; exact kq_inc 1) | (rw [if_neg h13, if_neg h29, if_pos h44]; exact kq_inc 0) | (rw [if_pos h13, if_neg h29, if_neg h44]; try rfl) | (rw [if_neg h13, if_neg h29, if_neg h44]; try rfl) | (rw [if_pos h13, if_pos h28]; try rfl) | (rw [if_neg h13, if_pos h28]; try rfl)⟩
