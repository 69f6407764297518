/-! margins, over the class's table -/
theorem gm_mx_lo (lo hi : Nat → Nat) (n : Nat) (f : Nat → Int) (p k : Nat) : -8 ≤ gm_mx lo hi n f p k := by
  induction k with
  | zero => exact Int.le_refl _
  | succ k ih =>
    unfold gm_mx
    split
    · split <;> omega
    · exact ih
theorem gm_mx_8 {lo hi : Nat → Nat} {n : Nat} (ok : gm_ok lo hi n) {p : Nat} (hp : p < 2 ^ n) {k : Nat} (hk : k ≤ n) : gm_mx lo hi n (gm_mg lo hi n) p k ≤ 8 :=
  gm_mx_le (by omega) k (fun i hz hb => (gm_gv_8 ok hp (by omega) hb).2)
/-- the strings below k that q says yes to -/
def gm_ms (q : Nat → Bool) : Nat → Nat
  | 0 => 0
  | i + 1 => if q i = true then gm_ms q i ||| 2 ^ i else gm_ms q i
theorem gm_ms_tb (q : Nat → Bool) (n j : Nat) : (gm_ms q n).testBit j = (decide (j < n) && q j) := by
  induction n with
  | zero => simp [gm_ms]
  | succ n ih =>
    unfold gm_ms
    by_cases hj : j = n
    · subst hj
      by_cases hq : q j = true
      · rw [if_pos hq, Nat.testBit_or, Nat.testBit_two_pow, hq]
        simp
      · rw [if_neg hq, ih]
        simp at hq
        simp [hq]
    · have hne : ¬ n = j := fun e => hj e.symm
      have hd : decide (j < n + 1) = decide (j < n) := by
        by_cases h1 : j < n
        · simp [h1]; omega
        · simp [h1]; omega
      by_cases hq : q n = true
      · rw [if_pos hq, Nat.testBit_or, Nat.testBit_two_pow, ih, hd]
        simp [hne]
      · rw [if_neg hq, ih, hd]
theorem gm_ms_lt (q : Nat → Bool) (n : Nat) : gm_ms q n < 2 ^ n := bq_lt_of (fun j hj => by rw [gm_ms_tb]; simp; omega)
theorem gm_ms_no {q : Nat → Bool} {k : Nat} (h : q k = false) : gm_ms q (k + 1) = gm_ms q k := if_neg (by rw [h]; decide)
theorem kq_f1 {a b : Bool} (h : ¬ a = true) : (a && b) = false := by
  cases a
  · rfl
  · exact absurd rfl h
theorem kq_f2 {a : Bool} {Q : Prop} {i : Decidable Q} (h : ¬ Q) : (a && @decide Q i) = false := by
  rw [decide_eq_false h, Bool.and_false]
def gm_good (lo hi : Nat → Nat) (n p : Nat) : Nat := gm_ms (fun i => p.testBit i && decide (gm_gv lo hi n (gm_mg lo hi n) p i = gm_mg lo hi n p)) n
theorem kq_2n {n p : Nat} (hn : n ≤ 12) (hp : p < 2 ^ n) : p < 4096 := Nat.lt_of_lt_of_le hp (show 2 ^ n ≤ 2 ^ 12 from Nat.pow_le_pow_right (by decide) hn)
set_option maxRecDepth 100000 in
set_option maxHeartbeats 4000000 in
theorem ct_given {l : Launch} {D : va_G} {kI kB kC kL : ClassId} (v0 v1 w0 w1 w2 w3 n : Nat) (rd : Int32) (f les oth soc : Nat → Int32) (lo hi : Nat → Nat) (ok : webOk lo hi n les oth soc) (p i : Nat) (hp : p < 2 ^ n) (hi1 : i < n) (hb : p.testBit i = true) (hf : f (bq_wo p i) = iZ (gm_mg lo hi n (bq_wo p i))) : kw_I l mn_M_given (gw mn_M_given cd_M_given 5 (some .int)) ({ frames := 2, cells := 0, slots := 0, locals := 46 } : Room) D cl_v (kt kI kB kC kL) kE [.ref v0, .int (nI p), .int (nI i)] (wVal 2 kI kB v0 v1 w0 w1 w2 w3 n rd f les oth soc) (fun r w => w = wVal 2 kI kB v0 v1 w0 w1 w2 w3 n rd f les oth soc ∧ r = iZ (gm_gv lo hi n (gm_mg lo hi n) p i)) 0 0 := by
  refine kw_ofI (cc := cd_M_given) (maxL := 5) (ty := .int) (by decide) rfl (Nat.le_of_ble_eq_true rfl) rfl ?_
  intro pp ee s m args below meth c A X hr hlk hE hnm
  have hn := ok.1.1
  have hp4 := kq_2n hn hp
  have hlt := bq_wo_lt hb
  have ht2 := gm_tk_2 lo hi n p i
  refine kw_aload_n X dc_M_given_0 rfl rfl ?_
  refine kw_get X (wc_M _) 0 rfl rfl 0 (by decide) (gq wd_57) (fun x9 h9 => u_same (X.1.2.2.2.2 _ (gq wd_58)) x9 h9) rfl dc_M_given_1 ?_
  refine kw_iload_n X dc_M_given_4 rfl rfl ?_
  refine kw_iload_n X dc_M_given_5 rfl rfl ?_
  refine kw_callVI X kEw hE 0 rfl rfl (ct_freed w0 w1 w2 w3 n les oth soc p i lo hi ok hi1) (cw_V 2 X wd_480 wd_433 wd_434 wd_2 wd_435 rfl rfl (by decide +kernel) ⟨Nat.le_of_ble_eq_true rfl, Nat.le_of_ble_eq_true rfl⟩) [2, 3, 4, 5] rfl (by decide) (fun _ _ h => by obtain ⟨rfl, _⟩ := h; exact Nat.le_refl _) rfl rfl (Nat.le_of_ble_eq_true rfl) dc_M_given_6 ⟨Nat.zero_le _, Nat.zero_le _⟩ (fun r w hp => ?_)
  obtain ⟨rfl, rfl⟩ := hp
  refine kw_istore_n X dc_M_given_9 rfl (by decide) ?_
  refine kw_aload_n X dc_M_given_10 rfl rfl ?_
  refine kw_get X (wc_M _) 0 rfl rfl 1 (by decide) (gq wd_64) (fun x9 h9 => u_same (X.1.2.2.2.2 _ (gq wd_65)) x9 h9) rfl dc_M_given_11 ?_
  refine kw_iload_n X dc_M_given_14 rfl rfl ?_
  refine kw_iload_n X dc_M_given_15 rfl rfl ?_
  refine kw_callSNI X kEw hE (ct_without p i (by omega)) (cw_SN (host := "CoinStrings") 2 X (hE _ (by decide +kernel)) wd_441 wd_1 wd_442 rfl rfl (by decide +kernel) ⟨Nat.le_of_ble_eq_true rfl, Nat.le_of_ble_eq_true rfl⟩) [] rfl (by decide) (fun _ _ _ => Nat.zero_le _) rfl rfl (Nat.le_of_ble_eq_true rfl) dc_M_given_16 ⟨Nat.zero_le _, Nat.zero_le _⟩ (fun r w hp => ?_)
  obtain ⟨rfl, rfl⟩ := hp
  refine kw_bald (v := iZ (gm_mg lo hi n (bq_wo p i))) X 1 1 rfl rfl (kq_in (by omega) (by omega)) (by rw [kq_cl (by omega)]; exact hf) dc_M_given_19 ?_
  refine kw_istore X dc_M_given_20 (by decide) ?_
  refine kw_iload_n X dc_M_given_22 rfl rfl ?_
  refine kw_if_le (tgt := 33) X dc_M_given_23 (by decide) (fun hc23 => ?_) (fun hc23 => ?_)
  · refine kw_iload X dc_M_given_33 rfl ?_
    refine kw_ineg (v := iZ (-gm_mg lo hi n (bq_wo p i))) X dc_M_given_35 (iZ_neg _) ?_
    exact kw_iret X hr hlk dc_M_given_36 ⟨rfl, by unfold gm_gv; first | rw [if_pos (by have := kq_nle (b := 0) hc23; omega)] | rw [if_neg (by have := kq_le (b := 0) hc23; omega)]⟩
  · refine kw_iload_n X dc_M_given_26 rfl rfl ?_
    refine kw_iload X dc_M_given_27 rfl ?_
    refine kw_iadd (v := iZ ((gm_tk lo hi n p i : Int) + gm_mg lo hi n (bq_wo p i))) X dc_M_given_29 (by rw [← iZ_nat, iZ_add]) ?_
    refine kw_goto (tgt := 36) X dc_M_given_30 (by decide) ?_
    exact kw_iret X hr hlk dc_M_given_36 ⟨rfl, by unfold gm_gv; first | rw [if_pos (by have := kq_nle (b := 0) hc23; omega)] | rw [if_neg (by have := kq_le (b := 0) hc23; omega)]⟩
set_option maxRecDepth 100000 in
set_option maxHeartbeats 4000000 in
theorem ct_workM {l : Launch} {D : va_G} {kI kB kC kL : ClassId} (v0 v1 w0 w1 w2 w3 n : Nat) (rd : Int32) (f les oth soc : Nat → Int32) (lo hi : Nat → Nat) (ok : webOk lo hi n les oth soc) (p : Nat) (hp : p < 2 ^ n) (hf : ∀ q, q < p → f q = iZ (gm_mg lo hi n q)) : kw_I l mn_M_workOut (gw mn_M_workOut cd_M_workOut 4 (some .int)) ({ frames := 3, cells := 0, slots := 0, locals := 70 } : Room) D cl_v (kt kI kB kC kL) kE [.ref v0, .int (nI p)] (wVal 2 kI kB v0 v1 w0 w1 w2 w3 n rd f les oth soc) (fun r w => w = wVal 2 kI kB v0 v1 w0 w1 w2 w3 n rd f les oth soc ∧ r = iZ (gm_mg lo hi n p)) 0 0 := by
  refine kw_ofI (cc := cd_M_workOut) (maxL := 4) (ty := .int) (by decide) rfl (Nat.le_of_ble_eq_true rfl) rfl ?_
  intro pp ee s m args below meth c A X hr hlk hE hnm
  have hn := ok.1.1
  have hp4 := kq_2n hn hp
  refine kw_iload_n X dc_M_workOut_0 rfl rfl ?_
  refine kw_if_ne (tgt := 6) X dc_M_workOut_1 (by decide) (fun hc1 => ?_) (fun hc1 => ?_)
  · refine kw_bipush (v := (-8)) X dc_M_workOut_6 (by decide) ?_
    refine kw_istore_n X dc_M_workOut_8 rfl (by decide) ?_
    refine kw_iconst (v := (nI 0)) X dc_M_workOut_9 (by decide) ?_
    refine kw_istore_n X dc_M_workOut_10 rfl (by decide) ?_
    have hp0 : p ≠ 0 := kq_ne (b := 0) hc1
    refine kw_loop (α := Nat) (fun k => k ≤ n) (fun k => n - k) (fun _ => wVal 2 kI kB v0 v1 w0 w1 w2 w3 n rd f les oth soc) (fun k => [some (.ref v0), some (.int (nI p)), some (.int (iZ (gm_mx lo hi n (gm_mg lo hi n) p k))), some (.int (nI k))]) (fun _ => []) 0 (Nat.zero_le _) (fun k hk ih => ?_)
    refine kw_iload_n X dc_M_workOut_11 rfl rfl ?_
    refine kw_aload_n X dc_M_workOut_12 rfl rfl ?_
    refine kw_get X (wc_M _) 0 rfl rfl 0 (by decide) (gq wd_57) (fun x9 h9 => u_same (X.1.2.2.2.2 _ (gq wd_58)) x9 h9) rfl dc_M_workOut_13 ?_
    refine kw_callVI X kEw hE 0 rfl rfl (ct_size w0 w1 w2 w3 n les oth soc) (cw_V 0 X wd_474 wd_191 wd_192 wd_2 wd_193 rfl rfl (by decide +kernel) ⟨Nat.le_of_ble_eq_true rfl, Nat.le_of_ble_eq_true rfl⟩) [2, 3, 4, 5] rfl (by decide) (fun _ _ h => by obtain ⟨rfl, _⟩ := h; exact Nat.le_refl _) rfl rfl (Nat.le_of_ble_eq_true rfl) dc_M_workOut_16 ⟨Nat.zero_le _, Nat.zero_le _⟩ (fun r w hp => ?_)
    obtain ⟨rfl, rfl⟩ := hp
    refine kw_icmp_ge (tgt := 47) X dc_M_workOut_19 (by decide) (fun hc19 => ?_) (fun hc19 => ?_)
    · refine kw_iload_n X dc_M_workOut_47 rfl rfl ?_
      exact kw_iret X hr hlk dc_M_workOut_48 ⟨rfl, by have hkn : k = n := Nat.le_antisymm hk (kq_le hc19); subst hkn; rw [gm_mg_eq]; unfold gm_F; rw [if_neg hp0]⟩
    · have hkn := kq_nle hc19
      refine kw_iload_n X dc_M_workOut_22 rfl rfl ?_
      refine kw_iload_n X dc_M_workOut_23 rfl rfl ?_
      refine kw_callSNI X kEw hE (ct_hasN p k (by omega) (by omega)) (cw_SN (host := "CoinStrings") 2 X (hE _ (by decide +kernel)) wd_195 wd_1 wd_196 rfl rfl (by decide +kernel) ⟨Nat.le_of_ble_eq_true rfl, Nat.le_of_ble_eq_true rfl⟩) [] rfl (by decide) (fun _ _ _ => Nat.zero_le _) rfl rfl (Nat.le_of_ble_eq_true rfl) dc_M_workOut_24 ⟨Nat.zero_le _, Nat.zero_le _⟩ (fun r w hp => ?_)
      obtain ⟨rfl, rfl⟩ := hp
      refine kw_if_eq (tgt := 41) X dc_M_workOut_27 (by decide) (fun hc27 => ?_) (fun hc27 => ?_)
      · have h27 := kq_z0 hc27
        refine kw_iinc (v := nI (k + 1)) X dc_M_workOut_41 rfl (kq_inc k) (by decide) ?_
        refine kw_goto (tgt := 11) X dc_M_workOut_44 (by decide) ?_
        refine kw_cv (lv' := [some (.ref v0), some (.int (nI p)), some (.int (iZ (gm_mx lo hi n (gm_mg lo hi n) p (k + 1)))), some (.int (nI (k + 1)))]) rfl (by first | rfl | (rw [show gm_mx lo hi n (gm_mg lo hi n) p (k + 1) = gm_mx lo hi n (gm_mg lo hi n) p k from if_neg h27]; rfl)) rfl ?_
        exact ih (k + 1) (by omega) (by omega)
      · have h27 := kq_z1 hc27
        refine kw_iload_n X dc_M_workOut_30 rfl rfl ?_
        refine kw_aload_n X dc_M_workOut_31 rfl rfl ?_
        refine kw_iload_n X dc_M_workOut_32 rfl rfl ?_
        refine kw_iload_n X dc_M_workOut_33 rfl rfl ?_
        refine kw_callVI X kEw hE 0 rfl rfl (ct_given v0 v1 w0 w1 w2 w3 n rd f les oth soc lo hi ok p k hp hkn h27 (hf _ (bq_wo_lt h27))) (cw_V 2 X wd_476 wd_478 wp_9 wd_4 wd_479 rfl rfl (by decide +kernel) ⟨Nat.le_of_ble_eq_true rfl, Nat.le_of_ble_eq_true rfl⟩) [0, 1, 2, 3, 4, 5] rfl (by decide) (fun _ _ h => by obtain ⟨rfl, _⟩ := h; exact Nat.le_refl _) rfl rfl (Nat.le_of_ble_eq_true rfl) dc_M_workOut_34 ⟨Nat.zero_le _, Nat.zero_le _⟩ (fun r w hp => ?_)
        obtain ⟨rfl, rfl⟩ := hp
        refine kw_mmax (v := iZ (gm_mx lo hi n (gm_mg lo hi n) p (k + 1))) X (gq wd_482) (gq wd_214) (gq wd_14) (gq wd_215) (Nat.le_of_ble_eq_true rfl) (Nat.le_of_ble_eq_true rfl) (Nat.zero_le _) (Nat.zero_le _) (by have b1 := gm_mx_lo lo hi n (gm_mg lo hi n) p k; have b2 := gm_mx_8 ok.1 hp hk; have b3 := gm_gv_8 ok.1 hp hkn h27; rw [show gm_mx lo hi n (gm_mg lo hi n) p (k + 1) = (if gm_mx lo hi n (gm_mg lo hi n) p k < gm_gv lo hi n (gm_mg lo hi n) p k then gm_gv lo hi n (gm_mg lo hi n) p k else gm_mx lo hi n (gm_mg lo hi n) p k) from if_pos h27]; by_cases hz : gm_mx lo hi n (gm_mg lo hi n) p k < gm_gv lo hi n (gm_mg lo hi n) p k; (rw [if_pos hz, if_pos ((iZ_lt (by omega) (by omega) (by omega) (by omega)).mpr hz)]); (rw [if_neg hz, if_neg (fun z => hz ((iZ_lt (by omega) (by omega) (by omega) (by omega)).mp z))])) dc_M_workOut_37 ?_
        refine kw_istore_n X dc_M_workOut_40 rfl (by decide) ?_
        refine kw_iinc (v := nI (k + 1)) X dc_M_workOut_41 rfl (kq_inc k) (by decide) ?_
        refine kw_goto (tgt := 11) X dc_M_workOut_44 (by decide) ?_
        refine kw_cv (lv' := [some (.ref v0), some (.int (nI p)), some (.int (iZ (gm_mx lo hi n (gm_mg lo hi n) p (k + 1)))), some (.int (nI (k + 1)))]) rfl (by first | rfl | (rw [show gm_mx lo hi n (gm_mg lo hi n) p (k + 1) = gm_mx lo hi n (gm_mg lo hi n) p k from if_neg h27]; rfl)) rfl ?_
        exact ih (k + 1) (by omega) (by omega)
  · refine kw_iconst (v := (nI 0)) X dc_M_workOut_4 (by decide) ?_
    exact kw_iret X hr hlk dc_M_workOut_5 ⟨rfl, by have hp0 : p = 0 := kq_eq (b := 0) hc1; subst hp0; rw [gm_mg_eq]; rfl⟩
set_option maxRecDepth 100000 in
set_option maxHeartbeats 4000000 in
theorem ct_markM {l : Launch} {D : va_G} {kI kB kC kL : ClassId} (v0 v1 w0 w1 w2 w3 n : Nat) (rd : Int32) (f les oth soc : Nat → Int32) (lo hi : Nat → Nat) (ok : webOk lo hi n les oth soc) (p i : Nat) (hp : p < 2 ^ n) (hi1 : i < n) (hb : p.testBit i = true) (hf : ∀ q, q < 2 ^ n → f q = iZ (gm_mg lo hi n q)) : kw_I l mn_M_isMarked (gw mn_M_isMarked cd_M_isMarked 3 (some .boolean)) ({ frames := 3, cells := 0, slots := 0, locals := 70 } : Room) D cl_v (kt kI kB kC kL) kE [.ref v0, .int (nI p), .int (nI i)] (wVal 2 kI kB v0 v1 w0 w1 w2 w3 n rd f les oth soc) (fun r w => w = wVal 2 kI kB v0 v1 w0 w1 w2 w3 n rd f les oth soc ∧ r = if gm_gv lo hi n (gm_mg lo hi n) p i = gm_mg lo hi n p then nI 1 else nI 0) 0 0 := by
  refine kw_ofI (cc := cd_M_isMarked) (maxL := 3) (ty := .boolean) (by decide) rfl (Nat.le_of_ble_eq_true rfl) rfl ?_
  intro pp ee s m args below meth c A X hr hlk hE hnm
  have hn := ok.1.1
  have hp4 := kq_2n hn hp
  have hlt := bq_wo_lt hb
  have b1 := gm_gv_8 ok.1 hp hi1 hb
  have b2 := gm_mg_8 ok.1 hp
  refine kw_aload_n X dc_M_isMarked_0 rfl rfl ?_
  refine kw_iload_n X dc_M_isMarked_1 rfl rfl ?_
  refine kw_iload_n X dc_M_isMarked_2 rfl rfl ?_
  refine kw_callVI X kEw hE 0 rfl rfl (ct_given v0 v1 w0 w1 w2 w3 n rd f les oth soc lo hi ok p i hp hi1 hb (hf _ (by omega))) (cw_V 2 X wd_476 wd_478 wp_9 wd_4 wd_479 rfl rfl (by decide +kernel) ⟨Nat.le_of_ble_eq_true rfl, Nat.le_of_ble_eq_true rfl⟩) [0, 1, 2, 3, 4, 5] rfl (by decide) (fun _ _ h => by obtain ⟨rfl, _⟩ := h; exact Nat.le_refl _) rfl rfl (Nat.le_of_ble_eq_true rfl) dc_M_isMarked_3 ⟨Nat.zero_le _, Nat.zero_le _⟩ (fun r w hp => ?_)
  obtain ⟨rfl, rfl⟩ := hp
  refine kw_aload_n X dc_M_isMarked_6 rfl rfl ?_
  refine kw_get X (wc_M _) 0 rfl rfl 1 (by decide) (gq wd_64) (fun x9 h9 => u_same (X.1.2.2.2.2 _ (gq wd_65)) x9 h9) rfl dc_M_isMarked_7 ?_
  refine kw_iload_n X dc_M_isMarked_10 rfl rfl ?_
  refine kw_bald (v := iZ (gm_mg lo hi n p)) X 1 1 rfl rfl (kq_in (by omega) (by omega)) (by rw [kq_cl (by omega)]; exact hf p hp) dc_M_isMarked_11 ?_
  refine kw_icmp_ne (tgt := 19) X dc_M_isMarked_12 (by decide) (fun hc12 => ?_) (fun hc12 => ?_)
  · refine kw_iconst (v := (nI 0)) X dc_M_isMarked_19 (by decide) ?_
    exact kw_zret X hr hlk rfl dc_M_isMarked_20 ⟨rfl, by first | exact (if_pos ((iZ_inj (by omega) (by omega) (by omega) (by omega)).mp hc12)).symm | exact (if_neg (fun z => hc12 ((iZ_inj (by omega) (by omega) (by omega) (by omega)).mpr z))).symm⟩
  · refine kw_iconst (v := (nI 1)) X dc_M_isMarked_15 (by decide) ?_
    refine kw_goto (tgt := 20) X dc_M_isMarked_16 (by decide) ?_
    exact kw_zret X hr hlk rfl dc_M_isMarked_20 ⟨rfl, by first | exact (if_pos ((iZ_inj (by omega) (by omega) (by omega) (by omega)).mp hc12)).symm | exact (if_neg (fun z => hc12 ((iZ_inj (by omega) (by omega) (by omega) (by omega)).mpr z))).symm⟩
set_option maxRecDepth 100000 in
set_option maxHeartbeats 4000000 in
theorem ct_prepM {l : Launch} {D : va_G} {kI kB kC kL : ClassId} (v0 v1 w0 w1 w2 w3 n : Nat) (rd : Int32) (f les oth soc : Nat → Int32) (lo hi : Nat → Nat) (ok : webOk lo hi n les oth soc) (hrd : (rd = nI 1 ∧ ∀ q, q < 2 ^ n → f q = iZ (gm_mg lo hi n q)) ∨ rd = nI 0) : kw_V l mn_V_prepare (gw mn_V_prepare cd_V_prepare 2 none) ({ frames := 4, cells := 0, slots := 0, locals := 93 } : Room) D cl_v (kt kI kB kC kL) kE [.ref v0] (wVal 2 kI kB v0 v1 w0 w1 w2 w3 n rd f les oth soc) (fun w => ∃ f2 : Nat → Int32, w = wVal 2 kI kB v0 v1 w0 w1 w2 w3 n (nI 1) f2 les oth soc ∧ ∀ q, q < 2 ^ n → f2 q = iZ (gm_mg lo hi n q)) 0 0 := by
  refine kw_ofV (cc := cd_V_prepare) (maxL := 2) (by decide) rfl (Nat.le_of_ble_eq_true rfl) rfl ?_
  intro pp ee s m args below meth c A X hr hlk hE hnm
  have hn := ok.1.1
  have h2n : 2 ^ n ≤ 4096 := show 2 ^ n ≤ 2 ^ 12 from Nat.pow_le_pow_right (by decide) hn
  have h2p := Nat.two_pow_pos n
  refine kw_aload_n X dc_V_prepare_0 rfl rfl ?_
  refine kw_get X (wc_M _) 0 rfl rfl 2 (by decide) (gq wd_66) (fun _ h => h) rfl dc_V_prepare_1 ?_
  refine kw_if_eq (tgt := 8) X dc_V_prepare_4 (by decide) (fun hc4 => ?_) (fun hc4 => ?_)
  · refine kw_iconst (v := (nI 0)) X dc_V_prepare_8 (by decide) ?_
    refine kw_istore_n X dc_V_prepare_9 rfl (by decide) ?_
    refine kw_loop (α := Nat) (fun k => k ≤ 2 ^ n) (fun k => 2 ^ n - k) (fun k => wVal 2 kI kB v0 v1 w0 w1 w2 w3 n rd (kq_pre (fun q => iZ (gm_mg lo hi n q)) f k) les oth soc) (fun k => [some (.ref v0), some (.int (nI k))]) (fun _ => []) 0 (Nat.zero_le _) (fun k hk ih => ?_)
    refine kw_iload_n X dc_V_prepare_10 rfl rfl ?_
    refine kw_aload_n X dc_V_prepare_11 rfl rfl ?_
    refine kw_get X (wc_M _) 0 rfl rfl 0 (by decide) (gq wd_56) (fun _ h => h) rfl dc_V_prepare_12 ?_
    refine kw_callVI X kEw hE 0 rfl rfl (ct_every w0 w1 w2 w3 n les oth soc hn) (cw_V 0 X wd_467 wd_350 wd_351 wd_2 wd_352 rfl rfl (by decide +kernel) ⟨Nat.le_of_ble_eq_true rfl, Nat.le_of_ble_eq_true rfl⟩) [2, 3, 4, 5] rfl (by decide) (fun _ _ h => by obtain ⟨rfl, _⟩ := h; exact Nat.le_refl _) rfl rfl (Nat.le_of_ble_eq_true rfl) dc_V_prepare_15 ⟨Nat.zero_le _, Nat.zero_le _⟩ (fun r w hp => ?_)
    obtain ⟨rfl, rfl⟩ := hp
    refine kw_icmp_gt (tgt := 39) X dc_V_prepare_18 (by decide) (fun hc18 => ?_) (fun hc18 => ?_)
    · refine kw_aload_n X dc_V_prepare_39 rfl rfl ?_
      refine kw_iconst (v := (nI 1)) X dc_V_prepare_40 (by decide) ?_
      refine kw_putf (ty := .boolean) X (wc_M _) fy_M fk_M fn_M 0 rfl rfl 2 (by decide) (gq wd_66) (fun _ h => h) rfl (by decide +kernel) rfl rfl (Nat.le_of_ble_eq_true rfl) dc_V_prepare_41 ?_
      exact kw_vret X hr hlk dc_V_prepare_44 ⟨kq_pre (fun q => iZ (gm_mg lo hi n q)) f k, rfl, fun q hq => kq_pre_lt (by have := kq_lt hc18; omega)⟩
    · have hkn : k < 2 ^ n := by have := kq_nlt hc18; omega
      have b8 := gm_mg_8 ok.1 hkn
      refine kw_aload_n X dc_V_prepare_21 rfl rfl ?_
      refine kw_get X (wc_M _) 0 rfl rfl 1 (by decide) (gq wd_61) (fun _ h => h) rfl dc_V_prepare_22 ?_
      refine kw_iload_n X dc_V_prepare_25 rfl rfl ?_
      refine kw_aload_n X dc_V_prepare_26 rfl rfl ?_
      refine kw_iload_n X dc_V_prepare_27 rfl rfl ?_
      refine kw_callUI X kEw hE 0 rfl rfl (ct_workM v0 v1 w0 w1 w2 w3 n rd (kq_pre (fun q => iZ (gm_mg lo hi n q)) f k) les oth soc lo hi ok k hkn (fun q hq => kq_pre_lt hq)) (cw_A 1 X wd_468 wd_470 wd_471 wd_472 wd_4 wd_473 rfl rfl (hE _ (by decide +kernel)) (by decide +kernel) ⟨Nat.le_of_ble_eq_true rfl, Nat.le_of_ble_eq_true rfl⟩) [0, 1, 2, 3, 4, 5] rfl (by decide) (fun _ _ h => by obtain ⟨rfl, _⟩ := h; exact Nat.le_refl _) rfl rfl (Nat.le_of_ble_eq_true rfl) dc_V_prepare_28 ⟨Nat.zero_le _, Nat.zero_le _⟩ (fun r w hp => ?_)
      obtain ⟨rfl, rfl⟩ := hp
      refine kw_i2b (v := iZ (gm_mg lo hi n k)) X dc_V_prepare_31 (iZ_byte (by omega) (by omega)) ?_
      refine kw_bast X 1 1 rfl rfl (kq_in (by omega) (by omega)) dc_V_prepare_32 ?_
      refine kw_iinc (v := nI (k + 1)) X dc_V_prepare_33 rfl (kq_inc k) (by decide) ?_
      refine kw_goto (tgt := 10) X dc_V_prepare_36 (by decide) ?_
      refine kw_cv (ws' := wVal 2 kI kB v0 v1 w0 w1 w2 w3 n rd (kq_pre (fun q => iZ (gm_mg lo hi n q)) f (k + 1)) les oth soc) (by
        show wVal 2 kI kB v0 v1 w0 w1 w2 w3 n rd (upd (kq_pre (fun q => iZ (gm_mg lo hi n q)) f k) (nI k).toNatClampNeg (vp_nar .byte (iZ (gm_mg lo hi n k)))) les oth soc = _
        rw [kq_cl (by omega), iZ_nar (by omega) (by omega), kq_pre_upd rfl]) rfl rfl ?_
      exact ih (k + 1) (by omega) (by omega)
  · exact kw_vret X hr hlk dc_V_prepare_7 ⟨f, by rcases hrd with ⟨e, _⟩ | e; (subst e; rfl); (exact absurd e hc4), by rcases hrd with ⟨_, h⟩ | e; (exact h); (exact absurd e hc4)⟩
set_option maxRecDepth 100000 in
set_option maxHeartbeats 4000000 in
theorem ct_ofM {l : Launch} {D : va_G} {kI kB kC kL : ClassId} (v0 v1 w0 w1 w2 w3 n : Nat) (rd : Int32) (f les oth soc : Nat → Int32) (lo hi : Nat → Nat) (ok : webOk lo hi n les oth soc) (hrd : (rd = nI 1 ∧ ∀ q, q < 2 ^ n → f q = iZ (gm_mg lo hi n q)) ∨ rd = nI 0) (p : Nat) (hp : p < 2 ^ n) : kw_I l mn_V_of (gw mn_V_of cd_V_of 2 (some .int)) ({ frames := 5, cells := 0, slots := 0, locals := 114 } : Room) D cl_v (kt kI kB kC kL) kE [.ref v0, .int (nI p)] (wVal 2 kI kB v0 v1 w0 w1 w2 w3 n rd f les oth soc) (fun r w => r = iZ (gm_mg lo hi n p) ∧ ∃ f2 : Nat → Int32, w = wVal 2 kI kB v0 v1 w0 w1 w2 w3 n (nI 1) f2 les oth soc ∧ ∀ q, q < 2 ^ n → f2 q = iZ (gm_mg lo hi n q)) 0 0 := by
  refine kw_ofI (cc := cd_V_of) (maxL := 2) (ty := .int) (by decide) rfl (Nat.le_of_ble_eq_true rfl) rfl ?_
  intro pp ee s m args below meth c A X hr hlk hE hnm
  have hp4 := kq_2n ok.1.1 hp
  refine kw_aload_n X dc_V_of_0 rfl rfl ?_
  refine kw_callVV X kEw hE 0 rfl rfl (ct_prepM v0 v1 w0 w1 w2 w3 n rd f les oth soc lo hi ok hrd) (cw_P 0 X wd_463 wd_465 (hE _ (by decide +kernel)) wd_3 wd_466 rfl rfl (by decide +kernel) ⟨Nat.le_of_ble_eq_true rfl, Nat.le_of_ble_eq_true rfl⟩) [0, 1, 2, 3, 4, 5] rfl (by decide) (fun _ h => by obtain ⟨g, rfl, _⟩ := h; exact Nat.le_refl _) rfl rfl (Nat.le_of_ble_eq_true rfl) dc_V_of_1 ⟨Nat.zero_le _, Nat.zero_le _⟩ (fun w hp => ?_)
  obtain ⟨f2, rfl, hf2⟩ := hp
  refine kw_aload_n X dc_V_of_4 rfl rfl ?_
  refine kw_get X (wc_M _) 0 rfl rfl 1 (by decide) (gq wd_61) (fun _ h => h) rfl dc_V_of_5 ?_
  refine kw_iload_n X dc_V_of_8 rfl rfl ?_
  refine kw_bald (v := iZ (gm_mg lo hi n p)) X 1 1 rfl rfl (kq_in (by omega) (by omega)) (by rw [kq_cl (by omega)]; exact hf2 p hp) dc_V_of_9 ?_
  exact kw_iret X hr hlk dc_V_of_10 ⟨rfl, f2, rfl, hf2⟩
set_option maxRecDepth 100000 in
set_option maxHeartbeats 4000000 in
theorem ct_goodM {l : Launch} {D : va_G} {kI kB kC kL : ClassId} (v0 v1 w0 w1 w2 w3 n : Nat) (rd : Int32) (f les oth soc : Nat → Int32) (lo hi : Nat → Nat) (ok : webOk lo hi n les oth soc) (hrd : (rd = nI 1 ∧ ∀ q, q < 2 ^ n → f q = iZ (gm_mg lo hi n q)) ∨ rd = nI 0) (p : Nat) (hp : p < 2 ^ n) : kw_I l mn_V_markedStrings (gw mn_V_markedStrings cd_V_markedStrings 4 (some .int)) ({ frames := 5, cells := 0, slots := 0, locals := 114 } : Room) D cl_v (kt kI kB kC kL) kE [.ref v0, .int (nI p)] (wVal 2 kI kB v0 v1 w0 w1 w2 w3 n rd f les oth soc) (fun r w => r = nI (gm_good lo hi n p) ∧ ∃ f2 : Nat → Int32, w = wVal 2 kI kB v0 v1 w0 w1 w2 w3 n (nI 1) f2 les oth soc ∧ ∀ q, q < 2 ^ n → f2 q = iZ (gm_mg lo hi n q)) 0 0 := by
  refine kw_ofI (cc := cd_V_markedStrings) (maxL := 4) (ty := .int) (by decide) rfl (Nat.le_of_ble_eq_true rfl) rfl ?_
  intro pp ee s m args below meth c A X hr hlk hE hnm
  have hn := ok.1.1
  have hp4 := kq_2n hn hp
  refine kw_aload_n X dc_V_markedStrings_0 rfl rfl ?_
  refine kw_callVV X kEw hE 0 rfl rfl (ct_prepM v0 v1 w0 w1 w2 w3 n rd f les oth soc lo hi ok hrd) (cw_P 0 X wd_463 wd_465 (hE _ (by decide +kernel)) wd_3 wd_466 rfl rfl (by decide +kernel) ⟨Nat.le_of_ble_eq_true rfl, Nat.le_of_ble_eq_true rfl⟩) [0, 1, 2, 3, 4, 5] rfl (by decide) (fun _ h => by obtain ⟨g, rfl, _⟩ := h; exact Nat.le_refl _) rfl rfl (Nat.le_of_ble_eq_true rfl) dc_V_markedStrings_1 ⟨Nat.zero_le _, Nat.zero_le _⟩ (fun w hp => ?_)
  obtain ⟨f2, rfl, hf2⟩ := hp
  refine kw_iconst (v := (nI 0)) X dc_V_markedStrings_4 (by decide) ?_
  refine kw_istore_n X dc_V_markedStrings_5 rfl (by decide) ?_
  refine kw_iconst (v := (nI 0)) X dc_V_markedStrings_6 (by decide) ?_
  refine kw_istore_n X dc_V_markedStrings_7 rfl (by decide) ?_
  refine kw_loop (α := Nat) (fun k => k ≤ n) (fun k => n - k) (fun _ => wVal 2 kI kB v0 v1 w0 w1 w2 w3 n (nI 1) f2 les oth soc) (fun k => [some (.ref v0), some (.int (nI p)), some (.int (nI (gm_ms (fun i => p.testBit i && decide (gm_gv lo hi n (gm_mg lo hi n) p i = gm_mg lo hi n p)) k))), some (.int (nI k))]) (fun _ => []) 0 (Nat.zero_le _) (fun k hk ih => ?_)
  refine kw_iload_n X dc_V_markedStrings_8 rfl rfl ?_
  refine kw_aload_n X dc_V_markedStrings_9 rfl rfl ?_
  refine kw_get X (wc_M _) 0 rfl rfl 0 (by decide) (gq wd_56) (fun _ h => h) rfl dc_V_markedStrings_10 ?_
  refine kw_callVI X kEw hE 0 rfl rfl (ct_size w0 w1 w2 w3 n les oth soc) (cw_V 0 X wd_494 wd_191 wd_192 wd_2 wd_193 rfl rfl (by decide +kernel) ⟨Nat.le_of_ble_eq_true rfl, Nat.le_of_ble_eq_true rfl⟩) [2, 3, 4, 5] rfl (by decide) (fun _ _ h => by obtain ⟨rfl, _⟩ := h; exact Nat.le_refl _) rfl rfl (Nat.le_of_ble_eq_true rfl) dc_V_markedStrings_13 ⟨Nat.zero_le _, Nat.zero_le _⟩ (fun r w hp => ?_)
  obtain ⟨rfl, rfl⟩ := hp
  refine kw_icmp_ge (tgt := 48) X dc_V_markedStrings_16 (by decide) (fun hc16 => ?_) (fun hc16 => ?_)
  · refine kw_iload_n X dc_V_markedStrings_48 rfl rfl ?_
    exact kw_iret X hr hlk dc_V_markedStrings_49 ⟨by have hkn : k = n := Nat.le_antisymm hk (kq_le hc16); subst hkn; rfl, f2, rfl, hf2⟩
  · have hkn := kq_nle hc16
    refine kw_iload_n X dc_V_markedStrings_19 rfl rfl ?_
    refine kw_iload_n X dc_V_markedStrings_20 rfl rfl ?_
    refine kw_callSNI X kEw hE (ct_hasN p k (by omega) (by omega)) (cw_SN (host := "CoinStrings") 2 X (hE _ (by decide +kernel)) wd_195 wd_1 wd_196 rfl rfl (by decide +kernel) ⟨Nat.le_of_ble_eq_true rfl, Nat.le_of_ble_eq_true rfl⟩) [] rfl (by decide) (fun _ _ _ => Nat.zero_le _) rfl rfl (Nat.le_of_ble_eq_true rfl) dc_V_markedStrings_21 ⟨Nat.zero_le _, Nat.zero_le _⟩ (fun r w hp => ?_)
    obtain ⟨rfl, rfl⟩ := hp
    refine kw_if_eq (tgt := 42) X dc_V_markedStrings_24 (by decide) (fun hc24 => ?_) (fun hc24 => ?_)
    · have h24 := kq_z0 hc24
      refine kw_iinc (v := nI (k + 1)) X dc_V_markedStrings_42 rfl (kq_inc k) (by decide) ?_
      refine kw_goto (tgt := 8) X dc_V_markedStrings_45 (by decide) ?_
      refine kw_cv (lv' := [some (.ref v0), some (.int (nI p)), some (.int (nI (gm_ms (fun i => p.testBit i && decide (gm_gv lo hi n (gm_mg lo hi n) p i = gm_mg lo hi n p)) (k + 1)))), some (.int (nI (k + 1)))]) rfl (by first | rfl | (rw [gm_ms_no (q := (fun i => p.testBit i && decide (gm_gv lo hi n (gm_mg lo hi n) p i = gm_mg lo hi n p))) (kq_f2 h33)]; rfl) | (rw [gm_ms_no (q := (fun i => p.testBit i && decide (gm_gv lo hi n (gm_mg lo hi n) p i = gm_mg lo hi n p))) (kq_f1 h24)]; rfl)) rfl ?_
      exact ih (k + 1) (by omega) (by omega)
    · have h24 := kq_z1 hc24
      refine kw_aload_n X dc_V_markedStrings_27 rfl rfl ?_
      refine kw_iload_n X dc_V_markedStrings_28 rfl rfl ?_
      refine kw_iload_n X dc_V_markedStrings_29 rfl rfl ?_
      refine kw_callUI X kEw hE 0 rfl rfl (ct_markM v0 v1 w0 w1 w2 w3 n (nI 1) f2 les oth soc lo hi ok p k hp hkn h24 hf2) (cw_A 2 X wd_496 wd_498 wd_499 wd_500 wd_4 wd_501 rfl rfl (hE _ (by decide +kernel)) (by decide +kernel) ⟨Nat.le_of_ble_eq_true rfl, Nat.le_of_ble_eq_true rfl⟩) [0, 1, 2, 3, 4, 5] rfl (by decide) (fun _ _ h => by obtain ⟨rfl, _⟩ := h; exact Nat.le_refl _) rfl rfl (Nat.le_of_ble_eq_true rfl) dc_V_markedStrings_30 ⟨Nat.zero_le _, Nat.zero_le _⟩ (fun r w hp => ?_)
      obtain ⟨rfl, rfl⟩ := hp
      refine kw_if_eq (tgt := 42) X dc_V_markedStrings_33 (by decide) (fun hc33 => ?_) (fun hc33 => ?_)
      · have h33 := kq_z0 hc33
        refine kw_iinc (v := nI (k + 1)) X dc_V_markedStrings_42 rfl (kq_inc k) (by decide) ?_
        refine kw_goto (tgt := 8) X dc_V_markedStrings_45 (by decide) ?_
        refine kw_cv (lv' := [some (.ref v0), some (.int (nI p)), some (.int (nI (gm_ms (fun i => p.testBit i && decide (gm_gv lo hi n (gm_mg lo hi n) p i = gm_mg lo hi n p)) (k + 1)))), some (.int (nI (k + 1)))]) rfl (by first | rfl | (rw [gm_ms_no (q := (fun i => p.testBit i && decide (gm_gv lo hi n (gm_mg lo hi n) p i = gm_mg lo hi n p))) (kq_f2 h33)]; rfl) | (rw [gm_ms_no (q := (fun i => p.testBit i && decide (gm_gv lo hi n (gm_mg lo hi n) p i = gm_mg lo hi n p))) (kq_f1 h24)]; rfl)) rfl ?_
        exact ih (k + 1) (by omega) (by omega)
      · have h33 := kq_z1 hc33
        refine kw_iload_n X dc_V_markedStrings_36 rfl rfl ?_
        refine kw_iconst (v := (nI 1)) X dc_V_markedStrings_37 (by decide) ?_
        refine kw_iload_n X dc_V_markedStrings_38 rfl rfl ?_
        refine kw_ishl (v := nI (2 ^ k)) X dc_V_markedStrings_39 (bq_shl (by omega)) ?_
        refine kw_ior (v := nI (gm_ms (fun i => p.testBit i && decide (gm_gv lo hi n (gm_mg lo hi n) p i = gm_mg lo hi n p)) (k + 1))) X dc_V_markedStrings_40 (by rw [bq_or, show gm_ms (fun i => p.testBit i && decide (gm_gv lo hi n (gm_mg lo hi n) p i = gm_mg lo hi n p)) (k + 1) = gm_ms (fun i => p.testBit i && decide (gm_gv lo hi n (gm_mg lo hi n) p i = gm_mg lo hi n p)) k ||| 2 ^ k from if_pos (by simp [h24, h33])]) ?_
        refine kw_istore_n X dc_V_markedStrings_41 rfl (by decide) ?_
        refine kw_iinc (v := nI (k + 1)) X dc_V_markedStrings_42 rfl (kq_inc k) (by decide) ?_
        refine kw_goto (tgt := 8) X dc_V_markedStrings_45 (by decide) ?_
        refine kw_cv (lv' := [some (.ref v0), some (.int (nI p)), some (.int (nI (gm_ms (fun i => p.testBit i && decide (gm_gv lo hi n (gm_mg lo hi n) p i = gm_mg lo hi n p)) (k + 1)))), some (.int (nI (k + 1)))]) rfl (by first | rfl | (rw [gm_ms_no (q := (fun i => p.testBit i && decide (gm_gv lo hi n (gm_mg lo hi n) p i = gm_mg lo hi n p))) (kq_f2 h33)]; rfl) | (rw [gm_ms_no (q := (fun i => p.testBit i && decide (gm_gv lo hi n (gm_mg lo hi n) p i = gm_mg lo hi n p))) (kq_f1 h24)]; rfl)) rfl ?_
        exact ih (k + 1) (by omega) (by omega)
set_option maxRecDepth 100000 in
set_option maxHeartbeats 4000000 in
theorem ct_forgetM {l : Launch} {D : va_G} {kI kB kC kL : ClassId} (v0 v1 w0 : Nat) (rd : Int32) : kw_V l mn_V_forget (gw mn_V_forget cd_V_forget 1 none) ({ frames := 0, cells := 0, slots := 0, locals := 0 } : Room) D cl_v (kt kI kB kC kL) kE [.ref v0] ([(v0, .inr (2, [.ref w0, .ref v1, .int rd]))]) (fun w => w = [(v0, .inr (2, [.ref w0, .ref v1, .int (nI 0)]))]) 0 0 := by
  refine kw_ofV (cc := cd_V_forget) (maxL := 1) (by decide) rfl (Nat.le_of_ble_eq_true rfl) rfl ?_
  intro pp ee s m args below meth c A X hr hlk hE hnm
  refine kw_aload_n X dc_V_forget_0 rfl rfl ?_
  refine kw_iconst (v := (nI 0)) X dc_V_forget_1 (by decide) ?_
  refine kw_putf (ty := .boolean) X (wc_M _) fy_M fk_M fn_M 0 rfl rfl 2 (by decide) (gq wd_66) (fun _ h => h) rfl (by decide +kernel) rfl rfl (Nat.le_of_ble_eq_true rfl) dc_V_forget_2 ?_
  exact kw_vret X hr hlk dc_V_forget_5 rfl
