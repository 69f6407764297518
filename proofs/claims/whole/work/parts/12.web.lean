set_option maxRecDepth 100000 in
set_option maxHeartbeats 4000000 in
theorem ct_size {l : Launch} {D : va_G} {kI kB kC kL : ClassId} (w0 w1 w2 w3 n : Nat) (les oth soc : Nat → Int32)  : kw_I l mn_W_size (gw mn_W_size cd_W_size 1 (some .int)) ({ frames := 0, cells := 0, slots := 0, locals := 0 } : Room) D cl_v (kt kI kB kC kL) kE [.ref w0] (wWeb kI w0 w1 w2 w3 n les oth soc) (fun r w => w = wWeb kI w0 w1 w2 w3 n les oth soc ∧ r = nI n) 0 0 := by
  refine kw_ofI (cc := cd_W_size) (maxL := 1) (ty := .int) (by decide) rfl (Nat.le_of_ble_eq_true rfl) rfl ?_
  intro pp ee s m args below meth c A X hr hlk hE hnm
  refine kw_aload_n X dc_W_size_0 rfl rfl ?_
  refine kw_get X (wc_W _) 0 rfl rfl 3 (by decide) (gq wd_36) (fun _ h => h) rfl dc_W_size_1 ?_
  exact kw_iret X hr hlk dc_W_size_4 ⟨rfl, rfl⟩
set_option maxRecDepth 100000 in
set_option maxHeartbeats 4000000 in
theorem ct_every {l : Launch} {D : va_G} {kI kB kC kL : ClassId} (w0 w1 w2 w3 n : Nat) (les oth soc : Nat → Int32) (hn : n ≤ 12) : kw_I l mn_W_everyString (gw mn_W_everyString cd_W_everyString 1 (some .int)) ({ frames := 0, cells := 0, slots := 0, locals := 0 } : Room) D cl_v (kt kI kB kC kL) kE [.ref w0] (wWeb kI w0 w1 w2 w3 n les oth soc) (fun r w => w = wWeb kI w0 w1 w2 w3 n les oth soc ∧ r = nI (2 ^ n - 1)) 0 0 := by
  refine kw_ofI (cc := cd_W_everyString) (maxL := 1) (ty := .int) (by decide) rfl (Nat.le_of_ble_eq_true rfl) rfl ?_
  intro pp ee s m args below meth c A X hr hlk hE hnm
  refine kw_iconst (v := (nI 1)) X dc_W_everyString_0 (by decide) ?_
  refine kw_aload_n X dc_W_everyString_1 rfl rfl ?_
  refine kw_get X (wc_W _) 0 rfl rfl 3 (by decide) (gq wd_36) (fun _ h => h) rfl dc_W_everyString_2 ?_
  refine kw_ishl (v := nI (2 ^ n)) X dc_W_everyString_5 (bq_shl (by omega)) ?_
  refine kw_iconst (v := (nI 1)) X dc_W_everyString_6 (by decide) ?_
  refine kw_isub (v := nI (2 ^ n - 1)) X dc_W_everyString_7 (pk_sub (Nat.two_pow_pos n)) ?_
  exact kw_iret X hr hlk dc_W_everyString_8 ⟨rfl, rfl⟩
set_option maxRecDepth 100000 in
set_option maxHeartbeats 4000000 in
theorem ct_lesser {l : Launch} {D : va_G} {kI kB kC kL : ClassId} (w0 w1 w2 w3 n : Nat) (les oth soc : Nat → Int32) (i : Nat) (hi : i < 12) : kw_I l mn_W_lesserEnd (gw mn_W_lesserEnd cd_W_lesserEnd 2 (some .int)) ({ frames := 0, cells := 0, slots := 0, locals := 0 } : Room) D cl_v (kt kI kB kC kL) kE [.ref w0, .int (nI i)] (wWeb kI w0 w1 w2 w3 n les oth soc) (fun r w => w = wWeb kI w0 w1 w2 w3 n les oth soc ∧ r = les i) 0 0 := by
  refine kw_ofI (cc := cd_W_lesserEnd) (maxL := 2) (ty := .int) (by decide) rfl (Nat.le_of_ble_eq_true rfl) rfl ?_
  intro pp ee s m args below meth c A X hr hlk hE hnm
  refine kw_aload_n X dc_W_lesserEnd_0 rfl rfl ?_
  refine kw_get X (wc_W _) 0 rfl rfl 0 (by decide) (gq wd_33) (fun _ h => h) rfl dc_W_lesserEnd_1 ?_
  refine kw_iload_n X dc_W_lesserEnd_4 rfl rfl ?_
  refine kw_iald (v := les i) X 1 0 rfl rfl (kq_in hi (by omega)) (by rw [kq_cl (by omega)]) dc_W_lesserEnd_5 ?_
  exact kw_iret X hr hlk dc_W_lesserEnd_6 ⟨rfl, rfl⟩
set_option maxRecDepth 100000 in
set_option maxHeartbeats 4000000 in
theorem ct_other {l : Launch} {D : va_G} {kI kB kC kL : ClassId} (w0 w1 w2 w3 n : Nat) (les oth soc : Nat → Int32) (i : Nat) (hi : i < 12) : kw_I l mn_W_otherEnd (gw mn_W_otherEnd cd_W_otherEnd 2 (some .int)) ({ frames := 0, cells := 0, slots := 0, locals := 0 } : Room) D cl_v (kt kI kB kC kL) kE [.ref w0, .int (nI i)] (wWeb kI w0 w1 w2 w3 n les oth soc) (fun r w => w = wWeb kI w0 w1 w2 w3 n les oth soc ∧ r = oth i) 0 0 := by
  refine kw_ofI (cc := cd_W_otherEnd) (maxL := 2) (ty := .int) (by decide) rfl (Nat.le_of_ble_eq_true rfl) rfl ?_
  intro pp ee s m args below meth c A X hr hlk hE hnm
  refine kw_aload_n X dc_W_otherEnd_0 rfl rfl ?_
  refine kw_get X (wc_W _) 0 rfl rfl 1 (by decide) (gq wd_34) (fun _ h => h) rfl dc_W_otherEnd_1 ?_
  refine kw_iload_n X dc_W_otherEnd_4 rfl rfl ?_
  refine kw_iald (v := oth i) X 2 0 rfl rfl (kq_in hi (by omega)) (by rw [kq_cl (by omega)]) dc_W_otherEnd_5 ?_
  exact kw_iret X hr hlk dc_W_otherEnd_6 ⟨rfl, rfl⟩
theorem kq_mk {lo hi : Nat → Nat} {n : Nat} (hn : n ≤ 12) (c : Nat) : gm_mk lo hi n c < 4096 := Nat.lt_of_lt_of_le (gm_mk_lt lo hi n c) (show 2 ^ n ≤ 2 ^ 12 from Nat.pow_le_pow_right (by decide) hn)
theorem kq_pmk {lo hi : Nat → Nat} {n : Nat} (hn : n ≤ 12) (p c : Nat) : p &&& gm_mk lo hi n c < 4096 := Nat.lt_of_le_of_lt Nat.and_le_right (kq_mk hn c)
theorem kq_p2 {i : Nat} (hi : i < 31) : 2 ^ i < 2 ^ 31 := Nat.pow_lt_pow_right (by decide) hi
theorem webOk_j {lo hi : Nat → Nat} {n a b : Nat} {les oth soc les' oth' soc' : Nat → Int32} (h : webOk lo hi n les oth soc) (hn : n < 12) (ha : a < 8) (hb : b ≤ 8) (hab : a ≠ b) (h1 : ∀ i, i < n → les' i = les i) (h2 : les' n = nI (min a b)) (h3 : ∀ i, i < n → oth' i = oth i) (h4 : oth' n = og (max a b))
    (h5 : ∀ c, c < 8 → soc' c = if c = a ∨ c = b then nI (gm_mk lo hi n c ||| 2 ^ n) else soc c) : webOk (fun i => if i = n then min a b else lo i) (fun i => if i = n then max a b else hi i) (n + 1) les' oth' soc' := by
  obtain ⟨⟨k1, k2⟩, k3, k4⟩ := h
  have eL : ∀ i, i < n → (if i = n then min a b else lo i) = lo i := fun i hi' => if_neg (by omega)
  have eH : ∀ i, i < n → (if i = n then max a b else hi i) = hi i := fun i hi' => if_neg (by omega)
  refine ⟨⟨by omega, fun i hi' => ?_⟩, fun i hi' => ?_, fun c hc => ?_⟩
  · by_cases hin : i = n
    · subst hin
      simp only [if_true]
      omega
    · have := k2 i (by omega)
      simp only [hin, if_false]
      exact this
  · by_cases hin : i = n
    · subst hin
      simp only [if_true]
      exact ⟨h2, h4⟩
    · have := k3 i (by omega)
      simp only [hin, if_false]
      rw [h1 i (by omega), h3 i (by omega)]
      exact this
  · rw [h5 c hc]
    rw [show gm_mk (fun i => if i = n then min a b else lo i) (fun i => if i = n then max a b else hi i) (n + 1) c = gm_mk (fun i => if i = n then min a b else lo i) (fun i => if i = n then max a b else hi i) n c ||| (if (if n = n then min a b else lo n) = c ∨ (if n = n then max a b else hi n) = c then 2 ^ n else 0) from rfl, gm_mk_congr (lo := lo) (hi := hi) eL eH c, if_pos (rfl : n = n), if_pos (rfl : n = n)]
    by_cases hq : c = a ∨ c = b
    · rw [if_pos hq, if_pos (show min a b = c ∨ max a b = c by omega)]
    · rw [if_neg hq, if_neg (show ¬ (min a b = c ∨ max a b = c) by omega), k4 c hc, Nat.or_zero]
set_option maxRecDepth 100000 in
set_option maxHeartbeats 4000000 in
theorem ct_hangs {l : Launch} {D : va_G} {kI kB kC kL : ClassId} (w0 w1 w2 w3 n : Nat) (les oth soc : Nat → Int32) (p c0 i : Nat) (lo hi : Nat → Nat) (ok : webOk lo hi n les oth soc) (hc : c0 < 8) (hi1 : i < 31) : kw_I l mn_W_hangsOnlyOn (gw mn_W_hangsOnlyOn cd_W_hangsOnlyOn 4 (some .boolean)) ({ frames := 0, cells := 0, slots := 0, locals := 0 } : Room) D cl_v (kt kI kB kC kL) kE [.ref w0, .int (nI p), .int (nI c0), .int (nI i)] (wWeb kI w0 w1 w2 w3 n les oth soc) (fun r w => w = wWeb kI w0 w1 w2 w3 n les oth soc ∧ r = if p &&& gm_mk lo hi n c0 = 2 ^ i then nI 1 else nI 0) 0 0 := by
  refine kw_ofI (cc := cd_W_hangsOnlyOn) (maxL := 4) (ty := .boolean) (by decide) rfl (Nat.le_of_ble_eq_true rfl) rfl ?_
  intro pp ee s m args below meth c A X hr hlk hE hnm
  refine kw_iload_n X dc_W_hangsOnlyOn_0 rfl rfl ?_
  refine kw_aload_n X dc_W_hangsOnlyOn_1 rfl rfl ?_
  refine kw_get X (wc_W _) 0 rfl rfl 2 (by decide) (gq wd_35) (fun _ h => h) rfl dc_W_hangsOnlyOn_2 ?_
  refine kw_iload_n X dc_W_hangsOnlyOn_5 rfl rfl ?_
  refine kw_iald (v := nI (gm_mk lo hi n c0)) X 3 0 rfl rfl (kq_in hc (by omega)) (by rw [kq_cl (by omega)]; exact ok.2.2 c0 hc) dc_W_hangsOnlyOn_6 ?_
  refine kw_iand (v := nI (p &&& gm_mk lo hi n c0)) X dc_W_hangsOnlyOn_7 (nx_and _ _) ?_
  refine kw_iconst (v := (nI 1)) X dc_W_hangsOnlyOn_8 (by decide) ?_
  refine kw_iload_n X dc_W_hangsOnlyOn_9 rfl rfl ?_
  refine kw_ishl (v := nI (2 ^ i)) X dc_W_hangsOnlyOn_10 (bq_shl hi1) ?_
  have h31 := kq_p2 hi1
  have hpm := kq_pmk (lo := lo) (hi := hi) ok.1.1 p c0
  refine kw_icmp_ne (tgt := 18) X dc_W_hangsOnlyOn_11 (by decide) (fun hc11 => ?_) (fun hc11 => ?_)
  · refine kw_iconst (v := (nI 0)) X dc_W_hangsOnlyOn_18 (by decide) ?_
    exact kw_zret X hr hlk rfl dc_W_hangsOnlyOn_19 ⟨rfl, by first | exact (if_pos (kq_eq hc11)).symm | exact (if_neg (kq_ne hc11)).symm⟩
  · refine kw_iconst (v := (nI 1)) X dc_W_hangsOnlyOn_14 (by decide) ?_
    refine kw_goto (tgt := 19) X dc_W_hangsOnlyOn_15 (by decide) ?_
    exact kw_zret X hr hlk rfl dc_W_hangsOnlyOn_19 ⟨rfl, by first | exact (if_pos (kq_eq hc11)).symm | exact (if_neg (kq_ne hc11)).symm⟩
set_option maxRecDepth 100000 in
set_option maxHeartbeats 4000000 in
theorem ct_freed {l : Launch} {D : va_G} {kI kB kC kL : ClassId} (w0 w1 w2 w3 n : Nat) (les oth soc : Nat → Int32) (p i : Nat) (lo hi : Nat → Nat) (ok : webOk lo hi n les oth soc) (hi1 : i < n) : kw_I l mn_W_freed (gw mn_W_freed cd_W_freed 4 (some .int)) ({ frames := 1, cells := 0, slots := 0, locals := 23 } : Room) D cl_v (kt kI kB kC kL) kE [.ref w0, .int (nI p), .int (nI i)] (wWeb kI w0 w1 w2 w3 n les oth soc) (fun r w => w = wWeb kI w0 w1 w2 w3 n les oth soc ∧ r = nI (gm_tk lo hi n p i)) 0 0 := by
  refine kw_ofI (cc := cd_W_freed) (maxL := 4) (ty := .int) (by decide) rfl (Nat.le_of_ble_eq_true rfl) rfl ?_
  intro pp ee s m args below meth c A X hr hlk hE hnm
  have hn := ok.1.1
  obtain ⟨o1, o2, o3⟩ := ok.1.2 i hi1
  obtain ⟨e1, e2⟩ := ok.2.1 i hi1
  refine kw_aload_n X dc_W_freed_0 rfl rfl ?_
  refine kw_iload_n X dc_W_freed_1 rfl rfl ?_
  refine kw_aload_n X dc_W_freed_2 rfl rfl ?_
  refine kw_get X (wc_W _) 0 rfl rfl 0 (by decide) (gq wd_33) (fun _ h => h) rfl dc_W_freed_3 ?_
  refine kw_iload_n X dc_W_freed_6 rfl rfl ?_
  refine kw_iald (v := nI (lo i)) X 1 0 rfl rfl (kq_in (by omega) (by omega)) (by rw [kq_cl (by omega)]; exact e1) dc_W_freed_7 ?_
  refine kw_iload_n X dc_W_freed_8 rfl rfl ?_
  refine kw_callVI X kEw hE 0 rfl rfl (ct_hangs w0 w1 w2 w3 n les oth soc p (lo i) i lo hi ok o1 (by omega)) (cw_V 3 X wd_436 wd_438 wp_8 wd_2 wd_439 rfl rfl (by decide +kernel) ⟨Nat.le_of_ble_eq_true rfl, Nat.le_of_ble_eq_true rfl⟩) [0, 1, 2, 3] rfl (by decide) (fun _ _ h => by obtain ⟨rfl, _⟩ := h; exact Nat.le_refl _) rfl rfl (Nat.le_of_ble_eq_true rfl) dc_W_freed_9 ⟨Nat.zero_le _, Nat.zero_le _⟩ (fun r w hp => ?_)
  obtain ⟨rfl, rfl⟩ := hp
  refine kw_if_eq (tgt := 19) X dc_W_freed_12 (by decide) (fun hc12 => ?_) (fun hc12 => ?_)
  · have h12 := kq_z0 hc12
    refine kw_iconst (v := (nI 0)) X dc_W_freed_19 (by decide) ?_
    refine kw_istore_n X dc_W_freed_20 rfl (by decide) ?_
    refine kw_aload_n X dc_W_freed_21 rfl rfl ?_
    refine kw_get X (wc_W _) 0 rfl rfl 1 (by decide) (gq wd_34) (fun _ h => h) rfl dc_W_freed_22 ?_
    refine kw_iload_n X dc_W_freed_25 rfl rfl ?_
    refine kw_iald (v := og (hi i)) X 2 0 rfl rfl (kq_in (by omega) (by omega)) (by rw [kq_cl (by omega)]; exact e2) dc_W_freed_26 ?_
    refine kw_iconst (v := (-1)) X dc_W_freed_27 (by decide) ?_
    refine kw_icmp_eq (tgt := 49) X dc_W_freed_28 (by decide) (fun hc28 => ?_) (fun hc28 => ?_)
    · have h28 := (og_m1 o2).mp hc28
      refine kw_iload_n X dc_W_freed_49 rfl rfl ?_
      exact kw_iret X hr hlk dc_W_freed_50 ⟨rfl, by unfold gm_tk; first | (rw [if_pos h12, if_neg h29, if_pos h43]; exact kq_inc 1) | (rw [if_neg h12, if_neg h29, if_pos h43]; exact kq_inc 0) | (rw [if_pos h12, if_neg h29, if_neg h43]; try rfl) | (rw [if_neg h12, if_neg h29, if_neg h43]; try rfl) | (rw [if_pos h12, if_pos h28]; try rfl) | (rw [if_neg h12, if_pos h28]; try rfl)⟩
    · have h28 : hi i < 8 := by
        have h8 : hi i ≠ 8 := fun z => hc28 ((og_m1 o2).mpr z)
        omega
      have h29 : ¬ hi i = 8 := by omega
      refine kw_aload_n X dc_W_freed_31 rfl rfl ?_
      refine kw_iload_n X dc_W_freed_32 rfl rfl ?_
      refine kw_aload_n X dc_W_freed_33 rfl rfl ?_
      refine kw_get X (wc_W _) 0 rfl rfl 1 (by decide) (gq wd_34) (fun _ h => h) rfl dc_W_freed_34 ?_
      refine kw_iload_n X dc_W_freed_37 rfl rfl ?_
      refine kw_iald (v := nI (hi i)) X 2 0 rfl rfl (kq_in (by omega) (by omega)) (by rw [kq_cl (by omega), e2]; exact og_lt h28) dc_W_freed_38 ?_
      refine kw_iload_n X dc_W_freed_39 rfl rfl ?_
      refine kw_callVI X kEw hE 0 rfl rfl (ct_hangs w0 w1 w2 w3 n les oth soc p (hi i) i lo hi ok h28 (by omega)) (cw_V 3 X wd_436 wd_438 wp_8 wd_2 wd_439 rfl rfl (by decide +kernel) ⟨Nat.le_of_ble_eq_true rfl, Nat.le_of_ble_eq_true rfl⟩) [0, 1, 2, 3] rfl (by decide) (fun _ _ h => by obtain ⟨rfl, _⟩ := h; exact Nat.le_refl _) rfl rfl (Nat.le_of_ble_eq_true rfl) dc_W_freed_40 ⟨Nat.zero_le _, Nat.zero_le _⟩ (fun r w hp => ?_)
      obtain ⟨rfl, rfl⟩ := hp
      refine kw_if_eq (tgt := 49) X dc_W_freed_43 (by decide) (fun hc43 => ?_) (fun hc43 => ?_)
      · have h43 := kq_z0 hc43
        refine kw_iload_n X dc_W_freed_49 rfl rfl ?_
        exact kw_iret X hr hlk dc_W_freed_50 ⟨rfl, by unfold gm_tk; first | (rw [if_pos h12, if_neg h29, if_pos h43]; exact kq_inc 1) | (rw [if_neg h12, if_neg h29, if_pos h43]; exact kq_inc 0) | (rw [if_pos h12, if_neg h29, if_neg h43]; try rfl) | (rw [if_neg h12, if_neg h29, if_neg h43]; try rfl) | (rw [if_pos h12, if_pos h28]; try rfl) | (rw [if_neg h12, if_pos h28]; try rfl)⟩
      · have h43 := kq_z1 hc43
        refine kw_iinc X dc_W_freed_46 rfl rfl (by decide) ?_
        refine kw_iload_n X dc_W_freed_49 rfl rfl ?_
        exact kw_iret X hr hlk dc_W_freed_50 ⟨rfl, by unfold gm_tk; first | (rw [if_pos h12, if_neg h29, if_pos h43]; exact kq_inc 1) | (rw [if_neg h12, if_neg h29, if_pos h43]; exact kq_inc 0) | (rw [if_pos h12, if_neg h29, if_neg h43]; try rfl) | (rw [if_neg h12, if_neg h29, if_neg h43]; try rfl) | (rw [if_pos h12, if_pos h28]; try rfl) | (rw [if_neg h12, if_pos h28]; try rfl)⟩
  · have h12 := kq_z1 hc12
    refine kw_iconst (v := (nI 1)) X dc_W_freed_15 (by decide) ?_
    refine kw_goto (tgt := 20) X dc_W_freed_16 (by decide) ?_
    refine kw_istore_n X dc_W_freed_20 rfl (by decide) ?_
    refine kw_aload_n X dc_W_freed_21 rfl rfl ?_
    refine kw_get X (wc_W _) 0 rfl rfl 1 (by decide) (gq wd_34) (fun _ h => h) rfl dc_W_freed_22 ?_
    refine kw_iload_n X dc_W_freed_25 rfl rfl ?_
    refine kw_iald (v := og (hi i)) X 2 0 rfl rfl (kq_in (by omega) (by omega)) (by rw [kq_cl (by omega)]; exact e2) dc_W_freed_26 ?_
    refine kw_iconst (v := (-1)) X dc_W_freed_27 (by decide) ?_
    refine kw_icmp_eq (tgt := 49) X dc_W_freed_28 (by decide) (fun hc28 => ?_) (fun hc28 => ?_)
    · have h28 := (og_m1 o2).mp hc28
      refine kw_iload_n X dc_W_freed_49 rfl rfl ?_
      exact kw_iret X hr hlk dc_W_freed_50 ⟨rfl, by unfold gm_tk; first | (rw [if_pos h12, if_neg h29, if_pos h43]; exact kq_inc 1) | (rw [if_neg h12, if_neg h29, if_pos h43]; exact kq_inc 0) | (rw [if_pos h12, if_neg h29, if_neg h43]; try rfl) | (rw [if_neg h12, if_neg h29, if_neg h43]; try rfl) | (rw [if_pos h12, if_pos h28]; try rfl) | (rw [if_neg h12, if_pos h28]; try rfl)⟩
    · have h28 : hi i < 8 := by
        have h8 : hi i ≠ 8 := fun z => hc28 ((og_m1 o2).mpr z)
        omega
      have h29 : ¬ hi i = 8 := by omega
      refine kw_aload_n X dc_W_freed_31 rfl rfl ?_
      refine kw_iload_n X dc_W_freed_32 rfl rfl ?_
      refine kw_aload_n X dc_W_freed_33 rfl rfl ?_
      refine kw_get X (wc_W _) 0 rfl rfl 1 (by decide) (gq wd_34) (fun _ h => h) rfl dc_W_freed_34 ?_
      refine kw_iload_n X dc_W_freed_37 rfl rfl ?_
      refine kw_iald (v := nI (hi i)) X 2 0 rfl rfl (kq_in (by omega) (by omega)) (by rw [kq_cl (by omega), e2]; exact og_lt h28) dc_W_freed_38 ?_
      refine kw_iload_n X dc_W_freed_39 rfl rfl ?_
      refine kw_callVI X kEw hE 0 rfl rfl (ct_hangs w0 w1 w2 w3 n les oth soc p (hi i) i lo hi ok h28 (by omega)) (cw_V 3 X wd_436 wd_438 wp_8 wd_2 wd_439 rfl rfl (by decide +kernel) ⟨Nat.le_of_ble_eq_true rfl, Nat.le_of_ble_eq_true rfl⟩) [0, 1, 2, 3] rfl (by decide) (fun _ _ h => by obtain ⟨rfl, _⟩ := h; exact Nat.le_refl _) rfl rfl (Nat.le_of_ble_eq_true rfl) dc_W_freed_40 ⟨Nat.zero_le _, Nat.zero_le _⟩ (fun r w hp => ?_)
      obtain ⟨rfl, rfl⟩ := hp
      refine kw_if_eq (tgt := 49) X dc_W_freed_43 (by decide) (fun hc43 => ?_) (fun hc43 => ?_)
      · have h43 := kq_z0 hc43
        refine kw_iload_n X dc_W_freed_49 rfl rfl ?_
        exact kw_iret X hr hlk dc_W_freed_50 ⟨rfl, by unfold gm_tk; first | (rw [if_pos h12, if_neg h29, if_pos h43]; exact kq_inc 1) | (rw [if_neg h12, if_neg h29, if_pos h43]; exact kq_inc 0) | (rw [if_pos h12, if_neg h29, if_neg h43]; try rfl) | (rw [if_neg h12, if_neg h29, if_neg h43]; try rfl) | (rw [if_pos h12, if_pos h28]; try rfl) | (rw [if_neg h12, if_pos h28]; try rfl)⟩
      · have h43 := kq_z1 hc43
        refine kw_iinc X dc_W_freed_46 rfl rfl (by decide) ?_
        refine kw_iload_n X dc_W_freed_49 rfl rfl ?_
        exact kw_iret X hr hlk dc_W_freed_50 ⟨rfl, by unfold gm_tk; first | (rw [if_pos h12, if_neg h29, if_pos h43]; exact kq_inc 1) | (rw [if_neg h12, if_neg h29, if_pos h43]; exact kq_inc 0) | (rw [if_pos h12, if_neg h29, if_neg h43]; try rfl) | (rw [if_neg h12, if_neg h29, if_neg h43]; try rfl) | (rw [if_pos h12, if_pos h28]; try rfl) | (rw [if_neg h12, if_pos h28]; try rfl)⟩
set_option maxRecDepth 100000 in
set_option maxHeartbeats 4000000 in
theorem ct_holding {l : Launch} {D : va_G} {kI kB kC kL : ClassId} (w0 w1 w2 w3 n : Nat) (les oth soc : Nat → Int32) (p c0 : Nat) (lo hi : Nat → Nat) (ok : webOk lo hi n les oth soc) (hc : c0 < 8) : kw_I l mn_W_holding (gw mn_W_holding cd_W_holding 3 (some .int)) ({ frames := 1, cells := 0, slots := 0, locals := 20 } : Room) D cl_v (kt kI kB kC kL) kE [.ref w0, .int (nI p), .int (nI c0)] (wWeb kI w0 w1 w2 w3 n les oth soc) (fun r w => w = wWeb kI w0 w1 w2 w3 n les oth soc ∧ r = nI (gm_pc (p &&& gm_mk lo hi n c0))) 0 0 := by
  refine kw_ofI (cc := cd_W_holding) (maxL := 3) (ty := .int) (by decide) rfl (Nat.le_of_ble_eq_true rfl) rfl ?_
  intro pp ee s m args below meth c A X hr hlk hE hnm
  refine kw_iload_n X dc_W_holding_0 rfl rfl ?_
  refine kw_aload_n X dc_W_holding_1 rfl rfl ?_
  refine kw_get X (wc_W _) 0 rfl rfl 2 (by decide) (gq wd_35) (fun _ h => h) rfl dc_W_holding_2 ?_
  refine kw_iload_n X dc_W_holding_5 rfl rfl ?_
  refine kw_iald (v := nI (gm_mk lo hi n c0)) X 3 0 rfl rfl (kq_in hc (by omega)) (by rw [kq_cl (by omega)]; exact ok.2.2 c0 hc) dc_W_holding_6 ?_
  refine kw_iand (v := nI (p &&& gm_mk lo hi n c0)) X dc_W_holding_7 (nx_and _ _) ?_
  refine kw_callSI X kEw hE (ct_bitCount _ (kq_pmk ok.1.1 p c0)) (cw_S 1 X wd_184 wd_185 wd_18 wd_186 rfl rfl (by decide +kernel) ⟨Nat.le_of_ble_eq_true rfl, Nat.le_of_ble_eq_true rfl⟩) [] rfl (by decide) (fun _ _ _ => Nat.zero_le _) rfl rfl (Nat.le_of_ble_eq_true rfl) dc_W_holding_8 ⟨Nat.zero_le _, Nat.zero_le _⟩ (fun r w hp => ?_)
  obtain ⟨rfl, rfl⟩ := hp
  exact kw_iret X hr hlk dc_W_holding_11 ⟨rfl, rfl⟩
set_option maxRecDepth 100000 in
set_option maxHeartbeats 4000000 in
theorem ct_dropAll {l : Launch} {D : va_G} {kI kB kC kL : ClassId} (w0 w1 w2 w3 n : Nat) (les oth soc : Nat → Int32) (lo hi : Nat → Nat) : kw_V l mn_W_dropAll (gw mn_W_dropAll cd_W_dropAll 1 none) ({ frames := 1, cells := 0, slots := 0, locals := 23 } : Room) D cl_v (kt kI kB kC kL) kE [.ref w0] (wWeb kI w0 w1 w2 w3 n les oth soc) (fun w => ∃ soc2 : Nat → Int32, w = wWeb kI w0 w1 w2 w3 0 les oth soc2 ∧ webOk lo hi 0 les oth soc2) 0 0 := by
  refine kw_ofV (cc := cd_W_dropAll) (maxL := 1) (by decide) rfl (Nat.le_of_ble_eq_true rfl) rfl ?_
  intro pp ee s m args below meth c A X hr hlk hE hnm
  refine kw_aload_n X dc_W_dropAll_0 rfl rfl ?_
  refine kw_iconst (v := (nI 0)) X dc_W_dropAll_1 (by decide) ?_
  refine kw_putf (ty := .int) X (wc_W _) fy_W fk_W fn_W 0 rfl rfl 3 (by decide) (gq wd_36) (fun _ h => h) rfl (by decide +kernel) rfl rfl (Nat.le_of_ble_eq_true rfl) dc_W_dropAll_2 ?_
  refine kw_aload_n X dc_W_dropAll_5 rfl rfl ?_
  refine kw_get X (wc_W _) 0 rfl rfl 2 (by decide) (gq wd_35) (fun _ h => h) rfl dc_W_dropAll_6 ?_
  refine kw_iconst (v := (nI 0)) X dc_W_dropAll_9 (by decide) ?_
  refine kw_callSV X kEw hE (ct_fill w3 8 (nI 0) soc (by omega)) (cw_S 2 X wd_160 wd_161 wd_15 wd_162 rfl rfl (by decide +kernel) ⟨Nat.le_of_ble_eq_true rfl, Nat.le_of_ble_eq_true rfl⟩) [3] rfl (by decide) (fun _ h => by obtain ⟨g, rfl, _⟩ := h; exact Nat.le_refl _) rfl rfl (Nat.le_of_ble_eq_true rfl) dc_W_dropAll_10 ⟨Nat.zero_le _, Nat.zero_le _⟩ (fun w hp => ?_)
  obtain ⟨g, rfl, hg⟩ := hp
  exact kw_vret X hr hlk dc_W_dropAll_13 ⟨g, rfl, ⟨by omega, fun i hi => absurd hi (Nat.not_lt_zero _)⟩, fun i hi => absurd hi (Nat.not_lt_zero _), fun c hc => hg c hc⟩
set_option maxRecDepth 100000 in
set_option maxHeartbeats 4000000 in
theorem ct_join {l : Launch} {D : va_G} {kI kB kC kL : ClassId} (w0 w1 w2 w3 n : Nat) (les oth soc : Nat → Int32) (a b : Nat) (lo hi : Nat → Nat) (ok : webOk lo hi n les oth soc) (hn : n < 12) (ha : a < 8) (hb : b ≤ 8) (hab : a ≠ b) : kw_V l mn_W_join (gw mn_W_join cd_W_join 4 none) ({ frames := 1, cells := 0, slots := 0, locals := 21 } : Room) D cl_v (kt kI kB kC kL) kE [.ref w0, .int (nI a), .int (og b)] (wWeb kI w0 w1 w2 w3 n les oth soc) (fun w => ∃ les2 oth2 soc2 : Nat → Int32, w = wWeb kI w0 w1 w2 w3 (n + 1) les2 oth2 soc2 ∧ webOk (fun i => if i = n then min a b else lo i) (fun i => if i = n then max a b else hi i) (n + 1) les2 oth2 soc2) 0 0 := by
  refine kw_ofV (cc := cd_W_join) (maxL := 4) (by decide) rfl (Nat.le_of_ble_eq_true rfl) rfl ?_
  intro pp ee s m args below meth c A X hr hlk hE hnm
  refine kw_iconst (v := (nI 1)) X dc_W_join_0 (by decide) ?_
  refine kw_aload_n X dc_W_join_1 rfl rfl ?_
  refine kw_get X (wc_W _) 0 rfl rfl 3 (by decide) (gq wd_36) (fun _ h => h) rfl dc_W_join_2 ?_
  refine kw_ishl (v := nI (2 ^ n)) X dc_W_join_5 (bq_shl (by omega)) ?_
  refine kw_istore_n X dc_W_join_6 rfl (by decide) ?_
  refine kw_aload_n X dc_W_join_7 rfl rfl ?_
  refine kw_get X (wc_W _) 0 rfl rfl 2 (by decide) (gq wd_35) (fun _ h => h) rfl dc_W_join_8 ?_
  refine kw_iload_n X dc_W_join_11 rfl rfl ?_
  refine kw_dup2 X dc_W_join_12 rfl rfl ?_
  refine kw_iald (v := nI (gm_mk lo hi n a)) X 3 0 rfl rfl (kq_in ha (by omega)) (by rw [kq_cl (by omega)]; exact ok.2.2 a ha) dc_W_join_13 ?_
  refine kw_iload_n X dc_W_join_14 rfl rfl ?_
  refine kw_ior (v := nI (gm_mk lo hi n a ||| 2 ^ n)) X dc_W_join_15 (bq_or _ _) ?_
  refine kw_iast X 3 0 rfl rfl (kq_in ha (by omega)) dc_W_join_16 ?_
  refine kw_iload_n X dc_W_join_17 rfl rfl ?_
  refine kw_iconst (v := (-1)) X dc_W_join_18 (by decide) ?_
  refine kw_icmp_ne (tgt := 45) X dc_W_join_19 (by decide) (fun hc19 => ?_) (fun hc19 => ?_)
  · have h19 : b < 8 := by
      have h8 : b ≠ 8 := fun z => hc19 ((og_m1 hb).mpr z)
      omega
    refine kw_aload_n X dc_W_join_45 rfl rfl ?_
    refine kw_get X (wc_W _) 0 rfl rfl 2 (by decide) (gq wd_35) (fun _ h => h) rfl dc_W_join_46 ?_
    refine kw_iload_n X dc_W_join_49 rfl rfl ?_
    refine kw_dup2 X dc_W_join_50 rfl rfl ?_
    refine kw_iald (v := nI (gm_mk lo hi n b)) X 3 0 rfl rfl (by rw [og_lt h19]; exact kq_in h19 (by omega)) (by rw [og_lt h19, kq_cl (by omega), kq_cl (by omega), pk_un (fun z => hab z.symm)]; exact ok.2.2 b h19) dc_W_join_51 ?_
    refine kw_iload_n X dc_W_join_52 rfl rfl ?_
    refine kw_ior (v := nI (gm_mk lo hi n b ||| 2 ^ n)) X dc_W_join_53 (bq_or _ _) ?_
    refine kw_iast X 3 0 rfl rfl (by rw [og_lt h19]; exact kq_in h19 (by omega)) dc_W_join_54 ?_
    refine kw_aload_n X dc_W_join_55 rfl rfl ?_
    refine kw_get X (wc_W _) 0 rfl rfl 0 (by decide) (gq wd_33) (fun _ h => h) rfl dc_W_join_56 ?_
    refine kw_aload_n X dc_W_join_59 rfl rfl ?_
    refine kw_get X (wc_W _) 0 rfl rfl 3 (by decide) (gq wd_36) (fun _ h => h) rfl dc_W_join_60 ?_
    refine kw_iload_n X dc_W_join_63 rfl rfl ?_
    refine kw_iload_n X dc_W_join_64 rfl rfl ?_
    refine kw_mmin (v := nI (min a b)) X (gq wd_347) (gq wd_217) (gq wd_14) (gq wd_218) (Nat.le_of_ble_eq_true rfl) (Nat.le_of_ble_eq_true rfl) (Nat.zero_le _) (Nat.zero_le _) (by rw [og_lt h19]; by_cases hz : nI b < nI a; (rw [if_pos hz, Nat.min_eq_right (by have := kq_lt hz; omega)]); (rw [if_neg hz, Nat.min_eq_left (by have := kq_nlt hz; omega)])) dc_W_join_65 ?_
    refine kw_iast X 1 0 rfl rfl (kq_in hn (by omega)) dc_W_join_68 ?_
    refine kw_aload_n X dc_W_join_69 rfl rfl ?_
    refine kw_get X (wc_W _) 0 rfl rfl 1 (by decide) (gq wd_34) (fun _ h => h) rfl dc_W_join_70 ?_
    refine kw_aload_n X dc_W_join_73 rfl rfl ?_
    refine kw_get X (wc_W _) 0 rfl rfl 3 (by decide) (gq wd_36) (fun _ h => h) rfl dc_W_join_74 ?_
    refine kw_iload_n X dc_W_join_77 rfl rfl ?_
    refine kw_iload_n X dc_W_join_78 rfl rfl ?_
    refine kw_mmax (v := nI (max a b)) X (gq wd_348) (gq wd_214) (gq wd_14) (gq wd_215) (Nat.le_of_ble_eq_true rfl) (Nat.le_of_ble_eq_true rfl) (Nat.zero_le _) (Nat.zero_le _) (by rw [og_lt h19]; by_cases hz : nI a < nI b; (rw [if_pos hz, Nat.max_eq_right (by have := kq_lt hz; omega)]); (rw [if_neg hz, Nat.max_eq_left (by have := kq_nlt hz; omega)])) dc_W_join_79 ?_
    refine kw_iast X 2 0 rfl rfl (kq_in hn (by omega)) dc_W_join_82 ?_
    refine kw_aload_n X dc_W_join_83 rfl rfl ?_
    refine kw_dup X dc_W_join_84 rfl ?_
    refine kw_get X (wc_W _) 0 rfl rfl 3 (by decide) (gq wd_36) (fun _ h => h) rfl dc_W_join_85 ?_
    refine kw_iconst (v := (nI 1)) X dc_W_join_88 (by decide) ?_
    refine kw_iadd (v := nI (n + 1)) X dc_W_join_89 (nI_1 n) ?_
    refine kw_putf (ty := .int) X (wc_W _) fy_W fk_W fn_W 0 rfl rfl 3 (by decide) (gq wd_36) (fun _ h => h) rfl (by decide +kernel) rfl rfl (Nat.le_of_ble_eq_true rfl) dc_W_join_90 ?_
    first
      | exact kw_vret X hr hlk dc_W_join_93 ⟨_, _, _, rfl, webOk_j ok hn ha hb hab (fun i hi => by rw [kq_cl (by omega), pk_un (by omega)]) (by rw [kq_cl (by omega), pk_us, h19, Nat.min_eq_left (by omega)]) (fun i hi => by rw [kq_cl (by omega), pk_un (by omega)]) (by rw [kq_cl (by omega), pk_us, h19, Nat.max_eq_right (by omega)]; rfl) (fun c hc => by
          rw [kq_cl (by omega)]
          by_cases hca : c = a
          · subst hca
            rw [pk_us, if_pos (Or.inl rfl)]
          · rw [pk_un hca, if_neg (show ¬ (c = a ∨ c = b) by omega)])⟩
      | exact kw_vret X hr hlk dc_W_join_93 ⟨_, _, _, rfl, webOk_j ok hn ha hb hab (fun i hi => by rw [kq_cl (by omega), pk_un (by omega)]) (by rw [kq_cl (by omega), pk_us]) (fun i hi => by rw [kq_cl (by omega), pk_un (by omega)]) (by rw [kq_cl (by omega), pk_us, og_lt (by omega)]) (fun c hc => by
          rw [og_lt h19, kq_cl (by omega), kq_cl (by omega)]
          by_cases hcb : c = b
          · subst hcb
            rw [pk_us, if_pos (Or.inr rfl)]
          · rw [pk_un hcb]
            by_cases hca : c = a
            · subst hca
              rw [pk_us, if_pos (Or.inl rfl)]
            · rw [pk_un hca, if_neg (show ¬ (c = a ∨ c = b) by omega)])⟩
  · have h19 := (og_m1 hb).mp hc19
    refine kw_aload_n X dc_W_join_22 rfl rfl ?_
    refine kw_get X (wc_W _) 0 rfl rfl 0 (by decide) (gq wd_33) (fun _ h => h) rfl dc_W_join_23 ?_
    refine kw_aload_n X dc_W_join_26 rfl rfl ?_
    refine kw_get X (wc_W _) 0 rfl rfl 3 (by decide) (gq wd_36) (fun _ h => h) rfl dc_W_join_27 ?_
    refine kw_iload_n X dc_W_join_30 rfl rfl ?_
    refine kw_iast X 1 0 rfl rfl (kq_in hn (by omega)) dc_W_join_31 ?_
    refine kw_aload_n X dc_W_join_32 rfl rfl ?_
    refine kw_get X (wc_W _) 0 rfl rfl 1 (by decide) (gq wd_34) (fun _ h => h) rfl dc_W_join_33 ?_
    refine kw_aload_n X dc_W_join_36 rfl rfl ?_
    refine kw_get X (wc_W _) 0 rfl rfl 3 (by decide) (gq wd_36) (fun _ h => h) rfl dc_W_join_37 ?_
    refine kw_iconst (v := (-1)) X dc_W_join_40 (by decide) ?_
    refine kw_iast X 2 0 rfl rfl (kq_in hn (by omega)) dc_W_join_41 ?_
    refine kw_goto (tgt := 83) X dc_W_join_42 (by decide) ?_
    refine kw_aload_n X dc_W_join_83 rfl rfl ?_
    refine kw_dup X dc_W_join_84 rfl ?_
    refine kw_get X (wc_W _) 0 rfl rfl 3 (by decide) (gq wd_36) (fun _ h => h) rfl dc_W_join_85 ?_
    refine kw_iconst (v := (nI 1)) X dc_W_join_88 (by decide) ?_
    refine kw_iadd (v := nI (n + 1)) X dc_W_join_89 (nI_1 n) ?_
    refine kw_putf (ty := .int) X (wc_W _) fy_W fk_W fn_W 0 rfl rfl 3 (by decide) (gq wd_36) (fun _ h => h) rfl (by decide +kernel) rfl rfl (Nat.le_of_ble_eq_true rfl) dc_W_join_90 ?_
    first
      | exact kw_vret X hr hlk dc_W_join_93 ⟨_, _, _, rfl, webOk_j ok hn ha hb hab (fun i hi => by rw [kq_cl (by omega), pk_un (by omega)]) (by rw [kq_cl (by omega), pk_us, h19, Nat.min_eq_left (by omega)]) (fun i hi => by rw [kq_cl (by omega), pk_un (by omega)]) (by rw [kq_cl (by omega), pk_us, h19, Nat.max_eq_right (by omega)]; rfl) (fun c hc => by
          rw [kq_cl (by omega)]
          by_cases hca : c = a
          · subst hca
            rw [pk_us, if_pos (Or.inl rfl)]
          · rw [pk_un hca, if_neg (show ¬ (c = a ∨ c = b) by omega)])⟩
      | exact kw_vret X hr hlk dc_W_join_93 ⟨_, _, _, rfl, webOk_j ok hn ha hb hab (fun i hi => by rw [kq_cl (by omega), pk_un (by omega)]) (by rw [kq_cl (by omega), pk_us]) (fun i hi => by rw [kq_cl (by omega), pk_un (by omega)]) (by rw [kq_cl (by omega), pk_us, og_lt (by omega)]) (fun c hc => by
          rw [og_lt h19, kq_cl (by omega), kq_cl (by omega)]
          by_cases hcb : c = b
          · subst hcb
            rw [pk_us, if_pos (Or.inr rfl)]
          · rw [pk_un hcb]
            by_cases hca : c = a
            · subst hca
              rw [pk_us, if_pos (Or.inl rfl)]
            · rw [pk_un hca, if_neg (show ¬ (c = a ∨ c = b) by omega)])⟩
