set_option maxRecDepth 100000 in
set_option maxHeartbeats 4000000 in
theorem ct_count {l : Launch} {D : va_G} {kI kB kC kL : ClassId} (g0 g1 w0 w1 w2 w3 n : Nat) (La les oth soc : Nat → Int32) (L : Nat → Nat) (gok : grOk L La) : kw_I l mn_G_count (gw mn_G_count cd_G_count 3 (some .int)) ({ frames := 0, cells := 0, slots := 0, locals := 0 } : Room) D cl_v (kt kI kB kC kL) kE [.ref g0] (wGrp kI g0 g1 w0 w1 w2 w3 n La les oth soc) (fun r w => w = wGrp kI g0 g1 w0 w1 w2 w3 n La les oth soc ∧ r = nI (gm_rk L 8)) 0 0 := by
  refine kw_ofI (cc := cd_G_count) (maxL := 3) (ty := .int) (by decide) rfl (Nat.le_of_ble_eq_true rfl) rfl ?_
  intro pp ee s m args below meth c A X hr hlk hE hnm
  refine kw_iconst (v := (nI 0)) X dc_G_count_0 (by decide) ?_
  refine kw_istore_n X dc_G_count_1 rfl (by decide) ?_
  refine kw_iconst (v := (nI 0)) X dc_G_count_2 (by decide) ?_
  refine kw_istore_n X dc_G_count_3 rfl (by decide) ?_
  refine kw_loop (α := Nat) (fun k => k ≤ 8) (fun k => 8 - k) (fun _ => wGrp kI g0 g1 w0 w1 w2 w3 n La les oth soc) (fun k => [some (.ref g0), some (.int (nI (gm_rk L k))), some (.int (nI k))]) (fun _ => []) 0 (Nat.zero_le _) (fun k hk ih => ?_)
  refine kw_iload_n X dc_G_count_4 rfl rfl ?_
  refine kw_bipush (v := (nI 8)) X dc_G_count_5 (by decide) ?_
  refine kw_icmp_ge (tgt := 29) X dc_G_count_7 (by decide) (fun hc7 => ?_) (fun hc7 => ?_)
  · refine kw_iload_n X dc_G_count_29 rfl rfl ?_
    exact kw_iret X hr hlk dc_G_count_30 ⟨rfl, by have e : k = 8 := Nat.le_antisymm hk (kq_le hc7); rw [e]⟩
  · have hk8 := kq_nle hc7
    have hog := og_inj (gok.2.1 k) (show k ≤ 8 by omega)
    rw [og_lt hk8] at hog
    refine kw_aload_n X dc_G_count_10 rfl rfl ?_
    refine kw_get X (wc_G _) 0 rfl rfl 1 (by decide) (gq wd_92) (fun _ h => h) rfl dc_G_count_11 ?_
    refine kw_iload_n X dc_G_count_14 rfl rfl ?_
    refine kw_iald (v := og (L k)) X 1 0 rfl rfl (kq_in hk8 (by omega)) (by rw [kq_cl (by omega)]; exact gok.2.2 k hk8) dc_G_count_15 ?_
    refine kw_iload_n X dc_G_count_16 rfl rfl ?_
    refine kw_icmp_ne (tgt := 23) X dc_G_count_17 (by decide) (fun hc17 => ?_) (fun hc17 => ?_)
    · have h17 : ¬ L k = k := fun z => hc17 (hog.mpr z)
      refine kw_iinc (v := nI (k + 1)) X dc_G_count_23 rfl (kq_inc k) (by decide) ?_
      refine kw_goto (tgt := 4) X dc_G_count_26 (by decide) ?_
      refine kw_cv (lv' := [some (.ref g0), some (.int (nI (gm_rk L (k + 1)))), some (.int (nI (k + 1)))]) rfl (by first | (rw [show gm_rk L (k + 1) = gm_rk L k + 1 from congrArg (gm_rk L k + ·) (if_pos h17)]; rfl) | (rw [show gm_rk L (k + 1) = gm_rk L k from congrArg (gm_rk L k + ·) (if_neg h17)]; rfl)) rfl ?_
      exact ih (k + 1) (by omega) (by omega)
    · have h17 := hog.mp hc17
      refine kw_iinc (v := nI (gm_rk L k + 1)) X dc_G_count_20 rfl (kq_inc _) (by decide) ?_
      refine kw_iinc (v := nI (k + 1)) X dc_G_count_23 rfl (kq_inc k) (by decide) ?_
      refine kw_goto (tgt := 4) X dc_G_count_26 (by decide) ?_
      refine kw_cv (lv' := [some (.ref g0), some (.int (nI (gm_rk L (k + 1)))), some (.int (nI (k + 1)))]) rfl (by first | (rw [show gm_rk L (k + 1) = gm_rk L k + 1 from congrArg (gm_rk L k + ·) (if_pos h17)]; rfl) | (rw [show gm_rk L (k + 1) = gm_rk L k from congrArg (gm_rk L k + ·) (if_neg h17)]; rfl)) rfl ?_
      exact ih (k + 1) (by omega) (by omega)
set_option maxRecDepth 100000 in
set_option maxHeartbeats 4000000 in
theorem ct_leader {l : Launch} {D : va_G} {kI kB kC kL : ClassId} (g0 g1 w0 w1 w2 w3 n : Nat) (La les oth soc : Nat → Int32) (L : Nat → Nat) (gok : grOk L La) (g : Nat) (hg : g < gm_rk L 8) : kw_I l mn_G_leader (gw mn_G_leader cd_G_leader 4 (some .int)) ({ frames := 0, cells := 0, slots := 0, locals := 0 } : Room) D cl_v (kt kI kB kC kL) kE [.ref g0, .int (nI g)] (wGrp kI g0 g1 w0 w1 w2 w3 n La les oth soc) (fun r w => w = wGrp kI g0 g1 w0 w1 w2 w3 n La les oth soc ∧ ∃ c, c < 8 ∧ L c = c ∧ gm_rk L c = g ∧ r = nI c) 0 0 := by
  refine kw_ofI (cc := cd_G_leader) (maxL := 4) (ty := .int) (by decide) rfl (Nat.le_of_ble_eq_true rfl) rfl ?_
  intro pp ee s m args below meth c A X hr hlk hE hnm
  have hr8 : gm_rk L 8 ≤ 8 := gm_sum_le (fun c => by unfold gm_ldr; split <;> omega) 8
  refine kw_iconst (v := (nI 0)) X dc_G_leader_0 (by decide) ?_
  refine kw_istore_n X dc_G_leader_1 rfl (by decide) ?_
  refine kw_iconst (v := (nI 0)) X dc_G_leader_2 (by decide) ?_
  refine kw_istore_n X dc_G_leader_3 rfl (by decide) ?_
  refine kw_loop (α := Nat) (fun k => k ≤ 8 ∧ gm_rk L k ≤ g) (fun k => 8 - k) (fun _ => wGrp kI g0 g1 w0 w1 w2 w3 n La les oth soc) (fun k => [some (.ref g0), some (.int (nI g)), some (.int (nI (gm_rk L k))), some (.int (nI k))]) (fun _ => []) 0 ⟨Nat.zero_le _, Nat.zero_le _⟩ (fun k hk ih => ?_)
  refine kw_iload_n X dc_G_leader_4 rfl rfl ?_
  refine kw_bipush (v := (nI 8)) X dc_G_leader_5 (by decide) ?_
  refine kw_icmp_ge (tgt := 36) X dc_G_leader_7 (by decide) (fun hc7 => ?_) (fun hc7 => ?_)
  · have h7 : k = 8 := Nat.le_antisymm hk.1 (kq_le hc7)
    rw [h7] at hk
    exact absurd hg (by omega)
  · have hk8 := kq_nle hc7
    have hog := og_inj (gok.2.1 k) (show k ≤ 8 by omega)
    rw [og_lt hk8] at hog
    refine kw_aload_n X dc_G_leader_10 rfl rfl ?_
    refine kw_get X (wc_G _) 0 rfl rfl 1 (by decide) (gq wd_92) (fun _ h => h) rfl dc_G_leader_11 ?_
    refine kw_iload_n X dc_G_leader_14 rfl rfl ?_
    refine kw_iald (v := og (L k)) X 1 0 rfl rfl (kq_in hk8 (by omega)) (by rw [kq_cl (by omega)]; exact gok.2.2 k hk8) dc_G_leader_15 ?_
    refine kw_iload_n X dc_G_leader_16 rfl rfl ?_
    refine kw_icmp_ne (tgt := 30) X dc_G_leader_17 (by decide) (fun hc17 => ?_) (fun hc17 => ?_)
    · have h17 : ¬ L k = k := fun z => hc17 (hog.mpr z)
      refine kw_iinc (v := nI (k + 1)) X dc_G_leader_30 rfl (kq_inc k) (by decide) ?_
      refine kw_goto (tgt := 4) X dc_G_leader_33 (by decide) ?_
      refine kw_cv (lv' := [some (.ref g0), some (.int (nI g)), some (.int (nI (gm_rk L (k + 1)))), some (.int (nI (k + 1)))]) rfl (by first | (rw [show gm_rk L (k + 1) = gm_rk L k + 1 from congrArg (gm_rk L k + ·) (if_pos h17)]; rfl) | (rw [show gm_rk L (k + 1) = gm_rk L k from congrArg (gm_rk L k + ·) (if_neg h17)]; rfl)) rfl ?_
      exact ih (k + 1) ⟨by omega, by first | (rw [show gm_rk L (k + 1) = gm_rk L k + 1 from congrArg (gm_rk L k + ·) (if_pos h17)]; omega) | (rw [show gm_rk L (k + 1) = gm_rk L k from congrArg (gm_rk L k + ·) (if_neg h17)]; omega)⟩ (by omega)
    · have h17 := hog.mp hc17
      refine kw_iload_n X dc_G_leader_20 rfl rfl ?_
      refine kw_iload_n X dc_G_leader_21 rfl rfl ?_
      refine kw_icmp_ne (tgt := 27) X dc_G_leader_22 (by decide) (fun hc22 => ?_) (fun hc22 => ?_)
      · have h22 := kq_ne hc22
        refine kw_iinc (v := nI (gm_rk L k + 1)) X dc_G_leader_27 rfl (kq_inc _) (by decide) ?_
        refine kw_iinc (v := nI (k + 1)) X dc_G_leader_30 rfl (kq_inc k) (by decide) ?_
        refine kw_goto (tgt := 4) X dc_G_leader_33 (by decide) ?_
        refine kw_cv (lv' := [some (.ref g0), some (.int (nI g)), some (.int (nI (gm_rk L (k + 1)))), some (.int (nI (k + 1)))]) rfl (by first | (rw [show gm_rk L (k + 1) = gm_rk L k + 1 from congrArg (gm_rk L k + ·) (if_pos h17)]; rfl) | (rw [show gm_rk L (k + 1) = gm_rk L k from congrArg (gm_rk L k + ·) (if_neg h17)]; rfl)) rfl ?_
        exact ih (k + 1) ⟨by omega, by first | (rw [show gm_rk L (k + 1) = gm_rk L k + 1 from congrArg (gm_rk L k + ·) (if_pos h17)]; omega) | (rw [show gm_rk L (k + 1) = gm_rk L k from congrArg (gm_rk L k + ·) (if_neg h17)]; omega)⟩ (by omega)
      · have h22 := kq_eq hc22
        refine kw_iload_n X dc_G_leader_25 rfl rfl ?_
        exact kw_iret X hr hlk dc_G_leader_26 ⟨rfl, k, hk8, h17, h22, rfl⟩
def gm_cnt (L : Nat → Nat) (v k : Nat) : Nat := gm_sum (fun c => if L c = v then 1 else 0) k
set_option maxRecDepth 100000 in
set_option maxHeartbeats 4000000 in
theorem ct_length {l : Launch} {D : va_G} {kI kB kC kL : ClassId} (g0 g1 w0 w1 w2 w3 n : Nat) (La les oth soc : Nat → Int32) (L : Nat → Nat) (gok : grOk L La) (v : Nat) (hv : v < 8) : kw_I l mn_G_length (gw mn_G_length cd_G_length 4 (some .int)) ({ frames := 0, cells := 0, slots := 0, locals := 0 } : Room) D cl_v (kt kI kB kC kL) kE [.ref g0, .int (nI v)] (wGrp kI g0 g1 w0 w1 w2 w3 n La les oth soc) (fun r w => w = wGrp kI g0 g1 w0 w1 w2 w3 n La les oth soc ∧ r = nI (gm_cnt L v 8)) 0 0 := by
  refine kw_ofI (cc := cd_G_length) (maxL := 4) (ty := .int) (by decide) rfl (Nat.le_of_ble_eq_true rfl) rfl ?_
  intro pp ee s m args below meth c A X hr hlk hE hnm
  refine kw_iconst (v := (nI 0)) X dc_G_length_0 (by decide) ?_
  refine kw_istore_n X dc_G_length_1 rfl (by decide) ?_
  refine kw_iconst (v := (nI 0)) X dc_G_length_2 (by decide) ?_
  refine kw_istore_n X dc_G_length_3 rfl (by decide) ?_
  refine kw_loop (α := Nat) (fun k => k ≤ 8) (fun k => 8 - k) (fun _ => wGrp kI g0 g1 w0 w1 w2 w3 n La les oth soc) (fun k => [some (.ref g0), some (.int (nI v)), some (.int (nI (gm_cnt L v k))), some (.int (nI k))]) (fun _ => []) 0 (Nat.zero_le _) (fun k hk ih => ?_)
  refine kw_iload_n X dc_G_length_4 rfl rfl ?_
  refine kw_bipush (v := (nI 8)) X dc_G_length_5 (by decide) ?_
  refine kw_icmp_ge (tgt := 29) X dc_G_length_7 (by decide) (fun hc7 => ?_) (fun hc7 => ?_)
  · refine kw_iload_n X dc_G_length_29 rfl rfl ?_
    exact kw_iret X hr hlk dc_G_length_30 ⟨rfl, by have e : k = 8 := Nat.le_antisymm hk (kq_le hc7); rw [e]⟩
  · have hk8 := kq_nle hc7
    have hog := og_inj (gok.2.1 k) (show v ≤ 8 by omega)
    rw [og_lt hv] at hog
    refine kw_aload_n X dc_G_length_10 rfl rfl ?_
    refine kw_get X (wc_G _) 0 rfl rfl 1 (by decide) (gq wd_92) (fun _ h => h) rfl dc_G_length_11 ?_
    refine kw_iload_n X dc_G_length_14 rfl rfl ?_
    refine kw_iald (v := og (L k)) X 1 0 rfl rfl (kq_in hk8 (by omega)) (by rw [kq_cl (by omega)]; exact gok.2.2 k hk8) dc_G_length_15 ?_
    refine kw_iload_n X dc_G_length_16 rfl rfl ?_
    refine kw_icmp_ne (tgt := 23) X dc_G_length_17 (by decide) (fun hc17 => ?_) (fun hc17 => ?_)
    · have h17 : ¬ L k = v := fun z => hc17 (hog.mpr z)
      refine kw_iinc (v := nI (k + 1)) X dc_G_length_23 rfl (kq_inc k) (by decide) ?_
      refine kw_goto (tgt := 4) X dc_G_length_26 (by decide) ?_
      refine kw_cv (lv' := [some (.ref g0), some (.int (nI v)), some (.int (nI (gm_cnt L v (k + 1)))), some (.int (nI (k + 1)))]) rfl (by first | (rw [show gm_cnt L v (k + 1) = gm_cnt L v k + 1 from congrArg (gm_cnt L v k + ·) (if_pos h17)]; rfl) | (rw [show gm_cnt L v (k + 1) = gm_cnt L v k from congrArg (gm_cnt L v k + ·) (if_neg h17)]; rfl)) rfl ?_
      exact ih (k + 1) (by omega) (by omega)
    · have h17 := hog.mp hc17
      refine kw_iinc (v := nI (gm_cnt L v k + 1)) X dc_G_length_20 rfl (kq_inc _) (by decide) ?_
      refine kw_iinc (v := nI (k + 1)) X dc_G_length_23 rfl (kq_inc k) (by decide) ?_
      refine kw_goto (tgt := 4) X dc_G_length_26 (by decide) ?_
      refine kw_cv (lv' := [some (.ref g0), some (.int (nI v)), some (.int (nI (gm_cnt L v (k + 1)))), some (.int (nI (k + 1)))]) rfl (by first | (rw [show gm_cnt L v (k + 1) = gm_cnt L v k + 1 from congrArg (gm_cnt L v k + ·) (if_pos h17)]; rfl) | (rw [show gm_cnt L v (k + 1) = gm_cnt L v k from congrArg (gm_cnt L v k + ·) (if_neg h17)]; rfl)) rfl ?_
      exact ih (k + 1) (by omega) (by omega)
set_option maxRecDepth 100000 in
set_option maxHeartbeats 4000000 in
theorem ct_isLoop {l : Launch} {D : va_G} {kI kB kC kL : ClassId} (g0 g1 w0 w1 w2 w3 n : Nat) (La les oth soc : Nat → Int32) (lo hi : Nat → Nat) (ok : webOk lo hi n les oth soc) (L : Nat → Nat) (gok : grOk L La) (v : Nat) (hv : v < 8) (p : Nat) (hp : p < 4096) : kw_I l mn_G_isLoop (gw mn_G_isLoop cd_G_isLoop 6 (some .boolean)) ({ frames := 1, cells := 0, slots := 0, locals := 21 } : Room) D cl_v (kt kI kB kC kL) kE [.ref g0, .int (nI v), .int (nI p)] (wGrp kI g0 g1 w0 w1 w2 w3 n La les oth soc) (fun r w => w = wGrp kI g0 g1 w0 w1 w2 w3 n La les oth soc ∧ r = bI (gm_lp lo hi p L v n)) 0 0 := by
  refine kw_ofI (cc := cd_G_isLoop) (maxL := 6) (ty := .boolean) (by decide) rfl (Nat.le_of_ble_eq_true rfl) rfl ?_
  intro pp ee s m args below meth c A X hr hlk hE hnm
  have hn := ok.1.1
  refine kw_iconst (v := (nI 0)) X dc_G_isLoop_0 (by decide) ?_
  refine kw_istore_n X dc_G_isLoop_1 rfl (by decide) ?_
  refine kw_loop (α := Nat) (fun k => k ≤ n ∧ gm_lp lo hi p L v k = true) (fun k => n - k) (fun _ => wGrp kI g0 g1 w0 w1 w2 w3 n La les oth soc) (fun k => [some (.ref g0), some (.int (nI v)), some (.int (nI p)), some (.int (nI k)), none, none]) (fun _ => []) 0 ⟨Nat.zero_le _, rfl⟩ (fun k hk ih => ?_)
  refine kw_iload_n X dc_G_isLoop_2 rfl rfl ?_
  refine kw_aload_n X dc_G_isLoop_3 rfl rfl ?_
  refine kw_get X (wc_G _) 0 rfl rfl 0 (by decide) (gq wd_91) (fun _ h => h) rfl dc_G_isLoop_4 ?_
  refine kw_callVI X kEw hE 0 rfl rfl (ct_size w0 w1 w2 w3 n les oth soc) (cw_V 0 X wd_190 wd_191 wd_192 wd_2 wd_193 rfl rfl (by decide +kernel) ⟨Nat.le_of_ble_eq_true rfl, Nat.le_of_ble_eq_true rfl⟩) [2, 3, 4, 5] rfl (by decide) (fun _ _ h => by obtain ⟨rfl, _⟩ := h; exact Nat.le_refl _) rfl rfl (Nat.le_of_ble_eq_true rfl) dc_G_isLoop_7 ⟨Nat.zero_le _, Nat.zero_le _⟩ (fun r w hp => ?_)
  obtain ⟨rfl, rfl⟩ := hp
  refine kw_cv (ws' := wGrp kI g0 g1 w0 w1 w2 w3 n La les oth soc) rfl rfl rfl ?_
  refine kw_icmp_ge (tgt := 82) X dc_G_isLoop_10 (by decide) (fun hc10 => ?_) (fun hc10 => ?_)
  · refine kw_iconst (v := (nI 1)) X dc_G_isLoop_82 (by decide) ?_
    exact kw_zret X hr hlk rfl dc_G_isLoop_83 ⟨rfl, by have e : k = n := Nat.le_antisymm hk.1 (kq_le hc10); rw [← e, hk.2]; rfl⟩
  · have hkn := kq_nle hc10
    obtain ⟨o1, o2, o3⟩ := ok.1.2 k hkn
    obtain ⟨e1, e2⟩ := ok.2.1 k hkn
    refine kw_aload_n X dc_G_isLoop_13 rfl rfl ?_
    refine kw_aload_n X dc_G_isLoop_14 rfl rfl ?_
    refine kw_get X (wc_G _) 0 rfl rfl 0 (by decide) (gq wd_91) (fun _ h => h) rfl dc_G_isLoop_15 ?_
    refine kw_iload_n X dc_G_isLoop_18 rfl rfl ?_
    refine kw_callVI X kEw hE 0 rfl rfl (ct_lesser w0 w1 w2 w3 n les oth soc k (by omega)) (cw_V 1 X wd_197 wd_198 wd_199 wd_2 wd_200 rfl rfl (by decide +kernel) ⟨Nat.le_of_ble_eq_true rfl, Nat.le_of_ble_eq_true rfl⟩) [2, 3, 4, 5] rfl (by decide) (fun _ _ h => by obtain ⟨rfl, _⟩ := h; exact Nat.le_refl _) rfl rfl (Nat.le_of_ble_eq_true rfl) dc_G_isLoop_19 ⟨Nat.zero_le _, Nat.zero_le _⟩ (fun r w hp => ?_)
    obtain ⟨rfl, rfl⟩ := hp
    refine kw_cv (ws' := wGrp kI g0 g1 w0 w1 w2 w3 n La les oth soc) rfl rfl rfl ?_
    refine kw_top (y := og (lo k)) (by rw [e1, og_lt o1]) ?_
    refine kw_callVI X kEw hE 0 rfl rfl (ct_leaderOf g0 g1 w0 w1 w2 w3 n La les oth soc L gok (lo k) (by omega)) (cw_V 1 X wd_201 wd_203 wp_0 wd_6 wd_204 rfl rfl (by decide +kernel) ⟨Nat.le_of_ble_eq_true rfl, Nat.le_of_ble_eq_true rfl⟩) [0, 1, 2, 3, 4, 5] rfl (by decide) (fun _ _ h => by obtain ⟨rfl, _⟩ := h; exact Nat.le_refl _) rfl rfl (Nat.le_of_ble_eq_true rfl) dc_G_isLoop_22 ⟨Nat.zero_le _, Nat.zero_le _⟩ (fun r w hp => ?_)
    obtain ⟨rfl, rfl⟩ := hp
    refine kw_cv (ws' := wGrp kI g0 g1 w0 w1 w2 w3 n La les oth soc) rfl rfl rfl ?_
    refine kw_iload_n X dc_G_isLoop_25 rfl rfl ?_
    refine kw_icmp_ne2 (tgt := 33) X dc_G_isLoop_26 (by decide) (kw_matN (i9 := inferInstance) (E := 34) (a := (nI 1)) (b := (nI 0)) X dc_G_isLoop_29 (by decide) dc_G_isLoop_30 (by decide) dc_G_isLoop_33 (by decide) rfl ?_)
    refine kw_top (y := bI (decide (L (lo k) = v))) (bI_og (gok.2.1 _) hv) ?_
    refine kw_istore X dc_G_isLoop_34 (by decide) ?_
    refine kw_aload_n X dc_G_isLoop_36 rfl rfl ?_
    refine kw_aload_n X dc_G_isLoop_37 rfl rfl ?_
    refine kw_get X (wc_G _) 0 rfl rfl 0 (by decide) (gq wd_91) (fun _ h => h) rfl dc_G_isLoop_38 ?_
    refine kw_iload_n X dc_G_isLoop_41 rfl rfl ?_
    refine kw_callVI X kEw hE 0 rfl rfl (ct_other w0 w1 w2 w3 n les oth soc k (by omega)) (cw_V 1 X wd_205 wd_206 wd_207 wd_2 wd_208 rfl rfl (by decide +kernel) ⟨Nat.le_of_ble_eq_true rfl, Nat.le_of_ble_eq_true rfl⟩) [2, 3, 4, 5] rfl (by decide) (fun _ _ h => by obtain ⟨rfl, _⟩ := h; exact Nat.le_refl _) rfl rfl (Nat.le_of_ble_eq_true rfl) dc_G_isLoop_42 ⟨Nat.zero_le _, Nat.zero_le _⟩ (fun r w hp => ?_)
    obtain ⟨rfl, rfl⟩ := hp
    refine kw_cv (ws' := wGrp kI g0 g1 w0 w1 w2 w3 n La les oth soc) rfl rfl rfl ?_
    refine kw_top (y := og (hi k)) e2 ?_
    refine kw_callVI X kEw hE 0 rfl rfl (ct_leaderOf g0 g1 w0 w1 w2 w3 n La les oth soc L gok (hi k) (by omega)) (cw_V 1 X wd_201 wd_203 wp_0 wd_6 wd_204 rfl rfl (by decide +kernel) ⟨Nat.le_of_ble_eq_true rfl, Nat.le_of_ble_eq_true rfl⟩) [0, 1, 2, 3, 4, 5] rfl (by decide) (fun _ _ h => by obtain ⟨rfl, _⟩ := h; exact Nat.le_refl _) rfl rfl (Nat.le_of_ble_eq_true rfl) dc_G_isLoop_45 ⟨Nat.zero_le _, Nat.zero_le _⟩ (fun r w hp => ?_)
    obtain ⟨rfl, rfl⟩ := hp
    refine kw_cv (ws' := wGrp kI g0 g1 w0 w1 w2 w3 n La les oth soc) rfl rfl rfl ?_
    refine kw_iload_n X dc_G_isLoop_48 rfl rfl ?_
    refine kw_icmp_ne2 (tgt := 56) X dc_G_isLoop_49 (by decide) (kw_matN (i9 := inferInstance) (E := 57) (a := (nI 1)) (b := (nI 0)) X dc_G_isLoop_52 (by decide) dc_G_isLoop_53 (by decide) dc_G_isLoop_56 (by decide) rfl ?_)
    refine kw_top (y := bI (decide (L (hi k) = v))) (bI_og (gok.2.1 _) hv) ?_
    refine kw_istore X dc_G_isLoop_57 (by decide) ?_
    refine kw_iload_n X dc_G_isLoop_59 rfl rfl ?_
    refine kw_iload_n X dc_G_isLoop_60 rfl rfl ?_
    refine kw_callSNI X kEw hE (ct_hasN p k (by omega) (by omega)) (cw_SN (host := "CoinStrings") 2 X (hE _ (by decide +kernel)) wd_195 wd_1 wd_196 rfl rfl (by decide +kernel) ⟨Nat.le_of_ble_eq_true rfl, Nat.le_of_ble_eq_true rfl⟩) [] rfl (by decide) (fun _ _ _ => Nat.zero_le _) rfl rfl (Nat.le_of_ble_eq_true rfl) dc_G_isLoop_61 ⟨Nat.zero_le _, Nat.zero_le _⟩ (fun r w hp => ?_)
    obtain ⟨rfl, rfl⟩ := hp
    refine kw_cv (ws' := wGrp kI g0 g1 w0 w1 w2 w3 n La les oth soc) rfl rfl rfl ?_
    refine kw_if_eq (tgt := 76) X dc_G_isLoop_64 (by decide) (fun hc64 => ?_) (fun hc64 => ?_)
    · have h64 := kq_z0 hc64
      refine kw_iinc (v := nI (k + 1)) X dc_G_isLoop_76 rfl (kq_inc k) (by decide) ?_
      refine kw_goto (tgt := 2) X dc_G_isLoop_79 (by decide) ?_
      refine kw_kill 4 ?_
      refine kw_kill 5 ?_
      exact ih (k + 1) ⟨by omega, by unfold gm_lp; rw [hk.2]; first | (rw [h71]; simp) | (rw [show p.testBit k = false by simpa using h64]; rfl)⟩ (by omega)
    · have h64 := kq_z1 hc64
      refine kw_iload X dc_G_isLoop_67 rfl ?_
      refine kw_iload X dc_G_isLoop_69 rfl ?_
      refine kw_icmp_eq (tgt := 76) X dc_G_isLoop_71 (by decide) (fun hc71 => ?_) (fun hc71 => ?_)
      · have h71 := bI_inj.mp hc71
        refine kw_iinc (v := nI (k + 1)) X dc_G_isLoop_76 rfl (kq_inc k) (by decide) ?_
        refine kw_goto (tgt := 2) X dc_G_isLoop_79 (by decide) ?_
        refine kw_kill 4 ?_
        refine kw_kill 5 ?_
        exact ih (k + 1) ⟨by omega, by unfold gm_lp; rw [hk.2]; first | (rw [h71]; simp) | (rw [show p.testBit k = false by simpa using h64]; rfl)⟩ (by omega)
      · have h71 : (decide (L (lo k) = v) == decide (L (hi k) = v)) = false := by
          cases hq : (decide (L (lo k) = v) == decide (L (hi k) = v)) with
          | false => rfl
          | true => exact absurd (bI_inj.mpr hq) hc71
        refine kw_iconst (v := (nI 0)) X dc_G_isLoop_74 (by decide) ?_
        exact kw_zret X hr hlk rfl dc_G_isLoop_75 ⟨rfl, by rw [gm_lp_no n hkn h64 h71]; rfl⟩
