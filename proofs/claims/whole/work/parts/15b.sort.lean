set_option maxRecDepth 100000 in
set_option maxHeartbeats 4000000 in
theorem ct_sort {l : Launch} {D : va_G} {kI kB kC kL : ClassId} (g0 g1 w0 w1 w2 w3 n : Nat) (La les oth soc : Nat → Int32) (lo hi : Nat → Nat) (ok : webOk lo hi n les oth soc) (p : Nat) (hp : p < 4096) : kw_V l mn_G_sort (gw mn_G_sort cd_G_sort 3 none) ({ frames := 2, cells := 0, slots := 0, locals := 44 } : Room) D cl_v (kt kI kB kC kL) kE [.ref g0, .int (nI p)] (wGrp kI g0 g1 w0 w1 w2 w3 n La les oth soc) (fun w => ∃ L2 : Nat → Int32, w = wGrp kI g0 g1 w0 w1 w2 w3 n L2 les oth soc ∧ grOk (gm_L lo hi n p n) L2) 0 0 := by
  refine kw_ofV (cc := cd_G_sort) (maxL := 3) (by decide) rfl (Nat.le_of_ble_eq_true rfl) rfl ?_
  intro pp ee s m args below meth c A X hr hlk hE hnm
  have hn := ok.1.1
  refine kw_iconst (v := (nI 0)) X dc_G_sort_0 (by decide) ?_
  refine kw_istore_n X dc_G_sort_1 rfl (by decide) ?_
  refine kw_loop (α := Nat) (fun k => k ≤ 8) (fun k => 8 - k) (fun k => wGrp kI g0 g1 w0 w1 w2 w3 n (kq_pre (fun c => og (gm_L0 lo hi n p c)) La k) les oth soc) (fun k => [some (.ref g0), some (.int (nI p)), some (.int (nI k))]) (fun _ => []) 0 (Nat.zero_le _) (fun k hk ih => ?_)
  refine kw_iload_n X dc_G_sort_2 rfl rfl ?_
  refine kw_bipush (v := (nI 8)) X dc_G_sort_3 (by decide) ?_
  refine kw_icmp_ge (tgt := 38) X dc_G_sort_5 (by decide) (fun hc5 => ?_) (fun hc5 => ?_)
  · refine kw_iconst (v := (nI 0)) X dc_G_sort_38 (by decide) ?_
    refine kw_istore_n X dc_G_sort_39 rfl (by decide) ?_
    have hk9 : k = 8 := Nat.le_antisymm hk (kq_le hc5)
    have hL0 : ∀ c, c < 8 → (kq_pre (fun c => og (gm_L0 lo hi n p c)) La k) c = og (gm_L lo hi n p 0 c) := fun c hc => kq_pre_lt (by omega)
    refine kw_loop (α := Nat × (Nat → Int32)) (fun a => a.1 ≤ n ∧ grOk (gm_L lo hi n p a.1) a.2) (fun a => n - a.1) (fun a => wGrp kI g0 g1 w0 w1 w2 w3 n a.2 les oth soc) (fun a => [some (.ref g0), some (.int (nI p)), some (.int (nI a.1))]) (fun _ => []) (0, kq_pre (fun c => og (gm_L0 lo hi n p c)) La k) ⟨Nat.zero_le _, (gm_L_8 lo hi n p 0).1, (gm_L_8 lo hi n p 0).2, hL0⟩ (fun a hI ih2 => ?_)
    obtain ⟨i, Lb⟩ := a
    obtain ⟨hi9, gok⟩ := hI
    refine kw_iload_n X dc_G_sort_40 rfl rfl ?_
    refine kw_aload_n X dc_G_sort_41 rfl rfl ?_
    refine kw_get X (wc_G _) 0 rfl rfl 0 (by decide) (gq wd_91) (fun _ h => h) rfl dc_G_sort_42 ?_
    refine kw_callVI X kEw hE 0 rfl rfl (ct_size w0 w1 w2 w3 n les oth soc) (cw_V 0 X wd_190 wd_191 wd_192 wd_2 wd_193 rfl rfl (by decide +kernel) ⟨Nat.le_of_ble_eq_true rfl, Nat.le_of_ble_eq_true rfl⟩) [2, 3, 4, 5] rfl (by decide) (fun _ _ h => by obtain ⟨rfl, _⟩ := h; exact Nat.le_refl _) rfl rfl (Nat.le_of_ble_eq_true rfl) dc_G_sort_45 ⟨Nat.zero_le _, Nat.zero_le _⟩ (fun r w hp => ?_)
    obtain ⟨rfl, rfl⟩ := hp
    refine kw_cv (ws' := wGrp kI g0 g1 w0 w1 w2 w3 n Lb les oth soc) rfl rfl rfl ?_
    refine kw_icmp_ge (tgt := 93) X dc_G_sort_48 (by decide) (fun hc48 => ?_) (fun hc48 => ?_)
    · exact kw_vret X hr hlk dc_G_sort_93 ⟨Lb, rfl, by have e9 : i = n := Nat.le_antisymm hi9 (kq_le hc48); have g9 : gm_L lo hi n p n = gm_L lo hi n p i := (by rw [e9]); rw [g9]; exact gok⟩
    · have hin : i < n := kq_nle hc48
      obtain ⟨o1, o2, o3⟩ := ok.1.2 i hin
      obtain ⟨e1, e2⟩ := ok.2.1 i hin
      refine kw_iload_n X dc_G_sort_51 rfl rfl ?_
      refine kw_iload_n X dc_G_sort_52 rfl rfl ?_
      refine kw_callSNI X kEw hE (ct_hasN p i (by omega) (by omega)) (cw_SN (host := "CoinStrings") 2 X (hE _ (by decide +kernel)) wd_195 wd_1 wd_196 rfl rfl (by decide +kernel) ⟨Nat.le_of_ble_eq_true rfl, Nat.le_of_ble_eq_true rfl⟩) [] rfl (by decide) (fun _ _ _ => Nat.zero_le _) rfl rfl (Nat.le_of_ble_eq_true rfl) dc_G_sort_53 ⟨Nat.zero_le _, Nat.zero_le _⟩ (fun r w hp => ?_)
      obtain ⟨rfl, rfl⟩ := hp
      refine kw_cv (ws' := wGrp kI g0 g1 w0 w1 w2 w3 n Lb les oth soc) rfl rfl rfl ?_
      refine kw_if_eq (tgt := 87) X dc_G_sort_56 (by decide) (fun hc56 => ?_) (fun hc56 => ?_)
      · have h56 := kq_z0 hc56
        have gok3 : grOk (gm_L lo hi n p (i + 1)) Lb := by
          rw [gm_L_skip h56]
          exact gok
        refine kw_iinc (v := nI (i + 1)) X dc_G_sort_87 rfl (kq_inc i) (by decide) ?_
        refine kw_goto (tgt := 40) X dc_G_sort_90 (by decide) ?_
        first | exact ih2 (i + 1, L2) ⟨hin, gok2⟩ (by show n - (i + 1) < n - i; omega) | exact ih2 (i + 1, Lb) ⟨hin, gok3⟩ (by show n - (i + 1) < n - i; omega)
      · have h56 := kq_z1 hc56
        refine kw_aload_n X dc_G_sort_59 rfl rfl ?_
        refine kw_aload_n X dc_G_sort_60 rfl rfl ?_
        refine kw_aload_n X dc_G_sort_61 rfl rfl ?_
        refine kw_get X (wc_G _) 0 rfl rfl 0 (by decide) (gq wd_91) (fun _ h => h) rfl dc_G_sort_62 ?_
        refine kw_iload_n X dc_G_sort_65 rfl rfl ?_
        refine kw_callVI X kEw hE 0 rfl rfl (ct_lesser w0 w1 w2 w3 n les oth soc i (by omega)) (cw_V 1 X wd_197 wd_198 wd_199 wd_2 wd_200 rfl rfl (by decide +kernel) ⟨Nat.le_of_ble_eq_true rfl, Nat.le_of_ble_eq_true rfl⟩) [2, 3, 4, 5] rfl (by decide) (fun _ _ h => by obtain ⟨rfl, _⟩ := h; exact Nat.le_refl _) rfl rfl (Nat.le_of_ble_eq_true rfl) dc_G_sort_66 ⟨Nat.zero_le _, Nat.zero_le _⟩ (fun r w hp => ?_)
        obtain ⟨rfl, rfl⟩ := hp
        refine kw_cv (ws' := wGrp kI g0 g1 w0 w1 w2 w3 n Lb les oth soc) rfl rfl rfl ?_
        refine kw_top (y := og (lo i)) (by rw [e1, og_lt o1]) ?_
        refine kw_callVI X kEw hE 0 rfl rfl (ct_leaderOf g0 g1 w0 w1 w2 w3 n Lb les oth soc (gm_L lo hi n p i) gok (lo i) (by omega)) (cw_V 1 X wd_201 wd_203 wp_0 wd_6 wd_204 rfl rfl (by decide +kernel) ⟨Nat.le_of_ble_eq_true rfl, Nat.le_of_ble_eq_true rfl⟩) [0, 1, 2, 3, 4, 5] rfl (by decide) (fun _ _ h => by obtain ⟨rfl, _⟩ := h; exact Nat.le_refl _) rfl rfl (Nat.le_of_ble_eq_true rfl) dc_G_sort_69 ⟨Nat.zero_le _, Nat.zero_le _⟩ (fun r w hp => ?_)
        obtain ⟨rfl, rfl⟩ := hp
        refine kw_cv (ws' := wGrp kI g0 g1 w0 w1 w2 w3 n Lb les oth soc) rfl rfl rfl ?_
        refine kw_aload_n X dc_G_sort_72 rfl rfl ?_
        refine kw_aload_n X dc_G_sort_73 rfl rfl ?_
        refine kw_get X (wc_G _) 0 rfl rfl 0 (by decide) (gq wd_91) (fun _ h => h) rfl dc_G_sort_74 ?_
        refine kw_iload_n X dc_G_sort_77 rfl rfl ?_
        refine kw_callVI X kEw hE 0 rfl rfl (ct_other w0 w1 w2 w3 n les oth soc i (by omega)) (cw_V 1 X wd_205 wd_206 wd_207 wd_2 wd_208 rfl rfl (by decide +kernel) ⟨Nat.le_of_ble_eq_true rfl, Nat.le_of_ble_eq_true rfl⟩) [2, 3, 4, 5] rfl (by decide) (fun _ _ h => by obtain ⟨rfl, _⟩ := h; exact Nat.le_refl _) rfl rfl (Nat.le_of_ble_eq_true rfl) dc_G_sort_78 ⟨Nat.zero_le _, Nat.zero_le _⟩ (fun r w hp => ?_)
        obtain ⟨rfl, rfl⟩ := hp
        refine kw_cv (ws' := wGrp kI g0 g1 w0 w1 w2 w3 n Lb les oth soc) rfl rfl rfl ?_
        refine kw_top (y := og (hi i)) e2 ?_
        refine kw_callVI X kEw hE 0 rfl rfl (ct_leaderOf g0 g1 w0 w1 w2 w3 n Lb les oth soc (gm_L lo hi n p i) gok (hi i) (by omega)) (cw_V 1 X wd_201 wd_203 wp_0 wd_6 wd_204 rfl rfl (by decide +kernel) ⟨Nat.le_of_ble_eq_true rfl, Nat.le_of_ble_eq_true rfl⟩) [0, 1, 2, 3, 4, 5] rfl (by decide) (fun _ _ h => by obtain ⟨rfl, _⟩ := h; exact Nat.le_refl _) rfl rfl (Nat.le_of_ble_eq_true rfl) dc_G_sort_81 ⟨Nat.zero_le _, Nat.zero_le _⟩ (fun r w hp => ?_)
        obtain ⟨rfl, rfl⟩ := hp
        refine kw_cv (ws' := wGrp kI g0 g1 w0 w1 w2 w3 n Lb les oth soc) rfl rfl rfl ?_
        refine kw_callVV X kEw hE 0 rfl rfl (ct_unite g0 g1 w0 w1 w2 w3 n Lb les oth soc (gm_L lo hi n p i) gok (gm_L lo hi n p i (lo i)) (gm_L lo hi n p i (hi i)) (gok.2.1 _) (gok.2.1 _)) (cw_V 2 X wd_209 wd_211 wp_1 wd_6 wd_212 rfl rfl (by decide +kernel) ⟨Nat.le_of_ble_eq_true rfl, Nat.le_of_ble_eq_true rfl⟩) [0, 1, 2, 3, 4, 5] rfl (by decide) (fun _ h => by obtain ⟨g, rfl, _⟩ := h; exact Nat.le_refl _) rfl rfl (Nat.le_of_ble_eq_true rfl) dc_G_sort_84 ⟨Nat.zero_le _, Nat.zero_le _⟩ (fun w hp => ?_)
        obtain ⟨L2, rfl, gok1⟩ := hp
        refine kw_cv (ws' := wGrp kI g0 g1 w0 w1 w2 w3 n L2 les oth soc) rfl rfl rfl ?_
        have gok2 : grOk (gm_L lo hi n p (i + 1)) L2 := by
          rw [gm_L_step h56]
          exact gok1
        refine kw_iinc (v := nI (i + 1)) X dc_G_sort_87 rfl (kq_inc i) (by decide) ?_
        refine kw_goto (tgt := 40) X dc_G_sort_90 (by decide) ?_
        first | exact ih2 (i + 1, L2) ⟨hin, gok2⟩ (by show n - (i + 1) < n - i; omega) | exact ih2 (i + 1, Lb) ⟨hin, gok3⟩ (by show n - (i + 1) < n - i; omega)
  · have hk8 := kq_nle hc5
    have hL1 : gm_pc (p &&& gm_mk lo hi n k) = 2 → nI k = og (gm_L0 lo hi n p k) := fun z => by
      unfold gm_L0
      rw [if_pos hk8, if_pos z, og_lt hk8]
    have hL2 : ¬ gm_pc (p &&& gm_mk lo hi n k) = 2 → (-1 : Int32) = og (gm_L0 lo hi n p k) := fun z => by
      unfold gm_L0
      rw [if_pos hk8, if_neg z]
      rfl
    have hpc := gm_pc_le (p &&& gm_mk lo hi n k)
    refine kw_aload_n X dc_G_sort_8 rfl rfl ?_
    refine kw_get X (wc_G _) 0 rfl rfl 1 (by decide) (gq wd_92) (fun _ h => h) rfl dc_G_sort_9 ?_
    refine kw_iload_n X dc_G_sort_12 rfl rfl ?_
    refine kw_aload_n X dc_G_sort_13 rfl rfl ?_
    refine kw_get X (wc_G _) 0 rfl rfl 0 (by decide) (gq wd_91) (fun _ h => h) rfl dc_G_sort_14 ?_
    refine kw_iload_n X dc_G_sort_17 rfl rfl ?_
    refine kw_iload_n X dc_G_sort_18 rfl rfl ?_
    refine kw_callVI X kEw hE 0 rfl rfl (ct_holding w0 w1 w2 w3 n les oth soc p k lo hi ok hk8) (cw_V 2 X wd_180 wd_181 wd_182 wd_2 wd_183 rfl rfl (by decide +kernel) ⟨Nat.le_of_ble_eq_true rfl, Nat.le_of_ble_eq_true rfl⟩) [2, 3, 4, 5] rfl (by decide) (fun _ _ h => by obtain ⟨rfl, _⟩ := h; exact Nat.le_refl _) rfl rfl (Nat.le_of_ble_eq_true rfl) dc_G_sort_19 ⟨Nat.zero_le _, Nat.zero_le _⟩ (fun r w hp => ?_)
    obtain ⟨rfl, rfl⟩ := hp
    refine kw_cv (ws' := wGrp kI g0 g1 w0 w1 w2 w3 n (kq_pre (fun c => og (gm_L0 lo hi n p c)) La k) les oth soc) rfl rfl rfl ?_
    refine kw_iconst (v := (nI 2)) X dc_G_sort_22 (by decide) ?_
    refine kw_icmp_ne (tgt := 30) X dc_G_sort_23 (by decide) (fun hc23 => ?_) (fun hc23 => ?_)
    · have h23 := kq_ne hc23
      refine kw_iconst (v := (-1)) X dc_G_sort_30 (by decide) ?_
      refine kw_top (y := og (gm_L0 lo hi n p k)) (by first | exact hL1 h23 | exact hL2 h23) ?_
      refine kw_iast X 1 0 rfl rfl (kq_in hk8 (by omega)) dc_G_sort_31 ?_
      refine kw_iinc (v := nI (k + 1)) X dc_G_sort_32 rfl (kq_inc k) (by decide) ?_
      refine kw_goto (tgt := 2) X dc_G_sort_35 (by decide) ?_
      refine kw_cv (ws' := wGrp kI g0 g1 w0 w1 w2 w3 n (kq_pre (fun c => og (gm_L0 lo hi n p c)) La (k + 1)) les oth soc) (by
        show wGrp kI g0 g1 w0 w1 w2 w3 n (upd (kq_pre (fun c => og (gm_L0 lo hi n p c)) La k) (nI k).toNatClampNeg (og (gm_L0 lo hi n p k))) les oth soc = _
        rw [kq_cl (by omega), kq_pre_upd rfl]) rfl rfl ?_
      exact ih (k + 1) (by omega) (by omega)
    · have h23 := kq_eq hc23
      refine kw_iload_n X dc_G_sort_26 rfl rfl ?_
      refine kw_goto (tgt := 31) X dc_G_sort_27 (by decide) ?_
      refine kw_top (y := og (gm_L0 lo hi n p k)) (by first | exact hL1 h23 | exact hL2 h23) ?_
      refine kw_iast X 1 0 rfl rfl (kq_in hk8 (by omega)) dc_G_sort_31 ?_
      refine kw_iinc (v := nI (k + 1)) X dc_G_sort_32 rfl (kq_inc k) (by decide) ?_
      refine kw_goto (tgt := 2) X dc_G_sort_35 (by decide) ?_
      refine kw_cv (ws' := wGrp kI g0 g1 w0 w1 w2 w3 n (kq_pre (fun c => og (gm_L0 lo hi n p c)) La (k + 1)) les oth soc) (by
        show wGrp kI g0 g1 w0 w1 w2 w3 n (upd (kq_pre (fun c => og (gm_L0 lo hi n p c)) La k) (nI k).toNatClampNeg (og (gm_L0 lo hi n p k))) les oth soc = _
        rw [kq_cl (by omega), kq_pre_upd rfl]) rfl rfl ?_
      exact ih (k + 1) (by omega) (by omega)
