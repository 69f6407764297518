set_option maxRecDepth 100000 in
set_option maxHeartbeats 4000000 in
theorem ct_CbeginT {l : Launch} {D : va_G} {kI kB kC kL : ClassId} (ad : Nat → Nat) (n : Nat) (lo hi : Nat → Nat) (T : List Nat) (w0 : va_W) (h : csP kI kB kC ad n lo hi false [] T w0) (hz : n ≠ 0) : kw_V l mn_C_begin (gw mn_C_begin cd_C_begin 1 none) ({ frames := 1, cells := 0, slots := 0, locals := 20 } : Room) D cl_v (kt kI kB kC kL) kE [.ref (ad 0)] (w0) (fun w => csP kI kB kC ad n lo hi true [] T w) 0 0 := by
  obtain ⟨les, oth, soc, rM, fM, rN, fN, La, ch, cst, ct, tk, rfl, zv, zb, ok, hX, ⟨k0, k1⟩, hC, hM⟩ := h
  refine kw_ofV (cc := cd_C_begin) (maxL := 1) (by decide) rfl (Nat.le_of_ble_eq_true rfl) rfl ?_
  intro pp ee s m args below meth c A X hr hlk hE hnm
  have hn := ok.1.1
  refine kw_cv (ws' := wCS kI kB kC ad n les oth soc rM fM rN fN La T.length ch cst ct tk 0 (2 ^ n - 1) 0 false) rfl rfl rfl ?_
  refine kw_aload_n X dc_C_begin_0 rfl rfl ?_
  refine kw_get X (wc_C _) 0 rfl rfl 11 (by decide) (gq wd_126) (fun _ h => h) rfl dc_C_begin_1 ?_
  refine kw_if_ne (tgt := 17) X dc_C_begin_4 (by decide) (fun hc4 => ?_) (fun hc4 => ?_)
  · exact absurd rfl hc4
  · refine kw_aload_n X dc_C_begin_7 rfl rfl ?_
    refine kw_get X (wc_C _) 0 rfl rfl 0 (by decide) (gq wd_115) (fun _ h => h) rfl dc_C_begin_8 ?_
    refine kw_callVI X kEw hE 0 rfl rfl (ct_size (ad 1) (ad 2) (ad 3) (ad 4) n les oth soc) (cw_V 0 X wd_327 wd_191 wd_192 wd_2 wd_193 rfl rfl (by decide +kernel) ⟨Nat.le_of_ble_eq_true rfl, Nat.le_of_ble_eq_true rfl⟩) [1, 2, 3, 4] rfl (by decide) (fun _ _ h => by obtain ⟨rfl, _⟩ := h; exact Nat.le_refl _) rfl rfl (Nat.le_of_ble_eq_true rfl) dc_C_begin_11 ⟨Nat.zero_le _, Nat.zero_le _⟩ (fun r w hp => ?_)
    obtain ⟨rfl, rfl⟩ := hp
    refine kw_cv (ws' := wCS kI kB kC ad n les oth soc rM fM rN fN La T.length ch cst ct tk 0 (2 ^ n - 1) 0 false) rfl rfl rfl ?_
    refine kw_if_ne (tgt := 25) X dc_C_begin_14 (by decide) (fun hc14 => ?_) (fun hc14 => ?_)
    · refine kw_aload_n X dc_C_begin_25 rfl rfl ?_
      refine kw_iconst (v := (nI 1)) X dc_C_begin_26 (by decide) ?_
      refine kw_putf (ty := .boolean) X (wc_C _) fy_C fk_C fn_C 0 rfl rfl 11 (by decide) (gq wd_126) (fun _ h => h) rfl (by decide +kernel) rfl rfl (Nat.le_of_ble_eq_true rfl) dc_C_begin_27 ?_
      refine kw_aload_n X dc_C_begin_30 rfl rfl ?_
      refine kw_get X (wc_C _) 0 rfl rfl 1 (by decide) (gq wd_116) (fun _ h => h) rfl dc_C_begin_31 ?_
      refine kw_callUV X kEw hE 0 rfl rfl (ct_forgetM (ad 5) (ad 6) (ad 1) rM) (cw_U 0 X wd_375 wd_376 wd_378 wd_379 wd_3 wd_380 rfl rfl rfl (by decide +kernel) ⟨Nat.le_of_ble_eq_true rfl, Nat.le_of_ble_eq_true rfl⟩) [5] rfl (by decide) (fun _ h => by subst h; exact Nat.le_refl _) rfl rfl (Nat.le_of_ble_eq_true rfl) dc_C_begin_34 ⟨Nat.zero_le _, Nat.zero_le _⟩ (fun w hp => ?_)
      subst hp
      refine kw_cv (ws' := wCS kI kB kC ad n les oth soc (nI 0) fM rN fN La T.length ch cst ct tk 0 (2 ^ n - 1) 0 true) rfl rfl rfl ?_
      refine kw_aload_n X dc_C_begin_37 rfl rfl ?_
      refine kw_get X (wc_C _) 0 rfl rfl 2 (by decide) (gq wd_117) (fun _ h => h) rfl dc_C_begin_38 ?_
      refine kw_callUV X kEw hE 0 rfl rfl (ct_forgetN (ad 7) (ad 8) (ad 1) rN) (cw_U 0 X wd_381 wd_382 wd_383 wd_379 wd_3 wd_380 rfl rfl rfl (by decide +kernel) ⟨Nat.le_of_ble_eq_true rfl, Nat.le_of_ble_eq_true rfl⟩) [7] rfl (by decide) (fun _ h => by subst h; exact Nat.le_refl _) rfl rfl (Nat.le_of_ble_eq_true rfl) dc_C_begin_41 ⟨Nat.zero_le _, Nat.zero_le _⟩ (fun w hp => ?_)
      subst hp
      refine kw_cv (ws' := wCS kI kB kC ad n les oth soc (nI 0) fM (nI 0) fN La T.length ch cst ct tk 0 (2 ^ n - 1) 0 true) rfl rfl rfl ?_
      exact kw_vret X hr hlk dc_C_begin_44 ⟨les, oth, soc, (nI 0), fM, (nI 0), fN, La, ch, cst, ct, tk, rfl, zv, (fun z => by cases z), ok, hX, ⟨k0, k1⟩, hC, (fun _ => ⟨Or.inr rfl, Or.inr rfl⟩)⟩
    · exact absurd (kq_eq (b := 0) hc14) hz
set_option maxRecDepth 100000 in
set_option maxHeartbeats 4000000 in
theorem ct_Cclear {l : Launch} {D : va_G} {kI kB kC kL : ClassId} (ad : Nat → Nat) (n : Nat) (lo hi : Nat → Nat) (bg : Bool) (cs T : List Nat) (w0 : va_W) (h : csP kI kB kC ad n lo hi bg cs T w0)  : kw_V l mn_C_clear (gw mn_C_clear cd_C_clear 1 none) ({ frames := 2, cells := 0, slots := 0, locals := 43 } : Room) D cl_v (kt kI kB kC kL) kE [.ref (ad 0)] (w0) (fun w => csP kI kB kC ad 0 lo hi false [] T w) 0 0 := by
  obtain ⟨les, oth, soc, rM, fM, rN, fN, La, ch, cst, ct, tk, rfl, zv, zb, ok, hX, ⟨k0, k1⟩, hC, hM⟩ := h
  refine kw_ofV (cc := cd_C_clear) (maxL := 1) (by decide) rfl (Nat.le_of_ble_eq_true rfl) rfl ?_
  intro pp ee s m args below meth c A X hr hlk hE hnm
  refine kw_aload_n X dc_C_clear_0 rfl rfl ?_
  refine kw_get X (wc_C _) 0 rfl rfl 0 (by decide) (gq wd_115) (fun _ h => h) rfl dc_C_clear_1 ?_
  refine kw_callVV X kEw hE 0 rfl rfl (ct_dropAll (ad 1) (ad 2) (ad 3) (ad 4) n les oth soc lo hi) (cw_V 0 X wd_156 wd_157 wd_158 wd_2 wd_159 rfl rfl (by decide +kernel) ⟨Nat.le_of_ble_eq_true rfl, Nat.le_of_ble_eq_true rfl⟩) [1, 2, 3, 4] rfl (by decide) (fun _ h => by obtain ⟨g, rfl, _⟩ := h; exact Nat.le_refl _) rfl rfl (Nat.le_of_ble_eq_true rfl) dc_C_clear_4 ⟨Nat.zero_le _, Nat.zero_le _⟩ (fun w hp => ?_)
  obtain ⟨soc2, rfl, ok2⟩ := hp
  refine kw_cv (ws' := wCS kI kB kC ad 0 les oth soc2 rM fM rN fN La T.length ch cst ct tk cs.length (gm_run lo hi n cs).1 (gm_run lo hi n cs).2.1 bg) rfl rfl rfl ?_
  refine kw_aload_n X dc_C_clear_7 rfl rfl ?_
  refine kw_get X (wc_C _) 0 rfl rfl 7 (by decide) (gq wd_122) (fun _ h => h) rfl dc_C_clear_8 ?_
  refine kw_iconst (v := (nI 0)) X dc_C_clear_11 (by decide) ?_
  refine kw_callSV X kEw hE (ct_fill (ad 15) 2 (nI 0) tk (by decide)) (cw_S 2 X wd_163 wd_161 wd_15 wd_162 rfl rfl (by decide +kernel) ⟨Nat.le_of_ble_eq_true rfl, Nat.le_of_ble_eq_true rfl⟩) [15] rfl (by decide) (fun _ h => by obtain ⟨g, rfl, _⟩ := h; exact Nat.le_refl _) rfl rfl (Nat.le_of_ble_eq_true rfl) dc_C_clear_12 ⟨Nat.zero_le _, Nat.zero_le _⟩ (fun w hp => ?_)
  obtain ⟨tk2, rfl, ht2⟩ := hp
  refine kw_cv (ws' := wCS kI kB kC ad 0 les oth soc2 rM fM rN fN La T.length ch cst ct tk2 cs.length (gm_run lo hi n cs).1 (gm_run lo hi n cs).2.1 bg) rfl rfl rfl ?_
  refine kw_aload_n X dc_C_clear_15 rfl rfl ?_
  refine kw_iconst (v := (nI 0)) X dc_C_clear_16 (by decide) ?_
  refine kw_putf (ty := .int) X (wc_C _) fy_C fk_C fn_C 0 rfl rfl 8 (by decide) (gq wd_123) (fun _ h => h) rfl (by decide +kernel) rfl rfl (Nat.le_of_ble_eq_true rfl) dc_C_clear_17 ?_
  refine kw_aload_n X dc_C_clear_20 rfl rfl ?_
  refine kw_iconst (v := (nI 0)) X dc_C_clear_21 (by decide) ?_
  refine kw_putf (ty := .int) X (wc_C _) fy_C fk_C fn_C 0 rfl rfl 9 (by decide) (gq wd_124) (fun _ h => h) rfl (by decide +kernel) rfl rfl (Nat.le_of_ble_eq_true rfl) dc_C_clear_22 ?_
  refine kw_aload_n X dc_C_clear_25 rfl rfl ?_
  refine kw_iconst (v := (nI 0)) X dc_C_clear_26 (by decide) ?_
  refine kw_putf (ty := .int) X (wc_C _) fy_C fk_C fn_C 0 rfl rfl 10 (by decide) (gq wd_125) (fun _ h => h) rfl (by decide +kernel) rfl rfl (Nat.le_of_ble_eq_true rfl) dc_C_clear_27 ?_
  refine kw_aload_n X dc_C_clear_30 rfl rfl ?_
  refine kw_iconst (v := (nI 0)) X dc_C_clear_31 (by decide) ?_
  refine kw_putf (ty := .boolean) X (wc_C _) fy_C fk_C fn_C 0 rfl rfl 11 (by decide) (gq wd_126) (fun _ h => h) rfl (by decide +kernel) rfl rfl (Nat.le_of_ble_eq_true rfl) dc_C_clear_32 ?_
  exact kw_vret X hr hlk dc_C_clear_35 ⟨les, oth, soc2, rM, fM, rN, fN, La, ch, cst, ct, tk2, rfl, trivial, (fun _ => rfl), ok2, hX, ⟨ht2 0 (by decide), ht2 1 (by decide)⟩, trivial, (fun z => by cases z)⟩
set_option maxRecDepth 100000 in
set_option maxHeartbeats 4000000 in
theorem ct_CaddT {l : Launch} {D : va_G} {kI kB kC kL : ClassId} (ad : Nat → Nat) (n : Nat) (lo hi : Nat → Nat) (T : List Nat) (w0 : va_W) (h : csP kI kB kC ad n lo hi false [] T w0) (a b : Nat) (hn : n < 12) (ha : a < 8) (hb : b ≤ 8) (hab : a ≠ b) : kw_I l mn_C_add (gw mn_C_add cd_C_add 3 (some .int)) ({ frames := 2, cells := 0, slots := 0, locals := 44 } : Room) D cl_v (kt kI kB kC kL) kE [.ref (ad 0), .int (nI a), .int (og b)] (w0) (fun r w => r = nI n ∧ csP kI kB kC ad (n + 1) (fun i => if i = n then min a b else lo i) (fun i => if i = n then max a b else hi i) false [] T w) 0 0 := by
  obtain ⟨les, oth, soc, rM, fM, rN, fN, La, ch, cst, ct, tk, rfl, zv, zb, ok, hX, ⟨k0, k1⟩, hC, hM⟩ := h
  refine kw_ofI (cc := cd_C_add) (maxL := 3) (ty := .int) (by decide) rfl (Nat.le_of_ble_eq_true rfl) rfl ?_
  intro pp ee s m args below meth c A X hr hlk hE hnm
  refine kw_cv (ws' := wCS kI kB kC ad n les oth soc rM fM rN fN La T.length ch cst ct tk 0 (2 ^ n - 1) 0 false) rfl rfl rfl ?_
  obtain ⟨⟨q1, q2⟩, ⟨q3, q4⟩, q5⟩ := adOk_of ha hb hab
  refine kw_iload_n X dc_C_add_0 rfl rfl ?_
  refine kw_callSI X kEw hE (ct_isCoin (nI a)) (cw_S 1 X wd_260 wd_261 wd_1 wd_262 rfl rfl (by decide +kernel) ⟨Nat.le_of_ble_eq_true rfl, Nat.le_of_ble_eq_true rfl⟩) [] rfl (by decide) (fun _ _ _ => Nat.zero_le _) rfl rfl (Nat.le_of_ble_eq_true rfl) dc_C_add_1 ⟨Nat.zero_le _, Nat.zero_le _⟩ (fun r w hp => ?_)
  obtain ⟨rfl, rfl⟩ := hp
  refine kw_cv (ws' := wCS kI kB kC ad n les oth soc rM fM rN fN La T.length ch cst ct tk 0 (2 ^ n - 1) 0 false) rfl rfl rfl ?_
  refine kw_if_eq (tgt := 24) X dc_C_add_4 (by decide) (fun hc4 => ?_) (fun hc4 => ?_)
  · exact absurd ⟨nI_nn (by omega), (nI_ltI (by omega) (by omega)).mpr ha⟩ (kq_z0 hc4)
  · refine kw_iload_n X dc_C_add_7 rfl rfl ?_
    refine kw_callSI X kEw hE (ct_isCoin (og b)) (cw_S 1 X wd_260 wd_261 wd_1 wd_262 rfl rfl (by decide +kernel) ⟨Nat.le_of_ble_eq_true rfl, Nat.le_of_ble_eq_true rfl⟩) [] rfl (by decide) (fun _ _ _ => Nat.zero_le _) rfl rfl (Nat.le_of_ble_eq_true rfl) dc_C_add_8 ⟨Nat.zero_le _, Nat.zero_le _⟩ (fun r w hp => ?_)
    obtain ⟨rfl, rfl⟩ := hp
    refine kw_cv (ws' := wCS kI kB kC ad n les oth soc rM fM rN fN La T.length ch cst ct tk 0 (2 ^ n - 1) 0 false) rfl rfl rfl ?_
    refine kw_if_ne (tgt := 19) X dc_C_add_11 (by decide) (fun hc11 => ?_) (fun hc11 => ?_)
    · refine kw_iload_n X dc_C_add_19 rfl rfl ?_
      refine kw_iload_n X dc_C_add_20 rfl rfl ?_
      refine kw_icmp_ne (tgt := 32) X dc_C_add_21 (by decide) (fun hc21 => ?_) (fun hc21 => ?_)
      · refine kw_aload_n X dc_C_add_32 rfl rfl ?_
        refine kw_get X (wc_C _) 0 rfl rfl 11 (by decide) (gq wd_126) (fun _ h => h) rfl dc_C_add_33 ?_
        refine kw_if_ne (tgt := 51) X dc_C_add_36 (by decide) (fun hc36 => ?_) (fun hc36 => ?_)
        · exact absurd rfl hc36
        · refine kw_aload_n X dc_C_add_39 rfl rfl ?_
          refine kw_get X (wc_C _) 0 rfl rfl 0 (by decide) (gq wd_115) (fun _ h => h) rfl dc_C_add_40 ?_
          refine kw_callVI X kEw hE 0 rfl rfl (ct_size (ad 1) (ad 2) (ad 3) (ad 4) n les oth soc) (cw_V 0 X wd_327 wd_191 wd_192 wd_2 wd_193 rfl rfl (by decide +kernel) ⟨Nat.le_of_ble_eq_true rfl, Nat.le_of_ble_eq_true rfl⟩) [1, 2, 3, 4] rfl (by decide) (fun _ _ h => by obtain ⟨rfl, _⟩ := h; exact Nat.le_refl _) rfl rfl (Nat.le_of_ble_eq_true rfl) dc_C_add_43 ⟨Nat.zero_le _, Nat.zero_le _⟩ (fun r w hp => ?_)
          obtain ⟨rfl, rfl⟩ := hp
          refine kw_cv (ws' := wCS kI kB kC ad n les oth soc rM fM rN fN La T.length ch cst ct tk 0 (2 ^ n - 1) 0 false) rfl rfl rfl ?_
          refine kw_bipush (v := (nI 12)) X dc_C_add_46 (by decide) ?_
          refine kw_icmp_lt (tgt := 59) X dc_C_add_48 (by decide) (fun hc48 => ?_) (fun hc48 => ?_)
          · refine kw_aload_n X dc_C_add_59 rfl rfl ?_
            refine kw_get X (wc_C _) 0 rfl rfl 0 (by decide) (gq wd_115) (fun _ h => h) rfl dc_C_add_60 ?_
            refine kw_iload_n X dc_C_add_63 rfl rfl ?_
            refine kw_iload_n X dc_C_add_64 rfl rfl ?_
            refine kw_callVV X kEw hE 0 rfl rfl (ct_join (ad 1) (ad 2) (ad 3) (ad 4) n les oth soc a b lo hi ok hn ha hb hab) (cw_V 2 X wd_343 wd_344 wd_345 wd_2 wd_346 rfl rfl (by decide +kernel) ⟨Nat.le_of_ble_eq_true rfl, Nat.le_of_ble_eq_true rfl⟩) [1, 2, 3, 4] rfl (by decide) (fun _ h => by obtain ⟨g1, g2, g3, rfl, _⟩ := h; exact Nat.le_refl _) rfl rfl (Nat.le_of_ble_eq_true rfl) dc_C_add_65 ⟨Nat.zero_le _, Nat.zero_le _⟩ (fun w hp => ?_)
            obtain ⟨les2, oth2, soc2, rfl, ok2⟩ := hp
            refine kw_cv (ws' := wCS kI kB kC ad (n + 1) les2 oth2 soc2 rM fM rN fN La T.length ch cst ct tk 0 (2 ^ n - 1) 0 false) rfl rfl rfl ?_
            refine kw_aload_n X dc_C_add_68 rfl rfl ?_
            refine kw_aload_n X dc_C_add_69 rfl rfl ?_
            refine kw_get X (wc_C _) 0 rfl rfl 0 (by decide) (gq wd_115) (fun _ h => h) rfl dc_C_add_70 ?_
            refine kw_callVI X kEw hE 0 rfl rfl (ct_every (ad 1) (ad 2) (ad 3) (ad 4) (n + 1) les2 oth2 soc2 ok2.1.1) (cw_V 0 X wd_349 wd_350 wd_351 wd_2 wd_352 rfl rfl (by decide +kernel) ⟨Nat.le_of_ble_eq_true rfl, Nat.le_of_ble_eq_true rfl⟩) [1, 2, 3, 4] rfl (by decide) (fun _ _ h => by obtain ⟨rfl, _⟩ := h; exact Nat.le_refl _) rfl rfl (Nat.le_of_ble_eq_true rfl) dc_C_add_73 ⟨Nat.zero_le _, Nat.zero_le _⟩ (fun r w hp => ?_)
            obtain ⟨rfl, rfl⟩ := hp
            refine kw_cv (ws' := wCS kI kB kC ad (n + 1) les2 oth2 soc2 rM fM rN fN La T.length ch cst ct tk 0 (2 ^ n - 1) 0 false) rfl rfl rfl ?_
            refine kw_putf (ty := .int) X (wc_C _) fy_C fk_C fn_C 0 rfl rfl 9 (by decide) (gq wd_124) (fun _ h => h) rfl (by decide +kernel) rfl rfl (Nat.le_of_ble_eq_true rfl) dc_C_add_76 ?_
            refine kw_aload_n X dc_C_add_79 rfl rfl ?_
            refine kw_get X (wc_C _) 0 rfl rfl 0 (by decide) (gq wd_115) (fun _ h => h) rfl dc_C_add_80 ?_
            refine kw_callVI X kEw hE 0 rfl rfl (ct_size (ad 1) (ad 2) (ad 3) (ad 4) (n + 1) les2 oth2 soc2) (cw_V 0 X wd_327 wd_191 wd_192 wd_2 wd_193 rfl rfl (by decide +kernel) ⟨Nat.le_of_ble_eq_true rfl, Nat.le_of_ble_eq_true rfl⟩) [1, 2, 3, 4] rfl (by decide) (fun _ _ h => by obtain ⟨rfl, _⟩ := h; exact Nat.le_refl _) rfl rfl (Nat.le_of_ble_eq_true rfl) dc_C_add_83 ⟨Nat.zero_le _, Nat.zero_le _⟩ (fun r w hp => ?_)
            obtain ⟨rfl, rfl⟩ := hp
            refine kw_cv (ws' := wCS kI kB kC ad (n + 1) les2 oth2 soc2 rM fM rN fN La T.length ch cst ct tk 0 (2 ^ (n + 1) - 1) 0 false) rfl rfl rfl ?_
            refine kw_iconst (v := (nI 1)) X dc_C_add_86 (by decide) ?_
            refine kw_isub (v := nI n) X dc_C_add_87 ((pk_sub (Nat.le_add_left 1 _)).trans (congrArg nI (Nat.add_sub_cancel _ 1))) ?_
            exact kw_iret X hr hlk dc_C_add_88 ⟨rfl, les2, oth2, soc2, rM, fM, rN, fN, La, ch, cst, ct, tk, rfl, trivial, (fun _ => rfl), ok2, hX, ⟨k0, k1⟩, trivial, (fun z => by cases z)⟩
          · exact absurd ((nI_ltI (by omega) (by omega)).mpr hn) hc48
      · exact absurd hc21 q5
    · refine kw_iload_n X dc_C_add_14 rfl rfl ?_
      refine kw_iconst (v := (-1)) X dc_C_add_15 (by decide) ?_
      refine kw_icmp_ne (tgt := 24) X dc_C_add_16 (by decide) (fun hc16 => ?_) (fun hc16 => ?_)
      · exact absurd ((og_m1 hb).mpr (by have h9 := kq_z0 hc11; rcases Nat.lt_or_ge b 8 with z | z; (exact absurd ⟨(og_nn hb).mpr z, by rw [og_lt z]; exact (nI_ltI (by omega) (by omega)).mpr z⟩ h9); omega)) hc16
      · refine kw_iload_n X dc_C_add_19 rfl rfl ?_
        refine kw_iload_n X dc_C_add_20 rfl rfl ?_
        refine kw_icmp_ne (tgt := 32) X dc_C_add_21 (by decide) (fun hc21 => ?_) (fun hc21 => ?_)
        · refine kw_aload_n X dc_C_add_32 rfl rfl ?_
          refine kw_get X (wc_C _) 0 rfl rfl 11 (by decide) (gq wd_126) (fun _ h => h) rfl dc_C_add_33 ?_
          refine kw_if_ne (tgt := 51) X dc_C_add_36 (by decide) (fun hc36 => ?_) (fun hc36 => ?_)
          · exact absurd rfl hc36
          · refine kw_aload_n X dc_C_add_39 rfl rfl ?_
            refine kw_get X (wc_C _) 0 rfl rfl 0 (by decide) (gq wd_115) (fun _ h => h) rfl dc_C_add_40 ?_
            refine kw_callVI X kEw hE 0 rfl rfl (ct_size (ad 1) (ad 2) (ad 3) (ad 4) n les oth soc) (cw_V 0 X wd_327 wd_191 wd_192 wd_2 wd_193 rfl rfl (by decide +kernel) ⟨Nat.le_of_ble_eq_true rfl, Nat.le_of_ble_eq_true rfl⟩) [1, 2, 3, 4] rfl (by decide) (fun _ _ h => by obtain ⟨rfl, _⟩ := h; exact Nat.le_refl _) rfl rfl (Nat.le_of_ble_eq_true rfl) dc_C_add_43 ⟨Nat.zero_le _, Nat.zero_le _⟩ (fun r w hp => ?_)
            obtain ⟨rfl, rfl⟩ := hp
            refine kw_cv (ws' := wCS kI kB kC ad n les oth soc rM fM rN fN La T.length ch cst ct tk 0 (2 ^ n - 1) 0 false) rfl rfl rfl ?_
            refine kw_bipush (v := (nI 12)) X dc_C_add_46 (by decide) ?_
            refine kw_icmp_lt (tgt := 59) X dc_C_add_48 (by decide) (fun hc48 => ?_) (fun hc48 => ?_)
            · refine kw_aload_n X dc_C_add_59 rfl rfl ?_
              refine kw_get X (wc_C _) 0 rfl rfl 0 (by decide) (gq wd_115) (fun _ h => h) rfl dc_C_add_60 ?_
              refine kw_iload_n X dc_C_add_63 rfl rfl ?_
              refine kw_iload_n X dc_C_add_64 rfl rfl ?_
              refine kw_callVV X kEw hE 0 rfl rfl (ct_join (ad 1) (ad 2) (ad 3) (ad 4) n les oth soc a b lo hi ok hn ha hb hab) (cw_V 2 X wd_343 wd_344 wd_345 wd_2 wd_346 rfl rfl (by decide +kernel) ⟨Nat.le_of_ble_eq_true rfl, Nat.le_of_ble_eq_true rfl⟩) [1, 2, 3, 4] rfl (by decide) (fun _ h => by obtain ⟨g1, g2, g3, rfl, _⟩ := h; exact Nat.le_refl _) rfl rfl (Nat.le_of_ble_eq_true rfl) dc_C_add_65 ⟨Nat.zero_le _, Nat.zero_le _⟩ (fun w hp => ?_)
              obtain ⟨les2, oth2, soc2, rfl, ok2⟩ := hp
              refine kw_cv (ws' := wCS kI kB kC ad (n + 1) les2 oth2 soc2 rM fM rN fN La T.length ch cst ct tk 0 (2 ^ n - 1) 0 false) rfl rfl rfl ?_
              refine kw_aload_n X dc_C_add_68 rfl rfl ?_
              refine kw_aload_n X dc_C_add_69 rfl rfl ?_
              refine kw_get X (wc_C _) 0 rfl rfl 0 (by decide) (gq wd_115) (fun _ h => h) rfl dc_C_add_70 ?_
              refine kw_callVI X kEw hE 0 rfl rfl (ct_every (ad 1) (ad 2) (ad 3) (ad 4) (n + 1) les2 oth2 soc2 ok2.1.1) (cw_V 0 X wd_349 wd_350 wd_351 wd_2 wd_352 rfl rfl (by decide +kernel) ⟨Nat.le_of_ble_eq_true rfl, Nat.le_of_ble_eq_true rfl⟩) [1, 2, 3, 4] rfl (by decide) (fun _ _ h => by obtain ⟨rfl, _⟩ := h; exact Nat.le_refl _) rfl rfl (Nat.le_of_ble_eq_true rfl) dc_C_add_73 ⟨Nat.zero_le _, Nat.zero_le _⟩ (fun r w hp => ?_)
              obtain ⟨rfl, rfl⟩ := hp
              refine kw_cv (ws' := wCS kI kB kC ad (n + 1) les2 oth2 soc2 rM fM rN fN La T.length ch cst ct tk 0 (2 ^ n - 1) 0 false) rfl rfl rfl ?_
              refine kw_putf (ty := .int) X (wc_C _) fy_C fk_C fn_C 0 rfl rfl 9 (by decide) (gq wd_124) (fun _ h => h) rfl (by decide +kernel) rfl rfl (Nat.le_of_ble_eq_true rfl) dc_C_add_76 ?_
              refine kw_aload_n X dc_C_add_79 rfl rfl ?_
              refine kw_get X (wc_C _) 0 rfl rfl 0 (by decide) (gq wd_115) (fun _ h => h) rfl dc_C_add_80 ?_
              refine kw_callVI X kEw hE 0 rfl rfl (ct_size (ad 1) (ad 2) (ad 3) (ad 4) (n + 1) les2 oth2 soc2) (cw_V 0 X wd_327 wd_191 wd_192 wd_2 wd_193 rfl rfl (by decide +kernel) ⟨Nat.le_of_ble_eq_true rfl, Nat.le_of_ble_eq_true rfl⟩) [1, 2, 3, 4] rfl (by decide) (fun _ _ h => by obtain ⟨rfl, _⟩ := h; exact Nat.le_refl _) rfl rfl (Nat.le_of_ble_eq_true rfl) dc_C_add_83 ⟨Nat.zero_le _, Nat.zero_le _⟩ (fun r w hp => ?_)
              obtain ⟨rfl, rfl⟩ := hp
              refine kw_cv (ws' := wCS kI kB kC ad (n + 1) les2 oth2 soc2 rM fM rN fN La T.length ch cst ct tk 0 (2 ^ (n + 1) - 1) 0 false) rfl rfl rfl ?_
              refine kw_iconst (v := (nI 1)) X dc_C_add_86 (by decide) ?_
              refine kw_isub (v := nI n) X dc_C_add_87 ((pk_sub (Nat.le_add_left 1 _)).trans (congrArg nI (Nat.add_sub_cancel _ 1))) ?_
              exact kw_iret X hr hlk dc_C_add_88 ⟨rfl, les2, oth2, soc2, rM, fM, rN, fN, La, ch, cst, ct, tk, rfl, trivial, (fun _ => rfl), ok2, hX, ⟨k0, k1⟩, trivial, (fun z => by cases z)⟩
            · exact absurd ((nI_ltI (by omega) (by omega)).mpr hn) hc48
        · exact absurd hc21 q5
set_option maxRecDepth 100000 in
set_option maxHeartbeats 4000000 in
theorem ct_CboardT {l : Launch} {D : va_G} {kI kB kC kL : ClassId} (ad : Nat → Nat) (lo hi : Nat → Nat) (T : List Nat) (w0 : va_W) (h : csP kI kB kC ad 0 lo hi false [] T w0) (rr cn : Nat) (hfit : bd_fit rr cn) : kw_I l mn_C_board (gw mn_C_board cd_C_board 3 (some .int)) ({ frames := 3, cells := 0, slots := 0, locals := 69 } : Room) D cl_v (kt kI kB kC kL) kE [.ref (ad 0), .int (nI rr), .int (nI cn)] (w0) (fun r w => r = nI (gm_ads (0, lo, hi) (bd_all rr cn (rr * cn))).1 ∧ csP kI kB kC ad (gm_ads (0, lo, hi) (bd_all rr cn (rr * cn))).1 (gm_ads (0, lo, hi) (bd_all rr cn (rr * cn))).2.1 (gm_ads (0, lo, hi) (bd_all rr cn (rr * cn))).2.2 false [] T w) 0 0 := by
  obtain ⟨les, oth, soc, rM, fM, rN, fN, La, ch, cst, ct, tk, rfl, zv, zb, ok, hX, ⟨k0, k1⟩, hC, hM⟩ := h
  refine kw_ofI (cc := cd_C_board) (maxL := 3) (ty := .int) (by decide) rfl (Nat.le_of_ble_eq_true rfl) rfl ?_
  intro pp ee s m args below meth c A X hr hlk hE hnm
  refine kw_cv (ws' := wCS kI kB kC ad 0 les oth soc rM fM rN fN La T.length ch cst ct tk 0 0 0 false) rfl rfl rfl ?_
  refine kw_iload_n X dc_C_board_0 rfl rfl ?_
  refine kw_iload_n X dc_C_board_1 rfl rfl ?_
  refine kw_callSI X kEw hE (ct_isBoard (nI rr) (nI cn)) (cw_S 2 X wd_360 wd_361 wd_1 wd_362 rfl rfl (by decide +kernel) ⟨Nat.le_of_ble_eq_true rfl, Nat.le_of_ble_eq_true rfl⟩) [] rfl (by decide) (fun _ _ _ => Nat.zero_le _) rfl rfl (Nat.le_of_ble_eq_true rfl) dc_C_board_2 ⟨Nat.zero_le _, Nat.zero_le _⟩ (fun r w hp => ?_)
  obtain ⟨rfl, rfl⟩ := hp
  refine kw_cv (ws' := wCS kI kB kC ad 0 les oth soc rM fM rN fN La T.length ch cst ct tk 0 0 0 false) rfl rfl rfl ?_
  refine kw_if_ne (tgt := 16) X dc_C_board_5 (by decide) (fun hc5 => ?_) (fun hc5 => ?_)
  · refine kw_aload_n X dc_C_board_16 rfl rfl ?_
    refine kw_get X (wc_C _) 0 rfl rfl 11 (by decide) (gq wd_126) (fun _ h => h) rfl dc_C_board_17 ?_
    refine kw_if_ne (tgt := 33) X dc_C_board_20 (by decide) (fun hc20 => ?_) (fun hc20 => ?_)
    · exact absurd rfl hc20
    · refine kw_aload_n X dc_C_board_23 rfl rfl ?_
      refine kw_get X (wc_C _) 0 rfl rfl 0 (by decide) (gq wd_115) (fun _ h => h) rfl dc_C_board_24 ?_
      refine kw_callVI X kEw hE 0 rfl rfl (ct_size (ad 1) (ad 2) (ad 3) (ad 4) 0 les oth soc) (cw_V 0 X wd_327 wd_191 wd_192 wd_2 wd_193 rfl rfl (by decide +kernel) ⟨Nat.le_of_ble_eq_true rfl, Nat.le_of_ble_eq_true rfl⟩) [1, 2, 3, 4] rfl (by decide) (fun _ _ h => by obtain ⟨rfl, _⟩ := h; exact Nat.le_refl _) rfl rfl (Nat.le_of_ble_eq_true rfl) dc_C_board_27 ⟨Nat.zero_le _, Nat.zero_le _⟩ (fun r w hp => ?_)
      obtain ⟨rfl, rfl⟩ := hp
      refine kw_cv (ws' := wCS kI kB kC ad 0 les oth soc rM fM rN fN La T.length ch cst ct tk 0 0 0 false) rfl rfl rfl ?_
      refine kw_if_le (tgt := 41) X dc_C_board_30 (by decide) (fun hc30 => ?_) (fun hc30 => ?_)
      · refine kw_aload_n X dc_C_board_41 rfl rfl ?_
        refine kw_get X (wc_C _) 0 rfl rfl 0 (by decide) (gq wd_115) (fun _ h => h) rfl dc_C_board_42 ?_
        refine kw_iload_n X dc_C_board_45 rfl rfl ?_
        refine kw_iload_n X dc_C_board_46 rfl rfl ?_
        refine kw_callVV X kEw hE 0 rfl rfl (ct_joinBoard (ad 1) (ad 2) (ad 3) (ad 4) les oth soc lo hi ok rr cn hfit) (cw_V 2 X wd_363 wd_364 wd_365 wd_2 wd_366 rfl rfl (by decide +kernel) ⟨Nat.le_of_ble_eq_true rfl, Nat.le_of_ble_eq_true rfl⟩) [1, 2, 3, 4] rfl (by decide) (fun _ h => by obtain ⟨a, rfl, _⟩ := h; exact Nat.le_refl _) rfl rfl (Nat.le_of_ble_eq_true rfl) dc_C_board_47 ⟨Nat.zero_le _, Nat.zero_le _⟩ (fun w hp => ?_)
        obtain ⟨a, rfl, ea, ok2⟩ := hp
        refine kw_cv (ws' := wCS kI kB kC ad a.1.1 a.2.1 a.2.2.1 a.2.2.2 rM fM rN fN La T.length ch cst ct tk 0 0 0 false) rfl rfl rfl ?_
        refine kw_aload_n X dc_C_board_50 rfl rfl ?_
        refine kw_aload_n X dc_C_board_51 rfl rfl ?_
        refine kw_get X (wc_C _) 0 rfl rfl 0 (by decide) (gq wd_115) (fun _ h => h) rfl dc_C_board_52 ?_
        refine kw_callVI X kEw hE 0 rfl rfl (ct_every (ad 1) (ad 2) (ad 3) (ad 4) a.1.1 a.2.1 a.2.2.1 a.2.2.2 ok2.1.1) (cw_V 0 X wd_349 wd_350 wd_351 wd_2 wd_352 rfl rfl (by decide +kernel) ⟨Nat.le_of_ble_eq_true rfl, Nat.le_of_ble_eq_true rfl⟩) [1, 2, 3, 4] rfl (by decide) (fun _ _ h => by obtain ⟨rfl, _⟩ := h; exact Nat.le_refl _) rfl rfl (Nat.le_of_ble_eq_true rfl) dc_C_board_55 ⟨Nat.zero_le _, Nat.zero_le _⟩ (fun r w hp => ?_)
        obtain ⟨rfl, rfl⟩ := hp
        refine kw_cv (ws' := wCS kI kB kC ad a.1.1 a.2.1 a.2.2.1 a.2.2.2 rM fM rN fN La T.length ch cst ct tk 0 0 0 false) rfl rfl rfl ?_
        refine kw_putf (ty := .int) X (wc_C _) fy_C fk_C fn_C 0 rfl rfl 9 (by decide) (gq wd_124) (fun _ h => h) rfl (by decide +kernel) rfl rfl (Nat.le_of_ble_eq_true rfl) dc_C_board_58 ?_
        refine kw_aload_n X dc_C_board_61 rfl rfl ?_
        refine kw_get X (wc_C _) 0 rfl rfl 0 (by decide) (gq wd_115) (fun _ h => h) rfl dc_C_board_62 ?_
        refine kw_callVI X kEw hE 0 rfl rfl (ct_size (ad 1) (ad 2) (ad 3) (ad 4) a.1.1 a.2.1 a.2.2.1 a.2.2.2) (cw_V 0 X wd_327 wd_191 wd_192 wd_2 wd_193 rfl rfl (by decide +kernel) ⟨Nat.le_of_ble_eq_true rfl, Nat.le_of_ble_eq_true rfl⟩) [1, 2, 3, 4] rfl (by decide) (fun _ _ h => by obtain ⟨rfl, _⟩ := h; exact Nat.le_refl _) rfl rfl (Nat.le_of_ble_eq_true rfl) dc_C_board_65 ⟨Nat.zero_le _, Nat.zero_le _⟩ (fun r w hp => ?_)
        obtain ⟨rfl, rfl⟩ := hp
        refine kw_cv (ws' := wCS kI kB kC ad a.1.1 a.2.1 a.2.2.1 a.2.2.2 rM fM rN fN La T.length ch cst ct tk 0 (2 ^ a.1.1 - 1) 0 false) rfl rfl rfl ?_
        exact kw_iret X hr hlk dc_C_board_68 (by rw [← ea]; exact ⟨rfl, a.2.1, a.2.2.1, a.2.2.2, rM, fM, rN, fN, La, ch, cst, ct, tk, rfl, trivial, (fun _ => rfl), ok2, hX, ⟨k0, k1⟩, trivial, (fun z => by cases z)⟩)
      · exact absurd (show nI 0 ≤ 0 by decide) hc30
  · exact absurd (bdOk_of hfit) (kq_z0 hc5)
