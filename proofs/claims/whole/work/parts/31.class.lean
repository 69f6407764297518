set_option maxRecDepth 100000 in
set_option maxHeartbeats 4000000 in
theorem ct_CmarginT {l : Launch} {D : va_G} {kI kB kC kL : ClassId} (ad : Nat → Nat) (n : Nat) (lo hi : Nat → Nat) (cs T : List Nat) (w0 : va_W) (h : csP kI kB kC ad n lo hi true cs T w0)  : kw_I l mn_C_margin (gw mn_C_margin cd_C_margin 1 (some .int)) ({ frames := 6, cells := 0, slots := 0, locals := 135 } : Room) D cl_v (kt kI kB kC kL) kE [.ref (ad 0)] (w0) (fun r w => r = iZ (gm_mg lo hi n (gm_run lo hi n cs).1) ∧ csP kI kB kC ad n lo hi true cs T w) 0 0 := by
  obtain ⟨les, oth, soc, rM, fM, rN, fN, La, ch, cst, ct, tk, rfl, zv, zb, ok, hX, ⟨k0, k1⟩, hC, hM⟩ := h
  refine kw_ofI (cc := cd_C_margin) (maxL := 1) (ty := .int) (by decide) rfl (Nat.le_of_ble_eq_true rfl) rfl ?_
  intro pp ee s m args below meth c A X hr hlk hE hnm
  refine kw_aload_n X dc_C_margin_0 rfl rfl ?_
  refine kw_callVV X kEw hE 0 rfl rfl (ct_reqT ad cs.length (gm_run lo hi n cs).1 (gm_run lo hi n cs).2.1) (cw_V 0 X wd_393 wd_395 wp_6 wd_1 wd_396 rfl rfl (by decide +kernel) ⟨Nat.le_of_ble_eq_true rfl, Nat.le_of_ble_eq_true rfl⟩) [0] rfl (by decide) (fun _ h => by subst h; exact Nat.le_refl _) rfl rfl (Nat.le_of_ble_eq_true rfl) dc_C_margin_1 ⟨Nat.zero_le _, Nat.zero_le _⟩ (fun w hp => ?_)
  subst hp
  refine kw_cv (ws' := wCS kI kB kC ad n les oth soc rM fM rN fN La T.length ch cst ct tk cs.length (gm_run lo hi n cs).1 (gm_run lo hi n cs).2.1 true) rfl rfl rfl ?_
  refine kw_aload_n X dc_C_margin_4 rfl rfl ?_
  refine kw_get X (wc_C _) 0 rfl rfl 1 (by decide) (gq wd_116) (fun _ h => h) rfl dc_C_margin_5 ?_
  refine kw_aload_n X dc_C_margin_8 rfl rfl ?_
  refine kw_get X (wc_C _) 0 rfl rfl 9 (by decide) (gq wd_124) (fun _ h => h) rfl dc_C_margin_9 ?_
  refine kw_callUI X kEw hE 0 rfl rfl (ct_ofM (ad 5) (ad 6) (ad 1) (ad 2) (ad 3) (ad 4) n rM fM les oth soc lo hi ok (hM rfl).1 (gm_run lo hi n cs).1 (gm_run_p cs)) (cw_U 1 X wd_528 wd_529 wd_531 wd_532 wd_3 wd_533 rfl rfl rfl (by decide +kernel) ⟨Nat.le_of_ble_eq_true rfl, Nat.le_of_ble_eq_true rfl⟩) [5, 6, 1, 2, 3, 4] rfl (by decide) (fun _ _ h => by obtain ⟨_, g, rfl, _⟩ := h; exact Nat.le_refl _) rfl rfl (Nat.le_of_ble_eq_true rfl) dc_C_margin_12 ⟨Nat.zero_le _, Nat.zero_le _⟩ (fun r w hp => ?_)
  obtain ⟨rfl, f2, rfl, tb⟩ := hp
  refine kw_cv (ws' := wCS kI kB kC ad n les oth soc (nI 1) f2 rN fN La T.length ch cst ct tk cs.length (gm_run lo hi n cs).1 (gm_run lo hi n cs).2.1 true) rfl rfl rfl ?_
  exact kw_iret X hr hlk dc_C_margin_15 ⟨rfl, les, oth, soc, (nI 1), f2, rN, fN, La, ch, cst, ct, tk, rfl, zv, zb, ok, hX, ⟨k0, k1⟩, hC, (fun _ => ⟨Or.inl ⟨rfl, tb⟩, (hM rfl).2⟩)⟩
set_option maxRecDepth 100000 in
set_option maxHeartbeats 4000000 in
theorem ct_CgoodT {l : Launch} {D : va_G} {kI kB kC kL : ClassId} (ad : Nat → Nat) (n : Nat) (lo hi : Nat → Nat) (cs T : List Nat) (w0 : va_W) (h : csP kI kB kC ad n lo hi true cs T w0)  : kw_I l mn_C_good (gw mn_C_good cd_C_good 1 (some .int)) ({ frames := 6, cells := 0, slots := 0, locals := 137 } : Room) D cl_v (kt kI kB kC kL) kE [.ref (ad 0)] (w0) (fun r w => r = nI (gm_good lo hi n (gm_run lo hi n cs).1) ∧ csP kI kB kC ad n lo hi true cs T w) 0 0 := by
  obtain ⟨les, oth, soc, rM, fM, rN, fN, La, ch, cst, ct, tk, rfl, zv, zb, ok, hX, ⟨k0, k1⟩, hC, hM⟩ := h
  refine kw_ofI (cc := cd_C_good) (maxL := 1) (ty := .int) (by decide) rfl (Nat.le_of_ble_eq_true rfl) rfl ?_
  intro pp ee s m args below meth c A X hr hlk hE hnm
  refine kw_aload_n X dc_C_good_0 rfl rfl ?_
  refine kw_callVV X kEw hE 0 rfl rfl (ct_reqT ad cs.length (gm_run lo hi n cs).1 (gm_run lo hi n cs).2.1) (cw_V 0 X wd_393 wd_395 wp_6 wd_1 wd_396 rfl rfl (by decide +kernel) ⟨Nat.le_of_ble_eq_true rfl, Nat.le_of_ble_eq_true rfl⟩) [0] rfl (by decide) (fun _ h => by subst h; exact Nat.le_refl _) rfl rfl (Nat.le_of_ble_eq_true rfl) dc_C_good_1 ⟨Nat.zero_le _, Nat.zero_le _⟩ (fun w hp => ?_)
  subst hp
  refine kw_cv (ws' := wCS kI kB kC ad n les oth soc rM fM rN fN La T.length ch cst ct tk cs.length (gm_run lo hi n cs).1 (gm_run lo hi n cs).2.1 true) rfl rfl rfl ?_
  refine kw_aload_n X dc_C_good_4 rfl rfl ?_
  refine kw_get X (wc_C _) 0 rfl rfl 1 (by decide) (gq wd_116) (fun _ h => h) rfl dc_C_good_5 ?_
  refine kw_aload_n X dc_C_good_8 rfl rfl ?_
  refine kw_get X (wc_C _) 0 rfl rfl 9 (by decide) (gq wd_124) (fun _ h => h) rfl dc_C_good_9 ?_
  refine kw_callUI X kEw hE 0 rfl rfl (ct_goodM (ad 5) (ad 6) (ad 1) (ad 2) (ad 3) (ad 4) n rM fM les oth soc lo hi ok (hM rfl).1 (gm_run lo hi n cs).1 (gm_run_p cs)) (cw_U 1 X wd_457 wd_458 wd_460 wd_461 wd_3 wd_462 rfl rfl rfl (by decide +kernel) ⟨Nat.le_of_ble_eq_true rfl, Nat.le_of_ble_eq_true rfl⟩) [5, 6, 1, 2, 3, 4] rfl (by decide) (fun _ _ h => by obtain ⟨_, g, rfl, _⟩ := h; exact Nat.le_refl _) rfl rfl (Nat.le_of_ble_eq_true rfl) dc_C_good_12 ⟨Nat.zero_le _, Nat.zero_le _⟩ (fun r w hp => ?_)
  obtain ⟨rfl, f2, rfl, tb⟩ := hp
  refine kw_cv (ws' := wCS kI kB kC ad n les oth soc (nI 1) f2 rN fN La T.length ch cst ct tk cs.length (gm_run lo hi n cs).1 (gm_run lo hi n cs).2.1 true) rfl rfl rfl ?_
  exact kw_iret X hr hlk dc_C_good_15 ⟨rfl, les, oth, soc, (nI 1), f2, rN, fN, La, ch, cst, ct, tk, rfl, zv, zb, ok, hX, ⟨k0, k1⟩, hC, (fun _ => ⟨Or.inl ⟨rfl, tb⟩, (hM rfl).2⟩)⟩
set_option maxRecDepth 100000 in
set_option maxHeartbeats 4000000 in
theorem ct_CnimT {l : Launch} {D : va_G} {kI kB kC kL : ClassId} (ad : Nat → Nat) (n : Nat) (lo hi : Nat → Nat) (cs T : List Nat) (w0 : va_W) (h : csP kI kB kC ad n lo hi true cs T w0)  : kw_I l mn_C_nim (gw mn_C_nim cd_C_nim 1 (some .int)) ({ frames := 5, cells := 0, slots := 0, locals := 115 } : Room) D cl_v (kt kI kB kC kL) kE [.ref (ad 0)] (w0) (fun r w => r = iZ (gm_nm lo hi n (gm_run lo hi n cs).1) ∧ csP kI kB kC ad n lo hi true cs T w) 0 0 := by
  obtain ⟨les, oth, soc, rM, fM, rN, fN, La, ch, cst, ct, tk, rfl, zv, zb, ok, hX, ⟨k0, k1⟩, hC, hM⟩ := h
  refine kw_ofI (cc := cd_C_nim) (maxL := 1) (ty := .int) (by decide) rfl (Nat.le_of_ble_eq_true rfl) rfl ?_
  intro pp ee s m args below meth c A X hr hlk hE hnm
  refine kw_aload_n X dc_C_nim_0 rfl rfl ?_
  refine kw_callVV X kEw hE 0 rfl rfl (ct_reqT ad cs.length (gm_run lo hi n cs).1 (gm_run lo hi n cs).2.1) (cw_V 0 X wd_393 wd_395 wp_6 wd_1 wd_396 rfl rfl (by decide +kernel) ⟨Nat.le_of_ble_eq_true rfl, Nat.le_of_ble_eq_true rfl⟩) [0] rfl (by decide) (fun _ h => by subst h; exact Nat.le_refl _) rfl rfl (Nat.le_of_ble_eq_true rfl) dc_C_nim_1 ⟨Nat.zero_le _, Nat.zero_le _⟩ (fun w hp => ?_)
  subst hp
  refine kw_cv (ws' := wCS kI kB kC ad n les oth soc rM fM rN fN La T.length ch cst ct tk cs.length (gm_run lo hi n cs).1 (gm_run lo hi n cs).2.1 true) rfl rfl rfl ?_
  refine kw_aload_n X dc_C_nim_4 rfl rfl ?_
  refine kw_get X (wc_C _) 0 rfl rfl 2 (by decide) (gq wd_117) (fun _ h => h) rfl dc_C_nim_5 ?_
  refine kw_aload_n X dc_C_nim_8 rfl rfl ?_
  refine kw_get X (wc_C _) 0 rfl rfl 9 (by decide) (gq wd_124) (fun _ h => h) rfl dc_C_nim_9 ?_
  refine kw_callUI X kEw hE 0 rfl rfl (ct_ofN (ad 7) (ad 8) (ad 1) (ad 2) (ad 3) (ad 4) n rN fN les oth soc lo hi ok (hM rfl).2 (gm_run lo hi n cs).1 (gm_run_p cs)) (cw_U 1 X wd_548 wd_549 wd_550 wd_532 wd_3 wd_533 rfl rfl rfl (by decide +kernel) ⟨Nat.le_of_ble_eq_true rfl, Nat.le_of_ble_eq_true rfl⟩) [7, 8, 1, 2, 3, 4] rfl (by decide) (fun _ _ h => by obtain ⟨_, g, rfl, _⟩ := h; exact Nat.le_refl _) rfl rfl (Nat.le_of_ble_eq_true rfl) dc_C_nim_12 ⟨Nat.zero_le _, Nat.zero_le _⟩ (fun r w hp => ?_)
  obtain ⟨rfl, f2, rfl, tb⟩ := hp
  refine kw_cv (ws' := wCS kI kB kC ad n les oth soc rM fM (nI 1) f2 La T.length ch cst ct tk cs.length (gm_run lo hi n cs).1 (gm_run lo hi n cs).2.1 true) rfl rfl rfl ?_
  exact kw_iret X hr hlk dc_C_nim_15 ⟨rfl, les, oth, soc, rM, fM, (nI 1), f2, La, ch, cst, ct, tk, rfl, zv, zb, ok, hX, ⟨k0, k1⟩, hC, (fun _ => ⟨(hM rfl).1, Or.inl ⟨rfl, tb⟩⟩)⟩
set_option maxRecDepth 100000 in
set_option maxHeartbeats 4000000 in
theorem ct_CmadT {l : Launch} {D : va_G} {kI kB kC kL : ClassId} (ad : Nat → Nat) (n : Nat) (lo hi : Nat → Nat) (cs T : List Nat) (w0 : va_W) (h : csP kI kB kC ad n lo hi true cs T w0)  : kw_I l mn_C_mad (gw mn_C_mad cd_C_mad 1 (some .int)) ({ frames := 5, cells := 0, slots := 0, locals := 117 } : Room) D cl_v (kt kI kB kC kL) kE [.ref (ad 0)] (w0) (fun r w => r = nI (gm_mad lo hi n (gm_run lo hi n cs).1) ∧ csP kI kB kC ad n lo hi true cs T w) 0 0 := by
  obtain ⟨les, oth, soc, rM, fM, rN, fN, La, ch, cst, ct, tk, rfl, zv, zb, ok, hX, ⟨k0, k1⟩, hC, hM⟩ := h
  refine kw_ofI (cc := cd_C_mad) (maxL := 1) (ty := .int) (by decide) rfl (Nat.le_of_ble_eq_true rfl) rfl ?_
  intro pp ee s m args below meth c A X hr hlk hE hnm
  refine kw_aload_n X dc_C_mad_0 rfl rfl ?_
  refine kw_callVV X kEw hE 0 rfl rfl (ct_reqT ad cs.length (gm_run lo hi n cs).1 (gm_run lo hi n cs).2.1) (cw_V 0 X wd_393 wd_395 wp_6 wd_1 wd_396 rfl rfl (by decide +kernel) ⟨Nat.le_of_ble_eq_true rfl, Nat.le_of_ble_eq_true rfl⟩) [0] rfl (by decide) (fun _ h => by subst h; exact Nat.le_refl _) rfl rfl (Nat.le_of_ble_eq_true rfl) dc_C_mad_1 ⟨Nat.zero_le _, Nat.zero_le _⟩ (fun w hp => ?_)
  subst hp
  refine kw_cv (ws' := wCS kI kB kC ad n les oth soc rM fM rN fN La T.length ch cst ct tk cs.length (gm_run lo hi n cs).1 (gm_run lo hi n cs).2.1 true) rfl rfl rfl ?_
  refine kw_aload_n X dc_C_mad_4 rfl rfl ?_
  refine kw_get X (wc_C _) 0 rfl rfl 2 (by decide) (gq wd_117) (fun _ h => h) rfl dc_C_mad_5 ?_
  refine kw_aload_n X dc_C_mad_8 rfl rfl ?_
  refine kw_get X (wc_C _) 0 rfl rfl 9 (by decide) (gq wd_124) (fun _ h => h) rfl dc_C_mad_9 ?_
  refine kw_callUI X kEw hE 0 rfl rfl (ct_madN (ad 7) (ad 8) (ad 1) (ad 2) (ad 3) (ad 4) n rN fN les oth soc lo hi ok (hM rfl).2 (gm_run lo hi n cs).1 (gm_run_p cs)) (cw_U 1 X wd_558 wd_559 wd_560 wd_461 wd_3 wd_462 rfl rfl rfl (by decide +kernel) ⟨Nat.le_of_ble_eq_true rfl, Nat.le_of_ble_eq_true rfl⟩) [7, 8, 1, 2, 3, 4] rfl (by decide) (fun _ _ h => by obtain ⟨_, g, rfl, _⟩ := h; exact Nat.le_refl _) rfl rfl (Nat.le_of_ble_eq_true rfl) dc_C_mad_12 ⟨Nat.zero_le _, Nat.zero_le _⟩ (fun r w hp => ?_)
  obtain ⟨rfl, f2, rfl, tb⟩ := hp
  refine kw_cv (ws' := wCS kI kB kC ad n les oth soc rM fM (nI 1) f2 La T.length ch cst ct tk cs.length (gm_run lo hi n cs).1 (gm_run lo hi n cs).2.1 true) rfl rfl rfl ?_
  exact kw_iret X hr hlk dc_C_mad_15 ⟨rfl, les, oth, soc, rM, fM, (nI 1), f2, La, ch, cst, ct, tk, rfl, zv, zb, ok, hX, ⟨k0, k1⟩, hC, (fun _ => ⟨(hM rfl).1, Or.inl ⟨rfl, tb⟩⟩)⟩
set_option maxRecDepth 100000 in
set_option maxHeartbeats 4000000 in
theorem ct_Cgroups {l : Launch} {D : va_G} {kI kB kC kL : ClassId} (ad : Nat → Nat) (n : Nat) (lo hi : Nat → Nat) (bg : Bool) (cs T : List Nat) (w0 : va_W) (h : csP kI kB kC ad n lo hi bg cs T w0)  : kw_I l mn_C_groups (gw mn_C_groups cd_C_groups 1 (some .int)) ({ frames := 3, cells := 0, slots := 0, locals := 66 } : Room) D cl_v (kt kI kB kC kL) kE [.ref (ad 0)] (w0) (fun r w => r = nI (gm_rk (gm_L lo hi n (gm_run lo hi n cs).1 n) 8) ∧ csP kI kB kC ad n lo hi bg cs T w) 0 0 := by
  obtain ⟨les, oth, soc, rM, fM, rN, fN, La, ch, cst, ct, tk, rfl, zv, zb, ok, hX, ⟨k0, k1⟩, hC, hM⟩ := h
  refine kw_ofI (cc := cd_C_groups) (maxL := 1) (ty := .int) (by decide) rfl (Nat.le_of_ble_eq_true rfl) rfl ?_
  intro pp ee s m args below meth c A X hr hlk hE hnm
  have hn := ok.1.1
  have hp4 := kq_2n hn (gm_run_p (lo := lo) (hi := hi) (n := n) cs)
  refine kw_aload_n X dc_C_groups_0 rfl rfl ?_
  refine kw_get X (wc_C _) 0 rfl rfl 3 (by decide) (gq wd_118) (fun _ h => h) rfl dc_C_groups_1 ?_
  refine kw_aload_n X dc_C_groups_4 rfl rfl ?_
  refine kw_get X (wc_C _) 0 rfl rfl 9 (by decide) (gq wd_124) (fun _ h => h) rfl dc_C_groups_5 ?_
  refine kw_callVV X kEw hE 0 rfl rfl (ct_sort (ad 9) (ad 10) (ad 1) (ad 2) (ad 3) (ad 4) n La les oth soc lo hi ok (gm_run lo hi n cs).1 hp4) (cw_V 1 X wd_176 wd_177 wd_178 wd_6 wd_179 rfl rfl (by decide +kernel) ⟨Nat.le_of_ble_eq_true rfl, Nat.le_of_ble_eq_true rfl⟩) [9, 10, 1, 2, 3, 4] rfl (by decide) (fun _ h => by obtain ⟨g, rfl, _⟩ := h; exact Nat.le_refl _) rfl rfl (Nat.le_of_ble_eq_true rfl) dc_C_groups_8 ⟨Nat.zero_le _, Nat.zero_le _⟩ (fun w hp => ?_)
  obtain ⟨L2, rfl, gok⟩ := hp
  refine kw_cv (ws' := wCS kI kB kC ad n les oth soc rM fM rN fN L2 T.length ch cst ct tk cs.length (gm_run lo hi n cs).1 (gm_run lo hi n cs).2.1 bg) rfl rfl rfl ?_
  refine kw_aload_n X dc_C_groups_11 rfl rfl ?_
  refine kw_get X (wc_C _) 0 rfl rfl 3 (by decide) (gq wd_118) (fun _ h => h) rfl dc_C_groups_12 ?_
  refine kw_callVI X kEw hE 0 rfl rfl (ct_count (ad 9) (ad 10) (ad 1) (ad 2) (ad 3) (ad 4) n L2 les oth soc (gm_L lo hi n (gm_run lo hi n cs).1 n) gok) (cw_V 0 X wd_219 wd_220 wd_221 wd_6 wd_222 rfl rfl (by decide +kernel) ⟨Nat.le_of_ble_eq_true rfl, Nat.le_of_ble_eq_true rfl⟩) [9, 10, 1, 2, 3, 4] rfl (by decide) (fun _ _ h => by obtain ⟨rfl, _⟩ := h; exact Nat.le_refl _) rfl rfl (Nat.le_of_ble_eq_true rfl) dc_C_groups_15 ⟨Nat.zero_le _, Nat.zero_le _⟩ (fun r w hp => ?_)
  obtain ⟨rfl, rfl⟩ := hp
  refine kw_cv (ws' := wCS kI kB kC ad n les oth soc rM fM rN fN L2 T.length ch cst ct tk cs.length (gm_run lo hi n cs).1 (gm_run lo hi n cs).2.1 bg) rfl rfl rfl ?_
  exact kw_iret X hr hlk dc_C_groups_18 ⟨rfl, les, oth, soc, rM, fM, rN, fN, L2, ch, cst, ct, tk, rfl, zv, zb, ok, hX, ⟨k0, k1⟩, hC, hM⟩
set_option maxRecDepth 100000 in
set_option maxHeartbeats 4000000 in
theorem ct_CgroupT {l : Launch} {D : va_G} {kI kB kC kL : ClassId} (ad : Nat → Nat) (n : Nat) (lo hi : Nat → Nat) (bg : Bool) (cs T : List Nat) (w0 : va_W) (h : csP kI kB kC ad n lo hi bg cs T w0) (g : Nat) (hg : g < gm_rk (gm_L lo hi n (gm_run lo hi n cs).1 n) 8) : kw_I l mn_C_group (gw mn_C_group cd_C_group 4 (some .int)) ({ frames := 3, cells := 0, slots := 0, locals := 66 } : Room) D cl_v (kt kI kB kC kL) kE [.ref (ad 0), .int (nI g)] (w0) (fun r w => ∃ v : Nat, v < 8 ∧ (gm_L lo hi n (gm_run lo hi n cs).1 n) v = v ∧ gm_rk (gm_L lo hi n (gm_run lo hi n cs).1 n) v = g ∧ r = nI (gm_cnt (gm_L lo hi n (gm_run lo hi n cs).1 n) v 8 + (if gm_lp lo hi (gm_run lo hi n cs).1 (gm_L lo hi n (gm_run lo hi n cs).1 n) v n = true then 100 else 0)) ∧ csP kI kB kC ad n lo hi bg cs T w) 0 0 := by
  obtain ⟨les, oth, soc, rM, fM, rN, fN, La, ch, cst, ct, tk, rfl, zv, zb, ok, hX, ⟨k0, k1⟩, hC, hM⟩ := h
  refine kw_ofI (cc := cd_C_group) (maxL := 4) (ty := .int) (by decide) rfl (Nat.le_of_ble_eq_true rfl) rfl ?_
  intro pp ee s m args below meth c A X hr hlk hE hnm
  have hn := ok.1.1
  have hp4 := kq_2n hn (gm_run_p (lo := lo) (hi := hi) (n := n) cs)
  have hr8 := gm_rk_8 (gm_L lo hi n (gm_run lo hi n cs).1 n) 8
  refine kw_aload_n X dc_C_group_0 rfl rfl ?_
  refine kw_get X (wc_C _) 0 rfl rfl 3 (by decide) (gq wd_118) (fun _ h => h) rfl dc_C_group_1 ?_
  refine kw_aload_n X dc_C_group_4 rfl rfl ?_
  refine kw_get X (wc_C _) 0 rfl rfl 9 (by decide) (gq wd_124) (fun _ h => h) rfl dc_C_group_5 ?_
  refine kw_callVV X kEw hE 0 rfl rfl (ct_sort (ad 9) (ad 10) (ad 1) (ad 2) (ad 3) (ad 4) n La les oth soc lo hi ok (gm_run lo hi n cs).1 hp4) (cw_V 1 X wd_176 wd_177 wd_178 wd_6 wd_179 rfl rfl (by decide +kernel) ⟨Nat.le_of_ble_eq_true rfl, Nat.le_of_ble_eq_true rfl⟩) [9, 10, 1, 2, 3, 4] rfl (by decide) (fun _ h => by obtain ⟨g, rfl, _⟩ := h; exact Nat.le_refl _) rfl rfl (Nat.le_of_ble_eq_true rfl) dc_C_group_8 ⟨Nat.zero_le _, Nat.zero_le _⟩ (fun w hp => ?_)
  obtain ⟨L2, rfl, gok⟩ := hp
  refine kw_cv (ws' := wCS kI kB kC ad n les oth soc rM fM rN fN L2 T.length ch cst ct tk cs.length (gm_run lo hi n cs).1 (gm_run lo hi n cs).2.1 bg) rfl rfl rfl ?_
  refine kw_iload_n X dc_C_group_11 rfl rfl ?_
  refine kw_if_lt (tgt := 26) X dc_C_group_12 (by decide) (fun hc12 => ?_) (fun hc12 => ?_)
  · exact absurd hc12 (Int32.not_lt.mpr (nI_nn (by omega)))
  · refine kw_iload_n X dc_C_group_15 rfl rfl ?_
    refine kw_aload_n X dc_C_group_16 rfl rfl ?_
    refine kw_get X (wc_C _) 0 rfl rfl 3 (by decide) (gq wd_118) (fun _ h => h) rfl dc_C_group_17 ?_
    refine kw_callVI X kEw hE 0 rfl rfl (ct_count (ad 9) (ad 10) (ad 1) (ad 2) (ad 3) (ad 4) n L2 les oth soc (gm_L lo hi n (gm_run lo hi n cs).1 n) gok) (cw_V 0 X wd_219 wd_220 wd_221 wd_6 wd_222 rfl rfl (by decide +kernel) ⟨Nat.le_of_ble_eq_true rfl, Nat.le_of_ble_eq_true rfl⟩) [9, 10, 1, 2, 3, 4] rfl (by decide) (fun _ _ h => by obtain ⟨rfl, _⟩ := h; exact Nat.le_refl _) rfl rfl (Nat.le_of_ble_eq_true rfl) dc_C_group_20 ⟨Nat.zero_le _, Nat.zero_le _⟩ (fun r w hp => ?_)
    obtain ⟨rfl, rfl⟩ := hp
    refine kw_cv (ws' := wCS kI kB kC ad n les oth soc rM fM rN fN L2 T.length ch cst ct tk cs.length (gm_run lo hi n cs).1 (gm_run lo hi n cs).2.1 bg) rfl rfl rfl ?_
    refine kw_icmp_lt (tgt := 34) X dc_C_group_23 (by decide) (fun hc23 => ?_) (fun hc23 => ?_)
    · refine kw_aload_n X dc_C_group_34 rfl rfl ?_
      refine kw_get X (wc_C _) 0 rfl rfl 3 (by decide) (gq wd_118) (fun _ h => h) rfl dc_C_group_35 ?_
      refine kw_iload_n X dc_C_group_38 rfl rfl ?_
      refine kw_callVI X kEw hE 0 rfl rfl (ct_leader (ad 9) (ad 10) (ad 1) (ad 2) (ad 3) (ad 4) n L2 les oth soc (gm_L lo hi n (gm_run lo hi n cs).1 n) gok g hg) (cw_V 1 X wd_568 wd_569 wd_570 wd_6 wd_571 rfl rfl (by decide +kernel) ⟨Nat.le_of_ble_eq_true rfl, Nat.le_of_ble_eq_true rfl⟩) [9, 10, 1, 2, 3, 4] rfl (by decide) (fun _ _ h => by obtain ⟨rfl, _⟩ := h; exact Nat.le_refl _) rfl rfl (Nat.le_of_ble_eq_true rfl) dc_C_group_39 ⟨Nat.zero_le _, Nat.zero_le _⟩ (fun r w hp => ?_)
      obtain ⟨rfl, v, hv, hvv, hvg, rfl⟩ := hp
      refine kw_cv (ws' := wCS kI kB kC ad n les oth soc rM fM rN fN L2 T.length ch cst ct tk cs.length (gm_run lo hi n cs).1 (gm_run lo hi n cs).2.1 bg) rfl rfl rfl ?_
      refine kw_istore_n X dc_C_group_42 rfl (by decide) ?_
      refine kw_aload_n X dc_C_group_43 rfl rfl ?_
      refine kw_get X (wc_C _) 0 rfl rfl 3 (by decide) (gq wd_118) (fun _ h => h) rfl dc_C_group_44 ?_
      refine kw_iload_n X dc_C_group_47 rfl rfl ?_
      refine kw_callVI X kEw hE 0 rfl rfl (ct_length (ad 9) (ad 10) (ad 1) (ad 2) (ad 3) (ad 4) n L2 les oth soc (gm_L lo hi n (gm_run lo hi n cs).1 n) gok v hv) (cw_V 1 X wd_572 wd_573 wd_574 wd_6 wd_575 rfl rfl (by decide +kernel) ⟨Nat.le_of_ble_eq_true rfl, Nat.le_of_ble_eq_true rfl⟩) [9, 10, 1, 2, 3, 4] rfl (by decide) (fun _ _ h => by obtain ⟨rfl, _⟩ := h; exact Nat.le_refl _) rfl rfl (Nat.le_of_ble_eq_true rfl) dc_C_group_48 ⟨Nat.zero_le _, Nat.zero_le _⟩ (fun r w hp => ?_)
      obtain ⟨rfl, rfl⟩ := hp
      refine kw_cv (ws' := wCS kI kB kC ad n les oth soc rM fM rN fN L2 T.length ch cst ct tk cs.length (gm_run lo hi n cs).1 (gm_run lo hi n cs).2.1 bg) rfl rfl rfl ?_
      refine kw_istore_n X dc_C_group_51 rfl (by decide) ?_
      refine kw_aload_n X dc_C_group_52 rfl rfl ?_
      refine kw_get X (wc_C _) 0 rfl rfl 3 (by decide) (gq wd_118) (fun _ h => h) rfl dc_C_group_53 ?_
      refine kw_iload_n X dc_C_group_56 rfl rfl ?_
      refine kw_aload_n X dc_C_group_57 rfl rfl ?_
      refine kw_get X (wc_C _) 0 rfl rfl 9 (by decide) (gq wd_124) (fun _ h => h) rfl dc_C_group_58 ?_
      refine kw_callVI X kEw hE 0 rfl rfl (ct_isLoop (ad 9) (ad 10) (ad 1) (ad 2) (ad 3) (ad 4) n L2 les oth soc lo hi ok (gm_L lo hi n (gm_run lo hi n cs).1 n) gok v hv (gm_run lo hi n cs).1 hp4) (cw_V 2 X wd_576 wd_577 wd_578 wd_6 wd_579 rfl rfl (by decide +kernel) ⟨Nat.le_of_ble_eq_true rfl, Nat.le_of_ble_eq_true rfl⟩) [9, 10, 1, 2, 3, 4] rfl (by decide) (fun _ _ h => by obtain ⟨rfl, _⟩ := h; exact Nat.le_refl _) rfl rfl (Nat.le_of_ble_eq_true rfl) dc_C_group_61 ⟨Nat.zero_le _, Nat.zero_le _⟩ (fun r w hp => ?_)
      obtain ⟨rfl, rfl⟩ := hp
      refine kw_cv (ws' := wCS kI kB kC ad n les oth soc rM fM rN fN L2 T.length ch cst ct tk cs.length (gm_run lo hi n cs).1 (gm_run lo hi n cs).2.1 bg) rfl rfl rfl ?_
      refine kw_if_eq (tgt := 74) X dc_C_group_64 (by decide) (fun hc64 => ?_) (fun hc64 => ?_)
      · have h64 := bI_0 hc64
        refine kw_iload_n X dc_C_group_74 rfl rfl ?_
        exact kw_iret X hr hlk dc_C_group_75 ⟨v, hv, hvv, hvg, by first | rw [if_pos h64] | rw [h64]; rfl, les, oth, soc, rM, fM, rN, fN, L2, ch, cst, ct, tk, rfl, zv, zb, ok, hX, ⟨k0, k1⟩, hC, hM⟩
      · have h64 := bI_1 hc64
        refine kw_iload_n X dc_C_group_67 rfl rfl ?_
        refine kw_bipush (v := (nI 100)) X dc_C_group_68 (by decide) ?_
        refine kw_iadd (v := nI (gm_cnt (gm_L lo hi n (gm_run lo hi n cs).1 n) v 8 + 100)) X dc_C_group_70 (nI_add _ 100) ?_
        refine kw_goto (tgt := 75) X dc_C_group_71 (by decide) ?_
        exact kw_iret X hr hlk dc_C_group_75 ⟨v, hv, hvv, hvg, by first | rw [if_pos h64] | rw [h64]; rfl, les, oth, soc, rM, fM, rN, fN, L2, ch, cst, ct, tk, rfl, zv, zb, ok, hX, ⟨k0, k1⟩, hC, hM⟩
    · exact absurd ((nI_ltI (by omega) (by omega)).mpr hg) hc23
set_option maxRecDepth 100000 in
set_option maxHeartbeats 4000000 in
theorem ct_Cshow {l : Launch} {D : va_G} {kI kB kC kL : ClassId} (ad : Nat → Nat) (n : Nat) (lo hi : Nat → Nat) (bg : Bool) (cs T : List Nat) (w0 : va_W) (h : csP kI kB kC ad n lo hi bg cs T w0)  : kw_I l mn_C_show (gw mn_C_show cd_C_show 1 (some .int)) ({ frames := 4, cells := 0, slots := 0, locals := 85 } : Room) D cl_v (kt kI kB kC kL) kE [.ref (ad 0)] (w0) (fun r w => r = nI (gm_txt lo hi (gm_run lo hi n cs).1 n).length ∧ csP kI kB kC ad n lo hi bg cs (gm_txt lo hi (gm_run lo hi n cs).1 n) w) 0 0 := by
  obtain ⟨les, oth, soc, rM, fM, rN, fN, La, ch, cst, ct, tk, rfl, zv, zb, ok, hX, ⟨k0, k1⟩, hC, hM⟩ := h
  refine kw_ofI (cc := cd_C_show) (maxL := 1) (ty := .int) (by decide) rfl (Nat.le_of_ble_eq_true rfl) rfl ?_
  intro pp ee s m args below meth c A X hr hlk hE hnm
  have hn := ok.1.1
  have hp4 := kq_2n hn (gm_run_p (lo := lo) (hi := hi) (n := n) cs)
  refine kw_aload_n X dc_C_show_0 rfl rfl ?_
  refine kw_get X (wc_C _) 0 rfl rfl 4 (by decide) (gq wd_119) (fun _ h => h) rfl dc_C_show_1 ?_
  refine kw_aload_n X dc_C_show_4 rfl rfl ?_
  refine kw_get X (wc_C _) 0 rfl rfl 9 (by decide) (gq wd_124) (fun _ h => h) rfl dc_C_show_5 ?_
  refine kw_callVV X kEw hE 0 rfl rfl (ct_write (ad 11) (ad 12) (ad 1) (ad 2) (ad 3) (ad 4) n T ch les oth soc lo hi ok (gm_run lo hi n cs).1 hp4) (cw_V 1 X wd_227 wd_228 wd_229 wd_7 wd_230 rfl rfl (by decide +kernel) ⟨Nat.le_of_ble_eq_true rfl, Nat.le_of_ble_eq_true rfl⟩) [11, 12, 1, 2, 3, 4] rfl (by decide) (fun _ h => by obtain ⟨g, rfl, _⟩ := h; exact Nat.le_refl _) rfl rfl (Nat.le_of_ble_eq_true rfl) dc_C_show_8 ⟨Nat.zero_le _, Nat.zero_le _⟩ (fun w hp => ?_)
  obtain ⟨c2, rfl, hx2⟩ := hp
  refine kw_cv (ws' := wCS kI kB kC ad n les oth soc rM fM rN fN La (gm_txt lo hi (gm_run lo hi n cs).1 n).length c2 cst ct tk cs.length (gm_run lo hi n cs).1 (gm_run lo hi n cs).2.1 bg) rfl rfl rfl ?_
  refine kw_aload_n X dc_C_show_11 rfl rfl ?_
  refine kw_get X (wc_C _) 0 rfl rfl 4 (by decide) (gq wd_119) (fun _ h => h) rfl dc_C_show_12 ?_
  refine kw_callVI X kEw hE 0 rfl rfl (ct_tlen (ad 11) (ad 12) (ad 1) (ad 2) (ad 3) (ad 4) n (gm_txt lo hi (gm_run lo hi n cs).1 n) c2 les oth soc) (cw_V 0 X wd_247 wd_248 wd_249 wd_7 wd_250 rfl rfl (by decide +kernel) ⟨Nat.le_of_ble_eq_true rfl, Nat.le_of_ble_eq_true rfl⟩) [11, 12, 1, 2, 3, 4] rfl (by decide) (fun _ _ h => by obtain ⟨rfl, _⟩ := h; exact Nat.le_refl _) rfl rfl (Nat.le_of_ble_eq_true rfl) dc_C_show_15 ⟨Nat.zero_le _, Nat.zero_le _⟩ (fun r w hp => ?_)
  obtain ⟨rfl, rfl⟩ := hp
  refine kw_cv (ws' := wCS kI kB kC ad n les oth soc rM fM rN fN La (gm_txt lo hi (gm_run lo hi n cs).1 n).length c2 cst ct tk cs.length (gm_run lo hi n cs).1 (gm_run lo hi n cs).2.1 bg) rfl rfl rfl ?_
  exact kw_iret X hr hlk dc_C_show_18 ⟨rfl, les, oth, soc, rM, fM, rN, fN, La, c2, cst, ct, tk, rfl, zv, zb, ok, hx2, ⟨k0, k1⟩, hC, hM⟩
set_option maxRecDepth 100000 in
set_option maxHeartbeats 4000000 in
theorem ct_CatT {l : Launch} {D : va_G} {kI kB kC kL : ClassId} (ad : Nat → Nat) (n : Nat) (lo hi : Nat → Nat) (bg : Bool) (cs T : List Nat) (w0 : va_W) (h : csP kI kB kC ad n lo hi bg cs T w0) (i y : Nat) (hi1 : T[i]? = some y) : kw_I l mn_C_at (gw mn_C_at cd_C_at 2 (some .int)) ({ frames := 1, cells := 0, slots := 0, locals := 21 } : Room) D cl_v (kt kI kB kC kL) kE [.ref (ad 0), .int (nI i)] (w0) (fun r w => r = nI y ∧ csP kI kB kC ad n lo hi bg cs T w) 0 0 := by
  obtain ⟨les, oth, soc, rM, fM, rN, fN, La, ch, cst, ct, tk, rfl, zv, zb, ok, hX, ⟨k0, k1⟩, hC, hM⟩ := h
  refine kw_ofI (cc := cd_C_at) (maxL := 2) (ty := .int) (by decide) rfl (Nat.le_of_ble_eq_true rfl) rfl ?_
  intro pp ee s m args below meth c A X hr hlk hE hnm
  have hl84 := hX.1
  have hil : i < T.length := (List.getElem?_eq_some_iff.mp hi1).1
  refine kw_iload_n X dc_C_at_0 rfl rfl ?_
  refine kw_if_lt (tgt := 15) X dc_C_at_1 (by decide) (fun hc1 => ?_) (fun hc1 => ?_)
  · exact absurd hc1 (Int32.not_lt.mpr (nI_nn (by omega)))
  · refine kw_iload_n X dc_C_at_4 rfl rfl ?_
    refine kw_aload_n X dc_C_at_5 rfl rfl ?_
    refine kw_get X (wc_C _) 0 rfl rfl 4 (by decide) (gq wd_119) (fun _ h => h) rfl dc_C_at_6 ?_
    refine kw_callVI X kEw hE 0 rfl rfl (ct_tlen (ad 11) (ad 12) (ad 1) (ad 2) (ad 3) (ad 4) n T ch les oth soc) (cw_V 0 X wd_247 wd_248 wd_249 wd_7 wd_250 rfl rfl (by decide +kernel) ⟨Nat.le_of_ble_eq_true rfl, Nat.le_of_ble_eq_true rfl⟩) [11, 12, 1, 2, 3, 4] rfl (by decide) (fun _ _ h => by obtain ⟨rfl, _⟩ := h; exact Nat.le_refl _) rfl rfl (Nat.le_of_ble_eq_true rfl) dc_C_at_9 ⟨Nat.zero_le _, Nat.zero_le _⟩ (fun r w hp => ?_)
    obtain ⟨rfl, rfl⟩ := hp
    refine kw_cv (ws' := wCS kI kB kC ad n les oth soc rM fM rN fN La T.length ch cst ct tk cs.length (gm_run lo hi n cs).1 (gm_run lo hi n cs).2.1 bg) rfl rfl rfl ?_
    refine kw_icmp_lt (tgt := 23) X dc_C_at_12 (by decide) (fun hc12 => ?_) (fun hc12 => ?_)
    · refine kw_aload_n X dc_C_at_23 rfl rfl ?_
      refine kw_get X (wc_C _) 0 rfl rfl 4 (by decide) (gq wd_119) (fun _ h => h) rfl dc_C_at_24 ?_
      refine kw_iload_n X dc_C_at_27 rfl rfl ?_
      refine kw_callVI X kEw hE 0 rfl rfl (ct_tchar (ad 11) (ad 12) (ad 1) (ad 2) (ad 3) (ad 4) n T ch les oth soc hX i y hi1) (cw_V 1 X wd_587 wd_588 wd_589 wd_7 wd_590 rfl rfl (by decide +kernel) ⟨Nat.le_of_ble_eq_true rfl, Nat.le_of_ble_eq_true rfl⟩) [11, 12, 1, 2, 3, 4] rfl (by decide) (fun _ _ h => by obtain ⟨rfl, _⟩ := h; exact Nat.le_refl _) rfl rfl (Nat.le_of_ble_eq_true rfl) dc_C_at_28 ⟨Nat.zero_le _, Nat.zero_le _⟩ (fun r w hp => ?_)
      obtain ⟨rfl, rfl⟩ := hp
      refine kw_cv (ws' := wCS kI kB kC ad n les oth soc rM fM rN fN La T.length ch cst ct tk cs.length (gm_run lo hi n cs).1 (gm_run lo hi n cs).2.1 bg) rfl rfl rfl ?_
      exact kw_iret X hr hlk dc_C_at_31 ⟨rfl, les, oth, soc, rM, fM, rN, fN, La, ch, cst, ct, tk, rfl, zv, zb, ok, hX, ⟨k0, k1⟩, hC, hM⟩
    · exact absurd ((nI_ltI (by omega) (by omega)).mpr hil) hc12
theorem gm_lg_ok {lo hi : Nat → Nat} {n p : Nat} (ok : gm_ok lo hi n) (hp : p < 2 ^ n) (h0 : p ≠ 0) : (gm_good lo hi n p).testBit (gm_lg lo hi n p) = true ∧ gm_lg lo hi n p < n := by
  obtain ⟨i, h1, h2⟩ := gm_good_ex ok hp h0
  have key : ∀ k, (∀ j, j < k → (gm_good lo hi n p).testBit j = false) → k ≤ i → ∃ j, j ≤ i ∧ k ≤ j ∧ (gm_good lo hi n p).testBit j = true ∧ ∀ z, z < j → (gm_good lo hi n p).testBit z = false := by
    intro k
    induction hd : i - k generalizing k with
    | zero =>
      intro hk hki
      exact ⟨i, Nat.le_refl _, hki, h2, fun z hz => hk z (by omega)⟩
    | succ d ih =>
      intro hk hki
      by_cases hb : (gm_good lo hi n p).testBit k = true
      · exact ⟨k, hki, Nat.le_refl _, hb, hk⟩
      · obtain ⟨j, q1, q2, q3, q4⟩ := ih (k + 1) (by omega) (fun z hz => by
          rcases Nat.lt_or_ge z k with q | q
          · exact hk z q
          · have e : z = k := by omega
            rw [e]
            simpa using hb) (by omega)
        exact ⟨j, q1, by omega, q3, q4⟩
  obtain ⟨j, q1, -, q3, q4⟩ := key 0 (fun j hj => absurd hj (Nat.not_lt_zero _)) (Nat.zero_le _)
  have hn := ok.1
  have e : gm_lg lo hi n p = j := gm_least_eq (by omega) (fun _ => q3) q4
  rw [e]
  exact ⟨q3, by omega⟩
set_option maxRecDepth 100000 in
set_option maxHeartbeats 4000000 in
theorem ct_CplayT {l : Launch} {D : va_G} {kI kB kC kL : ClassId} (ad : Nat → Nat) (n : Nat) (lo hi : Nat → Nat) (cs T : List Nat) (w0 : va_W) (h : csP kI kB kC ad n lo hi true cs T w0)  : kw_I l mn_C_play (gw mn_C_play cd_C_play 3 (some .int)) ({ frames := 6, cells := 0, slots := 0, locals := 137 } : Room) D cl_v (kt kI kB kC kL) kE [.ref (ad 0)] (w0) (fun r w => r = nI ((gm_play lo hi n (gm_run lo hi n cs).2.1 12 cs).length - cs.length) ∧ csP kI kB kC ad n lo hi true (gm_play lo hi n (gm_run lo hi n cs).2.1 12 cs) T w) 0 0 := by
  obtain ⟨les, oth, soc, rM, fM, rN, fN, La, ch, cst, ct, tk, rfl, zv, zb, ok, hX, ⟨k0, k1⟩, hC, hM⟩ := h
  refine kw_ofI (cc := cd_C_play) (maxL := 3) (ty := .int) (by decide) rfl (Nat.le_of_ble_eq_true rfl) rfl ?_
  intro pp ee s m args below meth c A X hr hlk hE hnm
  have hn := ok.1.1
  refine kw_aload_n X dc_C_play_0 rfl rfl ?_
  refine kw_callVV X kEw hE 0 rfl rfl (ct_reqT ad cs.length (gm_run lo hi n cs).1 (gm_run lo hi n cs).2.1) (cw_V 0 X wd_393 wd_395 wp_6 wd_1 wd_396 rfl rfl (by decide +kernel) ⟨Nat.le_of_ble_eq_true rfl, Nat.le_of_ble_eq_true rfl⟩) [0] rfl (by decide) (fun _ h => by subst h; exact Nat.le_refl _) rfl rfl (Nat.le_of_ble_eq_true rfl) dc_C_play_1 ⟨Nat.zero_le _, Nat.zero_le _⟩ (fun w hp => ?_)
  subst hp
  refine kw_cv (ws' := wCS kI kB kC ad n les oth soc rM fM rN fN La T.length ch cst ct tk cs.length (gm_run lo hi n cs).1 (gm_run lo hi n cs).2.1 true) rfl rfl rfl ?_
  refine kw_aload_n X dc_C_play_4 rfl rfl ?_
  refine kw_get X (wc_C _) 0 rfl rfl 10 (by decide) (gq wd_125) (fun _ h => h) rfl dc_C_play_5 ?_
  refine kw_istore_n X dc_C_play_8 rfl (by decide) ?_
  refine kw_iconst (v := (nI 0)) X dc_C_play_9 (by decide) ?_
  refine kw_istore_n X dc_C_play_10 rfl (by decide) ?_
  refine kw_loop (α := va_W × List Nat × Nat) (fun a => csP kI kB kC ad n lo hi true a.2.1 T a.1 ∧ a.2.2 ≤ 12 ∧ a.2.1.length = cs.length + a.2.2 ∧ gm_play lo hi n (gm_run lo hi n cs).2.1 (12 - a.2.2) a.2.1 = gm_play lo hi n (gm_run lo hi n cs).2.1 12 cs) (fun a => 12 - a.2.2) (fun a => a.1) (fun a => [some (.ref (ad 0)), some (.int (nI (gm_run lo hi n cs).2.1)), some (.int (nI a.2.2))]) (fun _ => []) (wCS kI kB kC ad n les oth soc rM fM rN fN La T.length ch cst ct tk cs.length (gm_run lo hi n cs).1 (gm_run lo hi n cs).2.1 true, cs, 0) ⟨⟨les, oth, soc, rM, fM, rN, fN, La, ch, cst, ct, tk, rfl, zv, zb, ok, hX, ⟨k0, k1⟩, hC, hM⟩, Nat.zero_le _, rfl, rfl⟩ (fun a hI ih => ?_)
  obtain ⟨w3, y, k⟩ := a
  obtain ⟨hq3, hk, hly, hpl⟩ := hI
  have hly : y.length = cs.length + k := hly
  have hk : k ≤ 12 := hk
  have hpl : gm_play lo hi n (gm_run lo hi n cs).2.1 (12 - k) y = gm_play lo hi n (gm_run lo hi n cs).2.1 12 cs := hpl
  obtain ⟨les3, oth3, soc3, rM3, fM3, rN3, fN3, La3, ch3, cst3, ct3, tk3, ew3, zv3, zb3, ok3, hX3, ⟨k03, k13⟩, hC3, hM3⟩ := hq3
  refine kw_cv (ws' := wCS kI kB kC ad n les3 oth3 soc3 rM3 fM3 rN3 fN3 La3 T.length ch3 cst3 ct3 tk3 y.length (gm_run lo hi n y).1 (gm_run lo hi n y).2.1 true) (lv' := [some (.ref (ad 0)), some (.int (nI (gm_run lo hi n cs).2.1)), some (.int (nI k))]) ew3 rfl rfl ?_
  have hpy := gm_run_p (lo := lo) (hi := hi) (n := n) y
  have hpy4 := kq_2n hn hpy
  have hU := gm_run_w (lo := lo) (hi := hi) (n := n) cs
  have hU2 := gm_run_w (lo := lo) (hi := hi) (n := n) y
  refine kw_iload_n X dc_C_play_11 rfl rfl ?_
  refine kw_bipush (v := (nI 12)) X dc_C_play_12 (by decide) ?_
  refine kw_icmp_ge (tgt := 57) X dc_C_play_14 (by decide) (fun hc14 => ?_) (fun hc14 => ?_)
  · have hk12 : k = 12 := Nat.le_antisymm hk (kq_le hc14)
    have hst : gm_play lo hi n (gm_run lo hi n cs).2.1 12 cs = y := by
      rw [← hpl, hk12]
      rfl
    refine kw_iload_n X dc_C_play_57 rfl rfl ?_
    exact kw_iret X hr hlk dc_C_play_58 ⟨by rw [hst]; exact congrArg nI (by omega), by rw [hst]; exact ⟨les3, oth3, soc3, rM3, fM3, rN3, fN3, La3, ch3, cst3, ct3, tk3, rfl, zv3, zb3, ok3, hX3, ⟨k03, k13⟩, hC3, hM3⟩⟩
  · have hk12 : k < 12 := kq_nle hc14
    refine kw_aload_n X dc_C_play_17 rfl rfl ?_
    refine kw_get X (wc_C _) 0 rfl rfl 9 (by decide) (gq wd_124) (fun _ h => h) rfl dc_C_play_18 ?_
    refine kw_if_eq (tgt := 57) X dc_C_play_21 (by decide) (fun hc21 => ?_) (fun hc21 => ?_)
    · have hst : gm_play lo hi n (gm_run lo hi n cs).2.1 12 cs = y := hpl.symm.trans (gm_play_stop (fun z => z.1 (kq_eq (b := 0) hc21)) _)
      refine kw_iload_n X dc_C_play_57 rfl rfl ?_
      exact kw_iret X hr hlk dc_C_play_58 ⟨by rw [hst]; exact congrArg nI (by omega), by rw [hst]; exact ⟨les3, oth3, soc3, rM3, fM3, rN3, fN3, La3, ch3, cst3, ct3, tk3, rfl, zv3, zb3, ok3, hX3, ⟨k03, k13⟩, hC3, hM3⟩⟩
    · have h20 := kq_ne (b := 0) hc21
      refine kw_aload_n X dc_C_play_24 rfl rfl ?_
      refine kw_get X (wc_C _) 0 rfl rfl 10 (by decide) (gq wd_125) (fun _ h => h) rfl dc_C_play_25 ?_
      refine kw_iload_n X dc_C_play_28 rfl rfl ?_
      refine kw_icmp_ne (tgt := 57) X dc_C_play_29 (by decide) (fun hc29 => ?_) (fun hc29 => ?_)
      · have hst : gm_play lo hi n (gm_run lo hi n cs).2.1 12 cs = y := hpl.symm.trans (gm_play_stop (fun z => kq_ne hc29 (by omega) (by omega) z.2) _)
        refine kw_iload_n X dc_C_play_57 rfl rfl ?_
        exact kw_iret X hr hlk dc_C_play_58 ⟨by rw [hst]; exact congrArg nI (by omega), by rw [hst]; exact ⟨les3, oth3, soc3, rM3, fM3, rN3, fN3, La3, ch3, cst3, ct3, tk3, rfl, zv3, zb3, ok3, hX3, ⟨k03, k13⟩, hC3, hM3⟩⟩
      · have h28 := kq_eq hc29
        obtain ⟨j3, j4⟩ := gm_lg_ok ok3.1 hpy h20
        obtain ⟨j1, j2⟩ := gm_good_tb j3
        have hgl : gm_good lo hi n (gm_run lo hi n y).1 < 4096 := kq_2n hn (gm_ms_lt _ n)
        refine kw_aload_n X dc_C_play_32 rfl rfl ?_
        refine kw_aload_n X dc_C_play_33 rfl rfl ?_
        refine kw_get X (wc_C _) 0 rfl rfl 1 (by decide) (gq wd_116) (fun _ h => h) rfl dc_C_play_34 ?_
        refine kw_aload_n X dc_C_play_37 rfl rfl ?_
        refine kw_get X (wc_C _) 0 rfl rfl 9 (by decide) (gq wd_124) (fun _ h => h) rfl dc_C_play_38 ?_
        refine kw_callUI X kEw hE 0 rfl rfl (ct_goodM (ad 5) (ad 6) (ad 1) (ad 2) (ad 3) (ad 4) n rM3 fM3 les3 oth3 soc3 lo hi ok3 (hM3 rfl).1 (gm_run lo hi n y).1 hpy) (cw_U 1 X wd_457 wd_458 wd_460 wd_461 wd_3 wd_462 rfl rfl rfl (by decide +kernel) ⟨Nat.le_of_ble_eq_true rfl, Nat.le_of_ble_eq_true rfl⟩) [5, 6, 1, 2, 3, 4] rfl (by decide) (fun _ _ h => by obtain ⟨_, g, rfl, _⟩ := h; exact Nat.le_refl _) rfl rfl (Nat.le_of_ble_eq_true rfl) dc_C_play_41 ⟨Nat.zero_le _, Nat.zero_le _⟩ (fun r w hp => ?_)
        obtain ⟨rfl, f2, rfl, tb⟩ := hp
        refine kw_cv (ws' := wCS kI kB kC ad n les3 oth3 soc3 (nI 1) f2 rN3 fN3 La3 T.length ch3 cst3 ct3 tk3 y.length (gm_run lo hi n y).1 (gm_run lo hi n y).2.1 true) rfl rfl rfl ?_
        refine kw_callSI X kEw hE (ct_least (nI (gm_good lo hi n (gm_run lo hi n y).1)) (fun i => (gm_good lo hi n (gm_run lo hi n y).1).testBit i) (fun i9 hi9 => by rw [bq_has (by omega) (by omega), ← bq_tb]; exact nI_eq (b := 1) (by omega) (by omega))) (cw_S 1 X wd_505 wd_491 wd_1 wd_492 rfl rfl (by decide +kernel) ⟨Nat.le_of_ble_eq_true rfl, Nat.le_of_ble_eq_true rfl⟩) [] rfl (by decide) (fun _ _ _ => Nat.zero_le _) rfl rfl (Nat.le_of_ble_eq_true rfl) dc_C_play_44 ⟨Nat.zero_le _, Nat.zero_le _⟩ (fun r w hp => ?_)
        obtain ⟨rfl, rfl⟩ := hp
        refine kw_cv (ws' := wCS kI kB kC ad n les3 oth3 soc3 (nI 1) f2 rN3 fN3 La3 T.length ch3 cst3 ct3 tk3 y.length (gm_run lo hi n y).1 (gm_run lo hi n y).2.1 true) rfl rfl rfl ?_
        refine kw_callVI X kEw hE 0 rfl rfl (ct_sever ad n lo hi true y T (wCS kI kB kC ad n les3 oth3 soc3 (nI 1) f2 rN3 fN3 La3 T.length ch3 cst3 ct3 tk3 y.length (gm_run lo hi n y).1 (gm_run lo hi n y).2.1 true) ⟨les3, oth3, soc3, (nI 1), f2, rN3, fN3, La3, ch3, cst3, ct3, tk3, rfl, zv3, zb3, ok3, hX3, ⟨k03, k13⟩, hC3, (fun _ => ⟨Or.inl ⟨rfl, tb⟩, (hM3 rfl).2⟩)⟩ (gm_lg lo hi n (gm_run lo hi n y).1) j4 j2 rfl) (cw_V 1 X wd_428 wd_430 wp_7 wd_1 wd_431 rfl rfl (by decide +kernel) ⟨Nat.le_of_ble_eq_true rfl, Nat.le_of_ble_eq_true rfl⟩) [0, 1, 2, 3, 4, 5, 6, 7, 8, 9, 10, 11, 12, 13, 14, 15] rfl (by decide) (fun _ _ h => csP_len h.2) rfl rfl (Nat.le_of_ble_eq_true rfl) dc_C_play_47 ⟨Nat.zero_le _, Nat.zero_le _⟩ (fun r w hp => ?_)
        obtain ⟨rfl, les4, oth4, soc4, rM4, fM4, rN4, fN4, La4, ch4, cst4, ct4, tk4, rfl, zv4, zb4, ok4, hX4, ⟨k04, k14⟩, hC4, hM4⟩ := hp
        refine kw_cv (ws' := wCS kI kB kC ad n les4 oth4 soc4 rM4 fM4 rN4 fN4 La4 T.length ch4 cst4 ct4 tk4 (gm_lg lo hi n (gm_run lo hi n y).1 :: y).length (gm_run lo hi n (gm_lg lo hi n (gm_run lo hi n y).1 :: y)).1 (gm_run lo hi n (gm_lg lo hi n (gm_run lo hi n y).1 :: y)).2.1 true) rfl rfl rfl ?_
        refine kw_pop X dc_C_play_50 rfl ?_
        refine kw_iinc (v := nI (k + 1)) X dc_C_play_51 rfl (kq_inc k) (by decide) ?_
        refine kw_goto (tgt := 11) X dc_C_play_54 (by decide) ?_
        exact ih (_, gm_lg lo hi n (gm_run lo hi n y).1 :: y, k + 1) ⟨⟨les4, oth4, soc4, rM4, fM4, rN4, fN4, La4, ch4, cst4, ct4, tk4, rfl, zv4, zb4, ok4, hX4, ⟨k04, k14⟩, hC4, hM4⟩, by show k + 1 ≤ 12; omega, by show y.length + 1 = cs.length + (k + 1); omega, by show gm_play lo hi n (gm_run lo hi n cs).2.1 (12 - (k + 1)) (gm_lg lo hi n (gm_run lo hi n y).1 :: y) = _; rw [← hpl, show (12 - k) = (12 - (k + 1)) + 1 by omega, gm_play_go ⟨h20, h28⟩]⟩ (by show 12 - (k + 1) < 12 - k; omega)
