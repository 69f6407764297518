/-! the class's methods where they throw -/
theorem i32_tN (a : Int32) : (0 ≤ a ↔ (0 : Int) ≤ a.toInt) := by rw [Int32.le_iff_toInt_le]; rfl
theorem i32_n2 {j : Int32} (h : ¬ j < 0) (h0 : ¬ j = nI 0) (h1 : ¬ j = nI 1) : ¬ j < nI 2 := by
  intro z
  rw [Int32.lt_iff_toInt_lt] at h z
  have e0 : j.toInt ≠ 0 := fun e => h0 (Int32.toInt_inj.mp e)
  have e1 : j.toInt ≠ 1 := fun e => h1 (Int32.toInt_inj.mp e)
  have z2 : j.toInt < 2 := z
  have z3 : ¬ j.toInt < 0 := h
  omega
theorem i32_lt8 {a : Int32} (h : 0 ≤ a ∧ a < nI 8) : 0 ≤ a ∧ a ≤ nI 7 := by
  refine ⟨h.1, ?_⟩
  have z := h.2
  rw [Int32.lt_iff_toInt_lt] at z
  rw [Int32.le_iff_toInt_le]
  have z2 : a.toInt < 8 := z
  show a.toInt ≤ 7
  omega
theorem i32_to8 {a : Int32} (h : 0 ≤ a ∧ a ≤ nI 7) : 0 ≤ a ∧ a < nI 8 := by
  refine ⟨h.1, ?_⟩
  have z := h.2
  rw [Int32.le_iff_toInt_le] at z
  rw [Int32.lt_iff_toInt_lt]
  have z2 : a.toInt ≤ 7 := z
  show a.toInt < 8
  omega
theorem i32_m1 {b : Int32} (h : 0 ≤ b) : -1 ≤ b := by
  rw [Int32.le_iff_toInt_le] at h ⊢
  have z : (0 : Int) ≤ b.toInt := h
  show (-1 : Int) ≤ b.toInt
  omega
theorem ad_c1 {a b : Int32} (h1 : 0 ≤ a ∧ a < nI 8) (h2 : 0 ≤ b ∧ b < nI 8) (h3 : ¬ a = b) : adOk a b := ⟨i32_lt8 h1, ⟨i32_m1 h2.1, (i32_lt8 h2).2⟩, h3⟩
theorem ad_c2 {a b : Int32} (h1 : 0 ≤ a ∧ a < nI 8) (h2 : b = -1) (h3 : ¬ a = b) : adOk a b := ⟨i32_lt8 h1, by rw [h2]; decide, h3⟩
theorem ad_m1 {b : Int32} (h : -1 ≤ b ∧ b ≤ nI 7) (h2 : ¬ (0 ≤ b ∧ b < nI 8)) : b = -1 := by
  have z1 := h.1
  have z2 := h.2
  rw [Int32.le_iff_toInt_le] at z1 z2
  have z3 : (-1 : Int) ≤ b.toInt := z1
  have z4 : b.toInt ≤ 7 := z2
  apply Int32.toInt_inj.mp
  show b.toInt = -1
  rcases Int.lt_or_le b.toInt 0 with q | q
  · omega
  · refine absurd ⟨?_, ?_⟩ h2
    · rw [Int32.le_iff_toInt_le]; exact q
    · rw [Int32.lt_iff_toInt_lt]; show b.toInt < 8; omega
set_option maxRecDepth 100000 in
set_option maxHeartbeats 4000000 in
theorem ct_reqF {l : Launch} {D : va_G} {kI kB kC kL : ClassId} (hl0 : l.stackTraces = false) (ad : Nat → Nat) (k p u : Nat) : kx_T l mn_C_requireBegun (gw mn_C_requireBegun cd_C_requireBegun 1 none) ({ frames := 6, cells := 1, slots := 6, locals := 81 } : Room) D cl_v (kt kI kB kC kL) kEx [.ref (ad 0)] ([(ad 0, .inr (0, [.ref (ad 1), .ref (ad 5), .ref (ad 7), .ref (ad 9), .ref (ad 11), .ref (ad 13), .ref (ad 14), .ref (ad 15), .int (nI k), .int (nI p), .int (nI u), .int (bI false)]))]) "java/lang/IllegalStateException" (fun w => w = [(ad 0, .inr (0, [.ref (ad 1), .ref (ad 5), .ref (ad 7), .ref (ad 9), .ref (ad 11), .ref (ad 13), .ref (ad 14), .ref (ad 15), .int (nI k), .int (nI p), .int (nI u), .int (bI false)]))]) 1 6 := by
  refine kx_ofT (cc := cd_C_requireBegun) (maxL := 1) (ret := none) (by decide) rfl (Nat.le_of_ble_eq_true rfl) rfl ?_
  intro pp ee s m args below meth c A X hlk hEx hN htb
  have hE := hEx.1
  refine kw_aload_n X dc_C_requireBegun_0 rfl rfl ?_
  refine kw_get X (wc_C _) 0 rfl rfl 11 (by decide) (gq wd_126) (fun _ h => h) rfl dc_C_requireBegun_1 ?_
  refine kw_if_ne (tgt := 15) X dc_C_requireBegun_4 (by decide) (fun hc4 => ?_) (fun hc4 => ?_)
  · exact absurd rfl hc4
  · exact kx_throw X hl0 hEx hN htb hlk (by decide +kernel) wd_328 wd_13 oa_ISE dc_C_requireBegun_7 dc_C_requireBegun_10 dc_C_requireBegun_11 dc_C_requireBegun_14 ⟨⟨Nat.le_of_ble_eq_true rfl, Nat.le_of_ble_eq_true rfl⟩, Nat.le_of_ble_eq_true rfl, Nat.le_of_ble_eq_true rfl⟩ ⟨rfl, rfl⟩ rfl
set_option maxRecDepth 100000 in
set_option maxHeartbeats 4000000 in
theorem ct_CcutF1 {l : Launch} {D : va_G} {kI kB kC kL : ClassId} (hl0 : l.stackTraces = false) (ad : Nat → Nat) (n : Nat) (lo hi : Nat → Nat) (cs T : List Nat) (w0 : va_W) (h : csP kI kB kC ad n lo hi false cs T w0) (a : Int32) : kx_T l mn_C_cut (gw mn_C_cut cd_C_cut 2 (some .int)) ({ frames := 7, cells := 1, slots := 6, locals := 101 } : Room) D cl_v (kt kI kB kC kL) kEx [.ref (ad 0), .int a] (w0) "java/lang/IllegalStateException" (fun w => csP kI kB kC ad n lo hi false cs T w) 1 6 := by
  obtain ⟨les, oth, soc, rM, fM, rN, fN, La, ch, cst, ct, tk, rfl, zv, zb, ok, hX, ⟨k0, k1⟩, hC, hM⟩ := h
  refine kx_ofT (cc := cd_C_cut) (maxL := 2) (ret := (some .int)) (by decide) rfl (Nat.le_of_ble_eq_true rfl) rfl ?_
  intro pp ee s m args below meth c A X hlk hEx hN htb
  have hE := hEx.1
  refine kw_aload_n X dc_C_cut_0 rfl rfl ?_
  exact kx_passV X hEx hN htb hlk 0 rfl rfl (ct_reqF hl0 ad cs.length (gm_run lo hi n cs).1 (gm_run lo hi n cs).2.1) (cw_V 0 X wd_393 wd_395 wp_6 wd_1 wd_396 rfl rfl (by decide +kernel) ⟨Nat.le_of_ble_eq_true rfl, Nat.le_of_ble_eq_true rfl⟩) [0] rfl (by decide) (fun _ h => by subst h; exact Nat.le_refl _) rfl rfl (Nat.le_of_ble_eq_true rfl) dc_C_cut_1 ⟨Nat.le_of_ble_eq_true rfl, Nat.le_of_ble_eq_true rfl⟩ ⟨rfl, rfl⟩ (fun w hp => by subst hp; exact ⟨les, oth, soc, rM, fM, rN, fN, La, ch, cst, ct, tk, rfl, zv, zb, ok, hX, ⟨k0, k1⟩, hC, hM⟩)
set_option maxRecDepth 100000 in
set_option maxHeartbeats 4000000 in
theorem ct_CplayF {l : Launch} {D : va_G} {kI kB kC kL : ClassId} (hl0 : l.stackTraces = false) (ad : Nat → Nat) (n : Nat) (lo hi : Nat → Nat) (cs T : List Nat) (w0 : va_W) (h : csP kI kB kC ad n lo hi false cs T w0)  : kx_T l mn_C_play (gw mn_C_play cd_C_play 3 (some .int)) ({ frames := 7, cells := 1, slots := 6, locals := 101 } : Room) D cl_v (kt kI kB kC kL) kEx [.ref (ad 0)] (w0) "java/lang/IllegalStateException" (fun w => csP kI kB kC ad n lo hi false cs T w) 1 6 := by
  obtain ⟨les, oth, soc, rM, fM, rN, fN, La, ch, cst, ct, tk, rfl, zv, zb, ok, hX, ⟨k0, k1⟩, hC, hM⟩ := h
  refine kx_ofT (cc := cd_C_play) (maxL := 3) (ret := (some .int)) (by decide) rfl (Nat.le_of_ble_eq_true rfl) rfl ?_
  intro pp ee s m args below meth c A X hlk hEx hN htb
  have hE := hEx.1
  refine kw_aload_n X dc_C_play_0 rfl rfl ?_
  exact kx_passV X hEx hN htb hlk 0 rfl rfl (ct_reqF hl0 ad cs.length (gm_run lo hi n cs).1 (gm_run lo hi n cs).2.1) (cw_V 0 X wd_393 wd_395 wp_6 wd_1 wd_396 rfl rfl (by decide +kernel) ⟨Nat.le_of_ble_eq_true rfl, Nat.le_of_ble_eq_true rfl⟩) [0] rfl (by decide) (fun _ h => by subst h; exact Nat.le_refl _) rfl rfl (Nat.le_of_ble_eq_true rfl) dc_C_play_1 ⟨Nat.le_of_ble_eq_true rfl, Nat.le_of_ble_eq_true rfl⟩ ⟨rfl, rfl⟩ (fun w hp => by subst hp; exact ⟨les, oth, soc, rM, fM, rN, fN, La, ch, cst, ct, tk, rfl, zv, zb, ok, hX, ⟨k0, k1⟩, hC, hM⟩)
set_option maxRecDepth 100000 in
set_option maxHeartbeats 4000000 in
theorem ct_CmarginF {l : Launch} {D : va_G} {kI kB kC kL : ClassId} (hl0 : l.stackTraces = false) (ad : Nat → Nat) (n : Nat) (lo hi : Nat → Nat) (cs T : List Nat) (w0 : va_W) (h : csP kI kB kC ad n lo hi false cs T w0)  : kx_T l mn_C_margin (gw mn_C_margin cd_C_margin 1 (some .int)) ({ frames := 7, cells := 1, slots := 6, locals := 101 } : Room) D cl_v (kt kI kB kC kL) kEx [.ref (ad 0)] (w0) "java/lang/IllegalStateException" (fun w => csP kI kB kC ad n lo hi false cs T w) 1 6 := by
  obtain ⟨les, oth, soc, rM, fM, rN, fN, La, ch, cst, ct, tk, rfl, zv, zb, ok, hX, ⟨k0, k1⟩, hC, hM⟩ := h
  refine kx_ofT (cc := cd_C_margin) (maxL := 1) (ret := (some .int)) (by decide) rfl (Nat.le_of_ble_eq_true rfl) rfl ?_
  intro pp ee s m args below meth c A X hlk hEx hN htb
  have hE := hEx.1
  refine kw_aload_n X dc_C_margin_0 rfl rfl ?_
  exact kx_passV X hEx hN htb hlk 0 rfl rfl (ct_reqF hl0 ad cs.length (gm_run lo hi n cs).1 (gm_run lo hi n cs).2.1) (cw_V 0 X wd_393 wd_395 wp_6 wd_1 wd_396 rfl rfl (by decide +kernel) ⟨Nat.le_of_ble_eq_true rfl, Nat.le_of_ble_eq_true rfl⟩) [0] rfl (by decide) (fun _ h => by subst h; exact Nat.le_refl _) rfl rfl (Nat.le_of_ble_eq_true rfl) dc_C_margin_1 ⟨Nat.le_of_ble_eq_true rfl, Nat.le_of_ble_eq_true rfl⟩ ⟨rfl, rfl⟩ (fun w hp => by subst hp; exact ⟨les, oth, soc, rM, fM, rN, fN, La, ch, cst, ct, tk, rfl, zv, zb, ok, hX, ⟨k0, k1⟩, hC, hM⟩)
set_option maxRecDepth 100000 in
set_option maxHeartbeats 4000000 in
theorem ct_CgoodF {l : Launch} {D : va_G} {kI kB kC kL : ClassId} (hl0 : l.stackTraces = false) (ad : Nat → Nat) (n : Nat) (lo hi : Nat → Nat) (cs T : List Nat) (w0 : va_W) (h : csP kI kB kC ad n lo hi false cs T w0)  : kx_T l mn_C_good (gw mn_C_good cd_C_good 1 (some .int)) ({ frames := 7, cells := 1, slots := 6, locals := 101 } : Room) D cl_v (kt kI kB kC kL) kEx [.ref (ad 0)] (w0) "java/lang/IllegalStateException" (fun w => csP kI kB kC ad n lo hi false cs T w) 1 6 := by
  obtain ⟨les, oth, soc, rM, fM, rN, fN, La, ch, cst, ct, tk, rfl, zv, zb, ok, hX, ⟨k0, k1⟩, hC, hM⟩ := h
  refine kx_ofT (cc := cd_C_good) (maxL := 1) (ret := (some .int)) (by decide) rfl (Nat.le_of_ble_eq_true rfl) rfl ?_
  intro pp ee s m args below meth c A X hlk hEx hN htb
  have hE := hEx.1
  refine kw_aload_n X dc_C_good_0 rfl rfl ?_
  exact kx_passV X hEx hN htb hlk 0 rfl rfl (ct_reqF hl0 ad cs.length (gm_run lo hi n cs).1 (gm_run lo hi n cs).2.1) (cw_V 0 X wd_393 wd_395 wp_6 wd_1 wd_396 rfl rfl (by decide +kernel) ⟨Nat.le_of_ble_eq_true rfl, Nat.le_of_ble_eq_true rfl⟩) [0] rfl (by decide) (fun _ h => by subst h; exact Nat.le_refl _) rfl rfl (Nat.le_of_ble_eq_true rfl) dc_C_good_1 ⟨Nat.le_of_ble_eq_true rfl, Nat.le_of_ble_eq_true rfl⟩ ⟨rfl, rfl⟩ (fun w hp => by subst hp; exact ⟨les, oth, soc, rM, fM, rN, fN, La, ch, cst, ct, tk, rfl, zv, zb, ok, hX, ⟨k0, k1⟩, hC, hM⟩)
set_option maxRecDepth 100000 in
set_option maxHeartbeats 4000000 in
theorem ct_CnimF {l : Launch} {D : va_G} {kI kB kC kL : ClassId} (hl0 : l.stackTraces = false) (ad : Nat → Nat) (n : Nat) (lo hi : Nat → Nat) (cs T : List Nat) (w0 : va_W) (h : csP kI kB kC ad n lo hi false cs T w0)  : kx_T l mn_C_nim (gw mn_C_nim cd_C_nim 1 (some .int)) ({ frames := 7, cells := 1, slots := 6, locals := 101 } : Room) D cl_v (kt kI kB kC kL) kEx [.ref (ad 0)] (w0) "java/lang/IllegalStateException" (fun w => csP kI kB kC ad n lo hi false cs T w) 1 6 := by
  obtain ⟨les, oth, soc, rM, fM, rN, fN, La, ch, cst, ct, tk, rfl, zv, zb, ok, hX, ⟨k0, k1⟩, hC, hM⟩ := h
  refine kx_ofT (cc := cd_C_nim) (maxL := 1) (ret := (some .int)) (by decide) rfl (Nat.le_of_ble_eq_true rfl) rfl ?_
  intro pp ee s m args below meth c A X hlk hEx hN htb
  have hE := hEx.1
  refine kw_aload_n X dc_C_nim_0 rfl rfl ?_
  exact kx_passV X hEx hN htb hlk 0 rfl rfl (ct_reqF hl0 ad cs.length (gm_run lo hi n cs).1 (gm_run lo hi n cs).2.1) (cw_V 0 X wd_393 wd_395 wp_6 wd_1 wd_396 rfl rfl (by decide +kernel) ⟨Nat.le_of_ble_eq_true rfl, Nat.le_of_ble_eq_true rfl⟩) [0] rfl (by decide) (fun _ h => by subst h; exact Nat.le_refl _) rfl rfl (Nat.le_of_ble_eq_true rfl) dc_C_nim_1 ⟨Nat.le_of_ble_eq_true rfl, Nat.le_of_ble_eq_true rfl⟩ ⟨rfl, rfl⟩ (fun w hp => by subst hp; exact ⟨les, oth, soc, rM, fM, rN, fN, La, ch, cst, ct, tk, rfl, zv, zb, ok, hX, ⟨k0, k1⟩, hC, hM⟩)
set_option maxRecDepth 100000 in
set_option maxHeartbeats 4000000 in
theorem ct_CmadF {l : Launch} {D : va_G} {kI kB kC kL : ClassId} (hl0 : l.stackTraces = false) (ad : Nat → Nat) (n : Nat) (lo hi : Nat → Nat) (cs T : List Nat) (w0 : va_W) (h : csP kI kB kC ad n lo hi false cs T w0)  : kx_T l mn_C_mad (gw mn_C_mad cd_C_mad 1 (some .int)) ({ frames := 7, cells := 1, slots := 6, locals := 101 } : Room) D cl_v (kt kI kB kC kL) kEx [.ref (ad 0)] (w0) "java/lang/IllegalStateException" (fun w => csP kI kB kC ad n lo hi false cs T w) 1 6 := by
  obtain ⟨les, oth, soc, rM, fM, rN, fN, La, ch, cst, ct, tk, rfl, zv, zb, ok, hX, ⟨k0, k1⟩, hC, hM⟩ := h
  refine kx_ofT (cc := cd_C_mad) (maxL := 1) (ret := (some .int)) (by decide) rfl (Nat.le_of_ble_eq_true rfl) rfl ?_
  intro pp ee s m args below meth c A X hlk hEx hN htb
  have hE := hEx.1
  refine kw_aload_n X dc_C_mad_0 rfl rfl ?_
  exact kx_passV X hEx hN htb hlk 0 rfl rfl (ct_reqF hl0 ad cs.length (gm_run lo hi n cs).1 (gm_run lo hi n cs).2.1) (cw_V 0 X wd_393 wd_395 wp_6 wd_1 wd_396 rfl rfl (by decide +kernel) ⟨Nat.le_of_ble_eq_true rfl, Nat.le_of_ble_eq_true rfl⟩) [0] rfl (by decide) (fun _ h => by subst h; exact Nat.le_refl _) rfl rfl (Nat.le_of_ble_eq_true rfl) dc_C_mad_1 ⟨Nat.le_of_ble_eq_true rfl, Nat.le_of_ble_eq_true rfl⟩ ⟨rfl, rfl⟩ (fun w hp => by subst hp; exact ⟨les, oth, soc, rM, fM, rN, fN, La, ch, cst, ct, tk, rfl, zv, zb, ok, hX, ⟨k0, k1⟩, hC, hM⟩)
set_option maxRecDepth 100000 in
set_option maxHeartbeats 4000000 in
theorem ct_CcutF2 {l : Launch} {D : va_G} {kI kB kC kL : ClassId} (hl0 : l.stackTraces = false) (ad : Nat → Nat) (n : Nat) (lo hi : Nat → Nat) (cs T : List Nat) (w0 : va_W) (h : csP kI kB kC ad n lo hi true cs T w0) (a : Int32) (ha : ¬ (0 ≤ a ∧ a < nI n)) : kx_T l mn_C_cut (gw mn_C_cut cd_C_cut 2 (some .int)) ({ frames := 6, cells := 1, slots := 6, locals := 81 } : Room) D cl_v (kt kI kB kC kL) kEx [.ref (ad 0), .int a] (w0) "java/lang/IndexOutOfBoundsException" (fun w => csP kI kB kC ad n lo hi true cs T w) 1 6 := by
  obtain ⟨les, oth, soc, rM, fM, rN, fN, La, ch, cst, ct, tk, rfl, zv, zb, ok, hX, ⟨k0, k1⟩, hC, hM⟩ := h
  refine kx_ofT (cc := cd_C_cut) (maxL := 2) (ret := (some .int)) (by decide) rfl (Nat.le_of_ble_eq_true rfl) rfl ?_
  intro pp ee s m args below meth c A X hlk hEx hN htb
  have hE := hEx.1
  refine kw_aload_n X dc_C_cut_0 rfl rfl ?_
  refine kw_callVV X kEw hE 0 rfl rfl (ct_reqT ad cs.length (gm_run lo hi n cs).1 (gm_run lo hi n cs).2.1) (cw_V 0 X wd_393 wd_395 wp_6 wd_1 wd_396 rfl rfl (by decide +kernel) ⟨Nat.le_of_ble_eq_true rfl, Nat.le_of_ble_eq_true rfl⟩) [0] rfl (by decide) (fun _ h => by subst h; exact Nat.le_refl _) rfl rfl (Nat.le_of_ble_eq_true rfl) dc_C_cut_1 ⟨Nat.zero_le _, Nat.zero_le _⟩ (fun w hp => ?_)
  subst hp
  refine kw_cv (ws' := wCS kI kB kC ad n les oth soc rM fM rN fN La T.length ch cst ct tk cs.length (gm_run lo hi n cs).1 (gm_run lo hi n cs).2.1 true) rfl rfl rfl ?_
  refine kw_iload_n X dc_C_cut_4 rfl rfl ?_
  refine kw_if_lt (tgt := 19) X dc_C_cut_5 (by decide) (fun hc5 => ?_) (fun hc5 => ?_)
  · exact kx_throw X hl0 hEx hN htb hlk (by decide +kernel) wd_397 wd_16 oa_IOB dc_C_cut_19 dc_C_cut_22 dc_C_cut_23 dc_C_cut_26 ⟨⟨Nat.le_of_ble_eq_true rfl, Nat.le_of_ble_eq_true rfl⟩, Nat.le_of_ble_eq_true rfl, Nat.le_of_ble_eq_true rfl⟩ ⟨rfl, rfl⟩ ⟨les, oth, soc, rM, fM, rN, fN, La, ch, cst, ct, tk, rfl, zv, zb, ok, hX, ⟨k0, k1⟩, hC, hM⟩
  · refine kw_iload_n X dc_C_cut_8 rfl rfl ?_
    refine kw_aload_n X dc_C_cut_9 rfl rfl ?_
    refine kw_get X (wc_C _) 0 rfl rfl 0 (by decide) (gq wd_115) (fun _ h => h) rfl dc_C_cut_10 ?_
    refine kw_callVI X kEw hE 0 rfl rfl (ct_size (ad 1) (ad 2) (ad 3) (ad 4) n les oth soc) (cw_V 0 X wd_327 wd_191 wd_192 wd_2 wd_193 rfl rfl (by decide +kernel) ⟨Nat.le_of_ble_eq_true rfl, Nat.le_of_ble_eq_true rfl⟩) [1, 2, 3, 4] rfl (by decide) (fun _ _ h => by obtain ⟨rfl, _⟩ := h; exact Nat.le_refl _) rfl rfl (Nat.le_of_ble_eq_true rfl) dc_C_cut_13 ⟨Nat.zero_le _, Nat.zero_le _⟩ (fun r w hp => ?_)
    obtain ⟨rfl, rfl⟩ := hp
    refine kw_cv (ws' := wCS kI kB kC ad n les oth soc rM fM rN fN La T.length ch cst ct tk cs.length (gm_run lo hi n cs).1 (gm_run lo hi n cs).2.1 true) rfl rfl rfl ?_
    refine kw_icmp_lt (tgt := 27) X dc_C_cut_16 (by decide) (fun hc16 => ?_) (fun hc16 => ?_)
    · exact absurd ⟨Int32.not_lt.mp hc5, hc16⟩ ha
    · exact kx_throw X hl0 hEx hN htb hlk (by decide +kernel) wd_397 wd_16 oa_IOB dc_C_cut_19 dc_C_cut_22 dc_C_cut_23 dc_C_cut_26 ⟨⟨Nat.le_of_ble_eq_true rfl, Nat.le_of_ble_eq_true rfl⟩, Nat.le_of_ble_eq_true rfl, Nat.le_of_ble_eq_true rfl⟩ ⟨rfl, rfl⟩ ⟨les, oth, soc, rM, fM, rN, fN, La, ch, cst, ct, tk, rfl, zv, zb, ok, hX, ⟨k0, k1⟩, hC, hM⟩
set_option maxRecDepth 100000 in
set_option maxHeartbeats 4000000 in
theorem ct_CcutF3 {l : Launch} {D : va_G} {kI kB kC kL : ClassId} (hl0 : l.stackTraces = false) (ad : Nat → Nat) (n : Nat) (lo hi : Nat → Nat) (cs T : List Nat) (w0 : va_W) (h : csP kI kB kC ad n lo hi true cs T w0) (i : Nat) (hi1 : i < n) (hb : (gm_run lo hi n cs).1.testBit i = false) : kx_T l mn_C_cut (gw mn_C_cut cd_C_cut 2 (some .int)) ({ frames := 6, cells := 1, slots := 6, locals := 81 } : Room) D cl_v (kt kI kB kC kL) kEx [.ref (ad 0), .int (nI i)] (w0) "java/util/NoSuchElementException" (fun w => csP kI kB kC ad n lo hi true cs T w) 1 6 := by
  obtain ⟨les, oth, soc, rM, fM, rN, fN, La, ch, cst, ct, tk, rfl, zv, zb, ok, hX, ⟨k0, k1⟩, hC, hM⟩ := h
  refine kx_ofT (cc := cd_C_cut) (maxL := 2) (ret := (some .int)) (by decide) rfl (Nat.le_of_ble_eq_true rfl) rfl ?_
  intro pp ee s m args below meth c A X hlk hEx hN htb
  have hE := hEx.1
  have hn := ok.1.1
  have hp4 := kq_2n hn (gm_run_p (lo := lo) (hi := hi) (n := n) cs)
  refine kw_aload_n X dc_C_cut_0 rfl rfl ?_
  refine kw_callVV X kEw hE 0 rfl rfl (ct_reqT ad cs.length (gm_run lo hi n cs).1 (gm_run lo hi n cs).2.1) (cw_V 0 X wd_393 wd_395 wp_6 wd_1 wd_396 rfl rfl (by decide +kernel) ⟨Nat.le_of_ble_eq_true rfl, Nat.le_of_ble_eq_true rfl⟩) [0] rfl (by decide) (fun _ h => by subst h; exact Nat.le_refl _) rfl rfl (Nat.le_of_ble_eq_true rfl) dc_C_cut_1 ⟨Nat.zero_le _, Nat.zero_le _⟩ (fun w hp => ?_)
  subst hp
  refine kw_cv (ws' := wCS kI kB kC ad n les oth soc rM fM rN fN La T.length ch cst ct tk cs.length (gm_run lo hi n cs).1 (gm_run lo hi n cs).2.1 true) rfl rfl rfl ?_
  refine kw_iload_n X dc_C_cut_4 rfl rfl ?_
  refine kw_if_lt (tgt := 19) X dc_C_cut_5 (by decide) (fun hc5 => ?_) (fun hc5 => ?_)
  · exact absurd hc5 (Int32.not_lt.mpr (nI_nn (by omega)))
  · refine kw_iload_n X dc_C_cut_8 rfl rfl ?_
    refine kw_aload_n X dc_C_cut_9 rfl rfl ?_
    refine kw_get X (wc_C _) 0 rfl rfl 0 (by decide) (gq wd_115) (fun _ h => h) rfl dc_C_cut_10 ?_
    refine kw_callVI X kEw hE 0 rfl rfl (ct_size (ad 1) (ad 2) (ad 3) (ad 4) n les oth soc) (cw_V 0 X wd_327 wd_191 wd_192 wd_2 wd_193 rfl rfl (by decide +kernel) ⟨Nat.le_of_ble_eq_true rfl, Nat.le_of_ble_eq_true rfl⟩) [1, 2, 3, 4] rfl (by decide) (fun _ _ h => by obtain ⟨rfl, _⟩ := h; exact Nat.le_refl _) rfl rfl (Nat.le_of_ble_eq_true rfl) dc_C_cut_13 ⟨Nat.zero_le _, Nat.zero_le _⟩ (fun r w hp => ?_)
    obtain ⟨rfl, rfl⟩ := hp
    refine kw_cv (ws' := wCS kI kB kC ad n les oth soc rM fM rN fN La T.length ch cst ct tk cs.length (gm_run lo hi n cs).1 (gm_run lo hi n cs).2.1 true) rfl rfl rfl ?_
    refine kw_icmp_lt (tgt := 27) X dc_C_cut_16 (by decide) (fun hc16 => ?_) (fun hc16 => ?_)
    · refine kw_aload_n X dc_C_cut_27 rfl rfl ?_
      refine kw_get X (wc_C _) 0 rfl rfl 9 (by decide) (gq wd_124) (fun _ h => h) rfl dc_C_cut_28 ?_
      refine kw_iload_n X dc_C_cut_31 rfl rfl ?_
      refine kw_callSI X kEw hE (ct_hasN (gm_run lo hi n cs).1 i (by omega) (by omega)) (cw_S 2 X wd_412 wd_195 wd_1 wd_196 rfl rfl (by decide +kernel) ⟨Nat.le_of_ble_eq_true rfl, Nat.le_of_ble_eq_true rfl⟩) [] rfl (by decide) (fun _ _ _ => Nat.zero_le _) rfl rfl (Nat.le_of_ble_eq_true rfl) dc_C_cut_32 ⟨Nat.zero_le _, Nat.zero_le _⟩ (fun r w hp => ?_)
      obtain ⟨rfl, rfl⟩ := hp
      refine kw_cv (ws' := wCS kI kB kC ad n les oth soc rM fM rN fN La T.length ch cst ct tk cs.length (gm_run lo hi n cs).1 (gm_run lo hi n cs).2.1 true) rfl rfl rfl ?_
      refine kw_if_ne (tgt := 46) X dc_C_cut_35 (by decide) (fun hc35 => ?_) (fun hc35 => ?_)
      · have h35 := kq_z1 hc35; rw [hb] at h35; cases h35
      · exact kx_throw X hl0 hEx hN htb hlk (by decide +kernel) wd_413 wd_17 oa_NSE dc_C_cut_38 dc_C_cut_41 dc_C_cut_42 dc_C_cut_45 ⟨⟨Nat.le_of_ble_eq_true rfl, Nat.le_of_ble_eq_true rfl⟩, Nat.le_of_ble_eq_true rfl, Nat.le_of_ble_eq_true rfl⟩ ⟨rfl, rfl⟩ ⟨les, oth, soc, rM, fM, rN, fN, La, ch, cst, ct, tk, rfl, zv, zb, ok, hX, ⟨k0, k1⟩, hC, hM⟩
    · exact absurd ((nI_ltI (by omega) (by omega)).mpr hi1) hc16
set_option maxRecDepth 100000 in
set_option maxHeartbeats 4000000 in
theorem ct_CundoF {l : Launch} {D : va_G} {kI kB kC kL : ClassId} (hl0 : l.stackTraces = false) (ad : Nat → Nat) (n : Nat) (lo hi : Nat → Nat) (bg : Bool) (T : List Nat) (w0 : va_W) (h : csP kI kB kC ad n lo hi bg [] T w0)  : kx_T l mn_C_undo (gw mn_C_undo cd_C_undo 2 (some .int)) ({ frames := 6, cells := 1, slots := 6, locals := 81 } : Room) D cl_v (kt kI kB kC kL) kEx [.ref (ad 0)] (w0) "java/util/NoSuchElementException" (fun w => csP kI kB kC ad n lo hi bg [] T w) 1 6 := by
  obtain ⟨les, oth, soc, rM, fM, rN, fN, La, ch, cst, ct, tk, rfl, zv, zb, ok, hX, ⟨k0, k1⟩, hC, hM⟩ := h
  refine kx_ofT (cc := cd_C_undo) (maxL := 2) (ret := (some .int)) (by decide) rfl (Nat.le_of_ble_eq_true rfl) rfl ?_
  intro pp ee s m args below meth c A X hlk hEx hN htb
  have hE := hEx.1
  refine kw_aload_n X dc_C_undo_0 rfl rfl ?_
  refine kw_get X (wc_C _) 0 rfl rfl 8 (by decide) (gq wd_123) (fun _ h => h) rfl dc_C_undo_1 ?_
  refine kw_if_ne (tgt := 15) X dc_C_undo_4 (by decide) (fun hc4 => ?_) (fun hc4 => ?_)
  · exact absurd rfl hc4
  · exact kx_throw X hl0 hEx hN htb hlk (by decide +kernel) wd_413 wd_17 oa_NSE dc_C_undo_7 dc_C_undo_10 dc_C_undo_11 dc_C_undo_14 ⟨⟨Nat.le_of_ble_eq_true rfl, Nat.le_of_ble_eq_true rfl⟩, Nat.le_of_ble_eq_true rfl, Nat.le_of_ble_eq_true rfl⟩ ⟨rfl, rfl⟩ ⟨les, oth, soc, rM, fM, rN, fN, La, ch, cst, ct, tk, rfl, zv, zb, ok, hX, ⟨k0, k1⟩, hC, hM⟩
set_option maxRecDepth 100000 in
set_option maxHeartbeats 4000000 in
theorem ct_CtakenF {l : Launch} {D : va_G} {kI kB kC kL : ClassId} (hl0 : l.stackTraces = false) (ad : Nat → Nat) (n : Nat) (lo hi : Nat → Nat) (bg : Bool) (cs T : List Nat) (w0 : va_W) (h : csP kI kB kC ad n lo hi bg cs T w0) (j : Int32) (hj0 : ¬ j = nI 0) (hj1 : ¬ j = nI 1) : kx_T l mn_C_taken (gw mn_C_taken cd_C_taken 2 (some .int)) ({ frames := 6, cells := 1, slots := 6, locals := 81 } : Room) D cl_v (kt kI kB kC kL) kEx [.ref (ad 0), .int j] (w0) "java/lang/IndexOutOfBoundsException" (fun w => csP kI kB kC ad n lo hi bg cs T w) 1 6 := by
  obtain ⟨les, oth, soc, rM, fM, rN, fN, La, ch, cst, ct, tk, rfl, zv, zb, ok, hX, ⟨k0, k1⟩, hC, hM⟩ := h
  refine kx_ofT (cc := cd_C_taken) (maxL := 2) (ret := (some .int)) (by decide) rfl (Nat.le_of_ble_eq_true rfl) rfl ?_
  intro pp ee s m args below meth c A X hlk hEx hN htb
  have hE := hEx.1
  refine kw_iload_n X dc_C_taken_0 rfl rfl ?_
  refine kw_if_lt (tgt := 9) X dc_C_taken_1 (by decide) (fun hc1 => ?_) (fun hc1 => ?_)
  · exact kx_throw X hl0 hEx hN htb hlk (by decide +kernel) wd_397 wd_16 oa_IOB dc_C_taken_9 dc_C_taken_12 dc_C_taken_13 dc_C_taken_16 ⟨⟨Nat.le_of_ble_eq_true rfl, Nat.le_of_ble_eq_true rfl⟩, Nat.le_of_ble_eq_true rfl, Nat.le_of_ble_eq_true rfl⟩ ⟨rfl, rfl⟩ ⟨les, oth, soc, rM, fM, rN, fN, La, ch, cst, ct, tk, rfl, zv, zb, ok, hX, ⟨k0, k1⟩, hC, hM⟩
  · refine kw_iload_n X dc_C_taken_4 rfl rfl ?_
    refine kw_iconst (v := (nI 2)) X dc_C_taken_5 (by decide) ?_
    refine kw_icmp_lt (tgt := 17) X dc_C_taken_6 (by decide) (fun hc6 => ?_) (fun hc6 => ?_)
    · exact absurd hc6 (i32_n2 hc1 hj0 hj1)
    · exact kx_throw X hl0 hEx hN htb hlk (by decide +kernel) wd_397 wd_16 oa_IOB dc_C_taken_9 dc_C_taken_12 dc_C_taken_13 dc_C_taken_16 ⟨⟨Nat.le_of_ble_eq_true rfl, Nat.le_of_ble_eq_true rfl⟩, Nat.le_of_ble_eq_true rfl, Nat.le_of_ble_eq_true rfl⟩ ⟨rfl, rfl⟩ ⟨les, oth, soc, rM, fM, rN, fN, La, ch, cst, ct, tk, rfl, zv, zb, ok, hX, ⟨k0, k1⟩, hC, hM⟩
set_option maxRecDepth 100000 in
set_option maxHeartbeats 4000000 in
theorem ct_CstringsF {l : Launch} {D : va_G} {kI kB kC kL : ClassId} (hl0 : l.stackTraces = false) (ad : Nat → Nat) (n : Nat) (lo hi : Nat → Nat) (bg : Bool) (cs T : List Nat) (w0 : va_W) (h : csP kI kB kC ad n lo hi bg cs T w0) (a : Int32) (ha : ¬ (0 ≤ a ∧ a ≤ nI 7)) : kx_T l mn_C_strings (gw mn_C_strings cd_C_strings 2 (some .int)) ({ frames := 6, cells := 1, slots := 6, locals := 81 } : Room) D cl_v (kt kI kB kC kL) kEx [.ref (ad 0), .int a] (w0) "java/lang/IndexOutOfBoundsException" (fun w => csP kI kB kC ad n lo hi bg cs T w) 1 6 := by
  obtain ⟨les, oth, soc, rM, fM, rN, fN, La, ch, cst, ct, tk, rfl, zv, zb, ok, hX, ⟨k0, k1⟩, hC, hM⟩ := h
  refine kx_ofT (cc := cd_C_strings) (maxL := 2) (ret := (some .int)) (by decide) rfl (Nat.le_of_ble_eq_true rfl) rfl ?_
  intro pp ee s m args below meth c A X hlk hEx hN htb
  have hE := hEx.1
  refine kw_iload_n X dc_C_strings_0 rfl rfl ?_
  refine kw_callSI X kEw hE (ct_isCoin a) (cw_S 1 X wd_260 wd_261 wd_1 wd_262 rfl rfl (by decide +kernel) ⟨Nat.le_of_ble_eq_true rfl, Nat.le_of_ble_eq_true rfl⟩) [] rfl (by decide) (fun _ _ _ => Nat.zero_le _) rfl rfl (Nat.le_of_ble_eq_true rfl) dc_C_strings_1 ⟨Nat.zero_le _, Nat.zero_le _⟩ (fun r w hp => ?_)
  obtain ⟨rfl, rfl⟩ := hp
  refine kw_cv (ws' := wCS kI kB kC ad n les oth soc rM fM rN fN La T.length ch cst ct tk cs.length (gm_run lo hi n cs).1 (gm_run lo hi n cs).2.1 bg) rfl rfl rfl ?_
  refine kw_if_ne (tgt := 15) X dc_C_strings_4 (by decide) (fun hc4 => ?_) (fun hc4 => ?_)
  · exact absurd (i32_lt8 (kq_z1 hc4)) ha
  · exact kx_throw X hl0 hEx hN htb hlk (by decide +kernel) wd_397 wd_16 oa_IOB dc_C_strings_7 dc_C_strings_10 dc_C_strings_11 dc_C_strings_14 ⟨⟨Nat.le_of_ble_eq_true rfl, Nat.le_of_ble_eq_true rfl⟩, Nat.le_of_ble_eq_true rfl, Nat.le_of_ble_eq_true rfl⟩ ⟨rfl, rfl⟩ ⟨les, oth, soc, rM, fM, rN, fN, La, ch, cst, ct, tk, rfl, zv, zb, ok, hX, ⟨k0, k1⟩, hC, hM⟩
set_option maxRecDepth 100000 in
set_option maxHeartbeats 4000000 in
theorem ct_CgroupF {l : Launch} {D : va_G} {kI kB kC kL : ClassId} (hl0 : l.stackTraces = false) (ad : Nat → Nat) (n : Nat) (lo hi : Nat → Nat) (bg : Bool) (cs T : List Nat) (w0 : va_W) (h : csP kI kB kC ad n lo hi bg cs T w0) (g : Int32) (hg : ¬ (0 ≤ g ∧ g < nI (gm_rk (gm_L lo hi n (gm_run lo hi n cs).1 n) 8))) : kx_T l mn_C_group (gw mn_C_group cd_C_group 4 (some .int)) ({ frames := 6, cells := 1, slots := 6, locals := 81 } : Room) D cl_v (kt kI kB kC kL) kEx [.ref (ad 0), .int g] (w0) "java/lang/IndexOutOfBoundsException" (fun w => csP kI kB kC ad n lo hi bg cs T w) 1 6 := by
  obtain ⟨les, oth, soc, rM, fM, rN, fN, La, ch, cst, ct, tk, rfl, zv, zb, ok, hX, ⟨k0, k1⟩, hC, hM⟩ := h
  refine kx_ofT (cc := cd_C_group) (maxL := 4) (ret := (some .int)) (by decide) rfl (Nat.le_of_ble_eq_true rfl) rfl ?_
  intro pp ee s m args below meth c A X hlk hEx hN htb
  have hE := hEx.1
  have hn := ok.1.1
  have hp4 := kq_2n hn (gm_run_p (lo := lo) (hi := hi) (n := n) cs)
  refine kw_aload_n X dc_C_group_0 rfl rfl ?_
  refine kw_get X (wc_C _) 0 rfl rfl 3 (by decide) (gq wd_118) (fun _ h => h) rfl dc_C_group_1 ?_
  refine kw_aload_n X dc_C_group_4 rfl rfl ?_
  refine kw_get X (wc_C _) 0 rfl rfl 9 (by decide) (gq wd_124) (fun _ h => h) rfl dc_C_group_5 ?_
  refine kw_callVV X kEw hE 0 rfl rfl (ct_sort (ad 9) (ad 10) (ad 1) (ad 2) (ad 3) (ad 4) n La les oth soc lo hi ok (gm_run lo hi n cs).1 hp4) (cw_V 1 X wd_176 wd_177 wd_178 wd_6 wd_179 rfl rfl (by decide +kernel) ⟨Nat.le_of_ble_eq_true rfl, Nat.le_of_ble_eq_true rfl⟩) [9, 10, 1, 2, 3, 4] rfl (by decide) (fun _ h => by obtain ⟨g, rfl, _⟩ := h; exact Nat.le_refl _) rfl rfl (Nat.le_of_ble_eq_true rfl) dc_C_group_8 ⟨Nat.zero_le _, Nat.zero_le _⟩ (fun w hp => ?_)
  obtain ⟨L2, rfl, gok⟩ := hp
  refine kw_cv (ws' := wCS kI kB kC ad n les oth soc rM fM rN fN L2 T.length ch cst ct tk cs.length (gm_run lo hi n cs).1 (gm_run lo hi n cs).2.1 bg) rfl rfl rfl ?_
  refine kw_iload_n X dc_C_group_11 rfl rfl ?_
  refine kw_if_lt (tgt := 26) X dc_C_group_12 (by decide) (fun hc12 => ?_) (fun hc12 => ?_)
  · exact kx_throw X hl0 hEx hN htb hlk (by decide +kernel) wd_397 wd_16 oa_IOB dc_C_group_26 dc_C_group_29 dc_C_group_30 dc_C_group_33 ⟨⟨Nat.le_of_ble_eq_true rfl, Nat.le_of_ble_eq_true rfl⟩, Nat.le_of_ble_eq_true rfl, Nat.le_of_ble_eq_true rfl⟩ ⟨rfl, rfl⟩ ⟨les, oth, soc, rM, fM, rN, fN, L2, ch, cst, ct, tk, rfl, zv, zb, ok, hX, ⟨k0, k1⟩, hC, hM⟩
  · refine kw_iload_n X dc_C_group_15 rfl rfl ?_
    refine kw_aload_n X dc_C_group_16 rfl rfl ?_
    refine kw_get X (wc_C _) 0 rfl rfl 3 (by decide) (gq wd_118) (fun _ h => h) rfl dc_C_group_17 ?_
    refine kw_callVI X kEw hE 0 rfl rfl (ct_count (ad 9) (ad 10) (ad 1) (ad 2) (ad 3) (ad 4) n L2 les oth soc (gm_L lo hi n (gm_run lo hi n cs).1 n) gok) (cw_V 0 X wd_219 wd_220 wd_221 wd_6 wd_222 rfl rfl (by decide +kernel) ⟨Nat.le_of_ble_eq_true rfl, Nat.le_of_ble_eq_true rfl⟩) [9, 10, 1, 2, 3, 4] rfl (by decide) (fun _ _ h => by obtain ⟨rfl, _⟩ := h; exact Nat.le_refl _) rfl rfl (Nat.le_of_ble_eq_true rfl) dc_C_group_20 ⟨Nat.zero_le _, Nat.zero_le _⟩ (fun r w hp => ?_)
    obtain ⟨rfl, rfl⟩ := hp
    refine kw_cv (ws' := wCS kI kB kC ad n les oth soc rM fM rN fN L2 T.length ch cst ct tk cs.length (gm_run lo hi n cs).1 (gm_run lo hi n cs).2.1 bg) rfl rfl rfl ?_
    refine kw_icmp_lt (tgt := 34) X dc_C_group_23 (by decide) (fun hc23 => ?_) (fun hc23 => ?_)
    · exact absurd ⟨Int32.not_lt.mp hc12, hc23⟩ hg
    · exact kx_throw X hl0 hEx hN htb hlk (by decide +kernel) wd_397 wd_16 oa_IOB dc_C_group_26 dc_C_group_29 dc_C_group_30 dc_C_group_33 ⟨⟨Nat.le_of_ble_eq_true rfl, Nat.le_of_ble_eq_true rfl⟩, Nat.le_of_ble_eq_true rfl, Nat.le_of_ble_eq_true rfl⟩ ⟨rfl, rfl⟩ ⟨les, oth, soc, rM, fM, rN, fN, L2, ch, cst, ct, tk, rfl, zv, zb, ok, hX, ⟨k0, k1⟩, hC, hM⟩
set_option maxRecDepth 100000 in
set_option maxHeartbeats 4000000 in
theorem ct_CatF {l : Launch} {D : va_G} {kI kB kC kL : ClassId} (hl0 : l.stackTraces = false) (ad : Nat → Nat) (n : Nat) (lo hi : Nat → Nat) (bg : Bool) (cs T : List Nat) (w0 : va_W) (h : csP kI kB kC ad n lo hi bg cs T w0) (i : Int32) (hi1 : ¬ (0 ≤ i ∧ i < nI T.length)) : kx_T l mn_C_at (gw mn_C_at cd_C_at 2 (some .int)) ({ frames := 6, cells := 1, slots := 6, locals := 81 } : Room) D cl_v (kt kI kB kC kL) kEx [.ref (ad 0), .int i] (w0) "java/lang/IndexOutOfBoundsException" (fun w => csP kI kB kC ad n lo hi bg cs T w) 1 6 := by
  obtain ⟨les, oth, soc, rM, fM, rN, fN, La, ch, cst, ct, tk, rfl, zv, zb, ok, hX, ⟨k0, k1⟩, hC, hM⟩ := h
  refine kx_ofT (cc := cd_C_at) (maxL := 2) (ret := (some .int)) (by decide) rfl (Nat.le_of_ble_eq_true rfl) rfl ?_
  intro pp ee s m args below meth c A X hlk hEx hN htb
  have hE := hEx.1
  refine kw_iload_n X dc_C_at_0 rfl rfl ?_
  refine kw_if_lt (tgt := 15) X dc_C_at_1 (by decide) (fun hc1 => ?_) (fun hc1 => ?_)
  · exact kx_throw X hl0 hEx hN htb hlk (by decide +kernel) wd_397 wd_16 oa_IOB dc_C_at_15 dc_C_at_18 dc_C_at_19 dc_C_at_22 ⟨⟨Nat.le_of_ble_eq_true rfl, Nat.le_of_ble_eq_true rfl⟩, Nat.le_of_ble_eq_true rfl, Nat.le_of_ble_eq_true rfl⟩ ⟨rfl, rfl⟩ ⟨les, oth, soc, rM, fM, rN, fN, La, ch, cst, ct, tk, rfl, zv, zb, ok, hX, ⟨k0, k1⟩, hC, hM⟩
  · refine kw_iload_n X dc_C_at_4 rfl rfl ?_
    refine kw_aload_n X dc_C_at_5 rfl rfl ?_
    refine kw_get X (wc_C _) 0 rfl rfl 4 (by decide) (gq wd_119) (fun _ h => h) rfl dc_C_at_6 ?_
    refine kw_callVI X kEw hE 0 rfl rfl (ct_tlen (ad 11) (ad 12) (ad 1) (ad 2) (ad 3) (ad 4) n T ch les oth soc) (cw_V 0 X wd_247 wd_248 wd_249 wd_7 wd_250 rfl rfl (by decide +kernel) ⟨Nat.le_of_ble_eq_true rfl, Nat.le_of_ble_eq_true rfl⟩) [11, 12, 1, 2, 3, 4] rfl (by decide) (fun _ _ h => by obtain ⟨rfl, _⟩ := h; exact Nat.le_refl _) rfl rfl (Nat.le_of_ble_eq_true rfl) dc_C_at_9 ⟨Nat.zero_le _, Nat.zero_le _⟩ (fun r w hp => ?_)
    obtain ⟨rfl, rfl⟩ := hp
    refine kw_cv (ws' := wCS kI kB kC ad n les oth soc rM fM rN fN La T.length ch cst ct tk cs.length (gm_run lo hi n cs).1 (gm_run lo hi n cs).2.1 bg) rfl rfl rfl ?_
    refine kw_icmp_lt (tgt := 23) X dc_C_at_12 (by decide) (fun hc12 => ?_) (fun hc12 => ?_)
    · exact absurd ⟨Int32.not_lt.mp hc1, hc12⟩ hi1
    · exact kx_throw X hl0 hEx hN htb hlk (by decide +kernel) wd_397 wd_16 oa_IOB dc_C_at_15 dc_C_at_18 dc_C_at_19 dc_C_at_22 ⟨⟨Nat.le_of_ble_eq_true rfl, Nat.le_of_ble_eq_true rfl⟩, Nat.le_of_ble_eq_true rfl, Nat.le_of_ble_eq_true rfl⟩ ⟨rfl, rfl⟩ ⟨les, oth, soc, rM, fM, rN, fN, La, ch, cst, ct, tk, rfl, zv, zb, ok, hX, ⟨k0, k1⟩, hC, hM⟩
set_option maxRecDepth 100000 in
set_option maxHeartbeats 4000000 in
theorem ct_CbeginF {l : Launch} {D : va_G} {kI kB kC kL : ClassId} (hl0 : l.stackTraces = false) (ad : Nat → Nat) (n : Nat) (lo hi : Nat → Nat) (bg : Bool) (cs T : List Nat) (w0 : va_W) (h : csP kI kB kC ad n lo hi bg cs T w0) (hz : bg = true ∨ n = 0) : kx_T l mn_C_begin (gw mn_C_begin cd_C_begin 1 none) ({ frames := 6, cells := 1, slots := 6, locals := 81 } : Room) D cl_v (kt kI kB kC kL) kEx [.ref (ad 0)] (w0) "java/lang/IllegalStateException" (fun w => csP kI kB kC ad n lo hi bg cs T w) 1 6 := by
  obtain ⟨les, oth, soc, rM, fM, rN, fN, La, ch, cst, ct, tk, rfl, zv, zb, ok, hX, ⟨k0, k1⟩, hC, hM⟩ := h
  refine kx_ofT (cc := cd_C_begin) (maxL := 1) (ret := none) (by decide) rfl (Nat.le_of_ble_eq_true rfl) rfl ?_
  intro pp ee s m args below meth c A X hlk hEx hN htb
  have hE := hEx.1
  have hn := ok.1.1
  refine kw_aload_n X dc_C_begin_0 rfl rfl ?_
  refine kw_get X (wc_C _) 0 rfl rfl 11 (by decide) (gq wd_126) (fun _ h => h) rfl dc_C_begin_1 ?_
  refine kw_if_ne (tgt := 17) X dc_C_begin_4 (by decide) (fun hc4 => ?_) (fun hc4 => ?_)
  · exact kx_throw X hl0 hEx hN htb hlk (by decide +kernel) wd_328 wd_13 oa_ISE dc_C_begin_17 dc_C_begin_20 dc_C_begin_21 dc_C_begin_24 ⟨⟨Nat.le_of_ble_eq_true rfl, Nat.le_of_ble_eq_true rfl⟩, Nat.le_of_ble_eq_true rfl, Nat.le_of_ble_eq_true rfl⟩ ⟨rfl, rfl⟩ ⟨les, oth, soc, rM, fM, rN, fN, La, ch, cst, ct, tk, rfl, zv, zb, ok, hX, ⟨k0, k1⟩, hC, hM⟩
  · have hn0 : n = 0 := by
      rcases hz with z | z
      · have h9 := bI_0 hc4
        rw [z] at h9
        cases h9
      · exact z
    refine kw_aload_n X dc_C_begin_7 rfl rfl ?_
    refine kw_get X (wc_C _) 0 rfl rfl 0 (by decide) (gq wd_115) (fun _ h => h) rfl dc_C_begin_8 ?_
    refine kw_callVI X kEw hE 0 rfl rfl (ct_size (ad 1) (ad 2) (ad 3) (ad 4) n les oth soc) (cw_V 0 X wd_327 wd_191 wd_192 wd_2 wd_193 rfl rfl (by decide +kernel) ⟨Nat.le_of_ble_eq_true rfl, Nat.le_of_ble_eq_true rfl⟩) [1, 2, 3, 4] rfl (by decide) (fun _ _ h => by obtain ⟨rfl, _⟩ := h; exact Nat.le_refl _) rfl rfl (Nat.le_of_ble_eq_true rfl) dc_C_begin_11 ⟨Nat.zero_le _, Nat.zero_le _⟩ (fun r w hp => ?_)
    obtain ⟨rfl, rfl⟩ := hp
    refine kw_cv (ws' := wCS kI kB kC ad n les oth soc rM fM rN fN La T.length ch cst ct tk cs.length (gm_run lo hi n cs).1 (gm_run lo hi n cs).2.1 bg) rfl rfl rfl ?_
    refine kw_if_ne (tgt := 25) X dc_C_begin_14 (by decide) (fun hc14 => ?_) (fun hc14 => ?_)
    · exact absurd (congrArg nI hn0) hc14
    · exact kx_throw X hl0 hEx hN htb hlk (by decide +kernel) wd_328 wd_13 oa_ISE dc_C_begin_17 dc_C_begin_20 dc_C_begin_21 dc_C_begin_24 ⟨⟨Nat.le_of_ble_eq_true rfl, Nat.le_of_ble_eq_true rfl⟩, Nat.le_of_ble_eq_true rfl, Nat.le_of_ble_eq_true rfl⟩ ⟨rfl, rfl⟩ ⟨les, oth, soc, rM, fM, rN, fN, La, ch, cst, ct, tk, rfl, zv, zb, ok, hX, ⟨k0, k1⟩, hC, hM⟩
set_option maxRecDepth 100000 in
set_option maxHeartbeats 4000000 in
theorem ct_CaddF1 {l : Launch} {D : va_G} {kI kB kC kL : ClassId} (hl0 : l.stackTraces = false) (ad : Nat → Nat) (n : Nat) (lo hi : Nat → Nat) (bg : Bool) (cs T : List Nat) (w0 : va_W) (h : csP kI kB kC ad n lo hi bg cs T w0) (a b : Int32) (hok : ¬ adOk a b) : kx_T l mn_C_add (gw mn_C_add cd_C_add 3 (some .int)) ({ frames := 6, cells := 1, slots := 6, locals := 81 } : Room) D cl_v (kt kI kB kC kL) kEx [.ref (ad 0), .int a, .int b] (w0) "java/lang/IllegalArgumentException" (fun w => csP kI kB kC ad n lo hi bg cs T w) 1 6 := by
  obtain ⟨les, oth, soc, rM, fM, rN, fN, La, ch, cst, ct, tk, rfl, zv, zb, ok, hX, ⟨k0, k1⟩, hC, hM⟩ := h
  refine kx_ofT (cc := cd_C_add) (maxL := 3) (ret := (some .int)) (by decide) rfl (Nat.le_of_ble_eq_true rfl) rfl ?_
  intro pp ee s m args below meth c A X hlk hEx hN htb
  have hE := hEx.1
  refine kw_iload_n X dc_C_add_0 rfl rfl ?_
  refine kw_callSI X kEw hE (ct_isCoin a) (cw_S 1 X wd_260 wd_261 wd_1 wd_262 rfl rfl (by decide +kernel) ⟨Nat.le_of_ble_eq_true rfl, Nat.le_of_ble_eq_true rfl⟩) [] rfl (by decide) (fun _ _ _ => Nat.zero_le _) rfl rfl (Nat.le_of_ble_eq_true rfl) dc_C_add_1 ⟨Nat.zero_le _, Nat.zero_le _⟩ (fun r w hp => ?_)
  obtain ⟨rfl, rfl⟩ := hp
  refine kw_cv (ws' := wCS kI kB kC ad n les oth soc rM fM rN fN La T.length ch cst ct tk cs.length (gm_run lo hi n cs).1 (gm_run lo hi n cs).2.1 bg) rfl rfl rfl ?_
  refine kw_if_eq (tgt := 24) X dc_C_add_4 (by decide) (fun hc4 => ?_) (fun hc4 => ?_)
  · exact kx_throw X hl0 hEx hN htb hlk (by decide +kernel) wd_263 wd_12 oa_IAE dc_C_add_24 dc_C_add_27 dc_C_add_28 dc_C_add_31 ⟨⟨Nat.le_of_ble_eq_true rfl, Nat.le_of_ble_eq_true rfl⟩, Nat.le_of_ble_eq_true rfl, Nat.le_of_ble_eq_true rfl⟩ ⟨rfl, rfl⟩ ⟨les, oth, soc, rM, fM, rN, fN, La, ch, cst, ct, tk, rfl, zv, zb, ok, hX, ⟨k0, k1⟩, hC, hM⟩
  · refine kw_iload_n X dc_C_add_7 rfl rfl ?_
    refine kw_callSI X kEw hE (ct_isCoin b) (cw_S 1 X wd_260 wd_261 wd_1 wd_262 rfl rfl (by decide +kernel) ⟨Nat.le_of_ble_eq_true rfl, Nat.le_of_ble_eq_true rfl⟩) [] rfl (by decide) (fun _ _ _ => Nat.zero_le _) rfl rfl (Nat.le_of_ble_eq_true rfl) dc_C_add_8 ⟨Nat.zero_le _, Nat.zero_le _⟩ (fun r w hp => ?_)
    obtain ⟨rfl, rfl⟩ := hp
    refine kw_cv (ws' := wCS kI kB kC ad n les oth soc rM fM rN fN La T.length ch cst ct tk cs.length (gm_run lo hi n cs).1 (gm_run lo hi n cs).2.1 bg) rfl rfl rfl ?_
    refine kw_if_ne (tgt := 19) X dc_C_add_11 (by decide) (fun hc11 => ?_) (fun hc11 => ?_)
    · refine kw_iload_n X dc_C_add_19 rfl rfl ?_
      refine kw_iload_n X dc_C_add_20 rfl rfl ?_
      refine kw_icmp_ne (tgt := 32) X dc_C_add_21 (by decide) (fun hc21 => ?_) (fun hc21 => ?_)
      · exact absurd (ad_c1 (kq_z1 hc4) (kq_z1 hc11) hc21) hok
      · exact kx_throw X hl0 hEx hN htb hlk (by decide +kernel) wd_263 wd_12 oa_IAE dc_C_add_24 dc_C_add_27 dc_C_add_28 dc_C_add_31 ⟨⟨Nat.le_of_ble_eq_true rfl, Nat.le_of_ble_eq_true rfl⟩, Nat.le_of_ble_eq_true rfl, Nat.le_of_ble_eq_true rfl⟩ ⟨rfl, rfl⟩ ⟨les, oth, soc, rM, fM, rN, fN, La, ch, cst, ct, tk, rfl, zv, zb, ok, hX, ⟨k0, k1⟩, hC, hM⟩
    · refine kw_iload_n X dc_C_add_14 rfl rfl ?_
      refine kw_iconst (v := (-1)) X dc_C_add_15 (by decide) ?_
      refine kw_icmp_ne (tgt := 24) X dc_C_add_16 (by decide) (fun hc16 => ?_) (fun hc16 => ?_)
      · exact kx_throw X hl0 hEx hN htb hlk (by decide +kernel) wd_263 wd_12 oa_IAE dc_C_add_24 dc_C_add_27 dc_C_add_28 dc_C_add_31 ⟨⟨Nat.le_of_ble_eq_true rfl, Nat.le_of_ble_eq_true rfl⟩, Nat.le_of_ble_eq_true rfl, Nat.le_of_ble_eq_true rfl⟩ ⟨rfl, rfl⟩ ⟨les, oth, soc, rM, fM, rN, fN, La, ch, cst, ct, tk, rfl, zv, zb, ok, hX, ⟨k0, k1⟩, hC, hM⟩
      · refine kw_iload_n X dc_C_add_19 rfl rfl ?_
        refine kw_iload_n X dc_C_add_20 rfl rfl ?_
        refine kw_icmp_ne (tgt := 32) X dc_C_add_21 (by decide) (fun hc21 => ?_) (fun hc21 => ?_)
        · exact absurd (ad_c2 (kq_z1 hc4) hc16 hc21) hok
        · exact kx_throw X hl0 hEx hN htb hlk (by decide +kernel) wd_263 wd_12 oa_IAE dc_C_add_24 dc_C_add_27 dc_C_add_28 dc_C_add_31 ⟨⟨Nat.le_of_ble_eq_true rfl, Nat.le_of_ble_eq_true rfl⟩, Nat.le_of_ble_eq_true rfl, Nat.le_of_ble_eq_true rfl⟩ ⟨rfl, rfl⟩ ⟨les, oth, soc, rM, fM, rN, fN, La, ch, cst, ct, tk, rfl, zv, zb, ok, hX, ⟨k0, k1⟩, hC, hM⟩
set_option maxRecDepth 100000 in
set_option maxHeartbeats 4000000 in
theorem ct_CaddF2 {l : Launch} {D : va_G} {kI kB kC kL : ClassId} (hl0 : l.stackTraces = false) (ad : Nat → Nat) (n : Nat) (lo hi : Nat → Nat) (bg : Bool) (cs T : List Nat) (w0 : va_W) (h : csP kI kB kC ad n lo hi bg cs T w0) (a b : Int32) (hok : adOk a b) (hz : bg = true ∨ n = 12) : kx_T l mn_C_add (gw mn_C_add cd_C_add 3 (some .int)) ({ frames := 6, cells := 1, slots := 6, locals := 81 } : Room) D cl_v (kt kI kB kC kL) kEx [.ref (ad 0), .int a, .int b] (w0) "java/lang/IllegalStateException" (fun w => csP kI kB kC ad n lo hi bg cs T w) 1 6 := by
  obtain ⟨les, oth, soc, rM, fM, rN, fN, La, ch, cst, ct, tk, rfl, zv, zb, ok, hX, ⟨k0, k1⟩, hC, hM⟩ := h
  refine kx_ofT (cc := cd_C_add) (maxL := 3) (ret := (some .int)) (by decide) rfl (Nat.le_of_ble_eq_true rfl) rfl ?_
  intro pp ee s m args below meth c A X hlk hEx hN htb
  have hE := hEx.1
  obtain ⟨q1, q3, q5⟩ := hok
  have hn := ok.1.1
  refine kw_iload_n X dc_C_add_0 rfl rfl ?_
  refine kw_callSI X kEw hE (ct_isCoin a) (cw_S 1 X wd_260 wd_261 wd_1 wd_262 rfl rfl (by decide +kernel) ⟨Nat.le_of_ble_eq_true rfl, Nat.le_of_ble_eq_true rfl⟩) [] rfl (by decide) (fun _ _ _ => Nat.zero_le _) rfl rfl (Nat.le_of_ble_eq_true rfl) dc_C_add_1 ⟨Nat.zero_le _, Nat.zero_le _⟩ (fun r w hp => ?_)
  obtain ⟨rfl, rfl⟩ := hp
  refine kw_cv (ws' := wCS kI kB kC ad n les oth soc rM fM rN fN La T.length ch cst ct tk cs.length (gm_run lo hi n cs).1 (gm_run lo hi n cs).2.1 bg) rfl rfl rfl ?_
  refine kw_if_eq (tgt := 24) X dc_C_add_4 (by decide) (fun hc4 => ?_) (fun hc4 => ?_)
  · exact absurd (i32_to8 q1) (kq_z0 hc4)
  · refine kw_iload_n X dc_C_add_7 rfl rfl ?_
    refine kw_callSI X kEw hE (ct_isCoin b) (cw_S 1 X wd_260 wd_261 wd_1 wd_262 rfl rfl (by decide +kernel) ⟨Nat.le_of_ble_eq_true rfl, Nat.le_of_ble_eq_true rfl⟩) [] rfl (by decide) (fun _ _ _ => Nat.zero_le _) rfl rfl (Nat.le_of_ble_eq_true rfl) dc_C_add_8 ⟨Nat.zero_le _, Nat.zero_le _⟩ (fun r w hp => ?_)
    obtain ⟨rfl, rfl⟩ := hp
    refine kw_cv (ws' := wCS kI kB kC ad n les oth soc rM fM rN fN La T.length ch cst ct tk cs.length (gm_run lo hi n cs).1 (gm_run lo hi n cs).2.1 bg) rfl rfl rfl ?_
    refine kw_if_ne (tgt := 19) X dc_C_add_11 (by decide) (fun hc11 => ?_) (fun hc11 => ?_)
    · refine kw_iload_n X dc_C_add_19 rfl rfl ?_
      refine kw_iload_n X dc_C_add_20 rfl rfl ?_
      refine kw_icmp_ne (tgt := 32) X dc_C_add_21 (by decide) (fun hc21 => ?_) (fun hc21 => ?_)
      · refine kw_aload_n X dc_C_add_32 rfl rfl ?_
        refine kw_get X (wc_C _) 0 rfl rfl 11 (by decide) (gq wd_126) (fun _ h => h) rfl dc_C_add_33 ?_
        refine kw_if_ne (tgt := 51) X dc_C_add_36 (by decide) (fun hc36 => ?_) (fun hc36 => ?_)
        · exact kx_throw X hl0 hEx hN htb hlk (by decide +kernel) wd_328 wd_13 oa_ISE dc_C_add_51 dc_C_add_54 dc_C_add_55 dc_C_add_58 ⟨⟨Nat.le_of_ble_eq_true rfl, Nat.le_of_ble_eq_true rfl⟩, Nat.le_of_ble_eq_true rfl, Nat.le_of_ble_eq_true rfl⟩ ⟨rfl, rfl⟩ ⟨les, oth, soc, rM, fM, rN, fN, La, ch, cst, ct, tk, rfl, zv, zb, ok, hX, ⟨k0, k1⟩, hC, hM⟩
        · have hn0 : n = 12 := by
            rcases hz with z | z
            · have h9 := bI_0 hc36
              rw [z] at h9
              cases h9
            · exact z
          refine kw_aload_n X dc_C_add_39 rfl rfl ?_
          refine kw_get X (wc_C _) 0 rfl rfl 0 (by decide) (gq wd_115) (fun _ h => h) rfl dc_C_add_40 ?_
          refine kw_callVI X kEw hE 0 rfl rfl (ct_size (ad 1) (ad 2) (ad 3) (ad 4) n les oth soc) (cw_V 0 X wd_327 wd_191 wd_192 wd_2 wd_193 rfl rfl (by decide +kernel) ⟨Nat.le_of_ble_eq_true rfl, Nat.le_of_ble_eq_true rfl⟩) [1, 2, 3, 4] rfl (by decide) (fun _ _ h => by obtain ⟨rfl, _⟩ := h; exact Nat.le_refl _) rfl rfl (Nat.le_of_ble_eq_true rfl) dc_C_add_43 ⟨Nat.zero_le _, Nat.zero_le _⟩ (fun r w hp => ?_)
          obtain ⟨rfl, rfl⟩ := hp
          refine kw_cv (ws' := wCS kI kB kC ad n les oth soc rM fM rN fN La T.length ch cst ct tk cs.length (gm_run lo hi n cs).1 (gm_run lo hi n cs).2.1 bg) rfl rfl rfl ?_
          refine kw_bipush (v := (nI 12)) X dc_C_add_46 (by decide) ?_
          refine kw_icmp_lt (tgt := 59) X dc_C_add_48 (by decide) (fun hc48 => ?_) (fun hc48 => ?_)
          · exact absurd (kq_lt hc48) (by omega)
          · exact kx_throw X hl0 hEx hN htb hlk (by decide +kernel) wd_328 wd_13 oa_ISE dc_C_add_51 dc_C_add_54 dc_C_add_55 dc_C_add_58 ⟨⟨Nat.le_of_ble_eq_true rfl, Nat.le_of_ble_eq_true rfl⟩, Nat.le_of_ble_eq_true rfl, Nat.le_of_ble_eq_true rfl⟩ ⟨rfl, rfl⟩ ⟨les, oth, soc, rM, fM, rN, fN, La, ch, cst, ct, tk, rfl, zv, zb, ok, hX, ⟨k0, k1⟩, hC, hM⟩
      · exact absurd hc21 q5
    · refine kw_iload_n X dc_C_add_14 rfl rfl ?_
      refine kw_iconst (v := (-1)) X dc_C_add_15 (by decide) ?_
      refine kw_icmp_ne (tgt := 24) X dc_C_add_16 (by decide) (fun hc16 => ?_) (fun hc16 => ?_)
      · exact absurd (ad_m1 q3 (kq_z0 hc11)) hc16
      · refine kw_iload_n X dc_C_add_19 rfl rfl ?_
        refine kw_iload_n X dc_C_add_20 rfl rfl ?_
        refine kw_icmp_ne (tgt := 32) X dc_C_add_21 (by decide) (fun hc21 => ?_) (fun hc21 => ?_)
        · refine kw_aload_n X dc_C_add_32 rfl rfl ?_
          refine kw_get X (wc_C _) 0 rfl rfl 11 (by decide) (gq wd_126) (fun _ h => h) rfl dc_C_add_33 ?_
          refine kw_if_ne (tgt := 51) X dc_C_add_36 (by decide) (fun hc36 => ?_) (fun hc36 => ?_)
          · exact kx_throw X hl0 hEx hN htb hlk (by decide +kernel) wd_328 wd_13 oa_ISE dc_C_add_51 dc_C_add_54 dc_C_add_55 dc_C_add_58 ⟨⟨Nat.le_of_ble_eq_true rfl, Nat.le_of_ble_eq_true rfl⟩, Nat.le_of_ble_eq_true rfl, Nat.le_of_ble_eq_true rfl⟩ ⟨rfl, rfl⟩ ⟨les, oth, soc, rM, fM, rN, fN, La, ch, cst, ct, tk, rfl, zv, zb, ok, hX, ⟨k0, k1⟩, hC, hM⟩
          · have hn0 : n = 12 := by
              rcases hz with z | z
              · have h9 := bI_0 hc36
                rw [z] at h9
                cases h9
              · exact z
            refine kw_aload_n X dc_C_add_39 rfl rfl ?_
            refine kw_get X (wc_C _) 0 rfl rfl 0 (by decide) (gq wd_115) (fun _ h => h) rfl dc_C_add_40 ?_
            refine kw_callVI X kEw hE 0 rfl rfl (ct_size (ad 1) (ad 2) (ad 3) (ad 4) n les oth soc) (cw_V 0 X wd_327 wd_191 wd_192 wd_2 wd_193 rfl rfl (by decide +kernel) ⟨Nat.le_of_ble_eq_true rfl, Nat.le_of_ble_eq_true rfl⟩) [1, 2, 3, 4] rfl (by decide) (fun _ _ h => by obtain ⟨rfl, _⟩ := h; exact Nat.le_refl _) rfl rfl (Nat.le_of_ble_eq_true rfl) dc_C_add_43 ⟨Nat.zero_le _, Nat.zero_le _⟩ (fun r w hp => ?_)
            obtain ⟨rfl, rfl⟩ := hp
            refine kw_cv (ws' := wCS kI kB kC ad n les oth soc rM fM rN fN La T.length ch cst ct tk cs.length (gm_run lo hi n cs).1 (gm_run lo hi n cs).2.1 bg) rfl rfl rfl ?_
            refine kw_bipush (v := (nI 12)) X dc_C_add_46 (by decide) ?_
            refine kw_icmp_lt (tgt := 59) X dc_C_add_48 (by decide) (fun hc48 => ?_) (fun hc48 => ?_)
            · exact absurd (kq_lt hc48) (by omega)
            · exact kx_throw X hl0 hEx hN htb hlk (by decide +kernel) wd_328 wd_13 oa_ISE dc_C_add_51 dc_C_add_54 dc_C_add_55 dc_C_add_58 ⟨⟨Nat.le_of_ble_eq_true rfl, Nat.le_of_ble_eq_true rfl⟩, Nat.le_of_ble_eq_true rfl, Nat.le_of_ble_eq_true rfl⟩ ⟨rfl, rfl⟩ ⟨les, oth, soc, rM, fM, rN, fN, La, ch, cst, ct, tk, rfl, zv, zb, ok, hX, ⟨k0, k1⟩, hC, hM⟩
        · exact absurd hc21 q5
set_option maxRecDepth 100000 in
set_option maxHeartbeats 4000000 in
theorem ct_CboardF1 {l : Launch} {D : va_G} {kI kB kC kL : ClassId} (hl0 : l.stackTraces = false) (ad : Nat → Nat) (n : Nat) (lo hi : Nat → Nat) (bg : Bool) (cs T : List Nat) (w0 : va_W) (h : csP kI kB kC ad n lo hi bg cs T w0) (a b : Int32) (hok : ¬ bdOk a b) : kx_T l mn_C_board (gw mn_C_board cd_C_board 3 (some .int)) ({ frames := 6, cells := 1, slots := 6, locals := 81 } : Room) D cl_v (kt kI kB kC kL) kEx [.ref (ad 0), .int a, .int b] (w0) "java/lang/IllegalArgumentException" (fun w => csP kI kB kC ad n lo hi bg cs T w) 1 6 := by
  obtain ⟨les, oth, soc, rM, fM, rN, fN, La, ch, cst, ct, tk, rfl, zv, zb, ok, hX, ⟨k0, k1⟩, hC, hM⟩ := h
  refine kx_ofT (cc := cd_C_board) (maxL := 3) (ret := (some .int)) (by decide) rfl (Nat.le_of_ble_eq_true rfl) rfl ?_
  intro pp ee s m args below meth c A X hlk hEx hN htb
  have hE := hEx.1
  refine kw_iload_n X dc_C_board_0 rfl rfl ?_
  refine kw_iload_n X dc_C_board_1 rfl rfl ?_
  refine kw_callSI X kEw hE (ct_isBoard a b) (cw_S 2 X wd_360 wd_361 wd_1 wd_362 rfl rfl (by decide +kernel) ⟨Nat.le_of_ble_eq_true rfl, Nat.le_of_ble_eq_true rfl⟩) [] rfl (by decide) (fun _ _ _ => Nat.zero_le _) rfl rfl (Nat.le_of_ble_eq_true rfl) dc_C_board_2 ⟨Nat.zero_le _, Nat.zero_le _⟩ (fun r w hp => ?_)
  obtain ⟨rfl, rfl⟩ := hp
  refine kw_cv (ws' := wCS kI kB kC ad n les oth soc rM fM rN fN La T.length ch cst ct tk cs.length (gm_run lo hi n cs).1 (gm_run lo hi n cs).2.1 bg) rfl rfl rfl ?_
  refine kw_if_ne (tgt := 16) X dc_C_board_5 (by decide) (fun hc5 => ?_) (fun hc5 => ?_)
  · exact absurd (kq_z1 hc5) hok
  · exact kx_throw X hl0 hEx hN htb hlk (by decide +kernel) wd_263 wd_12 oa_IAE dc_C_board_8 dc_C_board_11 dc_C_board_12 dc_C_board_15 ⟨⟨Nat.le_of_ble_eq_true rfl, Nat.le_of_ble_eq_true rfl⟩, Nat.le_of_ble_eq_true rfl, Nat.le_of_ble_eq_true rfl⟩ ⟨rfl, rfl⟩ ⟨les, oth, soc, rM, fM, rN, fN, La, ch, cst, ct, tk, rfl, zv, zb, ok, hX, ⟨k0, k1⟩, hC, hM⟩
set_option maxRecDepth 100000 in
set_option maxHeartbeats 4000000 in
theorem ct_CboardF2 {l : Launch} {D : va_G} {kI kB kC kL : ClassId} (hl0 : l.stackTraces = false) (ad : Nat → Nat) (n : Nat) (lo hi : Nat → Nat) (bg : Bool) (cs T : List Nat) (w0 : va_W) (h : csP kI kB kC ad n lo hi bg cs T w0) (a b : Int32) (hok : bdOk a b) (hz : bg = true ∨ n ≠ 0) : kx_T l mn_C_board (gw mn_C_board cd_C_board 3 (some .int)) ({ frames := 6, cells := 1, slots := 6, locals := 81 } : Room) D cl_v (kt kI kB kC kL) kEx [.ref (ad 0), .int a, .int b] (w0) "java/lang/IllegalStateException" (fun w => csP kI kB kC ad n lo hi bg cs T w) 1 6 := by
  obtain ⟨les, oth, soc, rM, fM, rN, fN, La, ch, cst, ct, tk, rfl, zv, zb, ok, hX, ⟨k0, k1⟩, hC, hM⟩ := h
  refine kx_ofT (cc := cd_C_board) (maxL := 3) (ret := (some .int)) (by decide) rfl (Nat.le_of_ble_eq_true rfl) rfl ?_
  intro pp ee s m args below meth c A X hlk hEx hN htb
  have hE := hEx.1
  have hn := ok.1.1
  refine kw_iload_n X dc_C_board_0 rfl rfl ?_
  refine kw_iload_n X dc_C_board_1 rfl rfl ?_
  refine kw_callSI X kEw hE (ct_isBoard a b) (cw_S 2 X wd_360 wd_361 wd_1 wd_362 rfl rfl (by decide +kernel) ⟨Nat.le_of_ble_eq_true rfl, Nat.le_of_ble_eq_true rfl⟩) [] rfl (by decide) (fun _ _ _ => Nat.zero_le _) rfl rfl (Nat.le_of_ble_eq_true rfl) dc_C_board_2 ⟨Nat.zero_le _, Nat.zero_le _⟩ (fun r w hp => ?_)
  obtain ⟨rfl, rfl⟩ := hp
  refine kw_cv (ws' := wCS kI kB kC ad n les oth soc rM fM rN fN La T.length ch cst ct tk cs.length (gm_run lo hi n cs).1 (gm_run lo hi n cs).2.1 bg) rfl rfl rfl ?_
  refine kw_if_ne (tgt := 16) X dc_C_board_5 (by decide) (fun hc5 => ?_) (fun hc5 => ?_)
  · refine kw_aload_n X dc_C_board_16 rfl rfl ?_
    refine kw_get X (wc_C _) 0 rfl rfl 11 (by decide) (gq wd_126) (fun _ h => h) rfl dc_C_board_17 ?_
    refine kw_if_ne (tgt := 33) X dc_C_board_20 (by decide) (fun hc20 => ?_) (fun hc20 => ?_)
    · exact kx_throw X hl0 hEx hN htb hlk (by decide +kernel) wd_328 wd_13 oa_ISE dc_C_board_33 dc_C_board_36 dc_C_board_37 dc_C_board_40 ⟨⟨Nat.le_of_ble_eq_true rfl, Nat.le_of_ble_eq_true rfl⟩, Nat.le_of_ble_eq_true rfl, Nat.le_of_ble_eq_true rfl⟩ ⟨rfl, rfl⟩ ⟨les, oth, soc, rM, fM, rN, fN, La, ch, cst, ct, tk, rfl, zv, zb, ok, hX, ⟨k0, k1⟩, hC, hM⟩
    · have hn0 : n ≠ 0 := by
        rcases hz with z | z
        · have h9 := bI_0 hc20
          rw [z] at h9
          cases h9
        · exact z
      refine kw_aload_n X dc_C_board_23 rfl rfl ?_
      refine kw_get X (wc_C _) 0 rfl rfl 0 (by decide) (gq wd_115) (fun _ h => h) rfl dc_C_board_24 ?_
      refine kw_callVI X kEw hE 0 rfl rfl (ct_size (ad 1) (ad 2) (ad 3) (ad 4) n les oth soc) (cw_V 0 X wd_327 wd_191 wd_192 wd_2 wd_193 rfl rfl (by decide +kernel) ⟨Nat.le_of_ble_eq_true rfl, Nat.le_of_ble_eq_true rfl⟩) [1, 2, 3, 4] rfl (by decide) (fun _ _ h => by obtain ⟨rfl, _⟩ := h; exact Nat.le_refl _) rfl rfl (Nat.le_of_ble_eq_true rfl) dc_C_board_27 ⟨Nat.zero_le _, Nat.zero_le _⟩ (fun r w hp => ?_)
      obtain ⟨rfl, rfl⟩ := hp
      refine kw_cv (ws' := wCS kI kB kC ad n les oth soc rM fM rN fN La T.length ch cst ct tk cs.length (gm_run lo hi n cs).1 (gm_run lo hi n cs).2.1 bg) rfl rfl rfl ?_
      refine kw_if_le (tgt := 41) X dc_C_board_30 (by decide) (fun hc30 => ?_) (fun hc30 => ?_)
      · exact absurd (kq_le (b := 0) hc30) (by omega)
      · exact kx_throw X hl0 hEx hN htb hlk (by decide +kernel) wd_328 wd_13 oa_ISE dc_C_board_33 dc_C_board_36 dc_C_board_37 dc_C_board_40 ⟨⟨Nat.le_of_ble_eq_true rfl, Nat.le_of_ble_eq_true rfl⟩, Nat.le_of_ble_eq_true rfl, Nat.le_of_ble_eq_true rfl⟩ ⟨rfl, rfl⟩ ⟨les, oth, soc, rM, fM, rN, fN, La, ch, cst, ct, tk, rfl, zv, zb, ok, hX, ⟨k0, k1⟩, hC, hM⟩
  · exact absurd hok (kq_z0 hc5)
