/-! the law's helpers: a call of the class, its exception caught -/
abbrev gh (y : MethodName) (cc : ByteArray) (maxL : Nat) (ret : Option FieldType) (hh : List (Nat × Nat × Nat × Nat)) : List Cond := Cond.codeWith y cc maxL ret hh :: gw_tbl
theorem kx_pa0 {P : ExceptionTableEntry → Prop} : ∀ z ∈ ([] : List ExceptionTableEntry), P z := fun z h => by cases h
theorem kx_pa1 {P : ExceptionTableEntry → Prop} {x : ExceptionTableEntry} (h : P x) : ∀ z ∈ [x], P z := fun z hz => by rw [List.mem_singleton.mp hz]; exact h
theorem kx_pa2 {P : ExceptionTableEntry → Prop} {x y : ExceptionTableEntry} (h : P x) (h2 : P y) : ∀ z ∈ [x, y], P z := fun z hz => by
  rcases List.mem_cons.mp hz with e | hz
  · rw [e]; exact h
  · exact kx_pa1 h2 z hz
theorem vp_updL_0 {f : Nat → Int64} {v : Int64} : vp_updL f (nI 0).toNatClampNeg v 0 = v := by
  rw [kq_cl (k := 0) (by decide)]
  exact if_pos rfl
set_option maxRecDepth 100000 in
set_option maxHeartbeats 1000000 in
theorem ct_LaddT {l : Launch} {D : va_G} {kI kB kC kL : ClassId} (ad : Nat → Nat) (n : Nat) (lo hi : Nat → Nat) (T : List Nat) (w0 : va_W) (h : csP kI kB kC ad n lo hi false [] T w0) (o : Nat) (f : Nat → Int64) (a b : Nat) (hn : n < 12) (ha : a < 8) (hb : b ≤ 8) (hab : a ≠ b) : kw_I l mn_L_add (gh mn_L_add cd_L_add 5 (some .int) [(0, 10, 13, 13), (0, 10, 17, 15)]) ({ frames := 3, cells := 1, slots := 6, locals := 66 } : Room) D cl_v (kt kI kB kC kL) kEx [.ref (ad 0), .int (nI a), .int (og b), .ref o] (w0 ++ [(o, .inl (kL, 1, .inr (.inl f)))]) (fun r w => r = nI 0 ∧ ∃ (w1 : va_W) (f2 : Nat → Int64), w = w1 ++ [(o, .inl (kL, 1, .inr (.inl f2)))] ∧ csP kI kB kC ad (n + 1) (fun i => if i = n then min a b else lo i) (fun i => if i = n then max a b else hi i) false [] T w1 ∧ f2 0 = (nI n).toInt64) 1 6 := by
  obtain ⟨fs, hf0⟩ := csP_0 h
  have h16 := csP_16 h
  refine kx_ofI (cc := cd_L_add) (maxL := 5) (ty := .int) (hh := [(0, 10, 13, 13), (0, 10, 17, 15)]) (by decide) rfl (Nat.le_of_ble_eq_true rfl) rfl ?_
  intro pp ee s m args below meth c A X hr hlk hEx hN htb
  have hE := hEx.1
  refine kw_widen (k9 := 1) (n9 := 6) (Nat.zero_le _) (Nat.zero_le _) ?_
  refine kw_aload_n X dc_L_add_0 rfl rfl ?_
  refine kw_iconst (v := (nI 0)) X dc_L_add_1 (by decide) ?_
  refine kw_aload_n X dc_L_add_2 rfl rfl ?_
  refine kw_iload_n X dc_L_add_3 rfl rfl ?_
  refine kw_iload_n X dc_L_add_4 rfl rfl ?_
  refine kw_callVI X kEw hE 0 hf0 rfl (ct_CaddT ad n lo hi T w0 h a b hn ha hb hab) (cw_V 2 X wd_256 wd_257 wd_258 wd_1 wd_259 rfl rfl (by decide +kernel) ⟨Nat.le_of_ble_eq_true rfl, Nat.le_of_ble_eq_true rfl⟩) (List.range' 0 16) (kb_get0 (x := w0) (post := [(o, .inl (kL, 1, .inr (.inl f)))]) h16) (by decide) (fun _ _ h => Nat.le_of_eq (csP_16 h.2).symm) rfl rfl (Nat.le_of_ble_eq_true rfl) dc_L_add_5 ⟨Nat.le_of_ble_eq_true rfl, Nat.le_of_ble_eq_true rfl⟩ (fun r w hp => ?_)
  obtain ⟨rfl, hq⟩ := hp
  have h17 := csP_16 hq
  refine kw_cv (ws' := w ++ [(o, .inl (kL, 1, .inr (.inl f)))]) (kb_put0 (x := w0) (post := [(o, .inl (kL, 1, .inr (.inl f)))]) h16 h17) rfl rfl ?_
  refine kw_i2l X dc_L_add_8 rfl ?_
  refine kw_last X 16 3 (kb_at h17) rfl (kq_in (k := 0) (by decide) (by decide)) dc_L_add_9 ?_
  refine kw_cv (ws' := w ++ [(o, .inl (kL, 1, .inr (.inl (vp_updL f (nI 0).toNatClampNeg (nI n).toInt64))))]) (kb_set h17) rfl rfl ?_
  refine kw_goto (tgt := 21) X dc_L_add_10 (by decide) ?_
  refine kw_iconst (v := (nI 0)) X dc_L_add_21 (by decide) ?_
  exact kw_iret X hr hlk dc_L_add_22 ⟨rfl, w, _, rfl, hq, vp_updL_0⟩
set_option maxRecDepth 100000 in
set_option maxHeartbeats 1000000 in
theorem ct_LaddF1 {l : Launch} {D : va_G} {kI kB kC kL : ClassId} (hl0 : l.stackTraces = false) (ad : Nat → Nat) (n : Nat) (lo hi : Nat → Nat) (bg : Bool) (cs T : List Nat) (w0 : va_W) (h : csP kI kB kC ad n lo hi bg cs T w0) (o : Nat) (f : Nat → Int64) (a b : Int32) (hok : ¬ adOk a b) : kw_I l mn_L_add (gh mn_L_add cd_L_add 5 (some .int) [(0, 10, 13, 13), (0, 10, 17, 15)]) ({ frames := 7, cells := 1, slots := 6, locals := 103 } : Room) D cl_v (kt kI kB kC kL) kEx [.ref (ad 0), .int a, .int b, .ref o] (w0 ++ [(o, .inl (kL, 1, .inr (.inl f)))]) (fun r w => r = nI 1 ∧ ∃ w1 : va_W, w = w1 ++ [(o, .inl (kL, 1, .inr (.inl f)))] ∧ csP kI kB kC ad n lo hi bg cs T w1) 1 6 := by
  obtain ⟨fs, hf0⟩ := csP_0 h
  have h16 := csP_16 h
  refine kx_ofI (cc := cd_L_add) (maxL := 5) (ty := .int) (hh := [(0, 10, 13, 13), (0, 10, 17, 15)]) (by decide) rfl (Nat.le_of_ble_eq_true rfl) rfl ?_
  intro pp ee s m args below meth c A X hr hlk hEx hN htb
  have hE := hEx.1
  refine kw_aload_n X dc_L_add_0 rfl rfl ?_
  refine kw_iconst (v := (nI 0)) X dc_L_add_1 (by decide) ?_
  refine kw_aload_n X dc_L_add_2 rfl rfl ?_
  refine kw_iload_n X dc_L_add_3 rfl rfl ?_
  refine kw_iload_n X dc_L_add_4 rfl rfl ?_
  refine kx_catchV X hEx hN 0 hf0 rfl (ct_CaddF1 hl0 ad n lo hi bg cs T w0 h a b hok) (cw_V 2 X wd_256 wd_257 wd_258 wd_1 wd_259 rfl rfl (by decide +kernel) ⟨Nat.le_of_ble_eq_true rfl, Nat.le_of_ble_eq_true rfl⟩) (List.range' 0 16) (kb_get0 (x := w0) (post := [(o, .inl (kL, 1, .inr (.inl f)))]) h16) (by decide) (fun _ h => Nat.le_of_eq (csP_16 h).symm) rfl rfl (Nat.le_of_ble_eq_true rfl) dc_L_add_5 ⟨Nat.le_of_ble_eq_true rfl, Nat.le_of_ble_eq_true rfl⟩ [] ⟨0, 10, 13, 13⟩ [⟨0, 10, 17, 15⟩] htb (kx_pa0) rfl (by decide) wd_254 (List.mem_of_getElem? (i := 0) rfl) (fun w q9 hp => ?_)
  have h17 := csP_16 hp
  refine kw_cv (ws' := w ++ [(o, .inl (kL, 1, .inr (.inl f)))]) (kb_put0 (x := w0) (post := [(o, .inl (kL, 1, .inr (.inl f)))]) h16 h17) rfl rfl ?_
  refine kw_astore X dc_L_add_13 (by decide) ?_
  refine kw_iconst (v := (nI 1)) X dc_L_add_15 (by decide) ?_
  exact kw_iret X hr hlk dc_L_add_16 ⟨rfl, w, rfl, hp⟩
set_option maxRecDepth 100000 in
set_option maxHeartbeats 1000000 in
theorem ct_LaddF2 {l : Launch} {D : va_G} {kI kB kC kL : ClassId} (hl0 : l.stackTraces = false) (ad : Nat → Nat) (n : Nat) (lo hi : Nat → Nat) (bg : Bool) (cs T : List Nat) (w0 : va_W) (h : csP kI kB kC ad n lo hi bg cs T w0) (o : Nat) (f : Nat → Int64) (a b : Int32) (hok : adOk a b) (hz : bg = true ∨ n = 12) : kw_I l mn_L_add (gh mn_L_add cd_L_add 5 (some .int) [(0, 10, 13, 13), (0, 10, 17, 15)]) ({ frames := 7, cells := 1, slots := 6, locals := 103 } : Room) D cl_v (kt kI kB kC kL) kEx [.ref (ad 0), .int a, .int b, .ref o] (w0 ++ [(o, .inl (kL, 1, .inr (.inl f)))]) (fun r w => r = nI 2 ∧ ∃ w1 : va_W, w = w1 ++ [(o, .inl (kL, 1, .inr (.inl f)))] ∧ csP kI kB kC ad n lo hi bg cs T w1) 1 6 := by
  obtain ⟨fs, hf0⟩ := csP_0 h
  have h16 := csP_16 h
  refine kx_ofI (cc := cd_L_add) (maxL := 5) (ty := .int) (hh := [(0, 10, 13, 13), (0, 10, 17, 15)]) (by decide) rfl (Nat.le_of_ble_eq_true rfl) rfl ?_
  intro pp ee s m args below meth c A X hr hlk hEx hN htb
  have hE := hEx.1
  refine kw_aload_n X dc_L_add_0 rfl rfl ?_
  refine kw_iconst (v := (nI 0)) X dc_L_add_1 (by decide) ?_
  refine kw_aload_n X dc_L_add_2 rfl rfl ?_
  refine kw_iload_n X dc_L_add_3 rfl rfl ?_
  refine kw_iload_n X dc_L_add_4 rfl rfl ?_
  refine kx_catchV X hEx hN 0 hf0 rfl (ct_CaddF2 hl0 ad n lo hi bg cs T w0 h a b hok hz) (cw_V 2 X wd_256 wd_257 wd_258 wd_1 wd_259 rfl rfl (by decide +kernel) ⟨Nat.le_of_ble_eq_true rfl, Nat.le_of_ble_eq_true rfl⟩) (List.range' 0 16) (kb_get0 (x := w0) (post := [(o, .inl (kL, 1, .inr (.inl f)))]) h16) (by decide) (fun _ h => Nat.le_of_eq (csP_16 h).symm) rfl rfl (Nat.le_of_ble_eq_true rfl) dc_L_add_5 ⟨Nat.le_of_ble_eq_true rfl, Nat.le_of_ble_eq_true rfl⟩ [⟨0, 10, 13, 13⟩] ⟨0, 10, 17, 15⟩ [] htb (kx_pa1 ⟨by decide, _, wd_254, (List.mem_of_getElem? (i := 7) rfl)⟩) rfl (by decide) wd_255 (List.mem_of_getElem? (i := 1) rfl) (fun w q9 hp => ?_)
  have h17 := csP_16 hp
  refine kw_cv (ws' := w ++ [(o, .inl (kL, 1, .inr (.inl f)))]) (kb_put0 (x := w0) (post := [(o, .inl (kL, 1, .inr (.inl f)))]) h16 h17) rfl rfl ?_
  refine kw_astore X dc_L_add_17 (by decide) ?_
  refine kw_iconst (v := (nI 2)) X dc_L_add_19 (by decide) ?_
  exact kw_iret X hr hlk dc_L_add_20 ⟨rfl, w, rfl, hp⟩
set_option maxRecDepth 100000 in
set_option maxHeartbeats 1000000 in
theorem ct_LboardT {l : Launch} {D : va_G} {kI kB kC kL : ClassId} (ad : Nat → Nat) (lo hi : Nat → Nat) (T : List Nat) (w0 : va_W) (h : csP kI kB kC ad 0 lo hi false [] T w0) (o : Nat) (f : Nat → Int64) (rr cn : Nat) (hfit : bd_fit rr cn) : kw_I l mn_L_board (gh mn_L_board cd_L_board 5 (some .int) [(0, 10, 13, 13), (0, 10, 17, 15)]) ({ frames := 4, cells := 1, slots := 6, locals := 91 } : Room) D cl_v (kt kI kB kC kL) kEx [.ref (ad 0), .int (nI rr), .int (nI cn), .ref o] (w0 ++ [(o, .inl (kL, 1, .inr (.inl f)))]) (fun r w => r = nI 0 ∧ ∃ (w1 : va_W) (f2 : Nat → Int64), w = w1 ++ [(o, .inl (kL, 1, .inr (.inl f2)))] ∧ csP kI kB kC ad (gm_ads (0, lo, hi) (bd_all rr cn (rr * cn))).1 (gm_ads (0, lo, hi) (bd_all rr cn (rr * cn))).2.1 (gm_ads (0, lo, hi) (bd_all rr cn (rr * cn))).2.2 false [] T w1 ∧ f2 0 = (nI (gm_ads (0, lo, hi) (bd_all rr cn (rr * cn))).1).toInt64) 1 6 := by
  obtain ⟨fs, hf0⟩ := csP_0 h
  have h16 := csP_16 h
  refine kx_ofI (cc := cd_L_board) (maxL := 5) (ty := .int) (hh := [(0, 10, 13, 13), (0, 10, 17, 15)]) (by decide) rfl (Nat.le_of_ble_eq_true rfl) rfl ?_
  intro pp ee s m args below meth c A X hr hlk hEx hN htb
  have hE := hEx.1
  refine kw_widen (k9 := 1) (n9 := 6) (Nat.zero_le _) (Nat.zero_le _) ?_
  refine kw_aload_n X dc_L_board_0 rfl rfl ?_
  refine kw_iconst (v := (nI 0)) X dc_L_board_1 (by decide) ?_
  refine kw_aload_n X dc_L_board_2 rfl rfl ?_
  refine kw_iload_n X dc_L_board_3 rfl rfl ?_
  refine kw_iload_n X dc_L_board_4 rfl rfl ?_
  refine kw_callVI X kEw hE 0 hf0 rfl (ct_CboardT ad lo hi T w0 h rr cn hfit) (cw_V 2 X wd_356 wd_357 wd_358 wd_1 wd_359 rfl rfl (by decide +kernel) ⟨Nat.le_of_ble_eq_true rfl, Nat.le_of_ble_eq_true rfl⟩) (List.range' 0 16) (kb_get0 (x := w0) (post := [(o, .inl (kL, 1, .inr (.inl f)))]) h16) (by decide) (fun _ _ h => Nat.le_of_eq (csP_16 h.2).symm) rfl rfl (Nat.le_of_ble_eq_true rfl) dc_L_board_5 ⟨Nat.le_of_ble_eq_true rfl, Nat.le_of_ble_eq_true rfl⟩ (fun r w hp => ?_)
  obtain ⟨rfl, hq⟩ := hp
  have h17 := csP_16 hq
  refine kw_cv (ws' := w ++ [(o, .inl (kL, 1, .inr (.inl f)))]) (kb_put0 (x := w0) (post := [(o, .inl (kL, 1, .inr (.inl f)))]) h16 h17) rfl rfl ?_
  refine kw_i2l X dc_L_board_8 rfl ?_
  refine kw_last X 16 3 (kb_at h17) rfl (kq_in (k := 0) (by decide) (by decide)) dc_L_board_9 ?_
  refine kw_cv (ws' := w ++ [(o, .inl (kL, 1, .inr (.inl (vp_updL f (nI 0).toNatClampNeg (nI (gm_ads (0, lo, hi) (bd_all rr cn (rr * cn))).1).toInt64))))]) (kb_set h17) rfl rfl ?_
  refine kw_goto (tgt := 21) X dc_L_board_10 (by decide) ?_
  refine kw_iconst (v := (nI 0)) X dc_L_board_21 (by decide) ?_
  exact kw_iret X hr hlk dc_L_board_22 ⟨rfl, w, _, rfl, hq, vp_updL_0⟩
set_option maxRecDepth 100000 in
set_option maxHeartbeats 1000000 in
theorem ct_LboardF1 {l : Launch} {D : va_G} {kI kB kC kL : ClassId} (hl0 : l.stackTraces = false) (ad : Nat → Nat) (n : Nat) (lo hi : Nat → Nat) (bg : Bool) (cs T : List Nat) (w0 : va_W) (h : csP kI kB kC ad n lo hi bg cs T w0) (o : Nat) (f : Nat → Int64) (a b : Int32) (hok : ¬ bdOk a b) : kw_I l mn_L_board (gh mn_L_board cd_L_board 5 (some .int) [(0, 10, 13, 13), (0, 10, 17, 15)]) ({ frames := 7, cells := 1, slots := 6, locals := 103 } : Room) D cl_v (kt kI kB kC kL) kEx [.ref (ad 0), .int a, .int b, .ref o] (w0 ++ [(o, .inl (kL, 1, .inr (.inl f)))]) (fun r w => r = nI 1 ∧ ∃ w1 : va_W, w = w1 ++ [(o, .inl (kL, 1, .inr (.inl f)))] ∧ csP kI kB kC ad n lo hi bg cs T w1) 1 6 := by
  obtain ⟨fs, hf0⟩ := csP_0 h
  have h16 := csP_16 h
  refine kx_ofI (cc := cd_L_board) (maxL := 5) (ty := .int) (hh := [(0, 10, 13, 13), (0, 10, 17, 15)]) (by decide) rfl (Nat.le_of_ble_eq_true rfl) rfl ?_
  intro pp ee s m args below meth c A X hr hlk hEx hN htb
  have hE := hEx.1
  refine kw_aload_n X dc_L_board_0 rfl rfl ?_
  refine kw_iconst (v := (nI 0)) X dc_L_board_1 (by decide) ?_
  refine kw_aload_n X dc_L_board_2 rfl rfl ?_
  refine kw_iload_n X dc_L_board_3 rfl rfl ?_
  refine kw_iload_n X dc_L_board_4 rfl rfl ?_
  refine kx_catchV X hEx hN 0 hf0 rfl (ct_CboardF1 hl0 ad n lo hi bg cs T w0 h a b hok) (cw_V 2 X wd_356 wd_357 wd_358 wd_1 wd_359 rfl rfl (by decide +kernel) ⟨Nat.le_of_ble_eq_true rfl, Nat.le_of_ble_eq_true rfl⟩) (List.range' 0 16) (kb_get0 (x := w0) (post := [(o, .inl (kL, 1, .inr (.inl f)))]) h16) (by decide) (fun _ h => Nat.le_of_eq (csP_16 h).symm) rfl rfl (Nat.le_of_ble_eq_true rfl) dc_L_board_5 ⟨Nat.le_of_ble_eq_true rfl, Nat.le_of_ble_eq_true rfl⟩ [] ⟨0, 10, 13, 13⟩ [⟨0, 10, 17, 15⟩] htb (kx_pa0) rfl (by decide) wd_254 (List.mem_of_getElem? (i := 0) rfl) (fun w q9 hp => ?_)
  have h17 := csP_16 hp
  refine kw_cv (ws' := w ++ [(o, .inl (kL, 1, .inr (.inl f)))]) (kb_put0 (x := w0) (post := [(o, .inl (kL, 1, .inr (.inl f)))]) h16 h17) rfl rfl ?_
  refine kw_astore X dc_L_board_13 (by decide) ?_
  refine kw_iconst (v := (nI 1)) X dc_L_board_15 (by decide) ?_
  exact kw_iret X hr hlk dc_L_board_16 ⟨rfl, w, rfl, hp⟩
set_option maxRecDepth 100000 in
set_option maxHeartbeats 1000000 in
theorem ct_LboardF2 {l : Launch} {D : va_G} {kI kB kC kL : ClassId} (hl0 : l.stackTraces = false) (ad : Nat → Nat) (n : Nat) (lo hi : Nat → Nat) (bg : Bool) (cs T : List Nat) (w0 : va_W) (h : csP kI kB kC ad n lo hi bg cs T w0) (o : Nat) (f : Nat → Int64) (a b : Int32) (hok : bdOk a b) (hz : bg = true ∨ n ≠ 0) : kw_I l mn_L_board (gh mn_L_board cd_L_board 5 (some .int) [(0, 10, 13, 13), (0, 10, 17, 15)]) ({ frames := 7, cells := 1, slots := 6, locals := 103 } : Room) D cl_v (kt kI kB kC kL) kEx [.ref (ad 0), .int a, .int b, .ref o] (w0 ++ [(o, .inl (kL, 1, .inr (.inl f)))]) (fun r w => r = nI 2 ∧ ∃ w1 : va_W, w = w1 ++ [(o, .inl (kL, 1, .inr (.inl f)))] ∧ csP kI kB kC ad n lo hi bg cs T w1) 1 6 := by
  obtain ⟨fs, hf0⟩ := csP_0 h
  have h16 := csP_16 h
  refine kx_ofI (cc := cd_L_board) (maxL := 5) (ty := .int) (hh := [(0, 10, 13, 13), (0, 10, 17, 15)]) (by decide) rfl (Nat.le_of_ble_eq_true rfl) rfl ?_
  intro pp ee s m args below meth c A X hr hlk hEx hN htb
  have hE := hEx.1
  refine kw_aload_n X dc_L_board_0 rfl rfl ?_
  refine kw_iconst (v := (nI 0)) X dc_L_board_1 (by decide) ?_
  refine kw_aload_n X dc_L_board_2 rfl rfl ?_
  refine kw_iload_n X dc_L_board_3 rfl rfl ?_
  refine kw_iload_n X dc_L_board_4 rfl rfl ?_
  refine kx_catchV X hEx hN 0 hf0 rfl (ct_CboardF2 hl0 ad n lo hi bg cs T w0 h a b hok hz) (cw_V 2 X wd_356 wd_357 wd_358 wd_1 wd_359 rfl rfl (by decide +kernel) ⟨Nat.le_of_ble_eq_true rfl, Nat.le_of_ble_eq_true rfl⟩) (List.range' 0 16) (kb_get0 (x := w0) (post := [(o, .inl (kL, 1, .inr (.inl f)))]) h16) (by decide) (fun _ h => Nat.le_of_eq (csP_16 h).symm) rfl rfl (Nat.le_of_ble_eq_true rfl) dc_L_board_5 ⟨Nat.le_of_ble_eq_true rfl, Nat.le_of_ble_eq_true rfl⟩ [⟨0, 10, 13, 13⟩] ⟨0, 10, 17, 15⟩ [] htb (kx_pa1 ⟨by decide, _, wd_254, (List.mem_of_getElem? (i := 7) rfl)⟩) rfl (by decide) wd_255 (List.mem_of_getElem? (i := 1) rfl) (fun w q9 hp => ?_)
  have h17 := csP_16 hp
  refine kw_cv (ws' := w ++ [(o, .inl (kL, 1, .inr (.inl f)))]) (kb_put0 (x := w0) (post := [(o, .inl (kL, 1, .inr (.inl f)))]) h16 h17) rfl rfl ?_
  refine kw_astore X dc_L_board_17 (by decide) ?_
  refine kw_iconst (v := (nI 2)) X dc_L_board_19 (by decide) ?_
  exact kw_iret X hr hlk dc_L_board_20 ⟨rfl, w, rfl, hp⟩
set_option maxRecDepth 100000 in
set_option maxHeartbeats 1000000 in
theorem ct_LbeginT {l : Launch} {D : va_G} {kI kB kC kL : ClassId} (ad : Nat → Nat) (n : Nat) (lo hi : Nat → Nat) (T : List Nat) (w0 : va_W) (h : csP kI kB kC ad n lo hi false [] T w0) (hz : n ≠ 0) : kw_I l mn_L_begin (gh mn_L_begin cd_L_begin 2 (some .int) [(0, 4, 7, 15)]) ({ frames := 2, cells := 1, slots := 6, locals := 40 } : Room) D cl_v (kt kI kB kC kL) kEx [.ref (ad 0)] (w0 ++ []) (fun r w => r = nI 0 ∧ ∃ w1 : va_W, w = w1 ++ [] ∧ csP kI kB kC ad n lo hi true [] T w1) 1 6 := by
  obtain ⟨fs, hf0⟩ := csP_0 h
  have h16 := csP_16 h
  refine kx_ofI (cc := cd_L_begin) (maxL := 2) (ty := .int) (hh := [(0, 4, 7, 15)]) (by decide) rfl (Nat.le_of_ble_eq_true rfl) rfl ?_
  intro pp ee s m args below meth c A X hr hlk hEx hN htb
  have hE := hEx.1
  refine kw_widen (k9 := 1) (n9 := 6) (Nat.zero_le _) (Nat.zero_le _) ?_
  refine kw_aload_n X dc_L_begin_0 rfl rfl ?_
  refine kw_callVV X kEw hE 0 hf0 rfl (ct_CbeginT ad n lo hi T w0 h hz) (cw_V 0 X wd_371 wd_372 wd_373 wd_1 wd_374 rfl rfl (by decide +kernel) ⟨Nat.le_of_ble_eq_true rfl, Nat.le_of_ble_eq_true rfl⟩) (List.range' 0 16) (kb_get0 (x := w0) (post := []) h16) (by decide) (fun _ h => Nat.le_of_eq (csP_16 h).symm) rfl rfl (Nat.le_of_ble_eq_true rfl) dc_L_begin_1 ⟨Nat.le_of_ble_eq_true rfl, Nat.le_of_ble_eq_true rfl⟩ (fun w hp => ?_)
  have h17 := csP_16 hp
  refine kw_cv (ws' := w ++ []) (kb_put0 (x := w0) (post := []) h16 h17) rfl rfl ?_
  refine kw_goto (tgt := 10) X dc_L_begin_4 (by decide) ?_
  refine kw_iconst (v := (nI 0)) X dc_L_begin_10 (by decide) ?_
  exact kw_iret X hr hlk dc_L_begin_11 ⟨rfl, w, rfl, hp⟩
set_option maxRecDepth 100000 in
set_option maxHeartbeats 1000000 in
theorem ct_LbeginF {l : Launch} {D : va_G} {kI kB kC kL : ClassId} (hl0 : l.stackTraces = false) (ad : Nat → Nat) (n : Nat) (lo hi : Nat → Nat) (bg : Bool) (cs T : List Nat) (w0 : va_W) (h : csP kI kB kC ad n lo hi bg cs T w0) (hz : bg = true ∨ n = 0) : kw_I l mn_L_begin (gh mn_L_begin cd_L_begin 2 (some .int) [(0, 4, 7, 15)]) ({ frames := 7, cells := 1, slots := 6, locals := 101 } : Room) D cl_v (kt kI kB kC kL) kEx [.ref (ad 0)] (w0 ++ []) (fun r w => r = nI 1 ∧ ∃ w1 : va_W, w = w1 ++ [] ∧ csP kI kB kC ad n lo hi bg cs T w1) 1 6 := by
  obtain ⟨fs, hf0⟩ := csP_0 h
  have h16 := csP_16 h
  refine kx_ofI (cc := cd_L_begin) (maxL := 2) (ty := .int) (hh := [(0, 4, 7, 15)]) (by decide) rfl (Nat.le_of_ble_eq_true rfl) rfl ?_
  intro pp ee s m args below meth c A X hr hlk hEx hN htb
  have hE := hEx.1
  refine kw_aload_n X dc_L_begin_0 rfl rfl ?_
  refine kx_catchV X hEx hN 0 hf0 rfl (ct_CbeginF hl0 ad n lo hi bg cs T w0 h hz) (cw_V 0 X wd_371 wd_372 wd_373 wd_1 wd_374 rfl rfl (by decide +kernel) ⟨Nat.le_of_ble_eq_true rfl, Nat.le_of_ble_eq_true rfl⟩) (List.range' 0 16) (kb_get0 (x := w0) (post := []) h16) (by decide) (fun _ h => Nat.le_of_eq (csP_16 h).symm) rfl rfl (Nat.le_of_ble_eq_true rfl) dc_L_begin_1 ⟨Nat.le_of_ble_eq_true rfl, Nat.le_of_ble_eq_true rfl⟩ [] ⟨0, 4, 7, 15⟩ [] htb (kx_pa0) rfl (by decide) wd_255 (List.mem_of_getElem? (i := 1) rfl) (fun w q9 hp => ?_)
  have h17 := csP_16 hp
  refine kw_cv (ws' := w ++ []) (kb_put0 (x := w0) (post := []) h16 h17) rfl rfl ?_
  refine kw_astore_n X dc_L_begin_7 rfl (by decide) ?_
  refine kw_iconst (v := (nI 1)) X dc_L_begin_8 (by decide) ?_
  exact kw_iret X hr hlk dc_L_begin_9 ⟨rfl, w, rfl, hp⟩
set_option maxRecDepth 100000 in
set_option maxHeartbeats 1000000 in
theorem ct_LcutT {l : Launch} {D : va_G} {kI kB kC kL : ClassId} (ad : Nat → Nat) (n : Nat) (lo hi : Nat → Nat) (cs T : List Nat) (w0 : va_W) (h : csP kI kB kC ad n lo hi true cs T w0) (o : Nat) (f : Nat → Int64) (i : Nat) (hi1 : i < n) (hb : (gm_run lo hi n cs).1.testBit i = true) : kw_I l mn_L_cut (gh mn_L_cut cd_L_cut 4 (some .int) [(0, 9, 12, 15), (0, 9, 15, 27), (0, 9, 18, 29)]) ({ frames := 4, cells := 1, slots := 6, locals := 89 } : Room) D cl_v (kt kI kB kC kL) kEx [.ref (ad 0), .int (nI i), .ref o] (w0 ++ [(o, .inl (kL, 1, .inr (.inl f)))]) (fun r w => r = nI 0 ∧ ∃ (w1 : va_W) (f2 : Nat → Int64), w = w1 ++ [(o, .inl (kL, 1, .inr (.inl f2)))] ∧ csP kI kB kC ad n lo hi true (i :: cs) T w1 ∧ f2 0 = (nI (gm_tk lo hi n (gm_run lo hi n cs).1 i)).toInt64) 1 6 := by
  obtain ⟨fs, hf0⟩ := csP_0 h
  have h16 := csP_16 h
  refine kx_ofI (cc := cd_L_cut) (maxL := 4) (ty := .int) (hh := [(0, 9, 12, 15), (0, 9, 15, 27), (0, 9, 18, 29)]) (by decide) rfl (Nat.le_of_ble_eq_true rfl) rfl ?_
  intro pp ee s m args below meth c A X hr hlk hEx hN htb
  have hE := hEx.1
  refine kw_widen (k9 := 1) (n9 := 6) (Nat.zero_le _) (Nat.zero_le _) ?_
  refine kw_aload_n X dc_L_cut_0 rfl rfl ?_
  refine kw_iconst (v := (nI 0)) X dc_L_cut_1 (by decide) ?_
  refine kw_aload_n X dc_L_cut_2 rfl rfl ?_
  refine kw_iload_n X dc_L_cut_3 rfl rfl ?_
  refine kw_callVI X kEw hE 0 hf0 rfl (ct_CcutT ad n lo hi cs T w0 h i hi1 hb) (cw_V 1 X wd_389 wd_390 wd_391 wd_1 wd_392 rfl rfl (by decide +kernel) ⟨Nat.le_of_ble_eq_true rfl, Nat.le_of_ble_eq_true rfl⟩) (List.range' 0 16) (kb_get0 (x := w0) (post := [(o, .inl (kL, 1, .inr (.inl f)))]) h16) (by decide) (fun _ _ h => Nat.le_of_eq (csP_16 h.2).symm) rfl rfl (Nat.le_of_ble_eq_true rfl) dc_L_cut_4 ⟨Nat.le_of_ble_eq_true rfl, Nat.le_of_ble_eq_true rfl⟩ (fun r w hp => ?_)
  obtain ⟨rfl, hq⟩ := hp
  have h17 := csP_16 hq
  refine kw_cv (ws' := w ++ [(o, .inl (kL, 1, .inr (.inl f)))]) (kb_put0 (x := w0) (post := [(o, .inl (kL, 1, .inr (.inl f)))]) h16 h17) rfl rfl ?_
  refine kw_i2l X dc_L_cut_7 rfl ?_
  refine kw_last X 16 3 (kb_at h17) rfl (kq_in (k := 0) (by decide) (by decide)) dc_L_cut_8 ?_
  refine kw_cv (ws' := w ++ [(o, .inl (kL, 1, .inr (.inl (vp_updL f (nI 0).toNatClampNeg (nI (gm_tk lo hi n (gm_run lo hi n cs).1 i)).toInt64))))]) (kb_set h17) rfl rfl ?_
  refine kw_goto (tgt := 21) X dc_L_cut_9 (by decide) ?_
  refine kw_iconst (v := (nI 0)) X dc_L_cut_21 (by decide) ?_
  exact kw_iret X hr hlk dc_L_cut_22 ⟨rfl, w, _, rfl, hq, vp_updL_0⟩
set_option maxRecDepth 100000 in
set_option maxHeartbeats 1000000 in
theorem ct_LcutF1 {l : Launch} {D : va_G} {kI kB kC kL : ClassId} (hl0 : l.stackTraces = false) (ad : Nat → Nat) (n : Nat) (lo hi : Nat → Nat) (cs T : List Nat) (w0 : va_W) (h : csP kI kB kC ad n lo hi false cs T w0) (o : Nat) (f : Nat → Int64) (a : Int32) : kw_I l mn_L_cut (gh mn_L_cut cd_L_cut 4 (some .int) [(0, 9, 12, 15), (0, 9, 15, 27), (0, 9, 18, 29)]) ({ frames := 8, cells := 1, slots := 6, locals := 122 } : Room) D cl_v (kt kI kB kC kL) kEx [.ref (ad 0), .int a, .ref o] (w0 ++ [(o, .inl (kL, 1, .inr (.inl f)))]) (fun r w => r = nI 1 ∧ ∃ w1 : va_W, w = w1 ++ [(o, .inl (kL, 1, .inr (.inl f)))] ∧ csP kI kB kC ad n lo hi false cs T w1) 1 6 := by
  obtain ⟨fs, hf0⟩ := csP_0 h
  have h16 := csP_16 h
  refine kx_ofI (cc := cd_L_cut) (maxL := 4) (ty := .int) (hh := [(0, 9, 12, 15), (0, 9, 15, 27), (0, 9, 18, 29)]) (by decide) rfl (Nat.le_of_ble_eq_true rfl) rfl ?_
  intro pp ee s m args below meth c A X hr hlk hEx hN htb
  have hE := hEx.1
  refine kw_aload_n X dc_L_cut_0 rfl rfl ?_
  refine kw_iconst (v := (nI 0)) X dc_L_cut_1 (by decide) ?_
  refine kw_aload_n X dc_L_cut_2 rfl rfl ?_
  refine kw_iload_n X dc_L_cut_3 rfl rfl ?_
  refine kx_catchV X hEx hN 0 hf0 rfl (ct_CcutF1 hl0 ad n lo hi cs T w0 h a) (cw_V 1 X wd_389 wd_390 wd_391 wd_1 wd_392 rfl rfl (by decide +kernel) ⟨Nat.le_of_ble_eq_true rfl, Nat.le_of_ble_eq_true rfl⟩) (List.range' 0 16) (kb_get0 (x := w0) (post := [(o, .inl (kL, 1, .inr (.inl f)))]) h16) (by decide) (fun _ h => Nat.le_of_eq (csP_16 h).symm) rfl rfl (Nat.le_of_ble_eq_true rfl) dc_L_cut_4 ⟨Nat.le_of_ble_eq_true rfl, Nat.le_of_ble_eq_true rfl⟩ [] ⟨0, 9, 12, 15⟩ [⟨0, 9, 15, 27⟩, ⟨0, 9, 18, 29⟩] htb (kx_pa0) rfl (by decide) wd_255 (List.mem_of_getElem? (i := 1) rfl) (fun w q9 hp => ?_)
  have h17 := csP_16 hp
  refine kw_cv (ws' := w ++ [(o, .inl (kL, 1, .inr (.inl f)))]) (kb_put0 (x := w0) (post := [(o, .inl (kL, 1, .inr (.inl f)))]) h16 h17) rfl rfl ?_
  refine kw_astore_n X dc_L_cut_12 rfl (by decide) ?_
  refine kw_iconst (v := (nI 1)) X dc_L_cut_13 (by decide) ?_
  exact kw_iret X hr hlk dc_L_cut_14 ⟨rfl, w, rfl, hp⟩
set_option maxRecDepth 100000 in
set_option maxHeartbeats 1000000 in
theorem ct_LcutF2 {l : Launch} {D : va_G} {kI kB kC kL : ClassId} (hl0 : l.stackTraces = false) (ad : Nat → Nat) (n : Nat) (lo hi : Nat → Nat) (cs T : List Nat) (w0 : va_W) (h : csP kI kB kC ad n lo hi true cs T w0) (o : Nat) (f : Nat → Int64) (a : Int32) (ha : ¬ (0 ≤ a ∧ a < nI n)) : kw_I l mn_L_cut (gh mn_L_cut cd_L_cut 4 (some .int) [(0, 9, 12, 15), (0, 9, 15, 27), (0, 9, 18, 29)]) ({ frames := 7, cells := 1, slots := 6, locals := 102 } : Room) D cl_v (kt kI kB kC kL) kEx [.ref (ad 0), .int a, .ref o] (w0 ++ [(o, .inl (kL, 1, .inr (.inl f)))]) (fun r w => r = nI 2 ∧ ∃ w1 : va_W, w = w1 ++ [(o, .inl (kL, 1, .inr (.inl f)))] ∧ csP kI kB kC ad n lo hi true cs T w1) 1 6 := by
  obtain ⟨fs, hf0⟩ := csP_0 h
  have h16 := csP_16 h
  refine kx_ofI (cc := cd_L_cut) (maxL := 4) (ty := .int) (hh := [(0, 9, 12, 15), (0, 9, 15, 27), (0, 9, 18, 29)]) (by decide) rfl (Nat.le_of_ble_eq_true rfl) rfl ?_
  intro pp ee s m args below meth c A X hr hlk hEx hN htb
  have hE := hEx.1
  refine kw_aload_n X dc_L_cut_0 rfl rfl ?_
  refine kw_iconst (v := (nI 0)) X dc_L_cut_1 (by decide) ?_
  refine kw_aload_n X dc_L_cut_2 rfl rfl ?_
  refine kw_iload_n X dc_L_cut_3 rfl rfl ?_
  refine kx_catchV X hEx hN 0 hf0 rfl (ct_CcutF2 hl0 ad n lo hi cs T w0 h a ha) (cw_V 1 X wd_389 wd_390 wd_391 wd_1 wd_392 rfl rfl (by decide +kernel) ⟨Nat.le_of_ble_eq_true rfl, Nat.le_of_ble_eq_true rfl⟩) (List.range' 0 16) (kb_get0 (x := w0) (post := [(o, .inl (kL, 1, .inr (.inl f)))]) h16) (by decide) (fun _ h => Nat.le_of_eq (csP_16 h).symm) rfl rfl (Nat.le_of_ble_eq_true rfl) dc_L_cut_4 ⟨Nat.le_of_ble_eq_true rfl, Nat.le_of_ble_eq_true rfl⟩ [⟨0, 9, 12, 15⟩] ⟨0, 9, 15, 27⟩ [⟨0, 9, 18, 29⟩] htb (kx_pa1 ⟨by decide, _, wd_255, (List.mem_of_getElem? (i := 8) rfl)⟩) rfl (by decide) wd_387 (List.mem_of_getElem? (i := 2) rfl) (fun w q9 hp => ?_)
  have h17 := csP_16 hp
  refine kw_cv (ws' := w ++ [(o, .inl (kL, 1, .inr (.inl f)))]) (kb_put0 (x := w0) (post := [(o, .inl (kL, 1, .inr (.inl f)))]) h16 h17) rfl rfl ?_
  refine kw_astore_n X dc_L_cut_15 rfl (by decide) ?_
  refine kw_iconst (v := (nI 2)) X dc_L_cut_16 (by decide) ?_
  exact kw_iret X hr hlk dc_L_cut_17 ⟨rfl, w, rfl, hp⟩
set_option maxRecDepth 100000 in
set_option maxHeartbeats 1000000 in
theorem ct_LcutF3 {l : Launch} {D : va_G} {kI kB kC kL : ClassId} (hl0 : l.stackTraces = false) (ad : Nat → Nat) (n : Nat) (lo hi : Nat → Nat) (cs T : List Nat) (w0 : va_W) (h : csP kI kB kC ad n lo hi true cs T w0) (o : Nat) (f : Nat → Int64) (i : Nat) (hi1 : i < n) (hb : (gm_run lo hi n cs).1.testBit i = false) : kw_I l mn_L_cut (gh mn_L_cut cd_L_cut 4 (some .int) [(0, 9, 12, 15), (0, 9, 15, 27), (0, 9, 18, 29)]) ({ frames := 7, cells := 1, slots := 6, locals := 102 } : Room) D cl_v (kt kI kB kC kL) kEx [.ref (ad 0), .int (nI i), .ref o] (w0 ++ [(o, .inl (kL, 1, .inr (.inl f)))]) (fun r w => r = nI 3 ∧ ∃ w1 : va_W, w = w1 ++ [(o, .inl (kL, 1, .inr (.inl f)))] ∧ csP kI kB kC ad n lo hi true cs T w1) 1 6 := by
  obtain ⟨fs, hf0⟩ := csP_0 h
  have h16 := csP_16 h
  refine kx_ofI (cc := cd_L_cut) (maxL := 4) (ty := .int) (hh := [(0, 9, 12, 15), (0, 9, 15, 27), (0, 9, 18, 29)]) (by decide) rfl (Nat.le_of_ble_eq_true rfl) rfl ?_
  intro pp ee s m args below meth c A X hr hlk hEx hN htb
  have hE := hEx.1
  refine kw_aload_n X dc_L_cut_0 rfl rfl ?_
  refine kw_iconst (v := (nI 0)) X dc_L_cut_1 (by decide) ?_
  refine kw_aload_n X dc_L_cut_2 rfl rfl ?_
  refine kw_iload_n X dc_L_cut_3 rfl rfl ?_
  refine kx_catchV X hEx hN 0 hf0 rfl (ct_CcutF3 hl0 ad n lo hi cs T w0 h i hi1 hb) (cw_V 1 X wd_389 wd_390 wd_391 wd_1 wd_392 rfl rfl (by decide +kernel) ⟨Nat.le_of_ble_eq_true rfl, Nat.le_of_ble_eq_true rfl⟩) (List.range' 0 16) (kb_get0 (x := w0) (post := [(o, .inl (kL, 1, .inr (.inl f)))]) h16) (by decide) (fun _ h => Nat.le_of_eq (csP_16 h).symm) rfl rfl (Nat.le_of_ble_eq_true rfl) dc_L_cut_4 ⟨Nat.le_of_ble_eq_true rfl, Nat.le_of_ble_eq_true rfl⟩ [⟨0, 9, 12, 15⟩, ⟨0, 9, 15, 27⟩] ⟨0, 9, 18, 29⟩ [] htb (kx_pa2 ⟨by decide, _, wd_255, (List.mem_of_getElem? (i := 9) rfl)⟩ ⟨by decide, _, wd_387, (List.mem_of_getElem? (i := 10) rfl)⟩) rfl (by decide) wd_388 (List.mem_of_getElem? (i := 3) rfl) (fun w q9 hp => ?_)
  have h17 := csP_16 hp
  refine kw_cv (ws' := w ++ [(o, .inl (kL, 1, .inr (.inl f)))]) (kb_put0 (x := w0) (post := [(o, .inl (kL, 1, .inr (.inl f)))]) h16 h17) rfl rfl ?_
  refine kw_astore_n X dc_L_cut_18 rfl (by decide) ?_
  refine kw_iconst (v := (nI 3)) X dc_L_cut_19 (by decide) ?_
  exact kw_iret X hr hlk dc_L_cut_20 ⟨rfl, w, rfl, hp⟩
set_option maxRecDepth 100000 in
set_option maxHeartbeats 1000000 in
theorem ct_LmarginT {l : Launch} {D : va_G} {kI kB kC kL : ClassId} (ad : Nat → Nat) (n : Nat) (lo hi : Nat → Nat) (cs T : List Nat) (w0 : va_W) (h : csP kI kB kC ad n lo hi true cs T w0) (o : Nat) (f : Nat → Int64)  : kw_I l mn_L_margin (gh mn_L_margin cd_L_margin 3 (some .int) [(0, 8, 11, 15)]) ({ frames := 7, cells := 1, slots := 6, locals := 155 } : Room) D cl_v (kt kI kB kC kL) kEx [.ref (ad 0), .ref o] (w0 ++ [(o, .inl (kL, 1, .inr (.inl f)))]) (fun r w => r = nI 0 ∧ ∃ (w1 : va_W) (f2 : Nat → Int64), w = w1 ++ [(o, .inl (kL, 1, .inr (.inl f2)))] ∧ csP kI kB kC ad n lo hi true cs T w1 ∧ f2 0 = (iZ (gm_mg lo hi n (gm_run lo hi n cs).1)).toInt64) 1 6 := by
  obtain ⟨fs, hf0⟩ := csP_0 h
  have h16 := csP_16 h
  refine kx_ofI (cc := cd_L_margin) (maxL := 3) (ty := .int) (hh := [(0, 8, 11, 15)]) (by decide) rfl (Nat.le_of_ble_eq_true rfl) rfl ?_
  intro pp ee s m args below meth c A X hr hlk hEx hN htb
  have hE := hEx.1
  refine kw_widen (k9 := 1) (n9 := 6) (Nat.zero_le _) (Nat.zero_le _) ?_
  refine kw_aload_n X dc_L_margin_0 rfl rfl ?_
  refine kw_iconst (v := (nI 0)) X dc_L_margin_1 (by decide) ?_
  refine kw_aload_n X dc_L_margin_2 rfl rfl ?_
  refine kw_callVI X kEw hE 0 hf0 rfl (ct_CmarginT ad n lo hi cs T w0 h ) (cw_V 0 X wd_524 wd_525 wd_526 wd_1 wd_527 rfl rfl (by decide +kernel) ⟨Nat.le_of_ble_eq_true rfl, Nat.le_of_ble_eq_true rfl⟩) (List.range' 0 16) (kb_get0 (x := w0) (post := [(o, .inl (kL, 1, .inr (.inl f)))]) h16) (by decide) (fun _ _ h => Nat.le_of_eq (csP_16 h.2).symm) rfl rfl (Nat.le_of_ble_eq_true rfl) dc_L_margin_3 ⟨Nat.le_of_ble_eq_true rfl, Nat.le_of_ble_eq_true rfl⟩ (fun r w hp => ?_)
  obtain ⟨rfl, hq⟩ := hp
  have h17 := csP_16 hq
  refine kw_cv (ws' := w ++ [(o, .inl (kL, 1, .inr (.inl f)))]) (kb_put0 (x := w0) (post := [(o, .inl (kL, 1, .inr (.inl f)))]) h16 h17) rfl rfl ?_
  refine kw_i2l X dc_L_margin_6 rfl ?_
  refine kw_last X 16 3 (kb_at h17) rfl (kq_in (k := 0) (by decide) (by decide)) dc_L_margin_7 ?_
  refine kw_cv (ws' := w ++ [(o, .inl (kL, 1, .inr (.inl (vp_updL f (nI 0).toNatClampNeg (iZ (gm_mg lo hi n (gm_run lo hi n cs).1)).toInt64))))]) (kb_set h17) rfl rfl ?_
  refine kw_goto (tgt := 14) X dc_L_margin_8 (by decide) ?_
  refine kw_iconst (v := (nI 0)) X dc_L_margin_14 (by decide) ?_
  exact kw_iret X hr hlk dc_L_margin_15 ⟨rfl, w, _, rfl, hq, vp_updL_0⟩
set_option maxRecDepth 100000 in
set_option maxHeartbeats 1000000 in
theorem ct_LmarginF {l : Launch} {D : va_G} {kI kB kC kL : ClassId} (hl0 : l.stackTraces = false) (ad : Nat → Nat) (n : Nat) (lo hi : Nat → Nat) (cs T : List Nat) (w0 : va_W) (h : csP kI kB kC ad n lo hi false cs T w0) (o : Nat) (f : Nat → Int64)  : kw_I l mn_L_margin (gh mn_L_margin cd_L_margin 3 (some .int) [(0, 8, 11, 15)]) ({ frames := 8, cells := 1, slots := 6, locals := 121 } : Room) D cl_v (kt kI kB kC kL) kEx [.ref (ad 0), .ref o] (w0 ++ [(o, .inl (kL, 1, .inr (.inl f)))]) (fun r w => r = nI 1 ∧ ∃ w1 : va_W, w = w1 ++ [(o, .inl (kL, 1, .inr (.inl f)))] ∧ csP kI kB kC ad n lo hi false cs T w1) 1 6 := by
  obtain ⟨fs, hf0⟩ := csP_0 h
  have h16 := csP_16 h
  refine kx_ofI (cc := cd_L_margin) (maxL := 3) (ty := .int) (hh := [(0, 8, 11, 15)]) (by decide) rfl (Nat.le_of_ble_eq_true rfl) rfl ?_
  intro pp ee s m args below meth c A X hr hlk hEx hN htb
  have hE := hEx.1
  refine kw_aload_n X dc_L_margin_0 rfl rfl ?_
  refine kw_iconst (v := (nI 0)) X dc_L_margin_1 (by decide) ?_
  refine kw_aload_n X dc_L_margin_2 rfl rfl ?_
  refine kx_catchV X hEx hN 0 hf0 rfl (ct_CmarginF hl0 ad n lo hi cs T w0 h ) (cw_V 0 X wd_524 wd_525 wd_526 wd_1 wd_527 rfl rfl (by decide +kernel) ⟨Nat.le_of_ble_eq_true rfl, Nat.le_of_ble_eq_true rfl⟩) (List.range' 0 16) (kb_get0 (x := w0) (post := [(o, .inl (kL, 1, .inr (.inl f)))]) h16) (by decide) (fun _ h => Nat.le_of_eq (csP_16 h).symm) rfl rfl (Nat.le_of_ble_eq_true rfl) dc_L_margin_3 ⟨Nat.le_of_ble_eq_true rfl, Nat.le_of_ble_eq_true rfl⟩ [] ⟨0, 8, 11, 15⟩ [] htb (kx_pa0) rfl (by decide) wd_255 (List.mem_of_getElem? (i := 1) rfl) (fun w q9 hp => ?_)
  have h17 := csP_16 hp
  refine kw_cv (ws' := w ++ [(o, .inl (kL, 1, .inr (.inl f)))]) (kb_put0 (x := w0) (post := [(o, .inl (kL, 1, .inr (.inl f)))]) h16 h17) rfl rfl ?_
  refine kw_astore_n X dc_L_margin_11 rfl (by decide) ?_
  refine kw_iconst (v := (nI 1)) X dc_L_margin_12 (by decide) ?_
  exact kw_iret X hr hlk dc_L_margin_13 ⟨rfl, w, rfl, hp⟩
set_option maxRecDepth 100000 in
set_option maxHeartbeats 1000000 in
theorem ct_LgoodT {l : Launch} {D : va_G} {kI kB kC kL : ClassId} (ad : Nat → Nat) (n : Nat) (lo hi : Nat → Nat) (cs T : List Nat) (w0 : va_W) (h : csP kI kB kC ad n lo hi true cs T w0) (o : Nat) (f : Nat → Int64)  : kw_I l mn_L_good (gh mn_L_good cd_L_good 3 (some .int) [(0, 8, 11, 15)]) ({ frames := 7, cells := 1, slots := 6, locals := 157 } : Room) D cl_v (kt kI kB kC kL) kEx [.ref (ad 0), .ref o] (w0 ++ [(o, .inl (kL, 1, .inr (.inl f)))]) (fun r w => r = nI 0 ∧ ∃ (w1 : va_W) (f2 : Nat → Int64), w = w1 ++ [(o, .inl (kL, 1, .inr (.inl f2)))] ∧ csP kI kB kC ad n lo hi true cs T w1 ∧ f2 0 = (nI (gm_good lo hi n (gm_run lo hi n cs).1)).toInt64) 1 6 := by
  obtain ⟨fs, hf0⟩ := csP_0 h
  have h16 := csP_16 h
  refine kx_ofI (cc := cd_L_good) (maxL := 3) (ty := .int) (hh := [(0, 8, 11, 15)]) (by decide) rfl (Nat.le_of_ble_eq_true rfl) rfl ?_
  intro pp ee s m args below meth c A X hr hlk hEx hN htb
  have hE := hEx.1
  refine kw_widen (k9 := 1) (n9 := 6) (Nat.zero_le _) (Nat.zero_le _) ?_
  refine kw_aload_n X dc_L_good_0 rfl rfl ?_
  refine kw_iconst (v := (nI 0)) X dc_L_good_1 (by decide) ?_
  refine kw_aload_n X dc_L_good_2 rfl rfl ?_
  refine kw_callVI X kEw hE 0 hf0 rfl (ct_CgoodT ad n lo hi cs T w0 h ) (cw_V 0 X wd_537 wd_538 wd_539 wd_1 wd_540 rfl rfl (by decide +kernel) ⟨Nat.le_of_ble_eq_true rfl, Nat.le_of_ble_eq_true rfl⟩) (List.range' 0 16) (kb_get0 (x := w0) (post := [(o, .inl (kL, 1, .inr (.inl f)))]) h16) (by decide) (fun _ _ h => Nat.le_of_eq (csP_16 h.2).symm) rfl rfl (Nat.le_of_ble_eq_true rfl) dc_L_good_3 ⟨Nat.le_of_ble_eq_true rfl, Nat.le_of_ble_eq_true rfl⟩ (fun r w hp => ?_)
  obtain ⟨rfl, hq⟩ := hp
  have h17 := csP_16 hq
  refine kw_cv (ws' := w ++ [(o, .inl (kL, 1, .inr (.inl f)))]) (kb_put0 (x := w0) (post := [(o, .inl (kL, 1, .inr (.inl f)))]) h16 h17) rfl rfl ?_
  refine kw_i2l X dc_L_good_6 rfl ?_
  refine kw_last X 16 3 (kb_at h17) rfl (kq_in (k := 0) (by decide) (by decide)) dc_L_good_7 ?_
  refine kw_cv (ws' := w ++ [(o, .inl (kL, 1, .inr (.inl (vp_updL f (nI 0).toNatClampNeg (nI (gm_good lo hi n (gm_run lo hi n cs).1)).toInt64))))]) (kb_set h17) rfl rfl ?_
  refine kw_goto (tgt := 14) X dc_L_good_8 (by decide) ?_
  refine kw_iconst (v := (nI 0)) X dc_L_good_14 (by decide) ?_
  exact kw_iret X hr hlk dc_L_good_15 ⟨rfl, w, _, rfl, hq, vp_updL_0⟩
set_option maxRecDepth 100000 in
set_option maxHeartbeats 1000000 in
theorem ct_LgoodF {l : Launch} {D : va_G} {kI kB kC kL : ClassId} (hl0 : l.stackTraces = false) (ad : Nat → Nat) (n : Nat) (lo hi : Nat → Nat) (cs T : List Nat) (w0 : va_W) (h : csP kI kB kC ad n lo hi false cs T w0) (o : Nat) (f : Nat → Int64)  : kw_I l mn_L_good (gh mn_L_good cd_L_good 3 (some .int) [(0, 8, 11, 15)]) ({ frames := 8, cells := 1, slots := 6, locals := 121 } : Room) D cl_v (kt kI kB kC kL) kEx [.ref (ad 0), .ref o] (w0 ++ [(o, .inl (kL, 1, .inr (.inl f)))]) (fun r w => r = nI 1 ∧ ∃ w1 : va_W, w = w1 ++ [(o, .inl (kL, 1, .inr (.inl f)))] ∧ csP kI kB kC ad n lo hi false cs T w1) 1 6 := by
  obtain ⟨fs, hf0⟩ := csP_0 h
  have h16 := csP_16 h
  refine kx_ofI (cc := cd_L_good) (maxL := 3) (ty := .int) (hh := [(0, 8, 11, 15)]) (by decide) rfl (Nat.le_of_ble_eq_true rfl) rfl ?_
  intro pp ee s m args below meth c A X hr hlk hEx hN htb
  have hE := hEx.1
  refine kw_aload_n X dc_L_good_0 rfl rfl ?_
  refine kw_iconst (v := (nI 0)) X dc_L_good_1 (by decide) ?_
  refine kw_aload_n X dc_L_good_2 rfl rfl ?_
  refine kx_catchV X hEx hN 0 hf0 rfl (ct_CgoodF hl0 ad n lo hi cs T w0 h ) (cw_V 0 X wd_537 wd_538 wd_539 wd_1 wd_540 rfl rfl (by decide +kernel) ⟨Nat.le_of_ble_eq_true rfl, Nat.le_of_ble_eq_true rfl⟩) (List.range' 0 16) (kb_get0 (x := w0) (post := [(o, .inl (kL, 1, .inr (.inl f)))]) h16) (by decide) (fun _ h => Nat.le_of_eq (csP_16 h).symm) rfl rfl (Nat.le_of_ble_eq_true rfl) dc_L_good_3 ⟨Nat.le_of_ble_eq_true rfl, Nat.le_of_ble_eq_true rfl⟩ [] ⟨0, 8, 11, 15⟩ [] htb (kx_pa0) rfl (by decide) wd_255 (List.mem_of_getElem? (i := 1) rfl) (fun w q9 hp => ?_)
  have h17 := csP_16 hp
  refine kw_cv (ws' := w ++ [(o, .inl (kL, 1, .inr (.inl f)))]) (kb_put0 (x := w0) (post := [(o, .inl (kL, 1, .inr (.inl f)))]) h16 h17) rfl rfl ?_
  refine kw_astore_n X dc_L_good_11 rfl (by decide) ?_
  refine kw_iconst (v := (nI 1)) X dc_L_good_12 (by decide) ?_
  exact kw_iret X hr hlk dc_L_good_13 ⟨rfl, w, rfl, hp⟩
set_option maxRecDepth 100000 in
set_option maxHeartbeats 1000000 in
theorem ct_LnimT {l : Launch} {D : va_G} {kI kB kC kL : ClassId} (ad : Nat → Nat) (n : Nat) (lo hi : Nat → Nat) (cs T : List Nat) (w0 : va_W) (h : csP kI kB kC ad n lo hi true cs T w0) (o : Nat) (f : Nat → Int64)  : kw_I l mn_L_nim (gh mn_L_nim cd_L_nim 3 (some .int) [(0, 8, 11, 15)]) ({ frames := 6, cells := 1, slots := 6, locals := 135 } : Room) D cl_v (kt kI kB kC kL) kEx [.ref (ad 0), .ref o] (w0 ++ [(o, .inl (kL, 1, .inr (.inl f)))]) (fun r w => r = nI 0 ∧ ∃ (w1 : va_W) (f2 : Nat → Int64), w = w1 ++ [(o, .inl (kL, 1, .inr (.inl f2)))] ∧ csP kI kB kC ad n lo hi true cs T w1 ∧ f2 0 = (iZ (gm_nm lo hi n (gm_run lo hi n cs).1)).toInt64) 1 6 := by
  obtain ⟨fs, hf0⟩ := csP_0 h
  have h16 := csP_16 h
  refine kx_ofI (cc := cd_L_nim) (maxL := 3) (ty := .int) (hh := [(0, 8, 11, 15)]) (by decide) rfl (Nat.le_of_ble_eq_true rfl) rfl ?_
  intro pp ee s m args below meth c A X hr hlk hEx hN htb
  have hE := hEx.1
  refine kw_widen (k9 := 1) (n9 := 6) (Nat.zero_le _) (Nat.zero_le _) ?_
  refine kw_aload_n X dc_L_nim_0 rfl rfl ?_
  refine kw_iconst (v := (nI 0)) X dc_L_nim_1 (by decide) ?_
  refine kw_aload_n X dc_L_nim_2 rfl rfl ?_
  refine kw_callVI X kEw hE 0 hf0 rfl (ct_CnimT ad n lo hi cs T w0 h ) (cw_V 0 X wd_544 wd_545 wd_546 wd_1 wd_547 rfl rfl (by decide +kernel) ⟨Nat.le_of_ble_eq_true rfl, Nat.le_of_ble_eq_true rfl⟩) (List.range' 0 16) (kb_get0 (x := w0) (post := [(o, .inl (kL, 1, .inr (.inl f)))]) h16) (by decide) (fun _ _ h => Nat.le_of_eq (csP_16 h.2).symm) rfl rfl (Nat.le_of_ble_eq_true rfl) dc_L_nim_3 ⟨Nat.le_of_ble_eq_true rfl, Nat.le_of_ble_eq_true rfl⟩ (fun r w hp => ?_)
  obtain ⟨rfl, hq⟩ := hp
  have h17 := csP_16 hq
  refine kw_cv (ws' := w ++ [(o, .inl (kL, 1, .inr (.inl f)))]) (kb_put0 (x := w0) (post := [(o, .inl (kL, 1, .inr (.inl f)))]) h16 h17) rfl rfl ?_
  refine kw_i2l X dc_L_nim_6 rfl ?_
  refine kw_last X 16 3 (kb_at h17) rfl (kq_in (k := 0) (by decide) (by decide)) dc_L_nim_7 ?_
  refine kw_cv (ws' := w ++ [(o, .inl (kL, 1, .inr (.inl (vp_updL f (nI 0).toNatClampNeg (iZ (gm_nm lo hi n (gm_run lo hi n cs).1)).toInt64))))]) (kb_set h17) rfl rfl ?_
  refine kw_goto (tgt := 14) X dc_L_nim_8 (by decide) ?_
  refine kw_iconst (v := (nI 0)) X dc_L_nim_14 (by decide) ?_
  exact kw_iret X hr hlk dc_L_nim_15 ⟨rfl, w, _, rfl, hq, vp_updL_0⟩
set_option maxRecDepth 100000 in
set_option maxHeartbeats 1000000 in
theorem ct_LnimF {l : Launch} {D : va_G} {kI kB kC kL : ClassId} (hl0 : l.stackTraces = false) (ad : Nat → Nat) (n : Nat) (lo hi : Nat → Nat) (cs T : List Nat) (w0 : va_W) (h : csP kI kB kC ad n lo hi false cs T w0) (o : Nat) (f : Nat → Int64)  : kw_I l mn_L_nim (gh mn_L_nim cd_L_nim 3 (some .int) [(0, 8, 11, 15)]) ({ frames := 8, cells := 1, slots := 6, locals := 121 } : Room) D cl_v (kt kI kB kC kL) kEx [.ref (ad 0), .ref o] (w0 ++ [(o, .inl (kL, 1, .inr (.inl f)))]) (fun r w => r = nI 1 ∧ ∃ w1 : va_W, w = w1 ++ [(o, .inl (kL, 1, .inr (.inl f)))] ∧ csP kI kB kC ad n lo hi false cs T w1) 1 6 := by
  obtain ⟨fs, hf0⟩ := csP_0 h
  have h16 := csP_16 h
  refine kx_ofI (cc := cd_L_nim) (maxL := 3) (ty := .int) (hh := [(0, 8, 11, 15)]) (by decide) rfl (Nat.le_of_ble_eq_true rfl) rfl ?_
  intro pp ee s m args below meth c A X hr hlk hEx hN htb
  have hE := hEx.1
  refine kw_aload_n X dc_L_nim_0 rfl rfl ?_
  refine kw_iconst (v := (nI 0)) X dc_L_nim_1 (by decide) ?_
  refine kw_aload_n X dc_L_nim_2 rfl rfl ?_
  refine kx_catchV X hEx hN 0 hf0 rfl (ct_CnimF hl0 ad n lo hi cs T w0 h ) (cw_V 0 X wd_544 wd_545 wd_546 wd_1 wd_547 rfl rfl (by decide +kernel) ⟨Nat.le_of_ble_eq_true rfl, Nat.le_of_ble_eq_true rfl⟩) (List.range' 0 16) (kb_get0 (x := w0) (post := [(o, .inl (kL, 1, .inr (.inl f)))]) h16) (by decide) (fun _ h => Nat.le_of_eq (csP_16 h).symm) rfl rfl (Nat.le_of_ble_eq_true rfl) dc_L_nim_3 ⟨Nat.le_of_ble_eq_true rfl, Nat.le_of_ble_eq_true rfl⟩ [] ⟨0, 8, 11, 15⟩ [] htb (kx_pa0) rfl (by decide) wd_255 (List.mem_of_getElem? (i := 1) rfl) (fun w q9 hp => ?_)
  have h17 := csP_16 hp
  refine kw_cv (ws' := w ++ [(o, .inl (kL, 1, .inr (.inl f)))]) (kb_put0 (x := w0) (post := [(o, .inl (kL, 1, .inr (.inl f)))]) h16 h17) rfl rfl ?_
  refine kw_astore_n X dc_L_nim_11 rfl (by decide) ?_
  refine kw_iconst (v := (nI 1)) X dc_L_nim_12 (by decide) ?_
  exact kw_iret X hr hlk dc_L_nim_13 ⟨rfl, w, rfl, hp⟩
set_option maxRecDepth 100000 in
set_option maxHeartbeats 1000000 in
theorem ct_LmadT {l : Launch} {D : va_G} {kI kB kC kL : ClassId} (ad : Nat → Nat) (n : Nat) (lo hi : Nat → Nat) (cs T : List Nat) (w0 : va_W) (h : csP kI kB kC ad n lo hi true cs T w0) (o : Nat) (f : Nat → Int64)  : kw_I l mn_L_mad (gh mn_L_mad cd_L_mad 3 (some .int) [(0, 8, 11, 15)]) ({ frames := 6, cells := 1, slots := 6, locals := 137 } : Room) D cl_v (kt kI kB kC kL) kEx [.ref (ad 0), .ref o] (w0 ++ [(o, .inl (kL, 1, .inr (.inl f)))]) (fun r w => r = nI 0 ∧ ∃ (w1 : va_W) (f2 : Nat → Int64), w = w1 ++ [(o, .inl (kL, 1, .inr (.inl f2)))] ∧ csP kI kB kC ad n lo hi true cs T w1 ∧ f2 0 = (nI (gm_mad lo hi n (gm_run lo hi n cs).1)).toInt64) 1 6 := by
  obtain ⟨fs, hf0⟩ := csP_0 h
  have h16 := csP_16 h
  refine kx_ofI (cc := cd_L_mad) (maxL := 3) (ty := .int) (hh := [(0, 8, 11, 15)]) (by decide) rfl (Nat.le_of_ble_eq_true rfl) rfl ?_
  intro pp ee s m args below meth c A X hr hlk hEx hN htb
  have hE := hEx.1
  refine kw_widen (k9 := 1) (n9 := 6) (Nat.zero_le _) (Nat.zero_le _) ?_
  refine kw_aload_n X dc_L_mad_0 rfl rfl ?_
  refine kw_iconst (v := (nI 0)) X dc_L_mad_1 (by decide) ?_
  refine kw_aload_n X dc_L_mad_2 rfl rfl ?_
  refine kw_callVI X kEw hE 0 hf0 rfl (ct_CmadT ad n lo hi cs T w0 h ) (cw_V 0 X wd_554 wd_555 wd_556 wd_1 wd_557 rfl rfl (by decide +kernel) ⟨Nat.le_of_ble_eq_true rfl, Nat.le_of_ble_eq_true rfl⟩) (List.range' 0 16) (kb_get0 (x := w0) (post := [(o, .inl (kL, 1, .inr (.inl f)))]) h16) (by decide) (fun _ _ h => Nat.le_of_eq (csP_16 h.2).symm) rfl rfl (Nat.le_of_ble_eq_true rfl) dc_L_mad_3 ⟨Nat.le_of_ble_eq_true rfl, Nat.le_of_ble_eq_true rfl⟩ (fun r w hp => ?_)
  obtain ⟨rfl, hq⟩ := hp
  have h17 := csP_16 hq
  refine kw_cv (ws' := w ++ [(o, .inl (kL, 1, .inr (.inl f)))]) (kb_put0 (x := w0) (post := [(o, .inl (kL, 1, .inr (.inl f)))]) h16 h17) rfl rfl ?_
  refine kw_i2l X dc_L_mad_6 rfl ?_
  refine kw_last X 16 3 (kb_at h17) rfl (kq_in (k := 0) (by decide) (by decide)) dc_L_mad_7 ?_
  refine kw_cv (ws' := w ++ [(o, .inl (kL, 1, .inr (.inl (vp_updL f (nI 0).toNatClampNeg (nI (gm_mad lo hi n (gm_run lo hi n cs).1)).toInt64))))]) (kb_set h17) rfl rfl ?_
  refine kw_goto (tgt := 14) X dc_L_mad_8 (by decide) ?_
  refine kw_iconst (v := (nI 0)) X dc_L_mad_14 (by decide) ?_
  exact kw_iret X hr hlk dc_L_mad_15 ⟨rfl, w, _, rfl, hq, vp_updL_0⟩
set_option maxRecDepth 100000 in
set_option maxHeartbeats 1000000 in
theorem ct_LmadF {l : Launch} {D : va_G} {kI kB kC kL : ClassId} (hl0 : l.stackTraces = false) (ad : Nat → Nat) (n : Nat) (lo hi : Nat → Nat) (cs T : List Nat) (w0 : va_W) (h : csP kI kB kC ad n lo hi false cs T w0) (o : Nat) (f : Nat → Int64)  : kw_I l mn_L_mad (gh mn_L_mad cd_L_mad 3 (some .int) [(0, 8, 11, 15)]) ({ frames := 8, cells := 1, slots := 6, locals := 121 } : Room) D cl_v (kt kI kB kC kL) kEx [.ref (ad 0), .ref o] (w0 ++ [(o, .inl (kL, 1, .inr (.inl f)))]) (fun r w => r = nI 1 ∧ ∃ w1 : va_W, w = w1 ++ [(o, .inl (kL, 1, .inr (.inl f)))] ∧ csP kI kB kC ad n lo hi false cs T w1) 1 6 := by
  obtain ⟨fs, hf0⟩ := csP_0 h
  have h16 := csP_16 h
  refine kx_ofI (cc := cd_L_mad) (maxL := 3) (ty := .int) (hh := [(0, 8, 11, 15)]) (by decide) rfl (Nat.le_of_ble_eq_true rfl) rfl ?_
  intro pp ee s m args below meth c A X hr hlk hEx hN htb
  have hE := hEx.1
  refine kw_aload_n X dc_L_mad_0 rfl rfl ?_
  refine kw_iconst (v := (nI 0)) X dc_L_mad_1 (by decide) ?_
  refine kw_aload_n X dc_L_mad_2 rfl rfl ?_
  refine kx_catchV X hEx hN 0 hf0 rfl (ct_CmadF hl0 ad n lo hi cs T w0 h ) (cw_V 0 X wd_554 wd_555 wd_556 wd_1 wd_557 rfl rfl (by decide +kernel) ⟨Nat.le_of_ble_eq_true rfl, Nat.le_of_ble_eq_true rfl⟩) (List.range' 0 16) (kb_get0 (x := w0) (post := [(o, .inl (kL, 1, .inr (.inl f)))]) h16) (by decide) (fun _ h => Nat.le_of_eq (csP_16 h).symm) rfl rfl (Nat.le_of_ble_eq_true rfl) dc_L_mad_3 ⟨Nat.le_of_ble_eq_true rfl, Nat.le_of_ble_eq_true rfl⟩ [] ⟨0, 8, 11, 15⟩ [] htb (kx_pa0) rfl (by decide) wd_255 (List.mem_of_getElem? (i := 1) rfl) (fun w q9 hp => ?_)
  have h17 := csP_16 hp
  refine kw_cv (ws' := w ++ [(o, .inl (kL, 1, .inr (.inl f)))]) (kb_put0 (x := w0) (post := [(o, .inl (kL, 1, .inr (.inl f)))]) h16 h17) rfl rfl ?_
  refine kw_astore_n X dc_L_mad_11 rfl (by decide) ?_
  refine kw_iconst (v := (nI 1)) X dc_L_mad_12 (by decide) ?_
  exact kw_iret X hr hlk dc_L_mad_13 ⟨rfl, w, rfl, hp⟩
set_option maxRecDepth 100000 in
set_option maxHeartbeats 1000000 in
theorem ct_LplayT {l : Launch} {D : va_G} {kI kB kC kL : ClassId} (ad : Nat → Nat) (n : Nat) (lo hi : Nat → Nat) (cs T : List Nat) (w0 : va_W) (h : csP kI kB kC ad n lo hi true cs T w0) (o : Nat) (f : Nat → Int64)  : kw_I l mn_L_play (gh mn_L_play cd_L_play 3 (some .int) [(0, 8, 11, 15)]) ({ frames := 7, cells := 1, slots := 6, locals := 159 } : Room) D cl_v (kt kI kB kC kL) kEx [.ref (ad 0), .ref o] (w0 ++ [(o, .inl (kL, 1, .inr (.inl f)))]) (fun r w => r = nI 0 ∧ ∃ (w1 : va_W) (f2 : Nat → Int64), w = w1 ++ [(o, .inl (kL, 1, .inr (.inl f2)))] ∧ csP kI kB kC ad n lo hi true (gm_play lo hi n (gm_run lo hi n cs).2.1 12 cs) T w1 ∧ f2 0 = (nI ((gm_play lo hi n (gm_run lo hi n cs).2.1 12 cs).length - cs.length)).toInt64) 1 6 := by
  obtain ⟨fs, hf0⟩ := csP_0 h
  have h16 := csP_16 h
  refine kx_ofI (cc := cd_L_play) (maxL := 3) (ty := .int) (hh := [(0, 8, 11, 15)]) (by decide) rfl (Nat.le_of_ble_eq_true rfl) rfl ?_
  intro pp ee s m args below meth c A X hr hlk hEx hN htb
  have hE := hEx.1
  refine kw_widen (k9 := 1) (n9 := 6) (Nat.zero_le _) (Nat.zero_le _) ?_
  refine kw_aload_n X dc_L_play_0 rfl rfl ?_
  refine kw_iconst (v := (nI 0)) X dc_L_play_1 (by decide) ?_
  refine kw_aload_n X dc_L_play_2 rfl rfl ?_
  refine kw_callVI X kEw hE 0 hf0 rfl (ct_CplayT ad n lo hi cs T w0 h ) (cw_V 0 X wd_453 wd_454 wd_455 wd_1 wd_456 rfl rfl (by decide +kernel) ⟨Nat.le_of_ble_eq_true rfl, Nat.le_of_ble_eq_true rfl⟩) (List.range' 0 16) (kb_get0 (x := w0) (post := [(o, .inl (kL, 1, .inr (.inl f)))]) h16) (by decide) (fun _ _ h => Nat.le_of_eq (csP_16 h.2).symm) rfl rfl (Nat.le_of_ble_eq_true rfl) dc_L_play_3 ⟨Nat.le_of_ble_eq_true rfl, Nat.le_of_ble_eq_true rfl⟩ (fun r w hp => ?_)
  obtain ⟨rfl, hq⟩ := hp
  have h17 := csP_16 hq
  refine kw_cv (ws' := w ++ [(o, .inl (kL, 1, .inr (.inl f)))]) (kb_put0 (x := w0) (post := [(o, .inl (kL, 1, .inr (.inl f)))]) h16 h17) rfl rfl ?_
  refine kw_i2l X dc_L_play_6 rfl ?_
  refine kw_last X 16 3 (kb_at h17) rfl (kq_in (k := 0) (by decide) (by decide)) dc_L_play_7 ?_
  refine kw_cv (ws' := w ++ [(o, .inl (kL, 1, .inr (.inl (vp_updL f (nI 0).toNatClampNeg (nI ((gm_play lo hi n (gm_run lo hi n cs).2.1 12 cs).length - cs.length)).toInt64))))]) (kb_set h17) rfl rfl ?_
  refine kw_goto (tgt := 14) X dc_L_play_8 (by decide) ?_
  refine kw_iconst (v := (nI 0)) X dc_L_play_14 (by decide) ?_
  exact kw_iret X hr hlk dc_L_play_15 ⟨rfl, w, _, rfl, hq, vp_updL_0⟩
set_option maxRecDepth 100000 in
set_option maxHeartbeats 1000000 in
theorem ct_LplayF {l : Launch} {D : va_G} {kI kB kC kL : ClassId} (hl0 : l.stackTraces = false) (ad : Nat → Nat) (n : Nat) (lo hi : Nat → Nat) (cs T : List Nat) (w0 : va_W) (h : csP kI kB kC ad n lo hi false cs T w0) (o : Nat) (f : Nat → Int64)  : kw_I l mn_L_play (gh mn_L_play cd_L_play 3 (some .int) [(0, 8, 11, 15)]) ({ frames := 8, cells := 1, slots := 6, locals := 123 } : Room) D cl_v (kt kI kB kC kL) kEx [.ref (ad 0), .ref o] (w0 ++ [(o, .inl (kL, 1, .inr (.inl f)))]) (fun r w => r = nI 1 ∧ ∃ w1 : va_W, w = w1 ++ [(o, .inl (kL, 1, .inr (.inl f)))] ∧ csP kI kB kC ad n lo hi false cs T w1) 1 6 := by
  obtain ⟨fs, hf0⟩ := csP_0 h
  have h16 := csP_16 h
  refine kx_ofI (cc := cd_L_play) (maxL := 3) (ty := .int) (hh := [(0, 8, 11, 15)]) (by decide) rfl (Nat.le_of_ble_eq_true rfl) rfl ?_
  intro pp ee s m args below meth c A X hr hlk hEx hN htb
  have hE := hEx.1
  refine kw_aload_n X dc_L_play_0 rfl rfl ?_
  refine kw_iconst (v := (nI 0)) X dc_L_play_1 (by decide) ?_
  refine kw_aload_n X dc_L_play_2 rfl rfl ?_
  refine kx_catchV X hEx hN 0 hf0 rfl (ct_CplayF hl0 ad n lo hi cs T w0 h ) (cw_V 0 X wd_453 wd_454 wd_455 wd_1 wd_456 rfl rfl (by decide +kernel) ⟨Nat.le_of_ble_eq_true rfl, Nat.le_of_ble_eq_true rfl⟩) (List.range' 0 16) (kb_get0 (x := w0) (post := [(o, .inl (kL, 1, .inr (.inl f)))]) h16) (by decide) (fun _ h => Nat.le_of_eq (csP_16 h).symm) rfl rfl (Nat.le_of_ble_eq_true rfl) dc_L_play_3 ⟨Nat.le_of_ble_eq_true rfl, Nat.le_of_ble_eq_true rfl⟩ [] ⟨0, 8, 11, 15⟩ [] htb (kx_pa0) rfl (by decide) wd_255 (List.mem_of_getElem? (i := 1) rfl) (fun w q9 hp => ?_)
  have h17 := csP_16 hp
  refine kw_cv (ws' := w ++ [(o, .inl (kL, 1, .inr (.inl f)))]) (kb_put0 (x := w0) (post := [(o, .inl (kL, 1, .inr (.inl f)))]) h16 h17) rfl rfl ?_
  refine kw_astore_n X dc_L_play_11 rfl (by decide) ?_
  refine kw_iconst (v := (nI 1)) X dc_L_play_12 (by decide) ?_
  exact kw_iret X hr hlk dc_L_play_13 ⟨rfl, w, rfl, hp⟩
set_option maxRecDepth 100000 in
set_option maxHeartbeats 1000000 in
theorem ct_LundoT {l : Launch} {D : va_G} {kI kB kC kL : ClassId} (ad : Nat → Nat) (n : Nat) (lo hi : Nat → Nat) (bg : Bool) (cs T : List Nat) (w0 : va_W) (i : Nat) (h : csP kI kB kC ad n lo hi bg (i :: cs) T w0)(o : Nat) (f : Nat → Int64)  : kw_I l mn_L_undo (gh mn_L_undo cd_L_undo 3 (some .int) [(0, 8, 11, 29)]) ({ frames := 3, cells := 1, slots := 6, locals := 67 } : Room) D cl_v (kt kI kB kC kL) kEx [.ref (ad 0), .ref o] (w0 ++ [(o, .inl (kL, 1, .inr (.inl f)))]) (fun r w => r = nI 0 ∧ ∃ (w1 : va_W) (f2 : Nat → Int64), w = w1 ++ [(o, .inl (kL, 1, .inr (.inl f2)))] ∧ csP kI kB kC ad n lo hi bg cs T w1 ∧ f2 0 = (nI i).toInt64) 1 6 := by
  obtain ⟨fs, hf0⟩ := csP_0 h
  have h16 := csP_16 h
  refine kx_ofI (cc := cd_L_undo) (maxL := 3) (ty := .int) (hh := [(0, 8, 11, 29)]) (by decide) rfl (Nat.le_of_ble_eq_true rfl) rfl ?_
  intro pp ee s m args below meth c A X hr hlk hEx hN htb
  have hE := hEx.1
  refine kw_widen (k9 := 1) (n9 := 6) (Nat.zero_le _) (Nat.zero_le _) ?_
  refine kw_aload_n X dc_L_undo_0 rfl rfl ?_
  refine kw_iconst (v := (nI 0)) X dc_L_undo_1 (by decide) ?_
  refine kw_aload_n X dc_L_undo_2 rfl rfl ?_
  refine kw_callVI X kEw hE 0 hf0 rfl (ct_CundoT ad n lo hi bg cs T w0 i h) (cw_V 0 X wd_446 wd_447 wd_448 wd_1 wd_449 rfl rfl (by decide +kernel) ⟨Nat.le_of_ble_eq_true rfl, Nat.le_of_ble_eq_true rfl⟩) (List.range' 0 16) (kb_get0 (x := w0) (post := [(o, .inl (kL, 1, .inr (.inl f)))]) h16) (by decide) (fun _ _ h => Nat.le_of_eq (csP_16 h.2).symm) rfl rfl (Nat.le_of_ble_eq_true rfl) dc_L_undo_3 ⟨Nat.le_of_ble_eq_true rfl, Nat.le_of_ble_eq_true rfl⟩ (fun r w hp => ?_)
  obtain ⟨rfl, hq⟩ := hp
  have h17 := csP_16 hq
  refine kw_cv (ws' := w ++ [(o, .inl (kL, 1, .inr (.inl f)))]) (kb_put0 (x := w0) (post := [(o, .inl (kL, 1, .inr (.inl f)))]) h16 h17) rfl rfl ?_
  refine kw_i2l X dc_L_undo_6 rfl ?_
  refine kw_last X 16 3 (kb_at h17) rfl (kq_in (k := 0) (by decide) (by decide)) dc_L_undo_7 ?_
  refine kw_cv (ws' := w ++ [(o, .inl (kL, 1, .inr (.inl (vp_updL f (nI 0).toNatClampNeg (nI i).toInt64))))]) (kb_set h17) rfl rfl ?_
  refine kw_goto (tgt := 14) X dc_L_undo_8 (by decide) ?_
  refine kw_iconst (v := (nI 0)) X dc_L_undo_14 (by decide) ?_
  exact kw_iret X hr hlk dc_L_undo_15 ⟨rfl, w, _, rfl, hq, vp_updL_0⟩
set_option maxRecDepth 100000 in
set_option maxHeartbeats 1000000 in
theorem ct_LundoF {l : Launch} {D : va_G} {kI kB kC kL : ClassId} (hl0 : l.stackTraces = false) (ad : Nat → Nat) (n : Nat) (lo hi : Nat → Nat) (bg : Bool) (T : List Nat) (w0 : va_W) (h : csP kI kB kC ad n lo hi bg [] T w0) (o : Nat) (f : Nat → Int64)  : kw_I l mn_L_undo (gh mn_L_undo cd_L_undo 3 (some .int) [(0, 8, 11, 29)]) ({ frames := 7, cells := 1, slots := 6, locals := 102 } : Room) D cl_v (kt kI kB kC kL) kEx [.ref (ad 0), .ref o] (w0 ++ [(o, .inl (kL, 1, .inr (.inl f)))]) (fun r w => r = nI 1 ∧ ∃ w1 : va_W, w = w1 ++ [(o, .inl (kL, 1, .inr (.inl f)))] ∧ csP kI kB kC ad n lo hi bg [] T w1) 1 6 := by
  obtain ⟨fs, hf0⟩ := csP_0 h
  have h16 := csP_16 h
  refine kx_ofI (cc := cd_L_undo) (maxL := 3) (ty := .int) (hh := [(0, 8, 11, 29)]) (by decide) rfl (Nat.le_of_ble_eq_true rfl) rfl ?_
  intro pp ee s m args below meth c A X hr hlk hEx hN htb
  have hE := hEx.1
  refine kw_aload_n X dc_L_undo_0 rfl rfl ?_
  refine kw_iconst (v := (nI 0)) X dc_L_undo_1 (by decide) ?_
  refine kw_aload_n X dc_L_undo_2 rfl rfl ?_
  refine kx_catchV X hEx hN 0 hf0 rfl (ct_CundoF hl0 ad n lo hi bg T w0 h ) (cw_V 0 X wd_446 wd_447 wd_448 wd_1 wd_449 rfl rfl (by decide +kernel) ⟨Nat.le_of_ble_eq_true rfl, Nat.le_of_ble_eq_true rfl⟩) (List.range' 0 16) (kb_get0 (x := w0) (post := [(o, .inl (kL, 1, .inr (.inl f)))]) h16) (by decide) (fun _ h => Nat.le_of_eq (csP_16 h).symm) rfl rfl (Nat.le_of_ble_eq_true rfl) dc_L_undo_3 ⟨Nat.le_of_ble_eq_true rfl, Nat.le_of_ble_eq_true rfl⟩ [] ⟨0, 8, 11, 29⟩ [] htb (kx_pa0) rfl (by decide) wd_388 (List.mem_of_getElem? (i := 3) rfl) (fun w q9 hp => ?_)
  have h17 := csP_16 hp
  refine kw_cv (ws' := w ++ [(o, .inl (kL, 1, .inr (.inl f)))]) (kb_put0 (x := w0) (post := [(o, .inl (kL, 1, .inr (.inl f)))]) h16 h17) rfl rfl ?_
  refine kw_astore_n X dc_L_undo_11 rfl (by decide) ?_
  refine kw_iconst (v := (nI 1)) X dc_L_undo_12 (by decide) ?_
  exact kw_iret X hr hlk dc_L_undo_13 ⟨rfl, w, rfl, hp⟩
set_option maxRecDepth 100000 in
set_option maxHeartbeats 1000000 in
theorem ct_LtakenT {l : Launch} {D : va_G} {kI kB kC kL : ClassId} (ad : Nat → Nat) (n : Nat) (lo hi : Nat → Nat) (bg : Bool) (cs T : List Nat) (w0 : va_W) (h : csP kI kB kC ad n lo hi bg cs T w0) (o : Nat) (f : Nat → Int64) (j : Nat) (hj : j < 2) : kw_I l mn_L_taken (gh mn_L_taken cd_L_taken 4 (some .int) [(0, 9, 12, 27)]) ({ frames := 1, cells := 1, slots := 6, locals := 21 } : Room) D cl_v (kt kI kB kC kL) kEx [.ref (ad 0), .int (nI j), .ref o] (w0 ++ [(o, .inl (kL, 1, .inr (.inl f)))]) (fun r w => r = nI 0 ∧ ∃ (w1 : va_W) (f2 : Nat → Int64), w = w1 ++ [(o, .inl (kL, 1, .inr (.inl f2)))] ∧ csP kI kB kC ad n lo hi bg cs T w1 ∧ f2 0 = (nI (if j = 0 then (gm_run lo hi n cs).2.2.1 else (gm_run lo hi n cs).2.2.2)).toInt64) 1 6 := by
  obtain ⟨fs, hf0⟩ := csP_0 h
  have h16 := csP_16 h
  refine kx_ofI (cc := cd_L_taken) (maxL := 4) (ty := .int) (hh := [(0, 9, 12, 27)]) (by decide) rfl (Nat.le_of_ble_eq_true rfl) rfl ?_
  intro pp ee s m args below meth c A X hr hlk hEx hN htb
  have hE := hEx.1
  refine kw_widen (k9 := 1) (n9 := 6) (Nat.zero_le _) (Nat.zero_le _) ?_
  refine kw_aload_n X dc_L_taken_0 rfl rfl ?_
  refine kw_iconst (v := (nI 0)) X dc_L_taken_1 (by decide) ?_
  refine kw_aload_n X dc_L_taken_2 rfl rfl ?_
  refine kw_iload_n X dc_L_taken_3 rfl rfl ?_
  refine kw_callVI X kEw hE 0 hf0 rfl (ct_CtakenT ad n lo hi bg cs T w0 h j hj) (cw_V 1 X wd_509 wd_510 wd_511 wd_1 wd_512 rfl rfl (by decide +kernel) ⟨Nat.le_of_ble_eq_true rfl, Nat.le_of_ble_eq_true rfl⟩) (List.range' 0 16) (kb_get0 (x := w0) (post := [(o, .inl (kL, 1, .inr (.inl f)))]) h16) (by decide) (fun _ _ h => Nat.le_of_eq (csP_16 h.2).symm) rfl rfl (Nat.le_of_ble_eq_true rfl) dc_L_taken_4 ⟨Nat.le_of_ble_eq_true rfl, Nat.le_of_ble_eq_true rfl⟩ (fun r w hp => ?_)
  obtain ⟨rfl, hq⟩ := hp
  have h17 := csP_16 hq
  refine kw_cv (ws' := w ++ [(o, .inl (kL, 1, .inr (.inl f)))]) (kb_put0 (x := w0) (post := [(o, .inl (kL, 1, .inr (.inl f)))]) h16 h17) rfl rfl ?_
  refine kw_i2l X dc_L_taken_7 rfl ?_
  refine kw_last X 16 3 (kb_at h17) rfl (kq_in (k := 0) (by decide) (by decide)) dc_L_taken_8 ?_
  refine kw_cv (ws' := w ++ [(o, .inl (kL, 1, .inr (.inl (vp_updL f (nI 0).toNatClampNeg (nI (if j = 0 then (gm_run lo hi n cs).2.2.1 else (gm_run lo hi n cs).2.2.2)).toInt64))))]) (kb_set h17) rfl rfl ?_
  refine kw_goto (tgt := 15) X dc_L_taken_9 (by decide) ?_
  refine kw_iconst (v := (nI 0)) X dc_L_taken_15 (by decide) ?_
  exact kw_iret X hr hlk dc_L_taken_16 ⟨rfl, w, _, rfl, hq, vp_updL_0⟩
set_option maxRecDepth 100000 in
set_option maxHeartbeats 1000000 in
theorem ct_LtakenF {l : Launch} {D : va_G} {kI kB kC kL : ClassId} (hl0 : l.stackTraces = false) (ad : Nat → Nat) (n : Nat) (lo hi : Nat → Nat) (bg : Bool) (cs T : List Nat) (w0 : va_W) (h : csP kI kB kC ad n lo hi bg cs T w0) (o : Nat) (f : Nat → Int64) (j : Int32) (hj0 : ¬ j = nI 0) (hj1 : ¬ j = nI 1) : kw_I l mn_L_taken (gh mn_L_taken cd_L_taken 4 (some .int) [(0, 9, 12, 27)]) ({ frames := 7, cells := 1, slots := 6, locals := 102 } : Room) D cl_v (kt kI kB kC kL) kEx [.ref (ad 0), .int j, .ref o] (w0 ++ [(o, .inl (kL, 1, .inr (.inl f)))]) (fun r w => r = nI 1 ∧ ∃ w1 : va_W, w = w1 ++ [(o, .inl (kL, 1, .inr (.inl f)))] ∧ csP kI kB kC ad n lo hi bg cs T w1) 1 6 := by
  obtain ⟨fs, hf0⟩ := csP_0 h
  have h16 := csP_16 h
  refine kx_ofI (cc := cd_L_taken) (maxL := 4) (ty := .int) (hh := [(0, 9, 12, 27)]) (by decide) rfl (Nat.le_of_ble_eq_true rfl) rfl ?_
  intro pp ee s m args below meth c A X hr hlk hEx hN htb
  have hE := hEx.1
  refine kw_aload_n X dc_L_taken_0 rfl rfl ?_
  refine kw_iconst (v := (nI 0)) X dc_L_taken_1 (by decide) ?_
  refine kw_aload_n X dc_L_taken_2 rfl rfl ?_
  refine kw_iload_n X dc_L_taken_3 rfl rfl ?_
  refine kx_catchV X hEx hN 0 hf0 rfl (ct_CtakenF hl0 ad n lo hi bg cs T w0 h j hj0 hj1) (cw_V 1 X wd_509 wd_510 wd_511 wd_1 wd_512 rfl rfl (by decide +kernel) ⟨Nat.le_of_ble_eq_true rfl, Nat.le_of_ble_eq_true rfl⟩) (List.range' 0 16) (kb_get0 (x := w0) (post := [(o, .inl (kL, 1, .inr (.inl f)))]) h16) (by decide) (fun _ h => Nat.le_of_eq (csP_16 h).symm) rfl rfl (Nat.le_of_ble_eq_true rfl) dc_L_taken_4 ⟨Nat.le_of_ble_eq_true rfl, Nat.le_of_ble_eq_true rfl⟩ [] ⟨0, 9, 12, 27⟩ [] htb (kx_pa0) rfl (by decide) wd_387 (List.mem_of_getElem? (i := 2) rfl) (fun w q9 hp => ?_)
  have h17 := csP_16 hp
  refine kw_cv (ws' := w ++ [(o, .inl (kL, 1, .inr (.inl f)))]) (kb_put0 (x := w0) (post := [(o, .inl (kL, 1, .inr (.inl f)))]) h16 h17) rfl rfl ?_
  refine kw_astore_n X dc_L_taken_12 rfl (by decide) ?_
  refine kw_iconst (v := (nI 1)) X dc_L_taken_13 (by decide) ?_
  exact kw_iret X hr hlk dc_L_taken_14 ⟨rfl, w, rfl, hp⟩
set_option maxRecDepth 100000 in
set_option maxHeartbeats 1000000 in
theorem ct_LstringsT {l : Launch} {D : va_G} {kI kB kC kL : ClassId} (ad : Nat → Nat) (n : Nat) (lo hi : Nat → Nat) (bg : Bool) (cs T : List Nat) (w0 : va_W) (h : csP kI kB kC ad n lo hi bg cs T w0) (o : Nat) (f : Nat → Int64) (c0 : Nat) (hc : c0 < 8) : kw_I l mn_L_strings (gh mn_L_strings cd_L_strings 4 (some .int) [(0, 9, 12, 27)]) ({ frames := 3, cells := 1, slots := 6, locals := 63 } : Room) D cl_v (kt kI kB kC kL) kEx [.ref (ad 0), .int (nI c0), .ref o] (w0 ++ [(o, .inl (kL, 1, .inr (.inl f)))]) (fun r w => r = nI 0 ∧ ∃ (w1 : va_W) (f2 : Nat → Int64), w = w1 ++ [(o, .inl (kL, 1, .inr (.inl f2)))] ∧ csP kI kB kC ad n lo hi bg cs T w1 ∧ f2 0 = (nI (gm_pc ((gm_run lo hi n cs).1 &&& gm_mk lo hi n c0))).toInt64) 1 6 := by
  obtain ⟨fs, hf0⟩ := csP_0 h
  have h16 := csP_16 h
  refine kx_ofI (cc := cd_L_strings) (maxL := 4) (ty := .int) (hh := [(0, 9, 12, 27)]) (by decide) rfl (Nat.le_of_ble_eq_true rfl) rfl ?_
  intro pp ee s m args below meth c A X hr hlk hEx hN htb
  have hE := hEx.1
  refine kw_widen (k9 := 1) (n9 := 6) (Nat.zero_le _) (Nat.zero_le _) ?_
  refine kw_aload_n X dc_L_strings_0 rfl rfl ?_
  refine kw_iconst (v := (nI 0)) X dc_L_strings_1 (by decide) ?_
  refine kw_aload_n X dc_L_strings_2 rfl rfl ?_
  refine kw_iload_n X dc_L_strings_3 rfl rfl ?_
  refine kw_callVI X kEw hE 0 hf0 rfl (ct_CstringsT ad n lo hi bg cs T w0 h c0 hc) (cw_V 1 X wd_516 wd_517 wd_518 wd_1 wd_519 rfl rfl (by decide +kernel) ⟨Nat.le_of_ble_eq_true rfl, Nat.le_of_ble_eq_true rfl⟩) (List.range' 0 16) (kb_get0 (x := w0) (post := [(o, .inl (kL, 1, .inr (.inl f)))]) h16) (by decide) (fun _ _ h => Nat.le_of_eq (csP_16 h.2).symm) rfl rfl (Nat.le_of_ble_eq_true rfl) dc_L_strings_4 ⟨Nat.le_of_ble_eq_true rfl, Nat.le_of_ble_eq_true rfl⟩ (fun r w hp => ?_)
  obtain ⟨rfl, hq⟩ := hp
  have h17 := csP_16 hq
  refine kw_cv (ws' := w ++ [(o, .inl (kL, 1, .inr (.inl f)))]) (kb_put0 (x := w0) (post := [(o, .inl (kL, 1, .inr (.inl f)))]) h16 h17) rfl rfl ?_
  refine kw_i2l X dc_L_strings_7 rfl ?_
  refine kw_last X 16 3 (kb_at h17) rfl (kq_in (k := 0) (by decide) (by decide)) dc_L_strings_8 ?_
  refine kw_cv (ws' := w ++ [(o, .inl (kL, 1, .inr (.inl (vp_updL f (nI 0).toNatClampNeg (nI (gm_pc ((gm_run lo hi n cs).1 &&& gm_mk lo hi n c0))).toInt64))))]) (kb_set h17) rfl rfl ?_
  refine kw_goto (tgt := 15) X dc_L_strings_9 (by decide) ?_
  refine kw_iconst (v := (nI 0)) X dc_L_strings_15 (by decide) ?_
  exact kw_iret X hr hlk dc_L_strings_16 ⟨rfl, w, _, rfl, hq, vp_updL_0⟩
set_option maxRecDepth 100000 in
set_option maxHeartbeats 1000000 in
theorem ct_LstringsF {l : Launch} {D : va_G} {kI kB kC kL : ClassId} (hl0 : l.stackTraces = false) (ad : Nat → Nat) (n : Nat) (lo hi : Nat → Nat) (bg : Bool) (cs T : List Nat) (w0 : va_W) (h : csP kI kB kC ad n lo hi bg cs T w0) (o : Nat) (f : Nat → Int64) (a : Int32) (ha : ¬ (0 ≤ a ∧ a ≤ nI 7)) : kw_I l mn_L_strings (gh mn_L_strings cd_L_strings 4 (some .int) [(0, 9, 12, 27)]) ({ frames := 7, cells := 1, slots := 6, locals := 102 } : Room) D cl_v (kt kI kB kC kL) kEx [.ref (ad 0), .int a, .ref o] (w0 ++ [(o, .inl (kL, 1, .inr (.inl f)))]) (fun r w => r = nI 1 ∧ ∃ w1 : va_W, w = w1 ++ [(o, .inl (kL, 1, .inr (.inl f)))] ∧ csP kI kB kC ad n lo hi bg cs T w1) 1 6 := by
  obtain ⟨fs, hf0⟩ := csP_0 h
  have h16 := csP_16 h
  refine kx_ofI (cc := cd_L_strings) (maxL := 4) (ty := .int) (hh := [(0, 9, 12, 27)]) (by decide) rfl (Nat.le_of_ble_eq_true rfl) rfl ?_
  intro pp ee s m args below meth c A X hr hlk hEx hN htb
  have hE := hEx.1
  refine kw_aload_n X dc_L_strings_0 rfl rfl ?_
  refine kw_iconst (v := (nI 0)) X dc_L_strings_1 (by decide) ?_
  refine kw_aload_n X dc_L_strings_2 rfl rfl ?_
  refine kw_iload_n X dc_L_strings_3 rfl rfl ?_
  refine kx_catchV X hEx hN 0 hf0 rfl (ct_CstringsF hl0 ad n lo hi bg cs T w0 h a ha) (cw_V 1 X wd_516 wd_517 wd_518 wd_1 wd_519 rfl rfl (by decide +kernel) ⟨Nat.le_of_ble_eq_true rfl, Nat.le_of_ble_eq_true rfl⟩) (List.range' 0 16) (kb_get0 (x := w0) (post := [(o, .inl (kL, 1, .inr (.inl f)))]) h16) (by decide) (fun _ h => Nat.le_of_eq (csP_16 h).symm) rfl rfl (Nat.le_of_ble_eq_true rfl) dc_L_strings_4 ⟨Nat.le_of_ble_eq_true rfl, Nat.le_of_ble_eq_true rfl⟩ [] ⟨0, 9, 12, 27⟩ [] htb (kx_pa0) rfl (by decide) wd_387 (List.mem_of_getElem? (i := 2) rfl) (fun w q9 hp => ?_)
  have h17 := csP_16 hp
  refine kw_cv (ws' := w ++ [(o, .inl (kL, 1, .inr (.inl f)))]) (kb_put0 (x := w0) (post := [(o, .inl (kL, 1, .inr (.inl f)))]) h16 h17) rfl rfl ?_
  refine kw_astore_n X dc_L_strings_12 rfl (by decide) ?_
  refine kw_iconst (v := (nI 1)) X dc_L_strings_13 (by decide) ?_
  exact kw_iret X hr hlk dc_L_strings_14 ⟨rfl, w, rfl, hp⟩
set_option maxRecDepth 100000 in
set_option maxHeartbeats 1000000 in
theorem ct_LgroupT {l : Launch} {D : va_G} {kI kB kC kL : ClassId} (ad : Nat → Nat) (n : Nat) (lo hi : Nat → Nat) (bg : Bool) (cs T : List Nat) (w0 : va_W) (h : csP kI kB kC ad n lo hi bg cs T w0) (o : Nat) (f : Nat → Int64) (g : Nat) (hg : g < gm_rk (gm_L lo hi n (gm_run lo hi n cs).1 n) 8) : kw_I l mn_L_group (gh mn_L_group cd_L_group 4 (some .int) [(0, 9, 12, 27)]) ({ frames := 4, cells := 1, slots := 6, locals := 89 } : Room) D cl_v (kt kI kB kC kL) kEx [.ref (ad 0), .int (nI g), .ref o] (w0 ++ [(o, .inl (kL, 1, .inr (.inl f)))]) (fun r w => ∃ v : Nat, v < 8 ∧ (gm_L lo hi n (gm_run lo hi n cs).1 n) v = v ∧ gm_rk (gm_L lo hi n (gm_run lo hi n cs).1 n) v = g ∧ r = nI 0 ∧ ∃ (w1 : va_W) (f2 : Nat → Int64), w = w1 ++ [(o, .inl (kL, 1, .inr (.inl f2)))] ∧ csP kI kB kC ad n lo hi bg cs T w1 ∧ f2 0 = (nI (gm_cnt (gm_L lo hi n (gm_run lo hi n cs).1 n) v 8 + (if gm_lp lo hi (gm_run lo hi n cs).1 (gm_L lo hi n (gm_run lo hi n cs).1 n) v n = true then 100 else 0))).toInt64) 1 6 := by
  obtain ⟨fs, hf0⟩ := csP_0 h
  have h16 := csP_16 h
  refine kx_ofI (cc := cd_L_group) (maxL := 4) (ty := .int) (hh := [(0, 9, 12, 27)]) (by decide) rfl (Nat.le_of_ble_eq_true rfl) rfl ?_
  intro pp ee s m args below meth c A X hr hlk hEx hN htb
  have hE := hEx.1
  refine kw_widen (k9 := 1) (n9 := 6) (Nat.zero_le _) (Nat.zero_le _) ?_
  refine kw_aload_n X dc_L_group_0 rfl rfl ?_
  refine kw_iconst (v := (nI 0)) X dc_L_group_1 (by decide) ?_
  refine kw_aload_n X dc_L_group_2 rfl rfl ?_
  refine kw_iload_n X dc_L_group_3 rfl rfl ?_
  refine kw_callVI X kEw hE 0 hf0 rfl (ct_CgroupT ad n lo hi bg cs T w0 h g hg) (cw_V 1 X wd_564 wd_565 wd_566 wd_1 wd_567 rfl rfl (by decide +kernel) ⟨Nat.le_of_ble_eq_true rfl, Nat.le_of_ble_eq_true rfl⟩) (List.range' 0 16) (kb_get0 (x := w0) (post := [(o, .inl (kL, 1, .inr (.inl f)))]) h16) (by decide) (fun _ _ h => by obtain ⟨v, _, _, _, _, h2⟩ := h; exact Nat.le_of_eq (csP_16 h2).symm) rfl rfl (Nat.le_of_ble_eq_true rfl) dc_L_group_4 ⟨Nat.le_of_ble_eq_true rfl, Nat.le_of_ble_eq_true rfl⟩ (fun r w hp => ?_)
  obtain ⟨v, hv, hvv, hvg, rfl, hq⟩ := hp
  have h17 := csP_16 hq
  refine kw_cv (ws' := w ++ [(o, .inl (kL, 1, .inr (.inl f)))]) (kb_put0 (x := w0) (post := [(o, .inl (kL, 1, .inr (.inl f)))]) h16 h17) rfl rfl ?_
  refine kw_i2l X dc_L_group_7 rfl ?_
  refine kw_last X 16 3 (kb_at h17) rfl (kq_in (k := 0) (by decide) (by decide)) dc_L_group_8 ?_
  refine kw_cv (ws' := w ++ [(o, .inl (kL, 1, .inr (.inl (vp_updL f (nI 0).toNatClampNeg (nI (gm_cnt (gm_L lo hi n (gm_run lo hi n cs).1 n) v 8 + (if gm_lp lo hi (gm_run lo hi n cs).1 (gm_L lo hi n (gm_run lo hi n cs).1 n) v n = true then 100 else 0))).toInt64))))]) (kb_set h17) rfl rfl ?_
  refine kw_goto (tgt := 15) X dc_L_group_9 (by decide) ?_
  refine kw_iconst (v := (nI 0)) X dc_L_group_15 (by decide) ?_
  exact kw_iret X hr hlk dc_L_group_16 ⟨v, hv, hvv, hvg, rfl, w, _, rfl, hq, vp_updL_0⟩
set_option maxRecDepth 100000 in
set_option maxHeartbeats 1000000 in
theorem ct_LgroupF {l : Launch} {D : va_G} {kI kB kC kL : ClassId} (hl0 : l.stackTraces = false) (ad : Nat → Nat) (n : Nat) (lo hi : Nat → Nat) (bg : Bool) (cs T : List Nat) (w0 : va_W) (h : csP kI kB kC ad n lo hi bg cs T w0) (o : Nat) (f : Nat → Int64) (g : Int32) (hg : ¬ (0 ≤ g ∧ g < nI (gm_rk (gm_L lo hi n (gm_run lo hi n cs).1 n) 8))) : kw_I l mn_L_group (gh mn_L_group cd_L_group 4 (some .int) [(0, 9, 12, 27)]) ({ frames := 7, cells := 1, slots := 6, locals := 104 } : Room) D cl_v (kt kI kB kC kL) kEx [.ref (ad 0), .int g, .ref o] (w0 ++ [(o, .inl (kL, 1, .inr (.inl f)))]) (fun r w => r = nI 1 ∧ ∃ w1 : va_W, w = w1 ++ [(o, .inl (kL, 1, .inr (.inl f)))] ∧ csP kI kB kC ad n lo hi bg cs T w1) 1 6 := by
  obtain ⟨fs, hf0⟩ := csP_0 h
  have h16 := csP_16 h
  refine kx_ofI (cc := cd_L_group) (maxL := 4) (ty := .int) (hh := [(0, 9, 12, 27)]) (by decide) rfl (Nat.le_of_ble_eq_true rfl) rfl ?_
  intro pp ee s m args below meth c A X hr hlk hEx hN htb
  have hE := hEx.1
  refine kw_aload_n X dc_L_group_0 rfl rfl ?_
  refine kw_iconst (v := (nI 0)) X dc_L_group_1 (by decide) ?_
  refine kw_aload_n X dc_L_group_2 rfl rfl ?_
  refine kw_iload_n X dc_L_group_3 rfl rfl ?_
  refine kx_catchV X hEx hN 0 hf0 rfl (ct_CgroupF hl0 ad n lo hi bg cs T w0 h g hg) (cw_V 1 X wd_564 wd_565 wd_566 wd_1 wd_567 rfl rfl (by decide +kernel) ⟨Nat.le_of_ble_eq_true rfl, Nat.le_of_ble_eq_true rfl⟩) (List.range' 0 16) (kb_get0 (x := w0) (post := [(o, .inl (kL, 1, .inr (.inl f)))]) h16) (by decide) (fun _ h => Nat.le_of_eq (csP_16 h).symm) rfl rfl (Nat.le_of_ble_eq_true rfl) dc_L_group_4 ⟨Nat.le_of_ble_eq_true rfl, Nat.le_of_ble_eq_true rfl⟩ [] ⟨0, 9, 12, 27⟩ [] htb (kx_pa0) rfl (by decide) wd_387 (List.mem_of_getElem? (i := 2) rfl) (fun w q9 hp => ?_)
  have h17 := csP_16 hp
  refine kw_cv (ws' := w ++ [(o, .inl (kL, 1, .inr (.inl f)))]) (kb_put0 (x := w0) (post := [(o, .inl (kL, 1, .inr (.inl f)))]) h16 h17) rfl rfl ?_
  refine kw_astore_n X dc_L_group_12 rfl (by decide) ?_
  refine kw_iconst (v := (nI 1)) X dc_L_group_13 (by decide) ?_
  exact kw_iret X hr hlk dc_L_group_14 ⟨rfl, w, rfl, hp⟩
set_option maxRecDepth 100000 in
set_option maxHeartbeats 1000000 in
theorem ct_LatT {l : Launch} {D : va_G} {kI kB kC kL : ClassId} (ad : Nat → Nat) (n : Nat) (lo hi : Nat → Nat) (bg : Bool) (cs T : List Nat) (w0 : va_W) (h : csP kI kB kC ad n lo hi bg cs T w0) (o : Nat) (f : Nat → Int64) (i y : Nat) (hi1 : T[i]? = some y) : kw_I l mn_L_at (gh mn_L_at cd_L_at 4 (some .int) [(0, 9, 12, 27)]) ({ frames := 2, cells := 1, slots := 6, locals := 42 } : Room) D cl_v (kt kI kB kC kL) kEx [.ref (ad 0), .int (nI i), .ref o] (w0 ++ [(o, .inl (kL, 1, .inr (.inl f)))]) (fun r w => r = nI 0 ∧ ∃ (w1 : va_W) (f2 : Nat → Int64), w = w1 ++ [(o, .inl (kL, 1, .inr (.inl f2)))] ∧ csP kI kB kC ad n lo hi bg cs T w1 ∧ f2 0 = (nI y).toInt64) 1 6 := by
  obtain ⟨fs, hf0⟩ := csP_0 h
  have h16 := csP_16 h
  refine kx_ofI (cc := cd_L_at) (maxL := 4) (ty := .int) (hh := [(0, 9, 12, 27)]) (by decide) rfl (Nat.le_of_ble_eq_true rfl) rfl ?_
  intro pp ee s m args below meth c A X hr hlk hEx hN htb
  have hE := hEx.1
  refine kw_widen (k9 := 1) (n9 := 6) (Nat.zero_le _) (Nat.zero_le _) ?_
  refine kw_aload_n X dc_L_at_0 rfl rfl ?_
  refine kw_iconst (v := (nI 0)) X dc_L_at_1 (by decide) ?_
  refine kw_aload_n X dc_L_at_2 rfl rfl ?_
  refine kw_iload_n X dc_L_at_3 rfl rfl ?_
  refine kw_callVI X kEw hE 0 hf0 rfl (ct_CatT ad n lo hi bg cs T w0 h i y hi1) (cw_V 1 X wd_583 wd_584 wd_585 wd_1 wd_586 rfl rfl (by decide +kernel) ⟨Nat.le_of_ble_eq_true rfl, Nat.le_of_ble_eq_true rfl⟩) (List.range' 0 16) (kb_get0 (x := w0) (post := [(o, .inl (kL, 1, .inr (.inl f)))]) h16) (by decide) (fun _ _ h => Nat.le_of_eq (csP_16 h.2).symm) rfl rfl (Nat.le_of_ble_eq_true rfl) dc_L_at_4 ⟨Nat.le_of_ble_eq_true rfl, Nat.le_of_ble_eq_true rfl⟩ (fun r w hp => ?_)
  obtain ⟨rfl, hq⟩ := hp
  have h17 := csP_16 hq
  refine kw_cv (ws' := w ++ [(o, .inl (kL, 1, .inr (.inl f)))]) (kb_put0 (x := w0) (post := [(o, .inl (kL, 1, .inr (.inl f)))]) h16 h17) rfl rfl ?_
  refine kw_i2l X dc_L_at_7 rfl ?_
  refine kw_last X 16 3 (kb_at h17) rfl (kq_in (k := 0) (by decide) (by decide)) dc_L_at_8 ?_
  refine kw_cv (ws' := w ++ [(o, .inl (kL, 1, .inr (.inl (vp_updL f (nI 0).toNatClampNeg (nI y).toInt64))))]) (kb_set h17) rfl rfl ?_
  refine kw_goto (tgt := 15) X dc_L_at_9 (by decide) ?_
  refine kw_iconst (v := (nI 0)) X dc_L_at_15 (by decide) ?_
  exact kw_iret X hr hlk dc_L_at_16 ⟨rfl, w, _, rfl, hq, vp_updL_0⟩
set_option maxRecDepth 100000 in
set_option maxHeartbeats 1000000 in
theorem ct_LatF {l : Launch} {D : va_G} {kI kB kC kL : ClassId} (hl0 : l.stackTraces = false) (ad : Nat → Nat) (n : Nat) (lo hi : Nat → Nat) (bg : Bool) (cs T : List Nat) (w0 : va_W) (h : csP kI kB kC ad n lo hi bg cs T w0) (o : Nat) (f : Nat → Int64) (i : Int32) (hi1 : ¬ (0 ≤ i ∧ i < nI T.length)) : kw_I l mn_L_at (gh mn_L_at cd_L_at 4 (some .int) [(0, 9, 12, 27)]) ({ frames := 7, cells := 1, slots := 6, locals := 102 } : Room) D cl_v (kt kI kB kC kL) kEx [.ref (ad 0), .int i, .ref o] (w0 ++ [(o, .inl (kL, 1, .inr (.inl f)))]) (fun r w => r = nI 1 ∧ ∃ w1 : va_W, w = w1 ++ [(o, .inl (kL, 1, .inr (.inl f)))] ∧ csP kI kB kC ad n lo hi bg cs T w1) 1 6 := by
  obtain ⟨fs, hf0⟩ := csP_0 h
  have h16 := csP_16 h
  refine kx_ofI (cc := cd_L_at) (maxL := 4) (ty := .int) (hh := [(0, 9, 12, 27)]) (by decide) rfl (Nat.le_of_ble_eq_true rfl) rfl ?_
  intro pp ee s m args below meth c A X hr hlk hEx hN htb
  have hE := hEx.1
  refine kw_aload_n X dc_L_at_0 rfl rfl ?_
  refine kw_iconst (v := (nI 0)) X dc_L_at_1 (by decide) ?_
  refine kw_aload_n X dc_L_at_2 rfl rfl ?_
  refine kw_iload_n X dc_L_at_3 rfl rfl ?_
  refine kx_catchV X hEx hN 0 hf0 rfl (ct_CatF hl0 ad n lo hi bg cs T w0 h i hi1) (cw_V 1 X wd_583 wd_584 wd_585 wd_1 wd_586 rfl rfl (by decide +kernel) ⟨Nat.le_of_ble_eq_true rfl, Nat.le_of_ble_eq_true rfl⟩) (List.range' 0 16) (kb_get0 (x := w0) (post := [(o, .inl (kL, 1, .inr (.inl f)))]) h16) (by decide) (fun _ h => Nat.le_of_eq (csP_16 h).symm) rfl rfl (Nat.le_of_ble_eq_true rfl) dc_L_at_4 ⟨Nat.le_of_ble_eq_true rfl, Nat.le_of_ble_eq_true rfl⟩ [] ⟨0, 9, 12, 27⟩ [] htb (kx_pa0) rfl (by decide) wd_387 (List.mem_of_getElem? (i := 2) rfl) (fun w q9 hp => ?_)
  have h17 := csP_16 hp
  refine kw_cv (ws' := w ++ [(o, .inl (kL, 1, .inr (.inl f)))]) (kb_put0 (x := w0) (post := [(o, .inl (kL, 1, .inr (.inl f)))]) h16 h17) rfl rfl ?_
  refine kw_astore_n X dc_L_at_12 rfl (by decide) ?_
  refine kw_iconst (v := (nI 1)) X dc_L_at_13 (by decide) ?_
  exact kw_iret X hr hlk dc_L_at_14 ⟨rfl, w, rfl, hp⟩
