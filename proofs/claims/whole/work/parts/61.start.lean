/-! the law's start -/
theorem kx_nc {a b : String} {args : Array Value} {s : State} (h : (Cond.not (.castable a b)).before args s = true) : va_Nw (.not (.castable a b)) s := by
  have hv := Cond.holds_not_iff.mp h
  refine Cond.holds_not_iff.mpr ?_
  simp only [Cond.value] at hv ⊢
  exact hv
theorem st_E {b : Nat} {s : State} (hts : ∀ w ∈ lw_tbl, w.before #[Value.ref b] s = true) : kE s := (show kx_and (fun w => va_Nw w s) bad_w from And.intro (va_Nw.of rfl (hts _ (List.mem_append_right _ (List.mem_of_getElem? (i := 29) (by decide +kernel))))) (And.intro (va_Nw.of rfl (hts _ (List.mem_append_right _ (List.mem_of_getElem? (i := 194) (by decide +kernel))))) (And.intro (va_Nw.of rfl (hts _ (List.mem_append_right _ (List.mem_of_getElem? (i := 232) (by decide +kernel))))) (And.intro (va_Nw.of rfl (hts _ (List.mem_append_right _ (List.mem_of_getElem? (i := 475) (by decide +kernel))))) (And.intro (va_Nw.of rfl (hts _ (List.mem_append_right _ (List.mem_of_getElem? (i := 481) (by decide +kernel))))) (And.intro (va_Nw.of rfl (hts _ (List.mem_append_right _ (List.mem_of_getElem? (i := 487) (by decide +kernel))))) (And.intro (va_Nw.of rfl (hts _ (List.mem_append_right _ (List.mem_of_getElem? (i := 488) (by decide +kernel))))) (And.intro (va_Nw.of rfl (hts _ (List.mem_append_right _ (List.mem_of_getElem? (i := 490) (by decide +kernel))))) (And.intro (va_Nw.of rfl (hts _ (List.mem_append_right _ (List.mem_of_getElem? (i := 495) (by decide +kernel))))) (And.intro (va_Nw.of rfl (hts _ (List.mem_append_right _ (List.mem_of_getElem? (i := 469) (by decide +kernel))))) (And.intro (va_Nw.of rfl (hts _ (List.mem_append_right _ (List.mem_of_getElem? (i := 497) (by decide +kernel))))) (And.intro (va_Nw.of rfl (cw_sel (k := 3) (by decide) (hts _ (List.mem_append_right _ (List.mem_of_getElem? (i := 48) (by decide +kernel)))) (hts _ (List.mem_append_right _ (List.mem_of_getElem? (i := 464) (by decide +kernel)))) (hts _ (List.mem_append_right _ (List.mem_of_getElem? (i := 465) (by decide +kernel)))) (hts _ (List.mem_append_right _ (List.mem_of_getElem? (i := 802) (by decide +kernel)))))) (And.intro (va_Nw.of rfl (cw_sel (k := 3) (by decide) (hts _ (List.mem_append_right _ (List.mem_of_getElem? (i := 76) (by decide +kernel)))) (hts _ (List.mem_append_right _ (List.mem_of_getElem? (i := 464) (by decide +kernel)))) (hts _ (List.mem_append_right _ (List.mem_of_getElem? (i := 465) (by decide +kernel)))) (hts _ (List.mem_append_right _ (List.mem_of_getElem? (i := 802) (by decide +kernel)))))) (trivial)))))))))))))).all
theorem st_E2 {b : Nat} {s : State} (hts : ∀ w ∈ lw_tbl, w.before #[Value.ref b] s = true) (hgv : (Jvm.Cond.and given_1 narrow_1).before #[Value.ref b] s = true) : kx_E2 s := (show kx_and (fun w => va_Nw w s) bad_2 from And.intro (va_Nw.of rfl (hts _ (List.mem_append_right _ (List.mem_of_getElem? (i := 265) (by decide +kernel))))) (And.intro (va_Nw.of rfl (hts _ (List.mem_append_right _ (List.mem_of_getElem? (i := 330) (by decide +kernel))))) (And.intro (va_Nw.of rfl (hts _ (List.mem_append_right _ (List.mem_of_getElem? (i := 399) (by decide +kernel))))) (And.intro (va_Nw.of rfl (hts _ (List.mem_append_right _ (List.mem_of_getElem? (i := 415) (by decide +kernel))))) (And.intro (va_Nw.of rfl (hts _ (List.mem_append_right _ (List.mem_of_getElem? (i := 266) (by decide +kernel))))) (And.intro (va_Nw.of rfl (hts _ (List.mem_append_right _ (List.mem_of_getElem? (i := 268) (by decide +kernel))))) (And.intro (va_Nw.of rfl (hts _ (List.mem_append_right _ (List.mem_of_getElem? (i := 270) (by decide +kernel))))) (And.intro (kx_nc (flat_of_before _ hgv _ (by decide +kernel))) (And.intro (kx_nc (flat_of_before _ hgv _ (by decide +kernel))) (And.intro (kx_nc (flat_of_before _ hgv _ (by decide +kernel))) (And.intro (kx_nc (flat_of_before _ hgv _ (by decide +kernel))) (trivial)))))))))))).all
theorem st_Ex {b : Nat} {s : State} (hts : ∀ w ∈ lw_tbl, w.before #[Value.ref b] s = true) (hgv : (Jvm.Cond.and given_1 narrow_1).before #[Value.ref b] s = true) : kEx s :=
  ⟨st_E hts, st_E2 hts hgv, kz_1.of (hts _ (List.mem_append_right _ (List.mem_of_getElem? (i := 290) (by decide +kernel)))) (flat_of_before _ hgv _ (by decide +kernel)), kz_1.of (hts _ (List.mem_append_right _ (List.mem_of_getElem? (i := 292) (by decide +kernel)))) (flat_of_before _ hgv _ (by decide +kernel))⟩
theorem st_arr {args : Array Value} {s : State} {ty : FieldType} (h : (Cond.arrayClass ty).before args s = true) : ∃ k : ClassId, ArrOfT s k ty ∧ s.vm.findClass ("[" ++ ty.toString) = some k := by
  obtain ⟨c, k, comp, h1, h2, h3⟩ := Cond.arrayClass_spec h
  exact ⟨c, fun n z => ⟨(fun _ h => by cases h), k, h2, comp, h3⟩, h1⟩
theorem st_K {args : Array Value} {s : State} {c0 : Cond} (hts : ∀ w ∈ c0 :: gw_tbl, w.before args s = true) : ∃ (D : va_G) (kI kB kC kL : ClassId), va_K D cl_v (kt kI kB kC kL) s := by
  obtain ⟨cC, iC, hC⟩ := u_known (n := 12) hts (wc_C _) (hts _ (gq wd_20))
  obtain ⟨cW, iW, hW⟩ := u_known (n := 4) hts (wc_W _) (hts _ (gq wd_28))
  obtain ⟨cM, iM, hM⟩ := u_known (n := 3) hts (wc_M _) (hts _ (gq wd_48))
  obtain ⟨cN, iN, hN⟩ := u_known (n := 3) hts (wc_N _) (hts _ (gq wd_76))
  obtain ⟨cG, iG, hG⟩ := u_known (n := 2) hts (wc_G _) (hts _ (gq wd_86))
  obtain ⟨cT, iT, hT⟩ := u_known (n := 3) hts (wc_T _) (hts _ (gq wd_99))
  obtain ⟨cR, iR, hR⟩ := u_known (n := 21) hts (wc_R _) (hts _ (gq wd_592))
  obtain ⟨kI, aI, bI9⟩ := st_arr (hts _ (gq wd_46))
  obtain ⟨kB, aB, bB⟩ := st_arr (hts _ (gq wd_74))
  obtain ⟨kX, aX, bX⟩ := st_arr (hts _ (gq wd_114))
  obtain ⟨kL, aL, bL⟩ := st_arr (hts _ (gq wd_800))
  refine ⟨(fun c => [cC, cW, cM, cN, cG, cT, cR].getD c 0, fun c => [iC, iW, iM, iN, iG, iT, iR].getD c (fun _ => 0)), kI, kB, kX, kL, fun c q hq => ?_, fun k q hq => ?_⟩
  · match c, hq with
    | 0, hq => cases hq; exact hC
    | 1, hq => cases hq; exact hW
    | 2, hq => cases hq; exact hM
    | 3, hq => cases hq; exact hN
    | 4, hq => cases hq; exact hG
    | 5, hq => cases hq; exact hT
    | 6, hq => cases hq; exact hR
    | c + 7, hq => simp at hq
  · match k, hq with
    | 0, hq => cases hq; exact ⟨aI, bI9⟩
    | 1, hq => cases hq; exact ⟨aB, bB⟩
    | 2, hq => cases hq; exact ⟨aX, bX⟩
    | 3, hq => cases hq; exact ⟨aL, bL⟩
    | k + 4, hq => simp at hq
theorem kb_get1 {pre : va_W} {a : Nat × va_E} {k : Nat} (hk : pre.length = k) : [k].map (fun i => (pre ++ [a])[i]?) = [a].map some := by
  show [(pre ++ [a])[k]?] = [some a]
  rw [kb_at hk]
theorem kb_put1 {pre r : va_W} {a x : Nat × va_E} {k : Nat} (hk : pre.length = k) : kw_put (pre ++ [a]) [k] (x :: r) = pre ++ (x :: r) := by
  have e1 : ∀ (u v : va_W), kw_put u [] v = u ++ v := fun u v => by cases v <;> simp [kw_put]
  have e2 : kw_put (pre ++ [a]) [k] (x :: r) = kw_put ((pre ++ [a]).set k x) [] r := by simp [kw_put]
  rw [e2, e1, kb_set hk, List.append_assoc]
  rfl
theorem kb_turn {wC wR : va_W} {a : Nat × va_E} (h16 : wC.length = 16) (h13 : wR.length = 13) : (List.range' 16 13 ++ (List.range' 0 16 ++ [29])).map (fun i => ((wC ++ wR) ++ [a])[i]?) = (wR ++ (wC ++ [a])).map some := by
  rw [List.map_append, List.map_append, List.map_append, List.map_append]
  have e1 := kb_get (post := [a]) h16 h13
  have e2 := kb_get0 (post := wR ++ [a]) h16
  rw [← List.append_assoc] at e1
  rw [← List.append_assoc] at e2
  rw [e1, e2]
  have e3 : ((wC ++ wR) ++ [a])[29]? = some a := kb_at (by rw [List.length_append, h16, h13])
  show _ ++ (_ ++ [((wC ++ wR) ++ [a])[29]?]) = _
  rw [e3]
  rfl
set_option maxRecDepth 100000 in
set_option maxHeartbeats 1000000 in
/-- from the entry, for every script of at most 1536 ints, the law comes to its end with true -/
theorem whole_start {p : Program} {e : Env} {s : State} {m : MethodId} {below : List Frame} {meth : Method} {c : Code} (l : Launch) (hl0 : l.stackTraces = false) {b L : Nat} {xs : Nat → Int32} (hL : L ≤ 1536) (C0 : lw_At p s m meth c b L xs) : W p l e room_1 s m #[Value.ref b] below meth c s.heap [] 0 0 (lw_Z below #[Value.ref b] s) (entryFrame m ([Value.ref b] : List Value).toArray 7) := by
  obtain ⟨hx, hb, hr, hml, hown, hts, hX, hbl, hlk, hgv⟩ := C0
  have hEx := st_Ex hts hgv
  have hg : ∀ w ∈ gw_tbl, w.before #[Value.ref b] s = true := fun w hw => hts w (List.mem_filter.mp hw).1
  have hts2 : ∀ w ∈ Cond.initialized "CoinStringsLaw" :: gw_tbl, w.before #[Value.ref b] s = true := fun w hw => by
    rcases List.mem_cons.mp hw with e9 | hw
    · rw [e9]; exact hg _ wd_0
    · exact hg w hw
  obtain ⟨D, kI, kB, kC, kL, hK⟩ := st_K hts2
  have X : kw_X p s m #[Value.ref b] c cd_L_law 7 "CoinStringsLaw" (Cond.initialized "CoinStringsLaw" :: gw_tbl) D cl_v (kt kI kB kC kL) (fun q => s.heap.size ≤ q) := ⟨⟨hx, hb, hml, hown, hts2⟩, hK, fun q h => h⟩
  have hE := hEx.1
  rw [lg_entry_eq]
  suffices h : kw_W p l e room_1 s m #[Value.ref b] below meth c 7 D cl_v (fun q => s.heap.size ≤ q) 0 0 (lw_Z below #[Value.ref b] s) [] 0 (([Value.ref b] : List Value).map some ++ List.replicate (7 - ([Value.ref b] : List Value).length) none) [] from
    h s.heap [] _ (fun k q hk => by cases hk) ⟨(fun i j p q hp => by cases hp), (fun k q hk => by cases hk)⟩ va_S.rf (kw_entry [Value.ref b] (Nat.le_of_ble_eq_true rfl) (fun w hw => by rw [List.mem_singleton.mp hw]; rfl))
  refine kw_new (ci := 0) (fs := [.null, .null, .null, .null, .null, .null, .null, .null, .int 0, .int 0, .int 0, .int 0]) X (wc_C _) fy_C fk_C (gq wd_19) (gq wd_20) (gq wd_1) rfl (by decide +kernel) (Nat.le_of_ble_eq_true rfl) (Nat.le_of_ble_eq_true rfl) dc_L_law_0 (fun q0 => ?_)
  refine kw_dup X dc_L_law_3 rfl ?_
  refine kw_callI X kEw hE (ct_Cinit q0) (cw_I 0 X wd_21 wd_22 wd_1 wd_23 rfl rfl rfl (by decide +kernel) ⟨Nat.le_of_ble_eq_true rfl, Nat.le_of_ble_eq_true rfl⟩) [0] rfl (by decide) (fun _ h => by obtain ⟨ad, _, rfl⟩ := h; exact Nat.le_of_ble_eq_true rfl) rfl rfl (Nat.le_of_ble_eq_true rfl) dc_L_law_4 ⟨Nat.le_of_ble_eq_true rfl, Nat.le_of_ble_eq_true rfl⟩ (fun w hp => ?_)
  obtain ⟨ad, rfl, ew⟩ := hp
  have hC : csP kI kB kC ad 0 (fun _ => 0) (fun _ => 0) false [] [] w := ⟨(fun _ => 0), (fun _ => 0), (fun _ => 0), nI 0, (fun _ => 0), nI 0, (fun _ => 0), (fun _ => 0), (fun _ => 0), (fun _ => 0), (fun _ => 0), (fun _ => 0), ew, trivial, fun _ => rfl, ⟨⟨by decide, fun i hi => absurd hi (Nat.not_lt_zero _)⟩, fun i hi => absurd hi (Nat.not_lt_zero _), fun c _ => rfl⟩, ⟨by decide, fun j y h => by cases h⟩, ⟨rfl, rfl⟩, trivial, fun z => by cases z⟩
  have h16 := csP_16 hC
  refine kw_cv (ws' := w) (by rw [ew]; rfl) rfl rfl ?_
  clear ew
  refine kw_astore_n X dc_L_law_7 rfl (by decide) ?_
  refine kw_new (ci := 6) (fs := [.int 0, .int 0, .null, .null, .null, .int 0, .int 0, .int 0, .null, .int 0, .null, .null, .null, .null, .int 0, .null, .null, .int 0, .null, .null, .int 0]) X (wc_R _) fy_R fk_R (gq wd_591) (gq wd_592) (gq wd_8) rfl (by decide +kernel) (Nat.le_of_ble_eq_true rfl) (Nat.le_of_ble_eq_true rfl) dc_L_law_8 (fun q1 => ?_)
  refine kw_dup X dc_L_law_11 rfl ?_
  refine kw_callI X kEw hE (ct_Rinit q1) (cw_I 0 X wd_593 wd_594 wd_8 wd_595 rfl rfl rfl (by decide +kernel) ⟨Nat.le_of_ble_eq_true rfl, Nat.le_of_ble_eq_true rfl⟩) [16] (kb_get1 h16) (by decide) (fun _ h => by obtain ⟨rd, _, rfl⟩ := h; exact Nat.le_of_ble_eq_true rfl) rfl rfl (Nat.le_of_ble_eq_true rfl) dc_L_law_12 ⟨Nat.le_of_ble_eq_true rfl, Nat.le_of_ble_eq_true rfl⟩ (fun w2 hp => ?_)
  obtain ⟨rd, rfl, ew⟩ := hp
  have hP : rfP kI rd 0 (fun _ => 0) (fun _ => 0) false [] [] 0 false w2 := ⟨(fun _ => 0), (fun _ => 0), (fun _ => 0), (fun _ => 0), (fun _ => 0), (fun _ => 0), (fun _ => 0), (fun _ => 0), false, (fun _ => 0), (fun _ => 0), 0, (fun _ => 0), (fun _ => 0), ew, trivial, fun _ => rfl, by decide, ⟨⟨by decide, fun i hi => absurd hi (Nat.not_lt_zero _)⟩, fun i hi => absurd hi (Nat.not_lt_zero _), fun c _ => rfl⟩, ⟨rfl, rfl⟩, trivial, (fun z => by cases z), ⟨by decide, fun j y h => by cases h⟩⟩
  have h13 := rfP_13 hP
  refine kw_cv (ws' := w ++ w2) (by rw [ew]; exact kb_put1 h16) rfl rfl ?_
  clear ew
  refine kw_astore_n X dc_L_law_15 rfl (by decide) ?_
  refine kw_iconst (v := (nI 1)) X dc_L_law_16 (by decide) ?_
  refine kw_newa (atype := .long) (a0 := (1, .inr (.inl (fun _ => 0)))) (N' := 1) X 3 rfl (fun C h => by cases h) (gq wd_800) rfl (fun _ => rfl) (nI_pos (by decide)) (nI_clamp (by decide)) (by decide) (Nat.le_of_ble_eq_true rfl) (Nat.le_of_ble_eq_true rfl) dc_L_law_17 (fun o => ?_)
  refine kw_astore_n X dc_L_law_19 rfl (by decide) ?_
  refine kw_iconst (v := (nI 0)) X dc_L_law_20 (by decide) ?_
  refine kw_istore X dc_L_law_21 (by decide) ?_
  refine kl_sub (List.range' 16 13 ++ (List.range' 0 16 ++ [29])) (kb_turn h16 h13) (by decide) ?_
  refine kw_widen (k9 := 30 + 0) (n9 := 16769 + 6 * 0) (Nat.le_of_ble_eq_true rfl) (Nat.le_of_ble_eq_true rfl) ?_
  exact kl_all X hr hlk hl0 hEx hX hbl hL hP hC
