/-! the text -/
abbrev wTxt (kI kC : ClassId) (t0 t1 w0 w1 w2 w3 n len : Nat) (ch les oth soc : Nat → Int32) : va_W := (t0, .inr (5, [.ref w0, .ref t1, .int (nI len)])) :: (t1, .inl (kC, 84, .inl ch)) :: wWeb kI w0 w1 w2 w3 n les oth soc
/-- the array holds the text -/
def txOk (T : List Nat) (ch : Nat → Int32) : Prop := T.length ≤ 84 ∧ ∀ (j y : Nat), T[j]? = some y → ch j = nI y
theorem txOk_put {T : List Nat} {ch : Nat → Int32} {x : Nat} (h : txOk T ch) (hl : T.length < 84) : txOk (T ++ [x]) (upd ch T.length (nI x)) := by
  refine ⟨by rw [List.length_append]; simp; omega, fun j y hj => ?_⟩
  by_cases hjl : j < T.length
  · rw [List.getElem?_append_left hjl] at hj
    rw [pk_un (by omega)]
    exact h.2 j y hj
  · rw [List.getElem?_append_right (by omega)] at hj
    by_cases hj0 : j = T.length
    · subst hj0
      rw [Nat.sub_self] at hj
      simp at hj
      rw [pk_us, hj]
    · rw [List.getElem?_eq_none (by simp; omega)] at hj
      cases hj
theorem kq_nar {q : Nat} (h : q < 65536) : vp_nar .char (nI q) = nI q := by
  unfold vp_nar
  rw [(pk_charN h).1]
set_option maxRecDepth 100000 in
set_option maxHeartbeats 4000000 in
theorem ct_tlen {l : Launch} {D : va_G} {kI kB kC kL : ClassId} (t0 t1 w0 w1 w2 w3 n : Nat) (T : List Nat) (ch les oth soc : Nat → Int32)  : kw_I l mn_T_length (gw mn_T_length cd_T_length 1 (some .int)) ({ frames := 0, cells := 0, slots := 0, locals := 0 } : Room) D cl_v (kt kI kB kC kL) kE [.ref t0] (wTxt kI kC t0 t1 w0 w1 w2 w3 n (T).length ch les oth soc) (fun r w => w = wTxt kI kC t0 t1 w0 w1 w2 w3 n (T).length ch les oth soc ∧ r = nI T.length) 0 0 := by
  refine kw_ofI (cc := cd_T_length) (maxL := 1) (ty := .int) (by decide) rfl (Nat.le_of_ble_eq_true rfl) rfl ?_
  intro pp ee s m args below meth c A X hr hlk hE hnm
  refine kw_aload_n X dc_T_length_0 rfl rfl ?_
  refine kw_get X (wc_T _) 0 rfl rfl 2 (by decide) (gq wd_106) (fun _ h => h) rfl dc_T_length_1 ?_
  exact kw_iret X hr hlk dc_T_length_4 ⟨rfl, rfl⟩
set_option maxRecDepth 100000 in
set_option maxHeartbeats 4000000 in
theorem ct_tchar {l : Launch} {D : va_G} {kI kB kC kL : ClassId} (t0 t1 w0 w1 w2 w3 n : Nat) (T : List Nat) (ch les oth soc : Nat → Int32) (hx : txOk T ch) (i y : Nat) (hi : T[i]? = some y) : kw_I l mn_T_character (gw mn_T_character cd_T_character 2 (some .int)) ({ frames := 0, cells := 0, slots := 0, locals := 0 } : Room) D cl_v (kt kI kB kC kL) kE [.ref t0, .int (nI i)] (wTxt kI kC t0 t1 w0 w1 w2 w3 n (T).length ch les oth soc) (fun r w => w = wTxt kI kC t0 t1 w0 w1 w2 w3 n (T).length ch les oth soc ∧ r = nI y) 0 0 := by
  refine kw_ofI (cc := cd_T_character) (maxL := 2) (ty := .int) (by decide) rfl (Nat.le_of_ble_eq_true rfl) rfl ?_
  intro pp ee s m args below meth c A X hr hlk hE hnm
  have hil : i < T.length := (List.getElem?_eq_some_iff.mp hi).1
  have h84 := hx.1
  refine kw_aload_n X dc_T_character_0 rfl rfl ?_
  refine kw_get X (wc_T _) 0 rfl rfl 1 (by decide) (gq wd_105) (fun _ h => h) rfl dc_T_character_1 ?_
  refine kw_iload_n X dc_T_character_4 rfl rfl ?_
  refine kw_cald (v := nI y) X 1 2 rfl rfl (kq_in (by omega) (by omega)) (by rw [kq_cl (by omega)]; exact hx.2 i y hi) dc_T_character_5 ?_
  exact kw_iret X hr hlk dc_T_character_6 ⟨rfl, rfl⟩
set_option maxRecDepth 100000 in
set_option maxHeartbeats 4000000 in
theorem ct_put {l : Launch} {D : va_G} {kI kB kC kL : ClassId} (t0 t1 w0 w1 w2 w3 n : Nat) (T : List Nat) (ch les oth soc : Nat → Int32) (hx : txOk T ch) (hl : T.length < 84) (x : Nat) (hx6 : x < 65536) : kw_V l mn_T_put (gw mn_T_put cd_T_put 2 none) ({ frames := 0, cells := 0, slots := 0, locals := 0 } : Room) D cl_v (kt kI kB kC kL) kE [.ref t0, .int (nI x)] (wTxt kI kC t0 t1 w0 w1 w2 w3 n (T).length ch les oth soc) (fun w => ∃ c2 : Nat → Int32, w = wTxt kI kC t0 t1 w0 w1 w2 w3 n (T ++ [x]).length c2 les oth soc ∧ txOk (T ++ [x]) c2) 0 0 := by
  refine kw_ofV (cc := cd_T_put) (maxL := 2) (by decide) rfl (Nat.le_of_ble_eq_true rfl) rfl ?_
  intro pp ee s m args below meth c A X hr hlk hE hnm
  refine kw_aload_n X dc_T_put_0 rfl rfl ?_
  refine kw_get X (wc_T _) 0 rfl rfl 1 (by decide) (gq wd_105) (fun _ h => h) rfl dc_T_put_1 ?_
  refine kw_aload_n X dc_T_put_4 rfl rfl ?_
  refine kw_get X (wc_T _) 0 rfl rfl 2 (by decide) (gq wd_106) (fun _ h => h) rfl dc_T_put_5 ?_
  refine kw_iload_n X dc_T_put_8 rfl rfl ?_
  refine kw_cast X 1 2 rfl rfl (kq_in hl (by omega)) dc_T_put_9 ?_
  refine kw_aload_n X dc_T_put_10 rfl rfl ?_
  refine kw_dup X dc_T_put_11 rfl ?_
  refine kw_get X (wc_T _) 0 rfl rfl 2 (by decide) (gq wd_106) (fun _ h => h) rfl dc_T_put_12 ?_
  refine kw_iconst (v := (nI 1)) X dc_T_put_15 (by decide) ?_
  refine kw_iadd (v := nI (T ++ [x]).length) X dc_T_put_16 (by rw [List.length_append]; exact nI_1 _) ?_
  refine kw_putf (ty := .int) X (wc_T _) fy_T fk_T fn_T 0 rfl rfl 2 (by decide) (gq wd_106) (fun _ h => h) rfl (by decide +kernel) rfl rfl (Nat.le_of_ble_eq_true rfl) dc_T_put_17 ?_
  exact kw_vret X hr hlk dc_T_put_20 ⟨upd ch T.length (nI x), by rw [kq_cl (by omega), kq_nar hx6]; rfl, txOk_put hx hl⟩
set_option maxRecDepth 100000 in
set_option maxHeartbeats 4000000 in
theorem ct_putDigit {l : Launch} {D : va_G} {kI kB kC kL : ClassId} (t0 t1 w0 w1 w2 w3 n : Nat) (T : List Nat) (ch les oth soc : Nat → Int32) (hx : txOk T ch) (hl : T.length < 84) (d : Nat) (hd : d < 10) : kw_V l mn_T_putDigit (gw mn_T_putDigit cd_T_putDigit 2 none) ({ frames := 1, cells := 0, slots := 0, locals := 21 } : Room) D cl_v (kt kI kB kC kL) kE [.ref t0, .int (nI d)] (wTxt kI kC t0 t1 w0 w1 w2 w3 n (T).length ch les oth soc) (fun w => ∃ c2 : Nat → Int32, w = wTxt kI kC t0 t1 w0 w1 w2 w3 n (T ++ [48 + d]).length c2 les oth soc ∧ txOk (T ++ [48 + d]) c2) 0 0 := by
  refine kw_ofV (cc := cd_T_putDigit) (maxL := 2) (by decide) rfl (Nat.le_of_ble_eq_true rfl) rfl ?_
  intro pp ee s m args below meth c A X hr hlk hE hnm
  refine kw_aload_n X dc_T_putDigit_0 rfl rfl ?_
  refine kw_bipush (v := (nI 48)) X dc_T_putDigit_1 (by decide) ?_
  refine kw_iload_n X dc_T_putDigit_3 rfl rfl ?_
  refine kw_iadd (v := nI (48 + d)) X dc_T_putDigit_4 (nI_add 48 d) ?_
  refine kw_i2c (v := nI (48 + d)) X dc_T_putDigit_5 (by rw [pk_char, pk_tn (by omega), Nat.mod_eq_of_lt (by omega)]) ?_
  refine kw_callVV X kEw hE 0 rfl rfl (ct_put t0 t1 w0 w1 w2 w3 n T ch les oth soc hx hl (48 + d) (by omega)) (cw_V 1 X wd_241 wd_243 wp_4 wd_7 wd_244 rfl rfl (by decide +kernel) ⟨Nat.le_of_ble_eq_true rfl, Nat.le_of_ble_eq_true rfl⟩) [0, 1, 2, 3, 4, 5] rfl (by decide) (fun _ h => by obtain ⟨g, rfl, _⟩ := h; exact Nat.le_refl _) rfl rfl (Nat.le_of_ble_eq_true rfl) dc_T_putDigit_6 ⟨Nat.zero_le _, Nat.zero_le _⟩ (fun w hp => ?_)
  obtain ⟨c2, rfl, hx2⟩ := hp
  refine kw_cv (ws' := wTxt kI kC t0 t1 w0 w1 w2 w3 n (T ++ [48 + d]).length c2 les oth soc) rfl rfl rfl ?_
  exact kw_vret X hr hlk dc_T_putDigit_9 ⟨c2, rfl, hx2⟩
set_option maxRecDepth 100000 in
set_option maxHeartbeats 4000000 in
theorem ct_putString {l : Launch} {D : va_G} {kI kB kC kL : ClassId} (t0 t1 w0 w1 w2 w3 n : Nat) (T : List Nat) (ch les oth soc : Nat → Int32) (lo hi : Nat → Nat) (ok : webOk lo hi n les oth soc) (hx : txOk T ch) (hl : T.length + 7 ≤ 84) (i : Nat) (hi1 : i < n) : kw_V l mn_T_putString (gw mn_T_putString cd_T_putString 2 none) ({ frames := 2, cells := 0, slots := 0, locals := 42 } : Room) D cl_v (kt kI kB kC kL) kE [.ref t0, .int (nI i)] (wTxt kI kC t0 t1 w0 w1 w2 w3 n (T).length ch les oth soc) (fun w => ∃ c2 : Nat → Int32, w = wTxt kI kC t0 t1 w0 w1 w2 w3 n (T ++ gm_str lo hi i).length c2 les oth soc ∧ txOk (T ++ gm_str lo hi i) c2) 0 0 := by
  refine kw_ofV (cc := cd_T_putString) (maxL := 2) (by decide) rfl (Nat.le_of_ble_eq_true rfl) rfl ?_
  intro pp ee s m args below meth c A X hr hlk hE hnm
  have hn := ok.1.1
  obtain ⟨o1, o2, o3⟩ := ok.1.2 i hi1
  obtain ⟨e1, e2⟩ := ok.2.1 i hi1
  refine kw_iload_n X dc_T_putString_0 rfl rfl ?_
  refine kw_bipush (v := (nI 10)) X dc_T_putString_1 (by decide) ?_
  refine kw_icmp_lt (tgt := 14) X dc_T_putString_3 (by decide) (fun hc3 => ?_) (fun hc3 => ?_)
  · have h3 := kq_lt hc3
    obtain ⟨T1, c1, hT1, x1, q1⟩ : ∃ (T1 : List Nat) (c1 : Nat → Int32), T1 = T ++ (if 9 < i then [49] else []) ∧ txOk T1 c1 ∧ wTxt kI kC t0 t1 w0 w1 w2 w3 n (T).length ch les oth soc = wTxt kI kC t0 t1 w0 w1 w2 w3 n (T1).length c1 les oth soc := ⟨T, ch, by rw [if_neg (by omega), List.append_nil], hx, rfl⟩
    refine kw_cv (ws' := wTxt kI kC t0 t1 w0 w1 w2 w3 n (T1).length c1 les oth soc) q1 rfl rfl ?_
    have l1 : T1.length ≤ T.length + 1 := by rw [hT1, List.length_append]; split <;> simp
    refine kw_aload_n X dc_T_putString_14 rfl rfl ?_
    refine kw_iload_n X dc_T_putString_15 rfl rfl ?_
    refine kw_bipush (v := (nI 10)) X dc_T_putString_16 (by decide) ?_
    refine kw_irem (v := nI (i % 10)) X dc_T_putString_18 (by decide) (pk_rem (d := 10) (by omega) (by omega) (by omega)) ?_
    refine kw_callVV X kEw hE 0 rfl rfl (ct_putDigit t0 t1 w0 w1 w2 w3 n T1 c1 les oth soc x1 (by omega) (i % 10) (by omega)) (cw_V 1 X wd_237 wd_239 wp_3 wd_7 wd_240 rfl rfl (by decide +kernel) ⟨Nat.le_of_ble_eq_true rfl, Nat.le_of_ble_eq_true rfl⟩) [0, 1, 2, 3, 4, 5] rfl (by decide) (fun _ h => by obtain ⟨g, rfl, _⟩ := h; exact Nat.le_refl _) rfl rfl (Nat.le_of_ble_eq_true rfl) dc_T_putString_19 ⟨Nat.zero_le _, Nat.zero_le _⟩ (fun w hp => ?_)
    obtain ⟨c2, rfl, x2⟩ := hp
    refine kw_cv (ws' := wTxt kI kC t0 t1 w0 w1 w2 w3 n (T1 ++ [48 + i % 10]).length c2 les oth soc) rfl rfl rfl ?_
    obtain ⟨T2, hT2⟩ : ∃ z, z = T1 ++ [48 + i % 10] := ⟨_, rfl⟩
    rw [← hT2] at x2
    refine kw_cv (ws' := wTxt kI kC t0 t1 w0 w1 w2 w3 n (T2).length c2 les oth soc) (by rw [hT2]) rfl rfl ?_
    have l2 : T2.length = T1.length + 1 := by rw [hT2]; simp
    refine kw_aload_n X dc_T_putString_22 rfl rfl ?_
    refine kw_bipush (v := (nI 58)) X dc_T_putString_23 (by decide) ?_
    refine kw_callVV X kEw hE 0 rfl rfl (ct_put t0 t1 w0 w1 w2 w3 n T2 c2 les oth soc x2 (by omega) (58) (by omega)) (cw_V 1 X wd_241 wd_243 wp_4 wd_7 wd_244 rfl rfl (by decide +kernel) ⟨Nat.le_of_ble_eq_true rfl, Nat.le_of_ble_eq_true rfl⟩) [0, 1, 2, 3, 4, 5] rfl (by decide) (fun _ h => by obtain ⟨g, rfl, _⟩ := h; exact Nat.le_refl _) rfl rfl (Nat.le_of_ble_eq_true rfl) dc_T_putString_25 ⟨Nat.zero_le _, Nat.zero_le _⟩ (fun w hp => ?_)
    obtain ⟨c3, rfl, x3⟩ := hp
    refine kw_cv (ws' := wTxt kI kC t0 t1 w0 w1 w2 w3 n (T2 ++ [58]).length c3 les oth soc) rfl rfl rfl ?_
    obtain ⟨T3, hT3⟩ : ∃ z, z = T2 ++ [58] := ⟨_, rfl⟩
    rw [← hT3] at x3
    refine kw_cv (ws' := wTxt kI kC t0 t1 w0 w1 w2 w3 n (T3).length c3 les oth soc) (by rw [hT3]) rfl rfl ?_
    have l3 : T3.length = T2.length + 1 := by rw [hT3]; simp
    refine kw_aload_n X dc_T_putString_28 rfl rfl ?_
    refine kw_aload_n X dc_T_putString_29 rfl rfl ?_
    refine kw_get X (wc_T _) 0 rfl rfl 0 (by decide) (gq wd_104) (fun _ h => h) rfl dc_T_putString_30 ?_
    refine kw_iload_n X dc_T_putString_33 rfl rfl ?_
    refine kw_callVI X kEw hE 0 rfl rfl (ct_lesser w0 w1 w2 w3 n les oth soc i (by omega)) (cw_V 1 X wd_245 wd_198 wd_199 wd_2 wd_200 rfl rfl (by decide +kernel) ⟨Nat.le_of_ble_eq_true rfl, Nat.le_of_ble_eq_true rfl⟩) [2, 3, 4, 5] rfl (by decide) (fun _ _ h => by obtain ⟨rfl, _⟩ := h; exact Nat.le_refl _) rfl rfl (Nat.le_of_ble_eq_true rfl) dc_T_putString_34 ⟨Nat.zero_le _, Nat.zero_le _⟩ (fun r w hp => ?_)
    obtain ⟨rfl, rfl⟩ := hp
    refine kw_cv (ws' := wTxt kI kC t0 t1 w0 w1 w2 w3 n (T3).length c3 les oth soc) rfl rfl rfl ?_
    refine kw_top (y := nI (lo i)) e1 ?_
    refine kw_callVV X kEw hE 0 rfl rfl (ct_putDigit t0 t1 w0 w1 w2 w3 n T3 c3 les oth soc x3 (by omega) (lo i) (by omega)) (cw_V 1 X wd_237 wd_239 wp_3 wd_7 wd_240 rfl rfl (by decide +kernel) ⟨Nat.le_of_ble_eq_true rfl, Nat.le_of_ble_eq_true rfl⟩) [0, 1, 2, 3, 4, 5] rfl (by decide) (fun _ h => by obtain ⟨g, rfl, _⟩ := h; exact Nat.le_refl _) rfl rfl (Nat.le_of_ble_eq_true rfl) dc_T_putString_37 ⟨Nat.zero_le _, Nat.zero_le _⟩ (fun w hp => ?_)
    obtain ⟨c4, rfl, x4⟩ := hp
    refine kw_cv (ws' := wTxt kI kC t0 t1 w0 w1 w2 w3 n (T3 ++ [48 + lo i]).length c4 les oth soc) rfl rfl rfl ?_
    obtain ⟨T4, hT4⟩ : ∃ z, z = T3 ++ [48 + lo i] := ⟨_, rfl⟩
    rw [← hT4] at x4
    refine kw_cv (ws' := wTxt kI kC t0 t1 w0 w1 w2 w3 n (T4).length c4 les oth soc) (by rw [hT4]) rfl rfl ?_
    have l4 : T4.length = T3.length + 1 := by rw [hT4]; simp
    refine kw_aload_n X dc_T_putString_40 rfl rfl ?_
    refine kw_get X (wc_T _) 0 rfl rfl 0 (by decide) (gq wd_104) (fun _ h => h) rfl dc_T_putString_41 ?_
    refine kw_iload_n X dc_T_putString_44 rfl rfl ?_
    refine kw_callVI X kEw hE 0 rfl rfl (ct_other w0 w1 w2 w3 n les oth soc i (by omega)) (cw_V 1 X wd_246 wd_206 wd_207 wd_2 wd_208 rfl rfl (by decide +kernel) ⟨Nat.le_of_ble_eq_true rfl, Nat.le_of_ble_eq_true rfl⟩) [2, 3, 4, 5] rfl (by decide) (fun _ _ h => by obtain ⟨rfl, _⟩ := h; exact Nat.le_refl _) rfl rfl (Nat.le_of_ble_eq_true rfl) dc_T_putString_45 ⟨Nat.zero_le _, Nat.zero_le _⟩ (fun r w hp => ?_)
    obtain ⟨rfl, rfl⟩ := hp
    refine kw_cv (ws' := wTxt kI kC t0 t1 w0 w1 w2 w3 n (T4).length c4 les oth soc) rfl rfl rfl ?_
    refine kw_top (y := og (hi i)) e2 ?_
    refine kw_iconst (v := (-1)) X dc_T_putString_48 (by decide) ?_
    refine kw_icmp_ne (tgt := 61) X dc_T_putString_49 (by decide) (fun hc49 => ?_) (fun hc49 => ?_)
    · have h49 : hi i < 8 := by
        have h8 : hi i ≠ 8 := fun z => hc49 ((og_m1 o2).mpr z)
        omega
      refine kw_aload_n X dc_T_putString_61 rfl rfl ?_
      refine kw_bipush (v := (nI 45)) X dc_T_putString_62 (by decide) ?_
      refine kw_callVV X kEw hE 0 rfl rfl (ct_put t0 t1 w0 w1 w2 w3 n T4 c4 les oth soc x4 (by omega) (45) (by omega)) (cw_V 1 X wd_241 wd_243 wp_4 wd_7 wd_244 rfl rfl (by decide +kernel) ⟨Nat.le_of_ble_eq_true rfl, Nat.le_of_ble_eq_true rfl⟩) [0, 1, 2, 3, 4, 5] rfl (by decide) (fun _ h => by obtain ⟨g, rfl, _⟩ := h; exact Nat.le_refl _) rfl rfl (Nat.le_of_ble_eq_true rfl) dc_T_putString_64 ⟨Nat.zero_le _, Nat.zero_le _⟩ (fun w hp => ?_)
      obtain ⟨c5, rfl, x5⟩ := hp
      refine kw_cv (ws' := wTxt kI kC t0 t1 w0 w1 w2 w3 n (T4 ++ [45]).length c5 les oth soc) rfl rfl rfl ?_
      obtain ⟨T5, hT5⟩ : ∃ z, z = T4 ++ [45] := ⟨_, rfl⟩
      rw [← hT5] at x5
      refine kw_cv (ws' := wTxt kI kC t0 t1 w0 w1 w2 w3 n (T5).length c5 les oth soc) (by rw [hT5]) rfl rfl ?_
      have l5 : T5.length = T4.length + 1 := by rw [hT5]; simp
      refine kw_aload_n X dc_T_putString_67 rfl rfl ?_
      refine kw_aload_n X dc_T_putString_68 rfl rfl ?_
      refine kw_get X (wc_T _) 0 rfl rfl 0 (by decide) (gq wd_104) (fun _ h => h) rfl dc_T_putString_69 ?_
      refine kw_iload_n X dc_T_putString_72 rfl rfl ?_
      refine kw_callVI X kEw hE 0 rfl rfl (ct_other w0 w1 w2 w3 n les oth soc i (by omega)) (cw_V 1 X wd_246 wd_206 wd_207 wd_2 wd_208 rfl rfl (by decide +kernel) ⟨Nat.le_of_ble_eq_true rfl, Nat.le_of_ble_eq_true rfl⟩) [2, 3, 4, 5] rfl (by decide) (fun _ _ h => by obtain ⟨rfl, _⟩ := h; exact Nat.le_refl _) rfl rfl (Nat.le_of_ble_eq_true rfl) dc_T_putString_73 ⟨Nat.zero_le _, Nat.zero_le _⟩ (fun r w hp => ?_)
      obtain ⟨rfl, rfl⟩ := hp
      refine kw_cv (ws' := wTxt kI kC t0 t1 w0 w1 w2 w3 n (T5).length c5 les oth soc) rfl rfl rfl ?_
      refine kw_top (y := nI (hi i)) (e2.trans (og_lt h49)) ?_
      refine kw_callVV X kEw hE 0 rfl rfl (ct_putDigit t0 t1 w0 w1 w2 w3 n T5 c5 les oth soc x5 (by omega) (hi i) (by omega)) (cw_V 1 X wd_237 wd_239 wp_3 wd_7 wd_240 rfl rfl (by decide +kernel) ⟨Nat.le_of_ble_eq_true rfl, Nat.le_of_ble_eq_true rfl⟩) [0, 1, 2, 3, 4, 5] rfl (by decide) (fun _ h => by obtain ⟨g, rfl, _⟩ := h; exact Nat.le_refl _) rfl rfl (Nat.le_of_ble_eq_true rfl) dc_T_putString_76 ⟨Nat.zero_le _, Nat.zero_le _⟩ (fun w hp => ?_)
      obtain ⟨c6, rfl, x6⟩ := hp
      refine kw_cv (ws' := wTxt kI kC t0 t1 w0 w1 w2 w3 n (T5 ++ [48 + hi i]).length c6 les oth soc) rfl rfl rfl ?_
      obtain ⟨T6, hT6⟩ : ∃ z, z = T5 ++ [48 + hi i] := ⟨_, rfl⟩
      rw [← hT6] at x6
      refine kw_cv (ws' := wTxt kI kC t0 t1 w0 w1 w2 w3 n (T6).length c6 les oth soc) (by rw [hT6]) rfl rfl ?_
      have l6 : T6.length = T5.length + 1 := by rw [hT6]; simp
      refine kw_aload_n X dc_T_putString_79 rfl rfl ?_
      refine kw_bipush (v := (nI 59)) X dc_T_putString_80 (by decide) ?_
      refine kw_callVV X kEw hE 0 rfl rfl (ct_put t0 t1 w0 w1 w2 w3 n T6 c6 les oth soc x6 (by omega) (59) (by omega)) (cw_V 1 X wd_241 wd_243 wp_4 wd_7 wd_244 rfl rfl (by decide +kernel) ⟨Nat.le_of_ble_eq_true rfl, Nat.le_of_ble_eq_true rfl⟩) [0, 1, 2, 3, 4, 5] rfl (by decide) (fun _ h => by obtain ⟨g, rfl, _⟩ := h; exact Nat.le_refl _) rfl rfl (Nat.le_of_ble_eq_true rfl) dc_T_putString_82 ⟨Nat.zero_le _, Nat.zero_le _⟩ (fun w hp => ?_)
      obtain ⟨c7, rfl, x7⟩ := hp
      refine kw_cv (ws' := wTxt kI kC t0 t1 w0 w1 w2 w3 n (T6 ++ [59]).length c7 les oth soc) rfl rfl rfl ?_
      obtain ⟨T7, hT7⟩ : ∃ z, z = T6 ++ [59] := ⟨_, rfl⟩
      rw [← hT7] at x7
      refine kw_cv (ws' := wTxt kI kC t0 t1 w0 w1 w2 w3 n (T7).length c7 les oth soc) (by rw [hT7]) rfl rfl ?_
      have l7 : T7.length = T6.length + 1 := by rw [hT7]; simp
      have hfin : T7 = T ++ gm_str lo hi i := by
        unfold gm_str
        first
          | (rw [hT7, hT6, hT5, hT4, hT3, hT2, hT1, if_neg (show ¬ hi i = 8 by omega)]; simp [List.append_assoc])
          | (rw [hT7, hT6, hT4, hT3, hT2, hT1, if_pos h49]; simp [List.append_assoc])
      exact kw_vret X hr hlk dc_T_putString_85 ⟨c7, by rw [hfin], by rw [← hfin]; exact x7⟩
    · have h49 := (og_m1 o2).mp hc49
      refine kw_aload_n X dc_T_putString_52 rfl rfl ?_
      refine kw_bipush (v := (nI 61)) X dc_T_putString_53 (by decide) ?_
      refine kw_callVV X kEw hE 0 rfl rfl (ct_put t0 t1 w0 w1 w2 w3 n T4 c4 les oth soc x4 (by omega) (61) (by omega)) (cw_V 1 X wd_241 wd_243 wp_4 wd_7 wd_244 rfl rfl (by decide +kernel) ⟨Nat.le_of_ble_eq_true rfl, Nat.le_of_ble_eq_true rfl⟩) [0, 1, 2, 3, 4, 5] rfl (by decide) (fun _ h => by obtain ⟨g, rfl, _⟩ := h; exact Nat.le_refl _) rfl rfl (Nat.le_of_ble_eq_true rfl) dc_T_putString_55 ⟨Nat.zero_le _, Nat.zero_le _⟩ (fun w hp => ?_)
      obtain ⟨c6, rfl, x6⟩ := hp
      refine kw_cv (ws' := wTxt kI kC t0 t1 w0 w1 w2 w3 n (T4 ++ [61]).length c6 les oth soc) rfl rfl rfl ?_
      obtain ⟨T6, hT6⟩ : ∃ z, z = T4 ++ [61] := ⟨_, rfl⟩
      rw [← hT6] at x6
      refine kw_cv (ws' := wTxt kI kC t0 t1 w0 w1 w2 w3 n (T6).length c6 les oth soc) (by rw [hT6]) rfl rfl ?_
      have l6 : T6.length = T4.length + 1 := by rw [hT6]; simp
      refine kw_goto (tgt := 79) X dc_T_putString_58 (by decide) ?_
      refine kw_aload_n X dc_T_putString_79 rfl rfl ?_
      refine kw_bipush (v := (nI 59)) X dc_T_putString_80 (by decide) ?_
      refine kw_callVV X kEw hE 0 rfl rfl (ct_put t0 t1 w0 w1 w2 w3 n T6 c6 les oth soc x6 (by omega) (59) (by omega)) (cw_V 1 X wd_241 wd_243 wp_4 wd_7 wd_244 rfl rfl (by decide +kernel) ⟨Nat.le_of_ble_eq_true rfl, Nat.le_of_ble_eq_true rfl⟩) [0, 1, 2, 3, 4, 5] rfl (by decide) (fun _ h => by obtain ⟨g, rfl, _⟩ := h; exact Nat.le_refl _) rfl rfl (Nat.le_of_ble_eq_true rfl) dc_T_putString_82 ⟨Nat.zero_le _, Nat.zero_le _⟩ (fun w hp => ?_)
      obtain ⟨c7, rfl, x7⟩ := hp
      refine kw_cv (ws' := wTxt kI kC t0 t1 w0 w1 w2 w3 n (T6 ++ [59]).length c7 les oth soc) rfl rfl rfl ?_
      obtain ⟨T7, hT7⟩ : ∃ z, z = T6 ++ [59] := ⟨_, rfl⟩
      rw [← hT7] at x7
      refine kw_cv (ws' := wTxt kI kC t0 t1 w0 w1 w2 w3 n (T7).length c7 les oth soc) (by rw [hT7]) rfl rfl ?_
      have l7 : T7.length = T6.length + 1 := by rw [hT7]; simp
      have hfin : T7 = T ++ gm_str lo hi i := by
        unfold gm_str
        first
          | (rw [hT7, hT6, hT5, hT4, hT3, hT2, hT1, if_neg (show ¬ hi i = 8 by omega)]; simp [List.append_assoc])
          | (rw [hT7, hT6, hT4, hT3, hT2, hT1, if_pos h49]; simp [List.append_assoc])
      exact kw_vret X hr hlk dc_T_putString_85 ⟨c7, by rw [hfin], by rw [← hfin]; exact x7⟩
  · have h3 := kq_nlt hc3
    refine kw_aload_n X dc_T_putString_6 rfl rfl ?_
    refine kw_iload_n X dc_T_putString_7 rfl rfl ?_
    refine kw_bipush (v := (nI 10)) X dc_T_putString_8 (by decide) ?_
    refine kw_idiv (v := nI (i / 10)) X dc_T_putString_10 (by decide) (pk_div (d := 10) (by omega) (by omega) (by omega)) ?_
    refine kw_callVV X kEw hE 0 rfl rfl (ct_putDigit t0 t1 w0 w1 w2 w3 n T ch les oth soc hx (by omega) (i / 10) (by omega)) (cw_V 1 X wd_237 wd_239 wp_3 wd_7 wd_240 rfl rfl (by decide +kernel) ⟨Nat.le_of_ble_eq_true rfl, Nat.le_of_ble_eq_true rfl⟩) [0, 1, 2, 3, 4, 5] rfl (by decide) (fun _ h => by obtain ⟨g, rfl, _⟩ := h; exact Nat.le_refl _) rfl rfl (Nat.le_of_ble_eq_true rfl) dc_T_putString_11 ⟨Nat.zero_le _, Nat.zero_le _⟩ (fun w hp => ?_)
    obtain ⟨c9, rfl, x9⟩ := hp
    refine kw_cv (ws' := wTxt kI kC t0 t1 w0 w1 w2 w3 n (T ++ [48 + i / 10]).length c9 les oth soc) rfl rfl rfl ?_
    obtain ⟨T1, c1, hT1, x1, q1⟩ : ∃ (T1 : List Nat) (c1 : Nat → Int32), T1 = T ++ (if 9 < i then [49] else []) ∧ txOk T1 c1 ∧ wTxt kI kC t0 t1 w0 w1 w2 w3 n (T ++ [48 + i / 10]).length c9 les oth soc = wTxt kI kC t0 t1 w0 w1 w2 w3 n (T1).length c1 les oth soc := ⟨T ++ [48 + i / 10], c9, by rw [if_pos (by omega), show 48 + i / 10 = 49 by omega], x9, rfl⟩
    refine kw_cv (ws' := wTxt kI kC t0 t1 w0 w1 w2 w3 n (T1).length c1 les oth soc) q1 rfl rfl ?_
    have l1 : T1.length ≤ T.length + 1 := by rw [hT1, List.length_append]; split <;> simp
    refine kw_aload_n X dc_T_putString_14 rfl rfl ?_
    refine kw_iload_n X dc_T_putString_15 rfl rfl ?_
    refine kw_bipush (v := (nI 10)) X dc_T_putString_16 (by decide) ?_
    refine kw_irem (v := nI (i % 10)) X dc_T_putString_18 (by decide) (pk_rem (d := 10) (by omega) (by omega) (by omega)) ?_
    refine kw_callVV X kEw hE 0 rfl rfl (ct_putDigit t0 t1 w0 w1 w2 w3 n T1 c1 les oth soc x1 (by omega) (i % 10) (by omega)) (cw_V 1 X wd_237 wd_239 wp_3 wd_7 wd_240 rfl rfl (by decide +kernel) ⟨Nat.le_of_ble_eq_true rfl, Nat.le_of_ble_eq_true rfl⟩) [0, 1, 2, 3, 4, 5] rfl (by decide) (fun _ h => by obtain ⟨g, rfl, _⟩ := h; exact Nat.le_refl _) rfl rfl (Nat.le_of_ble_eq_true rfl) dc_T_putString_19 ⟨Nat.zero_le _, Nat.zero_le _⟩ (fun w hp => ?_)
    obtain ⟨c2, rfl, x2⟩ := hp
    refine kw_cv (ws' := wTxt kI kC t0 t1 w0 w1 w2 w3 n (T1 ++ [48 + i % 10]).length c2 les oth soc) rfl rfl rfl ?_
    obtain ⟨T2, hT2⟩ : ∃ z, z = T1 ++ [48 + i % 10] := ⟨_, rfl⟩
    rw [← hT2] at x2
    refine kw_cv (ws' := wTxt kI kC t0 t1 w0 w1 w2 w3 n (T2).length c2 les oth soc) (by rw [hT2]) rfl rfl ?_
    have l2 : T2.length = T1.length + 1 := by rw [hT2]; simp
    refine kw_aload_n X dc_T_putString_22 rfl rfl ?_
    refine kw_bipush (v := (nI 58)) X dc_T_putString_23 (by decide) ?_
    refine kw_callVV X kEw hE 0 rfl rfl (ct_put t0 t1 w0 w1 w2 w3 n T2 c2 les oth soc x2 (by omega) (58) (by omega)) (cw_V 1 X wd_241 wd_243 wp_4 wd_7 wd_244 rfl rfl (by decide +kernel) ⟨Nat.le_of_ble_eq_true rfl, Nat.le_of_ble_eq_true rfl⟩) [0, 1, 2, 3, 4, 5] rfl (by decide) (fun _ h => by obtain ⟨g, rfl, _⟩ := h; exact Nat.le_refl _) rfl rfl (Nat.le_of_ble_eq_true rfl) dc_T_putString_25 ⟨Nat.zero_le _, Nat.zero_le _⟩ (fun w hp => ?_)
    obtain ⟨c3, rfl, x3⟩ := hp
    refine kw_cv (ws' := wTxt kI kC t0 t1 w0 w1 w2 w3 n (T2 ++ [58]).length c3 les oth soc) rfl rfl rfl ?_
    obtain ⟨T3, hT3⟩ : ∃ z, z = T2 ++ [58] := ⟨_, rfl⟩
    rw [← hT3] at x3
    refine kw_cv (ws' := wTxt kI kC t0 t1 w0 w1 w2 w3 n (T3).length c3 les oth soc) (by rw [hT3]) rfl rfl ?_
    have l3 : T3.length = T2.length + 1 := by rw [hT3]; simp
    refine kw_aload_n X dc_T_putString_28 rfl rfl ?_
    refine kw_aload_n X dc_T_putString_29 rfl rfl ?_
    refine kw_get X (wc_T _) 0 rfl rfl 0 (by decide) (gq wd_104) (fun _ h => h) rfl dc_T_putString_30 ?_
    refine kw_iload_n X dc_T_putString_33 rfl rfl ?_
    refine kw_callVI X kEw hE 0 rfl rfl (ct_lesser w0 w1 w2 w3 n les oth soc i (by omega)) (cw_V 1 X wd_245 wd_198 wd_199 wd_2 wd_200 rfl rfl (by decide +kernel) ⟨Nat.le_of_ble_eq_true rfl, Nat.le_of_ble_eq_true rfl⟩) [2, 3, 4, 5] rfl (by decide) (fun _ _ h => by obtain ⟨rfl, _⟩ := h; exact Nat.le_refl _) rfl rfl (Nat.le_of_ble_eq_true rfl) dc_T_putString_34 ⟨Nat.zero_le _, Nat.zero_le _⟩ (fun r w hp => ?_)
    obtain ⟨rfl, rfl⟩ := hp
    refine kw_cv (ws' := wTxt kI kC t0 t1 w0 w1 w2 w3 n (T3).length c3 les oth soc) rfl rfl rfl ?_
    refine kw_top (y := nI (lo i)) e1 ?_
    refine kw_callVV X kEw hE 0 rfl rfl (ct_putDigit t0 t1 w0 w1 w2 w3 n T3 c3 les oth soc x3 (by omega) (lo i) (by omega)) (cw_V 1 X wd_237 wd_239 wp_3 wd_7 wd_240 rfl rfl (by decide +kernel) ⟨Nat.le_of_ble_eq_true rfl, Nat.le_of_ble_eq_true rfl⟩) [0, 1, 2, 3, 4, 5] rfl (by decide) (fun _ h => by obtain ⟨g, rfl, _⟩ := h; exact Nat.le_refl _) rfl rfl (Nat.le_of_ble_eq_true rfl) dc_T_putString_37 ⟨Nat.zero_le _, Nat.zero_le _⟩ (fun w hp => ?_)
    obtain ⟨c4, rfl, x4⟩ := hp
    refine kw_cv (ws' := wTxt kI kC t0 t1 w0 w1 w2 w3 n (T3 ++ [48 + lo i]).length c4 les oth soc) rfl rfl rfl ?_
    obtain ⟨T4, hT4⟩ : ∃ z, z = T3 ++ [48 + lo i] := ⟨_, rfl⟩
    rw [← hT4] at x4
    refine kw_cv (ws' := wTxt kI kC t0 t1 w0 w1 w2 w3 n (T4).length c4 les oth soc) (by rw [hT4]) rfl rfl ?_
    have l4 : T4.length = T3.length + 1 := by rw [hT4]; simp
    refine kw_aload_n X dc_T_putString_40 rfl rfl ?_
    refine kw_get X (wc_T _) 0 rfl rfl 0 (by decide) (gq wd_104) (fun _ h => h) rfl dc_T_putString_41 ?_
    refine kw_iload_n X dc_T_putString_44 rfl rfl ?_
    refine kw_callVI X kEw hE 0 rfl rfl (ct_other w0 w1 w2 w3 n les oth soc i (by omega)) (cw_V 1 X wd_246 wd_206 wd_207 wd_2 wd_208 rfl rfl (by decide +kernel) ⟨Nat.le_of_ble_eq_true rfl, Nat.le_of_ble_eq_true rfl⟩) [2, 3, 4, 5] rfl (by decide) (fun _ _ h => by obtain ⟨rfl, _⟩ := h; exact Nat.le_refl _) rfl rfl (Nat.le_of_ble_eq_true rfl) dc_T_putString_45 ⟨Nat.zero_le _, Nat.zero_le _⟩ (fun r w hp => ?_)
    obtain ⟨rfl, rfl⟩ := hp
    refine kw_cv (ws' := wTxt kI kC t0 t1 w0 w1 w2 w3 n (T4).length c4 les oth soc) rfl rfl rfl ?_
    refine kw_top (y := og (hi i)) e2 ?_
    refine kw_iconst (v := (-1)) X dc_T_putString_48 (by decide) ?_
    refine kw_icmp_ne (tgt := 61) X dc_T_putString_49 (by decide) (fun hc49 => ?_) (fun hc49 => ?_)
    · have h49 : hi i < 8 := by
        have h8 : hi i ≠ 8 := fun z => hc49 ((og_m1 o2).mpr z)
        omega
      refine kw_aload_n X dc_T_putString_61 rfl rfl ?_
      refine kw_bipush (v := (nI 45)) X dc_T_putString_62 (by decide) ?_
      refine kw_callVV X kEw hE 0 rfl rfl (ct_put t0 t1 w0 w1 w2 w3 n T4 c4 les oth soc x4 (by omega) (45) (by omega)) (cw_V 1 X wd_241 wd_243 wp_4 wd_7 wd_244 rfl rfl (by decide +kernel) ⟨Nat.le_of_ble_eq_true rfl, Nat.le_of_ble_eq_true rfl⟩) [0, 1, 2, 3, 4, 5] rfl (by decide) (fun _ h => by obtain ⟨g, rfl, _⟩ := h; exact Nat.le_refl _) rfl rfl (Nat.le_of_ble_eq_true rfl) dc_T_putString_64 ⟨Nat.zero_le _, Nat.zero_le _⟩ (fun w hp => ?_)
      obtain ⟨c5, rfl, x5⟩ := hp
      refine kw_cv (ws' := wTxt kI kC t0 t1 w0 w1 w2 w3 n (T4 ++ [45]).length c5 les oth soc) rfl rfl rfl ?_
      obtain ⟨T5, hT5⟩ : ∃ z, z = T4 ++ [45] := ⟨_, rfl⟩
      rw [← hT5] at x5
      refine kw_cv (ws' := wTxt kI kC t0 t1 w0 w1 w2 w3 n (T5).length c5 les oth soc) (by rw [hT5]) rfl rfl ?_
      have l5 : T5.length = T4.length + 1 := by rw [hT5]; simp
      refine kw_aload_n X dc_T_putString_67 rfl rfl ?_
      refine kw_aload_n X dc_T_putString_68 rfl rfl ?_
      refine kw_get X (wc_T _) 0 rfl rfl 0 (by decide) (gq wd_104) (fun _ h => h) rfl dc_T_putString_69 ?_
      refine kw_iload_n X dc_T_putString_72 rfl rfl ?_
      refine kw_callVI X kEw hE 0 rfl rfl (ct_other w0 w1 w2 w3 n les oth soc i (by omega)) (cw_V 1 X wd_246 wd_206 wd_207 wd_2 wd_208 rfl rfl (by decide +kernel) ⟨Nat.le_of_ble_eq_true rfl, Nat.le_of_ble_eq_true rfl⟩) [2, 3, 4, 5] rfl (by decide) (fun _ _ h => by obtain ⟨rfl, _⟩ := h; exact Nat.le_refl _) rfl rfl (Nat.le_of_ble_eq_true rfl) dc_T_putString_73 ⟨Nat.zero_le _, Nat.zero_le _⟩ (fun r w hp => ?_)
      obtain ⟨rfl, rfl⟩ := hp
      refine kw_cv (ws' := wTxt kI kC t0 t1 w0 w1 w2 w3 n (T5).length c5 les oth soc) rfl rfl rfl ?_
      refine kw_top (y := nI (hi i)) (e2.trans (og_lt h49)) ?_
      refine kw_callVV X kEw hE 0 rfl rfl (ct_putDigit t0 t1 w0 w1 w2 w3 n T5 c5 les oth soc x5 (by omega) (hi i) (by omega)) (cw_V 1 X wd_237 wd_239 wp_3 wd_7 wd_240 rfl rfl (by decide +kernel) ⟨Nat.le_of_ble_eq_true rfl, Nat.le_of_ble_eq_true rfl⟩) [0, 1, 2, 3, 4, 5] rfl (by decide) (fun _ h => by obtain ⟨g, rfl, _⟩ := h; exact Nat.le_refl _) rfl rfl (Nat.le_of_ble_eq_true rfl) dc_T_putString_76 ⟨Nat.zero_le _, Nat.zero_le _⟩ (fun w hp => ?_)
      obtain ⟨c6, rfl, x6⟩ := hp
      refine kw_cv (ws' := wTxt kI kC t0 t1 w0 w1 w2 w3 n (T5 ++ [48 + hi i]).length c6 les oth soc) rfl rfl rfl ?_
      obtain ⟨T6, hT6⟩ : ∃ z, z = T5 ++ [48 + hi i] := ⟨_, rfl⟩
      rw [← hT6] at x6
      refine kw_cv (ws' := wTxt kI kC t0 t1 w0 w1 w2 w3 n (T6).length c6 les oth soc) (by rw [hT6]) rfl rfl ?_
      have l6 : T6.length = T5.length + 1 := by rw [hT6]; simp
      refine kw_aload_n X dc_T_putString_79 rfl rfl ?_
      refine kw_bipush (v := (nI 59)) X dc_T_putString_80 (by decide) ?_
      refine kw_callVV X kEw hE 0 rfl rfl (ct_put t0 t1 w0 w1 w2 w3 n T6 c6 les oth soc x6 (by omega) (59) (by omega)) (cw_V 1 X wd_241 wd_243 wp_4 wd_7 wd_244 rfl rfl (by decide +kernel) ⟨Nat.le_of_ble_eq_true rfl, Nat.le_of_ble_eq_true rfl⟩) [0, 1, 2, 3, 4, 5] rfl (by decide) (fun _ h => by obtain ⟨g, rfl, _⟩ := h; exact Nat.le_refl _) rfl rfl (Nat.le_of_ble_eq_true rfl) dc_T_putString_82 ⟨Nat.zero_le _, Nat.zero_le _⟩ (fun w hp => ?_)
      obtain ⟨c7, rfl, x7⟩ := hp
      refine kw_cv (ws' := wTxt kI kC t0 t1 w0 w1 w2 w3 n (T6 ++ [59]).length c7 les oth soc) rfl rfl rfl ?_
      obtain ⟨T7, hT7⟩ : ∃ z, z = T6 ++ [59] := ⟨_, rfl⟩
      rw [← hT7] at x7
      refine kw_cv (ws' := wTxt kI kC t0 t1 w0 w1 w2 w3 n (T7).length c7 les oth soc) (by rw [hT7]) rfl rfl ?_
      have l7 : T7.length = T6.length + 1 := by rw [hT7]; simp
      have hfin : T7 = T ++ gm_str lo hi i := by
        unfold gm_str
        first
          | (rw [hT7, hT6, hT5, hT4, hT3, hT2, hT1, if_neg (show ¬ hi i = 8 by omega)]; simp [List.append_assoc])
          | (rw [hT7, hT6, hT4, hT3, hT2, hT1, if_pos h49]; simp [List.append_assoc])
      exact kw_vret X hr hlk dc_T_putString_85 ⟨c7, by rw [hfin], by rw [← hfin]; exact x7⟩
    · have h49 := (og_m1 o2).mp hc49
      refine kw_aload_n X dc_T_putString_52 rfl rfl ?_
      refine kw_bipush (v := (nI 61)) X dc_T_putString_53 (by decide) ?_
      refine kw_callVV X kEw hE 0 rfl rfl (ct_put t0 t1 w0 w1 w2 w3 n T4 c4 les oth soc x4 (by omega) (61) (by omega)) (cw_V 1 X wd_241 wd_243 wp_4 wd_7 wd_244 rfl rfl (by decide +kernel) ⟨Nat.le_of_ble_eq_true rfl, Nat.le_of_ble_eq_true rfl⟩) [0, 1, 2, 3, 4, 5] rfl (by decide) (fun _ h => by obtain ⟨g, rfl, _⟩ := h; exact Nat.le_refl _) rfl rfl (Nat.le_of_ble_eq_true rfl) dc_T_putString_55 ⟨Nat.zero_le _, Nat.zero_le _⟩ (fun w hp => ?_)
      obtain ⟨c6, rfl, x6⟩ := hp
      refine kw_cv (ws' := wTxt kI kC t0 t1 w0 w1 w2 w3 n (T4 ++ [61]).length c6 les oth soc) rfl rfl rfl ?_
      obtain ⟨T6, hT6⟩ : ∃ z, z = T4 ++ [61] := ⟨_, rfl⟩
      rw [← hT6] at x6
      refine kw_cv (ws' := wTxt kI kC t0 t1 w0 w1 w2 w3 n (T6).length c6 les oth soc) (by rw [hT6]) rfl rfl ?_
      have l6 : T6.length = T4.length + 1 := by rw [hT6]; simp
      refine kw_goto (tgt := 79) X dc_T_putString_58 (by decide) ?_
      refine kw_aload_n X dc_T_putString_79 rfl rfl ?_
      refine kw_bipush (v := (nI 59)) X dc_T_putString_80 (by decide) ?_
      refine kw_callVV X kEw hE 0 rfl rfl (ct_put t0 t1 w0 w1 w2 w3 n T6 c6 les oth soc x6 (by omega) (59) (by omega)) (cw_V 1 X wd_241 wd_243 wp_4 wd_7 wd_244 rfl rfl (by decide +kernel) ⟨Nat.le_of_ble_eq_true rfl, Nat.le_of_ble_eq_true rfl⟩) [0, 1, 2, 3, 4, 5] rfl (by decide) (fun _ h => by obtain ⟨g, rfl, _⟩ := h; exact Nat.le_refl _) rfl rfl (Nat.le_of_ble_eq_true rfl) dc_T_putString_82 ⟨Nat.zero_le _, Nat.zero_le _⟩ (fun w hp => ?_)
      obtain ⟨c7, rfl, x7⟩ := hp
      refine kw_cv (ws' := wTxt kI kC t0 t1 w0 w1 w2 w3 n (T6 ++ [59]).length c7 les oth soc) rfl rfl rfl ?_
      obtain ⟨T7, hT7⟩ : ∃ z, z = T6 ++ [59] := ⟨_, rfl⟩
      rw [← hT7] at x7
      refine kw_cv (ws' := wTxt kI kC t0 t1 w0 w1 w2 w3 n (T7).length c7 les oth soc) (by rw [hT7]) rfl rfl ?_
      have l7 : T7.length = T6.length + 1 := by rw [hT7]; simp
      have hfin : T7 = T ++ gm_str lo hi i := by
        unfold gm_str
        first
          | (rw [hT7, hT6, hT5, hT4, hT3, hT2, hT1, if_neg (show ¬ hi i = 8 by omega)]; simp [List.append_assoc])
          | (rw [hT7, hT6, hT4, hT3, hT2, hT1, if_pos h49]; simp [List.append_assoc])
      exact kw_vret X hr hlk dc_T_putString_85 ⟨c7, by rw [hfin], by rw [← hfin]; exact x7⟩
set_option maxRecDepth 100000 in
set_option maxHeartbeats 4000000 in
theorem ct_write {l : Launch} {D : va_G} {kI kB kC kL : ClassId} (t0 t1 w0 w1 w2 w3 n : Nat) (T : List Nat) (ch les oth soc : Nat → Int32) (lo hi : Nat → Nat) (ok : webOk lo hi n les oth soc) (p : Nat) (hp : p < 4096) : kw_V l mn_T_write (gw mn_T_write cd_T_write 3 none) ({ frames := 3, cells := 0, slots := 0, locals := 63 } : Room) D cl_v (kt kI kB kC kL) kE [.ref t0, .int (nI p)] (wTxt kI kC t0 t1 w0 w1 w2 w3 n (T).length ch les oth soc) (fun w => ∃ c2 : Nat → Int32, w = wTxt kI kC t0 t1 w0 w1 w2 w3 n (gm_txt lo hi p n).length c2 les oth soc ∧ txOk (gm_txt lo hi p n) c2) 0 0 := by
  refine kw_ofV (cc := cd_T_write) (maxL := 3) (by decide) rfl (Nat.le_of_ble_eq_true rfl) rfl ?_
  intro pp ee s m args below meth c A X hr hlk hE hnm
  have hn := ok.1.1
  refine kw_aload_n X dc_T_write_0 rfl rfl ?_
  refine kw_iconst (v := (nI 0)) X dc_T_write_1 (by decide) ?_
  refine kw_putf (ty := .int) X (wc_T _) fy_T fk_T fn_T 0 rfl rfl 2 (by decide) (gq wd_106) (fun _ h => h) rfl (by decide +kernel) rfl rfl (Nat.le_of_ble_eq_true rfl) dc_T_write_2 ?_
  refine kw_iconst (v := (nI 0)) X dc_T_write_5 (by decide) ?_
  refine kw_istore_n X dc_T_write_6 rfl (by decide) ?_
  refine kw_loop (α := Nat × (Nat → Int32)) (fun a => a.1 ≤ n ∧ txOk (gm_txt lo hi p a.1) a.2) (fun a => n - a.1) (fun a => wTxt kI kC t0 t1 w0 w1 w2 w3 n (gm_txt lo hi p a.1).length a.2 les oth soc) (fun a => [some (.ref t0), some (.int (nI p)), some (.int (nI a.1))]) (fun _ => []) (0, ch) ⟨Nat.zero_le _, Nat.zero_le _, fun j y h => by cases h⟩ (fun a hI ih => ?_)
  obtain ⟨k, cb⟩ := a
  obtain ⟨hk, hx⟩ := hI
  refine kw_cv (ws' := wTxt kI kC t0 t1 w0 w1 w2 w3 n (gm_txt lo hi p k).length cb les oth soc) rfl rfl rfl ?_
  refine kw_iload_n X dc_T_write_7 rfl rfl ?_
  refine kw_aload_n X dc_T_write_8 rfl rfl ?_
  refine kw_get X (wc_T _) 0 rfl rfl 0 (by decide) (gq wd_104) (fun _ h => h) rfl dc_T_write_9 ?_
  refine kw_callVI X kEw hE 0 rfl rfl (ct_size w0 w1 w2 w3 n les oth soc) (cw_V 0 X wd_231 wd_191 wd_192 wd_2 wd_193 rfl rfl (by decide +kernel) ⟨Nat.le_of_ble_eq_true rfl, Nat.le_of_ble_eq_true rfl⟩) [2, 3, 4, 5] rfl (by decide) (fun _ _ h => by obtain ⟨rfl, _⟩ := h; exact Nat.le_refl _) rfl rfl (Nat.le_of_ble_eq_true rfl) dc_T_write_12 ⟨Nat.zero_le _, Nat.zero_le _⟩ (fun r w hp => ?_)
  obtain ⟨rfl, rfl⟩ := hp
  refine kw_cv (ws' := wTxt kI kC t0 t1 w0 w1 w2 w3 n (gm_txt lo hi p k).length cb les oth soc) rfl rfl rfl ?_
  refine kw_icmp_ge (tgt := 37) X dc_T_write_15 (by decide) (fun hc15 => ?_) (fun hc15 => ?_)
  · have ek : k = n := Nat.le_antisymm hk (kq_le hc15)
    have eT : gm_txt lo hi p n = gm_txt lo hi p k := by rw [ek]
    exact kw_vret X hr hlk dc_T_write_37 ⟨cb, by rw [eT], by rw [eT]; exact hx⟩
  · have hkn : k < n := kq_nle hc15
    have hl7 := gm_txt_le lo hi p k
    refine kw_iload_n X dc_T_write_18 rfl rfl ?_
    refine kw_iload_n X dc_T_write_19 rfl rfl ?_
    refine kw_callSNI X kEw hE (ct_hasN p k (by omega) (by omega)) (cw_SN (host := "CoinStrings") 2 X (hE _ (by decide +kernel)) wd_195 wd_1 wd_196 rfl rfl (by decide +kernel) ⟨Nat.le_of_ble_eq_true rfl, Nat.le_of_ble_eq_true rfl⟩) [] rfl (by decide) (fun _ _ _ => Nat.zero_le _) rfl rfl (Nat.le_of_ble_eq_true rfl) dc_T_write_20 ⟨Nat.zero_le _, Nat.zero_le _⟩ (fun r w hp => ?_)
    obtain ⟨rfl, rfl⟩ := hp
    refine kw_cv (ws' := wTxt kI kC t0 t1 w0 w1 w2 w3 n (gm_txt lo hi p k).length cb les oth soc) rfl rfl rfl ?_
    refine kw_if_eq (tgt := 31) X dc_T_write_23 (by decide) (fun hc23 => ?_) (fun hc23 => ?_)
    · have h23 := kq_z0 hc23
      have e9 : gm_txt lo hi p (k + 1) = gm_txt lo hi p k := if_neg h23
      have hx3 : txOk (gm_txt lo hi p (k + 1)) cb := by
        rw [e9]
        exact hx
      refine kw_cv (ws' := wTxt kI kC t0 t1 w0 w1 w2 w3 n (gm_txt lo hi p (k + 1)).length cb les oth soc) (by rw [e9]) rfl rfl ?_
      refine kw_iinc (v := nI (k + 1)) X dc_T_write_31 rfl (kq_inc k) (by decide) ?_
      refine kw_goto (tgt := 7) X dc_T_write_34 (by decide) ?_
      first | exact ih (k + 1, c2) ⟨hkn, hx2⟩ (by show n - (k + 1) < n - k; omega) | exact ih (k + 1, cb) ⟨hkn, hx3⟩ (by show n - (k + 1) < n - k; omega)
    · have h23 := kq_z1 hc23
      refine kw_aload_n X dc_T_write_26 rfl rfl ?_
      refine kw_iload_n X dc_T_write_27 rfl rfl ?_
      refine kw_callVV X kEw hE 0 rfl rfl (ct_putString t0 t1 w0 w1 w2 w3 n (gm_txt lo hi p k) cb les oth soc lo hi ok hx (by omega) k hkn) (cw_V 1 X wd_233 wd_235 wp_2 wd_7 wd_236 rfl rfl (by decide +kernel) ⟨Nat.le_of_ble_eq_true rfl, Nat.le_of_ble_eq_true rfl⟩) [0, 1, 2, 3, 4, 5] rfl (by decide) (fun _ h => by obtain ⟨g, rfl, _⟩ := h; exact Nat.le_refl _) rfl rfl (Nat.le_of_ble_eq_true rfl) dc_T_write_28 ⟨Nat.zero_le _, Nat.zero_le _⟩ (fun w hp => ?_)
      obtain ⟨c2, rfl, hx1⟩ := hp
      refine kw_cv (ws' := wTxt kI kC t0 t1 w0 w1 w2 w3 n (gm_txt lo hi p k ++ gm_str lo hi k).length c2 les oth soc) rfl rfl rfl ?_
      have e9 : gm_txt lo hi p (k + 1) = gm_txt lo hi p k ++ gm_str lo hi k := if_pos h23
      have hx2 : txOk (gm_txt lo hi p (k + 1)) c2 := by
        rw [e9]
        exact hx1
      refine kw_cv (ws' := wTxt kI kC t0 t1 w0 w1 w2 w3 n (gm_txt lo hi p (k + 1)).length c2 les oth soc) (by rw [e9]) rfl rfl ?_
      refine kw_iinc (v := nI (k + 1)) X dc_T_write_31 rfl (kq_inc k) (by decide) ?_
      refine kw_goto (tgt := 7) X dc_T_write_34 (by decide) ?_
      first | exact ih (k + 1, c2) ⟨hkn, hx2⟩ (by show n - (k + 1) < n - k; omega) | exact ih (k + 1, cb) ⟨hkn, hx3⟩ (by show n - (k + 1) < n - k; omega)
