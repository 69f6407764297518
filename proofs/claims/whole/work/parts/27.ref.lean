set_option maxRecDepth 100000 in
set_option maxHeartbeats 4000000 in
theorem ct_Rwrite {l : Launch} {D : va_G} {kI kB kC kL : ClassId} (rd : Nat → Nat) (th n : Nat) (one two own : Nat → Int32) (bg : Bool) (lf tu : Nat) (tk : Nat → Int32) (cu : Nat) (co tO t0 t1 : Nat → Int32) (sv : Bool) (mg nm : Nat → Int32) (gc : Nat) (go tx : Nat → Int32) (T : List Nat) (hx : txOk T tx) (hl : T.length < 84) (x : Nat) : kw_V l mn_R_write (gw mn_R_write cd_R_write 2 none) ({ frames := 0, cells := 0, slots := 0, locals := 0 } : Room) D cl_v (kt kI kB kC kL) kE [.ref (rd 0), .int (nI x)] (wRF kI rd th n one two own bg lf tu tk cu co tO t0 t1 sv mg nm gc go tx T.length) (fun w => ∃ c2 : Nat → Int32, w = wRF kI rd th n one two own bg lf tu tk cu co tO t0 t1 sv mg nm gc go c2 (T ++ [x]).length ∧ txOk (T ++ [x]) c2) 0 0 := by
  refine kw_ofV (cc := cd_R_write) (maxL := 2) (by decide) rfl (Nat.le_of_ble_eq_true rfl) rfl ?_
  intro pp ee s m args below meth c A X hr hlk hE hnm
  refine kw_aload_n X dc_R_write_0 rfl rfl ?_
  refine kw_get X (wc_R _) 0 rfl rfl 19 (by decide) (gq wd_616) (fun _ h => h) rfl dc_R_write_1 ?_
  refine kw_aload_n X dc_R_write_4 rfl rfl ?_
  refine kw_get X (wc_R _) 0 rfl rfl 20 (by decide) (gq wd_617) (fun _ h => h) rfl dc_R_write_5 ?_
  refine kw_iload_n X dc_R_write_8 rfl rfl ?_
  refine kw_iast X 12 0 rfl rfl (kq_in (by omega) (by omega)) dc_R_write_9 ?_
  refine kw_aload_n X dc_R_write_10 rfl rfl ?_
  refine kw_dup X dc_R_write_11 rfl ?_
  refine kw_get X (wc_R _) 0 rfl rfl 20 (by decide) (gq wd_617) (fun _ h => h) rfl dc_R_write_12 ?_
  refine kw_iconst (v := (nI 1)) X dc_R_write_15 (by decide) ?_
  refine kw_iadd (v := nI (T ++ [x]).length) X dc_R_write_16 (by rw [List.length_append]; exact nI_1 _) ?_
  refine kw_putf (ty := .int) X (wc_R _) fy_R fk_R fn_R 0 rfl rfl 20 (by decide) (gq wd_617) (fun _ h => h) rfl (by decide +kernel) rfl rfl (Nat.le_of_ble_eq_true rfl) dc_R_write_17 ?_
  exact kw_vret X hr hlk dc_R_write_20 ⟨upd tx T.length (nI x), by rw [kq_cl (by omega)]; rfl, txOk_put hx hl⟩
set_option maxRecDepth 100000 in
set_option maxHeartbeats 4000000 in
theorem ct_Rshow {l : Launch} {D : va_G} {kI kB kC kL : ClassId} (rd : Nat → Nat) (th n : Nat) (one two own : Nat → Int32) (bg : Bool) (lf tu : Nat) (tk : Nat → Int32) (cu : Nat) (co tO t0 t1 : Nat → Int32) (sv : Bool) (mg nm : Nat → Int32) (gc : Nat) (go tx : Nat → Int32) (len : Nat) (lo hi : Nat → Nat) (ok : rfOk lo hi n one two own) (hp : lf < 2 ^ n) : kw_I l mn_R_show (gw mn_R_show cd_R_show 2 (some .int)) ({ frames := 1, cells := 0, slots := 0, locals := 21 } : Room) D cl_v (kt kI kB kC kL) kE [.ref (rd 0)] (wRF kI rd th n one two own bg lf tu tk cu co tO t0 t1 sv mg nm gc go tx len) (fun r w => r = nI (gm_txt lo hi lf n).length ∧ ∃ c2 : Nat → Int32, w = wRF kI rd 0 n one two own bg lf tu tk cu co tO t0 t1 sv mg nm gc go c2 (gm_txt lo hi lf n).length ∧ txOk (gm_txt lo hi lf n) c2) 0 0 := by
  refine kw_ofI (cc := cd_R_show) (maxL := 2) (ty := .int) (by decide) rfl (Nat.le_of_ble_eq_true rfl) rfl ?_
  intro pp ee s m args below meth c A X hr hlk hE hnm
  have hn := ok.1.1
  have hp4 := kq_2n hn hp
  refine kw_aload_n X dc_R_show_0 rfl rfl ?_
  refine kw_iconst (v := (nI 0)) X dc_R_show_1 (by decide) ?_
  refine kw_putf (ty := .int) X (wc_R _) fy_R fk_R fn_R 0 rfl rfl 0 (by decide) (gq wd_597) (fun _ h => h) rfl (by decide +kernel) rfl rfl (Nat.le_of_ble_eq_true rfl) dc_R_show_2 ?_
  refine kw_aload_n X dc_R_show_5 rfl rfl ?_
  refine kw_iconst (v := (nI 0)) X dc_R_show_6 (by decide) ?_
  refine kw_putf (ty := .int) X (wc_R _) fy_R fk_R fn_R 0 rfl rfl 20 (by decide) (gq wd_617) (fun _ h => h) rfl (by decide +kernel) rfl rfl (Nat.le_of_ble_eq_true rfl) dc_R_show_7 ?_
  refine kw_iconst (v := (nI 0)) X dc_R_show_10 (by decide) ?_
  refine kw_istore_n X dc_R_show_11 rfl (by decide) ?_
  refine kw_loop (α := Nat × (Nat → Int32)) (fun a => a.1 ≤ n ∧ txOk (gm_txt lo hi lf a.1) a.2) (fun a => n - a.1) (fun a => wRF kI rd 0 n one two own bg lf tu tk cu co tO t0 t1 sv mg nm gc go a.2 (gm_txt lo hi lf a.1).length) (fun a => [some (.ref (rd 0)), some (.int (nI a.1))]) (fun _ => []) (0, tx) ⟨Nat.zero_le _, Nat.zero_le _, fun j y h => by cases h⟩ (fun a hI ih => ?_)
  obtain ⟨k, cb⟩ := a
  obtain ⟨hk, hx⟩ := hI
  have hk : k ≤ n := hk
  refine kw_cv (ws' := wRF kI rd 0 n one two own bg lf tu tk cu co tO t0 t1 sv mg nm gc go cb (gm_txt lo hi lf k).length) (lv' := [some (.ref (rd 0)), some (.int (nI k))]) rfl rfl rfl ?_
  refine kw_iload_n X dc_R_show_12 rfl rfl ?_
  refine kw_aload_n X dc_R_show_13 rfl rfl ?_
  refine kw_get X (wc_R _) 0 rfl rfl 1 (by decide) (gq wd_598) (fun _ h => h) rfl dc_R_show_14 ?_
  refine kw_icmp_ge (tgt := 185) X dc_R_show_17 (by decide) (fun hc17 => ?_) (fun hc17 => ?_)
  · refine kw_aload_n X dc_R_show_185 rfl rfl ?_
    refine kw_get X (wc_R _) 0 rfl rfl 20 (by decide) (gq wd_617) (fun _ h => h) rfl dc_R_show_186 ?_
    have ek : k = n := Nat.le_antisymm hk (kq_le hc17)
    have eT : gm_txt lo hi lf n = gm_txt lo hi lf k := by rw [ek]
    exact kw_iret X hr hlk dc_R_show_189 ⟨by rw [eT], cb, by rw [eT], by rw [eT]; exact hx⟩
  · have hkn : k < n := kq_nle hc17
    have hl7 := gm_txt_le lo hi lf k
    refine kw_aload_n X dc_R_show_20 rfl rfl ?_
    refine kw_get X (wc_R _) 0 rfl rfl 6 (by decide) (gq wd_603) (fun _ h => h) rfl dc_R_show_21 ?_
    refine kw_iload_n X dc_R_show_24 rfl rfl ?_
    refine kw_ishr X dc_R_show_25 rfl ?_
    refine kw_iconst (v := (nI 1)) X dc_R_show_26 (by decide) ?_
    refine kw_iand X dc_R_show_27 rfl ?_
    refine kw_iconst (v := (nI 1)) X dc_R_show_28 (by decide) ?_
    refine kw_icmp_ne (tgt := 179) X dc_R_show_29 (by decide) (fun hc29 => ?_) (fun hc29 => ?_)
    · have h29 : ¬ lf.testBit k = true := fun z => hc29 ((kq_has (by omega) (by omega)).mpr z)
      have e9 : gm_txt lo hi lf (k + 1) = gm_txt lo hi lf k := if_neg h29
      have hx3 : txOk (gm_txt lo hi lf (k + 1)) cb := by
        rw [e9]
        exact hx
      refine kw_cv (ws' := wRF kI rd 0 n one two own bg lf tu tk cu co tO t0 t1 sv mg nm gc go cb (gm_txt lo hi lf (k + 1)).length) (by rw [e9]) rfl rfl ?_
      refine kw_iinc (v := nI (k + 1)) X dc_R_show_179 rfl (kq_inc k) (by decide) ?_
      refine kw_goto (tgt := 12) X dc_R_show_182 (by decide) ?_
      first | exact ih (k + 1, c7) ⟨hkn, hx7⟩ (by show n - (k + 1) < n - k; omega) | exact ih (k + 1, cb) ⟨hkn, hx3⟩ (by show n - (k + 1) < n - k; omega)
    · have h29 := (kq_has (by omega) (by omega)).mp hc29
      obtain ⟨x, y, hx8, hy, hxy, e1, e2, e3, e4⟩ := ok.2.1 k hkn
      obtain ⟨T0, hT0⟩ : ∃ z, z = gm_txt lo hi lf k := ⟨_, rfl⟩
      rw [← hT0] at hx hl7
      refine kw_cv (ws' := wRF kI rd 0 n one two own bg lf tu tk cu co tO t0 t1 sv mg nm gc go cb (T0).length) (by rw [hT0]) rfl rfl ?_
      refine kw_jn (α := Nat → Int32) (fun a => txOk (T0 ++ (if 9 < k then [49] else [])) a) (fun a => wRF kI rd 0 n one two own bg lf tu tk cu co tO t0 t1 sv mg nm gc go a (T0 ++ (if 9 < k then [49] else [])).length) (fun _ => [some (.ref (rd 0)), some (.int (nI k))]) (fun _ => []) 44 (fun c1 x1 => ?_) (fun jn1 => ?_)
      · obtain ⟨T1, hT1⟩ : ∃ z, z = T0 ++ (if 9 < k then [49] else []) := ⟨_, rfl⟩
        rw [← hT1] at x1
        refine kw_cv (ws' := wRF kI rd 0 n one two own bg lf tu tk cu co tO t0 t1 sv mg nm gc go c1 (T1).length) (by rw [hT1]) rfl rfl ?_
        have l1 : T1.length ≤ T0.length + 1 := by rw [hT1, List.length_append]; split <;> simp
        refine kw_aload_n X dc_R_show_44 rfl rfl ?_
        refine kw_bipush (v := (nI 48)) X dc_R_show_45 (by decide) ?_
        refine kw_iload_n X dc_R_show_47 rfl rfl ?_
        refine kw_bipush (v := (nI 10)) X dc_R_show_48 (by decide) ?_
        refine kw_irem (v := nI (k % 10)) X dc_R_show_50 (by decide) (pk_rem (d := 10) (by omega) (by omega) (by omega)) ?_
        refine kw_iadd (v := nI (48 + k % 10)) X dc_R_show_51 (nI_add 48 _) ?_
        refine kw_callVV X kEw hE 0 rfl rfl (ct_Rwrite rd 0 n one two own bg lf tu tk cu co tO t0 t1 sv mg nm gc go c1 T1 x1 (by omega) (48 + k % 10)) (cw_V 1 X wd_792 wd_794 wp_23 wd_8 wd_795 rfl rfl (by decide +kernel) ⟨Nat.le_of_ble_eq_true rfl, Nat.le_of_ble_eq_true rfl⟩) [0, 1, 2, 3, 4, 5, 6, 7, 8, 9, 10, 11, 12] rfl (by decide) (fun _ h => by obtain ⟨g, rfl, _⟩ := h; exact Nat.le_refl _) rfl rfl (Nat.le_of_ble_eq_true rfl) dc_R_show_52 ⟨Nat.zero_le _, Nat.zero_le _⟩ (fun w hp => ?_)
        obtain ⟨c2, rfl, x2⟩ := hp
        refine kw_cv (ws' := wRF kI rd 0 n one two own bg lf tu tk cu co tO t0 t1 sv mg nm gc go c2 (T1 ++ [48 + k % 10]).length) rfl rfl rfl ?_
        obtain ⟨T2, hT2⟩ : ∃ z, z = T1 ++ [48 + k % 10] := ⟨_, rfl⟩
        rw [← hT2] at x2
        refine kw_cv (ws' := wRF kI rd 0 n one two own bg lf tu tk cu co tO t0 t1 sv mg nm gc go c2 (T2).length) (by rw [hT2]) rfl rfl ?_
        have l2 : T2.length = T1.length + 1 := by rw [hT2]; simp
        refine kw_aload_n X dc_R_show_55 rfl rfl ?_
        refine kw_bipush (v := (nI 58)) X dc_R_show_56 (by decide) ?_
        refine kw_callVV X kEw hE 0 rfl rfl (ct_Rwrite rd 0 n one two own bg lf tu tk cu co tO t0 t1 sv mg nm gc go c2 T2 x2 (by omega) (58)) (cw_V 1 X wd_792 wd_794 wp_23 wd_8 wd_795 rfl rfl (by decide +kernel) ⟨Nat.le_of_ble_eq_true rfl, Nat.le_of_ble_eq_true rfl⟩) [0, 1, 2, 3, 4, 5, 6, 7, 8, 9, 10, 11, 12] rfl (by decide) (fun _ h => by obtain ⟨g, rfl, _⟩ := h; exact Nat.le_refl _) rfl rfl (Nat.le_of_ble_eq_true rfl) dc_R_show_58 ⟨Nat.zero_le _, Nat.zero_le _⟩ (fun w hp => ?_)
        obtain ⟨c3, rfl, x3⟩ := hp
        refine kw_cv (ws' := wRF kI rd 0 n one two own bg lf tu tk cu co tO t0 t1 sv mg nm gc go c3 (T2 ++ [58]).length) rfl rfl rfl ?_
        obtain ⟨T3, hT3⟩ : ∃ z, z = T2 ++ [58] := ⟨_, rfl⟩
        rw [← hT3] at x3
        refine kw_cv (ws' := wRF kI rd 0 n one two own bg lf tu tk cu co tO t0 t1 sv mg nm gc go c3 (T3).length) (by rw [hT3]) rfl rfl ?_
        have l3 : T3.length = T2.length + 1 := by rw [hT3]; simp
        refine kw_aload_n X dc_R_show_61 rfl rfl ?_
        refine kw_bipush (v := (nI 48)) X dc_R_show_62 (by decide) ?_
        refine kw_jn (α := Unit) (fun _ => True) (fun _ => wRF kI rd 0 n one two own bg lf tu tk cu co tO t0 t1 sv mg nm gc go c3 (T3).length) (fun _ => [some (.ref (rd 0)), some (.int (nI k))]) (fun _ => [.int (nI (lo k)), .int (nI 48), .ref (rd 0)]) 103 (fun _ _ => ?_) (fun jn2 => ?_)
        · refine kw_iadd (v := nI (48 + lo k)) X dc_R_show_103 (nI_add 48 _) ?_
          refine kw_callVV X kEw hE 0 rfl rfl (ct_Rwrite rd 0 n one two own bg lf tu tk cu co tO t0 t1 sv mg nm gc go c3 T3 x3 (by omega) (48 + lo k)) (cw_V 1 X wd_792 wd_794 wp_23 wd_8 wd_795 rfl rfl (by decide +kernel) ⟨Nat.le_of_ble_eq_true rfl, Nat.le_of_ble_eq_true rfl⟩) [0, 1, 2, 3, 4, 5, 6, 7, 8, 9, 10, 11, 12] rfl (by decide) (fun _ h => by obtain ⟨g, rfl, _⟩ := h; exact Nat.le_refl _) rfl rfl (Nat.le_of_ble_eq_true rfl) dc_R_show_104 ⟨Nat.zero_le _, Nat.zero_le _⟩ (fun w hp => ?_)
          obtain ⟨c4, rfl, x4⟩ := hp
          refine kw_cv (ws' := wRF kI rd 0 n one two own bg lf tu tk cu co tO t0 t1 sv mg nm gc go c4 (T3 ++ [48 + lo k]).length) rfl rfl rfl ?_
          obtain ⟨T4, hT4⟩ : ∃ z, z = T3 ++ [48 + lo k] := ⟨_, rfl⟩
          rw [← hT4] at x4
          refine kw_cv (ws' := wRF kI rd 0 n one two own bg lf tu tk cu co tO t0 t1 sv mg nm gc go c4 (T4).length) (by rw [hT4]) rfl rfl ?_
          have l4 : T4.length = T3.length + 1 := by rw [hT4]; simp
          refine kw_jn (α := Nat → Int32) (fun a => txOk (T4 ++ (if hi k = 8 then [61] else [45, 48 + hi k])) a) (fun a => wRF kI rd 0 n one two own bg lf tu tk cu co tO t0 t1 sv mg nm gc go a (T4 ++ (if hi k = 8 then [61] else [45, 48 + hi k])).length) (fun _ => [some (.ref (rd 0)), some (.int (nI k))]) (fun _ => []) 173 (fun c6 x6 => ?_) (fun jn3 => ?_)
          · obtain ⟨T6, hT6⟩ : ∃ z, z = T4 ++ (if hi k = 8 then [61] else [45, 48 + hi k]) := ⟨_, rfl⟩
            rw [← hT6] at x6
            refine kw_cv (ws' := wRF kI rd 0 n one two own bg lf tu tk cu co tO t0 t1 sv mg nm gc go c6 (T6).length) (by rw [hT6]) rfl rfl ?_
            have l6 : T6.length ≤ T4.length + 2 := by rw [hT6, List.length_append]; split <;> simp
            refine kw_aload_n X dc_R_show_173 rfl rfl ?_
            refine kw_bipush (v := (nI 59)) X dc_R_show_174 (by decide) ?_
            refine kw_callVV X kEw hE 0 rfl rfl (ct_Rwrite rd 0 n one two own bg lf tu tk cu co tO t0 t1 sv mg nm gc go c6 T6 x6 (by omega) 59) (cw_V 1 X wd_792 wd_794 wp_23 wd_8 wd_795 rfl rfl (by decide +kernel) ⟨Nat.le_of_ble_eq_true rfl, Nat.le_of_ble_eq_true rfl⟩) [0, 1, 2, 3, 4, 5, 6, 7, 8, 9, 10, 11, 12] rfl (by decide) (fun _ h => by obtain ⟨g, rfl, _⟩ := h; exact Nat.le_refl _) rfl rfl (Nat.le_of_ble_eq_true rfl) dc_R_show_176 ⟨Nat.zero_le _, Nat.zero_le _⟩ (fun w hp => ?_)
            obtain ⟨c7, rfl, x7⟩ := hp
            refine kw_cv (ws' := wRF kI rd 0 n one two own bg lf tu tk cu co tO t0 t1 sv mg nm gc go c7 (T6 ++ [59]).length) rfl rfl rfl ?_
            have e9 : gm_txt lo hi lf (k + 1) = T6 ++ [59] := by
              show (if lf.testBit k = true then gm_txt lo hi lf k ++ gm_str lo hi k else gm_txt lo hi lf k) = _
              rw [if_pos h29, ← hT0, hT6, hT4, hT3, hT2, hT1]
              unfold gm_str
              simp [List.append_assoc]
            have hx7 : txOk (gm_txt lo hi lf (k + 1)) c7 := by
              rw [e9]
              exact x7
            refine kw_cv (ws' := wRF kI rd 0 n one two own bg lf tu tk cu co tO t0 t1 sv mg nm gc go c7 (gm_txt lo hi lf (k + 1)).length) (by rw [e9]) rfl rfl ?_
            refine kw_iinc (v := nI (k + 1)) X dc_R_show_179 rfl (kq_inc k) (by decide) ?_
            refine kw_goto (tgt := 12) X dc_R_show_182 (by decide) ?_
            first | exact ih (k + 1, c7) ⟨hkn, hx7⟩ (by show n - (k + 1) < n - k; omega) | exact ih (k + 1, cb) ⟨hkn, hx3⟩ (by show n - (k + 1) < n - k; omega)
          · refine kw_aload_n X dc_R_show_107 rfl rfl ?_
            refine kw_aload_n X dc_R_show_108 rfl rfl ?_
            refine kw_get X (wc_R _) 0 rfl rfl 3 (by decide) (gq wd_600) (fun _ h => h) rfl dc_R_show_109 ?_
            refine kw_iload_n X dc_R_show_112 rfl rfl ?_
            refine kw_iald (v := og y) X 2 0 rfl rfl (kq_in (by omega) (by omega)) (by rw [kq_cl (by omega)]; exact e2) dc_R_show_113 ?_
            refine kw_if_ge (tgt := 122) X dc_R_show_114 (by decide) (fun hc114 => ?_) (fun hc114 => ?_)
            · have hy8 : y < 8 := (og_nn hy).mp hc114
              refine kw_bipush (v := (nI 45)) X dc_R_show_122 (by decide) ?_
              refine kw_callVV X kEw hE 0 rfl rfl (ct_Rwrite rd 0 n one two own bg lf tu tk cu co tO t0 t1 sv mg nm gc go c4 T4 x4 (by omega) (45)) (cw_V 1 X wd_792 wd_794 wp_23 wd_8 wd_795 rfl rfl (by decide +kernel) ⟨Nat.le_of_ble_eq_true rfl, Nat.le_of_ble_eq_true rfl⟩) [0, 1, 2, 3, 4, 5, 6, 7, 8, 9, 10, 11, 12] rfl (by decide) (fun _ h => by obtain ⟨g, rfl, _⟩ := h; exact Nat.le_refl _) rfl rfl (Nat.le_of_ble_eq_true rfl) dc_R_show_124 ⟨Nat.zero_le _, Nat.zero_le _⟩ (fun w hp => ?_)
              obtain ⟨c5b, rfl, x5b⟩ := hp
              refine kw_cv (ws' := wRF kI rd 0 n one two own bg lf tu tk cu co tO t0 t1 sv mg nm gc go c5b (T4 ++ [45]).length) rfl rfl rfl ?_
              obtain ⟨T5b, hT5b⟩ : ∃ z, z = T4 ++ [45] := ⟨_, rfl⟩
              rw [← hT5b] at x5b
              refine kw_cv (ws' := wRF kI rd 0 n one two own bg lf tu tk cu co tO t0 t1 sv mg nm gc go c5b (T5b).length) (by rw [hT5b]) rfl rfl ?_
              have l5b : T5b.length = T4.length + 1 := by rw [hT5b]; simp
              refine kw_aload_n X dc_R_show_127 rfl rfl ?_
              refine kw_get X (wc_R _) 0 rfl rfl 3 (by decide) (gq wd_600) (fun _ h => h) rfl dc_R_show_128 ?_
              refine kw_iload_n X dc_R_show_131 rfl rfl ?_
              refine kw_iald (v := og y) X 2 0 rfl rfl (kq_in (by omega) (by omega)) (by rw [kq_cl (by omega)]; exact e2) dc_R_show_132 ?_
              refine kw_if_lt (tgt := 173) X dc_R_show_133 (by decide) (fun hc133 => ?_) (fun hc133 => ?_)
              · exact absurd ((og_neg hy).mp hc133) (by omega)
              · refine kw_aload_n X dc_R_show_136 rfl rfl ?_
                refine kw_bipush (v := (nI 48)) X dc_R_show_137 (by decide) ?_
                refine kw_jn (α := Unit) (fun _ => True) (fun _ => wRF kI rd 0 n one two own bg lf tu tk cu co tO t0 t1 sv mg nm gc go c5b (T5b).length) (fun _ => [some (.ref (rd 0)), some (.int (nI k))]) (fun _ => [.int (nI (hi k)), .int (nI 48), .ref (rd 0)]) 169 (fun _ _ => ?_) (fun jn4 => ?_)
                · refine kw_iadd (v := nI (48 + hi k)) X dc_R_show_169 (nI_add 48 _) ?_
                  refine kw_callVV X kEw hE 0 rfl rfl (ct_Rwrite rd 0 n one two own bg lf tu tk cu co tO t0 t1 sv mg nm gc go c5b T5b x5b (by omega) (48 + hi k)) (cw_V 1 X wd_792 wd_794 wp_23 wd_8 wd_795 rfl rfl (by decide +kernel) ⟨Nat.le_of_ble_eq_true rfl, Nat.le_of_ble_eq_true rfl⟩) [0, 1, 2, 3, 4, 5, 6, 7, 8, 9, 10, 11, 12] rfl (by decide) (fun _ h => by obtain ⟨g, rfl, _⟩ := h; exact Nat.le_refl _) rfl rfl (Nat.le_of_ble_eq_true rfl) dc_R_show_170 ⟨Nat.zero_le _, Nat.zero_le _⟩ (fun w hp => ?_)
                  obtain ⟨c5c, rfl, x5c⟩ := hp
                  refine kw_cv (ws' := wRF kI rd 0 n one two own bg lf tu tk cu co tO t0 t1 sv mg nm gc go c5c (T5b ++ [48 + hi k]).length) rfl rfl rfl ?_
                  obtain ⟨T5c, hT5c⟩ : ∃ z, z = T5b ++ [48 + hi k] := ⟨_, rfl⟩
                  rw [← hT5c] at x5c
                  refine kw_cv (ws' := wRF kI rd 0 n one two own bg lf tu tk cu co tO t0 t1 sv mg nm gc go c5c (T5c).length) (by rw [hT5c]) rfl rfl ?_
                  have l5c : T5c.length = T5b.length + 1 := by rw [hT5c]; simp
                  refine kw_cv (ws' := wRF kI rd 0 n one two own bg lf tu tk cu co tO t0 t1 sv mg nm gc go c5c (T4 ++ (if hi k = 8 then [61] else [45, 48 + hi k])).length) (by rw [if_neg (show ¬ hi k = 8 by omega), hT5c, hT5b, List.append_assoc]; rfl) rfl rfl ?_
                  exact jn3 c5c (by rw [if_neg (show ¬ hi k = 8 by omega)]; rw [hT5c, hT5b, List.append_assoc] at x5c; exact x5c)
                · refine kw_aload_n X dc_R_show_139 rfl rfl ?_
                  refine kw_get X (wc_R _) 0 rfl rfl 3 (by decide) (gq wd_600) (fun _ h => h) rfl dc_R_show_140 ?_
                  refine kw_iload_n X dc_R_show_143 rfl rfl ?_
                  refine kw_iald (v := nI y) X 2 0 rfl rfl (kq_in (by omega) (by omega)) (by rw [kq_cl (by omega), e2]; exact og_lt hy8) dc_R_show_144 ?_
                  refine kw_aload_n X dc_R_show_145 rfl rfl ?_
                  refine kw_get X (wc_R _) 0 rfl rfl 2 (by decide) (gq wd_599) (fun _ h => h) rfl dc_R_show_146 ?_
                  refine kw_iload_n X dc_R_show_149 rfl rfl ?_
                  refine kw_iald (v := nI x) X 1 0 rfl rfl (kq_in (by omega) (by omega)) (by rw [kq_cl (by omega)]; exact e1) dc_R_show_150 ?_
                  refine kw_icmp_ge (tgt := 163) X dc_R_show_151 (by decide) (fun hc151 => ?_) (fun hc151 => ?_)
                  · have hhi : y = hi k := by have := kq_le hc151; omega
                    refine kw_aload_n X dc_R_show_163 rfl rfl ?_
                    refine kw_get X (wc_R _) 0 rfl rfl 3 (by decide) (gq wd_600) (fun _ h => h) rfl dc_R_show_164 ?_
                    refine kw_iload_n X dc_R_show_167 rfl rfl ?_
                    refine kw_iald (v := nI y) X 2 0 rfl rfl (kq_in (by omega) (by omega)) (by rw [kq_cl (by omega), e2]; exact og_lt hy8) dc_R_show_168 ?_
                    refine kw_top (y := nI (hi k)) (congrArg nI hhi) ?_
                    exact jn4 () trivial
                  · have hhi : x = hi k := by have := kq_nle hc151; omega
                    refine kw_aload_n X dc_R_show_154 rfl rfl ?_
                    refine kw_get X (wc_R _) 0 rfl rfl 2 (by decide) (gq wd_599) (fun _ h => h) rfl dc_R_show_155 ?_
                    refine kw_iload_n X dc_R_show_158 rfl rfl ?_
                    refine kw_iald (v := nI x) X 1 0 rfl rfl (kq_in (by omega) (by omega)) (by rw [kq_cl (by omega)]; exact e1) dc_R_show_159 ?_
                    refine kw_goto (tgt := 169) X dc_R_show_160 (by decide) ?_
                    refine kw_top (y := nI (hi k)) (congrArg nI hhi) ?_
                    exact jn4 () trivial
            · have h114 : y = 8 := by
                have h8 : ¬ y < 8 := fun z => hc114 ((og_nn hy).mpr z)
                omega
              refine kw_bipush (v := (nI 61)) X dc_R_show_117 (by decide) ?_
              refine kw_goto (tgt := 124) X dc_R_show_119 (by decide) ?_
              refine kw_callVV X kEw hE 0 rfl rfl (ct_Rwrite rd 0 n one two own bg lf tu tk cu co tO t0 t1 sv mg nm gc go c4 T4 x4 (by omega) (61)) (cw_V 1 X wd_792 wd_794 wp_23 wd_8 wd_795 rfl rfl (by decide +kernel) ⟨Nat.le_of_ble_eq_true rfl, Nat.le_of_ble_eq_true rfl⟩) [0, 1, 2, 3, 4, 5, 6, 7, 8, 9, 10, 11, 12] rfl (by decide) (fun _ h => by obtain ⟨g, rfl, _⟩ := h; exact Nat.le_refl _) rfl rfl (Nat.le_of_ble_eq_true rfl) dc_R_show_124 ⟨Nat.zero_le _, Nat.zero_le _⟩ (fun w hp => ?_)
              obtain ⟨c5a, rfl, x5a⟩ := hp
              refine kw_cv (ws' := wRF kI rd 0 n one two own bg lf tu tk cu co tO t0 t1 sv mg nm gc go c5a (T4 ++ [61]).length) rfl rfl rfl ?_
              obtain ⟨T5a, hT5a⟩ : ∃ z, z = T4 ++ [61] := ⟨_, rfl⟩
              rw [← hT5a] at x5a
              refine kw_cv (ws' := wRF kI rd 0 n one two own bg lf tu tk cu co tO t0 t1 sv mg nm gc go c5a (T5a).length) (by rw [hT5a]) rfl rfl ?_
              have l5a : T5a.length = T4.length + 1 := by rw [hT5a]; simp
              refine kw_aload_n X dc_R_show_127 rfl rfl ?_
              refine kw_get X (wc_R _) 0 rfl rfl 3 (by decide) (gq wd_600) (fun _ h => h) rfl dc_R_show_128 ?_
              refine kw_iload_n X dc_R_show_131 rfl rfl ?_
              refine kw_iald (v := og y) X 2 0 rfl rfl (kq_in (by omega) (by omega)) (by rw [kq_cl (by omega)]; exact e2) dc_R_show_132 ?_
              refine kw_if_lt (tgt := 173) X dc_R_show_133 (by decide) (fun hc133 => ?_) (fun hc133 => ?_)
              · refine kw_cv (ws' := wRF kI rd 0 n one two own bg lf tu tk cu co tO t0 t1 sv mg nm gc go c5a (T4 ++ (if hi k = 8 then [61] else [45, 48 + hi k])).length) (by rw [if_pos (show hi k = 8 by omega), ← hT5a]) rfl rfl ?_
                exact jn3 c5a (by rw [if_pos (show hi k = 8 by omega), ← hT5a]; exact x5a)
              · exact absurd ((og_neg hy).mpr h114) hc133
        · refine kw_aload_n X dc_R_show_64 rfl rfl ?_
          refine kw_get X (wc_R _) 0 rfl rfl 3 (by decide) (gq wd_600) (fun _ h => h) rfl dc_R_show_65 ?_
          refine kw_iload_n X dc_R_show_68 rfl rfl ?_
          refine kw_iald (v := og y) X 2 0 rfl rfl (kq_in (by omega) (by omega)) (by rw [kq_cl (by omega)]; exact e2) dc_R_show_69 ?_
          refine kw_if_lt (tgt := 97) X dc_R_show_70 (by decide) (fun hc70 => ?_) (fun hc70 => ?_)
          · have h70 : y = 8 := (og_neg hy).mp hc70
            have hlo : x = lo k := by omega
            refine kw_aload_n X dc_R_show_97 rfl rfl ?_
            refine kw_get X (wc_R _) 0 rfl rfl 2 (by decide) (gq wd_599) (fun _ h => h) rfl dc_R_show_98 ?_
            refine kw_iload_n X dc_R_show_101 rfl rfl ?_
            refine kw_iald (v := nI x) X 1 0 rfl rfl (kq_in (by omega) (by omega)) (by rw [kq_cl (by omega)]; exact e1) dc_R_show_102 ?_
            refine kw_top (y := nI (lo k)) (congrArg nI hlo) ?_
            exact jn2 () trivial
          · have hy8 : y < 8 := by
              have h8 : y ≠ 8 := fun z => hc70 ((og_neg hy).mpr z)
              omega
            refine kw_aload_n X dc_R_show_73 rfl rfl ?_
            refine kw_get X (wc_R _) 0 rfl rfl 3 (by decide) (gq wd_600) (fun _ h => h) rfl dc_R_show_74 ?_
            refine kw_iload_n X dc_R_show_77 rfl rfl ?_
            refine kw_iald (v := nI y) X 2 0 rfl rfl (kq_in (by omega) (by omega)) (by rw [kq_cl (by omega), e2]; exact og_lt hy8) dc_R_show_78 ?_
            refine kw_aload_n X dc_R_show_79 rfl rfl ?_
            refine kw_get X (wc_R _) 0 rfl rfl 2 (by decide) (gq wd_599) (fun _ h => h) rfl dc_R_show_80 ?_
            refine kw_iload_n X dc_R_show_83 rfl rfl ?_
            refine kw_iald (v := nI x) X 1 0 rfl rfl (kq_in (by omega) (by omega)) (by rw [kq_cl (by omega)]; exact e1) dc_R_show_84 ?_
            refine kw_icmp_ge (tgt := 97) X dc_R_show_85 (by decide) (fun hc85 => ?_) (fun hc85 => ?_)
            · have hlo : x = lo k := by have := kq_le hc85; omega
              refine kw_aload_n X dc_R_show_97 rfl rfl ?_
              refine kw_get X (wc_R _) 0 rfl rfl 2 (by decide) (gq wd_599) (fun _ h => h) rfl dc_R_show_98 ?_
              refine kw_iload_n X dc_R_show_101 rfl rfl ?_
              refine kw_iald (v := nI x) X 1 0 rfl rfl (kq_in (by omega) (by omega)) (by rw [kq_cl (by omega)]; exact e1) dc_R_show_102 ?_
              refine kw_top (y := nI (lo k)) (congrArg nI hlo) ?_
              exact jn2 () trivial
            · have hlo : y = lo k := by have := kq_nle hc85; omega
              refine kw_aload_n X dc_R_show_88 rfl rfl ?_
              refine kw_get X (wc_R _) 0 rfl rfl 3 (by decide) (gq wd_600) (fun _ h => h) rfl dc_R_show_89 ?_
              refine kw_iload_n X dc_R_show_92 rfl rfl ?_
              refine kw_iald (v := nI y) X 2 0 rfl rfl (kq_in (by omega) (by omega)) (by rw [kq_cl (by omega), e2]; exact og_lt hy8) dc_R_show_93 ?_
              refine kw_goto (tgt := 103) X dc_R_show_94 (by decide) ?_
              refine kw_top (y := nI (lo k)) (congrArg nI hlo) ?_
              exact jn2 () trivial
      · refine kw_iload_n X dc_R_show_32 rfl rfl ?_
        refine kw_bipush (v := (nI 9)) X dc_R_show_33 (by decide) ?_
        refine kw_icmp_le (tgt := 44) X dc_R_show_35 (by decide) (fun hc35 => ?_) (fun hc35 => ?_)
        · have h35 := kq_le hc35
          refine kw_cv (ws' := wRF kI rd 0 n one two own bg lf tu tk cu co tO t0 t1 sv mg nm gc go cb (T0 ++ (if 9 < k then [49] else [])).length) (by rw [if_neg (show ¬ 9 < k by omega), List.append_nil]) rfl rfl ?_
          exact jn1 cb (by rw [if_neg (show ¬ 9 < k by omega), List.append_nil]; exact hx)
        · have h35 := kq_nle hc35
          refine kw_aload_n X dc_R_show_38 rfl rfl ?_
          refine kw_bipush (v := (nI 49)) X dc_R_show_39 (by decide) ?_
          refine kw_callVV X kEw hE 0 rfl rfl (ct_Rwrite rd 0 n one two own bg lf tu tk cu co tO t0 t1 sv mg nm gc go cb T0 hx (by omega) 49) (cw_V 1 X wd_792 wd_794 wp_23 wd_8 wd_795 rfl rfl (by decide +kernel) ⟨Nat.le_of_ble_eq_true rfl, Nat.le_of_ble_eq_true rfl⟩) [0, 1, 2, 3, 4, 5, 6, 7, 8, 9, 10, 11, 12] rfl (by decide) (fun _ h => by obtain ⟨g, rfl, _⟩ := h; exact Nat.le_refl _) rfl rfl (Nat.le_of_ble_eq_true rfl) dc_R_show_41 ⟨Nat.zero_le _, Nat.zero_le _⟩ (fun w hp => ?_)
          obtain ⟨c9, rfl, x9⟩ := hp
          refine kw_cv (ws' := wRF kI rd 0 n one two own bg lf tu tk cu co tO t0 t1 sv mg nm gc go c9 (T0 ++ [49]).length) rfl rfl rfl ?_
          refine kw_cv (ws' := wRF kI rd 0 n one two own bg lf tu tk cu co tO t0 t1 sv mg nm gc go c9 (T0 ++ (if 9 < k then [49] else [])).length) (by rw [if_pos (show 9 < k by omega)]) rfl rfl ?_
          exact jn1 c9 (by rw [if_pos (show 9 < k by omega)]; exact x9)
theorem ct_Zshow {l : Launch} {D : va_G} {kI kB kC kL : ClassId} (rd : Nat → Nat) (n : Nat) (lo hi : Nat → Nat) (bg : Bool) (cs T : List Nat) (t : Nat) (S : Bool) (w0 : va_W) (h : rfP kI rd n lo hi bg cs T t S w0) : kw_I l mn_R_show (gw mn_R_show cd_R_show 2 (some .int)) ({ frames := 1, cells := 0, slots := 0, locals := 21 } : Room) D cl_v (kt kI kB kC kL) kE [.ref (rd 0)] w0 (fun r w => r = nI (gm_txt lo hi (gm_run lo hi n cs).1 n).length ∧ rfP kI rd n lo hi bg cs (gm_txt lo hi (gm_run lo hi n cs).1 n) 0 S w) 0 0 := by
  obtain ⟨one, two, own, tk, co, tO, t0, t1, sv, mg, nm, gc, go, tx, rfl, zv, zb, zT, ok, ⟨k0, k1⟩, hC, hS, hX⟩ := h
  refine kw_I.mono (ct_Rshow rd t n one two own bg (gm_run lo hi n cs).1 (gm_run lo hi n cs).2.1 tk cs.length co tO t0 t1 sv mg nm gc go tx T.length lo hi ok (gm_run_p cs)) (fun r w hq => ?_)
  obtain ⟨e, c2, rfl, hx2⟩ := hq
  exact ⟨e, one, two, own, tk, co, tO, t0, t1, sv, mg, nm, gc, go, c2, rfl, zv, zb, hx2.1, ok, ⟨k0, k1⟩, hC, hS, hx2⟩
theorem ct_Zgroups {l : Launch} {D : va_G} {kI kB kC kL : ClassId} (rd : Nat → Nat) (n : Nat) (lo hi : Nat → Nat) (bg : Bool) (cs T : List Nat) (t : Nat) (S : Bool) (w0 : va_W) (h : rfP kI rd n lo hi bg cs T t S w0) : kw_I l mn_R_groups (gw mn_R_groups cd_R_groups 1 (some .int)) ({ frames := 3, cells := 0, slots := 0, locals := 68 } : Room) D cl_v (kt kI kB kC kL) kE [.ref (rd 0)] w0 (fun r w => r = nI (gm_rk (gm_L lo hi n (gm_run lo hi n cs).1 n) 8) ∧ rfP kI rd n lo hi bg cs T 0 S w) 0 0 := by
  obtain ⟨one, two, own, tk, co, tO, t0, t1, sv, mg, nm, gc, go, tx, rfl, zv, zb, zT, ok, ⟨k0, k1⟩, hC, hS, hX⟩ := h
  refine kw_I.mono (ct_Rgroups rd t n one two own bg (gm_run lo hi n cs).1 (gm_run lo hi n cs).2.1 tk cs.length co tO t0 t1 sv mg nm gc go tx T.length lo hi ok (gm_run_p cs)) (fun r w hq => ?_)
  obtain ⟨e, g2, rfl⟩ := hq
  exact ⟨e, one, two, own, tk, co, tO, t0, t1, sv, mg, nm, _, g2, tx, rfl, zv, zb, zT, ok, ⟨k0, k1⟩, hC, hS, hX⟩
theorem ct_ZgroupF {l : Launch} {D : va_G} {kI kB kC kL : ClassId} (rd : Nat → Nat) (n : Nat) (lo hi : Nat → Nat) (bg : Bool) (cs T : List Nat) (t : Nat) (S : Bool) (w0 : va_W) (h : rfP kI rd n lo hi bg cs T t S w0) (g : Int32) (hg : ¬ (0 ≤ g ∧ g < nI (gm_rk (gm_L lo hi n (gm_run lo hi n cs).1 n) 8))) : kw_I l mn_R_group (gw mn_R_group cd_R_group 7 (some .int)) ({ frames := 3, cells := 0, slots := 0, locals := 68 } : Room) D cl_v (kt kI kB kC kL) kE [.ref (rd 0), .int g] w0 (fun r w => rfP kI rd n lo hi bg cs T 1 S w) 0 0 := by
  obtain ⟨one, two, own, tk, co, tO, t0, t1, sv, mg, nm, gc, go, tx, rfl, zv, zb, zT, ok, ⟨k0, k1⟩, hC, hS, hX⟩ := h
  refine kw_I.mono (ct_RgroupF rd t n one two own bg (gm_run lo hi n cs).1 (gm_run lo hi n cs).2.1 tk cs.length co tO t0 t1 sv mg nm gc go tx T.length lo hi ok (gm_run_p cs) g hg) (fun r w hq => ?_)
  obtain ⟨g2, rfl⟩ := hq
  exact ⟨one, two, own, tk, co, tO, t0, t1, sv, mg, nm, _, g2, tx, rfl, zv, zb, zT, ok, ⟨k0, k1⟩, hC, hS, hX⟩
theorem ct_ZgroupT {l : Launch} {D : va_G} {kI kB kC kL : ClassId} (rd : Nat → Nat) (n : Nat) (lo hi : Nat → Nat) (bg : Bool) (cs T : List Nat) (t : Nat) (S : Bool) (w0 : va_W) (h : rfP kI rd n lo hi bg cs T t S w0) (g v : Nat) (hv : v < 8) (hvv : (gm_L lo hi n (gm_run lo hi n cs).1 n) v = v) (hg : gm_rk (gm_L lo hi n (gm_run lo hi n cs).1 n) v = g) : kw_I l mn_R_group (gw mn_R_group cd_R_group 7 (some .int)) ({ frames := 3, cells := 0, slots := 0, locals := 68 } : Room) D cl_v (kt kI kB kC kL) kE [.ref (rd 0), .int (nI g)] w0 (fun r w => r = nI (gm_cnt (gm_L lo hi n (gm_run lo hi n cs).1 n) v 8 + (if gm_lp lo hi (gm_run lo hi n cs).1 (gm_L lo hi n (gm_run lo hi n cs).1 n) v n = true then 100 else 0)) ∧ rfP kI rd n lo hi bg cs T 0 S w) 0 0 := by
  obtain ⟨one, two, own, tk, co, tO, t0, t1, sv, mg, nm, gc, go, tx, rfl, zv, zb, zT, ok, ⟨k0, k1⟩, hC, hS, hX⟩ := h
  refine kw_I.mono (ct_RgroupT rd t n one two own bg (gm_run lo hi n cs).1 (gm_run lo hi n cs).2.1 tk cs.length co tO t0 t1 sv mg nm gc go tx T.length lo hi ok (gm_run_p cs) g v hv hvv hg) (fun r w hq => ?_)
  obtain ⟨e, g2, rfl⟩ := hq
  exact ⟨e, one, two, own, tk, co, tO, t0, t1, sv, mg, nm, _, g2, tx, rfl, zv, zb, zT, ok, ⟨k0, k1⟩, hC, hS, hX⟩
set_option maxRecDepth 100000 in
set_option maxHeartbeats 4000000 in
theorem ct_RatT {l : Launch} {D : va_G} {kI kB kC kL : ClassId} (rd : Nat → Nat) (n : Nat) (lo hi : Nat → Nat) (bg : Bool) (cs T : List Nat) (t : Nat) (S : Bool) (w0 : va_W) (h : rfP kI rd n lo hi bg cs T t S w0) (i y : Nat) (hi1 : T[i]? = some y) : kw_I l mn_R_at (gw mn_R_at cd_R_at 2 (some .int)) ({ frames := 0, cells := 0, slots := 0, locals := 0 } : Room) D cl_v (kt kI kB kC kL) kE [.ref (rd 0), .int (nI i)] (w0) (fun r w => r = nI y ∧ rfP kI rd n lo hi bg cs T 0 S w) 0 0 := by
  obtain ⟨one, two, own, tk, co, tO, t0, t1, sv, mg, nm, gc, go, tx, rfl, zv, zb, zT, ok, ⟨k0, k1⟩, hC, hS, hX⟩ := h
  refine kw_ofI (cc := cd_R_at) (maxL := 2) (ty := .int) (by decide) rfl (Nat.le_of_ble_eq_true rfl) rfl ?_
  intro pp ee s m args below meth c A X hr hlk hE hnm
  have hil : i < T.length := (List.getElem?_eq_some_iff.mp hi1).1
  refine kw_aload_n X dc_R_at_0 rfl rfl ?_
  refine kw_iload_n X dc_R_at_1 rfl rfl ?_
  refine kw_if_lt (tgt := 13) X dc_R_at_2 (by decide) (fun hc2 => ?_) (fun hc2 => ?_)
  · exact absurd hc2 (Int32.not_lt.mpr (nI_nn (by omega)))
  · refine kw_iload_n X dc_R_at_5 rfl rfl ?_
    refine kw_aload_n X dc_R_at_6 rfl rfl ?_
    refine kw_get X (wc_R _) 0 rfl rfl 20 (by decide) (gq wd_617) (fun _ h => h) rfl dc_R_at_7 ?_
    refine kw_icmp_lt (tgt := 17) X dc_R_at_10 (by decide) (fun hc10 => ?_) (fun hc10 => ?_)
    · refine kw_iconst (v := (nI 0)) X dc_R_at_17 (by decide) ?_
      refine kw_putf (ty := .int) X (wc_R _) fy_R fk_R fn_R 0 rfl rfl 0 (by decide) (gq wd_597) (fun _ h => h) rfl (by decide +kernel) rfl rfl (Nat.le_of_ble_eq_true rfl) dc_R_at_18 ?_
      refine kw_aload_n X dc_R_at_21 rfl rfl ?_
      refine kw_get X (wc_R _) 0 rfl rfl 0 (by decide) (gq wd_597) (fun _ h => h) rfl dc_R_at_22 ?_
      refine kw_if_le (tgt := 32) X dc_R_at_25 (by decide) (fun hc25 => ?_) (fun hc25 => ?_)
      · refine kw_aload_n X dc_R_at_32 rfl rfl ?_
        refine kw_get X (wc_R _) 0 rfl rfl 19 (by decide) (gq wd_616) (fun _ h => h) rfl dc_R_at_33 ?_
        refine kw_iload_n X dc_R_at_36 rfl rfl ?_
        refine kw_iald (v := nI y) X 12 0 rfl rfl (kq_in (by omega) (by omega)) (by rw [kq_cl (by omega)]; exact hX.2 i y hi1) dc_R_at_37 ?_
        exact kw_iret X hr hlk dc_R_at_38 ⟨rfl, one, two, own, tk, co, tO, t0, t1, sv, mg, nm, gc, go, tx, rfl, zv, zb, zT, ok, ⟨k0, k1⟩, hC, hS, hX⟩
      · exact absurd (show nI 0 ≤ 0 by decide) hc25
    · exact absurd ((nI_ltI (by omega) (by omega)).mpr hil) hc10
set_option maxRecDepth 100000 in
set_option maxHeartbeats 4000000 in
theorem ct_RatF {l : Launch} {D : va_G} {kI kB kC kL : ClassId} (rd : Nat → Nat) (n : Nat) (lo hi : Nat → Nat) (bg : Bool) (cs T : List Nat) (t : Nat) (S : Bool) (w0 : va_W) (h : rfP kI rd n lo hi bg cs T t S w0) (i : Int32) (hi1 : ¬ (0 ≤ i ∧ i < nI T.length)) : kw_I l mn_R_at (gw mn_R_at cd_R_at 2 (some .int)) ({ frames := 0, cells := 0, slots := 0, locals := 0 } : Room) D cl_v (kt kI kB kC kL) kE [.ref (rd 0), .int i] (w0) (fun r w => rfP kI rd n lo hi bg cs T 1 S w) 0 0 := by
  obtain ⟨one, two, own, tk, co, tO, t0, t1, sv, mg, nm, gc, go, tx, rfl, zv, zb, zT, ok, ⟨k0, k1⟩, hC, hS, hX⟩ := h
  refine kw_ofI (cc := cd_R_at) (maxL := 2) (ty := .int) (by decide) rfl (Nat.le_of_ble_eq_true rfl) rfl ?_
  intro pp ee s m args below meth c A X hr hlk hE hnm
  refine kw_aload_n X dc_R_at_0 rfl rfl ?_
  refine kw_iload_n X dc_R_at_1 rfl rfl ?_
  refine kw_if_lt (tgt := 13) X dc_R_at_2 (by decide) (fun hc2 => ?_) (fun hc2 => ?_)
  · refine kw_iconst (v := (nI 1)) X dc_R_at_13 (by decide) ?_
    refine kw_goto (tgt := 18) X dc_R_at_14 (by decide) ?_
    refine kw_putf (ty := .int) X (wc_R _) fy_R fk_R fn_R 0 rfl rfl 0 (by decide) (gq wd_597) (fun _ h => h) rfl (by decide +kernel) rfl rfl (Nat.le_of_ble_eq_true rfl) dc_R_at_18 ?_
    refine kw_aload_n X dc_R_at_21 rfl rfl ?_
    refine kw_get X (wc_R _) 0 rfl rfl 0 (by decide) (gq wd_597) (fun _ h => h) rfl dc_R_at_22 ?_
    refine kw_if_le (tgt := 32) X dc_R_at_25 (by decide) (fun hc25 => ?_) (fun hc25 => ?_)
    · exact absurd hc25 (show ¬ nI 1 ≤ 0 by decide)
    · refine kw_iconst (v := (nI 0)) X dc_R_at_28 (by decide) ?_
      refine kw_goto (tgt := 38) X dc_R_at_29 (by decide) ?_
      exact kw_iret X hr hlk dc_R_at_38 ⟨one, two, own, tk, co, tO, t0, t1, sv, mg, nm, gc, go, tx, rfl, zv, zb, zT, ok, ⟨k0, k1⟩, hC, hS, hX⟩
  · refine kw_iload_n X dc_R_at_5 rfl rfl ?_
    refine kw_aload_n X dc_R_at_6 rfl rfl ?_
    refine kw_get X (wc_R _) 0 rfl rfl 20 (by decide) (gq wd_617) (fun _ h => h) rfl dc_R_at_7 ?_
    refine kw_icmp_lt (tgt := 17) X dc_R_at_10 (by decide) (fun hc10 => ?_) (fun hc10 => ?_)
    · exact absurd ⟨Int32.not_lt.mp hc2, hc10⟩ hi1
    · refine kw_iconst (v := (nI 1)) X dc_R_at_13 (by decide) ?_
      refine kw_goto (tgt := 18) X dc_R_at_14 (by decide) ?_
      refine kw_putf (ty := .int) X (wc_R _) fy_R fk_R fn_R 0 rfl rfl 0 (by decide) (gq wd_597) (fun _ h => h) rfl (by decide +kernel) rfl rfl (Nat.le_of_ble_eq_true rfl) dc_R_at_18 ?_
      refine kw_aload_n X dc_R_at_21 rfl rfl ?_
      refine kw_get X (wc_R _) 0 rfl rfl 0 (by decide) (gq wd_597) (fun _ h => h) rfl dc_R_at_22 ?_
      refine kw_if_le (tgt := 32) X dc_R_at_25 (by decide) (fun hc25 => ?_) (fun hc25 => ?_)
      · exact absurd hc25 (show ¬ nI 1 ≤ 0 by decide)
      · refine kw_iconst (v := (nI 0)) X dc_R_at_28 (by decide) ?_
        refine kw_goto (tgt := 38) X dc_R_at_29 (by decide) ?_
        exact kw_iret X hr hlk dc_R_at_38 ⟨one, two, own, tk, co, tO, t0, t1, sv, mg, nm, gc, go, tx, rfl, zv, zb, zT, ok, ⟨k0, k1⟩, hC, hS, hX⟩
