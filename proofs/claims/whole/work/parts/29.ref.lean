set_option maxRecDepth 100000 in
set_option maxHeartbeats 4000000 in
theorem ct_RboardF1 {l : Launch} {D : va_G} {kI kB kC kL : ClassId} (rd : Nat → Nat) (n : Nat) (lo hi : Nat → Nat) (bg : Bool) (cs T : List Nat) (t : Nat) (S : Bool) (w0 : va_W) (h : rfP kI rd n lo hi bg cs T t S w0) (a b : Int32) (hok : ¬ bdOk a b) : kw_I l mn_R_board (gw mn_R_board cd_R_board 7 (some .int)) ({ frames := 0, cells := 0, slots := 0, locals := 0 } : Room) D cl_v (kt kI kB kC kL) kE [.ref (rd 0), .int a, .int b] (w0) (fun r w => rfP kI rd n lo hi bg cs T 1 S w) 0 0 := by
  obtain ⟨one, two, own, tk, co, tO, t0, t1, sv, mg, nm, gc, go, tx, rfl, zv, zb, zT, ok, ⟨k0, k1⟩, hC, hS, hX⟩ := h
  refine kw_ofI (cc := cd_R_board) (maxL := 7) (ty := .int) (by decide) rfl (Nat.le_of_ble_eq_true rfl) rfl ?_
  intro pp ee s m args below meth c A X hr hlk hE hnm
  refine kw_iload_n X dc_R_board_0 rfl rfl ?_
  refine kw_iconst (v := (nI 1)) X dc_R_board_1 (by decide) ?_
  refine kw_icmp_lt (tgt := 40) X dc_R_board_2 (by decide) (fun hc2 => ?_) (fun hc2 => ?_)
  · refine kw_iconst (v := (nI 0)) X dc_R_board_40 (by decide) ?_
    refine kw_istore_n X dc_R_board_41 rfl (by decide) ?_
    refine kw_aload_n X dc_R_board_42 rfl rfl ?_
    refine kw_iload_n X dc_R_board_43 rfl rfl ?_
    refine kw_if_ne (tgt := 51) X dc_R_board_44 (by decide) (fun hc44 => ?_) (fun hc44 => ?_)
    · exact absurd rfl hc44
    · refine kw_iconst (v := (nI 1)) X dc_R_board_47 (by decide) ?_
      refine kw_goto (tgt := 70) X dc_R_board_48 (by decide) ?_
      refine kw_putf (ty := .int) X (wc_R _) fy_R fk_R fn_R 0 rfl rfl 0 (by decide) (gq wd_597) (fun _ h => h) rfl (by decide +kernel) rfl rfl (Nat.le_of_ble_eq_true rfl) dc_R_board_70 ?_
      refine kw_aload_n X dc_R_board_73 rfl rfl ?_
      refine kw_get X (wc_R _) 0 rfl rfl 0 (by decide) (gq wd_597) (fun _ h => h) rfl dc_R_board_74 ?_
      refine kw_if_le (tgt := 82) X dc_R_board_77 (by decide) (fun hc77 => ?_) (fun hc77 => ?_)
      · exact absurd hc77 (show ¬ nI 1 ≤ 0 by decide)
      · refine kw_iconst (v := (nI 0)) X dc_R_board_80 (by decide) ?_
        exact kw_iret X hr hlk dc_R_board_81 ⟨one, two, own, tk, co, tO, t0, t1, sv, mg, nm, gc, go, tx, rfl, zv, zb, zT, ok, ⟨k0, k1⟩, hC, hS, hX⟩
  · refine kw_iload_n X dc_R_board_5 rfl rfl ?_
    refine kw_iconst (v := (nI 1)) X dc_R_board_6 (by decide) ?_
    refine kw_icmp_lt (tgt := 40) X dc_R_board_7 (by decide) (fun hc7 => ?_) (fun hc7 => ?_)
    · refine kw_iconst (v := (nI 0)) X dc_R_board_40 (by decide) ?_
      refine kw_istore_n X dc_R_board_41 rfl (by decide) ?_
      refine kw_aload_n X dc_R_board_42 rfl rfl ?_
      refine kw_iload_n X dc_R_board_43 rfl rfl ?_
      refine kw_if_ne (tgt := 51) X dc_R_board_44 (by decide) (fun hc44 => ?_) (fun hc44 => ?_)
      · exact absurd rfl hc44
      · refine kw_iconst (v := (nI 1)) X dc_R_board_47 (by decide) ?_
        refine kw_goto (tgt := 70) X dc_R_board_48 (by decide) ?_
        refine kw_putf (ty := .int) X (wc_R _) fy_R fk_R fn_R 0 rfl rfl 0 (by decide) (gq wd_597) (fun _ h => h) rfl (by decide +kernel) rfl rfl (Nat.le_of_ble_eq_true rfl) dc_R_board_70 ?_
        refine kw_aload_n X dc_R_board_73 rfl rfl ?_
        refine kw_get X (wc_R _) 0 rfl rfl 0 (by decide) (gq wd_597) (fun _ h => h) rfl dc_R_board_74 ?_
        refine kw_if_le (tgt := 82) X dc_R_board_77 (by decide) (fun hc77 => ?_) (fun hc77 => ?_)
        · exact absurd hc77 (show ¬ nI 1 ≤ 0 by decide)
        · refine kw_iconst (v := (nI 0)) X dc_R_board_80 (by decide) ?_
          exact kw_iret X hr hlk dc_R_board_81 ⟨one, two, own, tk, co, tO, t0, t1, sv, mg, nm, gc, go, tx, rfl, zv, zb, zT, ok, ⟨k0, k1⟩, hC, hS, hX⟩
    · refine kw_iload_n X dc_R_board_10 rfl rfl ?_
      refine kw_bipush (v := (nI 12)) X dc_R_board_11 (by decide) ?_
      refine kw_icmp_gt (tgt := 40) X dc_R_board_13 (by decide) (fun hc13 => ?_) (fun hc13 => ?_)
      · refine kw_iconst (v := (nI 0)) X dc_R_board_40 (by decide) ?_
        refine kw_istore_n X dc_R_board_41 rfl (by decide) ?_
        refine kw_aload_n X dc_R_board_42 rfl rfl ?_
        refine kw_iload_n X dc_R_board_43 rfl rfl ?_
        refine kw_if_ne (tgt := 51) X dc_R_board_44 (by decide) (fun hc44 => ?_) (fun hc44 => ?_)
        · exact absurd rfl hc44
        · refine kw_iconst (v := (nI 1)) X dc_R_board_47 (by decide) ?_
          refine kw_goto (tgt := 70) X dc_R_board_48 (by decide) ?_
          refine kw_putf (ty := .int) X (wc_R _) fy_R fk_R fn_R 0 rfl rfl 0 (by decide) (gq wd_597) (fun _ h => h) rfl (by decide +kernel) rfl rfl (Nat.le_of_ble_eq_true rfl) dc_R_board_70 ?_
          refine kw_aload_n X dc_R_board_73 rfl rfl ?_
          refine kw_get X (wc_R _) 0 rfl rfl 0 (by decide) (gq wd_597) (fun _ h => h) rfl dc_R_board_74 ?_
          refine kw_if_le (tgt := 82) X dc_R_board_77 (by decide) (fun hc77 => ?_) (fun hc77 => ?_)
          · exact absurd hc77 (show ¬ nI 1 ≤ 0 by decide)
          · refine kw_iconst (v := (nI 0)) X dc_R_board_80 (by decide) ?_
            exact kw_iret X hr hlk dc_R_board_81 ⟨one, two, own, tk, co, tO, t0, t1, sv, mg, nm, gc, go, tx, rfl, zv, zb, zT, ok, ⟨k0, k1⟩, hC, hS, hX⟩
      · refine kw_iload_n X dc_R_board_16 rfl rfl ?_
        refine kw_bipush (v := (nI 12)) X dc_R_board_17 (by decide) ?_
        refine kw_icmp_gt (tgt := 40) X dc_R_board_19 (by decide) (fun hc19 => ?_) (fun hc19 => ?_)
        · refine kw_iconst (v := (nI 0)) X dc_R_board_40 (by decide) ?_
          refine kw_istore_n X dc_R_board_41 rfl (by decide) ?_
          refine kw_aload_n X dc_R_board_42 rfl rfl ?_
          refine kw_iload_n X dc_R_board_43 rfl rfl ?_
          refine kw_if_ne (tgt := 51) X dc_R_board_44 (by decide) (fun hc44 => ?_) (fun hc44 => ?_)
          · exact absurd rfl hc44
          · refine kw_iconst (v := (nI 1)) X dc_R_board_47 (by decide) ?_
            refine kw_goto (tgt := 70) X dc_R_board_48 (by decide) ?_
            refine kw_putf (ty := .int) X (wc_R _) fy_R fk_R fn_R 0 rfl rfl 0 (by decide) (gq wd_597) (fun _ h => h) rfl (by decide +kernel) rfl rfl (Nat.le_of_ble_eq_true rfl) dc_R_board_70 ?_
            refine kw_aload_n X dc_R_board_73 rfl rfl ?_
            refine kw_get X (wc_R _) 0 rfl rfl 0 (by decide) (gq wd_597) (fun _ h => h) rfl dc_R_board_74 ?_
            refine kw_if_le (tgt := 82) X dc_R_board_77 (by decide) (fun hc77 => ?_) (fun hc77 => ?_)
            · exact absurd hc77 (show ¬ nI 1 ≤ 0 by decide)
            · refine kw_iconst (v := (nI 0)) X dc_R_board_80 (by decide) ?_
              exact kw_iret X hr hlk dc_R_board_81 ⟨one, two, own, tk, co, tO, t0, t1, sv, mg, nm, gc, go, tx, rfl, zv, zb, zT, ok, ⟨k0, k1⟩, hC, hS, hX⟩
        · refine kw_iload_n X dc_R_board_22 rfl rfl ?_
          refine kw_iload_n X dc_R_board_23 rfl rfl ?_
          refine kw_iadd X dc_R_board_24 rfl ?_
          refine kw_iconst (v := (nI 2)) X dc_R_board_25 (by decide) ?_
          refine kw_iload_n X dc_R_board_26 rfl rfl ?_
          refine kw_imul X dc_R_board_27 rfl ?_
          refine kw_iload_n X dc_R_board_28 rfl rfl ?_
          refine kw_imul X dc_R_board_29 rfl ?_
          refine kw_iadd X dc_R_board_30 rfl ?_
          refine kw_bipush (v := (nI 12)) X dc_R_board_31 (by decide) ?_
          refine kw_icmp_gt (tgt := 40) X dc_R_board_33 (by decide) (fun hc33 => ?_) (fun hc33 => ?_)
          · refine kw_iconst (v := (nI 0)) X dc_R_board_40 (by decide) ?_
            refine kw_istore_n X dc_R_board_41 rfl (by decide) ?_
            refine kw_aload_n X dc_R_board_42 rfl rfl ?_
            refine kw_iload_n X dc_R_board_43 rfl rfl ?_
            refine kw_if_ne (tgt := 51) X dc_R_board_44 (by decide) (fun hc44 => ?_) (fun hc44 => ?_)
            · exact absurd rfl hc44
            · refine kw_iconst (v := (nI 1)) X dc_R_board_47 (by decide) ?_
              refine kw_goto (tgt := 70) X dc_R_board_48 (by decide) ?_
              refine kw_putf (ty := .int) X (wc_R _) fy_R fk_R fn_R 0 rfl rfl 0 (by decide) (gq wd_597) (fun _ h => h) rfl (by decide +kernel) rfl rfl (Nat.le_of_ble_eq_true rfl) dc_R_board_70 ?_
              refine kw_aload_n X dc_R_board_73 rfl rfl ?_
              refine kw_get X (wc_R _) 0 rfl rfl 0 (by decide) (gq wd_597) (fun _ h => h) rfl dc_R_board_74 ?_
              refine kw_if_le (tgt := 82) X dc_R_board_77 (by decide) (fun hc77 => ?_) (fun hc77 => ?_)
              · exact absurd hc77 (show ¬ nI 1 ≤ 0 by decide)
              · refine kw_iconst (v := (nI 0)) X dc_R_board_80 (by decide) ?_
                exact kw_iret X hr hlk dc_R_board_81 ⟨one, two, own, tk, co, tO, t0, t1, sv, mg, nm, gc, go, tx, rfl, zv, zb, zT, ok, ⟨k0, k1⟩, hC, hS, hX⟩
          · exact absurd ⟨⟨Int32.not_lt.mp hc2, Int32.not_lt.mp hc7, Int32.not_lt.mp hc13, Int32.not_lt.mp hc19⟩, (bd_same ⟨Int32.not_lt.mp hc2, Int32.not_lt.mp hc7, Int32.not_lt.mp hc13, Int32.not_lt.mp hc19⟩).symm ▸ Int32.not_lt.mp hc33⟩ hok
set_option maxRecDepth 100000 in
set_option maxHeartbeats 4000000 in
theorem ct_RboardF2 {l : Launch} {D : va_G} {kI kB kC kL : ClassId} (rd : Nat → Nat) (n : Nat) (lo hi : Nat → Nat) (bg : Bool) (cs T : List Nat) (t : Nat) (S : Bool) (w0 : va_W) (h : rfP kI rd n lo hi bg cs T t S w0) (a b : Int32) (hok : bdOk a b) (hz : bg = true ∨ n ≠ 0) : kw_I l mn_R_board (gw mn_R_board cd_R_board 7 (some .int)) ({ frames := 0, cells := 0, slots := 0, locals := 0 } : Room) D cl_v (kt kI kB kC kL) kE [.ref (rd 0), .int a, .int b] (w0) (fun r w => rfP kI rd n lo hi bg cs T 2 S w) 0 0 := by
  obtain ⟨one, two, own, tk, co, tO, t0, t1, sv, mg, nm, gc, go, tx, rfl, zv, zb, zT, ok, ⟨k0, k1⟩, hC, hS, hX⟩ := h
  refine kw_ofI (cc := cd_R_board) (maxL := 7) (ty := .int) (by decide) rfl (Nat.le_of_ble_eq_true rfl) rfl ?_
  intro pp ee s m args below meth c A X hr hlk hE hnm
  have hn := ok.1.1
  refine kw_iload_n X dc_R_board_0 rfl rfl ?_
  refine kw_iconst (v := (nI 1)) X dc_R_board_1 (by decide) ?_
  refine kw_icmp_lt (tgt := 40) X dc_R_board_2 (by decide) (fun hc2 => ?_) (fun hc2 => ?_)
  · exact absurd hc2 (Int32.not_lt.mpr hok.1.1)
  · refine kw_iload_n X dc_R_board_5 rfl rfl ?_
    refine kw_iconst (v := (nI 1)) X dc_R_board_6 (by decide) ?_
    refine kw_icmp_lt (tgt := 40) X dc_R_board_7 (by decide) (fun hc7 => ?_) (fun hc7 => ?_)
    · exact absurd hc7 (Int32.not_lt.mpr hok.1.2.1)
    · refine kw_iload_n X dc_R_board_10 rfl rfl ?_
      refine kw_bipush (v := (nI 12)) X dc_R_board_11 (by decide) ?_
      refine kw_icmp_gt (tgt := 40) X dc_R_board_13 (by decide) (fun hc13 => ?_) (fun hc13 => ?_)
      · exact absurd hc13 (Int32.not_lt.mpr hok.1.2.2.1)
      · refine kw_iload_n X dc_R_board_16 rfl rfl ?_
        refine kw_bipush (v := (nI 12)) X dc_R_board_17 (by decide) ?_
        refine kw_icmp_gt (tgt := 40) X dc_R_board_19 (by decide) (fun hc19 => ?_) (fun hc19 => ?_)
        · exact absurd hc19 (Int32.not_lt.mpr hok.1.2.2.2)
        · refine kw_iload_n X dc_R_board_22 rfl rfl ?_
          refine kw_iload_n X dc_R_board_23 rfl rfl ?_
          refine kw_iadd X dc_R_board_24 rfl ?_
          refine kw_iconst (v := (nI 2)) X dc_R_board_25 (by decide) ?_
          refine kw_iload_n X dc_R_board_26 rfl rfl ?_
          refine kw_imul X dc_R_board_27 rfl ?_
          refine kw_iload_n X dc_R_board_28 rfl rfl ?_
          refine kw_imul X dc_R_board_29 rfl ?_
          refine kw_iadd X dc_R_board_30 rfl ?_
          refine kw_bipush (v := (nI 12)) X dc_R_board_31 (by decide) ?_
          refine kw_icmp_gt (tgt := 40) X dc_R_board_33 (by decide) (fun hc33 => ?_) (fun hc33 => ?_)
          · exact absurd hc33 (Int32.not_lt.mpr (bd_same hok.1 ▸ hok.2))
          · refine kw_iconst (v := (nI 1)) X dc_R_board_36 (by decide) ?_
            refine kw_goto (tgt := 41) X dc_R_board_37 (by decide) ?_
            refine kw_istore_n X dc_R_board_41 rfl (by decide) ?_
            refine kw_aload_n X dc_R_board_42 rfl rfl ?_
            refine kw_iload_n X dc_R_board_43 rfl rfl ?_
            refine kw_if_ne (tgt := 51) X dc_R_board_44 (by decide) (fun hc44 => ?_) (fun hc44 => ?_)
            · refine kw_aload_n X dc_R_board_51 rfl rfl ?_
              refine kw_get X (wc_R _) 0 rfl rfl 5 (by decide) (gq wd_602) (fun _ h => h) rfl dc_R_board_52 ?_
              refine kw_if_ne (tgt := 65) X dc_R_board_55 (by decide) (fun hc55 => ?_) (fun hc55 => ?_)
              · refine kw_iconst (v := (nI 2)) X dc_R_board_65 (by decide) ?_
                refine kw_goto (tgt := 70) X dc_R_board_66 (by decide) ?_
                refine kw_putf (ty := .int) X (wc_R _) fy_R fk_R fn_R 0 rfl rfl 0 (by decide) (gq wd_597) (fun _ h => h) rfl (by decide +kernel) rfl rfl (Nat.le_of_ble_eq_true rfl) dc_R_board_70 ?_
                refine kw_aload_n X dc_R_board_73 rfl rfl ?_
                refine kw_get X (wc_R _) 0 rfl rfl 0 (by decide) (gq wd_597) (fun _ h => h) rfl dc_R_board_74 ?_
                refine kw_if_le (tgt := 82) X dc_R_board_77 (by decide) (fun hc77 => ?_) (fun hc77 => ?_)
                · exact absurd hc77 (show ¬ nI 2 ≤ 0 by decide)
                · refine kw_iconst (v := (nI 0)) X dc_R_board_80 (by decide) ?_
                  exact kw_iret X hr hlk dc_R_board_81 ⟨one, two, own, tk, co, tO, t0, t1, sv, mg, nm, gc, go, tx, rfl, zv, zb, zT, ok, ⟨k0, k1⟩, hC, hS, hX⟩
              · have hn0 : n ≠ 0 := by
                  rcases hz with z | z
                  · have h9 := bI_0 hc55
                    rw [z] at h9
                    cases h9
                  · exact z
                refine kw_aload_n X dc_R_board_58 rfl rfl ?_
                refine kw_get X (wc_R _) 0 rfl rfl 1 (by decide) (gq wd_598) (fun _ h => h) rfl dc_R_board_59 ?_
                refine kw_if_le (tgt := 69) X dc_R_board_62 (by decide) (fun hc62 => ?_) (fun hc62 => ?_)
                · exact absurd (kq_le (b := 0) hc62) (by omega)
                · refine kw_iconst (v := (nI 2)) X dc_R_board_65 (by decide) ?_
                  refine kw_goto (tgt := 70) X dc_R_board_66 (by decide) ?_
                  refine kw_putf (ty := .int) X (wc_R _) fy_R fk_R fn_R 0 rfl rfl 0 (by decide) (gq wd_597) (fun _ h => h) rfl (by decide +kernel) rfl rfl (Nat.le_of_ble_eq_true rfl) dc_R_board_70 ?_
                  refine kw_aload_n X dc_R_board_73 rfl rfl ?_
                  refine kw_get X (wc_R _) 0 rfl rfl 0 (by decide) (gq wd_597) (fun _ h => h) rfl dc_R_board_74 ?_
                  refine kw_if_le (tgt := 82) X dc_R_board_77 (by decide) (fun hc77 => ?_) (fun hc77 => ?_)
                  · exact absurd hc77 (show ¬ nI 2 ≤ 0 by decide)
                  · refine kw_iconst (v := (nI 0)) X dc_R_board_80 (by decide) ?_
                    exact kw_iret X hr hlk dc_R_board_81 ⟨one, two, own, tk, co, tO, t0, t1, sv, mg, nm, gc, go, tx, rfl, zv, zb, zT, ok, ⟨k0, k1⟩, hC, hS, hX⟩
            · exact absurd hc44 (show ¬ nI 1 = 0 by decide)
set_option maxRecDepth 100000 in
set_option maxHeartbeats 4000000 in
theorem ct_RboardT {l : Launch} {D : va_G} {kI kB kC kL : ClassId} (rd : Nat → Nat) (lo hi : Nat → Nat) (T : List Nat) (t : Nat) (S : Bool) (w0 : va_W) (h : rfP kI rd 0 lo hi false [] T t S w0) (rr cn : Nat) (hfit : bd_fit rr cn) : kw_I l mn_R_board (gw mn_R_board cd_R_board 7 (some .int)) ({ frames := 1, cells := 0, slots := 0, locals := 22 } : Room) D cl_v (kt kI kB kC kL) kE [.ref (rd 0), .int (nI rr), .int (nI cn)] (w0) (fun r w => r = nI (gm_ads (0, lo, hi) (bd_all rr cn (rr * cn))).1 ∧ rfP kI rd (gm_ads (0, lo, hi) (bd_all rr cn (rr * cn))).1 (gm_ads (0, lo, hi) (bd_all rr cn (rr * cn))).2.1 (gm_ads (0, lo, hi) (bd_all rr cn (rr * cn))).2.2 false [] T 0 S w) 0 0 := by
  obtain ⟨one, two, own, tk, co, tO, t0, t1, sv, mg, nm, gc, go, tx, rfl, zv, zb, zT, ok, ⟨k0, k1⟩, hC, hS, hX⟩ := h
  refine kw_ofI (cc := cd_R_board) (maxL := 7) (ty := .int) (by decide) rfl (Nat.le_of_ble_eq_true rfl) rfl ?_
  intro pp ee s m args below meth c A X hr hlk hE hnm
  have hf := hfit
  have hok := bdOk_of hfit
  obtain ⟨f1, f2, f3, f4, f5⟩ := hfit
  have hrc : rr * cn ≤ 12 := by
    have e1 : rr * (cn + 1) = rr * cn + rr := Nat.mul_succ rr cn
    omega
  refine kw_iload_n X dc_R_board_0 rfl rfl ?_
  refine kw_iconst (v := (nI 1)) X dc_R_board_1 (by decide) ?_
  refine kw_icmp_lt (tgt := 40) X dc_R_board_2 (by decide) (fun hc2 => ?_) (fun hc2 => ?_)
  · exact absurd hc2 (Int32.not_lt.mpr hok.1.1)
  · refine kw_iload_n X dc_R_board_5 rfl rfl ?_
    refine kw_iconst (v := (nI 1)) X dc_R_board_6 (by decide) ?_
    refine kw_icmp_lt (tgt := 40) X dc_R_board_7 (by decide) (fun hc7 => ?_) (fun hc7 => ?_)
    · exact absurd hc7 (Int32.not_lt.mpr hok.1.2.1)
    · refine kw_iload_n X dc_R_board_10 rfl rfl ?_
      refine kw_bipush (v := (nI 12)) X dc_R_board_11 (by decide) ?_
      refine kw_icmp_gt (tgt := 40) X dc_R_board_13 (by decide) (fun hc13 => ?_) (fun hc13 => ?_)
      · exact absurd hc13 (Int32.not_lt.mpr hok.1.2.2.1)
      · refine kw_iload_n X dc_R_board_16 rfl rfl ?_
        refine kw_bipush (v := (nI 12)) X dc_R_board_17 (by decide) ?_
        refine kw_icmp_gt (tgt := 40) X dc_R_board_19 (by decide) (fun hc19 => ?_) (fun hc19 => ?_)
        · exact absurd hc19 (Int32.not_lt.mpr hok.1.2.2.2)
        · refine kw_iload_n X dc_R_board_22 rfl rfl ?_
          refine kw_iload_n X dc_R_board_23 rfl rfl ?_
          refine kw_iadd X dc_R_board_24 rfl ?_
          refine kw_iconst (v := (nI 2)) X dc_R_board_25 (by decide) ?_
          refine kw_iload_n X dc_R_board_26 rfl rfl ?_
          refine kw_imul X dc_R_board_27 rfl ?_
          refine kw_iload_n X dc_R_board_28 rfl rfl ?_
          refine kw_imul X dc_R_board_29 rfl ?_
          refine kw_iadd X dc_R_board_30 rfl ?_
          refine kw_bipush (v := (nI 12)) X dc_R_board_31 (by decide) ?_
          refine kw_icmp_gt (tgt := 40) X dc_R_board_33 (by decide) (fun hc33 => ?_) (fun hc33 => ?_)
          · exact absurd hc33 (Int32.not_lt.mpr (bd_same hok.1 ▸ hok.2))
          · refine kw_iconst (v := (nI 1)) X dc_R_board_36 (by decide) ?_
            refine kw_goto (tgt := 41) X dc_R_board_37 (by decide) ?_
            refine kw_istore_n X dc_R_board_41 rfl (by decide) ?_
            refine kw_aload_n X dc_R_board_42 rfl rfl ?_
            refine kw_iload_n X dc_R_board_43 rfl rfl ?_
            refine kw_if_ne (tgt := 51) X dc_R_board_44 (by decide) (fun hc44 => ?_) (fun hc44 => ?_)
            · refine kw_aload_n X dc_R_board_51 rfl rfl ?_
              refine kw_get X (wc_R _) 0 rfl rfl 5 (by decide) (gq wd_602) (fun _ h => h) rfl dc_R_board_52 ?_
              refine kw_if_ne (tgt := 65) X dc_R_board_55 (by decide) (fun hc55 => ?_) (fun hc55 => ?_)
              · exact absurd rfl hc55
              · refine kw_aload_n X dc_R_board_58 rfl rfl ?_
                refine kw_get X (wc_R _) 0 rfl rfl 1 (by decide) (gq wd_598) (fun _ h => h) rfl dc_R_board_59 ?_
                refine kw_if_le (tgt := 69) X dc_R_board_62 (by decide) (fun hc62 => ?_) (fun hc62 => ?_)
                · refine kw_iconst (v := (nI 0)) X dc_R_board_69 (by decide) ?_
                  refine kw_putf (ty := .int) X (wc_R _) fy_R fk_R fn_R 0 rfl rfl 0 (by decide) (gq wd_597) (fun _ h => h) rfl (by decide +kernel) rfl rfl (Nat.le_of_ble_eq_true rfl) dc_R_board_70 ?_
                  refine kw_aload_n X dc_R_board_73 rfl rfl ?_
                  refine kw_get X (wc_R _) 0 rfl rfl 0 (by decide) (gq wd_597) (fun _ h => h) rfl dc_R_board_74 ?_
                  refine kw_if_le (tgt := 82) X dc_R_board_77 (by decide) (fun hc77 => ?_) (fun hc77 => ?_)
                  · refine kw_iconst (v := (nI 0)) X dc_R_board_82 (by decide) ?_
                    refine kw_istore X dc_R_board_83 (by decide) ?_
                    refine kw_loop (α := ((Nat × (Nat → Nat) × (Nat → Nat)) × va_W) × Nat) (fun a => a.2 ≤ rr * cn ∧ a.1.1 = gm_ads (0, lo, hi) (bd_all rr cn a.2) ∧ rfP kI rd a.1.1.1 a.1.1.2.1 a.1.1.2.2 false [] T 0 S a.1.2) (fun a => rr * cn - a.2) (fun a => a.1.2) (fun a => [some (.ref (rd 0)), some (.int (nI rr)), some (.int (nI cn)), some (.int (nI 1)), some (.int (nI a.2)), none, none]) (fun _ => []) (((0, lo, hi), _), 0) ⟨Nat.zero_le _, rfl, ⟨one, two, own, tk, co, tO, t0, t1, sv, mg, nm, gc, go, tx, rfl, zv, zb, zT, ok, ⟨k0, k1⟩, hC, hS, hX⟩⟩ (fun a hI ih => ?_)
                    obtain ⟨⟨y0, w0⟩, k⟩ := a
                    obtain ⟨hk, ey0, hy0⟩ := hI
                    have hk : k ≤ rr * cn := hk
                    have ey0 : y0 = gm_ads (0, lo, hi) (bd_all rr cn k) := ey0
                    have hy0 : rfP kI rd y0.1 y0.2.1 y0.2.2 false [] T 0 S w0 := hy0
                    obtain ⟨one0, two0, own0, tk0, co0, tO0, t00, t10, sv0, mg0, nm0, gc0, go0, tx0, ew0, zv0, zb0, zT0, ok0, ⟨k00, k10⟩, hC0, hS0, hX0⟩ := hy0
                    refine kw_cv (ws' := wRF kI rd 0 y0.1 one0 two0 own0 false (2 ^ y0.1 - 1) 0 tk0 0 co0 tO0 t00 t10 sv0 mg0 nm0 gc0 go0 tx0 T.length) (lv' := [some (.ref (rd 0)), some (.int (nI rr)), some (.int (nI cn)), some (.int (nI 1)), some (.int (nI k)), none, none]) ew0 rfl rfl ?_
                    refine kw_iload X dc_R_board_85 rfl ?_
                    refine kw_iload_n X dc_R_board_87 rfl rfl ?_
                    refine kw_iload_n X dc_R_board_88 rfl rfl ?_
                    refine kw_imul (v := nI (rr * cn)) X dc_R_board_89 (pk_mul rr cn) ?_
                    refine kw_icmp_ge (tgt := 179) X dc_R_board_90 (by decide) (fun hc90 => ?_) (fun hc90 => ?_)
                    · have hkE : k = rr * cn := Nat.le_antisymm hk (kq_le hc90)
                      refine kw_aload_n X dc_R_board_179 rfl rfl ?_
                      refine kw_get X (wc_R _) 0 rfl rfl 1 (by decide) (gq wd_598) (fun _ h => h) rfl dc_R_board_180 ?_
                      exact kw_iret X hr hlk dc_R_board_183 ⟨by rw [← hkE, ← ey0], by rw [← hkE, ← ey0]; exact ⟨one0, two0, own0, tk0, co0, tO0, t00, t10, sv0, mg0, nm0, gc0, go0, tx0, rfl, zv0, zb0, zT0, ok0, ⟨k00, k10⟩, hC0, hS0, hX0⟩⟩
                    · have hkl : k < rr * cn := kq_nle hc90
                      obtain ⟨b1, hb8, b3, b4, b5, b6, b7, b9⟩ := bd_ok hf hkl
                      have nY : y0.1 = (bd_all rr cn k).length := by rw [ey0, gm_ads_n]; exact Nat.zero_add _
                      have lB : (bd_bx rr cn k).length = (bd_1 rr cn k).length + (bd_2 cn k).length + 2 := by unfold bd_bx; simp [List.length_append]; omega
                      have hmc : k % cn < cn := Nat.mod_lt _ f2
                      have hdr : k / cn < rr := Nat.div_lt_of_lt_mul (by rw [Nat.mul_comm]; exact hkl)
                      refine kw_iload X dc_R_board_93 rfl ?_
                      refine kw_iload_n X dc_R_board_95 rfl rfl ?_
                      refine kw_idiv (v := nI (k / cn)) X dc_R_board_96 (fun z => by have := kq_eq (b := 0) z; omega) (pk_div (d := cn) (by omega) (by omega) (by omega)) ?_
                      refine kw_istore X dc_R_board_97 (by decide) ?_
                      refine kw_iload X dc_R_board_99 rfl ?_
                      refine kw_iload_n X dc_R_board_101 rfl rfl ?_
                      refine kw_irem (v := nI (k % cn)) X dc_R_board_102 (fun z => by have := kq_eq (b := 0) z; omega) (pk_rem (d := cn) (by omega) (by omega) (by omega)) ?_
                      refine kw_istore X dc_R_board_103 (by decide) ?_
                      refine kw_jn (α := (Nat × (Nat → Nat) × (Nat → Nat)) × va_W) (fun a => a.1 = gm_ads y0 (bd_1 rr cn k) ∧ rfP kI rd a.1.1 a.1.2.1 a.1.2.2 false [] T 0 S a.2) (fun a => a.2) (fun _ => [some (.ref (rd 0)), some (.int (nI rr)), some (.int (nI cn)), some (.int (nI 1)), some (.int (nI k)), some (.int (nI (k / cn))), some (.int (nI (k % cn)))]) (fun _ => []) 117 (fun a1 hJ => ?_) (fun jn1 => ?_)
                      · obtain ⟨y1, w1⟩ := a1
                        obtain ⟨ey1, hy1⟩ := hJ
                        have ey1 : y1 = _ := ey1
                        have hy1 : rfP kI rd y1.1 y1.2.1 y1.2.2 false [] T 0 S w1 := hy1
                        obtain ⟨one1, two1, own1, tk1, co1, tO1, t01, t11, sv1, mg1, nm1, gc1, go1, tx1, ew1, zv1, zb1, zT1, ok1, ⟨k01, k11⟩, hC1, hS1, hX1⟩ := hy1
                        refine kw_cv (ws' := wRF kI rd 0 y1.1 one1 two1 own1 false (2 ^ y1.1 - 1) 0 tk1 0 co1 tO1 t01 t11 sv1 mg1 nm1 gc1 go1 tx1 T.length) ew1 rfl rfl ?_
                        have my1 : y1.1 = y0.1 + (bd_1 rr cn k).length := by rw [ey1, gm_ads_n]
                        refine kw_jn (α := (Nat × (Nat → Nat) × (Nat → Nat)) × va_W) (fun a => a.1 = gm_ads y1 (bd_2 cn k) ∧ rfP kI rd a.1.1 a.1.2.1 a.1.2.2 false [] T 0 S a.2) (fun a => a.2) (fun _ => [some (.ref (rd 0)), some (.int (nI rr)), some (.int (nI cn)), some (.int (nI 1)), some (.int (nI k)), some (.int (nI (k / cn))), some (.int (nI (k % cn)))]) (fun _ => []) 129 (fun a3 hJ => ?_) (fun jn2 => ?_)
                        · obtain ⟨y3, w3⟩ := a3
                          obtain ⟨ey3, hy3⟩ := hJ
                          have ey3 : y3 = _ := ey3
                          have hy3 : rfP kI rd y3.1 y3.2.1 y3.2.2 false [] T 0 S w3 := hy3
                          obtain ⟨one3, two3, own3, tk3, co3, tO3, t03, t13, sv3, mg3, nm3, gc3, go3, tx3, ew3, zv3, zb3, zT3, ok3, ⟨k03, k13⟩, hC3, hS3, hX3⟩ := hy3
                          refine kw_cv (ws' := wRF kI rd 0 y3.1 one3 two3 own3 false (2 ^ y3.1 - 1) 0 tk3 0 co3 tO3 t03 t13 sv3 mg3 nm3 gc3 go3 tx3 T.length) ew3 rfl rfl ?_
                          have my3 : y3.1 = y1.1 + (bd_2 cn k).length := by rw [ey3, gm_ads_n]
                          refine kw_aload_n X dc_R_board_129 rfl rfl ?_
                          refine kw_iload X dc_R_board_130 rfl ?_
                          refine kw_jn (α := Unit) (fun _ => True) (fun _ => wRF kI rd 0 y3.1 one3 two3 own3 false (2 ^ y3.1 - 1) 0 tk3 0 co3 tO3 t03 t13 sv3 mg3 nm3 gc3 go3 tx3 T.length) (fun _ => [some (.ref (rd 0)), some (.int (nI rr)), some (.int (nI cn)), some (.int (nI 1)), some (.int (nI k)), some (.int (nI (k / cn))), some (.int (nI (k % cn)))]) (fun _ => [.int (og (bd_x cn k)), .int (nI k), .ref (rd 0)]) 148 (fun _ _ => ?_) (fun jn3 => ?_)
                          · refine kw_callVV X kEw hE 0 rfl rfl (ct_Zhang rd y3.1 y3.2.1 y3.2.2 T 0 S (wRF kI rd 0 y3.1 one3 two3 own3 false (2 ^ y3.1 - 1) 0 tk3 0 co3 tO3 t03 t13 sv3 mg3 nm3 gc3 go3 tx3 T.length) ⟨one3, two3, own3, tk3, co3, tO3, t03, t13, sv3, mg3, nm3, gc3, go3, tx3, rfl, zv3, zb3, zT3, ok3, ⟨k03, k13⟩, hC3, hS3, hX3⟩ k (bd_x cn k) (by omega) hb8 b3 (Ne.symm b5)) (cw_V 2 X wd_672 wd_674 wp_10 wd_8 wd_675 rfl rfl (by decide +kernel) ⟨Nat.le_of_ble_eq_true rfl, Nat.le_of_ble_eq_true rfl⟩) [0, 1, 2, 3, 4, 5, 6, 7, 8, 9, 10, 11, 12] rfl (by decide) (fun _ h => rfP_len h) rfl rfl (Nat.le_of_ble_eq_true rfl) dc_R_board_148 ⟨Nat.zero_le _, Nat.zero_le _⟩ (fun w hp => ?_)
                            (obtain ⟨y4, ey4⟩ : ∃ z : Nat × (Nat → Nat) × (Nat → Nat), z = gm_ad y3 k (bd_x cn k) := ⟨_, rfl⟩; have hy4 : rfP kI rd y4.1 y4.2.1 y4.2.2 false [] T 0 S w := (by rw [ey4]; exact hp); obtain ⟨one4, two4, own4, tk4, co4, tO4, t04, t14, sv4, mg4, nm4, gc4, go4, tx4, rfl, zv4, zb4, zT4, ok4, ⟨k04, k14⟩, hC4, hS4, hX4⟩ := hy4; have my4 : y4.1 = y3.1 + 1 := (by rw [ey4]; rfl))
                            refine kw_cv (ws' := wRF kI rd 0 y4.1 one4 two4 own4 false (2 ^ y4.1 - 1) 0 tk4 0 co4 tO4 t04 t14 sv4 mg4 nm4 gc4 go4 tx4 T.length) rfl rfl rfl ?_
                            refine kw_aload_n X dc_R_board_151 rfl rfl ?_
                            refine kw_iload X dc_R_board_152 rfl ?_
                            refine kw_jn (α := Unit) (fun _ => True) (fun _ => wRF kI rd 0 y4.1 one4 two4 own4 false (2 ^ y4.1 - 1) 0 tk4 0 co4 tO4 t04 t14 sv4 mg4 nm4 gc4 go4 tx4 T.length) (fun _ => [some (.ref (rd 0)), some (.int (nI rr)), some (.int (nI cn)), some (.int (nI 1)), some (.int (nI k)), some (.int (nI (k / cn))), some (.int (nI (k % cn)))]) (fun _ => [.int (og (bd_y rr cn k)), .int (nI k), .ref (rd 0)]) 170 (fun _ _ => ?_) (fun jn4 => ?_)
                            · refine kw_callVV X kEw hE 0 rfl rfl (ct_Zhang rd y4.1 y4.2.1 y4.2.2 T 0 S (wRF kI rd 0 y4.1 one4 two4 own4 false (2 ^ y4.1 - 1) 0 tk4 0 co4 tO4 t04 t14 sv4 mg4 nm4 gc4 go4 tx4 T.length) ⟨one4, two4, own4, tk4, co4, tO4, t04, t14, sv4, mg4, nm4, gc4, go4, tx4, rfl, zv4, zb4, zT4, ok4, ⟨k04, k14⟩, hC4, hS4, hX4⟩ k (bd_y rr cn k) (by omega) hb8 b4 (Ne.symm b6)) (cw_V 2 X wd_672 wd_674 wp_10 wd_8 wd_675 rfl rfl (by decide +kernel) ⟨Nat.le_of_ble_eq_true rfl, Nat.le_of_ble_eq_true rfl⟩) [0, 1, 2, 3, 4, 5, 6, 7, 8, 9, 10, 11, 12] rfl (by decide) (fun _ h => rfP_len h) rfl rfl (Nat.le_of_ble_eq_true rfl) dc_R_board_170 ⟨Nat.zero_le _, Nat.zero_le _⟩ (fun w hp => ?_)
                              (obtain ⟨y5, ey5⟩ : ∃ z : Nat × (Nat → Nat) × (Nat → Nat), z = gm_ad y4 k (bd_y rr cn k) := ⟨_, rfl⟩; have hy5 : rfP kI rd y5.1 y5.2.1 y5.2.2 false [] T 0 S w := (by rw [ey5]; exact hp); obtain ⟨one5, two5, own5, tk5, co5, tO5, t05, t15, sv5, mg5, nm5, gc5, go5, tx5, rfl, zv5, zb5, zT5, ok5, ⟨k05, k15⟩, hC5, hS5, hX5⟩ := hy5; have my5 : y5.1 = y4.1 + 1 := (by rw [ey5]; rfl))
                              refine kw_cv (ws' := wRF kI rd 0 y5.1 one5 two5 own5 false (2 ^ y5.1 - 1) 0 tk5 0 co5 tO5 t05 t15 sv5 mg5 nm5 gc5 go5 tx5 T.length) rfl rfl rfl ?_
                              refine kw_iinc (v := nI (k + 1)) X dc_R_board_173 rfl (kq_inc k) (by decide) ?_
                              refine kw_goto (tgt := 85) X dc_R_board_176 (by decide) ?_
                              refine kw_kill 5 ?_
                              refine kw_kill 6 ?_
                              exact ih ((y5, _), k + 1) ⟨hkl, by show y5 = gm_ads (0, lo, hi) (bd_all rr cn (k + 1)); rw [ey5, ey4, ey3, ey1, show bd_all rr cn (k + 1) = bd_all rr cn k ++ bd_bx rr cn k from rfl, gm_ads_app, ← ey0]; unfold bd_bx; rw [gm_ads_app, gm_ads_app, gm_ads_app]; rfl, ⟨one5, two5, own5, tk5, co5, tO5, t05, t15, sv5, mg5, nm5, gc5, go5, tx5, rfl, zv5, zb5, zT5, ok5, ⟨k05, k15⟩, hC5, hS5, hX5⟩⟩ (by show rr * cn - (k + 1) < rr * cn - k; omega)
                            · refine kw_iload X dc_R_board_154 rfl ?_
                              refine kw_iconst (v := (nI 1)) X dc_R_board_156 (by decide) ?_
                              refine kw_iadd (v := nI (k / cn + 1)) X dc_R_board_157 (nI_1 _) ?_
                              refine kw_iload_n X dc_R_board_158 rfl rfl ?_
                              refine kw_icmp_ge (tgt := 169) X dc_R_board_159 (by decide) (fun hc159 => ?_) (fun hc159 => ?_)
                              · have h159 := kq_le hc159
                                refine kw_iconst (v := (-1)) X dc_R_board_169 (by decide) ?_
                                refine kw_top (y := og (bd_y rr cn k)) (by unfold bd_y; rw [if_pos (by omega)]; rfl) ?_
                                exact jn4 () trivial
                              · have h159 := kq_nle hc159
                                refine kw_iload X dc_R_board_162 rfl ?_
                                refine kw_iload_n X dc_R_board_164 rfl rfl ?_
                                refine kw_iadd (v := og (bd_y rr cn k)) X dc_R_board_165 (by unfold bd_y; rw [if_neg (by omega), og_lt (by omega)]; exact nI_add _ _) ?_
                                refine kw_goto (tgt := 170) X dc_R_board_166 (by decide) ?_
                                exact jn4 () trivial
                          · refine kw_iload X dc_R_board_132 rfl ?_
                            refine kw_iconst (v := (nI 1)) X dc_R_board_134 (by decide) ?_
                            refine kw_iadd (v := nI (k % cn + 1)) X dc_R_board_135 (nI_1 _) ?_
                            refine kw_iload_n X dc_R_board_136 rfl rfl ?_
                            refine kw_icmp_ge (tgt := 147) X dc_R_board_137 (by decide) (fun hc137 => ?_) (fun hc137 => ?_)
                            · have h137 := kq_le hc137
                              refine kw_iconst (v := (-1)) X dc_R_board_147 (by decide) ?_
                              refine kw_top (y := og (bd_x cn k)) (by unfold bd_x; rw [if_pos (by omega)]; rfl) ?_
                              exact jn3 () trivial
                            · have h137 := kq_nle hc137
                              refine kw_iload X dc_R_board_140 rfl ?_
                              refine kw_iconst (v := (nI 1)) X dc_R_board_142 (by decide) ?_
                              refine kw_iadd (v := og (bd_x cn k)) X dc_R_board_143 (by unfold bd_x; rw [if_neg (by omega), og_lt (by omega)]; exact nI_1 k) ?_
                              refine kw_goto (tgt := 148) X dc_R_board_144 (by decide) ?_
                              exact jn3 () trivial
                        · refine kw_iload X dc_R_board_117 rfl ?_
                          refine kw_if_ne (tgt := 129) X dc_R_board_119 (by decide) (fun hc119 => ?_) (fun hc119 => ?_)
                          · have h119 := kq_ne (b := 0) hc119
                            exact jn2 (y1, _) ⟨by show y1 = _; unfold bd_2; rw [if_neg h119]; rfl, ⟨one1, two1, own1, tk1, co1, tO1, t01, t11, sv1, mg1, nm1, gc1, go1, tx1, rfl, zv1, zb1, zT1, ok1, ⟨k01, k11⟩, hC1, hS1, hX1⟩⟩
                          · have h119 := kq_eq (b := 0) hc119
                            have l2 : (bd_2 cn k).length = 1 := by unfold bd_2; rw [if_pos h119]; rfl
                            refine kw_aload_n X dc_R_board_122 rfl rfl ?_
                            refine kw_iload X dc_R_board_123 rfl ?_
                            refine kw_iconst (v := (-1)) X dc_R_board_125 (by decide) ?_
                            refine kw_callVV X kEw hE 0 rfl rfl (ct_Zhang rd y1.1 y1.2.1 y1.2.2 T 0 S (wRF kI rd 0 y1.1 one1 two1 own1 false (2 ^ y1.1 - 1) 0 tk1 0 co1 tO1 t01 t11 sv1 mg1 nm1 gc1 go1 tx1 T.length) ⟨one1, two1, own1, tk1, co1, tO1, t01, t11, sv1, mg1, nm1, gc1, go1, tx1, rfl, zv1, zb1, zT1, ok1, ⟨k01, k11⟩, hC1, hS1, hX1⟩ k 8 (by omega) hb8 (by omega) (by omega)) (cw_V 2 X wd_672 wd_674 wp_10 wd_8 wd_675 rfl rfl (by decide +kernel) ⟨Nat.le_of_ble_eq_true rfl, Nat.le_of_ble_eq_true rfl⟩) [0, 1, 2, 3, 4, 5, 6, 7, 8, 9, 10, 11, 12] rfl (by decide) (fun _ h => rfP_len h) rfl rfl (Nat.le_of_ble_eq_true rfl) dc_R_board_126 ⟨Nat.zero_le _, Nat.zero_le _⟩ (fun w hp => ?_)
                            (obtain ⟨u2, eu2⟩ : ∃ z : Nat × (Nat → Nat) × (Nat → Nat), z = gm_ad y1 k 8 := ⟨_, rfl⟩; have hu2 : rfP kI rd u2.1 u2.2.1 u2.2.2 false [] T 0 S w := (by rw [eu2]; exact hp); obtain ⟨oneb, twob, ownb, tkb, cob, tOb, t0b, t1b, svb, mgb, nmb, gcb, gob, txb, rfl, zvb, zbb, zTb, okb, ⟨k0b, k1b⟩, hCb, hSb, hXb⟩ := hu2; have mu2 : u2.1 = y1.1 + 1 := (by rw [eu2]; rfl))
                            refine kw_cv (ws' := wRF kI rd 0 u2.1 oneb twob ownb false (2 ^ u2.1 - 1) 0 tkb 0 cob tOb t0b t1b svb mgb nmb gcb gob txb T.length) rfl rfl rfl ?_
                            exact jn2 (u2, _) ⟨by show u2 = _; rw [eu2]; unfold bd_2; rw [if_pos h119]; rfl, ⟨oneb, twob, ownb, tkb, cob, tOb, t0b, t1b, svb, mgb, nmb, gcb, gob, txb, rfl, zvb, zbb, zTb, okb, ⟨k0b, k1b⟩, hCb, hSb, hXb⟩⟩
                      · refine kw_iload X dc_R_board_105 rfl ?_
                        refine kw_if_ne (tgt := 117) X dc_R_board_107 (by decide) (fun hc107 => ?_) (fun hc107 => ?_)
                        · have h107 := kq_ne (b := 0) hc107
                          exact jn1 (y0, _) ⟨by show y0 = _; unfold bd_1; rw [if_neg h107]; rfl, ⟨one0, two0, own0, tk0, co0, tO0, t00, t10, sv0, mg0, nm0, gc0, go0, tx0, rfl, zv0, zb0, zT0, ok0, ⟨k00, k10⟩, hC0, hS0, hX0⟩⟩
                        · have h107 := kq_eq (b := 0) hc107
                          have l1 : (bd_1 rr cn k).length = 1 := by unfold bd_1; rw [if_pos h107]; rfl
                          refine kw_aload_n X dc_R_board_110 rfl rfl ?_
                          refine kw_iload X dc_R_board_111 rfl ?_
                          refine kw_iconst (v := (-1)) X dc_R_board_113 (by decide) ?_
                          refine kw_callVV X kEw hE 0 rfl rfl (ct_Zhang rd y0.1 y0.2.1 y0.2.2 T 0 S (wRF kI rd 0 y0.1 one0 two0 own0 false (2 ^ y0.1 - 1) 0 tk0 0 co0 tO0 t00 t10 sv0 mg0 nm0 gc0 go0 tx0 T.length) ⟨one0, two0, own0, tk0, co0, tO0, t00, t10, sv0, mg0, nm0, gc0, go0, tx0, rfl, zv0, zb0, zT0, ok0, ⟨k00, k10⟩, hC0, hS0, hX0⟩ k 8 (by omega) hb8 (by omega) (by omega)) (cw_V 2 X wd_672 wd_674 wp_10 wd_8 wd_675 rfl rfl (by decide +kernel) ⟨Nat.le_of_ble_eq_true rfl, Nat.le_of_ble_eq_true rfl⟩) [0, 1, 2, 3, 4, 5, 6, 7, 8, 9, 10, 11, 12] rfl (by decide) (fun _ h => rfP_len h) rfl rfl (Nat.le_of_ble_eq_true rfl) dc_R_board_114 ⟨Nat.zero_le _, Nat.zero_le _⟩ (fun w hp => ?_)
                          (obtain ⟨u1, eu1⟩ : ∃ z : Nat × (Nat → Nat) × (Nat → Nat), z = gm_ad y0 k 8 := ⟨_, rfl⟩; have hu1 : rfP kI rd u1.1 u1.2.1 u1.2.2 false [] T 0 S w := (by rw [eu1]; exact hp); obtain ⟨onea, twoa, owna, tka, coa, tOa, t0a, t1a, sva, mga, nma, gca, goa, txa, rfl, zva, zba, zTa, oka, ⟨k0a, k1a⟩, hCa, hSa, hXa⟩ := hu1; have mu1 : u1.1 = y0.1 + 1 := (by rw [eu1]; rfl))
                          refine kw_cv (ws' := wRF kI rd 0 u1.1 onea twoa owna false (2 ^ u1.1 - 1) 0 tka 0 coa tOa t0a t1a sva mga nma gca goa txa T.length) rfl rfl rfl ?_
                          exact jn1 (u1, _) ⟨by show u1 = _; rw [eu1]; unfold bd_1; rw [if_pos h107]; rfl, ⟨onea, twoa, owna, tka, coa, tOa, t0a, t1a, sva, mga, nma, gca, goa, txa, rfl, zva, zba, zTa, oka, ⟨k0a, k1a⟩, hCa, hSa, hXa⟩⟩
                  · exact absurd (show nI 0 ≤ 0 by decide) hc77
                · exact absurd (show nI 0 ≤ 0 by decide) hc62
            · exact absurd hc44 (show ¬ nI 1 = 0 by decide)
