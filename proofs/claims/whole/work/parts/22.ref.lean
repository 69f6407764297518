set_option maxRecDepth 100000 in
set_option maxHeartbeats 4000000 in
theorem ct_solve {l : Launch} {D : va_G} {kI kB kC kL : ClassId} (rd : Nat → Nat) (th n : Nat) (one two own : Nat → Int32) (bg : Bool) (lf tu : Nat) (tk : Nat → Int32) (cu : Nat) (co tO t0 t1 : Nat → Int32) (sv : Bool) (mg nm : Nat → Int32) (gc : Nat) (go tx : Nat → Int32) (len : Nat) (lo hi : Nat → Nat) (ok : rfOk lo hi n one two own) (hsv : (sv = true ∧ ∀ q, q < 2 ^ n → mg q = iZ (gm_mg lo hi n q) ∧ nm q = iZ (gm_nm lo hi n q)) ∨ sv = false) : kw_V l mn_R_solve (gw mn_R_solve cd_R_solve 2 none) ({ frames := 3, cells := 0, slots := 0, locals := 72 } : Room) D cl_v (kt kI kB kC kL) kE [.ref (rd 0)] (wRF kI rd th n one two own bg lf tu tk cu co tO t0 t1 sv mg nm gc go tx len) (fun w => ∃ mg2 nm2 : Nat → Int32, w = wRF kI rd th n one two own bg lf tu tk cu co tO t0 t1 true mg2 nm2 gc go tx len ∧ ∀ q, q < 2 ^ n → mg2 q = iZ (gm_mg lo hi n q) ∧ nm2 q = iZ (gm_nm lo hi n q)) 0 0 := by
  refine kw_ofV (cc := cd_R_solve) (maxL := 2) (by decide) rfl (Nat.le_of_ble_eq_true rfl) rfl ?_
  intro pp ee s m args below meth c A X hr hlk hE hnm
  have hn := ok.1.1
  have h2n : 2 ^ n ≤ 4096 := show 2 ^ n ≤ 2 ^ 12 from Nat.pow_le_pow_right (by decide) hn
  have h2p := Nat.two_pow_pos n
  refine kw_iconst (v := (nI 0)) X dc_R_solve_0 (by decide) ?_
  refine kw_istore_n X dc_R_solve_1 rfl (by decide) ?_
  refine kw_loop (α := Nat) (fun k => k ≤ 2 ^ n) (fun k => 2 ^ n - k) (fun k => wRF kI rd th n one two own bg lf tu tk cu co tO t0 t1 sv (kq_pre (fun q => iZ (gm_mg lo hi n q)) mg k) (kq_pre (fun q => iZ (gm_nm lo hi n q)) nm k) gc go tx len) (fun k => [some (.ref (rd 0)), some (.int (nI k))]) (fun _ => []) 0 (Nat.zero_le _) (fun k hk ih => ?_)
  refine kw_iload_n X dc_R_solve_2 rfl rfl ?_
  refine kw_iconst (v := (nI 1)) X dc_R_solve_3 (by decide) ?_
  refine kw_aload_n X dc_R_solve_4 rfl rfl ?_
  refine kw_get X (wc_R _) 0 rfl rfl 1 (by decide) (gq wd_598) (fun _ h => h) rfl dc_R_solve_5 ?_
  refine kw_ishl (v := nI (2 ^ n)) X dc_R_solve_8 (bq_shl (by omega)) ?_
  refine kw_icmp_ge (tgt := 47) X dc_R_solve_9 (by decide) (fun hc9 => ?_) (fun hc9 => ?_)
  · have hT : ∀ q, q < 2 ^ n → (kq_pre (fun q => iZ (gm_mg lo hi n q)) mg k) q = iZ (gm_mg lo hi n q) ∧ (kq_pre (fun q => iZ (gm_nm lo hi n q)) nm k) q = iZ (gm_nm lo hi n q) := fun q hq => ⟨kq_pre_lt (by have := kq_le hc9; omega), kq_pre_lt (by have := kq_le hc9; omega)⟩
    refine kw_aload_n X dc_R_solve_47 rfl rfl ?_
    refine kw_iconst (v := (nI 1)) X dc_R_solve_48 (by decide) ?_
    refine kw_putf (ty := .boolean) X (wc_R _) fy_R fk_R fn_R 0 rfl rfl 14 (by decide) (gq wd_611) (fun _ h => h) rfl (by decide +kernel) rfl rfl (Nat.le_of_ble_eq_true rfl) dc_R_solve_49 ?_
    exact kw_vret X hr hlk dc_R_solve_52 ⟨_, _, rfl, hT⟩
  · have hkn : k < 2 ^ n := kq_nle hc9
    refine kw_aload_n X dc_R_solve_12 rfl rfl ?_
    refine kw_get X (wc_R _) 0 rfl rfl 14 (by decide) (gq wd_611) (fun _ h => h) rfl dc_R_solve_13 ?_
    refine kw_if_ne (tgt := 47) X dc_R_solve_16 (by decide) (fun hc16 => ?_) (fun hc16 => ?_)
    · have hT : ∀ q, q < 2 ^ n → (kq_pre (fun q => iZ (gm_mg lo hi n q)) mg k) q = iZ (gm_mg lo hi n q) ∧ (kq_pre (fun q => iZ (gm_nm lo hi n q)) nm k) q = iZ (gm_nm lo hi n q) := fun q hq => by
        rcases hsv with ⟨_, h⟩ | h
        · obtain ⟨h1, h2⟩ := h q hq
          rcases Nat.lt_or_ge q k with z | z
          · exact ⟨kq_pre_lt z, kq_pre_lt z⟩
          · exact ⟨(kq_pre_ge z).trans h1, (kq_pre_ge z).trans h2⟩
        · rw [h] at hc16; exact absurd rfl hc16
      refine kw_aload_n X dc_R_solve_47 rfl rfl ?_
      refine kw_iconst (v := (nI 1)) X dc_R_solve_48 (by decide) ?_
      refine kw_putf (ty := .boolean) X (wc_R _) fy_R fk_R fn_R 0 rfl rfl 14 (by decide) (gq wd_611) (fun _ h => h) rfl (by decide +kernel) rfl rfl (Nat.le_of_ble_eq_true rfl) dc_R_solve_49 ?_
      exact kw_vret X hr hlk dc_R_solve_52 ⟨_, _, rfl, hT⟩
    · refine kw_aload_n X dc_R_solve_19 rfl rfl ?_
      refine kw_get X (wc_R _) 0 rfl rfl 15 (by decide) (gq wd_612) (fun _ h => h) rfl dc_R_solve_20 ?_
      refine kw_iload_n X dc_R_solve_23 rfl rfl ?_
      refine kw_aload_n X dc_R_solve_24 rfl rfl ?_
      refine kw_iload_n X dc_R_solve_25 rfl rfl ?_
      refine kw_callVI X kEw hE 0 rfl rfl (ct_marginOf rd th n one two own bg lf tu tk cu co tO t0 t1 sv (kq_pre (fun q => iZ (gm_mg lo hi n q)) mg k) (kq_pre (fun q => iZ (gm_nm lo hi n q)) nm k) gc go tx len lo hi ok k hkn (fun q hq => kq_pre_lt hq)) (cw_V 1 X wd_700 wd_702 wp_13 wd_8 wd_703 rfl rfl (by decide +kernel) ⟨Nat.le_of_ble_eq_true rfl, Nat.le_of_ble_eq_true rfl⟩) [0, 1, 2, 3, 4, 5, 6, 7, 8, 9, 10, 11, 12] rfl (by decide) (fun _ _ h => by obtain ⟨rfl, _⟩ := h; exact Nat.le_refl _) rfl rfl (Nat.le_of_ble_eq_true rfl) dc_R_solve_26 ⟨Nat.zero_le _, Nat.zero_le _⟩ (fun r w hp => ?_)
      obtain ⟨rfl, rfl⟩ := hp
      refine kw_cv (ws' := wRF kI rd th n one two own bg lf tu tk cu co tO t0 t1 sv (kq_pre (fun q => iZ (gm_mg lo hi n q)) mg k) (kq_pre (fun q => iZ (gm_nm lo hi n q)) nm k) gc go tx len) rfl rfl rfl ?_
      refine kw_iast X 9 0 rfl rfl (kq_in (by omega) (by omega)) dc_R_solve_29 ?_
      refine kw_cv (ws' := wRF kI rd th n one two own bg lf tu tk cu co tO t0 t1 sv (kq_pre (fun q => iZ (gm_mg lo hi n q)) mg (k + 1)) (kq_pre (fun q => iZ (gm_nm lo hi n q)) nm k) gc go tx len) (by
        show wRF kI rd th n one two own bg lf tu tk cu co tO t0 t1 sv (upd (kq_pre (fun q => iZ (gm_mg lo hi n q)) mg k) (nI k).toNatClampNeg (iZ (gm_mg lo hi n k))) (kq_pre (fun q => iZ (gm_nm lo hi n q)) nm k) gc go tx len = _
        rw [kq_cl (by omega), kq_pre_upd rfl]) rfl rfl ?_
      refine kw_aload_n X dc_R_solve_30 rfl rfl ?_
      refine kw_get X (wc_R _) 0 rfl rfl 16 (by decide) (gq wd_613) (fun _ h => h) rfl dc_R_solve_31 ?_
      refine kw_iload_n X dc_R_solve_34 rfl rfl ?_
      refine kw_aload_n X dc_R_solve_35 rfl rfl ?_
      refine kw_iload_n X dc_R_solve_36 rfl rfl ?_
      refine kw_callVI X kEw hE 0 rfl rfl (ct_nimOf rd th n one two own bg lf tu tk cu co tO t0 t1 sv (kq_pre (fun q => iZ (gm_mg lo hi n q)) mg (k + 1)) (kq_pre (fun q => iZ (gm_nm lo hi n q)) nm k) gc go tx len lo hi ok k hkn (fun q hq => kq_pre_lt hq)) (cw_V 1 X wd_712 wd_714 wp_16 wd_8 wd_715 rfl rfl (by decide +kernel) ⟨Nat.le_of_ble_eq_true rfl, Nat.le_of_ble_eq_true rfl⟩) [0, 1, 2, 3, 4, 5, 6, 7, 8, 9, 10, 11, 12] rfl (by decide) (fun _ _ h => by obtain ⟨rfl, _⟩ := h; exact Nat.le_refl _) rfl rfl (Nat.le_of_ble_eq_true rfl) dc_R_solve_37 ⟨Nat.zero_le _, Nat.zero_le _⟩ (fun r w hp => ?_)
      obtain ⟨rfl, rfl⟩ := hp
      refine kw_cv (ws' := wRF kI rd th n one two own bg lf tu tk cu co tO t0 t1 sv (kq_pre (fun q => iZ (gm_mg lo hi n q)) mg (k + 1)) (kq_pre (fun q => iZ (gm_nm lo hi n q)) nm k) gc go tx len) rfl rfl rfl ?_
      refine kw_iast X 10 0 rfl rfl (kq_in (by omega) (by omega)) dc_R_solve_40 ?_
      refine kw_iinc (v := nI (k + 1)) X dc_R_solve_41 rfl (kq_inc k) (by decide) ?_
      refine kw_goto (tgt := 2) X dc_R_solve_44 (by decide) ?_
      refine kw_cv (ws' := wRF kI rd th n one two own bg lf tu tk cu co tO t0 t1 sv (kq_pre (fun q => iZ (gm_mg lo hi n q)) mg (k + 1)) (kq_pre (fun q => iZ (gm_nm lo hi n q)) nm (k + 1)) gc go tx len) (by
        show wRF kI rd th n one two own bg lf tu tk cu co tO t0 t1 sv (kq_pre (fun q => iZ (gm_mg lo hi n q)) mg (k + 1)) (upd (kq_pre (fun q => iZ (gm_nm lo hi n q)) nm k) (nI k).toNatClampNeg (iZ (gm_nm lo hi n k))) gc go tx len = _
        rw [kq_cl (by omega), kq_pre_upd rfl]) rfl rfl ?_
      exact ih (k + 1) (by omega) (by omega)
set_option maxRecDepth 100000 in
set_option maxHeartbeats 4000000 in
theorem ct_asksT {l : Launch} {D : va_G} {kI kB kC kL : ClassId} (rd : Nat → Nat) (th n : Nat) (one two own : Nat → Int32) (lf tu : Nat) (tk : Nat → Int32) (cu : Nat) (co tO t0 t1 : Nat → Int32) (sv : Bool) (mg nm : Nat → Int32) (gc : Nat) (go tx : Nat → Int32) (len : Nat) (lo hi : Nat → Nat) (ok : rfOk lo hi n one two own) (hsv : (sv = true ∧ ∀ q, q < 2 ^ n → mg q = iZ (gm_mg lo hi n q) ∧ nm q = iZ (gm_nm lo hi n q)) ∨ sv = false) : kw_I l mn_R_asks (gw mn_R_asks cd_R_asks 1 (some .boolean)) ({ frames := 4, cells := 0, slots := 0, locals := 93 } : Room) D cl_v (kt kI kB kC kL) kE [.ref (rd 0)] (wRF kI rd th n one two own true lf tu tk cu co tO t0 t1 sv mg nm gc go tx len) (fun r w => r = nI 1 ∧ ∃ mg2 nm2 : Nat → Int32, w = wRF kI rd 0 n one two own true lf tu tk cu co tO t0 t1 true mg2 nm2 gc go tx len ∧ ∀ q, q < 2 ^ n → mg2 q = iZ (gm_mg lo hi n q) ∧ nm2 q = iZ (gm_nm lo hi n q)) 0 0 := by
  refine kw_ofI (cc := cd_R_asks) (maxL := 1) (ty := .boolean) (by decide) rfl (Nat.le_of_ble_eq_true rfl) rfl ?_
  intro pp ee s m args below meth c A X hr hlk hE hnm
  refine kw_aload_n X dc_R_asks_0 rfl rfl ?_
  refine kw_aload_n X dc_R_asks_1 rfl rfl ?_
  refine kw_get X (wc_R _) 0 rfl rfl 5 (by decide) (gq wd_602) (fun _ h => h) rfl dc_R_asks_2 ?_
  refine kw_if_eq (tgt := 12) X dc_R_asks_5 (by decide) (fun hc5 => ?_) (fun hc5 => ?_)
  · exact absurd hc5 (show ¬ bI true = 0 by decide)
  · refine kw_iconst (v := (nI 0)) X dc_R_asks_8 (by decide) ?_
    refine kw_goto (tgt := 13) X dc_R_asks_9 (by decide) ?_
    refine kw_putf (ty := .int) X (wc_R _) fy_R fk_R fn_R 0 rfl rfl 0 (by decide) (gq wd_597) (fun _ h => h) rfl (by decide +kernel) rfl rfl (Nat.le_of_ble_eq_true rfl) dc_R_asks_13 ?_
    refine kw_aload_n X dc_R_asks_16 rfl rfl ?_
    refine kw_get X (wc_R _) 0 rfl rfl 5 (by decide) (gq wd_602) (fun _ h => h) rfl dc_R_asks_17 ?_
    refine kw_if_eq (tgt := 27) X dc_R_asks_20 (by decide) (fun hc20 => ?_) (fun hc20 => ?_)
    · exact absurd hc20 (show ¬ bI true = 0 by decide)
    · refine kw_aload_n X dc_R_asks_23 rfl rfl ?_
      refine kw_callVV X kEw hE 0 rfl rfl (ct_solve rd 0 n one two own true lf tu tk cu co tO t0 t1 sv mg nm gc go tx len lo hi ok hsv) (cw_V 0 X wd_696 wd_698 wp_12 wd_8 wd_699 rfl rfl (by decide +kernel) ⟨Nat.le_of_ble_eq_true rfl, Nat.le_of_ble_eq_true rfl⟩) [0, 1, 2, 3, 4, 5, 6, 7, 8, 9, 10, 11, 12] rfl (by decide) (fun _ h => by obtain ⟨g, g2, rfl, _⟩ := h; exact Nat.le_refl _) rfl rfl (Nat.le_of_ble_eq_true rfl) dc_R_asks_24 ⟨Nat.zero_le _, Nat.zero_le _⟩ (fun w hp => ?_)
      obtain ⟨mg2, nm2, rfl, tb⟩ := hp
      refine kw_cv (ws' := wRF kI rd 0 n one two own true lf tu tk cu co tO t0 t1 true mg2 nm2 gc go tx len) rfl rfl rfl ?_
      refine kw_aload_n X dc_R_asks_27 rfl rfl ?_
      refine kw_get X (wc_R _) 0 rfl rfl 5 (by decide) (gq wd_602) (fun _ h => h) rfl dc_R_asks_28 ?_
      exact kw_zret X hr hlk rfl dc_R_asks_31 ⟨rfl, mg2, nm2, rfl, tb⟩
set_option maxRecDepth 100000 in
set_option maxHeartbeats 4000000 in
theorem ct_asksF {l : Launch} {D : va_G} {kI kB kC kL : ClassId} (rd : Nat → Nat) (th n : Nat) (one two own : Nat → Int32) (lf tu : Nat) (tk : Nat → Int32) (cu : Nat) (co tO t0 t1 : Nat → Int32) (sv : Bool) (mg nm : Nat → Int32) (gc : Nat) (go tx : Nat → Int32) (len : Nat)  : kw_I l mn_R_asks (gw mn_R_asks cd_R_asks 1 (some .boolean)) ({ frames := 0, cells := 0, slots := 0, locals := 0 } : Room) D cl_v (kt kI kB kC kL) kE [.ref (rd 0)] (wRF kI rd th n one two own false lf tu tk cu co tO t0 t1 sv mg nm gc go tx len) (fun r w => w = wRF kI rd 1 n one two own false lf tu tk cu co tO t0 t1 sv mg nm gc go tx len ∧ r = nI 0) 0 0 := by
  refine kw_ofI (cc := cd_R_asks) (maxL := 1) (ty := .boolean) (by decide) rfl (Nat.le_of_ble_eq_true rfl) rfl ?_
  intro pp ee s m args below meth c A X hr hlk hE hnm
  refine kw_aload_n X dc_R_asks_0 rfl rfl ?_
  refine kw_aload_n X dc_R_asks_1 rfl rfl ?_
  refine kw_get X (wc_R _) 0 rfl rfl 5 (by decide) (gq wd_602) (fun _ h => h) rfl dc_R_asks_2 ?_
  refine kw_if_eq (tgt := 12) X dc_R_asks_5 (by decide) (fun hc5 => ?_) (fun hc5 => ?_)
  · refine kw_iconst (v := (nI 1)) X dc_R_asks_12 (by decide) ?_
    refine kw_putf (ty := .int) X (wc_R _) fy_R fk_R fn_R 0 rfl rfl 0 (by decide) (gq wd_597) (fun _ h => h) rfl (by decide +kernel) rfl rfl (Nat.le_of_ble_eq_true rfl) dc_R_asks_13 ?_
    refine kw_aload_n X dc_R_asks_16 rfl rfl ?_
    refine kw_get X (wc_R _) 0 rfl rfl 5 (by decide) (gq wd_602) (fun _ h => h) rfl dc_R_asks_17 ?_
    refine kw_if_eq (tgt := 27) X dc_R_asks_20 (by decide) (fun hc20 => ?_) (fun hc20 => ?_)
    · refine kw_aload_n X dc_R_asks_27 rfl rfl ?_
      refine kw_get X (wc_R _) 0 rfl rfl 5 (by decide) (gq wd_602) (fun _ h => h) rfl dc_R_asks_28 ?_
      exact kw_zret X hr hlk rfl dc_R_asks_31 ⟨rfl, rfl⟩
    · exact absurd rfl hc20
  · exact absurd rfl hc5
set_option maxRecDepth 100000 in
set_option maxHeartbeats 4000000 in
theorem ct_goodSet {l : Launch} {D : va_G} {kI kB kC kL : ClassId} (rd : Nat → Nat) (th n : Nat) (one two own : Nat → Int32) (bg : Bool) (lf tu : Nat) (tk : Nat → Int32) (cu : Nat) (co tO t0 t1 : Nat → Int32) (sv : Bool) (mg nm : Nat → Int32) (gc : Nat) (go tx : Nat → Int32) (len : Nat) (lo hi : Nat → Nat) (ok : rfOk lo hi n one two own) (hp : lf < 2 ^ n) (hf : ∀ q, q < 2 ^ n → mg q = iZ (gm_mg lo hi n q) ∧ nm q = iZ (gm_nm lo hi n q)) : kw_I l mn_R_goodSet (gw mn_R_goodSet cd_R_goodSet 3 (some .int)) ({ frames := 2, cells := 0, slots := 0, locals := 47 } : Room) D cl_v (kt kI kB kC kL) kE [.ref (rd 0)] (wRF kI rd th n one two own bg lf tu tk cu co tO t0 t1 sv mg nm gc go tx len) (fun r w => w = wRF kI rd th n one two own bg lf tu tk cu co tO t0 t1 sv mg nm gc go tx len ∧ r = nI (gm_good lo hi n lf)) 0 0 := by
  refine kw_ofI (cc := cd_R_goodSet) (maxL := 3) (ty := .int) (by decide) rfl (Nat.le_of_ble_eq_true rfl) rfl ?_
  intro pp ee s m args below meth c A X hr hlk hE hnm
  have hn := ok.1.1
  have hp4 := kq_2n hn hp
  have bm := gm_mg_8 ok.1 hp
  refine kw_iconst (v := (nI 0)) X dc_R_goodSet_0 (by decide) ?_
  refine kw_istore_n X dc_R_goodSet_1 rfl (by decide) ?_
  refine kw_iconst (v := (nI 0)) X dc_R_goodSet_2 (by decide) ?_
  refine kw_istore_n X dc_R_goodSet_3 rfl (by decide) ?_
  refine kw_loop (α := Nat) (fun k => k ≤ n) (fun k => n - k) (fun _ => wRF kI rd th n one two own bg lf tu tk cu co tO t0 t1 sv mg nm gc go tx len) (fun k => [some (.ref (rd 0)), some (.int (nI (gm_ms (fun i => lf.testBit i && decide (gm_gv lo hi n (gm_mg lo hi n) lf i = gm_mg lo hi n lf)) k))), some (.int (nI k))]) (fun _ => []) 0 (Nat.zero_le _) (fun k hk ih => ?_)
  refine kw_iload_n X dc_R_goodSet_4 rfl rfl ?_
  refine kw_aload_n X dc_R_goodSet_5 rfl rfl ?_
  refine kw_get X (wc_R _) 0 rfl rfl 1 (by decide) (gq wd_598) (fun _ h => h) rfl dc_R_goodSet_6 ?_
  refine kw_icmp_ge (tgt := 61) X dc_R_goodSet_9 (by decide) (fun hc9 => ?_) (fun hc9 => ?_)
  · refine kw_iload_n X dc_R_goodSet_61 rfl rfl ?_
    exact kw_iret X hr hlk dc_R_goodSet_62 ⟨rfl, by have hkn : n = k := Nat.le_antisymm (kq_le hc9) hk; subst hkn; rfl⟩
  · have hkn := kq_nle hc9
    refine kw_aload_n X dc_R_goodSet_12 rfl rfl ?_
    refine kw_get X (wc_R _) 0 rfl rfl 6 (by decide) (gq wd_603) (fun _ h => h) rfl dc_R_goodSet_13 ?_
    refine kw_iload_n X dc_R_goodSet_16 rfl rfl ?_
    refine kw_ishr X dc_R_goodSet_17 rfl ?_
    refine kw_iconst (v := (nI 1)) X dc_R_goodSet_18 (by decide) ?_
    refine kw_iand X dc_R_goodSet_19 rfl ?_
    refine kw_iconst (v := (nI 1)) X dc_R_goodSet_20 (by decide) ?_
    refine kw_icmp_ne (tgt := 53) X dc_R_goodSet_21 (by decide) (fun hc21 => ?_) (fun hc21 => ?_)
    · have h21 : ¬ lf.testBit k = true := fun z => hc21 ((kq_has (by omega) (by omega)).mpr z)
      refine kw_iload_n X dc_R_goodSet_53 rfl rfl ?_
      refine kw_istore_n X dc_R_goodSet_54 rfl (by decide) ?_
      refine kw_iinc (v := nI (k + 1)) X dc_R_goodSet_55 rfl (kq_inc k) (by decide) ?_
      refine kw_goto (tgt := 4) X dc_R_goodSet_58 (by decide) ?_
      refine kw_cv (lv' := [some (.ref (rd 0)), some (.int (nI (gm_ms (fun i => lf.testBit i && decide (gm_gv lo hi n (gm_mg lo hi n) lf i = gm_mg lo hi n lf)) (k + 1)))), some (.int (nI (k + 1)))]) rfl (by first | rfl | (rw [gm_ms_no (q := (fun i => lf.testBit i && decide (gm_gv lo hi n (gm_mg lo hi n) lf i = gm_mg lo hi n lf))) (kq_f2 h42)]; rfl) | (rw [gm_ms_no (q := (fun i => lf.testBit i && decide (gm_gv lo hi n (gm_mg lo hi n) lf i = gm_mg lo hi n lf))) (kq_f1 h21)]; rfl)) rfl ?_
      exact ih (k + 1) (by omega) (by omega)
    · have h21 := (kq_has (by omega) (by omega)).mp hc21
      have bg8 := gm_gv_8 ok.1 hp hkn h21
      refine kw_aload_n X dc_R_goodSet_24 rfl rfl ?_
      refine kw_iload_n X dc_R_goodSet_25 rfl rfl ?_
      refine kw_aload_n X dc_R_goodSet_26 rfl rfl ?_
      refine kw_get X (wc_R _) 0 rfl rfl 6 (by decide) (gq wd_603) (fun _ h => h) rfl dc_R_goodSet_27 ?_
      refine kw_callVI X kEw hE 0 rfl rfl (ct_marginBy rd th n one two own bg lf tu tk cu co tO t0 t1 sv mg nm gc go tx len lo hi ok lf k hp hkn h21 (hf _ (by have := bq_wo_lt h21; omega)).1) (cw_V 2 X wd_704 wd_706 wp_14 wd_8 wd_707 rfl rfl (by decide +kernel) ⟨Nat.le_of_ble_eq_true rfl, Nat.le_of_ble_eq_true rfl⟩) [0, 1, 2, 3, 4, 5, 6, 7, 8, 9, 10, 11, 12] rfl (by decide) (fun _ _ h => by obtain ⟨rfl, _⟩ := h; exact Nat.le_refl _) rfl rfl (Nat.le_of_ble_eq_true rfl) dc_R_goodSet_30 ⟨Nat.zero_le _, Nat.zero_le _⟩ (fun r w hp => ?_)
      obtain ⟨rfl, rfl⟩ := hp
      refine kw_cv (ws' := wRF kI rd th n one two own bg lf tu tk cu co tO t0 t1 sv mg nm gc go tx len) rfl rfl rfl ?_
      refine kw_aload_n X dc_R_goodSet_33 rfl rfl ?_
      refine kw_get X (wc_R _) 0 rfl rfl 15 (by decide) (gq wd_612) (fun _ h => h) rfl dc_R_goodSet_34 ?_
      refine kw_aload_n X dc_R_goodSet_37 rfl rfl ?_
      refine kw_get X (wc_R _) 0 rfl rfl 6 (by decide) (gq wd_603) (fun _ h => h) rfl dc_R_goodSet_38 ?_
      refine kw_iald (v := iZ (gm_mg lo hi n lf)) X 9 0 rfl rfl (kq_in (by omega) (by omega)) (by rw [kq_cl (by omega)]; exact (hf lf hp).1) dc_R_goodSet_41 ?_
      refine kw_icmp_ne (tgt := 53) X dc_R_goodSet_42 (by decide) (fun hc42 => ?_) (fun hc42 => ?_)
      · have h42 : ¬ gm_gv lo hi n (gm_mg lo hi n) lf k = gm_mg lo hi n lf := fun z => hc42 ((iZ_inj (by omega) (by omega) (by omega) (by omega)).mpr z)
        refine kw_iload_n X dc_R_goodSet_53 rfl rfl ?_
        refine kw_istore_n X dc_R_goodSet_54 rfl (by decide) ?_
        refine kw_iinc (v := nI (k + 1)) X dc_R_goodSet_55 rfl (kq_inc k) (by decide) ?_
        refine kw_goto (tgt := 4) X dc_R_goodSet_58 (by decide) ?_
        refine kw_cv (lv' := [some (.ref (rd 0)), some (.int (nI (gm_ms (fun i => lf.testBit i && decide (gm_gv lo hi n (gm_mg lo hi n) lf i = gm_mg lo hi n lf)) (k + 1)))), some (.int (nI (k + 1)))]) rfl (by first | rfl | (rw [gm_ms_no (q := (fun i => lf.testBit i && decide (gm_gv lo hi n (gm_mg lo hi n) lf i = gm_mg lo hi n lf))) (kq_f2 h42)]; rfl) | (rw [gm_ms_no (q := (fun i => lf.testBit i && decide (gm_gv lo hi n (gm_mg lo hi n) lf i = gm_mg lo hi n lf))) (kq_f1 h21)]; rfl)) rfl ?_
        exact ih (k + 1) (by omega) (by omega)
      · have h42 : gm_gv lo hi n (gm_mg lo hi n) lf k = gm_mg lo hi n lf := (iZ_inj (by omega) (by omega) (by omega) (by omega)).mp hc42
        refine kw_iload_n X dc_R_goodSet_45 rfl rfl ?_
        refine kw_iconst (v := (nI 1)) X dc_R_goodSet_46 (by decide) ?_
        refine kw_iload_n X dc_R_goodSet_47 rfl rfl ?_
        refine kw_ishl (v := nI (2 ^ k)) X dc_R_goodSet_48 (bq_shl (by omega)) ?_
        refine kw_ior (v := nI (gm_ms (fun i => lf.testBit i && decide (gm_gv lo hi n (gm_mg lo hi n) lf i = gm_mg lo hi n lf)) (k + 1))) X dc_R_goodSet_49 (by rw [bq_or, show gm_ms (fun i => lf.testBit i && decide (gm_gv lo hi n (gm_mg lo hi n) lf i = gm_mg lo hi n lf)) (k + 1) = gm_ms (fun i => lf.testBit i && decide (gm_gv lo hi n (gm_mg lo hi n) lf i = gm_mg lo hi n lf)) k ||| 2 ^ k from if_pos (by simp [h21, h42])]) ?_
        refine kw_goto (tgt := 54) X dc_R_goodSet_50 (by decide) ?_
        refine kw_istore_n X dc_R_goodSet_54 rfl (by decide) ?_
        refine kw_iinc (v := nI (k + 1)) X dc_R_goodSet_55 rfl (kq_inc k) (by decide) ?_
        refine kw_goto (tgt := 4) X dc_R_goodSet_58 (by decide) ?_
        refine kw_cv (lv' := [some (.ref (rd 0)), some (.int (nI (gm_ms (fun i => lf.testBit i && decide (gm_gv lo hi n (gm_mg lo hi n) lf i = gm_mg lo hi n lf)) (k + 1)))), some (.int (nI (k + 1)))]) rfl (by first | rfl | (rw [gm_ms_no (q := (fun i => lf.testBit i && decide (gm_gv lo hi n (gm_mg lo hi n) lf i = gm_mg lo hi n lf))) (kq_f2 h42)]; rfl) | (rw [gm_ms_no (q := (fun i => lf.testBit i && decide (gm_gv lo hi n (gm_mg lo hi n) lf i = gm_mg lo hi n lf))) (kq_f1 h21)]; rfl)) rfl ?_
        exact ih (k + 1) (by omega) (by omega)
set_option maxRecDepth 100000 in
set_option maxHeartbeats 4000000 in
theorem ct_RmarginT {l : Launch} {D : va_G} {kI kB kC kL : ClassId} (rd : Nat → Nat) (th n : Nat) (one two own : Nat → Int32) (lf tu : Nat) (tk : Nat → Int32) (cu : Nat) (co tO t0 t1 : Nat → Int32) (sv : Bool) (mg nm : Nat → Int32) (gc : Nat) (go tx : Nat → Int32) (len : Nat) (lo hi : Nat → Nat) (ok : rfOk lo hi n one two own) (hsv : (sv = true ∧ ∀ q, q < 2 ^ n → mg q = iZ (gm_mg lo hi n q) ∧ nm q = iZ (gm_nm lo hi n q)) ∨ sv = false) (hp : lf < 2 ^ n) : kw_I l mn_R_margin (gw mn_R_margin cd_R_margin 1 (some .int)) ({ frames := 5, cells := 0, slots := 0, locals := 113 } : Room) D cl_v (kt kI kB kC kL) kE [.ref (rd 0)] (wRF kI rd th n one two own true lf tu tk cu co tO t0 t1 sv mg nm gc go tx len) (fun r w => r = iZ (gm_mg lo hi n lf) ∧ ∃ mg2 nm2 : Nat → Int32, w = wRF kI rd 0 n one two own true lf tu tk cu co tO t0 t1 true mg2 nm2 gc go tx len ∧ ∀ q, q < 2 ^ n → mg2 q = iZ (gm_mg lo hi n q) ∧ nm2 q = iZ (gm_nm lo hi n q)) 0 0 := by
  refine kw_ofI (cc := cd_R_margin) (maxL := 1) (ty := .int) (by decide) rfl (Nat.le_of_ble_eq_true rfl) rfl ?_
  intro pp ee s m args below meth c A X hr hlk hE hnm
  have hp4 := kq_2n ok.1.1 hp
  refine kw_aload_n X dc_R_margin_0 rfl rfl ?_
  refine kw_callVI X kEw hE 0 rfl rfl (ct_asksT rd th n one two own lf tu tk cu co tO t0 t1 sv mg nm gc go tx len lo hi ok hsv) (cw_V 0 X wd_692 wd_694 wp_11 wd_8 wd_695 rfl rfl (by decide +kernel) ⟨Nat.le_of_ble_eq_true rfl, Nat.le_of_ble_eq_true rfl⟩) [0, 1, 2, 3, 4, 5, 6, 7, 8, 9, 10, 11, 12] rfl (by decide) (fun _ _ h => by obtain ⟨_, g, g2, rfl, _⟩ := h; exact Nat.le_refl _) rfl rfl (Nat.le_of_ble_eq_true rfl) dc_R_margin_1 ⟨Nat.zero_le _, Nat.zero_le _⟩ (fun r w hp => ?_)
  obtain ⟨rfl, mg2, nm2, rfl, tb⟩ := hp
  refine kw_cv (ws' := wRF kI rd 0 n one two own true lf tu tk cu co tO t0 t1 true mg2 nm2 gc go tx len) rfl rfl rfl ?_
  refine kw_if_eq (tgt := 19) X dc_R_margin_4 (by decide) (fun hc4 => ?_) (fun hc4 => ?_)
  · exact absurd hc4 (show ¬ nI 1 = 0 by decide)
  · refine kw_aload_n X dc_R_margin_7 rfl rfl ?_
    refine kw_get X (wc_R _) 0 rfl rfl 15 (by decide) (gq wd_612) (fun _ h => h) rfl dc_R_margin_8 ?_
    refine kw_aload_n X dc_R_margin_11 rfl rfl ?_
    refine kw_get X (wc_R _) 0 rfl rfl 6 (by decide) (gq wd_603) (fun _ h => h) rfl dc_R_margin_12 ?_
    refine kw_iald (v := iZ (gm_mg lo hi n lf)) X 9 0 rfl rfl (kq_in (by omega) (by omega)) (by rw [kq_cl (by omega)]; exact (tb lf hp).1) dc_R_margin_15 ?_
    refine kw_goto (tgt := 20) X dc_R_margin_16 (by decide) ?_
    exact kw_iret X hr hlk dc_R_margin_20 ⟨rfl, mg2, nm2, rfl, tb⟩
set_option maxRecDepth 100000 in
set_option maxHeartbeats 4000000 in
theorem ct_RmarginF {l : Launch} {D : va_G} {kI kB kC kL : ClassId} (rd : Nat → Nat) (th n : Nat) (one two own : Nat → Int32) (lf tu : Nat) (tk : Nat → Int32) (cu : Nat) (co tO t0 t1 : Nat → Int32) (sv : Bool) (mg nm : Nat → Int32) (gc : Nat) (go tx : Nat → Int32) (len : Nat)  : kw_I l mn_R_margin (gw mn_R_margin cd_R_margin 1 (some .int)) ({ frames := 1, cells := 0, slots := 0, locals := 20 } : Room) D cl_v (kt kI kB kC kL) kE [.ref (rd 0)] (wRF kI rd th n one two own false lf tu tk cu co tO t0 t1 sv mg nm gc go tx len) (fun r w => w = wRF kI rd 1 n one two own false lf tu tk cu co tO t0 t1 sv mg nm gc go tx len ∧ r = nI 0) 0 0 := by
  refine kw_ofI (cc := cd_R_margin) (maxL := 1) (ty := .int) (by decide) rfl (Nat.le_of_ble_eq_true rfl) rfl ?_
  intro pp ee s m args below meth c A X hr hlk hE hnm
  refine kw_aload_n X dc_R_margin_0 rfl rfl ?_
  refine kw_callVI X kEw hE 0 rfl rfl (ct_asksF rd th n one two own lf tu tk cu co tO t0 t1 sv mg nm gc go tx len) (cw_V 0 X wd_692 wd_694 wp_11 wd_8 wd_695 rfl rfl (by decide +kernel) ⟨Nat.le_of_ble_eq_true rfl, Nat.le_of_ble_eq_true rfl⟩) [0, 1, 2, 3, 4, 5, 6, 7, 8, 9, 10, 11, 12] rfl (by decide) (fun _ _ h => by obtain ⟨rfl, _⟩ := h; exact Nat.le_refl _) rfl rfl (Nat.le_of_ble_eq_true rfl) dc_R_margin_1 ⟨Nat.zero_le _, Nat.zero_le _⟩ (fun r w hp => ?_)
  obtain ⟨rfl, rfl⟩ := hp
  refine kw_cv (ws' := wRF kI rd 1 n one two own false lf tu tk cu co tO t0 t1 sv mg nm gc go tx len) rfl rfl rfl ?_
  refine kw_if_eq (tgt := 19) X dc_R_margin_4 (by decide) (fun hc4 => ?_) (fun hc4 => ?_)
  · refine kw_iconst (v := (nI 0)) X dc_R_margin_19 (by decide) ?_
    exact kw_iret X hr hlk dc_R_margin_20 ⟨rfl, rfl⟩
  · exact absurd rfl hc4
set_option maxRecDepth 100000 in
set_option maxHeartbeats 4000000 in
theorem ct_RnimT {l : Launch} {D : va_G} {kI kB kC kL : ClassId} (rd : Nat → Nat) (th n : Nat) (one two own : Nat → Int32) (lf tu : Nat) (tk : Nat → Int32) (cu : Nat) (co tO t0 t1 : Nat → Int32) (sv : Bool) (mg nm : Nat → Int32) (gc : Nat) (go tx : Nat → Int32) (len : Nat) (lo hi : Nat → Nat) (ok : rfOk lo hi n one two own) (hsv : (sv = true ∧ ∀ q, q < 2 ^ n → mg q = iZ (gm_mg lo hi n q) ∧ nm q = iZ (gm_nm lo hi n q)) ∨ sv = false) (hp : lf < 2 ^ n) : kw_I l mn_R_nim (gw mn_R_nim cd_R_nim 1 (some .int)) ({ frames := 5, cells := 0, slots := 0, locals := 113 } : Room) D cl_v (kt kI kB kC kL) kE [.ref (rd 0)] (wRF kI rd th n one two own true lf tu tk cu co tO t0 t1 sv mg nm gc go tx len) (fun r w => r = iZ (gm_nm lo hi n lf) ∧ ∃ mg2 nm2 : Nat → Int32, w = wRF kI rd 0 n one two own true lf tu tk cu co tO t0 t1 true mg2 nm2 gc go tx len ∧ ∀ q, q < 2 ^ n → mg2 q = iZ (gm_mg lo hi n q) ∧ nm2 q = iZ (gm_nm lo hi n q)) 0 0 := by
  refine kw_ofI (cc := cd_R_nim) (maxL := 1) (ty := .int) (by decide) rfl (Nat.le_of_ble_eq_true rfl) rfl ?_
  intro pp ee s m args below meth c A X hr hlk hE hnm
  have hp4 := kq_2n ok.1.1 hp
  refine kw_aload_n X dc_R_nim_0 rfl rfl ?_
  refine kw_callVI X kEw hE 0 rfl rfl (ct_asksT rd th n one two own lf tu tk cu co tO t0 t1 sv mg nm gc go tx len lo hi ok hsv) (cw_V 0 X wd_692 wd_694 wp_11 wd_8 wd_695 rfl rfl (by decide +kernel) ⟨Nat.le_of_ble_eq_true rfl, Nat.le_of_ble_eq_true rfl⟩) [0, 1, 2, 3, 4, 5, 6, 7, 8, 9, 10, 11, 12] rfl (by decide) (fun _ _ h => by obtain ⟨_, g, g2, rfl, _⟩ := h; exact Nat.le_refl _) rfl rfl (Nat.le_of_ble_eq_true rfl) dc_R_nim_1 ⟨Nat.zero_le _, Nat.zero_le _⟩ (fun r w hp => ?_)
  obtain ⟨rfl, mg2, nm2, rfl, tb⟩ := hp
  refine kw_cv (ws' := wRF kI rd 0 n one two own true lf tu tk cu co tO t0 t1 true mg2 nm2 gc go tx len) rfl rfl rfl ?_
  refine kw_if_eq (tgt := 19) X dc_R_nim_4 (by decide) (fun hc4 => ?_) (fun hc4 => ?_)
  · exact absurd hc4 (show ¬ nI 1 = 0 by decide)
  · refine kw_aload_n X dc_R_nim_7 rfl rfl ?_
    refine kw_get X (wc_R _) 0 rfl rfl 16 (by decide) (gq wd_613) (fun _ h => h) rfl dc_R_nim_8 ?_
    refine kw_aload_n X dc_R_nim_11 rfl rfl ?_
    refine kw_get X (wc_R _) 0 rfl rfl 6 (by decide) (gq wd_603) (fun _ h => h) rfl dc_R_nim_12 ?_
    refine kw_iald (v := iZ (gm_nm lo hi n lf)) X 10 0 rfl rfl (kq_in (by omega) (by omega)) (by rw [kq_cl (by omega)]; exact (tb lf hp).2) dc_R_nim_15 ?_
    refine kw_goto (tgt := 20) X dc_R_nim_16 (by decide) ?_
    exact kw_iret X hr hlk dc_R_nim_20 ⟨rfl, mg2, nm2, rfl, tb⟩
set_option maxRecDepth 100000 in
set_option maxHeartbeats 4000000 in
theorem ct_RnimF {l : Launch} {D : va_G} {kI kB kC kL : ClassId} (rd : Nat → Nat) (th n : Nat) (one two own : Nat → Int32) (lf tu : Nat) (tk : Nat → Int32) (cu : Nat) (co tO t0 t1 : Nat → Int32) (sv : Bool) (mg nm : Nat → Int32) (gc : Nat) (go tx : Nat → Int32) (len : Nat)  : kw_I l mn_R_nim (gw mn_R_nim cd_R_nim 1 (some .int)) ({ frames := 1, cells := 0, slots := 0, locals := 20 } : Room) D cl_v (kt kI kB kC kL) kE [.ref (rd 0)] (wRF kI rd th n one two own false lf tu tk cu co tO t0 t1 sv mg nm gc go tx len) (fun r w => w = wRF kI rd 1 n one two own false lf tu tk cu co tO t0 t1 sv mg nm gc go tx len ∧ r = nI 0) 0 0 := by
  refine kw_ofI (cc := cd_R_nim) (maxL := 1) (ty := .int) (by decide) rfl (Nat.le_of_ble_eq_true rfl) rfl ?_
  intro pp ee s m args below meth c A X hr hlk hE hnm
  refine kw_aload_n X dc_R_nim_0 rfl rfl ?_
  refine kw_callVI X kEw hE 0 rfl rfl (ct_asksF rd th n one two own lf tu tk cu co tO t0 t1 sv mg nm gc go tx len) (cw_V 0 X wd_692 wd_694 wp_11 wd_8 wd_695 rfl rfl (by decide +kernel) ⟨Nat.le_of_ble_eq_true rfl, Nat.le_of_ble_eq_true rfl⟩) [0, 1, 2, 3, 4, 5, 6, 7, 8, 9, 10, 11, 12] rfl (by decide) (fun _ _ h => by obtain ⟨rfl, _⟩ := h; exact Nat.le_refl _) rfl rfl (Nat.le_of_ble_eq_true rfl) dc_R_nim_1 ⟨Nat.zero_le _, Nat.zero_le _⟩ (fun r w hp => ?_)
  obtain ⟨rfl, rfl⟩ := hp
  refine kw_cv (ws' := wRF kI rd 1 n one two own false lf tu tk cu co tO t0 t1 sv mg nm gc go tx len) rfl rfl rfl ?_
  refine kw_if_eq (tgt := 19) X dc_R_nim_4 (by decide) (fun hc4 => ?_) (fun hc4 => ?_)
  · refine kw_iconst (v := (nI 0)) X dc_R_nim_19 (by decide) ?_
    exact kw_iret X hr hlk dc_R_nim_20 ⟨rfl, rfl⟩
  · exact absurd rfl hc4
set_option maxRecDepth 100000 in
set_option maxHeartbeats 4000000 in
theorem ct_RgoodT {l : Launch} {D : va_G} {kI kB kC kL : ClassId} (rd : Nat → Nat) (th n : Nat) (one two own : Nat → Int32) (lf tu : Nat) (tk : Nat → Int32) (cu : Nat) (co tO t0 t1 : Nat → Int32) (sv : Bool) (mg nm : Nat → Int32) (gc : Nat) (go tx : Nat → Int32) (len : Nat) (lo hi : Nat → Nat) (ok : rfOk lo hi n one two own) (hsv : (sv = true ∧ ∀ q, q < 2 ^ n → mg q = iZ (gm_mg lo hi n q) ∧ nm q = iZ (gm_nm lo hi n q)) ∨ sv = false) (hp : lf < 2 ^ n) : kw_I l mn_R_good (gw mn_R_good cd_R_good 1 (some .int)) ({ frames := 5, cells := 0, slots := 0, locals := 113 } : Room) D cl_v (kt kI kB kC kL) kE [.ref (rd 0)] (wRF kI rd th n one two own true lf tu tk cu co tO t0 t1 sv mg nm gc go tx len) (fun r w => r = nI (gm_good lo hi n lf) ∧ ∃ mg2 nm2 : Nat → Int32, w = wRF kI rd 0 n one two own true lf tu tk cu co tO t0 t1 true mg2 nm2 gc go tx len ∧ ∀ q, q < 2 ^ n → mg2 q = iZ (gm_mg lo hi n q) ∧ nm2 q = iZ (gm_nm lo hi n q)) 0 0 := by
  refine kw_ofI (cc := cd_R_good) (maxL := 1) (ty := .int) (by decide) rfl (Nat.le_of_ble_eq_true rfl) rfl ?_
  intro pp ee s m args below meth c A X hr hlk hE hnm
  refine kw_aload_n X dc_R_good_0 rfl rfl ?_
  refine kw_callVI X kEw hE 0 rfl rfl (ct_asksT rd th n one two own lf tu tk cu co tO t0 t1 sv mg nm gc go tx len lo hi ok hsv) (cw_V 0 X wd_692 wd_694 wp_11 wd_8 wd_695 rfl rfl (by decide +kernel) ⟨Nat.le_of_ble_eq_true rfl, Nat.le_of_ble_eq_true rfl⟩) [0, 1, 2, 3, 4, 5, 6, 7, 8, 9, 10, 11, 12] rfl (by decide) (fun _ _ h => by obtain ⟨_, g, g2, rfl, _⟩ := h; exact Nat.le_refl _) rfl rfl (Nat.le_of_ble_eq_true rfl) dc_R_good_1 ⟨Nat.zero_le _, Nat.zero_le _⟩ (fun r w hp => ?_)
  obtain ⟨rfl, mg2, nm2, rfl, tb⟩ := hp
  refine kw_cv (ws' := wRF kI rd 0 n one two own true lf tu tk cu co tO t0 t1 true mg2 nm2 gc go tx len) rfl rfl rfl ?_
  refine kw_if_eq (tgt := 14) X dc_R_good_4 (by decide) (fun hc4 => ?_) (fun hc4 => ?_)
  · exact absurd hc4 (show ¬ nI 1 = 0 by decide)
  · refine kw_aload_n X dc_R_good_7 rfl rfl ?_
    refine kw_callVI X kEw hE 0 rfl rfl (ct_goodSet rd 0 n one two own true lf tu tk cu co tO t0 t1 true mg2 nm2 gc go tx len lo hi ok hp tb) (cw_V 0 X wd_720 wd_722 wp_17 wd_8 wd_723 rfl rfl (by decide +kernel) ⟨Nat.le_of_ble_eq_true rfl, Nat.le_of_ble_eq_true rfl⟩) [0, 1, 2, 3, 4, 5, 6, 7, 8, 9, 10, 11, 12] rfl (by decide) (fun _ _ h => by obtain ⟨rfl, _⟩ := h; exact Nat.le_refl _) rfl rfl (Nat.le_of_ble_eq_true rfl) dc_R_good_8 ⟨Nat.zero_le _, Nat.zero_le _⟩ (fun r w hp => ?_)
    obtain ⟨rfl, rfl⟩ := hp
    refine kw_cv (ws' := wRF kI rd 0 n one two own true lf tu tk cu co tO t0 t1 true mg2 nm2 gc go tx len) rfl rfl rfl ?_
    refine kw_goto (tgt := 15) X dc_R_good_11 (by decide) ?_
    exact kw_iret X hr hlk dc_R_good_15 ⟨rfl, mg2, nm2, rfl, tb⟩
set_option maxRecDepth 100000 in
set_option maxHeartbeats 4000000 in
theorem ct_RgoodF {l : Launch} {D : va_G} {kI kB kC kL : ClassId} (rd : Nat → Nat) (th n : Nat) (one two own : Nat → Int32) (lf tu : Nat) (tk : Nat → Int32) (cu : Nat) (co tO t0 t1 : Nat → Int32) (sv : Bool) (mg nm : Nat → Int32) (gc : Nat) (go tx : Nat → Int32) (len : Nat)  : kw_I l mn_R_good (gw mn_R_good cd_R_good 1 (some .int)) ({ frames := 1, cells := 0, slots := 0, locals := 20 } : Room) D cl_v (kt kI kB kC kL) kE [.ref (rd 0)] (wRF kI rd th n one two own false lf tu tk cu co tO t0 t1 sv mg nm gc go tx len) (fun r w => w = wRF kI rd 1 n one two own false lf tu tk cu co tO t0 t1 sv mg nm gc go tx len ∧ r = nI 0) 0 0 := by
  refine kw_ofI (cc := cd_R_good) (maxL := 1) (ty := .int) (by decide) rfl (Nat.le_of_ble_eq_true rfl) rfl ?_
  intro pp ee s m args below meth c A X hr hlk hE hnm
  refine kw_aload_n X dc_R_good_0 rfl rfl ?_
  refine kw_callVI X kEw hE 0 rfl rfl (ct_asksF rd th n one two own lf tu tk cu co tO t0 t1 sv mg nm gc go tx len) (cw_V 0 X wd_692 wd_694 wp_11 wd_8 wd_695 rfl rfl (by decide +kernel) ⟨Nat.le_of_ble_eq_true rfl, Nat.le_of_ble_eq_true rfl⟩) [0, 1, 2, 3, 4, 5, 6, 7, 8, 9, 10, 11, 12] rfl (by decide) (fun _ _ h => by obtain ⟨rfl, _⟩ := h; exact Nat.le_refl _) rfl rfl (Nat.le_of_ble_eq_true rfl) dc_R_good_1 ⟨Nat.zero_le _, Nat.zero_le _⟩ (fun r w hp => ?_)
  obtain ⟨rfl, rfl⟩ := hp
  refine kw_cv (ws' := wRF kI rd 1 n one two own false lf tu tk cu co tO t0 t1 sv mg nm gc go tx len) rfl rfl rfl ?_
  refine kw_if_eq (tgt := 14) X dc_R_good_4 (by decide) (fun hc4 => ?_) (fun hc4 => ?_)
  · refine kw_iconst (v := (nI 0)) X dc_R_good_14 (by decide) ?_
    exact kw_iret X hr hlk dc_R_good_15 ⟨rfl, rfl⟩
  · exact absurd rfl hc4
set_option maxRecDepth 100000 in
set_option maxHeartbeats 4000000 in
theorem ct_RmadT {l : Launch} {D : va_G} {kI kB kC kL : ClassId} (rd : Nat → Nat) (th n : Nat) (one two own : Nat → Int32) (lf tu : Nat) (tk : Nat → Int32) (cu : Nat) (co tO t0 t1 : Nat → Int32) (sv : Bool) (mg nm : Nat → Int32) (gc : Nat) (go tx : Nat → Int32) (len : Nat) (lo hi : Nat → Nat) (ok : rfOk lo hi n one two own) (hsv : (sv = true ∧ ∀ q, q < 2 ^ n → mg q = iZ (gm_mg lo hi n q) ∧ nm q = iZ (gm_nm lo hi n q)) ∨ sv = false) (hp : lf < 2 ^ n) : kw_I l mn_R_mad (gw mn_R_mad cd_R_mad 4 (some .int)) ({ frames := 5, cells := 0, slots := 0, locals := 113 } : Room) D cl_v (kt kI kB kC kL) kE [.ref (rd 0)] (wRF kI rd th n one two own true lf tu tk cu co tO t0 t1 sv mg nm gc go tx len) (fun r w => r = nI (gm_mad lo hi n lf) ∧ ∃ mg2 nm2 : Nat → Int32, w = wRF kI rd 0 n one two own true lf tu tk cu co tO t0 t1 true mg2 nm2 gc go tx len ∧ ∀ q, q < 2 ^ n → mg2 q = iZ (gm_mg lo hi n q) ∧ nm2 q = iZ (gm_nm lo hi n q)) 0 0 := by
  refine kw_ofI (cc := cd_R_mad) (maxL := 4) (ty := .int) (by decide) rfl (Nat.le_of_ble_eq_true rfl) rfl ?_
  intro pp ee s m args below meth c A X hr hlk hE hnm
  have hn := ok.1.1
  have hp4 := kq_2n hn hp
  refine kw_aload_n X dc_R_mad_0 rfl rfl ?_
  refine kw_callVI X kEw hE 0 rfl rfl (ct_asksT rd th n one two own lf tu tk cu co tO t0 t1 sv mg nm gc go tx len lo hi ok hsv) (cw_V 0 X wd_692 wd_694 wp_11 wd_8 wd_695 rfl rfl (by decide +kernel) ⟨Nat.le_of_ble_eq_true rfl, Nat.le_of_ble_eq_true rfl⟩) [0, 1, 2, 3, 4, 5, 6, 7, 8, 9, 10, 11, 12] rfl (by decide) (fun _ _ h => by obtain ⟨_, g, g2, rfl, _⟩ := h; exact Nat.le_refl _) rfl rfl (Nat.le_of_ble_eq_true rfl) dc_R_mad_1 ⟨Nat.zero_le _, Nat.zero_le _⟩ (fun r w hp => ?_)
  obtain ⟨rfl, mg2, nm2, rfl, tb⟩ := hp
  refine kw_cv (ws' := wRF kI rd 0 n one two own true lf tu tk cu co tO t0 t1 true mg2 nm2 gc go tx len) rfl rfl rfl ?_
  refine kw_if_ne (tgt := 9) X dc_R_mad_4 (by decide) (fun hc4 => ?_) (fun hc4 => ?_)
  · refine kw_iconst (v := (nI 0)) X dc_R_mad_9 (by decide) ?_
    refine kw_istore_n X dc_R_mad_10 rfl (by decide) ?_
    refine kw_iconst (v := (nI 0)) X dc_R_mad_11 (by decide) ?_
    refine kw_istore_n X dc_R_mad_12 rfl (by decide) ?_
    refine kw_loop (α := Nat) (fun k => k ≤ n) (fun k => n - k) (fun _ => wRF kI rd 0 n one two own true lf tu tk cu co tO t0 t1 true mg2 nm2 gc go tx len) (fun k => [some (.ref (rd 0)), some (.int (nI (gm_ms (fun i => lf.testBit i && (decide (gm_tk lo hi n lf i = 0) && decide (gm_nm lo hi n (bq_wo lf i) = -1))) k))), some (.int (nI k)), none]) (fun _ => []) 0 (Nat.zero_le _) (fun k hk ih => ?_)
    refine kw_iload_n X dc_R_mad_13 rfl rfl ?_
    refine kw_aload_n X dc_R_mad_14 rfl rfl ?_
    refine kw_get X (wc_R _) 0 rfl rfl 1 (by decide) (gq wd_598) (fun _ h => h) rfl dc_R_mad_15 ?_
    refine kw_icmp_ge (tgt := 79) X dc_R_mad_18 (by decide) (fun hc18 => ?_) (fun hc18 => ?_)
    · refine kw_iload_n X dc_R_mad_79 rfl rfl ?_
      exact kw_iret X hr hlk dc_R_mad_80 ⟨by have hkn : n = k := Nat.le_antisymm (kq_le hc18) hk; subst hkn; rfl, mg2, nm2, rfl, tb⟩
    · have hkn := kq_nle hc18
      refine kw_aload_n X dc_R_mad_21 rfl rfl ?_
      refine kw_get X (wc_R _) 0 rfl rfl 6 (by decide) (gq wd_603) (fun _ h => h) rfl dc_R_mad_22 ?_
      refine kw_iconst (v := (nI 1)) X dc_R_mad_25 (by decide) ?_
      refine kw_iload_n X dc_R_mad_26 rfl rfl ?_
      refine kw_ishl X dc_R_mad_27 rfl ?_
      refine kw_iconst (v := (-1)) X dc_R_mad_28 (by decide) ?_
      refine kw_ixor X dc_R_mad_29 rfl ?_
      refine kw_iand (v := nI (bq_wo lf k)) X dc_R_mad_30 (bq_woI (by omega)) ?_
      refine kw_istore_n X dc_R_mad_31 rfl (by decide) ?_
      refine kw_aload_n X dc_R_mad_32 rfl rfl ?_
      refine kw_get X (wc_R _) 0 rfl rfl 6 (by decide) (gq wd_603) (fun _ h => h) rfl dc_R_mad_33 ?_
      refine kw_iload_n X dc_R_mad_36 rfl rfl ?_
      refine kw_ishr X dc_R_mad_37 rfl ?_
      refine kw_iconst (v := (nI 1)) X dc_R_mad_38 (by decide) ?_
      refine kw_iand X dc_R_mad_39 rfl ?_
      refine kw_iconst (v := (nI 1)) X dc_R_mad_40 (by decide) ?_
      refine kw_icmp_ne (tgt := 71) X dc_R_mad_41 (by decide) (fun hc41 => ?_) (fun hc41 => ?_)
      · have h41 : ¬ lf.testBit k = true := fun z => hc41 ((kq_has (by omega) (by omega)).mpr z)
        refine kw_iload_n X dc_R_mad_71 rfl rfl ?_
        refine kw_istore_n X dc_R_mad_72 rfl (by decide) ?_
        refine kw_iinc (v := nI (k + 1)) X dc_R_mad_73 rfl (kq_inc k) (by decide) ?_
        refine kw_goto (tgt := 13) X dc_R_mad_76 (by decide) ?_
        refine kw_kill 3 ?_
        refine kw_cv (lv' := [some (.ref (rd 0)), some (.int (nI (gm_ms (fun i => lf.testBit i && (decide (gm_tk lo hi n lf i = 0) && decide (gm_nm lo hi n (bq_wo lf i) = -1))) (k + 1)))), some (.int (nI (k + 1))), none]) rfl (by first | rfl | (rw [gm_ms_no (q := (fun i => lf.testBit i && (decide (gm_tk lo hi n lf i = 0) && decide (gm_nm lo hi n (bq_wo lf i) = -1)))) (kq_f3 h9)]; rfl) | (rw [gm_ms_no (q := (fun i => lf.testBit i && (decide (gm_tk lo hi n lf i = 0) && decide (gm_nm lo hi n (bq_wo lf i) = -1)))) (kq_f1 h41)]; rfl)) rfl ?_
        exact ih (k + 1) (by omega) (by omega)
      · have h41 := (kq_has (by omega) (by omega)).mp hc41
        have hlt := bq_wo_lt h41
        have b12 := gm_nm_11 (lo := lo) (hi := hi) hn hp hkn h41
        have ht2 := gm_tk_2 lo hi n lf k
        refine kw_aload_n X dc_R_mad_44 rfl rfl ?_
        refine kw_iload_n X dc_R_mad_45 rfl rfl ?_
        refine kw_iload_n X dc_R_mad_46 rfl rfl ?_
        refine kw_callVI X kEw hE 0 rfl rfl (ct_takes rd 0 n one two own true lf tu tk cu co tO t0 t1 true mg2 nm2 gc go tx len lo hi ok lf k hp hkn h41) (cw_V 2 X wd_708 wd_710 wp_15 wd_8 wd_711 rfl rfl (by decide +kernel) ⟨Nat.le_of_ble_eq_true rfl, Nat.le_of_ble_eq_true rfl⟩) [0, 1, 2, 3, 4, 5, 6, 7, 8, 9, 10, 11, 12] rfl (by decide) (fun _ _ h => by obtain ⟨rfl, _⟩ := h; exact Nat.le_refl _) rfl rfl (Nat.le_of_ble_eq_true rfl) dc_R_mad_47 ⟨Nat.zero_le _, Nat.zero_le _⟩ (fun r w hp => ?_)
        obtain ⟨rfl, rfl⟩ := hp
        refine kw_cv (ws' := wRF kI rd 0 n one two own true lf tu tk cu co tO t0 t1 true mg2 nm2 gc go tx len) rfl rfl rfl ?_
        refine kw_if_ne (tgt := 71) X dc_R_mad_50 (by decide) (fun hc50 => ?_) (fun hc50 => ?_)
        · have h9 : ¬ (gm_tk lo hi n lf k = 0 ∧ gm_nm lo hi n (bq_wo lf k) = -1) := fun z => kq_ne (b := 0) hc50 (by omega) (by omega) z.1
          refine kw_iload_n X dc_R_mad_71 rfl rfl ?_
          refine kw_istore_n X dc_R_mad_72 rfl (by decide) ?_
          refine kw_iinc (v := nI (k + 1)) X dc_R_mad_73 rfl (kq_inc k) (by decide) ?_
          refine kw_goto (tgt := 13) X dc_R_mad_76 (by decide) ?_
          refine kw_kill 3 ?_
          refine kw_cv (lv' := [some (.ref (rd 0)), some (.int (nI (gm_ms (fun i => lf.testBit i && (decide (gm_tk lo hi n lf i = 0) && decide (gm_nm lo hi n (bq_wo lf i) = -1))) (k + 1)))), some (.int (nI (k + 1))), none]) rfl (by first | rfl | (rw [gm_ms_no (q := (fun i => lf.testBit i && (decide (gm_tk lo hi n lf i = 0) && decide (gm_nm lo hi n (bq_wo lf i) = -1)))) (kq_f3 h9)]; rfl) | (rw [gm_ms_no (q := (fun i => lf.testBit i && (decide (gm_tk lo hi n lf i = 0) && decide (gm_nm lo hi n (bq_wo lf i) = -1)))) (kq_f1 h41)]; rfl)) rfl ?_
          exact ih (k + 1) (by omega) (by omega)
        · have h50 := kq_eq (b := 0) hc50
          refine kw_aload_n X dc_R_mad_53 rfl rfl ?_
          refine kw_get X (wc_R _) 0 rfl rfl 16 (by decide) (gq wd_613) (fun _ h => h) rfl dc_R_mad_54 ?_
          refine kw_iload_n X dc_R_mad_57 rfl rfl ?_
          refine kw_iald (v := iZ (gm_nm lo hi n (bq_wo lf k))) X 10 0 rfl rfl (kq_in (by omega) (by omega)) (by rw [kq_cl (by omega)]; exact (tb _ (by omega)).2) dc_R_mad_58 ?_
          refine kw_iconst (v := (-1)) X dc_R_mad_59 (by decide) ?_
          refine kw_icmp_ne (tgt := 71) X dc_R_mad_60 (by decide) (fun hc60 => ?_) (fun hc60 => ?_)
          · have h9 : ¬ (gm_tk lo hi n lf k = 0 ∧ gm_nm lo hi n (bq_wo lf k) = -1) := fun z => hc60 (by rw [z.2]; exact iZ_m1)
            refine kw_iload_n X dc_R_mad_71 rfl rfl ?_
            refine kw_istore_n X dc_R_mad_72 rfl (by decide) ?_
            refine kw_iinc (v := nI (k + 1)) X dc_R_mad_73 rfl (kq_inc k) (by decide) ?_
            refine kw_goto (tgt := 13) X dc_R_mad_76 (by decide) ?_
            refine kw_kill 3 ?_
            refine kw_cv (lv' := [some (.ref (rd 0)), some (.int (nI (gm_ms (fun i => lf.testBit i && (decide (gm_tk lo hi n lf i = 0) && decide (gm_nm lo hi n (bq_wo lf i) = -1))) (k + 1)))), some (.int (nI (k + 1))), none]) rfl (by first | rfl | (rw [gm_ms_no (q := (fun i => lf.testBit i && (decide (gm_tk lo hi n lf i = 0) && decide (gm_nm lo hi n (bq_wo lf i) = -1)))) (kq_f3 h9)]; rfl) | (rw [gm_ms_no (q := (fun i => lf.testBit i && (decide (gm_tk lo hi n lf i = 0) && decide (gm_nm lo hi n (bq_wo lf i) = -1)))) (kq_f1 h41)]; rfl)) rfl ?_
            exact ih (k + 1) (by omega) (by omega)
          · have h60 : gm_nm lo hi n (bq_wo lf k) = -1 := (iZ_inj (b := -1) (by omega) (by omega) (by omega) (by omega)).mp hc60
            refine kw_iload_n X dc_R_mad_63 rfl rfl ?_
            refine kw_iconst (v := (nI 1)) X dc_R_mad_64 (by decide) ?_
            refine kw_iload_n X dc_R_mad_65 rfl rfl ?_
            refine kw_ishl (v := nI (2 ^ k)) X dc_R_mad_66 (bq_shl (by omega)) ?_
            refine kw_ior (v := nI (gm_ms (fun i => lf.testBit i && (decide (gm_tk lo hi n lf i = 0) && decide (gm_nm lo hi n (bq_wo lf i) = -1))) (k + 1))) X dc_R_mad_67 (by rw [bq_or, show gm_ms (fun i => lf.testBit i && (decide (gm_tk lo hi n lf i = 0) && decide (gm_nm lo hi n (bq_wo lf i) = -1))) (k + 1) = gm_ms (fun i => lf.testBit i && (decide (gm_tk lo hi n lf i = 0) && decide (gm_nm lo hi n (bq_wo lf i) = -1))) k ||| 2 ^ k from if_pos (by simp [h41, h50, h60])]) ?_
            refine kw_goto (tgt := 72) X dc_R_mad_68 (by decide) ?_
            refine kw_istore_n X dc_R_mad_72 rfl (by decide) ?_
            refine kw_iinc (v := nI (k + 1)) X dc_R_mad_73 rfl (kq_inc k) (by decide) ?_
            refine kw_goto (tgt := 13) X dc_R_mad_76 (by decide) ?_
            refine kw_kill 3 ?_
            refine kw_cv (lv' := [some (.ref (rd 0)), some (.int (nI (gm_ms (fun i => lf.testBit i && (decide (gm_tk lo hi n lf i = 0) && decide (gm_nm lo hi n (bq_wo lf i) = -1))) (k + 1)))), some (.int (nI (k + 1))), none]) rfl (by first | rfl | (rw [gm_ms_no (q := (fun i => lf.testBit i && (decide (gm_tk lo hi n lf i = 0) && decide (gm_nm lo hi n (bq_wo lf i) = -1)))) (kq_f3 h9)]; rfl) | (rw [gm_ms_no (q := (fun i => lf.testBit i && (decide (gm_tk lo hi n lf i = 0) && decide (gm_nm lo hi n (bq_wo lf i) = -1)))) (kq_f1 h41)]; rfl)) rfl ?_
            exact ih (k + 1) (by omega) (by omega)
  · exact absurd hc4 (show ¬ nI 1 = 0 by decide)
set_option maxRecDepth 100000 in
set_option maxHeartbeats 4000000 in
theorem ct_RmadF {l : Launch} {D : va_G} {kI kB kC kL : ClassId} (rd : Nat → Nat) (th n : Nat) (one two own : Nat → Int32) (lf tu : Nat) (tk : Nat → Int32) (cu : Nat) (co tO t0 t1 : Nat → Int32) (sv : Bool) (mg nm : Nat → Int32) (gc : Nat) (go tx : Nat → Int32) (len : Nat)  : kw_I l mn_R_mad (gw mn_R_mad cd_R_mad 4 (some .int)) ({ frames := 1, cells := 0, slots := 0, locals := 20 } : Room) D cl_v (kt kI kB kC kL) kE [.ref (rd 0)] (wRF kI rd th n one two own false lf tu tk cu co tO t0 t1 sv mg nm gc go tx len) (fun r w => w = wRF kI rd 1 n one two own false lf tu tk cu co tO t0 t1 sv mg nm gc go tx len ∧ r = nI 0) 0 0 := by
  refine kw_ofI (cc := cd_R_mad) (maxL := 4) (ty := .int) (by decide) rfl (Nat.le_of_ble_eq_true rfl) rfl ?_
  intro pp ee s m args below meth c A X hr hlk hE hnm
  refine kw_aload_n X dc_R_mad_0 rfl rfl ?_
  refine kw_callVI X kEw hE 0 rfl rfl (ct_asksF rd th n one two own lf tu tk cu co tO t0 t1 sv mg nm gc go tx len) (cw_V 0 X wd_692 wd_694 wp_11 wd_8 wd_695 rfl rfl (by decide +kernel) ⟨Nat.le_of_ble_eq_true rfl, Nat.le_of_ble_eq_true rfl⟩) [0, 1, 2, 3, 4, 5, 6, 7, 8, 9, 10, 11, 12] rfl (by decide) (fun _ _ h => by obtain ⟨rfl, _⟩ := h; exact Nat.le_refl _) rfl rfl (Nat.le_of_ble_eq_true rfl) dc_R_mad_1 ⟨Nat.zero_le _, Nat.zero_le _⟩ (fun r w hp => ?_)
  obtain ⟨rfl, rfl⟩ := hp
  refine kw_cv (ws' := wRF kI rd 1 n one two own false lf tu tk cu co tO t0 t1 sv mg nm gc go tx len) rfl rfl rfl ?_
  refine kw_if_ne (tgt := 9) X dc_R_mad_4 (by decide) (fun hc4 => ?_) (fun hc4 => ?_)
  · exact absurd rfl hc4
  · refine kw_iconst (v := (nI 0)) X dc_R_mad_7 (by decide) ?_
    exact kw_iret X hr hlk dc_R_mad_8 ⟨rfl, rfl⟩
set_option maxRecDepth 100000 in
set_option maxHeartbeats 4000000 in
theorem ct_thrown {l : Launch} {D : va_G} {kI kB kC kL : ClassId} (rd : Nat → Nat) (th n : Nat) (one two own : Nat → Int32) (bg : Bool) (lf tu : Nat) (tk : Nat → Int32) (cu : Nat) (co tO t0 t1 : Nat → Int32) (sv : Bool) (mg nm : Nat → Int32) (gc : Nat) (go tx : Nat → Int32) (len : Nat)  : kw_I l mn_R_thrown (gw mn_R_thrown cd_R_thrown 1 (some .int)) ({ frames := 0, cells := 0, slots := 0, locals := 0 } : Room) D cl_v (kt kI kB kC kL) kE [.ref (rd 0)] (wRF kI rd th n one two own bg lf tu tk cu co tO t0 t1 sv mg nm gc go tx len) (fun r w => w = wRF kI rd th n one two own bg lf tu tk cu co tO t0 t1 sv mg nm gc go tx len ∧ r = nI th) 0 0 := by
  refine kw_ofI (cc := cd_R_thrown) (maxL := 1) (ty := .int) (by decide) rfl (Nat.le_of_ble_eq_true rfl) rfl ?_
  intro pp ee s m args below meth c A X hr hlk hE hnm
  refine kw_aload_n X dc_R_thrown_0 rfl rfl ?_
  refine kw_get X (wc_R _) 0 rfl rfl 0 (by decide) (gq wd_597) (fun _ h => h) rfl dc_R_thrown_1 ?_
  exact kw_iret X hr hlk dc_R_thrown_4 ⟨rfl, rfl⟩
