/-! the class in the state: strings n, lo, hi; begun; the cuts, newest first; the text -/
def csC (lo hi : Nat → Nat) (n : Nat) (cst ct : Nat → Int32) : List Nat → Prop
  | [] => True
  | i :: r => cst r.length = nI i ∧ ct r.length = nI (gm_run lo hi n r).2.1 ∧ csC lo hi n cst ct r
theorem csC_upd {lo hi : Nat → Nat} {n : Nat} {cst ct : Nat → Int32} {k : Nat} {a b : Int32} : ∀ {cs : List Nat}, cs.length ≤ k → csC lo hi n cst ct cs → csC lo hi n (upd cst k a) (upd ct k b) cs := by
  intro cs
  induction cs with
  | nil => intro _ _; exact trivial
  | cons i r ih =>
    intro hk h
    obtain ⟨h1, h2, h5⟩ := h
    have hl : r.length ≠ k := by
      have : (i :: r).length = r.length + 1 := rfl
      omega
    exact ⟨by rw [pk_un hl]; exact h1, by rw [pk_un hl]; exact h2, ih (Nat.le_of_succ_le hk) h5⟩
def csP (kI kB kC : ClassId) (ad : Nat → Nat) (n : Nat) (lo hi : Nat → Nat) (bg : Bool) (cs T : List Nat) (w : va_W) : Prop :=
  ∃ (les oth soc : Nat → Int32) (rM : Int32) (fM : Nat → Int32) (rN : Int32) (fN La ch cst ct tk : Nat → Int32),
    w = wCS kI kB kC ad n les oth soc rM fM rN fN La T.length ch cst ct tk cs.length (gm_run lo hi n cs).1 (gm_run lo hi n cs).2.1 bg ∧ gm_val lo hi n cs ∧ (bg = false → cs = []) ∧ webOk lo hi n les oth soc ∧ txOk T ch ∧
    (tk 0 = nI (gm_run lo hi n cs).2.2.1 ∧ tk 1 = nI (gm_run lo hi n cs).2.2.2) ∧ csC lo hi n cst ct cs ∧
    (bg = true → ((rM = nI 1 ∧ ∀ q, q < 2 ^ n → fM q = iZ (gm_mg lo hi n q)) ∨ rM = nI 0) ∧ ((rN = nI 1 ∧ ∀ q, q < 2 ^ n → fN q = iZ (gm_nm lo hi n q)) ∨ rN = nI 0))
theorem csP_len {kI kB kC : ClassId} {ad : Nat → Nat} {n : Nat} {lo hi : Nat → Nat} {bg : Bool} {cs T : List Nat} {w : va_W} (h : csP kI kB kC ad n lo hi bg cs T w) : 16 ≤ w.length := by
  obtain ⟨les, oth, soc, rM, fM, rN, fN, La, ch, cst, ct, tk, rfl, -⟩ := h
  exact Nat.le_refl _
theorem cs_un {tk : Nat → Int32} {A B U t : Nat} (hU : U ≤ 1) (k0 : tk 0 = nI (A + (if U = 0 then t else 0))) (k1 : tk 1 = nI (B + (if U = 0 then 0 else t))) : upd tk U (tk U - nI t) 0 = nI A ∧ upd tk U (tk U - nI t) 1 = nI B := by
  rcases (show U = 0 ∨ U = 1 by omega) with e | e
  · subst e
    rw [if_pos rfl] at k0 k1
    refine ⟨?_, ?_⟩
    · rw [pk_us, k0]; exact (pk_sub (Nat.le_add_left t A)).trans (congrArg nI (Nat.add_sub_cancel A t))
    · rw [pk_un (by decide), k1]; rfl
  · subst e
    rw [if_neg (by decide)] at k0 k1
    refine ⟨?_, ?_⟩
    · rw [pk_un (by decide), k0]; rfl
    · rw [pk_us, k1]; exact (pk_sub (Nat.le_add_left t B)).trans (congrArg nI (Nat.add_sub_cancel B t))
set_option maxRecDepth 100000 in
set_option maxHeartbeats 4000000 in
theorem ct_reqT {l : Launch} {D : va_G} {kI kB kC kL : ClassId} (ad : Nat → Nat) (k p u : Nat) : kw_V l mn_C_requireBegun (gw mn_C_requireBegun cd_C_requireBegun 1 none) ({ frames := 0, cells := 0, slots := 0, locals := 0 } : Room) D cl_v (kt kI kB kC kL) kE [.ref (ad 0)] ([(ad 0, .inr (0, [.ref (ad 1), .ref (ad 5), .ref (ad 7), .ref (ad 9), .ref (ad 11), .ref (ad 13), .ref (ad 14), .ref (ad 15), .int (nI k), .int (nI p), .int (nI u), .int (bI true)]))]) (fun w => w = [(ad 0, .inr (0, [.ref (ad 1), .ref (ad 5), .ref (ad 7), .ref (ad 9), .ref (ad 11), .ref (ad 13), .ref (ad 14), .ref (ad 15), .int (nI k), .int (nI p), .int (nI u), .int (bI true)]))]) 0 0 := by
  refine kw_ofV (cc := cd_C_requireBegun) (maxL := 1) (by decide) rfl (Nat.le_of_ble_eq_true rfl) rfl ?_
  intro pp ee s m args below meth c A X hr hlk hE hnm
  refine kw_aload_n X dc_C_requireBegun_0 rfl rfl ?_
  refine kw_get X (wc_C _) 0 rfl rfl 11 (by decide) (gq wd_126) (fun _ h => h) rfl dc_C_requireBegun_1 ?_
  refine kw_if_ne (tgt := 15) X dc_C_requireBegun_4 (by decide) (fun hc4 => ?_) (fun hc4 => ?_)
  · exact kw_vret X hr hlk dc_C_requireBegun_15 rfl
  · exact absurd hc4 (show ¬ bI true = 0 by decide)
set_option maxRecDepth 100000 in
set_option maxHeartbeats 4000000 in
theorem ct_Cturn {l : Launch} {D : va_G} {kI kB kC kL : ClassId} (ad : Nat → Nat) (n : Nat) (lo hi : Nat → Nat) (bg : Bool) (cs T : List Nat) (w0 : va_W) (h : csP kI kB kC ad n lo hi bg cs T w0)  : kw_I l mn_C_turn (gw mn_C_turn cd_C_turn 1 (some .int)) ({ frames := 0, cells := 0, slots := 0, locals := 0 } : Room) D cl_v (kt kI kB kC kL) kE [.ref (ad 0)] (w0) (fun r w => r = nI (gm_run lo hi n cs).2.1 ∧ csP kI kB kC ad n lo hi bg cs T w) 0 0 := by
  obtain ⟨les, oth, soc, rM, fM, rN, fN, La, ch, cst, ct, tk, rfl, zv, zb, ok, hX, ⟨k0, k1⟩, hC, hM⟩ := h
  refine kw_ofI (cc := cd_C_turn) (maxL := 1) (ty := .int) (by decide) rfl (Nat.le_of_ble_eq_true rfl) rfl ?_
  intro pp ee s m args below meth c A X hr hlk hE hnm
  refine kw_aload_n X dc_C_turn_0 rfl rfl ?_
  refine kw_get X (wc_C _) 0 rfl rfl 10 (by decide) (gq wd_125) (fun _ h => h) rfl dc_C_turn_1 ?_
  exact kw_iret X hr hlk dc_C_turn_4 ⟨rfl, les, oth, soc, rM, fM, rN, fN, La, ch, cst, ct, tk, rfl, zv, zb, ok, hX, ⟨k0, k1⟩, hC, hM⟩
set_option maxRecDepth 100000 in
set_option maxHeartbeats 4000000 in
theorem ct_Cleft {l : Launch} {D : va_G} {kI kB kC kL : ClassId} (ad : Nat → Nat) (n : Nat) (lo hi : Nat → Nat) (bg : Bool) (cs T : List Nat) (w0 : va_W) (h : csP kI kB kC ad n lo hi bg cs T w0)  : kw_I l mn_C_left (gw mn_C_left cd_C_left 1 (some .int)) ({ frames := 0, cells := 0, slots := 0, locals := 0 } : Room) D cl_v (kt kI kB kC kL) kE [.ref (ad 0)] (w0) (fun r w => r = nI (gm_run lo hi n cs).1 ∧ csP kI kB kC ad n lo hi bg cs T w) 0 0 := by
  obtain ⟨les, oth, soc, rM, fM, rN, fN, La, ch, cst, ct, tk, rfl, zv, zb, ok, hX, ⟨k0, k1⟩, hC, hM⟩ := h
  refine kw_ofI (cc := cd_C_left) (maxL := 1) (ty := .int) (by decide) rfl (Nat.le_of_ble_eq_true rfl) rfl ?_
  intro pp ee s m args below meth c A X hr hlk hE hnm
  refine kw_aload_n X dc_C_left_0 rfl rfl ?_
  refine kw_get X (wc_C _) 0 rfl rfl 9 (by decide) (gq wd_124) (fun _ h => h) rfl dc_C_left_1 ?_
  exact kw_iret X hr hlk dc_C_left_4 ⟨rfl, les, oth, soc, rM, fM, rN, fN, La, ch, cst, ct, tk, rfl, zv, zb, ok, hX, ⟨k0, k1⟩, hC, hM⟩
set_option maxRecDepth 100000 in
set_option maxHeartbeats 4000000 in
theorem ct_CtakenT {l : Launch} {D : va_G} {kI kB kC kL : ClassId} (ad : Nat → Nat) (n : Nat) (lo hi : Nat → Nat) (bg : Bool) (cs T : List Nat) (w0 : va_W) (h : csP kI kB kC ad n lo hi bg cs T w0) (j : Nat) (hj : j < 2) : kw_I l mn_C_taken (gw mn_C_taken cd_C_taken 2 (some .int)) ({ frames := 0, cells := 0, slots := 0, locals := 0 } : Room) D cl_v (kt kI kB kC kL) kE [.ref (ad 0), .int (nI j)] (w0) (fun r w => r = nI (if j = 0 then (gm_run lo hi n cs).2.2.1 else (gm_run lo hi n cs).2.2.2) ∧ csP kI kB kC ad n lo hi bg cs T w) 0 0 := by
  obtain ⟨les, oth, soc, rM, fM, rN, fN, La, ch, cst, ct, tk, rfl, zv, zb, ok, hX, ⟨k0, k1⟩, hC, hM⟩ := h
  refine kw_ofI (cc := cd_C_taken) (maxL := 2) (ty := .int) (by decide) rfl (Nat.le_of_ble_eq_true rfl) rfl ?_
  intro pp ee s m args below meth c A X hr hlk hE hnm
  have hv : tk j = nI (if j = 0 then (gm_run lo hi n cs).2.2.1 else (gm_run lo hi n cs).2.2.2) := by
    by_cases h2 : j = 0
    · rw [if_pos h2, h2]; exact k0
    · rw [if_neg h2, show j = 1 by omega]; exact k1
  refine kw_iload_n X dc_C_taken_0 rfl rfl ?_
  refine kw_if_lt (tgt := 9) X dc_C_taken_1 (by decide) (fun hc1 => ?_) (fun hc1 => ?_)
  · exact absurd hc1 (Int32.not_lt.mpr (nI_nn (by omega)))
  · refine kw_iload_n X dc_C_taken_4 rfl rfl ?_
    refine kw_iconst (v := (nI 2)) X dc_C_taken_5 (by decide) ?_
    refine kw_icmp_lt (tgt := 17) X dc_C_taken_6 (by decide) (fun hc6 => ?_) (fun hc6 => ?_)
    · refine kw_aload_n X dc_C_taken_17 rfl rfl ?_
      refine kw_get X (wc_C _) 0 rfl rfl 7 (by decide) (gq wd_122) (fun _ h => h) rfl dc_C_taken_18 ?_
      refine kw_iload_n X dc_C_taken_21 rfl rfl ?_
      refine kw_iald (v := nI (if j = 0 then (gm_run lo hi n cs).2.2.1 else (gm_run lo hi n cs).2.2.2)) X 15 0 rfl rfl (kq_in hj (by omega)) (by rw [kq_cl (by omega)]; exact hv) dc_C_taken_22 ?_
      exact kw_iret X hr hlk dc_C_taken_23 ⟨rfl, les, oth, soc, rM, fM, rN, fN, La, ch, cst, ct, tk, rfl, zv, zb, ok, hX, ⟨k0, k1⟩, hC, hM⟩
    · exact absurd ((nI_ltI (by omega) (by omega)).mpr hj) hc6
set_option maxRecDepth 100000 in
set_option maxHeartbeats 4000000 in
theorem ct_CstringsT {l : Launch} {D : va_G} {kI kB kC kL : ClassId} (ad : Nat → Nat) (n : Nat) (lo hi : Nat → Nat) (bg : Bool) (cs T : List Nat) (w0 : va_W) (h : csP kI kB kC ad n lo hi bg cs T w0) (c0 : Nat) (hc : c0 < 8) : kw_I l mn_C_strings (gw mn_C_strings cd_C_strings 2 (some .int)) ({ frames := 2, cells := 0, slots := 0, locals := 42 } : Room) D cl_v (kt kI kB kC kL) kE [.ref (ad 0), .int (nI c0)] (w0) (fun r w => r = nI (gm_pc ((gm_run lo hi n cs).1 &&& gm_mk lo hi n c0)) ∧ csP kI kB kC ad n lo hi bg cs T w) 0 0 := by
  obtain ⟨les, oth, soc, rM, fM, rN, fN, La, ch, cst, ct, tk, rfl, zv, zb, ok, hX, ⟨k0, k1⟩, hC, hM⟩ := h
  refine kw_ofI (cc := cd_C_strings) (maxL := 2) (ty := .int) (by decide) rfl (Nat.le_of_ble_eq_true rfl) rfl ?_
  intro pp ee s m args below meth c A X hr hlk hE hnm
  refine kw_iload_n X dc_C_strings_0 rfl rfl ?_
  refine kw_callSI X kEw hE (ct_isCoin (nI c0)) (cw_S 1 X wd_260 wd_261 wd_1 wd_262 rfl rfl (by decide +kernel) ⟨Nat.le_of_ble_eq_true rfl, Nat.le_of_ble_eq_true rfl⟩) [] rfl (by decide) (fun _ _ _ => Nat.zero_le _) rfl rfl (Nat.le_of_ble_eq_true rfl) dc_C_strings_1 ⟨Nat.zero_le _, Nat.zero_le _⟩ (fun r w hp => ?_)
  obtain ⟨rfl, rfl⟩ := hp
  refine kw_cv (ws' := wCS kI kB kC ad n les oth soc rM fM rN fN La T.length ch cst ct tk cs.length (gm_run lo hi n cs).1 (gm_run lo hi n cs).2.1 bg) rfl rfl rfl ?_
  refine kw_if_ne (tgt := 15) X dc_C_strings_4 (by decide) (fun hc4 => ?_) (fun hc4 => ?_)
  · refine kw_aload_n X dc_C_strings_15 rfl rfl ?_
    refine kw_get X (wc_C _) 0 rfl rfl 0 (by decide) (gq wd_115) (fun _ h => h) rfl dc_C_strings_16 ?_
    refine kw_aload_n X dc_C_strings_19 rfl rfl ?_
    refine kw_get X (wc_C _) 0 rfl rfl 9 (by decide) (gq wd_124) (fun _ h => h) rfl dc_C_strings_20 ?_
    refine kw_iload_n X dc_C_strings_23 rfl rfl ?_
    refine kw_callVI X kEw hE 0 rfl rfl (ct_holding (ad 1) (ad 2) (ad 3) (ad 4) n les oth soc (gm_run lo hi n cs).1 c0 lo hi ok hc) (cw_V 2 X wd_520 wd_181 wd_182 wd_2 wd_183 rfl rfl (by decide +kernel) ⟨Nat.le_of_ble_eq_true rfl, Nat.le_of_ble_eq_true rfl⟩) [1, 2, 3, 4] rfl (by decide) (fun _ _ h => by obtain ⟨rfl, _⟩ := h; exact Nat.le_refl _) rfl rfl (Nat.le_of_ble_eq_true rfl) dc_C_strings_24 ⟨Nat.zero_le _, Nat.zero_le _⟩ (fun r w hp => ?_)
    obtain ⟨rfl, rfl⟩ := hp
    refine kw_cv (ws' := wCS kI kB kC ad n les oth soc rM fM rN fN La T.length ch cst ct tk cs.length (gm_run lo hi n cs).1 (gm_run lo hi n cs).2.1 bg) rfl rfl rfl ?_
    exact kw_iret X hr hlk dc_C_strings_27 ⟨rfl, les, oth, soc, rM, fM, rN, fN, La, ch, cst, ct, tk, rfl, zv, zb, ok, hX, ⟨k0, k1⟩, hC, hM⟩
  · exact absurd ⟨nI_nn (by omega), (nI_ltI (by omega) (by omega)).mpr hc⟩ (kq_z0 hc4)
set_option maxRecDepth 100000 in
set_option maxHeartbeats 4000000 in
theorem ct_sever {l : Launch} {D : va_G} {kI kB kC kL : ClassId} (ad : Nat → Nat) (n : Nat) (lo hi : Nat → Nat) (bg : Bool) (cs T : List Nat) (w0 : va_W) (h : csP kI kB kC ad n lo hi bg cs T w0) (i : Nat) (hi1 : i < n) (hb : (gm_run lo hi n cs).1.testBit i = true) (hbg : bg = true) : kw_I l mn_C_sever (gw mn_C_sever cd_C_sever 3 (some .int)) ({ frames := 2, cells := 0, slots := 0, locals := 46 } : Room) D cl_v (kt kI kB kC kL) kE [.ref (ad 0), .int (nI i)] (w0) (fun r w => r = nI (gm_tk lo hi n (gm_run lo hi n cs).1 i) ∧ csP kI kB kC ad n lo hi bg (i :: cs) T w) 0 0 := by
  obtain ⟨les, oth, soc, rM, fM, rN, fN, La, ch, cst, ct, tk, rfl, zv, zb, ok, hX, ⟨k0, k1⟩, hC, hM⟩ := h
  refine kw_ofI (cc := cd_C_sever) (maxL := 3) (ty := .int) (by decide) rfl (Nat.le_of_ble_eq_true rfl) rfl ?_
  intro pp ee s m args below meth c A X hr hlk hE hnm
  have hn := ok.1.1
  have hl := gm_len hn zv hi1 hb
  have hp := gm_run_p (lo := lo) (hi := hi) (n := n) cs
  have hp4 := kq_2n hn hp
  have hU := gm_run_w (lo := lo) (hi := hi) (n := n) cs
  have ht2 := gm_tk_2 lo hi n (gm_run lo hi n cs).1 i
  obtain ⟨q0, q1⟩ := rf_tk (t := gm_tk lo hi n (gm_run lo hi n cs).1 i) k0 k1 hU
  refine kw_aload_n X dc_C_sever_0 rfl rfl ?_
  refine kw_get X (wc_C _) 0 rfl rfl 0 (by decide) (gq wd_115) (fun _ h => h) rfl dc_C_sever_1 ?_
  refine kw_aload_n X dc_C_sever_4 rfl rfl ?_
  refine kw_get X (wc_C _) 0 rfl rfl 9 (by decide) (gq wd_124) (fun _ h => h) rfl dc_C_sever_5 ?_
  refine kw_iload_n X dc_C_sever_8 rfl rfl ?_
  refine kw_callVI X kEw hE 0 rfl rfl (ct_freed (ad 1) (ad 2) (ad 3) (ad 4) n les oth soc (gm_run lo hi n cs).1 i lo hi ok hi1) (cw_V 2 X wd_432 wd_433 wd_434 wd_2 wd_435 rfl rfl (by decide +kernel) ⟨Nat.le_of_ble_eq_true rfl, Nat.le_of_ble_eq_true rfl⟩) [1, 2, 3, 4] rfl (by decide) (fun _ _ h => by obtain ⟨rfl, _⟩ := h; exact Nat.le_refl _) rfl rfl (Nat.le_of_ble_eq_true rfl) dc_C_sever_9 ⟨Nat.zero_le _, Nat.zero_le _⟩ (fun r w hp => ?_)
  obtain ⟨rfl, rfl⟩ := hp
  refine kw_cv (ws' := wCS kI kB kC ad n les oth soc rM fM rN fN La T.length ch cst ct tk cs.length (gm_run lo hi n cs).1 (gm_run lo hi n cs).2.1 bg) rfl rfl rfl ?_
  refine kw_istore_n X dc_C_sever_12 rfl (by decide) ?_
  refine kw_aload_n X dc_C_sever_13 rfl rfl ?_
  refine kw_get X (wc_C _) 0 rfl rfl 5 (by decide) (gq wd_120) (fun _ h => h) rfl dc_C_sever_14 ?_
  refine kw_aload_n X dc_C_sever_17 rfl rfl ?_
  refine kw_get X (wc_C _) 0 rfl rfl 8 (by decide) (gq wd_123) (fun _ h => h) rfl dc_C_sever_18 ?_
  refine kw_iload_n X dc_C_sever_21 rfl rfl ?_
  refine kw_iast X 13 0 rfl rfl (kq_in hl (by omega)) dc_C_sever_22 ?_
  refine kw_aload_n X dc_C_sever_23 rfl rfl ?_
  refine kw_get X (wc_C _) 0 rfl rfl 6 (by decide) (gq wd_121) (fun _ h => h) rfl dc_C_sever_24 ?_
  refine kw_aload_n X dc_C_sever_27 rfl rfl ?_
  refine kw_get X (wc_C _) 0 rfl rfl 8 (by decide) (gq wd_123) (fun _ h => h) rfl dc_C_sever_28 ?_
  refine kw_aload_n X dc_C_sever_31 rfl rfl ?_
  refine kw_get X (wc_C _) 0 rfl rfl 10 (by decide) (gq wd_125) (fun _ h => h) rfl dc_C_sever_32 ?_
  refine kw_iast X 14 0 rfl rfl (kq_in hl (by omega)) dc_C_sever_35 ?_
  refine kw_aload_n X dc_C_sever_36 rfl rfl ?_
  refine kw_dup X dc_C_sever_37 rfl ?_
  refine kw_get X (wc_C _) 0 rfl rfl 8 (by decide) (gq wd_123) (fun _ h => h) rfl dc_C_sever_38 ?_
  refine kw_iconst (v := (nI 1)) X dc_C_sever_41 (by decide) ?_
  refine kw_iadd (v := nI (cs.length + 1)) X dc_C_sever_42 (nI_1 _) ?_
  refine kw_putf (ty := .int) X (wc_C _) fy_C fk_C fn_C 0 rfl rfl 8 (by decide) (gq wd_123) (fun _ h => h) rfl (by decide +kernel) rfl rfl (Nat.le_of_ble_eq_true rfl) dc_C_sever_43 ?_
  refine kw_aload_n X dc_C_sever_46 rfl rfl ?_
  refine kw_aload_n X dc_C_sever_47 rfl rfl ?_
  refine kw_get X (wc_C _) 0 rfl rfl 9 (by decide) (gq wd_124) (fun _ h => h) rfl dc_C_sever_48 ?_
  refine kw_iload_n X dc_C_sever_51 rfl rfl ?_
  refine kw_callSI X kEw hE (ct_without (gm_run lo hi n cs).1 i (by omega)) (cw_S 2 X wd_440 wd_441 wd_1 wd_442 rfl rfl (by decide +kernel) ⟨Nat.le_of_ble_eq_true rfl, Nat.le_of_ble_eq_true rfl⟩) [] rfl (by decide) (fun _ _ _ => Nat.zero_le _) rfl rfl (Nat.le_of_ble_eq_true rfl) dc_C_sever_52 ⟨Nat.zero_le _, Nat.zero_le _⟩ (fun r w hp => ?_)
  obtain ⟨rfl, rfl⟩ := hp
  refine kw_cv (ws' := wCS kI kB kC ad n les oth soc rM fM rN fN La T.length ch (upd cst (nI cs.length).toNatClampNeg (nI i)) (upd ct (nI cs.length).toNatClampNeg (nI (gm_run lo hi n cs).2.1)) tk (cs.length + 1) (gm_run lo hi n cs).1 (gm_run lo hi n cs).2.1 bg) rfl rfl rfl ?_
  refine kw_putf (ty := .int) X (wc_C _) fy_C fk_C fn_C 0 rfl rfl 9 (by decide) (gq wd_124) (fun _ h => h) rfl (by decide +kernel) rfl rfl (Nat.le_of_ble_eq_true rfl) dc_C_sever_55 ?_
  refine kw_cv (ws' := wCS kI kB kC ad n les oth soc rM fM rN fN La T.length ch (upd cst cs.length (nI i)) (upd ct cs.length (nI (gm_run lo hi n cs).2.1)) tk (cs.length + 1) (bq_wo (gm_run lo hi n cs).1 i) (gm_run lo hi n cs).2.1 bg) (by
    show wCS kI kB kC ad n les oth soc rM fM rN fN La T.length ch (upd cst (nI cs.length).toNatClampNeg (nI i)) (upd ct (nI cs.length).toNatClampNeg (nI (gm_run lo hi n cs).2.1)) tk (cs.length + 1) (bq_wo (gm_run lo hi n cs).1 i) (gm_run lo hi n cs).2.1 bg = _
    rw [kq_cl (show cs.length < 4096 by omega)]) rfl rfl ?_
  refine kw_aload_n X dc_C_sever_58 rfl rfl ?_
  refine kw_get X (wc_C _) 0 rfl rfl 7 (by decide) (gq wd_122) (fun _ h => h) rfl dc_C_sever_59 ?_
  refine kw_aload_n X dc_C_sever_62 rfl rfl ?_
  refine kw_get X (wc_C _) 0 rfl rfl 10 (by decide) (gq wd_125) (fun _ h => h) rfl dc_C_sever_63 ?_
  refine kw_dup2 X dc_C_sever_66 rfl rfl ?_
  refine kw_iald (v := tk (gm_run lo hi n cs).2.1) X 15 0 rfl rfl (kq_in (by omega) (by omega)) (by rw [kq_cl (by omega)]) dc_C_sever_67 ?_
  refine kw_iload_n X dc_C_sever_68 rfl rfl ?_
  refine kw_iadd X dc_C_sever_69 rfl ?_
  refine kw_iast X 15 0 rfl rfl (kq_in (by omega) (by omega)) dc_C_sever_70 ?_
  refine kw_cv (ws' := wCS kI kB kC ad n les oth soc rM fM rN fN La T.length ch (upd cst cs.length (nI i)) (upd ct cs.length (nI (gm_run lo hi n cs).2.1)) (upd tk (gm_run lo hi n cs).2.1 (tk (gm_run lo hi n cs).2.1 + nI (gm_tk lo hi n (gm_run lo hi n cs).1 i))) (cs.length + 1) (bq_wo (gm_run lo hi n cs).1 i) (gm_run lo hi n cs).2.1 bg) (by
    show wCS kI kB kC ad n les oth soc rM fM rN fN La T.length ch (upd cst cs.length (nI i)) (upd ct cs.length (nI (gm_run lo hi n cs).2.1)) (upd tk (nI (gm_run lo hi n cs).2.1).toNatClampNeg (tk (gm_run lo hi n cs).2.1 + nI (gm_tk lo hi n (gm_run lo hi n cs).1 i))) (cs.length + 1) (bq_wo (gm_run lo hi n cs).1 i) (gm_run lo hi n cs).2.1 bg = _
    rw [kq_cl (show (gm_run lo hi n cs).2.1 < 4096 by omega)]) rfl rfl ?_
  refine kw_iload_n X dc_C_sever_71 rfl rfl ?_
  refine kw_if_ne (tgt := 85) X dc_C_sever_72 (by decide) (fun hc72 => ?_) (fun hc72 => ?_)
  · have hu : (gm_run lo hi n cs).2.1 = (gm_run lo hi n (i :: cs)).2.1 := (if_pos (by have := kq_ne (b := 0) hc72; omega)).symm
    refine kw_iload_n X dc_C_sever_85 rfl rfl ?_
    exact kw_iret X hr hlk dc_C_sever_86 ⟨rfl, les, oth, soc, rM, fM, rN, fN, La, ch, (upd cst cs.length (nI i)), (upd ct cs.length (nI (gm_run lo hi n cs).2.1)), (upd tk (gm_run lo hi n cs).2.1 (tk (gm_run lo hi n cs).2.1 + nI (gm_tk lo hi n (gm_run lo hi n cs).1 i))), congrArg (fun u9 => wCS kI kB kC ad n les oth soc rM fM rN fN La T.length ch (upd cst cs.length (nI i)) (upd ct cs.length (nI (gm_run lo hi n cs).2.1)) (upd tk (gm_run lo hi n cs).2.1 (tk (gm_run lo hi n cs).2.1 + nI (gm_tk lo hi n (gm_run lo hi n cs).1 i))) (cs.length + 1) (bq_wo (gm_run lo hi n cs).1 i) u9 bg) hu, ⟨hi1, hb, zv⟩, (fun z => absurd (hbg.symm.trans z) (by decide)), ok, hX, ⟨q0, q1⟩, ⟨pk_us, pk_us, csC_upd (Nat.le_refl _) hC⟩, hM⟩
  · have hu : 1 - (gm_run lo hi n cs).2.1 = (gm_run lo hi n (i :: cs)).2.1 := (if_neg (by have := kq_eq (b := 0) hc72; omega)).symm
    refine kw_aload_n X dc_C_sever_75 rfl rfl ?_
    refine kw_iconst (v := (nI 1)) X dc_C_sever_76 (by decide) ?_
    refine kw_aload_n X dc_C_sever_77 rfl rfl ?_
    refine kw_get X (wc_C _) 0 rfl rfl 10 (by decide) (gq wd_125) (fun _ h => h) rfl dc_C_sever_78 ?_
    refine kw_isub (v := nI (1 - (gm_run lo hi n cs).2.1)) X dc_C_sever_81 (pk_sub hU) ?_
    refine kw_putf (ty := .int) X (wc_C _) fy_C fk_C fn_C 0 rfl rfl 10 (by decide) (gq wd_125) (fun _ h => h) rfl (by decide +kernel) rfl rfl (Nat.le_of_ble_eq_true rfl) dc_C_sever_82 ?_
    refine kw_iload_n X dc_C_sever_85 rfl rfl ?_
    exact kw_iret X hr hlk dc_C_sever_86 ⟨rfl, les, oth, soc, rM, fM, rN, fN, La, ch, (upd cst cs.length (nI i)), (upd ct cs.length (nI (gm_run lo hi n cs).2.1)), (upd tk (gm_run lo hi n cs).2.1 (tk (gm_run lo hi n cs).2.1 + nI (gm_tk lo hi n (gm_run lo hi n cs).1 i))), congrArg (fun u9 => wCS kI kB kC ad n les oth soc rM fM rN fN La T.length ch (upd cst cs.length (nI i)) (upd ct cs.length (nI (gm_run lo hi n cs).2.1)) (upd tk (gm_run lo hi n cs).2.1 (tk (gm_run lo hi n cs).2.1 + nI (gm_tk lo hi n (gm_run lo hi n cs).1 i))) (cs.length + 1) (bq_wo (gm_run lo hi n cs).1 i) u9 bg) hu, ⟨hi1, hb, zv⟩, (fun z => absurd (hbg.symm.trans z) (by decide)), ok, hX, ⟨q0, q1⟩, ⟨pk_us, pk_us, csC_upd (Nat.le_refl _) hC⟩, hM⟩
set_option maxRecDepth 100000 in
set_option maxHeartbeats 4000000 in
theorem ct_CcutT {l : Launch} {D : va_G} {kI kB kC kL : ClassId} (ad : Nat → Nat) (n : Nat) (lo hi : Nat → Nat) (cs T : List Nat) (w0 : va_W) (h : csP kI kB kC ad n lo hi true cs T w0) (i : Nat) (hi1 : i < n) (hb : (gm_run lo hi n cs).1.testBit i = true) : kw_I l mn_C_cut (gw mn_C_cut cd_C_cut 2 (some .int)) ({ frames := 3, cells := 0, slots := 0, locals := 68 } : Room) D cl_v (kt kI kB kC kL) kE [.ref (ad 0), .int (nI i)] (w0) (fun r w => r = nI (gm_tk lo hi n (gm_run lo hi n cs).1 i) ∧ csP kI kB kC ad n lo hi true (i :: cs) T w) 0 0 := by
  obtain ⟨les, oth, soc, rM, fM, rN, fN, La, ch, cst, ct, tk, rfl, zv, zb, ok, hX, ⟨k0, k1⟩, hC, hM⟩ := h
  refine kw_ofI (cc := cd_C_cut) (maxL := 2) (ty := .int) (by decide) rfl (Nat.le_of_ble_eq_true rfl) rfl ?_
  intro pp ee s m args below meth c A X hr hlk hE hnm
  have hn := ok.1.1
  have hp4 := kq_2n hn (gm_run_p (lo := lo) (hi := hi) (n := n) cs)
  refine kw_aload_n X dc_C_cut_0 rfl rfl ?_
  refine kw_callVV X kEw hE 0 rfl rfl (ct_reqT ad cs.length (gm_run lo hi n cs).1 (gm_run lo hi n cs).2.1) (cw_V 0 X wd_393 wd_395 wp_6 wd_1 wd_396 rfl rfl (by decide +kernel) ⟨Nat.le_of_ble_eq_true rfl, Nat.le_of_ble_eq_true rfl⟩) [0] rfl (by decide) (fun _ h => by subst h; exact Nat.le_refl _) rfl rfl (Nat.le_of_ble_eq_true rfl) dc_C_cut_1 ⟨Nat.zero_le _, Nat.zero_le _⟩ (fun w hp => ?_)
  subst hp
  refine kw_cv (ws' := wCS kI kB kC ad n les oth soc rM fM rN fN La T.length ch cst ct tk cs.length (gm_run lo hi n cs).1 (gm_run lo hi n cs).2.1 true) rfl rfl rfl ?_
  refine kw_iload_n X dc_C_cut_4 rfl rfl ?_
  refine kw_if_lt (tgt := 19) X dc_C_cut_5 (by decide) (fun hc5 => ?_) (fun hc5 => ?_)
  · exact absurd hc5 (Int32.not_lt.mpr (nI_nn (by omega)))
  · refine kw_iload_n X dc_C_cut_8 rfl rfl ?_
    refine kw_aload_n X dc_C_cut_9 rfl rfl ?_
    refine kw_get X (wc_C _) 0 rfl rfl 0 (by decide) (gq wd_115) (fun _ h => h) rfl dc_C_cut_10 ?_
    refine kw_callVI X kEw hE 0 rfl rfl (ct_size (ad 1) (ad 2) (ad 3) (ad 4) n les oth soc) (cw_V 0 X wd_327 wd_191 wd_192 wd_2 wd_193 rfl rfl (by decide +kernel) ⟨Nat.le_of_ble_eq_true rfl, Nat.le_of_ble_eq_true rfl⟩) [1, 2, 3, 4] rfl (by decide) (fun _ _ h => by obtain ⟨rfl, _⟩ := h; exact Nat.le_refl _) rfl rfl (Nat.le_of_ble_eq_true rfl) dc_C_cut_13 ⟨Nat.zero_le _, Nat.zero_le _⟩ (fun r w hp => ?_)
    obtain ⟨rfl, rfl⟩ := hp
    refine kw_cv (ws' := wCS kI kB kC ad n les oth soc rM fM rN fN La T.length ch cst ct tk cs.length (gm_run lo hi n cs).1 (gm_run lo hi n cs).2.1 true) rfl rfl rfl ?_
    refine kw_icmp_lt (tgt := 27) X dc_C_cut_16 (by decide) (fun hc16 => ?_) (fun hc16 => ?_)
    · refine kw_aload_n X dc_C_cut_27 rfl rfl ?_
      refine kw_get X (wc_C _) 0 rfl rfl 9 (by decide) (gq wd_124) (fun _ h => h) rfl dc_C_cut_28 ?_
      refine kw_iload_n X dc_C_cut_31 rfl rfl ?_
      refine kw_callSI X kEw hE (ct_hasN (gm_run lo hi n cs).1 i (by omega) (by omega)) (cw_S 2 X wd_412 wd_195 wd_1 wd_196 rfl rfl (by decide +kernel) ⟨Nat.le_of_ble_eq_true rfl, Nat.le_of_ble_eq_true rfl⟩) [] rfl (by decide) (fun _ _ _ => Nat.zero_le _) rfl rfl (Nat.le_of_ble_eq_true rfl) dc_C_cut_32 ⟨Nat.zero_le _, Nat.zero_le _⟩ (fun r w hp => ?_)
      obtain ⟨rfl, rfl⟩ := hp
      refine kw_cv (ws' := wCS kI kB kC ad n les oth soc rM fM rN fN La T.length ch cst ct tk cs.length (gm_run lo hi n cs).1 (gm_run lo hi n cs).2.1 true) rfl rfl rfl ?_
      refine kw_if_ne (tgt := 46) X dc_C_cut_35 (by decide) (fun hc35 => ?_) (fun hc35 => ?_)
      · refine kw_aload_n X dc_C_cut_46 rfl rfl ?_
        refine kw_iload_n X dc_C_cut_47 rfl rfl ?_
        refine kw_callVI X kEw hE 0 rfl rfl (ct_sever ad n lo hi true cs T (wCS kI kB kC ad n les oth soc rM fM rN fN La T.length ch cst ct tk cs.length (gm_run lo hi n cs).1 (gm_run lo hi n cs).2.1 true) ⟨les, oth, soc, rM, fM, rN, fN, La, ch, cst, ct, tk, rfl, zv, zb, ok, hX, ⟨k0, k1⟩, hC, hM⟩ i hi1 hb rfl) (cw_V 1 X wd_428 wd_430 wp_7 wd_1 wd_431 rfl rfl (by decide +kernel) ⟨Nat.le_of_ble_eq_true rfl, Nat.le_of_ble_eq_true rfl⟩) [0, 1, 2, 3, 4, 5, 6, 7, 8, 9, 10, 11, 12, 13, 14, 15] rfl (by decide) (fun _ _ h => csP_len h.2) rfl rfl (Nat.le_of_ble_eq_true rfl) dc_C_cut_48 ⟨Nat.zero_le _, Nat.zero_le _⟩ (fun r w hp => ?_)
        obtain ⟨rfl, les2, oth2, soc2, rM2, fM2, rN2, fN2, La2, ch2, cst2, ct2, tk2, rfl, zv2, zb2, ok2, hX2, ⟨k02, k12⟩, hC2, hM2⟩ := hp
        refine kw_cv (ws' := wCS kI kB kC ad n les2 oth2 soc2 rM2 fM2 rN2 fN2 La2 T.length ch2 cst2 ct2 tk2 (i :: cs).length (gm_run lo hi n (i :: cs)).1 (gm_run lo hi n (i :: cs)).2.1 true) rfl rfl rfl ?_
        exact kw_iret X hr hlk dc_C_cut_51 ⟨rfl, les2, oth2, soc2, rM2, fM2, rN2, fN2, La2, ch2, cst2, ct2, tk2, rfl, zv2, zb2, ok2, hX2, ⟨k02, k12⟩, hC2, hM2⟩
      · exact absurd hb (kq_z0 hc35)
    · exact absurd ((nI_ltI (by omega) (by omega)).mpr hi1) hc16
set_option maxRecDepth 100000 in
set_option maxHeartbeats 4000000 in
theorem ct_CundoT {l : Launch} {D : va_G} {kI kB kC kL : ClassId} (ad : Nat → Nat) (n : Nat) (lo hi : Nat → Nat) (bg : Bool) (cs T : List Nat) (w0 : va_W) (i : Nat) (h : csP kI kB kC ad n lo hi bg (i :: cs) T w0)  : kw_I l mn_C_undo (gw mn_C_undo cd_C_undo 2 (some .int)) ({ frames := 2, cells := 0, slots := 0, locals := 46 } : Room) D cl_v (kt kI kB kC kL) kE [.ref (ad 0)] (w0) (fun r w => r = nI i ∧ csP kI kB kC ad n lo hi bg cs T w) 0 0 := by
  obtain ⟨les, oth, soc, rM, fM, rN, fN, La, ch, cst, ct, tk, rfl, zv, zb, ok, hX, ⟨k0, k1⟩, hC, hM⟩ := h
  refine kw_ofI (cc := cd_C_undo) (maxL := 2) (ty := .int) (by decide) rfl (Nat.le_of_ble_eq_true rfl) rfl ?_
  intro pp ee s m args below meth c A X hr hlk hE hnm
  have hn := ok.1.1
  obtain ⟨hi1, hb, zv2⟩ := zv
  have hl := gm_len hn zv2 hi1 hb
  obtain ⟨c1, c2, c5⟩ := hC
  have hU := gm_run_w (lo := lo) (hi := hi) (n := n) cs
  have hp4 := kq_2n hn (gm_run_p (lo := lo) (hi := hi) (n := n) cs)
  obtain ⟨q0, q1⟩ := cs_un hU k0 k1
  refine kw_cv (ws' := wCS kI kB kC ad n les oth soc rM fM rN fN La T.length ch cst ct tk (cs.length + 1) (bq_wo (gm_run lo hi n cs).1 i) (gm_run lo hi n (i :: cs)).2.1 bg) rfl rfl rfl ?_
  refine kw_aload_n X dc_C_undo_0 rfl rfl ?_
  refine kw_get X (wc_C _) 0 rfl rfl 8 (by decide) (gq wd_123) (fun _ h => h) rfl dc_C_undo_1 ?_
  refine kw_if_ne (tgt := 15) X dc_C_undo_4 (by decide) (fun hc4 => ?_) (fun hc4 => ?_)
  · refine kw_aload_n X dc_C_undo_15 rfl rfl ?_
    refine kw_dup X dc_C_undo_16 rfl ?_
    refine kw_get X (wc_C _) 0 rfl rfl 8 (by decide) (gq wd_123) (fun _ h => h) rfl dc_C_undo_17 ?_
    refine kw_iconst (v := (nI 1)) X dc_C_undo_20 (by decide) ?_
    refine kw_isub (v := nI cs.length) X dc_C_undo_21 ((pk_sub (Nat.le_add_left 1 _)).trans (congrArg nI (Nat.add_sub_cancel _ 1))) ?_
    refine kw_putf (ty := .int) X (wc_C _) fy_C fk_C fn_C 0 rfl rfl 8 (by decide) (gq wd_123) (fun _ h => h) rfl (by decide +kernel) rfl rfl (Nat.le_of_ble_eq_true rfl) dc_C_undo_22 ?_
    refine kw_aload_n X dc_C_undo_25 rfl rfl ?_
    refine kw_get X (wc_C _) 0 rfl rfl 5 (by decide) (gq wd_120) (fun _ h => h) rfl dc_C_undo_26 ?_
    refine kw_aload_n X dc_C_undo_29 rfl rfl ?_
    refine kw_get X (wc_C _) 0 rfl rfl 8 (by decide) (gq wd_123) (fun _ h => h) rfl dc_C_undo_30 ?_
    refine kw_iald (v := nI i) X 13 0 rfl rfl (kq_in hl (by omega)) (by rw [kq_cl (by omega)]; exact c1) dc_C_undo_33 ?_
    refine kw_istore_n X dc_C_undo_34 rfl (by decide) ?_
    refine kw_aload_n X dc_C_undo_35 rfl rfl ?_
    refine kw_dup X dc_C_undo_36 rfl ?_
    refine kw_get X (wc_C _) 0 rfl rfl 9 (by decide) (gq wd_124) (fun _ h => h) rfl dc_C_undo_37 ?_
    refine kw_iconst (v := (nI 1)) X dc_C_undo_40 (by decide) ?_
    refine kw_iload_n X dc_C_undo_41 rfl rfl ?_
    refine kw_ishl (v := nI (2 ^ i)) X dc_C_undo_42 (bq_shl (by omega)) ?_
    refine kw_ior (v := nI (gm_run lo hi n cs).1) X dc_C_undo_43 ((bq_or _ _).trans (congrArg nI (bq_wo_or hb))) ?_
    refine kw_putf (ty := .int) X (wc_C _) fy_C fk_C fn_C 0 rfl rfl 9 (by decide) (gq wd_124) (fun _ h => h) rfl (by decide +kernel) rfl rfl (Nat.le_of_ble_eq_true rfl) dc_C_undo_44 ?_
    refine kw_aload_n X dc_C_undo_47 rfl rfl ?_
    refine kw_aload_n X dc_C_undo_48 rfl rfl ?_
    refine kw_get X (wc_C _) 0 rfl rfl 6 (by decide) (gq wd_121) (fun _ h => h) rfl dc_C_undo_49 ?_
    refine kw_aload_n X dc_C_undo_52 rfl rfl ?_
    refine kw_get X (wc_C _) 0 rfl rfl 8 (by decide) (gq wd_123) (fun _ h => h) rfl dc_C_undo_53 ?_
    refine kw_iald (v := nI (gm_run lo hi n cs).2.1) X 14 0 rfl rfl (kq_in hl (by omega)) (by rw [kq_cl (by omega)]; exact c2) dc_C_undo_56 ?_
    refine kw_putf (ty := .int) X (wc_C _) fy_C fk_C fn_C 0 rfl rfl 10 (by decide) (gq wd_125) (fun _ h => h) rfl (by decide +kernel) rfl rfl (Nat.le_of_ble_eq_true rfl) dc_C_undo_57 ?_
    refine kw_aload_n X dc_C_undo_60 rfl rfl ?_
    refine kw_get X (wc_C _) 0 rfl rfl 7 (by decide) (gq wd_122) (fun _ h => h) rfl dc_C_undo_61 ?_
    refine kw_aload_n X dc_C_undo_64 rfl rfl ?_
    refine kw_get X (wc_C _) 0 rfl rfl 10 (by decide) (gq wd_125) (fun _ h => h) rfl dc_C_undo_65 ?_
    refine kw_dup2 X dc_C_undo_68 rfl rfl ?_
    refine kw_iald (v := tk (gm_run lo hi n cs).2.1) X 15 0 rfl rfl (kq_in (by omega) (by omega)) (by rw [kq_cl (by omega)]) dc_C_undo_69 ?_
    refine kw_aload_n X dc_C_undo_70 rfl rfl ?_
    refine kw_get X (wc_C _) 0 rfl rfl 0 (by decide) (gq wd_115) (fun _ h => h) rfl dc_C_undo_71 ?_
    refine kw_aload_n X dc_C_undo_74 rfl rfl ?_
    refine kw_get X (wc_C _) 0 rfl rfl 9 (by decide) (gq wd_124) (fun _ h => h) rfl dc_C_undo_75 ?_
    refine kw_iload_n X dc_C_undo_78 rfl rfl ?_
    refine kw_callVI X kEw hE 0 rfl rfl (ct_freed (ad 1) (ad 2) (ad 3) (ad 4) n les oth soc (gm_run lo hi n cs).1 i lo hi ok hi1) (cw_V 2 X wd_432 wd_433 wd_434 wd_2 wd_435 rfl rfl (by decide +kernel) ⟨Nat.le_of_ble_eq_true rfl, Nat.le_of_ble_eq_true rfl⟩) [1, 2, 3, 4] rfl (by decide) (fun _ _ h => by obtain ⟨rfl, _⟩ := h; exact Nat.le_refl _) rfl rfl (Nat.le_of_ble_eq_true rfl) dc_C_undo_79 ⟨Nat.zero_le _, Nat.zero_le _⟩ (fun r w hp => ?_)
    obtain ⟨rfl, rfl⟩ := hp
    refine kw_cv (ws' := wCS kI kB kC ad n les oth soc rM fM rN fN La T.length ch cst ct tk cs.length (gm_run lo hi n cs).1 (gm_run lo hi n cs).2.1 bg) rfl rfl rfl ?_
    refine kw_isub X dc_C_undo_82 rfl ?_
    refine kw_iast X 15 0 rfl rfl (kq_in (by omega) (by omega)) dc_C_undo_83 ?_
    refine kw_cv (ws' := wCS kI kB kC ad n les oth soc rM fM rN fN La T.length ch cst ct (upd tk (gm_run lo hi n cs).2.1 (tk (gm_run lo hi n cs).2.1 - nI (gm_tk lo hi n (gm_run lo hi n cs).1 i))) cs.length (gm_run lo hi n cs).1 (gm_run lo hi n cs).2.1 bg) (by
      show wCS kI kB kC ad n les oth soc rM fM rN fN La T.length ch cst ct (upd tk (nI (gm_run lo hi n cs).2.1).toNatClampNeg (tk (gm_run lo hi n cs).2.1 - nI (gm_tk lo hi n (gm_run lo hi n cs).1 i))) cs.length (gm_run lo hi n cs).1 (gm_run lo hi n cs).2.1 bg = _
      rw [kq_cl (show (gm_run lo hi n cs).2.1 < 4096 by omega)]) rfl rfl ?_
    refine kw_iload_n X dc_C_undo_84 rfl rfl ?_
    exact kw_iret X hr hlk dc_C_undo_85 ⟨rfl, les, oth, soc, rM, fM, rN, fN, La, ch, cst, ct, (upd tk (gm_run lo hi n cs).2.1 (tk (gm_run lo hi n cs).2.1 - nI (gm_tk lo hi n (gm_run lo hi n cs).1 i))), rfl, zv2, (fun z => by cases zb z), ok, hX, ⟨q0, q1⟩, c5, hM⟩
  · exact absurd (kq_eq (b := 0) hc4 (by omega) (by omega)) (by omega)
