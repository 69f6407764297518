/-! the state: strings n, lo, hi; begun; the cuts, newest first; the text -/
/-- what the reference keeps of each cut -/
def rfC (lo hi : Nat → Nat) (n : Nat) (co tO t0 t1 : Nat → Int32) : List Nat → Prop
  | [] => True
  | i :: r => co r.length = nI i ∧ tO r.length = nI (gm_run lo hi n r).2.1 ∧ t0 r.length = nI (gm_run lo hi n r).2.2.1 ∧ t1 r.length = nI (gm_run lo hi n r).2.2.2 ∧ rfC lo hi n co tO t0 t1 r
theorem rfC_upd {lo hi : Nat → Nat} {n : Nat} {co tO t0 t1 : Nat → Int32} {k : Nat} {a b c d : Int32} : ∀ {cs : List Nat}, cs.length ≤ k → rfC lo hi n co tO t0 t1 cs → rfC lo hi n (upd co k a) (upd tO k b) (upd t0 k c) (upd t1 k d) cs := by
  intro cs
  induction cs with
  | nil => intro _ _; exact trivial
  | cons i r ih =>
    intro hk h
    obtain ⟨h1, h2, h3, h4, h5⟩ := h
    have hl : r.length ≠ k := by
      have : (i :: r).length = r.length + 1 := rfl
      omega
    exact ⟨by rw [pk_un hl]; exact h1, by rw [pk_un hl]; exact h2, by rw [pk_un hl]; exact h3, by rw [pk_un hl]; exact h4, ih (Nat.le_of_succ_le hk) h5⟩
/-- the reference in the state -/
def rfP (kI : ClassId) (rd : Nat → Nat) (n : Nat) (lo hi : Nat → Nat) (bg : Bool) (cs T : List Nat) (t : Nat) (S : Bool) (w : va_W) : Prop :=
  ∃ (one two own tk co tO t0 t1 : Nat → Int32) (sv : Bool) (mg nm : Nat → Int32) (gc : Nat) (go tx : Nat → Int32),
    w = wRF kI rd t n one two own bg (gm_run lo hi n cs).1 (gm_run lo hi n cs).2.1 tk cs.length co tO t0 t1 sv mg nm gc go tx T.length ∧ gm_val lo hi n cs ∧ (bg = false → cs = []) ∧ T.length ≤ 84 ∧ rfOk lo hi n one two own ∧
    (tk 0 = nI (gm_run lo hi n cs).2.2.1 ∧ tk 1 = nI (gm_run lo hi n cs).2.2.2) ∧ rfC lo hi n co tO t0 t1 cs ∧
    (bg = true → (sv = true ∧ ∀ q, q < 2 ^ n → mg q = iZ (gm_mg lo hi n q) ∧ nm q = iZ (gm_nm lo hi n q)) ∨ (sv = false ∧ S = false)) ∧ txOk T tx
theorem rfP_len {kI : ClassId} {rd : Nat → Nat} {n : Nat} {lo hi : Nat → Nat} {bg : Bool} {cs T : List Nat} {t : Nat} {S : Bool} {w : va_W} (h : rfP kI rd n lo hi bg cs T t S w) : 13 ≤ w.length := by
  obtain ⟨one, two, own, tk, co, tO, t0, t1, sv, mg, nm, gc, go, tx, rfl, -⟩ := h
  exact Nat.le_refl _
theorem rfP_weak {kI : ClassId} {rd : Nat → Nat} {n : Nat} {lo hi : Nat → Nat} {bg : Bool} {cs T : List Nat} {t : Nat} {S : Bool} {w : va_W} (h : rfP kI rd n lo hi bg cs T t S w) : rfP kI rd n lo hi bg cs T t false w := by
  obtain ⟨one, two, own, tk, co, tO, t0, t1, sv, mg, nm, gc, go, tx, e, h1, h2, h3, h4, h5, h6, h7, h8⟩ := h
  exact ⟨one, two, own, tk, co, tO, t0, t1, sv, mg, nm, gc, go, tx, e, h1, h2, h3, h4, h5, h6, fun hb => (h7 hb).elim Or.inl (fun z => Or.inr ⟨z.1, rfl⟩), h8⟩
theorem rf_tk {tk : Nat → Int32} {A B U t : Nat} (k0 : tk 0 = nI A) (k1 : tk 1 = nI B) (hU : U ≤ 1) : upd tk U (tk U + nI t) 0 = nI (A + (if U = 0 then t else 0)) ∧ upd tk U (tk U + nI t) 1 = nI (B + (if U = 0 then 0 else t)) := by
  rcases (show U = 0 ∨ U = 1 by omega) with e | e
  · subst e
    refine ⟨?_, ?_⟩
    · rw [pk_us, k0, if_pos rfl]; exact nI_add _ _
    · rw [pk_un (by decide), k1, if_pos rfl]
      rfl
  · subst e
    refine ⟨?_, ?_⟩
    · rw [pk_un (by decide), k0, if_neg (by decide)]
      rfl
    · rw [pk_us, k1, if_neg (by decide)]; exact nI_add _ _
theorem gm_len {lo hi : Nat → Nat} {n i : Nat} {cs : List Nat} (hn : n ≤ 12) (hv : gm_val lo hi n cs) (hi' : i < n) (hb : (gm_run lo hi n cs).1.testBit i = true) : cs.length < 12 := by
  have h1 := gm_run_len hn cs hv
  have h2 := gm_pc_pos (by omega : i < 12) hb
  omega
theorem bq_wo_or {p i : Nat} (h : p.testBit i = true) : bq_wo p i ||| 2 ^ i = p := by
  apply Nat.eq_of_testBit_eq
  intro j
  rw [Nat.testBit_or, bq_wo_tb, Nat.testBit_two_pow]
  by_cases hj : i = j
  · subst hj
    rw [h]
    simp
  · simp [hj]
theorem kq_i01 {t : Nat} (h : ¬ nI t ≤ 0) (ht : t < 2 ^ 31) : 0 < t := kq_nle (b := 0) h
set_option maxRecDepth 100000 in
set_option maxHeartbeats 4000000 in
theorem ct_Rturn {l : Launch} {D : va_G} {kI kB kC kL : ClassId} (rd : Nat → Nat) (n : Nat) (lo hi : Nat → Nat) (bg : Bool) (cs T : List Nat) (t : Nat) (S : Bool) (w0 : va_W) (h : rfP kI rd n lo hi bg cs T t S w0)  : kw_I l mn_R_turn (gw mn_R_turn cd_R_turn 1 (some .int)) ({ frames := 0, cells := 0, slots := 0, locals := 0 } : Room) D cl_v (kt kI kB kC kL) kE [.ref (rd 0)] (w0) (fun r w => r = nI (gm_run lo hi n cs).2.1 ∧ rfP kI rd n lo hi bg cs T 0 S w) 0 0 := by
  obtain ⟨one, two, own, tk, co, tO, t0, t1, sv, mg, nm, gc, go, tx, rfl, zv, zb, zT, ok, ⟨k0, k1⟩, hC, hS, hX⟩ := h
  refine kw_ofI (cc := cd_R_turn) (maxL := 1) (ty := .int) (by decide) rfl (Nat.le_of_ble_eq_true rfl) rfl ?_
  intro pp ee s m args below meth c A X hr hlk hE hnm
  refine kw_aload_n X dc_R_turn_0 rfl rfl ?_
  refine kw_iconst (v := (nI 0)) X dc_R_turn_1 (by decide) ?_
  refine kw_putf (ty := .int) X (wc_R _) fy_R fk_R fn_R 0 rfl rfl 0 (by decide) (gq wd_597) (fun _ h => h) rfl (by decide +kernel) rfl rfl (Nat.le_of_ble_eq_true rfl) dc_R_turn_2 ?_
  refine kw_aload_n X dc_R_turn_5 rfl rfl ?_
  refine kw_get X (wc_R _) 0 rfl rfl 7 (by decide) (gq wd_604) (fun _ h => h) rfl dc_R_turn_6 ?_
  exact kw_iret X hr hlk dc_R_turn_9 ⟨rfl, one, two, own, tk, co, tO, t0, t1, sv, mg, nm, gc, go, tx, rfl, zv, zb, zT, ok, ⟨k0, k1⟩, hC, hS, hX⟩
set_option maxRecDepth 100000 in
set_option maxHeartbeats 4000000 in
theorem ct_Rleft {l : Launch} {D : va_G} {kI kB kC kL : ClassId} (rd : Nat → Nat) (n : Nat) (lo hi : Nat → Nat) (bg : Bool) (cs T : List Nat) (t : Nat) (S : Bool) (w0 : va_W) (h : rfP kI rd n lo hi bg cs T t S w0)  : kw_I l mn_R_left (gw mn_R_left cd_R_left 1 (some .int)) ({ frames := 0, cells := 0, slots := 0, locals := 0 } : Room) D cl_v (kt kI kB kC kL) kE [.ref (rd 0)] (w0) (fun r w => r = nI (gm_run lo hi n cs).1 ∧ rfP kI rd n lo hi bg cs T 0 S w) 0 0 := by
  obtain ⟨one, two, own, tk, co, tO, t0, t1, sv, mg, nm, gc, go, tx, rfl, zv, zb, zT, ok, ⟨k0, k1⟩, hC, hS, hX⟩ := h
  refine kw_ofI (cc := cd_R_left) (maxL := 1) (ty := .int) (by decide) rfl (Nat.le_of_ble_eq_true rfl) rfl ?_
  intro pp ee s m args below meth c A X hr hlk hE hnm
  refine kw_aload_n X dc_R_left_0 rfl rfl ?_
  refine kw_iconst (v := (nI 0)) X dc_R_left_1 (by decide) ?_
  refine kw_putf (ty := .int) X (wc_R _) fy_R fk_R fn_R 0 rfl rfl 0 (by decide) (gq wd_597) (fun _ h => h) rfl (by decide +kernel) rfl rfl (Nat.le_of_ble_eq_true rfl) dc_R_left_2 ?_
  refine kw_aload_n X dc_R_left_5 rfl rfl ?_
  refine kw_get X (wc_R _) 0 rfl rfl 6 (by decide) (gq wd_603) (fun _ h => h) rfl dc_R_left_6 ?_
  exact kw_iret X hr hlk dc_R_left_9 ⟨rfl, one, two, own, tk, co, tO, t0, t1, sv, mg, nm, gc, go, tx, rfl, zv, zb, zT, ok, ⟨k0, k1⟩, hC, hS, hX⟩
set_option maxRecDepth 100000 in
set_option maxHeartbeats 4000000 in
theorem ct_RtakenT {l : Launch} {D : va_G} {kI kB kC kL : ClassId} (rd : Nat → Nat) (n : Nat) (lo hi : Nat → Nat) (bg : Bool) (cs T : List Nat) (t : Nat) (S : Bool) (w0 : va_W) (h : rfP kI rd n lo hi bg cs T t S w0) (j : Nat) (hj : j < 2) : kw_I l mn_R_taken (gw mn_R_taken cd_R_taken 2 (some .int)) ({ frames := 0, cells := 0, slots := 0, locals := 0 } : Room) D cl_v (kt kI kB kC kL) kE [.ref (rd 0), .int (nI j)] (w0) (fun r w => r = nI (if j = 0 then (gm_run lo hi n cs).2.2.1 else (gm_run lo hi n cs).2.2.2) ∧ rfP kI rd n lo hi bg cs T 0 S w) 0 0 := by
  obtain ⟨one, two, own, tk, co, tO, t0, t1, sv, mg, nm, gc, go, tx, rfl, zv, zb, zT, ok, ⟨k0, k1⟩, hC, hS, hX⟩ := h
  refine kw_ofI (cc := cd_R_taken) (maxL := 2) (ty := .int) (by decide) rfl (Nat.le_of_ble_eq_true rfl) rfl ?_
  intro pp ee s m args below meth c A X hr hlk hE hnm
  refine kw_aload_n X dc_R_taken_0 rfl rfl ?_
  refine kw_iload_n X dc_R_taken_1 rfl rfl ?_
  refine kw_if_eq (tgt := 10) X dc_R_taken_2 (by decide) (fun hc2 => ?_) (fun hc2 => ?_)
  · have h2 : j = 0 := kq_eq (b := 0) hc2
    have hv : tk j = nI (if j = 0 then (gm_run lo hi n cs).2.2.1 else (gm_run lo hi n cs).2.2.2) := by rw [h2, if_pos rfl]; exact k0
    refine kw_iconst (v := (nI 0)) X dc_R_taken_10 (by decide) ?_
    refine kw_goto (tgt := 15) X dc_R_taken_11 (by decide) ?_
    refine kw_putf (ty := .int) X (wc_R _) fy_R fk_R fn_R 0 rfl rfl 0 (by decide) (gq wd_597) (fun _ h => h) rfl (by decide +kernel) rfl rfl (Nat.le_of_ble_eq_true rfl) dc_R_taken_15 ?_
    refine kw_aload_n X dc_R_taken_18 rfl rfl ?_
    refine kw_get X (wc_R _) 0 rfl rfl 0 (by decide) (gq wd_597) (fun _ h => h) rfl dc_R_taken_19 ?_
    refine kw_if_le (tgt := 29) X dc_R_taken_22 (by decide) (fun hc22 => ?_) (fun hc22 => ?_)
    · refine kw_aload_n X dc_R_taken_29 rfl rfl ?_
      refine kw_get X (wc_R _) 0 rfl rfl 8 (by decide) (gq wd_605) (fun _ h => h) rfl dc_R_taken_30 ?_
      refine kw_iload_n X dc_R_taken_33 rfl rfl ?_
      refine kw_iald (v := nI (if j = 0 then (gm_run lo hi n cs).2.2.1 else (gm_run lo hi n cs).2.2.2)) X 4 0 rfl rfl (kq_in hj (by omega)) (by rw [kq_cl (by omega)]; exact hv) dc_R_taken_34 ?_
      exact kw_iret X hr hlk dc_R_taken_35 ⟨rfl, one, two, own, tk, co, tO, t0, t1, sv, mg, nm, gc, go, tx, rfl, zv, zb, zT, ok, ⟨k0, k1⟩, hC, hS, hX⟩
    · exact absurd (show nI 0 ≤ 0 by decide) hc22
  · have h2 : j = 1 := by have := kq_ne (b := 0) hc2; omega
    have hv : tk j = nI (if j = 0 then (gm_run lo hi n cs).2.2.1 else (gm_run lo hi n cs).2.2.2) := by rw [h2, if_neg (by decide)]; exact k1
    refine kw_iload_n X dc_R_taken_5 rfl rfl ?_
    refine kw_iconst (v := (nI 1)) X dc_R_taken_6 (by decide) ?_
    refine kw_icmp_ne (tgt := 14) X dc_R_taken_7 (by decide) (fun hc7 => ?_) (fun hc7 => ?_)
    · exact absurd (congrArg nI h2) hc7
    · refine kw_iconst (v := (nI 0)) X dc_R_taken_10 (by decide) ?_
      refine kw_goto (tgt := 15) X dc_R_taken_11 (by decide) ?_
      refine kw_putf (ty := .int) X (wc_R _) fy_R fk_R fn_R 0 rfl rfl 0 (by decide) (gq wd_597) (fun _ h => h) rfl (by decide +kernel) rfl rfl (Nat.le_of_ble_eq_true rfl) dc_R_taken_15 ?_
      refine kw_aload_n X dc_R_taken_18 rfl rfl ?_
      refine kw_get X (wc_R _) 0 rfl rfl 0 (by decide) (gq wd_597) (fun _ h => h) rfl dc_R_taken_19 ?_
      refine kw_if_le (tgt := 29) X dc_R_taken_22 (by decide) (fun hc22 => ?_) (fun hc22 => ?_)
      · refine kw_aload_n X dc_R_taken_29 rfl rfl ?_
        refine kw_get X (wc_R _) 0 rfl rfl 8 (by decide) (gq wd_605) (fun _ h => h) rfl dc_R_taken_30 ?_
        refine kw_iload_n X dc_R_taken_33 rfl rfl ?_
        refine kw_iald (v := nI (if j = 0 then (gm_run lo hi n cs).2.2.1 else (gm_run lo hi n cs).2.2.2)) X 4 0 rfl rfl (kq_in hj (by omega)) (by rw [kq_cl (by omega)]; exact hv) dc_R_taken_34 ?_
        exact kw_iret X hr hlk dc_R_taken_35 ⟨rfl, one, two, own, tk, co, tO, t0, t1, sv, mg, nm, gc, go, tx, rfl, zv, zb, zT, ok, ⟨k0, k1⟩, hC, hS, hX⟩
      · exact absurd (show nI 0 ≤ 0 by decide) hc22
set_option maxRecDepth 100000 in
set_option maxHeartbeats 4000000 in
theorem ct_RtakenF {l : Launch} {D : va_G} {kI kB kC kL : ClassId} (rd : Nat → Nat) (n : Nat) (lo hi : Nat → Nat) (bg : Bool) (cs T : List Nat) (t : Nat) (S : Bool) (w0 : va_W) (h : rfP kI rd n lo hi bg cs T t S w0) (j : Int32) (hj0 : ¬ j = nI 0) (hj1 : ¬ j = nI 1) : kw_I l mn_R_taken (gw mn_R_taken cd_R_taken 2 (some .int)) ({ frames := 0, cells := 0, slots := 0, locals := 0 } : Room) D cl_v (kt kI kB kC kL) kE [.ref (rd 0), .int j] (w0) (fun r w => rfP kI rd n lo hi bg cs T 1 S w) 0 0 := by
  obtain ⟨one, two, own, tk, co, tO, t0, t1, sv, mg, nm, gc, go, tx, rfl, zv, zb, zT, ok, ⟨k0, k1⟩, hC, hS, hX⟩ := h
  refine kw_ofI (cc := cd_R_taken) (maxL := 2) (ty := .int) (by decide) rfl (Nat.le_of_ble_eq_true rfl) rfl ?_
  intro pp ee s m args below meth c A X hr hlk hE hnm
  refine kw_aload_n X dc_R_taken_0 rfl rfl ?_
  refine kw_iload_n X dc_R_taken_1 rfl rfl ?_
  refine kw_if_eq (tgt := 10) X dc_R_taken_2 (by decide) (fun hc2 => ?_) (fun hc2 => ?_)
  · exact absurd hc2 hj0
  · refine kw_iload_n X dc_R_taken_5 rfl rfl ?_
    refine kw_iconst (v := (nI 1)) X dc_R_taken_6 (by decide) ?_
    refine kw_icmp_ne (tgt := 14) X dc_R_taken_7 (by decide) (fun hc7 => ?_) (fun hc7 => ?_)
    · refine kw_iconst (v := (nI 1)) X dc_R_taken_14 (by decide) ?_
      refine kw_putf (ty := .int) X (wc_R _) fy_R fk_R fn_R 0 rfl rfl 0 (by decide) (gq wd_597) (fun _ h => h) rfl (by decide +kernel) rfl rfl (Nat.le_of_ble_eq_true rfl) dc_R_taken_15 ?_
      refine kw_aload_n X dc_R_taken_18 rfl rfl ?_
      refine kw_get X (wc_R _) 0 rfl rfl 0 (by decide) (gq wd_597) (fun _ h => h) rfl dc_R_taken_19 ?_
      refine kw_if_le (tgt := 29) X dc_R_taken_22 (by decide) (fun hc22 => ?_) (fun hc22 => ?_)
      · exact absurd hc22 (show ¬ nI 1 ≤ 0 by decide)
      · refine kw_iconst (v := (nI 0)) X dc_R_taken_25 (by decide) ?_
        refine kw_goto (tgt := 35) X dc_R_taken_26 (by decide) ?_
        exact kw_iret X hr hlk dc_R_taken_35 ⟨one, two, own, tk, co, tO, t0, t1, sv, mg, nm, gc, go, tx, rfl, zv, zb, zT, ok, ⟨k0, k1⟩, hC, hS, hX⟩
    · exact absurd hc7 hj1
set_option maxRecDepth 100000 in
set_option maxHeartbeats 4000000 in
theorem ct_RstringsT {l : Launch} {D : va_G} {kI kB kC kL : ClassId} (rd : Nat → Nat) (n : Nat) (lo hi : Nat → Nat) (bg : Bool) (cs T : List Nat) (t : Nat) (S : Bool) (w0 : va_W) (h : rfP kI rd n lo hi bg cs T t S w0) (c0 : Nat) (hc : c0 < 8) : kw_I l mn_R_strings (gw mn_R_strings cd_R_strings 2 (some .int)) ({ frames := 1, cells := 0, slots := 0, locals := 24 } : Room) D cl_v (kt kI kB kC kL) kE [.ref (rd 0), .int (nI c0)] (w0) (fun r w => r = nI (gm_pc ((gm_run lo hi n cs).1 &&& gm_mk lo hi n c0)) ∧ rfP kI rd n lo hi bg cs T 0 S w) 0 0 := by
  obtain ⟨one, two, own, tk, co, tO, t0, t1, sv, mg, nm, gc, go, tx, rfl, zv, zb, zT, ok, ⟨k0, k1⟩, hC, hS, hX⟩ := h
  refine kw_ofI (cc := cd_R_strings) (maxL := 2) (ty := .int) (by decide) rfl (Nat.le_of_ble_eq_true rfl) rfl ?_
  intro pp ee s m args below meth c A X hr hlk hE hnm
  refine kw_aload_n X dc_R_strings_0 rfl rfl ?_
  refine kw_iload_n X dc_R_strings_1 rfl rfl ?_
  refine kw_callSI X kEw hE (ct_RisCoin (nI c0)) (cw_S 1 X wd_669 wd_670 wd_8 wd_671 rfl rfl (by decide +kernel) ⟨Nat.le_of_ble_eq_true rfl, Nat.le_of_ble_eq_true rfl⟩) [] rfl (by decide) (fun _ _ _ => Nat.zero_le _) rfl rfl (Nat.le_of_ble_eq_true rfl) dc_R_strings_2 ⟨Nat.zero_le _, Nat.zero_le _⟩ (fun r w hp => ?_)
  obtain ⟨rfl, rfl⟩ := hp
  refine kw_cv (ws' := wRF kI rd t n one two own bg (gm_run lo hi n cs).1 (gm_run lo hi n cs).2.1 tk cs.length co tO t0 t1 sv mg nm gc go tx T.length) rfl rfl rfl ?_
  refine kw_if_eq (tgt := 12) X dc_R_strings_5 (by decide) (fun hc5 => ?_) (fun hc5 => ?_)
  · exact absurd ⟨(nI_leI (a := 0) (by omega) (by omega)).mpr (Nat.zero_le _), (nI_leI (by omega) (by omega)).mpr (by omega)⟩ (kq_z0 hc5)
  · refine kw_iconst (v := (nI 0)) X dc_R_strings_8 (by decide) ?_
    refine kw_goto (tgt := 13) X dc_R_strings_9 (by decide) ?_
    refine kw_putf (ty := .int) X (wc_R _) fy_R fk_R fn_R 0 rfl rfl 0 (by decide) (gq wd_597) (fun _ h => h) rfl (by decide +kernel) rfl rfl (Nat.le_of_ble_eq_true rfl) dc_R_strings_13 ?_
    refine kw_aload_n X dc_R_strings_16 rfl rfl ?_
    refine kw_get X (wc_R _) 0 rfl rfl 0 (by decide) (gq wd_597) (fun _ h => h) rfl dc_R_strings_17 ?_
    refine kw_if_le (tgt := 27) X dc_R_strings_20 (by decide) (fun hc20 => ?_) (fun hc20 => ?_)
    · refine kw_aload_n X dc_R_strings_27 rfl rfl ?_
      refine kw_iload_n X dc_R_strings_28 rfl rfl ?_
      refine kw_aload_n X dc_R_strings_29 rfl rfl ?_
      refine kw_get X (wc_R _) 0 rfl rfl 6 (by decide) (gq wd_603) (fun _ h => h) rfl dc_R_strings_30 ?_
      refine kw_callVI X kEw hE 0 rfl rfl (ct_belong rd 0 n one two own bg (gm_run lo hi n cs).1 (gm_run lo hi n cs).2.1 tk cs.length co tO t0 t1 sv mg nm gc go tx T.length lo hi ok c0 (gm_run lo hi n cs).1 hc (gm_run_p cs)) (cw_V 2 X wd_764 wd_766 wp_19 wd_8 wd_767 rfl rfl (by decide +kernel) ⟨Nat.le_of_ble_eq_true rfl, Nat.le_of_ble_eq_true rfl⟩) [0, 1, 2, 3, 4, 5, 6, 7, 8, 9, 10, 11, 12] rfl (by decide) (fun _ _ h => by obtain ⟨rfl, _⟩ := h; exact Nat.le_refl _) rfl rfl (Nat.le_of_ble_eq_true rfl) dc_R_strings_33 ⟨Nat.zero_le _, Nat.zero_le _⟩ (fun r w hp => ?_)
      obtain ⟨rfl, rfl⟩ := hp
      refine kw_cv (ws' := wRF kI rd 0 n one two own bg (gm_run lo hi n cs).1 (gm_run lo hi n cs).2.1 tk cs.length co tO t0 t1 sv mg nm gc go tx T.length) rfl rfl rfl ?_
      exact kw_iret X hr hlk dc_R_strings_36 ⟨rfl, one, two, own, tk, co, tO, t0, t1, sv, mg, nm, gc, go, tx, rfl, zv, zb, zT, ok, ⟨k0, k1⟩, hC, hS, hX⟩
    · exact absurd (show nI 0 ≤ 0 by decide) hc20
set_option maxRecDepth 100000 in
set_option maxHeartbeats 4000000 in
theorem ct_RstringsF {l : Launch} {D : va_G} {kI kB kC kL : ClassId} (rd : Nat → Nat) (n : Nat) (lo hi : Nat → Nat) (bg : Bool) (cs T : List Nat) (t : Nat) (S : Bool) (w0 : va_W) (h : rfP kI rd n lo hi bg cs T t S w0) (a : Int32) (ha : ¬ (0 ≤ a ∧ a ≤ nI 7)) : kw_I l mn_R_strings (gw mn_R_strings cd_R_strings 2 (some .int)) ({ frames := 1, cells := 0, slots := 0, locals := 20 } : Room) D cl_v (kt kI kB kC kL) kE [.ref (rd 0), .int a] (w0) (fun r w => rfP kI rd n lo hi bg cs T 1 S w) 0 0 := by
  obtain ⟨one, two, own, tk, co, tO, t0, t1, sv, mg, nm, gc, go, tx, rfl, zv, zb, zT, ok, ⟨k0, k1⟩, hC, hS, hX⟩ := h
  refine kw_ofI (cc := cd_R_strings) (maxL := 2) (ty := .int) (by decide) rfl (Nat.le_of_ble_eq_true rfl) rfl ?_
  intro pp ee s m args below meth c A X hr hlk hE hnm
  refine kw_aload_n X dc_R_strings_0 rfl rfl ?_
  refine kw_iload_n X dc_R_strings_1 rfl rfl ?_
  refine kw_callSI X kEw hE (ct_RisCoin a) (cw_S 1 X wd_669 wd_670 wd_8 wd_671 rfl rfl (by decide +kernel) ⟨Nat.le_of_ble_eq_true rfl, Nat.le_of_ble_eq_true rfl⟩) [] rfl (by decide) (fun _ _ _ => Nat.zero_le _) rfl rfl (Nat.le_of_ble_eq_true rfl) dc_R_strings_2 ⟨Nat.zero_le _, Nat.zero_le _⟩ (fun r w hp => ?_)
  obtain ⟨rfl, rfl⟩ := hp
  refine kw_cv (ws' := wRF kI rd t n one two own bg (gm_run lo hi n cs).1 (gm_run lo hi n cs).2.1 tk cs.length co tO t0 t1 sv mg nm gc go tx T.length) rfl rfl rfl ?_
  refine kw_if_eq (tgt := 12) X dc_R_strings_5 (by decide) (fun hc5 => ?_) (fun hc5 => ?_)
  · refine kw_iconst (v := (nI 1)) X dc_R_strings_12 (by decide) ?_
    refine kw_putf (ty := .int) X (wc_R _) fy_R fk_R fn_R 0 rfl rfl 0 (by decide) (gq wd_597) (fun _ h => h) rfl (by decide +kernel) rfl rfl (Nat.le_of_ble_eq_true rfl) dc_R_strings_13 ?_
    refine kw_aload_n X dc_R_strings_16 rfl rfl ?_
    refine kw_get X (wc_R _) 0 rfl rfl 0 (by decide) (gq wd_597) (fun _ h => h) rfl dc_R_strings_17 ?_
    refine kw_if_le (tgt := 27) X dc_R_strings_20 (by decide) (fun hc20 => ?_) (fun hc20 => ?_)
    · exact absurd hc20 (show ¬ nI 1 ≤ 0 by decide)
    · refine kw_iconst (v := (nI 0)) X dc_R_strings_23 (by decide) ?_
      refine kw_goto (tgt := 36) X dc_R_strings_24 (by decide) ?_
      exact kw_iret X hr hlk dc_R_strings_36 ⟨one, two, own, tk, co, tO, t0, t1, sv, mg, nm, gc, go, tx, rfl, zv, zb, zT, ok, ⟨k0, k1⟩, hC, hS, hX⟩
  · exact absurd (kq_z1 hc5) ha
set_option maxRecDepth 100000 in
set_option maxHeartbeats 4000000 in
theorem ct_make {l : Launch} {D : va_G} {kI kB kC kL : ClassId} (rd : Nat → Nat) (n : Nat) (lo hi : Nat → Nat) (bg : Bool) (cs T : List Nat) (t : Nat) (S : Bool) (w0 : va_W) (h : rfP kI rd n lo hi bg cs T t S w0) (i : Nat) (hi1 : i < n) (hb : (gm_run lo hi n cs).1.testBit i = true) (hbg : bg = true) : kw_I l mn_R_make (gw mn_R_make cd_R_make 3 (some .int)) ({ frames := 1, cells := 0, slots := 0, locals := 23 } : Room) D cl_v (kt kI kB kC kL) kE [.ref (rd 0), .int (nI i)] (w0) (fun r w => r = nI (gm_tk lo hi n (gm_run lo hi n cs).1 i) ∧ rfP kI rd n lo hi bg (i :: cs) T t S w) 0 0 := by
  obtain ⟨one, two, own, tk, co, tO, t0, t1, sv, mg, nm, gc, go, tx, rfl, zv, zb, zT, ok, ⟨k0, k1⟩, hC, hS, hX⟩ := h
  refine kw_ofI (cc := cd_R_make) (maxL := 3) (ty := .int) (by decide) rfl (Nat.le_of_ble_eq_true rfl) rfl ?_
  intro pp ee s m args below meth c A X hr hlk hE hnm
  have hn := ok.1.1
  have hl := gm_len hn zv hi1 hb
  have hp := gm_run_p (lo := lo) (hi := hi) (n := n) cs
  have hp4 := kq_2n hn hp
  have hU := gm_run_w (lo := lo) (hi := hi) (n := n) cs
  have ht2 := gm_tk_2 lo hi n (gm_run lo hi n cs).1 i
  obtain ⟨q0, q1⟩ := rf_tk (t := gm_tk lo hi n (gm_run lo hi n cs).1 i) k0 k1 hU
  refine kw_aload_n X dc_R_make_0 rfl rfl ?_
  refine kw_get X (wc_R _) 0 rfl rfl 10 (by decide) (gq wd_607) (fun _ h => h) rfl dc_R_make_1 ?_
  refine kw_aload_n X dc_R_make_4 rfl rfl ?_
  refine kw_get X (wc_R _) 0 rfl rfl 9 (by decide) (gq wd_606) (fun _ h => h) rfl dc_R_make_5 ?_
  refine kw_iload_n X dc_R_make_8 rfl rfl ?_
  refine kw_iast X 5 0 rfl rfl (kq_in hl (by omega)) dc_R_make_9 ?_
  refine kw_aload_n X dc_R_make_10 rfl rfl ?_
  refine kw_get X (wc_R _) 0 rfl rfl 11 (by decide) (gq wd_608) (fun _ h => h) rfl dc_R_make_11 ?_
  refine kw_aload_n X dc_R_make_14 rfl rfl ?_
  refine kw_get X (wc_R _) 0 rfl rfl 9 (by decide) (gq wd_606) (fun _ h => h) rfl dc_R_make_15 ?_
  refine kw_aload_n X dc_R_make_18 rfl rfl ?_
  refine kw_get X (wc_R _) 0 rfl rfl 7 (by decide) (gq wd_604) (fun _ h => h) rfl dc_R_make_19 ?_
  refine kw_iast X 6 0 rfl rfl (kq_in hl (by omega)) dc_R_make_22 ?_
  refine kw_aload_n X dc_R_make_23 rfl rfl ?_
  refine kw_get X (wc_R _) 0 rfl rfl 12 (by decide) (gq wd_609) (fun _ h => h) rfl dc_R_make_24 ?_
  refine kw_aload_n X dc_R_make_27 rfl rfl ?_
  refine kw_get X (wc_R _) 0 rfl rfl 9 (by decide) (gq wd_606) (fun _ h => h) rfl dc_R_make_28 ?_
  refine kw_aload_n X dc_R_make_31 rfl rfl ?_
  refine kw_get X (wc_R _) 0 rfl rfl 8 (by decide) (gq wd_605) (fun _ h => h) rfl dc_R_make_32 ?_
  refine kw_iconst (v := (nI 0)) X dc_R_make_35 (by decide) ?_
  refine kw_iald (v := nI (gm_run lo hi n cs).2.2.1) X 4 0 rfl rfl (kq_in (k := 0) (by decide) (by decide)) (by rw [kq_cl (by decide)]; exact k0) dc_R_make_36 ?_
  refine kw_iast X 7 0 rfl rfl (kq_in hl (by omega)) dc_R_make_37 ?_
  refine kw_aload_n X dc_R_make_38 rfl rfl ?_
  refine kw_get X (wc_R _) 0 rfl rfl 13 (by decide) (gq wd_610) (fun _ h => h) rfl dc_R_make_39 ?_
  refine kw_aload_n X dc_R_make_42 rfl rfl ?_
  refine kw_get X (wc_R _) 0 rfl rfl 9 (by decide) (gq wd_606) (fun _ h => h) rfl dc_R_make_43 ?_
  refine kw_aload_n X dc_R_make_46 rfl rfl ?_
  refine kw_get X (wc_R _) 0 rfl rfl 8 (by decide) (gq wd_605) (fun _ h => h) rfl dc_R_make_47 ?_
  refine kw_iconst (v := (nI 1)) X dc_R_make_50 (by decide) ?_
  refine kw_iald (v := nI (gm_run lo hi n cs).2.2.2) X 4 0 rfl rfl (kq_in (k := 1) (by decide) (by decide)) (by rw [kq_cl (by decide)]; exact k1) dc_R_make_51 ?_
  refine kw_iast X 8 0 rfl rfl (kq_in hl (by omega)) dc_R_make_52 ?_
  refine kw_aload_n X dc_R_make_53 rfl rfl ?_
  refine kw_dup X dc_R_make_54 rfl ?_
  refine kw_get X (wc_R _) 0 rfl rfl 9 (by decide) (gq wd_606) (fun _ h => h) rfl dc_R_make_55 ?_
  refine kw_iconst (v := (nI 1)) X dc_R_make_58 (by decide) ?_
  refine kw_iadd (v := nI (cs.length + 1)) X dc_R_make_59 (nI_1 _) ?_
  refine kw_putf (ty := .int) X (wc_R _) fy_R fk_R fn_R 0 rfl rfl 9 (by decide) (gq wd_606) (fun _ h => h) rfl (by decide +kernel) rfl rfl (Nat.le_of_ble_eq_true rfl) dc_R_make_60 ?_
  refine kw_aload_n X dc_R_make_63 rfl rfl ?_
  refine kw_aload_n X dc_R_make_64 rfl rfl ?_
  refine kw_get X (wc_R _) 0 rfl rfl 6 (by decide) (gq wd_603) (fun _ h => h) rfl dc_R_make_65 ?_
  refine kw_iconst (v := (nI 1)) X dc_R_make_68 (by decide) ?_
  refine kw_iload_n X dc_R_make_69 rfl rfl ?_
  refine kw_ishl X dc_R_make_70 rfl ?_
  refine kw_iconst (v := (-1)) X dc_R_make_71 (by decide) ?_
  refine kw_ixor X dc_R_make_72 rfl ?_
  refine kw_iand (v := nI (bq_wo (gm_run lo hi n cs).1 i)) X dc_R_make_73 (bq_woI (by omega)) ?_
  refine kw_putf (ty := .int) X (wc_R _) fy_R fk_R fn_R 0 rfl rfl 6 (by decide) (gq wd_603) (fun _ h => h) rfl (by decide +kernel) rfl rfl (Nat.le_of_ble_eq_true rfl) dc_R_make_74 ?_
  refine kw_cv (ws' := wRF kI rd t n one two own bg (bq_wo (gm_run lo hi n cs).1 i) (gm_run lo hi n cs).2.1 tk (cs.length + 1) (upd co cs.length (nI i)) (upd tO cs.length (nI (gm_run lo hi n cs).2.1)) (upd t0 cs.length (nI (gm_run lo hi n cs).2.2.1)) (upd t1 cs.length (nI (gm_run lo hi n cs).2.2.2)) sv mg nm gc go tx T.length) (by
    show wRF kI rd t n one two own bg (bq_wo (gm_run lo hi n cs).1 i) (gm_run lo hi n cs).2.1 tk (cs.length + 1) (upd co (nI cs.length).toNatClampNeg (nI i)) (upd tO (nI cs.length).toNatClampNeg (nI (gm_run lo hi n cs).2.1)) (upd t0 (nI cs.length).toNatClampNeg (nI (gm_run lo hi n cs).2.2.1)) (upd t1 (nI cs.length).toNatClampNeg (nI (gm_run lo hi n cs).2.2.2)) sv mg nm gc go tx T.length = _
    rw [kq_cl (show cs.length < 4096 by omega)]) rfl rfl ?_
  refine kw_aload_n X dc_R_make_77 rfl rfl ?_
  refine kw_iload_n X dc_R_make_78 rfl rfl ?_
  refine kw_aload_n X dc_R_make_79 rfl rfl ?_
  refine kw_get X (wc_R _) 0 rfl rfl 6 (by decide) (gq wd_603) (fun _ h => h) rfl dc_R_make_80 ?_
  refine kw_callVI X kEw hE 0 rfl rfl (ct_takes rd t n one two own bg (bq_wo (gm_run lo hi n cs).1 i) (gm_run lo hi n cs).2.1 tk (cs.length + 1) (upd co cs.length (nI i)) (upd tO cs.length (nI (gm_run lo hi n cs).2.1)) (upd t0 cs.length (nI (gm_run lo hi n cs).2.2.1)) (upd t1 cs.length (nI (gm_run lo hi n cs).2.2.2)) sv mg nm gc go tx T.length lo hi ok (gm_run lo hi n cs).1 i hp hi1 hb) (cw_V 2 X wd_708 wd_710 wp_15 wd_8 wd_711 rfl rfl (by decide +kernel) ⟨Nat.le_of_ble_eq_true rfl, Nat.le_of_ble_eq_true rfl⟩) [0, 1, 2, 3, 4, 5, 6, 7, 8, 9, 10, 11, 12] rfl (by decide) (fun _ _ h => by obtain ⟨rfl, _⟩ := h; exact Nat.le_refl _) rfl rfl (Nat.le_of_ble_eq_true rfl) dc_R_make_83 ⟨Nat.zero_le _, Nat.zero_le _⟩ (fun r w hp => ?_)
  obtain ⟨rfl, rfl⟩ := hp
  refine kw_cv (ws' := wRF kI rd t n one two own bg (bq_wo (gm_run lo hi n cs).1 i) (gm_run lo hi n cs).2.1 tk (cs.length + 1) (upd co cs.length (nI i)) (upd tO cs.length (nI (gm_run lo hi n cs).2.1)) (upd t0 cs.length (nI (gm_run lo hi n cs).2.2.1)) (upd t1 cs.length (nI (gm_run lo hi n cs).2.2.2)) sv mg nm gc go tx T.length) rfl rfl rfl ?_
  refine kw_istore_n X dc_R_make_86 rfl (by decide) ?_
  refine kw_aload_n X dc_R_make_87 rfl rfl ?_
  refine kw_get X (wc_R _) 0 rfl rfl 8 (by decide) (gq wd_605) (fun _ h => h) rfl dc_R_make_88 ?_
  refine kw_aload_n X dc_R_make_91 rfl rfl ?_
  refine kw_get X (wc_R _) 0 rfl rfl 7 (by decide) (gq wd_604) (fun _ h => h) rfl dc_R_make_92 ?_
  refine kw_dup2 X dc_R_make_95 rfl rfl ?_
  refine kw_iald (v := tk (gm_run lo hi n cs).2.1) X 4 0 rfl rfl (kq_in (by omega) (by omega)) (by rw [kq_cl (by omega)]) dc_R_make_96 ?_
  refine kw_iload_n X dc_R_make_97 rfl rfl ?_
  refine kw_iadd X dc_R_make_98 rfl ?_
  refine kw_iast X 4 0 rfl rfl (kq_in (by omega) (by omega)) dc_R_make_99 ?_
  refine kw_cv (ws' := wRF kI rd t n one two own bg (bq_wo (gm_run lo hi n cs).1 i) (gm_run lo hi n cs).2.1 (upd tk (gm_run lo hi n cs).2.1 (tk (gm_run lo hi n cs).2.1 + nI (gm_tk lo hi n (gm_run lo hi n cs).1 i))) (cs.length + 1) (upd co cs.length (nI i)) (upd tO cs.length (nI (gm_run lo hi n cs).2.1)) (upd t0 cs.length (nI (gm_run lo hi n cs).2.2.1)) (upd t1 cs.length (nI (gm_run lo hi n cs).2.2.2)) sv mg nm gc go tx T.length) (by
    show wRF kI rd t n one two own bg (bq_wo (gm_run lo hi n cs).1 i) (gm_run lo hi n cs).2.1 (upd tk (nI (gm_run lo hi n cs).2.1).toNatClampNeg (tk (gm_run lo hi n cs).2.1 + nI (gm_tk lo hi n (gm_run lo hi n cs).1 i))) (cs.length + 1) (upd co cs.length (nI i)) (upd tO cs.length (nI (gm_run lo hi n cs).2.1)) (upd t0 cs.length (nI (gm_run lo hi n cs).2.2.1)) (upd t1 cs.length (nI (gm_run lo hi n cs).2.2.2)) sv mg nm gc go tx T.length = _
    rw [kq_cl (show (gm_run lo hi n cs).2.1 < 4096 by omega)]) rfl rfl ?_
  refine kw_aload_n X dc_R_make_100 rfl rfl ?_
  refine kw_iload_n X dc_R_make_101 rfl rfl ?_
  refine kw_if_le (tgt := 112) X dc_R_make_102 (by decide) (fun hc102 => ?_) (fun hc102 => ?_)
  · have hu : 1 - (gm_run lo hi n cs).2.1 = (gm_run lo hi n (i :: cs)).2.1 := (if_neg (by have := kq_le (b := 0) hc102; omega)).symm
    refine kw_iconst (v := (nI 1)) X dc_R_make_112 (by decide) ?_
    refine kw_aload_n X dc_R_make_113 rfl rfl ?_
    refine kw_get X (wc_R _) 0 rfl rfl 7 (by decide) (gq wd_604) (fun _ h => h) rfl dc_R_make_114 ?_
    refine kw_isub (v := nI (1 - (gm_run lo hi n cs).2.1)) X dc_R_make_117 (pk_sub hU) ?_
    refine kw_putf (ty := .int) X (wc_R _) fy_R fk_R fn_R 0 rfl rfl 7 (by decide) (gq wd_604) (fun _ h => h) rfl (by decide +kernel) rfl rfl (Nat.le_of_ble_eq_true rfl) dc_R_make_118 ?_
    refine kw_iload_n X dc_R_make_121 rfl rfl ?_
    exact kw_iret X hr hlk dc_R_make_122 ⟨rfl, one, two, own, (upd tk (gm_run lo hi n cs).2.1 (tk (gm_run lo hi n cs).2.1 + nI (gm_tk lo hi n (gm_run lo hi n cs).1 i))), (upd co cs.length (nI i)), (upd tO cs.length (nI (gm_run lo hi n cs).2.1)), (upd t0 cs.length (nI (gm_run lo hi n cs).2.2.1)), (upd t1 cs.length (nI (gm_run lo hi n cs).2.2.2)), sv, mg, nm, gc, go, tx, congrArg (fun u9 => wRF kI rd t n one two own bg (bq_wo (gm_run lo hi n cs).1 i) u9 (upd tk (gm_run lo hi n cs).2.1 (tk (gm_run lo hi n cs).2.1 + nI (gm_tk lo hi n (gm_run lo hi n cs).1 i))) (cs.length + 1) (upd co cs.length (nI i)) (upd tO cs.length (nI (gm_run lo hi n cs).2.1)) (upd t0 cs.length (nI (gm_run lo hi n cs).2.2.1)) (upd t1 cs.length (nI (gm_run lo hi n cs).2.2.2)) sv mg nm gc go tx T.length) hu, ⟨hi1, hb, zv⟩, (fun z => absurd (hbg.symm.trans z) (by decide)), zT, ok, ⟨q0, q1⟩, ⟨pk_us, pk_us, pk_us, pk_us, rfC_upd (Nat.le_refl _) hC⟩, hS, hX⟩
  · have hu : (gm_run lo hi n cs).2.1 = (gm_run lo hi n (i :: cs)).2.1 := (if_pos (kq_i01 hc102 (by omega))).symm
    refine kw_aload_n X dc_R_make_105 rfl rfl ?_
    refine kw_get X (wc_R _) 0 rfl rfl 7 (by decide) (gq wd_604) (fun _ h => h) rfl dc_R_make_106 ?_
    refine kw_goto (tgt := 118) X dc_R_make_109 (by decide) ?_
    refine kw_putf (ty := .int) X (wc_R _) fy_R fk_R fn_R 0 rfl rfl 7 (by decide) (gq wd_604) (fun _ h => h) rfl (by decide +kernel) rfl rfl (Nat.le_of_ble_eq_true rfl) dc_R_make_118 ?_
    refine kw_iload_n X dc_R_make_121 rfl rfl ?_
    exact kw_iret X hr hlk dc_R_make_122 ⟨rfl, one, two, own, (upd tk (gm_run lo hi n cs).2.1 (tk (gm_run lo hi n cs).2.1 + nI (gm_tk lo hi n (gm_run lo hi n cs).1 i))), (upd co cs.length (nI i)), (upd tO cs.length (nI (gm_run lo hi n cs).2.1)), (upd t0 cs.length (nI (gm_run lo hi n cs).2.2.1)), (upd t1 cs.length (nI (gm_run lo hi n cs).2.2.2)), sv, mg, nm, gc, go, tx, congrArg (fun u9 => wRF kI rd t n one two own bg (bq_wo (gm_run lo hi n cs).1 i) u9 (upd tk (gm_run lo hi n cs).2.1 (tk (gm_run lo hi n cs).2.1 + nI (gm_tk lo hi n (gm_run lo hi n cs).1 i))) (cs.length + 1) (upd co cs.length (nI i)) (upd tO cs.length (nI (gm_run lo hi n cs).2.1)) (upd t0 cs.length (nI (gm_run lo hi n cs).2.2.1)) (upd t1 cs.length (nI (gm_run lo hi n cs).2.2.2)) sv mg nm gc go tx T.length) hu, ⟨hi1, hb, zv⟩, (fun z => absurd (hbg.symm.trans z) (by decide)), zT, ok, ⟨q0, q1⟩, ⟨pk_us, pk_us, pk_us, pk_us, rfC_upd (Nat.le_refl _) hC⟩, hS, hX⟩
