theorem kw_I.mono {l : Launch} {y : MethodName} {yw : List Cond} {rm : Room} {D : va_G} {cl : List vw_C} {tys : List (ClassId × FieldType)} {E : State → Prop} {as : List Value} {wc : va_W} {post post' : Int32 → va_W → Prop} {mc ms : Nat} (h : kw_I l y yw rm D cl tys E as wc post mc ms) (k : ∀ r w, post r w → post' r w) : kw_I l y yw rm D cl tys E as wc post' mc ms :=
  fun sz => MetFree.mono (h sz) (fun _ _ q => q) (fun _ _ _ _ _ q => q) (fun _ _ _ _ _ q => ⟨⟨(by obtain ⟨r, u, e, hp, hB⟩ := q.1.1; exact ⟨r, u, e, k r u hp, hB⟩), q.1.2⟩, q.2⟩)
theorem kw_V.mono {l : Launch} {y : MethodName} {yw : List Cond} {rm : Room} {D : va_G} {cl : List vw_C} {tys : List (ClassId × FieldType)} {E : State → Prop} {as : List Value} {wc : va_W} {post post' : va_W → Prop} {mc ms : Nat} (h : kw_V l y yw rm D cl tys E as wc post mc ms) (k : ∀ w, post w → post' w) : kw_V l y yw rm D cl tys E as wc post' mc ms :=
  fun sz => MetFree.mono (h sz) (fun _ _ q => q) (fun _ _ _ _ _ q => q) (fun _ _ _ _ _ q => ⟨⟨(by obtain ⟨u, e, hp, hB⟩ := q.1.1; exact ⟨u, e, k u hp, hB⟩), q.1.2⟩, q.2⟩)
/-! the good cuts of a position that has strings -/
theorem gm_mx_at {lo hi : Nat → Nat} {n : Nat} {f : Nat → Int} {p : Nat} : ∀ k : Nat, gm_mx lo hi n f p k = -8 ∨ ∃ i, i < k ∧ p.testBit i = true ∧ gm_gv lo hi n f p i = gm_mx lo hi n f p k := by
  intro k
  induction k with
  | zero => exact Or.inl rfl
  | succ k ih =>
    by_cases hb : p.testBit k = true
    · by_cases hl : gm_mx lo hi n f p k < gm_gv lo hi n f p k
      · refine Or.inr ⟨k, by omega, hb, ?_⟩
        show _ = (if p.testBit k = true then _ else _)
        rw [if_pos hb, if_pos hl]
      · have e : gm_mx lo hi n f p (k + 1) = gm_mx lo hi n f p k := by
          show (if p.testBit k = true then _ else _) = _
          rw [if_pos hb, if_neg hl]
        rw [e]
        rcases ih with h | ⟨i, h1, h2, h3⟩
        · exact Or.inl h
        · exact Or.inr ⟨i, by omega, h2, h3⟩
    · have e : gm_mx lo hi n f p (k + 1) = gm_mx lo hi n f p k := if_neg hb
      rw [e]
      rcases ih with h | ⟨i, h1, h2, h3⟩
      · exact Or.inl h
      · exact Or.inr ⟨i, by omega, h2, h3⟩
theorem gm_good_tb {lo hi : Nat → Nat} {n p j : Nat} (h : (gm_good lo hi n p).testBit j = true) : j < n ∧ p.testBit j = true := by
  unfold gm_good at h
  rw [gm_ms_tb] at h
  simp only [Bool.and_eq_true, decide_eq_true_eq] at h
  exact ⟨h.1, h.2.1⟩
theorem gm_good_ex {lo hi : Nat → Nat} {n p : Nat} (ok : gm_ok lo hi n) (hp : p < 2 ^ n) (h0 : p ≠ 0) : ∃ i, i < n ∧ (gm_good lo hi n p).testBit i = true := by
  have hm : gm_mg lo hi n p = gm_mx lo hi n (gm_mg lo hi n) p n := by
    rw [gm_mg_eq]
    exact if_neg h0
  have key : ∃ i, i < n ∧ p.testBit i = true ∧ gm_gv lo hi n (gm_mg lo hi n) p i = gm_mg lo hi n p := by
    rcases gm_mx_at (lo := lo) (hi := hi) (n := n) (f := gm_mg lo hi n) (p := p) n with h | ⟨i, h1, h2, h3⟩
    · obtain ⟨i, h1, h2⟩ := gm_bit_of h0 hp
      have a1 := gm_mx_ge (lo := lo) (hi := hi) (n := n) (f := gm_mg lo hi n) n i h1 h2
      have a2 := (gm_gv_8 ok hp h1 h2).1
      exact ⟨i, h1, h2, by omega⟩
    · exact ⟨i, h1, h2, by omega⟩
  obtain ⟨i, h1, h2, h3⟩ := key
  refine ⟨i, h1, ?_⟩
  unfold gm_good
  rw [gm_ms_tb]
  simp [h1, h2, h3]
/-! a turn played out -/
def gm_lg (lo hi : Nat → Nat) (n p : Nat) : Nat := gm_least (fun i => (gm_good lo hi n p).testBit i)
def gm_play (lo hi : Nat → Nat) (n who : Nat) : Nat → List Nat → List Nat
  | 0, cs => cs
  | f + 1, cs => if (gm_run lo hi n cs).1 ≠ 0 ∧ (gm_run lo hi n cs).2.1 = who then gm_play lo hi n who f (gm_lg lo hi n (gm_run lo hi n cs).1 :: cs) else cs
theorem gm_play_stop {lo hi : Nat → Nat} {n who : Nat} {cs : List Nat} (h : ¬ ((gm_run lo hi n cs).1 ≠ 0 ∧ (gm_run lo hi n cs).2.1 = who)) : ∀ f, gm_play lo hi n who f cs = cs := by
  intro f
  cases f with
  | zero => rfl
  | succ f => exact if_neg h
theorem gm_play_go {lo hi : Nat → Nat} {n who : Nat} {cs : List Nat} (h : (gm_run lo hi n cs).1 ≠ 0 ∧ (gm_run lo hi n cs).2.1 = who) (f : Nat) : gm_play lo hi n who (f + 1) cs = gm_play lo hi n who f (gm_lg lo hi n (gm_run lo hi n cs).1 :: cs) := if_pos h
theorem kq_bz {p i : Nat} (h : p.testBit i = true) : ¬ nI (p / 2 ^ i % 2) = 0 := by
  rw [(bq_tb p i).mpr h]
  decide
theorem kq_bn {p i : Nat} (h : p.testBit i = false) : nI (p / 2 ^ i % 2) = 0 := by
  have h1 : p / 2 ^ i % 2 ≠ 1 := fun z => by
    rw [(bq_tb p i).mp z] at h
    cases h
  have h2 : p / 2 ^ i % 2 = 0 := by omega
  rw [h2]
  rfl
set_option maxRecDepth 100000 in
set_option maxHeartbeats 4000000 in
theorem ct_RcutF1 {l : Launch} {D : va_G} {kI kB kC kL : ClassId} (rd : Nat → Nat) (n : Nat) (lo hi : Nat → Nat) (cs T : List Nat) (t : Nat) (S : Bool) (w0 : va_W) (h : rfP kI rd n lo hi false cs T t S w0) (a : Int32) : kw_I l mn_R_cut (gw mn_R_cut cd_R_cut 2 (some .int)) ({ frames := 0, cells := 0, slots := 0, locals := 0 } : Room) D cl_v (kt kI kB kC kL) kE [.ref (rd 0), .int a] (w0) (fun r w => rfP kI rd n lo hi false cs T 1 S w) 0 0 := by
  obtain ⟨one, two, own, tk, co, tO, t0, t1, sv, mg, nm, gc, go, tx, rfl, zv, zb, zT, ok, ⟨k0, k1⟩, hC, hS, hX⟩ := h
  refine kw_ofI (cc := cd_R_cut) (maxL := 2) (ty := .int) (by decide) rfl (Nat.le_of_ble_eq_true rfl) rfl ?_
  intro pp ee s m args below meth c A X hr hlk hE hnm
  refine kw_aload_n X dc_R_cut_0 rfl rfl ?_
  refine kw_aload_n X dc_R_cut_1 rfl rfl ?_
  refine kw_get X (wc_R _) 0 rfl rfl 5 (by decide) (gq wd_602) (fun _ h => h) rfl dc_R_cut_2 ?_
  refine kw_if_ne (tgt := 12) X dc_R_cut_5 (by decide) (fun hc5 => ?_) (fun hc5 => ?_)
  · exact absurd rfl hc5
  · refine kw_iconst (v := (nI 1)) X dc_R_cut_8 (by decide) ?_
    refine kw_goto (tgt := 44) X dc_R_cut_9 (by decide) ?_
    refine kw_putf (ty := .int) X (wc_R _) fy_R fk_R fn_R 0 rfl rfl 0 (by decide) (gq wd_597) (fun _ h => h) rfl (by decide +kernel) rfl rfl (Nat.le_of_ble_eq_true rfl) dc_R_cut_44 ?_
    refine kw_aload_n X dc_R_cut_47 rfl rfl ?_
    refine kw_get X (wc_R _) 0 rfl rfl 0 (by decide) (gq wd_597) (fun _ h => h) rfl dc_R_cut_48 ?_
    refine kw_if_le (tgt := 58) X dc_R_cut_51 (by decide) (fun hc51 => ?_) (fun hc51 => ?_)
    · exact absurd hc51 (show ¬ nI 1 ≤ 0 by decide)
    · refine kw_iconst (v := (nI 0)) X dc_R_cut_54 (by decide) ?_
      refine kw_goto (tgt := 63) X dc_R_cut_55 (by decide) ?_
      exact kw_iret X hr hlk dc_R_cut_63 ⟨one, two, own, tk, co, tO, t0, t1, sv, mg, nm, gc, go, tx, rfl, zv, zb, zT, ok, ⟨k0, k1⟩, hC, hS, hX⟩
set_option maxRecDepth 100000 in
set_option maxHeartbeats 4000000 in
theorem ct_RcutF2 {l : Launch} {D : va_G} {kI kB kC kL : ClassId} (rd : Nat → Nat) (n : Nat) (lo hi : Nat → Nat) (cs T : List Nat) (t : Nat) (S : Bool) (w0 : va_W) (h : rfP kI rd n lo hi true cs T t S w0) (a : Int32) (ha : ¬ (0 ≤ a ∧ a < nI n)) : kw_I l mn_R_cut (gw mn_R_cut cd_R_cut 2 (some .int)) ({ frames := 0, cells := 0, slots := 0, locals := 0 } : Room) D cl_v (kt kI kB kC kL) kE [.ref (rd 0), .int a] (w0) (fun r w => rfP kI rd n lo hi true cs T 2 S w) 0 0 := by
  obtain ⟨one, two, own, tk, co, tO, t0, t1, sv, mg, nm, gc, go, tx, rfl, zv, zb, zT, ok, ⟨k0, k1⟩, hC, hS, hX⟩ := h
  refine kw_ofI (cc := cd_R_cut) (maxL := 2) (ty := .int) (by decide) rfl (Nat.le_of_ble_eq_true rfl) rfl ?_
  intro pp ee s m args below meth c A X hr hlk hE hnm
  refine kw_aload_n X dc_R_cut_0 rfl rfl ?_
  refine kw_aload_n X dc_R_cut_1 rfl rfl ?_
  refine kw_get X (wc_R _) 0 rfl rfl 5 (by decide) (gq wd_602) (fun _ h => h) rfl dc_R_cut_2 ?_
  refine kw_if_ne (tgt := 12) X dc_R_cut_5 (by decide) (fun hc5 => ?_) (fun hc5 => ?_)
  · refine kw_iload_n X dc_R_cut_12 rfl rfl ?_
    refine kw_if_lt (tgt := 24) X dc_R_cut_13 (by decide) (fun hc13 => ?_) (fun hc13 => ?_)
    · refine kw_iconst (v := (nI 2)) X dc_R_cut_24 (by decide) ?_
      refine kw_goto (tgt := 44) X dc_R_cut_25 (by decide) ?_
      refine kw_putf (ty := .int) X (wc_R _) fy_R fk_R fn_R 0 rfl rfl 0 (by decide) (gq wd_597) (fun _ h => h) rfl (by decide +kernel) rfl rfl (Nat.le_of_ble_eq_true rfl) dc_R_cut_44 ?_
      refine kw_aload_n X dc_R_cut_47 rfl rfl ?_
      refine kw_get X (wc_R _) 0 rfl rfl 0 (by decide) (gq wd_597) (fun _ h => h) rfl dc_R_cut_48 ?_
      refine kw_if_le (tgt := 58) X dc_R_cut_51 (by decide) (fun hc51 => ?_) (fun hc51 => ?_)
      · exact absurd hc51 (show ¬ nI 2 ≤ 0 by decide)
      · refine kw_iconst (v := (nI 0)) X dc_R_cut_54 (by decide) ?_
        refine kw_goto (tgt := 63) X dc_R_cut_55 (by decide) ?_
        exact kw_iret X hr hlk dc_R_cut_63 ⟨one, two, own, tk, co, tO, t0, t1, sv, mg, nm, gc, go, tx, rfl, zv, zb, zT, ok, ⟨k0, k1⟩, hC, hS, hX⟩
    · refine kw_iload_n X dc_R_cut_16 rfl rfl ?_
      refine kw_aload_n X dc_R_cut_17 rfl rfl ?_
      refine kw_get X (wc_R _) 0 rfl rfl 1 (by decide) (gq wd_598) (fun _ h => h) rfl dc_R_cut_18 ?_
      refine kw_icmp_lt (tgt := 28) X dc_R_cut_21 (by decide) (fun hc21 => ?_) (fun hc21 => ?_)
      · exact absurd ⟨Int32.not_lt.mp hc13, hc21⟩ ha
      · refine kw_iconst (v := (nI 2)) X dc_R_cut_24 (by decide) ?_
        refine kw_goto (tgt := 44) X dc_R_cut_25 (by decide) ?_
        refine kw_putf (ty := .int) X (wc_R _) fy_R fk_R fn_R 0 rfl rfl 0 (by decide) (gq wd_597) (fun _ h => h) rfl (by decide +kernel) rfl rfl (Nat.le_of_ble_eq_true rfl) dc_R_cut_44 ?_
        refine kw_aload_n X dc_R_cut_47 rfl rfl ?_
        refine kw_get X (wc_R _) 0 rfl rfl 0 (by decide) (gq wd_597) (fun _ h => h) rfl dc_R_cut_48 ?_
        refine kw_if_le (tgt := 58) X dc_R_cut_51 (by decide) (fun hc51 => ?_) (fun hc51 => ?_)
        · exact absurd hc51 (show ¬ nI 2 ≤ 0 by decide)
        · refine kw_iconst (v := (nI 0)) X dc_R_cut_54 (by decide) ?_
          refine kw_goto (tgt := 63) X dc_R_cut_55 (by decide) ?_
          exact kw_iret X hr hlk dc_R_cut_63 ⟨one, two, own, tk, co, tO, t0, t1, sv, mg, nm, gc, go, tx, rfl, zv, zb, zT, ok, ⟨k0, k1⟩, hC, hS, hX⟩
  · exact absurd hc5 (show ¬ bI true = 0 by decide)
set_option maxRecDepth 100000 in
set_option maxHeartbeats 4000000 in
theorem ct_RcutF3 {l : Launch} {D : va_G} {kI kB kC kL : ClassId} (rd : Nat → Nat) (n : Nat) (lo hi : Nat → Nat) (cs T : List Nat) (t : Nat) (S : Bool) (w0 : va_W) (h : rfP kI rd n lo hi true cs T t S w0) (i : Nat) (hi1 : i < n) (hb : (gm_run lo hi n cs).1.testBit i = false) : kw_I l mn_R_cut (gw mn_R_cut cd_R_cut 2 (some .int)) ({ frames := 0, cells := 0, slots := 0, locals := 0 } : Room) D cl_v (kt kI kB kC kL) kE [.ref (rd 0), .int (nI i)] (w0) (fun r w => rfP kI rd n lo hi true cs T 3 S w) 0 0 := by
  obtain ⟨one, two, own, tk, co, tO, t0, t1, sv, mg, nm, gc, go, tx, rfl, zv, zb, zT, ok, ⟨k0, k1⟩, hC, hS, hX⟩ := h
  refine kw_ofI (cc := cd_R_cut) (maxL := 2) (ty := .int) (by decide) rfl (Nat.le_of_ble_eq_true rfl) rfl ?_
  intro pp ee s m args below meth c A X hr hlk hE hnm
  have hn := ok.1.1
  have hp4 := kq_2n hn (gm_run_p (lo := lo) (hi := hi) (n := n) cs)
  refine kw_aload_n X dc_R_cut_0 rfl rfl ?_
  refine kw_aload_n X dc_R_cut_1 rfl rfl ?_
  refine kw_get X (wc_R _) 0 rfl rfl 5 (by decide) (gq wd_602) (fun _ h => h) rfl dc_R_cut_2 ?_
  refine kw_if_ne (tgt := 12) X dc_R_cut_5 (by decide) (fun hc5 => ?_) (fun hc5 => ?_)
  · refine kw_iload_n X dc_R_cut_12 rfl rfl ?_
    refine kw_if_lt (tgt := 24) X dc_R_cut_13 (by decide) (fun hc13 => ?_) (fun hc13 => ?_)
    · exact absurd hc13 (Int32.not_lt.mpr ((nI_leI (a := 0) (by omega) (by omega)).mpr (Nat.zero_le _)))
    · refine kw_iload_n X dc_R_cut_16 rfl rfl ?_
      refine kw_aload_n X dc_R_cut_17 rfl rfl ?_
      refine kw_get X (wc_R _) 0 rfl rfl 1 (by decide) (gq wd_598) (fun _ h => h) rfl dc_R_cut_18 ?_
      refine kw_icmp_lt (tgt := 28) X dc_R_cut_21 (by decide) (fun hc21 => ?_) (fun hc21 => ?_)
      · refine kw_aload_n X dc_R_cut_28 rfl rfl ?_
        refine kw_get X (wc_R _) 0 rfl rfl 6 (by decide) (gq wd_603) (fun _ h => h) rfl dc_R_cut_29 ?_
        refine kw_iload_n X dc_R_cut_32 rfl rfl ?_
        refine kw_ishr X dc_R_cut_33 rfl ?_
        refine kw_iconst (v := (nI 1)) X dc_R_cut_34 (by decide) ?_
        refine kw_iand (v := nI ((gm_run lo hi n cs).1 / 2 ^ i % 2)) X dc_R_cut_35 (bq_has (by omega) (by omega)) ?_
        refine kw_if_ne (tgt := 43) X dc_R_cut_36 (by decide) (fun hc36 => ?_) (fun hc36 => ?_)
        · exact absurd (kq_bn hb) hc36
        · refine kw_iconst (v := (nI 3)) X dc_R_cut_39 (by decide) ?_
          refine kw_goto (tgt := 44) X dc_R_cut_40 (by decide) ?_
          refine kw_putf (ty := .int) X (wc_R _) fy_R fk_R fn_R 0 rfl rfl 0 (by decide) (gq wd_597) (fun _ h => h) rfl (by decide +kernel) rfl rfl (Nat.le_of_ble_eq_true rfl) dc_R_cut_44 ?_
          refine kw_aload_n X dc_R_cut_47 rfl rfl ?_
          refine kw_get X (wc_R _) 0 rfl rfl 0 (by decide) (gq wd_597) (fun _ h => h) rfl dc_R_cut_48 ?_
          refine kw_if_le (tgt := 58) X dc_R_cut_51 (by decide) (fun hc51 => ?_) (fun hc51 => ?_)
          · exact absurd hc51 (show ¬ nI 3 ≤ 0 by decide)
          · refine kw_iconst (v := (nI 0)) X dc_R_cut_54 (by decide) ?_
            refine kw_goto (tgt := 63) X dc_R_cut_55 (by decide) ?_
            exact kw_iret X hr hlk dc_R_cut_63 ⟨one, two, own, tk, co, tO, t0, t1, sv, mg, nm, gc, go, tx, rfl, zv, zb, zT, ok, ⟨k0, k1⟩, hC, hS, hX⟩
      · exact absurd ((nI_ltI (by omega) (by omega)).mpr hi1) hc21
  · exact absurd hc5 (show ¬ bI true = 0 by decide)
set_option maxRecDepth 100000 in
set_option maxHeartbeats 4000000 in
theorem ct_RcutT {l : Launch} {D : va_G} {kI kB kC kL : ClassId} (rd : Nat → Nat) (n : Nat) (lo hi : Nat → Nat) (cs T : List Nat) (t : Nat) (S : Bool) (w0 : va_W) (h : rfP kI rd n lo hi true cs T t S w0) (i : Nat) (hi1 : i < n) (hb : (gm_run lo hi n cs).1.testBit i = true) : kw_I l mn_R_cut (gw mn_R_cut cd_R_cut 2 (some .int)) ({ frames := 2, cells := 0, slots := 0, locals := 45 } : Room) D cl_v (kt kI kB kC kL) kE [.ref (rd 0), .int (nI i)] (w0) (fun r w => r = nI (gm_tk lo hi n (gm_run lo hi n cs).1 i) ∧ rfP kI rd n lo hi true (i :: cs) T 0 S w) 0 0 := by
  obtain ⟨one, two, own, tk, co, tO, t0, t1, sv, mg, nm, gc, go, tx, rfl, zv, zb, zT, ok, ⟨k0, k1⟩, hC, hS, hX⟩ := h
  refine kw_ofI (cc := cd_R_cut) (maxL := 2) (ty := .int) (by decide) rfl (Nat.le_of_ble_eq_true rfl) rfl ?_
  intro pp ee s m args below meth c A X hr hlk hE hnm
  have hn := ok.1.1
  have hp4 := kq_2n hn (gm_run_p (lo := lo) (hi := hi) (n := n) cs)
  refine kw_aload_n X dc_R_cut_0 rfl rfl ?_
  refine kw_aload_n X dc_R_cut_1 rfl rfl ?_
  refine kw_get X (wc_R _) 0 rfl rfl 5 (by decide) (gq wd_602) (fun _ h => h) rfl dc_R_cut_2 ?_
  refine kw_if_ne (tgt := 12) X dc_R_cut_5 (by decide) (fun hc5 => ?_) (fun hc5 => ?_)
  · refine kw_iload_n X dc_R_cut_12 rfl rfl ?_
    refine kw_if_lt (tgt := 24) X dc_R_cut_13 (by decide) (fun hc13 => ?_) (fun hc13 => ?_)
    · exact absurd hc13 (Int32.not_lt.mpr ((nI_leI (a := 0) (by omega) (by omega)).mpr (Nat.zero_le _)))
    · refine kw_iload_n X dc_R_cut_16 rfl rfl ?_
      refine kw_aload_n X dc_R_cut_17 rfl rfl ?_
      refine kw_get X (wc_R _) 0 rfl rfl 1 (by decide) (gq wd_598) (fun _ h => h) rfl dc_R_cut_18 ?_
      refine kw_icmp_lt (tgt := 28) X dc_R_cut_21 (by decide) (fun hc21 => ?_) (fun hc21 => ?_)
      · refine kw_aload_n X dc_R_cut_28 rfl rfl ?_
        refine kw_get X (wc_R _) 0 rfl rfl 6 (by decide) (gq wd_603) (fun _ h => h) rfl dc_R_cut_29 ?_
        refine kw_iload_n X dc_R_cut_32 rfl rfl ?_
        refine kw_ishr X dc_R_cut_33 rfl ?_
        refine kw_iconst (v := (nI 1)) X dc_R_cut_34 (by decide) ?_
        refine kw_iand (v := nI ((gm_run lo hi n cs).1 / 2 ^ i % 2)) X dc_R_cut_35 (bq_has (by omega) (by omega)) ?_
        refine kw_if_ne (tgt := 43) X dc_R_cut_36 (by decide) (fun hc36 => ?_) (fun hc36 => ?_)
        · refine kw_iconst (v := (nI 0)) X dc_R_cut_43 (by decide) ?_
          refine kw_putf (ty := .int) X (wc_R _) fy_R fk_R fn_R 0 rfl rfl 0 (by decide) (gq wd_597) (fun _ h => h) rfl (by decide +kernel) rfl rfl (Nat.le_of_ble_eq_true rfl) dc_R_cut_44 ?_
          refine kw_aload_n X dc_R_cut_47 rfl rfl ?_
          refine kw_get X (wc_R _) 0 rfl rfl 0 (by decide) (gq wd_597) (fun _ h => h) rfl dc_R_cut_48 ?_
          refine kw_if_le (tgt := 58) X dc_R_cut_51 (by decide) (fun hc51 => ?_) (fun hc51 => ?_)
          · refine kw_aload_n X dc_R_cut_58 rfl rfl ?_
            refine kw_iload_n X dc_R_cut_59 rfl rfl ?_
            refine kw_callVI X kEw hE 0 rfl rfl (ct_make rd n lo hi true cs T 0 S (wRF kI rd 0 n one two own true (gm_run lo hi n cs).1 (gm_run lo hi n cs).2.1 tk cs.length co tO t0 t1 sv mg nm gc go tx T.length) ⟨one, two, own, tk, co, tO, t0, t1, sv, mg, nm, gc, go, tx, rfl, zv, zb, zT, ok, ⟨k0, k1⟩, hC, hS, hX⟩ i hi1 hb rfl) (cw_V 1 X wd_736 wd_738 wp_18 wd_8 wd_739 rfl rfl (by decide +kernel) ⟨Nat.le_of_ble_eq_true rfl, Nat.le_of_ble_eq_true rfl⟩) [0, 1, 2, 3, 4, 5, 6, 7, 8, 9, 10, 11, 12] rfl (by decide) (fun _ _ h => rfP_len h.2) rfl rfl (Nat.le_of_ble_eq_true rfl) dc_R_cut_60 ⟨Nat.zero_le _, Nat.zero_le _⟩ (fun r w hp => ?_)
            obtain ⟨rfl, one2, two2, own2, tk2, co2, tO2, t02, t12, sv2, mg2, nm2, gc2, go2, tx2, rfl, zv2, zb2, zT2, ok2, ⟨k02, k12⟩, hC2, hS2, hX2⟩ := hp
            refine kw_cv (ws' := wRF kI rd 0 n one2 two2 own2 true (gm_run lo hi n (i :: cs)).1 (gm_run lo hi n (i :: cs)).2.1 tk2 (i :: cs).length co2 tO2 t02 t12 sv2 mg2 nm2 gc2 go2 tx2 T.length) rfl rfl rfl ?_
            exact kw_iret X hr hlk dc_R_cut_63 ⟨rfl, one2, two2, own2, tk2, co2, tO2, t02, t12, sv2, mg2, nm2, gc2, go2, tx2, rfl, zv2, zb2, zT2, ok2, ⟨k02, k12⟩, hC2, hS2, hX2⟩
          · exact absurd (show nI 0 ≤ 0 by decide) hc51
        · exact absurd hc36 (kq_bz hb)
      · exact absurd ((nI_ltI (by omega) (by omega)).mpr hi1) hc21
  · exact absurd hc5 (show ¬ bI true = 0 by decide)
set_option maxRecDepth 100000 in
set_option maxHeartbeats 4000000 in
theorem ct_RundoF {l : Launch} {D : va_G} {kI kB kC kL : ClassId} (rd : Nat → Nat) (n : Nat) (lo hi : Nat → Nat) (bg : Bool) (T : List Nat) (t : Nat) (S : Bool) (w0 : va_W) (h : rfP kI rd n lo hi bg [] T t S w0)  : kw_I l mn_R_undo (gw mn_R_undo cd_R_undo 1 (some .int)) ({ frames := 0, cells := 0, slots := 0, locals := 0 } : Room) D cl_v (kt kI kB kC kL) kE [.ref (rd 0)] (w0) (fun r w => rfP kI rd n lo hi bg [] T 1 S w) 0 0 := by
  obtain ⟨one, two, own, tk, co, tO, t0, t1, sv, mg, nm, gc, go, tx, rfl, zv, zb, zT, ok, ⟨k0, k1⟩, hC, hS, hX⟩ := h
  refine kw_ofI (cc := cd_R_undo) (maxL := 1) (ty := .int) (by decide) rfl (Nat.le_of_ble_eq_true rfl) rfl ?_
  intro pp ee s m args below meth c A X hr hlk hE hnm
  refine kw_aload_n X dc_R_undo_0 rfl rfl ?_
  refine kw_aload_n X dc_R_undo_1 rfl rfl ?_
  refine kw_get X (wc_R _) 0 rfl rfl 9 (by decide) (gq wd_606) (fun _ h => h) rfl dc_R_undo_2 ?_
  refine kw_if_ne (tgt := 12) X dc_R_undo_5 (by decide) (fun hc5 => ?_) (fun hc5 => ?_)
  · exact absurd rfl hc5
  · refine kw_iconst (v := (nI 1)) X dc_R_undo_8 (by decide) ?_
    refine kw_goto (tgt := 13) X dc_R_undo_9 (by decide) ?_
    refine kw_putf (ty := .int) X (wc_R _) fy_R fk_R fn_R 0 rfl rfl 0 (by decide) (gq wd_597) (fun _ h => h) rfl (by decide +kernel) rfl rfl (Nat.le_of_ble_eq_true rfl) dc_R_undo_13 ?_
    refine kw_aload_n X dc_R_undo_16 rfl rfl ?_
    refine kw_get X (wc_R _) 0 rfl rfl 0 (by decide) (gq wd_597) (fun _ h => h) rfl dc_R_undo_17 ?_
    refine kw_if_le (tgt := 25) X dc_R_undo_20 (by decide) (fun hc20 => ?_) (fun hc20 => ?_)
    · exact absurd hc20 (show ¬ nI 1 ≤ 0 by decide)
    · refine kw_iconst (v := (nI 0)) X dc_R_undo_23 (by decide) ?_
      exact kw_iret X hr hlk dc_R_undo_24 ⟨one, two, own, tk, co, tO, t0, t1, sv, mg, nm, gc, go, tx, rfl, zv, zb, zT, ok, ⟨k0, k1⟩, hC, hS, hX⟩
set_option maxRecDepth 100000 in
set_option maxHeartbeats 4000000 in
theorem ct_RundoT {l : Launch} {D : va_G} {kI kB kC kL : ClassId} (rd : Nat → Nat) (n : Nat) (lo hi : Nat → Nat) (bg : Bool) (cs T : List Nat) (t : Nat) (S : Bool) (w0 : va_W) (i : Nat) (h : rfP kI rd n lo hi bg (i :: cs) T t S w0)  : kw_I l mn_R_undo (gw mn_R_undo cd_R_undo 1 (some .int)) ({ frames := 0, cells := 0, slots := 0, locals := 0 } : Room) D cl_v (kt kI kB kC kL) kE [.ref (rd 0)] (w0) (fun r w => r = nI i ∧ rfP kI rd n lo hi bg cs T 0 S w) 0 0 := by
  obtain ⟨one, two, own, tk, co, tO, t0, t1, sv, mg, nm, gc, go, tx, rfl, zv, zb, zT, ok, ⟨k0, k1⟩, hC, hS, hX⟩ := h
  refine kw_ofI (cc := cd_R_undo) (maxL := 1) (ty := .int) (by decide) rfl (Nat.le_of_ble_eq_true rfl) rfl ?_
  intro pp ee s m args below meth c A X hr hlk hE hnm
  have hn := ok.1.1
  obtain ⟨hi1, hb, zv2⟩ := zv
  have hl := gm_len hn zv2 hi1 hb
  obtain ⟨c1, c2, c3, c4, c5⟩ := hC
  have hU := gm_run_w (lo := lo) (hi := hi) (n := n) cs
  refine kw_cv (ws' := wRF kI rd t n one two own bg (bq_wo (gm_run lo hi n cs).1 i) (gm_run lo hi n (i :: cs)).2.1 tk (cs.length + 1) co tO t0 t1 sv mg nm gc go tx T.length) rfl rfl rfl ?_
  refine kw_aload_n X dc_R_undo_0 rfl rfl ?_
  refine kw_aload_n X dc_R_undo_1 rfl rfl ?_
  refine kw_get X (wc_R _) 0 rfl rfl 9 (by decide) (gq wd_606) (fun _ h => h) rfl dc_R_undo_2 ?_
  refine kw_if_ne (tgt := 12) X dc_R_undo_5 (by decide) (fun hc5 => ?_) (fun hc5 => ?_)
  · refine kw_iconst (v := (nI 0)) X dc_R_undo_12 (by decide) ?_
    refine kw_putf (ty := .int) X (wc_R _) fy_R fk_R fn_R 0 rfl rfl 0 (by decide) (gq wd_597) (fun _ h => h) rfl (by decide +kernel) rfl rfl (Nat.le_of_ble_eq_true rfl) dc_R_undo_13 ?_
    refine kw_aload_n X dc_R_undo_16 rfl rfl ?_
    refine kw_get X (wc_R _) 0 rfl rfl 0 (by decide) (gq wd_597) (fun _ h => h) rfl dc_R_undo_17 ?_
    refine kw_if_le (tgt := 25) X dc_R_undo_20 (by decide) (fun hc20 => ?_) (fun hc20 => ?_)
    · refine kw_aload_n X dc_R_undo_25 rfl rfl ?_
      refine kw_dup X dc_R_undo_26 rfl ?_
      refine kw_get X (wc_R _) 0 rfl rfl 9 (by decide) (gq wd_606) (fun _ h => h) rfl dc_R_undo_27 ?_
      refine kw_iconst (v := (nI 1)) X dc_R_undo_30 (by decide) ?_
      refine kw_isub (v := nI cs.length) X dc_R_undo_31 ((pk_sub (Nat.le_add_left 1 _)).trans (congrArg nI (Nat.add_sub_cancel _ 1))) ?_
      refine kw_putf (ty := .int) X (wc_R _) fy_R fk_R fn_R 0 rfl rfl 9 (by decide) (gq wd_606) (fun _ h => h) rfl (by decide +kernel) rfl rfl (Nat.le_of_ble_eq_true rfl) dc_R_undo_32 ?_
      refine kw_aload_n X dc_R_undo_35 rfl rfl ?_
      refine kw_aload_n X dc_R_undo_36 rfl rfl ?_
      refine kw_get X (wc_R _) 0 rfl rfl 6 (by decide) (gq wd_603) (fun _ h => h) rfl dc_R_undo_37 ?_
      refine kw_iconst (v := (nI 1)) X dc_R_undo_40 (by decide) ?_
      refine kw_aload_n X dc_R_undo_41 rfl rfl ?_
      refine kw_get X (wc_R _) 0 rfl rfl 10 (by decide) (gq wd_607) (fun _ h => h) rfl dc_R_undo_42 ?_
      refine kw_aload_n X dc_R_undo_45 rfl rfl ?_
      refine kw_get X (wc_R _) 0 rfl rfl 9 (by decide) (gq wd_606) (fun _ h => h) rfl dc_R_undo_46 ?_
      refine kw_iald (v := nI i) X 5 0 rfl rfl (kq_in hl (by omega)) (by rw [kq_cl (by omega)]; exact c1) dc_R_undo_49 ?_
      refine kw_ishl (v := nI (2 ^ i)) X dc_R_undo_50 (bq_shl (by omega)) ?_
      refine kw_ior (v := nI (gm_run lo hi n cs).1) X dc_R_undo_51 ((bq_or _ _).trans (congrArg nI (bq_wo_or hb))) ?_
      refine kw_putf (ty := .int) X (wc_R _) fy_R fk_R fn_R 0 rfl rfl 6 (by decide) (gq wd_603) (fun _ h => h) rfl (by decide +kernel) rfl rfl (Nat.le_of_ble_eq_true rfl) dc_R_undo_52 ?_
      refine kw_aload_n X dc_R_undo_55 rfl rfl ?_
      refine kw_aload_n X dc_R_undo_56 rfl rfl ?_
      refine kw_get X (wc_R _) 0 rfl rfl 11 (by decide) (gq wd_608) (fun _ h => h) rfl dc_R_undo_57 ?_
      refine kw_aload_n X dc_R_undo_60 rfl rfl ?_
      refine kw_get X (wc_R _) 0 rfl rfl 9 (by decide) (gq wd_606) (fun _ h => h) rfl dc_R_undo_61 ?_
      refine kw_iald (v := nI (gm_run lo hi n cs).2.1) X 6 0 rfl rfl (kq_in hl (by omega)) (by rw [kq_cl (by omega)]; exact c2) dc_R_undo_64 ?_
      refine kw_putf (ty := .int) X (wc_R _) fy_R fk_R fn_R 0 rfl rfl 7 (by decide) (gq wd_604) (fun _ h => h) rfl (by decide +kernel) rfl rfl (Nat.le_of_ble_eq_true rfl) dc_R_undo_65 ?_
      refine kw_aload_n X dc_R_undo_68 rfl rfl ?_
      refine kw_get X (wc_R _) 0 rfl rfl 8 (by decide) (gq wd_605) (fun _ h => h) rfl dc_R_undo_69 ?_
      refine kw_iconst (v := (nI 0)) X dc_R_undo_72 (by decide) ?_
      refine kw_aload_n X dc_R_undo_73 rfl rfl ?_
      refine kw_get X (wc_R _) 0 rfl rfl 12 (by decide) (gq wd_609) (fun _ h => h) rfl dc_R_undo_74 ?_
      refine kw_aload_n X dc_R_undo_77 rfl rfl ?_
      refine kw_get X (wc_R _) 0 rfl rfl 9 (by decide) (gq wd_606) (fun _ h => h) rfl dc_R_undo_78 ?_
      refine kw_iald (v := nI (gm_run lo hi n cs).2.2.1) X 7 0 rfl rfl (kq_in hl (by omega)) (by rw [kq_cl (by omega)]; exact c3) dc_R_undo_81 ?_
      refine kw_iast X 4 0 rfl rfl (kq_in (k := 0) (by decide) (by decide)) dc_R_undo_82 ?_
      refine kw_aload_n X dc_R_undo_83 rfl rfl ?_
      refine kw_get X (wc_R _) 0 rfl rfl 8 (by decide) (gq wd_605) (fun _ h => h) rfl dc_R_undo_84 ?_
      refine kw_iconst (v := (nI 1)) X dc_R_undo_87 (by decide) ?_
      refine kw_aload_n X dc_R_undo_88 rfl rfl ?_
      refine kw_get X (wc_R _) 0 rfl rfl 13 (by decide) (gq wd_610) (fun _ h => h) rfl dc_R_undo_89 ?_
      refine kw_aload_n X dc_R_undo_92 rfl rfl ?_
      refine kw_get X (wc_R _) 0 rfl rfl 9 (by decide) (gq wd_606) (fun _ h => h) rfl dc_R_undo_93 ?_
      refine kw_iald (v := nI (gm_run lo hi n cs).2.2.2) X 8 0 rfl rfl (kq_in hl (by omega)) (by rw [kq_cl (by omega)]; exact c4) dc_R_undo_96 ?_
      refine kw_iast X 4 0 rfl rfl (kq_in (k := 1) (by decide) (by decide)) dc_R_undo_97 ?_
      refine kw_aload_n X dc_R_undo_98 rfl rfl ?_
      refine kw_get X (wc_R _) 0 rfl rfl 10 (by decide) (gq wd_607) (fun _ h => h) rfl dc_R_undo_99 ?_
      refine kw_aload_n X dc_R_undo_102 rfl rfl ?_
      refine kw_get X (wc_R _) 0 rfl rfl 9 (by decide) (gq wd_606) (fun _ h => h) rfl dc_R_undo_103 ?_
      refine kw_iald (v := nI i) X 5 0 rfl rfl (kq_in hl (by omega)) (by rw [kq_cl (by omega)]; exact c1) dc_R_undo_106 ?_
      exact kw_iret X hr hlk dc_R_undo_107 ⟨rfl, one, two, own, (upd (upd tk (nI 0).toNatClampNeg (nI (gm_run lo hi n cs).2.2.1)) (nI 1).toNatClampNeg (nI (gm_run lo hi n cs).2.2.2)), co, tO, t0, t1, sv, mg, nm, gc, go, tx, rfl, zv2, (fun z => by cases zb z), zT, ok, ⟨by rw [kq_cl (k := 0) (by decide), kq_cl (k := 1) (by decide), pk_un (by decide), pk_us], by rw [kq_cl (k := 1) (by decide), pk_us]⟩, c5, hS, hX⟩
    · exact absurd (show nI 0 ≤ 0 by decide) hc20
  · exact absurd (kq_eq (b := 0) hc5 (by omega) (by omega)) (by omega)
theorem ct_ZmarginT {l : Launch} {D : va_G} {kI kB kC kL : ClassId} (rd : Nat → Nat) (n : Nat) (lo hi : Nat → Nat) (cs T : List Nat) (t : Nat) (S : Bool) (w0 : va_W) (h : rfP kI rd n lo hi true cs T t S w0) : kw_I l mn_R_margin (gw mn_R_margin cd_R_margin 1 (some .int)) ({ frames := 5, cells := 0, slots := 0, locals := 113 } : Room) D cl_v (kt kI kB kC kL) kE [.ref (rd 0)] w0 (fun r w => r = iZ (gm_mg lo hi n (gm_run lo hi n cs).1) ∧ rfP kI rd n lo hi true cs T 0 true w) 0 0 := by
  obtain ⟨one, two, own, tk, co, tO, t0, t1, sv, mg, nm, gc, go, tx, rfl, zv, zb, zT, ok, ⟨k0, k1⟩, hC, hS, hX⟩ := h
  refine kw_I.mono (ct_RmarginT rd t n one two own (gm_run lo hi n cs).1 (gm_run lo hi n cs).2.1 tk cs.length co tO t0 t1 sv mg nm gc go tx T.length lo hi ok ((hS rfl).elim Or.inl (fun z => Or.inr z.1)) (gm_run_p cs)) (fun r w hq => ?_)
  obtain ⟨e, mg2, nm2, rfl, tb⟩ := hq
  exact ⟨e, one, two, own, tk, co, tO, t0, t1, true, mg2, nm2, gc, go, tx, rfl, zv, zb, zT, ok, ⟨k0, k1⟩, hC, fun _ => Or.inl ⟨rfl, tb⟩, hX⟩
theorem ct_ZmarginF {l : Launch} {D : va_G} {kI kB kC kL : ClassId} (rd : Nat → Nat) (n : Nat) (lo hi : Nat → Nat) (cs T : List Nat) (t : Nat) (S : Bool) (w0 : va_W) (h : rfP kI rd n lo hi false cs T t S w0) : kw_I l mn_R_margin (gw mn_R_margin cd_R_margin 1 (some .int)) ({ frames := 1, cells := 0, slots := 0, locals := 20 } : Room) D cl_v (kt kI kB kC kL) kE [.ref (rd 0)] w0 (fun r w => rfP kI rd n lo hi false cs T 1 S w) 0 0 := by
  obtain ⟨one, two, own, tk, co, tO, t0, t1, sv, mg, nm, gc, go, tx, rfl, zv, zb, zT, ok, ⟨k0, k1⟩, hC, hS, hX⟩ := h
  refine kw_I.mono (ct_RmarginF rd t n one two own (gm_run lo hi n cs).1 (gm_run lo hi n cs).2.1 tk cs.length co tO t0 t1 sv mg nm gc go tx T.length) (fun r w hq => ?_)
  obtain ⟨rfl, e⟩ := hq
  exact ⟨one, two, own, tk, co, tO, t0, t1, sv, mg, nm, gc, go, tx, rfl, zv, zb, zT, ok, ⟨k0, k1⟩, hC, hS, hX⟩
theorem ct_ZgoodT {l : Launch} {D : va_G} {kI kB kC kL : ClassId} (rd : Nat → Nat) (n : Nat) (lo hi : Nat → Nat) (cs T : List Nat) (t : Nat) (S : Bool) (w0 : va_W) (h : rfP kI rd n lo hi true cs T t S w0) : kw_I l mn_R_good (gw mn_R_good cd_R_good 1 (some .int)) ({ frames := 5, cells := 0, slots := 0, locals := 113 } : Room) D cl_v (kt kI kB kC kL) kE [.ref (rd 0)] w0 (fun r w => r = nI (gm_good lo hi n (gm_run lo hi n cs).1) ∧ rfP kI rd n lo hi true cs T 0 true w) 0 0 := by
  obtain ⟨one, two, own, tk, co, tO, t0, t1, sv, mg, nm, gc, go, tx, rfl, zv, zb, zT, ok, ⟨k0, k1⟩, hC, hS, hX⟩ := h
  refine kw_I.mono (ct_RgoodT rd t n one two own (gm_run lo hi n cs).1 (gm_run lo hi n cs).2.1 tk cs.length co tO t0 t1 sv mg nm gc go tx T.length lo hi ok ((hS rfl).elim Or.inl (fun z => Or.inr z.1)) (gm_run_p cs)) (fun r w hq => ?_)
  obtain ⟨e, mg2, nm2, rfl, tb⟩ := hq
  exact ⟨e, one, two, own, tk, co, tO, t0, t1, true, mg2, nm2, gc, go, tx, rfl, zv, zb, zT, ok, ⟨k0, k1⟩, hC, fun _ => Or.inl ⟨rfl, tb⟩, hX⟩
theorem ct_ZgoodF {l : Launch} {D : va_G} {kI kB kC kL : ClassId} (rd : Nat → Nat) (n : Nat) (lo hi : Nat → Nat) (cs T : List Nat) (t : Nat) (S : Bool) (w0 : va_W) (h : rfP kI rd n lo hi false cs T t S w0) : kw_I l mn_R_good (gw mn_R_good cd_R_good 1 (some .int)) ({ frames := 1, cells := 0, slots := 0, locals := 20 } : Room) D cl_v (kt kI kB kC kL) kE [.ref (rd 0)] w0 (fun r w => rfP kI rd n lo hi false cs T 1 S w) 0 0 := by
  obtain ⟨one, two, own, tk, co, tO, t0, t1, sv, mg, nm, gc, go, tx, rfl, zv, zb, zT, ok, ⟨k0, k1⟩, hC, hS, hX⟩ := h
  refine kw_I.mono (ct_RgoodF rd t n one two own (gm_run lo hi n cs).1 (gm_run lo hi n cs).2.1 tk cs.length co tO t0 t1 sv mg nm gc go tx T.length) (fun r w hq => ?_)
  obtain ⟨rfl, e⟩ := hq
  exact ⟨one, two, own, tk, co, tO, t0, t1, sv, mg, nm, gc, go, tx, rfl, zv, zb, zT, ok, ⟨k0, k1⟩, hC, hS, hX⟩
theorem ct_ZnimT {l : Launch} {D : va_G} {kI kB kC kL : ClassId} (rd : Nat → Nat) (n : Nat) (lo hi : Nat → Nat) (cs T : List Nat) (t : Nat) (S : Bool) (w0 : va_W) (h : rfP kI rd n lo hi true cs T t S w0) : kw_I l mn_R_nim (gw mn_R_nim cd_R_nim 1 (some .int)) ({ frames := 5, cells := 0, slots := 0, locals := 113 } : Room) D cl_v (kt kI kB kC kL) kE [.ref (rd 0)] w0 (fun r w => r = iZ (gm_nm lo hi n (gm_run lo hi n cs).1) ∧ rfP kI rd n lo hi true cs T 0 true w) 0 0 := by
  obtain ⟨one, two, own, tk, co, tO, t0, t1, sv, mg, nm, gc, go, tx, rfl, zv, zb, zT, ok, ⟨k0, k1⟩, hC, hS, hX⟩ := h
  refine kw_I.mono (ct_RnimT rd t n one two own (gm_run lo hi n cs).1 (gm_run lo hi n cs).2.1 tk cs.length co tO t0 t1 sv mg nm gc go tx T.length lo hi ok ((hS rfl).elim Or.inl (fun z => Or.inr z.1)) (gm_run_p cs)) (fun r w hq => ?_)
  obtain ⟨e, mg2, nm2, rfl, tb⟩ := hq
  exact ⟨e, one, two, own, tk, co, tO, t0, t1, true, mg2, nm2, gc, go, tx, rfl, zv, zb, zT, ok, ⟨k0, k1⟩, hC, fun _ => Or.inl ⟨rfl, tb⟩, hX⟩
theorem ct_ZnimF {l : Launch} {D : va_G} {kI kB kC kL : ClassId} (rd : Nat → Nat) (n : Nat) (lo hi : Nat → Nat) (cs T : List Nat) (t : Nat) (S : Bool) (w0 : va_W) (h : rfP kI rd n lo hi false cs T t S w0) : kw_I l mn_R_nim (gw mn_R_nim cd_R_nim 1 (some .int)) ({ frames := 1, cells := 0, slots := 0, locals := 20 } : Room) D cl_v (kt kI kB kC kL) kE [.ref (rd 0)] w0 (fun r w => rfP kI rd n lo hi false cs T 1 S w) 0 0 := by
  obtain ⟨one, two, own, tk, co, tO, t0, t1, sv, mg, nm, gc, go, tx, rfl, zv, zb, zT, ok, ⟨k0, k1⟩, hC, hS, hX⟩ := h
  refine kw_I.mono (ct_RnimF rd t n one two own (gm_run lo hi n cs).1 (gm_run lo hi n cs).2.1 tk cs.length co tO t0 t1 sv mg nm gc go tx T.length) (fun r w hq => ?_)
  obtain ⟨rfl, e⟩ := hq
  exact ⟨one, two, own, tk, co, tO, t0, t1, sv, mg, nm, gc, go, tx, rfl, zv, zb, zT, ok, ⟨k0, k1⟩, hC, hS, hX⟩
theorem ct_ZmadT {l : Launch} {D : va_G} {kI kB kC kL : ClassId} (rd : Nat → Nat) (n : Nat) (lo hi : Nat → Nat) (cs T : List Nat) (t : Nat) (S : Bool) (w0 : va_W) (h : rfP kI rd n lo hi true cs T t S w0) : kw_I l mn_R_mad (gw mn_R_mad cd_R_mad 4 (some .int)) ({ frames := 5, cells := 0, slots := 0, locals := 113 } : Room) D cl_v (kt kI kB kC kL) kE [.ref (rd 0)] w0 (fun r w => r = nI (gm_mad lo hi n (gm_run lo hi n cs).1) ∧ rfP kI rd n lo hi true cs T 0 true w) 0 0 := by
  obtain ⟨one, two, own, tk, co, tO, t0, t1, sv, mg, nm, gc, go, tx, rfl, zv, zb, zT, ok, ⟨k0, k1⟩, hC, hS, hX⟩ := h
  refine kw_I.mono (ct_RmadT rd t n one two own (gm_run lo hi n cs).1 (gm_run lo hi n cs).2.1 tk cs.length co tO t0 t1 sv mg nm gc go tx T.length lo hi ok ((hS rfl).elim Or.inl (fun z => Or.inr z.1)) (gm_run_p cs)) (fun r w hq => ?_)
  obtain ⟨e, mg2, nm2, rfl, tb⟩ := hq
  exact ⟨e, one, two, own, tk, co, tO, t0, t1, true, mg2, nm2, gc, go, tx, rfl, zv, zb, zT, ok, ⟨k0, k1⟩, hC, fun _ => Or.inl ⟨rfl, tb⟩, hX⟩
theorem ct_ZmadF {l : Launch} {D : va_G} {kI kB kC kL : ClassId} (rd : Nat → Nat) (n : Nat) (lo hi : Nat → Nat) (cs T : List Nat) (t : Nat) (S : Bool) (w0 : va_W) (h : rfP kI rd n lo hi false cs T t S w0) : kw_I l mn_R_mad (gw mn_R_mad cd_R_mad 4 (some .int)) ({ frames := 1, cells := 0, slots := 0, locals := 20 } : Room) D cl_v (kt kI kB kC kL) kE [.ref (rd 0)] w0 (fun r w => rfP kI rd n lo hi false cs T 1 S w) 0 0 := by
  obtain ⟨one, two, own, tk, co, tO, t0, t1, sv, mg, nm, gc, go, tx, rfl, zv, zb, zT, ok, ⟨k0, k1⟩, hC, hS, hX⟩ := h
  refine kw_I.mono (ct_RmadF rd t n one two own (gm_run lo hi n cs).1 (gm_run lo hi n cs).2.1 tk cs.length co tO t0 t1 sv mg nm gc go tx T.length) (fun r w hq => ?_)
  obtain ⟨rfl, e⟩ := hq
  exact ⟨one, two, own, tk, co, tO, t0, t1, sv, mg, nm, gc, go, tx, rfl, zv, zb, zT, ok, ⟨k0, k1⟩, hC, hS, hX⟩
set_option maxRecDepth 100000 in
set_option maxHeartbeats 4000000 in
theorem ct_RplayF {l : Launch} {D : va_G} {kI kB kC kL : ClassId} (rd : Nat → Nat) (n : Nat) (lo hi : Nat → Nat) (cs T : List Nat) (t : Nat) (S : Bool) (w0 : va_W) (h : rfP kI rd n lo hi false cs T t S w0)  : kw_I l mn_R_play (gw mn_R_play cd_R_play 5 (some .int)) ({ frames := 1, cells := 0, slots := 0, locals := 20 } : Room) D cl_v (kt kI kB kC kL) kE [.ref (rd 0)] (w0) (fun r w => rfP kI rd n lo hi false cs T 1 S w) 0 0 := by
  obtain ⟨one, two, own, tk, co, tO, t0, t1, sv, mg, nm, gc, go, tx, rfl, zv, zb, zT, ok, ⟨k0, k1⟩, hC, hS, hX⟩ := h
  refine kw_ofI (cc := cd_R_play) (maxL := 5) (ty := .int) (by decide) rfl (Nat.le_of_ble_eq_true rfl) rfl ?_
  intro pp ee s m args below meth c A X hr hlk hE hnm
  refine kw_aload_n X dc_R_play_0 rfl rfl ?_
  refine kw_callVI X kEw hE 0 rfl rfl (ct_asksF rd t n one two own (gm_run lo hi n cs).1 (gm_run lo hi n cs).2.1 tk cs.length co tO t0 t1 sv mg nm gc go tx T.length) (cw_V 0 X wd_692 wd_694 wp_11 wd_8 wd_695 rfl rfl (by decide +kernel) ⟨Nat.le_of_ble_eq_true rfl, Nat.le_of_ble_eq_true rfl⟩) [0, 1, 2, 3, 4, 5, 6, 7, 8, 9, 10, 11, 12] rfl (by decide) (fun _ _ h => by obtain ⟨rfl, _⟩ := h; exact Nat.le_refl _) rfl rfl (Nat.le_of_ble_eq_true rfl) dc_R_play_1 ⟨Nat.zero_le _, Nat.zero_le _⟩ (fun r w hp => ?_)
  obtain ⟨rfl, rfl⟩ := hp
  refine kw_cv (ws' := wRF kI rd 1 n one two own false (gm_run lo hi n cs).1 (gm_run lo hi n cs).2.1 tk cs.length co tO t0 t1 sv mg nm gc go tx T.length) rfl rfl rfl ?_
  refine kw_if_ne (tgt := 9) X dc_R_play_4 (by decide) (fun hc4 => ?_) (fun hc4 => ?_)
  · exact absurd rfl hc4
  · refine kw_iconst (v := (nI 0)) X dc_R_play_7 (by decide) ?_
    exact kw_iret X hr hlk dc_R_play_8 ⟨one, two, own, tk, co, tO, t0, t1, sv, mg, nm, gc, go, tx, rfl, zv, zb, zT, ok, ⟨k0, k1⟩, hC, hS, hX⟩
set_option maxRecDepth 100000 in
set_option maxHeartbeats 4000000 in
theorem ct_RplayT {l : Launch} {D : va_G} {kI kB kC kL : ClassId} (rd : Nat → Nat) (n : Nat) (lo hi : Nat → Nat) (cs T : List Nat) (t : Nat) (S : Bool) (w0 : va_W) (h : rfP kI rd n lo hi true cs T t S w0)  : kw_I l mn_R_play (gw mn_R_play cd_R_play 5 (some .int)) ({ frames := 5, cells := 0, slots := 0, locals := 113 } : Room) D cl_v (kt kI kB kC kL) kE [.ref (rd 0)] (w0) (fun r w => r = nI ((gm_play lo hi n (gm_run lo hi n cs).2.1 12 cs).length - cs.length) ∧ rfP kI rd n lo hi true (gm_play lo hi n (gm_run lo hi n cs).2.1 12 cs) T 0 true w) 0 0 := by
  obtain ⟨one, two, own, tk, co, tO, t0, t1, sv, mg, nm, gc, go, tx, rfl, zv, zb, zT, ok, ⟨k0, k1⟩, hC, hS, hX⟩ := h
  refine kw_ofI (cc := cd_R_play) (maxL := 5) (ty := .int) (by decide) rfl (Nat.le_of_ble_eq_true rfl) rfl ?_
  intro pp ee s m args below meth c A X hr hlk hE hnm
  have hn := ok.1.1
  refine kw_aload_n X dc_R_play_0 rfl rfl ?_
  refine kw_callVI X kEw hE 0 rfl rfl (ct_asksT rd t n one two own (gm_run lo hi n cs).1 (gm_run lo hi n cs).2.1 tk cs.length co tO t0 t1 sv mg nm gc go tx T.length lo hi ok ((hS rfl).elim Or.inl (fun z => Or.inr z.1))) (cw_V 0 X wd_692 wd_694 wp_11 wd_8 wd_695 rfl rfl (by decide +kernel) ⟨Nat.le_of_ble_eq_true rfl, Nat.le_of_ble_eq_true rfl⟩) [0, 1, 2, 3, 4, 5, 6, 7, 8, 9, 10, 11, 12] rfl (by decide) (fun _ _ h => by obtain ⟨_, g, g2, rfl, _⟩ := h; exact Nat.le_refl _) rfl rfl (Nat.le_of_ble_eq_true rfl) dc_R_play_1 ⟨Nat.zero_le _, Nat.zero_le _⟩ (fun r w hp => ?_)
  obtain ⟨rfl, mg2, nm2, rfl, tb⟩ := hp
  refine kw_cv (ws' := wRF kI rd 0 n one two own true (gm_run lo hi n cs).1 (gm_run lo hi n cs).2.1 tk cs.length co tO t0 t1 true mg2 nm2 gc go tx T.length) rfl rfl rfl ?_
  refine kw_if_ne (tgt := 9) X dc_R_play_4 (by decide) (fun hc4 => ?_) (fun hc4 => ?_)
  · refine kw_aload_n X dc_R_play_9 rfl rfl ?_
    refine kw_get X (wc_R _) 0 rfl rfl 7 (by decide) (gq wd_604) (fun _ h => h) rfl dc_R_play_10 ?_
    refine kw_istore_n X dc_R_play_13 rfl (by decide) ?_
    refine kw_iconst (v := (nI 0)) X dc_R_play_14 (by decide) ?_
    refine kw_istore_n X dc_R_play_15 rfl (by decide) ?_
    refine kw_loop (α := va_W × List Nat × Nat) (fun a => rfP kI rd n lo hi true a.2.1 T 0 true a.1 ∧ a.2.2 ≤ 12 ∧ a.2.1.length = cs.length + a.2.2 ∧ gm_play lo hi n (gm_run lo hi n cs).2.1 (12 - a.2.2) a.2.1 = gm_play lo hi n (gm_run lo hi n cs).2.1 12 cs) (fun a => 12 - a.2.2) (fun a => a.1) (fun a => [some (.ref (rd 0)), some (.int (nI (gm_run lo hi n cs).2.1)), some (.int (nI a.2.2)), none, none]) (fun _ => []) (wRF kI rd 0 n one two own true (gm_run lo hi n cs).1 (gm_run lo hi n cs).2.1 tk cs.length co tO t0 t1 true mg2 nm2 gc go tx T.length, cs, 0) ⟨⟨one, two, own, tk, co, tO, t0, t1, true, mg2, nm2, gc, go, tx, rfl, zv, zb, zT, ok, ⟨k0, k1⟩, hC, fun _ => Or.inl ⟨rfl, tb⟩, hX⟩, Nat.zero_le _, rfl, rfl⟩ (fun a hI ih => ?_)
    obtain ⟨w3, y, k⟩ := a
    obtain ⟨hq3, hk, hly, hpl⟩ := hI
    have hly : y.length = cs.length + k := hly
    have hk : k ≤ 12 := hk
    obtain ⟨one3, two3, own3, tk3, co3, tO3, t03, t13, sv3, mg3, nm3, gc3, go3, tx3, ew3, zv3, zb3, zT3, ok3, ⟨k03, k13⟩, hC3, hS3, hX3⟩ := hq3
    refine kw_cv (ws' := wRF kI rd 0 n one3 two3 own3 true (gm_run lo hi n y).1 (gm_run lo hi n y).2.1 tk3 y.length co3 tO3 t03 t13 sv3 mg3 nm3 gc3 go3 tx3 T.length) (lv' := [some (.ref (rd 0)), some (.int (nI (gm_run lo hi n cs).2.1)), some (.int (nI k)), none, none]) ew3 rfl rfl ?_
    have hpy := gm_run_p (lo := lo) (hi := hi) (n := n) y
    have hpy4 := kq_2n hn hpy
    have hU := gm_run_w (lo := lo) (hi := hi) (n := n) cs
    have hU2 := gm_run_w (lo := lo) (hi := hi) (n := n) y
    have tb3 := (hS3 rfl).elim (fun z => z.2) (fun z => absurd z.2 (by decide))
    refine kw_aload_n X dc_R_play_16 rfl rfl ?_
    refine kw_get X (wc_R _) 0 rfl rfl 6 (by decide) (gq wd_603) (fun _ h => h) rfl dc_R_play_17 ?_
    refine kw_if_eq (tgt := 67) X dc_R_play_20 (by decide) (fun hc20 => ?_) (fun hc20 => ?_)
    · have hz : gm_run lo hi n y = gm_run lo hi n y := rfl
      have hst : gm_play lo hi n (gm_run lo hi n cs).2.1 12 cs = y := hpl.symm.trans (gm_play_stop (fun z => z.1 (kq_eq (b := 0) hc20)) _)
      refine kw_iload_n X dc_R_play_67 rfl rfl ?_
      exact kw_iret X hr hlk dc_R_play_68 ⟨by rw [hst]; exact congrArg nI (by have hly9 : y.length = cs.length + k := hly; omega), by rw [hst]; exact ⟨one3, two3, own3, tk3, co3, tO3, t03, t13, sv3, mg3, nm3, gc3, go3, tx3, rfl, zv3, zb3, zT3, ok3, ⟨k03, k13⟩, hC3, hS3, hX3⟩⟩
    · have h20 := kq_ne (b := 0) hc20
      refine kw_aload_n X dc_R_play_23 rfl rfl ?_
      refine kw_get X (wc_R _) 0 rfl rfl 7 (by decide) (gq wd_604) (fun _ h => h) rfl dc_R_play_24 ?_
      refine kw_iload_n X dc_R_play_27 rfl rfl ?_
      refine kw_icmp_ne (tgt := 67) X dc_R_play_28 (by decide) (fun hc28 => ?_) (fun hc28 => ?_)
      · have hst : gm_play lo hi n (gm_run lo hi n cs).2.1 12 cs = y := hpl.symm.trans (gm_play_stop (fun z => kq_ne hc28 (by omega) (by omega) z.2) _)
        refine kw_iload_n X dc_R_play_67 rfl rfl ?_
        exact kw_iret X hr hlk dc_R_play_68 ⟨by rw [hst]; exact congrArg nI (by have hly9 : y.length = cs.length + k := hly; omega), by rw [hst]; exact ⟨one3, two3, own3, tk3, co3, tO3, t03, t13, sv3, mg3, nm3, gc3, go3, tx3, rfl, zv3, zb3, zT3, ok3, ⟨k03, k13⟩, hC3, hS3, hX3⟩⟩
      · have h28 := kq_eq hc28
        obtain ⟨i0, hi0, hg0⟩ := gm_good_ex ok3.1 hpy h20
        have hgl : gm_good lo hi n (gm_run lo hi n y).1 < 4096 := kq_2n hn (gm_ms_lt _ n)
        have hl12 : y.length < 12 := gm_len hn zv3 (gm_good_tb hg0).1 (gm_good_tb hg0).2
        have hk12 : k < 12 := by omega
        refine kw_aload_n X dc_R_play_31 rfl rfl ?_
        refine kw_callVI X kEw hE 0 rfl rfl (ct_goodSet rd 0 n one3 two3 own3 true (gm_run lo hi n y).1 (gm_run lo hi n y).2.1 tk3 y.length co3 tO3 t03 t13 sv3 mg3 nm3 gc3 go3 tx3 T.length lo hi ok3 hpy tb3) (cw_V 0 X wd_720 wd_722 wp_17 wd_8 wd_723 rfl rfl (by decide +kernel) ⟨Nat.le_of_ble_eq_true rfl, Nat.le_of_ble_eq_true rfl⟩) [0, 1, 2, 3, 4, 5, 6, 7, 8, 9, 10, 11, 12] rfl (by decide) (fun _ _ h => by obtain ⟨rfl, _⟩ := h; exact Nat.le_refl _) rfl rfl (Nat.le_of_ble_eq_true rfl) dc_R_play_32 ⟨Nat.zero_le _, Nat.zero_le _⟩ (fun r w hp => ?_)
        obtain ⟨rfl, rfl⟩ := hp
        refine kw_cv (ws' := wRF kI rd 0 n one3 two3 own3 true (gm_run lo hi n y).1 (gm_run lo hi n y).2.1 tk3 y.length co3 tO3 t03 t13 sv3 mg3 nm3 gc3 go3 tx3 T.length) rfl rfl rfl ?_
        refine kw_istore_n X dc_R_play_35 rfl (by decide) ?_
        refine kw_iconst (v := (nI 0)) X dc_R_play_36 (by decide) ?_
        refine kw_istore X dc_R_play_37 (by decide) ?_
        refine kw_loop (α := Nat) (fun j => j ≤ i0 ∧ ∀ i, i < j → (gm_good lo hi n (gm_run lo hi n y).1).testBit i = false) (fun j => i0 - j) (fun _ => wRF kI rd 0 n one3 two3 own3 true (gm_run lo hi n y).1 (gm_run lo hi n y).2.1 tk3 y.length co3 tO3 t03 t13 sv3 mg3 nm3 gc3 go3 tx3 T.length) (fun j => [some (.ref (rd 0)), some (.int (nI (gm_run lo hi n cs).2.1)), some (.int (nI k)), some (.int (nI (gm_good lo hi n (gm_run lo hi n y).1))), some (.int (nI j))]) (fun _ => []) 0 ⟨Nat.zero_le _, fun i hi => absurd hi (Nat.not_lt_zero _)⟩ (fun j hj9 ih2 => ?_)
        obtain ⟨hji, hj⟩ := hj9
        refine kw_iload_n X dc_R_play_39 rfl rfl ?_
        refine kw_iload X dc_R_play_40 rfl ?_
        refine kw_ishr X dc_R_play_42 rfl ?_
        refine kw_iconst (v := (nI 1)) X dc_R_play_43 (by decide) ?_
        refine kw_iand (v := nI ((gm_good lo hi n (gm_run lo hi n y).1) / 2 ^ j % 2)) X dc_R_play_44 (bq_has (by omega) (by omega)) ?_
        refine kw_if_ne (tgt := 54) X dc_R_play_45 (by decide) (fun hc45 => ?_) (fun hc45 => ?_)
        · have h45 : (gm_good lo hi n (gm_run lo hi n y).1).testBit j = true := by
            by_cases hz : (gm_good lo hi n (gm_run lo hi n y).1).testBit j = true
            · exact hz
            · exact absurd (kq_bn (by simpa using hz)) hc45
          obtain ⟨j1, j2⟩ := gm_good_tb h45
          have hlg : gm_lg lo hi n (gm_run lo hi n y).1 = j := gm_least_eq (by omega) (fun _ => h45) hj
          refine kw_aload_n X dc_R_play_54 rfl rfl ?_
          refine kw_iload X dc_R_play_55 rfl ?_
          refine kw_callVI X kEw hE 0 rfl rfl (ct_make rd n lo hi true y T 0 true (wRF kI rd 0 n one3 two3 own3 true (gm_run lo hi n y).1 (gm_run lo hi n y).2.1 tk3 y.length co3 tO3 t03 t13 sv3 mg3 nm3 gc3 go3 tx3 T.length) ⟨one3, two3, own3, tk3, co3, tO3, t03, t13, sv3, mg3, nm3, gc3, go3, tx3, rfl, zv3, zb3, zT3, ok3, ⟨k03, k13⟩, hC3, hS3, hX3⟩ j j1 j2 rfl) (cw_V 1 X wd_736 wd_738 wp_18 wd_8 wd_739 rfl rfl (by decide +kernel) ⟨Nat.le_of_ble_eq_true rfl, Nat.le_of_ble_eq_true rfl⟩) [0, 1, 2, 3, 4, 5, 6, 7, 8, 9, 10, 11, 12] rfl (by decide) (fun _ _ h => rfP_len h.2) rfl rfl (Nat.le_of_ble_eq_true rfl) dc_R_play_57 ⟨Nat.zero_le _, Nat.zero_le _⟩ (fun r w hp => ?_)
          obtain ⟨rfl, one4, two4, own4, tk4, co4, tO4, t04, t14, sv4, mg4, nm4, gc4, go4, tx4, rfl, zv4, zb4, zT4, ok4, ⟨k04, k14⟩, hC4, hS4, hX4⟩ := hp
          refine kw_cv (ws' := wRF kI rd 0 n one4 two4 own4 true (gm_run lo hi n (j :: y)).1 (gm_run lo hi n (j :: y)).2.1 tk4 (j :: y).length co4 tO4 t04 t14 sv4 mg4 nm4 gc4 go4 tx4 T.length) rfl rfl rfl ?_
          refine kw_pop X dc_R_play_60 rfl ?_
          refine kw_iinc (v := nI (k + 1)) X dc_R_play_61 rfl (kq_inc k) (by decide) ?_
          refine kw_goto (tgt := 16) X dc_R_play_64 (by decide) ?_
          refine kw_kill 3 ?_
          refine kw_kill 4 ?_
          exact ih (_, j :: y, k + 1) ⟨⟨one4, two4, own4, tk4, co4, tO4, t04, t14, sv4, mg4, nm4, gc4, go4, tx4, rfl, zv4, zb4, zT4, ok4, ⟨k04, k14⟩, hC4, hS4, hX4⟩, by show k + 1 ≤ 12; omega, by show y.length + 1 = cs.length + (k + 1); have hly9 : y.length = cs.length + k := hly; omega, by show gm_play lo hi n (gm_run lo hi n cs).2.1 (12 - (k + 1)) (j :: y) = _; rw [← hpl, show (12 - k) = (12 - (k + 1)) + 1 by omega, gm_play_go ⟨h20, h28⟩, hlg]⟩ (by show 12 - (k + 1) < 12 - k; omega)
        · have h45 : (gm_good lo hi n (gm_run lo hi n y).1).testBit j = false := by
            by_cases hz : (gm_good lo hi n (gm_run lo hi n y).1).testBit j = true
            · exact absurd hc45 (kq_bz hz)
            · simpa using hz
          have hj12 : j < i0 := by
            rcases Nat.lt_trichotomy j i0 with q | q | q
            · exact q
            · rw [q, hg0] at h45; cases h45
            · rw [hj i0 q] at hg0; cases hg0
          refine kw_iinc (v := nI (j + 1)) X dc_R_play_48 rfl (kq_inc j) (by decide) ?_
          refine kw_goto (tgt := 39) X dc_R_play_51 (by decide) ?_
          exact ih2 (j + 1) ⟨by omega, fun i hi => by rcases Nat.lt_or_ge i j with q | q; (exact hj i q); (have e : i = j := (by omega); rw [e]; exact h45)⟩ (by omega)
  · exact absurd hc4 (show ¬ nI 1 = 0 by decide)
