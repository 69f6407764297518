theorem kq_none {o : Option Int} (h : bI o.isSome = 0) : o = none := by
  cases o with
  | none => rfl
  | some v => exact absurd h (show ¬ bI true = 0 by decide)
theorem kq_some {o : Option Int} (h : ¬ bI o.isSome = 0) : o = some (o.getD 0) := by
  cases o with
  | none => exact absurd rfl h
  | some v => rfl
theorem gm_mx2_0 {lo hi : Nat → Nat} {n : Nat} {f : Nat → Int} {p k : Nat} (h : ¬ p.testBit k = true) : gm_mx2 lo hi n f p (k + 1) = gm_mx2 lo hi n f p k := if_neg h
theorem gm_mx2_1 {lo hi : Nat → Nat} {n : Nat} {f : Nat → Int} {p k : Nat} (h : p.testBit k = true) (h0 : gm_mx2 lo hi n f p k = none) : gm_mx2 lo hi n f p (k + 1) = some (gm_gv lo hi n f p k) := by
  show (if p.testBit k = true then _ else _) = _
  rw [if_pos h, h0]
theorem gm_mx2_2 {lo hi : Nat → Nat} {n : Nat} {f : Nat → Int} {p k : Nat} {b : Int} (h : p.testBit k = true) (h0 : gm_mx2 lo hi n f p k = some b) (hl : ¬ b < gm_gv lo hi n f p k) : gm_mx2 lo hi n f p (k + 1) = some b := by
  show (if p.testBit k = true then _ else _) = _
  rw [if_pos h, h0]
  show some (if _ then _ else _) = _
  rw [if_neg hl]
theorem gm_mx2_3 {lo hi : Nat → Nat} {n : Nat} {f : Nat → Int} {p k : Nat} {b : Int} (h : p.testBit k = true) (h0 : gm_mx2 lo hi n f p k = some b) (hl : b < gm_gv lo hi n f p k) : gm_mx2 lo hi n f p (k + 1) = some (gm_gv lo hi n f p k) := by
  show (if p.testBit k = true then _ else _) = _
  rw [if_pos h, h0]
  show some (if _ then _ else _) = _
  rw [if_pos hl]
theorem gm_mx2_bd {lo hi : Nat → Nat} {n : Nat} (ok : gm_ok lo hi n) {p : Nat} (hp : p < 2 ^ n) {k : Nat} (hk : k ≤ n) {b : Int} (h : gm_mx2 lo hi n (gm_mg lo hi n) p k = some b) : -8 ≤ b ∧ b ≤ 8 := by
  rcases gm_mx2_eq (lo := lo) (hi := hi) (n := n) (f := gm_mg lo hi n) (p := p) k (fun i hi' hb => (gm_gv_8 ok hp (by omega) hb).1) with ⟨e1, -, -⟩ | e1
  · rw [e1] at h
    cases h
  · rw [e1] at h
    have h := Option.some.inj h
    rw [← h]
    exact ⟨gm_mx_lo lo hi n _ p k, gm_mx_8 ok hp hk⟩
/-- a value as a bit -/
def gm_vb (v : Int) : Nat := if v = -1 then 0 else 2 ^ v.toNat
theorem gm_vb_0 {v : Int} : gm_vb v = 0 ↔ v = -1 := by
  unfold gm_vb
  by_cases h : v = -1
  · rw [if_pos h]; exact ⟨fun _ => h, fun _ => rfl⟩
  · rw [if_neg h]
    have := Nat.two_pow_pos v.toNat
    exact ⟨fun z => by omega, fun z => absurd z h⟩
theorem gm_vb_lt {v : Int} (h : v ≤ 11) : gm_vb v < 4096 := by
  unfold gm_vb
  split
  · omega
  · exact Nat.lt_of_le_of_lt (Nat.pow_le_pow_right (by decide) (show v.toNat ≤ 11 by omega)) (by decide)
theorem gm_stQ {lo hi : Nat → Nat} {n : Nat} {f : Nat → Int} {p k : Nat} (h : p.testBit k = true) (ht : gm_tk lo hi n p k = 0) : gm_st lo hi n f p (k + 1) = ((gm_st lo hi n f p k).1 ||| gm_vb (f (bq_wo p k)), (gm_st lo hi n f p k).2.1, (gm_st lo hi n f p k).2.2) := by
  show (if p.testBit k = true then _ else _) = _
  rw [if_pos h]
  unfold gm_vb
  by_cases hv : f (bq_wo p k) = -1
  · rw [if_pos hv, if_pos hv, ht, Nat.or_zero]
    simp
  · rw [if_neg hv, if_neg hv, if_neg (show ¬ 0 < gm_tk lo hi n p k by omega)]
theorem gm_stT {lo hi : Nat → Nat} {n : Nat} {f : Nat → Int} {p k : Nat} (h : p.testBit k = true) (ht : 0 < gm_tk lo hi n p k) : gm_st lo hi n f p (k + 1) = ((gm_st lo hi n f p k).1, (gm_st lo hi n f p k).2.1 ||| gm_vb (f (bq_wo p k)), (gm_st lo hi n f p k).2.2 || decide (f (bq_wo p k) = -1)) := by
  show (if p.testBit k = true then _ else _) = _
  rw [if_pos h]
  unfold gm_vb
  by_cases hv : f (bq_wo p k) = -1
  · rw [if_pos hv, if_pos hv, Nat.or_zero, decide_eq_true ht, decide_eq_true hv]
  · rw [if_neg hv, if_neg hv, if_pos ht, decide_eq_false hv, Bool.or_false]
theorem gm_tksN {lo hi : Nat → Nat} {n p k : Nat} (h : ¬ p.testBit k = true) : gm_tks lo hi n p (k + 1) = gm_tks lo hi n p k := by
  have h' : p.testBit k = false := by simpa using h
  show (gm_tks lo hi n p k || (p.testBit k && _)) = _
  rw [h', Bool.false_and, Bool.or_false]
theorem gm_tksQ {lo hi : Nat → Nat} {n p k : Nat} (ht : gm_tk lo hi n p k = 0) : gm_tks lo hi n p (k + 1) = gm_tks lo hi n p k := by
  show (gm_tks lo hi n p k || (p.testBit k && decide (0 < gm_tk lo hi n p k))) = _
  rw [ht]
  simp
theorem gm_tksT {lo hi : Nat → Nat} {n p k : Nat} (h : p.testBit k = true) (ht : 0 < gm_tk lo hi n p k) : gm_tks lo hi n p (k + 1) = true := by
  show (gm_tks lo hi n p k || (p.testBit k && decide (0 < gm_tk lo hi n p k))) = _
  rw [h, decide_eq_true ht]
  simp
def gm_pt (t : Nat) : Bool := t == 0 || (if t &&& (t - 1) = 0 then gm_pc t == 1 && t == 2 ^ gm_least (fun i => t.testBit i) else decide (1 < gm_pc t))
theorem gm_pt_tab : ∀ a, a < 64 → ∀ b, b < 64 → gm_pt (64 * a + b) = true := by decide +kernel
theorem gm_pt_ok {t : Nat} (h : t < 4096) (h0 : t ≠ 0) : (t &&& (t - 1) = 0 → gm_pc t = 1 ∧ t = 2 ^ gm_least (fun i => t.testBit i)) ∧ (¬ t &&& (t - 1) = 0 → 1 < gm_pc t) := by
  have h1 := gm_pt_tab (t / 64) (by omega) (t % 64) (by omega)
  rw [Nat.div_add_mod] at h1
  unfold gm_pt at h1
  have h2 : (t == 0) = false := by simpa using h0
  rw [h2, Bool.false_or] at h1
  constructor
  · intro hz
    rw [if_pos hz] at h1
    simpa using h1
  · intro hz
    rw [if_neg hz] at h1
    simpa using h1
theorem rn_q {q : Nat × Nat × Bool} (h2 : q.2.2 = false) (h1 : q.2.1 = 0) : gm_out q = (gm_least (fun i => !q.1.testBit i) : Int) := by
  unfold gm_out
  rw [if_neg (by rw [h2]; decide), if_pos h1]
theorem rn_l {q : Nat × Nat × Bool} (h : q.2.2 = true) : gm_out q = -1 := if_pos h
theorem rn_d {q : Nat × Nat × Bool} (h0 : q.2.1 ≠ 0) (h : 1 < gm_pc q.2.1 ∨ q.2.1 &&& q.1 ≠ 0) : gm_out q = -1 := by
  unfold gm_out
  by_cases h2 : q.2.2 = true
  · rw [if_pos h2]
  · rw [if_neg h2, if_neg h0, if_pos h]
theorem rn_t {q : Nat × Nat × Bool} (h2 : q.2.2 = false) (h0 : q.2.1 ≠ 0) (h : gm_pc q.2.1 = 1) (h3 : q.2.1 &&& q.1 = 0) : gm_out q = (gm_least (fun i => q.2.1.testBit i) : Int) := by
  unfold gm_out
  rw [if_neg (by rw [h2]; decide), if_neg h0, if_neg (by omega)]
theorem gm_tks_T {lo hi : Nat → Nat} {n : Nat} {f : Nat → Int} {p k : Nat} (h : gm_tks lo hi n p k = true) (h2 : (gm_st lo hi n f p k).2.2 = false) : (gm_st lo hi n f p k).2.1 ≠ 0 := fun z => by
  have := (gm_tks_eq (lo := lo) (hi := hi) (n := n) (f := f) (p := p) k).mpr ⟨z, h2⟩
  rw [h] at this
  cases this
theorem kq_pw {J j : Nat} (h : j ≤ J) : 2 ^ J / 2 ^ j = 1 ↔ j = J := by
  rw [Nat.pow_div h (by decide)]
  constructor
  · intro z
    rcases Nat.lt_or_ge j J with q | q
    · have := Nat.pow_le_pow_right (show 0 < 2 by decide) (show 1 ≤ J - j by omega)
      omega
    · omega
  · intro z
    rw [z, Nat.sub_self]
set_option maxRecDepth 100000 in
set_option maxHeartbeats 4000000 in
theorem ct_marginBy {l : Launch} {D : va_G} {kI kB kC kL : ClassId} (rd : Nat → Nat) (th n : Nat) (one two own : Nat → Int32) (bg : Bool) (lf tu : Nat) (tk : Nat → Int32) (cu : Nat) (co tO t0 t1 : Nat → Int32) (sv : Bool) (mg nm : Nat → Int32) (gc : Nat) (go tx : Nat → Int32) (len : Nat) (lo hi : Nat → Nat) (ok : rfOk lo hi n one two own) (p i : Nat) (hp : p < 2 ^ n) (hi1 : i < n) (hb : p.testBit i = true) (hf : mg (bq_wo p i) = iZ (gm_mg lo hi n (bq_wo p i))) : kw_I l mn_R_marginBy (gw mn_R_marginBy cd_R_marginBy 5 (some .int)) ({ frames := 1, cells := 0, slots := 0, locals := 23 } : Room) D cl_v (kt kI kB kC kL) kE [.ref (rd 0), .int (nI i), .int (nI p)] (wRF kI rd th n one two own bg lf tu tk cu co tO t0 t1 sv mg nm gc go tx len) (fun r w => w = wRF kI rd th n one two own bg lf tu tk cu co tO t0 t1 sv mg nm gc go tx len ∧ r = iZ (gm_gv lo hi n (gm_mg lo hi n) p i)) 0 0 := by
  refine kw_ofI (cc := cd_R_marginBy) (maxL := 5) (ty := .int) (by decide) rfl (Nat.le_of_ble_eq_true rfl) rfl ?_
  intro pp ee s m args below meth c A X hr hlk hE hnm
  have hn := ok.1.1
  have hp4 := kq_2n hn hp
  have hlt := bq_wo_lt hb
  have ht2 := gm_tk_2 lo hi n p i
  refine kw_iload_n X dc_R_marginBy_0 rfl rfl ?_
  refine kw_iconst (v := (nI 1)) X dc_R_marginBy_1 (by decide) ?_
  refine kw_iload_n X dc_R_marginBy_2 rfl rfl ?_
  refine kw_ishl X dc_R_marginBy_3 rfl ?_
  refine kw_iconst (v := (-1)) X dc_R_marginBy_4 (by decide) ?_
  refine kw_ixor X dc_R_marginBy_5 rfl ?_
  refine kw_iand (v := nI (bq_wo p i)) X dc_R_marginBy_6 (bq_woI (by omega)) ?_
  refine kw_istore_n X dc_R_marginBy_7 rfl (by decide) ?_
  refine kw_aload_n X dc_R_marginBy_8 rfl rfl ?_
  refine kw_iload_n X dc_R_marginBy_9 rfl rfl ?_
  refine kw_iload_n X dc_R_marginBy_10 rfl rfl ?_
  refine kw_callVI X kEw hE 0 rfl rfl (ct_takes rd th n one two own bg lf tu tk cu co tO t0 t1 sv mg nm gc go tx len lo hi ok p i hp hi1 hb) (cw_V 2 X wd_708 wd_710 wp_15 wd_8 wd_711 rfl rfl (by decide +kernel) ⟨Nat.le_of_ble_eq_true rfl, Nat.le_of_ble_eq_true rfl⟩) [0, 1, 2, 3, 4, 5, 6, 7, 8, 9, 10, 11, 12] rfl (by decide) (fun _ _ h => by obtain ⟨rfl, _⟩ := h; exact Nat.le_refl _) rfl rfl (Nat.le_of_ble_eq_true rfl) dc_R_marginBy_11 ⟨Nat.zero_le _, Nat.zero_le _⟩ (fun r w hp => ?_)
  obtain ⟨rfl, rfl⟩ := hp
  refine kw_cv (ws' := wRF kI rd th n one two own bg lf tu tk cu co tO t0 t1 sv mg nm gc go tx len) rfl rfl rfl ?_
  refine kw_istore X dc_R_marginBy_14 (by decide) ?_
  refine kw_iload X dc_R_marginBy_16 rfl ?_
  refine kw_if_le (tgt := 33) X dc_R_marginBy_18 (by decide) (fun hc18 => ?_) (fun hc18 => ?_)
  · refine kw_aload_n X dc_R_marginBy_33 rfl rfl ?_
    refine kw_get X (wc_R _) 0 rfl rfl 15 (by decide) (gq wd_612) (fun _ h => h) rfl dc_R_marginBy_34 ?_
    refine kw_iload_n X dc_R_marginBy_37 rfl rfl ?_
    refine kw_iald (v := iZ (gm_mg lo hi n (bq_wo p i))) X 9 0 rfl rfl (kq_in (by omega) (by omega)) (by rw [kq_cl (by omega)]; exact hf) dc_R_marginBy_38 ?_
    refine kw_ineg (v := iZ (-gm_mg lo hi n (bq_wo p i))) X dc_R_marginBy_39 (iZ_neg _) ?_
    exact kw_iret X hr hlk dc_R_marginBy_40 ⟨rfl, by unfold gm_gv; first | rw [if_pos (by have := kq_nle (b := 0) hc18; omega)] | rw [if_neg (by have := kq_le (b := 0) hc18; omega)]⟩
  · refine kw_iload X dc_R_marginBy_21 rfl ?_
    refine kw_aload_n X dc_R_marginBy_23 rfl rfl ?_
    refine kw_get X (wc_R _) 0 rfl rfl 15 (by decide) (gq wd_612) (fun _ h => h) rfl dc_R_marginBy_24 ?_
    refine kw_iload_n X dc_R_marginBy_27 rfl rfl ?_
    refine kw_iald (v := iZ (gm_mg lo hi n (bq_wo p i))) X 9 0 rfl rfl (kq_in (by omega) (by omega)) (by rw [kq_cl (by omega)]; exact hf) dc_R_marginBy_28 ?_
    refine kw_iadd (v := iZ ((gm_tk lo hi n p i : Int) + gm_mg lo hi n (bq_wo p i))) X dc_R_marginBy_29 (by rw [← iZ_nat, iZ_add]) ?_
    refine kw_goto (tgt := 40) X dc_R_marginBy_30 (by decide) ?_
    exact kw_iret X hr hlk dc_R_marginBy_40 ⟨rfl, by unfold gm_gv; first | rw [if_pos (by have := kq_nle (b := 0) hc18; omega)] | rw [if_neg (by have := kq_le (b := 0) hc18; omega)]⟩
set_option maxRecDepth 100000 in
set_option maxHeartbeats 4000000 in
theorem ct_marginOf {l : Launch} {D : va_G} {kI kB kC kL : ClassId} (rd : Nat → Nat) (th n : Nat) (one two own : Nat → Int32) (bg : Bool) (lf tu : Nat) (tk : Nat → Int32) (cu : Nat) (co tO t0 t1 : Nat → Int32) (sv : Bool) (mg nm : Nat → Int32) (gc : Nat) (go tx : Nat → Int32) (len : Nat) (lo hi : Nat → Nat) (ok : rfOk lo hi n one two own) (p : Nat) (hp : p < 2 ^ n) (hf : ∀ q, q < p → mg q = iZ (gm_mg lo hi n q)) : kw_I l mn_R_marginOf (gw mn_R_marginOf cd_R_marginOf 6 (some .int)) ({ frames := 2, cells := 0, slots := 0, locals := 47 } : Room) D cl_v (kt kI kB kC kL) kE [.ref (rd 0), .int (nI p)] (wRF kI rd th n one two own bg lf tu tk cu co tO t0 t1 sv mg nm gc go tx len) (fun r w => w = wRF kI rd th n one two own bg lf tu tk cu co tO t0 t1 sv mg nm gc go tx len ∧ r = iZ (gm_mg lo hi n p)) 0 0 := by
  refine kw_ofI (cc := cd_R_marginOf) (maxL := 6) (ty := .int) (by decide) rfl (Nat.le_of_ble_eq_true rfl) rfl ?_
  intro pp ee s m args below meth c A X hr hlk hE hnm
  have hn := ok.1.1
  have hp4 := kq_2n hn hp
  refine kw_iconst (v := (nI 0)) X dc_R_marginOf_0 (by decide) ?_
  refine kw_istore_n X dc_R_marginOf_1 rfl (by decide) ?_
  refine kw_iconst (v := (nI 0)) X dc_R_marginOf_2 (by decide) ?_
  refine kw_istore_n X dc_R_marginOf_3 rfl (by decide) ?_
  refine kw_iconst (v := (nI 0)) X dc_R_marginOf_4 (by decide) ?_
  refine kw_istore X dc_R_marginOf_5 (by decide) ?_
  refine kw_loop (α := Nat) (fun k => k ≤ n) (fun k => n - k) (fun _ => wRF kI rd th n one two own bg lf tu tk cu co tO t0 t1 sv mg nm gc go tx len) (fun k => [some (.ref (rd 0)), some (.int (nI p)), some (.int (iZ ((gm_mx2 lo hi n (gm_mg lo hi n) p k).getD 0))), some (.int (bI (gm_mx2 lo hi n (gm_mg lo hi n) p k).isSome)), some (.int (nI k)), none]) (fun _ => []) 0 (Nat.zero_le _) (fun k hk ih => ?_)
  refine kw_iload X dc_R_marginOf_7 rfl ?_
  refine kw_aload_n X dc_R_marginOf_9 rfl rfl ?_
  refine kw_get X (wc_R _) 0 rfl rfl 1 (by decide) (gq wd_598) (fun _ h => h) rfl dc_R_marginOf_10 ?_
  refine kw_icmp_ge (tgt := 60) X dc_R_marginOf_13 (by decide) (fun hc13 => ?_) (fun hc13 => ?_)
  · refine kw_iload_n X dc_R_marginOf_60 rfl rfl ?_
    exact kw_iret X hr hlk dc_R_marginOf_61 ⟨rfl, by have hkn : n = k := Nat.le_antisymm (kq_le hc13) hk; subst hkn; rw [gm_mx2_mg ok.1 hp]⟩
  · have hkn := kq_nle hc13
    refine kw_iload_n X dc_R_marginOf_16 rfl rfl ?_
    refine kw_iload X dc_R_marginOf_17 rfl ?_
    refine kw_ishr X dc_R_marginOf_19 rfl ?_
    refine kw_iconst (v := (nI 1)) X dc_R_marginOf_20 (by decide) ?_
    refine kw_iand X dc_R_marginOf_21 rfl ?_
    refine kw_iconst (v := (nI 1)) X dc_R_marginOf_22 (by decide) ?_
    refine kw_icmp_ne (tgt := 54) X dc_R_marginOf_23 (by decide) (fun hc23 => ?_) (fun hc23 => ?_)
    · have h23 : ¬ p.testBit k = true := fun z => hc23 ((kq_has (by omega) (by omega)).mpr z)
      have hm := gm_mx2_0 (lo := lo) (hi := hi) (n := n) (f := gm_mg lo hi n) h23
      refine kw_iinc (v := nI (k + 1)) X dc_R_marginOf_54 rfl (kq_inc k) (by decide) ?_
      refine kw_goto (tgt := 7) X dc_R_marginOf_57 (by decide) ?_
      refine kw_kill 5 ?_
      refine kw_cv (lv' := [some (.ref (rd 0)), some (.int (nI p)), some (.int (iZ ((gm_mx2 lo hi n (gm_mg lo hi n) p (k + 1)).getD 0))), some (.int (bI (gm_mx2 lo hi n (gm_mg lo hi n) p (k + 1)).isSome)), some (.int (nI (k + 1))), none]) rfl (by rw [hm]; rfl) rfl ?_
      exact ih (k + 1) (by omega) (by omega)
    · have h23 := (kq_has (by omega) (by omega)).mp hc23
      refine kw_aload_n X dc_R_marginOf_26 rfl rfl ?_
      refine kw_iload X dc_R_marginOf_27 rfl ?_
      refine kw_iload_n X dc_R_marginOf_29 rfl rfl ?_
      refine kw_callVI X kEw hE 0 rfl rfl (ct_marginBy rd th n one two own bg lf tu tk cu co tO t0 t1 sv mg nm gc go tx len lo hi ok p k hp hkn h23 (hf _ (bq_wo_lt h23))) (cw_V 2 X wd_704 wd_706 wp_14 wd_8 wd_707 rfl rfl (by decide +kernel) ⟨Nat.le_of_ble_eq_true rfl, Nat.le_of_ble_eq_true rfl⟩) [0, 1, 2, 3, 4, 5, 6, 7, 8, 9, 10, 11, 12] rfl (by decide) (fun _ _ h => by obtain ⟨rfl, _⟩ := h; exact Nat.le_refl _) rfl rfl (Nat.le_of_ble_eq_true rfl) dc_R_marginOf_30 ⟨Nat.zero_le _, Nat.zero_le _⟩ (fun r w hp => ?_)
      obtain ⟨rfl, rfl⟩ := hp
      refine kw_cv (ws' := wRF kI rd th n one two own bg lf tu tk cu co tO t0 t1 sv mg nm gc go tx len) rfl rfl rfl ?_
      refine kw_istore X dc_R_marginOf_33 (by decide) ?_
      refine kw_iload_n X dc_R_marginOf_35 rfl rfl ?_
      refine kw_if_eq (tgt := 45) X dc_R_marginOf_36 (by decide) (fun hc36 => ?_) (fun hc36 => ?_)
      · have hm := gm_mx2_1 h23 (kq_none hc36)
        refine kw_iload X dc_R_marginOf_45 rfl ?_
        refine kw_goto (tgt := 51) X dc_R_marginOf_47 (by decide) ?_
        refine kw_istore_n X dc_R_marginOf_51 rfl (by decide) ?_
        refine kw_iconst (v := (nI 1)) X dc_R_marginOf_52 (by decide) ?_
        refine kw_istore_n X dc_R_marginOf_53 rfl (by decide) ?_
        refine kw_iinc (v := nI (k + 1)) X dc_R_marginOf_54 rfl (kq_inc k) (by decide) ?_
        refine kw_goto (tgt := 7) X dc_R_marginOf_57 (by decide) ?_
        refine kw_kill 5 ?_
        refine kw_cv (lv' := [some (.ref (rd 0)), some (.int (nI p)), some (.int (iZ ((gm_mx2 lo hi n (gm_mg lo hi n) p (k + 1)).getD 0))), some (.int (bI (gm_mx2 lo hi n (gm_mg lo hi n) p (k + 1)).isSome)), some (.int (nI (k + 1))), none]) rfl (by rw [hm]; rfl) rfl ?_
        exact ih (k + 1) (by omega) (by omega)
      · have h36 := kq_some hc36
        have bb := gm_mx2_bd ok.1 hp hk h36
        have bg8 := gm_gv_8 ok.1 hp hkn h23
        refine kw_iload X dc_R_marginOf_39 rfl ?_
        refine kw_iload_n X dc_R_marginOf_41 rfl rfl ?_
        refine kw_icmp_le (tgt := 50) X dc_R_marginOf_42 (by decide) (fun hc42 => ?_) (fun hc42 => ?_)
        · have hm := gm_mx2_2 h23 h36 (fun z => absurd ((iZ_lt (by omega) (by omega) (by omega) (by omega)).mpr z) (Int32.not_lt.mpr hc42))
          refine kw_iload_n X dc_R_marginOf_50 rfl rfl ?_
          refine kw_istore_n X dc_R_marginOf_51 rfl (by decide) ?_
          refine kw_iconst (v := (nI 1)) X dc_R_marginOf_52 (by decide) ?_
          refine kw_istore_n X dc_R_marginOf_53 rfl (by decide) ?_
          refine kw_iinc (v := nI (k + 1)) X dc_R_marginOf_54 rfl (kq_inc k) (by decide) ?_
          refine kw_goto (tgt := 7) X dc_R_marginOf_57 (by decide) ?_
          refine kw_kill 5 ?_
          refine kw_cv (lv' := [some (.ref (rd 0)), some (.int (nI p)), some (.int (iZ ((gm_mx2 lo hi n (gm_mg lo hi n) p (k + 1)).getD 0))), some (.int (bI (gm_mx2 lo hi n (gm_mg lo hi n) p (k + 1)).isSome)), some (.int (nI (k + 1))), none]) rfl (by rw [hm]; rfl) rfl ?_
          exact ih (k + 1) (by omega) (by omega)
        · have hm := gm_mx2_3 h23 h36 ((iZ_lt (by omega) (by omega) (by omega) (by omega)).mp (Int32.not_le.mp hc42))
          refine kw_iload X dc_R_marginOf_45 rfl ?_
          refine kw_goto (tgt := 51) X dc_R_marginOf_47 (by decide) ?_
          refine kw_istore_n X dc_R_marginOf_51 rfl (by decide) ?_
          refine kw_iconst (v := (nI 1)) X dc_R_marginOf_52 (by decide) ?_
          refine kw_istore_n X dc_R_marginOf_53 rfl (by decide) ?_
          refine kw_iinc (v := nI (k + 1)) X dc_R_marginOf_54 rfl (kq_inc k) (by decide) ?_
          refine kw_goto (tgt := 7) X dc_R_marginOf_57 (by decide) ?_
          refine kw_kill 5 ?_
          refine kw_cv (lv' := [some (.ref (rd 0)), some (.int (nI p)), some (.int (iZ ((gm_mx2 lo hi n (gm_mg lo hi n) p (k + 1)).getD 0))), some (.int (bI (gm_mx2 lo hi n (gm_mg lo hi n) p (k + 1)).isSome)), some (.int (nI (k + 1))), none]) rfl (by rw [hm]; rfl) rfl ?_
          exact ih (k + 1) (by omega) (by omega)
set_option maxRecDepth 100000 in
set_option maxHeartbeats 4000000 in
theorem ct_nimOf {l : Launch} {D : va_G} {kI kB kC kL : ClassId} (rd : Nat → Nat) (th n : Nat) (one two own : Nat → Int32) (bg : Bool) (lf tu : Nat) (tk : Nat → Int32) (cu : Nat) (co tO t0 t1 : Nat → Int32) (sv : Bool) (mg nm : Nat → Int32) (gc : Nat) (go tx : Nat → Int32) (len : Nat) (lo hi : Nat → Nat) (ok : rfOk lo hi n one two own) (p : Nat) (hp : p < 2 ^ n) (hf : ∀ q, q < p → nm q = iZ (gm_nm lo hi n q)) : kw_I l mn_R_nimOf (gw mn_R_nimOf cd_R_nimOf 9 (some .int)) ({ frames := 1, cells := 0, slots := 0, locals := 23 } : Room) D cl_v (kt kI kB kC kL) kE [.ref (rd 0), .int (nI p)] (wRF kI rd th n one two own bg lf tu tk cu co tO t0 t1 sv mg nm gc go tx len) (fun r w => w = wRF kI rd th n one two own bg lf tu tk cu co tO t0 t1 sv mg nm gc go tx len ∧ r = iZ (gm_nm lo hi n p)) 0 0 := by
  refine kw_ofI (cc := cd_R_nimOf) (maxL := 9) (ty := .int) (by decide) rfl (Nat.le_of_ble_eq_true rfl) rfl ?_
  intro pp ee s m args below meth c A X hr hlk hE hnm
  have hn := ok.1.1
  have hp4 := kq_2n hn hp
  refine kw_iconst (v := (nI 0)) X dc_R_nimOf_0 (by decide) ?_
  refine kw_istore_n X dc_R_nimOf_1 rfl (by decide) ?_
  refine kw_iconst (v := (nI 0)) X dc_R_nimOf_2 (by decide) ?_
  refine kw_istore_n X dc_R_nimOf_3 rfl (by decide) ?_
  refine kw_iconst (v := (nI 0)) X dc_R_nimOf_4 (by decide) ?_
  refine kw_istore X dc_R_nimOf_5 (by decide) ?_
  refine kw_iconst (v := (nI 0)) X dc_R_nimOf_7 (by decide) ?_
  refine kw_istore X dc_R_nimOf_8 (by decide) ?_
  refine kw_iconst (v := (nI 0)) X dc_R_nimOf_10 (by decide) ?_
  refine kw_istore X dc_R_nimOf_11 (by decide) ?_
  refine kw_loop (α := Nat) (fun k => k ≤ n) (fun k => n - k) (fun _ => wRF kI rd th n one two own bg lf tu tk cu co tO t0 t1 sv mg nm gc go tx len) (fun k => [some (.ref (rd 0)), some (.int (nI p)), some (.int (nI (gm_st lo hi n (gm_nm lo hi n) p k).1)), some (.int (nI (gm_st lo hi n (gm_nm lo hi n) p k).2.1)), some (.int (bI (gm_st lo hi n (gm_nm lo hi n) p k).2.2)), some (.int (bI (gm_tks lo hi n p k))), some (.int (nI k)), none, none]) (fun _ => []) 0 (Nat.zero_le _) (fun k hk ih => ?_)
  refine kw_iload X dc_R_nimOf_13 rfl ?_
  refine kw_aload_n X dc_R_nimOf_15 rfl rfl ?_
  refine kw_get X (wc_R _) 0 rfl rfl 1 (by decide) (gq wd_598) (fun _ h => h) rfl dc_R_nimOf_16 ?_
  refine kw_icmp_ge (tgt := 118) X dc_R_nimOf_19 (by decide) (fun hc19 => ?_) (fun hc19 => ?_)
  · have hkn : n = k := Nat.le_antisymm (kq_le hc19) hk
    subst hkn
    obtain ⟨q1, q2⟩ := gm_st_12 (lo := lo) (hi := hi) hn hp (Nat.le_refl n)
    refine kw_iconst (v := (nI 0)) X dc_R_nimOf_118 (by decide) ?_
    refine kw_istore X dc_R_nimOf_119 (by decide) ?_
    refine kw_iload X dc_R_nimOf_121 rfl ?_
    refine kw_if_ne (tgt := 145) X dc_R_nimOf_123 (by decide) (fun hc123 => ?_) (fun hc123 => ?_)
    · have h123 := bI_1 hc123
      refine kw_iload X dc_R_nimOf_145 rfl ?_
      refine kw_if_ne (tgt := 164) X dc_R_nimOf_147 (by decide) (fun hc147 => ?_) (fun hc147 => ?_)
      · have hret := rn_l (bI_1 hc147)
        refine kw_iconst (v := (-1)) X dc_R_nimOf_164 (by decide) ?_
        exact kw_iret X hr hlk dc_R_nimOf_165 ⟨rfl, by rw [gm_nm_eq]; unfold gm_NF; rw [hret]; exact iZ_m1.symm⟩
      · have h147 := bI_0 hc147
        have h0 := gm_tks_T h123 h147
        obtain ⟨pt1, pt2⟩ := gm_pt_ok q2 h0
        refine kw_iload_n X dc_R_nimOf_150 rfl rfl ?_
        refine kw_iload_n X dc_R_nimOf_151 rfl rfl ?_
        refine kw_iconst (v := (nI 1)) X dc_R_nimOf_152 (by decide) ?_
        refine kw_isub (v := nI ((gm_st lo hi n (gm_nm lo hi n) p n).2.1 - 1)) X dc_R_nimOf_153 (pk_sub (Nat.pos_of_ne_zero h0)) ?_
        refine kw_iand (v := nI ((gm_st lo hi n (gm_nm lo hi n) p n).2.1 &&& ((gm_st lo hi n (gm_nm lo hi n) p n).2.1 - 1))) X dc_R_nimOf_154 (nx_and _ _) ?_
        refine kw_if_ne (tgt := 164) X dc_R_nimOf_155 (by decide) (fun hc155 => ?_) (fun hc155 => ?_)
        · have hret := rn_d h0 (Or.inl (pt2 (kq_ne (b := 0) hc155 (Nat.lt_of_le_of_lt Nat.and_le_left (by omega)))))
          refine kw_iconst (v := (-1)) X dc_R_nimOf_164 (by decide) ?_
          exact kw_iret X hr hlk dc_R_nimOf_165 ⟨rfl, by rw [gm_nm_eq]; unfold gm_NF; rw [hret]; exact iZ_m1.symm⟩
        · have h155 := kq_eq (b := 0) hc155 (Nat.lt_of_le_of_lt Nat.and_le_left (by omega))
          obtain ⟨pc1, pw1⟩ := pt1 h155
          refine kw_iload_n X dc_R_nimOf_158 rfl rfl ?_
          refine kw_iload_n X dc_R_nimOf_159 rfl rfl ?_
          refine kw_iand (v := nI ((gm_st lo hi n (gm_nm lo hi n) p n).2.1 &&& (gm_st lo hi n (gm_nm lo hi n) p n).1)) X dc_R_nimOf_160 (nx_and _ _) ?_
          refine kw_if_eq (tgt := 166) X dc_R_nimOf_161 (by decide) (fun hc161 => ?_) (fun hc161 => ?_)
          · have h161 := kq_eq (b := 0) hc161 (Nat.lt_of_le_of_lt Nat.and_le_left (by omega))
            obtain ⟨TJ, eTJ⟩ : ∃ J, J = gm_least (fun i => (gm_st lo hi n (gm_nm lo hi n) p n).2.1.testBit i) := ⟨_, rfl⟩
            rw [← eTJ] at pw1
            have hJ12 : TJ < 12 := by
              rcases Nat.lt_or_ge TJ 12 with q | q
              · exact q
              · have := Nat.pow_le_pow_right (show 0 < 2 by decide) q
                omega
            refine kw_loop (α := Nat) (fun j => j ≤ TJ) (fun j => TJ - j) (fun _ => wRF kI rd th n one two own bg lf tu tk cu co tO t0 t1 sv mg nm gc go tx len) (fun j => [some (.ref (rd 0)), some (.int (nI p)), some (.int (nI (gm_st lo hi n (gm_nm lo hi n) p n).1)), some (.int (nI (gm_st lo hi n (gm_nm lo hi n) p n).2.1)), some (.int (bI (gm_st lo hi n (gm_nm lo hi n) p n).2.2)), some (.int (bI (gm_tks lo hi n p n))), some (.int (nI j)), none, none]) (fun _ => []) 0 (Nat.zero_le _) (fun j hj ih2 => ?_)
            refine kw_iload_n X dc_R_nimOf_166 rfl rfl ?_
            refine kw_iload X dc_R_nimOf_167 rfl ?_
            refine kw_ishr (v := nI (2 ^ TJ / 2 ^ j)) X dc_R_nimOf_169 ((bq_shr (by omega) (by omega)).trans (by rw [← pw1])) ?_
            refine kw_iconst (v := (nI 1)) X dc_R_nimOf_170 (by decide) ?_
            refine kw_icmp_eq (tgt := 180) X dc_R_nimOf_171 (by decide) (fun hc171 => ?_) (fun hc171 => ?_)
            · have h171 := (kq_pw hj).mp (kq_eq (b := 1) hc171 (Nat.lt_of_le_of_lt (Nat.div_le_self _ _) (by omega)))
              refine kw_iload X dc_R_nimOf_180 rfl ?_
              exact kw_iret X hr hlk dc_R_nimOf_182 ⟨rfl, by rw [gm_nm_eq]; unfold gm_NF; rw [rn_t h147 h0 pc1 h161, ← eTJ, h171, iZ_nat]⟩
            · have h171 : j ≠ TJ := fun z => hc171 (congrArg nI ((kq_pw hj).mpr z))
              refine kw_iinc (v := nI (j + 1)) X dc_R_nimOf_174 rfl (kq_inc j) (by decide) ?_
              refine kw_goto (tgt := 166) X dc_R_nimOf_177 (by decide) ?_
              exact ih2 (j + 1) (by omega) (by omega)
          · have hret := rn_d h0 (Or.inr (kq_ne (b := 0) hc161 (Nat.lt_of_le_of_lt Nat.and_le_left (by omega))))
            refine kw_iconst (v := (-1)) X dc_R_nimOf_164 (by decide) ?_
            exact kw_iret X hr hlk dc_R_nimOf_165 ⟨rfl, by rw [gm_nm_eq]; unfold gm_NF; rw [hret]; exact iZ_m1.symm⟩
    · have h123 := bI_0 hc123
      obtain ⟨z1, z2⟩ := (gm_tks_eq (lo := lo) (hi := hi) (n := n) (f := gm_nm lo hi n) (p := p) n).mp h123
      refine kw_loop (α := Nat) (fun j => j ≤ 12 ∧ ∀ i, i < j → (gm_st lo hi n (gm_nm lo hi n) p n).1.testBit i = true) (fun j => 12 - j) (fun _ => wRF kI rd th n one two own bg lf tu tk cu co tO t0 t1 sv mg nm gc go tx len) (fun j => [some (.ref (rd 0)), some (.int (nI p)), some (.int (nI (gm_st lo hi n (gm_nm lo hi n) p n).1)), some (.int (nI (gm_st lo hi n (gm_nm lo hi n) p n).2.1)), some (.int (bI (gm_st lo hi n (gm_nm lo hi n) p n).2.2)), some (.int (bI (gm_tks lo hi n p n))), some (.int (nI j)), none, none]) (fun _ => []) 0 ⟨Nat.zero_le _, fun i hi => absurd hi (Nat.not_lt_zero _)⟩ (fun j hj ih2 => ?_)
      obtain ⟨hj12, hj⟩ := hj
      refine kw_iload_n X dc_R_nimOf_126 rfl rfl ?_
      refine kw_iload X dc_R_nimOf_127 rfl ?_
      refine kw_ishr X dc_R_nimOf_129 rfl ?_
      refine kw_iconst (v := (nI 1)) X dc_R_nimOf_130 (by decide) ?_
      refine kw_iand X dc_R_nimOf_131 rfl ?_
      refine kw_iconst (v := (nI 1)) X dc_R_nimOf_132 (by decide) ?_
      refine kw_icmp_ne (tgt := 142) X dc_R_nimOf_133 (by decide) (fun hc133 => ?_) (fun hc133 => ?_)
      · have h133 : (gm_st lo hi n (gm_nm lo hi n) p n).1.testBit j = false := by
          have h9 : ¬ (gm_st lo hi n (gm_nm lo hi n) p n).1.testBit j = true := fun z => hc133 ((kq_has (by omega) (by omega)).mpr z)
          simpa using h9
        refine kw_iload X dc_R_nimOf_142 rfl ?_
        exact kw_iret X hr hlk dc_R_nimOf_144 ⟨rfl, by rw [gm_nm_eq]; unfold gm_NF; rw [rn_q z2 z1, gm_least_eq hj12 (fun _ => by rw [h133]; rfl) (fun i hi => by rw [hj i hi]; rfl), iZ_nat]⟩
      · have h133 : (gm_st lo hi n (gm_nm lo hi n) p n).1.testBit j = true := (kq_has (by omega) (by omega)).mp hc133
        have hj11 : j < 12 := by
          rcases Nat.lt_or_ge j 12 with q | q
          · exact q
          · rw [bq_of_lt (n := 12) q1 q] at h133; cases h133
        refine kw_iinc (v := nI (j + 1)) X dc_R_nimOf_136 rfl (kq_inc j) (by decide) ?_
        refine kw_goto (tgt := 126) X dc_R_nimOf_139 (by decide) ?_
        exact ih2 (j + 1) ⟨by omega, fun i hi => by rcases Nat.lt_or_ge i j with q | q; (exact hj i q); (have e : i = j := (by omega); rw [e]; exact h133)⟩ (by omega)
  · have hkn := kq_nle hc19
    obtain ⟨q1, q2⟩ := gm_st_12 (lo := lo) (hi := hi) hn hp hk
    refine kw_iload_n X dc_R_nimOf_22 rfl rfl ?_
    refine kw_iload X dc_R_nimOf_23 rfl ?_
    refine kw_ishr X dc_R_nimOf_25 rfl ?_
    refine kw_iconst (v := (nI 1)) X dc_R_nimOf_26 (by decide) ?_
    refine kw_iand X dc_R_nimOf_27 rfl ?_
    refine kw_iconst (v := (nI 1)) X dc_R_nimOf_28 (by decide) ?_
    refine kw_icmp_ne (tgt := 112) X dc_R_nimOf_29 (by decide) (fun hc29 => ?_) (fun hc29 => ?_)
    · have h29 : ¬ p.testBit k = true := fun z => hc29 ((kq_has (by omega) (by omega)).mpr z)
      have hm := gm_stA (lo := lo) (hi := hi) (n := n) (f := gm_nm lo hi n) h29
      have hs := gm_tksN (lo := lo) (hi := hi) (n := n) h29
      refine kw_iinc (v := nI (k + 1)) X dc_R_nimOf_112 rfl (kq_inc k) (by decide) ?_
      refine kw_goto (tgt := 13) X dc_R_nimOf_115 (by decide) ?_
      refine kw_kill 7 ?_
      refine kw_kill 8 ?_
      refine kw_cv (lv' := [some (.ref (rd 0)), some (.int (nI p)), some (.int (nI (gm_st lo hi n (gm_nm lo hi n) p (k + 1)).1)), some (.int (nI (gm_st lo hi n (gm_nm lo hi n) p (k + 1)).2.1)), some (.int (bI (gm_st lo hi n (gm_nm lo hi n) p (k + 1)).2.2)), some (.int (bI (gm_tks lo hi n p (k + 1)))), some (.int (nI (k + 1))), none, none]) rfl (by rw [hm, hs]; rfl) rfl ?_
      exact ih (k + 1) (by omega) (by omega)
    · have h29 := (kq_has (by omega) (by omega)).mp hc29
      have hlt := bq_wo_lt h29
      have b11 := gm_nm_11 (lo := lo) (hi := hi) hn hp hkn h29
      have vbl := gm_vb_lt b11.2
      have ht2 := gm_tk_2 lo hi n p k
      refine kw_iload_n X dc_R_nimOf_32 rfl rfl ?_
      refine kw_iconst (v := (nI 1)) X dc_R_nimOf_33 (by decide) ?_
      refine kw_iload X dc_R_nimOf_34 rfl ?_
      refine kw_ishl X dc_R_nimOf_36 rfl ?_
      refine kw_iconst (v := (-1)) X dc_R_nimOf_37 (by decide) ?_
      refine kw_ixor X dc_R_nimOf_38 rfl ?_
      refine kw_iand (v := nI (bq_wo p k)) X dc_R_nimOf_39 (bq_woI (by omega)) ?_
      refine kw_istore X dc_R_nimOf_40 (by decide) ?_
      refine kw_jn (α := Unit) (fun _ => True) (fun _ => wRF kI rd th n one two own bg lf tu tk cu co tO t0 t1 sv mg nm gc go tx len) (fun _ => [some (.ref (rd 0)), some (.int (nI p)), some (.int (nI (gm_st lo hi n (gm_nm lo hi n) p k).1)), some (.int (nI (gm_st lo hi n (gm_nm lo hi n) p k).2.1)), some (.int (bI (gm_st lo hi n (gm_nm lo hi n) p k).2.2)), some (.int (bI (gm_tks lo hi n p k))), some (.int (nI k)), some (.int (nI (bq_wo p k))), none]) (fun _ => [.int (nI (gm_vb (gm_nm lo hi n (bq_wo p k))))]) 66 (fun _ _ => ?_) (fun jn1 => ?_)
      · refine kw_istore X dc_R_nimOf_66 (by decide) ?_
        refine kw_aload_n X dc_R_nimOf_68 rfl rfl ?_
        refine kw_iload X dc_R_nimOf_69 rfl ?_
        refine kw_iload X dc_R_nimOf_71 rfl ?_
        refine kw_callVI X kEw hE 0 rfl rfl (ct_takes rd th n one two own bg lf tu tk cu co tO t0 t1 sv mg nm gc go tx len lo hi ok p k hp hkn h29) (cw_V 2 X wd_708 wd_710 wp_15 wd_8 wd_711 rfl rfl (by decide +kernel) ⟨Nat.le_of_ble_eq_true rfl, Nat.le_of_ble_eq_true rfl⟩) [0, 1, 2, 3, 4, 5, 6, 7, 8, 9, 10, 11, 12] rfl (by decide) (fun _ _ h => by obtain ⟨rfl, _⟩ := h; exact Nat.le_refl _) rfl rfl (Nat.le_of_ble_eq_true rfl) dc_R_nimOf_73 ⟨Nat.zero_le _, Nat.zero_le _⟩ (fun r w hp => ?_)
        obtain ⟨rfl, rfl⟩ := hp
        refine kw_cv (ws' := wRF kI rd th n one two own bg lf tu tk cu co tO t0 t1 sv mg nm gc go tx len) rfl rfl rfl ?_
        refine kw_if_ne (tgt := 87) X dc_R_nimOf_76 (by decide) (fun hc76 => ?_) (fun hc76 => ?_)
        · have h76 : 0 < gm_tk lo hi n p k := by have := kq_ne (b := 0) hc76; omega
          have hm := gm_stT (f := gm_nm lo hi n) h29 h76
          have hs := gm_tksT h29 h76
          refine kw_iconst (v := (nI 1)) X dc_R_nimOf_87 (by decide) ?_
          refine kw_istore X dc_R_nimOf_88 (by decide) ?_
          refine kw_jn (α := Unit) (fun _ => True) (fun _ => wRF kI rd th n one two own bg lf tu tk cu co tO t0 t1 sv mg nm gc go tx len) (fun _ => [some (.ref (rd 0)), some (.int (nI p)), some (.int (nI (gm_st lo hi n (gm_nm lo hi n) p k).1)), some (.int (nI (gm_st lo hi n (gm_nm lo hi n) p k).2.1)), some (.int (bI (gm_st lo hi n (gm_nm lo hi n) p k).2.2)), some (.int (nI 1)), some (.int (nI k)), some (.int (nI (bq_wo p k))), some (.int (nI (gm_vb (gm_nm lo hi n (bq_wo p k)))))]) (fun _ => [.int (bI ((gm_st lo hi n (gm_nm lo hi n) p k).2.2 || decide (gm_nm lo hi n (bq_wo p k) = -1)))]) 105 (fun _ _ => ?_) (fun jn2 => ?_)
          · refine kw_istore X dc_R_nimOf_105 (by decide) ?_
            refine kw_iload_n X dc_R_nimOf_107 rfl rfl ?_
            refine kw_iload X dc_R_nimOf_108 rfl ?_
            refine kw_ior (v := nI ((gm_st lo hi n (gm_nm lo hi n) p k).2.1 ||| gm_vb (gm_nm lo hi n (bq_wo p k)))) X dc_R_nimOf_110 (bq_or _ _) ?_
            refine kw_istore_n X dc_R_nimOf_111 rfl (by decide) ?_
            refine kw_iinc (v := nI (k + 1)) X dc_R_nimOf_112 rfl (kq_inc k) (by decide) ?_
            refine kw_goto (tgt := 13) X dc_R_nimOf_115 (by decide) ?_
            refine kw_kill 7 ?_
            refine kw_kill 8 ?_
            refine kw_cv (lv' := [some (.ref (rd 0)), some (.int (nI p)), some (.int (nI (gm_st lo hi n (gm_nm lo hi n) p (k + 1)).1)), some (.int (nI (gm_st lo hi n (gm_nm lo hi n) p (k + 1)).2.1)), some (.int (bI (gm_st lo hi n (gm_nm lo hi n) p (k + 1)).2.2)), some (.int (bI (gm_tks lo hi n p (k + 1)))), some (.int (nI (k + 1))), none, none]) rfl (by rw [hm, hs]; rfl) rfl ?_
            exact ih (k + 1) (by omega) (by omega)
          · refine kw_iload X dc_R_nimOf_90 rfl ?_
            refine kw_if_ne (tgt := 100) X dc_R_nimOf_92 (by decide) (fun hc92 => ?_) (fun hc92 => ?_)
            · have h92 := bI_1 hc92
              refine kw_iconst (v := (nI 1)) X dc_R_nimOf_100 (by decide) ?_
              refine kw_goto (tgt := 105) X dc_R_nimOf_101 (by decide) ?_
              first
                | (refine kw_top (y := bI ((gm_st lo hi n (gm_nm lo hi n) p k).2.2 || decide (gm_nm lo hi n (bq_wo p k) = -1))) (bI_or1 h92) ?_; exact jn2 () trivial)
                | (refine kw_top (y := bI ((gm_st lo hi n (gm_nm lo hi n) p k).2.2 || decide (gm_nm lo hi n (bq_wo p k) = -1))) (bI_or2 h97) ?_; exact jn2 () trivial)
                | (refine kw_top (y := bI ((gm_st lo hi n (gm_nm lo hi n) p k).2.2 || decide (gm_nm lo hi n (bq_wo p k) = -1))) (bI_or0 h92n h97n) ?_; exact jn2 () trivial)
            · have h92n := bI_0 hc92
              refine kw_iload X dc_R_nimOf_95 rfl ?_
              refine kw_if_ne (tgt := 104) X dc_R_nimOf_97 (by decide) (fun hc97 => ?_) (fun hc97 => ?_)
              · have h97n : decide (gm_nm lo hi n (bq_wo p k) = -1) = false := decide_eq_false (fun z => hc97 (by rw [gm_vb_0.mpr z]; rfl))
                refine kw_iconst (v := (nI 0)) X dc_R_nimOf_104 (by decide) ?_
                first
                  | (refine kw_top (y := bI ((gm_st lo hi n (gm_nm lo hi n) p k).2.2 || decide (gm_nm lo hi n (bq_wo p k) = -1))) (bI_or1 h92) ?_; exact jn2 () trivial)
                  | (refine kw_top (y := bI ((gm_st lo hi n (gm_nm lo hi n) p k).2.2 || decide (gm_nm lo hi n (bq_wo p k) = -1))) (bI_or2 h97) ?_; exact jn2 () trivial)
                  | (refine kw_top (y := bI ((gm_st lo hi n (gm_nm lo hi n) p k).2.2 || decide (gm_nm lo hi n (bq_wo p k) = -1))) (bI_or0 h92n h97n) ?_; exact jn2 () trivial)
              · have h97 : decide (gm_nm lo hi n (bq_wo p k) = -1) = true := decide_eq_true (gm_vb_0.mp (kq_eq (b := 0) hc97))
                refine kw_iconst (v := (nI 1)) X dc_R_nimOf_100 (by decide) ?_
                refine kw_goto (tgt := 105) X dc_R_nimOf_101 (by decide) ?_
                first
                  | (refine kw_top (y := bI ((gm_st lo hi n (gm_nm lo hi n) p k).2.2 || decide (gm_nm lo hi n (bq_wo p k) = -1))) (bI_or1 h92) ?_; exact jn2 () trivial)
                  | (refine kw_top (y := bI ((gm_st lo hi n (gm_nm lo hi n) p k).2.2 || decide (gm_nm lo hi n (bq_wo p k) = -1))) (bI_or2 h97) ?_; exact jn2 () trivial)
                  | (refine kw_top (y := bI ((gm_st lo hi n (gm_nm lo hi n) p k).2.2 || decide (gm_nm lo hi n (bq_wo p k) = -1))) (bI_or0 h92n h97n) ?_; exact jn2 () trivial)
        · have h76 : gm_tk lo hi n p k = 0 := kq_eq (b := 0) hc76
          have hm := gm_stQ (f := gm_nm lo hi n) h29 h76
          have hs := gm_tksQ h76
          refine kw_iload_n X dc_R_nimOf_79 rfl rfl ?_
          refine kw_iload X dc_R_nimOf_80 rfl ?_
          refine kw_ior (v := nI ((gm_st lo hi n (gm_nm lo hi n) p k).1 ||| gm_vb (gm_nm lo hi n (bq_wo p k)))) X dc_R_nimOf_82 (bq_or _ _) ?_
          refine kw_istore_n X dc_R_nimOf_83 rfl (by decide) ?_
          refine kw_goto (tgt := 112) X dc_R_nimOf_84 (by decide) ?_
          refine kw_iinc (v := nI (k + 1)) X dc_R_nimOf_112 rfl (kq_inc k) (by decide) ?_
          refine kw_goto (tgt := 13) X dc_R_nimOf_115 (by decide) ?_
          refine kw_kill 7 ?_
          refine kw_kill 8 ?_
          refine kw_cv (lv' := [some (.ref (rd 0)), some (.int (nI p)), some (.int (nI (gm_st lo hi n (gm_nm lo hi n) p (k + 1)).1)), some (.int (nI (gm_st lo hi n (gm_nm lo hi n) p (k + 1)).2.1)), some (.int (bI (gm_st lo hi n (gm_nm lo hi n) p (k + 1)).2.2)), some (.int (bI (gm_tks lo hi n p (k + 1)))), some (.int (nI (k + 1))), none, none]) rfl (by rw [hm, hs]; rfl) rfl ?_
          exact ih (k + 1) (by omega) (by omega)
      · refine kw_aload_n X dc_R_nimOf_42 rfl rfl ?_
        refine kw_get X (wc_R _) 0 rfl rfl 16 (by decide) (gq wd_613) (fun _ h => h) rfl dc_R_nimOf_43 ?_
        refine kw_iload X dc_R_nimOf_46 rfl ?_
        refine kw_iald (v := iZ (gm_nm lo hi n (bq_wo p k))) X 10 0 rfl rfl (kq_in (by omega) (by omega)) (by rw [kq_cl (by omega)]; exact hf _ hlt) dc_R_nimOf_48 ?_
        refine kw_iconst (v := (-1)) X dc_R_nimOf_49 (by decide) ?_
        refine kw_icmp_ne (tgt := 57) X dc_R_nimOf_50 (by decide) (fun hc50 => ?_) (fun hc50 => ?_)
        · have h50n : ¬ gm_nm lo hi n (bq_wo p k) = -1 := fun z => hc50 (by rw [z]; exact iZ_m1)
          refine kw_iconst (v := (nI 1)) X dc_R_nimOf_57 (by decide) ?_
          refine kw_aload_n X dc_R_nimOf_58 rfl rfl ?_
          refine kw_get X (wc_R _) 0 rfl rfl 16 (by decide) (gq wd_613) (fun _ h => h) rfl dc_R_nimOf_59 ?_
          refine kw_iload X dc_R_nimOf_62 rfl ?_
          refine kw_iald (v := nI (gm_nm lo hi n (bq_wo p k)).toNat) X 10 0 rfl rfl (kq_in (by omega) (by omega)) (by rw [kq_cl (by omega), hf _ hlt]; exact iZ_pos (by omega)) dc_R_nimOf_64 ?_
          refine kw_ishl (v := nI (gm_vb (gm_nm lo hi n (bq_wo p k)))) X dc_R_nimOf_65 ((bq_shl (by omega)).trans (congrArg nI (if_neg h50n).symm)) ?_
          first
            | (refine kw_top (y := nI (gm_vb (gm_nm lo hi n (bq_wo p k)))) (show nI 0 = _ from congrArg nI (gm_vb_0.mpr h50).symm) ?_; exact jn1 () trivial)
            | exact jn1 () trivial
        · have h50 : gm_nm lo hi n (bq_wo p k) = -1 := (iZ_inj (b := -1) (by omega) (by omega) (by omega) (by omega)).mp hc50
          refine kw_iconst (v := (nI 0)) X dc_R_nimOf_53 (by decide) ?_
          refine kw_goto (tgt := 66) X dc_R_nimOf_54 (by decide) ?_
          first
            | (refine kw_top (y := nI (gm_vb (gm_nm lo hi n (bq_wo p k)))) (show nI 0 = _ from congrArg nI (gm_vb_0.mpr h50).symm) ?_; exact jn1 () trivial)
            | exact jn1 () trivial
