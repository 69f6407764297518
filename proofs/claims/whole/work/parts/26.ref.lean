theorem gr_start {L : Nat → Nat} {a : Nat} : gr_v L 0 (fun _ => false) a = -1 := by
  unfold gr_v
  rw [if_neg (Nat.not_lt_zero _)]
  rfl
/-- the number of a coin's group; -1: none -/
def gr_of (L : Nat → Nat) (a : Nat) : Int32 := if L a < 8 then nI (gm_rk L (L a)) else -1
theorem gr_of_8 {L : Nat → Nat} {a : Nat} : gr_v L 8 (fun _ => false) a = gr_of L a := rfl
theorem gr_of_eq {L : Nat → Nat} {a v g : Nat} (hL : L a < 8 → L (L a) = L a) (hv : v < 8) (hvv : L v = v) (hg : gm_rk L v = g) : gr_of L a = nI g ↔ L a = v := by
  have r1 := gm_rk_8 L v
  unfold gr_of
  by_cases h : L a < 8
  · rw [if_pos h]
    have r2 := gm_rk_8 L (L a)
    constructor
    · intro z
      exact gm_rk_inj (hL h) hvv ((kq_eq z).trans hg.symm)
    · intro z
      rw [z, hg]
  · rw [if_neg h]
    constructor
    · intro z
      have h3 := nI_nn (k := g) (by omega)
      rw [← z] at h3
      exact absurd h3 (by decide)
    · intro z
      omega
theorem gm_lp_T {lo hi : Nat → Nat} {p : Nat} {L : Nat → Nat} {v k : Nat} (h : gm_lp lo hi p L v k = true) (h2 : p.testBit k = false ∨ (decide (L (lo k) = v) == decide (L (hi k) = v)) = true) : gm_lp lo hi p L v (k + 1) = true := by
  show (gm_lp lo hi p L v k && (!p.testBit k || (decide (L (lo k) = v) == decide (L (hi k) = v)))) = true
  rw [h]
  rcases h2 with z | z
  · rw [z]; rfl
  · rw [z]; simp
theorem gm_lp_F {lo hi : Nat → Nat} {p : Nat} {L : Nat → Nat} {v k : Nat} (h : gm_lp lo hi p L v k = false) : gm_lp lo hi p L v (k + 1) = false := by
  show (gm_lp lo hi p L v k && _) = false
  rw [h]
  rfl
theorem gm_lp_G {lo hi : Nat → Nat} {p : Nat} {L : Nat → Nat} {v k : Nat} (h1 : p.testBit k = true) (h2 : (decide (L (lo k) = v) == decide (L (hi k) = v)) = false) : gm_lp lo hi p L v (k + 1) = false := by
  show (gm_lp lo hi p L v k && (!p.testBit k || (decide (L (lo k) = v) == decide (L (hi k) = v)))) = false
  rw [h1, h2]
  simp
theorem bI_iff {q r : Prop} {i : Decidable q} {j : Decidable r} (h : q ↔ r) : (@ite _ q i (nI 1) (nI 0)) = bI (@decide r j) := by
  by_cases z : q
  · rw [if_pos z, decide_eq_true (h.mp z)]; rfl
  · rw [if_neg z, decide_eq_false (fun y => z (h.mpr y))]; rfl
theorem gr_sym {L : Nat → Nat} {v a b x y : Nat} (h1 : x = min a b) (h2 : y = max a b) : (decide (L x = v) == decide (L y = v)) = (decide (L a = v) == decide (L b = v)) := by
  rcases Nat.le_total a b with q | q
  · rw [h1, h2, Nat.min_eq_left q, Nat.max_eq_right q]
  · rw [h1, h2, Nat.min_eq_right q, Nat.max_eq_left q]
    cases decide (L a = v) <;> cases decide (L b = v) <;> rfl
set_option maxRecDepth 100000 in
set_option maxHeartbeats 4000000 in
theorem ct_part {l : Launch} {D : va_G} {kI kB kC kL : ClassId} (rd : Nat → Nat) (th n : Nat) (one two own : Nat → Int32) (bg : Bool) (lf tu : Nat) (tk : Nat → Int32) (cu : Nat) (co tO t0 t1 : Nat → Int32) (sv : Bool) (mg nm : Nat → Int32) (gc : Nat) (go tx : Nat → Int32) (len : Nat) (lo hi : Nat → Nat) (ok : rfOk lo hi n one two own) (hp : lf < 2 ^ n) : kw_V l mn_R_part (gw mn_R_part cd_R_part 2 none) ({ frames := 2, cells := 0, slots := 0, locals := 47 } : Room) D cl_v (kt kI kB kC kL) kE [.ref (rd 0)] (wRF kI rd th n one two own bg lf tu tk cu co tO t0 t1 sv mg nm gc go tx len) (fun w => ∃ go2 : Nat → Int32, w = wRF kI rd th n one two own bg lf tu tk cu co tO t0 t1 sv mg nm (gm_rk (gm_L lo hi n lf n) 8) go2 tx len ∧ ∀ a, a < 8 → go2 a = gr_of (gm_L lo hi n lf n) a) 0 0 := by
  refine kw_ofV (cc := cd_R_part) (maxL := 2) (by decide) rfl (Nat.le_of_ble_eq_true rfl) rfl ?_
  intro pp ee s m args below meth c A X hr hlk hE hnm
  have hn := ok.1.1
  refine kw_aload_n X dc_R_part_0 rfl rfl ?_
  refine kw_iconst (v := (nI 0)) X dc_R_part_1 (by decide) ?_
  refine kw_putf (ty := .int) X (wc_R _) fy_R fk_R fn_R 0 rfl rfl 17 (by decide) (gq wd_614) (fun _ h => h) rfl (by decide +kernel) rfl rfl (Nat.le_of_ble_eq_true rfl) dc_R_part_2 ?_
  refine kw_iconst (v := (nI 0)) X dc_R_part_5 (by decide) ?_
  refine kw_istore_n X dc_R_part_6 rfl (by decide) ?_
  refine kw_loop (α := Nat) (fun k => k ≤ 8) (fun k => 8 - k) (fun k => wRF kI rd th n one two own bg lf tu tk cu co tO t0 t1 sv mg nm 0 (kq_pre (fun _ => (-1 : Int32)) go k) tx len) (fun k => [some (.ref (rd 0)), some (.int (nI k))]) (fun _ => []) 0 (Nat.zero_le _) (fun k hk ih => ?_)
  refine kw_iload_n X dc_R_part_7 rfl rfl ?_
  refine kw_bipush (v := (nI 8)) X dc_R_part_8 (by decide) ?_
  refine kw_icmp_ge (tgt := 26) X dc_R_part_10 (by decide) (fun hc10 => ?_) (fun hc10 => ?_)
  · have hkE : k = 8 := Nat.le_antisymm hk (kq_le hc10)
    subst hkE
    refine kw_iconst (v := (nI 0)) X dc_R_part_26 (by decide) ?_
    refine kw_istore_n X dc_R_part_27 rfl (by decide) ?_
    refine kw_loop (α := (Nat → Int32) × Nat) (fun a => a.2 ≤ 8 ∧ ∀ x, x < 8 → a.1 x = gr_v (gm_L lo hi n lf n) a.2 (fun _ => false) x) (fun a => 8 - a.2) (fun a => wRF kI rd th n one two own bg lf tu tk cu co tO t0 t1 sv mg nm (gm_rk (gm_L lo hi n lf n) a.2) a.1 tx len) (fun a => [some (.ref (rd 0)), some (.int (nI a.2))]) (fun _ => []) (kq_pre (fun _ => (-1 : Int32)) go 8, 0) ⟨Nat.zero_le _, fun x hx => show (kq_pre (fun _ => (-1 : Int32)) go 8) x = gr_v (gm_L lo hi n lf n) 0 (fun _ => false) x from (kq_pre_lt hx).trans gr_start.symm⟩ (fun a hI ih2 => ?_)
    obtain ⟨g1, c0⟩ := a
    obtain ⟨hc8, hg1⟩ := hI
    have hc8 : c0 ≤ 8 := hc8
    have hg1 : ∀ a, a < 8 → g1 a = gr_v (gm_L lo hi n lf n) c0 (fun _ => false) a := hg1
    refine kw_cv (ws' := wRF kI rd th n one two own bg lf tu tk cu co tO t0 t1 sv mg nm (gm_rk (gm_L lo hi n lf n) c0) g1 tx len) (lv' := [some (.ref (rd 0)), some (.int (nI c0))]) rfl rfl rfl ?_
    refine kw_iload_n X dc_R_part_28 rfl rfl ?_
    refine kw_bipush (v := (nI 8)) X dc_R_part_29 (by decide) ?_
    refine kw_icmp_ge (tgt := 86) X dc_R_part_31 (by decide) (fun hc31 => ?_) (fun hc31 => ?_)
    · have hcE : c0 = 8 := Nat.le_antisymm hc8 (kq_le hc31)
      subst hcE
      exact kw_vret X hr hlk dc_R_part_86 ⟨g1, rfl, fun a ha => (hg1 a ha).trans gr_of_8⟩
    · have hc0 : c0 < 8 := kq_nle hc31
      refine kw_aload_n X dc_R_part_34 rfl rfl ?_
      refine kw_get X (wc_R _) 0 rfl rfl 18 (by decide) (gq wd_615) (fun _ h => h) rfl dc_R_part_35 ?_
      refine kw_iload_n X dc_R_part_38 rfl rfl ?_
      refine kw_iald (v := gr_v (gm_L lo hi n lf n) c0 (fun _ => false) c0) X 11 0 rfl rfl (kq_in hc0 (by omega)) (by rw [kq_cl (by omega)]; exact hg1 c0 hc0) dc_R_part_39 ?_
      refine kw_if_ge (tgt := 80) X dc_R_part_40 (by decide) (fun hc40 => ?_) (fun hc40 => ?_)
      · have hne : (gm_L lo hi n lf n) c0 ≠ c0 := by
          rcases (gr_neg (M := fun _ => false) hc8).mp hc40 with q | q
          · omega
          · cases q
        refine kw_iinc (v := nI (c0 + 1)) X dc_R_part_80 rfl (kq_inc c0) (by decide) ?_
        refine kw_goto (tgt := 28) X dc_R_part_83 (by decide) ?_
        first
          | exact ih2 (go2, c0 + 1) ⟨hc0, fun x hx => (hM2.2.2 x hx).trans (gr_next (fun q hq => (hM2.1 q hq).2) hall)⟩ (by show 8 - (c0 + 1) < 8 - c0; omega)
          | (refine kw_cv (ws' := wRF kI rd th n one two own bg lf tu tk cu co tO t0 t1 sv mg nm (gm_rk (gm_L lo hi n lf n) (c0 + 1)) g1 tx len) (by rw [(gr_skip (a := 0) hne (fun q hq => gm_L_idem hq) hc0).2]) rfl rfl ?_; exact ih2 (g1, c0 + 1) ⟨hc0, fun x hx => (hg1 x hx).trans (gr_skip hne (fun q hq => gm_L_idem hq) hc0).1⟩ (by show 8 - (c0 + 1) < 8 - c0; omega))
      · have hge : ¬ (gm_L lo hi n lf n) c0 < c0 := fun z => hc40 ((gr_neg (M := fun _ => false) hc8).mpr (Or.inl z))
        refine kw_aload_n X dc_R_part_43 rfl rfl ?_
        refine kw_iload_n X dc_R_part_44 rfl rfl ?_
        refine kw_aload_n X dc_R_part_45 rfl rfl ?_
        refine kw_get X (wc_R _) 0 rfl rfl 6 (by decide) (gq wd_603) (fun _ h => h) rfl dc_R_part_46 ?_
        refine kw_callVI X kEw hE 0 rfl rfl (ct_belong rd th n one two own bg lf tu tk cu co tO t0 t1 sv mg nm (gm_rk (gm_L lo hi n lf n) c0) g1 tx len lo hi ok c0 lf hc0 hp) (cw_V 2 X wd_764 wd_766 wp_19 wd_8 wd_767 rfl rfl (by decide +kernel) ⟨Nat.le_of_ble_eq_true rfl, Nat.le_of_ble_eq_true rfl⟩) [0, 1, 2, 3, 4, 5, 6, 7, 8, 9, 10, 11, 12] rfl (by decide) (fun _ _ h => by obtain ⟨rfl, _⟩ := h; exact Nat.le_refl _) rfl rfl (Nat.le_of_ble_eq_true rfl) dc_R_part_49 ⟨Nat.zero_le _, Nat.zero_le _⟩ (fun r w hp => ?_)
        obtain ⟨rfl, rfl⟩ := hp
        refine kw_cv (ws' := wRF kI rd th n one two own bg lf tu tk cu co tO t0 t1 sv mg nm (gm_rk (gm_L lo hi n lf n) c0) g1 tx len) rfl rfl rfl ?_
        refine kw_iconst (v := (nI 2)) X dc_R_part_52 (by decide) ?_
        refine kw_icmp_ne (tgt := 80) X dc_R_part_53 (by decide) (fun hc53 => ?_) (fun hc53 => ?_)
        · have hne : (gm_L lo hi n lf n) c0 ≠ c0 := fun z => hc53 ((gm_two_i hc0).mpr (gm_L_two (by omega)))
          refine kw_iinc (v := nI (c0 + 1)) X dc_R_part_80 rfl (kq_inc c0) (by decide) ?_
          refine kw_goto (tgt := 28) X dc_R_part_83 (by decide) ?_
          first
            | exact ih2 (go2, c0 + 1) ⟨hc0, fun x hx => (hM2.2.2 x hx).trans (gr_next (fun q hq => (hM2.1 q hq).2) hall)⟩ (by show 8 - (c0 + 1) < 8 - c0; omega)
            | (refine kw_cv (ws' := wRF kI rd th n one two own bg lf tu tk cu co tO t0 t1 sv mg nm (gm_rk (gm_L lo hi n lf n) (c0 + 1)) g1 tx len) (by rw [(gr_skip (a := 0) hne (fun q hq => gm_L_idem hq) hc0).2]) rfl rfl ?_; exact ih2 (g1, c0 + 1) ⟨hc0, fun x hx => (hg1 x hx).trans (gr_skip hne (fun q hq => gm_L_idem hq) hc0).1⟩ (by show 8 - (c0 + 1) < 8 - c0; omega))
        · have htw := (gm_two_i hc0).mp hc53
          have hLc : (gm_L lo hi n lf n) c0 = c0 := by have := gm_L_le htw; omega
          have hldr : gm_rk (gm_L lo hi n lf n) c0 + 1 = gm_rk (gm_L lo hi n lf n) (c0 + 1) := by
            show _ = gm_rk (gm_L lo hi n lf n) c0 + gm_ldr (gm_L lo hi n lf n) c0
            rw [show gm_ldr (gm_L lo hi n lf n) c0 = 1 from if_pos hLc]
          have hMs : gr_M lo hi n lf c0 (upd g1 c0 (nI (gm_rk (gm_L lo hi n lf n) c0))) (fun x => decide (x = c0)) := by
            refine ⟨fun x hx => ?_, ?_, fun x hx => ?_⟩
            · have e : x = c0 := of_decide_eq_true hx
              rw [e]; exact ⟨hc0, hLc⟩
            · exact decide_eq_true rfl
            · unfold gr_v
              by_cases e : x = c0
              · subst e
                rw [pk_us, if_neg (by omega), if_pos (decide_eq_true rfl)]
              · rw [pk_un e, hg1 x hx, if_neg (show ¬ decide (x = c0) = true by simp [e])]
                rfl
          refine kw_aload_n X dc_R_part_56 rfl rfl ?_
          refine kw_get X (wc_R _) 0 rfl rfl 18 (by decide) (gq wd_615) (fun _ h => h) rfl dc_R_part_57 ?_
          refine kw_iload_n X dc_R_part_60 rfl rfl ?_
          refine kw_aload_n X dc_R_part_61 rfl rfl ?_
          refine kw_get X (wc_R _) 0 rfl rfl 17 (by decide) (gq wd_614) (fun _ h => h) rfl dc_R_part_62 ?_
          refine kw_iast X 11 0 rfl rfl (kq_in hc0 (by omega)) dc_R_part_65 ?_
          refine kw_cv (ws' := wRF kI rd th n one two own bg lf tu tk cu co tO t0 t1 sv mg nm (gm_rk (gm_L lo hi n lf n) c0) (upd g1 c0 (nI (gm_rk (gm_L lo hi n lf n) c0))) tx len) (by
            show wRF kI rd th n one two own bg lf tu tk cu co tO t0 t1 sv mg nm (gm_rk (gm_L lo hi n lf n) c0) (upd g1 (nI c0).toNatClampNeg (nI (gm_rk (gm_L lo hi n lf n) c0))) tx len = _
            rw [kq_cl (show c0 < 4096 by omega)]) rfl rfl ?_
          refine kw_aload_n X dc_R_part_66 rfl rfl ?_
          refine kw_callVV X kEw hE 0 rfl rfl (ct_spread rd th n one two own bg lf tu tk cu co tO t0 t1 sv mg nm (upd g1 c0 (nI (gm_rk (gm_L lo hi n lf n) c0))) tx len lo hi ok hp c0 hc0 (fun x => decide (x = c0)) hMs) (cw_V 0 X wd_776 wd_778 wp_21 wd_8 wd_779 rfl rfl (by decide +kernel) ⟨Nat.le_of_ble_eq_true rfl, Nat.le_of_ble_eq_true rfl⟩) [0, 1, 2, 3, 4, 5, 6, 7, 8, 9, 10, 11, 12] rfl (by decide) (fun _ h => by obtain ⟨g, g2, rfl, _⟩ := h; exact Nat.le_refl _) rfl rfl (Nat.le_of_ble_eq_true rfl) dc_R_part_67 ⟨Nat.zero_le _, Nat.zero_le _⟩ (fun w hp => ?_)
          obtain ⟨go2, M2, rfl, hM2, hall⟩ := hp
          refine kw_cv (ws' := wRF kI rd th n one two own bg lf tu tk cu co tO t0 t1 sv mg nm (gm_rk (gm_L lo hi n lf n) c0) go2 tx len) rfl rfl rfl ?_
          refine kw_aload_n X dc_R_part_70 rfl rfl ?_
          refine kw_dup X dc_R_part_71 rfl ?_
          refine kw_get X (wc_R _) 0 rfl rfl 17 (by decide) (gq wd_614) (fun _ h => h) rfl dc_R_part_72 ?_
          refine kw_iconst (v := (nI 1)) X dc_R_part_75 (by decide) ?_
          refine kw_iadd (v := nI (gm_rk (gm_L lo hi n lf n) (c0 + 1))) X dc_R_part_76 ((nI_1 _).trans (congrArg nI hldr)) ?_
          refine kw_putf (ty := .int) X (wc_R _) fy_R fk_R fn_R 0 rfl rfl 17 (by decide) (gq wd_614) (fun _ h => h) rfl (by decide +kernel) rfl rfl (Nat.le_of_ble_eq_true rfl) dc_R_part_77 ?_
          refine kw_iinc (v := nI (c0 + 1)) X dc_R_part_80 rfl (kq_inc c0) (by decide) ?_
          refine kw_goto (tgt := 28) X dc_R_part_83 (by decide) ?_
          first
            | exact ih2 (go2, c0 + 1) ⟨hc0, fun x hx => (hM2.2.2 x hx).trans (gr_next (fun q hq => (hM2.1 q hq).2) hall)⟩ (by show 8 - (c0 + 1) < 8 - c0; omega)
            | (refine kw_cv (ws' := wRF kI rd th n one two own bg lf tu tk cu co tO t0 t1 sv mg nm (gm_rk (gm_L lo hi n lf n) (c0 + 1)) g1 tx len) (by rw [(gr_skip (a := 0) hne (fun q hq => gm_L_idem hq) hc0).2]) rfl rfl ?_; exact ih2 (g1, c0 + 1) ⟨hc0, fun x hx => (hg1 x hx).trans (gr_skip hne (fun q hq => gm_L_idem hq) hc0).1⟩ (by show 8 - (c0 + 1) < 8 - c0; omega))
  · have hk8 : k < 8 := kq_nle hc10
    refine kw_aload_n X dc_R_part_13 rfl rfl ?_
    refine kw_get X (wc_R _) 0 rfl rfl 18 (by decide) (gq wd_615) (fun _ h => h) rfl dc_R_part_14 ?_
    refine kw_iload_n X dc_R_part_17 rfl rfl ?_
    refine kw_iconst (v := (-1)) X dc_R_part_18 (by decide) ?_
    refine kw_iast X 11 0 rfl rfl (kq_in hk8 (by omega)) dc_R_part_19 ?_
    refine kw_iinc (v := nI (k + 1)) X dc_R_part_20 rfl (kq_inc k) (by decide) ?_
    refine kw_goto (tgt := 7) X dc_R_part_23 (by decide) ?_
    refine kw_cv (ws' := wRF kI rd th n one two own bg lf tu tk cu co tO t0 t1 sv mg nm 0 (kq_pre (fun _ => (-1 : Int32)) go (k + 1)) tx len) (by
      show wRF kI rd th n one two own bg lf tu tk cu co tO t0 t1 sv mg nm 0 (upd (kq_pre (fun _ => (-1 : Int32)) go k) (nI k).toNatClampNeg (-1)) tx len = _
      rw [kq_cl (by omega), kq_pre_upd rfl]) rfl rfl ?_
    exact ih (k + 1) (by omega) (by omega)
set_option maxRecDepth 100000 in
set_option maxHeartbeats 4000000 in
theorem ct_Rgroups {l : Launch} {D : va_G} {kI kB kC kL : ClassId} (rd : Nat → Nat) (th n : Nat) (one two own : Nat → Int32) (bg : Bool) (lf tu : Nat) (tk : Nat → Int32) (cu : Nat) (co tO t0 t1 : Nat → Int32) (sv : Bool) (mg nm : Nat → Int32) (gc : Nat) (go tx : Nat → Int32) (len : Nat) (lo hi : Nat → Nat) (ok : rfOk lo hi n one two own) (hp : lf < 2 ^ n) : kw_I l mn_R_groups (gw mn_R_groups cd_R_groups 1 (some .int)) ({ frames := 3, cells := 0, slots := 0, locals := 68 } : Room) D cl_v (kt kI kB kC kL) kE [.ref (rd 0)] (wRF kI rd th n one two own bg lf tu tk cu co tO t0 t1 sv mg nm gc go tx len) (fun r w => r = nI (gm_rk (gm_L lo hi n lf n) 8) ∧ ∃ go2 : Nat → Int32, w = wRF kI rd 0 n one two own bg lf tu tk cu co tO t0 t1 sv mg nm (gm_rk (gm_L lo hi n lf n) 8) go2 tx len) 0 0 := by
  refine kw_ofI (cc := cd_R_groups) (maxL := 1) (ty := .int) (by decide) rfl (Nat.le_of_ble_eq_true rfl) rfl ?_
  intro pp ee s m args below meth c A X hr hlk hE hnm
  refine kw_aload_n X dc_R_groups_0 rfl rfl ?_
  refine kw_iconst (v := (nI 0)) X dc_R_groups_1 (by decide) ?_
  refine kw_putf (ty := .int) X (wc_R _) fy_R fk_R fn_R 0 rfl rfl 0 (by decide) (gq wd_597) (fun _ h => h) rfl (by decide +kernel) rfl rfl (Nat.le_of_ble_eq_true rfl) dc_R_groups_2 ?_
  refine kw_aload_n X dc_R_groups_5 rfl rfl ?_
  refine kw_callVV X kEw hE 0 rfl rfl (ct_part rd 0 n one two own bg lf tu tk cu co tO t0 t1 sv mg nm gc go tx len lo hi ok hp) (cw_V 0 X wd_772 wd_774 wp_20 wd_8 wd_775 rfl rfl (by decide +kernel) ⟨Nat.le_of_ble_eq_true rfl, Nat.le_of_ble_eq_true rfl⟩) [0, 1, 2, 3, 4, 5, 6, 7, 8, 9, 10, 11, 12] rfl (by decide) (fun _ h => by obtain ⟨g, rfl, _⟩ := h; exact Nat.le_refl _) rfl rfl (Nat.le_of_ble_eq_true rfl) dc_R_groups_6 ⟨Nat.zero_le _, Nat.zero_le _⟩ (fun w hp => ?_)
  obtain ⟨go2, rfl, hgo⟩ := hp
  refine kw_cv (ws' := wRF kI rd 0 n one two own bg lf tu tk cu co tO t0 t1 sv mg nm (gm_rk (gm_L lo hi n lf n) 8) go2 tx len) rfl rfl rfl ?_
  refine kw_aload_n X dc_R_groups_9 rfl rfl ?_
  refine kw_get X (wc_R _) 0 rfl rfl 17 (by decide) (gq wd_614) (fun _ h => h) rfl dc_R_groups_10 ?_
  exact kw_iret X hr hlk dc_R_groups_13 ⟨rfl, go2, rfl⟩
set_option maxRecDepth 100000 in
set_option maxHeartbeats 4000000 in
theorem ct_RgroupF {l : Launch} {D : va_G} {kI kB kC kL : ClassId} (rd : Nat → Nat) (th n : Nat) (one two own : Nat → Int32) (bg : Bool) (lf tu : Nat) (tk : Nat → Int32) (cu : Nat) (co tO t0 t1 : Nat → Int32) (sv : Bool) (mg nm : Nat → Int32) (gc : Nat) (go tx : Nat → Int32) (len : Nat) (lo hi : Nat → Nat) (ok : rfOk lo hi n one two own) (hp : lf < 2 ^ n) (g : Int32) (hg : ¬ (0 ≤ g ∧ g < nI (gm_rk (gm_L lo hi n lf n) 8))) : kw_I l mn_R_group (gw mn_R_group cd_R_group 7 (some .int)) ({ frames := 3, cells := 0, slots := 0, locals := 68 } : Room) D cl_v (kt kI kB kC kL) kE [.ref (rd 0), .int g] (wRF kI rd th n one two own bg lf tu tk cu co tO t0 t1 sv mg nm gc go tx len) (fun r w => ∃ go2 : Nat → Int32, w = wRF kI rd 1 n one two own bg lf tu tk cu co tO t0 t1 sv mg nm (gm_rk (gm_L lo hi n lf n) 8) go2 tx len) 0 0 := by
  refine kw_ofI (cc := cd_R_group) (maxL := 7) (ty := .int) (by decide) rfl (Nat.le_of_ble_eq_true rfl) rfl ?_
  intro pp ee s m args below meth c A X hr hlk hE hnm
  refine kw_aload_n X dc_R_group_0 rfl rfl ?_
  refine kw_callVV X kEw hE 0 rfl rfl (ct_part rd th n one two own bg lf tu tk cu co tO t0 t1 sv mg nm gc go tx len lo hi ok hp) (cw_V 0 X wd_772 wd_774 wp_20 wd_8 wd_775 rfl rfl (by decide +kernel) ⟨Nat.le_of_ble_eq_true rfl, Nat.le_of_ble_eq_true rfl⟩) [0, 1, 2, 3, 4, 5, 6, 7, 8, 9, 10, 11, 12] rfl (by decide) (fun _ h => by obtain ⟨g, rfl, _⟩ := h; exact Nat.le_refl _) rfl rfl (Nat.le_of_ble_eq_true rfl) dc_R_group_1 ⟨Nat.zero_le _, Nat.zero_le _⟩ (fun w hp => ?_)
  obtain ⟨go2, rfl, hgo⟩ := hp
  refine kw_cv (ws' := wRF kI rd th n one two own bg lf tu tk cu co tO t0 t1 sv mg nm (gm_rk (gm_L lo hi n lf n) 8) go2 tx len) rfl rfl rfl ?_
  refine kw_aload_n X dc_R_group_4 rfl rfl ?_
  refine kw_iload_n X dc_R_group_5 rfl rfl ?_
  refine kw_if_lt (tgt := 17) X dc_R_group_6 (by decide) (fun hc6 => ?_) (fun hc6 => ?_)
  · refine kw_iconst (v := (nI 1)) X dc_R_group_17 (by decide) ?_
    refine kw_goto (tgt := 22) X dc_R_group_18 (by decide) ?_
    refine kw_putf (ty := .int) X (wc_R _) fy_R fk_R fn_R 0 rfl rfl 0 (by decide) (gq wd_597) (fun _ h => h) rfl (by decide +kernel) rfl rfl (Nat.le_of_ble_eq_true rfl) dc_R_group_22 ?_
    refine kw_aload_n X dc_R_group_25 rfl rfl ?_
    refine kw_get X (wc_R _) 0 rfl rfl 0 (by decide) (gq wd_597) (fun _ h => h) rfl dc_R_group_26 ?_
    refine kw_if_le (tgt := 34) X dc_R_group_29 (by decide) (fun hc29 => ?_) (fun hc29 => ?_)
    · exact absurd hc29 (show ¬ nI 1 ≤ 0 by decide)
    · refine kw_iconst (v := (nI 0)) X dc_R_group_32 (by decide) ?_
      exact kw_iret X hr hlk dc_R_group_33 ⟨go2, rfl⟩
  · refine kw_iload_n X dc_R_group_9 rfl rfl ?_
    refine kw_aload_n X dc_R_group_10 rfl rfl ?_
    refine kw_get X (wc_R _) 0 rfl rfl 17 (by decide) (gq wd_614) (fun _ h => h) rfl dc_R_group_11 ?_
    refine kw_icmp_lt (tgt := 21) X dc_R_group_14 (by decide) (fun hc14 => ?_) (fun hc14 => ?_)
    · exact absurd ⟨Int32.not_lt.mp hc6, hc14⟩ hg
    · refine kw_iconst (v := (nI 1)) X dc_R_group_17 (by decide) ?_
      refine kw_goto (tgt := 22) X dc_R_group_18 (by decide) ?_
      refine kw_putf (ty := .int) X (wc_R _) fy_R fk_R fn_R 0 rfl rfl 0 (by decide) (gq wd_597) (fun _ h => h) rfl (by decide +kernel) rfl rfl (Nat.le_of_ble_eq_true rfl) dc_R_group_22 ?_
      refine kw_aload_n X dc_R_group_25 rfl rfl ?_
      refine kw_get X (wc_R _) 0 rfl rfl 0 (by decide) (gq wd_597) (fun _ h => h) rfl dc_R_group_26 ?_
      refine kw_if_le (tgt := 34) X dc_R_group_29 (by decide) (fun hc29 => ?_) (fun hc29 => ?_)
      · exact absurd hc29 (show ¬ nI 1 ≤ 0 by decide)
      · refine kw_iconst (v := (nI 0)) X dc_R_group_32 (by decide) ?_
        exact kw_iret X hr hlk dc_R_group_33 ⟨go2, rfl⟩
set_option maxRecDepth 100000 in
set_option maxHeartbeats 4000000 in
theorem ct_RgroupT {l : Launch} {D : va_G} {kI kB kC kL : ClassId} (rd : Nat → Nat) (th n : Nat) (one two own : Nat → Int32) (bg : Bool) (lf tu : Nat) (tk : Nat → Int32) (cu : Nat) (co tO t0 t1 : Nat → Int32) (sv : Bool) (mg nm : Nat → Int32) (gc : Nat) (go tx : Nat → Int32) (len : Nat) (lo hi : Nat → Nat) (ok : rfOk lo hi n one two own) (hp : lf < 2 ^ n) (g v : Nat) (hv : v < 8) (hvv : (gm_L lo hi n lf n) v = v) (hg : gm_rk (gm_L lo hi n lf n) v = g) : kw_I l mn_R_group (gw mn_R_group cd_R_group 7 (some .int)) ({ frames := 3, cells := 0, slots := 0, locals := 68 } : Room) D cl_v (kt kI kB kC kL) kE [.ref (rd 0), .int (nI g)] (wRF kI rd th n one two own bg lf tu tk cu co tO t0 t1 sv mg nm gc go tx len) (fun r w => r = nI (gm_cnt (gm_L lo hi n lf n) v 8 + (if gm_lp lo hi lf (gm_L lo hi n lf n) v n = true then 100 else 0)) ∧ ∃ go2 : Nat → Int32, w = wRF kI rd 0 n one two own bg lf tu tk cu co tO t0 t1 sv mg nm (gm_rk (gm_L lo hi n lf n) 8) go2 tx len) 0 0 := by
  refine kw_ofI (cc := cd_R_group) (maxL := 7) (ty := .int) (by decide) rfl (Nat.le_of_ble_eq_true rfl) rfl ?_
  intro pp ee s m args below meth c A X hr hlk hE hnm
  have hn := ok.1.1
  have hp4 := kq_2n hn hp
  have hgl := gm_rk_lt hvv hv
  have hg8 := gm_rk_8 (gm_L lo hi n lf n) 8
  have hL8 := (gm_L_8 lo hi n lf n).1
  refine kw_aload_n X dc_R_group_0 rfl rfl ?_
  refine kw_callVV X kEw hE 0 rfl rfl (ct_part rd th n one two own bg lf tu tk cu co tO t0 t1 sv mg nm gc go tx len lo hi ok hp) (cw_V 0 X wd_772 wd_774 wp_20 wd_8 wd_775 rfl rfl (by decide +kernel) ⟨Nat.le_of_ble_eq_true rfl, Nat.le_of_ble_eq_true rfl⟩) [0, 1, 2, 3, 4, 5, 6, 7, 8, 9, 10, 11, 12] rfl (by decide) (fun _ h => by obtain ⟨g, rfl, _⟩ := h; exact Nat.le_refl _) rfl rfl (Nat.le_of_ble_eq_true rfl) dc_R_group_1 ⟨Nat.zero_le _, Nat.zero_le _⟩ (fun w hp => ?_)
  obtain ⟨go2, rfl, hgo⟩ := hp
  refine kw_cv (ws' := wRF kI rd th n one two own bg lf tu tk cu co tO t0 t1 sv mg nm (gm_rk (gm_L lo hi n lf n) 8) go2 tx len) rfl rfl rfl ?_
  refine kw_aload_n X dc_R_group_4 rfl rfl ?_
  refine kw_iload_n X dc_R_group_5 rfl rfl ?_
  refine kw_if_lt (tgt := 17) X dc_R_group_6 (by decide) (fun hc6 => ?_) (fun hc6 => ?_)
  · exact absurd hc6 (Int32.not_lt.mpr (nI_nn (by omega)))
  · refine kw_iload_n X dc_R_group_9 rfl rfl ?_
    refine kw_aload_n X dc_R_group_10 rfl rfl ?_
    refine kw_get X (wc_R _) 0 rfl rfl 17 (by decide) (gq wd_614) (fun _ h => h) rfl dc_R_group_11 ?_
    refine kw_icmp_lt (tgt := 21) X dc_R_group_14 (by decide) (fun hc14 => ?_) (fun hc14 => ?_)
    · refine kw_iconst (v := (nI 0)) X dc_R_group_21 (by decide) ?_
      refine kw_putf (ty := .int) X (wc_R _) fy_R fk_R fn_R 0 rfl rfl 0 (by decide) (gq wd_597) (fun _ h => h) rfl (by decide +kernel) rfl rfl (Nat.le_of_ble_eq_true rfl) dc_R_group_22 ?_
      refine kw_aload_n X dc_R_group_25 rfl rfl ?_
      refine kw_get X (wc_R _) 0 rfl rfl 0 (by decide) (gq wd_597) (fun _ h => h) rfl dc_R_group_26 ?_
      refine kw_if_le (tgt := 34) X dc_R_group_29 (by decide) (fun hc29 => ?_) (fun hc29 => ?_)
      · refine kw_iconst (v := (nI 0)) X dc_R_group_34 (by decide) ?_
        refine kw_istore_n X dc_R_group_35 rfl (by decide) ?_
        refine kw_iconst (v := (nI 1)) X dc_R_group_36 (by decide) ?_
        refine kw_istore_n X dc_R_group_37 rfl (by decide) ?_
        refine kw_iconst (v := (nI 0)) X dc_R_group_38 (by decide) ?_
        refine kw_istore X dc_R_group_39 (by decide) ?_
        refine kw_loop (α := Nat) (fun k => k ≤ 8) (fun k => 8 - k) (fun _ => wRF kI rd 0 n one two own bg lf tu tk cu co tO t0 t1 sv mg nm (gm_rk (gm_L lo hi n lf n) 8) go2 tx len) (fun k => [some (.ref (rd 0)), some (.int (nI g)), some (.int (nI (gm_cnt (gm_L lo hi n lf n) v k))), some (.int (nI 1)), some (.int (nI k)), none, none]) (fun _ => []) 0 (Nat.zero_le _) (fun k hk ih => ?_)
        refine kw_iload X dc_R_group_41 rfl ?_
        refine kw_bipush (v := (nI 8)) X dc_R_group_43 (by decide) ?_
        refine kw_icmp_ge (tgt := 73) X dc_R_group_45 (by decide) (fun hc45 => ?_) (fun hc45 => ?_)
        · have hkE : k = 8 := Nat.le_antisymm hk (kq_le hc45)
          subst hkE
          refine kw_iconst (v := (nI 0)) X dc_R_group_73 (by decide) ?_
          refine kw_istore X dc_R_group_74 (by decide) ?_
          refine kw_loop (α := Nat) (fun k => k ≤ n) (fun k => n - k) (fun _ => wRF kI rd 0 n one two own bg lf tu tk cu co tO t0 t1 sv mg nm (gm_rk (gm_L lo hi n lf n) 8) go2 tx len) (fun k => [some (.ref (rd 0)), some (.int (nI g)), some (.int (nI (gm_cnt (gm_L lo hi n lf n) v 8))), some (.int (bI (gm_lp lo hi lf (gm_L lo hi n lf n) v k))), some (.int (nI k)), none, none]) (fun _ => []) 0 (Nat.zero_le _) (fun k hk ih => ?_)
          refine kw_iload X dc_R_group_76 rfl ?_
          refine kw_aload_n X dc_R_group_78 rfl rfl ?_
          refine kw_get X (wc_R _) 0 rfl rfl 1 (by decide) (gq wd_598) (fun _ h => h) rfl dc_R_group_79 ?_
          refine kw_icmp_ge (tgt := 176) X dc_R_group_82 (by decide) (fun hc82 => ?_) (fun hc82 => ?_)
          · have hkE : n = k := Nat.le_antisymm (kq_le hc82) hk
            subst hkE
            refine kw_iload_n X dc_R_group_176 rfl rfl ?_
            refine kw_if_eq (tgt := 187) X dc_R_group_177 (by decide) (fun hc177 => ?_) (fun hc177 => ?_)
            · have h177 := bI_0 hc177
              refine kw_iload_n X dc_R_group_187 rfl rfl ?_
              exact kw_iret X hr hlk dc_R_group_188 ⟨by first | (rw [if_pos h177]) | (rw [if_neg (by rw [h177]; decide)]; rfl), go2, rfl⟩
            · have h177 := bI_1 hc177
              refine kw_iload_n X dc_R_group_180 rfl rfl ?_
              refine kw_bipush (v := (nI 100)) X dc_R_group_181 (by decide) ?_
              refine kw_iadd (v := nI (gm_cnt (gm_L lo hi n lf n) v 8 + 100)) X dc_R_group_183 (nI_add _ _) ?_
              refine kw_goto (tgt := 188) X dc_R_group_184 (by decide) ?_
              exact kw_iret X hr hlk dc_R_group_188 ⟨by first | (rw [if_pos h177]) | (rw [if_neg (by rw [h177]; decide)]; rfl), go2, rfl⟩
          · have hkn := kq_nle hc82
            obtain ⟨x, y, hx, hy, hxy, e1, e2, e3, e4⟩ := ok.2.1 k hkn
            have ex := gr_of_eq (a := x) (fun q => gm_L_idem q) hv hvv hg
            have ey := gr_of_eq (a := y) (fun q => gm_L_idem q) hv hvv hg
            have esy := gr_sym (L := (gm_L lo hi n lf n)) (v := v) e3 e4
            refine kw_aload_n X dc_R_group_85 rfl rfl ?_
            refine kw_get X (wc_R _) 0 rfl rfl 18 (by decide) (gq wd_615) (fun _ h => h) rfl dc_R_group_86 ?_
            refine kw_aload_n X dc_R_group_89 rfl rfl ?_
            refine kw_get X (wc_R _) 0 rfl rfl 2 (by decide) (gq wd_599) (fun _ h => h) rfl dc_R_group_90 ?_
            refine kw_iload X dc_R_group_93 rfl ?_
            refine kw_iald (v := nI x) X 1 0 rfl rfl (kq_in (by omega) (by omega)) (by rw [kq_cl (by omega)]; exact e1) dc_R_group_95 ?_
            refine kw_iald (v := gr_of (gm_L lo hi n lf n) x) X 11 0 rfl rfl (kq_in hx (by omega)) (by rw [kq_cl (by omega)]; exact hgo x hx) dc_R_group_96 ?_
            refine kw_iload_n X dc_R_group_97 rfl rfl ?_
            refine kw_icmp_ne2 (tgt := 105) X dc_R_group_98 (by decide) (kw_matN (i9 := inferInstance) (E := 106) (a := (nI 1)) (b := (nI 0)) X dc_R_group_101 (by decide) dc_R_group_102 (by decide) dc_R_group_105 (by decide) rfl ?_)
            refine kw_top (y := bI (decide ((gm_L lo hi n lf n) x = v))) (bI_iff ex) ?_
            refine kw_istore X dc_R_group_106 (by decide) ?_
            refine kw_jn (α := Unit) (fun _ => True) (fun _ => wRF kI rd 0 n one two own bg lf tu tk cu co tO t0 t1 sv mg nm (gm_rk (gm_L lo hi n lf n) 8) go2 tx len) (fun _ => [some (.ref (rd 0)), some (.int (nI g)), some (.int (nI (gm_cnt (gm_L lo hi n lf n) v 8))), some (.int (bI (gm_lp lo hi lf (gm_L lo hi n lf n) v k))), some (.int (nI k)), some (.int (bI (decide ((gm_L lo hi n lf n) x = v)))), none]) (fun _ => [.int (bI (decide ((gm_L lo hi n lf n) y = v)))]) 139 (fun _ _ => ?_) (fun jn2 => ?_)
            · refine kw_istore X dc_R_group_139 (by decide) ?_
              refine kw_jn (α := Unit) (fun _ => True) (fun _ => wRF kI rd 0 n one two own bg lf tu tk cu co tO t0 t1 sv mg nm (gm_rk (gm_L lo hi n lf n) 8) go2 tx len) (fun _ => [some (.ref (rd 0)), some (.int (nI g)), some (.int (nI (gm_cnt (gm_L lo hi n lf n) v 8))), some (.int (bI (gm_lp lo hi lf (gm_L lo hi n lf n) v k))), some (.int (nI k)), some (.int (bI (decide ((gm_L lo hi n lf n) x = v)))), some (.int (bI (decide ((gm_L lo hi n lf n) y = v))))]) (fun _ => [.int (bI (gm_lp lo hi lf (gm_L lo hi n lf n) v (k + 1)))]) 169 (fun _ _ => ?_) (fun jn3 => ?_)
              · refine kw_istore_n X dc_R_group_169 rfl (by decide) ?_
                refine kw_iinc (v := nI (k + 1)) X dc_R_group_170 rfl (kq_inc k) (by decide) ?_
                refine kw_goto (tgt := 76) X dc_R_group_173 (by decide) ?_
                refine kw_kill 5 ?_
                refine kw_kill 6 ?_
                exact ih (k + 1) (by omega) (by omega)
              · refine kw_iload_n X dc_R_group_141 rfl rfl ?_
                refine kw_if_eq (tgt := 168) X dc_R_group_142 (by decide) (fun hc142 => ?_) (fun hc142 => ?_)
                · have hj0 := gm_lp_F (bI_0 hc142)
                  refine kw_iconst (v := (nI 0)) X dc_R_group_168 (by decide) ?_
                  first
                    | (refine kw_top (y := bI (gm_lp lo hi lf (gm_L lo hi n lf n) v (k + 1))) (show nI 0 = _ from (congrArg bI hj0).symm) ?_; exact jn3 () trivial)
                    | (refine kw_top (y := bI (gm_lp lo hi lf (gm_L lo hi n lf n) v (k + 1))) (show nI 1 = _ from (congrArg bI hj1).symm) ?_; exact jn3 () trivial)
                · have h142 := bI_1 hc142
                  refine kw_aload_n X dc_R_group_145 rfl rfl ?_
                  refine kw_get X (wc_R _) 0 rfl rfl 6 (by decide) (gq wd_603) (fun _ h => h) rfl dc_R_group_146 ?_
                  refine kw_iload X dc_R_group_149 rfl ?_
                  refine kw_ishr X dc_R_group_151 rfl ?_
                  refine kw_iconst (v := (nI 1)) X dc_R_group_152 (by decide) ?_
                  refine kw_iand (v := nI (lf / 2 ^ k % 2)) X dc_R_group_153 (bq_has (by omega) (by omega)) ?_
                  refine kw_if_eq (tgt := 164) X dc_R_group_154 (by decide) (fun hc154 => ?_) (fun hc154 => ?_)
                  · have h154 : lf.testBit k = false := by
                      by_cases hz : lf.testBit k = true
                      · exact absurd hc154 (kq_bz hz)
                      · simpa using hz
                    have hj1 := gm_lp_T h142 (Or.inl h154)
                    refine kw_iconst (v := (nI 1)) X dc_R_group_164 (by decide) ?_
                    refine kw_goto (tgt := 169) X dc_R_group_165 (by decide) ?_
                    first
                      | (refine kw_top (y := bI (gm_lp lo hi lf (gm_L lo hi n lf n) v (k + 1))) (show nI 0 = _ from (congrArg bI hj0).symm) ?_; exact jn3 () trivial)
                      | (refine kw_top (y := bI (gm_lp lo hi lf (gm_L lo hi n lf n) v (k + 1))) (show nI 1 = _ from (congrArg bI hj1).symm) ?_; exact jn3 () trivial)
                  · have h154 : lf.testBit k = true := by
                      by_cases hz : lf.testBit k = true
                      · exact hz
                      · exact absurd (kq_bn (by simpa using hz)) hc154
                    refine kw_iload X dc_R_group_157 rfl ?_
                    refine kw_iload X dc_R_group_159 rfl ?_
                    refine kw_icmp_ne (tgt := 168) X dc_R_group_161 (by decide) (fun hc161 => ?_) (fun hc161 => ?_)
                    · have hj0 := gm_lp_G (v := v) h154 (esy.trans (by
                        by_cases hz : (decide ((gm_L lo hi n lf n) x = v) == decide ((gm_L lo hi n lf n) y = v)) = true
                        · exact absurd (bI_inj.mpr hz) hc161
                        · simpa using hz))
                      refine kw_iconst (v := (nI 0)) X dc_R_group_168 (by decide) ?_
                      first
                        | (refine kw_top (y := bI (gm_lp lo hi lf (gm_L lo hi n lf n) v (k + 1))) (show nI 0 = _ from (congrArg bI hj0).symm) ?_; exact jn3 () trivial)
                        | (refine kw_top (y := bI (gm_lp lo hi lf (gm_L lo hi n lf n) v (k + 1))) (show nI 1 = _ from (congrArg bI hj1).symm) ?_; exact jn3 () trivial)
                    · have hj1 := gm_lp_T h142 (Or.inr (esy.trans (bI_inj.mp hc161)))
                      refine kw_iconst (v := (nI 1)) X dc_R_group_164 (by decide) ?_
                      refine kw_goto (tgt := 169) X dc_R_group_165 (by decide) ?_
                      first
                        | (refine kw_top (y := bI (gm_lp lo hi lf (gm_L lo hi n lf n) v (k + 1))) (show nI 0 = _ from (congrArg bI hj0).symm) ?_; exact jn3 () trivial)
                        | (refine kw_top (y := bI (gm_lp lo hi lf (gm_L lo hi n lf n) v (k + 1))) (show nI 1 = _ from (congrArg bI hj1).symm) ?_; exact jn3 () trivial)
            · refine kw_aload_n X dc_R_group_108 rfl rfl ?_
              refine kw_get X (wc_R _) 0 rfl rfl 3 (by decide) (gq wd_600) (fun _ h => h) rfl dc_R_group_109 ?_
              refine kw_iload X dc_R_group_112 rfl ?_
              refine kw_iald (v := og y) X 2 0 rfl rfl (kq_in (by omega) (by omega)) (by rw [kq_cl (by omega)]; exact e2) dc_R_group_114 ?_
              refine kw_if_lt (tgt := 138) X dc_R_group_115 (by decide) (fun hc115 => ?_) (fun hc115 => ?_)
              · have h115 : y = 8 := (og_neg hy).mp hc115
                have hy0 : decide ((gm_L lo hi n lf n) y = v) = false := decide_eq_false (fun z => by rw [h115, hL8] at z; omega)
                refine kw_iconst (v := (nI 0)) X dc_R_group_138 (by decide) ?_
                first
                  | (refine kw_top (y := bI (decide ((gm_L lo hi n lf n) y = v))) (show nI 0 = _ from (congrArg bI hy0).symm) ?_; exact jn2 () trivial)
                  | (refine kw_top (y := bI (decide ((gm_L lo hi n lf n) y = v))) (show nI 1 = _ from (congrArg bI hy1).symm) ?_; exact jn2 () trivial)
              · have h115 : y < 8 := by
                  have h8 : y ≠ 8 := fun z => hc115 ((og_neg hy).mpr z)
                  omega
                refine kw_aload_n X dc_R_group_118 rfl rfl ?_
                refine kw_get X (wc_R _) 0 rfl rfl 18 (by decide) (gq wd_615) (fun _ h => h) rfl dc_R_group_119 ?_
                refine kw_aload_n X dc_R_group_122 rfl rfl ?_
                refine kw_get X (wc_R _) 0 rfl rfl 3 (by decide) (gq wd_600) (fun _ h => h) rfl dc_R_group_123 ?_
                refine kw_iload X dc_R_group_126 rfl ?_
                refine kw_iald (v := nI y) X 2 0 rfl rfl (kq_in (by omega) (by omega)) (by rw [kq_cl (by omega), e2]; exact og_lt h115) dc_R_group_128 ?_
                refine kw_iald (v := gr_of (gm_L lo hi n lf n) y) X 11 0 rfl rfl (kq_in h115 (by omega)) (by rw [kq_cl (by omega)]; exact hgo y h115) dc_R_group_129 ?_
                refine kw_iload_n X dc_R_group_130 rfl rfl ?_
                refine kw_icmp_ne (tgt := 138) X dc_R_group_131 (by decide) (fun hc131 => ?_) (fun hc131 => ?_)
                · have hy0 : decide ((gm_L lo hi n lf n) y = v) = false := decide_eq_false (fun z => hc131 (ey.mpr z))
                  refine kw_iconst (v := (nI 0)) X dc_R_group_138 (by decide) ?_
                  first
                    | (refine kw_top (y := bI (decide ((gm_L lo hi n lf n) y = v))) (show nI 0 = _ from (congrArg bI hy0).symm) ?_; exact jn2 () trivial)
                    | (refine kw_top (y := bI (decide ((gm_L lo hi n lf n) y = v))) (show nI 1 = _ from (congrArg bI hy1).symm) ?_; exact jn2 () trivial)
                · have hy1 : decide ((gm_L lo hi n lf n) y = v) = true := decide_eq_true (ey.mp hc131)
                  refine kw_iconst (v := (nI 1)) X dc_R_group_134 (by decide) ?_
                  refine kw_goto (tgt := 139) X dc_R_group_135 (by decide) ?_
                  first
                    | (refine kw_top (y := bI (decide ((gm_L lo hi n lf n) y = v))) (show nI 0 = _ from (congrArg bI hy0).symm) ?_; exact jn2 () trivial)
                    | (refine kw_top (y := bI (decide ((gm_L lo hi n lf n) y = v))) (show nI 1 = _ from (congrArg bI hy1).symm) ?_; exact jn2 () trivial)
        · have hk8 : k < 8 := kq_nle hc45
          have e9 := gr_of_eq (a := k) (fun q => gm_L_idem q) hv hvv hg
          refine kw_jn (α := Unit) (fun _ => True) (fun _ => wRF kI rd 0 n one two own bg lf tu tk cu co tO t0 t1 sv mg nm (gm_rk (gm_L lo hi n lf n) 8) go2 tx len) (fun _ => [some (.ref (rd 0)), some (.int (nI g)), some (.int (nI (gm_cnt (gm_L lo hi n lf n) v k))), some (.int (nI 1)), some (.int (nI k)), none, none]) (fun _ => [.int (nI (gm_cnt (gm_L lo hi n lf n) v (k + 1)))]) 66 (fun _ _ => ?_) (fun jn1 => ?_)
          · refine kw_istore_n X dc_R_group_66 rfl (by decide) ?_
            refine kw_iinc (v := nI (k + 1)) X dc_R_group_67 rfl (kq_inc k) (by decide) ?_
            refine kw_goto (tgt := 41) X dc_R_group_70 (by decide) ?_
            exact ih (k + 1) (by omega) (by omega)
          · refine kw_iload_n X dc_R_group_48 rfl rfl ?_
            refine kw_aload_n X dc_R_group_49 rfl rfl ?_
            refine kw_get X (wc_R _) 0 rfl rfl 18 (by decide) (gq wd_615) (fun _ h => h) rfl dc_R_group_50 ?_
            refine kw_iload X dc_R_group_53 rfl ?_
            refine kw_iald (v := gr_of (gm_L lo hi n lf n) k) X 11 0 rfl rfl (kq_in hk8 (by omega)) (by rw [kq_cl (by omega)]; exact hgo k hk8) dc_R_group_55 ?_
            refine kw_iload_n X dc_R_group_56 rfl rfl ?_
            refine kw_icmp_ne (tgt := 64) X dc_R_group_57 (by decide) (fun hc57 => ?_) (fun hc57 => ?_)
            · have hs : gm_cnt (gm_L lo hi n lf n) v k + 0 = gm_cnt (gm_L lo hi n lf n) v (k + 1) := by
                show _ = gm_cnt (gm_L lo hi n lf n) v k + (if (gm_L lo hi n lf n) k = v then 1 else 0)
                rw [if_neg (fun z => hc57 (e9.mpr z))]
              refine kw_iconst (v := (nI 0)) X dc_R_group_64 (by decide) ?_
              refine kw_iadd (v := nI (gm_cnt (gm_L lo hi n lf n) v (k + 1))) X dc_R_group_65 ((nI_add _ _).trans (congrArg nI hs)) ?_
              exact jn1 () trivial
            · have hs : gm_cnt (gm_L lo hi n lf n) v k + 1 = gm_cnt (gm_L lo hi n lf n) v (k + 1) := by
                show _ = gm_cnt (gm_L lo hi n lf n) v k + (if (gm_L lo hi n lf n) k = v then 1 else 0)
                rw [if_pos (e9.mp hc57)]
              refine kw_iconst (v := (nI 1)) X dc_R_group_60 (by decide) ?_
              refine kw_goto (tgt := 65) X dc_R_group_61 (by decide) ?_
              refine kw_iadd (v := nI (gm_cnt (gm_L lo hi n lf n) v (k + 1))) X dc_R_group_65 ((nI_add _ _).trans (congrArg nI hs)) ?_
              exact jn1 () trivial
      · exact absurd (show nI 0 ≤ 0 by decide) hc29
    · exact absurd ((nI_ltI (by omega) (by omega)).mpr (by omega)) hc14
