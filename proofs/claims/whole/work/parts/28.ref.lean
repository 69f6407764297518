/-! building up -/
def adOk (a b : Int32) : Prop := (0 ≤ a ∧ a ≤ nI 7) ∧ (-1 ≤ b ∧ b ≤ nI 7) ∧ ¬ a = b
theorem adOk_of {a b : Nat} (ha : a < 8) (hb : b ≤ 8) (hab : a ≠ b) : adOk (nI a) (og b) := by
  have h : ∀ b, b < 9 → -1 ≤ og b ∧ og b ≤ nI 7 := by decide +kernel
  refine ⟨⟨nI_nn (by omega), (nI_leI (by omega) (by omega)).mpr (by omega)⟩, h b (by omega), fun z => ?_⟩
  rw [← og_lt ha] at z
  exact hab ((og_inj (by omega) hb).mp z)
theorem i32_nat {a : Int32} {N : Nat} (h0 : 0 ≤ a) (h1 : a ≤ nI N) (hN : N < 2 ^ 31) : ∃ k, k ≤ N ∧ a = nI k := by
  have e0 : (0 : Int) ≤ a.toInt := by
    have := Int32.le_iff_toInt_le.mp h0
    simpa using this
  have eN : (nI N).toInt = N := by
    show (Int32.ofNat N).toInt = N
    rw [Int32.toInt_ofNat_of_lt hN]
  have e1 : a.toInt ≤ N := by
    have := Int32.le_iff_toInt_le.mp h1
    rw [eN] at this
    exact this
  refine ⟨a.toInt.toNat, by omega, ?_⟩
  have e2 : (nI a.toInt.toNat).toInt = a.toInt.toNat := by
    show (Int32.ofNat a.toInt.toNat).toInt = _
    rw [Int32.toInt_ofNat_of_lt (by omega)]
  apply Int32.toInt_inj.mp
  rw [e2]
  omega
theorem adOk_ex {a b : Int32} (h : adOk a b) : ∃ x y : Nat, x < 8 ∧ y ≤ 8 ∧ x ≠ y ∧ a = nI x ∧ b = og y := by
  obtain ⟨⟨h1, h2⟩, ⟨h3, h4⟩, h5⟩ := h
  obtain ⟨x, hx, rfl⟩ := i32_nat h1 h2 (by decide)
  by_cases hb : b = -1
  · exact ⟨x, 8, by omega, by omega, by omega, rfl, hb⟩
  · have h0 : 0 ≤ b := by
      have q1 := Int32.le_iff_toInt_le.mp h3
      have q2 : b.toInt ≠ (-1 : Int32).toInt := fun z => hb (Int32.toInt_inj.mp z)
      apply Int32.le_iff_toInt_le.mpr
      have q3 : (-1 : Int32).toInt = -1 := by decide
      have q4 : (0 : Int32).toInt = 0 := by decide
      omega
    obtain ⟨y, hy, rfl⟩ := i32_nat h0 h4 (by decide)
    exact ⟨x, y, by omega, by omega, fun z => h5 (congrArg nI z), rfl, (og_lt (by omega)).symm⟩
def bdOk (a b : Int32) : Prop := (nI 1 ≤ a ∧ nI 1 ≤ b ∧ a ≤ nI 12 ∧ b ≤ nI 12) ∧ a * (b + nI 1) + b * (a + nI 1) ≤ nI 12
theorem bd_same_tab : ∀ x, x < 13 → ∀ y, y < 13 → nI x * (nI y + nI 1) + nI y * (nI x + nI 1) = nI x + nI y + nI 2 * nI x * nI y := by decide +kernel
theorem bd_fit_tab : ∀ x, x < 13 → ∀ y, y < 13 → (nI x * (nI y + nI 1) + nI y * (nI x + nI 1) ≤ nI 12 ↔ x * (y + 1) + y * (x + 1) ≤ 12) := by decide +kernel
theorem bd_rng {a b : Int32} (h : nI 1 ≤ a ∧ nI 1 ≤ b ∧ a ≤ nI 12 ∧ b ≤ nI 12) : ∃ x y : Nat, 1 ≤ x ∧ 1 ≤ y ∧ x ≤ 12 ∧ y ≤ 12 ∧ a = nI x ∧ b = nI y := by
  obtain ⟨h1, h2, h3, h4⟩ := h
  have l1 : (0 : Int32) ≤ nI 1 := by decide
  obtain ⟨x, hx, rfl⟩ := i32_nat (Int32.le_trans l1 h1) h3 (by decide)
  obtain ⟨y, hy, rfl⟩ := i32_nat (Int32.le_trans l1 h2) h4 (by decide)
  exact ⟨x, y, kq_le h1, kq_le h2, hx, hy, rfl, rfl⟩
theorem bd_same {a b : Int32} (h : nI 1 ≤ a ∧ nI 1 ≤ b ∧ a ≤ nI 12 ∧ b ≤ nI 12) : a * (b + nI 1) + b * (a + nI 1) = a + b + nI 2 * a * b := by
  obtain ⟨x, y, h1, h2, h3, h4, rfl, rfl⟩ := bd_rng h
  exact bd_same_tab x (by omega) y (by omega)
theorem bdOk_ex {a b : Int32} (h : bdOk a b) : ∃ x y : Nat, a = nI x ∧ b = nI y ∧ bd_fit x y := by
  obtain ⟨x, y, h1, h2, h3, h4, rfl, rfl⟩ := bd_rng h.1
  exact ⟨x, y, rfl, rfl, h1, h2, h3, h4, (bd_fit_tab x (by omega) y (by omega)).mp h.2⟩
theorem bdOk_of {x y : Nat} (h : bd_fit x y) : bdOk (nI x) (nI y) := by
  obtain ⟨h1, h2, h3, h4, h5⟩ := h
  exact ⟨⟨(nI_leI (by omega) (by omega)).mpr h1, (nI_leI (by omega) (by omega)).mpr h2, (nI_leI (by omega) (by omega)).mpr h3, (nI_leI (by omega) (by omega)).mpr h4⟩, (bd_fit_tab x (by omega) y (by omega)).mpr h5⟩
theorem ct_Zhang {l : Launch} {D : va_G} {kI kB kC kL : ClassId} (rd : Nat → Nat) (n : Nat) (lo hi : Nat → Nat) (T : List Nat) (t : Nat) (S : Bool) (w0 : va_W) (h : rfP kI rd n lo hi false [] T t S w0) (a b : Nat) (hn : n < 12) (ha : a < 8) (hb : b ≤ 8) (hab : a ≠ b) : kw_V l mn_R_hang (gw mn_R_hang cd_R_hang 3 none) ({ frames := 0, cells := 0, slots := 0, locals := 0 } : Room) D cl_v (kt kI kB kC kL) kE [.ref (rd 0), .int (nI a), .int (og b)] w0 (fun w => rfP kI rd (n + 1) (fun i => if i = n then min a b else lo i) (fun i => if i = n then max a b else hi i) false [] T t S w) 0 0 := by
  obtain ⟨one, two, own, tk, co, tO, t0, t1, sv, mg, nm, gc, go, tx, rfl, zv, zb, zT, ok, ⟨k0, k1⟩, hC, hS, hX⟩ := h
  refine kw_V.mono (ct_hang rd t n one two own false (2 ^ n - 1) 0 tk 0 co tO t0 t1 sv mg nm gc go tx T.length lo hi ok a b hn ha hb hab) (fun w hq => ?_)
  obtain ⟨one2, two2, own2, rfl, ok2⟩ := hq
  exact ⟨one2, two2, own2, tk, co, tO, t0, t1, sv, mg, nm, gc, go, tx, by rw [kq_ones]; rfl, trivial, fun _ => rfl, zT, ok2, ⟨k0, k1⟩, trivial, fun z => (by cases z), hX⟩
set_option maxRecDepth 100000 in
set_option maxHeartbeats 4000000 in
theorem ct_RaddF1 {l : Launch} {D : va_G} {kI kB kC kL : ClassId} (rd : Nat → Nat) (n : Nat) (lo hi : Nat → Nat) (bg : Bool) (cs T : List Nat) (t : Nat) (S : Bool) (w0 : va_W) (h : rfP kI rd n lo hi bg cs T t S w0) (a b : Int32) (hok : ¬ adOk a b) : kw_I l mn_R_add (gw mn_R_add cd_R_add 3 (some .int)) ({ frames := 1, cells := 0, slots := 0, locals := 20 } : Room) D cl_v (kt kI kB kC kL) kE [.ref (rd 0), .int a, .int b] (w0) (fun r w => rfP kI rd n lo hi bg cs T 1 S w) 0 0 := by
  obtain ⟨one, two, own, tk, co, tO, t0, t1, sv, mg, nm, gc, go, tx, rfl, zv, zb, zT, ok, ⟨k0, k1⟩, hC, hS, hX⟩ := h
  refine kw_ofI (cc := cd_R_add) (maxL := 3) (ty := .int) (by decide) rfl (Nat.le_of_ble_eq_true rfl) rfl ?_
  intro pp ee s m args below meth c A X hr hlk hE hnm
  refine kw_aload_n X dc_R_add_0 rfl rfl ?_
  refine kw_iload_n X dc_R_add_1 rfl rfl ?_
  refine kw_callSI X kEw hE (ct_RisCoin a) (cw_S 1 X wd_669 wd_670 wd_8 wd_671 rfl rfl (by decide +kernel) ⟨Nat.le_of_ble_eq_true rfl, Nat.le_of_ble_eq_true rfl⟩) [] rfl (by decide) (fun _ _ _ => Nat.zero_le _) rfl rfl (Nat.le_of_ble_eq_true rfl) dc_R_add_2 ⟨Nat.zero_le _, Nat.zero_le _⟩ (fun r w hp => ?_)
  obtain ⟨rfl, rfl⟩ := hp
  refine kw_cv (ws' := wRF kI rd t n one two own bg (gm_run lo hi n cs).1 (gm_run lo hi n cs).2.1 tk cs.length co tO t0 t1 sv mg nm gc go tx T.length) rfl rfl rfl ?_
  refine kw_if_eq (tgt := 24) X dc_R_add_5 (by decide) (fun hc5 => ?_) (fun hc5 => ?_)
  · refine kw_iconst (v := (nI 1)) X dc_R_add_24 (by decide) ?_
    refine kw_goto (tgt := 49) X dc_R_add_25 (by decide) ?_
    refine kw_putf (ty := .int) X (wc_R _) fy_R fk_R fn_R 0 rfl rfl 0 (by decide) (gq wd_597) (fun _ h => h) rfl (by decide +kernel) rfl rfl (Nat.le_of_ble_eq_true rfl) dc_R_add_49 ?_
    refine kw_aload_n X dc_R_add_52 rfl rfl ?_
    refine kw_get X (wc_R _) 0 rfl rfl 0 (by decide) (gq wd_597) (fun _ h => h) rfl dc_R_add_53 ?_
    refine kw_if_le (tgt := 61) X dc_R_add_56 (by decide) (fun hc56 => ?_) (fun hc56 => ?_)
    · exact absurd hc56 (show ¬ nI 1 ≤ 0 by decide)
    · refine kw_iconst (v := (nI 0)) X dc_R_add_59 (by decide) ?_
      exact kw_iret X hr hlk dc_R_add_60 ⟨one, two, own, tk, co, tO, t0, t1, sv, mg, nm, gc, go, tx, rfl, zv, zb, zT, ok, ⟨k0, k1⟩, hC, hS, hX⟩
  · refine kw_iload_n X dc_R_add_8 rfl rfl ?_
    refine kw_iconst (v := (-1)) X dc_R_add_9 (by decide) ?_
    refine kw_icmp_lt (tgt := 24) X dc_R_add_10 (by decide) (fun hc10 => ?_) (fun hc10 => ?_)
    · refine kw_iconst (v := (nI 1)) X dc_R_add_24 (by decide) ?_
      refine kw_goto (tgt := 49) X dc_R_add_25 (by decide) ?_
      refine kw_putf (ty := .int) X (wc_R _) fy_R fk_R fn_R 0 rfl rfl 0 (by decide) (gq wd_597) (fun _ h => h) rfl (by decide +kernel) rfl rfl (Nat.le_of_ble_eq_true rfl) dc_R_add_49 ?_
      refine kw_aload_n X dc_R_add_52 rfl rfl ?_
      refine kw_get X (wc_R _) 0 rfl rfl 0 (by decide) (gq wd_597) (fun _ h => h) rfl dc_R_add_53 ?_
      refine kw_if_le (tgt := 61) X dc_R_add_56 (by decide) (fun hc56 => ?_) (fun hc56 => ?_)
      · exact absurd hc56 (show ¬ nI 1 ≤ 0 by decide)
      · refine kw_iconst (v := (nI 0)) X dc_R_add_59 (by decide) ?_
        exact kw_iret X hr hlk dc_R_add_60 ⟨one, two, own, tk, co, tO, t0, t1, sv, mg, nm, gc, go, tx, rfl, zv, zb, zT, ok, ⟨k0, k1⟩, hC, hS, hX⟩
    · refine kw_iload_n X dc_R_add_13 rfl rfl ?_
      refine kw_bipush (v := (nI 7)) X dc_R_add_14 (by decide) ?_
      refine kw_icmp_gt (tgt := 24) X dc_R_add_16 (by decide) (fun hc16 => ?_) (fun hc16 => ?_)
      · refine kw_iconst (v := (nI 1)) X dc_R_add_24 (by decide) ?_
        refine kw_goto (tgt := 49) X dc_R_add_25 (by decide) ?_
        refine kw_putf (ty := .int) X (wc_R _) fy_R fk_R fn_R 0 rfl rfl 0 (by decide) (gq wd_597) (fun _ h => h) rfl (by decide +kernel) rfl rfl (Nat.le_of_ble_eq_true rfl) dc_R_add_49 ?_
        refine kw_aload_n X dc_R_add_52 rfl rfl ?_
        refine kw_get X (wc_R _) 0 rfl rfl 0 (by decide) (gq wd_597) (fun _ h => h) rfl dc_R_add_53 ?_
        refine kw_if_le (tgt := 61) X dc_R_add_56 (by decide) (fun hc56 => ?_) (fun hc56 => ?_)
        · exact absurd hc56 (show ¬ nI 1 ≤ 0 by decide)
        · refine kw_iconst (v := (nI 0)) X dc_R_add_59 (by decide) ?_
          exact kw_iret X hr hlk dc_R_add_60 ⟨one, two, own, tk, co, tO, t0, t1, sv, mg, nm, gc, go, tx, rfl, zv, zb, zT, ok, ⟨k0, k1⟩, hC, hS, hX⟩
      · refine kw_iload_n X dc_R_add_19 rfl rfl ?_
        refine kw_iload_n X dc_R_add_20 rfl rfl ?_
        refine kw_icmp_ne (tgt := 28) X dc_R_add_21 (by decide) (fun hc21 => ?_) (fun hc21 => ?_)
        · exact absurd ⟨kq_z1 hc5, ⟨Int32.not_lt.mp hc10, Int32.not_lt.mp hc16⟩, hc21⟩ hok
        · refine kw_iconst (v := (nI 1)) X dc_R_add_24 (by decide) ?_
          refine kw_goto (tgt := 49) X dc_R_add_25 (by decide) ?_
          refine kw_putf (ty := .int) X (wc_R _) fy_R fk_R fn_R 0 rfl rfl 0 (by decide) (gq wd_597) (fun _ h => h) rfl (by decide +kernel) rfl rfl (Nat.le_of_ble_eq_true rfl) dc_R_add_49 ?_
          refine kw_aload_n X dc_R_add_52 rfl rfl ?_
          refine kw_get X (wc_R _) 0 rfl rfl 0 (by decide) (gq wd_597) (fun _ h => h) rfl dc_R_add_53 ?_
          refine kw_if_le (tgt := 61) X dc_R_add_56 (by decide) (fun hc56 => ?_) (fun hc56 => ?_)
          · exact absurd hc56 (show ¬ nI 1 ≤ 0 by decide)
          · refine kw_iconst (v := (nI 0)) X dc_R_add_59 (by decide) ?_
            exact kw_iret X hr hlk dc_R_add_60 ⟨one, two, own, tk, co, tO, t0, t1, sv, mg, nm, gc, go, tx, rfl, zv, zb, zT, ok, ⟨k0, k1⟩, hC, hS, hX⟩
set_option maxRecDepth 100000 in
set_option maxHeartbeats 4000000 in
theorem ct_RaddF2 {l : Launch} {D : va_G} {kI kB kC kL : ClassId} (rd : Nat → Nat) (n : Nat) (lo hi : Nat → Nat) (bg : Bool) (cs T : List Nat) (t : Nat) (S : Bool) (w0 : va_W) (h : rfP kI rd n lo hi bg cs T t S w0) (a b : Int32) (hok : adOk a b) (hz : bg = true ∨ n = 12) : kw_I l mn_R_add (gw mn_R_add cd_R_add 3 (some .int)) ({ frames := 1, cells := 0, slots := 0, locals := 20 } : Room) D cl_v (kt kI kB kC kL) kE [.ref (rd 0), .int a, .int b] (w0) (fun r w => rfP kI rd n lo hi bg cs T 2 S w) 0 0 := by
  obtain ⟨one, two, own, tk, co, tO, t0, t1, sv, mg, nm, gc, go, tx, rfl, zv, zb, zT, ok, ⟨k0, k1⟩, hC, hS, hX⟩ := h
  refine kw_ofI (cc := cd_R_add) (maxL := 3) (ty := .int) (by decide) rfl (Nat.le_of_ble_eq_true rfl) rfl ?_
  intro pp ee s m args below meth c A X hr hlk hE hnm
  obtain ⟨⟨q1, q2⟩, ⟨q3, q4⟩, q5⟩ := hok
  have hn := ok.1.1
  refine kw_aload_n X dc_R_add_0 rfl rfl ?_
  refine kw_iload_n X dc_R_add_1 rfl rfl ?_
  refine kw_callSI X kEw hE (ct_RisCoin a) (cw_S 1 X wd_669 wd_670 wd_8 wd_671 rfl rfl (by decide +kernel) ⟨Nat.le_of_ble_eq_true rfl, Nat.le_of_ble_eq_true rfl⟩) [] rfl (by decide) (fun _ _ _ => Nat.zero_le _) rfl rfl (Nat.le_of_ble_eq_true rfl) dc_R_add_2 ⟨Nat.zero_le _, Nat.zero_le _⟩ (fun r w hp => ?_)
  obtain ⟨rfl, rfl⟩ := hp
  refine kw_cv (ws' := wRF kI rd t n one two own bg (gm_run lo hi n cs).1 (gm_run lo hi n cs).2.1 tk cs.length co tO t0 t1 sv mg nm gc go tx T.length) rfl rfl rfl ?_
  refine kw_if_eq (tgt := 24) X dc_R_add_5 (by decide) (fun hc5 => ?_) (fun hc5 => ?_)
  · exact absurd ⟨q1, q2⟩ (kq_z0 hc5)
  · refine kw_iload_n X dc_R_add_8 rfl rfl ?_
    refine kw_iconst (v := (-1)) X dc_R_add_9 (by decide) ?_
    refine kw_icmp_lt (tgt := 24) X dc_R_add_10 (by decide) (fun hc10 => ?_) (fun hc10 => ?_)
    · exact absurd hc10 (Int32.not_lt.mpr q3)
    · refine kw_iload_n X dc_R_add_13 rfl rfl ?_
      refine kw_bipush (v := (nI 7)) X dc_R_add_14 (by decide) ?_
      refine kw_icmp_gt (tgt := 24) X dc_R_add_16 (by decide) (fun hc16 => ?_) (fun hc16 => ?_)
      · exact absurd hc16 (Int32.not_lt.mpr q4)
      · refine kw_iload_n X dc_R_add_19 rfl rfl ?_
        refine kw_iload_n X dc_R_add_20 rfl rfl ?_
        refine kw_icmp_ne (tgt := 28) X dc_R_add_21 (by decide) (fun hc21 => ?_) (fun hc21 => ?_)
        · refine kw_aload_n X dc_R_add_28 rfl rfl ?_
          refine kw_get X (wc_R _) 0 rfl rfl 5 (by decide) (gq wd_602) (fun _ h => h) rfl dc_R_add_29 ?_
          refine kw_if_ne (tgt := 44) X dc_R_add_32 (by decide) (fun hc32 => ?_) (fun hc32 => ?_)
          · refine kw_iconst (v := (nI 2)) X dc_R_add_44 (by decide) ?_
            refine kw_goto (tgt := 49) X dc_R_add_45 (by decide) ?_
            refine kw_putf (ty := .int) X (wc_R _) fy_R fk_R fn_R 0 rfl rfl 0 (by decide) (gq wd_597) (fun _ h => h) rfl (by decide +kernel) rfl rfl (Nat.le_of_ble_eq_true rfl) dc_R_add_49 ?_
            refine kw_aload_n X dc_R_add_52 rfl rfl ?_
            refine kw_get X (wc_R _) 0 rfl rfl 0 (by decide) (gq wd_597) (fun _ h => h) rfl dc_R_add_53 ?_
            refine kw_if_le (tgt := 61) X dc_R_add_56 (by decide) (fun hc56 => ?_) (fun hc56 => ?_)
            · exact absurd hc56 (show ¬ nI 2 ≤ 0 by decide)
            · refine kw_iconst (v := (nI 0)) X dc_R_add_59 (by decide) ?_
              exact kw_iret X hr hlk dc_R_add_60 ⟨one, two, own, tk, co, tO, t0, t1, sv, mg, nm, gc, go, tx, rfl, zv, zb, zT, ok, ⟨k0, k1⟩, hC, hS, hX⟩
          · have hn12 : n = 12 := by
              rcases hz with z | z
              · have h9 := bI_0 hc32
                rw [z] at h9
                cases h9
              · exact z
            refine kw_aload_n X dc_R_add_35 rfl rfl ?_
            refine kw_get X (wc_R _) 0 rfl rfl 1 (by decide) (gq wd_598) (fun _ h => h) rfl dc_R_add_36 ?_
            refine kw_bipush (v := (nI 12)) X dc_R_add_39 (by decide) ?_
            refine kw_icmp_ne (tgt := 48) X dc_R_add_41 (by decide) (fun hc41 => ?_) (fun hc41 => ?_)
            · exact absurd (congrArg nI hn12) hc41
            · refine kw_iconst (v := (nI 2)) X dc_R_add_44 (by decide) ?_
              refine kw_goto (tgt := 49) X dc_R_add_45 (by decide) ?_
              refine kw_putf (ty := .int) X (wc_R _) fy_R fk_R fn_R 0 rfl rfl 0 (by decide) (gq wd_597) (fun _ h => h) rfl (by decide +kernel) rfl rfl (Nat.le_of_ble_eq_true rfl) dc_R_add_49 ?_
              refine kw_aload_n X dc_R_add_52 rfl rfl ?_
              refine kw_get X (wc_R _) 0 rfl rfl 0 (by decide) (gq wd_597) (fun _ h => h) rfl dc_R_add_53 ?_
              refine kw_if_le (tgt := 61) X dc_R_add_56 (by decide) (fun hc56 => ?_) (fun hc56 => ?_)
              · exact absurd hc56 (show ¬ nI 2 ≤ 0 by decide)
              · refine kw_iconst (v := (nI 0)) X dc_R_add_59 (by decide) ?_
                exact kw_iret X hr hlk dc_R_add_60 ⟨one, two, own, tk, co, tO, t0, t1, sv, mg, nm, gc, go, tx, rfl, zv, zb, zT, ok, ⟨k0, k1⟩, hC, hS, hX⟩
        · exact absurd hc21 q5
set_option maxRecDepth 100000 in
set_option maxHeartbeats 4000000 in
theorem ct_RaddT {l : Launch} {D : va_G} {kI kB kC kL : ClassId} (rd : Nat → Nat) (n : Nat) (lo hi : Nat → Nat) (T : List Nat) (t : Nat) (S : Bool) (w0 : va_W) (h : rfP kI rd n lo hi false [] T t S w0) (a b : Nat) (hn : n < 12) (ha : a < 8) (hb : b ≤ 8) (hab : a ≠ b) : kw_I l mn_R_add (gw mn_R_add cd_R_add 3 (some .int)) ({ frames := 1, cells := 0, slots := 0, locals := 22 } : Room) D cl_v (kt kI kB kC kL) kE [.ref (rd 0), .int (nI a), .int (og b)] (w0) (fun r w => r = nI n ∧ rfP kI rd (n + 1) (fun i => if i = n then min a b else lo i) (fun i => if i = n then max a b else hi i) false [] T 0 S w) 0 0 := by
  obtain ⟨one, two, own, tk, co, tO, t0, t1, sv, mg, nm, gc, go, tx, rfl, zv, zb, zT, ok, ⟨k0, k1⟩, hC, hS, hX⟩ := h
  refine kw_ofI (cc := cd_R_add) (maxL := 3) (ty := .int) (by decide) rfl (Nat.le_of_ble_eq_true rfl) rfl ?_
  intro pp ee s m args below meth c A X hr hlk hE hnm
  obtain ⟨⟨q1, q2⟩, ⟨q3, q4⟩, q5⟩ := adOk_of ha hb hab
  refine kw_cv (ws' := wRF kI rd t n one two own false (2 ^ n - 1) 0 tk 0 co tO t0 t1 sv mg nm gc go tx T.length) rfl rfl rfl ?_
  refine kw_aload_n X dc_R_add_0 rfl rfl ?_
  refine kw_iload_n X dc_R_add_1 rfl rfl ?_
  refine kw_callSI X kEw hE (ct_RisCoin (nI a)) (cw_S 1 X wd_669 wd_670 wd_8 wd_671 rfl rfl (by decide +kernel) ⟨Nat.le_of_ble_eq_true rfl, Nat.le_of_ble_eq_true rfl⟩) [] rfl (by decide) (fun _ _ _ => Nat.zero_le _) rfl rfl (Nat.le_of_ble_eq_true rfl) dc_R_add_2 ⟨Nat.zero_le _, Nat.zero_le _⟩ (fun r w hp => ?_)
  obtain ⟨rfl, rfl⟩ := hp
  refine kw_cv (ws' := wRF kI rd t n one two own false (2 ^ n - 1) 0 tk 0 co tO t0 t1 sv mg nm gc go tx T.length) rfl rfl rfl ?_
  refine kw_if_eq (tgt := 24) X dc_R_add_5 (by decide) (fun hc5 => ?_) (fun hc5 => ?_)
  · exact absurd ⟨q1, q2⟩ (kq_z0 hc5)
  · refine kw_iload_n X dc_R_add_8 rfl rfl ?_
    refine kw_iconst (v := (-1)) X dc_R_add_9 (by decide) ?_
    refine kw_icmp_lt (tgt := 24) X dc_R_add_10 (by decide) (fun hc10 => ?_) (fun hc10 => ?_)
    · exact absurd hc10 (Int32.not_lt.mpr q3)
    · refine kw_iload_n X dc_R_add_13 rfl rfl ?_
      refine kw_bipush (v := (nI 7)) X dc_R_add_14 (by decide) ?_
      refine kw_icmp_gt (tgt := 24) X dc_R_add_16 (by decide) (fun hc16 => ?_) (fun hc16 => ?_)
      · exact absurd hc16 (Int32.not_lt.mpr q4)
      · refine kw_iload_n X dc_R_add_19 rfl rfl ?_
        refine kw_iload_n X dc_R_add_20 rfl rfl ?_
        refine kw_icmp_ne (tgt := 28) X dc_R_add_21 (by decide) (fun hc21 => ?_) (fun hc21 => ?_)
        · refine kw_aload_n X dc_R_add_28 rfl rfl ?_
          refine kw_get X (wc_R _) 0 rfl rfl 5 (by decide) (gq wd_602) (fun _ h => h) rfl dc_R_add_29 ?_
          refine kw_if_ne (tgt := 44) X dc_R_add_32 (by decide) (fun hc32 => ?_) (fun hc32 => ?_)
          · exact absurd rfl hc32
          · refine kw_aload_n X dc_R_add_35 rfl rfl ?_
            refine kw_get X (wc_R _) 0 rfl rfl 1 (by decide) (gq wd_598) (fun _ h => h) rfl dc_R_add_36 ?_
            refine kw_bipush (v := (nI 12)) X dc_R_add_39 (by decide) ?_
            refine kw_icmp_ne (tgt := 48) X dc_R_add_41 (by decide) (fun hc41 => ?_) (fun hc41 => ?_)
            · refine kw_iconst (v := (nI 0)) X dc_R_add_48 (by decide) ?_
              refine kw_putf (ty := .int) X (wc_R _) fy_R fk_R fn_R 0 rfl rfl 0 (by decide) (gq wd_597) (fun _ h => h) rfl (by decide +kernel) rfl rfl (Nat.le_of_ble_eq_true rfl) dc_R_add_49 ?_
              refine kw_aload_n X dc_R_add_52 rfl rfl ?_
              refine kw_get X (wc_R _) 0 rfl rfl 0 (by decide) (gq wd_597) (fun _ h => h) rfl dc_R_add_53 ?_
              refine kw_if_le (tgt := 61) X dc_R_add_56 (by decide) (fun hc56 => ?_) (fun hc56 => ?_)
              · refine kw_aload_n X dc_R_add_61 rfl rfl ?_
                refine kw_iload_n X dc_R_add_62 rfl rfl ?_
                refine kw_iload_n X dc_R_add_63 rfl rfl ?_
                refine kw_callVV X kEw hE 0 rfl rfl (ct_Zhang rd n lo hi T 0 S (wRF kI rd 0 n one two own false (2 ^ n - 1) 0 tk 0 co tO t0 t1 sv mg nm gc go tx T.length) ⟨one, two, own, tk, co, tO, t0, t1, sv, mg, nm, gc, go, tx, rfl, zv, zb, zT, ok, ⟨k0, k1⟩, hC, hS, hX⟩ a b hn ha hb hab) (cw_V 2 X wd_672 wd_674 wp_10 wd_8 wd_675 rfl rfl (by decide +kernel) ⟨Nat.le_of_ble_eq_true rfl, Nat.le_of_ble_eq_true rfl⟩) [0, 1, 2, 3, 4, 5, 6, 7, 8, 9, 10, 11, 12] rfl (by decide) (fun _ h => rfP_len h) rfl rfl (Nat.le_of_ble_eq_true rfl) dc_R_add_64 ⟨Nat.zero_le _, Nat.zero_le _⟩ (fun w hp => ?_)
                obtain ⟨one2, two2, own2, tk2, co2, tO2, t02, t12, sv2, mg2, nm2, gc2, go2, tx2, rfl, zv2, zb2, zT2, ok2, ⟨k02, k12⟩, hC2, hS2, hX2⟩ := hp
                refine kw_cv (ws' := wRF kI rd 0 (n + 1) one2 two2 own2 false (2 ^ (n + 1) - 1) 0 tk2 0 co2 tO2 t02 t12 sv2 mg2 nm2 gc2 go2 tx2 T.length) rfl rfl rfl ?_
                refine kw_aload_n X dc_R_add_67 rfl rfl ?_
                refine kw_get X (wc_R _) 0 rfl rfl 1 (by decide) (gq wd_598) (fun _ h => h) rfl dc_R_add_68 ?_
                refine kw_iconst (v := (nI 1)) X dc_R_add_71 (by decide) ?_
                refine kw_isub (v := nI n) X dc_R_add_72 ((pk_sub (Nat.le_add_left 1 _)).trans (congrArg nI (Nat.add_sub_cancel _ 1))) ?_
                exact kw_iret X hr hlk dc_R_add_73 ⟨rfl, one2, two2, own2, tk2, co2, tO2, t02, t12, sv2, mg2, nm2, gc2, go2, tx2, rfl, zv2, zb2, zT2, ok2, ⟨k02, k12⟩, hC2, hS2, hX2⟩
              · exact absurd (show nI 0 ≤ 0 by decide) hc56
            · exact absurd (kq_eq hc41) (by omega)
        · exact absurd hc21 q5
set_option maxRecDepth 100000 in
set_option maxHeartbeats 4000000 in
theorem ct_RbeginF {l : Launch} {D : va_G} {kI kB kC kL : ClassId} (rd : Nat → Nat) (n : Nat) (lo hi : Nat → Nat) (bg : Bool) (cs T : List Nat) (t : Nat) (S : Bool) (w0 : va_W) (h : rfP kI rd n lo hi bg cs T t S w0) (hz : bg = true ∨ n = 0) : kw_V l mn_R_begin (gw mn_R_begin cd_R_begin 1 none) ({ frames := 0, cells := 0, slots := 0, locals := 0 } : Room) D cl_v (kt kI kB kC kL) kE [.ref (rd 0)] (w0) (fun w => rfP kI rd n lo hi bg cs T 1 S w) 0 0 := by
  obtain ⟨one, two, own, tk, co, tO, t0, t1, sv, mg, nm, gc, go, tx, rfl, zv, zb, zT, ok, ⟨k0, k1⟩, hC, hS, hX⟩ := h
  refine kw_ofV (cc := cd_R_begin) (maxL := 1) (by decide) rfl (Nat.le_of_ble_eq_true rfl) rfl ?_
  intro pp ee s m args below meth c A X hr hlk hE hnm
  have hn := ok.1.1
  refine kw_aload_n X dc_R_begin_0 rfl rfl ?_
  refine kw_aload_n X dc_R_begin_1 rfl rfl ?_
  refine kw_get X (wc_R _) 0 rfl rfl 5 (by decide) (gq wd_602) (fun _ h => h) rfl dc_R_begin_2 ?_
  refine kw_if_ne (tgt := 15) X dc_R_begin_5 (by decide) (fun hc5 => ?_) (fun hc5 => ?_)
  · refine kw_iconst (v := (nI 1)) X dc_R_begin_15 (by decide) ?_
    refine kw_goto (tgt := 20) X dc_R_begin_16 (by decide) ?_
    refine kw_putf (ty := .int) X (wc_R _) fy_R fk_R fn_R 0 rfl rfl 0 (by decide) (gq wd_597) (fun _ h => h) rfl (by decide +kernel) rfl rfl (Nat.le_of_ble_eq_true rfl) dc_R_begin_20 ?_
    refine kw_aload_n X dc_R_begin_23 rfl rfl ?_
    refine kw_get X (wc_R _) 0 rfl rfl 0 (by decide) (gq wd_597) (fun _ h => h) rfl dc_R_begin_24 ?_
    refine kw_if_le (tgt := 31) X dc_R_begin_27 (by decide) (fun hc27 => ?_) (fun hc27 => ?_)
    · exact absurd hc27 (show ¬ nI 1 ≤ 0 by decide)
    · exact kw_vret X hr hlk dc_R_begin_30 ⟨one, two, own, tk, co, tO, t0, t1, sv, mg, nm, gc, go, tx, rfl, zv, zb, zT, ok, ⟨k0, k1⟩, hC, hS, hX⟩
  · have hn0 : n = 0 := by
      rcases hz with z | z
      · have h9 := bI_0 hc5
        rw [z] at h9
        cases h9
      · exact z
    refine kw_aload_n X dc_R_begin_8 rfl rfl ?_
    refine kw_get X (wc_R _) 0 rfl rfl 1 (by decide) (gq wd_598) (fun _ h => h) rfl dc_R_begin_9 ?_
    refine kw_if_ne (tgt := 19) X dc_R_begin_12 (by decide) (fun hc12 => ?_) (fun hc12 => ?_)
    · exact absurd (congrArg nI hn0) hc12
    · refine kw_iconst (v := (nI 1)) X dc_R_begin_15 (by decide) ?_
      refine kw_goto (tgt := 20) X dc_R_begin_16 (by decide) ?_
      refine kw_putf (ty := .int) X (wc_R _) fy_R fk_R fn_R 0 rfl rfl 0 (by decide) (gq wd_597) (fun _ h => h) rfl (by decide +kernel) rfl rfl (Nat.le_of_ble_eq_true rfl) dc_R_begin_20 ?_
      refine kw_aload_n X dc_R_begin_23 rfl rfl ?_
      refine kw_get X (wc_R _) 0 rfl rfl 0 (by decide) (gq wd_597) (fun _ h => h) rfl dc_R_begin_24 ?_
      refine kw_if_le (tgt := 31) X dc_R_begin_27 (by decide) (fun hc27 => ?_) (fun hc27 => ?_)
      · exact absurd hc27 (show ¬ nI 1 ≤ 0 by decide)
      · exact kw_vret X hr hlk dc_R_begin_30 ⟨one, two, own, tk, co, tO, t0, t1, sv, mg, nm, gc, go, tx, rfl, zv, zb, zT, ok, ⟨k0, k1⟩, hC, hS, hX⟩
set_option maxRecDepth 100000 in
set_option maxHeartbeats 4000000 in
theorem ct_RbeginT {l : Launch} {D : va_G} {kI kB kC kL : ClassId} (rd : Nat → Nat) (n : Nat) (lo hi : Nat → Nat) (T : List Nat) (t : Nat) (S : Bool) (w0 : va_W) (h : rfP kI rd n lo hi false [] T t S w0) (hz : n ≠ 0) : kw_V l mn_R_begin (gw mn_R_begin cd_R_begin 1 none) ({ frames := 0, cells := 0, slots := 0, locals := 0 } : Room) D cl_v (kt kI kB kC kL) kE [.ref (rd 0)] (w0) (fun w => rfP kI rd n lo hi true [] T 0 false w) 0 0 := by
  obtain ⟨one, two, own, tk, co, tO, t0, t1, sv, mg, nm, gc, go, tx, rfl, zv, zb, zT, ok, ⟨k0, k1⟩, hC, hS, hX⟩ := h
  refine kw_ofV (cc := cd_R_begin) (maxL := 1) (by decide) rfl (Nat.le_of_ble_eq_true rfl) rfl ?_
  intro pp ee s m args below meth c A X hr hlk hE hnm
  have hn := ok.1.1
  refine kw_aload_n X dc_R_begin_0 rfl rfl ?_
  refine kw_aload_n X dc_R_begin_1 rfl rfl ?_
  refine kw_get X (wc_R _) 0 rfl rfl 5 (by decide) (gq wd_602) (fun _ h => h) rfl dc_R_begin_2 ?_
  refine kw_if_ne (tgt := 15) X dc_R_begin_5 (by decide) (fun hc5 => ?_) (fun hc5 => ?_)
  · exact absurd rfl hc5
  · refine kw_aload_n X dc_R_begin_8 rfl rfl ?_
    refine kw_get X (wc_R _) 0 rfl rfl 1 (by decide) (gq wd_598) (fun _ h => h) rfl dc_R_begin_9 ?_
    refine kw_if_ne (tgt := 19) X dc_R_begin_12 (by decide) (fun hc12 => ?_) (fun hc12 => ?_)
    · refine kw_iconst (v := (nI 0)) X dc_R_begin_19 (by decide) ?_
      refine kw_putf (ty := .int) X (wc_R _) fy_R fk_R fn_R 0 rfl rfl 0 (by decide) (gq wd_597) (fun _ h => h) rfl (by decide +kernel) rfl rfl (Nat.le_of_ble_eq_true rfl) dc_R_begin_20 ?_
      refine kw_aload_n X dc_R_begin_23 rfl rfl ?_
      refine kw_get X (wc_R _) 0 rfl rfl 0 (by decide) (gq wd_597) (fun _ h => h) rfl dc_R_begin_24 ?_
      refine kw_if_le (tgt := 31) X dc_R_begin_27 (by decide) (fun hc27 => ?_) (fun hc27 => ?_)
      · refine kw_aload_n X dc_R_begin_31 rfl rfl ?_
        refine kw_iconst (v := (nI 1)) X dc_R_begin_32 (by decide) ?_
        refine kw_putf (ty := .boolean) X (wc_R _) fy_R fk_R fn_R 0 rfl rfl 5 (by decide) (gq wd_602) (fun _ h => h) rfl (by decide +kernel) rfl rfl (Nat.le_of_ble_eq_true rfl) dc_R_begin_33 ?_
        refine kw_aload_n X dc_R_begin_36 rfl rfl ?_
        refine kw_iconst (v := (nI 0)) X dc_R_begin_37 (by decide) ?_
        refine kw_putf (ty := .int) X (wc_R _) fy_R fk_R fn_R 0 rfl rfl 9 (by decide) (gq wd_606) (fun _ h => h) rfl (by decide +kernel) rfl rfl (Nat.le_of_ble_eq_true rfl) dc_R_begin_38 ?_
        refine kw_aload_n X dc_R_begin_41 rfl rfl ?_
        refine kw_iconst (v := (nI 0)) X dc_R_begin_42 (by decide) ?_
        refine kw_putf (ty := .int) X (wc_R _) fy_R fk_R fn_R 0 rfl rfl 7 (by decide) (gq wd_604) (fun _ h => h) rfl (by decide +kernel) rfl rfl (Nat.le_of_ble_eq_true rfl) dc_R_begin_43 ?_
        refine kw_aload_n X dc_R_begin_46 rfl rfl ?_
        refine kw_iconst (v := (nI 0)) X dc_R_begin_47 (by decide) ?_
        refine kw_putf (ty := .boolean) X (wc_R _) fy_R fk_R fn_R 0 rfl rfl 14 (by decide) (gq wd_611) (fun _ h => h) rfl (by decide +kernel) rfl rfl (Nat.le_of_ble_eq_true rfl) dc_R_begin_48 ?_
        exact kw_vret X hr hlk dc_R_begin_51 ⟨one, two, own, tk, co, tO, t0, t1, false, mg, nm, gc, go, tx, rfl, zv, fun z => (by cases z), zT, ok, ⟨k0, k1⟩, hC, fun _ => Or.inr ⟨rfl, rfl⟩, hX⟩
      · exact absurd (show nI 0 ≤ 0 by decide) hc27
    · exact absurd (kq_eq (b := 0) hc12) hz
set_option maxRecDepth 100000 in
set_option maxHeartbeats 4000000 in
theorem ct_Rclear {l : Launch} {D : va_G} {kI kB kC kL : ClassId} (rd : Nat → Nat) (n : Nat) (lo hi : Nat → Nat) (bg : Bool) (cs T : List Nat) (t : Nat) (S : Bool) (w0 : va_W) (h : rfP kI rd n lo hi bg cs T t S w0)  : kw_V l mn_R_clear (gw mn_R_clear cd_R_clear 2 none) ({ frames := 0, cells := 0, slots := 0, locals := 0 } : Room) D cl_v (kt kI kB kC kL) kE [.ref (rd 0)] (w0) (fun w => rfP kI rd 0 lo hi false [] T 0 S w) 0 0 := by
  obtain ⟨one, two, own, tk, co, tO, t0, t1, sv, mg, nm, gc, go, tx, rfl, zv, zb, zT, ok, ⟨k0, k1⟩, hC, hS, hX⟩ := h
  refine kw_ofV (cc := cd_R_clear) (maxL := 2) (by decide) rfl (Nat.le_of_ble_eq_true rfl) rfl ?_
  intro pp ee s m args below meth c A X hr hlk hE hnm
  refine kw_aload_n X dc_R_clear_0 rfl rfl ?_
  refine kw_iconst (v := (nI 0)) X dc_R_clear_1 (by decide) ?_
  refine kw_putf (ty := .int) X (wc_R _) fy_R fk_R fn_R 0 rfl rfl 0 (by decide) (gq wd_597) (fun _ h => h) rfl (by decide +kernel) rfl rfl (Nat.le_of_ble_eq_true rfl) dc_R_clear_2 ?_
  refine kw_aload_n X dc_R_clear_5 rfl rfl ?_
  refine kw_iconst (v := (nI 0)) X dc_R_clear_6 (by decide) ?_
  refine kw_putf (ty := .int) X (wc_R _) fy_R fk_R fn_R 0 rfl rfl 1 (by decide) (gq wd_598) (fun _ h => h) rfl (by decide +kernel) rfl rfl (Nat.le_of_ble_eq_true rfl) dc_R_clear_7 ?_
  refine kw_iconst (v := (nI 0)) X dc_R_clear_10 (by decide) ?_
  refine kw_istore_n X dc_R_clear_11 rfl (by decide) ?_
  refine kw_loop (α := Nat) (fun k => k ≤ 8) (fun k => 8 - k) (fun k => wRF kI rd 0 0 one two (kq_pre (fun _ => (0 : Int32)) own k) bg (gm_run lo hi n cs).1 (gm_run lo hi n cs).2.1 tk cs.length co tO t0 t1 sv mg nm gc go tx T.length) (fun k => [some (.ref (rd 0)), some (.int (nI k))]) (fun _ => []) 0 (Nat.zero_le _) (fun k hk ih => ?_)
  refine kw_iload_n X dc_R_clear_12 rfl rfl ?_
  refine kw_bipush (v := (nI 8)) X dc_R_clear_13 (by decide) ?_
  refine kw_icmp_ge (tgt := 31) X dc_R_clear_15 (by decide) (fun hc15 => ?_) (fun hc15 => ?_)
  · have hkE : k = 8 := Nat.le_antisymm hk (kq_le hc15)
    subst hkE
    refine kw_aload_n X dc_R_clear_31 rfl rfl ?_
    refine kw_iconst (v := (nI 0)) X dc_R_clear_32 (by decide) ?_
    refine kw_putf (ty := .boolean) X (wc_R _) fy_R fk_R fn_R 0 rfl rfl 5 (by decide) (gq wd_602) (fun _ h => h) rfl (by decide +kernel) rfl rfl (Nat.le_of_ble_eq_true rfl) dc_R_clear_33 ?_
    refine kw_aload_n X dc_R_clear_36 rfl rfl ?_
    refine kw_iconst (v := (nI 0)) X dc_R_clear_37 (by decide) ?_
    refine kw_putf (ty := .int) X (wc_R _) fy_R fk_R fn_R 0 rfl rfl 6 (by decide) (gq wd_603) (fun _ h => h) rfl (by decide +kernel) rfl rfl (Nat.le_of_ble_eq_true rfl) dc_R_clear_38 ?_
    refine kw_aload_n X dc_R_clear_41 rfl rfl ?_
    refine kw_iconst (v := (nI 0)) X dc_R_clear_42 (by decide) ?_
    refine kw_putf (ty := .int) X (wc_R _) fy_R fk_R fn_R 0 rfl rfl 9 (by decide) (gq wd_606) (fun _ h => h) rfl (by decide +kernel) rfl rfl (Nat.le_of_ble_eq_true rfl) dc_R_clear_43 ?_
    refine kw_aload_n X dc_R_clear_46 rfl rfl ?_
    refine kw_iconst (v := (nI 0)) X dc_R_clear_47 (by decide) ?_
    refine kw_putf (ty := .int) X (wc_R _) fy_R fk_R fn_R 0 rfl rfl 7 (by decide) (gq wd_604) (fun _ h => h) rfl (by decide +kernel) rfl rfl (Nat.le_of_ble_eq_true rfl) dc_R_clear_48 ?_
    refine kw_aload_n X dc_R_clear_51 rfl rfl ?_
    refine kw_get X (wc_R _) 0 rfl rfl 8 (by decide) (gq wd_605) (fun _ h => h) rfl dc_R_clear_52 ?_
    refine kw_iconst (v := (nI 0)) X dc_R_clear_55 (by decide) ?_
    refine kw_iconst (v := (nI 0)) X dc_R_clear_56 (by decide) ?_
    refine kw_iast X 4 0 rfl rfl (kq_in (k := 0) (by decide) (by decide)) dc_R_clear_57 ?_
    refine kw_aload_n X dc_R_clear_58 rfl rfl ?_
    refine kw_get X (wc_R _) 0 rfl rfl 8 (by decide) (gq wd_605) (fun _ h => h) rfl dc_R_clear_59 ?_
    refine kw_iconst (v := (nI 1)) X dc_R_clear_62 (by decide) ?_
    refine kw_iconst (v := (nI 0)) X dc_R_clear_63 (by decide) ?_
    refine kw_iast X 4 0 rfl rfl (kq_in (k := 1) (by decide) (by decide)) dc_R_clear_64 ?_
    refine kw_aload_n X dc_R_clear_65 rfl rfl ?_
    refine kw_iconst (v := (nI 0)) X dc_R_clear_66 (by decide) ?_
    refine kw_putf (ty := .boolean) X (wc_R _) fy_R fk_R fn_R 0 rfl rfl 14 (by decide) (gq wd_611) (fun _ h => h) rfl (by decide +kernel) rfl rfl (Nat.le_of_ble_eq_true rfl) dc_R_clear_67 ?_
    exact kw_vret X hr hlk dc_R_clear_70 ⟨one, two, (kq_pre (fun _ => (0 : Int32)) own 8), (upd (upd tk (nI 0).toNatClampNeg 0) (nI 1).toNatClampNeg 0), co, tO, t0, t1, false, mg, nm, gc, go, tx, rfl, trivial, fun _ => rfl, zT, ⟨⟨by omega, fun i hi => absurd hi (Nat.not_lt_zero _)⟩, fun i hi => absurd hi (Nat.not_lt_zero _), fun c hc => kq_pre_lt hc⟩, ⟨by rw [kq_cl (k := 0) (by decide), kq_cl (k := 1) (by decide), pk_un (by decide), pk_us]; rfl, by rw [kq_cl (k := 1) (by decide), pk_us]; rfl⟩, trivial, fun z => (by cases z), hX⟩
  · have hk8 : k < 8 := kq_nle hc15
    refine kw_aload_n X dc_R_clear_18 rfl rfl ?_
    refine kw_get X (wc_R _) 0 rfl rfl 4 (by decide) (gq wd_601) (fun _ h => h) rfl dc_R_clear_19 ?_
    refine kw_iload_n X dc_R_clear_22 rfl rfl ?_
    refine kw_iconst (v := (nI 0)) X dc_R_clear_23 (by decide) ?_
    refine kw_iast X 3 0 rfl rfl (kq_in hk8 (by omega)) dc_R_clear_24 ?_
    refine kw_iinc (v := nI (k + 1)) X dc_R_clear_25 rfl (kq_inc k) (by decide) ?_
    refine kw_goto (tgt := 12) X dc_R_clear_28 (by decide) ?_
    refine kw_cv (ws' := wRF kI rd 0 0 one two (kq_pre (fun _ => (0 : Int32)) own (k + 1)) bg (gm_run lo hi n cs).1 (gm_run lo hi n cs).2.1 tk cs.length co tO t0 t1 sv mg nm gc go tx T.length) (by
      show wRF kI rd 0 0 one two (upd (kq_pre (fun _ => (0 : Int32)) own k) (nI k).toNatClampNeg 0) bg (gm_run lo hi n cs).1 (gm_run lo hi n cs).2.1 tk cs.length co tO t0 t1 sv mg nm gc go tx T.length = _
      rw [kq_cl (by omega), kq_pre_upd rfl]) rfl rfl ?_
    exact ih (k + 1) (by omega) (by omega)
