/-! nim values, over the class's table -/
theorem gm_stA {lo hi : Nat → Nat} {n : Nat} {f : Nat → Int} {p k : Nat} (h : ¬ p.testBit k = true) : gm_st lo hi n f p (k + 1) = gm_st lo hi n f p k := if_neg h
theorem gm_stB {lo hi : Nat → Nat} {n : Nat} {f : Nat → Int} {p k : Nat} (h : p.testBit k = true) (hv : f (bq_wo p k) = -1) : gm_st lo hi n f p (k + 1) = ((gm_st lo hi n f p k).1, (gm_st lo hi n f p k).2.1, (gm_st lo hi n f p k).2.2 || decide (0 < gm_tk lo hi n p k)) := by
  rw [gm_st, if_pos h, if_pos hv]
theorem gm_stC {lo hi : Nat → Nat} {n : Nat} {f : Nat → Int} {p k : Nat} (h : p.testBit k = true) (hv : ¬ f (bq_wo p k) = -1) (ht : decide (0 < gm_tk lo hi n p k) = true) : gm_st lo hi n f p (k + 1) = ((gm_st lo hi n f p k).1, (gm_st lo hi n f p k).2.1 ||| 2 ^ (f (bq_wo p k)).toNat, (gm_st lo hi n f p k).2.2) := by
  rw [gm_st, if_pos h, if_neg hv, if_pos (of_decide_eq_true ht)]
theorem gm_stD {lo hi : Nat → Nat} {n : Nat} {f : Nat → Int} {p k : Nat} (h : p.testBit k = true) (hv : ¬ f (bq_wo p k) = -1) (ht : decide (0 < gm_tk lo hi n p k) = false) : gm_st lo hi n f p (k + 1) = ((gm_st lo hi n f p k).1 ||| 2 ^ (f (bq_wo p k)).toNat, (gm_st lo hi n f p k).2.1, (gm_st lo hi n f p k).2.2) := by
  rw [gm_st, if_pos h, if_neg hv, if_neg (of_decide_eq_false ht)]
def gm_mad (lo hi : Nat → Nat) (n p : Nat) : Nat := gm_ms (fun i => p.testBit i && (decide (gm_tk lo hi n p i = 0) && decide (gm_nm lo hi n (bq_wo p i) = -1))) n
theorem kq_pc1 {t : Nat} (h0 : t ≠ 0) (h : ¬ 1 < gm_pc t) (ht : t < 4096) : gm_pc t = 1 := by
  obtain ⟨i, hi, hb⟩ := gm_bit_of h0 (show t < 2 ^ 12 from ht)
  have := gm_pc_pos hi hb
  omega
theorem kq_m1 {z : Int} (h1 : -1 ≤ z) (h2 : z ≤ 12) : iZ z = -1 ↔ z = -1 := by
  rw [← iZ_m1]
  exact iZ_inj (by omega) (by omega) (by omega) (by omega)
set_option maxRecDepth 100000 in
set_option maxHeartbeats 4000000 in
theorem ct_workN {l : Launch} {D : va_G} {kI kB kC kL : ClassId} (v0 v1 w0 w1 w2 w3 n : Nat) (rd : Int32) (f les oth soc : Nat → Int32) (lo hi : Nat → Nat) (ok : webOk lo hi n les oth soc) (p : Nat) (hp : p < 2 ^ n) (hf : ∀ q, q < p → f q = iZ (gm_nm lo hi n q)) : kw_I l mn_N_workOut (gw mn_N_workOut cd_N_workOut 8 (some .int)) ({ frames := 2, cells := 0, slots := 0, locals := 46 } : Room) D cl_v (kt kI kB kC kL) kE [.ref v0, .int (nI p)] (wVal 3 kI kB v0 v1 w0 w1 w2 w3 n rd f les oth soc) (fun r w => w = wVal 3 kI kB v0 v1 w0 w1 w2 w3 n rd f les oth soc ∧ r = iZ (gm_nm lo hi n p)) 0 0 := by
  refine kw_ofI (cc := cd_N_workOut) (maxL := 8) (ty := .int) (by decide) rfl (Nat.le_of_ble_eq_true rfl) rfl ?_
  intro pp ee s m args below meth c A X hr hlk hE hnm
  have hn := ok.1.1
  have hp4 := kq_2n hn hp
  refine kw_iconst (v := (nI 0)) X dc_N_workOut_0 (by decide) ?_
  refine kw_istore_n X dc_N_workOut_1 rfl (by decide) ?_
  refine kw_iconst (v := (nI 0)) X dc_N_workOut_2 (by decide) ?_
  refine kw_istore_n X dc_N_workOut_3 rfl (by decide) ?_
  refine kw_iconst (v := (nI 0)) X dc_N_workOut_4 (by decide) ?_
  refine kw_istore X dc_N_workOut_5 (by decide) ?_
  refine kw_iconst (v := (nI 0)) X dc_N_workOut_7 (by decide) ?_
  refine kw_istore X dc_N_workOut_8 (by decide) ?_
  refine kw_loop (α := Nat) (fun k => k ≤ n) (fun k => n - k) (fun _ => wVal 3 kI kB v0 v1 w0 w1 w2 w3 n rd f les oth soc) (fun k => [some (.ref v0), some (.int (nI p)), some (.int (nI (gm_st lo hi n (gm_nm lo hi n) p k).1)), some (.int (nI (gm_st lo hi n (gm_nm lo hi n) p k).2.1)), some (.int (bI (gm_st lo hi n (gm_nm lo hi n) p k).2.2)), some (.int (nI k)), none, none]) (fun _ => []) 0 (Nat.zero_le _) (fun k hk ih => ?_)
  refine kw_iload X dc_N_workOut_10 rfl ?_
  refine kw_aload_n X dc_N_workOut_12 rfl rfl ?_
  refine kw_get X (wc_N _) 0 rfl rfl 0 (by decide) (gq wd_59) (fun x9 h9 => u_same (X.1.2.2.2.2 _ (gq wd_60)) x9 h9) rfl dc_N_workOut_13 ?_
  refine kw_callVI X kEw hE 0 rfl rfl (ct_size w0 w1 w2 w3 n les oth soc) (cw_V 0 X wd_486 wd_191 wd_192 wd_2 wd_193 rfl rfl (by decide +kernel) ⟨Nat.le_of_ble_eq_true rfl, Nat.le_of_ble_eq_true rfl⟩) [2, 3, 4, 5] rfl (by decide) (fun _ _ h => by obtain ⟨rfl, _⟩ := h; exact Nat.le_refl _) rfl rfl (Nat.le_of_ble_eq_true rfl) dc_N_workOut_16 ⟨Nat.zero_le _, Nat.zero_le _⟩ (fun r w hp => ?_)
  obtain ⟨rfl, rfl⟩ := hp
  refine kw_icmp_ge (tgt := 121) X dc_N_workOut_19 (by decide) (fun hc19 => ?_) (fun hc19 => ?_)
  · have hkn9 : k = n := Nat.le_antisymm hk (kq_le hc19)
    have eST : gm_st lo hi n (gm_nm lo hi n) p n = gm_st lo hi n (gm_nm lo hi n) p k := by rw [hkn9]
    obtain ⟨q1, q2⟩ := gm_st_12 (lo := lo) (hi := hi) hn hp hk
    refine kw_iload X dc_N_workOut_121 rfl ?_
    refine kw_if_eq (tgt := 128) X dc_N_workOut_123 (by decide) (fun hc123 => ?_) (fun hc123 => ?_)
    · have h123 := bI_0 hc123
      have h124 : ¬ (gm_st lo hi n (gm_nm lo hi n) p k).2.2 = true := by rw [h123]; decide
      refine kw_iload_n X dc_N_workOut_128 rfl rfl ?_
      refine kw_if_ne (tgt := 139) X dc_N_workOut_129 (by decide) (fun hc129 => ?_) (fun hc129 => ?_)
      · have h129 := kq_ne (b := 0) hc129
        refine kw_iload_n X dc_N_workOut_139 rfl rfl ?_
        refine kw_callSI X kEw hE (ct_bitCount (gm_st lo hi n (gm_nm lo hi n) p k).2.1 q2) (cw_S 1 X wd_493 wd_185 wd_18 wd_186 rfl rfl (by decide +kernel) ⟨Nat.le_of_ble_eq_true rfl, Nat.le_of_ble_eq_true rfl⟩) [] rfl (by decide) (fun _ _ _ => Nat.zero_le _) rfl rfl (Nat.le_of_ble_eq_true rfl) dc_N_workOut_140 ⟨Nat.zero_le _, Nat.zero_le _⟩ (fun r w hp => ?_)
        obtain ⟨rfl, rfl⟩ := hp
        refine kw_iconst (v := (nI 1)) X dc_N_workOut_143 (by decide) ?_
        refine kw_icmp_gt (tgt := 153) X dc_N_workOut_144 (by decide) (fun hc144 => ?_) (fun hc144 => ?_)
        · have h144 := kq_lt hc144 (by omega) (by have := gm_pc_le (gm_st lo hi n (gm_nm lo hi n) p k).2.1; omega)
          refine kw_iconst (v := (-1)) X dc_N_workOut_153 (by decide) ?_
          refine kw_goto (tgt := 161) X dc_N_workOut_154 (by decide) ?_
          exact kw_iret X hr hlk dc_N_workOut_161 ⟨rfl, by rw [gm_nm_eq]; unfold gm_NF; rw [eST]; unfold gm_out; first | (rw [if_neg h124, if_neg h129, if_neg (fun z => z.elim (fun z => absurd z (Nat.not_lt.mpr h144)) (fun z => z h150))]; exact (iZ_nat _).symm) | (rw [if_neg h124, if_neg h129, if_pos (Or.inr h150)]; rfl) | (rw [if_neg h124, if_neg h129, if_pos (Or.inl h144)]; rfl)⟩
        · have h144 := kq_nlt hc144 (by omega) (by have := gm_pc_le (gm_st lo hi n (gm_nm lo hi n) p k).2.1; omega)
          refine kw_iload_n X dc_N_workOut_147 rfl rfl ?_
          refine kw_iload_n X dc_N_workOut_148 rfl rfl ?_
          refine kw_iand (v := nI ((gm_st lo hi n (gm_nm lo hi n) p k).2.1 &&& (gm_st lo hi n (gm_nm lo hi n) p k).1)) X dc_N_workOut_149 (nx_and _ _) ?_
          refine kw_if_eq (tgt := 157) X dc_N_workOut_150 (by decide) (fun hc150 => ?_) (fun hc150 => ?_)
          · have ha9 : (gm_st lo hi n (gm_nm lo hi n) p k).2.1 &&& (gm_st lo hi n (gm_nm lo hi n) p k).1 ≤ (gm_st lo hi n (gm_nm lo hi n) p k).1 := Nat.and_le_right
            have h150 := kq_eq (b := 0) hc150 (by omega)
            refine kw_iload_n X dc_N_workOut_157 rfl rfl ?_
            refine kw_callSNI X kEw hE (ct_least (nI (gm_st lo hi n (gm_nm lo hi n) p k).2.1) (fun i => (gm_st lo hi n (gm_nm lo hi n) p k).2.1.testBit i) (fun i hi => kq_has (by omega) (by omega))) (cw_SN (host := "CoinStrings") 1 X (hE _ (by decide +kernel)) wd_491 wd_1 wd_492 rfl rfl (by decide +kernel) ⟨Nat.le_of_ble_eq_true rfl, Nat.le_of_ble_eq_true rfl⟩) [] rfl (by decide) (fun _ _ _ => Nat.zero_le _) rfl rfl (Nat.le_of_ble_eq_true rfl) dc_N_workOut_158 ⟨Nat.zero_le _, Nat.zero_le _⟩ (fun r w hp => ?_)
            obtain ⟨rfl, rfl⟩ := hp
            exact kw_iret X hr hlk dc_N_workOut_161 ⟨rfl, by rw [gm_nm_eq]; unfold gm_NF; rw [eST]; unfold gm_out; first | (rw [if_neg h124, if_neg h129, if_neg (fun z => z.elim (fun z => absurd z (Nat.not_lt.mpr h144)) (fun z => z h150))]; exact (iZ_nat _).symm) | (rw [if_neg h124, if_neg h129, if_pos (Or.inr h150)]; rfl) | (rw [if_neg h124, if_neg h129, if_pos (Or.inl h144)]; rfl)⟩
          · have ha9 : (gm_st lo hi n (gm_nm lo hi n) p k).2.1 &&& (gm_st lo hi n (gm_nm lo hi n) p k).1 ≤ (gm_st lo hi n (gm_nm lo hi n) p k).1 := Nat.and_le_right
            have h150 := kq_ne (b := 0) hc150 (by omega)
            refine kw_iconst (v := (-1)) X dc_N_workOut_153 (by decide) ?_
            refine kw_goto (tgt := 161) X dc_N_workOut_154 (by decide) ?_
            exact kw_iret X hr hlk dc_N_workOut_161 ⟨rfl, by rw [gm_nm_eq]; unfold gm_NF; rw [eST]; unfold gm_out; first | (rw [if_neg h124, if_neg h129, if_neg (fun z => z.elim (fun z => absurd z (Nat.not_lt.mpr h144)) (fun z => z h150))]; exact (iZ_nat _).symm) | (rw [if_neg h124, if_neg h129, if_pos (Or.inr h150)]; rfl) | (rw [if_neg h124, if_neg h129, if_pos (Or.inl h144)]; rfl)⟩
      · have h129 := kq_eq (b := 0) hc129
        refine kw_iload_n X dc_N_workOut_132 rfl rfl ?_
        refine kw_iconst (v := (-1)) X dc_N_workOut_133 (by decide) ?_
        refine kw_ixor X dc_N_workOut_134 rfl ?_
        refine kw_callSNI X kEw hE (ct_least (nI (gm_st lo hi n (gm_nm lo hi n) p k).1 ^^^ (-1)) (fun i => !(gm_st lo hi n (gm_nm lo hi n) p k).1.testBit i) (fun i hi => kq_notbit (by omega))) (cw_SN (host := "CoinStrings") 1 X (hE _ (by decide +kernel)) wd_491 wd_1 wd_492 rfl rfl (by decide +kernel) ⟨Nat.le_of_ble_eq_true rfl, Nat.le_of_ble_eq_true rfl⟩) [] rfl (by decide) (fun _ _ _ => Nat.zero_le _) rfl rfl (Nat.le_of_ble_eq_true rfl) dc_N_workOut_135 ⟨Nat.zero_le _, Nat.zero_le _⟩ (fun r w hp => ?_)
        obtain ⟨rfl, rfl⟩ := hp
        exact kw_iret X hr hlk dc_N_workOut_138 ⟨rfl, by rw [gm_nm_eq]; unfold gm_NF; rw [eST]; unfold gm_out; rw [if_neg h124, if_pos h129]; exact (iZ_nat _).symm⟩
    · have h123 := bI_1 hc123
      refine kw_iconst (v := (-1)) X dc_N_workOut_126 (by decide) ?_
      exact kw_iret X hr hlk dc_N_workOut_127 ⟨rfl, by rw [gm_nm_eq]; unfold gm_NF; rw [eST]; unfold gm_out; rw [if_pos h123]; rfl⟩
  · have hkn := kq_nle hc19
    refine kw_iload_n X dc_N_workOut_22 rfl rfl ?_
    refine kw_iload X dc_N_workOut_23 rfl ?_
    refine kw_callSNI X kEw hE (ct_hasN p k (by omega) (by omega)) (cw_SN (host := "CoinStrings") 2 X (hE _ (by decide +kernel)) wd_195 wd_1 wd_196 rfl rfl (by decide +kernel) ⟨Nat.le_of_ble_eq_true rfl, Nat.le_of_ble_eq_true rfl⟩) [] rfl (by decide) (fun _ _ _ => Nat.zero_le _) rfl rfl (Nat.le_of_ble_eq_true rfl) dc_N_workOut_25 ⟨Nat.zero_le _, Nat.zero_le _⟩ (fun r w hp => ?_)
    obtain ⟨rfl, rfl⟩ := hp
    refine kw_if_ne (tgt := 34) X dc_N_workOut_28 (by decide) (fun hc28 => ?_) (fun hc28 => ?_)
    · have h28 := kq_z1 hc28
      have hlt := bq_wo_lt h28
      obtain ⟨b1, b2⟩ := gm_nm_11 (lo := lo) (hi := hi) hn hp hkn h28
      refine kw_aload_n X dc_N_workOut_34 rfl rfl ?_
      refine kw_get X (wc_N _) 0 rfl rfl 1 (by decide) (gq wd_62) (fun x9 h9 => u_same (X.1.2.2.2.2 _ (gq wd_63)) x9 h9) rfl dc_N_workOut_35 ?_
      refine kw_iload_n X dc_N_workOut_38 rfl rfl ?_
      refine kw_iload X dc_N_workOut_39 rfl ?_
      refine kw_callSNI X kEw hE (ct_without p k (by omega)) (cw_SN (host := "CoinStrings") 2 X (hE _ (by decide +kernel)) wd_441 wd_1 wd_442 rfl rfl (by decide +kernel) ⟨Nat.le_of_ble_eq_true rfl, Nat.le_of_ble_eq_true rfl⟩) [] rfl (by decide) (fun _ _ _ => Nat.zero_le _) rfl rfl (Nat.le_of_ble_eq_true rfl) dc_N_workOut_41 ⟨Nat.zero_le _, Nat.zero_le _⟩ (fun r w hp => ?_)
      obtain ⟨rfl, rfl⟩ := hp
      refine kw_bald (v := iZ (gm_nm lo hi n (bq_wo p k))) X 1 1 rfl rfl (kq_in (by omega) (by omega)) (by rw [kq_cl (by omega)]; exact hf _ hlt) dc_N_workOut_44 ?_
      refine kw_istore X dc_N_workOut_45 (by decide) ?_
      refine kw_aload_n X dc_N_workOut_47 rfl rfl ?_
      refine kw_get X (wc_N _) 0 rfl rfl 0 (by decide) (gq wd_59) (fun x9 h9 => u_same (X.1.2.2.2.2 _ (gq wd_60)) x9 h9) rfl dc_N_workOut_48 ?_
      refine kw_iload_n X dc_N_workOut_51 rfl rfl ?_
      refine kw_iload X dc_N_workOut_52 rfl ?_
      refine kw_callVI X kEw hE 0 rfl rfl (ct_freed w0 w1 w2 w3 n les oth soc p k lo hi ok hkn) (cw_V 2 X wd_489 wd_433 wd_434 wd_2 wd_435 rfl rfl (by decide +kernel) ⟨Nat.le_of_ble_eq_true rfl, Nat.le_of_ble_eq_true rfl⟩) [2, 3, 4, 5] rfl (by decide) (fun _ _ h => by obtain ⟨rfl, _⟩ := h; exact Nat.le_refl _) rfl rfl (Nat.le_of_ble_eq_true rfl) dc_N_workOut_54 ⟨Nat.zero_le _, Nat.zero_le _⟩ (fun r w hp => ?_)
      obtain ⟨rfl, rfl⟩ := hp
      refine kw_if_le2 (tgt := 64) X dc_N_workOut_57 (by decide) (kw_matP (i9 := inferInstance) (E := 65) (a := (nI 1)) (b := (nI 0)) X dc_N_workOut_60 (by decide) dc_N_workOut_61 (by decide) dc_N_workOut_64 (by decide) rfl ?_)
      refine kw_top (y := bI (decide (0 < gm_tk lo hi n p k))) (bI_le (by have := gm_tk_2 lo hi n p k; omega)) ?_
      refine kw_istore X dc_N_workOut_65 (by decide) ?_
      refine kw_iload X dc_N_workOut_67 rfl ?_
      refine kw_iconst (v := (-1)) X dc_N_workOut_69 (by decide) ?_
      refine kw_icmp_ne (tgt := 93) X dc_N_workOut_70 (by decide) (fun hc70 => ?_) (fun hc70 => ?_)
      · have h70 : ¬ gm_nm lo hi n (bq_wo p k) = -1 := fun z => hc70 ((kq_m1 b1 (by omega)).mpr z)
        have h71 : 0 ≤ gm_nm lo hi n (bq_wo p k) := by omega
        refine kw_iload X dc_N_workOut_93 rfl ?_
        refine kw_if_eq (tgt := 108) X dc_N_workOut_95 (by decide) (fun hc95 => ?_) (fun hc95 => ?_)
        · have h95 := bI_0 hc95
          refine kw_iload_n X dc_N_workOut_108 rfl rfl ?_
          refine kw_iconst (v := (nI 1)) X dc_N_workOut_109 (by decide) ?_
          refine kw_iload X dc_N_workOut_110 rfl ?_
          refine kw_ishl (v := nI (2 ^ (gm_nm lo hi n (bq_wo p k)).toNat)) X dc_N_workOut_112 (by rw [iZ_pos h71]; exact bq_shl (by omega)) ?_
          refine kw_ior (v := nI ((gm_st lo hi n (gm_nm lo hi n) p k).1 ||| 2 ^ (gm_nm lo hi n (bq_wo p k)).toNat)) X dc_N_workOut_113 (bq_or _ _) ?_
          refine kw_istore_n X dc_N_workOut_114 rfl (by decide) ?_
          refine kw_iinc (v := nI (k + 1)) X dc_N_workOut_115 rfl (kq_inc k) (by decide) ?_
          refine kw_goto (tgt := 10) X dc_N_workOut_118 (by decide) ?_
          refine kw_kill 6 ?_
          refine kw_kill 7 ?_
          refine kw_cv (lv' := [some (.ref v0), some (.int (nI p)), some (.int (nI (gm_st lo hi n (gm_nm lo hi n) p (k + 1)).1)), some (.int (nI (gm_st lo hi n (gm_nm lo hi n) p (k + 1)).2.1)), some (.int (bI (gm_st lo hi n (gm_nm lo hi n) p (k + 1)).2.2)), some (.int (nI (k + 1))), none, none]) rfl (by first | (rw [gm_stB h28 h70]; rfl) | (rw [gm_stC h28 h70 h95]; rfl) | (rw [gm_stD h28 h70 h95]; rfl) | (rw [gm_stA h28]; rfl)) rfl ?_
          exact ih (k + 1) (by omega) (by omega)
        · have h95 := bI_1 hc95
          refine kw_iload_n X dc_N_workOut_98 rfl rfl ?_
          refine kw_iconst (v := (nI 1)) X dc_N_workOut_99 (by decide) ?_
          refine kw_iload X dc_N_workOut_100 rfl ?_
          refine kw_ishl (v := nI (2 ^ (gm_nm lo hi n (bq_wo p k)).toNat)) X dc_N_workOut_102 (by rw [iZ_pos h71]; exact bq_shl (by omega)) ?_
          refine kw_ior (v := nI ((gm_st lo hi n (gm_nm lo hi n) p k).2.1 ||| 2 ^ (gm_nm lo hi n (bq_wo p k)).toNat)) X dc_N_workOut_103 (bq_or _ _) ?_
          refine kw_istore_n X dc_N_workOut_104 rfl (by decide) ?_
          refine kw_goto (tgt := 115) X dc_N_workOut_105 (by decide) ?_
          refine kw_iinc (v := nI (k + 1)) X dc_N_workOut_115 rfl (kq_inc k) (by decide) ?_
          refine kw_goto (tgt := 10) X dc_N_workOut_118 (by decide) ?_
          refine kw_kill 6 ?_
          refine kw_kill 7 ?_
          refine kw_cv (lv' := [some (.ref v0), some (.int (nI p)), some (.int (nI (gm_st lo hi n (gm_nm lo hi n) p (k + 1)).1)), some (.int (nI (gm_st lo hi n (gm_nm lo hi n) p (k + 1)).2.1)), some (.int (bI (gm_st lo hi n (gm_nm lo hi n) p (k + 1)).2.2)), some (.int (nI (k + 1))), none, none]) rfl (by first | (rw [gm_stB h28 h70]; rfl) | (rw [gm_stC h28 h70 h95]; rfl) | (rw [gm_stD h28 h70 h95]; rfl) | (rw [gm_stA h28]; rfl)) rfl ?_
          exact ih (k + 1) (by omega) (by omega)
      · have h70 := (kq_m1 b1 (by omega)).mp hc70
        refine kw_iload X dc_N_workOut_73 rfl ?_
        refine kw_if_ne (tgt := 83) X dc_N_workOut_75 (by decide) (fun hc75 => ?_) (fun hc75 => ?_)
        · have h75 := bI_1 hc75
          refine kw_iconst (v := (nI 1)) X dc_N_workOut_83 (by decide) ?_
          refine kw_goto (tgt := 88) X dc_N_workOut_84 (by decide) ?_
          refine kw_top (y := bI ((gm_st lo hi n (gm_nm lo hi n) p k).2.2 || decide (0 < gm_tk lo hi n p k))) (by first | exact bI_or1 h75 | exact bI_or2 h80 | exact bI_or0 h75 h80) ?_
          refine kw_istore X dc_N_workOut_88 (by decide) ?_
          refine kw_goto (tgt := 115) X dc_N_workOut_90 (by decide) ?_
          refine kw_iinc (v := nI (k + 1)) X dc_N_workOut_115 rfl (kq_inc k) (by decide) ?_
          refine kw_goto (tgt := 10) X dc_N_workOut_118 (by decide) ?_
          refine kw_kill 6 ?_
          refine kw_kill 7 ?_
          refine kw_cv (lv' := [some (.ref v0), some (.int (nI p)), some (.int (nI (gm_st lo hi n (gm_nm lo hi n) p (k + 1)).1)), some (.int (nI (gm_st lo hi n (gm_nm lo hi n) p (k + 1)).2.1)), some (.int (bI (gm_st lo hi n (gm_nm lo hi n) p (k + 1)).2.2)), some (.int (nI (k + 1))), none, none]) rfl (by first | (rw [gm_stB h28 h70]; rfl) | (rw [gm_stC h28 h70 h95]; rfl) | (rw [gm_stD h28 h70 h95]; rfl) | (rw [gm_stA h28]; rfl)) rfl ?_
          exact ih (k + 1) (by omega) (by omega)
        · have h75 := bI_0 hc75
          refine kw_iload X dc_N_workOut_78 rfl ?_
          refine kw_if_eq (tgt := 87) X dc_N_workOut_80 (by decide) (fun hc80 => ?_) (fun hc80 => ?_)
          · have h80 := bI_0 hc80
            refine kw_iconst (v := (nI 0)) X dc_N_workOut_87 (by decide) ?_
            refine kw_top (y := bI ((gm_st lo hi n (gm_nm lo hi n) p k).2.2 || decide (0 < gm_tk lo hi n p k))) (by first | exact bI_or1 h75 | exact bI_or2 h80 | exact bI_or0 h75 h80) ?_
            refine kw_istore X dc_N_workOut_88 (by decide) ?_
            refine kw_goto (tgt := 115) X dc_N_workOut_90 (by decide) ?_
            refine kw_iinc (v := nI (k + 1)) X dc_N_workOut_115 rfl (kq_inc k) (by decide) ?_
            refine kw_goto (tgt := 10) X dc_N_workOut_118 (by decide) ?_
            refine kw_kill 6 ?_
            refine kw_kill 7 ?_
            refine kw_cv (lv' := [some (.ref v0), some (.int (nI p)), some (.int (nI (gm_st lo hi n (gm_nm lo hi n) p (k + 1)).1)), some (.int (nI (gm_st lo hi n (gm_nm lo hi n) p (k + 1)).2.1)), some (.int (bI (gm_st lo hi n (gm_nm lo hi n) p (k + 1)).2.2)), some (.int (nI (k + 1))), none, none]) rfl (by first | (rw [gm_stB h28 h70]; rfl) | (rw [gm_stC h28 h70 h95]; rfl) | (rw [gm_stD h28 h70 h95]; rfl) | (rw [gm_stA h28]; rfl)) rfl ?_
            exact ih (k + 1) (by omega) (by omega)
          · have h80 := bI_1 hc80
            refine kw_iconst (v := (nI 1)) X dc_N_workOut_83 (by decide) ?_
            refine kw_goto (tgt := 88) X dc_N_workOut_84 (by decide) ?_
            refine kw_top (y := bI ((gm_st lo hi n (gm_nm lo hi n) p k).2.2 || decide (0 < gm_tk lo hi n p k))) (by first | exact bI_or1 h75 | exact bI_or2 h80 | exact bI_or0 h75 h80) ?_
            refine kw_istore X dc_N_workOut_88 (by decide) ?_
            refine kw_goto (tgt := 115) X dc_N_workOut_90 (by decide) ?_
            refine kw_iinc (v := nI (k + 1)) X dc_N_workOut_115 rfl (kq_inc k) (by decide) ?_
            refine kw_goto (tgt := 10) X dc_N_workOut_118 (by decide) ?_
            refine kw_kill 6 ?_
            refine kw_kill 7 ?_
            refine kw_cv (lv' := [some (.ref v0), some (.int (nI p)), some (.int (nI (gm_st lo hi n (gm_nm lo hi n) p (k + 1)).1)), some (.int (nI (gm_st lo hi n (gm_nm lo hi n) p (k + 1)).2.1)), some (.int (bI (gm_st lo hi n (gm_nm lo hi n) p (k + 1)).2.2)), some (.int (nI (k + 1))), none, none]) rfl (by first | (rw [gm_stB h28 h70]; rfl) | (rw [gm_stC h28 h70 h95]; rfl) | (rw [gm_stD h28 h70 h95]; rfl) | (rw [gm_stA h28]; rfl)) rfl ?_
            exact ih (k + 1) (by omega) (by omega)
    · have h28 := kq_z0 hc28
      refine kw_goto (tgt := 115) X dc_N_workOut_31 (by decide) ?_
      refine kw_iinc (v := nI (k + 1)) X dc_N_workOut_115 rfl (kq_inc k) (by decide) ?_
      refine kw_goto (tgt := 10) X dc_N_workOut_118 (by decide) ?_
      refine kw_kill 6 ?_
      refine kw_kill 7 ?_
      refine kw_cv (lv' := [some (.ref v0), some (.int (nI p)), some (.int (nI (gm_st lo hi n (gm_nm lo hi n) p (k + 1)).1)), some (.int (nI (gm_st lo hi n (gm_nm lo hi n) p (k + 1)).2.1)), some (.int (bI (gm_st lo hi n (gm_nm lo hi n) p (k + 1)).2.2)), some (.int (nI (k + 1))), none, none]) rfl (by first | (rw [gm_stB h28 h70]; rfl) | (rw [gm_stC h28 h70 h95]; rfl) | (rw [gm_stD h28 h70 h95]; rfl) | (rw [gm_stA h28]; rfl)) rfl ?_
      exact ih (k + 1) (by omega) (by omega)
set_option maxRecDepth 100000 in
set_option maxHeartbeats 4000000 in
theorem ct_markN {l : Launch} {D : va_G} {kI kB kC kL : ClassId} (v0 v1 w0 w1 w2 w3 n : Nat) (rd : Int32) (f les oth soc : Nat → Int32) (lo hi : Nat → Nat) (ok : webOk lo hi n les oth soc) (p i : Nat) (hp : p < 2 ^ n) (hi1 : i < n) (hb : p.testBit i = true) (hf : ∀ q, q < 2 ^ n → f q = iZ (gm_nm lo hi n q)) : kw_I l mn_N_isMarked (gw mn_N_isMarked cd_N_isMarked 3 (some .boolean)) ({ frames := 2, cells := 0, slots := 0, locals := 46 } : Room) D cl_v (kt kI kB kC kL) kE [.ref v0, .int (nI p), .int (nI i)] (wVal 3 kI kB v0 v1 w0 w1 w2 w3 n rd f les oth soc) (fun r w => w = wVal 3 kI kB v0 v1 w0 w1 w2 w3 n rd f les oth soc ∧ r = if gm_tk lo hi n p i = 0 ∧ gm_nm lo hi n (bq_wo p i) = -1 then nI 1 else nI 0) 0 0 := by
  refine kw_ofI (cc := cd_N_isMarked) (maxL := 3) (ty := .boolean) (by decide) rfl (Nat.le_of_ble_eq_true rfl) rfl ?_
  intro pp ee s m args below meth c A X hr hlk hE hnm
  have hn := ok.1.1
  have hp4 := kq_2n hn hp
  have hlt := bq_wo_lt hb
  obtain ⟨b1, b2⟩ := gm_nm_11 (lo := lo) (hi := hi) hn hp hi1 hb
  have ht2 := gm_tk_2 lo hi n p i
  refine kw_aload_n X dc_N_isMarked_0 rfl rfl ?_
  refine kw_get X (wc_N _) 0 rfl rfl 0 (by decide) (gq wd_59) (fun x9 h9 => u_same (X.1.2.2.2.2 _ (gq wd_60)) x9 h9) rfl dc_N_isMarked_1 ?_
  refine kw_iload_n X dc_N_isMarked_4 rfl rfl ?_
  refine kw_iload_n X dc_N_isMarked_5 rfl rfl ?_
  refine kw_callVI X kEw hE 0 rfl rfl (ct_freed w0 w1 w2 w3 n les oth soc p i lo hi ok hi1) (cw_V 2 X wd_489 wd_433 wd_434 wd_2 wd_435 rfl rfl (by decide +kernel) ⟨Nat.le_of_ble_eq_true rfl, Nat.le_of_ble_eq_true rfl⟩) [2, 3, 4, 5] rfl (by decide) (fun _ _ h => by obtain ⟨rfl, _⟩ := h; exact Nat.le_refl _) rfl rfl (Nat.le_of_ble_eq_true rfl) dc_N_isMarked_6 ⟨Nat.zero_le _, Nat.zero_le _⟩ (fun r w hp => ?_)
  obtain ⟨rfl, rfl⟩ := hp
  refine kw_if_ne (tgt := 30) X dc_N_isMarked_9 (by decide) (fun hc9 => ?_) (fun hc9 => ?_)
  · have h9 := kq_ne (b := 0) hc9
    refine kw_iconst (v := (nI 0)) X dc_N_isMarked_30 (by decide) ?_
    exact kw_zret X hr hlk rfl dc_N_isMarked_31 ⟨rfl, by first | exact (if_pos ⟨h9, h23⟩).symm | exact (if_neg (fun z => h23 z.2)).symm | exact (if_neg (fun z => h9 z.1)).symm⟩
  · have h9 := kq_eq (b := 0) hc9
    refine kw_aload_n X dc_N_isMarked_12 rfl rfl ?_
    refine kw_get X (wc_N _) 0 rfl rfl 1 (by decide) (gq wd_62) (fun x9 h9 => u_same (X.1.2.2.2.2 _ (gq wd_63)) x9 h9) rfl dc_N_isMarked_13 ?_
    refine kw_iload_n X dc_N_isMarked_16 rfl rfl ?_
    refine kw_iload_n X dc_N_isMarked_17 rfl rfl ?_
    refine kw_callSNI X kEw hE (ct_without p i (by omega)) (cw_SN (host := "CoinStrings") 2 X (hE _ (by decide +kernel)) wd_441 wd_1 wd_442 rfl rfl (by decide +kernel) ⟨Nat.le_of_ble_eq_true rfl, Nat.le_of_ble_eq_true rfl⟩) [] rfl (by decide) (fun _ _ _ => Nat.zero_le _) rfl rfl (Nat.le_of_ble_eq_true rfl) dc_N_isMarked_18 ⟨Nat.zero_le _, Nat.zero_le _⟩ (fun r w hp => ?_)
    obtain ⟨rfl, rfl⟩ := hp
    refine kw_bald (v := iZ (gm_nm lo hi n (bq_wo p i))) X 1 1 rfl rfl (kq_in (by omega) (by omega)) (by rw [kq_cl (by omega)]; exact hf _ (by omega)) dc_N_isMarked_21 ?_
    refine kw_iconst (v := (-1)) X dc_N_isMarked_22 (by decide) ?_
    refine kw_icmp_ne (tgt := 30) X dc_N_isMarked_23 (by decide) (fun hc23 => ?_) (fun hc23 => ?_)
    · have h23 : ¬ gm_nm lo hi n (bq_wo p i) = -1 := fun z => hc23 ((kq_m1 b1 (by omega)).mpr z)
      refine kw_iconst (v := (nI 0)) X dc_N_isMarked_30 (by decide) ?_
      exact kw_zret X hr hlk rfl dc_N_isMarked_31 ⟨rfl, by first | exact (if_pos ⟨h9, h23⟩).symm | exact (if_neg (fun z => h23 z.2)).symm | exact (if_neg (fun z => h9 z.1)).symm⟩
    · have h23 := (kq_m1 b1 (by omega)).mp hc23
      refine kw_iconst (v := (nI 1)) X dc_N_isMarked_26 (by decide) ?_
      refine kw_goto (tgt := 31) X dc_N_isMarked_27 (by decide) ?_
      exact kw_zret X hr hlk rfl dc_N_isMarked_31 ⟨rfl, by first | exact (if_pos ⟨h9, h23⟩).symm | exact (if_neg (fun z => h23 z.2)).symm | exact (if_neg (fun z => h9 z.1)).symm⟩
set_option maxRecDepth 100000 in
set_option maxHeartbeats 4000000 in
theorem ct_prepN {l : Launch} {D : va_G} {kI kB kC kL : ClassId} (v0 v1 w0 w1 w2 w3 n : Nat) (rd : Int32) (f les oth soc : Nat → Int32) (lo hi : Nat → Nat) (ok : webOk lo hi n les oth soc) (hrd : (rd = nI 1 ∧ ∀ q, q < 2 ^ n → f q = iZ (gm_nm lo hi n q)) ∨ rd = nI 0) : kw_V l mn_V_prepare (gw mn_V_prepare cd_V_prepare 2 none) ({ frames := 3, cells := 0, slots := 0, locals := 73 } : Room) D cl_v (kt kI kB kC kL) kE [.ref v0] (wVal 3 kI kB v0 v1 w0 w1 w2 w3 n rd f les oth soc) (fun w => ∃ f2 : Nat → Int32, w = wVal 3 kI kB v0 v1 w0 w1 w2 w3 n (nI 1) f2 les oth soc ∧ ∀ q, q < 2 ^ n → f2 q = iZ (gm_nm lo hi n q)) 0 0 := by
  refine kw_ofV (cc := cd_V_prepare) (maxL := 2) (by decide) rfl (Nat.le_of_ble_eq_true rfl) rfl ?_
  intro pp ee s m args below meth c A X hr hlk hE hnm
  have hn := ok.1.1
  have h2n : 2 ^ n ≤ 4096 := show 2 ^ n ≤ 2 ^ 12 from Nat.pow_le_pow_right (by decide) hn
  have h2p := Nat.two_pow_pos n
  refine kw_aload_n X dc_V_prepare_0 rfl rfl ?_
  refine kw_get X (wc_N _) 0 rfl rfl 2 (by decide) (gq wd_66) (fun _ h => h) rfl dc_V_prepare_1 ?_
  refine kw_if_eq (tgt := 8) X dc_V_prepare_4 (by decide) (fun hc4 => ?_) (fun hc4 => ?_)
  · refine kw_iconst (v := (nI 0)) X dc_V_prepare_8 (by decide) ?_
    refine kw_istore_n X dc_V_prepare_9 rfl (by decide) ?_
    refine kw_loop (α := Nat) (fun k => k ≤ 2 ^ n) (fun k => 2 ^ n - k) (fun k => wVal 3 kI kB v0 v1 w0 w1 w2 w3 n rd (kq_pre (fun q => iZ (gm_nm lo hi n q)) f k) les oth soc) (fun k => [some (.ref v0), some (.int (nI k))]) (fun _ => []) 0 (Nat.zero_le _) (fun k hk ih => ?_)
    refine kw_iload_n X dc_V_prepare_10 rfl rfl ?_
    refine kw_aload_n X dc_V_prepare_11 rfl rfl ?_
    refine kw_get X (wc_N _) 0 rfl rfl 0 (by decide) (gq wd_56) (fun _ h => h) rfl dc_V_prepare_12 ?_
    refine kw_callVI X kEw hE 0 rfl rfl (ct_every w0 w1 w2 w3 n les oth soc hn) (cw_V 0 X wd_467 wd_350 wd_351 wd_2 wd_352 rfl rfl (by decide +kernel) ⟨Nat.le_of_ble_eq_true rfl, Nat.le_of_ble_eq_true rfl⟩) [2, 3, 4, 5] rfl (by decide) (fun _ _ h => by obtain ⟨rfl, _⟩ := h; exact Nat.le_refl _) rfl rfl (Nat.le_of_ble_eq_true rfl) dc_V_prepare_15 ⟨Nat.zero_le _, Nat.zero_le _⟩ (fun r w hp => ?_)
    obtain ⟨rfl, rfl⟩ := hp
    refine kw_icmp_gt (tgt := 39) X dc_V_prepare_18 (by decide) (fun hc18 => ?_) (fun hc18 => ?_)
    · refine kw_aload_n X dc_V_prepare_39 rfl rfl ?_
      refine kw_iconst (v := (nI 1)) X dc_V_prepare_40 (by decide) ?_
      refine kw_putf (ty := .boolean) X (wc_N _) fy_N fk_N fn_N 0 rfl rfl 2 (by decide) (gq wd_66) (fun _ h => h) rfl (by decide +kernel) rfl rfl (Nat.le_of_ble_eq_true rfl) dc_V_prepare_41 ?_
      exact kw_vret X hr hlk dc_V_prepare_44 ⟨kq_pre (fun q => iZ (gm_nm lo hi n q)) f k, rfl, fun q hq => kq_pre_lt (by have := kq_lt hc18; omega)⟩
    · have hkn : k < 2 ^ n := by have := kq_nlt hc18; omega
      have b8 := gm_nm_12 (lo := lo) (hi := hi) hn hkn
      refine kw_aload_n X dc_V_prepare_21 rfl rfl ?_
      refine kw_get X (wc_N _) 0 rfl rfl 1 (by decide) (gq wd_61) (fun _ h => h) rfl dc_V_prepare_22 ?_
      refine kw_iload_n X dc_V_prepare_25 rfl rfl ?_
      refine kw_aload_n X dc_V_prepare_26 rfl rfl ?_
      refine kw_iload_n X dc_V_prepare_27 rfl rfl ?_
      refine kw_callUI X kEw hE 0 rfl rfl (ct_workN v0 v1 w0 w1 w2 w3 n rd (kq_pre (fun q => iZ (gm_nm lo hi n q)) f k) les oth soc lo hi ok k hkn (fun q hq => kq_pre_lt hq)) (cw_A 1 X wd_468 wd_470 wd_483 wd_484 wd_5 wd_485 rfl rfl (hE _ (by decide +kernel)) (by decide +kernel) ⟨Nat.le_of_ble_eq_true rfl, Nat.le_of_ble_eq_true rfl⟩) [0, 1, 2, 3, 4, 5] rfl (by decide) (fun _ _ h => by obtain ⟨rfl, _⟩ := h; exact Nat.le_refl _) rfl rfl (Nat.le_of_ble_eq_true rfl) dc_V_prepare_28 ⟨Nat.zero_le _, Nat.zero_le _⟩ (fun r w hp => ?_)
      obtain ⟨rfl, rfl⟩ := hp
      refine kw_i2b (v := iZ (gm_nm lo hi n k)) X dc_V_prepare_31 (iZ_byte (by omega) (by omega)) ?_
      refine kw_bast X 1 1 rfl rfl (kq_in (by omega) (by omega)) dc_V_prepare_32 ?_
      refine kw_iinc (v := nI (k + 1)) X dc_V_prepare_33 rfl (kq_inc k) (by decide) ?_
      refine kw_goto (tgt := 10) X dc_V_prepare_36 (by decide) ?_
      refine kw_cv (ws' := wVal 3 kI kB v0 v1 w0 w1 w2 w3 n rd (kq_pre (fun q => iZ (gm_nm lo hi n q)) f (k + 1)) les oth soc) (by
        show wVal 3 kI kB v0 v1 w0 w1 w2 w3 n rd (upd (kq_pre (fun q => iZ (gm_nm lo hi n q)) f k) (nI k).toNatClampNeg (vp_nar .byte (iZ (gm_nm lo hi n k)))) les oth soc = _
        rw [kq_cl (by omega), iZ_nar (by omega) (by omega), kq_pre_upd rfl]) rfl rfl ?_
      exact ih (k + 1) (by omega) (by omega)
  · exact kw_vret X hr hlk dc_V_prepare_7 ⟨f, by rcases hrd with ⟨e, _⟩ | e; (subst e; rfl); (exact absurd e hc4), by rcases hrd with ⟨_, h⟩ | e; (exact h); (exact absurd e hc4)⟩
set_option maxRecDepth 100000 in
set_option maxHeartbeats 4000000 in
theorem ct_ofN {l : Launch} {D : va_G} {kI kB kC kL : ClassId} (v0 v1 w0 w1 w2 w3 n : Nat) (rd : Int32) (f les oth soc : Nat → Int32) (lo hi : Nat → Nat) (ok : webOk lo hi n les oth soc) (hrd : (rd = nI 1 ∧ ∀ q, q < 2 ^ n → f q = iZ (gm_nm lo hi n q)) ∨ rd = nI 0) (p : Nat) (hp : p < 2 ^ n) : kw_I l mn_V_of (gw mn_V_of cd_V_of 2 (some .int)) ({ frames := 4, cells := 0, slots := 0, locals := 94 } : Room) D cl_v (kt kI kB kC kL) kE [.ref v0, .int (nI p)] (wVal 3 kI kB v0 v1 w0 w1 w2 w3 n rd f les oth soc) (fun r w => r = iZ (gm_nm lo hi n p) ∧ ∃ f2 : Nat → Int32, w = wVal 3 kI kB v0 v1 w0 w1 w2 w3 n (nI 1) f2 les oth soc ∧ ∀ q, q < 2 ^ n → f2 q = iZ (gm_nm lo hi n q)) 0 0 := by
  refine kw_ofI (cc := cd_V_of) (maxL := 2) (ty := .int) (by decide) rfl (Nat.le_of_ble_eq_true rfl) rfl ?_
  intro pp ee s m args below meth c A X hr hlk hE hnm
  have hp4 := kq_2n ok.1.1 hp
  refine kw_aload_n X dc_V_of_0 rfl rfl ?_
  refine kw_callVV X kEw hE 0 rfl rfl (ct_prepN v0 v1 w0 w1 w2 w3 n rd f les oth soc lo hi ok hrd) (cw_P 0 X wd_463 wd_465 (hE _ (by decide +kernel)) wd_3 wd_466 rfl rfl (by decide +kernel) ⟨Nat.le_of_ble_eq_true rfl, Nat.le_of_ble_eq_true rfl⟩) [0, 1, 2, 3, 4, 5] rfl (by decide) (fun _ h => by obtain ⟨g, rfl, _⟩ := h; exact Nat.le_refl _) rfl rfl (Nat.le_of_ble_eq_true rfl) dc_V_of_1 ⟨Nat.zero_le _, Nat.zero_le _⟩ (fun w hp => ?_)
  obtain ⟨f2, rfl, hf2⟩ := hp
  refine kw_aload_n X dc_V_of_4 rfl rfl ?_
  refine kw_get X (wc_N _) 0 rfl rfl 1 (by decide) (gq wd_61) (fun _ h => h) rfl dc_V_of_5 ?_
  refine kw_iload_n X dc_V_of_8 rfl rfl ?_
  refine kw_bald (v := iZ (gm_nm lo hi n p)) X 1 1 rfl rfl (kq_in (by omega) (by omega)) (by rw [kq_cl (by omega)]; exact hf2 p hp) dc_V_of_9 ?_
  exact kw_iret X hr hlk dc_V_of_10 ⟨rfl, f2, rfl, hf2⟩
theorem kq_f3 {a : Bool} {Q S : Prop} {i : Decidable Q} {j : Decidable S} (h : ¬ (Q ∧ S)) : (a && (@decide Q i && @decide S j)) = false := by
  by_cases hq : Q
  · by_cases hs : S
    · exact absurd ⟨hq, hs⟩ h
    · rw [decide_eq_false hs, Bool.and_false, Bool.and_false]
  · rw [decide_eq_false hq, Bool.false_and, Bool.and_false]
set_option maxRecDepth 100000 in
set_option maxHeartbeats 4000000 in
theorem ct_madN {l : Launch} {D : va_G} {kI kB kC kL : ClassId} (v0 v1 w0 w1 w2 w3 n : Nat) (rd : Int32) (f les oth soc : Nat → Int32) (lo hi : Nat → Nat) (ok : webOk lo hi n les oth soc) (hrd : (rd = nI 1 ∧ ∀ q, q < 2 ^ n → f q = iZ (gm_nm lo hi n q)) ∨ rd = nI 0) (p : Nat) (hp : p < 2 ^ n) : kw_I l mn_V_markedStrings (gw mn_V_markedStrings cd_V_markedStrings 4 (some .int)) ({ frames := 4, cells := 0, slots := 0, locals := 94 } : Room) D cl_v (kt kI kB kC kL) kE [.ref v0, .int (nI p)] (wVal 3 kI kB v0 v1 w0 w1 w2 w3 n rd f les oth soc) (fun r w => r = nI (gm_mad lo hi n p) ∧ ∃ f2 : Nat → Int32, w = wVal 3 kI kB v0 v1 w0 w1 w2 w3 n (nI 1) f2 les oth soc ∧ ∀ q, q < 2 ^ n → f2 q = iZ (gm_nm lo hi n q)) 0 0 := by
  refine kw_ofI (cc := cd_V_markedStrings) (maxL := 4) (ty := .int) (by decide) rfl (Nat.le_of_ble_eq_true rfl) rfl ?_
  intro pp ee s m args below meth c A X hr hlk hE hnm
  have hn := ok.1.1
  have hp4 := kq_2n hn hp
  refine kw_aload_n X dc_V_markedStrings_0 rfl rfl ?_
  refine kw_callVV X kEw hE 0 rfl rfl (ct_prepN v0 v1 w0 w1 w2 w3 n rd f les oth soc lo hi ok hrd) (cw_P 0 X wd_463 wd_465 (hE _ (by decide +kernel)) wd_3 wd_466 rfl rfl (by decide +kernel) ⟨Nat.le_of_ble_eq_true rfl, Nat.le_of_ble_eq_true rfl⟩) [0, 1, 2, 3, 4, 5] rfl (by decide) (fun _ h => by obtain ⟨g, rfl, _⟩ := h; exact Nat.le_refl _) rfl rfl (Nat.le_of_ble_eq_true rfl) dc_V_markedStrings_1 ⟨Nat.zero_le _, Nat.zero_le _⟩ (fun w hp => ?_)
  obtain ⟨f2, rfl, hf2⟩ := hp
  refine kw_iconst (v := (nI 0)) X dc_V_markedStrings_4 (by decide) ?_
  refine kw_istore_n X dc_V_markedStrings_5 rfl (by decide) ?_
  refine kw_iconst (v := (nI 0)) X dc_V_markedStrings_6 (by decide) ?_
  refine kw_istore_n X dc_V_markedStrings_7 rfl (by decide) ?_
  refine kw_loop (α := Nat) (fun k => k ≤ n) (fun k => n - k) (fun _ => wVal 3 kI kB v0 v1 w0 w1 w2 w3 n (nI 1) f2 les oth soc) (fun k => [some (.ref v0), some (.int (nI p)), some (.int (nI (gm_ms (fun i => p.testBit i && (decide (gm_tk lo hi n p i = 0) && decide (gm_nm lo hi n (bq_wo p i) = -1))) k))), some (.int (nI k))]) (fun _ => []) 0 (Nat.zero_le _) (fun k hk ih => ?_)
  refine kw_iload_n X dc_V_markedStrings_8 rfl rfl ?_
  refine kw_aload_n X dc_V_markedStrings_9 rfl rfl ?_
  refine kw_get X (wc_N _) 0 rfl rfl 0 (by decide) (gq wd_56) (fun _ h => h) rfl dc_V_markedStrings_10 ?_
  refine kw_callVI X kEw hE 0 rfl rfl (ct_size w0 w1 w2 w3 n les oth soc) (cw_V 0 X wd_494 wd_191 wd_192 wd_2 wd_193 rfl rfl (by decide +kernel) ⟨Nat.le_of_ble_eq_true rfl, Nat.le_of_ble_eq_true rfl⟩) [2, 3, 4, 5] rfl (by decide) (fun _ _ h => by obtain ⟨rfl, _⟩ := h; exact Nat.le_refl _) rfl rfl (Nat.le_of_ble_eq_true rfl) dc_V_markedStrings_13 ⟨Nat.zero_le _, Nat.zero_le _⟩ (fun r w hp => ?_)
  obtain ⟨rfl, rfl⟩ := hp
  refine kw_icmp_ge (tgt := 48) X dc_V_markedStrings_16 (by decide) (fun hc16 => ?_) (fun hc16 => ?_)
  · refine kw_iload_n X dc_V_markedStrings_48 rfl rfl ?_
    exact kw_iret X hr hlk dc_V_markedStrings_49 ⟨by have hkn : k = n := Nat.le_antisymm hk (kq_le hc16); subst hkn; rfl, f2, rfl, hf2⟩
  · have hkn := kq_nle hc16
    refine kw_iload_n X dc_V_markedStrings_19 rfl rfl ?_
    refine kw_iload_n X dc_V_markedStrings_20 rfl rfl ?_
    refine kw_callSNI X kEw hE (ct_hasN p k (by omega) (by omega)) (cw_SN (host := "CoinStrings") 2 X (hE _ (by decide +kernel)) wd_195 wd_1 wd_196 rfl rfl (by decide +kernel) ⟨Nat.le_of_ble_eq_true rfl, Nat.le_of_ble_eq_true rfl⟩) [] rfl (by decide) (fun _ _ _ => Nat.zero_le _) rfl rfl (Nat.le_of_ble_eq_true rfl) dc_V_markedStrings_21 ⟨Nat.zero_le _, Nat.zero_le _⟩ (fun r w hp => ?_)
    obtain ⟨rfl, rfl⟩ := hp
    refine kw_if_eq (tgt := 42) X dc_V_markedStrings_24 (by decide) (fun hc24 => ?_) (fun hc24 => ?_)
    · have h24 := kq_z0 hc24
      refine kw_iinc (v := nI (k + 1)) X dc_V_markedStrings_42 rfl (kq_inc k) (by decide) ?_
      refine kw_goto (tgt := 8) X dc_V_markedStrings_45 (by decide) ?_
      refine kw_cv (lv' := [some (.ref v0), some (.int (nI p)), some (.int (nI (gm_ms (fun i => p.testBit i && (decide (gm_tk lo hi n p i = 0) && decide (gm_nm lo hi n (bq_wo p i) = -1))) (k + 1)))), some (.int (nI (k + 1)))]) rfl (by first | rfl | (rw [gm_ms_no (q := (fun i => p.testBit i && (decide (gm_tk lo hi n p i = 0) && decide (gm_nm lo hi n (bq_wo p i) = -1)))) (kq_f3 h33)]; rfl) | (rw [gm_ms_no (q := (fun i => p.testBit i && (decide (gm_tk lo hi n p i = 0) && decide (gm_nm lo hi n (bq_wo p i) = -1)))) (kq_f1 h24)]; rfl)) rfl ?_
      exact ih (k + 1) (by omega) (by omega)
    · have h24 := kq_z1 hc24
      refine kw_aload_n X dc_V_markedStrings_27 rfl rfl ?_
      refine kw_iload_n X dc_V_markedStrings_28 rfl rfl ?_
      refine kw_iload_n X dc_V_markedStrings_29 rfl rfl ?_
      refine kw_callUI X kEw hE 0 rfl rfl (ct_markN v0 v1 w0 w1 w2 w3 n (nI 1) f2 les oth soc lo hi ok p k hp hkn h24 hf2) (cw_A 2 X wd_496 wd_498 wd_502 wd_503 wd_5 wd_504 rfl rfl (hE _ (by decide +kernel)) (by decide +kernel) ⟨Nat.le_of_ble_eq_true rfl, Nat.le_of_ble_eq_true rfl⟩) [0, 1, 2, 3, 4, 5] rfl (by decide) (fun _ _ h => by obtain ⟨rfl, _⟩ := h; exact Nat.le_refl _) rfl rfl (Nat.le_of_ble_eq_true rfl) dc_V_markedStrings_30 ⟨Nat.zero_le _, Nat.zero_le _⟩ (fun r w hp => ?_)
      obtain ⟨rfl, rfl⟩ := hp
      refine kw_if_eq (tgt := 42) X dc_V_markedStrings_33 (by decide) (fun hc33 => ?_) (fun hc33 => ?_)
      · have h33 := kq_z0 hc33
        refine kw_iinc (v := nI (k + 1)) X dc_V_markedStrings_42 rfl (kq_inc k) (by decide) ?_
        refine kw_goto (tgt := 8) X dc_V_markedStrings_45 (by decide) ?_
        refine kw_cv (lv' := [some (.ref v0), some (.int (nI p)), some (.int (nI (gm_ms (fun i => p.testBit i && (decide (gm_tk lo hi n p i = 0) && decide (gm_nm lo hi n (bq_wo p i) = -1))) (k + 1)))), some (.int (nI (k + 1)))]) rfl (by first | rfl | (rw [gm_ms_no (q := (fun i => p.testBit i && (decide (gm_tk lo hi n p i = 0) && decide (gm_nm lo hi n (bq_wo p i) = -1)))) (kq_f3 h33)]; rfl) | (rw [gm_ms_no (q := (fun i => p.testBit i && (decide (gm_tk lo hi n p i = 0) && decide (gm_nm lo hi n (bq_wo p i) = -1)))) (kq_f1 h24)]; rfl)) rfl ?_
        exact ih (k + 1) (by omega) (by omega)
      · have h33 := kq_z1 hc33
        refine kw_iload_n X dc_V_markedStrings_36 rfl rfl ?_
        refine kw_iconst (v := (nI 1)) X dc_V_markedStrings_37 (by decide) ?_
        refine kw_iload_n X dc_V_markedStrings_38 rfl rfl ?_
        refine kw_ishl (v := nI (2 ^ k)) X dc_V_markedStrings_39 (bq_shl (by omega)) ?_
        refine kw_ior (v := nI (gm_ms (fun i => p.testBit i && (decide (gm_tk lo hi n p i = 0) && decide (gm_nm lo hi n (bq_wo p i) = -1))) (k + 1))) X dc_V_markedStrings_40 (by rw [bq_or, show gm_ms (fun i => p.testBit i && (decide (gm_tk lo hi n p i = 0) && decide (gm_nm lo hi n (bq_wo p i) = -1))) (k + 1) = gm_ms (fun i => p.testBit i && (decide (gm_tk lo hi n p i = 0) && decide (gm_nm lo hi n (bq_wo p i) = -1))) k ||| 2 ^ k from if_pos (by simp [h24, h33.1, h33.2])]) ?_
        refine kw_istore_n X dc_V_markedStrings_41 rfl (by decide) ?_
        refine kw_iinc (v := nI (k + 1)) X dc_V_markedStrings_42 rfl (kq_inc k) (by decide) ?_
        refine kw_goto (tgt := 8) X dc_V_markedStrings_45 (by decide) ?_
        refine kw_cv (lv' := [some (.ref v0), some (.int (nI p)), some (.int (nI (gm_ms (fun i => p.testBit i && (decide (gm_tk lo hi n p i = 0) && decide (gm_nm lo hi n (bq_wo p i) = -1))) (k + 1)))), some (.int (nI (k + 1)))]) rfl (by first | rfl | (rw [gm_ms_no (q := (fun i => p.testBit i && (decide (gm_tk lo hi n p i = 0) && decide (gm_nm lo hi n (bq_wo p i) = -1)))) (kq_f3 h33)]; rfl) | (rw [gm_ms_no (q := (fun i => p.testBit i && (decide (gm_tk lo hi n p i = 0) && decide (gm_nm lo hi n (bq_wo p i) = -1)))) (kq_f1 h24)]; rfl)) rfl ?_
        exact ih (k + 1) (by omega) (by omega)
set_option maxRecDepth 100000 in
set_option maxHeartbeats 4000000 in
theorem ct_forgetN {l : Launch} {D : va_G} {kI kB kC kL : ClassId} (v0 v1 w0 : Nat) (rd : Int32) : kw_V l mn_V_forget (gw mn_V_forget cd_V_forget 1 none) ({ frames := 0, cells := 0, slots := 0, locals := 0 } : Room) D cl_v (kt kI kB kC kL) kE [.ref v0] ([(v0, .inr (3, [.ref w0, .ref v1, .int rd]))]) (fun w => w = [(v0, .inr (3, [.ref w0, .ref v1, .int (nI 0)]))]) 0 0 := by
  refine kw_ofV (cc := cd_V_forget) (maxL := 1) (by decide) rfl (Nat.le_of_ble_eq_true rfl) rfl ?_
  intro pp ee s m args below meth c A X hr hlk hE hnm
  refine kw_aload_n X dc_V_forget_0 rfl rfl ?_
  refine kw_iconst (v := (nI 0)) X dc_V_forget_1 (by decide) ?_
  refine kw_putf (ty := .boolean) X (wc_N _) fy_N fk_N fn_N 0 rfl rfl 2 (by decide) (gq wd_66) (fun _ h => h) rfl (by decide +kernel) rfl rfl (Nat.le_of_ble_eq_true rfl) dc_V_forget_2 ?_
  exact kw_vret X hr hlk dc_V_forget_5 rfl
