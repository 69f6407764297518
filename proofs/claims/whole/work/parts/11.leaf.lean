/-! leaves -/
theorem kq_z1 {c : Prop} {i : Decidable c} (h : ¬ (@ite _ c i (nI 1) (nI 0)) = 0) : c := by
  by_cases hc : c
  · exact hc
  · rw [if_neg hc] at h
    exact absurd nI_0 h
theorem kq_z0 {c : Prop} {i : Decidable c} (h : (@ite _ c i (nI 1) (nI 0)) = 0) : ¬ c := by
  intro hc
  rw [if_pos hc] at h
  exact absurd h (by decide)
theorem kq_has {p i : Nat} (hp : p < 2 ^ 31) (hi : i < 32) : (nI p >>> (nI i &&& 31)) &&& nI 1 = nI 1 ↔ p.testBit i = true := by
  rw [bq_has hp hi, nI_eq (by omega) (by omega)]
  exact bq_tb p i
set_option maxRecDepth 100000 in
set_option maxHeartbeats 4000000 in
theorem ct_has {l : Launch} {D : va_G} {kI kB kC kL : ClassId} (set i : Int32) : kw_I l mn_C_has (gw mn_C_has cd_C_has 2 (some .boolean)) ({ frames := 0, cells := 0, slots := 0, locals := 0 } : Room) D cl_v (kt kI kB kC kL) kE [.int set, .int i] ([]) (fun r w => w = [] ∧ r = if (set >>> (i &&& 31)) &&& nI 1 = nI 1 then nI 1 else nI 0) 0 0 := by
  refine kw_ofI (cc := cd_C_has) (maxL := 2) (ty := .boolean) (by decide) rfl (Nat.le_of_ble_eq_true rfl) rfl ?_
  intro pp ee s m args below meth c A X hr hlk hE hnm
  refine kw_iload_n X dc_C_has_0 rfl rfl ?_
  refine kw_iload_n X dc_C_has_1 rfl rfl ?_
  refine kw_ishr X dc_C_has_2 rfl ?_
  refine kw_iconst (v := (nI 1)) X dc_C_has_3 (by decide) ?_
  refine kw_iand X dc_C_has_4 rfl ?_
  refine kw_iconst (v := (nI 1)) X dc_C_has_5 (by decide) ?_
  refine kw_icmp_ne (tgt := 13) X dc_C_has_6 (by decide) (fun hc6 => ?_) (fun hc6 => ?_)
  · refine kw_iconst (v := (nI 0)) X dc_C_has_13 (by decide) ?_
    exact kw_zret X hr hlk rfl dc_C_has_14 ⟨rfl, by first | exact (if_pos hc6).symm | exact (if_neg hc6).symm⟩
  · refine kw_iconst (v := (nI 1)) X dc_C_has_9 (by decide) ?_
    refine kw_goto (tgt := 14) X dc_C_has_10 (by decide) ?_
    exact kw_zret X hr hlk rfl dc_C_has_14 ⟨rfl, by first | exact (if_pos hc6).symm | exact (if_neg hc6).symm⟩
set_option maxRecDepth 100000 in
set_option maxHeartbeats 4000000 in
theorem ct_hasN {l : Launch} {D : va_G} {kI kB kC kL : ClassId} (p i : Nat) (hp : p < 2 ^ 31) (hi : i < 32) : kw_I l mn_C_has (gw mn_C_has cd_C_has 2 (some .boolean)) ({ frames := 0, cells := 0, slots := 0, locals := 0 } : Room) D cl_v (kt kI kB kC kL) kE [.int (nI p), .int (nI i)] ([]) (fun r w => w = [] ∧ r = if p.testBit i = true then nI 1 else nI 0) 0 0 := by
  refine kw_ofI (cc := cd_C_has) (maxL := 2) (ty := .boolean) (by decide) rfl (Nat.le_of_ble_eq_true rfl) rfl ?_
  intro pp ee s m args below meth c A X hr hlk hE hnm
  refine kw_iload_n X dc_C_has_0 rfl rfl ?_
  refine kw_iload_n X dc_C_has_1 rfl rfl ?_
  refine kw_ishr X dc_C_has_2 rfl ?_
  refine kw_iconst (v := (nI 1)) X dc_C_has_3 (by decide) ?_
  refine kw_iand X dc_C_has_4 rfl ?_
  refine kw_iconst (v := (nI 1)) X dc_C_has_5 (by decide) ?_
  refine kw_icmp_ne (tgt := 13) X dc_C_has_6 (by decide) (fun hc6 => ?_) (fun hc6 => ?_)
  · refine kw_iconst (v := (nI 0)) X dc_C_has_13 (by decide) ?_
    exact kw_zret X hr hlk rfl dc_C_has_14 ⟨rfl, by first | exact (if_pos ((kq_has hp hi).mp hc6)).symm | exact (if_neg (fun z => hc6 ((kq_has hp hi).mpr z))).symm⟩
  · refine kw_iconst (v := (nI 1)) X dc_C_has_9 (by decide) ?_
    refine kw_goto (tgt := 14) X dc_C_has_10 (by decide) ?_
    exact kw_zret X hr hlk rfl dc_C_has_14 ⟨rfl, by first | exact (if_pos ((kq_has hp hi).mp hc6)).symm | exact (if_neg (fun z => hc6 ((kq_has hp hi).mpr z))).symm⟩
set_option maxRecDepth 100000 in
set_option maxHeartbeats 4000000 in
theorem ct_without {l : Launch} {D : va_G} {kI kB kC kL : ClassId} (p i : Nat) (hi : i < 31) : kw_I l mn_C_without (gw mn_C_without cd_C_without 2 (some .int)) ({ frames := 0, cells := 0, slots := 0, locals := 0 } : Room) D cl_v (kt kI kB kC kL) kE [.int (nI p), .int (nI i)] ([]) (fun r w => w = [] ∧ r = nI (bq_wo p i)) 0 0 := by
  refine kw_ofI (cc := cd_C_without) (maxL := 2) (ty := .int) (by decide) rfl (Nat.le_of_ble_eq_true rfl) rfl ?_
  intro pp ee s m args below meth c A X hr hlk hE hnm
  refine kw_iload_n X dc_C_without_0 rfl rfl ?_
  refine kw_iconst (v := (nI 1)) X dc_C_without_1 (by decide) ?_
  refine kw_iload_n X dc_C_without_2 rfl rfl ?_
  refine kw_ishl X dc_C_without_3 rfl ?_
  refine kw_iconst (v := (-1)) X dc_C_without_4 (by decide) ?_
  refine kw_ixor X dc_C_without_5 rfl ?_
  refine kw_iand X dc_C_without_6 rfl ?_
  exact kw_iret X hr hlk dc_C_without_7 ⟨rfl, bq_woI hi⟩
set_option maxRecDepth 100000 in
set_option maxHeartbeats 4000000 in
theorem ct_least {l : Launch} {D : va_G} {kI kB kC kL : ClassId} (set : Int32) (b : Nat → Bool) (hb : ∀ i, i < 12 → ((set >>> (nI i &&& 31)) &&& nI 1 = nI 1 ↔ b i = true)) : kw_I l mn_C_least (gw mn_C_least cd_C_least 2 (some .int)) ({ frames := 1, cells := 0, slots := 0, locals := 21 } : Room) D cl_v (kt kI kB kC kL) kE [.int set] ([]) (fun r w => w = [] ∧ r = nI (gm_least b)) 0 0 := by
  refine kw_ofI (cc := cd_C_least) (maxL := 2) (ty := .int) (by decide) rfl (Nat.le_of_ble_eq_true rfl) rfl ?_
  intro pp ee s m args below meth c A X hr hlk hE hnm
  refine kw_iconst (v := (nI 0)) X dc_C_least_0 (by decide) ?_
  refine kw_istore_n X dc_C_least_1 rfl (by decide) ?_
  refine kw_loop (α := Nat) (fun k => k ≤ 12 ∧ ∀ j, j < k → b j = false) (fun k => 12 - k) (fun _ => []) (fun k => [some (.int set), some (.int (nI k))]) (fun _ => []) 0 ⟨Nat.zero_le _, fun j h => absurd h (Nat.not_lt_zero _)⟩ (fun k hk ih => ?_)
  refine kw_iload_n X dc_C_least_2 rfl rfl ?_
  refine kw_bipush (v := (nI 12)) X dc_C_least_3 (by decide) ?_
  refine kw_icmp_ge (tgt := 22) X dc_C_least_5 (by decide) (fun hc5 => ?_) (fun hc5 => ?_)
  · refine kw_iload_n X dc_C_least_22 rfl rfl ?_
    exact kw_iret X hr hlk dc_C_least_23 ⟨rfl, by first | (have h12 : k = 12 := by (have := kq_le hc5; omega)); rw [gm_least_eq hk.1 (fun z => by omega) hk.2] | (have h12 : k < 12 := by (exact kq_nle hc5)); rw [gm_least_eq hk.1 (fun _ => (hb k h12).mp (kq_z1 hc13)) hk.2]⟩
  · refine kw_iload_n X dc_C_least_8 rfl rfl ?_
    refine kw_iload_n X dc_C_least_9 rfl rfl ?_
    refine kw_callSI X kEw hE (ct_has set (nI k)) (cw_S 2 X wd_412 wd_195 wd_1 wd_196 rfl rfl (by decide +kernel) ⟨Nat.le_of_ble_eq_true rfl, Nat.le_of_ble_eq_true rfl⟩) [] rfl (by decide) (fun _ _ _ => Nat.zero_le _) rfl rfl (Nat.le_of_ble_eq_true rfl) dc_C_least_10 ⟨Nat.zero_le _, Nat.zero_le _⟩ (fun r w hp => ?_)
    obtain ⟨rfl, rfl⟩ := hp
    refine kw_if_ne (tgt := 22) X dc_C_least_13 (by decide) (fun hc13 => ?_) (fun hc13 => ?_)
    · refine kw_iload_n X dc_C_least_22 rfl rfl ?_
      exact kw_iret X hr hlk dc_C_least_23 ⟨rfl, by first | (have h12 : k = 12 := by (have := kq_le hc5; omega)); rw [gm_least_eq hk.1 (fun z => by omega) hk.2] | (have h12 : k < 12 := by (exact kq_nle hc5)); rw [gm_least_eq hk.1 (fun _ => (hb k h12).mp (kq_z1 hc13)) hk.2]⟩
    · refine kw_iinc (v := nI (k + 1)) X dc_C_least_16 rfl (kq_inc k) (by decide) ?_
      refine kw_goto (tgt := 2) X dc_C_least_19 (by decide) ?_
      exact ih (k + 1) ⟨kq_nle hc5, fun j hj => by
        by_cases hjk : j = k
        · subst hjk
          have h1 := kq_z0 hc13
          rw [hb j (kq_nle hc5)] at h1
          simpa using h1
        · exact hk.2 j (by omega)⟩ (by have := kq_nle hc5; omega)
set_option maxRecDepth 100000 in
set_option maxHeartbeats 4000000 in
theorem ct_isCoin {l : Launch} {D : va_G} {kI kB kC kL : ClassId} (a : Int32) : kw_I l mn_C_isCoin (gw mn_C_isCoin cd_C_isCoin 1 (some .boolean)) ({ frames := 0, cells := 0, slots := 0, locals := 0 } : Room) D cl_v (kt kI kB kC kL) kE [.int a] ([]) (fun r w => w = [] ∧ r = if 0 ≤ a ∧ a < nI 8 then nI 1 else nI 0) 0 0 := by
  refine kw_ofI (cc := cd_C_isCoin) (maxL := 1) (ty := .boolean) (by decide) rfl (Nat.le_of_ble_eq_true rfl) rfl ?_
  intro pp ee s m args below meth c A X hr hlk hE hnm
  refine kw_iload_n X dc_C_isCoin_0 rfl rfl ?_
  refine kw_if_lt (tgt := 14) X dc_C_isCoin_1 (by decide) (fun hc1 => ?_) (fun hc1 => ?_)
  · refine kw_iconst (v := (nI 0)) X dc_C_isCoin_14 (by decide) ?_
    exact kw_zret X hr hlk rfl dc_C_isCoin_15 ⟨rfl, by first | exact (if_pos ⟨Int32.not_lt.mp hc1, Int32.not_le.mp hc7⟩).symm | exact (if_neg (fun z => absurd z.2 (Int32.not_lt.mpr hc7))).symm | exact (if_neg (fun z => absurd hc1 (Int32.not_lt.mpr z.1))).symm⟩
  · refine kw_iload_n X dc_C_isCoin_4 rfl rfl ?_
    refine kw_bipush (v := (nI 8)) X dc_C_isCoin_5 (by decide) ?_
    refine kw_icmp_ge (tgt := 14) X dc_C_isCoin_7 (by decide) (fun hc7 => ?_) (fun hc7 => ?_)
    · refine kw_iconst (v := (nI 0)) X dc_C_isCoin_14 (by decide) ?_
      exact kw_zret X hr hlk rfl dc_C_isCoin_15 ⟨rfl, by first | exact (if_pos ⟨Int32.not_lt.mp hc1, Int32.not_le.mp hc7⟩).symm | exact (if_neg (fun z => absurd z.2 (Int32.not_lt.mpr hc7))).symm | exact (if_neg (fun z => absurd hc1 (Int32.not_lt.mpr z.1))).symm⟩
    · refine kw_iconst (v := (nI 1)) X dc_C_isCoin_10 (by decide) ?_
      refine kw_goto (tgt := 15) X dc_C_isCoin_11 (by decide) ?_
      exact kw_zret X hr hlk rfl dc_C_isCoin_15 ⟨rfl, by first | exact (if_pos ⟨Int32.not_lt.mp hc1, Int32.not_le.mp hc7⟩).symm | exact (if_neg (fun z => absurd z.2 (Int32.not_lt.mpr hc7))).symm | exact (if_neg (fun z => absurd hc1 (Int32.not_lt.mpr z.1))).symm⟩
/-- what Integer.bitCount does to an int -/
def bc_1 (x : Int32) : Int32 := x - ((x.toUInt32 >>> ((nI 1).toUInt32 &&& Int32.toUInt32 31)).toInt32 &&& 1431655765)
def bc_2 (x : Int32) : Int32 := (x &&& 858993459) + ((x.toUInt32 >>> ((nI 2).toUInt32 &&& Int32.toUInt32 31)).toInt32 &&& 858993459)
def bc_3 (x : Int32) : Int32 := (x + (x.toUInt32 >>> ((nI 4).toUInt32 &&& Int32.toUInt32 31)).toInt32) &&& 252645135
def bc_4 (x : Int32) : Int32 := x + (x.toUInt32 >>> ((nI 8).toUInt32 &&& Int32.toUInt32 31)).toInt32
def bc_5 (x : Int32) : Int32 := x + (x.toUInt32 >>> ((nI 16).toUInt32 &&& Int32.toUInt32 31)).toInt32
def bc_6 (x : Int32) : Int32 := bc_5 (bc_4 (bc_3 (bc_2 (bc_1 x)))) &&& nI 63
theorem bc_tab : ∀ a, a < 64 → ∀ b, b < 64 → bc_6 (nI (64 * a + b)) = nI (gm_pc (64 * a + b)) := by decide +kernel
theorem bc_ok {m : Nat} (h : m < 4096) : bc_6 (nI m) = nI (gm_pc m) := by
  have h1 := bc_tab (m / 64) (by omega) (m % 64) (by omega)
  rw [show 64 * (m / 64) + m % 64 = m from Nat.div_add_mod m 64] at h1
  exact h1
set_option maxRecDepth 100000 in
set_option maxHeartbeats 4000000 in
theorem ct_bitCount {l : Launch} {D : va_G} {kI kB kC kL : ClassId} (k : Nat) (hk : k < 4096) : kw_I l mn_I_bitCount (gw mn_I_bitCount cd_I_bitCount 1 (some .int)) ({ frames := 0, cells := 0, slots := 0, locals := 0 } : Room) D cl_v (kt kI kB kC kL) kE [.int (nI k)] ([]) (fun r w => w = [] ∧ r = nI (gm_pc k)) 0 0 := by
  refine kw_ofI (cc := cd_I_bitCount) (maxL := 1) (ty := .int) (by decide) rfl (Nat.le_of_ble_eq_true rfl) rfl ?_
  intro pp ee s m args below meth c A X hr hlk hE hnm
  refine kw_iload_n X dc_I_bitCount_0 rfl rfl ?_
  refine kw_iload_n X dc_I_bitCount_1 rfl rfl ?_
  refine kw_iconst (v := (nI 1)) X dc_I_bitCount_2 (by decide) ?_
  refine kw_iushr X dc_I_bitCount_3 rfl ?_
  refine kw_ldcw X wd_187 dc_I_bitCount_4 ?_
  refine kw_iand X dc_I_bitCount_7 rfl ?_
  refine kw_isub X dc_I_bitCount_8 rfl ?_
  refine kw_istore_n X dc_I_bitCount_9 rfl (by decide) ?_
  refine kw_iload_n X dc_I_bitCount_10 rfl rfl ?_
  refine kw_ldcw X wd_188 dc_I_bitCount_11 ?_
  refine kw_iand X dc_I_bitCount_14 rfl ?_
  refine kw_iload_n X dc_I_bitCount_15 rfl rfl ?_
  refine kw_iconst (v := (nI 2)) X dc_I_bitCount_16 (by decide) ?_
  refine kw_iushr X dc_I_bitCount_17 rfl ?_
  refine kw_ldcw X wd_188 dc_I_bitCount_18 ?_
  refine kw_iand X dc_I_bitCount_21 rfl ?_
  refine kw_iadd X dc_I_bitCount_22 rfl ?_
  refine kw_istore_n X dc_I_bitCount_23 rfl (by decide) ?_
  refine kw_iload_n X dc_I_bitCount_24 rfl rfl ?_
  refine kw_iload_n X dc_I_bitCount_25 rfl rfl ?_
  refine kw_iconst (v := (nI 4)) X dc_I_bitCount_26 (by decide) ?_
  refine kw_iushr X dc_I_bitCount_27 rfl ?_
  refine kw_iadd X dc_I_bitCount_28 rfl ?_
  refine kw_ldcw X wd_189 dc_I_bitCount_29 ?_
  refine kw_iand X dc_I_bitCount_32 rfl ?_
  refine kw_istore_n X dc_I_bitCount_33 rfl (by decide) ?_
  refine kw_iload_n X dc_I_bitCount_34 rfl rfl ?_
  refine kw_iload_n X dc_I_bitCount_35 rfl rfl ?_
  refine kw_bipush (v := (nI 8)) X dc_I_bitCount_36 (by decide) ?_
  refine kw_iushr X dc_I_bitCount_38 rfl ?_
  refine kw_iadd X dc_I_bitCount_39 rfl ?_
  refine kw_istore_n X dc_I_bitCount_40 rfl (by decide) ?_
  refine kw_iload_n X dc_I_bitCount_41 rfl rfl ?_
  refine kw_iload_n X dc_I_bitCount_42 rfl rfl ?_
  refine kw_bipush (v := (nI 16)) X dc_I_bitCount_43 (by decide) ?_
  refine kw_iushr X dc_I_bitCount_45 rfl ?_
  refine kw_iadd X dc_I_bitCount_46 rfl ?_
  refine kw_istore_n X dc_I_bitCount_47 rfl (by decide) ?_
  refine kw_iload_n X dc_I_bitCount_48 rfl rfl ?_
  refine kw_bipush (v := (nI 63)) X dc_I_bitCount_49 (by decide) ?_
  refine kw_iand X dc_I_bitCount_51 rfl ?_
  exact kw_iret X hr hlk dc_I_bitCount_52 ⟨rfl, bc_ok hk⟩
set_option maxRecDepth 100000 in
set_option maxHeartbeats 4000000 in
theorem ct_fill {l : Launch} {D : va_G} {kI kB kC kL : ClassId} (a0 n : Nat) (v : Int32) (f : Nat → Int32) (hn : n ≤ 4096) : kw_V l mn_A_fill (gw mn_A_fill cd_A_fill 4 none) ({ frames := 0, cells := 0, slots := 0, locals := 0 } : Room) D cl_v (kt kI kB kC kL) kE [.ref a0, .int v] ([(a0, .inl (kI, n, .inl f))]) (fun w => ∃ g : Nat → Int32, w = [(a0, .inl (kI, n, .inl g))] ∧ ∀ j, j < n → g j = v) 0 0 := by
  refine kw_ofV (cc := cd_A_fill) (maxL := 4) (by decide) rfl (Nat.le_of_ble_eq_true rfl) rfl ?_
  intro pp ee s m args below meth c A X hr hlk hE hnm
  refine kw_iconst (v := (nI 0)) X dc_A_fill_0 (by decide) ?_
  refine kw_istore_n X dc_A_fill_1 rfl (by decide) ?_
  refine kw_aload_n X dc_A_fill_2 rfl rfl ?_
  refine kw_alen X 0 0 rfl rfl rfl dc_A_fill_3 ?_
  refine kw_istore_n X dc_A_fill_4 rfl (by decide) ?_
  refine kw_loop (α := Nat) (fun k => k ≤ n) (fun k => n - k) (fun k => [(a0, .inl (kI, n, .inl (kq_pre (fun _ => v) f k)))]) (fun k => [some (.ref a0), some (.int v), some (.int (nI k)), some (.int (nI n))]) (fun _ => []) 0 (Nat.zero_le _) (fun k hk ih => ?_)
  refine kw_iload_n X dc_A_fill_5 rfl rfl ?_
  refine kw_iload_n X dc_A_fill_6 rfl rfl ?_
  refine kw_icmp_ge (tgt := 20) X dc_A_fill_7 (by decide) (fun hc7 => ?_) (fun hc7 => ?_)
  · exact kw_vret X hr hlk dc_A_fill_20 ⟨_, rfl, fun j hj => kq_pre_lt (by have := kq_le hc7; omega)⟩
  · have hkn : k < n := kq_nle hc7
    refine kw_aload_n X dc_A_fill_10 rfl rfl ?_
    refine kw_iload_n X dc_A_fill_11 rfl rfl ?_
    refine kw_iload_n X dc_A_fill_12 rfl rfl ?_
    refine kw_iast X 0 0 rfl rfl (kq_in hkn hn) dc_A_fill_13 ?_
    refine kw_iinc (v := nI (k + 1)) X dc_A_fill_14 rfl (kq_inc k) (by decide) ?_
    refine kw_goto (tgt := 5) X dc_A_fill_17 (by decide) ?_
    refine kw_cv (ws' := [(a0, .inl (kI, n, .inl (kq_pre (fun _ => v) f (k + 1))))]) (by
      show [(a0, Sum.inl (kI, n, Sum.inl (upd (kq_pre (fun _ => v) f k) (nI k).toNatClampNeg v)))] = _
      rw [kq_cl (by omega), kq_pre_upd rfl]) rfl rfl ?_
    exact ih (k + 1) (by omega) (by omega)
