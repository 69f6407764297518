/-! boards -/
def bd_fit (r c : Nat) : Prop := 1 ≤ r ∧ 1 ≤ c ∧ r ≤ 12 ∧ c ≤ 12 ∧ r * (c + 1) + c * (r + 1) ≤ 12
/-- strings so far, and one more -/
def gm_ad (S : Nat × (Nat → Nat) × (Nat → Nat)) (a b : Nat) : Nat × (Nat → Nat) × (Nat → Nat) := (S.1 + 1, fun i => if i = S.1 then min a b else S.2.1 i, fun i => if i = S.1 then max a b else S.2.2 i)
def gm_ads (S : Nat × (Nat → Nat) × (Nat → Nat)) : List (Nat × Nat) → Nat × (Nat → Nat) × (Nat → Nat)
  | [] => S
  | q :: r => gm_ads (gm_ad S q.1 q.2) r
theorem gm_ads_app (S : Nat × (Nat → Nat) × (Nat → Nat)) (a b : List (Nat × Nat)) : gm_ads S (a ++ b) = gm_ads (gm_ads S a) b := by
  induction a generalizing S with
  | nil => rfl
  | cons q r ih => exact ih _
theorem gm_ads_n (S : Nat × (Nat → Nat) × (Nat → Nat)) (a : List (Nat × Nat)) : (gm_ads S a).1 = S.1 + a.length := by
  induction a generalizing S with
  | nil => rfl
  | cons q r ih =>
    show (gm_ads (gm_ad S q.1 q.2) r).1 = _
    rw [ih]
    show S.1 + 1 + r.length = S.1 + (r.length + 1)
    omega
/-- the strings of a box, in their order -/
def bd_1 (r c k : Nat) : List (Nat × Nat) := if k / c = 0 then [(k, 8)] else []
def bd_2 (c k : Nat) : List (Nat × Nat) := if k % c = 0 then [(k, 8)] else []
def bd_x (c k : Nat) : Nat := if k % c + 1 = c then 8 else k + 1
def bd_y (r c k : Nat) : Nat := if k / c + 1 = r then 8 else k + c
def bd_bx (r c k : Nat) : List (Nat × Nat) := bd_1 r c k ++ bd_2 c k ++ [(k, bd_x c k)] ++ [(k, bd_y r c k)]
def bd_all (r c : Nat) : Nat → List (Nat × Nat)
  | 0 => []
  | k + 1 => bd_all r c k ++ bd_bx r c k
def bd_good (r c k : Nat) : Prop := (bd_all r c k).length + (bd_bx r c k).length ≤ 12 ∧ k < 8 ∧ bd_x c k ≤ 8 ∧ bd_y r c k ≤ 8 ∧ bd_x c k ≠ k ∧ bd_y r c k ≠ k ∧ (k % c + 1 = c ∨ k + 1 < 8) ∧ (k / c + 1 = r ∨ k + c < 8)
def bd_goodB (r c k : Nat) : Bool := decide ((bd_all r c k).length + (bd_bx r c k).length ≤ 12) && (decide (k < 8) && (decide (bd_x c k ≤ 8) && (decide (bd_y r c k ≤ 8) && (decide (bd_x c k ≠ k) && (decide (bd_y r c k ≠ k) && (decide (k % c + 1 = c ∨ k + 1 < 8) && decide (k / c + 1 = r ∨ k + c < 8)))))))
def bd_test (r c k : Nat) : Bool := !(decide (1 ≤ r) && (decide (1 ≤ c) && (decide (r * (c + 1) + c * (r + 1) ≤ 12) && decide (k < r * c)))) || bd_goodB r c k
theorem bd_tab : ∀ r, r < 13 → ∀ c, c < 13 → ∀ k, k < 5 → bd_test r c k = true := by decide +kernel
theorem bd_ok {r c k : Nat} (h : bd_fit r c) (hk : k < r * c) : bd_good r c k := by
  obtain ⟨h1, h2, h3, h4, h5⟩ := h
  have hrc : r * c ≤ 5 := by
    have e1 : r * (c + 1) = r * c + r := Nat.mul_succ r c
    have e2 : c * (r + 1) = c * r + c := Nat.mul_succ c r
    have e3 : c * r = r * c := Nat.mul_comm c r
    omega
  have ht := bd_tab r (by omega) c (by omega) k (by omega)
  unfold bd_test at ht
  rw [decide_eq_true h1, decide_eq_true h2, decide_eq_true h5, decide_eq_true hk] at ht
  simp only [Bool.and_self, Bool.not_true, Bool.false_or] at ht
  unfold bd_goodB at ht
  simp only [Bool.and_eq_true, decide_eq_true_eq] at ht
  exact ht
set_option maxRecDepth 100000 in
set_option maxHeartbeats 4000000 in
theorem ct_isBoard {l : Launch} {D : va_G} {kI kB kC kL : ClassId} (a b : Int32) : kw_I l mn_C_isBoard (gw mn_C_isBoard cd_C_isBoard 2 (some .boolean)) ({ frames := 0, cells := 0, slots := 0, locals := 0 } : Room) D cl_v (kt kI kB kC kL) kE [.int a, .int b] ([]) (fun r w => w = [] ∧ r = if (nI 1 ≤ a ∧ nI 1 ≤ b ∧ a ≤ nI 12 ∧ b ≤ nI 12) ∧ a * (b + nI 1) + b * (a + nI 1) ≤ nI 12 then nI 1 else nI 0) 0 0 := by
  refine kw_ofI (cc := cd_C_isBoard) (maxL := 2) (ty := .boolean) (by decide) rfl (Nat.le_of_ble_eq_true rfl) rfl ?_
  intro pp ee s m args below meth c A X hr hlk hE hnm
  refine kw_iload_n X dc_C_isBoard_0 rfl rfl ?_
  refine kw_iconst (v := (nI 1)) X dc_C_isBoard_1 (by decide) ?_
  refine kw_icmp_lt (tgt := 22) X dc_C_isBoard_2 (by decide) (fun hc2 => ?_) (fun hc2 => ?_)
  · refine kw_iconst (v := (nI 0)) X dc_C_isBoard_22 (by decide) ?_
    exact kw_zret X hr hlk rfl dc_C_isBoard_23 ⟨rfl, by first | exact (if_neg (fun z => absurd hc2 (Int32.not_lt.mpr z.1.1))).symm | exact (if_neg (fun z => absurd hc7 (Int32.not_lt.mpr z.1.2.1))).symm | exact (if_neg (fun z => absurd hc13 (Int32.not_lt.mpr z.1.2.2.1))).symm | exact (if_neg (fun z => hc19 z.1.2.2.2)).symm⟩
  · refine kw_iload_n X dc_C_isBoard_5 rfl rfl ?_
    refine kw_iconst (v := (nI 1)) X dc_C_isBoard_6 (by decide) ?_
    refine kw_icmp_lt (tgt := 22) X dc_C_isBoard_7 (by decide) (fun hc7 => ?_) (fun hc7 => ?_)
    · refine kw_iconst (v := (nI 0)) X dc_C_isBoard_22 (by decide) ?_
      exact kw_zret X hr hlk rfl dc_C_isBoard_23 ⟨rfl, by first | exact (if_neg (fun z => absurd hc2 (Int32.not_lt.mpr z.1.1))).symm | exact (if_neg (fun z => absurd hc7 (Int32.not_lt.mpr z.1.2.1))).symm | exact (if_neg (fun z => absurd hc13 (Int32.not_lt.mpr z.1.2.2.1))).symm | exact (if_neg (fun z => hc19 z.1.2.2.2)).symm⟩
    · refine kw_iload_n X dc_C_isBoard_10 rfl rfl ?_
      refine kw_bipush (v := (nI 12)) X dc_C_isBoard_11 (by decide) ?_
      refine kw_icmp_gt (tgt := 22) X dc_C_isBoard_13 (by decide) (fun hc13 => ?_) (fun hc13 => ?_)
      · refine kw_iconst (v := (nI 0)) X dc_C_isBoard_22 (by decide) ?_
        exact kw_zret X hr hlk rfl dc_C_isBoard_23 ⟨rfl, by first | exact (if_neg (fun z => absurd hc2 (Int32.not_lt.mpr z.1.1))).symm | exact (if_neg (fun z => absurd hc7 (Int32.not_lt.mpr z.1.2.1))).symm | exact (if_neg (fun z => absurd hc13 (Int32.not_lt.mpr z.1.2.2.1))).symm | exact (if_neg (fun z => hc19 z.1.2.2.2)).symm⟩
      · refine kw_iload_n X dc_C_isBoard_16 rfl rfl ?_
        refine kw_bipush (v := (nI 12)) X dc_C_isBoard_17 (by decide) ?_
        refine kw_icmp_le (tgt := 24) X dc_C_isBoard_19 (by decide) (fun hc19 => ?_) (fun hc19 => ?_)
        · refine kw_iload_n X dc_C_isBoard_24 rfl rfl ?_
          refine kw_iload_n X dc_C_isBoard_25 rfl rfl ?_
          refine kw_iconst (v := (nI 1)) X dc_C_isBoard_26 (by decide) ?_
          refine kw_iadd X dc_C_isBoard_27 rfl ?_
          refine kw_imul X dc_C_isBoard_28 rfl ?_
          refine kw_iload_n X dc_C_isBoard_29 rfl rfl ?_
          refine kw_iload_n X dc_C_isBoard_30 rfl rfl ?_
          refine kw_iconst (v := (nI 1)) X dc_C_isBoard_31 (by decide) ?_
          refine kw_iadd X dc_C_isBoard_32 rfl ?_
          refine kw_imul X dc_C_isBoard_33 rfl ?_
          refine kw_iadd X dc_C_isBoard_34 rfl ?_
          refine kw_bipush (v := (nI 12)) X dc_C_isBoard_35 (by decide) ?_
          refine kw_icmp_gt (tgt := 44) X dc_C_isBoard_37 (by decide) (fun hc37 => ?_) (fun hc37 => ?_)
          · refine kw_iconst (v := (nI 0)) X dc_C_isBoard_44 (by decide) ?_
            exact kw_zret X hr hlk rfl dc_C_isBoard_45 ⟨rfl, by first | exact (if_pos ⟨⟨Int32.not_lt.mp hc2, Int32.not_lt.mp hc7, Int32.not_lt.mp hc13, hc19⟩, Int32.not_lt.mp hc37⟩).symm | exact (if_neg (fun z => absurd hc37 (Int32.not_lt.mpr z.2))).symm⟩
          · refine kw_iconst (v := (nI 1)) X dc_C_isBoard_40 (by decide) ?_
            refine kw_goto (tgt := 45) X dc_C_isBoard_41 (by decide) ?_
            exact kw_zret X hr hlk rfl dc_C_isBoard_45 ⟨rfl, by first | exact (if_pos ⟨⟨Int32.not_lt.mp hc2, Int32.not_lt.mp hc7, Int32.not_lt.mp hc13, hc19⟩, Int32.not_lt.mp hc37⟩).symm | exact (if_neg (fun z => absurd hc37 (Int32.not_lt.mpr z.2))).symm⟩
        · refine kw_iconst (v := (nI 0)) X dc_C_isBoard_22 (by decide) ?_
          exact kw_zret X hr hlk rfl dc_C_isBoard_23 ⟨rfl, by first | exact (if_neg (fun z => absurd hc2 (Int32.not_lt.mpr z.1.1))).symm | exact (if_neg (fun z => absurd hc7 (Int32.not_lt.mpr z.1.2.1))).symm | exact (if_neg (fun z => absurd hc13 (Int32.not_lt.mpr z.1.2.2.1))).symm | exact (if_neg (fun z => hc19 z.1.2.2.2)).symm⟩
set_option maxRecDepth 100000 in
set_option maxHeartbeats 4000000 in
theorem ct_joinBoard {l : Launch} {D : va_G} {kI kB kC kL : ClassId} (w0 w1 w2 w3 : Nat) (les oth soc : Nat → Int32) (lo hi : Nat → Nat) (ok : webOk lo hi 0 les oth soc) (rr cn : Nat) (hfit : bd_fit rr cn) : kw_V l mn_W_joinBoard (gw mn_W_joinBoard cd_W_joinBoard 6 none) ({ frames := 2, cells := 0, slots := 0, locals := 44 } : Room) D cl_v (kt kI kB kC kL) kE [.ref w0, .int (nI rr), .int (nI cn)] (wWeb kI w0 w1 w2 w3 0 les oth soc) (fun w => ∃ a : (Nat × (Nat → Nat) × (Nat → Nat)) × (Nat → Int32) × (Nat → Int32) × (Nat → Int32), w = wWeb kI w0 w1 w2 w3 a.1.1 a.2.1 a.2.2.1 a.2.2.2 ∧ a.1 = gm_ads (0, lo, hi) (bd_all rr cn (rr * cn)) ∧ webOk a.1.2.1 a.1.2.2 a.1.1 a.2.1 a.2.2.1 a.2.2.2) 0 0 := by
  refine kw_ofV (cc := cd_W_joinBoard) (maxL := 6) (by decide) rfl (Nat.le_of_ble_eq_true rfl) rfl ?_
  intro pp ee s m args below meth c A X hr hlk hE hnm
  have hf := hfit
  obtain ⟨f1, f2, f3, f4, f5⟩ := hfit
  refine kw_iconst (v := (nI 0)) X dc_W_joinBoard_0 (by decide) ?_
  refine kw_istore_n X dc_W_joinBoard_1 rfl (by decide) ?_
  refine kw_loop (α := Nat × (Nat × (Nat → Nat) × (Nat → Nat)) × (Nat → Int32) × (Nat → Int32) × (Nat → Int32)) (fun a => a.1 ≤ rr ∧ a.2.1 = gm_ads (0, lo, hi) (bd_all rr cn (a.1 * cn)) ∧ webOk a.2.1.2.1 a.2.1.2.2 a.2.1.1 a.2.2.1 a.2.2.2.1 a.2.2.2.2) (fun a => rr - a.1) (fun a => wWeb kI w0 w1 w2 w3 a.2.1.1 a.2.2.1 a.2.2.2.1 a.2.2.2.2) (fun a => [some (.ref w0), some (.int (nI rr)), some (.int (nI cn)), some (.int (nI a.1)), none, none]) (fun _ => []) (0, ((0, lo, hi), les, oth, soc)) ⟨Nat.zero_le _, by show (0, lo, hi) = gm_ads (0, lo, hi) (bd_all rr cn (0 * cn)); rw [Nat.zero_mul]; rfl, ok⟩ (fun a hI ih => ?_)
  obtain ⟨r, x0⟩ := a
  obtain ⟨hr9, ex0, okx0⟩ := hI
  refine kw_cv (ws' := wWeb kI w0 w1 w2 w3 x0.1.1 x0.2.1 x0.2.2.1 x0.2.2.2) (lv' := [some (.ref w0), some (.int (nI rr)), some (.int (nI cn)), some (.int (nI r)), none, none]) rfl rfl rfl ?_
  refine kw_iload_n X dc_W_joinBoard_2 rfl rfl ?_
  refine kw_iload_n X dc_W_joinBoard_3 rfl rfl ?_
  refine kw_icmp_ge (tgt := 102) X dc_W_joinBoard_4 (by decide) (fun hc4 => ?_) (fun hc4 => ?_)
  · exact kw_vret X hr hlk dc_W_joinBoard_102 ⟨x0, rfl, by have e9 : r = rr := Nat.le_antisymm hr9 (kq_le hc4); have e8 : bd_all rr cn (rr * cn) = bd_all rr cn (r * cn) := (by rw [e9]); rw [e8]; exact ex0, okx0⟩
  · have hrr : r < rr := kq_nle hc4
    refine kw_iconst (v := (nI 0)) X dc_W_joinBoard_7 (by decide) ?_
    refine kw_istore X dc_W_joinBoard_8 (by decide) ?_
    refine kw_loop (α := Nat × (Nat × (Nat → Nat) × (Nat → Nat)) × (Nat → Int32) × (Nat → Int32) × (Nat → Int32)) (fun a => a.1 ≤ cn ∧ a.2.1 = gm_ads (0, lo, hi) (bd_all rr cn (r * cn + a.1)) ∧ webOk a.2.1.2.1 a.2.1.2.2 a.2.1.1 a.2.2.1 a.2.2.2.1 a.2.2.2.2) (fun a => cn - a.1) (fun a => wWeb kI w0 w1 w2 w3 a.2.1.1 a.2.2.1 a.2.2.2.1 a.2.2.2.2) (fun a => [some (.ref w0), some (.int (nI rr)), some (.int (nI cn)), some (.int (nI r)), some (.int (nI a.1)), none]) (fun _ => []) (0, x0) ⟨Nat.zero_le _, ex0, okx0⟩ (fun a hI ih2 => ?_)
    obtain ⟨c, y0⟩ := a
    obtain ⟨hc9, ey0, oky0⟩ := hI
    refine kw_cv (ws' := wWeb kI w0 w1 w2 w3 y0.1.1 y0.2.1 y0.2.2.1 y0.2.2.2) (lv' := [some (.ref w0), some (.int (nI rr)), some (.int (nI cn)), some (.int (nI r)), some (.int (nI c)), none]) rfl rfl rfl ?_
    refine kw_iload X dc_W_joinBoard_10 rfl ?_
    refine kw_iload_n X dc_W_joinBoard_12 rfl rfl ?_
    refine kw_icmp_ge (tgt := 96) X dc_W_joinBoard_13 (by decide) (fun hc13 => ?_) (fun hc13 => ?_)
    · have hcE : c = cn := Nat.le_antisymm hc9 (kq_le hc13)
      refine kw_iinc (v := nI (r + 1)) X dc_W_joinBoard_96 rfl (kq_inc r) (by decide) ?_
      refine kw_goto (tgt := 2) X dc_W_joinBoard_99 (by decide) ?_
      refine kw_kill 4 ?_
      refine kw_kill 5 ?_
      exact ih (r + 1, y0) ⟨hrr, by show y0.1 = gm_ads (0, lo, hi) (bd_all rr cn ((r + 1) * cn)); rw [ey0, show (r + 1) * cn = r * cn + c by (rw [Nat.succ_mul]; omega)], oky0⟩ (by show rr - (r + 1) < rr - r; omega)
    · have hcc : c < cn := kq_nle hc13
      obtain ⟨k, hk⟩ : ∃ z, z = r * cn + c := ⟨_, rfl⟩
      have hkr : k / cn = r := by rw [hk, Nat.mul_comm, Nat.mul_add_div (by omega), Nat.div_eq_of_lt hcc, Nat.add_zero]
      have hkc : k % cn = c := by rw [hk, Nat.mul_comm, Nat.mul_add_mod, Nat.mod_eq_of_lt hcc]
      have hkl : k < rr * cn := by
        have e1 : (r + 1) * cn ≤ rr * cn := Nat.mul_le_mul_right cn hrr
        rw [Nat.succ_mul] at e1
        omega
      obtain ⟨b1, hb8, b3, b4, b5, b6, b7, b9⟩ := bd_ok hf hkl
      rw [hkc] at b7
      rw [hkr] at b9
      have nY : y0.1.1 = (bd_all rr cn k).length := by rw [ey0, ← hk, gm_ads_n]; exact Nat.zero_add _
      have lB : (bd_bx rr cn k).length = (bd_1 rr cn k).length + (bd_2 cn k).length + 2 := by unfold bd_bx; simp [List.length_append]; omega
      refine kw_iload_n X dc_W_joinBoard_16 rfl rfl ?_
      refine kw_iload_n X dc_W_joinBoard_17 rfl rfl ?_
      refine kw_imul (v := nI (r * cn)) X dc_W_joinBoard_18 (pk_mul r cn) ?_
      refine kw_iload X dc_W_joinBoard_19 rfl ?_
      refine kw_iadd (v := nI k) X dc_W_joinBoard_21 (by rw [hk]; exact nI_add _ _) ?_
      refine kw_istore X dc_W_joinBoard_22 (by decide) ?_
      refine kw_jn (α := (Nat × (Nat → Nat) × (Nat → Nat)) × (Nat → Int32) × (Nat → Int32) × (Nat → Int32)) (fun a => a.1 = gm_ads y0.1 (bd_1 rr cn k) ∧ webOk a.1.2.1 a.1.2.2 a.1.1 a.2.1 a.2.2.1 a.2.2.2) (fun a => wWeb kI w0 w1 w2 w3 a.1.1 a.2.1 a.2.2.1 a.2.2.2) (fun _ => [some (.ref w0), some (.int (nI rr)), some (.int (nI cn)), some (.int (nI r)), some (.int (nI c)), some (.int (nI k))]) (fun _ => []) 35 (fun y1 hJ => ?_) (fun jn1 => ?_)
      · obtain ⟨ey1, oky1⟩ := hJ
        have my1 : y1.1.1 = y0.1.1 + (bd_1 rr cn k).length := by rw [ey1, gm_ads_n]
        refine kw_jn (α := (Nat × (Nat → Nat) × (Nat → Nat)) × (Nat → Int32) × (Nat → Int32) × (Nat → Int32)) (fun a => a.1 = gm_ads y1.1 (bd_2 cn k) ∧ webOk a.1.2.1 a.1.2.2 a.1.1 a.2.1 a.2.2.1 a.2.2.2) (fun a => wWeb kI w0 w1 w2 w3 a.1.1 a.2.1 a.2.2.1 a.2.2.2) (fun _ => [some (.ref w0), some (.int (nI rr)), some (.int (nI cn)), some (.int (nI r)), some (.int (nI c)), some (.int (nI k))]) (fun _ => []) 47 (fun y3 hJ => ?_) (fun jn2 => ?_)
        · obtain ⟨ez3, oky3⟩ := hJ
          have ey3 : y3.1 = gm_ads (gm_ads y0.1 (bd_1 rr cn k)) (bd_2 cn k) := by rw [ez3, ey1]
          have my3 : y3.1.1 = y1.1.1 + (bd_2 cn k).length := by rw [ez3, gm_ads_n]
          refine kw_aload_n X dc_W_joinBoard_47 rfl rfl ?_
          refine kw_iload X dc_W_joinBoard_48 rfl ?_
          refine kw_jn (α := Unit) (fun _ => True) (fun _ => wWeb kI w0 w1 w2 w3 y3.1.1 y3.2.1 y3.2.2.1 y3.2.2.2) (fun _ => [some (.ref w0), some (.int (nI rr)), some (.int (nI cn)), some (.int (nI r)), some (.int (nI c)), some (.int (nI k))]) (fun _ => [.int (og (bd_x cn k)), .int (nI k), .ref w0]) 66 (fun _ _ => ?_) (fun jn3 => ?_)
          · refine kw_callVV X kEw hE 0 rfl rfl (ct_join w0 w1 w2 w3 y3.1.1 y3.2.1 y3.2.2.1 y3.2.2.2 k (bd_x cn k) y3.1.2.1 y3.1.2.2 oky3 (by omega) hb8 b3 (Ne.symm b5)) (cw_V 2 X wd_367 wd_344 wd_345 wd_2 wd_346 rfl rfl (by decide +kernel) ⟨Nat.le_of_ble_eq_true rfl, Nat.le_of_ble_eq_true rfl⟩) [0, 1, 2, 3] rfl (by decide) (fun _ h => by obtain ⟨g1, g2, g3, rfl, _⟩ := h; exact Nat.le_refl _) rfl rfl (Nat.le_of_ble_eq_true rfl) dc_W_joinBoard_66 ⟨Nat.zero_le _, Nat.zero_le _⟩ (fun w hp => ?_)
            obtain ⟨l9, o9, s9, rfl, ok9⟩ := hp
            refine kw_cv (ws' := wWeb kI w0 w1 w2 w3 (y3.1.1 + 1) l9 o9 s9) rfl rfl rfl ?_
            obtain ⟨y4, ey4⟩ : ∃ z : (Nat × (Nat → Nat) × (Nat → Nat)) × (Nat → Int32) × (Nat → Int32) × (Nat → Int32), z = (gm_ad y3.1 k (bd_x cn k), l9, o9, s9) := ⟨_, rfl⟩
            have oky4 : webOk y4.1.2.1 y4.1.2.2 y4.1.1 y4.2.1 y4.2.2.1 y4.2.2.2 := by rw [ey4]; exact ok9
            have ny4 : y4.1 = gm_ad y3.1 k (bd_x cn k) := by rw [ey4]
            have my4 : y4.1.1 = y3.1.1 + 1 := by rw [ny4]; rfl
            refine kw_cv (ws' := wWeb kI w0 w1 w2 w3 y4.1.1 y4.2.1 y4.2.2.1 y4.2.2.2) (by rw [ey4]; rfl) rfl rfl ?_
            refine kw_aload_n X dc_W_joinBoard_69 rfl rfl ?_
            refine kw_iload X dc_W_joinBoard_70 rfl ?_
            refine kw_jn (α := Unit) (fun _ => True) (fun _ => wWeb kI w0 w1 w2 w3 y4.1.1 y4.2.1 y4.2.2.1 y4.2.2.2) (fun _ => [some (.ref w0), some (.int (nI rr)), some (.int (nI cn)), some (.int (nI r)), some (.int (nI c)), some (.int (nI k))]) (fun _ => [.int (og (bd_y rr cn k)), .int (nI k), .ref w0]) 87 (fun _ _ => ?_) (fun jn4 => ?_)
            · refine kw_callVV X kEw hE 0 rfl rfl (ct_join w0 w1 w2 w3 y4.1.1 y4.2.1 y4.2.2.1 y4.2.2.2 k (bd_y rr cn k) y4.1.2.1 y4.1.2.2 oky4 (by omega) hb8 b4 (Ne.symm b6)) (cw_V 2 X wd_367 wd_344 wd_345 wd_2 wd_346 rfl rfl (by decide +kernel) ⟨Nat.le_of_ble_eq_true rfl, Nat.le_of_ble_eq_true rfl⟩) [0, 1, 2, 3] rfl (by decide) (fun _ h => by obtain ⟨g1, g2, g3, rfl, _⟩ := h; exact Nat.le_refl _) rfl rfl (Nat.le_of_ble_eq_true rfl) dc_W_joinBoard_87 ⟨Nat.zero_le _, Nat.zero_le _⟩ (fun w hp => ?_)
              obtain ⟨l9, o9, s9, rfl, ok9⟩ := hp
              refine kw_cv (ws' := wWeb kI w0 w1 w2 w3 (y4.1.1 + 1) l9 o9 s9) rfl rfl rfl ?_
              obtain ⟨y5, ey5⟩ : ∃ z : (Nat × (Nat → Nat) × (Nat → Nat)) × (Nat → Int32) × (Nat → Int32) × (Nat → Int32), z = (gm_ad y4.1 k (bd_y rr cn k), l9, o9, s9) := ⟨_, rfl⟩
              have oky5 : webOk y5.1.2.1 y5.1.2.2 y5.1.1 y5.2.1 y5.2.2.1 y5.2.2.2 := by rw [ey5]; exact ok9
              have ny5 : y5.1 = gm_ad y4.1 k (bd_y rr cn k) := by rw [ey5]
              have my5 : y5.1.1 = y4.1.1 + 1 := by rw [ny5]; rfl
              refine kw_cv (ws' := wWeb kI w0 w1 w2 w3 y5.1.1 y5.2.1 y5.2.2.1 y5.2.2.2) (by rw [ey5]; rfl) rfl rfl ?_
              refine kw_iinc (v := nI (c + 1)) X dc_W_joinBoard_90 rfl (kq_inc c) (by decide) ?_
              refine kw_goto (tgt := 10) X dc_W_joinBoard_93 (by decide) ?_
              refine kw_kill 5 ?_
              exact ih2 (c + 1, y5) ⟨hcc, by show y5.1 = gm_ads (0, lo, hi) (bd_all rr cn (r * cn + c + 1)); rw [ny5, ny4, ey3, ← hk, show bd_all rr cn (k + 1) = bd_all rr cn k ++ bd_bx rr cn k from rfl, gm_ads_app, hk, ← ey0]; unfold bd_bx; rw [gm_ads_app, gm_ads_app, gm_ads_app]; rfl, oky5⟩ (by show cn - (c + 1) < cn - c; omega)
            · refine kw_iload_n X dc_W_joinBoard_72 rfl rfl ?_
              refine kw_iload_n X dc_W_joinBoard_73 rfl rfl ?_
              refine kw_iconst (v := (nI 1)) X dc_W_joinBoard_74 (by decide) ?_
              refine kw_isub (v := nI (rr - 1)) X dc_W_joinBoard_75 (pk_sub f1) ?_
              refine kw_icmp_ne (tgt := 83) X dc_W_joinBoard_76 (by decide) (fun hc76 => ?_) (fun hc76 => ?_)
              · have h76 := kq_ne hc76
                refine kw_iload X dc_W_joinBoard_83 rfl ?_
                refine kw_iload_n X dc_W_joinBoard_85 rfl rfl ?_
                refine kw_iadd (v := og (bd_y rr cn k)) X dc_W_joinBoard_86 (by unfold bd_y; rw [hkr, if_neg (by omega), og_lt (by omega)]; exact nI_add _ _) ?_
                first | exact jn4 () trivial | (refine kw_top (y := og (bd_y rr cn k)) (by unfold bd_y; rw [hkr, if_pos (by omega)]; rfl) ?_; exact jn4 () trivial)
              · have h76 := kq_eq hc76
                refine kw_iconst (v := (-1)) X dc_W_joinBoard_79 (by decide) ?_
                refine kw_goto (tgt := 87) X dc_W_joinBoard_80 (by decide) ?_
                first | exact jn4 () trivial | (refine kw_top (y := og (bd_y rr cn k)) (by unfold bd_y; rw [hkr, if_pos (by omega)]; rfl) ?_; exact jn4 () trivial)
          · refine kw_iload X dc_W_joinBoard_50 rfl ?_
            refine kw_iload_n X dc_W_joinBoard_52 rfl rfl ?_
            refine kw_iconst (v := (nI 1)) X dc_W_joinBoard_53 (by decide) ?_
            refine kw_isub (v := nI (cn - 1)) X dc_W_joinBoard_54 (pk_sub f2) ?_
            refine kw_icmp_ne (tgt := 62) X dc_W_joinBoard_55 (by decide) (fun hc55 => ?_) (fun hc55 => ?_)
            · have h55 := kq_ne hc55
              refine kw_iload X dc_W_joinBoard_62 rfl ?_
              refine kw_iconst (v := (nI 1)) X dc_W_joinBoard_64 (by decide) ?_
              refine kw_iadd (v := og (bd_x cn k)) X dc_W_joinBoard_65 (by unfold bd_x; rw [hkc, if_neg (by omega), og_lt (by omega)]; exact nI_1 k) ?_
              first | exact jn3 () trivial | (refine kw_top (y := og (bd_x cn k)) (by unfold bd_x; rw [hkc, if_pos (by omega)]; rfl) ?_; exact jn3 () trivial)
            · have h55 := kq_eq hc55
              refine kw_iconst (v := (-1)) X dc_W_joinBoard_58 (by decide) ?_
              refine kw_goto (tgt := 66) X dc_W_joinBoard_59 (by decide) ?_
              first | exact jn3 () trivial | (refine kw_top (y := og (bd_x cn k)) (by unfold bd_x; rw [hkc, if_pos (by omega)]; rfl) ?_; exact jn3 () trivial)
        · refine kw_iload X dc_W_joinBoard_35 rfl ?_
          refine kw_if_ne (tgt := 47) X dc_W_joinBoard_37 (by decide) (fun hc37 => ?_) (fun hc37 => ?_)
          · have h37 := kq_ne (b := 0) hc37
            first | exact jn2 u2 ⟨by rw [nu2]; unfold bd_2; rw [hkc, if_pos h37]; rfl, oku2⟩ | exact jn2 y1 ⟨by unfold bd_2; rw [hkc, if_neg h37]; rfl, oky1⟩
          · have h37 := kq_eq (b := 0) hc37
            have l2 : (bd_2 cn k).length = 1 := by unfold bd_2; rw [hkc, if_pos h37]; rfl
            refine kw_aload_n X dc_W_joinBoard_40 rfl rfl ?_
            refine kw_iload X dc_W_joinBoard_41 rfl ?_
            refine kw_iconst (v := (-1)) X dc_W_joinBoard_43 (by decide) ?_
            refine kw_callVV X kEw hE 0 rfl rfl (ct_join w0 w1 w2 w3 y1.1.1 y1.2.1 y1.2.2.1 y1.2.2.2 k 8 y1.1.2.1 y1.1.2.2 oky1 (by omega) hb8 (by omega) (by omega)) (cw_V 2 X wd_367 wd_344 wd_345 wd_2 wd_346 rfl rfl (by decide +kernel) ⟨Nat.le_of_ble_eq_true rfl, Nat.le_of_ble_eq_true rfl⟩) [0, 1, 2, 3] rfl (by decide) (fun _ h => by obtain ⟨g1, g2, g3, rfl, _⟩ := h; exact Nat.le_refl _) rfl rfl (Nat.le_of_ble_eq_true rfl) dc_W_joinBoard_44 ⟨Nat.zero_le _, Nat.zero_le _⟩ (fun w hp => ?_)
            obtain ⟨l9, o9, s9, rfl, ok9⟩ := hp
            refine kw_cv (ws' := wWeb kI w0 w1 w2 w3 (y1.1.1 + 1) l9 o9 s9) rfl rfl rfl ?_
            obtain ⟨u2, eu2⟩ : ∃ z : (Nat × (Nat → Nat) × (Nat → Nat)) × (Nat → Int32) × (Nat → Int32) × (Nat → Int32), z = (gm_ad y1.1 k 8, l9, o9, s9) := ⟨_, rfl⟩
            have oku2 : webOk u2.1.2.1 u2.1.2.2 u2.1.1 u2.2.1 u2.2.2.1 u2.2.2.2 := by rw [eu2]; exact ok9
            have nu2 : u2.1 = gm_ad y1.1 k 8 := by rw [eu2]
            have mu2 : u2.1.1 = y1.1.1 + 1 := by rw [nu2]; rfl
            refine kw_cv (ws' := wWeb kI w0 w1 w2 w3 u2.1.1 u2.2.1 u2.2.2.1 u2.2.2.2) (by rw [eu2]; rfl) rfl rfl ?_
            first | exact jn2 u2 ⟨by rw [nu2]; unfold bd_2; rw [hkc, if_pos h37]; rfl, oku2⟩ | exact jn2 y1 ⟨by unfold bd_2; rw [hkc, if_neg h37]; rfl, oky1⟩
      · refine kw_iload_n X dc_W_joinBoard_24 rfl rfl ?_
        refine kw_if_ne (tgt := 35) X dc_W_joinBoard_25 (by decide) (fun hc25 => ?_) (fun hc25 => ?_)
        · have h25 := kq_ne (b := 0) hc25
          first | exact jn1 u1 ⟨by rw [nu1]; unfold bd_1; rw [hkr, if_pos h25]; rfl, oku1⟩ | exact jn1 y0 ⟨by unfold bd_1; rw [hkr, if_neg h25]; rfl, oky0⟩
        · have h25 := kq_eq (b := 0) hc25
          have l1 : (bd_1 rr cn k).length = 1 := by unfold bd_1; rw [hkr, if_pos h25]; rfl
          refine kw_aload_n X dc_W_joinBoard_28 rfl rfl ?_
          refine kw_iload X dc_W_joinBoard_29 rfl ?_
          refine kw_iconst (v := (-1)) X dc_W_joinBoard_31 (by decide) ?_
          refine kw_callVV X kEw hE 0 rfl rfl (ct_join w0 w1 w2 w3 y0.1.1 y0.2.1 y0.2.2.1 y0.2.2.2 k 8 y0.1.2.1 y0.1.2.2 oky0 (by omega) hb8 (by omega) (by omega)) (cw_V 2 X wd_367 wd_344 wd_345 wd_2 wd_346 rfl rfl (by decide +kernel) ⟨Nat.le_of_ble_eq_true rfl, Nat.le_of_ble_eq_true rfl⟩) [0, 1, 2, 3] rfl (by decide) (fun _ h => by obtain ⟨g1, g2, g3, rfl, _⟩ := h; exact Nat.le_refl _) rfl rfl (Nat.le_of_ble_eq_true rfl) dc_W_joinBoard_32 ⟨Nat.zero_le _, Nat.zero_le _⟩ (fun w hp => ?_)
          obtain ⟨l9, o9, s9, rfl, ok9⟩ := hp
          refine kw_cv (ws' := wWeb kI w0 w1 w2 w3 (y0.1.1 + 1) l9 o9 s9) rfl rfl rfl ?_
          obtain ⟨u1, eu1⟩ : ∃ z : (Nat × (Nat → Nat) × (Nat → Nat)) × (Nat → Int32) × (Nat → Int32) × (Nat → Int32), z = (gm_ad y0.1 k 8, l9, o9, s9) := ⟨_, rfl⟩
          have oku1 : webOk u1.1.2.1 u1.1.2.2 u1.1.1 u1.2.1 u1.2.2.1 u1.2.2.2 := by rw [eu1]; exact ok9
          have nu1 : u1.1 = gm_ad y0.1 k 8 := by rw [eu1]
          have mu1 : u1.1.1 = y0.1.1 + 1 := by rw [nu1]; rfl
          refine kw_cv (ws' := wWeb kI w0 w1 w2 w3 u1.1.1 u1.2.1 u1.2.2.1 u1.2.2.2) (by rw [eu1]; rfl) rfl rfl ?_
          first | exact jn1 u1 ⟨by rw [nu1]; unfold bd_1; rw [hkr, if_pos h25]; rfl, oku1⟩ | exact jn1 y0 ⟨by unfold bd_1; rw [hkr, if_neg h25]; rfl, oky0⟩
