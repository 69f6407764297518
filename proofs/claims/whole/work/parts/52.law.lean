/-! the law's cases -/
theorem kb_len17 {w : va_W} {a : Nat × va_E} (h : w.length = 16) : (w ++ [a]).length = 17 := by rw [List.length_append, h]; rfl
theorem kb_at29 {wR wC : va_W} {a : Nat × va_E} (h1 : wR.length = 13) (h2 : wC.length = 16) : (wR ++ (wC ++ [a]))[29]? = some a := by
  rw [List.getElem?_append_right (by omega), h1, List.getElem?_append_right (by omega), h2]
  rfl
theorem csP_nil {kI kB kC : ClassId} {ad : Nat → Nat} {n : Nat} {lo hi : Nat → Nat} {cs T : List Nat} {w : va_W} (h : csP kI kB kC ad n lo hi false cs T w) : cs = [] := by
  obtain ⟨les, oth, soc, rM, fM, rN, fN, La, ch, cst, ct, tk, rfl, zv, zb, -⟩ := h
  exact zb rfl
theorem csP_n {kI kB kC : ClassId} {ad : Nat → Nat} {n : Nat} {lo hi : Nat → Nat} {bg : Bool} {cs T : List Nat} {w : va_W} (h : csP kI kB kC ad n lo hi bg cs T w) : n ≤ 12 := by
  obtain ⟨les, oth, soc, rM, fM, rN, fN, La, ch, cst, ct, tk, rfl, zv, zb, ok, -⟩ := h
  exact ok.1.1
theorem csP_T {kI kB kC : ClassId} {ad : Nat → Nat} {n : Nat} {lo hi : Nat → Nat} {bg : Bool} {cs T : List Nat} {w : va_W} (h : csP kI kB kC ad n lo hi bg cs T w) : T.length ≤ 84 := by
  obtain ⟨les, oth, soc, rM, fM, rN, fN, La, ch, cst, ct, tk, rfl, zv, zb, ok, hX, -⟩ := h
  exact hX.1
theorem i32_ltN {a : Int32} {N : Nat} (h0 : 0 ≤ a) (h1 : a < nI N) (hN : N < 2 ^ 31) : ∃ k, k < N ∧ a = nI k := by
  obtain ⟨k, hk, e⟩ := i32_nat h0 (Int32.le_of_lt h1) hN
  refine ⟨k, ?_, e⟩
  rw [e] at h1
  exact (nI_ltI (by omega) hN).mp h1
theorem lg_cmp_0 (x : Int64) : lg_cmp x x = 0 := by
  unfold lg_cmp
  simp
abbrev kl_lv (b : Nat) (ad rd : Nat → Nat) (o k : Nat) : List (Option Value) := [some (.ref b), some (.ref (ad 0)), some (.ref (rd 0)), some (.ref o), some (.int (nI (3 * k))), none, none]
abbrev kl_w (kL : ClassId) (wR wC : va_W) (o : Nat) (f : Nat → Int64) : va_W := wR ++ (wC ++ [(o, .inl (kL, 1, .inr (.inl f)))])
/-- the law goes on behind a case -/
def kl_K (p : Program) (l : Launch) (e : Env) (s : State) (m : MethodId) (args : Array Value) (below : List Frame) (meth : Method) (c : Code) (D : va_G) (A : Nat → Prop) (Q : State → Prop) (kI kB kC kL : ClassId) (b : Nat) (ad rd : Nat → Nat) (o k cells slots : Nat) : Prop :=
  ∀ (n : Nat) (lo hi : Nat → Nat) (bg : Bool) (cs T : List Nat) (t : Nat) (S : Bool) (wR wC : va_W) (f : Nat → Int64), rfP kI rd n lo hi bg cs T t S wR → csP kI kB kC ad n lo hi bg cs T wC → kw_W p l e room_1 s m args below meth c 7 D cl_v A (cells + 1) (slots + 6) Q (kl_w kL wR wC o f) 895 (kl_lv b ad rd o k) []
set_option maxRecDepth 100000 in
set_option maxHeartbeats 1000000 in
theorem kl_add {p : Program} {l : Launch} {e : Env} {s : State} {m : MethodId} {args : Array Value} {below : List Frame} {meth : Method} {c : Code} {Q : State → Prop} {D : va_G} {kI kB kC kL : ClassId} {A : Nat → Prop} {c0 : Cond} (X : kw_X p s m args c cd_L_law 7 "CoinStringsLaw" (c0 :: gw_tbl) D cl_v (kt kI kB kC kL) A) (hl0 : l.stackTraces = false) (hEx : kEx s) (hN : kx_NA A s) {b L : Nat} {xs : Nat → Int32} (hX : va_X b L xs s s.heap) (hbl : b < s.heap.size) (hbA : ¬ A b) (hL : L ≤ 1536) {ad rd : Nat → Nat} {o k : Nat} (hk : 3 * k + 3 ≤ L) {cells slots : Nat} (hf : cells + 1 ≤ room_1.cells ∧ slots + 6 ≤ room_1.slots) {n : Nat} {lo hi : Nat → Nat} {bg : Bool} {cs T : List Nat} {t : Nat} {S : Bool} {wR wC : va_W} {f : Nat → Int64} (hP : rfP kI rd n lo hi bg cs T t S wR) (hC : csP kI kB kC ad n lo hi bg cs T wC) (K : kl_K p l e s m args below meth c D A Q kI kB kC kL b ad rd o k cells slots) : kw_W p l e room_1 s m args below meth c 7 D cl_v A cells slots Q (kl_w kL wR wC o f) 128 (kl_lv b ad rd o k) [] := by
  have hE := hEx.1
  by_cases hok : adOk (xs (3 * k + 1)) (xs (3 * k + 2))
  · by_cases hz : bg = true ∨ n = 12
    · obtain ⟨fr0, hr0⟩ := rfP_0 hP
      have h13 := rfP_13 hP
      have h16 := csP_16 hC
      refine kw_aload_n X dc_L_law_128 rfl rfl ?_
      refine kw_aload_n X dc_L_law_129 rfl rfl ?_
      refine kw_iload X dc_L_law_130 rfl ?_
      refine kw_iconst (v := (nI 1)) X dc_L_law_132 (by decide) ?_
      refine kw_iadd (v := nI (3 * k + 1)) X dc_L_law_133 (nI_add _ _) ?_
      refine kl_sld (v := xs (3 * k + 1)) X hX hbl hbA (vp_in_nI (by omega) (by omega)) (by rw [nI_clamp (by omega)]) dc_L_law_134 ?_
      refine kw_aload_n X dc_L_law_135 rfl rfl ?_
      refine kw_iload X dc_L_law_136 rfl ?_
      refine kw_iconst (v := (nI 2)) X dc_L_law_138 (by decide) ?_
      refine kw_iadd (v := nI (3 * k + 2)) X dc_L_law_139 (nI_add _ _) ?_
      refine kl_sld (v := xs (3 * k + 2)) X hX hbl hbA (vp_in_nI (by omega) (by omega)) (by rw [nI_clamp (by omega)]) dc_L_law_140 ?_
      refine kw_aload_n X dc_L_law_141 rfl rfl ?_
      refine kx_callSW X hEx hN (ct_LaddF2 hl0 ad n lo hi bg cs T wC hC o f _ _ hok hz) (cw_SW 4 X wd_251 wd_252 wd_0 wd_253 rfl rfl (by decide +kernel) ⟨Nat.le_of_ble_eq_true rfl, Nat.le_of_ble_eq_true rfl⟩) (List.range' 13 17) (kb_getE h13 (kb_len17 h16)) (by decide) (fun _ _ h => by obtain ⟨_, w1, rfl, h2⟩ := h; exact Nat.le_of_eq (kb_len17 (csP_16 h2)).symm) rfl rfl (Nat.le_of_ble_eq_true rfl) dc_L_law_142 hf (fun r w hp => ?_)
      obtain ⟨rfl, w1, rfl, hC2⟩ := hp
      refine kw_cv (ws' := kl_w kL wR w1 o f) (kb_putE h13 (kb_len17 h16) (kb_len17 (csP_16 hC2))) rfl rfl ?_
      refine kw_istore X dc_L_law_145 (by decide) ?_
      refine kw_aload_n X dc_L_law_147 rfl rfl ?_
      refine kw_aload_n X dc_L_law_148 rfl rfl ?_
      refine kw_iload X dc_L_law_149 rfl ?_
      refine kw_iconst (v := (nI 1)) X dc_L_law_151 (by decide) ?_
      refine kw_iadd (v := nI (3 * k + 1)) X dc_L_law_152 (nI_add _ _) ?_
      refine kl_sld (v := xs (3 * k + 1)) X hX hbl hbA (vp_in_nI (by omega) (by omega)) (by rw [nI_clamp (by omega)]) dc_L_law_153 ?_
      refine kw_aload_n X dc_L_law_154 rfl rfl ?_
      refine kw_iload X dc_L_law_155 rfl ?_
      refine kw_iconst (v := (nI 2)) X dc_L_law_157 (by decide) ?_
      refine kw_iadd (v := nI (3 * k + 2)) X dc_L_law_158 (nI_add _ _) ?_
      refine kl_sld (v := xs (3 * k + 2)) X hX hbl hbA (vp_in_nI (by omega) (by omega)) (by rw [nI_clamp (by omega)]) dc_L_law_159 ?_
      refine kw_callVI X kEw hE 0 hr0 rfl (ct_RaddF2 rd n lo hi bg cs T t S wR hP _ _ hok hz) (cw_V 2 X wd_665 wd_666 wd_667 wd_8 wd_668 rfl rfl (by decide +kernel) ⟨Nat.le_of_ble_eq_true rfl, Nat.le_of_ble_eq_true rfl⟩) (List.range' 0 13) (kb_get0 h13) (by decide) (fun _ _ h => Nat.le_of_eq (rfP_13 h).symm) rfl rfl (Nat.le_of_ble_eq_true rfl) dc_L_law_160 hf (fun r w hp => ?_)
      have hP1 := hp
      refine kw_cv (ws' := kl_w kL w w1 o f) (kb_put0 h13 (rfP_13 hP1)) rfl rfl ?_
      refine kw_istore X dc_L_law_163 (by decide) ?_
      refine kw_aload_n X dc_L_law_165 rfl rfl ?_
      obtain ⟨fr1, hr1⟩ := rfP_0 hP1
      have h131 := rfP_13 hP1
      refine kw_callVI X kEw hE 0 hr1 rfl (ct_Zthrown rd _ _ _ _ _ _ _ _ _ hP1) (cw_V 0 X wd_661 wd_662 wd_663 wd_8 wd_664 rfl rfl (by decide +kernel) ⟨Nat.le_of_ble_eq_true rfl, Nat.le_of_ble_eq_true rfl⟩) (List.range' 0 13) (kb_get0 h131) (by decide) (fun _ _ h => Nat.le_of_eq (rfP_13 h.2).symm) rfl rfl (Nat.le_of_ble_eq_true rfl) dc_L_law_166 hf (fun r w hp => ?_)
      obtain ⟨rfl, hP2⟩ := hp
      refine kw_cv (ws' := kl_w kL w w1 o f) (kb_put0 h131 (rfP_13 hP2)) rfl rfl ?_
      refine kw_iload X dc_L_law_169 rfl ?_
      refine kw_icmp_eq (tgt := 176) X dc_L_law_171 (by decide) (fun _ => ?_) (fun hne => absurd rfl hne)
      refine kw_iload X dc_L_law_176 rfl ?_
      refine kw_if_ne (tgt := 193) X dc_L_law_178 (by decide) (fun _ => ?_) (fun h9 => absurd h9 (by decide))
      refine kw_goto (tgt := 895) X dc_L_law_193 (by decide) ?_
      refine kw_kill 5 ?_
      refine kw_kill 6 ?_
      exact K _ _ _ _ _ _ _ _ _ _ _ hP2 hC2
    · have hbg : bg = false := by
        cases bg
        · rfl
        · exact absurd (Or.inl rfl) hz
      subst hbg
      have hcs := csP_nil hC
      subst hcs
      have hn := csP_n hC
      have hn12 : n < 12 := by
        rcases Nat.lt_or_ge n 12 with z | z
        · exact z
        · exact absurd (Or.inr (by omega)) hz
      obtain ⟨a1, b1, ha, hb, hab, e1, e2⟩ := adOk_ex hok
      obtain ⟨fr0, hr0⟩ := rfP_0 hP
      have h13 := rfP_13 hP
      have h16 := csP_16 hC
      refine kw_aload_n X dc_L_law_128 rfl rfl ?_
      refine kw_aload_n X dc_L_law_129 rfl rfl ?_
      refine kw_iload X dc_L_law_130 rfl ?_
      refine kw_iconst (v := (nI 1)) X dc_L_law_132 (by decide) ?_
      refine kw_iadd (v := nI (3 * k + 1)) X dc_L_law_133 (nI_add _ _) ?_
      refine kl_sld (v := nI a1) X hX hbl hbA (vp_in_nI (by omega) (by omega)) (by rw [nI_clamp (by omega)]; exact e1) dc_L_law_134 ?_
      refine kw_aload_n X dc_L_law_135 rfl rfl ?_
      refine kw_iload X dc_L_law_136 rfl ?_
      refine kw_iconst (v := (nI 2)) X dc_L_law_138 (by decide) ?_
      refine kw_iadd (v := nI (3 * k + 2)) X dc_L_law_139 (nI_add _ _) ?_
      refine kl_sld (v := og b1) X hX hbl hbA (vp_in_nI (by omega) (by omega)) (by rw [nI_clamp (by omega)]; exact e2) dc_L_law_140 ?_
      refine kw_aload_n X dc_L_law_141 rfl rfl ?_
      refine kx_callSW X hEx hN (ct_LaddT ad n lo hi T wC hC o f a1 b1 hn12 ha hb hab) (cw_SW 4 X wd_251 wd_252 wd_0 wd_253 rfl rfl (by decide +kernel) ⟨Nat.le_of_ble_eq_true rfl, Nat.le_of_ble_eq_true rfl⟩) (List.range' 13 17) (kb_getE h13 (kb_len17 h16)) (by decide) (fun _ _ h => by obtain ⟨_, w1, f2, rfl, h2, _⟩ := h; exact Nat.le_of_eq (kb_len17 (csP_16 h2)).symm) rfl rfl (Nat.le_of_ble_eq_true rfl) dc_L_law_142 hf (fun r w hp => ?_)
      obtain ⟨rfl, w1, f2, rfl, hC2, hv0⟩ := hp
      refine kw_cv (ws' := kl_w kL wR w1 o f2) (kb_putE h13 (kb_len17 h16) (kb_len17 (csP_16 hC2))) rfl rfl ?_
      refine kw_istore X dc_L_law_145 (by decide) ?_
      refine kw_aload_n X dc_L_law_147 rfl rfl ?_
      refine kw_aload_n X dc_L_law_148 rfl rfl ?_
      refine kw_iload X dc_L_law_149 rfl ?_
      refine kw_iconst (v := (nI 1)) X dc_L_law_151 (by decide) ?_
      refine kw_iadd (v := nI (3 * k + 1)) X dc_L_law_152 (nI_add _ _) ?_
      refine kl_sld (v := nI a1) X hX hbl hbA (vp_in_nI (by omega) (by omega)) (by rw [nI_clamp (by omega)]; exact e1) dc_L_law_153 ?_
      refine kw_aload_n X dc_L_law_154 rfl rfl ?_
      refine kw_iload X dc_L_law_155 rfl ?_
      refine kw_iconst (v := (nI 2)) X dc_L_law_157 (by decide) ?_
      refine kw_iadd (v := nI (3 * k + 2)) X dc_L_law_158 (nI_add _ _) ?_
      refine kl_sld (v := og b1) X hX hbl hbA (vp_in_nI (by omega) (by omega)) (by rw [nI_clamp (by omega)]; exact e2) dc_L_law_159 ?_
      refine kw_callVI X kEw hE 0 hr0 rfl (ct_RaddT rd n lo hi T t S wR hP a1 b1 hn12 ha hb hab) (cw_V 2 X wd_665 wd_666 wd_667 wd_8 wd_668 rfl rfl (by decide +kernel) ⟨Nat.le_of_ble_eq_true rfl, Nat.le_of_ble_eq_true rfl⟩) (List.range' 0 13) (kb_get0 h13) (by decide) (fun _ _ h => Nat.le_of_eq (rfP_13 h.2).symm) rfl rfl (Nat.le_of_ble_eq_true rfl) dc_L_law_160 hf (fun r w hp => ?_)
      obtain ⟨rfl, hP1⟩ := hp
      refine kw_cv (ws' := kl_w kL w w1 o f2) (kb_put0 h13 (rfP_13 hP1)) rfl rfl ?_
      refine kw_istore X dc_L_law_163 (by decide) ?_
      refine kw_aload_n X dc_L_law_165 rfl rfl ?_
      obtain ⟨fr1, hr1⟩ := rfP_0 hP1
      have h131 := rfP_13 hP1
      refine kw_callVI X kEw hE 0 hr1 rfl (ct_Zthrown rd _ _ _ _ _ _ _ _ _ hP1) (cw_V 0 X wd_661 wd_662 wd_663 wd_8 wd_664 rfl rfl (by decide +kernel) ⟨Nat.le_of_ble_eq_true rfl, Nat.le_of_ble_eq_true rfl⟩) (List.range' 0 13) (kb_get0 h131) (by decide) (fun _ _ h => Nat.le_of_eq (rfP_13 h.2).symm) rfl rfl (Nat.le_of_ble_eq_true rfl) dc_L_law_166 hf (fun r w hp => ?_)
      obtain ⟨rfl, hP2⟩ := hp
      refine kw_cv (ws' := kl_w kL w w1 o f2) (kb_put0 h131 (rfP_13 hP2)) rfl rfl ?_
      refine kw_iload X dc_L_law_169 rfl ?_
      refine kw_icmp_eq (tgt := 176) X dc_L_law_171 (by decide) (fun _ => ?_) (fun hne => absurd rfl hne)
      refine kw_iload X dc_L_law_176 rfl ?_
      refine kw_if_ne (tgt := 193) X dc_L_law_178 (by decide) (fun h9 => absurd rfl h9) (fun _ => ?_)
      refine kw_aload_n X dc_L_law_181 rfl rfl ?_
      refine kw_iconst (v := (nI 0)) X dc_L_law_182 (by decide) ?_
      refine kw_lald (v := (nI n).toInt64) X 29 3 (kb_at29 (rfP_13 hP2) (csP_16 hC2)) rfl (kq_in (k := 0) (by decide) (by decide)) (by rw [kq_cl (k := 0) (by decide)]; exact hv0) dc_L_law_183 ?_
      refine kw_iload X dc_L_law_184 rfl ?_
      refine kw_i2l (v := (nI n).toInt64) X dc_L_law_186 rfl ?_
      refine kw_lcmp (v := 0) X dc_L_law_187 (lg_cmp_0 _) ?_
      refine kw_if_eq (tgt := 193) X dc_L_law_188 (by decide) (fun _ => ?_) (fun h9 => absurd rfl h9)
      refine kw_goto (tgt := 895) X dc_L_law_193 (by decide) ?_
      refine kw_kill 5 ?_
      refine kw_kill 6 ?_
      exact K _ _ _ _ _ _ _ _ _ _ _ hP2 hC2
  · obtain ⟨fr0, hr0⟩ := rfP_0 hP
    have h13 := rfP_13 hP
    have h16 := csP_16 hC
    refine kw_aload_n X dc_L_law_128 rfl rfl ?_
    refine kw_aload_n X dc_L_law_129 rfl rfl ?_
    refine kw_iload X dc_L_law_130 rfl ?_
    refine kw_iconst (v := (nI 1)) X dc_L_law_132 (by decide) ?_
    refine kw_iadd (v := nI (3 * k + 1)) X dc_L_law_133 (nI_add _ _) ?_
    refine kl_sld (v := xs (3 * k + 1)) X hX hbl hbA (vp_in_nI (by omega) (by omega)) (by rw [nI_clamp (by omega)]) dc_L_law_134 ?_
    refine kw_aload_n X dc_L_law_135 rfl rfl ?_
    refine kw_iload X dc_L_law_136 rfl ?_
    refine kw_iconst (v := (nI 2)) X dc_L_law_138 (by decide) ?_
    refine kw_iadd (v := nI (3 * k + 2)) X dc_L_law_139 (nI_add _ _) ?_
    refine kl_sld (v := xs (3 * k + 2)) X hX hbl hbA (vp_in_nI (by omega) (by omega)) (by rw [nI_clamp (by omega)]) dc_L_law_140 ?_
    refine kw_aload_n X dc_L_law_141 rfl rfl ?_
    refine kx_callSW X hEx hN (ct_LaddF1 hl0 ad n lo hi bg cs T wC hC o f _ _ hok) (cw_SW 4 X wd_251 wd_252 wd_0 wd_253 rfl rfl (by decide +kernel) ⟨Nat.le_of_ble_eq_true rfl, Nat.le_of_ble_eq_true rfl⟩) (List.range' 13 17) (kb_getE h13 (kb_len17 h16)) (by decide) (fun _ _ h => by obtain ⟨_, w1, rfl, h2⟩ := h; exact Nat.le_of_eq (kb_len17 (csP_16 h2)).symm) rfl rfl (Nat.le_of_ble_eq_true rfl) dc_L_law_142 hf (fun r w hp => ?_)
    obtain ⟨rfl, w1, rfl, hC2⟩ := hp
    refine kw_cv (ws' := kl_w kL wR w1 o f) (kb_putE h13 (kb_len17 h16) (kb_len17 (csP_16 hC2))) rfl rfl ?_
    refine kw_istore X dc_L_law_145 (by decide) ?_
    refine kw_aload_n X dc_L_law_147 rfl rfl ?_
    refine kw_aload_n X dc_L_law_148 rfl rfl ?_
    refine kw_iload X dc_L_law_149 rfl ?_
    refine kw_iconst (v := (nI 1)) X dc_L_law_151 (by decide) ?_
    refine kw_iadd (v := nI (3 * k + 1)) X dc_L_law_152 (nI_add _ _) ?_
    refine kl_sld (v := xs (3 * k + 1)) X hX hbl hbA (vp_in_nI (by omega) (by omega)) (by rw [nI_clamp (by omega)]) dc_L_law_153 ?_
    refine kw_aload_n X dc_L_law_154 rfl rfl ?_
    refine kw_iload X dc_L_law_155 rfl ?_
    refine kw_iconst (v := (nI 2)) X dc_L_law_157 (by decide) ?_
    refine kw_iadd (v := nI (3 * k + 2)) X dc_L_law_158 (nI_add _ _) ?_
    refine kl_sld (v := xs (3 * k + 2)) X hX hbl hbA (vp_in_nI (by omega) (by omega)) (by rw [nI_clamp (by omega)]) dc_L_law_159 ?_
    refine kw_callVI X kEw hE 0 hr0 rfl (ct_RaddF1 rd n lo hi bg cs T t S wR hP _ _ hok) (cw_V 2 X wd_665 wd_666 wd_667 wd_8 wd_668 rfl rfl (by decide +kernel) ⟨Nat.le_of_ble_eq_true rfl, Nat.le_of_ble_eq_true rfl⟩) (List.range' 0 13) (kb_get0 h13) (by decide) (fun _ _ h => Nat.le_of_eq (rfP_13 h).symm) rfl rfl (Nat.le_of_ble_eq_true rfl) dc_L_law_160 hf (fun r w hp => ?_)
    have hP1 := hp
    refine kw_cv (ws' := kl_w kL w w1 o f) (kb_put0 h13 (rfP_13 hP1)) rfl rfl ?_
    refine kw_istore X dc_L_law_163 (by decide) ?_
    refine kw_aload_n X dc_L_law_165 rfl rfl ?_
    obtain ⟨fr1, hr1⟩ := rfP_0 hP1
    have h131 := rfP_13 hP1
    refine kw_callVI X kEw hE 0 hr1 rfl (ct_Zthrown rd _ _ _ _ _ _ _ _ _ hP1) (cw_V 0 X wd_661 wd_662 wd_663 wd_8 wd_664 rfl rfl (by decide +kernel) ⟨Nat.le_of_ble_eq_true rfl, Nat.le_of_ble_eq_true rfl⟩) (List.range' 0 13) (kb_get0 h131) (by decide) (fun _ _ h => Nat.le_of_eq (rfP_13 h.2).symm) rfl rfl (Nat.le_of_ble_eq_true rfl) dc_L_law_166 hf (fun r w hp => ?_)
    obtain ⟨rfl, hP2⟩ := hp
    refine kw_cv (ws' := kl_w kL w w1 o f) (kb_put0 h131 (rfP_13 hP2)) rfl rfl ?_
    refine kw_iload X dc_L_law_169 rfl ?_
    refine kw_icmp_eq (tgt := 176) X dc_L_law_171 (by decide) (fun _ => ?_) (fun hne => absurd rfl hne)
    refine kw_iload X dc_L_law_176 rfl ?_
    refine kw_if_ne (tgt := 193) X dc_L_law_178 (by decide) (fun _ => ?_) (fun h9 => absurd h9 (by decide))
    refine kw_goto (tgt := 895) X dc_L_law_193 (by decide) ?_
    refine kw_kill 5 ?_
    refine kw_kill 6 ?_
    exact K _ _ _ _ _ _ _ _ _ _ _ hP2 hC2
set_option maxRecDepth 100000 in
set_option maxHeartbeats 1000000 in
theorem kl_board {p : Program} {l : Launch} {e : Env} {s : State} {m : MethodId} {args : Array Value} {below : List Frame} {meth : Method} {c : Code} {Q : State → Prop} {D : va_G} {kI kB kC kL : ClassId} {A : Nat → Prop} {c0 : Cond} (X : kw_X p s m args c cd_L_law 7 "CoinStringsLaw" (c0 :: gw_tbl) D cl_v (kt kI kB kC kL) A) (hl0 : l.stackTraces = false) (hEx : kEx s) (hN : kx_NA A s) {b L : Nat} {xs : Nat → Int32} (hX : va_X b L xs s s.heap) (hbl : b < s.heap.size) (hbA : ¬ A b) (hL : L ≤ 1536) {ad rd : Nat → Nat} {o k : Nat} (hk : 3 * k + 3 ≤ L) {cells slots : Nat} (hf : cells + 1 ≤ room_1.cells ∧ slots + 6 ≤ room_1.slots) {n : Nat} {lo hi : Nat → Nat} {bg : Bool} {cs T : List Nat} {t : Nat} {S : Bool} {wR wC : va_W} {f : Nat → Int64} (hP : rfP kI rd n lo hi bg cs T t S wR) (hC : csP kI kB kC ad n lo hi bg cs T wC) (K : kl_K p l e s m args below meth c D A Q kI kB kC kL b ad rd o k cells slots) : kw_W p l e room_1 s m args below meth c 7 D cl_v A cells slots Q (kl_w kL wR wC o f) 196 (kl_lv b ad rd o k) [] := by
  have hE := hEx.1
  by_cases hok : bdOk (xs (3 * k + 1)) (xs (3 * k + 2))
  · by_cases hz : bg = true ∨ n ≠ 0
    · obtain ⟨fr0, hr0⟩ := rfP_0 hP
      have h13 := rfP_13 hP
      have h16 := csP_16 hC
      refine kw_aload_n X dc_L_law_196 rfl rfl ?_
      refine kw_aload_n X dc_L_law_197 rfl rfl ?_
      refine kw_iload X dc_L_law_198 rfl ?_
      refine kw_iconst (v := (nI 1)) X dc_L_law_200 (by decide) ?_
      refine kw_iadd (v := nI (3 * k + 1)) X dc_L_law_201 (nI_add _ _) ?_
      refine kl_sld (v := xs (3 * k + 1)) X hX hbl hbA (vp_in_nI (by omega) (by omega)) (by rw [nI_clamp (by omega)]) dc_L_law_202 ?_
      refine kw_aload_n X dc_L_law_203 rfl rfl ?_
      refine kw_iload X dc_L_law_204 rfl ?_
      refine kw_iconst (v := (nI 2)) X dc_L_law_206 (by decide) ?_
      refine kw_iadd (v := nI (3 * k + 2)) X dc_L_law_207 (nI_add _ _) ?_
      refine kl_sld (v := xs (3 * k + 2)) X hX hbl hbA (vp_in_nI (by omega) (by omega)) (by rw [nI_clamp (by omega)]) dc_L_law_208 ?_
      refine kw_aload_n X dc_L_law_209 rfl rfl ?_
      refine kx_callSW X hEx hN (ct_LboardF2 hl0 ad n lo hi bg cs T wC hC o f _ _ hok hz) (cw_SW 4 X wd_353 wd_354 wd_0 wd_355 rfl rfl (by decide +kernel) ⟨Nat.le_of_ble_eq_true rfl, Nat.le_of_ble_eq_true rfl⟩) (List.range' 13 17) (kb_getE h13 (kb_len17 h16)) (by decide) (fun _ _ h => by obtain ⟨_, w1, rfl, h2⟩ := h; exact Nat.le_of_eq (kb_len17 (csP_16 h2)).symm) rfl rfl (Nat.le_of_ble_eq_true rfl) dc_L_law_210 hf (fun r w hp => ?_)
      obtain ⟨rfl, w1, rfl, hC2⟩ := hp
      refine kw_cv (ws' := kl_w kL wR w1 o f) (kb_putE h13 (kb_len17 h16) (kb_len17 (csP_16 hC2))) rfl rfl ?_
      refine kw_istore X dc_L_law_213 (by decide) ?_
      refine kw_aload_n X dc_L_law_215 rfl rfl ?_
      refine kw_aload_n X dc_L_law_216 rfl rfl ?_
      refine kw_iload X dc_L_law_217 rfl ?_
      refine kw_iconst (v := (nI 1)) X dc_L_law_219 (by decide) ?_
      refine kw_iadd (v := nI (3 * k + 1)) X dc_L_law_220 (nI_add _ _) ?_
      refine kl_sld (v := xs (3 * k + 1)) X hX hbl hbA (vp_in_nI (by omega) (by omega)) (by rw [nI_clamp (by omega)]) dc_L_law_221 ?_
      refine kw_aload_n X dc_L_law_222 rfl rfl ?_
      refine kw_iload X dc_L_law_223 rfl ?_
      refine kw_iconst (v := (nI 2)) X dc_L_law_225 (by decide) ?_
      refine kw_iadd (v := nI (3 * k + 2)) X dc_L_law_226 (nI_add _ _) ?_
      refine kl_sld (v := xs (3 * k + 2)) X hX hbl hbA (vp_in_nI (by omega) (by omega)) (by rw [nI_clamp (by omega)]) dc_L_law_227 ?_
      refine kw_callVI X kEw hE 0 hr0 rfl (ct_RboardF2 rd n lo hi bg cs T t S wR hP _ _ hok hz) (cw_V 2 X wd_676 wd_677 wd_678 wd_8 wd_679 rfl rfl (by decide +kernel) ⟨Nat.le_of_ble_eq_true rfl, Nat.le_of_ble_eq_true rfl⟩) (List.range' 0 13) (kb_get0 h13) (by decide) (fun _ _ h => Nat.le_of_eq (rfP_13 h).symm) rfl rfl (Nat.le_of_ble_eq_true rfl) dc_L_law_228 hf (fun r w hp => ?_)
      have hP1 := hp
      refine kw_cv (ws' := kl_w kL w w1 o f) (kb_put0 h13 (rfP_13 hP1)) rfl rfl ?_
      refine kw_istore X dc_L_law_231 (by decide) ?_
      refine kw_aload_n X dc_L_law_233 rfl rfl ?_
      obtain ⟨fr1, hr1⟩ := rfP_0 hP1
      have h131 := rfP_13 hP1
      refine kw_callVI X kEw hE 0 hr1 rfl (ct_Zthrown rd _ _ _ _ _ _ _ _ _ hP1) (cw_V 0 X wd_661 wd_662 wd_663 wd_8 wd_664 rfl rfl (by decide +kernel) ⟨Nat.le_of_ble_eq_true rfl, Nat.le_of_ble_eq_true rfl⟩) (List.range' 0 13) (kb_get0 h131) (by decide) (fun _ _ h => Nat.le_of_eq (rfP_13 h.2).symm) rfl rfl (Nat.le_of_ble_eq_true rfl) dc_L_law_234 hf (fun r w hp => ?_)
      obtain ⟨rfl, hP2⟩ := hp
      refine kw_cv (ws' := kl_w kL w w1 o f) (kb_put0 h131 (rfP_13 hP2)) rfl rfl ?_
      refine kw_iload X dc_L_law_237 rfl ?_
      refine kw_icmp_eq (tgt := 244) X dc_L_law_239 (by decide) (fun _ => ?_) (fun hne => absurd rfl hne)
      refine kw_iload X dc_L_law_244 rfl ?_
      refine kw_if_ne (tgt := 261) X dc_L_law_246 (by decide) (fun _ => ?_) (fun h9 => absurd h9 (by decide))
      refine kw_goto (tgt := 895) X dc_L_law_261 (by decide) ?_
      refine kw_kill 5 ?_
      refine kw_kill 6 ?_
      exact K _ _ _ _ _ _ _ _ _ _ _ hP2 hC2
    · have hbg : bg = false := by
        cases bg
        · rfl
        · exact absurd (Or.inl rfl) hz
      subst hbg
      have hcs := csP_nil hC
      subst hcs
      have hn0 : n = 0 := by
        rcases Nat.eq_zero_or_pos n with z | z
        · exact z
        · exact absurd (Or.inr (by omega)) hz
      subst hn0
      obtain ⟨rr, cn, e1, e2, hfit⟩ := bdOk_ex hok
      obtain ⟨fr0, hr0⟩ := rfP_0 hP
      have h13 := rfP_13 hP
      have h16 := csP_16 hC
      refine kw_aload_n X dc_L_law_196 rfl rfl ?_
      refine kw_aload_n X dc_L_law_197 rfl rfl ?_
      refine kw_iload X dc_L_law_198 rfl ?_
      refine kw_iconst (v := (nI 1)) X dc_L_law_200 (by decide) ?_
      refine kw_iadd (v := nI (3 * k + 1)) X dc_L_law_201 (nI_add _ _) ?_
      refine kl_sld (v := nI rr) X hX hbl hbA (vp_in_nI (by omega) (by omega)) (by rw [nI_clamp (by omega)]; exact e1) dc_L_law_202 ?_
      refine kw_aload_n X dc_L_law_203 rfl rfl ?_
      refine kw_iload X dc_L_law_204 rfl ?_
      refine kw_iconst (v := (nI 2)) X dc_L_law_206 (by decide) ?_
      refine kw_iadd (v := nI (3 * k + 2)) X dc_L_law_207 (nI_add _ _) ?_
      refine kl_sld (v := nI cn) X hX hbl hbA (vp_in_nI (by omega) (by omega)) (by rw [nI_clamp (by omega)]; exact e2) dc_L_law_208 ?_
      refine kw_aload_n X dc_L_law_209 rfl rfl ?_
      refine kx_callSW X hEx hN (ct_LboardT ad lo hi T wC hC o f rr cn hfit) (cw_SW 4 X wd_353 wd_354 wd_0 wd_355 rfl rfl (by decide +kernel) ⟨Nat.le_of_ble_eq_true rfl, Nat.le_of_ble_eq_true rfl⟩) (List.range' 13 17) (kb_getE h13 (kb_len17 h16)) (by decide) (fun _ _ h => by obtain ⟨_, w1, f2, rfl, h2, _⟩ := h; exact Nat.le_of_eq (kb_len17 (csP_16 h2)).symm) rfl rfl (Nat.le_of_ble_eq_true rfl) dc_L_law_210 hf (fun r w hp => ?_)
      obtain ⟨rfl, w1, f2, rfl, hC2, hv0⟩ := hp
      refine kw_cv (ws' := kl_w kL wR w1 o f2) (kb_putE h13 (kb_len17 h16) (kb_len17 (csP_16 hC2))) rfl rfl ?_
      refine kw_istore X dc_L_law_213 (by decide) ?_
      refine kw_aload_n X dc_L_law_215 rfl rfl ?_
      refine kw_aload_n X dc_L_law_216 rfl rfl ?_
      refine kw_iload X dc_L_law_217 rfl ?_
      refine kw_iconst (v := (nI 1)) X dc_L_law_219 (by decide) ?_
      refine kw_iadd (v := nI (3 * k + 1)) X dc_L_law_220 (nI_add _ _) ?_
      refine kl_sld (v := nI rr) X hX hbl hbA (vp_in_nI (by omega) (by omega)) (by rw [nI_clamp (by omega)]; exact e1) dc_L_law_221 ?_
      refine kw_aload_n X dc_L_law_222 rfl rfl ?_
      refine kw_iload X dc_L_law_223 rfl ?_
      refine kw_iconst (v := (nI 2)) X dc_L_law_225 (by decide) ?_
      refine kw_iadd (v := nI (3 * k + 2)) X dc_L_law_226 (nI_add _ _) ?_
      refine kl_sld (v := nI cn) X hX hbl hbA (vp_in_nI (by omega) (by omega)) (by rw [nI_clamp (by omega)]; exact e2) dc_L_law_227 ?_
      refine kw_callVI X kEw hE 0 hr0 rfl (ct_RboardT rd lo hi T t S wR hP rr cn hfit) (cw_V 2 X wd_676 wd_677 wd_678 wd_8 wd_679 rfl rfl (by decide +kernel) ⟨Nat.le_of_ble_eq_true rfl, Nat.le_of_ble_eq_true rfl⟩) (List.range' 0 13) (kb_get0 h13) (by decide) (fun _ _ h => Nat.le_of_eq (rfP_13 h.2).symm) rfl rfl (Nat.le_of_ble_eq_true rfl) dc_L_law_228 hf (fun r w hp => ?_)
      obtain ⟨rfl, hP1⟩ := hp
      refine kw_cv (ws' := kl_w kL w w1 o f2) (kb_put0 h13 (rfP_13 hP1)) rfl rfl ?_
      refine kw_istore X dc_L_law_231 (by decide) ?_
      refine kw_aload_n X dc_L_law_233 rfl rfl ?_
      obtain ⟨fr1, hr1⟩ := rfP_0 hP1
      have h131 := rfP_13 hP1
      refine kw_callVI X kEw hE 0 hr1 rfl (ct_Zthrown rd _ _ _ _ _ _ _ _ _ hP1) (cw_V 0 X wd_661 wd_662 wd_663 wd_8 wd_664 rfl rfl (by decide +kernel) ⟨Nat.le_of_ble_eq_true rfl, Nat.le_of_ble_eq_true rfl⟩) (List.range' 0 13) (kb_get0 h131) (by decide) (fun _ _ h => Nat.le_of_eq (rfP_13 h.2).symm) rfl rfl (Nat.le_of_ble_eq_true rfl) dc_L_law_234 hf (fun r w hp => ?_)
      obtain ⟨rfl, hP2⟩ := hp
      refine kw_cv (ws' := kl_w kL w w1 o f2) (kb_put0 h131 (rfP_13 hP2)) rfl rfl ?_
      refine kw_iload X dc_L_law_237 rfl ?_
      refine kw_icmp_eq (tgt := 244) X dc_L_law_239 (by decide) (fun _ => ?_) (fun hne => absurd rfl hne)
      refine kw_iload X dc_L_law_244 rfl ?_
      refine kw_if_ne (tgt := 261) X dc_L_law_246 (by decide) (fun h9 => absurd rfl h9) (fun _ => ?_)
      refine kw_aload_n X dc_L_law_249 rfl rfl ?_
      refine kw_iconst (v := (nI 0)) X dc_L_law_250 (by decide) ?_
      refine kw_lald (v := (nI (gm_ads (0, lo, hi) (bd_all rr cn (rr * cn))).1).toInt64) X 29 3 (kb_at29 (rfP_13 hP2) (csP_16 hC2)) rfl (kq_in (k := 0) (by decide) (by decide)) (by rw [kq_cl (k := 0) (by decide)]; exact hv0) dc_L_law_251 ?_
      refine kw_iload X dc_L_law_252 rfl ?_
      refine kw_i2l (v := (nI (gm_ads (0, lo, hi) (bd_all rr cn (rr * cn))).1).toInt64) X dc_L_law_254 rfl ?_
      refine kw_lcmp (v := 0) X dc_L_law_255 (lg_cmp_0 _) ?_
      refine kw_if_eq (tgt := 261) X dc_L_law_256 (by decide) (fun _ => ?_) (fun h9 => absurd rfl h9)
      refine kw_goto (tgt := 895) X dc_L_law_261 (by decide) ?_
      refine kw_kill 5 ?_
      refine kw_kill 6 ?_
      exact K _ _ _ _ _ _ _ _ _ _ _ hP2 hC2
  · obtain ⟨fr0, hr0⟩ := rfP_0 hP
    have h13 := rfP_13 hP
    have h16 := csP_16 hC
    refine kw_aload_n X dc_L_law_196 rfl rfl ?_
    refine kw_aload_n X dc_L_law_197 rfl rfl ?_
    refine kw_iload X dc_L_law_198 rfl ?_
    refine kw_iconst (v := (nI 1)) X dc_L_law_200 (by decide) ?_
    refine kw_iadd (v := nI (3 * k + 1)) X dc_L_law_201 (nI_add _ _) ?_
    refine kl_sld (v := xs (3 * k + 1)) X hX hbl hbA (vp_in_nI (by omega) (by omega)) (by rw [nI_clamp (by omega)]) dc_L_law_202 ?_
    refine kw_aload_n X dc_L_law_203 rfl rfl ?_
    refine kw_iload X dc_L_law_204 rfl ?_
    refine kw_iconst (v := (nI 2)) X dc_L_law_206 (by decide) ?_
    refine kw_iadd (v := nI (3 * k + 2)) X dc_L_law_207 (nI_add _ _) ?_
    refine kl_sld (v := xs (3 * k + 2)) X hX hbl hbA (vp_in_nI (by omega) (by omega)) (by rw [nI_clamp (by omega)]) dc_L_law_208 ?_
    refine kw_aload_n X dc_L_law_209 rfl rfl ?_
    refine kx_callSW X hEx hN (ct_LboardF1 hl0 ad n lo hi bg cs T wC hC o f _ _ hok) (cw_SW 4 X wd_353 wd_354 wd_0 wd_355 rfl rfl (by decide +kernel) ⟨Nat.le_of_ble_eq_true rfl, Nat.le_of_ble_eq_true rfl⟩) (List.range' 13 17) (kb_getE h13 (kb_len17 h16)) (by decide) (fun _ _ h => by obtain ⟨_, w1, rfl, h2⟩ := h; exact Nat.le_of_eq (kb_len17 (csP_16 h2)).symm) rfl rfl (Nat.le_of_ble_eq_true rfl) dc_L_law_210 hf (fun r w hp => ?_)
    obtain ⟨rfl, w1, rfl, hC2⟩ := hp
    refine kw_cv (ws' := kl_w kL wR w1 o f) (kb_putE h13 (kb_len17 h16) (kb_len17 (csP_16 hC2))) rfl rfl ?_
    refine kw_istore X dc_L_law_213 (by decide) ?_
    refine kw_aload_n X dc_L_law_215 rfl rfl ?_
    refine kw_aload_n X dc_L_law_216 rfl rfl ?_
    refine kw_iload X dc_L_law_217 rfl ?_
    refine kw_iconst (v := (nI 1)) X dc_L_law_219 (by decide) ?_
    refine kw_iadd (v := nI (3 * k + 1)) X dc_L_law_220 (nI_add _ _) ?_
    refine kl_sld (v := xs (3 * k + 1)) X hX hbl hbA (vp_in_nI (by omega) (by omega)) (by rw [nI_clamp (by omega)]) dc_L_law_221 ?_
    refine kw_aload_n X dc_L_law_222 rfl rfl ?_
    refine kw_iload X dc_L_law_223 rfl ?_
    refine kw_iconst (v := (nI 2)) X dc_L_law_225 (by decide) ?_
    refine kw_iadd (v := nI (3 * k + 2)) X dc_L_law_226 (nI_add _ _) ?_
    refine kl_sld (v := xs (3 * k + 2)) X hX hbl hbA (vp_in_nI (by omega) (by omega)) (by rw [nI_clamp (by omega)]) dc_L_law_227 ?_
    refine kw_callVI X kEw hE 0 hr0 rfl (ct_RboardF1 rd n lo hi bg cs T t S wR hP _ _ hok) (cw_V 2 X wd_676 wd_677 wd_678 wd_8 wd_679 rfl rfl (by decide +kernel) ⟨Nat.le_of_ble_eq_true rfl, Nat.le_of_ble_eq_true rfl⟩) (List.range' 0 13) (kb_get0 h13) (by decide) (fun _ _ h => Nat.le_of_eq (rfP_13 h).symm) rfl rfl (Nat.le_of_ble_eq_true rfl) dc_L_law_228 hf (fun r w hp => ?_)
    have hP1 := hp
    refine kw_cv (ws' := kl_w kL w w1 o f) (kb_put0 h13 (rfP_13 hP1)) rfl rfl ?_
    refine kw_istore X dc_L_law_231 (by decide) ?_
    refine kw_aload_n X dc_L_law_233 rfl rfl ?_
    obtain ⟨fr1, hr1⟩ := rfP_0 hP1
    have h131 := rfP_13 hP1
    refine kw_callVI X kEw hE 0 hr1 rfl (ct_Zthrown rd _ _ _ _ _ _ _ _ _ hP1) (cw_V 0 X wd_661 wd_662 wd_663 wd_8 wd_664 rfl rfl (by decide +kernel) ⟨Nat.le_of_ble_eq_true rfl, Nat.le_of_ble_eq_true rfl⟩) (List.range' 0 13) (kb_get0 h131) (by decide) (fun _ _ h => Nat.le_of_eq (rfP_13 h.2).symm) rfl rfl (Nat.le_of_ble_eq_true rfl) dc_L_law_234 hf (fun r w hp => ?_)
    obtain ⟨rfl, hP2⟩ := hp
    refine kw_cv (ws' := kl_w kL w w1 o f) (kb_put0 h131 (rfP_13 hP2)) rfl rfl ?_
    refine kw_iload X dc_L_law_237 rfl ?_
    refine kw_icmp_eq (tgt := 244) X dc_L_law_239 (by decide) (fun _ => ?_) (fun hne => absurd rfl hne)
    refine kw_iload X dc_L_law_244 rfl ?_
    refine kw_if_ne (tgt := 261) X dc_L_law_246 (by decide) (fun _ => ?_) (fun h9 => absurd h9 (by decide))
    refine kw_goto (tgt := 895) X dc_L_law_261 (by decide) ?_
    refine kw_kill 5 ?_
    refine kw_kill 6 ?_
    exact K _ _ _ _ _ _ _ _ _ _ _ hP2 hC2
set_option maxRecDepth 100000 in
set_option maxHeartbeats 1000000 in
theorem kl_begin {p : Program} {l : Launch} {e : Env} {s : State} {m : MethodId} {args : Array Value} {below : List Frame} {meth : Method} {c : Code} {Q : State → Prop} {D : va_G} {kI kB kC kL : ClassId} {A : Nat → Prop} {c0 : Cond} (X : kw_X p s m args c cd_L_law 7 "CoinStringsLaw" (c0 :: gw_tbl) D cl_v (kt kI kB kC kL) A) (hl0 : l.stackTraces = false) (hEx : kEx s) (hN : kx_NA A s) {b L : Nat} {xs : Nat → Int32} (hX : va_X b L xs s s.heap) (hbl : b < s.heap.size) (hbA : ¬ A b) (hL : L ≤ 1536) {ad rd : Nat → Nat} {o k : Nat} (hk : 3 * k + 3 ≤ L) {cells slots : Nat} (hf : cells + 1 ≤ room_1.cells ∧ slots + 6 ≤ room_1.slots) {n : Nat} {lo hi : Nat → Nat} {bg : Bool} {cs T : List Nat} {t : Nat} {S : Bool} {wR wC : va_W} {f : Nat → Int64} (hP : rfP kI rd n lo hi bg cs T t S wR) (hC : csP kI kB kC ad n lo hi bg cs T wC) (K : kl_K p l e s m args below meth c D A Q kI kB kC kL b ad rd o k cells slots) : kw_W p l e room_1 s m args below meth c 7 D cl_v A cells slots Q (kl_w kL wR wC o f) 264 (kl_lv b ad rd o k) [] := by
  have hE := hEx.1
  by_cases hz : bg = true ∨ n = 0
  · obtain ⟨fr0, hr0⟩ := rfP_0 hP
    have h13 := rfP_13 hP
    have h16 := csP_16 hC
    refine kw_aload_n X dc_L_law_264 rfl rfl ?_
    refine kx_callSW X hEx hN (ct_LbeginF hl0 ad n lo hi bg cs T wC hC hz) (cw_SW 1 X wd_368 wd_369 wd_0 wd_370 rfl rfl (by decide +kernel) ⟨Nat.le_of_ble_eq_true rfl, Nat.le_of_ble_eq_true rfl⟩) (List.range' 13 16) (kb_getN h13 h16) (by decide) (fun _ _ h => by obtain ⟨_, w1, rfl, h2⟩ := h; rw [List.append_nil]; exact Nat.le_of_eq (csP_16 h2).symm) rfl rfl (Nat.le_of_ble_eq_true rfl) dc_L_law_265 hf (fun r w hp => ?_)
    obtain ⟨rfl, w1, rfl, hC2⟩ := hp
    rw [List.append_nil]
    refine kw_cv (ws' := kl_w kL wR w1 o f) (kb_put h13 h16 (csP_16 hC2)) rfl rfl ?_
    refine kw_istore X dc_L_law_268 (by decide) ?_
    refine kw_aload_n X dc_L_law_270 rfl rfl ?_
    refine kw_callVV X kEw hE 0 hr0 rfl (ct_RbeginF rd n lo hi bg cs T t S wR hP hz) (cw_V 0 X wd_680 wd_681 wd_682 wd_8 wd_683 rfl rfl (by decide +kernel) ⟨Nat.le_of_ble_eq_true rfl, Nat.le_of_ble_eq_true rfl⟩) (List.range' 0 13) (kb_get0 h13) (by decide) (fun _ h => Nat.le_of_eq (rfP_13 h).symm) rfl rfl (Nat.le_of_ble_eq_true rfl) dc_L_law_271 hf (fun w hp => ?_)
    have hP1 := hp
    refine kw_cv (ws' := kl_w kL w w1 o f) (kb_put0 h13 (rfP_13 hP1)) rfl rfl ?_
    refine kw_aload_n X dc_L_law_274 rfl rfl ?_
    obtain ⟨fr1, hr1⟩ := rfP_0 hP1
    have h131 := rfP_13 hP1
    refine kw_callVI X kEw hE 0 hr1 rfl (ct_Zthrown rd _ _ _ _ _ _ _ _ _ hP1) (cw_V 0 X wd_661 wd_662 wd_663 wd_8 wd_664 rfl rfl (by decide +kernel) ⟨Nat.le_of_ble_eq_true rfl, Nat.le_of_ble_eq_true rfl⟩) (List.range' 0 13) (kb_get0 h131) (by decide) (fun _ _ h => Nat.le_of_eq (rfP_13 h.2).symm) rfl rfl (Nat.le_of_ble_eq_true rfl) dc_L_law_275 hf (fun r w hp => ?_)
    obtain ⟨rfl, hP2⟩ := hp
    refine kw_cv (ws' := kl_w kL w w1 o f) (kb_put0 h131 (rfP_13 hP2)) rfl rfl ?_
    refine kw_iload X dc_L_law_278 rfl ?_
    refine kw_icmp_eq (tgt := 285) X dc_L_law_280 (by decide) (fun _ => ?_) (fun hne => absurd rfl hne)
    refine kw_goto (tgt := 895) X dc_L_law_285 (by decide) ?_
    refine kw_kill 5 ?_
    refine kw_kill 6 ?_
    exact K _ _ _ _ _ _ _ _ _ _ _ hP2 hC2
  · have hbg : bg = false := by
      cases bg
      · rfl
      · exact absurd (Or.inl rfl) hz
    subst hbg
    have hcs := csP_nil hC
    subst hcs
    have hn0 : n ≠ 0 := fun z => hz (Or.inr z)
    obtain ⟨fr0, hr0⟩ := rfP_0 hP
    have h13 := rfP_13 hP
    have h16 := csP_16 hC
    refine kw_aload_n X dc_L_law_264 rfl rfl ?_
    refine kx_callSW X hEx hN (ct_LbeginT ad n lo hi T wC hC hn0) (cw_SW 1 X wd_368 wd_369 wd_0 wd_370 rfl rfl (by decide +kernel) ⟨Nat.le_of_ble_eq_true rfl, Nat.le_of_ble_eq_true rfl⟩) (List.range' 13 16) (kb_getN h13 h16) (by decide) (fun _ _ h => by obtain ⟨_, w1, rfl, h2⟩ := h; rw [List.append_nil]; exact Nat.le_of_eq (csP_16 h2).symm) rfl rfl (Nat.le_of_ble_eq_true rfl) dc_L_law_265 hf (fun r w hp => ?_)
    obtain ⟨rfl, w1, rfl, hC2⟩ := hp
    rw [List.append_nil]
    refine kw_cv (ws' := kl_w kL wR w1 o f) (kb_put h13 h16 (csP_16 hC2)) rfl rfl ?_
    refine kw_istore X dc_L_law_268 (by decide) ?_
    refine kw_aload_n X dc_L_law_270 rfl rfl ?_
    refine kw_callVV X kEw hE 0 hr0 rfl (ct_RbeginT rd n lo hi T t S wR hP hn0) (cw_V 0 X wd_680 wd_681 wd_682 wd_8 wd_683 rfl rfl (by decide +kernel) ⟨Nat.le_of_ble_eq_true rfl, Nat.le_of_ble_eq_true rfl⟩) (List.range' 0 13) (kb_get0 h13) (by decide) (fun _ h => Nat.le_of_eq (rfP_13 h).symm) rfl rfl (Nat.le_of_ble_eq_true rfl) dc_L_law_271 hf (fun w hp => ?_)
    have hP1 := hp
    refine kw_cv (ws' := kl_w kL w w1 o f) (kb_put0 h13 (rfP_13 hP1)) rfl rfl ?_
    refine kw_aload_n X dc_L_law_274 rfl rfl ?_
    obtain ⟨fr1, hr1⟩ := rfP_0 hP1
    have h131 := rfP_13 hP1
    refine kw_callVI X kEw hE 0 hr1 rfl (ct_Zthrown rd _ _ _ _ _ _ _ _ _ hP1) (cw_V 0 X wd_661 wd_662 wd_663 wd_8 wd_664 rfl rfl (by decide +kernel) ⟨Nat.le_of_ble_eq_true rfl, Nat.le_of_ble_eq_true rfl⟩) (List.range' 0 13) (kb_get0 h131) (by decide) (fun _ _ h => Nat.le_of_eq (rfP_13 h.2).symm) rfl rfl (Nat.le_of_ble_eq_true rfl) dc_L_law_275 hf (fun r w hp => ?_)
    obtain ⟨rfl, hP2⟩ := hp
    refine kw_cv (ws' := kl_w kL w w1 o f) (kb_put0 h131 (rfP_13 hP2)) rfl rfl ?_
    refine kw_iload X dc_L_law_278 rfl ?_
    refine kw_icmp_eq (tgt := 285) X dc_L_law_280 (by decide) (fun _ => ?_) (fun hne => absurd rfl hne)
    refine kw_goto (tgt := 895) X dc_L_law_285 (by decide) ?_
    refine kw_kill 5 ?_
    refine kw_kill 6 ?_
    exact K _ _ _ _ _ _ _ _ _ _ _ hP2 hC2
set_option maxRecDepth 100000 in
set_option maxHeartbeats 1000000 in
theorem kl_clear {p : Program} {l : Launch} {e : Env} {s : State} {m : MethodId} {args : Array Value} {below : List Frame} {meth : Method} {c : Code} {Q : State → Prop} {D : va_G} {kI kB kC kL : ClassId} {A : Nat → Prop} {c0 : Cond} (X : kw_X p s m args c cd_L_law 7 "CoinStringsLaw" (c0 :: gw_tbl) D cl_v (kt kI kB kC kL) A) (hl0 : l.stackTraces = false) (hEx : kEx s) (hN : kx_NA A s) {b L : Nat} {xs : Nat → Int32} (hX : va_X b L xs s s.heap) (hbl : b < s.heap.size) (hbA : ¬ A b) (hL : L ≤ 1536) {ad rd : Nat → Nat} {o k : Nat} (hk : 3 * k + 3 ≤ L) {cells slots : Nat} (hf : cells + 1 ≤ room_1.cells ∧ slots + 6 ≤ room_1.slots) {n : Nat} {lo hi : Nat → Nat} {bg : Bool} {cs T : List Nat} {t : Nat} {S : Bool} {wR wC : va_W} {f : Nat → Int64} (hP : rfP kI rd n lo hi bg cs T t S wR) (hC : csP kI kB kC ad n lo hi bg cs T wC) (K : kl_K p l e s m args below meth c D A Q kI kB kC kL b ad rd o k cells slots) : kw_W p l e room_1 s m args below meth c 7 D cl_v A cells slots Q (kl_w kL wR wC o f) 288 (kl_lv b ad rd o k) [] := by
  have hE := hEx.1
  obtain ⟨fr0, hr0⟩ := rfP_0 hP
  have h13 := rfP_13 hP
  have h16 := csP_16 hC
  refine kw_aload_n X dc_L_law_288 rfl rfl ?_
  obtain ⟨fc0, hc0⟩ := csP_0 hC
  refine kw_callVV X kEw hE 0 hc0 rfl (ct_Cclear ad n lo hi bg cs T wC hC) (cw_V 0 X wd_152 wd_153 wd_154 wd_1 wd_155 rfl rfl (by decide +kernel) ⟨Nat.le_of_ble_eq_true rfl, Nat.le_of_ble_eq_true rfl⟩) (List.range' 13 16) (kb_get h13 h16) (by decide) (fun _ h => Nat.le_of_eq (csP_16 h).symm) rfl rfl (Nat.le_of_ble_eq_true rfl) dc_L_law_289 ⟨Nat.le_of_succ_le hf.1, Nat.le_trans (Nat.le_add_right _ 6) hf.2⟩ (fun w hp => ?_)
  have hC2 := hp
  refine kw_cv (ws' := kl_w kL wR w o f) (kb_put h13 h16 (csP_16 hC2)) rfl rfl ?_
  refine kw_aload_n X dc_L_law_292 rfl rfl ?_
  refine kw_callVV X kEw hE 0 hr0 rfl (ct_Rclear rd n lo hi bg cs T t S wR hP) (cw_V 0 X wd_684 wd_685 wd_686 wd_8 wd_687 rfl rfl (by decide +kernel) ⟨Nat.le_of_ble_eq_true rfl, Nat.le_of_ble_eq_true rfl⟩) (List.range' 0 13) (kb_get0 h13) (by decide) (fun _ h => Nat.le_of_eq (rfP_13 h).symm) rfl rfl (Nat.le_of_ble_eq_true rfl) dc_L_law_293 ⟨Nat.le_of_succ_le hf.1, Nat.le_trans (Nat.le_add_right _ 6) hf.2⟩ (fun w9 hp => ?_)
  have hP2 := hp
  refine kw_cv (ws' := kl_w kL w9 w o f) (kb_put0 h13 (rfP_13 hP2)) rfl rfl ?_
  refine kw_goto (tgt := 895) X dc_L_law_296 (by decide) ?_
  refine kw_widen (Nat.le_succ _) (Nat.le_add_right _ 6) ?_
  exact K _ _ _ _ _ _ _ _ _ _ _ hP2 hC2
set_option maxRecDepth 100000 in
set_option maxHeartbeats 1000000 in
theorem kl_turn {p : Program} {l : Launch} {e : Env} {s : State} {m : MethodId} {args : Array Value} {below : List Frame} {meth : Method} {c : Code} {Q : State → Prop} {D : va_G} {kI kB kC kL : ClassId} {A : Nat → Prop} {c0 : Cond} (X : kw_X p s m args c cd_L_law 7 "CoinStringsLaw" (c0 :: gw_tbl) D cl_v (kt kI kB kC kL) A) (hl0 : l.stackTraces = false) (hEx : kEx s) (hN : kx_NA A s) {b L : Nat} {xs : Nat → Int32} (hX : va_X b L xs s s.heap) (hbl : b < s.heap.size) (hbA : ¬ A b) (hL : L ≤ 1536) {ad rd : Nat → Nat} {o k : Nat} (hk : 3 * k + 3 ≤ L) {cells slots : Nat} (hf : cells + 1 ≤ room_1.cells ∧ slots + 6 ≤ room_1.slots) {n : Nat} {lo hi : Nat → Nat} {bg : Bool} {cs T : List Nat} {t : Nat} {S : Bool} {wR wC : va_W} {f : Nat → Int64} (hP : rfP kI rd n lo hi bg cs T t S wR) (hC : csP kI kB kC ad n lo hi bg cs T wC) (K : kl_K p l e s m args below meth c D A Q kI kB kC kL b ad rd o k cells slots) : kw_W p l e room_1 s m args below meth c 7 D cl_v A cells slots Q (kl_w kL wR wC o f) 443 (kl_lv b ad rd o k) [] := by
  have hE := hEx.1
  obtain ⟨fr0, hr0⟩ := rfP_0 hP
  have h13 := rfP_13 hP
  have h16 := csP_16 hC
  refine kw_aload_n X dc_L_law_443 rfl rfl ?_
  obtain ⟨fc0, hc0⟩ := csP_0 hC
  refine kw_callVI X kEw hE 0 hc0 rfl (ct_Cturn ad n lo hi bg cs T wC hC) (cw_V 0 X wd_164 wd_165 wd_166 wd_1 wd_167 rfl rfl (by decide +kernel) ⟨Nat.le_of_ble_eq_true rfl, Nat.le_of_ble_eq_true rfl⟩) (List.range' 13 16) (kb_get h13 h16) (by decide) (fun _ _ h => Nat.le_of_eq (csP_16 h.2).symm) rfl rfl (Nat.le_of_ble_eq_true rfl) dc_L_law_444 ⟨Nat.le_of_succ_le hf.1, Nat.le_trans (Nat.le_add_right _ 6) hf.2⟩ (fun r w hp => ?_)
  obtain ⟨rfl, hC2⟩ := hp
  refine kw_cv (ws' := kl_w kL wR w o f) (kb_put h13 h16 (csP_16 hC2)) rfl rfl ?_
  refine kw_aload_n X dc_L_law_447 rfl rfl ?_
  refine kw_callVI X kEw hE 0 hr0 rfl (ct_Rturn rd n lo hi bg cs T t S wR hP) (cw_V 0 X wd_748 wd_749 wd_750 wd_8 wd_751 rfl rfl (by decide +kernel) ⟨Nat.le_of_ble_eq_true rfl, Nat.le_of_ble_eq_true rfl⟩) (List.range' 0 13) (kb_get0 h13) (by decide) (fun _ _ h => Nat.le_of_eq (rfP_13 h.2).symm) rfl rfl (Nat.le_of_ble_eq_true rfl) dc_L_law_448 ⟨Nat.le_of_succ_le hf.1, Nat.le_trans (Nat.le_add_right _ 6) hf.2⟩ (fun r9 w9 hp => ?_)
  obtain ⟨rfl, hP2⟩ := hp
  refine kw_cv (ws' := kl_w kL w9 w o f) (kb_put0 h13 (rfP_13 hP2)) rfl rfl ?_
  refine kw_icmp_eq (tgt := 895) X dc_L_law_451 (by decide) (fun _ => ?_) (fun hne => absurd rfl hne)
  refine kw_widen (Nat.le_succ _) (Nat.le_add_right _ 6) ?_
  exact K _ _ _ _ _ _ _ _ _ _ _ hP2 hC2
set_option maxRecDepth 100000 in
set_option maxHeartbeats 1000000 in
theorem kl_left {p : Program} {l : Launch} {e : Env} {s : State} {m : MethodId} {args : Array Value} {below : List Frame} {meth : Method} {c : Code} {Q : State → Prop} {D : va_G} {kI kB kC kL : ClassId} {A : Nat → Prop} {c0 : Cond} (X : kw_X p s m args c cd_L_law 7 "CoinStringsLaw" (c0 :: gw_tbl) D cl_v (kt kI kB kC kL) A) (hl0 : l.stackTraces = false) (hEx : kEx s) (hN : kx_NA A s) {b L : Nat} {xs : Nat → Int32} (hX : va_X b L xs s s.heap) (hbl : b < s.heap.size) (hbA : ¬ A b) (hL : L ≤ 1536) {ad rd : Nat → Nat} {o k : Nat} (hk : 3 * k + 3 ≤ L) {cells slots : Nat} (hf : cells + 1 ≤ room_1.cells ∧ slots + 6 ≤ room_1.slots) {n : Nat} {lo hi : Nat → Nat} {bg : Bool} {cs T : List Nat} {t : Nat} {S : Bool} {wR wC : va_W} {f : Nat → Int64} (hP : rfP kI rd n lo hi bg cs T t S wR) (hC : csP kI kB kC ad n lo hi bg cs T wC) (K : kl_K p l e s m args below meth c D A Q kI kB kC kL b ad rd o k cells slots) : kw_W p l e room_1 s m args below meth c 7 D cl_v A cells slots Q (kl_w kL wR wC o f) 512 (kl_lv b ad rd o k) [] := by
  have hE := hEx.1
  obtain ⟨fr0, hr0⟩ := rfP_0 hP
  have h13 := rfP_13 hP
  have h16 := csP_16 hC
  refine kw_aload_n X dc_L_law_512 rfl rfl ?_
  obtain ⟨fc0, hc0⟩ := csP_0 hC
  refine kw_callVI X kEw hE 0 hc0 rfl (ct_Cleft ad n lo hi bg cs T wC hC) (cw_V 0 X wd_168 wd_169 wd_170 wd_1 wd_171 rfl rfl (by decide +kernel) ⟨Nat.le_of_ble_eq_true rfl, Nat.le_of_ble_eq_true rfl⟩) (List.range' 13 16) (kb_get h13 h16) (by decide) (fun _ _ h => Nat.le_of_eq (csP_16 h.2).symm) rfl rfl (Nat.le_of_ble_eq_true rfl) dc_L_law_513 ⟨Nat.le_of_succ_le hf.1, Nat.le_trans (Nat.le_add_right _ 6) hf.2⟩ (fun r w hp => ?_)
  obtain ⟨rfl, hC2⟩ := hp
  refine kw_cv (ws' := kl_w kL wR w o f) (kb_put h13 h16 (csP_16 hC2)) rfl rfl ?_
  refine kw_aload_n X dc_L_law_516 rfl rfl ?_
  refine kw_callVI X kEw hE 0 hr0 rfl (ct_Rleft rd n lo hi bg cs T t S wR hP) (cw_V 0 X wd_756 wd_757 wd_758 wd_8 wd_759 rfl rfl (by decide +kernel) ⟨Nat.le_of_ble_eq_true rfl, Nat.le_of_ble_eq_true rfl⟩) (List.range' 0 13) (kb_get0 h13) (by decide) (fun _ _ h => Nat.le_of_eq (rfP_13 h.2).symm) rfl rfl (Nat.le_of_ble_eq_true rfl) dc_L_law_517 ⟨Nat.le_of_succ_le hf.1, Nat.le_trans (Nat.le_add_right _ 6) hf.2⟩ (fun r9 w9 hp => ?_)
  obtain ⟨rfl, hP2⟩ := hp
  refine kw_cv (ws' := kl_w kL w9 w o f) (kb_put0 h13 (rfP_13 hP2)) rfl rfl ?_
  refine kw_icmp_eq (tgt := 895) X dc_L_law_520 (by decide) (fun _ => ?_) (fun hne => absurd rfl hne)
  refine kw_widen (Nat.le_succ _) (Nat.le_add_right _ 6) ?_
  exact K _ _ _ _ _ _ _ _ _ _ _ hP2 hC2
set_option maxRecDepth 100000 in
set_option maxHeartbeats 1000000 in
theorem kl_groups {p : Program} {l : Launch} {e : Env} {s : State} {m : MethodId} {args : Array Value} {below : List Frame} {meth : Method} {c : Code} {Q : State → Prop} {D : va_G} {kI kB kC kL : ClassId} {A : Nat → Prop} {c0 : Cond} (X : kw_X p s m args c cd_L_law 7 "CoinStringsLaw" (c0 :: gw_tbl) D cl_v (kt kI kB kC kL) A) (hl0 : l.stackTraces = false) (hEx : kEx s) (hN : kx_NA A s) {b L : Nat} {xs : Nat → Int32} (hX : va_X b L xs s s.heap) (hbl : b < s.heap.size) (hbA : ¬ A b) (hL : L ≤ 1536) {ad rd : Nat → Nat} {o k : Nat} (hk : 3 * k + 3 ≤ L) {cells slots : Nat} (hf : cells + 1 ≤ room_1.cells ∧ slots + 6 ≤ room_1.slots) {n : Nat} {lo hi : Nat → Nat} {bg : Bool} {cs T : List Nat} {t : Nat} {S : Bool} {wR wC : va_W} {f : Nat → Int64} (hP : rfP kI rd n lo hi bg cs T t S wR) (hC : csP kI kB kC ad n lo hi bg cs T wC) (K : kl_K p l e s m args below meth c D A Q kI kB kC kL b ad rd o k cells slots) : kw_W p l e room_1 s m args below meth c 7 D cl_v A cells slots Q (kl_w kL wR wC o f) 757 (kl_lv b ad rd o k) [] := by
  have hE := hEx.1
  obtain ⟨fr0, hr0⟩ := rfP_0 hP
  have h13 := rfP_13 hP
  have h16 := csP_16 hC
  refine kw_aload_n X dc_L_law_757 rfl rfl ?_
  obtain ⟨fc0, hc0⟩ := csP_0 hC
  refine kw_callVI X kEw hE 0 hc0 rfl (ct_Cgroups ad n lo hi bg cs T wC hC) (cw_V 0 X wd_172 wd_173 wd_174 wd_1 wd_175 rfl rfl (by decide +kernel) ⟨Nat.le_of_ble_eq_true rfl, Nat.le_of_ble_eq_true rfl⟩) (List.range' 13 16) (kb_get h13 h16) (by decide) (fun _ _ h => Nat.le_of_eq (csP_16 h.2).symm) rfl rfl (Nat.le_of_ble_eq_true rfl) dc_L_law_758 ⟨Nat.le_of_succ_le hf.1, Nat.le_trans (Nat.le_add_right _ 6) hf.2⟩ (fun r w hp => ?_)
  obtain ⟨rfl, hC2⟩ := hp
  refine kw_cv (ws' := kl_w kL wR w o f) (kb_put h13 h16 (csP_16 hC2)) rfl rfl ?_
  refine kw_aload_n X dc_L_law_761 rfl rfl ?_
  refine kw_callVI X kEw hE 0 hr0 rfl (ct_Zgroups rd n lo hi bg cs T t S wR hP) (cw_V 0 X wd_768 wd_769 wd_770 wd_8 wd_771 rfl rfl (by decide +kernel) ⟨Nat.le_of_ble_eq_true rfl, Nat.le_of_ble_eq_true rfl⟩) (List.range' 0 13) (kb_get0 h13) (by decide) (fun _ _ h => Nat.le_of_eq (rfP_13 h.2).symm) rfl rfl (Nat.le_of_ble_eq_true rfl) dc_L_law_762 ⟨Nat.le_of_succ_le hf.1, Nat.le_trans (Nat.le_add_right _ 6) hf.2⟩ (fun r9 w9 hp => ?_)
  obtain ⟨rfl, hP2⟩ := hp
  refine kw_cv (ws' := kl_w kL w9 w o f) (kb_put0 h13 (rfP_13 hP2)) rfl rfl ?_
  refine kw_icmp_eq (tgt := 895) X dc_L_law_765 (by decide) (fun _ => ?_) (fun hne => absurd rfl hne)
  refine kw_widen (Nat.le_succ _) (Nat.le_add_right _ 6) ?_
  exact K _ _ _ _ _ _ _ _ _ _ _ hP2 hC2
set_option maxRecDepth 100000 in
set_option maxHeartbeats 1000000 in
theorem kl_show {p : Program} {l : Launch} {e : Env} {s : State} {m : MethodId} {args : Array Value} {below : List Frame} {meth : Method} {c : Code} {Q : State → Prop} {D : va_G} {kI kB kC kL : ClassId} {A : Nat → Prop} {c0 : Cond} (X : kw_X p s m args c cd_L_law 7 "CoinStringsLaw" (c0 :: gw_tbl) D cl_v (kt kI kB kC kL) A) (hl0 : l.stackTraces = false) (hEx : kEx s) (hN : kx_NA A s) {b L : Nat} {xs : Nat → Int32} (hX : va_X b L xs s s.heap) (hbl : b < s.heap.size) (hbA : ¬ A b) (hL : L ≤ 1536) {ad rd : Nat → Nat} {o k : Nat} (hk : 3 * k + 3 ≤ L) {cells slots : Nat} (hf : cells + 1 ≤ room_1.cells ∧ slots + 6 ≤ room_1.slots) {n : Nat} {lo hi : Nat → Nat} {bg : Bool} {cs T : List Nat} {t : Nat} {S : Bool} {wR wC : va_W} {f : Nat → Int64} (hP : rfP kI rd n lo hi bg cs T t S wR) (hC : csP kI kB kC ad n lo hi bg cs T wC) (K : kl_K p l e s m args below meth c D A Q kI kB kC kL b ad rd o k cells slots) : kw_W p l e room_1 s m args below meth c 7 D cl_v A cells slots Q (kl_w kL wR wC o f) 826 (kl_lv b ad rd o k) [] := by
  have hE := hEx.1
  obtain ⟨fr0, hr0⟩ := rfP_0 hP
  have h13 := rfP_13 hP
  have h16 := csP_16 hC
  refine kw_aload_n X dc_L_law_826 rfl rfl ?_
  obtain ⟨fc0, hc0⟩ := csP_0 hC
  refine kw_callVI X kEw hE 0 hc0 rfl (ct_Cshow ad n lo hi bg cs T wC hC) (cw_V 0 X wd_223 wd_224 wd_225 wd_1 wd_226 rfl rfl (by decide +kernel) ⟨Nat.le_of_ble_eq_true rfl, Nat.le_of_ble_eq_true rfl⟩) (List.range' 13 16) (kb_get h13 h16) (by decide) (fun _ _ h => Nat.le_of_eq (csP_16 h.2).symm) rfl rfl (Nat.le_of_ble_eq_true rfl) dc_L_law_827 ⟨Nat.le_of_succ_le hf.1, Nat.le_trans (Nat.le_add_right _ 6) hf.2⟩ (fun r w hp => ?_)
  obtain ⟨rfl, hC2⟩ := hp
  refine kw_cv (ws' := kl_w kL wR w o f) (kb_put h13 h16 (csP_16 hC2)) rfl rfl ?_
  refine kw_aload_n X dc_L_law_830 rfl rfl ?_
  refine kw_callVI X kEw hE 0 hr0 rfl (ct_Zshow rd n lo hi bg cs T t S wR hP) (cw_V 0 X wd_788 wd_789 wd_790 wd_8 wd_791 rfl rfl (by decide +kernel) ⟨Nat.le_of_ble_eq_true rfl, Nat.le_of_ble_eq_true rfl⟩) (List.range' 0 13) (kb_get0 h13) (by decide) (fun _ _ h => Nat.le_of_eq (rfP_13 h.2).symm) rfl rfl (Nat.le_of_ble_eq_true rfl) dc_L_law_831 ⟨Nat.le_of_succ_le hf.1, Nat.le_trans (Nat.le_add_right _ 6) hf.2⟩ (fun r9 w9 hp => ?_)
  obtain ⟨rfl, hP2⟩ := hp
  refine kw_cv (ws' := kl_w kL w9 w o f) (kb_put0 h13 (rfP_13 hP2)) rfl rfl ?_
  refine kw_icmp_eq (tgt := 895) X dc_L_law_834 (by decide) (fun _ => ?_) (fun hne => absurd rfl hne)
  refine kw_widen (Nat.le_succ _) (Nat.le_add_right _ 6) ?_
  exact K _ _ _ _ _ _ _ _ _ _ _ hP2 hC2
set_option maxRecDepth 100000 in
set_option maxHeartbeats 1000000 in
theorem kl_cut {p : Program} {l : Launch} {e : Env} {s : State} {m : MethodId} {args : Array Value} {below : List Frame} {meth : Method} {c : Code} {Q : State → Prop} {D : va_G} {kI kB kC kL : ClassId} {A : Nat → Prop} {c0 : Cond} (X : kw_X p s m args c cd_L_law 7 "CoinStringsLaw" (c0 :: gw_tbl) D cl_v (kt kI kB kC kL) A) (hl0 : l.stackTraces = false) (hEx : kEx s) (hN : kx_NA A s) {b L : Nat} {xs : Nat → Int32} (hX : va_X b L xs s s.heap) (hbl : b < s.heap.size) (hbA : ¬ A b) (hL : L ≤ 1536) {ad rd : Nat → Nat} {o k : Nat} (hk : 3 * k + 3 ≤ L) {cells slots : Nat} (hf : cells + 1 ≤ room_1.cells ∧ slots + 6 ≤ room_1.slots) {n : Nat} {lo hi : Nat → Nat} {bg : Bool} {cs T : List Nat} {t : Nat} {S : Bool} {wR wC : va_W} {f : Nat → Int64} (hP : rfP kI rd n lo hi bg cs T t S wR) (hC : csP kI kB kC ad n lo hi bg cs T wC) (K : kl_K p l e s m args below meth c D A Q kI kB kC kL b ad rd o k cells slots) : kw_W p l e room_1 s m args below meth c 7 D cl_v A cells slots Q (kl_w kL wR wC o f) 299 (kl_lv b ad rd o k) [] := by
  have hE := hEx.1
  cases bg
  · obtain ⟨fr0, hr0⟩ := rfP_0 hP
    have h13 := rfP_13 hP
    have h16 := csP_16 hC
    refine kw_aload_n X dc_L_law_299 rfl rfl ?_
    refine kw_aload_n X dc_L_law_300 rfl rfl ?_
    refine kw_iload X dc_L_law_301 rfl ?_
    refine kw_iconst (v := (nI 1)) X dc_L_law_303 (by decide) ?_
    refine kw_iadd (v := nI (3 * k + 1)) X dc_L_law_304 (nI_add _ _) ?_
    refine kl_sld (v := xs (3 * k + 1)) X hX hbl hbA (vp_in_nI (by omega) (by omega)) (by rw [nI_clamp (by omega)]) dc_L_law_305 ?_
    refine kw_aload_n X dc_L_law_306 rfl rfl ?_
    refine kx_callSW X hEx hN (ct_LcutF1 hl0 ad n lo hi cs T wC hC o f _) (cw_SW 3 X wd_384 wd_385 wd_0 wd_386 rfl rfl (by decide +kernel) ⟨Nat.le_of_ble_eq_true rfl, Nat.le_of_ble_eq_true rfl⟩) (List.range' 13 17) (kb_getE h13 (kb_len17 h16)) (by decide) (fun _ _ h => by obtain ⟨_, w1, rfl, h2⟩ := h; exact Nat.le_of_eq (kb_len17 (csP_16 h2)).symm) rfl rfl (Nat.le_of_ble_eq_true rfl) dc_L_law_307 hf (fun r w hp => ?_)
    obtain ⟨rfl, w1, rfl, hC2⟩ := hp
    refine kw_cv (ws' := kl_w kL wR w1 o f) (kb_putE h13 (kb_len17 h16) (kb_len17 (csP_16 hC2))) rfl rfl ?_
    refine kw_istore X dc_L_law_310 (by decide) ?_
    refine kw_aload_n X dc_L_law_312 rfl rfl ?_
    refine kw_aload_n X dc_L_law_313 rfl rfl ?_
    refine kw_iload X dc_L_law_314 rfl ?_
    refine kw_iconst (v := (nI 1)) X dc_L_law_316 (by decide) ?_
    refine kw_iadd (v := nI (3 * k + 1)) X dc_L_law_317 (nI_add _ _) ?_
    refine kl_sld (v := xs (3 * k + 1)) X hX hbl hbA (vp_in_nI (by omega) (by omega)) (by rw [nI_clamp (by omega)]) dc_L_law_318 ?_
    refine kw_callVI X kEw hE 0 hr0 rfl (ct_RcutF1 rd n lo hi cs T t S wR hP _) (cw_V 1 X wd_732 wd_733 wd_734 wd_8 wd_735 rfl rfl (by decide +kernel) ⟨Nat.le_of_ble_eq_true rfl, Nat.le_of_ble_eq_true rfl⟩) (List.range' 0 13) (kb_get0 h13) (by decide) (fun _ _ h => Nat.le_of_eq (rfP_13 h).symm) rfl rfl (Nat.le_of_ble_eq_true rfl) dc_L_law_319 hf (fun r w hp => ?_)
    have hP1 := hp
    refine kw_cv (ws' := kl_w kL w w1 o f) (kb_put0 h13 (rfP_13 hP1)) rfl rfl ?_
    refine kw_istore X dc_L_law_322 (by decide) ?_
    refine kw_aload_n X dc_L_law_324 rfl rfl ?_
    obtain ⟨fr1, hr1⟩ := rfP_0 hP1
    have h131 := rfP_13 hP1
    refine kw_callVI X kEw hE 0 hr1 rfl (ct_Zthrown rd _ _ _ _ _ _ _ _ _ hP1) (cw_V 0 X wd_661 wd_662 wd_663 wd_8 wd_664 rfl rfl (by decide +kernel) ⟨Nat.le_of_ble_eq_true rfl, Nat.le_of_ble_eq_true rfl⟩) (List.range' 0 13) (kb_get0 h131) (by decide) (fun _ _ h => Nat.le_of_eq (rfP_13 h.2).symm) rfl rfl (Nat.le_of_ble_eq_true rfl) dc_L_law_325 hf (fun r w hp => ?_)
    obtain ⟨rfl, hP2⟩ := hp
    refine kw_cv (ws' := kl_w kL w w1 o f) (kb_put0 h131 (rfP_13 hP2)) rfl rfl ?_
    refine kw_iload X dc_L_law_328 rfl ?_
    refine kw_icmp_eq (tgt := 335) X dc_L_law_330 (by decide) (fun _ => ?_) (fun hne => absurd rfl hne)
    refine kw_iload X dc_L_law_335 rfl ?_
    refine kw_if_ne (tgt := 352) X dc_L_law_337 (by decide) (fun _ => ?_) (fun h9 => absurd h9 (by decide))
    refine kw_goto (tgt := 895) X dc_L_law_352 (by decide) ?_
    refine kw_kill 5 ?_
    refine kw_kill 6 ?_
    exact K _ _ _ _ _ _ _ _ _ _ _ hP2 hC2
  · by_cases ha : 0 ≤ xs (3 * k + 1) ∧ xs (3 * k + 1) < nI n
    · have hn := csP_n hC
      obtain ⟨i, hi1, e1⟩ := i32_ltN ha.1 ha.2 (by omega)
      by_cases hb : (gm_run lo hi n cs).1.testBit i = true
      · obtain ⟨fr0, hr0⟩ := rfP_0 hP
        have h13 := rfP_13 hP
        have h16 := csP_16 hC
        refine kw_aload_n X dc_L_law_299 rfl rfl ?_
        refine kw_aload_n X dc_L_law_300 rfl rfl ?_
        refine kw_iload X dc_L_law_301 rfl ?_
        refine kw_iconst (v := (nI 1)) X dc_L_law_303 (by decide) ?_
        refine kw_iadd (v := nI (3 * k + 1)) X dc_L_law_304 (nI_add _ _) ?_
        refine kl_sld (v := nI i) X hX hbl hbA (vp_in_nI (by omega) (by omega)) (by rw [nI_clamp (by omega)]; exact e1) dc_L_law_305 ?_
        refine kw_aload_n X dc_L_law_306 rfl rfl ?_
        refine kx_callSW X hEx hN (ct_LcutT ad n lo hi cs T wC hC o f i hi1 hb) (cw_SW 3 X wd_384 wd_385 wd_0 wd_386 rfl rfl (by decide +kernel) ⟨Nat.le_of_ble_eq_true rfl, Nat.le_of_ble_eq_true rfl⟩) (List.range' 13 17) (kb_getE h13 (kb_len17 h16)) (by decide) (fun _ _ h => by obtain ⟨_, w1, f2, rfl, h2, _⟩ := h; exact Nat.le_of_eq (kb_len17 (csP_16 h2)).symm) rfl rfl (Nat.le_of_ble_eq_true rfl) dc_L_law_307 hf (fun r w hp => ?_)
        obtain ⟨rfl, w1, f2, rfl, hC2, hv0⟩ := hp
        refine kw_cv (ws' := kl_w kL wR w1 o f2) (kb_putE h13 (kb_len17 h16) (kb_len17 (csP_16 hC2))) rfl rfl ?_
        refine kw_istore X dc_L_law_310 (by decide) ?_
        refine kw_aload_n X dc_L_law_312 rfl rfl ?_
        refine kw_aload_n X dc_L_law_313 rfl rfl ?_
        refine kw_iload X dc_L_law_314 rfl ?_
        refine kw_iconst (v := (nI 1)) X dc_L_law_316 (by decide) ?_
        refine kw_iadd (v := nI (3 * k + 1)) X dc_L_law_317 (nI_add _ _) ?_
        refine kl_sld (v := nI i) X hX hbl hbA (vp_in_nI (by omega) (by omega)) (by rw [nI_clamp (by omega)]; exact e1) dc_L_law_318 ?_
        refine kw_callVI X kEw hE 0 hr0 rfl (ct_RcutT rd n lo hi cs T t S wR hP i hi1 hb) (cw_V 1 X wd_732 wd_733 wd_734 wd_8 wd_735 rfl rfl (by decide +kernel) ⟨Nat.le_of_ble_eq_true rfl, Nat.le_of_ble_eq_true rfl⟩) (List.range' 0 13) (kb_get0 h13) (by decide) (fun _ _ h => Nat.le_of_eq (rfP_13 h.2).symm) rfl rfl (Nat.le_of_ble_eq_true rfl) dc_L_law_319 hf (fun r w hp => ?_)
        obtain ⟨rfl, hP1⟩ := hp
        refine kw_cv (ws' := kl_w kL w w1 o f2) (kb_put0 h13 (rfP_13 hP1)) rfl rfl ?_
        refine kw_istore X dc_L_law_322 (by decide) ?_
        refine kw_aload_n X dc_L_law_324 rfl rfl ?_
        obtain ⟨fr1, hr1⟩ := rfP_0 hP1
        have h131 := rfP_13 hP1
        refine kw_callVI X kEw hE 0 hr1 rfl (ct_Zthrown rd _ _ _ _ _ _ _ _ _ hP1) (cw_V 0 X wd_661 wd_662 wd_663 wd_8 wd_664 rfl rfl (by decide +kernel) ⟨Nat.le_of_ble_eq_true rfl, Nat.le_of_ble_eq_true rfl⟩) (List.range' 0 13) (kb_get0 h131) (by decide) (fun _ _ h => Nat.le_of_eq (rfP_13 h.2).symm) rfl rfl (Nat.le_of_ble_eq_true rfl) dc_L_law_325 hf (fun r w hp => ?_)
        obtain ⟨rfl, hP2⟩ := hp
        refine kw_cv (ws' := kl_w kL w w1 o f2) (kb_put0 h131 (rfP_13 hP2)) rfl rfl ?_
        refine kw_iload X dc_L_law_328 rfl ?_
        refine kw_icmp_eq (tgt := 335) X dc_L_law_330 (by decide) (fun _ => ?_) (fun hne => absurd rfl hne)
        refine kw_iload X dc_L_law_335 rfl ?_
        refine kw_if_ne (tgt := 352) X dc_L_law_337 (by decide) (fun h9 => absurd rfl h9) (fun _ => ?_)
        refine kw_aload_n X dc_L_law_340 rfl rfl ?_
        refine kw_iconst (v := (nI 0)) X dc_L_law_341 (by decide) ?_
        refine kw_lald (v := (nI (gm_tk lo hi n (gm_run lo hi n cs).1 i)).toInt64) X 29 3 (kb_at29 (rfP_13 hP2) (csP_16 hC2)) rfl (kq_in (k := 0) (by decide) (by decide)) (by rw [kq_cl (k := 0) (by decide)]; exact hv0) dc_L_law_342 ?_
        refine kw_iload X dc_L_law_343 rfl ?_
        refine kw_i2l (v := (nI (gm_tk lo hi n (gm_run lo hi n cs).1 i)).toInt64) X dc_L_law_345 rfl ?_
        refine kw_lcmp (v := 0) X dc_L_law_346 (lg_cmp_0 _) ?_
        refine kw_if_eq (tgt := 352) X dc_L_law_347 (by decide) (fun _ => ?_) (fun h9 => absurd rfl h9)
        refine kw_goto (tgt := 895) X dc_L_law_352 (by decide) ?_
        refine kw_kill 5 ?_
        refine kw_kill 6 ?_
        exact K _ _ _ _ _ _ _ _ _ _ _ hP2 hC2
      · have hb0 : (gm_run lo hi n cs).1.testBit i = false := by simpa using hb
        obtain ⟨fr0, hr0⟩ := rfP_0 hP
        have h13 := rfP_13 hP
        have h16 := csP_16 hC
        refine kw_aload_n X dc_L_law_299 rfl rfl ?_
        refine kw_aload_n X dc_L_law_300 rfl rfl ?_
        refine kw_iload X dc_L_law_301 rfl ?_
        refine kw_iconst (v := (nI 1)) X dc_L_law_303 (by decide) ?_
        refine kw_iadd (v := nI (3 * k + 1)) X dc_L_law_304 (nI_add _ _) ?_
        refine kl_sld (v := nI i) X hX hbl hbA (vp_in_nI (by omega) (by omega)) (by rw [nI_clamp (by omega)]; exact e1) dc_L_law_305 ?_
        refine kw_aload_n X dc_L_law_306 rfl rfl ?_
        refine kx_callSW X hEx hN (ct_LcutF3 hl0 ad n lo hi cs T wC hC o f i hi1 hb0) (cw_SW 3 X wd_384 wd_385 wd_0 wd_386 rfl rfl (by decide +kernel) ⟨Nat.le_of_ble_eq_true rfl, Nat.le_of_ble_eq_true rfl⟩) (List.range' 13 17) (kb_getE h13 (kb_len17 h16)) (by decide) (fun _ _ h => by obtain ⟨_, w1, rfl, h2⟩ := h; exact Nat.le_of_eq (kb_len17 (csP_16 h2)).symm) rfl rfl (Nat.le_of_ble_eq_true rfl) dc_L_law_307 hf (fun r w hp => ?_)
        obtain ⟨rfl, w1, rfl, hC2⟩ := hp
        refine kw_cv (ws' := kl_w kL wR w1 o f) (kb_putE h13 (kb_len17 h16) (kb_len17 (csP_16 hC2))) rfl rfl ?_
        refine kw_istore X dc_L_law_310 (by decide) ?_
        refine kw_aload_n X dc_L_law_312 rfl rfl ?_
        refine kw_aload_n X dc_L_law_313 rfl rfl ?_
        refine kw_iload X dc_L_law_314 rfl ?_
        refine kw_iconst (v := (nI 1)) X dc_L_law_316 (by decide) ?_
        refine kw_iadd (v := nI (3 * k + 1)) X dc_L_law_317 (nI_add _ _) ?_
        refine kl_sld (v := nI i) X hX hbl hbA (vp_in_nI (by omega) (by omega)) (by rw [nI_clamp (by omega)]; exact e1) dc_L_law_318 ?_
        refine kw_callVI X kEw hE 0 hr0 rfl (ct_RcutF3 rd n lo hi cs T t S wR hP i hi1 hb0) (cw_V 1 X wd_732 wd_733 wd_734 wd_8 wd_735 rfl rfl (by decide +kernel) ⟨Nat.le_of_ble_eq_true rfl, Nat.le_of_ble_eq_true rfl⟩) (List.range' 0 13) (kb_get0 h13) (by decide) (fun _ _ h => Nat.le_of_eq (rfP_13 h).symm) rfl rfl (Nat.le_of_ble_eq_true rfl) dc_L_law_319 hf (fun r w hp => ?_)
        have hP1 := hp
        refine kw_cv (ws' := kl_w kL w w1 o f) (kb_put0 h13 (rfP_13 hP1)) rfl rfl ?_
        refine kw_istore X dc_L_law_322 (by decide) ?_
        refine kw_aload_n X dc_L_law_324 rfl rfl ?_
        obtain ⟨fr1, hr1⟩ := rfP_0 hP1
        have h131 := rfP_13 hP1
        refine kw_callVI X kEw hE 0 hr1 rfl (ct_Zthrown rd _ _ _ _ _ _ _ _ _ hP1) (cw_V 0 X wd_661 wd_662 wd_663 wd_8 wd_664 rfl rfl (by decide +kernel) ⟨Nat.le_of_ble_eq_true rfl, Nat.le_of_ble_eq_true rfl⟩) (List.range' 0 13) (kb_get0 h131) (by decide) (fun _ _ h => Nat.le_of_eq (rfP_13 h.2).symm) rfl rfl (Nat.le_of_ble_eq_true rfl) dc_L_law_325 hf (fun r w hp => ?_)
        obtain ⟨rfl, hP2⟩ := hp
        refine kw_cv (ws' := kl_w kL w w1 o f) (kb_put0 h131 (rfP_13 hP2)) rfl rfl ?_
        refine kw_iload X dc_L_law_328 rfl ?_
        refine kw_icmp_eq (tgt := 335) X dc_L_law_330 (by decide) (fun _ => ?_) (fun hne => absurd rfl hne)
        refine kw_iload X dc_L_law_335 rfl ?_
        refine kw_if_ne (tgt := 352) X dc_L_law_337 (by decide) (fun _ => ?_) (fun h9 => absurd h9 (by decide))
        refine kw_goto (tgt := 895) X dc_L_law_352 (by decide) ?_
        refine kw_kill 5 ?_
        refine kw_kill 6 ?_
        exact K _ _ _ _ _ _ _ _ _ _ _ hP2 hC2
    · obtain ⟨fr0, hr0⟩ := rfP_0 hP
      have h13 := rfP_13 hP
      have h16 := csP_16 hC
      refine kw_aload_n X dc_L_law_299 rfl rfl ?_
      refine kw_aload_n X dc_L_law_300 rfl rfl ?_
      refine kw_iload X dc_L_law_301 rfl ?_
      refine kw_iconst (v := (nI 1)) X dc_L_law_303 (by decide) ?_
      refine kw_iadd (v := nI (3 * k + 1)) X dc_L_law_304 (nI_add _ _) ?_
      refine kl_sld (v := xs (3 * k + 1)) X hX hbl hbA (vp_in_nI (by omega) (by omega)) (by rw [nI_clamp (by omega)]) dc_L_law_305 ?_
      refine kw_aload_n X dc_L_law_306 rfl rfl ?_
      refine kx_callSW X hEx hN (ct_LcutF2 hl0 ad n lo hi cs T wC hC o f _ ha) (cw_SW 3 X wd_384 wd_385 wd_0 wd_386 rfl rfl (by decide +kernel) ⟨Nat.le_of_ble_eq_true rfl, Nat.le_of_ble_eq_true rfl⟩) (List.range' 13 17) (kb_getE h13 (kb_len17 h16)) (by decide) (fun _ _ h => by obtain ⟨_, w1, rfl, h2⟩ := h; exact Nat.le_of_eq (kb_len17 (csP_16 h2)).symm) rfl rfl (Nat.le_of_ble_eq_true rfl) dc_L_law_307 hf (fun r w hp => ?_)
      obtain ⟨rfl, w1, rfl, hC2⟩ := hp
      refine kw_cv (ws' := kl_w kL wR w1 o f) (kb_putE h13 (kb_len17 h16) (kb_len17 (csP_16 hC2))) rfl rfl ?_
      refine kw_istore X dc_L_law_310 (by decide) ?_
      refine kw_aload_n X dc_L_law_312 rfl rfl ?_
      refine kw_aload_n X dc_L_law_313 rfl rfl ?_
      refine kw_iload X dc_L_law_314 rfl ?_
      refine kw_iconst (v := (nI 1)) X dc_L_law_316 (by decide) ?_
      refine kw_iadd (v := nI (3 * k + 1)) X dc_L_law_317 (nI_add _ _) ?_
      refine kl_sld (v := xs (3 * k + 1)) X hX hbl hbA (vp_in_nI (by omega) (by omega)) (by rw [nI_clamp (by omega)]) dc_L_law_318 ?_
      refine kw_callVI X kEw hE 0 hr0 rfl (ct_RcutF2 rd n lo hi cs T t S wR hP _ ha) (cw_V 1 X wd_732 wd_733 wd_734 wd_8 wd_735 rfl rfl (by decide +kernel) ⟨Nat.le_of_ble_eq_true rfl, Nat.le_of_ble_eq_true rfl⟩) (List.range' 0 13) (kb_get0 h13) (by decide) (fun _ _ h => Nat.le_of_eq (rfP_13 h).symm) rfl rfl (Nat.le_of_ble_eq_true rfl) dc_L_law_319 hf (fun r w hp => ?_)
      have hP1 := hp
      refine kw_cv (ws' := kl_w kL w w1 o f) (kb_put0 h13 (rfP_13 hP1)) rfl rfl ?_
      refine kw_istore X dc_L_law_322 (by decide) ?_
      refine kw_aload_n X dc_L_law_324 rfl rfl ?_
      obtain ⟨fr1, hr1⟩ := rfP_0 hP1
      have h131 := rfP_13 hP1
      refine kw_callVI X kEw hE 0 hr1 rfl (ct_Zthrown rd _ _ _ _ _ _ _ _ _ hP1) (cw_V 0 X wd_661 wd_662 wd_663 wd_8 wd_664 rfl rfl (by decide +kernel) ⟨Nat.le_of_ble_eq_true rfl, Nat.le_of_ble_eq_true rfl⟩) (List.range' 0 13) (kb_get0 h131) (by decide) (fun _ _ h => Nat.le_of_eq (rfP_13 h.2).symm) rfl rfl (Nat.le_of_ble_eq_true rfl) dc_L_law_325 hf (fun r w hp => ?_)
      obtain ⟨rfl, hP2⟩ := hp
      refine kw_cv (ws' := kl_w kL w w1 o f) (kb_put0 h131 (rfP_13 hP2)) rfl rfl ?_
      refine kw_iload X dc_L_law_328 rfl ?_
      refine kw_icmp_eq (tgt := 335) X dc_L_law_330 (by decide) (fun _ => ?_) (fun hne => absurd rfl hne)
      refine kw_iload X dc_L_law_335 rfl ?_
      refine kw_if_ne (tgt := 352) X dc_L_law_337 (by decide) (fun _ => ?_) (fun h9 => absurd h9 (by decide))
      refine kw_goto (tgt := 895) X dc_L_law_352 (by decide) ?_
      refine kw_kill 5 ?_
      refine kw_kill 6 ?_
      exact K _ _ _ _ _ _ _ _ _ _ _ hP2 hC2
set_option maxRecDepth 100000 in
set_option maxHeartbeats 1000000 in
theorem kl_undo {p : Program} {l : Launch} {e : Env} {s : State} {m : MethodId} {args : Array Value} {below : List Frame} {meth : Method} {c : Code} {Q : State → Prop} {D : va_G} {kI kB kC kL : ClassId} {A : Nat → Prop} {c0 : Cond} (X : kw_X p s m args c cd_L_law 7 "CoinStringsLaw" (c0 :: gw_tbl) D cl_v (kt kI kB kC kL) A) (hl0 : l.stackTraces = false) (hEx : kEx s) (hN : kx_NA A s) {b L : Nat} {xs : Nat → Int32} (hX : va_X b L xs s s.heap) (hbl : b < s.heap.size) (hbA : ¬ A b) (hL : L ≤ 1536) {ad rd : Nat → Nat} {o k : Nat} (hk : 3 * k + 3 ≤ L) {cells slots : Nat} (hf : cells + 1 ≤ room_1.cells ∧ slots + 6 ≤ room_1.slots) {n : Nat} {lo hi : Nat → Nat} {bg : Bool} {cs T : List Nat} {t : Nat} {S : Bool} {wR wC : va_W} {f : Nat → Int64} (hP : rfP kI rd n lo hi bg cs T t S wR) (hC : csP kI kB kC ad n lo hi bg cs T wC) (K : kl_K p l e s m args below meth c D A Q kI kB kC kL b ad rd o k cells slots) : kw_W p l e room_1 s m args below meth c 7 D cl_v A cells slots Q (kl_w kL wR wC o f) 355 (kl_lv b ad rd o k) [] := by
  have hE := hEx.1
  cases cs with
  | nil =>
    obtain ⟨fr0, hr0⟩ := rfP_0 hP
    have h13 := rfP_13 hP
    have h16 := csP_16 hC
    refine kw_aload_n X dc_L_law_355 rfl rfl ?_
    refine kw_aload_n X dc_L_law_356 rfl rfl ?_
    refine kx_callSW X hEx hN (ct_LundoF hl0 ad n lo hi bg T wC hC o f) (cw_SW 2 X wd_443 wd_444 wd_0 wd_445 rfl rfl (by decide +kernel) ⟨Nat.le_of_ble_eq_true rfl, Nat.le_of_ble_eq_true rfl⟩) (List.range' 13 17) (kb_getE h13 (kb_len17 h16)) (by decide) (fun _ _ h => by obtain ⟨_, w1, rfl, h2⟩ := h; exact Nat.le_of_eq (kb_len17 (csP_16 h2)).symm) rfl rfl (Nat.le_of_ble_eq_true rfl) dc_L_law_357 hf (fun r w hp => ?_)
    obtain ⟨rfl, w1, rfl, hC2⟩ := hp
    refine kw_cv (ws' := kl_w kL wR w1 o f) (kb_putE h13 (kb_len17 h16) (kb_len17 (csP_16 hC2))) rfl rfl ?_
    refine kw_istore X dc_L_law_360 (by decide) ?_
    refine kw_aload_n X dc_L_law_362 rfl rfl ?_
    refine kw_callVI X kEw hE 0 hr0 rfl (ct_RundoF rd n lo hi bg T t S wR hP) (cw_V 0 X wd_740 wd_741 wd_742 wd_8 wd_743 rfl rfl (by decide +kernel) ⟨Nat.le_of_ble_eq_true rfl, Nat.le_of_ble_eq_true rfl⟩) (List.range' 0 13) (kb_get0 h13) (by decide) (fun _ _ h => Nat.le_of_eq (rfP_13 h).symm) rfl rfl (Nat.le_of_ble_eq_true rfl) dc_L_law_363 hf (fun r w hp => ?_)
    have hP1 := hp
    refine kw_cv (ws' := kl_w kL w w1 o f) (kb_put0 h13 (rfP_13 hP1)) rfl rfl ?_
    refine kw_istore X dc_L_law_366 (by decide) ?_
    refine kw_aload_n X dc_L_law_368 rfl rfl ?_
    obtain ⟨fr1, hr1⟩ := rfP_0 hP1
    have h131 := rfP_13 hP1
    refine kw_callVI X kEw hE 0 hr1 rfl (ct_Zthrown rd _ _ _ _ _ _ _ _ _ hP1) (cw_V 0 X wd_661 wd_662 wd_663 wd_8 wd_664 rfl rfl (by decide +kernel) ⟨Nat.le_of_ble_eq_true rfl, Nat.le_of_ble_eq_true rfl⟩) (List.range' 0 13) (kb_get0 h131) (by decide) (fun _ _ h => Nat.le_of_eq (rfP_13 h.2).symm) rfl rfl (Nat.le_of_ble_eq_true rfl) dc_L_law_369 hf (fun r w hp => ?_)
    obtain ⟨rfl, hP2⟩ := hp
    refine kw_cv (ws' := kl_w kL w w1 o f) (kb_put0 h131 (rfP_13 hP2)) rfl rfl ?_
    refine kw_iload X dc_L_law_372 rfl ?_
    refine kw_icmp_eq (tgt := 379) X dc_L_law_374 (by decide) (fun _ => ?_) (fun hne => absurd rfl hne)
    refine kw_iload X dc_L_law_379 rfl ?_
    refine kw_if_ne (tgt := 396) X dc_L_law_381 (by decide) (fun _ => ?_) (fun h9 => absurd h9 (by decide))
    refine kw_goto (tgt := 895) X dc_L_law_396 (by decide) ?_
    refine kw_kill 5 ?_
    refine kw_kill 6 ?_
    exact K _ _ _ _ _ _ _ _ _ _ _ hP2 hC2
  | cons i cs =>
    obtain ⟨fr0, hr0⟩ := rfP_0 hP
    have h13 := rfP_13 hP
    have h16 := csP_16 hC
    refine kw_aload_n X dc_L_law_355 rfl rfl ?_
    refine kw_aload_n X dc_L_law_356 rfl rfl ?_
    refine kx_callSW X hEx hN (ct_LundoT ad n lo hi bg cs T wC i hC o f) (cw_SW 2 X wd_443 wd_444 wd_0 wd_445 rfl rfl (by decide +kernel) ⟨Nat.le_of_ble_eq_true rfl, Nat.le_of_ble_eq_true rfl⟩) (List.range' 13 17) (kb_getE h13 (kb_len17 h16)) (by decide) (fun _ _ h => by obtain ⟨_, w1, f2, rfl, h2, _⟩ := h; exact Nat.le_of_eq (kb_len17 (csP_16 h2)).symm) rfl rfl (Nat.le_of_ble_eq_true rfl) dc_L_law_357 hf (fun r w hp => ?_)
    obtain ⟨rfl, w1, f2, rfl, hC2, hv0⟩ := hp
    refine kw_cv (ws' := kl_w kL wR w1 o f2) (kb_putE h13 (kb_len17 h16) (kb_len17 (csP_16 hC2))) rfl rfl ?_
    refine kw_istore X dc_L_law_360 (by decide) ?_
    refine kw_aload_n X dc_L_law_362 rfl rfl ?_
    refine kw_callVI X kEw hE 0 hr0 rfl (ct_RundoT rd n lo hi bg cs T t S wR i hP) (cw_V 0 X wd_740 wd_741 wd_742 wd_8 wd_743 rfl rfl (by decide +kernel) ⟨Nat.le_of_ble_eq_true rfl, Nat.le_of_ble_eq_true rfl⟩) (List.range' 0 13) (kb_get0 h13) (by decide) (fun _ _ h => Nat.le_of_eq (rfP_13 h.2).symm) rfl rfl (Nat.le_of_ble_eq_true rfl) dc_L_law_363 hf (fun r w hp => ?_)
    obtain ⟨rfl, hP1⟩ := hp
    refine kw_cv (ws' := kl_w kL w w1 o f2) (kb_put0 h13 (rfP_13 hP1)) rfl rfl ?_
    refine kw_istore X dc_L_law_366 (by decide) ?_
    refine kw_aload_n X dc_L_law_368 rfl rfl ?_
    obtain ⟨fr1, hr1⟩ := rfP_0 hP1
    have h131 := rfP_13 hP1
    refine kw_callVI X kEw hE 0 hr1 rfl (ct_Zthrown rd _ _ _ _ _ _ _ _ _ hP1) (cw_V 0 X wd_661 wd_662 wd_663 wd_8 wd_664 rfl rfl (by decide +kernel) ⟨Nat.le_of_ble_eq_true rfl, Nat.le_of_ble_eq_true rfl⟩) (List.range' 0 13) (kb_get0 h131) (by decide) (fun _ _ h => Nat.le_of_eq (rfP_13 h.2).symm) rfl rfl (Nat.le_of_ble_eq_true rfl) dc_L_law_369 hf (fun r w hp => ?_)
    obtain ⟨rfl, hP2⟩ := hp
    refine kw_cv (ws' := kl_w kL w w1 o f2) (kb_put0 h131 (rfP_13 hP2)) rfl rfl ?_
    refine kw_iload X dc_L_law_372 rfl ?_
    refine kw_icmp_eq (tgt := 379) X dc_L_law_374 (by decide) (fun _ => ?_) (fun hne => absurd rfl hne)
    refine kw_iload X dc_L_law_379 rfl ?_
    refine kw_if_ne (tgt := 396) X dc_L_law_381 (by decide) (fun h9 => absurd rfl h9) (fun _ => ?_)
    refine kw_aload_n X dc_L_law_384 rfl rfl ?_
    refine kw_iconst (v := (nI 0)) X dc_L_law_385 (by decide) ?_
    refine kw_lald (v := (nI i).toInt64) X 29 3 (kb_at29 (rfP_13 hP2) (csP_16 hC2)) rfl (kq_in (k := 0) (by decide) (by decide)) (by rw [kq_cl (k := 0) (by decide)]; exact hv0) dc_L_law_386 ?_
    refine kw_iload X dc_L_law_387 rfl ?_
    refine kw_i2l (v := (nI i).toInt64) X dc_L_law_389 rfl ?_
    refine kw_lcmp (v := 0) X dc_L_law_390 (lg_cmp_0 _) ?_
    refine kw_if_eq (tgt := 396) X dc_L_law_391 (by decide) (fun _ => ?_) (fun h9 => absurd rfl h9)
    refine kw_goto (tgt := 895) X dc_L_law_396 (by decide) ?_
    refine kw_kill 5 ?_
    refine kw_kill 6 ?_
    exact K _ _ _ _ _ _ _ _ _ _ _ hP2 hC2
set_option maxRecDepth 100000 in
set_option maxHeartbeats 1000000 in
theorem kl_margin {p : Program} {l : Launch} {e : Env} {s : State} {m : MethodId} {args : Array Value} {below : List Frame} {meth : Method} {c : Code} {Q : State → Prop} {D : va_G} {kI kB kC kL : ClassId} {A : Nat → Prop} {c0 : Cond} (X : kw_X p s m args c cd_L_law 7 "CoinStringsLaw" (c0 :: gw_tbl) D cl_v (kt kI kB kC kL) A) (hl0 : l.stackTraces = false) (hEx : kEx s) (hN : kx_NA A s) {b L : Nat} {xs : Nat → Int32} (hX : va_X b L xs s s.heap) (hbl : b < s.heap.size) (hbA : ¬ A b) (hL : L ≤ 1536) {ad rd : Nat → Nat} {o k : Nat} (hk : 3 * k + 3 ≤ L) {cells slots : Nat} (hf : cells + 1 ≤ room_1.cells ∧ slots + 6 ≤ room_1.slots) {n : Nat} {lo hi : Nat → Nat} {bg : Bool} {cs T : List Nat} {t : Nat} {S : Bool} {wR wC : va_W} {f : Nat → Int64} (hP : rfP kI rd n lo hi bg cs T t S wR) (hC : csP kI kB kC ad n lo hi bg cs T wC) (K : kl_K p l e s m args below meth c D A Q kI kB kC kL b ad rd o k cells slots) : kw_W p l e room_1 s m args below meth c 7 D cl_v A cells slots Q (kl_w kL wR wC o f) 581 (kl_lv b ad rd o k) [] := by
  have hE := hEx.1
  cases bg
  · obtain ⟨fr0, hr0⟩ := rfP_0 hP
    have h13 := rfP_13 hP
    have h16 := csP_16 hC
    refine kw_aload_n X dc_L_law_581 rfl rfl ?_
    refine kw_aload_n X dc_L_law_582 rfl rfl ?_
    refine kx_callSW X hEx hN (ct_LmarginF hl0 ad n lo hi cs T wC hC o f) (cw_SW 2 X wd_521 wd_522 wd_0 wd_523 rfl rfl (by decide +kernel) ⟨Nat.le_of_ble_eq_true rfl, Nat.le_of_ble_eq_true rfl⟩) (List.range' 13 17) (kb_getE h13 (kb_len17 h16)) (by decide) (fun _ _ h => by obtain ⟨_, w1, rfl, h2⟩ := h; exact Nat.le_of_eq (kb_len17 (csP_16 h2)).symm) rfl rfl (Nat.le_of_ble_eq_true rfl) dc_L_law_583 hf (fun r w hp => ?_)
    obtain ⟨rfl, w1, rfl, hC2⟩ := hp
    refine kw_cv (ws' := kl_w kL wR w1 o f) (kb_putE h13 (kb_len17 h16) (kb_len17 (csP_16 hC2))) rfl rfl ?_
    refine kw_istore X dc_L_law_586 (by decide) ?_
    refine kw_aload_n X dc_L_law_588 rfl rfl ?_
    refine kw_callVI X kEw hE 0 hr0 rfl (ct_ZmarginF rd n lo hi cs T t S wR hP) (cw_V 0 X wd_688 wd_689 wd_690 wd_8 wd_691 rfl rfl (by decide +kernel) ⟨Nat.le_of_ble_eq_true rfl, Nat.le_of_ble_eq_true rfl⟩) (List.range' 0 13) (kb_get0 h13) (by decide) (fun _ _ h => Nat.le_of_eq (rfP_13 h).symm) rfl rfl (Nat.le_of_ble_eq_true rfl) dc_L_law_589 hf (fun r w hp => ?_)
    have hP1 := hp
    refine kw_cv (ws' := kl_w kL w w1 o f) (kb_put0 h13 (rfP_13 hP1)) rfl rfl ?_
    refine kw_istore X dc_L_law_592 (by decide) ?_
    refine kw_aload_n X dc_L_law_594 rfl rfl ?_
    obtain ⟨fr1, hr1⟩ := rfP_0 hP1
    have h131 := rfP_13 hP1
    refine kw_callVI X kEw hE 0 hr1 rfl (ct_Zthrown rd _ _ _ _ _ _ _ _ _ hP1) (cw_V 0 X wd_661 wd_662 wd_663 wd_8 wd_664 rfl rfl (by decide +kernel) ⟨Nat.le_of_ble_eq_true rfl, Nat.le_of_ble_eq_true rfl⟩) (List.range' 0 13) (kb_get0 h131) (by decide) (fun _ _ h => Nat.le_of_eq (rfP_13 h.2).symm) rfl rfl (Nat.le_of_ble_eq_true rfl) dc_L_law_595 hf (fun r w hp => ?_)
    obtain ⟨rfl, hP2⟩ := hp
    refine kw_cv (ws' := kl_w kL w w1 o f) (kb_put0 h131 (rfP_13 hP2)) rfl rfl ?_
    refine kw_iload X dc_L_law_598 rfl ?_
    refine kw_icmp_eq (tgt := 605) X dc_L_law_600 (by decide) (fun _ => ?_) (fun hne => absurd rfl hne)
    refine kw_iload X dc_L_law_605 rfl ?_
    refine kw_if_ne (tgt := 622) X dc_L_law_607 (by decide) (fun _ => ?_) (fun h9 => absurd h9 (by decide))
    refine kw_goto (tgt := 895) X dc_L_law_622 (by decide) ?_
    refine kw_kill 5 ?_
    refine kw_kill 6 ?_
    exact K _ _ _ _ _ _ _ _ _ _ _ hP2 hC2
  · obtain ⟨fr0, hr0⟩ := rfP_0 hP
    have h13 := rfP_13 hP
    have h16 := csP_16 hC
    refine kw_aload_n X dc_L_law_581 rfl rfl ?_
    refine kw_aload_n X dc_L_law_582 rfl rfl ?_
    refine kx_callSW X hEx hN (ct_LmarginT ad n lo hi cs T wC hC o f) (cw_SW 2 X wd_521 wd_522 wd_0 wd_523 rfl rfl (by decide +kernel) ⟨Nat.le_of_ble_eq_true rfl, Nat.le_of_ble_eq_true rfl⟩) (List.range' 13 17) (kb_getE h13 (kb_len17 h16)) (by decide) (fun _ _ h => by obtain ⟨_, w1, f2, rfl, h2, _⟩ := h; exact Nat.le_of_eq (kb_len17 (csP_16 h2)).symm) rfl rfl (Nat.le_of_ble_eq_true rfl) dc_L_law_583 hf (fun r w hp => ?_)
    obtain ⟨rfl, w1, f2, rfl, hC2, hv0⟩ := hp
    refine kw_cv (ws' := kl_w kL wR w1 o f2) (kb_putE h13 (kb_len17 h16) (kb_len17 (csP_16 hC2))) rfl rfl ?_
    refine kw_istore X dc_L_law_586 (by decide) ?_
    refine kw_aload_n X dc_L_law_588 rfl rfl ?_
    refine kw_callVI X kEw hE 0 hr0 rfl (ct_ZmarginT rd n lo hi cs T t S wR hP) (cw_V 0 X wd_688 wd_689 wd_690 wd_8 wd_691 rfl rfl (by decide +kernel) ⟨Nat.le_of_ble_eq_true rfl, Nat.le_of_ble_eq_true rfl⟩) (List.range' 0 13) (kb_get0 h13) (by decide) (fun _ _ h => Nat.le_of_eq (rfP_13 h.2).symm) rfl rfl (Nat.le_of_ble_eq_true rfl) dc_L_law_589 hf (fun r w hp => ?_)
    obtain ⟨rfl, hP1⟩ := hp
    refine kw_cv (ws' := kl_w kL w w1 o f2) (kb_put0 h13 (rfP_13 hP1)) rfl rfl ?_
    refine kw_istore X dc_L_law_592 (by decide) ?_
    refine kw_aload_n X dc_L_law_594 rfl rfl ?_
    obtain ⟨fr1, hr1⟩ := rfP_0 hP1
    have h131 := rfP_13 hP1
    refine kw_callVI X kEw hE 0 hr1 rfl (ct_Zthrown rd _ _ _ _ _ _ _ _ _ hP1) (cw_V 0 X wd_661 wd_662 wd_663 wd_8 wd_664 rfl rfl (by decide +kernel) ⟨Nat.le_of_ble_eq_true rfl, Nat.le_of_ble_eq_true rfl⟩) (List.range' 0 13) (kb_get0 h131) (by decide) (fun _ _ h => Nat.le_of_eq (rfP_13 h.2).symm) rfl rfl (Nat.le_of_ble_eq_true rfl) dc_L_law_595 hf (fun r w hp => ?_)
    obtain ⟨rfl, hP2⟩ := hp
    refine kw_cv (ws' := kl_w kL w w1 o f2) (kb_put0 h131 (rfP_13 hP2)) rfl rfl ?_
    refine kw_iload X dc_L_law_598 rfl ?_
    refine kw_icmp_eq (tgt := 605) X dc_L_law_600 (by decide) (fun _ => ?_) (fun hne => absurd rfl hne)
    refine kw_iload X dc_L_law_605 rfl ?_
    refine kw_if_ne (tgt := 622) X dc_L_law_607 (by decide) (fun h9 => absurd rfl h9) (fun _ => ?_)
    refine kw_aload_n X dc_L_law_610 rfl rfl ?_
    refine kw_iconst (v := (nI 0)) X dc_L_law_611 (by decide) ?_
    refine kw_lald (v := (iZ (gm_mg lo hi n (gm_run lo hi n cs).1)).toInt64) X 29 3 (kb_at29 (rfP_13 hP2) (csP_16 hC2)) rfl (kq_in (k := 0) (by decide) (by decide)) (by rw [kq_cl (k := 0) (by decide)]; exact hv0) dc_L_law_612 ?_
    refine kw_iload X dc_L_law_613 rfl ?_
    refine kw_i2l (v := (iZ (gm_mg lo hi n (gm_run lo hi n cs).1)).toInt64) X dc_L_law_615 rfl ?_
    refine kw_lcmp (v := 0) X dc_L_law_616 (lg_cmp_0 _) ?_
    refine kw_if_eq (tgt := 622) X dc_L_law_617 (by decide) (fun _ => ?_) (fun h9 => absurd rfl h9)
    refine kw_goto (tgt := 895) X dc_L_law_622 (by decide) ?_
    refine kw_kill 5 ?_
    refine kw_kill 6 ?_
    exact K _ _ _ _ _ _ _ _ _ _ _ hP2 hC2
set_option maxRecDepth 100000 in
set_option maxHeartbeats 1000000 in
theorem kl_good {p : Program} {l : Launch} {e : Env} {s : State} {m : MethodId} {args : Array Value} {below : List Frame} {meth : Method} {c : Code} {Q : State → Prop} {D : va_G} {kI kB kC kL : ClassId} {A : Nat → Prop} {c0 : Cond} (X : kw_X p s m args c cd_L_law 7 "CoinStringsLaw" (c0 :: gw_tbl) D cl_v (kt kI kB kC kL) A) (hl0 : l.stackTraces = false) (hEx : kEx s) (hN : kx_NA A s) {b L : Nat} {xs : Nat → Int32} (hX : va_X b L xs s s.heap) (hbl : b < s.heap.size) (hbA : ¬ A b) (hL : L ≤ 1536) {ad rd : Nat → Nat} {o k : Nat} (hk : 3 * k + 3 ≤ L) {cells slots : Nat} (hf : cells + 1 ≤ room_1.cells ∧ slots + 6 ≤ room_1.slots) {n : Nat} {lo hi : Nat → Nat} {bg : Bool} {cs T : List Nat} {t : Nat} {S : Bool} {wR wC : va_W} {f : Nat → Int64} (hP : rfP kI rd n lo hi bg cs T t S wR) (hC : csP kI kB kC ad n lo hi bg cs T wC) (K : kl_K p l e s m args below meth c D A Q kI kB kC kL b ad rd o k cells slots) : kw_W p l e room_1 s m args below meth c 7 D cl_v A cells slots Q (kl_w kL wR wC o f) 625 (kl_lv b ad rd o k) [] := by
  have hE := hEx.1
  cases bg
  · obtain ⟨fr0, hr0⟩ := rfP_0 hP
    have h13 := rfP_13 hP
    have h16 := csP_16 hC
    refine kw_aload_n X dc_L_law_625 rfl rfl ?_
    refine kw_aload_n X dc_L_law_626 rfl rfl ?_
    refine kx_callSW X hEx hN (ct_LgoodF hl0 ad n lo hi cs T wC hC o f) (cw_SW 2 X wd_534 wd_535 wd_0 wd_536 rfl rfl (by decide +kernel) ⟨Nat.le_of_ble_eq_true rfl, Nat.le_of_ble_eq_true rfl⟩) (List.range' 13 17) (kb_getE h13 (kb_len17 h16)) (by decide) (fun _ _ h => by obtain ⟨_, w1, rfl, h2⟩ := h; exact Nat.le_of_eq (kb_len17 (csP_16 h2)).symm) rfl rfl (Nat.le_of_ble_eq_true rfl) dc_L_law_627 hf (fun r w hp => ?_)
    obtain ⟨rfl, w1, rfl, hC2⟩ := hp
    refine kw_cv (ws' := kl_w kL wR w1 o f) (kb_putE h13 (kb_len17 h16) (kb_len17 (csP_16 hC2))) rfl rfl ?_
    refine kw_istore X dc_L_law_630 (by decide) ?_
    refine kw_aload_n X dc_L_law_632 rfl rfl ?_
    refine kw_callVI X kEw hE 0 hr0 rfl (ct_ZgoodF rd n lo hi cs T t S wR hP) (cw_V 0 X wd_716 wd_717 wd_718 wd_8 wd_719 rfl rfl (by decide +kernel) ⟨Nat.le_of_ble_eq_true rfl, Nat.le_of_ble_eq_true rfl⟩) (List.range' 0 13) (kb_get0 h13) (by decide) (fun _ _ h => Nat.le_of_eq (rfP_13 h).symm) rfl rfl (Nat.le_of_ble_eq_true rfl) dc_L_law_633 hf (fun r w hp => ?_)
    have hP1 := hp
    refine kw_cv (ws' := kl_w kL w w1 o f) (kb_put0 h13 (rfP_13 hP1)) rfl rfl ?_
    refine kw_istore X dc_L_law_636 (by decide) ?_
    refine kw_aload_n X dc_L_law_638 rfl rfl ?_
    obtain ⟨fr1, hr1⟩ := rfP_0 hP1
    have h131 := rfP_13 hP1
    refine kw_callVI X kEw hE 0 hr1 rfl (ct_Zthrown rd _ _ _ _ _ _ _ _ _ hP1) (cw_V 0 X wd_661 wd_662 wd_663 wd_8 wd_664 rfl rfl (by decide +kernel) ⟨Nat.le_of_ble_eq_true rfl, Nat.le_of_ble_eq_true rfl⟩) (List.range' 0 13) (kb_get0 h131) (by decide) (fun _ _ h => Nat.le_of_eq (rfP_13 h.2).symm) rfl rfl (Nat.le_of_ble_eq_true rfl) dc_L_law_639 hf (fun r w hp => ?_)
    obtain ⟨rfl, hP2⟩ := hp
    refine kw_cv (ws' := kl_w kL w w1 o f) (kb_put0 h131 (rfP_13 hP2)) rfl rfl ?_
    refine kw_iload X dc_L_law_642 rfl ?_
    refine kw_icmp_eq (tgt := 649) X dc_L_law_644 (by decide) (fun _ => ?_) (fun hne => absurd rfl hne)
    refine kw_iload X dc_L_law_649 rfl ?_
    refine kw_if_ne (tgt := 666) X dc_L_law_651 (by decide) (fun _ => ?_) (fun h9 => absurd h9 (by decide))
    refine kw_goto (tgt := 895) X dc_L_law_666 (by decide) ?_
    refine kw_kill 5 ?_
    refine kw_kill 6 ?_
    exact K _ _ _ _ _ _ _ _ _ _ _ hP2 hC2
  · obtain ⟨fr0, hr0⟩ := rfP_0 hP
    have h13 := rfP_13 hP
    have h16 := csP_16 hC
    refine kw_aload_n X dc_L_law_625 rfl rfl ?_
    refine kw_aload_n X dc_L_law_626 rfl rfl ?_
    refine kx_callSW X hEx hN (ct_LgoodT ad n lo hi cs T wC hC o f) (cw_SW 2 X wd_534 wd_535 wd_0 wd_536 rfl rfl (by decide +kernel) ⟨Nat.le_of_ble_eq_true rfl, Nat.le_of_ble_eq_true rfl⟩) (List.range' 13 17) (kb_getE h13 (kb_len17 h16)) (by decide) (fun _ _ h => by obtain ⟨_, w1, f2, rfl, h2, _⟩ := h; exact Nat.le_of_eq (kb_len17 (csP_16 h2)).symm) rfl rfl (Nat.le_of_ble_eq_true rfl) dc_L_law_627 hf (fun r w hp => ?_)
    obtain ⟨rfl, w1, f2, rfl, hC2, hv0⟩ := hp
    refine kw_cv (ws' := kl_w kL wR w1 o f2) (kb_putE h13 (kb_len17 h16) (kb_len17 (csP_16 hC2))) rfl rfl ?_
    refine kw_istore X dc_L_law_630 (by decide) ?_
    refine kw_aload_n X dc_L_law_632 rfl rfl ?_
    refine kw_callVI X kEw hE 0 hr0 rfl (ct_ZgoodT rd n lo hi cs T t S wR hP) (cw_V 0 X wd_716 wd_717 wd_718 wd_8 wd_719 rfl rfl (by decide +kernel) ⟨Nat.le_of_ble_eq_true rfl, Nat.le_of_ble_eq_true rfl⟩) (List.range' 0 13) (kb_get0 h13) (by decide) (fun _ _ h => Nat.le_of_eq (rfP_13 h.2).symm) rfl rfl (Nat.le_of_ble_eq_true rfl) dc_L_law_633 hf (fun r w hp => ?_)
    obtain ⟨rfl, hP1⟩ := hp
    refine kw_cv (ws' := kl_w kL w w1 o f2) (kb_put0 h13 (rfP_13 hP1)) rfl rfl ?_
    refine kw_istore X dc_L_law_636 (by decide) ?_
    refine kw_aload_n X dc_L_law_638 rfl rfl ?_
    obtain ⟨fr1, hr1⟩ := rfP_0 hP1
    have h131 := rfP_13 hP1
    refine kw_callVI X kEw hE 0 hr1 rfl (ct_Zthrown rd _ _ _ _ _ _ _ _ _ hP1) (cw_V 0 X wd_661 wd_662 wd_663 wd_8 wd_664 rfl rfl (by decide +kernel) ⟨Nat.le_of_ble_eq_true rfl, Nat.le_of_ble_eq_true rfl⟩) (List.range' 0 13) (kb_get0 h131) (by decide) (fun _ _ h => Nat.le_of_eq (rfP_13 h.2).symm) rfl rfl (Nat.le_of_ble_eq_true rfl) dc_L_law_639 hf (fun r w hp => ?_)
    obtain ⟨rfl, hP2⟩ := hp
    refine kw_cv (ws' := kl_w kL w w1 o f2) (kb_put0 h131 (rfP_13 hP2)) rfl rfl ?_
    refine kw_iload X dc_L_law_642 rfl ?_
    refine kw_icmp_eq (tgt := 649) X dc_L_law_644 (by decide) (fun _ => ?_) (fun hne => absurd rfl hne)
    refine kw_iload X dc_L_law_649 rfl ?_
    refine kw_if_ne (tgt := 666) X dc_L_law_651 (by decide) (fun h9 => absurd rfl h9) (fun _ => ?_)
    refine kw_aload_n X dc_L_law_654 rfl rfl ?_
    refine kw_iconst (v := (nI 0)) X dc_L_law_655 (by decide) ?_
    refine kw_lald (v := (nI (gm_good lo hi n (gm_run lo hi n cs).1)).toInt64) X 29 3 (kb_at29 (rfP_13 hP2) (csP_16 hC2)) rfl (kq_in (k := 0) (by decide) (by decide)) (by rw [kq_cl (k := 0) (by decide)]; exact hv0) dc_L_law_656 ?_
    refine kw_iload X dc_L_law_657 rfl ?_
    refine kw_i2l (v := (nI (gm_good lo hi n (gm_run lo hi n cs).1)).toInt64) X dc_L_law_659 rfl ?_
    refine kw_lcmp (v := 0) X dc_L_law_660 (lg_cmp_0 _) ?_
    refine kw_if_eq (tgt := 666) X dc_L_law_661 (by decide) (fun _ => ?_) (fun h9 => absurd rfl h9)
    refine kw_goto (tgt := 895) X dc_L_law_666 (by decide) ?_
    refine kw_kill 5 ?_
    refine kw_kill 6 ?_
    exact K _ _ _ _ _ _ _ _ _ _ _ hP2 hC2
set_option maxRecDepth 100000 in
set_option maxHeartbeats 1000000 in
theorem kl_nim {p : Program} {l : Launch} {e : Env} {s : State} {m : MethodId} {args : Array Value} {below : List Frame} {meth : Method} {c : Code} {Q : State → Prop} {D : va_G} {kI kB kC kL : ClassId} {A : Nat → Prop} {c0 : Cond} (X : kw_X p s m args c cd_L_law 7 "CoinStringsLaw" (c0 :: gw_tbl) D cl_v (kt kI kB kC kL) A) (hl0 : l.stackTraces = false) (hEx : kEx s) (hN : kx_NA A s) {b L : Nat} {xs : Nat → Int32} (hX : va_X b L xs s s.heap) (hbl : b < s.heap.size) (hbA : ¬ A b) (hL : L ≤ 1536) {ad rd : Nat → Nat} {o k : Nat} (hk : 3 * k + 3 ≤ L) {cells slots : Nat} (hf : cells + 1 ≤ room_1.cells ∧ slots + 6 ≤ room_1.slots) {n : Nat} {lo hi : Nat → Nat} {bg : Bool} {cs T : List Nat} {t : Nat} {S : Bool} {wR wC : va_W} {f : Nat → Int64} (hP : rfP kI rd n lo hi bg cs T t S wR) (hC : csP kI kB kC ad n lo hi bg cs T wC) (K : kl_K p l e s m args below meth c D A Q kI kB kC kL b ad rd o k cells slots) : kw_W p l e room_1 s m args below meth c 7 D cl_v A cells slots Q (kl_w kL wR wC o f) 669 (kl_lv b ad rd o k) [] := by
  have hE := hEx.1
  cases bg
  · obtain ⟨fr0, hr0⟩ := rfP_0 hP
    have h13 := rfP_13 hP
    have h16 := csP_16 hC
    refine kw_aload_n X dc_L_law_669 rfl rfl ?_
    refine kw_aload_n X dc_L_law_670 rfl rfl ?_
    refine kx_callSW X hEx hN (ct_LnimF hl0 ad n lo hi cs T wC hC o f) (cw_SW 2 X wd_541 wd_542 wd_0 wd_543 rfl rfl (by decide +kernel) ⟨Nat.le_of_ble_eq_true rfl, Nat.le_of_ble_eq_true rfl⟩) (List.range' 13 17) (kb_getE h13 (kb_len17 h16)) (by decide) (fun _ _ h => by obtain ⟨_, w1, rfl, h2⟩ := h; exact Nat.le_of_eq (kb_len17 (csP_16 h2)).symm) rfl rfl (Nat.le_of_ble_eq_true rfl) dc_L_law_671 hf (fun r w hp => ?_)
    obtain ⟨rfl, w1, rfl, hC2⟩ := hp
    refine kw_cv (ws' := kl_w kL wR w1 o f) (kb_putE h13 (kb_len17 h16) (kb_len17 (csP_16 hC2))) rfl rfl ?_
    refine kw_istore X dc_L_law_674 (by decide) ?_
    refine kw_aload_n X dc_L_law_676 rfl rfl ?_
    refine kw_callVI X kEw hE 0 hr0 rfl (ct_ZnimF rd n lo hi cs T t S wR hP) (cw_V 0 X wd_724 wd_725 wd_726 wd_8 wd_727 rfl rfl (by decide +kernel) ⟨Nat.le_of_ble_eq_true rfl, Nat.le_of_ble_eq_true rfl⟩) (List.range' 0 13) (kb_get0 h13) (by decide) (fun _ _ h => Nat.le_of_eq (rfP_13 h).symm) rfl rfl (Nat.le_of_ble_eq_true rfl) dc_L_law_677 hf (fun r w hp => ?_)
    have hP1 := hp
    refine kw_cv (ws' := kl_w kL w w1 o f) (kb_put0 h13 (rfP_13 hP1)) rfl rfl ?_
    refine kw_istore X dc_L_law_680 (by decide) ?_
    refine kw_aload_n X dc_L_law_682 rfl rfl ?_
    obtain ⟨fr1, hr1⟩ := rfP_0 hP1
    have h131 := rfP_13 hP1
    refine kw_callVI X kEw hE 0 hr1 rfl (ct_Zthrown rd _ _ _ _ _ _ _ _ _ hP1) (cw_V 0 X wd_661 wd_662 wd_663 wd_8 wd_664 rfl rfl (by decide +kernel) ⟨Nat.le_of_ble_eq_true rfl, Nat.le_of_ble_eq_true rfl⟩) (List.range' 0 13) (kb_get0 h131) (by decide) (fun _ _ h => Nat.le_of_eq (rfP_13 h.2).symm) rfl rfl (Nat.le_of_ble_eq_true rfl) dc_L_law_683 hf (fun r w hp => ?_)
    obtain ⟨rfl, hP2⟩ := hp
    refine kw_cv (ws' := kl_w kL w w1 o f) (kb_put0 h131 (rfP_13 hP2)) rfl rfl ?_
    refine kw_iload X dc_L_law_686 rfl ?_
    refine kw_icmp_eq (tgt := 693) X dc_L_law_688 (by decide) (fun _ => ?_) (fun hne => absurd rfl hne)
    refine kw_iload X dc_L_law_693 rfl ?_
    refine kw_if_ne (tgt := 710) X dc_L_law_695 (by decide) (fun _ => ?_) (fun h9 => absurd h9 (by decide))
    refine kw_goto (tgt := 895) X dc_L_law_710 (by decide) ?_
    refine kw_kill 5 ?_
    refine kw_kill 6 ?_
    exact K _ _ _ _ _ _ _ _ _ _ _ hP2 hC2
  · obtain ⟨fr0, hr0⟩ := rfP_0 hP
    have h13 := rfP_13 hP
    have h16 := csP_16 hC
    refine kw_aload_n X dc_L_law_669 rfl rfl ?_
    refine kw_aload_n X dc_L_law_670 rfl rfl ?_
    refine kx_callSW X hEx hN (ct_LnimT ad n lo hi cs T wC hC o f) (cw_SW 2 X wd_541 wd_542 wd_0 wd_543 rfl rfl (by decide +kernel) ⟨Nat.le_of_ble_eq_true rfl, Nat.le_of_ble_eq_true rfl⟩) (List.range' 13 17) (kb_getE h13 (kb_len17 h16)) (by decide) (fun _ _ h => by obtain ⟨_, w1, f2, rfl, h2, _⟩ := h; exact Nat.le_of_eq (kb_len17 (csP_16 h2)).symm) rfl rfl (Nat.le_of_ble_eq_true rfl) dc_L_law_671 hf (fun r w hp => ?_)
    obtain ⟨rfl, w1, f2, rfl, hC2, hv0⟩ := hp
    refine kw_cv (ws' := kl_w kL wR w1 o f2) (kb_putE h13 (kb_len17 h16) (kb_len17 (csP_16 hC2))) rfl rfl ?_
    refine kw_istore X dc_L_law_674 (by decide) ?_
    refine kw_aload_n X dc_L_law_676 rfl rfl ?_
    refine kw_callVI X kEw hE 0 hr0 rfl (ct_ZnimT rd n lo hi cs T t S wR hP) (cw_V 0 X wd_724 wd_725 wd_726 wd_8 wd_727 rfl rfl (by decide +kernel) ⟨Nat.le_of_ble_eq_true rfl, Nat.le_of_ble_eq_true rfl⟩) (List.range' 0 13) (kb_get0 h13) (by decide) (fun _ _ h => Nat.le_of_eq (rfP_13 h.2).symm) rfl rfl (Nat.le_of_ble_eq_true rfl) dc_L_law_677 hf (fun r w hp => ?_)
    obtain ⟨rfl, hP1⟩ := hp
    refine kw_cv (ws' := kl_w kL w w1 o f2) (kb_put0 h13 (rfP_13 hP1)) rfl rfl ?_
    refine kw_istore X dc_L_law_680 (by decide) ?_
    refine kw_aload_n X dc_L_law_682 rfl rfl ?_
    obtain ⟨fr1, hr1⟩ := rfP_0 hP1
    have h131 := rfP_13 hP1
    refine kw_callVI X kEw hE 0 hr1 rfl (ct_Zthrown rd _ _ _ _ _ _ _ _ _ hP1) (cw_V 0 X wd_661 wd_662 wd_663 wd_8 wd_664 rfl rfl (by decide +kernel) ⟨Nat.le_of_ble_eq_true rfl, Nat.le_of_ble_eq_true rfl⟩) (List.range' 0 13) (kb_get0 h131) (by decide) (fun _ _ h => Nat.le_of_eq (rfP_13 h.2).symm) rfl rfl (Nat.le_of_ble_eq_true rfl) dc_L_law_683 hf (fun r w hp => ?_)
    obtain ⟨rfl, hP2⟩ := hp
    refine kw_cv (ws' := kl_w kL w w1 o f2) (kb_put0 h131 (rfP_13 hP2)) rfl rfl ?_
    refine kw_iload X dc_L_law_686 rfl ?_
    refine kw_icmp_eq (tgt := 693) X dc_L_law_688 (by decide) (fun _ => ?_) (fun hne => absurd rfl hne)
    refine kw_iload X dc_L_law_693 rfl ?_
    refine kw_if_ne (tgt := 710) X dc_L_law_695 (by decide) (fun h9 => absurd rfl h9) (fun _ => ?_)
    refine kw_aload_n X dc_L_law_698 rfl rfl ?_
    refine kw_iconst (v := (nI 0)) X dc_L_law_699 (by decide) ?_
    refine kw_lald (v := (iZ (gm_nm lo hi n (gm_run lo hi n cs).1)).toInt64) X 29 3 (kb_at29 (rfP_13 hP2) (csP_16 hC2)) rfl (kq_in (k := 0) (by decide) (by decide)) (by rw [kq_cl (k := 0) (by decide)]; exact hv0) dc_L_law_700 ?_
    refine kw_iload X dc_L_law_701 rfl ?_
    refine kw_i2l (v := (iZ (gm_nm lo hi n (gm_run lo hi n cs).1)).toInt64) X dc_L_law_703 rfl ?_
    refine kw_lcmp (v := 0) X dc_L_law_704 (lg_cmp_0 _) ?_
    refine kw_if_eq (tgt := 710) X dc_L_law_705 (by decide) (fun _ => ?_) (fun h9 => absurd rfl h9)
    refine kw_goto (tgt := 895) X dc_L_law_710 (by decide) ?_
    refine kw_kill 5 ?_
    refine kw_kill 6 ?_
    exact K _ _ _ _ _ _ _ _ _ _ _ hP2 hC2
set_option maxRecDepth 100000 in
set_option maxHeartbeats 1000000 in
theorem kl_mad {p : Program} {l : Launch} {e : Env} {s : State} {m : MethodId} {args : Array Value} {below : List Frame} {meth : Method} {c : Code} {Q : State → Prop} {D : va_G} {kI kB kC kL : ClassId} {A : Nat → Prop} {c0 : Cond} (X : kw_X p s m args c cd_L_law 7 "CoinStringsLaw" (c0 :: gw_tbl) D cl_v (kt kI kB kC kL) A) (hl0 : l.stackTraces = false) (hEx : kEx s) (hN : kx_NA A s) {b L : Nat} {xs : Nat → Int32} (hX : va_X b L xs s s.heap) (hbl : b < s.heap.size) (hbA : ¬ A b) (hL : L ≤ 1536) {ad rd : Nat → Nat} {o k : Nat} (hk : 3 * k + 3 ≤ L) {cells slots : Nat} (hf : cells + 1 ≤ room_1.cells ∧ slots + 6 ≤ room_1.slots) {n : Nat} {lo hi : Nat → Nat} {bg : Bool} {cs T : List Nat} {t : Nat} {S : Bool} {wR wC : va_W} {f : Nat → Int64} (hP : rfP kI rd n lo hi bg cs T t S wR) (hC : csP kI kB kC ad n lo hi bg cs T wC) (K : kl_K p l e s m args below meth c D A Q kI kB kC kL b ad rd o k cells slots) : kw_W p l e room_1 s m args below meth c 7 D cl_v A cells slots Q (kl_w kL wR wC o f) 713 (kl_lv b ad rd o k) [] := by
  have hE := hEx.1
  cases bg
  · obtain ⟨fr0, hr0⟩ := rfP_0 hP
    have h13 := rfP_13 hP
    have h16 := csP_16 hC
    refine kw_aload_n X dc_L_law_713 rfl rfl ?_
    refine kw_aload_n X dc_L_law_714 rfl rfl ?_
    refine kx_callSW X hEx hN (ct_LmadF hl0 ad n lo hi cs T wC hC o f) (cw_SW 2 X wd_551 wd_552 wd_0 wd_553 rfl rfl (by decide +kernel) ⟨Nat.le_of_ble_eq_true rfl, Nat.le_of_ble_eq_true rfl⟩) (List.range' 13 17) (kb_getE h13 (kb_len17 h16)) (by decide) (fun _ _ h => by obtain ⟨_, w1, rfl, h2⟩ := h; exact Nat.le_of_eq (kb_len17 (csP_16 h2)).symm) rfl rfl (Nat.le_of_ble_eq_true rfl) dc_L_law_715 hf (fun r w hp => ?_)
    obtain ⟨rfl, w1, rfl, hC2⟩ := hp
    refine kw_cv (ws' := kl_w kL wR w1 o f) (kb_putE h13 (kb_len17 h16) (kb_len17 (csP_16 hC2))) rfl rfl ?_
    refine kw_istore X dc_L_law_718 (by decide) ?_
    refine kw_aload_n X dc_L_law_720 rfl rfl ?_
    refine kw_callVI X kEw hE 0 hr0 rfl (ct_ZmadF rd n lo hi cs T t S wR hP) (cw_V 0 X wd_728 wd_729 wd_730 wd_8 wd_731 rfl rfl (by decide +kernel) ⟨Nat.le_of_ble_eq_true rfl, Nat.le_of_ble_eq_true rfl⟩) (List.range' 0 13) (kb_get0 h13) (by decide) (fun _ _ h => Nat.le_of_eq (rfP_13 h).symm) rfl rfl (Nat.le_of_ble_eq_true rfl) dc_L_law_721 hf (fun r w hp => ?_)
    have hP1 := hp
    refine kw_cv (ws' := kl_w kL w w1 o f) (kb_put0 h13 (rfP_13 hP1)) rfl rfl ?_
    refine kw_istore X dc_L_law_724 (by decide) ?_
    refine kw_aload_n X dc_L_law_726 rfl rfl ?_
    obtain ⟨fr1, hr1⟩ := rfP_0 hP1
    have h131 := rfP_13 hP1
    refine kw_callVI X kEw hE 0 hr1 rfl (ct_Zthrown rd _ _ _ _ _ _ _ _ _ hP1) (cw_V 0 X wd_661 wd_662 wd_663 wd_8 wd_664 rfl rfl (by decide +kernel) ⟨Nat.le_of_ble_eq_true rfl, Nat.le_of_ble_eq_true rfl⟩) (List.range' 0 13) (kb_get0 h131) (by decide) (fun _ _ h => Nat.le_of_eq (rfP_13 h.2).symm) rfl rfl (Nat.le_of_ble_eq_true rfl) dc_L_law_727 hf (fun r w hp => ?_)
    obtain ⟨rfl, hP2⟩ := hp
    refine kw_cv (ws' := kl_w kL w w1 o f) (kb_put0 h131 (rfP_13 hP2)) rfl rfl ?_
    refine kw_iload X dc_L_law_730 rfl ?_
    refine kw_icmp_eq (tgt := 737) X dc_L_law_732 (by decide) (fun _ => ?_) (fun hne => absurd rfl hne)
    refine kw_iload X dc_L_law_737 rfl ?_
    refine kw_if_ne (tgt := 754) X dc_L_law_739 (by decide) (fun _ => ?_) (fun h9 => absurd h9 (by decide))
    refine kw_goto (tgt := 895) X dc_L_law_754 (by decide) ?_
    refine kw_kill 5 ?_
    refine kw_kill 6 ?_
    exact K _ _ _ _ _ _ _ _ _ _ _ hP2 hC2
  · obtain ⟨fr0, hr0⟩ := rfP_0 hP
    have h13 := rfP_13 hP
    have h16 := csP_16 hC
    refine kw_aload_n X dc_L_law_713 rfl rfl ?_
    refine kw_aload_n X dc_L_law_714 rfl rfl ?_
    refine kx_callSW X hEx hN (ct_LmadT ad n lo hi cs T wC hC o f) (cw_SW 2 X wd_551 wd_552 wd_0 wd_553 rfl rfl (by decide +kernel) ⟨Nat.le_of_ble_eq_true rfl, Nat.le_of_ble_eq_true rfl⟩) (List.range' 13 17) (kb_getE h13 (kb_len17 h16)) (by decide) (fun _ _ h => by obtain ⟨_, w1, f2, rfl, h2, _⟩ := h; exact Nat.le_of_eq (kb_len17 (csP_16 h2)).symm) rfl rfl (Nat.le_of_ble_eq_true rfl) dc_L_law_715 hf (fun r w hp => ?_)
    obtain ⟨rfl, w1, f2, rfl, hC2, hv0⟩ := hp
    refine kw_cv (ws' := kl_w kL wR w1 o f2) (kb_putE h13 (kb_len17 h16) (kb_len17 (csP_16 hC2))) rfl rfl ?_
    refine kw_istore X dc_L_law_718 (by decide) ?_
    refine kw_aload_n X dc_L_law_720 rfl rfl ?_
    refine kw_callVI X kEw hE 0 hr0 rfl (ct_ZmadT rd n lo hi cs T t S wR hP) (cw_V 0 X wd_728 wd_729 wd_730 wd_8 wd_731 rfl rfl (by decide +kernel) ⟨Nat.le_of_ble_eq_true rfl, Nat.le_of_ble_eq_true rfl⟩) (List.range' 0 13) (kb_get0 h13) (by decide) (fun _ _ h => Nat.le_of_eq (rfP_13 h.2).symm) rfl rfl (Nat.le_of_ble_eq_true rfl) dc_L_law_721 hf (fun r w hp => ?_)
    obtain ⟨rfl, hP1⟩ := hp
    refine kw_cv (ws' := kl_w kL w w1 o f2) (kb_put0 h13 (rfP_13 hP1)) rfl rfl ?_
    refine kw_istore X dc_L_law_724 (by decide) ?_
    refine kw_aload_n X dc_L_law_726 rfl rfl ?_
    obtain ⟨fr1, hr1⟩ := rfP_0 hP1
    have h131 := rfP_13 hP1
    refine kw_callVI X kEw hE 0 hr1 rfl (ct_Zthrown rd _ _ _ _ _ _ _ _ _ hP1) (cw_V 0 X wd_661 wd_662 wd_663 wd_8 wd_664 rfl rfl (by decide +kernel) ⟨Nat.le_of_ble_eq_true rfl, Nat.le_of_ble_eq_true rfl⟩) (List.range' 0 13) (kb_get0 h131) (by decide) (fun _ _ h => Nat.le_of_eq (rfP_13 h.2).symm) rfl rfl (Nat.le_of_ble_eq_true rfl) dc_L_law_727 hf (fun r w hp => ?_)
    obtain ⟨rfl, hP2⟩ := hp
    refine kw_cv (ws' := kl_w kL w w1 o f2) (kb_put0 h131 (rfP_13 hP2)) rfl rfl ?_
    refine kw_iload X dc_L_law_730 rfl ?_
    refine kw_icmp_eq (tgt := 737) X dc_L_law_732 (by decide) (fun _ => ?_) (fun hne => absurd rfl hne)
    refine kw_iload X dc_L_law_737 rfl ?_
    refine kw_if_ne (tgt := 754) X dc_L_law_739 (by decide) (fun h9 => absurd rfl h9) (fun _ => ?_)
    refine kw_aload_n X dc_L_law_742 rfl rfl ?_
    refine kw_iconst (v := (nI 0)) X dc_L_law_743 (by decide) ?_
    refine kw_lald (v := (nI (gm_mad lo hi n (gm_run lo hi n cs).1)).toInt64) X 29 3 (kb_at29 (rfP_13 hP2) (csP_16 hC2)) rfl (kq_in (k := 0) (by decide) (by decide)) (by rw [kq_cl (k := 0) (by decide)]; exact hv0) dc_L_law_744 ?_
    refine kw_iload X dc_L_law_745 rfl ?_
    refine kw_i2l (v := (nI (gm_mad lo hi n (gm_run lo hi n cs).1)).toInt64) X dc_L_law_747 rfl ?_
    refine kw_lcmp (v := 0) X dc_L_law_748 (lg_cmp_0 _) ?_
    refine kw_if_eq (tgt := 754) X dc_L_law_749 (by decide) (fun _ => ?_) (fun h9 => absurd rfl h9)
    refine kw_goto (tgt := 895) X dc_L_law_754 (by decide) ?_
    refine kw_kill 5 ?_
    refine kw_kill 6 ?_
    exact K _ _ _ _ _ _ _ _ _ _ _ hP2 hC2
set_option maxRecDepth 100000 in
set_option maxHeartbeats 1000000 in
theorem kl_play {p : Program} {l : Launch} {e : Env} {s : State} {m : MethodId} {args : Array Value} {below : List Frame} {meth : Method} {c : Code} {Q : State → Prop} {D : va_G} {kI kB kC kL : ClassId} {A : Nat → Prop} {c0 : Cond} (X : kw_X p s m args c cd_L_law 7 "CoinStringsLaw" (c0 :: gw_tbl) D cl_v (kt kI kB kC kL) A) (hl0 : l.stackTraces = false) (hEx : kEx s) (hN : kx_NA A s) {b L : Nat} {xs : Nat → Int32} (hX : va_X b L xs s s.heap) (hbl : b < s.heap.size) (hbA : ¬ A b) (hL : L ≤ 1536) {ad rd : Nat → Nat} {o k : Nat} (hk : 3 * k + 3 ≤ L) {cells slots : Nat} (hf : cells + 1 ≤ room_1.cells ∧ slots + 6 ≤ room_1.slots) {n : Nat} {lo hi : Nat → Nat} {bg : Bool} {cs T : List Nat} {t : Nat} {S : Bool} {wR wC : va_W} {f : Nat → Int64} (hP : rfP kI rd n lo hi bg cs T t S wR) (hC : csP kI kB kC ad n lo hi bg cs T wC) (K : kl_K p l e s m args below meth c D A Q kI kB kC kL b ad rd o k cells slots) : kw_W p l e room_1 s m args below meth c 7 D cl_v A cells slots Q (kl_w kL wR wC o f) 399 (kl_lv b ad rd o k) [] := by
  have hE := hEx.1
  cases bg
  · obtain ⟨fr0, hr0⟩ := rfP_0 hP
    have h13 := rfP_13 hP
    have h16 := csP_16 hC
    refine kw_aload_n X dc_L_law_399 rfl rfl ?_
    refine kw_aload_n X dc_L_law_400 rfl rfl ?_
    refine kx_callSW X hEx hN (ct_LplayF hl0 ad n lo hi cs T wC hC o f) (cw_SW 2 X wd_450 wd_451 wd_0 wd_452 rfl rfl (by decide +kernel) ⟨Nat.le_of_ble_eq_true rfl, Nat.le_of_ble_eq_true rfl⟩) (List.range' 13 17) (kb_getE h13 (kb_len17 h16)) (by decide) (fun _ _ h => by obtain ⟨_, w1, rfl, h2⟩ := h; exact Nat.le_of_eq (kb_len17 (csP_16 h2)).symm) rfl rfl (Nat.le_of_ble_eq_true rfl) dc_L_law_401 hf (fun r w hp => ?_)
    obtain ⟨rfl, w1, rfl, hC2⟩ := hp
    refine kw_cv (ws' := kl_w kL wR w1 o f) (kb_putE h13 (kb_len17 h16) (kb_len17 (csP_16 hC2))) rfl rfl ?_
    refine kw_istore X dc_L_law_404 (by decide) ?_
    refine kw_aload_n X dc_L_law_406 rfl rfl ?_
    refine kw_callVI X kEw hE 0 hr0 rfl (ct_RplayF rd n lo hi cs T t S wR hP) (cw_V 0 X wd_744 wd_745 wd_746 wd_8 wd_747 rfl rfl (by decide +kernel) ⟨Nat.le_of_ble_eq_true rfl, Nat.le_of_ble_eq_true rfl⟩) (List.range' 0 13) (kb_get0 h13) (by decide) (fun _ _ h => Nat.le_of_eq (rfP_13 h).symm) rfl rfl (Nat.le_of_ble_eq_true rfl) dc_L_law_407 hf (fun r w hp => ?_)
    have hP1 := hp
    refine kw_cv (ws' := kl_w kL w w1 o f) (kb_put0 h13 (rfP_13 hP1)) rfl rfl ?_
    refine kw_istore X dc_L_law_410 (by decide) ?_
    refine kw_aload_n X dc_L_law_412 rfl rfl ?_
    obtain ⟨fr1, hr1⟩ := rfP_0 hP1
    have h131 := rfP_13 hP1
    refine kw_callVI X kEw hE 0 hr1 rfl (ct_Zthrown rd _ _ _ _ _ _ _ _ _ hP1) (cw_V 0 X wd_661 wd_662 wd_663 wd_8 wd_664 rfl rfl (by decide +kernel) ⟨Nat.le_of_ble_eq_true rfl, Nat.le_of_ble_eq_true rfl⟩) (List.range' 0 13) (kb_get0 h131) (by decide) (fun _ _ h => Nat.le_of_eq (rfP_13 h.2).symm) rfl rfl (Nat.le_of_ble_eq_true rfl) dc_L_law_413 hf (fun r w hp => ?_)
    obtain ⟨rfl, hP2⟩ := hp
    refine kw_cv (ws' := kl_w kL w w1 o f) (kb_put0 h131 (rfP_13 hP2)) rfl rfl ?_
    refine kw_iload X dc_L_law_416 rfl ?_
    refine kw_icmp_eq (tgt := 423) X dc_L_law_418 (by decide) (fun _ => ?_) (fun hne => absurd rfl hne)
    refine kw_iload X dc_L_law_423 rfl ?_
    refine kw_if_ne (tgt := 440) X dc_L_law_425 (by decide) (fun _ => ?_) (fun h9 => absurd h9 (by decide))
    refine kw_goto (tgt := 895) X dc_L_law_440 (by decide) ?_
    refine kw_kill 5 ?_
    refine kw_kill 6 ?_
    exact K _ _ _ _ _ _ _ _ _ _ _ hP2 hC2
  · obtain ⟨fr0, hr0⟩ := rfP_0 hP
    have h13 := rfP_13 hP
    have h16 := csP_16 hC
    refine kw_aload_n X dc_L_law_399 rfl rfl ?_
    refine kw_aload_n X dc_L_law_400 rfl rfl ?_
    refine kx_callSW X hEx hN (ct_LplayT ad n lo hi cs T wC hC o f) (cw_SW 2 X wd_450 wd_451 wd_0 wd_452 rfl rfl (by decide +kernel) ⟨Nat.le_of_ble_eq_true rfl, Nat.le_of_ble_eq_true rfl⟩) (List.range' 13 17) (kb_getE h13 (kb_len17 h16)) (by decide) (fun _ _ h => by obtain ⟨_, w1, f2, rfl, h2, _⟩ := h; exact Nat.le_of_eq (kb_len17 (csP_16 h2)).symm) rfl rfl (Nat.le_of_ble_eq_true rfl) dc_L_law_401 hf (fun r w hp => ?_)
    obtain ⟨rfl, w1, f2, rfl, hC2, hv0⟩ := hp
    refine kw_cv (ws' := kl_w kL wR w1 o f2) (kb_putE h13 (kb_len17 h16) (kb_len17 (csP_16 hC2))) rfl rfl ?_
    refine kw_istore X dc_L_law_404 (by decide) ?_
    refine kw_aload_n X dc_L_law_406 rfl rfl ?_
    refine kw_callVI X kEw hE 0 hr0 rfl (ct_RplayT rd n lo hi cs T t S wR hP) (cw_V 0 X wd_744 wd_745 wd_746 wd_8 wd_747 rfl rfl (by decide +kernel) ⟨Nat.le_of_ble_eq_true rfl, Nat.le_of_ble_eq_true rfl⟩) (List.range' 0 13) (kb_get0 h13) (by decide) (fun _ _ h => Nat.le_of_eq (rfP_13 h.2).symm) rfl rfl (Nat.le_of_ble_eq_true rfl) dc_L_law_407 hf (fun r w hp => ?_)
    obtain ⟨rfl, hP1⟩ := hp
    refine kw_cv (ws' := kl_w kL w w1 o f2) (kb_put0 h13 (rfP_13 hP1)) rfl rfl ?_
    refine kw_istore X dc_L_law_410 (by decide) ?_
    refine kw_aload_n X dc_L_law_412 rfl rfl ?_
    obtain ⟨fr1, hr1⟩ := rfP_0 hP1
    have h131 := rfP_13 hP1
    refine kw_callVI X kEw hE 0 hr1 rfl (ct_Zthrown rd _ _ _ _ _ _ _ _ _ hP1) (cw_V 0 X wd_661 wd_662 wd_663 wd_8 wd_664 rfl rfl (by decide +kernel) ⟨Nat.le_of_ble_eq_true rfl, Nat.le_of_ble_eq_true rfl⟩) (List.range' 0 13) (kb_get0 h131) (by decide) (fun _ _ h => Nat.le_of_eq (rfP_13 h.2).symm) rfl rfl (Nat.le_of_ble_eq_true rfl) dc_L_law_413 hf (fun r w hp => ?_)
    obtain ⟨rfl, hP2⟩ := hp
    refine kw_cv (ws' := kl_w kL w w1 o f2) (kb_put0 h131 (rfP_13 hP2)) rfl rfl ?_
    refine kw_iload X dc_L_law_416 rfl ?_
    refine kw_icmp_eq (tgt := 423) X dc_L_law_418 (by decide) (fun _ => ?_) (fun hne => absurd rfl hne)
    refine kw_iload X dc_L_law_423 rfl ?_
    refine kw_if_ne (tgt := 440) X dc_L_law_425 (by decide) (fun h9 => absurd rfl h9) (fun _ => ?_)
    refine kw_aload_n X dc_L_law_428 rfl rfl ?_
    refine kw_iconst (v := (nI 0)) X dc_L_law_429 (by decide) ?_
    refine kw_lald (v := (nI ((gm_play lo hi n (gm_run lo hi n cs).2.1 12 cs).length - cs.length)).toInt64) X 29 3 (kb_at29 (rfP_13 hP2) (csP_16 hC2)) rfl (kq_in (k := 0) (by decide) (by decide)) (by rw [kq_cl (k := 0) (by decide)]; exact hv0) dc_L_law_430 ?_
    refine kw_iload X dc_L_law_431 rfl ?_
    refine kw_i2l (v := (nI ((gm_play lo hi n (gm_run lo hi n cs).2.1 12 cs).length - cs.length)).toInt64) X dc_L_law_433 rfl ?_
    refine kw_lcmp (v := 0) X dc_L_law_434 (lg_cmp_0 _) ?_
    refine kw_if_eq (tgt := 440) X dc_L_law_435 (by decide) (fun _ => ?_) (fun h9 => absurd rfl h9)
    refine kw_goto (tgt := 895) X dc_L_law_440 (by decide) ?_
    refine kw_kill 5 ?_
    refine kw_kill 6 ?_
    exact K _ _ _ _ _ _ _ _ _ _ _ hP2 hC2
set_option maxRecDepth 100000 in
set_option maxHeartbeats 1000000 in
theorem kl_taken {p : Program} {l : Launch} {e : Env} {s : State} {m : MethodId} {args : Array Value} {below : List Frame} {meth : Method} {c : Code} {Q : State → Prop} {D : va_G} {kI kB kC kL : ClassId} {A : Nat → Prop} {c0 : Cond} (X : kw_X p s m args c cd_L_law 7 "CoinStringsLaw" (c0 :: gw_tbl) D cl_v (kt kI kB kC kL) A) (hl0 : l.stackTraces = false) (hEx : kEx s) (hN : kx_NA A s) {b L : Nat} {xs : Nat → Int32} (hX : va_X b L xs s s.heap) (hbl : b < s.heap.size) (hbA : ¬ A b) (hL : L ≤ 1536) {ad rd : Nat → Nat} {o k : Nat} (hk : 3 * k + 3 ≤ L) {cells slots : Nat} (hf : cells + 1 ≤ room_1.cells ∧ slots + 6 ≤ room_1.slots) {n : Nat} {lo hi : Nat → Nat} {bg : Bool} {cs T : List Nat} {t : Nat} {S : Bool} {wR wC : va_W} {f : Nat → Int64} (hP : rfP kI rd n lo hi bg cs T t S wR) (hC : csP kI kB kC ad n lo hi bg cs T wC) (K : kl_K p l e s m args below meth c D A Q kI kB kC kL b ad rd o k cells slots) : kw_W p l e room_1 s m args below meth c 7 D cl_v A cells slots Q (kl_w kL wR wC o f) 456 (kl_lv b ad rd o k) [] := by
  have hE := hEx.1
  by_cases hj0 : xs (3 * k + 1) = nI 0
  · obtain ⟨fr0, hr0⟩ := rfP_0 hP
    have h13 := rfP_13 hP
    have h16 := csP_16 hC
    refine kw_aload_n X dc_L_law_456 rfl rfl ?_
    refine kw_aload_n X dc_L_law_457 rfl rfl ?_
    refine kw_iload X dc_L_law_458 rfl ?_
    refine kw_iconst (v := (nI 1)) X dc_L_law_460 (by decide) ?_
    refine kw_iadd (v := nI (3 * k + 1)) X dc_L_law_461 (nI_add _ _) ?_
    refine kl_sld (v := nI 0) X hX hbl hbA (vp_in_nI (by omega) (by omega)) (by rw [nI_clamp (by omega)]; exact hj0) dc_L_law_462 ?_
    refine kw_aload_n X dc_L_law_463 rfl rfl ?_
    refine kx_callSW X hEx hN (ct_LtakenT ad n lo hi bg cs T wC hC o f 0 (by decide)) (cw_SW 3 X wd_506 wd_507 wd_0 wd_508 rfl rfl (by decide +kernel) ⟨Nat.le_of_ble_eq_true rfl, Nat.le_of_ble_eq_true rfl⟩) (List.range' 13 17) (kb_getE h13 (kb_len17 h16)) (by decide) (fun _ _ h => by obtain ⟨_, w1, f2, rfl, h2, _⟩ := h; exact Nat.le_of_eq (kb_len17 (csP_16 h2)).symm) rfl rfl (Nat.le_of_ble_eq_true rfl) dc_L_law_464 hf (fun r w hp => ?_)
    obtain ⟨rfl, w1, f2, rfl, hC2, hv0⟩ := hp
    refine kw_cv (ws' := kl_w kL wR w1 o f2) (kb_putE h13 (kb_len17 h16) (kb_len17 (csP_16 hC2))) rfl rfl ?_
    refine kw_istore X dc_L_law_467 (by decide) ?_
    refine kw_aload_n X dc_L_law_469 rfl rfl ?_
    refine kw_aload_n X dc_L_law_470 rfl rfl ?_
    refine kw_iload X dc_L_law_471 rfl ?_
    refine kw_iconst (v := (nI 1)) X dc_L_law_473 (by decide) ?_
    refine kw_iadd (v := nI (3 * k + 1)) X dc_L_law_474 (nI_add _ _) ?_
    refine kl_sld (v := nI 0) X hX hbl hbA (vp_in_nI (by omega) (by omega)) (by rw [nI_clamp (by omega)]; exact hj0) dc_L_law_475 ?_
    refine kw_callVI X kEw hE 0 hr0 rfl (ct_RtakenT rd n lo hi bg cs T t S wR hP 0 (by decide)) (cw_V 1 X wd_752 wd_753 wd_754 wd_8 wd_755 rfl rfl (by decide +kernel) ⟨Nat.le_of_ble_eq_true rfl, Nat.le_of_ble_eq_true rfl⟩) (List.range' 0 13) (kb_get0 h13) (by decide) (fun _ _ h => Nat.le_of_eq (rfP_13 h.2).symm) rfl rfl (Nat.le_of_ble_eq_true rfl) dc_L_law_476 hf (fun r w hp => ?_)
    obtain ⟨rfl, hP1⟩ := hp
    refine kw_cv (ws' := kl_w kL w w1 o f2) (kb_put0 h13 (rfP_13 hP1)) rfl rfl ?_
    refine kw_istore X dc_L_law_479 (by decide) ?_
    refine kw_aload_n X dc_L_law_481 rfl rfl ?_
    obtain ⟨fr1, hr1⟩ := rfP_0 hP1
    have h131 := rfP_13 hP1
    refine kw_callVI X kEw hE 0 hr1 rfl (ct_Zthrown rd _ _ _ _ _ _ _ _ _ hP1) (cw_V 0 X wd_661 wd_662 wd_663 wd_8 wd_664 rfl rfl (by decide +kernel) ⟨Nat.le_of_ble_eq_true rfl, Nat.le_of_ble_eq_true rfl⟩) (List.range' 0 13) (kb_get0 h131) (by decide) (fun _ _ h => Nat.le_of_eq (rfP_13 h.2).symm) rfl rfl (Nat.le_of_ble_eq_true rfl) dc_L_law_482 hf (fun r w hp => ?_)
    obtain ⟨rfl, hP2⟩ := hp
    refine kw_cv (ws' := kl_w kL w w1 o f2) (kb_put0 h131 (rfP_13 hP2)) rfl rfl ?_
    refine kw_iload X dc_L_law_485 rfl ?_
    refine kw_icmp_eq (tgt := 492) X dc_L_law_487 (by decide) (fun _ => ?_) (fun hne => absurd rfl hne)
    refine kw_iload X dc_L_law_492 rfl ?_
    refine kw_if_ne (tgt := 509) X dc_L_law_494 (by decide) (fun h9 => absurd rfl h9) (fun _ => ?_)
    refine kw_aload_n X dc_L_law_497 rfl rfl ?_
    refine kw_iconst (v := (nI 0)) X dc_L_law_498 (by decide) ?_
    refine kw_lald (v := (nI (if 0 = 0 then (gm_run lo hi n cs).2.2.1 else (gm_run lo hi n cs).2.2.2)).toInt64) X 29 3 (kb_at29 (rfP_13 hP2) (csP_16 hC2)) rfl (kq_in (k := 0) (by decide) (by decide)) (by rw [kq_cl (k := 0) (by decide)]; exact hv0) dc_L_law_499 ?_
    refine kw_iload X dc_L_law_500 rfl ?_
    refine kw_i2l (v := (nI (if 0 = 0 then (gm_run lo hi n cs).2.2.1 else (gm_run lo hi n cs).2.2.2)).toInt64) X dc_L_law_502 rfl ?_
    refine kw_lcmp (v := 0) X dc_L_law_503 (lg_cmp_0 _) ?_
    refine kw_if_eq (tgt := 509) X dc_L_law_504 (by decide) (fun _ => ?_) (fun h9 => absurd rfl h9)
    refine kw_goto (tgt := 895) X dc_L_law_509 (by decide) ?_
    refine kw_kill 5 ?_
    refine kw_kill 6 ?_
    exact K _ _ _ _ _ _ _ _ _ _ _ hP2 hC2
  by_cases hj1 : xs (3 * k + 1) = nI 1
  · obtain ⟨fr0, hr0⟩ := rfP_0 hP
    have h13 := rfP_13 hP
    have h16 := csP_16 hC
    refine kw_aload_n X dc_L_law_456 rfl rfl ?_
    refine kw_aload_n X dc_L_law_457 rfl rfl ?_
    refine kw_iload X dc_L_law_458 rfl ?_
    refine kw_iconst (v := (nI 1)) X dc_L_law_460 (by decide) ?_
    refine kw_iadd (v := nI (3 * k + 1)) X dc_L_law_461 (nI_add _ _) ?_
    refine kl_sld (v := nI 1) X hX hbl hbA (vp_in_nI (by omega) (by omega)) (by rw [nI_clamp (by omega)]; exact hj1) dc_L_law_462 ?_
    refine kw_aload_n X dc_L_law_463 rfl rfl ?_
    refine kx_callSW X hEx hN (ct_LtakenT ad n lo hi bg cs T wC hC o f 1 (by decide)) (cw_SW 3 X wd_506 wd_507 wd_0 wd_508 rfl rfl (by decide +kernel) ⟨Nat.le_of_ble_eq_true rfl, Nat.le_of_ble_eq_true rfl⟩) (List.range' 13 17) (kb_getE h13 (kb_len17 h16)) (by decide) (fun _ _ h => by obtain ⟨_, w1, f2, rfl, h2, _⟩ := h; exact Nat.le_of_eq (kb_len17 (csP_16 h2)).symm) rfl rfl (Nat.le_of_ble_eq_true rfl) dc_L_law_464 hf (fun r w hp => ?_)
    obtain ⟨rfl, w1, f2, rfl, hC2, hv0⟩ := hp
    refine kw_cv (ws' := kl_w kL wR w1 o f2) (kb_putE h13 (kb_len17 h16) (kb_len17 (csP_16 hC2))) rfl rfl ?_
    refine kw_istore X dc_L_law_467 (by decide) ?_
    refine kw_aload_n X dc_L_law_469 rfl rfl ?_
    refine kw_aload_n X dc_L_law_470 rfl rfl ?_
    refine kw_iload X dc_L_law_471 rfl ?_
    refine kw_iconst (v := (nI 1)) X dc_L_law_473 (by decide) ?_
    refine kw_iadd (v := nI (3 * k + 1)) X dc_L_law_474 (nI_add _ _) ?_
    refine kl_sld (v := nI 1) X hX hbl hbA (vp_in_nI (by omega) (by omega)) (by rw [nI_clamp (by omega)]; exact hj1) dc_L_law_475 ?_
    refine kw_callVI X kEw hE 0 hr0 rfl (ct_RtakenT rd n lo hi bg cs T t S wR hP 1 (by decide)) (cw_V 1 X wd_752 wd_753 wd_754 wd_8 wd_755 rfl rfl (by decide +kernel) ⟨Nat.le_of_ble_eq_true rfl, Nat.le_of_ble_eq_true rfl⟩) (List.range' 0 13) (kb_get0 h13) (by decide) (fun _ _ h => Nat.le_of_eq (rfP_13 h.2).symm) rfl rfl (Nat.le_of_ble_eq_true rfl) dc_L_law_476 hf (fun r w hp => ?_)
    obtain ⟨rfl, hP1⟩ := hp
    refine kw_cv (ws' := kl_w kL w w1 o f2) (kb_put0 h13 (rfP_13 hP1)) rfl rfl ?_
    refine kw_istore X dc_L_law_479 (by decide) ?_
    refine kw_aload_n X dc_L_law_481 rfl rfl ?_
    obtain ⟨fr1, hr1⟩ := rfP_0 hP1
    have h131 := rfP_13 hP1
    refine kw_callVI X kEw hE 0 hr1 rfl (ct_Zthrown rd _ _ _ _ _ _ _ _ _ hP1) (cw_V 0 X wd_661 wd_662 wd_663 wd_8 wd_664 rfl rfl (by decide +kernel) ⟨Nat.le_of_ble_eq_true rfl, Nat.le_of_ble_eq_true rfl⟩) (List.range' 0 13) (kb_get0 h131) (by decide) (fun _ _ h => Nat.le_of_eq (rfP_13 h.2).symm) rfl rfl (Nat.le_of_ble_eq_true rfl) dc_L_law_482 hf (fun r w hp => ?_)
    obtain ⟨rfl, hP2⟩ := hp
    refine kw_cv (ws' := kl_w kL w w1 o f2) (kb_put0 h131 (rfP_13 hP2)) rfl rfl ?_
    refine kw_iload X dc_L_law_485 rfl ?_
    refine kw_icmp_eq (tgt := 492) X dc_L_law_487 (by decide) (fun _ => ?_) (fun hne => absurd rfl hne)
    refine kw_iload X dc_L_law_492 rfl ?_
    refine kw_if_ne (tgt := 509) X dc_L_law_494 (by decide) (fun h9 => absurd rfl h9) (fun _ => ?_)
    refine kw_aload_n X dc_L_law_497 rfl rfl ?_
    refine kw_iconst (v := (nI 0)) X dc_L_law_498 (by decide) ?_
    refine kw_lald (v := (nI (if 1 = 0 then (gm_run lo hi n cs).2.2.1 else (gm_run lo hi n cs).2.2.2)).toInt64) X 29 3 (kb_at29 (rfP_13 hP2) (csP_16 hC2)) rfl (kq_in (k := 0) (by decide) (by decide)) (by rw [kq_cl (k := 0) (by decide)]; exact hv0) dc_L_law_499 ?_
    refine kw_iload X dc_L_law_500 rfl ?_
    refine kw_i2l (v := (nI (if 1 = 0 then (gm_run lo hi n cs).2.2.1 else (gm_run lo hi n cs).2.2.2)).toInt64) X dc_L_law_502 rfl ?_
    refine kw_lcmp (v := 0) X dc_L_law_503 (lg_cmp_0 _) ?_
    refine kw_if_eq (tgt := 509) X dc_L_law_504 (by decide) (fun _ => ?_) (fun h9 => absurd rfl h9)
    refine kw_goto (tgt := 895) X dc_L_law_509 (by decide) ?_
    refine kw_kill 5 ?_
    refine kw_kill 6 ?_
    exact K _ _ _ _ _ _ _ _ _ _ _ hP2 hC2
  obtain ⟨fr0, hr0⟩ := rfP_0 hP
  have h13 := rfP_13 hP
  have h16 := csP_16 hC
  refine kw_aload_n X dc_L_law_456 rfl rfl ?_
  refine kw_aload_n X dc_L_law_457 rfl rfl ?_
  refine kw_iload X dc_L_law_458 rfl ?_
  refine kw_iconst (v := (nI 1)) X dc_L_law_460 (by decide) ?_
  refine kw_iadd (v := nI (3 * k + 1)) X dc_L_law_461 (nI_add _ _) ?_
  refine kl_sld (v := xs (3 * k + 1)) X hX hbl hbA (vp_in_nI (by omega) (by omega)) (by rw [nI_clamp (by omega)]) dc_L_law_462 ?_
  refine kw_aload_n X dc_L_law_463 rfl rfl ?_
  refine kx_callSW X hEx hN (ct_LtakenF hl0 ad n lo hi bg cs T wC hC o f _ hj0 hj1) (cw_SW 3 X wd_506 wd_507 wd_0 wd_508 rfl rfl (by decide +kernel) ⟨Nat.le_of_ble_eq_true rfl, Nat.le_of_ble_eq_true rfl⟩) (List.range' 13 17) (kb_getE h13 (kb_len17 h16)) (by decide) (fun _ _ h => by obtain ⟨_, w1, rfl, h2⟩ := h; exact Nat.le_of_eq (kb_len17 (csP_16 h2)).symm) rfl rfl (Nat.le_of_ble_eq_true rfl) dc_L_law_464 hf (fun r w hp => ?_)
  obtain ⟨rfl, w1, rfl, hC2⟩ := hp
  refine kw_cv (ws' := kl_w kL wR w1 o f) (kb_putE h13 (kb_len17 h16) (kb_len17 (csP_16 hC2))) rfl rfl ?_
  refine kw_istore X dc_L_law_467 (by decide) ?_
  refine kw_aload_n X dc_L_law_469 rfl rfl ?_
  refine kw_aload_n X dc_L_law_470 rfl rfl ?_
  refine kw_iload X dc_L_law_471 rfl ?_
  refine kw_iconst (v := (nI 1)) X dc_L_law_473 (by decide) ?_
  refine kw_iadd (v := nI (3 * k + 1)) X dc_L_law_474 (nI_add _ _) ?_
  refine kl_sld (v := xs (3 * k + 1)) X hX hbl hbA (vp_in_nI (by omega) (by omega)) (by rw [nI_clamp (by omega)]) dc_L_law_475 ?_
  refine kw_callVI X kEw hE 0 hr0 rfl (ct_RtakenF rd n lo hi bg cs T t S wR hP _ hj0 hj1) (cw_V 1 X wd_752 wd_753 wd_754 wd_8 wd_755 rfl rfl (by decide +kernel) ⟨Nat.le_of_ble_eq_true rfl, Nat.le_of_ble_eq_true rfl⟩) (List.range' 0 13) (kb_get0 h13) (by decide) (fun _ _ h => Nat.le_of_eq (rfP_13 h).symm) rfl rfl (Nat.le_of_ble_eq_true rfl) dc_L_law_476 hf (fun r w hp => ?_)
  have hP1 := hp
  refine kw_cv (ws' := kl_w kL w w1 o f) (kb_put0 h13 (rfP_13 hP1)) rfl rfl ?_
  refine kw_istore X dc_L_law_479 (by decide) ?_
  refine kw_aload_n X dc_L_law_481 rfl rfl ?_
  obtain ⟨fr1, hr1⟩ := rfP_0 hP1
  have h131 := rfP_13 hP1
  refine kw_callVI X kEw hE 0 hr1 rfl (ct_Zthrown rd _ _ _ _ _ _ _ _ _ hP1) (cw_V 0 X wd_661 wd_662 wd_663 wd_8 wd_664 rfl rfl (by decide +kernel) ⟨Nat.le_of_ble_eq_true rfl, Nat.le_of_ble_eq_true rfl⟩) (List.range' 0 13) (kb_get0 h131) (by decide) (fun _ _ h => Nat.le_of_eq (rfP_13 h.2).symm) rfl rfl (Nat.le_of_ble_eq_true rfl) dc_L_law_482 hf (fun r w hp => ?_)
  obtain ⟨rfl, hP2⟩ := hp
  refine kw_cv (ws' := kl_w kL w w1 o f) (kb_put0 h131 (rfP_13 hP2)) rfl rfl ?_
  refine kw_iload X dc_L_law_485 rfl ?_
  refine kw_icmp_eq (tgt := 492) X dc_L_law_487 (by decide) (fun _ => ?_) (fun hne => absurd rfl hne)
  refine kw_iload X dc_L_law_492 rfl ?_
  refine kw_if_ne (tgt := 509) X dc_L_law_494 (by decide) (fun _ => ?_) (fun h9 => absurd h9 (by decide))
  refine kw_goto (tgt := 895) X dc_L_law_509 (by decide) ?_
  refine kw_kill 5 ?_
  refine kw_kill 6 ?_
  exact K _ _ _ _ _ _ _ _ _ _ _ hP2 hC2
set_option maxRecDepth 100000 in
set_option maxHeartbeats 1000000 in
theorem kl_strings {p : Program} {l : Launch} {e : Env} {s : State} {m : MethodId} {args : Array Value} {below : List Frame} {meth : Method} {c : Code} {Q : State → Prop} {D : va_G} {kI kB kC kL : ClassId} {A : Nat → Prop} {c0 : Cond} (X : kw_X p s m args c cd_L_law 7 "CoinStringsLaw" (c0 :: gw_tbl) D cl_v (kt kI kB kC kL) A) (hl0 : l.stackTraces = false) (hEx : kEx s) (hN : kx_NA A s) {b L : Nat} {xs : Nat → Int32} (hX : va_X b L xs s s.heap) (hbl : b < s.heap.size) (hbA : ¬ A b) (hL : L ≤ 1536) {ad rd : Nat → Nat} {o k : Nat} (hk : 3 * k + 3 ≤ L) {cells slots : Nat} (hf : cells + 1 ≤ room_1.cells ∧ slots + 6 ≤ room_1.slots) {n : Nat} {lo hi : Nat → Nat} {bg : Bool} {cs T : List Nat} {t : Nat} {S : Bool} {wR wC : va_W} {f : Nat → Int64} (hP : rfP kI rd n lo hi bg cs T t S wR) (hC : csP kI kB kC ad n lo hi bg cs T wC) (K : kl_K p l e s m args below meth c D A Q kI kB kC kL b ad rd o k cells slots) : kw_W p l e room_1 s m args below meth c 7 D cl_v A cells slots Q (kl_w kL wR wC o f) 525 (kl_lv b ad rd o k) [] := by
  have hE := hEx.1
  by_cases ha : 0 ≤ xs (3 * k + 1) ∧ xs (3 * k + 1) ≤ nI 7
  · obtain ⟨c1, hc1, e1⟩ := i32_nat ha.1 ha.2 (by decide)
    obtain ⟨fr0, hr0⟩ := rfP_0 hP
    have h13 := rfP_13 hP
    have h16 := csP_16 hC
    refine kw_aload_n X dc_L_law_525 rfl rfl ?_
    refine kw_aload_n X dc_L_law_526 rfl rfl ?_
    refine kw_iload X dc_L_law_527 rfl ?_
    refine kw_iconst (v := (nI 1)) X dc_L_law_529 (by decide) ?_
    refine kw_iadd (v := nI (3 * k + 1)) X dc_L_law_530 (nI_add _ _) ?_
    refine kl_sld (v := nI c1) X hX hbl hbA (vp_in_nI (by omega) (by omega)) (by rw [nI_clamp (by omega)]; exact e1) dc_L_law_531 ?_
    refine kw_aload_n X dc_L_law_532 rfl rfl ?_
    refine kx_callSW X hEx hN (ct_LstringsT ad n lo hi bg cs T wC hC o f c1 (by omega)) (cw_SW 3 X wd_513 wd_514 wd_0 wd_515 rfl rfl (by decide +kernel) ⟨Nat.le_of_ble_eq_true rfl, Nat.le_of_ble_eq_true rfl⟩) (List.range' 13 17) (kb_getE h13 (kb_len17 h16)) (by decide) (fun _ _ h => by obtain ⟨_, w1, f2, rfl, h2, _⟩ := h; exact Nat.le_of_eq (kb_len17 (csP_16 h2)).symm) rfl rfl (Nat.le_of_ble_eq_true rfl) dc_L_law_533 hf (fun r w hp => ?_)
    obtain ⟨rfl, w1, f2, rfl, hC2, hv0⟩ := hp
    refine kw_cv (ws' := kl_w kL wR w1 o f2) (kb_putE h13 (kb_len17 h16) (kb_len17 (csP_16 hC2))) rfl rfl ?_
    refine kw_istore X dc_L_law_536 (by decide) ?_
    refine kw_aload_n X dc_L_law_538 rfl rfl ?_
    refine kw_aload_n X dc_L_law_539 rfl rfl ?_
    refine kw_iload X dc_L_law_540 rfl ?_
    refine kw_iconst (v := (nI 1)) X dc_L_law_542 (by decide) ?_
    refine kw_iadd (v := nI (3 * k + 1)) X dc_L_law_543 (nI_add _ _) ?_
    refine kl_sld (v := nI c1) X hX hbl hbA (vp_in_nI (by omega) (by omega)) (by rw [nI_clamp (by omega)]; exact e1) dc_L_law_544 ?_
    refine kw_callVI X kEw hE 0 hr0 rfl (ct_RstringsT rd n lo hi bg cs T t S wR hP c1 (by omega)) (cw_V 1 X wd_760 wd_761 wd_762 wd_8 wd_763 rfl rfl (by decide +kernel) ⟨Nat.le_of_ble_eq_true rfl, Nat.le_of_ble_eq_true rfl⟩) (List.range' 0 13) (kb_get0 h13) (by decide) (fun _ _ h => Nat.le_of_eq (rfP_13 h.2).symm) rfl rfl (Nat.le_of_ble_eq_true rfl) dc_L_law_545 hf (fun r w hp => ?_)
    obtain ⟨rfl, hP1⟩ := hp
    refine kw_cv (ws' := kl_w kL w w1 o f2) (kb_put0 h13 (rfP_13 hP1)) rfl rfl ?_
    refine kw_istore X dc_L_law_548 (by decide) ?_
    refine kw_aload_n X dc_L_law_550 rfl rfl ?_
    obtain ⟨fr1, hr1⟩ := rfP_0 hP1
    have h131 := rfP_13 hP1
    refine kw_callVI X kEw hE 0 hr1 rfl (ct_Zthrown rd _ _ _ _ _ _ _ _ _ hP1) (cw_V 0 X wd_661 wd_662 wd_663 wd_8 wd_664 rfl rfl (by decide +kernel) ⟨Nat.le_of_ble_eq_true rfl, Nat.le_of_ble_eq_true rfl⟩) (List.range' 0 13) (kb_get0 h131) (by decide) (fun _ _ h => Nat.le_of_eq (rfP_13 h.2).symm) rfl rfl (Nat.le_of_ble_eq_true rfl) dc_L_law_551 hf (fun r w hp => ?_)
    obtain ⟨rfl, hP2⟩ := hp
    refine kw_cv (ws' := kl_w kL w w1 o f2) (kb_put0 h131 (rfP_13 hP2)) rfl rfl ?_
    refine kw_iload X dc_L_law_554 rfl ?_
    refine kw_icmp_eq (tgt := 561) X dc_L_law_556 (by decide) (fun _ => ?_) (fun hne => absurd rfl hne)
    refine kw_iload X dc_L_law_561 rfl ?_
    refine kw_if_ne (tgt := 578) X dc_L_law_563 (by decide) (fun h9 => absurd rfl h9) (fun _ => ?_)
    refine kw_aload_n X dc_L_law_566 rfl rfl ?_
    refine kw_iconst (v := (nI 0)) X dc_L_law_567 (by decide) ?_
    refine kw_lald (v := (nI (gm_pc ((gm_run lo hi n cs).1 &&& gm_mk lo hi n c1))).toInt64) X 29 3 (kb_at29 (rfP_13 hP2) (csP_16 hC2)) rfl (kq_in (k := 0) (by decide) (by decide)) (by rw [kq_cl (k := 0) (by decide)]; exact hv0) dc_L_law_568 ?_
    refine kw_iload X dc_L_law_569 rfl ?_
    refine kw_i2l (v := (nI (gm_pc ((gm_run lo hi n cs).1 &&& gm_mk lo hi n c1))).toInt64) X dc_L_law_571 rfl ?_
    refine kw_lcmp (v := 0) X dc_L_law_572 (lg_cmp_0 _) ?_
    refine kw_if_eq (tgt := 578) X dc_L_law_573 (by decide) (fun _ => ?_) (fun h9 => absurd rfl h9)
    refine kw_goto (tgt := 895) X dc_L_law_578 (by decide) ?_
    refine kw_kill 5 ?_
    refine kw_kill 6 ?_
    exact K _ _ _ _ _ _ _ _ _ _ _ hP2 hC2
  · obtain ⟨fr0, hr0⟩ := rfP_0 hP
    have h13 := rfP_13 hP
    have h16 := csP_16 hC
    refine kw_aload_n X dc_L_law_525 rfl rfl ?_
    refine kw_aload_n X dc_L_law_526 rfl rfl ?_
    refine kw_iload X dc_L_law_527 rfl ?_
    refine kw_iconst (v := (nI 1)) X dc_L_law_529 (by decide) ?_
    refine kw_iadd (v := nI (3 * k + 1)) X dc_L_law_530 (nI_add _ _) ?_
    refine kl_sld (v := xs (3 * k + 1)) X hX hbl hbA (vp_in_nI (by omega) (by omega)) (by rw [nI_clamp (by omega)]) dc_L_law_531 ?_
    refine kw_aload_n X dc_L_law_532 rfl rfl ?_
    refine kx_callSW X hEx hN (ct_LstringsF hl0 ad n lo hi bg cs T wC hC o f _ ha) (cw_SW 3 X wd_513 wd_514 wd_0 wd_515 rfl rfl (by decide +kernel) ⟨Nat.le_of_ble_eq_true rfl, Nat.le_of_ble_eq_true rfl⟩) (List.range' 13 17) (kb_getE h13 (kb_len17 h16)) (by decide) (fun _ _ h => by obtain ⟨_, w1, rfl, h2⟩ := h; exact Nat.le_of_eq (kb_len17 (csP_16 h2)).symm) rfl rfl (Nat.le_of_ble_eq_true rfl) dc_L_law_533 hf (fun r w hp => ?_)
    obtain ⟨rfl, w1, rfl, hC2⟩ := hp
    refine kw_cv (ws' := kl_w kL wR w1 o f) (kb_putE h13 (kb_len17 h16) (kb_len17 (csP_16 hC2))) rfl rfl ?_
    refine kw_istore X dc_L_law_536 (by decide) ?_
    refine kw_aload_n X dc_L_law_538 rfl rfl ?_
    refine kw_aload_n X dc_L_law_539 rfl rfl ?_
    refine kw_iload X dc_L_law_540 rfl ?_
    refine kw_iconst (v := (nI 1)) X dc_L_law_542 (by decide) ?_
    refine kw_iadd (v := nI (3 * k + 1)) X dc_L_law_543 (nI_add _ _) ?_
    refine kl_sld (v := xs (3 * k + 1)) X hX hbl hbA (vp_in_nI (by omega) (by omega)) (by rw [nI_clamp (by omega)]) dc_L_law_544 ?_
    refine kw_callVI X kEw hE 0 hr0 rfl (ct_RstringsF rd n lo hi bg cs T t S wR hP _ ha) (cw_V 1 X wd_760 wd_761 wd_762 wd_8 wd_763 rfl rfl (by decide +kernel) ⟨Nat.le_of_ble_eq_true rfl, Nat.le_of_ble_eq_true rfl⟩) (List.range' 0 13) (kb_get0 h13) (by decide) (fun _ _ h => Nat.le_of_eq (rfP_13 h).symm) rfl rfl (Nat.le_of_ble_eq_true rfl) dc_L_law_545 hf (fun r w hp => ?_)
    have hP1 := hp
    refine kw_cv (ws' := kl_w kL w w1 o f) (kb_put0 h13 (rfP_13 hP1)) rfl rfl ?_
    refine kw_istore X dc_L_law_548 (by decide) ?_
    refine kw_aload_n X dc_L_law_550 rfl rfl ?_
    obtain ⟨fr1, hr1⟩ := rfP_0 hP1
    have h131 := rfP_13 hP1
    refine kw_callVI X kEw hE 0 hr1 rfl (ct_Zthrown rd _ _ _ _ _ _ _ _ _ hP1) (cw_V 0 X wd_661 wd_662 wd_663 wd_8 wd_664 rfl rfl (by decide +kernel) ⟨Nat.le_of_ble_eq_true rfl, Nat.le_of_ble_eq_true rfl⟩) (List.range' 0 13) (kb_get0 h131) (by decide) (fun _ _ h => Nat.le_of_eq (rfP_13 h.2).symm) rfl rfl (Nat.le_of_ble_eq_true rfl) dc_L_law_551 hf (fun r w hp => ?_)
    obtain ⟨rfl, hP2⟩ := hp
    refine kw_cv (ws' := kl_w kL w w1 o f) (kb_put0 h131 (rfP_13 hP2)) rfl rfl ?_
    refine kw_iload X dc_L_law_554 rfl ?_
    refine kw_icmp_eq (tgt := 561) X dc_L_law_556 (by decide) (fun _ => ?_) (fun hne => absurd rfl hne)
    refine kw_iload X dc_L_law_561 rfl ?_
    refine kw_if_ne (tgt := 578) X dc_L_law_563 (by decide) (fun _ => ?_) (fun h9 => absurd h9 (by decide))
    refine kw_goto (tgt := 895) X dc_L_law_578 (by decide) ?_
    refine kw_kill 5 ?_
    refine kw_kill 6 ?_
    exact K _ _ _ _ _ _ _ _ _ _ _ hP2 hC2
set_option maxRecDepth 100000 in
set_option maxHeartbeats 1000000 in
theorem kl_group {p : Program} {l : Launch} {e : Env} {s : State} {m : MethodId} {args : Array Value} {below : List Frame} {meth : Method} {c : Code} {Q : State → Prop} {D : va_G} {kI kB kC kL : ClassId} {A : Nat → Prop} {c0 : Cond} (X : kw_X p s m args c cd_L_law 7 "CoinStringsLaw" (c0 :: gw_tbl) D cl_v (kt kI kB kC kL) A) (hl0 : l.stackTraces = false) (hEx : kEx s) (hN : kx_NA A s) {b L : Nat} {xs : Nat → Int32} (hX : va_X b L xs s s.heap) (hbl : b < s.heap.size) (hbA : ¬ A b) (hL : L ≤ 1536) {ad rd : Nat → Nat} {o k : Nat} (hk : 3 * k + 3 ≤ L) {cells slots : Nat} (hf : cells + 1 ≤ room_1.cells ∧ slots + 6 ≤ room_1.slots) {n : Nat} {lo hi : Nat → Nat} {bg : Bool} {cs T : List Nat} {t : Nat} {S : Bool} {wR wC : va_W} {f : Nat → Int64} (hP : rfP kI rd n lo hi bg cs T t S wR) (hC : csP kI kB kC ad n lo hi bg cs T wC) (K : kl_K p l e s m args below meth c D A Q kI kB kC kL b ad rd o k cells slots) : kw_W p l e room_1 s m args below meth c 7 D cl_v A cells slots Q (kl_w kL wR wC o f) 770 (kl_lv b ad rd o k) [] := by
  have hE := hEx.1
  by_cases ha : 0 ≤ xs (3 * k + 1) ∧ xs (3 * k + 1) < nI (gm_rk (gm_L lo hi n (gm_run lo hi n cs).1 n) 8)
  · have hr8 := gm_rk_8 (gm_L lo hi n (gm_run lo hi n cs).1 n) 8
    obtain ⟨g, hg1, e1⟩ := i32_ltN ha.1 ha.2 (by omega)
    obtain ⟨fr0, hr0⟩ := rfP_0 hP
    have h13 := rfP_13 hP
    have h16 := csP_16 hC
    refine kw_aload_n X dc_L_law_770 rfl rfl ?_
    refine kw_aload_n X dc_L_law_771 rfl rfl ?_
    refine kw_iload X dc_L_law_772 rfl ?_
    refine kw_iconst (v := (nI 1)) X dc_L_law_774 (by decide) ?_
    refine kw_iadd (v := nI (3 * k + 1)) X dc_L_law_775 (nI_add _ _) ?_
    refine kl_sld (v := nI g) X hX hbl hbA (vp_in_nI (by omega) (by omega)) (by rw [nI_clamp (by omega)]; exact e1) dc_L_law_776 ?_
    refine kw_aload_n X dc_L_law_777 rfl rfl ?_
    refine kx_callSW X hEx hN (ct_LgroupT ad n lo hi bg cs T wC hC o f g hg1) (cw_SW 3 X wd_561 wd_562 wd_0 wd_563 rfl rfl (by decide +kernel) ⟨Nat.le_of_ble_eq_true rfl, Nat.le_of_ble_eq_true rfl⟩) (List.range' 13 17) (kb_getE h13 (kb_len17 h16)) (by decide) (fun _ _ h => by obtain ⟨v, _, _, _, _, w1, f2, rfl, h2, _⟩ := h; exact Nat.le_of_eq (kb_len17 (csP_16 h2)).symm) rfl rfl (Nat.le_of_ble_eq_true rfl) dc_L_law_778 hf (fun r w hp => ?_)
    obtain ⟨v, hv, hvv, hvg, hp⟩ := hp
    obtain ⟨rfl, w1, f2, rfl, hC2, hv0⟩ := hp
    refine kw_cv (ws' := kl_w kL wR w1 o f2) (kb_putE h13 (kb_len17 h16) (kb_len17 (csP_16 hC2))) rfl rfl ?_
    refine kw_istore X dc_L_law_781 (by decide) ?_
    refine kw_aload_n X dc_L_law_783 rfl rfl ?_
    refine kw_aload_n X dc_L_law_784 rfl rfl ?_
    refine kw_iload X dc_L_law_785 rfl ?_
    refine kw_iconst (v := (nI 1)) X dc_L_law_787 (by decide) ?_
    refine kw_iadd (v := nI (3 * k + 1)) X dc_L_law_788 (nI_add _ _) ?_
    refine kl_sld (v := nI g) X hX hbl hbA (vp_in_nI (by omega) (by omega)) (by rw [nI_clamp (by omega)]; exact e1) dc_L_law_789 ?_
    refine kw_callVI X kEw hE 0 hr0 rfl (ct_ZgroupT rd n lo hi bg cs T t S wR hP g v hv hvv hvg) (cw_V 1 X wd_784 wd_785 wd_786 wd_8 wd_787 rfl rfl (by decide +kernel) ⟨Nat.le_of_ble_eq_true rfl, Nat.le_of_ble_eq_true rfl⟩) (List.range' 0 13) (kb_get0 h13) (by decide) (fun _ _ h => Nat.le_of_eq (rfP_13 h.2).symm) rfl rfl (Nat.le_of_ble_eq_true rfl) dc_L_law_790 hf (fun r w hp => ?_)
    obtain ⟨rfl, hP1⟩ := hp
    refine kw_cv (ws' := kl_w kL w w1 o f2) (kb_put0 h13 (rfP_13 hP1)) rfl rfl ?_
    refine kw_istore X dc_L_law_793 (by decide) ?_
    refine kw_aload_n X dc_L_law_795 rfl rfl ?_
    obtain ⟨fr1, hr1⟩ := rfP_0 hP1
    have h131 := rfP_13 hP1
    refine kw_callVI X kEw hE 0 hr1 rfl (ct_Zthrown rd _ _ _ _ _ _ _ _ _ hP1) (cw_V 0 X wd_661 wd_662 wd_663 wd_8 wd_664 rfl rfl (by decide +kernel) ⟨Nat.le_of_ble_eq_true rfl, Nat.le_of_ble_eq_true rfl⟩) (List.range' 0 13) (kb_get0 h131) (by decide) (fun _ _ h => Nat.le_of_eq (rfP_13 h.2).symm) rfl rfl (Nat.le_of_ble_eq_true rfl) dc_L_law_796 hf (fun r w hp => ?_)
    obtain ⟨rfl, hP2⟩ := hp
    refine kw_cv (ws' := kl_w kL w w1 o f2) (kb_put0 h131 (rfP_13 hP2)) rfl rfl ?_
    refine kw_iload X dc_L_law_799 rfl ?_
    refine kw_icmp_eq (tgt := 806) X dc_L_law_801 (by decide) (fun _ => ?_) (fun hne => absurd rfl hne)
    refine kw_iload X dc_L_law_806 rfl ?_
    refine kw_if_ne (tgt := 823) X dc_L_law_808 (by decide) (fun h9 => absurd rfl h9) (fun _ => ?_)
    refine kw_aload_n X dc_L_law_811 rfl rfl ?_
    refine kw_iconst (v := (nI 0)) X dc_L_law_812 (by decide) ?_
    refine kw_lald (v := (nI (gm_cnt (gm_L lo hi n (gm_run lo hi n cs).1 n) v 8 + (if gm_lp lo hi (gm_run lo hi n cs).1 (gm_L lo hi n (gm_run lo hi n cs).1 n) v n = true then 100 else 0))).toInt64) X 29 3 (kb_at29 (rfP_13 hP2) (csP_16 hC2)) rfl (kq_in (k := 0) (by decide) (by decide)) (by rw [kq_cl (k := 0) (by decide)]; exact hv0) dc_L_law_813 ?_
    refine kw_iload X dc_L_law_814 rfl ?_
    refine kw_i2l (v := (nI (gm_cnt (gm_L lo hi n (gm_run lo hi n cs).1 n) v 8 + (if gm_lp lo hi (gm_run lo hi n cs).1 (gm_L lo hi n (gm_run lo hi n cs).1 n) v n = true then 100 else 0))).toInt64) X dc_L_law_816 rfl ?_
    refine kw_lcmp (v := 0) X dc_L_law_817 (lg_cmp_0 _) ?_
    refine kw_if_eq (tgt := 823) X dc_L_law_818 (by decide) (fun _ => ?_) (fun h9 => absurd rfl h9)
    refine kw_goto (tgt := 895) X dc_L_law_823 (by decide) ?_
    refine kw_kill 5 ?_
    refine kw_kill 6 ?_
    exact K _ _ _ _ _ _ _ _ _ _ _ hP2 hC2
  · obtain ⟨fr0, hr0⟩ := rfP_0 hP
    have h13 := rfP_13 hP
    have h16 := csP_16 hC
    refine kw_aload_n X dc_L_law_770 rfl rfl ?_
    refine kw_aload_n X dc_L_law_771 rfl rfl ?_
    refine kw_iload X dc_L_law_772 rfl ?_
    refine kw_iconst (v := (nI 1)) X dc_L_law_774 (by decide) ?_
    refine kw_iadd (v := nI (3 * k + 1)) X dc_L_law_775 (nI_add _ _) ?_
    refine kl_sld (v := xs (3 * k + 1)) X hX hbl hbA (vp_in_nI (by omega) (by omega)) (by rw [nI_clamp (by omega)]) dc_L_law_776 ?_
    refine kw_aload_n X dc_L_law_777 rfl rfl ?_
    refine kx_callSW X hEx hN (ct_LgroupF hl0 ad n lo hi bg cs T wC hC o f _ ha) (cw_SW 3 X wd_561 wd_562 wd_0 wd_563 rfl rfl (by decide +kernel) ⟨Nat.le_of_ble_eq_true rfl, Nat.le_of_ble_eq_true rfl⟩) (List.range' 13 17) (kb_getE h13 (kb_len17 h16)) (by decide) (fun _ _ h => by obtain ⟨_, w1, rfl, h2⟩ := h; exact Nat.le_of_eq (kb_len17 (csP_16 h2)).symm) rfl rfl (Nat.le_of_ble_eq_true rfl) dc_L_law_778 hf (fun r w hp => ?_)
    obtain ⟨rfl, w1, rfl, hC2⟩ := hp
    refine kw_cv (ws' := kl_w kL wR w1 o f) (kb_putE h13 (kb_len17 h16) (kb_len17 (csP_16 hC2))) rfl rfl ?_
    refine kw_istore X dc_L_law_781 (by decide) ?_
    refine kw_aload_n X dc_L_law_783 rfl rfl ?_
    refine kw_aload_n X dc_L_law_784 rfl rfl ?_
    refine kw_iload X dc_L_law_785 rfl ?_
    refine kw_iconst (v := (nI 1)) X dc_L_law_787 (by decide) ?_
    refine kw_iadd (v := nI (3 * k + 1)) X dc_L_law_788 (nI_add _ _) ?_
    refine kl_sld (v := xs (3 * k + 1)) X hX hbl hbA (vp_in_nI (by omega) (by omega)) (by rw [nI_clamp (by omega)]) dc_L_law_789 ?_
    refine kw_callVI X kEw hE 0 hr0 rfl (ct_ZgroupF rd n lo hi bg cs T t S wR hP _ ha) (cw_V 1 X wd_784 wd_785 wd_786 wd_8 wd_787 rfl rfl (by decide +kernel) ⟨Nat.le_of_ble_eq_true rfl, Nat.le_of_ble_eq_true rfl⟩) (List.range' 0 13) (kb_get0 h13) (by decide) (fun _ _ h => Nat.le_of_eq (rfP_13 h).symm) rfl rfl (Nat.le_of_ble_eq_true rfl) dc_L_law_790 hf (fun r w hp => ?_)
    have hP1 := hp
    refine kw_cv (ws' := kl_w kL w w1 o f) (kb_put0 h13 (rfP_13 hP1)) rfl rfl ?_
    refine kw_istore X dc_L_law_793 (by decide) ?_
    refine kw_aload_n X dc_L_law_795 rfl rfl ?_
    obtain ⟨fr1, hr1⟩ := rfP_0 hP1
    have h131 := rfP_13 hP1
    refine kw_callVI X kEw hE 0 hr1 rfl (ct_Zthrown rd _ _ _ _ _ _ _ _ _ hP1) (cw_V 0 X wd_661 wd_662 wd_663 wd_8 wd_664 rfl rfl (by decide +kernel) ⟨Nat.le_of_ble_eq_true rfl, Nat.le_of_ble_eq_true rfl⟩) (List.range' 0 13) (kb_get0 h131) (by decide) (fun _ _ h => Nat.le_of_eq (rfP_13 h.2).symm) rfl rfl (Nat.le_of_ble_eq_true rfl) dc_L_law_796 hf (fun r w hp => ?_)
    obtain ⟨rfl, hP2⟩ := hp
    refine kw_cv (ws' := kl_w kL w w1 o f) (kb_put0 h131 (rfP_13 hP2)) rfl rfl ?_
    refine kw_iload X dc_L_law_799 rfl ?_
    refine kw_icmp_eq (tgt := 806) X dc_L_law_801 (by decide) (fun _ => ?_) (fun hne => absurd rfl hne)
    refine kw_iload X dc_L_law_806 rfl ?_
    refine kw_if_ne (tgt := 823) X dc_L_law_808 (by decide) (fun _ => ?_) (fun h9 => absurd h9 (by decide))
    refine kw_goto (tgt := 895) X dc_L_law_823 (by decide) ?_
    refine kw_kill 5 ?_
    refine kw_kill 6 ?_
    exact K _ _ _ _ _ _ _ _ _ _ _ hP2 hC2
set_option maxRecDepth 100000 in
set_option maxHeartbeats 1000000 in
theorem kl_at {p : Program} {l : Launch} {e : Env} {s : State} {m : MethodId} {args : Array Value} {below : List Frame} {meth : Method} {c : Code} {Q : State → Prop} {D : va_G} {kI kB kC kL : ClassId} {A : Nat → Prop} {c0 : Cond} (X : kw_X p s m args c cd_L_law 7 "CoinStringsLaw" (c0 :: gw_tbl) D cl_v (kt kI kB kC kL) A) (hl0 : l.stackTraces = false) (hEx : kEx s) (hN : kx_NA A s) {b L : Nat} {xs : Nat → Int32} (hX : va_X b L xs s s.heap) (hbl : b < s.heap.size) (hbA : ¬ A b) (hL : L ≤ 1536) {ad rd : Nat → Nat} {o k : Nat} (hk : 3 * k + 3 ≤ L) {cells slots : Nat} (hf : cells + 1 ≤ room_1.cells ∧ slots + 6 ≤ room_1.slots) {n : Nat} {lo hi : Nat → Nat} {bg : Bool} {cs T : List Nat} {t : Nat} {S : Bool} {wR wC : va_W} {f : Nat → Int64} (hP : rfP kI rd n lo hi bg cs T t S wR) (hC : csP kI kB kC ad n lo hi bg cs T wC) (K : kl_K p l e s m args below meth c D A Q kI kB kC kL b ad rd o k cells slots) : kw_W p l e room_1 s m args below meth c 7 D cl_v A cells slots Q (kl_w kL wR wC o f) 839 (kl_lv b ad rd o k) [] := by
  have hE := hEx.1
  by_cases ha : 0 ≤ xs (3 * k + 1) ∧ xs (3 * k + 1) < nI T.length
  · have hT84 := csP_T hC
    obtain ⟨i, hi1, e1⟩ := i32_ltN ha.1 ha.2 (by omega)
    have hy : T[i]? = some T[i] := List.getElem?_eq_getElem hi1
    obtain ⟨fr0, hr0⟩ := rfP_0 hP
    have h13 := rfP_13 hP
    have h16 := csP_16 hC
    refine kw_aload_n X dc_L_law_839 rfl rfl ?_
    refine kw_aload_n X dc_L_law_840 rfl rfl ?_
    refine kw_iload X dc_L_law_841 rfl ?_
    refine kw_iconst (v := (nI 1)) X dc_L_law_843 (by decide) ?_
    refine kw_iadd (v := nI (3 * k + 1)) X dc_L_law_844 (nI_add _ _) ?_
    refine kl_sld (v := nI i) X hX hbl hbA (vp_in_nI (by omega) (by omega)) (by rw [nI_clamp (by omega)]; exact e1) dc_L_law_845 ?_
    refine kw_aload_n X dc_L_law_846 rfl rfl ?_
    refine kx_callSW X hEx hN (ct_LatT ad n lo hi bg cs T wC hC o f i _ hy) (cw_SW 3 X wd_580 wd_581 wd_0 wd_582 rfl rfl (by decide +kernel) ⟨Nat.le_of_ble_eq_true rfl, Nat.le_of_ble_eq_true rfl⟩) (List.range' 13 17) (kb_getE h13 (kb_len17 h16)) (by decide) (fun _ _ h => by obtain ⟨_, w1, f2, rfl, h2, _⟩ := h; exact Nat.le_of_eq (kb_len17 (csP_16 h2)).symm) rfl rfl (Nat.le_of_ble_eq_true rfl) dc_L_law_847 hf (fun r w hp => ?_)
    obtain ⟨rfl, w1, f2, rfl, hC2, hv0⟩ := hp
    refine kw_cv (ws' := kl_w kL wR w1 o f2) (kb_putE h13 (kb_len17 h16) (kb_len17 (csP_16 hC2))) rfl rfl ?_
    refine kw_istore X dc_L_law_850 (by decide) ?_
    refine kw_aload_n X dc_L_law_852 rfl rfl ?_
    refine kw_aload_n X dc_L_law_853 rfl rfl ?_
    refine kw_iload X dc_L_law_854 rfl ?_
    refine kw_iconst (v := (nI 1)) X dc_L_law_856 (by decide) ?_
    refine kw_iadd (v := nI (3 * k + 1)) X dc_L_law_857 (nI_add _ _) ?_
    refine kl_sld (v := nI i) X hX hbl hbA (vp_in_nI (by omega) (by omega)) (by rw [nI_clamp (by omega)]; exact e1) dc_L_law_858 ?_
    refine kw_callVI X kEw hE 0 hr0 rfl (ct_RatT rd n lo hi bg cs T t S wR hP i _ hy) (cw_V 1 X wd_796 wd_797 wd_798 wd_8 wd_799 rfl rfl (by decide +kernel) ⟨Nat.le_of_ble_eq_true rfl, Nat.le_of_ble_eq_true rfl⟩) (List.range' 0 13) (kb_get0 h13) (by decide) (fun _ _ h => Nat.le_of_eq (rfP_13 h.2).symm) rfl rfl (Nat.le_of_ble_eq_true rfl) dc_L_law_859 hf (fun r w hp => ?_)
    obtain ⟨rfl, hP1⟩ := hp
    refine kw_cv (ws' := kl_w kL w w1 o f2) (kb_put0 h13 (rfP_13 hP1)) rfl rfl ?_
    refine kw_istore X dc_L_law_862 (by decide) ?_
    refine kw_aload_n X dc_L_law_864 rfl rfl ?_
    obtain ⟨fr1, hr1⟩ := rfP_0 hP1
    have h131 := rfP_13 hP1
    refine kw_callVI X kEw hE 0 hr1 rfl (ct_Zthrown rd _ _ _ _ _ _ _ _ _ hP1) (cw_V 0 X wd_661 wd_662 wd_663 wd_8 wd_664 rfl rfl (by decide +kernel) ⟨Nat.le_of_ble_eq_true rfl, Nat.le_of_ble_eq_true rfl⟩) (List.range' 0 13) (kb_get0 h131) (by decide) (fun _ _ h => Nat.le_of_eq (rfP_13 h.2).symm) rfl rfl (Nat.le_of_ble_eq_true rfl) dc_L_law_865 hf (fun r w hp => ?_)
    obtain ⟨rfl, hP2⟩ := hp
    refine kw_cv (ws' := kl_w kL w w1 o f2) (kb_put0 h131 (rfP_13 hP2)) rfl rfl ?_
    refine kw_iload X dc_L_law_868 rfl ?_
    refine kw_icmp_eq (tgt := 875) X dc_L_law_870 (by decide) (fun _ => ?_) (fun hne => absurd rfl hne)
    refine kw_iload X dc_L_law_875 rfl ?_
    refine kw_if_ne (tgt := 892) X dc_L_law_877 (by decide) (fun h9 => absurd rfl h9) (fun _ => ?_)
    refine kw_aload_n X dc_L_law_880 rfl rfl ?_
    refine kw_iconst (v := (nI 0)) X dc_L_law_881 (by decide) ?_
    refine kw_lald (v := (nI T[i]).toInt64) X 29 3 (kb_at29 (rfP_13 hP2) (csP_16 hC2)) rfl (kq_in (k := 0) (by decide) (by decide)) (by rw [kq_cl (k := 0) (by decide)]; exact hv0) dc_L_law_882 ?_
    refine kw_iload X dc_L_law_883 rfl ?_
    refine kw_i2l (v := (nI T[i]).toInt64) X dc_L_law_885 rfl ?_
    refine kw_lcmp (v := 0) X dc_L_law_886 (lg_cmp_0 _) ?_
    refine kw_if_eq (tgt := 892) X dc_L_law_887 (by decide) (fun _ => ?_) (fun h9 => absurd rfl h9)
    refine kw_goto (tgt := 895) X dc_L_law_892 (by decide) ?_
    refine kw_kill 5 ?_
    refine kw_kill 6 ?_
    exact K _ _ _ _ _ _ _ _ _ _ _ hP2 hC2
  · obtain ⟨fr0, hr0⟩ := rfP_0 hP
    have h13 := rfP_13 hP
    have h16 := csP_16 hC
    refine kw_aload_n X dc_L_law_839 rfl rfl ?_
    refine kw_aload_n X dc_L_law_840 rfl rfl ?_
    refine kw_iload X dc_L_law_841 rfl ?_
    refine kw_iconst (v := (nI 1)) X dc_L_law_843 (by decide) ?_
    refine kw_iadd (v := nI (3 * k + 1)) X dc_L_law_844 (nI_add _ _) ?_
    refine kl_sld (v := xs (3 * k + 1)) X hX hbl hbA (vp_in_nI (by omega) (by omega)) (by rw [nI_clamp (by omega)]) dc_L_law_845 ?_
    refine kw_aload_n X dc_L_law_846 rfl rfl ?_
    refine kx_callSW X hEx hN (ct_LatF hl0 ad n lo hi bg cs T wC hC o f _ ha) (cw_SW 3 X wd_580 wd_581 wd_0 wd_582 rfl rfl (by decide +kernel) ⟨Nat.le_of_ble_eq_true rfl, Nat.le_of_ble_eq_true rfl⟩) (List.range' 13 17) (kb_getE h13 (kb_len17 h16)) (by decide) (fun _ _ h => by obtain ⟨_, w1, rfl, h2⟩ := h; exact Nat.le_of_eq (kb_len17 (csP_16 h2)).symm) rfl rfl (Nat.le_of_ble_eq_true rfl) dc_L_law_847 hf (fun r w hp => ?_)
    obtain ⟨rfl, w1, rfl, hC2⟩ := hp
    refine kw_cv (ws' := kl_w kL wR w1 o f) (kb_putE h13 (kb_len17 h16) (kb_len17 (csP_16 hC2))) rfl rfl ?_
    refine kw_istore X dc_L_law_850 (by decide) ?_
    refine kw_aload_n X dc_L_law_852 rfl rfl ?_
    refine kw_aload_n X dc_L_law_853 rfl rfl ?_
    refine kw_iload X dc_L_law_854 rfl ?_
    refine kw_iconst (v := (nI 1)) X dc_L_law_856 (by decide) ?_
    refine kw_iadd (v := nI (3 * k + 1)) X dc_L_law_857 (nI_add _ _) ?_
    refine kl_sld (v := xs (3 * k + 1)) X hX hbl hbA (vp_in_nI (by omega) (by omega)) (by rw [nI_clamp (by omega)]) dc_L_law_858 ?_
    refine kw_callVI X kEw hE 0 hr0 rfl (ct_RatF rd n lo hi bg cs T t S wR hP _ ha) (cw_V 1 X wd_796 wd_797 wd_798 wd_8 wd_799 rfl rfl (by decide +kernel) ⟨Nat.le_of_ble_eq_true rfl, Nat.le_of_ble_eq_true rfl⟩) (List.range' 0 13) (kb_get0 h13) (by decide) (fun _ _ h => Nat.le_of_eq (rfP_13 h).symm) rfl rfl (Nat.le_of_ble_eq_true rfl) dc_L_law_859 hf (fun r w hp => ?_)
    have hP1 := hp
    refine kw_cv (ws' := kl_w kL w w1 o f) (kb_put0 h13 (rfP_13 hP1)) rfl rfl ?_
    refine kw_istore X dc_L_law_862 (by decide) ?_
    refine kw_aload_n X dc_L_law_864 rfl rfl ?_
    obtain ⟨fr1, hr1⟩ := rfP_0 hP1
    have h131 := rfP_13 hP1
    refine kw_callVI X kEw hE 0 hr1 rfl (ct_Zthrown rd _ _ _ _ _ _ _ _ _ hP1) (cw_V 0 X wd_661 wd_662 wd_663 wd_8 wd_664 rfl rfl (by decide +kernel) ⟨Nat.le_of_ble_eq_true rfl, Nat.le_of_ble_eq_true rfl⟩) (List.range' 0 13) (kb_get0 h131) (by decide) (fun _ _ h => Nat.le_of_eq (rfP_13 h.2).symm) rfl rfl (Nat.le_of_ble_eq_true rfl) dc_L_law_865 hf (fun r w hp => ?_)
    obtain ⟨rfl, hP2⟩ := hp
    refine kw_cv (ws' := kl_w kL w w1 o f) (kb_put0 h131 (rfP_13 hP2)) rfl rfl ?_
    refine kw_iload X dc_L_law_868 rfl ?_
    refine kw_icmp_eq (tgt := 875) X dc_L_law_870 (by decide) (fun _ => ?_) (fun hne => absurd rfl hne)
    refine kw_iload X dc_L_law_875 rfl ?_
    refine kw_if_ne (tgt := 892) X dc_L_law_877 (by decide) (fun _ => ?_) (fun h9 => absurd h9 (by decide))
    refine kw_goto (tgt := 895) X dc_L_law_892 (by decide) ?_
    refine kw_kill 5 ?_
    refine kw_kill 6 ?_
    exact K _ _ _ _ _ _ _ _ _ _ _ hP2 hC2
