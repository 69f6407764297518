/-! THE CLAIM OUT OF ONE WALK OF THE LAW'S BODY. Your part is whole_start (and what it stands on); all else here is the same for every law, but numbers. -/
def R_law : String := "CoinStringsLaw"
def lw_P (b : Addr) (xs : List Int32) (args : Array Value) (s : State) : Prop := args = #[.ref b] ∧ s.IntsAt b xs ∧ xs.length ≤ 1536 ∧ (Jvm.Cond.and given_1 narrow_1).before args s = true
def lw_Q (_ : Array Value) (s : State) (o : Outcome) (t : State) : Prop := o = .returned (some (.int 1)) ∧ Framed s o t [] 1067 25039
def lw_Z (below : List Frame) (a : Array Value) (s : State) : State → Prop := fun t => ∃ o, t.status = .running ∧ Ended t below o ∧ lw_Q a s o t
/-- the law's own end, with 1 on the stack, nothing written that was there before, its room as the claim has it -/
theorem lw_ret {p : Program} {l : Launch} {e : Env} {s : State} {m : MethodId} {below : List Frame} {meth : Method} {c : Code} {b : Nat} (hx : p.tables.exec = Jvm.exec) (hb : c.code = code) (hr : meth.sig.returnType = ret) (hlocks : meth.locks = false) {pc : Nat} {H : Heap} {ls : Array Slot} (hdg : decode code pc = .ok (.ireturn, 1)) : W p l e room_1 s m #[Value.ref b] below meth c H [] 1067 25039 (lw_Z below #[Value.ref b] s) (F0 m pc ls [.int 1]) := by
  intro T hT X
  obtain ⟨fs, hret, hrun, hended, hW, hframe⟩ := X.leave (v := some (.int 1)) (hlocks := hlocks) (fun h => by rw [hr] at h; cases h)
  have hmeth' : T.vm.method? m = some meth := X.method'
  refine ⟨T.setFrames fs, ?_, .returned (some (.int 1)), hrun, hended, rfl, ⟨_, rfl⟩, hW, hframe⟩
  jvm_step X.here [X.here.top, hx, hb, hdg, hmeth', hr, ret, narrow_b1]
  (try refine ⟨rfl, ?_⟩); (try refine ⟨rfl, ?_⟩)
  first | (intro acts; rw [hret _ acts rfl rfl rfl]) | rw [hret _ _ rfl rfl rfl]
  exact Steps.refl _
/-- what holds at the law's entry: the machine, the code, the tables' words (any of lw_tbl by 'hts w (by decide +kernel)'), the script of L ints xs at the cell b, what the Statement gives of the start (any of its parts by flat_of_before) -/
def lw_At (p : Program) (s : State) (m : MethodId) (meth : Method) (c : Code) (b L : Nat) (xs : Nat → Int32) : Prop :=
  p.tables.exec = Jvm.exec ∧ c.code = code ∧ meth.sig.returnType = ret ∧ c.maxLocals = 7 ∧ s.vm.findClass R_law = some m.cls ∧ (∀ w ∈ lw_tbl, w.before #[Value.ref b] s = true) ∧ va_X b L xs s s.heap ∧ b < s.heap.size ∧ meth.locks = false ∧ (Jvm.Cond.and given_1 narrow_1).before #[Value.ref b] s = true
theorem kl_gt {L k : Nat} (hL : L ≤ 1536) (hk : 3 * k ≤ L) (h : ¬ nI L - nI 3 < nI (3 * k)) : 3 * k + 3 ≤ L := by
  rw [Int32.lt_iff_toInt_lt, Int32.toInt_sub, nI_toInt (by omega), nI_toInt (by omega), nI_toInt (by omega)] at h
  have e : ((L : Int) - (3 : Nat)).bmod (2 ^ 32) = (L : Int) - 3 := by
    rw [Int.bmod_eq_of_le (by omega) (by omega)]
    rfl
  rw [e] at h
  omega
/-- the law's end -/
theorem kl_end {p : Program} {l : Launch} {e : Env} {s : State} {m : MethodId} {below : List Frame} {meth : Method} {c : Code} {D : va_G} {kI kB kC kL : ClassId} {c0 : Cond} {b : Nat} (X : kw_X p s m #[Value.ref b] c cd_L_law 7 "CoinStringsLaw" (c0 :: gw_tbl) D cl_v (kt kI kB kC kL) (fun q => s.heap.size ≤ q)) (hr : meth.sig.returnType = ret) (hlk : meth.locks = false) {cells slots pc : Nat} {ws : va_W} {lv : List (Option Value)} (hc : cells ≤ 1067) (hs : slots ≤ 25039) (d : decode code pc = .ok (.ireturn, 1)) : kw_W p l e room_1 s m #[Value.ref b] below meth c 7 D cl_v (fun q => s.heap.size ≤ q) cells slots (lw_Z below #[Value.ref b] s) ws pc lv [.int 1] := fun H locs ls hP hD hS hl T hT X0 => by
  have hsm : s.sameButNew (T.setVm s.vm) [] cells slots := State.sameButNew.drop_fresh (L := []) (J := locs) (by rw [List.nil_append]; exact X0.same) hS.2.2
  have X1 : Stand p l e room_1 s m #[Value.ref b] below meth c T [] cells slots := ⟨X0.admits, X0.cas, X0.clock, X0.frames, X0.room, X0.hears, X0.method, X0.code, X0.here, X0.tail, X0.warmed, X0.limits, X0.bytes, hsm⟩
  exact lw_ret X.1.1 X.1.2.1 hr hlk d T hT (stand_widen X1 hc hs)
theorem kl_19 (x : Int) : (x < 0 ∨ 18 < x) ∨ x = 0 ∨ x = 1 ∨ x = 2 ∨ x = 3 ∨ x = 4 ∨ x = 5 ∨ x = 6 ∨ x = 7 ∨ x = 8 ∨ x = 9 ∨ x = 10 ∨ x = 11 ∨ x = 12 ∨ x = 13 ∨ x = 14 ∨ x = 15 ∨ x = 16 ∨ x = 17 ∨ x = 18 := by omega
set_option maxRecDepth 100000 in
set_option maxHeartbeats 1000000 in
/-- the loop -/
theorem kl_all {p : Program} {l : Launch} {e : Env} {s : State} {m : MethodId} {below : List Frame} {meth : Method} {c : Code} {D : va_G} {kI kB kC kL : ClassId} {c0 : Cond} {b L : Nat} {xs : Nat → Int32} (X : kw_X p s m #[Value.ref b] c cd_L_law 7 "CoinStringsLaw" (c0 :: gw_tbl) D cl_v (kt kI kB kC kL) (fun q => s.heap.size ≤ q)) (hr : meth.sig.returnType = ret) (hlk : meth.locks = false) (hl0 : l.stackTraces = false) (hEx : kEx s) (hX : va_X b L xs s s.heap) (hbl : b < s.heap.size) (hL : L ≤ 1536) {ad rd : Nat → Nat} {o : Nat} {n : Nat} {lo hi : Nat → Nat} {bg : Bool} {cs T : List Nat} {t : Nat} {S : Bool} {wR wC : va_W} {f : Nat → Int64} (hP : rfP kI rd n lo hi bg cs T t S wR) (hC : csP kI kB kC ad n lo hi bg cs T wC) :
    kw_W p l e room_1 s m #[Value.ref b] below meth c 7 D cl_v (fun q => s.heap.size ≤ q) (30 + 0) (16769 + 6 * 0) (lw_Z below #[Value.ref b] s) (kl_w kL wR wC o f) 23 (kl_lv b ad rd o 0) [] := by
  have hbA : ¬ (fun q => s.heap.size ≤ q) b := Nat.not_le.mpr hbl
  have hN : kx_NA (fun q => s.heap.size ≤ q) s := fun a x hx _ hA => absurd (Array.getElem?_eq_some_iff.mp hx).1 (Nat.not_lt.mpr hA)
  refine kl_loop (α := va_W × va_W × (Nat → Int64) × Nat) (fun a => (∃ (n : Nat) (lo hi : Nat → Nat) (bg : Bool) (cs T : List Nat) (t : Nat) (S : Bool), rfP kI rd n lo hi bg cs T t S a.1 ∧ csP kI kB kC ad n lo hi bg cs T a.2.1) ∧ 3 * a.2.2.2 ≤ L) (fun a => L - 3 * a.2.2.2) (fun a => 30 + a.2.2.2) (fun a => 16769 + 6 * a.2.2.2) (fun a => kl_w kL a.1 a.2.1 o a.2.2.1) (fun a => kl_lv b ad rd o a.2.2.2) (fun _ => []) (wR, wC, f, 0) ⟨⟨n, lo, hi, bg, cs, T, t, S, hP, hC⟩, Nat.zero_le _⟩ (fun a hI ih => ?_)
  obtain ⟨wR, wC, f, k⟩ := a
  obtain ⟨⟨n, lo, hi, bg, cs, T, t, S, hP, hC⟩, hk⟩ := hI
  have hk : 3 * k ≤ L := hk
  refine kw_cv (ws' := kl_w kL wR wC o f) (lv' := kl_lv b ad rd o k) rfl rfl rfl ?_
  refine kw_iload X dc_L_law_23 rfl ?_
  refine kw_aload_n X dc_L_law_25 rfl rfl ?_
  refine kl_slen X hX hbl hbA dc_L_law_26 ?_
  refine kw_iconst (v := (nI 3)) X dc_L_law_27 (by decide) ?_
  refine kw_isub X dc_L_law_28 rfl ?_
  refine kw_icmp_gt (tgt := 901) X dc_L_law_29 (by decide) (fun _ => ?_) (fun hgt => ?_)
  · refine kw_iconst (v := 1) X dc_L_law_901 (by decide) ?_
    exact kl_end X hr hlk (by show 30 + k ≤ 1067; omega) (by show 16769 + 6 * k ≤ 25039; omega) dc_L_law_902
  have hk3 : 3 * k + 3 ≤ L := kl_gt hL hk hgt
  have hf : 30 + k + 1 ≤ room_1.cells ∧ 16769 + 6 * k + 6 ≤ room_1.slots := ⟨by show 30 + k + 1 ≤ 1067; omega, by show 16769 + 6 * k + 6 ≤ 25039; omega⟩
  have K : kl_K p l e s m #[Value.ref b] below meth c D (fun q => s.heap.size ≤ q) (lw_Z below #[Value.ref b] s) kI kB kC kL b ad rd o k (30 + k) (16769 + 6 * k) := fun n lo hi bg cs T t S wR wC f hP hC => by
    refine kw_iinc (v := nI (3 * (k + 1))) X dc_L_law_895 rfl (nI_add (3 * k) 3) (by decide) ?_
    refine kw_goto (tgt := 23) X dc_L_law_898 (by decide) ?_
    refine kw_widen (k9 := 30 + (k + 1)) (n9 := 16769 + 6 * (k + 1)) (by omega) (by omega) ?_
    exact ih (wR, wC, f, k + 1) ⟨⟨n, lo, hi, bg, cs, T, t, S, hP, hC⟩, by show 3 * (k + 1) ≤ L; omega⟩ (by show L - 3 * (k + 1) < L - 3 * k; omega)
  refine kw_aload_n X dc_L_law_32 rfl rfl ?_
  refine kw_iload X dc_L_law_33 rfl ?_
  refine kl_sld (v := xs (3 * k)) X hX hbl hbA (vp_in_nI (by omega) (by omega)) (by rw [nI_clamp (by omega)]) dc_L_law_35 ?_
  refine kw_bipush (v := (nI 31)) X dc_L_law_36 (by decide) ?_
  refine kw_iand (v := xs (3 * k) &&& nI 31) X dc_L_law_38 rfl ?_
  rcases kl_19 (xs (3 * k) &&& nI 31).toInt with hj | hj | hj | hj | hj | hj | hj | hj | hj | hj | hj | hj | hj | hj | hj | hj | hj | hj | hj | hj
  · refine kl_tabO (tgt := 895) X dc_L_law_39 hj (by decide) ?_
    refine kw_widen (Nat.le_succ _) (Nat.le_add_right _ 6) ?_
    exact K n lo hi bg cs T t S wR wC f hP hC
  · exact kl_tabI (tgt := 128) X dc_L_law_39 (by omega) (by omega) (by rw [hj]; rfl) (by decide) (kl_add X hl0 hEx hN hX hbl hbA hL hk3 hf hP hC K)
  · exact kl_tabI (tgt := 196) X dc_L_law_39 (by omega) (by omega) (by rw [hj]; rfl) (by decide) (kl_board X hl0 hEx hN hX hbl hbA hL hk3 hf hP hC K)
  · exact kl_tabI (tgt := 264) X dc_L_law_39 (by omega) (by omega) (by rw [hj]; rfl) (by decide) (kl_begin X hl0 hEx hN hX hbl hbA hL hk3 hf hP hC K)
  · exact kl_tabI (tgt := 288) X dc_L_law_39 (by omega) (by omega) (by rw [hj]; rfl) (by decide) (kl_clear X hl0 hEx hN hX hbl hbA hL hk3 hf hP hC K)
  · exact kl_tabI (tgt := 299) X dc_L_law_39 (by omega) (by omega) (by rw [hj]; rfl) (by decide) (kl_cut X hl0 hEx hN hX hbl hbA hL hk3 hf hP hC K)
  · exact kl_tabI (tgt := 355) X dc_L_law_39 (by omega) (by omega) (by rw [hj]; rfl) (by decide) (kl_undo X hl0 hEx hN hX hbl hbA hL hk3 hf hP hC K)
  · exact kl_tabI (tgt := 399) X dc_L_law_39 (by omega) (by omega) (by rw [hj]; rfl) (by decide) (kl_play X hl0 hEx hN hX hbl hbA hL hk3 hf hP hC K)
  · exact kl_tabI (tgt := 443) X dc_L_law_39 (by omega) (by omega) (by rw [hj]; rfl) (by decide) (kl_turn X hl0 hEx hN hX hbl hbA hL hk3 hf hP hC K)
  · exact kl_tabI (tgt := 456) X dc_L_law_39 (by omega) (by omega) (by rw [hj]; rfl) (by decide) (kl_taken X hl0 hEx hN hX hbl hbA hL hk3 hf hP hC K)
  · exact kl_tabI (tgt := 512) X dc_L_law_39 (by omega) (by omega) (by rw [hj]; rfl) (by decide) (kl_left X hl0 hEx hN hX hbl hbA hL hk3 hf hP hC K)
  · exact kl_tabI (tgt := 525) X dc_L_law_39 (by omega) (by omega) (by rw [hj]; rfl) (by decide) (kl_strings X hl0 hEx hN hX hbl hbA hL hk3 hf hP hC K)
  · exact kl_tabI (tgt := 581) X dc_L_law_39 (by omega) (by omega) (by rw [hj]; rfl) (by decide) (kl_margin X hl0 hEx hN hX hbl hbA hL hk3 hf hP hC K)
  · exact kl_tabI (tgt := 625) X dc_L_law_39 (by omega) (by omega) (by rw [hj]; rfl) (by decide) (kl_good X hl0 hEx hN hX hbl hbA hL hk3 hf hP hC K)
  · exact kl_tabI (tgt := 669) X dc_L_law_39 (by omega) (by omega) (by rw [hj]; rfl) (by decide) (kl_nim X hl0 hEx hN hX hbl hbA hL hk3 hf hP hC K)
  · exact kl_tabI (tgt := 713) X dc_L_law_39 (by omega) (by omega) (by rw [hj]; rfl) (by decide) (kl_mad X hl0 hEx hN hX hbl hbA hL hk3 hf hP hC K)
  · exact kl_tabI (tgt := 757) X dc_L_law_39 (by omega) (by omega) (by rw [hj]; rfl) (by decide) (kl_groups X hl0 hEx hN hX hbl hbA hL hk3 hf hP hC K)
  · exact kl_tabI (tgt := 770) X dc_L_law_39 (by omega) (by omega) (by rw [hj]; rfl) (by decide) (kl_group X hl0 hEx hN hX hbl hbA hL hk3 hf hP hC K)
  · exact kl_tabI (tgt := 826) X dc_L_law_39 (by omega) (by omega) (by rw [hj]; rfl) (by decide) (kl_show X hl0 hEx hN hX hbl hbA hL hk3 hf hP hC K)
  · exact kl_tabI (tgt := 839) X dc_L_law_39 (by omega) (by omega) (by rw [hj]; rfl) (by decide) (kl_at X hl0 hEx hN hX hbl hbA hL hk3 hf hP hC K)
