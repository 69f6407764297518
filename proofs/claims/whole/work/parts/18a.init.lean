/-! constructors -/
section CWI
variable {p : Program} {l : Launch} {e : Env} {R : Room} {s : State} {m : MethodId} {args : Array Value} {below : List Frame} {meth : Method} {c : Code}
variable {cc : ByteArray} {nL : Nat} {own : String} {D : va_G} {cl : List vw_C} {tys : List (ClassId × FieldType)} {A : Nat → Prop} {c0 : Cond}
variable {idx : Nat} {y : MethodName} {bytes : ByteArray} {maxL mc ms : Nat} {rm : Room}
theorem cw_I (n : Nat) (X : kw_X p s m args c cc nL own (c0 :: gw_tbl) D cl tys A) (h1 : Cond.methodLink own idx y ∈ gw_tbl) (h2 : Cond.instanceMethod y ∈ gw_tbl) (h4 : Cond.initialized y.cls ∈ gw_tbl) (h5 : Cond.code y bytes maxL none ∈ gw_tbl) (hrc : rm.cells = mc) (hrs : rm.slots = ms) (hy1 : y.name = "<init>")
    (hd : y.cls ≠ "java/lang/invoke/MethodHandle" ∧ y.cls ≠ "java/lang/invoke/VarHandle" ∧ (parseMethodDescriptor y.desc).map (fun d => d.parameters.length) = some n) (hR : rm.frames + 1 ≤ R.frames ∧ 8 + (maxL + 11) + rm.locals ≤ R.locals) : CallB R s args own idx y bytes maxL none (gw y bytes maxL none) rm mc ms n ∧ y.name = "<init>" ∧ (Cond.instanceMethod y).before args s = true :=
  ⟨callB_of n X.1.2.2.2.2 (gw_in h5) rfl hrc hrs (X.1.2.2.2.2 _ (gq h4)) (X.1.2.2.2.2 _ (gq h1)) hd hR, hy1, X.1.2.2.2.2 _ (gq h2)⟩
theorem cw_IN {host : String} (n : Nat) (X : kw_X p s m args c cc nL own (c0 :: gw_tbl) D cl tys A) (h1 : va_Nw (.methodLinkNest own idx y host) s) (h2 : Cond.instanceMethod y ∈ gw_tbl) (h4 : Cond.initialized y.cls ∈ gw_tbl) (h5 : Cond.code y bytes maxL none ∈ gw_tbl) (hrc : rm.cells = mc) (hrs : rm.slots = ms) (hy1 : y.name = "<init>")
    (hd : y.cls ≠ "java/lang/invoke/MethodHandle" ∧ y.cls ≠ "java/lang/invoke/VarHandle" ∧ (parseMethodDescriptor y.desc).map (fun d => d.parameters.length) = some n) (hR : rm.frames + 1 ≤ R.frames ∧ 8 + (maxL + 11) + rm.locals ≤ R.locals) : va_CN R s args own idx y host bytes maxL none (gw y bytes maxL none) rm mc ms n ∧ y.name = "<init>" ∧ (Cond.instanceMethod y).before args s = true :=
  ⟨va_cnB n X.1.2.2.2.2 (gw_in h5) rfl hrc hrs h1 (X.1.2.2.2.2 _ (gq h4)) hd hR, hy1, X.1.2.2.2.2 _ (gq h2)⟩
end CWI
/-- the class's world: 0 the object; 1 to 4 Web; 5, 6 Margins; 7, 8 NimValues; 9, 10 Grouping; 11, 12 Text; 13 the cut strings, 14 who cut, 15 the takings -/
abbrev wCS (kI kB kC : ClassId) (ad : Nat → Nat) (n : Nat) (les oth soc : Nat → Int32) (rM : Int32) (fM : Nat → Int32) (rN : Int32) (fN La : Nat → Int32) (len : Nat) (ch cs ct tk : Nat → Int32) (k p u : Nat) (bg : Bool) : va_W :=
  [(ad 0, .inr (0, [.ref (ad 1), .ref (ad 5), .ref (ad 7), .ref (ad 9), .ref (ad 11), .ref (ad 13), .ref (ad 14), .ref (ad 15), .int (nI k), .int (nI p), .int (nI u), .int (bI bg)])),
   (ad 1, .inr (1, [.ref (ad 2), .ref (ad 3), .ref (ad 4), .int (nI n)])), (ad 2, .inl (kI, 12, .inl les)), (ad 3, .inl (kI, 12, .inl oth)), (ad 4, .inl (kI, 8, .inl soc)),
   (ad 5, .inr (2, [.ref (ad 1), .ref (ad 6), .int rM])), (ad 6, .inl (kB, 4096, .inl fM)), (ad 7, .inr (3, [.ref (ad 1), .ref (ad 8), .int rN])), (ad 8, .inl (kB, 4096, .inl fN)),
   (ad 9, .inr (4, [.ref (ad 1), .ref (ad 10)])), (ad 10, .inl (kI, 8, .inl La)), (ad 11, .inr (5, [.ref (ad 1), .ref (ad 12), .int (nI len)])), (ad 12, .inl (kC, 84, .inl ch)),
   (ad 13, .inl (kI, 12, .inl cs)), (ad 14, .inl (kI, 12, .inl ct)), (ad 15, .inl (kI, 2, .inl tk))]
def ad_of (l : List Nat) : Nat → Nat := fun k => l.getD k 0
/-- the reference's world -/
abbrev wRF (kI : ClassId) (rd : Nat → Nat) (th sz : Nat) (one two own : Nat → Int32) (bg : Bool) (lf tu : Nat) (tk : Nat → Int32) (cu : Nat) (co tO t0 t1 : Nat → Int32) (sv : Bool) (mg nm : Nat → Int32) (gc : Nat) (go tx : Nat → Int32) (len : Nat) : va_W :=
  [(rd 0, .inr (6, [.int (nI th), .int (nI sz), .ref (rd 1), .ref (rd 2), .ref (rd 3), .int (bI bg), .int (nI lf), .int (nI tu), .ref (rd 4), .int (nI cu), .ref (rd 5), .ref (rd 6), .ref (rd 7), .ref (rd 8), .int (bI sv), .ref (rd 9), .ref (rd 10), .int (nI gc), .ref (rd 11), .ref (rd 12), .int (nI len)])),
   (rd 1, .inl (kI, 12, .inl one)), (rd 2, .inl (kI, 12, .inl two)), (rd 3, .inl (kI, 8, .inl own)), (rd 4, .inl (kI, 2, .inl tk)), (rd 5, .inl (kI, 12, .inl co)), (rd 6, .inl (kI, 12, .inl tO)), (rd 7, .inl (kI, 12, .inl t0)), (rd 8, .inl (kI, 12, .inl t1)), (rd 9, .inl (kI, 4096, .inl mg)), (rd 10, .inl (kI, 4096, .inl nm)), (rd 11, .inl (kI, 8, .inl go)), (rd 12, .inl (kI, 96, .inl tx))]
set_option maxRecDepth 100000 in
set_option maxHeartbeats 4000000 in
theorem ct_Winit {l : Launch} {D : va_G} {kI kB kC kL : ClassId} (w0 : Nat) : kw_V l mn_W_init (gw mn_W_init cd_W_init 1 none) ({ frames := 1, cells := 3, slots := 32, locals := 20 } : Room) D cl_v (kt kI kB kC kL) kE [.ref w0] ([(w0, .inr (1, [.null, .null, .null, .int 0]))]) (fun w => ∃ w1 w2 w3 : Nat, w = wWeb kI w0 w1 w2 w3 0 (fun _ => 0) (fun _ => 0) (fun _ => 0)) 3 32 := by
  refine kw_ofV (cc := cd_W_init) (maxL := 1) (by decide) rfl (Nat.le_of_ble_eq_true rfl) rfl ?_
  intro pp ee s m args below meth c A X hr hlk hE hnm
  refine kw_aload_n X dc_W_init_0 rfl rfl ?_
  refine kw_objInit X (gq wd_32) (gq wd_25) (gq wd_26) dc_W_init_1 (Nat.le_of_ble_eq_true rfl) (Nat.le_of_ble_eq_true rfl) ?_
  refine kw_aload_n X dc_W_init_4 rfl rfl ?_
  refine kw_bipush (v := (nI 12)) X dc_W_init_5 (by decide) ?_
  refine kw_newa (atype := .int) (a0 := (12, .inl (fun _ => 0))) (N' := 12) X 0 rfl (fun C h => by cases h) (gq wd_46) rfl (fun _ => rfl) (nI_pos (by decide)) (nI_clamp (by decide)) (by decide) (Nat.le_of_ble_eq_true rfl) (Nat.le_of_ble_eq_true rfl) dc_W_init_7 (fun q7 => ?_)
  refine kw_putF (ty := .array .int) X (wc_W _) fy_W fk_W fn_W 0 rfl rfl 0 (by decide) (gq wd_33) (fun _ h => h) rfl hnm rfl (by decide +kernel) rfl rfl (Nat.le_of_ble_eq_true rfl) dc_W_init_9 ?_
  refine kw_aload_n X dc_W_init_12 rfl rfl ?_
  refine kw_bipush (v := (nI 12)) X dc_W_init_13 (by decide) ?_
  refine kw_newa (atype := .int) (a0 := (12, .inl (fun _ => 0))) (N' := 12) X 0 rfl (fun C h => by cases h) (gq wd_46) rfl (fun _ => rfl) (nI_pos (by decide)) (nI_clamp (by decide)) (by decide) (Nat.le_of_ble_eq_true rfl) (Nat.le_of_ble_eq_true rfl) dc_W_init_15 (fun q15 => ?_)
  refine kw_putF (ty := .array .int) X (wc_W _) fy_W fk_W fn_W 0 rfl rfl 1 (by decide) (gq wd_34) (fun _ h => h) rfl hnm rfl (by decide +kernel) rfl rfl (Nat.le_of_ble_eq_true rfl) dc_W_init_17 ?_
  refine kw_aload_n X dc_W_init_20 rfl rfl ?_
  refine kw_bipush (v := (nI 8)) X dc_W_init_21 (by decide) ?_
  refine kw_newa (atype := .int) (a0 := (8, .inl (fun _ => 0))) (N' := 8) X 0 rfl (fun C h => by cases h) (gq wd_46) rfl (fun _ => rfl) (nI_pos (by decide)) (nI_clamp (by decide)) (by decide) (Nat.le_of_ble_eq_true rfl) (Nat.le_of_ble_eq_true rfl) dc_W_init_23 (fun q23 => ?_)
  refine kw_putF (ty := .array .int) X (wc_W _) fy_W fk_W fn_W 0 rfl rfl 2 (by decide) (gq wd_35) (fun _ h => h) rfl hnm rfl (by decide +kernel) rfl rfl (Nat.le_of_ble_eq_true rfl) dc_W_init_25 ?_
  exact kw_vret X hr hlk dc_W_init_28 ⟨q7, q15, q23, rfl⟩
set_option maxRecDepth 100000 in
set_option maxHeartbeats 4000000 in
theorem ct_VinitM {l : Launch} {D : va_G} {kI kB kC kL : ClassId} (v0 w0 : Nat) : kw_V l mn_V_init (gw mn_V_init cd_V_init 2 none) ({ frames := 1, cells := 1, slots := 4096, locals := 20 } : Room) D cl_v (kt kI kB kC kL) kE [.ref v0, .ref w0] ([(v0, .inr (2, [.null, .null, .int 0]))]) (fun w => ∃ v1 : Nat, w = [(v0, .inr (2, [.ref w0, .ref v1, .int 0])), (v1, .inl (kB, 4096, .inl (fun _ => 0)))]) 1 4096 := by
  refine kw_ofV (cc := cd_V_init) (maxL := 2) (by decide) rfl (Nat.le_of_ble_eq_true rfl) rfl ?_
  intro pp ee s m args below meth c A X hr hlk hE hnm
  refine kw_aload_n X dc_V_init_0 rfl rfl ?_
  refine kw_objInit X (gq wd_55) (gq wd_25) (gq wd_26) dc_V_init_1 (Nat.le_of_ble_eq_true rfl) (Nat.le_of_ble_eq_true rfl) ?_
  refine kw_aload_n X dc_V_init_4 rfl rfl ?_
  refine kw_sipush (v := (nI 4096)) X dc_V_init_5 (by decide) ?_
  refine kw_newa (atype := .byte) (a0 := (4096, .inl (fun _ => 0))) (N' := 4096) X 1 rfl (fun C h => by cases h) (gq wd_74) rfl (fun _ => rfl) (nI_pos (by decide)) (nI_clamp (by decide)) (by decide) (Nat.le_of_ble_eq_true rfl) (Nat.le_of_ble_eq_true rfl) dc_V_init_8 (fun q8 => ?_)
  refine kw_putF (ty := .array .byte) X (wc_M _) fy_M fk_M fn_M 0 rfl rfl 1 (by decide) (gq wd_61) (fun _ h => h) rfl hnm rfl (by decide +kernel) rfl rfl (Nat.le_of_ble_eq_true rfl) dc_V_init_10 ?_
  refine kw_aload_n X dc_V_init_13 rfl rfl ?_
  refine kw_aload_n X dc_V_init_14 rfl rfl ?_
  refine kw_putF (ty := .object "CoinStrings$Web") X (wc_M _) fy_M fk_M fn_M 0 rfl rfl 0 (by decide) (gq wd_56) (fun _ h => h) rfl hnm rfl (by decide +kernel) rfl rfl (Nat.le_of_ble_eq_true rfl) dc_V_init_15 ?_
  exact kw_vret X hr hlk dc_V_init_18 ⟨q8, rfl⟩
set_option maxRecDepth 100000 in
set_option maxHeartbeats 4000000 in
theorem ct_Minit {l : Launch} {D : va_G} {kI kB kC kL : ClassId} (v0 w0 : Nat) : kw_V l mn_M_init (gw mn_M_init cd_M_init 2 none) ({ frames := 2, cells := 1, slots := 4096, locals := 41 } : Room) D cl_v (kt kI kB kC kL) kE [.ref v0, .ref w0] ([(v0, .inr (2, [.null, .null, .int 0]))]) (fun w => ∃ v1 : Nat, w = [(v0, .inr (2, [.ref w0, .ref v1, .int 0])), (v1, .inl (kB, 4096, .inl (fun _ => 0)))]) 1 4096 := by
  refine kw_ofV (cc := cd_M_init) (maxL := 2) (by decide) rfl (Nat.le_of_ble_eq_true rfl) rfl ?_
  intro pp ee s m args below meth c A X hr hlk hE hnm
  refine kw_aload_n X dc_M_init_0 rfl rfl ?_
  refine kw_aload_n X dc_M_init_1 rfl rfl ?_
  refine kw_callI X kEw hE (ct_VinitM v0 w0) (cw_I 1 X wd_52 wd_53 wd_3 wd_54 rfl rfl rfl (by decide +kernel) ⟨Nat.le_of_ble_eq_true rfl, Nat.le_of_ble_eq_true rfl⟩) [0] rfl (by decide) (fun _ h => by obtain ⟨v1, rfl⟩ := h; exact Nat.le_of_ble_eq_true rfl) rfl rfl (Nat.le_of_ble_eq_true rfl) dc_M_init_2 ⟨Nat.le_of_ble_eq_true rfl, Nat.le_of_ble_eq_true rfl⟩ (fun w hp => ?_)
  obtain ⟨v1, rfl⟩ := hp
  exact kw_vret X hr hlk dc_M_init_5 ⟨v1, rfl⟩
set_option maxRecDepth 100000 in
set_option maxHeartbeats 4000000 in
theorem ct_VinitN {l : Launch} {D : va_G} {kI kB kC kL : ClassId} (v0 w0 : Nat) : kw_V l mn_V_init (gw mn_V_init cd_V_init 2 none) ({ frames := 1, cells := 1, slots := 4096, locals := 20 } : Room) D cl_v (kt kI kB kC kL) kE [.ref v0, .ref w0] ([(v0, .inr (3, [.null, .null, .int 0]))]) (fun w => ∃ v1 : Nat, w = [(v0, .inr (3, [.ref w0, .ref v1, .int 0])), (v1, .inl (kB, 4096, .inl (fun _ => 0)))]) 1 4096 := by
  refine kw_ofV (cc := cd_V_init) (maxL := 2) (by decide) rfl (Nat.le_of_ble_eq_true rfl) rfl ?_
  intro pp ee s m args below meth c A X hr hlk hE hnm
  refine kw_aload_n X dc_V_init_0 rfl rfl ?_
  refine kw_objInit X (gq wd_55) (gq wd_25) (gq wd_26) dc_V_init_1 (Nat.le_of_ble_eq_true rfl) (Nat.le_of_ble_eq_true rfl) ?_
  refine kw_aload_n X dc_V_init_4 rfl rfl ?_
  refine kw_sipush (v := (nI 4096)) X dc_V_init_5 (by decide) ?_
  refine kw_newa (atype := .byte) (a0 := (4096, .inl (fun _ => 0))) (N' := 4096) X 1 rfl (fun C h => by cases h) (gq wd_74) rfl (fun _ => rfl) (nI_pos (by decide)) (nI_clamp (by decide)) (by decide) (Nat.le_of_ble_eq_true rfl) (Nat.le_of_ble_eq_true rfl) dc_V_init_8 (fun q8 => ?_)
  refine kw_putF (ty := .array .byte) X (wc_N _) fy_N fk_N fn_N 0 rfl rfl 1 (by decide) (gq wd_61) (fun _ h => h) rfl hnm rfl (by decide +kernel) rfl rfl (Nat.le_of_ble_eq_true rfl) dc_V_init_10 ?_
  refine kw_aload_n X dc_V_init_13 rfl rfl ?_
  refine kw_aload_n X dc_V_init_14 rfl rfl ?_
  refine kw_putF (ty := .object "CoinStrings$Web") X (wc_N _) fy_N fk_N fn_N 0 rfl rfl 0 (by decide) (gq wd_56) (fun _ h => h) rfl hnm rfl (by decide +kernel) rfl rfl (Nat.le_of_ble_eq_true rfl) dc_V_init_15 ?_
  exact kw_vret X hr hlk dc_V_init_18 ⟨q8, rfl⟩
set_option maxRecDepth 100000 in
set_option maxHeartbeats 4000000 in
theorem ct_Ninit {l : Launch} {D : va_G} {kI kB kC kL : ClassId} (v0 w0 : Nat) : kw_V l mn_N_init (gw mn_N_init cd_N_init 2 none) ({ frames := 2, cells := 1, slots := 4096, locals := 41 } : Room) D cl_v (kt kI kB kC kL) kE [.ref v0, .ref w0] ([(v0, .inr (3, [.null, .null, .int 0]))]) (fun w => ∃ v1 : Nat, w = [(v0, .inr (3, [.ref w0, .ref v1, .int 0])), (v1, .inl (kB, 4096, .inl (fun _ => 0)))]) 1 4096 := by
  refine kw_ofV (cc := cd_N_init) (maxL := 2) (by decide) rfl (Nat.le_of_ble_eq_true rfl) rfl ?_
  intro pp ee s m args below meth c A X hr hlk hE hnm
  refine kw_aload_n X dc_N_init_0 rfl rfl ?_
  refine kw_aload_n X dc_N_init_1 rfl rfl ?_
  refine kw_callI X kEw hE (ct_VinitN v0 w0) (cw_I 1 X wd_80 wd_53 wd_3 wd_54 rfl rfl rfl (by decide +kernel) ⟨Nat.le_of_ble_eq_true rfl, Nat.le_of_ble_eq_true rfl⟩) [0] rfl (by decide) (fun _ h => by obtain ⟨v1, rfl⟩ := h; exact Nat.le_of_ble_eq_true rfl) rfl rfl (Nat.le_of_ble_eq_true rfl) dc_N_init_2 ⟨Nat.le_of_ble_eq_true rfl, Nat.le_of_ble_eq_true rfl⟩ (fun w hp => ?_)
  obtain ⟨v1, rfl⟩ := hp
  exact kw_vret X hr hlk dc_N_init_5 ⟨v1, rfl⟩
set_option maxRecDepth 100000 in
set_option maxHeartbeats 4000000 in
theorem ct_Ginit {l : Launch} {D : va_G} {kI kB kC kL : ClassId} (v0 w0 : Nat) : kw_V l mn_G_init (gw mn_G_init cd_G_init 2 none) ({ frames := 1, cells := 1, slots := 8, locals := 20 } : Room) D cl_v (kt kI kB kC kL) kE [.ref v0, .ref w0] ([(v0, .inr (4, [.null, .null]))]) (fun w => ∃ v1 : Nat, w = [(v0, .inr (4, [.ref w0, .ref v1])), (v1, .inl (kI, 8, .inl (fun _ => 0)))]) 1 8 := by
  refine kw_ofV (cc := cd_G_init) (maxL := 2) (by decide) rfl (Nat.le_of_ble_eq_true rfl) rfl ?_
  intro pp ee s m args below meth c A X hr hlk hE hnm
  refine kw_aload_n X dc_G_init_0 rfl rfl ?_
  refine kw_objInit X (gq wd_90) (gq wd_25) (gq wd_26) dc_G_init_1 (Nat.le_of_ble_eq_true rfl) (Nat.le_of_ble_eq_true rfl) ?_
  refine kw_aload_n X dc_G_init_4 rfl rfl ?_
  refine kw_bipush (v := (nI 8)) X dc_G_init_5 (by decide) ?_
  refine kw_newa (atype := .int) (a0 := (8, .inl (fun _ => 0))) (N' := 8) X 0 rfl (fun C h => by cases h) (gq wd_46) rfl (fun _ => rfl) (nI_pos (by decide)) (nI_clamp (by decide)) (by decide) (Nat.le_of_ble_eq_true rfl) (Nat.le_of_ble_eq_true rfl) dc_G_init_7 (fun q7 => ?_)
  refine kw_putF (ty := .array .int) X (wc_G _) fy_G fk_G fn_G 0 rfl rfl 1 (by decide) (gq wd_92) (fun _ h => h) rfl hnm rfl (by decide +kernel) rfl rfl (Nat.le_of_ble_eq_true rfl) dc_G_init_9 ?_
  refine kw_aload_n X dc_G_init_12 rfl rfl ?_
  refine kw_aload_n X dc_G_init_13 rfl rfl ?_
  refine kw_putF (ty := .object "CoinStrings$Web") X (wc_G _) fy_G fk_G fn_G 0 rfl rfl 0 (by decide) (gq wd_91) (fun _ h => h) rfl hnm rfl (by decide +kernel) rfl rfl (Nat.le_of_ble_eq_true rfl) dc_G_init_14 ?_
  exact kw_vret X hr hlk dc_G_init_17 ⟨q7, rfl⟩
set_option maxRecDepth 100000 in
set_option maxHeartbeats 4000000 in
theorem ct_Tinit {l : Launch} {D : va_G} {kI kB kC kL : ClassId} (v0 w0 : Nat) : kw_V l mn_T_init (gw mn_T_init cd_T_init 2 none) ({ frames := 1, cells := 1, slots := 84, locals := 20 } : Room) D cl_v (kt kI kB kC kL) kE [.ref v0, .ref w0] ([(v0, .inr (5, [.null, .null, .int 0]))]) (fun w => ∃ v1 : Nat, w = [(v0, .inr (5, [.ref w0, .ref v1, .int 0])), (v1, .inl (kC, 84, .inl (fun _ => 0)))]) 1 84 := by
  refine kw_ofV (cc := cd_T_init) (maxL := 2) (by decide) rfl (Nat.le_of_ble_eq_true rfl) rfl ?_
  intro pp ee s m args below meth c A X hr hlk hE hnm
  refine kw_aload_n X dc_T_init_0 rfl rfl ?_
  refine kw_objInit X (gq wd_103) (gq wd_25) (gq wd_26) dc_T_init_1 (Nat.le_of_ble_eq_true rfl) (Nat.le_of_ble_eq_true rfl) ?_
  refine kw_aload_n X dc_T_init_4 rfl rfl ?_
  refine kw_bipush (v := (nI 84)) X dc_T_init_5 (by decide) ?_
  refine kw_newa (atype := .char) (a0 := (84, .inl (fun _ => 0))) (N' := 84) X 2 rfl (fun C h => by cases h) (gq wd_114) rfl (fun _ => rfl) (nI_pos (by decide)) (nI_clamp (by decide)) (by decide) (Nat.le_of_ble_eq_true rfl) (Nat.le_of_ble_eq_true rfl) dc_T_init_7 (fun q7 => ?_)
  refine kw_putF (ty := .array .char) X (wc_T _) fy_T fk_T fn_T 0 rfl rfl 1 (by decide) (gq wd_105) (fun _ h => h) rfl hnm rfl (by decide +kernel) rfl rfl (Nat.le_of_ble_eq_true rfl) dc_T_init_9 ?_
  refine kw_aload_n X dc_T_init_12 rfl rfl ?_
  refine kw_aload_n X dc_T_init_13 rfl rfl ?_
  refine kw_putF (ty := .object "CoinStrings$Web") X (wc_T _) fy_T fk_T fn_T 0 rfl rfl 0 (by decide) (gq wd_104) (fun _ h => h) rfl hnm rfl (by decide +kernel) rfl rfl (Nat.le_of_ble_eq_true rfl) dc_T_init_14 ?_
  exact kw_vret X hr hlk dc_T_init_17 ⟨q7, rfl⟩
