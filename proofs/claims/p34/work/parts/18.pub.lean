/-! THE CLASS: its public methods, over the world of a state (valid calls) -/
def kNum (k : Int32) : Bool := decide (k = 2) || (!decide (k < 4) && !decide (8 < k))
theorem tc_rl_pos {k : Int32} {n i : Nat} (h : i < tc_rl k n) : kFl k = true ∧ i < n := by
  unfold tc_rl at h
  cases q : kFl k
  · rw [if_neg (by rw [q]; decide)] at h; omega
  · rw [if_pos q] at h; exact ⟨rfl, h⟩
theorem tc_wl_pos {k : Int32} {n i : Nat} (h : i < tc_wl k n) : kFl k = false ∧ i < n := by
  unfold tc_wl at h
  cases q : kFl k
  · rw [if_neg (by rw [q]; decide)] at h; exact ⟨rfl, h⟩
  · rw [if_pos q] at h; omega
set_option maxHeartbeats 4000000 in
set_option maxRecDepth 100000 in
theorem tX2_code (l : Launch) (D : va_G) (A : Nat → Prop) (cI cJ cD cC : ClassId) (h0 h1 h2 h3 h4 : Nat) (ad wd rd : Nat → Nat) (Y : va_W) (n : Nat) (K : Nat → Int32) (Ln : Nat → Nat) (Wh : Nat → Int64) (Re : Nat → UInt64) (cd : Int32) (ct : Nat → Int32) (sz : Nat) (hI : tcI n K Ln Wh Re)  : Met l yX2_code wsX2_code ({ frames := 0, cells := 0, slots := 0, locals := 0 }) (tcP D A (tcTY cI cJ cD cC) sz [.ref h0] (tc_T cI cJ cD cC h0 h1 h2 h3 h4 ad wd rd Y n K Ln Wh Re cd ct)) (vp_Si (fun r => r = cd)) 0 0 (fun _ => False) := by
  refine Met.ofW (cc := cX2_code) (maxL := 1) (ret := (some .int)) (by decide) rfl ?_
  intro p e s m args below meth c s₁ B hml hv
  obtain ⟨rfl, hsz, hP, hK, hD, hE⟩ := hv
  have hx := B.exec
  have hb := B.bytes
  have hr := B.returns
  have hts := atoms_spec (ws := wsX2_code) B.pre
  have hown : s.vm.findClass RX2 = some m.cls := findClass_of_methodNamed B.named
  have hlocks := B.notSynchronized
  have hl := lv_entry ([.ref h0]) (n := 1) (Nat.le_of_ble_eq_true rfl)
  rw [lg_entry_eq]
  generalize (lg_sl ([.ref h0]) ++ List.replicate (1 - (lg_sl ([.ref h0])).length) Slot.unset).toArray = ls at hl ⊢
  have hl : lv_has ls 1 [(0, .ref h0)] := hl
  subst hsz
  have hS : va_S A s.heap s.heap [] := va_S.rf
  refine lv_aload_n hx hb dX2_code_0 rfl (lv_at hl 0 rfl) ?_
  refine va_get (D := D) (ci := 2) (fs := [.ref h1, .ref h2, .ref h3, .int (nI n), .int cd]) (v := .int cd) (C := RX2) (T := TX2) (N := 5) hx hb hts (by decide +kernel) hown hK hP 0 rfl rfl 4 (by decide) (hts (.fieldLink RX2 30 "TypedColumns" "latestCode" "I") (by decide +kernel)) (fun _ h9 => h9) rfl dX2_code_1 ?_
  exact W.iret (v := cd) hx hb hr (fun t9 ht9 hW9 => ⟨cd, rfl, rfl, ht9⟩) (fun q hq => absurd hq List.not_mem_nil) dX2_code_4
set_option maxHeartbeats 4000000 in
set_option maxRecDepth 100000 in
theorem tX2_columnCount (l : Launch) (D : va_G) (A : Nat → Prop) (cI cJ cD cC : ClassId) (h0 h1 h2 h3 h4 : Nat) (ad wd rd : Nat → Nat) (Y : va_W) (n : Nat) (K : Nat → Int32) (Ln : Nat → Nat) (Wh : Nat → Int64) (Re : Nat → UInt64) (cd : Int32) (ct : Nat → Int32) (sz : Nat) (hI : tcI n K Ln Wh Re)  : Met l yX2_columnCount wsX2_columnCount ({ frames := 0, cells := 0, slots := 0, locals := 0 }) (tcP D A (tcTY cI cJ cD cC) sz [.ref h0] (tc_T cI cJ cD cC h0 h1 h2 h3 h4 ad wd rd Y n K Ln Wh Re cd ct)) (vp_Si (fun r => r = nI n)) 0 0 (fun _ => False) := by
  refine Met.ofW (cc := cX2_columnCount) (maxL := 1) (ret := (some .int)) (by decide) rfl ?_
  intro p e s m args below meth c s₁ B hml hv
  obtain ⟨rfl, hsz, hP, hK, hD, hE⟩ := hv
  have hx := B.exec
  have hb := B.bytes
  have hr := B.returns
  have hts := atoms_spec (ws := wsX2_columnCount) B.pre
  have hown : s.vm.findClass RX2 = some m.cls := findClass_of_methodNamed B.named
  have hlocks := B.notSynchronized
  have hl := lv_entry ([.ref h0]) (n := 1) (Nat.le_of_ble_eq_true rfl)
  rw [lg_entry_eq]
  generalize (lg_sl ([.ref h0]) ++ List.replicate (1 - (lg_sl ([.ref h0])).length) Slot.unset).toArray = ls at hl ⊢
  have hl : lv_has ls 1 [(0, .ref h0)] := hl
  subst hsz
  have hS : va_S A s.heap s.heap [] := va_S.rf
  refine lv_aload_n hx hb dX2_columnCount_0 rfl (lv_at hl 0 rfl) ?_
  refine va_get (D := D) (ci := 2) (fs := [.ref h1, .ref h2, .ref h3, .int (nI n), .int cd]) (v := .int (nI n)) (C := RX2) (T := TX2) (N := 5) hx hb hts (by decide +kernel) hown hK hP 0 rfl rfl 3 (by decide) (hts (.fieldLink RX2 26 "TypedColumns" "created" "I") (by decide +kernel)) (fun _ h9 => h9) rfl dX2_columnCount_1 ?_
  exact W.iret (v := (nI n)) hx hb hr (fun t9 ht9 hW9 => ⟨(nI n), rfl, rfl, ht9⟩) (fun q hq => absurd hq List.not_mem_nil) dX2_columnCount_4
set_option maxHeartbeats 4000000 in
set_option maxRecDepth 100000 in
theorem tX2_count (l : Launch) (D : va_G) (A : Nat → Prop) (cI cJ cD cC : ClassId) (h0 h1 h2 h3 h4 : Nat) (ad wd rd : Nat → Nat) (Y : va_W) (n : Nat) (K : Nat → Int32) (Ln : Nat → Nat) (Wh : Nat → Int64) (Re : Nat → UInt64) (cd : Int32) (ct : Nat → Int32) (sz : Nat) (hI : tcI n K Ln Wh Re) (cx : Int32) (hk : vp_in cx 6) : Met l yX2_count wsX2_count ({ frames := 0, cells := 0, slots := 0, locals := 0 }) (tcP D A (tcTY cI cJ cD cC) sz [.ref h0, .int cx] (tc_T cI cJ cD cC h0 h1 h2 h3 h4 ad wd rd Y n K Ln Wh Re cd ct)) (vp_Si (fun r => r = ct cx.toNatClampNeg)) 0 0 (fun _ => False) := by
  refine Met.ofW (cc := cX2_count) (maxL := 2) (ret := (some .int)) (by decide) rfl ?_
  intro p e s m args below meth c s₁ B hml hv
  obtain ⟨rfl, hsz, hP, hK, hD, hE⟩ := hv
  have hx := B.exec
  have hb := B.bytes
  have hr := B.returns
  have hts := atoms_spec (ws := wsX2_count) B.pre
  have hown : s.vm.findClass RX2 = some m.cls := findClass_of_methodNamed B.named
  have hlocks := B.notSynchronized
  have hl := lv_entry ([.ref h0, .int cx]) (n := 2) (Nat.le_of_ble_eq_true rfl)
  rw [lg_entry_eq]
  generalize (lg_sl ([.ref h0, .int cx]) ++ List.replicate (2 - (lg_sl ([.ref h0, .int cx])).length) Slot.unset).toArray = ls at hl ⊢
  have hl : lv_has ls 2 [(0, .ref h0), (1, .int cx)] := hl
  subst hsz
  have hS : va_S A s.heap s.heap [] := va_S.rf
  refine lv_iload_n hx hb dX2_count_0 rfl (lv_at hl 1 rfl) ?_
  refine lv_if_lt (tgt := 13) hx hb dX2_count_1 (by decide) (fun q => absurd q (vp_in_lo hk)) (fun _ => ?_)
  refine lv_iload_n hx hb dX2_count_4 rfl (lv_at hl 1 rfl) ?_
  refine lv_aload_n hx hb dX2_count_5 rfl (lv_at hl 0 rfl) ?_
  refine va_get (D := D) (ci := 2) (fs := [.ref h1, .ref h2, .ref h3, .int (nI n), .int cd]) (v := .ref h2) (C := RX2) (T := TX2) (N := 5) hx hb hts (by decide +kernel) hown hK hP 0 rfl rfl 1 (by decide) (hts (.fieldLink RX2 15 "TypedColumns" "counts" "[I") (by decide +kernel)) (fun _ h9 => h9) rfl dX2_count_6 ?_
  refine va_alen (v := 6) hx hb hK hP 2 0 rfl rfl rfl dX2_count_9 ?_
  refine lv_icmp_lt (tgt := 23) hx hb dX2_count_10 (by decide) (fun _ => ?_) (fun q => absurd (Int32.not_le.mp (vp_in_hi hk (by decide))) q)
  refine lv_aload_n hx hb dX2_count_23 rfl (lv_at hl 0 rfl) ?_
  refine va_get (D := D) (ci := 2) (fs := [.ref h1, .ref h2, .ref h3, .int (nI n), .int cd]) (v := .ref h2) (C := RX2) (T := TX2) (N := 5) hx hb hts (by decide +kernel) hown hK hP 0 rfl rfl 1 (by decide) (hts (.fieldLink RX2 15 "TypedColumns" "counts" "[I") (by decide +kernel)) (fun _ h9 => h9) rfl dX2_count_24 ?_
  refine lv_iload_n hx hb dX2_count_27 rfl (lv_at hl 1 rfl) ?_
  refine tc_iald (f := ct) (v := (ct cx.toNatClampNeg)) hx hb hK hP 2 0 rfl rfl (hk) rfl dX2_count_28 ?_
  exact W.iret (v := (ct cx.toNatClampNeg)) hx hb hr (fun t9 ht9 hW9 => ⟨(ct cx.toNatClampNeg), rfl, rfl, ht9⟩) (fun q hq => absurd hq List.not_mem_nil) dX2_count_29
set_option maxHeartbeats 4000000 in
set_option maxRecDepth 100000 in
theorem tX2_readAny (l : Launch) (D : va_G) (A : Nat → Prop) (cI cJ cD cC : ClassId) (h0 h1 h2 h3 h4 : Nat) (ad wd rd : Nat → Nat) (Y : va_W) (n : Nat) (K : Nat → Int32) (Ln : Nat → Nat) (Wh : Nat → Int64) (Re : Nat → UInt64) (cd : Int32) (ct : Nat → Int32) (sz : Nat) (hI : tcI n K Ln Wh Re) (j : Nat) (hj : j < n) (i : Int32) : Met l yX2_readAny wsX2_readAny ({ frames := 4, cells := 0, slots := 0, locals := 89 }) (tcP D A (tcTY cI cJ cD cC) sz [.ref h0, .int (nI j), .int i] (tc_T cI cJ cD cC h0 h1 h2 h3 h4 ad wd rd Y n K Ln Wh Re cd ct)) (va_Qd (fun r (_ : Unit) => r = rdR K Ln Wh Re j i (K j)) (fun _ t => tcB D A (tc_T cI cJ cD cC h0 h1 h2 h3 h4 ad wd rd Y n K Ln Wh Re (cdR K Ln j i (K j) (K j)) (noteC ct (cdR K Ln j i (K j) (K j)))) t) A) 0 0 A := by
  refine Met.ofW (cc := cX2_readAny) (maxL := 4) (ret := (some .double)) (by decide) rfl ?_
  intro p e s m args below meth c s₁ B hml hv
  obtain ⟨rfl, hsz, hP, hK, hD, hE⟩ := hv
  have hx := B.exec
  have hb := B.bytes
  have hr := B.returns
  have hts := atoms_spec (ws := wsX2_readAny) B.pre
  have hown : s.vm.findClass RX2 = some m.cls := findClass_of_methodNamed B.named
  have hlocks := B.notSynchronized
  have hl := lv_entry ([.ref h0, .int (nI j), .int i]) (n := 4) (Nat.le_of_ble_eq_true rfl)
  rw [lg_entry_eq]
  generalize (lg_sl ([.ref h0, .int (nI j), .int i]) ++ List.replicate (4 - (lg_sl ([.ref h0, .int (nI j), .int i])).length) Slot.unset).toArray = ls at hl ⊢
  have hl : lv_has ls 4 [(0, .ref h0), (1, .int (nI j)), (2, .int i)] := hl
  subst hsz
  have hS : va_S A s.heap s.heap [] := va_S.rf
  refine lv_aload_n hx hb dX2_readAny_0 rfl (lv_at hl 0 rfl) ?_
  refine lv_iload_n hx hb dX2_readAny_1 rfl (lv_at hl 1 rfl) ?_
  refine va_csr (tc_CR (va_runV (As := [.int (nI j)]) (rest := []) ⟨hx, hb, hml, hown, hts⟩ (tX2_columnAt l D A cI cJ cD cC h0 h1 h2 h3 h4 ad wd rd Y n K Ln Wh Re cd ct s.heap.size hI.1 j hj) (cwV 1 hts gX2_readAny_X2_columnAt rfl rfl rfl (by decide +kernel) ⟨Nat.le_of_ble_eq_true rfl, Nat.le_of_ble_eq_true rfl⟩) ⟨tcP.blind, va_recv hK hP (ci := 2) (q0 := 0) rfl rfl, tcP.go hK hP hD hE hS⟩ rfl rfl hl.1 rfl (lv_room (Nat.le_of_ble_eq_true rfl)) dX2_readAny_2 ⟨Nat.le_of_ble_eq_true rfl, Nat.le_of_ble_eq_true rfl⟩)) (fun _ _ => ?_)
  refine lv_astore_n (lv' := [(3, .ref (ad j)), (0, .ref h0), (1, .int (nI j)), (2, .int i)]) hx hb dX2_readAny_5 rfl hl (by decide) rfl (fun ls hl => ?_)
  refine lv_aload_n hx hb dX2_readAny_6 rfl (lv_at hl 1 rfl) ?_
  refine lv_aload_n hx hb dX2_readAny_7 rfl (lv_at hl 0 rfl) ?_
  refine lv_iload_n hx hb dX2_readAny_8 rfl (lv_at hl 3 rfl) ?_
  refine lv_aload_n hx hb dX2_readAny_9 rfl (lv_at hl 0 rfl) ?_
  refine va_get (D := D) (ci := 0) (fs := [.int (K j), .int (tc_cl (K j) (Ln j)), .ref (wd j), .ref (rd j)]) (v := .int (K j)) (C := RX0) (T := TX0) (N := 4) hx hb hts (by decide +kernel) hown hK hP (5 + (Y.length + (3 * j + 0))) (tc_T0 hj) rfl 0 (by decide) (hts (.fieldLink RX2 66 "TypedColumns$Column" "kind" "I") (by decide +kernel)) (fun _ h9 => h9) rfl dX2_readAny_10 ?_
  refine va_calld (va_runV (As := [.ref (ad j), .int i, .int (K j)]) (rest := []) ⟨hx, hb, hml, hown, hts⟩ (tX2_readReal l D A cI cJ cD cC h0 h1 h2 h3 h4 ad wd rd Y n K Ln Wh Re cd ct s.heap.size hI j hj i (K j)) (cwV 3 hts gX2_readAny_X2_readReal rfl rfl rfl (by decide +kernel) ⟨Nat.le_of_ble_eq_true rfl, Nat.le_of_ble_eq_true rfl⟩) ⟨tcP.blind, (va_recv hK hP (ci := 2) (q0 := 0) rfl rfl), (tcP.go hK hP hD hE hS)⟩ rfl rfl hl.1 rfl (lv_room (Nat.le_of_ble_eq_true rfl)) dX2_readAny_13 ⟨Nat.le_of_ble_eq_true rfl, Nat.le_of_ble_eq_true rfl⟩) hS (fun q _ h => h) (fun q h => h) (fun r_1 u t H locs ht hvm hw hB hz1 hk1 hS => ?_)
  subst hw
  obtain ⟨hP, hD⟩ := hB
  rw [ht] at hP
  exact W.dret (v := (rdR K Ln Wh Re j i (K j))) hx hb hr (fun t9 ht9 hW9 => ⟨⟨(rdR K Ln Wh Re j i (K j)), (), rfl, rfl, by rw [ht9]; exact hP, hD⟩, hS.F ht9⟩) hS.2.2 dX2_readAny_16
set_option maxHeartbeats 4000000 in
set_option maxRecDepth 100000 in
theorem tX2_writeAny_f (l : Launch) (D : va_G) (A : Nat → Prop) (cI cJ cD cC : ClassId) (h0 h1 h2 h3 h4 : Nat) (ad wd rd : Nat → Nat) (Y : va_W) (n : Nat) (K : Nat → Int32) (Ln : Nat → Nat) (Wh : Nat → Int64) (Re : Nat → UInt64) (cd : Int32) (ct : Nat → Int32) (sz : Nat) (hI : tcI n K Ln Wh Re) (j : Nat) (hj : j < n) (i kd v : Int32) (hk : kHas kd = true) (h7 : kd = 7) : Met l yX2_writeAny wsX2_writeAny ({ frames := 4, cells := 0, slots := 0, locals := 91 }) (tcP D A (tcTY cI cJ cD cC) sz [.ref h0, .int (nI j), .int i, .int kd, .int v] (tc_T cI cJ cD cC h0 h1 h2 h3 h4 ad wd rd Y n K Ln Wh Re cd ct)) (va_Qi (fun r (_ : Unit) => r = cdR K Ln j i kd (K j)) (fun _ t => tcB D A (tc_T cI cJ cD cC h0 h1 h2 h3 h4 ad wd rd Y n K Ln Wh (wrX K Ln Re j i kd (FP.f2d (FP.i2f v))) (cdR K Ln j i kd (K j)) (noteC ct (cdR K Ln j i kd (K j)))) t) A) 0 0 A := by
  refine Met.ofW (cc := cX2_writeAny) (maxL := 6) (ret := (some .int)) (by decide) rfl ?_
  intro p e s m args below meth c s₁ B hml hv
  obtain ⟨rfl, hsz, hP, hK, hD, hE⟩ := hv
  have hx := B.exec
  have hb := B.bytes
  have hr := B.returns
  have hts := atoms_spec (ws := wsX2_writeAny) B.pre
  have hown : s.vm.findClass RX2 = some m.cls := findClass_of_methodNamed B.named
  have hlocks := B.notSynchronized
  have hl := lv_entry ([.ref h0, .int (nI j), .int i, .int kd, .int v]) (n := 6) (Nat.le_of_ble_eq_true rfl)
  rw [lg_entry_eq]
  generalize (lg_sl ([.ref h0, .int (nI j), .int i, .int kd, .int v]) ++ List.replicate (6 - (lg_sl ([.ref h0, .int (nI j), .int i, .int kd, .int v])).length) Slot.unset).toArray = ls at hl ⊢
  have hl : lv_has ls 6 [(0, .ref h0), (1, .int (nI j)), (2, .int i), (3, .int kd), (4, .int v)] := hl
  subst hsz
  have hS : va_S A s.heap s.heap [] := va_S.rf
  refine lv_aload_n hx hb dX2_writeAny_0 rfl (lv_at hl 0 rfl) ?_
  refine lv_iload_n hx hb dX2_writeAny_1 rfl (lv_at hl 1 rfl) ?_
  refine va_csr (tc_CR (va_runV (As := [.int (nI j)]) (rest := []) ⟨hx, hb, hml, hown, hts⟩ (tX2_columnAt l D A cI cJ cD cC h0 h1 h2 h3 h4 ad wd rd Y n K Ln Wh Re cd ct s.heap.size hI.1 j hj) (cwV 1 hts gX2_writeAny_X2_columnAt rfl rfl rfl (by decide +kernel) ⟨Nat.le_of_ble_eq_true rfl, Nat.le_of_ble_eq_true rfl⟩) ⟨tcP.blind, va_recv hK hP (ci := 2) (q0 := 0) rfl rfl, tcP.go hK hP hD hE hS⟩ rfl rfl hl.1 rfl (lv_room (Nat.le_of_ble_eq_true rfl)) dX2_writeAny_2 ⟨Nat.le_of_ble_eq_true rfl, Nat.le_of_ble_eq_true rfl⟩)) (fun _ _ => ?_)
  refine lv_astore (lv' := [(5, .ref (ad j)), (0, .ref h0), (1, .int (nI j)), (2, .int i), (3, .int kd), (4, .int v)]) hx hb dX2_writeAny_5 hl (by decide) rfl (fun ls hl => ?_)
  refine lv_iload_n hx hb dX2_writeAny_7 rfl (lv_at hl 4 rfl) ?_
  refine va_csv (tc_CR (va_runS (As := [.int kd]) (rest := []) ⟨hx, hb, hml, hown, hts⟩ (tX2_refuseWithoutCells l D A cI cJ cD cC h0 h1 h2 h3 h4 ad wd rd Y n K Ln Wh Re cd ct s.heap.size kd hk) (va_cwS 1 hts gX2_writeAny_X2_refuseWithoutCells rfl rfl rfl (by decide +kernel) ⟨Nat.le_of_ble_eq_true rfl, Nat.le_of_ble_eq_true rfl⟩) ⟨tcP.blind, (tcP.go hK hP hD hE hS)⟩ rfl rfl hl.1 rfl (lv_room (Nat.le_of_ble_eq_true rfl)) dX2_writeAny_8 ⟨Nat.le_of_ble_eq_true rfl, Nat.le_of_ble_eq_true rfl⟩)) (fun _ => ?_)
  refine lv_iload_n hx hb dX2_writeAny_11 rfl (lv_at hl 4 rfl) ?_
  refine lv_bipush (v := 7) hx hb dX2_writeAny_12 (by decide) ?_
  refine lv_icmp_ne (tgt := 30) hx hb dX2_writeAny_14 (by decide) (fun q => absurd (h7) q) (fun _ => ?_)
  refine lv_aload_n hx hb dX2_writeAny_17 rfl (lv_at hl 1 rfl) ?_
  refine lv_aload hx hb dX2_writeAny_18 (lv_at hl 0 rfl) ?_
  refine lv_iload_n hx hb dX2_writeAny_20 rfl (lv_at hl 3 rfl) ?_
  refine lv_iload_n hx hb dX2_writeAny_21 rfl (lv_at hl 4 rfl) ?_
  refine lv_iload hx hb dX2_writeAny_22 (lv_at hl 5 rfl) ?_
  refine lv_i2f hx hb dX2_writeAny_24 ?_
  refine lv_f2d hx hb dX2_writeAny_25 ((tf_n64 _).mpr (tf_f2d (tf_i2f _))) ?_
  refine va_calli (va_runV (As := [.ref (ad j), .int i, .int kd, .double (FP.f2d (FP.i2f v))]) (rest := []) ⟨hx, hb, hml, hown, hts⟩ (tX2_writeReal l D A cI cJ cD cC h0 h1 h2 h3 h4 ad wd rd Y n K Ln Wh Re cd ct s.heap.size hI j hj i kd (FP.f2d (FP.i2f v)) (by rw [h7]; decide)) (cwV 4 hts gX2_writeAny_X2_writeReal rfl rfl rfl (by decide +kernel) ⟨Nat.le_of_ble_eq_true rfl, Nat.le_of_ble_eq_true rfl⟩) ⟨tcP.blind, (va_recv hK hP (ci := 2) (q0 := 0) rfl rfl), (tcP.go hK hP hD hE hS)⟩ rfl rfl hl.1 rfl (lv_room (Nat.le_of_ble_eq_true rfl)) dX2_writeAny_26 ⟨Nat.le_of_ble_eq_true rfl, Nat.le_of_ble_eq_true rfl⟩) hS (fun q _ h => h) (fun q h => h) (fun r_2 u t H locs ht hvm hw hB hz1 hk1 hS => ?_)
  subst hw
  obtain ⟨hP, hD⟩ := hB
  rw [ht] at hP
  exact W.iret (v := (cdR K Ln j i kd (K j))) hx hb hr (fun t9 ht9 hW9 => ⟨⟨(cdR K Ln j i kd (K j)), (), rfl, rfl, by rw [ht9]; exact hP, hD⟩, hS.F ht9⟩) hS.2.2 dX2_writeAny_29
set_option maxHeartbeats 4000000 in
set_option maxRecDepth 100000 in
theorem tX2_writeAny_d (l : Launch) (D : va_G) (A : Nat → Prop) (cI cJ cD cC : ClassId) (h0 h1 h2 h3 h4 : Nat) (ad wd rd : Nat → Nat) (Y : va_W) (n : Nat) (K : Nat → Int32) (Ln : Nat → Nat) (Wh : Nat → Int64) (Re : Nat → UInt64) (cd : Int32) (ct : Nat → Int32) (sz : Nat) (hI : tcI n K Ln Wh Re) (j : Nat) (hj : j < n) (i kd v : Int32) (hk : kHas kd = true) (h8 : kd = 8) : Met l yX2_writeAny wsX2_writeAny ({ frames := 4, cells := 0, slots := 0, locals := 91 }) (tcP D A (tcTY cI cJ cD cC) sz [.ref h0, .int (nI j), .int i, .int kd, .int v] (tc_T cI cJ cD cC h0 h1 h2 h3 h4 ad wd rd Y n K Ln Wh Re cd ct)) (va_Qi (fun r (_ : Unit) => r = cdR K Ln j i kd (K j)) (fun _ t => tcB D A (tc_T cI cJ cD cC h0 h1 h2 h3 h4 ad wd rd Y n K Ln Wh (wrX K Ln Re j i kd (FP.i2d v)) (cdR K Ln j i kd (K j)) (noteC ct (cdR K Ln j i kd (K j)))) t) A) 0 0 A := by
  refine Met.ofW (cc := cX2_writeAny) (maxL := 6) (ret := (some .int)) (by decide) rfl ?_
  intro p e s m args below meth c s₁ B hml hv
  obtain ⟨rfl, hsz, hP, hK, hD, hE⟩ := hv
  have hx := B.exec
  have hb := B.bytes
  have hr := B.returns
  have hts := atoms_spec (ws := wsX2_writeAny) B.pre
  have hown : s.vm.findClass RX2 = some m.cls := findClass_of_methodNamed B.named
  have hlocks := B.notSynchronized
  have hl := lv_entry ([.ref h0, .int (nI j), .int i, .int kd, .int v]) (n := 6) (Nat.le_of_ble_eq_true rfl)
  rw [lg_entry_eq]
  generalize (lg_sl ([.ref h0, .int (nI j), .int i, .int kd, .int v]) ++ List.replicate (6 - (lg_sl ([.ref h0, .int (nI j), .int i, .int kd, .int v])).length) Slot.unset).toArray = ls at hl ⊢
  have hl : lv_has ls 6 [(0, .ref h0), (1, .int (nI j)), (2, .int i), (3, .int kd), (4, .int v)] := hl
  subst hsz
  have hS : va_S A s.heap s.heap [] := va_S.rf
  refine lv_aload_n hx hb dX2_writeAny_0 rfl (lv_at hl 0 rfl) ?_
  refine lv_iload_n hx hb dX2_writeAny_1 rfl (lv_at hl 1 rfl) ?_
  refine va_csr (tc_CR (va_runV (As := [.int (nI j)]) (rest := []) ⟨hx, hb, hml, hown, hts⟩ (tX2_columnAt l D A cI cJ cD cC h0 h1 h2 h3 h4 ad wd rd Y n K Ln Wh Re cd ct s.heap.size hI.1 j hj) (cwV 1 hts gX2_writeAny_X2_columnAt rfl rfl rfl (by decide +kernel) ⟨Nat.le_of_ble_eq_true rfl, Nat.le_of_ble_eq_true rfl⟩) ⟨tcP.blind, va_recv hK hP (ci := 2) (q0 := 0) rfl rfl, tcP.go hK hP hD hE hS⟩ rfl rfl hl.1 rfl (lv_room (Nat.le_of_ble_eq_true rfl)) dX2_writeAny_2 ⟨Nat.le_of_ble_eq_true rfl, Nat.le_of_ble_eq_true rfl⟩)) (fun _ _ => ?_)
  refine lv_astore (lv' := [(5, .ref (ad j)), (0, .ref h0), (1, .int (nI j)), (2, .int i), (3, .int kd), (4, .int v)]) hx hb dX2_writeAny_5 hl (by decide) rfl (fun ls hl => ?_)
  refine lv_iload_n hx hb dX2_writeAny_7 rfl (lv_at hl 4 rfl) ?_
  refine va_csv (tc_CR (va_runS (As := [.int kd]) (rest := []) ⟨hx, hb, hml, hown, hts⟩ (tX2_refuseWithoutCells l D A cI cJ cD cC h0 h1 h2 h3 h4 ad wd rd Y n K Ln Wh Re cd ct s.heap.size kd hk) (va_cwS 1 hts gX2_writeAny_X2_refuseWithoutCells rfl rfl rfl (by decide +kernel) ⟨Nat.le_of_ble_eq_true rfl, Nat.le_of_ble_eq_true rfl⟩) ⟨tcP.blind, (tcP.go hK hP hD hE hS)⟩ rfl rfl hl.1 rfl (lv_room (Nat.le_of_ble_eq_true rfl)) dX2_writeAny_8 ⟨Nat.le_of_ble_eq_true rfl, Nat.le_of_ble_eq_true rfl⟩)) (fun _ => ?_)
  refine lv_iload_n hx hb dX2_writeAny_11 rfl (lv_at hl 4 rfl) ?_
  refine lv_bipush (v := 7) hx hb dX2_writeAny_12 (by decide) ?_
  refine lv_icmp_ne (tgt := 30) hx hb dX2_writeAny_14 (by decide) (fun _ => ?_) (fun q => absurd q (by rw [h8]; decide))
  refine lv_iload_n hx hb dX2_writeAny_30 rfl (lv_at hl 4 rfl) ?_
  refine lv_bipush (v := 8) hx hb dX2_writeAny_31 (by decide) ?_
  refine lv_icmp_ne (tgt := 48) hx hb dX2_writeAny_33 (by decide) (fun q => absurd (h8) q) (fun _ => ?_)
  refine lv_aload_n hx hb dX2_writeAny_36 rfl (lv_at hl 1 rfl) ?_
  refine lv_aload hx hb dX2_writeAny_37 (lv_at hl 0 rfl) ?_
  refine lv_iload_n hx hb dX2_writeAny_39 rfl (lv_at hl 3 rfl) ?_
  refine lv_iload_n hx hb dX2_writeAny_40 rfl (lv_at hl 4 rfl) ?_
  refine lv_iload hx hb dX2_writeAny_41 (lv_at hl 5 rfl) ?_
  refine lv_i2d hx hb dX2_writeAny_43 ?_
  refine va_calli (va_runV (As := [.ref (ad j), .int i, .int kd, .double (FP.i2d v)]) (rest := []) ⟨hx, hb, hml, hown, hts⟩ (tX2_writeReal l D A cI cJ cD cC h0 h1 h2 h3 h4 ad wd rd Y n K Ln Wh Re cd ct s.heap.size hI j hj i kd (FP.i2d v) (by rw [h8]; decide)) (cwV 4 hts gX2_writeAny_X2_writeReal rfl rfl rfl (by decide +kernel) ⟨Nat.le_of_ble_eq_true rfl, Nat.le_of_ble_eq_true rfl⟩) ⟨tcP.blind, (va_recv hK hP (ci := 2) (q0 := 0) rfl rfl), (tcP.go hK hP hD hE hS)⟩ rfl rfl hl.1 rfl (lv_room (Nat.le_of_ble_eq_true rfl)) dX2_writeAny_44 ⟨Nat.le_of_ble_eq_true rfl, Nat.le_of_ble_eq_true rfl⟩) hS (fun q _ h => h) (fun q h => h) (fun r_3 u t H locs ht hvm hw hB hz1 hk1 hS => ?_)
  subst hw
  obtain ⟨hP, hD⟩ := hB
  rw [ht] at hP
  exact W.iret (v := (cdR K Ln j i kd (K j))) hx hb hr (fun t9 ht9 hW9 => ⟨⟨(cdR K Ln j i kd (K j)), (), rfl, rfl, by rw [ht9]; exact hP, hD⟩, hS.F ht9⟩) hS.2.2 dX2_writeAny_47
set_option maxHeartbeats 4000000 in
set_option maxRecDepth 100000 in
theorem tX2_writeAny_w (l : Launch) (D : va_G) (A : Nat → Prop) (cI cJ cD cC : ClassId) (h0 h1 h2 h3 h4 : Nat) (ad wd rd : Nat → Nat) (Y : va_W) (n : Nat) (K : Nat → Int32) (Ln : Nat → Nat) (Wh : Nat → Int64) (Re : Nat → UInt64) (cd : Int32) (ct : Nat → Int32) (sz : Nat) (hI : tcI n K Ln Wh Re) (j : Nat) (hj : j < n) (i kd v : Int32) (hk : kHas kd = true) (hf : kFl kd = false) : Met l yX2_writeAny wsX2_writeAny ({ frames := 4, cells := 0, slots := 0, locals := 91 }) (tcP D A (tcTY cI cJ cD cC) sz [.ref h0, .int (nI j), .int i, .int kd, .int v] (tc_T cI cJ cD cC h0 h1 h2 h3 h4 ad wd rd Y n K Ln Wh Re cd ct)) (va_Qi (fun r (_ : Unit) => r = cdR K Ln j i kd (K j)) (fun _ t => tcB D A (tc_T cI cJ cD cC h0 h1 h2 h3 h4 ad wd rd Y n K Ln (wrW K Ln Wh j i kd (kMade v kd)) (wrR K Ln Re j i kd (kMade v kd)) (cdR K Ln j i kd (K j)) (noteC ct (cdR K Ln j i kd (K j)))) t) A) 0 0 A := by
  refine Met.ofW (cc := cX2_writeAny) (maxL := 6) (ret := (some .int)) (by decide) rfl ?_
  intro p e s m args below meth c s₁ B hml hv
  obtain ⟨rfl, hsz, hP, hK, hD, hE⟩ := hv
  have hx := B.exec
  have hb := B.bytes
  have hr := B.returns
  have hts := atoms_spec (ws := wsX2_writeAny) B.pre
  have hown : s.vm.findClass RX2 = some m.cls := findClass_of_methodNamed B.named
  have hlocks := B.notSynchronized
  have hl := lv_entry ([.ref h0, .int (nI j), .int i, .int kd, .int v]) (n := 6) (Nat.le_of_ble_eq_true rfl)
  rw [lg_entry_eq]
  generalize (lg_sl ([.ref h0, .int (nI j), .int i, .int kd, .int v]) ++ List.replicate (6 - (lg_sl ([.ref h0, .int (nI j), .int i, .int kd, .int v])).length) Slot.unset).toArray = ls at hl ⊢
  have hl : lv_has ls 6 [(0, .ref h0), (1, .int (nI j)), (2, .int i), (3, .int kd), (4, .int v)] := hl
  subst hsz
  have hS : va_S A s.heap s.heap [] := va_S.rf
  refine lv_aload_n hx hb dX2_writeAny_0 rfl (lv_at hl 0 rfl) ?_
  refine lv_iload_n hx hb dX2_writeAny_1 rfl (lv_at hl 1 rfl) ?_
  refine va_csr (tc_CR (va_runV (As := [.int (nI j)]) (rest := []) ⟨hx, hb, hml, hown, hts⟩ (tX2_columnAt l D A cI cJ cD cC h0 h1 h2 h3 h4 ad wd rd Y n K Ln Wh Re cd ct s.heap.size hI.1 j hj) (cwV 1 hts gX2_writeAny_X2_columnAt rfl rfl rfl (by decide +kernel) ⟨Nat.le_of_ble_eq_true rfl, Nat.le_of_ble_eq_true rfl⟩) ⟨tcP.blind, va_recv hK hP (ci := 2) (q0 := 0) rfl rfl, tcP.go hK hP hD hE hS⟩ rfl rfl hl.1 rfl (lv_room (Nat.le_of_ble_eq_true rfl)) dX2_writeAny_2 ⟨Nat.le_of_ble_eq_true rfl, Nat.le_of_ble_eq_true rfl⟩)) (fun _ _ => ?_)
  refine lv_astore (lv' := [(5, .ref (ad j)), (0, .ref h0), (1, .int (nI j)), (2, .int i), (3, .int kd), (4, .int v)]) hx hb dX2_writeAny_5 hl (by decide) rfl (fun ls hl => ?_)
  refine lv_iload_n hx hb dX2_writeAny_7 rfl (lv_at hl 4 rfl) ?_
  refine va_csv (tc_CR (va_runS (As := [.int kd]) (rest := []) ⟨hx, hb, hml, hown, hts⟩ (tX2_refuseWithoutCells l D A cI cJ cD cC h0 h1 h2 h3 h4 ad wd rd Y n K Ln Wh Re cd ct s.heap.size kd hk) (va_cwS 1 hts gX2_writeAny_X2_refuseWithoutCells rfl rfl rfl (by decide +kernel) ⟨Nat.le_of_ble_eq_true rfl, Nat.le_of_ble_eq_true rfl⟩) ⟨tcP.blind, (tcP.go hK hP hD hE hS)⟩ rfl rfl hl.1 rfl (lv_room (Nat.le_of_ble_eq_true rfl)) dX2_writeAny_8 ⟨Nat.le_of_ble_eq_true rfl, Nat.le_of_ble_eq_true rfl⟩)) (fun _ => ?_)
  refine lv_iload_n hx hb dX2_writeAny_11 rfl (lv_at hl 4 rfl) ?_
  refine lv_bipush (v := 7) hx hb dX2_writeAny_12 (by decide) ?_
  refine lv_icmp_ne (tgt := 30) hx hb dX2_writeAny_14 (by decide) (fun _ => ?_) (fun q => absurd q ((kFl_no hf).1))
  refine lv_iload_n hx hb dX2_writeAny_30 rfl (lv_at hl 4 rfl) ?_
  refine lv_bipush (v := 8) hx hb dX2_writeAny_31 (by decide) ?_
  refine lv_icmp_ne (tgt := 48) hx hb dX2_writeAny_33 (by decide) (fun _ => ?_) (fun q => absurd q ((kFl_no hf).2))
  refine lv_aload_n hx hb dX2_writeAny_48 rfl (lv_at hl 1 rfl) ?_
  refine lv_aload hx hb dX2_writeAny_49 (lv_at hl 0 rfl) ?_
  refine lv_iload_n hx hb dX2_writeAny_51 rfl (lv_at hl 3 rfl) ?_
  refine lv_iload_n hx hb dX2_writeAny_52 rfl (lv_at hl 4 rfl) ?_
  refine lv_iload hx hb dX2_writeAny_53 (lv_at hl 5 rfl) ?_
  refine lv_iload_n hx hb dX2_writeAny_55 rfl (lv_at hl 4 rfl) ?_
  refine vp_callSl (W.runS (As := [.int v, .int kd]) (rest := [.int kd, .int i, .ref (ad j), .ref h0]) ⟨hx, hb, hml, hown, hts⟩ (kX2_wholeMadeFrom l v kd) (va_cwS 2 hts gX2_writeAny_X2_wholeMadeFrom rfl rfl rfl (by decide +kernel) ⟨Nat.le_of_ble_eq_true rfl, Nat.le_of_ble_eq_true rfl⟩) ⟨fun a U g mk q => q, fun U hU hW => ⟨rfl, trivial⟩⟩ rfl rfl hl.1 rfl (lv_room (Nat.le_of_ble_eq_true rfl)) dX2_writeAny_56 ⟨Nat.zero_le _, Nat.zero_le _⟩) (fun r_3 hr_3 => ?_)
  subst hr_3
  refine va_calli (va_runV (As := [.ref (ad j), .int i, .int kd, .long (kMade v kd)]) (rest := []) ⟨hx, hb, hml, hown, hts⟩ (tX2_writeWhole l D A cI cJ cD cC h0 h1 h2 h3 h4 ad wd rd Y n K Ln Wh Re cd ct s.heap.size hI j hj i kd (kMade v kd)) (cwV 4 hts gX2_writeAny_X2_writeWhole rfl rfl rfl (by decide +kernel) ⟨Nat.le_of_ble_eq_true rfl, Nat.le_of_ble_eq_true rfl⟩) ⟨tcP.blind, (va_recv hK hP (ci := 2) (q0 := 0) rfl rfl), (tcP.go hK hP hD hE hS)⟩ rfl rfl hl.1 rfl (lv_room (Nat.le_of_ble_eq_true rfl)) dX2_writeAny_59 ⟨Nat.le_of_ble_eq_true rfl, Nat.le_of_ble_eq_true rfl⟩) hS (fun q _ h => h) (fun q h => h) (fun r_4 u t H locs ht hvm hw hB hz1 hk1 hS => ?_)
  subst hw
  obtain ⟨hP, hD⟩ := hB
  rw [ht] at hP
  exact W.iret (v := (cdR K Ln j i kd (K j))) hx hb hr (fun t9 ht9 hW9 => ⟨⟨(cdR K Ln j i kd (K j)), (), rfl, rfl, by rw [ht9]; exact hP, hD⟩, hS.F ht9⟩) hS.2.2 dX2_writeAny_62
set_option maxHeartbeats 4000000 in
set_option maxRecDepth 100000 in
theorem tX2_copy (l : Launch) (D : va_G) (A : Nat → Prop) (cI cJ cD cC : ClassId) (h0 h1 h2 h3 h4 : Nat) (ad wd rd : Nat → Nat) (Y : va_W) (n : Nat) (K : Nat → Int32) (Ln : Nat → Nat) (Wh : Nat → Int64) (Re : Nat → UInt64) (cd : Int32) (ct : Nat → Int32) (sz : Nat) (hI : tcI n K Ln Wh Re) (j : Nat) (hj : j < n) (j2 : Nat) (hj2 : j2 < n) (fi ti mm : Int32) : Met l yX2_copy wsX2_copy ({ frames := 2, cells := 0, slots := 0, locals := 64 }) (tcP D A (tcTY cI cJ cD cC) sz [.ref h0, .int (nI j), .int fi, .int (nI j2), .int ti, .int mm] (tc_T cI cJ cD cC h0 h1 h2 h3 h4 ad wd rd Y n K Ln Wh Re cd ct)) (va_Qi (fun r (_ : Unit) => r = cpC K Ln j j2 fi ti mm) (fun _ t => tcB D A (tc_T cI cJ cD cC h0 h1 h2 h3 h4 ad wd rd Y n K Ln (cpW K Ln Wh j j2 fi ti mm) (cpW K Ln Re j j2 fi ti mm) (cpC K Ln j j2 fi ti mm) (noteC ct (cpC K Ln j j2 fi ti mm))) t) A) 0 0 A := by
  refine Met.ofW (cc := cX2_copy) (maxL := 9) (ret := (some .int)) (by decide) rfl ?_
  intro p e s m args below meth c s₁ B hml hv
  obtain ⟨rfl, hsz, hP, hK, hD, hE⟩ := hv
  have hx := B.exec
  have hb := B.bytes
  have hr := B.returns
  have hts := atoms_spec (ws := wsX2_copy) B.pre
  have hown : s.vm.findClass RX2 = some m.cls := findClass_of_methodNamed B.named
  have hlocks := B.notSynchronized
  have hl := lv_entry ([.ref h0, .int (nI j), .int fi, .int (nI j2), .int ti, .int mm]) (n := 9) (Nat.le_of_ble_eq_true rfl)
  rw [lg_entry_eq]
  generalize (lg_sl ([.ref h0, .int (nI j), .int fi, .int (nI j2), .int ti, .int mm]) ++ List.replicate (9 - (lg_sl ([.ref h0, .int (nI j), .int fi, .int (nI j2), .int ti, .int mm])).length) Slot.unset).toArray = ls at hl ⊢
  have hl : lv_has ls 9 [(0, .ref h0), (1, .int (nI j)), (2, .int fi), (3, .int (nI j2)), (4, .int ti), (5, .int mm)] := hl
  subst hsz
  have hS : va_S A s.heap s.heap [] := va_S.rf
  refine lv_aload_n hx hb dX2_copy_0 rfl (lv_at hl 0 rfl) ?_
  refine lv_iload_n hx hb dX2_copy_1 rfl (lv_at hl 1 rfl) ?_
  refine va_csr (tc_CR (va_runV (As := [.int (nI j)]) (rest := []) ⟨hx, hb, hml, hown, hts⟩ (tX2_columnAt l D A cI cJ cD cC h0 h1 h2 h3 h4 ad wd rd Y n K Ln Wh Re cd ct s.heap.size hI.1 j hj) (cwV 1 hts gX2_copy_X2_columnAt rfl rfl rfl (by decide +kernel) ⟨Nat.le_of_ble_eq_true rfl, Nat.le_of_ble_eq_true rfl⟩) ⟨tcP.blind, va_recv hK hP (ci := 2) (q0 := 0) rfl rfl, tcP.go hK hP hD hE hS⟩ rfl rfl hl.1 rfl (lv_room (Nat.le_of_ble_eq_true rfl)) dX2_copy_2 ⟨Nat.le_of_ble_eq_true rfl, Nat.le_of_ble_eq_true rfl⟩)) (fun _ _ => ?_)
  refine lv_astore (lv' := [(6, .ref (ad j)), (0, .ref h0), (1, .int (nI j)), (2, .int fi), (3, .int (nI j2)), (4, .int ti), (5, .int mm)]) hx hb dX2_copy_5 hl (by decide) rfl (fun ls hl => ?_)
  refine lv_aload_n hx hb dX2_copy_7 rfl (lv_at hl 1 rfl) ?_
  refine lv_iload_n hx hb dX2_copy_8 rfl (lv_at hl 4 rfl) ?_
  refine va_csr (tc_CR (va_runV (As := [.int (nI j2)]) (rest := []) ⟨hx, hb, hml, hown, hts⟩ (tX2_columnAt l D A cI cJ cD cC h0 h1 h2 h3 h4 ad wd rd Y n K Ln Wh Re cd ct s.heap.size hI.1 j2 hj2) (cwV 1 hts gX2_copy_X2_columnAt rfl rfl rfl (by decide +kernel) ⟨Nat.le_of_ble_eq_true rfl, Nat.le_of_ble_eq_true rfl⟩) ⟨tcP.blind, va_recv hK hP (ci := 2) (q0 := 0) rfl rfl, tcP.go hK hP hD hE hS⟩ rfl rfl hl.1 rfl (lv_room (Nat.le_of_ble_eq_true rfl)) dX2_copy_9 ⟨Nat.le_of_ble_eq_true rfl, Nat.le_of_ble_eq_true rfl⟩)) (fun _ _ => ?_)
  refine lv_astore (lv' := [(7, .ref (ad j2)), (6, .ref (ad j)), (0, .ref h0), (1, .int (nI j)), (2, .int fi), (3, .int (nI j2)), (4, .int ti), (5, .int mm)]) hx hb dX2_copy_12 hl (by decide) rfl (fun ls hl => ?_)
  refine lv_aload hx hb dX2_copy_14 (lv_at hl 1 rfl) ?_
  refine lv_aload hx hb dX2_copy_16 (lv_at hl 0 rfl) ?_
  refine vp_callSi (tc_CR (va_runS (As := [.ref (ad j), .ref (ad j2)]) (rest := []) ⟨hx, hb, hml, hown, hts⟩ (oX2_codeOfKinds l D A cI cJ cD cC (tc_T cI cJ cD cC h0 h1 h2 h3 h4 ad wd rd Y n K Ln Wh Re cd ct) (5 + (Y.length + (3 * j + 0))) (5 + (Y.length + (3 * j + 1))) (5 + (Y.length + (3 * j + 2))) (ad j) (wd j) (rd j) (K j) (tc_cl (K j) (Ln j)) (tc_wl (K j) (Ln j)) (tc_rl (K j) (Ln j)) (tc_sl (tc_wl (K j) (Ln j)) (fun i => Wh (40 * j + i)) 0) (tc_sl (tc_rl (K j) (Ln j)) (fun i => Re (40 * j + i)) 0) s.heap.size (tc_T0 hj) (tc_T1 hj) (tc_T2 hj) (tc_len_lt (hI.2.1 j hj).2.1) (5 + (Y.length + (3 * j2 + 0))) (5 + (Y.length + (3 * j2 + 1))) (5 + (Y.length + (3 * j2 + 2))) (ad j2) (wd j2) (rd j2) (K j2) (tc_cl (K j2) (Ln j2)) (tc_wl (K j2) (Ln j2)) (tc_rl (K j2) (Ln j2)) (tc_sl (tc_wl (K j2) (Ln j2)) (fun i => Wh (40 * j2 + i)) 0) (tc_sl (tc_rl (K j2) (Ln j2)) (fun i => Re (40 * j2 + i)) 0) (tc_T0 hj2) (tc_T1 hj2) (tc_T2 hj2) (tc_len_lt (hI.2.1 j2 hj2).2.1)) (va_cwS 2 hts gX2_copy_X2_codeOfKinds rfl rfl rfl (by decide +kernel) ⟨Nat.le_of_ble_eq_true rfl, Nat.le_of_ble_eq_true rfl⟩) ⟨tcP.blind, (tcP.go hK hP hD hE hS)⟩ rfl rfl hl.1 rfl (lv_room (Nat.le_of_ble_eq_true rfl)) dX2_copy_18 ⟨Nat.le_of_ble_eq_true rfl, Nat.le_of_ble_eq_true rfl⟩)) (fun r_1 hr_1 => ?_)
  subst hr_1
  refine lv_istore (lv' := [(8, .int (kKinds (K j) (K j2))), (7, .ref (ad j2)), (6, .ref (ad j)), (0, .ref h0), (1, .int (nI j)), (2, .int fi), (3, .int (nI j2)), (4, .int ti), (5, .int mm)]) hx hb dX2_copy_21 hl (by decide) rfl (fun ls hl => ?_)
  refine lv_iload hx hb dX2_copy_23 (lv_at hl 0 rfl) ?_
  refine lv_if_ne (tgt := 60) hx hb dX2_copy_25 (by decide) (fun c_2 => ?_) (fun c_2 => ?_)
  · refine lv_iload hx hb dX2_copy_60 (lv_at hl 0 rfl) ?_
    refine lv_if_ne (tgt := 77) hx hb dX2_copy_62 (by decide) (fun _ => ?_) (fun q => absurd q (c_2))
    refine lv_aload_n hx hb dX2_copy_77 rfl (lv_at hl 3 rfl) ?_
    refine lv_iload hx hb dX2_copy_78 (lv_at hl 0 rfl) ?_
    have z : cpC K Ln j j2 fi ti mm = (kKinds (K j) (K j2)) := by unfold cpC; rw [if_neg c_2]
    refine va_calli (va_runV (As := [.int (kKinds (K j) (K j2))]) (rest := []) ⟨hx, hb, hml, hown, hts⟩ (tX2_note l D A cI cJ cD cC h0 h1 h2 h3 h4 ad wd rd Y n K Ln Wh Re cd ct s.heap.size (kKinds (K j) (K j2)) (z ▸ cpC_in K Ln j j2 fi ti mm)) (cwV 1 hts gX2_copy_X2_note rfl rfl rfl (by decide +kernel) ⟨Nat.le_of_ble_eq_true rfl, Nat.le_of_ble_eq_true rfl⟩) ⟨tcP.blind, (va_recv hK hP (ci := 2) (q0 := 0) rfl rfl), (tcP.go hK hP hD hE hS)⟩ rfl rfl hl.1 rfl (lv_room (Nat.le_of_ble_eq_true rfl)) dX2_copy_80 ⟨Nat.le_of_ble_eq_true rfl, Nat.le_of_ble_eq_true rfl⟩) hS (fun q _ h => h) (fun q h => h) (fun r_4 u t H locs ht hvm hw hB hz1 hk1 hS => ?_)
    subst hw
    obtain ⟨hP, hD⟩ := hB
    rw [ht] at hP
    have zn : ¬ cpC K Ln j j2 fi ti mm = 0 := by rw [z]; exact c_2
    have zW : cpW K Ln Wh j j2 fi ti mm = Wh := by unfold cpW; rw [if_neg zn]
    have zR : cpW K Ln Re j j2 fi ti mm = Re := by unfold cpW; rw [if_neg zn]
    have hP : va_P D vwCl (tc_T cI cJ cD cC h0 h1 h2 h3 h4 ad wd rd Y n K Ln (cpW K Ln Wh j j2 fi ti mm) (cpW K Ln Re j j2 fi ti mm) (cpC K Ln j j2 fi ti mm) (noteC ct (cpC K Ln j j2 fi ti mm))) H := by rw [zW, zR, z]; exact hP
    have hD : va_D A (tc_T cI cJ cD cC h0 h1 h2 h3 h4 ad wd rd Y n K Ln (cpW K Ln Wh j j2 fi ti mm) (cpW K Ln Re j j2 fi ti mm) (cpC K Ln j j2 fi ti mm) (noteC ct (cpC K Ln j j2 fi ti mm))) := by rw [zW, zR, z]; exact hD
    exact W.iret (v := (kKinds (K j) (K j2))) hx hb hr (fun t9 ht9 hW9 => ⟨⟨(kKinds (K j) (K j2)), (), rfl, z.symm, by rw [ht9]; exact hP, hD⟩, hS.F ht9⟩) hS.2.2 dX2_copy_83
  · refine lv_iload_n hx hb dX2_copy_28 rfl (lv_at hl 5 rfl) ?_
    refine lv_iload hx hb dX2_copy_29 (lv_at hl 8 rfl) ?_
    refine lv_aload hx hb dX2_copy_31 (lv_at hl 2 rfl) ?_
    refine va_get (D := D) (ci := 0) (fs := [.int (K j), .int (tc_cl (K j) (Ln j)), .ref (wd j), .ref (rd j)]) (v := .int (tc_cl (K j) (Ln j))) (C := RX0) (T := TX0) (N := 4) hx hb hts (by decide +kernel) hown hK hP (5 + (Y.length + (3 * j + 0))) (tc_T0 hj) rfl 1 (by decide) (hts (.fieldLink RX2 76 "TypedColumns$Column" "length" "I") (by decide +kernel)) (fun _ h9 => h9) rfl dX2_copy_33 ?_
    refine vp_callSi (W.runS (As := [.int fi, .int mm, .int (tc_cl (K j) (Ln j))]) (rest := []) ⟨hx, hb, hml, hown, hts⟩ (kX2_isPart l fi mm (tc_cl (K j) (Ln j))) (va_cwS 3 hts gX2_copy_X2_isPart rfl rfl rfl (by decide +kernel) ⟨Nat.le_of_ble_eq_true rfl, Nat.le_of_ble_eq_true rfl⟩) ⟨fun a U g mk q => q, fun U hU hW => ⟨rfl, trivial⟩⟩ rfl rfl hl.1 rfl (lv_room (Nat.le_of_ble_eq_true rfl)) dX2_copy_36 ⟨Nat.zero_le _, Nat.zero_le _⟩) (fun r_5 hr_5 => ?_)
    subst hr_5
    refine lv_if_eq (tgt := 57) hx hb dX2_copy_39 (by decide) (fun c_6 => ?_) (fun c_6 => ?_)
    · refine lv_iconst (v := 3) hx hb dX2_copy_57 (by decide) ?_
      refine lv_istore (lv' := [(8, .int 3), (7, .ref (ad j2)), (6, .ref (ad j)), (0, .ref h0), (1, .int (nI j)), (2, .int fi), (3, .int (nI j2)), (4, .int ti), (5, .int mm)]) hx hb dX2_copy_58 hl (by decide) rfl (fun ls hl => ?_)
      refine lv_iload hx hb dX2_copy_60 (lv_at hl 0 rfl) ?_
      refine lv_if_ne (tgt := 77) hx hb dX2_copy_62 (by decide) (fun _ => ?_) (fun q => absurd q (by decide))
      refine lv_aload_n hx hb dX2_copy_77 rfl (lv_at hl 3 rfl) ?_
      refine lv_iload hx hb dX2_copy_78 (lv_at hl 0 rfl) ?_
      have z : cpC K Ln j j2 fi ti mm = 3 := by unfold cpC; rw [if_pos c_2, if_neg (by rw [(tb_0 _).mp c_6]; decide)]
      refine va_calli (va_runV (As := [.int 3]) (rest := []) ⟨hx, hb, hml, hown, hts⟩ (tX2_note l D A cI cJ cD cC h0 h1 h2 h3 h4 ad wd rd Y n K Ln Wh Re cd ct s.heap.size 3 (z ▸ cpC_in K Ln j j2 fi ti mm)) (cwV 1 hts gX2_copy_X2_note rfl rfl rfl (by decide +kernel) ⟨Nat.le_of_ble_eq_true rfl, Nat.le_of_ble_eq_true rfl⟩) ⟨tcP.blind, (va_recv hK hP (ci := 2) (q0 := 0) rfl rfl), (tcP.go hK hP hD hE hS)⟩ rfl rfl hl.1 rfl (lv_room (Nat.le_of_ble_eq_true rfl)) dX2_copy_80 ⟨Nat.le_of_ble_eq_true rfl, Nat.le_of_ble_eq_true rfl⟩) hS (fun q _ h => h) (fun q h => h) (fun r_8 u t H locs ht hvm hw hB hz1 hk1 hS => ?_)
      subst hw
      obtain ⟨hP, hD⟩ := hB
      rw [ht] at hP
      have zn : ¬ cpC K Ln j j2 fi ti mm = 0 := by rw [z]; exact (by decide)
      have zW : cpW K Ln Wh j j2 fi ti mm = Wh := by unfold cpW; rw [if_neg zn]
      have zR : cpW K Ln Re j j2 fi ti mm = Re := by unfold cpW; rw [if_neg zn]
      have hP : va_P D vwCl (tc_T cI cJ cD cC h0 h1 h2 h3 h4 ad wd rd Y n K Ln (cpW K Ln Wh j j2 fi ti mm) (cpW K Ln Re j j2 fi ti mm) (cpC K Ln j j2 fi ti mm) (noteC ct (cpC K Ln j j2 fi ti mm))) H := by rw [zW, zR, z]; exact hP
      have hD : va_D A (tc_T cI cJ cD cC h0 h1 h2 h3 h4 ad wd rd Y n K Ln (cpW K Ln Wh j j2 fi ti mm) (cpW K Ln Re j j2 fi ti mm) (cpC K Ln j j2 fi ti mm) (noteC ct (cpC K Ln j j2 fi ti mm))) := by rw [zW, zR, z]; exact hD
      exact W.iret (v := 3) hx hb hr (fun t9 ht9 hW9 => ⟨⟨3, (), rfl, z.symm, by rw [ht9]; exact hP, hD⟩, hS.F ht9⟩) hS.2.2 dX2_copy_83
    · refine lv_iload hx hb dX2_copy_42 (lv_at hl 7 rfl) ?_
      refine lv_iload hx hb dX2_copy_44 (lv_at hl 8 rfl) ?_
      refine lv_aload hx hb dX2_copy_46 (lv_at hl 1 rfl) ?_
      refine va_get (D := D) (ci := 0) (fs := [.int (K j2), .int (tc_cl (K j2) (Ln j2)), .ref (wd j2), .ref (rd j2)]) (v := .int (tc_cl (K j2) (Ln j2))) (C := RX0) (T := TX0) (N := 4) hx hb hts (by decide +kernel) hown hK hP (5 + (Y.length + (3 * j2 + 0))) (tc_T0 hj2) rfl 1 (by decide) (hts (.fieldLink RX2 76 "TypedColumns$Column" "length" "I") (by decide +kernel)) (fun _ h9 => h9) rfl dX2_copy_48 ?_
      refine vp_callSi (W.runS (As := [.int ti, .int mm, .int (tc_cl (K j2) (Ln j2))]) (rest := []) ⟨hx, hb, hml, hown, hts⟩ (kX2_isPart l ti mm (tc_cl (K j2) (Ln j2))) (va_cwS 3 hts gX2_copy_X2_isPart rfl rfl rfl (by decide +kernel) ⟨Nat.le_of_ble_eq_true rfl, Nat.le_of_ble_eq_true rfl⟩) ⟨fun a U g mk q => q, fun U hU hW => ⟨rfl, trivial⟩⟩ rfl rfl hl.1 rfl (lv_room (Nat.le_of_ble_eq_true rfl)) dX2_copy_51 ⟨Nat.zero_le _, Nat.zero_le _⟩) (fun r_9 hr_9 => ?_)
      subst hr_9
      refine lv_if_ne (tgt := 60) hx hb dX2_copy_54 (by decide) (fun c_10 => ?_) (fun c_10 => ?_)
      · refine lv_iload hx hb dX2_copy_60 (lv_at hl 0 rfl) ?_
        refine lv_if_ne (tgt := 77) hx hb dX2_copy_62 (by decide) (fun q => absurd (c_2) q) (fun _ => ?_)
        refine lv_aload hx hb dX2_copy_65 (lv_at hl 1 rfl) ?_
        refine lv_aload hx hb dX2_copy_67 (lv_at hl 2 rfl) ?_
        refine lv_iload_n hx hb dX2_copy_69 rfl (lv_at hl 5 rfl) ?_
        refine lv_iload hx hb dX2_copy_70 (lv_at hl 7 rfl) ?_
        refine lv_iload hx hb dX2_copy_72 (lv_at hl 8 rfl) ?_
        have z : cpC K Ln j j2 fi ti mm = (kKinds (K j) (K j2)) := by unfold cpC; rw [if_pos c_2, if_pos ((tb_1 _).mp c_6), if_pos ((tb_1 _).mp c_10), c_2]
        have zc : cpC K Ln j j2 fi ti mm = 0 := z.trans c_2
        refine va_callv (va_runV (As := [.ref (ad j), .int fi, .int ti, .int mm]) (rest := []) ⟨hx, hb, hml, hown, hts⟩ (oX0_takeCells l D A cI cJ cD cC (tc_T cI cJ cD cC h0 h1 h2 h3 h4 ad wd rd Y n K Ln Wh Re cd ct) (5 + (Y.length + (3 * j2 + 0))) (5 + (Y.length + (3 * j2 + 1))) (5 + (Y.length + (3 * j2 + 2))) (ad j2) (wd j2) (rd j2) (K j2) (tc_cl (K j2) (Ln j2)) (tc_wl (K j2) (Ln j2)) (tc_rl (K j2) (Ln j2)) (tc_sl (tc_wl (K j2) (Ln j2)) (fun i => Wh (40 * j2 + i)) 0) (tc_sl (tc_rl (K j2) (Ln j2)) (fun i => Re (40 * j2 + i)) 0) s.heap.size (tc_T0 hj2) (tc_T1 hj2) (tc_T2 hj2) (tc_len_lt (hI.2.1 j2 hj2).2.1) (5 + (Y.length + (3 * j + 0))) (5 + (Y.length + (3 * j + 1))) (5 + (Y.length + (3 * j + 2))) (ad j) (wd j) (rd j) (K j) (tc_cl (K j) (Ln j)) (tc_wl (K j) (Ln j)) (tc_rl (K j) (Ln j)) (tc_sl (tc_wl (K j) (Ln j)) (fun i => Wh (40 * j + i)) 0) (tc_sl (tc_rl (K j) (Ln j)) (fun i => Re (40 * j + i)) 0) (tc_T0 hj) (tc_T1 hj) (tc_T2 hj) (tc_len_lt (hI.2.1 j hj).2.1) fi ti mm ⟨by omega, by omega, by omega, by omega⟩) (cwV 4 hts gX2_copy_X0_takeCells rfl rfl rfl (by decide +kernel) ⟨Nat.le_of_ble_eq_true rfl, Nat.le_of_ble_eq_true rfl⟩) ⟨tcP.blind, (va_recv hK hP (ci := 0) (q0 := (5 + (Y.length + (3 * j2 + 0)))) rfl (tc_T0 hj2)), (tcP.go hK hP hD hE hS)⟩ rfl rfl hl.1 rfl (lv_room (Nat.le_of_ble_eq_true rfl)) dX2_copy_74 ⟨Nat.le_of_ble_eq_true rfl, Nat.le_of_ble_eq_true rfl⟩) hS (fun q _ h => h) (fun q h => h) (fun u t H locs ht hvm hw hB hz1 hk1 hS => ?_)
        obtain ⟨hP, hD⟩ := hB
        rw [ht] at hP
        rw [tc_T_cp hj hj2 (fun k hk => ⟨(hI.2.1 k hk).1, (hI.2.1 k hk).2.1⟩) zc] at hP hD
        refine lv_aload_n hx hb dX2_copy_77 rfl (lv_at hl 3 rfl) ?_
        refine lv_iload hx hb dX2_copy_78 (lv_at hl 0 rfl) ?_
        refine va_calli (va_runV (As := [.int (kKinds (K j) (K j2))]) (rest := []) ⟨hx, hb, hml, hown, hts⟩ (tX2_note l D A cI cJ cD cC h0 h1 h2 h3 h4 ad wd rd Y n K Ln (cpW K Ln Wh j j2 fi ti mm) (cpW K Ln Re j j2 fi ti mm) cd ct H.size (kKinds (K j) (K j2)) (z ▸ cpC_in K Ln j j2 fi ti mm)) (cwV 1 hts gX2_copy_X2_note rfl rfl rfl (by decide +kernel) ⟨Nat.le_of_ble_eq_true rfl, Nat.le_of_ble_eq_true rfl⟩) ⟨tcP.blind, (va_recv hK hP (ci := 2) (q0 := 0) rfl rfl), (tcP.go hK hP hD hE hS)⟩ rfl rfl hl.1 rfl (lv_room (Nat.le_of_ble_eq_true rfl)) dX2_copy_80 ⟨Nat.le_of_ble_eq_true rfl, Nat.le_of_ble_eq_true rfl⟩) hS (fun q _ h => h) (fun q h => h) (fun r_13 u t H locs ht hvm hw hB hz1 hk1 hS => ?_)
        subst hw
        obtain ⟨hP, hD⟩ := hB
        rw [ht] at hP
        have hP : va_P D vwCl (tc_T cI cJ cD cC h0 h1 h2 h3 h4 ad wd rd Y n K Ln (cpW K Ln Wh j j2 fi ti mm) (cpW K Ln Re j j2 fi ti mm) (cpC K Ln j j2 fi ti mm) (noteC ct (cpC K Ln j j2 fi ti mm))) H := by rw [z]; exact hP
        have hD : va_D A (tc_T cI cJ cD cC h0 h1 h2 h3 h4 ad wd rd Y n K Ln (cpW K Ln Wh j j2 fi ti mm) (cpW K Ln Re j j2 fi ti mm) (cpC K Ln j j2 fi ti mm) (noteC ct (cpC K Ln j j2 fi ti mm))) := by rw [z]; exact hD
        exact W.iret (v := (kKinds (K j) (K j2))) hx hb hr (fun t9 ht9 hW9 => ⟨⟨(kKinds (K j) (K j2)), (), rfl, z.symm, by rw [ht9]; exact hP, hD⟩, hS.F ht9⟩) hS.2.2 dX2_copy_83
      · refine lv_iconst (v := 3) hx hb dX2_copy_57 (by decide) ?_
        refine lv_istore (lv' := [(8, .int 3), (7, .ref (ad j2)), (6, .ref (ad j)), (0, .ref h0), (1, .int (nI j)), (2, .int fi), (3, .int (nI j2)), (4, .int ti), (5, .int mm)]) hx hb dX2_copy_58 hl (by decide) rfl (fun ls hl => ?_)
        refine lv_iload hx hb dX2_copy_60 (lv_at hl 0 rfl) ?_
        refine lv_if_ne (tgt := 77) hx hb dX2_copy_62 (by decide) (fun _ => ?_) (fun q => absurd q (by decide))
        refine lv_aload_n hx hb dX2_copy_77 rfl (lv_at hl 3 rfl) ?_
        refine lv_iload hx hb dX2_copy_78 (lv_at hl 0 rfl) ?_
        have z : cpC K Ln j j2 fi ti mm = 3 := by unfold cpC; rw [if_pos c_2, if_pos ((tb_1 _).mp c_6), if_neg (by rw [(tb_0 _).mp c_10]; decide)]
        refine va_calli (va_runV (As := [.int 3]) (rest := []) ⟨hx, hb, hml, hown, hts⟩ (tX2_note l D A cI cJ cD cC h0 h1 h2 h3 h4 ad wd rd Y n K Ln Wh Re cd ct s.heap.size 3 (z ▸ cpC_in K Ln j j2 fi ti mm)) (cwV 1 hts gX2_copy_X2_note rfl rfl rfl (by decide +kernel) ⟨Nat.le_of_ble_eq_true rfl, Nat.le_of_ble_eq_true rfl⟩) ⟨tcP.blind, (va_recv hK hP (ci := 2) (q0 := 0) rfl rfl), (tcP.go hK hP hD hE hS)⟩ rfl rfl hl.1 rfl (lv_room (Nat.le_of_ble_eq_true rfl)) dX2_copy_80 ⟨Nat.le_of_ble_eq_true rfl, Nat.le_of_ble_eq_true rfl⟩) hS (fun q _ h => h) (fun q h => h) (fun r_15 u t H locs ht hvm hw hB hz1 hk1 hS => ?_)
        subst hw
        obtain ⟨hP, hD⟩ := hB
        rw [ht] at hP
        have zn : ¬ cpC K Ln j j2 fi ti mm = 0 := by rw [z]; exact (by decide)
        have zW : cpW K Ln Wh j j2 fi ti mm = Wh := by unfold cpW; rw [if_neg zn]
        have zR : cpW K Ln Re j j2 fi ti mm = Re := by unfold cpW; rw [if_neg zn]
        have hP : va_P D vwCl (tc_T cI cJ cD cC h0 h1 h2 h3 h4 ad wd rd Y n K Ln (cpW K Ln Wh j j2 fi ti mm) (cpW K Ln Re j j2 fi ti mm) (cpC K Ln j j2 fi ti mm) (noteC ct (cpC K Ln j j2 fi ti mm))) H := by rw [zW, zR, z]; exact hP
        have hD : va_D A (tc_T cI cJ cD cC h0 h1 h2 h3 h4 ad wd rd Y n K Ln (cpW K Ln Wh j j2 fi ti mm) (cpW K Ln Re j j2 fi ti mm) (cpC K Ln j j2 fi ti mm) (noteC ct (cpC K Ln j j2 fi ti mm))) := by rw [zW, zR, z]; exact hD
        exact W.iret (v := 3) hx hb hr (fun t9 ht9 hW9 => ⟨⟨3, (), rfl, z.symm, by rw [ht9]; exact hP, hD⟩, hS.F ht9⟩) hS.2.2 dX2_copy_83
set_option maxHeartbeats 4000000 in
set_option maxRecDepth 100000 in
theorem tX2_total (l : Launch) (D : va_G) (A : Nat → Prop) (cI cJ cD cC : ClassId) (h0 h1 h2 h3 h4 : Nat) (ad wd rd : Nat → Nat) (Y : va_W) (n : Nat) (K : Nat → Int32) (Ln : Nat → Nat) (Wh : Nat → Int64) (Re : Nat → UInt64) (cd : Int32) (ct : Nat → Int32) (sz : Nat) (hI : tcI n K Ln Wh Re) (j : Nat) (hj : j < n)  : Met l yX2_total wsX2_total ({ frames := 3, cells := 0, slots := 0, locals := 67 }) (tcP D A (tcTY cI cJ cD cC) sz [.ref h0, .int (nI j)] (tc_T cI cJ cD cC h0 h1 h2 h3 h4 ad wd rd Y n K Ln Wh Re cd ct)) (va_Qd (fun r (_ : Unit) => r = tot K Ln Wh Re j) (fun _ t => tcB D A (tc_T cI cJ cD cC h0 h1 h2 h3 h4 ad wd rd Y n K Ln Wh Re (kCol (K j)) (noteC ct (kCol (K j)))) t) A) 0 0 A := by
  refine Met.ofW (cc := cX2_total) (maxL := 4) (ret := (some .double)) (by decide) rfl ?_
  intro p e s m args below meth c s₁ B hml hv
  obtain ⟨rfl, hsz, hP, hK, hD, hE⟩ := hv
  have hx := B.exec
  have hb := B.bytes
  have hr := B.returns
  have hts := atoms_spec (ws := wsX2_total) B.pre
  have hown : s.vm.findClass RX2 = some m.cls := findClass_of_methodNamed B.named
  have hlocks := B.notSynchronized
  have hl := lv_entry ([.ref h0, .int (nI j)]) (n := 4) (Nat.le_of_ble_eq_true rfl)
  rw [lg_entry_eq]
  generalize (lg_sl ([.ref h0, .int (nI j)]) ++ List.replicate (4 - (lg_sl ([.ref h0, .int (nI j)])).length) Slot.unset).toArray = ls at hl ⊢
  have hl : lv_has ls 4 [(0, .ref h0), (1, .int (nI j))] := hl
  subst hsz
  have hS : va_S A s.heap s.heap [] := va_S.rf
  refine lv_aload_n hx hb dX2_total_0 rfl (lv_at hl 0 rfl) ?_
  refine lv_iload_n hx hb dX2_total_1 rfl (lv_at hl 1 rfl) ?_
  refine va_csr (tc_CR (va_runV (As := [.int (nI j)]) (rest := []) ⟨hx, hb, hml, hown, hts⟩ (tX2_columnAt l D A cI cJ cD cC h0 h1 h2 h3 h4 ad wd rd Y n K Ln Wh Re cd ct s.heap.size hI.1 j hj) (cwV 1 hts gX2_total_X2_columnAt rfl rfl rfl (by decide +kernel) ⟨Nat.le_of_ble_eq_true rfl, Nat.le_of_ble_eq_true rfl⟩) ⟨tcP.blind, va_recv hK hP (ci := 2) (q0 := 0) rfl rfl, tcP.go hK hP hD hE hS⟩ rfl rfl hl.1 rfl (lv_room (Nat.le_of_ble_eq_true rfl)) dX2_total_2 ⟨Nat.le_of_ble_eq_true rfl, Nat.le_of_ble_eq_true rfl⟩)) (fun _ _ => ?_)
  refine lv_astore_n (lv' := [(2, .ref (ad j)), (0, .ref h0), (1, .int (nI j))]) hx hb dX2_total_5 rfl hl (by decide) rfl (fun ls hl => ?_)
  refine lv_aload_n hx hb dX2_total_6 rfl (lv_at hl 1 rfl) ?_
  refine lv_aload_n hx hb dX2_total_7 rfl (lv_at hl 0 rfl) ?_
  refine vp_callSi (tc_CR (va_runS (As := [.ref (ad j)]) (rest := [.ref h0]) ⟨hx, hb, hml, hown, hts⟩ (oX2_codeOfColumn l D A cI cJ cD cC (tc_T cI cJ cD cC h0 h1 h2 h3 h4 ad wd rd Y n K Ln Wh Re cd ct) (5 + (Y.length + (3 * j + 0))) (5 + (Y.length + (3 * j + 1))) (5 + (Y.length + (3 * j + 2))) (ad j) (wd j) (rd j) (K j) (tc_cl (K j) (Ln j)) (tc_wl (K j) (Ln j)) (tc_rl (K j) (Ln j)) (tc_sl (tc_wl (K j) (Ln j)) (fun i => Wh (40 * j + i)) 0) (tc_sl (tc_rl (K j) (Ln j)) (fun i => Re (40 * j + i)) 0) s.heap.size (tc_T0 hj) (tc_T1 hj) (tc_T2 hj) (tc_len_lt (hI.2.1 j hj).2.1)) (va_cwS 1 hts gX2_total_X2_codeOfColumn rfl rfl rfl (by decide +kernel) ⟨Nat.le_of_ble_eq_true rfl, Nat.le_of_ble_eq_true rfl⟩) ⟨tcP.blind, (tcP.go hK hP hD hE hS)⟩ rfl rfl hl.1 rfl (lv_room (Nat.le_of_ble_eq_true rfl)) dX2_total_8 ⟨Nat.le_of_ble_eq_true rfl, Nat.le_of_ble_eq_true rfl⟩)) (fun r_1 hr_1 => ?_)
  subst hr_1
  refine va_calli (va_runV (As := [.int (kCol (K j))]) (rest := []) ⟨hx, hb, hml, hown, hts⟩ (tX2_note l D A cI cJ cD cC h0 h1 h2 h3 h4 ad wd rd Y n K Ln Wh Re cd ct s.heap.size (kCol (K j)) (kCol_in _)) (cwV 1 hts gX2_total_X2_note rfl rfl rfl (by decide +kernel) ⟨Nat.le_of_ble_eq_true rfl, Nat.le_of_ble_eq_true rfl⟩) ⟨tcP.blind, (va_recv hK hP (ci := 2) (q0 := 0) rfl rfl), (tcP.go hK hP hD hE hS)⟩ rfl rfl hl.1 rfl (lv_room (Nat.le_of_ble_eq_true rfl)) dX2_total_11 ⟨Nat.le_of_ble_eq_true rfl, Nat.le_of_ble_eq_true rfl⟩) hS (fun q _ h => h) (fun q h => h) (fun r_2 u t H locs ht hvm hw hB hz1 hk1 hS => ?_)
  subst hw
  obtain ⟨hP, hD⟩ := hB
  rw [ht] at hP
  refine lv_istore_n (lv' := [(3, .int (kCol (K j))), (2, .ref (ad j)), (0, .ref h0), (1, .int (nI j))]) hx hb dX2_total_14 rfl hl (by decide) rfl (fun ls hl => ?_)
  refine lv_iload_n hx hb dX2_total_15 rfl (lv_at hl 0 rfl) ?_
  refine lv_if_ne (tgt := 26) hx hb dX2_total_16 (by decide) (fun c_3 => ?_) (fun c_3 => ?_)
  · refine lv_dconst0 hx hb dX2_total_26 ?_
    exact W.dret (v := FP.dconst0) hx hb hr (fun t9 ht9 hW9 => ⟨⟨FP.dconst0, (), rfl, by unfold tot; rw [if_neg c_3]; rfl, by rw [ht9]; exact hP, hD⟩, hS.F ht9⟩) hS.2.2 dX2_total_27
  · refine lv_aload_n hx hb dX2_total_19 rfl (lv_at hl 1 rfl) ?_
    cases gf : kFl (K j)
    · have gl : tc_cl (K j) (Ln j) = nI (tc_wl (K j) (Ln j)) := by rw [tc_cl_has (kCol_has (hI.2.1 j hj).1 c_3), tc_wl_n gf]
      refine vp_callSd (tc_CR (va_runV (As := []) (rest := []) ⟨hx, hb, hml, hown, hts⟩ (oX0_sum_w l D A cI cJ cD cC (tc_T cI cJ cD cC h0 h1 h2 h3 h4 ad wd rd Y n K Ln Wh Re (kCol (K j)) (noteC ct (kCol (K j)))) (5 + (Y.length + (3 * j + 0))) (5 + (Y.length + (3 * j + 1))) (5 + (Y.length + (3 * j + 2))) (ad j) (wd j) (rd j) (K j) (tc_cl (K j) (Ln j)) (tc_wl (K j) (Ln j)) (tc_rl (K j) (Ln j)) (tc_sl (tc_wl (K j) (Ln j)) (fun i => Wh (40 * j + i)) 0) (tc_sl (tc_rl (K j) (Ln j)) (fun i => Re (40 * j + i)) 0) H.size (tc_T0 hj) (tc_T1 hj) (tc_T2 hj) (tc_len_lt (hI.2.1 j hj).2.1) gf gl) (cwV 0 hts gX2_total_X0_sum rfl rfl rfl (by decide +kernel) ⟨Nat.le_of_ble_eq_true rfl, Nat.le_of_ble_eq_true rfl⟩) ⟨tcP.blind, (va_recv hK hP (ci := 0) (q0 := (5 + (Y.length + (3 * j + 0)))) rfl (tc_T0 hj)), (tcP.go hK hP hD hE hS)⟩ rfl rfl hl.1 rfl (lv_room (Nat.le_of_ble_eq_true rfl)) dX2_total_20 ⟨Nat.le_of_ble_eq_true rfl, Nat.le_of_ble_eq_true rfl⟩)) (fun r_4 hr_4 => ?_)
      subst hr_4
      rw [tot_w c_3 gf]
      refine lv_goto (tgt := 27) hx hb dX2_total_23 (by decide) ?_
      exact W.dret (v := (tot K Ln Wh Re j)) hx hb hr (fun t9 ht9 hW9 => ⟨⟨(tot K Ln Wh Re j), (), rfl, rfl, by rw [ht9]; exact hP, hD⟩, hS.F ht9⟩) hS.2.2 dX2_total_27
    · have gl : tc_cl (K j) (Ln j) = nI (tc_rl (K j) (Ln j)) := by rw [tc_cl_has (kFl_has gf), tc_rl_n gf]
      refine vp_callSd (tc_CR (va_runV (As := []) (rest := []) ⟨hx, hb, hml, hown, hts⟩ (oX0_sum_r l D A cI cJ cD cC (tc_T cI cJ cD cC h0 h1 h2 h3 h4 ad wd rd Y n K Ln Wh Re (kCol (K j)) (noteC ct (kCol (K j)))) (5 + (Y.length + (3 * j + 0))) (5 + (Y.length + (3 * j + 1))) (5 + (Y.length + (3 * j + 2))) (ad j) (wd j) (rd j) (K j) (tc_cl (K j) (Ln j)) (tc_wl (K j) (Ln j)) (tc_rl (K j) (Ln j)) (tc_sl (tc_wl (K j) (Ln j)) (fun i => Wh (40 * j + i)) 0) (tc_sl (tc_rl (K j) (Ln j)) (fun i => Re (40 * j + i)) 0) H.size (tc_T0 hj) (tc_T1 hj) (tc_T2 hj) (tc_len_lt (hI.2.1 j hj).2.1) gf gl) (cwV 0 hts gX2_total_X0_sum rfl rfl rfl (by decide +kernel) ⟨Nat.le_of_ble_eq_true rfl, Nat.le_of_ble_eq_true rfl⟩) ⟨tcP.blind, (va_recv hK hP (ci := 0) (q0 := (5 + (Y.length + (3 * j + 0)))) rfl (tc_T0 hj)), (tcP.go hK hP hD hE hS)⟩ rfl rfl hl.1 rfl (lv_room (Nat.le_of_ble_eq_true rfl)) dX2_total_20 ⟨Nat.le_of_ble_eq_true rfl, Nat.le_of_ble_eq_true rfl⟩)) (fun r_5 hr_5 => ?_)
      subst hr_5
      rw [tot_r c_3 gf]
      refine lv_goto (tgt := 27) hx hb dX2_total_23 (by decide) ?_
      exact W.dret (v := (tot K Ln Wh Re j)) hx hb hr (fun t9 ht9 hW9 => ⟨⟨(tot K Ln Wh Re j), (), rfl, rfl, by rw [ht9]; exact hP, hD⟩, hS.F ht9⟩) hS.2.2 dX2_total_27
