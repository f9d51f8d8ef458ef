/-! THE CLASS: its public methods, over the world of a state (valid calls) -/
def kNum (k : Int32) : Bool := decide (k = 2) || (!decide (k < 4) && !decide (8 < k))
theorem tc_rl_pos {k : Int32} {n i : Nat} (h : i < tc_rl k n) : kFl k = true ∧ i < n := by
  unfold tc_rl at h
  cases q : kFl k
  · rw [if_neg (by rw [q]; decide)] at h; omega
  · rw [if_pos q] at h; exact ⟨rfl, h⟩
theorem tc_wl_pos {k : Int32} {n i : Nat} (h : i < tc_wl k n) : kFl k = false ∧ i < n := by
  unfold tc_wl at h
  cases q : kFl k
  · rw [if_neg (by rw [q]; decide)] at h; exact ⟨rfl, h⟩
  · rw [if_pos q] at h; omega
set_option maxHeartbeats 4000000 in
set_option maxRecDepth 100000 in
theorem tX2_code (l : Launch) (D : va_G) (A : Nat → Prop) (cI cJ cD cC : ClassId) (h0 h1 h2 h3 h4 : Nat) (ad wd rd : Nat → Nat) (Y : va_W) (n : Nat) (K : Nat → Int32) (Ln : Nat → Nat) (Wh : Nat → Int64) (Re : Nat → UInt64) (cd : Int32) (ct : Nat → Int32) (sz : Nat) (hI : tcI n K Ln Wh Re)  : Met l yX2_code wsX2_code ({ frames := 0, cells := 0, slots := 0, locals := 0 }) (tcP D A (tcTY cI cJ cD cC) sz [.ref h0] (tc_T cI cJ cD cC h0 h1 h2 h3 h4 ad wd rd Y n K Ln Wh Re cd ct)) (vp_Si (fun r => r = cd)) 0 0 (fun _ => False) := by
  refine Met.ofW (cc := cX2_code) (maxL := 1) (ret := (some .int)) (by decide) rfl ?_
  intro p e s m args below meth c s₁ B hml hv
  obtain ⟨rfl, hsz, hP, hK, hD, hE⟩ := hv
  have hx := B.exec
  have hb := B.bytes
  have hr := B.returns
  have hts := atoms_spec (ws := wsX2_code) B.pre
  have hown : s.vm.findClass RX2 = some m.cls := findClass_of_methodNamed B.named
  have hlocks := B.notSynchronized
  have hl := lv_entry ([.ref h0]) (n := 1) (Nat.le_of_ble_eq_true rfl)
  rw [lg_entry_eq]
  generalize (lg_sl ([.ref h0]) ++ List.replicate (1 - (lg_sl ([.ref h0])).length) Slot.unset).toArray = ls at hl ⊢
  have hl : lv_has ls 1 [(0, .ref h0)] := hl
  subst hsz
  have hS : va_S A s.heap s.heap [] := va_S.rf
  refine lv_aload_n hx hb dX2_code_0 rfl (lv_at hl 0 rfl) ?_
  refine va_get (D := D) (ci := 2) (fs := [.ref h1, .ref h2, .ref h3, .int (nI n), .int cd]) (v := .int cd) (C := RX2) (T := TX2) (N := 5) hx hb hts (by decide +kernel) hown hK hP 0 rfl rfl 4 (by decide) (hts (.fieldLink RX2 30 "TypedColumns" "latestCode" "I") (by decide +kernel)) (fun _ h9 => h9) rfl dX2_code_1 ?_
  exact W.iret (v := cd) hx hb hr (fun t9 ht9 hW9 => ⟨cd, rfl, rfl, ht9⟩) (fun q hq => absurd hq List.not_mem_nil) dX2_code_4
set_option maxHeartbeats 4000000 in
set_option maxRecDepth 100000 in
theorem tX2_columnCount (l : Launch) (D : va_G) (A : Nat → Prop) (cI cJ cD cC : ClassId) (h0 h1 h2 h3 h4 : Nat) (ad wd rd : Nat → Nat) (Y : va_W) (n : Nat) (K : Nat → Int32) (Ln : Nat → Nat) (Wh : Nat → Int64) (Re : Nat → UInt64) (cd : Int32) (ct : Nat → Int32) (sz : Nat) (hI : tcI n K Ln Wh Re)  : Met l yX2_columnCount wsX2_columnCount ({ frames := 0, cells := 0, slots := 0, locals := 0 }) (tcP D A (tcTY cI cJ cD cC) sz [.ref h0] (tc_T cI cJ cD cC h0 h1 h2 h3 h4 ad wd rd Y n K Ln Wh Re cd ct)) (vp_Si (fun r => r = nI n)) 0 0 (fun _ => False) := by
  refine Met.ofW (cc := cX2_columnCount) (maxL := 1) (ret := (some .int)) (by decide) rfl ?_
  intro p e s m args below meth c s₁ B hml hv
  obtain ⟨rfl, hsz, hP, hK, hD, hE⟩ := hv
  have hx := B.exec
  have hb := B.bytes
  have hr := B.returns
  have hts := atoms_spec (ws := wsX2_columnCount) B.pre
  have hown : s.vm.findClass RX2 = some m.cls := findClass_of_methodNamed B.named
  have hlocks := B.notSynchronized
  have hl := lv_entry ([.ref h0]) (n := 1) (Nat.le_of_ble_eq_true rfl)
  rw [lg_entry_eq]
  generalize (lg_sl ([.ref h0]) ++ List.replicate (1 - (lg_sl ([.ref h0])).length) Slot.unset).toArray = ls at hl ⊢
  have hl : lv_has ls 1 [(0, .ref h0)] := hl
  subst hsz
  have hS : va_S A s.heap s.heap [] := va_S.rf
  refine lv_aload_n hx hb dX2_columnCount_0 rfl (lv_at hl 0 rfl) ?_
  refine va_get (D := D) (ci := 2) (fs := [.ref h1, .ref h2, .ref h3, .int (nI n), .int cd]) (v := .int (nI n)) (C := RX2) (T := TX2) (N := 5) hx hb hts (by decide +kernel) hown hK hP 0 rfl rfl 3 (by decide) (hts (.fieldLink RX2 26 "TypedColumns" "created" "I") (by decide +kernel)) (fun _ h9 => h9) rfl dX2_columnCount_1 ?_
  exact W.iret (v := (nI n)) hx hb hr (fun t9 ht9 hW9 => ⟨(nI n), rfl, rfl, ht9⟩) (fun q hq => absurd hq List.not_mem_nil) dX2_columnCount_4
set_option maxHeartbeats 4000000 in
set_option maxRecDepth 100000 in
theorem tX2_count (l : Launch) (D : va_G) (A : Nat → Prop) (cI cJ cD cC : ClassId) (h0 h1 h2 h3 h4 : Nat) (ad wd rd : Nat → Nat) (Y : va_W) (n : Nat) (K : Nat → Int32) (Ln : Nat → Nat) (Wh : Nat → Int64) (Re : Nat → UInt64) (cd : Int32) (ct : Nat → Int32) (sz : Nat) (hI : tcI n K Ln Wh Re) (cx : Int32) (hk : vp_in cx 6) : Met l yX2_count wsX2_count ({ frames := 0, cells := 0, slots := 0, locals := 0 }) (tcP D A (tcTY cI cJ cD cC) sz [.ref h0, .int cx] (tc_T cI cJ cD cC h0 h1 h2 h3 h4 ad wd rd Y n K Ln Wh Re cd ct)) (vp_Si (fun r => r = ct cx.toNatClampNeg)) 0 0 (fun _ => False) := by
  refine Met.ofW (cc := cX2_count) (maxL := 2) (ret := (some .int)) (by decide) rfl ?_
  intro p e s m args below meth c s₁ B hml hv
  obtain ⟨rfl, hsz, hP, hK, hD, hE⟩ := hv
  have hx := B.exec
  have hb := B.bytes
  have hr := B.returns
  have hts := atoms_spec (ws := wsX2_count) B.pre
  have hown : s.vm.findClass RX2 = some m.cls := findClass_of_methodNamed B.named
  have hlocks := B.notSynchronized
  have hl := lv_entry ([.ref h0, .int cx]) (n := 2) (Nat.le_of_ble_eq_true rfl)
  rw [lg_entry_eq]
  generalize (lg_sl ([.ref h0, .int cx]) ++ List.replicate (2 - (lg_sl ([.ref h0, .int cx])).length) Slot.unset).toArray = ls at hl ⊢
  have hl : lv_has ls 2 [(0, .ref h0), (1, .int cx)] := hl
  subst hsz
  have hS : va_S A s.heap s.heap [] := va_S.rf
  refine lv_iload_n hx hb dX2_count_0 rfl (lv_at hl 1 rfl) ?_
  refine lv_if_lt (tgt := 13) hx hb dX2_count_1 (by decide) (fun q => absurd q (vp_in_lo hk)) (fun _ => ?_)
  refine lv_iload_n hx hb dX2_count_4 rfl (lv_at hl 1 rfl) ?_
  refine lv_aload_n hx hb dX2_count_5 rfl (lv_at hl 0 rfl) ?_
  refine va_get (D := D) (ci := 2) (fs := [.ref h1, .ref h2, .ref h3, .int (nI n), .int cd]) (v := .ref h2) (C := RX2) (T := TX2) (N := 5) hx hb hts (by decide +kernel) hown hK hP 0 rfl rfl 1 (by decide) (hts (.fieldLink RX2 15 "TypedColumns" "counts" "[I") (by decide +kernel)) (fun _ h9 => h9) rfl dX2_count_6 ?_
  refine va_alen (v := 6) hx hb hK hP 2 0 rfl rfl rfl dX2_count_9 ?_
  refine lv_icmp_lt (tgt := 23) hx hb dX2_count_10 (by decide) (fun _ => ?_) (fun q => absurd (Int32.not_le.mp (vp_in_hi hk (by decide))) q)
  refine lv_aload_n hx hb dX2_count_23 rfl (lv_at hl 0 rfl) ?_
  refine va_get (D := D) (ci := 2) (fs := [.ref h1, .ref h2, .ref h3, .int (nI n), .int cd]) (v := .ref h2) (C := RX2) (T := TX2) (N := 5) hx hb hts (by decide +kernel) hown hK hP 0 rfl rfl 1 (by decide) (hts (.fieldLink RX2 15 "TypedColumns" "counts" "[I") (by decide +kernel)) (fun _ h9 => h9) rfl dX2_count_24 ?_
  refine lv_iload_n hx hb dX2_count_27 rfl (lv_at hl 1 rfl) ?_
  refine tc_iald (f := ct) (v := (ct cx.toNatClampNeg)) hx hb hK hP 2 0 rfl rfl (hk) rfl dX2_count_28 ?_
  exact W.iret (v := (ct cx.toNatClampNeg)) hx hb hr (fun t9 ht9 hW9 => ⟨(ct cx.toNatClampNeg), rfl, rfl, ht9⟩) (fun q hq => absurd hq List.not_mem_nil) dX2_count_29
set_option maxHeartbeats 4000000 in
set_option maxRecDepth 100000 in
theorem tX2_kind (l : Launch) (D : va_G) (A : Nat → Prop) (cI cJ cD cC : ClassId) (h0 h1 h2 h3 h4 : Nat) (ad wd rd : Nat → Nat) (Y : va_W) (n : Nat) (K : Nat → Int32) (Ln : Nat → Nat) (Wh : Nat → Int64) (Re : Nat → UInt64) (cd : Int32) (ct : Nat → Int32) (sz : Nat) (hI : tcI n K Ln Wh Re) (j : Nat) (hj : j < n)  : Met l yX2_kind wsX2_kind ({ frames := 1, cells := 0, slots := 0, locals := 22 }) (tcP D A (tcTY cI cJ cD cC) sz [.ref h0, .int (nI j)] (tc_T cI cJ cD cC h0 h1 h2 h3 h4 ad wd rd Y n K Ln Wh Re cd ct)) (vp_Si (fun r => r = K j)) 0 0 (fun _ => False) := by
  refine Met.ofW (cc := cX2_kind) (maxL := 2) (ret := (some .int)) (by decide) rfl ?_
  intro p e s m args below meth c s₁ B hml hv
  obtain ⟨rfl, hsz, hP, hK, hD, hE⟩ := hv
  have hx := B.exec
  have hb := B.bytes
  have hr := B.returns
  have hts := atoms_spec (ws := wsX2_kind) B.pre
  have hown : s.vm.findClass RX2 = some m.cls := findClass_of_methodNamed B.named
  have hlocks := B.notSynchronized
  have hl := lv_entry ([.ref h0, .int (nI j)]) (n := 2) (Nat.le_of_ble_eq_true rfl)
  rw [lg_entry_eq]
  generalize (lg_sl ([.ref h0, .int (nI j)]) ++ List.replicate (2 - (lg_sl ([.ref h0, .int (nI j)])).length) Slot.unset).toArray = ls at hl ⊢
  have hl : lv_has ls 2 [(0, .ref h0), (1, .int (nI j))] := hl
  subst hsz
  have hS : va_S A s.heap s.heap [] := va_S.rf
  refine lv_aload_n hx hb dX2_kind_0 rfl (lv_at hl 0 rfl) ?_
  refine lv_iload_n hx hb dX2_kind_1 rfl (lv_at hl 1 rfl) ?_
  refine va_csr (tc_CR (va_runV (As := [.int (nI j)]) (rest := []) ⟨hx, hb, hml, hown, hts⟩ (tX2_columnAt l D A cI cJ cD cC h0 h1 h2 h3 h4 ad wd rd Y n K Ln Wh Re cd ct s.heap.size hI.1 j hj) (cwV 1 hts gX2_kind_X2_columnAt rfl rfl rfl (by decide +kernel) ⟨Nat.le_of_ble_eq_true rfl, Nat.le_of_ble_eq_true rfl⟩) ⟨tcP.blind, va_recv hK hP (ci := 2) (q0 := 0) rfl rfl, tcP.go hK hP hD hE hS⟩ rfl rfl hl.1 rfl (lv_room (Nat.le_of_ble_eq_true rfl)) dX2_kind_2 ⟨Nat.le_of_ble_eq_true rfl, Nat.le_of_ble_eq_true rfl⟩)) (fun _ _ => ?_)
  refine va_get (D := D) (ci := 0) (fs := [.int (K j), .int (tc_cl (K j) (Ln j)), .ref (wd j), .ref (rd j)]) (v := .int (K j)) (C := RX0) (T := TX0) (N := 4) hx hb hts (by decide +kernel) hown hK hP (5 + (Y.length + (3 * j + 0))) (tc_T0 hj) rfl 0 (by decide) (hts (.fieldLink RX2 66 "TypedColumns$Column" "kind" "I") (by decide +kernel)) (fun _ h9 => h9) rfl dX2_kind_5 ?_
  exact W.iret (v := (K j)) hx hb hr (fun t9 ht9 hW9 => ⟨(K j), rfl, rfl, ht9⟩) (fun q hq => absurd hq List.not_mem_nil) dX2_kind_8
set_option maxHeartbeats 4000000 in
set_option maxRecDepth 100000 in
theorem tX2_length (l : Launch) (D : va_G) (A : Nat → Prop) (cI cJ cD cC : ClassId) (h0 h1 h2 h3 h4 : Nat) (ad wd rd : Nat → Nat) (Y : va_W) (n : Nat) (K : Nat → Int32) (Ln : Nat → Nat) (Wh : Nat → Int64) (Re : Nat → UInt64) (cd : Int32) (ct : Nat → Int32) (sz : Nat) (hI : tcI n K Ln Wh Re) (j : Nat) (hj : j < n)  : Met l yX2_length wsX2_length ({ frames := 1, cells := 0, slots := 0, locals := 22 }) (tcP D A (tcTY cI cJ cD cC) sz [.ref h0, .int (nI j)] (tc_T cI cJ cD cC h0 h1 h2 h3 h4 ad wd rd Y n K Ln Wh Re cd ct)) (va_Qi (fun r (_ : Unit) => r = tc_cl (K j) (Ln j)) (fun _ t => tcB D A (tc_T cI cJ cD cC h0 h1 h2 h3 h4 ad wd rd Y n K Ln Wh Re (kCol (K j)) (noteC ct (kCol (K j)))) t) A) 0 0 A := by
  refine Met.ofW (cc := cX2_length) (maxL := 3) (ret := (some .int)) (by decide) rfl ?_
  intro p e s m args below meth c s₁ B hml hv
  obtain ⟨rfl, hsz, hP, hK, hD, hE⟩ := hv
  have hx := B.exec
  have hb := B.bytes
  have hr := B.returns
  have hts := atoms_spec (ws := wsX2_length) B.pre
  have hown : s.vm.findClass RX2 = some m.cls := findClass_of_methodNamed B.named
  have hlocks := B.notSynchronized
  have hl := lv_entry ([.ref h0, .int (nI j)]) (n := 3) (Nat.le_of_ble_eq_true rfl)
  rw [lg_entry_eq]
  generalize (lg_sl ([.ref h0, .int (nI j)]) ++ List.replicate (3 - (lg_sl ([.ref h0, .int (nI j)])).length) Slot.unset).toArray = ls at hl ⊢
  have hl : lv_has ls 3 [(0, .ref h0), (1, .int (nI j))] := hl
  subst hsz
  have hS : va_S A s.heap s.heap [] := va_S.rf
  refine lv_aload_n hx hb dX2_length_0 rfl (lv_at hl 0 rfl) ?_
  refine lv_iload_n hx hb dX2_length_1 rfl (lv_at hl 1 rfl) ?_
  refine va_csr (tc_CR (va_runV (As := [.int (nI j)]) (rest := []) ⟨hx, hb, hml, hown, hts⟩ (tX2_columnAt l D A cI cJ cD cC h0 h1 h2 h3 h4 ad wd rd Y n K Ln Wh Re cd ct s.heap.size hI.1 j hj) (cwV 1 hts gX2_length_X2_columnAt rfl rfl rfl (by decide +kernel) ⟨Nat.le_of_ble_eq_true rfl, Nat.le_of_ble_eq_true rfl⟩) ⟨tcP.blind, va_recv hK hP (ci := 2) (q0 := 0) rfl rfl, tcP.go hK hP hD hE hS⟩ rfl rfl hl.1 rfl (lv_room (Nat.le_of_ble_eq_true rfl)) dX2_length_2 ⟨Nat.le_of_ble_eq_true rfl, Nat.le_of_ble_eq_true rfl⟩)) (fun _ _ => ?_)
  refine lv_astore_n (lv' := [(2, .ref (ad j)), (0, .ref h0), (1, .int (nI j))]) hx hb dX2_length_5 rfl hl (by decide) rfl (fun ls hl => ?_)
  refine lv_aload_n hx hb dX2_length_6 rfl (lv_at hl 1 rfl) ?_
  refine lv_aload_n hx hb dX2_length_7 rfl (lv_at hl 0 rfl) ?_
  refine vp_callSi (tc_CR (va_runS (As := [.ref (ad j)]) (rest := [.ref h0]) ⟨hx, hb, hml, hown, hts⟩ (oX2_codeOfColumn l D A cI cJ cD cC (tc_T cI cJ cD cC h0 h1 h2 h3 h4 ad wd rd Y n K Ln Wh Re cd ct) (5 + (Y.length + (3 * j + 0))) (5 + (Y.length + (3 * j + 1))) (5 + (Y.length + (3 * j + 2))) (ad j) (wd j) (rd j) (K j) (tc_cl (K j) (Ln j)) (tc_wl (K j) (Ln j)) (tc_rl (K j) (Ln j)) (tc_sl (tc_wl (K j) (Ln j)) (fun i => Wh (40 * j + i)) 0) (tc_sl (tc_rl (K j) (Ln j)) (fun i => Re (40 * j + i)) 0) s.heap.size (tc_T0 hj) (tc_T1 hj) (tc_T2 hj) (tc_len_lt (hI.2.1 j hj).2.1)) (va_cwS 1 hts gX2_length_X2_codeOfColumn rfl rfl rfl (by decide +kernel) ⟨Nat.le_of_ble_eq_true rfl, Nat.le_of_ble_eq_true rfl⟩) ⟨tcP.blind, (tcP.go hK hP hD hE hS)⟩ rfl rfl hl.1 rfl (lv_room (Nat.le_of_ble_eq_true rfl)) dX2_length_8 ⟨Nat.le_of_ble_eq_true rfl, Nat.le_of_ble_eq_true rfl⟩)) (fun r_1 hr_1 => ?_)
  subst hr_1
  refine va_calli (va_runV (As := [.int (kCol (K j))]) (rest := []) ⟨hx, hb, hml, hown, hts⟩ (tX2_note l D A cI cJ cD cC h0 h1 h2 h3 h4 ad wd rd Y n K Ln Wh Re cd ct s.heap.size (kCol (K j)) (kCol_in _)) (cwV 1 hts gX2_length_X2_note rfl rfl rfl (by decide +kernel) ⟨Nat.le_of_ble_eq_true rfl, Nat.le_of_ble_eq_true rfl⟩) ⟨tcP.blind, (va_recv hK hP (ci := 2) (q0 := 0) rfl rfl), (tcP.go hK hP hD hE hS)⟩ rfl rfl hl.1 rfl (lv_room (Nat.le_of_ble_eq_true rfl)) dX2_length_11 ⟨Nat.le_of_ble_eq_true rfl, Nat.le_of_ble_eq_true rfl⟩) hS (fun q _ h => h) (fun q h => h) (fun r_2 u t H locs ht hvm hw hB hz1 hk1 hS => ?_)
  subst hw
  obtain ⟨hP, hD⟩ := hB
  rw [ht] at hP
  refine lv_pop hx hb dX2_length_14 rfl ?_
  refine lv_aload_n hx hb dX2_length_15 rfl (lv_at hl 0 rfl) ?_
  refine va_get (D := D) (ci := 0) (fs := [.int (K j), .int (tc_cl (K j) (Ln j)), .ref (wd j), .ref (rd j)]) (v := .int (tc_cl (K j) (Ln j))) (C := RX0) (T := TX0) (N := 4) hx hb hts (by decide +kernel) hown hK hP (5 + (Y.length + (3 * j + 0))) (tc_T0 hj) rfl 1 (by decide) (hts (.fieldLink RX2 76 "TypedColumns$Column" "length" "I") (by decide +kernel)) (fun _ h9 => h9) rfl dX2_length_16 ?_
  exact W.iret (v := (tc_cl (K j) (Ln j))) hx hb hr (fun t9 ht9 hW9 => ⟨⟨(tc_cl (K j) (Ln j)), (), rfl, rfl, by rw [ht9]; exact hP, hD⟩, hS.F ht9⟩) hS.2.2 dX2_length_19
set_option maxHeartbeats 4000000 in
set_option maxRecDepth 100000 in
theorem tX2_readBoolean (l : Launch) (D : va_G) (A : Nat → Prop) (cI cJ cD cC : ClassId) (h0 h1 h2 h3 h4 : Nat) (ad wd rd : Nat → Nat) (Y : va_W) (n : Nat) (K : Nat → Int32) (Ln : Nat → Nat) (Wh : Nat → Int64) (Re : Nat → UInt64) (cd : Int32) (ct : Nat → Int32) (sz : Nat) (hI : tcI n K Ln Wh Re) (j : Nat) (hj : j < n) (i : Int32) : Met l yX2_readBoolean wsX2_readBoolean ({ frames := 4, cells := 0, slots := 0, locals := 89 }) (tcP D A (tcTY cI cJ cD cC) sz [.ref h0, .int (nI j), .int i] (tc_T cI cJ cD cC h0 h1 h2 h3 h4 ad wd rd Y n K Ln Wh Re cd ct)) (va_Qi (fun r (_ : Unit) => r = tb (!decide (rdW K Ln Wh j i 1 = 0))) (fun _ t => tcB D A (tc_T cI cJ cD cC h0 h1 h2 h3 h4 ad wd rd Y n K Ln Wh Re (cdR K Ln j i (K j) 1) (noteC ct (cdR K Ln j i (K j) 1))) t) A) 0 0 A := by
  refine Met.ofW (cc := cX2_readBoolean) (maxL := 3) (ret := (some .boolean)) (by decide) rfl ?_
  intro p e s m args below meth c s₁ B hml hv
  obtain ⟨rfl, hsz, hP, hK, hD, hE⟩ := hv
  have hx := B.exec
  have hb := B.bytes
  have hr := B.returns
  have hts := atoms_spec (ws := wsX2_readBoolean) B.pre
  have hown : s.vm.findClass RX2 = some m.cls := findClass_of_methodNamed B.named
  have hlocks := B.notSynchronized
  have hl := lv_entry ([.ref h0, .int (nI j), .int i]) (n := 3) (Nat.le_of_ble_eq_true rfl)
  rw [lg_entry_eq]
  generalize (lg_sl ([.ref h0, .int (nI j), .int i]) ++ List.replicate (3 - (lg_sl ([.ref h0, .int (nI j), .int i])).length) Slot.unset).toArray = ls at hl ⊢
  have hl : lv_has ls 3 [(0, .ref h0), (1, .int (nI j)), (2, .int i)] := hl
  subst hsz
  have hS : va_S A s.heap s.heap [] := va_S.rf
  refine lv_aload_n hx hb dX2_readBoolean_0 rfl (lv_at hl 0 rfl) ?_
  refine lv_aload_n hx hb dX2_readBoolean_1 rfl (lv_at hl 0 rfl) ?_
  refine lv_iload_n hx hb dX2_readBoolean_2 rfl (lv_at hl 1 rfl) ?_
  refine va_csr (tc_CR (va_runV (As := [.int (nI j)]) (rest := [.ref h0]) ⟨hx, hb, hml, hown, hts⟩ (tX2_columnAt l D A cI cJ cD cC h0 h1 h2 h3 h4 ad wd rd Y n K Ln Wh Re cd ct s.heap.size hI.1 j hj) (cwV 1 hts gX2_readBoolean_X2_columnAt rfl rfl rfl (by decide +kernel) ⟨Nat.le_of_ble_eq_true rfl, Nat.le_of_ble_eq_true rfl⟩) ⟨tcP.blind, va_recv hK hP (ci := 2) (q0 := 0) rfl rfl, tcP.go hK hP hD hE hS⟩ rfl rfl hl.1 rfl (lv_room (Nat.le_of_ble_eq_true rfl)) dX2_readBoolean_3 ⟨Nat.le_of_ble_eq_true rfl, Nat.le_of_ble_eq_true rfl⟩)) (fun _ _ => ?_)
  refine lv_iload_n hx hb dX2_readBoolean_6 rfl (lv_at hl 2 rfl) ?_
  refine lv_iconst (v := 1) hx hb dX2_readBoolean_7 (by decide) ?_
  refine va_calll (va_runV (As := [.ref (ad j), .int i, .int 1]) (rest := []) ⟨hx, hb, hml, hown, hts⟩ (tX2_readWhole l D A cI cJ cD cC h0 h1 h2 h3 h4 ad wd rd Y n K Ln Wh Re cd ct s.heap.size hI j hj i 1 (fun a h => kWid_low h (by decide))) (cwV 3 hts gX2_readBoolean_X2_readWhole rfl rfl rfl (by decide +kernel) ⟨Nat.le_of_ble_eq_true rfl, Nat.le_of_ble_eq_true rfl⟩) ⟨tcP.blind, (va_recv hK hP (ci := 2) (q0 := 0) rfl rfl), (tcP.go hK hP hD hE hS)⟩ rfl rfl hl.1 rfl (lv_room (Nat.le_of_ble_eq_true rfl)) dX2_readBoolean_8 ⟨Nat.le_of_ble_eq_true rfl, Nat.le_of_ble_eq_true rfl⟩) hS (fun q _ h => h) (fun q h => h) (fun r_1 u t H locs ht hvm hw hB hz1 hk1 hS => ?_)
  subst hw
  obtain ⟨hP, hD⟩ := hB
  rw [ht] at hP
  refine lv_lconst (v := 0) hx hb dX2_readBoolean_11 (by decide) ?_
  refine W.lcmp hx hb dX2_readBoolean_12 ?_
  refine lv_if_eq (tgt := 20) hx hb dX2_readBoolean_13 (by decide) (fun c_2 => ?_) (fun c_2 => ?_)
  · refine lv_iconst (v := 0) hx hb dX2_readBoolean_20 (by decide) ?_
    exact W.zret (ty := .boolean) (v := 0) hx hb hr rfl (fun t9 ht9 hW9 => ⟨⟨0, (), rfl, by rw [decide_eq_true ((lg_cmp_eq _ _).mp c_2)]; rfl, by rw [ht9]; exact hP, hD⟩, hS.F ht9⟩) hS.2.2 dX2_readBoolean_21
  · refine lv_iconst (v := 1) hx hb dX2_readBoolean_16 (by decide) ?_
    refine lv_goto (tgt := 21) hx hb dX2_readBoolean_17 (by decide) ?_
    exact W.zret (ty := .boolean) (v := 1) hx hb hr rfl (fun t9 ht9 hW9 => ⟨⟨1, (), rfl, by rw [decide_eq_false (fun q => c_2 ((lg_cmp_eq _ _).mpr q))]; rfl, by rw [ht9]; exact hP, hD⟩, hS.F ht9⟩) hS.2.2 dX2_readBoolean_21
set_option maxHeartbeats 4000000 in
set_option maxRecDepth 100000 in
theorem tX2_readByte (l : Launch) (D : va_G) (A : Nat → Prop) (cI cJ cD cC : ClassId) (h0 h1 h2 h3 h4 : Nat) (ad wd rd : Nat → Nat) (Y : va_W) (n : Nat) (K : Nat → Int32) (Ln : Nat → Nat) (Wh : Nat → Int64) (Re : Nat → UInt64) (cd : Int32) (ct : Nat → Int32) (sz : Nat) (hI : tcI n K Ln Wh Re) (j : Nat) (hj : j < n) (i : Int32) : Met l yX2_readByte wsX2_readByte ({ frames := 4, cells := 0, slots := 0, locals := 89 }) (tcP D A (tcTY cI cJ cD cC) sz [.ref h0, .int (nI j), .int i] (tc_T cI cJ cD cC h0 h1 h2 h3 h4 ad wd rd Y n K Ln Wh Re cd ct)) (va_Qi (fun r (_ : Unit) => r = (rdW K Ln Wh j i 2).toInt32) (fun _ t => tcB D A (tc_T cI cJ cD cC h0 h1 h2 h3 h4 ad wd rd Y n K Ln Wh Re (cdR K Ln j i (K j) 2) (noteC ct (cdR K Ln j i (K j) 2))) t) A) 0 0 A := by
  refine Met.ofW (cc := cX2_readByte) (maxL := 3) (ret := (some .int)) (by decide) rfl ?_
  intro p e s m args below meth c s₁ B hml hv
  obtain ⟨rfl, hsz, hP, hK, hD, hE⟩ := hv
  have hx := B.exec
  have hb := B.bytes
  have hr := B.returns
  have hts := atoms_spec (ws := wsX2_readByte) B.pre
  have hown : s.vm.findClass RX2 = some m.cls := findClass_of_methodNamed B.named
  have hlocks := B.notSynchronized
  have hl := lv_entry ([.ref h0, .int (nI j), .int i]) (n := 3) (Nat.le_of_ble_eq_true rfl)
  rw [lg_entry_eq]
  generalize (lg_sl ([.ref h0, .int (nI j), .int i]) ++ List.replicate (3 - (lg_sl ([.ref h0, .int (nI j), .int i])).length) Slot.unset).toArray = ls at hl ⊢
  have hl : lv_has ls 3 [(0, .ref h0), (1, .int (nI j)), (2, .int i)] := hl
  subst hsz
  have hS : va_S A s.heap s.heap [] := va_S.rf
  refine lv_aload_n hx hb dX2_readByte_0 rfl (lv_at hl 0 rfl) ?_
  refine lv_aload_n hx hb dX2_readByte_1 rfl (lv_at hl 0 rfl) ?_
  refine lv_iload_n hx hb dX2_readByte_2 rfl (lv_at hl 1 rfl) ?_
  refine va_csr (tc_CR (va_runV (As := [.int (nI j)]) (rest := [.ref h0]) ⟨hx, hb, hml, hown, hts⟩ (tX2_columnAt l D A cI cJ cD cC h0 h1 h2 h3 h4 ad wd rd Y n K Ln Wh Re cd ct s.heap.size hI.1 j hj) (cwV 1 hts gX2_readByte_X2_columnAt rfl rfl rfl (by decide +kernel) ⟨Nat.le_of_ble_eq_true rfl, Nat.le_of_ble_eq_true rfl⟩) ⟨tcP.blind, va_recv hK hP (ci := 2) (q0 := 0) rfl rfl, tcP.go hK hP hD hE hS⟩ rfl rfl hl.1 rfl (lv_room (Nat.le_of_ble_eq_true rfl)) dX2_readByte_3 ⟨Nat.le_of_ble_eq_true rfl, Nat.le_of_ble_eq_true rfl⟩)) (fun _ _ => ?_)
  refine lv_iload_n hx hb dX2_readByte_6 rfl (lv_at hl 2 rfl) ?_
  refine lv_iconst (v := 2) hx hb dX2_readByte_7 (by decide) ?_
  refine va_calll (va_runV (As := [.ref (ad j), .int i, .int 2]) (rest := []) ⟨hx, hb, hml, hown, hts⟩ (tX2_readWhole l D A cI cJ cD cC h0 h1 h2 h3 h4 ad wd rd Y n K Ln Wh Re cd ct s.heap.size hI j hj i 2 (fun a h => kWid_low h (by decide))) (cwV 3 hts gX2_readByte_X2_readWhole rfl rfl rfl (by decide +kernel) ⟨Nat.le_of_ble_eq_true rfl, Nat.le_of_ble_eq_true rfl⟩) ⟨tcP.blind, (va_recv hK hP (ci := 2) (q0 := 0) rfl rfl), (tcP.go hK hP hD hE hS)⟩ rfl rfl hl.1 rfl (lv_room (Nat.le_of_ble_eq_true rfl)) dX2_readByte_8 ⟨Nat.le_of_ble_eq_true rfl, Nat.le_of_ble_eq_true rfl⟩) hS (fun q _ h => h) (fun q h => h) (fun r_1 u t H locs ht hvm hw hB hz1 hk1 hS => ?_)
  subst hw
  obtain ⟨hP, hD⟩ := hB
  rw [ht] at hP
  refine lv_l2i (v := (rdW K Ln Wh j i 2).toInt32) hx hb dX2_readByte_11 rfl ?_
  exact W.iret (v := (rdW K Ln Wh j i 2).toInt32) hx hb hr (fun t9 ht9 hW9 => ⟨⟨(rdW K Ln Wh j i 2).toInt32, (), rfl, rfl, by rw [ht9]; exact hP, hD⟩, hS.F ht9⟩) hS.2.2 dX2_readByte_12
set_option maxHeartbeats 4000000 in
set_option maxRecDepth 100000 in
theorem tX2_readChar (l : Launch) (D : va_G) (A : Nat → Prop) (cI cJ cD cC : ClassId) (h0 h1 h2 h3 h4 : Nat) (ad wd rd : Nat → Nat) (Y : va_W) (n : Nat) (K : Nat → Int32) (Ln : Nat → Nat) (Wh : Nat → Int64) (Re : Nat → UInt64) (cd : Int32) (ct : Nat → Int32) (sz : Nat) (hI : tcI n K Ln Wh Re) (j : Nat) (hj : j < n) (i : Int32) : Met l yX2_readChar wsX2_readChar ({ frames := 4, cells := 0, slots := 0, locals := 89 }) (tcP D A (tcTY cI cJ cD cC) sz [.ref h0, .int (nI j), .int i] (tc_T cI cJ cD cC h0 h1 h2 h3 h4 ad wd rd Y n K Ln Wh Re cd ct)) (va_Qi (fun r (_ : Unit) => r = (rdW K Ln Wh j i 3).toInt32) (fun _ t => tcB D A (tc_T cI cJ cD cC h0 h1 h2 h3 h4 ad wd rd Y n K Ln Wh Re (cdR K Ln j i (K j) 3) (noteC ct (cdR K Ln j i (K j) 3))) t) A) 0 0 A := by
  refine Met.ofW (cc := cX2_readChar) (maxL := 3) (ret := (some .int)) (by decide) rfl ?_
  intro p e s m args below meth c s₁ B hml hv
  obtain ⟨rfl, hsz, hP, hK, hD, hE⟩ := hv
  have hx := B.exec
  have hb := B.bytes
  have hr := B.returns
  have hts := atoms_spec (ws := wsX2_readChar) B.pre
  have hown : s.vm.findClass RX2 = some m.cls := findClass_of_methodNamed B.named
  have hlocks := B.notSynchronized
  have hl := lv_entry ([.ref h0, .int (nI j), .int i]) (n := 3) (Nat.le_of_ble_eq_true rfl)
  rw [lg_entry_eq]
  generalize (lg_sl ([.ref h0, .int (nI j), .int i]) ++ List.replicate (3 - (lg_sl ([.ref h0, .int (nI j), .int i])).length) Slot.unset).toArray = ls at hl ⊢
  have hl : lv_has ls 3 [(0, .ref h0), (1, .int (nI j)), (2, .int i)] := hl
  subst hsz
  have hS : va_S A s.heap s.heap [] := va_S.rf
  refine lv_aload_n hx hb dX2_readChar_0 rfl (lv_at hl 0 rfl) ?_
  refine lv_aload_n hx hb dX2_readChar_1 rfl (lv_at hl 0 rfl) ?_
  refine lv_iload_n hx hb dX2_readChar_2 rfl (lv_at hl 1 rfl) ?_
  refine va_csr (tc_CR (va_runV (As := [.int (nI j)]) (rest := [.ref h0]) ⟨hx, hb, hml, hown, hts⟩ (tX2_columnAt l D A cI cJ cD cC h0 h1 h2 h3 h4 ad wd rd Y n K Ln Wh Re cd ct s.heap.size hI.1 j hj) (cwV 1 hts gX2_readChar_X2_columnAt rfl rfl rfl (by decide +kernel) ⟨Nat.le_of_ble_eq_true rfl, Nat.le_of_ble_eq_true rfl⟩) ⟨tcP.blind, va_recv hK hP (ci := 2) (q0 := 0) rfl rfl, tcP.go hK hP hD hE hS⟩ rfl rfl hl.1 rfl (lv_room (Nat.le_of_ble_eq_true rfl)) dX2_readChar_3 ⟨Nat.le_of_ble_eq_true rfl, Nat.le_of_ble_eq_true rfl⟩)) (fun _ _ => ?_)
  refine lv_iload_n hx hb dX2_readChar_6 rfl (lv_at hl 2 rfl) ?_
  refine lv_iconst (v := 3) hx hb dX2_readChar_7 (by decide) ?_
  refine va_calll (va_runV (As := [.ref (ad j), .int i, .int 3]) (rest := []) ⟨hx, hb, hml, hown, hts⟩ (tX2_readWhole l D A cI cJ cD cC h0 h1 h2 h3 h4 ad wd rd Y n K Ln Wh Re cd ct s.heap.size hI j hj i 3 (fun a h => kWid_low h (by decide))) (cwV 3 hts gX2_readChar_X2_readWhole rfl rfl rfl (by decide +kernel) ⟨Nat.le_of_ble_eq_true rfl, Nat.le_of_ble_eq_true rfl⟩) ⟨tcP.blind, (va_recv hK hP (ci := 2) (q0 := 0) rfl rfl), (tcP.go hK hP hD hE hS)⟩ rfl rfl hl.1 rfl (lv_room (Nat.le_of_ble_eq_true rfl)) dX2_readChar_8 ⟨Nat.le_of_ble_eq_true rfl, Nat.le_of_ble_eq_true rfl⟩) hS (fun q _ h => h) (fun q h => h) (fun r_1 u t H locs ht hvm hw hB hz1 hk1 hS => ?_)
  subst hw
  obtain ⟨hP, hD⟩ := hB
  rw [ht] at hP
  refine lv_l2i (v := (rdW K Ln Wh j i 3).toInt32) hx hb dX2_readChar_11 rfl ?_
  exact W.iret (v := (rdW K Ln Wh j i 3).toInt32) hx hb hr (fun t9 ht9 hW9 => ⟨⟨(rdW K Ln Wh j i 3).toInt32, (), rfl, rfl, by rw [ht9]; exact hP, hD⟩, hS.F ht9⟩) hS.2.2 dX2_readChar_12
set_option maxHeartbeats 4000000 in
set_option maxRecDepth 100000 in
theorem tX2_readShort (l : Launch) (D : va_G) (A : Nat → Prop) (cI cJ cD cC : ClassId) (h0 h1 h2 h3 h4 : Nat) (ad wd rd : Nat → Nat) (Y : va_W) (n : Nat) (K : Nat → Int32) (Ln : Nat → Nat) (Wh : Nat → Int64) (Re : Nat → UInt64) (cd : Int32) (ct : Nat → Int32) (sz : Nat) (hI : tcI n K Ln Wh Re) (j : Nat) (hj : j < n) (i : Int32) : Met l yX2_readShort wsX2_readShort ({ frames := 4, cells := 0, slots := 0, locals := 89 }) (tcP D A (tcTY cI cJ cD cC) sz [.ref h0, .int (nI j), .int i] (tc_T cI cJ cD cC h0 h1 h2 h3 h4 ad wd rd Y n K Ln Wh Re cd ct)) (va_Qi (fun r (_ : Unit) => r = (rdW K Ln Wh j i 4).toInt32) (fun _ t => tcB D A (tc_T cI cJ cD cC h0 h1 h2 h3 h4 ad wd rd Y n K Ln Wh Re (cdR K Ln j i (K j) 4) (noteC ct (cdR K Ln j i (K j) 4))) t) A) 0 0 A := by
  refine Met.ofW (cc := cX2_readShort) (maxL := 3) (ret := (some .int)) (by decide) rfl ?_
  intro p e s m args below meth c s₁ B hml hv
  obtain ⟨rfl, hsz, hP, hK, hD, hE⟩ := hv
  have hx := B.exec
  have hb := B.bytes
  have hr := B.returns
  have hts := atoms_spec (ws := wsX2_readShort) B.pre
  have hown : s.vm.findClass RX2 = some m.cls := findClass_of_methodNamed B.named
  have hlocks := B.notSynchronized
  have hl := lv_entry ([.ref h0, .int (nI j), .int i]) (n := 3) (Nat.le_of_ble_eq_true rfl)
  rw [lg_entry_eq]
  generalize (lg_sl ([.ref h0, .int (nI j), .int i]) ++ List.replicate (3 - (lg_sl ([.ref h0, .int (nI j), .int i])).length) Slot.unset).toArray = ls at hl ⊢
  have hl : lv_has ls 3 [(0, .ref h0), (1, .int (nI j)), (2, .int i)] := hl
  subst hsz
  have hS : va_S A s.heap s.heap [] := va_S.rf
  refine lv_aload_n hx hb dX2_readShort_0 rfl (lv_at hl 0 rfl) ?_
  refine lv_aload_n hx hb dX2_readShort_1 rfl (lv_at hl 0 rfl) ?_
  refine lv_iload_n hx hb dX2_readShort_2 rfl (lv_at hl 1 rfl) ?_
  refine va_csr (tc_CR (va_runV (As := [.int (nI j)]) (rest := [.ref h0]) ⟨hx, hb, hml, hown, hts⟩ (tX2_columnAt l D A cI cJ cD cC h0 h1 h2 h3 h4 ad wd rd Y n K Ln Wh Re cd ct s.heap.size hI.1 j hj) (cwV 1 hts gX2_readShort_X2_columnAt rfl rfl rfl (by decide +kernel) ⟨Nat.le_of_ble_eq_true rfl, Nat.le_of_ble_eq_true rfl⟩) ⟨tcP.blind, va_recv hK hP (ci := 2) (q0 := 0) rfl rfl, tcP.go hK hP hD hE hS⟩ rfl rfl hl.1 rfl (lv_room (Nat.le_of_ble_eq_true rfl)) dX2_readShort_3 ⟨Nat.le_of_ble_eq_true rfl, Nat.le_of_ble_eq_true rfl⟩)) (fun _ _ => ?_)
  refine lv_iload_n hx hb dX2_readShort_6 rfl (lv_at hl 2 rfl) ?_
  refine lv_iconst (v := 4) hx hb dX2_readShort_7 (by decide) ?_
  refine va_calll (va_runV (As := [.ref (ad j), .int i, .int 4]) (rest := []) ⟨hx, hb, hml, hown, hts⟩ (tX2_readWhole l D A cI cJ cD cC h0 h1 h2 h3 h4 ad wd rd Y n K Ln Wh Re cd ct s.heap.size hI j hj i 4 (fun a h => kWid_low h (by decide))) (cwV 3 hts gX2_readShort_X2_readWhole rfl rfl rfl (by decide +kernel) ⟨Nat.le_of_ble_eq_true rfl, Nat.le_of_ble_eq_true rfl⟩) ⟨tcP.blind, (va_recv hK hP (ci := 2) (q0 := 0) rfl rfl), (tcP.go hK hP hD hE hS)⟩ rfl rfl hl.1 rfl (lv_room (Nat.le_of_ble_eq_true rfl)) dX2_readShort_8 ⟨Nat.le_of_ble_eq_true rfl, Nat.le_of_ble_eq_true rfl⟩) hS (fun q _ h => h) (fun q h => h) (fun r_1 u t H locs ht hvm hw hB hz1 hk1 hS => ?_)
  subst hw
  obtain ⟨hP, hD⟩ := hB
  rw [ht] at hP
  refine lv_l2i (v := (rdW K Ln Wh j i 4).toInt32) hx hb dX2_readShort_11 rfl ?_
  exact W.iret (v := (rdW K Ln Wh j i 4).toInt32) hx hb hr (fun t9 ht9 hW9 => ⟨⟨(rdW K Ln Wh j i 4).toInt32, (), rfl, rfl, by rw [ht9]; exact hP, hD⟩, hS.F ht9⟩) hS.2.2 dX2_readShort_12
set_option maxHeartbeats 4000000 in
set_option maxRecDepth 100000 in
theorem tX2_readInt (l : Launch) (D : va_G) (A : Nat → Prop) (cI cJ cD cC : ClassId) (h0 h1 h2 h3 h4 : Nat) (ad wd rd : Nat → Nat) (Y : va_W) (n : Nat) (K : Nat → Int32) (Ln : Nat → Nat) (Wh : Nat → Int64) (Re : Nat → UInt64) (cd : Int32) (ct : Nat → Int32) (sz : Nat) (hI : tcI n K Ln Wh Re) (j : Nat) (hj : j < n) (i : Int32) : Met l yX2_readInt wsX2_readInt ({ frames := 4, cells := 0, slots := 0, locals := 89 }) (tcP D A (tcTY cI cJ cD cC) sz [.ref h0, .int (nI j), .int i] (tc_T cI cJ cD cC h0 h1 h2 h3 h4 ad wd rd Y n K Ln Wh Re cd ct)) (va_Qi (fun r (_ : Unit) => r = (rdW K Ln Wh j i 5).toInt32) (fun _ t => tcB D A (tc_T cI cJ cD cC h0 h1 h2 h3 h4 ad wd rd Y n K Ln Wh Re (cdR K Ln j i (K j) 5) (noteC ct (cdR K Ln j i (K j) 5))) t) A) 0 0 A := by
  refine Met.ofW (cc := cX2_readInt) (maxL := 3) (ret := (some .int)) (by decide) rfl ?_
  intro p e s m args below meth c s₁ B hml hv
  obtain ⟨rfl, hsz, hP, hK, hD, hE⟩ := hv
  have hx := B.exec
  have hb := B.bytes
  have hr := B.returns
  have hts := atoms_spec (ws := wsX2_readInt) B.pre
  have hown : s.vm.findClass RX2 = some m.cls := findClass_of_methodNamed B.named
  have hlocks := B.notSynchronized
  have hl := lv_entry ([.ref h0, .int (nI j), .int i]) (n := 3) (Nat.le_of_ble_eq_true rfl)
  rw [lg_entry_eq]
  generalize (lg_sl ([.ref h0, .int (nI j), .int i]) ++ List.replicate (3 - (lg_sl ([.ref h0, .int (nI j), .int i])).length) Slot.unset).toArray = ls at hl ⊢
  have hl : lv_has ls 3 [(0, .ref h0), (1, .int (nI j)), (2, .int i)] := hl
  subst hsz
  have hS : va_S A s.heap s.heap [] := va_S.rf
  refine lv_aload_n hx hb dX2_readInt_0 rfl (lv_at hl 0 rfl) ?_
  refine lv_aload_n hx hb dX2_readInt_1 rfl (lv_at hl 0 rfl) ?_
  refine lv_iload_n hx hb dX2_readInt_2 rfl (lv_at hl 1 rfl) ?_
  refine va_csr (tc_CR (va_runV (As := [.int (nI j)]) (rest := [.ref h0]) ⟨hx, hb, hml, hown, hts⟩ (tX2_columnAt l D A cI cJ cD cC h0 h1 h2 h3 h4 ad wd rd Y n K Ln Wh Re cd ct s.heap.size hI.1 j hj) (cwV 1 hts gX2_readInt_X2_columnAt rfl rfl rfl (by decide +kernel) ⟨Nat.le_of_ble_eq_true rfl, Nat.le_of_ble_eq_true rfl⟩) ⟨tcP.blind, va_recv hK hP (ci := 2) (q0 := 0) rfl rfl, tcP.go hK hP hD hE hS⟩ rfl rfl hl.1 rfl (lv_room (Nat.le_of_ble_eq_true rfl)) dX2_readInt_3 ⟨Nat.le_of_ble_eq_true rfl, Nat.le_of_ble_eq_true rfl⟩)) (fun _ _ => ?_)
  refine lv_iload_n hx hb dX2_readInt_6 rfl (lv_at hl 2 rfl) ?_
  refine lv_iconst (v := 5) hx hb dX2_readInt_7 (by decide) ?_
  refine va_calll (va_runV (As := [.ref (ad j), .int i, .int 5]) (rest := []) ⟨hx, hb, hml, hown, hts⟩ (tX2_readWhole l D A cI cJ cD cC h0 h1 h2 h3 h4 ad wd rd Y n K Ln Wh Re cd ct s.heap.size hI j hj i 5 (fun a h => kWid_low h (by decide))) (cwV 3 hts gX2_readInt_X2_readWhole rfl rfl rfl (by decide +kernel) ⟨Nat.le_of_ble_eq_true rfl, Nat.le_of_ble_eq_true rfl⟩) ⟨tcP.blind, (va_recv hK hP (ci := 2) (q0 := 0) rfl rfl), (tcP.go hK hP hD hE hS)⟩ rfl rfl hl.1 rfl (lv_room (Nat.le_of_ble_eq_true rfl)) dX2_readInt_8 ⟨Nat.le_of_ble_eq_true rfl, Nat.le_of_ble_eq_true rfl⟩) hS (fun q _ h => h) (fun q h => h) (fun r_1 u t H locs ht hvm hw hB hz1 hk1 hS => ?_)
  subst hw
  obtain ⟨hP, hD⟩ := hB
  rw [ht] at hP
  refine lv_l2i (v := (rdW K Ln Wh j i 5).toInt32) hx hb dX2_readInt_11 rfl ?_
  exact W.iret (v := (rdW K Ln Wh j i 5).toInt32) hx hb hr (fun t9 ht9 hW9 => ⟨⟨(rdW K Ln Wh j i 5).toInt32, (), rfl, rfl, by rw [ht9]; exact hP, hD⟩, hS.F ht9⟩) hS.2.2 dX2_readInt_12
set_option maxHeartbeats 4000000 in
set_option maxRecDepth 100000 in
theorem tX2_readLong (l : Launch) (D : va_G) (A : Nat → Prop) (cI cJ cD cC : ClassId) (h0 h1 h2 h3 h4 : Nat) (ad wd rd : Nat → Nat) (Y : va_W) (n : Nat) (K : Nat → Int32) (Ln : Nat → Nat) (Wh : Nat → Int64) (Re : Nat → UInt64) (cd : Int32) (ct : Nat → Int32) (sz : Nat) (hI : tcI n K Ln Wh Re) (j : Nat) (hj : j < n) (i : Int32) : Met l yX2_readLong wsX2_readLong ({ frames := 4, cells := 0, slots := 0, locals := 89 }) (tcP D A (tcTY cI cJ cD cC) sz [.ref h0, .int (nI j), .int i] (tc_T cI cJ cD cC h0 h1 h2 h3 h4 ad wd rd Y n K Ln Wh Re cd ct)) (va_Ql (fun r (_ : Unit) => r = rdW K Ln Wh j i 6) (fun _ t => tcB D A (tc_T cI cJ cD cC h0 h1 h2 h3 h4 ad wd rd Y n K Ln Wh Re (cdR K Ln j i (K j) 6) (noteC ct (cdR K Ln j i (K j) 6))) t) A) 0 0 A := by
  refine Met.ofW (cc := cX2_readLong) (maxL := 3) (ret := (some .long)) (by decide) rfl ?_
  intro p e s m args below meth c s₁ B hml hv
  obtain ⟨rfl, hsz, hP, hK, hD, hE⟩ := hv
  have hx := B.exec
  have hb := B.bytes
  have hr := B.returns
  have hts := atoms_spec (ws := wsX2_readLong) B.pre
  have hown : s.vm.findClass RX2 = some m.cls := findClass_of_methodNamed B.named
  have hlocks := B.notSynchronized
  have hl := lv_entry ([.ref h0, .int (nI j), .int i]) (n := 3) (Nat.le_of_ble_eq_true rfl)
  rw [lg_entry_eq]
  generalize (lg_sl ([.ref h0, .int (nI j), .int i]) ++ List.replicate (3 - (lg_sl ([.ref h0, .int (nI j), .int i])).length) Slot.unset).toArray = ls at hl ⊢
  have hl : lv_has ls 3 [(0, .ref h0), (1, .int (nI j)), (2, .int i)] := hl
  subst hsz
  have hS : va_S A s.heap s.heap [] := va_S.rf
  refine lv_aload_n hx hb dX2_readLong_0 rfl (lv_at hl 0 rfl) ?_
  refine lv_aload_n hx hb dX2_readLong_1 rfl (lv_at hl 0 rfl) ?_
  refine lv_iload_n hx hb dX2_readLong_2 rfl (lv_at hl 1 rfl) ?_
  refine va_csr (tc_CR (va_runV (As := [.int (nI j)]) (rest := [.ref h0]) ⟨hx, hb, hml, hown, hts⟩ (tX2_columnAt l D A cI cJ cD cC h0 h1 h2 h3 h4 ad wd rd Y n K Ln Wh Re cd ct s.heap.size hI.1 j hj) (cwV 1 hts gX2_readLong_X2_columnAt rfl rfl rfl (by decide +kernel) ⟨Nat.le_of_ble_eq_true rfl, Nat.le_of_ble_eq_true rfl⟩) ⟨tcP.blind, va_recv hK hP (ci := 2) (q0 := 0) rfl rfl, tcP.go hK hP hD hE hS⟩ rfl rfl hl.1 rfl (lv_room (Nat.le_of_ble_eq_true rfl)) dX2_readLong_3 ⟨Nat.le_of_ble_eq_true rfl, Nat.le_of_ble_eq_true rfl⟩)) (fun _ _ => ?_)
  refine lv_iload_n hx hb dX2_readLong_6 rfl (lv_at hl 2 rfl) ?_
  refine lv_bipush (v := 6) hx hb dX2_readLong_7 (by decide) ?_
  refine va_calll (va_runV (As := [.ref (ad j), .int i, .int 6]) (rest := []) ⟨hx, hb, hml, hown, hts⟩ (tX2_readWhole l D A cI cJ cD cC h0 h1 h2 h3 h4 ad wd rd Y n K Ln Wh Re cd ct s.heap.size hI j hj i 6 (fun a h => kWid_low h (by decide))) (cwV 3 hts gX2_readLong_X2_readWhole rfl rfl rfl (by decide +kernel) ⟨Nat.le_of_ble_eq_true rfl, Nat.le_of_ble_eq_true rfl⟩) ⟨tcP.blind, (va_recv hK hP (ci := 2) (q0 := 0) rfl rfl), (tcP.go hK hP hD hE hS)⟩ rfl rfl hl.1 rfl (lv_room (Nat.le_of_ble_eq_true rfl)) dX2_readLong_9 ⟨Nat.le_of_ble_eq_true rfl, Nat.le_of_ble_eq_true rfl⟩) hS (fun q _ h => h) (fun q h => h) (fun r_1 u t H locs ht hvm hw hB hz1 hk1 hS => ?_)
  subst hw
  obtain ⟨hP, hD⟩ := hB
  rw [ht] at hP
  exact W.lret (v := (rdW K Ln Wh j i 6)) hx hb hr (fun t9 ht9 hW9 => ⟨⟨(rdW K Ln Wh j i 6), (), rfl, rfl, by rw [ht9]; exact hP, hD⟩, hS.F ht9⟩) hS.2.2 dX2_readLong_12
set_option maxHeartbeats 4000000 in
set_option maxRecDepth 100000 in
theorem tX2_readDouble (l : Launch) (D : va_G) (A : Nat → Prop) (cI cJ cD cC : ClassId) (h0 h1 h2 h3 h4 : Nat) (ad wd rd : Nat → Nat) (Y : va_W) (n : Nat) (K : Nat → Int32) (Ln : Nat → Nat) (Wh : Nat → Int64) (Re : Nat → UInt64) (cd : Int32) (ct : Nat → Int32) (sz : Nat) (hI : tcI n K Ln Wh Re) (j : Nat) (hj : j < n) (i : Int32) : Met l yX2_readDouble wsX2_readDouble ({ frames := 4, cells := 0, slots := 0, locals := 89 }) (tcP D A (tcTY cI cJ cD cC) sz [.ref h0, .int (nI j), .int i] (tc_T cI cJ cD cC h0 h1 h2 h3 h4 ad wd rd Y n K Ln Wh Re cd ct)) (va_Qd (fun r (_ : Unit) => r = rdR K Ln Wh Re j i 8) (fun _ t => tcB D A (tc_T cI cJ cD cC h0 h1 h2 h3 h4 ad wd rd Y n K Ln Wh Re (cdR K Ln j i (K j) 8) (noteC ct (cdR K Ln j i (K j) 8))) t) A) 0 0 A := by
  refine Met.ofW (cc := cX2_readDouble) (maxL := 3) (ret := (some .double)) (by decide) rfl ?_
  intro p e s m args below meth c s₁ B hml hv
  obtain ⟨rfl, hsz, hP, hK, hD, hE⟩ := hv
  have hx := B.exec
  have hb := B.bytes
  have hr := B.returns
  have hts := atoms_spec (ws := wsX2_readDouble) B.pre
  have hown : s.vm.findClass RX2 = some m.cls := findClass_of_methodNamed B.named
  have hlocks := B.notSynchronized
  have hl := lv_entry ([.ref h0, .int (nI j), .int i]) (n := 3) (Nat.le_of_ble_eq_true rfl)
  rw [lg_entry_eq]
  generalize (lg_sl ([.ref h0, .int (nI j), .int i]) ++ List.replicate (3 - (lg_sl ([.ref h0, .int (nI j), .int i])).length) Slot.unset).toArray = ls at hl ⊢
  have hl : lv_has ls 3 [(0, .ref h0), (1, .int (nI j)), (2, .int i)] := hl
  subst hsz
  have hS : va_S A s.heap s.heap [] := va_S.rf
  refine lv_aload_n hx hb dX2_readDouble_0 rfl (lv_at hl 0 rfl) ?_
  refine lv_aload_n hx hb dX2_readDouble_1 rfl (lv_at hl 0 rfl) ?_
  refine lv_iload_n hx hb dX2_readDouble_2 rfl (lv_at hl 1 rfl) ?_
  refine va_csr (tc_CR (va_runV (As := [.int (nI j)]) (rest := [.ref h0]) ⟨hx, hb, hml, hown, hts⟩ (tX2_columnAt l D A cI cJ cD cC h0 h1 h2 h3 h4 ad wd rd Y n K Ln Wh Re cd ct s.heap.size hI.1 j hj) (cwV 1 hts gX2_readDouble_X2_columnAt rfl rfl rfl (by decide +kernel) ⟨Nat.le_of_ble_eq_true rfl, Nat.le_of_ble_eq_true rfl⟩) ⟨tcP.blind, va_recv hK hP (ci := 2) (q0 := 0) rfl rfl, tcP.go hK hP hD hE hS⟩ rfl rfl hl.1 rfl (lv_room (Nat.le_of_ble_eq_true rfl)) dX2_readDouble_3 ⟨Nat.le_of_ble_eq_true rfl, Nat.le_of_ble_eq_true rfl⟩)) (fun _ _ => ?_)
  refine lv_iload_n hx hb dX2_readDouble_6 rfl (lv_at hl 2 rfl) ?_
  refine lv_bipush (v := 8) hx hb dX2_readDouble_7 (by decide) ?_
  refine va_calld (va_runV (As := [.ref (ad j), .int i, .int 8]) (rest := []) ⟨hx, hb, hml, hown, hts⟩ (tX2_readReal l D A cI cJ cD cC h0 h1 h2 h3 h4 ad wd rd Y n K Ln Wh Re cd ct s.heap.size hI j hj i 8) (cwV 3 hts gX2_readDouble_X2_readReal rfl rfl rfl (by decide +kernel) ⟨Nat.le_of_ble_eq_true rfl, Nat.le_of_ble_eq_true rfl⟩) ⟨tcP.blind, (va_recv hK hP (ci := 2) (q0 := 0) rfl rfl), (tcP.go hK hP hD hE hS)⟩ rfl rfl hl.1 rfl (lv_room (Nat.le_of_ble_eq_true rfl)) dX2_readDouble_9 ⟨Nat.le_of_ble_eq_true rfl, Nat.le_of_ble_eq_true rfl⟩) hS (fun q _ h => h) (fun q h => h) (fun r_1 u t H locs ht hvm hw hB hz1 hk1 hS => ?_)
  subst hw
  obtain ⟨hP, hD⟩ := hB
  rw [ht] at hP
  exact W.dret (v := (rdR K Ln Wh Re j i 8)) hx hb hr (fun t9 ht9 hW9 => ⟨⟨(rdR K Ln Wh Re j i 8), (), rfl, rfl, by rw [ht9]; exact hP, hD⟩, hS.F ht9⟩) hS.2.2 dX2_readDouble_12
set_option maxHeartbeats 4000000 in
set_option maxRecDepth 100000 in
theorem tX2_readAny (l : Launch) (D : va_G) (A : Nat → Prop) (cI cJ cD cC : ClassId) (h0 h1 h2 h3 h4 : Nat) (ad wd rd : Nat → Nat) (Y : va_W) (n : Nat) (K : Nat → Int32) (Ln : Nat → Nat) (Wh : Nat → Int64) (Re : Nat → UInt64) (cd : Int32) (ct : Nat → Int32) (sz : Nat) (hI : tcI n K Ln Wh Re) (j : Nat) (hj : j < n) (i : Int32) : Met l yX2_readAny wsX2_readAny ({ frames := 4, cells := 0, slots := 0, locals := 89 }) (tcP D A (tcTY cI cJ cD cC) sz [.ref h0, .int (nI j), .int i] (tc_T cI cJ cD cC h0 h1 h2 h3 h4 ad wd rd Y n K Ln Wh Re cd ct)) (va_Qd (fun r (_ : Unit) => r = rdR K Ln Wh Re j i (K j)) (fun _ t => tcB D A (tc_T cI cJ cD cC h0 h1 h2 h3 h4 ad wd rd Y n K Ln Wh Re (cdR K Ln j i (K j) (K j)) (noteC ct (cdR K Ln j i (K j) (K j)))) t) A) 0 0 A := by
  refine Met.ofW (cc := cX2_readAny) (maxL := 4) (ret := (some .double)) (by decide) rfl ?_
  intro p e s m args below meth c s₁ B hml hv
  obtain ⟨rfl, hsz, hP, hK, hD, hE⟩ := hv
  have hx := B.exec
  have hb := B.bytes
  have hr := B.returns
  have hts := atoms_spec (ws := wsX2_readAny) B.pre
  have hown : s.vm.findClass RX2 = some m.cls := findClass_of_methodNamed B.named
  have hlocks := B.notSynchronized
  have hl := lv_entry ([.ref h0, .int (nI j), .int i]) (n := 4) (Nat.le_of_ble_eq_true rfl)
  rw [lg_entry_eq]
  generalize (lg_sl ([.ref h0, .int (nI j), .int i]) ++ List.replicate (4 - (lg_sl ([.ref h0, .int (nI j), .int i])).length) Slot.unset).toArray = ls at hl ⊢
  have hl : lv_has ls 4 [(0, .ref h0), (1, .int (nI j)), (2, .int i)] := hl
  subst hsz
  have hS : va_S A s.heap s.heap [] := va_S.rf
  refine lv_aload_n hx hb dX2_readAny_0 rfl (lv_at hl 0 rfl) ?_
  refine lv_iload_n hx hb dX2_readAny_1 rfl (lv_at hl 1 rfl) ?_
  refine va_csr (tc_CR (va_runV (As := [.int (nI j)]) (rest := []) ⟨hx, hb, hml, hown, hts⟩ (tX2_columnAt l D A cI cJ cD cC h0 h1 h2 h3 h4 ad wd rd Y n K Ln Wh Re cd ct s.heap.size hI.1 j hj) (cwV 1 hts gX2_readAny_X2_columnAt rfl rfl rfl (by decide +kernel) ⟨Nat.le_of_ble_eq_true rfl, Nat.le_of_ble_eq_true rfl⟩) ⟨tcP.blind, va_recv hK hP (ci := 2) (q0 := 0) rfl rfl, tcP.go hK hP hD hE hS⟩ rfl rfl hl.1 rfl (lv_room (Nat.le_of_ble_eq_true rfl)) dX2_readAny_2 ⟨Nat.le_of_ble_eq_true rfl, Nat.le_of_ble_eq_true rfl⟩)) (fun _ _ => ?_)
  refine lv_astore_n (lv' := [(3, .ref (ad j)), (0, .ref h0), (1, .int (nI j)), (2, .int i)]) hx hb dX2_readAny_5 rfl hl (by decide) rfl (fun ls hl => ?_)
  refine lv_aload_n hx hb dX2_readAny_6 rfl (lv_at hl 1 rfl) ?_
  refine lv_aload_n hx hb dX2_readAny_7 rfl (lv_at hl 0 rfl) ?_
  refine lv_iload_n hx hb dX2_readAny_8 rfl (lv_at hl 3 rfl) ?_
  refine lv_aload_n hx hb dX2_readAny_9 rfl (lv_at hl 0 rfl) ?_
  refine va_get (D := D) (ci := 0) (fs := [.int (K j), .int (tc_cl (K j) (Ln j)), .ref (wd j), .ref (rd j)]) (v := .int (K j)) (C := RX0) (T := TX0) (N := 4) hx hb hts (by decide +kernel) hown hK hP (5 + (Y.length + (3 * j + 0))) (tc_T0 hj) rfl 0 (by decide) (hts (.fieldLink RX2 66 "TypedColumns$Column" "kind" "I") (by decide +kernel)) (fun _ h9 => h9) rfl dX2_readAny_10 ?_
  refine va_calld (va_runV (As := [.ref (ad j), .int i, .int (K j)]) (rest := []) ⟨hx, hb, hml, hown, hts⟩ (tX2_readReal l D A cI cJ cD cC h0 h1 h2 h3 h4 ad wd rd Y n K Ln Wh Re cd ct s.heap.size hI j hj i (K j)) (cwV 3 hts gX2_readAny_X2_readReal rfl rfl rfl (by decide +kernel) ⟨Nat.le_of_ble_eq_true rfl, Nat.le_of_ble_eq_true rfl⟩) ⟨tcP.blind, (va_recv hK hP (ci := 2) (q0 := 0) rfl rfl), (tcP.go hK hP hD hE hS)⟩ rfl rfl hl.1 rfl (lv_room (Nat.le_of_ble_eq_true rfl)) dX2_readAny_13 ⟨Nat.le_of_ble_eq_true rfl, Nat.le_of_ble_eq_true rfl⟩) hS (fun q _ h => h) (fun q h => h) (fun r_1 u t H locs ht hvm hw hB hz1 hk1 hS => ?_)
  subst hw
  obtain ⟨hP, hD⟩ := hB
  rw [ht] at hP
  exact W.dret (v := (rdR K Ln Wh Re j i (K j))) hx hb hr (fun t9 ht9 hW9 => ⟨⟨(rdR K Ln Wh Re j i (K j)), (), rfl, rfl, by rw [ht9]; exact hP, hD⟩, hS.F ht9⟩) hS.2.2 dX2_readAny_16
set_option maxHeartbeats 4000000 in
set_option maxRecDepth 100000 in
theorem tX2_readFloat (l : Launch) (D : va_G) (A : Nat → Prop) (cI cJ cD cC : ClassId) (h0 h1 h2 h3 h4 : Nat) (ad wd rd : Nat → Nat) (Y : va_W) (n : Nat) (K : Nat → Int32) (Ln : Nat → Nat) (Wh : Nat → Int64) (Re : Nat → UInt64) (cd : Int32) (ct : Nat → Int32) (sz : Nat) (hI : tcI n K Ln Wh Re) (j : Nat) (hj : j < n) (i : Int32) : Met l yX2_readFloat wsX2_readFloat ({ frames := 3, cells := 0, slots := 0, locals := 65 }) (tcP D A (tcTY cI cJ cD cC) sz [.ref h0, .int (nI j), .int i] (tc_T cI cJ cD cC h0 h1 h2 h3 h4 ad wd rd Y n K Ln Wh Re cd ct)) (va_Qf (fun r (_ : Unit) => r = rdF K Ln Wh Re j i) (fun _ t => tcB D A (tc_T cI cJ cD cC h0 h1 h2 h3 h4 ad wd rd Y n K Ln Wh Re (cdR K Ln j i (K j) 7) (noteC ct (cdR K Ln j i (K j) 7))) t) A) 0 0 A := by
  refine Met.ofW (cc := cX2_readFloat) (maxL := 5) (ret := (some .float)) (by decide) rfl ?_
  intro p e s m args below meth c s₁ B hml hv
  obtain ⟨rfl, hsz, hP, hK, hD, hE⟩ := hv
  have hx := B.exec
  have hb := B.bytes
  have hr := B.returns
  have hts := atoms_spec (ws := wsX2_readFloat) B.pre
  have hown : s.vm.findClass RX2 = some m.cls := findClass_of_methodNamed B.named
  have hlocks := B.notSynchronized
  have hl := lv_entry ([.ref h0, .int (nI j), .int i]) (n := 5) (Nat.le_of_ble_eq_true rfl)
  rw [lg_entry_eq]
  generalize (lg_sl ([.ref h0, .int (nI j), .int i]) ++ List.replicate (5 - (lg_sl ([.ref h0, .int (nI j), .int i])).length) Slot.unset).toArray = ls at hl ⊢
  have hl : lv_has ls 5 [(0, .ref h0), (1, .int (nI j)), (2, .int i)] := hl
  subst hsz
  have hS : va_S A s.heap s.heap [] := va_S.rf
  refine lv_aload_n hx hb dX2_readFloat_0 rfl (lv_at hl 0 rfl) ?_
  refine lv_iload_n hx hb dX2_readFloat_1 rfl (lv_at hl 1 rfl) ?_
  refine va_csr (tc_CR (va_runV (As := [.int (nI j)]) (rest := []) ⟨hx, hb, hml, hown, hts⟩ (tX2_columnAt l D A cI cJ cD cC h0 h1 h2 h3 h4 ad wd rd Y n K Ln Wh Re cd ct s.heap.size hI.1 j hj) (cwV 1 hts gX2_readFloat_X2_columnAt rfl rfl rfl (by decide +kernel) ⟨Nat.le_of_ble_eq_true rfl, Nat.le_of_ble_eq_true rfl⟩) ⟨tcP.blind, va_recv hK hP (ci := 2) (q0 := 0) rfl rfl, tcP.go hK hP hD hE hS⟩ rfl rfl hl.1 rfl (lv_room (Nat.le_of_ble_eq_true rfl)) dX2_readFloat_2 ⟨Nat.le_of_ble_eq_true rfl, Nat.le_of_ble_eq_true rfl⟩)) (fun _ _ => ?_)
  refine lv_astore_n (lv' := [(3, .ref (ad j)), (0, .ref h0), (1, .int (nI j)), (2, .int i)]) hx hb dX2_readFloat_5 rfl hl (by decide) rfl (fun ls hl => ?_)
  refine lv_aload_n hx hb dX2_readFloat_6 rfl (lv_at hl 1 rfl) ?_
  refine lv_aload_n hx hb dX2_readFloat_7 rfl (lv_at hl 0 rfl) ?_
  refine lv_iload_n hx hb dX2_readFloat_8 rfl (lv_at hl 3 rfl) ?_
  refine lv_aload_n hx hb dX2_readFloat_9 rfl (lv_at hl 0 rfl) ?_
  refine va_get (D := D) (ci := 0) (fs := [.int (K j), .int (tc_cl (K j) (Ln j)), .ref (wd j), .ref (rd j)]) (v := .int (K j)) (C := RX0) (T := TX0) (N := 4) hx hb hts (by decide +kernel) hown hK hP (5 + (Y.length + (3 * j + 0))) (tc_T0 hj) rfl 0 (by decide) (hts (.fieldLink RX2 66 "TypedColumns$Column" "kind" "I") (by decide +kernel)) (fun _ h9 => h9) rfl dX2_readFloat_10 ?_
  refine lv_bipush (v := 7) hx hb dX2_readFloat_13 (by decide) ?_
  refine vp_callSi (tc_CR (va_runS (As := [.ref (ad j), .int i, .int (K j), .int 7]) (rest := [.ref h0]) ⟨hx, hb, hml, hown, hts⟩ (oX2_codeOfCell l D A cI cJ cD cC (tc_T cI cJ cD cC h0 h1 h2 h3 h4 ad wd rd Y n K Ln Wh Re cd ct) (5 + (Y.length + (3 * j + 0))) (5 + (Y.length + (3 * j + 1))) (5 + (Y.length + (3 * j + 2))) (ad j) (wd j) (rd j) (K j) (tc_cl (K j) (Ln j)) (tc_wl (K j) (Ln j)) (tc_rl (K j) (Ln j)) (tc_sl (tc_wl (K j) (Ln j)) (fun i => Wh (40 * j + i)) 0) (tc_sl (tc_rl (K j) (Ln j)) (fun i => Re (40 * j + i)) 0) s.heap.size (tc_T0 hj) (tc_T1 hj) (tc_T2 hj) (tc_len_lt (hI.2.1 j hj).2.1) i (K j) 7) (va_cwS 4 hts gX2_readFloat_X2_codeOfCell rfl rfl rfl (by decide +kernel) ⟨Nat.le_of_ble_eq_true rfl, Nat.le_of_ble_eq_true rfl⟩) ⟨tcP.blind, (tcP.go hK hP hD hE hS)⟩ rfl rfl hl.1 rfl (lv_room (Nat.le_of_ble_eq_true rfl)) dX2_readFloat_15 ⟨Nat.le_of_ble_eq_true rfl, Nat.le_of_ble_eq_true rfl⟩)) (fun r_1 hr_1 => ?_)
  subst hr_1
  refine va_calli (va_runV (As := [.int (cdR K Ln j i (K j) 7)]) (rest := []) ⟨hx, hb, hml, hown, hts⟩ (tX2_note l D A cI cJ cD cC h0 h1 h2 h3 h4 ad wd rd Y n K Ln Wh Re cd ct s.heap.size (cdR K Ln j i (K j) 7) (kCell_in _ _ _ _ _)) (cwV 1 hts gX2_readFloat_X2_note rfl rfl rfl (by decide +kernel) ⟨Nat.le_of_ble_eq_true rfl, Nat.le_of_ble_eq_true rfl⟩) ⟨tcP.blind, (va_recv hK hP (ci := 2) (q0 := 0) rfl rfl), (tcP.go hK hP hD hE hS)⟩ rfl rfl hl.1 rfl (lv_room (Nat.le_of_ble_eq_true rfl)) dX2_readFloat_18 ⟨Nat.le_of_ble_eq_true rfl, Nat.le_of_ble_eq_true rfl⟩) hS (fun q _ h => h) (fun q h => h) (fun r_2 u t H locs ht hvm hw hB hz1 hk1 hS => ?_)
  subst hw
  obtain ⟨hP, hD⟩ := hB
  rw [ht] at hP
  refine lv_istore (lv' := [(4, .int (cdR K Ln j i (K j) 7)), (3, .ref (ad j)), (0, .ref h0), (1, .int (nI j)), (2, .int i)]) hx hb dX2_readFloat_21 hl (by decide) rfl (fun ls hl => ?_)
  refine lv_iload hx hb dX2_readFloat_23 (lv_at hl 0 rfl) ?_
  refine lv_if_ne (tgt := 36) hx hb dX2_readFloat_25 (by decide) (fun c_3 => ?_) (fun c_3 => ?_)
  · refine lv_fconst0 hx hb dX2_readFloat_36 ?_
    exact W.fret (v := FP.fconst0) hx hb hr (fun t9 ht9 hW9 => ⟨⟨FP.fconst0, (), rfl, by unfold rdF; rw [if_neg c_3]; rfl, by rw [ht9]; exact hP, hD⟩, hS.F ht9⟩) hS.2.2 dX2_readFloat_37
  · refine lv_aload_n hx hb dX2_readFloat_28 rfl (lv_at hl 1 rfl) ?_
    refine lv_iload_n hx hb dX2_readFloat_29 rfl (lv_at hl 4 rfl) ?_
    have g0 := cdR_0 (hI.2.1 j hj).1 (hI.2.1 j hj).2.1 c_3
    cases gf : kFl (K j)
    · have gi : vp_in i (tc_wl (K j) (Ln j)) := by rw [tc_wl_n gf]; exact g0.2.2
      refine vp_callSf (tc_CR (va_runV (As := [.int i]) (rest := []) ⟨hx, hb, hml, hown, hts⟩ (oX0_floatAt_w l D A cI cJ cD cC (tc_T cI cJ cD cC h0 h1 h2 h3 h4 ad wd rd Y n K Ln Wh Re (cdR K Ln j i (K j) 7) (noteC ct (cdR K Ln j i (K j) 7))) (5 + (Y.length + (3 * j + 0))) (5 + (Y.length + (3 * j + 1))) (5 + (Y.length + (3 * j + 2))) (ad j) (wd j) (rd j) (K j) (tc_cl (K j) (Ln j)) (tc_wl (K j) (Ln j)) (tc_rl (K j) (Ln j)) (tc_sl (tc_wl (K j) (Ln j)) (fun i => Wh (40 * j + i)) 0) (tc_sl (tc_rl (K j) (Ln j)) (fun i => Re (40 * j + i)) 0) H.size (tc_T0 hj) (tc_T1 hj) (tc_T2 hj) (tc_len_lt (hI.2.1 j hj).2.1) i gi gf) (cwV 1 hts gX2_readFloat_X0_floatAt rfl rfl rfl (by decide +kernel) ⟨Nat.le_of_ble_eq_true rfl, Nat.le_of_ble_eq_true rfl⟩) ⟨tcP.blind, (va_recv hK hP (ci := 0) (q0 := (5 + (Y.length + (3 * j + 0)))) rfl (tc_T0 hj)), (tcP.go hK hP hD hE hS)⟩ rfl rfl hl.1 rfl (lv_room (Nat.le_of_ble_eq_true rfl)) dX2_readFloat_30 ⟨Nat.le_of_ble_eq_true rfl, Nat.le_of_ble_eq_true rfl⟩)) (fun r_4 hr_4 => ?_)
      subst hr_4
      rw [tc_sl_in (vp_in_lt gi)]
      refine lv_goto (tgt := 37) hx hb dX2_readFloat_33 (by decide) ?_
      exact W.fret (v := (FP.l2f (Wh (40 * j + i.toNatClampNeg)))) hx hb hr (fun t9 ht9 hW9 => ⟨⟨(FP.l2f (Wh (40 * j + i.toNatClampNeg))), (), rfl, by unfold rdF; rw [if_pos c_3, if_neg (by rw [gf]; decide)], by rw [ht9]; exact hP, hD⟩, hS.F ht9⟩) hS.2.2 dX2_readFloat_37
    · have gi : vp_in i (tc_rl (K j) (Ln j)) := by rw [tc_rl_n gf]; exact g0.2.2
      have gz : FP.Core.dIsNaN (tc_sl (tc_rl (K j) (Ln j)) (fun i => Re (40 * j + i)) 0 i.toNatClampNeg) = false := by rw [tc_sl_in (vp_in_lt gi)]; exact hI.2.2.2 j hj gf _ (vp_in_lt g0.2.2)
      refine vp_callSf (tc_CR (va_runV (As := [.int i]) (rest := []) ⟨hx, hb, hml, hown, hts⟩ (oX0_floatAt_r l D A cI cJ cD cC (tc_T cI cJ cD cC h0 h1 h2 h3 h4 ad wd rd Y n K Ln Wh Re (cdR K Ln j i (K j) 7) (noteC ct (cdR K Ln j i (K j) 7))) (5 + (Y.length + (3 * j + 0))) (5 + (Y.length + (3 * j + 1))) (5 + (Y.length + (3 * j + 2))) (ad j) (wd j) (rd j) (K j) (tc_cl (K j) (Ln j)) (tc_wl (K j) (Ln j)) (tc_rl (K j) (Ln j)) (tc_sl (tc_wl (K j) (Ln j)) (fun i => Wh (40 * j + i)) 0) (tc_sl (tc_rl (K j) (Ln j)) (fun i => Re (40 * j + i)) 0) H.size (tc_T0 hj) (tc_T1 hj) (tc_T2 hj) (tc_len_lt (hI.2.1 j hj).2.1) i gi gf gz) (cwV 1 hts gX2_readFloat_X0_floatAt rfl rfl rfl (by decide +kernel) ⟨Nat.le_of_ble_eq_true rfl, Nat.le_of_ble_eq_true rfl⟩) ⟨tcP.blind, (va_recv hK hP (ci := 0) (q0 := (5 + (Y.length + (3 * j + 0)))) rfl (tc_T0 hj)), (tcP.go hK hP hD hE hS)⟩ rfl rfl hl.1 rfl (lv_room (Nat.le_of_ble_eq_true rfl)) dX2_readFloat_30 ⟨Nat.le_of_ble_eq_true rfl, Nat.le_of_ble_eq_true rfl⟩)) (fun r_5 hr_5 => ?_)
      subst hr_5
      rw [tc_sl_in (vp_in_lt gi)]
      refine lv_goto (tgt := 37) hx hb dX2_readFloat_33 (by decide) ?_
      exact W.fret (v := (FP.d2f (Re (40 * j + i.toNatClampNeg)))) hx hb hr (fun t9 ht9 hW9 => ⟨⟨(FP.d2f (Re (40 * j + i.toNatClampNeg))), (), rfl, by unfold rdF; rw [if_pos c_3, if_pos gf], by rw [ht9]; exact hP, hD⟩, hS.F ht9⟩) hS.2.2 dX2_readFloat_37
set_option maxHeartbeats 4000000 in
set_option maxRecDepth 100000 in
theorem tX2_writeBoolean (l : Launch) (D : va_G) (A : Nat → Prop) (cI cJ cD cC : ClassId) (h0 h1 h2 h3 h4 : Nat) (ad wd rd : Nat → Nat) (Y : va_W) (n : Nat) (K : Nat → Int32) (Ln : Nat → Nat) (Wh : Nat → Int64) (Re : Nat → UInt64) (cd : Int32) (ct : Nat → Int32) (sz : Nat) (hI : tcI n K Ln Wh Re) (j : Nat) (hj : j < n) (i v : Int32) : Met l yX2_writeBoolean wsX2_writeBoolean ({ frames := 4, cells := 0, slots := 0, locals := 91 }) (tcP D A (tcTY cI cJ cD cC) sz [.ref h0, .int (nI j), .int i, .int v] (tc_T cI cJ cD cC h0 h1 h2 h3 h4 ad wd rd Y n K Ln Wh Re cd ct)) (va_Qi (fun r (_ : Unit) => r = cdR K Ln j i 1 (K j)) (fun _ t => tcB D A (tc_T cI cJ cD cC h0 h1 h2 h3 h4 ad wd rd Y n K Ln (wrW K Ln Wh j i 1 (kMade v 1)) (wrR K Ln Re j i 1 (kMade v 1)) (cdR K Ln j i 1 (K j)) (noteC ct (cdR K Ln j i 1 (K j)))) t) A) 0 0 A := by
  refine Met.ofW (cc := cX2_writeBoolean) (maxL := 4) (ret := (some .int)) (by decide) rfl ?_
  intro p e s m args below meth c s₁ B hml hv
  obtain ⟨rfl, hsz, hP, hK, hD, hE⟩ := hv
  have hx := B.exec
  have hb := B.bytes
  have hr := B.returns
  have hts := atoms_spec (ws := wsX2_writeBoolean) B.pre
  have hown : s.vm.findClass RX2 = some m.cls := findClass_of_methodNamed B.named
  have hlocks := B.notSynchronized
  have hl := lv_entry ([.ref h0, .int (nI j), .int i, .int v]) (n := 4) (Nat.le_of_ble_eq_true rfl)
  rw [lg_entry_eq]
  generalize (lg_sl ([.ref h0, .int (nI j), .int i, .int v]) ++ List.replicate (4 - (lg_sl ([.ref h0, .int (nI j), .int i, .int v])).length) Slot.unset).toArray = ls at hl ⊢
  have hl : lv_has ls 4 [(0, .ref h0), (1, .int (nI j)), (2, .int i), (3, .int v)] := hl
  subst hsz
  have hS : va_S A s.heap s.heap [] := va_S.rf
  refine lv_aload_n hx hb dX2_writeBoolean_0 rfl (lv_at hl 0 rfl) ?_
  refine lv_aload_n hx hb dX2_writeBoolean_1 rfl (lv_at hl 0 rfl) ?_
  refine lv_iload_n hx hb dX2_writeBoolean_2 rfl (lv_at hl 1 rfl) ?_
  refine va_csr (tc_CR (va_runV (As := [.int (nI j)]) (rest := [.ref h0]) ⟨hx, hb, hml, hown, hts⟩ (tX2_columnAt l D A cI cJ cD cC h0 h1 h2 h3 h4 ad wd rd Y n K Ln Wh Re cd ct s.heap.size hI.1 j hj) (cwV 1 hts gX2_writeBoolean_X2_columnAt rfl rfl rfl (by decide +kernel) ⟨Nat.le_of_ble_eq_true rfl, Nat.le_of_ble_eq_true rfl⟩) ⟨tcP.blind, va_recv hK hP (ci := 2) (q0 := 0) rfl rfl, tcP.go hK hP hD hE hS⟩ rfl rfl hl.1 rfl (lv_room (Nat.le_of_ble_eq_true rfl)) dX2_writeBoolean_3 ⟨Nat.le_of_ble_eq_true rfl, Nat.le_of_ble_eq_true rfl⟩)) (fun _ _ => ?_)
  refine lv_iload_n hx hb dX2_writeBoolean_6 rfl (lv_at hl 2 rfl) ?_
  refine lv_iconst (v := 1) hx hb dX2_writeBoolean_7 (by decide) ?_
  refine lv_iload_n hx hb dX2_writeBoolean_8 rfl (lv_at hl 3 rfl) ?_
  refine lv_if_eq (tgt := 16) hx hb dX2_writeBoolean_9 (by decide) (fun c_1 => ?_) (fun c_1 => ?_)
  · refine lv_lconst (v := 0) hx hb dX2_writeBoolean_16 (by decide) ?_
    refine va_calli (va_runV (As := [.ref (ad j), .int i, .int 1, .long 0]) (rest := []) ⟨hx, hb, hml, hown, hts⟩ (tX2_writeWhole l D A cI cJ cD cC h0 h1 h2 h3 h4 ad wd rd Y n K Ln Wh Re cd ct s.heap.size hI j hj i 1 0) (cwV 4 hts gX2_writeBoolean_X2_writeWhole rfl rfl rfl (by decide +kernel) ⟨Nat.le_of_ble_eq_true rfl, Nat.le_of_ble_eq_true rfl⟩) ⟨tcP.blind, (va_recv hK hP (ci := 2) (q0 := 0) rfl rfl), (tcP.go hK hP hD hE hS)⟩ rfl rfl hl.1 rfl (lv_room (Nat.le_of_ble_eq_true rfl)) dX2_writeBoolean_17 ⟨Nat.le_of_ble_eq_true rfl, Nat.le_of_ble_eq_true rfl⟩) hS (fun q _ h => h) (fun q h => h) (fun r_2 u t H locs ht hvm hw hB hz1 hk1 hS => ?_)
    subst hw
    obtain ⟨hP, hD⟩ := hB
    rw [ht] at hP
    have z1 : kMade v 1 = 0 := by unfold kMade; rw [if_pos rfl, if_pos c_1]
    have hP : va_P D vwCl (tc_T cI cJ cD cC h0 h1 h2 h3 h4 ad wd rd Y n K Ln (wrW K Ln Wh j i 1 (kMade v 1)) (wrR K Ln Re j i 1 (kMade v 1)) (cdR K Ln j i 1 (K j)) (noteC ct (cdR K Ln j i 1 (K j)))) H := by rw [z1]; exact hP
    have hD : va_D A (tc_T cI cJ cD cC h0 h1 h2 h3 h4 ad wd rd Y n K Ln (wrW K Ln Wh j i 1 (kMade v 1)) (wrR K Ln Re j i 1 (kMade v 1)) (cdR K Ln j i 1 (K j)) (noteC ct (cdR K Ln j i 1 (K j)))) := by rw [z1]; exact hD
    exact W.iret (v := (cdR K Ln j i 1 (K j))) hx hb hr (fun t9 ht9 hW9 => ⟨⟨(cdR K Ln j i 1 (K j)), (), rfl, rfl, by rw [ht9]; exact hP, hD⟩, hS.F ht9⟩) hS.2.2 dX2_writeBoolean_20
  · refine lv_lconst (v := 1) hx hb dX2_writeBoolean_12 (by decide) ?_
    refine lv_goto (tgt := 17) hx hb dX2_writeBoolean_13 (by decide) ?_
    refine va_calli (va_runV (As := [.ref (ad j), .int i, .int 1, .long 1]) (rest := []) ⟨hx, hb, hml, hown, hts⟩ (tX2_writeWhole l D A cI cJ cD cC h0 h1 h2 h3 h4 ad wd rd Y n K Ln Wh Re cd ct s.heap.size hI j hj i 1 1) (cwV 4 hts gX2_writeBoolean_X2_writeWhole rfl rfl rfl (by decide +kernel) ⟨Nat.le_of_ble_eq_true rfl, Nat.le_of_ble_eq_true rfl⟩) ⟨tcP.blind, (va_recv hK hP (ci := 2) (q0 := 0) rfl rfl), (tcP.go hK hP hD hE hS)⟩ rfl rfl hl.1 rfl (lv_room (Nat.le_of_ble_eq_true rfl)) dX2_writeBoolean_17 ⟨Nat.le_of_ble_eq_true rfl, Nat.le_of_ble_eq_true rfl⟩) hS (fun q _ h => h) (fun q h => h) (fun r_3 u t H locs ht hvm hw hB hz1 hk1 hS => ?_)
    subst hw
    obtain ⟨hP, hD⟩ := hB
    rw [ht] at hP
    have z1 : kMade v 1 = 1 := by unfold kMade; rw [if_pos rfl, if_neg c_1]
    have hP : va_P D vwCl (tc_T cI cJ cD cC h0 h1 h2 h3 h4 ad wd rd Y n K Ln (wrW K Ln Wh j i 1 (kMade v 1)) (wrR K Ln Re j i 1 (kMade v 1)) (cdR K Ln j i 1 (K j)) (noteC ct (cdR K Ln j i 1 (K j)))) H := by rw [z1]; exact hP
    have hD : va_D A (tc_T cI cJ cD cC h0 h1 h2 h3 h4 ad wd rd Y n K Ln (wrW K Ln Wh j i 1 (kMade v 1)) (wrR K Ln Re j i 1 (kMade v 1)) (cdR K Ln j i 1 (K j)) (noteC ct (cdR K Ln j i 1 (K j)))) := by rw [z1]; exact hD
    exact W.iret (v := (cdR K Ln j i 1 (K j))) hx hb hr (fun t9 ht9 hW9 => ⟨⟨(cdR K Ln j i 1 (K j)), (), rfl, rfl, by rw [ht9]; exact hP, hD⟩, hS.F ht9⟩) hS.2.2 dX2_writeBoolean_20
set_option maxHeartbeats 4000000 in
set_option maxRecDepth 100000 in
theorem tX2_writeByte (l : Launch) (D : va_G) (A : Nat → Prop) (cI cJ cD cC : ClassId) (h0 h1 h2 h3 h4 : Nat) (ad wd rd : Nat → Nat) (Y : va_W) (n : Nat) (K : Nat → Int32) (Ln : Nat → Nat) (Wh : Nat → Int64) (Re : Nat → UInt64) (cd : Int32) (ct : Nat → Int32) (sz : Nat) (hI : tcI n K Ln Wh Re) (j : Nat) (hj : j < n) (i : Int32) (v : Int32) : Met l yX2_writeByte wsX2_writeByte ({ frames := 4, cells := 0, slots := 0, locals := 91 }) (tcP D A (tcTY cI cJ cD cC) sz [.ref h0, .int (nI j), .int i, .int v] (tc_T cI cJ cD cC h0 h1 h2 h3 h4 ad wd rd Y n K Ln Wh Re cd ct)) (va_Qi (fun r (_ : Unit) => r = cdR K Ln j i 2 (K j)) (fun _ t => tcB D A (tc_T cI cJ cD cC h0 h1 h2 h3 h4 ad wd rd Y n K Ln (wrW K Ln Wh j i 2 v.toInt8.toInt32.toInt64) (wrR K Ln Re j i 2 v.toInt8.toInt32.toInt64) (cdR K Ln j i 2 (K j)) (noteC ct (cdR K Ln j i 2 (K j)))) t) A) 0 0 A := by
  refine Met.ofW (cc := cX2_writeByte) (maxL := 4) (ret := (some .int)) (by decide) rfl ?_
  intro p e s m args below meth c s₁ B hml hv
  obtain ⟨rfl, hsz, hP, hK, hD, hE⟩ := hv
  have hx := B.exec
  have hb := B.bytes
  have hr := B.returns
  have hts := atoms_spec (ws := wsX2_writeByte) B.pre
  have hown : s.vm.findClass RX2 = some m.cls := findClass_of_methodNamed B.named
  have hlocks := B.notSynchronized
  have hl := lv_entry ([.ref h0, .int (nI j), .int i, .int v]) (n := 4) (Nat.le_of_ble_eq_true rfl)
  rw [lg_entry_eq]
  generalize (lg_sl ([.ref h0, .int (nI j), .int i, .int v]) ++ List.replicate (4 - (lg_sl ([.ref h0, .int (nI j), .int i, .int v])).length) Slot.unset).toArray = ls at hl ⊢
  have hl : lv_has ls 4 [(0, .ref h0), (1, .int (nI j)), (2, .int i), (3, .int v)] := hl
  subst hsz
  have hS : va_S A s.heap s.heap [] := va_S.rf
  refine lv_aload_n hx hb dX2_writeByte_0 rfl (lv_at hl 0 rfl) ?_
  refine lv_aload_n hx hb dX2_writeByte_1 rfl (lv_at hl 0 rfl) ?_
  refine lv_iload_n hx hb dX2_writeByte_2 rfl (lv_at hl 1 rfl) ?_
  refine va_csr (tc_CR (va_runV (As := [.int (nI j)]) (rest := [.ref h0]) ⟨hx, hb, hml, hown, hts⟩ (tX2_columnAt l D A cI cJ cD cC h0 h1 h2 h3 h4 ad wd rd Y n K Ln Wh Re cd ct s.heap.size hI.1 j hj) (cwV 1 hts gX2_writeByte_X2_columnAt rfl rfl rfl (by decide +kernel) ⟨Nat.le_of_ble_eq_true rfl, Nat.le_of_ble_eq_true rfl⟩) ⟨tcP.blind, va_recv hK hP (ci := 2) (q0 := 0) rfl rfl, tcP.go hK hP hD hE hS⟩ rfl rfl hl.1 rfl (lv_room (Nat.le_of_ble_eq_true rfl)) dX2_writeByte_3 ⟨Nat.le_of_ble_eq_true rfl, Nat.le_of_ble_eq_true rfl⟩)) (fun _ _ => ?_)
  refine lv_iload_n hx hb dX2_writeByte_6 rfl (lv_at hl 2 rfl) ?_
  refine lv_iconst (v := 2) hx hb dX2_writeByte_7 (by decide) ?_
  refine lv_iload_n hx hb dX2_writeByte_8 rfl (lv_at hl 3 rfl) ?_
  refine lv_i2b (v := v.toInt8.toInt32) hx hb dX2_writeByte_9 rfl ?_
  refine lv_i2l (v := v.toInt8.toInt32.toInt64) hx hb dX2_writeByte_10 rfl ?_
  refine va_calli (va_runV (As := [.ref (ad j), .int i, .int 2, .long v.toInt8.toInt32.toInt64]) (rest := []) ⟨hx, hb, hml, hown, hts⟩ (tX2_writeWhole l D A cI cJ cD cC h0 h1 h2 h3 h4 ad wd rd Y n K Ln Wh Re cd ct s.heap.size hI j hj i 2 v.toInt8.toInt32.toInt64) (cwV 4 hts gX2_writeByte_X2_writeWhole rfl rfl rfl (by decide +kernel) ⟨Nat.le_of_ble_eq_true rfl, Nat.le_of_ble_eq_true rfl⟩) ⟨tcP.blind, (va_recv hK hP (ci := 2) (q0 := 0) rfl rfl), (tcP.go hK hP hD hE hS)⟩ rfl rfl hl.1 rfl (lv_room (Nat.le_of_ble_eq_true rfl)) dX2_writeByte_11 ⟨Nat.le_of_ble_eq_true rfl, Nat.le_of_ble_eq_true rfl⟩) hS (fun q _ h => h) (fun q h => h) (fun r_1 u t H locs ht hvm hw hB hz1 hk1 hS => ?_)
  subst hw
  obtain ⟨hP, hD⟩ := hB
  rw [ht] at hP
  exact W.iret (v := (cdR K Ln j i 2 (K j))) hx hb hr (fun t9 ht9 hW9 => ⟨⟨(cdR K Ln j i 2 (K j)), (), rfl, rfl, by rw [ht9]; exact hP, hD⟩, hS.F ht9⟩) hS.2.2 dX2_writeByte_14
set_option maxHeartbeats 4000000 in
set_option maxRecDepth 100000 in
theorem tX2_writeChar (l : Launch) (D : va_G) (A : Nat → Prop) (cI cJ cD cC : ClassId) (h0 h1 h2 h3 h4 : Nat) (ad wd rd : Nat → Nat) (Y : va_W) (n : Nat) (K : Nat → Int32) (Ln : Nat → Nat) (Wh : Nat → Int64) (Re : Nat → UInt64) (cd : Int32) (ct : Nat → Int32) (sz : Nat) (hI : tcI n K Ln Wh Re) (j : Nat) (hj : j < n) (i : Int32) (v : Int32) : Met l yX2_writeChar wsX2_writeChar ({ frames := 4, cells := 0, slots := 0, locals := 91 }) (tcP D A (tcTY cI cJ cD cC) sz [.ref h0, .int (nI j), .int i, .int v] (tc_T cI cJ cD cC h0 h1 h2 h3 h4 ad wd rd Y n K Ln Wh Re cd ct)) (va_Qi (fun r (_ : Unit) => r = cdR K Ln j i 3 (K j)) (fun _ t => tcB D A (tc_T cI cJ cD cC h0 h1 h2 h3 h4 ad wd rd Y n K Ln (wrW K Ln Wh j i 3 ((v.toUInt32 % 65536).toInt32.toInt64)) (wrR K Ln Re j i 3 ((v.toUInt32 % 65536).toInt32.toInt64)) (cdR K Ln j i 3 (K j)) (noteC ct (cdR K Ln j i 3 (K j)))) t) A) 0 0 A := by
  refine Met.ofW (cc := cX2_writeChar) (maxL := 4) (ret := (some .int)) (by decide) rfl ?_
  intro p e s m args below meth c s₁ B hml hv
  obtain ⟨rfl, hsz, hP, hK, hD, hE⟩ := hv
  have hx := B.exec
  have hb := B.bytes
  have hr := B.returns
  have hts := atoms_spec (ws := wsX2_writeChar) B.pre
  have hown : s.vm.findClass RX2 = some m.cls := findClass_of_methodNamed B.named
  have hlocks := B.notSynchronized
  have hl := lv_entry ([.ref h0, .int (nI j), .int i, .int v]) (n := 4) (Nat.le_of_ble_eq_true rfl)
  rw [lg_entry_eq]
  generalize (lg_sl ([.ref h0, .int (nI j), .int i, .int v]) ++ List.replicate (4 - (lg_sl ([.ref h0, .int (nI j), .int i, .int v])).length) Slot.unset).toArray = ls at hl ⊢
  have hl : lv_has ls 4 [(0, .ref h0), (1, .int (nI j)), (2, .int i), (3, .int v)] := hl
  subst hsz
  have hS : va_S A s.heap s.heap [] := va_S.rf
  refine lv_aload_n hx hb dX2_writeChar_0 rfl (lv_at hl 0 rfl) ?_
  refine lv_aload_n hx hb dX2_writeChar_1 rfl (lv_at hl 0 rfl) ?_
  refine lv_iload_n hx hb dX2_writeChar_2 rfl (lv_at hl 1 rfl) ?_
  refine va_csr (tc_CR (va_runV (As := [.int (nI j)]) (rest := [.ref h0]) ⟨hx, hb, hml, hown, hts⟩ (tX2_columnAt l D A cI cJ cD cC h0 h1 h2 h3 h4 ad wd rd Y n K Ln Wh Re cd ct s.heap.size hI.1 j hj) (cwV 1 hts gX2_writeChar_X2_columnAt rfl rfl rfl (by decide +kernel) ⟨Nat.le_of_ble_eq_true rfl, Nat.le_of_ble_eq_true rfl⟩) ⟨tcP.blind, va_recv hK hP (ci := 2) (q0 := 0) rfl rfl, tcP.go hK hP hD hE hS⟩ rfl rfl hl.1 rfl (lv_room (Nat.le_of_ble_eq_true rfl)) dX2_writeChar_3 ⟨Nat.le_of_ble_eq_true rfl, Nat.le_of_ble_eq_true rfl⟩)) (fun _ _ => ?_)
  refine lv_iload_n hx hb dX2_writeChar_6 rfl (lv_at hl 2 rfl) ?_
  refine lv_iconst (v := 3) hx hb dX2_writeChar_7 (by decide) ?_
  refine lv_iload_n hx hb dX2_writeChar_8 rfl (lv_at hl 3 rfl) ?_
  refine lv_i2c (v := (v.toUInt32 % 65536).toInt32) hx hb dX2_writeChar_9 rfl ?_
  refine lv_i2l (v := ((v.toUInt32 % 65536).toInt32).toInt64) hx hb dX2_writeChar_10 rfl ?_
  refine va_calli (va_runV (As := [.ref (ad j), .int i, .int 3, .long (((v.toUInt32 % 65536).toInt32).toInt64)]) (rest := []) ⟨hx, hb, hml, hown, hts⟩ (tX2_writeWhole l D A cI cJ cD cC h0 h1 h2 h3 h4 ad wd rd Y n K Ln Wh Re cd ct s.heap.size hI j hj i 3 (((v.toUInt32 % 65536).toInt32).toInt64)) (cwV 4 hts gX2_writeChar_X2_writeWhole rfl rfl rfl (by decide +kernel) ⟨Nat.le_of_ble_eq_true rfl, Nat.le_of_ble_eq_true rfl⟩) ⟨tcP.blind, (va_recv hK hP (ci := 2) (q0 := 0) rfl rfl), (tcP.go hK hP hD hE hS)⟩ rfl rfl hl.1 rfl (lv_room (Nat.le_of_ble_eq_true rfl)) dX2_writeChar_11 ⟨Nat.le_of_ble_eq_true rfl, Nat.le_of_ble_eq_true rfl⟩) hS (fun q _ h => h) (fun q h => h) (fun r_1 u t H locs ht hvm hw hB hz1 hk1 hS => ?_)
  subst hw
  obtain ⟨hP, hD⟩ := hB
  rw [ht] at hP
  exact W.iret (v := (cdR K Ln j i 3 (K j))) hx hb hr (fun t9 ht9 hW9 => ⟨⟨(cdR K Ln j i 3 (K j)), (), rfl, rfl, by rw [ht9]; exact hP, hD⟩, hS.F ht9⟩) hS.2.2 dX2_writeChar_14
set_option maxHeartbeats 4000000 in
set_option maxRecDepth 100000 in
theorem tX2_writeShort (l : Launch) (D : va_G) (A : Nat → Prop) (cI cJ cD cC : ClassId) (h0 h1 h2 h3 h4 : Nat) (ad wd rd : Nat → Nat) (Y : va_W) (n : Nat) (K : Nat → Int32) (Ln : Nat → Nat) (Wh : Nat → Int64) (Re : Nat → UInt64) (cd : Int32) (ct : Nat → Int32) (sz : Nat) (hI : tcI n K Ln Wh Re) (j : Nat) (hj : j < n) (i : Int32) (v : Int32) : Met l yX2_writeShort wsX2_writeShort ({ frames := 4, cells := 0, slots := 0, locals := 91 }) (tcP D A (tcTY cI cJ cD cC) sz [.ref h0, .int (nI j), .int i, .int v] (tc_T cI cJ cD cC h0 h1 h2 h3 h4 ad wd rd Y n K Ln Wh Re cd ct)) (va_Qi (fun r (_ : Unit) => r = cdR K Ln j i 4 (K j)) (fun _ t => tcB D A (tc_T cI cJ cD cC h0 h1 h2 h3 h4 ad wd rd Y n K Ln (wrW K Ln Wh j i 4 v.toInt16.toInt32.toInt64) (wrR K Ln Re j i 4 v.toInt16.toInt32.toInt64) (cdR K Ln j i 4 (K j)) (noteC ct (cdR K Ln j i 4 (K j)))) t) A) 0 0 A := by
  refine Met.ofW (cc := cX2_writeShort) (maxL := 4) (ret := (some .int)) (by decide) rfl ?_
  intro p e s m args below meth c s₁ B hml hv
  obtain ⟨rfl, hsz, hP, hK, hD, hE⟩ := hv
  have hx := B.exec
  have hb := B.bytes
  have hr := B.returns
  have hts := atoms_spec (ws := wsX2_writeShort) B.pre
  have hown : s.vm.findClass RX2 = some m.cls := findClass_of_methodNamed B.named
  have hlocks := B.notSynchronized
  have hl := lv_entry ([.ref h0, .int (nI j), .int i, .int v]) (n := 4) (Nat.le_of_ble_eq_true rfl)
  rw [lg_entry_eq]
  generalize (lg_sl ([.ref h0, .int (nI j), .int i, .int v]) ++ List.replicate (4 - (lg_sl ([.ref h0, .int (nI j), .int i, .int v])).length) Slot.unset).toArray = ls at hl ⊢
  have hl : lv_has ls 4 [(0, .ref h0), (1, .int (nI j)), (2, .int i), (3, .int v)] := hl
  subst hsz
  have hS : va_S A s.heap s.heap [] := va_S.rf
  refine lv_aload_n hx hb dX2_writeShort_0 rfl (lv_at hl 0 rfl) ?_
  refine lv_aload_n hx hb dX2_writeShort_1 rfl (lv_at hl 0 rfl) ?_
  refine lv_iload_n hx hb dX2_writeShort_2 rfl (lv_at hl 1 rfl) ?_
  refine va_csr (tc_CR (va_runV (As := [.int (nI j)]) (rest := [.ref h0]) ⟨hx, hb, hml, hown, hts⟩ (tX2_columnAt l D A cI cJ cD cC h0 h1 h2 h3 h4 ad wd rd Y n K Ln Wh Re cd ct s.heap.size hI.1 j hj) (cwV 1 hts gX2_writeShort_X2_columnAt rfl rfl rfl (by decide +kernel) ⟨Nat.le_of_ble_eq_true rfl, Nat.le_of_ble_eq_true rfl⟩) ⟨tcP.blind, va_recv hK hP (ci := 2) (q0 := 0) rfl rfl, tcP.go hK hP hD hE hS⟩ rfl rfl hl.1 rfl (lv_room (Nat.le_of_ble_eq_true rfl)) dX2_writeShort_3 ⟨Nat.le_of_ble_eq_true rfl, Nat.le_of_ble_eq_true rfl⟩)) (fun _ _ => ?_)
  refine lv_iload_n hx hb dX2_writeShort_6 rfl (lv_at hl 2 rfl) ?_
  refine lv_iconst (v := 4) hx hb dX2_writeShort_7 (by decide) ?_
  refine lv_iload_n hx hb dX2_writeShort_8 rfl (lv_at hl 3 rfl) ?_
  refine lv_i2s (v := v.toInt16.toInt32) hx hb dX2_writeShort_9 rfl ?_
  refine lv_i2l (v := v.toInt16.toInt32.toInt64) hx hb dX2_writeShort_10 rfl ?_
  refine va_calli (va_runV (As := [.ref (ad j), .int i, .int 4, .long v.toInt16.toInt32.toInt64]) (rest := []) ⟨hx, hb, hml, hown, hts⟩ (tX2_writeWhole l D A cI cJ cD cC h0 h1 h2 h3 h4 ad wd rd Y n K Ln Wh Re cd ct s.heap.size hI j hj i 4 v.toInt16.toInt32.toInt64) (cwV 4 hts gX2_writeShort_X2_writeWhole rfl rfl rfl (by decide +kernel) ⟨Nat.le_of_ble_eq_true rfl, Nat.le_of_ble_eq_true rfl⟩) ⟨tcP.blind, (va_recv hK hP (ci := 2) (q0 := 0) rfl rfl), (tcP.go hK hP hD hE hS)⟩ rfl rfl hl.1 rfl (lv_room (Nat.le_of_ble_eq_true rfl)) dX2_writeShort_11 ⟨Nat.le_of_ble_eq_true rfl, Nat.le_of_ble_eq_true rfl⟩) hS (fun q _ h => h) (fun q h => h) (fun r_1 u t H locs ht hvm hw hB hz1 hk1 hS => ?_)
  subst hw
  obtain ⟨hP, hD⟩ := hB
  rw [ht] at hP
  exact W.iret (v := (cdR K Ln j i 4 (K j))) hx hb hr (fun t9 ht9 hW9 => ⟨⟨(cdR K Ln j i 4 (K j)), (), rfl, rfl, by rw [ht9]; exact hP, hD⟩, hS.F ht9⟩) hS.2.2 dX2_writeShort_14
set_option maxHeartbeats 4000000 in
set_option maxRecDepth 100000 in
theorem tX2_writeInt (l : Launch) (D : va_G) (A : Nat → Prop) (cI cJ cD cC : ClassId) (h0 h1 h2 h3 h4 : Nat) (ad wd rd : Nat → Nat) (Y : va_W) (n : Nat) (K : Nat → Int32) (Ln : Nat → Nat) (Wh : Nat → Int64) (Re : Nat → UInt64) (cd : Int32) (ct : Nat → Int32) (sz : Nat) (hI : tcI n K Ln Wh Re) (j : Nat) (hj : j < n) (i : Int32) (v : Int32) : Met l yX2_writeInt wsX2_writeInt ({ frames := 4, cells := 0, slots := 0, locals := 91 }) (tcP D A (tcTY cI cJ cD cC) sz [.ref h0, .int (nI j), .int i, .int v] (tc_T cI cJ cD cC h0 h1 h2 h3 h4 ad wd rd Y n K Ln Wh Re cd ct)) (va_Qi (fun r (_ : Unit) => r = cdR K Ln j i 5 (K j)) (fun _ t => tcB D A (tc_T cI cJ cD cC h0 h1 h2 h3 h4 ad wd rd Y n K Ln (wrW K Ln Wh j i 5 v.toInt64) (wrR K Ln Re j i 5 v.toInt64) (cdR K Ln j i 5 (K j)) (noteC ct (cdR K Ln j i 5 (K j)))) t) A) 0 0 A := by
  refine Met.ofW (cc := cX2_writeInt) (maxL := 4) (ret := (some .int)) (by decide) rfl ?_
  intro p e s m args below meth c s₁ B hml hv
  obtain ⟨rfl, hsz, hP, hK, hD, hE⟩ := hv
  have hx := B.exec
  have hb := B.bytes
  have hr := B.returns
  have hts := atoms_spec (ws := wsX2_writeInt) B.pre
  have hown : s.vm.findClass RX2 = some m.cls := findClass_of_methodNamed B.named
  have hlocks := B.notSynchronized
  have hl := lv_entry ([.ref h0, .int (nI j), .int i, .int v]) (n := 4) (Nat.le_of_ble_eq_true rfl)
  rw [lg_entry_eq]
  generalize (lg_sl ([.ref h0, .int (nI j), .int i, .int v]) ++ List.replicate (4 - (lg_sl ([.ref h0, .int (nI j), .int i, .int v])).length) Slot.unset).toArray = ls at hl ⊢
  have hl : lv_has ls 4 [(0, .ref h0), (1, .int (nI j)), (2, .int i), (3, .int v)] := hl
  subst hsz
  have hS : va_S A s.heap s.heap [] := va_S.rf
  refine lv_aload_n hx hb dX2_writeInt_0 rfl (lv_at hl 0 rfl) ?_
  refine lv_aload_n hx hb dX2_writeInt_1 rfl (lv_at hl 0 rfl) ?_
  refine lv_iload_n hx hb dX2_writeInt_2 rfl (lv_at hl 1 rfl) ?_
  refine va_csr (tc_CR (va_runV (As := [.int (nI j)]) (rest := [.ref h0]) ⟨hx, hb, hml, hown, hts⟩ (tX2_columnAt l D A cI cJ cD cC h0 h1 h2 h3 h4 ad wd rd Y n K Ln Wh Re cd ct s.heap.size hI.1 j hj) (cwV 1 hts gX2_writeInt_X2_columnAt rfl rfl rfl (by decide +kernel) ⟨Nat.le_of_ble_eq_true rfl, Nat.le_of_ble_eq_true rfl⟩) ⟨tcP.blind, va_recv hK hP (ci := 2) (q0 := 0) rfl rfl, tcP.go hK hP hD hE hS⟩ rfl rfl hl.1 rfl (lv_room (Nat.le_of_ble_eq_true rfl)) dX2_writeInt_3 ⟨Nat.le_of_ble_eq_true rfl, Nat.le_of_ble_eq_true rfl⟩)) (fun _ _ => ?_)
  refine lv_iload_n hx hb dX2_writeInt_6 rfl (lv_at hl 2 rfl) ?_
  refine lv_iconst (v := 5) hx hb dX2_writeInt_7 (by decide) ?_
  refine lv_iload_n hx hb dX2_writeInt_8 rfl (lv_at hl 3 rfl) ?_
  refine lv_i2l (v := v.toInt64) hx hb dX2_writeInt_9 rfl ?_
  refine va_calli (va_runV (As := [.ref (ad j), .int i, .int 5, .long v.toInt64]) (rest := []) ⟨hx, hb, hml, hown, hts⟩ (tX2_writeWhole l D A cI cJ cD cC h0 h1 h2 h3 h4 ad wd rd Y n K Ln Wh Re cd ct s.heap.size hI j hj i 5 v.toInt64) (cwV 4 hts gX2_writeInt_X2_writeWhole rfl rfl rfl (by decide +kernel) ⟨Nat.le_of_ble_eq_true rfl, Nat.le_of_ble_eq_true rfl⟩) ⟨tcP.blind, (va_recv hK hP (ci := 2) (q0 := 0) rfl rfl), (tcP.go hK hP hD hE hS)⟩ rfl rfl hl.1 rfl (lv_room (Nat.le_of_ble_eq_true rfl)) dX2_writeInt_10 ⟨Nat.le_of_ble_eq_true rfl, Nat.le_of_ble_eq_true rfl⟩) hS (fun q _ h => h) (fun q h => h) (fun r_1 u t H locs ht hvm hw hB hz1 hk1 hS => ?_)
  subst hw
  obtain ⟨hP, hD⟩ := hB
  rw [ht] at hP
  exact W.iret (v := (cdR K Ln j i 5 (K j))) hx hb hr (fun t9 ht9 hW9 => ⟨⟨(cdR K Ln j i 5 (K j)), (), rfl, rfl, by rw [ht9]; exact hP, hD⟩, hS.F ht9⟩) hS.2.2 dX2_writeInt_13
set_option maxHeartbeats 4000000 in
set_option maxRecDepth 100000 in
theorem tX2_writeLong (l : Launch) (D : va_G) (A : Nat → Prop) (cI cJ cD cC : ClassId) (h0 h1 h2 h3 h4 : Nat) (ad wd rd : Nat → Nat) (Y : va_W) (n : Nat) (K : Nat → Int32) (Ln : Nat → Nat) (Wh : Nat → Int64) (Re : Nat → UInt64) (cd : Int32) (ct : Nat → Int32) (sz : Nat) (hI : tcI n K Ln Wh Re) (j : Nat) (hj : j < n) (i : Int32) (v : Int64) : Met l yX2_writeLong wsX2_writeLong ({ frames := 4, cells := 0, slots := 0, locals := 91 }) (tcP D A (tcTY cI cJ cD cC) sz [.ref h0, .int (nI j), .int i, .long v] (tc_T cI cJ cD cC h0 h1 h2 h3 h4 ad wd rd Y n K Ln Wh Re cd ct)) (va_Qi (fun r (_ : Unit) => r = cdR K Ln j i 6 (K j)) (fun _ t => tcB D A (tc_T cI cJ cD cC h0 h1 h2 h3 h4 ad wd rd Y n K Ln (wrW K Ln Wh j i 6 v) (wrR K Ln Re j i 6 v) (cdR K Ln j i 6 (K j)) (noteC ct (cdR K Ln j i 6 (K j)))) t) A) 0 0 A := by
  refine Met.ofW (cc := cX2_writeLong) (maxL := 5) (ret := (some .int)) (by decide) rfl ?_
  intro p e s m args below meth c s₁ B hml hv
  obtain ⟨rfl, hsz, hP, hK, hD, hE⟩ := hv
  have hx := B.exec
  have hb := B.bytes
  have hr := B.returns
  have hts := atoms_spec (ws := wsX2_writeLong) B.pre
  have hown : s.vm.findClass RX2 = some m.cls := findClass_of_methodNamed B.named
  have hlocks := B.notSynchronized
  have hl := lv_entry ([.ref h0, .int (nI j), .int i, .long v]) (n := 5) (Nat.le_of_ble_eq_true rfl)
  rw [lg_entry_eq]
  generalize (lg_sl ([.ref h0, .int (nI j), .int i, .long v]) ++ List.replicate (5 - (lg_sl ([.ref h0, .int (nI j), .int i, .long v])).length) Slot.unset).toArray = ls at hl ⊢
  have hl : lv_has ls 5 [(0, .ref h0), (1, .int (nI j)), (2, .int i), (3, .long v)] := hl
  subst hsz
  have hS : va_S A s.heap s.heap [] := va_S.rf
  refine lv_aload_n hx hb dX2_writeLong_0 rfl (lv_at hl 0 rfl) ?_
  refine lv_aload_n hx hb dX2_writeLong_1 rfl (lv_at hl 0 rfl) ?_
  refine lv_iload_n hx hb dX2_writeLong_2 rfl (lv_at hl 1 rfl) ?_
  refine va_csr (tc_CR (va_runV (As := [.int (nI j)]) (rest := [.ref h0]) ⟨hx, hb, hml, hown, hts⟩ (tX2_columnAt l D A cI cJ cD cC h0 h1 h2 h3 h4 ad wd rd Y n K Ln Wh Re cd ct s.heap.size hI.1 j hj) (cwV 1 hts gX2_writeLong_X2_columnAt rfl rfl rfl (by decide +kernel) ⟨Nat.le_of_ble_eq_true rfl, Nat.le_of_ble_eq_true rfl⟩) ⟨tcP.blind, va_recv hK hP (ci := 2) (q0 := 0) rfl rfl, tcP.go hK hP hD hE hS⟩ rfl rfl hl.1 rfl (lv_room (Nat.le_of_ble_eq_true rfl)) dX2_writeLong_3 ⟨Nat.le_of_ble_eq_true rfl, Nat.le_of_ble_eq_true rfl⟩)) (fun _ _ => ?_)
  refine lv_iload_n hx hb dX2_writeLong_6 rfl (lv_at hl 2 rfl) ?_
  refine lv_bipush (v := 6) hx hb dX2_writeLong_7 (by decide) ?_
  refine lv_lload_n hx hb dX2_writeLong_9 rfl (lv_at hl 3 rfl) ?_
  refine va_calli (va_runV (As := [.ref (ad j), .int i, .int 6, .long v]) (rest := []) ⟨hx, hb, hml, hown, hts⟩ (tX2_writeWhole l D A cI cJ cD cC h0 h1 h2 h3 h4 ad wd rd Y n K Ln Wh Re cd ct s.heap.size hI j hj i 6 v) (cwV 4 hts gX2_writeLong_X2_writeWhole rfl rfl rfl (by decide +kernel) ⟨Nat.le_of_ble_eq_true rfl, Nat.le_of_ble_eq_true rfl⟩) ⟨tcP.blind, (va_recv hK hP (ci := 2) (q0 := 0) rfl rfl), (tcP.go hK hP hD hE hS)⟩ rfl rfl hl.1 rfl (lv_room (Nat.le_of_ble_eq_true rfl)) dX2_writeLong_10 ⟨Nat.le_of_ble_eq_true rfl, Nat.le_of_ble_eq_true rfl⟩) hS (fun q _ h => h) (fun q h => h) (fun r_1 u t H locs ht hvm hw hB hz1 hk1 hS => ?_)
  subst hw
  obtain ⟨hP, hD⟩ := hB
  rw [ht] at hP
  exact W.iret (v := (cdR K Ln j i 6 (K j))) hx hb hr (fun t9 ht9 hW9 => ⟨⟨(cdR K Ln j i 6 (K j)), (), rfl, rfl, by rw [ht9]; exact hP, hD⟩, hS.F ht9⟩) hS.2.2 dX2_writeLong_13
set_option maxHeartbeats 4000000 in
set_option maxRecDepth 100000 in
theorem tX2_writeFloat (l : Launch) (D : va_G) (A : Nat → Prop) (cI cJ cD cC : ClassId) (h0 h1 h2 h3 h4 : Nat) (ad wd rd : Nat → Nat) (Y : va_W) (n : Nat) (K : Nat → Int32) (Ln : Nat → Nat) (Wh : Nat → Int64) (Re : Nat → UInt64) (cd : Int32) (ct : Nat → Int32) (sz : Nat) (hI : tcI n K Ln Wh Re) (j : Nat) (hj : j < n) (i : Int32) (v : UInt32) (hz : FP.Core.fIsNaN v = false) : Met l yX2_writeFloat wsX2_writeFloat ({ frames := 4, cells := 0, slots := 0, locals := 91 }) (tcP D A (tcTY cI cJ cD cC) sz [.ref h0, .int (nI j), .int i, .float v] (tc_T cI cJ cD cC h0 h1 h2 h3 h4 ad wd rd Y n K Ln Wh Re cd ct)) (va_Qi (fun r (_ : Unit) => r = cdR K Ln j i 7 (K j)) (fun _ t => tcB D A (tc_T cI cJ cD cC h0 h1 h2 h3 h4 ad wd rd Y n K Ln Wh (wrX K Ln Re j i 7 (FP.f2d v)) (cdR K Ln j i 7 (K j)) (noteC ct (cdR K Ln j i 7 (K j)))) t) A) 0 0 A := by
  refine Met.ofW (cc := cX2_writeFloat) (maxL := 4) (ret := (some .int)) (by decide) rfl ?_
  intro p e s m args below meth c s₁ B hml hv
  obtain ⟨rfl, hsz, hP, hK, hD, hE⟩ := hv
  have hx := B.exec
  have hb := B.bytes
  have hr := B.returns
  have hts := atoms_spec (ws := wsX2_writeFloat) B.pre
  have hown : s.vm.findClass RX2 = some m.cls := findClass_of_methodNamed B.named
  have hlocks := B.notSynchronized
  have hl := lv_entry ([.ref h0, .int (nI j), .int i, .float v]) (n := 4) (Nat.le_of_ble_eq_true rfl)
  rw [lg_entry_eq]
  generalize (lg_sl ([.ref h0, .int (nI j), .int i, .float v]) ++ List.replicate (4 - (lg_sl ([.ref h0, .int (nI j), .int i, .float v])).length) Slot.unset).toArray = ls at hl ⊢
  have hl : lv_has ls 4 [(0, .ref h0), (1, .int (nI j)), (2, .int i), (3, .float v)] := hl
  subst hsz
  have hS : va_S A s.heap s.heap [] := va_S.rf
  refine lv_aload_n hx hb dX2_writeFloat_0 rfl (lv_at hl 0 rfl) ?_
  refine lv_aload_n hx hb dX2_writeFloat_1 rfl (lv_at hl 0 rfl) ?_
  refine lv_iload_n hx hb dX2_writeFloat_2 rfl (lv_at hl 1 rfl) ?_
  refine va_csr (tc_CR (va_runV (As := [.int (nI j)]) (rest := [.ref h0]) ⟨hx, hb, hml, hown, hts⟩ (tX2_columnAt l D A cI cJ cD cC h0 h1 h2 h3 h4 ad wd rd Y n K Ln Wh Re cd ct s.heap.size hI.1 j hj) (cwV 1 hts gX2_writeFloat_X2_columnAt rfl rfl rfl (by decide +kernel) ⟨Nat.le_of_ble_eq_true rfl, Nat.le_of_ble_eq_true rfl⟩) ⟨tcP.blind, va_recv hK hP (ci := 2) (q0 := 0) rfl rfl, tcP.go hK hP hD hE hS⟩ rfl rfl hl.1 rfl (lv_room (Nat.le_of_ble_eq_true rfl)) dX2_writeFloat_3 ⟨Nat.le_of_ble_eq_true rfl, Nat.le_of_ble_eq_true rfl⟩)) (fun _ _ => ?_)
  refine lv_iload_n hx hb dX2_writeFloat_6 rfl (lv_at hl 2 rfl) ?_
  refine lv_bipush (v := 7) hx hb dX2_writeFloat_7 (by decide) ?_
  refine lv_fload_n hx hb dX2_writeFloat_9 rfl (lv_at hl 3 rfl) ?_
  refine vp_callSd (W.runS (As := [.float v]) (rest := [.int 7, .int i, .ref (ad j), .ref h0]) ⟨hx, hb, hml, hown, hts⟩ (kX2_doubleOf l v (hz)) (va_cwS 1 hts gX2_writeFloat_X2_doubleOf rfl rfl rfl (by decide +kernel) ⟨Nat.le_of_ble_eq_true rfl, Nat.le_of_ble_eq_true rfl⟩) ⟨fun a U g mk q => q, fun U hU hW => ⟨rfl, trivial⟩⟩ rfl rfl hl.1 rfl (lv_room (Nat.le_of_ble_eq_true rfl)) dX2_writeFloat_10 ⟨Nat.zero_le _, Nat.zero_le _⟩) (fun r_1 hr_1 => ?_)
  subst hr_1
  refine va_calli (va_runV (As := [.ref (ad j), .int i, .int 7, .double (FP.f2d v)]) (rest := []) ⟨hx, hb, hml, hown, hts⟩ (tX2_writeReal l D A cI cJ cD cC h0 h1 h2 h3 h4 ad wd rd Y n K Ln Wh Re cd ct s.heap.size hI j hj i 7 (FP.f2d v) (by decide)) (cwV 4 hts gX2_writeFloat_X2_writeReal rfl rfl rfl (by decide +kernel) ⟨Nat.le_of_ble_eq_true rfl, Nat.le_of_ble_eq_true rfl⟩) ⟨tcP.blind, (va_recv hK hP (ci := 2) (q0 := 0) rfl rfl), (tcP.go hK hP hD hE hS)⟩ rfl rfl hl.1 rfl (lv_room (Nat.le_of_ble_eq_true rfl)) dX2_writeFloat_13 ⟨Nat.le_of_ble_eq_true rfl, Nat.le_of_ble_eq_true rfl⟩) hS (fun q _ h => h) (fun q h => h) (fun r_2 u t H locs ht hvm hw hB hz1 hk1 hS => ?_)
  subst hw
  obtain ⟨hP, hD⟩ := hB
  rw [ht] at hP
  exact W.iret (v := (cdR K Ln j i 7 (K j))) hx hb hr (fun t9 ht9 hW9 => ⟨⟨(cdR K Ln j i 7 (K j)), (), rfl, rfl, by rw [ht9]; exact hP, hD⟩, hS.F ht9⟩) hS.2.2 dX2_writeFloat_16
set_option maxHeartbeats 4000000 in
set_option maxRecDepth 100000 in
theorem tX2_writeDouble (l : Launch) (D : va_G) (A : Nat → Prop) (cI cJ cD cC : ClassId) (h0 h1 h2 h3 h4 : Nat) (ad wd rd : Nat → Nat) (Y : va_W) (n : Nat) (K : Nat → Int32) (Ln : Nat → Nat) (Wh : Nat → Int64) (Re : Nat → UInt64) (cd : Int32) (ct : Nat → Int32) (sz : Nat) (hI : tcI n K Ln Wh Re) (j : Nat) (hj : j < n) (i : Int32) (v : UInt64) : Met l yX2_writeDouble wsX2_writeDouble ({ frames := 4, cells := 0, slots := 0, locals := 91 }) (tcP D A (tcTY cI cJ cD cC) sz [.ref h0, .int (nI j), .int i, .double v] (tc_T cI cJ cD cC h0 h1 h2 h3 h4 ad wd rd Y n K Ln Wh Re cd ct)) (va_Qi (fun r (_ : Unit) => r = cdR K Ln j i 8 (K j)) (fun _ t => tcB D A (tc_T cI cJ cD cC h0 h1 h2 h3 h4 ad wd rd Y n K Ln Wh (wrX K Ln Re j i 8 v) (cdR K Ln j i 8 (K j)) (noteC ct (cdR K Ln j i 8 (K j)))) t) A) 0 0 A := by
  refine Met.ofW (cc := cX2_writeDouble) (maxL := 5) (ret := (some .int)) (by decide) rfl ?_
  intro p e s m args below meth c s₁ B hml hv
  obtain ⟨rfl, hsz, hP, hK, hD, hE⟩ := hv
  have hx := B.exec
  have hb := B.bytes
  have hr := B.returns
  have hts := atoms_spec (ws := wsX2_writeDouble) B.pre
  have hown : s.vm.findClass RX2 = some m.cls := findClass_of_methodNamed B.named
  have hlocks := B.notSynchronized
  have hl := lv_entry ([.ref h0, .int (nI j), .int i, .double v]) (n := 5) (Nat.le_of_ble_eq_true rfl)
  rw [lg_entry_eq]
  generalize (lg_sl ([.ref h0, .int (nI j), .int i, .double v]) ++ List.replicate (5 - (lg_sl ([.ref h0, .int (nI j), .int i, .double v])).length) Slot.unset).toArray = ls at hl ⊢
  have hl : lv_has ls 5 [(0, .ref h0), (1, .int (nI j)), (2, .int i), (3, .double v)] := hl
  subst hsz
  have hS : va_S A s.heap s.heap [] := va_S.rf
  refine lv_aload_n hx hb dX2_writeDouble_0 rfl (lv_at hl 0 rfl) ?_
  refine lv_aload_n hx hb dX2_writeDouble_1 rfl (lv_at hl 0 rfl) ?_
  refine lv_iload_n hx hb dX2_writeDouble_2 rfl (lv_at hl 1 rfl) ?_
  refine va_csr (tc_CR (va_runV (As := [.int (nI j)]) (rest := [.ref h0]) ⟨hx, hb, hml, hown, hts⟩ (tX2_columnAt l D A cI cJ cD cC h0 h1 h2 h3 h4 ad wd rd Y n K Ln Wh Re cd ct s.heap.size hI.1 j hj) (cwV 1 hts gX2_writeDouble_X2_columnAt rfl rfl rfl (by decide +kernel) ⟨Nat.le_of_ble_eq_true rfl, Nat.le_of_ble_eq_true rfl⟩) ⟨tcP.blind, va_recv hK hP (ci := 2) (q0 := 0) rfl rfl, tcP.go hK hP hD hE hS⟩ rfl rfl hl.1 rfl (lv_room (Nat.le_of_ble_eq_true rfl)) dX2_writeDouble_3 ⟨Nat.le_of_ble_eq_true rfl, Nat.le_of_ble_eq_true rfl⟩)) (fun _ _ => ?_)
  refine lv_iload_n hx hb dX2_writeDouble_6 rfl (lv_at hl 2 rfl) ?_
  refine lv_bipush (v := 8) hx hb dX2_writeDouble_7 (by decide) ?_
  refine lv_dload_n hx hb dX2_writeDouble_9 rfl (lv_at hl 3 rfl) ?_
  refine va_calli (va_runV (As := [.ref (ad j), .int i, .int 8, .double v]) (rest := []) ⟨hx, hb, hml, hown, hts⟩ (tX2_writeReal l D A cI cJ cD cC h0 h1 h2 h3 h4 ad wd rd Y n K Ln Wh Re cd ct s.heap.size hI j hj i 8 v (by decide)) (cwV 4 hts gX2_writeDouble_X2_writeReal rfl rfl rfl (by decide +kernel) ⟨Nat.le_of_ble_eq_true rfl, Nat.le_of_ble_eq_true rfl⟩) ⟨tcP.blind, (va_recv hK hP (ci := 2) (q0 := 0) rfl rfl), (tcP.go hK hP hD hE hS)⟩ rfl rfl hl.1 rfl (lv_room (Nat.le_of_ble_eq_true rfl)) dX2_writeDouble_10 ⟨Nat.le_of_ble_eq_true rfl, Nat.le_of_ble_eq_true rfl⟩) hS (fun q _ h => h) (fun q h => h) (fun r_1 u t H locs ht hvm hw hB hz1 hk1 hS => ?_)
  subst hw
  obtain ⟨hP, hD⟩ := hB
  rw [ht] at hP
  exact W.iret (v := (cdR K Ln j i 8 (K j))) hx hb hr (fun t9 ht9 hW9 => ⟨⟨(cdR K Ln j i 8 (K j)), (), rfl, rfl, by rw [ht9]; exact hP, hD⟩, hS.F ht9⟩) hS.2.2 dX2_writeDouble_13
set_option maxHeartbeats 4000000 in
set_option maxRecDepth 100000 in
theorem tX2_writeAny_f (l : Launch) (D : va_G) (A : Nat → Prop) (cI cJ cD cC : ClassId) (h0 h1 h2 h3 h4 : Nat) (ad wd rd : Nat → Nat) (Y : va_W) (n : Nat) (K : Nat → Int32) (Ln : Nat → Nat) (Wh : Nat → Int64) (Re : Nat → UInt64) (cd : Int32) (ct : Nat → Int32) (sz : Nat) (hI : tcI n K Ln Wh Re) (j : Nat) (hj : j < n) (i kd v : Int32) (hk : kHas kd = true) (h7 : kd = 7) : Met l yX2_writeAny wsX2_writeAny ({ frames := 4, cells := 0, slots := 0, locals := 91 }) (tcP D A (tcTY cI cJ cD cC) sz [.ref h0, .int (nI j), .int i, .int kd, .int v] (tc_T cI cJ cD cC h0 h1 h2 h3 h4 ad wd rd Y n K Ln Wh Re cd ct)) (va_Qi (fun r (_ : Unit) => r = cdR K Ln j i kd (K j)) (fun _ t => tcB D A (tc_T cI cJ cD cC h0 h1 h2 h3 h4 ad wd rd Y n K Ln Wh (wrX K Ln Re j i kd (FP.f2d (FP.i2f v))) (cdR K Ln j i kd (K j)) (noteC ct (cdR K Ln j i kd (K j)))) t) A) 0 0 A := by
  refine Met.ofW (cc := cX2_writeAny) (maxL := 6) (ret := (some .int)) (by decide) rfl ?_
  intro p e s m args below meth c s₁ B hml hv
  obtain ⟨rfl, hsz, hP, hK, hD, hE⟩ := hv
  have hx := B.exec
  have hb := B.bytes
  have hr := B.returns
  have hts := atoms_spec (ws := wsX2_writeAny) B.pre
  have hown : s.vm.findClass RX2 = some m.cls := findClass_of_methodNamed B.named
  have hlocks := B.notSynchronized
  have hl := lv_entry ([.ref h0, .int (nI j), .int i, .int kd, .int v]) (n := 6) (Nat.le_of_ble_eq_true rfl)
  rw [lg_entry_eq]
  generalize (lg_sl ([.ref h0, .int (nI j), .int i, .int kd, .int v]) ++ List.replicate (6 - (lg_sl ([.ref h0, .int (nI j), .int i, .int kd, .int v])).length) Slot.unset).toArray = ls at hl ⊢
  have hl : lv_has ls 6 [(0, .ref h0), (1, .int (nI j)), (2, .int i), (3, .int kd), (4, .int v)] := hl
  subst hsz
  have hS : va_S A s.heap s.heap [] := va_S.rf
  refine lv_aload_n hx hb dX2_writeAny_0 rfl (lv_at hl 0 rfl) ?_
  refine lv_iload_n hx hb dX2_writeAny_1 rfl (lv_at hl 1 rfl) ?_
  refine va_csr (tc_CR (va_runV (As := [.int (nI j)]) (rest := []) ⟨hx, hb, hml, hown, hts⟩ (tX2_columnAt l D A cI cJ cD cC h0 h1 h2 h3 h4 ad wd rd Y n K Ln Wh Re cd ct s.heap.size hI.1 j hj) (cwV 1 hts gX2_writeAny_X2_columnAt rfl rfl rfl (by decide +kernel) ⟨Nat.le_of_ble_eq_true rfl, Nat.le_of_ble_eq_true rfl⟩) ⟨tcP.blind, va_recv hK hP (ci := 2) (q0 := 0) rfl rfl, tcP.go hK hP hD hE hS⟩ rfl rfl hl.1 rfl (lv_room (Nat.le_of_ble_eq_true rfl)) dX2_writeAny_2 ⟨Nat.le_of_ble_eq_true rfl, Nat.le_of_ble_eq_true rfl⟩)) (fun _ _ => ?_)
  refine lv_astore (lv' := [(5, .ref (ad j)), (0, .ref h0), (1, .int (nI j)), (2, .int i), (3, .int kd), (4, .int v)]) hx hb dX2_writeAny_5 hl (by decide) rfl (fun ls hl => ?_)
  refine lv_iload_n hx hb dX2_writeAny_7 rfl (lv_at hl 4 rfl) ?_
  refine va_csv (tc_CR (va_runS (As := [.int kd]) (rest := []) ⟨hx, hb, hml, hown, hts⟩ (tX2_refuseWithoutCells l D A cI cJ cD cC h0 h1 h2 h3 h4 ad wd rd Y n K Ln Wh Re cd ct s.heap.size kd hk) (va_cwS 1 hts gX2_writeAny_X2_refuseWithoutCells rfl rfl rfl (by decide +kernel) ⟨Nat.le_of_ble_eq_true rfl, Nat.le_of_ble_eq_true rfl⟩) ⟨tcP.blind, (tcP.go hK hP hD hE hS)⟩ rfl rfl hl.1 rfl (lv_room (Nat.le_of_ble_eq_true rfl)) dX2_writeAny_8 ⟨Nat.le_of_ble_eq_true rfl, Nat.le_of_ble_eq_true rfl⟩)) (fun _ => ?_)
  refine lv_iload_n hx hb dX2_writeAny_11 rfl (lv_at hl 4 rfl) ?_
  refine lv_bipush (v := 7) hx hb dX2_writeAny_12 (by decide) ?_
  refine lv_icmp_ne (tgt := 30) hx hb dX2_writeAny_14 (by decide) (fun q => absurd (h7) q) (fun _ => ?_)
  refine lv_aload_n hx hb dX2_writeAny_17 rfl (lv_at hl 1 rfl) ?_
  refine lv_aload hx hb dX2_writeAny_18 (lv_at hl 0 rfl) ?_
  refine lv_iload_n hx hb dX2_writeAny_20 rfl (lv_at hl 3 rfl) ?_
  refine lv_iload_n hx hb dX2_writeAny_21 rfl (lv_at hl 4 rfl) ?_
  refine lv_iload hx hb dX2_writeAny_22 (lv_at hl 5 rfl) ?_
  refine lv_i2f hx hb dX2_writeAny_24 ?_
  refine lv_f2d hx hb dX2_writeAny_25 ((tf_n64 _).mpr (tf_f2d (tf_i2f _))) ?_
  refine va_calli (va_runV (As := [.ref (ad j), .int i, .int kd, .double (FP.f2d (FP.i2f v))]) (rest := []) ⟨hx, hb, hml, hown, hts⟩ (tX2_writeReal l D A cI cJ cD cC h0 h1 h2 h3 h4 ad wd rd Y n K Ln Wh Re cd ct s.heap.size hI j hj i kd (FP.f2d (FP.i2f v)) (by rw [h7]; decide)) (cwV 4 hts gX2_writeAny_X2_writeReal rfl rfl rfl (by decide +kernel) ⟨Nat.le_of_ble_eq_true rfl, Nat.le_of_ble_eq_true rfl⟩) ⟨tcP.blind, (va_recv hK hP (ci := 2) (q0 := 0) rfl rfl), (tcP.go hK hP hD hE hS)⟩ rfl rfl hl.1 rfl (lv_room (Nat.le_of_ble_eq_true rfl)) dX2_writeAny_26 ⟨Nat.le_of_ble_eq_true rfl, Nat.le_of_ble_eq_true rfl⟩) hS (fun q _ h => h) (fun q h => h) (fun r_2 u t H locs ht hvm hw hB hz1 hk1 hS => ?_)
  subst hw
  obtain ⟨hP, hD⟩ := hB
  rw [ht] at hP
  exact W.iret (v := (cdR K Ln j i kd (K j))) hx hb hr (fun t9 ht9 hW9 => ⟨⟨(cdR K Ln j i kd (K j)), (), rfl, rfl, by rw [ht9]; exact hP, hD⟩, hS.F ht9⟩) hS.2.2 dX2_writeAny_29
set_option maxHeartbeats 4000000 in
set_option maxRecDepth 100000 in
theorem tX2_writeAny_d (l : Launch) (D : va_G) (A : Nat → Prop) (cI cJ cD cC : ClassId) (h0 h1 h2 h3 h4 : Nat) (ad wd rd : Nat → Nat) (Y : va_W) (n : Nat) (K : Nat → Int32) (Ln : Nat → Nat) (Wh : Nat → Int64) (Re : Nat → UInt64) (cd : Int32) (ct : Nat → Int32) (sz : Nat) (hI : tcI n K Ln Wh Re) (j : Nat) (hj : j < n) (i kd v : Int32) (hk : kHas kd = true) (h8 : kd = 8) : Met l yX2_writeAny wsX2_writeAny ({ frames := 4, cells := 0, slots := 0, locals := 91 }) (tcP D A (tcTY cI cJ cD cC) sz [.ref h0, .int (nI j), .int i, .int kd, .int v] (tc_T cI cJ cD cC h0 h1 h2 h3 h4 ad wd rd Y n K Ln Wh Re cd ct)) (va_Qi (fun r (_ : Unit) => r = cdR K Ln j i kd (K j)) (fun _ t => tcB D A (tc_T cI cJ cD cC h0 h1 h2 h3 h4 ad wd rd Y n K Ln Wh (wrX K Ln Re j i kd (FP.i2d v)) (cdR K Ln j i kd (K j)) (noteC ct (cdR K Ln j i kd (K j)))) t) A) 0 0 A := by
  refine Met.ofW (cc := cX2_writeAny) (maxL := 6) (ret := (some .int)) (by decide) rfl ?_
  intro p e s m args below meth c s₁ B hml hv
  obtain ⟨rfl, hsz, hP, hK, hD, hE⟩ := hv
  have hx := B.exec
  have hb := B.bytes
  have hr := B.returns
  have hts := atoms_spec (ws := wsX2_writeAny) B.pre
  have hown : s.vm.findClass RX2 = some m.cls := findClass_of_methodNamed B.named
  have hlocks := B.notSynchronized
  have hl := lv_entry ([.ref h0, .int (nI j), .int i, .int kd, .int v]) (n := 6) (Nat.le_of_ble_eq_true rfl)
  rw [lg_entry_eq]
  generalize (lg_sl ([.ref h0, .int (nI j), .int i, .int kd, .int v]) ++ List.replicate (6 - (lg_sl ([.ref h0, .int (nI j), .int i, .int kd, .int v])).length) Slot.unset).toArray = ls at hl ⊢
  have hl : lv_has ls 6 [(0, .ref h0), (1, .int (nI j)), (2, .int i), (3, .int kd), (4, .int v)] := hl
  subst hsz
  have hS : va_S A s.heap s.heap [] := va_S.rf
  refine lv_aload_n hx hb dX2_writeAny_0 rfl (lv_at hl 0 rfl) ?_
  refine lv_iload_n hx hb dX2_writeAny_1 rfl (lv_at hl 1 rfl) ?_
  refine va_csr (tc_CR (va_runV (As := [.int (nI j)]) (rest := []) ⟨hx, hb, hml, hown, hts⟩ (tX2_columnAt l D A cI cJ cD cC h0 h1 h2 h3 h4 ad wd rd Y n K Ln Wh Re cd ct s.heap.size hI.1 j hj) (cwV 1 hts gX2_writeAny_X2_columnAt rfl rfl rfl (by decide +kernel) ⟨Nat.le_of_ble_eq_true rfl, Nat.le_of_ble_eq_true rfl⟩) ⟨tcP.blind, va_recv hK hP (ci := 2) (q0 := 0) rfl rfl, tcP.go hK hP hD hE hS⟩ rfl rfl hl.1 rfl (lv_room (Nat.le_of_ble_eq_true rfl)) dX2_writeAny_2 ⟨Nat.le_of_ble_eq_true rfl, Nat.le_of_ble_eq_true rfl⟩)) (fun _ _ => ?_)
  refine lv_astore (lv' := [(5, .ref (ad j)), (0, .ref h0), (1, .int (nI j)), (2, .int i), (3, .int kd), (4, .int v)]) hx hb dX2_writeAny_5 hl (by decide) rfl (fun ls hl => ?_)
  refine lv_iload_n hx hb dX2_writeAny_7 rfl (lv_at hl 4 rfl) ?_
  refine va_csv (tc_CR (va_runS (As := [.int kd]) (rest := []) ⟨hx, hb, hml, hown, hts⟩ (tX2_refuseWithoutCells l D A cI cJ cD cC h0 h1 h2 h3 h4 ad wd rd Y n K Ln Wh Re cd ct s.heap.size kd hk) (va_cwS 1 hts gX2_writeAny_X2_refuseWithoutCells rfl rfl rfl (by decide +kernel) ⟨Nat.le_of_ble_eq_true rfl, Nat.le_of_ble_eq_true rfl⟩) ⟨tcP.blind, (tcP.go hK hP hD hE hS)⟩ rfl rfl hl.1 rfl (lv_room (Nat.le_of_ble_eq_true rfl)) dX2_writeAny_8 ⟨Nat.le_of_ble_eq_true rfl, Nat.le_of_ble_eq_true rfl⟩)) (fun _ => ?_)
  refine lv_iload_n hx hb dX2_writeAny_11 rfl (lv_at hl 4 rfl) ?_
  refine lv_bipush (v := 7) hx hb dX2_writeAny_12 (by decide) ?_
  refine lv_icmp_ne (tgt := 30) hx hb dX2_writeAny_14 (by decide) (fun _ => ?_) (fun q => absurd q (by rw [h8]; decide))
  refine lv_iload_n hx hb dX2_writeAny_30 rfl (lv_at hl 4 rfl) ?_
  refine lv_bipush (v := 8) hx hb dX2_writeAny_31 (by decide) ?_
  refine lv_icmp_ne (tgt := 48) hx hb dX2_writeAny_33 (by decide) (fun q => absurd (h8) q) (fun _ => ?_)
  refine lv_aload_n hx hb dX2_writeAny_36 rfl (lv_at hl 1 rfl) ?_
  refine lv_aload hx hb dX2_writeAny_37 (lv_at hl 0 rfl) ?_
  refine lv_iload_n hx hb dX2_writeAny_39 rfl (lv_at hl 3 rfl) ?_
  refine lv_iload_n hx hb dX2_writeAny_40 rfl (lv_at hl 4 rfl) ?_
  refine lv_iload hx hb dX2_writeAny_41 (lv_at hl 5 rfl) ?_
  refine lv_i2d hx hb dX2_writeAny_43 ?_
  refine va_calli (va_runV (As := [.ref (ad j), .int i, .int kd, .double (FP.i2d v)]) (rest := []) ⟨hx, hb, hml, hown, hts⟩ (tX2_writeReal l D A cI cJ cD cC h0 h1 h2 h3 h4 ad wd rd Y n K Ln Wh Re cd ct s.heap.size hI j hj i kd (FP.i2d v) (by rw [h8]; decide)) (cwV 4 hts gX2_writeAny_X2_writeReal rfl rfl rfl (by decide +kernel) ⟨Nat.le_of_ble_eq_true rfl, Nat.le_of_ble_eq_true rfl⟩) ⟨tcP.blind, (va_recv hK hP (ci := 2) (q0 := 0) rfl rfl), (tcP.go hK hP hD hE hS)⟩ rfl rfl hl.1 rfl (lv_room (Nat.le_of_ble_eq_true rfl)) dX2_writeAny_44 ⟨Nat.le_of_ble_eq_true rfl, Nat.le_of_ble_eq_true rfl⟩) hS (fun q _ h => h) (fun q h => h) (fun r_3 u t H locs ht hvm hw hB hz1 hk1 hS => ?_)
  subst hw
  obtain ⟨hP, hD⟩ := hB
  rw [ht] at hP
  exact W.iret (v := (cdR K Ln j i kd (K j))) hx hb hr (fun t9 ht9 hW9 => ⟨⟨(cdR K Ln j i kd (K j)), (), rfl, rfl, by rw [ht9]; exact hP, hD⟩, hS.F ht9⟩) hS.2.2 dX2_writeAny_47
set_option maxHeartbeats 4000000 in
set_option maxRecDepth 100000 in
theorem tX2_writeAny_w (l : Launch) (D : va_G) (A : Nat → Prop) (cI cJ cD cC : ClassId) (h0 h1 h2 h3 h4 : Nat) (ad wd rd : Nat → Nat) (Y : va_W) (n : Nat) (K : Nat → Int32) (Ln : Nat → Nat) (Wh : Nat → Int64) (Re : Nat → UInt64) (cd : Int32) (ct : Nat → Int32) (sz : Nat) (hI : tcI n K Ln Wh Re) (j : Nat) (hj : j < n) (i kd v : Int32) (hk : kHas kd = true) (hf : kFl kd = false) : Met l yX2_writeAny wsX2_writeAny ({ frames := 4, cells := 0, slots := 0, locals := 91 }) (tcP D A (tcTY cI cJ cD cC) sz [.ref h0, .int (nI j), .int i, .int kd, .int v] (tc_T cI cJ cD cC h0 h1 h2 h3 h4 ad wd rd Y n K Ln Wh Re cd ct)) (va_Qi (fun r (_ : Unit) => r = cdR K Ln j i kd (K j)) (fun _ t => tcB D A (tc_T cI cJ cD cC h0 h1 h2 h3 h4 ad wd rd Y n K Ln (wrW K Ln Wh j i kd (kMade v kd)) (wrR K Ln Re j i kd (kMade v kd)) (cdR K Ln j i kd (K j)) (noteC ct (cdR K Ln j i kd (K j)))) t) A) 0 0 A := by
  refine Met.ofW (cc := cX2_writeAny) (maxL := 6) (ret := (some .int)) (by decide) rfl ?_
  intro p e s m args below meth c s₁ B hml hv
  obtain ⟨rfl, hsz, hP, hK, hD, hE⟩ := hv
  have hx := B.exec
  have hb := B.bytes
  have hr := B.returns
  have hts := atoms_spec (ws := wsX2_writeAny) B.pre
  have hown : s.vm.findClass RX2 = some m.cls := findClass_of_methodNamed B.named
  have hlocks := B.notSynchronized
  have hl := lv_entry ([.ref h0, .int (nI j), .int i, .int kd, .int v]) (n := 6) (Nat.le_of_ble_eq_true rfl)
  rw [lg_entry_eq]
  generalize (lg_sl ([.ref h0, .int (nI j), .int i, .int kd, .int v]) ++ List.replicate (6 - (lg_sl ([.ref h0, .int (nI j), .int i, .int kd, .int v])).length) Slot.unset).toArray = ls at hl ⊢
  have hl : lv_has ls 6 [(0, .ref h0), (1, .int (nI j)), (2, .int i), (3, .int kd), (4, .int v)] := hl
  subst hsz
  have hS : va_S A s.heap s.heap [] := va_S.rf
  refine lv_aload_n hx hb dX2_writeAny_0 rfl (lv_at hl 0 rfl) ?_
  refine lv_iload_n hx hb dX2_writeAny_1 rfl (lv_at hl 1 rfl) ?_
  refine va_csr (tc_CR (va_runV (As := [.int (nI j)]) (rest := []) ⟨hx, hb, hml, hown, hts⟩ (tX2_columnAt l D A cI cJ cD cC h0 h1 h2 h3 h4 ad wd rd Y n K Ln Wh Re cd ct s.heap.size hI.1 j hj) (cwV 1 hts gX2_writeAny_X2_columnAt rfl rfl rfl (by decide +kernel) ⟨Nat.le_of_ble_eq_true rfl, Nat.le_of_ble_eq_true rfl⟩) ⟨tcP.blind, va_recv hK hP (ci := 2) (q0 := 0) rfl rfl, tcP.go hK hP hD hE hS⟩ rfl rfl hl.1 rfl (lv_room (Nat.le_of_ble_eq_true rfl)) dX2_writeAny_2 ⟨Nat.le_of_ble_eq_true rfl, Nat.le_of_ble_eq_true rfl⟩)) (fun _ _ => ?_)
  refine lv_astore (lv' := [(5, .ref (ad j)), (0, .ref h0), (1, .int (nI j)), (2, .int i), (3, .int kd), (4, .int v)]) hx hb dX2_writeAny_5 hl (by decide) rfl (fun ls hl => ?_)
  refine lv_iload_n hx hb dX2_writeAny_7 rfl (lv_at hl 4 rfl) ?_
  refine va_csv (tc_CR (va_runS (As := [.int kd]) (rest := []) ⟨hx, hb, hml, hown, hts⟩ (tX2_refuseWithoutCells l D A cI cJ cD cC h0 h1 h2 h3 h4 ad wd rd Y n K Ln Wh Re cd ct s.heap.size kd hk) (va_cwS 1 hts gX2_writeAny_X2_refuseWithoutCells rfl rfl rfl (by decide +kernel) ⟨Nat.le_of_ble_eq_true rfl, Nat.le_of_ble_eq_true rfl⟩) ⟨tcP.blind, (tcP.go hK hP hD hE hS)⟩ rfl rfl hl.1 rfl (lv_room (Nat.le_of_ble_eq_true rfl)) dX2_writeAny_8 ⟨Nat.le_of_ble_eq_true rfl, Nat.le_of_ble_eq_true rfl⟩)) (fun _ => ?_)
  refine lv_iload_n hx hb dX2_writeAny_11 rfl (lv_at hl 4 rfl) ?_
  refine lv_bipush (v := 7) hx hb dX2_writeAny_12 (by decide) ?_
  refine lv_icmp_ne (tgt := 30) hx hb dX2_writeAny_14 (by decide) (fun _ => ?_) (fun q => absurd q ((kFl_no hf).1))
  refine lv_iload_n hx hb dX2_writeAny_30 rfl (lv_at hl 4 rfl) ?_
  refine lv_bipush (v := 8) hx hb dX2_writeAny_31 (by decide) ?_
  refine lv_icmp_ne (tgt := 48) hx hb dX2_writeAny_33 (by decide) (fun _ => ?_) (fun q => absurd q ((kFl_no hf).2))
  refine lv_aload_n hx hb dX2_writeAny_48 rfl (lv_at hl 1 rfl) ?_
  refine lv_aload hx hb dX2_writeAny_49 (lv_at hl 0 rfl) ?_
  refine lv_iload_n hx hb dX2_writeAny_51 rfl (lv_at hl 3 rfl) ?_
  refine lv_iload_n hx hb dX2_writeAny_52 rfl (lv_at hl 4 rfl) ?_
  refine lv_iload hx hb dX2_writeAny_53 (lv_at hl 5 rfl) ?_
  refine lv_iload_n hx hb dX2_writeAny_55 rfl (lv_at hl 4 rfl) ?_
  refine vp_callSl (W.runS (As := [.int v, .int kd]) (rest := [.int kd, .int i, .ref (ad j), .ref h0]) ⟨hx, hb, hml, hown, hts⟩ (kX2_wholeMadeFrom l v kd) (va_cwS 2 hts gX2_writeAny_X2_wholeMadeFrom rfl rfl rfl (by decide +kernel) ⟨Nat.le_of_ble_eq_true rfl, Nat.le_of_ble_eq_true rfl⟩) ⟨fun a U g mk q => q, fun U hU hW => ⟨rfl, trivial⟩⟩ rfl rfl hl.1 rfl (lv_room (Nat.le_of_ble_eq_true rfl)) dX2_writeAny_56 ⟨Nat.zero_le _, Nat.zero_le _⟩) (fun r_3 hr_3 => ?_)
  subst hr_3
  refine va_calli (va_runV (As := [.ref (ad j), .int i, .int kd, .long (kMade v kd)]) (rest := []) ⟨hx, hb, hml, hown, hts⟩ (tX2_writeWhole l D A cI cJ cD cC h0 h1 h2 h3 h4 ad wd rd Y n K Ln Wh Re cd ct s.heap.size hI j hj i kd (kMade v kd)) (cwV 4 hts gX2_writeAny_X2_writeWhole rfl rfl rfl (by decide +kernel) ⟨Nat.le_of_ble_eq_true rfl, Nat.le_of_ble_eq_true rfl⟩) ⟨tcP.blind, (va_recv hK hP (ci := 2) (q0 := 0) rfl rfl), (tcP.go hK hP hD hE hS)⟩ rfl rfl hl.1 rfl (lv_room (Nat.le_of_ble_eq_true rfl)) dX2_writeAny_59 ⟨Nat.le_of_ble_eq_true rfl, Nat.le_of_ble_eq_true rfl⟩) hS (fun q _ h => h) (fun q h => h) (fun r_4 u t H locs ht hvm hw hB hz1 hk1 hS => ?_)
  subst hw
  obtain ⟨hP, hD⟩ := hB
  rw [ht] at hP
  exact W.iret (v := (cdR K Ln j i kd (K j))) hx hb hr (fun t9 ht9 hW9 => ⟨⟨(cdR K Ln j i kd (K j)), (), rfl, rfl, by rw [ht9]; exact hP, hD⟩, hS.F ht9⟩) hS.2.2 dX2_writeAny_62
set_option maxHeartbeats 4000000 in
set_option maxRecDepth 100000 in
theorem tX2_copy (l : Launch) (D : va_G) (A : Nat → Prop) (cI cJ cD cC : ClassId) (h0 h1 h2 h3 h4 : Nat) (ad wd rd : Nat → Nat) (Y : va_W) (n : Nat) (K : Nat → Int32) (Ln : Nat → Nat) (Wh : Nat → Int64) (Re : Nat → UInt64) (cd : Int32) (ct : Nat → Int32) (sz : Nat) (hI : tcI n K Ln Wh Re) (j : Nat) (hj : j < n) (j2 : Nat) (hj2 : j2 < n) (fi ti mm : Int32) : Met l yX2_copy wsX2_copy ({ frames := 2, cells := 0, slots := 0, locals := 64 }) (tcP D A (tcTY cI cJ cD cC) sz [.ref h0, .int (nI j), .int fi, .int (nI j2), .int ti, .int mm] (tc_T cI cJ cD cC h0 h1 h2 h3 h4 ad wd rd Y n K Ln Wh Re cd ct)) (va_Qi (fun r (_ : Unit) => r = cpC K Ln j j2 fi ti mm) (fun _ t => tcB D A (tc_T cI cJ cD cC h0 h1 h2 h3 h4 ad wd rd Y n K Ln (cpW K Ln Wh j j2 fi ti mm) (cpW K Ln Re j j2 fi ti mm) (cpC K Ln j j2 fi ti mm) (noteC ct (cpC K Ln j j2 fi ti mm))) t) A) 0 0 A := by
  refine Met.ofW (cc := cX2_copy) (maxL := 9) (ret := (some .int)) (by decide) rfl ?_
  intro p e s m args below meth c s₁ B hml hv
  obtain ⟨rfl, hsz, hP, hK, hD, hE⟩ := hv
  have hx := B.exec
  have hb := B.bytes
  have hr := B.returns
  have hts := atoms_spec (ws := wsX2_copy) B.pre
  have hown : s.vm.findClass RX2 = some m.cls := findClass_of_methodNamed B.named
  have hlocks := B.notSynchronized
  have hl := lv_entry ([.ref h0, .int (nI j), .int fi, .int (nI j2), .int ti, .int mm]) (n := 9) (Nat.le_of_ble_eq_true rfl)
  rw [lg_entry_eq]
  generalize (lg_sl ([.ref h0, .int (nI j), .int fi, .int (nI j2), .int ti, .int mm]) ++ List.replicate (9 - (lg_sl ([.ref h0, .int (nI j), .int fi, .int (nI j2), .int ti, .int mm])).length) Slot.unset).toArray = ls at hl ⊢
  have hl : lv_has ls 9 [(0, .ref h0), (1, .int (nI j)), (2, .int fi), (3, .int (nI j2)), (4, .int ti), (5, .int mm)] := hl
  subst hsz
  have hS : va_S A s.heap s.heap [] := va_S.rf
  refine lv_aload_n hx hb dX2_copy_0 rfl (lv_at hl 0 rfl) ?_
  refine lv_iload_n hx hb dX2_copy_1 rfl (lv_at hl 1 rfl) ?_
  refine va_csr (tc_CR (va_runV (As := [.int (nI j)]) (rest := []) ⟨hx, hb, hml, hown, hts⟩ (tX2_columnAt l D A cI cJ cD cC h0 h1 h2 h3 h4 ad wd rd Y n K Ln Wh Re cd ct s.heap.size hI.1 j hj) (cwV 1 hts gX2_copy_X2_columnAt rfl rfl rfl (by decide +kernel) ⟨Nat.le_of_ble_eq_true rfl, Nat.le_of_ble_eq_true rfl⟩) ⟨tcP.blind, va_recv hK hP (ci := 2) (q0 := 0) rfl rfl, tcP.go hK hP hD hE hS⟩ rfl rfl hl.1 rfl (lv_room (Nat.le_of_ble_eq_true rfl)) dX2_copy_2 ⟨Nat.le_of_ble_eq_true rfl, Nat.le_of_ble_eq_true rfl⟩)) (fun _ _ => ?_)
  refine lv_astore (lv' := [(6, .ref (ad j)), (0, .ref h0), (1, .int (nI j)), (2, .int fi), (3, .int (nI j2)), (4, .int ti), (5, .int mm)]) hx hb dX2_copy_5 hl (by decide) rfl (fun ls hl => ?_)
  refine lv_aload_n hx hb dX2_copy_7 rfl (lv_at hl 1 rfl) ?_
  refine lv_iload_n hx hb dX2_copy_8 rfl (lv_at hl 4 rfl) ?_
  refine va_csr (tc_CR (va_runV (As := [.int (nI j2)]) (rest := []) ⟨hx, hb, hml, hown, hts⟩ (tX2_columnAt l D A cI cJ cD cC h0 h1 h2 h3 h4 ad wd rd Y n K Ln Wh Re cd ct s.heap.size hI.1 j2 hj2) (cwV 1 hts gX2_copy_X2_columnAt rfl rfl rfl (by decide +kernel) ⟨Nat.le_of_ble_eq_true rfl, Nat.le_of_ble_eq_true rfl⟩) ⟨tcP.blind, va_recv hK hP (ci := 2) (q0 := 0) rfl rfl, tcP.go hK hP hD hE hS⟩ rfl rfl hl.1 rfl (lv_room (Nat.le_of_ble_eq_true rfl)) dX2_copy_9 ⟨Nat.le_of_ble_eq_true rfl, Nat.le_of_ble_eq_true rfl⟩)) (fun _ _ => ?_)
  refine lv_astore (lv' := [(7, .ref (ad j2)), (6, .ref (ad j)), (0, .ref h0), (1, .int (nI j)), (2, .int fi), (3, .int (nI j2)), (4, .int ti), (5, .int mm)]) hx hb dX2_copy_12 hl (by decide) rfl (fun ls hl => ?_)
  refine lv_aload hx hb dX2_copy_14 (lv_at hl 1 rfl) ?_
  refine lv_aload hx hb dX2_copy_16 (lv_at hl 0 rfl) ?_
  refine vp_callSi (tc_CR (va_runS (As := [.ref (ad j), .ref (ad j2)]) (rest := []) ⟨hx, hb, hml, hown, hts⟩ (oX2_codeOfKinds l D A cI cJ cD cC (tc_T cI cJ cD cC h0 h1 h2 h3 h4 ad wd rd Y n K Ln Wh Re cd ct) (5 + (Y.length + (3 * j + 0))) (5 + (Y.length + (3 * j + 1))) (5 + (Y.length + (3 * j + 2))) (ad j) (wd j) (rd j) (K j) (tc_cl (K j) (Ln j)) (tc_wl (K j) (Ln j)) (tc_rl (K j) (Ln j)) (tc_sl (tc_wl (K j) (Ln j)) (fun i => Wh (40 * j + i)) 0) (tc_sl (tc_rl (K j) (Ln j)) (fun i => Re (40 * j + i)) 0) s.heap.size (tc_T0 hj) (tc_T1 hj) (tc_T2 hj) (tc_len_lt (hI.2.1 j hj).2.1) (5 + (Y.length + (3 * j2 + 0))) (5 + (Y.length + (3 * j2 + 1))) (5 + (Y.length + (3 * j2 + 2))) (ad j2) (wd j2) (rd j2) (K j2) (tc_cl (K j2) (Ln j2)) (tc_wl (K j2) (Ln j2)) (tc_rl (K j2) (Ln j2)) (tc_sl (tc_wl (K j2) (Ln j2)) (fun i => Wh (40 * j2 + i)) 0) (tc_sl (tc_rl (K j2) (Ln j2)) (fun i => Re (40 * j2 + i)) 0) (tc_T0 hj2) (tc_T1 hj2) (tc_T2 hj2) (tc_len_lt (hI.2.1 j2 hj2).2.1)) (va_cwS 2 hts gX2_copy_X2_codeOfKinds rfl rfl rfl (by decide +kernel) ⟨Nat.le_of_ble_eq_true rfl, Nat.le_of_ble_eq_true rfl⟩) ⟨tcP.blind, (tcP.go hK hP hD hE hS)⟩ rfl rfl hl.1 rfl (lv_room (Nat.le_of_ble_eq_true rfl)) dX2_copy_18 ⟨Nat.le_of_ble_eq_true rfl, Nat.le_of_ble_eq_true rfl⟩)) (fun r_1 hr_1 => ?_)
  subst hr_1
  refine lv_istore (lv' := [(8, .int (kKinds (K j) (K j2))), (7, .ref (ad j2)), (6, .ref (ad j)), (0, .ref h0), (1, .int (nI j)), (2, .int fi), (3, .int (nI j2)), (4, .int ti), (5, .int mm)]) hx hb dX2_copy_21 hl (by decide) rfl (fun ls hl => ?_)
  refine lv_iload hx hb dX2_copy_23 (lv_at hl 0 rfl) ?_
  refine lv_if_ne (tgt := 60) hx hb dX2_copy_25 (by decide) (fun c_2 => ?_) (fun c_2 => ?_)
  · refine lv_iload hx hb dX2_copy_60 (lv_at hl 0 rfl) ?_
    refine lv_if_ne (tgt := 77) hx hb dX2_copy_62 (by decide) (fun _ => ?_) (fun q => absurd q (c_2))
    refine lv_aload_n hx hb dX2_copy_77 rfl (lv_at hl 3 rfl) ?_
    refine lv_iload hx hb dX2_copy_78 (lv_at hl 0 rfl) ?_
    have z : cpC K Ln j j2 fi ti mm = (kKinds (K j) (K j2)) := by unfold cpC; rw [if_neg c_2]
    refine va_calli (va_runV (As := [.int (kKinds (K j) (K j2))]) (rest := []) ⟨hx, hb, hml, hown, hts⟩ (tX2_note l D A cI cJ cD cC h0 h1 h2 h3 h4 ad wd rd Y n K Ln Wh Re cd ct s.heap.size (kKinds (K j) (K j2)) (z ▸ cpC_in K Ln j j2 fi ti mm)) (cwV 1 hts gX2_copy_X2_note rfl rfl rfl (by decide +kernel) ⟨Nat.le_of_ble_eq_true rfl, Nat.le_of_ble_eq_true rfl⟩) ⟨tcP.blind, (va_recv hK hP (ci := 2) (q0 := 0) rfl rfl), (tcP.go hK hP hD hE hS)⟩ rfl rfl hl.1 rfl (lv_room (Nat.le_of_ble_eq_true rfl)) dX2_copy_80 ⟨Nat.le_of_ble_eq_true rfl, Nat.le_of_ble_eq_true rfl⟩) hS (fun q _ h => h) (fun q h => h) (fun r_4 u t H locs ht hvm hw hB hz1 hk1 hS => ?_)
    subst hw
    obtain ⟨hP, hD⟩ := hB
    rw [ht] at hP
    have zn : ¬ cpC K Ln j j2 fi ti mm = 0 := by rw [z]; exact c_2
    have zW : cpW K Ln Wh j j2 fi ti mm = Wh := by unfold cpW; rw [if_neg zn]
    have zR : cpW K Ln Re j j2 fi ti mm = Re := by unfold cpW; rw [if_neg zn]
    have hP : va_P D vwCl (tc_T cI cJ cD cC h0 h1 h2 h3 h4 ad wd rd Y n K Ln (cpW K Ln Wh j j2 fi ti mm) (cpW K Ln Re j j2 fi ti mm) (cpC K Ln j j2 fi ti mm) (noteC ct (cpC K Ln j j2 fi ti mm))) H := by rw [zW, zR, z]; exact hP
    have hD : va_D A (tc_T cI cJ cD cC h0 h1 h2 h3 h4 ad wd rd Y n K Ln (cpW K Ln Wh j j2 fi ti mm) (cpW K Ln Re j j2 fi ti mm) (cpC K Ln j j2 fi ti mm) (noteC ct (cpC K Ln j j2 fi ti mm))) := by rw [zW, zR, z]; exact hD
    exact W.iret (v := (kKinds (K j) (K j2))) hx hb hr (fun t9 ht9 hW9 => ⟨⟨(kKinds (K j) (K j2)), (), rfl, z.symm, by rw [ht9]; exact hP, hD⟩, hS.F ht9⟩) hS.2.2 dX2_copy_83
  · refine lv_iload_n hx hb dX2_copy_28 rfl (lv_at hl 5 rfl) ?_
    refine lv_iload hx hb dX2_copy_29 (lv_at hl 8 rfl) ?_
    refine lv_aload hx hb dX2_copy_31 (lv_at hl 2 rfl) ?_
    refine va_get (D := D) (ci := 0) (fs := [.int (K j), .int (tc_cl (K j) (Ln j)), .ref (wd j), .ref (rd j)]) (v := .int (tc_cl (K j) (Ln j))) (C := RX0) (T := TX0) (N := 4) hx hb hts (by decide +kernel) hown hK hP (5 + (Y.length + (3 * j + 0))) (tc_T0 hj) rfl 1 (by decide) (hts (.fieldLink RX2 76 "TypedColumns$Column" "length" "I") (by decide +kernel)) (fun _ h9 => h9) rfl dX2_copy_33 ?_
    refine vp_callSi (W.runS (As := [.int fi, .int mm, .int (tc_cl (K j) (Ln j))]) (rest := []) ⟨hx, hb, hml, hown, hts⟩ (kX2_isPart l fi mm (tc_cl (K j) (Ln j))) (va_cwS 3 hts gX2_copy_X2_isPart rfl rfl rfl (by decide +kernel) ⟨Nat.le_of_ble_eq_true rfl, Nat.le_of_ble_eq_true rfl⟩) ⟨fun a U g mk q => q, fun U hU hW => ⟨rfl, trivial⟩⟩ rfl rfl hl.1 rfl (lv_room (Nat.le_of_ble_eq_true rfl)) dX2_copy_36 ⟨Nat.zero_le _, Nat.zero_le _⟩) (fun r_5 hr_5 => ?_)
    subst hr_5
    refine lv_if_eq (tgt := 57) hx hb dX2_copy_39 (by decide) (fun c_6 => ?_) (fun c_6 => ?_)
    · refine lv_iconst (v := 3) hx hb dX2_copy_57 (by decide) ?_
      refine lv_istore (lv' := [(8, .int 3), (7, .ref (ad j2)), (6, .ref (ad j)), (0, .ref h0), (1, .int (nI j)), (2, .int fi), (3, .int (nI j2)), (4, .int ti), (5, .int mm)]) hx hb dX2_copy_58 hl (by decide) rfl (fun ls hl => ?_)
      refine lv_iload hx hb dX2_copy_60 (lv_at hl 0 rfl) ?_
      refine lv_if_ne (tgt := 77) hx hb dX2_copy_62 (by decide) (fun _ => ?_) (fun q => absurd q (by decide))
      refine lv_aload_n hx hb dX2_copy_77 rfl (lv_at hl 3 rfl) ?_
      refine lv_iload hx hb dX2_copy_78 (lv_at hl 0 rfl) ?_
      have z : cpC K Ln j j2 fi ti mm = 3 := by unfold cpC; rw [if_pos c_2, if_neg (by rw [(tb_0 _).mp c_6]; decide)]
      refine va_calli (va_runV (As := [.int 3]) (rest := []) ⟨hx, hb, hml, hown, hts⟩ (tX2_note l D A cI cJ cD cC h0 h1 h2 h3 h4 ad wd rd Y n K Ln Wh Re cd ct s.heap.size 3 (z ▸ cpC_in K Ln j j2 fi ti mm)) (cwV 1 hts gX2_copy_X2_note rfl rfl rfl (by decide +kernel) ⟨Nat.le_of_ble_eq_true rfl, Nat.le_of_ble_eq_true rfl⟩) ⟨tcP.blind, (va_recv hK hP (ci := 2) (q0 := 0) rfl rfl), (tcP.go hK hP hD hE hS)⟩ rfl rfl hl.1 rfl (lv_room (Nat.le_of_ble_eq_true rfl)) dX2_copy_80 ⟨Nat.le_of_ble_eq_true rfl, Nat.le_of_ble_eq_true rfl⟩) hS (fun q _ h => h) (fun q h => h) (fun r_8 u t H locs ht hvm hw hB hz1 hk1 hS => ?_)
      subst hw
      obtain ⟨hP, hD⟩ := hB
      rw [ht] at hP
      have zn : ¬ cpC K Ln j j2 fi ti mm = 0 := by rw [z]; exact (by decide)
      have zW : cpW K Ln Wh j j2 fi ti mm = Wh := by unfold cpW; rw [if_neg zn]
      have zR : cpW K Ln Re j j2 fi ti mm = Re := by unfold cpW; rw [if_neg zn]
      have hP : va_P D vwCl (tc_T cI cJ cD cC h0 h1 h2 h3 h4 ad wd rd Y n K Ln (cpW K Ln Wh j j2 fi ti mm) (cpW K Ln Re j j2 fi ti mm) (cpC K Ln j j2 fi ti mm) (noteC ct (cpC K Ln j j2 fi ti mm))) H := by rw [zW, zR, z]; exact hP
      have hD : va_D A (tc_T cI cJ cD cC h0 h1 h2 h3 h4 ad wd rd Y n K Ln (cpW K Ln Wh j j2 fi ti mm) (cpW K Ln Re j j2 fi ti mm) (cpC K Ln j j2 fi ti mm) (noteC ct (cpC K Ln j j2 fi ti mm))) := by rw [zW, zR, z]; exact hD
      exact W.iret (v := 3) hx hb hr (fun t9 ht9 hW9 => ⟨⟨3, (), rfl, z.symm, by rw [ht9]; exact hP, hD⟩, hS.F ht9⟩) hS.2.2 dX2_copy_83
    · refine lv_iload hx hb dX2_copy_42 (lv_at hl 7 rfl) ?_
      refine lv_iload hx hb dX2_copy_44 (lv_at hl 8 rfl) ?_
      refine lv_aload hx hb dX2_copy_46 (lv_at hl 1 rfl) ?_
      refine va_get (D := D) (ci := 0) (fs := [.int (K j2), .int (tc_cl (K j2) (Ln j2)), .ref (wd j2), .ref (rd j2)]) (v := .int (tc_cl (K j2) (Ln j2))) (C := RX0) (T := TX0) (N := 4) hx hb hts (by decide +kernel) hown hK hP (5 + (Y.length + (3 * j2 + 0))) (tc_T0 hj2) rfl 1 (by decide) (hts (.fieldLink RX2 76 "TypedColumns$Column" "length" "I") (by decide +kernel)) (fun _ h9 => h9) rfl dX2_copy_48 ?_
      refine vp_callSi (W.runS (As := [.int ti, .int mm, .int (tc_cl (K j2) (Ln j2))]) (rest := []) ⟨hx, hb, hml, hown, hts⟩ (kX2_isPart l ti mm (tc_cl (K j2) (Ln j2))) (va_cwS 3 hts gX2_copy_X2_isPart rfl rfl rfl (by decide +kernel) ⟨Nat.le_of_ble_eq_true rfl, Nat.le_of_ble_eq_true rfl⟩) ⟨fun a U g mk q => q, fun U hU hW => ⟨rfl, trivial⟩⟩ rfl rfl hl.1 rfl (lv_room (Nat.le_of_ble_eq_true rfl)) dX2_copy_51 ⟨Nat.zero_le _, Nat.zero_le _⟩) (fun r_9 hr_9 => ?_)
      subst hr_9
      refine lv_if_ne (tgt := 60) hx hb dX2_copy_54 (by decide) (fun c_10 => ?_) (fun c_10 => ?_)
      · refine lv_iload hx hb dX2_copy_60 (lv_at hl 0 rfl) ?_
        refine lv_if_ne (tgt := 77) hx hb dX2_copy_62 (by decide) (fun q => absurd (c_2) q) (fun _ => ?_)
        refine lv_aload hx hb dX2_copy_65 (lv_at hl 1 rfl) ?_
        refine lv_aload hx hb dX2_copy_67 (lv_at hl 2 rfl) ?_
        refine lv_iload_n hx hb dX2_copy_69 rfl (lv_at hl 5 rfl) ?_
        refine lv_iload hx hb dX2_copy_70 (lv_at hl 7 rfl) ?_
        refine lv_iload hx hb dX2_copy_72 (lv_at hl 8 rfl) ?_
        have z : cpC K Ln j j2 fi ti mm = (kKinds (K j) (K j2)) := by unfold cpC; rw [if_pos c_2, if_pos ((tb_1 _).mp c_6), if_pos ((tb_1 _).mp c_10), c_2]
        have zc : cpC K Ln j j2 fi ti mm = 0 := z.trans c_2
        refine va_callv (va_runV (As := [.ref (ad j), .int fi, .int ti, .int mm]) (rest := []) ⟨hx, hb, hml, hown, hts⟩ (oX0_takeCells l D A cI cJ cD cC (tc_T cI cJ cD cC h0 h1 h2 h3 h4 ad wd rd Y n K Ln Wh Re cd ct) (5 + (Y.length + (3 * j2 + 0))) (5 + (Y.length + (3 * j2 + 1))) (5 + (Y.length + (3 * j2 + 2))) (ad j2) (wd j2) (rd j2) (K j2) (tc_cl (K j2) (Ln j2)) (tc_wl (K j2) (Ln j2)) (tc_rl (K j2) (Ln j2)) (tc_sl (tc_wl (K j2) (Ln j2)) (fun i => Wh (40 * j2 + i)) 0) (tc_sl (tc_rl (K j2) (Ln j2)) (fun i => Re (40 * j2 + i)) 0) s.heap.size (tc_T0 hj2) (tc_T1 hj2) (tc_T2 hj2) (tc_len_lt (hI.2.1 j2 hj2).2.1) (5 + (Y.length + (3 * j + 0))) (5 + (Y.length + (3 * j + 1))) (5 + (Y.length + (3 * j + 2))) (ad j) (wd j) (rd j) (K j) (tc_cl (K j) (Ln j)) (tc_wl (K j) (Ln j)) (tc_rl (K j) (Ln j)) (tc_sl (tc_wl (K j) (Ln j)) (fun i => Wh (40 * j + i)) 0) (tc_sl (tc_rl (K j) (Ln j)) (fun i => Re (40 * j + i)) 0) (tc_T0 hj) (tc_T1 hj) (tc_T2 hj) (tc_len_lt (hI.2.1 j hj).2.1) fi ti mm ⟨by omega, by omega, by omega, by omega⟩) (cwV 4 hts gX2_copy_X0_takeCells rfl rfl rfl (by decide +kernel) ⟨Nat.le_of_ble_eq_true rfl, Nat.le_of_ble_eq_true rfl⟩) ⟨tcP.blind, (va_recv hK hP (ci := 0) (q0 := (5 + (Y.length + (3 * j2 + 0)))) rfl (tc_T0 hj2)), (tcP.go hK hP hD hE hS)⟩ rfl rfl hl.1 rfl (lv_room (Nat.le_of_ble_eq_true rfl)) dX2_copy_74 ⟨Nat.le_of_ble_eq_true rfl, Nat.le_of_ble_eq_true rfl⟩) hS (fun q _ h => h) (fun q h => h) (fun u t H locs ht hvm hw hB hz1 hk1 hS => ?_)
        obtain ⟨hP, hD⟩ := hB
        rw [ht] at hP
        rw [tc_T_cp hj hj2 (fun k hk => ⟨(hI.2.1 k hk).1, (hI.2.1 k hk).2.1⟩) zc] at hP hD
        refine lv_aload_n hx hb dX2_copy_77 rfl (lv_at hl 3 rfl) ?_
        refine lv_iload hx hb dX2_copy_78 (lv_at hl 0 rfl) ?_
        refine va_calli (va_runV (As := [.int (kKinds (K j) (K j2))]) (rest := []) ⟨hx, hb, hml, hown, hts⟩ (tX2_note l D A cI cJ cD cC h0 h1 h2 h3 h4 ad wd rd Y n K Ln (cpW K Ln Wh j j2 fi ti mm) (cpW K Ln Re j j2 fi ti mm) cd ct H.size (kKinds (K j) (K j2)) (z ▸ cpC_in K Ln j j2 fi ti mm)) (cwV 1 hts gX2_copy_X2_note rfl rfl rfl (by decide +kernel) ⟨Nat.le_of_ble_eq_true rfl, Nat.le_of_ble_eq_true rfl⟩) ⟨tcP.blind, (va_recv hK hP (ci := 2) (q0 := 0) rfl rfl), (tcP.go hK hP hD hE hS)⟩ rfl rfl hl.1 rfl (lv_room (Nat.le_of_ble_eq_true rfl)) dX2_copy_80 ⟨Nat.le_of_ble_eq_true rfl, Nat.le_of_ble_eq_true rfl⟩) hS (fun q _ h => h) (fun q h => h) (fun r_13 u t H locs ht hvm hw hB hz1 hk1 hS => ?_)
        subst hw
        obtain ⟨hP, hD⟩ := hB
        rw [ht] at hP
        have hP : va_P D vwCl (tc_T cI cJ cD cC h0 h1 h2 h3 h4 ad wd rd Y n K Ln (cpW K Ln Wh j j2 fi ti mm) (cpW K Ln Re j j2 fi ti mm) (cpC K Ln j j2 fi ti mm) (noteC ct (cpC K Ln j j2 fi ti mm))) H := by rw [z]; exact hP
        have hD : va_D A (tc_T cI cJ cD cC h0 h1 h2 h3 h4 ad wd rd Y n K Ln (cpW K Ln Wh j j2 fi ti mm) (cpW K Ln Re j j2 fi ti mm) (cpC K Ln j j2 fi ti mm) (noteC ct (cpC K Ln j j2 fi ti mm))) := by rw [z]; exact hD
        exact W.iret (v := (kKinds (K j) (K j2))) hx hb hr (fun t9 ht9 hW9 => ⟨⟨(kKinds (K j) (K j2)), (), rfl, z.symm, by rw [ht9]; exact hP, hD⟩, hS.F ht9⟩) hS.2.2 dX2_copy_83
      · refine lv_iconst (v := 3) hx hb dX2_copy_57 (by decide) ?_
        refine lv_istore (lv' := [(8, .int 3), (7, .ref (ad j2)), (6, .ref (ad j)), (0, .ref h0), (1, .int (nI j)), (2, .int fi), (3, .int (nI j2)), (4, .int ti), (5, .int mm)]) hx hb dX2_copy_58 hl (by decide) rfl (fun ls hl => ?_)
        refine lv_iload hx hb dX2_copy_60 (lv_at hl 0 rfl) ?_
        refine lv_if_ne (tgt := 77) hx hb dX2_copy_62 (by decide) (fun _ => ?_) (fun q => absurd q (by decide))
        refine lv_aload_n hx hb dX2_copy_77 rfl (lv_at hl 3 rfl) ?_
        refine lv_iload hx hb dX2_copy_78 (lv_at hl 0 rfl) ?_
        have z : cpC K Ln j j2 fi ti mm = 3 := by unfold cpC; rw [if_pos c_2, if_pos ((tb_1 _).mp c_6), if_neg (by rw [(tb_0 _).mp c_10]; decide)]
        refine va_calli (va_runV (As := [.int 3]) (rest := []) ⟨hx, hb, hml, hown, hts⟩ (tX2_note l D A cI cJ cD cC h0 h1 h2 h3 h4 ad wd rd Y n K Ln Wh Re cd ct s.heap.size 3 (z ▸ cpC_in K Ln j j2 fi ti mm)) (cwV 1 hts gX2_copy_X2_note rfl rfl rfl (by decide +kernel) ⟨Nat.le_of_ble_eq_true rfl, Nat.le_of_ble_eq_true rfl⟩) ⟨tcP.blind, (va_recv hK hP (ci := 2) (q0 := 0) rfl rfl), (tcP.go hK hP hD hE hS)⟩ rfl rfl hl.1 rfl (lv_room (Nat.le_of_ble_eq_true rfl)) dX2_copy_80 ⟨Nat.le_of_ble_eq_true rfl, Nat.le_of_ble_eq_true rfl⟩) hS (fun q _ h => h) (fun q h => h) (fun r_15 u t H locs ht hvm hw hB hz1 hk1 hS => ?_)
        subst hw
        obtain ⟨hP, hD⟩ := hB
        rw [ht] at hP
        have zn : ¬ cpC K Ln j j2 fi ti mm = 0 := by rw [z]; exact (by decide)
        have zW : cpW K Ln Wh j j2 fi ti mm = Wh := by unfold cpW; rw [if_neg zn]
        have zR : cpW K Ln Re j j2 fi ti mm = Re := by unfold cpW; rw [if_neg zn]
        have hP : va_P D vwCl (tc_T cI cJ cD cC h0 h1 h2 h3 h4 ad wd rd Y n K Ln (cpW K Ln Wh j j2 fi ti mm) (cpW K Ln Re j j2 fi ti mm) (cpC K Ln j j2 fi ti mm) (noteC ct (cpC K Ln j j2 fi ti mm))) H := by rw [zW, zR, z]; exact hP
        have hD : va_D A (tc_T cI cJ cD cC h0 h1 h2 h3 h4 ad wd rd Y n K Ln (cpW K Ln Wh j j2 fi ti mm) (cpW K Ln Re j j2 fi ti mm) (cpC K Ln j j2 fi ti mm) (noteC ct (cpC K Ln j j2 fi ti mm))) := by rw [zW, zR, z]; exact hD
        exact W.iret (v := 3) hx hb hr (fun t9 ht9 hW9 => ⟨⟨3, (), rfl, z.symm, by rw [ht9]; exact hP, hD⟩, hS.F ht9⟩) hS.2.2 dX2_copy_83
set_option maxHeartbeats 4000000 in
set_option maxRecDepth 100000 in
theorem tX2_total (l : Launch) (D : va_G) (A : Nat → Prop) (cI cJ cD cC : ClassId) (h0 h1 h2 h3 h4 : Nat) (ad wd rd : Nat → Nat) (Y : va_W) (n : Nat) (K : Nat → Int32) (Ln : Nat → Nat) (Wh : Nat → Int64) (Re : Nat → UInt64) (cd : Int32) (ct : Nat → Int32) (sz : Nat) (hI : tcI n K Ln Wh Re) (j : Nat) (hj : j < n)  : Met l yX2_total wsX2_total ({ frames := 3, cells := 0, slots := 0, locals := 67 }) (tcP D A (tcTY cI cJ cD cC) sz [.ref h0, .int (nI j)] (tc_T cI cJ cD cC h0 h1 h2 h3 h4 ad wd rd Y n K Ln Wh Re cd ct)) (va_Qd (fun r (_ : Unit) => r = tot K Ln Wh Re j) (fun _ t => tcB D A (tc_T cI cJ cD cC h0 h1 h2 h3 h4 ad wd rd Y n K Ln Wh Re (kCol (K j)) (noteC ct (kCol (K j)))) t) A) 0 0 A := by
  refine Met.ofW (cc := cX2_total) (maxL := 4) (ret := (some .double)) (by decide) rfl ?_
  intro p e s m args below meth c s₁ B hml hv
  obtain ⟨rfl, hsz, hP, hK, hD, hE⟩ := hv
  have hx := B.exec
  have hb := B.bytes
  have hr := B.returns
  have hts := atoms_spec (ws := wsX2_total) B.pre
  have hown : s.vm.findClass RX2 = some m.cls := findClass_of_methodNamed B.named
  have hlocks := B.notSynchronized
  have hl := lv_entry ([.ref h0, .int (nI j)]) (n := 4) (Nat.le_of_ble_eq_true rfl)
  rw [lg_entry_eq]
  generalize (lg_sl ([.ref h0, .int (nI j)]) ++ List.replicate (4 - (lg_sl ([.ref h0, .int (nI j)])).length) Slot.unset).toArray = ls at hl ⊢
  have hl : lv_has ls 4 [(0, .ref h0), (1, .int (nI j))] := hl
  subst hsz
  have hS : va_S A s.heap s.heap [] := va_S.rf
  refine lv_aload_n hx hb dX2_total_0 rfl (lv_at hl 0 rfl) ?_
  refine lv_iload_n hx hb dX2_total_1 rfl (lv_at hl 1 rfl) ?_
  refine va_csr (tc_CR (va_runV (As := [.int (nI j)]) (rest := []) ⟨hx, hb, hml, hown, hts⟩ (tX2_columnAt l D A cI cJ cD cC h0 h1 h2 h3 h4 ad wd rd Y n K Ln Wh Re cd ct s.heap.size hI.1 j hj) (cwV 1 hts gX2_total_X2_columnAt rfl rfl rfl (by decide +kernel) ⟨Nat.le_of_ble_eq_true rfl, Nat.le_of_ble_eq_true rfl⟩) ⟨tcP.blind, va_recv hK hP (ci := 2) (q0 := 0) rfl rfl, tcP.go hK hP hD hE hS⟩ rfl rfl hl.1 rfl (lv_room (Nat.le_of_ble_eq_true rfl)) dX2_total_2 ⟨Nat.le_of_ble_eq_true rfl, Nat.le_of_ble_eq_true rfl⟩)) (fun _ _ => ?_)
  refine lv_astore_n (lv' := [(2, .ref (ad j)), (0, .ref h0), (1, .int (nI j))]) hx hb dX2_total_5 rfl hl (by decide) rfl (fun ls hl => ?_)
  refine lv_aload_n hx hb dX2_total_6 rfl (lv_at hl 1 rfl) ?_
  refine lv_aload_n hx hb dX2_total_7 rfl (lv_at hl 0 rfl) ?_
  refine vp_callSi (tc_CR (va_runS (As := [.ref (ad j)]) (rest := [.ref h0]) ⟨hx, hb, hml, hown, hts⟩ (oX2_codeOfColumn l D A cI cJ cD cC (tc_T cI cJ cD cC h0 h1 h2 h3 h4 ad wd rd Y n K Ln Wh Re cd ct) (5 + (Y.length + (3 * j + 0))) (5 + (Y.length + (3 * j + 1))) (5 + (Y.length + (3 * j + 2))) (ad j) (wd j) (rd j) (K j) (tc_cl (K j) (Ln j)) (tc_wl (K j) (Ln j)) (tc_rl (K j) (Ln j)) (tc_sl (tc_wl (K j) (Ln j)) (fun i => Wh (40 * j + i)) 0) (tc_sl (tc_rl (K j) (Ln j)) (fun i => Re (40 * j + i)) 0) s.heap.size (tc_T0 hj) (tc_T1 hj) (tc_T2 hj) (tc_len_lt (hI.2.1 j hj).2.1)) (va_cwS 1 hts gX2_total_X2_codeOfColumn rfl rfl rfl (by decide +kernel) ⟨Nat.le_of_ble_eq_true rfl, Nat.le_of_ble_eq_true rfl⟩) ⟨tcP.blind, (tcP.go hK hP hD hE hS)⟩ rfl rfl hl.1 rfl (lv_room (Nat.le_of_ble_eq_true rfl)) dX2_total_8 ⟨Nat.le_of_ble_eq_true rfl, Nat.le_of_ble_eq_true rfl⟩)) (fun r_1 hr_1 => ?_)
  subst hr_1
  refine va_calli (va_runV (As := [.int (kCol (K j))]) (rest := []) ⟨hx, hb, hml, hown, hts⟩ (tX2_note l D A cI cJ cD cC h0 h1 h2 h3 h4 ad wd rd Y n K Ln Wh Re cd ct s.heap.size (kCol (K j)) (kCol_in _)) (cwV 1 hts gX2_total_X2_note rfl rfl rfl (by decide +kernel) ⟨Nat.le_of_ble_eq_true rfl, Nat.le_of_ble_eq_true rfl⟩) ⟨tcP.blind, (va_recv hK hP (ci := 2) (q0 := 0) rfl rfl), (tcP.go hK hP hD hE hS)⟩ rfl rfl hl.1 rfl (lv_room (Nat.le_of_ble_eq_true rfl)) dX2_total_11 ⟨Nat.le_of_ble_eq_true rfl, Nat.le_of_ble_eq_true rfl⟩) hS (fun q _ h => h) (fun q h => h) (fun r_2 u t H locs ht hvm hw hB hz1 hk1 hS => ?_)
  subst hw
  obtain ⟨hP, hD⟩ := hB
  rw [ht] at hP
  refine lv_istore_n (lv' := [(3, .int (kCol (K j))), (2, .ref (ad j)), (0, .ref h0), (1, .int (nI j))]) hx hb dX2_total_14 rfl hl (by decide) rfl (fun ls hl => ?_)
  refine lv_iload_n hx hb dX2_total_15 rfl (lv_at hl 0 rfl) ?_
  refine lv_if_ne (tgt := 26) hx hb dX2_total_16 (by decide) (fun c_3 => ?_) (fun c_3 => ?_)
  · refine lv_dconst0 hx hb dX2_total_26 ?_
    exact W.dret (v := FP.dconst0) hx hb hr (fun t9 ht9 hW9 => ⟨⟨FP.dconst0, (), rfl, by unfold tot; rw [if_neg c_3]; rfl, by rw [ht9]; exact hP, hD⟩, hS.F ht9⟩) hS.2.2 dX2_total_27
  · refine lv_aload_n hx hb dX2_total_19 rfl (lv_at hl 1 rfl) ?_
    cases gf : kFl (K j)
    · have gl : tc_cl (K j) (Ln j) = nI (tc_wl (K j) (Ln j)) := by rw [tc_cl_has (kCol_has (hI.2.1 j hj).1 c_3), tc_wl_n gf]
      refine vp_callSd (tc_CR (va_runV (As := []) (rest := []) ⟨hx, hb, hml, hown, hts⟩ (oX0_sum_w l D A cI cJ cD cC (tc_T cI cJ cD cC h0 h1 h2 h3 h4 ad wd rd Y n K Ln Wh Re (kCol (K j)) (noteC ct (kCol (K j)))) (5 + (Y.length + (3 * j + 0))) (5 + (Y.length + (3 * j + 1))) (5 + (Y.length + (3 * j + 2))) (ad j) (wd j) (rd j) (K j) (tc_cl (K j) (Ln j)) (tc_wl (K j) (Ln j)) (tc_rl (K j) (Ln j)) (tc_sl (tc_wl (K j) (Ln j)) (fun i => Wh (40 * j + i)) 0) (tc_sl (tc_rl (K j) (Ln j)) (fun i => Re (40 * j + i)) 0) H.size (tc_T0 hj) (tc_T1 hj) (tc_T2 hj) (tc_len_lt (hI.2.1 j hj).2.1) gf gl) (cwV 0 hts gX2_total_X0_sum rfl rfl rfl (by decide +kernel) ⟨Nat.le_of_ble_eq_true rfl, Nat.le_of_ble_eq_true rfl⟩) ⟨tcP.blind, (va_recv hK hP (ci := 0) (q0 := (5 + (Y.length + (3 * j + 0)))) rfl (tc_T0 hj)), (tcP.go hK hP hD hE hS)⟩ rfl rfl hl.1 rfl (lv_room (Nat.le_of_ble_eq_true rfl)) dX2_total_20 ⟨Nat.le_of_ble_eq_true rfl, Nat.le_of_ble_eq_true rfl⟩)) (fun r_4 hr_4 => ?_)
      subst hr_4
      rw [tot_w c_3 gf]
      refine lv_goto (tgt := 27) hx hb dX2_total_23 (by decide) ?_
      exact W.dret (v := (tot K Ln Wh Re j)) hx hb hr (fun t9 ht9 hW9 => ⟨⟨(tot K Ln Wh Re j), (), rfl, rfl, by rw [ht9]; exact hP, hD⟩, hS.F ht9⟩) hS.2.2 dX2_total_27
    · have gl : tc_cl (K j) (Ln j) = nI (tc_rl (K j) (Ln j)) := by rw [tc_cl_has (kFl_has gf), tc_rl_n gf]
      refine vp_callSd (tc_CR (va_runV (As := []) (rest := []) ⟨hx, hb, hml, hown, hts⟩ (oX0_sum_r l D A cI cJ cD cC (tc_T cI cJ cD cC h0 h1 h2 h3 h4 ad wd rd Y n K Ln Wh Re (kCol (K j)) (noteC ct (kCol (K j)))) (5 + (Y.length + (3 * j + 0))) (5 + (Y.length + (3 * j + 1))) (5 + (Y.length + (3 * j + 2))) (ad j) (wd j) (rd j) (K j) (tc_cl (K j) (Ln j)) (tc_wl (K j) (Ln j)) (tc_rl (K j) (Ln j)) (tc_sl (tc_wl (K j) (Ln j)) (fun i => Wh (40 * j + i)) 0) (tc_sl (tc_rl (K j) (Ln j)) (fun i => Re (40 * j + i)) 0) H.size (tc_T0 hj) (tc_T1 hj) (tc_T2 hj) (tc_len_lt (hI.2.1 j hj).2.1) gf gl) (cwV 0 hts gX2_total_X0_sum rfl rfl rfl (by decide +kernel) ⟨Nat.le_of_ble_eq_true rfl, Nat.le_of_ble_eq_true rfl⟩) ⟨tcP.blind, (va_recv hK hP (ci := 0) (q0 := (5 + (Y.length + (3 * j + 0)))) rfl (tc_T0 hj)), (tcP.go hK hP hD hE hS)⟩ rfl rfl hl.1 rfl (lv_room (Nat.le_of_ble_eq_true rfl)) dX2_total_20 ⟨Nat.le_of_ble_eq_true rfl, Nat.le_of_ble_eq_true rfl⟩)) (fun r_5 hr_5 => ?_)
      subst hr_5
      rw [tot_r c_3 gf]
      refine lv_goto (tgt := 27) hx hb dX2_total_23 (by decide) ?_
      exact W.dret (v := (tot K Ln Wh Re j)) hx hb hr (fun t9 ht9 hW9 => ⟨⟨(tot K Ln Wh Re j), (), rfl, rfl, by rw [ht9]; exact hP, hD⟩, hS.F ht9⟩) hS.2.2 dX2_total_27
set_option maxHeartbeats 4000000 in
set_option maxRecDepth 100000 in
theorem tX2_hasCells (l : Launch) (D : va_G) (A : Nat → Prop) (cI cJ cD cC : ClassId) (h0 h1 h2 h3 h4 : Nat) (ad wd rd : Nat → Nat) (Y : va_W) (n : Nat) (K : Nat → Int32) (Ln : Nat → Nat) (Wh : Nat → Int64) (Re : Nat → UInt64) (cd : Int32) (ct : Nat → Int32) (sz : Nat) (hI : tcI n K Ln Wh Re) (k : Int32) (hk : kIs k = true) : Met l yX2_hasCells wsX2_hasCells ({ frames := 2, cells := 0, slots := 0, locals := 40 }) (tcP D A (tcTY cI cJ cD cC) sz [.ref h0, .int k] (tc_T cI cJ cD cC h0 h1 h2 h3 h4 ad wd rd Y n K Ln Wh Re cd ct)) (vp_Si (fun r => r = tb (kHas k))) 0 0 (fun _ => False) := by
  refine Met.ofW (cc := cX2_hasCells) (maxL := 2) (ret := (some .boolean)) (by decide) rfl ?_
  intro p e s m args below meth c s₁ B hml hv
  obtain ⟨rfl, hsz, hP, hK, hD, hE⟩ := hv
  have hx := B.exec
  have hb := B.bytes
  have hr := B.returns
  have hts := atoms_spec (ws := wsX2_hasCells) B.pre
  have hown : s.vm.findClass RX2 = some m.cls := findClass_of_methodNamed B.named
  have hlocks := B.notSynchronized
  have hl := lv_entry ([.ref h0, .int k]) (n := 2) (Nat.le_of_ble_eq_true rfl)
  rw [lg_entry_eq]
  generalize (lg_sl ([.ref h0, .int k]) ++ List.replicate (2 - (lg_sl ([.ref h0, .int k])).length) Slot.unset).toArray = ls at hl ⊢
  have hl : lv_has ls 2 [(0, .ref h0), (1, .int k)] := hl
  subst hsz
  have hS : va_S A s.heap s.heap [] := va_S.rf
  refine lv_iload_n hx hb dX2_hasCells_0 rfl (lv_at hl 1 rfl) ?_
  refine va_csv (tc_CR (va_runS (As := [.int k]) (rest := []) ⟨hx, hb, hml, hown, hts⟩ (tX2_refuseNoKind l D A cI cJ cD cC h0 h1 h2 h3 h4 ad wd rd Y n K Ln Wh Re cd ct s.heap.size k hk) (va_cwS 1 hts gX2_hasCells_X2_refuseNoKind rfl rfl rfl (by decide +kernel) ⟨Nat.le_of_ble_eq_true rfl, Nat.le_of_ble_eq_true rfl⟩) ⟨tcP.blind, (tcP.go hK hP hD hE hS)⟩ rfl rfl hl.1 rfl (lv_room (Nat.le_of_ble_eq_true rfl)) dX2_hasCells_1 ⟨Nat.le_of_ble_eq_true rfl, Nat.le_of_ble_eq_true rfl⟩)) (fun _ => ?_)
  refine lv_iload_n hx hb dX2_hasCells_4 rfl (lv_at hl 1 rfl) ?_
  refine vp_callSi (W.runS (As := [.int k]) (rest := []) ⟨hx, hb, hml, hown, hts⟩ (kX2_holdsCells l k) (va_cwS 1 hts gX2_hasCells_X2_holdsCells rfl rfl rfl (by decide +kernel) ⟨Nat.le_of_ble_eq_true rfl, Nat.le_of_ble_eq_true rfl⟩) ⟨fun a U g mk q => q, fun U hU hW => ⟨rfl, trivial⟩⟩ rfl rfl hl.1 rfl (lv_room (Nat.le_of_ble_eq_true rfl)) dX2_hasCells_5 ⟨Nat.zero_le _, Nat.zero_le _⟩) (fun r_1 hr_1 => ?_)
  subst hr_1
  exact W.zret (ty := .boolean) (v := tb (kHas k)) hx hb hr (tb_n _) (fun t9 ht9 hW9 => ⟨tb (kHas k), rfl, rfl, ht9⟩) (fun q hq => absurd hq List.not_mem_nil) dX2_hasCells_8
set_option maxHeartbeats 4000000 in
set_option maxRecDepth 100000 in
theorem tX2_canWiden (l : Launch) (D : va_G) (A : Nat → Prop) (cI cJ cD cC : ClassId) (h0 h1 h2 h3 h4 : Nat) (ad wd rd : Nat → Nat) (Y : va_W) (n : Nat) (K : Nat → Int32) (Ln : Nat → Nat) (Wh : Nat → Int64) (Re : Nat → UInt64) (cd : Int32) (ct : Nat → Int32) (sz : Nat) (hI : tcI n K Ln Wh Re) (k k2 : Int32) (hk : kIs k = true) (hk2 : kIs k2 = true) : Met l yX2_canWiden wsX2_canWiden ({ frames := 2, cells := 0, slots := 0, locals := 41 }) (tcP D A (tcTY cI cJ cD cC) sz [.ref h0, .int k, .int k2] (tc_T cI cJ cD cC h0 h1 h2 h3 h4 ad wd rd Y n K Ln Wh Re cd ct)) (vp_Si (fun r => r = tb (kWid k k2))) 0 0 (fun _ => False) := by
  refine Met.ofW (cc := cX2_canWiden) (maxL := 3) (ret := (some .boolean)) (by decide) rfl ?_
  intro p e s m args below meth c s₁ B hml hv
  obtain ⟨rfl, hsz, hP, hK, hD, hE⟩ := hv
  have hx := B.exec
  have hb := B.bytes
  have hr := B.returns
  have hts := atoms_spec (ws := wsX2_canWiden) B.pre
  have hown : s.vm.findClass RX2 = some m.cls := findClass_of_methodNamed B.named
  have hlocks := B.notSynchronized
  have hl := lv_entry ([.ref h0, .int k, .int k2]) (n := 3) (Nat.le_of_ble_eq_true rfl)
  rw [lg_entry_eq]
  generalize (lg_sl ([.ref h0, .int k, .int k2]) ++ List.replicate (3 - (lg_sl ([.ref h0, .int k, .int k2])).length) Slot.unset).toArray = ls at hl ⊢
  have hl : lv_has ls 3 [(0, .ref h0), (1, .int k), (2, .int k2)] := hl
  subst hsz
  have hS : va_S A s.heap s.heap [] := va_S.rf
  refine lv_iload_n hx hb dX2_canWiden_0 rfl (lv_at hl 1 rfl) ?_
  refine va_csv (tc_CR (va_runS (As := [.int k]) (rest := []) ⟨hx, hb, hml, hown, hts⟩ (tX2_refuseNoKind l D A cI cJ cD cC h0 h1 h2 h3 h4 ad wd rd Y n K Ln Wh Re cd ct s.heap.size k hk) (va_cwS 1 hts gX2_canWiden_X2_refuseNoKind rfl rfl rfl (by decide +kernel) ⟨Nat.le_of_ble_eq_true rfl, Nat.le_of_ble_eq_true rfl⟩) ⟨tcP.blind, (tcP.go hK hP hD hE hS)⟩ rfl rfl hl.1 rfl (lv_room (Nat.le_of_ble_eq_true rfl)) dX2_canWiden_1 ⟨Nat.le_of_ble_eq_true rfl, Nat.le_of_ble_eq_true rfl⟩)) (fun _ => ?_)
  refine lv_iload_n hx hb dX2_canWiden_4 rfl (lv_at hl 2 rfl) ?_
  refine va_csv (tc_CR (va_runS (As := [.int k2]) (rest := []) ⟨hx, hb, hml, hown, hts⟩ (tX2_refuseNoKind l D A cI cJ cD cC h0 h1 h2 h3 h4 ad wd rd Y n K Ln Wh Re cd ct s.heap.size k2 hk2) (va_cwS 1 hts gX2_canWiden_X2_refuseNoKind rfl rfl rfl (by decide +kernel) ⟨Nat.le_of_ble_eq_true rfl, Nat.le_of_ble_eq_true rfl⟩) ⟨tcP.blind, (tcP.go hK hP hD hE hS)⟩ rfl rfl hl.1 rfl (lv_room (Nat.le_of_ble_eq_true rfl)) dX2_canWiden_5 ⟨Nat.le_of_ble_eq_true rfl, Nat.le_of_ble_eq_true rfl⟩)) (fun _ => ?_)
  refine lv_iload_n hx hb dX2_canWiden_8 rfl (lv_at hl 1 rfl) ?_
  refine lv_iload_n hx hb dX2_canWiden_9 rfl (lv_at hl 2 rfl) ?_
  refine vp_callSi (W.runS (As := [.int k, .int k2]) (rest := []) ⟨hx, hb, hml, hown, hts⟩ (kX2_widens l k k2) (va_cwS 2 hts gX2_canWiden_X2_widens rfl rfl rfl (by decide +kernel) ⟨Nat.le_of_ble_eq_true rfl, Nat.le_of_ble_eq_true rfl⟩) ⟨fun a U g mk q => q, fun U hU hW => ⟨rfl, trivial⟩⟩ rfl rfl hl.1 rfl (lv_room (Nat.le_of_ble_eq_true rfl)) dX2_canWiden_10 ⟨Nat.zero_le _, Nat.zero_le _⟩) (fun r_1 hr_1 => ?_)
  subst hr_1
  exact W.zret (ty := .boolean) (v := tb (kWid k k2)) hx hb hr (tb_n _) (fun t9 ht9 hW9 => ⟨tb (kWid k k2), rfl, rfl, ht9⟩) (fun q hq => absurd hq List.not_mem_nil) dX2_canWiden_13
set_option maxHeartbeats 4000000 in
set_option maxRecDepth 100000 in
theorem tX2_isNumber (l : Launch) (D : va_G) (A : Nat → Prop) (cI cJ cD cC : ClassId) (h0 h1 h2 h3 h4 : Nat) (ad wd rd : Nat → Nat) (Y : va_W) (n : Nat) (K : Nat → Int32) (Ln : Nat → Nat) (Wh : Nat → Int64) (Re : Nat → UInt64) (cd : Int32) (ct : Nat → Int32) (sz : Nat) (hI : tcI n K Ln Wh Re) (k : Int32) (hk : kIs k = true) : Met l yX2_isNumber wsX2_isNumber ({ frames := 2, cells := 0, slots := 0, locals := 40 }) (tcP D A (tcTY cI cJ cD cC) sz [.ref h0, .int k] (tc_T cI cJ cD cC h0 h1 h2 h3 h4 ad wd rd Y n K Ln Wh Re cd ct)) (vp_Si (fun r => r = tb (kNum k))) 0 0 (fun _ => False) := by
  refine Met.ofW (cc := cX2_isNumber) (maxL := 2) (ret := (some .boolean)) (by decide) rfl ?_
  intro p e s m args below meth c s₁ B hml hv
  obtain ⟨rfl, hsz, hP, hK, hD, hE⟩ := hv
  have hx := B.exec
  have hb := B.bytes
  have hr := B.returns
  have hts := atoms_spec (ws := wsX2_isNumber) B.pre
  have hown : s.vm.findClass RX2 = some m.cls := findClass_of_methodNamed B.named
  have hlocks := B.notSynchronized
  have hl := lv_entry ([.ref h0, .int k]) (n := 2) (Nat.le_of_ble_eq_true rfl)
  rw [lg_entry_eq]
  generalize (lg_sl ([.ref h0, .int k]) ++ List.replicate (2 - (lg_sl ([.ref h0, .int k])).length) Slot.unset).toArray = ls at hl ⊢
  have hl : lv_has ls 2 [(0, .ref h0), (1, .int k)] := hl
  subst hsz
  have hS : va_S A s.heap s.heap [] := va_S.rf
  refine lv_iload_n hx hb dX2_isNumber_0 rfl (lv_at hl 1 rfl) ?_
  refine va_csv (tc_CR (va_runS (As := [.int k]) (rest := []) ⟨hx, hb, hml, hown, hts⟩ (tX2_refuseNoKind l D A cI cJ cD cC h0 h1 h2 h3 h4 ad wd rd Y n K Ln Wh Re cd ct s.heap.size k hk) (va_cwS 1 hts gX2_isNumber_X2_refuseNoKind rfl rfl rfl (by decide +kernel) ⟨Nat.le_of_ble_eq_true rfl, Nat.le_of_ble_eq_true rfl⟩) ⟨tcP.blind, (tcP.go hK hP hD hE hS)⟩ rfl rfl hl.1 rfl (lv_room (Nat.le_of_ble_eq_true rfl)) dX2_isNumber_1 ⟨Nat.le_of_ble_eq_true rfl, Nat.le_of_ble_eq_true rfl⟩)) (fun _ => ?_)
  refine lv_iload_n hx hb dX2_isNumber_4 rfl (lv_at hl 1 rfl) ?_
  refine lv_iconst (v := 2) hx hb dX2_isNumber_5 (by decide) ?_
  refine lv_icmp_eq (tgt := 20) hx hb dX2_isNumber_6 (by decide) (fun c_1 => ?_) (fun c_1 => ?_)
  · refine lv_iconst (v := 1) hx hb dX2_isNumber_20 (by decide) ?_
    refine lv_goto (tgt := 25) hx hb dX2_isNumber_21 (by decide) ?_
    exact W.zret (ty := .boolean) (v := 1) hx hb hr rfl (fun t9 ht9 hW9 => ⟨1, rfl, by simp [tb, kNum, c_1], ht9⟩) (fun q hq => absurd hq List.not_mem_nil) dX2_isNumber_25
  · refine lv_iload_n hx hb dX2_isNumber_9 rfl (lv_at hl 1 rfl) ?_
    refine lv_iconst (v := 4) hx hb dX2_isNumber_10 (by decide) ?_
    refine lv_icmp_lt (tgt := 24) hx hb dX2_isNumber_11 (by decide) (fun c_2 => ?_) (fun c_2 => ?_)
    · refine lv_iconst (v := 0) hx hb dX2_isNumber_24 (by decide) ?_
      exact W.zret (ty := .boolean) (v := 0) hx hb hr rfl (fun t9 ht9 hW9 => ⟨0, rfl, by simp [tb, kNum, c_1, c_2], ht9⟩) (fun q hq => absurd hq List.not_mem_nil) dX2_isNumber_25
    · refine lv_iload_n hx hb dX2_isNumber_14 rfl (lv_at hl 1 rfl) ?_
      refine lv_bipush (v := 8) hx hb dX2_isNumber_15 (by decide) ?_
      refine lv_icmp_gt (tgt := 24) hx hb dX2_isNumber_17 (by decide) (fun c_3 => ?_) (fun c_3 => ?_)
      · refine lv_iconst (v := 0) hx hb dX2_isNumber_24 (by decide) ?_
        exact W.zret (ty := .boolean) (v := 0) hx hb hr rfl (fun t9 ht9 hW9 => ⟨0, rfl, by simp [tb, kNum, c_1, c_2, c_3], ht9⟩) (fun q hq => absurd hq List.not_mem_nil) dX2_isNumber_25
      · refine lv_iconst (v := 1) hx hb dX2_isNumber_20 (by decide) ?_
        refine lv_goto (tgt := 25) hx hb dX2_isNumber_21 (by decide) ?_
        exact W.zret (ty := .boolean) (v := 1) hx hb hr rfl (fun t9 ht9 hW9 => ⟨1, rfl, by simp [tb, kNum, c_1, c_2, c_3], ht9⟩) (fun q hq => absurd hq List.not_mem_nil) dX2_isNumber_25
set_option maxHeartbeats 4000000 in
set_option maxRecDepth 100000 in
theorem tX2_mixedColumn (l : Launch) (D : va_G) (A : Nat → Prop) (cI cJ cD cC : ClassId) (h0 h1 h2 h3 h4 : Nat) (ad wd rd : Nat → Nat) (Y : va_W) (n : Nat) (K : Nat → Int32) (Ln : Nat → Nat) (Wh : Nat → Int64) (Re : Nat → UInt64) (cd : Int32) (ct : Nat → Int32) (sz : Nat) (hI : tcI n K Ln Wh Re) (j : Nat) (hj : j < n) (dd : Int64) : Met l yX2_mixedColumn wsX2_mixedColumn ({ frames := 3, cells := 0, slots := 0, locals := 73 }) (tcP D A (tcTY cI cJ cD cC) sz [.ref h0, .long dd, .ref (ad j)] (tc_T cI cJ cD cC h0 h1 h2 h3 h4 ad wd rd Y n K Ln Wh Re cd ct)) (vp_Sl (fun r => r = mxC K Ln Wh Re j dd)) 0 0 (fun _ => False) := by
  refine Met.ofW (cc := cX2_mixedColumn) (maxL := 11) (ret := (some .long)) (by decide) rfl ?_
  intro p e s m args below meth c s₁ B hml hv
  obtain ⟨rfl, hsz, hP, hK, hD, hE⟩ := hv
  have hx := B.exec
  have hb := B.bytes
  have hr := B.returns
  have hts := atoms_spec (ws := wsX2_mixedColumn) B.pre
  have hown : s.vm.findClass RX2 = some m.cls := findClass_of_methodNamed B.named
  have hlocks := B.notSynchronized
  have hl := lv_entry ([.ref h0, .long dd, .ref (ad j)]) (n := 11) (Nat.le_of_ble_eq_true rfl)
  rw [lg_entry_eq]
  generalize (lg_sl ([.ref h0, .long dd, .ref (ad j)]) ++ List.replicate (11 - (lg_sl ([.ref h0, .long dd, .ref (ad j)])).length) Slot.unset).toArray = ls at hl ⊢
  have hl : lv_has ls 11 [(0, .ref h0), (1, .long dd), (3, .ref (ad j))] := hl
  subst hsz
  have hS : va_S A s.heap s.heap [] := va_S.rf
  refine lv_lload_n hx hb dX2_mixedColumn_0 rfl (lv_at hl 1 rfl) ?_
  refine lv_aload_n hx hb dX2_mixedColumn_1 rfl (lv_at hl 2 rfl) ?_
  refine va_get (D := D) (ci := 0) (fs := [.int (K j), .int (tc_cl (K j) (Ln j)), .ref (wd j), .ref (rd j)]) (v := .int (K j)) (C := RX0) (T := TX0) (N := 4) hx hb hts (by decide +kernel) hown hK hP (5 + (Y.length + (3 * j + 0))) (tc_T0 hj) rfl 0 (by decide) (hts (.fieldLink RX2 66 "TypedColumns$Column" "kind" "I") (by decide +kernel)) (fun _ h9 => h9) rfl dX2_mixedColumn_2 ?_
  refine lv_i2l (v := (K j).toInt64) hx hb dX2_mixedColumn_5 rfl ?_
  refine vp_callSl (W.runS (As := [.long dd, .long ((K j).toInt64)]) (rest := []) ⟨hx, hb, hml, hown, hts⟩ (kX2_mixed l dd ((K j).toInt64)) (va_cwS 2 hts gX2_mixedColumn_X2_mixed rfl rfl rfl (by decide +kernel) ⟨Nat.le_of_ble_eq_true rfl, Nat.le_of_ble_eq_true rfl⟩) ⟨fun a U g mk q => q, fun U hU hW => ⟨rfl, trivial⟩⟩ rfl rfl hl.1 rfl (lv_room (Nat.le_of_ble_eq_true rfl)) dX2_mixedColumn_6 ⟨Nat.zero_le _, Nat.zero_le _⟩) (fun r_1 hr_1 => ?_)
  subst hr_1
  refine lv_aload_n hx hb dX2_mixedColumn_9 rfl (lv_at hl 2 rfl) ?_
  refine va_get (D := D) (ci := 0) (fs := [.int (K j), .int (tc_cl (K j) (Ln j)), .ref (wd j), .ref (rd j)]) (v := .int (tc_cl (K j) (Ln j))) (C := RX0) (T := TX0) (N := 4) hx hb hts (by decide +kernel) hown hK hP (5 + (Y.length + (3 * j + 0))) (tc_T0 hj) rfl 1 (by decide) (hts (.fieldLink RX2 76 "TypedColumns$Column" "length" "I") (by decide +kernel)) (fun _ h9 => h9) rfl dX2_mixedColumn_10 ?_
  refine lv_i2l (v := (tc_cl (K j) (Ln j)).toInt64) hx hb dX2_mixedColumn_13 rfl ?_
  refine vp_callSl (W.runS (As := [.long (dd * 31 + ((K j).toInt64)), .long ((tc_cl (K j) (Ln j)).toInt64)]) (rest := []) ⟨hx, hb, hml, hown, hts⟩ (kX2_mixed l (dd * 31 + ((K j).toInt64)) ((tc_cl (K j) (Ln j)).toInt64)) (va_cwS 2 hts gX2_mixedColumn_X2_mixed rfl rfl rfl (by decide +kernel) ⟨Nat.le_of_ble_eq_true rfl, Nat.le_of_ble_eq_true rfl⟩) ⟨fun a U g mk q => q, fun U hU hW => ⟨rfl, trivial⟩⟩ rfl rfl hl.1 rfl (lv_room (Nat.le_of_ble_eq_true rfl)) dX2_mixedColumn_14 ⟨Nat.zero_le _, Nat.zero_le _⟩) (fun r_2 hr_2 => ?_)
  subst hr_2
  refine lv_topl (fun x_3 ex_3 => ?_)
  refine lv_lstore (lv' := [(4, .long x_3), (0, .ref h0), (1, .long dd), (3, .ref (ad j))]) hx hb dX2_mixedColumn_17 hl (by decide) rfl (fun ls hl => ?_)
  refine lv_aload_n hx hb dX2_mixedColumn_19 rfl (lv_at hl 3 rfl) ?_
  refine va_get (D := D) (ci := 0) (fs := [.int (K j), .int (tc_cl (K j) (Ln j)), .ref (wd j), .ref (rd j)]) (v := .ref (wd j)) (C := RX0) (T := TX0) (N := 4) hx hb hts (by decide +kernel) hown hK hP (5 + (Y.length + (3 * j + 0))) (tc_T0 hj) rfl 2 (by decide) (hts (.fieldLink RX2 202 "TypedColumns$Column" "wholes" "[J") (by decide +kernel)) (fun _ h9 => h9) rfl dX2_mixedColumn_20 ?_
  refine lv_astore (lv' := [(6, .ref (wd j)), (4, .long x_3), (0, .ref h0), (1, .long dd), (3, .ref (ad j))]) hx hb dX2_mixedColumn_23 hl (by decide) rfl (fun ls hl => ?_)
  refine lv_aload hx hb dX2_mixedColumn_25 (lv_at hl 0 rfl) ?_
  refine va_alen (v := (nI (tc_wl (K j) (Ln j)))) hx hb hK hP (5 + (Y.length + (3 * j + 1))) 1 (tc_T1 hj) rfl rfl dX2_mixedColumn_27 ?_
  refine lv_istore (lv' := [(7, .int (nI (tc_wl (K j) (Ln j)))), (6, .ref (wd j)), (4, .long x_3), (0, .ref h0), (1, .long dd), (3, .ref (ad j))]) hx hb dX2_mixedColumn_28 hl (by decide) rfl (fun ls hl => ?_)
  refine lv_iconst (v := 0) hx hb dX2_mixedColumn_30 (by decide) ?_
  refine lv_istore (lv' := [(8, .int 0), (7, .int (nI (tc_wl (K j) (Ln j)))), (6, .ref (wd j)), (4, .long x_3), (0, .ref h0), (1, .long dd), (3, .ref (ad j))]) hx hb dX2_mixedColumn_31 hl (by decide) rfl (fun ls hl => ?_)
  subst ex_3
  have hl0 : lv_has ls 11 [(8, .int (nI 0)), (4, .long (mxW (mx (mx dd (K j).toInt64) (tc_cl (K j) (Ln j)).toInt64) (tc_sl (tc_wl (K j) (Ln j)) (fun i => Wh (40 * j + i)) 0) 0)), (7, .int (nI (tc_wl (K j) (Ln j)))), (6, .ref (wd j)), (3, .ref (ad j)), (0, .ref h0)] := lv_sub hl [0, 3, 1, 2, 6, 4] rfl
  refine tc_loop (fun k9 H locs ls => ∃ i : Nat, i + k9 = (tc_wl (K j) (Ln j)) ∧ (H = s.heap ∧ locs = []) ∧ lv_has ls 11 [(8, .int (nI i)), (4, .long (mxW (mx (mx dd (K j).toInt64) (tc_cl (K j) (Ln j)).toInt64) (tc_sl (tc_wl (K j) (Ln j)) (fun i => Wh (40 * j + i)) 0) i)), (7, .int (nI (tc_wl (K j) (Ln j)))), (6, .ref (wd j)), (3, .ref (ad j)), (0, .ref h0)]) (fun k9 H locs ls hi9 ih => ?_) (fun H locs ls hi9 => ?_) (tc_wl (K j) (Ln j)) ⟨0, by omega, ⟨rfl, rfl⟩, hl0⟩
  · obtain ⟨i, hik, ⟨rfl, rfl⟩, hl⟩ := hi9
    have hiN : i < (tc_wl (K j) (Ln j)) := by omega
    refine lv_iload hx hb dX2_mixedColumn_33 (lv_at hl 0 rfl) ?_
    refine lv_iload hx hb dX2_mixedColumn_35 (lv_at hl 2 rfl) ?_
    refine lv_icmp_ge (tgt := 62) hx hb dX2_mixedColumn_37 (by decide) (fun q => absurd q (nI_ge hiN (tc_len_lt (hI.2.1 j hj).2.1).1)) (fun _ => ?_)
    refine lv_aload hx hb dX2_mixedColumn_40 (lv_at hl 3 rfl) ?_
    refine lv_iload hx hb dX2_mixedColumn_42 (lv_at hl 0 rfl) ?_
    refine tc_lald (f := (tc_sl (tc_wl (K j) (Ln j)) (fun i => Wh (40 * j + i)) 0)) (v := (tc_sl (tc_wl (K j) (Ln j)) (fun i => Wh (40 * j + i)) 0) i) hx hb hK hP (5 + (Y.length + (3 * j + 1))) 1 (tc_T1 hj) rfl (vp_in_nI hiN (tc_len_lt (hI.2.1 j hj).2.1).1) (by rw [nI_clamp (n := i) (Nat.lt_trans hiN (tc_len_lt (hI.2.1 j hj).2.1).1)]) dX2_mixedColumn_44 ?_
    refine lv_topl (fun x_5 ex_5 => ?_)
    refine lv_lstore (lv' := [(9, .long x_5), (8, .int (nI i)), (4, .long (mxW (mx (mx dd (K j).toInt64) (tc_cl (K j) (Ln j)).toInt64) (tc_sl (tc_wl (K j) (Ln j)) (fun i => Wh (40 * j + i)) 0) i)), (7, .int (nI (tc_wl (K j) (Ln j)))), (6, .ref (wd j)), (3, .ref (ad j)), (0, .ref h0)]) hx hb dX2_mixedColumn_45 hl (by decide) rfl (fun ls hl => ?_)
    refine lv_lload hx hb dX2_mixedColumn_47 (lv_at hl 2 rfl) ?_
    refine lv_lload hx hb dX2_mixedColumn_49 (lv_at hl 0 rfl) ?_
    refine vp_callSl (W.runS (As := [.long (mxW (mx (mx dd (K j).toInt64) (tc_cl (K j) (Ln j)).toInt64) (tc_sl (tc_wl (K j) (Ln j)) (fun i => Wh (40 * j + i)) 0) i), .long x_5]) (rest := []) ⟨hx, hb, hml, hown, hts⟩ (kX2_mixed l (mxW (mx (mx dd (K j).toInt64) (tc_cl (K j) (Ln j)).toInt64) (tc_sl (tc_wl (K j) (Ln j)) (fun i => Wh (40 * j + i)) 0) i) x_5) (va_cwS 2 hts gX2_mixedColumn_X2_mixed rfl rfl rfl (by decide +kernel) ⟨Nat.le_of_ble_eq_true rfl, Nat.le_of_ble_eq_true rfl⟩) ⟨fun a U g mk q => q, fun U hU hW => ⟨rfl, trivial⟩⟩ rfl rfl hl.1 rfl (lv_room (Nat.le_of_ble_eq_true rfl)) dX2_mixedColumn_51 ⟨Nat.zero_le _, Nat.zero_le _⟩) (fun r_6 hr_6 => ?_)
    subst hr_6
    refine lv_topl (fun x_7 ex_7 => ?_)
    refine lv_lstore (lv' := [(4, .long x_7), (9, .long x_5), (8, .int (nI i)), (7, .int (nI (tc_wl (K j) (Ln j)))), (6, .ref (wd j)), (3, .ref (ad j)), (0, .ref h0)]) hx hb dX2_mixedColumn_54 hl (by decide) rfl (fun ls hl => ?_)
    obtain ⟨x_8, ex_8⟩ : ∃ y : Int32, y = (nI i) + (1) := ⟨_, rfl⟩
    refine lv_iinc (v := x_8) (lv' := [(8, .int x_8), (4, .long x_7), (9, .long x_5), (7, .int (nI (tc_wl (K j) (Ln j)))), (6, .ref (wd j)), (3, .ref (ad j)), (0, .ref h0)]) hx hb dX2_mixedColumn_56 hl (k := 2) rfl (by rw [ex_8]; rfl) (by decide) rfl (fun ls hl => ?_)
    refine lv_goto (tgt := 33) hx hb dX2_mixedColumn_59 (by decide) ?_
    subst ex_5
    subst ex_7
    subst ex_8
    exact ih _ _ _ ⟨i + 1, by omega, ⟨rfl, rfl⟩, by rw [nI_succ]; exact lv_sub hl [0, 1, 3, 4, 5, 6] rfl⟩
  · obtain ⟨i, hik, ⟨rfl, rfl⟩, hl⟩ := hi9
    have hiN : i = (tc_wl (K j) (Ln j)) := by omega
    rw [hiN] at hl
    refine lv_iload hx hb dX2_mixedColumn_33 (lv_at hl 0 rfl) ?_
    refine lv_iload hx hb dX2_mixedColumn_35 (lv_at hl 2 rfl) ?_
    refine lv_icmp_ge (tgt := 62) hx hb dX2_mixedColumn_37 (by decide) (fun _ => ?_) (fun q => absurd (nI_le (Nat.le_refl _) (tc_len_lt (hI.2.1 j hj).2.1).1) q)
    refine lv_aload_n hx hb dX2_mixedColumn_62 rfl (lv_at hl 4 rfl) ?_
    refine va_get (D := D) (ci := 0) (fs := [.int (K j), .int (tc_cl (K j) (Ln j)), .ref (wd j), .ref (rd j)]) (v := .ref (rd j)) (C := RX0) (T := TX0) (N := 4) hx hb hts (by decide +kernel) hown hK hP (5 + (Y.length + (3 * j + 0))) (tc_T0 hj) rfl 3 (by decide) (hts (.fieldLink RX2 206 "TypedColumns$Column" "reals" "[D") (by decide +kernel)) (fun _ h9 => h9) rfl dX2_mixedColumn_63 ?_
    refine lv_astore (lv' := [(6, .ref (rd j)), (8, .int (nI (tc_wl (K j) (Ln j)))), (4, .long (mxW (mx (mx dd (K j).toInt64) (tc_cl (K j) (Ln j)).toInt64) (tc_sl (tc_wl (K j) (Ln j)) (fun i => Wh (40 * j + i)) 0) (tc_wl (K j) (Ln j)))), (7, .int (nI (tc_wl (K j) (Ln j)))), (3, .ref (ad j)), (0, .ref h0)]) hx hb dX2_mixedColumn_66 hl (by decide) rfl (fun ls hl => ?_)
    refine lv_aload hx hb dX2_mixedColumn_68 (lv_at hl 0 rfl) ?_
    refine va_alen (v := (nI (tc_rl (K j) (Ln j)))) hx hb hK hP (5 + (Y.length + (3 * j + 2))) 2 (tc_T2 hj) rfl rfl dX2_mixedColumn_70 ?_
    refine lv_istore (lv' := [(7, .int (nI (tc_rl (K j) (Ln j)))), (6, .ref (rd j)), (8, .int (nI (tc_wl (K j) (Ln j)))), (4, .long (mxW (mx (mx dd (K j).toInt64) (tc_cl (K j) (Ln j)).toInt64) (tc_sl (tc_wl (K j) (Ln j)) (fun i => Wh (40 * j + i)) 0) (tc_wl (K j) (Ln j)))), (3, .ref (ad j)), (0, .ref h0)]) hx hb dX2_mixedColumn_71 hl (by decide) rfl (fun ls hl => ?_)
    refine lv_iconst (v := 0) hx hb dX2_mixedColumn_73 (by decide) ?_
    refine lv_istore (lv' := [(8, .int 0), (7, .int (nI (tc_rl (K j) (Ln j)))), (6, .ref (rd j)), (4, .long (mxW (mx (mx dd (K j).toInt64) (tc_cl (K j) (Ln j)).toInt64) (tc_sl (tc_wl (K j) (Ln j)) (fun i => Wh (40 * j + i)) 0) (tc_wl (K j) (Ln j)))), (3, .ref (ad j)), (0, .ref h0)]) hx hb dX2_mixedColumn_74 hl (by decide) rfl (fun ls hl => ?_)
    have hl0 : lv_has ls 11 [(8, .int (nI 0)), (4, .long (mxW (mxW (mx (mx dd (K j).toInt64) (tc_cl (K j) (Ln j)).toInt64) (tc_sl (tc_wl (K j) (Ln j)) (fun i => Wh (40 * j + i)) 0) (tc_wl (K j) (Ln j))) (fun q => ((tc_sl (tc_rl (K j) (Ln j)) (fun i => Re (40 * j + i)) 0) q).toInt64) 0)), (7, .int (nI (tc_rl (K j) (Ln j)))), (6, .ref (rd j)), (3, .ref (ad j)), (0, .ref h0)] := lv_sub hl [0, 3, 1, 2, 4, 5] rfl
    refine tc_loop (fun k9 H locs ls => ∃ i : Nat, i + k9 = (tc_rl (K j) (Ln j)) ∧ (H = s.heap ∧ locs = []) ∧ lv_has ls 11 [(8, .int (nI i)), (4, .long (mxW (mxW (mx (mx dd (K j).toInt64) (tc_cl (K j) (Ln j)).toInt64) (tc_sl (tc_wl (K j) (Ln j)) (fun i => Wh (40 * j + i)) 0) (tc_wl (K j) (Ln j))) (fun q => ((tc_sl (tc_rl (K j) (Ln j)) (fun i => Re (40 * j + i)) 0) q).toInt64) i)), (7, .int (nI (tc_rl (K j) (Ln j)))), (6, .ref (rd j)), (3, .ref (ad j)), (0, .ref h0)]) (fun k9 H locs ls hi9 ih => ?_) (fun H locs ls hi9 => ?_) (tc_rl (K j) (Ln j)) ⟨0, by omega, ⟨rfl, rfl⟩, hl0⟩
    · obtain ⟨i, hik, ⟨rfl, rfl⟩, hl⟩ := hi9
      have hiN : i < (tc_rl (K j) (Ln j)) := by omega
      refine lv_iload hx hb dX2_mixedColumn_76 (lv_at hl 0 rfl) ?_
      refine lv_iload hx hb dX2_mixedColumn_78 (lv_at hl 2 rfl) ?_
      refine lv_icmp_ge (tgt := 112) hx hb dX2_mixedColumn_80 (by decide) (fun q => absurd q (nI_ge hiN (tc_len_lt (hI.2.1 j hj).2.1).2)) (fun _ => ?_)
      refine lv_aload hx hb dX2_mixedColumn_83 (lv_at hl 3 rfl) ?_
      refine lv_iload hx hb dX2_mixedColumn_85 (lv_at hl 0 rfl) ?_
      refine tc_dald (f := (tc_sl (tc_rl (K j) (Ln j)) (fun i => Re (40 * j + i)) 0)) (v := (tc_sl (tc_rl (K j) (Ln j)) (fun i => Re (40 * j + i)) 0) i) hx hb hK hP (5 + (Y.length + (3 * j + 2))) 2 (tc_T2 hj) rfl (vp_in_nI hiN (tc_len_lt (hI.2.1 j hj).2.1).2) (by rw [nI_clamp (n := i) (Nat.lt_trans hiN (tc_len_lt (hI.2.1 j hj).2.1).2)]) dX2_mixedColumn_87 ?_
      refine lv_topd (fun x_11 ex_11 => ?_)
      refine lv_dstore (lv' := [(9, .double x_11), (8, .int (nI i)), (4, .long (mxW (mxW (mx (mx dd (K j).toInt64) (tc_cl (K j) (Ln j)).toInt64) (tc_sl (tc_wl (K j) (Ln j)) (fun i => Wh (40 * j + i)) 0) (tc_wl (K j) (Ln j))) (fun q => ((tc_sl (tc_rl (K j) (Ln j)) (fun i => Re (40 * j + i)) 0) q).toInt64) i)), (7, .int (nI (tc_rl (K j) (Ln j)))), (6, .ref (rd j)), (3, .ref (ad j)), (0, .ref h0)]) hx hb dX2_mixedColumn_88 hl (by decide) rfl (fun ls hl => ?_)
      refine lv_lload hx hb dX2_mixedColumn_90 (lv_at hl 2 rfl) ?_
      refine lv_aload_n hx hb dX2_mixedColumn_92 rfl (lv_at hl 6 rfl) ?_
      refine va_get (D := D) (ci := 2) (fs := [.ref h1, .ref h2, .ref h3, .int (nI n), .int cd]) (v := .ref h3) (C := RX2) (T := TX2) (N := 5) hx hb hts (by decide +kernel) hown hK hP 0 rfl rfl 2 (by decide) (hts (.fieldLink RX2 22 "TypedColumns" "doubleBits" "LTypedColumns$DoubleBits;") (by decide +kernel)) (fun _ h9 => h9) rfl dX2_mixedColumn_93 ?_
      refine lv_dload hx hb dX2_mixedColumn_96 (lv_at hl 0 rfl) ?_
      subst ex_11
      have gz : FP.Core.dIsNaN ((tc_sl (tc_rl (K j) (Ln j)) (fun i => Re (40 * j + i)) 0) i) = false := by rw [tc_sl_in hiN]; exact hI.2.2.2 j hj (tc_rl_pos hiN).1 i (tc_rl_pos hiN).2
      refine vp_callSl (tc_CR (va_runV (As := [.double ((tc_sl (tc_rl (K j) (Ln j)) (fun i => Re (40 * j + i)) 0) i)]) (rest := [.long (mxW (mxW (mx (mx dd (K j).toInt64) (tc_cl (K j) (Ln j)).toInt64) (tc_sl (tc_wl (K j) (Ln j)) (fun i => Wh (40 * j + i)) 0) (tc_wl (K j) (Ln j))) (fun q => ((tc_sl (tc_rl (K j) (Ln j)) (fun i => Re (40 * j + i)) 0) q).toInt64) i)]) ⟨hx, hb, hml, hown, hts⟩ (oX1_of l D A cI cJ cD cC (tc_T cI cJ cD cC h0 h1 h2 h3 h4 ad wd rd Y n K Ln Wh Re cd ct) 3 4 h3 h4 s.heap.size rfl rfl ((tc_sl (tc_rl (K j) (Ln j)) (fun i => Re (40 * j + i)) 0) i) gz) (cwV 1 hts gX2_mixedColumn_X1_of rfl rfl rfl (by decide +kernel) ⟨Nat.le_of_ble_eq_true rfl, Nat.le_of_ble_eq_true rfl⟩) ⟨tcP.blind, (va_recv hK hP (ci := 1) (q0 := 3) rfl rfl), (tcP.go hK hP hD hE hS)⟩ rfl rfl hl.1 rfl (lv_room (Nat.le_of_ble_eq_true rfl)) dX2_mixedColumn_98 ⟨Nat.le_of_ble_eq_true rfl, Nat.le_of_ble_eq_true rfl⟩)) (fun r_12 hr_12 => ?_)
      subst hr_12
      refine vp_callSl (W.runS (As := [.long (mxW (mxW (mx (mx dd (K j).toInt64) (tc_cl (K j) (Ln j)).toInt64) (tc_sl (tc_wl (K j) (Ln j)) (fun i => Wh (40 * j + i)) 0) (tc_wl (K j) (Ln j))) (fun q => ((tc_sl (tc_rl (K j) (Ln j)) (fun i => Re (40 * j + i)) 0) q).toInt64) i), .long (((tc_sl (tc_rl (K j) (Ln j)) (fun i => Re (40 * j + i)) 0) i).toInt64)]) (rest := []) ⟨hx, hb, hml, hown, hts⟩ (kX2_mixed l (mxW (mxW (mx (mx dd (K j).toInt64) (tc_cl (K j) (Ln j)).toInt64) (tc_sl (tc_wl (K j) (Ln j)) (fun i => Wh (40 * j + i)) 0) (tc_wl (K j) (Ln j))) (fun q => ((tc_sl (tc_rl (K j) (Ln j)) (fun i => Re (40 * j + i)) 0) q).toInt64) i) (((tc_sl (tc_rl (K j) (Ln j)) (fun i => Re (40 * j + i)) 0) i).toInt64)) (va_cwS 2 hts gX2_mixedColumn_X2_mixed rfl rfl rfl (by decide +kernel) ⟨Nat.le_of_ble_eq_true rfl, Nat.le_of_ble_eq_true rfl⟩) ⟨fun a U g mk q => q, fun U hU hW => ⟨rfl, trivial⟩⟩ rfl rfl hl.1 rfl (lv_room (Nat.le_of_ble_eq_true rfl)) dX2_mixedColumn_101 ⟨Nat.zero_le _, Nat.zero_le _⟩) (fun r_13 hr_13 => ?_)
      subst hr_13
      refine lv_topl (fun x_14 ex_14 => ?_)
      refine lv_lstore (lv' := [(4, .long x_14), (9, .double ((tc_sl (tc_rl (K j) (Ln j)) (fun i => Re (40 * j + i)) 0) i)), (8, .int (nI i)), (7, .int (nI (tc_rl (K j) (Ln j)))), (6, .ref (rd j)), (3, .ref (ad j)), (0, .ref h0)]) hx hb dX2_mixedColumn_104 hl (by decide) rfl (fun ls hl => ?_)
      obtain ⟨x_15, ex_15⟩ : ∃ y : Int32, y = (nI i) + (1) := ⟨_, rfl⟩
      refine lv_iinc (v := x_15) (lv' := [(8, .int x_15), (4, .long x_14), (9, .double ((tc_sl (tc_rl (K j) (Ln j)) (fun i => Re (40 * j + i)) 0) i)), (7, .int (nI (tc_rl (K j) (Ln j)))), (6, .ref (rd j)), (3, .ref (ad j)), (0, .ref h0)]) hx hb dX2_mixedColumn_106 hl (k := 2) rfl (by rw [ex_15]; rfl) (by decide) rfl (fun ls hl => ?_)
      refine lv_goto (tgt := 76) hx hb dX2_mixedColumn_109 (by decide) ?_
      subst ex_14
      subst ex_15
      exact ih _ _ _ ⟨i + 1, by omega, ⟨rfl, rfl⟩, by rw [nI_succ]; exact lv_sub hl [0, 1, 3, 4, 5, 6] rfl⟩
    · obtain ⟨i, hik, ⟨rfl, rfl⟩, hl⟩ := hi9
      have hiN : i = (tc_rl (K j) (Ln j)) := by omega
      rw [hiN] at hl
      refine lv_iload hx hb dX2_mixedColumn_76 (lv_at hl 0 rfl) ?_
      refine lv_iload hx hb dX2_mixedColumn_78 (lv_at hl 2 rfl) ?_
      refine lv_icmp_ge (tgt := 112) hx hb dX2_mixedColumn_80 (by decide) (fun _ => ?_) (fun q => absurd (nI_le (Nat.le_refl _) (tc_len_lt (hI.2.1 j hj).2.1).2) q)
      refine lv_lload hx hb dX2_mixedColumn_112 (lv_at hl 1 rfl) ?_
      exact W.lret (v := (mxW (mxW (mx (mx dd (K j).toInt64) (tc_cl (K j) (Ln j)).toInt64) (tc_sl (tc_wl (K j) (Ln j)) (fun i => Wh (40 * j + i)) 0) (tc_wl (K j) (Ln j))) (fun q => ((tc_sl (tc_rl (K j) (Ln j)) (fun i => Re (40 * j + i)) 0) q).toInt64) (tc_rl (K j) (Ln j)))) hx hb hr (fun t9 ht9 hW9 => ⟨(mxW (mxW (mx (mx dd (K j).toInt64) (tc_cl (K j) (Ln j)).toInt64) (tc_sl (tc_wl (K j) (Ln j)) (fun i => Wh (40 * j + i)) 0) (tc_wl (K j) (Ln j))) (fun q => ((tc_sl (tc_rl (K j) (Ln j)) (fun i => Re (40 * j + i)) 0) q).toInt64) (tc_rl (K j) (Ln j))), rfl, mxC_r, ht9⟩) (fun q hq => absurd hq List.not_mem_nil) dX2_mixedColumn_114
set_option maxHeartbeats 4000000 in
set_option maxRecDepth 100000 in
theorem tX2_digest (l : Launch) (D : va_G) (A : Nat → Prop) (cI cJ cD cC : ClassId) (h0 h1 h2 h3 h4 : Nat) (ad wd rd : Nat → Nat) (Y : va_W) (n : Nat) (K : Nat → Int32) (Ln : Nat → Nat) (Wh : Nat → Int64) (Re : Nat → UInt64) (cd : Int32) (ct : Nat → Int32) (sz : Nat) (hI : tcI n K Ln Wh Re)  : Met l yX2_digest wsX2_digest ({ frames := 4, cells := 0, slots := 0, locals := 103 }) (tcP D A (tcTY cI cJ cD cC) sz [.ref h0] (tc_T cI cJ cD cC h0 h1 h2 h3 h4 ad wd rd Y n K Ln Wh Re cd ct)) (vp_Sl (fun r => r = dig n K Ln Wh Re ct)) 0 0 (fun _ => False) := by
  refine Met.ofW (cc := cX2_digest) (maxL := 7) (ret := (some .long)) (by decide) rfl ?_
  intro p e s m args below meth c s₁ B hml hv
  obtain ⟨rfl, hsz, hP, hK, hD, hE⟩ := hv
  have hx := B.exec
  have hb := B.bytes
  have hr := B.returns
  have hts := atoms_spec (ws := wsX2_digest) B.pre
  have hown : s.vm.findClass RX2 = some m.cls := findClass_of_methodNamed B.named
  have hlocks := B.notSynchronized
  have hl := lv_entry ([.ref h0]) (n := 7) (Nat.le_of_ble_eq_true rfl)
  rw [lg_entry_eq]
  generalize (lg_sl ([.ref h0]) ++ List.replicate (7 - (lg_sl ([.ref h0])).length) Slot.unset).toArray = ls at hl ⊢
  have hl : lv_has ls 7 [(0, .ref h0)] := hl
  subst hsz
  have hS : va_S A s.heap s.heap [] := va_S.rf
  refine lv_ldc2 (v := 53) hx hb hown (hts (.constantLong RX2 147 (53)) (by decide +kernel)) dX2_digest_0 ?_
  refine lv_aload_n hx hb dX2_digest_3 rfl (lv_at hl 0 rfl) ?_
  refine va_get (D := D) (ci := 2) (fs := [.ref h1, .ref h2, .ref h3, .int (nI n), .int cd]) (v := .int (nI n)) (C := RX2) (T := TX2) (N := 5) hx hb hts (by decide +kernel) hown hK hP 0 rfl rfl 3 (by decide) (hts (.fieldLink RX2 26 "TypedColumns" "created" "I") (by decide +kernel)) (fun _ h9 => h9) rfl dX2_digest_4 ?_
  refine lv_i2l (v := (nI n).toInt64) hx hb dX2_digest_7 rfl ?_
  refine vp_callSl (W.runS (As := [.long 53, .long ((nI n).toInt64)]) (rest := []) ⟨hx, hb, hml, hown, hts⟩ (kX2_mixed l 53 ((nI n).toInt64)) (va_cwS 2 hts gX2_digest_X2_mixed rfl rfl rfl (by decide +kernel) ⟨Nat.le_of_ble_eq_true rfl, Nat.le_of_ble_eq_true rfl⟩) ⟨fun a U g mk q => q, fun U hU hW => ⟨rfl, trivial⟩⟩ rfl rfl hl.1 rfl (lv_room (Nat.le_of_ble_eq_true rfl)) dX2_digest_8 ⟨Nat.zero_le _, Nat.zero_le _⟩) (fun r_1 hr_1 => ?_)
  subst hr_1
  refine lv_topl (fun x_2 ex_2 => ?_)
  refine lv_lstore_n (lv' := [(1, .long x_2), (0, .ref h0)]) hx hb dX2_digest_11 rfl hl (by decide) rfl (fun ls hl => ?_)
  refine lv_iconst (v := 0) hx hb dX2_digest_12 (by decide) ?_
  refine lv_istore_n (lv' := [(3, .int 0), (1, .long x_2), (0, .ref h0)]) hx hb dX2_digest_13 rfl hl (by decide) rfl (fun ls hl => ?_)
  subst ex_2
  have hl0 : lv_has ls 7 [(3, .int (nI 0)), (1, .long (digC K Ln Wh Re (mx 53 (nI n).toInt64) 0)), (0, .ref h0)] := lv_sub hl [0, 1, 2] rfl
  refine tc_loop (fun k9 H locs ls => ∃ i : Nat, i + k9 = n ∧ (H = s.heap ∧ locs = []) ∧ lv_has ls 7 [(3, .int (nI i)), (1, .long (digC K Ln Wh Re (mx 53 (nI n).toInt64) i)), (0, .ref h0)]) (fun k9 H locs ls hi9 ih => ?_) (fun H locs ls hi9 => ?_) n ⟨0, by omega, ⟨rfl, rfl⟩, hl0⟩
  · obtain ⟨i, hik, ⟨rfl, rfl⟩, hl⟩ := hi9
    have hiN : i < n := by omega
    refine lv_iload_n hx hb dX2_digest_14 rfl (lv_at hl 0 rfl) ?_
    refine lv_aload_n hx hb dX2_digest_15 rfl (lv_at hl 2 rfl) ?_
    refine va_get (D := D) (ci := 2) (fs := [.ref h1, .ref h2, .ref h3, .int (nI n), .int cd]) (v := .int (nI n)) (C := RX2) (T := TX2) (N := 5) hx hb hts (by decide +kernel) hown hK hP 0 rfl rfl 3 (by decide) (hts (.fieldLink RX2 26 "TypedColumns" "created" "I") (by decide +kernel)) (fun _ h9 => h9) rfl dX2_digest_16 ?_
    refine lv_icmp_ge (tgt := 39) hx hb dX2_digest_19 (by decide) (fun q => absurd q (nI_ge hiN (Nat.lt_of_le_of_lt hI.1 (by decide)))) (fun _ => ?_)
    refine lv_aload_n hx hb dX2_digest_22 rfl (lv_at hl 2 rfl) ?_
    refine lv_lload_n hx hb dX2_digest_23 rfl (lv_at hl 1 rfl) ?_
    refine lv_aload_n hx hb dX2_digest_24 rfl (lv_at hl 2 rfl) ?_
    refine lv_iload_n hx hb dX2_digest_25 rfl (lv_at hl 0 rfl) ?_
    refine va_csr (tc_CR (va_runV (As := [.int (nI i)]) (rest := [.long (digC K Ln Wh Re (mx 53 (nI n).toInt64) i), .ref h0]) ⟨hx, hb, hml, hown, hts⟩ (tX2_columnAt l D A cI cJ cD cC h0 h1 h2 h3 h4 ad wd rd Y n K Ln Wh Re cd ct s.heap.size hI.1 i hiN) (cwV 1 hts gX2_digest_X2_columnAt rfl rfl rfl (by decide +kernel) ⟨Nat.le_of_ble_eq_true rfl, Nat.le_of_ble_eq_true rfl⟩) ⟨tcP.blind, va_recv hK hP (ci := 2) (q0 := 0) rfl rfl, tcP.go hK hP hD hE hS⟩ rfl rfl hl.1 rfl (lv_room (Nat.le_of_ble_eq_true rfl)) dX2_digest_26 ⟨Nat.le_of_ble_eq_true rfl, Nat.le_of_ble_eq_true rfl⟩)) (fun _ _ => ?_)
    refine vp_callSl (tc_CR (va_runV (As := [.long (digC K Ln Wh Re (mx 53 (nI n).toInt64) i), .ref (ad i)]) (rest := []) ⟨hx, hb, hml, hown, hts⟩ (tX2_mixedColumn l D A cI cJ cD cC h0 h1 h2 h3 h4 ad wd rd Y n K Ln Wh Re cd ct s.heap.size hI i hiN (digC K Ln Wh Re (mx 53 (nI n).toInt64) i)) (cwV 2 hts gX2_digest_X2_mixedColumn rfl rfl rfl (by decide +kernel) ⟨Nat.le_of_ble_eq_true rfl, Nat.le_of_ble_eq_true rfl⟩) ⟨tcP.blind, (va_recv hK hP (ci := 2) (q0 := 0) rfl rfl), (tcP.go hK hP hD hE hS)⟩ rfl rfl hl.1 rfl (lv_room (Nat.le_of_ble_eq_true rfl)) dX2_digest_29 ⟨Nat.le_of_ble_eq_true rfl, Nat.le_of_ble_eq_true rfl⟩)) (fun r_4 hr_4 => ?_)
    subst hr_4
    refine lv_lstore_n (lv' := [(1, .long (mxC K Ln Wh Re i (digC K Ln Wh Re (mx 53 (nI n).toInt64) i))), (3, .int (nI i)), (0, .ref h0)]) hx hb dX2_digest_32 rfl hl (by decide) rfl (fun ls hl => ?_)
    obtain ⟨x_5, ex_5⟩ : ∃ y : Int32, y = (nI i) + (1) := ⟨_, rfl⟩
    refine lv_iinc (v := x_5) (lv' := [(3, .int x_5), (1, .long (mxC K Ln Wh Re i (digC K Ln Wh Re (mx 53 (nI n).toInt64) i))), (0, .ref h0)]) hx hb dX2_digest_33 hl (k := 1) rfl (by rw [ex_5]; rfl) (by decide) rfl (fun ls hl => ?_)
    refine lv_goto (tgt := 14) hx hb dX2_digest_36 (by decide) ?_
    subst ex_5
    exact ih _ _ _ ⟨i + 1, by omega, ⟨rfl, rfl⟩, by rw [nI_succ]; exact lv_sub hl [0, 1, 2] rfl⟩
  · obtain ⟨i, hik, ⟨rfl, rfl⟩, hl⟩ := hi9
    have hiN : i = n := by omega
    rw [hiN] at hl
    refine lv_iload_n hx hb dX2_digest_14 rfl (lv_at hl 0 rfl) ?_
    refine lv_aload_n hx hb dX2_digest_15 rfl (lv_at hl 2 rfl) ?_
    refine va_get (D := D) (ci := 2) (fs := [.ref h1, .ref h2, .ref h3, .int (nI n), .int cd]) (v := .int (nI n)) (C := RX2) (T := TX2) (N := 5) hx hb hts (by decide +kernel) hown hK hP 0 rfl rfl 3 (by decide) (hts (.fieldLink RX2 26 "TypedColumns" "created" "I") (by decide +kernel)) (fun _ h9 => h9) rfl dX2_digest_16 ?_
    refine lv_icmp_ge (tgt := 39) hx hb dX2_digest_19 (by decide) (fun _ => ?_) (fun q => absurd (nI_le (Nat.le_refl _) (Nat.lt_of_le_of_lt hI.1 (by decide))) q)
    refine lv_aload_n hx hb dX2_digest_39 rfl (lv_at hl 2 rfl) ?_
    refine va_get (D := D) (ci := 2) (fs := [.ref h1, .ref h2, .ref h3, .int (nI n), .int cd]) (v := .ref h2) (C := RX2) (T := TX2) (N := 5) hx hb hts (by decide +kernel) hown hK hP 0 rfl rfl 1 (by decide) (hts (.fieldLink RX2 15 "TypedColumns" "counts" "[I") (by decide +kernel)) (fun _ h9 => h9) rfl dX2_digest_40 ?_
    refine lv_astore_n (lv' := [(3, .ref h2), (1, .long (digC K Ln Wh Re (mx 53 (nI n).toInt64) n)), (0, .ref h0)]) hx hb dX2_digest_43 rfl hl (by decide) rfl (fun ls hl => ?_)
    refine lv_aload_n hx hb dX2_digest_44 rfl (lv_at hl 0 rfl) ?_
    refine va_alen (v := 6) hx hb hK hP 2 0 rfl rfl rfl dX2_digest_45 ?_
    refine lv_istore (lv' := [(4, .int 6), (3, .ref h2), (1, .long (digC K Ln Wh Re (mx 53 (nI n).toInt64) n)), (0, .ref h0)]) hx hb dX2_digest_46 hl (by decide) rfl (fun ls hl => ?_)
    refine lv_iconst (v := 0) hx hb dX2_digest_48 (by decide) ?_
    refine lv_istore (lv' := [(5, .int 0), (4, .int 6), (3, .ref h2), (1, .long (digC K Ln Wh Re (mx 53 (nI n).toInt64) n)), (0, .ref h0)]) hx hb dX2_digest_49 hl (by decide) rfl (fun ls hl => ?_)
    have hl0 : lv_has ls 7 [(5, .int (nI 0)), (1, .long (mxW (digC K Ln Wh Re (mx 53 (nI n).toInt64) n) (fun q => (ct q).toInt64) 0)), (4, .int 6), (3, .ref h2), (0, .ref h0)] := lv_sub hl [0, 3, 1, 2, 4] rfl
    refine tc_loop (fun k9 H locs ls => ∃ i : Nat, i + k9 = 6 ∧ (H = s.heap ∧ locs = []) ∧ lv_has ls 7 [(5, .int (nI i)), (1, .long (mxW (digC K Ln Wh Re (mx 53 (nI n).toInt64) n) (fun q => (ct q).toInt64) i)), (4, .int 6), (3, .ref h2), (0, .ref h0)]) (fun k9 H locs ls hi9 ih => ?_) (fun H locs ls hi9 => ?_) 6 ⟨0, by omega, ⟨rfl, rfl⟩, hl0⟩
    · obtain ⟨i, hik, ⟨rfl, rfl⟩, hl⟩ := hi9
      have hiN : i < 6 := by omega
      refine lv_iload hx hb dX2_digest_51 (lv_at hl 0 rfl) ?_
      refine lv_iload hx hb dX2_digest_53 (lv_at hl 2 rfl) ?_
      refine lv_icmp_ge (tgt := 78) hx hb dX2_digest_55 (by decide) (fun q => absurd q (nI_ge hiN (by decide))) (fun _ => ?_)
      refine lv_aload_n hx hb dX2_digest_58 rfl (lv_at hl 3 rfl) ?_
      refine lv_iload hx hb dX2_digest_59 (lv_at hl 0 rfl) ?_
      refine tc_iald (f := ct) (v := (ct i)) hx hb hK hP 2 0 rfl rfl (vp_in_nI hiN (by decide)) (by rw [nI_clamp (n := i) (by omega)]) dX2_digest_61 ?_
      refine lv_istore (lv' := [(6, .int (ct i)), (5, .int (nI i)), (1, .long (mxW (digC K Ln Wh Re (mx 53 (nI n).toInt64) n) (fun q => (ct q).toInt64) i)), (4, .int 6), (3, .ref h2), (0, .ref h0)]) hx hb dX2_digest_62 hl (by decide) rfl (fun ls hl => ?_)
      refine lv_lload_n hx hb dX2_digest_64 rfl (lv_at hl 2 rfl) ?_
      refine lv_iload hx hb dX2_digest_65 (lv_at hl 0 rfl) ?_
      refine lv_i2l (v := (ct i).toInt64) hx hb dX2_digest_67 rfl ?_
      refine vp_callSl (W.runS (As := [.long (mxW (digC K Ln Wh Re (mx 53 (nI n).toInt64) n) (fun q => (ct q).toInt64) i), .long ((ct i).toInt64)]) (rest := []) ⟨hx, hb, hml, hown, hts⟩ (kX2_mixed l (mxW (digC K Ln Wh Re (mx 53 (nI n).toInt64) n) (fun q => (ct q).toInt64) i) ((ct i).toInt64)) (va_cwS 2 hts gX2_digest_X2_mixed rfl rfl rfl (by decide +kernel) ⟨Nat.le_of_ble_eq_true rfl, Nat.le_of_ble_eq_true rfl⟩) ⟨fun a U g mk q => q, fun U hU hW => ⟨rfl, trivial⟩⟩ rfl rfl hl.1 rfl (lv_room (Nat.le_of_ble_eq_true rfl)) dX2_digest_68 ⟨Nat.zero_le _, Nat.zero_le _⟩) (fun r_8 hr_8 => ?_)
      subst hr_8
      refine lv_topl (fun x_9 ex_9 => ?_)
      refine lv_lstore_n (lv' := [(1, .long x_9), (6, .int (ct i)), (5, .int (nI i)), (4, .int 6), (3, .ref h2), (0, .ref h0)]) hx hb dX2_digest_71 rfl hl (by decide) rfl (fun ls hl => ?_)
      obtain ⟨x_10, ex_10⟩ : ∃ y : Int32, y = (nI i) + (1) := ⟨_, rfl⟩
      refine lv_iinc (v := x_10) (lv' := [(5, .int x_10), (1, .long x_9), (6, .int (ct i)), (4, .int 6), (3, .ref h2), (0, .ref h0)]) hx hb dX2_digest_72 hl (k := 2) rfl (by rw [ex_10]; rfl) (by decide) rfl (fun ls hl => ?_)
      refine lv_goto (tgt := 51) hx hb dX2_digest_75 (by decide) ?_
      subst ex_9
      subst ex_10
      exact ih _ _ _ ⟨i + 1, by omega, ⟨rfl, rfl⟩, by rw [nI_succ]; exact lv_sub hl [0, 1, 3, 4, 5] rfl⟩
    · obtain ⟨i, hik, ⟨rfl, rfl⟩, hl⟩ := hi9
      have hiN : i = 6 := by omega
      rw [hiN] at hl
      refine lv_iload hx hb dX2_digest_51 (lv_at hl 0 rfl) ?_
      refine lv_iload hx hb dX2_digest_53 (lv_at hl 2 rfl) ?_
      refine lv_icmp_ge (tgt := 78) hx hb dX2_digest_55 (by decide) (fun _ => ?_) (fun q => absurd (nI_le (Nat.le_refl _) (by decide)) q)
      refine lv_lload_n hx hb dX2_digest_78 rfl (lv_at hl 1 rfl) ?_
      exact W.lret (v := (mxW (digC K Ln Wh Re (mx 53 (nI n).toInt64) n) (fun q => (ct q).toInt64) 6)) hx hb hr (fun t9 ht9 hW9 => ⟨(mxW (digC K Ln Wh Re (mx 53 (nI n).toInt64) n) (fun q => (ct q).toInt64) 6), rfl, rfl, ht9⟩) (fun q hq => absurd hq List.not_mem_nil) dX2_digest_79
