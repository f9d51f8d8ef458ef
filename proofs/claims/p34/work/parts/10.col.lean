/-! A COLUMN: its methods, over any world in which its three cells have their places -/
theorem kFl_no {k : Int32} (h : kFl k = false) : ¬ k = 7 ∧ ¬ k = 8 := by
  simp only [kFl, Bool.or_eq_false_iff, decide_eq_false_iff_not] at h
  exact h
set_option maxHeartbeats 4000000 in
set_option maxRecDepth 100000 in
theorem oX0_wholeAt (l : Launch) (D : va_G) (A : Nat → Prop) (cI cJ cD cC : ClassId) (ws : va_W) (p0 p1 p2 : Nat) (a w r : Nat) (k len : Int32) (nw nr : Nat) (f : Nat → Int64) (g : Nat → UInt64) (sz : Nat) (e0 : ws[p0]? = some (a, .inr (0, [.int k, .int len, .ref w, .ref r]))) (e1 : ws[p1]? = some (w, .inl (cJ, nw, .inr (.inl f)))) (e2 : ws[p2]? = some (r, .inl (cD, nr, .inr (.inr (.inr (.inl g)))))) (hn : nw < 2 ^ 31 ∧ nr < 2 ^ 31) (i : Int32) (hi : vp_in i nw) : Met l yX0_wholeAt wsX0_wholeAt ({ frames := 0, cells := 0, slots := 0, locals := 0 }) (tcP D A (tcTY cI cJ cD cC) sz [.ref a, .int i] ws) (vp_Sl (fun r => r = f i.toNatClampNeg)) 0 0 (fun _ => False) := by
  refine Met.ofW (cc := cX0_wholeAt) (maxL := 2) (ret := (some .long)) (by decide) rfl ?_
  intro p e s m args below meth c s₁ B hml hv
  obtain ⟨rfl, hsz, hP, hK, hD, hE⟩ := hv
  have hx := B.exec
  have hb := B.bytes
  have hr := B.returns
  have hts := atoms_spec (ws := wsX0_wholeAt) B.pre
  have hown : s.vm.findClass RX0 = some m.cls := findClass_of_methodNamed B.named
  have hlocks := B.notSynchronized
  have hl := lv_entry ([.ref a, .int i]) (n := 2) (Nat.le_of_ble_eq_true rfl)
  rw [lg_entry_eq]
  generalize (lg_sl ([.ref a, .int i]) ++ List.replicate (2 - (lg_sl ([.ref a, .int i])).length) Slot.unset).toArray = ls at hl ⊢
  have hl : lv_has ls 2 [(0, .ref a), (1, .int i)] := hl
  subst hsz
  have hS : va_S A s.heap s.heap [] := va_S.rf
  refine lv_iload_n hx hb dX0_wholeAt_0 rfl (lv_at hl 1 rfl) ?_
  refine lv_if_lt (tgt := 22) hx hb dX0_wholeAt_1 (by decide) (fun q => absurd q (vp_in_lo hi)) (fun _ => ?_)
  refine lv_iload_n hx hb dX0_wholeAt_4 rfl (lv_at hl 1 rfl) ?_
  refine lv_aload_n hx hb dX0_wholeAt_5 rfl (lv_at hl 0 rfl) ?_
  refine va_get (D := D) (ci := 0) (fs := [.int k, .int len, .ref w, .ref r]) (v := .ref w) (C := RX0) (T := TX0) (N := 4) hx hb hts (by decide +kernel) hown hK hP p0 e0 rfl 2 (by decide) (hts (.fieldLink RX0 28 "TypedColumns$Column" "wholes" "[J") (by decide +kernel)) (fun _ h9 => h9) rfl dX0_wholeAt_6 ?_
  refine va_alen (v := (nI nw)) hx hb hK hP p1 1 e1 rfl rfl dX0_wholeAt_9 ?_
  refine lv_icmp_ge (tgt := 22) hx hb dX0_wholeAt_10 (by decide) (fun q => absurd q (vp_in_hi hi hn.1)) (fun _ => ?_)
  refine lv_aload_n hx hb dX0_wholeAt_13 rfl (lv_at hl 0 rfl) ?_
  refine va_get (D := D) (ci := 0) (fs := [.int k, .int len, .ref w, .ref r]) (v := .ref w) (C := RX0) (T := TX0) (N := 4) hx hb hts (by decide +kernel) hown hK hP p0 e0 rfl 2 (by decide) (hts (.fieldLink RX0 28 "TypedColumns$Column" "wholes" "[J") (by decide +kernel)) (fun _ h9 => h9) rfl dX0_wholeAt_14 ?_
  refine lv_iload_n hx hb dX0_wholeAt_17 rfl (lv_at hl 1 rfl) ?_
  refine tc_lald (f := f) (v := (f i.toNatClampNeg)) hx hb hK hP p1 1 e1 rfl (hi) rfl dX0_wholeAt_18 ?_
  refine lv_goto (tgt := 23) hx hb dX0_wholeAt_19 (by decide) ?_
  exact W.lret (v := (f i.toNatClampNeg)) hx hb hr (fun t9 ht9 hW9 => ⟨(f i.toNatClampNeg), rfl, rfl, ht9⟩) (fun q hq => absurd hq List.not_mem_nil) dX0_wholeAt_23
set_option maxHeartbeats 4000000 in
set_option maxRecDepth 100000 in
theorem oX0_realAt (l : Launch) (D : va_G) (A : Nat → Prop) (cI cJ cD cC : ClassId) (ws : va_W) (p0 p1 p2 : Nat) (a w r : Nat) (k len : Int32) (nw nr : Nat) (f : Nat → Int64) (g : Nat → UInt64) (sz : Nat) (e0 : ws[p0]? = some (a, .inr (0, [.int k, .int len, .ref w, .ref r]))) (e1 : ws[p1]? = some (w, .inl (cJ, nw, .inr (.inl f)))) (e2 : ws[p2]? = some (r, .inl (cD, nr, .inr (.inr (.inr (.inl g)))))) (hn : nw < 2 ^ 31 ∧ nr < 2 ^ 31) (i : Int32) (hi : vp_in i nr) : Met l yX0_realAt wsX0_realAt ({ frames := 0, cells := 0, slots := 0, locals := 0 }) (tcP D A (tcTY cI cJ cD cC) sz [.ref a, .int i] ws) (vp_Sd (fun r => r = g i.toNatClampNeg)) 0 0 (fun _ => False) := by
  refine Met.ofW (cc := cX0_realAt) (maxL := 2) (ret := (some .double)) (by decide) rfl ?_
  intro p e s m args below meth c s₁ B hml hv
  obtain ⟨rfl, hsz, hP, hK, hD, hE⟩ := hv
  have hx := B.exec
  have hb := B.bytes
  have hr := B.returns
  have hts := atoms_spec (ws := wsX0_realAt) B.pre
  have hown : s.vm.findClass RX0 = some m.cls := findClass_of_methodNamed B.named
  have hlocks := B.notSynchronized
  have hl := lv_entry ([.ref a, .int i]) (n := 2) (Nat.le_of_ble_eq_true rfl)
  rw [lg_entry_eq]
  generalize (lg_sl ([.ref a, .int i]) ++ List.replicate (2 - (lg_sl ([.ref a, .int i])).length) Slot.unset).toArray = ls at hl ⊢
  have hl : lv_has ls 2 [(0, .ref a), (1, .int i)] := hl
  subst hsz
  have hS : va_S A s.heap s.heap [] := va_S.rf
  refine lv_iload_n hx hb dX0_realAt_0 rfl (lv_at hl 1 rfl) ?_
  refine lv_if_lt (tgt := 22) hx hb dX0_realAt_1 (by decide) (fun q => absurd q (vp_in_lo hi)) (fun _ => ?_)
  refine lv_iload_n hx hb dX0_realAt_4 rfl (lv_at hl 1 rfl) ?_
  refine lv_aload_n hx hb dX0_realAt_5 rfl (lv_at hl 0 rfl) ?_
  refine va_get (D := D) (ci := 0) (fs := [.int k, .int len, .ref w, .ref r]) (v := .ref r) (C := RX0) (T := TX0) (N := 4) hx hb hts (by decide +kernel) hown hK hP p0 e0 rfl 3 (by decide) (hts (.fieldLink RX0 32 "TypedColumns$Column" "reals" "[D") (by decide +kernel)) (fun _ h9 => h9) rfl dX0_realAt_6 ?_
  refine va_alen (v := (nI nr)) hx hb hK hP p2 2 e2 rfl rfl dX0_realAt_9 ?_
  refine lv_icmp_ge (tgt := 22) hx hb dX0_realAt_10 (by decide) (fun q => absurd q (vp_in_hi hi hn.2)) (fun _ => ?_)
  refine lv_aload_n hx hb dX0_realAt_13 rfl (lv_at hl 0 rfl) ?_
  refine va_get (D := D) (ci := 0) (fs := [.int k, .int len, .ref w, .ref r]) (v := .ref r) (C := RX0) (T := TX0) (N := 4) hx hb hts (by decide +kernel) hown hK hP p0 e0 rfl 3 (by decide) (hts (.fieldLink RX0 32 "TypedColumns$Column" "reals" "[D") (by decide +kernel)) (fun _ h9 => h9) rfl dX0_realAt_14 ?_
  refine lv_iload_n hx hb dX0_realAt_17 rfl (lv_at hl 1 rfl) ?_
  refine tc_dald (f := g) (v := (g i.toNatClampNeg)) hx hb hK hP p2 2 e2 rfl (hi) rfl dX0_realAt_18 ?_
  refine lv_goto (tgt := 23) hx hb dX0_realAt_19 (by decide) ?_
  exact W.dret (v := (g i.toNatClampNeg)) hx hb hr (fun t9 ht9 hW9 => ⟨(g i.toNatClampNeg), rfl, rfl, ht9⟩) (fun q hq => absurd hq List.not_mem_nil) dX0_realAt_23
set_option maxHeartbeats 4000000 in
set_option maxRecDepth 100000 in
theorem oX0_doubleAt_r (l : Launch) (D : va_G) (A : Nat → Prop) (cI cJ cD cC : ClassId) (ws : va_W) (p0 p1 p2 : Nat) (a w r : Nat) (k len : Int32) (nw nr : Nat) (f : Nat → Int64) (g : Nat → UInt64) (sz : Nat) (e0 : ws[p0]? = some (a, .inr (0, [.int k, .int len, .ref w, .ref r]))) (e1 : ws[p1]? = some (w, .inl (cJ, nw, .inr (.inl f)))) (e2 : ws[p2]? = some (r, .inl (cD, nr, .inr (.inr (.inr (.inl g)))))) (hn : nw < 2 ^ 31 ∧ nr < 2 ^ 31) (i : Int32) (hi : vp_in i nr) (hk : kFl k = true) : Met l yX0_doubleAt wsX0_doubleAt ({ frames := 1, cells := 0, slots := 0, locals := 21 }) (tcP D A (tcTY cI cJ cD cC) sz [.ref a, .int i] ws) (vp_Sd (fun r => r = g i.toNatClampNeg)) 0 0 (fun _ => False) := by
  refine Met.ofW (cc := cX0_doubleAt) (maxL := 2) (ret := (some .double)) (by decide) rfl ?_
  intro p e s m args below meth c s₁ B hml hv
  obtain ⟨rfl, hsz, hP, hK, hD, hE⟩ := hv
  have hx := B.exec
  have hb := B.bytes
  have hr := B.returns
  have hts := atoms_spec (ws := wsX0_doubleAt) B.pre
  have hown : s.vm.findClass RX0 = some m.cls := findClass_of_methodNamed B.named
  have hlocks := B.notSynchronized
  have hl := lv_entry ([.ref a, .int i]) (n := 2) (Nat.le_of_ble_eq_true rfl)
  rw [lg_entry_eq]
  generalize (lg_sl ([.ref a, .int i]) ++ List.replicate (2 - (lg_sl ([.ref a, .int i])).length) Slot.unset).toArray = ls at hl ⊢
  have hl : lv_has ls 2 [(0, .ref a), (1, .int i)] := hl
  subst hsz
  have hS : va_S A s.heap s.heap [] := va_S.rf
  refine lv_aload_n hx hb dX0_doubleAt_0 rfl (lv_at hl 0 rfl) ?_
  refine va_get (D := D) (ci := 0) (fs := [.int k, .int len, .ref w, .ref r]) (v := .int k) (C := RX0) (T := TX0) (N := 4) hx hb hts (by decide +kernel) hown hK hP p0 e0 rfl 0 (by decide) (hts (.fieldLink RX0 16 "TypedColumns$Column" "kind" "I") (by decide +kernel)) (fun _ h9 => h9) rfl dX0_doubleAt_1 ?_
  refine vp_callSi (tc_CR (va_runSN (As := [.int k]) (rest := []) ⟨hx, hb, hml, hown, hts⟩ (kX2_isFloating l k) ⟨va_cnB 1 hts gX0_doubleAt_X2_isFloating_n25 rfl rfl rfl (hE.2.2.2.2.2.1) (hts (.initialized RX2) (by decide +kernel)) (by decide +kernel) ⟨Nat.le_of_ble_eq_true rfl, Nat.le_of_ble_eq_true rfl⟩, hts (.static yX2_isFloating) (by decide +kernel), trivial⟩ ⟨fun a U g mk q => q, fun U hU hW => ⟨rfl, trivial⟩⟩ rfl rfl hl.1 rfl (lv_room (Nat.le_of_ble_eq_true rfl)) dX0_doubleAt_4 ⟨Nat.zero_le _, Nat.zero_le _⟩)) (fun r_1 hr_1 => ?_)
  subst hr_1
  refine lv_if_eq (tgt := 18) hx hb dX0_doubleAt_7 (by decide) (fun q => absurd q ((tb_1 _).mpr hk)) (fun _ => ?_)
  refine lv_aload_n hx hb dX0_doubleAt_10 rfl (lv_at hl 0 rfl) ?_
  refine lv_iload_n hx hb dX0_doubleAt_11 rfl (lv_at hl 1 rfl) ?_
  refine vp_callSd (tc_CR (va_runV (As := [.int i]) (rest := []) ⟨hx, hb, hml, hown, hts⟩ (oX0_realAt l D A cI cJ cD cC ws p0 p1 p2 a w r k len nw nr f g s.heap.size e0 e1 e2 hn i hi) (cwV 1 hts gX0_doubleAt_X0_realAt rfl rfl rfl (by decide +kernel) ⟨Nat.le_of_ble_eq_true rfl, Nat.le_of_ble_eq_true rfl⟩) ⟨tcP.blind, (va_recv hK hP (ci := 0) (q0 := p0) rfl e0), (tcP.go hK hP hD hE hS)⟩ rfl rfl hl.1 rfl (lv_room (Nat.le_of_ble_eq_true rfl)) dX0_doubleAt_12 ⟨Nat.le_of_ble_eq_true rfl, Nat.le_of_ble_eq_true rfl⟩)) (fun r_3 hr_3 => ?_)
  subst hr_3
  refine lv_goto (tgt := 24) hx hb dX0_doubleAt_15 (by decide) ?_
  exact W.dret (v := (g i.toNatClampNeg)) hx hb hr (fun t9 ht9 hW9 => ⟨(g i.toNatClampNeg), rfl, rfl, ht9⟩) (fun q hq => absurd hq List.not_mem_nil) dX0_doubleAt_24
set_option maxHeartbeats 4000000 in
set_option maxRecDepth 100000 in
theorem oX0_doubleAt_w (l : Launch) (D : va_G) (A : Nat → Prop) (cI cJ cD cC : ClassId) (ws : va_W) (p0 p1 p2 : Nat) (a w r : Nat) (k len : Int32) (nw nr : Nat) (f : Nat → Int64) (g : Nat → UInt64) (sz : Nat) (e0 : ws[p0]? = some (a, .inr (0, [.int k, .int len, .ref w, .ref r]))) (e1 : ws[p1]? = some (w, .inl (cJ, nw, .inr (.inl f)))) (e2 : ws[p2]? = some (r, .inl (cD, nr, .inr (.inr (.inr (.inl g)))))) (hn : nw < 2 ^ 31 ∧ nr < 2 ^ 31) (i : Int32) (hi : vp_in i nw) (hk : kFl k = false) : Met l yX0_doubleAt wsX0_doubleAt ({ frames := 1, cells := 0, slots := 0, locals := 21 }) (tcP D A (tcTY cI cJ cD cC) sz [.ref a, .int i] ws) (vp_Sd (fun r => r = FP.l2d (f i.toNatClampNeg))) 0 0 (fun _ => False) := by
  refine Met.ofW (cc := cX0_doubleAt) (maxL := 2) (ret := (some .double)) (by decide) rfl ?_
  intro p e s m args below meth c s₁ B hml hv
  obtain ⟨rfl, hsz, hP, hK, hD, hE⟩ := hv
  have hx := B.exec
  have hb := B.bytes
  have hr := B.returns
  have hts := atoms_spec (ws := wsX0_doubleAt) B.pre
  have hown : s.vm.findClass RX0 = some m.cls := findClass_of_methodNamed B.named
  have hlocks := B.notSynchronized
  have hl := lv_entry ([.ref a, .int i]) (n := 2) (Nat.le_of_ble_eq_true rfl)
  rw [lg_entry_eq]
  generalize (lg_sl ([.ref a, .int i]) ++ List.replicate (2 - (lg_sl ([.ref a, .int i])).length) Slot.unset).toArray = ls at hl ⊢
  have hl : lv_has ls 2 [(0, .ref a), (1, .int i)] := hl
  subst hsz
  have hS : va_S A s.heap s.heap [] := va_S.rf
  refine lv_aload_n hx hb dX0_doubleAt_0 rfl (lv_at hl 0 rfl) ?_
  refine va_get (D := D) (ci := 0) (fs := [.int k, .int len, .ref w, .ref r]) (v := .int k) (C := RX0) (T := TX0) (N := 4) hx hb hts (by decide +kernel) hown hK hP p0 e0 rfl 0 (by decide) (hts (.fieldLink RX0 16 "TypedColumns$Column" "kind" "I") (by decide +kernel)) (fun _ h9 => h9) rfl dX0_doubleAt_1 ?_
  refine vp_callSi (tc_CR (va_runSN (As := [.int k]) (rest := []) ⟨hx, hb, hml, hown, hts⟩ (kX2_isFloating l k) ⟨va_cnB 1 hts gX0_doubleAt_X2_isFloating_n25 rfl rfl rfl (hE.2.2.2.2.2.1) (hts (.initialized RX2) (by decide +kernel)) (by decide +kernel) ⟨Nat.le_of_ble_eq_true rfl, Nat.le_of_ble_eq_true rfl⟩, hts (.static yX2_isFloating) (by decide +kernel), trivial⟩ ⟨fun a U g mk q => q, fun U hU hW => ⟨rfl, trivial⟩⟩ rfl rfl hl.1 rfl (lv_room (Nat.le_of_ble_eq_true rfl)) dX0_doubleAt_4 ⟨Nat.zero_le _, Nat.zero_le _⟩)) (fun r_1 hr_1 => ?_)
  subst hr_1
  refine lv_if_eq (tgt := 18) hx hb dX0_doubleAt_7 (by decide) (fun _ => ?_) (fun q => absurd ((tb_0 _).mpr hk) q)
  refine lv_aload_n hx hb dX0_doubleAt_18 rfl (lv_at hl 0 rfl) ?_
  refine lv_iload_n hx hb dX0_doubleAt_19 rfl (lv_at hl 1 rfl) ?_
  refine vp_callSl (tc_CR (va_runV (As := [.int i]) (rest := []) ⟨hx, hb, hml, hown, hts⟩ (oX0_wholeAt l D A cI cJ cD cC ws p0 p1 p2 a w r k len nw nr f g s.heap.size e0 e1 e2 hn i hi) (cwV 1 hts gX0_doubleAt_X0_wholeAt rfl rfl rfl (by decide +kernel) ⟨Nat.le_of_ble_eq_true rfl, Nat.le_of_ble_eq_true rfl⟩) ⟨tcP.blind, (va_recv hK hP (ci := 0) (q0 := p0) rfl e0), (tcP.go hK hP hD hE hS)⟩ rfl rfl hl.1 rfl (lv_room (Nat.le_of_ble_eq_true rfl)) dX0_doubleAt_20 ⟨Nat.le_of_ble_eq_true rfl, Nat.le_of_ble_eq_true rfl⟩)) (fun r_3 hr_3 => ?_)
  subst hr_3
  refine lv_l2d hx hb dX0_doubleAt_23 ?_
  exact W.dret (v := (FP.l2d (f i.toNatClampNeg))) hx hb hr (fun t9 ht9 hW9 => ⟨(FP.l2d (f i.toNatClampNeg)), rfl, rfl, ht9⟩) (fun q hq => absurd hq List.not_mem_nil) dX0_doubleAt_24
set_option maxHeartbeats 4000000 in
set_option maxRecDepth 100000 in
theorem oX0_putReal (l : Launch) (D : va_G) (A : Nat → Prop) (cI cJ cD cC : ClassId) (ws : va_W) (p0 p1 p2 : Nat) (a w r : Nat) (k len : Int32) (nw nr : Nat) (f : Nat → Int64) (g : Nat → UInt64) (sz : Nat) (e0 : ws[p0]? = some (a, .inr (0, [.int k, .int len, .ref w, .ref r]))) (e1 : ws[p1]? = some (w, .inl (cJ, nw, .inr (.inl f)))) (e2 : ws[p2]? = some (r, .inl (cD, nr, .inr (.inr (.inr (.inl g)))))) (hn : nw < 2 ^ 31 ∧ nr < 2 ^ 31) (i : Int32) (x : UInt64) (hi : vp_in i nr) : Met l yX0_putReal wsX0_putReal ({ frames := 0, cells := 0, slots := 0, locals := 0 }) (tcP D A (tcTY cI cJ cD cC) sz [.ref a, .int i, .double x] ws) (va_Qv (fun _ : Unit => True) (fun _ t => tcB D A (ws.set p2 (r, .inl (cD, nr, .inr (.inr (.inr (.inl (vf_upd g i.toNatClampNeg x))))))) t) A) 0 0 A := by
  refine Met.ofW (cc := cX0_putReal) (maxL := 4) (ret := none) (by decide) rfl ?_
  intro p e s m args below meth c s₁ B hml hv
  obtain ⟨rfl, hsz, hP, hK, hD, hE⟩ := hv
  have hx := B.exec
  have hb := B.bytes
  have hr := B.returns
  have hts := atoms_spec (ws := wsX0_putReal) B.pre
  have hown : s.vm.findClass RX0 = some m.cls := findClass_of_methodNamed B.named
  have hlocks := B.notSynchronized
  have hl := lv_entry ([.ref a, .int i, .double x]) (n := 4) (Nat.le_of_ble_eq_true rfl)
  rw [lg_entry_eq]
  generalize (lg_sl ([.ref a, .int i, .double x]) ++ List.replicate (4 - (lg_sl ([.ref a, .int i, .double x])).length) Slot.unset).toArray = ls at hl ⊢
  have hl : lv_has ls 4 [(0, .ref a), (1, .int i), (2, .double x)] := hl
  subst hsz
  have hS : va_S A s.heap s.heap [] := va_S.rf
  refine lv_iload_n hx hb dX0_putReal_0 rfl (lv_at hl 1 rfl) ?_
  refine lv_if_lt (tgt := 20) hx hb dX0_putReal_1 (by decide) (fun q => absurd q (vp_in_lo hi)) (fun _ => ?_)
  refine lv_iload_n hx hb dX0_putReal_4 rfl (lv_at hl 1 rfl) ?_
  refine lv_aload_n hx hb dX0_putReal_5 rfl (lv_at hl 0 rfl) ?_
  refine va_get (D := D) (ci := 0) (fs := [.int k, .int len, .ref w, .ref r]) (v := .ref r) (C := RX0) (T := TX0) (N := 4) hx hb hts (by decide +kernel) hown hK hP p0 e0 rfl 3 (by decide) (hts (.fieldLink RX0 32 "TypedColumns$Column" "reals" "[D") (by decide +kernel)) (fun _ h9 => h9) rfl dX0_putReal_6 ?_
  refine va_alen (v := (nI nr)) hx hb hK hP p2 2 e2 rfl rfl dX0_putReal_9 ?_
  refine lv_icmp_ge (tgt := 20) hx hb dX0_putReal_10 (by decide) (fun q => absurd q (vp_in_hi hi hn.2)) (fun _ => ?_)
  refine lv_aload_n hx hb dX0_putReal_13 rfl (lv_at hl 0 rfl) ?_
  refine va_get (D := D) (ci := 0) (fs := [.int k, .int len, .ref w, .ref r]) (v := .ref r) (C := RX0) (T := TX0) (N := 4) hx hb hts (by decide +kernel) hown hK hP p0 e0 rfl 3 (by decide) (hts (.fieldLink RX0 32 "TypedColumns$Column" "reals" "[D") (by decide +kernel)) (fun _ h9 => h9) rfl dX0_putReal_14 ?_
  refine lv_iload_n hx hb dX0_putReal_17 rfl (lv_at hl 1 rfl) ?_
  refine lv_dload_n hx hb dX0_putReal_18 rfl (lv_at hl 2 rfl) ?_
  refine va_dast (f := g) hx hb hK hP hD hS p2 2 e2 rfl (hi) dX0_putReal_19 (fun H locs hP hD hS => ?_)
  exact W.vret hx hb hr (fun t9 ht9 hW9 => ⟨⟨(), rfl, trivial, by rw [ht9]; exact hP, hD⟩, hS.F ht9⟩) hS.2.2 dX0_putReal_20
set_option maxHeartbeats 4000000 in
set_option maxRecDepth 100000 in
theorem oX0_putWhole_f (l : Launch) (D : va_G) (A : Nat → Prop) (cI cJ cD cC : ClassId) (ws : va_W) (p0 p1 p2 : Nat) (a w r : Nat) (k len : Int32) (nw nr : Nat) (f : Nat → Int64) (g : Nat → UInt64) (sz : Nat) (e0 : ws[p0]? = some (a, .inr (0, [.int k, .int len, .ref w, .ref r]))) (e1 : ws[p1]? = some (w, .inl (cJ, nw, .inr (.inl f)))) (e2 : ws[p2]? = some (r, .inl (cD, nr, .inr (.inr (.inr (.inl g)))))) (hn : nw < 2 ^ 31 ∧ nr < 2 ^ 31) (i : Int32) (v : Int64) (hi : vp_in i nr) (hk : k = 7) : Met l yX0_putWhole wsX0_putWhole ({ frames := 1, cells := 0, slots := 0, locals := 23 }) (tcP D A (tcTY cI cJ cD cC) sz [.ref a, .int i, .long v] ws) (va_Qv (fun _ : Unit => True) (fun _ t => tcB D A (ws.set p2 (r, .inl (cD, nr, .inr (.inr (.inr (.inl (vf_upd g i.toNatClampNeg (FP.f2d (FP.l2f v))))))))) t) A) 0 0 A := by
  refine Met.ofW (cc := cX0_putWhole) (maxL := 4) (ret := none) (by decide) rfl ?_
  intro p e s m args below meth c s₁ B hml hv
  obtain ⟨rfl, hsz, hP, hK, hD, hE⟩ := hv
  have hx := B.exec
  have hb := B.bytes
  have hr := B.returns
  have hts := atoms_spec (ws := wsX0_putWhole) B.pre
  have hown : s.vm.findClass RX0 = some m.cls := findClass_of_methodNamed B.named
  have hlocks := B.notSynchronized
  have hl := lv_entry ([.ref a, .int i, .long v]) (n := 4) (Nat.le_of_ble_eq_true rfl)
  rw [lg_entry_eq]
  generalize (lg_sl ([.ref a, .int i, .long v]) ++ List.replicate (4 - (lg_sl ([.ref a, .int i, .long v])).length) Slot.unset).toArray = ls at hl ⊢
  have hl : lv_has ls 4 [(0, .ref a), (1, .int i), (2, .long v)] := hl
  subst hsz
  have hS : va_S A s.heap s.heap [] := va_S.rf
  refine lv_aload_n hx hb dX0_putWhole_0 rfl (lv_at hl 0 rfl) ?_
  refine va_get (D := D) (ci := 0) (fs := [.int k, .int len, .ref w, .ref r]) (v := .int k) (C := RX0) (T := TX0) (N := 4) hx hb hts (by decide +kernel) hown hK hP p0 e0 rfl 0 (by decide) (hts (.fieldLink RX0 16 "TypedColumns$Column" "kind" "I") (by decide +kernel)) (fun _ h9 => h9) rfl dX0_putWhole_1 ?_
  refine lv_bipush (v := 7) hx hb dX0_putWhole_4 (by decide) ?_
  refine lv_icmp_ne (tgt := 20) hx hb dX0_putWhole_6 (by decide) (fun q => absurd (hk) q) (fun _ => ?_)
  refine lv_aload_n hx hb dX0_putWhole_9 rfl (lv_at hl 0 rfl) ?_
  refine lv_iload_n hx hb dX0_putWhole_10 rfl (lv_at hl 1 rfl) ?_
  refine lv_lload_n hx hb dX0_putWhole_11 rfl (lv_at hl 2 rfl) ?_
  refine lv_l2f hx hb dX0_putWhole_12 ?_
  refine lv_f2d hx hb dX0_putWhole_13 ((tf_n64 _).mpr (tf_f2d (tf_l2f v))) ?_
  refine va_callv (va_runV (As := [.int i, .double (FP.f2d (FP.l2f v))]) (rest := []) ⟨hx, hb, hml, hown, hts⟩ (oX0_putReal l D A cI cJ cD cC ws p0 p1 p2 a w r k len nw nr f g s.heap.size e0 e1 e2 hn i (FP.f2d (FP.l2f v)) hi) (cwV 2 hts gX0_putWhole_X0_putReal rfl rfl rfl (by decide +kernel) ⟨Nat.le_of_ble_eq_true rfl, Nat.le_of_ble_eq_true rfl⟩) ⟨tcP.blind, (va_recv hK hP (ci := 0) (q0 := p0) rfl e0), (tcP.go hK hP hD hE hS)⟩ rfl rfl hl.1 rfl (lv_room (Nat.le_of_ble_eq_true rfl)) dX0_putWhole_14 ⟨Nat.le_of_ble_eq_true rfl, Nat.le_of_ble_eq_true rfl⟩) hS (fun q _ h => h) (fun q h => h) (fun u t H locs ht hvm hw hB hz1 hk1 hS => ?_)
  obtain ⟨hP, hD⟩ := hB
  rw [ht] at hP
  refine lv_goto (tgt := 59) hx hb dX0_putWhole_17 (by decide) ?_
  exact W.vret hx hb hr (fun t9 ht9 hW9 => ⟨⟨(), rfl, trivial, by rw [ht9]; exact hP, hD⟩, hS.F ht9⟩) hS.2.2 dX0_putWhole_59
set_option maxHeartbeats 4000000 in
set_option maxRecDepth 100000 in
theorem oX0_putWhole_d (l : Launch) (D : va_G) (A : Nat → Prop) (cI cJ cD cC : ClassId) (ws : va_W) (p0 p1 p2 : Nat) (a w r : Nat) (k len : Int32) (nw nr : Nat) (f : Nat → Int64) (g : Nat → UInt64) (sz : Nat) (e0 : ws[p0]? = some (a, .inr (0, [.int k, .int len, .ref w, .ref r]))) (e1 : ws[p1]? = some (w, .inl (cJ, nw, .inr (.inl f)))) (e2 : ws[p2]? = some (r, .inl (cD, nr, .inr (.inr (.inr (.inl g)))))) (hn : nw < 2 ^ 31 ∧ nr < 2 ^ 31) (i : Int32) (v : Int64) (hi : vp_in i nr) (hk : k = 8) : Met l yX0_putWhole wsX0_putWhole ({ frames := 1, cells := 0, slots := 0, locals := 23 }) (tcP D A (tcTY cI cJ cD cC) sz [.ref a, .int i, .long v] ws) (va_Qv (fun _ : Unit => True) (fun _ t => tcB D A (ws.set p2 (r, .inl (cD, nr, .inr (.inr (.inr (.inl (vf_upd g i.toNatClampNeg (FP.l2d v)))))))) t) A) 0 0 A := by
  refine Met.ofW (cc := cX0_putWhole) (maxL := 4) (ret := none) (by decide) rfl ?_
  intro p e s m args below meth c s₁ B hml hv
  obtain ⟨rfl, hsz, hP, hK, hD, hE⟩ := hv
  have hx := B.exec
  have hb := B.bytes
  have hr := B.returns
  have hts := atoms_spec (ws := wsX0_putWhole) B.pre
  have hown : s.vm.findClass RX0 = some m.cls := findClass_of_methodNamed B.named
  have hlocks := B.notSynchronized
  have hl := lv_entry ([.ref a, .int i, .long v]) (n := 4) (Nat.le_of_ble_eq_true rfl)
  rw [lg_entry_eq]
  generalize (lg_sl ([.ref a, .int i, .long v]) ++ List.replicate (4 - (lg_sl ([.ref a, .int i, .long v])).length) Slot.unset).toArray = ls at hl ⊢
  have hl : lv_has ls 4 [(0, .ref a), (1, .int i), (2, .long v)] := hl
  subst hsz
  have hS : va_S A s.heap s.heap [] := va_S.rf
  refine lv_aload_n hx hb dX0_putWhole_0 rfl (lv_at hl 0 rfl) ?_
  refine va_get (D := D) (ci := 0) (fs := [.int k, .int len, .ref w, .ref r]) (v := .int k) (C := RX0) (T := TX0) (N := 4) hx hb hts (by decide +kernel) hown hK hP p0 e0 rfl 0 (by decide) (hts (.fieldLink RX0 16 "TypedColumns$Column" "kind" "I") (by decide +kernel)) (fun _ h9 => h9) rfl dX0_putWhole_1 ?_
  refine lv_bipush (v := 7) hx hb dX0_putWhole_4 (by decide) ?_
  refine lv_icmp_ne (tgt := 20) hx hb dX0_putWhole_6 (by decide) (fun _ => ?_) (fun q => absurd q (show ¬ k = 7 from by rw [hk]; decide))
  refine lv_aload_n hx hb dX0_putWhole_20 rfl (lv_at hl 0 rfl) ?_
  refine va_get (D := D) (ci := 0) (fs := [.int k, .int len, .ref w, .ref r]) (v := .int k) (C := RX0) (T := TX0) (N := 4) hx hb hts (by decide +kernel) hown hK hP p0 e0 rfl 0 (by decide) (hts (.fieldLink RX0 16 "TypedColumns$Column" "kind" "I") (by decide +kernel)) (fun _ h9 => h9) rfl dX0_putWhole_21 ?_
  refine lv_bipush (v := 8) hx hb dX0_putWhole_24 (by decide) ?_
  refine lv_icmp_ne (tgt := 39) hx hb dX0_putWhole_26 (by decide) (fun q => absurd (hk) q) (fun _ => ?_)
  refine lv_aload_n hx hb dX0_putWhole_29 rfl (lv_at hl 0 rfl) ?_
  refine lv_iload_n hx hb dX0_putWhole_30 rfl (lv_at hl 1 rfl) ?_
  refine lv_lload_n hx hb dX0_putWhole_31 rfl (lv_at hl 2 rfl) ?_
  refine lv_l2d hx hb dX0_putWhole_32 ?_
  refine va_callv (va_runV (As := [.int i, .double (FP.l2d v)]) (rest := []) ⟨hx, hb, hml, hown, hts⟩ (oX0_putReal l D A cI cJ cD cC ws p0 p1 p2 a w r k len nw nr f g s.heap.size e0 e1 e2 hn i (FP.l2d v) hi) (cwV 2 hts gX0_putWhole_X0_putReal rfl rfl rfl (by decide +kernel) ⟨Nat.le_of_ble_eq_true rfl, Nat.le_of_ble_eq_true rfl⟩) ⟨tcP.blind, (va_recv hK hP (ci := 0) (q0 := p0) rfl e0), (tcP.go hK hP hD hE hS)⟩ rfl rfl hl.1 rfl (lv_room (Nat.le_of_ble_eq_true rfl)) dX0_putWhole_33 ⟨Nat.le_of_ble_eq_true rfl, Nat.le_of_ble_eq_true rfl⟩) hS (fun q _ h => h) (fun q h => h) (fun u t H locs ht hvm hw hB hz1 hk1 hS => ?_)
  obtain ⟨hP, hD⟩ := hB
  rw [ht] at hP
  refine lv_goto (tgt := 59) hx hb dX0_putWhole_36 (by decide) ?_
  exact W.vret hx hb hr (fun t9 ht9 hW9 => ⟨⟨(), rfl, trivial, by rw [ht9]; exact hP, hD⟩, hS.F ht9⟩) hS.2.2 dX0_putWhole_59
set_option maxHeartbeats 4000000 in
set_option maxRecDepth 100000 in
theorem oX0_putWhole_w (l : Launch) (D : va_G) (A : Nat → Prop) (cI cJ cD cC : ClassId) (ws : va_W) (p0 p1 p2 : Nat) (a w r : Nat) (k len : Int32) (nw nr : Nat) (f : Nat → Int64) (g : Nat → UInt64) (sz : Nat) (e0 : ws[p0]? = some (a, .inr (0, [.int k, .int len, .ref w, .ref r]))) (e1 : ws[p1]? = some (w, .inl (cJ, nw, .inr (.inl f)))) (e2 : ws[p2]? = some (r, .inl (cD, nr, .inr (.inr (.inr (.inl g)))))) (hn : nw < 2 ^ 31 ∧ nr < 2 ^ 31) (i : Int32) (v : Int64) (hi : vp_in i nw) (hk : kFl k = false) : Met l yX0_putWhole wsX0_putWhole ({ frames := 0, cells := 0, slots := 0, locals := 0 }) (tcP D A (tcTY cI cJ cD cC) sz [.ref a, .int i, .long v] ws) (va_Qv (fun _ : Unit => True) (fun _ t => tcB D A (ws.set p1 (w, .inl (cJ, nw, .inr (.inl (vp_updL f i.toNatClampNeg v))))) t) A) 0 0 A := by
  refine Met.ofW (cc := cX0_putWhole) (maxL := 4) (ret := none) (by decide) rfl ?_
  intro p e s m args below meth c s₁ B hml hv
  obtain ⟨rfl, hsz, hP, hK, hD, hE⟩ := hv
  have hx := B.exec
  have hb := B.bytes
  have hr := B.returns
  have hts := atoms_spec (ws := wsX0_putWhole) B.pre
  have hown : s.vm.findClass RX0 = some m.cls := findClass_of_methodNamed B.named
  have hlocks := B.notSynchronized
  have hl := lv_entry ([.ref a, .int i, .long v]) (n := 4) (Nat.le_of_ble_eq_true rfl)
  rw [lg_entry_eq]
  generalize (lg_sl ([.ref a, .int i, .long v]) ++ List.replicate (4 - (lg_sl ([.ref a, .int i, .long v])).length) Slot.unset).toArray = ls at hl ⊢
  have hl : lv_has ls 4 [(0, .ref a), (1, .int i), (2, .long v)] := hl
  subst hsz
  have hS : va_S A s.heap s.heap [] := va_S.rf
  refine lv_aload_n hx hb dX0_putWhole_0 rfl (lv_at hl 0 rfl) ?_
  refine va_get (D := D) (ci := 0) (fs := [.int k, .int len, .ref w, .ref r]) (v := .int k) (C := RX0) (T := TX0) (N := 4) hx hb hts (by decide +kernel) hown hK hP p0 e0 rfl 0 (by decide) (hts (.fieldLink RX0 16 "TypedColumns$Column" "kind" "I") (by decide +kernel)) (fun _ h9 => h9) rfl dX0_putWhole_1 ?_
  refine lv_bipush (v := 7) hx hb dX0_putWhole_4 (by decide) ?_
  refine lv_icmp_ne (tgt := 20) hx hb dX0_putWhole_6 (by decide) (fun _ => ?_) (fun q => absurd q ((kFl_no hk).1))
  refine lv_aload_n hx hb dX0_putWhole_20 rfl (lv_at hl 0 rfl) ?_
  refine va_get (D := D) (ci := 0) (fs := [.int k, .int len, .ref w, .ref r]) (v := .int k) (C := RX0) (T := TX0) (N := 4) hx hb hts (by decide +kernel) hown hK hP p0 e0 rfl 0 (by decide) (hts (.fieldLink RX0 16 "TypedColumns$Column" "kind" "I") (by decide +kernel)) (fun _ h9 => h9) rfl dX0_putWhole_21 ?_
  refine lv_bipush (v := 8) hx hb dX0_putWhole_24 (by decide) ?_
  refine lv_icmp_ne (tgt := 39) hx hb dX0_putWhole_26 (by decide) (fun _ => ?_) (fun q => absurd q ((kFl_no hk).2))
  refine lv_iload_n hx hb dX0_putWhole_39 rfl (lv_at hl 1 rfl) ?_
  refine lv_if_lt (tgt := 59) hx hb dX0_putWhole_40 (by decide) (fun q => absurd q (vp_in_lo hi)) (fun _ => ?_)
  refine lv_iload_n hx hb dX0_putWhole_43 rfl (lv_at hl 1 rfl) ?_
  refine lv_aload_n hx hb dX0_putWhole_44 rfl (lv_at hl 0 rfl) ?_
  refine va_get (D := D) (ci := 0) (fs := [.int k, .int len, .ref w, .ref r]) (v := .ref w) (C := RX0) (T := TX0) (N := 4) hx hb hts (by decide +kernel) hown hK hP p0 e0 rfl 2 (by decide) (hts (.fieldLink RX0 28 "TypedColumns$Column" "wholes" "[J") (by decide +kernel)) (fun _ h9 => h9) rfl dX0_putWhole_45 ?_
  refine va_alen (v := (nI nw)) hx hb hK hP p1 1 e1 rfl rfl dX0_putWhole_48 ?_
  refine lv_icmp_ge (tgt := 59) hx hb dX0_putWhole_49 (by decide) (fun q => absurd q (vp_in_hi hi hn.1)) (fun _ => ?_)
  refine lv_aload_n hx hb dX0_putWhole_52 rfl (lv_at hl 0 rfl) ?_
  refine va_get (D := D) (ci := 0) (fs := [.int k, .int len, .ref w, .ref r]) (v := .ref w) (C := RX0) (T := TX0) (N := 4) hx hb hts (by decide +kernel) hown hK hP p0 e0 rfl 2 (by decide) (hts (.fieldLink RX0 28 "TypedColumns$Column" "wholes" "[J") (by decide +kernel)) (fun _ h9 => h9) rfl dX0_putWhole_53 ?_
  refine lv_iload_n hx hb dX0_putWhole_56 rfl (lv_at hl 1 rfl) ?_
  refine lv_lload_n hx hb dX0_putWhole_57 rfl (lv_at hl 2 rfl) ?_
  refine va_last (f := f) hx hb hK hP hD hS p1 1 e1 rfl (hi) dX0_putWhole_58 (fun H locs hP hD hS => ?_)
  exact W.vret hx hb hr (fun t9 ht9 hW9 => ⟨⟨(), rfl, trivial, by rw [ht9]; exact hP, hD⟩, hS.F ht9⟩) hS.2.2 dX0_putWhole_59
