/-! A COLUMN: the methods with loops, copies and arrays of their own -/
set_option maxHeartbeats 4000000 in
set_option maxRecDepth 100000 in
theorem oX0_sum_r (l : Launch) (D : va_G) (A : Nat → Prop) (cI cJ cD cC : ClassId) (ws : va_W) (p0 p1 p2 : Nat) (a w r : Nat) (k len : Int32) (nw nr : Nat) (f : Nat → Int64) (g : Nat → UInt64) (sz : Nat) (e0 : ws[p0]? = some (a, .inr (0, [.int k, .int len, .ref w, .ref r]))) (e1 : ws[p1]? = some (w, .inl (cJ, nw, .inr (.inl f)))) (e2 : ws[p2]? = some (r, .inl (cD, nr, .inr (.inr (.inr (.inl g)))))) (hn : nw < 2 ^ 31 ∧ nr < 2 ^ 31) (hk : kFl k = true) (hlen : len = nI nr) : Met l yX0_sum wsX0_sum ({ frames := 2, cells := 0, slots := 0, locals := 44 }) (tcP D A (tcTY cI cJ cD cC) sz [.ref a] ws) (vp_Sd (fun r => r = tf_sum g nr)) 0 0 (fun _ => False) := by
  refine Met.ofW (cc := cX0_sum) (maxL := 4) (ret := (some .double)) (by decide) rfl ?_
  intro p e s m args below meth c s₁ B hml hv
  obtain ⟨rfl, hsz, hP, hK, hD, hE⟩ := hv
  have hx := B.exec
  have hb := B.bytes
  have hr := B.returns
  have hts := atoms_spec (ws := wsX0_sum) B.pre
  have hown : s.vm.findClass RX0 = some m.cls := findClass_of_methodNamed B.named
  have hlocks := B.notSynchronized
  have hl := lv_entry ([.ref a]) (n := 4) (Nat.le_of_ble_eq_true rfl)
  rw [lg_entry_eq]
  generalize (lg_sl ([.ref a]) ++ List.replicate (4 - (lg_sl ([.ref a])).length) Slot.unset).toArray = ls at hl ⊢
  have hl : lv_has ls 4 [(0, .ref a)] := hl
  subst hsz
  have hS : va_S A s.heap s.heap [] := va_S.rf
  refine lv_dconst0 hx hb dX0_sum_0 ?_
  refine lv_dstore_n (lv' := [(1, .double FP.dconst0), (0, .ref a)]) hx hb dX0_sum_1 rfl hl (by decide) rfl (fun ls hl => ?_)
  refine lv_iconst (v := 0) hx hb dX0_sum_2 (by decide) ?_
  refine lv_istore_n (lv' := [(3, .int 0), (1, .double FP.dconst0), (0, .ref a)]) hx hb dX0_sum_3 rfl hl (by decide) rfl (fun ls hl => ?_)
  refine tc_loop (fun k9 H locs ls => ∃ i : Nat, i + k9 = nr ∧ (H = s.heap ∧ locs = []) ∧ lv_has ls 4 [(3, .int (nI i)), (1, .double (tf_sum g i)), (0, .ref a)]) (fun k9 H locs ls hi9 ih => ?_) (fun H locs ls hi9 => ?_) nr ⟨0, by omega, ⟨rfl, rfl⟩, hl⟩
  · obtain ⟨i, hik, ⟨rfl, rfl⟩, hl⟩ := hi9
    have hiN : i < nr := by omega
    refine lv_iload_n hx hb dX0_sum_4 rfl (lv_at hl 0 rfl) ?_
    refine lv_aload_n hx hb dX0_sum_5 rfl (lv_at hl 2 rfl) ?_
    refine va_get (D := D) (ci := 0) (fs := [.int k, .int len, .ref w, .ref r]) (v := .int len) (C := RX0) (T := TX0) (N := 4) hx hb hts (by decide +kernel) hown hK hP p0 e0 rfl 1 (by decide) (hts (.fieldLink RX0 22 "TypedColumns$Column" "length" "I") (by decide +kernel)) (fun _ h9 => h9) rfl dX0_sum_6 ?_
    refine lv_icmp_ge (tgt := 28) hx hb dX0_sum_9 (by decide) (fun q => absurd q (by rw [hlen]; exact nI_ge hiN hn.2)) (fun _ => ?_)
    refine lv_dload_n hx hb dX0_sum_12 rfl (lv_at hl 1 rfl) ?_
    refine lv_aload_n hx hb dX0_sum_13 rfl (lv_at hl 2 rfl) ?_
    refine lv_iload_n hx hb dX0_sum_14 rfl (lv_at hl 0 rfl) ?_
    refine vp_callSd (tc_CR (va_runV (As := [.int (nI i)]) (rest := [.double (tf_sum g i)]) ⟨hx, hb, hml, hown, hts⟩ (oX0_doubleAt_r l D A cI cJ cD cC ws p0 p1 p2 a w r k len nw nr f g s.heap.size e0 e1 e2 hn (nI i) (vp_in_nI hiN hn.2) hk) (cwV 1 hts gX0_sum_X0_doubleAt rfl rfl rfl (by decide +kernel) ⟨Nat.le_of_ble_eq_true rfl, Nat.le_of_ble_eq_true rfl⟩) ⟨tcP.blind, (va_recv hK hP (ci := 0) (q0 := p0) rfl e0), (tcP.go hK hP hD hE hS)⟩ rfl rfl hl.1 rfl (lv_room (Nat.le_of_ble_eq_true rfl)) dX0_sum_15 ⟨Nat.le_of_ble_eq_true rfl, Nat.le_of_ble_eq_true rfl⟩)) (fun r_2 hr_2 => ?_)
    subst hr_2
    rw [nI_clamp (n := i) (by omega)]
    refine vp_callSd (tc_CR (va_runSN (As := [.double (tf_sum g i), .double (g i)]) (rest := []) ⟨hx, hb, hml, hown, hts⟩ (kX2_sumOf l (tf_sum g i) (g i)) ⟨va_cnB 2 hts gX0_sum_X2_sumOf_n69 rfl rfl rfl (hE.2.2.2.2.2.2.2.2.1) (hts (.initialized RX2) (by decide +kernel)) (by decide +kernel) ⟨Nat.le_of_ble_eq_true rfl, Nat.le_of_ble_eq_true rfl⟩, hts (.static yX2_sumOf) (by decide +kernel), trivial⟩ ⟨fun a U g mk q => q, fun U hU hW => ⟨rfl, trivial⟩⟩ rfl rfl hl.1 rfl (lv_room (Nat.le_of_ble_eq_true rfl)) dX0_sum_18 ⟨Nat.zero_le _, Nat.zero_le _⟩)) (fun r_3 hr_3 => ?_)
    subst hr_3
    refine lv_dstore_n (lv' := [(1, .double (tf_canon (FP.dadd (tf_sum g i) (g i)))), (3, .int (nI i)), (0, .ref a)]) hx hb dX0_sum_21 rfl hl (by decide) rfl (fun ls hl => ?_)
    obtain ⟨x_4, ex_4⟩ : ∃ y : Int32, y = (nI i) + (1) := ⟨_, rfl⟩
    refine lv_iinc (v := x_4) (lv' := [(3, .int x_4), (1, .double (tf_canon (FP.dadd (tf_sum g i) (g i)))), (0, .ref a)]) hx hb dX0_sum_22 hl (k := 1) rfl (by rw [ex_4]; rfl) (by decide) rfl (fun ls hl => ?_)
    refine lv_goto (tgt := 4) hx hb dX0_sum_25 (by decide) ?_
    subst ex_4
    exact ih _ _ _ ⟨i + 1, by omega, ⟨rfl, rfl⟩, by rw [nI_succ]; exact lv_sub hl [0, 1, 2] rfl⟩
  · obtain ⟨i, hik, ⟨rfl, rfl⟩, hl⟩ := hi9
    have hiN : i = nr := by omega
    subst hiN
    refine lv_iload_n hx hb dX0_sum_4 rfl (lv_at hl 0 rfl) ?_
    refine lv_aload_n hx hb dX0_sum_5 rfl (lv_at hl 2 rfl) ?_
    refine va_get (D := D) (ci := 0) (fs := [.int k, .int len, .ref w, .ref r]) (v := .int len) (C := RX0) (T := TX0) (N := 4) hx hb hts (by decide +kernel) hown hK hP p0 e0 rfl 1 (by decide) (hts (.fieldLink RX0 22 "TypedColumns$Column" "length" "I") (by decide +kernel)) (fun _ h9 => h9) rfl dX0_sum_6 ?_
    refine lv_icmp_ge (tgt := 28) hx hb dX0_sum_9 (by decide) (fun _ => ?_) (fun q => absurd (by rw [hlen]; exact nI_le (Nat.le_refl _) hn.2) q)
    refine lv_dload_n hx hb dX0_sum_28 rfl (lv_at hl 1 rfl) ?_
    exact W.dret (v := (tf_sum g i)) hx hb hr (fun t9 ht9 hW9 => ⟨(tf_sum g i), rfl, rfl, ht9⟩) (fun q hq => absurd hq List.not_mem_nil) dX0_sum_29
set_option maxHeartbeats 4000000 in
set_option maxRecDepth 100000 in
theorem oX0_sum_w (l : Launch) (D : va_G) (A : Nat → Prop) (cI cJ cD cC : ClassId) (ws : va_W) (p0 p1 p2 : Nat) (a w r : Nat) (k len : Int32) (nw nr : Nat) (f : Nat → Int64) (g : Nat → UInt64) (sz : Nat) (e0 : ws[p0]? = some (a, .inr (0, [.int k, .int len, .ref w, .ref r]))) (e1 : ws[p1]? = some (w, .inl (cJ, nw, .inr (.inl f)))) (e2 : ws[p2]? = some (r, .inl (cD, nr, .inr (.inr (.inr (.inl g)))))) (hn : nw < 2 ^ 31 ∧ nr < 2 ^ 31) (hk : kFl k = false) (hlen : len = nI nw) : Met l yX0_sum wsX0_sum ({ frames := 2, cells := 0, slots := 0, locals := 44 }) (tcP D A (tcTY cI cJ cD cC) sz [.ref a] ws) (vp_Sd (fun r => r = tf_sum (fun q => FP.l2d (f q)) nw)) 0 0 (fun _ => False) := by
  refine Met.ofW (cc := cX0_sum) (maxL := 4) (ret := (some .double)) (by decide) rfl ?_
  intro p e s m args below meth c s₁ B hml hv
  obtain ⟨rfl, hsz, hP, hK, hD, hE⟩ := hv
  have hx := B.exec
  have hb := B.bytes
  have hr := B.returns
  have hts := atoms_spec (ws := wsX0_sum) B.pre
  have hown : s.vm.findClass RX0 = some m.cls := findClass_of_methodNamed B.named
  have hlocks := B.notSynchronized
  have hl := lv_entry ([.ref a]) (n := 4) (Nat.le_of_ble_eq_true rfl)
  rw [lg_entry_eq]
  generalize (lg_sl ([.ref a]) ++ List.replicate (4 - (lg_sl ([.ref a])).length) Slot.unset).toArray = ls at hl ⊢
  have hl : lv_has ls 4 [(0, .ref a)] := hl
  subst hsz
  have hS : va_S A s.heap s.heap [] := va_S.rf
  refine lv_dconst0 hx hb dX0_sum_0 ?_
  refine lv_dstore_n (lv' := [(1, .double FP.dconst0), (0, .ref a)]) hx hb dX0_sum_1 rfl hl (by decide) rfl (fun ls hl => ?_)
  refine lv_iconst (v := 0) hx hb dX0_sum_2 (by decide) ?_
  refine lv_istore_n (lv' := [(3, .int 0), (1, .double FP.dconst0), (0, .ref a)]) hx hb dX0_sum_3 rfl hl (by decide) rfl (fun ls hl => ?_)
  refine tc_loop (fun k9 H locs ls => ∃ i : Nat, i + k9 = nw ∧ (H = s.heap ∧ locs = []) ∧ lv_has ls 4 [(3, .int (nI i)), (1, .double (tf_sum (fun q => FP.l2d (f q)) i)), (0, .ref a)]) (fun k9 H locs ls hi9 ih => ?_) (fun H locs ls hi9 => ?_) nw ⟨0, by omega, ⟨rfl, rfl⟩, hl⟩
  · obtain ⟨i, hik, ⟨rfl, rfl⟩, hl⟩ := hi9
    have hiN : i < nw := by omega
    refine lv_iload_n hx hb dX0_sum_4 rfl (lv_at hl 0 rfl) ?_
    refine lv_aload_n hx hb dX0_sum_5 rfl (lv_at hl 2 rfl) ?_
    refine va_get (D := D) (ci := 0) (fs := [.int k, .int len, .ref w, .ref r]) (v := .int len) (C := RX0) (T := TX0) (N := 4) hx hb hts (by decide +kernel) hown hK hP p0 e0 rfl 1 (by decide) (hts (.fieldLink RX0 22 "TypedColumns$Column" "length" "I") (by decide +kernel)) (fun _ h9 => h9) rfl dX0_sum_6 ?_
    refine lv_icmp_ge (tgt := 28) hx hb dX0_sum_9 (by decide) (fun q => absurd q (by rw [hlen]; exact nI_ge hiN hn.1)) (fun _ => ?_)
    refine lv_dload_n hx hb dX0_sum_12 rfl (lv_at hl 1 rfl) ?_
    refine lv_aload_n hx hb dX0_sum_13 rfl (lv_at hl 2 rfl) ?_
    refine lv_iload_n hx hb dX0_sum_14 rfl (lv_at hl 0 rfl) ?_
    refine vp_callSd (tc_CR (va_runV (As := [.int (nI i)]) (rest := [.double (tf_sum (fun q => FP.l2d (f q)) i)]) ⟨hx, hb, hml, hown, hts⟩ (oX0_doubleAt_w l D A cI cJ cD cC ws p0 p1 p2 a w r k len nw nr f g s.heap.size e0 e1 e2 hn (nI i) (vp_in_nI hiN hn.1) hk) (cwV 1 hts gX0_sum_X0_doubleAt rfl rfl rfl (by decide +kernel) ⟨Nat.le_of_ble_eq_true rfl, Nat.le_of_ble_eq_true rfl⟩) ⟨tcP.blind, (va_recv hK hP (ci := 0) (q0 := p0) rfl e0), (tcP.go hK hP hD hE hS)⟩ rfl rfl hl.1 rfl (lv_room (Nat.le_of_ble_eq_true rfl)) dX0_sum_15 ⟨Nat.le_of_ble_eq_true rfl, Nat.le_of_ble_eq_true rfl⟩)) (fun r_2 hr_2 => ?_)
    subst hr_2
    rw [nI_clamp (n := i) (by omega)]
    refine vp_callSd (tc_CR (va_runSN (As := [.double (tf_sum (fun q => FP.l2d (f q)) i), .double (FP.l2d (f i))]) (rest := []) ⟨hx, hb, hml, hown, hts⟩ (kX2_sumOf l (tf_sum (fun q => FP.l2d (f q)) i) (FP.l2d (f i))) ⟨va_cnB 2 hts gX0_sum_X2_sumOf_n69 rfl rfl rfl (hE.2.2.2.2.2.2.2.2.1) (hts (.initialized RX2) (by decide +kernel)) (by decide +kernel) ⟨Nat.le_of_ble_eq_true rfl, Nat.le_of_ble_eq_true rfl⟩, hts (.static yX2_sumOf) (by decide +kernel), trivial⟩ ⟨fun a U g mk q => q, fun U hU hW => ⟨rfl, trivial⟩⟩ rfl rfl hl.1 rfl (lv_room (Nat.le_of_ble_eq_true rfl)) dX0_sum_18 ⟨Nat.zero_le _, Nat.zero_le _⟩)) (fun r_3 hr_3 => ?_)
    subst hr_3
    refine lv_dstore_n (lv' := [(1, .double (tf_canon (FP.dadd (tf_sum (fun q => FP.l2d (f q)) i) (FP.l2d (f i))))), (3, .int (nI i)), (0, .ref a)]) hx hb dX0_sum_21 rfl hl (by decide) rfl (fun ls hl => ?_)
    obtain ⟨x_4, ex_4⟩ : ∃ y : Int32, y = (nI i) + (1) := ⟨_, rfl⟩
    refine lv_iinc (v := x_4) (lv' := [(3, .int x_4), (1, .double (tf_canon (FP.dadd (tf_sum (fun q => FP.l2d (f q)) i) (FP.l2d (f i))))), (0, .ref a)]) hx hb dX0_sum_22 hl (k := 1) rfl (by rw [ex_4]; rfl) (by decide) rfl (fun ls hl => ?_)
    refine lv_goto (tgt := 4) hx hb dX0_sum_25 (by decide) ?_
    subst ex_4
    exact ih _ _ _ ⟨i + 1, by omega, ⟨rfl, rfl⟩, by rw [nI_succ]; exact lv_sub hl [0, 1, 2] rfl⟩
  · obtain ⟨i, hik, ⟨rfl, rfl⟩, hl⟩ := hi9
    have hiN : i = nw := by omega
    subst hiN
    refine lv_iload_n hx hb dX0_sum_4 rfl (lv_at hl 0 rfl) ?_
    refine lv_aload_n hx hb dX0_sum_5 rfl (lv_at hl 2 rfl) ?_
    refine va_get (D := D) (ci := 0) (fs := [.int k, .int len, .ref w, .ref r]) (v := .int len) (C := RX0) (T := TX0) (N := 4) hx hb hts (by decide +kernel) hown hK hP p0 e0 rfl 1 (by decide) (hts (.fieldLink RX0 22 "TypedColumns$Column" "length" "I") (by decide +kernel)) (fun _ h9 => h9) rfl dX0_sum_6 ?_
    refine lv_icmp_ge (tgt := 28) hx hb dX0_sum_9 (by decide) (fun _ => ?_) (fun q => absurd (by rw [hlen]; exact nI_le (Nat.le_refl _) hn.1) q)
    refine lv_dload_n hx hb dX0_sum_28 rfl (lv_at hl 1 rfl) ?_
    exact W.dret (v := (tf_sum (fun q => FP.l2d (f q)) i)) hx hb hr (fun t9 ht9 hW9 => ⟨(tf_sum (fun q => FP.l2d (f q)) i), rfl, rfl, ht9⟩) (fun q hq => absurd hq List.not_mem_nil) dX0_sum_29
set_option maxHeartbeats 4000000 in
set_option maxRecDepth 100000 in
theorem oX0_takeCells (l : Launch) (D : va_G) (A : Nat → Prop) (cI cJ cD cC : ClassId) (ws : va_W) (p0 p1 p2 : Nat) (a w r : Nat) (k len : Int32) (nw nr : Nat) (f : Nat → Int64) (g : Nat → UInt64) (sz : Nat) (e0 : ws[p0]? = some (a, .inr (0, [.int k, .int len, .ref w, .ref r]))) (e1 : ws[p1]? = some (w, .inl (cJ, nw, .inr (.inl f)))) (e2 : ws[p2]? = some (r, .inl (cD, nr, .inr (.inr (.inr (.inl g)))))) (hn : nw < 2 ^ 31 ∧ nr < 2 ^ 31) (u0 u1 u2 : Nat) (sa sw sr : Nat) (sk slen : Int32) (snw snr : Nat) (sf : Nat → Int64) (sg : Nat → UInt64) (d0 : ws[u0]? = some (sa, .inr (0, [.int sk, .int slen, .ref sw, .ref sr]))) (d1 : ws[u1]? = some (sw, .inl (cJ, snw, .inr (.inl sf)))) (d2 : ws[u2]? = some (sr, .inl (cD, snr, .inr (.inr (.inr (.inl sg)))))) (hm : snw < 2 ^ 31 ∧ snr < 2 ^ 31) (sp dp n : Int32) (hne : p1 ≠ p0 ∧ p1 ≠ p2 ∧ p1 ≠ u0 ∧ p1 ≠ u2) : Met l yX0_takeCells wsX0_takeCells ({ frames := 1, cells := 0, slots := 0, locals := 40 }) (tcP D A (tcTY cI cJ cD cC) sz [.ref a, .ref sa, .int sp, .int dp, .int n] ws) (va_Qv (fun _ : Unit => True) (fun _ t => tcB D A ((ws.set p1 (w, .inl (cJ, nw, .inr (.inl (tc_tk sf f (kPart sp n (nI snw)) (kPart dp n (nI nw)) sp dp n))))).set p2 (r, .inl (cD, nr, .inr (.inr (.inr (.inl (tc_tk sg g (kPart sp n (nI snr)) (kPart dp n (nI nr)) sp dp n))))))) t) A) 0 0 A := by
  refine Met.ofW (cc := cX0_takeCells) (maxL := 5) (ret := none) (by decide) rfl ?_
  intro p e s m args below meth c s₁ B hml hv
  obtain ⟨rfl, hsz, hP, hK, hD, hE⟩ := hv
  have hx := B.exec
  have hb := B.bytes
  have hr := B.returns
  have hts := atoms_spec (ws := wsX0_takeCells) B.pre
  have hown : s.vm.findClass RX0 = some m.cls := findClass_of_methodNamed B.named
  have hlocks := B.notSynchronized
  have hl := lv_entry ([.ref a, .ref sa, .int sp, .int dp, .int n]) (n := 5) (Nat.le_of_ble_eq_true rfl)
  rw [lg_entry_eq]
  generalize (lg_sl ([.ref a, .ref sa, .int sp, .int dp, .int n]) ++ List.replicate (5 - (lg_sl ([.ref a, .ref sa, .int sp, .int dp, .int n])).length) Slot.unset).toArray = ls at hl ⊢
  have hl : lv_has ls 5 [(0, .ref a), (1, .ref sa), (2, .int sp), (3, .int dp), (4, .int n)] := hl
  subst hsz
  have hS : va_S A s.heap s.heap [] := va_S.rf
  refine lv_iload_n hx hb dX0_takeCells_0 rfl (lv_at hl 2 rfl) ?_
  refine lv_iload hx hb dX0_takeCells_1 (lv_at hl 4 rfl) ?_
  refine lv_aload_n hx hb dX0_takeCells_3 rfl (lv_at hl 1 rfl) ?_
  refine va_get (D := D) (ci := 0) (fs := [.int sk, .int slen, .ref sw, .ref sr]) (v := .ref sw) (C := RX0) (T := TX0) (N := 4) hx hb hts (by decide +kernel) hown hK hP u0 d0 rfl 2 (by decide) (hts (.fieldLink RX0 28 "TypedColumns$Column" "wholes" "[J") (by decide +kernel)) (fun _ h9 => h9) rfl dX0_takeCells_4 ?_
  refine va_alen (v := (nI snw)) hx hb hK hP u1 1 d1 rfl rfl dX0_takeCells_7 ?_
  refine vp_callSi (tc_CR (va_runSN (As := [.int sp, .int n, .int (nI snw)]) (rest := []) ⟨hx, hb, hml, hown, hts⟩ (kX2_isPart l sp n (nI snw)) ⟨va_cnB 3 hts gX0_takeCells_X2_isPart_n52 rfl rfl rfl (hE.2.2.2.2.2.2.2.1) (hts (.initialized RX2) (by decide +kernel)) (by decide +kernel) ⟨Nat.le_of_ble_eq_true rfl, Nat.le_of_ble_eq_true rfl⟩, hts (.static yX2_isPart) (by decide +kernel), trivial⟩ ⟨fun a U g mk q => q, fun U hU hW => ⟨rfl, trivial⟩⟩ rfl rfl hl.1 rfl (lv_room (Nat.le_of_ble_eq_true rfl)) dX0_takeCells_8 ⟨Nat.zero_le _, Nat.zero_le _⟩)) (fun r_1 hr_1 => ?_)
  subst hr_1
  refine lv_if_eq (tgt := 43) hx hb dX0_takeCells_11 (by decide) (fun c_2 => ?_) (fun c_2 => ?_)
  · have hP : va_P D vwCl (ws.set p1 (w, .inl (cJ, nw, .inr (.inl (tc_tk sf f (kPart sp n (nI snw)) (kPart dp n (nI nw)) sp dp n))))) s.heap := by rw [tc_tk1 sf f _ sp dp n c_2, tc_set_same e1]; exact hP
    have hD : va_D A (ws.set p1 (w, .inl (cJ, nw, .inr (.inl (tc_tk sf f (kPart sp n (nI snw)) (kPart dp n (nI nw)) sp dp n))))) := by rw [tc_tk1 sf f _ sp dp n c_2, tc_set_same e1]; exact hD
    have e0a := tc_set_ne (y := (w, .inl (cJ, nw, .inr (.inl (tc_tk sf f (kPart sp n (nI snw)) (kPart dp n (nI nw)) sp dp n))))) e0 hne.1
    have e2a := tc_set_ne (y := (w, .inl (cJ, nw, .inr (.inl (tc_tk sf f (kPart sp n (nI snw)) (kPart dp n (nI nw)) sp dp n))))) e2 hne.2.1
    have d0a := tc_set_ne (y := (w, .inl (cJ, nw, .inr (.inl (tc_tk sf f (kPart sp n (nI snw)) (kPart dp n (nI nw)) sp dp n))))) d0 hne.2.2.1
    have d2a := tc_set_ne (y := (w, .inl (cJ, nw, .inr (.inl (tc_tk sf f (kPart sp n (nI snw)) (kPart dp n (nI nw)) sp dp n))))) d2 hne.2.2.2
    refine lv_iload_n hx hb dX0_takeCells_43 rfl (lv_at hl 2 rfl) ?_
    refine lv_iload hx hb dX0_takeCells_44 (lv_at hl 4 rfl) ?_
    refine lv_aload_n hx hb dX0_takeCells_46 rfl (lv_at hl 1 rfl) ?_
    refine va_get (D := D) (ci := 0) (fs := [.int sk, .int slen, .ref sw, .ref sr]) (v := .ref sr) (C := RX0) (T := TX0) (N := 4) hx hb hts (by decide +kernel) hown hK hP u0 d0a rfl 3 (by decide) (hts (.fieldLink RX0 32 "TypedColumns$Column" "reals" "[D") (by decide +kernel)) (fun _ h9 => h9) rfl dX0_takeCells_47 ?_
    refine va_alen (v := (nI snr)) hx hb hK hP u2 2 d2a rfl rfl dX0_takeCells_50 ?_
    refine vp_callSi (tc_CR (va_runSN (As := [.int sp, .int n, .int (nI snr)]) (rest := []) ⟨hx, hb, hml, hown, hts⟩ (kX2_isPart l sp n (nI snr)) ⟨va_cnB 3 hts gX0_takeCells_X2_isPart_n52 rfl rfl rfl (hE.2.2.2.2.2.2.2.1) (hts (.initialized RX2) (by decide +kernel)) (by decide +kernel) ⟨Nat.le_of_ble_eq_true rfl, Nat.le_of_ble_eq_true rfl⟩, hts (.static yX2_isPart) (by decide +kernel), trivial⟩ ⟨fun a U g mk q => q, fun U hU hW => ⟨rfl, trivial⟩⟩ rfl rfl hl.1 rfl (lv_room (Nat.le_of_ble_eq_true rfl)) dX0_takeCells_51 ⟨Nat.zero_le _, Nat.zero_le _⟩)) (fun r_3 hr_3 => ?_)
    subst hr_3
    refine lv_if_eq (tgt := 86) hx hb dX0_takeCells_54 (by decide) (fun c_4 => ?_) (fun c_4 => ?_)
    · have hP : va_P D vwCl ((ws.set p1 (w, .inl (cJ, nw, .inr (.inl (tc_tk sf f (kPart sp n (nI snw)) (kPart dp n (nI nw)) sp dp n))))).set p2 (r, .inl (cD, nr, .inr (.inr (.inr (.inl (tc_tk sg g (kPart sp n (nI snr)) (kPart dp n (nI nr)) sp dp n))))))) s.heap := by rw [tc_tk1 sg g _ sp dp n c_4, tc_set_same e2a]; exact hP
      have hD : va_D A ((ws.set p1 (w, .inl (cJ, nw, .inr (.inl (tc_tk sf f (kPart sp n (nI snw)) (kPart dp n (nI nw)) sp dp n))))).set p2 (r, .inl (cD, nr, .inr (.inr (.inr (.inl (tc_tk sg g (kPart sp n (nI snr)) (kPart dp n (nI nr)) sp dp n))))))) := by rw [tc_tk1 sg g _ sp dp n c_4, tc_set_same e2a]; exact hD
      exact W.vret hx hb hr (fun t9 ht9 hW9 => ⟨⟨(), rfl, trivial, by rw [ht9]; exact hP, hD⟩, hS.F ht9⟩) hS.2.2 dX0_takeCells_86
    · refine lv_iload_n hx hb dX0_takeCells_57 rfl (lv_at hl 3 rfl) ?_
      refine lv_iload hx hb dX0_takeCells_58 (lv_at hl 4 rfl) ?_
      refine lv_aload_n hx hb dX0_takeCells_60 rfl (lv_at hl 0 rfl) ?_
      refine va_get (D := D) (ci := 0) (fs := [.int k, .int len, .ref w, .ref r]) (v := .ref r) (C := RX0) (T := TX0) (N := 4) hx hb hts (by decide +kernel) hown hK hP p0 e0a rfl 3 (by decide) (hts (.fieldLink RX0 32 "TypedColumns$Column" "reals" "[D") (by decide +kernel)) (fun _ h9 => h9) rfl dX0_takeCells_61 ?_
      refine va_alen (v := (nI nr)) hx hb hK hP p2 2 e2a rfl rfl dX0_takeCells_64 ?_
      refine vp_callSi (tc_CR (va_runSN (As := [.int dp, .int n, .int (nI nr)]) (rest := []) ⟨hx, hb, hml, hown, hts⟩ (kX2_isPart l dp n (nI nr)) ⟨va_cnB 3 hts gX0_takeCells_X2_isPart_n52 rfl rfl rfl (hE.2.2.2.2.2.2.2.1) (hts (.initialized RX2) (by decide +kernel)) (by decide +kernel) ⟨Nat.le_of_ble_eq_true rfl, Nat.le_of_ble_eq_true rfl⟩, hts (.static yX2_isPart) (by decide +kernel), trivial⟩ ⟨fun a U g mk q => q, fun U hU hW => ⟨rfl, trivial⟩⟩ rfl rfl hl.1 rfl (lv_room (Nat.le_of_ble_eq_true rfl)) dX0_takeCells_65 ⟨Nat.zero_le _, Nat.zero_le _⟩)) (fun r_5 hr_5 => ?_)
      subst hr_5
      refine lv_if_eq (tgt := 86) hx hb dX0_takeCells_68 (by decide) (fun c_6 => ?_) (fun c_6 => ?_)
      · have hP : va_P D vwCl ((ws.set p1 (w, .inl (cJ, nw, .inr (.inl (tc_tk sf f (kPart sp n (nI snw)) (kPart dp n (nI nw)) sp dp n))))).set p2 (r, .inl (cD, nr, .inr (.inr (.inr (.inl (tc_tk sg g (kPart sp n (nI snr)) (kPart dp n (nI nr)) sp dp n))))))) s.heap := by rw [tc_tk2 sg g _ sp dp n c_6, tc_set_same e2a]; exact hP
        have hD : va_D A ((ws.set p1 (w, .inl (cJ, nw, .inr (.inl (tc_tk sf f (kPart sp n (nI snw)) (kPart dp n (nI nw)) sp dp n))))).set p2 (r, .inl (cD, nr, .inr (.inr (.inr (.inl (tc_tk sg g (kPart sp n (nI snr)) (kPart dp n (nI nr)) sp dp n))))))) := by rw [tc_tk2 sg g _ sp dp n c_6, tc_set_same e2a]; exact hD
        exact W.vret hx hb hr (fun t9 ht9 hW9 => ⟨⟨(), rfl, trivial, by rw [ht9]; exact hP, hD⟩, hS.F ht9⟩) hS.2.2 dX0_takeCells_86
      · refine lv_aload_n hx hb dX0_takeCells_71 rfl (lv_at hl 1 rfl) ?_
        refine va_get (D := D) (ci := 0) (fs := [.int sk, .int slen, .ref sw, .ref sr]) (v := .ref sr) (C := RX0) (T := TX0) (N := 4) hx hb hts (by decide +kernel) hown hK hP u0 d0a rfl 3 (by decide) (hts (.fieldLink RX0 32 "TypedColumns$Column" "reals" "[D") (by decide +kernel)) (fun _ h9 => h9) rfl dX0_takeCells_72 ?_
        refine lv_iload_n hx hb dX0_takeCells_75 rfl (lv_at hl 2 rfl) ?_
        refine lv_aload_n hx hb dX0_takeCells_76 rfl (lv_at hl 0 rfl) ?_
        refine va_get (D := D) (ci := 0) (fs := [.int k, .int len, .ref w, .ref r]) (v := .ref r) (C := RX0) (T := TX0) (N := 4) hx hb hts (by decide +kernel) hown hK hP p0 e0a rfl 3 (by decide) (hts (.fieldLink RX0 32 "TypedColumns$Column" "reals" "[D") (by decide +kernel)) (fun _ h9 => h9) rfl dX0_takeCells_77 ?_
        refine lv_iload_n hx hb dX0_takeCells_80 rfl (lv_at hl 3 rfl) ?_
        refine lv_iload hx hb dX0_takeCells_81 (lv_at hl 4 rfl) ?_
        have q1 := kPart_spec ((tb_1 _).mp c_4) hm.2
        have q2 := kPart_spec ((tb_1 _).mp c_6) hn.2
        refine va_copyd (f := sg) (g := g) hx hb (hml.trans hl.1.symm) hown (hts (.methodLink RX0 56 arraycopyName) (by decide +kernel)) (hts (.native arraycopyName) (by decide +kernel)) (hts (.static arraycopyName) (by decide +kernel)) (hts (.initialized "java/lang/System") (by decide +kernel)) hK hP hD hS u2 p2 2 2 d2a e2a rfl rfl rfl q1.1 q2.1 q1.2.1 q1.2.2 q2.2.2 (fun _ _ => rfl) (Nat.le_of_ble_eq_true rfl) (Nat.le_of_ble_eq_true rfl) dX0_takeCells_83 (fun H locs hP hD hS => ?_)
        rw [← tc_tk3 sg g sp dp n c_4 c_6] at hP hD
        exact W.vret hx hb hr (fun t9 ht9 hW9 => ⟨⟨(), rfl, trivial, by rw [ht9]; exact hP, hD⟩, hS.F ht9⟩) hS.2.2 dX0_takeCells_86
  · refine lv_iload_n hx hb dX0_takeCells_14 rfl (lv_at hl 3 rfl) ?_
    refine lv_iload hx hb dX0_takeCells_15 (lv_at hl 4 rfl) ?_
    refine lv_aload_n hx hb dX0_takeCells_17 rfl (lv_at hl 0 rfl) ?_
    refine va_get (D := D) (ci := 0) (fs := [.int k, .int len, .ref w, .ref r]) (v := .ref w) (C := RX0) (T := TX0) (N := 4) hx hb hts (by decide +kernel) hown hK hP p0 e0 rfl 2 (by decide) (hts (.fieldLink RX0 28 "TypedColumns$Column" "wholes" "[J") (by decide +kernel)) (fun _ h9 => h9) rfl dX0_takeCells_18 ?_
    refine va_alen (v := (nI nw)) hx hb hK hP p1 1 e1 rfl rfl dX0_takeCells_21 ?_
    refine vp_callSi (tc_CR (va_runSN (As := [.int dp, .int n, .int (nI nw)]) (rest := []) ⟨hx, hb, hml, hown, hts⟩ (kX2_isPart l dp n (nI nw)) ⟨va_cnB 3 hts gX0_takeCells_X2_isPart_n52 rfl rfl rfl (hE.2.2.2.2.2.2.2.1) (hts (.initialized RX2) (by decide +kernel)) (by decide +kernel) ⟨Nat.le_of_ble_eq_true rfl, Nat.le_of_ble_eq_true rfl⟩, hts (.static yX2_isPart) (by decide +kernel), trivial⟩ ⟨fun a U g mk q => q, fun U hU hW => ⟨rfl, trivial⟩⟩ rfl rfl hl.1 rfl (lv_room (Nat.le_of_ble_eq_true rfl)) dX0_takeCells_22 ⟨Nat.zero_le _, Nat.zero_le _⟩)) (fun r_7 hr_7 => ?_)
    subst hr_7
    refine lv_if_eq (tgt := 43) hx hb dX0_takeCells_25 (by decide) (fun c_8 => ?_) (fun c_8 => ?_)
    · have hP : va_P D vwCl (ws.set p1 (w, .inl (cJ, nw, .inr (.inl (tc_tk sf f (kPart sp n (nI snw)) (kPart dp n (nI nw)) sp dp n))))) s.heap := by rw [tc_tk2 sf f _ sp dp n c_8, tc_set_same e1]; exact hP
      have hD : va_D A (ws.set p1 (w, .inl (cJ, nw, .inr (.inl (tc_tk sf f (kPart sp n (nI snw)) (kPart dp n (nI nw)) sp dp n))))) := by rw [tc_tk2 sf f _ sp dp n c_8, tc_set_same e1]; exact hD
      have e0a := tc_set_ne (y := (w, .inl (cJ, nw, .inr (.inl (tc_tk sf f (kPart sp n (nI snw)) (kPart dp n (nI nw)) sp dp n))))) e0 hne.1
      have e2a := tc_set_ne (y := (w, .inl (cJ, nw, .inr (.inl (tc_tk sf f (kPart sp n (nI snw)) (kPart dp n (nI nw)) sp dp n))))) e2 hne.2.1
      have d0a := tc_set_ne (y := (w, .inl (cJ, nw, .inr (.inl (tc_tk sf f (kPart sp n (nI snw)) (kPart dp n (nI nw)) sp dp n))))) d0 hne.2.2.1
      have d2a := tc_set_ne (y := (w, .inl (cJ, nw, .inr (.inl (tc_tk sf f (kPart sp n (nI snw)) (kPart dp n (nI nw)) sp dp n))))) d2 hne.2.2.2
      refine lv_iload_n hx hb dX0_takeCells_43 rfl (lv_at hl 2 rfl) ?_
      refine lv_iload hx hb dX0_takeCells_44 (lv_at hl 4 rfl) ?_
      refine lv_aload_n hx hb dX0_takeCells_46 rfl (lv_at hl 1 rfl) ?_
      refine va_get (D := D) (ci := 0) (fs := [.int sk, .int slen, .ref sw, .ref sr]) (v := .ref sr) (C := RX0) (T := TX0) (N := 4) hx hb hts (by decide +kernel) hown hK hP u0 d0a rfl 3 (by decide) (hts (.fieldLink RX0 32 "TypedColumns$Column" "reals" "[D") (by decide +kernel)) (fun _ h9 => h9) rfl dX0_takeCells_47 ?_
      refine va_alen (v := (nI snr)) hx hb hK hP u2 2 d2a rfl rfl dX0_takeCells_50 ?_
      refine vp_callSi (tc_CR (va_runSN (As := [.int sp, .int n, .int (nI snr)]) (rest := []) ⟨hx, hb, hml, hown, hts⟩ (kX2_isPart l sp n (nI snr)) ⟨va_cnB 3 hts gX0_takeCells_X2_isPart_n52 rfl rfl rfl (hE.2.2.2.2.2.2.2.1) (hts (.initialized RX2) (by decide +kernel)) (by decide +kernel) ⟨Nat.le_of_ble_eq_true rfl, Nat.le_of_ble_eq_true rfl⟩, hts (.static yX2_isPart) (by decide +kernel), trivial⟩ ⟨fun a U g mk q => q, fun U hU hW => ⟨rfl, trivial⟩⟩ rfl rfl hl.1 rfl (lv_room (Nat.le_of_ble_eq_true rfl)) dX0_takeCells_51 ⟨Nat.zero_le _, Nat.zero_le _⟩)) (fun r_9 hr_9 => ?_)
      subst hr_9
      refine lv_if_eq (tgt := 86) hx hb dX0_takeCells_54 (by decide) (fun c_10 => ?_) (fun c_10 => ?_)
      · have hP : va_P D vwCl ((ws.set p1 (w, .inl (cJ, nw, .inr (.inl (tc_tk sf f (kPart sp n (nI snw)) (kPart dp n (nI nw)) sp dp n))))).set p2 (r, .inl (cD, nr, .inr (.inr (.inr (.inl (tc_tk sg g (kPart sp n (nI snr)) (kPart dp n (nI nr)) sp dp n))))))) s.heap := by rw [tc_tk1 sg g _ sp dp n c_10, tc_set_same e2a]; exact hP
        have hD : va_D A ((ws.set p1 (w, .inl (cJ, nw, .inr (.inl (tc_tk sf f (kPart sp n (nI snw)) (kPart dp n (nI nw)) sp dp n))))).set p2 (r, .inl (cD, nr, .inr (.inr (.inr (.inl (tc_tk sg g (kPart sp n (nI snr)) (kPart dp n (nI nr)) sp dp n))))))) := by rw [tc_tk1 sg g _ sp dp n c_10, tc_set_same e2a]; exact hD
        exact W.vret hx hb hr (fun t9 ht9 hW9 => ⟨⟨(), rfl, trivial, by rw [ht9]; exact hP, hD⟩, hS.F ht9⟩) hS.2.2 dX0_takeCells_86
      · refine lv_iload_n hx hb dX0_takeCells_57 rfl (lv_at hl 3 rfl) ?_
        refine lv_iload hx hb dX0_takeCells_58 (lv_at hl 4 rfl) ?_
        refine lv_aload_n hx hb dX0_takeCells_60 rfl (lv_at hl 0 rfl) ?_
        refine va_get (D := D) (ci := 0) (fs := [.int k, .int len, .ref w, .ref r]) (v := .ref r) (C := RX0) (T := TX0) (N := 4) hx hb hts (by decide +kernel) hown hK hP p0 e0a rfl 3 (by decide) (hts (.fieldLink RX0 32 "TypedColumns$Column" "reals" "[D") (by decide +kernel)) (fun _ h9 => h9) rfl dX0_takeCells_61 ?_
        refine va_alen (v := (nI nr)) hx hb hK hP p2 2 e2a rfl rfl dX0_takeCells_64 ?_
        refine vp_callSi (tc_CR (va_runSN (As := [.int dp, .int n, .int (nI nr)]) (rest := []) ⟨hx, hb, hml, hown, hts⟩ (kX2_isPart l dp n (nI nr)) ⟨va_cnB 3 hts gX0_takeCells_X2_isPart_n52 rfl rfl rfl (hE.2.2.2.2.2.2.2.1) (hts (.initialized RX2) (by decide +kernel)) (by decide +kernel) ⟨Nat.le_of_ble_eq_true rfl, Nat.le_of_ble_eq_true rfl⟩, hts (.static yX2_isPart) (by decide +kernel), trivial⟩ ⟨fun a U g mk q => q, fun U hU hW => ⟨rfl, trivial⟩⟩ rfl rfl hl.1 rfl (lv_room (Nat.le_of_ble_eq_true rfl)) dX0_takeCells_65 ⟨Nat.zero_le _, Nat.zero_le _⟩)) (fun r_11 hr_11 => ?_)
        subst hr_11
        refine lv_if_eq (tgt := 86) hx hb dX0_takeCells_68 (by decide) (fun c_12 => ?_) (fun c_12 => ?_)
        · have hP : va_P D vwCl ((ws.set p1 (w, .inl (cJ, nw, .inr (.inl (tc_tk sf f (kPart sp n (nI snw)) (kPart dp n (nI nw)) sp dp n))))).set p2 (r, .inl (cD, nr, .inr (.inr (.inr (.inl (tc_tk sg g (kPart sp n (nI snr)) (kPart dp n (nI nr)) sp dp n))))))) s.heap := by rw [tc_tk2 sg g _ sp dp n c_12, tc_set_same e2a]; exact hP
          have hD : va_D A ((ws.set p1 (w, .inl (cJ, nw, .inr (.inl (tc_tk sf f (kPart sp n (nI snw)) (kPart dp n (nI nw)) sp dp n))))).set p2 (r, .inl (cD, nr, .inr (.inr (.inr (.inl (tc_tk sg g (kPart sp n (nI snr)) (kPart dp n (nI nr)) sp dp n))))))) := by rw [tc_tk2 sg g _ sp dp n c_12, tc_set_same e2a]; exact hD
          exact W.vret hx hb hr (fun t9 ht9 hW9 => ⟨⟨(), rfl, trivial, by rw [ht9]; exact hP, hD⟩, hS.F ht9⟩) hS.2.2 dX0_takeCells_86
        · refine lv_aload_n hx hb dX0_takeCells_71 rfl (lv_at hl 1 rfl) ?_
          refine va_get (D := D) (ci := 0) (fs := [.int sk, .int slen, .ref sw, .ref sr]) (v := .ref sr) (C := RX0) (T := TX0) (N := 4) hx hb hts (by decide +kernel) hown hK hP u0 d0a rfl 3 (by decide) (hts (.fieldLink RX0 32 "TypedColumns$Column" "reals" "[D") (by decide +kernel)) (fun _ h9 => h9) rfl dX0_takeCells_72 ?_
          refine lv_iload_n hx hb dX0_takeCells_75 rfl (lv_at hl 2 rfl) ?_
          refine lv_aload_n hx hb dX0_takeCells_76 rfl (lv_at hl 0 rfl) ?_
          refine va_get (D := D) (ci := 0) (fs := [.int k, .int len, .ref w, .ref r]) (v := .ref r) (C := RX0) (T := TX0) (N := 4) hx hb hts (by decide +kernel) hown hK hP p0 e0a rfl 3 (by decide) (hts (.fieldLink RX0 32 "TypedColumns$Column" "reals" "[D") (by decide +kernel)) (fun _ h9 => h9) rfl dX0_takeCells_77 ?_
          refine lv_iload_n hx hb dX0_takeCells_80 rfl (lv_at hl 3 rfl) ?_
          refine lv_iload hx hb dX0_takeCells_81 (lv_at hl 4 rfl) ?_
          have q1 := kPart_spec ((tb_1 _).mp c_10) hm.2
          have q2 := kPart_spec ((tb_1 _).mp c_12) hn.2
          refine va_copyd (f := sg) (g := g) hx hb (hml.trans hl.1.symm) hown (hts (.methodLink RX0 56 arraycopyName) (by decide +kernel)) (hts (.native arraycopyName) (by decide +kernel)) (hts (.static arraycopyName) (by decide +kernel)) (hts (.initialized "java/lang/System") (by decide +kernel)) hK hP hD hS u2 p2 2 2 d2a e2a rfl rfl rfl q1.1 q2.1 q1.2.1 q1.2.2 q2.2.2 (fun _ _ => rfl) (Nat.le_of_ble_eq_true rfl) (Nat.le_of_ble_eq_true rfl) dX0_takeCells_83 (fun H locs hP hD hS => ?_)
          rw [← tc_tk3 sg g sp dp n c_10 c_12] at hP hD
          exact W.vret hx hb hr (fun t9 ht9 hW9 => ⟨⟨(), rfl, trivial, by rw [ht9]; exact hP, hD⟩, hS.F ht9⟩) hS.2.2 dX0_takeCells_86
    · refine lv_aload_n hx hb dX0_takeCells_28 rfl (lv_at hl 1 rfl) ?_
      refine va_get (D := D) (ci := 0) (fs := [.int sk, .int slen, .ref sw, .ref sr]) (v := .ref sw) (C := RX0) (T := TX0) (N := 4) hx hb hts (by decide +kernel) hown hK hP u0 d0 rfl 2 (by decide) (hts (.fieldLink RX0 28 "TypedColumns$Column" "wholes" "[J") (by decide +kernel)) (fun _ h9 => h9) rfl dX0_takeCells_29 ?_
      refine lv_iload_n hx hb dX0_takeCells_32 rfl (lv_at hl 2 rfl) ?_
      refine lv_aload_n hx hb dX0_takeCells_33 rfl (lv_at hl 0 rfl) ?_
      refine va_get (D := D) (ci := 0) (fs := [.int k, .int len, .ref w, .ref r]) (v := .ref w) (C := RX0) (T := TX0) (N := 4) hx hb hts (by decide +kernel) hown hK hP p0 e0 rfl 2 (by decide) (hts (.fieldLink RX0 28 "TypedColumns$Column" "wholes" "[J") (by decide +kernel)) (fun _ h9 => h9) rfl dX0_takeCells_34 ?_
      refine lv_iload_n hx hb dX0_takeCells_37 rfl (lv_at hl 3 rfl) ?_
      refine lv_iload hx hb dX0_takeCells_38 (lv_at hl 4 rfl) ?_
      have q1 := kPart_spec ((tb_1 _).mp c_2) hm.1
      have q2 := kPart_spec ((tb_1 _).mp c_8) hn.1
      refine va_copyl (f := sf) (g := f) hx hb (hml.trans hl.1.symm) hown (hts (.methodLink RX0 56 arraycopyName) (by decide +kernel)) (hts (.native arraycopyName) (by decide +kernel)) (hts (.static arraycopyName) (by decide +kernel)) (hts (.initialized "java/lang/System") (by decide +kernel)) hK hP hD hS u1 p1 1 1 d1 e1 rfl rfl rfl q1.1 q2.1 q1.2.1 q1.2.2 q2.2.2 (fun _ _ => rfl) (Nat.le_of_ble_eq_true rfl) (Nat.le_of_ble_eq_true rfl) dX0_takeCells_40 (fun H locs hP hD hS => ?_)
      rw [← tc_tk3 sf f sp dp n c_2 c_8] at hP hD
      have e0a := tc_set_ne (y := (w, .inl (cJ, nw, .inr (.inl (tc_tk sf f (kPart sp n (nI snw)) (kPart dp n (nI nw)) sp dp n))))) e0 hne.1
      have e2a := tc_set_ne (y := (w, .inl (cJ, nw, .inr (.inl (tc_tk sf f (kPart sp n (nI snw)) (kPart dp n (nI nw)) sp dp n))))) e2 hne.2.1
      have d0a := tc_set_ne (y := (w, .inl (cJ, nw, .inr (.inl (tc_tk sf f (kPart sp n (nI snw)) (kPart dp n (nI nw)) sp dp n))))) d0 hne.2.2.1
      have d2a := tc_set_ne (y := (w, .inl (cJ, nw, .inr (.inl (tc_tk sf f (kPart sp n (nI snw)) (kPart dp n (nI nw)) sp dp n))))) d2 hne.2.2.2
      refine lv_iload_n hx hb dX0_takeCells_43 rfl (lv_at hl 2 rfl) ?_
      refine lv_iload hx hb dX0_takeCells_44 (lv_at hl 4 rfl) ?_
      refine lv_aload_n hx hb dX0_takeCells_46 rfl (lv_at hl 1 rfl) ?_
      refine va_get (D := D) (ci := 0) (fs := [.int sk, .int slen, .ref sw, .ref sr]) (v := .ref sr) (C := RX0) (T := TX0) (N := 4) hx hb hts (by decide +kernel) hown hK hP u0 d0a rfl 3 (by decide) (hts (.fieldLink RX0 32 "TypedColumns$Column" "reals" "[D") (by decide +kernel)) (fun _ h9 => h9) rfl dX0_takeCells_47 ?_
      refine va_alen (v := (nI snr)) hx hb hK hP u2 2 d2a rfl rfl dX0_takeCells_50 ?_
      refine vp_callSi (tc_CR (va_runSN (As := [.int sp, .int n, .int (nI snr)]) (rest := []) ⟨hx, hb, hml, hown, hts⟩ (kX2_isPart l sp n (nI snr)) ⟨va_cnB 3 hts gX0_takeCells_X2_isPart_n52 rfl rfl rfl (hE.2.2.2.2.2.2.2.1) (hts (.initialized RX2) (by decide +kernel)) (by decide +kernel) ⟨Nat.le_of_ble_eq_true rfl, Nat.le_of_ble_eq_true rfl⟩, hts (.static yX2_isPart) (by decide +kernel), trivial⟩ ⟨fun a U g mk q => q, fun U hU hW => ⟨rfl, trivial⟩⟩ rfl rfl hl.1 rfl (lv_room (Nat.le_of_ble_eq_true rfl)) dX0_takeCells_51 ⟨Nat.zero_le _, Nat.zero_le _⟩)) (fun r_13 hr_13 => ?_)
      subst hr_13
      refine lv_if_eq (tgt := 86) hx hb dX0_takeCells_54 (by decide) (fun c_14 => ?_) (fun c_14 => ?_)
      · have hP : va_P D vwCl ((ws.set p1 (w, .inl (cJ, nw, .inr (.inl (tc_tk sf f (kPart sp n (nI snw)) (kPart dp n (nI nw)) sp dp n))))).set p2 (r, .inl (cD, nr, .inr (.inr (.inr (.inl (tc_tk sg g (kPart sp n (nI snr)) (kPart dp n (nI nr)) sp dp n))))))) H := by rw [tc_tk1 sg g _ sp dp n c_14, tc_set_same e2a]; exact hP
        have hD : va_D A ((ws.set p1 (w, .inl (cJ, nw, .inr (.inl (tc_tk sf f (kPart sp n (nI snw)) (kPart dp n (nI nw)) sp dp n))))).set p2 (r, .inl (cD, nr, .inr (.inr (.inr (.inl (tc_tk sg g (kPart sp n (nI snr)) (kPart dp n (nI nr)) sp dp n))))))) := by rw [tc_tk1 sg g _ sp dp n c_14, tc_set_same e2a]; exact hD
        exact W.vret hx hb hr (fun t9 ht9 hW9 => ⟨⟨(), rfl, trivial, by rw [ht9]; exact hP, hD⟩, hS.F ht9⟩) hS.2.2 dX0_takeCells_86
      · refine lv_iload_n hx hb dX0_takeCells_57 rfl (lv_at hl 3 rfl) ?_
        refine lv_iload hx hb dX0_takeCells_58 (lv_at hl 4 rfl) ?_
        refine lv_aload_n hx hb dX0_takeCells_60 rfl (lv_at hl 0 rfl) ?_
        refine va_get (D := D) (ci := 0) (fs := [.int k, .int len, .ref w, .ref r]) (v := .ref r) (C := RX0) (T := TX0) (N := 4) hx hb hts (by decide +kernel) hown hK hP p0 e0a rfl 3 (by decide) (hts (.fieldLink RX0 32 "TypedColumns$Column" "reals" "[D") (by decide +kernel)) (fun _ h9 => h9) rfl dX0_takeCells_61 ?_
        refine va_alen (v := (nI nr)) hx hb hK hP p2 2 e2a rfl rfl dX0_takeCells_64 ?_
        refine vp_callSi (tc_CR (va_runSN (As := [.int dp, .int n, .int (nI nr)]) (rest := []) ⟨hx, hb, hml, hown, hts⟩ (kX2_isPart l dp n (nI nr)) ⟨va_cnB 3 hts gX0_takeCells_X2_isPart_n52 rfl rfl rfl (hE.2.2.2.2.2.2.2.1) (hts (.initialized RX2) (by decide +kernel)) (by decide +kernel) ⟨Nat.le_of_ble_eq_true rfl, Nat.le_of_ble_eq_true rfl⟩, hts (.static yX2_isPart) (by decide +kernel), trivial⟩ ⟨fun a U g mk q => q, fun U hU hW => ⟨rfl, trivial⟩⟩ rfl rfl hl.1 rfl (lv_room (Nat.le_of_ble_eq_true rfl)) dX0_takeCells_65 ⟨Nat.zero_le _, Nat.zero_le _⟩)) (fun r_15 hr_15 => ?_)
        subst hr_15
        refine lv_if_eq (tgt := 86) hx hb dX0_takeCells_68 (by decide) (fun c_16 => ?_) (fun c_16 => ?_)
        · have hP : va_P D vwCl ((ws.set p1 (w, .inl (cJ, nw, .inr (.inl (tc_tk sf f (kPart sp n (nI snw)) (kPart dp n (nI nw)) sp dp n))))).set p2 (r, .inl (cD, nr, .inr (.inr (.inr (.inl (tc_tk sg g (kPart sp n (nI snr)) (kPart dp n (nI nr)) sp dp n))))))) H := by rw [tc_tk2 sg g _ sp dp n c_16, tc_set_same e2a]; exact hP
          have hD : va_D A ((ws.set p1 (w, .inl (cJ, nw, .inr (.inl (tc_tk sf f (kPart sp n (nI snw)) (kPart dp n (nI nw)) sp dp n))))).set p2 (r, .inl (cD, nr, .inr (.inr (.inr (.inl (tc_tk sg g (kPart sp n (nI snr)) (kPart dp n (nI nr)) sp dp n))))))) := by rw [tc_tk2 sg g _ sp dp n c_16, tc_set_same e2a]; exact hD
          exact W.vret hx hb hr (fun t9 ht9 hW9 => ⟨⟨(), rfl, trivial, by rw [ht9]; exact hP, hD⟩, hS.F ht9⟩) hS.2.2 dX0_takeCells_86
        · refine lv_aload_n hx hb dX0_takeCells_71 rfl (lv_at hl 1 rfl) ?_
          refine va_get (D := D) (ci := 0) (fs := [.int sk, .int slen, .ref sw, .ref sr]) (v := .ref sr) (C := RX0) (T := TX0) (N := 4) hx hb hts (by decide +kernel) hown hK hP u0 d0a rfl 3 (by decide) (hts (.fieldLink RX0 32 "TypedColumns$Column" "reals" "[D") (by decide +kernel)) (fun _ h9 => h9) rfl dX0_takeCells_72 ?_
          refine lv_iload_n hx hb dX0_takeCells_75 rfl (lv_at hl 2 rfl) ?_
          refine lv_aload_n hx hb dX0_takeCells_76 rfl (lv_at hl 0 rfl) ?_
          refine va_get (D := D) (ci := 0) (fs := [.int k, .int len, .ref w, .ref r]) (v := .ref r) (C := RX0) (T := TX0) (N := 4) hx hb hts (by decide +kernel) hown hK hP p0 e0a rfl 3 (by decide) (hts (.fieldLink RX0 32 "TypedColumns$Column" "reals" "[D") (by decide +kernel)) (fun _ h9 => h9) rfl dX0_takeCells_77 ?_
          refine lv_iload_n hx hb dX0_takeCells_80 rfl (lv_at hl 3 rfl) ?_
          refine lv_iload hx hb dX0_takeCells_81 (lv_at hl 4 rfl) ?_
          have q1 := kPart_spec ((tb_1 _).mp c_14) hm.2
          have q2 := kPart_spec ((tb_1 _).mp c_16) hn.2
          refine va_copyd (f := sg) (g := g) hx hb (hml.trans hl.1.symm) hown (hts (.methodLink RX0 56 arraycopyName) (by decide +kernel)) (hts (.native arraycopyName) (by decide +kernel)) (hts (.static arraycopyName) (by decide +kernel)) (hts (.initialized "java/lang/System") (by decide +kernel)) hK hP hD hS u2 p2 2 2 d2a e2a rfl rfl rfl q1.1 q2.1 q1.2.1 q1.2.2 q2.2.2 (fun _ _ => rfl) (Nat.le_of_ble_eq_true rfl) (Nat.le_of_ble_eq_true rfl) dX0_takeCells_83 (fun H locs hP hD hS => ?_)
          rw [← tc_tk3 sg g sp dp n c_14 c_16] at hP hD
          exact W.vret hx hb hr (fun t9 ht9 hW9 => ⟨⟨(), rfl, trivial, by rw [ht9]; exact hP, hD⟩, hS.F ht9⟩) hS.2.2 dX0_takeCells_86
set_option maxHeartbeats 4000000 in
set_option maxRecDepth 100000 in
theorem oX0_takeWidened_rr (l : Launch) (D : va_G) (A : Nat → Prop) (cI cJ cD cC : ClassId) (ws : va_W) (p0 p1 p2 : Nat) (a w r : Nat) (k len : Int32) (nw nr : Nat) (f : Nat → Int64) (g : Nat → UInt64) (sz : Nat) (e0 : ws[p0]? = some (a, .inr (0, [.int k, .int len, .ref w, .ref r]))) (e1 : ws[p1]? = some (w, .inl (cJ, nw, .inr (.inl f)))) (e2 : ws[p2]? = some (r, .inl (cD, nr, .inr (.inr (.inr (.inl g)))))) (hn : nw < 2 ^ 31 ∧ nr < 2 ^ 31) (u0 u1 u2 : Nat) (sa sw sr : Nat) (sk slen : Int32) (snw snr : Nat) (sf : Nat → Int64) (sg : Nat → UInt64) (d0 : ws[u0]? = some (sa, .inr (0, [.int sk, .int slen, .ref sw, .ref sr]))) (d1 : ws[u1]? = some (sw, .inl (cJ, snw, .inr (.inl sf)))) (d2 : ws[u2]? = some (sr, .inl (cD, snr, .inr (.inr (.inr (.inl sg)))))) (hm : snw < 2 ^ 31 ∧ snr < 2 ^ 31) (hne : (p1 ≠ p0 ∧ p1 ≠ p2 ∧ p1 ≠ u0 ∧ p1 ≠ u1 ∧ p1 ≠ u2) ∧ (p2 ≠ p0 ∧ p2 ≠ p1 ∧ p2 ≠ u0 ∧ p2 ≠ u1 ∧ p2 ≠ u2)) (N : Nat) (hN : N < 2 ^ 31) (hlen : slen = nI N) (hsk : kFl sk = true) (hr1 : N ≤ nr) (hr2 : N ≤ snr) : Met l yX0_takeWidened wsX0_takeWidened ({ frames := 1, cells := 0, slots := 0, locals := 23 }) (tcP D A (tcTY cI cJ cD cC) sz [.ref a, .ref sa] ws) (va_Qv (fun _ : Unit => True) (fun _ t => tcB D A (ws.set p2 (r, .inl (cD, nr, .inr (.inr (.inr (.inl (tc_mix sg g N))))))) t) A) 0 0 A := by
  refine Met.ofW (cc := cX0_takeWidened) (maxL := 3) (ret := none) (by decide) rfl ?_
  intro p e s m args below meth c s₁ B hml hv
  obtain ⟨rfl, hsz, hP, hK, hD, hE⟩ := hv
  have hx := B.exec
  have hb := B.bytes
  have hr := B.returns
  have hts := atoms_spec (ws := wsX0_takeWidened) B.pre
  have hown : s.vm.findClass RX0 = some m.cls := findClass_of_methodNamed B.named
  have hlocks := B.notSynchronized
  have hl := lv_entry ([.ref a, .ref sa]) (n := 3) (Nat.le_of_ble_eq_true rfl)
  rw [lg_entry_eq]
  generalize (lg_sl ([.ref a, .ref sa]) ++ List.replicate (3 - (lg_sl ([.ref a, .ref sa])).length) Slot.unset).toArray = ls at hl ⊢
  have hl : lv_has ls 3 [(0, .ref a), (1, .ref sa)] := hl
  subst hsz
  have hS : va_S A s.heap s.heap [] := va_S.rf
  refine lv_iconst (v := 0) hx hb dX0_takeWidened_0 (by decide) ?_
  refine lv_istore_n (lv' := [(2, .int 0), (0, .ref a), (1, .ref sa)]) hx hb dX0_takeWidened_1 rfl hl (by decide) rfl (fun ls hl => ?_)
  refine tc_loop (fun k9 H locs ls => ∃ i : Nat, i + k9 = N ∧ va_P D vwCl (ws.set p2 (r, .inl (cD, nr, .inr (.inr (.inr (.inl (tc_mix sg g i))))))) H ∧ va_D A (ws.set p2 (r, .inl (cD, nr, .inr (.inr (.inr (.inl (tc_mix sg g i))))))) ∧ va_S A s.heap H locs ∧ lv_has ls 3 [(2, .int (nI i)), (0, .ref a), (1, .ref sa)]) (fun k9 H locs ls hi9 ih => ?_) (fun H locs ls hi9 => ?_) N ⟨0, by omega, by rw [tc_mix_0, tc_set_same e2]; exact hP, by rw [tc_mix_0, tc_set_same e2]; exact hD, hS, hl⟩
  · obtain ⟨i, hik, hP, hD, hS, hl⟩ := hi9
    have hiN : i < N := by omega
    have e0a := tc_set_ne (y := (r, .inl (cD, nr, .inr (.inr (.inr (.inl (tc_mix sg g i))))))) e0 (hne.2.1)
    have d0a := tc_set_ne (y := (r, .inl (cD, nr, .inr (.inr (.inr (.inl (tc_mix sg g i))))))) d0 (hne.2.2.2.1)
    have d1a := tc_set_ne (y := (r, .inl (cD, nr, .inr (.inr (.inr (.inl (tc_mix sg g i))))))) d1 (hne.2.2.2.2.1)
    have d2a := tc_set_ne (y := (r, .inl (cD, nr, .inr (.inr (.inr (.inl (tc_mix sg g i))))))) d2 (hne.2.2.2.2.2)
    have eoa := tc_set_ne (y := (r, .inl (cD, nr, .inr (.inr (.inr (.inl (tc_mix sg g i))))))) e1 (hne.2.2.1)
    have eta := tc_set_self (y := (r, .inl (cD, nr, .inr (.inr (.inr (.inl (tc_mix sg g i))))))) e2
    refine lv_iload_n hx hb dX0_takeWidened_2 rfl (lv_at hl 0 rfl) ?_
    refine lv_aload_n hx hb dX0_takeWidened_3 rfl (lv_at hl 2 rfl) ?_
    refine va_get (D := D) (ci := 0) (fs := [.int sk, .int slen, .ref sw, .ref sr]) (v := .int slen) (C := RX0) (T := TX0) (N := 4) hx hb hts (by decide +kernel) hown hK hP u0 d0a rfl 1 (by decide) (hts (.fieldLink RX0 22 "TypedColumns$Column" "length" "I") (by decide +kernel)) (fun _ h9 => h9) rfl dX0_takeWidened_4 ?_
    refine lv_icmp_ge (tgt := 49) hx hb dX0_takeWidened_7 (by decide) (fun q => absurd q (by rw [hlen]; exact nI_ge hiN (by omega))) (fun _ => ?_)
    refine lv_aload_n hx hb dX0_takeWidened_10 rfl (lv_at hl 2 rfl) ?_
    refine va_get (D := D) (ci := 0) (fs := [.int sk, .int slen, .ref sw, .ref sr]) (v := .int sk) (C := RX0) (T := TX0) (N := 4) hx hb hts (by decide +kernel) hown hK hP u0 d0a rfl 0 (by decide) (hts (.fieldLink RX0 16 "TypedColumns$Column" "kind" "I") (by decide +kernel)) (fun _ h9 => h9) rfl dX0_takeWidened_11 ?_
    refine vp_callSi (tc_CR (va_runSN (As := [.int sk]) (rest := []) ⟨hx, hb, hml, hown, hts⟩ (kX2_isFloating l sk) ⟨va_cnB 1 hts gX0_takeWidened_X2_isFloating_n25 rfl rfl rfl (hE.2.2.2.2.2.1) (hts (.initialized RX2) (by decide +kernel)) (by decide +kernel) ⟨Nat.le_of_ble_eq_true rfl, Nat.le_of_ble_eq_true rfl⟩, hts (.static yX2_isFloating) (by decide +kernel), trivial⟩ ⟨fun a U g mk q => q, fun U hU hW => ⟨rfl, trivial⟩⟩ rfl rfl hl.1 rfl (lv_room (Nat.le_of_ble_eq_true rfl)) dX0_takeWidened_14 ⟨Nat.zero_le _, Nat.zero_le _⟩)) (fun r_2 hr_2 => ?_)
    subst hr_2
    refine lv_if_eq (tgt := 33) hx hb dX0_takeWidened_17 (by decide) (fun q => absurd q ((tb_1 _).mpr hsk)) (fun _ => ?_)
    refine lv_aload_n hx hb dX0_takeWidened_20 rfl (lv_at hl 1 rfl) ?_
    refine lv_iload_n hx hb dX0_takeWidened_21 rfl (lv_at hl 0 rfl) ?_
    refine lv_aload_n hx hb dX0_takeWidened_22 rfl (lv_at hl 2 rfl) ?_
    refine lv_iload_n hx hb dX0_takeWidened_23 rfl (lv_at hl 0 rfl) ?_
    refine vp_callSd (tc_CR (va_runV (As := [.int (nI i)]) (rest := [.int (nI i), .ref a]) ⟨hx, hb, hml, hown, hts⟩ (oX0_realAt l D A cI cJ cD cC (ws.set p2 (r, .inl (cD, nr, .inr (.inr (.inr (.inl (tc_mix sg g i))))))) u0 u1 u2 sa sw sr sk slen snw snr sf sg H.size d0a d1a d2a hm (nI i) (vp_in_nI (by omega) hm.2)) (cwV 1 hts gX0_takeWidened_X0_realAt rfl rfl rfl (by decide +kernel) ⟨Nat.le_of_ble_eq_true rfl, Nat.le_of_ble_eq_true rfl⟩) ⟨tcP.blind, (va_recv hK hP (ci := 0) (q0 := u0) rfl d0a), (tcP.go hK hP hD hE hS)⟩ rfl rfl hl.1 rfl (lv_room (Nat.le_of_ble_eq_true rfl)) dX0_takeWidened_24 ⟨Nat.le_of_ble_eq_true rfl, Nat.le_of_ble_eq_true rfl⟩)) (fun r_4 hr_4 => ?_)
    subst hr_4
    rw [nI_clamp (n := i) (by omega)]
    refine va_callv (va_runV (As := [.int (nI i), .double (sg i)]) (rest := []) ⟨hx, hb, hml, hown, hts⟩ (oX0_putReal l D A cI cJ cD cC (ws.set p2 (r, .inl (cD, nr, .inr (.inr (.inr (.inl (tc_mix sg g i))))))) p0 p1 p2 a w r k len nw nr f (tc_mix sg g i) H.size e0a eoa eta hn (nI i) (sg i) (vp_in_nI (by omega) hn.2)) (cwV 2 hts gX0_takeWidened_X0_putReal rfl rfl rfl (by decide +kernel) ⟨Nat.le_of_ble_eq_true rfl, Nat.le_of_ble_eq_true rfl⟩) ⟨tcP.blind, (va_recv hK hP (ci := 0) (q0 := p0) rfl e0a), (tcP.go hK hP hD hE hS)⟩ rfl rfl hl.1 rfl (lv_room (Nat.le_of_ble_eq_true rfl)) dX0_takeWidened_27 ⟨Nat.le_of_ble_eq_true rfl, Nat.le_of_ble_eq_true rfl⟩) hS (fun q _ h => h) (fun q h => h) (fun u t H locs ht hvm hw hB hz1 hk1 hS => ?_)
    obtain ⟨hP, hD⟩ := hB
    rw [ht] at hP
    rw [List.set_set, nI_clamp (n := i) (by omega), show vf_upd (tc_mix sg g i) i _ = tc_mix sg g (i + 1) from tc_mix_s sg g i] at hP hD
    refine lv_goto (tgt := 43) hx hb dX0_takeWidened_30 (by decide) ?_
    obtain ⟨x_6, ex_6⟩ : ∃ y : Int32, y = (nI i) + (1) := ⟨_, rfl⟩
    refine lv_iinc (v := x_6) (lv' := [(2, .int x_6), (0, .ref a), (1, .ref sa)]) hx hb dX0_takeWidened_43 hl (k := 0) rfl (by rw [ex_6]; rfl) (by decide) rfl (fun ls hl => ?_)
    refine lv_goto (tgt := 2) hx hb dX0_takeWidened_46 (by decide) ?_
    subst ex_6
    exact ih _ _ _ ⟨i + 1, by omega, hP, hD, hS, by rw [nI_succ]; exact lv_sub hl [0, 1, 2] rfl⟩
  · obtain ⟨i, hik, hP, hD, hS, hl⟩ := hi9
    have hiN : i = N := by omega
    subst hiN
    have e0a := tc_set_ne (y := (r, .inl (cD, nr, .inr (.inr (.inr (.inl (tc_mix sg g i))))))) e0 (hne.2.1)
    have d0a := tc_set_ne (y := (r, .inl (cD, nr, .inr (.inr (.inr (.inl (tc_mix sg g i))))))) d0 (hne.2.2.2.1)
    have d1a := tc_set_ne (y := (r, .inl (cD, nr, .inr (.inr (.inr (.inl (tc_mix sg g i))))))) d1 (hne.2.2.2.2.1)
    have d2a := tc_set_ne (y := (r, .inl (cD, nr, .inr (.inr (.inr (.inl (tc_mix sg g i))))))) d2 (hne.2.2.2.2.2)
    have eoa := tc_set_ne (y := (r, .inl (cD, nr, .inr (.inr (.inr (.inl (tc_mix sg g i))))))) e1 (hne.2.2.1)
    have eta := tc_set_self (y := (r, .inl (cD, nr, .inr (.inr (.inr (.inl (tc_mix sg g i))))))) e2
    refine lv_iload_n hx hb dX0_takeWidened_2 rfl (lv_at hl 0 rfl) ?_
    refine lv_aload_n hx hb dX0_takeWidened_3 rfl (lv_at hl 2 rfl) ?_
    refine va_get (D := D) (ci := 0) (fs := [.int sk, .int slen, .ref sw, .ref sr]) (v := .int slen) (C := RX0) (T := TX0) (N := 4) hx hb hts (by decide +kernel) hown hK hP u0 d0a rfl 1 (by decide) (hts (.fieldLink RX0 22 "TypedColumns$Column" "length" "I") (by decide +kernel)) (fun _ h9 => h9) rfl dX0_takeWidened_4 ?_
    refine lv_icmp_ge (tgt := 49) hx hb dX0_takeWidened_7 (by decide) (fun _ => ?_) (fun q => absurd (by rw [hlen]; exact nI_le (Nat.le_refl _) (by omega)) q)
    exact W.vret hx hb hr (fun t9 ht9 hW9 => ⟨⟨(), rfl, trivial, by rw [ht9]; exact hP, hD⟩, hS.F ht9⟩) hS.2.2 dX0_takeWidened_49
set_option maxHeartbeats 4000000 in
set_option maxRecDepth 100000 in
theorem oX0_takeWidened_ww (l : Launch) (D : va_G) (A : Nat → Prop) (cI cJ cD cC : ClassId) (ws : va_W) (p0 p1 p2 : Nat) (a w r : Nat) (k len : Int32) (nw nr : Nat) (f : Nat → Int64) (g : Nat → UInt64) (sz : Nat) (e0 : ws[p0]? = some (a, .inr (0, [.int k, .int len, .ref w, .ref r]))) (e1 : ws[p1]? = some (w, .inl (cJ, nw, .inr (.inl f)))) (e2 : ws[p2]? = some (r, .inl (cD, nr, .inr (.inr (.inr (.inl g)))))) (hn : nw < 2 ^ 31 ∧ nr < 2 ^ 31) (u0 u1 u2 : Nat) (sa sw sr : Nat) (sk slen : Int32) (snw snr : Nat) (sf : Nat → Int64) (sg : Nat → UInt64) (d0 : ws[u0]? = some (sa, .inr (0, [.int sk, .int slen, .ref sw, .ref sr]))) (d1 : ws[u1]? = some (sw, .inl (cJ, snw, .inr (.inl sf)))) (d2 : ws[u2]? = some (sr, .inl (cD, snr, .inr (.inr (.inr (.inl sg)))))) (hm : snw < 2 ^ 31 ∧ snr < 2 ^ 31) (hne : (p1 ≠ p0 ∧ p1 ≠ p2 ∧ p1 ≠ u0 ∧ p1 ≠ u1 ∧ p1 ≠ u2) ∧ (p2 ≠ p0 ∧ p2 ≠ p1 ∧ p2 ≠ u0 ∧ p2 ≠ u1 ∧ p2 ≠ u2)) (N : Nat) (hN : N < 2 ^ 31) (hlen : slen = nI N) (hsk : kFl sk = false) (hk : kFl k = false) (hr1 : N ≤ nw) (hr2 : N ≤ snw) : Met l yX0_takeWidened wsX0_takeWidened ({ frames := 1, cells := 0, slots := 0, locals := 23 }) (tcP D A (tcTY cI cJ cD cC) sz [.ref a, .ref sa] ws) (va_Qv (fun _ : Unit => True) (fun _ t => tcB D A (ws.set p1 (w, .inl (cJ, nw, .inr (.inl (tc_mix sf f N))))) t) A) 0 0 A := by
  refine Met.ofW (cc := cX0_takeWidened) (maxL := 3) (ret := none) (by decide) rfl ?_
  intro p e s m args below meth c s₁ B hml hv
  obtain ⟨rfl, hsz, hP, hK, hD, hE⟩ := hv
  have hx := B.exec
  have hb := B.bytes
  have hr := B.returns
  have hts := atoms_spec (ws := wsX0_takeWidened) B.pre
  have hown : s.vm.findClass RX0 = some m.cls := findClass_of_methodNamed B.named
  have hlocks := B.notSynchronized
  have hl := lv_entry ([.ref a, .ref sa]) (n := 3) (Nat.le_of_ble_eq_true rfl)
  rw [lg_entry_eq]
  generalize (lg_sl ([.ref a, .ref sa]) ++ List.replicate (3 - (lg_sl ([.ref a, .ref sa])).length) Slot.unset).toArray = ls at hl ⊢
  have hl : lv_has ls 3 [(0, .ref a), (1, .ref sa)] := hl
  subst hsz
  have hS : va_S A s.heap s.heap [] := va_S.rf
  refine lv_iconst (v := 0) hx hb dX0_takeWidened_0 (by decide) ?_
  refine lv_istore_n (lv' := [(2, .int 0), (0, .ref a), (1, .ref sa)]) hx hb dX0_takeWidened_1 rfl hl (by decide) rfl (fun ls hl => ?_)
  refine tc_loop (fun k9 H locs ls => ∃ i : Nat, i + k9 = N ∧ va_P D vwCl (ws.set p1 (w, .inl (cJ, nw, .inr (.inl (tc_mix sf f i))))) H ∧ va_D A (ws.set p1 (w, .inl (cJ, nw, .inr (.inl (tc_mix sf f i))))) ∧ va_S A s.heap H locs ∧ lv_has ls 3 [(2, .int (nI i)), (0, .ref a), (1, .ref sa)]) (fun k9 H locs ls hi9 ih => ?_) (fun H locs ls hi9 => ?_) N ⟨0, by omega, by rw [tc_mix_0, tc_set_same e1]; exact hP, by rw [tc_mix_0, tc_set_same e1]; exact hD, hS, hl⟩
  · obtain ⟨i, hik, hP, hD, hS, hl⟩ := hi9
    have hiN : i < N := by omega
    have e0a := tc_set_ne (y := (w, .inl (cJ, nw, .inr (.inl (tc_mix sf f i))))) e0 (hne.1.1)
    have d0a := tc_set_ne (y := (w, .inl (cJ, nw, .inr (.inl (tc_mix sf f i))))) d0 (hne.1.2.2.1)
    have d1a := tc_set_ne (y := (w, .inl (cJ, nw, .inr (.inl (tc_mix sf f i))))) d1 (hne.1.2.2.2.1)
    have d2a := tc_set_ne (y := (w, .inl (cJ, nw, .inr (.inl (tc_mix sf f i))))) d2 (hne.1.2.2.2.2)
    have eoa := tc_set_ne (y := (w, .inl (cJ, nw, .inr (.inl (tc_mix sf f i))))) e2 (hne.1.2.1)
    have eta := tc_set_self (y := (w, .inl (cJ, nw, .inr (.inl (tc_mix sf f i))))) e1
    refine lv_iload_n hx hb dX0_takeWidened_2 rfl (lv_at hl 0 rfl) ?_
    refine lv_aload_n hx hb dX0_takeWidened_3 rfl (lv_at hl 2 rfl) ?_
    refine va_get (D := D) (ci := 0) (fs := [.int sk, .int slen, .ref sw, .ref sr]) (v := .int slen) (C := RX0) (T := TX0) (N := 4) hx hb hts (by decide +kernel) hown hK hP u0 d0a rfl 1 (by decide) (hts (.fieldLink RX0 22 "TypedColumns$Column" "length" "I") (by decide +kernel)) (fun _ h9 => h9) rfl dX0_takeWidened_4 ?_
    refine lv_icmp_ge (tgt := 49) hx hb dX0_takeWidened_7 (by decide) (fun q => absurd q (by rw [hlen]; exact nI_ge hiN (by omega))) (fun _ => ?_)
    refine lv_aload_n hx hb dX0_takeWidened_10 rfl (lv_at hl 2 rfl) ?_
    refine va_get (D := D) (ci := 0) (fs := [.int sk, .int slen, .ref sw, .ref sr]) (v := .int sk) (C := RX0) (T := TX0) (N := 4) hx hb hts (by decide +kernel) hown hK hP u0 d0a rfl 0 (by decide) (hts (.fieldLink RX0 16 "TypedColumns$Column" "kind" "I") (by decide +kernel)) (fun _ h9 => h9) rfl dX0_takeWidened_11 ?_
    refine vp_callSi (tc_CR (va_runSN (As := [.int sk]) (rest := []) ⟨hx, hb, hml, hown, hts⟩ (kX2_isFloating l sk) ⟨va_cnB 1 hts gX0_takeWidened_X2_isFloating_n25 rfl rfl rfl (hE.2.2.2.2.2.1) (hts (.initialized RX2) (by decide +kernel)) (by decide +kernel) ⟨Nat.le_of_ble_eq_true rfl, Nat.le_of_ble_eq_true rfl⟩, hts (.static yX2_isFloating) (by decide +kernel), trivial⟩ ⟨fun a U g mk q => q, fun U hU hW => ⟨rfl, trivial⟩⟩ rfl rfl hl.1 rfl (lv_room (Nat.le_of_ble_eq_true rfl)) dX0_takeWidened_14 ⟨Nat.zero_le _, Nat.zero_le _⟩)) (fun r_2 hr_2 => ?_)
    subst hr_2
    refine lv_if_eq (tgt := 33) hx hb dX0_takeWidened_17 (by decide) (fun _ => ?_) (fun q => absurd ((tb_0 _).mpr hsk) q)
    refine lv_aload_n hx hb dX0_takeWidened_33 rfl (lv_at hl 1 rfl) ?_
    refine lv_iload_n hx hb dX0_takeWidened_34 rfl (lv_at hl 0 rfl) ?_
    refine lv_aload_n hx hb dX0_takeWidened_35 rfl (lv_at hl 2 rfl) ?_
    refine lv_iload_n hx hb dX0_takeWidened_36 rfl (lv_at hl 0 rfl) ?_
    refine vp_callSl (tc_CR (va_runV (As := [.int (nI i)]) (rest := [.int (nI i), .ref a]) ⟨hx, hb, hml, hown, hts⟩ (oX0_wholeAt l D A cI cJ cD cC (ws.set p1 (w, .inl (cJ, nw, .inr (.inl (tc_mix sf f i))))) u0 u1 u2 sa sw sr sk slen snw snr sf sg H.size d0a d1a d2a hm (nI i) (vp_in_nI (by omega) hm.1)) (cwV 1 hts gX0_takeWidened_X0_wholeAt rfl rfl rfl (by decide +kernel) ⟨Nat.le_of_ble_eq_true rfl, Nat.le_of_ble_eq_true rfl⟩) ⟨tcP.blind, (va_recv hK hP (ci := 0) (q0 := u0) rfl d0a), (tcP.go hK hP hD hE hS)⟩ rfl rfl hl.1 rfl (lv_room (Nat.le_of_ble_eq_true rfl)) dX0_takeWidened_37 ⟨Nat.le_of_ble_eq_true rfl, Nat.le_of_ble_eq_true rfl⟩)) (fun r_4 hr_4 => ?_)
    subst hr_4
    rw [nI_clamp (n := i) (by omega)]
    refine va_callv (va_runV (As := [.int (nI i), .long (sf i)]) (rest := []) ⟨hx, hb, hml, hown, hts⟩ (oX0_putWhole_w l D A cI cJ cD cC (ws.set p1 (w, .inl (cJ, nw, .inr (.inl (tc_mix sf f i))))) p0 p1 p2 a w r k len nw nr (tc_mix sf f i) g H.size e0a eta eoa hn (nI i) (sf i) (vp_in_nI (by omega) hn.1) hk) (cwV 2 hts gX0_takeWidened_X0_putWhole rfl rfl rfl (by decide +kernel) ⟨Nat.le_of_ble_eq_true rfl, Nat.le_of_ble_eq_true rfl⟩) ⟨tcP.blind, (va_recv hK hP (ci := 0) (q0 := p0) rfl e0a), (tcP.go hK hP hD hE hS)⟩ rfl rfl hl.1 rfl (lv_room (Nat.le_of_ble_eq_true rfl)) dX0_takeWidened_40 ⟨Nat.le_of_ble_eq_true rfl, Nat.le_of_ble_eq_true rfl⟩) hS (fun q _ h => h) (fun q h => h) (fun u t H locs ht hvm hw hB hz1 hk1 hS => ?_)
    obtain ⟨hP, hD⟩ := hB
    rw [ht] at hP
    rw [List.set_set, nI_clamp (n := i) (by omega), show vp_updL (tc_mix sf f i) i _ = tc_mix sf f (i + 1) from tc_mix_sL sf f i] at hP hD
    obtain ⟨x_6, ex_6⟩ : ∃ y : Int32, y = (nI i) + (1) := ⟨_, rfl⟩
    refine lv_iinc (v := x_6) (lv' := [(2, .int x_6), (0, .ref a), (1, .ref sa)]) hx hb dX0_takeWidened_43 hl (k := 0) rfl (by rw [ex_6]; rfl) (by decide) rfl (fun ls hl => ?_)
    refine lv_goto (tgt := 2) hx hb dX0_takeWidened_46 (by decide) ?_
    subst ex_6
    exact ih _ _ _ ⟨i + 1, by omega, hP, hD, hS, by rw [nI_succ]; exact lv_sub hl [0, 1, 2] rfl⟩
  · obtain ⟨i, hik, hP, hD, hS, hl⟩ := hi9
    have hiN : i = N := by omega
    subst hiN
    have e0a := tc_set_ne (y := (w, .inl (cJ, nw, .inr (.inl (tc_mix sf f i))))) e0 (hne.1.1)
    have d0a := tc_set_ne (y := (w, .inl (cJ, nw, .inr (.inl (tc_mix sf f i))))) d0 (hne.1.2.2.1)
    have d1a := tc_set_ne (y := (w, .inl (cJ, nw, .inr (.inl (tc_mix sf f i))))) d1 (hne.1.2.2.2.1)
    have d2a := tc_set_ne (y := (w, .inl (cJ, nw, .inr (.inl (tc_mix sf f i))))) d2 (hne.1.2.2.2.2)
    have eoa := tc_set_ne (y := (w, .inl (cJ, nw, .inr (.inl (tc_mix sf f i))))) e2 (hne.1.2.1)
    have eta := tc_set_self (y := (w, .inl (cJ, nw, .inr (.inl (tc_mix sf f i))))) e1
    refine lv_iload_n hx hb dX0_takeWidened_2 rfl (lv_at hl 0 rfl) ?_
    refine lv_aload_n hx hb dX0_takeWidened_3 rfl (lv_at hl 2 rfl) ?_
    refine va_get (D := D) (ci := 0) (fs := [.int sk, .int slen, .ref sw, .ref sr]) (v := .int slen) (C := RX0) (T := TX0) (N := 4) hx hb hts (by decide +kernel) hown hK hP u0 d0a rfl 1 (by decide) (hts (.fieldLink RX0 22 "TypedColumns$Column" "length" "I") (by decide +kernel)) (fun _ h9 => h9) rfl dX0_takeWidened_4 ?_
    refine lv_icmp_ge (tgt := 49) hx hb dX0_takeWidened_7 (by decide) (fun _ => ?_) (fun q => absurd (by rw [hlen]; exact nI_le (Nat.le_refl _) (by omega)) q)
    exact W.vret hx hb hr (fun t9 ht9 hW9 => ⟨⟨(), rfl, trivial, by rw [ht9]; exact hP, hD⟩, hS.F ht9⟩) hS.2.2 dX0_takeWidened_49
set_option maxHeartbeats 4000000 in
set_option maxRecDepth 100000 in
theorem oX0_takeWidened_wf (l : Launch) (D : va_G) (A : Nat → Prop) (cI cJ cD cC : ClassId) (ws : va_W) (p0 p1 p2 : Nat) (a w r : Nat) (k len : Int32) (nw nr : Nat) (f : Nat → Int64) (g : Nat → UInt64) (sz : Nat) (e0 : ws[p0]? = some (a, .inr (0, [.int k, .int len, .ref w, .ref r]))) (e1 : ws[p1]? = some (w, .inl (cJ, nw, .inr (.inl f)))) (e2 : ws[p2]? = some (r, .inl (cD, nr, .inr (.inr (.inr (.inl g)))))) (hn : nw < 2 ^ 31 ∧ nr < 2 ^ 31) (u0 u1 u2 : Nat) (sa sw sr : Nat) (sk slen : Int32) (snw snr : Nat) (sf : Nat → Int64) (sg : Nat → UInt64) (d0 : ws[u0]? = some (sa, .inr (0, [.int sk, .int slen, .ref sw, .ref sr]))) (d1 : ws[u1]? = some (sw, .inl (cJ, snw, .inr (.inl sf)))) (d2 : ws[u2]? = some (sr, .inl (cD, snr, .inr (.inr (.inr (.inl sg)))))) (hm : snw < 2 ^ 31 ∧ snr < 2 ^ 31) (hne : (p1 ≠ p0 ∧ p1 ≠ p2 ∧ p1 ≠ u0 ∧ p1 ≠ u1 ∧ p1 ≠ u2) ∧ (p2 ≠ p0 ∧ p2 ≠ p1 ∧ p2 ≠ u0 ∧ p2 ≠ u1 ∧ p2 ≠ u2)) (N : Nat) (hN : N < 2 ^ 31) (hlen : slen = nI N) (hsk : kFl sk = false) (hk : k = 7) (hr1 : N ≤ nr) (hr2 : N ≤ snw) : Met l yX0_takeWidened wsX0_takeWidened ({ frames := 2, cells := 0, slots := 0, locals := 46 }) (tcP D A (tcTY cI cJ cD cC) sz [.ref a, .ref sa] ws) (va_Qv (fun _ : Unit => True) (fun _ t => tcB D A (ws.set p2 (r, .inl (cD, nr, .inr (.inr (.inr (.inl (tc_mix (fun q => FP.f2d (FP.l2f (sf q))) g N))))))) t) A) 0 0 A := by
  refine Met.ofW (cc := cX0_takeWidened) (maxL := 3) (ret := none) (by decide) rfl ?_
  intro p e s m args below meth c s₁ B hml hv
  obtain ⟨rfl, hsz, hP, hK, hD, hE⟩ := hv
  have hx := B.exec
  have hb := B.bytes
  have hr := B.returns
  have hts := atoms_spec (ws := wsX0_takeWidened) B.pre
  have hown : s.vm.findClass RX0 = some m.cls := findClass_of_methodNamed B.named
  have hlocks := B.notSynchronized
  have hl := lv_entry ([.ref a, .ref sa]) (n := 3) (Nat.le_of_ble_eq_true rfl)
  rw [lg_entry_eq]
  generalize (lg_sl ([.ref a, .ref sa]) ++ List.replicate (3 - (lg_sl ([.ref a, .ref sa])).length) Slot.unset).toArray = ls at hl ⊢
  have hl : lv_has ls 3 [(0, .ref a), (1, .ref sa)] := hl
  subst hsz
  have hS : va_S A s.heap s.heap [] := va_S.rf
  refine lv_iconst (v := 0) hx hb dX0_takeWidened_0 (by decide) ?_
  refine lv_istore_n (lv' := [(2, .int 0), (0, .ref a), (1, .ref sa)]) hx hb dX0_takeWidened_1 rfl hl (by decide) rfl (fun ls hl => ?_)
  refine tc_loop (fun k9 H locs ls => ∃ i : Nat, i + k9 = N ∧ va_P D vwCl (ws.set p2 (r, .inl (cD, nr, .inr (.inr (.inr (.inl (tc_mix (fun q => FP.f2d (FP.l2f (sf q))) g i))))))) H ∧ va_D A (ws.set p2 (r, .inl (cD, nr, .inr (.inr (.inr (.inl (tc_mix (fun q => FP.f2d (FP.l2f (sf q))) g i))))))) ∧ va_S A s.heap H locs ∧ lv_has ls 3 [(2, .int (nI i)), (0, .ref a), (1, .ref sa)]) (fun k9 H locs ls hi9 ih => ?_) (fun H locs ls hi9 => ?_) N ⟨0, by omega, by rw [tc_mix_0, tc_set_same e2]; exact hP, by rw [tc_mix_0, tc_set_same e2]; exact hD, hS, hl⟩
  · obtain ⟨i, hik, hP, hD, hS, hl⟩ := hi9
    have hiN : i < N := by omega
    have e0a := tc_set_ne (y := (r, .inl (cD, nr, .inr (.inr (.inr (.inl (tc_mix (fun q => FP.f2d (FP.l2f (sf q))) g i))))))) e0 (hne.2.1)
    have d0a := tc_set_ne (y := (r, .inl (cD, nr, .inr (.inr (.inr (.inl (tc_mix (fun q => FP.f2d (FP.l2f (sf q))) g i))))))) d0 (hne.2.2.2.1)
    have d1a := tc_set_ne (y := (r, .inl (cD, nr, .inr (.inr (.inr (.inl (tc_mix (fun q => FP.f2d (FP.l2f (sf q))) g i))))))) d1 (hne.2.2.2.2.1)
    have d2a := tc_set_ne (y := (r, .inl (cD, nr, .inr (.inr (.inr (.inl (tc_mix (fun q => FP.f2d (FP.l2f (sf q))) g i))))))) d2 (hne.2.2.2.2.2)
    have eoa := tc_set_ne (y := (r, .inl (cD, nr, .inr (.inr (.inr (.inl (tc_mix (fun q => FP.f2d (FP.l2f (sf q))) g i))))))) e1 (hne.2.2.1)
    have eta := tc_set_self (y := (r, .inl (cD, nr, .inr (.inr (.inr (.inl (tc_mix (fun q => FP.f2d (FP.l2f (sf q))) g i))))))) e2
    refine lv_iload_n hx hb dX0_takeWidened_2 rfl (lv_at hl 0 rfl) ?_
    refine lv_aload_n hx hb dX0_takeWidened_3 rfl (lv_at hl 2 rfl) ?_
    refine va_get (D := D) (ci := 0) (fs := [.int sk, .int slen, .ref sw, .ref sr]) (v := .int slen) (C := RX0) (T := TX0) (N := 4) hx hb hts (by decide +kernel) hown hK hP u0 d0a rfl 1 (by decide) (hts (.fieldLink RX0 22 "TypedColumns$Column" "length" "I") (by decide +kernel)) (fun _ h9 => h9) rfl dX0_takeWidened_4 ?_
    refine lv_icmp_ge (tgt := 49) hx hb dX0_takeWidened_7 (by decide) (fun q => absurd q (by rw [hlen]; exact nI_ge hiN (by omega))) (fun _ => ?_)
    refine lv_aload_n hx hb dX0_takeWidened_10 rfl (lv_at hl 2 rfl) ?_
    refine va_get (D := D) (ci := 0) (fs := [.int sk, .int slen, .ref sw, .ref sr]) (v := .int sk) (C := RX0) (T := TX0) (N := 4) hx hb hts (by decide +kernel) hown hK hP u0 d0a rfl 0 (by decide) (hts (.fieldLink RX0 16 "TypedColumns$Column" "kind" "I") (by decide +kernel)) (fun _ h9 => h9) rfl dX0_takeWidened_11 ?_
    refine vp_callSi (tc_CR (va_runSN (As := [.int sk]) (rest := []) ⟨hx, hb, hml, hown, hts⟩ (kX2_isFloating l sk) ⟨va_cnB 1 hts gX0_takeWidened_X2_isFloating_n25 rfl rfl rfl (hE.2.2.2.2.2.1) (hts (.initialized RX2) (by decide +kernel)) (by decide +kernel) ⟨Nat.le_of_ble_eq_true rfl, Nat.le_of_ble_eq_true rfl⟩, hts (.static yX2_isFloating) (by decide +kernel), trivial⟩ ⟨fun a U g mk q => q, fun U hU hW => ⟨rfl, trivial⟩⟩ rfl rfl hl.1 rfl (lv_room (Nat.le_of_ble_eq_true rfl)) dX0_takeWidened_14 ⟨Nat.zero_le _, Nat.zero_le _⟩)) (fun r_2 hr_2 => ?_)
    subst hr_2
    refine lv_if_eq (tgt := 33) hx hb dX0_takeWidened_17 (by decide) (fun _ => ?_) (fun q => absurd ((tb_0 _).mpr hsk) q)
    refine lv_aload_n hx hb dX0_takeWidened_33 rfl (lv_at hl 1 rfl) ?_
    refine lv_iload_n hx hb dX0_takeWidened_34 rfl (lv_at hl 0 rfl) ?_
    refine lv_aload_n hx hb dX0_takeWidened_35 rfl (lv_at hl 2 rfl) ?_
    refine lv_iload_n hx hb dX0_takeWidened_36 rfl (lv_at hl 0 rfl) ?_
    refine vp_callSl (tc_CR (va_runV (As := [.int (nI i)]) (rest := [.int (nI i), .ref a]) ⟨hx, hb, hml, hown, hts⟩ (oX0_wholeAt l D A cI cJ cD cC (ws.set p2 (r, .inl (cD, nr, .inr (.inr (.inr (.inl (tc_mix (fun q => FP.f2d (FP.l2f (sf q))) g i))))))) u0 u1 u2 sa sw sr sk slen snw snr sf sg H.size d0a d1a d2a hm (nI i) (vp_in_nI (by omega) hm.1)) (cwV 1 hts gX0_takeWidened_X0_wholeAt rfl rfl rfl (by decide +kernel) ⟨Nat.le_of_ble_eq_true rfl, Nat.le_of_ble_eq_true rfl⟩) ⟨tcP.blind, (va_recv hK hP (ci := 0) (q0 := u0) rfl d0a), (tcP.go hK hP hD hE hS)⟩ rfl rfl hl.1 rfl (lv_room (Nat.le_of_ble_eq_true rfl)) dX0_takeWidened_37 ⟨Nat.le_of_ble_eq_true rfl, Nat.le_of_ble_eq_true rfl⟩)) (fun r_4 hr_4 => ?_)
    subst hr_4
    rw [nI_clamp (n := i) (by omega)]
    refine va_callv (va_runV (As := [.int (nI i), .long (sf i)]) (rest := []) ⟨hx, hb, hml, hown, hts⟩ (oX0_putWhole_f l D A cI cJ cD cC (ws.set p2 (r, .inl (cD, nr, .inr (.inr (.inr (.inl (tc_mix (fun q => FP.f2d (FP.l2f (sf q))) g i))))))) p0 p1 p2 a w r k len nw nr f (tc_mix (fun q => FP.f2d (FP.l2f (sf q))) g i) H.size e0a eoa eta hn (nI i) (sf i) (vp_in_nI (by omega) hn.2) hk) (cwV 2 hts gX0_takeWidened_X0_putWhole rfl rfl rfl (by decide +kernel) ⟨Nat.le_of_ble_eq_true rfl, Nat.le_of_ble_eq_true rfl⟩) ⟨tcP.blind, (va_recv hK hP (ci := 0) (q0 := p0) rfl e0a), (tcP.go hK hP hD hE hS)⟩ rfl rfl hl.1 rfl (lv_room (Nat.le_of_ble_eq_true rfl)) dX0_takeWidened_40 ⟨Nat.le_of_ble_eq_true rfl, Nat.le_of_ble_eq_true rfl⟩) hS (fun q _ h => h) (fun q h => h) (fun u t H locs ht hvm hw hB hz1 hk1 hS => ?_)
    obtain ⟨hP, hD⟩ := hB
    rw [ht] at hP
    rw [List.set_set, nI_clamp (n := i) (by omega), show vf_upd (tc_mix (fun q => FP.f2d (FP.l2f (sf q))) g i) i _ = tc_mix (fun q => FP.f2d (FP.l2f (sf q))) g (i + 1) from tc_mix_s (fun q => FP.f2d (FP.l2f (sf q))) g i] at hP hD
    obtain ⟨x_6, ex_6⟩ : ∃ y : Int32, y = (nI i) + (1) := ⟨_, rfl⟩
    refine lv_iinc (v := x_6) (lv' := [(2, .int x_6), (0, .ref a), (1, .ref sa)]) hx hb dX0_takeWidened_43 hl (k := 0) rfl (by rw [ex_6]; rfl) (by decide) rfl (fun ls hl => ?_)
    refine lv_goto (tgt := 2) hx hb dX0_takeWidened_46 (by decide) ?_
    subst ex_6
    exact ih _ _ _ ⟨i + 1, by omega, hP, hD, hS, by rw [nI_succ]; exact lv_sub hl [0, 1, 2] rfl⟩
  · obtain ⟨i, hik, hP, hD, hS, hl⟩ := hi9
    have hiN : i = N := by omega
    subst hiN
    have e0a := tc_set_ne (y := (r, .inl (cD, nr, .inr (.inr (.inr (.inl (tc_mix (fun q => FP.f2d (FP.l2f (sf q))) g i))))))) e0 (hne.2.1)
    have d0a := tc_set_ne (y := (r, .inl (cD, nr, .inr (.inr (.inr (.inl (tc_mix (fun q => FP.f2d (FP.l2f (sf q))) g i))))))) d0 (hne.2.2.2.1)
    have d1a := tc_set_ne (y := (r, .inl (cD, nr, .inr (.inr (.inr (.inl (tc_mix (fun q => FP.f2d (FP.l2f (sf q))) g i))))))) d1 (hne.2.2.2.2.1)
    have d2a := tc_set_ne (y := (r, .inl (cD, nr, .inr (.inr (.inr (.inl (tc_mix (fun q => FP.f2d (FP.l2f (sf q))) g i))))))) d2 (hne.2.2.2.2.2)
    have eoa := tc_set_ne (y := (r, .inl (cD, nr, .inr (.inr (.inr (.inl (tc_mix (fun q => FP.f2d (FP.l2f (sf q))) g i))))))) e1 (hne.2.2.1)
    have eta := tc_set_self (y := (r, .inl (cD, nr, .inr (.inr (.inr (.inl (tc_mix (fun q => FP.f2d (FP.l2f (sf q))) g i))))))) e2
    refine lv_iload_n hx hb dX0_takeWidened_2 rfl (lv_at hl 0 rfl) ?_
    refine lv_aload_n hx hb dX0_takeWidened_3 rfl (lv_at hl 2 rfl) ?_
    refine va_get (D := D) (ci := 0) (fs := [.int sk, .int slen, .ref sw, .ref sr]) (v := .int slen) (C := RX0) (T := TX0) (N := 4) hx hb hts (by decide +kernel) hown hK hP u0 d0a rfl 1 (by decide) (hts (.fieldLink RX0 22 "TypedColumns$Column" "length" "I") (by decide +kernel)) (fun _ h9 => h9) rfl dX0_takeWidened_4 ?_
    refine lv_icmp_ge (tgt := 49) hx hb dX0_takeWidened_7 (by decide) (fun _ => ?_) (fun q => absurd (by rw [hlen]; exact nI_le (Nat.le_refl _) (by omega)) q)
    exact W.vret hx hb hr (fun t9 ht9 hW9 => ⟨⟨(), rfl, trivial, by rw [ht9]; exact hP, hD⟩, hS.F ht9⟩) hS.2.2 dX0_takeWidened_49
set_option maxHeartbeats 4000000 in
set_option maxRecDepth 100000 in
theorem oX0_takeWidened_wd (l : Launch) (D : va_G) (A : Nat → Prop) (cI cJ cD cC : ClassId) (ws : va_W) (p0 p1 p2 : Nat) (a w r : Nat) (k len : Int32) (nw nr : Nat) (f : Nat → Int64) (g : Nat → UInt64) (sz : Nat) (e0 : ws[p0]? = some (a, .inr (0, [.int k, .int len, .ref w, .ref r]))) (e1 : ws[p1]? = some (w, .inl (cJ, nw, .inr (.inl f)))) (e2 : ws[p2]? = some (r, .inl (cD, nr, .inr (.inr (.inr (.inl g)))))) (hn : nw < 2 ^ 31 ∧ nr < 2 ^ 31) (u0 u1 u2 : Nat) (sa sw sr : Nat) (sk slen : Int32) (snw snr : Nat) (sf : Nat → Int64) (sg : Nat → UInt64) (d0 : ws[u0]? = some (sa, .inr (0, [.int sk, .int slen, .ref sw, .ref sr]))) (d1 : ws[u1]? = some (sw, .inl (cJ, snw, .inr (.inl sf)))) (d2 : ws[u2]? = some (sr, .inl (cD, snr, .inr (.inr (.inr (.inl sg)))))) (hm : snw < 2 ^ 31 ∧ snr < 2 ^ 31) (hne : (p1 ≠ p0 ∧ p1 ≠ p2 ∧ p1 ≠ u0 ∧ p1 ≠ u1 ∧ p1 ≠ u2) ∧ (p2 ≠ p0 ∧ p2 ≠ p1 ∧ p2 ≠ u0 ∧ p2 ≠ u1 ∧ p2 ≠ u2)) (N : Nat) (hN : N < 2 ^ 31) (hlen : slen = nI N) (hsk : kFl sk = false) (hk : k = 8) (hr1 : N ≤ nr) (hr2 : N ≤ snw) : Met l yX0_takeWidened wsX0_takeWidened ({ frames := 2, cells := 0, slots := 0, locals := 46 }) (tcP D A (tcTY cI cJ cD cC) sz [.ref a, .ref sa] ws) (va_Qv (fun _ : Unit => True) (fun _ t => tcB D A (ws.set p2 (r, .inl (cD, nr, .inr (.inr (.inr (.inl (tc_mix (fun q => FP.l2d (sf q)) g N))))))) t) A) 0 0 A := by
  refine Met.ofW (cc := cX0_takeWidened) (maxL := 3) (ret := none) (by decide) rfl ?_
  intro p e s m args below meth c s₁ B hml hv
  obtain ⟨rfl, hsz, hP, hK, hD, hE⟩ := hv
  have hx := B.exec
  have hb := B.bytes
  have hr := B.returns
  have hts := atoms_spec (ws := wsX0_takeWidened) B.pre
  have hown : s.vm.findClass RX0 = some m.cls := findClass_of_methodNamed B.named
  have hlocks := B.notSynchronized
  have hl := lv_entry ([.ref a, .ref sa]) (n := 3) (Nat.le_of_ble_eq_true rfl)
  rw [lg_entry_eq]
  generalize (lg_sl ([.ref a, .ref sa]) ++ List.replicate (3 - (lg_sl ([.ref a, .ref sa])).length) Slot.unset).toArray = ls at hl ⊢
  have hl : lv_has ls 3 [(0, .ref a), (1, .ref sa)] := hl
  subst hsz
  have hS : va_S A s.heap s.heap [] := va_S.rf
  refine lv_iconst (v := 0) hx hb dX0_takeWidened_0 (by decide) ?_
  refine lv_istore_n (lv' := [(2, .int 0), (0, .ref a), (1, .ref sa)]) hx hb dX0_takeWidened_1 rfl hl (by decide) rfl (fun ls hl => ?_)
  refine tc_loop (fun k9 H locs ls => ∃ i : Nat, i + k9 = N ∧ va_P D vwCl (ws.set p2 (r, .inl (cD, nr, .inr (.inr (.inr (.inl (tc_mix (fun q => FP.l2d (sf q)) g i))))))) H ∧ va_D A (ws.set p2 (r, .inl (cD, nr, .inr (.inr (.inr (.inl (tc_mix (fun q => FP.l2d (sf q)) g i))))))) ∧ va_S A s.heap H locs ∧ lv_has ls 3 [(2, .int (nI i)), (0, .ref a), (1, .ref sa)]) (fun k9 H locs ls hi9 ih => ?_) (fun H locs ls hi9 => ?_) N ⟨0, by omega, by rw [tc_mix_0, tc_set_same e2]; exact hP, by rw [tc_mix_0, tc_set_same e2]; exact hD, hS, hl⟩
  · obtain ⟨i, hik, hP, hD, hS, hl⟩ := hi9
    have hiN : i < N := by omega
    have e0a := tc_set_ne (y := (r, .inl (cD, nr, .inr (.inr (.inr (.inl (tc_mix (fun q => FP.l2d (sf q)) g i))))))) e0 (hne.2.1)
    have d0a := tc_set_ne (y := (r, .inl (cD, nr, .inr (.inr (.inr (.inl (tc_mix (fun q => FP.l2d (sf q)) g i))))))) d0 (hne.2.2.2.1)
    have d1a := tc_set_ne (y := (r, .inl (cD, nr, .inr (.inr (.inr (.inl (tc_mix (fun q => FP.l2d (sf q)) g i))))))) d1 (hne.2.2.2.2.1)
    have d2a := tc_set_ne (y := (r, .inl (cD, nr, .inr (.inr (.inr (.inl (tc_mix (fun q => FP.l2d (sf q)) g i))))))) d2 (hne.2.2.2.2.2)
    have eoa := tc_set_ne (y := (r, .inl (cD, nr, .inr (.inr (.inr (.inl (tc_mix (fun q => FP.l2d (sf q)) g i))))))) e1 (hne.2.2.1)
    have eta := tc_set_self (y := (r, .inl (cD, nr, .inr (.inr (.inr (.inl (tc_mix (fun q => FP.l2d (sf q)) g i))))))) e2
    refine lv_iload_n hx hb dX0_takeWidened_2 rfl (lv_at hl 0 rfl) ?_
    refine lv_aload_n hx hb dX0_takeWidened_3 rfl (lv_at hl 2 rfl) ?_
    refine va_get (D := D) (ci := 0) (fs := [.int sk, .int slen, .ref sw, .ref sr]) (v := .int slen) (C := RX0) (T := TX0) (N := 4) hx hb hts (by decide +kernel) hown hK hP u0 d0a rfl 1 (by decide) (hts (.fieldLink RX0 22 "TypedColumns$Column" "length" "I") (by decide +kernel)) (fun _ h9 => h9) rfl dX0_takeWidened_4 ?_
    refine lv_icmp_ge (tgt := 49) hx hb dX0_takeWidened_7 (by decide) (fun q => absurd q (by rw [hlen]; exact nI_ge hiN (by omega))) (fun _ => ?_)
    refine lv_aload_n hx hb dX0_takeWidened_10 rfl (lv_at hl 2 rfl) ?_
    refine va_get (D := D) (ci := 0) (fs := [.int sk, .int slen, .ref sw, .ref sr]) (v := .int sk) (C := RX0) (T := TX0) (N := 4) hx hb hts (by decide +kernel) hown hK hP u0 d0a rfl 0 (by decide) (hts (.fieldLink RX0 16 "TypedColumns$Column" "kind" "I") (by decide +kernel)) (fun _ h9 => h9) rfl dX0_takeWidened_11 ?_
    refine vp_callSi (tc_CR (va_runSN (As := [.int sk]) (rest := []) ⟨hx, hb, hml, hown, hts⟩ (kX2_isFloating l sk) ⟨va_cnB 1 hts gX0_takeWidened_X2_isFloating_n25 rfl rfl rfl (hE.2.2.2.2.2.1) (hts (.initialized RX2) (by decide +kernel)) (by decide +kernel) ⟨Nat.le_of_ble_eq_true rfl, Nat.le_of_ble_eq_true rfl⟩, hts (.static yX2_isFloating) (by decide +kernel), trivial⟩ ⟨fun a U g mk q => q, fun U hU hW => ⟨rfl, trivial⟩⟩ rfl rfl hl.1 rfl (lv_room (Nat.le_of_ble_eq_true rfl)) dX0_takeWidened_14 ⟨Nat.zero_le _, Nat.zero_le _⟩)) (fun r_2 hr_2 => ?_)
    subst hr_2
    refine lv_if_eq (tgt := 33) hx hb dX0_takeWidened_17 (by decide) (fun _ => ?_) (fun q => absurd ((tb_0 _).mpr hsk) q)
    refine lv_aload_n hx hb dX0_takeWidened_33 rfl (lv_at hl 1 rfl) ?_
    refine lv_iload_n hx hb dX0_takeWidened_34 rfl (lv_at hl 0 rfl) ?_
    refine lv_aload_n hx hb dX0_takeWidened_35 rfl (lv_at hl 2 rfl) ?_
    refine lv_iload_n hx hb dX0_takeWidened_36 rfl (lv_at hl 0 rfl) ?_
    refine vp_callSl (tc_CR (va_runV (As := [.int (nI i)]) (rest := [.int (nI i), .ref a]) ⟨hx, hb, hml, hown, hts⟩ (oX0_wholeAt l D A cI cJ cD cC (ws.set p2 (r, .inl (cD, nr, .inr (.inr (.inr (.inl (tc_mix (fun q => FP.l2d (sf q)) g i))))))) u0 u1 u2 sa sw sr sk slen snw snr sf sg H.size d0a d1a d2a hm (nI i) (vp_in_nI (by omega) hm.1)) (cwV 1 hts gX0_takeWidened_X0_wholeAt rfl rfl rfl (by decide +kernel) ⟨Nat.le_of_ble_eq_true rfl, Nat.le_of_ble_eq_true rfl⟩) ⟨tcP.blind, (va_recv hK hP (ci := 0) (q0 := u0) rfl d0a), (tcP.go hK hP hD hE hS)⟩ rfl rfl hl.1 rfl (lv_room (Nat.le_of_ble_eq_true rfl)) dX0_takeWidened_37 ⟨Nat.le_of_ble_eq_true rfl, Nat.le_of_ble_eq_true rfl⟩)) (fun r_4 hr_4 => ?_)
    subst hr_4
    rw [nI_clamp (n := i) (by omega)]
    refine va_callv (va_runV (As := [.int (nI i), .long (sf i)]) (rest := []) ⟨hx, hb, hml, hown, hts⟩ (oX0_putWhole_d l D A cI cJ cD cC (ws.set p2 (r, .inl (cD, nr, .inr (.inr (.inr (.inl (tc_mix (fun q => FP.l2d (sf q)) g i))))))) p0 p1 p2 a w r k len nw nr f (tc_mix (fun q => FP.l2d (sf q)) g i) H.size e0a eoa eta hn (nI i) (sf i) (vp_in_nI (by omega) hn.2) hk) (cwV 2 hts gX0_takeWidened_X0_putWhole rfl rfl rfl (by decide +kernel) ⟨Nat.le_of_ble_eq_true rfl, Nat.le_of_ble_eq_true rfl⟩) ⟨tcP.blind, (va_recv hK hP (ci := 0) (q0 := p0) rfl e0a), (tcP.go hK hP hD hE hS)⟩ rfl rfl hl.1 rfl (lv_room (Nat.le_of_ble_eq_true rfl)) dX0_takeWidened_40 ⟨Nat.le_of_ble_eq_true rfl, Nat.le_of_ble_eq_true rfl⟩) hS (fun q _ h => h) (fun q h => h) (fun u t H locs ht hvm hw hB hz1 hk1 hS => ?_)
    obtain ⟨hP, hD⟩ := hB
    rw [ht] at hP
    rw [List.set_set, nI_clamp (n := i) (by omega), show vf_upd (tc_mix (fun q => FP.l2d (sf q)) g i) i _ = tc_mix (fun q => FP.l2d (sf q)) g (i + 1) from tc_mix_s (fun q => FP.l2d (sf q)) g i] at hP hD
    obtain ⟨x_6, ex_6⟩ : ∃ y : Int32, y = (nI i) + (1) := ⟨_, rfl⟩
    refine lv_iinc (v := x_6) (lv' := [(2, .int x_6), (0, .ref a), (1, .ref sa)]) hx hb dX0_takeWidened_43 hl (k := 0) rfl (by rw [ex_6]; rfl) (by decide) rfl (fun ls hl => ?_)
    refine lv_goto (tgt := 2) hx hb dX0_takeWidened_46 (by decide) ?_
    subst ex_6
    exact ih _ _ _ ⟨i + 1, by omega, hP, hD, hS, by rw [nI_succ]; exact lv_sub hl [0, 1, 2] rfl⟩
  · obtain ⟨i, hik, hP, hD, hS, hl⟩ := hi9
    have hiN : i = N := by omega
    subst hiN
    have e0a := tc_set_ne (y := (r, .inl (cD, nr, .inr (.inr (.inr (.inl (tc_mix (fun q => FP.l2d (sf q)) g i))))))) e0 (hne.2.1)
    have d0a := tc_set_ne (y := (r, .inl (cD, nr, .inr (.inr (.inr (.inl (tc_mix (fun q => FP.l2d (sf q)) g i))))))) d0 (hne.2.2.2.1)
    have d1a := tc_set_ne (y := (r, .inl (cD, nr, .inr (.inr (.inr (.inl (tc_mix (fun q => FP.l2d (sf q)) g i))))))) d1 (hne.2.2.2.2.1)
    have d2a := tc_set_ne (y := (r, .inl (cD, nr, .inr (.inr (.inr (.inl (tc_mix (fun q => FP.l2d (sf q)) g i))))))) d2 (hne.2.2.2.2.2)
    have eoa := tc_set_ne (y := (r, .inl (cD, nr, .inr (.inr (.inr (.inl (tc_mix (fun q => FP.l2d (sf q)) g i))))))) e1 (hne.2.2.1)
    have eta := tc_set_self (y := (r, .inl (cD, nr, .inr (.inr (.inr (.inl (tc_mix (fun q => FP.l2d (sf q)) g i))))))) e2
    refine lv_iload_n hx hb dX0_takeWidened_2 rfl (lv_at hl 0 rfl) ?_
    refine lv_aload_n hx hb dX0_takeWidened_3 rfl (lv_at hl 2 rfl) ?_
    refine va_get (D := D) (ci := 0) (fs := [.int sk, .int slen, .ref sw, .ref sr]) (v := .int slen) (C := RX0) (T := TX0) (N := 4) hx hb hts (by decide +kernel) hown hK hP u0 d0a rfl 1 (by decide) (hts (.fieldLink RX0 22 "TypedColumns$Column" "length" "I") (by decide +kernel)) (fun _ h9 => h9) rfl dX0_takeWidened_4 ?_
    refine lv_icmp_ge (tgt := 49) hx hb dX0_takeWidened_7 (by decide) (fun _ => ?_) (fun q => absurd (by rw [hlen]; exact nI_le (Nat.le_refl _) (by omega)) q)
    exact W.vret hx hb hr (fun t9 ht9 hW9 => ⟨⟨(), rfl, trivial, by rw [ht9]; exact hP, hD⟩, hS.F ht9⟩) hS.2.2 dX0_takeWidened_49
