/-! THE CLASS: its own methods, over the world of a state (valid columns) -/
theorem kFl_3 (k : Int32) : kFl k = false ∨ k = 7 ∨ k = 8 := by
  cases h : kFl k
  · exact Or.inl rfl
  · simp only [kFl, Bool.or_eq_true, decide_eq_true_eq] at h
    exact Or.inr h
set_option maxHeartbeats 4000000 in
set_option maxRecDepth 100000 in
theorem tX2_note (l : Launch) (D : va_G) (A : Nat → Prop) (cI cJ cD cC : ClassId) (h0 h1 h2 h3 h4 : Nat) (ad wd rd : Nat → Nat) (Y : va_W) (n : Nat) (K : Nat → Int32) (Ln : Nat → Nat) (Wh : Nat → Int64) (Re : Nat → UInt64) (cd : Int32) (ct : Nat → Int32) (sz : Nat) (k : Int32) (hk : vp_in k 6) : Met l yX2_note wsX2_note ({ frames := 0, cells := 0, slots := 0, locals := 0 }) (tcP D A (tcTY cI cJ cD cC) sz [.ref h0, .int k] (tc_T cI cJ cD cC h0 h1 h2 h3 h4 ad wd rd Y n K Ln Wh Re cd ct)) (va_Qi (fun r (_ : Unit) => r = k) (fun _ t => tcB D A (tc_T cI cJ cD cC h0 h1 h2 h3 h4 ad wd rd Y n K Ln Wh Re k (noteC ct k)) t) A) 0 0 A := by
  refine Met.ofW (cc := cX2_note) (maxL := 2) (ret := (some .int)) (by decide) rfl ?_
  intro p e s m args below meth c s₁ B hml hv
  obtain ⟨rfl, hsz, hP, hK, hD, hE⟩ := hv
  have hx := B.exec
  have hb := B.bytes
  have hr := B.returns
  have hts := atoms_spec (ws := wsX2_note) B.pre
  have hown : s.vm.findClass RX2 = some m.cls := findClass_of_methodNamed B.named
  have hlocks := B.notSynchronized
  have hl := lv_entry ([.ref h0, .int k]) (n := 2) (Nat.le_of_ble_eq_true rfl)
  rw [lg_entry_eq]
  generalize (lg_sl ([.ref h0, .int k]) ++ List.replicate (2 - (lg_sl ([.ref h0, .int k])).length) Slot.unset).toArray = ls at hl ⊢
  have hl : lv_has ls 2 [(0, .ref h0), (1, .int k)] := hl
  subst hsz
  have hS : va_S A s.heap s.heap [] := va_S.rf
  refine lv_iload_n hx hb dX2_note_0 rfl (lv_at hl 1 rfl) ?_
  refine lv_if_lt (tgt := 23) hx hb dX2_note_1 (by decide) (fun q => absurd q (vp_in_lo hk)) (fun _ => ?_)
  refine lv_iload_n hx hb dX2_note_4 rfl (lv_at hl 1 rfl) ?_
  refine lv_aload_n hx hb dX2_note_5 rfl (lv_at hl 0 rfl) ?_
  refine va_get (D := D) (ci := 2) (fs := [.ref h1, .ref h2, .ref h3, .int (nI n), .int cd]) (v := .ref h2) (C := RX2) (T := TX2) (N := 5) hx hb hts (by decide +kernel) hown hK hP 0 rfl rfl 1 (by decide) (hts (.fieldLink RX2 15 "TypedColumns" "counts" "[I") (by decide +kernel)) (fun _ h9 => h9) rfl dX2_note_6 ?_
  refine va_alen (v := 6) hx hb hK hP 2 0 rfl rfl rfl dX2_note_9 ?_
  refine lv_icmp_ge (tgt := 23) hx hb dX2_note_10 (by decide) (fun q => absurd q (vp_in_hi hk (by decide))) (fun _ => ?_)
  refine lv_aload_n hx hb dX2_note_13 rfl (lv_at hl 0 rfl) ?_
  refine va_get (D := D) (ci := 2) (fs := [.ref h1, .ref h2, .ref h3, .int (nI n), .int cd]) (v := .ref h2) (C := RX2) (T := TX2) (N := 5) hx hb hts (by decide +kernel) hown hK hP 0 rfl rfl 1 (by decide) (hts (.fieldLink RX2 15 "TypedColumns" "counts" "[I") (by decide +kernel)) (fun _ h9 => h9) rfl dX2_note_14 ?_
  refine lv_iload_n hx hb dX2_note_17 rfl (lv_at hl 1 rfl) ?_
  refine lv_dup2_11 hx hb dX2_note_18 rfl rfl ?_
  refine tc_iald (f := ct) (v := (ct k.toNatClampNeg)) hx hb hK hP 2 0 rfl rfl (hk) rfl dX2_note_19 ?_
  refine lv_iconst (v := 1) hx hb dX2_note_20 (by decide) ?_
  refine lv_iadd hx hb dX2_note_21 ?_
  refine va_iast (f := ct) hx hb hK hP hD hS 2 0 rfl rfl (hk) dX2_note_22 (fun H locs hP hD hS => ?_)
  have hP : va_P D vwCl (tc_T cI cJ cD cC h0 h1 h2 h3 h4 ad wd rd Y n K Ln Wh Re cd (noteC ct k)) H := hP
  have hD : va_D A (tc_T cI cJ cD cC h0 h1 h2 h3 h4 ad wd rd Y n K Ln Wh Re cd (noteC ct k)) := hD
  refine lv_aload_n hx hb dX2_note_23 rfl (lv_at hl 0 rfl) ?_
  refine lv_iload_n hx hb dX2_note_24 rfl (lv_at hl 1 rfl) ?_
  refine va_put (D := D) (ci := 2) (fs := [.ref h1, .ref h2, .ref h3, .int (nI n), .int cd]) (v := .int k) (ty := .int) (C := RX2) (T := TX2) (N := 5) hx hb hts (by decide +kernel) tyX2 tyX2_ok nmX2 hown hK hP hD hS 0 rfl rfl 4 (by decide) (hts (.fieldLink RX2 30 "TypedColumns" "latestCode" "I") (by decide +kernel)) (fun _ h9 => h9) rfl (by decide +kernel) rfl rfl (Nat.le_of_ble_eq_true rfl) dX2_note_25 (fun H locs hP hD hS => ?_)
  have hP : va_P D vwCl (tc_T cI cJ cD cC h0 h1 h2 h3 h4 ad wd rd Y n K Ln Wh Re k (noteC ct k)) H := hP
  have hD : va_D A (tc_T cI cJ cD cC h0 h1 h2 h3 h4 ad wd rd Y n K Ln Wh Re k (noteC ct k)) := hD
  refine lv_iload_n hx hb dX2_note_28 rfl (lv_at hl 1 rfl) ?_
  exact W.iret (v := k) hx hb hr (fun t9 ht9 hW9 => ⟨⟨k, (), rfl, rfl, by rw [ht9]; exact hP, hD⟩, hS.F ht9⟩) hS.2.2 dX2_note_29
set_option maxHeartbeats 4000000 in
set_option maxRecDepth 100000 in
theorem tX2_columnAt (l : Launch) (D : va_G) (A : Nat → Prop) (cI cJ cD cC : ClassId) (h0 h1 h2 h3 h4 : Nat) (ad wd rd : Nat → Nat) (Y : va_W) (n : Nat) (K : Nat → Int32) (Ln : Nat → Nat) (Wh : Nat → Int64) (Re : Nat → UInt64) (cd : Int32) (ct : Nat → Int32) (sz : Nat) (hn6 : n ≤ 60) (j : Nat) (hj : j < n) : Met l yX2_columnAt wsX2_columnAt ({ frames := 0, cells := 0, slots := 0, locals := 0 }) (tcP D A (tcTY cI cJ cD cC) sz [.ref h0, .int (nI j)] (tc_T cI cJ cD cC h0 h1 h2 h3 h4 ad wd rd Y n K Ln Wh Re cd ct)) (va_Sr (fun _ => True) (fun _ => .ref (ad j))) 0 0 (fun _ => False) := by
  refine Met.ofW (cc := cX2_columnAt) (maxL := 3) (ret := (some (.object "TypedColumns$Column"))) (by decide) rfl ?_
  intro p e s m args below meth c s₁ B hml hv
  obtain ⟨rfl, hsz, hP, hK, hD, hE⟩ := hv
  have hx := B.exec
  have hb := B.bytes
  have hr := B.returns
  have hts := atoms_spec (ws := wsX2_columnAt) B.pre
  have hown : s.vm.findClass RX2 = some m.cls := findClass_of_methodNamed B.named
  have hlocks := B.notSynchronized
  have hl := lv_entry ([.ref h0, .int (nI j)]) (n := 3) (Nat.le_of_ble_eq_true rfl)
  rw [lg_entry_eq]
  generalize (lg_sl ([.ref h0, .int (nI j)]) ++ List.replicate (3 - (lg_sl ([.ref h0, .int (nI j)])).length) Slot.unset).toArray = ls at hl ⊢
  have hl : lv_has ls 3 [(0, .ref h0), (1, .int (nI j))] := hl
  subst hsz
  have hS : va_S A s.heap s.heap [] := va_S.rf
  have hn31 : n < 2 ^ 31 := by omega
  refine lv_iload_n hx hb dX2_columnAt_0 rfl (lv_at hl 1 rfl) ?_
  refine lv_if_lt (tgt := 22) hx hb dX2_columnAt_1 (by decide) (fun q => absurd q (nI_pos (by omega))) (fun _ => ?_)
  refine lv_iload_n hx hb dX2_columnAt_4 rfl (lv_at hl 1 rfl) ?_
  refine lv_aload_n hx hb dX2_columnAt_5 rfl (lv_at hl 0 rfl) ?_
  refine va_get (D := D) (ci := 2) (fs := [.ref h1, .ref h2, .ref h3, .int (nI n), .int cd]) (v := .ref h1) (C := RX2) (T := TX2) (N := 5) hx hb hts (by decide +kernel) hown hK hP 0 rfl rfl 0 (by decide) (hts (.fieldLink RX2 11 "TypedColumns" "columns" "[LTypedColumns$Column;") (by decide +kernel)) (fun _ h9 => h9) rfl dX2_columnAt_6 ?_
  refine va_alen (v := 60) hx hb hK hP 1 3 rfl rfl rfl dX2_columnAt_9 ?_
  refine lv_icmp_ge (tgt := 22) hx hb dX2_columnAt_10 (by decide) (fun q => absurd q (nI_ge (Nat.lt_of_lt_of_le hj hn6) (by decide))) (fun _ => ?_)
  refine lv_aload_n hx hb dX2_columnAt_13 rfl (lv_at hl 0 rfl) ?_
  refine va_get (D := D) (ci := 2) (fs := [.ref h1, .ref h2, .ref h3, .int (nI n), .int cd]) (v := .ref h1) (C := RX2) (T := TX2) (N := 5) hx hb hts (by decide +kernel) hown hK hP 0 rfl rfl 0 (by decide) (hts (.fieldLink RX2 11 "TypedColumns" "columns" "[LTypedColumns$Column;") (by decide +kernel)) (fun _ h9 => h9) rfl dX2_columnAt_14 ?_
  refine lv_iload_n hx hb dX2_columnAt_17 rfl (lv_at hl 1 rfl) ?_
  refine tc_aldS (f := (fun j => if j < n then some (ad j) else none)) (v := ad j) hx hb hK hP 1 3 rfl rfl (vp_in_nI (Nat.lt_of_lt_of_le hj hn6) (by decide)) (by rw [nI_clamp (by omega)]; exact if_pos hj) dX2_columnAt_18 ?_
  refine lv_goto (tgt := 23) hx hb dX2_columnAt_19 (by decide) ?_
  refine lv_astore_n (lv' := [(2, .ref (ad j)), (0, .ref h0), (1, .int (nI j))]) hx hb dX2_columnAt_23 rfl hl (by decide) rfl (fun ls hl => ?_)
  refine lv_aload_n hx hb dX2_columnAt_24 rfl (lv_at hl 0 rfl) ?_
  refine lv_ifnonnull (tgt := 38) hx hb dX2_columnAt_25 (by decide) ?_
  refine lv_aload_n hx hb dX2_columnAt_38 rfl (lv_at hl 0 rfl) ?_
  exact W.aret (v := .ref (ad j)) hx hb hr (Or.inl ⟨_, rfl⟩) (Or.inr ⟨_, rfl⟩) (fun t ht hW => ⟨0, rfl, trivial, ht⟩) (fun q hq => absurd hq List.not_mem_nil) dX2_columnAt_39
set_option maxHeartbeats 4000000 in
set_option maxRecDepth 100000 in
theorem oX2_codeOfColumn (l : Launch) (D : va_G) (A : Nat → Prop) (cI cJ cD cC : ClassId) (ws : va_W) (p0 p1 p2 : Nat) (a w r : Nat) (k len : Int32) (nw nr : Nat) (f : Nat → Int64) (g : Nat → UInt64) (sz : Nat) (e0 : ws[p0]? = some (a, .inr (0, [.int k, .int len, .ref w, .ref r]))) (e1 : ws[p1]? = some (w, .inl (cJ, nw, .inr (.inl f)))) (e2 : ws[p2]? = some (r, .inl (cD, nr, .inr (.inr (.inr (.inl g)))))) (hn : nw < 2 ^ 31 ∧ nr < 2 ^ 31) : Met l yX2_codeOfColumn wsX2_codeOfColumn ({ frames := 0, cells := 0, slots := 0, locals := 0 }) (tcP D A (tcTY cI cJ cD cC) sz [.ref a] ws) (vp_Si (fun r => r = kCol k)) 0 0 (fun _ => False) := by
  refine Met.ofW (cc := cX2_codeOfColumn) (maxL := 1) (ret := (some .int)) (by decide) rfl ?_
  intro p e s m args below meth c s₁ B hml hv
  obtain ⟨rfl, hsz, hP, hK, hD, hE⟩ := hv
  have hx := B.exec
  have hb := B.bytes
  have hr := B.returns
  have hts := atoms_spec (ws := wsX2_codeOfColumn) B.pre
  have hown : s.vm.findClass RX2 = some m.cls := findClass_of_methodNamed B.named
  have hlocks := B.notSynchronized
  have hl := lv_entry ([.ref a]) (n := 1) (Nat.le_of_ble_eq_true rfl)
  rw [lg_entry_eq]
  generalize (lg_sl ([.ref a]) ++ List.replicate (1 - (lg_sl ([.ref a])).length) Slot.unset).toArray = ls at hl ⊢
  have hl : lv_has ls 1 [(0, .ref a)] := hl
  subst hsz
  have hS : va_S A s.heap s.heap [] := va_S.rf
  refine lv_aload_n hx hb dX2_codeOfColumn_0 rfl (lv_at hl 0 rfl) ?_
  refine va_get (D := D) (ci := 0) (fs := [.int k, .int len, .ref w, .ref r]) (v := .int k) (C := RX0) (T := TX0) (N := 4) hx hb hts (by decide +kernel) hown hK hP p0 e0 rfl 0 (by decide) (hts (.fieldLink RX2 66 "TypedColumns$Column" "kind" "I") (by decide +kernel)) (fun _ h9 => h9) rfl dX2_codeOfColumn_1 ?_
  refine lv_if_ne (tgt := 9) hx hb dX2_codeOfColumn_4 (by decide) (fun c_1 => ?_) (fun c_1 => ?_)
  · refine lv_aload_n hx hb dX2_codeOfColumn_9 rfl (lv_at hl 0 rfl) ?_
    refine va_get (D := D) (ci := 0) (fs := [.int k, .int len, .ref w, .ref r]) (v := .int k) (C := RX0) (T := TX0) (N := 4) hx hb hts (by decide +kernel) hown hK hP p0 e0 rfl 0 (by decide) (hts (.fieldLink RX2 66 "TypedColumns$Column" "kind" "I") (by decide +kernel)) (fun _ h9 => h9) rfl dX2_codeOfColumn_10 ?_
    refine lv_bipush (v := 9) hx hb dX2_codeOfColumn_13 (by decide) ?_
    refine lv_icmp_ne (tgt := 22) hx hb dX2_codeOfColumn_15 (by decide) (fun c_2 => ?_) (fun c_2 => ?_)
    · refine lv_iconst (v := 0) hx hb dX2_codeOfColumn_22 (by decide) ?_
      exact W.iret (v := 0) hx hb hr (fun t9 ht9 hW9 => ⟨0, rfl, by simp [kCol, c_1, c_2], ht9⟩) (fun q hq => absurd hq List.not_mem_nil) dX2_codeOfColumn_23
    · refine lv_iconst (v := 2) hx hb dX2_codeOfColumn_18 (by decide) ?_
      refine lv_goto (tgt := 23) hx hb dX2_codeOfColumn_19 (by decide) ?_
      exact W.iret (v := 2) hx hb hr (fun t9 ht9 hW9 => ⟨2, rfl, by simp [kCol, c_1, c_2], ht9⟩) (fun q hq => absurd hq List.not_mem_nil) dX2_codeOfColumn_23
  · refine lv_iconst (v := 1) hx hb dX2_codeOfColumn_7 (by decide) ?_
    exact W.iret (v := 1) hx hb hr (fun t9 ht9 hW9 => ⟨1, rfl, by simp [kCol, c_1], ht9⟩) (fun q hq => absurd hq List.not_mem_nil) dX2_codeOfColumn_8
set_option maxHeartbeats 4000000 in
set_option maxRecDepth 100000 in
theorem oX2_codeOfCell (l : Launch) (D : va_G) (A : Nat → Prop) (cI cJ cD cC : ClassId) (ws : va_W) (p0 p1 p2 : Nat) (a w r : Nat) (k len : Int32) (nw nr : Nat) (f : Nat → Int64) (g : Nat → UInt64) (sz : Nat) (e0 : ws[p0]? = some (a, .inr (0, [.int k, .int len, .ref w, .ref r]))) (e1 : ws[p1]? = some (w, .inl (cJ, nw, .inr (.inl f)))) (e2 : ws[p2]? = some (r, .inl (cD, nr, .inr (.inr (.inr (.inl g)))))) (hn : nw < 2 ^ 31 ∧ nr < 2 ^ 31) (i x y : Int32) : Met l yX2_codeOfCell wsX2_codeOfCell ({ frames := 2, cells := 0, slots := 0, locals := 41 }) (tcP D A (tcTY cI cJ cD cC) sz [.ref a, .int i, .int x, .int y] ws) (vp_Si (fun r => r = kCell k len i x y)) 0 0 (fun _ => False) := by
  refine Met.ofW (cc := cX2_codeOfCell) (maxL := 5) (ret := (some .int)) (by decide) rfl ?_
  intro p e s m args below meth c s₁ B hml hv
  obtain ⟨rfl, hsz, hP, hK, hD, hE⟩ := hv
  have hx := B.exec
  have hb := B.bytes
  have hr := B.returns
  have hts := atoms_spec (ws := wsX2_codeOfCell) B.pre
  have hown : s.vm.findClass RX2 = some m.cls := findClass_of_methodNamed B.named
  have hlocks := B.notSynchronized
  have hl := lv_entry ([.ref a, .int i, .int x, .int y]) (n := 5) (Nat.le_of_ble_eq_true rfl)
  rw [lg_entry_eq]
  generalize (lg_sl ([.ref a, .int i, .int x, .int y]) ++ List.replicate (5 - (lg_sl ([.ref a, .int i, .int x, .int y])).length) Slot.unset).toArray = ls at hl ⊢
  have hl : lv_has ls 5 [(0, .ref a), (1, .int i), (2, .int x), (3, .int y)] := hl
  subst hsz
  have hS : va_S A s.heap s.heap [] := va_S.rf
  refine lv_aload_n hx hb dX2_codeOfCell_0 rfl (lv_at hl 0 rfl) ?_
  refine vp_callSi (tc_CR (va_runS (As := [.ref a]) (rest := []) ⟨hx, hb, hml, hown, hts⟩ (oX2_codeOfColumn l D A cI cJ cD cC ws p0 p1 p2 a w r k len nw nr f g s.heap.size e0 e1 e2 hn) (va_cwS 1 hts gX2_codeOfCell_X2_codeOfColumn rfl rfl rfl (by decide +kernel) ⟨Nat.le_of_ble_eq_true rfl, Nat.le_of_ble_eq_true rfl⟩) ⟨tcP.blind, (tcP.go hK hP hD hE hS)⟩ rfl rfl hl.1 rfl (lv_room (Nat.le_of_ble_eq_true rfl)) dX2_codeOfCell_1 ⟨Nat.le_of_ble_eq_true rfl, Nat.le_of_ble_eq_true rfl⟩)) (fun r_1 hr_1 => ?_)
  subst hr_1
  refine lv_istore (lv' := [(4, .int (kCol k)), (0, .ref a), (1, .int i), (2, .int x), (3, .int y)]) hx hb dX2_codeOfCell_4 hl (by decide) rfl (fun ls hl => ?_)
  refine lv_iload hx hb dX2_codeOfCell_6 (lv_at hl 0 rfl) ?_
  refine lv_if_eq (tgt := 14) hx hb dX2_codeOfCell_8 (by decide) (fun c_2 => ?_) (fun c_2 => ?_)
  · refine lv_iload_n hx hb dX2_codeOfCell_14 rfl (lv_at hl 2 rfl) ?_
    refine lv_if_lt (tgt := 26) hx hb dX2_codeOfCell_15 (by decide) (fun c_3 => ?_) (fun c_3 => ?_)
    · refine lv_iconst (v := 3) hx hb dX2_codeOfCell_26 (by decide) ?_
      exact W.iret (v := 3) hx hb hr (fun t9 ht9 hW9 => ⟨3, rfl, by simp [kCell, c_2, c_3], ht9⟩) (fun q hq => absurd hq List.not_mem_nil) dX2_codeOfCell_27
    · refine lv_iload_n hx hb dX2_codeOfCell_18 rfl (lv_at hl 2 rfl) ?_
      refine lv_aload_n hx hb dX2_codeOfCell_19 rfl (lv_at hl 1 rfl) ?_
      refine va_get (D := D) (ci := 0) (fs := [.int k, .int len, .ref w, .ref r]) (v := .int len) (C := RX0) (T := TX0) (N := 4) hx hb hts (by decide +kernel) hown hK hP p0 e0 rfl 1 (by decide) (hts (.fieldLink RX2 76 "TypedColumns$Column" "length" "I") (by decide +kernel)) (fun _ h9 => h9) rfl dX2_codeOfCell_20 ?_
      refine lv_icmp_lt (tgt := 28) hx hb dX2_codeOfCell_23 (by decide) (fun c_4 => ?_) (fun c_4 => ?_)
      · refine lv_iload_n hx hb dX2_codeOfCell_28 rfl (lv_at hl 3 rfl) ?_
        refine lv_iload_n hx hb dX2_codeOfCell_29 rfl (lv_at hl 4 rfl) ?_
        refine vp_callSi (W.runS (As := [.int x, .int y]) (rest := []) ⟨hx, hb, hml, hown, hts⟩ (kX2_widens l x y) (va_cwS 2 hts gX2_codeOfCell_X2_widens rfl rfl rfl (by decide +kernel) ⟨Nat.le_of_ble_eq_true rfl, Nat.le_of_ble_eq_true rfl⟩) ⟨fun a U g mk q => q, fun U hU hW => ⟨rfl, trivial⟩⟩ rfl rfl hl.1 rfl (lv_room (Nat.le_of_ble_eq_true rfl)) dX2_codeOfCell_30 ⟨Nat.zero_le _, Nat.zero_le _⟩) (fun r_5 hr_5 => ?_)
        subst hr_5
        refine lv_if_eq (tgt := 40) hx hb dX2_codeOfCell_33 (by decide) (fun c_6 => ?_) (fun c_6 => ?_)
        · refine lv_iconst (v := 4) hx hb dX2_codeOfCell_40 (by decide) ?_
          exact W.iret (v := 4) hx hb hr (fun t9 ht9 hW9 => ⟨4, rfl, by
      simp only [tb_0, Bool.not_eq_false] at c_6
      simp [kCell, c_2, c_3, c_4, c_6], ht9⟩) (fun q hq => absurd hq List.not_mem_nil) dX2_codeOfCell_41
        · refine lv_iconst (v := 0) hx hb dX2_codeOfCell_36 (by decide) ?_
          refine lv_goto (tgt := 41) hx hb dX2_codeOfCell_37 (by decide) ?_
          exact W.iret (v := 0) hx hb hr (fun t9 ht9 hW9 => ⟨0, rfl, by
      simp only [tb_0, Bool.not_eq_false] at c_6
      simp [kCell, c_2, c_3, c_4, c_6], ht9⟩) (fun q hq => absurd hq List.not_mem_nil) dX2_codeOfCell_41
      · refine lv_iconst (v := 3) hx hb dX2_codeOfCell_26 (by decide) ?_
        exact W.iret (v := 3) hx hb hr (fun t9 ht9 hW9 => ⟨3, rfl, by simp [kCell, c_2, c_3, c_4], ht9⟩) (fun q hq => absurd hq List.not_mem_nil) dX2_codeOfCell_27
  · refine lv_iload hx hb dX2_codeOfCell_11 (lv_at hl 0 rfl) ?_
    exact W.iret (v := (kCol k)) hx hb hr (fun t9 ht9 hW9 => ⟨(kCol k), rfl, by simp [kCell, c_2], ht9⟩) (fun q hq => absurd hq List.not_mem_nil) dX2_codeOfCell_13
set_option maxHeartbeats 4000000 in
set_option maxRecDepth 100000 in
theorem oX2_codeOfKinds (l : Launch) (D : va_G) (A : Nat → Prop) (cI cJ cD cC : ClassId) (ws : va_W) (p0 p1 p2 : Nat) (a w r : Nat) (k len : Int32) (nw nr : Nat) (f : Nat → Int64) (g : Nat → UInt64) (sz : Nat) (e0 : ws[p0]? = some (a, .inr (0, [.int k, .int len, .ref w, .ref r]))) (e1 : ws[p1]? = some (w, .inl (cJ, nw, .inr (.inl f)))) (e2 : ws[p2]? = some (r, .inl (cD, nr, .inr (.inr (.inr (.inl g)))))) (hn : nw < 2 ^ 31 ∧ nr < 2 ^ 31) (u0 u1 u2 : Nat) (sa sw sr : Nat) (sk slen : Int32) (snw snr : Nat) (sf : Nat → Int64) (sg : Nat → UInt64) (d0 : ws[u0]? = some (sa, .inr (0, [.int sk, .int slen, .ref sw, .ref sr]))) (d1 : ws[u1]? = some (sw, .inl (cJ, snw, .inr (.inl sf)))) (d2 : ws[u2]? = some (sr, .inl (cD, snr, .inr (.inr (.inr (.inl sg)))))) (hm : snw < 2 ^ 31 ∧ snr < 2 ^ 31) : Met l yX2_codeOfKinds wsX2_codeOfKinds ({ frames := 0, cells := 0, slots := 0, locals := 0 }) (tcP D A (tcTY cI cJ cD cC) sz [.ref a, .ref sa] ws) (vp_Si (fun r => r = kKinds k sk)) 0 0 (fun _ => False) := by
  refine Met.ofW (cc := cX2_codeOfKinds) (maxL := 3) (ret := (some .int)) (by decide) rfl ?_
  intro p e s m args below meth c s₁ B hml hv
  obtain ⟨rfl, hsz, hP, hK, hD, hE⟩ := hv
  have hx := B.exec
  have hb := B.bytes
  have hr := B.returns
  have hts := atoms_spec (ws := wsX2_codeOfKinds) B.pre
  have hown : s.vm.findClass RX2 = some m.cls := findClass_of_methodNamed B.named
  have hlocks := B.notSynchronized
  have hl := lv_entry ([.ref a, .ref sa]) (n := 3) (Nat.le_of_ble_eq_true rfl)
  rw [lg_entry_eq]
  generalize (lg_sl ([.ref a, .ref sa]) ++ List.replicate (3 - (lg_sl ([.ref a, .ref sa])).length) Slot.unset).toArray = ls at hl ⊢
  have hl : lv_has ls 3 [(0, .ref a), (1, .ref sa)] := hl
  subst hsz
  have hS : va_S A s.heap s.heap [] := va_S.rf
  refine lv_aload_n hx hb dX2_codeOfKinds_0 rfl (lv_at hl 0 rfl) ?_
  refine va_get (D := D) (ci := 0) (fs := [.int k, .int len, .ref w, .ref r]) (v := .int k) (C := RX0) (T := TX0) (N := 4) hx hb hts (by decide +kernel) hown hK hP p0 e0 rfl 0 (by decide) (hts (.fieldLink RX2 66 "TypedColumns$Column" "kind" "I") (by decide +kernel)) (fun _ h9 => h9) rfl dX2_codeOfKinds_1 ?_
  refine lv_if_eq (tgt := 14) hx hb dX2_codeOfKinds_4 (by decide) (fun c_1 => ?_) (fun c_1 => ?_)
  · refine lv_iconst (v := 1) hx hb dX2_codeOfKinds_14 (by decide) ?_
    exact W.iret (v := 1) hx hb hr (fun t9 ht9 hW9 => ⟨1, rfl, by unfold kKinds; rw [if_pos c_1], ht9⟩) (fun q hq => absurd hq List.not_mem_nil) dX2_codeOfKinds_15
  · refine lv_aload_n hx hb dX2_codeOfKinds_7 rfl (lv_at hl 1 rfl) ?_
    refine va_get (D := D) (ci := 0) (fs := [.int sk, .int slen, .ref sw, .ref sr]) (v := .int sk) (C := RX0) (T := TX0) (N := 4) hx hb hts (by decide +kernel) hown hK hP u0 d0 rfl 0 (by decide) (hts (.fieldLink RX2 66 "TypedColumns$Column" "kind" "I") (by decide +kernel)) (fun _ h9 => h9) rfl dX2_codeOfKinds_8 ?_
    refine lv_if_ne (tgt := 16) hx hb dX2_codeOfKinds_11 (by decide) (fun c_2 => ?_) (fun c_2 => ?_)
    · refine lv_aload_n hx hb dX2_codeOfKinds_16 rfl (lv_at hl 0 rfl) ?_
      refine va_get (D := D) (ci := 0) (fs := [.int k, .int len, .ref w, .ref r]) (v := .int k) (C := RX0) (T := TX0) (N := 4) hx hb hts (by decide +kernel) hown hK hP p0 e0 rfl 0 (by decide) (hts (.fieldLink RX2 66 "TypedColumns$Column" "kind" "I") (by decide +kernel)) (fun _ h9 => h9) rfl dX2_codeOfKinds_17 ?_
      refine lv_aload_n hx hb dX2_codeOfKinds_20 rfl (lv_at hl 1 rfl) ?_
      refine va_get (D := D) (ci := 0) (fs := [.int sk, .int slen, .ref sw, .ref sr]) (v := .int sk) (C := RX0) (T := TX0) (N := 4) hx hb hts (by decide +kernel) hown hK hP u0 d0 rfl 0 (by decide) (hts (.fieldLink RX2 66 "TypedColumns$Column" "kind" "I") (by decide +kernel)) (fun _ h9 => h9) rfl dX2_codeOfKinds_21 ?_
      refine lv_icmp_ne (tgt := 40) hx hb dX2_codeOfKinds_24 (by decide) (fun c_3 => ?_) (fun c_3 => ?_)
      · refine lv_iconst (v := 0) hx hb dX2_codeOfKinds_40 (by decide) ?_
        refine lv_istore_n (lv' := [(2, .int 0), (0, .ref a), (1, .ref sa)]) hx hb dX2_codeOfKinds_41 rfl hl (by decide) rfl (fun ls hl => ?_)
        refine lv_iload_n hx hb dX2_codeOfKinds_42 rfl (lv_at hl 0 rfl) ?_
        refine lv_if_eq (tgt := 50) hx hb dX2_codeOfKinds_43 (by decide) (fun _ => ?_) (fun q => absurd (by decide) q)
        refine lv_iconst (v := 5) hx hb dX2_codeOfKinds_50 (by decide) ?_
        exact W.iret (v := 5) hx hb hr (fun t9 ht9 hW9 => ⟨5, rfl, by unfold kKinds; rw [if_neg c_1, if_neg c_2, if_neg c_3], ht9⟩) (fun q hq => absurd hq List.not_mem_nil) dX2_codeOfKinds_51
      · refine lv_aload_n hx hb dX2_codeOfKinds_27 rfl (lv_at hl 0 rfl) ?_
        refine va_get (D := D) (ci := 0) (fs := [.int k, .int len, .ref w, .ref r]) (v := .int k) (C := RX0) (T := TX0) (N := 4) hx hb hts (by decide +kernel) hown hK hP p0 e0 rfl 0 (by decide) (hts (.fieldLink RX2 66 "TypedColumns$Column" "kind" "I") (by decide +kernel)) (fun _ h9 => h9) rfl dX2_codeOfKinds_28 ?_
        refine lv_bipush (v := 9) hx hb dX2_codeOfKinds_31 (by decide) ?_
        refine lv_icmp_eq (tgt := 40) hx hb dX2_codeOfKinds_33 (by decide) (fun c_5 => ?_) (fun c_5 => ?_)
        · refine lv_iconst (v := 0) hx hb dX2_codeOfKinds_40 (by decide) ?_
          refine lv_istore_n (lv' := [(2, .int 0), (0, .ref a), (1, .ref sa)]) hx hb dX2_codeOfKinds_41 rfl hl (by decide) rfl (fun ls hl => ?_)
          refine lv_iload_n hx hb dX2_codeOfKinds_42 rfl (lv_at hl 0 rfl) ?_
          refine lv_if_eq (tgt := 50) hx hb dX2_codeOfKinds_43 (by decide) (fun _ => ?_) (fun q => absurd (by decide) q)
          refine lv_iconst (v := 5) hx hb dX2_codeOfKinds_50 (by decide) ?_
          exact W.iret (v := 5) hx hb hr (fun t9 ht9 hW9 => ⟨5, rfl, by unfold kKinds; rw [if_neg c_1, if_neg c_2, if_pos c_3, if_pos c_5], ht9⟩) (fun q hq => absurd hq List.not_mem_nil) dX2_codeOfKinds_51
        · refine lv_iconst (v := 1) hx hb dX2_codeOfKinds_36 (by decide) ?_
          refine lv_goto (tgt := 41) hx hb dX2_codeOfKinds_37 (by decide) ?_
          refine lv_istore_n (lv' := [(2, .int 1), (0, .ref a), (1, .ref sa)]) hx hb dX2_codeOfKinds_41 rfl hl (by decide) rfl (fun ls hl => ?_)
          refine lv_iload_n hx hb dX2_codeOfKinds_42 rfl (lv_at hl 0 rfl) ?_
          refine lv_if_eq (tgt := 50) hx hb dX2_codeOfKinds_43 (by decide) (fun q => absurd q (by decide)) (fun _ => ?_)
          refine lv_iconst (v := 0) hx hb dX2_codeOfKinds_46 (by decide) ?_
          refine lv_goto (tgt := 51) hx hb dX2_codeOfKinds_47 (by decide) ?_
          exact W.iret (v := 0) hx hb hr (fun t9 ht9 hW9 => ⟨0, rfl, by unfold kKinds; rw [if_neg c_1, if_neg c_2, if_pos c_3, if_neg c_5], ht9⟩) (fun q hq => absurd hq List.not_mem_nil) dX2_codeOfKinds_51
    · refine lv_iconst (v := 1) hx hb dX2_codeOfKinds_14 (by decide) ?_
      exact W.iret (v := 1) hx hb hr (fun t9 ht9 hW9 => ⟨1, rfl, by unfold kKinds; rw [if_neg c_1, if_pos c_2], ht9⟩) (fun q hq => absurd hq List.not_mem_nil) dX2_codeOfKinds_15
set_option maxHeartbeats 4000000 in
set_option maxRecDepth 100000 in
theorem tX2_readReal (l : Launch) (D : va_G) (A : Nat → Prop) (cI cJ cD cC : ClassId) (h0 h1 h2 h3 h4 : Nat) (ad wd rd : Nat → Nat) (Y : va_W) (n : Nat) (K : Nat → Int32) (Ln : Nat → Nat) (Wh : Nat → Int64) (Re : Nat → UInt64) (cd : Int32) (ct : Nat → Int32) (sz : Nat) (hI : tcI n K Ln Wh Re) (j : Nat) (hj : j < n) (i kd : Int32) : Met l yX2_readReal wsX2_readReal ({ frames := 3, cells := 0, slots := 0, locals := 65 }) (tcP D A (tcTY cI cJ cD cC) sz [.ref h0, .ref (ad j), .int i, .int kd] (tc_T cI cJ cD cC h0 h1 h2 h3 h4 ad wd rd Y n K Ln Wh Re cd ct)) (va_Qd (fun r (_ : Unit) => r = rdR K Ln Wh Re j i kd) (fun _ t => tcB D A (tc_T cI cJ cD cC h0 h1 h2 h3 h4 ad wd rd Y n K Ln Wh Re (cdR K Ln j i (K j) kd) (noteC ct (cdR K Ln j i (K j) kd))) t) A) 0 0 A := by
  refine Met.ofW (cc := cX2_readReal) (maxL := 5) (ret := (some .double)) (by decide) rfl ?_
  intro p e s m args below meth c s₁ B hml hv
  obtain ⟨rfl, hsz, hP, hK, hD, hE⟩ := hv
  have hx := B.exec
  have hb := B.bytes
  have hr := B.returns
  have hts := atoms_spec (ws := wsX2_readReal) B.pre
  have hown : s.vm.findClass RX2 = some m.cls := findClass_of_methodNamed B.named
  have hlocks := B.notSynchronized
  have hl := lv_entry ([.ref h0, .ref (ad j), .int i, .int kd]) (n := 5) (Nat.le_of_ble_eq_true rfl)
  rw [lg_entry_eq]
  generalize (lg_sl ([.ref h0, .ref (ad j), .int i, .int kd]) ++ List.replicate (5 - (lg_sl ([.ref h0, .ref (ad j), .int i, .int kd])).length) Slot.unset).toArray = ls at hl ⊢
  have hl : lv_has ls 5 [(0, .ref h0), (1, .ref (ad j)), (2, .int i), (3, .int kd)] := hl
  subst hsz
  have hS : va_S A s.heap s.heap [] := va_S.rf
  refine lv_aload_n hx hb dX2_readReal_0 rfl (lv_at hl 0 rfl) ?_
  refine lv_aload_n hx hb dX2_readReal_1 rfl (lv_at hl 1 rfl) ?_
  refine lv_iload_n hx hb dX2_readReal_2 rfl (lv_at hl 2 rfl) ?_
  refine lv_aload_n hx hb dX2_readReal_3 rfl (lv_at hl 1 rfl) ?_
  refine va_get (D := D) (ci := 0) (fs := [.int (K j), .int (tc_cl (K j) (Ln j)), .ref (wd j), .ref (rd j)]) (v := .int (K j)) (C := RX0) (T := TX0) (N := 4) hx hb hts (by decide +kernel) hown hK hP (5 + (Y.length + (3 * j + 0))) (tc_T0 hj) rfl 0 (by decide) (hts (.fieldLink RX2 66 "TypedColumns$Column" "kind" "I") (by decide +kernel)) (fun _ h9 => h9) rfl dX2_readReal_4 ?_
  refine lv_iload_n hx hb dX2_readReal_7 rfl (lv_at hl 3 rfl) ?_
  refine vp_callSi (tc_CR (va_runS (As := [.ref (ad j), .int i, .int (K j), .int kd]) (rest := [.ref h0]) ⟨hx, hb, hml, hown, hts⟩ (oX2_codeOfCell l D A cI cJ cD cC (tc_T cI cJ cD cC h0 h1 h2 h3 h4 ad wd rd Y n K Ln Wh Re cd ct) (5 + (Y.length + (3 * j + 0))) (5 + (Y.length + (3 * j + 1))) (5 + (Y.length + (3 * j + 2))) (ad j) (wd j) (rd j) (K j) (tc_cl (K j) (Ln j)) (tc_wl (K j) (Ln j)) (tc_rl (K j) (Ln j)) (tc_sl (tc_wl (K j) (Ln j)) (fun i => Wh (40 * j + i)) 0) (tc_sl (tc_rl (K j) (Ln j)) (fun i => Re (40 * j + i)) 0) s.heap.size (tc_T0 hj) (tc_T1 hj) (tc_T2 hj) (tc_len_lt (hI.2.1 j hj).2.1) i (K j) kd) (va_cwS 4 hts gX2_readReal_X2_codeOfCell rfl rfl rfl (by decide +kernel) ⟨Nat.le_of_ble_eq_true rfl, Nat.le_of_ble_eq_true rfl⟩) ⟨tcP.blind, (tcP.go hK hP hD hE hS)⟩ rfl rfl hl.1 rfl (lv_room (Nat.le_of_ble_eq_true rfl)) dX2_readReal_8 ⟨Nat.le_of_ble_eq_true rfl, Nat.le_of_ble_eq_true rfl⟩)) (fun r_1 hr_1 => ?_)
  subst hr_1
  refine va_calli (va_runV (As := [.int (cdR K Ln j i (K j) kd)]) (rest := []) ⟨hx, hb, hml, hown, hts⟩ (tX2_note l D A cI cJ cD cC h0 h1 h2 h3 h4 ad wd rd Y n K Ln Wh Re cd ct s.heap.size (cdR K Ln j i (K j) kd) (kCell_in _ _ _ _ _)) (cwV 1 hts gX2_readReal_X2_note rfl rfl rfl (by decide +kernel) ⟨Nat.le_of_ble_eq_true rfl, Nat.le_of_ble_eq_true rfl⟩) ⟨tcP.blind, (va_recv hK hP (ci := 2) (q0 := 0) rfl rfl), (tcP.go hK hP hD hE hS)⟩ rfl rfl hl.1 rfl (lv_room (Nat.le_of_ble_eq_true rfl)) dX2_readReal_11 ⟨Nat.le_of_ble_eq_true rfl, Nat.le_of_ble_eq_true rfl⟩) hS (fun q _ h => h) (fun q h => h) (fun r_2 u t H locs ht hvm hw hB hz1 hk1 hS => ?_)
  subst hw
  obtain ⟨hP, hD⟩ := hB
  rw [ht] at hP
  refine lv_istore (lv' := [(4, .int (cdR K Ln j i (K j) kd)), (0, .ref h0), (1, .ref (ad j)), (2, .int i), (3, .int kd)]) hx hb dX2_readReal_14 hl (by decide) rfl (fun ls hl => ?_)
  refine lv_iload hx hb dX2_readReal_16 (lv_at hl 0 rfl) ?_
  refine lv_if_ne (tgt := 29) hx hb dX2_readReal_18 (by decide) (fun c_3 => ?_) (fun c_3 => ?_)
  · refine lv_dconst0 hx hb dX2_readReal_29 ?_
    exact W.dret (v := FP.dconst0) hx hb hr (fun t9 ht9 hW9 => ⟨⟨FP.dconst0, (), rfl, by unfold rdR; rw [if_neg c_3]; rfl, by rw [ht9]; exact hP, hD⟩, hS.F ht9⟩) hS.2.2 dX2_readReal_30
  · refine lv_aload_n hx hb dX2_readReal_21 rfl (lv_at hl 2 rfl) ?_
    refine lv_iload_n hx hb dX2_readReal_22 rfl (lv_at hl 3 rfl) ?_
    have g0 := cdR_0 (hI.2.1 j hj).1 (hI.2.1 j hj).2.1 c_3
    cases gf : kFl (K j)
    · have gi : vp_in i (tc_wl (K j) (Ln j)) := by rw [tc_wl_n gf]; exact g0.2.2
      refine vp_callSd (tc_CR (va_runV (As := [.int i]) (rest := []) ⟨hx, hb, hml, hown, hts⟩ (oX0_doubleAt_w l D A cI cJ cD cC (tc_T cI cJ cD cC h0 h1 h2 h3 h4 ad wd rd Y n K Ln Wh Re (cdR K Ln j i (K j) kd) (noteC ct (cdR K Ln j i (K j) kd))) (5 + (Y.length + (3 * j + 0))) (5 + (Y.length + (3 * j + 1))) (5 + (Y.length + (3 * j + 2))) (ad j) (wd j) (rd j) (K j) (tc_cl (K j) (Ln j)) (tc_wl (K j) (Ln j)) (tc_rl (K j) (Ln j)) (tc_sl (tc_wl (K j) (Ln j)) (fun i => Wh (40 * j + i)) 0) (tc_sl (tc_rl (K j) (Ln j)) (fun i => Re (40 * j + i)) 0) H.size (tc_T0 hj) (tc_T1 hj) (tc_T2 hj) (tc_len_lt (hI.2.1 j hj).2.1) i gi gf) (cwV 1 hts gX2_readReal_X0_doubleAt rfl rfl rfl (by decide +kernel) ⟨Nat.le_of_ble_eq_true rfl, Nat.le_of_ble_eq_true rfl⟩) ⟨tcP.blind, (va_recv hK hP (ci := 0) (q0 := (5 + (Y.length + (3 * j + 0)))) rfl (tc_T0 hj)), (tcP.go hK hP hD hE hS)⟩ rfl rfl hl.1 rfl (lv_room (Nat.le_of_ble_eq_true rfl)) dX2_readReal_23 ⟨Nat.le_of_ble_eq_true rfl, Nat.le_of_ble_eq_true rfl⟩)) (fun r_4 hr_4 => ?_)
      subst hr_4
      rw [tc_sl_in (vp_in_lt gi)]
      refine lv_goto (tgt := 30) hx hb dX2_readReal_26 (by decide) ?_
      exact W.dret (v := (FP.l2d (Wh (40 * j + i.toNatClampNeg)))) hx hb hr (fun t9 ht9 hW9 => ⟨⟨(FP.l2d (Wh (40 * j + i.toNatClampNeg))), (), rfl, by unfold rdR; rw [if_pos c_3, if_neg (by rw [gf]; decide)], by rw [ht9]; exact hP, hD⟩, hS.F ht9⟩) hS.2.2 dX2_readReal_30
    · have gi : vp_in i (tc_rl (K j) (Ln j)) := by rw [tc_rl_n gf]; exact g0.2.2
      refine vp_callSd (tc_CR (va_runV (As := [.int i]) (rest := []) ⟨hx, hb, hml, hown, hts⟩ (oX0_doubleAt_r l D A cI cJ cD cC (tc_T cI cJ cD cC h0 h1 h2 h3 h4 ad wd rd Y n K Ln Wh Re (cdR K Ln j i (K j) kd) (noteC ct (cdR K Ln j i (K j) kd))) (5 + (Y.length + (3 * j + 0))) (5 + (Y.length + (3 * j + 1))) (5 + (Y.length + (3 * j + 2))) (ad j) (wd j) (rd j) (K j) (tc_cl (K j) (Ln j)) (tc_wl (K j) (Ln j)) (tc_rl (K j) (Ln j)) (tc_sl (tc_wl (K j) (Ln j)) (fun i => Wh (40 * j + i)) 0) (tc_sl (tc_rl (K j) (Ln j)) (fun i => Re (40 * j + i)) 0) H.size (tc_T0 hj) (tc_T1 hj) (tc_T2 hj) (tc_len_lt (hI.2.1 j hj).2.1) i gi gf) (cwV 1 hts gX2_readReal_X0_doubleAt rfl rfl rfl (by decide +kernel) ⟨Nat.le_of_ble_eq_true rfl, Nat.le_of_ble_eq_true rfl⟩) ⟨tcP.blind, (va_recv hK hP (ci := 0) (q0 := (5 + (Y.length + (3 * j + 0)))) rfl (tc_T0 hj)), (tcP.go hK hP hD hE hS)⟩ rfl rfl hl.1 rfl (lv_room (Nat.le_of_ble_eq_true rfl)) dX2_readReal_23 ⟨Nat.le_of_ble_eq_true rfl, Nat.le_of_ble_eq_true rfl⟩)) (fun r_5 hr_5 => ?_)
      subst hr_5
      rw [tc_sl_in (vp_in_lt gi)]
      refine lv_goto (tgt := 30) hx hb dX2_readReal_26 (by decide) ?_
      exact W.dret (v := (Re (40 * j + i.toNatClampNeg))) hx hb hr (fun t9 ht9 hW9 => ⟨⟨(Re (40 * j + i.toNatClampNeg)), (), rfl, by unfold rdR; rw [if_pos c_3, if_pos gf], by rw [ht9]; exact hP, hD⟩, hS.F ht9⟩) hS.2.2 dX2_readReal_30
set_option maxHeartbeats 4000000 in
set_option maxRecDepth 100000 in
theorem tX2_writeWhole (l : Launch) (D : va_G) (A : Nat → Prop) (cI cJ cD cC : ClassId) (h0 h1 h2 h3 h4 : Nat) (ad wd rd : Nat → Nat) (Y : va_W) (n : Nat) (K : Nat → Int32) (Ln : Nat → Nat) (Wh : Nat → Int64) (Re : Nat → UInt64) (cd : Int32) (ct : Nat → Int32) (sz : Nat) (hI : tcI n K Ln Wh Re) (j : Nat) (hj : j < n) (i kd : Int32) (v : Int64) : Met l yX2_writeWhole wsX2_writeWhole ({ frames := 3, cells := 0, slots := 0, locals := 65 }) (tcP D A (tcTY cI cJ cD cC) sz [.ref h0, .ref (ad j), .int i, .int kd, .long v] (tc_T cI cJ cD cC h0 h1 h2 h3 h4 ad wd rd Y n K Ln Wh Re cd ct)) (va_Qi (fun r (_ : Unit) => r = cdR K Ln j i kd (K j)) (fun _ t => tcB D A (tc_T cI cJ cD cC h0 h1 h2 h3 h4 ad wd rd Y n K Ln (wrW K Ln Wh j i kd v) (wrR K Ln Re j i kd v) (cdR K Ln j i kd (K j)) (noteC ct (cdR K Ln j i kd (K j)))) t) A) 0 0 A := by
  refine Met.ofW (cc := cX2_writeWhole) (maxL := 7) (ret := (some .int)) (by decide) rfl ?_
  intro p e s m args below meth c s₁ B hml hv
  obtain ⟨rfl, hsz, hP, hK, hD, hE⟩ := hv
  have hx := B.exec
  have hb := B.bytes
  have hr := B.returns
  have hts := atoms_spec (ws := wsX2_writeWhole) B.pre
  have hown : s.vm.findClass RX2 = some m.cls := findClass_of_methodNamed B.named
  have hlocks := B.notSynchronized
  have hl := lv_entry ([.ref h0, .ref (ad j), .int i, .int kd, .long v]) (n := 7) (Nat.le_of_ble_eq_true rfl)
  rw [lg_entry_eq]
  generalize (lg_sl ([.ref h0, .ref (ad j), .int i, .int kd, .long v]) ++ List.replicate (7 - (lg_sl ([.ref h0, .ref (ad j), .int i, .int kd, .long v])).length) Slot.unset).toArray = ls at hl ⊢
  have hl : lv_has ls 7 [(0, .ref h0), (1, .ref (ad j)), (2, .int i), (3, .int kd), (4, .long v)] := hl
  subst hsz
  have hS : va_S A s.heap s.heap [] := va_S.rf
  refine lv_aload_n hx hb dX2_writeWhole_0 rfl (lv_at hl 0 rfl) ?_
  refine lv_aload_n hx hb dX2_writeWhole_1 rfl (lv_at hl 1 rfl) ?_
  refine lv_iload_n hx hb dX2_writeWhole_2 rfl (lv_at hl 2 rfl) ?_
  refine lv_iload_n hx hb dX2_writeWhole_3 rfl (lv_at hl 3 rfl) ?_
  refine lv_aload_n hx hb dX2_writeWhole_4 rfl (lv_at hl 1 rfl) ?_
  refine va_get (D := D) (ci := 0) (fs := [.int (K j), .int (tc_cl (K j) (Ln j)), .ref (wd j), .ref (rd j)]) (v := .int (K j)) (C := RX0) (T := TX0) (N := 4) hx hb hts (by decide +kernel) hown hK hP (5 + (Y.length + (3 * j + 0))) (tc_T0 hj) rfl 0 (by decide) (hts (.fieldLink RX2 66 "TypedColumns$Column" "kind" "I") (by decide +kernel)) (fun _ h9 => h9) rfl dX2_writeWhole_5 ?_
  refine vp_callSi (tc_CR (va_runS (As := [.ref (ad j), .int i, .int kd, .int (K j)]) (rest := [.ref h0]) ⟨hx, hb, hml, hown, hts⟩ (oX2_codeOfCell l D A cI cJ cD cC (tc_T cI cJ cD cC h0 h1 h2 h3 h4 ad wd rd Y n K Ln Wh Re cd ct) (5 + (Y.length + (3 * j + 0))) (5 + (Y.length + (3 * j + 1))) (5 + (Y.length + (3 * j + 2))) (ad j) (wd j) (rd j) (K j) (tc_cl (K j) (Ln j)) (tc_wl (K j) (Ln j)) (tc_rl (K j) (Ln j)) (tc_sl (tc_wl (K j) (Ln j)) (fun i => Wh (40 * j + i)) 0) (tc_sl (tc_rl (K j) (Ln j)) (fun i => Re (40 * j + i)) 0) s.heap.size (tc_T0 hj) (tc_T1 hj) (tc_T2 hj) (tc_len_lt (hI.2.1 j hj).2.1) i kd (K j)) (va_cwS 4 hts gX2_writeWhole_X2_codeOfCell rfl rfl rfl (by decide +kernel) ⟨Nat.le_of_ble_eq_true rfl, Nat.le_of_ble_eq_true rfl⟩) ⟨tcP.blind, (tcP.go hK hP hD hE hS)⟩ rfl rfl hl.1 rfl (lv_room (Nat.le_of_ble_eq_true rfl)) dX2_writeWhole_8 ⟨Nat.le_of_ble_eq_true rfl, Nat.le_of_ble_eq_true rfl⟩)) (fun r_1 hr_1 => ?_)
  subst hr_1
  refine va_calli (va_runV (As := [.int (cdR K Ln j i kd (K j))]) (rest := []) ⟨hx, hb, hml, hown, hts⟩ (tX2_note l D A cI cJ cD cC h0 h1 h2 h3 h4 ad wd rd Y n K Ln Wh Re cd ct s.heap.size (cdR K Ln j i kd (K j)) (kCell_in _ _ _ _ _)) (cwV 1 hts gX2_writeWhole_X2_note rfl rfl rfl (by decide +kernel) ⟨Nat.le_of_ble_eq_true rfl, Nat.le_of_ble_eq_true rfl⟩) ⟨tcP.blind, (va_recv hK hP (ci := 2) (q0 := 0) rfl rfl), (tcP.go hK hP hD hE hS)⟩ rfl rfl hl.1 rfl (lv_room (Nat.le_of_ble_eq_true rfl)) dX2_writeWhole_11 ⟨Nat.le_of_ble_eq_true rfl, Nat.le_of_ble_eq_true rfl⟩) hS (fun q _ h => h) (fun q h => h) (fun r_2 u t H locs ht hvm hw hB hz1 hk1 hS => ?_)
  subst hw
  obtain ⟨hP, hD⟩ := hB
  rw [ht] at hP
  refine lv_istore (lv' := [(6, .int (cdR K Ln j i kd (K j))), (0, .ref h0), (1, .ref (ad j)), (2, .int i), (3, .int kd), (4, .long v)]) hx hb dX2_writeWhole_14 hl (by decide) rfl (fun ls hl => ?_)
  refine lv_iload hx hb dX2_writeWhole_16 (lv_at hl 0 rfl) ?_
  refine lv_if_ne (tgt := 28) hx hb dX2_writeWhole_18 (by decide) (fun c_3 => ?_) (fun c_3 => ?_)
  · refine lv_iload hx hb dX2_writeWhole_28 (lv_at hl 0 rfl) ?_
    have hP : va_P D vwCl (tc_T cI cJ cD cC h0 h1 h2 h3 h4 ad wd rd Y n K Ln (wrW K Ln Wh j i kd v) (wrR K Ln Re j i kd v) (cdR K Ln j i kd (K j)) (noteC ct (cdR K Ln j i kd (K j)))) H := by rw [show wrW K Ln Wh j i kd v = Wh from by unfold wrW; rw [if_neg c_3], show wrR K Ln Re j i kd v = Re from by unfold wrR; rw [if_neg c_3]]; exact hP
    have hD : va_D A (tc_T cI cJ cD cC h0 h1 h2 h3 h4 ad wd rd Y n K Ln (wrW K Ln Wh j i kd v) (wrR K Ln Re j i kd v) (cdR K Ln j i kd (K j)) (noteC ct (cdR K Ln j i kd (K j)))) := by rw [show wrW K Ln Wh j i kd v = Wh from by unfold wrW; rw [if_neg c_3], show wrR K Ln Re j i kd v = Re from by unfold wrR; rw [if_neg c_3]]; exact hD
    exact W.iret (v := (cdR K Ln j i kd (K j))) hx hb hr (fun t9 ht9 hW9 => ⟨⟨(cdR K Ln j i kd (K j)), (), rfl, rfl, by rw [ht9]; exact hP, hD⟩, hS.F ht9⟩) hS.2.2 dX2_writeWhole_30
  · refine lv_aload_n hx hb dX2_writeWhole_21 rfl (lv_at hl 2 rfl) ?_
    refine lv_iload_n hx hb dX2_writeWhole_22 rfl (lv_at hl 3 rfl) ?_
    refine lv_lload hx hb dX2_writeWhole_23 (lv_at hl 5 rfl) ?_
    have g0 := cdR_0 (hI.2.1 j hj).1 (hI.2.1 j hj).2.1 c_3
    have hL : ∀ k, k < n → Ln k ≤ 40 := fun k hk => (hI.2.1 k hk).2.1
    rcases kFl_3 (K j) with gf | g7 | g8
    · have gi : vp_in i (tc_wl (K j) (Ln j)) := by rw [tc_wl_n gf]; exact g0.2.2
      refine va_callv (va_runV (As := [.int i, .long v]) (rest := []) ⟨hx, hb, hml, hown, hts⟩ (oX0_putWhole_w l D A cI cJ cD cC (tc_T cI cJ cD cC h0 h1 h2 h3 h4 ad wd rd Y n K Ln Wh Re (cdR K Ln j i kd (K j)) (noteC ct (cdR K Ln j i kd (K j)))) (5 + (Y.length + (3 * j + 0))) (5 + (Y.length + (3 * j + 1))) (5 + (Y.length + (3 * j + 2))) (ad j) (wd j) (rd j) (K j) (tc_cl (K j) (Ln j)) (tc_wl (K j) (Ln j)) (tc_rl (K j) (Ln j)) (tc_sl (tc_wl (K j) (Ln j)) (fun i => Wh (40 * j + i)) 0) (tc_sl (tc_rl (K j) (Ln j)) (fun i => Re (40 * j + i)) 0) H.size (tc_T0 hj) (tc_T1 hj) (tc_T2 hj) (tc_len_lt (hI.2.1 j hj).2.1) i v gi gf) (cwV 2 hts gX2_writeWhole_X0_putWhole rfl rfl rfl (by decide +kernel) ⟨Nat.le_of_ble_eq_true rfl, Nat.le_of_ble_eq_true rfl⟩) ⟨tcP.blind, (va_recv hK hP (ci := 0) (q0 := (5 + (Y.length + (3 * j + 0)))) rfl (tc_T0 hj)), (tcP.go hK hP hD hE hS)⟩ rfl rfl hl.1 rfl (lv_room (Nat.le_of_ble_eq_true rfl)) dX2_writeWhole_25 ⟨Nat.le_of_ble_eq_true rfl, Nat.le_of_ble_eq_true rfl⟩) hS (fun q _ h => h) (fun q h => h) (fun u t H locs ht hvm hw hB hz1 hk1 hS => ?_)
      obtain ⟨hP, hD⟩ := hB
      rw [ht] at hP
      rw [tc_T_wh hj hL (vp_in_lt gi) v] at hP hD
      have z1 : wrW K Ln Wh j i kd v = vp_updL Wh (40 * j + i.toNatClampNeg) v := by unfold wrW; rw [if_pos c_3, if_neg (by rw [gf]; decide)]
      have z2 : wrR K Ln Re j i kd v = Re := by unfold wrR; rw [if_pos c_3, if_neg (by rw [gf]; decide)]
      have hP : va_P D vwCl (tc_T cI cJ cD cC h0 h1 h2 h3 h4 ad wd rd Y n K Ln (wrW K Ln Wh j i kd v) (wrR K Ln Re j i kd v) (cdR K Ln j i kd (K j)) (noteC ct (cdR K Ln j i kd (K j)))) H := by rw [z1, z2]; exact hP
      have hD : va_D A (tc_T cI cJ cD cC h0 h1 h2 h3 h4 ad wd rd Y n K Ln (wrW K Ln Wh j i kd v) (wrR K Ln Re j i kd v) (cdR K Ln j i kd (K j)) (noteC ct (cdR K Ln j i kd (K j)))) := by rw [z1, z2]; exact hD
      refine lv_iload hx hb dX2_writeWhole_28 (lv_at hl 0 rfl) ?_
      exact W.iret (v := (cdR K Ln j i kd (K j))) hx hb hr (fun t9 ht9 hW9 => ⟨⟨(cdR K Ln j i kd (K j)), (), rfl, rfl, by rw [ht9]; exact hP, hD⟩, hS.F ht9⟩) hS.2.2 dX2_writeWhole_30
    · have gf : kFl (K j) = true := by rw [g7]; decide
      have gi : vp_in i (tc_rl (K j) (Ln j)) := by rw [tc_rl_n gf]; exact g0.2.2
      refine va_callv (va_runV (As := [.int i, .long v]) (rest := []) ⟨hx, hb, hml, hown, hts⟩ (oX0_putWhole_f l D A cI cJ cD cC (tc_T cI cJ cD cC h0 h1 h2 h3 h4 ad wd rd Y n K Ln Wh Re (cdR K Ln j i kd (K j)) (noteC ct (cdR K Ln j i kd (K j)))) (5 + (Y.length + (3 * j + 0))) (5 + (Y.length + (3 * j + 1))) (5 + (Y.length + (3 * j + 2))) (ad j) (wd j) (rd j) (K j) (tc_cl (K j) (Ln j)) (tc_wl (K j) (Ln j)) (tc_rl (K j) (Ln j)) (tc_sl (tc_wl (K j) (Ln j)) (fun i => Wh (40 * j + i)) 0) (tc_sl (tc_rl (K j) (Ln j)) (fun i => Re (40 * j + i)) 0) H.size (tc_T0 hj) (tc_T1 hj) (tc_T2 hj) (tc_len_lt (hI.2.1 j hj).2.1) i v gi g7) (cwV 2 hts gX2_writeWhole_X0_putWhole rfl rfl rfl (by decide +kernel) ⟨Nat.le_of_ble_eq_true rfl, Nat.le_of_ble_eq_true rfl⟩) ⟨tcP.blind, (va_recv hK hP (ci := 0) (q0 := (5 + (Y.length + (3 * j + 0)))) rfl (tc_T0 hj)), (tcP.go hK hP hD hE hS)⟩ rfl rfl hl.1 rfl (lv_room (Nat.le_of_ble_eq_true rfl)) dX2_writeWhole_25 ⟨Nat.le_of_ble_eq_true rfl, Nat.le_of_ble_eq_true rfl⟩) hS (fun q _ h => h) (fun q h => h) (fun u t H locs ht hvm hw hB hz1 hk1 hS => ?_)
      obtain ⟨hP, hD⟩ := hB
      rw [ht] at hP
      rw [tc_T_re hj hL (vp_in_lt gi)] at hP hD
      have z1 : wrW K Ln Wh j i kd v = Wh := by unfold wrW; rw [if_pos c_3, if_pos gf]
      have z2 : wrR K Ln Re j i kd v = vf_upd Re (40 * j + i.toNatClampNeg) (FP.f2d (FP.l2f v)) := by unfold wrR; rw [if_pos c_3, if_pos gf, if_pos g7]
      have hP : va_P D vwCl (tc_T cI cJ cD cC h0 h1 h2 h3 h4 ad wd rd Y n K Ln (wrW K Ln Wh j i kd v) (wrR K Ln Re j i kd v) (cdR K Ln j i kd (K j)) (noteC ct (cdR K Ln j i kd (K j)))) H := by rw [z1, z2]; exact hP
      have hD : va_D A (tc_T cI cJ cD cC h0 h1 h2 h3 h4 ad wd rd Y n K Ln (wrW K Ln Wh j i kd v) (wrR K Ln Re j i kd v) (cdR K Ln j i kd (K j)) (noteC ct (cdR K Ln j i kd (K j)))) := by rw [z1, z2]; exact hD
      refine lv_iload hx hb dX2_writeWhole_28 (lv_at hl 0 rfl) ?_
      exact W.iret (v := (cdR K Ln j i kd (K j))) hx hb hr (fun t9 ht9 hW9 => ⟨⟨(cdR K Ln j i kd (K j)), (), rfl, rfl, by rw [ht9]; exact hP, hD⟩, hS.F ht9⟩) hS.2.2 dX2_writeWhole_30
    · have gf : kFl (K j) = true := by rw [g8]; decide
      have gi : vp_in i (tc_rl (K j) (Ln j)) := by rw [tc_rl_n gf]; exact g0.2.2
      refine va_callv (va_runV (As := [.int i, .long v]) (rest := []) ⟨hx, hb, hml, hown, hts⟩ (oX0_putWhole_d l D A cI cJ cD cC (tc_T cI cJ cD cC h0 h1 h2 h3 h4 ad wd rd Y n K Ln Wh Re (cdR K Ln j i kd (K j)) (noteC ct (cdR K Ln j i kd (K j)))) (5 + (Y.length + (3 * j + 0))) (5 + (Y.length + (3 * j + 1))) (5 + (Y.length + (3 * j + 2))) (ad j) (wd j) (rd j) (K j) (tc_cl (K j) (Ln j)) (tc_wl (K j) (Ln j)) (tc_rl (K j) (Ln j)) (tc_sl (tc_wl (K j) (Ln j)) (fun i => Wh (40 * j + i)) 0) (tc_sl (tc_rl (K j) (Ln j)) (fun i => Re (40 * j + i)) 0) H.size (tc_T0 hj) (tc_T1 hj) (tc_T2 hj) (tc_len_lt (hI.2.1 j hj).2.1) i v gi g8) (cwV 2 hts gX2_writeWhole_X0_putWhole rfl rfl rfl (by decide +kernel) ⟨Nat.le_of_ble_eq_true rfl, Nat.le_of_ble_eq_true rfl⟩) ⟨tcP.blind, (va_recv hK hP (ci := 0) (q0 := (5 + (Y.length + (3 * j + 0)))) rfl (tc_T0 hj)), (tcP.go hK hP hD hE hS)⟩ rfl rfl hl.1 rfl (lv_room (Nat.le_of_ble_eq_true rfl)) dX2_writeWhole_25 ⟨Nat.le_of_ble_eq_true rfl, Nat.le_of_ble_eq_true rfl⟩) hS (fun q _ h => h) (fun q h => h) (fun u t H locs ht hvm hw hB hz1 hk1 hS => ?_)
      obtain ⟨hP, hD⟩ := hB
      rw [ht] at hP
      rw [tc_T_re hj hL (vp_in_lt gi)] at hP hD
      have z1 : wrW K Ln Wh j i kd v = Wh := by unfold wrW; rw [if_pos c_3, if_pos gf]
      have z2 : wrR K Ln Re j i kd v = vf_upd Re (40 * j + i.toNatClampNeg) (FP.l2d v) := by unfold wrR; rw [if_pos c_3, if_pos gf, if_neg (by rw [g8]; decide)]
      have hP : va_P D vwCl (tc_T cI cJ cD cC h0 h1 h2 h3 h4 ad wd rd Y n K Ln (wrW K Ln Wh j i kd v) (wrR K Ln Re j i kd v) (cdR K Ln j i kd (K j)) (noteC ct (cdR K Ln j i kd (K j)))) H := by rw [z1, z2]; exact hP
      have hD : va_D A (tc_T cI cJ cD cC h0 h1 h2 h3 h4 ad wd rd Y n K Ln (wrW K Ln Wh j i kd v) (wrR K Ln Re j i kd v) (cdR K Ln j i kd (K j)) (noteC ct (cdR K Ln j i kd (K j)))) := by rw [z1, z2]; exact hD
      refine lv_iload hx hb dX2_writeWhole_28 (lv_at hl 0 rfl) ?_
      exact W.iret (v := (cdR K Ln j i kd (K j))) hx hb hr (fun t9 ht9 hW9 => ⟨⟨(cdR K Ln j i kd (K j)), (), rfl, rfl, by rw [ht9]; exact hP, hD⟩, hS.F ht9⟩) hS.2.2 dX2_writeWhole_30
set_option maxHeartbeats 4000000 in
set_option maxRecDepth 100000 in
theorem tX2_writeReal (l : Launch) (D : va_G) (A : Nat → Prop) (cI cJ cD cC : ClassId) (h0 h1 h2 h3 h4 : Nat) (ad wd rd : Nat → Nat) (Y : va_W) (n : Nat) (K : Nat → Int32) (Ln : Nat → Nat) (Wh : Nat → Int64) (Re : Nat → UInt64) (cd : Int32) (ct : Nat → Int32) (sz : Nat) (hI : tcI n K Ln Wh Re) (j : Nat) (hj : j < n) (i kd : Int32) (x : UInt64) (hkd : kFl kd = true) : Met l yX2_writeReal wsX2_writeReal ({ frames := 3, cells := 0, slots := 0, locals := 65 }) (tcP D A (tcTY cI cJ cD cC) sz [.ref h0, .ref (ad j), .int i, .int kd, .double x] (tc_T cI cJ cD cC h0 h1 h2 h3 h4 ad wd rd Y n K Ln Wh Re cd ct)) (va_Qi (fun r (_ : Unit) => r = cdR K Ln j i kd (K j)) (fun _ t => tcB D A (tc_T cI cJ cD cC h0 h1 h2 h3 h4 ad wd rd Y n K Ln Wh (wrX K Ln Re j i kd x) (cdR K Ln j i kd (K j)) (noteC ct (cdR K Ln j i kd (K j)))) t) A) 0 0 A := by
  refine Met.ofW (cc := cX2_writeReal) (maxL := 7) (ret := (some .int)) (by decide) rfl ?_
  intro p e s m args below meth c s₁ B hml hv
  obtain ⟨rfl, hsz, hP, hK, hD, hE⟩ := hv
  have hx := B.exec
  have hb := B.bytes
  have hr := B.returns
  have hts := atoms_spec (ws := wsX2_writeReal) B.pre
  have hown : s.vm.findClass RX2 = some m.cls := findClass_of_methodNamed B.named
  have hlocks := B.notSynchronized
  have hl := lv_entry ([.ref h0, .ref (ad j), .int i, .int kd, .double x]) (n := 7) (Nat.le_of_ble_eq_true rfl)
  rw [lg_entry_eq]
  generalize (lg_sl ([.ref h0, .ref (ad j), .int i, .int kd, .double x]) ++ List.replicate (7 - (lg_sl ([.ref h0, .ref (ad j), .int i, .int kd, .double x])).length) Slot.unset).toArray = ls at hl ⊢
  have hl : lv_has ls 7 [(0, .ref h0), (1, .ref (ad j)), (2, .int i), (3, .int kd), (4, .double x)] := hl
  subst hsz
  have hS : va_S A s.heap s.heap [] := va_S.rf
  refine lv_aload_n hx hb dX2_writeReal_0 rfl (lv_at hl 0 rfl) ?_
  refine lv_aload_n hx hb dX2_writeReal_1 rfl (lv_at hl 1 rfl) ?_
  refine lv_iload_n hx hb dX2_writeReal_2 rfl (lv_at hl 2 rfl) ?_
  refine lv_iload_n hx hb dX2_writeReal_3 rfl (lv_at hl 3 rfl) ?_
  refine lv_aload_n hx hb dX2_writeReal_4 rfl (lv_at hl 1 rfl) ?_
  refine va_get (D := D) (ci := 0) (fs := [.int (K j), .int (tc_cl (K j) (Ln j)), .ref (wd j), .ref (rd j)]) (v := .int (K j)) (C := RX0) (T := TX0) (N := 4) hx hb hts (by decide +kernel) hown hK hP (5 + (Y.length + (3 * j + 0))) (tc_T0 hj) rfl 0 (by decide) (hts (.fieldLink RX2 66 "TypedColumns$Column" "kind" "I") (by decide +kernel)) (fun _ h9 => h9) rfl dX2_writeReal_5 ?_
  refine vp_callSi (tc_CR (va_runS (As := [.ref (ad j), .int i, .int kd, .int (K j)]) (rest := [.ref h0]) ⟨hx, hb, hml, hown, hts⟩ (oX2_codeOfCell l D A cI cJ cD cC (tc_T cI cJ cD cC h0 h1 h2 h3 h4 ad wd rd Y n K Ln Wh Re cd ct) (5 + (Y.length + (3 * j + 0))) (5 + (Y.length + (3 * j + 1))) (5 + (Y.length + (3 * j + 2))) (ad j) (wd j) (rd j) (K j) (tc_cl (K j) (Ln j)) (tc_wl (K j) (Ln j)) (tc_rl (K j) (Ln j)) (tc_sl (tc_wl (K j) (Ln j)) (fun i => Wh (40 * j + i)) 0) (tc_sl (tc_rl (K j) (Ln j)) (fun i => Re (40 * j + i)) 0) s.heap.size (tc_T0 hj) (tc_T1 hj) (tc_T2 hj) (tc_len_lt (hI.2.1 j hj).2.1) i kd (K j)) (va_cwS 4 hts gX2_writeReal_X2_codeOfCell rfl rfl rfl (by decide +kernel) ⟨Nat.le_of_ble_eq_true rfl, Nat.le_of_ble_eq_true rfl⟩) ⟨tcP.blind, (tcP.go hK hP hD hE hS)⟩ rfl rfl hl.1 rfl (lv_room (Nat.le_of_ble_eq_true rfl)) dX2_writeReal_8 ⟨Nat.le_of_ble_eq_true rfl, Nat.le_of_ble_eq_true rfl⟩)) (fun r_1 hr_1 => ?_)
  subst hr_1
  refine va_calli (va_runV (As := [.int (cdR K Ln j i kd (K j))]) (rest := []) ⟨hx, hb, hml, hown, hts⟩ (tX2_note l D A cI cJ cD cC h0 h1 h2 h3 h4 ad wd rd Y n K Ln Wh Re cd ct s.heap.size (cdR K Ln j i kd (K j)) (kCell_in _ _ _ _ _)) (cwV 1 hts gX2_writeReal_X2_note rfl rfl rfl (by decide +kernel) ⟨Nat.le_of_ble_eq_true rfl, Nat.le_of_ble_eq_true rfl⟩) ⟨tcP.blind, (va_recv hK hP (ci := 2) (q0 := 0) rfl rfl), (tcP.go hK hP hD hE hS)⟩ rfl rfl hl.1 rfl (lv_room (Nat.le_of_ble_eq_true rfl)) dX2_writeReal_11 ⟨Nat.le_of_ble_eq_true rfl, Nat.le_of_ble_eq_true rfl⟩) hS (fun q _ h => h) (fun q h => h) (fun r_2 u t H locs ht hvm hw hB hz1 hk1 hS => ?_)
  subst hw
  obtain ⟨hP, hD⟩ := hB
  rw [ht] at hP
  refine lv_istore (lv' := [(6, .int (cdR K Ln j i kd (K j))), (0, .ref h0), (1, .ref (ad j)), (2, .int i), (3, .int kd), (4, .double x)]) hx hb dX2_writeReal_14 hl (by decide) rfl (fun ls hl => ?_)
  refine lv_iload hx hb dX2_writeReal_16 (lv_at hl 0 rfl) ?_
  refine lv_if_ne (tgt := 28) hx hb dX2_writeReal_18 (by decide) (fun c_3 => ?_) (fun c_3 => ?_)
  · refine lv_iload hx hb dX2_writeReal_28 (lv_at hl 0 rfl) ?_
    have hP : va_P D vwCl (tc_T cI cJ cD cC h0 h1 h2 h3 h4 ad wd rd Y n K Ln Wh (wrX K Ln Re j i kd x) (cdR K Ln j i kd (K j)) (noteC ct (cdR K Ln j i kd (K j)))) H := by rw [show wrX K Ln Re j i kd x = Re from by unfold wrX; rw [if_neg c_3]]; exact hP
    have hD : va_D A (tc_T cI cJ cD cC h0 h1 h2 h3 h4 ad wd rd Y n K Ln Wh (wrX K Ln Re j i kd x) (cdR K Ln j i kd (K j)) (noteC ct (cdR K Ln j i kd (K j)))) := by rw [show wrX K Ln Re j i kd x = Re from by unfold wrX; rw [if_neg c_3]]; exact hD
    exact W.iret (v := (cdR K Ln j i kd (K j))) hx hb hr (fun t9 ht9 hW9 => ⟨⟨(cdR K Ln j i kd (K j)), (), rfl, rfl, by rw [ht9]; exact hP, hD⟩, hS.F ht9⟩) hS.2.2 dX2_writeReal_30
  · refine lv_aload_n hx hb dX2_writeReal_21 rfl (lv_at hl 2 rfl) ?_
    refine lv_iload_n hx hb dX2_writeReal_22 rfl (lv_at hl 3 rfl) ?_
    refine lv_dload hx hb dX2_writeReal_23 (lv_at hl 5 rfl) ?_
    have g0 := cdR_0 (hI.2.1 j hj).1 (hI.2.1 j hj).2.1 c_3
    have hL : ∀ k, k < n → Ln k ≤ 40 := fun k hk => (hI.2.1 k hk).2.1
    have gf := kWid_high g0.2.1 hkd
    have gi : vp_in i (tc_rl (K j) (Ln j)) := by rw [tc_rl_n gf]; exact g0.2.2
    refine va_callv (va_runV (As := [.int i, .double x]) (rest := []) ⟨hx, hb, hml, hown, hts⟩ (oX0_putReal l D A cI cJ cD cC (tc_T cI cJ cD cC h0 h1 h2 h3 h4 ad wd rd Y n K Ln Wh Re (cdR K Ln j i kd (K j)) (noteC ct (cdR K Ln j i kd (K j)))) (5 + (Y.length + (3 * j + 0))) (5 + (Y.length + (3 * j + 1))) (5 + (Y.length + (3 * j + 2))) (ad j) (wd j) (rd j) (K j) (tc_cl (K j) (Ln j)) (tc_wl (K j) (Ln j)) (tc_rl (K j) (Ln j)) (tc_sl (tc_wl (K j) (Ln j)) (fun i => Wh (40 * j + i)) 0) (tc_sl (tc_rl (K j) (Ln j)) (fun i => Re (40 * j + i)) 0) H.size (tc_T0 hj) (tc_T1 hj) (tc_T2 hj) (tc_len_lt (hI.2.1 j hj).2.1) i x gi) (cwV 2 hts gX2_writeReal_X0_putReal rfl rfl rfl (by decide +kernel) ⟨Nat.le_of_ble_eq_true rfl, Nat.le_of_ble_eq_true rfl⟩) ⟨tcP.blind, (va_recv hK hP (ci := 0) (q0 := (5 + (Y.length + (3 * j + 0)))) rfl (tc_T0 hj)), (tcP.go hK hP hD hE hS)⟩ rfl rfl hl.1 rfl (lv_room (Nat.le_of_ble_eq_true rfl)) dX2_writeReal_25 ⟨Nat.le_of_ble_eq_true rfl, Nat.le_of_ble_eq_true rfl⟩) hS (fun q _ h => h) (fun q h => h) (fun u t H locs ht hvm hw hB hz1 hk1 hS => ?_)
    obtain ⟨hP, hD⟩ := hB
    rw [ht] at hP
    rw [tc_T_re hj hL (vp_in_lt gi)] at hP hD
    have z2 : wrX K Ln Re j i kd x = vf_upd Re (40 * j + i.toNatClampNeg) x := by unfold wrX; rw [if_pos c_3]
    have hP : va_P D vwCl (tc_T cI cJ cD cC h0 h1 h2 h3 h4 ad wd rd Y n K Ln Wh (wrX K Ln Re j i kd x) (cdR K Ln j i kd (K j)) (noteC ct (cdR K Ln j i kd (K j)))) H := by rw [z2]; exact hP
    have hD : va_D A (tc_T cI cJ cD cC h0 h1 h2 h3 h4 ad wd rd Y n K Ln Wh (wrX K Ln Re j i kd x) (cdR K Ln j i kd (K j)) (noteC ct (cdR K Ln j i kd (K j)))) := by rw [z2]; exact hD
    refine lv_iload hx hb dX2_writeReal_28 (lv_at hl 0 rfl) ?_
    exact W.iret (v := (cdR K Ln j i kd (K j))) hx hb hr (fun t9 ht9 hW9 => ⟨⟨(cdR K Ln j i kd (K j)), (), rfl, rfl, by rw [ht9]; exact hP, hD⟩, hS.F ht9⟩) hS.2.2 dX2_writeReal_30
