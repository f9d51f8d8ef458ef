/-! THE CLASS: calls that throw -/
set_option maxHeartbeats 4000000 in
set_option maxRecDepth 100000 in
theorem bX2_columnAt (l : Launch) (hfl : l.stackTraces = false) (D : va_G) (A : Nat → Prop) (cI cJ cD cC : ClassId) (h0 h1 h2 h3 h4 : Nat) (ad wd rd : Nat → Nat) (Y : va_W) (n : Nat) (K : Nat → Int32) (Ln : Nat → Nat) (Wh : Nat → Int64) (Re : Nat → UInt64) (cd : Int32) (ct : Nat → Int32) (sz : Nat) (hn6 : n ≤ 60) (cx : Int32) (hc : ¬ ∃ j, j < n ∧ cx = nI j) : vx_Met l yX2_columnAt wsX2_columnAt ({ frames := 6, cells := 1, slots := 6, locals := 90 }) (tcP D A (tcTY cI cJ cD cC) sz [.ref h0, .int cx] (tc_T cI cJ cD cC h0 h1 h2 h3 h4 ad wd rd Y n K Ln Wh Re cd ct)) (fun _ _ _ _ => False) (tcX D A (tc_T cI cJ cD cC h0 h1 h2 h3 h4 ad wd rd Y n K Ln Wh Re cd ct) "java/lang/IndexOutOfBoundsException") 1 6 A := by
  refine vx_ofW (cc := cX2_columnAt) (maxL := 3) (ret := (some (.object "TypedColumns$Column"))) (by decide) rfl ?_
  intro p e s m args below meth c s₁ B hml htb hv
  obtain ⟨rfl, hsz, hP, hK, hD, hE⟩ := hv
  have hx := B.exec
  have hb := B.bytes
  have hr := B.returns
  have hts := atoms_spec (ws := wsX2_columnAt) B.pre
  have hown : s.vm.findClass RX2 = some m.cls := findClass_of_methodNamed B.named
  have hlocks := B.notSynchronized
  have hl := lv_entry ([.ref h0, .int cx]) (n := 3) (Nat.le_of_ble_eq_true rfl)
  rw [lg_entry_eq]
  generalize (lg_sl ([.ref h0, .int cx]) ++ List.replicate (3 - (lg_sl ([.ref h0, .int cx])).length) Slot.unset).toArray = ls at hl ⊢
  have hl : lv_has ls 3 [(0, .ref h0), (1, .int cx)] := hl
  subst hsz
  have hS : va_S A s.heap s.heap [] := va_S.rf
  refine lv_iload_n hx hb dX2_columnAt_0 rfl (lv_at hl 1 rfl) ?_
  refine lv_if_lt (tgt := 22) hx hb dX2_columnAt_1 (by decide) (fun c_1 => ?_) (fun c_1 => ?_)
  · refine lv_null hx hb dX2_columnAt_22 ?_
    refine lv_astore_nN (lv' := [(2, .null), (0, .ref h0), (1, .int cx)]) hx hb dX2_columnAt_23 rfl hl (by decide) rfl (fun ls hl => ?_)
    refine lv_aload_nN hx hb dX2_columnAt_24 rfl (lv_at hl 0 rfl) ?_
    refine lv_ifnonnullN hx hb dX2_columnAt_25 ?_
    obtain ⟨sa, hstr⟩ := hE.2.1.2.2.2.2.2
    exact vx_throwS (own := RX2) (cls := "java/lang/IndexOutOfBoundsException") (text := "no such column") (names := ["java/lang/RuntimeException", "java/lang/Exception"]) (ik := 139) (is := 164) (ic := 143) (A := A) hx hb hfl hown (by decide +kernel) (by decide +kernel) (hts (.classLink RX2 139 "java/lang/IndexOutOfBoundsException") (by decide +kernel)) (hts (.initialized "java/lang/IndexOutOfBoundsException") (by decide +kernel)) hstr (vx_hat (B := [.castable "java/lang/IndexOutOfBoundsException" "java/lang/IndexOutOfBoundsException", .declares (Bundle.initS "java/lang/RuntimeException"), .declares (Bundle.initS "java/lang/Exception"), .declares (Bundle.initS Bundle.tN)]) (fun w hw => hts w (show w ∈ wsX2_columnAt from List.mem_cons_of_mem _ (List.mem_append_right _ hw))) (by decide +kernel) (vx_c (va_Nw.use rfl hE.2.2.1.1) (vx_c (va_Nw.use rfl hE.2.2.1.2.2.2.1) (vx_c (va_Nw.use rfl hE.2.2.1.2.2.2.2.1) (vx_c (va_Nw.use rfl hE.2.2.1.2.2.2.2.2) vx_n))))) (by decide +kernel) hE.1.1 hE.1.2 hS (hl.1.trans hml.symm) dX2_columnAt_28 dX2_columnAt_31 dX2_columnAt_32 dX2_columnAt_34 dX2_columnAt_37 (fun x hx9 => (htb x hx9).elim) (Nat.le_of_ble_eq_true rfl) (Nat.le_of_ble_eq_true rfl) (Nat.le_of_ble_eq_true rfl) (Nat.le_of_ble_eq_true rfl) hlocks (tcX.mk hP hD hS) hS.2.2 (Nat.le_of_ble_eq_true rfl) (Nat.le_of_ble_eq_true rfl)
  · refine lv_iload_n hx hb dX2_columnAt_4 rfl (lv_at hl 1 rfl) ?_
    refine lv_aload_n hx hb dX2_columnAt_5 rfl (lv_at hl 0 rfl) ?_
    refine va_get (D := D) (ci := 2) (fs := [.ref h1, .ref h2, .ref h3, .int (nI n), .int cd]) (v := .ref h1) (C := RX2) (T := TX2) (N := 5) hx hb hts (by decide +kernel) hown hK hP 0 rfl rfl 0 (by decide) (hts (.fieldLink RX2 11 "TypedColumns" "columns" "[LTypedColumns$Column;") (by decide +kernel)) (fun _ h9 => h9) rfl dX2_columnAt_6 ?_
    refine va_alen (v := 60) hx hb hK hP 1 3 rfl rfl rfl dX2_columnAt_9 ?_
    refine lv_icmp_ge (tgt := 22) hx hb dX2_columnAt_10 (by decide) (fun c_2 => ?_) (fun c_2 => ?_)
    · refine lv_null hx hb dX2_columnAt_22 ?_
      refine lv_astore_nN (lv' := [(2, .null), (0, .ref h0), (1, .int cx)]) hx hb dX2_columnAt_23 rfl hl (by decide) rfl (fun ls hl => ?_)
      refine lv_aload_nN hx hb dX2_columnAt_24 rfl (lv_at hl 0 rfl) ?_
      refine lv_ifnonnullN hx hb dX2_columnAt_25 ?_
      obtain ⟨sa, hstr⟩ := hE.2.1.2.2.2.2.2
      exact vx_throwS (own := RX2) (cls := "java/lang/IndexOutOfBoundsException") (text := "no such column") (names := ["java/lang/RuntimeException", "java/lang/Exception"]) (ik := 139) (is := 164) (ic := 143) (A := A) hx hb hfl hown (by decide +kernel) (by decide +kernel) (hts (.classLink RX2 139 "java/lang/IndexOutOfBoundsException") (by decide +kernel)) (hts (.initialized "java/lang/IndexOutOfBoundsException") (by decide +kernel)) hstr (vx_hat (B := [.castable "java/lang/IndexOutOfBoundsException" "java/lang/IndexOutOfBoundsException", .declares (Bundle.initS "java/lang/RuntimeException"), .declares (Bundle.initS "java/lang/Exception"), .declares (Bundle.initS Bundle.tN)]) (fun w hw => hts w (show w ∈ wsX2_columnAt from List.mem_cons_of_mem _ (List.mem_append_right _ hw))) (by decide +kernel) (vx_c (va_Nw.use rfl hE.2.2.1.1) (vx_c (va_Nw.use rfl hE.2.2.1.2.2.2.1) (vx_c (va_Nw.use rfl hE.2.2.1.2.2.2.2.1) (vx_c (va_Nw.use rfl hE.2.2.1.2.2.2.2.2) vx_n))))) (by decide +kernel) hE.1.1 hE.1.2 hS (hl.1.trans hml.symm) dX2_columnAt_28 dX2_columnAt_31 dX2_columnAt_32 dX2_columnAt_34 dX2_columnAt_37 (fun x hx9 => (htb x hx9).elim) (Nat.le_of_ble_eq_true rfl) (Nat.le_of_ble_eq_true rfl) (Nat.le_of_ble_eq_true rfl) (Nat.le_of_ble_eq_true rfl) hlocks (tcX.mk hP hD hS) hS.2.2 (Nat.le_of_ble_eq_true rfl) (Nat.le_of_ble_eq_true rfl)
    · refine lv_aload_n hx hb dX2_columnAt_13 rfl (lv_at hl 0 rfl) ?_
      refine va_get (D := D) (ci := 2) (fs := [.ref h1, .ref h2, .ref h3, .int (nI n), .int cd]) (v := .ref h1) (C := RX2) (T := TX2) (N := 5) hx hb hts (by decide +kernel) hown hK hP 0 rfl rfl 0 (by decide) (hts (.fieldLink RX2 11 "TypedColumns" "columns" "[LTypedColumns$Column;") (by decide +kernel)) (fun _ h9 => h9) rfl dX2_columnAt_14 ?_
      refine lv_iload_n hx hb dX2_columnAt_17 rfl (lv_at hl 1 rfl) ?_
      have hi := vp_in_mk (N := 60) c_1 c_2 (by decide)
      obtain ⟨j, hj, rfl⟩ := vp_in_of hi (by decide)
      refine tc_aldN (f := (fun j => if j < n then some (ad j) else none)) hx hb hK hP 1 3 rfl rfl hi (by rw [nI_clamp (by omega)]; exact if_neg (fun q => hc ⟨j, q, rfl⟩)) dX2_columnAt_18 ?_
      refine lv_goto (tgt := 23) hx hb dX2_columnAt_19 (by decide) ?_
      refine lv_astore_nN (lv' := [(2, .null), (0, .ref h0), (1, .int (nI j))]) hx hb dX2_columnAt_23 rfl hl (by decide) rfl (fun ls hl => ?_)
      refine lv_aload_nN hx hb dX2_columnAt_24 rfl (lv_at hl 0 rfl) ?_
      refine lv_ifnonnullN hx hb dX2_columnAt_25 ?_
      obtain ⟨sa, hstr⟩ := hE.2.1.2.2.2.2.2
      exact vx_throwS (own := RX2) (cls := "java/lang/IndexOutOfBoundsException") (text := "no such column") (names := ["java/lang/RuntimeException", "java/lang/Exception"]) (ik := 139) (is := 164) (ic := 143) (A := A) hx hb hfl hown (by decide +kernel) (by decide +kernel) (hts (.classLink RX2 139 "java/lang/IndexOutOfBoundsException") (by decide +kernel)) (hts (.initialized "java/lang/IndexOutOfBoundsException") (by decide +kernel)) hstr (vx_hat (B := [.castable "java/lang/IndexOutOfBoundsException" "java/lang/IndexOutOfBoundsException", .declares (Bundle.initS "java/lang/RuntimeException"), .declares (Bundle.initS "java/lang/Exception"), .declares (Bundle.initS Bundle.tN)]) (fun w hw => hts w (show w ∈ wsX2_columnAt from List.mem_cons_of_mem _ (List.mem_append_right _ hw))) (by decide +kernel) (vx_c (va_Nw.use rfl hE.2.2.1.1) (vx_c (va_Nw.use rfl hE.2.2.1.2.2.2.1) (vx_c (va_Nw.use rfl hE.2.2.1.2.2.2.2.1) (vx_c (va_Nw.use rfl hE.2.2.1.2.2.2.2.2) vx_n))))) (by decide +kernel) hE.1.1 hE.1.2 hS (hl.1.trans hml.symm) dX2_columnAt_28 dX2_columnAt_31 dX2_columnAt_32 dX2_columnAt_34 dX2_columnAt_37 (fun x hx9 => (htb x hx9).elim) (Nat.le_of_ble_eq_true rfl) (Nat.le_of_ble_eq_true rfl) (Nat.le_of_ble_eq_true rfl) (Nat.le_of_ble_eq_true rfl) hlocks (tcX.mk hP hD hS) hS.2.2 (Nat.le_of_ble_eq_true rfl) (Nat.le_of_ble_eq_true rfl)
set_option maxHeartbeats 4000000 in
set_option maxRecDepth 100000 in
theorem bX2_refuseNoKind (l : Launch) (hfl : l.stackTraces = false) (D : va_G) (A : Nat → Prop) (cI cJ cD cC : ClassId) (h0 h1 h2 h3 h4 : Nat) (ad wd rd : Nat → Nat) (Y : va_W) (n : Nat) (K : Nat → Int32) (Ln : Nat → Nat) (Wh : Nat → Int64) (Re : Nat → UInt64) (cd : Int32) (ct : Nat → Int32) (sz : Nat) (k : Int32) (hk : kIs k = false) : vx_Met l yX2_refuseNoKind wsX2_refuseNoKind ({ frames := 6, cells := 1, slots := 6, locals := 90 }) (tcP D A (tcTY cI cJ cD cC) sz [.int k] (tc_T cI cJ cD cC h0 h1 h2 h3 h4 ad wd rd Y n K Ln Wh Re cd ct)) (fun _ _ _ _ => False) (tcX D A (tc_T cI cJ cD cC h0 h1 h2 h3 h4 ad wd rd Y n K Ln Wh Re cd ct) "java/lang/IndexOutOfBoundsException") 1 6 A := by
  refine vx_ofW (cc := cX2_refuseNoKind) (maxL := 1) (ret := none) (by decide) rfl ?_
  intro p e s m args below meth c s₁ B hml htb hv
  obtain ⟨rfl, hsz, hP, hK, hD, hE⟩ := hv
  have hx := B.exec
  have hb := B.bytes
  have hr := B.returns
  have hts := atoms_spec (ws := wsX2_refuseNoKind) B.pre
  have hown : s.vm.findClass RX2 = some m.cls := findClass_of_methodNamed B.named
  have hlocks := B.notSynchronized
  have hl := lv_entry ([.int k]) (n := 1) (Nat.le_of_ble_eq_true rfl)
  rw [lg_entry_eq]
  generalize (lg_sl ([.int k]) ++ List.replicate (1 - (lg_sl ([.int k])).length) Slot.unset).toArray = ls at hl ⊢
  have hl : lv_has ls 1 [(0, .int k)] := hl
  subst hsz
  have hS : va_S A s.heap s.heap [] := va_S.rf
  refine lv_iload_n hx hb dX2_refuseNoKind_0 rfl (lv_at hl 0 rfl) ?_
  refine vp_callSi (W.runS (As := [.int k]) (rest := []) ⟨hx, hb, hml, hown, hts⟩ (kX2_isKind l k) (va_cwS 1 hts gX2_refuseNoKind_X2_isKind rfl rfl rfl (by decide +kernel) ⟨Nat.le_of_ble_eq_true rfl, Nat.le_of_ble_eq_true rfl⟩) ⟨fun a U g mk q => q, fun U hU hW => ⟨rfl, trivial⟩⟩ rfl rfl hl.1 rfl (lv_room (Nat.le_of_ble_eq_true rfl)) dX2_refuseNoKind_1 ⟨Nat.zero_le _, Nat.zero_le _⟩) (fun r_1 hr_1 => ?_)
  subst hr_1
  refine lv_if_ne (tgt := 17) hx hb dX2_refuseNoKind_4 (by decide) (fun q => absurd ((tb_0 _).mpr hk) q) (fun _ => ?_)
  obtain ⟨sa, hstr⟩ := hE.2.1.1
  exact vx_throwS (own := RX2) (cls := "java/lang/IndexOutOfBoundsException") (text := "no such kind") (names := ["java/lang/RuntimeException", "java/lang/Exception"]) (ik := 139) (is := 39) (ic := 143) (A := A) hx hb hfl hown (by decide +kernel) (by decide +kernel) (hts (.classLink RX2 139 "java/lang/IndexOutOfBoundsException") (by decide +kernel)) (hts (.initialized "java/lang/IndexOutOfBoundsException") (by decide +kernel)) hstr (vx_hat (B := [.castable "java/lang/IndexOutOfBoundsException" "java/lang/IndexOutOfBoundsException", .declares (Bundle.initS "java/lang/RuntimeException"), .declares (Bundle.initS "java/lang/Exception"), .declares (Bundle.initS Bundle.tN)]) (fun w hw => hts w (show w ∈ wsX2_refuseNoKind from List.mem_cons_of_mem _ (List.mem_append_right _ hw))) (by decide +kernel) (vx_c (va_Nw.use rfl hE.2.2.1.1) (vx_c (va_Nw.use rfl hE.2.2.1.2.2.2.1) (vx_c (va_Nw.use rfl hE.2.2.1.2.2.2.2.1) (vx_c (va_Nw.use rfl hE.2.2.1.2.2.2.2.2) vx_n))))) (by decide +kernel) hE.1.1 hE.1.2 hS (hl.1.trans hml.symm) dX2_refuseNoKind_7 dX2_refuseNoKind_10 dX2_refuseNoKind_11 dX2_refuseNoKind_13 dX2_refuseNoKind_16 (fun x hx9 => (htb x hx9).elim) (Nat.le_of_ble_eq_true rfl) (Nat.le_of_ble_eq_true rfl) (Nat.le_of_ble_eq_true rfl) (Nat.le_of_ble_eq_true rfl) hlocks (tcX.mk hP hD hS) hS.2.2 (Nat.le_of_ble_eq_true rfl) (Nat.le_of_ble_eq_true rfl)
set_option maxHeartbeats 4000000 in
set_option maxRecDepth 100000 in
theorem bX2_refuseWithoutCells (l : Launch) (hfl : l.stackTraces = false) (D : va_G) (A : Nat → Prop) (cI cJ cD cC : ClassId) (h0 h1 h2 h3 h4 : Nat) (ad wd rd : Nat → Nat) (Y : va_W) (n : Nat) (K : Nat → Int32) (Ln : Nat → Nat) (Wh : Nat → Int64) (Re : Nat → UInt64) (cd : Int32) (ct : Nat → Int32) (sz : Nat) (k : Int32) (hk : kHas k = false) : vx_Met l yX2_refuseWithoutCells wsX2_refuseWithoutCells ({ frames := 6, cells := 1, slots := 6, locals := 90 }) (tcP D A (tcTY cI cJ cD cC) sz [.int k] (tc_T cI cJ cD cC h0 h1 h2 h3 h4 ad wd rd Y n K Ln Wh Re cd ct)) (fun _ _ _ _ => False) (tcX D A (tc_T cI cJ cD cC h0 h1 h2 h3 h4 ad wd rd Y n K Ln Wh Re cd ct) "java/lang/IllegalArgumentException") 1 6 A := by
  refine vx_ofW (cc := cX2_refuseWithoutCells) (maxL := 1) (ret := none) (by decide) rfl ?_
  intro p e s m args below meth c s₁ B hml htb hv
  obtain ⟨rfl, hsz, hP, hK, hD, hE⟩ := hv
  have hx := B.exec
  have hb := B.bytes
  have hr := B.returns
  have hts := atoms_spec (ws := wsX2_refuseWithoutCells) B.pre
  have hown : s.vm.findClass RX2 = some m.cls := findClass_of_methodNamed B.named
  have hlocks := B.notSynchronized
  have hl := lv_entry ([.int k]) (n := 1) (Nat.le_of_ble_eq_true rfl)
  rw [lg_entry_eq]
  generalize (lg_sl ([.int k]) ++ List.replicate (1 - (lg_sl ([.int k])).length) Slot.unset).toArray = ls at hl ⊢
  have hl : lv_has ls 1 [(0, .int k)] := hl
  subst hsz
  have hS : va_S A s.heap s.heap [] := va_S.rf
  refine lv_iload_n hx hb dX2_refuseWithoutCells_0 rfl (lv_at hl 0 rfl) ?_
  refine vp_callSi (W.runS (As := [.int k]) (rest := []) ⟨hx, hb, hml, hown, hts⟩ (kX2_holdsCells l k) (va_cwS 1 hts gX2_refuseWithoutCells_X2_holdsCells rfl rfl rfl (by decide +kernel) ⟨Nat.le_of_ble_eq_true rfl, Nat.le_of_ble_eq_true rfl⟩) ⟨fun a U g mk q => q, fun U hU hW => ⟨rfl, trivial⟩⟩ rfl rfl hl.1 rfl (lv_room (Nat.le_of_ble_eq_true rfl)) dX2_refuseWithoutCells_1 ⟨Nat.zero_le _, Nat.zero_le _⟩) (fun r_1 hr_1 => ?_)
  subst hr_1
  refine lv_if_ne (tgt := 17) hx hb dX2_refuseWithoutCells_4 (by decide) (fun q => absurd ((tb_0 _).mpr hk) q) (fun _ => ?_)
  obtain ⟨sa, hstr⟩ := hE.2.1.2.2.2.1
  exact vx_throwS (own := RX2) (cls := "java/lang/IllegalArgumentException") (text := "not a kind with cells") (names := ["java/lang/RuntimeException", "java/lang/Exception"]) (ik := 37) (is := 157) (ic := 41) (A := A) hx hb hfl hown (by decide +kernel) (by decide +kernel) (hts (.classLink RX2 37 "java/lang/IllegalArgumentException") (by decide +kernel)) (hts (.initialized "java/lang/IllegalArgumentException") (by decide +kernel)) hstr (vx_hat (B := [.castable "java/lang/IllegalArgumentException" "java/lang/IllegalArgumentException", .declares (Bundle.initS "java/lang/RuntimeException"), .declares (Bundle.initS "java/lang/Exception"), .declares (Bundle.initS Bundle.tN)]) (fun w hw => hts w (show w ∈ wsX2_refuseWithoutCells from List.mem_cons_of_mem _ (List.mem_append_right _ hw))) (by decide +kernel) (vx_c (va_Nw.use rfl hE.2.2.1.2.1) (vx_c (va_Nw.use rfl hE.2.2.1.2.2.2.1) (vx_c (va_Nw.use rfl hE.2.2.1.2.2.2.2.1) (vx_c (va_Nw.use rfl hE.2.2.1.2.2.2.2.2) vx_n))))) (by decide +kernel) hE.1.1 hE.1.2 hS (hl.1.trans hml.symm) dX2_refuseWithoutCells_7 dX2_refuseWithoutCells_10 dX2_refuseWithoutCells_11 dX2_refuseWithoutCells_13 dX2_refuseWithoutCells_16 (fun x hx9 => (htb x hx9).elim) (Nat.le_of_ble_eq_true rfl) (Nat.le_of_ble_eq_true rfl) (Nat.le_of_ble_eq_true rfl) (Nat.le_of_ble_eq_true rfl) hlocks (tcX.mk hP hD hS) hS.2.2 (Nat.le_of_ble_eq_true rfl) (Nat.le_of_ble_eq_true rfl)
set_option maxHeartbeats 4000000 in
set_option maxRecDepth 100000 in
theorem bX2_refuseWhenFull (l : Launch) (hfl : l.stackTraces = false) (D : va_G) (A : Nat → Prop) (cI cJ cD cC : ClassId) (h0 h1 h2 h3 h4 : Nat) (ad wd rd : Nat → Nat) (Y : va_W) (n : Nat) (K : Nat → Int32) (Ln : Nat → Nat) (Wh : Nat → Int64) (Re : Nat → UInt64) (cd : Int32) (ct : Nat → Int32) (sz : Nat) (hn6 : n = 60) : vx_Met l yX2_refuseWhenFull wsX2_refuseWhenFull ({ frames := 6, cells := 1, slots := 6, locals := 90 }) (tcP D A (tcTY cI cJ cD cC) sz [.ref h0] (tc_T cI cJ cD cC h0 h1 h2 h3 h4 ad wd rd Y n K Ln Wh Re cd ct)) (fun _ _ _ _ => False) (tcX D A (tc_T cI cJ cD cC h0 h1 h2 h3 h4 ad wd rd Y n K Ln Wh Re cd ct) "java/lang/IllegalStateException") 1 6 A := by
  refine vx_ofW (cc := cX2_refuseWhenFull) (maxL := 1) (ret := none) (by decide) rfl ?_
  intro p e s m args below meth c s₁ B hml htb hv
  obtain ⟨rfl, hsz, hP, hK, hD, hE⟩ := hv
  have hx := B.exec
  have hb := B.bytes
  have hr := B.returns
  have hts := atoms_spec (ws := wsX2_refuseWhenFull) B.pre
  have hown : s.vm.findClass RX2 = some m.cls := findClass_of_methodNamed B.named
  have hlocks := B.notSynchronized
  have hl := lv_entry ([.ref h0]) (n := 1) (Nat.le_of_ble_eq_true rfl)
  rw [lg_entry_eq]
  generalize (lg_sl ([.ref h0]) ++ List.replicate (1 - (lg_sl ([.ref h0])).length) Slot.unset).toArray = ls at hl ⊢
  have hl : lv_has ls 1 [(0, .ref h0)] := hl
  subst hsz
  have hS : va_S A s.heap s.heap [] := va_S.rf
  refine lv_aload_n hx hb dX2_refuseWhenFull_0 rfl (lv_at hl 0 rfl) ?_
  refine va_get (D := D) (ci := 2) (fs := [.ref h1, .ref h2, .ref h3, .int (nI n), .int cd]) (v := .int (nI n)) (C := RX2) (T := TX2) (N := 5) hx hb hts (by decide +kernel) hown hK hP 0 rfl rfl 3 (by decide) (hts (.fieldLink RX2 26 "TypedColumns" "created" "I") (by decide +kernel)) (fun _ h9 => h9) rfl dX2_refuseWhenFull_1 ?_
  refine lv_aload_n hx hb dX2_refuseWhenFull_4 rfl (lv_at hl 0 rfl) ?_
  refine va_get (D := D) (ci := 2) (fs := [.ref h1, .ref h2, .ref h3, .int (nI n), .int cd]) (v := .ref h1) (C := RX2) (T := TX2) (N := 5) hx hb hts (by decide +kernel) hown hK hP 0 rfl rfl 0 (by decide) (hts (.fieldLink RX2 11 "TypedColumns" "columns" "[LTypedColumns$Column;") (by decide +kernel)) (fun _ h9 => h9) rfl dX2_refuseWhenFull_5 ?_
  refine va_alen (v := 60) hx hb hK hP 1 3 rfl rfl rfl dX2_refuseWhenFull_8 ?_
  refine lv_icmp_lt (tgt := 22) hx hb dX2_refuseWhenFull_9 (by decide) (fun q => absurd q (by rw [hn6]; decide)) (fun _ => ?_)
  obtain ⟨sa, hstr⟩ := hE.2.1.2.2.2.2.1
  exact vx_throwS (own := RX2) (cls := "java/lang/IllegalStateException") (text := "there are 60 columns") (names := ["java/lang/RuntimeException", "java/lang/Exception"]) (ik := 159) (is := 161) (ic := 163) (A := A) hx hb hfl hown (by decide +kernel) (by decide +kernel) (hts (.classLink RX2 159 "java/lang/IllegalStateException") (by decide +kernel)) (hts (.initialized "java/lang/IllegalStateException") (by decide +kernel)) hstr (vx_hat (B := [.castable "java/lang/IllegalStateException" "java/lang/IllegalStateException", .declares (Bundle.initS "java/lang/RuntimeException"), .declares (Bundle.initS "java/lang/Exception"), .declares (Bundle.initS Bundle.tN)]) (fun w hw => hts w (show w ∈ wsX2_refuseWhenFull from List.mem_cons_of_mem _ (List.mem_append_right _ hw))) (by decide +kernel) (vx_c (va_Nw.use rfl hE.2.2.1.2.2.1) (vx_c (va_Nw.use rfl hE.2.2.1.2.2.2.1) (vx_c (va_Nw.use rfl hE.2.2.1.2.2.2.2.1) (vx_c (va_Nw.use rfl hE.2.2.1.2.2.2.2.2) vx_n))))) (by decide +kernel) hE.1.1 hE.1.2 hS (hl.1.trans hml.symm) dX2_refuseWhenFull_12 dX2_refuseWhenFull_15 dX2_refuseWhenFull_16 dX2_refuseWhenFull_18 dX2_refuseWhenFull_21 (fun x hx9 => (htb x hx9).elim) (Nat.le_of_ble_eq_true rfl) (Nat.le_of_ble_eq_true rfl) (Nat.le_of_ble_eq_true rfl) (Nat.le_of_ble_eq_true rfl) hlocks (tcX.mk hP hD hS) hS.2.2 (Nat.le_of_ble_eq_true rfl) (Nat.le_of_ble_eq_true rfl)
set_option maxHeartbeats 4000000 in
set_option maxRecDepth 100000 in
theorem bX2_count (l : Launch) (hfl : l.stackTraces = false) (D : va_G) (A : Nat → Prop) (cI cJ cD cC : ClassId) (h0 h1 h2 h3 h4 : Nat) (ad wd rd : Nat → Nat) (Y : va_W) (n : Nat) (K : Nat → Int32) (Ln : Nat → Nat) (Wh : Nat → Int64) (Re : Nat → UInt64) (cd : Int32) (ct : Nat → Int32) (sz : Nat) (k : Int32) (hk : ¬ vp_in k 6) : vx_Met l yX2_count wsX2_count ({ frames := 6, cells := 1, slots := 6, locals := 90 }) (tcP D A (tcTY cI cJ cD cC) sz [.ref h0, .int k] (tc_T cI cJ cD cC h0 h1 h2 h3 h4 ad wd rd Y n K Ln Wh Re cd ct)) (fun _ _ _ _ => False) (tcX D A (tc_T cI cJ cD cC h0 h1 h2 h3 h4 ad wd rd Y n K Ln Wh Re cd ct) "java/lang/IndexOutOfBoundsException") 1 6 A := by
  refine vx_ofW (cc := cX2_count) (maxL := 2) (ret := (some .int)) (by decide) rfl ?_
  intro p e s m args below meth c s₁ B hml htb hv
  obtain ⟨rfl, hsz, hP, hK, hD, hE⟩ := hv
  have hx := B.exec
  have hb := B.bytes
  have hr := B.returns
  have hts := atoms_spec (ws := wsX2_count) B.pre
  have hown : s.vm.findClass RX2 = some m.cls := findClass_of_methodNamed B.named
  have hlocks := B.notSynchronized
  have hl := lv_entry ([.ref h0, .int k]) (n := 2) (Nat.le_of_ble_eq_true rfl)
  rw [lg_entry_eq]
  generalize (lg_sl ([.ref h0, .int k]) ++ List.replicate (2 - (lg_sl ([.ref h0, .int k])).length) Slot.unset).toArray = ls at hl ⊢
  have hl : lv_has ls 2 [(0, .ref h0), (1, .int k)] := hl
  subst hsz
  have hS : va_S A s.heap s.heap [] := va_S.rf
  refine lv_iload_n hx hb dX2_count_0 rfl (lv_at hl 1 rfl) ?_
  refine lv_if_lt (tgt := 13) hx hb dX2_count_1 (by decide) (fun c_1 => ?_) (fun c_1 => ?_)
  · obtain ⟨sa, hstr⟩ := hE.2.1.2.2.1
    exact vx_throwS (own := RX2) (cls := "java/lang/IndexOutOfBoundsException") (text := "no such code") (names := ["java/lang/RuntimeException", "java/lang/Exception"]) (ik := 139) (is := 141) (ic := 143) (A := A) hx hb hfl hown (by decide +kernel) (by decide +kernel) (hts (.classLink RX2 139 "java/lang/IndexOutOfBoundsException") (by decide +kernel)) (hts (.initialized "java/lang/IndexOutOfBoundsException") (by decide +kernel)) hstr (vx_hat (B := [.castable "java/lang/IndexOutOfBoundsException" "java/lang/IndexOutOfBoundsException", .declares (Bundle.initS "java/lang/RuntimeException"), .declares (Bundle.initS "java/lang/Exception"), .declares (Bundle.initS Bundle.tN)]) (fun w hw => hts w (show w ∈ wsX2_count from List.mem_cons_of_mem _ (List.mem_append_right _ hw))) (by decide +kernel) (vx_c (va_Nw.use rfl hE.2.2.1.1) (vx_c (va_Nw.use rfl hE.2.2.1.2.2.2.1) (vx_c (va_Nw.use rfl hE.2.2.1.2.2.2.2.1) (vx_c (va_Nw.use rfl hE.2.2.1.2.2.2.2.2) vx_n))))) (by decide +kernel) hE.1.1 hE.1.2 hS (hl.1.trans hml.symm) dX2_count_13 dX2_count_16 dX2_count_17 dX2_count_19 dX2_count_22 (fun x hx9 => (htb x hx9).elim) (Nat.le_of_ble_eq_true rfl) (Nat.le_of_ble_eq_true rfl) (Nat.le_of_ble_eq_true rfl) (Nat.le_of_ble_eq_true rfl) hlocks (tcX.mk hP hD hS) hS.2.2 (Nat.le_of_ble_eq_true rfl) (Nat.le_of_ble_eq_true rfl)
  · refine lv_iload_n hx hb dX2_count_4 rfl (lv_at hl 1 rfl) ?_
    refine lv_aload_n hx hb dX2_count_5 rfl (lv_at hl 0 rfl) ?_
    refine va_get (D := D) (ci := 2) (fs := [.ref h1, .ref h2, .ref h3, .int (nI n), .int cd]) (v := .ref h2) (C := RX2) (T := TX2) (N := 5) hx hb hts (by decide +kernel) hown hK hP 0 rfl rfl 1 (by decide) (hts (.fieldLink RX2 15 "TypedColumns" "counts" "[I") (by decide +kernel)) (fun _ h9 => h9) rfl dX2_count_6 ?_
    refine va_alen (v := 6) hx hb hK hP 2 0 rfl rfl rfl dX2_count_9 ?_
    refine lv_icmp_lt (tgt := 23) hx hb dX2_count_10 (by decide) (fun q => absurd q (fun q => hk (vp_in_mk c_1 (fun z => absurd q (Int32.not_lt.mpr z)) (by decide)))) (fun _ => ?_)
    obtain ⟨sa, hstr⟩ := hE.2.1.2.2.1
    exact vx_throwS (own := RX2) (cls := "java/lang/IndexOutOfBoundsException") (text := "no such code") (names := ["java/lang/RuntimeException", "java/lang/Exception"]) (ik := 139) (is := 141) (ic := 143) (A := A) hx hb hfl hown (by decide +kernel) (by decide +kernel) (hts (.classLink RX2 139 "java/lang/IndexOutOfBoundsException") (by decide +kernel)) (hts (.initialized "java/lang/IndexOutOfBoundsException") (by decide +kernel)) hstr (vx_hat (B := [.castable "java/lang/IndexOutOfBoundsException" "java/lang/IndexOutOfBoundsException", .declares (Bundle.initS "java/lang/RuntimeException"), .declares (Bundle.initS "java/lang/Exception"), .declares (Bundle.initS Bundle.tN)]) (fun w hw => hts w (show w ∈ wsX2_count from List.mem_cons_of_mem _ (List.mem_append_right _ hw))) (by decide +kernel) (vx_c (va_Nw.use rfl hE.2.2.1.1) (vx_c (va_Nw.use rfl hE.2.2.1.2.2.2.1) (vx_c (va_Nw.use rfl hE.2.2.1.2.2.2.2.1) (vx_c (va_Nw.use rfl hE.2.2.1.2.2.2.2.2) vx_n))))) (by decide +kernel) hE.1.1 hE.1.2 hS (hl.1.trans hml.symm) dX2_count_13 dX2_count_16 dX2_count_17 dX2_count_19 dX2_count_22 (fun x hx9 => (htb x hx9).elim) (Nat.le_of_ble_eq_true rfl) (Nat.le_of_ble_eq_true rfl) (Nat.le_of_ble_eq_true rfl) (Nat.le_of_ble_eq_true rfl) hlocks (tcX.mk hP hD hS) hS.2.2 (Nat.le_of_ble_eq_true rfl) (Nat.le_of_ble_eq_true rfl)
set_option maxHeartbeats 4000000 in
set_option maxRecDepth 100000 in
theorem bX2_create_k (l : Launch) (hfl : l.stackTraces = false) (D : va_G) (A : Nat → Prop) (cI cJ cD cC : ClassId) (h0 h1 h2 h3 h4 : Nat) (ad wd rd : Nat → Nat) (Y : va_W) (n : Nat) (K : Nat → Int32) (Ln : Nat → Nat) (Wh : Nat → Int64) (Re : Nat → UInt64) (cd : Int32) (ct : Nat → Int32) (sz : Nat) (k len : Int32) (hk : kIs k = false) : vx_Met l yX2_create wsX2_create ({ frames := 6, cells := 1, slots := 6, locals := 90 }) (tcP D A (tcTY cI cJ cD cC) sz [.ref h0, .int k, .int len] (tc_T cI cJ cD cC h0 h1 h2 h3 h4 ad wd rd Y n K Ln Wh Re cd ct)) (fun _ _ _ _ => False) (tcX D A (tc_T cI cJ cD cC h0 h1 h2 h3 h4 ad wd rd Y n K Ln Wh Re cd ct) "java/lang/IllegalArgumentException") 1 6 A := by
  refine vx_ofW (cc := cX2_create) (maxL := 3) (ret := (some .int)) (by decide) rfl ?_
  intro p e s m args below meth c s₁ B hml htb hv
  obtain ⟨rfl, hsz, hP, hK, hD, hE⟩ := hv
  have hx := B.exec
  have hb := B.bytes
  have hr := B.returns
  have hts := atoms_spec (ws := wsX2_create) B.pre
  have hown : s.vm.findClass RX2 = some m.cls := findClass_of_methodNamed B.named
  have hlocks := B.notSynchronized
  have hl := lv_entry ([.ref h0, .int k, .int len]) (n := 3) (Nat.le_of_ble_eq_true rfl)
  rw [lg_entry_eq]
  generalize (lg_sl ([.ref h0, .int k, .int len]) ++ List.replicate (3 - (lg_sl ([.ref h0, .int k, .int len])).length) Slot.unset).toArray = ls at hl ⊢
  have hl : lv_has ls 3 [(0, .ref h0), (1, .int k), (2, .int len)] := hl
  subst hsz
  have hS : va_S A s.heap s.heap [] := va_S.rf
  refine lv_iload_n hx hb dX2_create_0 rfl (lv_at hl 1 rfl) ?_
  refine vp_callSi (W.runS (As := [.int k]) (rest := []) ⟨hx, hb, hml, hown, hts⟩ (kX2_isKind l k) (va_cwS 1 hts gX2_create_X2_isKind rfl rfl rfl (by decide +kernel) ⟨Nat.le_of_ble_eq_true rfl, Nat.le_of_ble_eq_true rfl⟩) ⟨fun a U g mk q => q, fun U hU hW => ⟨rfl, trivial⟩⟩ rfl rfl hl.1 rfl (lv_room (Nat.le_of_ble_eq_true rfl)) dX2_create_1 ⟨Nat.zero_le _, Nat.zero_le _⟩) (fun r_1 hr_1 => ?_)
  subst hr_1
  refine lv_if_ne (tgt := 17) hx hb dX2_create_4 (by decide) (fun q => absurd ((tb_0 _).mpr hk) q) (fun _ => ?_)
  obtain ⟨sa, hstr⟩ := hE.2.1.1
  exact vx_throwS (own := RX2) (cls := "java/lang/IllegalArgumentException") (text := "no such kind") (names := ["java/lang/RuntimeException", "java/lang/Exception"]) (ik := 37) (is := 39) (ic := 41) (A := A) hx hb hfl hown (by decide +kernel) (by decide +kernel) (hts (.classLink RX2 37 "java/lang/IllegalArgumentException") (by decide +kernel)) (hts (.initialized "java/lang/IllegalArgumentException") (by decide +kernel)) hstr (vx_hat (B := [.castable "java/lang/IllegalArgumentException" "java/lang/IllegalArgumentException", .declares (Bundle.initS "java/lang/RuntimeException"), .declares (Bundle.initS "java/lang/Exception"), .declares (Bundle.initS Bundle.tN)]) (fun w hw => hts w (show w ∈ wsX2_create from List.mem_cons_of_mem _ (List.mem_append_left _ (List.mem_append_right _ hw)))) (by decide +kernel) (vx_c (va_Nw.use rfl hE.2.2.1.2.1) (vx_c (va_Nw.use rfl hE.2.2.1.2.2.2.1) (vx_c (va_Nw.use rfl hE.2.2.1.2.2.2.2.1) (vx_c (va_Nw.use rfl hE.2.2.1.2.2.2.2.2) vx_n))))) (by decide +kernel) hE.1.1 hE.1.2 hS (hl.1.trans hml.symm) dX2_create_7 dX2_create_10 dX2_create_11 dX2_create_13 dX2_create_16 (fun x hx9 => (htb x hx9).elim) (Nat.le_of_ble_eq_true rfl) (Nat.le_of_ble_eq_true rfl) (Nat.le_of_ble_eq_true rfl) (Nat.le_of_ble_eq_true rfl) hlocks (tcX.mk hP hD hS) hS.2.2 (Nat.le_of_ble_eq_true rfl) (Nat.le_of_ble_eq_true rfl)
set_option maxHeartbeats 4000000 in
set_option maxRecDepth 100000 in
theorem bX2_create_l (l : Launch) (hfl : l.stackTraces = false) (D : va_G) (A : Nat → Prop) (cI cJ cD cC : ClassId) (h0 h1 h2 h3 h4 : Nat) (ad wd rd : Nat → Nat) (Y : va_W) (n : Nat) (K : Nat → Int32) (Ln : Nat → Nat) (Wh : Nat → Int64) (Re : Nat → UInt64) (cd : Int32) (ct : Nat → Int32) (sz : Nat) (k len : Int32) (hk : kIs k = true) (hh : kHas k = true) (hl9 : kLen len = false) : vx_Met l yX2_create wsX2_create ({ frames := 6, cells := 1, slots := 6, locals := 90 }) (tcP D A (tcTY cI cJ cD cC) sz [.ref h0, .int k, .int len] (tc_T cI cJ cD cC h0 h1 h2 h3 h4 ad wd rd Y n K Ln Wh Re cd ct)) (fun _ _ _ _ => False) (tcX D A (tc_T cI cJ cD cC h0 h1 h2 h3 h4 ad wd rd Y n K Ln Wh Re cd ct) "java/lang/IllegalArgumentException") 1 6 A := by
  refine vx_ofW (cc := cX2_create) (maxL := 3) (ret := (some .int)) (by decide) rfl ?_
  intro p e s m args below meth c s₁ B hml htb hv
  obtain ⟨rfl, hsz, hP, hK, hD, hE⟩ := hv
  have hx := B.exec
  have hb := B.bytes
  have hr := B.returns
  have hts := atoms_spec (ws := wsX2_create) B.pre
  have hown : s.vm.findClass RX2 = some m.cls := findClass_of_methodNamed B.named
  have hlocks := B.notSynchronized
  have hl := lv_entry ([.ref h0, .int k, .int len]) (n := 3) (Nat.le_of_ble_eq_true rfl)
  rw [lg_entry_eq]
  generalize (lg_sl ([.ref h0, .int k, .int len]) ++ List.replicate (3 - (lg_sl ([.ref h0, .int k, .int len])).length) Slot.unset).toArray = ls at hl ⊢
  have hl : lv_has ls 3 [(0, .ref h0), (1, .int k), (2, .int len)] := hl
  subst hsz
  have hS : va_S A s.heap s.heap [] := va_S.rf
  refine lv_iload_n hx hb dX2_create_0 rfl (lv_at hl 1 rfl) ?_
  refine vp_callSi (W.runS (As := [.int k]) (rest := []) ⟨hx, hb, hml, hown, hts⟩ (kX2_isKind l k) (va_cwS 1 hts gX2_create_X2_isKind rfl rfl rfl (by decide +kernel) ⟨Nat.le_of_ble_eq_true rfl, Nat.le_of_ble_eq_true rfl⟩) ⟨fun a U g mk q => q, fun U hU hW => ⟨rfl, trivial⟩⟩ rfl rfl hl.1 rfl (lv_room (Nat.le_of_ble_eq_true rfl)) dX2_create_1 ⟨Nat.zero_le _, Nat.zero_le _⟩) (fun r_1 hr_1 => ?_)
  subst hr_1
  refine lv_if_ne (tgt := 17) hx hb dX2_create_4 (by decide) (fun _ => ?_) (fun q => absurd q ((tb_1 _).mpr hk))
  refine lv_iload_n hx hb dX2_create_17 rfl (lv_at hl 1 rfl) ?_
  refine vp_callSi (W.runS (As := [.int k]) (rest := []) ⟨hx, hb, hml, hown, hts⟩ (kX2_holdsCells l k) (va_cwS 1 hts gX2_create_X2_holdsCells rfl rfl rfl (by decide +kernel) ⟨Nat.le_of_ble_eq_true rfl, Nat.le_of_ble_eq_true rfl⟩) ⟨fun a U g mk q => q, fun U hU hW => ⟨rfl, trivial⟩⟩ rfl rfl hl.1 rfl (lv_room (Nat.le_of_ble_eq_true rfl)) dX2_create_18 ⟨Nat.zero_le _, Nat.zero_le _⟩) (fun r_3 hr_3 => ?_)
  subst hr_3
  refine lv_if_eq (tgt := 41) hx hb dX2_create_21 (by decide) (fun q => absurd q ((tb_1 _).mpr hh)) (fun _ => ?_)
  refine lv_iload_n hx hb dX2_create_24 rfl (lv_at hl 2 rfl) ?_
  refine vp_callSi (W.runS (As := [.int len]) (rest := []) ⟨hx, hb, hml, hown, hts⟩ (kX2_isLength l len) (va_cwS 1 hts gX2_create_X2_isLength rfl rfl rfl (by decide +kernel) ⟨Nat.le_of_ble_eq_true rfl, Nat.le_of_ble_eq_true rfl⟩) ⟨fun a U g mk q => q, fun U hU hW => ⟨rfl, trivial⟩⟩ rfl rfl hl.1 rfl (lv_room (Nat.le_of_ble_eq_true rfl)) dX2_create_25 ⟨Nat.zero_le _, Nat.zero_le _⟩) (fun r_5 hr_5 => ?_)
  subst hr_5
  refine lv_if_ne (tgt := 41) hx hb dX2_create_28 (by decide) (fun q => absurd ((tb_0 _).mpr hl9) q) (fun _ => ?_)
  obtain ⟨sa, hstr⟩ := hE.2.1.2.1
  exact vx_throwS (own := RX2) (cls := "java/lang/IllegalArgumentException") (text := "no such length") (names := ["java/lang/RuntimeException", "java/lang/Exception"]) (ik := 37) (is := 50) (ic := 41) (A := A) hx hb hfl hown (by decide +kernel) (by decide +kernel) (hts (.classLink RX2 37 "java/lang/IllegalArgumentException") (by decide +kernel)) (hts (.initialized "java/lang/IllegalArgumentException") (by decide +kernel)) hstr (vx_hat (B := [.castable "java/lang/IllegalArgumentException" "java/lang/IllegalArgumentException", .declares (Bundle.initS "java/lang/RuntimeException"), .declares (Bundle.initS "java/lang/Exception"), .declares (Bundle.initS Bundle.tN)]) (fun w hw => hts w (show w ∈ wsX2_create from List.mem_cons_of_mem _ (List.mem_append_left _ (List.mem_append_right _ hw)))) (by decide +kernel) (vx_c (va_Nw.use rfl hE.2.2.1.2.1) (vx_c (va_Nw.use rfl hE.2.2.1.2.2.2.1) (vx_c (va_Nw.use rfl hE.2.2.1.2.2.2.2.1) (vx_c (va_Nw.use rfl hE.2.2.1.2.2.2.2.2) vx_n))))) (by decide +kernel) hE.1.1 hE.1.2 hS (hl.1.trans hml.symm) dX2_create_31 dX2_create_34 dX2_create_35 dX2_create_37 dX2_create_40 (fun x hx9 => (htb x hx9).elim) (Nat.le_of_ble_eq_true rfl) (Nat.le_of_ble_eq_true rfl) (Nat.le_of_ble_eq_true rfl) (Nat.le_of_ble_eq_true rfl) hlocks (tcX.mk hP hD hS) hS.2.2 (Nat.le_of_ble_eq_true rfl) (Nat.le_of_ble_eq_true rfl)
set_option maxHeartbeats 4000000 in
set_option maxRecDepth 100000 in
theorem bX2_create_f1 (l : Launch) (hfl : l.stackTraces = false) (D : va_G) (A : Nat → Prop) (cI cJ cD cC : ClassId) (h0 h1 h2 h3 h4 : Nat) (ad wd rd : Nat → Nat) (Y : va_W) (n : Nat) (K : Nat → Int32) (Ln : Nat → Nat) (Wh : Nat → Int64) (Re : Nat → UInt64) (cd : Int32) (ct : Nat → Int32) (sz : Nat) (k len : Int32) (hk : kIs k = true) (hh : kHas k = false) (hn6 : n = 60) : vx_Met l yX2_create wsX2_create ({ frames := 7, cells := 1, slots := 6, locals := 110 }) (tcP D A (tcTY cI cJ cD cC) sz [.ref h0, .int k, .int len] (tc_T cI cJ cD cC h0 h1 h2 h3 h4 ad wd rd Y n K Ln Wh Re cd ct)) (fun _ _ _ _ => False) (tcX D A (tc_T cI cJ cD cC h0 h1 h2 h3 h4 ad wd rd Y n K Ln Wh Re cd ct) "java/lang/IllegalStateException") 1 6 A := by
  refine vx_ofW (cc := cX2_create) (maxL := 3) (ret := (some .int)) (by decide) rfl ?_
  intro p e s m args below meth c s₁ B hml htb hv
  obtain ⟨rfl, hsz, hP, hK, hD, hE⟩ := hv
  have hx := B.exec
  have hb := B.bytes
  have hr := B.returns
  have hts := atoms_spec (ws := wsX2_create) B.pre
  have hown : s.vm.findClass RX2 = some m.cls := findClass_of_methodNamed B.named
  have hlocks := B.notSynchronized
  have hl := lv_entry ([.ref h0, .int k, .int len]) (n := 3) (Nat.le_of_ble_eq_true rfl)
  rw [lg_entry_eq]
  generalize (lg_sl ([.ref h0, .int k, .int len]) ++ List.replicate (3 - (lg_sl ([.ref h0, .int k, .int len])).length) Slot.unset).toArray = ls at hl ⊢
  have hl : lv_has ls 3 [(0, .ref h0), (1, .int k), (2, .int len)] := hl
  subst hsz
  have hS : va_S A s.heap s.heap [] := va_S.rf
  refine lv_iload_n hx hb dX2_create_0 rfl (lv_at hl 1 rfl) ?_
  refine vp_callSi (W.runS (As := [.int k]) (rest := []) ⟨hx, hb, hml, hown, hts⟩ (kX2_isKind l k) (va_cwS 1 hts gX2_create_X2_isKind rfl rfl rfl (by decide +kernel) ⟨Nat.le_of_ble_eq_true rfl, Nat.le_of_ble_eq_true rfl⟩) ⟨fun a U g mk q => q, fun U hU hW => ⟨rfl, trivial⟩⟩ rfl rfl hl.1 rfl (lv_room (Nat.le_of_ble_eq_true rfl)) dX2_create_1 ⟨Nat.zero_le _, Nat.zero_le _⟩) (fun r_1 hr_1 => ?_)
  subst hr_1
  refine lv_if_ne (tgt := 17) hx hb dX2_create_4 (by decide) (fun _ => ?_) (fun q => absurd q ((tb_1 _).mpr hk))
  refine lv_iload_n hx hb dX2_create_17 rfl (lv_at hl 1 rfl) ?_
  refine vp_callSi (W.runS (As := [.int k]) (rest := []) ⟨hx, hb, hml, hown, hts⟩ (kX2_holdsCells l k) (va_cwS 1 hts gX2_create_X2_holdsCells rfl rfl rfl (by decide +kernel) ⟨Nat.le_of_ble_eq_true rfl, Nat.le_of_ble_eq_true rfl⟩) ⟨fun a U g mk q => q, fun U hU hW => ⟨rfl, trivial⟩⟩ rfl rfl hl.1 rfl (lv_room (Nat.le_of_ble_eq_true rfl)) dX2_create_18 ⟨Nat.zero_le _, Nat.zero_le _⟩) (fun r_3 hr_3 => ?_)
  subst hr_3
  refine lv_if_eq (tgt := 41) hx hb dX2_create_21 (by decide) (fun _ => ?_) (fun q => absurd ((tb_0 _).mpr hh) q)
  refine lv_aload_n hx hb dX2_create_41 rfl (lv_at hl 0 rfl) ?_
  refine tc_thr (vx_runV (As := []) (rest := []) ⟨hx, hb, hml, hown, hts⟩ (bX2_refuseWhenFull l hfl D A cI cJ cD cC h0 h1 h2 h3 h4 ad wd rd Y n K Ln Wh Re cd ct s.heap.size hn6) (cwV 0 hts gX2_create_X2_refuseWhenFull rfl rfl rfl (by decide +kernel) ⟨Nat.le_of_ble_eq_true rfl, Nat.le_of_ble_eq_true rfl⟩) ⟨tcP.blind, va_recv hK hP (ci := 2) (q0 := 0) rfl rfl, tcP.go hK hP hD hE hS⟩ rfl rfl hl.1 rfl (lv_room (Nat.le_of_ble_eq_true rfl)) dX2_create_42 ⟨Nat.le_of_ble_eq_true rfl, Nat.le_of_ble_eq_true rfl⟩) hS (fun q h => h) (fun q _ h => h) (fun E ce q9 u t H locs ht hvm hw hB hz1 hk1 hS hce hcv hcl => ?_)
  obtain ⟨rfl, hP, hD⟩ := hB
  rw [ht] at hP
  exact vx_out (fun x hx9 => (htb x hx9).elim) hlocks hce hcv hcl (tcX.end hP hD hS) hS.2.2 (Nat.le_of_ble_eq_true rfl) (Nat.le_of_ble_eq_true rfl)
set_option maxHeartbeats 4000000 in
set_option maxRecDepth 100000 in
theorem bX2_create_f2 (l : Launch) (hfl : l.stackTraces = false) (D : va_G) (A : Nat → Prop) (cI cJ cD cC : ClassId) (h0 h1 h2 h3 h4 : Nat) (ad wd rd : Nat → Nat) (Y : va_W) (n : Nat) (K : Nat → Int32) (Ln : Nat → Nat) (Wh : Nat → Int64) (Re : Nat → UInt64) (cd : Int32) (ct : Nat → Int32) (sz : Nat) (k len : Int32) (hk : kIs k = true) (hh : kHas k = true) (hl9 : kLen len = true) (hn6 : n = 60) : vx_Met l yX2_create wsX2_create ({ frames := 7, cells := 1, slots := 6, locals := 110 }) (tcP D A (tcTY cI cJ cD cC) sz [.ref h0, .int k, .int len] (tc_T cI cJ cD cC h0 h1 h2 h3 h4 ad wd rd Y n K Ln Wh Re cd ct)) (fun _ _ _ _ => False) (tcX D A (tc_T cI cJ cD cC h0 h1 h2 h3 h4 ad wd rd Y n K Ln Wh Re cd ct) "java/lang/IllegalStateException") 1 6 A := by
  refine vx_ofW (cc := cX2_create) (maxL := 3) (ret := (some .int)) (by decide) rfl ?_
  intro p e s m args below meth c s₁ B hml htb hv
  obtain ⟨rfl, hsz, hP, hK, hD, hE⟩ := hv
  have hx := B.exec
  have hb := B.bytes
  have hr := B.returns
  have hts := atoms_spec (ws := wsX2_create) B.pre
  have hown : s.vm.findClass RX2 = some m.cls := findClass_of_methodNamed B.named
  have hlocks := B.notSynchronized
  have hl := lv_entry ([.ref h0, .int k, .int len]) (n := 3) (Nat.le_of_ble_eq_true rfl)
  rw [lg_entry_eq]
  generalize (lg_sl ([.ref h0, .int k, .int len]) ++ List.replicate (3 - (lg_sl ([.ref h0, .int k, .int len])).length) Slot.unset).toArray = ls at hl ⊢
  have hl : lv_has ls 3 [(0, .ref h0), (1, .int k), (2, .int len)] := hl
  subst hsz
  have hS : va_S A s.heap s.heap [] := va_S.rf
  refine lv_iload_n hx hb dX2_create_0 rfl (lv_at hl 1 rfl) ?_
  refine vp_callSi (W.runS (As := [.int k]) (rest := []) ⟨hx, hb, hml, hown, hts⟩ (kX2_isKind l k) (va_cwS 1 hts gX2_create_X2_isKind rfl rfl rfl (by decide +kernel) ⟨Nat.le_of_ble_eq_true rfl, Nat.le_of_ble_eq_true rfl⟩) ⟨fun a U g mk q => q, fun U hU hW => ⟨rfl, trivial⟩⟩ rfl rfl hl.1 rfl (lv_room (Nat.le_of_ble_eq_true rfl)) dX2_create_1 ⟨Nat.zero_le _, Nat.zero_le _⟩) (fun r_1 hr_1 => ?_)
  subst hr_1
  refine lv_if_ne (tgt := 17) hx hb dX2_create_4 (by decide) (fun _ => ?_) (fun q => absurd q ((tb_1 _).mpr hk))
  refine lv_iload_n hx hb dX2_create_17 rfl (lv_at hl 1 rfl) ?_
  refine vp_callSi (W.runS (As := [.int k]) (rest := []) ⟨hx, hb, hml, hown, hts⟩ (kX2_holdsCells l k) (va_cwS 1 hts gX2_create_X2_holdsCells rfl rfl rfl (by decide +kernel) ⟨Nat.le_of_ble_eq_true rfl, Nat.le_of_ble_eq_true rfl⟩) ⟨fun a U g mk q => q, fun U hU hW => ⟨rfl, trivial⟩⟩ rfl rfl hl.1 rfl (lv_room (Nat.le_of_ble_eq_true rfl)) dX2_create_18 ⟨Nat.zero_le _, Nat.zero_le _⟩) (fun r_3 hr_3 => ?_)
  subst hr_3
  refine lv_if_eq (tgt := 41) hx hb dX2_create_21 (by decide) (fun q => absurd q ((tb_1 _).mpr hh)) (fun _ => ?_)
  refine lv_iload_n hx hb dX2_create_24 rfl (lv_at hl 2 rfl) ?_
  refine vp_callSi (W.runS (As := [.int len]) (rest := []) ⟨hx, hb, hml, hown, hts⟩ (kX2_isLength l len) (va_cwS 1 hts gX2_create_X2_isLength rfl rfl rfl (by decide +kernel) ⟨Nat.le_of_ble_eq_true rfl, Nat.le_of_ble_eq_true rfl⟩) ⟨fun a U g mk q => q, fun U hU hW => ⟨rfl, trivial⟩⟩ rfl rfl hl.1 rfl (lv_room (Nat.le_of_ble_eq_true rfl)) dX2_create_25 ⟨Nat.zero_le _, Nat.zero_le _⟩) (fun r_5 hr_5 => ?_)
  subst hr_5
  refine lv_if_ne (tgt := 41) hx hb dX2_create_28 (by decide) (fun _ => ?_) (fun q => absurd q ((tb_1 _).mpr hl9))
  refine lv_aload_n hx hb dX2_create_41 rfl (lv_at hl 0 rfl) ?_
  refine tc_thr (vx_runV (As := []) (rest := []) ⟨hx, hb, hml, hown, hts⟩ (bX2_refuseWhenFull l hfl D A cI cJ cD cC h0 h1 h2 h3 h4 ad wd rd Y n K Ln Wh Re cd ct s.heap.size hn6) (cwV 0 hts gX2_create_X2_refuseWhenFull rfl rfl rfl (by decide +kernel) ⟨Nat.le_of_ble_eq_true rfl, Nat.le_of_ble_eq_true rfl⟩) ⟨tcP.blind, va_recv hK hP (ci := 2) (q0 := 0) rfl rfl, tcP.go hK hP hD hE hS⟩ rfl rfl hl.1 rfl (lv_room (Nat.le_of_ble_eq_true rfl)) dX2_create_42 ⟨Nat.le_of_ble_eq_true rfl, Nat.le_of_ble_eq_true rfl⟩) hS (fun q h => h) (fun q _ h => h) (fun E ce q9 u t H locs ht hvm hw hB hz1 hk1 hS hce hcv hcl => ?_)
  obtain ⟨rfl, hP, hD⟩ := hB
  rw [ht] at hP
  exact vx_out (fun x hx9 => (htb x hx9).elim) hlocks hce hcv hcl (tcX.end hP hD hS) hS.2.2 (Nat.le_of_ble_eq_true rfl) (Nat.le_of_ble_eq_true rfl)
set_option maxHeartbeats 4000000 in
set_option maxRecDepth 100000 in
theorem bX2_readBoolean (l : Launch) (hfl : l.stackTraces = false) (D : va_G) (A : Nat → Prop) (cI cJ cD cC : ClassId) (h0 h1 h2 h3 h4 : Nat) (ad wd rd : Nat → Nat) (Y : va_W) (n : Nat) (K : Nat → Int32) (Ln : Nat → Nat) (Wh : Nat → Int64) (Re : Nat → UInt64) (cd : Int32) (ct : Nat → Int32) (sz : Nat) (hn6 : n ≤ 60) (cx : Int32) (hc : ¬ ∃ j, j < n ∧ cx = nI j) (i : Int32) : vx_Met l yX2_readBoolean wsX2_readBoolean ({ frames := 7, cells := 1, slots := 6, locals := 112 }) (tcP D A (tcTY cI cJ cD cC) sz [.ref h0, .int cx, .int i] (tc_T cI cJ cD cC h0 h1 h2 h3 h4 ad wd rd Y n K Ln Wh Re cd ct)) (fun _ _ _ _ => False) (tcX D A (tc_T cI cJ cD cC h0 h1 h2 h3 h4 ad wd rd Y n K Ln Wh Re cd ct) "java/lang/IndexOutOfBoundsException") 1 6 A := by
  refine vx_ofW (cc := cX2_readBoolean) (maxL := 3) (ret := (some .boolean)) (by decide) rfl ?_
  intro p e s m args below meth c s₁ B hml htb hv
  obtain ⟨rfl, hsz, hP, hK, hD, hE⟩ := hv
  have hx := B.exec
  have hb := B.bytes
  have hr := B.returns
  have hts := atoms_spec (ws := wsX2_readBoolean) B.pre
  have hown : s.vm.findClass RX2 = some m.cls := findClass_of_methodNamed B.named
  have hlocks := B.notSynchronized
  have hl := lv_entry ([.ref h0, .int cx, .int i]) (n := 3) (Nat.le_of_ble_eq_true rfl)
  rw [lg_entry_eq]
  generalize (lg_sl ([.ref h0, .int cx, .int i]) ++ List.replicate (3 - (lg_sl ([.ref h0, .int cx, .int i])).length) Slot.unset).toArray = ls at hl ⊢
  have hl : lv_has ls 3 [(0, .ref h0), (1, .int cx), (2, .int i)] := hl
  subst hsz
  have hS : va_S A s.heap s.heap [] := va_S.rf
  refine lv_aload_n hx hb dX2_readBoolean_0 rfl (lv_at hl 0 rfl) ?_
  refine lv_aload_n hx hb dX2_readBoolean_1 rfl (lv_at hl 0 rfl) ?_
  refine lv_iload_n hx hb dX2_readBoolean_2 rfl (lv_at hl 1 rfl) ?_
  refine tc_thr (vx_runV (As := [.int cx]) (rest := [.ref h0]) ⟨hx, hb, hml, hown, hts⟩ (bX2_columnAt l hfl D A cI cJ cD cC h0 h1 h2 h3 h4 ad wd rd Y n K Ln Wh Re cd ct s.heap.size hn6 cx hc) (cwV 1 hts gX2_readBoolean_X2_columnAt rfl rfl rfl (by decide +kernel) ⟨Nat.le_of_ble_eq_true rfl, Nat.le_of_ble_eq_true rfl⟩) ⟨tcP.blind, va_recv hK hP (ci := 2) (q0 := 0) rfl rfl, tcP.go hK hP hD hE hS⟩ rfl rfl hl.1 rfl (lv_room (Nat.le_of_ble_eq_true rfl)) dX2_readBoolean_3 ⟨Nat.le_of_ble_eq_true rfl, Nat.le_of_ble_eq_true rfl⟩) hS (fun q h => h) (fun q _ h => h) (fun E ce q9 u t H locs ht hvm hw hB hz1 hk1 hS hce hcv hcl => ?_)
  obtain ⟨rfl, hP, hD⟩ := hB
  rw [ht] at hP
  exact vx_out (fun x hx9 => (htb x hx9).elim) hlocks hce hcv hcl (tcX.end hP hD hS) hS.2.2 (Nat.le_of_ble_eq_true rfl) (Nat.le_of_ble_eq_true rfl)
set_option maxHeartbeats 4000000 in
set_option maxRecDepth 100000 in
theorem bX2_readByte (l : Launch) (hfl : l.stackTraces = false) (D : va_G) (A : Nat → Prop) (cI cJ cD cC : ClassId) (h0 h1 h2 h3 h4 : Nat) (ad wd rd : Nat → Nat) (Y : va_W) (n : Nat) (K : Nat → Int32) (Ln : Nat → Nat) (Wh : Nat → Int64) (Re : Nat → UInt64) (cd : Int32) (ct : Nat → Int32) (sz : Nat) (hn6 : n ≤ 60) (cx : Int32) (hc : ¬ ∃ j, j < n ∧ cx = nI j) (i : Int32) : vx_Met l yX2_readByte wsX2_readByte ({ frames := 7, cells := 1, slots := 6, locals := 112 }) (tcP D A (tcTY cI cJ cD cC) sz [.ref h0, .int cx, .int i] (tc_T cI cJ cD cC h0 h1 h2 h3 h4 ad wd rd Y n K Ln Wh Re cd ct)) (fun _ _ _ _ => False) (tcX D A (tc_T cI cJ cD cC h0 h1 h2 h3 h4 ad wd rd Y n K Ln Wh Re cd ct) "java/lang/IndexOutOfBoundsException") 1 6 A := by
  refine vx_ofW (cc := cX2_readByte) (maxL := 3) (ret := (some .int)) (by decide) rfl ?_
  intro p e s m args below meth c s₁ B hml htb hv
  obtain ⟨rfl, hsz, hP, hK, hD, hE⟩ := hv
  have hx := B.exec
  have hb := B.bytes
  have hr := B.returns
  have hts := atoms_spec (ws := wsX2_readByte) B.pre
  have hown : s.vm.findClass RX2 = some m.cls := findClass_of_methodNamed B.named
  have hlocks := B.notSynchronized
  have hl := lv_entry ([.ref h0, .int cx, .int i]) (n := 3) (Nat.le_of_ble_eq_true rfl)
  rw [lg_entry_eq]
  generalize (lg_sl ([.ref h0, .int cx, .int i]) ++ List.replicate (3 - (lg_sl ([.ref h0, .int cx, .int i])).length) Slot.unset).toArray = ls at hl ⊢
  have hl : lv_has ls 3 [(0, .ref h0), (1, .int cx), (2, .int i)] := hl
  subst hsz
  have hS : va_S A s.heap s.heap [] := va_S.rf
  refine lv_aload_n hx hb dX2_readByte_0 rfl (lv_at hl 0 rfl) ?_
  refine lv_aload_n hx hb dX2_readByte_1 rfl (lv_at hl 0 rfl) ?_
  refine lv_iload_n hx hb dX2_readByte_2 rfl (lv_at hl 1 rfl) ?_
  refine tc_thr (vx_runV (As := [.int cx]) (rest := [.ref h0]) ⟨hx, hb, hml, hown, hts⟩ (bX2_columnAt l hfl D A cI cJ cD cC h0 h1 h2 h3 h4 ad wd rd Y n K Ln Wh Re cd ct s.heap.size hn6 cx hc) (cwV 1 hts gX2_readByte_X2_columnAt rfl rfl rfl (by decide +kernel) ⟨Nat.le_of_ble_eq_true rfl, Nat.le_of_ble_eq_true rfl⟩) ⟨tcP.blind, va_recv hK hP (ci := 2) (q0 := 0) rfl rfl, tcP.go hK hP hD hE hS⟩ rfl rfl hl.1 rfl (lv_room (Nat.le_of_ble_eq_true rfl)) dX2_readByte_3 ⟨Nat.le_of_ble_eq_true rfl, Nat.le_of_ble_eq_true rfl⟩) hS (fun q h => h) (fun q _ h => h) (fun E ce q9 u t H locs ht hvm hw hB hz1 hk1 hS hce hcv hcl => ?_)
  obtain ⟨rfl, hP, hD⟩ := hB
  rw [ht] at hP
  exact vx_out (fun x hx9 => (htb x hx9).elim) hlocks hce hcv hcl (tcX.end hP hD hS) hS.2.2 (Nat.le_of_ble_eq_true rfl) (Nat.le_of_ble_eq_true rfl)
set_option maxHeartbeats 4000000 in
set_option maxRecDepth 100000 in
theorem bX2_readChar (l : Launch) (hfl : l.stackTraces = false) (D : va_G) (A : Nat → Prop) (cI cJ cD cC : ClassId) (h0 h1 h2 h3 h4 : Nat) (ad wd rd : Nat → Nat) (Y : va_W) (n : Nat) (K : Nat → Int32) (Ln : Nat → Nat) (Wh : Nat → Int64) (Re : Nat → UInt64) (cd : Int32) (ct : Nat → Int32) (sz : Nat) (hn6 : n ≤ 60) (cx : Int32) (hc : ¬ ∃ j, j < n ∧ cx = nI j) (i : Int32) : vx_Met l yX2_readChar wsX2_readChar ({ frames := 7, cells := 1, slots := 6, locals := 112 }) (tcP D A (tcTY cI cJ cD cC) sz [.ref h0, .int cx, .int i] (tc_T cI cJ cD cC h0 h1 h2 h3 h4 ad wd rd Y n K Ln Wh Re cd ct)) (fun _ _ _ _ => False) (tcX D A (tc_T cI cJ cD cC h0 h1 h2 h3 h4 ad wd rd Y n K Ln Wh Re cd ct) "java/lang/IndexOutOfBoundsException") 1 6 A := by
  refine vx_ofW (cc := cX2_readChar) (maxL := 3) (ret := (some .int)) (by decide) rfl ?_
  intro p e s m args below meth c s₁ B hml htb hv
  obtain ⟨rfl, hsz, hP, hK, hD, hE⟩ := hv
  have hx := B.exec
  have hb := B.bytes
  have hr := B.returns
  have hts := atoms_spec (ws := wsX2_readChar) B.pre
  have hown : s.vm.findClass RX2 = some m.cls := findClass_of_methodNamed B.named
  have hlocks := B.notSynchronized
  have hl := lv_entry ([.ref h0, .int cx, .int i]) (n := 3) (Nat.le_of_ble_eq_true rfl)
  rw [lg_entry_eq]
  generalize (lg_sl ([.ref h0, .int cx, .int i]) ++ List.replicate (3 - (lg_sl ([.ref h0, .int cx, .int i])).length) Slot.unset).toArray = ls at hl ⊢
  have hl : lv_has ls 3 [(0, .ref h0), (1, .int cx), (2, .int i)] := hl
  subst hsz
  have hS : va_S A s.heap s.heap [] := va_S.rf
  refine lv_aload_n hx hb dX2_readChar_0 rfl (lv_at hl 0 rfl) ?_
  refine lv_aload_n hx hb dX2_readChar_1 rfl (lv_at hl 0 rfl) ?_
  refine lv_iload_n hx hb dX2_readChar_2 rfl (lv_at hl 1 rfl) ?_
  refine tc_thr (vx_runV (As := [.int cx]) (rest := [.ref h0]) ⟨hx, hb, hml, hown, hts⟩ (bX2_columnAt l hfl D A cI cJ cD cC h0 h1 h2 h3 h4 ad wd rd Y n K Ln Wh Re cd ct s.heap.size hn6 cx hc) (cwV 1 hts gX2_readChar_X2_columnAt rfl rfl rfl (by decide +kernel) ⟨Nat.le_of_ble_eq_true rfl, Nat.le_of_ble_eq_true rfl⟩) ⟨tcP.blind, va_recv hK hP (ci := 2) (q0 := 0) rfl rfl, tcP.go hK hP hD hE hS⟩ rfl rfl hl.1 rfl (lv_room (Nat.le_of_ble_eq_true rfl)) dX2_readChar_3 ⟨Nat.le_of_ble_eq_true rfl, Nat.le_of_ble_eq_true rfl⟩) hS (fun q h => h) (fun q _ h => h) (fun E ce q9 u t H locs ht hvm hw hB hz1 hk1 hS hce hcv hcl => ?_)
  obtain ⟨rfl, hP, hD⟩ := hB
  rw [ht] at hP
  exact vx_out (fun x hx9 => (htb x hx9).elim) hlocks hce hcv hcl (tcX.end hP hD hS) hS.2.2 (Nat.le_of_ble_eq_true rfl) (Nat.le_of_ble_eq_true rfl)
set_option maxHeartbeats 4000000 in
set_option maxRecDepth 100000 in
theorem bX2_readShort (l : Launch) (hfl : l.stackTraces = false) (D : va_G) (A : Nat → Prop) (cI cJ cD cC : ClassId) (h0 h1 h2 h3 h4 : Nat) (ad wd rd : Nat → Nat) (Y : va_W) (n : Nat) (K : Nat → Int32) (Ln : Nat → Nat) (Wh : Nat → Int64) (Re : Nat → UInt64) (cd : Int32) (ct : Nat → Int32) (sz : Nat) (hn6 : n ≤ 60) (cx : Int32) (hc : ¬ ∃ j, j < n ∧ cx = nI j) (i : Int32) : vx_Met l yX2_readShort wsX2_readShort ({ frames := 7, cells := 1, slots := 6, locals := 112 }) (tcP D A (tcTY cI cJ cD cC) sz [.ref h0, .int cx, .int i] (tc_T cI cJ cD cC h0 h1 h2 h3 h4 ad wd rd Y n K Ln Wh Re cd ct)) (fun _ _ _ _ => False) (tcX D A (tc_T cI cJ cD cC h0 h1 h2 h3 h4 ad wd rd Y n K Ln Wh Re cd ct) "java/lang/IndexOutOfBoundsException") 1 6 A := by
  refine vx_ofW (cc := cX2_readShort) (maxL := 3) (ret := (some .int)) (by decide) rfl ?_
  intro p e s m args below meth c s₁ B hml htb hv
  obtain ⟨rfl, hsz, hP, hK, hD, hE⟩ := hv
  have hx := B.exec
  have hb := B.bytes
  have hr := B.returns
  have hts := atoms_spec (ws := wsX2_readShort) B.pre
  have hown : s.vm.findClass RX2 = some m.cls := findClass_of_methodNamed B.named
  have hlocks := B.notSynchronized
  have hl := lv_entry ([.ref h0, .int cx, .int i]) (n := 3) (Nat.le_of_ble_eq_true rfl)
  rw [lg_entry_eq]
  generalize (lg_sl ([.ref h0, .int cx, .int i]) ++ List.replicate (3 - (lg_sl ([.ref h0, .int cx, .int i])).length) Slot.unset).toArray = ls at hl ⊢
  have hl : lv_has ls 3 [(0, .ref h0), (1, .int cx), (2, .int i)] := hl
  subst hsz
  have hS : va_S A s.heap s.heap [] := va_S.rf
  refine lv_aload_n hx hb dX2_readShort_0 rfl (lv_at hl 0 rfl) ?_
  refine lv_aload_n hx hb dX2_readShort_1 rfl (lv_at hl 0 rfl) ?_
  refine lv_iload_n hx hb dX2_readShort_2 rfl (lv_at hl 1 rfl) ?_
  refine tc_thr (vx_runV (As := [.int cx]) (rest := [.ref h0]) ⟨hx, hb, hml, hown, hts⟩ (bX2_columnAt l hfl D A cI cJ cD cC h0 h1 h2 h3 h4 ad wd rd Y n K Ln Wh Re cd ct s.heap.size hn6 cx hc) (cwV 1 hts gX2_readShort_X2_columnAt rfl rfl rfl (by decide +kernel) ⟨Nat.le_of_ble_eq_true rfl, Nat.le_of_ble_eq_true rfl⟩) ⟨tcP.blind, va_recv hK hP (ci := 2) (q0 := 0) rfl rfl, tcP.go hK hP hD hE hS⟩ rfl rfl hl.1 rfl (lv_room (Nat.le_of_ble_eq_true rfl)) dX2_readShort_3 ⟨Nat.le_of_ble_eq_true rfl, Nat.le_of_ble_eq_true rfl⟩) hS (fun q h => h) (fun q _ h => h) (fun E ce q9 u t H locs ht hvm hw hB hz1 hk1 hS hce hcv hcl => ?_)
  obtain ⟨rfl, hP, hD⟩ := hB
  rw [ht] at hP
  exact vx_out (fun x hx9 => (htb x hx9).elim) hlocks hce hcv hcl (tcX.end hP hD hS) hS.2.2 (Nat.le_of_ble_eq_true rfl) (Nat.le_of_ble_eq_true rfl)
set_option maxHeartbeats 4000000 in
set_option maxRecDepth 100000 in
theorem bX2_readInt (l : Launch) (hfl : l.stackTraces = false) (D : va_G) (A : Nat → Prop) (cI cJ cD cC : ClassId) (h0 h1 h2 h3 h4 : Nat) (ad wd rd : Nat → Nat) (Y : va_W) (n : Nat) (K : Nat → Int32) (Ln : Nat → Nat) (Wh : Nat → Int64) (Re : Nat → UInt64) (cd : Int32) (ct : Nat → Int32) (sz : Nat) (hn6 : n ≤ 60) (cx : Int32) (hc : ¬ ∃ j, j < n ∧ cx = nI j) (i : Int32) : vx_Met l yX2_readInt wsX2_readInt ({ frames := 7, cells := 1, slots := 6, locals := 112 }) (tcP D A (tcTY cI cJ cD cC) sz [.ref h0, .int cx, .int i] (tc_T cI cJ cD cC h0 h1 h2 h3 h4 ad wd rd Y n K Ln Wh Re cd ct)) (fun _ _ _ _ => False) (tcX D A (tc_T cI cJ cD cC h0 h1 h2 h3 h4 ad wd rd Y n K Ln Wh Re cd ct) "java/lang/IndexOutOfBoundsException") 1 6 A := by
  refine vx_ofW (cc := cX2_readInt) (maxL := 3) (ret := (some .int)) (by decide) rfl ?_
  intro p e s m args below meth c s₁ B hml htb hv
  obtain ⟨rfl, hsz, hP, hK, hD, hE⟩ := hv
  have hx := B.exec
  have hb := B.bytes
  have hr := B.returns
  have hts := atoms_spec (ws := wsX2_readInt) B.pre
  have hown : s.vm.findClass RX2 = some m.cls := findClass_of_methodNamed B.named
  have hlocks := B.notSynchronized
  have hl := lv_entry ([.ref h0, .int cx, .int i]) (n := 3) (Nat.le_of_ble_eq_true rfl)
  rw [lg_entry_eq]
  generalize (lg_sl ([.ref h0, .int cx, .int i]) ++ List.replicate (3 - (lg_sl ([.ref h0, .int cx, .int i])).length) Slot.unset).toArray = ls at hl ⊢
  have hl : lv_has ls 3 [(0, .ref h0), (1, .int cx), (2, .int i)] := hl
  subst hsz
  have hS : va_S A s.heap s.heap [] := va_S.rf
  refine lv_aload_n hx hb dX2_readInt_0 rfl (lv_at hl 0 rfl) ?_
  refine lv_aload_n hx hb dX2_readInt_1 rfl (lv_at hl 0 rfl) ?_
  refine lv_iload_n hx hb dX2_readInt_2 rfl (lv_at hl 1 rfl) ?_
  refine tc_thr (vx_runV (As := [.int cx]) (rest := [.ref h0]) ⟨hx, hb, hml, hown, hts⟩ (bX2_columnAt l hfl D A cI cJ cD cC h0 h1 h2 h3 h4 ad wd rd Y n K Ln Wh Re cd ct s.heap.size hn6 cx hc) (cwV 1 hts gX2_readInt_X2_columnAt rfl rfl rfl (by decide +kernel) ⟨Nat.le_of_ble_eq_true rfl, Nat.le_of_ble_eq_true rfl⟩) ⟨tcP.blind, va_recv hK hP (ci := 2) (q0 := 0) rfl rfl, tcP.go hK hP hD hE hS⟩ rfl rfl hl.1 rfl (lv_room (Nat.le_of_ble_eq_true rfl)) dX2_readInt_3 ⟨Nat.le_of_ble_eq_true rfl, Nat.le_of_ble_eq_true rfl⟩) hS (fun q h => h) (fun q _ h => h) (fun E ce q9 u t H locs ht hvm hw hB hz1 hk1 hS hce hcv hcl => ?_)
  obtain ⟨rfl, hP, hD⟩ := hB
  rw [ht] at hP
  exact vx_out (fun x hx9 => (htb x hx9).elim) hlocks hce hcv hcl (tcX.end hP hD hS) hS.2.2 (Nat.le_of_ble_eq_true rfl) (Nat.le_of_ble_eq_true rfl)
set_option maxHeartbeats 4000000 in
set_option maxRecDepth 100000 in
theorem bX2_readLong (l : Launch) (hfl : l.stackTraces = false) (D : va_G) (A : Nat → Prop) (cI cJ cD cC : ClassId) (h0 h1 h2 h3 h4 : Nat) (ad wd rd : Nat → Nat) (Y : va_W) (n : Nat) (K : Nat → Int32) (Ln : Nat → Nat) (Wh : Nat → Int64) (Re : Nat → UInt64) (cd : Int32) (ct : Nat → Int32) (sz : Nat) (hn6 : n ≤ 60) (cx : Int32) (hc : ¬ ∃ j, j < n ∧ cx = nI j) (i : Int32) : vx_Met l yX2_readLong wsX2_readLong ({ frames := 7, cells := 1, slots := 6, locals := 112 }) (tcP D A (tcTY cI cJ cD cC) sz [.ref h0, .int cx, .int i] (tc_T cI cJ cD cC h0 h1 h2 h3 h4 ad wd rd Y n K Ln Wh Re cd ct)) (fun _ _ _ _ => False) (tcX D A (tc_T cI cJ cD cC h0 h1 h2 h3 h4 ad wd rd Y n K Ln Wh Re cd ct) "java/lang/IndexOutOfBoundsException") 1 6 A := by
  refine vx_ofW (cc := cX2_readLong) (maxL := 3) (ret := (some .long)) (by decide) rfl ?_
  intro p e s m args below meth c s₁ B hml htb hv
  obtain ⟨rfl, hsz, hP, hK, hD, hE⟩ := hv
  have hx := B.exec
  have hb := B.bytes
  have hr := B.returns
  have hts := atoms_spec (ws := wsX2_readLong) B.pre
  have hown : s.vm.findClass RX2 = some m.cls := findClass_of_methodNamed B.named
  have hlocks := B.notSynchronized
  have hl := lv_entry ([.ref h0, .int cx, .int i]) (n := 3) (Nat.le_of_ble_eq_true rfl)
  rw [lg_entry_eq]
  generalize (lg_sl ([.ref h0, .int cx, .int i]) ++ List.replicate (3 - (lg_sl ([.ref h0, .int cx, .int i])).length) Slot.unset).toArray = ls at hl ⊢
  have hl : lv_has ls 3 [(0, .ref h0), (1, .int cx), (2, .int i)] := hl
  subst hsz
  have hS : va_S A s.heap s.heap [] := va_S.rf
  refine lv_aload_n hx hb dX2_readLong_0 rfl (lv_at hl 0 rfl) ?_
  refine lv_aload_n hx hb dX2_readLong_1 rfl (lv_at hl 0 rfl) ?_
  refine lv_iload_n hx hb dX2_readLong_2 rfl (lv_at hl 1 rfl) ?_
  refine tc_thr (vx_runV (As := [.int cx]) (rest := [.ref h0]) ⟨hx, hb, hml, hown, hts⟩ (bX2_columnAt l hfl D A cI cJ cD cC h0 h1 h2 h3 h4 ad wd rd Y n K Ln Wh Re cd ct s.heap.size hn6 cx hc) (cwV 1 hts gX2_readLong_X2_columnAt rfl rfl rfl (by decide +kernel) ⟨Nat.le_of_ble_eq_true rfl, Nat.le_of_ble_eq_true rfl⟩) ⟨tcP.blind, va_recv hK hP (ci := 2) (q0 := 0) rfl rfl, tcP.go hK hP hD hE hS⟩ rfl rfl hl.1 rfl (lv_room (Nat.le_of_ble_eq_true rfl)) dX2_readLong_3 ⟨Nat.le_of_ble_eq_true rfl, Nat.le_of_ble_eq_true rfl⟩) hS (fun q h => h) (fun q _ h => h) (fun E ce q9 u t H locs ht hvm hw hB hz1 hk1 hS hce hcv hcl => ?_)
  obtain ⟨rfl, hP, hD⟩ := hB
  rw [ht] at hP
  exact vx_out (fun x hx9 => (htb x hx9).elim) hlocks hce hcv hcl (tcX.end hP hD hS) hS.2.2 (Nat.le_of_ble_eq_true rfl) (Nat.le_of_ble_eq_true rfl)
set_option maxHeartbeats 4000000 in
set_option maxRecDepth 100000 in
theorem bX2_readFloat (l : Launch) (hfl : l.stackTraces = false) (D : va_G) (A : Nat → Prop) (cI cJ cD cC : ClassId) (h0 h1 h2 h3 h4 : Nat) (ad wd rd : Nat → Nat) (Y : va_W) (n : Nat) (K : Nat → Int32) (Ln : Nat → Nat) (Wh : Nat → Int64) (Re : Nat → UInt64) (cd : Int32) (ct : Nat → Int32) (sz : Nat) (hn6 : n ≤ 60) (cx : Int32) (hc : ¬ ∃ j, j < n ∧ cx = nI j) (i : Int32) : vx_Met l yX2_readFloat wsX2_readFloat ({ frames := 7, cells := 1, slots := 6, locals := 112 }) (tcP D A (tcTY cI cJ cD cC) sz [.ref h0, .int cx, .int i] (tc_T cI cJ cD cC h0 h1 h2 h3 h4 ad wd rd Y n K Ln Wh Re cd ct)) (fun _ _ _ _ => False) (tcX D A (tc_T cI cJ cD cC h0 h1 h2 h3 h4 ad wd rd Y n K Ln Wh Re cd ct) "java/lang/IndexOutOfBoundsException") 1 6 A := by
  refine vx_ofW (cc := cX2_readFloat) (maxL := 5) (ret := (some .float)) (by decide) rfl ?_
  intro p e s m args below meth c s₁ B hml htb hv
  obtain ⟨rfl, hsz, hP, hK, hD, hE⟩ := hv
  have hx := B.exec
  have hb := B.bytes
  have hr := B.returns
  have hts := atoms_spec (ws := wsX2_readFloat) B.pre
  have hown : s.vm.findClass RX2 = some m.cls := findClass_of_methodNamed B.named
  have hlocks := B.notSynchronized
  have hl := lv_entry ([.ref h0, .int cx, .int i]) (n := 5) (Nat.le_of_ble_eq_true rfl)
  rw [lg_entry_eq]
  generalize (lg_sl ([.ref h0, .int cx, .int i]) ++ List.replicate (5 - (lg_sl ([.ref h0, .int cx, .int i])).length) Slot.unset).toArray = ls at hl ⊢
  have hl : lv_has ls 5 [(0, .ref h0), (1, .int cx), (2, .int i)] := hl
  subst hsz
  have hS : va_S A s.heap s.heap [] := va_S.rf
  refine lv_aload_n hx hb dX2_readFloat_0 rfl (lv_at hl 0 rfl) ?_
  refine lv_iload_n hx hb dX2_readFloat_1 rfl (lv_at hl 1 rfl) ?_
  refine tc_thr (vx_runV (As := [.int cx]) (rest := []) ⟨hx, hb, hml, hown, hts⟩ (bX2_columnAt l hfl D A cI cJ cD cC h0 h1 h2 h3 h4 ad wd rd Y n K Ln Wh Re cd ct s.heap.size hn6 cx hc) (cwV 1 hts gX2_readFloat_X2_columnAt rfl rfl rfl (by decide +kernel) ⟨Nat.le_of_ble_eq_true rfl, Nat.le_of_ble_eq_true rfl⟩) ⟨tcP.blind, va_recv hK hP (ci := 2) (q0 := 0) rfl rfl, tcP.go hK hP hD hE hS⟩ rfl rfl hl.1 rfl (lv_room (Nat.le_of_ble_eq_true rfl)) dX2_readFloat_2 ⟨Nat.le_of_ble_eq_true rfl, Nat.le_of_ble_eq_true rfl⟩) hS (fun q h => h) (fun q _ h => h) (fun E ce q9 u t H locs ht hvm hw hB hz1 hk1 hS hce hcv hcl => ?_)
  obtain ⟨rfl, hP, hD⟩ := hB
  rw [ht] at hP
  exact vx_out (fun x hx9 => (htb x hx9).elim) hlocks hce hcv hcl (tcX.end hP hD hS) hS.2.2 (Nat.le_of_ble_eq_true rfl) (Nat.le_of_ble_eq_true rfl)
set_option maxHeartbeats 4000000 in
set_option maxRecDepth 100000 in
theorem bX2_readDouble (l : Launch) (hfl : l.stackTraces = false) (D : va_G) (A : Nat → Prop) (cI cJ cD cC : ClassId) (h0 h1 h2 h3 h4 : Nat) (ad wd rd : Nat → Nat) (Y : va_W) (n : Nat) (K : Nat → Int32) (Ln : Nat → Nat) (Wh : Nat → Int64) (Re : Nat → UInt64) (cd : Int32) (ct : Nat → Int32) (sz : Nat) (hn6 : n ≤ 60) (cx : Int32) (hc : ¬ ∃ j, j < n ∧ cx = nI j) (i : Int32) : vx_Met l yX2_readDouble wsX2_readDouble ({ frames := 7, cells := 1, slots := 6, locals := 112 }) (tcP D A (tcTY cI cJ cD cC) sz [.ref h0, .int cx, .int i] (tc_T cI cJ cD cC h0 h1 h2 h3 h4 ad wd rd Y n K Ln Wh Re cd ct)) (fun _ _ _ _ => False) (tcX D A (tc_T cI cJ cD cC h0 h1 h2 h3 h4 ad wd rd Y n K Ln Wh Re cd ct) "java/lang/IndexOutOfBoundsException") 1 6 A := by
  refine vx_ofW (cc := cX2_readDouble) (maxL := 3) (ret := (some .double)) (by decide) rfl ?_
  intro p e s m args below meth c s₁ B hml htb hv
  obtain ⟨rfl, hsz, hP, hK, hD, hE⟩ := hv
  have hx := B.exec
  have hb := B.bytes
  have hr := B.returns
  have hts := atoms_spec (ws := wsX2_readDouble) B.pre
  have hown : s.vm.findClass RX2 = some m.cls := findClass_of_methodNamed B.named
  have hlocks := B.notSynchronized
  have hl := lv_entry ([.ref h0, .int cx, .int i]) (n := 3) (Nat.le_of_ble_eq_true rfl)
  rw [lg_entry_eq]
  generalize (lg_sl ([.ref h0, .int cx, .int i]) ++ List.replicate (3 - (lg_sl ([.ref h0, .int cx, .int i])).length) Slot.unset).toArray = ls at hl ⊢
  have hl : lv_has ls 3 [(0, .ref h0), (1, .int cx), (2, .int i)] := hl
  subst hsz
  have hS : va_S A s.heap s.heap [] := va_S.rf
  refine lv_aload_n hx hb dX2_readDouble_0 rfl (lv_at hl 0 rfl) ?_
  refine lv_aload_n hx hb dX2_readDouble_1 rfl (lv_at hl 0 rfl) ?_
  refine lv_iload_n hx hb dX2_readDouble_2 rfl (lv_at hl 1 rfl) ?_
  refine tc_thr (vx_runV (As := [.int cx]) (rest := [.ref h0]) ⟨hx, hb, hml, hown, hts⟩ (bX2_columnAt l hfl D A cI cJ cD cC h0 h1 h2 h3 h4 ad wd rd Y n K Ln Wh Re cd ct s.heap.size hn6 cx hc) (cwV 1 hts gX2_readDouble_X2_columnAt rfl rfl rfl (by decide +kernel) ⟨Nat.le_of_ble_eq_true rfl, Nat.le_of_ble_eq_true rfl⟩) ⟨tcP.blind, va_recv hK hP (ci := 2) (q0 := 0) rfl rfl, tcP.go hK hP hD hE hS⟩ rfl rfl hl.1 rfl (lv_room (Nat.le_of_ble_eq_true rfl)) dX2_readDouble_3 ⟨Nat.le_of_ble_eq_true rfl, Nat.le_of_ble_eq_true rfl⟩) hS (fun q h => h) (fun q _ h => h) (fun E ce q9 u t H locs ht hvm hw hB hz1 hk1 hS hce hcv hcl => ?_)
  obtain ⟨rfl, hP, hD⟩ := hB
  rw [ht] at hP
  exact vx_out (fun x hx9 => (htb x hx9).elim) hlocks hce hcv hcl (tcX.end hP hD hS) hS.2.2 (Nat.le_of_ble_eq_true rfl) (Nat.le_of_ble_eq_true rfl)
set_option maxHeartbeats 4000000 in
set_option maxRecDepth 100000 in
theorem bX2_readAny (l : Launch) (hfl : l.stackTraces = false) (D : va_G) (A : Nat → Prop) (cI cJ cD cC : ClassId) (h0 h1 h2 h3 h4 : Nat) (ad wd rd : Nat → Nat) (Y : va_W) (n : Nat) (K : Nat → Int32) (Ln : Nat → Nat) (Wh : Nat → Int64) (Re : Nat → UInt64) (cd : Int32) (ct : Nat → Int32) (sz : Nat) (hn6 : n ≤ 60) (cx : Int32) (hc : ¬ ∃ j, j < n ∧ cx = nI j) (i : Int32) : vx_Met l yX2_readAny wsX2_readAny ({ frames := 7, cells := 1, slots := 6, locals := 112 }) (tcP D A (tcTY cI cJ cD cC) sz [.ref h0, .int cx, .int i] (tc_T cI cJ cD cC h0 h1 h2 h3 h4 ad wd rd Y n K Ln Wh Re cd ct)) (fun _ _ _ _ => False) (tcX D A (tc_T cI cJ cD cC h0 h1 h2 h3 h4 ad wd rd Y n K Ln Wh Re cd ct) "java/lang/IndexOutOfBoundsException") 1 6 A := by
  refine vx_ofW (cc := cX2_readAny) (maxL := 4) (ret := (some .double)) (by decide) rfl ?_
  intro p e s m args below meth c s₁ B hml htb hv
  obtain ⟨rfl, hsz, hP, hK, hD, hE⟩ := hv
  have hx := B.exec
  have hb := B.bytes
  have hr := B.returns
  have hts := atoms_spec (ws := wsX2_readAny) B.pre
  have hown : s.vm.findClass RX2 = some m.cls := findClass_of_methodNamed B.named
  have hlocks := B.notSynchronized
  have hl := lv_entry ([.ref h0, .int cx, .int i]) (n := 4) (Nat.le_of_ble_eq_true rfl)
  rw [lg_entry_eq]
  generalize (lg_sl ([.ref h0, .int cx, .int i]) ++ List.replicate (4 - (lg_sl ([.ref h0, .int cx, .int i])).length) Slot.unset).toArray = ls at hl ⊢
  have hl : lv_has ls 4 [(0, .ref h0), (1, .int cx), (2, .int i)] := hl
  subst hsz
  have hS : va_S A s.heap s.heap [] := va_S.rf
  refine lv_aload_n hx hb dX2_readAny_0 rfl (lv_at hl 0 rfl) ?_
  refine lv_iload_n hx hb dX2_readAny_1 rfl (lv_at hl 1 rfl) ?_
  refine tc_thr (vx_runV (As := [.int cx]) (rest := []) ⟨hx, hb, hml, hown, hts⟩ (bX2_columnAt l hfl D A cI cJ cD cC h0 h1 h2 h3 h4 ad wd rd Y n K Ln Wh Re cd ct s.heap.size hn6 cx hc) (cwV 1 hts gX2_readAny_X2_columnAt rfl rfl rfl (by decide +kernel) ⟨Nat.le_of_ble_eq_true rfl, Nat.le_of_ble_eq_true rfl⟩) ⟨tcP.blind, va_recv hK hP (ci := 2) (q0 := 0) rfl rfl, tcP.go hK hP hD hE hS⟩ rfl rfl hl.1 rfl (lv_room (Nat.le_of_ble_eq_true rfl)) dX2_readAny_2 ⟨Nat.le_of_ble_eq_true rfl, Nat.le_of_ble_eq_true rfl⟩) hS (fun q h => h) (fun q _ h => h) (fun E ce q9 u t H locs ht hvm hw hB hz1 hk1 hS hce hcv hcl => ?_)
  obtain ⟨rfl, hP, hD⟩ := hB
  rw [ht] at hP
  exact vx_out (fun x hx9 => (htb x hx9).elim) hlocks hce hcv hcl (tcX.end hP hD hS) hS.2.2 (Nat.le_of_ble_eq_true rfl) (Nat.le_of_ble_eq_true rfl)
set_option maxHeartbeats 4000000 in
set_option maxRecDepth 100000 in
theorem bX2_kind (l : Launch) (hfl : l.stackTraces = false) (D : va_G) (A : Nat → Prop) (cI cJ cD cC : ClassId) (h0 h1 h2 h3 h4 : Nat) (ad wd rd : Nat → Nat) (Y : va_W) (n : Nat) (K : Nat → Int32) (Ln : Nat → Nat) (Wh : Nat → Int64) (Re : Nat → UInt64) (cd : Int32) (ct : Nat → Int32) (sz : Nat) (hn6 : n ≤ 60) (cx : Int32) (hc : ¬ ∃ j, j < n ∧ cx = nI j)  : vx_Met l yX2_kind wsX2_kind ({ frames := 7, cells := 1, slots := 6, locals := 112 }) (tcP D A (tcTY cI cJ cD cC) sz [.ref h0, .int cx] (tc_T cI cJ cD cC h0 h1 h2 h3 h4 ad wd rd Y n K Ln Wh Re cd ct)) (fun _ _ _ _ => False) (tcX D A (tc_T cI cJ cD cC h0 h1 h2 h3 h4 ad wd rd Y n K Ln Wh Re cd ct) "java/lang/IndexOutOfBoundsException") 1 6 A := by
  refine vx_ofW (cc := cX2_kind) (maxL := 2) (ret := (some .int)) (by decide) rfl ?_
  intro p e s m args below meth c s₁ B hml htb hv
  obtain ⟨rfl, hsz, hP, hK, hD, hE⟩ := hv
  have hx := B.exec
  have hb := B.bytes
  have hr := B.returns
  have hts := atoms_spec (ws := wsX2_kind) B.pre
  have hown : s.vm.findClass RX2 = some m.cls := findClass_of_methodNamed B.named
  have hlocks := B.notSynchronized
  have hl := lv_entry ([.ref h0, .int cx]) (n := 2) (Nat.le_of_ble_eq_true rfl)
  rw [lg_entry_eq]
  generalize (lg_sl ([.ref h0, .int cx]) ++ List.replicate (2 - (lg_sl ([.ref h0, .int cx])).length) Slot.unset).toArray = ls at hl ⊢
  have hl : lv_has ls 2 [(0, .ref h0), (1, .int cx)] := hl
  subst hsz
  have hS : va_S A s.heap s.heap [] := va_S.rf
  refine lv_aload_n hx hb dX2_kind_0 rfl (lv_at hl 0 rfl) ?_
  refine lv_iload_n hx hb dX2_kind_1 rfl (lv_at hl 1 rfl) ?_
  refine tc_thr (vx_runV (As := [.int cx]) (rest := []) ⟨hx, hb, hml, hown, hts⟩ (bX2_columnAt l hfl D A cI cJ cD cC h0 h1 h2 h3 h4 ad wd rd Y n K Ln Wh Re cd ct s.heap.size hn6 cx hc) (cwV 1 hts gX2_kind_X2_columnAt rfl rfl rfl (by decide +kernel) ⟨Nat.le_of_ble_eq_true rfl, Nat.le_of_ble_eq_true rfl⟩) ⟨tcP.blind, va_recv hK hP (ci := 2) (q0 := 0) rfl rfl, tcP.go hK hP hD hE hS⟩ rfl rfl hl.1 rfl (lv_room (Nat.le_of_ble_eq_true rfl)) dX2_kind_2 ⟨Nat.le_of_ble_eq_true rfl, Nat.le_of_ble_eq_true rfl⟩) hS (fun q h => h) (fun q _ h => h) (fun E ce q9 u t H locs ht hvm hw hB hz1 hk1 hS hce hcv hcl => ?_)
  obtain ⟨rfl, hP, hD⟩ := hB
  rw [ht] at hP
  exact vx_out (fun x hx9 => (htb x hx9).elim) hlocks hce hcv hcl (tcX.end hP hD hS) hS.2.2 (Nat.le_of_ble_eq_true rfl) (Nat.le_of_ble_eq_true rfl)
set_option maxHeartbeats 4000000 in
set_option maxRecDepth 100000 in
theorem bX2_length (l : Launch) (hfl : l.stackTraces = false) (D : va_G) (A : Nat → Prop) (cI cJ cD cC : ClassId) (h0 h1 h2 h3 h4 : Nat) (ad wd rd : Nat → Nat) (Y : va_W) (n : Nat) (K : Nat → Int32) (Ln : Nat → Nat) (Wh : Nat → Int64) (Re : Nat → UInt64) (cd : Int32) (ct : Nat → Int32) (sz : Nat) (hn6 : n ≤ 60) (cx : Int32) (hc : ¬ ∃ j, j < n ∧ cx = nI j)  : vx_Met l yX2_length wsX2_length ({ frames := 7, cells := 1, slots := 6, locals := 112 }) (tcP D A (tcTY cI cJ cD cC) sz [.ref h0, .int cx] (tc_T cI cJ cD cC h0 h1 h2 h3 h4 ad wd rd Y n K Ln Wh Re cd ct)) (fun _ _ _ _ => False) (tcX D A (tc_T cI cJ cD cC h0 h1 h2 h3 h4 ad wd rd Y n K Ln Wh Re cd ct) "java/lang/IndexOutOfBoundsException") 1 6 A := by
  refine vx_ofW (cc := cX2_length) (maxL := 3) (ret := (some .int)) (by decide) rfl ?_
  intro p e s m args below meth c s₁ B hml htb hv
  obtain ⟨rfl, hsz, hP, hK, hD, hE⟩ := hv
  have hx := B.exec
  have hb := B.bytes
  have hr := B.returns
  have hts := atoms_spec (ws := wsX2_length) B.pre
  have hown : s.vm.findClass RX2 = some m.cls := findClass_of_methodNamed B.named
  have hlocks := B.notSynchronized
  have hl := lv_entry ([.ref h0, .int cx]) (n := 3) (Nat.le_of_ble_eq_true rfl)
  rw [lg_entry_eq]
  generalize (lg_sl ([.ref h0, .int cx]) ++ List.replicate (3 - (lg_sl ([.ref h0, .int cx])).length) Slot.unset).toArray = ls at hl ⊢
  have hl : lv_has ls 3 [(0, .ref h0), (1, .int cx)] := hl
  subst hsz
  have hS : va_S A s.heap s.heap [] := va_S.rf
  refine lv_aload_n hx hb dX2_length_0 rfl (lv_at hl 0 rfl) ?_
  refine lv_iload_n hx hb dX2_length_1 rfl (lv_at hl 1 rfl) ?_
  refine tc_thr (vx_runV (As := [.int cx]) (rest := []) ⟨hx, hb, hml, hown, hts⟩ (bX2_columnAt l hfl D A cI cJ cD cC h0 h1 h2 h3 h4 ad wd rd Y n K Ln Wh Re cd ct s.heap.size hn6 cx hc) (cwV 1 hts gX2_length_X2_columnAt rfl rfl rfl (by decide +kernel) ⟨Nat.le_of_ble_eq_true rfl, Nat.le_of_ble_eq_true rfl⟩) ⟨tcP.blind, va_recv hK hP (ci := 2) (q0 := 0) rfl rfl, tcP.go hK hP hD hE hS⟩ rfl rfl hl.1 rfl (lv_room (Nat.le_of_ble_eq_true rfl)) dX2_length_2 ⟨Nat.le_of_ble_eq_true rfl, Nat.le_of_ble_eq_true rfl⟩) hS (fun q h => h) (fun q _ h => h) (fun E ce q9 u t H locs ht hvm hw hB hz1 hk1 hS hce hcv hcl => ?_)
  obtain ⟨rfl, hP, hD⟩ := hB
  rw [ht] at hP
  exact vx_out (fun x hx9 => (htb x hx9).elim) hlocks hce hcv hcl (tcX.end hP hD hS) hS.2.2 (Nat.le_of_ble_eq_true rfl) (Nat.le_of_ble_eq_true rfl)
set_option maxHeartbeats 4000000 in
set_option maxRecDepth 100000 in
theorem bX2_total (l : Launch) (hfl : l.stackTraces = false) (D : va_G) (A : Nat → Prop) (cI cJ cD cC : ClassId) (h0 h1 h2 h3 h4 : Nat) (ad wd rd : Nat → Nat) (Y : va_W) (n : Nat) (K : Nat → Int32) (Ln : Nat → Nat) (Wh : Nat → Int64) (Re : Nat → UInt64) (cd : Int32) (ct : Nat → Int32) (sz : Nat) (hn6 : n ≤ 60) (cx : Int32) (hc : ¬ ∃ j, j < n ∧ cx = nI j)  : vx_Met l yX2_total wsX2_total ({ frames := 7, cells := 1, slots := 6, locals := 112 }) (tcP D A (tcTY cI cJ cD cC) sz [.ref h0, .int cx] (tc_T cI cJ cD cC h0 h1 h2 h3 h4 ad wd rd Y n K Ln Wh Re cd ct)) (fun _ _ _ _ => False) (tcX D A (tc_T cI cJ cD cC h0 h1 h2 h3 h4 ad wd rd Y n K Ln Wh Re cd ct) "java/lang/IndexOutOfBoundsException") 1 6 A := by
  refine vx_ofW (cc := cX2_total) (maxL := 4) (ret := (some .double)) (by decide) rfl ?_
  intro p e s m args below meth c s₁ B hml htb hv
  obtain ⟨rfl, hsz, hP, hK, hD, hE⟩ := hv
  have hx := B.exec
  have hb := B.bytes
  have hr := B.returns
  have hts := atoms_spec (ws := wsX2_total) B.pre
  have hown : s.vm.findClass RX2 = some m.cls := findClass_of_methodNamed B.named
  have hlocks := B.notSynchronized
  have hl := lv_entry ([.ref h0, .int cx]) (n := 4) (Nat.le_of_ble_eq_true rfl)
  rw [lg_entry_eq]
  generalize (lg_sl ([.ref h0, .int cx]) ++ List.replicate (4 - (lg_sl ([.ref h0, .int cx])).length) Slot.unset).toArray = ls at hl ⊢
  have hl : lv_has ls 4 [(0, .ref h0), (1, .int cx)] := hl
  subst hsz
  have hS : va_S A s.heap s.heap [] := va_S.rf
  refine lv_aload_n hx hb dX2_total_0 rfl (lv_at hl 0 rfl) ?_
  refine lv_iload_n hx hb dX2_total_1 rfl (lv_at hl 1 rfl) ?_
  refine tc_thr (vx_runV (As := [.int cx]) (rest := []) ⟨hx, hb, hml, hown, hts⟩ (bX2_columnAt l hfl D A cI cJ cD cC h0 h1 h2 h3 h4 ad wd rd Y n K Ln Wh Re cd ct s.heap.size hn6 cx hc) (cwV 1 hts gX2_total_X2_columnAt rfl rfl rfl (by decide +kernel) ⟨Nat.le_of_ble_eq_true rfl, Nat.le_of_ble_eq_true rfl⟩) ⟨tcP.blind, va_recv hK hP (ci := 2) (q0 := 0) rfl rfl, tcP.go hK hP hD hE hS⟩ rfl rfl hl.1 rfl (lv_room (Nat.le_of_ble_eq_true rfl)) dX2_total_2 ⟨Nat.le_of_ble_eq_true rfl, Nat.le_of_ble_eq_true rfl⟩) hS (fun q h => h) (fun q _ h => h) (fun E ce q9 u t H locs ht hvm hw hB hz1 hk1 hS hce hcv hcl => ?_)
  obtain ⟨rfl, hP, hD⟩ := hB
  rw [ht] at hP
  exact vx_out (fun x hx9 => (htb x hx9).elim) hlocks hce hcv hcl (tcX.end hP hD hS) hS.2.2 (Nat.le_of_ble_eq_true rfl) (Nat.le_of_ble_eq_true rfl)
set_option maxHeartbeats 4000000 in
set_option maxRecDepth 100000 in
theorem bX2_writeBoolean (l : Launch) (hfl : l.stackTraces = false) (D : va_G) (A : Nat → Prop) (cI cJ cD cC : ClassId) (h0 h1 h2 h3 h4 : Nat) (ad wd rd : Nat → Nat) (Y : va_W) (n : Nat) (K : Nat → Int32) (Ln : Nat → Nat) (Wh : Nat → Int64) (Re : Nat → UInt64) (cd : Int32) (ct : Nat → Int32) (sz : Nat) (hn6 : n ≤ 60) (cx : Int32) (hc : ¬ ∃ j, j < n ∧ cx = nI j) (i : Int32) (v : Int32) : vx_Met l yX2_writeBoolean wsX2_writeBoolean ({ frames := 7, cells := 1, slots := 6, locals := 112 }) (tcP D A (tcTY cI cJ cD cC) sz [.ref h0, .int cx, .int i, .int v] (tc_T cI cJ cD cC h0 h1 h2 h3 h4 ad wd rd Y n K Ln Wh Re cd ct)) (fun _ _ _ _ => False) (tcX D A (tc_T cI cJ cD cC h0 h1 h2 h3 h4 ad wd rd Y n K Ln Wh Re cd ct) "java/lang/IndexOutOfBoundsException") 1 6 A := by
  refine vx_ofW (cc := cX2_writeBoolean) (maxL := 4) (ret := (some .int)) (by decide) rfl ?_
  intro p e s m args below meth c s₁ B hml htb hv
  obtain ⟨rfl, hsz, hP, hK, hD, hE⟩ := hv
  have hx := B.exec
  have hb := B.bytes
  have hr := B.returns
  have hts := atoms_spec (ws := wsX2_writeBoolean) B.pre
  have hown : s.vm.findClass RX2 = some m.cls := findClass_of_methodNamed B.named
  have hlocks := B.notSynchronized
  have hl := lv_entry ([.ref h0, .int cx, .int i, .int v]) (n := 4) (Nat.le_of_ble_eq_true rfl)
  rw [lg_entry_eq]
  generalize (lg_sl ([.ref h0, .int cx, .int i, .int v]) ++ List.replicate (4 - (lg_sl ([.ref h0, .int cx, .int i, .int v])).length) Slot.unset).toArray = ls at hl ⊢
  have hl : lv_has ls 4 [(0, .ref h0), (1, .int cx), (2, .int i), (3, .int v)] := hl
  subst hsz
  have hS : va_S A s.heap s.heap [] := va_S.rf
  refine lv_aload_n hx hb dX2_writeBoolean_0 rfl (lv_at hl 0 rfl) ?_
  refine lv_aload_n hx hb dX2_writeBoolean_1 rfl (lv_at hl 0 rfl) ?_
  refine lv_iload_n hx hb dX2_writeBoolean_2 rfl (lv_at hl 1 rfl) ?_
  refine tc_thr (vx_runV (As := [.int cx]) (rest := [.ref h0]) ⟨hx, hb, hml, hown, hts⟩ (bX2_columnAt l hfl D A cI cJ cD cC h0 h1 h2 h3 h4 ad wd rd Y n K Ln Wh Re cd ct s.heap.size hn6 cx hc) (cwV 1 hts gX2_writeBoolean_X2_columnAt rfl rfl rfl (by decide +kernel) ⟨Nat.le_of_ble_eq_true rfl, Nat.le_of_ble_eq_true rfl⟩) ⟨tcP.blind, va_recv hK hP (ci := 2) (q0 := 0) rfl rfl, tcP.go hK hP hD hE hS⟩ rfl rfl hl.1 rfl (lv_room (Nat.le_of_ble_eq_true rfl)) dX2_writeBoolean_3 ⟨Nat.le_of_ble_eq_true rfl, Nat.le_of_ble_eq_true rfl⟩) hS (fun q h => h) (fun q _ h => h) (fun E ce q9 u t H locs ht hvm hw hB hz1 hk1 hS hce hcv hcl => ?_)
  obtain ⟨rfl, hP, hD⟩ := hB
  rw [ht] at hP
  exact vx_out (fun x hx9 => (htb x hx9).elim) hlocks hce hcv hcl (tcX.end hP hD hS) hS.2.2 (Nat.le_of_ble_eq_true rfl) (Nat.le_of_ble_eq_true rfl)
set_option maxHeartbeats 4000000 in
set_option maxRecDepth 100000 in
theorem bX2_writeByte (l : Launch) (hfl : l.stackTraces = false) (D : va_G) (A : Nat → Prop) (cI cJ cD cC : ClassId) (h0 h1 h2 h3 h4 : Nat) (ad wd rd : Nat → Nat) (Y : va_W) (n : Nat) (K : Nat → Int32) (Ln : Nat → Nat) (Wh : Nat → Int64) (Re : Nat → UInt64) (cd : Int32) (ct : Nat → Int32) (sz : Nat) (hn6 : n ≤ 60) (cx : Int32) (hc : ¬ ∃ j, j < n ∧ cx = nI j) (i : Int32) (v : Int32) : vx_Met l yX2_writeByte wsX2_writeByte ({ frames := 7, cells := 1, slots := 6, locals := 112 }) (tcP D A (tcTY cI cJ cD cC) sz [.ref h0, .int cx, .int i, .int v] (tc_T cI cJ cD cC h0 h1 h2 h3 h4 ad wd rd Y n K Ln Wh Re cd ct)) (fun _ _ _ _ => False) (tcX D A (tc_T cI cJ cD cC h0 h1 h2 h3 h4 ad wd rd Y n K Ln Wh Re cd ct) "java/lang/IndexOutOfBoundsException") 1 6 A := by
  refine vx_ofW (cc := cX2_writeByte) (maxL := 4) (ret := (some .int)) (by decide) rfl ?_
  intro p e s m args below meth c s₁ B hml htb hv
  obtain ⟨rfl, hsz, hP, hK, hD, hE⟩ := hv
  have hx := B.exec
  have hb := B.bytes
  have hr := B.returns
  have hts := atoms_spec (ws := wsX2_writeByte) B.pre
  have hown : s.vm.findClass RX2 = some m.cls := findClass_of_methodNamed B.named
  have hlocks := B.notSynchronized
  have hl := lv_entry ([.ref h0, .int cx, .int i, .int v]) (n := 4) (Nat.le_of_ble_eq_true rfl)
  rw [lg_entry_eq]
  generalize (lg_sl ([.ref h0, .int cx, .int i, .int v]) ++ List.replicate (4 - (lg_sl ([.ref h0, .int cx, .int i, .int v])).length) Slot.unset).toArray = ls at hl ⊢
  have hl : lv_has ls 4 [(0, .ref h0), (1, .int cx), (2, .int i), (3, .int v)] := hl
  subst hsz
  have hS : va_S A s.heap s.heap [] := va_S.rf
  refine lv_aload_n hx hb dX2_writeByte_0 rfl (lv_at hl 0 rfl) ?_
  refine lv_aload_n hx hb dX2_writeByte_1 rfl (lv_at hl 0 rfl) ?_
  refine lv_iload_n hx hb dX2_writeByte_2 rfl (lv_at hl 1 rfl) ?_
  refine tc_thr (vx_runV (As := [.int cx]) (rest := [.ref h0]) ⟨hx, hb, hml, hown, hts⟩ (bX2_columnAt l hfl D A cI cJ cD cC h0 h1 h2 h3 h4 ad wd rd Y n K Ln Wh Re cd ct s.heap.size hn6 cx hc) (cwV 1 hts gX2_writeByte_X2_columnAt rfl rfl rfl (by decide +kernel) ⟨Nat.le_of_ble_eq_true rfl, Nat.le_of_ble_eq_true rfl⟩) ⟨tcP.blind, va_recv hK hP (ci := 2) (q0 := 0) rfl rfl, tcP.go hK hP hD hE hS⟩ rfl rfl hl.1 rfl (lv_room (Nat.le_of_ble_eq_true rfl)) dX2_writeByte_3 ⟨Nat.le_of_ble_eq_true rfl, Nat.le_of_ble_eq_true rfl⟩) hS (fun q h => h) (fun q _ h => h) (fun E ce q9 u t H locs ht hvm hw hB hz1 hk1 hS hce hcv hcl => ?_)
  obtain ⟨rfl, hP, hD⟩ := hB
  rw [ht] at hP
  exact vx_out (fun x hx9 => (htb x hx9).elim) hlocks hce hcv hcl (tcX.end hP hD hS) hS.2.2 (Nat.le_of_ble_eq_true rfl) (Nat.le_of_ble_eq_true rfl)
set_option maxHeartbeats 4000000 in
set_option maxRecDepth 100000 in
theorem bX2_writeChar (l : Launch) (hfl : l.stackTraces = false) (D : va_G) (A : Nat → Prop) (cI cJ cD cC : ClassId) (h0 h1 h2 h3 h4 : Nat) (ad wd rd : Nat → Nat) (Y : va_W) (n : Nat) (K : Nat → Int32) (Ln : Nat → Nat) (Wh : Nat → Int64) (Re : Nat → UInt64) (cd : Int32) (ct : Nat → Int32) (sz : Nat) (hn6 : n ≤ 60) (cx : Int32) (hc : ¬ ∃ j, j < n ∧ cx = nI j) (i : Int32) (v : Int32) : vx_Met l yX2_writeChar wsX2_writeChar ({ frames := 7, cells := 1, slots := 6, locals := 112 }) (tcP D A (tcTY cI cJ cD cC) sz [.ref h0, .int cx, .int i, .int v] (tc_T cI cJ cD cC h0 h1 h2 h3 h4 ad wd rd Y n K Ln Wh Re cd ct)) (fun _ _ _ _ => False) (tcX D A (tc_T cI cJ cD cC h0 h1 h2 h3 h4 ad wd rd Y n K Ln Wh Re cd ct) "java/lang/IndexOutOfBoundsException") 1 6 A := by
  refine vx_ofW (cc := cX2_writeChar) (maxL := 4) (ret := (some .int)) (by decide) rfl ?_
  intro p e s m args below meth c s₁ B hml htb hv
  obtain ⟨rfl, hsz, hP, hK, hD, hE⟩ := hv
  have hx := B.exec
  have hb := B.bytes
  have hr := B.returns
  have hts := atoms_spec (ws := wsX2_writeChar) B.pre
  have hown : s.vm.findClass RX2 = some m.cls := findClass_of_methodNamed B.named
  have hlocks := B.notSynchronized
  have hl := lv_entry ([.ref h0, .int cx, .int i, .int v]) (n := 4) (Nat.le_of_ble_eq_true rfl)
  rw [lg_entry_eq]
  generalize (lg_sl ([.ref h0, .int cx, .int i, .int v]) ++ List.replicate (4 - (lg_sl ([.ref h0, .int cx, .int i, .int v])).length) Slot.unset).toArray = ls at hl ⊢
  have hl : lv_has ls 4 [(0, .ref h0), (1, .int cx), (2, .int i), (3, .int v)] := hl
  subst hsz
  have hS : va_S A s.heap s.heap [] := va_S.rf
  refine lv_aload_n hx hb dX2_writeChar_0 rfl (lv_at hl 0 rfl) ?_
  refine lv_aload_n hx hb dX2_writeChar_1 rfl (lv_at hl 0 rfl) ?_
  refine lv_iload_n hx hb dX2_writeChar_2 rfl (lv_at hl 1 rfl) ?_
  refine tc_thr (vx_runV (As := [.int cx]) (rest := [.ref h0]) ⟨hx, hb, hml, hown, hts⟩ (bX2_columnAt l hfl D A cI cJ cD cC h0 h1 h2 h3 h4 ad wd rd Y n K Ln Wh Re cd ct s.heap.size hn6 cx hc) (cwV 1 hts gX2_writeChar_X2_columnAt rfl rfl rfl (by decide +kernel) ⟨Nat.le_of_ble_eq_true rfl, Nat.le_of_ble_eq_true rfl⟩) ⟨tcP.blind, va_recv hK hP (ci := 2) (q0 := 0) rfl rfl, tcP.go hK hP hD hE hS⟩ rfl rfl hl.1 rfl (lv_room (Nat.le_of_ble_eq_true rfl)) dX2_writeChar_3 ⟨Nat.le_of_ble_eq_true rfl, Nat.le_of_ble_eq_true rfl⟩) hS (fun q h => h) (fun q _ h => h) (fun E ce q9 u t H locs ht hvm hw hB hz1 hk1 hS hce hcv hcl => ?_)
  obtain ⟨rfl, hP, hD⟩ := hB
  rw [ht] at hP
  exact vx_out (fun x hx9 => (htb x hx9).elim) hlocks hce hcv hcl (tcX.end hP hD hS) hS.2.2 (Nat.le_of_ble_eq_true rfl) (Nat.le_of_ble_eq_true rfl)
set_option maxHeartbeats 4000000 in
set_option maxRecDepth 100000 in
theorem bX2_writeShort (l : Launch) (hfl : l.stackTraces = false) (D : va_G) (A : Nat → Prop) (cI cJ cD cC : ClassId) (h0 h1 h2 h3 h4 : Nat) (ad wd rd : Nat → Nat) (Y : va_W) (n : Nat) (K : Nat → Int32) (Ln : Nat → Nat) (Wh : Nat → Int64) (Re : Nat → UInt64) (cd : Int32) (ct : Nat → Int32) (sz : Nat) (hn6 : n ≤ 60) (cx : Int32) (hc : ¬ ∃ j, j < n ∧ cx = nI j) (i : Int32) (v : Int32) : vx_Met l yX2_writeShort wsX2_writeShort ({ frames := 7, cells := 1, slots := 6, locals := 112 }) (tcP D A (tcTY cI cJ cD cC) sz [.ref h0, .int cx, .int i, .int v] (tc_T cI cJ cD cC h0 h1 h2 h3 h4 ad wd rd Y n K Ln Wh Re cd ct)) (fun _ _ _ _ => False) (tcX D A (tc_T cI cJ cD cC h0 h1 h2 h3 h4 ad wd rd Y n K Ln Wh Re cd ct) "java/lang/IndexOutOfBoundsException") 1 6 A := by
  refine vx_ofW (cc := cX2_writeShort) (maxL := 4) (ret := (some .int)) (by decide) rfl ?_
  intro p e s m args below meth c s₁ B hml htb hv
  obtain ⟨rfl, hsz, hP, hK, hD, hE⟩ := hv
  have hx := B.exec
  have hb := B.bytes
  have hr := B.returns
  have hts := atoms_spec (ws := wsX2_writeShort) B.pre
  have hown : s.vm.findClass RX2 = some m.cls := findClass_of_methodNamed B.named
  have hlocks := B.notSynchronized
  have hl := lv_entry ([.ref h0, .int cx, .int i, .int v]) (n := 4) (Nat.le_of_ble_eq_true rfl)
  rw [lg_entry_eq]
  generalize (lg_sl ([.ref h0, .int cx, .int i, .int v]) ++ List.replicate (4 - (lg_sl ([.ref h0, .int cx, .int i, .int v])).length) Slot.unset).toArray = ls at hl ⊢
  have hl : lv_has ls 4 [(0, .ref h0), (1, .int cx), (2, .int i), (3, .int v)] := hl
  subst hsz
  have hS : va_S A s.heap s.heap [] := va_S.rf
  refine lv_aload_n hx hb dX2_writeShort_0 rfl (lv_at hl 0 rfl) ?_
  refine lv_aload_n hx hb dX2_writeShort_1 rfl (lv_at hl 0 rfl) ?_
  refine lv_iload_n hx hb dX2_writeShort_2 rfl (lv_at hl 1 rfl) ?_
  refine tc_thr (vx_runV (As := [.int cx]) (rest := [.ref h0]) ⟨hx, hb, hml, hown, hts⟩ (bX2_columnAt l hfl D A cI cJ cD cC h0 h1 h2 h3 h4 ad wd rd Y n K Ln Wh Re cd ct s.heap.size hn6 cx hc) (cwV 1 hts gX2_writeShort_X2_columnAt rfl rfl rfl (by decide +kernel) ⟨Nat.le_of_ble_eq_true rfl, Nat.le_of_ble_eq_true rfl⟩) ⟨tcP.blind, va_recv hK hP (ci := 2) (q0 := 0) rfl rfl, tcP.go hK hP hD hE hS⟩ rfl rfl hl.1 rfl (lv_room (Nat.le_of_ble_eq_true rfl)) dX2_writeShort_3 ⟨Nat.le_of_ble_eq_true rfl, Nat.le_of_ble_eq_true rfl⟩) hS (fun q h => h) (fun q _ h => h) (fun E ce q9 u t H locs ht hvm hw hB hz1 hk1 hS hce hcv hcl => ?_)
  obtain ⟨rfl, hP, hD⟩ := hB
  rw [ht] at hP
  exact vx_out (fun x hx9 => (htb x hx9).elim) hlocks hce hcv hcl (tcX.end hP hD hS) hS.2.2 (Nat.le_of_ble_eq_true rfl) (Nat.le_of_ble_eq_true rfl)
set_option maxHeartbeats 4000000 in
set_option maxRecDepth 100000 in
theorem bX2_writeInt (l : Launch) (hfl : l.stackTraces = false) (D : va_G) (A : Nat → Prop) (cI cJ cD cC : ClassId) (h0 h1 h2 h3 h4 : Nat) (ad wd rd : Nat → Nat) (Y : va_W) (n : Nat) (K : Nat → Int32) (Ln : Nat → Nat) (Wh : Nat → Int64) (Re : Nat → UInt64) (cd : Int32) (ct : Nat → Int32) (sz : Nat) (hn6 : n ≤ 60) (cx : Int32) (hc : ¬ ∃ j, j < n ∧ cx = nI j) (i : Int32) (v : Int32) : vx_Met l yX2_writeInt wsX2_writeInt ({ frames := 7, cells := 1, slots := 6, locals := 112 }) (tcP D A (tcTY cI cJ cD cC) sz [.ref h0, .int cx, .int i, .int v] (tc_T cI cJ cD cC h0 h1 h2 h3 h4 ad wd rd Y n K Ln Wh Re cd ct)) (fun _ _ _ _ => False) (tcX D A (tc_T cI cJ cD cC h0 h1 h2 h3 h4 ad wd rd Y n K Ln Wh Re cd ct) "java/lang/IndexOutOfBoundsException") 1 6 A := by
  refine vx_ofW (cc := cX2_writeInt) (maxL := 4) (ret := (some .int)) (by decide) rfl ?_
  intro p e s m args below meth c s₁ B hml htb hv
  obtain ⟨rfl, hsz, hP, hK, hD, hE⟩ := hv
  have hx := B.exec
  have hb := B.bytes
  have hr := B.returns
  have hts := atoms_spec (ws := wsX2_writeInt) B.pre
  have hown : s.vm.findClass RX2 = some m.cls := findClass_of_methodNamed B.named
  have hlocks := B.notSynchronized
  have hl := lv_entry ([.ref h0, .int cx, .int i, .int v]) (n := 4) (Nat.le_of_ble_eq_true rfl)
  rw [lg_entry_eq]
  generalize (lg_sl ([.ref h0, .int cx, .int i, .int v]) ++ List.replicate (4 - (lg_sl ([.ref h0, .int cx, .int i, .int v])).length) Slot.unset).toArray = ls at hl ⊢
  have hl : lv_has ls 4 [(0, .ref h0), (1, .int cx), (2, .int i), (3, .int v)] := hl
  subst hsz
  have hS : va_S A s.heap s.heap [] := va_S.rf
  refine lv_aload_n hx hb dX2_writeInt_0 rfl (lv_at hl 0 rfl) ?_
  refine lv_aload_n hx hb dX2_writeInt_1 rfl (lv_at hl 0 rfl) ?_
  refine lv_iload_n hx hb dX2_writeInt_2 rfl (lv_at hl 1 rfl) ?_
  refine tc_thr (vx_runV (As := [.int cx]) (rest := [.ref h0]) ⟨hx, hb, hml, hown, hts⟩ (bX2_columnAt l hfl D A cI cJ cD cC h0 h1 h2 h3 h4 ad wd rd Y n K Ln Wh Re cd ct s.heap.size hn6 cx hc) (cwV 1 hts gX2_writeInt_X2_columnAt rfl rfl rfl (by decide +kernel) ⟨Nat.le_of_ble_eq_true rfl, Nat.le_of_ble_eq_true rfl⟩) ⟨tcP.blind, va_recv hK hP (ci := 2) (q0 := 0) rfl rfl, tcP.go hK hP hD hE hS⟩ rfl rfl hl.1 rfl (lv_room (Nat.le_of_ble_eq_true rfl)) dX2_writeInt_3 ⟨Nat.le_of_ble_eq_true rfl, Nat.le_of_ble_eq_true rfl⟩) hS (fun q h => h) (fun q _ h => h) (fun E ce q9 u t H locs ht hvm hw hB hz1 hk1 hS hce hcv hcl => ?_)
  obtain ⟨rfl, hP, hD⟩ := hB
  rw [ht] at hP
  exact vx_out (fun x hx9 => (htb x hx9).elim) hlocks hce hcv hcl (tcX.end hP hD hS) hS.2.2 (Nat.le_of_ble_eq_true rfl) (Nat.le_of_ble_eq_true rfl)
set_option maxHeartbeats 4000000 in
set_option maxRecDepth 100000 in
theorem bX2_writeLong (l : Launch) (hfl : l.stackTraces = false) (D : va_G) (A : Nat → Prop) (cI cJ cD cC : ClassId) (h0 h1 h2 h3 h4 : Nat) (ad wd rd : Nat → Nat) (Y : va_W) (n : Nat) (K : Nat → Int32) (Ln : Nat → Nat) (Wh : Nat → Int64) (Re : Nat → UInt64) (cd : Int32) (ct : Nat → Int32) (sz : Nat) (hn6 : n ≤ 60) (cx : Int32) (hc : ¬ ∃ j, j < n ∧ cx = nI j) (i : Int32) (v : Int64) : vx_Met l yX2_writeLong wsX2_writeLong ({ frames := 7, cells := 1, slots := 6, locals := 112 }) (tcP D A (tcTY cI cJ cD cC) sz [.ref h0, .int cx, .int i, .long v] (tc_T cI cJ cD cC h0 h1 h2 h3 h4 ad wd rd Y n K Ln Wh Re cd ct)) (fun _ _ _ _ => False) (tcX D A (tc_T cI cJ cD cC h0 h1 h2 h3 h4 ad wd rd Y n K Ln Wh Re cd ct) "java/lang/IndexOutOfBoundsException") 1 6 A := by
  refine vx_ofW (cc := cX2_writeLong) (maxL := 5) (ret := (some .int)) (by decide) rfl ?_
  intro p e s m args below meth c s₁ B hml htb hv
  obtain ⟨rfl, hsz, hP, hK, hD, hE⟩ := hv
  have hx := B.exec
  have hb := B.bytes
  have hr := B.returns
  have hts := atoms_spec (ws := wsX2_writeLong) B.pre
  have hown : s.vm.findClass RX2 = some m.cls := findClass_of_methodNamed B.named
  have hlocks := B.notSynchronized
  have hl := lv_entry ([.ref h0, .int cx, .int i, .long v]) (n := 5) (Nat.le_of_ble_eq_true rfl)
  rw [lg_entry_eq]
  generalize (lg_sl ([.ref h0, .int cx, .int i, .long v]) ++ List.replicate (5 - (lg_sl ([.ref h0, .int cx, .int i, .long v])).length) Slot.unset).toArray = ls at hl ⊢
  have hl : lv_has ls 5 [(0, .ref h0), (1, .int cx), (2, .int i), (3, .long v)] := hl
  subst hsz
  have hS : va_S A s.heap s.heap [] := va_S.rf
  refine lv_aload_n hx hb dX2_writeLong_0 rfl (lv_at hl 0 rfl) ?_
  refine lv_aload_n hx hb dX2_writeLong_1 rfl (lv_at hl 0 rfl) ?_
  refine lv_iload_n hx hb dX2_writeLong_2 rfl (lv_at hl 1 rfl) ?_
  refine tc_thr (vx_runV (As := [.int cx]) (rest := [.ref h0]) ⟨hx, hb, hml, hown, hts⟩ (bX2_columnAt l hfl D A cI cJ cD cC h0 h1 h2 h3 h4 ad wd rd Y n K Ln Wh Re cd ct s.heap.size hn6 cx hc) (cwV 1 hts gX2_writeLong_X2_columnAt rfl rfl rfl (by decide +kernel) ⟨Nat.le_of_ble_eq_true rfl, Nat.le_of_ble_eq_true rfl⟩) ⟨tcP.blind, va_recv hK hP (ci := 2) (q0 := 0) rfl rfl, tcP.go hK hP hD hE hS⟩ rfl rfl hl.1 rfl (lv_room (Nat.le_of_ble_eq_true rfl)) dX2_writeLong_3 ⟨Nat.le_of_ble_eq_true rfl, Nat.le_of_ble_eq_true rfl⟩) hS (fun q h => h) (fun q _ h => h) (fun E ce q9 u t H locs ht hvm hw hB hz1 hk1 hS hce hcv hcl => ?_)
  obtain ⟨rfl, hP, hD⟩ := hB
  rw [ht] at hP
  exact vx_out (fun x hx9 => (htb x hx9).elim) hlocks hce hcv hcl (tcX.end hP hD hS) hS.2.2 (Nat.le_of_ble_eq_true rfl) (Nat.le_of_ble_eq_true rfl)
set_option maxHeartbeats 4000000 in
set_option maxRecDepth 100000 in
theorem bX2_writeFloat (l : Launch) (hfl : l.stackTraces = false) (D : va_G) (A : Nat → Prop) (cI cJ cD cC : ClassId) (h0 h1 h2 h3 h4 : Nat) (ad wd rd : Nat → Nat) (Y : va_W) (n : Nat) (K : Nat → Int32) (Ln : Nat → Nat) (Wh : Nat → Int64) (Re : Nat → UInt64) (cd : Int32) (ct : Nat → Int32) (sz : Nat) (hn6 : n ≤ 60) (cx : Int32) (hc : ¬ ∃ j, j < n ∧ cx = nI j) (i : Int32) (v : UInt32) : vx_Met l yX2_writeFloat wsX2_writeFloat ({ frames := 7, cells := 1, slots := 6, locals := 112 }) (tcP D A (tcTY cI cJ cD cC) sz [.ref h0, .int cx, .int i, .float v] (tc_T cI cJ cD cC h0 h1 h2 h3 h4 ad wd rd Y n K Ln Wh Re cd ct)) (fun _ _ _ _ => False) (tcX D A (tc_T cI cJ cD cC h0 h1 h2 h3 h4 ad wd rd Y n K Ln Wh Re cd ct) "java/lang/IndexOutOfBoundsException") 1 6 A := by
  refine vx_ofW (cc := cX2_writeFloat) (maxL := 4) (ret := (some .int)) (by decide) rfl ?_
  intro p e s m args below meth c s₁ B hml htb hv
  obtain ⟨rfl, hsz, hP, hK, hD, hE⟩ := hv
  have hx := B.exec
  have hb := B.bytes
  have hr := B.returns
  have hts := atoms_spec (ws := wsX2_writeFloat) B.pre
  have hown : s.vm.findClass RX2 = some m.cls := findClass_of_methodNamed B.named
  have hlocks := B.notSynchronized
  have hl := lv_entry ([.ref h0, .int cx, .int i, .float v]) (n := 4) (Nat.le_of_ble_eq_true rfl)
  rw [lg_entry_eq]
  generalize (lg_sl ([.ref h0, .int cx, .int i, .float v]) ++ List.replicate (4 - (lg_sl ([.ref h0, .int cx, .int i, .float v])).length) Slot.unset).toArray = ls at hl ⊢
  have hl : lv_has ls 4 [(0, .ref h0), (1, .int cx), (2, .int i), (3, .float v)] := hl
  subst hsz
  have hS : va_S A s.heap s.heap [] := va_S.rf
  refine lv_aload_n hx hb dX2_writeFloat_0 rfl (lv_at hl 0 rfl) ?_
  refine lv_aload_n hx hb dX2_writeFloat_1 rfl (lv_at hl 0 rfl) ?_
  refine lv_iload_n hx hb dX2_writeFloat_2 rfl (lv_at hl 1 rfl) ?_
  refine tc_thr (vx_runV (As := [.int cx]) (rest := [.ref h0]) ⟨hx, hb, hml, hown, hts⟩ (bX2_columnAt l hfl D A cI cJ cD cC h0 h1 h2 h3 h4 ad wd rd Y n K Ln Wh Re cd ct s.heap.size hn6 cx hc) (cwV 1 hts gX2_writeFloat_X2_columnAt rfl rfl rfl (by decide +kernel) ⟨Nat.le_of_ble_eq_true rfl, Nat.le_of_ble_eq_true rfl⟩) ⟨tcP.blind, va_recv hK hP (ci := 2) (q0 := 0) rfl rfl, tcP.go hK hP hD hE hS⟩ rfl rfl hl.1 rfl (lv_room (Nat.le_of_ble_eq_true rfl)) dX2_writeFloat_3 ⟨Nat.le_of_ble_eq_true rfl, Nat.le_of_ble_eq_true rfl⟩) hS (fun q h => h) (fun q _ h => h) (fun E ce q9 u t H locs ht hvm hw hB hz1 hk1 hS hce hcv hcl => ?_)
  obtain ⟨rfl, hP, hD⟩ := hB
  rw [ht] at hP
  exact vx_out (fun x hx9 => (htb x hx9).elim) hlocks hce hcv hcl (tcX.end hP hD hS) hS.2.2 (Nat.le_of_ble_eq_true rfl) (Nat.le_of_ble_eq_true rfl)
set_option maxHeartbeats 4000000 in
set_option maxRecDepth 100000 in
theorem bX2_writeDouble (l : Launch) (hfl : l.stackTraces = false) (D : va_G) (A : Nat → Prop) (cI cJ cD cC : ClassId) (h0 h1 h2 h3 h4 : Nat) (ad wd rd : Nat → Nat) (Y : va_W) (n : Nat) (K : Nat → Int32) (Ln : Nat → Nat) (Wh : Nat → Int64) (Re : Nat → UInt64) (cd : Int32) (ct : Nat → Int32) (sz : Nat) (hn6 : n ≤ 60) (cx : Int32) (hc : ¬ ∃ j, j < n ∧ cx = nI j) (i : Int32) (v : UInt64) : vx_Met l yX2_writeDouble wsX2_writeDouble ({ frames := 7, cells := 1, slots := 6, locals := 112 }) (tcP D A (tcTY cI cJ cD cC) sz [.ref h0, .int cx, .int i, .double v] (tc_T cI cJ cD cC h0 h1 h2 h3 h4 ad wd rd Y n K Ln Wh Re cd ct)) (fun _ _ _ _ => False) (tcX D A (tc_T cI cJ cD cC h0 h1 h2 h3 h4 ad wd rd Y n K Ln Wh Re cd ct) "java/lang/IndexOutOfBoundsException") 1 6 A := by
  refine vx_ofW (cc := cX2_writeDouble) (maxL := 5) (ret := (some .int)) (by decide) rfl ?_
  intro p e s m args below meth c s₁ B hml htb hv
  obtain ⟨rfl, hsz, hP, hK, hD, hE⟩ := hv
  have hx := B.exec
  have hb := B.bytes
  have hr := B.returns
  have hts := atoms_spec (ws := wsX2_writeDouble) B.pre
  have hown : s.vm.findClass RX2 = some m.cls := findClass_of_methodNamed B.named
  have hlocks := B.notSynchronized
  have hl := lv_entry ([.ref h0, .int cx, .int i, .double v]) (n := 5) (Nat.le_of_ble_eq_true rfl)
  rw [lg_entry_eq]
  generalize (lg_sl ([.ref h0, .int cx, .int i, .double v]) ++ List.replicate (5 - (lg_sl ([.ref h0, .int cx, .int i, .double v])).length) Slot.unset).toArray = ls at hl ⊢
  have hl : lv_has ls 5 [(0, .ref h0), (1, .int cx), (2, .int i), (3, .double v)] := hl
  subst hsz
  have hS : va_S A s.heap s.heap [] := va_S.rf
  refine lv_aload_n hx hb dX2_writeDouble_0 rfl (lv_at hl 0 rfl) ?_
  refine lv_aload_n hx hb dX2_writeDouble_1 rfl (lv_at hl 0 rfl) ?_
  refine lv_iload_n hx hb dX2_writeDouble_2 rfl (lv_at hl 1 rfl) ?_
  refine tc_thr (vx_runV (As := [.int cx]) (rest := [.ref h0]) ⟨hx, hb, hml, hown, hts⟩ (bX2_columnAt l hfl D A cI cJ cD cC h0 h1 h2 h3 h4 ad wd rd Y n K Ln Wh Re cd ct s.heap.size hn6 cx hc) (cwV 1 hts gX2_writeDouble_X2_columnAt rfl rfl rfl (by decide +kernel) ⟨Nat.le_of_ble_eq_true rfl, Nat.le_of_ble_eq_true rfl⟩) ⟨tcP.blind, va_recv hK hP (ci := 2) (q0 := 0) rfl rfl, tcP.go hK hP hD hE hS⟩ rfl rfl hl.1 rfl (lv_room (Nat.le_of_ble_eq_true rfl)) dX2_writeDouble_3 ⟨Nat.le_of_ble_eq_true rfl, Nat.le_of_ble_eq_true rfl⟩) hS (fun q h => h) (fun q _ h => h) (fun E ce q9 u t H locs ht hvm hw hB hz1 hk1 hS hce hcv hcl => ?_)
  obtain ⟨rfl, hP, hD⟩ := hB
  rw [ht] at hP
  exact vx_out (fun x hx9 => (htb x hx9).elim) hlocks hce hcv hcl (tcX.end hP hD hS) hS.2.2 (Nat.le_of_ble_eq_true rfl) (Nat.le_of_ble_eq_true rfl)
set_option maxHeartbeats 4000000 in
set_option maxRecDepth 100000 in
theorem bX2_writeAny (l : Launch) (hfl : l.stackTraces = false) (D : va_G) (A : Nat → Prop) (cI cJ cD cC : ClassId) (h0 h1 h2 h3 h4 : Nat) (ad wd rd : Nat → Nat) (Y : va_W) (n : Nat) (K : Nat → Int32) (Ln : Nat → Nat) (Wh : Nat → Int64) (Re : Nat → UInt64) (cd : Int32) (ct : Nat → Int32) (sz : Nat) (hn6 : n ≤ 60) (cx : Int32) (hc : ¬ ∃ j, j < n ∧ cx = nI j) (i : Int32) (kd : Int32) (v : Int32) : vx_Met l yX2_writeAny wsX2_writeAny ({ frames := 7, cells := 1, slots := 6, locals := 112 }) (tcP D A (tcTY cI cJ cD cC) sz [.ref h0, .int cx, .int i, .int kd, .int v] (tc_T cI cJ cD cC h0 h1 h2 h3 h4 ad wd rd Y n K Ln Wh Re cd ct)) (fun _ _ _ _ => False) (tcX D A (tc_T cI cJ cD cC h0 h1 h2 h3 h4 ad wd rd Y n K Ln Wh Re cd ct) "java/lang/IndexOutOfBoundsException") 1 6 A := by
  refine vx_ofW (cc := cX2_writeAny) (maxL := 6) (ret := (some .int)) (by decide) rfl ?_
  intro p e s m args below meth c s₁ B hml htb hv
  obtain ⟨rfl, hsz, hP, hK, hD, hE⟩ := hv
  have hx := B.exec
  have hb := B.bytes
  have hr := B.returns
  have hts := atoms_spec (ws := wsX2_writeAny) B.pre
  have hown : s.vm.findClass RX2 = some m.cls := findClass_of_methodNamed B.named
  have hlocks := B.notSynchronized
  have hl := lv_entry ([.ref h0, .int cx, .int i, .int kd, .int v]) (n := 6) (Nat.le_of_ble_eq_true rfl)
  rw [lg_entry_eq]
  generalize (lg_sl ([.ref h0, .int cx, .int i, .int kd, .int v]) ++ List.replicate (6 - (lg_sl ([.ref h0, .int cx, .int i, .int kd, .int v])).length) Slot.unset).toArray = ls at hl ⊢
  have hl : lv_has ls 6 [(0, .ref h0), (1, .int cx), (2, .int i), (3, .int kd), (4, .int v)] := hl
  subst hsz
  have hS : va_S A s.heap s.heap [] := va_S.rf
  refine lv_aload_n hx hb dX2_writeAny_0 rfl (lv_at hl 0 rfl) ?_
  refine lv_iload_n hx hb dX2_writeAny_1 rfl (lv_at hl 1 rfl) ?_
  refine tc_thr (vx_runV (As := [.int cx]) (rest := []) ⟨hx, hb, hml, hown, hts⟩ (bX2_columnAt l hfl D A cI cJ cD cC h0 h1 h2 h3 h4 ad wd rd Y n K Ln Wh Re cd ct s.heap.size hn6 cx hc) (cwV 1 hts gX2_writeAny_X2_columnAt rfl rfl rfl (by decide +kernel) ⟨Nat.le_of_ble_eq_true rfl, Nat.le_of_ble_eq_true rfl⟩) ⟨tcP.blind, va_recv hK hP (ci := 2) (q0 := 0) rfl rfl, tcP.go hK hP hD hE hS⟩ rfl rfl hl.1 rfl (lv_room (Nat.le_of_ble_eq_true rfl)) dX2_writeAny_2 ⟨Nat.le_of_ble_eq_true rfl, Nat.le_of_ble_eq_true rfl⟩) hS (fun q h => h) (fun q _ h => h) (fun E ce q9 u t H locs ht hvm hw hB hz1 hk1 hS hce hcv hcl => ?_)
  obtain ⟨rfl, hP, hD⟩ := hB
  rw [ht] at hP
  exact vx_out (fun x hx9 => (htb x hx9).elim) hlocks hce hcv hcl (tcX.end hP hD hS) hS.2.2 (Nat.le_of_ble_eq_true rfl) (Nat.le_of_ble_eq_true rfl)
set_option maxHeartbeats 4000000 in
set_option maxRecDepth 100000 in
theorem bX2_widened (l : Launch) (hfl : l.stackTraces = false) (D : va_G) (A : Nat → Prop) (cI cJ cD cC : ClassId) (h0 h1 h2 h3 h4 : Nat) (ad wd rd : Nat → Nat) (Y : va_W) (n : Nat) (K : Nat → Int32) (Ln : Nat → Nat) (Wh : Nat → Int64) (Re : Nat → UInt64) (cd : Int32) (ct : Nat → Int32) (sz : Nat) (hn6 : n ≤ 60) (cx : Int32) (hc : ¬ ∃ j, j < n ∧ cx = nI j) (kd : Int32) : vx_Met l yX2_widened wsX2_widened ({ frames := 7, cells := 1, slots := 6, locals := 112 }) (tcP D A (tcTY cI cJ cD cC) sz [.ref h0, .int cx, .int kd] (tc_T cI cJ cD cC h0 h1 h2 h3 h4 ad wd rd Y n K Ln Wh Re cd ct)) (fun _ _ _ _ => False) (tcX D A (tc_T cI cJ cD cC h0 h1 h2 h3 h4 ad wd rd Y n K Ln Wh Re cd ct) "java/lang/IndexOutOfBoundsException") 1 6 A := by
  refine vx_ofW (cc := cX2_widened) (maxL := 6) (ret := (some .int)) (by decide) rfl ?_
  intro p e s m args below meth c s₁ B hml htb hv
  obtain ⟨rfl, hsz, hP, hK, hD, hE⟩ := hv
  have hx := B.exec
  have hb := B.bytes
  have hr := B.returns
  have hts := atoms_spec (ws := wsX2_widened) B.pre
  have hown : s.vm.findClass RX2 = some m.cls := findClass_of_methodNamed B.named
  have hlocks := B.notSynchronized
  have hl := lv_entry ([.ref h0, .int cx, .int kd]) (n := 6) (Nat.le_of_ble_eq_true rfl)
  rw [lg_entry_eq]
  generalize (lg_sl ([.ref h0, .int cx, .int kd]) ++ List.replicate (6 - (lg_sl ([.ref h0, .int cx, .int kd])).length) Slot.unset).toArray = ls at hl ⊢
  have hl : lv_has ls 6 [(0, .ref h0), (1, .int cx), (2, .int kd)] := hl
  subst hsz
  have hS : va_S A s.heap s.heap [] := va_S.rf
  refine lv_aload_n hx hb dX2_widened_0 rfl (lv_at hl 0 rfl) ?_
  refine lv_iload_n hx hb dX2_widened_1 rfl (lv_at hl 1 rfl) ?_
  refine tc_thr (vx_runV (As := [.int cx]) (rest := []) ⟨hx, hb, hml, hown, hts⟩ (bX2_columnAt l hfl D A cI cJ cD cC h0 h1 h2 h3 h4 ad wd rd Y n K Ln Wh Re cd ct s.heap.size hn6 cx hc) (cwV 1 hts gX2_widened_X2_columnAt rfl rfl rfl (by decide +kernel) ⟨Nat.le_of_ble_eq_true rfl, Nat.le_of_ble_eq_true rfl⟩) ⟨tcP.blind, va_recv hK hP (ci := 2) (q0 := 0) rfl rfl, tcP.go hK hP hD hE hS⟩ rfl rfl hl.1 rfl (lv_room (Nat.le_of_ble_eq_true rfl)) dX2_widened_2 ⟨Nat.le_of_ble_eq_true rfl, Nat.le_of_ble_eq_true rfl⟩) hS (fun q h => h) (fun q _ h => h) (fun E ce q9 u t H locs ht hvm hw hB hz1 hk1 hS hce hcv hcl => ?_)
  obtain ⟨rfl, hP, hD⟩ := hB
  rw [ht] at hP
  exact vx_out (fun x hx9 => (htb x hx9).elim) hlocks hce hcv hcl (tcX.end hP hD hS) hS.2.2 (Nat.le_of_ble_eq_true rfl) (Nat.le_of_ble_eq_true rfl)
set_option maxHeartbeats 4000000 in
set_option maxRecDepth 100000 in
theorem bX2_copy (l : Launch) (hfl : l.stackTraces = false) (D : va_G) (A : Nat → Prop) (cI cJ cD cC : ClassId) (h0 h1 h2 h3 h4 : Nat) (ad wd rd : Nat → Nat) (Y : va_W) (n : Nat) (K : Nat → Int32) (Ln : Nat → Nat) (Wh : Nat → Int64) (Re : Nat → UInt64) (cd : Int32) (ct : Nat → Int32) (sz : Nat) (hn6 : n ≤ 60) (cx : Int32) (hc : ¬ ∃ j, j < n ∧ cx = nI j) (fi : Int32) (to : Int32) (ti : Int32) (mm : Int32) : vx_Met l yX2_copy wsX2_copy ({ frames := 7, cells := 1, slots := 6, locals := 112 }) (tcP D A (tcTY cI cJ cD cC) sz [.ref h0, .int cx, .int fi, .int to, .int ti, .int mm] (tc_T cI cJ cD cC h0 h1 h2 h3 h4 ad wd rd Y n K Ln Wh Re cd ct)) (fun _ _ _ _ => False) (tcX D A (tc_T cI cJ cD cC h0 h1 h2 h3 h4 ad wd rd Y n K Ln Wh Re cd ct) "java/lang/IndexOutOfBoundsException") 1 6 A := by
  refine vx_ofW (cc := cX2_copy) (maxL := 9) (ret := (some .int)) (by decide) rfl ?_
  intro p e s m args below meth c s₁ B hml htb hv
  obtain ⟨rfl, hsz, hP, hK, hD, hE⟩ := hv
  have hx := B.exec
  have hb := B.bytes
  have hr := B.returns
  have hts := atoms_spec (ws := wsX2_copy) B.pre
  have hown : s.vm.findClass RX2 = some m.cls := findClass_of_methodNamed B.named
  have hlocks := B.notSynchronized
  have hl := lv_entry ([.ref h0, .int cx, .int fi, .int to, .int ti, .int mm]) (n := 9) (Nat.le_of_ble_eq_true rfl)
  rw [lg_entry_eq]
  generalize (lg_sl ([.ref h0, .int cx, .int fi, .int to, .int ti, .int mm]) ++ List.replicate (9 - (lg_sl ([.ref h0, .int cx, .int fi, .int to, .int ti, .int mm])).length) Slot.unset).toArray = ls at hl ⊢
  have hl : lv_has ls 9 [(0, .ref h0), (1, .int cx), (2, .int fi), (3, .int to), (4, .int ti), (5, .int mm)] := hl
  subst hsz
  have hS : va_S A s.heap s.heap [] := va_S.rf
  refine lv_aload_n hx hb dX2_copy_0 rfl (lv_at hl 0 rfl) ?_
  refine lv_iload_n hx hb dX2_copy_1 rfl (lv_at hl 1 rfl) ?_
  refine tc_thr (vx_runV (As := [.int cx]) (rest := []) ⟨hx, hb, hml, hown, hts⟩ (bX2_columnAt l hfl D A cI cJ cD cC h0 h1 h2 h3 h4 ad wd rd Y n K Ln Wh Re cd ct s.heap.size hn6 cx hc) (cwV 1 hts gX2_copy_X2_columnAt rfl rfl rfl (by decide +kernel) ⟨Nat.le_of_ble_eq_true rfl, Nat.le_of_ble_eq_true rfl⟩) ⟨tcP.blind, va_recv hK hP (ci := 2) (q0 := 0) rfl rfl, tcP.go hK hP hD hE hS⟩ rfl rfl hl.1 rfl (lv_room (Nat.le_of_ble_eq_true rfl)) dX2_copy_2 ⟨Nat.le_of_ble_eq_true rfl, Nat.le_of_ble_eq_true rfl⟩) hS (fun q h => h) (fun q _ h => h) (fun E ce q9 u t H locs ht hvm hw hB hz1 hk1 hS hce hcv hcl => ?_)
  obtain ⟨rfl, hP, hD⟩ := hB
  rw [ht] at hP
  exact vx_out (fun x hx9 => (htb x hx9).elim) hlocks hce hcv hcl (tcX.end hP hD hS) hS.2.2 (Nat.le_of_ble_eq_true rfl) (Nat.le_of_ble_eq_true rfl)
set_option maxHeartbeats 4000000 in
set_option maxRecDepth 100000 in
theorem bX2_copy2 (l : Launch) (hfl : l.stackTraces = false) (D : va_G) (A : Nat → Prop) (cI cJ cD cC : ClassId) (h0 h1 h2 h3 h4 : Nat) (ad wd rd : Nat → Nat) (Y : va_W) (n : Nat) (K : Nat → Int32) (Ln : Nat → Nat) (Wh : Nat → Int64) (Re : Nat → UInt64) (cd : Int32) (ct : Nat → Int32) (sz : Nat) (hn6 : n ≤ 60) (j : Nat) (hj : j < n) (fi cx ti mm : Int32) (hc : ¬ ∃ j, j < n ∧ cx = nI j) : vx_Met l yX2_copy wsX2_copy ({ frames := 7, cells := 1, slots := 6, locals := 112 }) (tcP D A (tcTY cI cJ cD cC) sz [.ref h0, .int (nI j), .int fi, .int cx, .int ti, .int mm] (tc_T cI cJ cD cC h0 h1 h2 h3 h4 ad wd rd Y n K Ln Wh Re cd ct)) (fun _ _ _ _ => False) (tcX D A (tc_T cI cJ cD cC h0 h1 h2 h3 h4 ad wd rd Y n K Ln Wh Re cd ct) "java/lang/IndexOutOfBoundsException") 1 6 A := by
  refine vx_ofW (cc := cX2_copy) (maxL := 9) (ret := (some .int)) (by decide) rfl ?_
  intro p e s m args below meth c s₁ B hml htb hv
  obtain ⟨rfl, hsz, hP, hK, hD, hE⟩ := hv
  have hx := B.exec
  have hb := B.bytes
  have hr := B.returns
  have hts := atoms_spec (ws := wsX2_copy) B.pre
  have hown : s.vm.findClass RX2 = some m.cls := findClass_of_methodNamed B.named
  have hlocks := B.notSynchronized
  have hl := lv_entry ([.ref h0, .int (nI j), .int fi, .int cx, .int ti, .int mm]) (n := 9) (Nat.le_of_ble_eq_true rfl)
  rw [lg_entry_eq]
  generalize (lg_sl ([.ref h0, .int (nI j), .int fi, .int cx, .int ti, .int mm]) ++ List.replicate (9 - (lg_sl ([.ref h0, .int (nI j), .int fi, .int cx, .int ti, .int mm])).length) Slot.unset).toArray = ls at hl ⊢
  have hl : lv_has ls 9 [(0, .ref h0), (1, .int (nI j)), (2, .int fi), (3, .int cx), (4, .int ti), (5, .int mm)] := hl
  subst hsz
  have hS : va_S A s.heap s.heap [] := va_S.rf
  refine lv_aload_n hx hb dX2_copy_0 rfl (lv_at hl 0 rfl) ?_
  refine lv_iload_n hx hb dX2_copy_1 rfl (lv_at hl 1 rfl) ?_
  refine va_csr (tc_CR (va_runV (As := [.int (nI j)]) (rest := []) ⟨hx, hb, hml, hown, hts⟩ (tX2_columnAt l D A cI cJ cD cC h0 h1 h2 h3 h4 ad wd rd Y n K Ln Wh Re cd ct s.heap.size hn6 j hj) (cwV 1 hts gX2_copy_X2_columnAt rfl rfl rfl (by decide +kernel) ⟨Nat.le_of_ble_eq_true rfl, Nat.le_of_ble_eq_true rfl⟩) ⟨tcP.blind, va_recv hK hP (ci := 2) (q0 := 0) rfl rfl, tcP.go hK hP hD hE hS⟩ rfl rfl hl.1 rfl (lv_room (Nat.le_of_ble_eq_true rfl)) dX2_copy_2 ⟨Nat.le_of_ble_eq_true rfl, Nat.le_of_ble_eq_true rfl⟩)) (fun _ _ => ?_)
  refine lv_astore (lv' := [(6, .ref (ad j)), (0, .ref h0), (1, .int (nI j)), (2, .int fi), (3, .int cx), (4, .int ti), (5, .int mm)]) hx hb dX2_copy_5 hl (by decide) rfl (fun ls hl => ?_)
  refine lv_aload_n hx hb dX2_copy_7 rfl (lv_at hl 1 rfl) ?_
  refine lv_iload_n hx hb dX2_copy_8 rfl (lv_at hl 4 rfl) ?_
  refine tc_thr (vx_runV (As := [.int cx]) (rest := []) ⟨hx, hb, hml, hown, hts⟩ (bX2_columnAt l hfl D A cI cJ cD cC h0 h1 h2 h3 h4 ad wd rd Y n K Ln Wh Re cd ct s.heap.size hn6 cx hc) (cwV 1 hts gX2_copy_X2_columnAt rfl rfl rfl (by decide +kernel) ⟨Nat.le_of_ble_eq_true rfl, Nat.le_of_ble_eq_true rfl⟩) ⟨tcP.blind, va_recv hK hP (ci := 2) (q0 := 0) rfl rfl, tcP.go hK hP hD hE hS⟩ rfl rfl hl.1 rfl (lv_room (Nat.le_of_ble_eq_true rfl)) dX2_copy_9 ⟨Nat.le_of_ble_eq_true rfl, Nat.le_of_ble_eq_true rfl⟩) hS (fun q h => h) (fun q _ h => h) (fun E ce q9 u t H locs ht hvm hw hB hz1 hk1 hS hce hcv hcl => ?_)
  obtain ⟨rfl, hP, hD⟩ := hB
  rw [ht] at hP
  exact vx_out (fun x hx9 => (htb x hx9).elim) hlocks hce hcv hcl (tcX.end hP hD hS) hS.2.2 (Nat.le_of_ble_eq_true rfl) (Nat.le_of_ble_eq_true rfl)
set_option maxHeartbeats 4000000 in
set_option maxRecDepth 100000 in
theorem bX2_writeAny_k (l : Launch) (hfl : l.stackTraces = false) (D : va_G) (A : Nat → Prop) (cI cJ cD cC : ClassId) (h0 h1 h2 h3 h4 : Nat) (ad wd rd : Nat → Nat) (Y : va_W) (n : Nat) (K : Nat → Int32) (Ln : Nat → Nat) (Wh : Nat → Int64) (Re : Nat → UInt64) (cd : Int32) (ct : Nat → Int32) (sz : Nat) (hn6 : n ≤ 60) (j : Nat) (hj : j < n) (i kd v : Int32) (hk : kHas kd = false) : vx_Met l yX2_writeAny wsX2_writeAny ({ frames := 7, cells := 1, slots := 6, locals := 110 }) (tcP D A (tcTY cI cJ cD cC) sz [.ref h0, .int (nI j), .int i, .int kd, .int v] (tc_T cI cJ cD cC h0 h1 h2 h3 h4 ad wd rd Y n K Ln Wh Re cd ct)) (fun _ _ _ _ => False) (tcX D A (tc_T cI cJ cD cC h0 h1 h2 h3 h4 ad wd rd Y n K Ln Wh Re cd ct) "java/lang/IllegalArgumentException") 1 6 A := by
  refine vx_ofW (cc := cX2_writeAny) (maxL := 6) (ret := (some .int)) (by decide) rfl ?_
  intro p e s m args below meth c s₁ B hml htb hv
  obtain ⟨rfl, hsz, hP, hK, hD, hE⟩ := hv
  have hx := B.exec
  have hb := B.bytes
  have hr := B.returns
  have hts := atoms_spec (ws := wsX2_writeAny) B.pre
  have hown : s.vm.findClass RX2 = some m.cls := findClass_of_methodNamed B.named
  have hlocks := B.notSynchronized
  have hl := lv_entry ([.ref h0, .int (nI j), .int i, .int kd, .int v]) (n := 6) (Nat.le_of_ble_eq_true rfl)
  rw [lg_entry_eq]
  generalize (lg_sl ([.ref h0, .int (nI j), .int i, .int kd, .int v]) ++ List.replicate (6 - (lg_sl ([.ref h0, .int (nI j), .int i, .int kd, .int v])).length) Slot.unset).toArray = ls at hl ⊢
  have hl : lv_has ls 6 [(0, .ref h0), (1, .int (nI j)), (2, .int i), (3, .int kd), (4, .int v)] := hl
  subst hsz
  have hS : va_S A s.heap s.heap [] := va_S.rf
  refine lv_aload_n hx hb dX2_writeAny_0 rfl (lv_at hl 0 rfl) ?_
  refine lv_iload_n hx hb dX2_writeAny_1 rfl (lv_at hl 1 rfl) ?_
  refine va_csr (tc_CR (va_runV (As := [.int (nI j)]) (rest := []) ⟨hx, hb, hml, hown, hts⟩ (tX2_columnAt l D A cI cJ cD cC h0 h1 h2 h3 h4 ad wd rd Y n K Ln Wh Re cd ct s.heap.size hn6 j hj) (cwV 1 hts gX2_writeAny_X2_columnAt rfl rfl rfl (by decide +kernel) ⟨Nat.le_of_ble_eq_true rfl, Nat.le_of_ble_eq_true rfl⟩) ⟨tcP.blind, va_recv hK hP (ci := 2) (q0 := 0) rfl rfl, tcP.go hK hP hD hE hS⟩ rfl rfl hl.1 rfl (lv_room (Nat.le_of_ble_eq_true rfl)) dX2_writeAny_2 ⟨Nat.le_of_ble_eq_true rfl, Nat.le_of_ble_eq_true rfl⟩)) (fun _ _ => ?_)
  refine lv_astore (lv' := [(5, .ref (ad j)), (0, .ref h0), (1, .int (nI j)), (2, .int i), (3, .int kd), (4, .int v)]) hx hb dX2_writeAny_5 hl (by decide) rfl (fun ls hl => ?_)
  refine lv_iload_n hx hb dX2_writeAny_7 rfl (lv_at hl 4 rfl) ?_
  refine tc_thr (vx_runS (As := [.int kd]) (rest := []) ⟨hx, hb, hml, hown, hts⟩ (bX2_refuseWithoutCells l hfl D A cI cJ cD cC h0 h1 h2 h3 h4 ad wd rd Y n K Ln Wh Re cd ct s.heap.size kd hk) (va_cwS 1 hts gX2_writeAny_X2_refuseWithoutCells rfl rfl rfl (by decide +kernel) ⟨Nat.le_of_ble_eq_true rfl, Nat.le_of_ble_eq_true rfl⟩) ⟨tcP.blind, tcP.go hK hP hD hE hS⟩ rfl rfl hl.1 rfl (lv_room (Nat.le_of_ble_eq_true rfl)) dX2_writeAny_8 ⟨Nat.le_of_ble_eq_true rfl, Nat.le_of_ble_eq_true rfl⟩) hS (fun q h => h) (fun q _ h => h) (fun E ce q9 u t H locs ht hvm hw hB hz1 hk1 hS hce hcv hcl => ?_)
  obtain ⟨rfl, hP, hD⟩ := hB
  rw [ht] at hP
  exact vx_out (fun x hx9 => (htb x hx9).elim) hlocks hce hcv hcl (tcX.end hP hD hS) hS.2.2 (Nat.le_of_ble_eq_true rfl) (Nat.le_of_ble_eq_true rfl)
set_option maxHeartbeats 4000000 in
set_option maxRecDepth 100000 in
theorem bX2_widened_k (l : Launch) (hfl : l.stackTraces = false) (D : va_G) (A : Nat → Prop) (cI cJ cD cC : ClassId) (h0 h1 h2 h3 h4 : Nat) (ad wd rd : Nat → Nat) (Y : va_W) (n : Nat) (K : Nat → Int32) (Ln : Nat → Nat) (Wh : Nat → Int64) (Re : Nat → UInt64) (cd : Int32) (ct : Nat → Int32) (sz : Nat) (hn6 : n ≤ 60) (j : Nat) (hj : j < n) (kd : Int32) (hk : kHas kd = false) : vx_Met l yX2_widened wsX2_widened ({ frames := 7, cells := 1, slots := 6, locals := 110 }) (tcP D A (tcTY cI cJ cD cC) sz [.ref h0, .int (nI j), .int kd] (tc_T cI cJ cD cC h0 h1 h2 h3 h4 ad wd rd Y n K Ln Wh Re cd ct)) (fun _ _ _ _ => False) (tcX D A (tc_T cI cJ cD cC h0 h1 h2 h3 h4 ad wd rd Y n K Ln Wh Re cd ct) "java/lang/IllegalArgumentException") 1 6 A := by
  refine vx_ofW (cc := cX2_widened) (maxL := 6) (ret := (some .int)) (by decide) rfl ?_
  intro p e s m args below meth c s₁ B hml htb hv
  obtain ⟨rfl, hsz, hP, hK, hD, hE⟩ := hv
  have hx := B.exec
  have hb := B.bytes
  have hr := B.returns
  have hts := atoms_spec (ws := wsX2_widened) B.pre
  have hown : s.vm.findClass RX2 = some m.cls := findClass_of_methodNamed B.named
  have hlocks := B.notSynchronized
  have hl := lv_entry ([.ref h0, .int (nI j), .int kd]) (n := 6) (Nat.le_of_ble_eq_true rfl)
  rw [lg_entry_eq]
  generalize (lg_sl ([.ref h0, .int (nI j), .int kd]) ++ List.replicate (6 - (lg_sl ([.ref h0, .int (nI j), .int kd])).length) Slot.unset).toArray = ls at hl ⊢
  have hl : lv_has ls 6 [(0, .ref h0), (1, .int (nI j)), (2, .int kd)] := hl
  subst hsz
  have hS : va_S A s.heap s.heap [] := va_S.rf
  refine lv_aload_n hx hb dX2_widened_0 rfl (lv_at hl 0 rfl) ?_
  refine lv_iload_n hx hb dX2_widened_1 rfl (lv_at hl 1 rfl) ?_
  refine va_csr (tc_CR (va_runV (As := [.int (nI j)]) (rest := []) ⟨hx, hb, hml, hown, hts⟩ (tX2_columnAt l D A cI cJ cD cC h0 h1 h2 h3 h4 ad wd rd Y n K Ln Wh Re cd ct s.heap.size hn6 j hj) (cwV 1 hts gX2_widened_X2_columnAt rfl rfl rfl (by decide +kernel) ⟨Nat.le_of_ble_eq_true rfl, Nat.le_of_ble_eq_true rfl⟩) ⟨tcP.blind, va_recv hK hP (ci := 2) (q0 := 0) rfl rfl, tcP.go hK hP hD hE hS⟩ rfl rfl hl.1 rfl (lv_room (Nat.le_of_ble_eq_true rfl)) dX2_widened_2 ⟨Nat.le_of_ble_eq_true rfl, Nat.le_of_ble_eq_true rfl⟩)) (fun _ _ => ?_)
  refine lv_astore_n (lv' := [(3, .ref (ad j)), (0, .ref h0), (1, .int (nI j)), (2, .int kd)]) hx hb dX2_widened_5 rfl hl (by decide) rfl (fun ls hl => ?_)
  refine lv_iload_n hx hb dX2_widened_6 rfl (lv_at hl 3 rfl) ?_
  refine tc_thr (vx_runS (As := [.int kd]) (rest := []) ⟨hx, hb, hml, hown, hts⟩ (bX2_refuseWithoutCells l hfl D A cI cJ cD cC h0 h1 h2 h3 h4 ad wd rd Y n K Ln Wh Re cd ct s.heap.size kd hk) (va_cwS 1 hts gX2_widened_X2_refuseWithoutCells rfl rfl rfl (by decide +kernel) ⟨Nat.le_of_ble_eq_true rfl, Nat.le_of_ble_eq_true rfl⟩) ⟨tcP.blind, tcP.go hK hP hD hE hS⟩ rfl rfl hl.1 rfl (lv_room (Nat.le_of_ble_eq_true rfl)) dX2_widened_7 ⟨Nat.le_of_ble_eq_true rfl, Nat.le_of_ble_eq_true rfl⟩) hS (fun q h => h) (fun q _ h => h) (fun E ce q9 u t H locs ht hvm hw hB hz1 hk1 hS hce hcv hcl => ?_)
  obtain ⟨rfl, hP, hD⟩ := hB
  rw [ht] at hP
  exact vx_out (fun x hx9 => (htb x hx9).elim) hlocks hce hcv hcl (tcX.end hP hD hS) hS.2.2 (Nat.le_of_ble_eq_true rfl) (Nat.le_of_ble_eq_true rfl)
set_option maxHeartbeats 4000000 in
set_option maxRecDepth 100000 in
theorem bX2_hasCells (l : Launch) (hfl : l.stackTraces = false) (D : va_G) (A : Nat → Prop) (cI cJ cD cC : ClassId) (h0 h1 h2 h3 h4 : Nat) (ad wd rd : Nat → Nat) (Y : va_W) (n : Nat) (K : Nat → Int32) (Ln : Nat → Nat) (Wh : Nat → Int64) (Re : Nat → UInt64) (cd : Int32) (ct : Nat → Int32) (sz : Nat) (k : Int32) (hk : kIs k = false) : vx_Met l yX2_hasCells wsX2_hasCells ({ frames := 7, cells := 1, slots := 6, locals := 110 }) (tcP D A (tcTY cI cJ cD cC) sz [.ref h0, .int k] (tc_T cI cJ cD cC h0 h1 h2 h3 h4 ad wd rd Y n K Ln Wh Re cd ct)) (fun _ _ _ _ => False) (tcX D A (tc_T cI cJ cD cC h0 h1 h2 h3 h4 ad wd rd Y n K Ln Wh Re cd ct) "java/lang/IndexOutOfBoundsException") 1 6 A := by
  refine vx_ofW (cc := cX2_hasCells) (maxL := 2) (ret := (some .boolean)) (by decide) rfl ?_
  intro p e s m args below meth c s₁ B hml htb hv
  obtain ⟨rfl, hsz, hP, hK, hD, hE⟩ := hv
  have hx := B.exec
  have hb := B.bytes
  have hr := B.returns
  have hts := atoms_spec (ws := wsX2_hasCells) B.pre
  have hown : s.vm.findClass RX2 = some m.cls := findClass_of_methodNamed B.named
  have hlocks := B.notSynchronized
  have hl := lv_entry ([.ref h0, .int k]) (n := 2) (Nat.le_of_ble_eq_true rfl)
  rw [lg_entry_eq]
  generalize (lg_sl ([.ref h0, .int k]) ++ List.replicate (2 - (lg_sl ([.ref h0, .int k])).length) Slot.unset).toArray = ls at hl ⊢
  have hl : lv_has ls 2 [(0, .ref h0), (1, .int k)] := hl
  subst hsz
  have hS : va_S A s.heap s.heap [] := va_S.rf
  refine lv_iload_n hx hb dX2_hasCells_0 rfl (lv_at hl 1 rfl) ?_
  refine tc_thr (vx_runS (As := [.int k]) (rest := []) ⟨hx, hb, hml, hown, hts⟩ (bX2_refuseNoKind l hfl D A cI cJ cD cC h0 h1 h2 h3 h4 ad wd rd Y n K Ln Wh Re cd ct s.heap.size k hk) (va_cwS 1 hts gX2_hasCells_X2_refuseNoKind rfl rfl rfl (by decide +kernel) ⟨Nat.le_of_ble_eq_true rfl, Nat.le_of_ble_eq_true rfl⟩) ⟨tcP.blind, tcP.go hK hP hD hE hS⟩ rfl rfl hl.1 rfl (lv_room (Nat.le_of_ble_eq_true rfl)) dX2_hasCells_1 ⟨Nat.le_of_ble_eq_true rfl, Nat.le_of_ble_eq_true rfl⟩) hS (fun q h => h) (fun q _ h => h) (fun E ce q9 u t H locs ht hvm hw hB hz1 hk1 hS hce hcv hcl => ?_)
  obtain ⟨rfl, hP, hD⟩ := hB
  rw [ht] at hP
  exact vx_out (fun x hx9 => (htb x hx9).elim) hlocks hce hcv hcl (tcX.end hP hD hS) hS.2.2 (Nat.le_of_ble_eq_true rfl) (Nat.le_of_ble_eq_true rfl)
set_option maxHeartbeats 4000000 in
set_option maxRecDepth 100000 in
theorem bX2_isNumber (l : Launch) (hfl : l.stackTraces = false) (D : va_G) (A : Nat → Prop) (cI cJ cD cC : ClassId) (h0 h1 h2 h3 h4 : Nat) (ad wd rd : Nat → Nat) (Y : va_W) (n : Nat) (K : Nat → Int32) (Ln : Nat → Nat) (Wh : Nat → Int64) (Re : Nat → UInt64) (cd : Int32) (ct : Nat → Int32) (sz : Nat) (k : Int32) (hk : kIs k = false) : vx_Met l yX2_isNumber wsX2_isNumber ({ frames := 7, cells := 1, slots := 6, locals := 110 }) (tcP D A (tcTY cI cJ cD cC) sz [.ref h0, .int k] (tc_T cI cJ cD cC h0 h1 h2 h3 h4 ad wd rd Y n K Ln Wh Re cd ct)) (fun _ _ _ _ => False) (tcX D A (tc_T cI cJ cD cC h0 h1 h2 h3 h4 ad wd rd Y n K Ln Wh Re cd ct) "java/lang/IndexOutOfBoundsException") 1 6 A := by
  refine vx_ofW (cc := cX2_isNumber) (maxL := 2) (ret := (some .boolean)) (by decide) rfl ?_
  intro p e s m args below meth c s₁ B hml htb hv
  obtain ⟨rfl, hsz, hP, hK, hD, hE⟩ := hv
  have hx := B.exec
  have hb := B.bytes
  have hr := B.returns
  have hts := atoms_spec (ws := wsX2_isNumber) B.pre
  have hown : s.vm.findClass RX2 = some m.cls := findClass_of_methodNamed B.named
  have hlocks := B.notSynchronized
  have hl := lv_entry ([.ref h0, .int k]) (n := 2) (Nat.le_of_ble_eq_true rfl)
  rw [lg_entry_eq]
  generalize (lg_sl ([.ref h0, .int k]) ++ List.replicate (2 - (lg_sl ([.ref h0, .int k])).length) Slot.unset).toArray = ls at hl ⊢
  have hl : lv_has ls 2 [(0, .ref h0), (1, .int k)] := hl
  subst hsz
  have hS : va_S A s.heap s.heap [] := va_S.rf
  refine lv_iload_n hx hb dX2_isNumber_0 rfl (lv_at hl 1 rfl) ?_
  refine tc_thr (vx_runS (As := [.int k]) (rest := []) ⟨hx, hb, hml, hown, hts⟩ (bX2_refuseNoKind l hfl D A cI cJ cD cC h0 h1 h2 h3 h4 ad wd rd Y n K Ln Wh Re cd ct s.heap.size k hk) (va_cwS 1 hts gX2_isNumber_X2_refuseNoKind rfl rfl rfl (by decide +kernel) ⟨Nat.le_of_ble_eq_true rfl, Nat.le_of_ble_eq_true rfl⟩) ⟨tcP.blind, tcP.go hK hP hD hE hS⟩ rfl rfl hl.1 rfl (lv_room (Nat.le_of_ble_eq_true rfl)) dX2_isNumber_1 ⟨Nat.le_of_ble_eq_true rfl, Nat.le_of_ble_eq_true rfl⟩) hS (fun q h => h) (fun q _ h => h) (fun E ce q9 u t H locs ht hvm hw hB hz1 hk1 hS hce hcv hcl => ?_)
  obtain ⟨rfl, hP, hD⟩ := hB
  rw [ht] at hP
  exact vx_out (fun x hx9 => (htb x hx9).elim) hlocks hce hcv hcl (tcX.end hP hD hS) hS.2.2 (Nat.le_of_ble_eq_true rfl) (Nat.le_of_ble_eq_true rfl)
set_option maxHeartbeats 4000000 in
set_option maxRecDepth 100000 in
theorem bX2_canWiden1 (l : Launch) (hfl : l.stackTraces = false) (D : va_G) (A : Nat → Prop) (cI cJ cD cC : ClassId) (h0 h1 h2 h3 h4 : Nat) (ad wd rd : Nat → Nat) (Y : va_W) (n : Nat) (K : Nat → Int32) (Ln : Nat → Nat) (Wh : Nat → Int64) (Re : Nat → UInt64) (cd : Int32) (ct : Nat → Int32) (sz : Nat) (k k2 : Int32) (hk : kIs k = false) : vx_Met l yX2_canWiden wsX2_canWiden ({ frames := 7, cells := 1, slots := 6, locals := 110 }) (tcP D A (tcTY cI cJ cD cC) sz [.ref h0, .int k, .int k2] (tc_T cI cJ cD cC h0 h1 h2 h3 h4 ad wd rd Y n K Ln Wh Re cd ct)) (fun _ _ _ _ => False) (tcX D A (tc_T cI cJ cD cC h0 h1 h2 h3 h4 ad wd rd Y n K Ln Wh Re cd ct) "java/lang/IndexOutOfBoundsException") 1 6 A := by
  refine vx_ofW (cc := cX2_canWiden) (maxL := 3) (ret := (some .boolean)) (by decide) rfl ?_
  intro p e s m args below meth c s₁ B hml htb hv
  obtain ⟨rfl, hsz, hP, hK, hD, hE⟩ := hv
  have hx := B.exec
  have hb := B.bytes
  have hr := B.returns
  have hts := atoms_spec (ws := wsX2_canWiden) B.pre
  have hown : s.vm.findClass RX2 = some m.cls := findClass_of_methodNamed B.named
  have hlocks := B.notSynchronized
  have hl := lv_entry ([.ref h0, .int k, .int k2]) (n := 3) (Nat.le_of_ble_eq_true rfl)
  rw [lg_entry_eq]
  generalize (lg_sl ([.ref h0, .int k, .int k2]) ++ List.replicate (3 - (lg_sl ([.ref h0, .int k, .int k2])).length) Slot.unset).toArray = ls at hl ⊢
  have hl : lv_has ls 3 [(0, .ref h0), (1, .int k), (2, .int k2)] := hl
  subst hsz
  have hS : va_S A s.heap s.heap [] := va_S.rf
  refine lv_iload_n hx hb dX2_canWiden_0 rfl (lv_at hl 1 rfl) ?_
  refine tc_thr (vx_runS (As := [.int k]) (rest := []) ⟨hx, hb, hml, hown, hts⟩ (bX2_refuseNoKind l hfl D A cI cJ cD cC h0 h1 h2 h3 h4 ad wd rd Y n K Ln Wh Re cd ct s.heap.size k hk) (va_cwS 1 hts gX2_canWiden_X2_refuseNoKind rfl rfl rfl (by decide +kernel) ⟨Nat.le_of_ble_eq_true rfl, Nat.le_of_ble_eq_true rfl⟩) ⟨tcP.blind, tcP.go hK hP hD hE hS⟩ rfl rfl hl.1 rfl (lv_room (Nat.le_of_ble_eq_true rfl)) dX2_canWiden_1 ⟨Nat.le_of_ble_eq_true rfl, Nat.le_of_ble_eq_true rfl⟩) hS (fun q h => h) (fun q _ h => h) (fun E ce q9 u t H locs ht hvm hw hB hz1 hk1 hS hce hcv hcl => ?_)
  obtain ⟨rfl, hP, hD⟩ := hB
  rw [ht] at hP
  exact vx_out (fun x hx9 => (htb x hx9).elim) hlocks hce hcv hcl (tcX.end hP hD hS) hS.2.2 (Nat.le_of_ble_eq_true rfl) (Nat.le_of_ble_eq_true rfl)
set_option maxHeartbeats 4000000 in
set_option maxRecDepth 100000 in
theorem tX2_refuseNoKind (l : Launch) (D : va_G) (A : Nat → Prop) (cI cJ cD cC : ClassId) (h0 h1 h2 h3 h4 : Nat) (ad wd rd : Nat → Nat) (Y : va_W) (n : Nat) (K : Nat → Int32) (Ln : Nat → Nat) (Wh : Nat → Int64) (Re : Nat → UInt64) (cd : Int32) (ct : Nat → Int32) (sz : Nat) (k : Int32) (hk : kIs k = true) : Met l yX2_refuseNoKind wsX2_refuseNoKind ({ frames := 1, cells := 0, slots := 0, locals := 20 }) (tcP D A (tcTY cI cJ cD cC) sz [.int k] (tc_T cI cJ cD cC h0 h1 h2 h3 h4 ad wd rd Y n K Ln Wh Re cd ct)) (va_Sv (fun _ => True)) 0 0 (fun _ => False) := by
  refine Met.ofW (cc := cX2_refuseNoKind) (maxL := 1) (ret := none) (by decide) rfl ?_
  intro p e s m args below meth c s₁ B hml hv
  obtain ⟨rfl, hsz, hP, hK, hD, hE⟩ := hv
  have hx := B.exec
  have hb := B.bytes
  have hr := B.returns
  have hts := atoms_spec (ws := wsX2_refuseNoKind) B.pre
  have hown : s.vm.findClass RX2 = some m.cls := findClass_of_methodNamed B.named
  have hlocks := B.notSynchronized
  have hl := lv_entry ([.int k]) (n := 1) (Nat.le_of_ble_eq_true rfl)
  rw [lg_entry_eq]
  generalize (lg_sl ([.int k]) ++ List.replicate (1 - (lg_sl ([.int k])).length) Slot.unset).toArray = ls at hl ⊢
  have hl : lv_has ls 1 [(0, .int k)] := hl
  subst hsz
  have hS : va_S A s.heap s.heap [] := va_S.rf
  refine lv_iload_n hx hb dX2_refuseNoKind_0 rfl (lv_at hl 0 rfl) ?_
  refine vp_callSi (W.runS (As := [.int k]) (rest := []) ⟨hx, hb, hml, hown, hts⟩ (kX2_isKind l k) (va_cwS 1 hts gX2_refuseNoKind_X2_isKind rfl rfl rfl (by decide +kernel) ⟨Nat.le_of_ble_eq_true rfl, Nat.le_of_ble_eq_true rfl⟩) ⟨fun a U g mk q => q, fun U hU hW => ⟨rfl, trivial⟩⟩ rfl rfl hl.1 rfl (lv_room (Nat.le_of_ble_eq_true rfl)) dX2_refuseNoKind_1 ⟨Nat.zero_le _, Nat.zero_le _⟩) (fun r_1 hr_1 => ?_)
  subst hr_1
  refine lv_if_ne (tgt := 17) hx hb dX2_refuseNoKind_4 (by decide) (fun _ => ?_) (fun q => absurd q ((tb_1 _).mpr hk))
  exact W.vret hx hb hr (fun t9 ht9 hW9 => ⟨rfl, trivial, ht9⟩) (fun q hq => absurd hq List.not_mem_nil) dX2_refuseNoKind_17
set_option maxHeartbeats 4000000 in
set_option maxRecDepth 100000 in
theorem tX2_refuseWithoutCells (l : Launch) (D : va_G) (A : Nat → Prop) (cI cJ cD cC : ClassId) (h0 h1 h2 h3 h4 : Nat) (ad wd rd : Nat → Nat) (Y : va_W) (n : Nat) (K : Nat → Int32) (Ln : Nat → Nat) (Wh : Nat → Int64) (Re : Nat → UInt64) (cd : Int32) (ct : Nat → Int32) (sz : Nat) (k : Int32) (hk : kHas k = true) : Met l yX2_refuseWithoutCells wsX2_refuseWithoutCells ({ frames := 1, cells := 0, slots := 0, locals := 20 }) (tcP D A (tcTY cI cJ cD cC) sz [.int k] (tc_T cI cJ cD cC h0 h1 h2 h3 h4 ad wd rd Y n K Ln Wh Re cd ct)) (va_Sv (fun _ => True)) 0 0 (fun _ => False) := by
  refine Met.ofW (cc := cX2_refuseWithoutCells) (maxL := 1) (ret := none) (by decide) rfl ?_
  intro p e s m args below meth c s₁ B hml hv
  obtain ⟨rfl, hsz, hP, hK, hD, hE⟩ := hv
  have hx := B.exec
  have hb := B.bytes
  have hr := B.returns
  have hts := atoms_spec (ws := wsX2_refuseWithoutCells) B.pre
  have hown : s.vm.findClass RX2 = some m.cls := findClass_of_methodNamed B.named
  have hlocks := B.notSynchronized
  have hl := lv_entry ([.int k]) (n := 1) (Nat.le_of_ble_eq_true rfl)
  rw [lg_entry_eq]
  generalize (lg_sl ([.int k]) ++ List.replicate (1 - (lg_sl ([.int k])).length) Slot.unset).toArray = ls at hl ⊢
  have hl : lv_has ls 1 [(0, .int k)] := hl
  subst hsz
  have hS : va_S A s.heap s.heap [] := va_S.rf
  refine lv_iload_n hx hb dX2_refuseWithoutCells_0 rfl (lv_at hl 0 rfl) ?_
  refine vp_callSi (W.runS (As := [.int k]) (rest := []) ⟨hx, hb, hml, hown, hts⟩ (kX2_holdsCells l k) (va_cwS 1 hts gX2_refuseWithoutCells_X2_holdsCells rfl rfl rfl (by decide +kernel) ⟨Nat.le_of_ble_eq_true rfl, Nat.le_of_ble_eq_true rfl⟩) ⟨fun a U g mk q => q, fun U hU hW => ⟨rfl, trivial⟩⟩ rfl rfl hl.1 rfl (lv_room (Nat.le_of_ble_eq_true rfl)) dX2_refuseWithoutCells_1 ⟨Nat.zero_le _, Nat.zero_le _⟩) (fun r_1 hr_1 => ?_)
  subst hr_1
  refine lv_if_ne (tgt := 17) hx hb dX2_refuseWithoutCells_4 (by decide) (fun _ => ?_) (fun q => absurd q ((tb_1 _).mpr hk))
  exact W.vret hx hb hr (fun t9 ht9 hW9 => ⟨rfl, trivial, ht9⟩) (fun q hq => absurd hq List.not_mem_nil) dX2_refuseWithoutCells_17
set_option maxHeartbeats 4000000 in
set_option maxRecDepth 100000 in
theorem tX2_refuseWhenFull (l : Launch) (D : va_G) (A : Nat → Prop) (cI cJ cD cC : ClassId) (h0 h1 h2 h3 h4 : Nat) (ad wd rd : Nat → Nat) (Y : va_W) (n : Nat) (K : Nat → Int32) (Ln : Nat → Nat) (Wh : Nat → Int64) (Re : Nat → UInt64) (cd : Int32) (ct : Nat → Int32) (sz : Nat) (hn6 : n < 60) : Met l yX2_refuseWhenFull wsX2_refuseWhenFull ({ frames := 0, cells := 0, slots := 0, locals := 0 }) (tcP D A (tcTY cI cJ cD cC) sz [.ref h0] (tc_T cI cJ cD cC h0 h1 h2 h3 h4 ad wd rd Y n K Ln Wh Re cd ct)) (va_Sv (fun _ => True)) 0 0 (fun _ => False) := by
  refine Met.ofW (cc := cX2_refuseWhenFull) (maxL := 1) (ret := none) (by decide) rfl ?_
  intro p e s m args below meth c s₁ B hml hv
  obtain ⟨rfl, hsz, hP, hK, hD, hE⟩ := hv
  have hx := B.exec
  have hb := B.bytes
  have hr := B.returns
  have hts := atoms_spec (ws := wsX2_refuseWhenFull) B.pre
  have hown : s.vm.findClass RX2 = some m.cls := findClass_of_methodNamed B.named
  have hlocks := B.notSynchronized
  have hl := lv_entry ([.ref h0]) (n := 1) (Nat.le_of_ble_eq_true rfl)
  rw [lg_entry_eq]
  generalize (lg_sl ([.ref h0]) ++ List.replicate (1 - (lg_sl ([.ref h0])).length) Slot.unset).toArray = ls at hl ⊢
  have hl : lv_has ls 1 [(0, .ref h0)] := hl
  subst hsz
  have hS : va_S A s.heap s.heap [] := va_S.rf
  refine lv_aload_n hx hb dX2_refuseWhenFull_0 rfl (lv_at hl 0 rfl) ?_
  refine va_get (D := D) (ci := 2) (fs := [.ref h1, .ref h2, .ref h3, .int (nI n), .int cd]) (v := .int (nI n)) (C := RX2) (T := TX2) (N := 5) hx hb hts (by decide +kernel) hown hK hP 0 rfl rfl 3 (by decide) (hts (.fieldLink RX2 26 "TypedColumns" "created" "I") (by decide +kernel)) (fun _ h9 => h9) rfl dX2_refuseWhenFull_1 ?_
  refine lv_aload_n hx hb dX2_refuseWhenFull_4 rfl (lv_at hl 0 rfl) ?_
  refine va_get (D := D) (ci := 2) (fs := [.ref h1, .ref h2, .ref h3, .int (nI n), .int cd]) (v := .ref h1) (C := RX2) (T := TX2) (N := 5) hx hb hts (by decide +kernel) hown hK hP 0 rfl rfl 0 (by decide) (hts (.fieldLink RX2 11 "TypedColumns" "columns" "[LTypedColumns$Column;") (by decide +kernel)) (fun _ h9 => h9) rfl dX2_refuseWhenFull_5 ?_
  refine va_alen (v := 60) hx hb hK hP 1 3 rfl rfl rfl dX2_refuseWhenFull_8 ?_
  refine lv_icmp_lt (tgt := 22) hx hb dX2_refuseWhenFull_9 (by decide) (fun _ => ?_) (fun q => absurd (nI_lt hn6 (by decide)) q)
  exact W.vret hx hb hr (fun t9 ht9 hW9 => ⟨rfl, trivial, ht9⟩) (fun q hq => absurd hq List.not_mem_nil) dX2_refuseWhenFull_22
set_option maxHeartbeats 4000000 in
set_option maxRecDepth 100000 in
theorem bX2_canWiden2 (l : Launch) (hfl : l.stackTraces = false) (D : va_G) (A : Nat → Prop) (cI cJ cD cC : ClassId) (h0 h1 h2 h3 h4 : Nat) (ad wd rd : Nat → Nat) (Y : va_W) (n : Nat) (K : Nat → Int32) (Ln : Nat → Nat) (Wh : Nat → Int64) (Re : Nat → UInt64) (cd : Int32) (ct : Nat → Int32) (sz : Nat) (k2 k : Int32) (hk2 : kIs k2 = true) (hk : kIs k = false) : vx_Met l yX2_canWiden wsX2_canWiden ({ frames := 7, cells := 1, slots := 6, locals := 110 }) (tcP D A (tcTY cI cJ cD cC) sz [.ref h0, .int k2, .int k] (tc_T cI cJ cD cC h0 h1 h2 h3 h4 ad wd rd Y n K Ln Wh Re cd ct)) (fun _ _ _ _ => False) (tcX D A (tc_T cI cJ cD cC h0 h1 h2 h3 h4 ad wd rd Y n K Ln Wh Re cd ct) "java/lang/IndexOutOfBoundsException") 1 6 A := by
  refine vx_ofW (cc := cX2_canWiden) (maxL := 3) (ret := (some .boolean)) (by decide) rfl ?_
  intro p e s m args below meth c s₁ B hml htb hv
  obtain ⟨rfl, hsz, hP, hK, hD, hE⟩ := hv
  have hx := B.exec
  have hb := B.bytes
  have hr := B.returns
  have hts := atoms_spec (ws := wsX2_canWiden) B.pre
  have hown : s.vm.findClass RX2 = some m.cls := findClass_of_methodNamed B.named
  have hlocks := B.notSynchronized
  have hl := lv_entry ([.ref h0, .int k2, .int k]) (n := 3) (Nat.le_of_ble_eq_true rfl)
  rw [lg_entry_eq]
  generalize (lg_sl ([.ref h0, .int k2, .int k]) ++ List.replicate (3 - (lg_sl ([.ref h0, .int k2, .int k])).length) Slot.unset).toArray = ls at hl ⊢
  have hl : lv_has ls 3 [(0, .ref h0), (1, .int k2), (2, .int k)] := hl
  subst hsz
  have hS : va_S A s.heap s.heap [] := va_S.rf
  refine lv_iload_n hx hb dX2_canWiden_0 rfl (lv_at hl 1 rfl) ?_
  refine va_csv (tc_CR (va_runS (As := [.int k2]) (rest := []) ⟨hx, hb, hml, hown, hts⟩ (tX2_refuseNoKind l D A cI cJ cD cC h0 h1 h2 h3 h4 ad wd rd Y n K Ln Wh Re cd ct s.heap.size k2 hk2) (va_cwS 1 hts gX2_canWiden_X2_refuseNoKind rfl rfl rfl (by decide +kernel) ⟨Nat.le_of_ble_eq_true rfl, Nat.le_of_ble_eq_true rfl⟩) ⟨tcP.blind, (tcP.go hK hP hD hE hS)⟩ rfl rfl hl.1 rfl (lv_room (Nat.le_of_ble_eq_true rfl)) dX2_canWiden_1 ⟨Nat.le_of_ble_eq_true rfl, Nat.le_of_ble_eq_true rfl⟩)) (fun _ => ?_)
  refine lv_iload_n hx hb dX2_canWiden_4 rfl (lv_at hl 2 rfl) ?_
  refine tc_thr (vx_runS (As := [.int k]) (rest := []) ⟨hx, hb, hml, hown, hts⟩ (bX2_refuseNoKind l hfl D A cI cJ cD cC h0 h1 h2 h3 h4 ad wd rd Y n K Ln Wh Re cd ct s.heap.size k hk) (va_cwS 1 hts gX2_canWiden_X2_refuseNoKind rfl rfl rfl (by decide +kernel) ⟨Nat.le_of_ble_eq_true rfl, Nat.le_of_ble_eq_true rfl⟩) ⟨tcP.blind, tcP.go hK hP hD hE hS⟩ rfl rfl hl.1 rfl (lv_room (Nat.le_of_ble_eq_true rfl)) dX2_canWiden_5 ⟨Nat.le_of_ble_eq_true rfl, Nat.le_of_ble_eq_true rfl⟩) hS (fun q h => h) (fun q _ h => h) (fun E ce q9 u t H locs ht hvm hw hB hz1 hk1 hS hce hcv hcl => ?_)
  obtain ⟨rfl, hP, hD⟩ := hB
  rw [ht] at hP
  exact vx_out (fun x hx9 => (htb x hx9).elim) hlocks hce hcv hcl (tcX.end hP hD hS) hS.2.2 (Nat.le_of_ble_eq_true rfl) (Nat.le_of_ble_eq_true rfl)
set_option maxHeartbeats 4000000 in
set_option maxRecDepth 100000 in
theorem bX2_widened_f (l : Launch) (hfl : l.stackTraces = false) (D : va_G) (A : Nat → Prop) (cI cJ cD cC : ClassId) (h0 h1 h2 h3 h4 : Nat) (ad wd rd : Nat → Nat) (Y : va_W) (n : Nat) (K : Nat → Int32) (Ln : Nat → Nat) (Wh : Nat → Int64) (Re : Nat → UInt64) (cd : Int32) (ct : Nat → Int32) (sz : Nat) (hn6 : n = 60) (j : Nat) (hj : j < n) (kd : Int32) (hk : kHas kd = true) : vx_Met l yX2_widened wsX2_widened ({ frames := 7, cells := 1, slots := 6, locals := 110 }) (tcP D A (tcTY cI cJ cD cC) sz [.ref h0, .int (nI j), .int kd] (tc_T cI cJ cD cC h0 h1 h2 h3 h4 ad wd rd Y n K Ln Wh Re cd ct)) (fun _ _ _ _ => False) (tcX D A (tc_T cI cJ cD cC h0 h1 h2 h3 h4 ad wd rd Y n K Ln Wh Re cd ct) "java/lang/IllegalStateException") 1 6 A := by
  refine vx_ofW (cc := cX2_widened) (maxL := 6) (ret := (some .int)) (by decide) rfl ?_
  intro p e s m args below meth c s₁ B hml htb hv
  obtain ⟨rfl, hsz, hP, hK, hD, hE⟩ := hv
  have hx := B.exec
  have hb := B.bytes
  have hr := B.returns
  have hts := atoms_spec (ws := wsX2_widened) B.pre
  have hown : s.vm.findClass RX2 = some m.cls := findClass_of_methodNamed B.named
  have hlocks := B.notSynchronized
  have hl := lv_entry ([.ref h0, .int (nI j), .int kd]) (n := 6) (Nat.le_of_ble_eq_true rfl)
  rw [lg_entry_eq]
  generalize (lg_sl ([.ref h0, .int (nI j), .int kd]) ++ List.replicate (6 - (lg_sl ([.ref h0, .int (nI j), .int kd])).length) Slot.unset).toArray = ls at hl ⊢
  have hl : lv_has ls 6 [(0, .ref h0), (1, .int (nI j)), (2, .int kd)] := hl
  subst hsz
  have hS : va_S A s.heap s.heap [] := va_S.rf
  refine lv_aload_n hx hb dX2_widened_0 rfl (lv_at hl 0 rfl) ?_
  refine lv_iload_n hx hb dX2_widened_1 rfl (lv_at hl 1 rfl) ?_
  refine va_csr (tc_CR (va_runV (As := [.int (nI j)]) (rest := []) ⟨hx, hb, hml, hown, hts⟩ (tX2_columnAt l D A cI cJ cD cC h0 h1 h2 h3 h4 ad wd rd Y n K Ln Wh Re cd ct s.heap.size (Nat.le_of_eq hn6) j hj) (cwV 1 hts gX2_widened_X2_columnAt rfl rfl rfl (by decide +kernel) ⟨Nat.le_of_ble_eq_true rfl, Nat.le_of_ble_eq_true rfl⟩) ⟨tcP.blind, va_recv hK hP (ci := 2) (q0 := 0) rfl rfl, tcP.go hK hP hD hE hS⟩ rfl rfl hl.1 rfl (lv_room (Nat.le_of_ble_eq_true rfl)) dX2_widened_2 ⟨Nat.le_of_ble_eq_true rfl, Nat.le_of_ble_eq_true rfl⟩)) (fun _ _ => ?_)
  refine lv_astore_n (lv' := [(3, .ref (ad j)), (0, .ref h0), (1, .int (nI j)), (2, .int kd)]) hx hb dX2_widened_5 rfl hl (by decide) rfl (fun ls hl => ?_)
  refine lv_iload_n hx hb dX2_widened_6 rfl (lv_at hl 3 rfl) ?_
  refine va_csv (tc_CR (va_runS (As := [.int kd]) (rest := []) ⟨hx, hb, hml, hown, hts⟩ (tX2_refuseWithoutCells l D A cI cJ cD cC h0 h1 h2 h3 h4 ad wd rd Y n K Ln Wh Re cd ct s.heap.size kd hk) (va_cwS 1 hts gX2_widened_X2_refuseWithoutCells rfl rfl rfl (by decide +kernel) ⟨Nat.le_of_ble_eq_true rfl, Nat.le_of_ble_eq_true rfl⟩) ⟨tcP.blind, (tcP.go hK hP hD hE hS)⟩ rfl rfl hl.1 rfl (lv_room (Nat.le_of_ble_eq_true rfl)) dX2_widened_7 ⟨Nat.le_of_ble_eq_true rfl, Nat.le_of_ble_eq_true rfl⟩)) (fun _ => ?_)
  refine lv_aload_n hx hb dX2_widened_10 rfl (lv_at hl 1 rfl) ?_
  refine tc_thr (vx_runV (As := []) (rest := []) ⟨hx, hb, hml, hown, hts⟩ (bX2_refuseWhenFull l hfl D A cI cJ cD cC h0 h1 h2 h3 h4 ad wd rd Y n K Ln Wh Re cd ct s.heap.size hn6) (cwV 0 hts gX2_widened_X2_refuseWhenFull rfl rfl rfl (by decide +kernel) ⟨Nat.le_of_ble_eq_true rfl, Nat.le_of_ble_eq_true rfl⟩) ⟨tcP.blind, va_recv hK hP (ci := 2) (q0 := 0) rfl rfl, tcP.go hK hP hD hE hS⟩ rfl rfl hl.1 rfl (lv_room (Nat.le_of_ble_eq_true rfl)) dX2_widened_11 ⟨Nat.le_of_ble_eq_true rfl, Nat.le_of_ble_eq_true rfl⟩) hS (fun q h => h) (fun q _ h => h) (fun E ce q9 u t H locs ht hvm hw hB hz1 hk1 hS hce hcv hcl => ?_)
  obtain ⟨rfl, hP, hD⟩ := hB
  rw [ht] at hP
  exact vx_out (fun x hx9 => (htb x hx9).elim) hlocks hce hcv hcl (tcX.end hP hD hS) hS.2.2 (Nat.le_of_ble_eq_true rfl) (Nat.le_of_ble_eq_true rfl)
