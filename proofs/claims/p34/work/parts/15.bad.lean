/-! THE CLASS: calls that throw -/
set_option maxHeartbeats 4000000 in
set_option maxRecDepth 100000 in
theorem tX2_refuseWithoutCells (l : Launch) (D : va_G) (A : Nat → Prop) (cI cJ cD cC : ClassId) (h0 h1 h2 h3 h4 : Nat) (ad wd rd : Nat → Nat) (Y : va_W) (n : Nat) (K : Nat → Int32) (Ln : Nat → Nat) (Wh : Nat → Int64) (Re : Nat → UInt64) (cd : Int32) (ct : Nat → Int32) (sz : Nat) (k : Int32) (hk : kHas k = true) : Met l yX2_refuseWithoutCells wsX2_refuseWithoutCells ({ frames := 1, cells := 0, slots := 0, locals := 20 }) (tcP D A (tcTY cI cJ cD cC) sz [.int k] (tc_T cI cJ cD cC h0 h1 h2 h3 h4 ad wd rd Y n K Ln Wh Re cd ct)) (va_Sv (fun _ => True)) 0 0 (fun _ => False) := by
  refine Met.ofW (cc := cX2_refuseWithoutCells) (maxL := 1) (ret := none) (by decide) rfl ?_
  intro p e s m args below meth c s₁ B hml hv
  obtain ⟨rfl, hsz, hP, hK, hD, hE⟩ := hv
  have hx := B.exec
  have hb := B.bytes
  have hr := B.returns
  have hts := atoms_spec (ws := wsX2_refuseWithoutCells) B.pre
  have hown : s.vm.findClass RX2 = some m.cls := findClass_of_methodNamed B.named
  have hlocks := B.notSynchronized
  have hl := lv_entry ([.int k]) (n := 1) (Nat.le_of_ble_eq_true rfl)
  rw [lg_entry_eq]
  generalize (lg_sl ([.int k]) ++ List.replicate (1 - (lg_sl ([.int k])).length) Slot.unset).toArray = ls at hl ⊢
  have hl : lv_has ls 1 [(0, .int k)] := hl
  subst hsz
  have hS : va_S A s.heap s.heap [] := va_S.rf
  refine lv_iload_n hx hb dX2_refuseWithoutCells_0 rfl (lv_at hl 0 rfl) ?_
  refine vp_callSi (W.runS (As := [.int k]) (rest := []) ⟨hx, hb, hml, hown, hts⟩ (kX2_holdsCells l k) (va_cwS 1 hts gX2_refuseWithoutCells_X2_holdsCells rfl rfl rfl (by decide +kernel) ⟨Nat.le_of_ble_eq_true rfl, Nat.le_of_ble_eq_true rfl⟩) ⟨fun a U g mk q => q, fun U hU hW => ⟨rfl, trivial⟩⟩ rfl rfl hl.1 rfl (lv_room (Nat.le_of_ble_eq_true rfl)) dX2_refuseWithoutCells_1 ⟨Nat.zero_le _, Nat.zero_le _⟩) (fun r_1 hr_1 => ?_)
  subst hr_1
  refine lv_if_ne (tgt := 17) hx hb dX2_refuseWithoutCells_4 (by decide) (fun _ => ?_) (fun q => absurd q ((tb_1 _).mpr hk))
  exact W.vret hx hb hr (fun t9 ht9 hW9 => ⟨rfl, trivial, ht9⟩) (fun q hq => absurd hq List.not_mem_nil) dX2_refuseWithoutCells_17
set_option maxHeartbeats 4000000 in
set_option maxRecDepth 100000 in
theorem tX2_refuseWhenFull (l : Launch) (D : va_G) (A : Nat → Prop) (cI cJ cD cC : ClassId) (h0 h1 h2 h3 h4 : Nat) (ad wd rd : Nat → Nat) (Y : va_W) (n : Nat) (K : Nat → Int32) (Ln : Nat → Nat) (Wh : Nat → Int64) (Re : Nat → UInt64) (cd : Int32) (ct : Nat → Int32) (sz : Nat) (hn6 : n < 60) : Met l yX2_refuseWhenFull wsX2_refuseWhenFull ({ frames := 0, cells := 0, slots := 0, locals := 0 }) (tcP D A (tcTY cI cJ cD cC) sz [.ref h0] (tc_T cI cJ cD cC h0 h1 h2 h3 h4 ad wd rd Y n K Ln Wh Re cd ct)) (va_Sv (fun _ => True)) 0 0 (fun _ => False) := by
  refine Met.ofW (cc := cX2_refuseWhenFull) (maxL := 1) (ret := none) (by decide) rfl ?_
  intro p e s m args below meth c s₁ B hml hv
  obtain ⟨rfl, hsz, hP, hK, hD, hE⟩ := hv
  have hx := B.exec
  have hb := B.bytes
  have hr := B.returns
  have hts := atoms_spec (ws := wsX2_refuseWhenFull) B.pre
  have hown : s.vm.findClass RX2 = some m.cls := findClass_of_methodNamed B.named
  have hlocks := B.notSynchronized
  have hl := lv_entry ([.ref h0]) (n := 1) (Nat.le_of_ble_eq_true rfl)
  rw [lg_entry_eq]
  generalize (lg_sl ([.ref h0]) ++ List.replicate (1 - (lg_sl ([.ref h0])).length) Slot.unset).toArray = ls at hl ⊢
  have hl : lv_has ls 1 [(0, .ref h0)] := hl
  subst hsz
  have hS : va_S A s.heap s.heap [] := va_S.rf
  refine lv_aload_n hx hb dX2_refuseWhenFull_0 rfl (lv_at hl 0 rfl) ?_
  refine va_get (D := D) (ci := 2) (fs := [.ref h1, .ref h2, .ref h3, .int (nI n), .int cd]) (v := .int (nI n)) (C := RX2) (T := TX2) (N := 5) hx hb hts (by decide +kernel) hown hK hP 0 rfl rfl 3 (by decide) (hts (.fieldLink RX2 26 "TypedColumns" "created" "I") (by decide +kernel)) (fun _ h9 => h9) rfl dX2_refuseWhenFull_1 ?_
  refine lv_aload_n hx hb dX2_refuseWhenFull_4 rfl (lv_at hl 0 rfl) ?_
  refine va_get (D := D) (ci := 2) (fs := [.ref h1, .ref h2, .ref h3, .int (nI n), .int cd]) (v := .ref h1) (C := RX2) (T := TX2) (N := 5) hx hb hts (by decide +kernel) hown hK hP 0 rfl rfl 0 (by decide) (hts (.fieldLink RX2 11 "TypedColumns" "columns" "[LTypedColumns$Column;") (by decide +kernel)) (fun _ h9 => h9) rfl dX2_refuseWhenFull_5 ?_
  refine va_alen (v := 60) hx hb hK hP 1 3 rfl rfl rfl dX2_refuseWhenFull_8 ?_
  refine lv_icmp_lt (tgt := 22) hx hb dX2_refuseWhenFull_9 (by decide) (fun _ => ?_) (fun q => absurd (nI_lt hn6 (by decide)) q)
  exact W.vret hx hb hr (fun t9 ht9 hW9 => ⟨rfl, trivial, ht9⟩) (fun q hq => absurd hq List.not_mem_nil) dX2_refuseWhenFull_22
