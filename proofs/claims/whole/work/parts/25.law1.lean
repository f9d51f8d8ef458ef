/-! THE LAW'S HELPERS -/
def tc_Y (cJ cD : ClassId) (y0 y1 y2 y3 y4 y5 : Nat × va_E) (o1 o2 : Nat) (ov : Nat → Int64) (od : Nat → UInt64) : va_W :=
  [y0, y1, y2, y3, y4, y5, (o1, .inl (cJ, 1, .inr (.inl ov))), (o2, .inl (cD, 1, .inr (.inr (.inr (.inl od)))))]
def tc_Nc (U : State) : Prop := va_Nc "java/lang/IllegalStateException" "java/lang/IllegalArgumentException" U ∧ va_Nc "java/lang/IllegalArgumentException" "java/lang/IndexOutOfBoundsException" U ∧ va_Nc "java/lang/IllegalStateException" "java/lang/IndexOutOfBoundsException" U
def tcPL (D : va_G) (A : Nat → Prop) (tys : List (ClassId × FieldType)) (sz : Nat) (av : List Value) (ws : va_W) : Array Value → State → Prop := va_Pc av (fun U => (U.heap.size = sz ∧ va_P D vwCl ws U.heap ∧ va_K D vwCl tys U ∧ va_D A ws ∧ tc_E A U) ∧ tc_Nc U)
theorem tcPL.blind {D : va_G} {A : Nat → Prop} {tys : List (ClassId × FieldType)} {sz : Nat} {av : List Value} {ws : va_W} : FrameBlind (tcPL D A tys sz av ws) := fun a U g mk q => ⟨q.1, ⟨q.2.1.1, q.2.1.2.1, va_K.moved (u := U) (U := U.calling g mk a) (Vm.Alike.refl U.vm) q.2.1.2.2.1, q.2.1.2.2.2.1, q.2.1.2.2.2.2.blind g mk a⟩, va_Nc.moved (u := U) (U := U.calling g mk a) (Vm.Alike.refl U.vm) q.2.2.1, va_Nc.moved (u := U) (U := U.calling g mk a) (Vm.Alike.refl U.vm) q.2.2.2.1, va_Nc.moved (u := U) (U := U.calling g mk a) (Vm.Alike.refl U.vm) q.2.2.2.2⟩
theorem tcPL.go {D : va_G} {A : Nat → Prop} {tys : List (ClassId × FieldType)} {av : List Value} {ws : va_W} {s : State} {H : Heap} {locs : List Loc} (hK : va_K D vwCl tys s) (hP : va_P D vwCl ws H) (hD : va_D A ws) (hE : tc_E A s) (hN : tc_Nc s) (hS : va_S A s.heap H locs) : ∀ U : State, U.heap = H → s.WarmedH U.vm → tcPL D A tys H.size av ws av.toArray U :=
  fun U hU hW => ⟨rfl, ⟨by rw [hU], by rw [hU]; exact hP, va_K.moved hW.alike hK, hD, hE.go hS hU hW⟩, va_Nc.moved hW.alike hN.1, va_Nc.moved hW.alike hN.2.1, va_Nc.moved hW.alike hN.2.2⟩
section TLX
variable {p : Program} {l : Launch} {e : Env} {R : Room} {s : State} {m : MethodId} {args : Array Value} {below : List Frame} {meth : Method} {c : Code} {H : Heap} {locs : List Loc} {cells slots mc ms : Nat} {g : JFrame} {rest : List Value} {Qa : State → Outcome → State → Prop} {free : Addr → Prop}
theorem tc_noX (h : vx_Run p l e R s m args below meth c H locs cells slots mc ms g rest Qa (fun _ _ _ => False) free) : va_Run p l e R s m args below meth c H locs cells slots mc ms g rest Qa free := by
  intro T hT X
  rcases h T hT X with q | ⟨_, _, _, _, _, _, _, _, _, _, _, _, q, _⟩
  · exact q
  · exact q.elim
end TLX
theorem rdF_nn {n : Nat} {K : Nat → Int32} {Ln : Nat → Nat} {Wh : Nat → Int64} {Re : Nat → UInt64} (hI : tcI n K Ln Wh Re) {j : Nat} (hj : j < n) (i : Int32) : FP.Core.fIsNaN (rdF K Ln Wh Re j i) = false := by
  unfold rdF
  by_cases h : cdR K Ln j i (K j) 7 = 0
  · rw [if_pos h]
    have g0 := cdR_0 (hI.2.1 j hj).1 (hI.2.1 j hj).2.1 h
    by_cases hf : kFl (K j) = true
    · rw [if_pos hf]; exact tf_d2f (hI.2.2.2 j hj hf _ (vp_in_lt g0.2.2))
    · rw [if_neg hf]; exact tf_l2f _
  · rw [if_neg h]; decide +kernel
theorem tbL0 {b : Bool} (h : tb b = 0) : (tb b).toInt64 = 0 := by rw [h]; rfl
theorem tbL1 {b : Bool} (h : ¬ tb b = 0) : (tb b).toInt64 = 1 := by rw [tb_t ((tb_1 b).mp h)]; rfl
set_option maxHeartbeats 4000000 in
set_option maxRecDepth 100000 in
theorem lL_kind (l : Launch) (hfl : l.stackTraces = false) (D : va_G) (A : Nat → Prop) (cI cJ cD cC : ClassId) (h0 h1 h2 h3 h4 : Nat) (ad wd rd : Nat → Nat) (y0 y1 y2 y3 y4 y5 : Nat × va_E) (o1 o2 : Nat) (ov : Nat → Int64) (od : Nat → UInt64) (n : Nat) (K : Nat → Int32) (Ln : Nat → Nat) (Wh : Nat → Int64) (Re : Nat → UInt64) (cd : Int32) (ct : Nat → Int32) (sz : Nat) (hI : tcI n K Ln Wh Re) (j : Nat) (hj : j < n) : vx_Met l yL_kind wsL_kind ({ frames := 2, cells := 0, slots := 0, locals := 43 }) (tcPL D A (tcTY cI cJ cD cC) sz [.ref h0, .int (nI j), .ref o1] (tc_T cI cJ cD cC h0 h1 h2 h3 h4 ad wd rd (tc_Y cJ cD y0 y1 y2 y3 y4 y5 o1 o2 ov od) n K Ln Wh Re cd ct)) (va_Qi (fun r (_ : Unit) => r = 0) (fun _ t => tcB D A (tc_T cI cJ cD cC h0 h1 h2 h3 h4 ad wd rd (tc_Y cJ cD y0 y1 y2 y3 y4 y5 o1 o2 (vp_updL ov 0 ((K j).toInt64)) od) n K Ln Wh Re cd ct) t) A) (fun _ _ _ => False) 0 0 A := by
  refine vx_ofWH (cc := cL_kind) (maxL := 4) (ret := (some .int)) (hh := [(0, 9, 12, 21)]) (by decide) rfl ?_
  intro p e s m args below meth c s₁ B hml hv
  obtain ⟨rfl, ⟨hsz, hP, hK, hD, hE⟩, hNc⟩ := hv
  have hx := B.exec
  have hb := B.bytes
  have hr := B.returns
  have hts := atoms_spec (ws := wsL_kind) B.pre
  have hown : s.vm.findClass RL = some m.cls := findClass_of_methodNamed B.named
  have hlocks := B.notSynchronized
  have hl := lv_entry ([.ref h0, .int (nI j), .ref o1]) (n := 4) (Nat.le_of_ble_eq_true rfl)
  rw [lg_entry_eq]
  generalize (lg_sl ([.ref h0, .int (nI j), .ref o1]) ++ List.replicate (4 - (lg_sl ([.ref h0, .int (nI j), .ref o1])).length) Slot.unset).toArray = ls at hl ⊢
  have hl : lv_has ls 4 [(0, .ref h0), (1, .int (nI j)), (2, .ref o1)] := hl
  have htb := vx_table (x := yL_kind) B (hts (.codeWith yL_kind cL_kind 4 (some .int) [(0, 9, 12, 21)]) (by unfold wsL_kind; exact List.mem_cons_self))
  subst hsz
  have hS : va_S A s.heap s.heap [] := va_S.rf
  refine lv_aload_n hx hb dL_kind_0 rfl (lv_at hl 2 rfl) ?_
  refine lv_iconst (v := 0) hx hb dL_kind_1 (by decide) ?_
  refine lv_aload_n hx hb dL_kind_2 rfl (lv_at hl 0 rfl) ?_
  refine lv_iload_n hx hb dL_kind_3 rfl (lv_at hl 1 rfl) ?_
  refine vp_callSi (tc_CR (va_runV (As := [.int (nI j)]) (rest := [.int 0, .ref o1]) ⟨hx, hb, hml, hown, hts⟩ (tX2_kind l D A cI cJ cD cC h0 h1 h2 h3 h4 ad wd rd (tc_Y cJ cD y0 y1 y2 y3 y4 y5 o1 o2 ov od) n K Ln Wh Re cd ct s.heap.size hI j hj) (cwV 1 hts gL_kind_X2_kind rfl rfl rfl (by decide +kernel) ⟨Nat.le_of_ble_eq_true rfl, Nat.le_of_ble_eq_true rfl⟩) ⟨tcP.blind, (va_recv hK hP (ci := 2) (q0 := 0) rfl rfl), (tcP.go hK hP hD hE hS)⟩ rfl rfl hl.1 rfl (lv_room (Nat.le_of_ble_eq_true rfl)) dL_kind_4 ⟨Nat.le_of_ble_eq_true rfl, Nat.le_of_ble_eq_true rfl⟩)) (fun r_1 hr_1 => ?_)
  subst hr_1
  refine lv_i2l (v := (K j).toInt64) hx hb dL_kind_7 rfl ?_
  refine va_last (f := ov) hx hb hK hP hD hS 11 1 rfl rfl (by unfold vp_in; decide) dL_kind_8 (fun H locs hP hD hS => ?_)
  have hP : va_P D vwCl (tc_T cI cJ cD cC h0 h1 h2 h3 h4 ad wd rd (tc_Y cJ cD y0 y1 y2 y3 y4 y5 o1 o2 (vp_updL ov 0 ((K j).toInt64)) od) n K Ln Wh Re cd ct) H := by exact hP
  have hD : va_D A (tc_T cI cJ cD cC h0 h1 h2 h3 h4 ad wd rd (tc_Y cJ cD y0 y1 y2 y3 y4 y5 o1 o2 (vp_updL ov 0 ((K j).toInt64)) od) n K Ln Wh Re cd ct) := by exact hD
  refine lv_goto (tgt := 15) hx hb dL_kind_9 (by decide) ?_
  refine lv_iconst (v := 0) hx hb dL_kind_15 (by decide) ?_
  refine vx_ret ?_
  exact W.iret (v := 0) hx hb hr (fun t9 ht9 hW9 => ⟨⟨0, (), rfl, rfl, by rw [ht9]; exact hP, hD⟩, hS.F ht9⟩) hS.2.2 dL_kind_16
set_option maxHeartbeats 4000000 in
set_option maxRecDepth 100000 in
theorem lL_length (l : Launch) (hfl : l.stackTraces = false) (D : va_G) (A : Nat → Prop) (cI cJ cD cC : ClassId) (h0 h1 h2 h3 h4 : Nat) (ad wd rd : Nat → Nat) (y0 y1 y2 y3 y4 y5 : Nat × va_E) (o1 o2 : Nat) (ov : Nat → Int64) (od : Nat → UInt64) (n : Nat) (K : Nat → Int32) (Ln : Nat → Nat) (Wh : Nat → Int64) (Re : Nat → UInt64) (cd : Int32) (ct : Nat → Int32) (sz : Nat) (hI : tcI n K Ln Wh Re) (j : Nat) (hj : j < n) : vx_Met l yL_length wsL_length ({ frames := 2, cells := 0, slots := 0, locals := 44 }) (tcPL D A (tcTY cI cJ cD cC) sz [.ref h0, .int (nI j), .ref o1] (tc_T cI cJ cD cC h0 h1 h2 h3 h4 ad wd rd (tc_Y cJ cD y0 y1 y2 y3 y4 y5 o1 o2 ov od) n K Ln Wh Re cd ct)) (va_Qi (fun r (_ : Unit) => r = 0) (fun _ t => tcB D A (tc_T cI cJ cD cC h0 h1 h2 h3 h4 ad wd rd (tc_Y cJ cD y0 y1 y2 y3 y4 y5 o1 o2 (vp_updL ov 0 ((tc_cl (K j) (Ln j)).toInt64)) od) n K Ln Wh Re (kCol (K j)) (noteC ct (kCol (K j)))) t) A) (fun _ _ _ => False) 0 0 A := by
  refine vx_ofWH (cc := cL_length) (maxL := 4) (ret := (some .int)) (hh := [(0, 9, 12, 21)]) (by decide) rfl ?_
  intro p e s m args below meth c s₁ B hml hv
  obtain ⟨rfl, ⟨hsz, hP, hK, hD, hE⟩, hNc⟩ := hv
  have hx := B.exec
  have hb := B.bytes
  have hr := B.returns
  have hts := atoms_spec (ws := wsL_length) B.pre
  have hown : s.vm.findClass RL = some m.cls := findClass_of_methodNamed B.named
  have hlocks := B.notSynchronized
  have hl := lv_entry ([.ref h0, .int (nI j), .ref o1]) (n := 4) (Nat.le_of_ble_eq_true rfl)
  rw [lg_entry_eq]
  generalize (lg_sl ([.ref h0, .int (nI j), .ref o1]) ++ List.replicate (4 - (lg_sl ([.ref h0, .int (nI j), .ref o1])).length) Slot.unset).toArray = ls at hl ⊢
  have hl : lv_has ls 4 [(0, .ref h0), (1, .int (nI j)), (2, .ref o1)] := hl
  have htb := vx_table (x := yL_length) B (hts (.codeWith yL_length cL_length 4 (some .int) [(0, 9, 12, 21)]) (by unfold wsL_length; exact List.mem_cons_self))
  subst hsz
  have hS : va_S A s.heap s.heap [] := va_S.rf
  refine lv_aload_n hx hb dL_length_0 rfl (lv_at hl 2 rfl) ?_
  refine lv_iconst (v := 0) hx hb dL_length_1 (by decide) ?_
  refine lv_aload_n hx hb dL_length_2 rfl (lv_at hl 0 rfl) ?_
  refine lv_iload_n hx hb dL_length_3 rfl (lv_at hl 1 rfl) ?_
  refine va_calli (va_runV (As := [.int (nI j)]) (rest := [.int 0, .ref o1]) ⟨hx, hb, hml, hown, hts⟩ (tX2_length l D A cI cJ cD cC h0 h1 h2 h3 h4 ad wd rd (tc_Y cJ cD y0 y1 y2 y3 y4 y5 o1 o2 ov od) n K Ln Wh Re cd ct s.heap.size hI j hj) (cwV 1 hts gL_length_X2_length rfl rfl rfl (by decide +kernel) ⟨Nat.le_of_ble_eq_true rfl, Nat.le_of_ble_eq_true rfl⟩) ⟨tcP.blind, (va_recv hK hP (ci := 2) (q0 := 0) rfl rfl), (tcP.go hK hP hD hE hS)⟩ rfl rfl hl.1 rfl (lv_room (Nat.le_of_ble_eq_true rfl)) dL_length_4 ⟨Nat.le_of_ble_eq_true rfl, Nat.le_of_ble_eq_true rfl⟩) hS (fun q _ h => h) (fun q h => h) (fun r_1 u t H locs ht hvm hw hB hz1 hk1 hS => ?_)
  subst hw
  obtain ⟨hP, hD⟩ := hB
  rw [ht] at hP
  refine lv_i2l (v := (tc_cl (K j) (Ln j)).toInt64) hx hb dL_length_7 rfl ?_
  refine va_last (f := ov) hx hb hK hP hD hS 11 1 rfl rfl (by unfold vp_in; decide) dL_length_8 (fun H locs hP hD hS => ?_)
  have hP : va_P D vwCl (tc_T cI cJ cD cC h0 h1 h2 h3 h4 ad wd rd (tc_Y cJ cD y0 y1 y2 y3 y4 y5 o1 o2 (vp_updL ov 0 ((tc_cl (K j) (Ln j)).toInt64)) od) n K Ln Wh Re (kCol (K j)) (noteC ct (kCol (K j)))) H := by exact hP
  have hD : va_D A (tc_T cI cJ cD cC h0 h1 h2 h3 h4 ad wd rd (tc_Y cJ cD y0 y1 y2 y3 y4 y5 o1 o2 (vp_updL ov 0 ((tc_cl (K j) (Ln j)).toInt64)) od) n K Ln Wh Re (kCol (K j)) (noteC ct (kCol (K j)))) := by exact hD
  refine lv_goto (tgt := 15) hx hb dL_length_9 (by decide) ?_
  refine lv_iconst (v := 0) hx hb dL_length_15 (by decide) ?_
  refine vx_ret ?_
  exact W.iret (v := 0) hx hb hr (fun t9 ht9 hW9 => ⟨⟨0, (), rfl, rfl, by rw [ht9]; exact hP, hD⟩, hS.F ht9⟩) hS.2.2 dL_length_16
set_option maxHeartbeats 4000000 in
set_option maxRecDepth 100000 in
theorem lL_readBoolean (l : Launch) (hfl : l.stackTraces = false) (D : va_G) (A : Nat → Prop) (cI cJ cD cC : ClassId) (h0 h1 h2 h3 h4 : Nat) (ad wd rd : Nat → Nat) (y0 y1 y2 y3 y4 y5 : Nat × va_E) (o1 o2 : Nat) (ov : Nat → Int64) (od : Nat → UInt64) (n : Nat) (K : Nat → Int32) (Ln : Nat → Nat) (Wh : Nat → Int64) (Re : Nat → UInt64) (cd : Int32) (ct : Nat → Int32) (sz : Nat) (hI : tcI n K Ln Wh Re) (j : Nat) (hj : j < n) (i : Int32) : vx_Met l yL_readBoolean wsL_readBoolean ({ frames := 5, cells := 0, slots := 0, locals := 111 }) (tcPL D A (tcTY cI cJ cD cC) sz [.ref h0, .int (nI j), .int i, .ref o1] (tc_T cI cJ cD cC h0 h1 h2 h3 h4 ad wd rd (tc_Y cJ cD y0 y1 y2 y3 y4 y5 o1 o2 ov od) n K Ln Wh Re cd ct)) (va_Qi (fun r (_ : Unit) => r = 0) (fun _ t => tcB D A (tc_T cI cJ cD cC h0 h1 h2 h3 h4 ad wd rd (tc_Y cJ cD y0 y1 y2 y3 y4 y5 o1 o2 (vp_updL ov 0 ((tb (!decide (rdW K Ln Wh j i 1 = 0))).toInt64)) od) n K Ln Wh Re (cdR K Ln j i (K j) 1) (noteC ct (cdR K Ln j i (K j) 1))) t) A) (fun _ _ _ => False) 0 0 A := by
  refine vx_ofWH (cc := cL_readBoolean) (maxL := 5) (ret := (some .int)) (hh := [(0, 17, 20, 21)]) (by decide) rfl ?_
  intro p e s m args below meth c s₁ B hml hv
  obtain ⟨rfl, ⟨hsz, hP, hK, hD, hE⟩, hNc⟩ := hv
  have hx := B.exec
  have hb := B.bytes
  have hr := B.returns
  have hts := atoms_spec (ws := wsL_readBoolean) B.pre
  have hown : s.vm.findClass RL = some m.cls := findClass_of_methodNamed B.named
  have hlocks := B.notSynchronized
  have hl := lv_entry ([.ref h0, .int (nI j), .int i, .ref o1]) (n := 5) (Nat.le_of_ble_eq_true rfl)
  rw [lg_entry_eq]
  generalize (lg_sl ([.ref h0, .int (nI j), .int i, .ref o1]) ++ List.replicate (5 - (lg_sl ([.ref h0, .int (nI j), .int i, .ref o1])).length) Slot.unset).toArray = ls at hl ⊢
  have hl : lv_has ls 5 [(0, .ref h0), (1, .int (nI j)), (2, .int i), (3, .ref o1)] := hl
  have htb := vx_table (x := yL_readBoolean) B (hts (.codeWith yL_readBoolean cL_readBoolean 5 (some .int) [(0, 17, 20, 21)]) (by unfold wsL_readBoolean; exact List.mem_cons_self))
  subst hsz
  have hS : va_S A s.heap s.heap [] := va_S.rf
  refine lv_aload_n hx hb dL_readBoolean_0 rfl (lv_at hl 3 rfl) ?_
  refine lv_iconst (v := 0) hx hb dL_readBoolean_1 (by decide) ?_
  refine lv_aload_n hx hb dL_readBoolean_2 rfl (lv_at hl 0 rfl) ?_
  refine lv_iload_n hx hb dL_readBoolean_3 rfl (lv_at hl 1 rfl) ?_
  refine lv_iload_n hx hb dL_readBoolean_4 rfl (lv_at hl 2 rfl) ?_
  refine va_calli (va_runV (As := [.int (nI j), .int i]) (rest := [.int 0, .ref o1]) ⟨hx, hb, hml, hown, hts⟩ (tX2_readBoolean l D A cI cJ cD cC h0 h1 h2 h3 h4 ad wd rd (tc_Y cJ cD y0 y1 y2 y3 y4 y5 o1 o2 ov od) n K Ln Wh Re cd ct s.heap.size hI j hj i) (cwV 2 hts gL_readBoolean_X2_readBoolean rfl rfl rfl (by decide +kernel) ⟨Nat.le_of_ble_eq_true rfl, Nat.le_of_ble_eq_true rfl⟩) ⟨tcP.blind, (va_recv hK hP (ci := 2) (q0 := 0) rfl rfl), (tcP.go hK hP hD hE hS)⟩ rfl rfl hl.1 rfl (lv_room (Nat.le_of_ble_eq_true rfl)) dL_readBoolean_5 ⟨Nat.le_of_ble_eq_true rfl, Nat.le_of_ble_eq_true rfl⟩) hS (fun q _ h => h) (fun q h => h) (fun r_1 u t H locs ht hvm hw hB hz1 hk1 hS => ?_)
  subst hw
  obtain ⟨hP, hD⟩ := hB
  rw [ht] at hP
  refine lv_if_eq (tgt := 15) hx hb dL_readBoolean_8 (by decide) (fun c_2 => ?_) (fun c_2 => ?_)
  · refine lv_lconst (v := 0) hx hb dL_readBoolean_15 (by decide) ?_
    refine va_last (f := ov) hx hb hK hP hD hS 11 1 rfl rfl (by unfold vp_in; decide) dL_readBoolean_16 (fun H locs hP hD hS => ?_)
    have hP : va_P D vwCl (tc_T cI cJ cD cC h0 h1 h2 h3 h4 ad wd rd (tc_Y cJ cD y0 y1 y2 y3 y4 y5 o1 o2 (vp_updL ov 0 ((tb (!decide (rdW K Ln Wh j i 1 = 0))).toInt64)) od) n K Ln Wh Re (cdR K Ln j i (K j) 1) (noteC ct (cdR K Ln j i (K j) 1))) H := by rw [tbL0 c_2]; exact hP
    have hD : va_D A (tc_T cI cJ cD cC h0 h1 h2 h3 h4 ad wd rd (tc_Y cJ cD y0 y1 y2 y3 y4 y5 o1 o2 (vp_updL ov 0 ((tb (!decide (rdW K Ln Wh j i 1 = 0))).toInt64)) od) n K Ln Wh Re (cdR K Ln j i (K j) 1) (noteC ct (cdR K Ln j i (K j) 1))) := by rw [tbL0 c_2]; exact hD
    refine lv_goto (tgt := 24) hx hb dL_readBoolean_17 (by decide) ?_
    refine lv_iconst (v := 0) hx hb dL_readBoolean_24 (by decide) ?_
    refine vx_ret ?_
    exact W.iret (v := 0) hx hb hr (fun t9 ht9 hW9 => ⟨⟨0, (), rfl, rfl, by rw [ht9]; exact hP, hD⟩, hS.F ht9⟩) hS.2.2 dL_readBoolean_25
  · refine lv_lconst (v := 1) hx hb dL_readBoolean_11 (by decide) ?_
    refine lv_goto (tgt := 16) hx hb dL_readBoolean_12 (by decide) ?_
    refine va_last (f := ov) hx hb hK hP hD hS 11 1 rfl rfl (by unfold vp_in; decide) dL_readBoolean_16 (fun H locs hP hD hS => ?_)
    have hP : va_P D vwCl (tc_T cI cJ cD cC h0 h1 h2 h3 h4 ad wd rd (tc_Y cJ cD y0 y1 y2 y3 y4 y5 o1 o2 (vp_updL ov 0 ((tb (!decide (rdW K Ln Wh j i 1 = 0))).toInt64)) od) n K Ln Wh Re (cdR K Ln j i (K j) 1) (noteC ct (cdR K Ln j i (K j) 1))) H := by rw [tbL1 c_2]; exact hP
    have hD : va_D A (tc_T cI cJ cD cC h0 h1 h2 h3 h4 ad wd rd (tc_Y cJ cD y0 y1 y2 y3 y4 y5 o1 o2 (vp_updL ov 0 ((tb (!decide (rdW K Ln Wh j i 1 = 0))).toInt64)) od) n K Ln Wh Re (cdR K Ln j i (K j) 1) (noteC ct (cdR K Ln j i (K j) 1))) := by rw [tbL1 c_2]; exact hD
    refine lv_goto (tgt := 24) hx hb dL_readBoolean_17 (by decide) ?_
    refine lv_iconst (v := 0) hx hb dL_readBoolean_24 (by decide) ?_
    refine vx_ret ?_
    exact W.iret (v := 0) hx hb hr (fun t9 ht9 hW9 => ⟨⟨0, (), rfl, rfl, by rw [ht9]; exact hP, hD⟩, hS.F ht9⟩) hS.2.2 dL_readBoolean_25
set_option maxHeartbeats 4000000 in
set_option maxRecDepth 100000 in
theorem lL_readByte (l : Launch) (hfl : l.stackTraces = false) (D : va_G) (A : Nat → Prop) (cI cJ cD cC : ClassId) (h0 h1 h2 h3 h4 : Nat) (ad wd rd : Nat → Nat) (y0 y1 y2 y3 y4 y5 : Nat × va_E) (o1 o2 : Nat) (ov : Nat → Int64) (od : Nat → UInt64) (n : Nat) (K : Nat → Int32) (Ln : Nat → Nat) (Wh : Nat → Int64) (Re : Nat → UInt64) (cd : Int32) (ct : Nat → Int32) (sz : Nat) (hI : tcI n K Ln Wh Re) (j : Nat) (hj : j < n) (i : Int32) : vx_Met l yL_readByte wsL_readByte ({ frames := 5, cells := 0, slots := 0, locals := 111 }) (tcPL D A (tcTY cI cJ cD cC) sz [.ref h0, .int (nI j), .int i, .ref o1] (tc_T cI cJ cD cC h0 h1 h2 h3 h4 ad wd rd (tc_Y cJ cD y0 y1 y2 y3 y4 y5 o1 o2 ov od) n K Ln Wh Re cd ct)) (va_Qi (fun r (_ : Unit) => r = 0) (fun _ t => tcB D A (tc_T cI cJ cD cC h0 h1 h2 h3 h4 ad wd rd (tc_Y cJ cD y0 y1 y2 y3 y4 y5 o1 o2 (vp_updL ov 0 (((rdW K Ln Wh j i 2).toInt32).toInt64)) od) n K Ln Wh Re (cdR K Ln j i (K j) 2) (noteC ct (cdR K Ln j i (K j) 2))) t) A) (fun _ _ _ => False) 0 0 A := by
  refine vx_ofWH (cc := cL_readByte) (maxL := 5) (ret := (some .int)) (hh := [(0, 10, 13, 21)]) (by decide) rfl ?_
  intro p e s m args below meth c s₁ B hml hv
  obtain ⟨rfl, ⟨hsz, hP, hK, hD, hE⟩, hNc⟩ := hv
  have hx := B.exec
  have hb := B.bytes
  have hr := B.returns
  have hts := atoms_spec (ws := wsL_readByte) B.pre
  have hown : s.vm.findClass RL = some m.cls := findClass_of_methodNamed B.named
  have hlocks := B.notSynchronized
  have hl := lv_entry ([.ref h0, .int (nI j), .int i, .ref o1]) (n := 5) (Nat.le_of_ble_eq_true rfl)
  rw [lg_entry_eq]
  generalize (lg_sl ([.ref h0, .int (nI j), .int i, .ref o1]) ++ List.replicate (5 - (lg_sl ([.ref h0, .int (nI j), .int i, .ref o1])).length) Slot.unset).toArray = ls at hl ⊢
  have hl : lv_has ls 5 [(0, .ref h0), (1, .int (nI j)), (2, .int i), (3, .ref o1)] := hl
  have htb := vx_table (x := yL_readByte) B (hts (.codeWith yL_readByte cL_readByte 5 (some .int) [(0, 10, 13, 21)]) (by unfold wsL_readByte; exact List.mem_cons_self))
  subst hsz
  have hS : va_S A s.heap s.heap [] := va_S.rf
  refine lv_aload_n hx hb dL_readByte_0 rfl (lv_at hl 3 rfl) ?_
  refine lv_iconst (v := 0) hx hb dL_readByte_1 (by decide) ?_
  refine lv_aload_n hx hb dL_readByte_2 rfl (lv_at hl 0 rfl) ?_
  refine lv_iload_n hx hb dL_readByte_3 rfl (lv_at hl 1 rfl) ?_
  refine lv_iload_n hx hb dL_readByte_4 rfl (lv_at hl 2 rfl) ?_
  refine va_calli (va_runV (As := [.int (nI j), .int i]) (rest := [.int 0, .ref o1]) ⟨hx, hb, hml, hown, hts⟩ (tX2_readByte l D A cI cJ cD cC h0 h1 h2 h3 h4 ad wd rd (tc_Y cJ cD y0 y1 y2 y3 y4 y5 o1 o2 ov od) n K Ln Wh Re cd ct s.heap.size hI j hj i) (cwV 2 hts gL_readByte_X2_readByte rfl rfl rfl (by decide +kernel) ⟨Nat.le_of_ble_eq_true rfl, Nat.le_of_ble_eq_true rfl⟩) ⟨tcP.blind, (va_recv hK hP (ci := 2) (q0 := 0) rfl rfl), (tcP.go hK hP hD hE hS)⟩ rfl rfl hl.1 rfl (lv_room (Nat.le_of_ble_eq_true rfl)) dL_readByte_5 ⟨Nat.le_of_ble_eq_true rfl, Nat.le_of_ble_eq_true rfl⟩) hS (fun q _ h => h) (fun q h => h) (fun r_1 u t H locs ht hvm hw hB hz1 hk1 hS => ?_)
  subst hw
  obtain ⟨hP, hD⟩ := hB
  rw [ht] at hP
  refine lv_i2l (v := ((rdW K Ln Wh j i 2).toInt32).toInt64) hx hb dL_readByte_8 rfl ?_
  refine va_last (f := ov) hx hb hK hP hD hS 11 1 rfl rfl (by unfold vp_in; decide) dL_readByte_9 (fun H locs hP hD hS => ?_)
  have hP : va_P D vwCl (tc_T cI cJ cD cC h0 h1 h2 h3 h4 ad wd rd (tc_Y cJ cD y0 y1 y2 y3 y4 y5 o1 o2 (vp_updL ov 0 (((rdW K Ln Wh j i 2).toInt32).toInt64)) od) n K Ln Wh Re (cdR K Ln j i (K j) 2) (noteC ct (cdR K Ln j i (K j) 2))) H := by exact hP
  have hD : va_D A (tc_T cI cJ cD cC h0 h1 h2 h3 h4 ad wd rd (tc_Y cJ cD y0 y1 y2 y3 y4 y5 o1 o2 (vp_updL ov 0 (((rdW K Ln Wh j i 2).toInt32).toInt64)) od) n K Ln Wh Re (cdR K Ln j i (K j) 2) (noteC ct (cdR K Ln j i (K j) 2))) := by exact hD
  refine lv_goto (tgt := 17) hx hb dL_readByte_10 (by decide) ?_
  refine lv_iconst (v := 0) hx hb dL_readByte_17 (by decide) ?_
  refine vx_ret ?_
  exact W.iret (v := 0) hx hb hr (fun t9 ht9 hW9 => ⟨⟨0, (), rfl, rfl, by rw [ht9]; exact hP, hD⟩, hS.F ht9⟩) hS.2.2 dL_readByte_18
set_option maxHeartbeats 4000000 in
set_option maxRecDepth 100000 in
theorem lL_readChar (l : Launch) (hfl : l.stackTraces = false) (D : va_G) (A : Nat → Prop) (cI cJ cD cC : ClassId) (h0 h1 h2 h3 h4 : Nat) (ad wd rd : Nat → Nat) (y0 y1 y2 y3 y4 y5 : Nat × va_E) (o1 o2 : Nat) (ov : Nat → Int64) (od : Nat → UInt64) (n : Nat) (K : Nat → Int32) (Ln : Nat → Nat) (Wh : Nat → Int64) (Re : Nat → UInt64) (cd : Int32) (ct : Nat → Int32) (sz : Nat) (hI : tcI n K Ln Wh Re) (j : Nat) (hj : j < n) (i : Int32) : vx_Met l yL_readChar wsL_readChar ({ frames := 5, cells := 0, slots := 0, locals := 111 }) (tcPL D A (tcTY cI cJ cD cC) sz [.ref h0, .int (nI j), .int i, .ref o1] (tc_T cI cJ cD cC h0 h1 h2 h3 h4 ad wd rd (tc_Y cJ cD y0 y1 y2 y3 y4 y5 o1 o2 ov od) n K Ln Wh Re cd ct)) (va_Qi (fun r (_ : Unit) => r = 0) (fun _ t => tcB D A (tc_T cI cJ cD cC h0 h1 h2 h3 h4 ad wd rd (tc_Y cJ cD y0 y1 y2 y3 y4 y5 o1 o2 (vp_updL ov 0 (((rdW K Ln Wh j i 3).toInt32).toInt64)) od) n K Ln Wh Re (cdR K Ln j i (K j) 3) (noteC ct (cdR K Ln j i (K j) 3))) t) A) (fun _ _ _ => False) 0 0 A := by
  refine vx_ofWH (cc := cL_readChar) (maxL := 5) (ret := (some .int)) (hh := [(0, 10, 13, 21)]) (by decide) rfl ?_
  intro p e s m args below meth c s₁ B hml hv
  obtain ⟨rfl, ⟨hsz, hP, hK, hD, hE⟩, hNc⟩ := hv
  have hx := B.exec
  have hb := B.bytes
  have hr := B.returns
  have hts := atoms_spec (ws := wsL_readChar) B.pre
  have hown : s.vm.findClass RL = some m.cls := findClass_of_methodNamed B.named
  have hlocks := B.notSynchronized
  have hl := lv_entry ([.ref h0, .int (nI j), .int i, .ref o1]) (n := 5) (Nat.le_of_ble_eq_true rfl)
  rw [lg_entry_eq]
  generalize (lg_sl ([.ref h0, .int (nI j), .int i, .ref o1]) ++ List.replicate (5 - (lg_sl ([.ref h0, .int (nI j), .int i, .ref o1])).length) Slot.unset).toArray = ls at hl ⊢
  have hl : lv_has ls 5 [(0, .ref h0), (1, .int (nI j)), (2, .int i), (3, .ref o1)] := hl
  have htb := vx_table (x := yL_readChar) B (hts (.codeWith yL_readChar cL_readChar 5 (some .int) [(0, 10, 13, 21)]) (by unfold wsL_readChar; exact List.mem_cons_self))
  subst hsz
  have hS : va_S A s.heap s.heap [] := va_S.rf
  refine lv_aload_n hx hb dL_readChar_0 rfl (lv_at hl 3 rfl) ?_
  refine lv_iconst (v := 0) hx hb dL_readChar_1 (by decide) ?_
  refine lv_aload_n hx hb dL_readChar_2 rfl (lv_at hl 0 rfl) ?_
  refine lv_iload_n hx hb dL_readChar_3 rfl (lv_at hl 1 rfl) ?_
  refine lv_iload_n hx hb dL_readChar_4 rfl (lv_at hl 2 rfl) ?_
  refine va_calli (va_runV (As := [.int (nI j), .int i]) (rest := [.int 0, .ref o1]) ⟨hx, hb, hml, hown, hts⟩ (tX2_readChar l D A cI cJ cD cC h0 h1 h2 h3 h4 ad wd rd (tc_Y cJ cD y0 y1 y2 y3 y4 y5 o1 o2 ov od) n K Ln Wh Re cd ct s.heap.size hI j hj i) (cwV 2 hts gL_readChar_X2_readChar rfl rfl rfl (by decide +kernel) ⟨Nat.le_of_ble_eq_true rfl, Nat.le_of_ble_eq_true rfl⟩) ⟨tcP.blind, (va_recv hK hP (ci := 2) (q0 := 0) rfl rfl), (tcP.go hK hP hD hE hS)⟩ rfl rfl hl.1 rfl (lv_room (Nat.le_of_ble_eq_true rfl)) dL_readChar_5 ⟨Nat.le_of_ble_eq_true rfl, Nat.le_of_ble_eq_true rfl⟩) hS (fun q _ h => h) (fun q h => h) (fun r_1 u t H locs ht hvm hw hB hz1 hk1 hS => ?_)
  subst hw
  obtain ⟨hP, hD⟩ := hB
  rw [ht] at hP
  refine lv_i2l (v := ((rdW K Ln Wh j i 3).toInt32).toInt64) hx hb dL_readChar_8 rfl ?_
  refine va_last (f := ov) hx hb hK hP hD hS 11 1 rfl rfl (by unfold vp_in; decide) dL_readChar_9 (fun H locs hP hD hS => ?_)
  have hP : va_P D vwCl (tc_T cI cJ cD cC h0 h1 h2 h3 h4 ad wd rd (tc_Y cJ cD y0 y1 y2 y3 y4 y5 o1 o2 (vp_updL ov 0 (((rdW K Ln Wh j i 3).toInt32).toInt64)) od) n K Ln Wh Re (cdR K Ln j i (K j) 3) (noteC ct (cdR K Ln j i (K j) 3))) H := by exact hP
  have hD : va_D A (tc_T cI cJ cD cC h0 h1 h2 h3 h4 ad wd rd (tc_Y cJ cD y0 y1 y2 y3 y4 y5 o1 o2 (vp_updL ov 0 (((rdW K Ln Wh j i 3).toInt32).toInt64)) od) n K Ln Wh Re (cdR K Ln j i (K j) 3) (noteC ct (cdR K Ln j i (K j) 3))) := by exact hD
  refine lv_goto (tgt := 17) hx hb dL_readChar_10 (by decide) ?_
  refine lv_iconst (v := 0) hx hb dL_readChar_17 (by decide) ?_
  refine vx_ret ?_
  exact W.iret (v := 0) hx hb hr (fun t9 ht9 hW9 => ⟨⟨0, (), rfl, rfl, by rw [ht9]; exact hP, hD⟩, hS.F ht9⟩) hS.2.2 dL_readChar_18
set_option maxHeartbeats 4000000 in
set_option maxRecDepth 100000 in
theorem lL_readShort (l : Launch) (hfl : l.stackTraces = false) (D : va_G) (A : Nat → Prop) (cI cJ cD cC : ClassId) (h0 h1 h2 h3 h4 : Nat) (ad wd rd : Nat → Nat) (y0 y1 y2 y3 y4 y5 : Nat × va_E) (o1 o2 : Nat) (ov : Nat → Int64) (od : Nat → UInt64) (n : Nat) (K : Nat → Int32) (Ln : Nat → Nat) (Wh : Nat → Int64) (Re : Nat → UInt64) (cd : Int32) (ct : Nat → Int32) (sz : Nat) (hI : tcI n K Ln Wh Re) (j : Nat) (hj : j < n) (i : Int32) : vx_Met l yL_readShort wsL_readShort ({ frames := 5, cells := 0, slots := 0, locals := 111 }) (tcPL D A (tcTY cI cJ cD cC) sz [.ref h0, .int (nI j), .int i, .ref o1] (tc_T cI cJ cD cC h0 h1 h2 h3 h4 ad wd rd (tc_Y cJ cD y0 y1 y2 y3 y4 y5 o1 o2 ov od) n K Ln Wh Re cd ct)) (va_Qi (fun r (_ : Unit) => r = 0) (fun _ t => tcB D A (tc_T cI cJ cD cC h0 h1 h2 h3 h4 ad wd rd (tc_Y cJ cD y0 y1 y2 y3 y4 y5 o1 o2 (vp_updL ov 0 (((rdW K Ln Wh j i 4).toInt32).toInt64)) od) n K Ln Wh Re (cdR K Ln j i (K j) 4) (noteC ct (cdR K Ln j i (K j) 4))) t) A) (fun _ _ _ => False) 0 0 A := by
  refine vx_ofWH (cc := cL_readShort) (maxL := 5) (ret := (some .int)) (hh := [(0, 10, 13, 21)]) (by decide) rfl ?_
  intro p e s m args below meth c s₁ B hml hv
  obtain ⟨rfl, ⟨hsz, hP, hK, hD, hE⟩, hNc⟩ := hv
  have hx := B.exec
  have hb := B.bytes
  have hr := B.returns
  have hts := atoms_spec (ws := wsL_readShort) B.pre
  have hown : s.vm.findClass RL = some m.cls := findClass_of_methodNamed B.named
  have hlocks := B.notSynchronized
  have hl := lv_entry ([.ref h0, .int (nI j), .int i, .ref o1]) (n := 5) (Nat.le_of_ble_eq_true rfl)
  rw [lg_entry_eq]
  generalize (lg_sl ([.ref h0, .int (nI j), .int i, .ref o1]) ++ List.replicate (5 - (lg_sl ([.ref h0, .int (nI j), .int i, .ref o1])).length) Slot.unset).toArray = ls at hl ⊢
  have hl : lv_has ls 5 [(0, .ref h0), (1, .int (nI j)), (2, .int i), (3, .ref o1)] := hl
  have htb := vx_table (x := yL_readShort) B (hts (.codeWith yL_readShort cL_readShort 5 (some .int) [(0, 10, 13, 21)]) (by unfold wsL_readShort; exact List.mem_cons_self))
  subst hsz
  have hS : va_S A s.heap s.heap [] := va_S.rf
  refine lv_aload_n hx hb dL_readShort_0 rfl (lv_at hl 3 rfl) ?_
  refine lv_iconst (v := 0) hx hb dL_readShort_1 (by decide) ?_
  refine lv_aload_n hx hb dL_readShort_2 rfl (lv_at hl 0 rfl) ?_
  refine lv_iload_n hx hb dL_readShort_3 rfl (lv_at hl 1 rfl) ?_
  refine lv_iload_n hx hb dL_readShort_4 rfl (lv_at hl 2 rfl) ?_
  refine va_calli (va_runV (As := [.int (nI j), .int i]) (rest := [.int 0, .ref o1]) ⟨hx, hb, hml, hown, hts⟩ (tX2_readShort l D A cI cJ cD cC h0 h1 h2 h3 h4 ad wd rd (tc_Y cJ cD y0 y1 y2 y3 y4 y5 o1 o2 ov od) n K Ln Wh Re cd ct s.heap.size hI j hj i) (cwV 2 hts gL_readShort_X2_readShort rfl rfl rfl (by decide +kernel) ⟨Nat.le_of_ble_eq_true rfl, Nat.le_of_ble_eq_true rfl⟩) ⟨tcP.blind, (va_recv hK hP (ci := 2) (q0 := 0) rfl rfl), (tcP.go hK hP hD hE hS)⟩ rfl rfl hl.1 rfl (lv_room (Nat.le_of_ble_eq_true rfl)) dL_readShort_5 ⟨Nat.le_of_ble_eq_true rfl, Nat.le_of_ble_eq_true rfl⟩) hS (fun q _ h => h) (fun q h => h) (fun r_1 u t H locs ht hvm hw hB hz1 hk1 hS => ?_)
  subst hw
  obtain ⟨hP, hD⟩ := hB
  rw [ht] at hP
  refine lv_i2l (v := ((rdW K Ln Wh j i 4).toInt32).toInt64) hx hb dL_readShort_8 rfl ?_
  refine va_last (f := ov) hx hb hK hP hD hS 11 1 rfl rfl (by unfold vp_in; decide) dL_readShort_9 (fun H locs hP hD hS => ?_)
  have hP : va_P D vwCl (tc_T cI cJ cD cC h0 h1 h2 h3 h4 ad wd rd (tc_Y cJ cD y0 y1 y2 y3 y4 y5 o1 o2 (vp_updL ov 0 (((rdW K Ln Wh j i 4).toInt32).toInt64)) od) n K Ln Wh Re (cdR K Ln j i (K j) 4) (noteC ct (cdR K Ln j i (K j) 4))) H := by exact hP
  have hD : va_D A (tc_T cI cJ cD cC h0 h1 h2 h3 h4 ad wd rd (tc_Y cJ cD y0 y1 y2 y3 y4 y5 o1 o2 (vp_updL ov 0 (((rdW K Ln Wh j i 4).toInt32).toInt64)) od) n K Ln Wh Re (cdR K Ln j i (K j) 4) (noteC ct (cdR K Ln j i (K j) 4))) := by exact hD
  refine lv_goto (tgt := 17) hx hb dL_readShort_10 (by decide) ?_
  refine lv_iconst (v := 0) hx hb dL_readShort_17 (by decide) ?_
  refine vx_ret ?_
  exact W.iret (v := 0) hx hb hr (fun t9 ht9 hW9 => ⟨⟨0, (), rfl, rfl, by rw [ht9]; exact hP, hD⟩, hS.F ht9⟩) hS.2.2 dL_readShort_18
set_option maxHeartbeats 4000000 in
set_option maxRecDepth 100000 in
theorem lL_readInt (l : Launch) (hfl : l.stackTraces = false) (D : va_G) (A : Nat → Prop) (cI cJ cD cC : ClassId) (h0 h1 h2 h3 h4 : Nat) (ad wd rd : Nat → Nat) (y0 y1 y2 y3 y4 y5 : Nat × va_E) (o1 o2 : Nat) (ov : Nat → Int64) (od : Nat → UInt64) (n : Nat) (K : Nat → Int32) (Ln : Nat → Nat) (Wh : Nat → Int64) (Re : Nat → UInt64) (cd : Int32) (ct : Nat → Int32) (sz : Nat) (hI : tcI n K Ln Wh Re) (j : Nat) (hj : j < n) (i : Int32) : vx_Met l yL_readInt wsL_readInt ({ frames := 5, cells := 0, slots := 0, locals := 111 }) (tcPL D A (tcTY cI cJ cD cC) sz [.ref h0, .int (nI j), .int i, .ref o1] (tc_T cI cJ cD cC h0 h1 h2 h3 h4 ad wd rd (tc_Y cJ cD y0 y1 y2 y3 y4 y5 o1 o2 ov od) n K Ln Wh Re cd ct)) (va_Qi (fun r (_ : Unit) => r = 0) (fun _ t => tcB D A (tc_T cI cJ cD cC h0 h1 h2 h3 h4 ad wd rd (tc_Y cJ cD y0 y1 y2 y3 y4 y5 o1 o2 (vp_updL ov 0 (((rdW K Ln Wh j i 5).toInt32).toInt64)) od) n K Ln Wh Re (cdR K Ln j i (K j) 5) (noteC ct (cdR K Ln j i (K j) 5))) t) A) (fun _ _ _ => False) 0 0 A := by
  refine vx_ofWH (cc := cL_readInt) (maxL := 5) (ret := (some .int)) (hh := [(0, 10, 13, 21)]) (by decide) rfl ?_
  intro p e s m args below meth c s₁ B hml hv
  obtain ⟨rfl, ⟨hsz, hP, hK, hD, hE⟩, hNc⟩ := hv
  have hx := B.exec
  have hb := B.bytes
  have hr := B.returns
  have hts := atoms_spec (ws := wsL_readInt) B.pre
  have hown : s.vm.findClass RL = some m.cls := findClass_of_methodNamed B.named
  have hlocks := B.notSynchronized
  have hl := lv_entry ([.ref h0, .int (nI j), .int i, .ref o1]) (n := 5) (Nat.le_of_ble_eq_true rfl)
  rw [lg_entry_eq]
  generalize (lg_sl ([.ref h0, .int (nI j), .int i, .ref o1]) ++ List.replicate (5 - (lg_sl ([.ref h0, .int (nI j), .int i, .ref o1])).length) Slot.unset).toArray = ls at hl ⊢
  have hl : lv_has ls 5 [(0, .ref h0), (1, .int (nI j)), (2, .int i), (3, .ref o1)] := hl
  have htb := vx_table (x := yL_readInt) B (hts (.codeWith yL_readInt cL_readInt 5 (some .int) [(0, 10, 13, 21)]) (by unfold wsL_readInt; exact List.mem_cons_self))
  subst hsz
  have hS : va_S A s.heap s.heap [] := va_S.rf
  refine lv_aload_n hx hb dL_readInt_0 rfl (lv_at hl 3 rfl) ?_
  refine lv_iconst (v := 0) hx hb dL_readInt_1 (by decide) ?_
  refine lv_aload_n hx hb dL_readInt_2 rfl (lv_at hl 0 rfl) ?_
  refine lv_iload_n hx hb dL_readInt_3 rfl (lv_at hl 1 rfl) ?_
  refine lv_iload_n hx hb dL_readInt_4 rfl (lv_at hl 2 rfl) ?_
  refine va_calli (va_runV (As := [.int (nI j), .int i]) (rest := [.int 0, .ref o1]) ⟨hx, hb, hml, hown, hts⟩ (tX2_readInt l D A cI cJ cD cC h0 h1 h2 h3 h4 ad wd rd (tc_Y cJ cD y0 y1 y2 y3 y4 y5 o1 o2 ov od) n K Ln Wh Re cd ct s.heap.size hI j hj i) (cwV 2 hts gL_readInt_X2_readInt rfl rfl rfl (by decide +kernel) ⟨Nat.le_of_ble_eq_true rfl, Nat.le_of_ble_eq_true rfl⟩) ⟨tcP.blind, (va_recv hK hP (ci := 2) (q0 := 0) rfl rfl), (tcP.go hK hP hD hE hS)⟩ rfl rfl hl.1 rfl (lv_room (Nat.le_of_ble_eq_true rfl)) dL_readInt_5 ⟨Nat.le_of_ble_eq_true rfl, Nat.le_of_ble_eq_true rfl⟩) hS (fun q _ h => h) (fun q h => h) (fun r_1 u t H locs ht hvm hw hB hz1 hk1 hS => ?_)
  subst hw
  obtain ⟨hP, hD⟩ := hB
  rw [ht] at hP
  refine lv_i2l (v := ((rdW K Ln Wh j i 5).toInt32).toInt64) hx hb dL_readInt_8 rfl ?_
  refine va_last (f := ov) hx hb hK hP hD hS 11 1 rfl rfl (by unfold vp_in; decide) dL_readInt_9 (fun H locs hP hD hS => ?_)
  have hP : va_P D vwCl (tc_T cI cJ cD cC h0 h1 h2 h3 h4 ad wd rd (tc_Y cJ cD y0 y1 y2 y3 y4 y5 o1 o2 (vp_updL ov 0 (((rdW K Ln Wh j i 5).toInt32).toInt64)) od) n K Ln Wh Re (cdR K Ln j i (K j) 5) (noteC ct (cdR K Ln j i (K j) 5))) H := by exact hP
  have hD : va_D A (tc_T cI cJ cD cC h0 h1 h2 h3 h4 ad wd rd (tc_Y cJ cD y0 y1 y2 y3 y4 y5 o1 o2 (vp_updL ov 0 (((rdW K Ln Wh j i 5).toInt32).toInt64)) od) n K Ln Wh Re (cdR K Ln j i (K j) 5) (noteC ct (cdR K Ln j i (K j) 5))) := by exact hD
  refine lv_goto (tgt := 17) hx hb dL_readInt_10 (by decide) ?_
  refine lv_iconst (v := 0) hx hb dL_readInt_17 (by decide) ?_
  refine vx_ret ?_
  exact W.iret (v := 0) hx hb hr (fun t9 ht9 hW9 => ⟨⟨0, (), rfl, rfl, by rw [ht9]; exact hP, hD⟩, hS.F ht9⟩) hS.2.2 dL_readInt_18
set_option maxHeartbeats 4000000 in
set_option maxRecDepth 100000 in
theorem lL_readLong (l : Launch) (hfl : l.stackTraces = false) (D : va_G) (A : Nat → Prop) (cI cJ cD cC : ClassId) (h0 h1 h2 h3 h4 : Nat) (ad wd rd : Nat → Nat) (y0 y1 y2 y3 y4 y5 : Nat × va_E) (o1 o2 : Nat) (ov : Nat → Int64) (od : Nat → UInt64) (n : Nat) (K : Nat → Int32) (Ln : Nat → Nat) (Wh : Nat → Int64) (Re : Nat → UInt64) (cd : Int32) (ct : Nat → Int32) (sz : Nat) (hI : tcI n K Ln Wh Re) (j : Nat) (hj : j < n) (i : Int32) : vx_Met l yL_readLong wsL_readLong ({ frames := 5, cells := 0, slots := 0, locals := 111 }) (tcPL D A (tcTY cI cJ cD cC) sz [.ref h0, .int (nI j), .int i, .ref o1] (tc_T cI cJ cD cC h0 h1 h2 h3 h4 ad wd rd (tc_Y cJ cD y0 y1 y2 y3 y4 y5 o1 o2 ov od) n K Ln Wh Re cd ct)) (va_Qi (fun r (_ : Unit) => r = 0) (fun _ t => tcB D A (tc_T cI cJ cD cC h0 h1 h2 h3 h4 ad wd rd (tc_Y cJ cD y0 y1 y2 y3 y4 y5 o1 o2 (vp_updL ov 0 (rdW K Ln Wh j i 6)) od) n K Ln Wh Re (cdR K Ln j i (K j) 6) (noteC ct (cdR K Ln j i (K j) 6))) t) A) (fun _ _ _ => False) 0 0 A := by
  refine vx_ofWH (cc := cL_readLong) (maxL := 5) (ret := (some .int)) (hh := [(0, 9, 12, 21)]) (by decide) rfl ?_
  intro p e s m args below meth c s₁ B hml hv
  obtain ⟨rfl, ⟨hsz, hP, hK, hD, hE⟩, hNc⟩ := hv
  have hx := B.exec
  have hb := B.bytes
  have hr := B.returns
  have hts := atoms_spec (ws := wsL_readLong) B.pre
  have hown : s.vm.findClass RL = some m.cls := findClass_of_methodNamed B.named
  have hlocks := B.notSynchronized
  have hl := lv_entry ([.ref h0, .int (nI j), .int i, .ref o1]) (n := 5) (Nat.le_of_ble_eq_true rfl)
  rw [lg_entry_eq]
  generalize (lg_sl ([.ref h0, .int (nI j), .int i, .ref o1]) ++ List.replicate (5 - (lg_sl ([.ref h0, .int (nI j), .int i, .ref o1])).length) Slot.unset).toArray = ls at hl ⊢
  have hl : lv_has ls 5 [(0, .ref h0), (1, .int (nI j)), (2, .int i), (3, .ref o1)] := hl
  have htb := vx_table (x := yL_readLong) B (hts (.codeWith yL_readLong cL_readLong 5 (some .int) [(0, 9, 12, 21)]) (by unfold wsL_readLong; exact List.mem_cons_self))
  subst hsz
  have hS : va_S A s.heap s.heap [] := va_S.rf
  refine lv_aload_n hx hb dL_readLong_0 rfl (lv_at hl 3 rfl) ?_
  refine lv_iconst (v := 0) hx hb dL_readLong_1 (by decide) ?_
  refine lv_aload_n hx hb dL_readLong_2 rfl (lv_at hl 0 rfl) ?_
  refine lv_iload_n hx hb dL_readLong_3 rfl (lv_at hl 1 rfl) ?_
  refine lv_iload_n hx hb dL_readLong_4 rfl (lv_at hl 2 rfl) ?_
  refine va_calll (va_runV (As := [.int (nI j), .int i]) (rest := [.int 0, .ref o1]) ⟨hx, hb, hml, hown, hts⟩ (tX2_readLong l D A cI cJ cD cC h0 h1 h2 h3 h4 ad wd rd (tc_Y cJ cD y0 y1 y2 y3 y4 y5 o1 o2 ov od) n K Ln Wh Re cd ct s.heap.size hI j hj i) (cwV 2 hts gL_readLong_X2_readLong rfl rfl rfl (by decide +kernel) ⟨Nat.le_of_ble_eq_true rfl, Nat.le_of_ble_eq_true rfl⟩) ⟨tcP.blind, (va_recv hK hP (ci := 2) (q0 := 0) rfl rfl), (tcP.go hK hP hD hE hS)⟩ rfl rfl hl.1 rfl (lv_room (Nat.le_of_ble_eq_true rfl)) dL_readLong_5 ⟨Nat.le_of_ble_eq_true rfl, Nat.le_of_ble_eq_true rfl⟩) hS (fun q _ h => h) (fun q h => h) (fun r_1 u t H locs ht hvm hw hB hz1 hk1 hS => ?_)
  subst hw
  obtain ⟨hP, hD⟩ := hB
  rw [ht] at hP
  refine va_last (f := ov) hx hb hK hP hD hS 11 1 rfl rfl (by unfold vp_in; decide) dL_readLong_8 (fun H locs hP hD hS => ?_)
  have hP : va_P D vwCl (tc_T cI cJ cD cC h0 h1 h2 h3 h4 ad wd rd (tc_Y cJ cD y0 y1 y2 y3 y4 y5 o1 o2 (vp_updL ov 0 (rdW K Ln Wh j i 6)) od) n K Ln Wh Re (cdR K Ln j i (K j) 6) (noteC ct (cdR K Ln j i (K j) 6))) H := by exact hP
  have hD : va_D A (tc_T cI cJ cD cC h0 h1 h2 h3 h4 ad wd rd (tc_Y cJ cD y0 y1 y2 y3 y4 y5 o1 o2 (vp_updL ov 0 (rdW K Ln Wh j i 6)) od) n K Ln Wh Re (cdR K Ln j i (K j) 6) (noteC ct (cdR K Ln j i (K j) 6))) := by exact hD
  refine lv_goto (tgt := 16) hx hb dL_readLong_9 (by decide) ?_
  refine lv_iconst (v := 0) hx hb dL_readLong_16 (by decide) ?_
  refine vx_ret ?_
  exact W.iret (v := 0) hx hb hr (fun t9 ht9 hW9 => ⟨⟨0, (), rfl, rfl, by rw [ht9]; exact hP, hD⟩, hS.F ht9⟩) hS.2.2 dL_readLong_17
set_option maxHeartbeats 4000000 in
set_option maxRecDepth 100000 in
theorem lL_readFloat (l : Launch) (hfl : l.stackTraces = false) (D : va_G) (A : Nat → Prop) (cI cJ cD cC : ClassId) (h0 h1 h2 h3 h4 : Nat) (ad wd rd : Nat → Nat) (y0 y1 y2 y3 y4 y5 : Nat × va_E) (o1 o2 : Nat) (ov : Nat → Int64) (od : Nat → UInt64) (n : Nat) (K : Nat → Int32) (Ln : Nat → Nat) (Wh : Nat → Int64) (Re : Nat → UInt64) (cd : Int32) (ct : Nat → Int32) (sz : Nat) (hI : tcI n K Ln Wh Re) (j : Nat) (hj : j < n) (i : Int32) : vx_Met l yL_readFloat wsL_readFloat ({ frames := 4, cells := 0, slots := 0, locals := 89 }) (tcPL D A (tcTY cI cJ cD cC) sz [.ref h0, .int (nI j), .int i, .ref o2] (tc_T cI cJ cD cC h0 h1 h2 h3 h4 ad wd rd (tc_Y cJ cD y0 y1 y2 y3 y4 y5 o1 o2 ov od) n K Ln Wh Re cd ct)) (va_Qi (fun r (_ : Unit) => r = 0) (fun _ t => tcB D A (tc_T cI cJ cD cC h0 h1 h2 h3 h4 ad wd rd (tc_Y cJ cD y0 y1 y2 y3 y4 y5 o1 o2 ov (vf_upd od 0 (FP.f2d (rdF K Ln Wh Re j i)))) n K Ln Wh Re (cdR K Ln j i (K j) 7) (noteC ct (cdR K Ln j i (K j) 7))) t) A) (fun _ _ _ => False) 0 0 A := by
  refine vx_ofWH (cc := cL_readFloat) (maxL := 5) (ret := (some .int)) (hh := [(0, 10, 13, 21)]) (by decide) rfl ?_
  intro p e s m args below meth c s₁ B hml hv
  obtain ⟨rfl, ⟨hsz, hP, hK, hD, hE⟩, hNc⟩ := hv
  have hx := B.exec
  have hb := B.bytes
  have hr := B.returns
  have hts := atoms_spec (ws := wsL_readFloat) B.pre
  have hown : s.vm.findClass RL = some m.cls := findClass_of_methodNamed B.named
  have hlocks := B.notSynchronized
  have hl := lv_entry ([.ref h0, .int (nI j), .int i, .ref o2]) (n := 5) (Nat.le_of_ble_eq_true rfl)
  rw [lg_entry_eq]
  generalize (lg_sl ([.ref h0, .int (nI j), .int i, .ref o2]) ++ List.replicate (5 - (lg_sl ([.ref h0, .int (nI j), .int i, .ref o2])).length) Slot.unset).toArray = ls at hl ⊢
  have hl : lv_has ls 5 [(0, .ref h0), (1, .int (nI j)), (2, .int i), (3, .ref o2)] := hl
  have htb := vx_table (x := yL_readFloat) B (hts (.codeWith yL_readFloat cL_readFloat 5 (some .int) [(0, 10, 13, 21)]) (by unfold wsL_readFloat; exact List.mem_cons_self))
  subst hsz
  have hS : va_S A s.heap s.heap [] := va_S.rf
  refine lv_aload_n hx hb dL_readFloat_0 rfl (lv_at hl 3 rfl) ?_
  refine lv_iconst (v := 0) hx hb dL_readFloat_1 (by decide) ?_
  refine lv_aload_n hx hb dL_readFloat_2 rfl (lv_at hl 0 rfl) ?_
  refine lv_iload_n hx hb dL_readFloat_3 rfl (lv_at hl 1 rfl) ?_
  refine lv_iload_n hx hb dL_readFloat_4 rfl (lv_at hl 2 rfl) ?_
  refine va_callf (va_runV (As := [.int (nI j), .int i]) (rest := [.int 0, .ref o2]) ⟨hx, hb, hml, hown, hts⟩ (tX2_readFloat l D A cI cJ cD cC h0 h1 h2 h3 h4 ad wd rd (tc_Y cJ cD y0 y1 y2 y3 y4 y5 o1 o2 ov od) n K Ln Wh Re cd ct s.heap.size hI j hj i) (cwV 2 hts gL_readFloat_X2_readFloat rfl rfl rfl (by decide +kernel) ⟨Nat.le_of_ble_eq_true rfl, Nat.le_of_ble_eq_true rfl⟩) ⟨tcP.blind, (va_recv hK hP (ci := 2) (q0 := 0) rfl rfl), (tcP.go hK hP hD hE hS)⟩ rfl rfl hl.1 rfl (lv_room (Nat.le_of_ble_eq_true rfl)) dL_readFloat_5 ⟨Nat.le_of_ble_eq_true rfl, Nat.le_of_ble_eq_true rfl⟩) hS (fun q _ h => h) (fun q h => h) (fun r_1 u t H locs ht hvm hw hB hz1 hk1 hS => ?_)
  subst hw
  obtain ⟨hP, hD⟩ := hB
  rw [ht] at hP
  refine lv_f2d hx hb dL_readFloat_8 ((tf_n64 _).mpr (tf_f2d (rdF_nn hI hj i))) ?_
  refine va_dast (f := od) hx hb hK hP hD hS 12 2 rfl rfl (by unfold vp_in; decide) dL_readFloat_9 (fun H locs hP hD hS => ?_)
  have hP : va_P D vwCl (tc_T cI cJ cD cC h0 h1 h2 h3 h4 ad wd rd (tc_Y cJ cD y0 y1 y2 y3 y4 y5 o1 o2 ov (vf_upd od 0 (FP.f2d (rdF K Ln Wh Re j i)))) n K Ln Wh Re (cdR K Ln j i (K j) 7) (noteC ct (cdR K Ln j i (K j) 7))) H := by exact hP
  have hD : va_D A (tc_T cI cJ cD cC h0 h1 h2 h3 h4 ad wd rd (tc_Y cJ cD y0 y1 y2 y3 y4 y5 o1 o2 ov (vf_upd od 0 (FP.f2d (rdF K Ln Wh Re j i)))) n K Ln Wh Re (cdR K Ln j i (K j) 7) (noteC ct (cdR K Ln j i (K j) 7))) := by exact hD
  refine lv_goto (tgt := 17) hx hb dL_readFloat_10 (by decide) ?_
  refine lv_iconst (v := 0) hx hb dL_readFloat_17 (by decide) ?_
  refine vx_ret ?_
  exact W.iret (v := 0) hx hb hr (fun t9 ht9 hW9 => ⟨⟨0, (), rfl, rfl, by rw [ht9]; exact hP, hD⟩, hS.F ht9⟩) hS.2.2 dL_readFloat_18
set_option maxHeartbeats 4000000 in
set_option maxRecDepth 100000 in
theorem lL_readDouble (l : Launch) (hfl : l.stackTraces = false) (D : va_G) (A : Nat → Prop) (cI cJ cD cC : ClassId) (h0 h1 h2 h3 h4 : Nat) (ad wd rd : Nat → Nat) (y0 y1 y2 y3 y4 y5 : Nat × va_E) (o1 o2 : Nat) (ov : Nat → Int64) (od : Nat → UInt64) (n : Nat) (K : Nat → Int32) (Ln : Nat → Nat) (Wh : Nat → Int64) (Re : Nat → UInt64) (cd : Int32) (ct : Nat → Int32) (sz : Nat) (hI : tcI n K Ln Wh Re) (j : Nat) (hj : j < n) (i : Int32) : vx_Met l yL_readDouble wsL_readDouble ({ frames := 5, cells := 0, slots := 0, locals := 111 }) (tcPL D A (tcTY cI cJ cD cC) sz [.ref h0, .int (nI j), .int i, .ref o2] (tc_T cI cJ cD cC h0 h1 h2 h3 h4 ad wd rd (tc_Y cJ cD y0 y1 y2 y3 y4 y5 o1 o2 ov od) n K Ln Wh Re cd ct)) (va_Qi (fun r (_ : Unit) => r = 0) (fun _ t => tcB D A (tc_T cI cJ cD cC h0 h1 h2 h3 h4 ad wd rd (tc_Y cJ cD y0 y1 y2 y3 y4 y5 o1 o2 ov (vf_upd od 0 (rdR K Ln Wh Re j i 8))) n K Ln Wh Re (cdR K Ln j i (K j) 8) (noteC ct (cdR K Ln j i (K j) 8))) t) A) (fun _ _ _ => False) 0 0 A := by
  refine vx_ofWH (cc := cL_readDouble) (maxL := 5) (ret := (some .int)) (hh := [(0, 9, 12, 21)]) (by decide) rfl ?_
  intro p e s m args below meth c s₁ B hml hv
  obtain ⟨rfl, ⟨hsz, hP, hK, hD, hE⟩, hNc⟩ := hv
  have hx := B.exec
  have hb := B.bytes
  have hr := B.returns
  have hts := atoms_spec (ws := wsL_readDouble) B.pre
  have hown : s.vm.findClass RL = some m.cls := findClass_of_methodNamed B.named
  have hlocks := B.notSynchronized
  have hl := lv_entry ([.ref h0, .int (nI j), .int i, .ref o2]) (n := 5) (Nat.le_of_ble_eq_true rfl)
  rw [lg_entry_eq]
  generalize (lg_sl ([.ref h0, .int (nI j), .int i, .ref o2]) ++ List.replicate (5 - (lg_sl ([.ref h0, .int (nI j), .int i, .ref o2])).length) Slot.unset).toArray = ls at hl ⊢
  have hl : lv_has ls 5 [(0, .ref h0), (1, .int (nI j)), (2, .int i), (3, .ref o2)] := hl
  have htb := vx_table (x := yL_readDouble) B (hts (.codeWith yL_readDouble cL_readDouble 5 (some .int) [(0, 9, 12, 21)]) (by unfold wsL_readDouble; exact List.mem_cons_self))
  subst hsz
  have hS : va_S A s.heap s.heap [] := va_S.rf
  refine lv_aload_n hx hb dL_readDouble_0 rfl (lv_at hl 3 rfl) ?_
  refine lv_iconst (v := 0) hx hb dL_readDouble_1 (by decide) ?_
  refine lv_aload_n hx hb dL_readDouble_2 rfl (lv_at hl 0 rfl) ?_
  refine lv_iload_n hx hb dL_readDouble_3 rfl (lv_at hl 1 rfl) ?_
  refine lv_iload_n hx hb dL_readDouble_4 rfl (lv_at hl 2 rfl) ?_
  refine va_calld (va_runV (As := [.int (nI j), .int i]) (rest := [.int 0, .ref o2]) ⟨hx, hb, hml, hown, hts⟩ (tX2_readDouble l D A cI cJ cD cC h0 h1 h2 h3 h4 ad wd rd (tc_Y cJ cD y0 y1 y2 y3 y4 y5 o1 o2 ov od) n K Ln Wh Re cd ct s.heap.size hI j hj i) (cwV 2 hts gL_readDouble_X2_readDouble rfl rfl rfl (by decide +kernel) ⟨Nat.le_of_ble_eq_true rfl, Nat.le_of_ble_eq_true rfl⟩) ⟨tcP.blind, (va_recv hK hP (ci := 2) (q0 := 0) rfl rfl), (tcP.go hK hP hD hE hS)⟩ rfl rfl hl.1 rfl (lv_room (Nat.le_of_ble_eq_true rfl)) dL_readDouble_5 ⟨Nat.le_of_ble_eq_true rfl, Nat.le_of_ble_eq_true rfl⟩) hS (fun q _ h => h) (fun q h => h) (fun r_1 u t H locs ht hvm hw hB hz1 hk1 hS => ?_)
  subst hw
  obtain ⟨hP, hD⟩ := hB
  rw [ht] at hP
  refine va_dast (f := od) hx hb hK hP hD hS 12 2 rfl rfl (by unfold vp_in; decide) dL_readDouble_8 (fun H locs hP hD hS => ?_)
  have hP : va_P D vwCl (tc_T cI cJ cD cC h0 h1 h2 h3 h4 ad wd rd (tc_Y cJ cD y0 y1 y2 y3 y4 y5 o1 o2 ov (vf_upd od 0 (rdR K Ln Wh Re j i 8))) n K Ln Wh Re (cdR K Ln j i (K j) 8) (noteC ct (cdR K Ln j i (K j) 8))) H := by exact hP
  have hD : va_D A (tc_T cI cJ cD cC h0 h1 h2 h3 h4 ad wd rd (tc_Y cJ cD y0 y1 y2 y3 y4 y5 o1 o2 ov (vf_upd od 0 (rdR K Ln Wh Re j i 8))) n K Ln Wh Re (cdR K Ln j i (K j) 8) (noteC ct (cdR K Ln j i (K j) 8))) := by exact hD
  refine lv_goto (tgt := 16) hx hb dL_readDouble_9 (by decide) ?_
  refine lv_iconst (v := 0) hx hb dL_readDouble_16 (by decide) ?_
  refine vx_ret ?_
  exact W.iret (v := 0) hx hb hr (fun t9 ht9 hW9 => ⟨⟨0, (), rfl, rfl, by rw [ht9]; exact hP, hD⟩, hS.F ht9⟩) hS.2.2 dL_readDouble_17
set_option maxHeartbeats 4000000 in
set_option maxRecDepth 100000 in
theorem lL_readAny (l : Launch) (hfl : l.stackTraces = false) (D : va_G) (A : Nat → Prop) (cI cJ cD cC : ClassId) (h0 h1 h2 h3 h4 : Nat) (ad wd rd : Nat → Nat) (y0 y1 y2 y3 y4 y5 : Nat × va_E) (o1 o2 : Nat) (ov : Nat → Int64) (od : Nat → UInt64) (n : Nat) (K : Nat → Int32) (Ln : Nat → Nat) (Wh : Nat → Int64) (Re : Nat → UInt64) (cd : Int32) (ct : Nat → Int32) (sz : Nat) (hI : tcI n K Ln Wh Re) (j : Nat) (hj : j < n) (i : Int32) : vx_Met l yL_readAny wsL_readAny ({ frames := 5, cells := 0, slots := 0, locals := 112 }) (tcPL D A (tcTY cI cJ cD cC) sz [.ref h0, .int (nI j), .int i, .ref o2] (tc_T cI cJ cD cC h0 h1 h2 h3 h4 ad wd rd (tc_Y cJ cD y0 y1 y2 y3 y4 y5 o1 o2 ov od) n K Ln Wh Re cd ct)) (va_Qi (fun r (_ : Unit) => r = 0) (fun _ t => tcB D A (tc_T cI cJ cD cC h0 h1 h2 h3 h4 ad wd rd (tc_Y cJ cD y0 y1 y2 y3 y4 y5 o1 o2 ov (vf_upd od 0 (rdR K Ln Wh Re j i (K j)))) n K Ln Wh Re (cdR K Ln j i (K j) (K j)) (noteC ct (cdR K Ln j i (K j) (K j)))) t) A) (fun _ _ _ => False) 0 0 A := by
  refine vx_ofWH (cc := cL_readAny) (maxL := 5) (ret := (some .int)) (hh := [(0, 9, 12, 21)]) (by decide) rfl ?_
  intro p e s m args below meth c s₁ B hml hv
  obtain ⟨rfl, ⟨hsz, hP, hK, hD, hE⟩, hNc⟩ := hv
  have hx := B.exec
  have hb := B.bytes
  have hr := B.returns
  have hts := atoms_spec (ws := wsL_readAny) B.pre
  have hown : s.vm.findClass RL = some m.cls := findClass_of_methodNamed B.named
  have hlocks := B.notSynchronized
  have hl := lv_entry ([.ref h0, .int (nI j), .int i, .ref o2]) (n := 5) (Nat.le_of_ble_eq_true rfl)
  rw [lg_entry_eq]
  generalize (lg_sl ([.ref h0, .int (nI j), .int i, .ref o2]) ++ List.replicate (5 - (lg_sl ([.ref h0, .int (nI j), .int i, .ref o2])).length) Slot.unset).toArray = ls at hl ⊢
  have hl : lv_has ls 5 [(0, .ref h0), (1, .int (nI j)), (2, .int i), (3, .ref o2)] := hl
  have htb := vx_table (x := yL_readAny) B (hts (.codeWith yL_readAny cL_readAny 5 (some .int) [(0, 9, 12, 21)]) (by unfold wsL_readAny; exact List.mem_cons_self))
  subst hsz
  have hS : va_S A s.heap s.heap [] := va_S.rf
  refine lv_aload_n hx hb dL_readAny_0 rfl (lv_at hl 3 rfl) ?_
  refine lv_iconst (v := 0) hx hb dL_readAny_1 (by decide) ?_
  refine lv_aload_n hx hb dL_readAny_2 rfl (lv_at hl 0 rfl) ?_
  refine lv_iload_n hx hb dL_readAny_3 rfl (lv_at hl 1 rfl) ?_
  refine lv_iload_n hx hb dL_readAny_4 rfl (lv_at hl 2 rfl) ?_
  refine va_calld (va_runV (As := [.int (nI j), .int i]) (rest := [.int 0, .ref o2]) ⟨hx, hb, hml, hown, hts⟩ (tX2_readAny l D A cI cJ cD cC h0 h1 h2 h3 h4 ad wd rd (tc_Y cJ cD y0 y1 y2 y3 y4 y5 o1 o2 ov od) n K Ln Wh Re cd ct s.heap.size hI j hj i) (cwV 2 hts gL_readAny_X2_readAny rfl rfl rfl (by decide +kernel) ⟨Nat.le_of_ble_eq_true rfl, Nat.le_of_ble_eq_true rfl⟩) ⟨tcP.blind, (va_recv hK hP (ci := 2) (q0 := 0) rfl rfl), (tcP.go hK hP hD hE hS)⟩ rfl rfl hl.1 rfl (lv_room (Nat.le_of_ble_eq_true rfl)) dL_readAny_5 ⟨Nat.le_of_ble_eq_true rfl, Nat.le_of_ble_eq_true rfl⟩) hS (fun q _ h => h) (fun q h => h) (fun r_1 u t H locs ht hvm hw hB hz1 hk1 hS => ?_)
  subst hw
  obtain ⟨hP, hD⟩ := hB
  rw [ht] at hP
  refine va_dast (f := od) hx hb hK hP hD hS 12 2 rfl rfl (by unfold vp_in; decide) dL_readAny_8 (fun H locs hP hD hS => ?_)
  have hP : va_P D vwCl (tc_T cI cJ cD cC h0 h1 h2 h3 h4 ad wd rd (tc_Y cJ cD y0 y1 y2 y3 y4 y5 o1 o2 ov (vf_upd od 0 (rdR K Ln Wh Re j i (K j)))) n K Ln Wh Re (cdR K Ln j i (K j) (K j)) (noteC ct (cdR K Ln j i (K j) (K j)))) H := by exact hP
  have hD : va_D A (tc_T cI cJ cD cC h0 h1 h2 h3 h4 ad wd rd (tc_Y cJ cD y0 y1 y2 y3 y4 y5 o1 o2 ov (vf_upd od 0 (rdR K Ln Wh Re j i (K j)))) n K Ln Wh Re (cdR K Ln j i (K j) (K j)) (noteC ct (cdR K Ln j i (K j) (K j)))) := by exact hD
  refine lv_goto (tgt := 16) hx hb dL_readAny_9 (by decide) ?_
  refine lv_iconst (v := 0) hx hb dL_readAny_16 (by decide) ?_
  refine vx_ret ?_
  exact W.iret (v := 0) hx hb hr (fun t9 ht9 hW9 => ⟨⟨0, (), rfl, rfl, by rw [ht9]; exact hP, hD⟩, hS.F ht9⟩) hS.2.2 dL_readAny_17
set_option maxHeartbeats 4000000 in
set_option maxRecDepth 100000 in
theorem lL_writeBoolean (l : Launch) (hfl : l.stackTraces = false) (D : va_G) (A : Nat → Prop) (cI cJ cD cC : ClassId) (h0 h1 h2 h3 h4 : Nat) (ad wd rd : Nat → Nat) (y0 y1 y2 y3 y4 y5 : Nat × va_E) (o1 o2 : Nat) (ov : Nat → Int64) (od : Nat → UInt64) (n : Nat) (K : Nat → Int32) (Ln : Nat → Nat) (Wh : Nat → Int64) (Re : Nat → UInt64) (cd : Int32) (ct : Nat → Int32) (sz : Nat) (hI : tcI n K Ln Wh Re) (j : Nat) (hj : j < n) (i : Int32) (v : Int32) : vx_Met l yL_writeBoolean wsL_writeBoolean ({ frames := 5, cells := 0, slots := 0, locals := 114 }) (tcPL D A (tcTY cI cJ cD cC) sz [.ref h0, .int (nI j), .int i, .int v, .ref o1] (tc_T cI cJ cD cC h0 h1 h2 h3 h4 ad wd rd (tc_Y cJ cD y0 y1 y2 y3 y4 y5 o1 o2 ov od) n K Ln Wh Re cd ct)) (va_Qi (fun r (_ : Unit) => r = 0) (fun _ t => tcB D A (tc_T cI cJ cD cC h0 h1 h2 h3 h4 ad wd rd (tc_Y cJ cD y0 y1 y2 y3 y4 y5 o1 o2 (vp_updL ov 0 ((cdR K Ln j i 1 (K j)).toInt64)) od) n K Ln (wrW K Ln Wh j i 1 (kMade v 1)) (wrR K Ln Re j i 1 (kMade v 1)) (cdR K Ln j i 1 (K j)) (noteC ct (cdR K Ln j i 1 (K j)))) t) A) (fun _ _ _ => False) 0 0 A := by
  refine vx_ofWH (cc := cL_writeBoolean) (maxL := 6) (ret := (some .int)) (hh := [(0, 12, 15, 21)]) (by decide) rfl ?_
  intro p e s m args below meth c s₁ B hml hv
  obtain ⟨rfl, ⟨hsz, hP, hK, hD, hE⟩, hNc⟩ := hv
  have hx := B.exec
  have hb := B.bytes
  have hr := B.returns
  have hts := atoms_spec (ws := wsL_writeBoolean) B.pre
  have hown : s.vm.findClass RL = some m.cls := findClass_of_methodNamed B.named
  have hlocks := B.notSynchronized
  have hl := lv_entry ([.ref h0, .int (nI j), .int i, .int v, .ref o1]) (n := 6) (Nat.le_of_ble_eq_true rfl)
  rw [lg_entry_eq]
  generalize (lg_sl ([.ref h0, .int (nI j), .int i, .int v, .ref o1]) ++ List.replicate (6 - (lg_sl ([.ref h0, .int (nI j), .int i, .int v, .ref o1])).length) Slot.unset).toArray = ls at hl ⊢
  have hl : lv_has ls 6 [(0, .ref h0), (1, .int (nI j)), (2, .int i), (3, .int v), (4, .ref o1)] := hl
  have htb := vx_table (x := yL_writeBoolean) B (hts (.codeWith yL_writeBoolean cL_writeBoolean 6 (some .int) [(0, 12, 15, 21)]) (by unfold wsL_writeBoolean; exact List.mem_cons_self))
  subst hsz
  have hS : va_S A s.heap s.heap [] := va_S.rf
  refine lv_aload hx hb dL_writeBoolean_0 (lv_at hl 4 rfl) ?_
  refine lv_iconst (v := 0) hx hb dL_writeBoolean_2 (by decide) ?_
  refine lv_aload_n hx hb dL_writeBoolean_3 rfl (lv_at hl 0 rfl) ?_
  refine lv_iload_n hx hb dL_writeBoolean_4 rfl (lv_at hl 1 rfl) ?_
  refine lv_iload_n hx hb dL_writeBoolean_5 rfl (lv_at hl 2 rfl) ?_
  refine lv_iload_n hx hb dL_writeBoolean_6 rfl (lv_at hl 3 rfl) ?_
  refine va_calli (va_runV (As := [.int (nI j), .int i, .int v]) (rest := [.int 0, .ref o1]) ⟨hx, hb, hml, hown, hts⟩ (tX2_writeBoolean l D A cI cJ cD cC h0 h1 h2 h3 h4 ad wd rd (tc_Y cJ cD y0 y1 y2 y3 y4 y5 o1 o2 ov od) n K Ln Wh Re cd ct s.heap.size hI j hj i v) (cwV 3 hts gL_writeBoolean_X2_writeBoolean rfl rfl rfl (by decide +kernel) ⟨Nat.le_of_ble_eq_true rfl, Nat.le_of_ble_eq_true rfl⟩) ⟨tcP.blind, (va_recv hK hP (ci := 2) (q0 := 0) rfl rfl), (tcP.go hK hP hD hE hS)⟩ rfl rfl hl.1 rfl (lv_room (Nat.le_of_ble_eq_true rfl)) dL_writeBoolean_7 ⟨Nat.le_of_ble_eq_true rfl, Nat.le_of_ble_eq_true rfl⟩) hS (fun q _ h => h) (fun q h => h) (fun r_1 u t H locs ht hvm hw hB hz1 hk1 hS => ?_)
  subst hw
  obtain ⟨hP, hD⟩ := hB
  rw [ht] at hP
  refine lv_i2l (v := (cdR K Ln j i 1 (K j)).toInt64) hx hb dL_writeBoolean_10 rfl ?_
  refine va_last (f := ov) hx hb hK hP hD hS 11 1 rfl rfl (by unfold vp_in; decide) dL_writeBoolean_11 (fun H locs hP hD hS => ?_)
  have hP : va_P D vwCl (tc_T cI cJ cD cC h0 h1 h2 h3 h4 ad wd rd (tc_Y cJ cD y0 y1 y2 y3 y4 y5 o1 o2 (vp_updL ov 0 ((cdR K Ln j i 1 (K j)).toInt64)) od) n K Ln (wrW K Ln Wh j i 1 (kMade v 1)) (wrR K Ln Re j i 1 (kMade v 1)) (cdR K Ln j i 1 (K j)) (noteC ct (cdR K Ln j i 1 (K j)))) H := by exact hP
  have hD : va_D A (tc_T cI cJ cD cC h0 h1 h2 h3 h4 ad wd rd (tc_Y cJ cD y0 y1 y2 y3 y4 y5 o1 o2 (vp_updL ov 0 ((cdR K Ln j i 1 (K j)).toInt64)) od) n K Ln (wrW K Ln Wh j i 1 (kMade v 1)) (wrR K Ln Re j i 1 (kMade v 1)) (cdR K Ln j i 1 (K j)) (noteC ct (cdR K Ln j i 1 (K j)))) := by exact hD
  refine lv_goto (tgt := 19) hx hb dL_writeBoolean_12 (by decide) ?_
  refine lv_iconst (v := 0) hx hb dL_writeBoolean_19 (by decide) ?_
  refine vx_ret ?_
  exact W.iret (v := 0) hx hb hr (fun t9 ht9 hW9 => ⟨⟨0, (), rfl, rfl, by rw [ht9]; exact hP, hD⟩, hS.F ht9⟩) hS.2.2 dL_writeBoolean_20
set_option maxHeartbeats 4000000 in
set_option maxRecDepth 100000 in
theorem lL_writeByte (l : Launch) (hfl : l.stackTraces = false) (D : va_G) (A : Nat → Prop) (cI cJ cD cC : ClassId) (h0 h1 h2 h3 h4 : Nat) (ad wd rd : Nat → Nat) (y0 y1 y2 y3 y4 y5 : Nat × va_E) (o1 o2 : Nat) (ov : Nat → Int64) (od : Nat → UInt64) (n : Nat) (K : Nat → Int32) (Ln : Nat → Nat) (Wh : Nat → Int64) (Re : Nat → UInt64) (cd : Int32) (ct : Nat → Int32) (sz : Nat) (hI : tcI n K Ln Wh Re) (j : Nat) (hj : j < n) (i : Int32) (v : Int32) : vx_Met l yL_writeByte wsL_writeByte ({ frames := 5, cells := 0, slots := 0, locals := 114 }) (tcPL D A (tcTY cI cJ cD cC) sz [.ref h0, .int (nI j), .int i, .int v, .ref o1] (tc_T cI cJ cD cC h0 h1 h2 h3 h4 ad wd rd (tc_Y cJ cD y0 y1 y2 y3 y4 y5 o1 o2 ov od) n K Ln Wh Re cd ct)) (va_Qi (fun r (_ : Unit) => r = 0) (fun _ t => tcB D A (tc_T cI cJ cD cC h0 h1 h2 h3 h4 ad wd rd (tc_Y cJ cD y0 y1 y2 y3 y4 y5 o1 o2 (vp_updL ov 0 ((cdR K Ln j i 2 (K j)).toInt64)) od) n K Ln (wrW K Ln Wh j i 2 (v.toInt8.toInt32.toInt64)) (wrR K Ln Re j i 2 (v.toInt8.toInt32.toInt64)) (cdR K Ln j i 2 (K j)) (noteC ct (cdR K Ln j i 2 (K j)))) t) A) (fun _ _ _ => False) 0 0 A := by
  refine vx_ofWH (cc := cL_writeByte) (maxL := 6) (ret := (some .int)) (hh := [(0, 12, 15, 21)]) (by decide) rfl ?_
  intro p e s m args below meth c s₁ B hml hv
  obtain ⟨rfl, ⟨hsz, hP, hK, hD, hE⟩, hNc⟩ := hv
  have hx := B.exec
  have hb := B.bytes
  have hr := B.returns
  have hts := atoms_spec (ws := wsL_writeByte) B.pre
  have hown : s.vm.findClass RL = some m.cls := findClass_of_methodNamed B.named
  have hlocks := B.notSynchronized
  have hl := lv_entry ([.ref h0, .int (nI j), .int i, .int v, .ref o1]) (n := 6) (Nat.le_of_ble_eq_true rfl)
  rw [lg_entry_eq]
  generalize (lg_sl ([.ref h0, .int (nI j), .int i, .int v, .ref o1]) ++ List.replicate (6 - (lg_sl ([.ref h0, .int (nI j), .int i, .int v, .ref o1])).length) Slot.unset).toArray = ls at hl ⊢
  have hl : lv_has ls 6 [(0, .ref h0), (1, .int (nI j)), (2, .int i), (3, .int v), (4, .ref o1)] := hl
  have htb := vx_table (x := yL_writeByte) B (hts (.codeWith yL_writeByte cL_writeByte 6 (some .int) [(0, 12, 15, 21)]) (by unfold wsL_writeByte; exact List.mem_cons_self))
  subst hsz
  have hS : va_S A s.heap s.heap [] := va_S.rf
  refine lv_aload hx hb dL_writeByte_0 (lv_at hl 4 rfl) ?_
  refine lv_iconst (v := 0) hx hb dL_writeByte_2 (by decide) ?_
  refine lv_aload_n hx hb dL_writeByte_3 rfl (lv_at hl 0 rfl) ?_
  refine lv_iload_n hx hb dL_writeByte_4 rfl (lv_at hl 1 rfl) ?_
  refine lv_iload_n hx hb dL_writeByte_5 rfl (lv_at hl 2 rfl) ?_
  refine lv_iload_n hx hb dL_writeByte_6 rfl (lv_at hl 3 rfl) ?_
  refine va_calli (va_runV (As := [.int (nI j), .int i, .int v]) (rest := [.int 0, .ref o1]) ⟨hx, hb, hml, hown, hts⟩ (tX2_writeByte l D A cI cJ cD cC h0 h1 h2 h3 h4 ad wd rd (tc_Y cJ cD y0 y1 y2 y3 y4 y5 o1 o2 ov od) n K Ln Wh Re cd ct s.heap.size hI j hj i v) (cwV 3 hts gL_writeByte_X2_writeByte rfl rfl rfl (by decide +kernel) ⟨Nat.le_of_ble_eq_true rfl, Nat.le_of_ble_eq_true rfl⟩) ⟨tcP.blind, (va_recv hK hP (ci := 2) (q0 := 0) rfl rfl), (tcP.go hK hP hD hE hS)⟩ rfl rfl hl.1 rfl (lv_room (Nat.le_of_ble_eq_true rfl)) dL_writeByte_7 ⟨Nat.le_of_ble_eq_true rfl, Nat.le_of_ble_eq_true rfl⟩) hS (fun q _ h => h) (fun q h => h) (fun r_1 u t H locs ht hvm hw hB hz1 hk1 hS => ?_)
  subst hw
  obtain ⟨hP, hD⟩ := hB
  rw [ht] at hP
  refine lv_i2l (v := (cdR K Ln j i 2 (K j)).toInt64) hx hb dL_writeByte_10 rfl ?_
  refine va_last (f := ov) hx hb hK hP hD hS 11 1 rfl rfl (by unfold vp_in; decide) dL_writeByte_11 (fun H locs hP hD hS => ?_)
  have hP : va_P D vwCl (tc_T cI cJ cD cC h0 h1 h2 h3 h4 ad wd rd (tc_Y cJ cD y0 y1 y2 y3 y4 y5 o1 o2 (vp_updL ov 0 ((cdR K Ln j i 2 (K j)).toInt64)) od) n K Ln (wrW K Ln Wh j i 2 (v.toInt8.toInt32.toInt64)) (wrR K Ln Re j i 2 (v.toInt8.toInt32.toInt64)) (cdR K Ln j i 2 (K j)) (noteC ct (cdR K Ln j i 2 (K j)))) H := by exact hP
  have hD : va_D A (tc_T cI cJ cD cC h0 h1 h2 h3 h4 ad wd rd (tc_Y cJ cD y0 y1 y2 y3 y4 y5 o1 o2 (vp_updL ov 0 ((cdR K Ln j i 2 (K j)).toInt64)) od) n K Ln (wrW K Ln Wh j i 2 (v.toInt8.toInt32.toInt64)) (wrR K Ln Re j i 2 (v.toInt8.toInt32.toInt64)) (cdR K Ln j i 2 (K j)) (noteC ct (cdR K Ln j i 2 (K j)))) := by exact hD
  refine lv_goto (tgt := 19) hx hb dL_writeByte_12 (by decide) ?_
  refine lv_iconst (v := 0) hx hb dL_writeByte_19 (by decide) ?_
  refine vx_ret ?_
  exact W.iret (v := 0) hx hb hr (fun t9 ht9 hW9 => ⟨⟨0, (), rfl, rfl, by rw [ht9]; exact hP, hD⟩, hS.F ht9⟩) hS.2.2 dL_writeByte_20
set_option maxHeartbeats 4000000 in
set_option maxRecDepth 100000 in
theorem lL_writeChar (l : Launch) (hfl : l.stackTraces = false) (D : va_G) (A : Nat → Prop) (cI cJ cD cC : ClassId) (h0 h1 h2 h3 h4 : Nat) (ad wd rd : Nat → Nat) (y0 y1 y2 y3 y4 y5 : Nat × va_E) (o1 o2 : Nat) (ov : Nat → Int64) (od : Nat → UInt64) (n : Nat) (K : Nat → Int32) (Ln : Nat → Nat) (Wh : Nat → Int64) (Re : Nat → UInt64) (cd : Int32) (ct : Nat → Int32) (sz : Nat) (hI : tcI n K Ln Wh Re) (j : Nat) (hj : j < n) (i : Int32) (v : Int32) : vx_Met l yL_writeChar wsL_writeChar ({ frames := 5, cells := 0, slots := 0, locals := 114 }) (tcPL D A (tcTY cI cJ cD cC) sz [.ref h0, .int (nI j), .int i, .int v, .ref o1] (tc_T cI cJ cD cC h0 h1 h2 h3 h4 ad wd rd (tc_Y cJ cD y0 y1 y2 y3 y4 y5 o1 o2 ov od) n K Ln Wh Re cd ct)) (va_Qi (fun r (_ : Unit) => r = 0) (fun _ t => tcB D A (tc_T cI cJ cD cC h0 h1 h2 h3 h4 ad wd rd (tc_Y cJ cD y0 y1 y2 y3 y4 y5 o1 o2 (vp_updL ov 0 ((cdR K Ln j i 3 (K j)).toInt64)) od) n K Ln (wrW K Ln Wh j i 3 ((v.toUInt32 % 65536).toInt32.toInt64)) (wrR K Ln Re j i 3 ((v.toUInt32 % 65536).toInt32.toInt64)) (cdR K Ln j i 3 (K j)) (noteC ct (cdR K Ln j i 3 (K j)))) t) A) (fun _ _ _ => False) 0 0 A := by
  refine vx_ofWH (cc := cL_writeChar) (maxL := 6) (ret := (some .int)) (hh := [(0, 12, 15, 21)]) (by decide) rfl ?_
  intro p e s m args below meth c s₁ B hml hv
  obtain ⟨rfl, ⟨hsz, hP, hK, hD, hE⟩, hNc⟩ := hv
  have hx := B.exec
  have hb := B.bytes
  have hr := B.returns
  have hts := atoms_spec (ws := wsL_writeChar) B.pre
  have hown : s.vm.findClass RL = some m.cls := findClass_of_methodNamed B.named
  have hlocks := B.notSynchronized
  have hl := lv_entry ([.ref h0, .int (nI j), .int i, .int v, .ref o1]) (n := 6) (Nat.le_of_ble_eq_true rfl)
  rw [lg_entry_eq]
  generalize (lg_sl ([.ref h0, .int (nI j), .int i, .int v, .ref o1]) ++ List.replicate (6 - (lg_sl ([.ref h0, .int (nI j), .int i, .int v, .ref o1])).length) Slot.unset).toArray = ls at hl ⊢
  have hl : lv_has ls 6 [(0, .ref h0), (1, .int (nI j)), (2, .int i), (3, .int v), (4, .ref o1)] := hl
  have htb := vx_table (x := yL_writeChar) B (hts (.codeWith yL_writeChar cL_writeChar 6 (some .int) [(0, 12, 15, 21)]) (by unfold wsL_writeChar; exact List.mem_cons_self))
  subst hsz
  have hS : va_S A s.heap s.heap [] := va_S.rf
  refine lv_aload hx hb dL_writeChar_0 (lv_at hl 4 rfl) ?_
  refine lv_iconst (v := 0) hx hb dL_writeChar_2 (by decide) ?_
  refine lv_aload_n hx hb dL_writeChar_3 rfl (lv_at hl 0 rfl) ?_
  refine lv_iload_n hx hb dL_writeChar_4 rfl (lv_at hl 1 rfl) ?_
  refine lv_iload_n hx hb dL_writeChar_5 rfl (lv_at hl 2 rfl) ?_
  refine lv_iload_n hx hb dL_writeChar_6 rfl (lv_at hl 3 rfl) ?_
  refine va_calli (va_runV (As := [.int (nI j), .int i, .int v]) (rest := [.int 0, .ref o1]) ⟨hx, hb, hml, hown, hts⟩ (tX2_writeChar l D A cI cJ cD cC h0 h1 h2 h3 h4 ad wd rd (tc_Y cJ cD y0 y1 y2 y3 y4 y5 o1 o2 ov od) n K Ln Wh Re cd ct s.heap.size hI j hj i v) (cwV 3 hts gL_writeChar_X2_writeChar rfl rfl rfl (by decide +kernel) ⟨Nat.le_of_ble_eq_true rfl, Nat.le_of_ble_eq_true rfl⟩) ⟨tcP.blind, (va_recv hK hP (ci := 2) (q0 := 0) rfl rfl), (tcP.go hK hP hD hE hS)⟩ rfl rfl hl.1 rfl (lv_room (Nat.le_of_ble_eq_true rfl)) dL_writeChar_7 ⟨Nat.le_of_ble_eq_true rfl, Nat.le_of_ble_eq_true rfl⟩) hS (fun q _ h => h) (fun q h => h) (fun r_1 u t H locs ht hvm hw hB hz1 hk1 hS => ?_)
  subst hw
  obtain ⟨hP, hD⟩ := hB
  rw [ht] at hP
  refine lv_i2l (v := (cdR K Ln j i 3 (K j)).toInt64) hx hb dL_writeChar_10 rfl ?_
  refine va_last (f := ov) hx hb hK hP hD hS 11 1 rfl rfl (by unfold vp_in; decide) dL_writeChar_11 (fun H locs hP hD hS => ?_)
  have hP : va_P D vwCl (tc_T cI cJ cD cC h0 h1 h2 h3 h4 ad wd rd (tc_Y cJ cD y0 y1 y2 y3 y4 y5 o1 o2 (vp_updL ov 0 ((cdR K Ln j i 3 (K j)).toInt64)) od) n K Ln (wrW K Ln Wh j i 3 ((v.toUInt32 % 65536).toInt32.toInt64)) (wrR K Ln Re j i 3 ((v.toUInt32 % 65536).toInt32.toInt64)) (cdR K Ln j i 3 (K j)) (noteC ct (cdR K Ln j i 3 (K j)))) H := by exact hP
  have hD : va_D A (tc_T cI cJ cD cC h0 h1 h2 h3 h4 ad wd rd (tc_Y cJ cD y0 y1 y2 y3 y4 y5 o1 o2 (vp_updL ov 0 ((cdR K Ln j i 3 (K j)).toInt64)) od) n K Ln (wrW K Ln Wh j i 3 ((v.toUInt32 % 65536).toInt32.toInt64)) (wrR K Ln Re j i 3 ((v.toUInt32 % 65536).toInt32.toInt64)) (cdR K Ln j i 3 (K j)) (noteC ct (cdR K Ln j i 3 (K j)))) := by exact hD
  refine lv_goto (tgt := 19) hx hb dL_writeChar_12 (by decide) ?_
  refine lv_iconst (v := 0) hx hb dL_writeChar_19 (by decide) ?_
  refine vx_ret ?_
  exact W.iret (v := 0) hx hb hr (fun t9 ht9 hW9 => ⟨⟨0, (), rfl, rfl, by rw [ht9]; exact hP, hD⟩, hS.F ht9⟩) hS.2.2 dL_writeChar_20
set_option maxHeartbeats 4000000 in
set_option maxRecDepth 100000 in
theorem lL_writeShort (l : Launch) (hfl : l.stackTraces = false) (D : va_G) (A : Nat → Prop) (cI cJ cD cC : ClassId) (h0 h1 h2 h3 h4 : Nat) (ad wd rd : Nat → Nat) (y0 y1 y2 y3 y4 y5 : Nat × va_E) (o1 o2 : Nat) (ov : Nat → Int64) (od : Nat → UInt64) (n : Nat) (K : Nat → Int32) (Ln : Nat → Nat) (Wh : Nat → Int64) (Re : Nat → UInt64) (cd : Int32) (ct : Nat → Int32) (sz : Nat) (hI : tcI n K Ln Wh Re) (j : Nat) (hj : j < n) (i : Int32) (v : Int32) : vx_Met l yL_writeShort wsL_writeShort ({ frames := 5, cells := 0, slots := 0, locals := 114 }) (tcPL D A (tcTY cI cJ cD cC) sz [.ref h0, .int (nI j), .int i, .int v, .ref o1] (tc_T cI cJ cD cC h0 h1 h2 h3 h4 ad wd rd (tc_Y cJ cD y0 y1 y2 y3 y4 y5 o1 o2 ov od) n K Ln Wh Re cd ct)) (va_Qi (fun r (_ : Unit) => r = 0) (fun _ t => tcB D A (tc_T cI cJ cD cC h0 h1 h2 h3 h4 ad wd rd (tc_Y cJ cD y0 y1 y2 y3 y4 y5 o1 o2 (vp_updL ov 0 ((cdR K Ln j i 4 (K j)).toInt64)) od) n K Ln (wrW K Ln Wh j i 4 (v.toInt16.toInt32.toInt64)) (wrR K Ln Re j i 4 (v.toInt16.toInt32.toInt64)) (cdR K Ln j i 4 (K j)) (noteC ct (cdR K Ln j i 4 (K j)))) t) A) (fun _ _ _ => False) 0 0 A := by
  refine vx_ofWH (cc := cL_writeShort) (maxL := 6) (ret := (some .int)) (hh := [(0, 12, 15, 21)]) (by decide) rfl ?_
  intro p e s m args below meth c s₁ B hml hv
  obtain ⟨rfl, ⟨hsz, hP, hK, hD, hE⟩, hNc⟩ := hv
  have hx := B.exec
  have hb := B.bytes
  have hr := B.returns
  have hts := atoms_spec (ws := wsL_writeShort) B.pre
  have hown : s.vm.findClass RL = some m.cls := findClass_of_methodNamed B.named
  have hlocks := B.notSynchronized
  have hl := lv_entry ([.ref h0, .int (nI j), .int i, .int v, .ref o1]) (n := 6) (Nat.le_of_ble_eq_true rfl)
  rw [lg_entry_eq]
  generalize (lg_sl ([.ref h0, .int (nI j), .int i, .int v, .ref o1]) ++ List.replicate (6 - (lg_sl ([.ref h0, .int (nI j), .int i, .int v, .ref o1])).length) Slot.unset).toArray = ls at hl ⊢
  have hl : lv_has ls 6 [(0, .ref h0), (1, .int (nI j)), (2, .int i), (3, .int v), (4, .ref o1)] := hl
  have htb := vx_table (x := yL_writeShort) B (hts (.codeWith yL_writeShort cL_writeShort 6 (some .int) [(0, 12, 15, 21)]) (by unfold wsL_writeShort; exact List.mem_cons_self))
  subst hsz
  have hS : va_S A s.heap s.heap [] := va_S.rf
  refine lv_aload hx hb dL_writeShort_0 (lv_at hl 4 rfl) ?_
  refine lv_iconst (v := 0) hx hb dL_writeShort_2 (by decide) ?_
  refine lv_aload_n hx hb dL_writeShort_3 rfl (lv_at hl 0 rfl) ?_
  refine lv_iload_n hx hb dL_writeShort_4 rfl (lv_at hl 1 rfl) ?_
  refine lv_iload_n hx hb dL_writeShort_5 rfl (lv_at hl 2 rfl) ?_
  refine lv_iload_n hx hb dL_writeShort_6 rfl (lv_at hl 3 rfl) ?_
  refine va_calli (va_runV (As := [.int (nI j), .int i, .int v]) (rest := [.int 0, .ref o1]) ⟨hx, hb, hml, hown, hts⟩ (tX2_writeShort l D A cI cJ cD cC h0 h1 h2 h3 h4 ad wd rd (tc_Y cJ cD y0 y1 y2 y3 y4 y5 o1 o2 ov od) n K Ln Wh Re cd ct s.heap.size hI j hj i v) (cwV 3 hts gL_writeShort_X2_writeShort rfl rfl rfl (by decide +kernel) ⟨Nat.le_of_ble_eq_true rfl, Nat.le_of_ble_eq_true rfl⟩) ⟨tcP.blind, (va_recv hK hP (ci := 2) (q0 := 0) rfl rfl), (tcP.go hK hP hD hE hS)⟩ rfl rfl hl.1 rfl (lv_room (Nat.le_of_ble_eq_true rfl)) dL_writeShort_7 ⟨Nat.le_of_ble_eq_true rfl, Nat.le_of_ble_eq_true rfl⟩) hS (fun q _ h => h) (fun q h => h) (fun r_1 u t H locs ht hvm hw hB hz1 hk1 hS => ?_)
  subst hw
  obtain ⟨hP, hD⟩ := hB
  rw [ht] at hP
  refine lv_i2l (v := (cdR K Ln j i 4 (K j)).toInt64) hx hb dL_writeShort_10 rfl ?_
  refine va_last (f := ov) hx hb hK hP hD hS 11 1 rfl rfl (by unfold vp_in; decide) dL_writeShort_11 (fun H locs hP hD hS => ?_)
  have hP : va_P D vwCl (tc_T cI cJ cD cC h0 h1 h2 h3 h4 ad wd rd (tc_Y cJ cD y0 y1 y2 y3 y4 y5 o1 o2 (vp_updL ov 0 ((cdR K Ln j i 4 (K j)).toInt64)) od) n K Ln (wrW K Ln Wh j i 4 (v.toInt16.toInt32.toInt64)) (wrR K Ln Re j i 4 (v.toInt16.toInt32.toInt64)) (cdR K Ln j i 4 (K j)) (noteC ct (cdR K Ln j i 4 (K j)))) H := by exact hP
  have hD : va_D A (tc_T cI cJ cD cC h0 h1 h2 h3 h4 ad wd rd (tc_Y cJ cD y0 y1 y2 y3 y4 y5 o1 o2 (vp_updL ov 0 ((cdR K Ln j i 4 (K j)).toInt64)) od) n K Ln (wrW K Ln Wh j i 4 (v.toInt16.toInt32.toInt64)) (wrR K Ln Re j i 4 (v.toInt16.toInt32.toInt64)) (cdR K Ln j i 4 (K j)) (noteC ct (cdR K Ln j i 4 (K j)))) := by exact hD
  refine lv_goto (tgt := 19) hx hb dL_writeShort_12 (by decide) ?_
  refine lv_iconst (v := 0) hx hb dL_writeShort_19 (by decide) ?_
  refine vx_ret ?_
  exact W.iret (v := 0) hx hb hr (fun t9 ht9 hW9 => ⟨⟨0, (), rfl, rfl, by rw [ht9]; exact hP, hD⟩, hS.F ht9⟩) hS.2.2 dL_writeShort_20
set_option maxHeartbeats 4000000 in
set_option maxRecDepth 100000 in
theorem lL_writeInt (l : Launch) (hfl : l.stackTraces = false) (D : va_G) (A : Nat → Prop) (cI cJ cD cC : ClassId) (h0 h1 h2 h3 h4 : Nat) (ad wd rd : Nat → Nat) (y0 y1 y2 y3 y4 y5 : Nat × va_E) (o1 o2 : Nat) (ov : Nat → Int64) (od : Nat → UInt64) (n : Nat) (K : Nat → Int32) (Ln : Nat → Nat) (Wh : Nat → Int64) (Re : Nat → UInt64) (cd : Int32) (ct : Nat → Int32) (sz : Nat) (hI : tcI n K Ln Wh Re) (j : Nat) (hj : j < n) (i : Int32) (v : Int32) : vx_Met l yL_writeInt wsL_writeInt ({ frames := 5, cells := 0, slots := 0, locals := 114 }) (tcPL D A (tcTY cI cJ cD cC) sz [.ref h0, .int (nI j), .int i, .int v, .ref o1] (tc_T cI cJ cD cC h0 h1 h2 h3 h4 ad wd rd (tc_Y cJ cD y0 y1 y2 y3 y4 y5 o1 o2 ov od) n K Ln Wh Re cd ct)) (va_Qi (fun r (_ : Unit) => r = 0) (fun _ t => tcB D A (tc_T cI cJ cD cC h0 h1 h2 h3 h4 ad wd rd (tc_Y cJ cD y0 y1 y2 y3 y4 y5 o1 o2 (vp_updL ov 0 ((cdR K Ln j i 5 (K j)).toInt64)) od) n K Ln (wrW K Ln Wh j i 5 (v.toInt64)) (wrR K Ln Re j i 5 (v.toInt64)) (cdR K Ln j i 5 (K j)) (noteC ct (cdR K Ln j i 5 (K j)))) t) A) (fun _ _ _ => False) 0 0 A := by
  refine vx_ofWH (cc := cL_writeInt) (maxL := 6) (ret := (some .int)) (hh := [(0, 12, 15, 21)]) (by decide) rfl ?_
  intro p e s m args below meth c s₁ B hml hv
  obtain ⟨rfl, ⟨hsz, hP, hK, hD, hE⟩, hNc⟩ := hv
  have hx := B.exec
  have hb := B.bytes
  have hr := B.returns
  have hts := atoms_spec (ws := wsL_writeInt) B.pre
  have hown : s.vm.findClass RL = some m.cls := findClass_of_methodNamed B.named
  have hlocks := B.notSynchronized
  have hl := lv_entry ([.ref h0, .int (nI j), .int i, .int v, .ref o1]) (n := 6) (Nat.le_of_ble_eq_true rfl)
  rw [lg_entry_eq]
  generalize (lg_sl ([.ref h0, .int (nI j), .int i, .int v, .ref o1]) ++ List.replicate (6 - (lg_sl ([.ref h0, .int (nI j), .int i, .int v, .ref o1])).length) Slot.unset).toArray = ls at hl ⊢
  have hl : lv_has ls 6 [(0, .ref h0), (1, .int (nI j)), (2, .int i), (3, .int v), (4, .ref o1)] := hl
  have htb := vx_table (x := yL_writeInt) B (hts (.codeWith yL_writeInt cL_writeInt 6 (some .int) [(0, 12, 15, 21)]) (by unfold wsL_writeInt; exact List.mem_cons_self))
  subst hsz
  have hS : va_S A s.heap s.heap [] := va_S.rf
  refine lv_aload hx hb dL_writeInt_0 (lv_at hl 4 rfl) ?_
  refine lv_iconst (v := 0) hx hb dL_writeInt_2 (by decide) ?_
  refine lv_aload_n hx hb dL_writeInt_3 rfl (lv_at hl 0 rfl) ?_
  refine lv_iload_n hx hb dL_writeInt_4 rfl (lv_at hl 1 rfl) ?_
  refine lv_iload_n hx hb dL_writeInt_5 rfl (lv_at hl 2 rfl) ?_
  refine lv_iload_n hx hb dL_writeInt_6 rfl (lv_at hl 3 rfl) ?_
  refine va_calli (va_runV (As := [.int (nI j), .int i, .int v]) (rest := [.int 0, .ref o1]) ⟨hx, hb, hml, hown, hts⟩ (tX2_writeInt l D A cI cJ cD cC h0 h1 h2 h3 h4 ad wd rd (tc_Y cJ cD y0 y1 y2 y3 y4 y5 o1 o2 ov od) n K Ln Wh Re cd ct s.heap.size hI j hj i v) (cwV 3 hts gL_writeInt_X2_writeInt rfl rfl rfl (by decide +kernel) ⟨Nat.le_of_ble_eq_true rfl, Nat.le_of_ble_eq_true rfl⟩) ⟨tcP.blind, (va_recv hK hP (ci := 2) (q0 := 0) rfl rfl), (tcP.go hK hP hD hE hS)⟩ rfl rfl hl.1 rfl (lv_room (Nat.le_of_ble_eq_true rfl)) dL_writeInt_7 ⟨Nat.le_of_ble_eq_true rfl, Nat.le_of_ble_eq_true rfl⟩) hS (fun q _ h => h) (fun q h => h) (fun r_1 u t H locs ht hvm hw hB hz1 hk1 hS => ?_)
  subst hw
  obtain ⟨hP, hD⟩ := hB
  rw [ht] at hP
  refine lv_i2l (v := (cdR K Ln j i 5 (K j)).toInt64) hx hb dL_writeInt_10 rfl ?_
  refine va_last (f := ov) hx hb hK hP hD hS 11 1 rfl rfl (by unfold vp_in; decide) dL_writeInt_11 (fun H locs hP hD hS => ?_)
  have hP : va_P D vwCl (tc_T cI cJ cD cC h0 h1 h2 h3 h4 ad wd rd (tc_Y cJ cD y0 y1 y2 y3 y4 y5 o1 o2 (vp_updL ov 0 ((cdR K Ln j i 5 (K j)).toInt64)) od) n K Ln (wrW K Ln Wh j i 5 (v.toInt64)) (wrR K Ln Re j i 5 (v.toInt64)) (cdR K Ln j i 5 (K j)) (noteC ct (cdR K Ln j i 5 (K j)))) H := by exact hP
  have hD : va_D A (tc_T cI cJ cD cC h0 h1 h2 h3 h4 ad wd rd (tc_Y cJ cD y0 y1 y2 y3 y4 y5 o1 o2 (vp_updL ov 0 ((cdR K Ln j i 5 (K j)).toInt64)) od) n K Ln (wrW K Ln Wh j i 5 (v.toInt64)) (wrR K Ln Re j i 5 (v.toInt64)) (cdR K Ln j i 5 (K j)) (noteC ct (cdR K Ln j i 5 (K j)))) := by exact hD
  refine lv_goto (tgt := 19) hx hb dL_writeInt_12 (by decide) ?_
  refine lv_iconst (v := 0) hx hb dL_writeInt_19 (by decide) ?_
  refine vx_ret ?_
  exact W.iret (v := 0) hx hb hr (fun t9 ht9 hW9 => ⟨⟨0, (), rfl, rfl, by rw [ht9]; exact hP, hD⟩, hS.F ht9⟩) hS.2.2 dL_writeInt_20
set_option maxHeartbeats 4000000 in
set_option maxRecDepth 100000 in
theorem lL_writeLong (l : Launch) (hfl : l.stackTraces = false) (D : va_G) (A : Nat → Prop) (cI cJ cD cC : ClassId) (h0 h1 h2 h3 h4 : Nat) (ad wd rd : Nat → Nat) (y0 y1 y2 y3 y4 y5 : Nat × va_E) (o1 o2 : Nat) (ov : Nat → Int64) (od : Nat → UInt64) (n : Nat) (K : Nat → Int32) (Ln : Nat → Nat) (Wh : Nat → Int64) (Re : Nat → UInt64) (cd : Int32) (ct : Nat → Int32) (sz : Nat) (hI : tcI n K Ln Wh Re) (j : Nat) (hj : j < n) (i : Int32) (v : Int64) : vx_Met l yL_writeLong wsL_writeLong ({ frames := 5, cells := 0, slots := 0, locals := 115 }) (tcPL D A (tcTY cI cJ cD cC) sz [.ref h0, .int (nI j), .int i, .long v, .ref o1] (tc_T cI cJ cD cC h0 h1 h2 h3 h4 ad wd rd (tc_Y cJ cD y0 y1 y2 y3 y4 y5 o1 o2 ov od) n K Ln Wh Re cd ct)) (va_Qi (fun r (_ : Unit) => r = 0) (fun _ t => tcB D A (tc_T cI cJ cD cC h0 h1 h2 h3 h4 ad wd rd (tc_Y cJ cD y0 y1 y2 y3 y4 y5 o1 o2 (vp_updL ov 0 ((cdR K Ln j i 6 (K j)).toInt64)) od) n K Ln (wrW K Ln Wh j i 6 v) (wrR K Ln Re j i 6 v) (cdR K Ln j i 6 (K j)) (noteC ct (cdR K Ln j i 6 (K j)))) t) A) (fun _ _ _ => False) 0 0 A := by
  refine vx_ofWH (cc := cL_writeLong) (maxL := 7) (ret := (some .int)) (hh := [(0, 12, 15, 21)]) (by decide) rfl ?_
  intro p e s m args below meth c s₁ B hml hv
  obtain ⟨rfl, ⟨hsz, hP, hK, hD, hE⟩, hNc⟩ := hv
  have hx := B.exec
  have hb := B.bytes
  have hr := B.returns
  have hts := atoms_spec (ws := wsL_writeLong) B.pre
  have hown : s.vm.findClass RL = some m.cls := findClass_of_methodNamed B.named
  have hlocks := B.notSynchronized
  have hl := lv_entry ([.ref h0, .int (nI j), .int i, .long v, .ref o1]) (n := 7) (Nat.le_of_ble_eq_true rfl)
  rw [lg_entry_eq]
  generalize (lg_sl ([.ref h0, .int (nI j), .int i, .long v, .ref o1]) ++ List.replicate (7 - (lg_sl ([.ref h0, .int (nI j), .int i, .long v, .ref o1])).length) Slot.unset).toArray = ls at hl ⊢
  have hl : lv_has ls 7 [(0, .ref h0), (1, .int (nI j)), (2, .int i), (3, .long v), (5, .ref o1)] := hl
  have htb := vx_table (x := yL_writeLong) B (hts (.codeWith yL_writeLong cL_writeLong 7 (some .int) [(0, 12, 15, 21)]) (by unfold wsL_writeLong; exact List.mem_cons_self))
  subst hsz
  have hS : va_S A s.heap s.heap [] := va_S.rf
  refine lv_aload hx hb dL_writeLong_0 (lv_at hl 4 rfl) ?_
  refine lv_iconst (v := 0) hx hb dL_writeLong_2 (by decide) ?_
  refine lv_aload_n hx hb dL_writeLong_3 rfl (lv_at hl 0 rfl) ?_
  refine lv_iload_n hx hb dL_writeLong_4 rfl (lv_at hl 1 rfl) ?_
  refine lv_iload_n hx hb dL_writeLong_5 rfl (lv_at hl 2 rfl) ?_
  refine lv_lload_n hx hb dL_writeLong_6 rfl (lv_at hl 3 rfl) ?_
  refine va_calli (va_runV (As := [.int (nI j), .int i, .long v]) (rest := [.int 0, .ref o1]) ⟨hx, hb, hml, hown, hts⟩ (tX2_writeLong l D A cI cJ cD cC h0 h1 h2 h3 h4 ad wd rd (tc_Y cJ cD y0 y1 y2 y3 y4 y5 o1 o2 ov od) n K Ln Wh Re cd ct s.heap.size hI j hj i v) (cwV 3 hts gL_writeLong_X2_writeLong rfl rfl rfl (by decide +kernel) ⟨Nat.le_of_ble_eq_true rfl, Nat.le_of_ble_eq_true rfl⟩) ⟨tcP.blind, (va_recv hK hP (ci := 2) (q0 := 0) rfl rfl), (tcP.go hK hP hD hE hS)⟩ rfl rfl hl.1 rfl (lv_room (Nat.le_of_ble_eq_true rfl)) dL_writeLong_7 ⟨Nat.le_of_ble_eq_true rfl, Nat.le_of_ble_eq_true rfl⟩) hS (fun q _ h => h) (fun q h => h) (fun r_1 u t H locs ht hvm hw hB hz1 hk1 hS => ?_)
  subst hw
  obtain ⟨hP, hD⟩ := hB
  rw [ht] at hP
  refine lv_i2l (v := (cdR K Ln j i 6 (K j)).toInt64) hx hb dL_writeLong_10 rfl ?_
  refine va_last (f := ov) hx hb hK hP hD hS 11 1 rfl rfl (by unfold vp_in; decide) dL_writeLong_11 (fun H locs hP hD hS => ?_)
  have hP : va_P D vwCl (tc_T cI cJ cD cC h0 h1 h2 h3 h4 ad wd rd (tc_Y cJ cD y0 y1 y2 y3 y4 y5 o1 o2 (vp_updL ov 0 ((cdR K Ln j i 6 (K j)).toInt64)) od) n K Ln (wrW K Ln Wh j i 6 v) (wrR K Ln Re j i 6 v) (cdR K Ln j i 6 (K j)) (noteC ct (cdR K Ln j i 6 (K j)))) H := by exact hP
  have hD : va_D A (tc_T cI cJ cD cC h0 h1 h2 h3 h4 ad wd rd (tc_Y cJ cD y0 y1 y2 y3 y4 y5 o1 o2 (vp_updL ov 0 ((cdR K Ln j i 6 (K j)).toInt64)) od) n K Ln (wrW K Ln Wh j i 6 v) (wrR K Ln Re j i 6 v) (cdR K Ln j i 6 (K j)) (noteC ct (cdR K Ln j i 6 (K j)))) := by exact hD
  refine lv_goto (tgt := 19) hx hb dL_writeLong_12 (by decide) ?_
  refine lv_iconst (v := 0) hx hb dL_writeLong_19 (by decide) ?_
  refine vx_ret ?_
  exact W.iret (v := 0) hx hb hr (fun t9 ht9 hW9 => ⟨⟨0, (), rfl, rfl, by rw [ht9]; exact hP, hD⟩, hS.F ht9⟩) hS.2.2 dL_writeLong_20
set_option maxHeartbeats 4000000 in
set_option maxRecDepth 100000 in
theorem lL_writeFloat (l : Launch) (hfl : l.stackTraces = false) (D : va_G) (A : Nat → Prop) (cI cJ cD cC : ClassId) (h0 h1 h2 h3 h4 : Nat) (ad wd rd : Nat → Nat) (y0 y1 y2 y3 y4 y5 : Nat × va_E) (o1 o2 : Nat) (ov : Nat → Int64) (od : Nat → UInt64) (n : Nat) (K : Nat → Int32) (Ln : Nat → Nat) (Wh : Nat → Int64) (Re : Nat → UInt64) (cd : Int32) (ct : Nat → Int32) (sz : Nat) (hI : tcI n K Ln Wh Re) (j : Nat) (hj : j < n) (i : Int32) (v : UInt32) (hz : FP.Core.fIsNaN v = false) : vx_Met l yL_writeFloat wsL_writeFloat ({ frames := 5, cells := 0, slots := 0, locals := 114 }) (tcPL D A (tcTY cI cJ cD cC) sz [.ref h0, .int (nI j), .int i, .float v, .ref o1] (tc_T cI cJ cD cC h0 h1 h2 h3 h4 ad wd rd (tc_Y cJ cD y0 y1 y2 y3 y4 y5 o1 o2 ov od) n K Ln Wh Re cd ct)) (va_Qi (fun r (_ : Unit) => r = 0) (fun _ t => tcB D A (tc_T cI cJ cD cC h0 h1 h2 h3 h4 ad wd rd (tc_Y cJ cD y0 y1 y2 y3 y4 y5 o1 o2 (vp_updL ov 0 ((cdR K Ln j i 7 (K j)).toInt64)) od) n K Ln Wh (wrX K Ln Re j i 7 (FP.f2d v)) (cdR K Ln j i 7 (K j)) (noteC ct (cdR K Ln j i 7 (K j)))) t) A) (fun _ _ _ => False) 0 0 A := by
  refine vx_ofWH (cc := cL_writeFloat) (maxL := 6) (ret := (some .int)) (hh := [(0, 12, 15, 21)]) (by decide) rfl ?_
  intro p e s m args below meth c s₁ B hml hv
  obtain ⟨rfl, ⟨hsz, hP, hK, hD, hE⟩, hNc⟩ := hv
  have hx := B.exec
  have hb := B.bytes
  have hr := B.returns
  have hts := atoms_spec (ws := wsL_writeFloat) B.pre
  have hown : s.vm.findClass RL = some m.cls := findClass_of_methodNamed B.named
  have hlocks := B.notSynchronized
  have hl := lv_entry ([.ref h0, .int (nI j), .int i, .float v, .ref o1]) (n := 6) (Nat.le_of_ble_eq_true rfl)
  rw [lg_entry_eq]
  generalize (lg_sl ([.ref h0, .int (nI j), .int i, .float v, .ref o1]) ++ List.replicate (6 - (lg_sl ([.ref h0, .int (nI j), .int i, .float v, .ref o1])).length) Slot.unset).toArray = ls at hl ⊢
  have hl : lv_has ls 6 [(0, .ref h0), (1, .int (nI j)), (2, .int i), (3, .float v), (4, .ref o1)] := hl
  have htb := vx_table (x := yL_writeFloat) B (hts (.codeWith yL_writeFloat cL_writeFloat 6 (some .int) [(0, 12, 15, 21)]) (by unfold wsL_writeFloat; exact List.mem_cons_self))
  subst hsz
  have hS : va_S A s.heap s.heap [] := va_S.rf
  refine lv_aload hx hb dL_writeFloat_0 (lv_at hl 4 rfl) ?_
  refine lv_iconst (v := 0) hx hb dL_writeFloat_2 (by decide) ?_
  refine lv_aload_n hx hb dL_writeFloat_3 rfl (lv_at hl 0 rfl) ?_
  refine lv_iload_n hx hb dL_writeFloat_4 rfl (lv_at hl 1 rfl) ?_
  refine lv_iload_n hx hb dL_writeFloat_5 rfl (lv_at hl 2 rfl) ?_
  refine lv_fload_n hx hb dL_writeFloat_6 rfl (lv_at hl 3 rfl) ?_
  refine va_calli (va_runV (As := [.int (nI j), .int i, .float v]) (rest := [.int 0, .ref o1]) ⟨hx, hb, hml, hown, hts⟩ (tX2_writeFloat l D A cI cJ cD cC h0 h1 h2 h3 h4 ad wd rd (tc_Y cJ cD y0 y1 y2 y3 y4 y5 o1 o2 ov od) n K Ln Wh Re cd ct s.heap.size hI j hj i v hz) (cwV 3 hts gL_writeFloat_X2_writeFloat rfl rfl rfl (by decide +kernel) ⟨Nat.le_of_ble_eq_true rfl, Nat.le_of_ble_eq_true rfl⟩) ⟨tcP.blind, (va_recv hK hP (ci := 2) (q0 := 0) rfl rfl), (tcP.go hK hP hD hE hS)⟩ rfl rfl hl.1 rfl (lv_room (Nat.le_of_ble_eq_true rfl)) dL_writeFloat_7 ⟨Nat.le_of_ble_eq_true rfl, Nat.le_of_ble_eq_true rfl⟩) hS (fun q _ h => h) (fun q h => h) (fun r_1 u t H locs ht hvm hw hB hz1 hk1 hS => ?_)
  subst hw
  obtain ⟨hP, hD⟩ := hB
  rw [ht] at hP
  refine lv_i2l (v := (cdR K Ln j i 7 (K j)).toInt64) hx hb dL_writeFloat_10 rfl ?_
  refine va_last (f := ov) hx hb hK hP hD hS 11 1 rfl rfl (by unfold vp_in; decide) dL_writeFloat_11 (fun H locs hP hD hS => ?_)
  have hP : va_P D vwCl (tc_T cI cJ cD cC h0 h1 h2 h3 h4 ad wd rd (tc_Y cJ cD y0 y1 y2 y3 y4 y5 o1 o2 (vp_updL ov 0 ((cdR K Ln j i 7 (K j)).toInt64)) od) n K Ln Wh (wrX K Ln Re j i 7 (FP.f2d v)) (cdR K Ln j i 7 (K j)) (noteC ct (cdR K Ln j i 7 (K j)))) H := by exact hP
  have hD : va_D A (tc_T cI cJ cD cC h0 h1 h2 h3 h4 ad wd rd (tc_Y cJ cD y0 y1 y2 y3 y4 y5 o1 o2 (vp_updL ov 0 ((cdR K Ln j i 7 (K j)).toInt64)) od) n K Ln Wh (wrX K Ln Re j i 7 (FP.f2d v)) (cdR K Ln j i 7 (K j)) (noteC ct (cdR K Ln j i 7 (K j)))) := by exact hD
  refine lv_goto (tgt := 19) hx hb dL_writeFloat_12 (by decide) ?_
  refine lv_iconst (v := 0) hx hb dL_writeFloat_19 (by decide) ?_
  refine vx_ret ?_
  exact W.iret (v := 0) hx hb hr (fun t9 ht9 hW9 => ⟨⟨0, (), rfl, rfl, by rw [ht9]; exact hP, hD⟩, hS.F ht9⟩) hS.2.2 dL_writeFloat_20
set_option maxHeartbeats 4000000 in
set_option maxRecDepth 100000 in
theorem lL_writeDouble (l : Launch) (hfl : l.stackTraces = false) (D : va_G) (A : Nat → Prop) (cI cJ cD cC : ClassId) (h0 h1 h2 h3 h4 : Nat) (ad wd rd : Nat → Nat) (y0 y1 y2 y3 y4 y5 : Nat × va_E) (o1 o2 : Nat) (ov : Nat → Int64) (od : Nat → UInt64) (n : Nat) (K : Nat → Int32) (Ln : Nat → Nat) (Wh : Nat → Int64) (Re : Nat → UInt64) (cd : Int32) (ct : Nat → Int32) (sz : Nat) (hI : tcI n K Ln Wh Re) (j : Nat) (hj : j < n) (i : Int32) (v : UInt64) : vx_Met l yL_writeDouble wsL_writeDouble ({ frames := 5, cells := 0, slots := 0, locals := 115 }) (tcPL D A (tcTY cI cJ cD cC) sz [.ref h0, .int (nI j), .int i, .double v, .ref o1] (tc_T cI cJ cD cC h0 h1 h2 h3 h4 ad wd rd (tc_Y cJ cD y0 y1 y2 y3 y4 y5 o1 o2 ov od) n K Ln Wh Re cd ct)) (va_Qi (fun r (_ : Unit) => r = 0) (fun _ t => tcB D A (tc_T cI cJ cD cC h0 h1 h2 h3 h4 ad wd rd (tc_Y cJ cD y0 y1 y2 y3 y4 y5 o1 o2 (vp_updL ov 0 ((cdR K Ln j i 8 (K j)).toInt64)) od) n K Ln Wh (wrX K Ln Re j i 8 v) (cdR K Ln j i 8 (K j)) (noteC ct (cdR K Ln j i 8 (K j)))) t) A) (fun _ _ _ => False) 0 0 A := by
  refine vx_ofWH (cc := cL_writeDouble) (maxL := 7) (ret := (some .int)) (hh := [(0, 12, 15, 21)]) (by decide) rfl ?_
  intro p e s m args below meth c s₁ B hml hv
  obtain ⟨rfl, ⟨hsz, hP, hK, hD, hE⟩, hNc⟩ := hv
  have hx := B.exec
  have hb := B.bytes
  have hr := B.returns
  have hts := atoms_spec (ws := wsL_writeDouble) B.pre
  have hown : s.vm.findClass RL = some m.cls := findClass_of_methodNamed B.named
  have hlocks := B.notSynchronized
  have hl := lv_entry ([.ref h0, .int (nI j), .int i, .double v, .ref o1]) (n := 7) (Nat.le_of_ble_eq_true rfl)
  rw [lg_entry_eq]
  generalize (lg_sl ([.ref h0, .int (nI j), .int i, .double v, .ref o1]) ++ List.replicate (7 - (lg_sl ([.ref h0, .int (nI j), .int i, .double v, .ref o1])).length) Slot.unset).toArray = ls at hl ⊢
  have hl : lv_has ls 7 [(0, .ref h0), (1, .int (nI j)), (2, .int i), (3, .double v), (5, .ref o1)] := hl
  have htb := vx_table (x := yL_writeDouble) B (hts (.codeWith yL_writeDouble cL_writeDouble 7 (some .int) [(0, 12, 15, 21)]) (by unfold wsL_writeDouble; exact List.mem_cons_self))
  subst hsz
  have hS : va_S A s.heap s.heap [] := va_S.rf
  refine lv_aload hx hb dL_writeDouble_0 (lv_at hl 4 rfl) ?_
  refine lv_iconst (v := 0) hx hb dL_writeDouble_2 (by decide) ?_
  refine lv_aload_n hx hb dL_writeDouble_3 rfl (lv_at hl 0 rfl) ?_
  refine lv_iload_n hx hb dL_writeDouble_4 rfl (lv_at hl 1 rfl) ?_
  refine lv_iload_n hx hb dL_writeDouble_5 rfl (lv_at hl 2 rfl) ?_
  refine lv_dload_n hx hb dL_writeDouble_6 rfl (lv_at hl 3 rfl) ?_
  refine va_calli (va_runV (As := [.int (nI j), .int i, .double v]) (rest := [.int 0, .ref o1]) ⟨hx, hb, hml, hown, hts⟩ (tX2_writeDouble l D A cI cJ cD cC h0 h1 h2 h3 h4 ad wd rd (tc_Y cJ cD y0 y1 y2 y3 y4 y5 o1 o2 ov od) n K Ln Wh Re cd ct s.heap.size hI j hj i v) (cwV 3 hts gL_writeDouble_X2_writeDouble rfl rfl rfl (by decide +kernel) ⟨Nat.le_of_ble_eq_true rfl, Nat.le_of_ble_eq_true rfl⟩) ⟨tcP.blind, (va_recv hK hP (ci := 2) (q0 := 0) rfl rfl), (tcP.go hK hP hD hE hS)⟩ rfl rfl hl.1 rfl (lv_room (Nat.le_of_ble_eq_true rfl)) dL_writeDouble_7 ⟨Nat.le_of_ble_eq_true rfl, Nat.le_of_ble_eq_true rfl⟩) hS (fun q _ h => h) (fun q h => h) (fun r_1 u t H locs ht hvm hw hB hz1 hk1 hS => ?_)
  subst hw
  obtain ⟨hP, hD⟩ := hB
  rw [ht] at hP
  refine lv_i2l (v := (cdR K Ln j i 8 (K j)).toInt64) hx hb dL_writeDouble_10 rfl ?_
  refine va_last (f := ov) hx hb hK hP hD hS 11 1 rfl rfl (by unfold vp_in; decide) dL_writeDouble_11 (fun H locs hP hD hS => ?_)
  have hP : va_P D vwCl (tc_T cI cJ cD cC h0 h1 h2 h3 h4 ad wd rd (tc_Y cJ cD y0 y1 y2 y3 y4 y5 o1 o2 (vp_updL ov 0 ((cdR K Ln j i 8 (K j)).toInt64)) od) n K Ln Wh (wrX K Ln Re j i 8 v) (cdR K Ln j i 8 (K j)) (noteC ct (cdR K Ln j i 8 (K j)))) H := by exact hP
  have hD : va_D A (tc_T cI cJ cD cC h0 h1 h2 h3 h4 ad wd rd (tc_Y cJ cD y0 y1 y2 y3 y4 y5 o1 o2 (vp_updL ov 0 ((cdR K Ln j i 8 (K j)).toInt64)) od) n K Ln Wh (wrX K Ln Re j i 8 v) (cdR K Ln j i 8 (K j)) (noteC ct (cdR K Ln j i 8 (K j)))) := by exact hD
  refine lv_goto (tgt := 19) hx hb dL_writeDouble_12 (by decide) ?_
  refine lv_iconst (v := 0) hx hb dL_writeDouble_19 (by decide) ?_
  refine vx_ret ?_
  exact W.iret (v := 0) hx hb hr (fun t9 ht9 hW9 => ⟨⟨0, (), rfl, rfl, by rw [ht9]; exact hP, hD⟩, hS.F ht9⟩) hS.2.2 dL_writeDouble_20
set_option maxHeartbeats 4000000 in
set_option maxRecDepth 100000 in
theorem lL_writeAny_f (l : Launch) (hfl : l.stackTraces = false) (D : va_G) (A : Nat → Prop) (cI cJ cD cC : ClassId) (h0 h1 h2 h3 h4 : Nat) (ad wd rd : Nat → Nat) (y0 y1 y2 y3 y4 y5 : Nat × va_E) (o1 o2 : Nat) (ov : Nat → Int64) (od : Nat → UInt64) (n : Nat) (K : Nat → Int32) (Ln : Nat → Nat) (Wh : Nat → Int64) (Re : Nat → UInt64) (cd : Int32) (ct : Nat → Int32) (sz : Nat) (hI : tcI n K Ln Wh Re) (j : Nat) (hj : j < n) (i kd v : Int32) (hk : kHas kd = true) (h7 : kd = 7) : vx_Met l yL_writeAny wsL_writeAny ({ frames := 5, cells := 0, slots := 0, locals := 116 }) (tcPL D A (tcTY cI cJ cD cC) sz [.ref h0, .int (nI j), .int i, .int kd, .int v, .ref o1] (tc_T cI cJ cD cC h0 h1 h2 h3 h4 ad wd rd (tc_Y cJ cD y0 y1 y2 y3 y4 y5 o1 o2 ov od) n K Ln Wh Re cd ct)) (va_Qi (fun r (_ : Unit) => r = 0) (fun _ t => tcB D A (tc_T cI cJ cD cC h0 h1 h2 h3 h4 ad wd rd (tc_Y cJ cD y0 y1 y2 y3 y4 y5 o1 o2 (vp_updL ov 0 ((cdR K Ln j i kd (K j)).toInt64)) od) n K Ln Wh (wrX K Ln Re j i kd (FP.f2d (FP.i2f v))) (cdR K Ln j i kd (K j)) (noteC ct (cdR K Ln j i kd (K j)))) t) A) (fun _ _ _ => False) 0 0 A := by
  refine vx_ofWH (cc := cL_writeAny) (maxL := 7) (ret := (some .int)) (hh := [(0, 14, 17, 21), (0, 14, 21, 13)]) (by decide) rfl ?_
  intro p e s m args below meth c s₁ B hml hv
  obtain ⟨rfl, ⟨hsz, hP, hK, hD, hE⟩, hNc⟩ := hv
  have hx := B.exec
  have hb := B.bytes
  have hr := B.returns
  have hts := atoms_spec (ws := wsL_writeAny) B.pre
  have hown : s.vm.findClass RL = some m.cls := findClass_of_methodNamed B.named
  have hlocks := B.notSynchronized
  have hl := lv_entry ([.ref h0, .int (nI j), .int i, .int kd, .int v, .ref o1]) (n := 7) (Nat.le_of_ble_eq_true rfl)
  rw [lg_entry_eq]
  generalize (lg_sl ([.ref h0, .int (nI j), .int i, .int kd, .int v, .ref o1]) ++ List.replicate (7 - (lg_sl ([.ref h0, .int (nI j), .int i, .int kd, .int v, .ref o1])).length) Slot.unset).toArray = ls at hl ⊢
  have hl : lv_has ls 7 [(0, .ref h0), (1, .int (nI j)), (2, .int i), (3, .int kd), (4, .int v), (5, .ref o1)] := hl
  have htb := vx_table (x := yL_writeAny) B (hts (.codeWith yL_writeAny cL_writeAny 7 (some .int) [(0, 14, 17, 21), (0, 14, 21, 13)]) (by unfold wsL_writeAny; exact List.mem_cons_self))
  subst hsz
  have hS : va_S A s.heap s.heap [] := va_S.rf
  refine lv_aload hx hb dL_writeAny_0 (lv_at hl 5 rfl) ?_
  refine lv_iconst (v := 0) hx hb dL_writeAny_2 (by decide) ?_
  refine lv_aload_n hx hb dL_writeAny_3 rfl (lv_at hl 0 rfl) ?_
  refine lv_iload_n hx hb dL_writeAny_4 rfl (lv_at hl 1 rfl) ?_
  refine lv_iload_n hx hb dL_writeAny_5 rfl (lv_at hl 2 rfl) ?_
  refine lv_iload_n hx hb dL_writeAny_6 rfl (lv_at hl 3 rfl) ?_
  refine lv_iload hx hb dL_writeAny_7 (lv_at hl 4 rfl) ?_
  refine va_calli (va_runV (As := [.int (nI j), .int i, .int kd, .int v]) (rest := [.int 0, .ref o1]) ⟨hx, hb, hml, hown, hts⟩ (tX2_writeAny_f l D A cI cJ cD cC h0 h1 h2 h3 h4 ad wd rd (tc_Y cJ cD y0 y1 y2 y3 y4 y5 o1 o2 ov od) n K Ln Wh Re cd ct s.heap.size hI j hj i kd v hk h7) (cwV 4 hts gL_writeAny_X2_writeAny rfl rfl rfl (by decide +kernel) ⟨Nat.le_of_ble_eq_true rfl, Nat.le_of_ble_eq_true rfl⟩) ⟨tcP.blind, (va_recv hK hP (ci := 2) (q0 := 0) rfl rfl), (tcP.go hK hP hD hE hS)⟩ rfl rfl hl.1 rfl (lv_room (Nat.le_of_ble_eq_true rfl)) dL_writeAny_9 ⟨Nat.le_of_ble_eq_true rfl, Nat.le_of_ble_eq_true rfl⟩) hS (fun q _ h => h) (fun q h => h) (fun r_1 u t H locs ht hvm hw hB hz1 hk1 hS => ?_)
  subst hw
  obtain ⟨hP, hD⟩ := hB
  rw [ht] at hP
  refine lv_i2l (v := (cdR K Ln j i kd (K j)).toInt64) hx hb dL_writeAny_12 rfl ?_
  refine va_last (f := ov) hx hb hK hP hD hS 11 1 rfl rfl (by unfold vp_in; decide) dL_writeAny_13 (fun H locs hP hD hS => ?_)
  have hP : va_P D vwCl (tc_T cI cJ cD cC h0 h1 h2 h3 h4 ad wd rd (tc_Y cJ cD y0 y1 y2 y3 y4 y5 o1 o2 (vp_updL ov 0 ((cdR K Ln j i kd (K j)).toInt64)) od) n K Ln Wh (wrX K Ln Re j i kd (FP.f2d (FP.i2f v))) (cdR K Ln j i kd (K j)) (noteC ct (cdR K Ln j i kd (K j)))) H := by exact hP
  have hD : va_D A (tc_T cI cJ cD cC h0 h1 h2 h3 h4 ad wd rd (tc_Y cJ cD y0 y1 y2 y3 y4 y5 o1 o2 (vp_updL ov 0 ((cdR K Ln j i kd (K j)).toInt64)) od) n K Ln Wh (wrX K Ln Re j i kd (FP.f2d (FP.i2f v))) (cdR K Ln j i kd (K j)) (noteC ct (cdR K Ln j i kd (K j)))) := by exact hD
  refine lv_goto (tgt := 25) hx hb dL_writeAny_14 (by decide) ?_
  refine lv_iconst (v := 0) hx hb dL_writeAny_25 (by decide) ?_
  refine vx_ret ?_
  exact W.iret (v := 0) hx hb hr (fun t9 ht9 hW9 => ⟨⟨0, (), rfl, rfl, by rw [ht9]; exact hP, hD⟩, hS.F ht9⟩) hS.2.2 dL_writeAny_26
set_option maxHeartbeats 4000000 in
set_option maxRecDepth 100000 in
theorem lL_writeAny_d (l : Launch) (hfl : l.stackTraces = false) (D : va_G) (A : Nat → Prop) (cI cJ cD cC : ClassId) (h0 h1 h2 h3 h4 : Nat) (ad wd rd : Nat → Nat) (y0 y1 y2 y3 y4 y5 : Nat × va_E) (o1 o2 : Nat) (ov : Nat → Int64) (od : Nat → UInt64) (n : Nat) (K : Nat → Int32) (Ln : Nat → Nat) (Wh : Nat → Int64) (Re : Nat → UInt64) (cd : Int32) (ct : Nat → Int32) (sz : Nat) (hI : tcI n K Ln Wh Re) (j : Nat) (hj : j < n) (i kd v : Int32) (hk : kHas kd = true) (h8 : kd = 8) : vx_Met l yL_writeAny wsL_writeAny ({ frames := 5, cells := 0, slots := 0, locals := 116 }) (tcPL D A (tcTY cI cJ cD cC) sz [.ref h0, .int (nI j), .int i, .int kd, .int v, .ref o1] (tc_T cI cJ cD cC h0 h1 h2 h3 h4 ad wd rd (tc_Y cJ cD y0 y1 y2 y3 y4 y5 o1 o2 ov od) n K Ln Wh Re cd ct)) (va_Qi (fun r (_ : Unit) => r = 0) (fun _ t => tcB D A (tc_T cI cJ cD cC h0 h1 h2 h3 h4 ad wd rd (tc_Y cJ cD y0 y1 y2 y3 y4 y5 o1 o2 (vp_updL ov 0 ((cdR K Ln j i kd (K j)).toInt64)) od) n K Ln Wh (wrX K Ln Re j i kd (FP.i2d v)) (cdR K Ln j i kd (K j)) (noteC ct (cdR K Ln j i kd (K j)))) t) A) (fun _ _ _ => False) 0 0 A := by
  refine vx_ofWH (cc := cL_writeAny) (maxL := 7) (ret := (some .int)) (hh := [(0, 14, 17, 21), (0, 14, 21, 13)]) (by decide) rfl ?_
  intro p e s m args below meth c s₁ B hml hv
  obtain ⟨rfl, ⟨hsz, hP, hK, hD, hE⟩, hNc⟩ := hv
  have hx := B.exec
  have hb := B.bytes
  have hr := B.returns
  have hts := atoms_spec (ws := wsL_writeAny) B.pre
  have hown : s.vm.findClass RL = some m.cls := findClass_of_methodNamed B.named
  have hlocks := B.notSynchronized
  have hl := lv_entry ([.ref h0, .int (nI j), .int i, .int kd, .int v, .ref o1]) (n := 7) (Nat.le_of_ble_eq_true rfl)
  rw [lg_entry_eq]
  generalize (lg_sl ([.ref h0, .int (nI j), .int i, .int kd, .int v, .ref o1]) ++ List.replicate (7 - (lg_sl ([.ref h0, .int (nI j), .int i, .int kd, .int v, .ref o1])).length) Slot.unset).toArray = ls at hl ⊢
  have hl : lv_has ls 7 [(0, .ref h0), (1, .int (nI j)), (2, .int i), (3, .int kd), (4, .int v), (5, .ref o1)] := hl
  have htb := vx_table (x := yL_writeAny) B (hts (.codeWith yL_writeAny cL_writeAny 7 (some .int) [(0, 14, 17, 21), (0, 14, 21, 13)]) (by unfold wsL_writeAny; exact List.mem_cons_self))
  subst hsz
  have hS : va_S A s.heap s.heap [] := va_S.rf
  refine lv_aload hx hb dL_writeAny_0 (lv_at hl 5 rfl) ?_
  refine lv_iconst (v := 0) hx hb dL_writeAny_2 (by decide) ?_
  refine lv_aload_n hx hb dL_writeAny_3 rfl (lv_at hl 0 rfl) ?_
  refine lv_iload_n hx hb dL_writeAny_4 rfl (lv_at hl 1 rfl) ?_
  refine lv_iload_n hx hb dL_writeAny_5 rfl (lv_at hl 2 rfl) ?_
  refine lv_iload_n hx hb dL_writeAny_6 rfl (lv_at hl 3 rfl) ?_
  refine lv_iload hx hb dL_writeAny_7 (lv_at hl 4 rfl) ?_
  refine va_calli (va_runV (As := [.int (nI j), .int i, .int kd, .int v]) (rest := [.int 0, .ref o1]) ⟨hx, hb, hml, hown, hts⟩ (tX2_writeAny_d l D A cI cJ cD cC h0 h1 h2 h3 h4 ad wd rd (tc_Y cJ cD y0 y1 y2 y3 y4 y5 o1 o2 ov od) n K Ln Wh Re cd ct s.heap.size hI j hj i kd v hk h8) (cwV 4 hts gL_writeAny_X2_writeAny rfl rfl rfl (by decide +kernel) ⟨Nat.le_of_ble_eq_true rfl, Nat.le_of_ble_eq_true rfl⟩) ⟨tcP.blind, (va_recv hK hP (ci := 2) (q0 := 0) rfl rfl), (tcP.go hK hP hD hE hS)⟩ rfl rfl hl.1 rfl (lv_room (Nat.le_of_ble_eq_true rfl)) dL_writeAny_9 ⟨Nat.le_of_ble_eq_true rfl, Nat.le_of_ble_eq_true rfl⟩) hS (fun q _ h => h) (fun q h => h) (fun r_1 u t H locs ht hvm hw hB hz1 hk1 hS => ?_)
  subst hw
  obtain ⟨hP, hD⟩ := hB
  rw [ht] at hP
  refine lv_i2l (v := (cdR K Ln j i kd (K j)).toInt64) hx hb dL_writeAny_12 rfl ?_
  refine va_last (f := ov) hx hb hK hP hD hS 11 1 rfl rfl (by unfold vp_in; decide) dL_writeAny_13 (fun H locs hP hD hS => ?_)
  have hP : va_P D vwCl (tc_T cI cJ cD cC h0 h1 h2 h3 h4 ad wd rd (tc_Y cJ cD y0 y1 y2 y3 y4 y5 o1 o2 (vp_updL ov 0 ((cdR K Ln j i kd (K j)).toInt64)) od) n K Ln Wh (wrX K Ln Re j i kd (FP.i2d v)) (cdR K Ln j i kd (K j)) (noteC ct (cdR K Ln j i kd (K j)))) H := by exact hP
  have hD : va_D A (tc_T cI cJ cD cC h0 h1 h2 h3 h4 ad wd rd (tc_Y cJ cD y0 y1 y2 y3 y4 y5 o1 o2 (vp_updL ov 0 ((cdR K Ln j i kd (K j)).toInt64)) od) n K Ln Wh (wrX K Ln Re j i kd (FP.i2d v)) (cdR K Ln j i kd (K j)) (noteC ct (cdR K Ln j i kd (K j)))) := by exact hD
  refine lv_goto (tgt := 25) hx hb dL_writeAny_14 (by decide) ?_
  refine lv_iconst (v := 0) hx hb dL_writeAny_25 (by decide) ?_
  refine vx_ret ?_
  exact W.iret (v := 0) hx hb hr (fun t9 ht9 hW9 => ⟨⟨0, (), rfl, rfl, by rw [ht9]; exact hP, hD⟩, hS.F ht9⟩) hS.2.2 dL_writeAny_26
set_option maxHeartbeats 4000000 in
set_option maxRecDepth 100000 in
theorem lL_writeAny_w (l : Launch) (hfl : l.stackTraces = false) (D : va_G) (A : Nat → Prop) (cI cJ cD cC : ClassId) (h0 h1 h2 h3 h4 : Nat) (ad wd rd : Nat → Nat) (y0 y1 y2 y3 y4 y5 : Nat × va_E) (o1 o2 : Nat) (ov : Nat → Int64) (od : Nat → UInt64) (n : Nat) (K : Nat → Int32) (Ln : Nat → Nat) (Wh : Nat → Int64) (Re : Nat → UInt64) (cd : Int32) (ct : Nat → Int32) (sz : Nat) (hI : tcI n K Ln Wh Re) (j : Nat) (hj : j < n) (i kd v : Int32) (hk : kHas kd = true) (hf : kFl kd = false) : vx_Met l yL_writeAny wsL_writeAny ({ frames := 5, cells := 0, slots := 0, locals := 116 }) (tcPL D A (tcTY cI cJ cD cC) sz [.ref h0, .int (nI j), .int i, .int kd, .int v, .ref o1] (tc_T cI cJ cD cC h0 h1 h2 h3 h4 ad wd rd (tc_Y cJ cD y0 y1 y2 y3 y4 y5 o1 o2 ov od) n K Ln Wh Re cd ct)) (va_Qi (fun r (_ : Unit) => r = 0) (fun _ t => tcB D A (tc_T cI cJ cD cC h0 h1 h2 h3 h4 ad wd rd (tc_Y cJ cD y0 y1 y2 y3 y4 y5 o1 o2 (vp_updL ov 0 ((cdR K Ln j i kd (K j)).toInt64)) od) n K Ln (wrW K Ln Wh j i kd (kMade v kd)) (wrR K Ln Re j i kd (kMade v kd)) (cdR K Ln j i kd (K j)) (noteC ct (cdR K Ln j i kd (K j)))) t) A) (fun _ _ _ => False) 0 0 A := by
  refine vx_ofWH (cc := cL_writeAny) (maxL := 7) (ret := (some .int)) (hh := [(0, 14, 17, 21), (0, 14, 21, 13)]) (by decide) rfl ?_
  intro p e s m args below meth c s₁ B hml hv
  obtain ⟨rfl, ⟨hsz, hP, hK, hD, hE⟩, hNc⟩ := hv
  have hx := B.exec
  have hb := B.bytes
  have hr := B.returns
  have hts := atoms_spec (ws := wsL_writeAny) B.pre
  have hown : s.vm.findClass RL = some m.cls := findClass_of_methodNamed B.named
  have hlocks := B.notSynchronized
  have hl := lv_entry ([.ref h0, .int (nI j), .int i, .int kd, .int v, .ref o1]) (n := 7) (Nat.le_of_ble_eq_true rfl)
  rw [lg_entry_eq]
  generalize (lg_sl ([.ref h0, .int (nI j), .int i, .int kd, .int v, .ref o1]) ++ List.replicate (7 - (lg_sl ([.ref h0, .int (nI j), .int i, .int kd, .int v, .ref o1])).length) Slot.unset).toArray = ls at hl ⊢
  have hl : lv_has ls 7 [(0, .ref h0), (1, .int (nI j)), (2, .int i), (3, .int kd), (4, .int v), (5, .ref o1)] := hl
  have htb := vx_table (x := yL_writeAny) B (hts (.codeWith yL_writeAny cL_writeAny 7 (some .int) [(0, 14, 17, 21), (0, 14, 21, 13)]) (by unfold wsL_writeAny; exact List.mem_cons_self))
  subst hsz
  have hS : va_S A s.heap s.heap [] := va_S.rf
  refine lv_aload hx hb dL_writeAny_0 (lv_at hl 5 rfl) ?_
  refine lv_iconst (v := 0) hx hb dL_writeAny_2 (by decide) ?_
  refine lv_aload_n hx hb dL_writeAny_3 rfl (lv_at hl 0 rfl) ?_
  refine lv_iload_n hx hb dL_writeAny_4 rfl (lv_at hl 1 rfl) ?_
  refine lv_iload_n hx hb dL_writeAny_5 rfl (lv_at hl 2 rfl) ?_
  refine lv_iload_n hx hb dL_writeAny_6 rfl (lv_at hl 3 rfl) ?_
  refine lv_iload hx hb dL_writeAny_7 (lv_at hl 4 rfl) ?_
  refine va_calli (va_runV (As := [.int (nI j), .int i, .int kd, .int v]) (rest := [.int 0, .ref o1]) ⟨hx, hb, hml, hown, hts⟩ (tX2_writeAny_w l D A cI cJ cD cC h0 h1 h2 h3 h4 ad wd rd (tc_Y cJ cD y0 y1 y2 y3 y4 y5 o1 o2 ov od) n K Ln Wh Re cd ct s.heap.size hI j hj i kd v hk hf) (cwV 4 hts gL_writeAny_X2_writeAny rfl rfl rfl (by decide +kernel) ⟨Nat.le_of_ble_eq_true rfl, Nat.le_of_ble_eq_true rfl⟩) ⟨tcP.blind, (va_recv hK hP (ci := 2) (q0 := 0) rfl rfl), (tcP.go hK hP hD hE hS)⟩ rfl rfl hl.1 rfl (lv_room (Nat.le_of_ble_eq_true rfl)) dL_writeAny_9 ⟨Nat.le_of_ble_eq_true rfl, Nat.le_of_ble_eq_true rfl⟩) hS (fun q _ h => h) (fun q h => h) (fun r_1 u t H locs ht hvm hw hB hz1 hk1 hS => ?_)
  subst hw
  obtain ⟨hP, hD⟩ := hB
  rw [ht] at hP
  refine lv_i2l (v := (cdR K Ln j i kd (K j)).toInt64) hx hb dL_writeAny_12 rfl ?_
  refine va_last (f := ov) hx hb hK hP hD hS 11 1 rfl rfl (by unfold vp_in; decide) dL_writeAny_13 (fun H locs hP hD hS => ?_)
  have hP : va_P D vwCl (tc_T cI cJ cD cC h0 h1 h2 h3 h4 ad wd rd (tc_Y cJ cD y0 y1 y2 y3 y4 y5 o1 o2 (vp_updL ov 0 ((cdR K Ln j i kd (K j)).toInt64)) od) n K Ln (wrW K Ln Wh j i kd (kMade v kd)) (wrR K Ln Re j i kd (kMade v kd)) (cdR K Ln j i kd (K j)) (noteC ct (cdR K Ln j i kd (K j)))) H := by exact hP
  have hD : va_D A (tc_T cI cJ cD cC h0 h1 h2 h3 h4 ad wd rd (tc_Y cJ cD y0 y1 y2 y3 y4 y5 o1 o2 (vp_updL ov 0 ((cdR K Ln j i kd (K j)).toInt64)) od) n K Ln (wrW K Ln Wh j i kd (kMade v kd)) (wrR K Ln Re j i kd (kMade v kd)) (cdR K Ln j i kd (K j)) (noteC ct (cdR K Ln j i kd (K j)))) := by exact hD
  refine lv_goto (tgt := 25) hx hb dL_writeAny_14 (by decide) ?_
  refine lv_iconst (v := 0) hx hb dL_writeAny_25 (by decide) ?_
  refine vx_ret ?_
  exact W.iret (v := 0) hx hb hr (fun t9 ht9 hW9 => ⟨⟨0, (), rfl, rfl, by rw [ht9]; exact hP, hD⟩, hS.F ht9⟩) hS.2.2 dL_writeAny_26
set_option maxHeartbeats 4000000 in
set_option maxRecDepth 100000 in
theorem lL_copy (l : Launch) (hfl : l.stackTraces = false) (D : va_G) (A : Nat → Prop) (cI cJ cD cC : ClassId) (h0 h1 h2 h3 h4 : Nat) (ad wd rd : Nat → Nat) (y0 y1 y2 y3 y4 y5 : Nat × va_E) (o1 o2 : Nat) (ov : Nat → Int64) (od : Nat → UInt64) (n : Nat) (K : Nat → Int32) (Ln : Nat → Nat) (Wh : Nat → Int64) (Re : Nat → UInt64) (cd : Int32) (ct : Nat → Int32) (sz : Nat) (hI : tcI n K Ln Wh Re) (j : Nat) (hj : j < n) (j2 : Nat) (hj2 : j2 < n) (fi ti mm : Int32) : vx_Met l yL_copy wsL_copy ({ frames := 3, cells := 0, slots := 0, locals := 92 }) (tcPL D A (tcTY cI cJ cD cC) sz [.ref h0, .int (nI j), .int fi, .int (nI j2), .int ti, .int mm, .ref o1] (tc_T cI cJ cD cC h0 h1 h2 h3 h4 ad wd rd (tc_Y cJ cD y0 y1 y2 y3 y4 y5 o1 o2 ov od) n K Ln Wh Re cd ct)) (va_Qi (fun r (_ : Unit) => r = 0) (fun _ t => tcB D A (tc_T cI cJ cD cC h0 h1 h2 h3 h4 ad wd rd (tc_Y cJ cD y0 y1 y2 y3 y4 y5 o1 o2 (vp_updL ov 0 ((cpC K Ln j j2 fi ti mm).toInt64)) od) n K Ln (cpW K Ln Wh j j2 fi ti mm) (cpW K Ln Re j j2 fi ti mm) (cpC K Ln j j2 fi ti mm) (noteC ct (cpC K Ln j j2 fi ti mm))) t) A) (fun _ _ _ => False) 0 0 A := by
  refine vx_ofWH (cc := cL_copy) (maxL := 8) (ret := (some .int)) (hh := [(0, 16, 19, 21)]) (by decide) rfl ?_
  intro p e s m args below meth c s₁ B hml hv
  obtain ⟨rfl, ⟨hsz, hP, hK, hD, hE⟩, hNc⟩ := hv
  have hx := B.exec
  have hb := B.bytes
  have hr := B.returns
  have hts := atoms_spec (ws := wsL_copy) B.pre
  have hown : s.vm.findClass RL = some m.cls := findClass_of_methodNamed B.named
  have hlocks := B.notSynchronized
  have hl := lv_entry ([.ref h0, .int (nI j), .int fi, .int (nI j2), .int ti, .int mm, .ref o1]) (n := 8) (Nat.le_of_ble_eq_true rfl)
  rw [lg_entry_eq]
  generalize (lg_sl ([.ref h0, .int (nI j), .int fi, .int (nI j2), .int ti, .int mm, .ref o1]) ++ List.replicate (8 - (lg_sl ([.ref h0, .int (nI j), .int fi, .int (nI j2), .int ti, .int mm, .ref o1])).length) Slot.unset).toArray = ls at hl ⊢
  have hl : lv_has ls 8 [(0, .ref h0), (1, .int (nI j)), (2, .int fi), (3, .int (nI j2)), (4, .int ti), (5, .int mm), (6, .ref o1)] := hl
  have htb := vx_table (x := yL_copy) B (hts (.codeWith yL_copy cL_copy 8 (some .int) [(0, 16, 19, 21)]) (by unfold wsL_copy; exact List.mem_cons_self))
  subst hsz
  have hS : va_S A s.heap s.heap [] := va_S.rf
  refine lv_aload hx hb dL_copy_0 (lv_at hl 6 rfl) ?_
  refine lv_iconst (v := 0) hx hb dL_copy_2 (by decide) ?_
  refine lv_aload_n hx hb dL_copy_3 rfl (lv_at hl 0 rfl) ?_
  refine lv_iload_n hx hb dL_copy_4 rfl (lv_at hl 1 rfl) ?_
  refine lv_iload_n hx hb dL_copy_5 rfl (lv_at hl 2 rfl) ?_
  refine lv_iload_n hx hb dL_copy_6 rfl (lv_at hl 3 rfl) ?_
  refine lv_iload hx hb dL_copy_7 (lv_at hl 4 rfl) ?_
  refine lv_iload hx hb dL_copy_9 (lv_at hl 5 rfl) ?_
  refine va_calli (va_runV (As := [.int (nI j), .int fi, .int (nI j2), .int ti, .int mm]) (rest := [.int 0, .ref o1]) ⟨hx, hb, hml, hown, hts⟩ (tX2_copy l D A cI cJ cD cC h0 h1 h2 h3 h4 ad wd rd (tc_Y cJ cD y0 y1 y2 y3 y4 y5 o1 o2 ov od) n K Ln Wh Re cd ct s.heap.size hI j hj j2 hj2 fi ti mm) (cwV 5 hts gL_copy_X2_copy rfl rfl rfl (by decide +kernel) ⟨Nat.le_of_ble_eq_true rfl, Nat.le_of_ble_eq_true rfl⟩) ⟨tcP.blind, (va_recv hK hP (ci := 2) (q0 := 0) rfl rfl), (tcP.go hK hP hD hE hS)⟩ rfl rfl hl.1 rfl (lv_room (Nat.le_of_ble_eq_true rfl)) dL_copy_11 ⟨Nat.le_of_ble_eq_true rfl, Nat.le_of_ble_eq_true rfl⟩) hS (fun q _ h => h) (fun q h => h) (fun r_1 u t H locs ht hvm hw hB hz1 hk1 hS => ?_)
  subst hw
  obtain ⟨hP, hD⟩ := hB
  rw [ht] at hP
  refine lv_i2l (v := (cpC K Ln j j2 fi ti mm).toInt64) hx hb dL_copy_14 rfl ?_
  refine va_last (f := ov) hx hb hK hP hD hS 11 1 rfl rfl (by unfold vp_in; decide) dL_copy_15 (fun H locs hP hD hS => ?_)
  have hP : va_P D vwCl (tc_T cI cJ cD cC h0 h1 h2 h3 h4 ad wd rd (tc_Y cJ cD y0 y1 y2 y3 y4 y5 o1 o2 (vp_updL ov 0 ((cpC K Ln j j2 fi ti mm).toInt64)) od) n K Ln (cpW K Ln Wh j j2 fi ti mm) (cpW K Ln Re j j2 fi ti mm) (cpC K Ln j j2 fi ti mm) (noteC ct (cpC K Ln j j2 fi ti mm))) H := by exact hP
  have hD : va_D A (tc_T cI cJ cD cC h0 h1 h2 h3 h4 ad wd rd (tc_Y cJ cD y0 y1 y2 y3 y4 y5 o1 o2 (vp_updL ov 0 ((cpC K Ln j j2 fi ti mm).toInt64)) od) n K Ln (cpW K Ln Wh j j2 fi ti mm) (cpW K Ln Re j j2 fi ti mm) (cpC K Ln j j2 fi ti mm) (noteC ct (cpC K Ln j j2 fi ti mm))) := by exact hD
  refine lv_goto (tgt := 23) hx hb dL_copy_16 (by decide) ?_
  refine lv_iconst (v := 0) hx hb dL_copy_23 (by decide) ?_
  refine vx_ret ?_
  exact W.iret (v := 0) hx hb hr (fun t9 ht9 hW9 => ⟨⟨0, (), rfl, rfl, by rw [ht9]; exact hP, hD⟩, hS.F ht9⟩) hS.2.2 dL_copy_24
set_option maxHeartbeats 4000000 in
set_option maxRecDepth 100000 in
theorem lL_total (l : Launch) (hfl : l.stackTraces = false) (D : va_G) (A : Nat → Prop) (cI cJ cD cC : ClassId) (h0 h1 h2 h3 h4 : Nat) (ad wd rd : Nat → Nat) (y0 y1 y2 y3 y4 y5 : Nat × va_E) (o1 o2 : Nat) (ov : Nat → Int64) (od : Nat → UInt64) (n : Nat) (K : Nat → Int32) (Ln : Nat → Nat) (Wh : Nat → Int64) (Re : Nat → UInt64) (cd : Int32) (ct : Nat → Int32) (sz : Nat) (hI : tcI n K Ln Wh Re) (j : Nat) (hj : j < n) : vx_Met l yL_total wsL_total ({ frames := 4, cells := 0, slots := 0, locals := 90 }) (tcPL D A (tcTY cI cJ cD cC) sz [.ref h0, .int (nI j), .ref o2] (tc_T cI cJ cD cC h0 h1 h2 h3 h4 ad wd rd (tc_Y cJ cD y0 y1 y2 y3 y4 y5 o1 o2 ov od) n K Ln Wh Re cd ct)) (va_Qi (fun r (_ : Unit) => r = 0) (fun _ t => tcB D A (tc_T cI cJ cD cC h0 h1 h2 h3 h4 ad wd rd (tc_Y cJ cD y0 y1 y2 y3 y4 y5 o1 o2 ov (vf_upd od 0 (tot K Ln Wh Re j))) n K Ln Wh Re (kCol (K j)) (noteC ct (kCol (K j)))) t) A) (fun _ _ _ => False) 0 0 A := by
  refine vx_ofWH (cc := cL_total) (maxL := 4) (ret := (some .int)) (hh := [(0, 8, 11, 21)]) (by decide) rfl ?_
  intro p e s m args below meth c s₁ B hml hv
  obtain ⟨rfl, ⟨hsz, hP, hK, hD, hE⟩, hNc⟩ := hv
  have hx := B.exec
  have hb := B.bytes
  have hr := B.returns
  have hts := atoms_spec (ws := wsL_total) B.pre
  have hown : s.vm.findClass RL = some m.cls := findClass_of_methodNamed B.named
  have hlocks := B.notSynchronized
  have hl := lv_entry ([.ref h0, .int (nI j), .ref o2]) (n := 4) (Nat.le_of_ble_eq_true rfl)
  rw [lg_entry_eq]
  generalize (lg_sl ([.ref h0, .int (nI j), .ref o2]) ++ List.replicate (4 - (lg_sl ([.ref h0, .int (nI j), .ref o2])).length) Slot.unset).toArray = ls at hl ⊢
  have hl : lv_has ls 4 [(0, .ref h0), (1, .int (nI j)), (2, .ref o2)] := hl
  have htb := vx_table (x := yL_total) B (hts (.codeWith yL_total cL_total 4 (some .int) [(0, 8, 11, 21)]) (by unfold wsL_total; exact List.mem_cons_self))
  subst hsz
  have hS : va_S A s.heap s.heap [] := va_S.rf
  refine lv_aload_n hx hb dL_total_0 rfl (lv_at hl 2 rfl) ?_
  refine lv_iconst (v := 0) hx hb dL_total_1 (by decide) ?_
  refine lv_aload_n hx hb dL_total_2 rfl (lv_at hl 0 rfl) ?_
  refine lv_iload_n hx hb dL_total_3 rfl (lv_at hl 1 rfl) ?_
  refine va_calld (va_runV (As := [.int (nI j)]) (rest := [.int 0, .ref o2]) ⟨hx, hb, hml, hown, hts⟩ (tX2_total l D A cI cJ cD cC h0 h1 h2 h3 h4 ad wd rd (tc_Y cJ cD y0 y1 y2 y3 y4 y5 o1 o2 ov od) n K Ln Wh Re cd ct s.heap.size hI j hj) (cwV 1 hts gL_total_X2_total rfl rfl rfl (by decide +kernel) ⟨Nat.le_of_ble_eq_true rfl, Nat.le_of_ble_eq_true rfl⟩) ⟨tcP.blind, (va_recv hK hP (ci := 2) (q0 := 0) rfl rfl), (tcP.go hK hP hD hE hS)⟩ rfl rfl hl.1 rfl (lv_room (Nat.le_of_ble_eq_true rfl)) dL_total_4 ⟨Nat.le_of_ble_eq_true rfl, Nat.le_of_ble_eq_true rfl⟩) hS (fun q _ h => h) (fun q h => h) (fun r_1 u t H locs ht hvm hw hB hz1 hk1 hS => ?_)
  subst hw
  obtain ⟨hP, hD⟩ := hB
  rw [ht] at hP
  refine va_dast (f := od) hx hb hK hP hD hS 12 2 rfl rfl (by unfold vp_in; decide) dL_total_7 (fun H locs hP hD hS => ?_)
  have hP : va_P D vwCl (tc_T cI cJ cD cC h0 h1 h2 h3 h4 ad wd rd (tc_Y cJ cD y0 y1 y2 y3 y4 y5 o1 o2 ov (vf_upd od 0 (tot K Ln Wh Re j))) n K Ln Wh Re (kCol (K j)) (noteC ct (kCol (K j)))) H := by exact hP
  have hD : va_D A (tc_T cI cJ cD cC h0 h1 h2 h3 h4 ad wd rd (tc_Y cJ cD y0 y1 y2 y3 y4 y5 o1 o2 ov (vf_upd od 0 (tot K Ln Wh Re j))) n K Ln Wh Re (kCol (K j)) (noteC ct (kCol (K j)))) := by exact hD
  refine lv_goto (tgt := 14) hx hb dL_total_8 (by decide) ?_
  refine lv_iconst (v := 0) hx hb dL_total_14 (by decide) ?_
  refine vx_ret ?_
  exact W.iret (v := 0) hx hb hr (fun t9 ht9 hW9 => ⟨⟨0, (), rfl, rfl, by rw [ht9]; exact hP, hD⟩, hS.F ht9⟩) hS.2.2 dL_total_15
set_option maxHeartbeats 4000000 in
set_option maxRecDepth 100000 in
theorem lL_count (l : Launch) (hfl : l.stackTraces = false) (D : va_G) (A : Nat → Prop) (cI cJ cD cC : ClassId) (h0 h1 h2 h3 h4 : Nat) (ad wd rd : Nat → Nat) (y0 y1 y2 y3 y4 y5 : Nat × va_E) (o1 o2 : Nat) (ov : Nat → Int64) (od : Nat → UInt64) (n : Nat) (K : Nat → Int32) (Ln : Nat → Nat) (Wh : Nat → Int64) (Re : Nat → UInt64) (cd : Int32) (ct : Nat → Int32) (sz : Nat) (hI : tcI n K Ln Wh Re) (cx : Int32) (hk : vp_in cx 6) : vx_Met l yL_count wsL_count ({ frames := 1, cells := 0, slots := 0, locals := 21 }) (tcPL D A (tcTY cI cJ cD cC) sz [.ref h0, .int cx, .ref o1] (tc_T cI cJ cD cC h0 h1 h2 h3 h4 ad wd rd (tc_Y cJ cD y0 y1 y2 y3 y4 y5 o1 o2 ov od) n K Ln Wh Re cd ct)) (va_Qi (fun r (_ : Unit) => r = 0) (fun _ t => tcB D A (tc_T cI cJ cD cC h0 h1 h2 h3 h4 ad wd rd (tc_Y cJ cD y0 y1 y2 y3 y4 y5 o1 o2 (vp_updL ov 0 ((ct cx.toNatClampNeg).toInt64)) od) n K Ln Wh Re cd ct) t) A) (fun _ _ _ => False) 0 0 A := by
  refine vx_ofWH (cc := cL_count) (maxL := 4) (ret := (some .int)) (hh := [(0, 9, 12, 21)]) (by decide) rfl ?_
  intro p e s m args below meth c s₁ B hml hv
  obtain ⟨rfl, ⟨hsz, hP, hK, hD, hE⟩, hNc⟩ := hv
  have hx := B.exec
  have hb := B.bytes
  have hr := B.returns
  have hts := atoms_spec (ws := wsL_count) B.pre
  have hown : s.vm.findClass RL = some m.cls := findClass_of_methodNamed B.named
  have hlocks := B.notSynchronized
  have hl := lv_entry ([.ref h0, .int cx, .ref o1]) (n := 4) (Nat.le_of_ble_eq_true rfl)
  rw [lg_entry_eq]
  generalize (lg_sl ([.ref h0, .int cx, .ref o1]) ++ List.replicate (4 - (lg_sl ([.ref h0, .int cx, .ref o1])).length) Slot.unset).toArray = ls at hl ⊢
  have hl : lv_has ls 4 [(0, .ref h0), (1, .int cx), (2, .ref o1)] := hl
  have htb := vx_table (x := yL_count) B (hts (.codeWith yL_count cL_count 4 (some .int) [(0, 9, 12, 21)]) (by unfold wsL_count; exact List.mem_cons_self))
  subst hsz
  have hS : va_S A s.heap s.heap [] := va_S.rf
  refine lv_aload_n hx hb dL_count_0 rfl (lv_at hl 2 rfl) ?_
  refine lv_iconst (v := 0) hx hb dL_count_1 (by decide) ?_
  refine lv_aload_n hx hb dL_count_2 rfl (lv_at hl 0 rfl) ?_
  refine lv_iload_n hx hb dL_count_3 rfl (lv_at hl 1 rfl) ?_
  refine vp_callSi (tc_CR (va_runV (As := [.int cx]) (rest := [.int 0, .ref o1]) ⟨hx, hb, hml, hown, hts⟩ (tX2_count l D A cI cJ cD cC h0 h1 h2 h3 h4 ad wd rd (tc_Y cJ cD y0 y1 y2 y3 y4 y5 o1 o2 ov od) n K Ln Wh Re cd ct s.heap.size hI cx hk) (cwV 1 hts gL_count_X2_count rfl rfl rfl (by decide +kernel) ⟨Nat.le_of_ble_eq_true rfl, Nat.le_of_ble_eq_true rfl⟩) ⟨tcP.blind, (va_recv hK hP (ci := 2) (q0 := 0) rfl rfl), (tcP.go hK hP hD hE hS)⟩ rfl rfl hl.1 rfl (lv_room (Nat.le_of_ble_eq_true rfl)) dL_count_4 ⟨Nat.le_of_ble_eq_true rfl, Nat.le_of_ble_eq_true rfl⟩)) (fun r_1 hr_1 => ?_)
  subst hr_1
  refine lv_i2l (v := (ct cx.toNatClampNeg).toInt64) hx hb dL_count_7 rfl ?_
  refine va_last (f := ov) hx hb hK hP hD hS 11 1 rfl rfl (by unfold vp_in; decide) dL_count_8 (fun H locs hP hD hS => ?_)
  have hP : va_P D vwCl (tc_T cI cJ cD cC h0 h1 h2 h3 h4 ad wd rd (tc_Y cJ cD y0 y1 y2 y3 y4 y5 o1 o2 (vp_updL ov 0 ((ct cx.toNatClampNeg).toInt64)) od) n K Ln Wh Re cd ct) H := by exact hP
  have hD : va_D A (tc_T cI cJ cD cC h0 h1 h2 h3 h4 ad wd rd (tc_Y cJ cD y0 y1 y2 y3 y4 y5 o1 o2 (vp_updL ov 0 ((ct cx.toNatClampNeg).toInt64)) od) n K Ln Wh Re cd ct) := by exact hD
  refine lv_goto (tgt := 15) hx hb dL_count_9 (by decide) ?_
  refine lv_iconst (v := 0) hx hb dL_count_15 (by decide) ?_
  refine vx_ret ?_
  exact W.iret (v := 0) hx hb hr (fun t9 ht9 hW9 => ⟨⟨0, (), rfl, rfl, by rw [ht9]; exact hP, hD⟩, hS.F ht9⟩) hS.2.2 dL_count_16
set_option maxHeartbeats 4000000 in
set_option maxRecDepth 100000 in
theorem lL_hasCells (l : Launch) (hfl : l.stackTraces = false) (D : va_G) (A : Nat → Prop) (cI cJ cD cC : ClassId) (h0 h1 h2 h3 h4 : Nat) (ad wd rd : Nat → Nat) (y0 y1 y2 y3 y4 y5 : Nat × va_E) (o1 o2 : Nat) (ov : Nat → Int64) (od : Nat → UInt64) (n : Nat) (K : Nat → Int32) (Ln : Nat → Nat) (Wh : Nat → Int64) (Re : Nat → UInt64) (cd : Int32) (ct : Nat → Int32) (sz : Nat) (hI : tcI n K Ln Wh Re) (k : Int32) (hk : kIs k = true) : vx_Met l yL_hasCells wsL_hasCells ({ frames := 3, cells := 0, slots := 0, locals := 61 }) (tcPL D A (tcTY cI cJ cD cC) sz [.ref h0, .int k, .ref o1] (tc_T cI cJ cD cC h0 h1 h2 h3 h4 ad wd rd (tc_Y cJ cD y0 y1 y2 y3 y4 y5 o1 o2 ov od) n K Ln Wh Re cd ct)) (va_Qi (fun r (_ : Unit) => r = 0) (fun _ t => tcB D A (tc_T cI cJ cD cC h0 h1 h2 h3 h4 ad wd rd (tc_Y cJ cD y0 y1 y2 y3 y4 y5 o1 o2 (vp_updL ov 0 ((tb (kHas k)).toInt64)) od) n K Ln Wh Re cd ct) t) A) (fun _ _ _ => False) 0 0 A := by
  refine vx_ofWH (cc := cL_hasCells) (maxL := 4) (ret := (some .int)) (hh := [(0, 16, 19, 21)]) (by decide) rfl ?_
  intro p e s m args below meth c s₁ B hml hv
  obtain ⟨rfl, ⟨hsz, hP, hK, hD, hE⟩, hNc⟩ := hv
  have hx := B.exec
  have hb := B.bytes
  have hr := B.returns
  have hts := atoms_spec (ws := wsL_hasCells) B.pre
  have hown : s.vm.findClass RL = some m.cls := findClass_of_methodNamed B.named
  have hlocks := B.notSynchronized
  have hl := lv_entry ([.ref h0, .int k, .ref o1]) (n := 4) (Nat.le_of_ble_eq_true rfl)
  rw [lg_entry_eq]
  generalize (lg_sl ([.ref h0, .int k, .ref o1]) ++ List.replicate (4 - (lg_sl ([.ref h0, .int k, .ref o1])).length) Slot.unset).toArray = ls at hl ⊢
  have hl : lv_has ls 4 [(0, .ref h0), (1, .int k), (2, .ref o1)] := hl
  have htb := vx_table (x := yL_hasCells) B (hts (.codeWith yL_hasCells cL_hasCells 4 (some .int) [(0, 16, 19, 21)]) (by unfold wsL_hasCells; exact List.mem_cons_self))
  subst hsz
  have hS : va_S A s.heap s.heap [] := va_S.rf
  refine lv_aload_n hx hb dL_hasCells_0 rfl (lv_at hl 2 rfl) ?_
  refine lv_iconst (v := 0) hx hb dL_hasCells_1 (by decide) ?_
  refine lv_aload_n hx hb dL_hasCells_2 rfl (lv_at hl 0 rfl) ?_
  refine lv_iload_n hx hb dL_hasCells_3 rfl (lv_at hl 1 rfl) ?_
  refine vp_callSi (tc_CR (va_runV (As := [.int k]) (rest := [.int 0, .ref o1]) ⟨hx, hb, hml, hown, hts⟩ (tX2_hasCells l D A cI cJ cD cC h0 h1 h2 h3 h4 ad wd rd (tc_Y cJ cD y0 y1 y2 y3 y4 y5 o1 o2 ov od) n K Ln Wh Re cd ct s.heap.size hI k hk) (cwV 1 hts gL_hasCells_X2_hasCells rfl rfl rfl (by decide +kernel) ⟨Nat.le_of_ble_eq_true rfl, Nat.le_of_ble_eq_true rfl⟩) ⟨tcP.blind, (va_recv hK hP (ci := 2) (q0 := 0) rfl rfl), (tcP.go hK hP hD hE hS)⟩ rfl rfl hl.1 rfl (lv_room (Nat.le_of_ble_eq_true rfl)) dL_hasCells_4 ⟨Nat.le_of_ble_eq_true rfl, Nat.le_of_ble_eq_true rfl⟩)) (fun r_1 hr_1 => ?_)
  subst hr_1
  refine lv_if_eq (tgt := 14) hx hb dL_hasCells_7 (by decide) (fun c_2 => ?_) (fun c_2 => ?_)
  · refine lv_lconst (v := 0) hx hb dL_hasCells_14 (by decide) ?_
    refine va_last (f := ov) hx hb hK hP hD hS 11 1 rfl rfl (by unfold vp_in; decide) dL_hasCells_15 (fun H locs hP hD hS => ?_)
    have hP : va_P D vwCl (tc_T cI cJ cD cC h0 h1 h2 h3 h4 ad wd rd (tc_Y cJ cD y0 y1 y2 y3 y4 y5 o1 o2 (vp_updL ov 0 ((tb (kHas k)).toInt64)) od) n K Ln Wh Re cd ct) H := by rw [tbL0 c_2]; exact hP
    have hD : va_D A (tc_T cI cJ cD cC h0 h1 h2 h3 h4 ad wd rd (tc_Y cJ cD y0 y1 y2 y3 y4 y5 o1 o2 (vp_updL ov 0 ((tb (kHas k)).toInt64)) od) n K Ln Wh Re cd ct) := by rw [tbL0 c_2]; exact hD
    refine lv_goto (tgt := 22) hx hb dL_hasCells_16 (by decide) ?_
    refine lv_iconst (v := 0) hx hb dL_hasCells_22 (by decide) ?_
    refine vx_ret ?_
    exact W.iret (v := 0) hx hb hr (fun t9 ht9 hW9 => ⟨⟨0, (), rfl, rfl, by rw [ht9]; exact hP, hD⟩, hS.F ht9⟩) hS.2.2 dL_hasCells_23
  · refine lv_lconst (v := 1) hx hb dL_hasCells_10 (by decide) ?_
    refine lv_goto (tgt := 15) hx hb dL_hasCells_11 (by decide) ?_
    refine va_last (f := ov) hx hb hK hP hD hS 11 1 rfl rfl (by unfold vp_in; decide) dL_hasCells_15 (fun H locs hP hD hS => ?_)
    have hP : va_P D vwCl (tc_T cI cJ cD cC h0 h1 h2 h3 h4 ad wd rd (tc_Y cJ cD y0 y1 y2 y3 y4 y5 o1 o2 (vp_updL ov 0 ((tb (kHas k)).toInt64)) od) n K Ln Wh Re cd ct) H := by rw [tbL1 c_2]; exact hP
    have hD : va_D A (tc_T cI cJ cD cC h0 h1 h2 h3 h4 ad wd rd (tc_Y cJ cD y0 y1 y2 y3 y4 y5 o1 o2 (vp_updL ov 0 ((tb (kHas k)).toInt64)) od) n K Ln Wh Re cd ct) := by rw [tbL1 c_2]; exact hD
    refine lv_goto (tgt := 22) hx hb dL_hasCells_16 (by decide) ?_
    refine lv_iconst (v := 0) hx hb dL_hasCells_22 (by decide) ?_
    refine vx_ret ?_
    exact W.iret (v := 0) hx hb hr (fun t9 ht9 hW9 => ⟨⟨0, (), rfl, rfl, by rw [ht9]; exact hP, hD⟩, hS.F ht9⟩) hS.2.2 dL_hasCells_23
set_option maxHeartbeats 4000000 in
set_option maxRecDepth 100000 in
theorem lL_isNumber (l : Launch) (hfl : l.stackTraces = false) (D : va_G) (A : Nat → Prop) (cI cJ cD cC : ClassId) (h0 h1 h2 h3 h4 : Nat) (ad wd rd : Nat → Nat) (y0 y1 y2 y3 y4 y5 : Nat × va_E) (o1 o2 : Nat) (ov : Nat → Int64) (od : Nat → UInt64) (n : Nat) (K : Nat → Int32) (Ln : Nat → Nat) (Wh : Nat → Int64) (Re : Nat → UInt64) (cd : Int32) (ct : Nat → Int32) (sz : Nat) (hI : tcI n K Ln Wh Re) (k : Int32) (hk : kIs k = true) : vx_Met l yL_isNumber wsL_isNumber ({ frames := 3, cells := 0, slots := 0, locals := 61 }) (tcPL D A (tcTY cI cJ cD cC) sz [.ref h0, .int k, .ref o1] (tc_T cI cJ cD cC h0 h1 h2 h3 h4 ad wd rd (tc_Y cJ cD y0 y1 y2 y3 y4 y5 o1 o2 ov od) n K Ln Wh Re cd ct)) (va_Qi (fun r (_ : Unit) => r = 0) (fun _ t => tcB D A (tc_T cI cJ cD cC h0 h1 h2 h3 h4 ad wd rd (tc_Y cJ cD y0 y1 y2 y3 y4 y5 o1 o2 (vp_updL ov 0 ((tb (kNum k)).toInt64)) od) n K Ln Wh Re cd ct) t) A) (fun _ _ _ => False) 0 0 A := by
  refine vx_ofWH (cc := cL_isNumber) (maxL := 4) (ret := (some .int)) (hh := [(0, 16, 19, 21)]) (by decide) rfl ?_
  intro p e s m args below meth c s₁ B hml hv
  obtain ⟨rfl, ⟨hsz, hP, hK, hD, hE⟩, hNc⟩ := hv
  have hx := B.exec
  have hb := B.bytes
  have hr := B.returns
  have hts := atoms_spec (ws := wsL_isNumber) B.pre
  have hown : s.vm.findClass RL = some m.cls := findClass_of_methodNamed B.named
  have hlocks := B.notSynchronized
  have hl := lv_entry ([.ref h0, .int k, .ref o1]) (n := 4) (Nat.le_of_ble_eq_true rfl)
  rw [lg_entry_eq]
  generalize (lg_sl ([.ref h0, .int k, .ref o1]) ++ List.replicate (4 - (lg_sl ([.ref h0, .int k, .ref o1])).length) Slot.unset).toArray = ls at hl ⊢
  have hl : lv_has ls 4 [(0, .ref h0), (1, .int k), (2, .ref o1)] := hl
  have htb := vx_table (x := yL_isNumber) B (hts (.codeWith yL_isNumber cL_isNumber 4 (some .int) [(0, 16, 19, 21)]) (by unfold wsL_isNumber; exact List.mem_cons_self))
  subst hsz
  have hS : va_S A s.heap s.heap [] := va_S.rf
  refine lv_aload_n hx hb dL_isNumber_0 rfl (lv_at hl 2 rfl) ?_
  refine lv_iconst (v := 0) hx hb dL_isNumber_1 (by decide) ?_
  refine lv_aload_n hx hb dL_isNumber_2 rfl (lv_at hl 0 rfl) ?_
  refine lv_iload_n hx hb dL_isNumber_3 rfl (lv_at hl 1 rfl) ?_
  refine vp_callSi (tc_CR (va_runV (As := [.int k]) (rest := [.int 0, .ref o1]) ⟨hx, hb, hml, hown, hts⟩ (tX2_isNumber l D A cI cJ cD cC h0 h1 h2 h3 h4 ad wd rd (tc_Y cJ cD y0 y1 y2 y3 y4 y5 o1 o2 ov od) n K Ln Wh Re cd ct s.heap.size hI k hk) (cwV 1 hts gL_isNumber_X2_isNumber rfl rfl rfl (by decide +kernel) ⟨Nat.le_of_ble_eq_true rfl, Nat.le_of_ble_eq_true rfl⟩) ⟨tcP.blind, (va_recv hK hP (ci := 2) (q0 := 0) rfl rfl), (tcP.go hK hP hD hE hS)⟩ rfl rfl hl.1 rfl (lv_room (Nat.le_of_ble_eq_true rfl)) dL_isNumber_4 ⟨Nat.le_of_ble_eq_true rfl, Nat.le_of_ble_eq_true rfl⟩)) (fun r_1 hr_1 => ?_)
  subst hr_1
  refine lv_if_eq (tgt := 14) hx hb dL_isNumber_7 (by decide) (fun c_2 => ?_) (fun c_2 => ?_)
  · refine lv_lconst (v := 0) hx hb dL_isNumber_14 (by decide) ?_
    refine va_last (f := ov) hx hb hK hP hD hS 11 1 rfl rfl (by unfold vp_in; decide) dL_isNumber_15 (fun H locs hP hD hS => ?_)
    have hP : va_P D vwCl (tc_T cI cJ cD cC h0 h1 h2 h3 h4 ad wd rd (tc_Y cJ cD y0 y1 y2 y3 y4 y5 o1 o2 (vp_updL ov 0 ((tb (kNum k)).toInt64)) od) n K Ln Wh Re cd ct) H := by rw [tbL0 c_2]; exact hP
    have hD : va_D A (tc_T cI cJ cD cC h0 h1 h2 h3 h4 ad wd rd (tc_Y cJ cD y0 y1 y2 y3 y4 y5 o1 o2 (vp_updL ov 0 ((tb (kNum k)).toInt64)) od) n K Ln Wh Re cd ct) := by rw [tbL0 c_2]; exact hD
    refine lv_goto (tgt := 22) hx hb dL_isNumber_16 (by decide) ?_
    refine lv_iconst (v := 0) hx hb dL_isNumber_22 (by decide) ?_
    refine vx_ret ?_
    exact W.iret (v := 0) hx hb hr (fun t9 ht9 hW9 => ⟨⟨0, (), rfl, rfl, by rw [ht9]; exact hP, hD⟩, hS.F ht9⟩) hS.2.2 dL_isNumber_23
  · refine lv_lconst (v := 1) hx hb dL_isNumber_10 (by decide) ?_
    refine lv_goto (tgt := 15) hx hb dL_isNumber_11 (by decide) ?_
    refine va_last (f := ov) hx hb hK hP hD hS 11 1 rfl rfl (by unfold vp_in; decide) dL_isNumber_15 (fun H locs hP hD hS => ?_)
    have hP : va_P D vwCl (tc_T cI cJ cD cC h0 h1 h2 h3 h4 ad wd rd (tc_Y cJ cD y0 y1 y2 y3 y4 y5 o1 o2 (vp_updL ov 0 ((tb (kNum k)).toInt64)) od) n K Ln Wh Re cd ct) H := by rw [tbL1 c_2]; exact hP
    have hD : va_D A (tc_T cI cJ cD cC h0 h1 h2 h3 h4 ad wd rd (tc_Y cJ cD y0 y1 y2 y3 y4 y5 o1 o2 (vp_updL ov 0 ((tb (kNum k)).toInt64)) od) n K Ln Wh Re cd ct) := by rw [tbL1 c_2]; exact hD
    refine lv_goto (tgt := 22) hx hb dL_isNumber_16 (by decide) ?_
    refine lv_iconst (v := 0) hx hb dL_isNumber_22 (by decide) ?_
    refine vx_ret ?_
    exact W.iret (v := 0) hx hb hr (fun t9 ht9 hW9 => ⟨⟨0, (), rfl, rfl, by rw [ht9]; exact hP, hD⟩, hS.F ht9⟩) hS.2.2 dL_isNumber_23
set_option maxHeartbeats 4000000 in
set_option maxRecDepth 100000 in
theorem lL_canWiden (l : Launch) (hfl : l.stackTraces = false) (D : va_G) (A : Nat → Prop) (cI cJ cD cC : ClassId) (h0 h1 h2 h3 h4 : Nat) (ad wd rd : Nat → Nat) (y0 y1 y2 y3 y4 y5 : Nat × va_E) (o1 o2 : Nat) (ov : Nat → Int64) (od : Nat → UInt64) (n : Nat) (K : Nat → Int32) (Ln : Nat → Nat) (Wh : Nat → Int64) (Re : Nat → UInt64) (cd : Int32) (ct : Nat → Int32) (sz : Nat) (hI : tcI n K Ln Wh Re) (k k2 : Int32) (hk : kIs k = true) (hk2 : kIs k2 = true) : vx_Met l yL_canWiden wsL_canWiden ({ frames := 3, cells := 0, slots := 0, locals := 63 }) (tcPL D A (tcTY cI cJ cD cC) sz [.ref h0, .int k, .int k2, .ref o1] (tc_T cI cJ cD cC h0 h1 h2 h3 h4 ad wd rd (tc_Y cJ cD y0 y1 y2 y3 y4 y5 o1 o2 ov od) n K Ln Wh Re cd ct)) (va_Qi (fun r (_ : Unit) => r = 0) (fun _ t => tcB D A (tc_T cI cJ cD cC h0 h1 h2 h3 h4 ad wd rd (tc_Y cJ cD y0 y1 y2 y3 y4 y5 o1 o2 (vp_updL ov 0 ((tb (kWid k k2)).toInt64)) od) n K Ln Wh Re cd ct) t) A) (fun _ _ _ => False) 0 0 A := by
  refine vx_ofWH (cc := cL_canWiden) (maxL := 5) (ret := (some .int)) (hh := [(0, 17, 20, 21)]) (by decide) rfl ?_
  intro p e s m args below meth c s₁ B hml hv
  obtain ⟨rfl, ⟨hsz, hP, hK, hD, hE⟩, hNc⟩ := hv
  have hx := B.exec
  have hb := B.bytes
  have hr := B.returns
  have hts := atoms_spec (ws := wsL_canWiden) B.pre
  have hown : s.vm.findClass RL = some m.cls := findClass_of_methodNamed B.named
  have hlocks := B.notSynchronized
  have hl := lv_entry ([.ref h0, .int k, .int k2, .ref o1]) (n := 5) (Nat.le_of_ble_eq_true rfl)
  rw [lg_entry_eq]
  generalize (lg_sl ([.ref h0, .int k, .int k2, .ref o1]) ++ List.replicate (5 - (lg_sl ([.ref h0, .int k, .int k2, .ref o1])).length) Slot.unset).toArray = ls at hl ⊢
  have hl : lv_has ls 5 [(0, .ref h0), (1, .int k), (2, .int k2), (3, .ref o1)] := hl
  have htb := vx_table (x := yL_canWiden) B (hts (.codeWith yL_canWiden cL_canWiden 5 (some .int) [(0, 17, 20, 21)]) (by unfold wsL_canWiden; exact List.mem_cons_self))
  subst hsz
  have hS : va_S A s.heap s.heap [] := va_S.rf
  refine lv_aload_n hx hb dL_canWiden_0 rfl (lv_at hl 3 rfl) ?_
  refine lv_iconst (v := 0) hx hb dL_canWiden_1 (by decide) ?_
  refine lv_aload_n hx hb dL_canWiden_2 rfl (lv_at hl 0 rfl) ?_
  refine lv_iload_n hx hb dL_canWiden_3 rfl (lv_at hl 1 rfl) ?_
  refine lv_iload_n hx hb dL_canWiden_4 rfl (lv_at hl 2 rfl) ?_
  refine vp_callSi (tc_CR (va_runV (As := [.int k, .int k2]) (rest := [.int 0, .ref o1]) ⟨hx, hb, hml, hown, hts⟩ (tX2_canWiden l D A cI cJ cD cC h0 h1 h2 h3 h4 ad wd rd (tc_Y cJ cD y0 y1 y2 y3 y4 y5 o1 o2 ov od) n K Ln Wh Re cd ct s.heap.size hI k k2 hk hk2) (cwV 2 hts gL_canWiden_X2_canWiden rfl rfl rfl (by decide +kernel) ⟨Nat.le_of_ble_eq_true rfl, Nat.le_of_ble_eq_true rfl⟩) ⟨tcP.blind, (va_recv hK hP (ci := 2) (q0 := 0) rfl rfl), (tcP.go hK hP hD hE hS)⟩ rfl rfl hl.1 rfl (lv_room (Nat.le_of_ble_eq_true rfl)) dL_canWiden_5 ⟨Nat.le_of_ble_eq_true rfl, Nat.le_of_ble_eq_true rfl⟩)) (fun r_1 hr_1 => ?_)
  subst hr_1
  refine lv_if_eq (tgt := 15) hx hb dL_canWiden_8 (by decide) (fun c_2 => ?_) (fun c_2 => ?_)
  · refine lv_lconst (v := 0) hx hb dL_canWiden_15 (by decide) ?_
    refine va_last (f := ov) hx hb hK hP hD hS 11 1 rfl rfl (by unfold vp_in; decide) dL_canWiden_16 (fun H locs hP hD hS => ?_)
    have hP : va_P D vwCl (tc_T cI cJ cD cC h0 h1 h2 h3 h4 ad wd rd (tc_Y cJ cD y0 y1 y2 y3 y4 y5 o1 o2 (vp_updL ov 0 ((tb (kWid k k2)).toInt64)) od) n K Ln Wh Re cd ct) H := by rw [tbL0 c_2]; exact hP
    have hD : va_D A (tc_T cI cJ cD cC h0 h1 h2 h3 h4 ad wd rd (tc_Y cJ cD y0 y1 y2 y3 y4 y5 o1 o2 (vp_updL ov 0 ((tb (kWid k k2)).toInt64)) od) n K Ln Wh Re cd ct) := by rw [tbL0 c_2]; exact hD
    refine lv_goto (tgt := 24) hx hb dL_canWiden_17 (by decide) ?_
    refine lv_iconst (v := 0) hx hb dL_canWiden_24 (by decide) ?_
    refine vx_ret ?_
    exact W.iret (v := 0) hx hb hr (fun t9 ht9 hW9 => ⟨⟨0, (), rfl, rfl, by rw [ht9]; exact hP, hD⟩, hS.F ht9⟩) hS.2.2 dL_canWiden_25
  · refine lv_lconst (v := 1) hx hb dL_canWiden_11 (by decide) ?_
    refine lv_goto (tgt := 16) hx hb dL_canWiden_12 (by decide) ?_
    refine va_last (f := ov) hx hb hK hP hD hS 11 1 rfl rfl (by unfold vp_in; decide) dL_canWiden_16 (fun H locs hP hD hS => ?_)
    have hP : va_P D vwCl (tc_T cI cJ cD cC h0 h1 h2 h3 h4 ad wd rd (tc_Y cJ cD y0 y1 y2 y3 y4 y5 o1 o2 (vp_updL ov 0 ((tb (kWid k k2)).toInt64)) od) n K Ln Wh Re cd ct) H := by rw [tbL1 c_2]; exact hP
    have hD : va_D A (tc_T cI cJ cD cC h0 h1 h2 h3 h4 ad wd rd (tc_Y cJ cD y0 y1 y2 y3 y4 y5 o1 o2 (vp_updL ov 0 ((tb (kWid k k2)).toInt64)) od) n K Ln Wh Re cd ct) := by rw [tbL1 c_2]; exact hD
    refine lv_goto (tgt := 24) hx hb dL_canWiden_17 (by decide) ?_
    refine lv_iconst (v := 0) hx hb dL_canWiden_24 (by decide) ?_
    refine vx_ret ?_
    exact W.iret (v := 0) hx hb hr (fun t9 ht9 hW9 => ⟨⟨0, (), rfl, rfl, by rw [ht9]; exact hP, hD⟩, hS.F ht9⟩) hS.2.2 dL_canWiden_25
set_option maxHeartbeats 4000000 in
set_option maxRecDepth 100000 in
theorem lL_create (l : Launch) (hfl : l.stackTraces = false) (D : va_G) (A : Nat → Prop) (cI cJ cD cC : ClassId) (h0 h1 h2 h3 h4 : Nat) (ad wd rd : Nat → Nat) (y0 y1 y2 y3 y4 y5 : Nat × va_E) (o1 o2 : Nat) (ov : Nat → Int64) (od : Nat → UInt64) (n : Nat) (K : Nat → Int32) (Ln : Nat → Nat) (Wh : Nat → Int64) (Re : Nat → UInt64) (cd : Int32) (ct : Nat → Int32) (sz : Nat) (hI : tcI n K Ln Wh Re) (hn : n < 60) (kd len : Int32) (N : Nat) (hN : N ≤ 40) (hk : kIs kd = true) (hlen : kHas kd = true → len = nI N) (hz : kHas kd = false → N = 0) (hA : ∀ q, sz ≤ q → A q) : vx_Met l yL_create wsL_create ({ frames := 3, cells := 3, slots := 44, locals := 65 }) (tcPL D A (tcTY cI cJ cD cC) sz [.ref h0, .int kd, .int len, .ref o1] (tc_T cI cJ cD cC h0 h1 h2 h3 h4 ad wd rd (tc_Y cJ cD y0 y1 y2 y3 y4 y5 o1 o2 ov od) n K Ln Wh Re cd ct)) (va_Qi (fun r (_ : Nat × Nat × Nat) => r = 0) (fun u t => tcB D A (tc_T cI cJ cD cC h0 h1 h2 h3 h4 (va_up ad n u.1) (va_up wd n u.2.1) (va_up rd n u.2.2) (tc_Y cJ cD y0 y1 y2 y3 y4 y5 o1 o2 (vp_updL ov 0 ((nI n).toInt64)) od) (n + 1) (va_up K n kd) (va_up Ln n N) (tc_put n 0 (fun _ => 0) 0 Wh) (tc_put n 0 (fun _ => 0) 0 Re) cd ct) t) A) (fun _ _ _ => False) 3 44 A := by
  refine vx_ofWH (cc := cL_create) (maxL := 5) (ret := (some .int)) (hh := [(0, 10, 13, 13), (0, 10, 17, 15)]) (by decide) rfl ?_
  intro p e s m args below meth c s₁ B hml hv
  obtain ⟨rfl, ⟨hsz, hP, hK, hD, hE⟩, hNc⟩ := hv
  have hx := B.exec
  have hb := B.bytes
  have hr := B.returns
  have hts := atoms_spec (ws := wsL_create) B.pre
  have hown : s.vm.findClass RL = some m.cls := findClass_of_methodNamed B.named
  have hlocks := B.notSynchronized
  have hl := lv_entry ([.ref h0, .int kd, .int len, .ref o1]) (n := 5) (Nat.le_of_ble_eq_true rfl)
  rw [lg_entry_eq]
  generalize (lg_sl ([.ref h0, .int kd, .int len, .ref o1]) ++ List.replicate (5 - (lg_sl ([.ref h0, .int kd, .int len, .ref o1])).length) Slot.unset).toArray = ls at hl ⊢
  have hl : lv_has ls 5 [(0, .ref h0), (1, .int kd), (2, .int len), (3, .ref o1)] := hl
  have htb := vx_table (x := yL_create) B (hts (.codeWith yL_create cL_create 5 (some .int) [(0, 10, 13, 13), (0, 10, 17, 15)]) (by unfold wsL_create; exact List.mem_cons_self))
  subst hsz
  have hS : va_S A s.heap s.heap [] := va_S.rf
  refine lv_aload_n hx hb dL_create_0 rfl (lv_at hl 3 rfl) ?_
  refine lv_iconst (v := 0) hx hb dL_create_1 (by decide) ?_
  refine lv_aload_n hx hb dL_create_2 rfl (lv_at hl 0 rfl) ?_
  refine lv_iload_n hx hb dL_create_3 rfl (lv_at hl 1 rfl) ?_
  refine lv_iload_n hx hb dL_create_4 rfl (lv_at hl 2 rfl) ?_
  refine va_calli (va_runV (As := [.int kd, .int len]) (rest := [.int 0, .ref o1]) ⟨hx, hb, hml, hown, hts⟩ (tX2_create l D A cI cJ cD cC h0 h1 h2 h3 h4 ad wd rd (tc_Y cJ cD y0 y1 y2 y3 y4 y5 o1 o2 ov od) n K Ln Wh Re cd ct s.heap.size hI hn kd len N hN hk hlen hz (fun q h => hA q (Nat.le_trans hS.1 h))) (cwV 2 hts gL_create_X2_create rfl rfl rfl (by decide +kernel) ⟨Nat.le_of_ble_eq_true rfl, Nat.le_of_ble_eq_true rfl⟩) ⟨tcP.blind, (va_recv hK hP (ci := 2) (q0 := 0) rfl rfl), (tcP.go hK hP hD hE hS)⟩ rfl rfl hl.1 rfl (lv_room (Nat.le_of_ble_eq_true rfl)) dL_create_5 ⟨Nat.le_of_ble_eq_true rfl, Nat.le_of_ble_eq_true rfl⟩) hS (fun q _ h => h) (fun q h => h) (fun r_1 u t H locs ht hvm hw hB hz1 hk1 hS => ?_)
  subst hw
  obtain ⟨hP, hD⟩ := hB
  rw [ht] at hP
  refine lv_i2l (v := (nI n).toInt64) hx hb dL_create_8 rfl ?_
  refine va_last (f := ov) hx hb hK hP hD hS 11 1 rfl rfl (by unfold vp_in; decide) dL_create_9 (fun H locs hP hD hS => ?_)
  have hP : va_P D vwCl (tc_T cI cJ cD cC h0 h1 h2 h3 h4 (va_up ad n u.1) (va_up wd n u.2.1) (va_up rd n u.2.2) (tc_Y cJ cD y0 y1 y2 y3 y4 y5 o1 o2 (vp_updL ov 0 ((nI n).toInt64)) od) (n + 1) (va_up K n kd) (va_up Ln n N) (tc_put n 0 (fun _ => 0) 0 Wh) (tc_put n 0 (fun _ => 0) 0 Re) cd ct) H := by exact hP
  have hD : va_D A (tc_T cI cJ cD cC h0 h1 h2 h3 h4 (va_up ad n u.1) (va_up wd n u.2.1) (va_up rd n u.2.2) (tc_Y cJ cD y0 y1 y2 y3 y4 y5 o1 o2 (vp_updL ov 0 ((nI n).toInt64)) od) (n + 1) (va_up K n kd) (va_up Ln n N) (tc_put n 0 (fun _ => 0) 0 Wh) (tc_put n 0 (fun _ => 0) 0 Re) cd ct) := by exact hD
  refine lv_goto (tgt := 21) hx hb dL_create_10 (by decide) ?_
  refine lv_iconst (v := 0) hx hb dL_create_21 (by decide) ?_
  refine vx_ret ?_
  exact W.iret (v := 0) hx hb hr (fun t9 ht9 hW9 => ⟨⟨0, u, rfl, rfl, by rw [ht9]; exact hP, hD⟩, hS.F ht9⟩) hS.2.2 dL_create_22
set_option maxHeartbeats 4000000 in
set_option maxRecDepth 100000 in
theorem lL_widened (l : Launch) (hfl : l.stackTraces = false) (D : va_G) (A : Nat → Prop) (cI cJ cD cC : ClassId) (h0 h1 h2 h3 h4 : Nat) (ad wd rd : Nat → Nat) (y0 y1 y2 y3 y4 y5 : Nat × va_E) (o1 o2 : Nat) (ov : Nat → Int64) (od : Nat → UInt64) (n : Nat) (K : Nat → Int32) (Ln : Nat → Nat) (Wh : Nat → Int64) (Re : Nat → UInt64) (cd : Int32) (ct : Nat → Int32) (sz : Nat) (hI : tcI n K Ln Wh Re) (j : Nat) (hj : j < n) (hn : n < 60) (kd : Int32) (hk : kHas kd = true) (hc : wdC K j kd = 0) (hA : ∀ q, sz ≤ q → A q) : vx_Met l yL_widened wsL_widened ({ frames := 4, cells := 3, slots := 44, locals := 93 }) (tcPL D A (tcTY cI cJ cD cC) sz [.ref h0, .int (nI j), .int kd, .ref o1] (tc_T cI cJ cD cC h0 h1 h2 h3 h4 ad wd rd (tc_Y cJ cD y0 y1 y2 y3 y4 y5 o1 o2 ov od) n K Ln Wh Re cd ct)) (va_Qi (fun r (_ : Nat × Nat × Nat) => r = 0) (fun u t => tcB D A (tc_T cI cJ cD cC h0 h1 h2 h3 h4 (va_up ad n u.1) (va_up wd n u.2.1) (va_up rd n u.2.2) (tc_Y cJ cD y0 y1 y2 y3 y4 y5 o1 o2 (vp_updL ov 0 ((nI n).toInt64)) od) (n + 1) (va_up K n kd) (va_up Ln n (Ln j)) (tc_put n (Ln j) (fun i => Wh (40 * j + i)) 0 Wh) (tc_put n (Ln j) (wdV K Wh Re j kd) 0 Re) 0 (noteC ct 0)) t) A) (fun _ _ _ => False) 3 44 A := by
  refine vx_ofWH (cc := cL_widened) (maxL := 5) (ret := (some .int)) (hh := [(0, 10, 13, 21), (0, 10, 17, 13), (0, 10, 21, 15)]) (by decide) rfl ?_
  intro p e s m args below meth c s₁ B hml hv
  obtain ⟨rfl, ⟨hsz, hP, hK, hD, hE⟩, hNc⟩ := hv
  have hx := B.exec
  have hb := B.bytes
  have hr := B.returns
  have hts := atoms_spec (ws := wsL_widened) B.pre
  have hown : s.vm.findClass RL = some m.cls := findClass_of_methodNamed B.named
  have hlocks := B.notSynchronized
  have hl := lv_entry ([.ref h0, .int (nI j), .int kd, .ref o1]) (n := 5) (Nat.le_of_ble_eq_true rfl)
  rw [lg_entry_eq]
  generalize (lg_sl ([.ref h0, .int (nI j), .int kd, .ref o1]) ++ List.replicate (5 - (lg_sl ([.ref h0, .int (nI j), .int kd, .ref o1])).length) Slot.unset).toArray = ls at hl ⊢
  have hl : lv_has ls 5 [(0, .ref h0), (1, .int (nI j)), (2, .int kd), (3, .ref o1)] := hl
  have htb := vx_table (x := yL_widened) B (hts (.codeWith yL_widened cL_widened 5 (some .int) [(0, 10, 13, 21), (0, 10, 17, 13), (0, 10, 21, 15)]) (by unfold wsL_widened; exact List.mem_cons_self))
  subst hsz
  have hS : va_S A s.heap s.heap [] := va_S.rf
  refine lv_aload_n hx hb dL_widened_0 rfl (lv_at hl 3 rfl) ?_
  refine lv_iconst (v := 0) hx hb dL_widened_1 (by decide) ?_
  refine lv_aload_n hx hb dL_widened_2 rfl (lv_at hl 0 rfl) ?_
  refine lv_iload_n hx hb dL_widened_3 rfl (lv_at hl 1 rfl) ?_
  refine lv_iload_n hx hb dL_widened_4 rfl (lv_at hl 2 rfl) ?_
  refine va_calli (va_runV (As := [.int (nI j), .int kd]) (rest := [.int 0, .ref o1]) ⟨hx, hb, hml, hown, hts⟩ (tX2_widened l D A cI cJ cD cC h0 h1 h2 h3 h4 ad wd rd (tc_Y cJ cD y0 y1 y2 y3 y4 y5 o1 o2 ov od) n K Ln Wh Re cd ct s.heap.size hI j hj hn kd hk hc (fun q h => hA q (Nat.le_trans hS.1 h))) (cwV 2 hts gL_widened_X2_widened rfl rfl rfl (by decide +kernel) ⟨Nat.le_of_ble_eq_true rfl, Nat.le_of_ble_eq_true rfl⟩) ⟨tcP.blind, (va_recv hK hP (ci := 2) (q0 := 0) rfl rfl), (tcP.go hK hP hD hE hS)⟩ rfl rfl hl.1 rfl (lv_room (Nat.le_of_ble_eq_true rfl)) dL_widened_5 ⟨Nat.le_of_ble_eq_true rfl, Nat.le_of_ble_eq_true rfl⟩) hS (fun q _ h => h) (fun q h => h) (fun r_1 u t H locs ht hvm hw hB hz1 hk1 hS => ?_)
  subst hw
  obtain ⟨hP, hD⟩ := hB
  rw [ht] at hP
  refine lv_i2l (v := (nI n).toInt64) hx hb dL_widened_8 rfl ?_
  refine va_last (f := ov) hx hb hK hP hD hS 11 1 rfl rfl (by unfold vp_in; decide) dL_widened_9 (fun H locs hP hD hS => ?_)
  have hP : va_P D vwCl (tc_T cI cJ cD cC h0 h1 h2 h3 h4 (va_up ad n u.1) (va_up wd n u.2.1) (va_up rd n u.2.2) (tc_Y cJ cD y0 y1 y2 y3 y4 y5 o1 o2 (vp_updL ov 0 ((nI n).toInt64)) od) (n + 1) (va_up K n kd) (va_up Ln n (Ln j)) (tc_put n (Ln j) (fun i => Wh (40 * j + i)) 0 Wh) (tc_put n (Ln j) (wdV K Wh Re j kd) 0 Re) 0 (noteC ct 0)) H := by exact hP
  have hD : va_D A (tc_T cI cJ cD cC h0 h1 h2 h3 h4 (va_up ad n u.1) (va_up wd n u.2.1) (va_up rd n u.2.2) (tc_Y cJ cD y0 y1 y2 y3 y4 y5 o1 o2 (vp_updL ov 0 ((nI n).toInt64)) od) (n + 1) (va_up K n kd) (va_up Ln n (Ln j)) (tc_put n (Ln j) (fun i => Wh (40 * j + i)) 0 Wh) (tc_put n (Ln j) (wdV K Wh Re j kd) 0 Re) 0 (noteC ct 0)) := by exact hD
  refine lv_goto (tgt := 25) hx hb dL_widened_10 (by decide) ?_
  refine lv_iconst (v := 0) hx hb dL_widened_25 (by decide) ?_
  refine vx_ret ?_
  exact W.iret (v := 0) hx hb hr (fun t9 ht9 hW9 => ⟨⟨0, u, rfl, rfl, by rw [ht9]; exact hP, hD⟩, hS.F ht9⟩) hS.2.2 dL_widened_26
set_option maxHeartbeats 4000000 in
set_option maxRecDepth 100000 in
theorem lL_widened_no (l : Launch) (hfl : l.stackTraces = false) (D : va_G) (A : Nat → Prop) (cI cJ cD cC : ClassId) (h0 h1 h2 h3 h4 : Nat) (ad wd rd : Nat → Nat) (y0 y1 y2 y3 y4 y5 : Nat × va_E) (o1 o2 : Nat) (ov : Nat → Int64) (od : Nat → UInt64) (n : Nat) (K : Nat → Int32) (Ln : Nat → Nat) (Wh : Nat → Int64) (Re : Nat → UInt64) (cd : Int32) (ct : Nat → Int32) (sz : Nat) (hI : tcI n K Ln Wh Re) (j : Nat) (hj : j < n) (hn : n < 60) (kd : Int32) (hk : kHas kd = true) (hc : ¬ wdC K j kd = 0) : vx_Met l yL_widened wsL_widened ({ frames := 3, cells := 0, slots := 0, locals := 66 }) (tcPL D A (tcTY cI cJ cD cC) sz [.ref h0, .int (nI j), .int kd, .ref o1] (tc_T cI cJ cD cC h0 h1 h2 h3 h4 ad wd rd (tc_Y cJ cD y0 y1 y2 y3 y4 y5 o1 o2 ov od) n K Ln Wh Re cd ct)) (va_Qi (fun r (_ : Unit) => r = 0) (fun _ t => tcB D A (tc_T cI cJ cD cC h0 h1 h2 h3 h4 ad wd rd (tc_Y cJ cD y0 y1 y2 y3 y4 y5 o1 o2 (vp_updL ov 0 ((-1 : Int32).toInt64)) od) n K Ln Wh Re (wdC K j kd) (noteC ct (wdC K j kd))) t) A) (fun _ _ _ => False) 0 0 A := by
  refine vx_ofWH (cc := cL_widened) (maxL := 5) (ret := (some .int)) (hh := [(0, 10, 13, 21), (0, 10, 17, 13), (0, 10, 21, 15)]) (by decide) rfl ?_
  intro p e s m args below meth c s₁ B hml hv
  obtain ⟨rfl, ⟨hsz, hP, hK, hD, hE⟩, hNc⟩ := hv
  have hx := B.exec
  have hb := B.bytes
  have hr := B.returns
  have hts := atoms_spec (ws := wsL_widened) B.pre
  have hown : s.vm.findClass RL = some m.cls := findClass_of_methodNamed B.named
  have hlocks := B.notSynchronized
  have hl := lv_entry ([.ref h0, .int (nI j), .int kd, .ref o1]) (n := 5) (Nat.le_of_ble_eq_true rfl)
  rw [lg_entry_eq]
  generalize (lg_sl ([.ref h0, .int (nI j), .int kd, .ref o1]) ++ List.replicate (5 - (lg_sl ([.ref h0, .int (nI j), .int kd, .ref o1])).length) Slot.unset).toArray = ls at hl ⊢
  have hl : lv_has ls 5 [(0, .ref h0), (1, .int (nI j)), (2, .int kd), (3, .ref o1)] := hl
  have htb := vx_table (x := yL_widened) B (hts (.codeWith yL_widened cL_widened 5 (some .int) [(0, 10, 13, 21), (0, 10, 17, 13), (0, 10, 21, 15)]) (by unfold wsL_widened; exact List.mem_cons_self))
  subst hsz
  have hS : va_S A s.heap s.heap [] := va_S.rf
  refine lv_aload_n hx hb dL_widened_0 rfl (lv_at hl 3 rfl) ?_
  refine lv_iconst (v := 0) hx hb dL_widened_1 (by decide) ?_
  refine lv_aload_n hx hb dL_widened_2 rfl (lv_at hl 0 rfl) ?_
  refine lv_iload_n hx hb dL_widened_3 rfl (lv_at hl 1 rfl) ?_
  refine lv_iload_n hx hb dL_widened_4 rfl (lv_at hl 2 rfl) ?_
  refine va_calli (va_runV (As := [.int (nI j), .int kd]) (rest := [.int 0, .ref o1]) ⟨hx, hb, hml, hown, hts⟩ (tX2_widened_no l D A cI cJ cD cC h0 h1 h2 h3 h4 ad wd rd (tc_Y cJ cD y0 y1 y2 y3 y4 y5 o1 o2 ov od) n K Ln Wh Re cd ct s.heap.size hI j hj hn kd hk hc) (cwV 2 hts gL_widened_X2_widened rfl rfl rfl (by decide +kernel) ⟨Nat.le_of_ble_eq_true rfl, Nat.le_of_ble_eq_true rfl⟩) ⟨tcP.blind, (va_recv hK hP (ci := 2) (q0 := 0) rfl rfl), (tcP.go hK hP hD hE hS)⟩ rfl rfl hl.1 rfl (lv_room (Nat.le_of_ble_eq_true rfl)) dL_widened_5 ⟨Nat.le_of_ble_eq_true rfl, Nat.le_of_ble_eq_true rfl⟩) hS (fun q _ h => h) (fun q h => h) (fun r_1 u t H locs ht hvm hw hB hz1 hk1 hS => ?_)
  subst hw
  obtain ⟨hP, hD⟩ := hB
  rw [ht] at hP
  refine lv_i2l (v := ((-1) : Int32).toInt64) hx hb dL_widened_8 rfl ?_
  refine va_last (f := ov) hx hb hK hP hD hS 11 1 rfl rfl (by unfold vp_in; decide) dL_widened_9 (fun H locs hP hD hS => ?_)
  have hP : va_P D vwCl (tc_T cI cJ cD cC h0 h1 h2 h3 h4 ad wd rd (tc_Y cJ cD y0 y1 y2 y3 y4 y5 o1 o2 (vp_updL ov 0 ((-1 : Int32).toInt64)) od) n K Ln Wh Re (wdC K j kd) (noteC ct (wdC K j kd))) H := by exact hP
  have hD : va_D A (tc_T cI cJ cD cC h0 h1 h2 h3 h4 ad wd rd (tc_Y cJ cD y0 y1 y2 y3 y4 y5 o1 o2 (vp_updL ov 0 ((-1 : Int32).toInt64)) od) n K Ln Wh Re (wdC K j kd) (noteC ct (wdC K j kd))) := by exact hD
  refine lv_goto (tgt := 25) hx hb dL_widened_10 (by decide) ?_
  refine lv_iconst (v := 0) hx hb dL_widened_25 (by decide) ?_
  refine vx_ret ?_
  exact W.iret (v := 0) hx hb hr (fun t9 ht9 hW9 => ⟨⟨0, (), rfl, rfl, by rw [ht9]; exact hP, hD⟩, hS.F ht9⟩) hS.2.2 dL_widened_26
set_option maxHeartbeats 4000000 in
set_option maxRecDepth 100000 in
theorem lLn_readBoolean (l : Launch) (hfl : l.stackTraces = false) (D : va_G) (A : Nat → Prop) (cI cJ cD cC : ClassId) (h0 h1 h2 h3 h4 : Nat) (ad wd rd : Nat → Nat) (y0 y1 y2 y3 y4 y5 : Nat × va_E) (o1 o2 : Nat) (ov : Nat → Int64) (od : Nat → UInt64) (n : Nat) (K : Nat → Int32) (Ln : Nat → Nat) (Wh : Nat → Int64) (Re : Nat → UInt64) (cd : Int32) (ct : Nat → Int32) (sz : Nat) (hn6 : n ≤ 60) (cx : Int32) (hc : ¬ ∃ j, j < n ∧ cx = nI j) (i : Int32) : vx_Met l yL_readBoolean wsL_readBoolean ({ frames := 8, cells := 1, slots := 6, locals := 134 }) (tcPL D A (tcTY cI cJ cD cC) sz [.ref h0, .int cx, .int i, .ref o1] (tc_T cI cJ cD cC h0 h1 h2 h3 h4 ad wd rd (tc_Y cJ cD y0 y1 y2 y3 y4 y5 o1 o2 ov od) n K Ln Wh Re cd ct)) (va_Qi (fun r (_ : Unit) => r = 1) (fun _ t => tcB D A (tc_T cI cJ cD cC h0 h1 h2 h3 h4 ad wd rd (tc_Y cJ cD y0 y1 y2 y3 y4 y5 o1 o2 ov od) n K Ln Wh Re cd ct) t) A) (fun _ _ _ => False) 1 6 A := by
  refine vx_ofWH (cc := cL_readBoolean) (maxL := 5) (ret := (some .int)) (hh := [(0, 17, 20, 21)]) (by decide) rfl ?_
  intro p e s m args below meth c s₁ B hml hv
  obtain ⟨rfl, ⟨hsz, hP, hK, hD, hE⟩, hNc⟩ := hv
  have hx := B.exec
  have hb := B.bytes
  have hr := B.returns
  have hts := atoms_spec (ws := wsL_readBoolean) B.pre
  have hown : s.vm.findClass RL = some m.cls := findClass_of_methodNamed B.named
  have hlocks := B.notSynchronized
  have hl := lv_entry ([.ref h0, .int cx, .int i, .ref o1]) (n := 5) (Nat.le_of_ble_eq_true rfl)
  rw [lg_entry_eq]
  generalize (lg_sl ([.ref h0, .int cx, .int i, .ref o1]) ++ List.replicate (5 - (lg_sl ([.ref h0, .int cx, .int i, .ref o1])).length) Slot.unset).toArray = ls at hl ⊢
  have hl : lv_has ls 5 [(0, .ref h0), (1, .int cx), (2, .int i), (3, .ref o1)] := hl
  have htb := vx_table (x := yL_readBoolean) B (hts (.codeWith yL_readBoolean cL_readBoolean 5 (some .int) [(0, 17, 20, 21)]) (by unfold wsL_readBoolean; exact List.mem_cons_self))
  subst hsz
  have hS : va_S A s.heap s.heap [] := va_S.rf
  refine lv_aload_n hx hb dL_readBoolean_0 rfl (lv_at hl 3 rfl) ?_
  refine lv_iconst (v := 0) hx hb dL_readBoolean_1 (by decide) ?_
  refine lv_aload_n hx hb dL_readBoolean_2 rfl (lv_at hl 0 rfl) ?_
  refine lv_iload_n hx hb dL_readBoolean_3 rfl (lv_at hl 1 rfl) ?_
  refine lv_iload_n hx hb dL_readBoolean_4 rfl (lv_at hl 2 rfl) ?_
  refine tc_thr (vx_runV (As := [.int cx, .int i]) (rest := [.int 0, .ref o1]) ⟨hx, hb, hml, hown, hts⟩ (bX2_readBoolean l hfl D A cI cJ cD cC h0 h1 h2 h3 h4 ad wd rd (tc_Y cJ cD y0 y1 y2 y3 y4 y5 o1 o2 ov od) n K Ln Wh Re cd ct s.heap.size hn6 cx hc i) (cwV 2 hts gL_readBoolean_X2_readBoolean rfl rfl rfl (by decide +kernel) ⟨Nat.le_of_ble_eq_true rfl, Nat.le_of_ble_eq_true rfl⟩) ⟨tcP.blind, va_recv hK hP (ci := 2) (q0 := 0) rfl rfl, tcP.go hK hP hD hE hS⟩ rfl rfl hl.1 rfl (lv_room (Nat.le_of_ble_eq_true rfl)) dL_readBoolean_5 ⟨Nat.le_of_ble_eq_true rfl, Nat.le_of_ble_eq_true rfl⟩) hS (fun q h => h) (fun q _ h => h) (fun E ce q9 u t H locs ht hvm hw hB hz1 hk1 hS hce hcv hcl => ?_)
  obtain ⟨rfl, hP, hD⟩ := hB
  rw [ht] at hP
  refine vx_catch (own := RL) (name := "java/lang/IndexOutOfBoundsException") (E := "java/lang/IndexOutOfBoundsException") (ce := ce) hown [] ⟨0, 17, 20, 21⟩ [] (htb.trans rfl) (fun _ h => absurd h List.not_mem_nil) (by decide) (by decide) (hts (.classLink RL 21 "java/lang/IndexOutOfBoundsException") (by decide +kernel)) (va_Nw.use rfl hE.2.2.1.1) hce hcv hcl ?_
  refine lv_astore (lv' := [(4, .ref q9), (0, .ref h0), (1, .int cx), (2, .int i), (3, .ref o1)]) hx hb dL_readBoolean_20 hl (by decide) rfl (fun ls hl => ?_)
  refine lv_iconst (v := 1) hx hb dL_readBoolean_22 (by decide) ?_
  refine vx_ret ?_
  exact W.iret (v := 1) hx hb hr (fun t9 ht9 hW9 => ⟨⟨1, (), rfl, rfl, by rw [ht9]; exact hP, hD⟩, hS.F ht9⟩) hS.2.2 dL_readBoolean_23
set_option maxHeartbeats 4000000 in
set_option maxRecDepth 100000 in
theorem lLn_readByte (l : Launch) (hfl : l.stackTraces = false) (D : va_G) (A : Nat → Prop) (cI cJ cD cC : ClassId) (h0 h1 h2 h3 h4 : Nat) (ad wd rd : Nat → Nat) (y0 y1 y2 y3 y4 y5 : Nat × va_E) (o1 o2 : Nat) (ov : Nat → Int64) (od : Nat → UInt64) (n : Nat) (K : Nat → Int32) (Ln : Nat → Nat) (Wh : Nat → Int64) (Re : Nat → UInt64) (cd : Int32) (ct : Nat → Int32) (sz : Nat) (hn6 : n ≤ 60) (cx : Int32) (hc : ¬ ∃ j, j < n ∧ cx = nI j) (i : Int32) : vx_Met l yL_readByte wsL_readByte ({ frames := 8, cells := 1, slots := 6, locals := 134 }) (tcPL D A (tcTY cI cJ cD cC) sz [.ref h0, .int cx, .int i, .ref o1] (tc_T cI cJ cD cC h0 h1 h2 h3 h4 ad wd rd (tc_Y cJ cD y0 y1 y2 y3 y4 y5 o1 o2 ov od) n K Ln Wh Re cd ct)) (va_Qi (fun r (_ : Unit) => r = 1) (fun _ t => tcB D A (tc_T cI cJ cD cC h0 h1 h2 h3 h4 ad wd rd (tc_Y cJ cD y0 y1 y2 y3 y4 y5 o1 o2 ov od) n K Ln Wh Re cd ct) t) A) (fun _ _ _ => False) 1 6 A := by
  refine vx_ofWH (cc := cL_readByte) (maxL := 5) (ret := (some .int)) (hh := [(0, 10, 13, 21)]) (by decide) rfl ?_
  intro p e s m args below meth c s₁ B hml hv
  obtain ⟨rfl, ⟨hsz, hP, hK, hD, hE⟩, hNc⟩ := hv
  have hx := B.exec
  have hb := B.bytes
  have hr := B.returns
  have hts := atoms_spec (ws := wsL_readByte) B.pre
  have hown : s.vm.findClass RL = some m.cls := findClass_of_methodNamed B.named
  have hlocks := B.notSynchronized
  have hl := lv_entry ([.ref h0, .int cx, .int i, .ref o1]) (n := 5) (Nat.le_of_ble_eq_true rfl)
  rw [lg_entry_eq]
  generalize (lg_sl ([.ref h0, .int cx, .int i, .ref o1]) ++ List.replicate (5 - (lg_sl ([.ref h0, .int cx, .int i, .ref o1])).length) Slot.unset).toArray = ls at hl ⊢
  have hl : lv_has ls 5 [(0, .ref h0), (1, .int cx), (2, .int i), (3, .ref o1)] := hl
  have htb := vx_table (x := yL_readByte) B (hts (.codeWith yL_readByte cL_readByte 5 (some .int) [(0, 10, 13, 21)]) (by unfold wsL_readByte; exact List.mem_cons_self))
  subst hsz
  have hS : va_S A s.heap s.heap [] := va_S.rf
  refine lv_aload_n hx hb dL_readByte_0 rfl (lv_at hl 3 rfl) ?_
  refine lv_iconst (v := 0) hx hb dL_readByte_1 (by decide) ?_
  refine lv_aload_n hx hb dL_readByte_2 rfl (lv_at hl 0 rfl) ?_
  refine lv_iload_n hx hb dL_readByte_3 rfl (lv_at hl 1 rfl) ?_
  refine lv_iload_n hx hb dL_readByte_4 rfl (lv_at hl 2 rfl) ?_
  refine tc_thr (vx_runV (As := [.int cx, .int i]) (rest := [.int 0, .ref o1]) ⟨hx, hb, hml, hown, hts⟩ (bX2_readByte l hfl D A cI cJ cD cC h0 h1 h2 h3 h4 ad wd rd (tc_Y cJ cD y0 y1 y2 y3 y4 y5 o1 o2 ov od) n K Ln Wh Re cd ct s.heap.size hn6 cx hc i) (cwV 2 hts gL_readByte_X2_readByte rfl rfl rfl (by decide +kernel) ⟨Nat.le_of_ble_eq_true rfl, Nat.le_of_ble_eq_true rfl⟩) ⟨tcP.blind, va_recv hK hP (ci := 2) (q0 := 0) rfl rfl, tcP.go hK hP hD hE hS⟩ rfl rfl hl.1 rfl (lv_room (Nat.le_of_ble_eq_true rfl)) dL_readByte_5 ⟨Nat.le_of_ble_eq_true rfl, Nat.le_of_ble_eq_true rfl⟩) hS (fun q h => h) (fun q _ h => h) (fun E ce q9 u t H locs ht hvm hw hB hz1 hk1 hS hce hcv hcl => ?_)
  obtain ⟨rfl, hP, hD⟩ := hB
  rw [ht] at hP
  refine vx_catch (own := RL) (name := "java/lang/IndexOutOfBoundsException") (E := "java/lang/IndexOutOfBoundsException") (ce := ce) hown [] ⟨0, 10, 13, 21⟩ [] (htb.trans rfl) (fun _ h => absurd h List.not_mem_nil) (by decide) (by decide) (hts (.classLink RL 21 "java/lang/IndexOutOfBoundsException") (by decide +kernel)) (va_Nw.use rfl hE.2.2.1.1) hce hcv hcl ?_
  refine lv_astore (lv' := [(4, .ref q9), (0, .ref h0), (1, .int cx), (2, .int i), (3, .ref o1)]) hx hb dL_readByte_13 hl (by decide) rfl (fun ls hl => ?_)
  refine lv_iconst (v := 1) hx hb dL_readByte_15 (by decide) ?_
  refine vx_ret ?_
  exact W.iret (v := 1) hx hb hr (fun t9 ht9 hW9 => ⟨⟨1, (), rfl, rfl, by rw [ht9]; exact hP, hD⟩, hS.F ht9⟩) hS.2.2 dL_readByte_16
set_option maxHeartbeats 4000000 in
set_option maxRecDepth 100000 in
theorem lLn_readChar (l : Launch) (hfl : l.stackTraces = false) (D : va_G) (A : Nat → Prop) (cI cJ cD cC : ClassId) (h0 h1 h2 h3 h4 : Nat) (ad wd rd : Nat → Nat) (y0 y1 y2 y3 y4 y5 : Nat × va_E) (o1 o2 : Nat) (ov : Nat → Int64) (od : Nat → UInt64) (n : Nat) (K : Nat → Int32) (Ln : Nat → Nat) (Wh : Nat → Int64) (Re : Nat → UInt64) (cd : Int32) (ct : Nat → Int32) (sz : Nat) (hn6 : n ≤ 60) (cx : Int32) (hc : ¬ ∃ j, j < n ∧ cx = nI j) (i : Int32) : vx_Met l yL_readChar wsL_readChar ({ frames := 8, cells := 1, slots := 6, locals := 134 }) (tcPL D A (tcTY cI cJ cD cC) sz [.ref h0, .int cx, .int i, .ref o1] (tc_T cI cJ cD cC h0 h1 h2 h3 h4 ad wd rd (tc_Y cJ cD y0 y1 y2 y3 y4 y5 o1 o2 ov od) n K Ln Wh Re cd ct)) (va_Qi (fun r (_ : Unit) => r = 1) (fun _ t => tcB D A (tc_T cI cJ cD cC h0 h1 h2 h3 h4 ad wd rd (tc_Y cJ cD y0 y1 y2 y3 y4 y5 o1 o2 ov od) n K Ln Wh Re cd ct) t) A) (fun _ _ _ => False) 1 6 A := by
  refine vx_ofWH (cc := cL_readChar) (maxL := 5) (ret := (some .int)) (hh := [(0, 10, 13, 21)]) (by decide) rfl ?_
  intro p e s m args below meth c s₁ B hml hv
  obtain ⟨rfl, ⟨hsz, hP, hK, hD, hE⟩, hNc⟩ := hv
  have hx := B.exec
  have hb := B.bytes
  have hr := B.returns
  have hts := atoms_spec (ws := wsL_readChar) B.pre
  have hown : s.vm.findClass RL = some m.cls := findClass_of_methodNamed B.named
  have hlocks := B.notSynchronized
  have hl := lv_entry ([.ref h0, .int cx, .int i, .ref o1]) (n := 5) (Nat.le_of_ble_eq_true rfl)
  rw [lg_entry_eq]
  generalize (lg_sl ([.ref h0, .int cx, .int i, .ref o1]) ++ List.replicate (5 - (lg_sl ([.ref h0, .int cx, .int i, .ref o1])).length) Slot.unset).toArray = ls at hl ⊢
  have hl : lv_has ls 5 [(0, .ref h0), (1, .int cx), (2, .int i), (3, .ref o1)] := hl
  have htb := vx_table (x := yL_readChar) B (hts (.codeWith yL_readChar cL_readChar 5 (some .int) [(0, 10, 13, 21)]) (by unfold wsL_readChar; exact List.mem_cons_self))
  subst hsz
  have hS : va_S A s.heap s.heap [] := va_S.rf
  refine lv_aload_n hx hb dL_readChar_0 rfl (lv_at hl 3 rfl) ?_
  refine lv_iconst (v := 0) hx hb dL_readChar_1 (by decide) ?_
  refine lv_aload_n hx hb dL_readChar_2 rfl (lv_at hl 0 rfl) ?_
  refine lv_iload_n hx hb dL_readChar_3 rfl (lv_at hl 1 rfl) ?_
  refine lv_iload_n hx hb dL_readChar_4 rfl (lv_at hl 2 rfl) ?_
  refine tc_thr (vx_runV (As := [.int cx, .int i]) (rest := [.int 0, .ref o1]) ⟨hx, hb, hml, hown, hts⟩ (bX2_readChar l hfl D A cI cJ cD cC h0 h1 h2 h3 h4 ad wd rd (tc_Y cJ cD y0 y1 y2 y3 y4 y5 o1 o2 ov od) n K Ln Wh Re cd ct s.heap.size hn6 cx hc i) (cwV 2 hts gL_readChar_X2_readChar rfl rfl rfl (by decide +kernel) ⟨Nat.le_of_ble_eq_true rfl, Nat.le_of_ble_eq_true rfl⟩) ⟨tcP.blind, va_recv hK hP (ci := 2) (q0 := 0) rfl rfl, tcP.go hK hP hD hE hS⟩ rfl rfl hl.1 rfl (lv_room (Nat.le_of_ble_eq_true rfl)) dL_readChar_5 ⟨Nat.le_of_ble_eq_true rfl, Nat.le_of_ble_eq_true rfl⟩) hS (fun q h => h) (fun q _ h => h) (fun E ce q9 u t H locs ht hvm hw hB hz1 hk1 hS hce hcv hcl => ?_)
  obtain ⟨rfl, hP, hD⟩ := hB
  rw [ht] at hP
  refine vx_catch (own := RL) (name := "java/lang/IndexOutOfBoundsException") (E := "java/lang/IndexOutOfBoundsException") (ce := ce) hown [] ⟨0, 10, 13, 21⟩ [] (htb.trans rfl) (fun _ h => absurd h List.not_mem_nil) (by decide) (by decide) (hts (.classLink RL 21 "java/lang/IndexOutOfBoundsException") (by decide +kernel)) (va_Nw.use rfl hE.2.2.1.1) hce hcv hcl ?_
  refine lv_astore (lv' := [(4, .ref q9), (0, .ref h0), (1, .int cx), (2, .int i), (3, .ref o1)]) hx hb dL_readChar_13 hl (by decide) rfl (fun ls hl => ?_)
  refine lv_iconst (v := 1) hx hb dL_readChar_15 (by decide) ?_
  refine vx_ret ?_
  exact W.iret (v := 1) hx hb hr (fun t9 ht9 hW9 => ⟨⟨1, (), rfl, rfl, by rw [ht9]; exact hP, hD⟩, hS.F ht9⟩) hS.2.2 dL_readChar_16
set_option maxHeartbeats 4000000 in
set_option maxRecDepth 100000 in
theorem lLn_readShort (l : Launch) (hfl : l.stackTraces = false) (D : va_G) (A : Nat → Prop) (cI cJ cD cC : ClassId) (h0 h1 h2 h3 h4 : Nat) (ad wd rd : Nat → Nat) (y0 y1 y2 y3 y4 y5 : Nat × va_E) (o1 o2 : Nat) (ov : Nat → Int64) (od : Nat → UInt64) (n : Nat) (K : Nat → Int32) (Ln : Nat → Nat) (Wh : Nat → Int64) (Re : Nat → UInt64) (cd : Int32) (ct : Nat → Int32) (sz : Nat) (hn6 : n ≤ 60) (cx : Int32) (hc : ¬ ∃ j, j < n ∧ cx = nI j) (i : Int32) : vx_Met l yL_readShort wsL_readShort ({ frames := 8, cells := 1, slots := 6, locals := 134 }) (tcPL D A (tcTY cI cJ cD cC) sz [.ref h0, .int cx, .int i, .ref o1] (tc_T cI cJ cD cC h0 h1 h2 h3 h4 ad wd rd (tc_Y cJ cD y0 y1 y2 y3 y4 y5 o1 o2 ov od) n K Ln Wh Re cd ct)) (va_Qi (fun r (_ : Unit) => r = 1) (fun _ t => tcB D A (tc_T cI cJ cD cC h0 h1 h2 h3 h4 ad wd rd (tc_Y cJ cD y0 y1 y2 y3 y4 y5 o1 o2 ov od) n K Ln Wh Re cd ct) t) A) (fun _ _ _ => False) 1 6 A := by
  refine vx_ofWH (cc := cL_readShort) (maxL := 5) (ret := (some .int)) (hh := [(0, 10, 13, 21)]) (by decide) rfl ?_
  intro p e s m args below meth c s₁ B hml hv
  obtain ⟨rfl, ⟨hsz, hP, hK, hD, hE⟩, hNc⟩ := hv
  have hx := B.exec
  have hb := B.bytes
  have hr := B.returns
  have hts := atoms_spec (ws := wsL_readShort) B.pre
  have hown : s.vm.findClass RL = some m.cls := findClass_of_methodNamed B.named
  have hlocks := B.notSynchronized
  have hl := lv_entry ([.ref h0, .int cx, .int i, .ref o1]) (n := 5) (Nat.le_of_ble_eq_true rfl)
  rw [lg_entry_eq]
  generalize (lg_sl ([.ref h0, .int cx, .int i, .ref o1]) ++ List.replicate (5 - (lg_sl ([.ref h0, .int cx, .int i, .ref o1])).length) Slot.unset).toArray = ls at hl ⊢
  have hl : lv_has ls 5 [(0, .ref h0), (1, .int cx), (2, .int i), (3, .ref o1)] := hl
  have htb := vx_table (x := yL_readShort) B (hts (.codeWith yL_readShort cL_readShort 5 (some .int) [(0, 10, 13, 21)]) (by unfold wsL_readShort; exact List.mem_cons_self))
  subst hsz
  have hS : va_S A s.heap s.heap [] := va_S.rf
  refine lv_aload_n hx hb dL_readShort_0 rfl (lv_at hl 3 rfl) ?_
  refine lv_iconst (v := 0) hx hb dL_readShort_1 (by decide) ?_
  refine lv_aload_n hx hb dL_readShort_2 rfl (lv_at hl 0 rfl) ?_
  refine lv_iload_n hx hb dL_readShort_3 rfl (lv_at hl 1 rfl) ?_
  refine lv_iload_n hx hb dL_readShort_4 rfl (lv_at hl 2 rfl) ?_
  refine tc_thr (vx_runV (As := [.int cx, .int i]) (rest := [.int 0, .ref o1]) ⟨hx, hb, hml, hown, hts⟩ (bX2_readShort l hfl D A cI cJ cD cC h0 h1 h2 h3 h4 ad wd rd (tc_Y cJ cD y0 y1 y2 y3 y4 y5 o1 o2 ov od) n K Ln Wh Re cd ct s.heap.size hn6 cx hc i) (cwV 2 hts gL_readShort_X2_readShort rfl rfl rfl (by decide +kernel) ⟨Nat.le_of_ble_eq_true rfl, Nat.le_of_ble_eq_true rfl⟩) ⟨tcP.blind, va_recv hK hP (ci := 2) (q0 := 0) rfl rfl, tcP.go hK hP hD hE hS⟩ rfl rfl hl.1 rfl (lv_room (Nat.le_of_ble_eq_true rfl)) dL_readShort_5 ⟨Nat.le_of_ble_eq_true rfl, Nat.le_of_ble_eq_true rfl⟩) hS (fun q h => h) (fun q _ h => h) (fun E ce q9 u t H locs ht hvm hw hB hz1 hk1 hS hce hcv hcl => ?_)
  obtain ⟨rfl, hP, hD⟩ := hB
  rw [ht] at hP
  refine vx_catch (own := RL) (name := "java/lang/IndexOutOfBoundsException") (E := "java/lang/IndexOutOfBoundsException") (ce := ce) hown [] ⟨0, 10, 13, 21⟩ [] (htb.trans rfl) (fun _ h => absurd h List.not_mem_nil) (by decide) (by decide) (hts (.classLink RL 21 "java/lang/IndexOutOfBoundsException") (by decide +kernel)) (va_Nw.use rfl hE.2.2.1.1) hce hcv hcl ?_
  refine lv_astore (lv' := [(4, .ref q9), (0, .ref h0), (1, .int cx), (2, .int i), (3, .ref o1)]) hx hb dL_readShort_13 hl (by decide) rfl (fun ls hl => ?_)
  refine lv_iconst (v := 1) hx hb dL_readShort_15 (by decide) ?_
  refine vx_ret ?_
  exact W.iret (v := 1) hx hb hr (fun t9 ht9 hW9 => ⟨⟨1, (), rfl, rfl, by rw [ht9]; exact hP, hD⟩, hS.F ht9⟩) hS.2.2 dL_readShort_16
set_option maxHeartbeats 4000000 in
set_option maxRecDepth 100000 in
theorem lLn_readInt (l : Launch) (hfl : l.stackTraces = false) (D : va_G) (A : Nat → Prop) (cI cJ cD cC : ClassId) (h0 h1 h2 h3 h4 : Nat) (ad wd rd : Nat → Nat) (y0 y1 y2 y3 y4 y5 : Nat × va_E) (o1 o2 : Nat) (ov : Nat → Int64) (od : Nat → UInt64) (n : Nat) (K : Nat → Int32) (Ln : Nat → Nat) (Wh : Nat → Int64) (Re : Nat → UInt64) (cd : Int32) (ct : Nat → Int32) (sz : Nat) (hn6 : n ≤ 60) (cx : Int32) (hc : ¬ ∃ j, j < n ∧ cx = nI j) (i : Int32) : vx_Met l yL_readInt wsL_readInt ({ frames := 8, cells := 1, slots := 6, locals := 134 }) (tcPL D A (tcTY cI cJ cD cC) sz [.ref h0, .int cx, .int i, .ref o1] (tc_T cI cJ cD cC h0 h1 h2 h3 h4 ad wd rd (tc_Y cJ cD y0 y1 y2 y3 y4 y5 o1 o2 ov od) n K Ln Wh Re cd ct)) (va_Qi (fun r (_ : Unit) => r = 1) (fun _ t => tcB D A (tc_T cI cJ cD cC h0 h1 h2 h3 h4 ad wd rd (tc_Y cJ cD y0 y1 y2 y3 y4 y5 o1 o2 ov od) n K Ln Wh Re cd ct) t) A) (fun _ _ _ => False) 1 6 A := by
  refine vx_ofWH (cc := cL_readInt) (maxL := 5) (ret := (some .int)) (hh := [(0, 10, 13, 21)]) (by decide) rfl ?_
  intro p e s m args below meth c s₁ B hml hv
  obtain ⟨rfl, ⟨hsz, hP, hK, hD, hE⟩, hNc⟩ := hv
  have hx := B.exec
  have hb := B.bytes
  have hr := B.returns
  have hts := atoms_spec (ws := wsL_readInt) B.pre
  have hown : s.vm.findClass RL = some m.cls := findClass_of_methodNamed B.named
  have hlocks := B.notSynchronized
  have hl := lv_entry ([.ref h0, .int cx, .int i, .ref o1]) (n := 5) (Nat.le_of_ble_eq_true rfl)
  rw [lg_entry_eq]
  generalize (lg_sl ([.ref h0, .int cx, .int i, .ref o1]) ++ List.replicate (5 - (lg_sl ([.ref h0, .int cx, .int i, .ref o1])).length) Slot.unset).toArray = ls at hl ⊢
  have hl : lv_has ls 5 [(0, .ref h0), (1, .int cx), (2, .int i), (3, .ref o1)] := hl
  have htb := vx_table (x := yL_readInt) B (hts (.codeWith yL_readInt cL_readInt 5 (some .int) [(0, 10, 13, 21)]) (by unfold wsL_readInt; exact List.mem_cons_self))
  subst hsz
  have hS : va_S A s.heap s.heap [] := va_S.rf
  refine lv_aload_n hx hb dL_readInt_0 rfl (lv_at hl 3 rfl) ?_
  refine lv_iconst (v := 0) hx hb dL_readInt_1 (by decide) ?_
  refine lv_aload_n hx hb dL_readInt_2 rfl (lv_at hl 0 rfl) ?_
  refine lv_iload_n hx hb dL_readInt_3 rfl (lv_at hl 1 rfl) ?_
  refine lv_iload_n hx hb dL_readInt_4 rfl (lv_at hl 2 rfl) ?_
  refine tc_thr (vx_runV (As := [.int cx, .int i]) (rest := [.int 0, .ref o1]) ⟨hx, hb, hml, hown, hts⟩ (bX2_readInt l hfl D A cI cJ cD cC h0 h1 h2 h3 h4 ad wd rd (tc_Y cJ cD y0 y1 y2 y3 y4 y5 o1 o2 ov od) n K Ln Wh Re cd ct s.heap.size hn6 cx hc i) (cwV 2 hts gL_readInt_X2_readInt rfl rfl rfl (by decide +kernel) ⟨Nat.le_of_ble_eq_true rfl, Nat.le_of_ble_eq_true rfl⟩) ⟨tcP.blind, va_recv hK hP (ci := 2) (q0 := 0) rfl rfl, tcP.go hK hP hD hE hS⟩ rfl rfl hl.1 rfl (lv_room (Nat.le_of_ble_eq_true rfl)) dL_readInt_5 ⟨Nat.le_of_ble_eq_true rfl, Nat.le_of_ble_eq_true rfl⟩) hS (fun q h => h) (fun q _ h => h) (fun E ce q9 u t H locs ht hvm hw hB hz1 hk1 hS hce hcv hcl => ?_)
  obtain ⟨rfl, hP, hD⟩ := hB
  rw [ht] at hP
  refine vx_catch (own := RL) (name := "java/lang/IndexOutOfBoundsException") (E := "java/lang/IndexOutOfBoundsException") (ce := ce) hown [] ⟨0, 10, 13, 21⟩ [] (htb.trans rfl) (fun _ h => absurd h List.not_mem_nil) (by decide) (by decide) (hts (.classLink RL 21 "java/lang/IndexOutOfBoundsException") (by decide +kernel)) (va_Nw.use rfl hE.2.2.1.1) hce hcv hcl ?_
  refine lv_astore (lv' := [(4, .ref q9), (0, .ref h0), (1, .int cx), (2, .int i), (3, .ref o1)]) hx hb dL_readInt_13 hl (by decide) rfl (fun ls hl => ?_)
  refine lv_iconst (v := 1) hx hb dL_readInt_15 (by decide) ?_
  refine vx_ret ?_
  exact W.iret (v := 1) hx hb hr (fun t9 ht9 hW9 => ⟨⟨1, (), rfl, rfl, by rw [ht9]; exact hP, hD⟩, hS.F ht9⟩) hS.2.2 dL_readInt_16
set_option maxHeartbeats 4000000 in
set_option maxRecDepth 100000 in
theorem lLn_readLong (l : Launch) (hfl : l.stackTraces = false) (D : va_G) (A : Nat → Prop) (cI cJ cD cC : ClassId) (h0 h1 h2 h3 h4 : Nat) (ad wd rd : Nat → Nat) (y0 y1 y2 y3 y4 y5 : Nat × va_E) (o1 o2 : Nat) (ov : Nat → Int64) (od : Nat → UInt64) (n : Nat) (K : Nat → Int32) (Ln : Nat → Nat) (Wh : Nat → Int64) (Re : Nat → UInt64) (cd : Int32) (ct : Nat → Int32) (sz : Nat) (hn6 : n ≤ 60) (cx : Int32) (hc : ¬ ∃ j, j < n ∧ cx = nI j) (i : Int32) : vx_Met l yL_readLong wsL_readLong ({ frames := 8, cells := 1, slots := 6, locals := 134 }) (tcPL D A (tcTY cI cJ cD cC) sz [.ref h0, .int cx, .int i, .ref o1] (tc_T cI cJ cD cC h0 h1 h2 h3 h4 ad wd rd (tc_Y cJ cD y0 y1 y2 y3 y4 y5 o1 o2 ov od) n K Ln Wh Re cd ct)) (va_Qi (fun r (_ : Unit) => r = 1) (fun _ t => tcB D A (tc_T cI cJ cD cC h0 h1 h2 h3 h4 ad wd rd (tc_Y cJ cD y0 y1 y2 y3 y4 y5 o1 o2 ov od) n K Ln Wh Re cd ct) t) A) (fun _ _ _ => False) 1 6 A := by
  refine vx_ofWH (cc := cL_readLong) (maxL := 5) (ret := (some .int)) (hh := [(0, 9, 12, 21)]) (by decide) rfl ?_
  intro p e s m args below meth c s₁ B hml hv
  obtain ⟨rfl, ⟨hsz, hP, hK, hD, hE⟩, hNc⟩ := hv
  have hx := B.exec
  have hb := B.bytes
  have hr := B.returns
  have hts := atoms_spec (ws := wsL_readLong) B.pre
  have hown : s.vm.findClass RL = some m.cls := findClass_of_methodNamed B.named
  have hlocks := B.notSynchronized
  have hl := lv_entry ([.ref h0, .int cx, .int i, .ref o1]) (n := 5) (Nat.le_of_ble_eq_true rfl)
  rw [lg_entry_eq]
  generalize (lg_sl ([.ref h0, .int cx, .int i, .ref o1]) ++ List.replicate (5 - (lg_sl ([.ref h0, .int cx, .int i, .ref o1])).length) Slot.unset).toArray = ls at hl ⊢
  have hl : lv_has ls 5 [(0, .ref h0), (1, .int cx), (2, .int i), (3, .ref o1)] := hl
  have htb := vx_table (x := yL_readLong) B (hts (.codeWith yL_readLong cL_readLong 5 (some .int) [(0, 9, 12, 21)]) (by unfold wsL_readLong; exact List.mem_cons_self))
  subst hsz
  have hS : va_S A s.heap s.heap [] := va_S.rf
  refine lv_aload_n hx hb dL_readLong_0 rfl (lv_at hl 3 rfl) ?_
  refine lv_iconst (v := 0) hx hb dL_readLong_1 (by decide) ?_
  refine lv_aload_n hx hb dL_readLong_2 rfl (lv_at hl 0 rfl) ?_
  refine lv_iload_n hx hb dL_readLong_3 rfl (lv_at hl 1 rfl) ?_
  refine lv_iload_n hx hb dL_readLong_4 rfl (lv_at hl 2 rfl) ?_
  refine tc_thr (vx_runV (As := [.int cx, .int i]) (rest := [.int 0, .ref o1]) ⟨hx, hb, hml, hown, hts⟩ (bX2_readLong l hfl D A cI cJ cD cC h0 h1 h2 h3 h4 ad wd rd (tc_Y cJ cD y0 y1 y2 y3 y4 y5 o1 o2 ov od) n K Ln Wh Re cd ct s.heap.size hn6 cx hc i) (cwV 2 hts gL_readLong_X2_readLong rfl rfl rfl (by decide +kernel) ⟨Nat.le_of_ble_eq_true rfl, Nat.le_of_ble_eq_true rfl⟩) ⟨tcP.blind, va_recv hK hP (ci := 2) (q0 := 0) rfl rfl, tcP.go hK hP hD hE hS⟩ rfl rfl hl.1 rfl (lv_room (Nat.le_of_ble_eq_true rfl)) dL_readLong_5 ⟨Nat.le_of_ble_eq_true rfl, Nat.le_of_ble_eq_true rfl⟩) hS (fun q h => h) (fun q _ h => h) (fun E ce q9 u t H locs ht hvm hw hB hz1 hk1 hS hce hcv hcl => ?_)
  obtain ⟨rfl, hP, hD⟩ := hB
  rw [ht] at hP
  refine vx_catch (own := RL) (name := "java/lang/IndexOutOfBoundsException") (E := "java/lang/IndexOutOfBoundsException") (ce := ce) hown [] ⟨0, 9, 12, 21⟩ [] (htb.trans rfl) (fun _ h => absurd h List.not_mem_nil) (by decide) (by decide) (hts (.classLink RL 21 "java/lang/IndexOutOfBoundsException") (by decide +kernel)) (va_Nw.use rfl hE.2.2.1.1) hce hcv hcl ?_
  refine lv_astore (lv' := [(4, .ref q9), (0, .ref h0), (1, .int cx), (2, .int i), (3, .ref o1)]) hx hb dL_readLong_12 hl (by decide) rfl (fun ls hl => ?_)
  refine lv_iconst (v := 1) hx hb dL_readLong_14 (by decide) ?_
  refine vx_ret ?_
  exact W.iret (v := 1) hx hb hr (fun t9 ht9 hW9 => ⟨⟨1, (), rfl, rfl, by rw [ht9]; exact hP, hD⟩, hS.F ht9⟩) hS.2.2 dL_readLong_15
set_option maxHeartbeats 4000000 in
set_option maxRecDepth 100000 in
theorem lLn_readFloat (l : Launch) (hfl : l.stackTraces = false) (D : va_G) (A : Nat → Prop) (cI cJ cD cC : ClassId) (h0 h1 h2 h3 h4 : Nat) (ad wd rd : Nat → Nat) (y0 y1 y2 y3 y4 y5 : Nat × va_E) (o1 o2 : Nat) (ov : Nat → Int64) (od : Nat → UInt64) (n : Nat) (K : Nat → Int32) (Ln : Nat → Nat) (Wh : Nat → Int64) (Re : Nat → UInt64) (cd : Int32) (ct : Nat → Int32) (sz : Nat) (hn6 : n ≤ 60) (cx : Int32) (hc : ¬ ∃ j, j < n ∧ cx = nI j) (i : Int32) : vx_Met l yL_readFloat wsL_readFloat ({ frames := 8, cells := 1, slots := 6, locals := 136 }) (tcPL D A (tcTY cI cJ cD cC) sz [.ref h0, .int cx, .int i, .ref o2] (tc_T cI cJ cD cC h0 h1 h2 h3 h4 ad wd rd (tc_Y cJ cD y0 y1 y2 y3 y4 y5 o1 o2 ov od) n K Ln Wh Re cd ct)) (va_Qi (fun r (_ : Unit) => r = 1) (fun _ t => tcB D A (tc_T cI cJ cD cC h0 h1 h2 h3 h4 ad wd rd (tc_Y cJ cD y0 y1 y2 y3 y4 y5 o1 o2 ov od) n K Ln Wh Re cd ct) t) A) (fun _ _ _ => False) 1 6 A := by
  refine vx_ofWH (cc := cL_readFloat) (maxL := 5) (ret := (some .int)) (hh := [(0, 10, 13, 21)]) (by decide) rfl ?_
  intro p e s m args below meth c s₁ B hml hv
  obtain ⟨rfl, ⟨hsz, hP, hK, hD, hE⟩, hNc⟩ := hv
  have hx := B.exec
  have hb := B.bytes
  have hr := B.returns
  have hts := atoms_spec (ws := wsL_readFloat) B.pre
  have hown : s.vm.findClass RL = some m.cls := findClass_of_methodNamed B.named
  have hlocks := B.notSynchronized
  have hl := lv_entry ([.ref h0, .int cx, .int i, .ref o2]) (n := 5) (Nat.le_of_ble_eq_true rfl)
  rw [lg_entry_eq]
  generalize (lg_sl ([.ref h0, .int cx, .int i, .ref o2]) ++ List.replicate (5 - (lg_sl ([.ref h0, .int cx, .int i, .ref o2])).length) Slot.unset).toArray = ls at hl ⊢
  have hl : lv_has ls 5 [(0, .ref h0), (1, .int cx), (2, .int i), (3, .ref o2)] := hl
  have htb := vx_table (x := yL_readFloat) B (hts (.codeWith yL_readFloat cL_readFloat 5 (some .int) [(0, 10, 13, 21)]) (by unfold wsL_readFloat; exact List.mem_cons_self))
  subst hsz
  have hS : va_S A s.heap s.heap [] := va_S.rf
  refine lv_aload_n hx hb dL_readFloat_0 rfl (lv_at hl 3 rfl) ?_
  refine lv_iconst (v := 0) hx hb dL_readFloat_1 (by decide) ?_
  refine lv_aload_n hx hb dL_readFloat_2 rfl (lv_at hl 0 rfl) ?_
  refine lv_iload_n hx hb dL_readFloat_3 rfl (lv_at hl 1 rfl) ?_
  refine lv_iload_n hx hb dL_readFloat_4 rfl (lv_at hl 2 rfl) ?_
  refine tc_thr (vx_runV (As := [.int cx, .int i]) (rest := [.int 0, .ref o2]) ⟨hx, hb, hml, hown, hts⟩ (bX2_readFloat l hfl D A cI cJ cD cC h0 h1 h2 h3 h4 ad wd rd (tc_Y cJ cD y0 y1 y2 y3 y4 y5 o1 o2 ov od) n K Ln Wh Re cd ct s.heap.size hn6 cx hc i) (cwV 2 hts gL_readFloat_X2_readFloat rfl rfl rfl (by decide +kernel) ⟨Nat.le_of_ble_eq_true rfl, Nat.le_of_ble_eq_true rfl⟩) ⟨tcP.blind, va_recv hK hP (ci := 2) (q0 := 0) rfl rfl, tcP.go hK hP hD hE hS⟩ rfl rfl hl.1 rfl (lv_room (Nat.le_of_ble_eq_true rfl)) dL_readFloat_5 ⟨Nat.le_of_ble_eq_true rfl, Nat.le_of_ble_eq_true rfl⟩) hS (fun q h => h) (fun q _ h => h) (fun E ce q9 u t H locs ht hvm hw hB hz1 hk1 hS hce hcv hcl => ?_)
  obtain ⟨rfl, hP, hD⟩ := hB
  rw [ht] at hP
  refine vx_catch (own := RL) (name := "java/lang/IndexOutOfBoundsException") (E := "java/lang/IndexOutOfBoundsException") (ce := ce) hown [] ⟨0, 10, 13, 21⟩ [] (htb.trans rfl) (fun _ h => absurd h List.not_mem_nil) (by decide) (by decide) (hts (.classLink RL 21 "java/lang/IndexOutOfBoundsException") (by decide +kernel)) (va_Nw.use rfl hE.2.2.1.1) hce hcv hcl ?_
  refine lv_astore (lv' := [(4, .ref q9), (0, .ref h0), (1, .int cx), (2, .int i), (3, .ref o2)]) hx hb dL_readFloat_13 hl (by decide) rfl (fun ls hl => ?_)
  refine lv_iconst (v := 1) hx hb dL_readFloat_15 (by decide) ?_
  refine vx_ret ?_
  exact W.iret (v := 1) hx hb hr (fun t9 ht9 hW9 => ⟨⟨1, (), rfl, rfl, by rw [ht9]; exact hP, hD⟩, hS.F ht9⟩) hS.2.2 dL_readFloat_16
set_option maxHeartbeats 4000000 in
set_option maxRecDepth 100000 in
theorem lLn_readDouble (l : Launch) (hfl : l.stackTraces = false) (D : va_G) (A : Nat → Prop) (cI cJ cD cC : ClassId) (h0 h1 h2 h3 h4 : Nat) (ad wd rd : Nat → Nat) (y0 y1 y2 y3 y4 y5 : Nat × va_E) (o1 o2 : Nat) (ov : Nat → Int64) (od : Nat → UInt64) (n : Nat) (K : Nat → Int32) (Ln : Nat → Nat) (Wh : Nat → Int64) (Re : Nat → UInt64) (cd : Int32) (ct : Nat → Int32) (sz : Nat) (hn6 : n ≤ 60) (cx : Int32) (hc : ¬ ∃ j, j < n ∧ cx = nI j) (i : Int32) : vx_Met l yL_readDouble wsL_readDouble ({ frames := 8, cells := 1, slots := 6, locals := 134 }) (tcPL D A (tcTY cI cJ cD cC) sz [.ref h0, .int cx, .int i, .ref o2] (tc_T cI cJ cD cC h0 h1 h2 h3 h4 ad wd rd (tc_Y cJ cD y0 y1 y2 y3 y4 y5 o1 o2 ov od) n K Ln Wh Re cd ct)) (va_Qi (fun r (_ : Unit) => r = 1) (fun _ t => tcB D A (tc_T cI cJ cD cC h0 h1 h2 h3 h4 ad wd rd (tc_Y cJ cD y0 y1 y2 y3 y4 y5 o1 o2 ov od) n K Ln Wh Re cd ct) t) A) (fun _ _ _ => False) 1 6 A := by
  refine vx_ofWH (cc := cL_readDouble) (maxL := 5) (ret := (some .int)) (hh := [(0, 9, 12, 21)]) (by decide) rfl ?_
  intro p e s m args below meth c s₁ B hml hv
  obtain ⟨rfl, ⟨hsz, hP, hK, hD, hE⟩, hNc⟩ := hv
  have hx := B.exec
  have hb := B.bytes
  have hr := B.returns
  have hts := atoms_spec (ws := wsL_readDouble) B.pre
  have hown : s.vm.findClass RL = some m.cls := findClass_of_methodNamed B.named
  have hlocks := B.notSynchronized
  have hl := lv_entry ([.ref h0, .int cx, .int i, .ref o2]) (n := 5) (Nat.le_of_ble_eq_true rfl)
  rw [lg_entry_eq]
  generalize (lg_sl ([.ref h0, .int cx, .int i, .ref o2]) ++ List.replicate (5 - (lg_sl ([.ref h0, .int cx, .int i, .ref o2])).length) Slot.unset).toArray = ls at hl ⊢
  have hl : lv_has ls 5 [(0, .ref h0), (1, .int cx), (2, .int i), (3, .ref o2)] := hl
  have htb := vx_table (x := yL_readDouble) B (hts (.codeWith yL_readDouble cL_readDouble 5 (some .int) [(0, 9, 12, 21)]) (by unfold wsL_readDouble; exact List.mem_cons_self))
  subst hsz
  have hS : va_S A s.heap s.heap [] := va_S.rf
  refine lv_aload_n hx hb dL_readDouble_0 rfl (lv_at hl 3 rfl) ?_
  refine lv_iconst (v := 0) hx hb dL_readDouble_1 (by decide) ?_
  refine lv_aload_n hx hb dL_readDouble_2 rfl (lv_at hl 0 rfl) ?_
  refine lv_iload_n hx hb dL_readDouble_3 rfl (lv_at hl 1 rfl) ?_
  refine lv_iload_n hx hb dL_readDouble_4 rfl (lv_at hl 2 rfl) ?_
  refine tc_thr (vx_runV (As := [.int cx, .int i]) (rest := [.int 0, .ref o2]) ⟨hx, hb, hml, hown, hts⟩ (bX2_readDouble l hfl D A cI cJ cD cC h0 h1 h2 h3 h4 ad wd rd (tc_Y cJ cD y0 y1 y2 y3 y4 y5 o1 o2 ov od) n K Ln Wh Re cd ct s.heap.size hn6 cx hc i) (cwV 2 hts gL_readDouble_X2_readDouble rfl rfl rfl (by decide +kernel) ⟨Nat.le_of_ble_eq_true rfl, Nat.le_of_ble_eq_true rfl⟩) ⟨tcP.blind, va_recv hK hP (ci := 2) (q0 := 0) rfl rfl, tcP.go hK hP hD hE hS⟩ rfl rfl hl.1 rfl (lv_room (Nat.le_of_ble_eq_true rfl)) dL_readDouble_5 ⟨Nat.le_of_ble_eq_true rfl, Nat.le_of_ble_eq_true rfl⟩) hS (fun q h => h) (fun q _ h => h) (fun E ce q9 u t H locs ht hvm hw hB hz1 hk1 hS hce hcv hcl => ?_)
  obtain ⟨rfl, hP, hD⟩ := hB
  rw [ht] at hP
  refine vx_catch (own := RL) (name := "java/lang/IndexOutOfBoundsException") (E := "java/lang/IndexOutOfBoundsException") (ce := ce) hown [] ⟨0, 9, 12, 21⟩ [] (htb.trans rfl) (fun _ h => absurd h List.not_mem_nil) (by decide) (by decide) (hts (.classLink RL 21 "java/lang/IndexOutOfBoundsException") (by decide +kernel)) (va_Nw.use rfl hE.2.2.1.1) hce hcv hcl ?_
  refine lv_astore (lv' := [(4, .ref q9), (0, .ref h0), (1, .int cx), (2, .int i), (3, .ref o2)]) hx hb dL_readDouble_12 hl (by decide) rfl (fun ls hl => ?_)
  refine lv_iconst (v := 1) hx hb dL_readDouble_14 (by decide) ?_
  refine vx_ret ?_
  exact W.iret (v := 1) hx hb hr (fun t9 ht9 hW9 => ⟨⟨1, (), rfl, rfl, by rw [ht9]; exact hP, hD⟩, hS.F ht9⟩) hS.2.2 dL_readDouble_15
set_option maxHeartbeats 4000000 in
set_option maxRecDepth 100000 in
theorem lLn_readAny (l : Launch) (hfl : l.stackTraces = false) (D : va_G) (A : Nat → Prop) (cI cJ cD cC : ClassId) (h0 h1 h2 h3 h4 : Nat) (ad wd rd : Nat → Nat) (y0 y1 y2 y3 y4 y5 : Nat × va_E) (o1 o2 : Nat) (ov : Nat → Int64) (od : Nat → UInt64) (n : Nat) (K : Nat → Int32) (Ln : Nat → Nat) (Wh : Nat → Int64) (Re : Nat → UInt64) (cd : Int32) (ct : Nat → Int32) (sz : Nat) (hn6 : n ≤ 60) (cx : Int32) (hc : ¬ ∃ j, j < n ∧ cx = nI j) (i : Int32) : vx_Met l yL_readAny wsL_readAny ({ frames := 8, cells := 1, slots := 6, locals := 135 }) (tcPL D A (tcTY cI cJ cD cC) sz [.ref h0, .int cx, .int i, .ref o2] (tc_T cI cJ cD cC h0 h1 h2 h3 h4 ad wd rd (tc_Y cJ cD y0 y1 y2 y3 y4 y5 o1 o2 ov od) n K Ln Wh Re cd ct)) (va_Qi (fun r (_ : Unit) => r = 1) (fun _ t => tcB D A (tc_T cI cJ cD cC h0 h1 h2 h3 h4 ad wd rd (tc_Y cJ cD y0 y1 y2 y3 y4 y5 o1 o2 ov od) n K Ln Wh Re cd ct) t) A) (fun _ _ _ => False) 1 6 A := by
  refine vx_ofWH (cc := cL_readAny) (maxL := 5) (ret := (some .int)) (hh := [(0, 9, 12, 21)]) (by decide) rfl ?_
  intro p e s m args below meth c s₁ B hml hv
  obtain ⟨rfl, ⟨hsz, hP, hK, hD, hE⟩, hNc⟩ := hv
  have hx := B.exec
  have hb := B.bytes
  have hr := B.returns
  have hts := atoms_spec (ws := wsL_readAny) B.pre
  have hown : s.vm.findClass RL = some m.cls := findClass_of_methodNamed B.named
  have hlocks := B.notSynchronized
  have hl := lv_entry ([.ref h0, .int cx, .int i, .ref o2]) (n := 5) (Nat.le_of_ble_eq_true rfl)
  rw [lg_entry_eq]
  generalize (lg_sl ([.ref h0, .int cx, .int i, .ref o2]) ++ List.replicate (5 - (lg_sl ([.ref h0, .int cx, .int i, .ref o2])).length) Slot.unset).toArray = ls at hl ⊢
  have hl : lv_has ls 5 [(0, .ref h0), (1, .int cx), (2, .int i), (3, .ref o2)] := hl
  have htb := vx_table (x := yL_readAny) B (hts (.codeWith yL_readAny cL_readAny 5 (some .int) [(0, 9, 12, 21)]) (by unfold wsL_readAny; exact List.mem_cons_self))
  subst hsz
  have hS : va_S A s.heap s.heap [] := va_S.rf
  refine lv_aload_n hx hb dL_readAny_0 rfl (lv_at hl 3 rfl) ?_
  refine lv_iconst (v := 0) hx hb dL_readAny_1 (by decide) ?_
  refine lv_aload_n hx hb dL_readAny_2 rfl (lv_at hl 0 rfl) ?_
  refine lv_iload_n hx hb dL_readAny_3 rfl (lv_at hl 1 rfl) ?_
  refine lv_iload_n hx hb dL_readAny_4 rfl (lv_at hl 2 rfl) ?_
  refine tc_thr (vx_runV (As := [.int cx, .int i]) (rest := [.int 0, .ref o2]) ⟨hx, hb, hml, hown, hts⟩ (bX2_readAny l hfl D A cI cJ cD cC h0 h1 h2 h3 h4 ad wd rd (tc_Y cJ cD y0 y1 y2 y3 y4 y5 o1 o2 ov od) n K Ln Wh Re cd ct s.heap.size hn6 cx hc i) (cwV 2 hts gL_readAny_X2_readAny rfl rfl rfl (by decide +kernel) ⟨Nat.le_of_ble_eq_true rfl, Nat.le_of_ble_eq_true rfl⟩) ⟨tcP.blind, va_recv hK hP (ci := 2) (q0 := 0) rfl rfl, tcP.go hK hP hD hE hS⟩ rfl rfl hl.1 rfl (lv_room (Nat.le_of_ble_eq_true rfl)) dL_readAny_5 ⟨Nat.le_of_ble_eq_true rfl, Nat.le_of_ble_eq_true rfl⟩) hS (fun q h => h) (fun q _ h => h) (fun E ce q9 u t H locs ht hvm hw hB hz1 hk1 hS hce hcv hcl => ?_)
  obtain ⟨rfl, hP, hD⟩ := hB
  rw [ht] at hP
  refine vx_catch (own := RL) (name := "java/lang/IndexOutOfBoundsException") (E := "java/lang/IndexOutOfBoundsException") (ce := ce) hown [] ⟨0, 9, 12, 21⟩ [] (htb.trans rfl) (fun _ h => absurd h List.not_mem_nil) (by decide) (by decide) (hts (.classLink RL 21 "java/lang/IndexOutOfBoundsException") (by decide +kernel)) (va_Nw.use rfl hE.2.2.1.1) hce hcv hcl ?_
  refine lv_astore (lv' := [(4, .ref q9), (0, .ref h0), (1, .int cx), (2, .int i), (3, .ref o2)]) hx hb dL_readAny_12 hl (by decide) rfl (fun ls hl => ?_)
  refine lv_iconst (v := 1) hx hb dL_readAny_14 (by decide) ?_
  refine vx_ret ?_
  exact W.iret (v := 1) hx hb hr (fun t9 ht9 hW9 => ⟨⟨1, (), rfl, rfl, by rw [ht9]; exact hP, hD⟩, hS.F ht9⟩) hS.2.2 dL_readAny_15
set_option maxHeartbeats 4000000 in
set_option maxRecDepth 100000 in
theorem lLn_kind (l : Launch) (hfl : l.stackTraces = false) (D : va_G) (A : Nat → Prop) (cI cJ cD cC : ClassId) (h0 h1 h2 h3 h4 : Nat) (ad wd rd : Nat → Nat) (y0 y1 y2 y3 y4 y5 : Nat × va_E) (o1 o2 : Nat) (ov : Nat → Int64) (od : Nat → UInt64) (n : Nat) (K : Nat → Int32) (Ln : Nat → Nat) (Wh : Nat → Int64) (Re : Nat → UInt64) (cd : Int32) (ct : Nat → Int32) (sz : Nat) (hn6 : n ≤ 60) (cx : Int32) (hc : ¬ ∃ j, j < n ∧ cx = nI j)  : vx_Met l yL_kind wsL_kind ({ frames := 8, cells := 1, slots := 6, locals := 133 }) (tcPL D A (tcTY cI cJ cD cC) sz [.ref h0, .int cx, .ref o1] (tc_T cI cJ cD cC h0 h1 h2 h3 h4 ad wd rd (tc_Y cJ cD y0 y1 y2 y3 y4 y5 o1 o2 ov od) n K Ln Wh Re cd ct)) (va_Qi (fun r (_ : Unit) => r = 1) (fun _ t => tcB D A (tc_T cI cJ cD cC h0 h1 h2 h3 h4 ad wd rd (tc_Y cJ cD y0 y1 y2 y3 y4 y5 o1 o2 ov od) n K Ln Wh Re cd ct) t) A) (fun _ _ _ => False) 1 6 A := by
  refine vx_ofWH (cc := cL_kind) (maxL := 4) (ret := (some .int)) (hh := [(0, 9, 12, 21)]) (by decide) rfl ?_
  intro p e s m args below meth c s₁ B hml hv
  obtain ⟨rfl, ⟨hsz, hP, hK, hD, hE⟩, hNc⟩ := hv
  have hx := B.exec
  have hb := B.bytes
  have hr := B.returns
  have hts := atoms_spec (ws := wsL_kind) B.pre
  have hown : s.vm.findClass RL = some m.cls := findClass_of_methodNamed B.named
  have hlocks := B.notSynchronized
  have hl := lv_entry ([.ref h0, .int cx, .ref o1]) (n := 4) (Nat.le_of_ble_eq_true rfl)
  rw [lg_entry_eq]
  generalize (lg_sl ([.ref h0, .int cx, .ref o1]) ++ List.replicate (4 - (lg_sl ([.ref h0, .int cx, .ref o1])).length) Slot.unset).toArray = ls at hl ⊢
  have hl : lv_has ls 4 [(0, .ref h0), (1, .int cx), (2, .ref o1)] := hl
  have htb := vx_table (x := yL_kind) B (hts (.codeWith yL_kind cL_kind 4 (some .int) [(0, 9, 12, 21)]) (by unfold wsL_kind; exact List.mem_cons_self))
  subst hsz
  have hS : va_S A s.heap s.heap [] := va_S.rf
  refine lv_aload_n hx hb dL_kind_0 rfl (lv_at hl 2 rfl) ?_
  refine lv_iconst (v := 0) hx hb dL_kind_1 (by decide) ?_
  refine lv_aload_n hx hb dL_kind_2 rfl (lv_at hl 0 rfl) ?_
  refine lv_iload_n hx hb dL_kind_3 rfl (lv_at hl 1 rfl) ?_
  refine tc_thr (vx_runV (As := [.int cx]) (rest := [.int 0, .ref o1]) ⟨hx, hb, hml, hown, hts⟩ (bX2_kind l hfl D A cI cJ cD cC h0 h1 h2 h3 h4 ad wd rd (tc_Y cJ cD y0 y1 y2 y3 y4 y5 o1 o2 ov od) n K Ln Wh Re cd ct s.heap.size hn6 cx hc) (cwV 1 hts gL_kind_X2_kind rfl rfl rfl (by decide +kernel) ⟨Nat.le_of_ble_eq_true rfl, Nat.le_of_ble_eq_true rfl⟩) ⟨tcP.blind, va_recv hK hP (ci := 2) (q0 := 0) rfl rfl, tcP.go hK hP hD hE hS⟩ rfl rfl hl.1 rfl (lv_room (Nat.le_of_ble_eq_true rfl)) dL_kind_4 ⟨Nat.le_of_ble_eq_true rfl, Nat.le_of_ble_eq_true rfl⟩) hS (fun q h => h) (fun q _ h => h) (fun E ce q9 u t H locs ht hvm hw hB hz1 hk1 hS hce hcv hcl => ?_)
  obtain ⟨rfl, hP, hD⟩ := hB
  rw [ht] at hP
  refine vx_catch (own := RL) (name := "java/lang/IndexOutOfBoundsException") (E := "java/lang/IndexOutOfBoundsException") (ce := ce) hown [] ⟨0, 9, 12, 21⟩ [] (htb.trans rfl) (fun _ h => absurd h List.not_mem_nil) (by decide) (by decide) (hts (.classLink RL 21 "java/lang/IndexOutOfBoundsException") (by decide +kernel)) (va_Nw.use rfl hE.2.2.1.1) hce hcv hcl ?_
  refine lv_astore_n (lv' := [(3, .ref q9), (0, .ref h0), (1, .int cx), (2, .ref o1)]) hx hb dL_kind_12 rfl hl (by decide) rfl (fun ls hl => ?_)
  refine lv_iconst (v := 1) hx hb dL_kind_13 (by decide) ?_
  refine vx_ret ?_
  exact W.iret (v := 1) hx hb hr (fun t9 ht9 hW9 => ⟨⟨1, (), rfl, rfl, by rw [ht9]; exact hP, hD⟩, hS.F ht9⟩) hS.2.2 dL_kind_14
set_option maxHeartbeats 4000000 in
set_option maxRecDepth 100000 in
theorem lLn_length (l : Launch) (hfl : l.stackTraces = false) (D : va_G) (A : Nat → Prop) (cI cJ cD cC : ClassId) (h0 h1 h2 h3 h4 : Nat) (ad wd rd : Nat → Nat) (y0 y1 y2 y3 y4 y5 : Nat × va_E) (o1 o2 : Nat) (ov : Nat → Int64) (od : Nat → UInt64) (n : Nat) (K : Nat → Int32) (Ln : Nat → Nat) (Wh : Nat → Int64) (Re : Nat → UInt64) (cd : Int32) (ct : Nat → Int32) (sz : Nat) (hn6 : n ≤ 60) (cx : Int32) (hc : ¬ ∃ j, j < n ∧ cx = nI j)  : vx_Met l yL_length wsL_length ({ frames := 8, cells := 1, slots := 6, locals := 134 }) (tcPL D A (tcTY cI cJ cD cC) sz [.ref h0, .int cx, .ref o1] (tc_T cI cJ cD cC h0 h1 h2 h3 h4 ad wd rd (tc_Y cJ cD y0 y1 y2 y3 y4 y5 o1 o2 ov od) n K Ln Wh Re cd ct)) (va_Qi (fun r (_ : Unit) => r = 1) (fun _ t => tcB D A (tc_T cI cJ cD cC h0 h1 h2 h3 h4 ad wd rd (tc_Y cJ cD y0 y1 y2 y3 y4 y5 o1 o2 ov od) n K Ln Wh Re cd ct) t) A) (fun _ _ _ => False) 1 6 A := by
  refine vx_ofWH (cc := cL_length) (maxL := 4) (ret := (some .int)) (hh := [(0, 9, 12, 21)]) (by decide) rfl ?_
  intro p e s m args below meth c s₁ B hml hv
  obtain ⟨rfl, ⟨hsz, hP, hK, hD, hE⟩, hNc⟩ := hv
  have hx := B.exec
  have hb := B.bytes
  have hr := B.returns
  have hts := atoms_spec (ws := wsL_length) B.pre
  have hown : s.vm.findClass RL = some m.cls := findClass_of_methodNamed B.named
  have hlocks := B.notSynchronized
  have hl := lv_entry ([.ref h0, .int cx, .ref o1]) (n := 4) (Nat.le_of_ble_eq_true rfl)
  rw [lg_entry_eq]
  generalize (lg_sl ([.ref h0, .int cx, .ref o1]) ++ List.replicate (4 - (lg_sl ([.ref h0, .int cx, .ref o1])).length) Slot.unset).toArray = ls at hl ⊢
  have hl : lv_has ls 4 [(0, .ref h0), (1, .int cx), (2, .ref o1)] := hl
  have htb := vx_table (x := yL_length) B (hts (.codeWith yL_length cL_length 4 (some .int) [(0, 9, 12, 21)]) (by unfold wsL_length; exact List.mem_cons_self))
  subst hsz
  have hS : va_S A s.heap s.heap [] := va_S.rf
  refine lv_aload_n hx hb dL_length_0 rfl (lv_at hl 2 rfl) ?_
  refine lv_iconst (v := 0) hx hb dL_length_1 (by decide) ?_
  refine lv_aload_n hx hb dL_length_2 rfl (lv_at hl 0 rfl) ?_
  refine lv_iload_n hx hb dL_length_3 rfl (lv_at hl 1 rfl) ?_
  refine tc_thr (vx_runV (As := [.int cx]) (rest := [.int 0, .ref o1]) ⟨hx, hb, hml, hown, hts⟩ (bX2_length l hfl D A cI cJ cD cC h0 h1 h2 h3 h4 ad wd rd (tc_Y cJ cD y0 y1 y2 y3 y4 y5 o1 o2 ov od) n K Ln Wh Re cd ct s.heap.size hn6 cx hc) (cwV 1 hts gL_length_X2_length rfl rfl rfl (by decide +kernel) ⟨Nat.le_of_ble_eq_true rfl, Nat.le_of_ble_eq_true rfl⟩) ⟨tcP.blind, va_recv hK hP (ci := 2) (q0 := 0) rfl rfl, tcP.go hK hP hD hE hS⟩ rfl rfl hl.1 rfl (lv_room (Nat.le_of_ble_eq_true rfl)) dL_length_4 ⟨Nat.le_of_ble_eq_true rfl, Nat.le_of_ble_eq_true rfl⟩) hS (fun q h => h) (fun q _ h => h) (fun E ce q9 u t H locs ht hvm hw hB hz1 hk1 hS hce hcv hcl => ?_)
  obtain ⟨rfl, hP, hD⟩ := hB
  rw [ht] at hP
  refine vx_catch (own := RL) (name := "java/lang/IndexOutOfBoundsException") (E := "java/lang/IndexOutOfBoundsException") (ce := ce) hown [] ⟨0, 9, 12, 21⟩ [] (htb.trans rfl) (fun _ h => absurd h List.not_mem_nil) (by decide) (by decide) (hts (.classLink RL 21 "java/lang/IndexOutOfBoundsException") (by decide +kernel)) (va_Nw.use rfl hE.2.2.1.1) hce hcv hcl ?_
  refine lv_astore_n (lv' := [(3, .ref q9), (0, .ref h0), (1, .int cx), (2, .ref o1)]) hx hb dL_length_12 rfl hl (by decide) rfl (fun ls hl => ?_)
  refine lv_iconst (v := 1) hx hb dL_length_13 (by decide) ?_
  refine vx_ret ?_
  exact W.iret (v := 1) hx hb hr (fun t9 ht9 hW9 => ⟨⟨1, (), rfl, rfl, by rw [ht9]; exact hP, hD⟩, hS.F ht9⟩) hS.2.2 dL_length_14
set_option maxHeartbeats 4000000 in
set_option maxRecDepth 100000 in
theorem lLn_total (l : Launch) (hfl : l.stackTraces = false) (D : va_G) (A : Nat → Prop) (cI cJ cD cC : ClassId) (h0 h1 h2 h3 h4 : Nat) (ad wd rd : Nat → Nat) (y0 y1 y2 y3 y4 y5 : Nat × va_E) (o1 o2 : Nat) (ov : Nat → Int64) (od : Nat → UInt64) (n : Nat) (K : Nat → Int32) (Ln : Nat → Nat) (Wh : Nat → Int64) (Re : Nat → UInt64) (cd : Int32) (ct : Nat → Int32) (sz : Nat) (hn6 : n ≤ 60) (cx : Int32) (hc : ¬ ∃ j, j < n ∧ cx = nI j)  : vx_Met l yL_total wsL_total ({ frames := 8, cells := 1, slots := 6, locals := 135 }) (tcPL D A (tcTY cI cJ cD cC) sz [.ref h0, .int cx, .ref o2] (tc_T cI cJ cD cC h0 h1 h2 h3 h4 ad wd rd (tc_Y cJ cD y0 y1 y2 y3 y4 y5 o1 o2 ov od) n K Ln Wh Re cd ct)) (va_Qi (fun r (_ : Unit) => r = 1) (fun _ t => tcB D A (tc_T cI cJ cD cC h0 h1 h2 h3 h4 ad wd rd (tc_Y cJ cD y0 y1 y2 y3 y4 y5 o1 o2 ov od) n K Ln Wh Re cd ct) t) A) (fun _ _ _ => False) 1 6 A := by
  refine vx_ofWH (cc := cL_total) (maxL := 4) (ret := (some .int)) (hh := [(0, 8, 11, 21)]) (by decide) rfl ?_
  intro p e s m args below meth c s₁ B hml hv
  obtain ⟨rfl, ⟨hsz, hP, hK, hD, hE⟩, hNc⟩ := hv
  have hx := B.exec
  have hb := B.bytes
  have hr := B.returns
  have hts := atoms_spec (ws := wsL_total) B.pre
  have hown : s.vm.findClass RL = some m.cls := findClass_of_methodNamed B.named
  have hlocks := B.notSynchronized
  have hl := lv_entry ([.ref h0, .int cx, .ref o2]) (n := 4) (Nat.le_of_ble_eq_true rfl)
  rw [lg_entry_eq]
  generalize (lg_sl ([.ref h0, .int cx, .ref o2]) ++ List.replicate (4 - (lg_sl ([.ref h0, .int cx, .ref o2])).length) Slot.unset).toArray = ls at hl ⊢
  have hl : lv_has ls 4 [(0, .ref h0), (1, .int cx), (2, .ref o2)] := hl
  have htb := vx_table (x := yL_total) B (hts (.codeWith yL_total cL_total 4 (some .int) [(0, 8, 11, 21)]) (by unfold wsL_total; exact List.mem_cons_self))
  subst hsz
  have hS : va_S A s.heap s.heap [] := va_S.rf
  refine lv_aload_n hx hb dL_total_0 rfl (lv_at hl 2 rfl) ?_
  refine lv_iconst (v := 0) hx hb dL_total_1 (by decide) ?_
  refine lv_aload_n hx hb dL_total_2 rfl (lv_at hl 0 rfl) ?_
  refine lv_iload_n hx hb dL_total_3 rfl (lv_at hl 1 rfl) ?_
  refine tc_thr (vx_runV (As := [.int cx]) (rest := [.int 0, .ref o2]) ⟨hx, hb, hml, hown, hts⟩ (bX2_total l hfl D A cI cJ cD cC h0 h1 h2 h3 h4 ad wd rd (tc_Y cJ cD y0 y1 y2 y3 y4 y5 o1 o2 ov od) n K Ln Wh Re cd ct s.heap.size hn6 cx hc) (cwV 1 hts gL_total_X2_total rfl rfl rfl (by decide +kernel) ⟨Nat.le_of_ble_eq_true rfl, Nat.le_of_ble_eq_true rfl⟩) ⟨tcP.blind, va_recv hK hP (ci := 2) (q0 := 0) rfl rfl, tcP.go hK hP hD hE hS⟩ rfl rfl hl.1 rfl (lv_room (Nat.le_of_ble_eq_true rfl)) dL_total_4 ⟨Nat.le_of_ble_eq_true rfl, Nat.le_of_ble_eq_true rfl⟩) hS (fun q h => h) (fun q _ h => h) (fun E ce q9 u t H locs ht hvm hw hB hz1 hk1 hS hce hcv hcl => ?_)
  obtain ⟨rfl, hP, hD⟩ := hB
  rw [ht] at hP
  refine vx_catch (own := RL) (name := "java/lang/IndexOutOfBoundsException") (E := "java/lang/IndexOutOfBoundsException") (ce := ce) hown [] ⟨0, 8, 11, 21⟩ [] (htb.trans rfl) (fun _ h => absurd h List.not_mem_nil) (by decide) (by decide) (hts (.classLink RL 21 "java/lang/IndexOutOfBoundsException") (by decide +kernel)) (va_Nw.use rfl hE.2.2.1.1) hce hcv hcl ?_
  refine lv_astore_n (lv' := [(3, .ref q9), (0, .ref h0), (1, .int cx), (2, .ref o2)]) hx hb dL_total_11 rfl hl (by decide) rfl (fun ls hl => ?_)
  refine lv_iconst (v := 1) hx hb dL_total_12 (by decide) ?_
  refine vx_ret ?_
  exact W.iret (v := 1) hx hb hr (fun t9 ht9 hW9 => ⟨⟨1, (), rfl, rfl, by rw [ht9]; exact hP, hD⟩, hS.F ht9⟩) hS.2.2 dL_total_13
set_option maxHeartbeats 4000000 in
set_option maxRecDepth 100000 in
theorem lLn_writeBoolean (l : Launch) (hfl : l.stackTraces = false) (D : va_G) (A : Nat → Prop) (cI cJ cD cC : ClassId) (h0 h1 h2 h3 h4 : Nat) (ad wd rd : Nat → Nat) (y0 y1 y2 y3 y4 y5 : Nat × va_E) (o1 o2 : Nat) (ov : Nat → Int64) (od : Nat → UInt64) (n : Nat) (K : Nat → Int32) (Ln : Nat → Nat) (Wh : Nat → Int64) (Re : Nat → UInt64) (cd : Int32) (ct : Nat → Int32) (sz : Nat) (hn6 : n ≤ 60) (cx : Int32) (hc : ¬ ∃ j, j < n ∧ cx = nI j) (i : Int32) (v : Int32) : vx_Met l yL_writeBoolean wsL_writeBoolean ({ frames := 8, cells := 1, slots := 6, locals := 135 }) (tcPL D A (tcTY cI cJ cD cC) sz [.ref h0, .int cx, .int i, .int v, .ref o1] (tc_T cI cJ cD cC h0 h1 h2 h3 h4 ad wd rd (tc_Y cJ cD y0 y1 y2 y3 y4 y5 o1 o2 ov od) n K Ln Wh Re cd ct)) (va_Qi (fun r (_ : Unit) => r = 1) (fun _ t => tcB D A (tc_T cI cJ cD cC h0 h1 h2 h3 h4 ad wd rd (tc_Y cJ cD y0 y1 y2 y3 y4 y5 o1 o2 ov od) n K Ln Wh Re cd ct) t) A) (fun _ _ _ => False) 1 6 A := by
  refine vx_ofWH (cc := cL_writeBoolean) (maxL := 6) (ret := (some .int)) (hh := [(0, 12, 15, 21)]) (by decide) rfl ?_
  intro p e s m args below meth c s₁ B hml hv
  obtain ⟨rfl, ⟨hsz, hP, hK, hD, hE⟩, hNc⟩ := hv
  have hx := B.exec
  have hb := B.bytes
  have hr := B.returns
  have hts := atoms_spec (ws := wsL_writeBoolean) B.pre
  have hown : s.vm.findClass RL = some m.cls := findClass_of_methodNamed B.named
  have hlocks := B.notSynchronized
  have hl := lv_entry ([.ref h0, .int cx, .int i, .int v, .ref o1]) (n := 6) (Nat.le_of_ble_eq_true rfl)
  rw [lg_entry_eq]
  generalize (lg_sl ([.ref h0, .int cx, .int i, .int v, .ref o1]) ++ List.replicate (6 - (lg_sl ([.ref h0, .int cx, .int i, .int v, .ref o1])).length) Slot.unset).toArray = ls at hl ⊢
  have hl : lv_has ls 6 [(0, .ref h0), (1, .int cx), (2, .int i), (3, .int v), (4, .ref o1)] := hl
  have htb := vx_table (x := yL_writeBoolean) B (hts (.codeWith yL_writeBoolean cL_writeBoolean 6 (some .int) [(0, 12, 15, 21)]) (by unfold wsL_writeBoolean; exact List.mem_cons_self))
  subst hsz
  have hS : va_S A s.heap s.heap [] := va_S.rf
  refine lv_aload hx hb dL_writeBoolean_0 (lv_at hl 4 rfl) ?_
  refine lv_iconst (v := 0) hx hb dL_writeBoolean_2 (by decide) ?_
  refine lv_aload_n hx hb dL_writeBoolean_3 rfl (lv_at hl 0 rfl) ?_
  refine lv_iload_n hx hb dL_writeBoolean_4 rfl (lv_at hl 1 rfl) ?_
  refine lv_iload_n hx hb dL_writeBoolean_5 rfl (lv_at hl 2 rfl) ?_
  refine lv_iload_n hx hb dL_writeBoolean_6 rfl (lv_at hl 3 rfl) ?_
  refine tc_thr (vx_runV (As := [.int cx, .int i, .int v]) (rest := [.int 0, .ref o1]) ⟨hx, hb, hml, hown, hts⟩ (bX2_writeBoolean l hfl D A cI cJ cD cC h0 h1 h2 h3 h4 ad wd rd (tc_Y cJ cD y0 y1 y2 y3 y4 y5 o1 o2 ov od) n K Ln Wh Re cd ct s.heap.size hn6 cx hc i v) (cwV 3 hts gL_writeBoolean_X2_writeBoolean rfl rfl rfl (by decide +kernel) ⟨Nat.le_of_ble_eq_true rfl, Nat.le_of_ble_eq_true rfl⟩) ⟨tcP.blind, va_recv hK hP (ci := 2) (q0 := 0) rfl rfl, tcP.go hK hP hD hE hS⟩ rfl rfl hl.1 rfl (lv_room (Nat.le_of_ble_eq_true rfl)) dL_writeBoolean_7 ⟨Nat.le_of_ble_eq_true rfl, Nat.le_of_ble_eq_true rfl⟩) hS (fun q h => h) (fun q _ h => h) (fun E ce q9 u t H locs ht hvm hw hB hz1 hk1 hS hce hcv hcl => ?_)
  obtain ⟨rfl, hP, hD⟩ := hB
  rw [ht] at hP
  refine vx_catch (own := RL) (name := "java/lang/IndexOutOfBoundsException") (E := "java/lang/IndexOutOfBoundsException") (ce := ce) hown [] ⟨0, 12, 15, 21⟩ [] (htb.trans rfl) (fun _ h => absurd h List.not_mem_nil) (by decide) (by decide) (hts (.classLink RL 21 "java/lang/IndexOutOfBoundsException") (by decide +kernel)) (va_Nw.use rfl hE.2.2.1.1) hce hcv hcl ?_
  refine lv_astore (lv' := [(5, .ref q9), (0, .ref h0), (1, .int cx), (2, .int i), (3, .int v), (4, .ref o1)]) hx hb dL_writeBoolean_15 hl (by decide) rfl (fun ls hl => ?_)
  refine lv_iconst (v := 1) hx hb dL_writeBoolean_17 (by decide) ?_
  refine vx_ret ?_
  exact W.iret (v := 1) hx hb hr (fun t9 ht9 hW9 => ⟨⟨1, (), rfl, rfl, by rw [ht9]; exact hP, hD⟩, hS.F ht9⟩) hS.2.2 dL_writeBoolean_18
set_option maxHeartbeats 4000000 in
set_option maxRecDepth 100000 in
theorem lLn_writeByte (l : Launch) (hfl : l.stackTraces = false) (D : va_G) (A : Nat → Prop) (cI cJ cD cC : ClassId) (h0 h1 h2 h3 h4 : Nat) (ad wd rd : Nat → Nat) (y0 y1 y2 y3 y4 y5 : Nat × va_E) (o1 o2 : Nat) (ov : Nat → Int64) (od : Nat → UInt64) (n : Nat) (K : Nat → Int32) (Ln : Nat → Nat) (Wh : Nat → Int64) (Re : Nat → UInt64) (cd : Int32) (ct : Nat → Int32) (sz : Nat) (hn6 : n ≤ 60) (cx : Int32) (hc : ¬ ∃ j, j < n ∧ cx = nI j) (i : Int32) (v : Int32) : vx_Met l yL_writeByte wsL_writeByte ({ frames := 8, cells := 1, slots := 6, locals := 135 }) (tcPL D A (tcTY cI cJ cD cC) sz [.ref h0, .int cx, .int i, .int v, .ref o1] (tc_T cI cJ cD cC h0 h1 h2 h3 h4 ad wd rd (tc_Y cJ cD y0 y1 y2 y3 y4 y5 o1 o2 ov od) n K Ln Wh Re cd ct)) (va_Qi (fun r (_ : Unit) => r = 1) (fun _ t => tcB D A (tc_T cI cJ cD cC h0 h1 h2 h3 h4 ad wd rd (tc_Y cJ cD y0 y1 y2 y3 y4 y5 o1 o2 ov od) n K Ln Wh Re cd ct) t) A) (fun _ _ _ => False) 1 6 A := by
  refine vx_ofWH (cc := cL_writeByte) (maxL := 6) (ret := (some .int)) (hh := [(0, 12, 15, 21)]) (by decide) rfl ?_
  intro p e s m args below meth c s₁ B hml hv
  obtain ⟨rfl, ⟨hsz, hP, hK, hD, hE⟩, hNc⟩ := hv
  have hx := B.exec
  have hb := B.bytes
  have hr := B.returns
  have hts := atoms_spec (ws := wsL_writeByte) B.pre
  have hown : s.vm.findClass RL = some m.cls := findClass_of_methodNamed B.named
  have hlocks := B.notSynchronized
  have hl := lv_entry ([.ref h0, .int cx, .int i, .int v, .ref o1]) (n := 6) (Nat.le_of_ble_eq_true rfl)
  rw [lg_entry_eq]
  generalize (lg_sl ([.ref h0, .int cx, .int i, .int v, .ref o1]) ++ List.replicate (6 - (lg_sl ([.ref h0, .int cx, .int i, .int v, .ref o1])).length) Slot.unset).toArray = ls at hl ⊢
  have hl : lv_has ls 6 [(0, .ref h0), (1, .int cx), (2, .int i), (3, .int v), (4, .ref o1)] := hl
  have htb := vx_table (x := yL_writeByte) B (hts (.codeWith yL_writeByte cL_writeByte 6 (some .int) [(0, 12, 15, 21)]) (by unfold wsL_writeByte; exact List.mem_cons_self))
  subst hsz
  have hS : va_S A s.heap s.heap [] := va_S.rf
  refine lv_aload hx hb dL_writeByte_0 (lv_at hl 4 rfl) ?_
  refine lv_iconst (v := 0) hx hb dL_writeByte_2 (by decide) ?_
  refine lv_aload_n hx hb dL_writeByte_3 rfl (lv_at hl 0 rfl) ?_
  refine lv_iload_n hx hb dL_writeByte_4 rfl (lv_at hl 1 rfl) ?_
  refine lv_iload_n hx hb dL_writeByte_5 rfl (lv_at hl 2 rfl) ?_
  refine lv_iload_n hx hb dL_writeByte_6 rfl (lv_at hl 3 rfl) ?_
  refine tc_thr (vx_runV (As := [.int cx, .int i, .int v]) (rest := [.int 0, .ref o1]) ⟨hx, hb, hml, hown, hts⟩ (bX2_writeByte l hfl D A cI cJ cD cC h0 h1 h2 h3 h4 ad wd rd (tc_Y cJ cD y0 y1 y2 y3 y4 y5 o1 o2 ov od) n K Ln Wh Re cd ct s.heap.size hn6 cx hc i v) (cwV 3 hts gL_writeByte_X2_writeByte rfl rfl rfl (by decide +kernel) ⟨Nat.le_of_ble_eq_true rfl, Nat.le_of_ble_eq_true rfl⟩) ⟨tcP.blind, va_recv hK hP (ci := 2) (q0 := 0) rfl rfl, tcP.go hK hP hD hE hS⟩ rfl rfl hl.1 rfl (lv_room (Nat.le_of_ble_eq_true rfl)) dL_writeByte_7 ⟨Nat.le_of_ble_eq_true rfl, Nat.le_of_ble_eq_true rfl⟩) hS (fun q h => h) (fun q _ h => h) (fun E ce q9 u t H locs ht hvm hw hB hz1 hk1 hS hce hcv hcl => ?_)
  obtain ⟨rfl, hP, hD⟩ := hB
  rw [ht] at hP
  refine vx_catch (own := RL) (name := "java/lang/IndexOutOfBoundsException") (E := "java/lang/IndexOutOfBoundsException") (ce := ce) hown [] ⟨0, 12, 15, 21⟩ [] (htb.trans rfl) (fun _ h => absurd h List.not_mem_nil) (by decide) (by decide) (hts (.classLink RL 21 "java/lang/IndexOutOfBoundsException") (by decide +kernel)) (va_Nw.use rfl hE.2.2.1.1) hce hcv hcl ?_
  refine lv_astore (lv' := [(5, .ref q9), (0, .ref h0), (1, .int cx), (2, .int i), (3, .int v), (4, .ref o1)]) hx hb dL_writeByte_15 hl (by decide) rfl (fun ls hl => ?_)
  refine lv_iconst (v := 1) hx hb dL_writeByte_17 (by decide) ?_
  refine vx_ret ?_
  exact W.iret (v := 1) hx hb hr (fun t9 ht9 hW9 => ⟨⟨1, (), rfl, rfl, by rw [ht9]; exact hP, hD⟩, hS.F ht9⟩) hS.2.2 dL_writeByte_18
set_option maxHeartbeats 4000000 in
set_option maxRecDepth 100000 in
theorem lLn_writeChar (l : Launch) (hfl : l.stackTraces = false) (D : va_G) (A : Nat → Prop) (cI cJ cD cC : ClassId) (h0 h1 h2 h3 h4 : Nat) (ad wd rd : Nat → Nat) (y0 y1 y2 y3 y4 y5 : Nat × va_E) (o1 o2 : Nat) (ov : Nat → Int64) (od : Nat → UInt64) (n : Nat) (K : Nat → Int32) (Ln : Nat → Nat) (Wh : Nat → Int64) (Re : Nat → UInt64) (cd : Int32) (ct : Nat → Int32) (sz : Nat) (hn6 : n ≤ 60) (cx : Int32) (hc : ¬ ∃ j, j < n ∧ cx = nI j) (i : Int32) (v : Int32) : vx_Met l yL_writeChar wsL_writeChar ({ frames := 8, cells := 1, slots := 6, locals := 135 }) (tcPL D A (tcTY cI cJ cD cC) sz [.ref h0, .int cx, .int i, .int v, .ref o1] (tc_T cI cJ cD cC h0 h1 h2 h3 h4 ad wd rd (tc_Y cJ cD y0 y1 y2 y3 y4 y5 o1 o2 ov od) n K Ln Wh Re cd ct)) (va_Qi (fun r (_ : Unit) => r = 1) (fun _ t => tcB D A (tc_T cI cJ cD cC h0 h1 h2 h3 h4 ad wd rd (tc_Y cJ cD y0 y1 y2 y3 y4 y5 o1 o2 ov od) n K Ln Wh Re cd ct) t) A) (fun _ _ _ => False) 1 6 A := by
  refine vx_ofWH (cc := cL_writeChar) (maxL := 6) (ret := (some .int)) (hh := [(0, 12, 15, 21)]) (by decide) rfl ?_
  intro p e s m args below meth c s₁ B hml hv
  obtain ⟨rfl, ⟨hsz, hP, hK, hD, hE⟩, hNc⟩ := hv
  have hx := B.exec
  have hb := B.bytes
  have hr := B.returns
  have hts := atoms_spec (ws := wsL_writeChar) B.pre
  have hown : s.vm.findClass RL = some m.cls := findClass_of_methodNamed B.named
  have hlocks := B.notSynchronized
  have hl := lv_entry ([.ref h0, .int cx, .int i, .int v, .ref o1]) (n := 6) (Nat.le_of_ble_eq_true rfl)
  rw [lg_entry_eq]
  generalize (lg_sl ([.ref h0, .int cx, .int i, .int v, .ref o1]) ++ List.replicate (6 - (lg_sl ([.ref h0, .int cx, .int i, .int v, .ref o1])).length) Slot.unset).toArray = ls at hl ⊢
  have hl : lv_has ls 6 [(0, .ref h0), (1, .int cx), (2, .int i), (3, .int v), (4, .ref o1)] := hl
  have htb := vx_table (x := yL_writeChar) B (hts (.codeWith yL_writeChar cL_writeChar 6 (some .int) [(0, 12, 15, 21)]) (by unfold wsL_writeChar; exact List.mem_cons_self))
  subst hsz
  have hS : va_S A s.heap s.heap [] := va_S.rf
  refine lv_aload hx hb dL_writeChar_0 (lv_at hl 4 rfl) ?_
  refine lv_iconst (v := 0) hx hb dL_writeChar_2 (by decide) ?_
  refine lv_aload_n hx hb dL_writeChar_3 rfl (lv_at hl 0 rfl) ?_
  refine lv_iload_n hx hb dL_writeChar_4 rfl (lv_at hl 1 rfl) ?_
  refine lv_iload_n hx hb dL_writeChar_5 rfl (lv_at hl 2 rfl) ?_
  refine lv_iload_n hx hb dL_writeChar_6 rfl (lv_at hl 3 rfl) ?_
  refine tc_thr (vx_runV (As := [.int cx, .int i, .int v]) (rest := [.int 0, .ref o1]) ⟨hx, hb, hml, hown, hts⟩ (bX2_writeChar l hfl D A cI cJ cD cC h0 h1 h2 h3 h4 ad wd rd (tc_Y cJ cD y0 y1 y2 y3 y4 y5 o1 o2 ov od) n K Ln Wh Re cd ct s.heap.size hn6 cx hc i v) (cwV 3 hts gL_writeChar_X2_writeChar rfl rfl rfl (by decide +kernel) ⟨Nat.le_of_ble_eq_true rfl, Nat.le_of_ble_eq_true rfl⟩) ⟨tcP.blind, va_recv hK hP (ci := 2) (q0 := 0) rfl rfl, tcP.go hK hP hD hE hS⟩ rfl rfl hl.1 rfl (lv_room (Nat.le_of_ble_eq_true rfl)) dL_writeChar_7 ⟨Nat.le_of_ble_eq_true rfl, Nat.le_of_ble_eq_true rfl⟩) hS (fun q h => h) (fun q _ h => h) (fun E ce q9 u t H locs ht hvm hw hB hz1 hk1 hS hce hcv hcl => ?_)
  obtain ⟨rfl, hP, hD⟩ := hB
  rw [ht] at hP
  refine vx_catch (own := RL) (name := "java/lang/IndexOutOfBoundsException") (E := "java/lang/IndexOutOfBoundsException") (ce := ce) hown [] ⟨0, 12, 15, 21⟩ [] (htb.trans rfl) (fun _ h => absurd h List.not_mem_nil) (by decide) (by decide) (hts (.classLink RL 21 "java/lang/IndexOutOfBoundsException") (by decide +kernel)) (va_Nw.use rfl hE.2.2.1.1) hce hcv hcl ?_
  refine lv_astore (lv' := [(5, .ref q9), (0, .ref h0), (1, .int cx), (2, .int i), (3, .int v), (4, .ref o1)]) hx hb dL_writeChar_15 hl (by decide) rfl (fun ls hl => ?_)
  refine lv_iconst (v := 1) hx hb dL_writeChar_17 (by decide) ?_
  refine vx_ret ?_
  exact W.iret (v := 1) hx hb hr (fun t9 ht9 hW9 => ⟨⟨1, (), rfl, rfl, by rw [ht9]; exact hP, hD⟩, hS.F ht9⟩) hS.2.2 dL_writeChar_18
set_option maxHeartbeats 4000000 in
set_option maxRecDepth 100000 in
theorem lLn_writeShort (l : Launch) (hfl : l.stackTraces = false) (D : va_G) (A : Nat → Prop) (cI cJ cD cC : ClassId) (h0 h1 h2 h3 h4 : Nat) (ad wd rd : Nat → Nat) (y0 y1 y2 y3 y4 y5 : Nat × va_E) (o1 o2 : Nat) (ov : Nat → Int64) (od : Nat → UInt64) (n : Nat) (K : Nat → Int32) (Ln : Nat → Nat) (Wh : Nat → Int64) (Re : Nat → UInt64) (cd : Int32) (ct : Nat → Int32) (sz : Nat) (hn6 : n ≤ 60) (cx : Int32) (hc : ¬ ∃ j, j < n ∧ cx = nI j) (i : Int32) (v : Int32) : vx_Met l yL_writeShort wsL_writeShort ({ frames := 8, cells := 1, slots := 6, locals := 135 }) (tcPL D A (tcTY cI cJ cD cC) sz [.ref h0, .int cx, .int i, .int v, .ref o1] (tc_T cI cJ cD cC h0 h1 h2 h3 h4 ad wd rd (tc_Y cJ cD y0 y1 y2 y3 y4 y5 o1 o2 ov od) n K Ln Wh Re cd ct)) (va_Qi (fun r (_ : Unit) => r = 1) (fun _ t => tcB D A (tc_T cI cJ cD cC h0 h1 h2 h3 h4 ad wd rd (tc_Y cJ cD y0 y1 y2 y3 y4 y5 o1 o2 ov od) n K Ln Wh Re cd ct) t) A) (fun _ _ _ => False) 1 6 A := by
  refine vx_ofWH (cc := cL_writeShort) (maxL := 6) (ret := (some .int)) (hh := [(0, 12, 15, 21)]) (by decide) rfl ?_
  intro p e s m args below meth c s₁ B hml hv
  obtain ⟨rfl, ⟨hsz, hP, hK, hD, hE⟩, hNc⟩ := hv
  have hx := B.exec
  have hb := B.bytes
  have hr := B.returns
  have hts := atoms_spec (ws := wsL_writeShort) B.pre
  have hown : s.vm.findClass RL = some m.cls := findClass_of_methodNamed B.named
  have hlocks := B.notSynchronized
  have hl := lv_entry ([.ref h0, .int cx, .int i, .int v, .ref o1]) (n := 6) (Nat.le_of_ble_eq_true rfl)
  rw [lg_entry_eq]
  generalize (lg_sl ([.ref h0, .int cx, .int i, .int v, .ref o1]) ++ List.replicate (6 - (lg_sl ([.ref h0, .int cx, .int i, .int v, .ref o1])).length) Slot.unset).toArray = ls at hl ⊢
  have hl : lv_has ls 6 [(0, .ref h0), (1, .int cx), (2, .int i), (3, .int v), (4, .ref o1)] := hl
  have htb := vx_table (x := yL_writeShort) B (hts (.codeWith yL_writeShort cL_writeShort 6 (some .int) [(0, 12, 15, 21)]) (by unfold wsL_writeShort; exact List.mem_cons_self))
  subst hsz
  have hS : va_S A s.heap s.heap [] := va_S.rf
  refine lv_aload hx hb dL_writeShort_0 (lv_at hl 4 rfl) ?_
  refine lv_iconst (v := 0) hx hb dL_writeShort_2 (by decide) ?_
  refine lv_aload_n hx hb dL_writeShort_3 rfl (lv_at hl 0 rfl) ?_
  refine lv_iload_n hx hb dL_writeShort_4 rfl (lv_at hl 1 rfl) ?_
  refine lv_iload_n hx hb dL_writeShort_5 rfl (lv_at hl 2 rfl) ?_
  refine lv_iload_n hx hb dL_writeShort_6 rfl (lv_at hl 3 rfl) ?_
  refine tc_thr (vx_runV (As := [.int cx, .int i, .int v]) (rest := [.int 0, .ref o1]) ⟨hx, hb, hml, hown, hts⟩ (bX2_writeShort l hfl D A cI cJ cD cC h0 h1 h2 h3 h4 ad wd rd (tc_Y cJ cD y0 y1 y2 y3 y4 y5 o1 o2 ov od) n K Ln Wh Re cd ct s.heap.size hn6 cx hc i v) (cwV 3 hts gL_writeShort_X2_writeShort rfl rfl rfl (by decide +kernel) ⟨Nat.le_of_ble_eq_true rfl, Nat.le_of_ble_eq_true rfl⟩) ⟨tcP.blind, va_recv hK hP (ci := 2) (q0 := 0) rfl rfl, tcP.go hK hP hD hE hS⟩ rfl rfl hl.1 rfl (lv_room (Nat.le_of_ble_eq_true rfl)) dL_writeShort_7 ⟨Nat.le_of_ble_eq_true rfl, Nat.le_of_ble_eq_true rfl⟩) hS (fun q h => h) (fun q _ h => h) (fun E ce q9 u t H locs ht hvm hw hB hz1 hk1 hS hce hcv hcl => ?_)
  obtain ⟨rfl, hP, hD⟩ := hB
  rw [ht] at hP
  refine vx_catch (own := RL) (name := "java/lang/IndexOutOfBoundsException") (E := "java/lang/IndexOutOfBoundsException") (ce := ce) hown [] ⟨0, 12, 15, 21⟩ [] (htb.trans rfl) (fun _ h => absurd h List.not_mem_nil) (by decide) (by decide) (hts (.classLink RL 21 "java/lang/IndexOutOfBoundsException") (by decide +kernel)) (va_Nw.use rfl hE.2.2.1.1) hce hcv hcl ?_
  refine lv_astore (lv' := [(5, .ref q9), (0, .ref h0), (1, .int cx), (2, .int i), (3, .int v), (4, .ref o1)]) hx hb dL_writeShort_15 hl (by decide) rfl (fun ls hl => ?_)
  refine lv_iconst (v := 1) hx hb dL_writeShort_17 (by decide) ?_
  refine vx_ret ?_
  exact W.iret (v := 1) hx hb hr (fun t9 ht9 hW9 => ⟨⟨1, (), rfl, rfl, by rw [ht9]; exact hP, hD⟩, hS.F ht9⟩) hS.2.2 dL_writeShort_18
set_option maxHeartbeats 4000000 in
set_option maxRecDepth 100000 in
theorem lLn_writeInt (l : Launch) (hfl : l.stackTraces = false) (D : va_G) (A : Nat → Prop) (cI cJ cD cC : ClassId) (h0 h1 h2 h3 h4 : Nat) (ad wd rd : Nat → Nat) (y0 y1 y2 y3 y4 y5 : Nat × va_E) (o1 o2 : Nat) (ov : Nat → Int64) (od : Nat → UInt64) (n : Nat) (K : Nat → Int32) (Ln : Nat → Nat) (Wh : Nat → Int64) (Re : Nat → UInt64) (cd : Int32) (ct : Nat → Int32) (sz : Nat) (hn6 : n ≤ 60) (cx : Int32) (hc : ¬ ∃ j, j < n ∧ cx = nI j) (i : Int32) (v : Int32) : vx_Met l yL_writeInt wsL_writeInt ({ frames := 8, cells := 1, slots := 6, locals := 135 }) (tcPL D A (tcTY cI cJ cD cC) sz [.ref h0, .int cx, .int i, .int v, .ref o1] (tc_T cI cJ cD cC h0 h1 h2 h3 h4 ad wd rd (tc_Y cJ cD y0 y1 y2 y3 y4 y5 o1 o2 ov od) n K Ln Wh Re cd ct)) (va_Qi (fun r (_ : Unit) => r = 1) (fun _ t => tcB D A (tc_T cI cJ cD cC h0 h1 h2 h3 h4 ad wd rd (tc_Y cJ cD y0 y1 y2 y3 y4 y5 o1 o2 ov od) n K Ln Wh Re cd ct) t) A) (fun _ _ _ => False) 1 6 A := by
  refine vx_ofWH (cc := cL_writeInt) (maxL := 6) (ret := (some .int)) (hh := [(0, 12, 15, 21)]) (by decide) rfl ?_
  intro p e s m args below meth c s₁ B hml hv
  obtain ⟨rfl, ⟨hsz, hP, hK, hD, hE⟩, hNc⟩ := hv
  have hx := B.exec
  have hb := B.bytes
  have hr := B.returns
  have hts := atoms_spec (ws := wsL_writeInt) B.pre
  have hown : s.vm.findClass RL = some m.cls := findClass_of_methodNamed B.named
  have hlocks := B.notSynchronized
  have hl := lv_entry ([.ref h0, .int cx, .int i, .int v, .ref o1]) (n := 6) (Nat.le_of_ble_eq_true rfl)
  rw [lg_entry_eq]
  generalize (lg_sl ([.ref h0, .int cx, .int i, .int v, .ref o1]) ++ List.replicate (6 - (lg_sl ([.ref h0, .int cx, .int i, .int v, .ref o1])).length) Slot.unset).toArray = ls at hl ⊢
  have hl : lv_has ls 6 [(0, .ref h0), (1, .int cx), (2, .int i), (3, .int v), (4, .ref o1)] := hl
  have htb := vx_table (x := yL_writeInt) B (hts (.codeWith yL_writeInt cL_writeInt 6 (some .int) [(0, 12, 15, 21)]) (by unfold wsL_writeInt; exact List.mem_cons_self))
  subst hsz
  have hS : va_S A s.heap s.heap [] := va_S.rf
  refine lv_aload hx hb dL_writeInt_0 (lv_at hl 4 rfl) ?_
  refine lv_iconst (v := 0) hx hb dL_writeInt_2 (by decide) ?_
  refine lv_aload_n hx hb dL_writeInt_3 rfl (lv_at hl 0 rfl) ?_
  refine lv_iload_n hx hb dL_writeInt_4 rfl (lv_at hl 1 rfl) ?_
  refine lv_iload_n hx hb dL_writeInt_5 rfl (lv_at hl 2 rfl) ?_
  refine lv_iload_n hx hb dL_writeInt_6 rfl (lv_at hl 3 rfl) ?_
  refine tc_thr (vx_runV (As := [.int cx, .int i, .int v]) (rest := [.int 0, .ref o1]) ⟨hx, hb, hml, hown, hts⟩ (bX2_writeInt l hfl D A cI cJ cD cC h0 h1 h2 h3 h4 ad wd rd (tc_Y cJ cD y0 y1 y2 y3 y4 y5 o1 o2 ov od) n K Ln Wh Re cd ct s.heap.size hn6 cx hc i v) (cwV 3 hts gL_writeInt_X2_writeInt rfl rfl rfl (by decide +kernel) ⟨Nat.le_of_ble_eq_true rfl, Nat.le_of_ble_eq_true rfl⟩) ⟨tcP.blind, va_recv hK hP (ci := 2) (q0 := 0) rfl rfl, tcP.go hK hP hD hE hS⟩ rfl rfl hl.1 rfl (lv_room (Nat.le_of_ble_eq_true rfl)) dL_writeInt_7 ⟨Nat.le_of_ble_eq_true rfl, Nat.le_of_ble_eq_true rfl⟩) hS (fun q h => h) (fun q _ h => h) (fun E ce q9 u t H locs ht hvm hw hB hz1 hk1 hS hce hcv hcl => ?_)
  obtain ⟨rfl, hP, hD⟩ := hB
  rw [ht] at hP
  refine vx_catch (own := RL) (name := "java/lang/IndexOutOfBoundsException") (E := "java/lang/IndexOutOfBoundsException") (ce := ce) hown [] ⟨0, 12, 15, 21⟩ [] (htb.trans rfl) (fun _ h => absurd h List.not_mem_nil) (by decide) (by decide) (hts (.classLink RL 21 "java/lang/IndexOutOfBoundsException") (by decide +kernel)) (va_Nw.use rfl hE.2.2.1.1) hce hcv hcl ?_
  refine lv_astore (lv' := [(5, .ref q9), (0, .ref h0), (1, .int cx), (2, .int i), (3, .int v), (4, .ref o1)]) hx hb dL_writeInt_15 hl (by decide) rfl (fun ls hl => ?_)
  refine lv_iconst (v := 1) hx hb dL_writeInt_17 (by decide) ?_
  refine vx_ret ?_
  exact W.iret (v := 1) hx hb hr (fun t9 ht9 hW9 => ⟨⟨1, (), rfl, rfl, by rw [ht9]; exact hP, hD⟩, hS.F ht9⟩) hS.2.2 dL_writeInt_18
set_option maxHeartbeats 4000000 in
set_option maxRecDepth 100000 in
theorem lLn_writeLong (l : Launch) (hfl : l.stackTraces = false) (D : va_G) (A : Nat → Prop) (cI cJ cD cC : ClassId) (h0 h1 h2 h3 h4 : Nat) (ad wd rd : Nat → Nat) (y0 y1 y2 y3 y4 y5 : Nat × va_E) (o1 o2 : Nat) (ov : Nat → Int64) (od : Nat → UInt64) (n : Nat) (K : Nat → Int32) (Ln : Nat → Nat) (Wh : Nat → Int64) (Re : Nat → UInt64) (cd : Int32) (ct : Nat → Int32) (sz : Nat) (hn6 : n ≤ 60) (cx : Int32) (hc : ¬ ∃ j, j < n ∧ cx = nI j) (i : Int32) (v : Int64) : vx_Met l yL_writeLong wsL_writeLong ({ frames := 8, cells := 1, slots := 6, locals := 136 }) (tcPL D A (tcTY cI cJ cD cC) sz [.ref h0, .int cx, .int i, .long v, .ref o1] (tc_T cI cJ cD cC h0 h1 h2 h3 h4 ad wd rd (tc_Y cJ cD y0 y1 y2 y3 y4 y5 o1 o2 ov od) n K Ln Wh Re cd ct)) (va_Qi (fun r (_ : Unit) => r = 1) (fun _ t => tcB D A (tc_T cI cJ cD cC h0 h1 h2 h3 h4 ad wd rd (tc_Y cJ cD y0 y1 y2 y3 y4 y5 o1 o2 ov od) n K Ln Wh Re cd ct) t) A) (fun _ _ _ => False) 1 6 A := by
  refine vx_ofWH (cc := cL_writeLong) (maxL := 7) (ret := (some .int)) (hh := [(0, 12, 15, 21)]) (by decide) rfl ?_
  intro p e s m args below meth c s₁ B hml hv
  obtain ⟨rfl, ⟨hsz, hP, hK, hD, hE⟩, hNc⟩ := hv
  have hx := B.exec
  have hb := B.bytes
  have hr := B.returns
  have hts := atoms_spec (ws := wsL_writeLong) B.pre
  have hown : s.vm.findClass RL = some m.cls := findClass_of_methodNamed B.named
  have hlocks := B.notSynchronized
  have hl := lv_entry ([.ref h0, .int cx, .int i, .long v, .ref o1]) (n := 7) (Nat.le_of_ble_eq_true rfl)
  rw [lg_entry_eq]
  generalize (lg_sl ([.ref h0, .int cx, .int i, .long v, .ref o1]) ++ List.replicate (7 - (lg_sl ([.ref h0, .int cx, .int i, .long v, .ref o1])).length) Slot.unset).toArray = ls at hl ⊢
  have hl : lv_has ls 7 [(0, .ref h0), (1, .int cx), (2, .int i), (3, .long v), (5, .ref o1)] := hl
  have htb := vx_table (x := yL_writeLong) B (hts (.codeWith yL_writeLong cL_writeLong 7 (some .int) [(0, 12, 15, 21)]) (by unfold wsL_writeLong; exact List.mem_cons_self))
  subst hsz
  have hS : va_S A s.heap s.heap [] := va_S.rf
  refine lv_aload hx hb dL_writeLong_0 (lv_at hl 4 rfl) ?_
  refine lv_iconst (v := 0) hx hb dL_writeLong_2 (by decide) ?_
  refine lv_aload_n hx hb dL_writeLong_3 rfl (lv_at hl 0 rfl) ?_
  refine lv_iload_n hx hb dL_writeLong_4 rfl (lv_at hl 1 rfl) ?_
  refine lv_iload_n hx hb dL_writeLong_5 rfl (lv_at hl 2 rfl) ?_
  refine lv_lload_n hx hb dL_writeLong_6 rfl (lv_at hl 3 rfl) ?_
  refine tc_thr (vx_runV (As := [.int cx, .int i, .long v]) (rest := [.int 0, .ref o1]) ⟨hx, hb, hml, hown, hts⟩ (bX2_writeLong l hfl D A cI cJ cD cC h0 h1 h2 h3 h4 ad wd rd (tc_Y cJ cD y0 y1 y2 y3 y4 y5 o1 o2 ov od) n K Ln Wh Re cd ct s.heap.size hn6 cx hc i v) (cwV 3 hts gL_writeLong_X2_writeLong rfl rfl rfl (by decide +kernel) ⟨Nat.le_of_ble_eq_true rfl, Nat.le_of_ble_eq_true rfl⟩) ⟨tcP.blind, va_recv hK hP (ci := 2) (q0 := 0) rfl rfl, tcP.go hK hP hD hE hS⟩ rfl rfl hl.1 rfl (lv_room (Nat.le_of_ble_eq_true rfl)) dL_writeLong_7 ⟨Nat.le_of_ble_eq_true rfl, Nat.le_of_ble_eq_true rfl⟩) hS (fun q h => h) (fun q _ h => h) (fun E ce q9 u t H locs ht hvm hw hB hz1 hk1 hS hce hcv hcl => ?_)
  obtain ⟨rfl, hP, hD⟩ := hB
  rw [ht] at hP
  refine vx_catch (own := RL) (name := "java/lang/IndexOutOfBoundsException") (E := "java/lang/IndexOutOfBoundsException") (ce := ce) hown [] ⟨0, 12, 15, 21⟩ [] (htb.trans rfl) (fun _ h => absurd h List.not_mem_nil) (by decide) (by decide) (hts (.classLink RL 21 "java/lang/IndexOutOfBoundsException") (by decide +kernel)) (va_Nw.use rfl hE.2.2.1.1) hce hcv hcl ?_
  refine lv_astore (lv' := [(6, .ref q9), (0, .ref h0), (1, .int cx), (2, .int i), (3, .long v), (5, .ref o1)]) hx hb dL_writeLong_15 hl (by decide) rfl (fun ls hl => ?_)
  refine lv_iconst (v := 1) hx hb dL_writeLong_17 (by decide) ?_
  refine vx_ret ?_
  exact W.iret (v := 1) hx hb hr (fun t9 ht9 hW9 => ⟨⟨1, (), rfl, rfl, by rw [ht9]; exact hP, hD⟩, hS.F ht9⟩) hS.2.2 dL_writeLong_18
set_option maxHeartbeats 4000000 in
set_option maxRecDepth 100000 in
theorem lLn_writeFloat (l : Launch) (hfl : l.stackTraces = false) (D : va_G) (A : Nat → Prop) (cI cJ cD cC : ClassId) (h0 h1 h2 h3 h4 : Nat) (ad wd rd : Nat → Nat) (y0 y1 y2 y3 y4 y5 : Nat × va_E) (o1 o2 : Nat) (ov : Nat → Int64) (od : Nat → UInt64) (n : Nat) (K : Nat → Int32) (Ln : Nat → Nat) (Wh : Nat → Int64) (Re : Nat → UInt64) (cd : Int32) (ct : Nat → Int32) (sz : Nat) (hn6 : n ≤ 60) (cx : Int32) (hc : ¬ ∃ j, j < n ∧ cx = nI j) (i : Int32) (v : UInt32) : vx_Met l yL_writeFloat wsL_writeFloat ({ frames := 8, cells := 1, slots := 6, locals := 135 }) (tcPL D A (tcTY cI cJ cD cC) sz [.ref h0, .int cx, .int i, .float v, .ref o1] (tc_T cI cJ cD cC h0 h1 h2 h3 h4 ad wd rd (tc_Y cJ cD y0 y1 y2 y3 y4 y5 o1 o2 ov od) n K Ln Wh Re cd ct)) (va_Qi (fun r (_ : Unit) => r = 1) (fun _ t => tcB D A (tc_T cI cJ cD cC h0 h1 h2 h3 h4 ad wd rd (tc_Y cJ cD y0 y1 y2 y3 y4 y5 o1 o2 ov od) n K Ln Wh Re cd ct) t) A) (fun _ _ _ => False) 1 6 A := by
  refine vx_ofWH (cc := cL_writeFloat) (maxL := 6) (ret := (some .int)) (hh := [(0, 12, 15, 21)]) (by decide) rfl ?_
  intro p e s m args below meth c s₁ B hml hv
  obtain ⟨rfl, ⟨hsz, hP, hK, hD, hE⟩, hNc⟩ := hv
  have hx := B.exec
  have hb := B.bytes
  have hr := B.returns
  have hts := atoms_spec (ws := wsL_writeFloat) B.pre
  have hown : s.vm.findClass RL = some m.cls := findClass_of_methodNamed B.named
  have hlocks := B.notSynchronized
  have hl := lv_entry ([.ref h0, .int cx, .int i, .float v, .ref o1]) (n := 6) (Nat.le_of_ble_eq_true rfl)
  rw [lg_entry_eq]
  generalize (lg_sl ([.ref h0, .int cx, .int i, .float v, .ref o1]) ++ List.replicate (6 - (lg_sl ([.ref h0, .int cx, .int i, .float v, .ref o1])).length) Slot.unset).toArray = ls at hl ⊢
  have hl : lv_has ls 6 [(0, .ref h0), (1, .int cx), (2, .int i), (3, .float v), (4, .ref o1)] := hl
  have htb := vx_table (x := yL_writeFloat) B (hts (.codeWith yL_writeFloat cL_writeFloat 6 (some .int) [(0, 12, 15, 21)]) (by unfold wsL_writeFloat; exact List.mem_cons_self))
  subst hsz
  have hS : va_S A s.heap s.heap [] := va_S.rf
  refine lv_aload hx hb dL_writeFloat_0 (lv_at hl 4 rfl) ?_
  refine lv_iconst (v := 0) hx hb dL_writeFloat_2 (by decide) ?_
  refine lv_aload_n hx hb dL_writeFloat_3 rfl (lv_at hl 0 rfl) ?_
  refine lv_iload_n hx hb dL_writeFloat_4 rfl (lv_at hl 1 rfl) ?_
  refine lv_iload_n hx hb dL_writeFloat_5 rfl (lv_at hl 2 rfl) ?_
  refine lv_fload_n hx hb dL_writeFloat_6 rfl (lv_at hl 3 rfl) ?_
  refine tc_thr (vx_runV (As := [.int cx, .int i, .float v]) (rest := [.int 0, .ref o1]) ⟨hx, hb, hml, hown, hts⟩ (bX2_writeFloat l hfl D A cI cJ cD cC h0 h1 h2 h3 h4 ad wd rd (tc_Y cJ cD y0 y1 y2 y3 y4 y5 o1 o2 ov od) n K Ln Wh Re cd ct s.heap.size hn6 cx hc i v) (cwV 3 hts gL_writeFloat_X2_writeFloat rfl rfl rfl (by decide +kernel) ⟨Nat.le_of_ble_eq_true rfl, Nat.le_of_ble_eq_true rfl⟩) ⟨tcP.blind, va_recv hK hP (ci := 2) (q0 := 0) rfl rfl, tcP.go hK hP hD hE hS⟩ rfl rfl hl.1 rfl (lv_room (Nat.le_of_ble_eq_true rfl)) dL_writeFloat_7 ⟨Nat.le_of_ble_eq_true rfl, Nat.le_of_ble_eq_true rfl⟩) hS (fun q h => h) (fun q _ h => h) (fun E ce q9 u t H locs ht hvm hw hB hz1 hk1 hS hce hcv hcl => ?_)
  obtain ⟨rfl, hP, hD⟩ := hB
  rw [ht] at hP
  refine vx_catch (own := RL) (name := "java/lang/IndexOutOfBoundsException") (E := "java/lang/IndexOutOfBoundsException") (ce := ce) hown [] ⟨0, 12, 15, 21⟩ [] (htb.trans rfl) (fun _ h => absurd h List.not_mem_nil) (by decide) (by decide) (hts (.classLink RL 21 "java/lang/IndexOutOfBoundsException") (by decide +kernel)) (va_Nw.use rfl hE.2.2.1.1) hce hcv hcl ?_
  refine lv_astore (lv' := [(5, .ref q9), (0, .ref h0), (1, .int cx), (2, .int i), (3, .float v), (4, .ref o1)]) hx hb dL_writeFloat_15 hl (by decide) rfl (fun ls hl => ?_)
  refine lv_iconst (v := 1) hx hb dL_writeFloat_17 (by decide) ?_
  refine vx_ret ?_
  exact W.iret (v := 1) hx hb hr (fun t9 ht9 hW9 => ⟨⟨1, (), rfl, rfl, by rw [ht9]; exact hP, hD⟩, hS.F ht9⟩) hS.2.2 dL_writeFloat_18
set_option maxHeartbeats 4000000 in
set_option maxRecDepth 100000 in
theorem lLn_writeDouble (l : Launch) (hfl : l.stackTraces = false) (D : va_G) (A : Nat → Prop) (cI cJ cD cC : ClassId) (h0 h1 h2 h3 h4 : Nat) (ad wd rd : Nat → Nat) (y0 y1 y2 y3 y4 y5 : Nat × va_E) (o1 o2 : Nat) (ov : Nat → Int64) (od : Nat → UInt64) (n : Nat) (K : Nat → Int32) (Ln : Nat → Nat) (Wh : Nat → Int64) (Re : Nat → UInt64) (cd : Int32) (ct : Nat → Int32) (sz : Nat) (hn6 : n ≤ 60) (cx : Int32) (hc : ¬ ∃ j, j < n ∧ cx = nI j) (i : Int32) (v : UInt64) : vx_Met l yL_writeDouble wsL_writeDouble ({ frames := 8, cells := 1, slots := 6, locals := 136 }) (tcPL D A (tcTY cI cJ cD cC) sz [.ref h0, .int cx, .int i, .double v, .ref o1] (tc_T cI cJ cD cC h0 h1 h2 h3 h4 ad wd rd (tc_Y cJ cD y0 y1 y2 y3 y4 y5 o1 o2 ov od) n K Ln Wh Re cd ct)) (va_Qi (fun r (_ : Unit) => r = 1) (fun _ t => tcB D A (tc_T cI cJ cD cC h0 h1 h2 h3 h4 ad wd rd (tc_Y cJ cD y0 y1 y2 y3 y4 y5 o1 o2 ov od) n K Ln Wh Re cd ct) t) A) (fun _ _ _ => False) 1 6 A := by
  refine vx_ofWH (cc := cL_writeDouble) (maxL := 7) (ret := (some .int)) (hh := [(0, 12, 15, 21)]) (by decide) rfl ?_
  intro p e s m args below meth c s₁ B hml hv
  obtain ⟨rfl, ⟨hsz, hP, hK, hD, hE⟩, hNc⟩ := hv
  have hx := B.exec
  have hb := B.bytes
  have hr := B.returns
  have hts := atoms_spec (ws := wsL_writeDouble) B.pre
  have hown : s.vm.findClass RL = some m.cls := findClass_of_methodNamed B.named
  have hlocks := B.notSynchronized
  have hl := lv_entry ([.ref h0, .int cx, .int i, .double v, .ref o1]) (n := 7) (Nat.le_of_ble_eq_true rfl)
  rw [lg_entry_eq]
  generalize (lg_sl ([.ref h0, .int cx, .int i, .double v, .ref o1]) ++ List.replicate (7 - (lg_sl ([.ref h0, .int cx, .int i, .double v, .ref o1])).length) Slot.unset).toArray = ls at hl ⊢
  have hl : lv_has ls 7 [(0, .ref h0), (1, .int cx), (2, .int i), (3, .double v), (5, .ref o1)] := hl
  have htb := vx_table (x := yL_writeDouble) B (hts (.codeWith yL_writeDouble cL_writeDouble 7 (some .int) [(0, 12, 15, 21)]) (by unfold wsL_writeDouble; exact List.mem_cons_self))
  subst hsz
  have hS : va_S A s.heap s.heap [] := va_S.rf
  refine lv_aload hx hb dL_writeDouble_0 (lv_at hl 4 rfl) ?_
  refine lv_iconst (v := 0) hx hb dL_writeDouble_2 (by decide) ?_
  refine lv_aload_n hx hb dL_writeDouble_3 rfl (lv_at hl 0 rfl) ?_
  refine lv_iload_n hx hb dL_writeDouble_4 rfl (lv_at hl 1 rfl) ?_
  refine lv_iload_n hx hb dL_writeDouble_5 rfl (lv_at hl 2 rfl) ?_
  refine lv_dload_n hx hb dL_writeDouble_6 rfl (lv_at hl 3 rfl) ?_
  refine tc_thr (vx_runV (As := [.int cx, .int i, .double v]) (rest := [.int 0, .ref o1]) ⟨hx, hb, hml, hown, hts⟩ (bX2_writeDouble l hfl D A cI cJ cD cC h0 h1 h2 h3 h4 ad wd rd (tc_Y cJ cD y0 y1 y2 y3 y4 y5 o1 o2 ov od) n K Ln Wh Re cd ct s.heap.size hn6 cx hc i v) (cwV 3 hts gL_writeDouble_X2_writeDouble rfl rfl rfl (by decide +kernel) ⟨Nat.le_of_ble_eq_true rfl, Nat.le_of_ble_eq_true rfl⟩) ⟨tcP.blind, va_recv hK hP (ci := 2) (q0 := 0) rfl rfl, tcP.go hK hP hD hE hS⟩ rfl rfl hl.1 rfl (lv_room (Nat.le_of_ble_eq_true rfl)) dL_writeDouble_7 ⟨Nat.le_of_ble_eq_true rfl, Nat.le_of_ble_eq_true rfl⟩) hS (fun q h => h) (fun q _ h => h) (fun E ce q9 u t H locs ht hvm hw hB hz1 hk1 hS hce hcv hcl => ?_)
  obtain ⟨rfl, hP, hD⟩ := hB
  rw [ht] at hP
  refine vx_catch (own := RL) (name := "java/lang/IndexOutOfBoundsException") (E := "java/lang/IndexOutOfBoundsException") (ce := ce) hown [] ⟨0, 12, 15, 21⟩ [] (htb.trans rfl) (fun _ h => absurd h List.not_mem_nil) (by decide) (by decide) (hts (.classLink RL 21 "java/lang/IndexOutOfBoundsException") (by decide +kernel)) (va_Nw.use rfl hE.2.2.1.1) hce hcv hcl ?_
  refine lv_astore (lv' := [(6, .ref q9), (0, .ref h0), (1, .int cx), (2, .int i), (3, .double v), (5, .ref o1)]) hx hb dL_writeDouble_15 hl (by decide) rfl (fun ls hl => ?_)
  refine lv_iconst (v := 1) hx hb dL_writeDouble_17 (by decide) ?_
  refine vx_ret ?_
  exact W.iret (v := 1) hx hb hr (fun t9 ht9 hW9 => ⟨⟨1, (), rfl, rfl, by rw [ht9]; exact hP, hD⟩, hS.F ht9⟩) hS.2.2 dL_writeDouble_18
set_option maxHeartbeats 4000000 in
set_option maxRecDepth 100000 in
theorem lLn_writeAny (l : Launch) (hfl : l.stackTraces = false) (D : va_G) (A : Nat → Prop) (cI cJ cD cC : ClassId) (h0 h1 h2 h3 h4 : Nat) (ad wd rd : Nat → Nat) (y0 y1 y2 y3 y4 y5 : Nat × va_E) (o1 o2 : Nat) (ov : Nat → Int64) (od : Nat → UInt64) (n : Nat) (K : Nat → Int32) (Ln : Nat → Nat) (Wh : Nat → Int64) (Re : Nat → UInt64) (cd : Int32) (ct : Nat → Int32) (sz : Nat) (hn6 : n ≤ 60) (cx : Int32) (hc : ¬ ∃ j, j < n ∧ cx = nI j) (i : Int32) (kd : Int32) (v : Int32) : vx_Met l yL_writeAny wsL_writeAny ({ frames := 8, cells := 1, slots := 6, locals := 137 }) (tcPL D A (tcTY cI cJ cD cC) sz [.ref h0, .int cx, .int i, .int kd, .int v, .ref o1] (tc_T cI cJ cD cC h0 h1 h2 h3 h4 ad wd rd (tc_Y cJ cD y0 y1 y2 y3 y4 y5 o1 o2 ov od) n K Ln Wh Re cd ct)) (va_Qi (fun r (_ : Unit) => r = 1) (fun _ t => tcB D A (tc_T cI cJ cD cC h0 h1 h2 h3 h4 ad wd rd (tc_Y cJ cD y0 y1 y2 y3 y4 y5 o1 o2 ov od) n K Ln Wh Re cd ct) t) A) (fun _ _ _ => False) 1 6 A := by
  refine vx_ofWH (cc := cL_writeAny) (maxL := 7) (ret := (some .int)) (hh := [(0, 14, 17, 21), (0, 14, 21, 13)]) (by decide) rfl ?_
  intro p e s m args below meth c s₁ B hml hv
  obtain ⟨rfl, ⟨hsz, hP, hK, hD, hE⟩, hNc⟩ := hv
  have hx := B.exec
  have hb := B.bytes
  have hr := B.returns
  have hts := atoms_spec (ws := wsL_writeAny) B.pre
  have hown : s.vm.findClass RL = some m.cls := findClass_of_methodNamed B.named
  have hlocks := B.notSynchronized
  have hl := lv_entry ([.ref h0, .int cx, .int i, .int kd, .int v, .ref o1]) (n := 7) (Nat.le_of_ble_eq_true rfl)
  rw [lg_entry_eq]
  generalize (lg_sl ([.ref h0, .int cx, .int i, .int kd, .int v, .ref o1]) ++ List.replicate (7 - (lg_sl ([.ref h0, .int cx, .int i, .int kd, .int v, .ref o1])).length) Slot.unset).toArray = ls at hl ⊢
  have hl : lv_has ls 7 [(0, .ref h0), (1, .int cx), (2, .int i), (3, .int kd), (4, .int v), (5, .ref o1)] := hl
  have htb := vx_table (x := yL_writeAny) B (hts (.codeWith yL_writeAny cL_writeAny 7 (some .int) [(0, 14, 17, 21), (0, 14, 21, 13)]) (by unfold wsL_writeAny; exact List.mem_cons_self))
  subst hsz
  have hS : va_S A s.heap s.heap [] := va_S.rf
  refine lv_aload hx hb dL_writeAny_0 (lv_at hl 5 rfl) ?_
  refine lv_iconst (v := 0) hx hb dL_writeAny_2 (by decide) ?_
  refine lv_aload_n hx hb dL_writeAny_3 rfl (lv_at hl 0 rfl) ?_
  refine lv_iload_n hx hb dL_writeAny_4 rfl (lv_at hl 1 rfl) ?_
  refine lv_iload_n hx hb dL_writeAny_5 rfl (lv_at hl 2 rfl) ?_
  refine lv_iload_n hx hb dL_writeAny_6 rfl (lv_at hl 3 rfl) ?_
  refine lv_iload hx hb dL_writeAny_7 (lv_at hl 4 rfl) ?_
  refine tc_thr (vx_runV (As := [.int cx, .int i, .int kd, .int v]) (rest := [.int 0, .ref o1]) ⟨hx, hb, hml, hown, hts⟩ (bX2_writeAny l hfl D A cI cJ cD cC h0 h1 h2 h3 h4 ad wd rd (tc_Y cJ cD y0 y1 y2 y3 y4 y5 o1 o2 ov od) n K Ln Wh Re cd ct s.heap.size hn6 cx hc i kd v) (cwV 4 hts gL_writeAny_X2_writeAny rfl rfl rfl (by decide +kernel) ⟨Nat.le_of_ble_eq_true rfl, Nat.le_of_ble_eq_true rfl⟩) ⟨tcP.blind, va_recv hK hP (ci := 2) (q0 := 0) rfl rfl, tcP.go hK hP hD hE hS⟩ rfl rfl hl.1 rfl (lv_room (Nat.le_of_ble_eq_true rfl)) dL_writeAny_9 ⟨Nat.le_of_ble_eq_true rfl, Nat.le_of_ble_eq_true rfl⟩) hS (fun q h => h) (fun q _ h => h) (fun E ce q9 u t H locs ht hvm hw hB hz1 hk1 hS hce hcv hcl => ?_)
  obtain ⟨rfl, hP, hD⟩ := hB
  rw [ht] at hP
  refine vx_catch (own := RL) (name := "java/lang/IndexOutOfBoundsException") (E := "java/lang/IndexOutOfBoundsException") (ce := ce) hown [] ⟨0, 14, 17, 21⟩ [⟨0, 14, 21, 13⟩] (htb.trans rfl) (fun _ h => absurd h List.not_mem_nil) (by decide) (by decide) (hts (.classLink RL 21 "java/lang/IndexOutOfBoundsException") (by decide +kernel)) (va_Nw.use rfl hE.2.2.1.1) hce hcv hcl ?_
  refine lv_astore (lv' := [(6, .ref q9), (0, .ref h0), (1, .int cx), (2, .int i), (3, .int kd), (4, .int v), (5, .ref o1)]) hx hb dL_writeAny_17 hl (by decide) rfl (fun ls hl => ?_)
  refine lv_iconst (v := 1) hx hb dL_writeAny_19 (by decide) ?_
  refine vx_ret ?_
  exact W.iret (v := 1) hx hb hr (fun t9 ht9 hW9 => ⟨⟨1, (), rfl, rfl, by rw [ht9]; exact hP, hD⟩, hS.F ht9⟩) hS.2.2 dL_writeAny_20
set_option maxHeartbeats 4000000 in
set_option maxRecDepth 100000 in
theorem lLn_widened (l : Launch) (hfl : l.stackTraces = false) (D : va_G) (A : Nat → Prop) (cI cJ cD cC : ClassId) (h0 h1 h2 h3 h4 : Nat) (ad wd rd : Nat → Nat) (y0 y1 y2 y3 y4 y5 : Nat × va_E) (o1 o2 : Nat) (ov : Nat → Int64) (od : Nat → UInt64) (n : Nat) (K : Nat → Int32) (Ln : Nat → Nat) (Wh : Nat → Int64) (Re : Nat → UInt64) (cd : Int32) (ct : Nat → Int32) (sz : Nat) (hn6 : n ≤ 60) (cx : Int32) (hc : ¬ ∃ j, j < n ∧ cx = nI j) (kd : Int32) : vx_Met l yL_widened wsL_widened ({ frames := 8, cells := 1, slots := 6, locals := 137 }) (tcPL D A (tcTY cI cJ cD cC) sz [.ref h0, .int cx, .int kd, .ref o1] (tc_T cI cJ cD cC h0 h1 h2 h3 h4 ad wd rd (tc_Y cJ cD y0 y1 y2 y3 y4 y5 o1 o2 ov od) n K Ln Wh Re cd ct)) (va_Qi (fun r (_ : Unit) => r = 1) (fun _ t => tcB D A (tc_T cI cJ cD cC h0 h1 h2 h3 h4 ad wd rd (tc_Y cJ cD y0 y1 y2 y3 y4 y5 o1 o2 ov od) n K Ln Wh Re cd ct) t) A) (fun _ _ _ => False) 1 6 A := by
  refine vx_ofWH (cc := cL_widened) (maxL := 5) (ret := (some .int)) (hh := [(0, 10, 13, 21), (0, 10, 17, 13), (0, 10, 21, 15)]) (by decide) rfl ?_
  intro p e s m args below meth c s₁ B hml hv
  obtain ⟨rfl, ⟨hsz, hP, hK, hD, hE⟩, hNc⟩ := hv
  have hx := B.exec
  have hb := B.bytes
  have hr := B.returns
  have hts := atoms_spec (ws := wsL_widened) B.pre
  have hown : s.vm.findClass RL = some m.cls := findClass_of_methodNamed B.named
  have hlocks := B.notSynchronized
  have hl := lv_entry ([.ref h0, .int cx, .int kd, .ref o1]) (n := 5) (Nat.le_of_ble_eq_true rfl)
  rw [lg_entry_eq]
  generalize (lg_sl ([.ref h0, .int cx, .int kd, .ref o1]) ++ List.replicate (5 - (lg_sl ([.ref h0, .int cx, .int kd, .ref o1])).length) Slot.unset).toArray = ls at hl ⊢
  have hl : lv_has ls 5 [(0, .ref h0), (1, .int cx), (2, .int kd), (3, .ref o1)] := hl
  have htb := vx_table (x := yL_widened) B (hts (.codeWith yL_widened cL_widened 5 (some .int) [(0, 10, 13, 21), (0, 10, 17, 13), (0, 10, 21, 15)]) (by unfold wsL_widened; exact List.mem_cons_self))
  subst hsz
  have hS : va_S A s.heap s.heap [] := va_S.rf
  refine lv_aload_n hx hb dL_widened_0 rfl (lv_at hl 3 rfl) ?_
  refine lv_iconst (v := 0) hx hb dL_widened_1 (by decide) ?_
  refine lv_aload_n hx hb dL_widened_2 rfl (lv_at hl 0 rfl) ?_
  refine lv_iload_n hx hb dL_widened_3 rfl (lv_at hl 1 rfl) ?_
  refine lv_iload_n hx hb dL_widened_4 rfl (lv_at hl 2 rfl) ?_
  refine tc_thr (vx_runV (As := [.int cx, .int kd]) (rest := [.int 0, .ref o1]) ⟨hx, hb, hml, hown, hts⟩ (bX2_widened l hfl D A cI cJ cD cC h0 h1 h2 h3 h4 ad wd rd (tc_Y cJ cD y0 y1 y2 y3 y4 y5 o1 o2 ov od) n K Ln Wh Re cd ct s.heap.size hn6 cx hc kd) (cwV 2 hts gL_widened_X2_widened rfl rfl rfl (by decide +kernel) ⟨Nat.le_of_ble_eq_true rfl, Nat.le_of_ble_eq_true rfl⟩) ⟨tcP.blind, va_recv hK hP (ci := 2) (q0 := 0) rfl rfl, tcP.go hK hP hD hE hS⟩ rfl rfl hl.1 rfl (lv_room (Nat.le_of_ble_eq_true rfl)) dL_widened_5 ⟨Nat.le_of_ble_eq_true rfl, Nat.le_of_ble_eq_true rfl⟩) hS (fun q h => h) (fun q _ h => h) (fun E ce q9 u t H locs ht hvm hw hB hz1 hk1 hS hce hcv hcl => ?_)
  obtain ⟨rfl, hP, hD⟩ := hB
  rw [ht] at hP
  refine vx_catch (own := RL) (name := "java/lang/IndexOutOfBoundsException") (E := "java/lang/IndexOutOfBoundsException") (ce := ce) hown [] ⟨0, 10, 13, 21⟩ [⟨0, 10, 17, 13⟩, ⟨0, 10, 21, 15⟩] (htb.trans rfl) (fun _ h => absurd h List.not_mem_nil) (by decide) (by decide) (hts (.classLink RL 21 "java/lang/IndexOutOfBoundsException") (by decide +kernel)) (va_Nw.use rfl hE.2.2.1.1) hce hcv hcl ?_
  refine lv_astore (lv' := [(4, .ref q9), (0, .ref h0), (1, .int cx), (2, .int kd), (3, .ref o1)]) hx hb dL_widened_13 hl (by decide) rfl (fun ls hl => ?_)
  refine lv_iconst (v := 1) hx hb dL_widened_15 (by decide) ?_
  refine vx_ret ?_
  exact W.iret (v := 1) hx hb hr (fun t9 ht9 hW9 => ⟨⟨1, (), rfl, rfl, by rw [ht9]; exact hP, hD⟩, hS.F ht9⟩) hS.2.2 dL_widened_16
set_option maxHeartbeats 4000000 in
set_option maxRecDepth 100000 in
theorem lLn_copy (l : Launch) (hfl : l.stackTraces = false) (D : va_G) (A : Nat → Prop) (cI cJ cD cC : ClassId) (h0 h1 h2 h3 h4 : Nat) (ad wd rd : Nat → Nat) (y0 y1 y2 y3 y4 y5 : Nat × va_E) (o1 o2 : Nat) (ov : Nat → Int64) (od : Nat → UInt64) (n : Nat) (K : Nat → Int32) (Ln : Nat → Nat) (Wh : Nat → Int64) (Re : Nat → UInt64) (cd : Int32) (ct : Nat → Int32) (sz : Nat) (hn6 : n ≤ 60) (cx : Int32) (hc : ¬ ∃ j, j < n ∧ cx = nI j) (fi : Int32) (to : Int32) (ti : Int32) (mm : Int32) : vx_Met l yL_copy wsL_copy ({ frames := 8, cells := 1, slots := 6, locals := 140 }) (tcPL D A (tcTY cI cJ cD cC) sz [.ref h0, .int cx, .int fi, .int to, .int ti, .int mm, .ref o1] (tc_T cI cJ cD cC h0 h1 h2 h3 h4 ad wd rd (tc_Y cJ cD y0 y1 y2 y3 y4 y5 o1 o2 ov od) n K Ln Wh Re cd ct)) (va_Qi (fun r (_ : Unit) => r = 1) (fun _ t => tcB D A (tc_T cI cJ cD cC h0 h1 h2 h3 h4 ad wd rd (tc_Y cJ cD y0 y1 y2 y3 y4 y5 o1 o2 ov od) n K Ln Wh Re cd ct) t) A) (fun _ _ _ => False) 1 6 A := by
  refine vx_ofWH (cc := cL_copy) (maxL := 8) (ret := (some .int)) (hh := [(0, 16, 19, 21)]) (by decide) rfl ?_
  intro p e s m args below meth c s₁ B hml hv
  obtain ⟨rfl, ⟨hsz, hP, hK, hD, hE⟩, hNc⟩ := hv
  have hx := B.exec
  have hb := B.bytes
  have hr := B.returns
  have hts := atoms_spec (ws := wsL_copy) B.pre
  have hown : s.vm.findClass RL = some m.cls := findClass_of_methodNamed B.named
  have hlocks := B.notSynchronized
  have hl := lv_entry ([.ref h0, .int cx, .int fi, .int to, .int ti, .int mm, .ref o1]) (n := 8) (Nat.le_of_ble_eq_true rfl)
  rw [lg_entry_eq]
  generalize (lg_sl ([.ref h0, .int cx, .int fi, .int to, .int ti, .int mm, .ref o1]) ++ List.replicate (8 - (lg_sl ([.ref h0, .int cx, .int fi, .int to, .int ti, .int mm, .ref o1])).length) Slot.unset).toArray = ls at hl ⊢
  have hl : lv_has ls 8 [(0, .ref h0), (1, .int cx), (2, .int fi), (3, .int to), (4, .int ti), (5, .int mm), (6, .ref o1)] := hl
  have htb := vx_table (x := yL_copy) B (hts (.codeWith yL_copy cL_copy 8 (some .int) [(0, 16, 19, 21)]) (by unfold wsL_copy; exact List.mem_cons_self))
  subst hsz
  have hS : va_S A s.heap s.heap [] := va_S.rf
  refine lv_aload hx hb dL_copy_0 (lv_at hl 6 rfl) ?_
  refine lv_iconst (v := 0) hx hb dL_copy_2 (by decide) ?_
  refine lv_aload_n hx hb dL_copy_3 rfl (lv_at hl 0 rfl) ?_
  refine lv_iload_n hx hb dL_copy_4 rfl (lv_at hl 1 rfl) ?_
  refine lv_iload_n hx hb dL_copy_5 rfl (lv_at hl 2 rfl) ?_
  refine lv_iload_n hx hb dL_copy_6 rfl (lv_at hl 3 rfl) ?_
  refine lv_iload hx hb dL_copy_7 (lv_at hl 4 rfl) ?_
  refine lv_iload hx hb dL_copy_9 (lv_at hl 5 rfl) ?_
  refine tc_thr (vx_runV (As := [.int cx, .int fi, .int to, .int ti, .int mm]) (rest := [.int 0, .ref o1]) ⟨hx, hb, hml, hown, hts⟩ (bX2_copy l hfl D A cI cJ cD cC h0 h1 h2 h3 h4 ad wd rd (tc_Y cJ cD y0 y1 y2 y3 y4 y5 o1 o2 ov od) n K Ln Wh Re cd ct s.heap.size hn6 cx hc fi to ti mm) (cwV 5 hts gL_copy_X2_copy rfl rfl rfl (by decide +kernel) ⟨Nat.le_of_ble_eq_true rfl, Nat.le_of_ble_eq_true rfl⟩) ⟨tcP.blind, va_recv hK hP (ci := 2) (q0 := 0) rfl rfl, tcP.go hK hP hD hE hS⟩ rfl rfl hl.1 rfl (lv_room (Nat.le_of_ble_eq_true rfl)) dL_copy_11 ⟨Nat.le_of_ble_eq_true rfl, Nat.le_of_ble_eq_true rfl⟩) hS (fun q h => h) (fun q _ h => h) (fun E ce q9 u t H locs ht hvm hw hB hz1 hk1 hS hce hcv hcl => ?_)
  obtain ⟨rfl, hP, hD⟩ := hB
  rw [ht] at hP
  refine vx_catch (own := RL) (name := "java/lang/IndexOutOfBoundsException") (E := "java/lang/IndexOutOfBoundsException") (ce := ce) hown [] ⟨0, 16, 19, 21⟩ [] (htb.trans rfl) (fun _ h => absurd h List.not_mem_nil) (by decide) (by decide) (hts (.classLink RL 21 "java/lang/IndexOutOfBoundsException") (by decide +kernel)) (va_Nw.use rfl hE.2.2.1.1) hce hcv hcl ?_
  refine lv_astore (lv' := [(7, .ref q9), (0, .ref h0), (1, .int cx), (2, .int fi), (3, .int to), (4, .int ti), (5, .int mm), (6, .ref o1)]) hx hb dL_copy_19 hl (by decide) rfl (fun ls hl => ?_)
  refine lv_iconst (v := 1) hx hb dL_copy_21 (by decide) ?_
  refine vx_ret ?_
  exact W.iret (v := 1) hx hb hr (fun t9 ht9 hW9 => ⟨⟨1, (), rfl, rfl, by rw [ht9]; exact hP, hD⟩, hS.F ht9⟩) hS.2.2 dL_copy_22
set_option maxHeartbeats 4000000 in
set_option maxRecDepth 100000 in
theorem lLn_copy2 (l : Launch) (hfl : l.stackTraces = false) (D : va_G) (A : Nat → Prop) (cI cJ cD cC : ClassId) (h0 h1 h2 h3 h4 : Nat) (ad wd rd : Nat → Nat) (y0 y1 y2 y3 y4 y5 : Nat × va_E) (o1 o2 : Nat) (ov : Nat → Int64) (od : Nat → UInt64) (n : Nat) (K : Nat → Int32) (Ln : Nat → Nat) (Wh : Nat → Int64) (Re : Nat → UInt64) (cd : Int32) (ct : Nat → Int32) (sz : Nat) (hn6 : n ≤ 60) (j : Nat) (hj : j < n) (fi cx ti mm : Int32) (hc : ¬ ∃ j, j < n ∧ cx = nI j) : vx_Met l yL_copy wsL_copy ({ frames := 8, cells := 1, slots := 6, locals := 140 }) (tcPL D A (tcTY cI cJ cD cC) sz [.ref h0, .int (nI j), .int fi, .int cx, .int ti, .int mm, .ref o1] (tc_T cI cJ cD cC h0 h1 h2 h3 h4 ad wd rd (tc_Y cJ cD y0 y1 y2 y3 y4 y5 o1 o2 ov od) n K Ln Wh Re cd ct)) (va_Qi (fun r (_ : Unit) => r = 1) (fun _ t => tcB D A (tc_T cI cJ cD cC h0 h1 h2 h3 h4 ad wd rd (tc_Y cJ cD y0 y1 y2 y3 y4 y5 o1 o2 ov od) n K Ln Wh Re cd ct) t) A) (fun _ _ _ => False) 1 6 A := by
  refine vx_ofWH (cc := cL_copy) (maxL := 8) (ret := (some .int)) (hh := [(0, 16, 19, 21)]) (by decide) rfl ?_
  intro p e s m args below meth c s₁ B hml hv
  obtain ⟨rfl, ⟨hsz, hP, hK, hD, hE⟩, hNc⟩ := hv
  have hx := B.exec
  have hb := B.bytes
  have hr := B.returns
  have hts := atoms_spec (ws := wsL_copy) B.pre
  have hown : s.vm.findClass RL = some m.cls := findClass_of_methodNamed B.named
  have hlocks := B.notSynchronized
  have hl := lv_entry ([.ref h0, .int (nI j), .int fi, .int cx, .int ti, .int mm, .ref o1]) (n := 8) (Nat.le_of_ble_eq_true rfl)
  rw [lg_entry_eq]
  generalize (lg_sl ([.ref h0, .int (nI j), .int fi, .int cx, .int ti, .int mm, .ref o1]) ++ List.replicate (8 - (lg_sl ([.ref h0, .int (nI j), .int fi, .int cx, .int ti, .int mm, .ref o1])).length) Slot.unset).toArray = ls at hl ⊢
  have hl : lv_has ls 8 [(0, .ref h0), (1, .int (nI j)), (2, .int fi), (3, .int cx), (4, .int ti), (5, .int mm), (6, .ref o1)] := hl
  have htb := vx_table (x := yL_copy) B (hts (.codeWith yL_copy cL_copy 8 (some .int) [(0, 16, 19, 21)]) (by unfold wsL_copy; exact List.mem_cons_self))
  subst hsz
  have hS : va_S A s.heap s.heap [] := va_S.rf
  refine lv_aload hx hb dL_copy_0 (lv_at hl 6 rfl) ?_
  refine lv_iconst (v := 0) hx hb dL_copy_2 (by decide) ?_
  refine lv_aload_n hx hb dL_copy_3 rfl (lv_at hl 0 rfl) ?_
  refine lv_iload_n hx hb dL_copy_4 rfl (lv_at hl 1 rfl) ?_
  refine lv_iload_n hx hb dL_copy_5 rfl (lv_at hl 2 rfl) ?_
  refine lv_iload_n hx hb dL_copy_6 rfl (lv_at hl 3 rfl) ?_
  refine lv_iload hx hb dL_copy_7 (lv_at hl 4 rfl) ?_
  refine lv_iload hx hb dL_copy_9 (lv_at hl 5 rfl) ?_
  refine tc_thr (vx_runV (As := [.int (nI j), .int fi, .int cx, .int ti, .int mm]) (rest := [.int 0, .ref o1]) ⟨hx, hb, hml, hown, hts⟩ (bX2_copy2 l hfl D A cI cJ cD cC h0 h1 h2 h3 h4 ad wd rd (tc_Y cJ cD y0 y1 y2 y3 y4 y5 o1 o2 ov od) n K Ln Wh Re cd ct s.heap.size hn6 j hj fi cx ti mm hc) (cwV 5 hts gL_copy_X2_copy rfl rfl rfl (by decide +kernel) ⟨Nat.le_of_ble_eq_true rfl, Nat.le_of_ble_eq_true rfl⟩) ⟨tcP.blind, va_recv hK hP (ci := 2) (q0 := 0) rfl rfl, tcP.go hK hP hD hE hS⟩ rfl rfl hl.1 rfl (lv_room (Nat.le_of_ble_eq_true rfl)) dL_copy_11 ⟨Nat.le_of_ble_eq_true rfl, Nat.le_of_ble_eq_true rfl⟩) hS (fun q h => h) (fun q _ h => h) (fun E ce q9 u t H locs ht hvm hw hB hz1 hk1 hS hce hcv hcl => ?_)
  obtain ⟨rfl, hP, hD⟩ := hB
  rw [ht] at hP
  refine vx_catch (own := RL) (name := "java/lang/IndexOutOfBoundsException") (E := "java/lang/IndexOutOfBoundsException") (ce := ce) hown [] ⟨0, 16, 19, 21⟩ [] (htb.trans rfl) (fun _ h => absurd h List.not_mem_nil) (by decide) (by decide) (hts (.classLink RL 21 "java/lang/IndexOutOfBoundsException") (by decide +kernel)) (va_Nw.use rfl hE.2.2.1.1) hce hcv hcl ?_
  refine lv_astore (lv' := [(7, .ref q9), (0, .ref h0), (1, .int (nI j)), (2, .int fi), (3, .int cx), (4, .int ti), (5, .int mm), (6, .ref o1)]) hx hb dL_copy_19 hl (by decide) rfl (fun ls hl => ?_)
  refine lv_iconst (v := 1) hx hb dL_copy_21 (by decide) ?_
  refine vx_ret ?_
  exact W.iret (v := 1) hx hb hr (fun t9 ht9 hW9 => ⟨⟨1, (), rfl, rfl, by rw [ht9]; exact hP, hD⟩, hS.F ht9⟩) hS.2.2 dL_copy_22
set_option maxHeartbeats 4000000 in
set_option maxRecDepth 100000 in
theorem lLn_writeAny_k (l : Launch) (hfl : l.stackTraces = false) (D : va_G) (A : Nat → Prop) (cI cJ cD cC : ClassId) (h0 h1 h2 h3 h4 : Nat) (ad wd rd : Nat → Nat) (y0 y1 y2 y3 y4 y5 : Nat × va_E) (o1 o2 : Nat) (ov : Nat → Int64) (od : Nat → UInt64) (n : Nat) (K : Nat → Int32) (Ln : Nat → Nat) (Wh : Nat → Int64) (Re : Nat → UInt64) (cd : Int32) (ct : Nat → Int32) (sz : Nat) (hn6 : n ≤ 60) (j : Nat) (hj : j < n) (i kd v : Int32) (hk : kHas kd = false) : vx_Met l yL_writeAny wsL_writeAny ({ frames := 8, cells := 1, slots := 6, locals := 135 }) (tcPL D A (tcTY cI cJ cD cC) sz [.ref h0, .int (nI j), .int i, .int kd, .int v, .ref o1] (tc_T cI cJ cD cC h0 h1 h2 h3 h4 ad wd rd (tc_Y cJ cD y0 y1 y2 y3 y4 y5 o1 o2 ov od) n K Ln Wh Re cd ct)) (va_Qi (fun r (_ : Unit) => r = 2) (fun _ t => tcB D A (tc_T cI cJ cD cC h0 h1 h2 h3 h4 ad wd rd (tc_Y cJ cD y0 y1 y2 y3 y4 y5 o1 o2 ov od) n K Ln Wh Re cd ct) t) A) (fun _ _ _ => False) 1 6 A := by
  refine vx_ofWH (cc := cL_writeAny) (maxL := 7) (ret := (some .int)) (hh := [(0, 14, 17, 21), (0, 14, 21, 13)]) (by decide) rfl ?_
  intro p e s m args below meth c s₁ B hml hv
  obtain ⟨rfl, ⟨hsz, hP, hK, hD, hE⟩, hNc⟩ := hv
  have hx := B.exec
  have hb := B.bytes
  have hr := B.returns
  have hts := atoms_spec (ws := wsL_writeAny) B.pre
  have hown : s.vm.findClass RL = some m.cls := findClass_of_methodNamed B.named
  have hlocks := B.notSynchronized
  have hl := lv_entry ([.ref h0, .int (nI j), .int i, .int kd, .int v, .ref o1]) (n := 7) (Nat.le_of_ble_eq_true rfl)
  rw [lg_entry_eq]
  generalize (lg_sl ([.ref h0, .int (nI j), .int i, .int kd, .int v, .ref o1]) ++ List.replicate (7 - (lg_sl ([.ref h0, .int (nI j), .int i, .int kd, .int v, .ref o1])).length) Slot.unset).toArray = ls at hl ⊢
  have hl : lv_has ls 7 [(0, .ref h0), (1, .int (nI j)), (2, .int i), (3, .int kd), (4, .int v), (5, .ref o1)] := hl
  have htb := vx_table (x := yL_writeAny) B (hts (.codeWith yL_writeAny cL_writeAny 7 (some .int) [(0, 14, 17, 21), (0, 14, 21, 13)]) (by unfold wsL_writeAny; exact List.mem_cons_self))
  subst hsz
  have hS : va_S A s.heap s.heap [] := va_S.rf
  refine lv_aload hx hb dL_writeAny_0 (lv_at hl 5 rfl) ?_
  refine lv_iconst (v := 0) hx hb dL_writeAny_2 (by decide) ?_
  refine lv_aload_n hx hb dL_writeAny_3 rfl (lv_at hl 0 rfl) ?_
  refine lv_iload_n hx hb dL_writeAny_4 rfl (lv_at hl 1 rfl) ?_
  refine lv_iload_n hx hb dL_writeAny_5 rfl (lv_at hl 2 rfl) ?_
  refine lv_iload_n hx hb dL_writeAny_6 rfl (lv_at hl 3 rfl) ?_
  refine lv_iload hx hb dL_writeAny_7 (lv_at hl 4 rfl) ?_
  refine tc_thr (vx_runV (As := [.int (nI j), .int i, .int kd, .int v]) (rest := [.int 0, .ref o1]) ⟨hx, hb, hml, hown, hts⟩ (bX2_writeAny_k l hfl D A cI cJ cD cC h0 h1 h2 h3 h4 ad wd rd (tc_Y cJ cD y0 y1 y2 y3 y4 y5 o1 o2 ov od) n K Ln Wh Re cd ct s.heap.size hn6 j hj i kd v hk) (cwV 4 hts gL_writeAny_X2_writeAny rfl rfl rfl (by decide +kernel) ⟨Nat.le_of_ble_eq_true rfl, Nat.le_of_ble_eq_true rfl⟩) ⟨tcP.blind, va_recv hK hP (ci := 2) (q0 := 0) rfl rfl, tcP.go hK hP hD hE hS⟩ rfl rfl hl.1 rfl (lv_room (Nat.le_of_ble_eq_true rfl)) dL_writeAny_9 ⟨Nat.le_of_ble_eq_true rfl, Nat.le_of_ble_eq_true rfl⟩) hS (fun q h => h) (fun q _ h => h) (fun E ce q9 u t H locs ht hvm hw hB hz1 hk1 hS hce hcv hcl => ?_)
  obtain ⟨rfl, hP, hD⟩ := hB
  rw [ht] at hP
  refine vx_catch (own := RL) (name := "java/lang/IllegalArgumentException") (E := "java/lang/IllegalArgumentException") (ce := ce) hown [⟨0, 14, 17, 21⟩] ⟨0, 14, 21, 13⟩ [] (htb.trans rfl) (List.forall_mem_cons.mpr ⟨Or.inr ⟨by decide, "java/lang/IndexOutOfBoundsException", hts (.classLink RL 21 "java/lang/IndexOutOfBoundsException") (by decide +kernel), hNc.2.1⟩, fun _ h => absurd h List.not_mem_nil⟩) (by decide) (by decide) (hts (.classLink RL 13 "java/lang/IllegalArgumentException") (by decide +kernel)) (va_Nw.use rfl hE.2.2.1.2.1) hce hcv hcl ?_
  refine lv_astore (lv' := [(6, .ref q9), (0, .ref h0), (1, .int (nI j)), (2, .int i), (3, .int kd), (4, .int v), (5, .ref o1)]) hx hb dL_writeAny_21 hl (by decide) rfl (fun ls hl => ?_)
  refine lv_iconst (v := 2) hx hb dL_writeAny_23 (by decide) ?_
  refine vx_ret ?_
  exact W.iret (v := 2) hx hb hr (fun t9 ht9 hW9 => ⟨⟨2, (), rfl, rfl, by rw [ht9]; exact hP, hD⟩, hS.F ht9⟩) hS.2.2 dL_writeAny_24
set_option maxHeartbeats 4000000 in
set_option maxRecDepth 100000 in
theorem lLn_widened_k (l : Launch) (hfl : l.stackTraces = false) (D : va_G) (A : Nat → Prop) (cI cJ cD cC : ClassId) (h0 h1 h2 h3 h4 : Nat) (ad wd rd : Nat → Nat) (y0 y1 y2 y3 y4 y5 : Nat × va_E) (o1 o2 : Nat) (ov : Nat → Int64) (od : Nat → UInt64) (n : Nat) (K : Nat → Int32) (Ln : Nat → Nat) (Wh : Nat → Int64) (Re : Nat → UInt64) (cd : Int32) (ct : Nat → Int32) (sz : Nat) (hn6 : n ≤ 60) (j : Nat) (hj : j < n) (kd : Int32) (hk : kHas kd = false) : vx_Met l yL_widened wsL_widened ({ frames := 8, cells := 1, slots := 6, locals := 135 }) (tcPL D A (tcTY cI cJ cD cC) sz [.ref h0, .int (nI j), .int kd, .ref o1] (tc_T cI cJ cD cC h0 h1 h2 h3 h4 ad wd rd (tc_Y cJ cD y0 y1 y2 y3 y4 y5 o1 o2 ov od) n K Ln Wh Re cd ct)) (va_Qi (fun r (_ : Unit) => r = 2) (fun _ t => tcB D A (tc_T cI cJ cD cC h0 h1 h2 h3 h4 ad wd rd (tc_Y cJ cD y0 y1 y2 y3 y4 y5 o1 o2 ov od) n K Ln Wh Re cd ct) t) A) (fun _ _ _ => False) 1 6 A := by
  refine vx_ofWH (cc := cL_widened) (maxL := 5) (ret := (some .int)) (hh := [(0, 10, 13, 21), (0, 10, 17, 13), (0, 10, 21, 15)]) (by decide) rfl ?_
  intro p e s m args below meth c s₁ B hml hv
  obtain ⟨rfl, ⟨hsz, hP, hK, hD, hE⟩, hNc⟩ := hv
  have hx := B.exec
  have hb := B.bytes
  have hr := B.returns
  have hts := atoms_spec (ws := wsL_widened) B.pre
  have hown : s.vm.findClass RL = some m.cls := findClass_of_methodNamed B.named
  have hlocks := B.notSynchronized
  have hl := lv_entry ([.ref h0, .int (nI j), .int kd, .ref o1]) (n := 5) (Nat.le_of_ble_eq_true rfl)
  rw [lg_entry_eq]
  generalize (lg_sl ([.ref h0, .int (nI j), .int kd, .ref o1]) ++ List.replicate (5 - (lg_sl ([.ref h0, .int (nI j), .int kd, .ref o1])).length) Slot.unset).toArray = ls at hl ⊢
  have hl : lv_has ls 5 [(0, .ref h0), (1, .int (nI j)), (2, .int kd), (3, .ref o1)] := hl
  have htb := vx_table (x := yL_widened) B (hts (.codeWith yL_widened cL_widened 5 (some .int) [(0, 10, 13, 21), (0, 10, 17, 13), (0, 10, 21, 15)]) (by unfold wsL_widened; exact List.mem_cons_self))
  subst hsz
  have hS : va_S A s.heap s.heap [] := va_S.rf
  refine lv_aload_n hx hb dL_widened_0 rfl (lv_at hl 3 rfl) ?_
  refine lv_iconst (v := 0) hx hb dL_widened_1 (by decide) ?_
  refine lv_aload_n hx hb dL_widened_2 rfl (lv_at hl 0 rfl) ?_
  refine lv_iload_n hx hb dL_widened_3 rfl (lv_at hl 1 rfl) ?_
  refine lv_iload_n hx hb dL_widened_4 rfl (lv_at hl 2 rfl) ?_
  refine tc_thr (vx_runV (As := [.int (nI j), .int kd]) (rest := [.int 0, .ref o1]) ⟨hx, hb, hml, hown, hts⟩ (bX2_widened_k l hfl D A cI cJ cD cC h0 h1 h2 h3 h4 ad wd rd (tc_Y cJ cD y0 y1 y2 y3 y4 y5 o1 o2 ov od) n K Ln Wh Re cd ct s.heap.size hn6 j hj kd hk) (cwV 2 hts gL_widened_X2_widened rfl rfl rfl (by decide +kernel) ⟨Nat.le_of_ble_eq_true rfl, Nat.le_of_ble_eq_true rfl⟩) ⟨tcP.blind, va_recv hK hP (ci := 2) (q0 := 0) rfl rfl, tcP.go hK hP hD hE hS⟩ rfl rfl hl.1 rfl (lv_room (Nat.le_of_ble_eq_true rfl)) dL_widened_5 ⟨Nat.le_of_ble_eq_true rfl, Nat.le_of_ble_eq_true rfl⟩) hS (fun q h => h) (fun q _ h => h) (fun E ce q9 u t H locs ht hvm hw hB hz1 hk1 hS hce hcv hcl => ?_)
  obtain ⟨rfl, hP, hD⟩ := hB
  rw [ht] at hP
  refine vx_catch (own := RL) (name := "java/lang/IllegalArgumentException") (E := "java/lang/IllegalArgumentException") (ce := ce) hown [⟨0, 10, 13, 21⟩] ⟨0, 10, 17, 13⟩ [⟨0, 10, 21, 15⟩] (htb.trans rfl) (List.forall_mem_cons.mpr ⟨Or.inr ⟨by decide, "java/lang/IndexOutOfBoundsException", hts (.classLink RL 21 "java/lang/IndexOutOfBoundsException") (by decide +kernel), hNc.2.1⟩, fun _ h => absurd h List.not_mem_nil⟩) (by decide) (by decide) (hts (.classLink RL 13 "java/lang/IllegalArgumentException") (by decide +kernel)) (va_Nw.use rfl hE.2.2.1.2.1) hce hcv hcl ?_
  refine lv_astore (lv' := [(4, .ref q9), (0, .ref h0), (1, .int (nI j)), (2, .int kd), (3, .ref o1)]) hx hb dL_widened_17 hl (by decide) rfl (fun ls hl => ?_)
  refine lv_iconst (v := 2) hx hb dL_widened_19 (by decide) ?_
  refine vx_ret ?_
  exact W.iret (v := 2) hx hb hr (fun t9 ht9 hW9 => ⟨⟨2, (), rfl, rfl, by rw [ht9]; exact hP, hD⟩, hS.F ht9⟩) hS.2.2 dL_widened_20
set_option maxHeartbeats 4000000 in
set_option maxRecDepth 100000 in
theorem lLn_widened_f (l : Launch) (hfl : l.stackTraces = false) (D : va_G) (A : Nat → Prop) (cI cJ cD cC : ClassId) (h0 h1 h2 h3 h4 : Nat) (ad wd rd : Nat → Nat) (y0 y1 y2 y3 y4 y5 : Nat × va_E) (o1 o2 : Nat) (ov : Nat → Int64) (od : Nat → UInt64) (n : Nat) (K : Nat → Int32) (Ln : Nat → Nat) (Wh : Nat → Int64) (Re : Nat → UInt64) (cd : Int32) (ct : Nat → Int32) (sz : Nat) (hn6 : n = 60) (j : Nat) (hj : j < n) (kd : Int32) (hk : kHas kd = true) : vx_Met l yL_widened wsL_widened ({ frames := 8, cells := 1, slots := 6, locals := 135 }) (tcPL D A (tcTY cI cJ cD cC) sz [.ref h0, .int (nI j), .int kd, .ref o1] (tc_T cI cJ cD cC h0 h1 h2 h3 h4 ad wd rd (tc_Y cJ cD y0 y1 y2 y3 y4 y5 o1 o2 ov od) n K Ln Wh Re cd ct)) (va_Qi (fun r (_ : Unit) => r = 3) (fun _ t => tcB D A (tc_T cI cJ cD cC h0 h1 h2 h3 h4 ad wd rd (tc_Y cJ cD y0 y1 y2 y3 y4 y5 o1 o2 ov od) n K Ln Wh Re cd ct) t) A) (fun _ _ _ => False) 1 6 A := by
  refine vx_ofWH (cc := cL_widened) (maxL := 5) (ret := (some .int)) (hh := [(0, 10, 13, 21), (0, 10, 17, 13), (0, 10, 21, 15)]) (by decide) rfl ?_
  intro p e s m args below meth c s₁ B hml hv
  obtain ⟨rfl, ⟨hsz, hP, hK, hD, hE⟩, hNc⟩ := hv
  have hx := B.exec
  have hb := B.bytes
  have hr := B.returns
  have hts := atoms_spec (ws := wsL_widened) B.pre
  have hown : s.vm.findClass RL = some m.cls := findClass_of_methodNamed B.named
  have hlocks := B.notSynchronized
  have hl := lv_entry ([.ref h0, .int (nI j), .int kd, .ref o1]) (n := 5) (Nat.le_of_ble_eq_true rfl)
  rw [lg_entry_eq]
  generalize (lg_sl ([.ref h0, .int (nI j), .int kd, .ref o1]) ++ List.replicate (5 - (lg_sl ([.ref h0, .int (nI j), .int kd, .ref o1])).length) Slot.unset).toArray = ls at hl ⊢
  have hl : lv_has ls 5 [(0, .ref h0), (1, .int (nI j)), (2, .int kd), (3, .ref o1)] := hl
  have htb := vx_table (x := yL_widened) B (hts (.codeWith yL_widened cL_widened 5 (some .int) [(0, 10, 13, 21), (0, 10, 17, 13), (0, 10, 21, 15)]) (by unfold wsL_widened; exact List.mem_cons_self))
  subst hsz
  have hS : va_S A s.heap s.heap [] := va_S.rf
  refine lv_aload_n hx hb dL_widened_0 rfl (lv_at hl 3 rfl) ?_
  refine lv_iconst (v := 0) hx hb dL_widened_1 (by decide) ?_
  refine lv_aload_n hx hb dL_widened_2 rfl (lv_at hl 0 rfl) ?_
  refine lv_iload_n hx hb dL_widened_3 rfl (lv_at hl 1 rfl) ?_
  refine lv_iload_n hx hb dL_widened_4 rfl (lv_at hl 2 rfl) ?_
  refine tc_thr (vx_runV (As := [.int (nI j), .int kd]) (rest := [.int 0, .ref o1]) ⟨hx, hb, hml, hown, hts⟩ (bX2_widened_f l hfl D A cI cJ cD cC h0 h1 h2 h3 h4 ad wd rd (tc_Y cJ cD y0 y1 y2 y3 y4 y5 o1 o2 ov od) n K Ln Wh Re cd ct s.heap.size hn6 j hj kd hk) (cwV 2 hts gL_widened_X2_widened rfl rfl rfl (by decide +kernel) ⟨Nat.le_of_ble_eq_true rfl, Nat.le_of_ble_eq_true rfl⟩) ⟨tcP.blind, va_recv hK hP (ci := 2) (q0 := 0) rfl rfl, tcP.go hK hP hD hE hS⟩ rfl rfl hl.1 rfl (lv_room (Nat.le_of_ble_eq_true rfl)) dL_widened_5 ⟨Nat.le_of_ble_eq_true rfl, Nat.le_of_ble_eq_true rfl⟩) hS (fun q h => h) (fun q _ h => h) (fun E ce q9 u t H locs ht hvm hw hB hz1 hk1 hS hce hcv hcl => ?_)
  obtain ⟨rfl, hP, hD⟩ := hB
  rw [ht] at hP
  refine vx_catch (own := RL) (name := "java/lang/IllegalStateException") (E := "java/lang/IllegalStateException") (ce := ce) hown [⟨0, 10, 13, 21⟩, ⟨0, 10, 17, 13⟩] ⟨0, 10, 21, 15⟩ [] (htb.trans rfl) (List.forall_mem_cons.mpr ⟨Or.inr ⟨by decide, "java/lang/IndexOutOfBoundsException", hts (.classLink RL 21 "java/lang/IndexOutOfBoundsException") (by decide +kernel), hNc.2.2⟩, List.forall_mem_cons.mpr ⟨Or.inr ⟨by decide, "java/lang/IllegalArgumentException", hts (.classLink RL 13 "java/lang/IllegalArgumentException") (by decide +kernel), hNc.1⟩, fun _ h => absurd h List.not_mem_nil⟩⟩) (by decide) (by decide) (hts (.classLink RL 15 "java/lang/IllegalStateException") (by decide +kernel)) (va_Nw.use rfl hE.2.2.1.2.2.1) hce hcv hcl ?_
  refine lv_astore (lv' := [(4, .ref q9), (0, .ref h0), (1, .int (nI j)), (2, .int kd), (3, .ref o1)]) hx hb dL_widened_21 hl (by decide) rfl (fun ls hl => ?_)
  refine lv_iconst (v := 3) hx hb dL_widened_23 (by decide) ?_
  refine vx_ret ?_
  exact W.iret (v := 3) hx hb hr (fun t9 ht9 hW9 => ⟨⟨3, (), rfl, rfl, by rw [ht9]; exact hP, hD⟩, hS.F ht9⟩) hS.2.2 dL_widened_24
set_option maxHeartbeats 4000000 in
set_option maxRecDepth 100000 in
theorem lLn_count (l : Launch) (hfl : l.stackTraces = false) (D : va_G) (A : Nat → Prop) (cI cJ cD cC : ClassId) (h0 h1 h2 h3 h4 : Nat) (ad wd rd : Nat → Nat) (y0 y1 y2 y3 y4 y5 : Nat × va_E) (o1 o2 : Nat) (ov : Nat → Int64) (od : Nat → UInt64) (n : Nat) (K : Nat → Int32) (Ln : Nat → Nat) (Wh : Nat → Int64) (Re : Nat → UInt64) (cd : Int32) (ct : Nat → Int32) (sz : Nat) (k : Int32) (hk : ¬ vp_in k 6) : vx_Met l yL_count wsL_count ({ frames := 7, cells := 1, slots := 6, locals := 111 }) (tcPL D A (tcTY cI cJ cD cC) sz [.ref h0, .int k, .ref o1] (tc_T cI cJ cD cC h0 h1 h2 h3 h4 ad wd rd (tc_Y cJ cD y0 y1 y2 y3 y4 y5 o1 o2 ov od) n K Ln Wh Re cd ct)) (va_Qi (fun r (_ : Unit) => r = 1) (fun _ t => tcB D A (tc_T cI cJ cD cC h0 h1 h2 h3 h4 ad wd rd (tc_Y cJ cD y0 y1 y2 y3 y4 y5 o1 o2 ov od) n K Ln Wh Re cd ct) t) A) (fun _ _ _ => False) 1 6 A := by
  refine vx_ofWH (cc := cL_count) (maxL := 4) (ret := (some .int)) (hh := [(0, 9, 12, 21)]) (by decide) rfl ?_
  intro p e s m args below meth c s₁ B hml hv
  obtain ⟨rfl, ⟨hsz, hP, hK, hD, hE⟩, hNc⟩ := hv
  have hx := B.exec
  have hb := B.bytes
  have hr := B.returns
  have hts := atoms_spec (ws := wsL_count) B.pre
  have hown : s.vm.findClass RL = some m.cls := findClass_of_methodNamed B.named
  have hlocks := B.notSynchronized
  have hl := lv_entry ([.ref h0, .int k, .ref o1]) (n := 4) (Nat.le_of_ble_eq_true rfl)
  rw [lg_entry_eq]
  generalize (lg_sl ([.ref h0, .int k, .ref o1]) ++ List.replicate (4 - (lg_sl ([.ref h0, .int k, .ref o1])).length) Slot.unset).toArray = ls at hl ⊢
  have hl : lv_has ls 4 [(0, .ref h0), (1, .int k), (2, .ref o1)] := hl
  have htb := vx_table (x := yL_count) B (hts (.codeWith yL_count cL_count 4 (some .int) [(0, 9, 12, 21)]) (by unfold wsL_count; exact List.mem_cons_self))
  subst hsz
  have hS : va_S A s.heap s.heap [] := va_S.rf
  refine lv_aload_n hx hb dL_count_0 rfl (lv_at hl 2 rfl) ?_
  refine lv_iconst (v := 0) hx hb dL_count_1 (by decide) ?_
  refine lv_aload_n hx hb dL_count_2 rfl (lv_at hl 0 rfl) ?_
  refine lv_iload_n hx hb dL_count_3 rfl (lv_at hl 1 rfl) ?_
  refine tc_thr (vx_runV (As := [.int k]) (rest := [.int 0, .ref o1]) ⟨hx, hb, hml, hown, hts⟩ (bX2_count l hfl D A cI cJ cD cC h0 h1 h2 h3 h4 ad wd rd (tc_Y cJ cD y0 y1 y2 y3 y4 y5 o1 o2 ov od) n K Ln Wh Re cd ct s.heap.size k hk) (cwV 1 hts gL_count_X2_count rfl rfl rfl (by decide +kernel) ⟨Nat.le_of_ble_eq_true rfl, Nat.le_of_ble_eq_true rfl⟩) ⟨tcP.blind, va_recv hK hP (ci := 2) (q0 := 0) rfl rfl, tcP.go hK hP hD hE hS⟩ rfl rfl hl.1 rfl (lv_room (Nat.le_of_ble_eq_true rfl)) dL_count_4 ⟨Nat.le_of_ble_eq_true rfl, Nat.le_of_ble_eq_true rfl⟩) hS (fun q h => h) (fun q _ h => h) (fun E ce q9 u t H locs ht hvm hw hB hz1 hk1 hS hce hcv hcl => ?_)
  obtain ⟨rfl, hP, hD⟩ := hB
  rw [ht] at hP
  refine vx_catch (own := RL) (name := "java/lang/IndexOutOfBoundsException") (E := "java/lang/IndexOutOfBoundsException") (ce := ce) hown [] ⟨0, 9, 12, 21⟩ [] (htb.trans rfl) (fun _ h => absurd h List.not_mem_nil) (by decide) (by decide) (hts (.classLink RL 21 "java/lang/IndexOutOfBoundsException") (by decide +kernel)) (va_Nw.use rfl hE.2.2.1.1) hce hcv hcl ?_
  refine lv_astore_n (lv' := [(3, .ref q9), (0, .ref h0), (1, .int k), (2, .ref o1)]) hx hb dL_count_12 rfl hl (by decide) rfl (fun ls hl => ?_)
  refine lv_iconst (v := 1) hx hb dL_count_13 (by decide) ?_
  refine vx_ret ?_
  exact W.iret (v := 1) hx hb hr (fun t9 ht9 hW9 => ⟨⟨1, (), rfl, rfl, by rw [ht9]; exact hP, hD⟩, hS.F ht9⟩) hS.2.2 dL_count_14
set_option maxHeartbeats 4000000 in
set_option maxRecDepth 100000 in
theorem lLn_hasCells (l : Launch) (hfl : l.stackTraces = false) (D : va_G) (A : Nat → Prop) (cI cJ cD cC : ClassId) (h0 h1 h2 h3 h4 : Nat) (ad wd rd : Nat → Nat) (y0 y1 y2 y3 y4 y5 : Nat × va_E) (o1 o2 : Nat) (ov : Nat → Int64) (od : Nat → UInt64) (n : Nat) (K : Nat → Int32) (Ln : Nat → Nat) (Wh : Nat → Int64) (Re : Nat → UInt64) (cd : Int32) (ct : Nat → Int32) (sz : Nat) (k : Int32) (hk : kIs k = false) : vx_Met l yL_hasCells wsL_hasCells ({ frames := 8, cells := 1, slots := 6, locals := 131 }) (tcPL D A (tcTY cI cJ cD cC) sz [.ref h0, .int k, .ref o1] (tc_T cI cJ cD cC h0 h1 h2 h3 h4 ad wd rd (tc_Y cJ cD y0 y1 y2 y3 y4 y5 o1 o2 ov od) n K Ln Wh Re cd ct)) (va_Qi (fun r (_ : Unit) => r = 1) (fun _ t => tcB D A (tc_T cI cJ cD cC h0 h1 h2 h3 h4 ad wd rd (tc_Y cJ cD y0 y1 y2 y3 y4 y5 o1 o2 ov od) n K Ln Wh Re cd ct) t) A) (fun _ _ _ => False) 1 6 A := by
  refine vx_ofWH (cc := cL_hasCells) (maxL := 4) (ret := (some .int)) (hh := [(0, 16, 19, 21)]) (by decide) rfl ?_
  intro p e s m args below meth c s₁ B hml hv
  obtain ⟨rfl, ⟨hsz, hP, hK, hD, hE⟩, hNc⟩ := hv
  have hx := B.exec
  have hb := B.bytes
  have hr := B.returns
  have hts := atoms_spec (ws := wsL_hasCells) B.pre
  have hown : s.vm.findClass RL = some m.cls := findClass_of_methodNamed B.named
  have hlocks := B.notSynchronized
  have hl := lv_entry ([.ref h0, .int k, .ref o1]) (n := 4) (Nat.le_of_ble_eq_true rfl)
  rw [lg_entry_eq]
  generalize (lg_sl ([.ref h0, .int k, .ref o1]) ++ List.replicate (4 - (lg_sl ([.ref h0, .int k, .ref o1])).length) Slot.unset).toArray = ls at hl ⊢
  have hl : lv_has ls 4 [(0, .ref h0), (1, .int k), (2, .ref o1)] := hl
  have htb := vx_table (x := yL_hasCells) B (hts (.codeWith yL_hasCells cL_hasCells 4 (some .int) [(0, 16, 19, 21)]) (by unfold wsL_hasCells; exact List.mem_cons_self))
  subst hsz
  have hS : va_S A s.heap s.heap [] := va_S.rf
  refine lv_aload_n hx hb dL_hasCells_0 rfl (lv_at hl 2 rfl) ?_
  refine lv_iconst (v := 0) hx hb dL_hasCells_1 (by decide) ?_
  refine lv_aload_n hx hb dL_hasCells_2 rfl (lv_at hl 0 rfl) ?_
  refine lv_iload_n hx hb dL_hasCells_3 rfl (lv_at hl 1 rfl) ?_
  refine tc_thr (vx_runV (As := [.int k]) (rest := [.int 0, .ref o1]) ⟨hx, hb, hml, hown, hts⟩ (bX2_hasCells l hfl D A cI cJ cD cC h0 h1 h2 h3 h4 ad wd rd (tc_Y cJ cD y0 y1 y2 y3 y4 y5 o1 o2 ov od) n K Ln Wh Re cd ct s.heap.size k hk) (cwV 1 hts gL_hasCells_X2_hasCells rfl rfl rfl (by decide +kernel) ⟨Nat.le_of_ble_eq_true rfl, Nat.le_of_ble_eq_true rfl⟩) ⟨tcP.blind, va_recv hK hP (ci := 2) (q0 := 0) rfl rfl, tcP.go hK hP hD hE hS⟩ rfl rfl hl.1 rfl (lv_room (Nat.le_of_ble_eq_true rfl)) dL_hasCells_4 ⟨Nat.le_of_ble_eq_true rfl, Nat.le_of_ble_eq_true rfl⟩) hS (fun q h => h) (fun q _ h => h) (fun E ce q9 u t H locs ht hvm hw hB hz1 hk1 hS hce hcv hcl => ?_)
  obtain ⟨rfl, hP, hD⟩ := hB
  rw [ht] at hP
  refine vx_catch (own := RL) (name := "java/lang/IndexOutOfBoundsException") (E := "java/lang/IndexOutOfBoundsException") (ce := ce) hown [] ⟨0, 16, 19, 21⟩ [] (htb.trans rfl) (fun _ h => absurd h List.not_mem_nil) (by decide) (by decide) (hts (.classLink RL 21 "java/lang/IndexOutOfBoundsException") (by decide +kernel)) (va_Nw.use rfl hE.2.2.1.1) hce hcv hcl ?_
  refine lv_astore_n (lv' := [(3, .ref q9), (0, .ref h0), (1, .int k), (2, .ref o1)]) hx hb dL_hasCells_19 rfl hl (by decide) rfl (fun ls hl => ?_)
  refine lv_iconst (v := 1) hx hb dL_hasCells_20 (by decide) ?_
  refine vx_ret ?_
  exact W.iret (v := 1) hx hb hr (fun t9 ht9 hW9 => ⟨⟨1, (), rfl, rfl, by rw [ht9]; exact hP, hD⟩, hS.F ht9⟩) hS.2.2 dL_hasCells_21
set_option maxHeartbeats 4000000 in
set_option maxRecDepth 100000 in
theorem lLn_isNumber (l : Launch) (hfl : l.stackTraces = false) (D : va_G) (A : Nat → Prop) (cI cJ cD cC : ClassId) (h0 h1 h2 h3 h4 : Nat) (ad wd rd : Nat → Nat) (y0 y1 y2 y3 y4 y5 : Nat × va_E) (o1 o2 : Nat) (ov : Nat → Int64) (od : Nat → UInt64) (n : Nat) (K : Nat → Int32) (Ln : Nat → Nat) (Wh : Nat → Int64) (Re : Nat → UInt64) (cd : Int32) (ct : Nat → Int32) (sz : Nat) (k : Int32) (hk : kIs k = false) : vx_Met l yL_isNumber wsL_isNumber ({ frames := 8, cells := 1, slots := 6, locals := 131 }) (tcPL D A (tcTY cI cJ cD cC) sz [.ref h0, .int k, .ref o1] (tc_T cI cJ cD cC h0 h1 h2 h3 h4 ad wd rd (tc_Y cJ cD y0 y1 y2 y3 y4 y5 o1 o2 ov od) n K Ln Wh Re cd ct)) (va_Qi (fun r (_ : Unit) => r = 1) (fun _ t => tcB D A (tc_T cI cJ cD cC h0 h1 h2 h3 h4 ad wd rd (tc_Y cJ cD y0 y1 y2 y3 y4 y5 o1 o2 ov od) n K Ln Wh Re cd ct) t) A) (fun _ _ _ => False) 1 6 A := by
  refine vx_ofWH (cc := cL_isNumber) (maxL := 4) (ret := (some .int)) (hh := [(0, 16, 19, 21)]) (by decide) rfl ?_
  intro p e s m args below meth c s₁ B hml hv
  obtain ⟨rfl, ⟨hsz, hP, hK, hD, hE⟩, hNc⟩ := hv
  have hx := B.exec
  have hb := B.bytes
  have hr := B.returns
  have hts := atoms_spec (ws := wsL_isNumber) B.pre
  have hown : s.vm.findClass RL = some m.cls := findClass_of_methodNamed B.named
  have hlocks := B.notSynchronized
  have hl := lv_entry ([.ref h0, .int k, .ref o1]) (n := 4) (Nat.le_of_ble_eq_true rfl)
  rw [lg_entry_eq]
  generalize (lg_sl ([.ref h0, .int k, .ref o1]) ++ List.replicate (4 - (lg_sl ([.ref h0, .int k, .ref o1])).length) Slot.unset).toArray = ls at hl ⊢
  have hl : lv_has ls 4 [(0, .ref h0), (1, .int k), (2, .ref o1)] := hl
  have htb := vx_table (x := yL_isNumber) B (hts (.codeWith yL_isNumber cL_isNumber 4 (some .int) [(0, 16, 19, 21)]) (by unfold wsL_isNumber; exact List.mem_cons_self))
  subst hsz
  have hS : va_S A s.heap s.heap [] := va_S.rf
  refine lv_aload_n hx hb dL_isNumber_0 rfl (lv_at hl 2 rfl) ?_
  refine lv_iconst (v := 0) hx hb dL_isNumber_1 (by decide) ?_
  refine lv_aload_n hx hb dL_isNumber_2 rfl (lv_at hl 0 rfl) ?_
  refine lv_iload_n hx hb dL_isNumber_3 rfl (lv_at hl 1 rfl) ?_
  refine tc_thr (vx_runV (As := [.int k]) (rest := [.int 0, .ref o1]) ⟨hx, hb, hml, hown, hts⟩ (bX2_isNumber l hfl D A cI cJ cD cC h0 h1 h2 h3 h4 ad wd rd (tc_Y cJ cD y0 y1 y2 y3 y4 y5 o1 o2 ov od) n K Ln Wh Re cd ct s.heap.size k hk) (cwV 1 hts gL_isNumber_X2_isNumber rfl rfl rfl (by decide +kernel) ⟨Nat.le_of_ble_eq_true rfl, Nat.le_of_ble_eq_true rfl⟩) ⟨tcP.blind, va_recv hK hP (ci := 2) (q0 := 0) rfl rfl, tcP.go hK hP hD hE hS⟩ rfl rfl hl.1 rfl (lv_room (Nat.le_of_ble_eq_true rfl)) dL_isNumber_4 ⟨Nat.le_of_ble_eq_true rfl, Nat.le_of_ble_eq_true rfl⟩) hS (fun q h => h) (fun q _ h => h) (fun E ce q9 u t H locs ht hvm hw hB hz1 hk1 hS hce hcv hcl => ?_)
  obtain ⟨rfl, hP, hD⟩ := hB
  rw [ht] at hP
  refine vx_catch (own := RL) (name := "java/lang/IndexOutOfBoundsException") (E := "java/lang/IndexOutOfBoundsException") (ce := ce) hown [] ⟨0, 16, 19, 21⟩ [] (htb.trans rfl) (fun _ h => absurd h List.not_mem_nil) (by decide) (by decide) (hts (.classLink RL 21 "java/lang/IndexOutOfBoundsException") (by decide +kernel)) (va_Nw.use rfl hE.2.2.1.1) hce hcv hcl ?_
  refine lv_astore_n (lv' := [(3, .ref q9), (0, .ref h0), (1, .int k), (2, .ref o1)]) hx hb dL_isNumber_19 rfl hl (by decide) rfl (fun ls hl => ?_)
  refine lv_iconst (v := 1) hx hb dL_isNumber_20 (by decide) ?_
  refine vx_ret ?_
  exact W.iret (v := 1) hx hb hr (fun t9 ht9 hW9 => ⟨⟨1, (), rfl, rfl, by rw [ht9]; exact hP, hD⟩, hS.F ht9⟩) hS.2.2 dL_isNumber_21
set_option maxHeartbeats 4000000 in
set_option maxRecDepth 100000 in
theorem lLn_canWiden1 (l : Launch) (hfl : l.stackTraces = false) (D : va_G) (A : Nat → Prop) (cI cJ cD cC : ClassId) (h0 h1 h2 h3 h4 : Nat) (ad wd rd : Nat → Nat) (y0 y1 y2 y3 y4 y5 : Nat × va_E) (o1 o2 : Nat) (ov : Nat → Int64) (od : Nat → UInt64) (n : Nat) (K : Nat → Int32) (Ln : Nat → Nat) (Wh : Nat → Int64) (Re : Nat → UInt64) (cd : Int32) (ct : Nat → Int32) (sz : Nat) (k k2 : Int32) (hk : kIs k = false) : vx_Met l yL_canWiden wsL_canWiden ({ frames := 8, cells := 1, slots := 6, locals := 132 }) (tcPL D A (tcTY cI cJ cD cC) sz [.ref h0, .int k, .int k2, .ref o1] (tc_T cI cJ cD cC h0 h1 h2 h3 h4 ad wd rd (tc_Y cJ cD y0 y1 y2 y3 y4 y5 o1 o2 ov od) n K Ln Wh Re cd ct)) (va_Qi (fun r (_ : Unit) => r = 1) (fun _ t => tcB D A (tc_T cI cJ cD cC h0 h1 h2 h3 h4 ad wd rd (tc_Y cJ cD y0 y1 y2 y3 y4 y5 o1 o2 ov od) n K Ln Wh Re cd ct) t) A) (fun _ _ _ => False) 1 6 A := by
  refine vx_ofWH (cc := cL_canWiden) (maxL := 5) (ret := (some .int)) (hh := [(0, 17, 20, 21)]) (by decide) rfl ?_
  intro p e s m args below meth c s₁ B hml hv
  obtain ⟨rfl, ⟨hsz, hP, hK, hD, hE⟩, hNc⟩ := hv
  have hx := B.exec
  have hb := B.bytes
  have hr := B.returns
  have hts := atoms_spec (ws := wsL_canWiden) B.pre
  have hown : s.vm.findClass RL = some m.cls := findClass_of_methodNamed B.named
  have hlocks := B.notSynchronized
  have hl := lv_entry ([.ref h0, .int k, .int k2, .ref o1]) (n := 5) (Nat.le_of_ble_eq_true rfl)
  rw [lg_entry_eq]
  generalize (lg_sl ([.ref h0, .int k, .int k2, .ref o1]) ++ List.replicate (5 - (lg_sl ([.ref h0, .int k, .int k2, .ref o1])).length) Slot.unset).toArray = ls at hl ⊢
  have hl : lv_has ls 5 [(0, .ref h0), (1, .int k), (2, .int k2), (3, .ref o1)] := hl
  have htb := vx_table (x := yL_canWiden) B (hts (.codeWith yL_canWiden cL_canWiden 5 (some .int) [(0, 17, 20, 21)]) (by unfold wsL_canWiden; exact List.mem_cons_self))
  subst hsz
  have hS : va_S A s.heap s.heap [] := va_S.rf
  refine lv_aload_n hx hb dL_canWiden_0 rfl (lv_at hl 3 rfl) ?_
  refine lv_iconst (v := 0) hx hb dL_canWiden_1 (by decide) ?_
  refine lv_aload_n hx hb dL_canWiden_2 rfl (lv_at hl 0 rfl) ?_
  refine lv_iload_n hx hb dL_canWiden_3 rfl (lv_at hl 1 rfl) ?_
  refine lv_iload_n hx hb dL_canWiden_4 rfl (lv_at hl 2 rfl) ?_
  refine tc_thr (vx_runV (As := [.int k, .int k2]) (rest := [.int 0, .ref o1]) ⟨hx, hb, hml, hown, hts⟩ (bX2_canWiden1 l hfl D A cI cJ cD cC h0 h1 h2 h3 h4 ad wd rd (tc_Y cJ cD y0 y1 y2 y3 y4 y5 o1 o2 ov od) n K Ln Wh Re cd ct s.heap.size k k2 hk) (cwV 2 hts gL_canWiden_X2_canWiden rfl rfl rfl (by decide +kernel) ⟨Nat.le_of_ble_eq_true rfl, Nat.le_of_ble_eq_true rfl⟩) ⟨tcP.blind, va_recv hK hP (ci := 2) (q0 := 0) rfl rfl, tcP.go hK hP hD hE hS⟩ rfl rfl hl.1 rfl (lv_room (Nat.le_of_ble_eq_true rfl)) dL_canWiden_5 ⟨Nat.le_of_ble_eq_true rfl, Nat.le_of_ble_eq_true rfl⟩) hS (fun q h => h) (fun q _ h => h) (fun E ce q9 u t H locs ht hvm hw hB hz1 hk1 hS hce hcv hcl => ?_)
  obtain ⟨rfl, hP, hD⟩ := hB
  rw [ht] at hP
  refine vx_catch (own := RL) (name := "java/lang/IndexOutOfBoundsException") (E := "java/lang/IndexOutOfBoundsException") (ce := ce) hown [] ⟨0, 17, 20, 21⟩ [] (htb.trans rfl) (fun _ h => absurd h List.not_mem_nil) (by decide) (by decide) (hts (.classLink RL 21 "java/lang/IndexOutOfBoundsException") (by decide +kernel)) (va_Nw.use rfl hE.2.2.1.1) hce hcv hcl ?_
  refine lv_astore (lv' := [(4, .ref q9), (0, .ref h0), (1, .int k), (2, .int k2), (3, .ref o1)]) hx hb dL_canWiden_20 hl (by decide) rfl (fun ls hl => ?_)
  refine lv_iconst (v := 1) hx hb dL_canWiden_22 (by decide) ?_
  refine vx_ret ?_
  exact W.iret (v := 1) hx hb hr (fun t9 ht9 hW9 => ⟨⟨1, (), rfl, rfl, by rw [ht9]; exact hP, hD⟩, hS.F ht9⟩) hS.2.2 dL_canWiden_23
set_option maxHeartbeats 4000000 in
set_option maxRecDepth 100000 in
theorem lLn_canWiden2 (l : Launch) (hfl : l.stackTraces = false) (D : va_G) (A : Nat → Prop) (cI cJ cD cC : ClassId) (h0 h1 h2 h3 h4 : Nat) (ad wd rd : Nat → Nat) (y0 y1 y2 y3 y4 y5 : Nat × va_E) (o1 o2 : Nat) (ov : Nat → Int64) (od : Nat → UInt64) (n : Nat) (K : Nat → Int32) (Ln : Nat → Nat) (Wh : Nat → Int64) (Re : Nat → UInt64) (cd : Int32) (ct : Nat → Int32) (sz : Nat) (k2 k : Int32) (hk2 : kIs k2 = true) (hk : kIs k = false) : vx_Met l yL_canWiden wsL_canWiden ({ frames := 8, cells := 1, slots := 6, locals := 132 }) (tcPL D A (tcTY cI cJ cD cC) sz [.ref h0, .int k2, .int k, .ref o1] (tc_T cI cJ cD cC h0 h1 h2 h3 h4 ad wd rd (tc_Y cJ cD y0 y1 y2 y3 y4 y5 o1 o2 ov od) n K Ln Wh Re cd ct)) (va_Qi (fun r (_ : Unit) => r = 1) (fun _ t => tcB D A (tc_T cI cJ cD cC h0 h1 h2 h3 h4 ad wd rd (tc_Y cJ cD y0 y1 y2 y3 y4 y5 o1 o2 ov od) n K Ln Wh Re cd ct) t) A) (fun _ _ _ => False) 1 6 A := by
  refine vx_ofWH (cc := cL_canWiden) (maxL := 5) (ret := (some .int)) (hh := [(0, 17, 20, 21)]) (by decide) rfl ?_
  intro p e s m args below meth c s₁ B hml hv
  obtain ⟨rfl, ⟨hsz, hP, hK, hD, hE⟩, hNc⟩ := hv
  have hx := B.exec
  have hb := B.bytes
  have hr := B.returns
  have hts := atoms_spec (ws := wsL_canWiden) B.pre
  have hown : s.vm.findClass RL = some m.cls := findClass_of_methodNamed B.named
  have hlocks := B.notSynchronized
  have hl := lv_entry ([.ref h0, .int k2, .int k, .ref o1]) (n := 5) (Nat.le_of_ble_eq_true rfl)
  rw [lg_entry_eq]
  generalize (lg_sl ([.ref h0, .int k2, .int k, .ref o1]) ++ List.replicate (5 - (lg_sl ([.ref h0, .int k2, .int k, .ref o1])).length) Slot.unset).toArray = ls at hl ⊢
  have hl : lv_has ls 5 [(0, .ref h0), (1, .int k2), (2, .int k), (3, .ref o1)] := hl
  have htb := vx_table (x := yL_canWiden) B (hts (.codeWith yL_canWiden cL_canWiden 5 (some .int) [(0, 17, 20, 21)]) (by unfold wsL_canWiden; exact List.mem_cons_self))
  subst hsz
  have hS : va_S A s.heap s.heap [] := va_S.rf
  refine lv_aload_n hx hb dL_canWiden_0 rfl (lv_at hl 3 rfl) ?_
  refine lv_iconst (v := 0) hx hb dL_canWiden_1 (by decide) ?_
  refine lv_aload_n hx hb dL_canWiden_2 rfl (lv_at hl 0 rfl) ?_
  refine lv_iload_n hx hb dL_canWiden_3 rfl (lv_at hl 1 rfl) ?_
  refine lv_iload_n hx hb dL_canWiden_4 rfl (lv_at hl 2 rfl) ?_
  refine tc_thr (vx_runV (As := [.int k2, .int k]) (rest := [.int 0, .ref o1]) ⟨hx, hb, hml, hown, hts⟩ (bX2_canWiden2 l hfl D A cI cJ cD cC h0 h1 h2 h3 h4 ad wd rd (tc_Y cJ cD y0 y1 y2 y3 y4 y5 o1 o2 ov od) n K Ln Wh Re cd ct s.heap.size k2 k hk2 hk) (cwV 2 hts gL_canWiden_X2_canWiden rfl rfl rfl (by decide +kernel) ⟨Nat.le_of_ble_eq_true rfl, Nat.le_of_ble_eq_true rfl⟩) ⟨tcP.blind, va_recv hK hP (ci := 2) (q0 := 0) rfl rfl, tcP.go hK hP hD hE hS⟩ rfl rfl hl.1 rfl (lv_room (Nat.le_of_ble_eq_true rfl)) dL_canWiden_5 ⟨Nat.le_of_ble_eq_true rfl, Nat.le_of_ble_eq_true rfl⟩) hS (fun q h => h) (fun q _ h => h) (fun E ce q9 u t H locs ht hvm hw hB hz1 hk1 hS hce hcv hcl => ?_)
  obtain ⟨rfl, hP, hD⟩ := hB
  rw [ht] at hP
  refine vx_catch (own := RL) (name := "java/lang/IndexOutOfBoundsException") (E := "java/lang/IndexOutOfBoundsException") (ce := ce) hown [] ⟨0, 17, 20, 21⟩ [] (htb.trans rfl) (fun _ h => absurd h List.not_mem_nil) (by decide) (by decide) (hts (.classLink RL 21 "java/lang/IndexOutOfBoundsException") (by decide +kernel)) (va_Nw.use rfl hE.2.2.1.1) hce hcv hcl ?_
  refine lv_astore (lv' := [(4, .ref q9), (0, .ref h0), (1, .int k2), (2, .int k), (3, .ref o1)]) hx hb dL_canWiden_20 hl (by decide) rfl (fun ls hl => ?_)
  refine lv_iconst (v := 1) hx hb dL_canWiden_22 (by decide) ?_
  refine vx_ret ?_
  exact W.iret (v := 1) hx hb hr (fun t9 ht9 hW9 => ⟨⟨1, (), rfl, rfl, by rw [ht9]; exact hP, hD⟩, hS.F ht9⟩) hS.2.2 dL_canWiden_23
set_option maxHeartbeats 4000000 in
set_option maxRecDepth 100000 in
theorem lLn_create_k (l : Launch) (hfl : l.stackTraces = false) (D : va_G) (A : Nat → Prop) (cI cJ cD cC : ClassId) (h0 h1 h2 h3 h4 : Nat) (ad wd rd : Nat → Nat) (y0 y1 y2 y3 y4 y5 : Nat × va_E) (o1 o2 : Nat) (ov : Nat → Int64) (od : Nat → UInt64) (n : Nat) (K : Nat → Int32) (Ln : Nat → Nat) (Wh : Nat → Int64) (Re : Nat → UInt64) (cd : Int32) (ct : Nat → Int32) (sz : Nat) (k len : Int32) (hk : kIs k = false) : vx_Met l yL_create wsL_create ({ frames := 7, cells := 1, slots := 6, locals := 112 }) (tcPL D A (tcTY cI cJ cD cC) sz [.ref h0, .int k, .int len, .ref o1] (tc_T cI cJ cD cC h0 h1 h2 h3 h4 ad wd rd (tc_Y cJ cD y0 y1 y2 y3 y4 y5 o1 o2 ov od) n K Ln Wh Re cd ct)) (va_Qi (fun r (_ : Unit) => r = 1) (fun _ t => tcB D A (tc_T cI cJ cD cC h0 h1 h2 h3 h4 ad wd rd (tc_Y cJ cD y0 y1 y2 y3 y4 y5 o1 o2 ov od) n K Ln Wh Re cd ct) t) A) (fun _ _ _ => False) 1 6 A := by
  refine vx_ofWH (cc := cL_create) (maxL := 5) (ret := (some .int)) (hh := [(0, 10, 13, 13), (0, 10, 17, 15)]) (by decide) rfl ?_
  intro p e s m args below meth c s₁ B hml hv
  obtain ⟨rfl, ⟨hsz, hP, hK, hD, hE⟩, hNc⟩ := hv
  have hx := B.exec
  have hb := B.bytes
  have hr := B.returns
  have hts := atoms_spec (ws := wsL_create) B.pre
  have hown : s.vm.findClass RL = some m.cls := findClass_of_methodNamed B.named
  have hlocks := B.notSynchronized
  have hl := lv_entry ([.ref h0, .int k, .int len, .ref o1]) (n := 5) (Nat.le_of_ble_eq_true rfl)
  rw [lg_entry_eq]
  generalize (lg_sl ([.ref h0, .int k, .int len, .ref o1]) ++ List.replicate (5 - (lg_sl ([.ref h0, .int k, .int len, .ref o1])).length) Slot.unset).toArray = ls at hl ⊢
  have hl : lv_has ls 5 [(0, .ref h0), (1, .int k), (2, .int len), (3, .ref o1)] := hl
  have htb := vx_table (x := yL_create) B (hts (.codeWith yL_create cL_create 5 (some .int) [(0, 10, 13, 13), (0, 10, 17, 15)]) (by unfold wsL_create; exact List.mem_cons_self))
  subst hsz
  have hS : va_S A s.heap s.heap [] := va_S.rf
  refine lv_aload_n hx hb dL_create_0 rfl (lv_at hl 3 rfl) ?_
  refine lv_iconst (v := 0) hx hb dL_create_1 (by decide) ?_
  refine lv_aload_n hx hb dL_create_2 rfl (lv_at hl 0 rfl) ?_
  refine lv_iload_n hx hb dL_create_3 rfl (lv_at hl 1 rfl) ?_
  refine lv_iload_n hx hb dL_create_4 rfl (lv_at hl 2 rfl) ?_
  refine tc_thr (vx_runV (As := [.int k, .int len]) (rest := [.int 0, .ref o1]) ⟨hx, hb, hml, hown, hts⟩ (bX2_create_k l hfl D A cI cJ cD cC h0 h1 h2 h3 h4 ad wd rd (tc_Y cJ cD y0 y1 y2 y3 y4 y5 o1 o2 ov od) n K Ln Wh Re cd ct s.heap.size k len hk) (cwV 2 hts gL_create_X2_create rfl rfl rfl (by decide +kernel) ⟨Nat.le_of_ble_eq_true rfl, Nat.le_of_ble_eq_true rfl⟩) ⟨tcP.blind, va_recv hK hP (ci := 2) (q0 := 0) rfl rfl, tcP.go hK hP hD hE hS⟩ rfl rfl hl.1 rfl (lv_room (Nat.le_of_ble_eq_true rfl)) dL_create_5 ⟨Nat.le_of_ble_eq_true rfl, Nat.le_of_ble_eq_true rfl⟩) hS (fun q h => h) (fun q _ h => h) (fun E ce q9 u t H locs ht hvm hw hB hz1 hk1 hS hce hcv hcl => ?_)
  obtain ⟨rfl, hP, hD⟩ := hB
  rw [ht] at hP
  refine vx_catch (own := RL) (name := "java/lang/IllegalArgumentException") (E := "java/lang/IllegalArgumentException") (ce := ce) hown [] ⟨0, 10, 13, 13⟩ [⟨0, 10, 17, 15⟩] (htb.trans rfl) (fun _ h => absurd h List.not_mem_nil) (by decide) (by decide) (hts (.classLink RL 13 "java/lang/IllegalArgumentException") (by decide +kernel)) (va_Nw.use rfl hE.2.2.1.2.1) hce hcv hcl ?_
  refine lv_astore (lv' := [(4, .ref q9), (0, .ref h0), (1, .int k), (2, .int len), (3, .ref o1)]) hx hb dL_create_13 hl (by decide) rfl (fun ls hl => ?_)
  refine lv_iconst (v := 1) hx hb dL_create_15 (by decide) ?_
  refine vx_ret ?_
  exact W.iret (v := 1) hx hb hr (fun t9 ht9 hW9 => ⟨⟨1, (), rfl, rfl, by rw [ht9]; exact hP, hD⟩, hS.F ht9⟩) hS.2.2 dL_create_16
set_option maxHeartbeats 4000000 in
set_option maxRecDepth 100000 in
theorem lLn_create_l (l : Launch) (hfl : l.stackTraces = false) (D : va_G) (A : Nat → Prop) (cI cJ cD cC : ClassId) (h0 h1 h2 h3 h4 : Nat) (ad wd rd : Nat → Nat) (y0 y1 y2 y3 y4 y5 : Nat × va_E) (o1 o2 : Nat) (ov : Nat → Int64) (od : Nat → UInt64) (n : Nat) (K : Nat → Int32) (Ln : Nat → Nat) (Wh : Nat → Int64) (Re : Nat → UInt64) (cd : Int32) (ct : Nat → Int32) (sz : Nat) (k len : Int32) (hk : kIs k = true) (hh : kHas k = true) (hl9 : kLen len = false) : vx_Met l yL_create wsL_create ({ frames := 7, cells := 1, slots := 6, locals := 112 }) (tcPL D A (tcTY cI cJ cD cC) sz [.ref h0, .int k, .int len, .ref o1] (tc_T cI cJ cD cC h0 h1 h2 h3 h4 ad wd rd (tc_Y cJ cD y0 y1 y2 y3 y4 y5 o1 o2 ov od) n K Ln Wh Re cd ct)) (va_Qi (fun r (_ : Unit) => r = 1) (fun _ t => tcB D A (tc_T cI cJ cD cC h0 h1 h2 h3 h4 ad wd rd (tc_Y cJ cD y0 y1 y2 y3 y4 y5 o1 o2 ov od) n K Ln Wh Re cd ct) t) A) (fun _ _ _ => False) 1 6 A := by
  refine vx_ofWH (cc := cL_create) (maxL := 5) (ret := (some .int)) (hh := [(0, 10, 13, 13), (0, 10, 17, 15)]) (by decide) rfl ?_
  intro p e s m args below meth c s₁ B hml hv
  obtain ⟨rfl, ⟨hsz, hP, hK, hD, hE⟩, hNc⟩ := hv
  have hx := B.exec
  have hb := B.bytes
  have hr := B.returns
  have hts := atoms_spec (ws := wsL_create) B.pre
  have hown : s.vm.findClass RL = some m.cls := findClass_of_methodNamed B.named
  have hlocks := B.notSynchronized
  have hl := lv_entry ([.ref h0, .int k, .int len, .ref o1]) (n := 5) (Nat.le_of_ble_eq_true rfl)
  rw [lg_entry_eq]
  generalize (lg_sl ([.ref h0, .int k, .int len, .ref o1]) ++ List.replicate (5 - (lg_sl ([.ref h0, .int k, .int len, .ref o1])).length) Slot.unset).toArray = ls at hl ⊢
  have hl : lv_has ls 5 [(0, .ref h0), (1, .int k), (2, .int len), (3, .ref o1)] := hl
  have htb := vx_table (x := yL_create) B (hts (.codeWith yL_create cL_create 5 (some .int) [(0, 10, 13, 13), (0, 10, 17, 15)]) (by unfold wsL_create; exact List.mem_cons_self))
  subst hsz
  have hS : va_S A s.heap s.heap [] := va_S.rf
  refine lv_aload_n hx hb dL_create_0 rfl (lv_at hl 3 rfl) ?_
  refine lv_iconst (v := 0) hx hb dL_create_1 (by decide) ?_
  refine lv_aload_n hx hb dL_create_2 rfl (lv_at hl 0 rfl) ?_
  refine lv_iload_n hx hb dL_create_3 rfl (lv_at hl 1 rfl) ?_
  refine lv_iload_n hx hb dL_create_4 rfl (lv_at hl 2 rfl) ?_
  refine tc_thr (vx_runV (As := [.int k, .int len]) (rest := [.int 0, .ref o1]) ⟨hx, hb, hml, hown, hts⟩ (bX2_create_l l hfl D A cI cJ cD cC h0 h1 h2 h3 h4 ad wd rd (tc_Y cJ cD y0 y1 y2 y3 y4 y5 o1 o2 ov od) n K Ln Wh Re cd ct s.heap.size k len hk hh hl9) (cwV 2 hts gL_create_X2_create rfl rfl rfl (by decide +kernel) ⟨Nat.le_of_ble_eq_true rfl, Nat.le_of_ble_eq_true rfl⟩) ⟨tcP.blind, va_recv hK hP (ci := 2) (q0 := 0) rfl rfl, tcP.go hK hP hD hE hS⟩ rfl rfl hl.1 rfl (lv_room (Nat.le_of_ble_eq_true rfl)) dL_create_5 ⟨Nat.le_of_ble_eq_true rfl, Nat.le_of_ble_eq_true rfl⟩) hS (fun q h => h) (fun q _ h => h) (fun E ce q9 u t H locs ht hvm hw hB hz1 hk1 hS hce hcv hcl => ?_)
  obtain ⟨rfl, hP, hD⟩ := hB
  rw [ht] at hP
  refine vx_catch (own := RL) (name := "java/lang/IllegalArgumentException") (E := "java/lang/IllegalArgumentException") (ce := ce) hown [] ⟨0, 10, 13, 13⟩ [⟨0, 10, 17, 15⟩] (htb.trans rfl) (fun _ h => absurd h List.not_mem_nil) (by decide) (by decide) (hts (.classLink RL 13 "java/lang/IllegalArgumentException") (by decide +kernel)) (va_Nw.use rfl hE.2.2.1.2.1) hce hcv hcl ?_
  refine lv_astore (lv' := [(4, .ref q9), (0, .ref h0), (1, .int k), (2, .int len), (3, .ref o1)]) hx hb dL_create_13 hl (by decide) rfl (fun ls hl => ?_)
  refine lv_iconst (v := 1) hx hb dL_create_15 (by decide) ?_
  refine vx_ret ?_
  exact W.iret (v := 1) hx hb hr (fun t9 ht9 hW9 => ⟨⟨1, (), rfl, rfl, by rw [ht9]; exact hP, hD⟩, hS.F ht9⟩) hS.2.2 dL_create_16
set_option maxHeartbeats 4000000 in
set_option maxRecDepth 100000 in
theorem lLn_create_f1 (l : Launch) (hfl : l.stackTraces = false) (D : va_G) (A : Nat → Prop) (cI cJ cD cC : ClassId) (h0 h1 h2 h3 h4 : Nat) (ad wd rd : Nat → Nat) (y0 y1 y2 y3 y4 y5 : Nat × va_E) (o1 o2 : Nat) (ov : Nat → Int64) (od : Nat → UInt64) (n : Nat) (K : Nat → Int32) (Ln : Nat → Nat) (Wh : Nat → Int64) (Re : Nat → UInt64) (cd : Int32) (ct : Nat → Int32) (sz : Nat) (k len : Int32) (hk : kIs k = true) (hh : kHas k = false) (hn6 : n = 60) : vx_Met l yL_create wsL_create ({ frames := 8, cells := 1, slots := 6, locals := 132 }) (tcPL D A (tcTY cI cJ cD cC) sz [.ref h0, .int k, .int len, .ref o1] (tc_T cI cJ cD cC h0 h1 h2 h3 h4 ad wd rd (tc_Y cJ cD y0 y1 y2 y3 y4 y5 o1 o2 ov od) n K Ln Wh Re cd ct)) (va_Qi (fun r (_ : Unit) => r = 2) (fun _ t => tcB D A (tc_T cI cJ cD cC h0 h1 h2 h3 h4 ad wd rd (tc_Y cJ cD y0 y1 y2 y3 y4 y5 o1 o2 ov od) n K Ln Wh Re cd ct) t) A) (fun _ _ _ => False) 1 6 A := by
  refine vx_ofWH (cc := cL_create) (maxL := 5) (ret := (some .int)) (hh := [(0, 10, 13, 13), (0, 10, 17, 15)]) (by decide) rfl ?_
  intro p e s m args below meth c s₁ B hml hv
  obtain ⟨rfl, ⟨hsz, hP, hK, hD, hE⟩, hNc⟩ := hv
  have hx := B.exec
  have hb := B.bytes
  have hr := B.returns
  have hts := atoms_spec (ws := wsL_create) B.pre
  have hown : s.vm.findClass RL = some m.cls := findClass_of_methodNamed B.named
  have hlocks := B.notSynchronized
  have hl := lv_entry ([.ref h0, .int k, .int len, .ref o1]) (n := 5) (Nat.le_of_ble_eq_true rfl)
  rw [lg_entry_eq]
  generalize (lg_sl ([.ref h0, .int k, .int len, .ref o1]) ++ List.replicate (5 - (lg_sl ([.ref h0, .int k, .int len, .ref o1])).length) Slot.unset).toArray = ls at hl ⊢
  have hl : lv_has ls 5 [(0, .ref h0), (1, .int k), (2, .int len), (3, .ref o1)] := hl
  have htb := vx_table (x := yL_create) B (hts (.codeWith yL_create cL_create 5 (some .int) [(0, 10, 13, 13), (0, 10, 17, 15)]) (by unfold wsL_create; exact List.mem_cons_self))
  subst hsz
  have hS : va_S A s.heap s.heap [] := va_S.rf
  refine lv_aload_n hx hb dL_create_0 rfl (lv_at hl 3 rfl) ?_
  refine lv_iconst (v := 0) hx hb dL_create_1 (by decide) ?_
  refine lv_aload_n hx hb dL_create_2 rfl (lv_at hl 0 rfl) ?_
  refine lv_iload_n hx hb dL_create_3 rfl (lv_at hl 1 rfl) ?_
  refine lv_iload_n hx hb dL_create_4 rfl (lv_at hl 2 rfl) ?_
  refine tc_thr (vx_runV (As := [.int k, .int len]) (rest := [.int 0, .ref o1]) ⟨hx, hb, hml, hown, hts⟩ (bX2_create_f1 l hfl D A cI cJ cD cC h0 h1 h2 h3 h4 ad wd rd (tc_Y cJ cD y0 y1 y2 y3 y4 y5 o1 o2 ov od) n K Ln Wh Re cd ct s.heap.size k len hk hh hn6) (cwV 2 hts gL_create_X2_create rfl rfl rfl (by decide +kernel) ⟨Nat.le_of_ble_eq_true rfl, Nat.le_of_ble_eq_true rfl⟩) ⟨tcP.blind, va_recv hK hP (ci := 2) (q0 := 0) rfl rfl, tcP.go hK hP hD hE hS⟩ rfl rfl hl.1 rfl (lv_room (Nat.le_of_ble_eq_true rfl)) dL_create_5 ⟨Nat.le_of_ble_eq_true rfl, Nat.le_of_ble_eq_true rfl⟩) hS (fun q h => h) (fun q _ h => h) (fun E ce q9 u t H locs ht hvm hw hB hz1 hk1 hS hce hcv hcl => ?_)
  obtain ⟨rfl, hP, hD⟩ := hB
  rw [ht] at hP
  refine vx_catch (own := RL) (name := "java/lang/IllegalStateException") (E := "java/lang/IllegalStateException") (ce := ce) hown [⟨0, 10, 13, 13⟩] ⟨0, 10, 17, 15⟩ [] (htb.trans rfl) (List.forall_mem_cons.mpr ⟨Or.inr ⟨by decide, "java/lang/IllegalArgumentException", hts (.classLink RL 13 "java/lang/IllegalArgumentException") (by decide +kernel), hNc.1⟩, fun _ h => absurd h List.not_mem_nil⟩) (by decide) (by decide) (hts (.classLink RL 15 "java/lang/IllegalStateException") (by decide +kernel)) (va_Nw.use rfl hE.2.2.1.2.2.1) hce hcv hcl ?_
  refine lv_astore (lv' := [(4, .ref q9), (0, .ref h0), (1, .int k), (2, .int len), (3, .ref o1)]) hx hb dL_create_17 hl (by decide) rfl (fun ls hl => ?_)
  refine lv_iconst (v := 2) hx hb dL_create_19 (by decide) ?_
  refine vx_ret ?_
  exact W.iret (v := 2) hx hb hr (fun t9 ht9 hW9 => ⟨⟨2, (), rfl, rfl, by rw [ht9]; exact hP, hD⟩, hS.F ht9⟩) hS.2.2 dL_create_20
set_option maxHeartbeats 4000000 in
set_option maxRecDepth 100000 in
theorem lLn_create_f2 (l : Launch) (hfl : l.stackTraces = false) (D : va_G) (A : Nat → Prop) (cI cJ cD cC : ClassId) (h0 h1 h2 h3 h4 : Nat) (ad wd rd : Nat → Nat) (y0 y1 y2 y3 y4 y5 : Nat × va_E) (o1 o2 : Nat) (ov : Nat → Int64) (od : Nat → UInt64) (n : Nat) (K : Nat → Int32) (Ln : Nat → Nat) (Wh : Nat → Int64) (Re : Nat → UInt64) (cd : Int32) (ct : Nat → Int32) (sz : Nat) (k len : Int32) (hk : kIs k = true) (hh : kHas k = true) (hl9 : kLen len = true) (hn6 : n = 60) : vx_Met l yL_create wsL_create ({ frames := 8, cells := 1, slots := 6, locals := 132 }) (tcPL D A (tcTY cI cJ cD cC) sz [.ref h0, .int k, .int len, .ref o1] (tc_T cI cJ cD cC h0 h1 h2 h3 h4 ad wd rd (tc_Y cJ cD y0 y1 y2 y3 y4 y5 o1 o2 ov od) n K Ln Wh Re cd ct)) (va_Qi (fun r (_ : Unit) => r = 2) (fun _ t => tcB D A (tc_T cI cJ cD cC h0 h1 h2 h3 h4 ad wd rd (tc_Y cJ cD y0 y1 y2 y3 y4 y5 o1 o2 ov od) n K Ln Wh Re cd ct) t) A) (fun _ _ _ => False) 1 6 A := by
  refine vx_ofWH (cc := cL_create) (maxL := 5) (ret := (some .int)) (hh := [(0, 10, 13, 13), (0, 10, 17, 15)]) (by decide) rfl ?_
  intro p e s m args below meth c s₁ B hml hv
  obtain ⟨rfl, ⟨hsz, hP, hK, hD, hE⟩, hNc⟩ := hv
  have hx := B.exec
  have hb := B.bytes
  have hr := B.returns
  have hts := atoms_spec (ws := wsL_create) B.pre
  have hown : s.vm.findClass RL = some m.cls := findClass_of_methodNamed B.named
  have hlocks := B.notSynchronized
  have hl := lv_entry ([.ref h0, .int k, .int len, .ref o1]) (n := 5) (Nat.le_of_ble_eq_true rfl)
  rw [lg_entry_eq]
  generalize (lg_sl ([.ref h0, .int k, .int len, .ref o1]) ++ List.replicate (5 - (lg_sl ([.ref h0, .int k, .int len, .ref o1])).length) Slot.unset).toArray = ls at hl ⊢
  have hl : lv_has ls 5 [(0, .ref h0), (1, .int k), (2, .int len), (3, .ref o1)] := hl
  have htb := vx_table (x := yL_create) B (hts (.codeWith yL_create cL_create 5 (some .int) [(0, 10, 13, 13), (0, 10, 17, 15)]) (by unfold wsL_create; exact List.mem_cons_self))
  subst hsz
  have hS : va_S A s.heap s.heap [] := va_S.rf
  refine lv_aload_n hx hb dL_create_0 rfl (lv_at hl 3 rfl) ?_
  refine lv_iconst (v := 0) hx hb dL_create_1 (by decide) ?_
  refine lv_aload_n hx hb dL_create_2 rfl (lv_at hl 0 rfl) ?_
  refine lv_iload_n hx hb dL_create_3 rfl (lv_at hl 1 rfl) ?_
  refine lv_iload_n hx hb dL_create_4 rfl (lv_at hl 2 rfl) ?_
  refine tc_thr (vx_runV (As := [.int k, .int len]) (rest := [.int 0, .ref o1]) ⟨hx, hb, hml, hown, hts⟩ (bX2_create_f2 l hfl D A cI cJ cD cC h0 h1 h2 h3 h4 ad wd rd (tc_Y cJ cD y0 y1 y2 y3 y4 y5 o1 o2 ov od) n K Ln Wh Re cd ct s.heap.size k len hk hh hl9 hn6) (cwV 2 hts gL_create_X2_create rfl rfl rfl (by decide +kernel) ⟨Nat.le_of_ble_eq_true rfl, Nat.le_of_ble_eq_true rfl⟩) ⟨tcP.blind, va_recv hK hP (ci := 2) (q0 := 0) rfl rfl, tcP.go hK hP hD hE hS⟩ rfl rfl hl.1 rfl (lv_room (Nat.le_of_ble_eq_true rfl)) dL_create_5 ⟨Nat.le_of_ble_eq_true rfl, Nat.le_of_ble_eq_true rfl⟩) hS (fun q h => h) (fun q _ h => h) (fun E ce q9 u t H locs ht hvm hw hB hz1 hk1 hS hce hcv hcl => ?_)
  obtain ⟨rfl, hP, hD⟩ := hB
  rw [ht] at hP
  refine vx_catch (own := RL) (name := "java/lang/IllegalStateException") (E := "java/lang/IllegalStateException") (ce := ce) hown [⟨0, 10, 13, 13⟩] ⟨0, 10, 17, 15⟩ [] (htb.trans rfl) (List.forall_mem_cons.mpr ⟨Or.inr ⟨by decide, "java/lang/IllegalArgumentException", hts (.classLink RL 13 "java/lang/IllegalArgumentException") (by decide +kernel), hNc.1⟩, fun _ h => absurd h List.not_mem_nil⟩) (by decide) (by decide) (hts (.classLink RL 15 "java/lang/IllegalStateException") (by decide +kernel)) (va_Nw.use rfl hE.2.2.1.2.2.1) hce hcv hcl ?_
  refine lv_astore (lv' := [(4, .ref q9), (0, .ref h0), (1, .int k), (2, .int len), (3, .ref o1)]) hx hb dL_create_17 hl (by decide) rfl (fun ls hl => ?_)
  refine lv_iconst (v := 2) hx hb dL_create_19 (by decide) ?_
  refine vx_ret ?_
  exact W.iret (v := 2) hx hb hr (fun t9 ht9 hW9 => ⟨⟨2, (), rfl, rfl, by rw [ht9]; exact hP, hD⟩, hS.F ht9⟩) hS.2.2 dL_create_20
