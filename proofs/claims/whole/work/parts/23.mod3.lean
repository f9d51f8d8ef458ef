/-! THE MODEL: copies, totals, checksums; its constructor -/
def cpr {α : Type} (src dst lo hi : Nat) (f : Nat → α) : Nat → α := fun x => if dst + lo ≤ x ∧ x < dst + hi then f (src + (x - dst)) else f x
theorem cpr_0 {α : Type} {src dst lo : Nat} {f : Nat → α} : cpr src dst lo lo f = f := by
  funext x; unfold cpr; rw [if_neg (by omega)]
theorem cpr_full {α : Type} {src dst M : Nat} {f : Nat → α} : cpr src dst 0 M f = va_cpy f f src dst M := rfl
theorem cpr_up {α : Type} {src dst i : Nat} {f : Nat → α} : (fun x => if x = dst + i then f (src + i) else cpr src dst 0 i f x) = cpr src dst 0 (i + 1) f := by
  funext x
  unfold cpr
  by_cases h : x = dst + i
  · rw [if_pos h, if_pos (by omega), show src + (x - dst) = src + i from by omega]
  · rw [if_neg h]
    by_cases h2 : dst + 0 ≤ x ∧ x < dst + i
    · rw [if_pos h2, if_pos (by omega)]
    · rw [if_neg h2, if_neg (by omega)]
theorem cpr_dn {α : Type} {src dst k M : Nat} {f : Nat → α} (h : k < M) : (fun x => if x = dst + k then f (src + k) else cpr src dst (k + 1) M f x) = cpr src dst k M f := by
  funext x
  unfold cpr
  by_cases h3 : x = dst + k
  · rw [if_pos h3, if_pos (by omega), show src + (x - dst) = src + k from by omega]
  · rw [if_neg h3]
    by_cases h2 : dst + (k + 1) ≤ x ∧ x < dst + M
    · rw [if_pos h2, if_pos (by omega)]
    · rw [if_neg h2, if_neg (by omega)]
theorem cpr_out {α : Type} {src dst lo hi x : Nat} {f : Nat → α} (h : x < dst + lo ∨ dst + hi ≤ x) : cpr src dst lo hi f x = f x := by
  unfold cpr; rw [if_neg (by omega)]
theorem fitL {a b : Int32} {N : Nat} (ha : ¬ a < 0) (hb : ¬ b < 0) (hN : N ≤ 40) : (0 < lg_cmp (a.toInt64 + b.toInt64) (nI N).toInt64) ↔ kPart a b (nI N) = false := by
  obtain ⟨x, hx, rfl⟩ := nI_of ha
  obtain ⟨y, hy, rfl⟩ := nI_of hb
  rw [lg_cmp_gt, Int64.lt_iff_toInt_lt, Int64.toInt_add, Int32.toInt_toInt64, Int32.toInt_toInt64, Int32.toInt_toInt64, nI_toInt hx, nI_toInt hy, nI_toInt (by omega)]
  have e : ((x : Int) + (y : Int)).bmod (2 ^ 64) = (x : Int) + y := Int.bmod_eq_of_le (by omega) (by omega)
  rw [e]
  cases h : kPart (nI x) (nI y) (nI N)
  · refine ⟨fun _ => rfl, fun _ => ?_⟩
    refine Decidable.byContradiction (fun q => ?_)
    have := kPart_mk (a := x) (b := y) (N := N) hx hy (by omega) (by omega)
    rw [this] at h; cases h
  · refine ⟨fun q => ?_, fun q => by cases q⟩
    have := (kPart_spec h (by omega)).2.2
    rw [nI_clamp hx, nI_clamp hy] at this
    omega
theorem kPart_l {a b N : Int32} (h : a < 0) : kPart a b N = false := by unfold kPart; rw [decide_eq_true h]; rfl
theorem kPart_m {a b N : Int32} (h : b < 0) : kPart a b N = false := by unfold kPart; rw [decide_eq_true h]; cases decide (a < 0) <;> rfl
section TLD
variable {p : Program} {l : Launch} {e : Env} {R : Room} {s : State} {m : MethodId} {args : Array Value} {below : List Frame} {meth : Method} {c : Code} {cells slots : Nat} {Q : State → Prop} {pc : Nat} {st : List Value}
/-- a loop whose turns may draw -/
theorem tc_loopD (inv : Nat → Drawn → Heap → List Loc → Array Slot → Prop)
    (hs : ∀ (k : Nat) (d : Drawn) (H : Heap) (locs : List Loc) (ls : Array Slot), inv (k + 1) d H locs ls → (∀ (d : Drawn) (H : Heap) (locs : List Loc) (ls : Array Slot), inv k d H locs ls → W p l e R (s.setDrawn d) m args below meth c H locs cells slots Q (F0 m pc ls st)) → W p l e R (s.setDrawn d) m args below meth c H locs cells slots Q (F0 m pc ls st))
    (h0 : ∀ (d : Drawn) (H : Heap) (locs : List Loc) (ls : Array Slot), inv 0 d H locs ls → W p l e R (s.setDrawn d) m args below meth c H locs cells slots Q (F0 m pc ls st)) :
    ∀ (n : Nat) {d : Drawn} {H : Heap} {locs : List Loc} {ls : Array Slot}, inv n d H locs ls → W p l e R (s.setDrawn d) m args below meth c H locs cells slots Q (F0 m pc ls st)
  | 0, d, H, locs, ls, h => h0 d H locs ls h
  | n + 1, d, H, locs, ls, h => hs n d H locs ls h (fun d H locs ls h => tc_loopD inv hs h0 n h)
end TLD
set_option maxHeartbeats 4000000 in
set_option maxRecDepth 100000 in
theorem kJxe99ae_isNaN_b9ae7 (l : Launch) (v : UInt64) (hn : FP.Core.dIsNaN v = false) : Met l yJxe99ae_isNaN_b9ae7 wsJxe99ae_isNaN_b9ae7 ({ frames := 0, cells := 0, slots := 0, locals := 0 }) (va_Pc [.double v] (fun _ => True)) (vp_Si (fun r => r = (0 : Int32))) 0 0 (fun _ => False) := by
  refine Met.ofW (cc := cJxe99ae_isNaN_b9ae7) (maxL := 2) (ret := (some .boolean)) (by decide) rfl ?_
  intro p e s m args below meth c s₁ B hml hv
  obtain ⟨rfl, -⟩ := hv
  have hx := B.exec
  have hb := B.bytes
  have hr := B.returns
  have hts := atoms_spec (ws := wsJxe99ae_isNaN_b9ae7) B.pre
  have hown : s.vm.findClass RJxe99ae = some m.cls := findClass_of_methodNamed B.named
  have hlocks := B.notSynchronized
  have hl := lv_entry ([.double v]) (n := 2) (Nat.le_of_ble_eq_true rfl)
  rw [lg_entry_eq]
  generalize (lg_sl ([.double v]) ++ List.replicate (2 - (lg_sl ([.double v])).length) Slot.unset).toArray = ls at hl ⊢
  have hl : lv_has ls 2 [(0, .double v)] := hl
  refine lv_dload_n hx hb dJxe99ae_isNaN_b9ae7_0 rfl (lv_at hl 0 rfl) ?_
  refine lv_dload_n hx hb dJxe99ae_isNaN_b9ae7_1 rfl (lv_at hl 0 rfl) ?_
  refine lv_dcmp hx hb dJxe99ae_isNaN_b9ae7_2 ?_
  refine lv_if_eq (tgt := 10) hx hb dJxe99ae_isNaN_b9ae7_3 (by decide) (fun _ => ?_) (fun q => absurd ((tf_cl0 _).mpr (tf_dcmp_self v hn)) q)
  refine lv_iconst (v := 0) hx hb dJxe99ae_isNaN_b9ae7_10 (by decide) ?_
  exact W.zret (ty := .boolean) (v := 0) hx hb hr rfl (fun t9 ht9 hW9 => ⟨0, rfl, rfl, ht9⟩) (fun q hq => absurd hq List.not_mem_nil) dJxe99ae_isNaN_b9ae7_11
set_option maxHeartbeats 4000000 in
set_option maxRecDepth 100000 in
theorem kJxe99ae_doubleToLongBits_ccdee (l : Launch) (v : UInt64) (hn : FP.Core.dIsNaN v = false) : Met l yJxe99ae_doubleToLongBits_ccdee wsJxe99ae_doubleToLongBits_ccdee ({ frames := 1, cells := 0, slots := 0, locals := 21 }) (va_Pc [.double v] (fun _ => True)) (vp_Sl (fun r => r = v.toInt64)) 0 0 (fun _ => False) := by
  refine Met.ofW (cc := cJxe99ae_doubleToLongBits_ccdee) (maxL := 2) (ret := (some .long)) (by decide) rfl ?_
  intro p e s m args below meth c s₁ B hml hv
  obtain ⟨rfl, -⟩ := hv
  have hx := B.exec
  have hb := B.bytes
  have hr := B.returns
  have hts := atoms_spec (ws := wsJxe99ae_doubleToLongBits_ccdee) B.pre
  have hown : s.vm.findClass RJxe99ae = some m.cls := findClass_of_methodNamed B.named
  have hlocks := B.notSynchronized
  have hl := lv_entry ([.double v]) (n := 2) (Nat.le_of_ble_eq_true rfl)
  rw [lg_entry_eq]
  generalize (lg_sl ([.double v]) ++ List.replicate (2 - (lg_sl ([.double v])).length) Slot.unset).toArray = ls at hl ⊢
  have hl : lv_has ls 2 [(0, .double v)] := hl
  refine lv_dload_n hx hb dJxe99ae_doubleToLongBits_ccdee_0 rfl (lv_at hl 0 rfl) ?_
  refine vp_callSi (W.runS (As := [.double v]) (rest := []) ⟨hx, hb, hml, hown, hts⟩ (kJxe99ae_isNaN_b9ae7 l v (hn)) (va_cwS 1 hts gJxe99ae_doubleToLongBits_ccdee_Jxe99ae_isNaN_b9ae7 rfl rfl rfl (by decide +kernel) ⟨Nat.le_of_ble_eq_true rfl, Nat.le_of_ble_eq_true rfl⟩) ⟨fun a U g mk q => q, fun U hU hW => ⟨rfl, trivial⟩⟩ rfl rfl hl.1 rfl (lv_room (Nat.le_of_ble_eq_true rfl)) dJxe99ae_doubleToLongBits_ccdee_1 ⟨Nat.zero_le _, Nat.zero_le _⟩) (fun r_1 hr_1 => ?_)
  subst hr_1
  refine lv_if_ne (tgt := 12) hx hb dJxe99ae_doubleToLongBits_ccdee_4 (by decide) (fun q => absurd (rfl) q) (fun _ => ?_)
  refine lv_dload_n hx hb dJxe99ae_doubleToLongBits_ccdee_7 rfl (lv_at hl 0 rfl) ?_
  refine vn_d2l hx hb (hml.trans hl.1.symm) hown (hts (.methodLink RJxe99ae 134 ⟨"java/lang/Double", "doubleToRawLongBits", "(D)J"⟩) (by decide +kernel)) (hts (.native ⟨"java/lang/Double", "doubleToRawLongBits", "(D)J"⟩) (by decide +kernel)) (hts (.static ⟨"java/lang/Double", "doubleToRawLongBits", "(D)J"⟩) (by decide +kernel)) (hts (.initialized "java/lang/Double") (by decide +kernel)) (Nat.le_of_ble_eq_true rfl) (Nat.le_of_ble_eq_true rfl) dJxe99ae_doubleToLongBits_ccdee_8 ?_
  exact W.lret (v := v.toInt64) hx hb hr (fun t9 ht9 hW9 => ⟨v.toInt64, rfl, rfl, ht9⟩) (fun q hq => absurd hq List.not_mem_nil) dJxe99ae_doubleToLongBits_ccdee_11
set_option maxHeartbeats 4000000 in
set_option maxRecDepth 100000 in
theorem tX3_copy_n1 (l : Launch) (D : va_G) (A : Nat → Prop) (cI cJ cD cC : ClassId) (x0 x1 x2 x3 x4 : Nat × va_E) (Z : va_W) (m0 m1 m2 m3 m4 m5 : Nat) (th : Int32) (n : Nat) (K : Nat → Int32) (Ln : Nat → Nat) (Wh : Nat → Int64) (Re : Nat → UInt64) (cd : Int32) (ct : Nat → Int32) (sz : Nat) (hI : tcI n K Ln Wh Re) (cx : Int32) (hc : ¬ ∃ j, j < n ∧ cx = nI j) (fi c2 ti mm : Int32) : Met l yX3_copy wsX3_copy ({ frames := 1, cells := 0, slots := 0, locals := 21 }) (tcP D A (tcTY cI cJ cD cC) sz [.ref m0, .int cx, .int fi, .int c2, .int ti, .int mm] (tc_Z cI cJ cD x0 x1 x2 x3 x4 Z m0 m1 m2 m3 m4 m5 th n K Ln Wh Re cd ct)) (va_Qi (fun r (_ : Unit) => r = 0) (fun _ t => tcB D A (tc_Z cI cJ cD x0 x1 x2 x3 x4 Z m0 m1 m2 m3 m4 m5 1 n K Ln Wh Re cd ct) t) A) 0 0 A := by
  refine Met.ofW (cc := cX3_copy) (maxL := 12) (ret := (some .int)) (by decide) rfl ?_
  intro p e s m args below meth c s₁ B hml hv
  obtain ⟨rfl, hsz, hP, hK, hD, hE⟩ := hv
  have hx := B.exec
  have hb := B.bytes
  have hr := B.returns
  have hts := atoms_spec (ws := wsX3_copy) B.pre
  have hown : s.vm.findClass RX3 = some m.cls := findClass_of_methodNamed B.named
  have hlocks := B.notSynchronized
  have hl := lv_entry ([.ref m0, .int cx, .int fi, .int c2, .int ti, .int mm]) (n := 12) (Nat.le_of_ble_eq_true rfl)
  rw [lg_entry_eq]
  generalize (lg_sl ([.ref m0, .int cx, .int fi, .int c2, .int ti, .int mm]) ++ List.replicate (12 - (lg_sl ([.ref m0, .int cx, .int fi, .int c2, .int ti, .int mm])).length) Slot.unset).toArray = ls at hl ⊢
  have hl : lv_has ls 12 [(0, .ref m0), (1, .int cx), (2, .int fi), (3, .int c2), (4, .int ti), (5, .int mm)] := hl
  subst hsz
  have hS : va_S A s.heap s.heap [] := va_S.rf
  have hn60 : n ≤ 60 := hI.1
  refine lv_aload_n hx hb dX3_copy_0 rfl (lv_at hl 0 rfl) ?_
  refine lv_iconst (v := 0) hx hb dX3_copy_1 (by decide) ?_
  refine va_put (D := D) (ci := 3) (fs := [.int th, .int (nI n), .ref m1, .ref m2, .ref m3, .ref m4, .int cd, .ref m5]) (v := .int 0) (ty := .int) (C := RX3) (T := TX3) (N := 8) hx hb hts (by decide +kernel) tyX3 tyX3_ok nmX3 hown hK hP hD hS 5 rfl rfl 0 (by decide) (hts (.fieldLink RX3 27 "TypedColumnsModel" "thrown" "I") (by decide +kernel)) (fun _ h9 => h9) rfl (by decide +kernel) rfl rfl (Nat.le_of_ble_eq_true rfl) dX3_copy_2 (fun H locs hP hD hS => ?_)
  have hP : va_P D vwCl (tc_Z cI cJ cD x0 x1 x2 x3 x4 Z m0 m1 m2 m3 m4 m5 0 n K Ln Wh Re cd ct) H := hP
  have hD : va_D A (tc_Z cI cJ cD x0 x1 x2 x3 x4 Z m0 m1 m2 m3 m4 m5 0 n K Ln Wh Re cd ct) := hD
  refine lv_aload_n hx hb dX3_copy_5 rfl (lv_at hl 0 rfl) ?_
  refine lv_iload_n hx hb dX3_copy_6 rfl (lv_at hl 1 rfl) ?_
  refine vp_callSi (tc_CR (va_runV (As := [.int cx]) (rest := []) ⟨hx, hb, hml, hown, hts⟩ (tX3_isColumn_n l D A cI cJ cD cC x0 x1 x2 x3 x4 Z m0 m1 m2 m3 m4 m5 0 n K Ln Wh Re cd ct H.size hI cx hc) (cwV 1 hts gX3_copy_X3_isColumn rfl rfl rfl (by decide +kernel) ⟨Nat.le_of_ble_eq_true rfl, Nat.le_of_ble_eq_true rfl⟩) ⟨tcP.blind, (va_recv hK hP (ci := 3) (q0 := 5) rfl rfl), (tcP.go hK hP hD hE hS)⟩ rfl rfl hl.1 rfl (lv_room (Nat.le_of_ble_eq_true rfl)) dX3_copy_7 ⟨Nat.le_of_ble_eq_true rfl, Nat.le_of_ble_eq_true rfl⟩)) (fun r_1 hr_1 => ?_)
  subst hr_1
  refine lv_if_eq (tgt := 21) hx hb dX3_copy_10 (by decide) (fun _ => ?_) (fun q => absurd (by decide) q)
  refine lv_aload_n hx hb dX3_copy_21 rfl (lv_at hl 0 rfl) ?_
  refine lv_iconst (v := 1) hx hb dX3_copy_22 (by decide) ?_
  refine va_calli (va_runV (As := [.int 1]) (rest := []) ⟨hx, hb, hml, hown, hts⟩ (tX3_fail l D A cI cJ cD cC x0 x1 x2 x3 x4 Z m0 m1 m2 m3 m4 m5 0 n K Ln Wh Re cd ct H.size 1) (cwV 1 hts gX3_copy_X3_fail rfl rfl rfl (by decide +kernel) ⟨Nat.le_of_ble_eq_true rfl, Nat.le_of_ble_eq_true rfl⟩) ⟨tcP.blind, (va_recv hK hP (ci := 3) (q0 := 5) rfl rfl), (tcP.go hK hP hD hE hS)⟩ rfl rfl hl.1 rfl (lv_room (Nat.le_of_ble_eq_true rfl)) dX3_copy_23 ⟨Nat.le_of_ble_eq_true rfl, Nat.le_of_ble_eq_true rfl⟩) hS (fun q _ h => h) (fun q h => h) (fun r_3 u t H locs ht hvm hw hB hz1 hk1 hS => ?_)
  subst hw
  obtain ⟨hP, hD⟩ := hB
  rw [ht] at hP
  exact W.iret (v := 0) hx hb hr (fun t9 ht9 hW9 => ⟨⟨0, (), rfl, rfl, by rw [ht9]; exact hP, hD⟩, hS.F ht9⟩) hS.2.2 dX3_copy_26
set_option maxHeartbeats 4000000 in
set_option maxRecDepth 100000 in
theorem tX3_copy_n2 (l : Launch) (D : va_G) (A : Nat → Prop) (cI cJ cD cC : ClassId) (x0 x1 x2 x3 x4 : Nat × va_E) (Z : va_W) (m0 m1 m2 m3 m4 m5 : Nat) (th : Int32) (n : Nat) (K : Nat → Int32) (Ln : Nat → Nat) (Wh : Nat → Int64) (Re : Nat → UInt64) (cd : Int32) (ct : Nat → Int32) (sz : Nat) (hI : tcI n K Ln Wh Re) (j : Nat) (hj : j < n) (fi cx ti mm : Int32) (hc : ¬ ∃ j, j < n ∧ cx = nI j) : Met l yX3_copy wsX3_copy ({ frames := 1, cells := 0, slots := 0, locals := 21 }) (tcP D A (tcTY cI cJ cD cC) sz [.ref m0, .int (nI j), .int fi, .int cx, .int ti, .int mm] (tc_Z cI cJ cD x0 x1 x2 x3 x4 Z m0 m1 m2 m3 m4 m5 th n K Ln Wh Re cd ct)) (va_Qi (fun r (_ : Unit) => r = 0) (fun _ t => tcB D A (tc_Z cI cJ cD x0 x1 x2 x3 x4 Z m0 m1 m2 m3 m4 m5 1 n K Ln Wh Re cd ct) t) A) 0 0 A := by
  refine Met.ofW (cc := cX3_copy) (maxL := 12) (ret := (some .int)) (by decide) rfl ?_
  intro p e s m args below meth c s₁ B hml hv
  obtain ⟨rfl, hsz, hP, hK, hD, hE⟩ := hv
  have hx := B.exec
  have hb := B.bytes
  have hr := B.returns
  have hts := atoms_spec (ws := wsX3_copy) B.pre
  have hown : s.vm.findClass RX3 = some m.cls := findClass_of_methodNamed B.named
  have hlocks := B.notSynchronized
  have hl := lv_entry ([.ref m0, .int (nI j), .int fi, .int cx, .int ti, .int mm]) (n := 12) (Nat.le_of_ble_eq_true rfl)
  rw [lg_entry_eq]
  generalize (lg_sl ([.ref m0, .int (nI j), .int fi, .int cx, .int ti, .int mm]) ++ List.replicate (12 - (lg_sl ([.ref m0, .int (nI j), .int fi, .int cx, .int ti, .int mm])).length) Slot.unset).toArray = ls at hl ⊢
  have hl : lv_has ls 12 [(0, .ref m0), (1, .int (nI j)), (2, .int fi), (3, .int cx), (4, .int ti), (5, .int mm)] := hl
  subst hsz
  have hS : va_S A s.heap s.heap [] := va_S.rf
  have hn60 : n ≤ 60 := hI.1
  have hkI := (hI.2.1 j hj).1
  have hL := (hI.2.1 j hj).2.1
  refine lv_aload_n hx hb dX3_copy_0 rfl (lv_at hl 0 rfl) ?_
  refine lv_iconst (v := 0) hx hb dX3_copy_1 (by decide) ?_
  refine va_put (D := D) (ci := 3) (fs := [.int th, .int (nI n), .ref m1, .ref m2, .ref m3, .ref m4, .int cd, .ref m5]) (v := .int 0) (ty := .int) (C := RX3) (T := TX3) (N := 8) hx hb hts (by decide +kernel) tyX3 tyX3_ok nmX3 hown hK hP hD hS 5 rfl rfl 0 (by decide) (hts (.fieldLink RX3 27 "TypedColumnsModel" "thrown" "I") (by decide +kernel)) (fun _ h9 => h9) rfl (by decide +kernel) rfl rfl (Nat.le_of_ble_eq_true rfl) dX3_copy_2 (fun H locs hP hD hS => ?_)
  have hP : va_P D vwCl (tc_Z cI cJ cD x0 x1 x2 x3 x4 Z m0 m1 m2 m3 m4 m5 0 n K Ln Wh Re cd ct) H := hP
  have hD : va_D A (tc_Z cI cJ cD x0 x1 x2 x3 x4 Z m0 m1 m2 m3 m4 m5 0 n K Ln Wh Re cd ct) := hD
  refine lv_aload_n hx hb dX3_copy_5 rfl (lv_at hl 0 rfl) ?_
  refine lv_iload_n hx hb dX3_copy_6 rfl (lv_at hl 1 rfl) ?_
  refine vp_callSi (tc_CR (va_runV (As := [.int (nI j)]) (rest := []) ⟨hx, hb, hml, hown, hts⟩ (tX3_isColumn_y l D A cI cJ cD cC x0 x1 x2 x3 x4 Z m0 m1 m2 m3 m4 m5 0 n K Ln Wh Re cd ct H.size hI j hj) (cwV 1 hts gX3_copy_X3_isColumn rfl rfl rfl (by decide +kernel) ⟨Nat.le_of_ble_eq_true rfl, Nat.le_of_ble_eq_true rfl⟩) ⟨tcP.blind, (va_recv hK hP (ci := 3) (q0 := 5) rfl rfl), (tcP.go hK hP hD hE hS)⟩ rfl rfl hl.1 rfl (lv_room (Nat.le_of_ble_eq_true rfl)) dX3_copy_7 ⟨Nat.le_of_ble_eq_true rfl, Nat.le_of_ble_eq_true rfl⟩)) (fun r_1 hr_1 => ?_)
  subst hr_1
  refine lv_if_eq (tgt := 21) hx hb dX3_copy_10 (by decide) (fun q => absurd q (by decide)) (fun _ => ?_)
  refine lv_aload_n hx hb dX3_copy_13 rfl (lv_at hl 0 rfl) ?_
  refine lv_iload_n hx hb dX3_copy_14 rfl (lv_at hl 3 rfl) ?_
  refine vp_callSi (tc_CR (va_runV (As := [.int cx]) (rest := []) ⟨hx, hb, hml, hown, hts⟩ (tX3_isColumn_n l D A cI cJ cD cC x0 x1 x2 x3 x4 Z m0 m1 m2 m3 m4 m5 0 n K Ln Wh Re cd ct H.size hI cx hc) (cwV 1 hts gX3_copy_X3_isColumn rfl rfl rfl (by decide +kernel) ⟨Nat.le_of_ble_eq_true rfl, Nat.le_of_ble_eq_true rfl⟩) ⟨tcP.blind, (va_recv hK hP (ci := 3) (q0 := 5) rfl rfl), (tcP.go hK hP hD hE hS)⟩ rfl rfl hl.1 rfl (lv_room (Nat.le_of_ble_eq_true rfl)) dX3_copy_15 ⟨Nat.le_of_ble_eq_true rfl, Nat.le_of_ble_eq_true rfl⟩)) (fun r_3 hr_3 => ?_)
  subst hr_3
  refine lv_if_ne (tgt := 27) hx hb dX3_copy_18 (by decide) (fun q => absurd (by decide) q) (fun _ => ?_)
  refine lv_aload_n hx hb dX3_copy_21 rfl (lv_at hl 0 rfl) ?_
  refine lv_iconst (v := 1) hx hb dX3_copy_22 (by decide) ?_
  refine va_calli (va_runV (As := [.int 1]) (rest := []) ⟨hx, hb, hml, hown, hts⟩ (tX3_fail l D A cI cJ cD cC x0 x1 x2 x3 x4 Z m0 m1 m2 m3 m4 m5 0 n K Ln Wh Re cd ct H.size 1) (cwV 1 hts gX3_copy_X3_fail rfl rfl rfl (by decide +kernel) ⟨Nat.le_of_ble_eq_true rfl, Nat.le_of_ble_eq_true rfl⟩) ⟨tcP.blind, (va_recv hK hP (ci := 3) (q0 := 5) rfl rfl), (tcP.go hK hP hD hE hS)⟩ rfl rfl hl.1 rfl (lv_room (Nat.le_of_ble_eq_true rfl)) dX3_copy_23 ⟨Nat.le_of_ble_eq_true rfl, Nat.le_of_ble_eq_true rfl⟩) hS (fun q _ h => h) (fun q h => h) (fun r_5 u t H locs ht hvm hw hB hz1 hk1 hS => ?_)
  subst hw
  obtain ⟨hP, hD⟩ := hB
  rw [ht] at hP
  exact W.iret (v := 0) hx hb hr (fun t9 ht9 hW9 => ⟨⟨0, (), rfl, rfl, by rw [ht9]; exact hP, hD⟩, hS.F ht9⟩) hS.2.2 dX3_copy_26
theorem nI_lt_iff {a b : Nat} (ha : a < 2 ^ 31) (hb : b < 2 ^ 31) : nI a < nI b ↔ a < b := by
  rw [Int32.lt_iff_toInt_lt, nI_toInt ha, nI_toInt hb]; omega
theorem nI_addE (a b : Nat) : nI (a + b) = nI a + nI b := by
  show Int32.ofNat (a + b) = Int32.ofNat a + Int32.ofNat b
  rw [Int32.ofNat_add]
section CPX
variable {K : Nat → Int32} {Ln : Nat → Nat} {j j2 : Nat} {fi ti mm : Int32}
theorem cpN (h : (decide (K j = 0) || decide (K j2 = 0)) = true) : cpC K Ln j j2 fi ti mm = 1 := by
  have e : kKinds (K j) (K j2) = 1 := by
    unfold kKinds
    by_cases h1 : K j = 0
    · rw [if_pos h1]
    · rw [if_neg h1]
      rw [decide_eq_false h1, Bool.false_or] at h
      rw [if_pos (of_decide_eq_true h)]
  unfold cpC
  rw [e, if_neg (by decide)]
theorem cpNo (h : (decide (K j = 0) || decide (K j2 = 0)) = false) : ¬ K j = 0 ∧ ¬ K j2 = 0 := by
  rw [Bool.or_eq_false_iff] at h
  exact ⟨of_decide_eq_false h.1, of_decide_eq_false h.2⟩
theorem cpA (h : (decide (K j = 0) || decide (K j2 = 0)) = false) (h2 : (decide (K j = K j2) && !decide (K j = 9)) = false) : cpC K Ln j j2 fi ti mm = 5 := by
  obtain ⟨n1, n2⟩ := cpNo h
  have e : kKinds (K j) (K j2) = 5 := by
    unfold kKinds
    rw [if_neg n1, if_neg n2]
    by_cases h3 : K j = K j2
    · rw [if_pos h3]
      rw [decide_eq_true h3, Bool.true_and] at h2
      have : K j = 9 := by
        refine Decidable.byContradiction (fun q => ?_)
        rw [decide_eq_false q] at h2; cases h2
      rw [if_pos this]
    · rw [if_neg h3]
  unfold cpC
  rw [e, if_neg (by decide)]
theorem cpE (hr : kIs (K j) = true) (h : (decide (K j = 0) || decide (K j2 = 0)) = false) (h2 : (decide (K j = K j2) && !decide (K j = 9)) = true) : kKinds (K j) (K j2) = 0 ∧ tc_cl (K j) (Ln j) = nI (Ln j) ∧ tc_cl (K j2) (Ln j2) = nI (Ln j2) := by
  obtain ⟨n1, n2⟩ := cpNo h
  rw [Bool.and_eq_true] at h2
  have h3 := of_decide_eq_true h2.1
  have h9 : ¬ K j = 9 := fun q => by rw [decide_eq_true q] at h2; cases h2.2
  have e : kKinds (K j) (K j2) = 0 := by
    unfold kKinds
    rw [if_neg n1, if_neg n2, if_pos h3, if_neg h9]
  have hh := (kKinds_0 e hr).2
  exact ⟨e, tc_cl_has hh, tc_cl_has (h3 ▸ hh)⟩
theorem cpF (hr : kIs (K j) = true) (h : (decide (K j = 0) || decide (K j2 = 0)) = false) (h2 : (decide (K j = K j2) && !decide (K j = 9)) = true) (h3 : (kPart fi mm (nI (Ln j)) && kPart ti mm (nI (Ln j2))) = false) : cpC K Ln j j2 fi ti mm = 3 := by
  obtain ⟨e, e1, e2⟩ := cpE hr h h2
  unfold cpC
  rw [if_pos e, e1, e2]
  cases q : kPart fi mm (nI (Ln j))
  · rw [if_neg (by decide)]
  · rw [if_pos rfl]
    rw [q, Bool.true_and] at h3
    rw [h3, if_neg (by decide)]
theorem cpG (hr : kIs (K j) = true) (h : (decide (K j = 0) || decide (K j2 = 0)) = false) (h2 : (decide (K j = K j2) && !decide (K j = 9)) = true) (h3 : (kPart fi mm (nI (Ln j)) && kPart ti mm (nI (Ln j2))) = true) : cpC K Ln j j2 fi ti mm = 0 := by
  obtain ⟨e, e1, e2⟩ := cpE hr h h2
  rw [Bool.and_eq_true] at h3
  unfold cpC
  rw [if_pos e, e1, e2, if_pos h3.1, if_pos h3.2]
end CPX
set_option maxHeartbeats 4000000 in
set_option maxRecDepth 100000 in
theorem tX3_copy_y (l : Launch) (D : va_G) (A : Nat → Prop) (cI cJ cD cC : ClassId) (x0 x1 x2 x3 x4 : Nat × va_E) (Z : va_W) (m0 m1 m2 m3 m4 m5 : Nat) (th : Int32) (n : Nat) (K : Nat → Int32) (Ln : Nat → Nat) (Wh : Nat → Int64) (Re : Nat → UInt64) (cd : Int32) (ct : Nat → Int32) (sz : Nat) (hI : tcI n K Ln Wh Re) (j : Nat) (hj : j < n) (j2 : Nat) (hj2 : j2 < n) (fi ti mm : Int32) : Met l yX3_copy wsX3_copy ({ frames := 1, cells := 0, slots := 0, locals := 21 }) (tcP D A (tcTY cI cJ cD cC) sz [.ref m0, .int (nI j), .int fi, .int (nI j2), .int ti, .int mm] (tc_Z cI cJ cD x0 x1 x2 x3 x4 Z m0 m1 m2 m3 m4 m5 th n K Ln Wh Re cd ct)) (va_Qi (fun r (_ : Unit) => r = cpC K Ln j j2 fi ti mm) (fun _ t => tcB D A (tc_Z cI cJ cD x0 x1 x2 x3 x4 Z m0 m1 m2 m3 m4 m5 0 n K Ln (cpW K Ln Wh j j2 fi ti mm) (cpW K Ln Re j j2 fi ti mm) (cpC K Ln j j2 fi ti mm) (noteC ct (cpC K Ln j j2 fi ti mm))) t) A) 0 0 A := by
  refine Met.ofW (cc := cX3_copy) (maxL := 12) (ret := (some .int)) (by decide) rfl ?_
  intro p e s m args below meth c s₁ B hml hv
  obtain ⟨rfl, hsz, hP, hK, hD, hE⟩ := hv
  have hx := B.exec
  have hb := B.bytes
  have hr := B.returns
  have hts := atoms_spec (ws := wsX3_copy) B.pre
  have hown : s.vm.findClass RX3 = some m.cls := findClass_of_methodNamed B.named
  have hlocks := B.notSynchronized
  have hl := lv_entry ([.ref m0, .int (nI j), .int fi, .int (nI j2), .int ti, .int mm]) (n := 12) (Nat.le_of_ble_eq_true rfl)
  rw [lg_entry_eq]
  generalize (lg_sl ([.ref m0, .int (nI j), .int fi, .int (nI j2), .int ti, .int mm]) ++ List.replicate (12 - (lg_sl ([.ref m0, .int (nI j), .int fi, .int (nI j2), .int ti, .int mm])).length) Slot.unset).toArray = ls at hl ⊢
  have hl : lv_has ls 12 [(0, .ref m0), (1, .int (nI j)), (2, .int fi), (3, .int (nI j2)), (4, .int ti), (5, .int mm)] := hl
  subst hsz
  have hS : va_S A s.heap s.heap [] := va_S.rf
  have hn60 : n ≤ 60 := hI.1
  have hkI := (hI.2.1 j hj).1
  have hL := (hI.2.1 j hj).2.1
  have hL2 := (hI.2.1 j2 hj2).2.1
  refine lv_aload_n hx hb dX3_copy_0 rfl (lv_at hl 0 rfl) ?_
  refine lv_iconst (v := 0) hx hb dX3_copy_1 (by decide) ?_
  refine va_put (D := D) (ci := 3) (fs := [.int th, .int (nI n), .ref m1, .ref m2, .ref m3, .ref m4, .int cd, .ref m5]) (v := .int 0) (ty := .int) (C := RX3) (T := TX3) (N := 8) hx hb hts (by decide +kernel) tyX3 tyX3_ok nmX3 hown hK hP hD hS 5 rfl rfl 0 (by decide) (hts (.fieldLink RX3 27 "TypedColumnsModel" "thrown" "I") (by decide +kernel)) (fun _ h9 => h9) rfl (by decide +kernel) rfl rfl (Nat.le_of_ble_eq_true rfl) dX3_copy_2 (fun H locs hP hD hS => ?_)
  have hP : va_P D vwCl (tc_Z cI cJ cD x0 x1 x2 x3 x4 Z m0 m1 m2 m3 m4 m5 0 n K Ln Wh Re cd ct) H := hP
  have hD : va_D A (tc_Z cI cJ cD x0 x1 x2 x3 x4 Z m0 m1 m2 m3 m4 m5 0 n K Ln Wh Re cd ct) := hD
  refine lv_aload_n hx hb dX3_copy_5 rfl (lv_at hl 0 rfl) ?_
  refine lv_iload_n hx hb dX3_copy_6 rfl (lv_at hl 1 rfl) ?_
  refine vp_callSi (tc_CR (va_runV (As := [.int (nI j)]) (rest := []) ⟨hx, hb, hml, hown, hts⟩ (tX3_isColumn_y l D A cI cJ cD cC x0 x1 x2 x3 x4 Z m0 m1 m2 m3 m4 m5 0 n K Ln Wh Re cd ct H.size hI j hj) (cwV 1 hts gX3_copy_X3_isColumn rfl rfl rfl (by decide +kernel) ⟨Nat.le_of_ble_eq_true rfl, Nat.le_of_ble_eq_true rfl⟩) ⟨tcP.blind, (va_recv hK hP (ci := 3) (q0 := 5) rfl rfl), (tcP.go hK hP hD hE hS)⟩ rfl rfl hl.1 rfl (lv_room (Nat.le_of_ble_eq_true rfl)) dX3_copy_7 ⟨Nat.le_of_ble_eq_true rfl, Nat.le_of_ble_eq_true rfl⟩)) (fun r_1 hr_1 => ?_)
  subst hr_1
  refine lv_if_eq (tgt := 21) hx hb dX3_copy_10 (by decide) (fun q => absurd q (by decide)) (fun _ => ?_)
  refine lv_aload_n hx hb dX3_copy_13 rfl (lv_at hl 0 rfl) ?_
  refine lv_iload_n hx hb dX3_copy_14 rfl (lv_at hl 3 rfl) ?_
  refine vp_callSi (tc_CR (va_runV (As := [.int (nI j2)]) (rest := []) ⟨hx, hb, hml, hown, hts⟩ (tX3_isColumn_y l D A cI cJ cD cC x0 x1 x2 x3 x4 Z m0 m1 m2 m3 m4 m5 0 n K Ln Wh Re cd ct H.size hI j2 hj2) (cwV 1 hts gX3_copy_X3_isColumn rfl rfl rfl (by decide +kernel) ⟨Nat.le_of_ble_eq_true rfl, Nat.le_of_ble_eq_true rfl⟩) ⟨tcP.blind, (va_recv hK hP (ci := 3) (q0 := 5) rfl rfl), (tcP.go hK hP hD hE hS)⟩ rfl rfl hl.1 rfl (lv_room (Nat.le_of_ble_eq_true rfl)) dX3_copy_15 ⟨Nat.le_of_ble_eq_true rfl, Nat.le_of_ble_eq_true rfl⟩)) (fun r_3 hr_3 => ?_)
  subst hr_3
  refine lv_if_ne (tgt := 27) hx hb dX3_copy_18 (by decide) (fun _ => ?_) (fun q => absurd q (by decide))
  refine tc_join 50 (fun ls st9 => (st9 = [.int (tb (decide (K j = 0) || decide (K j2 = 0)))]) ∧ lv_has ls 12 [(0, .ref m0), (1, .int (nI j)), (2, .int fi), (3, .int (nI j2)), (4, .int ti), (5, .int mm)]) (fun ls st9 hi9 => ?_) (fun jn => ?_)
  · obtain ⟨rfl, hl⟩ := hi9
    refine lv_istore (lv' := [(6, .int (tb (decide (K j = 0) || decide (K j2 = 0)))), (0, .ref m0), (1, .int (nI j)), (2, .int fi), (3, .int (nI j2)), (4, .int ti), (5, .int mm)]) hx hb dX3_copy_50 hl (by decide) rfl (fun ls hl => ?_)
    refine tc_join 83 (fun ls st9 => (st9 = [.int (tb (decide (K j = K j2) && !decide (K j = 9)))]) ∧ lv_has ls 12 [(6, .int (tb (decide (K j = 0) || decide (K j2 = 0)))), (0, .ref m0), (1, .int (nI j)), (2, .int fi), (3, .int (nI j2)), (4, .int ti), (5, .int mm)]) (fun ls st9 hi9 => ?_) (fun jn => ?_)
    · obtain ⟨rfl, hl⟩ := hi9
      refine lv_istore (lv' := [(7, .int (tb (decide (K j = K j2) && !decide (K j = 9)))), (6, .int (tb (decide (K j = 0) || decide (K j2 = 0)))), (0, .ref m0), (1, .int (nI j)), (2, .int fi), (3, .int (nI j2)), (4, .int ti), (5, .int mm)]) hx hb dX3_copy_83 hl (by decide) rfl (fun ls hl => ?_)
      refine tc_join 139 (fun ls st9 => (st9 = [.int (tb (kPart fi mm (nI (Ln j)) && kPart ti mm (nI (Ln j2))))]) ∧ lv_has ls 12 [(7, .int (tb (decide (K j = K j2) && !decide (K j = 9)))), (6, .int (tb (decide (K j = 0) || decide (K j2 = 0)))), (0, .ref m0), (1, .int (nI j)), (2, .int fi), (3, .int (nI j2)), (4, .int ti), (5, .int mm)]) (fun ls st9 hi9 => ?_) (fun jn => ?_)
      · obtain ⟨rfl, hl⟩ := hi9
        refine lv_istore (lv' := [(8, .int (tb (kPart fi mm (nI (Ln j)) && kPart ti mm (nI (Ln j2))))), (7, .int (tb (decide (K j = K j2) && !decide (K j = 9)))), (6, .int (tb (decide (K j = 0) || decide (K j2 = 0)))), (0, .ref m0), (1, .int (nI j)), (2, .int fi), (3, .int (nI j2)), (4, .int ti), (5, .int mm)]) hx hb dX3_copy_139 hl (by decide) rfl (fun ls hl => ?_)
        refine lv_aload_n hx hb dX3_copy_141 rfl (lv_at hl 3 rfl) ?_
        refine lv_iload hx hb dX3_copy_142 (lv_at hl 2 rfl) ?_
        refine lv_if_eq (tgt := 151) hx hb dX3_copy_144 (by decide) (fun c_5 => ?_) (fun c_5 => ?_)
        · refine lv_iload hx hb dX3_copy_151 (lv_at hl 1 rfl) ?_
          refine lv_if_ne (tgt := 160) hx hb dX3_copy_153 (by decide) (fun c_6 => ?_) (fun c_6 => ?_)
          · refine lv_iload hx hb dX3_copy_160 (lv_at hl 0 rfl) ?_
            refine lv_if_ne (tgt := 169) hx hb dX3_copy_162 (by decide) (fun c_7 => ?_) (fun c_7 => ?_)
            · refine lv_iconst (v := 0) hx hb dX3_copy_169 (by decide) ?_
              have z : cpC K Ln j j2 fi ti mm = 0 := cpG hkI ((tb_0 _).mp c_5) ((tb_1 _).mp c_6) ((tb_1 _).mp c_7)
              refine va_calli (va_runV (As := [.int 0]) (rest := []) ⟨hx, hb, hml, hown, hts⟩ (tX3_note l D A cI cJ cD cC x0 x1 x2 x3 x4 Z m0 m1 m2 m3 m4 m5 0 n K Ln Wh Re cd ct H.size 0 (z ▸ cpC_in K Ln j j2 fi ti mm)) (cwV 1 hts gX3_copy_X3_note rfl rfl rfl (by decide +kernel) ⟨Nat.le_of_ble_eq_true rfl, Nat.le_of_ble_eq_true rfl⟩) ⟨tcP.blind, (va_recv hK hP (ci := 3) (q0 := 5) rfl rfl), (tcP.go hK hP hD hE hS)⟩ rfl rfl hl.1 rfl (lv_room (Nat.le_of_ble_eq_true rfl)) dX3_copy_170 ⟨Nat.le_of_ble_eq_true rfl, Nat.le_of_ble_eq_true rfl⟩) hS (fun q _ h => h) (fun q h => h) (fun r_8 u t H locs ht hvm hw hB hz1 hk1 hS => ?_)
              subst hw
              obtain ⟨hP, hD⟩ := hB
              rw [ht] at hP
              have hP : va_P D vwCl (tc_Z cI cJ cD x0 x1 x2 x3 x4 Z m0 m1 m2 m3 m4 m5 0 n K Ln Wh Re (cpC K Ln j j2 fi ti mm) (noteC ct (cpC K Ln j j2 fi ti mm))) H := by rw [z]; exact hP
              have hD : va_D A (tc_Z cI cJ cD x0 x1 x2 x3 x4 Z m0 m1 m2 m3 m4 m5 0 n K Ln Wh Re (cpC K Ln j j2 fi ti mm) (noteC ct (cpC K Ln j j2 fi ti mm))) := by rw [z]; exact hD
              refine lv_if_ne (tgt := 181) hx hb dX3_copy_173 (by decide) (fun _ => ?_) (fun q => absurd q (by decide))
              obtain ⟨-, -, q1, q2, g1, g2⟩ := cpC_0 hkI hL hL2 z
              have s1 := kPart_spec q1 (by omega)
              have s2 := kPart_spec q2 (by omega)
              obtain ⟨a, ha, ea⟩ := nI_of s1.1
              obtain ⟨M, hM, eM⟩ := nI_of s1.2.1
              obtain ⟨b, hb9, eb⟩ := nI_of s2.1
              have ga : fi.toNatClampNeg = a := by rw [ea]; exact nI_clamp ha
              have gM : mm.toNatClampNeg = M := by rw [eM]; exact nI_clamp hM
              have gb : ti.toNatClampNeg = b := by rw [eb]; exact nI_clamp hb9
              rw [ga, gM] at g1
              rw [gb, gM] at g2
              have hl : lv_has ls 12 [(8, .int (tb (kPart fi mm (nI (Ln j)) && kPart ti mm (nI (Ln j2))))), (7, .int (tb (decide (K j = K j2) && !decide (K j = 9)))), (6, .int (tb (decide (K j = 0) || decide (K j2 = 0)))), (0, .ref m0), (1, .int (nI j)), (2, .int (nI a)), (3, .int (nI j2)), (4, .int (nI b)), (5, .int (nI M))] := by rw [← ea, ← eb, ← eM]; exact hl
              refine lv_iload_n hx hb dX3_copy_181 rfl (lv_at hl 5 rfl) ?_
              refine lv_iload hx hb dX3_copy_182 (lv_at hl 7 rfl) ?_
              refine lv_icmp_ge (tgt := 191) hx hb dX3_copy_184 (by decide) (fun c_10 => ?_) (fun c_10 => ?_)
              · refine lv_iconst (v := 0) hx hb dX3_copy_191 (by decide) ?_
                refine lv_istore (lv' := [(9, .int 0), (8, .int (tb (kPart fi mm (nI (Ln j)) && kPart ti mm (nI (Ln j2))))), (7, .int (tb (decide (K j = K j2) && !decide (K j = 9)))), (6, .int (tb (decide (K j = 0) || decide (K j2 = 0)))), (0, .ref m0), (1, .int (nI j)), (2, .int (nI a)), (3, .int (nI j2)), (4, .int (nI b)), (5, .int (nI M))]) hx hb dX3_copy_192 hl (by decide) rfl (fun ls hl => ?_)
                refine lv_iconst (v := 0) hx hb dX3_copy_194 (by decide) ?_
                refine lv_istore (lv' := [(10, .int 0), (9, .int 0), (8, .int (tb (kPart fi mm (nI (Ln j)) && kPart ti mm (nI (Ln j2))))), (7, .int (tb (decide (K j = K j2) && !decide (K j = 9)))), (6, .int (tb (decide (K j = 0) || decide (K j2 = 0)))), (0, .ref m0), (1, .int (nI j)), (2, .int (nI a)), (3, .int (nI j2)), (4, .int (nI b)), (5, .int (nI M))]) hx hb dX3_copy_195 hl (by decide) rfl (fun ls hl => ?_)
                have hab : b ≤ a := Nat.le_of_not_lt (fun q => absurd ((nI_lt_iff ha hb9).mpr q) (Int32.not_lt.mpr c_10))
                have hP : va_P D vwCl (tc_Z cI cJ cD x0 x1 x2 x3 x4 Z m0 m1 m2 m3 m4 m5 0 n K Ln (cpr (40 * j + a) (40 * j2 + b) 0 0 Wh) (cpr (40 * j + a) (40 * j2 + b) 0 0 Re) (cpC K Ln j j2 fi ti mm) (noteC ct (cpC K Ln j j2 fi ti mm))) H := by rw [cpr_0, cpr_0]; exact hP
                have hD : va_D A (tc_Z cI cJ cD x0 x1 x2 x3 x4 Z m0 m1 m2 m3 m4 m5 0 n K Ln (cpr (40 * j + a) (40 * j2 + b) 0 0 Wh) (cpr (40 * j + a) (40 * j2 + b) 0 0 Re) (cpC K Ln j j2 fi ti mm) (noteC ct (cpC K Ln j j2 fi ti mm))) := by rw [cpr_0, cpr_0]; exact hD
                have hl0 : lv_has ls 12 [(10, .int (nI 0)), (9, .int 0), (8, .int (tb (kPart fi mm (nI (Ln j)) && kPart ti mm (nI (Ln j2))))), (7, .int (tb (decide (K j = K j2) && !decide (K j = 9)))), (6, .int (tb (decide (K j = 0) || decide (K j2 = 0)))), (0, .ref m0), (1, .int (nI j)), (2, .int (nI a)), (3, .int (nI j2)), (4, .int (nI b)), (5, .int (nI M))] := lv_sub hl [0, 1, 2, 3, 4, 5, 6, 7, 8, 9, 10] rfl
                refine tc_loop (fun k9 H locs ls => ∃ i : Nat, i + k9 = M ∧ va_P D vwCl (tc_Z cI cJ cD x0 x1 x2 x3 x4 Z m0 m1 m2 m3 m4 m5 0 n K Ln (cpr (40 * j + a) (40 * j2 + b) 0 i Wh) (cpr (40 * j + a) (40 * j2 + b) 0 i Re) (cpC K Ln j j2 fi ti mm) (noteC ct (cpC K Ln j j2 fi ti mm))) H ∧ va_D A (tc_Z cI cJ cD x0 x1 x2 x3 x4 Z m0 m1 m2 m3 m4 m5 0 n K Ln (cpr (40 * j + a) (40 * j2 + b) 0 i Wh) (cpr (40 * j + a) (40 * j2 + b) 0 i Re) (cpC K Ln j j2 fi ti mm) (noteC ct (cpC K Ln j j2 fi ti mm))) ∧ va_S A s.heap H locs ∧ lv_has ls 12 [(10, .int (nI i)), (9, .int 0), (8, .int (tb (kPart fi mm (nI (Ln j)) && kPart ti mm (nI (Ln j2))))), (7, .int (tb (decide (K j = K j2) && !decide (K j = 9)))), (6, .int (tb (decide (K j = 0) || decide (K j2 = 0)))), (0, .ref m0), (1, .int (nI j)), (2, .int (nI a)), (3, .int (nI j2)), (4, .int (nI b)), (5, .int (nI M))]) (fun k9 H locs ls hi9 ih => ?_) (fun H locs ls hi9 => ?_) M ⟨0, by omega, hP, hD, hS, hl0⟩
                · obtain ⟨i, hik, hP, hD, hS, hl⟩ := hi9
                  have hiN : i < M := by omega
                  refine lv_iload hx hb dX3_copy_197 (lv_at hl 0 rfl) ?_
                  refine lv_iload hx hb dX3_copy_199 (lv_at hl 10 rfl) ?_
                  refine lv_icmp_ge (tgt := 283) hx hb dX3_copy_201 (by decide) (fun q => absurd q (nI_ge hiN hM)) (fun _ => ?_)
                  refine lv_iload hx hb dX3_copy_204 (lv_at hl 1 rfl) ?_
                  refine lv_if_eq (tgt := 219) hx hb dX3_copy_206 (by decide) (fun _ => ?_) (fun q => absurd (by decide) q)
                  refine lv_iload hx hb dX3_copy_219 (lv_at hl 0 rfl) ?_
                  refine lv_istore (lv' := [(11, .int (nI i)), (10, .int (nI i)), (9, .int 0), (8, .int (tb (kPart fi mm (nI (Ln j)) && kPart ti mm (nI (Ln j2))))), (7, .int (tb (decide (K j = K j2) && !decide (K j = 9)))), (6, .int (tb (decide (K j = 0) || decide (K j2 = 0)))), (0, .ref m0), (1, .int (nI j)), (2, .int (nI a)), (3, .int (nI j2)), (4, .int (nI b)), (5, .int (nI M))]) hx hb dX3_copy_221 hl (by decide) rfl (fun ls hl => ?_)
                  refine lv_aload_n hx hb dX3_copy_223 rfl (lv_at hl 6 rfl) ?_
                  refine va_get (D := D) (ci := 3) (fs := [.int 0, .int (nI n), .ref m1, .ref m2, .ref m3, .ref m4, .int (cpC K Ln j j2 fi ti mm), .ref m5]) (v := .ref m3) (C := RX3) (T := TX3) (N := 8) hx hb hts (by decide +kernel) hown hK hP 5 rfl rfl 4 (by decide) (hts (.fieldLink RX3 16 "TypedColumnsModel" "whole" "[J") (by decide +kernel)) (fun _ h9 => h9) rfl dX3_copy_224 ?_
                  refine lv_iload_n hx hb dX3_copy_227 rfl (lv_at hl 9 rfl) ?_
                  refine lv_iload hx hb dX3_copy_228 (lv_at hl 10 rfl) ?_
                  refine lv_iload hx hb dX3_copy_230 (lv_at hl 0 rfl) ?_
                  refine lv_iadd hx hb dX3_copy_232 ?_
                  rw [show nI b + nI i = nI (b + i) from (nI_addE b i).symm]
                  refine vp_callSi (W.runS (As := [.int (nI j2), .int (nI (b + i))]) (rest := [.ref m3]) ⟨hx, hb, hml, hown, hts⟩ (kX3_at l (nI j2) (nI (b + i))) (va_cwS 2 hts gX3_copy_X3_at rfl rfl rfl (by decide +kernel) ⟨Nat.le_of_ble_eq_true rfl, Nat.le_of_ble_eq_true rfl⟩) ⟨fun a U g mk q => q, fun U hU hW => ⟨rfl, trivial⟩⟩ rfl rfl hl.1 rfl (lv_room (Nat.le_of_ble_eq_true rfl)) dX3_copy_233 ⟨Nat.zero_le _, Nat.zero_le _⟩) (fun r_13 hr_13 => ?_)
                  subst hr_13
                  rw [at_n (j := j2) (q := b + i), ← Nat.add_assoc]
                  refine lv_aload_n hx hb dX3_copy_236 rfl (lv_at hl 6 rfl) ?_
                  refine va_get (D := D) (ci := 3) (fs := [.int 0, .int (nI n), .ref m1, .ref m2, .ref m3, .ref m4, .int (cpC K Ln j j2 fi ti mm), .ref m5]) (v := .ref m3) (C := RX3) (T := TX3) (N := 8) hx hb hts (by decide +kernel) hown hK hP 5 rfl rfl 4 (by decide) (hts (.fieldLink RX3 16 "TypedColumnsModel" "whole" "[J") (by decide +kernel)) (fun _ h9 => h9) rfl dX3_copy_237 ?_
                  refine lv_iload_n hx hb dX3_copy_240 rfl (lv_at hl 7 rfl) ?_
                  refine lv_iload_n hx hb dX3_copy_241 rfl (lv_at hl 8 rfl) ?_
                  refine lv_iload hx hb dX3_copy_242 (lv_at hl 0 rfl) ?_
                  refine lv_iadd hx hb dX3_copy_244 ?_
                  rw [show nI a + nI i = nI (a + i) from (nI_addE a i).symm]
                  refine vp_callSi (W.runS (As := [.int (nI j), .int (nI (a + i))]) (rest := [.ref m3, .int (nI (40 * j2 + b + i)), .ref m3]) ⟨hx, hb, hml, hown, hts⟩ (kX3_at l (nI j) (nI (a + i))) (va_cwS 2 hts gX3_copy_X3_at rfl rfl rfl (by decide +kernel) ⟨Nat.le_of_ble_eq_true rfl, Nat.le_of_ble_eq_true rfl⟩) ⟨fun a U g mk q => q, fun U hU hW => ⟨rfl, trivial⟩⟩ rfl rfl hl.1 rfl (lv_room (Nat.le_of_ble_eq_true rfl)) dX3_copy_245 ⟨Nat.zero_le _, Nat.zero_le _⟩) (fun r_14 hr_14 => ?_)
                  subst hr_14
                  rw [at_n (j := j) (q := a + i), ← Nat.add_assoc]
                  refine tc_lald (f := (cpr (40 * j + a) (40 * j2 + b) 0 i Wh)) (v := ((cpr (40 * j + a) (40 * j2 + b) 0 i Wh) (40 * j + a + i))) hx hb hK hP 8 1 rfl rfl (vp_in_nI (show (40 * j + a + i) < 2400 by omega) (by decide)) (by rw [nI_clamp (show (40 * j + a + i) < 2 ^ 31 by omega)]) dX3_copy_248 ?_
                  rw [cpr_out (by omega)]
                  refine va_last (f := (cpr (40 * j + a) (40 * j2 + b) 0 i Wh)) hx hb hK hP hD hS 8 1 rfl rfl (vp_in_nI (show (40 * j2 + b + i) < 2400 by omega) (by decide)) dX3_copy_249 (fun H locs hP hD hS => ?_)
                  rw [nI_clamp (show (40 * j2 + b + i) < 2 ^ 31 by omega)] at hP hD
                  have esWh := cpr_up (src := 40 * j + a) (dst := 40 * j2 + b) (i := i) (f := Wh)
                  have hP : va_P D vwCl (tc_Z cI cJ cD x0 x1 x2 x3 x4 Z m0 m1 m2 m3 m4 m5 0 n K Ln (cpr (40 * j + a) (40 * j2 + b) 0 (i + 1) Wh) (cpr (40 * j + a) (40 * j2 + b) 0 i Re) (cpC K Ln j j2 fi ti mm) (noteC ct (cpC K Ln j j2 fi ti mm))) H := by rw [← esWh]; exact hP
                  have hD : va_D A (tc_Z cI cJ cD x0 x1 x2 x3 x4 Z m0 m1 m2 m3 m4 m5 0 n K Ln (cpr (40 * j + a) (40 * j2 + b) 0 (i + 1) Wh) (cpr (40 * j + a) (40 * j2 + b) 0 i Re) (cpC K Ln j j2 fi ti mm) (noteC ct (cpC K Ln j j2 fi ti mm))) := by rw [← esWh]; exact hD
                  refine lv_aload_n hx hb dX3_copy_250 rfl (lv_at hl 6 rfl) ?_
                  refine va_get (D := D) (ci := 3) (fs := [.int 0, .int (nI n), .ref m1, .ref m2, .ref m3, .ref m4, .int (cpC K Ln j j2 fi ti mm), .ref m5]) (v := .ref m4) (C := RX3) (T := TX3) (N := 8) hx hb hts (by decide +kernel) hown hK hP 5 rfl rfl 5 (by decide) (hts (.fieldLink RX3 20 "TypedColumnsModel" "real" "[D") (by decide +kernel)) (fun _ h9 => h9) rfl dX3_copy_251 ?_
                  refine lv_iload_n hx hb dX3_copy_254 rfl (lv_at hl 9 rfl) ?_
                  refine lv_iload hx hb dX3_copy_255 (lv_at hl 10 rfl) ?_
                  refine lv_iload hx hb dX3_copy_257 (lv_at hl 0 rfl) ?_
                  refine lv_iadd hx hb dX3_copy_259 ?_
                  rw [show nI b + nI i = nI (b + i) from (nI_addE b i).symm]
                  refine vp_callSi (W.runS (As := [.int (nI j2), .int (nI (b + i))]) (rest := [.ref m4]) ⟨hx, hb, hml, hown, hts⟩ (kX3_at l (nI j2) (nI (b + i))) (va_cwS 2 hts gX3_copy_X3_at rfl rfl rfl (by decide +kernel) ⟨Nat.le_of_ble_eq_true rfl, Nat.le_of_ble_eq_true rfl⟩) ⟨fun a U g mk q => q, fun U hU hW => ⟨rfl, trivial⟩⟩ rfl rfl hl.1 rfl (lv_room (Nat.le_of_ble_eq_true rfl)) dX3_copy_260 ⟨Nat.zero_le _, Nat.zero_le _⟩) (fun r_15 hr_15 => ?_)
                  subst hr_15
                  rw [at_n (j := j2) (q := b + i), ← Nat.add_assoc]
                  refine lv_aload_n hx hb dX3_copy_263 rfl (lv_at hl 6 rfl) ?_
                  refine va_get (D := D) (ci := 3) (fs := [.int 0, .int (nI n), .ref m1, .ref m2, .ref m3, .ref m4, .int (cpC K Ln j j2 fi ti mm), .ref m5]) (v := .ref m4) (C := RX3) (T := TX3) (N := 8) hx hb hts (by decide +kernel) hown hK hP 5 rfl rfl 5 (by decide) (hts (.fieldLink RX3 20 "TypedColumnsModel" "real" "[D") (by decide +kernel)) (fun _ h9 => h9) rfl dX3_copy_264 ?_
                  refine lv_iload_n hx hb dX3_copy_267 rfl (lv_at hl 7 rfl) ?_
                  refine lv_iload_n hx hb dX3_copy_268 rfl (lv_at hl 8 rfl) ?_
                  refine lv_iload hx hb dX3_copy_269 (lv_at hl 0 rfl) ?_
                  refine lv_iadd hx hb dX3_copy_271 ?_
                  rw [show nI a + nI i = nI (a + i) from (nI_addE a i).symm]
                  refine vp_callSi (W.runS (As := [.int (nI j), .int (nI (a + i))]) (rest := [.ref m4, .int (nI (40 * j2 + b + i)), .ref m4]) ⟨hx, hb, hml, hown, hts⟩ (kX3_at l (nI j) (nI (a + i))) (va_cwS 2 hts gX3_copy_X3_at rfl rfl rfl (by decide +kernel) ⟨Nat.le_of_ble_eq_true rfl, Nat.le_of_ble_eq_true rfl⟩) ⟨fun a U g mk q => q, fun U hU hW => ⟨rfl, trivial⟩⟩ rfl rfl hl.1 rfl (lv_room (Nat.le_of_ble_eq_true rfl)) dX3_copy_272 ⟨Nat.zero_le _, Nat.zero_le _⟩) (fun r_16 hr_16 => ?_)
                  subst hr_16
                  rw [at_n (j := j) (q := a + i), ← Nat.add_assoc]
                  refine tc_dald (f := (cpr (40 * j + a) (40 * j2 + b) 0 i Re)) (v := ((cpr (40 * j + a) (40 * j2 + b) 0 i Re) (40 * j + a + i))) hx hb hK hP 9 2 rfl rfl (vp_in_nI (show (40 * j + a + i) < 2400 by omega) (by decide)) (by rw [nI_clamp (show (40 * j + a + i) < 2 ^ 31 by omega)]) dX3_copy_275 ?_
                  rw [cpr_out (by omega)]
                  refine va_dast (f := (cpr (40 * j + a) (40 * j2 + b) 0 i Re)) hx hb hK hP hD hS 9 2 rfl rfl (vp_in_nI (show (40 * j2 + b + i) < 2400 by omega) (by decide)) dX3_copy_276 (fun H locs hP hD hS => ?_)
                  rw [nI_clamp (show (40 * j2 + b + i) < 2 ^ 31 by omega)] at hP hD
                  have esRe := cpr_up (src := 40 * j + a) (dst := 40 * j2 + b) (i := i) (f := Re)
                  have hP : va_P D vwCl (tc_Z cI cJ cD x0 x1 x2 x3 x4 Z m0 m1 m2 m3 m4 m5 0 n K Ln (cpr (40 * j + a) (40 * j2 + b) 0 (i + 1) Wh) (cpr (40 * j + a) (40 * j2 + b) 0 (i + 1) Re) (cpC K Ln j j2 fi ti mm) (noteC ct (cpC K Ln j j2 fi ti mm))) H := by rw [← esRe]; exact hP
                  have hD : va_D A (tc_Z cI cJ cD x0 x1 x2 x3 x4 Z m0 m1 m2 m3 m4 m5 0 n K Ln (cpr (40 * j + a) (40 * j2 + b) 0 (i + 1) Wh) (cpr (40 * j + a) (40 * j2 + b) 0 (i + 1) Re) (cpC K Ln j j2 fi ti mm) (noteC ct (cpC K Ln j j2 fi ti mm))) := by rw [← esRe]; exact hD
                  obtain ⟨x_17, ex_17⟩ : ∃ y : Int32, y = (nI i) + (1) := ⟨_, rfl⟩
                  refine lv_iinc (v := x_17) (lv' := [(10, .int x_17), (11, .int (nI i)), (9, .int 0), (8, .int (tb (kPart fi mm (nI (Ln j)) && kPart ti mm (nI (Ln j2))))), (7, .int (tb (decide (K j = K j2) && !decide (K j = 9)))), (6, .int (tb (decide (K j = 0) || decide (K j2 = 0)))), (0, .ref m0), (1, .int (nI j)), (2, .int (nI a)), (3, .int (nI j2)), (4, .int (nI b)), (5, .int (nI M))]) hx hb dX3_copy_277 hl (k := 1) rfl (by rw [ex_17]; rfl) (by decide) rfl (fun ls hl => ?_)
                  refine lv_goto (tgt := 197) hx hb dX3_copy_280 (by decide) ?_
                  subst ex_17
                  exact ih _ _ _ ⟨i + 1, by omega, hP, hD, hS, by rw [nI_succ]; exact lv_sub hl [0, 2, 3, 4, 5, 6, 7, 8, 9, 10, 11] rfl⟩
                · obtain ⟨i, hik, hP, hD, hS, hl⟩ := hi9
                  have hiN : i = M := by omega
                  rw [hiN] at hl
                  rw [hiN] at hP hD
                  have hP : va_P D vwCl (tc_Z cI cJ cD x0 x1 x2 x3 x4 Z m0 m1 m2 m3 m4 m5 0 n K Ln (va_cpy Wh Wh (40 * j + a) (40 * j2 + b) M) (va_cpy Re Re (40 * j + a) (40 * j2 + b) M) (cpC K Ln j j2 fi ti mm) (noteC ct (cpC K Ln j j2 fi ti mm))) H := hP
                  have hD : va_D A (tc_Z cI cJ cD x0 x1 x2 x3 x4 Z m0 m1 m2 m3 m4 m5 0 n K Ln (va_cpy Wh Wh (40 * j + a) (40 * j2 + b) M) (va_cpy Re Re (40 * j + a) (40 * j2 + b) M) (cpC K Ln j j2 fi ti mm) (noteC ct (cpC K Ln j j2 fi ti mm))) := hD
                  refine lv_iload hx hb dX3_copy_197 (lv_at hl 0 rfl) ?_
                  refine lv_iload hx hb dX3_copy_199 (lv_at hl 10 rfl) ?_
                  refine lv_icmp_ge (tgt := 283) hx hb dX3_copy_201 (by decide) (fun _ => ?_) (fun q => absurd (nI_le (Nat.le_refl _) hM) q)
                  refine lv_aload_n hx hb dX3_copy_283 rfl (lv_at hl 5 rfl) ?_
                  refine va_get (D := D) (ci := 3) (fs := [.int 0, .int (nI n), .ref m1, .ref m2, .ref m3, .ref m4, .int (cpC K Ln j j2 fi ti mm), .ref m5]) (v := .int (cpC K Ln j j2 fi ti mm)) (C := RX3) (T := TX3) (N := 8) hx hb hts (by decide +kernel) hown hK hP 5 rfl rfl 6 (by decide) (hts (.fieldLink RX3 38 "TypedColumnsModel" "code" "I") (by decide +kernel)) (fun _ h9 => h9) rfl dX3_copy_284 ?_
                  have zW : cpW K Ln Wh j j2 fi ti mm = va_cpy Wh Wh (40 * j + a) (40 * j2 + b) M := by unfold cpW; rw [if_pos z, ga, gb, gM]
                  have zR : cpW K Ln Re j j2 fi ti mm = va_cpy Re Re (40 * j + a) (40 * j2 + b) M := by unfold cpW; rw [if_pos z, ga, gb, gM]
                  have hP : va_P D vwCl (tc_Z cI cJ cD x0 x1 x2 x3 x4 Z m0 m1 m2 m3 m4 m5 0 n K Ln (cpW K Ln Wh j j2 fi ti mm) (cpW K Ln Re j j2 fi ti mm) (cpC K Ln j j2 fi ti mm) (noteC ct (cpC K Ln j j2 fi ti mm))) H := by rw [zW, zR]; exact hP
                  have hD : va_D A (tc_Z cI cJ cD x0 x1 x2 x3 x4 Z m0 m1 m2 m3 m4 m5 0 n K Ln (cpW K Ln Wh j j2 fi ti mm) (cpW K Ln Re j j2 fi ti mm) (cpC K Ln j j2 fi ti mm) (noteC ct (cpC K Ln j j2 fi ti mm))) := by rw [zW, zR]; exact hD
                  exact W.iret (v := cpC K Ln j j2 fi ti mm) hx hb hr (fun t9 ht9 hW9 => ⟨⟨cpC K Ln j j2 fi ti mm, (), rfl, rfl, by rw [ht9]; exact hP, hD⟩, hS.F ht9⟩) hS.2.2 dX3_copy_287
              · refine lv_iconst (v := 1) hx hb dX3_copy_187 (by decide) ?_
                refine lv_goto (tgt := 192) hx hb dX3_copy_188 (by decide) ?_
                refine lv_istore (lv' := [(9, .int 1), (8, .int (tb (kPart fi mm (nI (Ln j)) && kPart ti mm (nI (Ln j2))))), (7, .int (tb (decide (K j = K j2) && !decide (K j = 9)))), (6, .int (tb (decide (K j = 0) || decide (K j2 = 0)))), (0, .ref m0), (1, .int (nI j)), (2, .int (nI a)), (3, .int (nI j2)), (4, .int (nI b)), (5, .int (nI M))]) hx hb dX3_copy_192 hl (by decide) rfl (fun ls hl => ?_)
                refine lv_iconst (v := 0) hx hb dX3_copy_194 (by decide) ?_
                refine lv_istore (lv' := [(10, .int 0), (9, .int 1), (8, .int (tb (kPart fi mm (nI (Ln j)) && kPart ti mm (nI (Ln j2))))), (7, .int (tb (decide (K j = K j2) && !decide (K j = 9)))), (6, .int (tb (decide (K j = 0) || decide (K j2 = 0)))), (0, .ref m0), (1, .int (nI j)), (2, .int (nI a)), (3, .int (nI j2)), (4, .int (nI b)), (5, .int (nI M))]) hx hb dX3_copy_195 hl (by decide) rfl (fun ls hl => ?_)
                have hab : a < b := (nI_lt_iff ha hb9).mp (Int32.not_le.mp c_10)
                have hP := hP
                have hP : va_P D vwCl (tc_Z cI cJ cD x0 x1 x2 x3 x4 Z m0 m1 m2 m3 m4 m5 0 n K Ln (cpr (40 * j + a) (40 * j2 + b) (M - 0) M Wh) (cpr (40 * j + a) (40 * j2 + b) (M - 0) M Re) (cpC K Ln j j2 fi ti mm) (noteC ct (cpC K Ln j j2 fi ti mm))) H := by rw [Nat.sub_zero, cpr_0, cpr_0]; exact hP
                have hD : va_D A (tc_Z cI cJ cD x0 x1 x2 x3 x4 Z m0 m1 m2 m3 m4 m5 0 n K Ln (cpr (40 * j + a) (40 * j2 + b) (M - 0) M Wh) (cpr (40 * j + a) (40 * j2 + b) (M - 0) M Re) (cpC K Ln j j2 fi ti mm) (noteC ct (cpC K Ln j j2 fi ti mm))) := by rw [Nat.sub_zero, cpr_0, cpr_0]; exact hD
                have hl0 : lv_has ls 12 [(10, .int (nI 0)), (9, .int 1), (8, .int (tb (kPart fi mm (nI (Ln j)) && kPart ti mm (nI (Ln j2))))), (7, .int (tb (decide (K j = K j2) && !decide (K j = 9)))), (6, .int (tb (decide (K j = 0) || decide (K j2 = 0)))), (0, .ref m0), (1, .int (nI j)), (2, .int (nI a)), (3, .int (nI j2)), (4, .int (nI b)), (5, .int (nI M))] := lv_sub hl [0, 1, 2, 3, 4, 5, 6, 7, 8, 9, 10] rfl
                refine tc_loop (fun k9 H locs ls => ∃ i : Nat, i + k9 = M ∧ va_P D vwCl (tc_Z cI cJ cD x0 x1 x2 x3 x4 Z m0 m1 m2 m3 m4 m5 0 n K Ln (cpr (40 * j + a) (40 * j2 + b) (M - i) M Wh) (cpr (40 * j + a) (40 * j2 + b) (M - i) M Re) (cpC K Ln j j2 fi ti mm) (noteC ct (cpC K Ln j j2 fi ti mm))) H ∧ va_D A (tc_Z cI cJ cD x0 x1 x2 x3 x4 Z m0 m1 m2 m3 m4 m5 0 n K Ln (cpr (40 * j + a) (40 * j2 + b) (M - i) M Wh) (cpr (40 * j + a) (40 * j2 + b) (M - i) M Re) (cpC K Ln j j2 fi ti mm) (noteC ct (cpC K Ln j j2 fi ti mm))) ∧ va_S A s.heap H locs ∧ lv_has ls 12 [(10, .int (nI i)), (9, .int 1), (8, .int (tb (kPart fi mm (nI (Ln j)) && kPart ti mm (nI (Ln j2))))), (7, .int (tb (decide (K j = K j2) && !decide (K j = 9)))), (6, .int (tb (decide (K j = 0) || decide (K j2 = 0)))), (0, .ref m0), (1, .int (nI j)), (2, .int (nI a)), (3, .int (nI j2)), (4, .int (nI b)), (5, .int (nI M))]) (fun k9 H locs ls hi9 ih => ?_) (fun H locs ls hi9 => ?_) M ⟨0, by omega, hP, hD, hS, hl0⟩
                · obtain ⟨i, hik, hP, hD, hS, hl⟩ := hi9
                  have hiN : i < M := by omega
                  refine lv_iload hx hb dX3_copy_197 (lv_at hl 0 rfl) ?_
                  refine lv_iload hx hb dX3_copy_199 (lv_at hl 10 rfl) ?_
                  refine lv_icmp_ge (tgt := 283) hx hb dX3_copy_201 (by decide) (fun q => absurd q (nI_ge hiN hM)) (fun _ => ?_)
                  refine lv_iload hx hb dX3_copy_204 (lv_at hl 1 rfl) ?_
                  refine lv_if_eq (tgt := 219) hx hb dX3_copy_206 (by decide) (fun q => absurd q (by decide)) (fun _ => ?_)
                  refine lv_iload hx hb dX3_copy_209 (lv_at hl 10 rfl) ?_
                  refine lv_iconst (v := 1) hx hb dX3_copy_211 (by decide) ?_
                  refine lv_isub hx hb dX3_copy_212 ?_
                  refine lv_iload hx hb dX3_copy_213 (lv_at hl 0 rfl) ?_
                  refine lv_isub hx hb dX3_copy_215 ?_
                  refine lv_goto (tgt := 221) hx hb dX3_copy_216 (by decide) ?_
                  rw [show nI M - 1 - nI i = nI (M - 1 - i) from by rw [show nI M - 1 = nI (M - 1) from pk_sub (a := M) (b := 1) (by omega), pk_sub (by omega)]]
                  refine lv_topi (fun x_21 ex_21 => ?_)
                  refine lv_istore (lv' := [(11, .int x_21), (10, .int (nI i)), (9, .int 1), (8, .int (tb (kPart fi mm (nI (Ln j)) && kPart ti mm (nI (Ln j2))))), (7, .int (tb (decide (K j = K j2) && !decide (K j = 9)))), (6, .int (tb (decide (K j = 0) || decide (K j2 = 0)))), (0, .ref m0), (1, .int (nI j)), (2, .int (nI a)), (3, .int (nI j2)), (4, .int (nI b)), (5, .int (nI M))]) hx hb dX3_copy_221 hl (by decide) rfl (fun ls hl => ?_)
                  subst ex_21
                  refine lv_aload_n hx hb dX3_copy_223 rfl (lv_at hl 6 rfl) ?_
                  refine va_get (D := D) (ci := 3) (fs := [.int 0, .int (nI n), .ref m1, .ref m2, .ref m3, .ref m4, .int (cpC K Ln j j2 fi ti mm), .ref m5]) (v := .ref m3) (C := RX3) (T := TX3) (N := 8) hx hb hts (by decide +kernel) hown hK hP 5 rfl rfl 4 (by decide) (hts (.fieldLink RX3 16 "TypedColumnsModel" "whole" "[J") (by decide +kernel)) (fun _ h9 => h9) rfl dX3_copy_224 ?_
                  refine lv_iload_n hx hb dX3_copy_227 rfl (lv_at hl 9 rfl) ?_
                  refine lv_iload hx hb dX3_copy_228 (lv_at hl 10 rfl) ?_
                  refine lv_iload hx hb dX3_copy_230 (lv_at hl 0 rfl) ?_
                  refine lv_iadd hx hb dX3_copy_232 ?_
                  rw [show nI b + nI (M - 1 - i) = nI (b + (M - 1 - i)) from (nI_addE b (M - 1 - i)).symm]
                  refine vp_callSi (W.runS (As := [.int (nI j2), .int (nI (b + (M - 1 - i)))]) (rest := [.ref m3]) ⟨hx, hb, hml, hown, hts⟩ (kX3_at l (nI j2) (nI (b + (M - 1 - i)))) (va_cwS 2 hts gX3_copy_X3_at rfl rfl rfl (by decide +kernel) ⟨Nat.le_of_ble_eq_true rfl, Nat.le_of_ble_eq_true rfl⟩) ⟨fun a U g mk q => q, fun U hU hW => ⟨rfl, trivial⟩⟩ rfl rfl hl.1 rfl (lv_room (Nat.le_of_ble_eq_true rfl)) dX3_copy_233 ⟨Nat.zero_le _, Nat.zero_le _⟩) (fun r_22 hr_22 => ?_)
                  subst hr_22
                  rw [at_n (j := j2) (q := b + (M - 1 - i)), ← Nat.add_assoc]
                  refine lv_aload_n hx hb dX3_copy_236 rfl (lv_at hl 6 rfl) ?_
                  refine va_get (D := D) (ci := 3) (fs := [.int 0, .int (nI n), .ref m1, .ref m2, .ref m3, .ref m4, .int (cpC K Ln j j2 fi ti mm), .ref m5]) (v := .ref m3) (C := RX3) (T := TX3) (N := 8) hx hb hts (by decide +kernel) hown hK hP 5 rfl rfl 4 (by decide) (hts (.fieldLink RX3 16 "TypedColumnsModel" "whole" "[J") (by decide +kernel)) (fun _ h9 => h9) rfl dX3_copy_237 ?_
                  refine lv_iload_n hx hb dX3_copy_240 rfl (lv_at hl 7 rfl) ?_
                  refine lv_iload_n hx hb dX3_copy_241 rfl (lv_at hl 8 rfl) ?_
                  refine lv_iload hx hb dX3_copy_242 (lv_at hl 0 rfl) ?_
                  refine lv_iadd hx hb dX3_copy_244 ?_
                  rw [show nI a + nI (M - 1 - i) = nI (a + (M - 1 - i)) from (nI_addE a (M - 1 - i)).symm]
                  refine vp_callSi (W.runS (As := [.int (nI j), .int (nI (a + (M - 1 - i)))]) (rest := [.ref m3, .int (nI (40 * j2 + b + (M - 1 - i))), .ref m3]) ⟨hx, hb, hml, hown, hts⟩ (kX3_at l (nI j) (nI (a + (M - 1 - i)))) (va_cwS 2 hts gX3_copy_X3_at rfl rfl rfl (by decide +kernel) ⟨Nat.le_of_ble_eq_true rfl, Nat.le_of_ble_eq_true rfl⟩) ⟨fun a U g mk q => q, fun U hU hW => ⟨rfl, trivial⟩⟩ rfl rfl hl.1 rfl (lv_room (Nat.le_of_ble_eq_true rfl)) dX3_copy_245 ⟨Nat.zero_le _, Nat.zero_le _⟩) (fun r_23 hr_23 => ?_)
                  subst hr_23
                  rw [at_n (j := j) (q := a + (M - 1 - i)), ← Nat.add_assoc]
                  refine tc_lald (f := (cpr (40 * j + a) (40 * j2 + b) (M - i) M Wh)) (v := ((cpr (40 * j + a) (40 * j2 + b) (M - i) M Wh) (40 * j + a + (M - 1 - i)))) hx hb hK hP 8 1 rfl rfl (vp_in_nI (show (40 * j + a + (M - 1 - i)) < 2400 by omega) (by decide)) (by rw [nI_clamp (show (40 * j + a + (M - 1 - i)) < 2 ^ 31 by omega)]) dX3_copy_248 ?_
                  rw [cpr_out (by omega)]
                  refine va_last (f := (cpr (40 * j + a) (40 * j2 + b) (M - i) M Wh)) hx hb hK hP hD hS 8 1 rfl rfl (vp_in_nI (show (40 * j2 + b + (M - 1 - i)) < 2400 by omega) (by decide)) dX3_copy_249 (fun H locs hP hD hS => ?_)
                  rw [nI_clamp (show (40 * j2 + b + (M - 1 - i)) < 2 ^ 31 by omega)] at hP hD
                  have esWh := cpr_dn (src := 40 * j + a) (dst := 40 * j2 + b) (k := M - 1 - i) (M := M) (f := Wh) (by omega)
                  rw [show M - 1 - i + 1 = M - i from by omega] at esWh
                  have hP : va_P D vwCl (tc_Z cI cJ cD x0 x1 x2 x3 x4 Z m0 m1 m2 m3 m4 m5 0 n K Ln (cpr (40 * j + a) (40 * j2 + b) (M - 1 - i) M Wh) (cpr (40 * j + a) (40 * j2 + b) (M - i) M Re) (cpC K Ln j j2 fi ti mm) (noteC ct (cpC K Ln j j2 fi ti mm))) H := by rw [← esWh]; exact hP
                  have hD : va_D A (tc_Z cI cJ cD x0 x1 x2 x3 x4 Z m0 m1 m2 m3 m4 m5 0 n K Ln (cpr (40 * j + a) (40 * j2 + b) (M - 1 - i) M Wh) (cpr (40 * j + a) (40 * j2 + b) (M - i) M Re) (cpC K Ln j j2 fi ti mm) (noteC ct (cpC K Ln j j2 fi ti mm))) := by rw [← esWh]; exact hD
                  refine lv_aload_n hx hb dX3_copy_250 rfl (lv_at hl 6 rfl) ?_
                  refine va_get (D := D) (ci := 3) (fs := [.int 0, .int (nI n), .ref m1, .ref m2, .ref m3, .ref m4, .int (cpC K Ln j j2 fi ti mm), .ref m5]) (v := .ref m4) (C := RX3) (T := TX3) (N := 8) hx hb hts (by decide +kernel) hown hK hP 5 rfl rfl 5 (by decide) (hts (.fieldLink RX3 20 "TypedColumnsModel" "real" "[D") (by decide +kernel)) (fun _ h9 => h9) rfl dX3_copy_251 ?_
                  refine lv_iload_n hx hb dX3_copy_254 rfl (lv_at hl 9 rfl) ?_
                  refine lv_iload hx hb dX3_copy_255 (lv_at hl 10 rfl) ?_
                  refine lv_iload hx hb dX3_copy_257 (lv_at hl 0 rfl) ?_
                  refine lv_iadd hx hb dX3_copy_259 ?_
                  rw [show nI b + nI (M - 1 - i) = nI (b + (M - 1 - i)) from (nI_addE b (M - 1 - i)).symm]
                  refine vp_callSi (W.runS (As := [.int (nI j2), .int (nI (b + (M - 1 - i)))]) (rest := [.ref m4]) ⟨hx, hb, hml, hown, hts⟩ (kX3_at l (nI j2) (nI (b + (M - 1 - i)))) (va_cwS 2 hts gX3_copy_X3_at rfl rfl rfl (by decide +kernel) ⟨Nat.le_of_ble_eq_true rfl, Nat.le_of_ble_eq_true rfl⟩) ⟨fun a U g mk q => q, fun U hU hW => ⟨rfl, trivial⟩⟩ rfl rfl hl.1 rfl (lv_room (Nat.le_of_ble_eq_true rfl)) dX3_copy_260 ⟨Nat.zero_le _, Nat.zero_le _⟩) (fun r_24 hr_24 => ?_)
                  subst hr_24
                  rw [at_n (j := j2) (q := b + (M - 1 - i)), ← Nat.add_assoc]
                  refine lv_aload_n hx hb dX3_copy_263 rfl (lv_at hl 6 rfl) ?_
                  refine va_get (D := D) (ci := 3) (fs := [.int 0, .int (nI n), .ref m1, .ref m2, .ref m3, .ref m4, .int (cpC K Ln j j2 fi ti mm), .ref m5]) (v := .ref m4) (C := RX3) (T := TX3) (N := 8) hx hb hts (by decide +kernel) hown hK hP 5 rfl rfl 5 (by decide) (hts (.fieldLink RX3 20 "TypedColumnsModel" "real" "[D") (by decide +kernel)) (fun _ h9 => h9) rfl dX3_copy_264 ?_
                  refine lv_iload_n hx hb dX3_copy_267 rfl (lv_at hl 7 rfl) ?_
                  refine lv_iload_n hx hb dX3_copy_268 rfl (lv_at hl 8 rfl) ?_
                  refine lv_iload hx hb dX3_copy_269 (lv_at hl 0 rfl) ?_
                  refine lv_iadd hx hb dX3_copy_271 ?_
                  rw [show nI a + nI (M - 1 - i) = nI (a + (M - 1 - i)) from (nI_addE a (M - 1 - i)).symm]
                  refine vp_callSi (W.runS (As := [.int (nI j), .int (nI (a + (M - 1 - i)))]) (rest := [.ref m4, .int (nI (40 * j2 + b + (M - 1 - i))), .ref m4]) ⟨hx, hb, hml, hown, hts⟩ (kX3_at l (nI j) (nI (a + (M - 1 - i)))) (va_cwS 2 hts gX3_copy_X3_at rfl rfl rfl (by decide +kernel) ⟨Nat.le_of_ble_eq_true rfl, Nat.le_of_ble_eq_true rfl⟩) ⟨fun a U g mk q => q, fun U hU hW => ⟨rfl, trivial⟩⟩ rfl rfl hl.1 rfl (lv_room (Nat.le_of_ble_eq_true rfl)) dX3_copy_272 ⟨Nat.zero_le _, Nat.zero_le _⟩) (fun r_25 hr_25 => ?_)
                  subst hr_25
                  rw [at_n (j := j) (q := a + (M - 1 - i)), ← Nat.add_assoc]
                  refine tc_dald (f := (cpr (40 * j + a) (40 * j2 + b) (M - i) M Re)) (v := ((cpr (40 * j + a) (40 * j2 + b) (M - i) M Re) (40 * j + a + (M - 1 - i)))) hx hb hK hP 9 2 rfl rfl (vp_in_nI (show (40 * j + a + (M - 1 - i)) < 2400 by omega) (by decide)) (by rw [nI_clamp (show (40 * j + a + (M - 1 - i)) < 2 ^ 31 by omega)]) dX3_copy_275 ?_
                  rw [cpr_out (by omega)]
                  refine va_dast (f := (cpr (40 * j + a) (40 * j2 + b) (M - i) M Re)) hx hb hK hP hD hS 9 2 rfl rfl (vp_in_nI (show (40 * j2 + b + (M - 1 - i)) < 2400 by omega) (by decide)) dX3_copy_276 (fun H locs hP hD hS => ?_)
                  rw [nI_clamp (show (40 * j2 + b + (M - 1 - i)) < 2 ^ 31 by omega)] at hP hD
                  have esRe := cpr_dn (src := 40 * j + a) (dst := 40 * j2 + b) (k := M - 1 - i) (M := M) (f := Re) (by omega)
                  rw [show M - 1 - i + 1 = M - i from by omega] at esRe
                  have hP : va_P D vwCl (tc_Z cI cJ cD x0 x1 x2 x3 x4 Z m0 m1 m2 m3 m4 m5 0 n K Ln (cpr (40 * j + a) (40 * j2 + b) (M - 1 - i) M Wh) (cpr (40 * j + a) (40 * j2 + b) (M - 1 - i) M Re) (cpC K Ln j j2 fi ti mm) (noteC ct (cpC K Ln j j2 fi ti mm))) H := by rw [← esRe]; exact hP
                  have hD : va_D A (tc_Z cI cJ cD x0 x1 x2 x3 x4 Z m0 m1 m2 m3 m4 m5 0 n K Ln (cpr (40 * j + a) (40 * j2 + b) (M - 1 - i) M Wh) (cpr (40 * j + a) (40 * j2 + b) (M - 1 - i) M Re) (cpC K Ln j j2 fi ti mm) (noteC ct (cpC K Ln j j2 fi ti mm))) := by rw [← esRe]; exact hD
                  obtain ⟨x_26, ex_26⟩ : ∃ y : Int32, y = (nI i) + (1) := ⟨_, rfl⟩
                  refine lv_iinc (v := x_26) (lv' := [(10, .int x_26), (11, .int (nI (M - 1 - i))), (9, .int 1), (8, .int (tb (kPart fi mm (nI (Ln j)) && kPart ti mm (nI (Ln j2))))), (7, .int (tb (decide (K j = K j2) && !decide (K j = 9)))), (6, .int (tb (decide (K j = 0) || decide (K j2 = 0)))), (0, .ref m0), (1, .int (nI j)), (2, .int (nI a)), (3, .int (nI j2)), (4, .int (nI b)), (5, .int (nI M))]) hx hb dX3_copy_277 hl (k := 1) rfl (by rw [ex_26]; rfl) (by decide) rfl (fun ls hl => ?_)
                  refine lv_goto (tgt := 197) hx hb dX3_copy_280 (by decide) ?_
                  subst ex_26
                  have eMi : M - (i + 1) = M - 1 - i := by omega
                  rw [← eMi] at hP hD
                  exact ih _ _ _ ⟨i + 1, by omega, hP, hD, hS, by rw [nI_succ]; exact lv_sub hl [0, 2, 3, 4, 5, 6, 7, 8, 9, 10, 11] rfl⟩
                · obtain ⟨i, hik, hP, hD, hS, hl⟩ := hi9
                  have hiN : i = M := by omega
                  rw [hiN] at hl
                  rw [hiN] at hP hD
                  rw [Nat.sub_self] at hP hD
                  have hP : va_P D vwCl (tc_Z cI cJ cD x0 x1 x2 x3 x4 Z m0 m1 m2 m3 m4 m5 0 n K Ln (va_cpy Wh Wh (40 * j + a) (40 * j2 + b) M) (va_cpy Re Re (40 * j + a) (40 * j2 + b) M) (cpC K Ln j j2 fi ti mm) (noteC ct (cpC K Ln j j2 fi ti mm))) H := hP
                  have hD : va_D A (tc_Z cI cJ cD x0 x1 x2 x3 x4 Z m0 m1 m2 m3 m4 m5 0 n K Ln (va_cpy Wh Wh (40 * j + a) (40 * j2 + b) M) (va_cpy Re Re (40 * j + a) (40 * j2 + b) M) (cpC K Ln j j2 fi ti mm) (noteC ct (cpC K Ln j j2 fi ti mm))) := hD
                  refine lv_iload hx hb dX3_copy_197 (lv_at hl 0 rfl) ?_
                  refine lv_iload hx hb dX3_copy_199 (lv_at hl 10 rfl) ?_
                  refine lv_icmp_ge (tgt := 283) hx hb dX3_copy_201 (by decide) (fun _ => ?_) (fun q => absurd (nI_le (Nat.le_refl _) hM) q)
                  refine lv_aload_n hx hb dX3_copy_283 rfl (lv_at hl 5 rfl) ?_
                  refine va_get (D := D) (ci := 3) (fs := [.int 0, .int (nI n), .ref m1, .ref m2, .ref m3, .ref m4, .int (cpC K Ln j j2 fi ti mm), .ref m5]) (v := .int (cpC K Ln j j2 fi ti mm)) (C := RX3) (T := TX3) (N := 8) hx hb hts (by decide +kernel) hown hK hP 5 rfl rfl 6 (by decide) (hts (.fieldLink RX3 38 "TypedColumnsModel" "code" "I") (by decide +kernel)) (fun _ h9 => h9) rfl dX3_copy_284 ?_
                  have zW : cpW K Ln Wh j j2 fi ti mm = va_cpy Wh Wh (40 * j + a) (40 * j2 + b) M := by unfold cpW; rw [if_pos z, ga, gb, gM]
                  have zR : cpW K Ln Re j j2 fi ti mm = va_cpy Re Re (40 * j + a) (40 * j2 + b) M := by unfold cpW; rw [if_pos z, ga, gb, gM]
                  have hP : va_P D vwCl (tc_Z cI cJ cD x0 x1 x2 x3 x4 Z m0 m1 m2 m3 m4 m5 0 n K Ln (cpW K Ln Wh j j2 fi ti mm) (cpW K Ln Re j j2 fi ti mm) (cpC K Ln j j2 fi ti mm) (noteC ct (cpC K Ln j j2 fi ti mm))) H := by rw [zW, zR]; exact hP
                  have hD : va_D A (tc_Z cI cJ cD x0 x1 x2 x3 x4 Z m0 m1 m2 m3 m4 m5 0 n K Ln (cpW K Ln Wh j j2 fi ti mm) (cpW K Ln Re j j2 fi ti mm) (cpC K Ln j j2 fi ti mm) (noteC ct (cpC K Ln j j2 fi ti mm))) := by rw [zW, zR]; exact hD
                  exact W.iret (v := cpC K Ln j j2 fi ti mm) hx hb hr (fun t9 ht9 hW9 => ⟨⟨cpC K Ln j j2 fi ti mm, (), rfl, rfl, by rw [ht9]; exact hP, hD⟩, hS.F ht9⟩) hS.2.2 dX3_copy_287
            · refine lv_iconst (v := 3) hx hb dX3_copy_165 (by decide) ?_
              refine lv_goto (tgt := 170) hx hb dX3_copy_166 (by decide) ?_
              have z : cpC K Ln j j2 fi ti mm = 3 := cpF hkI ((tb_0 _).mp c_5) ((tb_1 _).mp c_6) ((tb_0 _).mp c_7)
              refine va_calli (va_runV (As := [.int 3]) (rest := []) ⟨hx, hb, hml, hown, hts⟩ (tX3_note l D A cI cJ cD cC x0 x1 x2 x3 x4 Z m0 m1 m2 m3 m4 m5 0 n K Ln Wh Re cd ct H.size 3 (z ▸ cpC_in K Ln j j2 fi ti mm)) (cwV 1 hts gX3_copy_X3_note rfl rfl rfl (by decide +kernel) ⟨Nat.le_of_ble_eq_true rfl, Nat.le_of_ble_eq_true rfl⟩) ⟨tcP.blind, (va_recv hK hP (ci := 3) (q0 := 5) rfl rfl), (tcP.go hK hP hD hE hS)⟩ rfl rfl hl.1 rfl (lv_room (Nat.le_of_ble_eq_true rfl)) dX3_copy_170 ⟨Nat.le_of_ble_eq_true rfl, Nat.le_of_ble_eq_true rfl⟩) hS (fun q _ h => h) (fun q h => h) (fun r_28 u t H locs ht hvm hw hB hz1 hk1 hS => ?_)
              subst hw
              obtain ⟨hP, hD⟩ := hB
              rw [ht] at hP
              have hP : va_P D vwCl (tc_Z cI cJ cD x0 x1 x2 x3 x4 Z m0 m1 m2 m3 m4 m5 0 n K Ln Wh Re (cpC K Ln j j2 fi ti mm) (noteC ct (cpC K Ln j j2 fi ti mm))) H := by rw [z]; exact hP
              have hD : va_D A (tc_Z cI cJ cD x0 x1 x2 x3 x4 Z m0 m1 m2 m3 m4 m5 0 n K Ln Wh Re (cpC K Ln j j2 fi ti mm) (noteC ct (cpC K Ln j j2 fi ti mm))) := by rw [z]; exact hD
              refine lv_if_ne (tgt := 181) hx hb dX3_copy_173 (by decide) (fun q => absurd (by decide) q) (fun _ => ?_)
              refine lv_aload_n hx hb dX3_copy_176 rfl (lv_at hl 3 rfl) ?_
              refine va_get (D := D) (ci := 3) (fs := [.int 0, .int (nI n), .ref m1, .ref m2, .ref m3, .ref m4, .int (cpC K Ln j j2 fi ti mm), .ref m5]) (v := .int (cpC K Ln j j2 fi ti mm)) (C := RX3) (T := TX3) (N := 8) hx hb hts (by decide +kernel) hown hK hP 5 rfl rfl 6 (by decide) (hts (.fieldLink RX3 38 "TypedColumnsModel" "code" "I") (by decide +kernel)) (fun _ h9 => h9) rfl dX3_copy_177 ?_
              have zn : ¬ cpC K Ln j j2 fi ti mm = 0 := by rw [z]; decide
              have zW : cpW K Ln Wh j j2 fi ti mm = Wh := by unfold cpW; rw [if_neg zn]
              have zR : cpW K Ln Re j j2 fi ti mm = Re := by unfold cpW; rw [if_neg zn]
              have hP : va_P D vwCl (tc_Z cI cJ cD x0 x1 x2 x3 x4 Z m0 m1 m2 m3 m4 m5 0 n K Ln (cpW K Ln Wh j j2 fi ti mm) (cpW K Ln Re j j2 fi ti mm) (cpC K Ln j j2 fi ti mm) (noteC ct (cpC K Ln j j2 fi ti mm))) H := by rw [zW, zR]; exact hP
              have hD : va_D A (tc_Z cI cJ cD x0 x1 x2 x3 x4 Z m0 m1 m2 m3 m4 m5 0 n K Ln (cpW K Ln Wh j j2 fi ti mm) (cpW K Ln Re j j2 fi ti mm) (cpC K Ln j j2 fi ti mm) (noteC ct (cpC K Ln j j2 fi ti mm))) := by rw [zW, zR]; exact hD
              exact W.iret (v := cpC K Ln j j2 fi ti mm) hx hb hr (fun t9 ht9 hW9 => ⟨⟨cpC K Ln j j2 fi ti mm, (), rfl, rfl, by rw [ht9]; exact hP, hD⟩, hS.F ht9⟩) hS.2.2 dX3_copy_180
          · refine lv_iconst (v := 5) hx hb dX3_copy_156 (by decide) ?_
            refine lv_goto (tgt := 170) hx hb dX3_copy_157 (by decide) ?_
            have z : cpC K Ln j j2 fi ti mm = 5 := cpA ((tb_0 _).mp c_5) ((tb_0 _).mp c_6)
            refine va_calli (va_runV (As := [.int 5]) (rest := []) ⟨hx, hb, hml, hown, hts⟩ (tX3_note l D A cI cJ cD cC x0 x1 x2 x3 x4 Z m0 m1 m2 m3 m4 m5 0 n K Ln Wh Re cd ct H.size 5 (z ▸ cpC_in K Ln j j2 fi ti mm)) (cwV 1 hts gX3_copy_X3_note rfl rfl rfl (by decide +kernel) ⟨Nat.le_of_ble_eq_true rfl, Nat.le_of_ble_eq_true rfl⟩) ⟨tcP.blind, (va_recv hK hP (ci := 3) (q0 := 5) rfl rfl), (tcP.go hK hP hD hE hS)⟩ rfl rfl hl.1 rfl (lv_room (Nat.le_of_ble_eq_true rfl)) dX3_copy_170 ⟨Nat.le_of_ble_eq_true rfl, Nat.le_of_ble_eq_true rfl⟩) hS (fun q _ h => h) (fun q h => h) (fun r_30 u t H locs ht hvm hw hB hz1 hk1 hS => ?_)
            subst hw
            obtain ⟨hP, hD⟩ := hB
            rw [ht] at hP
            have hP : va_P D vwCl (tc_Z cI cJ cD x0 x1 x2 x3 x4 Z m0 m1 m2 m3 m4 m5 0 n K Ln Wh Re (cpC K Ln j j2 fi ti mm) (noteC ct (cpC K Ln j j2 fi ti mm))) H := by rw [z]; exact hP
            have hD : va_D A (tc_Z cI cJ cD x0 x1 x2 x3 x4 Z m0 m1 m2 m3 m4 m5 0 n K Ln Wh Re (cpC K Ln j j2 fi ti mm) (noteC ct (cpC K Ln j j2 fi ti mm))) := by rw [z]; exact hD
            refine lv_if_ne (tgt := 181) hx hb dX3_copy_173 (by decide) (fun q => absurd (by decide) q) (fun _ => ?_)
            refine lv_aload_n hx hb dX3_copy_176 rfl (lv_at hl 3 rfl) ?_
            refine va_get (D := D) (ci := 3) (fs := [.int 0, .int (nI n), .ref m1, .ref m2, .ref m3, .ref m4, .int (cpC K Ln j j2 fi ti mm), .ref m5]) (v := .int (cpC K Ln j j2 fi ti mm)) (C := RX3) (T := TX3) (N := 8) hx hb hts (by decide +kernel) hown hK hP 5 rfl rfl 6 (by decide) (hts (.fieldLink RX3 38 "TypedColumnsModel" "code" "I") (by decide +kernel)) (fun _ h9 => h9) rfl dX3_copy_177 ?_
            have zn : ¬ cpC K Ln j j2 fi ti mm = 0 := by rw [z]; decide
            have zW : cpW K Ln Wh j j2 fi ti mm = Wh := by unfold cpW; rw [if_neg zn]
            have zR : cpW K Ln Re j j2 fi ti mm = Re := by unfold cpW; rw [if_neg zn]
            have hP : va_P D vwCl (tc_Z cI cJ cD x0 x1 x2 x3 x4 Z m0 m1 m2 m3 m4 m5 0 n K Ln (cpW K Ln Wh j j2 fi ti mm) (cpW K Ln Re j j2 fi ti mm) (cpC K Ln j j2 fi ti mm) (noteC ct (cpC K Ln j j2 fi ti mm))) H := by rw [zW, zR]; exact hP
            have hD : va_D A (tc_Z cI cJ cD x0 x1 x2 x3 x4 Z m0 m1 m2 m3 m4 m5 0 n K Ln (cpW K Ln Wh j j2 fi ti mm) (cpW K Ln Re j j2 fi ti mm) (cpC K Ln j j2 fi ti mm) (noteC ct (cpC K Ln j j2 fi ti mm))) := by rw [zW, zR]; exact hD
            exact W.iret (v := cpC K Ln j j2 fi ti mm) hx hb hr (fun t9 ht9 hW9 => ⟨⟨cpC K Ln j j2 fi ti mm, (), rfl, rfl, by rw [ht9]; exact hP, hD⟩, hS.F ht9⟩) hS.2.2 dX3_copy_180
        · refine lv_iconst (v := 1) hx hb dX3_copy_147 (by decide) ?_
          refine lv_goto (tgt := 170) hx hb dX3_copy_148 (by decide) ?_
          have z : cpC K Ln j j2 fi ti mm = 1 := cpN ((tb_1 _).mp c_5)
          refine va_calli (va_runV (As := [.int 1]) (rest := []) ⟨hx, hb, hml, hown, hts⟩ (tX3_note l D A cI cJ cD cC x0 x1 x2 x3 x4 Z m0 m1 m2 m3 m4 m5 0 n K Ln Wh Re cd ct H.size 1 (z ▸ cpC_in K Ln j j2 fi ti mm)) (cwV 1 hts gX3_copy_X3_note rfl rfl rfl (by decide +kernel) ⟨Nat.le_of_ble_eq_true rfl, Nat.le_of_ble_eq_true rfl⟩) ⟨tcP.blind, (va_recv hK hP (ci := 3) (q0 := 5) rfl rfl), (tcP.go hK hP hD hE hS)⟩ rfl rfl hl.1 rfl (lv_room (Nat.le_of_ble_eq_true rfl)) dX3_copy_170 ⟨Nat.le_of_ble_eq_true rfl, Nat.le_of_ble_eq_true rfl⟩) hS (fun q _ h => h) (fun q h => h) (fun r_32 u t H locs ht hvm hw hB hz1 hk1 hS => ?_)
          subst hw
          obtain ⟨hP, hD⟩ := hB
          rw [ht] at hP
          have hP : va_P D vwCl (tc_Z cI cJ cD x0 x1 x2 x3 x4 Z m0 m1 m2 m3 m4 m5 0 n K Ln Wh Re (cpC K Ln j j2 fi ti mm) (noteC ct (cpC K Ln j j2 fi ti mm))) H := by rw [z]; exact hP
          have hD : va_D A (tc_Z cI cJ cD x0 x1 x2 x3 x4 Z m0 m1 m2 m3 m4 m5 0 n K Ln Wh Re (cpC K Ln j j2 fi ti mm) (noteC ct (cpC K Ln j j2 fi ti mm))) := by rw [z]; exact hD
          refine lv_if_ne (tgt := 181) hx hb dX3_copy_173 (by decide) (fun q => absurd (by decide) q) (fun _ => ?_)
          refine lv_aload_n hx hb dX3_copy_176 rfl (lv_at hl 3 rfl) ?_
          refine va_get (D := D) (ci := 3) (fs := [.int 0, .int (nI n), .ref m1, .ref m2, .ref m3, .ref m4, .int (cpC K Ln j j2 fi ti mm), .ref m5]) (v := .int (cpC K Ln j j2 fi ti mm)) (C := RX3) (T := TX3) (N := 8) hx hb hts (by decide +kernel) hown hK hP 5 rfl rfl 6 (by decide) (hts (.fieldLink RX3 38 "TypedColumnsModel" "code" "I") (by decide +kernel)) (fun _ h9 => h9) rfl dX3_copy_177 ?_
          have zn : ¬ cpC K Ln j j2 fi ti mm = 0 := by rw [z]; decide
          have zW : cpW K Ln Wh j j2 fi ti mm = Wh := by unfold cpW; rw [if_neg zn]
          have zR : cpW K Ln Re j j2 fi ti mm = Re := by unfold cpW; rw [if_neg zn]
          have hP : va_P D vwCl (tc_Z cI cJ cD x0 x1 x2 x3 x4 Z m0 m1 m2 m3 m4 m5 0 n K Ln (cpW K Ln Wh j j2 fi ti mm) (cpW K Ln Re j j2 fi ti mm) (cpC K Ln j j2 fi ti mm) (noteC ct (cpC K Ln j j2 fi ti mm))) H := by rw [zW, zR]; exact hP
          have hD : va_D A (tc_Z cI cJ cD x0 x1 x2 x3 x4 Z m0 m1 m2 m3 m4 m5 0 n K Ln (cpW K Ln Wh j j2 fi ti mm) (cpW K Ln Re j j2 fi ti mm) (cpC K Ln j j2 fi ti mm) (noteC ct (cpC K Ln j j2 fi ti mm))) := by rw [zW, zR]; exact hD
          exact W.iret (v := cpC K Ln j j2 fi ti mm) hx hb hr (fun t9 ht9 hW9 => ⟨⟨cpC K Ln j j2 fi ti mm, (), rfl, rfl, by rw [ht9]; exact hP, hD⟩, hS.F ht9⟩) hS.2.2 dX3_copy_180
      · refine lv_iload_n hx hb dX3_copy_85 rfl (lv_at hl 4 rfl) ?_
        refine lv_if_lt (tgt := 138) hx hb dX3_copy_86 (by decide) (fun c_34 => ?_) (fun c_34 => ?_)
        · refine lv_iconst (v := 0) hx hb dX3_copy_138 (by decide) ?_
          exact jn _ _ ⟨(congrArg (fun z : Int32 => [Value.int z]) (show 0 = tb (kPart fi mm (nI (Ln j)) && kPart ti mm (nI (Ln j2))) from by rw [kPart_l c_34]; rfl)), lv_sub hl [0, 1, 2, 3, 4, 5, 6, 7] rfl⟩
        · refine lv_iload hx hb dX3_copy_89 (lv_at hl 6 rfl) ?_
          refine lv_if_lt (tgt := 138) hx hb dX3_copy_91 (by decide) (fun c_35 => ?_) (fun c_35 => ?_)
          · refine lv_iconst (v := 0) hx hb dX3_copy_138 (by decide) ?_
            exact jn _ _ ⟨(congrArg (fun z : Int32 => [Value.int z]) (show 0 = tb (kPart fi mm (nI (Ln j)) && kPart ti mm (nI (Ln j2))) from by rw [kPart_l (a := ti) c_35]; cases kPart fi mm (nI (Ln j)) <;> rfl)), lv_sub hl [0, 1, 2, 3, 4, 5, 6, 7] rfl⟩
          · refine lv_iload hx hb dX3_copy_94 (lv_at hl 7 rfl) ?_
            refine lv_if_lt (tgt := 138) hx hb dX3_copy_96 (by decide) (fun c_36 => ?_) (fun c_36 => ?_)
            · refine lv_iconst (v := 0) hx hb dX3_copy_138 (by decide) ?_
              exact jn _ _ ⟨(congrArg (fun z : Int32 => [Value.int z]) (show 0 = tb (kPart fi mm (nI (Ln j)) && kPart ti mm (nI (Ln j2))) from by rw [kPart_m (a := fi) c_36]; rfl)), lv_sub hl [0, 1, 2, 3, 4, 5, 6, 7] rfl⟩
            · refine lv_iload_n hx hb dX3_copy_99 rfl (lv_at hl 4 rfl) ?_
              refine lv_i2l (v := fi.toInt64) hx hb dX3_copy_100 rfl ?_
              refine lv_iload hx hb dX3_copy_101 (lv_at hl 7 rfl) ?_
              refine lv_i2l (v := mm.toInt64) hx hb dX3_copy_103 rfl ?_
              refine lv_ladd hx hb dX3_copy_104 ?_
              refine lv_aload_n hx hb dX3_copy_105 rfl (lv_at hl 2 rfl) ?_
              refine va_get (D := D) (ci := 3) (fs := [.int 0, .int (nI n), .ref m1, .ref m2, .ref m3, .ref m4, .int cd, .ref m5]) (v := .ref m2) (C := RX3) (T := TX3) (N := 8) hx hb hts (by decide +kernel) hown hK hP 5 rfl rfl 3 (by decide) (hts (.fieldLink RX3 13 "TypedColumnsModel" "lengths" "[I") (by decide +kernel)) (fun _ h9 => h9) rfl dX3_copy_106 ?_
              refine lv_iload_n hx hb dX3_copy_109 rfl (lv_at hl 3 rfl) ?_
              refine tc_iald (f := (fun t8 => nI (Ln t8))) (v := (nI (Ln j))) hx hb hK hP 7 0 rfl rfl (vp_in_nI (show j < 60 by omega) (by decide)) (by rw [nI_clamp (show j < 2 ^ 31 by omega)]) dX3_copy_110 ?_
              refine lv_i2l (v := (nI (Ln j)).toInt64) hx hb dX3_copy_111 rfl ?_
              refine W.lcmp hx hb dX3_copy_112 ?_
              refine lv_if_gt (tgt := 138) hx hb dX3_copy_113 (by decide) (fun c_37 => ?_) (fun c_37 => ?_)
              · refine lv_iconst (v := 0) hx hb dX3_copy_138 (by decide) ?_
                exact jn _ _ ⟨(congrArg (fun z : Int32 => [Value.int z]) (show 0 = tb (kPart fi mm (nI (Ln j)) && kPart ti mm (nI (Ln j2))) from by rw [(fitL c_34 c_36 hL).mp c_37]; rfl)), lv_sub hl [0, 1, 2, 3, 4, 5, 6, 7] rfl⟩
              · refine lv_iload hx hb dX3_copy_116 (lv_at hl 6 rfl) ?_
                refine lv_i2l (v := ti.toInt64) hx hb dX3_copy_118 rfl ?_
                refine lv_iload hx hb dX3_copy_119 (lv_at hl 7 rfl) ?_
                refine lv_i2l (v := mm.toInt64) hx hb dX3_copy_121 rfl ?_
                refine lv_ladd hx hb dX3_copy_122 ?_
                refine lv_aload_n hx hb dX3_copy_123 rfl (lv_at hl 2 rfl) ?_
                refine va_get (D := D) (ci := 3) (fs := [.int 0, .int (nI n), .ref m1, .ref m2, .ref m3, .ref m4, .int cd, .ref m5]) (v := .ref m2) (C := RX3) (T := TX3) (N := 8) hx hb hts (by decide +kernel) hown hK hP 5 rfl rfl 3 (by decide) (hts (.fieldLink RX3 13 "TypedColumnsModel" "lengths" "[I") (by decide +kernel)) (fun _ h9 => h9) rfl dX3_copy_124 ?_
                refine lv_iload_n hx hb dX3_copy_127 rfl (lv_at hl 5 rfl) ?_
                refine tc_iald (f := (fun t8 => nI (Ln t8))) (v := (nI (Ln j2))) hx hb hK hP 7 0 rfl rfl (vp_in_nI (show j2 < 60 by omega) (by decide)) (by rw [nI_clamp (show j2 < 2 ^ 31 by omega)]) dX3_copy_128 ?_
                refine lv_i2l (v := (nI (Ln j2)).toInt64) hx hb dX3_copy_129 rfl ?_
                refine W.lcmp hx hb dX3_copy_130 ?_
                refine lv_if_gt (tgt := 138) hx hb dX3_copy_131 (by decide) (fun c_38 => ?_) (fun c_38 => ?_)
                · refine lv_iconst (v := 0) hx hb dX3_copy_138 (by decide) ?_
                  exact jn _ _ ⟨(congrArg (fun z : Int32 => [Value.int z]) (show 0 = tb (kPart fi mm (nI (Ln j)) && kPart ti mm (nI (Ln j2))) from by rw [(fitL c_35 c_36 hL2).mp c_38]; cases kPart fi mm (nI (Ln j)) <;> rfl)), lv_sub hl [0, 1, 2, 3, 4, 5, 6, 7] rfl⟩
                · refine lv_iconst (v := 1) hx hb dX3_copy_134 (by decide) ?_
                  refine lv_goto (tgt := 139) hx hb dX3_copy_135 (by decide) ?_
                  exact jn _ _ ⟨(congrArg (fun z : Int32 => [Value.int z]) (show 1 = tb (kPart fi mm (nI (Ln j)) && kPart ti mm (nI (Ln j2))) from by rw [(Bool.not_eq_false _).mp (fun q => c_37 ((fitL c_34 c_36 hL).mpr q)), (Bool.not_eq_false _).mp (fun q => c_38 ((fitL c_35 c_36 hL2).mpr q))]; rfl)), lv_sub hl [0, 1, 2, 3, 4, 5, 6, 7] rfl⟩
    · refine lv_aload_n hx hb dX3_copy_52 rfl (lv_at hl 1 rfl) ?_
      refine va_get (D := D) (ci := 3) (fs := [.int 0, .int (nI n), .ref m1, .ref m2, .ref m3, .ref m4, .int cd, .ref m5]) (v := .ref m1) (C := RX3) (T := TX3) (N := 8) hx hb hts (by decide +kernel) hown hK hP 5 rfl rfl 2 (by decide) (hts (.fieldLink RX3 9 "TypedColumnsModel" "kinds" "[I") (by decide +kernel)) (fun _ h9 => h9) rfl dX3_copy_53 ?_
      refine lv_iload_n hx hb dX3_copy_56 rfl (lv_at hl 2 rfl) ?_
      refine tc_iald (f := K) (v := (K j)) hx hb hK hP 6 0 rfl rfl (vp_in_nI (show j < 60 by omega) (by decide)) (by rw [nI_clamp (show j < 2 ^ 31 by omega)]) dX3_copy_57 ?_
      refine lv_aload_n hx hb dX3_copy_58 rfl (lv_at hl 1 rfl) ?_
      refine va_get (D := D) (ci := 3) (fs := [.int 0, .int (nI n), .ref m1, .ref m2, .ref m3, .ref m4, .int cd, .ref m5]) (v := .ref m1) (C := RX3) (T := TX3) (N := 8) hx hb hts (by decide +kernel) hown hK hP 5 rfl rfl 2 (by decide) (hts (.fieldLink RX3 9 "TypedColumnsModel" "kinds" "[I") (by decide +kernel)) (fun _ h9 => h9) rfl dX3_copy_59 ?_
      refine lv_iload_n hx hb dX3_copy_62 rfl (lv_at hl 4 rfl) ?_
      refine tc_iald (f := K) (v := (K j2)) hx hb hK hP 6 0 rfl rfl (vp_in_nI (show j2 < 60 by omega) (by decide)) (by rw [nI_clamp (show j2 < 2 ^ 31 by omega)]) dX3_copy_63 ?_
      refine lv_icmp_ne (tgt := 82) hx hb dX3_copy_64 (by decide) (fun c_39 => ?_) (fun c_39 => ?_)
      · refine lv_iconst (v := 0) hx hb dX3_copy_82 (by decide) ?_
        exact jn _ _ ⟨(congrArg (fun z : Int32 => [Value.int z]) (show 0 = tb (decide (K j = K j2) && !decide (K j = 9)) from by rw [decide_eq_false c_39]; rfl)), lv_sub hl [0, 1, 2, 3, 4, 5, 6] rfl⟩
      · refine lv_aload_n hx hb dX3_copy_67 rfl (lv_at hl 1 rfl) ?_
        refine va_get (D := D) (ci := 3) (fs := [.int 0, .int (nI n), .ref m1, .ref m2, .ref m3, .ref m4, .int cd, .ref m5]) (v := .ref m1) (C := RX3) (T := TX3) (N := 8) hx hb hts (by decide +kernel) hown hK hP 5 rfl rfl 2 (by decide) (hts (.fieldLink RX3 9 "TypedColumnsModel" "kinds" "[I") (by decide +kernel)) (fun _ h9 => h9) rfl dX3_copy_68 ?_
        refine lv_iload_n hx hb dX3_copy_71 rfl (lv_at hl 2 rfl) ?_
        refine tc_iald (f := K) (v := (K j)) hx hb hK hP 6 0 rfl rfl (vp_in_nI (show j < 60 by omega) (by decide)) (by rw [nI_clamp (show j < 2 ^ 31 by omega)]) dX3_copy_72 ?_
        refine lv_bipush (v := 9) hx hb dX3_copy_73 (by decide) ?_
        refine lv_icmp_eq (tgt := 82) hx hb dX3_copy_75 (by decide) (fun c_40 => ?_) (fun c_40 => ?_)
        · refine lv_iconst (v := 0) hx hb dX3_copy_82 (by decide) ?_
          exact jn _ _ ⟨(congrArg (fun z : Int32 => [Value.int z]) (show 0 = tb (decide (K j = K j2) && !decide (K j = 9)) from by rw [decide_eq_true c_40]; cases decide (K j = K j2) <;> rfl)), lv_sub hl [0, 1, 2, 3, 4, 5, 6] rfl⟩
        · refine lv_iconst (v := 1) hx hb dX3_copy_78 (by decide) ?_
          refine lv_goto (tgt := 83) hx hb dX3_copy_79 (by decide) ?_
          exact jn _ _ ⟨(congrArg (fun z : Int32 => [Value.int z]) (show 1 = tb (decide (K j = K j2) && !decide (K j = 9)) from by rw [decide_eq_true c_39, decide_eq_false c_40]; rfl)), lv_sub hl [0, 1, 2, 3, 4, 5, 6] rfl⟩
  · refine lv_aload_n hx hb dX3_copy_27 rfl (lv_at hl 0 rfl) ?_
    refine va_get (D := D) (ci := 3) (fs := [.int 0, .int (nI n), .ref m1, .ref m2, .ref m3, .ref m4, .int cd, .ref m5]) (v := .ref m1) (C := RX3) (T := TX3) (N := 8) hx hb hts (by decide +kernel) hown hK hP 5 rfl rfl 2 (by decide) (hts (.fieldLink RX3 9 "TypedColumnsModel" "kinds" "[I") (by decide +kernel)) (fun _ h9 => h9) rfl dX3_copy_28 ?_
    refine lv_iload_n hx hb dX3_copy_31 rfl (lv_at hl 1 rfl) ?_
    refine tc_iald (f := K) (v := (K j)) hx hb hK hP 6 0 rfl rfl (vp_in_nI (show j < 60 by omega) (by decide)) (by rw [nI_clamp (show j < 2 ^ 31 by omega)]) dX3_copy_32 ?_
    refine lv_if_eq (tgt := 45) hx hb dX3_copy_33 (by decide) (fun c_41 => ?_) (fun c_41 => ?_)
    · refine lv_iconst (v := 1) hx hb dX3_copy_45 (by decide) ?_
      refine lv_goto (tgt := 50) hx hb dX3_copy_46 (by decide) ?_
      exact jn _ _ ⟨(congrArg (fun z : Int32 => [Value.int z]) (show 1 = tb (decide (K j = 0) || decide (K j2 = 0)) from by rw [decide_eq_true c_41]; rfl)), lv_sub hl [0, 1, 2, 3, 4, 5] rfl⟩
    · refine lv_aload_n hx hb dX3_copy_36 rfl (lv_at hl 0 rfl) ?_
      refine va_get (D := D) (ci := 3) (fs := [.int 0, .int (nI n), .ref m1, .ref m2, .ref m3, .ref m4, .int cd, .ref m5]) (v := .ref m1) (C := RX3) (T := TX3) (N := 8) hx hb hts (by decide +kernel) hown hK hP 5 rfl rfl 2 (by decide) (hts (.fieldLink RX3 9 "TypedColumnsModel" "kinds" "[I") (by decide +kernel)) (fun _ h9 => h9) rfl dX3_copy_37 ?_
      refine lv_iload_n hx hb dX3_copy_40 rfl (lv_at hl 3 rfl) ?_
      refine tc_iald (f := K) (v := (K j2)) hx hb hK hP 6 0 rfl rfl (vp_in_nI (show j2 < 60 by omega) (by decide)) (by rw [nI_clamp (show j2 < 2 ^ 31 by omega)]) dX3_copy_41 ?_
      refine lv_if_ne (tgt := 49) hx hb dX3_copy_42 (by decide) (fun c_42 => ?_) (fun c_42 => ?_)
      · refine lv_iconst (v := 0) hx hb dX3_copy_49 (by decide) ?_
        exact jn _ _ ⟨(congrArg (fun z : Int32 => [Value.int z]) (show 0 = tb (decide (K j = 0) || decide (K j2 = 0)) from by rw [decide_eq_false c_41, decide_eq_false c_42]; rfl)), lv_sub hl [0, 1, 2, 3, 4, 5] rfl⟩
      · refine lv_iconst (v := 1) hx hb dX3_copy_45 (by decide) ?_
        refine lv_goto (tgt := 50) hx hb dX3_copy_46 (by decide) ?_
        exact jn _ _ ⟨(congrArg (fun z : Int32 => [Value.int z]) (show 1 = tb (decide (K j = 0) || decide (K j2 = 0)) from by rw [decide_eq_true c_42]; cases decide (K j = 0) <;> rfl)), lv_sub hl [0, 1, 2, 3, 4, 5] rfl⟩
