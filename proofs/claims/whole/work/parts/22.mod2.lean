/-! THE MODEL: creation, copies, wider columns -/
theorem kIs_lo {k : Int32} (h : kIs k = true) : ¬ k < 0 := by
  have h1 := (kIs_iff k).mp h
  have e : (0 : Int32).toInt = 0 := rfl
  rw [Int32.lt_iff_toInt_lt, e]; omega
theorem kIs_hi {k : Int32} (h : kIs k = true) : ¬ 9 < k := by
  have h1 := (kIs_iff k).mp h
  have e : (9 : Int32).toInt = 9 := rfl
  rw [Int32.lt_iff_toInt_lt, e]; omega
theorem kIs_n {k : Int32} (h : kIs k = false) (h0 : ¬ k < 0) : 9 < k := by
  have e : (9 : Int32).toInt = 9 := rfl
  have e0 : (0 : Int32).toInt = 0 := rfl
  have h2 : ¬ (0 ≤ k.toInt ∧ k.toInt ≤ 9) := fun q => by have := (kIs_iff k).mpr q; rw [this] at h; cases h
  rw [Int32.lt_iff_toInt_lt, e0] at h0
  rw [Int32.lt_iff_toInt_lt, e]; omega
theorem kLen_n {k : Int32} (h : kLen k = false) (h0 : ¬ k < 0) : ¬ k ≤ 40 := by
  have e : (40 : Int32).toInt = 40 := rfl
  have e0 : (0 : Int32).toInt = 0 := rfl
  have h2 : ¬ (0 ≤ k.toInt ∧ k.toInt ≤ 40) := fun q => by have := (kLen_iff k).mpr q; rw [this] at h; cases h
  rw [Int32.lt_iff_toInt_lt, e0] at h0
  rw [Int32.le_iff_toInt_le, e]; omega
theorem nI_40 {N : Nat} (h : N ≤ 40) : nI N ≤ 40 := by
  have e : (40 : Int32).toInt = 40 := rfl
  rw [Int32.le_iff_toInt_le, e, nI_toInt (by omega)]; omega
theorem nI_ne {a b : Nat} (ha : a < 2 ^ 31) (hb : b < 2 ^ 31) (h : a ≠ b) : ¬ nI a = nI b := by
  intro q
  have := congrArg Int32.toInt q
  rw [nI_toInt ha, nI_toInt hb] at this
  omega
theorem nI_prd (n : Nat) : nI (n + 1) - 1 = nI n := by rw [nI_succ]; simp
theorem upLn {Ln : Nat → Nat} {n N : Nat} : upd (fun j => nI (Ln j)) n (nI N) = (fun j => nI (va_up Ln n N j)) := by
  funext j
  show (if j = n then nI N else nI (Ln j)) = nI (if j = n then N else Ln j)
  by_cases h : j = n
  · rw [if_pos h, if_pos h]
  · rw [if_neg h, if_neg h]
def zq {α : Type} (n i : Nat) (V : Nat → α) (f : Nat → α) : Nat → α := fun x => if 40 * n ≤ x ∧ x < 40 * n + i then V (x - 40 * n) else f x
theorem zq_0 {α : Type} {n : Nat} {V f : Nat → α} : zq n 0 V f = f := by
  funext x; unfold zq; rw [if_neg (by omega)]
theorem zq_s {α : Type} (n i : Nat) (V f : Nat → α) : zq n (i + 1) V f = (fun x => if x = 40 * n + i then V i else zq n i V f x) := by
  funext x
  unfold zq
  by_cases h : x = 40 * n + i
  · rw [if_pos (by omega), if_pos h, show x - 40 * n = i from by omega]
  · rw [if_neg h]
    by_cases h2 : 40 * n ≤ x ∧ x < 40 * n + i
    · rw [if_pos h2, if_pos (by omega)]
    · rw [if_neg h2, if_neg (by omega)]
theorem zq_sL (n i : Nat) (V f : Nat → Int64) : vp_updL (zq n i V f) (40 * n + i) (V i) = zq n (i + 1) V f := (zq_s n i V f).symm
theorem zq_sR (n i : Nat) (V f : Nat → UInt64) : vf_upd (zq n i V f) (40 * n + i) (V i) = zq n (i + 1) V f := (zq_s n i V f).symm
theorem zq_put {α : Type} {n N : Nat} {V f : Nat → α} {z : α} (hN : N ≤ 40) : zq n N V (zq n 40 (fun _ => z) f) = tc_put n N V z f := by
  funext x
  unfold zq tc_put
  by_cases h : 40 * n ≤ x ∧ x < 40 * n + 40
  · by_cases h2 : x < 40 * n + N
    · rw [if_pos (by omega), if_pos h, if_pos (by omega)]
    · rw [if_neg (by omega), if_pos h, if_pos h, if_neg (by omega)]
  · rw [if_neg (by omega), if_neg h, if_neg h]
theorem zq_other {α : Type} {n i j q N : Nat} {V V' f : Nat → α} (hj : j < n) (hq : q < 40) : zq n i V (zq n N V' f) (40 * j + q) = f (40 * j + q) := by
  unfold zq; rw [if_neg (by omega), if_neg (by omega)]
section TJ
variable {p : Program} {l : Launch} {e : Env} {R : Room} {s : State} {m : MethodId} {args : Array Value} {below : List Frame} {meth : Method} {c : Code} {H : Heap} {locs : List Loc} {cells slots : Nat} {Q : State → Prop}
/-- ways that meet -/
theorem tc_join (pc2 : Nat) {pc1 : Nat} {ls1 : Array Slot} {st1 : List Value} (I : Array Slot → List Value → Prop) (h2 : ∀ ls st, I ls st → W p l e R s m args below meth c H locs cells slots Q (F0 m pc2 ls st))
    (h1 : (∀ ls st, I ls st → W p l e R s m args below meth c H locs cells slots Q (F0 m pc2 ls st)) → W p l e R s m args below meth c H locs cells slots Q (F0 m pc1 ls1 st1)) : W p l e R s m args below meth c H locs cells slots Q (F0 m pc1 ls1 st1) := h1 h2
end TJ
set_option maxHeartbeats 4000000 in
set_option maxRecDepth 100000 in
theorem tX3_create_k (l : Launch) (D : va_G) (A : Nat → Prop) (cI cJ cD cC : ClassId) (x0 x1 x2 x3 x4 : Nat × va_E) (Z : va_W) (m0 m1 m2 m3 m4 m5 : Nat) (th : Int32) (n : Nat) (K : Nat → Int32) (Ln : Nat → Nat) (Wh : Nat → Int64) (Re : Nat → UInt64) (cd : Int32) (ct : Nat → Int32) (sz : Nat)  (kd len : Int32) (hk : kIs kd = false) : Met l yX3_create wsX3_create ({ frames := 1, cells := 0, slots := 0, locals := 21 }) (tcP D A (tcTY cI cJ cD cC) sz [.ref m0, .int kd, .int len] (tc_Z cI cJ cD x0 x1 x2 x3 x4 Z m0 m1 m2 m3 m4 m5 th n K Ln Wh Re cd ct)) (va_Qi (fun r (_ : Unit) => r = 0) (fun _ t => tcB D A (tc_Z cI cJ cD x0 x1 x2 x3 x4 Z m0 m1 m2 m3 m4 m5 1 n K Ln Wh Re cd ct) t) A) 0 0 A := by
  refine Met.ofW (cc := cX3_create) (maxL := 4) (ret := (some .int)) (by decide) rfl ?_
  intro p e s m args below meth c s₁ B hml hv
  obtain ⟨rfl, hsz, hP, hK, hD, hE⟩ := hv
  have hx := B.exec
  have hb := B.bytes
  have hr := B.returns
  have hts := atoms_spec (ws := wsX3_create) B.pre
  have hown : s.vm.findClass RX3 = some m.cls := findClass_of_methodNamed B.named
  have hlocks := B.notSynchronized
  have hl := lv_entry ([.ref m0, .int kd, .int len]) (n := 4) (Nat.le_of_ble_eq_true rfl)
  rw [lg_entry_eq]
  generalize (lg_sl ([.ref m0, .int kd, .int len]) ++ List.replicate (4 - (lg_sl ([.ref m0, .int kd, .int len])).length) Slot.unset).toArray = ls at hl ⊢
  have hl : lv_has ls 4 [(0, .ref m0), (1, .int kd), (2, .int len)] := hl
  subst hsz
  have hS : va_S A s.heap s.heap [] := va_S.rf
  refine lv_aload_n hx hb dX3_create_0 rfl (lv_at hl 0 rfl) ?_
  refine lv_iconst (v := 0) hx hb dX3_create_1 (by decide) ?_
  refine va_put (D := D) (ci := 3) (fs := [.int th, .int (nI n), .ref m1, .ref m2, .ref m3, .ref m4, .int cd, .ref m5]) (v := .int 0) (ty := .int) (C := RX3) (T := TX3) (N := 8) hx hb hts (by decide +kernel) tyX3 tyX3_ok nmX3 hown hK hP hD hS 5 rfl rfl 0 (by decide) (hts (.fieldLink RX3 27 "TypedColumnsModel" "thrown" "I") (by decide +kernel)) (fun _ h9 => h9) rfl (by decide +kernel) rfl rfl (Nat.le_of_ble_eq_true rfl) dX3_create_2 (fun H locs hP hD hS => ?_)
  have hP : va_P D vwCl (tc_Z cI cJ cD x0 x1 x2 x3 x4 Z m0 m1 m2 m3 m4 m5 0 n K Ln Wh Re cd ct) H := hP
  have hD : va_D A (tc_Z cI cJ cD x0 x1 x2 x3 x4 Z m0 m1 m2 m3 m4 m5 0 n K Ln Wh Re cd ct) := hD
  refine lv_iload_n hx hb dX3_create_5 rfl (lv_at hl 1 rfl) ?_
  refine lv_if_lt (tgt := 32) hx hb dX3_create_6 (by decide) (fun c_1 => ?_) (fun c_1 => ?_)
  · refine lv_aload_n hx hb dX3_create_32 rfl (lv_at hl 0 rfl) ?_
    refine lv_iconst (v := 1) hx hb dX3_create_33 (by decide) ?_
    refine va_calli (va_runV (As := [.int 1]) (rest := []) ⟨hx, hb, hml, hown, hts⟩ (tX3_fail l D A cI cJ cD cC x0 x1 x2 x3 x4 Z m0 m1 m2 m3 m4 m5 0 n K Ln Wh Re cd ct H.size 1) (cwV 1 hts gX3_create_X3_fail rfl rfl rfl (by decide +kernel) ⟨Nat.le_of_ble_eq_true rfl, Nat.le_of_ble_eq_true rfl⟩) ⟨tcP.blind, (va_recv hK hP (ci := 3) (q0 := 5) rfl rfl), (tcP.go hK hP hD hE hS)⟩ rfl rfl hl.1 rfl (lv_room (Nat.le_of_ble_eq_true rfl)) dX3_create_34 ⟨Nat.le_of_ble_eq_true rfl, Nat.le_of_ble_eq_true rfl⟩) hS (fun q _ h => h) (fun q h => h) (fun r_2 u t H locs ht hvm hw hB hz1 hk1 hS => ?_)
    subst hw
    obtain ⟨hP, hD⟩ := hB
    rw [ht] at hP
    exact W.iret (v := 0) hx hb hr (fun t9 ht9 hW9 => ⟨⟨0, (), rfl, rfl, by rw [ht9]; exact hP, hD⟩, hS.F ht9⟩) hS.2.2 dX3_create_37
  · refine lv_iload_n hx hb dX3_create_9 rfl (lv_at hl 1 rfl) ?_
    refine lv_bipush (v := 9) hx hb dX3_create_10 (by decide) ?_
    refine lv_icmp_gt (tgt := 32) hx hb dX3_create_12 (by decide) (fun _ => ?_) (fun q => absurd (kIs_n hk c_1) q)
    refine lv_aload_n hx hb dX3_create_32 rfl (lv_at hl 0 rfl) ?_
    refine lv_iconst (v := 1) hx hb dX3_create_33 (by decide) ?_
    refine va_calli (va_runV (As := [.int 1]) (rest := []) ⟨hx, hb, hml, hown, hts⟩ (tX3_fail l D A cI cJ cD cC x0 x1 x2 x3 x4 Z m0 m1 m2 m3 m4 m5 0 n K Ln Wh Re cd ct H.size 1) (cwV 1 hts gX3_create_X3_fail rfl rfl rfl (by decide +kernel) ⟨Nat.le_of_ble_eq_true rfl, Nat.le_of_ble_eq_true rfl⟩) ⟨tcP.blind, (va_recv hK hP (ci := 3) (q0 := 5) rfl rfl), (tcP.go hK hP hD hE hS)⟩ rfl rfl hl.1 rfl (lv_room (Nat.le_of_ble_eq_true rfl)) dX3_create_34 ⟨Nat.le_of_ble_eq_true rfl, Nat.le_of_ble_eq_true rfl⟩) hS (fun q _ h => h) (fun q h => h) (fun r_4 u t H locs ht hvm hw hB hz1 hk1 hS => ?_)
    subst hw
    obtain ⟨hP, hD⟩ := hB
    rw [ht] at hP
    exact W.iret (v := 0) hx hb hr (fun t9 ht9 hW9 => ⟨⟨0, (), rfl, rfl, by rw [ht9]; exact hP, hD⟩, hS.F ht9⟩) hS.2.2 dX3_create_37
set_option maxHeartbeats 4000000 in
set_option maxRecDepth 100000 in
theorem tX3_create_l (l : Launch) (D : va_G) (A : Nat → Prop) (cI cJ cD cC : ClassId) (x0 x1 x2 x3 x4 : Nat × va_E) (Z : va_W) (m0 m1 m2 m3 m4 m5 : Nat) (th : Int32) (n : Nat) (K : Nat → Int32) (Ln : Nat → Nat) (Wh : Nat → Int64) (Re : Nat → UInt64) (cd : Int32) (ct : Nat → Int32) (sz : Nat)  (kd len : Int32) (hk : kIs kd = true) (hh : kHas kd = true) (hl9 : kLen len = false) : Met l yX3_create wsX3_create ({ frames := 1, cells := 0, slots := 0, locals := 21 }) (tcP D A (tcTY cI cJ cD cC) sz [.ref m0, .int kd, .int len] (tc_Z cI cJ cD x0 x1 x2 x3 x4 Z m0 m1 m2 m3 m4 m5 th n K Ln Wh Re cd ct)) (va_Qi (fun r (_ : Unit) => r = 0) (fun _ t => tcB D A (tc_Z cI cJ cD x0 x1 x2 x3 x4 Z m0 m1 m2 m3 m4 m5 1 n K Ln Wh Re cd ct) t) A) 0 0 A := by
  refine Met.ofW (cc := cX3_create) (maxL := 4) (ret := (some .int)) (by decide) rfl ?_
  intro p e s m args below meth c s₁ B hml hv
  obtain ⟨rfl, hsz, hP, hK, hD, hE⟩ := hv
  have hx := B.exec
  have hb := B.bytes
  have hr := B.returns
  have hts := atoms_spec (ws := wsX3_create) B.pre
  have hown : s.vm.findClass RX3 = some m.cls := findClass_of_methodNamed B.named
  have hlocks := B.notSynchronized
  have hl := lv_entry ([.ref m0, .int kd, .int len]) (n := 4) (Nat.le_of_ble_eq_true rfl)
  rw [lg_entry_eq]
  generalize (lg_sl ([.ref m0, .int kd, .int len]) ++ List.replicate (4 - (lg_sl ([.ref m0, .int kd, .int len])).length) Slot.unset).toArray = ls at hl ⊢
  have hl : lv_has ls 4 [(0, .ref m0), (1, .int kd), (2, .int len)] := hl
  subst hsz
  have hS : va_S A s.heap s.heap [] := va_S.rf
  refine lv_aload_n hx hb dX3_create_0 rfl (lv_at hl 0 rfl) ?_
  refine lv_iconst (v := 0) hx hb dX3_create_1 (by decide) ?_
  refine va_put (D := D) (ci := 3) (fs := [.int th, .int (nI n), .ref m1, .ref m2, .ref m3, .ref m4, .int cd, .ref m5]) (v := .int 0) (ty := .int) (C := RX3) (T := TX3) (N := 8) hx hb hts (by decide +kernel) tyX3 tyX3_ok nmX3 hown hK hP hD hS 5 rfl rfl 0 (by decide) (hts (.fieldLink RX3 27 "TypedColumnsModel" "thrown" "I") (by decide +kernel)) (fun _ h9 => h9) rfl (by decide +kernel) rfl rfl (Nat.le_of_ble_eq_true rfl) dX3_create_2 (fun H locs hP hD hS => ?_)
  have hP : va_P D vwCl (tc_Z cI cJ cD x0 x1 x2 x3 x4 Z m0 m1 m2 m3 m4 m5 0 n K Ln Wh Re cd ct) H := hP
  have hD : va_D A (tc_Z cI cJ cD x0 x1 x2 x3 x4 Z m0 m1 m2 m3 m4 m5 0 n K Ln Wh Re cd ct) := hD
  refine lv_iload_n hx hb dX3_create_5 rfl (lv_at hl 1 rfl) ?_
  refine lv_if_lt (tgt := 32) hx hb dX3_create_6 (by decide) (fun q => absurd q (kIs_lo hk)) (fun _ => ?_)
  refine lv_iload_n hx hb dX3_create_9 rfl (lv_at hl 1 rfl) ?_
  refine lv_bipush (v := 9) hx hb dX3_create_10 (by decide) ?_
  refine lv_icmp_gt (tgt := 32) hx hb dX3_create_12 (by decide) (fun q => absurd q (kIs_hi hk)) (fun _ => ?_)
  refine lv_iload_n hx hb dX3_create_15 rfl (lv_at hl 1 rfl) ?_
  refine vp_callSi (W.runS (As := [.int kd]) (rest := []) ⟨hx, hb, hml, hown, hts⟩ (kX3_has l kd) (va_cwS 1 hts gX3_create_X3_has rfl rfl rfl (by decide +kernel) ⟨Nat.le_of_ble_eq_true rfl, Nat.le_of_ble_eq_true rfl⟩) ⟨fun a U g mk q => q, fun U hU hW => ⟨rfl, trivial⟩⟩ rfl rfl hl.1 rfl (lv_room (Nat.le_of_ble_eq_true rfl)) dX3_create_16 ⟨Nat.zero_le _, Nat.zero_le _⟩) (fun r_3 hr_3 => ?_)
  subst hr_3
  refine lv_if_eq (tgt := 38) hx hb dX3_create_19 (by decide) (fun q => absurd q ((tb_1 _).mpr hh)) (fun _ => ?_)
  refine lv_iload_n hx hb dX3_create_22 rfl (lv_at hl 2 rfl) ?_
  refine lv_if_lt (tgt := 32) hx hb dX3_create_23 (by decide) (fun c_5 => ?_) (fun c_5 => ?_)
  · refine lv_aload_n hx hb dX3_create_32 rfl (lv_at hl 0 rfl) ?_
    refine lv_iconst (v := 1) hx hb dX3_create_33 (by decide) ?_
    refine va_calli (va_runV (As := [.int 1]) (rest := []) ⟨hx, hb, hml, hown, hts⟩ (tX3_fail l D A cI cJ cD cC x0 x1 x2 x3 x4 Z m0 m1 m2 m3 m4 m5 0 n K Ln Wh Re cd ct H.size 1) (cwV 1 hts gX3_create_X3_fail rfl rfl rfl (by decide +kernel) ⟨Nat.le_of_ble_eq_true rfl, Nat.le_of_ble_eq_true rfl⟩) ⟨tcP.blind, (va_recv hK hP (ci := 3) (q0 := 5) rfl rfl), (tcP.go hK hP hD hE hS)⟩ rfl rfl hl.1 rfl (lv_room (Nat.le_of_ble_eq_true rfl)) dX3_create_34 ⟨Nat.le_of_ble_eq_true rfl, Nat.le_of_ble_eq_true rfl⟩) hS (fun q _ h => h) (fun q h => h) (fun r_6 u t H locs ht hvm hw hB hz1 hk1 hS => ?_)
    subst hw
    obtain ⟨hP, hD⟩ := hB
    rw [ht] at hP
    exact W.iret (v := 0) hx hb hr (fun t9 ht9 hW9 => ⟨⟨0, (), rfl, rfl, by rw [ht9]; exact hP, hD⟩, hS.F ht9⟩) hS.2.2 dX3_create_37
  · refine lv_iload_n hx hb dX3_create_26 rfl (lv_at hl 2 rfl) ?_
    refine lv_bipush (v := 40) hx hb dX3_create_27 (by decide) ?_
    refine lv_icmp_le (tgt := 38) hx hb dX3_create_29 (by decide) (fun q => absurd q (kLen_n hl9 c_5)) (fun _ => ?_)
    refine lv_aload_n hx hb dX3_create_32 rfl (lv_at hl 0 rfl) ?_
    refine lv_iconst (v := 1) hx hb dX3_create_33 (by decide) ?_
    refine va_calli (va_runV (As := [.int 1]) (rest := []) ⟨hx, hb, hml, hown, hts⟩ (tX3_fail l D A cI cJ cD cC x0 x1 x2 x3 x4 Z m0 m1 m2 m3 m4 m5 0 n K Ln Wh Re cd ct H.size 1) (cwV 1 hts gX3_create_X3_fail rfl rfl rfl (by decide +kernel) ⟨Nat.le_of_ble_eq_true rfl, Nat.le_of_ble_eq_true rfl⟩) ⟨tcP.blind, (va_recv hK hP (ci := 3) (q0 := 5) rfl rfl), (tcP.go hK hP hD hE hS)⟩ rfl rfl hl.1 rfl (lv_room (Nat.le_of_ble_eq_true rfl)) dX3_create_34 ⟨Nat.le_of_ble_eq_true rfl, Nat.le_of_ble_eq_true rfl⟩) hS (fun q _ h => h) (fun q h => h) (fun r_8 u t H locs ht hvm hw hB hz1 hk1 hS => ?_)
    subst hw
    obtain ⟨hP, hD⟩ := hB
    rw [ht] at hP
    exact W.iret (v := 0) hx hb hr (fun t9 ht9 hW9 => ⟨⟨0, (), rfl, rfl, by rw [ht9]; exact hP, hD⟩, hS.F ht9⟩) hS.2.2 dX3_create_37
set_option maxHeartbeats 4000000 in
set_option maxRecDepth 100000 in
theorem tX3_create_f (l : Launch) (D : va_G) (A : Nat → Prop) (cI cJ cD cC : ClassId) (x0 x1 x2 x3 x4 : Nat × va_E) (Z : va_W) (m0 m1 m2 m3 m4 m5 : Nat) (th : Int32) (n : Nat) (K : Nat → Int32) (Ln : Nat → Nat) (Wh : Nat → Int64) (Re : Nat → UInt64) (cd : Int32) (ct : Nat → Int32) (sz : Nat)  (kd len : Int32) (N : Nat) (hN : N ≤ 40) (hk : kIs kd = true) (hlen : kHas kd = true → len = nI N) (hz : kHas kd = false → N = 0) (hn : n = 60) : Met l yX3_create wsX3_create ({ frames := 1, cells := 0, slots := 0, locals := 21 }) (tcP D A (tcTY cI cJ cD cC) sz [.ref m0, .int kd, .int len] (tc_Z cI cJ cD x0 x1 x2 x3 x4 Z m0 m1 m2 m3 m4 m5 th n K Ln Wh Re cd ct)) (va_Qi (fun r (_ : Unit) => r = 0) (fun _ t => tcB D A (tc_Z cI cJ cD x0 x1 x2 x3 x4 Z m0 m1 m2 m3 m4 m5 2 n K Ln Wh Re cd ct) t) A) 0 0 A := by
  refine Met.ofW (cc := cX3_create) (maxL := 4) (ret := (some .int)) (by decide) rfl ?_
  intro p e s m args below meth c s₁ B hml hv
  obtain ⟨rfl, hsz, hP, hK, hD, hE⟩ := hv
  have hx := B.exec
  have hb := B.bytes
  have hr := B.returns
  have hts := atoms_spec (ws := wsX3_create) B.pre
  have hown : s.vm.findClass RX3 = some m.cls := findClass_of_methodNamed B.named
  have hlocks := B.notSynchronized
  have hl := lv_entry ([.ref m0, .int kd, .int len]) (n := 4) (Nat.le_of_ble_eq_true rfl)
  rw [lg_entry_eq]
  generalize (lg_sl ([.ref m0, .int kd, .int len]) ++ List.replicate (4 - (lg_sl ([.ref m0, .int kd, .int len])).length) Slot.unset).toArray = ls at hl ⊢
  have hl : lv_has ls 4 [(0, .ref m0), (1, .int kd), (2, .int len)] := hl
  subst hsz
  have hS : va_S A s.heap s.heap [] := va_S.rf
  refine lv_aload_n hx hb dX3_create_0 rfl (lv_at hl 0 rfl) ?_
  refine lv_iconst (v := 0) hx hb dX3_create_1 (by decide) ?_
  refine va_put (D := D) (ci := 3) (fs := [.int th, .int (nI n), .ref m1, .ref m2, .ref m3, .ref m4, .int cd, .ref m5]) (v := .int 0) (ty := .int) (C := RX3) (T := TX3) (N := 8) hx hb hts (by decide +kernel) tyX3 tyX3_ok nmX3 hown hK hP hD hS 5 rfl rfl 0 (by decide) (hts (.fieldLink RX3 27 "TypedColumnsModel" "thrown" "I") (by decide +kernel)) (fun _ h9 => h9) rfl (by decide +kernel) rfl rfl (Nat.le_of_ble_eq_true rfl) dX3_create_2 (fun H locs hP hD hS => ?_)
  have hP : va_P D vwCl (tc_Z cI cJ cD x0 x1 x2 x3 x4 Z m0 m1 m2 m3 m4 m5 0 n K Ln Wh Re cd ct) H := hP
  have hD : va_D A (tc_Z cI cJ cD x0 x1 x2 x3 x4 Z m0 m1 m2 m3 m4 m5 0 n K Ln Wh Re cd ct) := hD
  refine lv_iload_n hx hb dX3_create_5 rfl (lv_at hl 1 rfl) ?_
  refine lv_if_lt (tgt := 32) hx hb dX3_create_6 (by decide) (fun q => absurd q (kIs_lo hk)) (fun _ => ?_)
  refine lv_iload_n hx hb dX3_create_9 rfl (lv_at hl 1 rfl) ?_
  refine lv_bipush (v := 9) hx hb dX3_create_10 (by decide) ?_
  refine lv_icmp_gt (tgt := 32) hx hb dX3_create_12 (by decide) (fun q => absurd q (kIs_hi hk)) (fun _ => ?_)
  refine lv_iload_n hx hb dX3_create_15 rfl (lv_at hl 1 rfl) ?_
  refine vp_callSi (W.runS (As := [.int kd]) (rest := []) ⟨hx, hb, hml, hown, hts⟩ (kX3_has l kd) (va_cwS 1 hts gX3_create_X3_has rfl rfl rfl (by decide +kernel) ⟨Nat.le_of_ble_eq_true rfl, Nat.le_of_ble_eq_true rfl⟩) ⟨fun a U g mk q => q, fun U hU hW => ⟨rfl, trivial⟩⟩ rfl rfl hl.1 rfl (lv_room (Nat.le_of_ble_eq_true rfl)) dX3_create_16 ⟨Nat.zero_le _, Nat.zero_le _⟩) (fun r_3 hr_3 => ?_)
  subst hr_3
  refine lv_if_eq (tgt := 38) hx hb dX3_create_19 (by decide) (fun c_4 => ?_) (fun c_4 => ?_)
  · refine lv_aload_n hx hb dX3_create_38 rfl (lv_at hl 0 rfl) ?_
    refine va_get (D := D) (ci := 3) (fs := [.int 0, .int (nI n), .ref m1, .ref m2, .ref m3, .ref m4, .int cd, .ref m5]) (v := .int (nI n)) (C := RX3) (T := TX3) (N := 8) hx hb hts (by decide +kernel) hown hK hP 5 rfl rfl 1 (by decide) (hts (.fieldLink RX3 31 "TypedColumnsModel" "columns" "I") (by decide +kernel)) (fun _ h9 => h9) rfl dX3_create_39 ?_
    refine lv_bipush (v := 60) hx hb dX3_create_42 (by decide) ?_
    refine lv_icmp_ne (tgt := 53) hx hb dX3_create_44 (by decide) (fun q => absurd (by rw [hn]; rfl) q) (fun _ => ?_)
    refine lv_aload_n hx hb dX3_create_47 rfl (lv_at hl 0 rfl) ?_
    refine lv_iconst (v := 2) hx hb dX3_create_48 (by decide) ?_
    refine va_calli (va_runV (As := [.int 2]) (rest := []) ⟨hx, hb, hml, hown, hts⟩ (tX3_fail l D A cI cJ cD cC x0 x1 x2 x3 x4 Z m0 m1 m2 m3 m4 m5 0 n K Ln Wh Re cd ct H.size 2) (cwV 1 hts gX3_create_X3_fail rfl rfl rfl (by decide +kernel) ⟨Nat.le_of_ble_eq_true rfl, Nat.le_of_ble_eq_true rfl⟩) ⟨tcP.blind, (va_recv hK hP (ci := 3) (q0 := 5) rfl rfl), (tcP.go hK hP hD hE hS)⟩ rfl rfl hl.1 rfl (lv_room (Nat.le_of_ble_eq_true rfl)) dX3_create_49 ⟨Nat.le_of_ble_eq_true rfl, Nat.le_of_ble_eq_true rfl⟩) hS (fun q _ h => h) (fun q h => h) (fun r_6 u t H locs ht hvm hw hB hz1 hk1 hS => ?_)
    subst hw
    obtain ⟨hP, hD⟩ := hB
    rw [ht] at hP
    exact W.iret (v := 0) hx hb hr (fun t9 ht9 hW9 => ⟨⟨0, (), rfl, rfl, by rw [ht9]; exact hP, hD⟩, hS.F ht9⟩) hS.2.2 dX3_create_52
  · have gl := hlen ((tb_1 _).mp c_4)
    subst gl
    refine lv_iload_n hx hb dX3_create_22 rfl (lv_at hl 2 rfl) ?_
    refine lv_if_lt (tgt := 32) hx hb dX3_create_23 (by decide) (fun q => absurd q (nI_pos (by omega))) (fun _ => ?_)
    refine lv_iload_n hx hb dX3_create_26 rfl (lv_at hl 2 rfl) ?_
    refine lv_bipush (v := 40) hx hb dX3_create_27 (by decide) ?_
    refine lv_icmp_le (tgt := 38) hx hb dX3_create_29 (by decide) (fun _ => ?_) (fun q => absurd (nI_40 hN) q)
    refine lv_aload_n hx hb dX3_create_38 rfl (lv_at hl 0 rfl) ?_
    refine va_get (D := D) (ci := 3) (fs := [.int 0, .int (nI n), .ref m1, .ref m2, .ref m3, .ref m4, .int cd, .ref m5]) (v := .int (nI n)) (C := RX3) (T := TX3) (N := 8) hx hb hts (by decide +kernel) hown hK hP 5 rfl rfl 1 (by decide) (hts (.fieldLink RX3 31 "TypedColumnsModel" "columns" "I") (by decide +kernel)) (fun _ h9 => h9) rfl dX3_create_39 ?_
    refine lv_bipush (v := 60) hx hb dX3_create_42 (by decide) ?_
    refine lv_icmp_ne (tgt := 53) hx hb dX3_create_44 (by decide) (fun q => absurd (by rw [hn]; rfl) q) (fun _ => ?_)
    refine lv_aload_n hx hb dX3_create_47 rfl (lv_at hl 0 rfl) ?_
    refine lv_iconst (v := 2) hx hb dX3_create_48 (by decide) ?_
    refine va_calli (va_runV (As := [.int 2]) (rest := []) ⟨hx, hb, hml, hown, hts⟩ (tX3_fail l D A cI cJ cD cC x0 x1 x2 x3 x4 Z m0 m1 m2 m3 m4 m5 0 n K Ln Wh Re cd ct H.size 2) (cwV 1 hts gX3_create_X3_fail rfl rfl rfl (by decide +kernel) ⟨Nat.le_of_ble_eq_true rfl, Nat.le_of_ble_eq_true rfl⟩) ⟨tcP.blind, (va_recv hK hP (ci := 3) (q0 := 5) rfl rfl), (tcP.go hK hP hD hE hS)⟩ rfl rfl hl.1 rfl (lv_room (Nat.le_of_ble_eq_true rfl)) dX3_create_49 ⟨Nat.le_of_ble_eq_true rfl, Nat.le_of_ble_eq_true rfl⟩) hS (fun q _ h => h) (fun q h => h) (fun r_10 u t H locs ht hvm hw hB hz1 hk1 hS => ?_)
    subst hw
    obtain ⟨hP, hD⟩ := hB
    rw [ht] at hP
    exact W.iret (v := 0) hx hb hr (fun t9 ht9 hW9 => ⟨⟨0, (), rfl, rfl, by rw [ht9]; exact hP, hD⟩, hS.F ht9⟩) hS.2.2 dX3_create_52
set_option maxHeartbeats 4000000 in
set_option maxRecDepth 100000 in
theorem tX3_create (l : Launch) (D : va_G) (A : Nat → Prop) (cI cJ cD cC : ClassId) (x0 x1 x2 x3 x4 : Nat × va_E) (Z : va_W) (m0 m1 m2 m3 m4 m5 : Nat) (th : Int32) (n : Nat) (K : Nat → Int32) (Ln : Nat → Nat) (Wh : Nat → Int64) (Re : Nat → UInt64) (cd : Int32) (ct : Nat → Int32) (sz : Nat)  (kd len : Int32) (N : Nat) (hN : N ≤ 40) (hk : kIs kd = true) (hlen : kHas kd = true → len = nI N) (hz : kHas kd = false → N = 0) (hn : n < 60) : Met l yX3_create wsX3_create ({ frames := 1, cells := 0, slots := 0, locals := 21 }) (tcP D A (tcTY cI cJ cD cC) sz [.ref m0, .int kd, .int len] (tc_Z cI cJ cD x0 x1 x2 x3 x4 Z m0 m1 m2 m3 m4 m5 th n K Ln Wh Re cd ct)) (va_Qi (fun r (_ : Unit) => r = nI n) (fun _ t => tcB D A (tc_Z cI cJ cD x0 x1 x2 x3 x4 Z m0 m1 m2 m3 m4 m5 0 (n + 1) (va_up K n kd) (va_up Ln n N) (zq n 40 (fun _ => 0) Wh) (zq n 40 (fun _ => 0) Re) cd ct) t) A) 0 0 A := by
  refine Met.ofW (cc := cX3_create) (maxL := 4) (ret := (some .int)) (by decide) rfl ?_
  intro p e s m args below meth c s₁ B hml hv
  obtain ⟨rfl, hsz, hP, hK, hD, hE⟩ := hv
  have hx := B.exec
  have hb := B.bytes
  have hr := B.returns
  have hts := atoms_spec (ws := wsX3_create) B.pre
  have hown : s.vm.findClass RX3 = some m.cls := findClass_of_methodNamed B.named
  have hlocks := B.notSynchronized
  have hl := lv_entry ([.ref m0, .int kd, .int len]) (n := 4) (Nat.le_of_ble_eq_true rfl)
  rw [lg_entry_eq]
  generalize (lg_sl ([.ref m0, .int kd, .int len]) ++ List.replicate (4 - (lg_sl ([.ref m0, .int kd, .int len])).length) Slot.unset).toArray = ls at hl ⊢
  have hl : lv_has ls 4 [(0, .ref m0), (1, .int kd), (2, .int len)] := hl
  subst hsz
  have hS : va_S A s.heap s.heap [] := va_S.rf
  refine lv_aload_n hx hb dX3_create_0 rfl (lv_at hl 0 rfl) ?_
  refine lv_iconst (v := 0) hx hb dX3_create_1 (by decide) ?_
  refine va_put (D := D) (ci := 3) (fs := [.int th, .int (nI n), .ref m1, .ref m2, .ref m3, .ref m4, .int cd, .ref m5]) (v := .int 0) (ty := .int) (C := RX3) (T := TX3) (N := 8) hx hb hts (by decide +kernel) tyX3 tyX3_ok nmX3 hown hK hP hD hS 5 rfl rfl 0 (by decide) (hts (.fieldLink RX3 27 "TypedColumnsModel" "thrown" "I") (by decide +kernel)) (fun _ h9 => h9) rfl (by decide +kernel) rfl rfl (Nat.le_of_ble_eq_true rfl) dX3_create_2 (fun H locs hP hD hS => ?_)
  have hP : va_P D vwCl (tc_Z cI cJ cD x0 x1 x2 x3 x4 Z m0 m1 m2 m3 m4 m5 0 n K Ln Wh Re cd ct) H := hP
  have hD : va_D A (tc_Z cI cJ cD x0 x1 x2 x3 x4 Z m0 m1 m2 m3 m4 m5 0 n K Ln Wh Re cd ct) := hD
  refine lv_iload_n hx hb dX3_create_5 rfl (lv_at hl 1 rfl) ?_
  refine lv_if_lt (tgt := 32) hx hb dX3_create_6 (by decide) (fun q => absurd q (kIs_lo hk)) (fun _ => ?_)
  refine lv_iload_n hx hb dX3_create_9 rfl (lv_at hl 1 rfl) ?_
  refine lv_bipush (v := 9) hx hb dX3_create_10 (by decide) ?_
  refine lv_icmp_gt (tgt := 32) hx hb dX3_create_12 (by decide) (fun q => absurd q (kIs_hi hk)) (fun _ => ?_)
  refine lv_iload_n hx hb dX3_create_15 rfl (lv_at hl 1 rfl) ?_
  refine vp_callSi (W.runS (As := [.int kd]) (rest := []) ⟨hx, hb, hml, hown, hts⟩ (kX3_has l kd) (va_cwS 1 hts gX3_create_X3_has rfl rfl rfl (by decide +kernel) ⟨Nat.le_of_ble_eq_true rfl, Nat.le_of_ble_eq_true rfl⟩) ⟨fun a U g mk q => q, fun U hU hW => ⟨rfl, trivial⟩⟩ rfl rfl hl.1 rfl (lv_room (Nat.le_of_ble_eq_true rfl)) dX3_create_16 ⟨Nat.zero_le _, Nat.zero_le _⟩) (fun r_3 hr_3 => ?_)
  subst hr_3
  refine lv_if_eq (tgt := 38) hx hb dX3_create_19 (by decide) (fun c_4 => ?_) (fun c_4 => ?_)
  · refine lv_aload_n hx hb dX3_create_38 rfl (lv_at hl 0 rfl) ?_
    refine va_get (D := D) (ci := 3) (fs := [.int 0, .int (nI n), .ref m1, .ref m2, .ref m3, .ref m4, .int cd, .ref m5]) (v := .int (nI n)) (C := RX3) (T := TX3) (N := 8) hx hb hts (by decide +kernel) hown hK hP 5 rfl rfl 1 (by decide) (hts (.fieldLink RX3 31 "TypedColumnsModel" "columns" "I") (by decide +kernel)) (fun _ h9 => h9) rfl dX3_create_39 ?_
    refine lv_bipush (v := 60) hx hb dX3_create_42 (by decide) ?_
    refine lv_icmp_ne (tgt := 53) hx hb dX3_create_44 (by decide) (fun _ => ?_) (fun q => absurd q (nI_ne (b := 60) (by omega) (by decide) (by omega)))
    refine lv_aload_n hx hb dX3_create_53 rfl (lv_at hl 0 rfl) ?_
    refine va_get (D := D) (ci := 3) (fs := [.int 0, .int (nI n), .ref m1, .ref m2, .ref m3, .ref m4, .int cd, .ref m5]) (v := .ref m1) (C := RX3) (T := TX3) (N := 8) hx hb hts (by decide +kernel) hown hK hP 5 rfl rfl 2 (by decide) (hts (.fieldLink RX3 9 "TypedColumnsModel" "kinds" "[I") (by decide +kernel)) (fun _ h9 => h9) rfl dX3_create_54 ?_
    refine lv_aload_n hx hb dX3_create_57 rfl (lv_at hl 0 rfl) ?_
    refine va_get (D := D) (ci := 3) (fs := [.int 0, .int (nI n), .ref m1, .ref m2, .ref m3, .ref m4, .int cd, .ref m5]) (v := .int (nI n)) (C := RX3) (T := TX3) (N := 8) hx hb hts (by decide +kernel) hown hK hP 5 rfl rfl 1 (by decide) (hts (.fieldLink RX3 31 "TypedColumnsModel" "columns" "I") (by decide +kernel)) (fun _ h9 => h9) rfl dX3_create_58 ?_
    refine lv_iload_n hx hb dX3_create_61 rfl (lv_at hl 1 rfl) ?_
    refine va_iast (f := K) hx hb hK hP hD hS 6 0 rfl rfl (vp_in_nI (show n < 60 by omega) (by decide)) dX3_create_62 (fun H locs hP hD hS => ?_)
    rw [nI_clamp (show n < 2 ^ 31 by omega)] at hP hD
    have hP : va_P D vwCl (tc_Z cI cJ cD x0 x1 x2 x3 x4 Z m0 m1 m2 m3 m4 m5 0 n (va_up K n kd) Ln Wh Re cd ct) H := hP
    have hD : va_D A (tc_Z cI cJ cD x0 x1 x2 x3 x4 Z m0 m1 m2 m3 m4 m5 0 n (va_up K n kd) Ln Wh Re cd ct) := hD
    refine lv_aload_n hx hb dX3_create_63 rfl (lv_at hl 0 rfl) ?_
    refine va_get (D := D) (ci := 3) (fs := [.int 0, .int (nI n), .ref m1, .ref m2, .ref m3, .ref m4, .int cd, .ref m5]) (v := .ref m2) (C := RX3) (T := TX3) (N := 8) hx hb hts (by decide +kernel) hown hK hP 5 rfl rfl 3 (by decide) (hts (.fieldLink RX3 13 "TypedColumnsModel" "lengths" "[I") (by decide +kernel)) (fun _ h9 => h9) rfl dX3_create_64 ?_
    refine lv_aload_n hx hb dX3_create_67 rfl (lv_at hl 0 rfl) ?_
    refine va_get (D := D) (ci := 3) (fs := [.int 0, .int (nI n), .ref m1, .ref m2, .ref m3, .ref m4, .int cd, .ref m5]) (v := .int (nI n)) (C := RX3) (T := TX3) (N := 8) hx hb hts (by decide +kernel) hown hK hP 5 rfl rfl 1 (by decide) (hts (.fieldLink RX3 31 "TypedColumnsModel" "columns" "I") (by decide +kernel)) (fun _ h9 => h9) rfl dX3_create_68 ?_
    refine lv_iload_n hx hb dX3_create_71 rfl (lv_at hl 1 rfl) ?_
    refine vp_callSi (W.runS (As := [.int kd]) (rest := [.int (nI n), .ref m2]) ⟨hx, hb, hml, hown, hts⟩ (kX3_has l kd) (va_cwS 1 hts gX3_create_X3_has rfl rfl rfl (by decide +kernel) ⟨Nat.le_of_ble_eq_true rfl, Nat.le_of_ble_eq_true rfl⟩) ⟨fun a U g mk q => q, fun U hU hW => ⟨rfl, trivial⟩⟩ rfl rfl hl.1 rfl (lv_room (Nat.le_of_ble_eq_true rfl)) dX3_create_72 ⟨Nat.zero_le _, Nat.zero_le _⟩) (fun r_6 hr_6 => ?_)
    subst hr_6
    refine lv_if_eq (tgt := 82) hx hb dX3_create_75 (by decide) (fun _ => ?_) (fun q => absurd (c_4) q)
    refine lv_iconst (v := 0) hx hb dX3_create_82 (by decide) ?_
    refine va_iast (f := (fun t8 => nI (Ln t8))) hx hb hK hP hD hS 7 0 rfl rfl (vp_in_nI (show n < 60 by omega) (by decide)) dX3_create_83 (fun H locs hP hD hS => ?_)
    rw [nI_clamp (show n < 2 ^ 31 by omega)] at hP hD
    have gN := hz ((tb_0 _).mp c_4)
    subst gN
    rw [show upd (fun j => nI (Ln j)) n 0 = (fun j => nI (va_up Ln n 0 j)) from upLn] at hP hD
    have hP : va_P D vwCl (tc_Z cI cJ cD x0 x1 x2 x3 x4 Z m0 m1 m2 m3 m4 m5 0 n (va_up K n kd) (va_up Ln n 0) Wh Re cd ct) H := hP
    have hD : va_D A (tc_Z cI cJ cD x0 x1 x2 x3 x4 Z m0 m1 m2 m3 m4 m5 0 n (va_up K n kd) (va_up Ln n 0) Wh Re cd ct) := hD
    refine lv_iconst (v := 0) hx hb dX3_create_84 (by decide) ?_
    refine lv_istore_n (lv' := [(3, .int 0), (0, .ref m0), (1, .int kd), (2, .int len)]) hx hb dX3_create_85 rfl hl (by decide) rfl (fun ls hl => ?_)
    have hP : va_P D vwCl (tc_Z cI cJ cD x0 x1 x2 x3 x4 Z m0 m1 m2 m3 m4 m5 0 n (va_up K n kd) (va_up Ln n 0) (zq n 0 (fun _ => 0) Wh) (zq n 0 (fun _ => 0) Re) cd ct) H := by rw [zq_0, zq_0]; exact hP
    have hD : va_D A (tc_Z cI cJ cD x0 x1 x2 x3 x4 Z m0 m1 m2 m3 m4 m5 0 n (va_up K n kd) (va_up Ln n 0) (zq n 0 (fun _ => 0) Wh) (zq n 0 (fun _ => 0) Re) cd ct) := by rw [zq_0, zq_0]; exact hD
    have hl0 : lv_has ls 4 [(3, .int (nI 0)), (0, .ref m0), (1, .int kd), (2, .int len)] := lv_sub hl [0, 1, 2, 3] rfl
    refine tc_loop (fun k9 H locs ls => ∃ i : Nat, i + k9 = 40 ∧ va_P D vwCl (tc_Z cI cJ cD x0 x1 x2 x3 x4 Z m0 m1 m2 m3 m4 m5 0 n (va_up K n kd) (va_up Ln n 0) (zq n i (fun _ => 0) Wh) (zq n i (fun _ => 0) Re) cd ct) H ∧ va_D A (tc_Z cI cJ cD x0 x1 x2 x3 x4 Z m0 m1 m2 m3 m4 m5 0 n (va_up K n kd) (va_up Ln n 0) (zq n i (fun _ => 0) Wh) (zq n i (fun _ => 0) Re) cd ct) ∧ va_S A s.heap H locs ∧ lv_has ls 4 [(3, .int (nI i)), (0, .ref m0), (1, .int kd), (2, .int len)]) (fun k9 H locs ls hi9 ih => ?_) (fun H locs ls hi9 => ?_) 40 ⟨0, by omega, hP, hD, hS, hl0⟩
    · obtain ⟨i, hik, hP, hD, hS, hl⟩ := hi9
      have hiN : i < 40 := by omega
      refine lv_iload_n hx hb dX3_create_86 rfl (lv_at hl 0 rfl) ?_
      refine lv_bipush (v := 40) hx hb dX3_create_87 (by decide) ?_
      refine lv_icmp_ge (tgt := 126) hx hb dX3_create_89 (by decide) (fun q => absurd q (nI_ge hiN (by decide))) (fun _ => ?_)
      refine lv_aload_n hx hb dX3_create_92 rfl (lv_at hl 1 rfl) ?_
      refine va_get (D := D) (ci := 3) (fs := [.int 0, .int (nI n), .ref m1, .ref m2, .ref m3, .ref m4, .int cd, .ref m5]) (v := .ref m3) (C := RX3) (T := TX3) (N := 8) hx hb hts (by decide +kernel) hown hK hP 5 rfl rfl 4 (by decide) (hts (.fieldLink RX3 16 "TypedColumnsModel" "whole" "[J") (by decide +kernel)) (fun _ h9 => h9) rfl dX3_create_93 ?_
      refine lv_aload_n hx hb dX3_create_96 rfl (lv_at hl 1 rfl) ?_
      refine va_get (D := D) (ci := 3) (fs := [.int 0, .int (nI n), .ref m1, .ref m2, .ref m3, .ref m4, .int cd, .ref m5]) (v := .int (nI n)) (C := RX3) (T := TX3) (N := 8) hx hb hts (by decide +kernel) hown hK hP 5 rfl rfl 1 (by decide) (hts (.fieldLink RX3 31 "TypedColumnsModel" "columns" "I") (by decide +kernel)) (fun _ h9 => h9) rfl dX3_create_97 ?_
      refine lv_iload_n hx hb dX3_create_100 rfl (lv_at hl 0 rfl) ?_
      refine vp_callSi (W.runS (As := [.int (nI n), .int (nI i)]) (rest := [.ref m3]) ⟨hx, hb, hml, hown, hts⟩ (kX3_at l (nI n) (nI i)) (va_cwS 2 hts gX3_create_X3_at rfl rfl rfl (by decide +kernel) ⟨Nat.le_of_ble_eq_true rfl, Nat.le_of_ble_eq_true rfl⟩) ⟨fun a U g mk q => q, fun U hU hW => ⟨rfl, trivial⟩⟩ rfl rfl hl.1 rfl (lv_room (Nat.le_of_ble_eq_true rfl)) dX3_create_101 ⟨Nat.zero_le _, Nat.zero_le _⟩) (fun r_9 hr_9 => ?_)
      subst hr_9
      rw [at_n (j := n) (q := i)]
      refine lv_lconst (v := 0) hx hb dX3_create_104 (by decide) ?_
      refine va_last (f := (zq n i (fun _ => 0) Wh)) hx hb hK hP hD hS 8 1 rfl rfl (vp_in_nI (show (40 * n + i) < 2400 by omega) (by decide)) dX3_create_105 (fun H locs hP hD hS => ?_)
      rw [nI_clamp (show (40 * n + i) < 2 ^ 31 by omega)] at hP hD
      rw [zq_sL n i (fun _ => 0) Wh] at hP hD
      have hP : va_P D vwCl (tc_Z cI cJ cD x0 x1 x2 x3 x4 Z m0 m1 m2 m3 m4 m5 0 n (va_up K n kd) (va_up Ln n 0) (zq n (i + 1) (fun _ => 0) Wh) (zq n i (fun _ => 0) Re) cd ct) H := hP
      have hD : va_D A (tc_Z cI cJ cD x0 x1 x2 x3 x4 Z m0 m1 m2 m3 m4 m5 0 n (va_up K n kd) (va_up Ln n 0) (zq n (i + 1) (fun _ => 0) Wh) (zq n i (fun _ => 0) Re) cd ct) := hD
      refine lv_aload_n hx hb dX3_create_106 rfl (lv_at hl 1 rfl) ?_
      refine va_get (D := D) (ci := 3) (fs := [.int 0, .int (nI n), .ref m1, .ref m2, .ref m3, .ref m4, .int cd, .ref m5]) (v := .ref m4) (C := RX3) (T := TX3) (N := 8) hx hb hts (by decide +kernel) hown hK hP 5 rfl rfl 5 (by decide) (hts (.fieldLink RX3 20 "TypedColumnsModel" "real" "[D") (by decide +kernel)) (fun _ h9 => h9) rfl dX3_create_107 ?_
      refine lv_aload_n hx hb dX3_create_110 rfl (lv_at hl 1 rfl) ?_
      refine va_get (D := D) (ci := 3) (fs := [.int 0, .int (nI n), .ref m1, .ref m2, .ref m3, .ref m4, .int cd, .ref m5]) (v := .int (nI n)) (C := RX3) (T := TX3) (N := 8) hx hb hts (by decide +kernel) hown hK hP 5 rfl rfl 1 (by decide) (hts (.fieldLink RX3 31 "TypedColumnsModel" "columns" "I") (by decide +kernel)) (fun _ h9 => h9) rfl dX3_create_111 ?_
      refine lv_iload_n hx hb dX3_create_114 rfl (lv_at hl 0 rfl) ?_
      refine vp_callSi (W.runS (As := [.int (nI n), .int (nI i)]) (rest := [.ref m4]) ⟨hx, hb, hml, hown, hts⟩ (kX3_at l (nI n) (nI i)) (va_cwS 2 hts gX3_create_X3_at rfl rfl rfl (by decide +kernel) ⟨Nat.le_of_ble_eq_true rfl, Nat.le_of_ble_eq_true rfl⟩) ⟨fun a U g mk q => q, fun U hU hW => ⟨rfl, trivial⟩⟩ rfl rfl hl.1 rfl (lv_room (Nat.le_of_ble_eq_true rfl)) dX3_create_115 ⟨Nat.zero_le _, Nat.zero_le _⟩) (fun r_10 hr_10 => ?_)
      subst hr_10
      rw [at_n (j := n) (q := i)]
      refine lv_dconst0 hx hb dX3_create_118 ?_
      refine va_dast (f := (zq n i (fun _ => 0) Re)) hx hb hK hP hD hS 9 2 rfl rfl (vp_in_nI (show (40 * n + i) < 2400 by omega) (by decide)) dX3_create_119 (fun H locs hP hD hS => ?_)
      rw [nI_clamp (show (40 * n + i) < 2 ^ 31 by omega)] at hP hD
      have hP := hP
      have hP : va_P D vwCl (tc_Z cI cJ cD x0 x1 x2 x3 x4 Z m0 m1 m2 m3 m4 m5 0 n (va_up K n kd) (va_up Ln n 0) (zq n (i + 1) (fun _ => 0) Wh) (zq n (i + 1) (fun _ => 0) Re) cd ct) H := by rw [← zq_sR n i (fun _ => 0) Re]; exact hP
      have hD : va_D A (tc_Z cI cJ cD x0 x1 x2 x3 x4 Z m0 m1 m2 m3 m4 m5 0 n (va_up K n kd) (va_up Ln n 0) (zq n (i + 1) (fun _ => 0) Wh) (zq n (i + 1) (fun _ => 0) Re) cd ct) := by rw [← zq_sR n i (fun _ => 0) Re]; exact hD
      obtain ⟨x_11, ex_11⟩ : ∃ y : Int32, y = (nI i) + (1) := ⟨_, rfl⟩
      refine lv_iinc (v := x_11) (lv' := [(3, .int x_11), (0, .ref m0), (1, .int kd), (2, .int len)]) hx hb dX3_create_120 hl (k := 0) rfl (by rw [ex_11]; rfl) (by decide) rfl (fun ls hl => ?_)
      refine lv_goto (tgt := 86) hx hb dX3_create_123 (by decide) ?_
      subst ex_11
      exact ih _ _ _ ⟨i + 1, by omega, hP, hD, hS, by rw [nI_succ]; exact lv_sub hl [0, 1, 2, 3] rfl⟩
    · obtain ⟨i, hik, hP, hD, hS, hl⟩ := hi9
      have hiN : i = 40 := by omega
      rw [hiN] at hl
      rw [hiN] at hP hD
      refine lv_iload_n hx hb dX3_create_86 rfl (lv_at hl 0 rfl) ?_
      refine lv_bipush (v := 40) hx hb dX3_create_87 (by decide) ?_
      refine lv_icmp_ge (tgt := 126) hx hb dX3_create_89 (by decide) (fun _ => ?_) (fun q => absurd (nI_le (Nat.le_refl 40) (by decide)) q)
      refine lv_aload_n hx hb dX3_create_126 rfl (lv_at hl 1 rfl) ?_
      refine lv_dup hx hb dX3_create_127 rfl ?_
      refine va_get (D := D) (ci := 3) (fs := [.int 0, .int (nI n), .ref m1, .ref m2, .ref m3, .ref m4, .int cd, .ref m5]) (v := .int (nI n)) (C := RX3) (T := TX3) (N := 8) hx hb hts (by decide +kernel) hown hK hP 5 rfl rfl 1 (by decide) (hts (.fieldLink RX3 31 "TypedColumnsModel" "columns" "I") (by decide +kernel)) (fun _ h9 => h9) rfl dX3_create_128 ?_
      refine lv_iconst (v := 1) hx hb dX3_create_131 (by decide) ?_
      refine lv_iadd hx hb dX3_create_132 ?_
      refine va_put (D := D) (ci := 3) (fs := [.int 0, .int (nI n), .ref m1, .ref m2, .ref m3, .ref m4, .int cd, .ref m5]) (v := .int ((nI n) + 1)) (ty := .int) (C := RX3) (T := TX3) (N := 8) hx hb hts (by decide +kernel) tyX3 tyX3_ok nmX3 hown hK hP hD hS 5 rfl rfl 1 (by decide) (hts (.fieldLink RX3 31 "TypedColumnsModel" "columns" "I") (by decide +kernel)) (fun _ h9 => h9) rfl (by decide +kernel) rfl rfl (Nat.le_of_ble_eq_true rfl) dX3_create_133 (fun H locs hP hD hS => ?_)
      have hP : va_P D vwCl (tc_Z cI cJ cD x0 x1 x2 x3 x4 Z m0 m1 m2 m3 m4 m5 0 (n + 1) (va_up K n kd) (va_up Ln n 0) (zq n 40 (fun _ => 0) Wh) (zq n 40 (fun _ => 0) Re) cd ct) H := by unfold tc_Z tc_M; rw [nI_succ]; exact hP
      have hD : va_D A (tc_Z cI cJ cD x0 x1 x2 x3 x4 Z m0 m1 m2 m3 m4 m5 0 (n + 1) (va_up K n kd) (va_up Ln n 0) (zq n 40 (fun _ => 0) Wh) (zq n 40 (fun _ => 0) Re) cd ct) := by unfold tc_Z tc_M; rw [nI_succ]; exact hD
      refine lv_aload_n hx hb dX3_create_136 rfl (lv_at hl 1 rfl) ?_
      refine va_get (D := D) (ci := 3) (fs := [.int 0, .int (nI (n + 1)), .ref m1, .ref m2, .ref m3, .ref m4, .int cd, .ref m5]) (v := .int (nI (n + 1))) (C := RX3) (T := TX3) (N := 8) hx hb hts (by decide +kernel) hown hK hP 5 rfl rfl 1 (by decide) (hts (.fieldLink RX3 31 "TypedColumnsModel" "columns" "I") (by decide +kernel)) (fun _ h9 => h9) rfl dX3_create_137 ?_
      refine lv_iconst (v := 1) hx hb dX3_create_140 (by decide) ?_
      refine lv_isub hx hb dX3_create_141 ?_
      exact W.iret (v := ((nI (n + 1)) - 1)) hx hb hr (fun t9 ht9 hW9 => ⟨⟨((nI (n + 1)) - 1), (), rfl, nI_prd n, by rw [ht9]; exact hP, hD⟩, hS.F ht9⟩) hS.2.2 dX3_create_142
  · have gl := hlen ((tb_1 _).mp c_4)
    subst gl
    refine lv_iload_n hx hb dX3_create_22 rfl (lv_at hl 2 rfl) ?_
    refine lv_if_lt (tgt := 32) hx hb dX3_create_23 (by decide) (fun q => absurd q (nI_pos (by omega))) (fun _ => ?_)
    refine lv_iload_n hx hb dX3_create_26 rfl (lv_at hl 2 rfl) ?_
    refine lv_bipush (v := 40) hx hb dX3_create_27 (by decide) ?_
    refine lv_icmp_le (tgt := 38) hx hb dX3_create_29 (by decide) (fun _ => ?_) (fun q => absurd (nI_40 hN) q)
    refine lv_aload_n hx hb dX3_create_38 rfl (lv_at hl 0 rfl) ?_
    refine va_get (D := D) (ci := 3) (fs := [.int 0, .int (nI n), .ref m1, .ref m2, .ref m3, .ref m4, .int cd, .ref m5]) (v := .int (nI n)) (C := RX3) (T := TX3) (N := 8) hx hb hts (by decide +kernel) hown hK hP 5 rfl rfl 1 (by decide) (hts (.fieldLink RX3 31 "TypedColumnsModel" "columns" "I") (by decide +kernel)) (fun _ h9 => h9) rfl dX3_create_39 ?_
    refine lv_bipush (v := 60) hx hb dX3_create_42 (by decide) ?_
    refine lv_icmp_ne (tgt := 53) hx hb dX3_create_44 (by decide) (fun _ => ?_) (fun q => absurd q (nI_ne (b := 60) (by omega) (by decide) (by omega)))
    refine lv_aload_n hx hb dX3_create_53 rfl (lv_at hl 0 rfl) ?_
    refine va_get (D := D) (ci := 3) (fs := [.int 0, .int (nI n), .ref m1, .ref m2, .ref m3, .ref m4, .int cd, .ref m5]) (v := .ref m1) (C := RX3) (T := TX3) (N := 8) hx hb hts (by decide +kernel) hown hK hP 5 rfl rfl 2 (by decide) (hts (.fieldLink RX3 9 "TypedColumnsModel" "kinds" "[I") (by decide +kernel)) (fun _ h9 => h9) rfl dX3_create_54 ?_
    refine lv_aload_n hx hb dX3_create_57 rfl (lv_at hl 0 rfl) ?_
    refine va_get (D := D) (ci := 3) (fs := [.int 0, .int (nI n), .ref m1, .ref m2, .ref m3, .ref m4, .int cd, .ref m5]) (v := .int (nI n)) (C := RX3) (T := TX3) (N := 8) hx hb hts (by decide +kernel) hown hK hP 5 rfl rfl 1 (by decide) (hts (.fieldLink RX3 31 "TypedColumnsModel" "columns" "I") (by decide +kernel)) (fun _ h9 => h9) rfl dX3_create_58 ?_
    refine lv_iload_n hx hb dX3_create_61 rfl (lv_at hl 1 rfl) ?_
    refine va_iast (f := K) hx hb hK hP hD hS 6 0 rfl rfl (vp_in_nI (show n < 60 by omega) (by decide)) dX3_create_62 (fun H locs hP hD hS => ?_)
    rw [nI_clamp (show n < 2 ^ 31 by omega)] at hP hD
    have hP : va_P D vwCl (tc_Z cI cJ cD x0 x1 x2 x3 x4 Z m0 m1 m2 m3 m4 m5 0 n (va_up K n kd) Ln Wh Re cd ct) H := hP
    have hD : va_D A (tc_Z cI cJ cD x0 x1 x2 x3 x4 Z m0 m1 m2 m3 m4 m5 0 n (va_up K n kd) Ln Wh Re cd ct) := hD
    refine lv_aload_n hx hb dX3_create_63 rfl (lv_at hl 0 rfl) ?_
    refine va_get (D := D) (ci := 3) (fs := [.int 0, .int (nI n), .ref m1, .ref m2, .ref m3, .ref m4, .int cd, .ref m5]) (v := .ref m2) (C := RX3) (T := TX3) (N := 8) hx hb hts (by decide +kernel) hown hK hP 5 rfl rfl 3 (by decide) (hts (.fieldLink RX3 13 "TypedColumnsModel" "lengths" "[I") (by decide +kernel)) (fun _ h9 => h9) rfl dX3_create_64 ?_
    refine lv_aload_n hx hb dX3_create_67 rfl (lv_at hl 0 rfl) ?_
    refine va_get (D := D) (ci := 3) (fs := [.int 0, .int (nI n), .ref m1, .ref m2, .ref m3, .ref m4, .int cd, .ref m5]) (v := .int (nI n)) (C := RX3) (T := TX3) (N := 8) hx hb hts (by decide +kernel) hown hK hP 5 rfl rfl 1 (by decide) (hts (.fieldLink RX3 31 "TypedColumnsModel" "columns" "I") (by decide +kernel)) (fun _ h9 => h9) rfl dX3_create_68 ?_
    refine lv_iload_n hx hb dX3_create_71 rfl (lv_at hl 1 rfl) ?_
    refine vp_callSi (W.runS (As := [.int kd]) (rest := [.int (nI n), .ref m2]) ⟨hx, hb, hml, hown, hts⟩ (kX3_has l kd) (va_cwS 1 hts gX3_create_X3_has rfl rfl rfl (by decide +kernel) ⟨Nat.le_of_ble_eq_true rfl, Nat.le_of_ble_eq_true rfl⟩) ⟨fun a U g mk q => q, fun U hU hW => ⟨rfl, trivial⟩⟩ rfl rfl hl.1 rfl (lv_room (Nat.le_of_ble_eq_true rfl)) dX3_create_72 ⟨Nat.zero_le _, Nat.zero_le _⟩) (fun r_16 hr_16 => ?_)
    subst hr_16
    refine lv_if_eq (tgt := 82) hx hb dX3_create_75 (by decide) (fun q => absurd q (c_4)) (fun _ => ?_)
    refine lv_iload_n hx hb dX3_create_78 rfl (lv_at hl 2 rfl) ?_
    refine lv_goto (tgt := 83) hx hb dX3_create_79 (by decide) ?_
    refine va_iast (f := (fun t8 => nI (Ln t8))) hx hb hK hP hD hS 7 0 rfl rfl (vp_in_nI (show n < 60 by omega) (by decide)) dX3_create_83 (fun H locs hP hD hS => ?_)
    rw [nI_clamp (show n < 2 ^ 31 by omega)] at hP hD
    rw [show upd (fun j => nI (Ln j)) n (nI N) = (fun j => nI (va_up Ln n N j)) from upLn] at hP hD
    have hP : va_P D vwCl (tc_Z cI cJ cD x0 x1 x2 x3 x4 Z m0 m1 m2 m3 m4 m5 0 n (va_up K n kd) (va_up Ln n N) Wh Re cd ct) H := hP
    have hD : va_D A (tc_Z cI cJ cD x0 x1 x2 x3 x4 Z m0 m1 m2 m3 m4 m5 0 n (va_up K n kd) (va_up Ln n N) Wh Re cd ct) := hD
    refine lv_iconst (v := 0) hx hb dX3_create_84 (by decide) ?_
    refine lv_istore_n (lv' := [(3, .int 0), (0, .ref m0), (1, .int kd), (2, .int (nI N))]) hx hb dX3_create_85 rfl hl (by decide) rfl (fun ls hl => ?_)
    have hP : va_P D vwCl (tc_Z cI cJ cD x0 x1 x2 x3 x4 Z m0 m1 m2 m3 m4 m5 0 n (va_up K n kd) (va_up Ln n N) (zq n 0 (fun _ => 0) Wh) (zq n 0 (fun _ => 0) Re) cd ct) H := by rw [zq_0, zq_0]; exact hP
    have hD : va_D A (tc_Z cI cJ cD x0 x1 x2 x3 x4 Z m0 m1 m2 m3 m4 m5 0 n (va_up K n kd) (va_up Ln n N) (zq n 0 (fun _ => 0) Wh) (zq n 0 (fun _ => 0) Re) cd ct) := by rw [zq_0, zq_0]; exact hD
    have hl0 : lv_has ls 4 [(3, .int (nI 0)), (0, .ref m0), (1, .int kd), (2, .int (nI N))] := lv_sub hl [0, 1, 2, 3] rfl
    refine tc_loop (fun k9 H locs ls => ∃ i : Nat, i + k9 = 40 ∧ va_P D vwCl (tc_Z cI cJ cD x0 x1 x2 x3 x4 Z m0 m1 m2 m3 m4 m5 0 n (va_up K n kd) (va_up Ln n N) (zq n i (fun _ => 0) Wh) (zq n i (fun _ => 0) Re) cd ct) H ∧ va_D A (tc_Z cI cJ cD x0 x1 x2 x3 x4 Z m0 m1 m2 m3 m4 m5 0 n (va_up K n kd) (va_up Ln n N) (zq n i (fun _ => 0) Wh) (zq n i (fun _ => 0) Re) cd ct) ∧ va_S A s.heap H locs ∧ lv_has ls 4 [(3, .int (nI i)), (0, .ref m0), (1, .int kd), (2, .int (nI N))]) (fun k9 H locs ls hi9 ih => ?_) (fun H locs ls hi9 => ?_) 40 ⟨0, by omega, hP, hD, hS, hl0⟩
    · obtain ⟨i, hik, hP, hD, hS, hl⟩ := hi9
      have hiN : i < 40 := by omega
      refine lv_iload_n hx hb dX3_create_86 rfl (lv_at hl 0 rfl) ?_
      refine lv_bipush (v := 40) hx hb dX3_create_87 (by decide) ?_
      refine lv_icmp_ge (tgt := 126) hx hb dX3_create_89 (by decide) (fun q => absurd q (nI_ge hiN (by decide))) (fun _ => ?_)
      refine lv_aload_n hx hb dX3_create_92 rfl (lv_at hl 1 rfl) ?_
      refine va_get (D := D) (ci := 3) (fs := [.int 0, .int (nI n), .ref m1, .ref m2, .ref m3, .ref m4, .int cd, .ref m5]) (v := .ref m3) (C := RX3) (T := TX3) (N := 8) hx hb hts (by decide +kernel) hown hK hP 5 rfl rfl 4 (by decide) (hts (.fieldLink RX3 16 "TypedColumnsModel" "whole" "[J") (by decide +kernel)) (fun _ h9 => h9) rfl dX3_create_93 ?_
      refine lv_aload_n hx hb dX3_create_96 rfl (lv_at hl 1 rfl) ?_
      refine va_get (D := D) (ci := 3) (fs := [.int 0, .int (nI n), .ref m1, .ref m2, .ref m3, .ref m4, .int cd, .ref m5]) (v := .int (nI n)) (C := RX3) (T := TX3) (N := 8) hx hb hts (by decide +kernel) hown hK hP 5 rfl rfl 1 (by decide) (hts (.fieldLink RX3 31 "TypedColumnsModel" "columns" "I") (by decide +kernel)) (fun _ h9 => h9) rfl dX3_create_97 ?_
      refine lv_iload_n hx hb dX3_create_100 rfl (lv_at hl 0 rfl) ?_
      refine vp_callSi (W.runS (As := [.int (nI n), .int (nI i)]) (rest := [.ref m3]) ⟨hx, hb, hml, hown, hts⟩ (kX3_at l (nI n) (nI i)) (va_cwS 2 hts gX3_create_X3_at rfl rfl rfl (by decide +kernel) ⟨Nat.le_of_ble_eq_true rfl, Nat.le_of_ble_eq_true rfl⟩) ⟨fun a U g mk q => q, fun U hU hW => ⟨rfl, trivial⟩⟩ rfl rfl hl.1 rfl (lv_room (Nat.le_of_ble_eq_true rfl)) dX3_create_101 ⟨Nat.zero_le _, Nat.zero_le _⟩) (fun r_19 hr_19 => ?_)
      subst hr_19
      rw [at_n (j := n) (q := i)]
      refine lv_lconst (v := 0) hx hb dX3_create_104 (by decide) ?_
      refine va_last (f := (zq n i (fun _ => 0) Wh)) hx hb hK hP hD hS 8 1 rfl rfl (vp_in_nI (show (40 * n + i) < 2400 by omega) (by decide)) dX3_create_105 (fun H locs hP hD hS => ?_)
      rw [nI_clamp (show (40 * n + i) < 2 ^ 31 by omega)] at hP hD
      rw [zq_sL n i (fun _ => 0) Wh] at hP hD
      have hP : va_P D vwCl (tc_Z cI cJ cD x0 x1 x2 x3 x4 Z m0 m1 m2 m3 m4 m5 0 n (va_up K n kd) (va_up Ln n N) (zq n (i + 1) (fun _ => 0) Wh) (zq n i (fun _ => 0) Re) cd ct) H := hP
      have hD : va_D A (tc_Z cI cJ cD x0 x1 x2 x3 x4 Z m0 m1 m2 m3 m4 m5 0 n (va_up K n kd) (va_up Ln n N) (zq n (i + 1) (fun _ => 0) Wh) (zq n i (fun _ => 0) Re) cd ct) := hD
      refine lv_aload_n hx hb dX3_create_106 rfl (lv_at hl 1 rfl) ?_
      refine va_get (D := D) (ci := 3) (fs := [.int 0, .int (nI n), .ref m1, .ref m2, .ref m3, .ref m4, .int cd, .ref m5]) (v := .ref m4) (C := RX3) (T := TX3) (N := 8) hx hb hts (by decide +kernel) hown hK hP 5 rfl rfl 5 (by decide) (hts (.fieldLink RX3 20 "TypedColumnsModel" "real" "[D") (by decide +kernel)) (fun _ h9 => h9) rfl dX3_create_107 ?_
      refine lv_aload_n hx hb dX3_create_110 rfl (lv_at hl 1 rfl) ?_
      refine va_get (D := D) (ci := 3) (fs := [.int 0, .int (nI n), .ref m1, .ref m2, .ref m3, .ref m4, .int cd, .ref m5]) (v := .int (nI n)) (C := RX3) (T := TX3) (N := 8) hx hb hts (by decide +kernel) hown hK hP 5 rfl rfl 1 (by decide) (hts (.fieldLink RX3 31 "TypedColumnsModel" "columns" "I") (by decide +kernel)) (fun _ h9 => h9) rfl dX3_create_111 ?_
      refine lv_iload_n hx hb dX3_create_114 rfl (lv_at hl 0 rfl) ?_
      refine vp_callSi (W.runS (As := [.int (nI n), .int (nI i)]) (rest := [.ref m4]) ⟨hx, hb, hml, hown, hts⟩ (kX3_at l (nI n) (nI i)) (va_cwS 2 hts gX3_create_X3_at rfl rfl rfl (by decide +kernel) ⟨Nat.le_of_ble_eq_true rfl, Nat.le_of_ble_eq_true rfl⟩) ⟨fun a U g mk q => q, fun U hU hW => ⟨rfl, trivial⟩⟩ rfl rfl hl.1 rfl (lv_room (Nat.le_of_ble_eq_true rfl)) dX3_create_115 ⟨Nat.zero_le _, Nat.zero_le _⟩) (fun r_20 hr_20 => ?_)
      subst hr_20
      rw [at_n (j := n) (q := i)]
      refine lv_dconst0 hx hb dX3_create_118 ?_
      refine va_dast (f := (zq n i (fun _ => 0) Re)) hx hb hK hP hD hS 9 2 rfl rfl (vp_in_nI (show (40 * n + i) < 2400 by omega) (by decide)) dX3_create_119 (fun H locs hP hD hS => ?_)
      rw [nI_clamp (show (40 * n + i) < 2 ^ 31 by omega)] at hP hD
      have hP := hP
      have hP : va_P D vwCl (tc_Z cI cJ cD x0 x1 x2 x3 x4 Z m0 m1 m2 m3 m4 m5 0 n (va_up K n kd) (va_up Ln n N) (zq n (i + 1) (fun _ => 0) Wh) (zq n (i + 1) (fun _ => 0) Re) cd ct) H := by rw [← zq_sR n i (fun _ => 0) Re]; exact hP
      have hD : va_D A (tc_Z cI cJ cD x0 x1 x2 x3 x4 Z m0 m1 m2 m3 m4 m5 0 n (va_up K n kd) (va_up Ln n N) (zq n (i + 1) (fun _ => 0) Wh) (zq n (i + 1) (fun _ => 0) Re) cd ct) := by rw [← zq_sR n i (fun _ => 0) Re]; exact hD
      obtain ⟨x_21, ex_21⟩ : ∃ y : Int32, y = (nI i) + (1) := ⟨_, rfl⟩
      refine lv_iinc (v := x_21) (lv' := [(3, .int x_21), (0, .ref m0), (1, .int kd), (2, .int (nI N))]) hx hb dX3_create_120 hl (k := 0) rfl (by rw [ex_21]; rfl) (by decide) rfl (fun ls hl => ?_)
      refine lv_goto (tgt := 86) hx hb dX3_create_123 (by decide) ?_
      subst ex_21
      exact ih _ _ _ ⟨i + 1, by omega, hP, hD, hS, by rw [nI_succ]; exact lv_sub hl [0, 1, 2, 3] rfl⟩
    · obtain ⟨i, hik, hP, hD, hS, hl⟩ := hi9
      have hiN : i = 40 := by omega
      rw [hiN] at hl
      rw [hiN] at hP hD
      refine lv_iload_n hx hb dX3_create_86 rfl (lv_at hl 0 rfl) ?_
      refine lv_bipush (v := 40) hx hb dX3_create_87 (by decide) ?_
      refine lv_icmp_ge (tgt := 126) hx hb dX3_create_89 (by decide) (fun _ => ?_) (fun q => absurd (nI_le (Nat.le_refl 40) (by decide)) q)
      refine lv_aload_n hx hb dX3_create_126 rfl (lv_at hl 1 rfl) ?_
      refine lv_dup hx hb dX3_create_127 rfl ?_
      refine va_get (D := D) (ci := 3) (fs := [.int 0, .int (nI n), .ref m1, .ref m2, .ref m3, .ref m4, .int cd, .ref m5]) (v := .int (nI n)) (C := RX3) (T := TX3) (N := 8) hx hb hts (by decide +kernel) hown hK hP 5 rfl rfl 1 (by decide) (hts (.fieldLink RX3 31 "TypedColumnsModel" "columns" "I") (by decide +kernel)) (fun _ h9 => h9) rfl dX3_create_128 ?_
      refine lv_iconst (v := 1) hx hb dX3_create_131 (by decide) ?_
      refine lv_iadd hx hb dX3_create_132 ?_
      refine va_put (D := D) (ci := 3) (fs := [.int 0, .int (nI n), .ref m1, .ref m2, .ref m3, .ref m4, .int cd, .ref m5]) (v := .int ((nI n) + 1)) (ty := .int) (C := RX3) (T := TX3) (N := 8) hx hb hts (by decide +kernel) tyX3 tyX3_ok nmX3 hown hK hP hD hS 5 rfl rfl 1 (by decide) (hts (.fieldLink RX3 31 "TypedColumnsModel" "columns" "I") (by decide +kernel)) (fun _ h9 => h9) rfl (by decide +kernel) rfl rfl (Nat.le_of_ble_eq_true rfl) dX3_create_133 (fun H locs hP hD hS => ?_)
      have hP : va_P D vwCl (tc_Z cI cJ cD x0 x1 x2 x3 x4 Z m0 m1 m2 m3 m4 m5 0 (n + 1) (va_up K n kd) (va_up Ln n N) (zq n 40 (fun _ => 0) Wh) (zq n 40 (fun _ => 0) Re) cd ct) H := by unfold tc_Z tc_M; rw [nI_succ]; exact hP
      have hD : va_D A (tc_Z cI cJ cD x0 x1 x2 x3 x4 Z m0 m1 m2 m3 m4 m5 0 (n + 1) (va_up K n kd) (va_up Ln n N) (zq n 40 (fun _ => 0) Wh) (zq n 40 (fun _ => 0) Re) cd ct) := by unfold tc_Z tc_M; rw [nI_succ]; exact hD
      refine lv_aload_n hx hb dX3_create_136 rfl (lv_at hl 1 rfl) ?_
      refine va_get (D := D) (ci := 3) (fs := [.int 0, .int (nI (n + 1)), .ref m1, .ref m2, .ref m3, .ref m4, .int cd, .ref m5]) (v := .int (nI (n + 1))) (C := RX3) (T := TX3) (N := 8) hx hb hts (by decide +kernel) hown hK hP 5 rfl rfl 1 (by decide) (hts (.fieldLink RX3 31 "TypedColumnsModel" "columns" "I") (by decide +kernel)) (fun _ h9 => h9) rfl dX3_create_137 ?_
      refine lv_iconst (v := 1) hx hb dX3_create_140 (by decide) ?_
      refine lv_isub hx hb dX3_create_141 ?_
      exact W.iret (v := ((nI (n + 1)) - 1)) hx hb hr (fun t9 ht9 hW9 => ⟨⟨((nI (n + 1)) - 1), (), rfl, nI_prd n, by rw [ht9]; exact hP, hD⟩, hS.F ht9⟩) hS.2.2 dX3_create_142
set_option maxHeartbeats 4000000 in
set_option maxRecDepth 100000 in
theorem tX3_widened_n (l : Launch) (D : va_G) (A : Nat → Prop) (cI cJ cD cC : ClassId) (x0 x1 x2 x3 x4 : Nat × va_E) (Z : va_W) (m0 m1 m2 m3 m4 m5 : Nat) (th : Int32) (n : Nat) (K : Nat → Int32) (Ln : Nat → Nat) (Wh : Nat → Int64) (Re : Nat → UInt64) (cd : Int32) (ct : Nat → Int32) (sz : Nat) (hI : tcI n K Ln Wh Re) (cx : Int32) (hc : ¬ ∃ j, j < n ∧ cx = nI j) (kd : Int32) : Met l yX3_widened wsX3_widened ({ frames := 1, cells := 0, slots := 0, locals := 21 }) (tcP D A (tcTY cI cJ cD cC) sz [.ref m0, .int cx, .int kd] (tc_Z cI cJ cD x0 x1 x2 x3 x4 Z m0 m1 m2 m3 m4 m5 th n K Ln Wh Re cd ct)) (va_Qi (fun r (_ : Unit) => r = 0) (fun _ t => tcB D A (tc_Z cI cJ cD x0 x1 x2 x3 x4 Z m0 m1 m2 m3 m4 m5 1 n K Ln Wh Re cd ct) t) A) 0 0 A := by
  refine Met.ofW (cc := cX3_widened) (maxL := 6) (ret := (some .int)) (by decide) rfl ?_
  intro p e s m args below meth c s₁ B hml hv
  obtain ⟨rfl, hsz, hP, hK, hD, hE⟩ := hv
  have hx := B.exec
  have hb := B.bytes
  have hr := B.returns
  have hts := atoms_spec (ws := wsX3_widened) B.pre
  have hown : s.vm.findClass RX3 = some m.cls := findClass_of_methodNamed B.named
  have hlocks := B.notSynchronized
  have hl := lv_entry ([.ref m0, .int cx, .int kd]) (n := 6) (Nat.le_of_ble_eq_true rfl)
  rw [lg_entry_eq]
  generalize (lg_sl ([.ref m0, .int cx, .int kd]) ++ List.replicate (6 - (lg_sl ([.ref m0, .int cx, .int kd])).length) Slot.unset).toArray = ls at hl ⊢
  have hl : lv_has ls 6 [(0, .ref m0), (1, .int cx), (2, .int kd)] := hl
  subst hsz
  have hS : va_S A s.heap s.heap [] := va_S.rf
  have hn60 : n ≤ 60 := hI.1
  refine lv_aload_n hx hb dX3_widened_0 rfl (lv_at hl 0 rfl) ?_
  refine lv_iconst (v := 0) hx hb dX3_widened_1 (by decide) ?_
  refine va_put (D := D) (ci := 3) (fs := [.int th, .int (nI n), .ref m1, .ref m2, .ref m3, .ref m4, .int cd, .ref m5]) (v := .int 0) (ty := .int) (C := RX3) (T := TX3) (N := 8) hx hb hts (by decide +kernel) tyX3 tyX3_ok nmX3 hown hK hP hD hS 5 rfl rfl 0 (by decide) (hts (.fieldLink RX3 27 "TypedColumnsModel" "thrown" "I") (by decide +kernel)) (fun _ h9 => h9) rfl (by decide +kernel) rfl rfl (Nat.le_of_ble_eq_true rfl) dX3_widened_2 (fun H locs hP hD hS => ?_)
  have hP : va_P D vwCl (tc_Z cI cJ cD x0 x1 x2 x3 x4 Z m0 m1 m2 m3 m4 m5 0 n K Ln Wh Re cd ct) H := hP
  have hD : va_D A (tc_Z cI cJ cD x0 x1 x2 x3 x4 Z m0 m1 m2 m3 m4 m5 0 n K Ln Wh Re cd ct) := hD
  refine lv_aload_n hx hb dX3_widened_5 rfl (lv_at hl 0 rfl) ?_
  refine lv_iload_n hx hb dX3_widened_6 rfl (lv_at hl 1 rfl) ?_
  refine vp_callSi (tc_CR (va_runV (As := [.int cx]) (rest := []) ⟨hx, hb, hml, hown, hts⟩ (tX3_isColumn_n l D A cI cJ cD cC x0 x1 x2 x3 x4 Z m0 m1 m2 m3 m4 m5 0 n K Ln Wh Re cd ct H.size hI cx hc) (cwV 1 hts gX3_widened_X3_isColumn rfl rfl rfl (by decide +kernel) ⟨Nat.le_of_ble_eq_true rfl, Nat.le_of_ble_eq_true rfl⟩) ⟨tcP.blind, (va_recv hK hP (ci := 3) (q0 := 5) rfl rfl), (tcP.go hK hP hD hE hS)⟩ rfl rfl hl.1 rfl (lv_room (Nat.le_of_ble_eq_true rfl)) dX3_widened_7 ⟨Nat.le_of_ble_eq_true rfl, Nat.le_of_ble_eq_true rfl⟩)) (fun r_1 hr_1 => ?_)
  subst hr_1
  refine lv_if_ne (tgt := 19) hx hb dX3_widened_10 (by decide) (fun q => absurd (by decide) q) (fun _ => ?_)
  refine lv_aload_n hx hb dX3_widened_13 rfl (lv_at hl 0 rfl) ?_
  refine lv_iconst (v := 1) hx hb dX3_widened_14 (by decide) ?_
  refine va_calli (va_runV (As := [.int 1]) (rest := []) ⟨hx, hb, hml, hown, hts⟩ (tX3_fail l D A cI cJ cD cC x0 x1 x2 x3 x4 Z m0 m1 m2 m3 m4 m5 0 n K Ln Wh Re cd ct H.size 1) (cwV 1 hts gX3_widened_X3_fail rfl rfl rfl (by decide +kernel) ⟨Nat.le_of_ble_eq_true rfl, Nat.le_of_ble_eq_true rfl⟩) ⟨tcP.blind, (va_recv hK hP (ci := 3) (q0 := 5) rfl rfl), (tcP.go hK hP hD hE hS)⟩ rfl rfl hl.1 rfl (lv_room (Nat.le_of_ble_eq_true rfl)) dX3_widened_15 ⟨Nat.le_of_ble_eq_true rfl, Nat.le_of_ble_eq_true rfl⟩) hS (fun q _ h => h) (fun q h => h) (fun r_3 u t H locs ht hvm hw hB hz1 hk1 hS => ?_)
  subst hw
  obtain ⟨hP, hD⟩ := hB
  rw [ht] at hP
  exact W.iret (v := 0) hx hb hr (fun t9 ht9 hW9 => ⟨⟨0, (), rfl, rfl, by rw [ht9]; exact hP, hD⟩, hS.F ht9⟩) hS.2.2 dX3_widened_18
set_option maxHeartbeats 4000000 in
set_option maxRecDepth 100000 in
theorem tX3_widened_k (l : Launch) (D : va_G) (A : Nat → Prop) (cI cJ cD cC : ClassId) (x0 x1 x2 x3 x4 : Nat × va_E) (Z : va_W) (m0 m1 m2 m3 m4 m5 : Nat) (th : Int32) (n : Nat) (K : Nat → Int32) (Ln : Nat → Nat) (Wh : Nat → Int64) (Re : Nat → UInt64) (cd : Int32) (ct : Nat → Int32) (sz : Nat) (hI : tcI n K Ln Wh Re) (j : Nat) (hj : j < n) (kd : Int32) (hk : kHas kd = false) : Met l yX3_widened wsX3_widened ({ frames := 1, cells := 0, slots := 0, locals := 21 }) (tcP D A (tcTY cI cJ cD cC) sz [.ref m0, .int (nI j), .int kd] (tc_Z cI cJ cD x0 x1 x2 x3 x4 Z m0 m1 m2 m3 m4 m5 th n K Ln Wh Re cd ct)) (va_Qi (fun r (_ : Unit) => r = 0) (fun _ t => tcB D A (tc_Z cI cJ cD x0 x1 x2 x3 x4 Z m0 m1 m2 m3 m4 m5 2 n K Ln Wh Re cd ct) t) A) 0 0 A := by
  refine Met.ofW (cc := cX3_widened) (maxL := 6) (ret := (some .int)) (by decide) rfl ?_
  intro p e s m args below meth c s₁ B hml hv
  obtain ⟨rfl, hsz, hP, hK, hD, hE⟩ := hv
  have hx := B.exec
  have hb := B.bytes
  have hr := B.returns
  have hts := atoms_spec (ws := wsX3_widened) B.pre
  have hown : s.vm.findClass RX3 = some m.cls := findClass_of_methodNamed B.named
  have hlocks := B.notSynchronized
  have hl := lv_entry ([.ref m0, .int (nI j), .int kd]) (n := 6) (Nat.le_of_ble_eq_true rfl)
  rw [lg_entry_eq]
  generalize (lg_sl ([.ref m0, .int (nI j), .int kd]) ++ List.replicate (6 - (lg_sl ([.ref m0, .int (nI j), .int kd])).length) Slot.unset).toArray = ls at hl ⊢
  have hl : lv_has ls 6 [(0, .ref m0), (1, .int (nI j)), (2, .int kd)] := hl
  subst hsz
  have hS : va_S A s.heap s.heap [] := va_S.rf
  have hn60 : n ≤ 60 := hI.1
  have hkI := (hI.2.1 j hj).1
  have hL := (hI.2.1 j hj).2.1
  refine lv_aload_n hx hb dX3_widened_0 rfl (lv_at hl 0 rfl) ?_
  refine lv_iconst (v := 0) hx hb dX3_widened_1 (by decide) ?_
  refine va_put (D := D) (ci := 3) (fs := [.int th, .int (nI n), .ref m1, .ref m2, .ref m3, .ref m4, .int cd, .ref m5]) (v := .int 0) (ty := .int) (C := RX3) (T := TX3) (N := 8) hx hb hts (by decide +kernel) tyX3 tyX3_ok nmX3 hown hK hP hD hS 5 rfl rfl 0 (by decide) (hts (.fieldLink RX3 27 "TypedColumnsModel" "thrown" "I") (by decide +kernel)) (fun _ h9 => h9) rfl (by decide +kernel) rfl rfl (Nat.le_of_ble_eq_true rfl) dX3_widened_2 (fun H locs hP hD hS => ?_)
  have hP : va_P D vwCl (tc_Z cI cJ cD x0 x1 x2 x3 x4 Z m0 m1 m2 m3 m4 m5 0 n K Ln Wh Re cd ct) H := hP
  have hD : va_D A (tc_Z cI cJ cD x0 x1 x2 x3 x4 Z m0 m1 m2 m3 m4 m5 0 n K Ln Wh Re cd ct) := hD
  refine lv_aload_n hx hb dX3_widened_5 rfl (lv_at hl 0 rfl) ?_
  refine lv_iload_n hx hb dX3_widened_6 rfl (lv_at hl 1 rfl) ?_
  refine vp_callSi (tc_CR (va_runV (As := [.int (nI j)]) (rest := []) ⟨hx, hb, hml, hown, hts⟩ (tX3_isColumn_y l D A cI cJ cD cC x0 x1 x2 x3 x4 Z m0 m1 m2 m3 m4 m5 0 n K Ln Wh Re cd ct H.size hI j hj) (cwV 1 hts gX3_widened_X3_isColumn rfl rfl rfl (by decide +kernel) ⟨Nat.le_of_ble_eq_true rfl, Nat.le_of_ble_eq_true rfl⟩) ⟨tcP.blind, (va_recv hK hP (ci := 3) (q0 := 5) rfl rfl), (tcP.go hK hP hD hE hS)⟩ rfl rfl hl.1 rfl (lv_room (Nat.le_of_ble_eq_true rfl)) dX3_widened_7 ⟨Nat.le_of_ble_eq_true rfl, Nat.le_of_ble_eq_true rfl⟩)) (fun r_1 hr_1 => ?_)
  subst hr_1
  refine lv_if_ne (tgt := 19) hx hb dX3_widened_10 (by decide) (fun _ => ?_) (fun q => absurd q (by decide))
  refine lv_iload_n hx hb dX3_widened_19 rfl (lv_at hl 2 rfl) ?_
  refine vp_callSi (W.runS (As := [.int kd]) (rest := []) ⟨hx, hb, hml, hown, hts⟩ (kX3_has l kd) (va_cwS 1 hts gX3_widened_X3_has rfl rfl rfl (by decide +kernel) ⟨Nat.le_of_ble_eq_true rfl, Nat.le_of_ble_eq_true rfl⟩) ⟨fun a U g mk q => q, fun U hU hW => ⟨rfl, trivial⟩⟩ rfl rfl hl.1 rfl (lv_room (Nat.le_of_ble_eq_true rfl)) dX3_widened_20 ⟨Nat.zero_le _, Nat.zero_le _⟩) (fun r_3 hr_3 => ?_)
  subst hr_3
  refine lv_if_ne (tgt := 32) hx hb dX3_widened_23 (by decide) (fun q => absurd ((tb_0 _).mpr hk) q) (fun _ => ?_)
  refine lv_aload_n hx hb dX3_widened_26 rfl (lv_at hl 0 rfl) ?_
  refine lv_iconst (v := 2) hx hb dX3_widened_27 (by decide) ?_
  refine va_calli (va_runV (As := [.int 2]) (rest := []) ⟨hx, hb, hml, hown, hts⟩ (tX3_fail l D A cI cJ cD cC x0 x1 x2 x3 x4 Z m0 m1 m2 m3 m4 m5 0 n K Ln Wh Re cd ct H.size 2) (cwV 1 hts gX3_widened_X3_fail rfl rfl rfl (by decide +kernel) ⟨Nat.le_of_ble_eq_true rfl, Nat.le_of_ble_eq_true rfl⟩) ⟨tcP.blind, (va_recv hK hP (ci := 3) (q0 := 5) rfl rfl), (tcP.go hK hP hD hE hS)⟩ rfl rfl hl.1 rfl (lv_room (Nat.le_of_ble_eq_true rfl)) dX3_widened_28 ⟨Nat.le_of_ble_eq_true rfl, Nat.le_of_ble_eq_true rfl⟩) hS (fun q _ h => h) (fun q h => h) (fun r_5 u t H locs ht hvm hw hB hz1 hk1 hS => ?_)
  subst hw
  obtain ⟨hP, hD⟩ := hB
  rw [ht] at hP
  exact W.iret (v := 0) hx hb hr (fun t9 ht9 hW9 => ⟨⟨0, (), rfl, rfl, by rw [ht9]; exact hP, hD⟩, hS.F ht9⟩) hS.2.2 dX3_widened_31
set_option maxHeartbeats 4000000 in
set_option maxRecDepth 100000 in
theorem tX3_widened_f (l : Launch) (D : va_G) (A : Nat → Prop) (cI cJ cD cC : ClassId) (x0 x1 x2 x3 x4 : Nat × va_E) (Z : va_W) (m0 m1 m2 m3 m4 m5 : Nat) (th : Int32) (n : Nat) (K : Nat → Int32) (Ln : Nat → Nat) (Wh : Nat → Int64) (Re : Nat → UInt64) (cd : Int32) (ct : Nat → Int32) (sz : Nat) (hI : tcI n K Ln Wh Re) (j : Nat) (hj : j < n) (kd : Int32) (hk : kHas kd = true) (hn : n = 60) : Met l yX3_widened wsX3_widened ({ frames := 1, cells := 0, slots := 0, locals := 21 }) (tcP D A (tcTY cI cJ cD cC) sz [.ref m0, .int (nI j), .int kd] (tc_Z cI cJ cD x0 x1 x2 x3 x4 Z m0 m1 m2 m3 m4 m5 th n K Ln Wh Re cd ct)) (va_Qi (fun r (_ : Unit) => r = 0) (fun _ t => tcB D A (tc_Z cI cJ cD x0 x1 x2 x3 x4 Z m0 m1 m2 m3 m4 m5 3 n K Ln Wh Re cd ct) t) A) 0 0 A := by
  refine Met.ofW (cc := cX3_widened) (maxL := 6) (ret := (some .int)) (by decide) rfl ?_
  intro p e s m args below meth c s₁ B hml hv
  obtain ⟨rfl, hsz, hP, hK, hD, hE⟩ := hv
  have hx := B.exec
  have hb := B.bytes
  have hr := B.returns
  have hts := atoms_spec (ws := wsX3_widened) B.pre
  have hown : s.vm.findClass RX3 = some m.cls := findClass_of_methodNamed B.named
  have hlocks := B.notSynchronized
  have hl := lv_entry ([.ref m0, .int (nI j), .int kd]) (n := 6) (Nat.le_of_ble_eq_true rfl)
  rw [lg_entry_eq]
  generalize (lg_sl ([.ref m0, .int (nI j), .int kd]) ++ List.replicate (6 - (lg_sl ([.ref m0, .int (nI j), .int kd])).length) Slot.unset).toArray = ls at hl ⊢
  have hl : lv_has ls 6 [(0, .ref m0), (1, .int (nI j)), (2, .int kd)] := hl
  subst hsz
  have hS : va_S A s.heap s.heap [] := va_S.rf
  have hn60 : n ≤ 60 := hI.1
  have hkI := (hI.2.1 j hj).1
  have hL := (hI.2.1 j hj).2.1
  refine lv_aload_n hx hb dX3_widened_0 rfl (lv_at hl 0 rfl) ?_
  refine lv_iconst (v := 0) hx hb dX3_widened_1 (by decide) ?_
  refine va_put (D := D) (ci := 3) (fs := [.int th, .int (nI n), .ref m1, .ref m2, .ref m3, .ref m4, .int cd, .ref m5]) (v := .int 0) (ty := .int) (C := RX3) (T := TX3) (N := 8) hx hb hts (by decide +kernel) tyX3 tyX3_ok nmX3 hown hK hP hD hS 5 rfl rfl 0 (by decide) (hts (.fieldLink RX3 27 "TypedColumnsModel" "thrown" "I") (by decide +kernel)) (fun _ h9 => h9) rfl (by decide +kernel) rfl rfl (Nat.le_of_ble_eq_true rfl) dX3_widened_2 (fun H locs hP hD hS => ?_)
  have hP : va_P D vwCl (tc_Z cI cJ cD x0 x1 x2 x3 x4 Z m0 m1 m2 m3 m4 m5 0 n K Ln Wh Re cd ct) H := hP
  have hD : va_D A (tc_Z cI cJ cD x0 x1 x2 x3 x4 Z m0 m1 m2 m3 m4 m5 0 n K Ln Wh Re cd ct) := hD
  refine lv_aload_n hx hb dX3_widened_5 rfl (lv_at hl 0 rfl) ?_
  refine lv_iload_n hx hb dX3_widened_6 rfl (lv_at hl 1 rfl) ?_
  refine vp_callSi (tc_CR (va_runV (As := [.int (nI j)]) (rest := []) ⟨hx, hb, hml, hown, hts⟩ (tX3_isColumn_y l D A cI cJ cD cC x0 x1 x2 x3 x4 Z m0 m1 m2 m3 m4 m5 0 n K Ln Wh Re cd ct H.size hI j hj) (cwV 1 hts gX3_widened_X3_isColumn rfl rfl rfl (by decide +kernel) ⟨Nat.le_of_ble_eq_true rfl, Nat.le_of_ble_eq_true rfl⟩) ⟨tcP.blind, (va_recv hK hP (ci := 3) (q0 := 5) rfl rfl), (tcP.go hK hP hD hE hS)⟩ rfl rfl hl.1 rfl (lv_room (Nat.le_of_ble_eq_true rfl)) dX3_widened_7 ⟨Nat.le_of_ble_eq_true rfl, Nat.le_of_ble_eq_true rfl⟩)) (fun r_1 hr_1 => ?_)
  subst hr_1
  refine lv_if_ne (tgt := 19) hx hb dX3_widened_10 (by decide) (fun _ => ?_) (fun q => absurd q (by decide))
  refine lv_iload_n hx hb dX3_widened_19 rfl (lv_at hl 2 rfl) ?_
  refine vp_callSi (W.runS (As := [.int kd]) (rest := []) ⟨hx, hb, hml, hown, hts⟩ (kX3_has l kd) (va_cwS 1 hts gX3_widened_X3_has rfl rfl rfl (by decide +kernel) ⟨Nat.le_of_ble_eq_true rfl, Nat.le_of_ble_eq_true rfl⟩) ⟨fun a U g mk q => q, fun U hU hW => ⟨rfl, trivial⟩⟩ rfl rfl hl.1 rfl (lv_room (Nat.le_of_ble_eq_true rfl)) dX3_widened_20 ⟨Nat.zero_le _, Nat.zero_le _⟩) (fun r_3 hr_3 => ?_)
  subst hr_3
  refine lv_if_ne (tgt := 32) hx hb dX3_widened_23 (by decide) (fun _ => ?_) (fun q => absurd q ((tb_1 _).mpr hk))
  refine lv_aload_n hx hb dX3_widened_32 rfl (lv_at hl 0 rfl) ?_
  refine va_get (D := D) (ci := 3) (fs := [.int 0, .int (nI n), .ref m1, .ref m2, .ref m3, .ref m4, .int cd, .ref m5]) (v := .int (nI n)) (C := RX3) (T := TX3) (N := 8) hx hb hts (by decide +kernel) hown hK hP 5 rfl rfl 1 (by decide) (hts (.fieldLink RX3 31 "TypedColumnsModel" "columns" "I") (by decide +kernel)) (fun _ h9 => h9) rfl dX3_widened_33 ?_
  refine lv_bipush (v := 60) hx hb dX3_widened_36 (by decide) ?_
  refine lv_icmp_ne (tgt := 47) hx hb dX3_widened_38 (by decide) (fun q => absurd (by rw [hn]; rfl) q) (fun _ => ?_)
  refine lv_aload_n hx hb dX3_widened_41 rfl (lv_at hl 0 rfl) ?_
  refine lv_iconst (v := 3) hx hb dX3_widened_42 (by decide) ?_
  refine va_calli (va_runV (As := [.int 3]) (rest := []) ⟨hx, hb, hml, hown, hts⟩ (tX3_fail l D A cI cJ cD cC x0 x1 x2 x3 x4 Z m0 m1 m2 m3 m4 m5 0 n K Ln Wh Re cd ct H.size 3) (cwV 1 hts gX3_widened_X3_fail rfl rfl rfl (by decide +kernel) ⟨Nat.le_of_ble_eq_true rfl, Nat.le_of_ble_eq_true rfl⟩) ⟨tcP.blind, (va_recv hK hP (ci := 3) (q0 := 5) rfl rfl), (tcP.go hK hP hD hE hS)⟩ rfl rfl hl.1 rfl (lv_room (Nat.le_of_ble_eq_true rfl)) dX3_widened_43 ⟨Nat.le_of_ble_eq_true rfl, Nat.le_of_ble_eq_true rfl⟩) hS (fun q _ h => h) (fun q h => h) (fun r_6 u t H locs ht hvm hw hB hz1 hk1 hS => ?_)
  subst hw
  obtain ⟨hP, hD⟩ := hB
  rw [ht] at hP
  exact W.iret (v := 0) hx hb hr (fun t9 ht9 hW9 => ⟨⟨0, (), rfl, rfl, by rw [ht9]; exact hP, hD⟩, hS.F ht9⟩) hS.2.2 dX3_widened_46
set_option maxHeartbeats 4000000 in
set_option maxRecDepth 100000 in
theorem tX3_widened_no (l : Launch) (D : va_G) (A : Nat → Prop) (cI cJ cD cC : ClassId) (x0 x1 x2 x3 x4 : Nat × va_E) (Z : va_W) (m0 m1 m2 m3 m4 m5 : Nat) (th : Int32) (n : Nat) (K : Nat → Int32) (Ln : Nat → Nat) (Wh : Nat → Int64) (Re : Nat → UInt64) (cd : Int32) (ct : Nat → Int32) (sz : Nat) (hI : tcI n K Ln Wh Re) (j : Nat) (hj : j < n) (kd : Int32) (hk : kHas kd = true) (hn : n < 60) (hc : ¬ wdC K j kd = 0) : Met l yX3_widened wsX3_widened ({ frames := 2, cells := 0, slots := 0, locals := 41 }) (tcP D A (tcTY cI cJ cD cC) sz [.ref m0, .int (nI j), .int kd] (tc_Z cI cJ cD x0 x1 x2 x3 x4 Z m0 m1 m2 m3 m4 m5 th n K Ln Wh Re cd ct)) (va_Qi (fun r (_ : Unit) => r = -1) (fun _ t => tcB D A (tc_Z cI cJ cD x0 x1 x2 x3 x4 Z m0 m1 m2 m3 m4 m5 0 n K Ln Wh Re (wdC K j kd) (noteC ct (wdC K j kd))) t) A) 0 0 A := by
  refine Met.ofW (cc := cX3_widened) (maxL := 6) (ret := (some .int)) (by decide) rfl ?_
  intro p e s m args below meth c s₁ B hml hv
  obtain ⟨rfl, hsz, hP, hK, hD, hE⟩ := hv
  have hx := B.exec
  have hb := B.bytes
  have hr := B.returns
  have hts := atoms_spec (ws := wsX3_widened) B.pre
  have hown : s.vm.findClass RX3 = some m.cls := findClass_of_methodNamed B.named
  have hlocks := B.notSynchronized
  have hl := lv_entry ([.ref m0, .int (nI j), .int kd]) (n := 6) (Nat.le_of_ble_eq_true rfl)
  rw [lg_entry_eq]
  generalize (lg_sl ([.ref m0, .int (nI j), .int kd]) ++ List.replicate (6 - (lg_sl ([.ref m0, .int (nI j), .int kd])).length) Slot.unset).toArray = ls at hl ⊢
  have hl : lv_has ls 6 [(0, .ref m0), (1, .int (nI j)), (2, .int kd)] := hl
  subst hsz
  have hS : va_S A s.heap s.heap [] := va_S.rf
  have hn60 : n ≤ 60 := hI.1
  have hkI := (hI.2.1 j hj).1
  have hL := (hI.2.1 j hj).2.1
  refine lv_aload_n hx hb dX3_widened_0 rfl (lv_at hl 0 rfl) ?_
  refine lv_iconst (v := 0) hx hb dX3_widened_1 (by decide) ?_
  refine va_put (D := D) (ci := 3) (fs := [.int th, .int (nI n), .ref m1, .ref m2, .ref m3, .ref m4, .int cd, .ref m5]) (v := .int 0) (ty := .int) (C := RX3) (T := TX3) (N := 8) hx hb hts (by decide +kernel) tyX3 tyX3_ok nmX3 hown hK hP hD hS 5 rfl rfl 0 (by decide) (hts (.fieldLink RX3 27 "TypedColumnsModel" "thrown" "I") (by decide +kernel)) (fun _ h9 => h9) rfl (by decide +kernel) rfl rfl (Nat.le_of_ble_eq_true rfl) dX3_widened_2 (fun H locs hP hD hS => ?_)
  have hP : va_P D vwCl (tc_Z cI cJ cD x0 x1 x2 x3 x4 Z m0 m1 m2 m3 m4 m5 0 n K Ln Wh Re cd ct) H := hP
  have hD : va_D A (tc_Z cI cJ cD x0 x1 x2 x3 x4 Z m0 m1 m2 m3 m4 m5 0 n K Ln Wh Re cd ct) := hD
  refine lv_aload_n hx hb dX3_widened_5 rfl (lv_at hl 0 rfl) ?_
  refine lv_iload_n hx hb dX3_widened_6 rfl (lv_at hl 1 rfl) ?_
  refine vp_callSi (tc_CR (va_runV (As := [.int (nI j)]) (rest := []) ⟨hx, hb, hml, hown, hts⟩ (tX3_isColumn_y l D A cI cJ cD cC x0 x1 x2 x3 x4 Z m0 m1 m2 m3 m4 m5 0 n K Ln Wh Re cd ct H.size hI j hj) (cwV 1 hts gX3_widened_X3_isColumn rfl rfl rfl (by decide +kernel) ⟨Nat.le_of_ble_eq_true rfl, Nat.le_of_ble_eq_true rfl⟩) ⟨tcP.blind, (va_recv hK hP (ci := 3) (q0 := 5) rfl rfl), (tcP.go hK hP hD hE hS)⟩ rfl rfl hl.1 rfl (lv_room (Nat.le_of_ble_eq_true rfl)) dX3_widened_7 ⟨Nat.le_of_ble_eq_true rfl, Nat.le_of_ble_eq_true rfl⟩)) (fun r_1 hr_1 => ?_)
  subst hr_1
  refine lv_if_ne (tgt := 19) hx hb dX3_widened_10 (by decide) (fun _ => ?_) (fun q => absurd q (by decide))
  refine lv_iload_n hx hb dX3_widened_19 rfl (lv_at hl 2 rfl) ?_
  refine vp_callSi (W.runS (As := [.int kd]) (rest := []) ⟨hx, hb, hml, hown, hts⟩ (kX3_has l kd) (va_cwS 1 hts gX3_widened_X3_has rfl rfl rfl (by decide +kernel) ⟨Nat.le_of_ble_eq_true rfl, Nat.le_of_ble_eq_true rfl⟩) ⟨fun a U g mk q => q, fun U hU hW => ⟨rfl, trivial⟩⟩ rfl rfl hl.1 rfl (lv_room (Nat.le_of_ble_eq_true rfl)) dX3_widened_20 ⟨Nat.zero_le _, Nat.zero_le _⟩) (fun r_3 hr_3 => ?_)
  subst hr_3
  refine lv_if_ne (tgt := 32) hx hb dX3_widened_23 (by decide) (fun _ => ?_) (fun q => absurd q ((tb_1 _).mpr hk))
  refine lv_aload_n hx hb dX3_widened_32 rfl (lv_at hl 0 rfl) ?_
  refine va_get (D := D) (ci := 3) (fs := [.int 0, .int (nI n), .ref m1, .ref m2, .ref m3, .ref m4, .int cd, .ref m5]) (v := .int (nI n)) (C := RX3) (T := TX3) (N := 8) hx hb hts (by decide +kernel) hown hK hP 5 rfl rfl 1 (by decide) (hts (.fieldLink RX3 31 "TypedColumnsModel" "columns" "I") (by decide +kernel)) (fun _ h9 => h9) rfl dX3_widened_33 ?_
  refine lv_bipush (v := 60) hx hb dX3_widened_36 (by decide) ?_
  refine lv_icmp_ne (tgt := 47) hx hb dX3_widened_38 (by decide) (fun _ => ?_) (fun q => absurd q (nI_ne (b := 60) (by omega) (by decide) (by omega)))
  refine lv_aload_n hx hb dX3_widened_47 rfl (lv_at hl 0 rfl) ?_
  refine lv_iload_n hx hb dX3_widened_48 rfl (lv_at hl 1 rfl) ?_
  refine vp_callSi (tc_CR (va_runV (As := [.int (nI j)]) (rest := []) ⟨hx, hb, hml, hown, hts⟩ (tX3_codeOf l D A cI cJ cD cC x0 x1 x2 x3 x4 Z m0 m1 m2 m3 m4 m5 0 n K Ln Wh Re cd ct H.size hI j hj) (cwV 1 hts gX3_widened_X3_codeOf rfl rfl rfl (by decide +kernel) ⟨Nat.le_of_ble_eq_true rfl, Nat.le_of_ble_eq_true rfl⟩) ⟨tcP.blind, (va_recv hK hP (ci := 3) (q0 := 5) rfl rfl), (tcP.go hK hP hD hE hS)⟩ rfl rfl hl.1 rfl (lv_room (Nat.le_of_ble_eq_true rfl)) dX3_widened_49 ⟨Nat.le_of_ble_eq_true rfl, Nat.le_of_ble_eq_true rfl⟩)) (fun r_6 hr_6 => ?_)
  subst hr_6
  refine lv_istore_n (lv' := [(3, .int (kCol (K j))), (0, .ref m0), (1, .int (nI j)), (2, .int kd)]) hx hb dX3_widened_52 rfl hl (by decide) rfl (fun ls hl => ?_)
  refine lv_aload_n hx hb dX3_widened_53 rfl (lv_at hl 1 rfl) ?_
  refine lv_iload_n hx hb dX3_widened_54 rfl (lv_at hl 0 rfl) ?_
  refine lv_if_ne (tgt := 75) hx hb dX3_widened_55 (by decide) (fun c_7 => ?_) (fun c_7 => ?_)
  · refine lv_iload_n hx hb dX3_widened_75 rfl (lv_at hl 0 rfl) ?_
    have z : wdC K j kd = (kCol (K j)) := by unfold wdC; rw [if_neg c_7]
    refine va_calli (va_runV (As := [.int (kCol (K j))]) (rest := []) ⟨hx, hb, hml, hown, hts⟩ (tX3_note l D A cI cJ cD cC x0 x1 x2 x3 x4 Z m0 m1 m2 m3 m4 m5 0 n K Ln Wh Re cd ct H.size (kCol (K j)) (z ▸ wdC_in K j kd)) (cwV 1 hts gX3_widened_X3_note rfl rfl rfl (by decide +kernel) ⟨Nat.le_of_ble_eq_true rfl, Nat.le_of_ble_eq_true rfl⟩) ⟨tcP.blind, (va_recv hK hP (ci := 3) (q0 := 5) rfl rfl), (tcP.go hK hP hD hE hS)⟩ rfl rfl hl.1 rfl (lv_room (Nat.le_of_ble_eq_true rfl)) dX3_widened_76 ⟨Nat.le_of_ble_eq_true rfl, Nat.le_of_ble_eq_true rfl⟩) hS (fun q _ h => h) (fun q h => h) (fun r_8 u t H locs ht hvm hw hB hz1 hk1 hS => ?_)
    subst hw
    obtain ⟨hP, hD⟩ := hB
    rw [ht] at hP
    have hP : va_P D vwCl (tc_Z cI cJ cD x0 x1 x2 x3 x4 Z m0 m1 m2 m3 m4 m5 0 n K Ln Wh Re (wdC K j kd) (noteC ct (wdC K j kd))) H := by rw [z]; exact hP
    have hD : va_D A (tc_Z cI cJ cD x0 x1 x2 x3 x4 Z m0 m1 m2 m3 m4 m5 0 n K Ln Wh Re (wdC K j kd) (noteC ct (wdC K j kd))) := by rw [z]; exact hD
    refine lv_if_ne (tgt := 84) hx hb dX3_widened_79 (by decide) (fun q => absurd (tb_nd (by rw [← z]; exact hc)) q) (fun _ => ?_)
    refine lv_iconst (v := (-1)) hx hb dX3_widened_82 (by decide) ?_
    exact W.iret (v := (-1)) hx hb hr (fun t9 ht9 hW9 => ⟨⟨(-1), (), rfl, rfl, by rw [ht9]; exact hP, hD⟩, hS.F ht9⟩) hS.2.2 dX3_widened_83
  · refine lv_aload_n hx hb dX3_widened_58 rfl (lv_at hl 1 rfl) ?_
    refine va_get (D := D) (ci := 3) (fs := [.int 0, .int (nI n), .ref m1, .ref m2, .ref m3, .ref m4, .int cd, .ref m5]) (v := .ref m1) (C := RX3) (T := TX3) (N := 8) hx hb hts (by decide +kernel) hown hK hP 5 rfl rfl 2 (by decide) (hts (.fieldLink RX3 9 "TypedColumnsModel" "kinds" "[I") (by decide +kernel)) (fun _ h9 => h9) rfl dX3_widened_59 ?_
    refine lv_iload_n hx hb dX3_widened_62 rfl (lv_at hl 2 rfl) ?_
    refine tc_iald (f := K) (v := (K j)) hx hb hK hP 6 0 rfl rfl (vp_in_nI (show j < 60 by omega) (by decide)) (by rw [nI_clamp (show j < 2 ^ 31 by omega)]) dX3_widened_63 ?_
    refine lv_iload_n hx hb dX3_widened_64 rfl (lv_at hl 3 rfl) ?_
    refine vp_callSi (W.runS (As := [.int (K j), .int kd]) (rest := [.ref m0]) ⟨hx, hb, hml, hown, hts⟩ (kX3_widens l (K j) kd) (va_cwS 2 hts gX3_widened_X3_widens rfl rfl rfl (by decide +kernel) ⟨Nat.le_of_ble_eq_true rfl, Nat.le_of_ble_eq_true rfl⟩) ⟨fun a U g mk q => q, fun U hU hW => ⟨rfl, trivial⟩⟩ rfl rfl hl.1 rfl (lv_room (Nat.le_of_ble_eq_true rfl)) dX3_widened_65 ⟨Nat.zero_le _, Nat.zero_le _⟩) (fun r_10 hr_10 => ?_)
    subst hr_10
    refine lv_if_ne (tgt := 75) hx hb dX3_widened_68 (by decide) (fun c_11 => ?_) (fun c_11 => ?_)
    · refine lv_iload_n hx hb dX3_widened_75 rfl (lv_at hl 0 rfl) ?_
      exact absurd (show wdC K j kd = 0 from by unfold wdC; rw [if_pos c_7, if_pos ((tb_1 _).mp c_11)]) hc
    · refine lv_iconst (v := 4) hx hb dX3_widened_71 (by decide) ?_
      refine lv_goto (tgt := 76) hx hb dX3_widened_72 (by decide) ?_
      have z : wdC K j kd = 4 := by unfold wdC; rw [if_pos c_7, if_neg (by rw [(tb_0 _).mp c_11]; decide)]
      refine va_calli (va_runV (As := [.int 4]) (rest := []) ⟨hx, hb, hml, hown, hts⟩ (tX3_note l D A cI cJ cD cC x0 x1 x2 x3 x4 Z m0 m1 m2 m3 m4 m5 0 n K Ln Wh Re cd ct H.size 4 (z ▸ wdC_in K j kd)) (cwV 1 hts gX3_widened_X3_note rfl rfl rfl (by decide +kernel) ⟨Nat.le_of_ble_eq_true rfl, Nat.le_of_ble_eq_true rfl⟩) ⟨tcP.blind, (va_recv hK hP (ci := 3) (q0 := 5) rfl rfl), (tcP.go hK hP hD hE hS)⟩ rfl rfl hl.1 rfl (lv_room (Nat.le_of_ble_eq_true rfl)) dX3_widened_76 ⟨Nat.le_of_ble_eq_true rfl, Nat.le_of_ble_eq_true rfl⟩) hS (fun q _ h => h) (fun q h => h) (fun r_12 u t H locs ht hvm hw hB hz1 hk1 hS => ?_)
      subst hw
      obtain ⟨hP, hD⟩ := hB
      rw [ht] at hP
      have hP : va_P D vwCl (tc_Z cI cJ cD x0 x1 x2 x3 x4 Z m0 m1 m2 m3 m4 m5 0 n K Ln Wh Re (wdC K j kd) (noteC ct (wdC K j kd))) H := by rw [z]; exact hP
      have hD : va_D A (tc_Z cI cJ cD x0 x1 x2 x3 x4 Z m0 m1 m2 m3 m4 m5 0 n K Ln Wh Re (wdC K j kd) (noteC ct (wdC K j kd))) := by rw [z]; exact hD
      refine lv_if_ne (tgt := 84) hx hb dX3_widened_79 (by decide) (fun q => absurd (tb_nd (by rw [← z]; exact hc)) q) (fun _ => ?_)
      refine lv_iconst (v := (-1)) hx hb dX3_widened_82 (by decide) ?_
      exact W.iret (v := (-1)) hx hb hr (fun t9 ht9 hW9 => ⟨⟨(-1), (), rfl, rfl, by rw [ht9]; exact hP, hD⟩, hS.F ht9⟩) hS.2.2 dX3_widened_83
theorem kHas_Is {k : Int32} (h : kHas k = true) : kIs k = true := by
  have h1 := (kHas_iff k).mp h
  exact (kIs_iff k).mpr (by omega)
set_option maxHeartbeats 4000000 in
set_option maxRecDepth 100000 in
theorem tX3_widened (l : Launch) (D : va_G) (A : Nat → Prop) (cI cJ cD cC : ClassId) (x0 x1 x2 x3 x4 : Nat × va_E) (Z : va_W) (m0 m1 m2 m3 m4 m5 : Nat) (th : Int32) (n : Nat) (K : Nat → Int32) (Ln : Nat → Nat) (Wh : Nat → Int64) (Re : Nat → UInt64) (cd : Int32) (ct : Nat → Int32) (sz : Nat) (hI : tcI n K Ln Wh Re) (j : Nat) (hj : j < n) (kd : Int32) (hk : kHas kd = true) (hn : n < 60) (hc : wdC K j kd = 0) : Met l yX3_widened wsX3_widened ({ frames := 2, cells := 0, slots := 0, locals := 44 }) (tcP D A (tcTY cI cJ cD cC) sz [.ref m0, .int (nI j), .int kd] (tc_Z cI cJ cD x0 x1 x2 x3 x4 Z m0 m1 m2 m3 m4 m5 th n K Ln Wh Re cd ct)) (va_Qi (fun r (_ : Unit) => r = nI n) (fun _ t => tcB D A (tc_Z cI cJ cD x0 x1 x2 x3 x4 Z m0 m1 m2 m3 m4 m5 0 (n + 1) (va_up K n kd) (va_up Ln n (Ln j)) (tc_put n (Ln j) (fun i => Wh (40 * j + i)) 0 Wh) (tc_put n (Ln j) (wdV K Wh Re j kd) 0 Re) 0 (noteC ct 0)) t) A) 0 0 A := by
  refine Met.ofW (cc := cX3_widened) (maxL := 6) (ret := (some .int)) (by decide) rfl ?_
  intro p e s m args below meth c s₁ B hml hv
  obtain ⟨rfl, hsz, hP, hK, hD, hE⟩ := hv
  have hx := B.exec
  have hb := B.bytes
  have hr := B.returns
  have hts := atoms_spec (ws := wsX3_widened) B.pre
  have hown : s.vm.findClass RX3 = some m.cls := findClass_of_methodNamed B.named
  have hlocks := B.notSynchronized
  have hl := lv_entry ([.ref m0, .int (nI j), .int kd]) (n := 6) (Nat.le_of_ble_eq_true rfl)
  rw [lg_entry_eq]
  generalize (lg_sl ([.ref m0, .int (nI j), .int kd]) ++ List.replicate (6 - (lg_sl ([.ref m0, .int (nI j), .int kd])).length) Slot.unset).toArray = ls at hl ⊢
  have hl : lv_has ls 6 [(0, .ref m0), (1, .int (nI j)), (2, .int kd)] := hl
  subst hsz
  have hS : va_S A s.heap s.heap [] := va_S.rf
  have hn60 : n ≤ 60 := hI.1
  have hkI := (hI.2.1 j hj).1
  have hL := (hI.2.1 j hj).2.1
  obtain ⟨hc0, hc1⟩ := wdC_0 hc
  have hh := kCol_has hkI hc0
  refine lv_aload_n hx hb dX3_widened_0 rfl (lv_at hl 0 rfl) ?_
  refine lv_iconst (v := 0) hx hb dX3_widened_1 (by decide) ?_
  refine va_put (D := D) (ci := 3) (fs := [.int th, .int (nI n), .ref m1, .ref m2, .ref m3, .ref m4, .int cd, .ref m5]) (v := .int 0) (ty := .int) (C := RX3) (T := TX3) (N := 8) hx hb hts (by decide +kernel) tyX3 tyX3_ok nmX3 hown hK hP hD hS 5 rfl rfl 0 (by decide) (hts (.fieldLink RX3 27 "TypedColumnsModel" "thrown" "I") (by decide +kernel)) (fun _ h9 => h9) rfl (by decide +kernel) rfl rfl (Nat.le_of_ble_eq_true rfl) dX3_widened_2 (fun H locs hP hD hS => ?_)
  have hP : va_P D vwCl (tc_Z cI cJ cD x0 x1 x2 x3 x4 Z m0 m1 m2 m3 m4 m5 0 n K Ln Wh Re cd ct) H := hP
  have hD : va_D A (tc_Z cI cJ cD x0 x1 x2 x3 x4 Z m0 m1 m2 m3 m4 m5 0 n K Ln Wh Re cd ct) := hD
  refine lv_aload_n hx hb dX3_widened_5 rfl (lv_at hl 0 rfl) ?_
  refine lv_iload_n hx hb dX3_widened_6 rfl (lv_at hl 1 rfl) ?_
  refine vp_callSi (tc_CR (va_runV (As := [.int (nI j)]) (rest := []) ⟨hx, hb, hml, hown, hts⟩ (tX3_isColumn_y l D A cI cJ cD cC x0 x1 x2 x3 x4 Z m0 m1 m2 m3 m4 m5 0 n K Ln Wh Re cd ct H.size hI j hj) (cwV 1 hts gX3_widened_X3_isColumn rfl rfl rfl (by decide +kernel) ⟨Nat.le_of_ble_eq_true rfl, Nat.le_of_ble_eq_true rfl⟩) ⟨tcP.blind, (va_recv hK hP (ci := 3) (q0 := 5) rfl rfl), (tcP.go hK hP hD hE hS)⟩ rfl rfl hl.1 rfl (lv_room (Nat.le_of_ble_eq_true rfl)) dX3_widened_7 ⟨Nat.le_of_ble_eq_true rfl, Nat.le_of_ble_eq_true rfl⟩)) (fun r_1 hr_1 => ?_)
  subst hr_1
  refine lv_if_ne (tgt := 19) hx hb dX3_widened_10 (by decide) (fun _ => ?_) (fun q => absurd q (by decide))
  refine lv_iload_n hx hb dX3_widened_19 rfl (lv_at hl 2 rfl) ?_
  refine vp_callSi (W.runS (As := [.int kd]) (rest := []) ⟨hx, hb, hml, hown, hts⟩ (kX3_has l kd) (va_cwS 1 hts gX3_widened_X3_has rfl rfl rfl (by decide +kernel) ⟨Nat.le_of_ble_eq_true rfl, Nat.le_of_ble_eq_true rfl⟩) ⟨fun a U g mk q => q, fun U hU hW => ⟨rfl, trivial⟩⟩ rfl rfl hl.1 rfl (lv_room (Nat.le_of_ble_eq_true rfl)) dX3_widened_20 ⟨Nat.zero_le _, Nat.zero_le _⟩) (fun r_3 hr_3 => ?_)
  subst hr_3
  refine lv_if_ne (tgt := 32) hx hb dX3_widened_23 (by decide) (fun _ => ?_) (fun q => absurd q ((tb_1 _).mpr hk))
  refine lv_aload_n hx hb dX3_widened_32 rfl (lv_at hl 0 rfl) ?_
  refine va_get (D := D) (ci := 3) (fs := [.int 0, .int (nI n), .ref m1, .ref m2, .ref m3, .ref m4, .int cd, .ref m5]) (v := .int (nI n)) (C := RX3) (T := TX3) (N := 8) hx hb hts (by decide +kernel) hown hK hP 5 rfl rfl 1 (by decide) (hts (.fieldLink RX3 31 "TypedColumnsModel" "columns" "I") (by decide +kernel)) (fun _ h9 => h9) rfl dX3_widened_33 ?_
  refine lv_bipush (v := 60) hx hb dX3_widened_36 (by decide) ?_
  refine lv_icmp_ne (tgt := 47) hx hb dX3_widened_38 (by decide) (fun _ => ?_) (fun q => absurd q (nI_ne (b := 60) (by omega) (by decide) (by omega)))
  refine lv_aload_n hx hb dX3_widened_47 rfl (lv_at hl 0 rfl) ?_
  refine lv_iload_n hx hb dX3_widened_48 rfl (lv_at hl 1 rfl) ?_
  refine vp_callSi (tc_CR (va_runV (As := [.int (nI j)]) (rest := []) ⟨hx, hb, hml, hown, hts⟩ (tX3_codeOf l D A cI cJ cD cC x0 x1 x2 x3 x4 Z m0 m1 m2 m3 m4 m5 0 n K Ln Wh Re cd ct H.size hI j hj) (cwV 1 hts gX3_widened_X3_codeOf rfl rfl rfl (by decide +kernel) ⟨Nat.le_of_ble_eq_true rfl, Nat.le_of_ble_eq_true rfl⟩) ⟨tcP.blind, (va_recv hK hP (ci := 3) (q0 := 5) rfl rfl), (tcP.go hK hP hD hE hS)⟩ rfl rfl hl.1 rfl (lv_room (Nat.le_of_ble_eq_true rfl)) dX3_widened_49 ⟨Nat.le_of_ble_eq_true rfl, Nat.le_of_ble_eq_true rfl⟩)) (fun r_6 hr_6 => ?_)
  subst hr_6
  refine lv_istore_n (lv' := [(3, .int (kCol (K j))), (0, .ref m0), (1, .int (nI j)), (2, .int kd)]) hx hb dX3_widened_52 rfl hl (by decide) rfl (fun ls hl => ?_)
  refine lv_aload_n hx hb dX3_widened_53 rfl (lv_at hl 1 rfl) ?_
  refine lv_iload_n hx hb dX3_widened_54 rfl (lv_at hl 0 rfl) ?_
  refine lv_if_ne (tgt := 75) hx hb dX3_widened_55 (by decide) (fun q => absurd (hc0) q) (fun _ => ?_)
  refine lv_aload_n hx hb dX3_widened_58 rfl (lv_at hl 1 rfl) ?_
  refine va_get (D := D) (ci := 3) (fs := [.int 0, .int (nI n), .ref m1, .ref m2, .ref m3, .ref m4, .int cd, .ref m5]) (v := .ref m1) (C := RX3) (T := TX3) (N := 8) hx hb hts (by decide +kernel) hown hK hP 5 rfl rfl 2 (by decide) (hts (.fieldLink RX3 9 "TypedColumnsModel" "kinds" "[I") (by decide +kernel)) (fun _ h9 => h9) rfl dX3_widened_59 ?_
  refine lv_iload_n hx hb dX3_widened_62 rfl (lv_at hl 2 rfl) ?_
  refine tc_iald (f := K) (v := (K j)) hx hb hK hP 6 0 rfl rfl (vp_in_nI (show j < 60 by omega) (by decide)) (by rw [nI_clamp (show j < 2 ^ 31 by omega)]) dX3_widened_63 ?_
  refine lv_iload_n hx hb dX3_widened_64 rfl (lv_at hl 3 rfl) ?_
  refine vp_callSi (W.runS (As := [.int (K j), .int kd]) (rest := [.ref m0]) ⟨hx, hb, hml, hown, hts⟩ (kX3_widens l (K j) kd) (va_cwS 2 hts gX3_widened_X3_widens rfl rfl rfl (by decide +kernel) ⟨Nat.le_of_ble_eq_true rfl, Nat.le_of_ble_eq_true rfl⟩) ⟨fun a U g mk q => q, fun U hU hW => ⟨rfl, trivial⟩⟩ rfl rfl hl.1 rfl (lv_room (Nat.le_of_ble_eq_true rfl)) dX3_widened_65 ⟨Nat.zero_le _, Nat.zero_le _⟩) (fun r_8 hr_8 => ?_)
  subst hr_8
  refine lv_if_ne (tgt := 75) hx hb dX3_widened_68 (by decide) (fun _ => ?_) (fun q => absurd q ((tb_1 _).mpr hc1))
  refine lv_iload_n hx hb dX3_widened_75 rfl (lv_at hl 0 rfl) ?_
  refine va_calli (va_runV (As := [.int (kCol (K j))]) (rest := []) ⟨hx, hb, hml, hown, hts⟩ (tX3_note l D A cI cJ cD cC x0 x1 x2 x3 x4 Z m0 m1 m2 m3 m4 m5 0 n K Ln Wh Re cd ct H.size (kCol (K j)) (kCol_in _)) (cwV 1 hts gX3_widened_X3_note rfl rfl rfl (by decide +kernel) ⟨Nat.le_of_ble_eq_true rfl, Nat.le_of_ble_eq_true rfl⟩) ⟨tcP.blind, (va_recv hK hP (ci := 3) (q0 := 5) rfl rfl), (tcP.go hK hP hD hE hS)⟩ rfl rfl hl.1 rfl (lv_room (Nat.le_of_ble_eq_true rfl)) dX3_widened_76 ⟨Nat.le_of_ble_eq_true rfl, Nat.le_of_ble_eq_true rfl⟩) hS (fun q _ h => h) (fun q h => h) (fun r_10 u t H locs ht hvm hw hB hz1 hk1 hS => ?_)
  subst hw
  obtain ⟨hP, hD⟩ := hB
  rw [ht] at hP
  rw [hc0] at hP hD
  refine lv_if_ne (tgt := 84) hx hb dX3_widened_79 (by decide) (fun _ => ?_) (fun q => absurd q (tb_d hc0))
  refine lv_aload_n hx hb dX3_widened_84 rfl (lv_at hl 1 rfl) ?_
  refine lv_iload_n hx hb dX3_widened_85 rfl (lv_at hl 3 rfl) ?_
  refine lv_aload_n hx hb dX3_widened_86 rfl (lv_at hl 1 rfl) ?_
  refine va_get (D := D) (ci := 3) (fs := [.int 0, .int (nI n), .ref m1, .ref m2, .ref m3, .ref m4, .int 0, .ref m5]) (v := .ref m2) (C := RX3) (T := TX3) (N := 8) hx hb hts (by decide +kernel) hown hK hP 5 rfl rfl 3 (by decide) (hts (.fieldLink RX3 13 "TypedColumnsModel" "lengths" "[I") (by decide +kernel)) (fun _ h9 => h9) rfl dX3_widened_87 ?_
  refine lv_iload_n hx hb dX3_widened_90 rfl (lv_at hl 2 rfl) ?_
  refine tc_iald (f := (fun t8 => nI (Ln t8))) (v := (nI (Ln j))) hx hb hK hP 7 0 rfl rfl (vp_in_nI (show j < 60 by omega) (by decide)) (by rw [nI_clamp (show j < 2 ^ 31 by omega)]) dX3_widened_91 ?_
  refine va_calli (va_runV (As := [.int kd, .int (nI (Ln j))]) (rest := []) ⟨hx, hb, hml, hown, hts⟩ (tX3_create l D A cI cJ cD cC x0 x1 x2 x3 x4 Z m0 m1 m2 m3 m4 m5 0 n K Ln Wh Re 0 (noteC ct 0) H.size kd (nI (Ln j)) (Ln j) hL (kHas_Is hk) (fun _ => rfl) (fun h => absurd hk (by rw [h]; decide)) hn) (cwV 2 hts gX3_widened_X3_create rfl rfl rfl (by decide +kernel) ⟨Nat.le_of_ble_eq_true rfl, Nat.le_of_ble_eq_true rfl⟩) ⟨tcP.blind, (va_recv hK hP (ci := 3) (q0 := 5) rfl rfl), (tcP.go hK hP hD hE hS)⟩ rfl rfl hl.1 rfl (lv_room (Nat.le_of_ble_eq_true rfl)) dX3_widened_92 ⟨Nat.le_of_ble_eq_true rfl, Nat.le_of_ble_eq_true rfl⟩) hS (fun q _ h => h) (fun q h => h) (fun r_12 u t H locs ht hvm hw hB hz1 hk1 hS => ?_)
  subst hw
  obtain ⟨hP, hD⟩ := hB
  rw [ht] at hP
  refine lv_istore (lv' := [(4, .int (nI n)), (3, .int (kCol (K j))), (0, .ref m0), (1, .int (nI j)), (2, .int kd)]) hx hb dX3_widened_95 hl (by decide) rfl (fun ls hl => ?_)
  refine lv_iconst (v := 0) hx hb dX3_widened_97 (by decide) ?_
  refine lv_istore (lv' := [(5, .int 0), (4, .int (nI n)), (3, .int (kCol (K j))), (0, .ref m0), (1, .int (nI j)), (2, .int kd)]) hx hb dX3_widened_98 hl (by decide) rfl (fun ls hl => ?_)
  have hP : va_P D vwCl (tc_Z cI cJ cD x0 x1 x2 x3 x4 Z m0 m1 m2 m3 m4 m5 0 (n + 1) (va_up K n kd) (va_up Ln n (Ln j)) (zq n 0 (fun i => Wh (40 * j + i)) (zq n 40 (fun _ => 0) Wh)) (zq n 0 (wdV K Wh Re j kd) (zq n 40 (fun _ => 0) Re)) 0 (noteC ct 0)) H := by rw [zq_0, zq_0]; exact hP
  have hD : va_D A (tc_Z cI cJ cD x0 x1 x2 x3 x4 Z m0 m1 m2 m3 m4 m5 0 (n + 1) (va_up K n kd) (va_up Ln n (Ln j)) (zq n 0 (fun i => Wh (40 * j + i)) (zq n 40 (fun _ => 0) Wh)) (zq n 0 (wdV K Wh Re j kd) (zq n 40 (fun _ => 0) Re)) 0 (noteC ct 0)) := by rw [zq_0, zq_0]; exact hD
  have hl0 : lv_has ls 6 [(5, .int (nI 0)), (4, .int (nI n)), (3, .int (kCol (K j))), (0, .ref m0), (1, .int (nI j)), (2, .int kd)] := lv_sub hl [0, 1, 2, 3, 4, 5] rfl
  refine tc_loop (fun k9 H locs ls => ∃ i : Nat, i + k9 = (Ln j) ∧ va_P D vwCl (tc_Z cI cJ cD x0 x1 x2 x3 x4 Z m0 m1 m2 m3 m4 m5 0 (n + 1) (va_up K n kd) (va_up Ln n (Ln j)) (zq n i (fun i => Wh (40 * j + i)) (zq n 40 (fun _ => 0) Wh)) (zq n i (wdV K Wh Re j kd) (zq n 40 (fun _ => 0) Re)) 0 (noteC ct 0)) H ∧ va_D A (tc_Z cI cJ cD x0 x1 x2 x3 x4 Z m0 m1 m2 m3 m4 m5 0 (n + 1) (va_up K n kd) (va_up Ln n (Ln j)) (zq n i (fun i => Wh (40 * j + i)) (zq n 40 (fun _ => 0) Wh)) (zq n i (wdV K Wh Re j kd) (zq n 40 (fun _ => 0) Re)) 0 (noteC ct 0)) ∧ va_S A s.heap H locs ∧ lv_has ls 6 [(5, .int (nI i)), (4, .int (nI n)), (3, .int (kCol (K j))), (0, .ref m0), (1, .int (nI j)), (2, .int kd)]) (fun k9 H locs ls hi9 ih => ?_) (fun H locs ls hi9 => ?_) (Ln j) ⟨0, by omega, hP, hD, hS, hl0⟩
  · obtain ⟨i, hik, hP, hD, hS, hl⟩ := hi9
    have hiN : i < (Ln j) := by omega
    have hq : i < 40 := by omega
    refine lv_iload hx hb dX3_widened_100 (lv_at hl 0 rfl) ?_
    refine lv_aload_n hx hb dX3_widened_102 rfl (lv_at hl 3 rfl) ?_
    refine va_get (D := D) (ci := 3) (fs := [.int 0, .int (nI (n + 1)), .ref m1, .ref m2, .ref m3, .ref m4, .int 0, .ref m5]) (v := .ref m2) (C := RX3) (T := TX3) (N := 8) hx hb hts (by decide +kernel) hown hK hP 5 rfl rfl 3 (by decide) (hts (.fieldLink RX3 13 "TypedColumnsModel" "lengths" "[I") (by decide +kernel)) (fun _ h9 => h9) rfl dX3_widened_103 ?_
    refine lv_iload_n hx hb dX3_widened_106 rfl (lv_at hl 4 rfl) ?_
    refine tc_iald (f := (fun t8 => nI ((va_up Ln n (Ln j)) t8))) (v := (nI ((va_up Ln n (Ln j)) j))) hx hb hK hP 7 0 rfl rfl (vp_in_nI (show j < 60 by omega) (by decide)) (by rw [nI_clamp (show j < 2 ^ 31 by omega)]) dX3_widened_107 ?_
    rw [tcu_ne Ln (Ln j) (Nat.ne_of_lt hj)]
    refine lv_icmp_ge (tgt := 223) hx hb dX3_widened_108 (by decide) (fun q => absurd q (nI_ge hiN (by omega))) (fun _ => ?_)
    refine lv_aload_n hx hb dX3_widened_111 rfl (lv_at hl 3 rfl) ?_
    refine va_get (D := D) (ci := 3) (fs := [.int 0, .int (nI (n + 1)), .ref m1, .ref m2, .ref m3, .ref m4, .int 0, .ref m5]) (v := .ref m3) (C := RX3) (T := TX3) (N := 8) hx hb hts (by decide +kernel) hown hK hP 5 rfl rfl 4 (by decide) (hts (.fieldLink RX3 16 "TypedColumnsModel" "whole" "[J") (by decide +kernel)) (fun _ h9 => h9) rfl dX3_widened_112 ?_
    refine lv_iload hx hb dX3_widened_115 (lv_at hl 1 rfl) ?_
    refine lv_iload hx hb dX3_widened_117 (lv_at hl 0 rfl) ?_
    refine vp_callSi (W.runS (As := [.int (nI n), .int (nI i)]) (rest := [.ref m3]) ⟨hx, hb, hml, hown, hts⟩ (kX3_at l (nI n) (nI i)) (va_cwS 2 hts gX3_widened_X3_at rfl rfl rfl (by decide +kernel) ⟨Nat.le_of_ble_eq_true rfl, Nat.le_of_ble_eq_true rfl⟩) ⟨fun a U g mk q => q, fun U hU hW => ⟨rfl, trivial⟩⟩ rfl rfl hl.1 rfl (lv_room (Nat.le_of_ble_eq_true rfl)) dX3_widened_119 ⟨Nat.zero_le _, Nat.zero_le _⟩) (fun r_14 hr_14 => ?_)
    subst hr_14
    rw [at_n (j := n) (q := i)]
    refine lv_aload_n hx hb dX3_widened_122 rfl (lv_at hl 3 rfl) ?_
    refine va_get (D := D) (ci := 3) (fs := [.int 0, .int (nI (n + 1)), .ref m1, .ref m2, .ref m3, .ref m4, .int 0, .ref m5]) (v := .ref m3) (C := RX3) (T := TX3) (N := 8) hx hb hts (by decide +kernel) hown hK hP 5 rfl rfl 4 (by decide) (hts (.fieldLink RX3 16 "TypedColumnsModel" "whole" "[J") (by decide +kernel)) (fun _ h9 => h9) rfl dX3_widened_123 ?_
    refine lv_iload_n hx hb dX3_widened_126 rfl (lv_at hl 4 rfl) ?_
    refine lv_iload hx hb dX3_widened_127 (lv_at hl 0 rfl) ?_
    refine vp_callSi (W.runS (As := [.int (nI j), .int (nI i)]) (rest := [.ref m3, .int (nI (40 * n + i)), .ref m3]) ⟨hx, hb, hml, hown, hts⟩ (kX3_at l (nI j) (nI i)) (va_cwS 2 hts gX3_widened_X3_at rfl rfl rfl (by decide +kernel) ⟨Nat.le_of_ble_eq_true rfl, Nat.le_of_ble_eq_true rfl⟩) ⟨fun a U g mk q => q, fun U hU hW => ⟨rfl, trivial⟩⟩ rfl rfl hl.1 rfl (lv_room (Nat.le_of_ble_eq_true rfl)) dX3_widened_129 ⟨Nat.zero_le _, Nat.zero_le _⟩) (fun r_15 hr_15 => ?_)
    subst hr_15
    rw [at_n (j := j) (q := i)]
    refine tc_lald (f := (zq n i (fun i => Wh (40 * j + i)) (zq n 40 (fun _ => 0) Wh))) (v := ((zq n i (fun i => Wh (40 * j + i)) (zq n 40 (fun _ => 0) Wh)) (40 * j + i))) hx hb hK hP 8 1 rfl rfl (vp_in_nI (show (40 * j + i) < 2400 by omega) (by decide)) (by rw [nI_clamp (show (40 * j + i) < 2 ^ 31 by omega)]) dX3_widened_132 ?_
    rw [zq_other hj hq]
    refine va_last (f := (zq n i (fun i => Wh (40 * j + i)) (zq n 40 (fun _ => 0) Wh))) hx hb hK hP hD hS 8 1 rfl rfl (vp_in_nI (show (40 * n + i) < 2400 by omega) (by decide)) dX3_widened_133 (fun H locs hP hD hS => ?_)
    rw [nI_clamp (show (40 * n + i) < 2 ^ 31 by omega)] at hP hD
    have hP : va_P D vwCl (tc_Z cI cJ cD x0 x1 x2 x3 x4 Z m0 m1 m2 m3 m4 m5 0 (n + 1) (va_up K n kd) (va_up Ln n (Ln j)) (zq n (i + 1) (fun i => Wh (40 * j + i)) (zq n 40 (fun _ => 0) Wh)) (zq n i (wdV K Wh Re j kd) (zq n 40 (fun _ => 0) Re)) 0 (noteC ct 0)) H := by rw [← zq_sL n i (fun i => Wh (40 * j + i)) (zq n 40 (fun _ => 0) Wh)]; exact hP
    have hD : va_D A (tc_Z cI cJ cD x0 x1 x2 x3 x4 Z m0 m1 m2 m3 m4 m5 0 (n + 1) (va_up K n kd) (va_up Ln n (Ln j)) (zq n (i + 1) (fun i => Wh (40 * j + i)) (zq n 40 (fun _ => 0) Wh)) (zq n i (wdV K Wh Re j kd) (zq n 40 (fun _ => 0) Re)) 0 (noteC ct 0)) := by rw [← zq_sL n i (fun i => Wh (40 * j + i)) (zq n 40 (fun _ => 0) Wh)]; exact hD
    refine lv_aload_n hx hb dX3_widened_134 rfl (lv_at hl 3 rfl) ?_
    refine va_get (D := D) (ci := 3) (fs := [.int 0, .int (nI (n + 1)), .ref m1, .ref m2, .ref m3, .ref m4, .int 0, .ref m5]) (v := .ref m4) (C := RX3) (T := TX3) (N := 8) hx hb hts (by decide +kernel) hown hK hP 5 rfl rfl 5 (by decide) (hts (.fieldLink RX3 20 "TypedColumnsModel" "real" "[D") (by decide +kernel)) (fun _ h9 => h9) rfl dX3_widened_135 ?_
    refine lv_iload hx hb dX3_widened_138 (lv_at hl 1 rfl) ?_
    refine lv_iload hx hb dX3_widened_140 (lv_at hl 0 rfl) ?_
    refine vp_callSi (W.runS (As := [.int (nI n), .int (nI i)]) (rest := [.ref m4]) ⟨hx, hb, hml, hown, hts⟩ (kX3_at l (nI n) (nI i)) (va_cwS 2 hts gX3_widened_X3_at rfl rfl rfl (by decide +kernel) ⟨Nat.le_of_ble_eq_true rfl, Nat.le_of_ble_eq_true rfl⟩) ⟨fun a U g mk q => q, fun U hU hW => ⟨rfl, trivial⟩⟩ rfl rfl hl.1 rfl (lv_room (Nat.le_of_ble_eq_true rfl)) dX3_widened_142 ⟨Nat.zero_le _, Nat.zero_le _⟩) (fun r_16 hr_16 => ?_)
    subst hr_16
    rw [at_n (j := n) (q := i)]
    refine lv_iload_n hx hb dX3_widened_145 rfl (lv_at hl 5 rfl) ?_
    refine vp_callSi (W.runS (As := [.int kd]) (rest := [.int (nI (40 * n + i)), .ref m4]) ⟨hx, hb, hml, hown, hts⟩ (kX3_isReal l kd) (va_cwS 1 hts gX3_widened_X3_isReal rfl rfl rfl (by decide +kernel) ⟨Nat.le_of_ble_eq_true rfl, Nat.le_of_ble_eq_true rfl⟩) ⟨fun a U g mk q => q, fun U hU hW => ⟨rfl, trivial⟩⟩ rfl rfl hl.1 rfl (lv_room (Nat.le_of_ble_eq_true rfl)) dX3_widened_146 ⟨Nat.zero_le _, Nat.zero_le _⟩) (fun r_17 hr_17 => ?_)
    subst hr_17
    refine lv_if_ne (tgt := 156) hx hb dX3_widened_149 (by decide) (fun c_18 => ?_) (fun c_18 => ?_)
    · refine lv_aload_n hx hb dX3_widened_156 rfl (lv_at hl 3 rfl) ?_
      refine va_get (D := D) (ci := 3) (fs := [.int 0, .int (nI (n + 1)), .ref m1, .ref m2, .ref m3, .ref m4, .int 0, .ref m5]) (v := .ref m1) (C := RX3) (T := TX3) (N := 8) hx hb hts (by decide +kernel) hown hK hP 5 rfl rfl 2 (by decide) (hts (.fieldLink RX3 9 "TypedColumnsModel" "kinds" "[I") (by decide +kernel)) (fun _ h9 => h9) rfl dX3_widened_157 ?_
      refine lv_iload_n hx hb dX3_widened_160 rfl (lv_at hl 4 rfl) ?_
      refine tc_iald (f := (va_up K n kd)) (v := ((va_up K n kd) j)) hx hb hK hP 6 0 rfl rfl (vp_in_nI (show j < 60 by omega) (by decide)) (by rw [nI_clamp (show j < 2 ^ 31 by omega)]) dX3_widened_161 ?_
      rw [tcu_ne K kd (Nat.ne_of_lt hj)]
      refine vp_callSi (W.runS (As := [.int (K j)]) (rest := [.int (nI (40 * n + i)), .ref m4]) ⟨hx, hb, hml, hown, hts⟩ (kX3_isReal l (K j)) (va_cwS 1 hts gX3_widened_X3_isReal rfl rfl rfl (by decide +kernel) ⟨Nat.le_of_ble_eq_true rfl, Nat.le_of_ble_eq_true rfl⟩) ⟨fun a U g mk q => q, fun U hU hW => ⟨rfl, trivial⟩⟩ rfl rfl hl.1 rfl (lv_room (Nat.le_of_ble_eq_true rfl)) dX3_widened_162 ⟨Nat.zero_le _, Nat.zero_le _⟩) (fun r_19 hr_19 => ?_)
      subst hr_19
      refine lv_if_eq (tgt := 182) hx hb dX3_widened_165 (by decide) (fun c_20 => ?_) (fun c_20 => ?_)
      · refine lv_iload_n hx hb dX3_widened_182 rfl (lv_at hl 5 rfl) ?_
        refine lv_bipush (v := 7) hx hb dX3_widened_183 (by decide) ?_
        refine lv_icmp_ne (tgt := 204) hx hb dX3_widened_185 (by decide) (fun c_21 => ?_) (fun c_21 => ?_)
        · refine lv_aload_n hx hb dX3_widened_204 rfl (lv_at hl 3 rfl) ?_
          refine va_get (D := D) (ci := 3) (fs := [.int 0, .int (nI (n + 1)), .ref m1, .ref m2, .ref m3, .ref m4, .int 0, .ref m5]) (v := .ref m3) (C := RX3) (T := TX3) (N := 8) hx hb hts (by decide +kernel) hown hK hP 5 rfl rfl 4 (by decide) (hts (.fieldLink RX3 16 "TypedColumnsModel" "whole" "[J") (by decide +kernel)) (fun _ h9 => h9) rfl dX3_widened_205 ?_
          refine lv_iload_n hx hb dX3_widened_208 rfl (lv_at hl 4 rfl) ?_
          refine lv_iload hx hb dX3_widened_209 (lv_at hl 0 rfl) ?_
          refine vp_callSi (W.runS (As := [.int (nI j), .int (nI i)]) (rest := [.ref m3, .int (nI (40 * n + i)), .ref m4]) ⟨hx, hb, hml, hown, hts⟩ (kX3_at l (nI j) (nI i)) (va_cwS 2 hts gX3_widened_X3_at rfl rfl rfl (by decide +kernel) ⟨Nat.le_of_ble_eq_true rfl, Nat.le_of_ble_eq_true rfl⟩) ⟨fun a U g mk q => q, fun U hU hW => ⟨rfl, trivial⟩⟩ rfl rfl hl.1 rfl (lv_room (Nat.le_of_ble_eq_true rfl)) dX3_widened_211 ⟨Nat.zero_le _, Nat.zero_le _⟩) (fun r_22 hr_22 => ?_)
          subst hr_22
          rw [at_n (j := j) (q := i)]
          refine tc_lald (f := (zq n (i + 1) (fun i => Wh (40 * j + i)) (zq n 40 (fun _ => 0) Wh))) (v := ((zq n (i + 1) (fun i => Wh (40 * j + i)) (zq n 40 (fun _ => 0) Wh)) (40 * j + i))) hx hb hK hP 8 1 rfl rfl (vp_in_nI (show (40 * j + i) < 2400 by omega) (by decide)) (by rw [nI_clamp (show (40 * j + i) < 2 ^ 31 by omega)]) dX3_widened_214 ?_
          rw [zq_other hj hq]
          refine lv_l2d hx hb dX3_widened_215 ?_
          refine va_dast (f := (zq n i (wdV K Wh Re j kd) (zq n 40 (fun _ => 0) Re))) hx hb hK hP hD hS 9 2 rfl rfl (vp_in_nI (show (40 * n + i) < 2400 by omega) (by decide)) dX3_widened_216 (fun H locs hP hD hS => ?_)
          rw [nI_clamp (show (40 * n + i) < 2 ^ 31 by omega)] at hP hD
          have ev : wdV K Wh Re j kd i = (FP.l2d (Wh (40 * j + i))) := (if_neg (by rw [(kReal_has hk).symm.trans ((tb_1 _).mp c_18)]; decide)).trans ((if_neg (by rw [(kReal_has hh).symm.trans ((tb_0 _).mp c_20)]; decide)).trans (if_neg c_21))
          have hP : va_P D vwCl (tc_Z cI cJ cD x0 x1 x2 x3 x4 Z m0 m1 m2 m3 m4 m5 0 (n + 1) (va_up K n kd) (va_up Ln n (Ln j)) (zq n (i + 1) (fun i => Wh (40 * j + i)) (zq n 40 (fun _ => 0) Wh)) (zq n (i + 1) (wdV K Wh Re j kd) (zq n 40 (fun _ => 0) Re)) 0 (noteC ct 0)) H := by rw [← zq_sR n i (wdV K Wh Re j kd) (zq n 40 (fun _ => 0) Re), ev]; exact hP
          have hD : va_D A (tc_Z cI cJ cD x0 x1 x2 x3 x4 Z m0 m1 m2 m3 m4 m5 0 (n + 1) (va_up K n kd) (va_up Ln n (Ln j)) (zq n (i + 1) (fun i => Wh (40 * j + i)) (zq n 40 (fun _ => 0) Wh)) (zq n (i + 1) (wdV K Wh Re j kd) (zq n 40 (fun _ => 0) Re)) 0 (noteC ct 0)) := by rw [← zq_sR n i (wdV K Wh Re j kd) (zq n 40 (fun _ => 0) Re), ev]; exact hD
          obtain ⟨x_23, ex_23⟩ : ∃ y : Int32, y = (nI i) + (1) := ⟨_, rfl⟩
          refine lv_iinc (v := x_23) (lv' := [(5, .int x_23), (4, .int (nI n)), (3, .int (kCol (K j))), (0, .ref m0), (1, .int (nI j)), (2, .int kd)]) hx hb dX3_widened_217 hl (k := 0) rfl (by rw [ex_23]; rfl) (by decide) rfl (fun ls hl => ?_)
          refine lv_goto (tgt := 100) hx hb dX3_widened_220 (by decide) ?_
          subst ex_23
          exact ih _ _ _ ⟨i + 1, by omega, hP, hD, hS, by rw [nI_succ]; exact lv_sub hl [0, 1, 2, 3, 4, 5] rfl⟩
        · refine lv_aload_n hx hb dX3_widened_188 rfl (lv_at hl 3 rfl) ?_
          refine va_get (D := D) (ci := 3) (fs := [.int 0, .int (nI (n + 1)), .ref m1, .ref m2, .ref m3, .ref m4, .int 0, .ref m5]) (v := .ref m3) (C := RX3) (T := TX3) (N := 8) hx hb hts (by decide +kernel) hown hK hP 5 rfl rfl 4 (by decide) (hts (.fieldLink RX3 16 "TypedColumnsModel" "whole" "[J") (by decide +kernel)) (fun _ h9 => h9) rfl dX3_widened_189 ?_
          refine lv_iload_n hx hb dX3_widened_192 rfl (lv_at hl 4 rfl) ?_
          refine lv_iload hx hb dX3_widened_193 (lv_at hl 0 rfl) ?_
          refine vp_callSi (W.runS (As := [.int (nI j), .int (nI i)]) (rest := [.ref m3, .int (nI (40 * n + i)), .ref m4]) ⟨hx, hb, hml, hown, hts⟩ (kX3_at l (nI j) (nI i)) (va_cwS 2 hts gX3_widened_X3_at rfl rfl rfl (by decide +kernel) ⟨Nat.le_of_ble_eq_true rfl, Nat.le_of_ble_eq_true rfl⟩) ⟨fun a U g mk q => q, fun U hU hW => ⟨rfl, trivial⟩⟩ rfl rfl hl.1 rfl (lv_room (Nat.le_of_ble_eq_true rfl)) dX3_widened_195 ⟨Nat.zero_le _, Nat.zero_le _⟩) (fun r_24 hr_24 => ?_)
          subst hr_24
          rw [at_n (j := j) (q := i)]
          refine tc_lald (f := (zq n (i + 1) (fun i => Wh (40 * j + i)) (zq n 40 (fun _ => 0) Wh))) (v := ((zq n (i + 1) (fun i => Wh (40 * j + i)) (zq n 40 (fun _ => 0) Wh)) (40 * j + i))) hx hb hK hP 8 1 rfl rfl (vp_in_nI (show (40 * j + i) < 2400 by omega) (by decide)) (by rw [nI_clamp (show (40 * j + i) < 2 ^ 31 by omega)]) dX3_widened_198 ?_
          rw [zq_other hj hq]
          refine lv_l2f hx hb dX3_widened_199 ?_
          refine lv_f2d hx hb dX3_widened_200 ((tf_n64 _).mpr (tf_f2d (tf_l2f _))) ?_
          refine lv_goto (tgt := 216) hx hb dX3_widened_201 (by decide) ?_
          refine va_dast (f := (zq n i (wdV K Wh Re j kd) (zq n 40 (fun _ => 0) Re))) hx hb hK hP hD hS 9 2 rfl rfl (vp_in_nI (show (40 * n + i) < 2400 by omega) (by decide)) dX3_widened_216 (fun H locs hP hD hS => ?_)
          rw [nI_clamp (show (40 * n + i) < 2 ^ 31 by omega)] at hP hD
          have ev : wdV K Wh Re j kd i = (FP.f2d (FP.l2f (Wh (40 * j + i)))) := (if_neg (by rw [(kReal_has hk).symm.trans ((tb_1 _).mp c_18)]; decide)).trans ((if_neg (by rw [(kReal_has hh).symm.trans ((tb_0 _).mp c_20)]; decide)).trans (if_pos c_21))
          have hP : va_P D vwCl (tc_Z cI cJ cD x0 x1 x2 x3 x4 Z m0 m1 m2 m3 m4 m5 0 (n + 1) (va_up K n kd) (va_up Ln n (Ln j)) (zq n (i + 1) (fun i => Wh (40 * j + i)) (zq n 40 (fun _ => 0) Wh)) (zq n (i + 1) (wdV K Wh Re j kd) (zq n 40 (fun _ => 0) Re)) 0 (noteC ct 0)) H := by rw [← zq_sR n i (wdV K Wh Re j kd) (zq n 40 (fun _ => 0) Re), ev]; exact hP
          have hD : va_D A (tc_Z cI cJ cD x0 x1 x2 x3 x4 Z m0 m1 m2 m3 m4 m5 0 (n + 1) (va_up K n kd) (va_up Ln n (Ln j)) (zq n (i + 1) (fun i => Wh (40 * j + i)) (zq n 40 (fun _ => 0) Wh)) (zq n (i + 1) (wdV K Wh Re j kd) (zq n 40 (fun _ => 0) Re)) 0 (noteC ct 0)) := by rw [← zq_sR n i (wdV K Wh Re j kd) (zq n 40 (fun _ => 0) Re), ev]; exact hD
          obtain ⟨x_25, ex_25⟩ : ∃ y : Int32, y = (nI i) + (1) := ⟨_, rfl⟩
          refine lv_iinc (v := x_25) (lv' := [(5, .int x_25), (4, .int (nI n)), (3, .int (kCol (K j))), (0, .ref m0), (1, .int (nI j)), (2, .int kd)]) hx hb dX3_widened_217 hl (k := 0) rfl (by rw [ex_25]; rfl) (by decide) rfl (fun ls hl => ?_)
          refine lv_goto (tgt := 100) hx hb dX3_widened_220 (by decide) ?_
          subst ex_25
          exact ih _ _ _ ⟨i + 1, by omega, hP, hD, hS, by rw [nI_succ]; exact lv_sub hl [0, 1, 2, 3, 4, 5] rfl⟩
      · refine lv_aload_n hx hb dX3_widened_168 rfl (lv_at hl 3 rfl) ?_
        refine va_get (D := D) (ci := 3) (fs := [.int 0, .int (nI (n + 1)), .ref m1, .ref m2, .ref m3, .ref m4, .int 0, .ref m5]) (v := .ref m4) (C := RX3) (T := TX3) (N := 8) hx hb hts (by decide +kernel) hown hK hP 5 rfl rfl 5 (by decide) (hts (.fieldLink RX3 20 "TypedColumnsModel" "real" "[D") (by decide +kernel)) (fun _ h9 => h9) rfl dX3_widened_169 ?_
        refine lv_iload_n hx hb dX3_widened_172 rfl (lv_at hl 4 rfl) ?_
        refine lv_iload hx hb dX3_widened_173 (lv_at hl 0 rfl) ?_
        refine vp_callSi (W.runS (As := [.int (nI j), .int (nI i)]) (rest := [.ref m4, .int (nI (40 * n + i)), .ref m4]) ⟨hx, hb, hml, hown, hts⟩ (kX3_at l (nI j) (nI i)) (va_cwS 2 hts gX3_widened_X3_at rfl rfl rfl (by decide +kernel) ⟨Nat.le_of_ble_eq_true rfl, Nat.le_of_ble_eq_true rfl⟩) ⟨fun a U g mk q => q, fun U hU hW => ⟨rfl, trivial⟩⟩ rfl rfl hl.1 rfl (lv_room (Nat.le_of_ble_eq_true rfl)) dX3_widened_175 ⟨Nat.zero_le _, Nat.zero_le _⟩) (fun r_26 hr_26 => ?_)
        subst hr_26
        rw [at_n (j := j) (q := i)]
        refine tc_dald (f := (zq n i (wdV K Wh Re j kd) (zq n 40 (fun _ => 0) Re))) (v := ((zq n i (wdV K Wh Re j kd) (zq n 40 (fun _ => 0) Re)) (40 * j + i))) hx hb hK hP 9 2 rfl rfl (vp_in_nI (show (40 * j + i) < 2400 by omega) (by decide)) (by rw [nI_clamp (show (40 * j + i) < 2 ^ 31 by omega)]) dX3_widened_178 ?_
        rw [zq_other hj hq]
        refine lv_goto (tgt := 216) hx hb dX3_widened_179 (by decide) ?_
        refine va_dast (f := (zq n i (wdV K Wh Re j kd) (zq n 40 (fun _ => 0) Re))) hx hb hK hP hD hS 9 2 rfl rfl (vp_in_nI (show (40 * n + i) < 2400 by omega) (by decide)) dX3_widened_216 (fun H locs hP hD hS => ?_)
        rw [nI_clamp (show (40 * n + i) < 2 ^ 31 by omega)] at hP hD
        have ev : wdV K Wh Re j kd i = (Re (40 * j + i)) := (if_neg (by rw [(kReal_has hk).symm.trans ((tb_1 _).mp c_18)]; decide)).trans (if_pos ((kReal_has hh).symm.trans ((tb_1 _).mp c_20)))
        have hP : va_P D vwCl (tc_Z cI cJ cD x0 x1 x2 x3 x4 Z m0 m1 m2 m3 m4 m5 0 (n + 1) (va_up K n kd) (va_up Ln n (Ln j)) (zq n (i + 1) (fun i => Wh (40 * j + i)) (zq n 40 (fun _ => 0) Wh)) (zq n (i + 1) (wdV K Wh Re j kd) (zq n 40 (fun _ => 0) Re)) 0 (noteC ct 0)) H := by rw [← zq_sR n i (wdV K Wh Re j kd) (zq n 40 (fun _ => 0) Re), ev]; exact hP
        have hD : va_D A (tc_Z cI cJ cD x0 x1 x2 x3 x4 Z m0 m1 m2 m3 m4 m5 0 (n + 1) (va_up K n kd) (va_up Ln n (Ln j)) (zq n (i + 1) (fun i => Wh (40 * j + i)) (zq n 40 (fun _ => 0) Wh)) (zq n (i + 1) (wdV K Wh Re j kd) (zq n 40 (fun _ => 0) Re)) 0 (noteC ct 0)) := by rw [← zq_sR n i (wdV K Wh Re j kd) (zq n 40 (fun _ => 0) Re), ev]; exact hD
        obtain ⟨x_27, ex_27⟩ : ∃ y : Int32, y = (nI i) + (1) := ⟨_, rfl⟩
        refine lv_iinc (v := x_27) (lv' := [(5, .int x_27), (4, .int (nI n)), (3, .int (kCol (K j))), (0, .ref m0), (1, .int (nI j)), (2, .int kd)]) hx hb dX3_widened_217 hl (k := 0) rfl (by rw [ex_27]; rfl) (by decide) rfl (fun ls hl => ?_)
        refine lv_goto (tgt := 100) hx hb dX3_widened_220 (by decide) ?_
        subst ex_27
        exact ih _ _ _ ⟨i + 1, by omega, hP, hD, hS, by rw [nI_succ]; exact lv_sub hl [0, 1, 2, 3, 4, 5] rfl⟩
    · refine lv_dconst0 hx hb dX3_widened_152 ?_
      refine lv_goto (tgt := 216) hx hb dX3_widened_153 (by decide) ?_
      refine va_dast (f := (zq n i (wdV K Wh Re j kd) (zq n 40 (fun _ => 0) Re))) hx hb hK hP hD hS 9 2 rfl rfl (vp_in_nI (show (40 * n + i) < 2400 by omega) (by decide)) dX3_widened_216 (fun H locs hP hD hS => ?_)
      rw [nI_clamp (show (40 * n + i) < 2 ^ 31 by omega)] at hP hD
      have ev : wdV K Wh Re j kd i = FP.dconst0 := if_pos ((kReal_has hk).symm.trans ((tb_0 _).mp c_18))
      have hP : va_P D vwCl (tc_Z cI cJ cD x0 x1 x2 x3 x4 Z m0 m1 m2 m3 m4 m5 0 (n + 1) (va_up K n kd) (va_up Ln n (Ln j)) (zq n (i + 1) (fun i => Wh (40 * j + i)) (zq n 40 (fun _ => 0) Wh)) (zq n (i + 1) (wdV K Wh Re j kd) (zq n 40 (fun _ => 0) Re)) 0 (noteC ct 0)) H := by rw [← zq_sR n i (wdV K Wh Re j kd) (zq n 40 (fun _ => 0) Re), ev]; exact hP
      have hD : va_D A (tc_Z cI cJ cD x0 x1 x2 x3 x4 Z m0 m1 m2 m3 m4 m5 0 (n + 1) (va_up K n kd) (va_up Ln n (Ln j)) (zq n (i + 1) (fun i => Wh (40 * j + i)) (zq n 40 (fun _ => 0) Wh)) (zq n (i + 1) (wdV K Wh Re j kd) (zq n 40 (fun _ => 0) Re)) 0 (noteC ct 0)) := by rw [← zq_sR n i (wdV K Wh Re j kd) (zq n 40 (fun _ => 0) Re), ev]; exact hD
      obtain ⟨x_28, ex_28⟩ : ∃ y : Int32, y = (nI i) + (1) := ⟨_, rfl⟩
      refine lv_iinc (v := x_28) (lv' := [(5, .int x_28), (4, .int (nI n)), (3, .int (kCol (K j))), (0, .ref m0), (1, .int (nI j)), (2, .int kd)]) hx hb dX3_widened_217 hl (k := 0) rfl (by rw [ex_28]; rfl) (by decide) rfl (fun ls hl => ?_)
      refine lv_goto (tgt := 100) hx hb dX3_widened_220 (by decide) ?_
      subst ex_28
      exact ih _ _ _ ⟨i + 1, by omega, hP, hD, hS, by rw [nI_succ]; exact lv_sub hl [0, 1, 2, 3, 4, 5] rfl⟩
  · obtain ⟨i, hik, hP, hD, hS, hl⟩ := hi9
    have hiN : i = (Ln j) := by omega
    rw [hiN] at hl
    rw [hiN] at hP hD
    refine lv_iload hx hb dX3_widened_100 (lv_at hl 0 rfl) ?_
    refine lv_aload_n hx hb dX3_widened_102 rfl (lv_at hl 3 rfl) ?_
    refine va_get (D := D) (ci := 3) (fs := [.int 0, .int (nI (n + 1)), .ref m1, .ref m2, .ref m3, .ref m4, .int 0, .ref m5]) (v := .ref m2) (C := RX3) (T := TX3) (N := 8) hx hb hts (by decide +kernel) hown hK hP 5 rfl rfl 3 (by decide) (hts (.fieldLink RX3 13 "TypedColumnsModel" "lengths" "[I") (by decide +kernel)) (fun _ h9 => h9) rfl dX3_widened_103 ?_
    refine lv_iload_n hx hb dX3_widened_106 rfl (lv_at hl 4 rfl) ?_
    refine tc_iald (f := (fun t8 => nI ((va_up Ln n (Ln j)) t8))) (v := (nI ((va_up Ln n (Ln j)) j))) hx hb hK hP 7 0 rfl rfl (vp_in_nI (show j < 60 by omega) (by decide)) (by rw [nI_clamp (show j < 2 ^ 31 by omega)]) dX3_widened_107 ?_
    rw [tcu_ne Ln (Ln j) (Nat.ne_of_lt hj)]
    refine lv_icmp_ge (tgt := 223) hx hb dX3_widened_108 (by decide) (fun _ => ?_) (fun q => absurd (nI_le (Nat.le_refl _) (by omega)) q)
    refine lv_iload hx hb dX3_widened_223 (lv_at hl 1 rfl) ?_
    rw [zq_put hL, zq_put hL] at hP hD
    exact W.iret (v := (nI n)) hx hb hr (fun t9 ht9 hW9 => ⟨⟨(nI n), (), rfl, rfl, by rw [ht9]; exact hP, hD⟩, hS.F ht9⟩) hS.2.2 dX3_widened_225
