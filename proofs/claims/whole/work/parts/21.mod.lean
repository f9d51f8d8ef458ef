/-! THE MODEL -/
def tc_Z (cI cJ cD : ClassId) (x0 x1 x2 x3 x4 : Nat × va_E) (Z : va_W) (m0 m1 m2 m3 m4 m5 : Nat) (th : Int32) (n : Nat) (K : Nat → Int32) (Ln : Nat → Nat) (Wh : Nat → Int64) (Re : Nat → UInt64) (cd : Int32) (ct : Nat → Int32) : va_W :=
  x0 :: x1 :: x2 :: x3 :: x4 :: (tc_M cI cJ cD m0 m1 m2 m3 m4 m5 th n K Ln Wh Re cd ct ++ Z)
def mC (K : Nat → Int32) (Ln : Nat → Nat) (j : Nat) (i : Int32) : Int32 := if kCol (K j) = 0 then (if i < 0 then 3 else if nI (Ln j) ≤ i then 3 else 0) else kCol (K j)
theorem cdR_mC {K : Nat → Int32} {Ln : Nat → Nat} {j : Nat} {i a b : Int32} (hr : kIs (K j) = true) : cdR K Ln j i a b = if mC K Ln j i = 0 then (if kWid a b = true then 0 else 4) else mC K Ln j i := by
  unfold cdR kCell mC
  by_cases h : kCol (K j) = 0
  · rw [if_pos h, if_pos h, tc_cl_has (kCol_has hr h)]
    by_cases h1 : i < 0
    · rw [if_pos h1, if_pos h1, if_neg (by decide)]
    · rw [if_neg h1, if_neg h1]
      by_cases h2 : nI (Ln j) ≤ i
      · rw [if_pos h2, if_pos h2, if_neg (by decide)]
      · rw [if_neg h2, if_neg h2, if_pos rfl]
  · rw [if_neg h, if_neg h, if_neg h]
theorem mC_self {K : Nat → Int32} {Ln : Nat → Nat} {j : Nat} {i : Int32} (hr : kIs (K j) = true) : cdR K Ln j i (K j) (K j) = mC K Ln j i := by
  rw [cdR_mC hr]
  by_cases h : mC K Ln j i = 0
  · have hc : kCol (K j) = 0 := by
      unfold mC at h
      by_cases q : kCol (K j) = 0
      · exact q
      · rw [if_neg q] at h; exact h
    rw [if_pos h, if_pos (kWid_self (kCol_has hr hc)), h]
  · rw [if_neg h]
theorem tb_d {p : Prop} [Decidable p] (h : p) : ¬ tb (decide p) = 0 := by rw [decide_eq_true h]; decide
theorem tb_nd {p : Prop} [Decidable p] (h : ¬ p) : tb (decide p) = 0 := by rw [decide_eq_false h]; rfl
theorem tb_dp {p : Prop} [Decidable p] (h : ¬ tb (decide p) = 0) : p := of_decide_eq_true ((tb_1 _).mp h)
theorem tb_dn {p : Prop} [Decidable p] (h : tb (decide p) = 0) : ¬ p := of_decide_eq_false ((tb_0 _).mp h)
theorem kReal_has {k : Int32} (h : kHas k = true) : kReal k = kFl k := by
  have h1 := (kHas_iff k).mp h
  have e7 : (7 : Int32).toInt = 7 := rfl
  have e8 : (8 : Int32).toInt = 8 := rfl
  unfold kReal kFl
  by_cases q : k < 7
  · have q2 := q
    rw [Int32.lt_iff_toInt_lt, e7] at q2
    rw [decide_eq_true q, decide_eq_false (fun z => by rw [← Int32.toInt_inj, e7] at z; omega), decide_eq_false (fun z => by rw [← Int32.toInt_inj, e8] at z; omega)]
    rfl
  · have q2 := q
    rw [Int32.lt_iff_toInt_lt, e7] at q2
    rw [decide_eq_false q]
    by_cases z : k = 7
    · rw [decide_eq_true z]; rfl
    · rw [← Int32.toInt_inj, e7] at z
      have z8 : k = 8 := by rw [← Int32.toInt_inj, e8]; omega
      rw [decide_eq_true z8]; cases decide (k = 7) <;> rfl
theorem at_nI {j : Nat} {i : Int32} (hi : vp_in i 40) : (40 : Int32) * nI j + i = nI (40 * j + i.toNatClampNeg) := by
  obtain ⟨q, hq, rfl⟩ := vp_in_of hi (by decide)
  rw [nI_clamp (by omega)]
  show Int32.ofNat 40 * Int32.ofNat j + Int32.ofNat q = Int32.ofNat (40 * j + q)
  rw [Int32.ofNat_add, Int32.ofNat_mul]
theorem at_n {j q : Nat} : (40 : Int32) * nI j + nI q = nI (40 * j + q) := by
  show Int32.ofNat 40 * Int32.ofNat j + Int32.ofNat q = Int32.ofNat (40 * j + q)
  rw [Int32.ofNat_add, Int32.ofNat_mul]
theorem kWid_1 {a : Int32} (h : kWid a 1 = true) : a = 1 := by
  obtain ⟨h1, h2⟩ := kWid_has h
  by_cases q : a = 1
  · exact q
  · rw [kWid_b1 h1 h2 q q rfl] at h; cases h
theorem mNo {n : Nat} {cx : Int32} (hn : n ≤ 60) (hc : ¬ ∃ j, j < n ∧ cx = nI j) (h0 : ¬ cx < 0) : nI n ≤ cx := by
  refine Decidable.byContradiction (fun q => hc ?_)
  obtain ⟨j, hj, e⟩ := vp_in_of (vp_in_mk h0 q (by omega)) (by omega)
  exact ⟨j, hj, e⟩
theorem mShl (v : Int32) (k : Nat) (hk : k < 32) : (v <<< ((nI k) &&& 31) >>> ((nI k) &&& 31)).toInt = ((v.toInt * 2 ^ k).bmod (2 ^ 32)) / 2 ^ k := by
  have e : ((nI k) &&& 31 : Int32) = nI k := by
    rw [← Int32.toBitVec_inj]
    rcases (show k = 0 ∨ k = 1 ∨ k = 2 ∨ k = 3 ∨ k = 4 ∨ k = 5 ∨ k = 6 ∨ k = 7 ∨ k = 8 ∨ k = 9 ∨ k = 10 ∨ k = 11 ∨ k = 12 ∨ k = 13 ∨ k = 14 ∨ k = 15 ∨ k = 16 ∨ k = 17 ∨ k = 18 ∨ k = 19 ∨ k = 20 ∨ k = 21 ∨ k = 22 ∨ k = 23 ∨ k = 24 ∨ k = 25 ∨ k = 26 ∨ k = 27 ∨ k = 28 ∨ k = 29 ∨ k = 30 ∨ k = 31 by omega) with rfl | rfl | rfl | rfl | rfl | rfl | rfl | rfl | rfl | rfl | rfl | rfl | rfl | rfl | rfl | rfl | rfl | rfl | rfl | rfl | rfl | rfl | rfl | rfl | rfl | rfl | rfl | rfl | rfl | rfl | rfl | rfl <;> decide
  have e2 : ((nI k).toBitVec.smod 32).toNat = k := by
    rcases (show k = 0 ∨ k = 1 ∨ k = 2 ∨ k = 3 ∨ k = 4 ∨ k = 5 ∨ k = 6 ∨ k = 7 ∨ k = 8 ∨ k = 9 ∨ k = 10 ∨ k = 11 ∨ k = 12 ∨ k = 13 ∨ k = 14 ∨ k = 15 ∨ k = 16 ∨ k = 17 ∨ k = 18 ∨ k = 19 ∨ k = 20 ∨ k = 21 ∨ k = 22 ∨ k = 23 ∨ k = 24 ∨ k = 25 ∨ k = 26 ∨ k = 27 ∨ k = 28 ∨ k = 29 ∨ k = 30 ∨ k = 31 by omega) with rfl | rfl | rfl | rfl | rfl | rfl | rfl | rfl | rfl | rfl | rfl | rfl | rfl | rfl | rfl | rfl | rfl | rfl | rfl | rfl | rfl | rfl | rfl | rfl | rfl | rfl | rfl | rfl | rfl | rfl | rfl | rfl <;> decide
  rw [e]
  show ((v.toBitVec <<< ((nI k).toBitVec.smod 32)).sshiftRight' ((nI k).toBitVec.smod 32)).toInt = _
  rw [BitVec.sshiftRight_eq', e2, BitVec.toInt_sshiftRight, BitVec.shiftLeft_eq', e2, Int.shiftRight_eq_div_pow, BitVec.toInt_shiftLeft, Nat.shiftLeft_eq]
  show _ = ((v.toBitVec.toInt * 2 ^ k).bmod (2 ^ 32)) / 2 ^ k
  rw [BitVec.toInt_eq_toNat_bmod, Int.bmod_mul_bmod]
  norm_cast
theorem mBm (x : Int) : ((x * 2 ^ 24).bmod (2 ^ 32)) / 2 ^ 24 = x.bmod (2 ^ 8) := by
  rw [Int.bmod_def, Int.bmod_def]
  split <;> split <;> omega
theorem mBs (x : Int) : ((x * 2 ^ 16).bmod (2 ^ 32)) / 2 ^ 16 = x.bmod (2 ^ 16) := by
  rw [Int.bmod_def, Int.bmod_def]
  split <;> split <;> omega
theorem mByte (v : Int32) : v <<< ((24 : Int32) &&& 31) >>> ((24 : Int32) &&& 31) = v.toInt8.toInt32 := by
  rw [← Int32.toInt_inj, lg_i2b_toInt, ← mBm]
  exact mShl v 24 (by decide)
theorem mShort (v : Int32) : v <<< ((16 : Int32) &&& 31) >>> ((16 : Int32) &&& 31) = v.toInt16.toInt32 := by
  rw [← Int32.toInt_inj, lg_i2s_toInt, ← mBs]
  exact mShl v 16 (by decide)
theorem mChar (v : Int32) : v &&& 65535 = (v.toUInt32 % 65536).toInt32 := by
  rw [← lg_i2c_mask]
  exact congrArg UInt32.toInt32 (by simp)
theorem mC5 {k : Int32} (h : vp_in k 6) : ¬ 5 < k := by
  obtain ⟨q, hq, rfl⟩ := vp_in_of h (by decide)
  rcases (show q = 0 ∨ q = 1 ∨ q = 2 ∨ q = 3 ∨ q = 4 ∨ q = 5 by omega) with rfl | rfl | rfl | rfl | rfl | rfl <;> decide
theorem mC5n {k : Int32} (h : ¬ vp_in k 6) (h0 : ¬ k < 0) : 5 < k := by
  refine Decidable.byContradiction (fun q => h (vp_in_mk h0 ?_ (by decide)))
  have e5 : (5 : Int32).toInt = 5 := rfl
  have e6 : (nI 6).toInt = 6 := rfl
  rw [Int32.lt_iff_toInt_lt, e5] at q
  rw [Int32.le_iff_toInt_le, e6]
  omega
theorem kNum_0 {k : Int32} (hk : kIs k = true) (h : kHas k = false) : kNum k = false := by
  have h1 := (kIs_iff k).mp hk
  have h2 : ¬ (1 ≤ k.toInt ∧ k.toInt ≤ 8) := fun q => by have := (kHas_iff k).mpr q; rw [this] at h; cases h
  have e2 : (2 : Int32).toInt = 2 := rfl
  have e4 : (4 : Int32).toInt = 4 := rfl
  have e8 : (8 : Int32).toInt = 8 := rfl
  unfold kNum
  rw [decide_eq_false (fun z => by rw [← Int32.toInt_inj, e2] at z; omega)]
  by_cases q : k < 4
  · rw [decide_eq_true q]; rfl
  · rw [Int32.lt_iff_toInt_lt, e4] at q
    have q8 : 8 < k := by rw [Int32.lt_iff_toInt_lt, e8]; omega
    rw [decide_eq_true q8]; cases decide (k < 4) <;> rfl
theorem kNum_1 {k : Int32} (h : kHas k = true) (n1 : ¬ k = 1) (n3 : ¬ k = 3) : kNum k = true := by
  have h2 := (kHas_iff k).mp h
  have e1 : (1 : Int32).toInt = 1 := rfl
  have e2 : (2 : Int32).toInt = 2 := rfl
  have e3 : (3 : Int32).toInt = 3 := rfl
  have e4 : (4 : Int32).toInt = 4 := rfl
  have e8 : (8 : Int32).toInt = 8 := rfl
  rw [← Int32.toInt_inj, e1] at n1
  rw [← Int32.toInt_inj, e3] at n3
  unfold kNum
  by_cases q : k = 2
  · rw [decide_eq_true q]; rfl
  · rw [decide_eq_false q]
    rw [← Int32.toInt_inj, e2] at q
    rw [decide_eq_false (fun z => by rw [Int32.lt_iff_toInt_lt, e4] at z; omega), decide_eq_false (fun z => by rw [Int32.lt_iff_toInt_lt, e8] at z; omega)]
    rfl
set_option maxHeartbeats 4000000 in
set_option maxRecDepth 100000 in
theorem tX3_thrown (l : Launch) (D : va_G) (A : Nat → Prop) (cI cJ cD cC : ClassId) (x0 x1 x2 x3 x4 : Nat × va_E) (Z : va_W) (m0 m1 m2 m3 m4 m5 : Nat) (th : Int32) (n : Nat) (K : Nat → Int32) (Ln : Nat → Nat) (Wh : Nat → Int64) (Re : Nat → UInt64) (cd : Int32) (ct : Nat → Int32) (sz : Nat)   : Met l yX3_thrown wsX3_thrown ({ frames := 0, cells := 0, slots := 0, locals := 0 }) (tcP D A (tcTY cI cJ cD cC) sz [.ref m0] (tc_Z cI cJ cD x0 x1 x2 x3 x4 Z m0 m1 m2 m3 m4 m5 th n K Ln Wh Re cd ct)) (vp_Si (fun r => r = th)) 0 0 (fun _ => False) := by
  refine Met.ofW (cc := cX3_thrown) (maxL := 1) (ret := (some .int)) (by decide) rfl ?_
  intro p e s m args below meth c s₁ B hml hv
  obtain ⟨rfl, hsz, hP, hK, hD, hE⟩ := hv
  have hx := B.exec
  have hb := B.bytes
  have hr := B.returns
  have hts := atoms_spec (ws := wsX3_thrown) B.pre
  have hown : s.vm.findClass RX3 = some m.cls := findClass_of_methodNamed B.named
  have hlocks := B.notSynchronized
  have hl := lv_entry ([.ref m0]) (n := 1) (Nat.le_of_ble_eq_true rfl)
  rw [lg_entry_eq]
  generalize (lg_sl ([.ref m0]) ++ List.replicate (1 - (lg_sl ([.ref m0])).length) Slot.unset).toArray = ls at hl ⊢
  have hl : lv_has ls 1 [(0, .ref m0)] := hl
  subst hsz
  have hS : va_S A s.heap s.heap [] := va_S.rf
  refine lv_aload_n hx hb dX3_thrown_0 rfl (lv_at hl 0 rfl) ?_
  refine va_get (D := D) (ci := 3) (fs := [.int th, .int (nI n), .ref m1, .ref m2, .ref m3, .ref m4, .int cd, .ref m5]) (v := .int th) (C := RX3) (T := TX3) (N := 8) hx hb hts (by decide +kernel) hown hK hP 5 rfl rfl 0 (by decide) (hts (.fieldLink RX3 27 "TypedColumnsModel" "thrown" "I") (by decide +kernel)) (fun _ h9 => h9) rfl dX3_thrown_1 ?_
  exact W.iret (v := th) hx hb hr (fun t9 ht9 hW9 => ⟨th, rfl, rfl, ht9⟩) (fun q hq => absurd hq List.not_mem_nil) dX3_thrown_4
set_option maxHeartbeats 4000000 in
set_option maxRecDepth 100000 in
theorem tX3_fail (l : Launch) (D : va_G) (A : Nat → Prop) (cI cJ cD cC : ClassId) (x0 x1 x2 x3 x4 : Nat × va_E) (Z : va_W) (m0 m1 m2 m3 m4 m5 : Nat) (th : Int32) (n : Nat) (K : Nat → Int32) (Ln : Nat → Nat) (Wh : Nat → Int64) (Re : Nat → UInt64) (cd : Int32) (ct : Nat → Int32) (sz : Nat)  (k : Int32) : Met l yX3_fail wsX3_fail ({ frames := 0, cells := 0, slots := 0, locals := 0 }) (tcP D A (tcTY cI cJ cD cC) sz [.ref m0, .int k] (tc_Z cI cJ cD x0 x1 x2 x3 x4 Z m0 m1 m2 m3 m4 m5 th n K Ln Wh Re cd ct)) (va_Qi (fun r (_ : Unit) => r = 0) (fun _ t => tcB D A (tc_Z cI cJ cD x0 x1 x2 x3 x4 Z m0 m1 m2 m3 m4 m5 k n K Ln Wh Re cd ct) t) A) 0 0 A := by
  refine Met.ofW (cc := cX3_fail) (maxL := 2) (ret := (some .int)) (by decide) rfl ?_
  intro p e s m args below meth c s₁ B hml hv
  obtain ⟨rfl, hsz, hP, hK, hD, hE⟩ := hv
  have hx := B.exec
  have hb := B.bytes
  have hr := B.returns
  have hts := atoms_spec (ws := wsX3_fail) B.pre
  have hown : s.vm.findClass RX3 = some m.cls := findClass_of_methodNamed B.named
  have hlocks := B.notSynchronized
  have hl := lv_entry ([.ref m0, .int k]) (n := 2) (Nat.le_of_ble_eq_true rfl)
  rw [lg_entry_eq]
  generalize (lg_sl ([.ref m0, .int k]) ++ List.replicate (2 - (lg_sl ([.ref m0, .int k])).length) Slot.unset).toArray = ls at hl ⊢
  have hl : lv_has ls 2 [(0, .ref m0), (1, .int k)] := hl
  subst hsz
  have hS : va_S A s.heap s.heap [] := va_S.rf
  refine lv_aload_n hx hb dX3_fail_0 rfl (lv_at hl 0 rfl) ?_
  refine lv_iload_n hx hb dX3_fail_1 rfl (lv_at hl 1 rfl) ?_
  refine va_put (D := D) (ci := 3) (fs := [.int th, .int (nI n), .ref m1, .ref m2, .ref m3, .ref m4, .int cd, .ref m5]) (v := .int k) (ty := .int) (C := RX3) (T := TX3) (N := 8) hx hb hts (by decide +kernel) tyX3 tyX3_ok nmX3 hown hK hP hD hS 5 rfl rfl 0 (by decide) (hts (.fieldLink RX3 27 "TypedColumnsModel" "thrown" "I") (by decide +kernel)) (fun _ h9 => h9) rfl (by decide +kernel) rfl rfl (Nat.le_of_ble_eq_true rfl) dX3_fail_2 (fun H locs hP hD hS => ?_)
  have hP : va_P D vwCl (tc_Z cI cJ cD x0 x1 x2 x3 x4 Z m0 m1 m2 m3 m4 m5 k n K Ln Wh Re cd ct) H := hP
  have hD : va_D A (tc_Z cI cJ cD x0 x1 x2 x3 x4 Z m0 m1 m2 m3 m4 m5 k n K Ln Wh Re cd ct) := hD
  refine lv_iconst (v := 0) hx hb dX3_fail_5 (by decide) ?_
  exact W.iret (v := 0) hx hb hr (fun t9 ht9 hW9 => ⟨⟨0, (), rfl, rfl, by rw [ht9]; exact hP, hD⟩, hS.F ht9⟩) hS.2.2 dX3_fail_6
set_option maxHeartbeats 4000000 in
set_option maxRecDepth 100000 in
theorem tX3_isColumn_y (l : Launch) (D : va_G) (A : Nat → Prop) (cI cJ cD cC : ClassId) (x0 x1 x2 x3 x4 : Nat × va_E) (Z : va_W) (m0 m1 m2 m3 m4 m5 : Nat) (th : Int32) (n : Nat) (K : Nat → Int32) (Ln : Nat → Nat) (Wh : Nat → Int64) (Re : Nat → UInt64) (cd : Int32) (ct : Nat → Int32) (sz : Nat) (hI : tcI n K Ln Wh Re) (j : Nat) (hj : j < n)  : Met l yX3_isColumn wsX3_isColumn ({ frames := 0, cells := 0, slots := 0, locals := 0 }) (tcP D A (tcTY cI cJ cD cC) sz [.ref m0, .int (nI j)] (tc_Z cI cJ cD x0 x1 x2 x3 x4 Z m0 m1 m2 m3 m4 m5 th n K Ln Wh Re cd ct)) (vp_Si (fun r => r = 1)) 0 0 (fun _ => False) := by
  refine Met.ofW (cc := cX3_isColumn) (maxL := 2) (ret := (some .boolean)) (by decide) rfl ?_
  intro p e s m args below meth c s₁ B hml hv
  obtain ⟨rfl, hsz, hP, hK, hD, hE⟩ := hv
  have hx := B.exec
  have hb := B.bytes
  have hr := B.returns
  have hts := atoms_spec (ws := wsX3_isColumn) B.pre
  have hown : s.vm.findClass RX3 = some m.cls := findClass_of_methodNamed B.named
  have hlocks := B.notSynchronized
  have hl := lv_entry ([.ref m0, .int (nI j)]) (n := 2) (Nat.le_of_ble_eq_true rfl)
  rw [lg_entry_eq]
  generalize (lg_sl ([.ref m0, .int (nI j)]) ++ List.replicate (2 - (lg_sl ([.ref m0, .int (nI j)])).length) Slot.unset).toArray = ls at hl ⊢
  have hl : lv_has ls 2 [(0, .ref m0), (1, .int (nI j))] := hl
  subst hsz
  have hS : va_S A s.heap s.heap [] := va_S.rf
  have hn60 : n ≤ 60 := hI.1
  have hkI := (hI.2.1 j hj).1
  have hL := (hI.2.1 j hj).2.1
  refine lv_iload_n hx hb dX3_isColumn_0 rfl (lv_at hl 1 rfl) ?_
  refine lv_if_lt (tgt := 16) hx hb dX3_isColumn_1 (by decide) (fun q => absurd q (nI_pos (by omega))) (fun _ => ?_)
  refine lv_iload_n hx hb dX3_isColumn_4 rfl (lv_at hl 1 rfl) ?_
  refine lv_aload_n hx hb dX3_isColumn_5 rfl (lv_at hl 0 rfl) ?_
  refine va_get (D := D) (ci := 3) (fs := [.int th, .int (nI n), .ref m1, .ref m2, .ref m3, .ref m4, .int cd, .ref m5]) (v := .int (nI n)) (C := RX3) (T := TX3) (N := 8) hx hb hts (by decide +kernel) hown hK hP 5 rfl rfl 1 (by decide) (hts (.fieldLink RX3 31 "TypedColumnsModel" "columns" "I") (by decide +kernel)) (fun _ h9 => h9) rfl dX3_isColumn_6 ?_
  refine lv_icmp_ge (tgt := 16) hx hb dX3_isColumn_9 (by decide) (fun q => absurd q (nI_ge hj (by omega))) (fun _ => ?_)
  refine lv_iconst (v := 1) hx hb dX3_isColumn_12 (by decide) ?_
  refine lv_goto (tgt := 17) hx hb dX3_isColumn_13 (by decide) ?_
  exact W.zret (ty := .boolean) (v := 1) hx hb hr rfl (fun t9 ht9 hW9 => ⟨1, rfl, rfl, ht9⟩) (fun q hq => absurd hq List.not_mem_nil) dX3_isColumn_17
set_option maxHeartbeats 4000000 in
set_option maxRecDepth 100000 in
theorem tX3_isColumn_n (l : Launch) (D : va_G) (A : Nat → Prop) (cI cJ cD cC : ClassId) (x0 x1 x2 x3 x4 : Nat × va_E) (Z : va_W) (m0 m1 m2 m3 m4 m5 : Nat) (th : Int32) (n : Nat) (K : Nat → Int32) (Ln : Nat → Nat) (Wh : Nat → Int64) (Re : Nat → UInt64) (cd : Int32) (ct : Nat → Int32) (sz : Nat) (hI : tcI n K Ln Wh Re) (cx : Int32) (hc : ¬ ∃ j, j < n ∧ cx = nI j)  : Met l yX3_isColumn wsX3_isColumn ({ frames := 0, cells := 0, slots := 0, locals := 0 }) (tcP D A (tcTY cI cJ cD cC) sz [.ref m0, .int cx] (tc_Z cI cJ cD x0 x1 x2 x3 x4 Z m0 m1 m2 m3 m4 m5 th n K Ln Wh Re cd ct)) (vp_Si (fun r => r = 0)) 0 0 (fun _ => False) := by
  refine Met.ofW (cc := cX3_isColumn) (maxL := 2) (ret := (some .boolean)) (by decide) rfl ?_
  intro p e s m args below meth c s₁ B hml hv
  obtain ⟨rfl, hsz, hP, hK, hD, hE⟩ := hv
  have hx := B.exec
  have hb := B.bytes
  have hr := B.returns
  have hts := atoms_spec (ws := wsX3_isColumn) B.pre
  have hown : s.vm.findClass RX3 = some m.cls := findClass_of_methodNamed B.named
  have hlocks := B.notSynchronized
  have hl := lv_entry ([.ref m0, .int cx]) (n := 2) (Nat.le_of_ble_eq_true rfl)
  rw [lg_entry_eq]
  generalize (lg_sl ([.ref m0, .int cx]) ++ List.replicate (2 - (lg_sl ([.ref m0, .int cx])).length) Slot.unset).toArray = ls at hl ⊢
  have hl : lv_has ls 2 [(0, .ref m0), (1, .int cx)] := hl
  subst hsz
  have hS : va_S A s.heap s.heap [] := va_S.rf
  have hn60 : n ≤ 60 := hI.1
  refine lv_iload_n hx hb dX3_isColumn_0 rfl (lv_at hl 1 rfl) ?_
  refine lv_if_lt (tgt := 16) hx hb dX3_isColumn_1 (by decide) (fun c_1 => ?_) (fun c_1 => ?_)
  · refine lv_iconst (v := 0) hx hb dX3_isColumn_16 (by decide) ?_
    exact W.zret (ty := .boolean) (v := 0) hx hb hr rfl (fun t9 ht9 hW9 => ⟨0, rfl, rfl, ht9⟩) (fun q hq => absurd hq List.not_mem_nil) dX3_isColumn_17
  · refine lv_iload_n hx hb dX3_isColumn_4 rfl (lv_at hl 1 rfl) ?_
    refine lv_aload_n hx hb dX3_isColumn_5 rfl (lv_at hl 0 rfl) ?_
    refine va_get (D := D) (ci := 3) (fs := [.int th, .int (nI n), .ref m1, .ref m2, .ref m3, .ref m4, .int cd, .ref m5]) (v := .int (nI n)) (C := RX3) (T := TX3) (N := 8) hx hb hts (by decide +kernel) hown hK hP 5 rfl rfl 1 (by decide) (hts (.fieldLink RX3 31 "TypedColumnsModel" "columns" "I") (by decide +kernel)) (fun _ h9 => h9) rfl dX3_isColumn_6 ?_
    refine lv_icmp_ge (tgt := 16) hx hb dX3_isColumn_9 (by decide) (fun _ => ?_) (fun q => absurd (mNo hn60 hc c_1) q)
    refine lv_iconst (v := 0) hx hb dX3_isColumn_16 (by decide) ?_
    exact W.zret (ty := .boolean) (v := 0) hx hb hr rfl (fun t9 ht9 hW9 => ⟨0, rfl, rfl, ht9⟩) (fun q hq => absurd hq List.not_mem_nil) dX3_isColumn_17
set_option maxHeartbeats 4000000 in
set_option maxRecDepth 100000 in
theorem tX3_note (l : Launch) (D : va_G) (A : Nat → Prop) (cI cJ cD cC : ClassId) (x0 x1 x2 x3 x4 : Nat × va_E) (Z : va_W) (m0 m1 m2 m3 m4 m5 : Nat) (th : Int32) (n : Nat) (K : Nat → Int32) (Ln : Nat → Nat) (Wh : Nat → Int64) (Re : Nat → UInt64) (cd : Int32) (ct : Nat → Int32) (sz : Nat)  (k : Int32) (hk : vp_in k 6) : Met l yX3_note wsX3_note ({ frames := 0, cells := 0, slots := 0, locals := 0 }) (tcP D A (tcTY cI cJ cD cC) sz [.ref m0, .int k] (tc_Z cI cJ cD x0 x1 x2 x3 x4 Z m0 m1 m2 m3 m4 m5 th n K Ln Wh Re cd ct)) (va_Qi (fun r (_ : Unit) => r = tb (decide (k = 0))) (fun _ t => tcB D A (tc_Z cI cJ cD x0 x1 x2 x3 x4 Z m0 m1 m2 m3 m4 m5 th n K Ln Wh Re k (noteC ct k)) t) A) 0 0 A := by
  refine Met.ofW (cc := cX3_note) (maxL := 2) (ret := (some .boolean)) (by decide) rfl ?_
  intro p e s m args below meth c s₁ B hml hv
  obtain ⟨rfl, hsz, hP, hK, hD, hE⟩ := hv
  have hx := B.exec
  have hb := B.bytes
  have hr := B.returns
  have hts := atoms_spec (ws := wsX3_note) B.pre
  have hown : s.vm.findClass RX3 = some m.cls := findClass_of_methodNamed B.named
  have hlocks := B.notSynchronized
  have hl := lv_entry ([.ref m0, .int k]) (n := 2) (Nat.le_of_ble_eq_true rfl)
  rw [lg_entry_eq]
  generalize (lg_sl ([.ref m0, .int k]) ++ List.replicate (2 - (lg_sl ([.ref m0, .int k])).length) Slot.unset).toArray = ls at hl ⊢
  have hl : lv_has ls 2 [(0, .ref m0), (1, .int k)] := hl
  subst hsz
  have hS : va_S A s.heap s.heap [] := va_S.rf
  refine lv_aload_n hx hb dX3_note_0 rfl (lv_at hl 0 rfl) ?_
  refine lv_iload_n hx hb dX3_note_1 rfl (lv_at hl 1 rfl) ?_
  refine va_put (D := D) (ci := 3) (fs := [.int th, .int (nI n), .ref m1, .ref m2, .ref m3, .ref m4, .int cd, .ref m5]) (v := .int k) (ty := .int) (C := RX3) (T := TX3) (N := 8) hx hb hts (by decide +kernel) tyX3 tyX3_ok nmX3 hown hK hP hD hS 5 rfl rfl 6 (by decide) (hts (.fieldLink RX3 38 "TypedColumnsModel" "code" "I") (by decide +kernel)) (fun _ h9 => h9) rfl (by decide +kernel) rfl rfl (Nat.le_of_ble_eq_true rfl) dX3_note_2 (fun H locs hP hD hS => ?_)
  have hP : va_P D vwCl (tc_Z cI cJ cD x0 x1 x2 x3 x4 Z m0 m1 m2 m3 m4 m5 th n K Ln Wh Re k ct) H := hP
  have hD : va_D A (tc_Z cI cJ cD x0 x1 x2 x3 x4 Z m0 m1 m2 m3 m4 m5 th n K Ln Wh Re k ct) := hD
  refine lv_aload_n hx hb dX3_note_5 rfl (lv_at hl 0 rfl) ?_
  refine va_get (D := D) (ci := 3) (fs := [.int th, .int (nI n), .ref m1, .ref m2, .ref m3, .ref m4, .int k, .ref m5]) (v := .ref m5) (C := RX3) (T := TX3) (N := 8) hx hb hts (by decide +kernel) hown hK hP 5 rfl rfl 7 (by decide) (hts (.fieldLink RX3 24 "TypedColumnsModel" "counts" "[I") (by decide +kernel)) (fun _ h9 => h9) rfl dX3_note_6 ?_
  refine lv_iload_n hx hb dX3_note_9 rfl (lv_at hl 1 rfl) ?_
  refine lv_dup2_11 hx hb dX3_note_10 rfl rfl ?_
  refine tc_iald (f := ct) (v := (ct k.toNatClampNeg)) hx hb hK hP 10 0 rfl rfl (hk) rfl dX3_note_11 ?_
  refine lv_iconst (v := 1) hx hb dX3_note_12 (by decide) ?_
  refine lv_iadd hx hb dX3_note_13 ?_
  refine va_iast (f := ct) hx hb hK hP hD hS 10 0 rfl rfl (hk) dX3_note_14 (fun H locs hP hD hS => ?_)
  have hP : va_P D vwCl (tc_Z cI cJ cD x0 x1 x2 x3 x4 Z m0 m1 m2 m3 m4 m5 th n K Ln Wh Re k (noteC ct k)) H := hP
  have hD : va_D A (tc_Z cI cJ cD x0 x1 x2 x3 x4 Z m0 m1 m2 m3 m4 m5 th n K Ln Wh Re k (noteC ct k)) := hD
  refine lv_iload_n hx hb dX3_note_15 rfl (lv_at hl 1 rfl) ?_
  refine lv_if_ne (tgt := 23) hx hb dX3_note_16 (by decide) (fun c_1 => ?_) (fun c_1 => ?_)
  · refine lv_iconst (v := 0) hx hb dX3_note_23 (by decide) ?_
    exact W.zret (ty := .boolean) (v := 0) hx hb hr rfl (fun t9 ht9 hW9 => ⟨⟨0, (), rfl, by rw [decide_eq_false c_1]; rfl, by rw [ht9]; exact hP, hD⟩, hS.F ht9⟩) hS.2.2 dX3_note_24
  · refine lv_iconst (v := 1) hx hb dX3_note_19 (by decide) ?_
    refine lv_goto (tgt := 24) hx hb dX3_note_20 (by decide) ?_
    exact W.zret (ty := .boolean) (v := 1) hx hb hr rfl (fun t9 ht9 hW9 => ⟨⟨1, (), rfl, by rw [decide_eq_true c_1]; rfl, by rw [ht9]; exact hP, hD⟩, hS.F ht9⟩) hS.2.2 dX3_note_24
set_option maxHeartbeats 4000000 in
set_option maxRecDepth 100000 in
theorem tX3_codeOf (l : Launch) (D : va_G) (A : Nat → Prop) (cI cJ cD cC : ClassId) (x0 x1 x2 x3 x4 : Nat × va_E) (Z : va_W) (m0 m1 m2 m3 m4 m5 : Nat) (th : Int32) (n : Nat) (K : Nat → Int32) (Ln : Nat → Nat) (Wh : Nat → Int64) (Re : Nat → UInt64) (cd : Int32) (ct : Nat → Int32) (sz : Nat) (hI : tcI n K Ln Wh Re) (j : Nat) (hj : j < n)  : Met l yX3_codeOf wsX3_codeOf ({ frames := 0, cells := 0, slots := 0, locals := 0 }) (tcP D A (tcTY cI cJ cD cC) sz [.ref m0, .int (nI j)] (tc_Z cI cJ cD x0 x1 x2 x3 x4 Z m0 m1 m2 m3 m4 m5 th n K Ln Wh Re cd ct)) (vp_Si (fun r => r = kCol (K j))) 0 0 (fun _ => False) := by
  refine Met.ofW (cc := cX3_codeOf) (maxL := 2) (ret := (some .int)) (by decide) rfl ?_
  intro p e s m args below meth c s₁ B hml hv
  obtain ⟨rfl, hsz, hP, hK, hD, hE⟩ := hv
  have hx := B.exec
  have hb := B.bytes
  have hr := B.returns
  have hts := atoms_spec (ws := wsX3_codeOf) B.pre
  have hown : s.vm.findClass RX3 = some m.cls := findClass_of_methodNamed B.named
  have hlocks := B.notSynchronized
  have hl := lv_entry ([.ref m0, .int (nI j)]) (n := 2) (Nat.le_of_ble_eq_true rfl)
  rw [lg_entry_eq]
  generalize (lg_sl ([.ref m0, .int (nI j)]) ++ List.replicate (2 - (lg_sl ([.ref m0, .int (nI j)])).length) Slot.unset).toArray = ls at hl ⊢
  have hl : lv_has ls 2 [(0, .ref m0), (1, .int (nI j))] := hl
  subst hsz
  have hS : va_S A s.heap s.heap [] := va_S.rf
  have hn60 : n ≤ 60 := hI.1
  have hkI := (hI.2.1 j hj).1
  have hL := (hI.2.1 j hj).2.1
  refine lv_aload_n hx hb dX3_codeOf_0 rfl (lv_at hl 0 rfl) ?_
  refine va_get (D := D) (ci := 3) (fs := [.int th, .int (nI n), .ref m1, .ref m2, .ref m3, .ref m4, .int cd, .ref m5]) (v := .ref m1) (C := RX3) (T := TX3) (N := 8) hx hb hts (by decide +kernel) hown hK hP 5 rfl rfl 2 (by decide) (hts (.fieldLink RX3 9 "TypedColumnsModel" "kinds" "[I") (by decide +kernel)) (fun _ h9 => h9) rfl dX3_codeOf_1 ?_
  refine lv_iload_n hx hb dX3_codeOf_4 rfl (lv_at hl 1 rfl) ?_
  refine tc_iald (f := K) (v := (K j)) hx hb hK hP 6 0 rfl rfl (vp_in_nI (show j < 60 by omega) (by decide)) (by rw [nI_clamp (show j < 2 ^ 31 by omega)]) dX3_codeOf_5 ?_
  refine lv_if_ne (tgt := 13) hx hb dX3_codeOf_6 (by decide) (fun c_1 => ?_) (fun c_1 => ?_)
  · refine lv_aload_n hx hb dX3_codeOf_13 rfl (lv_at hl 0 rfl) ?_
    refine va_get (D := D) (ci := 3) (fs := [.int th, .int (nI n), .ref m1, .ref m2, .ref m3, .ref m4, .int cd, .ref m5]) (v := .ref m1) (C := RX3) (T := TX3) (N := 8) hx hb hts (by decide +kernel) hown hK hP 5 rfl rfl 2 (by decide) (hts (.fieldLink RX3 9 "TypedColumnsModel" "kinds" "[I") (by decide +kernel)) (fun _ h9 => h9) rfl dX3_codeOf_14 ?_
    refine lv_iload_n hx hb dX3_codeOf_17 rfl (lv_at hl 1 rfl) ?_
    refine tc_iald (f := K) (v := (K j)) hx hb hK hP 6 0 rfl rfl (vp_in_nI (show j < 60 by omega) (by decide)) (by rw [nI_clamp (show j < 2 ^ 31 by omega)]) dX3_codeOf_18 ?_
    refine lv_bipush (v := 9) hx hb dX3_codeOf_19 (by decide) ?_
    refine lv_icmp_ne (tgt := 28) hx hb dX3_codeOf_21 (by decide) (fun c_2 => ?_) (fun c_2 => ?_)
    · refine lv_iconst (v := 0) hx hb dX3_codeOf_28 (by decide) ?_
      exact W.iret (v := 0) hx hb hr (fun t9 ht9 hW9 => ⟨0, rfl, by simp [kCol, c_1, c_2], ht9⟩) (fun q hq => absurd hq List.not_mem_nil) dX3_codeOf_29
    · refine lv_iconst (v := 2) hx hb dX3_codeOf_24 (by decide) ?_
      refine lv_goto (tgt := 29) hx hb dX3_codeOf_25 (by decide) ?_
      exact W.iret (v := 2) hx hb hr (fun t9 ht9 hW9 => ⟨2, rfl, by simp [kCol, c_1, c_2], ht9⟩) (fun q hq => absurd hq List.not_mem_nil) dX3_codeOf_29
  · refine lv_iconst (v := 1) hx hb dX3_codeOf_9 (by decide) ?_
    refine lv_goto (tgt := 29) hx hb dX3_codeOf_10 (by decide) ?_
    exact W.iret (v := 1) hx hb hr (fun t9 ht9 hW9 => ⟨1, rfl, by simp [kCol, c_1], ht9⟩) (fun q hq => absurd hq List.not_mem_nil) dX3_codeOf_29
set_option maxHeartbeats 4000000 in
set_option maxRecDepth 100000 in
theorem tX3_codeOf_ (l : Launch) (D : va_G) (A : Nat → Prop) (cI cJ cD cC : ClassId) (x0 x1 x2 x3 x4 : Nat × va_E) (Z : va_W) (m0 m1 m2 m3 m4 m5 : Nat) (th : Int32) (n : Nat) (K : Nat → Int32) (Ln : Nat → Nat) (Wh : Nat → Int64) (Re : Nat → UInt64) (cd : Int32) (ct : Nat → Int32) (sz : Nat) (hI : tcI n K Ln Wh Re) (j : Nat) (hj : j < n) (i : Int32) : Met l yX3_codeOf_ wsX3_codeOf_ ({ frames := 1, cells := 0, slots := 0, locals := 21 }) (tcP D A (tcTY cI cJ cD cC) sz [.ref m0, .int (nI j), .int i] (tc_Z cI cJ cD x0 x1 x2 x3 x4 Z m0 m1 m2 m3 m4 m5 th n K Ln Wh Re cd ct)) (vp_Si (fun r => r = mC K Ln j i)) 0 0 (fun _ => False) := by
  refine Met.ofW (cc := cX3_codeOf_) (maxL := 3) (ret := (some .int)) (by decide) rfl ?_
  intro p e s m args below meth c s₁ B hml hv
  obtain ⟨rfl, hsz, hP, hK, hD, hE⟩ := hv
  have hx := B.exec
  have hb := B.bytes
  have hr := B.returns
  have hts := atoms_spec (ws := wsX3_codeOf_) B.pre
  have hown : s.vm.findClass RX3 = some m.cls := findClass_of_methodNamed B.named
  have hlocks := B.notSynchronized
  have hl := lv_entry ([.ref m0, .int (nI j), .int i]) (n := 3) (Nat.le_of_ble_eq_true rfl)
  rw [lg_entry_eq]
  generalize (lg_sl ([.ref m0, .int (nI j), .int i]) ++ List.replicate (3 - (lg_sl ([.ref m0, .int (nI j), .int i])).length) Slot.unset).toArray = ls at hl ⊢
  have hl : lv_has ls 3 [(0, .ref m0), (1, .int (nI j)), (2, .int i)] := hl
  subst hsz
  have hS : va_S A s.heap s.heap [] := va_S.rf
  have hn60 : n ≤ 60 := hI.1
  have hkI := (hI.2.1 j hj).1
  have hL := (hI.2.1 j hj).2.1
  refine lv_aload_n hx hb dX3_codeOf__0 rfl (lv_at hl 0 rfl) ?_
  refine lv_iload_n hx hb dX3_codeOf__1 rfl (lv_at hl 1 rfl) ?_
  refine vp_callSi (tc_CR (va_runV (As := [.int (nI j)]) (rest := []) ⟨hx, hb, hml, hown, hts⟩ (tX3_codeOf l D A cI cJ cD cC x0 x1 x2 x3 x4 Z m0 m1 m2 m3 m4 m5 th n K Ln Wh Re cd ct s.heap.size hI j hj) (cwV 1 hts gX3_codeOf__X3_codeOf rfl rfl rfl (by decide +kernel) ⟨Nat.le_of_ble_eq_true rfl, Nat.le_of_ble_eq_true rfl⟩) ⟨tcP.blind, (va_recv hK hP (ci := 3) (q0 := 5) rfl rfl), (tcP.go hK hP hD hE hS)⟩ rfl rfl hl.1 rfl (lv_room (Nat.le_of_ble_eq_true rfl)) dX3_codeOf__2 ⟨Nat.le_of_ble_eq_true rfl, Nat.le_of_ble_eq_true rfl⟩)) (fun r_1 hr_1 => ?_)
  subst hr_1
  refine lv_if_eq (tgt := 16) hx hb dX3_codeOf__5 (by decide) (fun c_2 => ?_) (fun c_2 => ?_)
  · refine lv_iload_n hx hb dX3_codeOf__16 rfl (lv_at hl 2 rfl) ?_
    refine lv_if_lt (tgt := 30) hx hb dX3_codeOf__17 (by decide) (fun c_3 => ?_) (fun c_3 => ?_)
    · refine lv_iconst (v := 3) hx hb dX3_codeOf__30 (by decide) ?_
      refine lv_goto (tgt := 35) hx hb dX3_codeOf__31 (by decide) ?_
      exact W.iret (v := 3) hx hb hr (fun t9 ht9 hW9 => ⟨3, rfl, by unfold mC; rw [if_pos c_2, if_pos c_3], ht9⟩) (fun q hq => absurd hq List.not_mem_nil) dX3_codeOf__35
    · refine lv_iload_n hx hb dX3_codeOf__20 rfl (lv_at hl 2 rfl) ?_
      refine lv_aload_n hx hb dX3_codeOf__21 rfl (lv_at hl 0 rfl) ?_
      refine va_get (D := D) (ci := 3) (fs := [.int th, .int (nI n), .ref m1, .ref m2, .ref m3, .ref m4, .int cd, .ref m5]) (v := .ref m2) (C := RX3) (T := TX3) (N := 8) hx hb hts (by decide +kernel) hown hK hP 5 rfl rfl 3 (by decide) (hts (.fieldLink RX3 13 "TypedColumnsModel" "lengths" "[I") (by decide +kernel)) (fun _ h9 => h9) rfl dX3_codeOf__22 ?_
      refine lv_iload_n hx hb dX3_codeOf__25 rfl (lv_at hl 1 rfl) ?_
      refine tc_iald (f := (fun j => nI (Ln j))) (v := (nI (Ln j))) hx hb hK hP 7 0 rfl rfl (vp_in_nI (show j < 60 by omega) (by decide)) (by rw [nI_clamp (show j < 2 ^ 31 by omega)]) dX3_codeOf__26 ?_
      refine lv_icmp_lt (tgt := 34) hx hb dX3_codeOf__27 (by decide) (fun c_4 => ?_) (fun c_4 => ?_)
      · refine lv_iconst (v := 0) hx hb dX3_codeOf__34 (by decide) ?_
        exact W.iret (v := 0) hx hb hr (fun t9 ht9 hW9 => ⟨0, rfl, by unfold mC; rw [if_pos c_2, if_neg c_3, if_neg (Int32.not_le.mpr c_4)], ht9⟩) (fun q hq => absurd hq List.not_mem_nil) dX3_codeOf__35
      · refine lv_iconst (v := 3) hx hb dX3_codeOf__30 (by decide) ?_
        refine lv_goto (tgt := 35) hx hb dX3_codeOf__31 (by decide) ?_
        exact W.iret (v := 3) hx hb hr (fun t9 ht9 hW9 => ⟨3, rfl, by unfold mC; rw [if_pos c_2, if_neg c_3, if_pos (Int32.not_lt.mp c_4)], ht9⟩) (fun q hq => absurd hq List.not_mem_nil) dX3_codeOf__35
  · refine lv_aload_n hx hb dX3_codeOf__8 rfl (lv_at hl 0 rfl) ?_
    refine lv_iload_n hx hb dX3_codeOf__9 rfl (lv_at hl 1 rfl) ?_
    refine vp_callSi (tc_CR (va_runV (As := [.int (nI j)]) (rest := []) ⟨hx, hb, hml, hown, hts⟩ (tX3_codeOf l D A cI cJ cD cC x0 x1 x2 x3 x4 Z m0 m1 m2 m3 m4 m5 th n K Ln Wh Re cd ct s.heap.size hI j hj) (cwV 1 hts gX3_codeOf__X3_codeOf rfl rfl rfl (by decide +kernel) ⟨Nat.le_of_ble_eq_true rfl, Nat.le_of_ble_eq_true rfl⟩) ⟨tcP.blind, (va_recv hK hP (ci := 3) (q0 := 5) rfl rfl), (tcP.go hK hP hD hE hS)⟩ rfl rfl hl.1 rfl (lv_room (Nat.le_of_ble_eq_true rfl)) dX3_codeOf__10 ⟨Nat.le_of_ble_eq_true rfl, Nat.le_of_ble_eq_true rfl⟩)) (fun r_5 hr_5 => ?_)
    subst hr_5
    refine lv_goto (tgt := 35) hx hb dX3_codeOf__13 (by decide) ?_
    exact W.iret (v := (kCol (K j))) hx hb hr (fun t9 ht9 hW9 => ⟨(kCol (K j)), rfl, by unfold mC; rw [if_neg c_2], ht9⟩) (fun q hq => absurd hq List.not_mem_nil) dX3_codeOf__35
set_option maxHeartbeats 4000000 in
set_option maxRecDepth 100000 in
theorem tX3_reads_y (l : Launch) (D : va_G) (A : Nat → Prop) (cI cJ cD cC : ClassId) (x0 x1 x2 x3 x4 : Nat × va_E) (Z : va_W) (m0 m1 m2 m3 m4 m5 : Nat) (th : Int32) (n : Nat) (K : Nat → Int32) (Ln : Nat → Nat) (Wh : Nat → Int64) (Re : Nat → UInt64) (cd : Int32) (ct : Nat → Int32) (sz : Nat) (hI : tcI n K Ln Wh Re) (j : Nat) (hj : j < n) (i as : Int32) : Met l yX3_reads wsX3_reads ({ frames := 2, cells := 0, slots := 0, locals := 43 }) (tcP D A (tcTY cI cJ cD cC) sz [.ref m0, .int (nI j), .int i, .int as] (tc_Z cI cJ cD x0 x1 x2 x3 x4 Z m0 m1 m2 m3 m4 m5 th n K Ln Wh Re cd ct)) (va_Qi (fun r (_ : Unit) => r = tb (decide (cdR K Ln j i (K j) as = 0))) (fun _ t => tcB D A (tc_Z cI cJ cD x0 x1 x2 x3 x4 Z m0 m1 m2 m3 m4 m5 0 n K Ln Wh Re (cdR K Ln j i (K j) as) (noteC ct (cdR K Ln j i (K j) as))) t) A) 0 0 A := by
  refine Met.ofW (cc := cX3_reads) (maxL := 5) (ret := (some .boolean)) (by decide) rfl ?_
  intro p e s m args below meth c s₁ B hml hv
  obtain ⟨rfl, hsz, hP, hK, hD, hE⟩ := hv
  have hx := B.exec
  have hb := B.bytes
  have hr := B.returns
  have hts := atoms_spec (ws := wsX3_reads) B.pre
  have hown : s.vm.findClass RX3 = some m.cls := findClass_of_methodNamed B.named
  have hlocks := B.notSynchronized
  have hl := lv_entry ([.ref m0, .int (nI j), .int i, .int as]) (n := 5) (Nat.le_of_ble_eq_true rfl)
  rw [lg_entry_eq]
  generalize (lg_sl ([.ref m0, .int (nI j), .int i, .int as]) ++ List.replicate (5 - (lg_sl ([.ref m0, .int (nI j), .int i, .int as])).length) Slot.unset).toArray = ls at hl ⊢
  have hl : lv_has ls 5 [(0, .ref m0), (1, .int (nI j)), (2, .int i), (3, .int as)] := hl
  subst hsz
  have hS : va_S A s.heap s.heap [] := va_S.rf
  have hn60 : n ≤ 60 := hI.1
  have hkI := (hI.2.1 j hj).1
  have hL := (hI.2.1 j hj).2.1
  refine lv_aload_n hx hb dX3_reads_0 rfl (lv_at hl 0 rfl) ?_
  refine lv_aload_n hx hb dX3_reads_1 rfl (lv_at hl 0 rfl) ?_
  refine lv_iload_n hx hb dX3_reads_2 rfl (lv_at hl 1 rfl) ?_
  refine vp_callSi (tc_CR (va_runV (As := [.int (nI j)]) (rest := [.ref m0]) ⟨hx, hb, hml, hown, hts⟩ (tX3_isColumn_y l D A cI cJ cD cC x0 x1 x2 x3 x4 Z m0 m1 m2 m3 m4 m5 th n K Ln Wh Re cd ct s.heap.size hI j hj) (cwV 1 hts gX3_reads_X3_isColumn rfl rfl rfl (by decide +kernel) ⟨Nat.le_of_ble_eq_true rfl, Nat.le_of_ble_eq_true rfl⟩) ⟨tcP.blind, (va_recv hK hP (ci := 3) (q0 := 5) rfl rfl), (tcP.go hK hP hD hE hS)⟩ rfl rfl hl.1 rfl (lv_room (Nat.le_of_ble_eq_true rfl)) dX3_reads_3 ⟨Nat.le_of_ble_eq_true rfl, Nat.le_of_ble_eq_true rfl⟩)) (fun r_1 hr_1 => ?_)
  subst hr_1
  refine lv_if_eq (tgt := 13) hx hb dX3_reads_6 (by decide) (fun q => absurd q (by decide)) (fun _ => ?_)
  refine lv_iconst (v := 0) hx hb dX3_reads_9 (by decide) ?_
  refine lv_goto (tgt := 14) hx hb dX3_reads_10 (by decide) ?_
  refine va_put (D := D) (ci := 3) (fs := [.int th, .int (nI n), .ref m1, .ref m2, .ref m3, .ref m4, .int cd, .ref m5]) (v := .int 0) (ty := .int) (C := RX3) (T := TX3) (N := 8) hx hb hts (by decide +kernel) tyX3 tyX3_ok nmX3 hown hK hP hD hS 5 rfl rfl 0 (by decide) (hts (.fieldLink RX3 27 "TypedColumnsModel" "thrown" "I") (by decide +kernel)) (fun _ h9 => h9) rfl (by decide +kernel) rfl rfl (Nat.le_of_ble_eq_true rfl) dX3_reads_14 (fun H locs hP hD hS => ?_)
  have hP : va_P D vwCl (tc_Z cI cJ cD x0 x1 x2 x3 x4 Z m0 m1 m2 m3 m4 m5 0 n K Ln Wh Re cd ct) H := hP
  have hD : va_D A (tc_Z cI cJ cD x0 x1 x2 x3 x4 Z m0 m1 m2 m3 m4 m5 0 n K Ln Wh Re cd ct) := hD
  refine lv_aload_n hx hb dX3_reads_17 rfl (lv_at hl 0 rfl) ?_
  refine va_get (D := D) (ci := 3) (fs := [.int 0, .int (nI n), .ref m1, .ref m2, .ref m3, .ref m4, .int cd, .ref m5]) (v := .int 0) (C := RX3) (T := TX3) (N := 8) hx hb hts (by decide +kernel) hown hK hP 5 rfl rfl 0 (by decide) (hts (.fieldLink RX3 27 "TypedColumnsModel" "thrown" "I") (by decide +kernel)) (fun _ h9 => h9) rfl dX3_reads_18 ?_
  refine lv_if_eq (tgt := 26) hx hb dX3_reads_21 (by decide) (fun _ => ?_) (fun q => absurd (by decide) q)
  refine lv_aload_n hx hb dX3_reads_26 rfl (lv_at hl 0 rfl) ?_
  refine lv_iload_n hx hb dX3_reads_27 rfl (lv_at hl 1 rfl) ?_
  refine lv_iload_n hx hb dX3_reads_28 rfl (lv_at hl 2 rfl) ?_
  refine vp_callSi (tc_CR (va_runV (As := [.int (nI j), .int i]) (rest := []) ⟨hx, hb, hml, hown, hts⟩ (tX3_codeOf_ l D A cI cJ cD cC x0 x1 x2 x3 x4 Z m0 m1 m2 m3 m4 m5 0 n K Ln Wh Re cd ct H.size hI j hj i) (cwV 2 hts gX3_reads_X3_codeOf_ rfl rfl rfl (by decide +kernel) ⟨Nat.le_of_ble_eq_true rfl, Nat.le_of_ble_eq_true rfl⟩) ⟨tcP.blind, (va_recv hK hP (ci := 3) (q0 := 5) rfl rfl), (tcP.go hK hP hD hE hS)⟩ rfl rfl hl.1 rfl (lv_room (Nat.le_of_ble_eq_true rfl)) dX3_reads_29 ⟨Nat.le_of_ble_eq_true rfl, Nat.le_of_ble_eq_true rfl⟩)) (fun r_4 hr_4 => ?_)
  subst hr_4
  refine lv_istore (lv' := [(4, .int (mC K Ln j i)), (0, .ref m0), (1, .int (nI j)), (2, .int i), (3, .int as)]) hx hb dX3_reads_32 hl (by decide) rfl (fun ls hl => ?_)
  refine lv_aload_n hx hb dX3_reads_34 rfl (lv_at hl 1 rfl) ?_
  refine lv_iload hx hb dX3_reads_35 (lv_at hl 0 rfl) ?_
  refine lv_if_ne (tgt := 57) hx hb dX3_reads_37 (by decide) (fun c_5 => ?_) (fun c_5 => ?_)
  · refine lv_iload hx hb dX3_reads_57 (lv_at hl 0 rfl) ?_
    have z : cdR K Ln j i (K j) as = (mC K Ln j i) := by rw [cdR_mC hkI, if_neg c_5]
    refine va_calli (va_runV (As := [.int (mC K Ln j i)]) (rest := []) ⟨hx, hb, hml, hown, hts⟩ (tX3_note l D A cI cJ cD cC x0 x1 x2 x3 x4 Z m0 m1 m2 m3 m4 m5 0 n K Ln Wh Re cd ct H.size (mC K Ln j i) (z ▸ kCell_in _ _ _ _ _)) (cwV 1 hts gX3_reads_X3_note rfl rfl rfl (by decide +kernel) ⟨Nat.le_of_ble_eq_true rfl, Nat.le_of_ble_eq_true rfl⟩) ⟨tcP.blind, (va_recv hK hP (ci := 3) (q0 := 5) rfl rfl), (tcP.go hK hP hD hE hS)⟩ rfl rfl hl.1 rfl (lv_room (Nat.le_of_ble_eq_true rfl)) dX3_reads_59 ⟨Nat.le_of_ble_eq_true rfl, Nat.le_of_ble_eq_true rfl⟩) hS (fun q _ h => h) (fun q h => h) (fun r_6 u t H locs ht hvm hw hB hz1 hk1 hS => ?_)
    subst hw
    obtain ⟨hP, hD⟩ := hB
    rw [ht] at hP
    have hP : va_P D vwCl (tc_Z cI cJ cD x0 x1 x2 x3 x4 Z m0 m1 m2 m3 m4 m5 0 n K Ln Wh Re (cdR K Ln j i (K j) as) (noteC ct (cdR K Ln j i (K j) as))) H := by rw [z]; exact hP
    have hD : va_D A (tc_Z cI cJ cD x0 x1 x2 x3 x4 Z m0 m1 m2 m3 m4 m5 0 n K Ln Wh Re (cdR K Ln j i (K j) as) (noteC ct (cdR K Ln j i (K j) as))) := by rw [z]; exact hD
    exact W.zret (ty := .boolean) (v := tb (decide ((mC K Ln j i) = 0))) hx hb hr (tb_n _) (fun t9 ht9 hW9 => ⟨⟨tb (decide ((mC K Ln j i) = 0)), (), rfl, by rw [z], by rw [ht9]; exact hP, hD⟩, hS.F ht9⟩) hS.2.2 dX3_reads_62
  · refine lv_aload_n hx hb dX3_reads_40 rfl (lv_at hl 1 rfl) ?_
    refine va_get (D := D) (ci := 3) (fs := [.int 0, .int (nI n), .ref m1, .ref m2, .ref m3, .ref m4, .int cd, .ref m5]) (v := .ref m1) (C := RX3) (T := TX3) (N := 8) hx hb hts (by decide +kernel) hown hK hP 5 rfl rfl 2 (by decide) (hts (.fieldLink RX3 9 "TypedColumnsModel" "kinds" "[I") (by decide +kernel)) (fun _ h9 => h9) rfl dX3_reads_41 ?_
    refine lv_iload_n hx hb dX3_reads_44 rfl (lv_at hl 2 rfl) ?_
    refine tc_iald (f := K) (v := (K j)) hx hb hK hP 6 0 rfl rfl (vp_in_nI (show j < 60 by omega) (by decide)) (by rw [nI_clamp (show j < 2 ^ 31 by omega)]) dX3_reads_45 ?_
    refine lv_iload_n hx hb dX3_reads_46 rfl (lv_at hl 4 rfl) ?_
    refine vp_callSi (W.runS (As := [.int (K j), .int as]) (rest := [.ref m0]) ⟨hx, hb, hml, hown, hts⟩ (kX3_widens l (K j) as) (va_cwS 2 hts gX3_reads_X3_widens rfl rfl rfl (by decide +kernel) ⟨Nat.le_of_ble_eq_true rfl, Nat.le_of_ble_eq_true rfl⟩) ⟨fun a U g mk q => q, fun U hU hW => ⟨rfl, trivial⟩⟩ rfl rfl hl.1 rfl (lv_room (Nat.le_of_ble_eq_true rfl)) dX3_reads_47 ⟨Nat.zero_le _, Nat.zero_le _⟩) (fun r_7 hr_7 => ?_)
    subst hr_7
    refine lv_if_ne (tgt := 57) hx hb dX3_reads_50 (by decide) (fun c_8 => ?_) (fun c_8 => ?_)
    · refine lv_iload hx hb dX3_reads_57 (lv_at hl 0 rfl) ?_
      have z : cdR K Ln j i (K j) as = (mC K Ln j i) := by rw [cdR_mC hkI, if_pos c_5, if_pos ((tb_1 _).mp c_8), c_5]
      refine va_calli (va_runV (As := [.int (mC K Ln j i)]) (rest := []) ⟨hx, hb, hml, hown, hts⟩ (tX3_note l D A cI cJ cD cC x0 x1 x2 x3 x4 Z m0 m1 m2 m3 m4 m5 0 n K Ln Wh Re cd ct H.size (mC K Ln j i) (z ▸ kCell_in _ _ _ _ _)) (cwV 1 hts gX3_reads_X3_note rfl rfl rfl (by decide +kernel) ⟨Nat.le_of_ble_eq_true rfl, Nat.le_of_ble_eq_true rfl⟩) ⟨tcP.blind, (va_recv hK hP (ci := 3) (q0 := 5) rfl rfl), (tcP.go hK hP hD hE hS)⟩ rfl rfl hl.1 rfl (lv_room (Nat.le_of_ble_eq_true rfl)) dX3_reads_59 ⟨Nat.le_of_ble_eq_true rfl, Nat.le_of_ble_eq_true rfl⟩) hS (fun q _ h => h) (fun q h => h) (fun r_9 u t H locs ht hvm hw hB hz1 hk1 hS => ?_)
      subst hw
      obtain ⟨hP, hD⟩ := hB
      rw [ht] at hP
      have hP : va_P D vwCl (tc_Z cI cJ cD x0 x1 x2 x3 x4 Z m0 m1 m2 m3 m4 m5 0 n K Ln Wh Re (cdR K Ln j i (K j) as) (noteC ct (cdR K Ln j i (K j) as))) H := by rw [z]; exact hP
      have hD : va_D A (tc_Z cI cJ cD x0 x1 x2 x3 x4 Z m0 m1 m2 m3 m4 m5 0 n K Ln Wh Re (cdR K Ln j i (K j) as) (noteC ct (cdR K Ln j i (K j) as))) := by rw [z]; exact hD
      exact W.zret (ty := .boolean) (v := tb (decide ((mC K Ln j i) = 0))) hx hb hr (tb_n _) (fun t9 ht9 hW9 => ⟨⟨tb (decide ((mC K Ln j i) = 0)), (), rfl, by rw [z], by rw [ht9]; exact hP, hD⟩, hS.F ht9⟩) hS.2.2 dX3_reads_62
    · refine lv_iconst (v := 4) hx hb dX3_reads_53 (by decide) ?_
      refine lv_goto (tgt := 59) hx hb dX3_reads_54 (by decide) ?_
      have z : cdR K Ln j i (K j) as = 4 := by rw [cdR_mC hkI, if_pos c_5, if_neg (by rw [(tb_0 _).mp c_8]; decide)]
      refine va_calli (va_runV (As := [.int 4]) (rest := []) ⟨hx, hb, hml, hown, hts⟩ (tX3_note l D A cI cJ cD cC x0 x1 x2 x3 x4 Z m0 m1 m2 m3 m4 m5 0 n K Ln Wh Re cd ct H.size 4 (z ▸ kCell_in _ _ _ _ _)) (cwV 1 hts gX3_reads_X3_note rfl rfl rfl (by decide +kernel) ⟨Nat.le_of_ble_eq_true rfl, Nat.le_of_ble_eq_true rfl⟩) ⟨tcP.blind, (va_recv hK hP (ci := 3) (q0 := 5) rfl rfl), (tcP.go hK hP hD hE hS)⟩ rfl rfl hl.1 rfl (lv_room (Nat.le_of_ble_eq_true rfl)) dX3_reads_59 ⟨Nat.le_of_ble_eq_true rfl, Nat.le_of_ble_eq_true rfl⟩) hS (fun q _ h => h) (fun q h => h) (fun r_10 u t H locs ht hvm hw hB hz1 hk1 hS => ?_)
      subst hw
      obtain ⟨hP, hD⟩ := hB
      rw [ht] at hP
      have hP : va_P D vwCl (tc_Z cI cJ cD x0 x1 x2 x3 x4 Z m0 m1 m2 m3 m4 m5 0 n K Ln Wh Re (cdR K Ln j i (K j) as) (noteC ct (cdR K Ln j i (K j) as))) H := by rw [z]; exact hP
      have hD : va_D A (tc_Z cI cJ cD x0 x1 x2 x3 x4 Z m0 m1 m2 m3 m4 m5 0 n K Ln Wh Re (cdR K Ln j i (K j) as) (noteC ct (cdR K Ln j i (K j) as))) := by rw [z]; exact hD
      exact W.zret (ty := .boolean) (v := tb (decide (4 = 0))) hx hb hr (tb_n _) (fun t9 ht9 hW9 => ⟨⟨tb (decide (4 = 0)), (), rfl, by rw [z], by rw [ht9]; exact hP, hD⟩, hS.F ht9⟩) hS.2.2 dX3_reads_62
set_option maxHeartbeats 4000000 in
set_option maxRecDepth 100000 in
theorem tX3_reads_n (l : Launch) (D : va_G) (A : Nat → Prop) (cI cJ cD cC : ClassId) (x0 x1 x2 x3 x4 : Nat × va_E) (Z : va_W) (m0 m1 m2 m3 m4 m5 : Nat) (th : Int32) (n : Nat) (K : Nat → Int32) (Ln : Nat → Nat) (Wh : Nat → Int64) (Re : Nat → UInt64) (cd : Int32) (ct : Nat → Int32) (sz : Nat) (hI : tcI n K Ln Wh Re) (cx : Int32) (hc : ¬ ∃ j, j < n ∧ cx = nI j) (i as : Int32) : Met l yX3_reads wsX3_reads ({ frames := 1, cells := 0, slots := 0, locals := 21 }) (tcP D A (tcTY cI cJ cD cC) sz [.ref m0, .int cx, .int i, .int as] (tc_Z cI cJ cD x0 x1 x2 x3 x4 Z m0 m1 m2 m3 m4 m5 th n K Ln Wh Re cd ct)) (va_Qi (fun r (_ : Unit) => r = 0) (fun _ t => tcB D A (tc_Z cI cJ cD x0 x1 x2 x3 x4 Z m0 m1 m2 m3 m4 m5 1 n K Ln Wh Re cd ct) t) A) 0 0 A := by
  refine Met.ofW (cc := cX3_reads) (maxL := 5) (ret := (some .boolean)) (by decide) rfl ?_
  intro p e s m args below meth c s₁ B hml hv
  obtain ⟨rfl, hsz, hP, hK, hD, hE⟩ := hv
  have hx := B.exec
  have hb := B.bytes
  have hr := B.returns
  have hts := atoms_spec (ws := wsX3_reads) B.pre
  have hown : s.vm.findClass RX3 = some m.cls := findClass_of_methodNamed B.named
  have hlocks := B.notSynchronized
  have hl := lv_entry ([.ref m0, .int cx, .int i, .int as]) (n := 5) (Nat.le_of_ble_eq_true rfl)
  rw [lg_entry_eq]
  generalize (lg_sl ([.ref m0, .int cx, .int i, .int as]) ++ List.replicate (5 - (lg_sl ([.ref m0, .int cx, .int i, .int as])).length) Slot.unset).toArray = ls at hl ⊢
  have hl : lv_has ls 5 [(0, .ref m0), (1, .int cx), (2, .int i), (3, .int as)] := hl
  subst hsz
  have hS : va_S A s.heap s.heap [] := va_S.rf
  have hn60 : n ≤ 60 := hI.1
  refine lv_aload_n hx hb dX3_reads_0 rfl (lv_at hl 0 rfl) ?_
  refine lv_aload_n hx hb dX3_reads_1 rfl (lv_at hl 0 rfl) ?_
  refine lv_iload_n hx hb dX3_reads_2 rfl (lv_at hl 1 rfl) ?_
  refine vp_callSi (tc_CR (va_runV (As := [.int cx]) (rest := [.ref m0]) ⟨hx, hb, hml, hown, hts⟩ (tX3_isColumn_n l D A cI cJ cD cC x0 x1 x2 x3 x4 Z m0 m1 m2 m3 m4 m5 th n K Ln Wh Re cd ct s.heap.size hI cx hc) (cwV 1 hts gX3_reads_X3_isColumn rfl rfl rfl (by decide +kernel) ⟨Nat.le_of_ble_eq_true rfl, Nat.le_of_ble_eq_true rfl⟩) ⟨tcP.blind, (va_recv hK hP (ci := 3) (q0 := 5) rfl rfl), (tcP.go hK hP hD hE hS)⟩ rfl rfl hl.1 rfl (lv_room (Nat.le_of_ble_eq_true rfl)) dX3_reads_3 ⟨Nat.le_of_ble_eq_true rfl, Nat.le_of_ble_eq_true rfl⟩)) (fun r_1 hr_1 => ?_)
  subst hr_1
  refine lv_if_eq (tgt := 13) hx hb dX3_reads_6 (by decide) (fun _ => ?_) (fun q => absurd (by decide) q)
  refine lv_iconst (v := 1) hx hb dX3_reads_13 (by decide) ?_
  refine va_put (D := D) (ci := 3) (fs := [.int th, .int (nI n), .ref m1, .ref m2, .ref m3, .ref m4, .int cd, .ref m5]) (v := .int 1) (ty := .int) (C := RX3) (T := TX3) (N := 8) hx hb hts (by decide +kernel) tyX3 tyX3_ok nmX3 hown hK hP hD hS 5 rfl rfl 0 (by decide) (hts (.fieldLink RX3 27 "TypedColumnsModel" "thrown" "I") (by decide +kernel)) (fun _ h9 => h9) rfl (by decide +kernel) rfl rfl (Nat.le_of_ble_eq_true rfl) dX3_reads_14 (fun H locs hP hD hS => ?_)
  have hP : va_P D vwCl (tc_Z cI cJ cD x0 x1 x2 x3 x4 Z m0 m1 m2 m3 m4 m5 1 n K Ln Wh Re cd ct) H := hP
  have hD : va_D A (tc_Z cI cJ cD x0 x1 x2 x3 x4 Z m0 m1 m2 m3 m4 m5 1 n K Ln Wh Re cd ct) := hD
  refine lv_aload_n hx hb dX3_reads_17 rfl (lv_at hl 0 rfl) ?_
  refine va_get (D := D) (ci := 3) (fs := [.int 1, .int (nI n), .ref m1, .ref m2, .ref m3, .ref m4, .int cd, .ref m5]) (v := .int 1) (C := RX3) (T := TX3) (N := 8) hx hb hts (by decide +kernel) hown hK hP 5 rfl rfl 0 (by decide) (hts (.fieldLink RX3 27 "TypedColumnsModel" "thrown" "I") (by decide +kernel)) (fun _ h9 => h9) rfl dX3_reads_18 ?_
  refine lv_if_eq (tgt := 26) hx hb dX3_reads_21 (by decide) (fun q => absurd q (by decide)) (fun _ => ?_)
  refine lv_iconst (v := 0) hx hb dX3_reads_24 (by decide) ?_
  exact W.zret (ty := .boolean) (v := 0) hx hb hr rfl (fun t9 ht9 hW9 => ⟨⟨0, (), rfl, rfl, by rw [ht9]; exact hP, hD⟩, hS.F ht9⟩) hS.2.2 dX3_reads_25
set_option maxHeartbeats 4000000 in
set_option maxRecDepth 100000 in
theorem tX3_readBoolean_y (l : Launch) (D : va_G) (A : Nat → Prop) (cI cJ cD cC : ClassId) (x0 x1 x2 x3 x4 : Nat × va_E) (Z : va_W) (m0 m1 m2 m3 m4 m5 : Nat) (th : Int32) (n : Nat) (K : Nat → Int32) (Ln : Nat → Nat) (Wh : Nat → Int64) (Re : Nat → UInt64) (cd : Int32) (ct : Nat → Int32) (sz : Nat) (hI : tcI n K Ln Wh Re) (j : Nat) (hj : j < n) (i : Int32) : Met l yX3_readBoolean wsX3_readBoolean ({ frames := 3, cells := 0, slots := 0, locals := 67 }) (tcP D A (tcTY cI cJ cD cC) sz [.ref m0, .int (nI j), .int i] (tc_Z cI cJ cD x0 x1 x2 x3 x4 Z m0 m1 m2 m3 m4 m5 th n K Ln Wh Re cd ct)) (va_Qi (fun r (_ : Unit) => r = tb (!decide (rdW K Ln Wh j i 1 = 0))) (fun _ t => tcB D A (tc_Z cI cJ cD x0 x1 x2 x3 x4 Z m0 m1 m2 m3 m4 m5 0 n K Ln Wh Re (cdR K Ln j i (K j) 1) (noteC ct (cdR K Ln j i (K j) 1))) t) A) 0 0 A := by
  refine Met.ofW (cc := cX3_readBoolean) (maxL := 3) (ret := (some .boolean)) (by decide) rfl ?_
  intro p e s m args below meth c s₁ B hml hv
  obtain ⟨rfl, hsz, hP, hK, hD, hE⟩ := hv
  have hx := B.exec
  have hb := B.bytes
  have hr := B.returns
  have hts := atoms_spec (ws := wsX3_readBoolean) B.pre
  have hown : s.vm.findClass RX3 = some m.cls := findClass_of_methodNamed B.named
  have hlocks := B.notSynchronized
  have hl := lv_entry ([.ref m0, .int (nI j), .int i]) (n := 3) (Nat.le_of_ble_eq_true rfl)
  rw [lg_entry_eq]
  generalize (lg_sl ([.ref m0, .int (nI j), .int i]) ++ List.replicate (3 - (lg_sl ([.ref m0, .int (nI j), .int i])).length) Slot.unset).toArray = ls at hl ⊢
  have hl : lv_has ls 3 [(0, .ref m0), (1, .int (nI j)), (2, .int i)] := hl
  subst hsz
  have hS : va_S A s.heap s.heap [] := va_S.rf
  have hn60 : n ≤ 60 := hI.1
  have hkI := (hI.2.1 j hj).1
  have hL := (hI.2.1 j hj).2.1
  refine lv_aload_n hx hb dX3_readBoolean_0 rfl (lv_at hl 0 rfl) ?_
  refine lv_iload_n hx hb dX3_readBoolean_1 rfl (lv_at hl 1 rfl) ?_
  refine lv_iload_n hx hb dX3_readBoolean_2 rfl (lv_at hl 2 rfl) ?_
  refine lv_iconst (v := 1) hx hb dX3_readBoolean_3 (by decide) ?_
  refine va_calli (va_runV (As := [.int (nI j), .int i, .int 1]) (rest := []) ⟨hx, hb, hml, hown, hts⟩ (tX3_reads_y l D A cI cJ cD cC x0 x1 x2 x3 x4 Z m0 m1 m2 m3 m4 m5 th n K Ln Wh Re cd ct s.heap.size hI j hj i 1) (cwV 3 hts gX3_readBoolean_X3_reads rfl rfl rfl (by decide +kernel) ⟨Nat.le_of_ble_eq_true rfl, Nat.le_of_ble_eq_true rfl⟩) ⟨tcP.blind, (va_recv hK hP (ci := 3) (q0 := 5) rfl rfl), (tcP.go hK hP hD hE hS)⟩ rfl rfl hl.1 rfl (lv_room (Nat.le_of_ble_eq_true rfl)) dX3_readBoolean_4 ⟨Nat.le_of_ble_eq_true rfl, Nat.le_of_ble_eq_true rfl⟩) hS (fun q _ h => h) (fun q h => h) (fun r_1 u t H locs ht hvm hw hB hz1 hk1 hS => ?_)
  subst hw
  obtain ⟨hP, hD⟩ := hB
  rw [ht] at hP
  refine lv_if_eq (tgt := 29) hx hb dX3_readBoolean_7 (by decide) (fun c_2 => ?_) (fun c_2 => ?_)
  · refine lv_iconst (v := 0) hx hb dX3_readBoolean_29 (by decide) ?_
    exact W.zret (ty := .boolean) (v := 0) hx hb hr rfl (fun t9 ht9 hW9 => ⟨⟨0, (), rfl, by unfold rdW; rw [if_neg (tb_dn c_2)]; rfl, by rw [ht9]; exact hP, hD⟩, hS.F ht9⟩) hS.2.2 dX3_readBoolean_30
  · refine lv_aload_n hx hb dX3_readBoolean_10 rfl (lv_at hl 0 rfl) ?_
    refine va_get (D := D) (ci := 3) (fs := [.int 0, .int (nI n), .ref m1, .ref m2, .ref m3, .ref m4, .int (cdR K Ln j i (K j) 1), .ref m5]) (v := .ref m3) (C := RX3) (T := TX3) (N := 8) hx hb hts (by decide +kernel) hown hK hP 5 rfl rfl 4 (by decide) (hts (.fieldLink RX3 16 "TypedColumnsModel" "whole" "[J") (by decide +kernel)) (fun _ h9 => h9) rfl dX3_readBoolean_11 ?_
    refine lv_iload_n hx hb dX3_readBoolean_14 rfl (lv_at hl 1 rfl) ?_
    refine lv_iload_n hx hb dX3_readBoolean_15 rfl (lv_at hl 2 rfl) ?_
    have gc := tb_dp c_2
    have g0 := cdR_0 hkI hL gc
    have hi40 : vp_in i 40 := vp_in_le g0.2.2 hL
    have hq : i.toNatClampNeg < 40 := vp_in_lt hi40
    refine vp_callSi (W.runS (As := [.int (nI j), .int i]) (rest := [.ref m3]) ⟨hx, hb, hml, hown, hts⟩ (kX3_at l (nI j) i) (va_cwS 2 hts gX3_readBoolean_X3_at rfl rfl rfl (by decide +kernel) ⟨Nat.le_of_ble_eq_true rfl, Nat.le_of_ble_eq_true rfl⟩) ⟨fun a U g mk q => q, fun U hU hW => ⟨rfl, trivial⟩⟩ rfl rfl hl.1 rfl (lv_room (Nat.le_of_ble_eq_true rfl)) dX3_readBoolean_16 ⟨Nat.zero_le _, Nat.zero_le _⟩) (fun r_3 hr_3 => ?_)
    subst hr_3
    rw [at_nI hi40]
    refine tc_lald (f := Wh) (v := (Wh (40 * j + i.toNatClampNeg))) hx hb hK hP 8 1 rfl rfl (vp_in_nI (show (40 * j + i.toNatClampNeg) < 2400 by omega) (by decide)) (by rw [nI_clamp (show (40 * j + i.toNatClampNeg) < 2 ^ 31 by omega)]) dX3_readBoolean_19 ?_
    refine lv_lconst (v := 1) hx hb dX3_readBoolean_20 (by decide) ?_
    refine W.lcmp hx hb dX3_readBoolean_21 ?_
    refine lv_if_ne (tgt := 29) hx hb dX3_readBoolean_22 (by decide) (fun c_4 => ?_) (fun c_4 => ?_)
    · refine lv_iconst (v := 0) hx hb dX3_readBoolean_29 (by decide) ?_
      have k1 : K j = 1 := kWid_1 g0.2.1
      have hb01 := hI.2.2.1 j hj k1 _ (vp_in_lt g0.2.2)
      exact W.zret (ty := .boolean) (v := 0) hx hb hr rfl (fun t9 ht9 hW9 => ⟨⟨0, (), rfl, by unfold rdW; rw [if_pos gc, (hb01.resolve_right (fun q => c_4 ((lg_cmp_eq _ _).mpr q)))]; rfl, by rw [ht9]; exact hP, hD⟩, hS.F ht9⟩) hS.2.2 dX3_readBoolean_30
    · refine lv_iconst (v := 1) hx hb dX3_readBoolean_25 (by decide) ?_
      refine lv_goto (tgt := 30) hx hb dX3_readBoolean_26 (by decide) ?_
      have k1 : K j = 1 := kWid_1 g0.2.1
      have hb01 := hI.2.2.1 j hj k1 _ (vp_in_lt g0.2.2)
      exact W.zret (ty := .boolean) (v := 1) hx hb hr rfl (fun t9 ht9 hW9 => ⟨⟨1, (), rfl, by unfold rdW; rw [if_pos gc, (lg_cmp_eq _ _).mp c_4]; rfl, by rw [ht9]; exact hP, hD⟩, hS.F ht9⟩) hS.2.2 dX3_readBoolean_30
set_option maxHeartbeats 4000000 in
set_option maxRecDepth 100000 in
theorem tX3_readBoolean_n (l : Launch) (D : va_G) (A : Nat → Prop) (cI cJ cD cC : ClassId) (x0 x1 x2 x3 x4 : Nat × va_E) (Z : va_W) (m0 m1 m2 m3 m4 m5 : Nat) (th : Int32) (n : Nat) (K : Nat → Int32) (Ln : Nat → Nat) (Wh : Nat → Int64) (Re : Nat → UInt64) (cd : Int32) (ct : Nat → Int32) (sz : Nat) (hI : tcI n K Ln Wh Re) (cx : Int32) (hc : ¬ ∃ j, j < n ∧ cx = nI j) (i : Int32) : Met l yX3_readBoolean wsX3_readBoolean ({ frames := 2, cells := 0, slots := 0, locals := 45 }) (tcP D A (tcTY cI cJ cD cC) sz [.ref m0, .int cx, .int i] (tc_Z cI cJ cD x0 x1 x2 x3 x4 Z m0 m1 m2 m3 m4 m5 th n K Ln Wh Re cd ct)) (va_Qi (fun r (_ : Unit) => r = 0) (fun _ t => tcB D A (tc_Z cI cJ cD x0 x1 x2 x3 x4 Z m0 m1 m2 m3 m4 m5 1 n K Ln Wh Re cd ct) t) A) 0 0 A := by
  refine Met.ofW (cc := cX3_readBoolean) (maxL := 3) (ret := (some .boolean)) (by decide) rfl ?_
  intro p e s m args below meth c s₁ B hml hv
  obtain ⟨rfl, hsz, hP, hK, hD, hE⟩ := hv
  have hx := B.exec
  have hb := B.bytes
  have hr := B.returns
  have hts := atoms_spec (ws := wsX3_readBoolean) B.pre
  have hown : s.vm.findClass RX3 = some m.cls := findClass_of_methodNamed B.named
  have hlocks := B.notSynchronized
  have hl := lv_entry ([.ref m0, .int cx, .int i]) (n := 3) (Nat.le_of_ble_eq_true rfl)
  rw [lg_entry_eq]
  generalize (lg_sl ([.ref m0, .int cx, .int i]) ++ List.replicate (3 - (lg_sl ([.ref m0, .int cx, .int i])).length) Slot.unset).toArray = ls at hl ⊢
  have hl : lv_has ls 3 [(0, .ref m0), (1, .int cx), (2, .int i)] := hl
  subst hsz
  have hS : va_S A s.heap s.heap [] := va_S.rf
  have hn60 : n ≤ 60 := hI.1
  refine lv_aload_n hx hb dX3_readBoolean_0 rfl (lv_at hl 0 rfl) ?_
  refine lv_iload_n hx hb dX3_readBoolean_1 rfl (lv_at hl 1 rfl) ?_
  refine lv_iload_n hx hb dX3_readBoolean_2 rfl (lv_at hl 2 rfl) ?_
  refine lv_iconst (v := 1) hx hb dX3_readBoolean_3 (by decide) ?_
  refine va_calli (va_runV (As := [.int cx, .int i, .int 1]) (rest := []) ⟨hx, hb, hml, hown, hts⟩ (tX3_reads_n l D A cI cJ cD cC x0 x1 x2 x3 x4 Z m0 m1 m2 m3 m4 m5 th n K Ln Wh Re cd ct s.heap.size hI cx hc i 1) (cwV 3 hts gX3_readBoolean_X3_reads rfl rfl rfl (by decide +kernel) ⟨Nat.le_of_ble_eq_true rfl, Nat.le_of_ble_eq_true rfl⟩) ⟨tcP.blind, (va_recv hK hP (ci := 3) (q0 := 5) rfl rfl), (tcP.go hK hP hD hE hS)⟩ rfl rfl hl.1 rfl (lv_room (Nat.le_of_ble_eq_true rfl)) dX3_readBoolean_4 ⟨Nat.le_of_ble_eq_true rfl, Nat.le_of_ble_eq_true rfl⟩) hS (fun q _ h => h) (fun q h => h) (fun r_1 u t H locs ht hvm hw hB hz1 hk1 hS => ?_)
  subst hw
  obtain ⟨hP, hD⟩ := hB
  rw [ht] at hP
  refine lv_if_eq (tgt := 29) hx hb dX3_readBoolean_7 (by decide) (fun _ => ?_) (fun q => absurd (by decide) q)
  refine lv_iconst (v := 0) hx hb dX3_readBoolean_29 (by decide) ?_
  exact W.zret (ty := .boolean) (v := 0) hx hb hr rfl (fun t9 ht9 hW9 => ⟨⟨0, (), rfl, rfl, by rw [ht9]; exact hP, hD⟩, hS.F ht9⟩) hS.2.2 dX3_readBoolean_30
set_option maxHeartbeats 4000000 in
set_option maxRecDepth 100000 in
theorem tX3_readByte_y (l : Launch) (D : va_G) (A : Nat → Prop) (cI cJ cD cC : ClassId) (x0 x1 x2 x3 x4 : Nat × va_E) (Z : va_W) (m0 m1 m2 m3 m4 m5 : Nat) (th : Int32) (n : Nat) (K : Nat → Int32) (Ln : Nat → Nat) (Wh : Nat → Int64) (Re : Nat → UInt64) (cd : Int32) (ct : Nat → Int32) (sz : Nat) (hI : tcI n K Ln Wh Re) (j : Nat) (hj : j < n) (i : Int32) : Met l yX3_readByte wsX3_readByte ({ frames := 3, cells := 0, slots := 0, locals := 67 }) (tcP D A (tcTY cI cJ cD cC) sz [.ref m0, .int (nI j), .int i] (tc_Z cI cJ cD x0 x1 x2 x3 x4 Z m0 m1 m2 m3 m4 m5 th n K Ln Wh Re cd ct)) (va_Qi (fun r (_ : Unit) => r = (rdW K Ln Wh j i 2).toInt32) (fun _ t => tcB D A (tc_Z cI cJ cD x0 x1 x2 x3 x4 Z m0 m1 m2 m3 m4 m5 0 n K Ln Wh Re (cdR K Ln j i (K j) 2) (noteC ct (cdR K Ln j i (K j) 2))) t) A) 0 0 A := by
  refine Met.ofW (cc := cX3_readByte) (maxL := 3) (ret := (some .int)) (by decide) rfl ?_
  intro p e s m args below meth c s₁ B hml hv
  obtain ⟨rfl, hsz, hP, hK, hD, hE⟩ := hv
  have hx := B.exec
  have hb := B.bytes
  have hr := B.returns
  have hts := atoms_spec (ws := wsX3_readByte) B.pre
  have hown : s.vm.findClass RX3 = some m.cls := findClass_of_methodNamed B.named
  have hlocks := B.notSynchronized
  have hl := lv_entry ([.ref m0, .int (nI j), .int i]) (n := 3) (Nat.le_of_ble_eq_true rfl)
  rw [lg_entry_eq]
  generalize (lg_sl ([.ref m0, .int (nI j), .int i]) ++ List.replicate (3 - (lg_sl ([.ref m0, .int (nI j), .int i])).length) Slot.unset).toArray = ls at hl ⊢
  have hl : lv_has ls 3 [(0, .ref m0), (1, .int (nI j)), (2, .int i)] := hl
  subst hsz
  have hS : va_S A s.heap s.heap [] := va_S.rf
  have hn60 : n ≤ 60 := hI.1
  have hkI := (hI.2.1 j hj).1
  have hL := (hI.2.1 j hj).2.1
  refine lv_aload_n hx hb dX3_readByte_0 rfl (lv_at hl 0 rfl) ?_
  refine lv_iload_n hx hb dX3_readByte_1 rfl (lv_at hl 1 rfl) ?_
  refine lv_iload_n hx hb dX3_readByte_2 rfl (lv_at hl 2 rfl) ?_
  refine lv_iconst (v := 2) hx hb dX3_readByte_3 (by decide) ?_
  refine va_calli (va_runV (As := [.int (nI j), .int i, .int 2]) (rest := []) ⟨hx, hb, hml, hown, hts⟩ (tX3_reads_y l D A cI cJ cD cC x0 x1 x2 x3 x4 Z m0 m1 m2 m3 m4 m5 th n K Ln Wh Re cd ct s.heap.size hI j hj i 2) (cwV 3 hts gX3_readByte_X3_reads rfl rfl rfl (by decide +kernel) ⟨Nat.le_of_ble_eq_true rfl, Nat.le_of_ble_eq_true rfl⟩) ⟨tcP.blind, (va_recv hK hP (ci := 3) (q0 := 5) rfl rfl), (tcP.go hK hP hD hE hS)⟩ rfl rfl hl.1 rfl (lv_room (Nat.le_of_ble_eq_true rfl)) dX3_readByte_4 ⟨Nat.le_of_ble_eq_true rfl, Nat.le_of_ble_eq_true rfl⟩) hS (fun q _ h => h) (fun q h => h) (fun r_1 u t H locs ht hvm hw hB hz1 hk1 hS => ?_)
  subst hw
  obtain ⟨hP, hD⟩ := hB
  rw [ht] at hP
  refine lv_if_eq (tgt := 24) hx hb dX3_readByte_7 (by decide) (fun c_2 => ?_) (fun c_2 => ?_)
  · refine lv_iconst (v := 0) hx hb dX3_readByte_24 (by decide) ?_
    exact W.iret (v := 0) hx hb hr (fun t9 ht9 hW9 => ⟨⟨0, (), rfl, by unfold rdW; rw [if_neg (tb_dn c_2)]; rfl, by rw [ht9]; exact hP, hD⟩, hS.F ht9⟩) hS.2.2 dX3_readByte_25
  · refine lv_aload_n hx hb dX3_readByte_10 rfl (lv_at hl 0 rfl) ?_
    refine va_get (D := D) (ci := 3) (fs := [.int 0, .int (nI n), .ref m1, .ref m2, .ref m3, .ref m4, .int (cdR K Ln j i (K j) 2), .ref m5]) (v := .ref m3) (C := RX3) (T := TX3) (N := 8) hx hb hts (by decide +kernel) hown hK hP 5 rfl rfl 4 (by decide) (hts (.fieldLink RX3 16 "TypedColumnsModel" "whole" "[J") (by decide +kernel)) (fun _ h9 => h9) rfl dX3_readByte_11 ?_
    refine lv_iload_n hx hb dX3_readByte_14 rfl (lv_at hl 1 rfl) ?_
    refine lv_iload_n hx hb dX3_readByte_15 rfl (lv_at hl 2 rfl) ?_
    have gc := tb_dp c_2
    have g0 := cdR_0 hkI hL gc
    have hi40 : vp_in i 40 := vp_in_le g0.2.2 hL
    have hq : i.toNatClampNeg < 40 := vp_in_lt hi40
    refine vp_callSi (W.runS (As := [.int (nI j), .int i]) (rest := [.ref m3]) ⟨hx, hb, hml, hown, hts⟩ (kX3_at l (nI j) i) (va_cwS 2 hts gX3_readByte_X3_at rfl rfl rfl (by decide +kernel) ⟨Nat.le_of_ble_eq_true rfl, Nat.le_of_ble_eq_true rfl⟩) ⟨fun a U g mk q => q, fun U hU hW => ⟨rfl, trivial⟩⟩ rfl rfl hl.1 rfl (lv_room (Nat.le_of_ble_eq_true rfl)) dX3_readByte_16 ⟨Nat.zero_le _, Nat.zero_le _⟩) (fun r_3 hr_3 => ?_)
    subst hr_3
    rw [at_nI hi40]
    refine tc_lald (f := Wh) (v := (Wh (40 * j + i.toNatClampNeg))) hx hb hK hP 8 1 rfl rfl (vp_in_nI (show (40 * j + i.toNatClampNeg) < 2400 by omega) (by decide)) (by rw [nI_clamp (show (40 * j + i.toNatClampNeg) < 2 ^ 31 by omega)]) dX3_readByte_19 ?_
    refine lv_l2i (v := (Wh (40 * j + i.toNatClampNeg)).toInt32) hx hb dX3_readByte_20 rfl ?_
    refine lv_goto (tgt := 25) hx hb dX3_readByte_21 (by decide) ?_
    exact W.iret (v := (Wh (40 * j + i.toNatClampNeg)).toInt32) hx hb hr (fun t9 ht9 hW9 => ⟨⟨(Wh (40 * j + i.toNatClampNeg)).toInt32, (), rfl, by unfold rdW; rw [if_pos gc], by rw [ht9]; exact hP, hD⟩, hS.F ht9⟩) hS.2.2 dX3_readByte_25
set_option maxHeartbeats 4000000 in
set_option maxRecDepth 100000 in
theorem tX3_readByte_n (l : Launch) (D : va_G) (A : Nat → Prop) (cI cJ cD cC : ClassId) (x0 x1 x2 x3 x4 : Nat × va_E) (Z : va_W) (m0 m1 m2 m3 m4 m5 : Nat) (th : Int32) (n : Nat) (K : Nat → Int32) (Ln : Nat → Nat) (Wh : Nat → Int64) (Re : Nat → UInt64) (cd : Int32) (ct : Nat → Int32) (sz : Nat) (hI : tcI n K Ln Wh Re) (cx : Int32) (hc : ¬ ∃ j, j < n ∧ cx = nI j) (i : Int32) : Met l yX3_readByte wsX3_readByte ({ frames := 2, cells := 0, slots := 0, locals := 45 }) (tcP D A (tcTY cI cJ cD cC) sz [.ref m0, .int cx, .int i] (tc_Z cI cJ cD x0 x1 x2 x3 x4 Z m0 m1 m2 m3 m4 m5 th n K Ln Wh Re cd ct)) (va_Qi (fun r (_ : Unit) => r = 0) (fun _ t => tcB D A (tc_Z cI cJ cD x0 x1 x2 x3 x4 Z m0 m1 m2 m3 m4 m5 1 n K Ln Wh Re cd ct) t) A) 0 0 A := by
  refine Met.ofW (cc := cX3_readByte) (maxL := 3) (ret := (some .int)) (by decide) rfl ?_
  intro p e s m args below meth c s₁ B hml hv
  obtain ⟨rfl, hsz, hP, hK, hD, hE⟩ := hv
  have hx := B.exec
  have hb := B.bytes
  have hr := B.returns
  have hts := atoms_spec (ws := wsX3_readByte) B.pre
  have hown : s.vm.findClass RX3 = some m.cls := findClass_of_methodNamed B.named
  have hlocks := B.notSynchronized
  have hl := lv_entry ([.ref m0, .int cx, .int i]) (n := 3) (Nat.le_of_ble_eq_true rfl)
  rw [lg_entry_eq]
  generalize (lg_sl ([.ref m0, .int cx, .int i]) ++ List.replicate (3 - (lg_sl ([.ref m0, .int cx, .int i])).length) Slot.unset).toArray = ls at hl ⊢
  have hl : lv_has ls 3 [(0, .ref m0), (1, .int cx), (2, .int i)] := hl
  subst hsz
  have hS : va_S A s.heap s.heap [] := va_S.rf
  have hn60 : n ≤ 60 := hI.1
  refine lv_aload_n hx hb dX3_readByte_0 rfl (lv_at hl 0 rfl) ?_
  refine lv_iload_n hx hb dX3_readByte_1 rfl (lv_at hl 1 rfl) ?_
  refine lv_iload_n hx hb dX3_readByte_2 rfl (lv_at hl 2 rfl) ?_
  refine lv_iconst (v := 2) hx hb dX3_readByte_3 (by decide) ?_
  refine va_calli (va_runV (As := [.int cx, .int i, .int 2]) (rest := []) ⟨hx, hb, hml, hown, hts⟩ (tX3_reads_n l D A cI cJ cD cC x0 x1 x2 x3 x4 Z m0 m1 m2 m3 m4 m5 th n K Ln Wh Re cd ct s.heap.size hI cx hc i 2) (cwV 3 hts gX3_readByte_X3_reads rfl rfl rfl (by decide +kernel) ⟨Nat.le_of_ble_eq_true rfl, Nat.le_of_ble_eq_true rfl⟩) ⟨tcP.blind, (va_recv hK hP (ci := 3) (q0 := 5) rfl rfl), (tcP.go hK hP hD hE hS)⟩ rfl rfl hl.1 rfl (lv_room (Nat.le_of_ble_eq_true rfl)) dX3_readByte_4 ⟨Nat.le_of_ble_eq_true rfl, Nat.le_of_ble_eq_true rfl⟩) hS (fun q _ h => h) (fun q h => h) (fun r_1 u t H locs ht hvm hw hB hz1 hk1 hS => ?_)
  subst hw
  obtain ⟨hP, hD⟩ := hB
  rw [ht] at hP
  refine lv_if_eq (tgt := 24) hx hb dX3_readByte_7 (by decide) (fun _ => ?_) (fun q => absurd (by decide) q)
  refine lv_iconst (v := 0) hx hb dX3_readByte_24 (by decide) ?_
  exact W.iret (v := 0) hx hb hr (fun t9 ht9 hW9 => ⟨⟨0, (), rfl, rfl, by rw [ht9]; exact hP, hD⟩, hS.F ht9⟩) hS.2.2 dX3_readByte_25
set_option maxHeartbeats 4000000 in
set_option maxRecDepth 100000 in
theorem tX3_readChar_y (l : Launch) (D : va_G) (A : Nat → Prop) (cI cJ cD cC : ClassId) (x0 x1 x2 x3 x4 : Nat × va_E) (Z : va_W) (m0 m1 m2 m3 m4 m5 : Nat) (th : Int32) (n : Nat) (K : Nat → Int32) (Ln : Nat → Nat) (Wh : Nat → Int64) (Re : Nat → UInt64) (cd : Int32) (ct : Nat → Int32) (sz : Nat) (hI : tcI n K Ln Wh Re) (j : Nat) (hj : j < n) (i : Int32) : Met l yX3_readChar wsX3_readChar ({ frames := 3, cells := 0, slots := 0, locals := 67 }) (tcP D A (tcTY cI cJ cD cC) sz [.ref m0, .int (nI j), .int i] (tc_Z cI cJ cD x0 x1 x2 x3 x4 Z m0 m1 m2 m3 m4 m5 th n K Ln Wh Re cd ct)) (va_Qi (fun r (_ : Unit) => r = (rdW K Ln Wh j i 3).toInt32) (fun _ t => tcB D A (tc_Z cI cJ cD x0 x1 x2 x3 x4 Z m0 m1 m2 m3 m4 m5 0 n K Ln Wh Re (cdR K Ln j i (K j) 3) (noteC ct (cdR K Ln j i (K j) 3))) t) A) 0 0 A := by
  refine Met.ofW (cc := cX3_readChar) (maxL := 3) (ret := (some .int)) (by decide) rfl ?_
  intro p e s m args below meth c s₁ B hml hv
  obtain ⟨rfl, hsz, hP, hK, hD, hE⟩ := hv
  have hx := B.exec
  have hb := B.bytes
  have hr := B.returns
  have hts := atoms_spec (ws := wsX3_readChar) B.pre
  have hown : s.vm.findClass RX3 = some m.cls := findClass_of_methodNamed B.named
  have hlocks := B.notSynchronized
  have hl := lv_entry ([.ref m0, .int (nI j), .int i]) (n := 3) (Nat.le_of_ble_eq_true rfl)
  rw [lg_entry_eq]
  generalize (lg_sl ([.ref m0, .int (nI j), .int i]) ++ List.replicate (3 - (lg_sl ([.ref m0, .int (nI j), .int i])).length) Slot.unset).toArray = ls at hl ⊢
  have hl : lv_has ls 3 [(0, .ref m0), (1, .int (nI j)), (2, .int i)] := hl
  subst hsz
  have hS : va_S A s.heap s.heap [] := va_S.rf
  have hn60 : n ≤ 60 := hI.1
  have hkI := (hI.2.1 j hj).1
  have hL := (hI.2.1 j hj).2.1
  refine lv_aload_n hx hb dX3_readChar_0 rfl (lv_at hl 0 rfl) ?_
  refine lv_iload_n hx hb dX3_readChar_1 rfl (lv_at hl 1 rfl) ?_
  refine lv_iload_n hx hb dX3_readChar_2 rfl (lv_at hl 2 rfl) ?_
  refine lv_iconst (v := 3) hx hb dX3_readChar_3 (by decide) ?_
  refine va_calli (va_runV (As := [.int (nI j), .int i, .int 3]) (rest := []) ⟨hx, hb, hml, hown, hts⟩ (tX3_reads_y l D A cI cJ cD cC x0 x1 x2 x3 x4 Z m0 m1 m2 m3 m4 m5 th n K Ln Wh Re cd ct s.heap.size hI j hj i 3) (cwV 3 hts gX3_readChar_X3_reads rfl rfl rfl (by decide +kernel) ⟨Nat.le_of_ble_eq_true rfl, Nat.le_of_ble_eq_true rfl⟩) ⟨tcP.blind, (va_recv hK hP (ci := 3) (q0 := 5) rfl rfl), (tcP.go hK hP hD hE hS)⟩ rfl rfl hl.1 rfl (lv_room (Nat.le_of_ble_eq_true rfl)) dX3_readChar_4 ⟨Nat.le_of_ble_eq_true rfl, Nat.le_of_ble_eq_true rfl⟩) hS (fun q _ h => h) (fun q h => h) (fun r_1 u t H locs ht hvm hw hB hz1 hk1 hS => ?_)
  subst hw
  obtain ⟨hP, hD⟩ := hB
  rw [ht] at hP
  refine lv_if_eq (tgt := 24) hx hb dX3_readChar_7 (by decide) (fun c_2 => ?_) (fun c_2 => ?_)
  · refine lv_iconst (v := 0) hx hb dX3_readChar_24 (by decide) ?_
    exact W.iret (v := 0) hx hb hr (fun t9 ht9 hW9 => ⟨⟨0, (), rfl, by unfold rdW; rw [if_neg (tb_dn c_2)]; rfl, by rw [ht9]; exact hP, hD⟩, hS.F ht9⟩) hS.2.2 dX3_readChar_25
  · refine lv_aload_n hx hb dX3_readChar_10 rfl (lv_at hl 0 rfl) ?_
    refine va_get (D := D) (ci := 3) (fs := [.int 0, .int (nI n), .ref m1, .ref m2, .ref m3, .ref m4, .int (cdR K Ln j i (K j) 3), .ref m5]) (v := .ref m3) (C := RX3) (T := TX3) (N := 8) hx hb hts (by decide +kernel) hown hK hP 5 rfl rfl 4 (by decide) (hts (.fieldLink RX3 16 "TypedColumnsModel" "whole" "[J") (by decide +kernel)) (fun _ h9 => h9) rfl dX3_readChar_11 ?_
    refine lv_iload_n hx hb dX3_readChar_14 rfl (lv_at hl 1 rfl) ?_
    refine lv_iload_n hx hb dX3_readChar_15 rfl (lv_at hl 2 rfl) ?_
    have gc := tb_dp c_2
    have g0 := cdR_0 hkI hL gc
    have hi40 : vp_in i 40 := vp_in_le g0.2.2 hL
    have hq : i.toNatClampNeg < 40 := vp_in_lt hi40
    refine vp_callSi (W.runS (As := [.int (nI j), .int i]) (rest := [.ref m3]) ⟨hx, hb, hml, hown, hts⟩ (kX3_at l (nI j) i) (va_cwS 2 hts gX3_readChar_X3_at rfl rfl rfl (by decide +kernel) ⟨Nat.le_of_ble_eq_true rfl, Nat.le_of_ble_eq_true rfl⟩) ⟨fun a U g mk q => q, fun U hU hW => ⟨rfl, trivial⟩⟩ rfl rfl hl.1 rfl (lv_room (Nat.le_of_ble_eq_true rfl)) dX3_readChar_16 ⟨Nat.zero_le _, Nat.zero_le _⟩) (fun r_3 hr_3 => ?_)
    subst hr_3
    rw [at_nI hi40]
    refine tc_lald (f := Wh) (v := (Wh (40 * j + i.toNatClampNeg))) hx hb hK hP 8 1 rfl rfl (vp_in_nI (show (40 * j + i.toNatClampNeg) < 2400 by omega) (by decide)) (by rw [nI_clamp (show (40 * j + i.toNatClampNeg) < 2 ^ 31 by omega)]) dX3_readChar_19 ?_
    refine lv_l2i (v := (Wh (40 * j + i.toNatClampNeg)).toInt32) hx hb dX3_readChar_20 rfl ?_
    refine lv_goto (tgt := 25) hx hb dX3_readChar_21 (by decide) ?_
    exact W.iret (v := (Wh (40 * j + i.toNatClampNeg)).toInt32) hx hb hr (fun t9 ht9 hW9 => ⟨⟨(Wh (40 * j + i.toNatClampNeg)).toInt32, (), rfl, by unfold rdW; rw [if_pos gc], by rw [ht9]; exact hP, hD⟩, hS.F ht9⟩) hS.2.2 dX3_readChar_25
set_option maxHeartbeats 4000000 in
set_option maxRecDepth 100000 in
theorem tX3_readChar_n (l : Launch) (D : va_G) (A : Nat → Prop) (cI cJ cD cC : ClassId) (x0 x1 x2 x3 x4 : Nat × va_E) (Z : va_W) (m0 m1 m2 m3 m4 m5 : Nat) (th : Int32) (n : Nat) (K : Nat → Int32) (Ln : Nat → Nat) (Wh : Nat → Int64) (Re : Nat → UInt64) (cd : Int32) (ct : Nat → Int32) (sz : Nat) (hI : tcI n K Ln Wh Re) (cx : Int32) (hc : ¬ ∃ j, j < n ∧ cx = nI j) (i : Int32) : Met l yX3_readChar wsX3_readChar ({ frames := 2, cells := 0, slots := 0, locals := 45 }) (tcP D A (tcTY cI cJ cD cC) sz [.ref m0, .int cx, .int i] (tc_Z cI cJ cD x0 x1 x2 x3 x4 Z m0 m1 m2 m3 m4 m5 th n K Ln Wh Re cd ct)) (va_Qi (fun r (_ : Unit) => r = 0) (fun _ t => tcB D A (tc_Z cI cJ cD x0 x1 x2 x3 x4 Z m0 m1 m2 m3 m4 m5 1 n K Ln Wh Re cd ct) t) A) 0 0 A := by
  refine Met.ofW (cc := cX3_readChar) (maxL := 3) (ret := (some .int)) (by decide) rfl ?_
  intro p e s m args below meth c s₁ B hml hv
  obtain ⟨rfl, hsz, hP, hK, hD, hE⟩ := hv
  have hx := B.exec
  have hb := B.bytes
  have hr := B.returns
  have hts := atoms_spec (ws := wsX3_readChar) B.pre
  have hown : s.vm.findClass RX3 = some m.cls := findClass_of_methodNamed B.named
  have hlocks := B.notSynchronized
  have hl := lv_entry ([.ref m0, .int cx, .int i]) (n := 3) (Nat.le_of_ble_eq_true rfl)
  rw [lg_entry_eq]
  generalize (lg_sl ([.ref m0, .int cx, .int i]) ++ List.replicate (3 - (lg_sl ([.ref m0, .int cx, .int i])).length) Slot.unset).toArray = ls at hl ⊢
  have hl : lv_has ls 3 [(0, .ref m0), (1, .int cx), (2, .int i)] := hl
  subst hsz
  have hS : va_S A s.heap s.heap [] := va_S.rf
  have hn60 : n ≤ 60 := hI.1
  refine lv_aload_n hx hb dX3_readChar_0 rfl (lv_at hl 0 rfl) ?_
  refine lv_iload_n hx hb dX3_readChar_1 rfl (lv_at hl 1 rfl) ?_
  refine lv_iload_n hx hb dX3_readChar_2 rfl (lv_at hl 2 rfl) ?_
  refine lv_iconst (v := 3) hx hb dX3_readChar_3 (by decide) ?_
  refine va_calli (va_runV (As := [.int cx, .int i, .int 3]) (rest := []) ⟨hx, hb, hml, hown, hts⟩ (tX3_reads_n l D A cI cJ cD cC x0 x1 x2 x3 x4 Z m0 m1 m2 m3 m4 m5 th n K Ln Wh Re cd ct s.heap.size hI cx hc i 3) (cwV 3 hts gX3_readChar_X3_reads rfl rfl rfl (by decide +kernel) ⟨Nat.le_of_ble_eq_true rfl, Nat.le_of_ble_eq_true rfl⟩) ⟨tcP.blind, (va_recv hK hP (ci := 3) (q0 := 5) rfl rfl), (tcP.go hK hP hD hE hS)⟩ rfl rfl hl.1 rfl (lv_room (Nat.le_of_ble_eq_true rfl)) dX3_readChar_4 ⟨Nat.le_of_ble_eq_true rfl, Nat.le_of_ble_eq_true rfl⟩) hS (fun q _ h => h) (fun q h => h) (fun r_1 u t H locs ht hvm hw hB hz1 hk1 hS => ?_)
  subst hw
  obtain ⟨hP, hD⟩ := hB
  rw [ht] at hP
  refine lv_if_eq (tgt := 24) hx hb dX3_readChar_7 (by decide) (fun _ => ?_) (fun q => absurd (by decide) q)
  refine lv_iconst (v := 0) hx hb dX3_readChar_24 (by decide) ?_
  exact W.iret (v := 0) hx hb hr (fun t9 ht9 hW9 => ⟨⟨0, (), rfl, rfl, by rw [ht9]; exact hP, hD⟩, hS.F ht9⟩) hS.2.2 dX3_readChar_25
set_option maxHeartbeats 4000000 in
set_option maxRecDepth 100000 in
theorem tX3_readShort_y (l : Launch) (D : va_G) (A : Nat → Prop) (cI cJ cD cC : ClassId) (x0 x1 x2 x3 x4 : Nat × va_E) (Z : va_W) (m0 m1 m2 m3 m4 m5 : Nat) (th : Int32) (n : Nat) (K : Nat → Int32) (Ln : Nat → Nat) (Wh : Nat → Int64) (Re : Nat → UInt64) (cd : Int32) (ct : Nat → Int32) (sz : Nat) (hI : tcI n K Ln Wh Re) (j : Nat) (hj : j < n) (i : Int32) : Met l yX3_readShort wsX3_readShort ({ frames := 3, cells := 0, slots := 0, locals := 67 }) (tcP D A (tcTY cI cJ cD cC) sz [.ref m0, .int (nI j), .int i] (tc_Z cI cJ cD x0 x1 x2 x3 x4 Z m0 m1 m2 m3 m4 m5 th n K Ln Wh Re cd ct)) (va_Qi (fun r (_ : Unit) => r = (rdW K Ln Wh j i 4).toInt32) (fun _ t => tcB D A (tc_Z cI cJ cD x0 x1 x2 x3 x4 Z m0 m1 m2 m3 m4 m5 0 n K Ln Wh Re (cdR K Ln j i (K j) 4) (noteC ct (cdR K Ln j i (K j) 4))) t) A) 0 0 A := by
  refine Met.ofW (cc := cX3_readShort) (maxL := 3) (ret := (some .int)) (by decide) rfl ?_
  intro p e s m args below meth c s₁ B hml hv
  obtain ⟨rfl, hsz, hP, hK, hD, hE⟩ := hv
  have hx := B.exec
  have hb := B.bytes
  have hr := B.returns
  have hts := atoms_spec (ws := wsX3_readShort) B.pre
  have hown : s.vm.findClass RX3 = some m.cls := findClass_of_methodNamed B.named
  have hlocks := B.notSynchronized
  have hl := lv_entry ([.ref m0, .int (nI j), .int i]) (n := 3) (Nat.le_of_ble_eq_true rfl)
  rw [lg_entry_eq]
  generalize (lg_sl ([.ref m0, .int (nI j), .int i]) ++ List.replicate (3 - (lg_sl ([.ref m0, .int (nI j), .int i])).length) Slot.unset).toArray = ls at hl ⊢
  have hl : lv_has ls 3 [(0, .ref m0), (1, .int (nI j)), (2, .int i)] := hl
  subst hsz
  have hS : va_S A s.heap s.heap [] := va_S.rf
  have hn60 : n ≤ 60 := hI.1
  have hkI := (hI.2.1 j hj).1
  have hL := (hI.2.1 j hj).2.1
  refine lv_aload_n hx hb dX3_readShort_0 rfl (lv_at hl 0 rfl) ?_
  refine lv_iload_n hx hb dX3_readShort_1 rfl (lv_at hl 1 rfl) ?_
  refine lv_iload_n hx hb dX3_readShort_2 rfl (lv_at hl 2 rfl) ?_
  refine lv_iconst (v := 4) hx hb dX3_readShort_3 (by decide) ?_
  refine va_calli (va_runV (As := [.int (nI j), .int i, .int 4]) (rest := []) ⟨hx, hb, hml, hown, hts⟩ (tX3_reads_y l D A cI cJ cD cC x0 x1 x2 x3 x4 Z m0 m1 m2 m3 m4 m5 th n K Ln Wh Re cd ct s.heap.size hI j hj i 4) (cwV 3 hts gX3_readShort_X3_reads rfl rfl rfl (by decide +kernel) ⟨Nat.le_of_ble_eq_true rfl, Nat.le_of_ble_eq_true rfl⟩) ⟨tcP.blind, (va_recv hK hP (ci := 3) (q0 := 5) rfl rfl), (tcP.go hK hP hD hE hS)⟩ rfl rfl hl.1 rfl (lv_room (Nat.le_of_ble_eq_true rfl)) dX3_readShort_4 ⟨Nat.le_of_ble_eq_true rfl, Nat.le_of_ble_eq_true rfl⟩) hS (fun q _ h => h) (fun q h => h) (fun r_1 u t H locs ht hvm hw hB hz1 hk1 hS => ?_)
  subst hw
  obtain ⟨hP, hD⟩ := hB
  rw [ht] at hP
  refine lv_if_eq (tgt := 24) hx hb dX3_readShort_7 (by decide) (fun c_2 => ?_) (fun c_2 => ?_)
  · refine lv_iconst (v := 0) hx hb dX3_readShort_24 (by decide) ?_
    exact W.iret (v := 0) hx hb hr (fun t9 ht9 hW9 => ⟨⟨0, (), rfl, by unfold rdW; rw [if_neg (tb_dn c_2)]; rfl, by rw [ht9]; exact hP, hD⟩, hS.F ht9⟩) hS.2.2 dX3_readShort_25
  · refine lv_aload_n hx hb dX3_readShort_10 rfl (lv_at hl 0 rfl) ?_
    refine va_get (D := D) (ci := 3) (fs := [.int 0, .int (nI n), .ref m1, .ref m2, .ref m3, .ref m4, .int (cdR K Ln j i (K j) 4), .ref m5]) (v := .ref m3) (C := RX3) (T := TX3) (N := 8) hx hb hts (by decide +kernel) hown hK hP 5 rfl rfl 4 (by decide) (hts (.fieldLink RX3 16 "TypedColumnsModel" "whole" "[J") (by decide +kernel)) (fun _ h9 => h9) rfl dX3_readShort_11 ?_
    refine lv_iload_n hx hb dX3_readShort_14 rfl (lv_at hl 1 rfl) ?_
    refine lv_iload_n hx hb dX3_readShort_15 rfl (lv_at hl 2 rfl) ?_
    have gc := tb_dp c_2
    have g0 := cdR_0 hkI hL gc
    have hi40 : vp_in i 40 := vp_in_le g0.2.2 hL
    have hq : i.toNatClampNeg < 40 := vp_in_lt hi40
    refine vp_callSi (W.runS (As := [.int (nI j), .int i]) (rest := [.ref m3]) ⟨hx, hb, hml, hown, hts⟩ (kX3_at l (nI j) i) (va_cwS 2 hts gX3_readShort_X3_at rfl rfl rfl (by decide +kernel) ⟨Nat.le_of_ble_eq_true rfl, Nat.le_of_ble_eq_true rfl⟩) ⟨fun a U g mk q => q, fun U hU hW => ⟨rfl, trivial⟩⟩ rfl rfl hl.1 rfl (lv_room (Nat.le_of_ble_eq_true rfl)) dX3_readShort_16 ⟨Nat.zero_le _, Nat.zero_le _⟩) (fun r_3 hr_3 => ?_)
    subst hr_3
    rw [at_nI hi40]
    refine tc_lald (f := Wh) (v := (Wh (40 * j + i.toNatClampNeg))) hx hb hK hP 8 1 rfl rfl (vp_in_nI (show (40 * j + i.toNatClampNeg) < 2400 by omega) (by decide)) (by rw [nI_clamp (show (40 * j + i.toNatClampNeg) < 2 ^ 31 by omega)]) dX3_readShort_19 ?_
    refine lv_l2i (v := (Wh (40 * j + i.toNatClampNeg)).toInt32) hx hb dX3_readShort_20 rfl ?_
    refine lv_goto (tgt := 25) hx hb dX3_readShort_21 (by decide) ?_
    exact W.iret (v := (Wh (40 * j + i.toNatClampNeg)).toInt32) hx hb hr (fun t9 ht9 hW9 => ⟨⟨(Wh (40 * j + i.toNatClampNeg)).toInt32, (), rfl, by unfold rdW; rw [if_pos gc], by rw [ht9]; exact hP, hD⟩, hS.F ht9⟩) hS.2.2 dX3_readShort_25
set_option maxHeartbeats 4000000 in
set_option maxRecDepth 100000 in
theorem tX3_readShort_n (l : Launch) (D : va_G) (A : Nat → Prop) (cI cJ cD cC : ClassId) (x0 x1 x2 x3 x4 : Nat × va_E) (Z : va_W) (m0 m1 m2 m3 m4 m5 : Nat) (th : Int32) (n : Nat) (K : Nat → Int32) (Ln : Nat → Nat) (Wh : Nat → Int64) (Re : Nat → UInt64) (cd : Int32) (ct : Nat → Int32) (sz : Nat) (hI : tcI n K Ln Wh Re) (cx : Int32) (hc : ¬ ∃ j, j < n ∧ cx = nI j) (i : Int32) : Met l yX3_readShort wsX3_readShort ({ frames := 2, cells := 0, slots := 0, locals := 45 }) (tcP D A (tcTY cI cJ cD cC) sz [.ref m0, .int cx, .int i] (tc_Z cI cJ cD x0 x1 x2 x3 x4 Z m0 m1 m2 m3 m4 m5 th n K Ln Wh Re cd ct)) (va_Qi (fun r (_ : Unit) => r = 0) (fun _ t => tcB D A (tc_Z cI cJ cD x0 x1 x2 x3 x4 Z m0 m1 m2 m3 m4 m5 1 n K Ln Wh Re cd ct) t) A) 0 0 A := by
  refine Met.ofW (cc := cX3_readShort) (maxL := 3) (ret := (some .int)) (by decide) rfl ?_
  intro p e s m args below meth c s₁ B hml hv
  obtain ⟨rfl, hsz, hP, hK, hD, hE⟩ := hv
  have hx := B.exec
  have hb := B.bytes
  have hr := B.returns
  have hts := atoms_spec (ws := wsX3_readShort) B.pre
  have hown : s.vm.findClass RX3 = some m.cls := findClass_of_methodNamed B.named
  have hlocks := B.notSynchronized
  have hl := lv_entry ([.ref m0, .int cx, .int i]) (n := 3) (Nat.le_of_ble_eq_true rfl)
  rw [lg_entry_eq]
  generalize (lg_sl ([.ref m0, .int cx, .int i]) ++ List.replicate (3 - (lg_sl ([.ref m0, .int cx, .int i])).length) Slot.unset).toArray = ls at hl ⊢
  have hl : lv_has ls 3 [(0, .ref m0), (1, .int cx), (2, .int i)] := hl
  subst hsz
  have hS : va_S A s.heap s.heap [] := va_S.rf
  have hn60 : n ≤ 60 := hI.1
  refine lv_aload_n hx hb dX3_readShort_0 rfl (lv_at hl 0 rfl) ?_
  refine lv_iload_n hx hb dX3_readShort_1 rfl (lv_at hl 1 rfl) ?_
  refine lv_iload_n hx hb dX3_readShort_2 rfl (lv_at hl 2 rfl) ?_
  refine lv_iconst (v := 4) hx hb dX3_readShort_3 (by decide) ?_
  refine va_calli (va_runV (As := [.int cx, .int i, .int 4]) (rest := []) ⟨hx, hb, hml, hown, hts⟩ (tX3_reads_n l D A cI cJ cD cC x0 x1 x2 x3 x4 Z m0 m1 m2 m3 m4 m5 th n K Ln Wh Re cd ct s.heap.size hI cx hc i 4) (cwV 3 hts gX3_readShort_X3_reads rfl rfl rfl (by decide +kernel) ⟨Nat.le_of_ble_eq_true rfl, Nat.le_of_ble_eq_true rfl⟩) ⟨tcP.blind, (va_recv hK hP (ci := 3) (q0 := 5) rfl rfl), (tcP.go hK hP hD hE hS)⟩ rfl rfl hl.1 rfl (lv_room (Nat.le_of_ble_eq_true rfl)) dX3_readShort_4 ⟨Nat.le_of_ble_eq_true rfl, Nat.le_of_ble_eq_true rfl⟩) hS (fun q _ h => h) (fun q h => h) (fun r_1 u t H locs ht hvm hw hB hz1 hk1 hS => ?_)
  subst hw
  obtain ⟨hP, hD⟩ := hB
  rw [ht] at hP
  refine lv_if_eq (tgt := 24) hx hb dX3_readShort_7 (by decide) (fun _ => ?_) (fun q => absurd (by decide) q)
  refine lv_iconst (v := 0) hx hb dX3_readShort_24 (by decide) ?_
  exact W.iret (v := 0) hx hb hr (fun t9 ht9 hW9 => ⟨⟨0, (), rfl, rfl, by rw [ht9]; exact hP, hD⟩, hS.F ht9⟩) hS.2.2 dX3_readShort_25
set_option maxHeartbeats 4000000 in
set_option maxRecDepth 100000 in
theorem tX3_readInt_y (l : Launch) (D : va_G) (A : Nat → Prop) (cI cJ cD cC : ClassId) (x0 x1 x2 x3 x4 : Nat × va_E) (Z : va_W) (m0 m1 m2 m3 m4 m5 : Nat) (th : Int32) (n : Nat) (K : Nat → Int32) (Ln : Nat → Nat) (Wh : Nat → Int64) (Re : Nat → UInt64) (cd : Int32) (ct : Nat → Int32) (sz : Nat) (hI : tcI n K Ln Wh Re) (j : Nat) (hj : j < n) (i : Int32) : Met l yX3_readInt wsX3_readInt ({ frames := 3, cells := 0, slots := 0, locals := 67 }) (tcP D A (tcTY cI cJ cD cC) sz [.ref m0, .int (nI j), .int i] (tc_Z cI cJ cD x0 x1 x2 x3 x4 Z m0 m1 m2 m3 m4 m5 th n K Ln Wh Re cd ct)) (va_Qi (fun r (_ : Unit) => r = (rdW K Ln Wh j i 5).toInt32) (fun _ t => tcB D A (tc_Z cI cJ cD x0 x1 x2 x3 x4 Z m0 m1 m2 m3 m4 m5 0 n K Ln Wh Re (cdR K Ln j i (K j) 5) (noteC ct (cdR K Ln j i (K j) 5))) t) A) 0 0 A := by
  refine Met.ofW (cc := cX3_readInt) (maxL := 3) (ret := (some .int)) (by decide) rfl ?_
  intro p e s m args below meth c s₁ B hml hv
  obtain ⟨rfl, hsz, hP, hK, hD, hE⟩ := hv
  have hx := B.exec
  have hb := B.bytes
  have hr := B.returns
  have hts := atoms_spec (ws := wsX3_readInt) B.pre
  have hown : s.vm.findClass RX3 = some m.cls := findClass_of_methodNamed B.named
  have hlocks := B.notSynchronized
  have hl := lv_entry ([.ref m0, .int (nI j), .int i]) (n := 3) (Nat.le_of_ble_eq_true rfl)
  rw [lg_entry_eq]
  generalize (lg_sl ([.ref m0, .int (nI j), .int i]) ++ List.replicate (3 - (lg_sl ([.ref m0, .int (nI j), .int i])).length) Slot.unset).toArray = ls at hl ⊢
  have hl : lv_has ls 3 [(0, .ref m0), (1, .int (nI j)), (2, .int i)] := hl
  subst hsz
  have hS : va_S A s.heap s.heap [] := va_S.rf
  have hn60 : n ≤ 60 := hI.1
  have hkI := (hI.2.1 j hj).1
  have hL := (hI.2.1 j hj).2.1
  refine lv_aload_n hx hb dX3_readInt_0 rfl (lv_at hl 0 rfl) ?_
  refine lv_iload_n hx hb dX3_readInt_1 rfl (lv_at hl 1 rfl) ?_
  refine lv_iload_n hx hb dX3_readInt_2 rfl (lv_at hl 2 rfl) ?_
  refine lv_iconst (v := 5) hx hb dX3_readInt_3 (by decide) ?_
  refine va_calli (va_runV (As := [.int (nI j), .int i, .int 5]) (rest := []) ⟨hx, hb, hml, hown, hts⟩ (tX3_reads_y l D A cI cJ cD cC x0 x1 x2 x3 x4 Z m0 m1 m2 m3 m4 m5 th n K Ln Wh Re cd ct s.heap.size hI j hj i 5) (cwV 3 hts gX3_readInt_X3_reads rfl rfl rfl (by decide +kernel) ⟨Nat.le_of_ble_eq_true rfl, Nat.le_of_ble_eq_true rfl⟩) ⟨tcP.blind, (va_recv hK hP (ci := 3) (q0 := 5) rfl rfl), (tcP.go hK hP hD hE hS)⟩ rfl rfl hl.1 rfl (lv_room (Nat.le_of_ble_eq_true rfl)) dX3_readInt_4 ⟨Nat.le_of_ble_eq_true rfl, Nat.le_of_ble_eq_true rfl⟩) hS (fun q _ h => h) (fun q h => h) (fun r_1 u t H locs ht hvm hw hB hz1 hk1 hS => ?_)
  subst hw
  obtain ⟨hP, hD⟩ := hB
  rw [ht] at hP
  refine lv_if_eq (tgt := 24) hx hb dX3_readInt_7 (by decide) (fun c_2 => ?_) (fun c_2 => ?_)
  · refine lv_iconst (v := 0) hx hb dX3_readInt_24 (by decide) ?_
    exact W.iret (v := 0) hx hb hr (fun t9 ht9 hW9 => ⟨⟨0, (), rfl, by unfold rdW; rw [if_neg (tb_dn c_2)]; rfl, by rw [ht9]; exact hP, hD⟩, hS.F ht9⟩) hS.2.2 dX3_readInt_25
  · refine lv_aload_n hx hb dX3_readInt_10 rfl (lv_at hl 0 rfl) ?_
    refine va_get (D := D) (ci := 3) (fs := [.int 0, .int (nI n), .ref m1, .ref m2, .ref m3, .ref m4, .int (cdR K Ln j i (K j) 5), .ref m5]) (v := .ref m3) (C := RX3) (T := TX3) (N := 8) hx hb hts (by decide +kernel) hown hK hP 5 rfl rfl 4 (by decide) (hts (.fieldLink RX3 16 "TypedColumnsModel" "whole" "[J") (by decide +kernel)) (fun _ h9 => h9) rfl dX3_readInt_11 ?_
    refine lv_iload_n hx hb dX3_readInt_14 rfl (lv_at hl 1 rfl) ?_
    refine lv_iload_n hx hb dX3_readInt_15 rfl (lv_at hl 2 rfl) ?_
    have gc := tb_dp c_2
    have g0 := cdR_0 hkI hL gc
    have hi40 : vp_in i 40 := vp_in_le g0.2.2 hL
    have hq : i.toNatClampNeg < 40 := vp_in_lt hi40
    refine vp_callSi (W.runS (As := [.int (nI j), .int i]) (rest := [.ref m3]) ⟨hx, hb, hml, hown, hts⟩ (kX3_at l (nI j) i) (va_cwS 2 hts gX3_readInt_X3_at rfl rfl rfl (by decide +kernel) ⟨Nat.le_of_ble_eq_true rfl, Nat.le_of_ble_eq_true rfl⟩) ⟨fun a U g mk q => q, fun U hU hW => ⟨rfl, trivial⟩⟩ rfl rfl hl.1 rfl (lv_room (Nat.le_of_ble_eq_true rfl)) dX3_readInt_16 ⟨Nat.zero_le _, Nat.zero_le _⟩) (fun r_3 hr_3 => ?_)
    subst hr_3
    rw [at_nI hi40]
    refine tc_lald (f := Wh) (v := (Wh (40 * j + i.toNatClampNeg))) hx hb hK hP 8 1 rfl rfl (vp_in_nI (show (40 * j + i.toNatClampNeg) < 2400 by omega) (by decide)) (by rw [nI_clamp (show (40 * j + i.toNatClampNeg) < 2 ^ 31 by omega)]) dX3_readInt_19 ?_
    refine lv_l2i (v := (Wh (40 * j + i.toNatClampNeg)).toInt32) hx hb dX3_readInt_20 rfl ?_
    refine lv_goto (tgt := 25) hx hb dX3_readInt_21 (by decide) ?_
    exact W.iret (v := (Wh (40 * j + i.toNatClampNeg)).toInt32) hx hb hr (fun t9 ht9 hW9 => ⟨⟨(Wh (40 * j + i.toNatClampNeg)).toInt32, (), rfl, by unfold rdW; rw [if_pos gc], by rw [ht9]; exact hP, hD⟩, hS.F ht9⟩) hS.2.2 dX3_readInt_25
set_option maxHeartbeats 4000000 in
set_option maxRecDepth 100000 in
theorem tX3_readInt_n (l : Launch) (D : va_G) (A : Nat → Prop) (cI cJ cD cC : ClassId) (x0 x1 x2 x3 x4 : Nat × va_E) (Z : va_W) (m0 m1 m2 m3 m4 m5 : Nat) (th : Int32) (n : Nat) (K : Nat → Int32) (Ln : Nat → Nat) (Wh : Nat → Int64) (Re : Nat → UInt64) (cd : Int32) (ct : Nat → Int32) (sz : Nat) (hI : tcI n K Ln Wh Re) (cx : Int32) (hc : ¬ ∃ j, j < n ∧ cx = nI j) (i : Int32) : Met l yX3_readInt wsX3_readInt ({ frames := 2, cells := 0, slots := 0, locals := 45 }) (tcP D A (tcTY cI cJ cD cC) sz [.ref m0, .int cx, .int i] (tc_Z cI cJ cD x0 x1 x2 x3 x4 Z m0 m1 m2 m3 m4 m5 th n K Ln Wh Re cd ct)) (va_Qi (fun r (_ : Unit) => r = 0) (fun _ t => tcB D A (tc_Z cI cJ cD x0 x1 x2 x3 x4 Z m0 m1 m2 m3 m4 m5 1 n K Ln Wh Re cd ct) t) A) 0 0 A := by
  refine Met.ofW (cc := cX3_readInt) (maxL := 3) (ret := (some .int)) (by decide) rfl ?_
  intro p e s m args below meth c s₁ B hml hv
  obtain ⟨rfl, hsz, hP, hK, hD, hE⟩ := hv
  have hx := B.exec
  have hb := B.bytes
  have hr := B.returns
  have hts := atoms_spec (ws := wsX3_readInt) B.pre
  have hown : s.vm.findClass RX3 = some m.cls := findClass_of_methodNamed B.named
  have hlocks := B.notSynchronized
  have hl := lv_entry ([.ref m0, .int cx, .int i]) (n := 3) (Nat.le_of_ble_eq_true rfl)
  rw [lg_entry_eq]
  generalize (lg_sl ([.ref m0, .int cx, .int i]) ++ List.replicate (3 - (lg_sl ([.ref m0, .int cx, .int i])).length) Slot.unset).toArray = ls at hl ⊢
  have hl : lv_has ls 3 [(0, .ref m0), (1, .int cx), (2, .int i)] := hl
  subst hsz
  have hS : va_S A s.heap s.heap [] := va_S.rf
  have hn60 : n ≤ 60 := hI.1
  refine lv_aload_n hx hb dX3_readInt_0 rfl (lv_at hl 0 rfl) ?_
  refine lv_iload_n hx hb dX3_readInt_1 rfl (lv_at hl 1 rfl) ?_
  refine lv_iload_n hx hb dX3_readInt_2 rfl (lv_at hl 2 rfl) ?_
  refine lv_iconst (v := 5) hx hb dX3_readInt_3 (by decide) ?_
  refine va_calli (va_runV (As := [.int cx, .int i, .int 5]) (rest := []) ⟨hx, hb, hml, hown, hts⟩ (tX3_reads_n l D A cI cJ cD cC x0 x1 x2 x3 x4 Z m0 m1 m2 m3 m4 m5 th n K Ln Wh Re cd ct s.heap.size hI cx hc i 5) (cwV 3 hts gX3_readInt_X3_reads rfl rfl rfl (by decide +kernel) ⟨Nat.le_of_ble_eq_true rfl, Nat.le_of_ble_eq_true rfl⟩) ⟨tcP.blind, (va_recv hK hP (ci := 3) (q0 := 5) rfl rfl), (tcP.go hK hP hD hE hS)⟩ rfl rfl hl.1 rfl (lv_room (Nat.le_of_ble_eq_true rfl)) dX3_readInt_4 ⟨Nat.le_of_ble_eq_true rfl, Nat.le_of_ble_eq_true rfl⟩) hS (fun q _ h => h) (fun q h => h) (fun r_1 u t H locs ht hvm hw hB hz1 hk1 hS => ?_)
  subst hw
  obtain ⟨hP, hD⟩ := hB
  rw [ht] at hP
  refine lv_if_eq (tgt := 24) hx hb dX3_readInt_7 (by decide) (fun _ => ?_) (fun q => absurd (by decide) q)
  refine lv_iconst (v := 0) hx hb dX3_readInt_24 (by decide) ?_
  exact W.iret (v := 0) hx hb hr (fun t9 ht9 hW9 => ⟨⟨0, (), rfl, rfl, by rw [ht9]; exact hP, hD⟩, hS.F ht9⟩) hS.2.2 dX3_readInt_25
set_option maxHeartbeats 4000000 in
set_option maxRecDepth 100000 in
theorem tX3_readLong_y (l : Launch) (D : va_G) (A : Nat → Prop) (cI cJ cD cC : ClassId) (x0 x1 x2 x3 x4 : Nat × va_E) (Z : va_W) (m0 m1 m2 m3 m4 m5 : Nat) (th : Int32) (n : Nat) (K : Nat → Int32) (Ln : Nat → Nat) (Wh : Nat → Int64) (Re : Nat → UInt64) (cd : Int32) (ct : Nat → Int32) (sz : Nat) (hI : tcI n K Ln Wh Re) (j : Nat) (hj : j < n) (i : Int32) : Met l yX3_readLong wsX3_readLong ({ frames := 3, cells := 0, slots := 0, locals := 67 }) (tcP D A (tcTY cI cJ cD cC) sz [.ref m0, .int (nI j), .int i] (tc_Z cI cJ cD x0 x1 x2 x3 x4 Z m0 m1 m2 m3 m4 m5 th n K Ln Wh Re cd ct)) (va_Ql (fun r (_ : Unit) => r = rdW K Ln Wh j i 6) (fun _ t => tcB D A (tc_Z cI cJ cD x0 x1 x2 x3 x4 Z m0 m1 m2 m3 m4 m5 0 n K Ln Wh Re (cdR K Ln j i (K j) 6) (noteC ct (cdR K Ln j i (K j) 6))) t) A) 0 0 A := by
  refine Met.ofW (cc := cX3_readLong) (maxL := 3) (ret := (some .long)) (by decide) rfl ?_
  intro p e s m args below meth c s₁ B hml hv
  obtain ⟨rfl, hsz, hP, hK, hD, hE⟩ := hv
  have hx := B.exec
  have hb := B.bytes
  have hr := B.returns
  have hts := atoms_spec (ws := wsX3_readLong) B.pre
  have hown : s.vm.findClass RX3 = some m.cls := findClass_of_methodNamed B.named
  have hlocks := B.notSynchronized
  have hl := lv_entry ([.ref m0, .int (nI j), .int i]) (n := 3) (Nat.le_of_ble_eq_true rfl)
  rw [lg_entry_eq]
  generalize (lg_sl ([.ref m0, .int (nI j), .int i]) ++ List.replicate (3 - (lg_sl ([.ref m0, .int (nI j), .int i])).length) Slot.unset).toArray = ls at hl ⊢
  have hl : lv_has ls 3 [(0, .ref m0), (1, .int (nI j)), (2, .int i)] := hl
  subst hsz
  have hS : va_S A s.heap s.heap [] := va_S.rf
  have hn60 : n ≤ 60 := hI.1
  have hkI := (hI.2.1 j hj).1
  have hL := (hI.2.1 j hj).2.1
  refine lv_aload_n hx hb dX3_readLong_0 rfl (lv_at hl 0 rfl) ?_
  refine lv_iload_n hx hb dX3_readLong_1 rfl (lv_at hl 1 rfl) ?_
  refine lv_iload_n hx hb dX3_readLong_2 rfl (lv_at hl 2 rfl) ?_
  refine lv_bipush (v := 6) hx hb dX3_readLong_3 (by decide) ?_
  refine va_calli (va_runV (As := [.int (nI j), .int i, .int 6]) (rest := []) ⟨hx, hb, hml, hown, hts⟩ (tX3_reads_y l D A cI cJ cD cC x0 x1 x2 x3 x4 Z m0 m1 m2 m3 m4 m5 th n K Ln Wh Re cd ct s.heap.size hI j hj i 6) (cwV 3 hts gX3_readLong_X3_reads rfl rfl rfl (by decide +kernel) ⟨Nat.le_of_ble_eq_true rfl, Nat.le_of_ble_eq_true rfl⟩) ⟨tcP.blind, (va_recv hK hP (ci := 3) (q0 := 5) rfl rfl), (tcP.go hK hP hD hE hS)⟩ rfl rfl hl.1 rfl (lv_room (Nat.le_of_ble_eq_true rfl)) dX3_readLong_5 ⟨Nat.le_of_ble_eq_true rfl, Nat.le_of_ble_eq_true rfl⟩) hS (fun q _ h => h) (fun q h => h) (fun r_1 u t H locs ht hvm hw hB hz1 hk1 hS => ?_)
  subst hw
  obtain ⟨hP, hD⟩ := hB
  rw [ht] at hP
  refine lv_if_eq (tgt := 24) hx hb dX3_readLong_8 (by decide) (fun c_2 => ?_) (fun c_2 => ?_)
  · refine lv_lconst (v := 0) hx hb dX3_readLong_24 (by decide) ?_
    exact W.lret (v := 0) hx hb hr (fun t9 ht9 hW9 => ⟨⟨0, (), rfl, by unfold rdW; rw [if_neg (tb_dn c_2)], by rw [ht9]; exact hP, hD⟩, hS.F ht9⟩) hS.2.2 dX3_readLong_25
  · refine lv_aload_n hx hb dX3_readLong_11 rfl (lv_at hl 0 rfl) ?_
    refine va_get (D := D) (ci := 3) (fs := [.int 0, .int (nI n), .ref m1, .ref m2, .ref m3, .ref m4, .int (cdR K Ln j i (K j) 6), .ref m5]) (v := .ref m3) (C := RX3) (T := TX3) (N := 8) hx hb hts (by decide +kernel) hown hK hP 5 rfl rfl 4 (by decide) (hts (.fieldLink RX3 16 "TypedColumnsModel" "whole" "[J") (by decide +kernel)) (fun _ h9 => h9) rfl dX3_readLong_12 ?_
    refine lv_iload_n hx hb dX3_readLong_15 rfl (lv_at hl 1 rfl) ?_
    refine lv_iload_n hx hb dX3_readLong_16 rfl (lv_at hl 2 rfl) ?_
    have gc := tb_dp c_2
    have g0 := cdR_0 hkI hL gc
    have hi40 : vp_in i 40 := vp_in_le g0.2.2 hL
    have hq : i.toNatClampNeg < 40 := vp_in_lt hi40
    refine vp_callSi (W.runS (As := [.int (nI j), .int i]) (rest := [.ref m3]) ⟨hx, hb, hml, hown, hts⟩ (kX3_at l (nI j) i) (va_cwS 2 hts gX3_readLong_X3_at rfl rfl rfl (by decide +kernel) ⟨Nat.le_of_ble_eq_true rfl, Nat.le_of_ble_eq_true rfl⟩) ⟨fun a U g mk q => q, fun U hU hW => ⟨rfl, trivial⟩⟩ rfl rfl hl.1 rfl (lv_room (Nat.le_of_ble_eq_true rfl)) dX3_readLong_17 ⟨Nat.zero_le _, Nat.zero_le _⟩) (fun r_3 hr_3 => ?_)
    subst hr_3
    rw [at_nI hi40]
    refine tc_lald (f := Wh) (v := (Wh (40 * j + i.toNatClampNeg))) hx hb hK hP 8 1 rfl rfl (vp_in_nI (show (40 * j + i.toNatClampNeg) < 2400 by omega) (by decide)) (by rw [nI_clamp (show (40 * j + i.toNatClampNeg) < 2 ^ 31 by omega)]) dX3_readLong_20 ?_
    refine lv_goto (tgt := 25) hx hb dX3_readLong_21 (by decide) ?_
    exact W.lret (v := (Wh (40 * j + i.toNatClampNeg))) hx hb hr (fun t9 ht9 hW9 => ⟨⟨(Wh (40 * j + i.toNatClampNeg)), (), rfl, by unfold rdW; rw [if_pos gc], by rw [ht9]; exact hP, hD⟩, hS.F ht9⟩) hS.2.2 dX3_readLong_25
set_option maxHeartbeats 4000000 in
set_option maxRecDepth 100000 in
theorem tX3_readLong_n (l : Launch) (D : va_G) (A : Nat → Prop) (cI cJ cD cC : ClassId) (x0 x1 x2 x3 x4 : Nat × va_E) (Z : va_W) (m0 m1 m2 m3 m4 m5 : Nat) (th : Int32) (n : Nat) (K : Nat → Int32) (Ln : Nat → Nat) (Wh : Nat → Int64) (Re : Nat → UInt64) (cd : Int32) (ct : Nat → Int32) (sz : Nat) (hI : tcI n K Ln Wh Re) (cx : Int32) (hc : ¬ ∃ j, j < n ∧ cx = nI j) (i : Int32) : Met l yX3_readLong wsX3_readLong ({ frames := 2, cells := 0, slots := 0, locals := 45 }) (tcP D A (tcTY cI cJ cD cC) sz [.ref m0, .int cx, .int i] (tc_Z cI cJ cD x0 x1 x2 x3 x4 Z m0 m1 m2 m3 m4 m5 th n K Ln Wh Re cd ct)) (va_Ql (fun r (_ : Unit) => r = 0) (fun _ t => tcB D A (tc_Z cI cJ cD x0 x1 x2 x3 x4 Z m0 m1 m2 m3 m4 m5 1 n K Ln Wh Re cd ct) t) A) 0 0 A := by
  refine Met.ofW (cc := cX3_readLong) (maxL := 3) (ret := (some .long)) (by decide) rfl ?_
  intro p e s m args below meth c s₁ B hml hv
  obtain ⟨rfl, hsz, hP, hK, hD, hE⟩ := hv
  have hx := B.exec
  have hb := B.bytes
  have hr := B.returns
  have hts := atoms_spec (ws := wsX3_readLong) B.pre
  have hown : s.vm.findClass RX3 = some m.cls := findClass_of_methodNamed B.named
  have hlocks := B.notSynchronized
  have hl := lv_entry ([.ref m0, .int cx, .int i]) (n := 3) (Nat.le_of_ble_eq_true rfl)
  rw [lg_entry_eq]
  generalize (lg_sl ([.ref m0, .int cx, .int i]) ++ List.replicate (3 - (lg_sl ([.ref m0, .int cx, .int i])).length) Slot.unset).toArray = ls at hl ⊢
  have hl : lv_has ls 3 [(0, .ref m0), (1, .int cx), (2, .int i)] := hl
  subst hsz
  have hS : va_S A s.heap s.heap [] := va_S.rf
  have hn60 : n ≤ 60 := hI.1
  refine lv_aload_n hx hb dX3_readLong_0 rfl (lv_at hl 0 rfl) ?_
  refine lv_iload_n hx hb dX3_readLong_1 rfl (lv_at hl 1 rfl) ?_
  refine lv_iload_n hx hb dX3_readLong_2 rfl (lv_at hl 2 rfl) ?_
  refine lv_bipush (v := 6) hx hb dX3_readLong_3 (by decide) ?_
  refine va_calli (va_runV (As := [.int cx, .int i, .int 6]) (rest := []) ⟨hx, hb, hml, hown, hts⟩ (tX3_reads_n l D A cI cJ cD cC x0 x1 x2 x3 x4 Z m0 m1 m2 m3 m4 m5 th n K Ln Wh Re cd ct s.heap.size hI cx hc i 6) (cwV 3 hts gX3_readLong_X3_reads rfl rfl rfl (by decide +kernel) ⟨Nat.le_of_ble_eq_true rfl, Nat.le_of_ble_eq_true rfl⟩) ⟨tcP.blind, (va_recv hK hP (ci := 3) (q0 := 5) rfl rfl), (tcP.go hK hP hD hE hS)⟩ rfl rfl hl.1 rfl (lv_room (Nat.le_of_ble_eq_true rfl)) dX3_readLong_5 ⟨Nat.le_of_ble_eq_true rfl, Nat.le_of_ble_eq_true rfl⟩) hS (fun q _ h => h) (fun q h => h) (fun r_1 u t H locs ht hvm hw hB hz1 hk1 hS => ?_)
  subst hw
  obtain ⟨hP, hD⟩ := hB
  rw [ht] at hP
  refine lv_if_eq (tgt := 24) hx hb dX3_readLong_8 (by decide) (fun _ => ?_) (fun q => absurd (by decide) q)
  refine lv_lconst (v := 0) hx hb dX3_readLong_24 (by decide) ?_
  exact W.lret (v := 0) hx hb hr (fun t9 ht9 hW9 => ⟨⟨0, (), rfl, rfl, by rw [ht9]; exact hP, hD⟩, hS.F ht9⟩) hS.2.2 dX3_readLong_25
set_option maxHeartbeats 4000000 in
set_option maxRecDepth 100000 in
theorem tX3_readFloat_y (l : Launch) (D : va_G) (A : Nat → Prop) (cI cJ cD cC : ClassId) (x0 x1 x2 x3 x4 : Nat × va_E) (Z : va_W) (m0 m1 m2 m3 m4 m5 : Nat) (th : Int32) (n : Nat) (K : Nat → Int32) (Ln : Nat → Nat) (Wh : Nat → Int64) (Re : Nat → UInt64) (cd : Int32) (ct : Nat → Int32) (sz : Nat) (hI : tcI n K Ln Wh Re) (j : Nat) (hj : j < n) (i : Int32) : Met l yX3_readFloat wsX3_readFloat ({ frames := 3, cells := 0, slots := 0, locals := 67 }) (tcP D A (tcTY cI cJ cD cC) sz [.ref m0, .int (nI j), .int i] (tc_Z cI cJ cD x0 x1 x2 x3 x4 Z m0 m1 m2 m3 m4 m5 th n K Ln Wh Re cd ct)) (va_Qf (fun r (_ : Unit) => r = rdF K Ln Wh Re j i) (fun _ t => tcB D A (tc_Z cI cJ cD x0 x1 x2 x3 x4 Z m0 m1 m2 m3 m4 m5 0 n K Ln Wh Re (cdR K Ln j i (K j) 7) (noteC ct (cdR K Ln j i (K j) 7))) t) A) 0 0 A := by
  refine Met.ofW (cc := cX3_readFloat) (maxL := 3) (ret := (some .float)) (by decide) rfl ?_
  intro p e s m args below meth c s₁ B hml hv
  obtain ⟨rfl, hsz, hP, hK, hD, hE⟩ := hv
  have hx := B.exec
  have hb := B.bytes
  have hr := B.returns
  have hts := atoms_spec (ws := wsX3_readFloat) B.pre
  have hown : s.vm.findClass RX3 = some m.cls := findClass_of_methodNamed B.named
  have hlocks := B.notSynchronized
  have hl := lv_entry ([.ref m0, .int (nI j), .int i]) (n := 3) (Nat.le_of_ble_eq_true rfl)
  rw [lg_entry_eq]
  generalize (lg_sl ([.ref m0, .int (nI j), .int i]) ++ List.replicate (3 - (lg_sl ([.ref m0, .int (nI j), .int i])).length) Slot.unset).toArray = ls at hl ⊢
  have hl : lv_has ls 3 [(0, .ref m0), (1, .int (nI j)), (2, .int i)] := hl
  subst hsz
  have hS : va_S A s.heap s.heap [] := va_S.rf
  have hn60 : n ≤ 60 := hI.1
  have hkI := (hI.2.1 j hj).1
  have hL := (hI.2.1 j hj).2.1
  refine lv_aload_n hx hb dX3_readFloat_0 rfl (lv_at hl 0 rfl) ?_
  refine lv_iload_n hx hb dX3_readFloat_1 rfl (lv_at hl 1 rfl) ?_
  refine lv_iload_n hx hb dX3_readFloat_2 rfl (lv_at hl 2 rfl) ?_
  refine lv_bipush (v := 7) hx hb dX3_readFloat_3 (by decide) ?_
  refine va_calli (va_runV (As := [.int (nI j), .int i, .int 7]) (rest := []) ⟨hx, hb, hml, hown, hts⟩ (tX3_reads_y l D A cI cJ cD cC x0 x1 x2 x3 x4 Z m0 m1 m2 m3 m4 m5 th n K Ln Wh Re cd ct s.heap.size hI j hj i 7) (cwV 3 hts gX3_readFloat_X3_reads rfl rfl rfl (by decide +kernel) ⟨Nat.le_of_ble_eq_true rfl, Nat.le_of_ble_eq_true rfl⟩) ⟨tcP.blind, (va_recv hK hP (ci := 3) (q0 := 5) rfl rfl), (tcP.go hK hP hD hE hS)⟩ rfl rfl hl.1 rfl (lv_room (Nat.le_of_ble_eq_true rfl)) dX3_readFloat_5 ⟨Nat.le_of_ble_eq_true rfl, Nat.le_of_ble_eq_true rfl⟩) hS (fun q _ h => h) (fun q h => h) (fun r_1 u t H locs ht hvm hw hB hz1 hk1 hS => ?_)
  subst hw
  obtain ⟨hP, hD⟩ := hB
  rw [ht] at hP
  refine lv_if_ne (tgt := 15) hx hb dX3_readFloat_8 (by decide) (fun c_2 => ?_) (fun c_2 => ?_)
  · refine lv_aload_n hx hb dX3_readFloat_15 rfl (lv_at hl 0 rfl) ?_
    refine va_get (D := D) (ci := 3) (fs := [.int 0, .int (nI n), .ref m1, .ref m2, .ref m3, .ref m4, .int (cdR K Ln j i (K j) 7), .ref m5]) (v := .ref m1) (C := RX3) (T := TX3) (N := 8) hx hb hts (by decide +kernel) hown hK hP 5 rfl rfl 2 (by decide) (hts (.fieldLink RX3 9 "TypedColumnsModel" "kinds" "[I") (by decide +kernel)) (fun _ h9 => h9) rfl dX3_readFloat_16 ?_
    refine lv_iload_n hx hb dX3_readFloat_19 rfl (lv_at hl 1 rfl) ?_
    refine tc_iald (f := K) (v := (K j)) hx hb hK hP 6 0 rfl rfl (vp_in_nI (show j < 60 by omega) (by decide)) (by rw [nI_clamp (show j < 2 ^ 31 by omega)]) dX3_readFloat_20 ?_
    refine vp_callSi (W.runS (As := [.int (K j)]) (rest := []) ⟨hx, hb, hml, hown, hts⟩ (kX3_isReal l (K j)) (va_cwS 1 hts gX3_readFloat_X3_isReal rfl rfl rfl (by decide +kernel) ⟨Nat.le_of_ble_eq_true rfl, Nat.le_of_ble_eq_true rfl⟩) ⟨fun a U g mk q => q, fun U hU hW => ⟨rfl, trivial⟩⟩ rfl rfl hl.1 rfl (lv_room (Nat.le_of_ble_eq_true rfl)) dX3_readFloat_21 ⟨Nat.zero_le _, Nat.zero_le _⟩) (fun r_3 hr_3 => ?_)
    subst hr_3
    refine lv_if_eq (tgt := 41) hx hb dX3_readFloat_24 (by decide) (fun c_4 => ?_) (fun c_4 => ?_)
    · refine lv_aload_n hx hb dX3_readFloat_41 rfl (lv_at hl 0 rfl) ?_
      refine va_get (D := D) (ci := 3) (fs := [.int 0, .int (nI n), .ref m1, .ref m2, .ref m3, .ref m4, .int (cdR K Ln j i (K j) 7), .ref m5]) (v := .ref m3) (C := RX3) (T := TX3) (N := 8) hx hb hts (by decide +kernel) hown hK hP 5 rfl rfl 4 (by decide) (hts (.fieldLink RX3 16 "TypedColumnsModel" "whole" "[J") (by decide +kernel)) (fun _ h9 => h9) rfl dX3_readFloat_42 ?_
      refine lv_iload_n hx hb dX3_readFloat_45 rfl (lv_at hl 1 rfl) ?_
      refine lv_iload_n hx hb dX3_readFloat_46 rfl (lv_at hl 2 rfl) ?_
      have gc := tb_dp c_2
      have g0 := cdR_0 hkI hL gc
      have hi40 : vp_in i 40 := vp_in_le g0.2.2 hL
      have hq : i.toNatClampNeg < 40 := vp_in_lt hi40
      refine vp_callSi (W.runS (As := [.int (nI j), .int i]) (rest := [.ref m3]) ⟨hx, hb, hml, hown, hts⟩ (kX3_at l (nI j) i) (va_cwS 2 hts gX3_readFloat_X3_at rfl rfl rfl (by decide +kernel) ⟨Nat.le_of_ble_eq_true rfl, Nat.le_of_ble_eq_true rfl⟩) ⟨fun a U g mk q => q, fun U hU hW => ⟨rfl, trivial⟩⟩ rfl rfl hl.1 rfl (lv_room (Nat.le_of_ble_eq_true rfl)) dX3_readFloat_47 ⟨Nat.zero_le _, Nat.zero_le _⟩) (fun r_5 hr_5 => ?_)
      subst hr_5
      rw [at_nI hi40]
      refine tc_lald (f := Wh) (v := (Wh (40 * j + i.toNatClampNeg))) hx hb hK hP 8 1 rfl rfl (vp_in_nI (show (40 * j + i.toNatClampNeg) < 2400 by omega) (by decide)) (by rw [nI_clamp (show (40 * j + i.toNatClampNeg) < 2 ^ 31 by omega)]) dX3_readFloat_50 ?_
      refine lv_l2f hx hb dX3_readFloat_51 ?_
      exact W.fret (v := (FP.l2f (Wh (40 * j + i.toNatClampNeg)))) hx hb hr (fun t9 ht9 hW9 => ⟨⟨(FP.l2f (Wh (40 * j + i.toNatClampNeg))), (), rfl, by unfold rdF; rw [if_pos gc, if_neg (by rw [((kReal_has g0.1).symm.trans ((tb_0 _).mp c_4))]; decide)], by rw [ht9]; exact hP, hD⟩, hS.F ht9⟩) hS.2.2 dX3_readFloat_52
    · refine lv_aload_n hx hb dX3_readFloat_27 rfl (lv_at hl 0 rfl) ?_
      refine va_get (D := D) (ci := 3) (fs := [.int 0, .int (nI n), .ref m1, .ref m2, .ref m3, .ref m4, .int (cdR K Ln j i (K j) 7), .ref m5]) (v := .ref m4) (C := RX3) (T := TX3) (N := 8) hx hb hts (by decide +kernel) hown hK hP 5 rfl rfl 5 (by decide) (hts (.fieldLink RX3 20 "TypedColumnsModel" "real" "[D") (by decide +kernel)) (fun _ h9 => h9) rfl dX3_readFloat_28 ?_
      refine lv_iload_n hx hb dX3_readFloat_31 rfl (lv_at hl 1 rfl) ?_
      refine lv_iload_n hx hb dX3_readFloat_32 rfl (lv_at hl 2 rfl) ?_
      have gc := tb_dp c_2
      have g0 := cdR_0 hkI hL gc
      have hi40 : vp_in i 40 := vp_in_le g0.2.2 hL
      have hq : i.toNatClampNeg < 40 := vp_in_lt hi40
      refine vp_callSi (W.runS (As := [.int (nI j), .int i]) (rest := [.ref m4]) ⟨hx, hb, hml, hown, hts⟩ (kX3_at l (nI j) i) (va_cwS 2 hts gX3_readFloat_X3_at rfl rfl rfl (by decide +kernel) ⟨Nat.le_of_ble_eq_true rfl, Nat.le_of_ble_eq_true rfl⟩) ⟨fun a U g mk q => q, fun U hU hW => ⟨rfl, trivial⟩⟩ rfl rfl hl.1 rfl (lv_room (Nat.le_of_ble_eq_true rfl)) dX3_readFloat_33 ⟨Nat.zero_le _, Nat.zero_le _⟩) (fun r_6 hr_6 => ?_)
      subst hr_6
      rw [at_nI hi40]
      refine tc_dald (f := Re) (v := (Re (40 * j + i.toNatClampNeg))) hx hb hK hP 9 2 rfl rfl (vp_in_nI (show (40 * j + i.toNatClampNeg) < 2400 by omega) (by decide)) (by rw [nI_clamp (show (40 * j + i.toNatClampNeg) < 2 ^ 31 by omega)]) dX3_readFloat_36 ?_
      refine lv_d2f hx hb dX3_readFloat_37 ((tf_n32 _).mpr (tf_d2f (hI.2.2.2 j hj ((kReal_has g0.1).symm.trans ((tb_1 _).mp c_4)) _ (vp_in_lt g0.2.2)))) ?_
      refine lv_goto (tgt := 52) hx hb dX3_readFloat_38 (by decide) ?_
      exact W.fret (v := (FP.d2f (Re (40 * j + i.toNatClampNeg)))) hx hb hr (fun t9 ht9 hW9 => ⟨⟨(FP.d2f (Re (40 * j + i.toNatClampNeg))), (), rfl, by unfold rdF; rw [if_pos gc, if_pos ((kReal_has g0.1).symm.trans ((tb_1 _).mp c_4))], by rw [ht9]; exact hP, hD⟩, hS.F ht9⟩) hS.2.2 dX3_readFloat_52
  · refine lv_fconst0 hx hb dX3_readFloat_11 ?_
    refine lv_goto (tgt := 52) hx hb dX3_readFloat_12 (by decide) ?_
    exact W.fret (v := FP.fconst0) hx hb hr (fun t9 ht9 hW9 => ⟨⟨FP.fconst0, (), rfl, by unfold rdF; rw [if_neg (tb_dn c_2)]; rfl, by rw [ht9]; exact hP, hD⟩, hS.F ht9⟩) hS.2.2 dX3_readFloat_52
set_option maxHeartbeats 4000000 in
set_option maxRecDepth 100000 in
theorem tX3_readFloat_n (l : Launch) (D : va_G) (A : Nat → Prop) (cI cJ cD cC : ClassId) (x0 x1 x2 x3 x4 : Nat × va_E) (Z : va_W) (m0 m1 m2 m3 m4 m5 : Nat) (th : Int32) (n : Nat) (K : Nat → Int32) (Ln : Nat → Nat) (Wh : Nat → Int64) (Re : Nat → UInt64) (cd : Int32) (ct : Nat → Int32) (sz : Nat) (hI : tcI n K Ln Wh Re) (cx : Int32) (hc : ¬ ∃ j, j < n ∧ cx = nI j) (i : Int32) : Met l yX3_readFloat wsX3_readFloat ({ frames := 2, cells := 0, slots := 0, locals := 45 }) (tcP D A (tcTY cI cJ cD cC) sz [.ref m0, .int cx, .int i] (tc_Z cI cJ cD x0 x1 x2 x3 x4 Z m0 m1 m2 m3 m4 m5 th n K Ln Wh Re cd ct)) (va_Qf (fun r (_ : Unit) => r = 0) (fun _ t => tcB D A (tc_Z cI cJ cD x0 x1 x2 x3 x4 Z m0 m1 m2 m3 m4 m5 1 n K Ln Wh Re cd ct) t) A) 0 0 A := by
  refine Met.ofW (cc := cX3_readFloat) (maxL := 3) (ret := (some .float)) (by decide) rfl ?_
  intro p e s m args below meth c s₁ B hml hv
  obtain ⟨rfl, hsz, hP, hK, hD, hE⟩ := hv
  have hx := B.exec
  have hb := B.bytes
  have hr := B.returns
  have hts := atoms_spec (ws := wsX3_readFloat) B.pre
  have hown : s.vm.findClass RX3 = some m.cls := findClass_of_methodNamed B.named
  have hlocks := B.notSynchronized
  have hl := lv_entry ([.ref m0, .int cx, .int i]) (n := 3) (Nat.le_of_ble_eq_true rfl)
  rw [lg_entry_eq]
  generalize (lg_sl ([.ref m0, .int cx, .int i]) ++ List.replicate (3 - (lg_sl ([.ref m0, .int cx, .int i])).length) Slot.unset).toArray = ls at hl ⊢
  have hl : lv_has ls 3 [(0, .ref m0), (1, .int cx), (2, .int i)] := hl
  subst hsz
  have hS : va_S A s.heap s.heap [] := va_S.rf
  have hn60 : n ≤ 60 := hI.1
  refine lv_aload_n hx hb dX3_readFloat_0 rfl (lv_at hl 0 rfl) ?_
  refine lv_iload_n hx hb dX3_readFloat_1 rfl (lv_at hl 1 rfl) ?_
  refine lv_iload_n hx hb dX3_readFloat_2 rfl (lv_at hl 2 rfl) ?_
  refine lv_bipush (v := 7) hx hb dX3_readFloat_3 (by decide) ?_
  refine va_calli (va_runV (As := [.int cx, .int i, .int 7]) (rest := []) ⟨hx, hb, hml, hown, hts⟩ (tX3_reads_n l D A cI cJ cD cC x0 x1 x2 x3 x4 Z m0 m1 m2 m3 m4 m5 th n K Ln Wh Re cd ct s.heap.size hI cx hc i 7) (cwV 3 hts gX3_readFloat_X3_reads rfl rfl rfl (by decide +kernel) ⟨Nat.le_of_ble_eq_true rfl, Nat.le_of_ble_eq_true rfl⟩) ⟨tcP.blind, (va_recv hK hP (ci := 3) (q0 := 5) rfl rfl), (tcP.go hK hP hD hE hS)⟩ rfl rfl hl.1 rfl (lv_room (Nat.le_of_ble_eq_true rfl)) dX3_readFloat_5 ⟨Nat.le_of_ble_eq_true rfl, Nat.le_of_ble_eq_true rfl⟩) hS (fun q _ h => h) (fun q h => h) (fun r_1 u t H locs ht hvm hw hB hz1 hk1 hS => ?_)
  subst hw
  obtain ⟨hP, hD⟩ := hB
  rw [ht] at hP
  refine lv_if_ne (tgt := 15) hx hb dX3_readFloat_8 (by decide) (fun q => absurd (by decide) q) (fun _ => ?_)
  refine lv_fconst0 hx hb dX3_readFloat_11 ?_
  refine lv_goto (tgt := 52) hx hb dX3_readFloat_12 (by decide) ?_
  exact W.fret (v := FP.fconst0) hx hb hr (fun t9 ht9 hW9 => ⟨⟨FP.fconst0, (), rfl, rfl, by rw [ht9]; exact hP, hD⟩, hS.F ht9⟩) hS.2.2 dX3_readFloat_52
set_option maxHeartbeats 4000000 in
set_option maxRecDepth 100000 in
theorem tX3_asDouble (l : Launch) (D : va_G) (A : Nat → Prop) (cI cJ cD cC : ClassId) (x0 x1 x2 x3 x4 : Nat × va_E) (Z : va_W) (m0 m1 m2 m3 m4 m5 : Nat) (th : Int32) (n : Nat) (K : Nat → Int32) (Ln : Nat → Nat) (Wh : Nat → Int64) (Re : Nat → UInt64) (cd : Int32) (ct : Nat → Int32) (sz : Nat) (hI : tcI n K Ln Wh Re) (j : Nat) (hj : j < n) (i : Int32) (hi : vp_in i (Ln j)) (hh : kHas (K j) = true) : Met l yX3_asDouble wsX3_asDouble ({ frames := 1, cells := 0, slots := 0, locals := 21 }) (tcP D A (tcTY cI cJ cD cC) sz [.ref m0, .int (nI j), .int i] (tc_Z cI cJ cD x0 x1 x2 x3 x4 Z m0 m1 m2 m3 m4 m5 th n K Ln Wh Re cd ct)) (vp_Sd (fun r => r = if kFl (K j) = true then Re (40 * j + i.toNatClampNeg) else FP.l2d (Wh (40 * j + i.toNatClampNeg)))) 0 0 (fun _ => False) := by
  refine Met.ofW (cc := cX3_asDouble) (maxL := 3) (ret := (some .double)) (by decide) rfl ?_
  intro p e s m args below meth c s₁ B hml hv
  obtain ⟨rfl, hsz, hP, hK, hD, hE⟩ := hv
  have hx := B.exec
  have hb := B.bytes
  have hr := B.returns
  have hts := atoms_spec (ws := wsX3_asDouble) B.pre
  have hown : s.vm.findClass RX3 = some m.cls := findClass_of_methodNamed B.named
  have hlocks := B.notSynchronized
  have hl := lv_entry ([.ref m0, .int (nI j), .int i]) (n := 3) (Nat.le_of_ble_eq_true rfl)
  rw [lg_entry_eq]
  generalize (lg_sl ([.ref m0, .int (nI j), .int i]) ++ List.replicate (3 - (lg_sl ([.ref m0, .int (nI j), .int i])).length) Slot.unset).toArray = ls at hl ⊢
  have hl : lv_has ls 3 [(0, .ref m0), (1, .int (nI j)), (2, .int i)] := hl
  subst hsz
  have hS : va_S A s.heap s.heap [] := va_S.rf
  have hn60 : n ≤ 60 := hI.1
  have hkI := (hI.2.1 j hj).1
  have hL := (hI.2.1 j hj).2.1
  have hi40 : vp_in i 40 := vp_in_le hi hL
  have hq : i.toNatClampNeg < 40 := vp_in_lt hi40
  refine lv_aload_n hx hb dX3_asDouble_0 rfl (lv_at hl 0 rfl) ?_
  refine va_get (D := D) (ci := 3) (fs := [.int th, .int (nI n), .ref m1, .ref m2, .ref m3, .ref m4, .int cd, .ref m5]) (v := .ref m1) (C := RX3) (T := TX3) (N := 8) hx hb hts (by decide +kernel) hown hK hP 5 rfl rfl 2 (by decide) (hts (.fieldLink RX3 9 "TypedColumnsModel" "kinds" "[I") (by decide +kernel)) (fun _ h9 => h9) rfl dX3_asDouble_1 ?_
  refine lv_iload_n hx hb dX3_asDouble_4 rfl (lv_at hl 1 rfl) ?_
  refine tc_iald (f := K) (v := (K j)) hx hb hK hP 6 0 rfl rfl (vp_in_nI (show j < 60 by omega) (by decide)) (by rw [nI_clamp (show j < 2 ^ 31 by omega)]) dX3_asDouble_5 ?_
  refine vp_callSi (W.runS (As := [.int (K j)]) (rest := []) ⟨hx, hb, hml, hown, hts⟩ (kX3_isReal l (K j)) (va_cwS 1 hts gX3_asDouble_X3_isReal rfl rfl rfl (by decide +kernel) ⟨Nat.le_of_ble_eq_true rfl, Nat.le_of_ble_eq_true rfl⟩) ⟨fun a U g mk q => q, fun U hU hW => ⟨rfl, trivial⟩⟩ rfl rfl hl.1 rfl (lv_room (Nat.le_of_ble_eq_true rfl)) dX3_asDouble_6 ⟨Nat.zero_le _, Nat.zero_le _⟩) (fun r_1 hr_1 => ?_)
  subst hr_1
  refine lv_if_eq (tgt := 25) hx hb dX3_asDouble_9 (by decide) (fun c_2 => ?_) (fun c_2 => ?_)
  · refine lv_aload_n hx hb dX3_asDouble_25 rfl (lv_at hl 0 rfl) ?_
    refine va_get (D := D) (ci := 3) (fs := [.int th, .int (nI n), .ref m1, .ref m2, .ref m3, .ref m4, .int cd, .ref m5]) (v := .ref m3) (C := RX3) (T := TX3) (N := 8) hx hb hts (by decide +kernel) hown hK hP 5 rfl rfl 4 (by decide) (hts (.fieldLink RX3 16 "TypedColumnsModel" "whole" "[J") (by decide +kernel)) (fun _ h9 => h9) rfl dX3_asDouble_26 ?_
    refine lv_iload_n hx hb dX3_asDouble_29 rfl (lv_at hl 1 rfl) ?_
    refine lv_iload_n hx hb dX3_asDouble_30 rfl (lv_at hl 2 rfl) ?_
    refine vp_callSi (W.runS (As := [.int (nI j), .int i]) (rest := [.ref m3]) ⟨hx, hb, hml, hown, hts⟩ (kX3_at l (nI j) i) (va_cwS 2 hts gX3_asDouble_X3_at rfl rfl rfl (by decide +kernel) ⟨Nat.le_of_ble_eq_true rfl, Nat.le_of_ble_eq_true rfl⟩) ⟨fun a U g mk q => q, fun U hU hW => ⟨rfl, trivial⟩⟩ rfl rfl hl.1 rfl (lv_room (Nat.le_of_ble_eq_true rfl)) dX3_asDouble_31 ⟨Nat.zero_le _, Nat.zero_le _⟩) (fun r_3 hr_3 => ?_)
    subst hr_3
    rw [at_nI hi40]
    refine tc_lald (f := Wh) (v := (Wh (40 * j + i.toNatClampNeg))) hx hb hK hP 8 1 rfl rfl (vp_in_nI (show (40 * j + i.toNatClampNeg) < 2400 by omega) (by decide)) (by rw [nI_clamp (show (40 * j + i.toNatClampNeg) < 2 ^ 31 by omega)]) dX3_asDouble_34 ?_
    refine lv_l2d hx hb dX3_asDouble_35 ?_
    exact W.dret (v := (FP.l2d (Wh (40 * j + i.toNatClampNeg)))) hx hb hr (fun t9 ht9 hW9 => ⟨(FP.l2d (Wh (40 * j + i.toNatClampNeg))), rfl, by rw [if_neg (by rw [(kReal_has hh).symm.trans ((tb_0 _).mp c_2)]; decide)], ht9⟩) (fun q hq => absurd hq List.not_mem_nil) dX3_asDouble_36
  · refine lv_aload_n hx hb dX3_asDouble_12 rfl (lv_at hl 0 rfl) ?_
    refine va_get (D := D) (ci := 3) (fs := [.int th, .int (nI n), .ref m1, .ref m2, .ref m3, .ref m4, .int cd, .ref m5]) (v := .ref m4) (C := RX3) (T := TX3) (N := 8) hx hb hts (by decide +kernel) hown hK hP 5 rfl rfl 5 (by decide) (hts (.fieldLink RX3 20 "TypedColumnsModel" "real" "[D") (by decide +kernel)) (fun _ h9 => h9) rfl dX3_asDouble_13 ?_
    refine lv_iload_n hx hb dX3_asDouble_16 rfl (lv_at hl 1 rfl) ?_
    refine lv_iload_n hx hb dX3_asDouble_17 rfl (lv_at hl 2 rfl) ?_
    refine vp_callSi (W.runS (As := [.int (nI j), .int i]) (rest := [.ref m4]) ⟨hx, hb, hml, hown, hts⟩ (kX3_at l (nI j) i) (va_cwS 2 hts gX3_asDouble_X3_at rfl rfl rfl (by decide +kernel) ⟨Nat.le_of_ble_eq_true rfl, Nat.le_of_ble_eq_true rfl⟩) ⟨fun a U g mk q => q, fun U hU hW => ⟨rfl, trivial⟩⟩ rfl rfl hl.1 rfl (lv_room (Nat.le_of_ble_eq_true rfl)) dX3_asDouble_18 ⟨Nat.zero_le _, Nat.zero_le _⟩) (fun r_4 hr_4 => ?_)
    subst hr_4
    rw [at_nI hi40]
    refine tc_dald (f := Re) (v := (Re (40 * j + i.toNatClampNeg))) hx hb hK hP 9 2 rfl rfl (vp_in_nI (show (40 * j + i.toNatClampNeg) < 2400 by omega) (by decide)) (by rw [nI_clamp (show (40 * j + i.toNatClampNeg) < 2 ^ 31 by omega)]) dX3_asDouble_21 ?_
    refine lv_goto (tgt := 36) hx hb dX3_asDouble_22 (by decide) ?_
    exact W.dret (v := (Re (40 * j + i.toNatClampNeg))) hx hb hr (fun t9 ht9 hW9 => ⟨(Re (40 * j + i.toNatClampNeg)), rfl, by rw [if_pos ((kReal_has hh).symm.trans ((tb_1 _).mp c_2))], ht9⟩) (fun q hq => absurd hq List.not_mem_nil) dX3_asDouble_36
set_option maxHeartbeats 4000000 in
set_option maxRecDepth 100000 in
theorem tX3_readDouble_y (l : Launch) (D : va_G) (A : Nat → Prop) (cI cJ cD cC : ClassId) (x0 x1 x2 x3 x4 : Nat × va_E) (Z : va_W) (m0 m1 m2 m3 m4 m5 : Nat) (th : Int32) (n : Nat) (K : Nat → Int32) (Ln : Nat → Nat) (Wh : Nat → Int64) (Re : Nat → UInt64) (cd : Int32) (ct : Nat → Int32) (sz : Nat) (hI : tcI n K Ln Wh Re) (j : Nat) (hj : j < n) (i : Int32) : Met l yX3_readDouble wsX3_readDouble ({ frames := 3, cells := 0, slots := 0, locals := 67 }) (tcP D A (tcTY cI cJ cD cC) sz [.ref m0, .int (nI j), .int i] (tc_Z cI cJ cD x0 x1 x2 x3 x4 Z m0 m1 m2 m3 m4 m5 th n K Ln Wh Re cd ct)) (va_Qd (fun r (_ : Unit) => r = rdR K Ln Wh Re j i 8) (fun _ t => tcB D A (tc_Z cI cJ cD x0 x1 x2 x3 x4 Z m0 m1 m2 m3 m4 m5 0 n K Ln Wh Re (cdR K Ln j i (K j) 8) (noteC ct (cdR K Ln j i (K j) 8))) t) A) 0 0 A := by
  refine Met.ofW (cc := cX3_readDouble) (maxL := 3) (ret := (some .double)) (by decide) rfl ?_
  intro p e s m args below meth c s₁ B hml hv
  obtain ⟨rfl, hsz, hP, hK, hD, hE⟩ := hv
  have hx := B.exec
  have hb := B.bytes
  have hr := B.returns
  have hts := atoms_spec (ws := wsX3_readDouble) B.pre
  have hown : s.vm.findClass RX3 = some m.cls := findClass_of_methodNamed B.named
  have hlocks := B.notSynchronized
  have hl := lv_entry ([.ref m0, .int (nI j), .int i]) (n := 3) (Nat.le_of_ble_eq_true rfl)
  rw [lg_entry_eq]
  generalize (lg_sl ([.ref m0, .int (nI j), .int i]) ++ List.replicate (3 - (lg_sl ([.ref m0, .int (nI j), .int i])).length) Slot.unset).toArray = ls at hl ⊢
  have hl : lv_has ls 3 [(0, .ref m0), (1, .int (nI j)), (2, .int i)] := hl
  subst hsz
  have hS : va_S A s.heap s.heap [] := va_S.rf
  have hn60 : n ≤ 60 := hI.1
  have hkI := (hI.2.1 j hj).1
  have hL := (hI.2.1 j hj).2.1
  refine lv_aload_n hx hb dX3_readDouble_0 rfl (lv_at hl 0 rfl) ?_
  refine lv_iload_n hx hb dX3_readDouble_1 rfl (lv_at hl 1 rfl) ?_
  refine lv_iload_n hx hb dX3_readDouble_2 rfl (lv_at hl 2 rfl) ?_
  refine lv_bipush (v := 8) hx hb dX3_readDouble_3 (by decide) ?_
  refine va_calli (va_runV (As := [.int (nI j), .int i, .int 8]) (rest := []) ⟨hx, hb, hml, hown, hts⟩ (tX3_reads_y l D A cI cJ cD cC x0 x1 x2 x3 x4 Z m0 m1 m2 m3 m4 m5 th n K Ln Wh Re cd ct s.heap.size hI j hj i 8) (cwV 3 hts gX3_readDouble_X3_reads rfl rfl rfl (by decide +kernel) ⟨Nat.le_of_ble_eq_true rfl, Nat.le_of_ble_eq_true rfl⟩) ⟨tcP.blind, (va_recv hK hP (ci := 3) (q0 := 5) rfl rfl), (tcP.go hK hP hD hE hS)⟩ rfl rfl hl.1 rfl (lv_room (Nat.le_of_ble_eq_true rfl)) dX3_readDouble_5 ⟨Nat.le_of_ble_eq_true rfl, Nat.le_of_ble_eq_true rfl⟩) hS (fun q _ h => h) (fun q h => h) (fun r_1 u t H locs ht hvm hw hB hz1 hk1 hS => ?_)
  subst hw
  obtain ⟨hP, hD⟩ := hB
  rw [ht] at hP
  refine lv_if_eq (tgt := 20) hx hb dX3_readDouble_8 (by decide) (fun c_2 => ?_) (fun c_2 => ?_)
  · refine lv_dconst0 hx hb dX3_readDouble_20 ?_
    exact W.dret (v := FP.dconst0) hx hb hr (fun t9 ht9 hW9 => ⟨⟨FP.dconst0, (), rfl, by unfold rdR; rw [if_neg (tb_dn c_2)]; rfl, by rw [ht9]; exact hP, hD⟩, hS.F ht9⟩) hS.2.2 dX3_readDouble_21
  · refine lv_aload_n hx hb dX3_readDouble_11 rfl (lv_at hl 0 rfl) ?_
    refine lv_iload_n hx hb dX3_readDouble_12 rfl (lv_at hl 1 rfl) ?_
    refine lv_iload_n hx hb dX3_readDouble_13 rfl (lv_at hl 2 rfl) ?_
    have gc := tb_dp c_2
    have g0 := cdR_0 hkI hL gc
    have hi40 : vp_in i 40 := vp_in_le g0.2.2 hL
    have hq : i.toNatClampNeg < 40 := vp_in_lt hi40
    refine vp_callSd (tc_CR (va_runV (As := [.int (nI j), .int i]) (rest := []) ⟨hx, hb, hml, hown, hts⟩ (tX3_asDouble l D A cI cJ cD cC x0 x1 x2 x3 x4 Z m0 m1 m2 m3 m4 m5 0 n K Ln Wh Re (cdR K Ln j i (K j) 8) (noteC ct (cdR K Ln j i (K j) 8)) H.size hI j hj i g0.2.2 g0.1) (cwV 2 hts gX3_readDouble_X3_asDouble rfl rfl rfl (by decide +kernel) ⟨Nat.le_of_ble_eq_true rfl, Nat.le_of_ble_eq_true rfl⟩) ⟨tcP.blind, (va_recv hK hP (ci := 3) (q0 := 5) rfl rfl), (tcP.go hK hP hD hE hS)⟩ rfl rfl hl.1 rfl (lv_room (Nat.le_of_ble_eq_true rfl)) dX3_readDouble_14 ⟨Nat.le_of_ble_eq_true rfl, Nat.le_of_ble_eq_true rfl⟩)) (fun r_3 hr_3 => ?_)
    subst hr_3
    refine lv_goto (tgt := 21) hx hb dX3_readDouble_17 (by decide) ?_
    exact W.dret (v := (if kFl (K j) = true then Re (40 * j + i.toNatClampNeg) else FP.l2d (Wh (40 * j + i.toNatClampNeg)))) hx hb hr (fun t9 ht9 hW9 => ⟨⟨(if kFl (K j) = true then Re (40 * j + i.toNatClampNeg) else FP.l2d (Wh (40 * j + i.toNatClampNeg))), (), rfl, by unfold rdR; rw [if_pos gc], by rw [ht9]; exact hP, hD⟩, hS.F ht9⟩) hS.2.2 dX3_readDouble_21
set_option maxHeartbeats 4000000 in
set_option maxRecDepth 100000 in
theorem tX3_readDouble_n (l : Launch) (D : va_G) (A : Nat → Prop) (cI cJ cD cC : ClassId) (x0 x1 x2 x3 x4 : Nat × va_E) (Z : va_W) (m0 m1 m2 m3 m4 m5 : Nat) (th : Int32) (n : Nat) (K : Nat → Int32) (Ln : Nat → Nat) (Wh : Nat → Int64) (Re : Nat → UInt64) (cd : Int32) (ct : Nat → Int32) (sz : Nat) (hI : tcI n K Ln Wh Re) (cx : Int32) (hc : ¬ ∃ j, j < n ∧ cx = nI j) (i : Int32) : Met l yX3_readDouble wsX3_readDouble ({ frames := 2, cells := 0, slots := 0, locals := 45 }) (tcP D A (tcTY cI cJ cD cC) sz [.ref m0, .int cx, .int i] (tc_Z cI cJ cD x0 x1 x2 x3 x4 Z m0 m1 m2 m3 m4 m5 th n K Ln Wh Re cd ct)) (va_Qd (fun r (_ : Unit) => r = 0) (fun _ t => tcB D A (tc_Z cI cJ cD x0 x1 x2 x3 x4 Z m0 m1 m2 m3 m4 m5 1 n K Ln Wh Re cd ct) t) A) 0 0 A := by
  refine Met.ofW (cc := cX3_readDouble) (maxL := 3) (ret := (some .double)) (by decide) rfl ?_
  intro p e s m args below meth c s₁ B hml hv
  obtain ⟨rfl, hsz, hP, hK, hD, hE⟩ := hv
  have hx := B.exec
  have hb := B.bytes
  have hr := B.returns
  have hts := atoms_spec (ws := wsX3_readDouble) B.pre
  have hown : s.vm.findClass RX3 = some m.cls := findClass_of_methodNamed B.named
  have hlocks := B.notSynchronized
  have hl := lv_entry ([.ref m0, .int cx, .int i]) (n := 3) (Nat.le_of_ble_eq_true rfl)
  rw [lg_entry_eq]
  generalize (lg_sl ([.ref m0, .int cx, .int i]) ++ List.replicate (3 - (lg_sl ([.ref m0, .int cx, .int i])).length) Slot.unset).toArray = ls at hl ⊢
  have hl : lv_has ls 3 [(0, .ref m0), (1, .int cx), (2, .int i)] := hl
  subst hsz
  have hS : va_S A s.heap s.heap [] := va_S.rf
  have hn60 : n ≤ 60 := hI.1
  refine lv_aload_n hx hb dX3_readDouble_0 rfl (lv_at hl 0 rfl) ?_
  refine lv_iload_n hx hb dX3_readDouble_1 rfl (lv_at hl 1 rfl) ?_
  refine lv_iload_n hx hb dX3_readDouble_2 rfl (lv_at hl 2 rfl) ?_
  refine lv_bipush (v := 8) hx hb dX3_readDouble_3 (by decide) ?_
  refine va_calli (va_runV (As := [.int cx, .int i, .int 8]) (rest := []) ⟨hx, hb, hml, hown, hts⟩ (tX3_reads_n l D A cI cJ cD cC x0 x1 x2 x3 x4 Z m0 m1 m2 m3 m4 m5 th n K Ln Wh Re cd ct s.heap.size hI cx hc i 8) (cwV 3 hts gX3_readDouble_X3_reads rfl rfl rfl (by decide +kernel) ⟨Nat.le_of_ble_eq_true rfl, Nat.le_of_ble_eq_true rfl⟩) ⟨tcP.blind, (va_recv hK hP (ci := 3) (q0 := 5) rfl rfl), (tcP.go hK hP hD hE hS)⟩ rfl rfl hl.1 rfl (lv_room (Nat.le_of_ble_eq_true rfl)) dX3_readDouble_5 ⟨Nat.le_of_ble_eq_true rfl, Nat.le_of_ble_eq_true rfl⟩) hS (fun q _ h => h) (fun q h => h) (fun r_1 u t H locs ht hvm hw hB hz1 hk1 hS => ?_)
  subst hw
  obtain ⟨hP, hD⟩ := hB
  rw [ht] at hP
  refine lv_if_eq (tgt := 20) hx hb dX3_readDouble_8 (by decide) (fun _ => ?_) (fun q => absurd (by decide) q)
  refine lv_dconst0 hx hb dX3_readDouble_20 ?_
  exact W.dret (v := FP.dconst0) hx hb hr (fun t9 ht9 hW9 => ⟨⟨FP.dconst0, (), rfl, rfl, by rw [ht9]; exact hP, hD⟩, hS.F ht9⟩) hS.2.2 dX3_readDouble_21
set_option maxHeartbeats 4000000 in
set_option maxRecDepth 100000 in
theorem tX3_readAny_y (l : Launch) (D : va_G) (A : Nat → Prop) (cI cJ cD cC : ClassId) (x0 x1 x2 x3 x4 : Nat × va_E) (Z : va_W) (m0 m1 m2 m3 m4 m5 : Nat) (th : Int32) (n : Nat) (K : Nat → Int32) (Ln : Nat → Nat) (Wh : Nat → Int64) (Re : Nat → UInt64) (cd : Int32) (ct : Nat → Int32) (sz : Nat) (hI : tcI n K Ln Wh Re) (j : Nat) (hj : j < n) (i : Int32) : Met l yX3_readAny wsX3_readAny ({ frames := 2, cells := 0, slots := 0, locals := 43 }) (tcP D A (tcTY cI cJ cD cC) sz [.ref m0, .int (nI j), .int i] (tc_Z cI cJ cD x0 x1 x2 x3 x4 Z m0 m1 m2 m3 m4 m5 th n K Ln Wh Re cd ct)) (va_Qd (fun r (_ : Unit) => r = rdR K Ln Wh Re j i (K j)) (fun _ t => tcB D A (tc_Z cI cJ cD x0 x1 x2 x3 x4 Z m0 m1 m2 m3 m4 m5 0 n K Ln Wh Re (cdR K Ln j i (K j) (K j)) (noteC ct (cdR K Ln j i (K j) (K j)))) t) A) 0 0 A := by
  refine Met.ofW (cc := cX3_readAny) (maxL := 3) (ret := (some .double)) (by decide) rfl ?_
  intro p e s m args below meth c s₁ B hml hv
  obtain ⟨rfl, hsz, hP, hK, hD, hE⟩ := hv
  have hx := B.exec
  have hb := B.bytes
  have hr := B.returns
  have hts := atoms_spec (ws := wsX3_readAny) B.pre
  have hown : s.vm.findClass RX3 = some m.cls := findClass_of_methodNamed B.named
  have hlocks := B.notSynchronized
  have hl := lv_entry ([.ref m0, .int (nI j), .int i]) (n := 3) (Nat.le_of_ble_eq_true rfl)
  rw [lg_entry_eq]
  generalize (lg_sl ([.ref m0, .int (nI j), .int i]) ++ List.replicate (3 - (lg_sl ([.ref m0, .int (nI j), .int i])).length) Slot.unset).toArray = ls at hl ⊢
  have hl : lv_has ls 3 [(0, .ref m0), (1, .int (nI j)), (2, .int i)] := hl
  subst hsz
  have hS : va_S A s.heap s.heap [] := va_S.rf
  have hn60 : n ≤ 60 := hI.1
  have hkI := (hI.2.1 j hj).1
  have hL := (hI.2.1 j hj).2.1
  refine lv_aload_n hx hb dX3_readAny_0 rfl (lv_at hl 0 rfl) ?_
  refine lv_aload_n hx hb dX3_readAny_1 rfl (lv_at hl 0 rfl) ?_
  refine lv_iload_n hx hb dX3_readAny_2 rfl (lv_at hl 1 rfl) ?_
  refine vp_callSi (tc_CR (va_runV (As := [.int (nI j)]) (rest := [.ref m0]) ⟨hx, hb, hml, hown, hts⟩ (tX3_isColumn_y l D A cI cJ cD cC x0 x1 x2 x3 x4 Z m0 m1 m2 m3 m4 m5 th n K Ln Wh Re cd ct s.heap.size hI j hj) (cwV 1 hts gX3_readAny_X3_isColumn rfl rfl rfl (by decide +kernel) ⟨Nat.le_of_ble_eq_true rfl, Nat.le_of_ble_eq_true rfl⟩) ⟨tcP.blind, (va_recv hK hP (ci := 3) (q0 := 5) rfl rfl), (tcP.go hK hP hD hE hS)⟩ rfl rfl hl.1 rfl (lv_room (Nat.le_of_ble_eq_true rfl)) dX3_readAny_3 ⟨Nat.le_of_ble_eq_true rfl, Nat.le_of_ble_eq_true rfl⟩)) (fun r_1 hr_1 => ?_)
  subst hr_1
  refine lv_if_eq (tgt := 13) hx hb dX3_readAny_6 (by decide) (fun q => absurd q (by decide)) (fun _ => ?_)
  refine lv_iconst (v := 0) hx hb dX3_readAny_9 (by decide) ?_
  refine lv_goto (tgt := 14) hx hb dX3_readAny_10 (by decide) ?_
  refine va_put (D := D) (ci := 3) (fs := [.int th, .int (nI n), .ref m1, .ref m2, .ref m3, .ref m4, .int cd, .ref m5]) (v := .int 0) (ty := .int) (C := RX3) (T := TX3) (N := 8) hx hb hts (by decide +kernel) tyX3 tyX3_ok nmX3 hown hK hP hD hS 5 rfl rfl 0 (by decide) (hts (.fieldLink RX3 27 "TypedColumnsModel" "thrown" "I") (by decide +kernel)) (fun _ h9 => h9) rfl (by decide +kernel) rfl rfl (Nat.le_of_ble_eq_true rfl) dX3_readAny_14 (fun H locs hP hD hS => ?_)
  have hP : va_P D vwCl (tc_Z cI cJ cD x0 x1 x2 x3 x4 Z m0 m1 m2 m3 m4 m5 0 n K Ln Wh Re cd ct) H := hP
  have hD : va_D A (tc_Z cI cJ cD x0 x1 x2 x3 x4 Z m0 m1 m2 m3 m4 m5 0 n K Ln Wh Re cd ct) := hD
  refine lv_aload_n hx hb dX3_readAny_17 rfl (lv_at hl 0 rfl) ?_
  refine va_get (D := D) (ci := 3) (fs := [.int 0, .int (nI n), .ref m1, .ref m2, .ref m3, .ref m4, .int cd, .ref m5]) (v := .int 0) (C := RX3) (T := TX3) (N := 8) hx hb hts (by decide +kernel) hown hK hP 5 rfl rfl 0 (by decide) (hts (.fieldLink RX3 27 "TypedColumnsModel" "thrown" "I") (by decide +kernel)) (fun _ h9 => h9) rfl dX3_readAny_18 ?_
  refine lv_if_ne (tgt := 46) hx hb dX3_readAny_21 (by decide) (fun q => absurd (by decide) q) (fun _ => ?_)
  refine lv_aload_n hx hb dX3_readAny_24 rfl (lv_at hl 0 rfl) ?_
  refine lv_aload_n hx hb dX3_readAny_25 rfl (lv_at hl 0 rfl) ?_
  refine lv_iload_n hx hb dX3_readAny_26 rfl (lv_at hl 1 rfl) ?_
  refine lv_iload_n hx hb dX3_readAny_27 rfl (lv_at hl 2 rfl) ?_
  refine vp_callSi (tc_CR (va_runV (As := [.int (nI j), .int i]) (rest := [.ref m0]) ⟨hx, hb, hml, hown, hts⟩ (tX3_codeOf_ l D A cI cJ cD cC x0 x1 x2 x3 x4 Z m0 m1 m2 m3 m4 m5 0 n K Ln Wh Re cd ct H.size hI j hj i) (cwV 2 hts gX3_readAny_X3_codeOf_ rfl rfl rfl (by decide +kernel) ⟨Nat.le_of_ble_eq_true rfl, Nat.le_of_ble_eq_true rfl⟩) ⟨tcP.blind, (va_recv hK hP (ci := 3) (q0 := 5) rfl rfl), (tcP.go hK hP hD hE hS)⟩ rfl rfl hl.1 rfl (lv_room (Nat.le_of_ble_eq_true rfl)) dX3_readAny_28 ⟨Nat.le_of_ble_eq_true rfl, Nat.le_of_ble_eq_true rfl⟩)) (fun r_4 hr_4 => ?_)
  subst hr_4
  have z : cdR K Ln j i (K j) (K j) = (mC K Ln j i) := mC_self hkI
  refine va_calli (va_runV (As := [.int (mC K Ln j i)]) (rest := []) ⟨hx, hb, hml, hown, hts⟩ (tX3_note l D A cI cJ cD cC x0 x1 x2 x3 x4 Z m0 m1 m2 m3 m4 m5 0 n K Ln Wh Re cd ct H.size (mC K Ln j i) (z ▸ kCell_in _ _ _ _ _)) (cwV 1 hts gX3_readAny_X3_note rfl rfl rfl (by decide +kernel) ⟨Nat.le_of_ble_eq_true rfl, Nat.le_of_ble_eq_true rfl⟩) ⟨tcP.blind, (va_recv hK hP (ci := 3) (q0 := 5) rfl rfl), (tcP.go hK hP hD hE hS)⟩ rfl rfl hl.1 rfl (lv_room (Nat.le_of_ble_eq_true rfl)) dX3_readAny_31 ⟨Nat.le_of_ble_eq_true rfl, Nat.le_of_ble_eq_true rfl⟩) hS (fun q _ h => h) (fun q h => h) (fun r_5 u t H locs ht hvm hw hB hz1 hk1 hS => ?_)
  subst hw
  obtain ⟨hP, hD⟩ := hB
  rw [ht] at hP
  rw [← z] at hP hD ⊢
  have hP : va_P D vwCl (tc_Z cI cJ cD x0 x1 x2 x3 x4 Z m0 m1 m2 m3 m4 m5 0 n K Ln Wh Re (cdR K Ln j i (K j) (K j)) (noteC ct (cdR K Ln j i (K j) (K j)))) H := hP
  have hD : va_D A (tc_Z cI cJ cD x0 x1 x2 x3 x4 Z m0 m1 m2 m3 m4 m5 0 n K Ln Wh Re (cdR K Ln j i (K j) (K j)) (noteC ct (cdR K Ln j i (K j) (K j)))) := hD
  refine lv_if_eq (tgt := 46) hx hb dX3_readAny_34 (by decide) (fun c_6 => ?_) (fun c_6 => ?_)
  · refine lv_dconst0 hx hb dX3_readAny_46 ?_
    exact W.dret (v := FP.dconst0) hx hb hr (fun t9 ht9 hW9 => ⟨⟨FP.dconst0, (), rfl, by unfold rdR; rw [if_neg (tb_dn c_6)]; rfl, by rw [ht9]; exact hP, hD⟩, hS.F ht9⟩) hS.2.2 dX3_readAny_47
  · refine lv_aload_n hx hb dX3_readAny_37 rfl (lv_at hl 0 rfl) ?_
    refine lv_iload_n hx hb dX3_readAny_38 rfl (lv_at hl 1 rfl) ?_
    refine lv_iload_n hx hb dX3_readAny_39 rfl (lv_at hl 2 rfl) ?_
    have gc := tb_dp c_6
    have g0 := cdR_0 hkI hL gc
    have hi40 : vp_in i 40 := vp_in_le g0.2.2 hL
    have hq : i.toNatClampNeg < 40 := vp_in_lt hi40
    refine vp_callSd (tc_CR (va_runV (As := [.int (nI j), .int i]) (rest := []) ⟨hx, hb, hml, hown, hts⟩ (tX3_asDouble l D A cI cJ cD cC x0 x1 x2 x3 x4 Z m0 m1 m2 m3 m4 m5 0 n K Ln Wh Re (cdR K Ln j i (K j) (K j)) (noteC ct (cdR K Ln j i (K j) (K j))) H.size hI j hj i g0.2.2 g0.1) (cwV 2 hts gX3_readAny_X3_asDouble rfl rfl rfl (by decide +kernel) ⟨Nat.le_of_ble_eq_true rfl, Nat.le_of_ble_eq_true rfl⟩) ⟨tcP.blind, (va_recv hK hP (ci := 3) (q0 := 5) rfl rfl), (tcP.go hK hP hD hE hS)⟩ rfl rfl hl.1 rfl (lv_room (Nat.le_of_ble_eq_true rfl)) dX3_readAny_40 ⟨Nat.le_of_ble_eq_true rfl, Nat.le_of_ble_eq_true rfl⟩)) (fun r_7 hr_7 => ?_)
    subst hr_7
    refine lv_goto (tgt := 47) hx hb dX3_readAny_43 (by decide) ?_
    exact W.dret (v := (if kFl (K j) = true then Re (40 * j + i.toNatClampNeg) else FP.l2d (Wh (40 * j + i.toNatClampNeg)))) hx hb hr (fun t9 ht9 hW9 => ⟨⟨(if kFl (K j) = true then Re (40 * j + i.toNatClampNeg) else FP.l2d (Wh (40 * j + i.toNatClampNeg))), (), rfl, by unfold rdR; rw [if_pos gc], by rw [ht9]; exact hP, hD⟩, hS.F ht9⟩) hS.2.2 dX3_readAny_47
set_option maxHeartbeats 4000000 in
set_option maxRecDepth 100000 in
theorem tX3_readAny_n (l : Launch) (D : va_G) (A : Nat → Prop) (cI cJ cD cC : ClassId) (x0 x1 x2 x3 x4 : Nat × va_E) (Z : va_W) (m0 m1 m2 m3 m4 m5 : Nat) (th : Int32) (n : Nat) (K : Nat → Int32) (Ln : Nat → Nat) (Wh : Nat → Int64) (Re : Nat → UInt64) (cd : Int32) (ct : Nat → Int32) (sz : Nat) (hI : tcI n K Ln Wh Re) (cx : Int32) (hc : ¬ ∃ j, j < n ∧ cx = nI j) (i : Int32) : Met l yX3_readAny wsX3_readAny ({ frames := 1, cells := 0, slots := 0, locals := 21 }) (tcP D A (tcTY cI cJ cD cC) sz [.ref m0, .int cx, .int i] (tc_Z cI cJ cD x0 x1 x2 x3 x4 Z m0 m1 m2 m3 m4 m5 th n K Ln Wh Re cd ct)) (va_Qd (fun r (_ : Unit) => r = 0) (fun _ t => tcB D A (tc_Z cI cJ cD x0 x1 x2 x3 x4 Z m0 m1 m2 m3 m4 m5 1 n K Ln Wh Re cd ct) t) A) 0 0 A := by
  refine Met.ofW (cc := cX3_readAny) (maxL := 3) (ret := (some .double)) (by decide) rfl ?_
  intro p e s m args below meth c s₁ B hml hv
  obtain ⟨rfl, hsz, hP, hK, hD, hE⟩ := hv
  have hx := B.exec
  have hb := B.bytes
  have hr := B.returns
  have hts := atoms_spec (ws := wsX3_readAny) B.pre
  have hown : s.vm.findClass RX3 = some m.cls := findClass_of_methodNamed B.named
  have hlocks := B.notSynchronized
  have hl := lv_entry ([.ref m0, .int cx, .int i]) (n := 3) (Nat.le_of_ble_eq_true rfl)
  rw [lg_entry_eq]
  generalize (lg_sl ([.ref m0, .int cx, .int i]) ++ List.replicate (3 - (lg_sl ([.ref m0, .int cx, .int i])).length) Slot.unset).toArray = ls at hl ⊢
  have hl : lv_has ls 3 [(0, .ref m0), (1, .int cx), (2, .int i)] := hl
  subst hsz
  have hS : va_S A s.heap s.heap [] := va_S.rf
  have hn60 : n ≤ 60 := hI.1
  refine lv_aload_n hx hb dX3_readAny_0 rfl (lv_at hl 0 rfl) ?_
  refine lv_aload_n hx hb dX3_readAny_1 rfl (lv_at hl 0 rfl) ?_
  refine lv_iload_n hx hb dX3_readAny_2 rfl (lv_at hl 1 rfl) ?_
  refine vp_callSi (tc_CR (va_runV (As := [.int cx]) (rest := [.ref m0]) ⟨hx, hb, hml, hown, hts⟩ (tX3_isColumn_n l D A cI cJ cD cC x0 x1 x2 x3 x4 Z m0 m1 m2 m3 m4 m5 th n K Ln Wh Re cd ct s.heap.size hI cx hc) (cwV 1 hts gX3_readAny_X3_isColumn rfl rfl rfl (by decide +kernel) ⟨Nat.le_of_ble_eq_true rfl, Nat.le_of_ble_eq_true rfl⟩) ⟨tcP.blind, (va_recv hK hP (ci := 3) (q0 := 5) rfl rfl), (tcP.go hK hP hD hE hS)⟩ rfl rfl hl.1 rfl (lv_room (Nat.le_of_ble_eq_true rfl)) dX3_readAny_3 ⟨Nat.le_of_ble_eq_true rfl, Nat.le_of_ble_eq_true rfl⟩)) (fun r_1 hr_1 => ?_)
  subst hr_1
  refine lv_if_eq (tgt := 13) hx hb dX3_readAny_6 (by decide) (fun _ => ?_) (fun q => absurd (by decide) q)
  refine lv_iconst (v := 1) hx hb dX3_readAny_13 (by decide) ?_
  refine va_put (D := D) (ci := 3) (fs := [.int th, .int (nI n), .ref m1, .ref m2, .ref m3, .ref m4, .int cd, .ref m5]) (v := .int 1) (ty := .int) (C := RX3) (T := TX3) (N := 8) hx hb hts (by decide +kernel) tyX3 tyX3_ok nmX3 hown hK hP hD hS 5 rfl rfl 0 (by decide) (hts (.fieldLink RX3 27 "TypedColumnsModel" "thrown" "I") (by decide +kernel)) (fun _ h9 => h9) rfl (by decide +kernel) rfl rfl (Nat.le_of_ble_eq_true rfl) dX3_readAny_14 (fun H locs hP hD hS => ?_)
  have hP : va_P D vwCl (tc_Z cI cJ cD x0 x1 x2 x3 x4 Z m0 m1 m2 m3 m4 m5 1 n K Ln Wh Re cd ct) H := hP
  have hD : va_D A (tc_Z cI cJ cD x0 x1 x2 x3 x4 Z m0 m1 m2 m3 m4 m5 1 n K Ln Wh Re cd ct) := hD
  refine lv_aload_n hx hb dX3_readAny_17 rfl (lv_at hl 0 rfl) ?_
  refine va_get (D := D) (ci := 3) (fs := [.int 1, .int (nI n), .ref m1, .ref m2, .ref m3, .ref m4, .int cd, .ref m5]) (v := .int 1) (C := RX3) (T := TX3) (N := 8) hx hb hts (by decide +kernel) hown hK hP 5 rfl rfl 0 (by decide) (hts (.fieldLink RX3 27 "TypedColumnsModel" "thrown" "I") (by decide +kernel)) (fun _ h9 => h9) rfl dX3_readAny_18 ?_
  refine lv_if_ne (tgt := 46) hx hb dX3_readAny_21 (by decide) (fun _ => ?_) (fun q => absurd q (by decide))
  refine lv_dconst0 hx hb dX3_readAny_46 ?_
  exact W.dret (v := FP.dconst0) hx hb hr (fun t9 ht9 hW9 => ⟨⟨FP.dconst0, (), rfl, rfl, by rw [ht9]; exact hP, hD⟩, hS.F ht9⟩) hS.2.2 dX3_readAny_47
set_option maxHeartbeats 4000000 in
set_option maxRecDepth 100000 in
theorem tX3_write_w (l : Launch) (D : va_G) (A : Nat → Prop) (cI cJ cD cC : ClassId) (x0 x1 x2 x3 x4 : Nat × va_E) (Z : va_W) (m0 m1 m2 m3 m4 m5 : Nat) (th : Int32) (n : Nat) (K : Nat → Int32) (Ln : Nat → Nat) (Wh : Nat → Int64) (Re : Nat → UInt64) (cd : Int32) (ct : Nat → Int32) (sz : Nat) (hI : tcI n K Ln Wh Re) (j : Nat) (hj : j < n) (i kd : Int32) (v : Int64) (x : UInt64) (hkd : kReal kd = false) : Met l yX3_write wsX3_write ({ frames := 2, cells := 0, slots := 0, locals := 43 }) (tcP D A (tcTY cI cJ cD cC) sz [.ref m0, .int (nI j), .int i, .int kd, .long v, .double x] (tc_Z cI cJ cD x0 x1 x2 x3 x4 Z m0 m1 m2 m3 m4 m5 th n K Ln Wh Re cd ct)) (va_Qi (fun r (_ : Unit) => r = cdR K Ln j i kd (K j)) (fun _ t => tcB D A (tc_Z cI cJ cD x0 x1 x2 x3 x4 Z m0 m1 m2 m3 m4 m5 0 n K Ln (wrW K Ln Wh j i kd v) (wrR K Ln Re j i kd v) (cdR K Ln j i kd (K j)) (noteC ct (cdR K Ln j i kd (K j)))) t) A) 0 0 A := by
  refine Met.ofW (cc := cX3_write) (maxL := 9) (ret := (some .int)) (by decide) rfl ?_
  intro p e s m args below meth c s₁ B hml hv
  obtain ⟨rfl, hsz, hP, hK, hD, hE⟩ := hv
  have hx := B.exec
  have hb := B.bytes
  have hr := B.returns
  have hts := atoms_spec (ws := wsX3_write) B.pre
  have hown : s.vm.findClass RX3 = some m.cls := findClass_of_methodNamed B.named
  have hlocks := B.notSynchronized
  have hl := lv_entry ([.ref m0, .int (nI j), .int i, .int kd, .long v, .double x]) (n := 9) (Nat.le_of_ble_eq_true rfl)
  rw [lg_entry_eq]
  generalize (lg_sl ([.ref m0, .int (nI j), .int i, .int kd, .long v, .double x]) ++ List.replicate (9 - (lg_sl ([.ref m0, .int (nI j), .int i, .int kd, .long v, .double x])).length) Slot.unset).toArray = ls at hl ⊢
  have hl : lv_has ls 9 [(0, .ref m0), (1, .int (nI j)), (2, .int i), (3, .int kd), (4, .long v), (6, .double x)] := hl
  subst hsz
  have hS : va_S A s.heap s.heap [] := va_S.rf
  have hn60 : n ≤ 60 := hI.1
  have hkI := (hI.2.1 j hj).1
  have hL := (hI.2.1 j hj).2.1
  refine lv_aload_n hx hb dX3_write_0 rfl (lv_at hl 0 rfl) ?_
  refine lv_aload_n hx hb dX3_write_1 rfl (lv_at hl 0 rfl) ?_
  refine lv_iload_n hx hb dX3_write_2 rfl (lv_at hl 1 rfl) ?_
  refine vp_callSi (tc_CR (va_runV (As := [.int (nI j)]) (rest := [.ref m0]) ⟨hx, hb, hml, hown, hts⟩ (tX3_isColumn_y l D A cI cJ cD cC x0 x1 x2 x3 x4 Z m0 m1 m2 m3 m4 m5 th n K Ln Wh Re cd ct s.heap.size hI j hj) (cwV 1 hts gX3_write_X3_isColumn rfl rfl rfl (by decide +kernel) ⟨Nat.le_of_ble_eq_true rfl, Nat.le_of_ble_eq_true rfl⟩) ⟨tcP.blind, (va_recv hK hP (ci := 3) (q0 := 5) rfl rfl), (tcP.go hK hP hD hE hS)⟩ rfl rfl hl.1 rfl (lv_room (Nat.le_of_ble_eq_true rfl)) dX3_write_3 ⟨Nat.le_of_ble_eq_true rfl, Nat.le_of_ble_eq_true rfl⟩)) (fun r_1 hr_1 => ?_)
  subst hr_1
  refine lv_if_eq (tgt := 13) hx hb dX3_write_6 (by decide) (fun q => absurd q (by decide)) (fun _ => ?_)
  refine lv_iconst (v := 0) hx hb dX3_write_9 (by decide) ?_
  refine lv_goto (tgt := 14) hx hb dX3_write_10 (by decide) ?_
  refine va_put (D := D) (ci := 3) (fs := [.int th, .int (nI n), .ref m1, .ref m2, .ref m3, .ref m4, .int cd, .ref m5]) (v := .int 0) (ty := .int) (C := RX3) (T := TX3) (N := 8) hx hb hts (by decide +kernel) tyX3 tyX3_ok nmX3 hown hK hP hD hS 5 rfl rfl 0 (by decide) (hts (.fieldLink RX3 27 "TypedColumnsModel" "thrown" "I") (by decide +kernel)) (fun _ h9 => h9) rfl (by decide +kernel) rfl rfl (Nat.le_of_ble_eq_true rfl) dX3_write_14 (fun H locs hP hD hS => ?_)
  have hP : va_P D vwCl (tc_Z cI cJ cD x0 x1 x2 x3 x4 Z m0 m1 m2 m3 m4 m5 0 n K Ln Wh Re cd ct) H := hP
  have hD : va_D A (tc_Z cI cJ cD x0 x1 x2 x3 x4 Z m0 m1 m2 m3 m4 m5 0 n K Ln Wh Re cd ct) := hD
  refine lv_aload_n hx hb dX3_write_17 rfl (lv_at hl 0 rfl) ?_
  refine va_get (D := D) (ci := 3) (fs := [.int 0, .int (nI n), .ref m1, .ref m2, .ref m3, .ref m4, .int cd, .ref m5]) (v := .int 0) (C := RX3) (T := TX3) (N := 8) hx hb hts (by decide +kernel) hown hK hP 5 rfl rfl 0 (by decide) (hts (.fieldLink RX3 27 "TypedColumnsModel" "thrown" "I") (by decide +kernel)) (fun _ h9 => h9) rfl dX3_write_18 ?_
  refine lv_if_eq (tgt := 26) hx hb dX3_write_21 (by decide) (fun _ => ?_) (fun q => absurd (by decide) q)
  refine lv_aload_n hx hb dX3_write_26 rfl (lv_at hl 0 rfl) ?_
  refine lv_iload_n hx hb dX3_write_27 rfl (lv_at hl 1 rfl) ?_
  refine lv_iload_n hx hb dX3_write_28 rfl (lv_at hl 2 rfl) ?_
  refine vp_callSi (tc_CR (va_runV (As := [.int (nI j), .int i]) (rest := []) ⟨hx, hb, hml, hown, hts⟩ (tX3_codeOf_ l D A cI cJ cD cC x0 x1 x2 x3 x4 Z m0 m1 m2 m3 m4 m5 0 n K Ln Wh Re cd ct H.size hI j hj i) (cwV 2 hts gX3_write_X3_codeOf_ rfl rfl rfl (by decide +kernel) ⟨Nat.le_of_ble_eq_true rfl, Nat.le_of_ble_eq_true rfl⟩) ⟨tcP.blind, (va_recv hK hP (ci := 3) (q0 := 5) rfl rfl), (tcP.go hK hP hD hE hS)⟩ rfl rfl hl.1 rfl (lv_room (Nat.le_of_ble_eq_true rfl)) dX3_write_29 ⟨Nat.le_of_ble_eq_true rfl, Nat.le_of_ble_eq_true rfl⟩)) (fun r_4 hr_4 => ?_)
  subst hr_4
  refine lv_istore (lv' := [(8, .int (mC K Ln j i)), (0, .ref m0), (1, .int (nI j)), (2, .int i), (3, .int kd), (4, .long v), (6, .double x)]) hx hb dX3_write_32 hl (by decide) rfl (fun ls hl => ?_)
  refine lv_aload_n hx hb dX3_write_34 rfl (lv_at hl 1 rfl) ?_
  refine lv_iload hx hb dX3_write_35 (lv_at hl 0 rfl) ?_
  refine lv_if_ne (tgt := 57) hx hb dX3_write_37 (by decide) (fun c_5 => ?_) (fun c_5 => ?_)
  · refine lv_iload hx hb dX3_write_57 (lv_at hl 0 rfl) ?_
    have z : cdR K Ln j i kd (K j) = (mC K Ln j i) := by rw [cdR_mC hkI, if_neg c_5]
    refine va_calli (va_runV (As := [.int (mC K Ln j i)]) (rest := []) ⟨hx, hb, hml, hown, hts⟩ (tX3_note l D A cI cJ cD cC x0 x1 x2 x3 x4 Z m0 m1 m2 m3 m4 m5 0 n K Ln Wh Re cd ct H.size (mC K Ln j i) (z ▸ kCell_in _ _ _ _ _)) (cwV 1 hts gX3_write_X3_note rfl rfl rfl (by decide +kernel) ⟨Nat.le_of_ble_eq_true rfl, Nat.le_of_ble_eq_true rfl⟩) ⟨tcP.blind, (va_recv hK hP (ci := 3) (q0 := 5) rfl rfl), (tcP.go hK hP hD hE hS)⟩ rfl rfl hl.1 rfl (lv_room (Nat.le_of_ble_eq_true rfl)) dX3_write_59 ⟨Nat.le_of_ble_eq_true rfl, Nat.le_of_ble_eq_true rfl⟩) hS (fun q _ h => h) (fun q h => h) (fun r_6 u t H locs ht hvm hw hB hz1 hk1 hS => ?_)
    subst hw
    obtain ⟨hP, hD⟩ := hB
    rw [ht] at hP
    have hP : va_P D vwCl (tc_Z cI cJ cD x0 x1 x2 x3 x4 Z m0 m1 m2 m3 m4 m5 0 n K Ln Wh Re (cdR K Ln j i kd (K j)) (noteC ct (cdR K Ln j i kd (K j)))) H := by rw [z]; exact hP
    have hD : va_D A (tc_Z cI cJ cD x0 x1 x2 x3 x4 Z m0 m1 m2 m3 m4 m5 0 n K Ln Wh Re (cdR K Ln j i kd (K j)) (noteC ct (cdR K Ln j i kd (K j)))) := by rw [z]; exact hD
    refine lv_if_ne (tgt := 70) hx hb dX3_write_62 (by decide) (fun q => absurd (tb_nd c_5) q) (fun _ => ?_)
    refine lv_aload_n hx hb dX3_write_65 rfl (lv_at hl 1 rfl) ?_
    refine va_get (D := D) (ci := 3) (fs := [.int 0, .int (nI n), .ref m1, .ref m2, .ref m3, .ref m4, .int (cdR K Ln j i kd (K j)), .ref m5]) (v := .int (cdR K Ln j i kd (K j))) (C := RX3) (T := TX3) (N := 8) hx hb hts (by decide +kernel) hown hK hP 5 rfl rfl 6 (by decide) (hts (.fieldLink RX3 38 "TypedColumnsModel" "code" "I") (by decide +kernel)) (fun _ h9 => h9) rfl dX3_write_66 ?_
    have gn : ¬ cdR K Ln j i kd (K j) = 0 := by rw [z]; exact c_5
    have y1 : wrW K Ln Wh j i kd v = Wh := by unfold wrW; rw [if_neg gn]
    have y2 : wrR K Ln Re j i kd v = Re := by unfold wrR; rw [if_neg gn]
    have hP : va_P D vwCl (tc_Z cI cJ cD x0 x1 x2 x3 x4 Z m0 m1 m2 m3 m4 m5 0 n K Ln (wrW K Ln Wh j i kd v) (wrR K Ln Re j i kd v) (cdR K Ln j i kd (K j)) (noteC ct (cdR K Ln j i kd (K j)))) H := by rw [y1, y2]; exact hP
    have hD : va_D A (tc_Z cI cJ cD x0 x1 x2 x3 x4 Z m0 m1 m2 m3 m4 m5 0 n K Ln (wrW K Ln Wh j i kd v) (wrR K Ln Re j i kd v) (cdR K Ln j i kd (K j)) (noteC ct (cdR K Ln j i kd (K j)))) := by rw [y1, y2]; exact hD
    exact W.iret (v := cdR K Ln j i kd (K j)) hx hb hr (fun t9 ht9 hW9 => ⟨⟨cdR K Ln j i kd (K j), (), rfl, rfl, by rw [ht9]; exact hP, hD⟩, hS.F ht9⟩) hS.2.2 dX3_write_69
  · refine lv_iload_n hx hb dX3_write_40 rfl (lv_at hl 4 rfl) ?_
    refine lv_aload_n hx hb dX3_write_41 rfl (lv_at hl 1 rfl) ?_
    refine va_get (D := D) (ci := 3) (fs := [.int 0, .int (nI n), .ref m1, .ref m2, .ref m3, .ref m4, .int cd, .ref m5]) (v := .ref m1) (C := RX3) (T := TX3) (N := 8) hx hb hts (by decide +kernel) hown hK hP 5 rfl rfl 2 (by decide) (hts (.fieldLink RX3 9 "TypedColumnsModel" "kinds" "[I") (by decide +kernel)) (fun _ h9 => h9) rfl dX3_write_42 ?_
    refine lv_iload_n hx hb dX3_write_45 rfl (lv_at hl 2 rfl) ?_
    refine tc_iald (f := K) (v := (K j)) hx hb hK hP 6 0 rfl rfl (vp_in_nI (show j < 60 by omega) (by decide)) (by rw [nI_clamp (show j < 2 ^ 31 by omega)]) dX3_write_46 ?_
    refine vp_callSi (W.runS (As := [.int kd, .int (K j)]) (rest := [.ref m0]) ⟨hx, hb, hml, hown, hts⟩ (kX3_widens l kd (K j)) (va_cwS 2 hts gX3_write_X3_widens rfl rfl rfl (by decide +kernel) ⟨Nat.le_of_ble_eq_true rfl, Nat.le_of_ble_eq_true rfl⟩) ⟨fun a U g mk q => q, fun U hU hW => ⟨rfl, trivial⟩⟩ rfl rfl hl.1 rfl (lv_room (Nat.le_of_ble_eq_true rfl)) dX3_write_47 ⟨Nat.zero_le _, Nat.zero_le _⟩) (fun r_8 hr_8 => ?_)
    subst hr_8
    refine lv_if_ne (tgt := 57) hx hb dX3_write_50 (by decide) (fun c_9 => ?_) (fun c_9 => ?_)
    · refine lv_iload hx hb dX3_write_57 (lv_at hl 0 rfl) ?_
      have z : cdR K Ln j i kd (K j) = (mC K Ln j i) := by rw [cdR_mC hkI, if_pos c_5, if_pos ((tb_1 _).mp c_9), c_5]
      refine va_calli (va_runV (As := [.int (mC K Ln j i)]) (rest := []) ⟨hx, hb, hml, hown, hts⟩ (tX3_note l D A cI cJ cD cC x0 x1 x2 x3 x4 Z m0 m1 m2 m3 m4 m5 0 n K Ln Wh Re cd ct H.size (mC K Ln j i) (z ▸ kCell_in _ _ _ _ _)) (cwV 1 hts gX3_write_X3_note rfl rfl rfl (by decide +kernel) ⟨Nat.le_of_ble_eq_true rfl, Nat.le_of_ble_eq_true rfl⟩) ⟨tcP.blind, (va_recv hK hP (ci := 3) (q0 := 5) rfl rfl), (tcP.go hK hP hD hE hS)⟩ rfl rfl hl.1 rfl (lv_room (Nat.le_of_ble_eq_true rfl)) dX3_write_59 ⟨Nat.le_of_ble_eq_true rfl, Nat.le_of_ble_eq_true rfl⟩) hS (fun q _ h => h) (fun q h => h) (fun r_10 u t H locs ht hvm hw hB hz1 hk1 hS => ?_)
      subst hw
      obtain ⟨hP, hD⟩ := hB
      rw [ht] at hP
      have hP : va_P D vwCl (tc_Z cI cJ cD x0 x1 x2 x3 x4 Z m0 m1 m2 m3 m4 m5 0 n K Ln Wh Re (cdR K Ln j i kd (K j)) (noteC ct (cdR K Ln j i kd (K j)))) H := by rw [z]; exact hP
      have hD : va_D A (tc_Z cI cJ cD x0 x1 x2 x3 x4 Z m0 m1 m2 m3 m4 m5 0 n K Ln Wh Re (cdR K Ln j i kd (K j)) (noteC ct (cdR K Ln j i kd (K j)))) := by rw [z]; exact hD
      refine lv_if_ne (tgt := 70) hx hb dX3_write_62 (by decide) (fun _ => ?_) (fun q => absurd q (tb_d c_5))
      have gc : cdR K Ln j i kd (K j) = 0 := z.trans c_5
      have g0 := cdR_0 hkI hL gc
      have hi40 : vp_in i 40 := vp_in_le g0.2.2 hL
      have hq : i.toNatClampNeg < 40 := vp_in_lt hi40
      refine lv_aload_n hx hb dX3_write_70 rfl (lv_at hl 1 rfl) ?_
      refine va_get (D := D) (ci := 3) (fs := [.int 0, .int (nI n), .ref m1, .ref m2, .ref m3, .ref m4, .int (cdR K Ln j i kd (K j)), .ref m5]) (v := .ref m1) (C := RX3) (T := TX3) (N := 8) hx hb hts (by decide +kernel) hown hK hP 5 rfl rfl 2 (by decide) (hts (.fieldLink RX3 9 "TypedColumnsModel" "kinds" "[I") (by decide +kernel)) (fun _ h9 => h9) rfl dX3_write_71 ?_
      refine lv_iload_n hx hb dX3_write_74 rfl (lv_at hl 2 rfl) ?_
      refine tc_iald (f := K) (v := (K j)) hx hb hK hP 6 0 rfl rfl (vp_in_nI (show j < 60 by omega) (by decide)) (by rw [nI_clamp (show j < 2 ^ 31 by omega)]) dX3_write_75 ?_
      refine vp_callSi (W.runS (As := [.int (K j)]) (rest := []) ⟨hx, hb, hml, hown, hts⟩ (kX3_isReal l (K j)) (va_cwS 1 hts gX3_write_X3_isReal rfl rfl rfl (by decide +kernel) ⟨Nat.le_of_ble_eq_true rfl, Nat.le_of_ble_eq_true rfl⟩) ⟨fun a U g mk q => q, fun U hU hW => ⟨rfl, trivial⟩⟩ rfl rfl hl.1 rfl (lv_room (Nat.le_of_ble_eq_true rfl)) dX3_write_76 ⟨Nat.zero_le _, Nat.zero_le _⟩) (fun r_12 hr_12 => ?_)
      subst hr_12
      refine lv_if_ne (tgt := 97) hx hb dX3_write_79 (by decide) (fun c_13 => ?_) (fun c_13 => ?_)
      · refine lv_iload_n hx hb dX3_write_97 rfl (lv_at hl 4 rfl) ?_
        refine vp_callSi (W.runS (As := [.int kd]) (rest := []) ⟨hx, hb, hml, hown, hts⟩ (kX3_isReal l kd) (va_cwS 1 hts gX3_write_X3_isReal rfl rfl rfl (by decide +kernel) ⟨Nat.le_of_ble_eq_true rfl, Nat.le_of_ble_eq_true rfl⟩) ⟨fun a U g mk q => q, fun U hU hW => ⟨rfl, trivial⟩⟩ rfl rfl hl.1 rfl (lv_room (Nat.le_of_ble_eq_true rfl)) dX3_write_98 ⟨Nat.zero_le _, Nat.zero_le _⟩) (fun r_14 hr_14 => ?_)
        subst hr_14
        refine lv_if_eq (tgt := 119) hx hb dX3_write_101 (by decide) (fun _ => ?_) (fun q => absurd ((tb_0 _).mpr hkd) q)
        refine lv_aload_n hx hb dX3_write_119 rfl (lv_at hl 1 rfl) ?_
        refine va_get (D := D) (ci := 3) (fs := [.int 0, .int (nI n), .ref m1, .ref m2, .ref m3, .ref m4, .int (cdR K Ln j i kd (K j)), .ref m5]) (v := .ref m4) (C := RX3) (T := TX3) (N := 8) hx hb hts (by decide +kernel) hown hK hP 5 rfl rfl 5 (by decide) (hts (.fieldLink RX3 20 "TypedColumnsModel" "real" "[D") (by decide +kernel)) (fun _ h9 => h9) rfl dX3_write_120 ?_
        refine lv_iload_n hx hb dX3_write_123 rfl (lv_at hl 2 rfl) ?_
        refine lv_iload_n hx hb dX3_write_124 rfl (lv_at hl 3 rfl) ?_
        refine vp_callSi (W.runS (As := [.int (nI j), .int i]) (rest := [.ref m4]) ⟨hx, hb, hml, hown, hts⟩ (kX3_at l (nI j) i) (va_cwS 2 hts gX3_write_X3_at rfl rfl rfl (by decide +kernel) ⟨Nat.le_of_ble_eq_true rfl, Nat.le_of_ble_eq_true rfl⟩) ⟨fun a U g mk q => q, fun U hU hW => ⟨rfl, trivial⟩⟩ rfl rfl hl.1 rfl (lv_room (Nat.le_of_ble_eq_true rfl)) dX3_write_125 ⟨Nat.zero_le _, Nat.zero_le _⟩) (fun r_16 hr_16 => ?_)
        subst hr_16
        rw [at_nI hi40]
        refine lv_aload_n hx hb dX3_write_128 rfl (lv_at hl 1 rfl) ?_
        refine va_get (D := D) (ci := 3) (fs := [.int 0, .int (nI n), .ref m1, .ref m2, .ref m3, .ref m4, .int (cdR K Ln j i kd (K j)), .ref m5]) (v := .ref m1) (C := RX3) (T := TX3) (N := 8) hx hb hts (by decide +kernel) hown hK hP 5 rfl rfl 2 (by decide) (hts (.fieldLink RX3 9 "TypedColumnsModel" "kinds" "[I") (by decide +kernel)) (fun _ h9 => h9) rfl dX3_write_129 ?_
        refine lv_iload_n hx hb dX3_write_132 rfl (lv_at hl 2 rfl) ?_
        refine tc_iald (f := K) (v := (K j)) hx hb hK hP 6 0 rfl rfl (vp_in_nI (show j < 60 by omega) (by decide)) (by rw [nI_clamp (show j < 2 ^ 31 by omega)]) dX3_write_133 ?_
        refine lv_bipush (v := 7) hx hb dX3_write_134 (by decide) ?_
        refine lv_icmp_ne (tgt := 146) hx hb dX3_write_136 (by decide) (fun c_17 => ?_) (fun c_17 => ?_)
        · refine lv_lload hx hb dX3_write_146 (lv_at hl 5 rfl) ?_
          refine lv_l2d hx hb dX3_write_148 ?_
          refine va_dast (f := Re) hx hb hK hP hD hS 9 2 rfl rfl (vp_in_nI (show (40 * j + i.toNatClampNeg) < 2400 by omega) (by decide)) dX3_write_149 (fun H locs hP hD hS => ?_)
          rw [nI_clamp (show (40 * j + i.toNatClampNeg) < 2 ^ 31 by omega)] at hP hD
          have hP : va_P D vwCl (tc_Z cI cJ cD x0 x1 x2 x3 x4 Z m0 m1 m2 m3 m4 m5 0 n K Ln Wh (vf_upd Re (40 * j + i.toNatClampNeg) (FP.l2d v)) (cdR K Ln j i kd (K j)) (noteC ct (cdR K Ln j i kd (K j)))) H := hP
          have hD : va_D A (tc_Z cI cJ cD x0 x1 x2 x3 x4 Z m0 m1 m2 m3 m4 m5 0 n K Ln Wh (vf_upd Re (40 * j + i.toNatClampNeg) (FP.l2d v)) (cdR K Ln j i kd (K j)) (noteC ct (cdR K Ln j i kd (K j)))) := hD
          refine lv_aload_n hx hb dX3_write_150 rfl (lv_at hl 1 rfl) ?_
          refine va_get (D := D) (ci := 3) (fs := [.int 0, .int (nI n), .ref m1, .ref m2, .ref m3, .ref m4, .int (cdR K Ln j i kd (K j)), .ref m5]) (v := .int (cdR K Ln j i kd (K j))) (C := RX3) (T := TX3) (N := 8) hx hb hts (by decide +kernel) hown hK hP 5 rfl rfl 6 (by decide) (hts (.fieldLink RX3 38 "TypedColumnsModel" "code" "I") (by decide +kernel)) (fun _ h9 => h9) rfl dX3_write_151 ?_
          have y1 : wrW K Ln Wh j i kd v = Wh := by unfold wrW; rw [if_pos gc, if_pos ((kReal_has g0.1).symm.trans ((tb_1 _).mp c_13))]
          have y2 : wrR K Ln Re j i kd v = (vf_upd Re (40 * j + i.toNatClampNeg) (FP.l2d v)) := by unfold wrR; rw [if_pos gc, if_pos ((kReal_has g0.1).symm.trans ((tb_1 _).mp c_13)), if_neg c_17]
          have hP : va_P D vwCl (tc_Z cI cJ cD x0 x1 x2 x3 x4 Z m0 m1 m2 m3 m4 m5 0 n K Ln (wrW K Ln Wh j i kd v) (wrR K Ln Re j i kd v) (cdR K Ln j i kd (K j)) (noteC ct (cdR K Ln j i kd (K j)))) H := by rw [y1, y2]; exact hP
          have hD : va_D A (tc_Z cI cJ cD x0 x1 x2 x3 x4 Z m0 m1 m2 m3 m4 m5 0 n K Ln (wrW K Ln Wh j i kd v) (wrR K Ln Re j i kd v) (cdR K Ln j i kd (K j)) (noteC ct (cdR K Ln j i kd (K j)))) := by rw [y1, y2]; exact hD
          exact W.iret (v := cdR K Ln j i kd (K j)) hx hb hr (fun t9 ht9 hW9 => ⟨⟨cdR K Ln j i kd (K j), (), rfl, rfl, by rw [ht9]; exact hP, hD⟩, hS.F ht9⟩) hS.2.2 dX3_write_154
        · refine lv_lload hx hb dX3_write_139 (lv_at hl 5 rfl) ?_
          refine lv_l2f hx hb dX3_write_141 ?_
          refine lv_f2d hx hb dX3_write_142 ((tf_n64 _).mpr (tf_f2d (tf_l2f v))) ?_
          refine lv_goto (tgt := 149) hx hb dX3_write_143 (by decide) ?_
          refine va_dast (f := Re) hx hb hK hP hD hS 9 2 rfl rfl (vp_in_nI (show (40 * j + i.toNatClampNeg) < 2400 by omega) (by decide)) dX3_write_149 (fun H locs hP hD hS => ?_)
          rw [nI_clamp (show (40 * j + i.toNatClampNeg) < 2 ^ 31 by omega)] at hP hD
          have hP : va_P D vwCl (tc_Z cI cJ cD x0 x1 x2 x3 x4 Z m0 m1 m2 m3 m4 m5 0 n K Ln Wh (vf_upd Re (40 * j + i.toNatClampNeg) (FP.f2d (FP.l2f v))) (cdR K Ln j i kd (K j)) (noteC ct (cdR K Ln j i kd (K j)))) H := hP
          have hD : va_D A (tc_Z cI cJ cD x0 x1 x2 x3 x4 Z m0 m1 m2 m3 m4 m5 0 n K Ln Wh (vf_upd Re (40 * j + i.toNatClampNeg) (FP.f2d (FP.l2f v))) (cdR K Ln j i kd (K j)) (noteC ct (cdR K Ln j i kd (K j)))) := hD
          refine lv_aload_n hx hb dX3_write_150 rfl (lv_at hl 1 rfl) ?_
          refine va_get (D := D) (ci := 3) (fs := [.int 0, .int (nI n), .ref m1, .ref m2, .ref m3, .ref m4, .int (cdR K Ln j i kd (K j)), .ref m5]) (v := .int (cdR K Ln j i kd (K j))) (C := RX3) (T := TX3) (N := 8) hx hb hts (by decide +kernel) hown hK hP 5 rfl rfl 6 (by decide) (hts (.fieldLink RX3 38 "TypedColumnsModel" "code" "I") (by decide +kernel)) (fun _ h9 => h9) rfl dX3_write_151 ?_
          have y1 : wrW K Ln Wh j i kd v = Wh := by unfold wrW; rw [if_pos gc, if_pos ((kReal_has g0.1).symm.trans ((tb_1 _).mp c_13))]
          have y2 : wrR K Ln Re j i kd v = (vf_upd Re (40 * j + i.toNatClampNeg) (FP.f2d (FP.l2f v))) := by unfold wrR; rw [if_pos gc, if_pos ((kReal_has g0.1).symm.trans ((tb_1 _).mp c_13)), if_pos c_17]
          have hP : va_P D vwCl (tc_Z cI cJ cD x0 x1 x2 x3 x4 Z m0 m1 m2 m3 m4 m5 0 n K Ln (wrW K Ln Wh j i kd v) (wrR K Ln Re j i kd v) (cdR K Ln j i kd (K j)) (noteC ct (cdR K Ln j i kd (K j)))) H := by rw [y1, y2]; exact hP
          have hD : va_D A (tc_Z cI cJ cD x0 x1 x2 x3 x4 Z m0 m1 m2 m3 m4 m5 0 n K Ln (wrW K Ln Wh j i kd v) (wrR K Ln Re j i kd v) (cdR K Ln j i kd (K j)) (noteC ct (cdR K Ln j i kd (K j)))) := by rw [y1, y2]; exact hD
          exact W.iret (v := cdR K Ln j i kd (K j)) hx hb hr (fun t9 ht9 hW9 => ⟨⟨cdR K Ln j i kd (K j), (), rfl, rfl, by rw [ht9]; exact hP, hD⟩, hS.F ht9⟩) hS.2.2 dX3_write_154
      · refine lv_aload_n hx hb dX3_write_82 rfl (lv_at hl 1 rfl) ?_
        refine va_get (D := D) (ci := 3) (fs := [.int 0, .int (nI n), .ref m1, .ref m2, .ref m3, .ref m4, .int (cdR K Ln j i kd (K j)), .ref m5]) (v := .ref m3) (C := RX3) (T := TX3) (N := 8) hx hb hts (by decide +kernel) hown hK hP 5 rfl rfl 4 (by decide) (hts (.fieldLink RX3 16 "TypedColumnsModel" "whole" "[J") (by decide +kernel)) (fun _ h9 => h9) rfl dX3_write_83 ?_
        refine lv_iload_n hx hb dX3_write_86 rfl (lv_at hl 2 rfl) ?_
        refine lv_iload_n hx hb dX3_write_87 rfl (lv_at hl 3 rfl) ?_
        refine vp_callSi (W.runS (As := [.int (nI j), .int i]) (rest := [.ref m3]) ⟨hx, hb, hml, hown, hts⟩ (kX3_at l (nI j) i) (va_cwS 2 hts gX3_write_X3_at rfl rfl rfl (by decide +kernel) ⟨Nat.le_of_ble_eq_true rfl, Nat.le_of_ble_eq_true rfl⟩) ⟨fun a U g mk q => q, fun U hU hW => ⟨rfl, trivial⟩⟩ rfl rfl hl.1 rfl (lv_room (Nat.le_of_ble_eq_true rfl)) dX3_write_88 ⟨Nat.zero_le _, Nat.zero_le _⟩) (fun r_18 hr_18 => ?_)
        subst hr_18
        rw [at_nI hi40]
        refine lv_lload hx hb dX3_write_91 (lv_at hl 5 rfl) ?_
        refine va_last (f := Wh) hx hb hK hP hD hS 8 1 rfl rfl (vp_in_nI (show (40 * j + i.toNatClampNeg) < 2400 by omega) (by decide)) dX3_write_93 (fun H locs hP hD hS => ?_)
        rw [nI_clamp (show (40 * j + i.toNatClampNeg) < 2 ^ 31 by omega)] at hP hD
        have hP : va_P D vwCl (tc_Z cI cJ cD x0 x1 x2 x3 x4 Z m0 m1 m2 m3 m4 m5 0 n K Ln (vp_updL Wh (40 * j + i.toNatClampNeg) v) Re (cdR K Ln j i kd (K j)) (noteC ct (cdR K Ln j i kd (K j)))) H := hP
        have hD : va_D A (tc_Z cI cJ cD x0 x1 x2 x3 x4 Z m0 m1 m2 m3 m4 m5 0 n K Ln (vp_updL Wh (40 * j + i.toNatClampNeg) v) Re (cdR K Ln j i kd (K j)) (noteC ct (cdR K Ln j i kd (K j)))) := hD
        refine lv_goto (tgt := 150) hx hb dX3_write_94 (by decide) ?_
        refine lv_aload_n hx hb dX3_write_150 rfl (lv_at hl 1 rfl) ?_
        refine va_get (D := D) (ci := 3) (fs := [.int 0, .int (nI n), .ref m1, .ref m2, .ref m3, .ref m4, .int (cdR K Ln j i kd (K j)), .ref m5]) (v := .int (cdR K Ln j i kd (K j))) (C := RX3) (T := TX3) (N := 8) hx hb hts (by decide +kernel) hown hK hP 5 rfl rfl 6 (by decide) (hts (.fieldLink RX3 38 "TypedColumnsModel" "code" "I") (by decide +kernel)) (fun _ h9 => h9) rfl dX3_write_151 ?_
        have y1 : wrW K Ln Wh j i kd v = (vp_updL Wh (40 * j + i.toNatClampNeg) v) := by unfold wrW; rw [if_pos gc, if_neg (by rw [((kReal_has g0.1).symm.trans ((tb_0 _).mp c_13))]; decide)]
        have y2 : wrR K Ln Re j i kd v = Re := by unfold wrR; rw [if_pos gc, if_neg (by rw [((kReal_has g0.1).symm.trans ((tb_0 _).mp c_13))]; decide)]
        have hP : va_P D vwCl (tc_Z cI cJ cD x0 x1 x2 x3 x4 Z m0 m1 m2 m3 m4 m5 0 n K Ln (wrW K Ln Wh j i kd v) (wrR K Ln Re j i kd v) (cdR K Ln j i kd (K j)) (noteC ct (cdR K Ln j i kd (K j)))) H := by rw [y1, y2]; exact hP
        have hD : va_D A (tc_Z cI cJ cD x0 x1 x2 x3 x4 Z m0 m1 m2 m3 m4 m5 0 n K Ln (wrW K Ln Wh j i kd v) (wrR K Ln Re j i kd v) (cdR K Ln j i kd (K j)) (noteC ct (cdR K Ln j i kd (K j)))) := by rw [y1, y2]; exact hD
        exact W.iret (v := cdR K Ln j i kd (K j)) hx hb hr (fun t9 ht9 hW9 => ⟨⟨cdR K Ln j i kd (K j), (), rfl, rfl, by rw [ht9]; exact hP, hD⟩, hS.F ht9⟩) hS.2.2 dX3_write_154
    · refine lv_iconst (v := 4) hx hb dX3_write_53 (by decide) ?_
      refine lv_goto (tgt := 59) hx hb dX3_write_54 (by decide) ?_
      have z : cdR K Ln j i kd (K j) = 4 := by rw [cdR_mC hkI, if_pos c_5, if_neg (by rw [(tb_0 _).mp c_9]; decide)]
      refine va_calli (va_runV (As := [.int 4]) (rest := []) ⟨hx, hb, hml, hown, hts⟩ (tX3_note l D A cI cJ cD cC x0 x1 x2 x3 x4 Z m0 m1 m2 m3 m4 m5 0 n K Ln Wh Re cd ct H.size 4 (z ▸ kCell_in _ _ _ _ _)) (cwV 1 hts gX3_write_X3_note rfl rfl rfl (by decide +kernel) ⟨Nat.le_of_ble_eq_true rfl, Nat.le_of_ble_eq_true rfl⟩) ⟨tcP.blind, (va_recv hK hP (ci := 3) (q0 := 5) rfl rfl), (tcP.go hK hP hD hE hS)⟩ rfl rfl hl.1 rfl (lv_room (Nat.le_of_ble_eq_true rfl)) dX3_write_59 ⟨Nat.le_of_ble_eq_true rfl, Nat.le_of_ble_eq_true rfl⟩) hS (fun q _ h => h) (fun q h => h) (fun r_19 u t H locs ht hvm hw hB hz1 hk1 hS => ?_)
      subst hw
      obtain ⟨hP, hD⟩ := hB
      rw [ht] at hP
      have hP : va_P D vwCl (tc_Z cI cJ cD x0 x1 x2 x3 x4 Z m0 m1 m2 m3 m4 m5 0 n K Ln Wh Re (cdR K Ln j i kd (K j)) (noteC ct (cdR K Ln j i kd (K j)))) H := by rw [z]; exact hP
      have hD : va_D A (tc_Z cI cJ cD x0 x1 x2 x3 x4 Z m0 m1 m2 m3 m4 m5 0 n K Ln Wh Re (cdR K Ln j i kd (K j)) (noteC ct (cdR K Ln j i kd (K j)))) := by rw [z]; exact hD
      refine lv_if_ne (tgt := 70) hx hb dX3_write_62 (by decide) (fun q => absurd (by decide) q) (fun _ => ?_)
      refine lv_aload_n hx hb dX3_write_65 rfl (lv_at hl 1 rfl) ?_
      refine va_get (D := D) (ci := 3) (fs := [.int 0, .int (nI n), .ref m1, .ref m2, .ref m3, .ref m4, .int (cdR K Ln j i kd (K j)), .ref m5]) (v := .int (cdR K Ln j i kd (K j))) (C := RX3) (T := TX3) (N := 8) hx hb hts (by decide +kernel) hown hK hP 5 rfl rfl 6 (by decide) (hts (.fieldLink RX3 38 "TypedColumnsModel" "code" "I") (by decide +kernel)) (fun _ h9 => h9) rfl dX3_write_66 ?_
      have gn : ¬ cdR K Ln j i kd (K j) = 0 := by rw [z]; exact (by decide)
      have y1 : wrW K Ln Wh j i kd v = Wh := by unfold wrW; rw [if_neg gn]
      have y2 : wrR K Ln Re j i kd v = Re := by unfold wrR; rw [if_neg gn]
      have hP : va_P D vwCl (tc_Z cI cJ cD x0 x1 x2 x3 x4 Z m0 m1 m2 m3 m4 m5 0 n K Ln (wrW K Ln Wh j i kd v) (wrR K Ln Re j i kd v) (cdR K Ln j i kd (K j)) (noteC ct (cdR K Ln j i kd (K j)))) H := by rw [y1, y2]; exact hP
      have hD : va_D A (tc_Z cI cJ cD x0 x1 x2 x3 x4 Z m0 m1 m2 m3 m4 m5 0 n K Ln (wrW K Ln Wh j i kd v) (wrR K Ln Re j i kd v) (cdR K Ln j i kd (K j)) (noteC ct (cdR K Ln j i kd (K j)))) := by rw [y1, y2]; exact hD
      exact W.iret (v := cdR K Ln j i kd (K j)) hx hb hr (fun t9 ht9 hW9 => ⟨⟨cdR K Ln j i kd (K j), (), rfl, rfl, by rw [ht9]; exact hP, hD⟩, hS.F ht9⟩) hS.2.2 dX3_write_69
set_option maxHeartbeats 4000000 in
set_option maxRecDepth 100000 in
theorem tX3_write_r (l : Launch) (D : va_G) (A : Nat → Prop) (cI cJ cD cC : ClassId) (x0 x1 x2 x3 x4 : Nat × va_E) (Z : va_W) (m0 m1 m2 m3 m4 m5 : Nat) (th : Int32) (n : Nat) (K : Nat → Int32) (Ln : Nat → Nat) (Wh : Nat → Int64) (Re : Nat → UInt64) (cd : Int32) (ct : Nat → Int32) (sz : Nat) (hI : tcI n K Ln Wh Re) (j : Nat) (hj : j < n) (i kd : Int32) (v : Int64) (x : UInt64) (hkd : kReal kd = true) : Met l yX3_write wsX3_write ({ frames := 2, cells := 0, slots := 0, locals := 43 }) (tcP D A (tcTY cI cJ cD cC) sz [.ref m0, .int (nI j), .int i, .int kd, .long v, .double x] (tc_Z cI cJ cD x0 x1 x2 x3 x4 Z m0 m1 m2 m3 m4 m5 th n K Ln Wh Re cd ct)) (va_Qi (fun r (_ : Unit) => r = cdR K Ln j i kd (K j)) (fun _ t => tcB D A (tc_Z cI cJ cD x0 x1 x2 x3 x4 Z m0 m1 m2 m3 m4 m5 0 n K Ln Wh (wrX K Ln Re j i kd x) (cdR K Ln j i kd (K j)) (noteC ct (cdR K Ln j i kd (K j)))) t) A) 0 0 A := by
  refine Met.ofW (cc := cX3_write) (maxL := 9) (ret := (some .int)) (by decide) rfl ?_
  intro p e s m args below meth c s₁ B hml hv
  obtain ⟨rfl, hsz, hP, hK, hD, hE⟩ := hv
  have hx := B.exec
  have hb := B.bytes
  have hr := B.returns
  have hts := atoms_spec (ws := wsX3_write) B.pre
  have hown : s.vm.findClass RX3 = some m.cls := findClass_of_methodNamed B.named
  have hlocks := B.notSynchronized
  have hl := lv_entry ([.ref m0, .int (nI j), .int i, .int kd, .long v, .double x]) (n := 9) (Nat.le_of_ble_eq_true rfl)
  rw [lg_entry_eq]
  generalize (lg_sl ([.ref m0, .int (nI j), .int i, .int kd, .long v, .double x]) ++ List.replicate (9 - (lg_sl ([.ref m0, .int (nI j), .int i, .int kd, .long v, .double x])).length) Slot.unset).toArray = ls at hl ⊢
  have hl : lv_has ls 9 [(0, .ref m0), (1, .int (nI j)), (2, .int i), (3, .int kd), (4, .long v), (6, .double x)] := hl
  subst hsz
  have hS : va_S A s.heap s.heap [] := va_S.rf
  have hn60 : n ≤ 60 := hI.1
  have hkI := (hI.2.1 j hj).1
  have hL := (hI.2.1 j hj).2.1
  refine lv_aload_n hx hb dX3_write_0 rfl (lv_at hl 0 rfl) ?_
  refine lv_aload_n hx hb dX3_write_1 rfl (lv_at hl 0 rfl) ?_
  refine lv_iload_n hx hb dX3_write_2 rfl (lv_at hl 1 rfl) ?_
  refine vp_callSi (tc_CR (va_runV (As := [.int (nI j)]) (rest := [.ref m0]) ⟨hx, hb, hml, hown, hts⟩ (tX3_isColumn_y l D A cI cJ cD cC x0 x1 x2 x3 x4 Z m0 m1 m2 m3 m4 m5 th n K Ln Wh Re cd ct s.heap.size hI j hj) (cwV 1 hts gX3_write_X3_isColumn rfl rfl rfl (by decide +kernel) ⟨Nat.le_of_ble_eq_true rfl, Nat.le_of_ble_eq_true rfl⟩) ⟨tcP.blind, (va_recv hK hP (ci := 3) (q0 := 5) rfl rfl), (tcP.go hK hP hD hE hS)⟩ rfl rfl hl.1 rfl (lv_room (Nat.le_of_ble_eq_true rfl)) dX3_write_3 ⟨Nat.le_of_ble_eq_true rfl, Nat.le_of_ble_eq_true rfl⟩)) (fun r_1 hr_1 => ?_)
  subst hr_1
  refine lv_if_eq (tgt := 13) hx hb dX3_write_6 (by decide) (fun q => absurd q (by decide)) (fun _ => ?_)
  refine lv_iconst (v := 0) hx hb dX3_write_9 (by decide) ?_
  refine lv_goto (tgt := 14) hx hb dX3_write_10 (by decide) ?_
  refine va_put (D := D) (ci := 3) (fs := [.int th, .int (nI n), .ref m1, .ref m2, .ref m3, .ref m4, .int cd, .ref m5]) (v := .int 0) (ty := .int) (C := RX3) (T := TX3) (N := 8) hx hb hts (by decide +kernel) tyX3 tyX3_ok nmX3 hown hK hP hD hS 5 rfl rfl 0 (by decide) (hts (.fieldLink RX3 27 "TypedColumnsModel" "thrown" "I") (by decide +kernel)) (fun _ h9 => h9) rfl (by decide +kernel) rfl rfl (Nat.le_of_ble_eq_true rfl) dX3_write_14 (fun H locs hP hD hS => ?_)
  have hP : va_P D vwCl (tc_Z cI cJ cD x0 x1 x2 x3 x4 Z m0 m1 m2 m3 m4 m5 0 n K Ln Wh Re cd ct) H := hP
  have hD : va_D A (tc_Z cI cJ cD x0 x1 x2 x3 x4 Z m0 m1 m2 m3 m4 m5 0 n K Ln Wh Re cd ct) := hD
  refine lv_aload_n hx hb dX3_write_17 rfl (lv_at hl 0 rfl) ?_
  refine va_get (D := D) (ci := 3) (fs := [.int 0, .int (nI n), .ref m1, .ref m2, .ref m3, .ref m4, .int cd, .ref m5]) (v := .int 0) (C := RX3) (T := TX3) (N := 8) hx hb hts (by decide +kernel) hown hK hP 5 rfl rfl 0 (by decide) (hts (.fieldLink RX3 27 "TypedColumnsModel" "thrown" "I") (by decide +kernel)) (fun _ h9 => h9) rfl dX3_write_18 ?_
  refine lv_if_eq (tgt := 26) hx hb dX3_write_21 (by decide) (fun _ => ?_) (fun q => absurd (by decide) q)
  refine lv_aload_n hx hb dX3_write_26 rfl (lv_at hl 0 rfl) ?_
  refine lv_iload_n hx hb dX3_write_27 rfl (lv_at hl 1 rfl) ?_
  refine lv_iload_n hx hb dX3_write_28 rfl (lv_at hl 2 rfl) ?_
  refine vp_callSi (tc_CR (va_runV (As := [.int (nI j), .int i]) (rest := []) ⟨hx, hb, hml, hown, hts⟩ (tX3_codeOf_ l D A cI cJ cD cC x0 x1 x2 x3 x4 Z m0 m1 m2 m3 m4 m5 0 n K Ln Wh Re cd ct H.size hI j hj i) (cwV 2 hts gX3_write_X3_codeOf_ rfl rfl rfl (by decide +kernel) ⟨Nat.le_of_ble_eq_true rfl, Nat.le_of_ble_eq_true rfl⟩) ⟨tcP.blind, (va_recv hK hP (ci := 3) (q0 := 5) rfl rfl), (tcP.go hK hP hD hE hS)⟩ rfl rfl hl.1 rfl (lv_room (Nat.le_of_ble_eq_true rfl)) dX3_write_29 ⟨Nat.le_of_ble_eq_true rfl, Nat.le_of_ble_eq_true rfl⟩)) (fun r_4 hr_4 => ?_)
  subst hr_4
  refine lv_istore (lv' := [(8, .int (mC K Ln j i)), (0, .ref m0), (1, .int (nI j)), (2, .int i), (3, .int kd), (4, .long v), (6, .double x)]) hx hb dX3_write_32 hl (by decide) rfl (fun ls hl => ?_)
  refine lv_aload_n hx hb dX3_write_34 rfl (lv_at hl 1 rfl) ?_
  refine lv_iload hx hb dX3_write_35 (lv_at hl 0 rfl) ?_
  refine lv_if_ne (tgt := 57) hx hb dX3_write_37 (by decide) (fun c_5 => ?_) (fun c_5 => ?_)
  · refine lv_iload hx hb dX3_write_57 (lv_at hl 0 rfl) ?_
    have z : cdR K Ln j i kd (K j) = (mC K Ln j i) := by rw [cdR_mC hkI, if_neg c_5]
    refine va_calli (va_runV (As := [.int (mC K Ln j i)]) (rest := []) ⟨hx, hb, hml, hown, hts⟩ (tX3_note l D A cI cJ cD cC x0 x1 x2 x3 x4 Z m0 m1 m2 m3 m4 m5 0 n K Ln Wh Re cd ct H.size (mC K Ln j i) (z ▸ kCell_in _ _ _ _ _)) (cwV 1 hts gX3_write_X3_note rfl rfl rfl (by decide +kernel) ⟨Nat.le_of_ble_eq_true rfl, Nat.le_of_ble_eq_true rfl⟩) ⟨tcP.blind, (va_recv hK hP (ci := 3) (q0 := 5) rfl rfl), (tcP.go hK hP hD hE hS)⟩ rfl rfl hl.1 rfl (lv_room (Nat.le_of_ble_eq_true rfl)) dX3_write_59 ⟨Nat.le_of_ble_eq_true rfl, Nat.le_of_ble_eq_true rfl⟩) hS (fun q _ h => h) (fun q h => h) (fun r_6 u t H locs ht hvm hw hB hz1 hk1 hS => ?_)
    subst hw
    obtain ⟨hP, hD⟩ := hB
    rw [ht] at hP
    have hP : va_P D vwCl (tc_Z cI cJ cD x0 x1 x2 x3 x4 Z m0 m1 m2 m3 m4 m5 0 n K Ln Wh Re (cdR K Ln j i kd (K j)) (noteC ct (cdR K Ln j i kd (K j)))) H := by rw [z]; exact hP
    have hD : va_D A (tc_Z cI cJ cD x0 x1 x2 x3 x4 Z m0 m1 m2 m3 m4 m5 0 n K Ln Wh Re (cdR K Ln j i kd (K j)) (noteC ct (cdR K Ln j i kd (K j)))) := by rw [z]; exact hD
    refine lv_if_ne (tgt := 70) hx hb dX3_write_62 (by decide) (fun q => absurd (tb_nd c_5) q) (fun _ => ?_)
    refine lv_aload_n hx hb dX3_write_65 rfl (lv_at hl 1 rfl) ?_
    refine va_get (D := D) (ci := 3) (fs := [.int 0, .int (nI n), .ref m1, .ref m2, .ref m3, .ref m4, .int (cdR K Ln j i kd (K j)), .ref m5]) (v := .int (cdR K Ln j i kd (K j))) (C := RX3) (T := TX3) (N := 8) hx hb hts (by decide +kernel) hown hK hP 5 rfl rfl 6 (by decide) (hts (.fieldLink RX3 38 "TypedColumnsModel" "code" "I") (by decide +kernel)) (fun _ h9 => h9) rfl dX3_write_66 ?_
    have gn : ¬ cdR K Ln j i kd (K j) = 0 := by rw [z]; exact c_5
    have y1 : wrX K Ln Re j i kd x = Re := by unfold wrX; rw [if_neg gn]
    have hP : va_P D vwCl (tc_Z cI cJ cD x0 x1 x2 x3 x4 Z m0 m1 m2 m3 m4 m5 0 n K Ln Wh (wrX K Ln Re j i kd x) (cdR K Ln j i kd (K j)) (noteC ct (cdR K Ln j i kd (K j)))) H := by rw [y1]; exact hP
    have hD : va_D A (tc_Z cI cJ cD x0 x1 x2 x3 x4 Z m0 m1 m2 m3 m4 m5 0 n K Ln Wh (wrX K Ln Re j i kd x) (cdR K Ln j i kd (K j)) (noteC ct (cdR K Ln j i kd (K j)))) := by rw [y1]; exact hD
    exact W.iret (v := cdR K Ln j i kd (K j)) hx hb hr (fun t9 ht9 hW9 => ⟨⟨cdR K Ln j i kd (K j), (), rfl, rfl, by rw [ht9]; exact hP, hD⟩, hS.F ht9⟩) hS.2.2 dX3_write_69
  · refine lv_iload_n hx hb dX3_write_40 rfl (lv_at hl 4 rfl) ?_
    refine lv_aload_n hx hb dX3_write_41 rfl (lv_at hl 1 rfl) ?_
    refine va_get (D := D) (ci := 3) (fs := [.int 0, .int (nI n), .ref m1, .ref m2, .ref m3, .ref m4, .int cd, .ref m5]) (v := .ref m1) (C := RX3) (T := TX3) (N := 8) hx hb hts (by decide +kernel) hown hK hP 5 rfl rfl 2 (by decide) (hts (.fieldLink RX3 9 "TypedColumnsModel" "kinds" "[I") (by decide +kernel)) (fun _ h9 => h9) rfl dX3_write_42 ?_
    refine lv_iload_n hx hb dX3_write_45 rfl (lv_at hl 2 rfl) ?_
    refine tc_iald (f := K) (v := (K j)) hx hb hK hP 6 0 rfl rfl (vp_in_nI (show j < 60 by omega) (by decide)) (by rw [nI_clamp (show j < 2 ^ 31 by omega)]) dX3_write_46 ?_
    refine vp_callSi (W.runS (As := [.int kd, .int (K j)]) (rest := [.ref m0]) ⟨hx, hb, hml, hown, hts⟩ (kX3_widens l kd (K j)) (va_cwS 2 hts gX3_write_X3_widens rfl rfl rfl (by decide +kernel) ⟨Nat.le_of_ble_eq_true rfl, Nat.le_of_ble_eq_true rfl⟩) ⟨fun a U g mk q => q, fun U hU hW => ⟨rfl, trivial⟩⟩ rfl rfl hl.1 rfl (lv_room (Nat.le_of_ble_eq_true rfl)) dX3_write_47 ⟨Nat.zero_le _, Nat.zero_le _⟩) (fun r_8 hr_8 => ?_)
    subst hr_8
    refine lv_if_ne (tgt := 57) hx hb dX3_write_50 (by decide) (fun c_9 => ?_) (fun c_9 => ?_)
    · refine lv_iload hx hb dX3_write_57 (lv_at hl 0 rfl) ?_
      have z : cdR K Ln j i kd (K j) = (mC K Ln j i) := by rw [cdR_mC hkI, if_pos c_5, if_pos ((tb_1 _).mp c_9), c_5]
      refine va_calli (va_runV (As := [.int (mC K Ln j i)]) (rest := []) ⟨hx, hb, hml, hown, hts⟩ (tX3_note l D A cI cJ cD cC x0 x1 x2 x3 x4 Z m0 m1 m2 m3 m4 m5 0 n K Ln Wh Re cd ct H.size (mC K Ln j i) (z ▸ kCell_in _ _ _ _ _)) (cwV 1 hts gX3_write_X3_note rfl rfl rfl (by decide +kernel) ⟨Nat.le_of_ble_eq_true rfl, Nat.le_of_ble_eq_true rfl⟩) ⟨tcP.blind, (va_recv hK hP (ci := 3) (q0 := 5) rfl rfl), (tcP.go hK hP hD hE hS)⟩ rfl rfl hl.1 rfl (lv_room (Nat.le_of_ble_eq_true rfl)) dX3_write_59 ⟨Nat.le_of_ble_eq_true rfl, Nat.le_of_ble_eq_true rfl⟩) hS (fun q _ h => h) (fun q h => h) (fun r_10 u t H locs ht hvm hw hB hz1 hk1 hS => ?_)
      subst hw
      obtain ⟨hP, hD⟩ := hB
      rw [ht] at hP
      have hP : va_P D vwCl (tc_Z cI cJ cD x0 x1 x2 x3 x4 Z m0 m1 m2 m3 m4 m5 0 n K Ln Wh Re (cdR K Ln j i kd (K j)) (noteC ct (cdR K Ln j i kd (K j)))) H := by rw [z]; exact hP
      have hD : va_D A (tc_Z cI cJ cD x0 x1 x2 x3 x4 Z m0 m1 m2 m3 m4 m5 0 n K Ln Wh Re (cdR K Ln j i kd (K j)) (noteC ct (cdR K Ln j i kd (K j)))) := by rw [z]; exact hD
      refine lv_if_ne (tgt := 70) hx hb dX3_write_62 (by decide) (fun _ => ?_) (fun q => absurd q (tb_d c_5))
      have gc : cdR K Ln j i kd (K j) = 0 := z.trans c_5
      have g0 := cdR_0 hkI hL gc
      have hi40 : vp_in i 40 := vp_in_le g0.2.2 hL
      have hq : i.toNatClampNeg < 40 := vp_in_lt hi40
      refine lv_aload_n hx hb dX3_write_70 rfl (lv_at hl 1 rfl) ?_
      refine va_get (D := D) (ci := 3) (fs := [.int 0, .int (nI n), .ref m1, .ref m2, .ref m3, .ref m4, .int (cdR K Ln j i kd (K j)), .ref m5]) (v := .ref m1) (C := RX3) (T := TX3) (N := 8) hx hb hts (by decide +kernel) hown hK hP 5 rfl rfl 2 (by decide) (hts (.fieldLink RX3 9 "TypedColumnsModel" "kinds" "[I") (by decide +kernel)) (fun _ h9 => h9) rfl dX3_write_71 ?_
      refine lv_iload_n hx hb dX3_write_74 rfl (lv_at hl 2 rfl) ?_
      refine tc_iald (f := K) (v := (K j)) hx hb hK hP 6 0 rfl rfl (vp_in_nI (show j < 60 by omega) (by decide)) (by rw [nI_clamp (show j < 2 ^ 31 by omega)]) dX3_write_75 ?_
      refine vp_callSi (W.runS (As := [.int (K j)]) (rest := []) ⟨hx, hb, hml, hown, hts⟩ (kX3_isReal l (K j)) (va_cwS 1 hts gX3_write_X3_isReal rfl rfl rfl (by decide +kernel) ⟨Nat.le_of_ble_eq_true rfl, Nat.le_of_ble_eq_true rfl⟩) ⟨fun a U g mk q => q, fun U hU hW => ⟨rfl, trivial⟩⟩ rfl rfl hl.1 rfl (lv_room (Nat.le_of_ble_eq_true rfl)) dX3_write_76 ⟨Nat.zero_le _, Nat.zero_le _⟩) (fun r_12 hr_12 => ?_)
      subst hr_12
      refine lv_if_ne (tgt := 97) hx hb dX3_write_79 (by decide) (fun _ => ?_) (fun q => absurd q ((tb_1 _).mpr ((kReal_has g0.1).trans (kWid_high g0.2.1 ((kReal_has (kWid_has g0.2.1).1).symm.trans hkd)))))
      refine lv_iload_n hx hb dX3_write_97 rfl (lv_at hl 4 rfl) ?_
      refine vp_callSi (W.runS (As := [.int kd]) (rest := []) ⟨hx, hb, hml, hown, hts⟩ (kX3_isReal l kd) (va_cwS 1 hts gX3_write_X3_isReal rfl rfl rfl (by decide +kernel) ⟨Nat.le_of_ble_eq_true rfl, Nat.le_of_ble_eq_true rfl⟩) ⟨fun a U g mk q => q, fun U hU hW => ⟨rfl, trivial⟩⟩ rfl rfl hl.1 rfl (lv_room (Nat.le_of_ble_eq_true rfl)) dX3_write_98 ⟨Nat.zero_le _, Nat.zero_le _⟩) (fun r_14 hr_14 => ?_)
      subst hr_14
      refine lv_if_eq (tgt := 119) hx hb dX3_write_101 (by decide) (fun q => absurd q ((tb_1 _).mpr hkd)) (fun _ => ?_)
      refine lv_aload_n hx hb dX3_write_104 rfl (lv_at hl 1 rfl) ?_
      refine va_get (D := D) (ci := 3) (fs := [.int 0, .int (nI n), .ref m1, .ref m2, .ref m3, .ref m4, .int (cdR K Ln j i kd (K j)), .ref m5]) (v := .ref m4) (C := RX3) (T := TX3) (N := 8) hx hb hts (by decide +kernel) hown hK hP 5 rfl rfl 5 (by decide) (hts (.fieldLink RX3 20 "TypedColumnsModel" "real" "[D") (by decide +kernel)) (fun _ h9 => h9) rfl dX3_write_105 ?_
      refine lv_iload_n hx hb dX3_write_108 rfl (lv_at hl 2 rfl) ?_
      refine lv_iload_n hx hb dX3_write_109 rfl (lv_at hl 3 rfl) ?_
      refine vp_callSi (W.runS (As := [.int (nI j), .int i]) (rest := [.ref m4]) ⟨hx, hb, hml, hown, hts⟩ (kX3_at l (nI j) i) (va_cwS 2 hts gX3_write_X3_at rfl rfl rfl (by decide +kernel) ⟨Nat.le_of_ble_eq_true rfl, Nat.le_of_ble_eq_true rfl⟩) ⟨fun a U g mk q => q, fun U hU hW => ⟨rfl, trivial⟩⟩ rfl rfl hl.1 rfl (lv_room (Nat.le_of_ble_eq_true rfl)) dX3_write_110 ⟨Nat.zero_le _, Nat.zero_le _⟩) (fun r_16 hr_16 => ?_)
      subst hr_16
      rw [at_nI hi40]
      refine lv_dload hx hb dX3_write_113 (lv_at hl 6 rfl) ?_
      refine va_dast (f := Re) hx hb hK hP hD hS 9 2 rfl rfl (vp_in_nI (show (40 * j + i.toNatClampNeg) < 2400 by omega) (by decide)) dX3_write_115 (fun H locs hP hD hS => ?_)
      rw [nI_clamp (show (40 * j + i.toNatClampNeg) < 2 ^ 31 by omega)] at hP hD
      have hP : va_P D vwCl (tc_Z cI cJ cD x0 x1 x2 x3 x4 Z m0 m1 m2 m3 m4 m5 0 n K Ln Wh (vf_upd Re (40 * j + i.toNatClampNeg) x) (cdR K Ln j i kd (K j)) (noteC ct (cdR K Ln j i kd (K j)))) H := hP
      have hD : va_D A (tc_Z cI cJ cD x0 x1 x2 x3 x4 Z m0 m1 m2 m3 m4 m5 0 n K Ln Wh (vf_upd Re (40 * j + i.toNatClampNeg) x) (cdR K Ln j i kd (K j)) (noteC ct (cdR K Ln j i kd (K j)))) := hD
      refine lv_goto (tgt := 150) hx hb dX3_write_116 (by decide) ?_
      refine lv_aload_n hx hb dX3_write_150 rfl (lv_at hl 1 rfl) ?_
      refine va_get (D := D) (ci := 3) (fs := [.int 0, .int (nI n), .ref m1, .ref m2, .ref m3, .ref m4, .int (cdR K Ln j i kd (K j)), .ref m5]) (v := .int (cdR K Ln j i kd (K j))) (C := RX3) (T := TX3) (N := 8) hx hb hts (by decide +kernel) hown hK hP 5 rfl rfl 6 (by decide) (hts (.fieldLink RX3 38 "TypedColumnsModel" "code" "I") (by decide +kernel)) (fun _ h9 => h9) rfl dX3_write_151 ?_
      have y1 : wrX K Ln Re j i kd x = (vf_upd Re (40 * j + i.toNatClampNeg) x) := by unfold wrX; rw [if_pos gc]
      have hP : va_P D vwCl (tc_Z cI cJ cD x0 x1 x2 x3 x4 Z m0 m1 m2 m3 m4 m5 0 n K Ln Wh (wrX K Ln Re j i kd x) (cdR K Ln j i kd (K j)) (noteC ct (cdR K Ln j i kd (K j)))) H := by rw [y1]; exact hP
      have hD : va_D A (tc_Z cI cJ cD x0 x1 x2 x3 x4 Z m0 m1 m2 m3 m4 m5 0 n K Ln Wh (wrX K Ln Re j i kd x) (cdR K Ln j i kd (K j)) (noteC ct (cdR K Ln j i kd (K j)))) := by rw [y1]; exact hD
      exact W.iret (v := cdR K Ln j i kd (K j)) hx hb hr (fun t9 ht9 hW9 => ⟨⟨cdR K Ln j i kd (K j), (), rfl, rfl, by rw [ht9]; exact hP, hD⟩, hS.F ht9⟩) hS.2.2 dX3_write_154
    · refine lv_iconst (v := 4) hx hb dX3_write_53 (by decide) ?_
      refine lv_goto (tgt := 59) hx hb dX3_write_54 (by decide) ?_
      have z : cdR K Ln j i kd (K j) = 4 := by rw [cdR_mC hkI, if_pos c_5, if_neg (by rw [(tb_0 _).mp c_9]; decide)]
      refine va_calli (va_runV (As := [.int 4]) (rest := []) ⟨hx, hb, hml, hown, hts⟩ (tX3_note l D A cI cJ cD cC x0 x1 x2 x3 x4 Z m0 m1 m2 m3 m4 m5 0 n K Ln Wh Re cd ct H.size 4 (z ▸ kCell_in _ _ _ _ _)) (cwV 1 hts gX3_write_X3_note rfl rfl rfl (by decide +kernel) ⟨Nat.le_of_ble_eq_true rfl, Nat.le_of_ble_eq_true rfl⟩) ⟨tcP.blind, (va_recv hK hP (ci := 3) (q0 := 5) rfl rfl), (tcP.go hK hP hD hE hS)⟩ rfl rfl hl.1 rfl (lv_room (Nat.le_of_ble_eq_true rfl)) dX3_write_59 ⟨Nat.le_of_ble_eq_true rfl, Nat.le_of_ble_eq_true rfl⟩) hS (fun q _ h => h) (fun q h => h) (fun r_17 u t H locs ht hvm hw hB hz1 hk1 hS => ?_)
      subst hw
      obtain ⟨hP, hD⟩ := hB
      rw [ht] at hP
      have hP : va_P D vwCl (tc_Z cI cJ cD x0 x1 x2 x3 x4 Z m0 m1 m2 m3 m4 m5 0 n K Ln Wh Re (cdR K Ln j i kd (K j)) (noteC ct (cdR K Ln j i kd (K j)))) H := by rw [z]; exact hP
      have hD : va_D A (tc_Z cI cJ cD x0 x1 x2 x3 x4 Z m0 m1 m2 m3 m4 m5 0 n K Ln Wh Re (cdR K Ln j i kd (K j)) (noteC ct (cdR K Ln j i kd (K j)))) := by rw [z]; exact hD
      refine lv_if_ne (tgt := 70) hx hb dX3_write_62 (by decide) (fun q => absurd (by decide) q) (fun _ => ?_)
      refine lv_aload_n hx hb dX3_write_65 rfl (lv_at hl 1 rfl) ?_
      refine va_get (D := D) (ci := 3) (fs := [.int 0, .int (nI n), .ref m1, .ref m2, .ref m3, .ref m4, .int (cdR K Ln j i kd (K j)), .ref m5]) (v := .int (cdR K Ln j i kd (K j))) (C := RX3) (T := TX3) (N := 8) hx hb hts (by decide +kernel) hown hK hP 5 rfl rfl 6 (by decide) (hts (.fieldLink RX3 38 "TypedColumnsModel" "code" "I") (by decide +kernel)) (fun _ h9 => h9) rfl dX3_write_66 ?_
      have gn : ¬ cdR K Ln j i kd (K j) = 0 := by rw [z]; exact (by decide)
      have y1 : wrX K Ln Re j i kd x = Re := by unfold wrX; rw [if_neg gn]
      have hP : va_P D vwCl (tc_Z cI cJ cD x0 x1 x2 x3 x4 Z m0 m1 m2 m3 m4 m5 0 n K Ln Wh (wrX K Ln Re j i kd x) (cdR K Ln j i kd (K j)) (noteC ct (cdR K Ln j i kd (K j)))) H := by rw [y1]; exact hP
      have hD : va_D A (tc_Z cI cJ cD x0 x1 x2 x3 x4 Z m0 m1 m2 m3 m4 m5 0 n K Ln Wh (wrX K Ln Re j i kd x) (cdR K Ln j i kd (K j)) (noteC ct (cdR K Ln j i kd (K j)))) := by rw [y1]; exact hD
      exact W.iret (v := cdR K Ln j i kd (K j)) hx hb hr (fun t9 ht9 hW9 => ⟨⟨cdR K Ln j i kd (K j), (), rfl, rfl, by rw [ht9]; exact hP, hD⟩, hS.F ht9⟩) hS.2.2 dX3_write_69
set_option maxHeartbeats 4000000 in
set_option maxRecDepth 100000 in
theorem tX3_write_n (l : Launch) (D : va_G) (A : Nat → Prop) (cI cJ cD cC : ClassId) (x0 x1 x2 x3 x4 : Nat × va_E) (Z : va_W) (m0 m1 m2 m3 m4 m5 : Nat) (th : Int32) (n : Nat) (K : Nat → Int32) (Ln : Nat → Nat) (Wh : Nat → Int64) (Re : Nat → UInt64) (cd : Int32) (ct : Nat → Int32) (sz : Nat) (hI : tcI n K Ln Wh Re) (cx : Int32) (hc : ¬ ∃ j, j < n ∧ cx = nI j) (i kd : Int32) (v : Int64) (x : UInt64) : Met l yX3_write wsX3_write ({ frames := 1, cells := 0, slots := 0, locals := 21 }) (tcP D A (tcTY cI cJ cD cC) sz [.ref m0, .int cx, .int i, .int kd, .long v, .double x] (tc_Z cI cJ cD x0 x1 x2 x3 x4 Z m0 m1 m2 m3 m4 m5 th n K Ln Wh Re cd ct)) (va_Qi (fun r (_ : Unit) => r = 0) (fun _ t => tcB D A (tc_Z cI cJ cD x0 x1 x2 x3 x4 Z m0 m1 m2 m3 m4 m5 1 n K Ln Wh Re cd ct) t) A) 0 0 A := by
  refine Met.ofW (cc := cX3_write) (maxL := 9) (ret := (some .int)) (by decide) rfl ?_
  intro p e s m args below meth c s₁ B hml hv
  obtain ⟨rfl, hsz, hP, hK, hD, hE⟩ := hv
  have hx := B.exec
  have hb := B.bytes
  have hr := B.returns
  have hts := atoms_spec (ws := wsX3_write) B.pre
  have hown : s.vm.findClass RX3 = some m.cls := findClass_of_methodNamed B.named
  have hlocks := B.notSynchronized
  have hl := lv_entry ([.ref m0, .int cx, .int i, .int kd, .long v, .double x]) (n := 9) (Nat.le_of_ble_eq_true rfl)
  rw [lg_entry_eq]
  generalize (lg_sl ([.ref m0, .int cx, .int i, .int kd, .long v, .double x]) ++ List.replicate (9 - (lg_sl ([.ref m0, .int cx, .int i, .int kd, .long v, .double x])).length) Slot.unset).toArray = ls at hl ⊢
  have hl : lv_has ls 9 [(0, .ref m0), (1, .int cx), (2, .int i), (3, .int kd), (4, .long v), (6, .double x)] := hl
  subst hsz
  have hS : va_S A s.heap s.heap [] := va_S.rf
  have hn60 : n ≤ 60 := hI.1
  refine lv_aload_n hx hb dX3_write_0 rfl (lv_at hl 0 rfl) ?_
  refine lv_aload_n hx hb dX3_write_1 rfl (lv_at hl 0 rfl) ?_
  refine lv_iload_n hx hb dX3_write_2 rfl (lv_at hl 1 rfl) ?_
  refine vp_callSi (tc_CR (va_runV (As := [.int cx]) (rest := [.ref m0]) ⟨hx, hb, hml, hown, hts⟩ (tX3_isColumn_n l D A cI cJ cD cC x0 x1 x2 x3 x4 Z m0 m1 m2 m3 m4 m5 th n K Ln Wh Re cd ct s.heap.size hI cx hc) (cwV 1 hts gX3_write_X3_isColumn rfl rfl rfl (by decide +kernel) ⟨Nat.le_of_ble_eq_true rfl, Nat.le_of_ble_eq_true rfl⟩) ⟨tcP.blind, (va_recv hK hP (ci := 3) (q0 := 5) rfl rfl), (tcP.go hK hP hD hE hS)⟩ rfl rfl hl.1 rfl (lv_room (Nat.le_of_ble_eq_true rfl)) dX3_write_3 ⟨Nat.le_of_ble_eq_true rfl, Nat.le_of_ble_eq_true rfl⟩)) (fun r_1 hr_1 => ?_)
  subst hr_1
  refine lv_if_eq (tgt := 13) hx hb dX3_write_6 (by decide) (fun _ => ?_) (fun q => absurd (by decide) q)
  refine lv_iconst (v := 1) hx hb dX3_write_13 (by decide) ?_
  refine va_put (D := D) (ci := 3) (fs := [.int th, .int (nI n), .ref m1, .ref m2, .ref m3, .ref m4, .int cd, .ref m5]) (v := .int 1) (ty := .int) (C := RX3) (T := TX3) (N := 8) hx hb hts (by decide +kernel) tyX3 tyX3_ok nmX3 hown hK hP hD hS 5 rfl rfl 0 (by decide) (hts (.fieldLink RX3 27 "TypedColumnsModel" "thrown" "I") (by decide +kernel)) (fun _ h9 => h9) rfl (by decide +kernel) rfl rfl (Nat.le_of_ble_eq_true rfl) dX3_write_14 (fun H locs hP hD hS => ?_)
  have hP : va_P D vwCl (tc_Z cI cJ cD x0 x1 x2 x3 x4 Z m0 m1 m2 m3 m4 m5 1 n K Ln Wh Re cd ct) H := hP
  have hD : va_D A (tc_Z cI cJ cD x0 x1 x2 x3 x4 Z m0 m1 m2 m3 m4 m5 1 n K Ln Wh Re cd ct) := hD
  refine lv_aload_n hx hb dX3_write_17 rfl (lv_at hl 0 rfl) ?_
  refine va_get (D := D) (ci := 3) (fs := [.int 1, .int (nI n), .ref m1, .ref m2, .ref m3, .ref m4, .int cd, .ref m5]) (v := .int 1) (C := RX3) (T := TX3) (N := 8) hx hb hts (by decide +kernel) hown hK hP 5 rfl rfl 0 (by decide) (hts (.fieldLink RX3 27 "TypedColumnsModel" "thrown" "I") (by decide +kernel)) (fun _ h9 => h9) rfl dX3_write_18 ?_
  refine lv_if_eq (tgt := 26) hx hb dX3_write_21 (by decide) (fun q => absurd q (by decide)) (fun _ => ?_)
  refine lv_iconst (v := 0) hx hb dX3_write_24 (by decide) ?_
  exact W.iret (v := 0) hx hb hr (fun t9 ht9 hW9 => ⟨⟨0, (), rfl, rfl, by rw [ht9]; exact hP, hD⟩, hS.F ht9⟩) hS.2.2 dX3_write_25
set_option maxHeartbeats 4000000 in
set_option maxRecDepth 100000 in
theorem tX3_writeBoolean_y (l : Launch) (D : va_G) (A : Nat → Prop) (cI cJ cD cC : ClassId) (x0 x1 x2 x3 x4 : Nat × va_E) (Z : va_W) (m0 m1 m2 m3 m4 m5 : Nat) (th : Int32) (n : Nat) (K : Nat → Int32) (Ln : Nat → Nat) (Wh : Nat → Int64) (Re : Nat → UInt64) (cd : Int32) (ct : Nat → Int32) (sz : Nat) (hI : tcI n K Ln Wh Re) (j : Nat) (hj : j < n) (i : Int32) (v : Int32) : Met l yX3_writeBoolean wsX3_writeBoolean ({ frames := 3, cells := 0, slots := 0, locals := 71 }) (tcP D A (tcTY cI cJ cD cC) sz [.ref m0, .int (nI j), .int i, .int v] (tc_Z cI cJ cD x0 x1 x2 x3 x4 Z m0 m1 m2 m3 m4 m5 th n K Ln Wh Re cd ct)) (va_Qi (fun r (_ : Unit) => r = cdR K Ln j i 1 (K j)) (fun _ t => tcB D A (tc_Z cI cJ cD x0 x1 x2 x3 x4 Z m0 m1 m2 m3 m4 m5 0 n K Ln (wrW K Ln Wh j i 1 (kMade v 1)) (wrR K Ln Re j i 1 (kMade v 1)) (cdR K Ln j i 1 (K j)) (noteC ct (cdR K Ln j i 1 (K j)))) t) A) 0 0 A := by
  refine Met.ofW (cc := cX3_writeBoolean) (maxL := 4) (ret := (some .int)) (by decide) rfl ?_
  intro p e s m args below meth c s₁ B hml hv
  obtain ⟨rfl, hsz, hP, hK, hD, hE⟩ := hv
  have hx := B.exec
  have hb := B.bytes
  have hr := B.returns
  have hts := atoms_spec (ws := wsX3_writeBoolean) B.pre
  have hown : s.vm.findClass RX3 = some m.cls := findClass_of_methodNamed B.named
  have hlocks := B.notSynchronized
  have hl := lv_entry ([.ref m0, .int (nI j), .int i, .int v]) (n := 4) (Nat.le_of_ble_eq_true rfl)
  rw [lg_entry_eq]
  generalize (lg_sl ([.ref m0, .int (nI j), .int i, .int v]) ++ List.replicate (4 - (lg_sl ([.ref m0, .int (nI j), .int i, .int v])).length) Slot.unset).toArray = ls at hl ⊢
  have hl : lv_has ls 4 [(0, .ref m0), (1, .int (nI j)), (2, .int i), (3, .int v)] := hl
  subst hsz
  have hS : va_S A s.heap s.heap [] := va_S.rf
  have hn60 : n ≤ 60 := hI.1
  have hkI := (hI.2.1 j hj).1
  have hL := (hI.2.1 j hj).2.1
  refine lv_aload_n hx hb dX3_writeBoolean_0 rfl (lv_at hl 0 rfl) ?_
  refine lv_iload_n hx hb dX3_writeBoolean_1 rfl (lv_at hl 1 rfl) ?_
  refine lv_iload_n hx hb dX3_writeBoolean_2 rfl (lv_at hl 2 rfl) ?_
  refine lv_iconst (v := 1) hx hb dX3_writeBoolean_3 (by decide) ?_
  refine lv_iload_n hx hb dX3_writeBoolean_4 rfl (lv_at hl 3 rfl) ?_
  refine lv_if_eq (tgt := 12) hx hb dX3_writeBoolean_5 (by decide) (fun c_1 => ?_) (fun c_1 => ?_)
  · refine lv_lconst (v := 0) hx hb dX3_writeBoolean_12 (by decide) ?_
    refine lv_dconst0 hx hb dX3_writeBoolean_13 ?_
    refine va_calli (va_runV (As := [.int (nI j), .int i, .int 1, .long 0, .double FP.dconst0]) (rest := []) ⟨hx, hb, hml, hown, hts⟩ (tX3_write_w l D A cI cJ cD cC x0 x1 x2 x3 x4 Z m0 m1 m2 m3 m4 m5 th n K Ln Wh Re cd ct s.heap.size hI j hj i 1 0 FP.dconst0 (by decide)) (cwV 5 hts gX3_writeBoolean_X3_write rfl rfl rfl (by decide +kernel) ⟨Nat.le_of_ble_eq_true rfl, Nat.le_of_ble_eq_true rfl⟩) ⟨tcP.blind, (va_recv hK hP (ci := 3) (q0 := 5) rfl rfl), (tcP.go hK hP hD hE hS)⟩ rfl rfl hl.1 rfl (lv_room (Nat.le_of_ble_eq_true rfl)) dX3_writeBoolean_14 ⟨Nat.le_of_ble_eq_true rfl, Nat.le_of_ble_eq_true rfl⟩) hS (fun q _ h => h) (fun q h => h) (fun r_2 u t H locs ht hvm hw hB hz1 hk1 hS => ?_)
    subst hw
    obtain ⟨hP, hD⟩ := hB
    rw [ht] at hP
    have z1 : kMade v 1 = 0 := by unfold kMade; rw [if_pos rfl, if_pos c_1]
    have hP : va_P D vwCl (tc_Z cI cJ cD x0 x1 x2 x3 x4 Z m0 m1 m2 m3 m4 m5 0 n K Ln (wrW K Ln Wh j i 1 (kMade v 1)) (wrR K Ln Re j i 1 (kMade v 1)) (cdR K Ln j i 1 (K j)) (noteC ct (cdR K Ln j i 1 (K j)))) H := by rw [z1]; exact hP
    have hD : va_D A (tc_Z cI cJ cD x0 x1 x2 x3 x4 Z m0 m1 m2 m3 m4 m5 0 n K Ln (wrW K Ln Wh j i 1 (kMade v 1)) (wrR K Ln Re j i 1 (kMade v 1)) (cdR K Ln j i 1 (K j)) (noteC ct (cdR K Ln j i 1 (K j)))) := by rw [z1]; exact hD
    exact W.iret (v := (cdR K Ln j i 1 (K j))) hx hb hr (fun t9 ht9 hW9 => ⟨⟨(cdR K Ln j i 1 (K j)), (), rfl, rfl, by rw [ht9]; exact hP, hD⟩, hS.F ht9⟩) hS.2.2 dX3_writeBoolean_17
  · refine lv_lconst (v := 1) hx hb dX3_writeBoolean_8 (by decide) ?_
    refine lv_goto (tgt := 13) hx hb dX3_writeBoolean_9 (by decide) ?_
    refine lv_dconst0 hx hb dX3_writeBoolean_13 ?_
    refine va_calli (va_runV (As := [.int (nI j), .int i, .int 1, .long 1, .double FP.dconst0]) (rest := []) ⟨hx, hb, hml, hown, hts⟩ (tX3_write_w l D A cI cJ cD cC x0 x1 x2 x3 x4 Z m0 m1 m2 m3 m4 m5 th n K Ln Wh Re cd ct s.heap.size hI j hj i 1 1 FP.dconst0 (by decide)) (cwV 5 hts gX3_writeBoolean_X3_write rfl rfl rfl (by decide +kernel) ⟨Nat.le_of_ble_eq_true rfl, Nat.le_of_ble_eq_true rfl⟩) ⟨tcP.blind, (va_recv hK hP (ci := 3) (q0 := 5) rfl rfl), (tcP.go hK hP hD hE hS)⟩ rfl rfl hl.1 rfl (lv_room (Nat.le_of_ble_eq_true rfl)) dX3_writeBoolean_14 ⟨Nat.le_of_ble_eq_true rfl, Nat.le_of_ble_eq_true rfl⟩) hS (fun q _ h => h) (fun q h => h) (fun r_3 u t H locs ht hvm hw hB hz1 hk1 hS => ?_)
    subst hw
    obtain ⟨hP, hD⟩ := hB
    rw [ht] at hP
    have z1 : kMade v 1 = 1 := by unfold kMade; rw [if_pos rfl, if_neg c_1]
    have hP : va_P D vwCl (tc_Z cI cJ cD x0 x1 x2 x3 x4 Z m0 m1 m2 m3 m4 m5 0 n K Ln (wrW K Ln Wh j i 1 (kMade v 1)) (wrR K Ln Re j i 1 (kMade v 1)) (cdR K Ln j i 1 (K j)) (noteC ct (cdR K Ln j i 1 (K j)))) H := by rw [z1]; exact hP
    have hD : va_D A (tc_Z cI cJ cD x0 x1 x2 x3 x4 Z m0 m1 m2 m3 m4 m5 0 n K Ln (wrW K Ln Wh j i 1 (kMade v 1)) (wrR K Ln Re j i 1 (kMade v 1)) (cdR K Ln j i 1 (K j)) (noteC ct (cdR K Ln j i 1 (K j)))) := by rw [z1]; exact hD
    exact W.iret (v := (cdR K Ln j i 1 (K j))) hx hb hr (fun t9 ht9 hW9 => ⟨⟨(cdR K Ln j i 1 (K j)), (), rfl, rfl, by rw [ht9]; exact hP, hD⟩, hS.F ht9⟩) hS.2.2 dX3_writeBoolean_17
set_option maxHeartbeats 4000000 in
set_option maxRecDepth 100000 in
theorem tX3_writeBoolean_n (l : Launch) (D : va_G) (A : Nat → Prop) (cI cJ cD cC : ClassId) (x0 x1 x2 x3 x4 : Nat × va_E) (Z : va_W) (m0 m1 m2 m3 m4 m5 : Nat) (th : Int32) (n : Nat) (K : Nat → Int32) (Ln : Nat → Nat) (Wh : Nat → Int64) (Re : Nat → UInt64) (cd : Int32) (ct : Nat → Int32) (sz : Nat) (hI : tcI n K Ln Wh Re) (cx : Int32) (hc : ¬ ∃ j, j < n ∧ cx = nI j) (i : Int32) (v : Int32) : Met l yX3_writeBoolean wsX3_writeBoolean ({ frames := 2, cells := 0, slots := 0, locals := 49 }) (tcP D A (tcTY cI cJ cD cC) sz [.ref m0, .int cx, .int i, .int v] (tc_Z cI cJ cD x0 x1 x2 x3 x4 Z m0 m1 m2 m3 m4 m5 th n K Ln Wh Re cd ct)) (va_Qi (fun r (_ : Unit) => r = 0) (fun _ t => tcB D A (tc_Z cI cJ cD x0 x1 x2 x3 x4 Z m0 m1 m2 m3 m4 m5 1 n K Ln Wh Re cd ct) t) A) 0 0 A := by
  refine Met.ofW (cc := cX3_writeBoolean) (maxL := 4) (ret := (some .int)) (by decide) rfl ?_
  intro p e s m args below meth c s₁ B hml hv
  obtain ⟨rfl, hsz, hP, hK, hD, hE⟩ := hv
  have hx := B.exec
  have hb := B.bytes
  have hr := B.returns
  have hts := atoms_spec (ws := wsX3_writeBoolean) B.pre
  have hown : s.vm.findClass RX3 = some m.cls := findClass_of_methodNamed B.named
  have hlocks := B.notSynchronized
  have hl := lv_entry ([.ref m0, .int cx, .int i, .int v]) (n := 4) (Nat.le_of_ble_eq_true rfl)
  rw [lg_entry_eq]
  generalize (lg_sl ([.ref m0, .int cx, .int i, .int v]) ++ List.replicate (4 - (lg_sl ([.ref m0, .int cx, .int i, .int v])).length) Slot.unset).toArray = ls at hl ⊢
  have hl : lv_has ls 4 [(0, .ref m0), (1, .int cx), (2, .int i), (3, .int v)] := hl
  subst hsz
  have hS : va_S A s.heap s.heap [] := va_S.rf
  have hn60 : n ≤ 60 := hI.1
  refine lv_aload_n hx hb dX3_writeBoolean_0 rfl (lv_at hl 0 rfl) ?_
  refine lv_iload_n hx hb dX3_writeBoolean_1 rfl (lv_at hl 1 rfl) ?_
  refine lv_iload_n hx hb dX3_writeBoolean_2 rfl (lv_at hl 2 rfl) ?_
  refine lv_iconst (v := 1) hx hb dX3_writeBoolean_3 (by decide) ?_
  refine lv_iload_n hx hb dX3_writeBoolean_4 rfl (lv_at hl 3 rfl) ?_
  refine lv_if_eq (tgt := 12) hx hb dX3_writeBoolean_5 (by decide) (fun c_1 => ?_) (fun c_1 => ?_)
  · refine lv_lconst (v := 0) hx hb dX3_writeBoolean_12 (by decide) ?_
    refine lv_dconst0 hx hb dX3_writeBoolean_13 ?_
    refine va_calli (va_runV (As := [.int cx, .int i, .int 1, .long 0, .double FP.dconst0]) (rest := []) ⟨hx, hb, hml, hown, hts⟩ (tX3_write_n l D A cI cJ cD cC x0 x1 x2 x3 x4 Z m0 m1 m2 m3 m4 m5 th n K Ln Wh Re cd ct s.heap.size hI cx hc i 1 0 FP.dconst0) (cwV 5 hts gX3_writeBoolean_X3_write rfl rfl rfl (by decide +kernel) ⟨Nat.le_of_ble_eq_true rfl, Nat.le_of_ble_eq_true rfl⟩) ⟨tcP.blind, (va_recv hK hP (ci := 3) (q0 := 5) rfl rfl), (tcP.go hK hP hD hE hS)⟩ rfl rfl hl.1 rfl (lv_room (Nat.le_of_ble_eq_true rfl)) dX3_writeBoolean_14 ⟨Nat.le_of_ble_eq_true rfl, Nat.le_of_ble_eq_true rfl⟩) hS (fun q _ h => h) (fun q h => h) (fun r_2 u t H locs ht hvm hw hB hz1 hk1 hS => ?_)
    subst hw
    obtain ⟨hP, hD⟩ := hB
    rw [ht] at hP
    exact W.iret (v := 0) hx hb hr (fun t9 ht9 hW9 => ⟨⟨0, (), rfl, rfl, by rw [ht9]; exact hP, hD⟩, hS.F ht9⟩) hS.2.2 dX3_writeBoolean_17
  · refine lv_lconst (v := 1) hx hb dX3_writeBoolean_8 (by decide) ?_
    refine lv_goto (tgt := 13) hx hb dX3_writeBoolean_9 (by decide) ?_
    refine lv_dconst0 hx hb dX3_writeBoolean_13 ?_
    refine va_calli (va_runV (As := [.int cx, .int i, .int 1, .long 1, .double FP.dconst0]) (rest := []) ⟨hx, hb, hml, hown, hts⟩ (tX3_write_n l D A cI cJ cD cC x0 x1 x2 x3 x4 Z m0 m1 m2 m3 m4 m5 th n K Ln Wh Re cd ct s.heap.size hI cx hc i 1 1 FP.dconst0) (cwV 5 hts gX3_writeBoolean_X3_write rfl rfl rfl (by decide +kernel) ⟨Nat.le_of_ble_eq_true rfl, Nat.le_of_ble_eq_true rfl⟩) ⟨tcP.blind, (va_recv hK hP (ci := 3) (q0 := 5) rfl rfl), (tcP.go hK hP hD hE hS)⟩ rfl rfl hl.1 rfl (lv_room (Nat.le_of_ble_eq_true rfl)) dX3_writeBoolean_14 ⟨Nat.le_of_ble_eq_true rfl, Nat.le_of_ble_eq_true rfl⟩) hS (fun q _ h => h) (fun q h => h) (fun r_3 u t H locs ht hvm hw hB hz1 hk1 hS => ?_)
    subst hw
    obtain ⟨hP, hD⟩ := hB
    rw [ht] at hP
    exact W.iret (v := 0) hx hb hr (fun t9 ht9 hW9 => ⟨⟨0, (), rfl, rfl, by rw [ht9]; exact hP, hD⟩, hS.F ht9⟩) hS.2.2 dX3_writeBoolean_17
set_option maxHeartbeats 4000000 in
set_option maxRecDepth 100000 in
theorem tX3_writeByte_y (l : Launch) (D : va_G) (A : Nat → Prop) (cI cJ cD cC : ClassId) (x0 x1 x2 x3 x4 : Nat × va_E) (Z : va_W) (m0 m1 m2 m3 m4 m5 : Nat) (th : Int32) (n : Nat) (K : Nat → Int32) (Ln : Nat → Nat) (Wh : Nat → Int64) (Re : Nat → UInt64) (cd : Int32) (ct : Nat → Int32) (sz : Nat) (hI : tcI n K Ln Wh Re) (j : Nat) (hj : j < n) (i : Int32) (v : Int32) : Met l yX3_writeByte wsX3_writeByte ({ frames := 3, cells := 0, slots := 0, locals := 71 }) (tcP D A (tcTY cI cJ cD cC) sz [.ref m0, .int (nI j), .int i, .int v] (tc_Z cI cJ cD x0 x1 x2 x3 x4 Z m0 m1 m2 m3 m4 m5 th n K Ln Wh Re cd ct)) (va_Qi (fun r (_ : Unit) => r = cdR K Ln j i 2 (K j)) (fun _ t => tcB D A (tc_Z cI cJ cD x0 x1 x2 x3 x4 Z m0 m1 m2 m3 m4 m5 0 n K Ln (wrW K Ln Wh j i 2 (v.toInt8.toInt32.toInt64)) (wrR K Ln Re j i 2 (v.toInt8.toInt32.toInt64)) (cdR K Ln j i 2 (K j)) (noteC ct (cdR K Ln j i 2 (K j)))) t) A) 0 0 A := by
  refine Met.ofW (cc := cX3_writeByte) (maxL := 4) (ret := (some .int)) (by decide) rfl ?_
  intro p e s m args below meth c s₁ B hml hv
  obtain ⟨rfl, hsz, hP, hK, hD, hE⟩ := hv
  have hx := B.exec
  have hb := B.bytes
  have hr := B.returns
  have hts := atoms_spec (ws := wsX3_writeByte) B.pre
  have hown : s.vm.findClass RX3 = some m.cls := findClass_of_methodNamed B.named
  have hlocks := B.notSynchronized
  have hl := lv_entry ([.ref m0, .int (nI j), .int i, .int v]) (n := 4) (Nat.le_of_ble_eq_true rfl)
  rw [lg_entry_eq]
  generalize (lg_sl ([.ref m0, .int (nI j), .int i, .int v]) ++ List.replicate (4 - (lg_sl ([.ref m0, .int (nI j), .int i, .int v])).length) Slot.unset).toArray = ls at hl ⊢
  have hl : lv_has ls 4 [(0, .ref m0), (1, .int (nI j)), (2, .int i), (3, .int v)] := hl
  subst hsz
  have hS : va_S A s.heap s.heap [] := va_S.rf
  have hn60 : n ≤ 60 := hI.1
  have hkI := (hI.2.1 j hj).1
  have hL := (hI.2.1 j hj).2.1
  refine lv_aload_n hx hb dX3_writeByte_0 rfl (lv_at hl 0 rfl) ?_
  refine lv_iload_n hx hb dX3_writeByte_1 rfl (lv_at hl 1 rfl) ?_
  refine lv_iload_n hx hb dX3_writeByte_2 rfl (lv_at hl 2 rfl) ?_
  refine lv_iconst (v := 2) hx hb dX3_writeByte_3 (by decide) ?_
  refine lv_iload_n hx hb dX3_writeByte_4 rfl (lv_at hl 3 rfl) ?_
  refine lv_bipush (v := 24) hx hb dX3_writeByte_5 (by decide) ?_
  refine lv_ishl hx hb dX3_writeByte_7 ?_
  refine lv_bipush (v := 24) hx hb dX3_writeByte_8 (by decide) ?_
  refine lv_ishr hx hb dX3_writeByte_10 ?_
  refine lv_i2l (v := ((v <<< (24 &&& 31)) >>> (24 &&& 31)).toInt64) hx hb dX3_writeByte_11 rfl ?_
  refine lv_dconst0 hx hb dX3_writeByte_12 ?_
  rw [mByte v]
  refine va_calli (va_runV (As := [.int (nI j), .int i, .int 2, .long (v.toInt8.toInt32.toInt64), .double FP.dconst0]) (rest := []) ⟨hx, hb, hml, hown, hts⟩ (tX3_write_w l D A cI cJ cD cC x0 x1 x2 x3 x4 Z m0 m1 m2 m3 m4 m5 th n K Ln Wh Re cd ct s.heap.size hI j hj i 2 (v.toInt8.toInt32.toInt64) FP.dconst0 (by decide)) (cwV 5 hts gX3_writeByte_X3_write rfl rfl rfl (by decide +kernel) ⟨Nat.le_of_ble_eq_true rfl, Nat.le_of_ble_eq_true rfl⟩) ⟨tcP.blind, (va_recv hK hP (ci := 3) (q0 := 5) rfl rfl), (tcP.go hK hP hD hE hS)⟩ rfl rfl hl.1 rfl (lv_room (Nat.le_of_ble_eq_true rfl)) dX3_writeByte_13 ⟨Nat.le_of_ble_eq_true rfl, Nat.le_of_ble_eq_true rfl⟩) hS (fun q _ h => h) (fun q h => h) (fun r_1 u t H locs ht hvm hw hB hz1 hk1 hS => ?_)
  subst hw
  obtain ⟨hP, hD⟩ := hB
  rw [ht] at hP
  exact W.iret (v := (cdR K Ln j i 2 (K j))) hx hb hr (fun t9 ht9 hW9 => ⟨⟨(cdR K Ln j i 2 (K j)), (), rfl, rfl, by rw [ht9]; exact hP, hD⟩, hS.F ht9⟩) hS.2.2 dX3_writeByte_16
set_option maxHeartbeats 4000000 in
set_option maxRecDepth 100000 in
theorem tX3_writeByte_n (l : Launch) (D : va_G) (A : Nat → Prop) (cI cJ cD cC : ClassId) (x0 x1 x2 x3 x4 : Nat × va_E) (Z : va_W) (m0 m1 m2 m3 m4 m5 : Nat) (th : Int32) (n : Nat) (K : Nat → Int32) (Ln : Nat → Nat) (Wh : Nat → Int64) (Re : Nat → UInt64) (cd : Int32) (ct : Nat → Int32) (sz : Nat) (hI : tcI n K Ln Wh Re) (cx : Int32) (hc : ¬ ∃ j, j < n ∧ cx = nI j) (i : Int32) (v : Int32) : Met l yX3_writeByte wsX3_writeByte ({ frames := 2, cells := 0, slots := 0, locals := 49 }) (tcP D A (tcTY cI cJ cD cC) sz [.ref m0, .int cx, .int i, .int v] (tc_Z cI cJ cD x0 x1 x2 x3 x4 Z m0 m1 m2 m3 m4 m5 th n K Ln Wh Re cd ct)) (va_Qi (fun r (_ : Unit) => r = 0) (fun _ t => tcB D A (tc_Z cI cJ cD x0 x1 x2 x3 x4 Z m0 m1 m2 m3 m4 m5 1 n K Ln Wh Re cd ct) t) A) 0 0 A := by
  refine Met.ofW (cc := cX3_writeByte) (maxL := 4) (ret := (some .int)) (by decide) rfl ?_
  intro p e s m args below meth c s₁ B hml hv
  obtain ⟨rfl, hsz, hP, hK, hD, hE⟩ := hv
  have hx := B.exec
  have hb := B.bytes
  have hr := B.returns
  have hts := atoms_spec (ws := wsX3_writeByte) B.pre
  have hown : s.vm.findClass RX3 = some m.cls := findClass_of_methodNamed B.named
  have hlocks := B.notSynchronized
  have hl := lv_entry ([.ref m0, .int cx, .int i, .int v]) (n := 4) (Nat.le_of_ble_eq_true rfl)
  rw [lg_entry_eq]
  generalize (lg_sl ([.ref m0, .int cx, .int i, .int v]) ++ List.replicate (4 - (lg_sl ([.ref m0, .int cx, .int i, .int v])).length) Slot.unset).toArray = ls at hl ⊢
  have hl : lv_has ls 4 [(0, .ref m0), (1, .int cx), (2, .int i), (3, .int v)] := hl
  subst hsz
  have hS : va_S A s.heap s.heap [] := va_S.rf
  have hn60 : n ≤ 60 := hI.1
  refine lv_aload_n hx hb dX3_writeByte_0 rfl (lv_at hl 0 rfl) ?_
  refine lv_iload_n hx hb dX3_writeByte_1 rfl (lv_at hl 1 rfl) ?_
  refine lv_iload_n hx hb dX3_writeByte_2 rfl (lv_at hl 2 rfl) ?_
  refine lv_iconst (v := 2) hx hb dX3_writeByte_3 (by decide) ?_
  refine lv_iload_n hx hb dX3_writeByte_4 rfl (lv_at hl 3 rfl) ?_
  refine lv_bipush (v := 24) hx hb dX3_writeByte_5 (by decide) ?_
  refine lv_ishl hx hb dX3_writeByte_7 ?_
  refine lv_bipush (v := 24) hx hb dX3_writeByte_8 (by decide) ?_
  refine lv_ishr hx hb dX3_writeByte_10 ?_
  refine lv_i2l (v := ((v <<< (24 &&& 31)) >>> (24 &&& 31)).toInt64) hx hb dX3_writeByte_11 rfl ?_
  refine lv_dconst0 hx hb dX3_writeByte_12 ?_
  refine va_calli (va_runV (As := [.int cx, .int i, .int 2, .long (((v <<< (24 &&& 31)) >>> (24 &&& 31)).toInt64), .double FP.dconst0]) (rest := []) ⟨hx, hb, hml, hown, hts⟩ (tX3_write_n l D A cI cJ cD cC x0 x1 x2 x3 x4 Z m0 m1 m2 m3 m4 m5 th n K Ln Wh Re cd ct s.heap.size hI cx hc i 2 (((v <<< (24 &&& 31)) >>> (24 &&& 31)).toInt64) FP.dconst0) (cwV 5 hts gX3_writeByte_X3_write rfl rfl rfl (by decide +kernel) ⟨Nat.le_of_ble_eq_true rfl, Nat.le_of_ble_eq_true rfl⟩) ⟨tcP.blind, (va_recv hK hP (ci := 3) (q0 := 5) rfl rfl), (tcP.go hK hP hD hE hS)⟩ rfl rfl hl.1 rfl (lv_room (Nat.le_of_ble_eq_true rfl)) dX3_writeByte_13 ⟨Nat.le_of_ble_eq_true rfl, Nat.le_of_ble_eq_true rfl⟩) hS (fun q _ h => h) (fun q h => h) (fun r_1 u t H locs ht hvm hw hB hz1 hk1 hS => ?_)
  subst hw
  obtain ⟨hP, hD⟩ := hB
  rw [ht] at hP
  exact W.iret (v := 0) hx hb hr (fun t9 ht9 hW9 => ⟨⟨0, (), rfl, rfl, by rw [ht9]; exact hP, hD⟩, hS.F ht9⟩) hS.2.2 dX3_writeByte_16
set_option maxHeartbeats 4000000 in
set_option maxRecDepth 100000 in
theorem tX3_writeChar_y (l : Launch) (D : va_G) (A : Nat → Prop) (cI cJ cD cC : ClassId) (x0 x1 x2 x3 x4 : Nat × va_E) (Z : va_W) (m0 m1 m2 m3 m4 m5 : Nat) (th : Int32) (n : Nat) (K : Nat → Int32) (Ln : Nat → Nat) (Wh : Nat → Int64) (Re : Nat → UInt64) (cd : Int32) (ct : Nat → Int32) (sz : Nat) (hI : tcI n K Ln Wh Re) (j : Nat) (hj : j < n) (i : Int32) (v : Int32) : Met l yX3_writeChar wsX3_writeChar ({ frames := 3, cells := 0, slots := 0, locals := 71 }) (tcP D A (tcTY cI cJ cD cC) sz [.ref m0, .int (nI j), .int i, .int v] (tc_Z cI cJ cD x0 x1 x2 x3 x4 Z m0 m1 m2 m3 m4 m5 th n K Ln Wh Re cd ct)) (va_Qi (fun r (_ : Unit) => r = cdR K Ln j i 3 (K j)) (fun _ t => tcB D A (tc_Z cI cJ cD x0 x1 x2 x3 x4 Z m0 m1 m2 m3 m4 m5 0 n K Ln (wrW K Ln Wh j i 3 ((v.toUInt32 % 65536).toInt32.toInt64)) (wrR K Ln Re j i 3 ((v.toUInt32 % 65536).toInt32.toInt64)) (cdR K Ln j i 3 (K j)) (noteC ct (cdR K Ln j i 3 (K j)))) t) A) 0 0 A := by
  refine Met.ofW (cc := cX3_writeChar) (maxL := 4) (ret := (some .int)) (by decide) rfl ?_
  intro p e s m args below meth c s₁ B hml hv
  obtain ⟨rfl, hsz, hP, hK, hD, hE⟩ := hv
  have hx := B.exec
  have hb := B.bytes
  have hr := B.returns
  have hts := atoms_spec (ws := wsX3_writeChar) B.pre
  have hown : s.vm.findClass RX3 = some m.cls := findClass_of_methodNamed B.named
  have hlocks := B.notSynchronized
  have hl := lv_entry ([.ref m0, .int (nI j), .int i, .int v]) (n := 4) (Nat.le_of_ble_eq_true rfl)
  rw [lg_entry_eq]
  generalize (lg_sl ([.ref m0, .int (nI j), .int i, .int v]) ++ List.replicate (4 - (lg_sl ([.ref m0, .int (nI j), .int i, .int v])).length) Slot.unset).toArray = ls at hl ⊢
  have hl : lv_has ls 4 [(0, .ref m0), (1, .int (nI j)), (2, .int i), (3, .int v)] := hl
  subst hsz
  have hS : va_S A s.heap s.heap [] := va_S.rf
  have hn60 : n ≤ 60 := hI.1
  have hkI := (hI.2.1 j hj).1
  have hL := (hI.2.1 j hj).2.1
  refine lv_aload_n hx hb dX3_writeChar_0 rfl (lv_at hl 0 rfl) ?_
  refine lv_iload_n hx hb dX3_writeChar_1 rfl (lv_at hl 1 rfl) ?_
  refine lv_iload_n hx hb dX3_writeChar_2 rfl (lv_at hl 2 rfl) ?_
  refine lv_iconst (v := 3) hx hb dX3_writeChar_3 (by decide) ?_
  refine lv_iload_n hx hb dX3_writeChar_4 rfl (lv_at hl 3 rfl) ?_
  refine lv_ldc (v := 65535) hx hb hown (hts (.constant RX3 79 (65535)) (by decide +kernel)) dX3_writeChar_5 ?_
  refine lv_iand hx hb dX3_writeChar_7 ?_
  refine lv_i2l (v := (v &&& 65535).toInt64) hx hb dX3_writeChar_8 rfl ?_
  refine lv_dconst0 hx hb dX3_writeChar_9 ?_
  rw [mChar v]
  refine va_calli (va_runV (As := [.int (nI j), .int i, .int 3, .long ((v.toUInt32 % 65536).toInt32.toInt64), .double FP.dconst0]) (rest := []) ⟨hx, hb, hml, hown, hts⟩ (tX3_write_w l D A cI cJ cD cC x0 x1 x2 x3 x4 Z m0 m1 m2 m3 m4 m5 th n K Ln Wh Re cd ct s.heap.size hI j hj i 3 ((v.toUInt32 % 65536).toInt32.toInt64) FP.dconst0 (by decide)) (cwV 5 hts gX3_writeChar_X3_write rfl rfl rfl (by decide +kernel) ⟨Nat.le_of_ble_eq_true rfl, Nat.le_of_ble_eq_true rfl⟩) ⟨tcP.blind, (va_recv hK hP (ci := 3) (q0 := 5) rfl rfl), (tcP.go hK hP hD hE hS)⟩ rfl rfl hl.1 rfl (lv_room (Nat.le_of_ble_eq_true rfl)) dX3_writeChar_10 ⟨Nat.le_of_ble_eq_true rfl, Nat.le_of_ble_eq_true rfl⟩) hS (fun q _ h => h) (fun q h => h) (fun r_1 u t H locs ht hvm hw hB hz1 hk1 hS => ?_)
  subst hw
  obtain ⟨hP, hD⟩ := hB
  rw [ht] at hP
  exact W.iret (v := (cdR K Ln j i 3 (K j))) hx hb hr (fun t9 ht9 hW9 => ⟨⟨(cdR K Ln j i 3 (K j)), (), rfl, rfl, by rw [ht9]; exact hP, hD⟩, hS.F ht9⟩) hS.2.2 dX3_writeChar_13
set_option maxHeartbeats 4000000 in
set_option maxRecDepth 100000 in
theorem tX3_writeChar_n (l : Launch) (D : va_G) (A : Nat → Prop) (cI cJ cD cC : ClassId) (x0 x1 x2 x3 x4 : Nat × va_E) (Z : va_W) (m0 m1 m2 m3 m4 m5 : Nat) (th : Int32) (n : Nat) (K : Nat → Int32) (Ln : Nat → Nat) (Wh : Nat → Int64) (Re : Nat → UInt64) (cd : Int32) (ct : Nat → Int32) (sz : Nat) (hI : tcI n K Ln Wh Re) (cx : Int32) (hc : ¬ ∃ j, j < n ∧ cx = nI j) (i : Int32) (v : Int32) : Met l yX3_writeChar wsX3_writeChar ({ frames := 2, cells := 0, slots := 0, locals := 49 }) (tcP D A (tcTY cI cJ cD cC) sz [.ref m0, .int cx, .int i, .int v] (tc_Z cI cJ cD x0 x1 x2 x3 x4 Z m0 m1 m2 m3 m4 m5 th n K Ln Wh Re cd ct)) (va_Qi (fun r (_ : Unit) => r = 0) (fun _ t => tcB D A (tc_Z cI cJ cD x0 x1 x2 x3 x4 Z m0 m1 m2 m3 m4 m5 1 n K Ln Wh Re cd ct) t) A) 0 0 A := by
  refine Met.ofW (cc := cX3_writeChar) (maxL := 4) (ret := (some .int)) (by decide) rfl ?_
  intro p e s m args below meth c s₁ B hml hv
  obtain ⟨rfl, hsz, hP, hK, hD, hE⟩ := hv
  have hx := B.exec
  have hb := B.bytes
  have hr := B.returns
  have hts := atoms_spec (ws := wsX3_writeChar) B.pre
  have hown : s.vm.findClass RX3 = some m.cls := findClass_of_methodNamed B.named
  have hlocks := B.notSynchronized
  have hl := lv_entry ([.ref m0, .int cx, .int i, .int v]) (n := 4) (Nat.le_of_ble_eq_true rfl)
  rw [lg_entry_eq]
  generalize (lg_sl ([.ref m0, .int cx, .int i, .int v]) ++ List.replicate (4 - (lg_sl ([.ref m0, .int cx, .int i, .int v])).length) Slot.unset).toArray = ls at hl ⊢
  have hl : lv_has ls 4 [(0, .ref m0), (1, .int cx), (2, .int i), (3, .int v)] := hl
  subst hsz
  have hS : va_S A s.heap s.heap [] := va_S.rf
  have hn60 : n ≤ 60 := hI.1
  refine lv_aload_n hx hb dX3_writeChar_0 rfl (lv_at hl 0 rfl) ?_
  refine lv_iload_n hx hb dX3_writeChar_1 rfl (lv_at hl 1 rfl) ?_
  refine lv_iload_n hx hb dX3_writeChar_2 rfl (lv_at hl 2 rfl) ?_
  refine lv_iconst (v := 3) hx hb dX3_writeChar_3 (by decide) ?_
  refine lv_iload_n hx hb dX3_writeChar_4 rfl (lv_at hl 3 rfl) ?_
  refine lv_ldc (v := 65535) hx hb hown (hts (.constant RX3 79 (65535)) (by decide +kernel)) dX3_writeChar_5 ?_
  refine lv_iand hx hb dX3_writeChar_7 ?_
  refine lv_i2l (v := (v &&& 65535).toInt64) hx hb dX3_writeChar_8 rfl ?_
  refine lv_dconst0 hx hb dX3_writeChar_9 ?_
  refine va_calli (va_runV (As := [.int cx, .int i, .int 3, .long ((v &&& 65535).toInt64), .double FP.dconst0]) (rest := []) ⟨hx, hb, hml, hown, hts⟩ (tX3_write_n l D A cI cJ cD cC x0 x1 x2 x3 x4 Z m0 m1 m2 m3 m4 m5 th n K Ln Wh Re cd ct s.heap.size hI cx hc i 3 ((v &&& 65535).toInt64) FP.dconst0) (cwV 5 hts gX3_writeChar_X3_write rfl rfl rfl (by decide +kernel) ⟨Nat.le_of_ble_eq_true rfl, Nat.le_of_ble_eq_true rfl⟩) ⟨tcP.blind, (va_recv hK hP (ci := 3) (q0 := 5) rfl rfl), (tcP.go hK hP hD hE hS)⟩ rfl rfl hl.1 rfl (lv_room (Nat.le_of_ble_eq_true rfl)) dX3_writeChar_10 ⟨Nat.le_of_ble_eq_true rfl, Nat.le_of_ble_eq_true rfl⟩) hS (fun q _ h => h) (fun q h => h) (fun r_1 u t H locs ht hvm hw hB hz1 hk1 hS => ?_)
  subst hw
  obtain ⟨hP, hD⟩ := hB
  rw [ht] at hP
  exact W.iret (v := 0) hx hb hr (fun t9 ht9 hW9 => ⟨⟨0, (), rfl, rfl, by rw [ht9]; exact hP, hD⟩, hS.F ht9⟩) hS.2.2 dX3_writeChar_13
set_option maxHeartbeats 4000000 in
set_option maxRecDepth 100000 in
theorem tX3_writeShort_y (l : Launch) (D : va_G) (A : Nat → Prop) (cI cJ cD cC : ClassId) (x0 x1 x2 x3 x4 : Nat × va_E) (Z : va_W) (m0 m1 m2 m3 m4 m5 : Nat) (th : Int32) (n : Nat) (K : Nat → Int32) (Ln : Nat → Nat) (Wh : Nat → Int64) (Re : Nat → UInt64) (cd : Int32) (ct : Nat → Int32) (sz : Nat) (hI : tcI n K Ln Wh Re) (j : Nat) (hj : j < n) (i : Int32) (v : Int32) : Met l yX3_writeShort wsX3_writeShort ({ frames := 3, cells := 0, slots := 0, locals := 71 }) (tcP D A (tcTY cI cJ cD cC) sz [.ref m0, .int (nI j), .int i, .int v] (tc_Z cI cJ cD x0 x1 x2 x3 x4 Z m0 m1 m2 m3 m4 m5 th n K Ln Wh Re cd ct)) (va_Qi (fun r (_ : Unit) => r = cdR K Ln j i 4 (K j)) (fun _ t => tcB D A (tc_Z cI cJ cD x0 x1 x2 x3 x4 Z m0 m1 m2 m3 m4 m5 0 n K Ln (wrW K Ln Wh j i 4 (v.toInt16.toInt32.toInt64)) (wrR K Ln Re j i 4 (v.toInt16.toInt32.toInt64)) (cdR K Ln j i 4 (K j)) (noteC ct (cdR K Ln j i 4 (K j)))) t) A) 0 0 A := by
  refine Met.ofW (cc := cX3_writeShort) (maxL := 4) (ret := (some .int)) (by decide) rfl ?_
  intro p e s m args below meth c s₁ B hml hv
  obtain ⟨rfl, hsz, hP, hK, hD, hE⟩ := hv
  have hx := B.exec
  have hb := B.bytes
  have hr := B.returns
  have hts := atoms_spec (ws := wsX3_writeShort) B.pre
  have hown : s.vm.findClass RX3 = some m.cls := findClass_of_methodNamed B.named
  have hlocks := B.notSynchronized
  have hl := lv_entry ([.ref m0, .int (nI j), .int i, .int v]) (n := 4) (Nat.le_of_ble_eq_true rfl)
  rw [lg_entry_eq]
  generalize (lg_sl ([.ref m0, .int (nI j), .int i, .int v]) ++ List.replicate (4 - (lg_sl ([.ref m0, .int (nI j), .int i, .int v])).length) Slot.unset).toArray = ls at hl ⊢
  have hl : lv_has ls 4 [(0, .ref m0), (1, .int (nI j)), (2, .int i), (3, .int v)] := hl
  subst hsz
  have hS : va_S A s.heap s.heap [] := va_S.rf
  have hn60 : n ≤ 60 := hI.1
  have hkI := (hI.2.1 j hj).1
  have hL := (hI.2.1 j hj).2.1
  refine lv_aload_n hx hb dX3_writeShort_0 rfl (lv_at hl 0 rfl) ?_
  refine lv_iload_n hx hb dX3_writeShort_1 rfl (lv_at hl 1 rfl) ?_
  refine lv_iload_n hx hb dX3_writeShort_2 rfl (lv_at hl 2 rfl) ?_
  refine lv_iconst (v := 4) hx hb dX3_writeShort_3 (by decide) ?_
  refine lv_iload_n hx hb dX3_writeShort_4 rfl (lv_at hl 3 rfl) ?_
  refine lv_bipush (v := 16) hx hb dX3_writeShort_5 (by decide) ?_
  refine lv_ishl hx hb dX3_writeShort_7 ?_
  refine lv_bipush (v := 16) hx hb dX3_writeShort_8 (by decide) ?_
  refine lv_ishr hx hb dX3_writeShort_10 ?_
  refine lv_i2l (v := ((v <<< (16 &&& 31)) >>> (16 &&& 31)).toInt64) hx hb dX3_writeShort_11 rfl ?_
  refine lv_dconst0 hx hb dX3_writeShort_12 ?_
  rw [mShort v]
  refine va_calli (va_runV (As := [.int (nI j), .int i, .int 4, .long (v.toInt16.toInt32.toInt64), .double FP.dconst0]) (rest := []) ⟨hx, hb, hml, hown, hts⟩ (tX3_write_w l D A cI cJ cD cC x0 x1 x2 x3 x4 Z m0 m1 m2 m3 m4 m5 th n K Ln Wh Re cd ct s.heap.size hI j hj i 4 (v.toInt16.toInt32.toInt64) FP.dconst0 (by decide)) (cwV 5 hts gX3_writeShort_X3_write rfl rfl rfl (by decide +kernel) ⟨Nat.le_of_ble_eq_true rfl, Nat.le_of_ble_eq_true rfl⟩) ⟨tcP.blind, (va_recv hK hP (ci := 3) (q0 := 5) rfl rfl), (tcP.go hK hP hD hE hS)⟩ rfl rfl hl.1 rfl (lv_room (Nat.le_of_ble_eq_true rfl)) dX3_writeShort_13 ⟨Nat.le_of_ble_eq_true rfl, Nat.le_of_ble_eq_true rfl⟩) hS (fun q _ h => h) (fun q h => h) (fun r_1 u t H locs ht hvm hw hB hz1 hk1 hS => ?_)
  subst hw
  obtain ⟨hP, hD⟩ := hB
  rw [ht] at hP
  exact W.iret (v := (cdR K Ln j i 4 (K j))) hx hb hr (fun t9 ht9 hW9 => ⟨⟨(cdR K Ln j i 4 (K j)), (), rfl, rfl, by rw [ht9]; exact hP, hD⟩, hS.F ht9⟩) hS.2.2 dX3_writeShort_16
set_option maxHeartbeats 4000000 in
set_option maxRecDepth 100000 in
theorem tX3_writeShort_n (l : Launch) (D : va_G) (A : Nat → Prop) (cI cJ cD cC : ClassId) (x0 x1 x2 x3 x4 : Nat × va_E) (Z : va_W) (m0 m1 m2 m3 m4 m5 : Nat) (th : Int32) (n : Nat) (K : Nat → Int32) (Ln : Nat → Nat) (Wh : Nat → Int64) (Re : Nat → UInt64) (cd : Int32) (ct : Nat → Int32) (sz : Nat) (hI : tcI n K Ln Wh Re) (cx : Int32) (hc : ¬ ∃ j, j < n ∧ cx = nI j) (i : Int32) (v : Int32) : Met l yX3_writeShort wsX3_writeShort ({ frames := 2, cells := 0, slots := 0, locals := 49 }) (tcP D A (tcTY cI cJ cD cC) sz [.ref m0, .int cx, .int i, .int v] (tc_Z cI cJ cD x0 x1 x2 x3 x4 Z m0 m1 m2 m3 m4 m5 th n K Ln Wh Re cd ct)) (va_Qi (fun r (_ : Unit) => r = 0) (fun _ t => tcB D A (tc_Z cI cJ cD x0 x1 x2 x3 x4 Z m0 m1 m2 m3 m4 m5 1 n K Ln Wh Re cd ct) t) A) 0 0 A := by
  refine Met.ofW (cc := cX3_writeShort) (maxL := 4) (ret := (some .int)) (by decide) rfl ?_
  intro p e s m args below meth c s₁ B hml hv
  obtain ⟨rfl, hsz, hP, hK, hD, hE⟩ := hv
  have hx := B.exec
  have hb := B.bytes
  have hr := B.returns
  have hts := atoms_spec (ws := wsX3_writeShort) B.pre
  have hown : s.vm.findClass RX3 = some m.cls := findClass_of_methodNamed B.named
  have hlocks := B.notSynchronized
  have hl := lv_entry ([.ref m0, .int cx, .int i, .int v]) (n := 4) (Nat.le_of_ble_eq_true rfl)
  rw [lg_entry_eq]
  generalize (lg_sl ([.ref m0, .int cx, .int i, .int v]) ++ List.replicate (4 - (lg_sl ([.ref m0, .int cx, .int i, .int v])).length) Slot.unset).toArray = ls at hl ⊢
  have hl : lv_has ls 4 [(0, .ref m0), (1, .int cx), (2, .int i), (3, .int v)] := hl
  subst hsz
  have hS : va_S A s.heap s.heap [] := va_S.rf
  have hn60 : n ≤ 60 := hI.1
  refine lv_aload_n hx hb dX3_writeShort_0 rfl (lv_at hl 0 rfl) ?_
  refine lv_iload_n hx hb dX3_writeShort_1 rfl (lv_at hl 1 rfl) ?_
  refine lv_iload_n hx hb dX3_writeShort_2 rfl (lv_at hl 2 rfl) ?_
  refine lv_iconst (v := 4) hx hb dX3_writeShort_3 (by decide) ?_
  refine lv_iload_n hx hb dX3_writeShort_4 rfl (lv_at hl 3 rfl) ?_
  refine lv_bipush (v := 16) hx hb dX3_writeShort_5 (by decide) ?_
  refine lv_ishl hx hb dX3_writeShort_7 ?_
  refine lv_bipush (v := 16) hx hb dX3_writeShort_8 (by decide) ?_
  refine lv_ishr hx hb dX3_writeShort_10 ?_
  refine lv_i2l (v := ((v <<< (16 &&& 31)) >>> (16 &&& 31)).toInt64) hx hb dX3_writeShort_11 rfl ?_
  refine lv_dconst0 hx hb dX3_writeShort_12 ?_
  refine va_calli (va_runV (As := [.int cx, .int i, .int 4, .long (((v <<< (16 &&& 31)) >>> (16 &&& 31)).toInt64), .double FP.dconst0]) (rest := []) ⟨hx, hb, hml, hown, hts⟩ (tX3_write_n l D A cI cJ cD cC x0 x1 x2 x3 x4 Z m0 m1 m2 m3 m4 m5 th n K Ln Wh Re cd ct s.heap.size hI cx hc i 4 (((v <<< (16 &&& 31)) >>> (16 &&& 31)).toInt64) FP.dconst0) (cwV 5 hts gX3_writeShort_X3_write rfl rfl rfl (by decide +kernel) ⟨Nat.le_of_ble_eq_true rfl, Nat.le_of_ble_eq_true rfl⟩) ⟨tcP.blind, (va_recv hK hP (ci := 3) (q0 := 5) rfl rfl), (tcP.go hK hP hD hE hS)⟩ rfl rfl hl.1 rfl (lv_room (Nat.le_of_ble_eq_true rfl)) dX3_writeShort_13 ⟨Nat.le_of_ble_eq_true rfl, Nat.le_of_ble_eq_true rfl⟩) hS (fun q _ h => h) (fun q h => h) (fun r_1 u t H locs ht hvm hw hB hz1 hk1 hS => ?_)
  subst hw
  obtain ⟨hP, hD⟩ := hB
  rw [ht] at hP
  exact W.iret (v := 0) hx hb hr (fun t9 ht9 hW9 => ⟨⟨0, (), rfl, rfl, by rw [ht9]; exact hP, hD⟩, hS.F ht9⟩) hS.2.2 dX3_writeShort_16
set_option maxHeartbeats 4000000 in
set_option maxRecDepth 100000 in
theorem tX3_writeInt_y (l : Launch) (D : va_G) (A : Nat → Prop) (cI cJ cD cC : ClassId) (x0 x1 x2 x3 x4 : Nat × va_E) (Z : va_W) (m0 m1 m2 m3 m4 m5 : Nat) (th : Int32) (n : Nat) (K : Nat → Int32) (Ln : Nat → Nat) (Wh : Nat → Int64) (Re : Nat → UInt64) (cd : Int32) (ct : Nat → Int32) (sz : Nat) (hI : tcI n K Ln Wh Re) (j : Nat) (hj : j < n) (i : Int32) (v : Int32) : Met l yX3_writeInt wsX3_writeInt ({ frames := 3, cells := 0, slots := 0, locals := 71 }) (tcP D A (tcTY cI cJ cD cC) sz [.ref m0, .int (nI j), .int i, .int v] (tc_Z cI cJ cD x0 x1 x2 x3 x4 Z m0 m1 m2 m3 m4 m5 th n K Ln Wh Re cd ct)) (va_Qi (fun r (_ : Unit) => r = cdR K Ln j i 5 (K j)) (fun _ t => tcB D A (tc_Z cI cJ cD x0 x1 x2 x3 x4 Z m0 m1 m2 m3 m4 m5 0 n K Ln (wrW K Ln Wh j i 5 v.toInt64) (wrR K Ln Re j i 5 v.toInt64) (cdR K Ln j i 5 (K j)) (noteC ct (cdR K Ln j i 5 (K j)))) t) A) 0 0 A := by
  refine Met.ofW (cc := cX3_writeInt) (maxL := 4) (ret := (some .int)) (by decide) rfl ?_
  intro p e s m args below meth c s₁ B hml hv
  obtain ⟨rfl, hsz, hP, hK, hD, hE⟩ := hv
  have hx := B.exec
  have hb := B.bytes
  have hr := B.returns
  have hts := atoms_spec (ws := wsX3_writeInt) B.pre
  have hown : s.vm.findClass RX3 = some m.cls := findClass_of_methodNamed B.named
  have hlocks := B.notSynchronized
  have hl := lv_entry ([.ref m0, .int (nI j), .int i, .int v]) (n := 4) (Nat.le_of_ble_eq_true rfl)
  rw [lg_entry_eq]
  generalize (lg_sl ([.ref m0, .int (nI j), .int i, .int v]) ++ List.replicate (4 - (lg_sl ([.ref m0, .int (nI j), .int i, .int v])).length) Slot.unset).toArray = ls at hl ⊢
  have hl : lv_has ls 4 [(0, .ref m0), (1, .int (nI j)), (2, .int i), (3, .int v)] := hl
  subst hsz
  have hS : va_S A s.heap s.heap [] := va_S.rf
  have hn60 : n ≤ 60 := hI.1
  have hkI := (hI.2.1 j hj).1
  have hL := (hI.2.1 j hj).2.1
  refine lv_aload_n hx hb dX3_writeInt_0 rfl (lv_at hl 0 rfl) ?_
  refine lv_iload_n hx hb dX3_writeInt_1 rfl (lv_at hl 1 rfl) ?_
  refine lv_iload_n hx hb dX3_writeInt_2 rfl (lv_at hl 2 rfl) ?_
  refine lv_iconst (v := 5) hx hb dX3_writeInt_3 (by decide) ?_
  refine lv_iload_n hx hb dX3_writeInt_4 rfl (lv_at hl 3 rfl) ?_
  refine lv_i2l (v := v.toInt64) hx hb dX3_writeInt_5 rfl ?_
  refine lv_dconst0 hx hb dX3_writeInt_6 ?_
  refine va_calli (va_runV (As := [.int (nI j), .int i, .int 5, .long v.toInt64, .double FP.dconst0]) (rest := []) ⟨hx, hb, hml, hown, hts⟩ (tX3_write_w l D A cI cJ cD cC x0 x1 x2 x3 x4 Z m0 m1 m2 m3 m4 m5 th n K Ln Wh Re cd ct s.heap.size hI j hj i 5 v.toInt64 FP.dconst0 (by decide)) (cwV 5 hts gX3_writeInt_X3_write rfl rfl rfl (by decide +kernel) ⟨Nat.le_of_ble_eq_true rfl, Nat.le_of_ble_eq_true rfl⟩) ⟨tcP.blind, (va_recv hK hP (ci := 3) (q0 := 5) rfl rfl), (tcP.go hK hP hD hE hS)⟩ rfl rfl hl.1 rfl (lv_room (Nat.le_of_ble_eq_true rfl)) dX3_writeInt_7 ⟨Nat.le_of_ble_eq_true rfl, Nat.le_of_ble_eq_true rfl⟩) hS (fun q _ h => h) (fun q h => h) (fun r_1 u t H locs ht hvm hw hB hz1 hk1 hS => ?_)
  subst hw
  obtain ⟨hP, hD⟩ := hB
  rw [ht] at hP
  exact W.iret (v := (cdR K Ln j i 5 (K j))) hx hb hr (fun t9 ht9 hW9 => ⟨⟨(cdR K Ln j i 5 (K j)), (), rfl, rfl, by rw [ht9]; exact hP, hD⟩, hS.F ht9⟩) hS.2.2 dX3_writeInt_10
set_option maxHeartbeats 4000000 in
set_option maxRecDepth 100000 in
theorem tX3_writeInt_n (l : Launch) (D : va_G) (A : Nat → Prop) (cI cJ cD cC : ClassId) (x0 x1 x2 x3 x4 : Nat × va_E) (Z : va_W) (m0 m1 m2 m3 m4 m5 : Nat) (th : Int32) (n : Nat) (K : Nat → Int32) (Ln : Nat → Nat) (Wh : Nat → Int64) (Re : Nat → UInt64) (cd : Int32) (ct : Nat → Int32) (sz : Nat) (hI : tcI n K Ln Wh Re) (cx : Int32) (hc : ¬ ∃ j, j < n ∧ cx = nI j) (i : Int32) (v : Int32) : Met l yX3_writeInt wsX3_writeInt ({ frames := 2, cells := 0, slots := 0, locals := 49 }) (tcP D A (tcTY cI cJ cD cC) sz [.ref m0, .int cx, .int i, .int v] (tc_Z cI cJ cD x0 x1 x2 x3 x4 Z m0 m1 m2 m3 m4 m5 th n K Ln Wh Re cd ct)) (va_Qi (fun r (_ : Unit) => r = 0) (fun _ t => tcB D A (tc_Z cI cJ cD x0 x1 x2 x3 x4 Z m0 m1 m2 m3 m4 m5 1 n K Ln Wh Re cd ct) t) A) 0 0 A := by
  refine Met.ofW (cc := cX3_writeInt) (maxL := 4) (ret := (some .int)) (by decide) rfl ?_
  intro p e s m args below meth c s₁ B hml hv
  obtain ⟨rfl, hsz, hP, hK, hD, hE⟩ := hv
  have hx := B.exec
  have hb := B.bytes
  have hr := B.returns
  have hts := atoms_spec (ws := wsX3_writeInt) B.pre
  have hown : s.vm.findClass RX3 = some m.cls := findClass_of_methodNamed B.named
  have hlocks := B.notSynchronized
  have hl := lv_entry ([.ref m0, .int cx, .int i, .int v]) (n := 4) (Nat.le_of_ble_eq_true rfl)
  rw [lg_entry_eq]
  generalize (lg_sl ([.ref m0, .int cx, .int i, .int v]) ++ List.replicate (4 - (lg_sl ([.ref m0, .int cx, .int i, .int v])).length) Slot.unset).toArray = ls at hl ⊢
  have hl : lv_has ls 4 [(0, .ref m0), (1, .int cx), (2, .int i), (3, .int v)] := hl
  subst hsz
  have hS : va_S A s.heap s.heap [] := va_S.rf
  have hn60 : n ≤ 60 := hI.1
  refine lv_aload_n hx hb dX3_writeInt_0 rfl (lv_at hl 0 rfl) ?_
  refine lv_iload_n hx hb dX3_writeInt_1 rfl (lv_at hl 1 rfl) ?_
  refine lv_iload_n hx hb dX3_writeInt_2 rfl (lv_at hl 2 rfl) ?_
  refine lv_iconst (v := 5) hx hb dX3_writeInt_3 (by decide) ?_
  refine lv_iload_n hx hb dX3_writeInt_4 rfl (lv_at hl 3 rfl) ?_
  refine lv_i2l (v := v.toInt64) hx hb dX3_writeInt_5 rfl ?_
  refine lv_dconst0 hx hb dX3_writeInt_6 ?_
  refine va_calli (va_runV (As := [.int cx, .int i, .int 5, .long v.toInt64, .double FP.dconst0]) (rest := []) ⟨hx, hb, hml, hown, hts⟩ (tX3_write_n l D A cI cJ cD cC x0 x1 x2 x3 x4 Z m0 m1 m2 m3 m4 m5 th n K Ln Wh Re cd ct s.heap.size hI cx hc i 5 v.toInt64 FP.dconst0) (cwV 5 hts gX3_writeInt_X3_write rfl rfl rfl (by decide +kernel) ⟨Nat.le_of_ble_eq_true rfl, Nat.le_of_ble_eq_true rfl⟩) ⟨tcP.blind, (va_recv hK hP (ci := 3) (q0 := 5) rfl rfl), (tcP.go hK hP hD hE hS)⟩ rfl rfl hl.1 rfl (lv_room (Nat.le_of_ble_eq_true rfl)) dX3_writeInt_7 ⟨Nat.le_of_ble_eq_true rfl, Nat.le_of_ble_eq_true rfl⟩) hS (fun q _ h => h) (fun q h => h) (fun r_1 u t H locs ht hvm hw hB hz1 hk1 hS => ?_)
  subst hw
  obtain ⟨hP, hD⟩ := hB
  rw [ht] at hP
  exact W.iret (v := 0) hx hb hr (fun t9 ht9 hW9 => ⟨⟨0, (), rfl, rfl, by rw [ht9]; exact hP, hD⟩, hS.F ht9⟩) hS.2.2 dX3_writeInt_10
set_option maxHeartbeats 4000000 in
set_option maxRecDepth 100000 in
theorem tX3_writeLong_y (l : Launch) (D : va_G) (A : Nat → Prop) (cI cJ cD cC : ClassId) (x0 x1 x2 x3 x4 : Nat × va_E) (Z : va_W) (m0 m1 m2 m3 m4 m5 : Nat) (th : Int32) (n : Nat) (K : Nat → Int32) (Ln : Nat → Nat) (Wh : Nat → Int64) (Re : Nat → UInt64) (cd : Int32) (ct : Nat → Int32) (sz : Nat) (hI : tcI n K Ln Wh Re) (j : Nat) (hj : j < n) (i : Int32) (v : Int64) : Met l yX3_writeLong wsX3_writeLong ({ frames := 3, cells := 0, slots := 0, locals := 71 }) (tcP D A (tcTY cI cJ cD cC) sz [.ref m0, .int (nI j), .int i, .long v] (tc_Z cI cJ cD x0 x1 x2 x3 x4 Z m0 m1 m2 m3 m4 m5 th n K Ln Wh Re cd ct)) (va_Qi (fun r (_ : Unit) => r = cdR K Ln j i 6 (K j)) (fun _ t => tcB D A (tc_Z cI cJ cD x0 x1 x2 x3 x4 Z m0 m1 m2 m3 m4 m5 0 n K Ln (wrW K Ln Wh j i 6 v) (wrR K Ln Re j i 6 v) (cdR K Ln j i 6 (K j)) (noteC ct (cdR K Ln j i 6 (K j)))) t) A) 0 0 A := by
  refine Met.ofW (cc := cX3_writeLong) (maxL := 5) (ret := (some .int)) (by decide) rfl ?_
  intro p e s m args below meth c s₁ B hml hv
  obtain ⟨rfl, hsz, hP, hK, hD, hE⟩ := hv
  have hx := B.exec
  have hb := B.bytes
  have hr := B.returns
  have hts := atoms_spec (ws := wsX3_writeLong) B.pre
  have hown : s.vm.findClass RX3 = some m.cls := findClass_of_methodNamed B.named
  have hlocks := B.notSynchronized
  have hl := lv_entry ([.ref m0, .int (nI j), .int i, .long v]) (n := 5) (Nat.le_of_ble_eq_true rfl)
  rw [lg_entry_eq]
  generalize (lg_sl ([.ref m0, .int (nI j), .int i, .long v]) ++ List.replicate (5 - (lg_sl ([.ref m0, .int (nI j), .int i, .long v])).length) Slot.unset).toArray = ls at hl ⊢
  have hl : lv_has ls 5 [(0, .ref m0), (1, .int (nI j)), (2, .int i), (3, .long v)] := hl
  subst hsz
  have hS : va_S A s.heap s.heap [] := va_S.rf
  have hn60 : n ≤ 60 := hI.1
  have hkI := (hI.2.1 j hj).1
  have hL := (hI.2.1 j hj).2.1
  refine lv_aload_n hx hb dX3_writeLong_0 rfl (lv_at hl 0 rfl) ?_
  refine lv_iload_n hx hb dX3_writeLong_1 rfl (lv_at hl 1 rfl) ?_
  refine lv_iload_n hx hb dX3_writeLong_2 rfl (lv_at hl 2 rfl) ?_
  refine lv_bipush (v := 6) hx hb dX3_writeLong_3 (by decide) ?_
  refine lv_lload_n hx hb dX3_writeLong_5 rfl (lv_at hl 3 rfl) ?_
  refine lv_dconst0 hx hb dX3_writeLong_6 ?_
  refine va_calli (va_runV (As := [.int (nI j), .int i, .int 6, .long v, .double FP.dconst0]) (rest := []) ⟨hx, hb, hml, hown, hts⟩ (tX3_write_w l D A cI cJ cD cC x0 x1 x2 x3 x4 Z m0 m1 m2 m3 m4 m5 th n K Ln Wh Re cd ct s.heap.size hI j hj i 6 v FP.dconst0 (by decide)) (cwV 5 hts gX3_writeLong_X3_write rfl rfl rfl (by decide +kernel) ⟨Nat.le_of_ble_eq_true rfl, Nat.le_of_ble_eq_true rfl⟩) ⟨tcP.blind, (va_recv hK hP (ci := 3) (q0 := 5) rfl rfl), (tcP.go hK hP hD hE hS)⟩ rfl rfl hl.1 rfl (lv_room (Nat.le_of_ble_eq_true rfl)) dX3_writeLong_7 ⟨Nat.le_of_ble_eq_true rfl, Nat.le_of_ble_eq_true rfl⟩) hS (fun q _ h => h) (fun q h => h) (fun r_1 u t H locs ht hvm hw hB hz1 hk1 hS => ?_)
  subst hw
  obtain ⟨hP, hD⟩ := hB
  rw [ht] at hP
  exact W.iret (v := (cdR K Ln j i 6 (K j))) hx hb hr (fun t9 ht9 hW9 => ⟨⟨(cdR K Ln j i 6 (K j)), (), rfl, rfl, by rw [ht9]; exact hP, hD⟩, hS.F ht9⟩) hS.2.2 dX3_writeLong_10
set_option maxHeartbeats 4000000 in
set_option maxRecDepth 100000 in
theorem tX3_writeLong_n (l : Launch) (D : va_G) (A : Nat → Prop) (cI cJ cD cC : ClassId) (x0 x1 x2 x3 x4 : Nat × va_E) (Z : va_W) (m0 m1 m2 m3 m4 m5 : Nat) (th : Int32) (n : Nat) (K : Nat → Int32) (Ln : Nat → Nat) (Wh : Nat → Int64) (Re : Nat → UInt64) (cd : Int32) (ct : Nat → Int32) (sz : Nat) (hI : tcI n K Ln Wh Re) (cx : Int32) (hc : ¬ ∃ j, j < n ∧ cx = nI j) (i : Int32) (v : Int64) : Met l yX3_writeLong wsX3_writeLong ({ frames := 2, cells := 0, slots := 0, locals := 49 }) (tcP D A (tcTY cI cJ cD cC) sz [.ref m0, .int cx, .int i, .long v] (tc_Z cI cJ cD x0 x1 x2 x3 x4 Z m0 m1 m2 m3 m4 m5 th n K Ln Wh Re cd ct)) (va_Qi (fun r (_ : Unit) => r = 0) (fun _ t => tcB D A (tc_Z cI cJ cD x0 x1 x2 x3 x4 Z m0 m1 m2 m3 m4 m5 1 n K Ln Wh Re cd ct) t) A) 0 0 A := by
  refine Met.ofW (cc := cX3_writeLong) (maxL := 5) (ret := (some .int)) (by decide) rfl ?_
  intro p e s m args below meth c s₁ B hml hv
  obtain ⟨rfl, hsz, hP, hK, hD, hE⟩ := hv
  have hx := B.exec
  have hb := B.bytes
  have hr := B.returns
  have hts := atoms_spec (ws := wsX3_writeLong) B.pre
  have hown : s.vm.findClass RX3 = some m.cls := findClass_of_methodNamed B.named
  have hlocks := B.notSynchronized
  have hl := lv_entry ([.ref m0, .int cx, .int i, .long v]) (n := 5) (Nat.le_of_ble_eq_true rfl)
  rw [lg_entry_eq]
  generalize (lg_sl ([.ref m0, .int cx, .int i, .long v]) ++ List.replicate (5 - (lg_sl ([.ref m0, .int cx, .int i, .long v])).length) Slot.unset).toArray = ls at hl ⊢
  have hl : lv_has ls 5 [(0, .ref m0), (1, .int cx), (2, .int i), (3, .long v)] := hl
  subst hsz
  have hS : va_S A s.heap s.heap [] := va_S.rf
  have hn60 : n ≤ 60 := hI.1
  refine lv_aload_n hx hb dX3_writeLong_0 rfl (lv_at hl 0 rfl) ?_
  refine lv_iload_n hx hb dX3_writeLong_1 rfl (lv_at hl 1 rfl) ?_
  refine lv_iload_n hx hb dX3_writeLong_2 rfl (lv_at hl 2 rfl) ?_
  refine lv_bipush (v := 6) hx hb dX3_writeLong_3 (by decide) ?_
  refine lv_lload_n hx hb dX3_writeLong_5 rfl (lv_at hl 3 rfl) ?_
  refine lv_dconst0 hx hb dX3_writeLong_6 ?_
  refine va_calli (va_runV (As := [.int cx, .int i, .int 6, .long v, .double FP.dconst0]) (rest := []) ⟨hx, hb, hml, hown, hts⟩ (tX3_write_n l D A cI cJ cD cC x0 x1 x2 x3 x4 Z m0 m1 m2 m3 m4 m5 th n K Ln Wh Re cd ct s.heap.size hI cx hc i 6 v FP.dconst0) (cwV 5 hts gX3_writeLong_X3_write rfl rfl rfl (by decide +kernel) ⟨Nat.le_of_ble_eq_true rfl, Nat.le_of_ble_eq_true rfl⟩) ⟨tcP.blind, (va_recv hK hP (ci := 3) (q0 := 5) rfl rfl), (tcP.go hK hP hD hE hS)⟩ rfl rfl hl.1 rfl (lv_room (Nat.le_of_ble_eq_true rfl)) dX3_writeLong_7 ⟨Nat.le_of_ble_eq_true rfl, Nat.le_of_ble_eq_true rfl⟩) hS (fun q _ h => h) (fun q h => h) (fun r_1 u t H locs ht hvm hw hB hz1 hk1 hS => ?_)
  subst hw
  obtain ⟨hP, hD⟩ := hB
  rw [ht] at hP
  exact W.iret (v := 0) hx hb hr (fun t9 ht9 hW9 => ⟨⟨0, (), rfl, rfl, by rw [ht9]; exact hP, hD⟩, hS.F ht9⟩) hS.2.2 dX3_writeLong_10
set_option maxHeartbeats 4000000 in
set_option maxRecDepth 100000 in
theorem tX3_writeFloat_y (l : Launch) (D : va_G) (A : Nat → Prop) (cI cJ cD cC : ClassId) (x0 x1 x2 x3 x4 : Nat × va_E) (Z : va_W) (m0 m1 m2 m3 m4 m5 : Nat) (th : Int32) (n : Nat) (K : Nat → Int32) (Ln : Nat → Nat) (Wh : Nat → Int64) (Re : Nat → UInt64) (cd : Int32) (ct : Nat → Int32) (sz : Nat) (hI : tcI n K Ln Wh Re) (j : Nat) (hj : j < n) (i : Int32) (v : UInt32) (hz : FP.Core.fIsNaN v = false) : Met l yX3_writeFloat wsX3_writeFloat ({ frames := 3, cells := 0, slots := 0, locals := 71 }) (tcP D A (tcTY cI cJ cD cC) sz [.ref m0, .int (nI j), .int i, .float v] (tc_Z cI cJ cD x0 x1 x2 x3 x4 Z m0 m1 m2 m3 m4 m5 th n K Ln Wh Re cd ct)) (va_Qi (fun r (_ : Unit) => r = cdR K Ln j i 7 (K j)) (fun _ t => tcB D A (tc_Z cI cJ cD x0 x1 x2 x3 x4 Z m0 m1 m2 m3 m4 m5 0 n K Ln Wh (wrX K Ln Re j i 7 (FP.f2d v)) (cdR K Ln j i 7 (K j)) (noteC ct (cdR K Ln j i 7 (K j)))) t) A) 0 0 A := by
  refine Met.ofW (cc := cX3_writeFloat) (maxL := 4) (ret := (some .int)) (by decide) rfl ?_
  intro p e s m args below meth c s₁ B hml hv
  obtain ⟨rfl, hsz, hP, hK, hD, hE⟩ := hv
  have hx := B.exec
  have hb := B.bytes
  have hr := B.returns
  have hts := atoms_spec (ws := wsX3_writeFloat) B.pre
  have hown : s.vm.findClass RX3 = some m.cls := findClass_of_methodNamed B.named
  have hlocks := B.notSynchronized
  have hl := lv_entry ([.ref m0, .int (nI j), .int i, .float v]) (n := 4) (Nat.le_of_ble_eq_true rfl)
  rw [lg_entry_eq]
  generalize (lg_sl ([.ref m0, .int (nI j), .int i, .float v]) ++ List.replicate (4 - (lg_sl ([.ref m0, .int (nI j), .int i, .float v])).length) Slot.unset).toArray = ls at hl ⊢
  have hl : lv_has ls 4 [(0, .ref m0), (1, .int (nI j)), (2, .int i), (3, .float v)] := hl
  subst hsz
  have hS : va_S A s.heap s.heap [] := va_S.rf
  have hn60 : n ≤ 60 := hI.1
  have hkI := (hI.2.1 j hj).1
  have hL := (hI.2.1 j hj).2.1
  refine lv_aload_n hx hb dX3_writeFloat_0 rfl (lv_at hl 0 rfl) ?_
  refine lv_iload_n hx hb dX3_writeFloat_1 rfl (lv_at hl 1 rfl) ?_
  refine lv_iload_n hx hb dX3_writeFloat_2 rfl (lv_at hl 2 rfl) ?_
  refine lv_bipush (v := 7) hx hb dX3_writeFloat_3 (by decide) ?_
  refine lv_lconst (v := 0) hx hb dX3_writeFloat_5 (by decide) ?_
  refine lv_fload_n hx hb dX3_writeFloat_6 rfl (lv_at hl 3 rfl) ?_
  refine lv_f2d hx hb dX3_writeFloat_7 ((tf_n64 _).mpr (tf_f2d hz)) ?_
  refine va_calli (va_runV (As := [.int (nI j), .int i, .int 7, .long 0, .double (FP.f2d v)]) (rest := []) ⟨hx, hb, hml, hown, hts⟩ (tX3_write_r l D A cI cJ cD cC x0 x1 x2 x3 x4 Z m0 m1 m2 m3 m4 m5 th n K Ln Wh Re cd ct s.heap.size hI j hj i 7 0 (FP.f2d v) (by decide)) (cwV 5 hts gX3_writeFloat_X3_write rfl rfl rfl (by decide +kernel) ⟨Nat.le_of_ble_eq_true rfl, Nat.le_of_ble_eq_true rfl⟩) ⟨tcP.blind, (va_recv hK hP (ci := 3) (q0 := 5) rfl rfl), (tcP.go hK hP hD hE hS)⟩ rfl rfl hl.1 rfl (lv_room (Nat.le_of_ble_eq_true rfl)) dX3_writeFloat_8 ⟨Nat.le_of_ble_eq_true rfl, Nat.le_of_ble_eq_true rfl⟩) hS (fun q _ h => h) (fun q h => h) (fun r_1 u t H locs ht hvm hw hB hz1 hk1 hS => ?_)
  subst hw
  obtain ⟨hP, hD⟩ := hB
  rw [ht] at hP
  exact W.iret (v := (cdR K Ln j i 7 (K j))) hx hb hr (fun t9 ht9 hW9 => ⟨⟨(cdR K Ln j i 7 (K j)), (), rfl, rfl, by rw [ht9]; exact hP, hD⟩, hS.F ht9⟩) hS.2.2 dX3_writeFloat_11
set_option maxHeartbeats 4000000 in
set_option maxRecDepth 100000 in
theorem tX3_writeFloat_n (l : Launch) (D : va_G) (A : Nat → Prop) (cI cJ cD cC : ClassId) (x0 x1 x2 x3 x4 : Nat × va_E) (Z : va_W) (m0 m1 m2 m3 m4 m5 : Nat) (th : Int32) (n : Nat) (K : Nat → Int32) (Ln : Nat → Nat) (Wh : Nat → Int64) (Re : Nat → UInt64) (cd : Int32) (ct : Nat → Int32) (sz : Nat) (hI : tcI n K Ln Wh Re) (cx : Int32) (hc : ¬ ∃ j, j < n ∧ cx = nI j) (i : Int32) (v : UInt32) (hz : FP.Core.fIsNaN v = false) : Met l yX3_writeFloat wsX3_writeFloat ({ frames := 2, cells := 0, slots := 0, locals := 49 }) (tcP D A (tcTY cI cJ cD cC) sz [.ref m0, .int cx, .int i, .float v] (tc_Z cI cJ cD x0 x1 x2 x3 x4 Z m0 m1 m2 m3 m4 m5 th n K Ln Wh Re cd ct)) (va_Qi (fun r (_ : Unit) => r = 0) (fun _ t => tcB D A (tc_Z cI cJ cD x0 x1 x2 x3 x4 Z m0 m1 m2 m3 m4 m5 1 n K Ln Wh Re cd ct) t) A) 0 0 A := by
  refine Met.ofW (cc := cX3_writeFloat) (maxL := 4) (ret := (some .int)) (by decide) rfl ?_
  intro p e s m args below meth c s₁ B hml hv
  obtain ⟨rfl, hsz, hP, hK, hD, hE⟩ := hv
  have hx := B.exec
  have hb := B.bytes
  have hr := B.returns
  have hts := atoms_spec (ws := wsX3_writeFloat) B.pre
  have hown : s.vm.findClass RX3 = some m.cls := findClass_of_methodNamed B.named
  have hlocks := B.notSynchronized
  have hl := lv_entry ([.ref m0, .int cx, .int i, .float v]) (n := 4) (Nat.le_of_ble_eq_true rfl)
  rw [lg_entry_eq]
  generalize (lg_sl ([.ref m0, .int cx, .int i, .float v]) ++ List.replicate (4 - (lg_sl ([.ref m0, .int cx, .int i, .float v])).length) Slot.unset).toArray = ls at hl ⊢
  have hl : lv_has ls 4 [(0, .ref m0), (1, .int cx), (2, .int i), (3, .float v)] := hl
  subst hsz
  have hS : va_S A s.heap s.heap [] := va_S.rf
  have hn60 : n ≤ 60 := hI.1
  refine lv_aload_n hx hb dX3_writeFloat_0 rfl (lv_at hl 0 rfl) ?_
  refine lv_iload_n hx hb dX3_writeFloat_1 rfl (lv_at hl 1 rfl) ?_
  refine lv_iload_n hx hb dX3_writeFloat_2 rfl (lv_at hl 2 rfl) ?_
  refine lv_bipush (v := 7) hx hb dX3_writeFloat_3 (by decide) ?_
  refine lv_lconst (v := 0) hx hb dX3_writeFloat_5 (by decide) ?_
  refine lv_fload_n hx hb dX3_writeFloat_6 rfl (lv_at hl 3 rfl) ?_
  refine lv_f2d hx hb dX3_writeFloat_7 ((tf_n64 _).mpr (tf_f2d hz)) ?_
  refine va_calli (va_runV (As := [.int cx, .int i, .int 7, .long 0, .double (FP.f2d v)]) (rest := []) ⟨hx, hb, hml, hown, hts⟩ (tX3_write_n l D A cI cJ cD cC x0 x1 x2 x3 x4 Z m0 m1 m2 m3 m4 m5 th n K Ln Wh Re cd ct s.heap.size hI cx hc i 7 0 (FP.f2d v)) (cwV 5 hts gX3_writeFloat_X3_write rfl rfl rfl (by decide +kernel) ⟨Nat.le_of_ble_eq_true rfl, Nat.le_of_ble_eq_true rfl⟩) ⟨tcP.blind, (va_recv hK hP (ci := 3) (q0 := 5) rfl rfl), (tcP.go hK hP hD hE hS)⟩ rfl rfl hl.1 rfl (lv_room (Nat.le_of_ble_eq_true rfl)) dX3_writeFloat_8 ⟨Nat.le_of_ble_eq_true rfl, Nat.le_of_ble_eq_true rfl⟩) hS (fun q _ h => h) (fun q h => h) (fun r_1 u t H locs ht hvm hw hB hz1 hk1 hS => ?_)
  subst hw
  obtain ⟨hP, hD⟩ := hB
  rw [ht] at hP
  exact W.iret (v := 0) hx hb hr (fun t9 ht9 hW9 => ⟨⟨0, (), rfl, rfl, by rw [ht9]; exact hP, hD⟩, hS.F ht9⟩) hS.2.2 dX3_writeFloat_11
set_option maxHeartbeats 4000000 in
set_option maxRecDepth 100000 in
theorem tX3_writeDouble_y (l : Launch) (D : va_G) (A : Nat → Prop) (cI cJ cD cC : ClassId) (x0 x1 x2 x3 x4 : Nat × va_E) (Z : va_W) (m0 m1 m2 m3 m4 m5 : Nat) (th : Int32) (n : Nat) (K : Nat → Int32) (Ln : Nat → Nat) (Wh : Nat → Int64) (Re : Nat → UInt64) (cd : Int32) (ct : Nat → Int32) (sz : Nat) (hI : tcI n K Ln Wh Re) (j : Nat) (hj : j < n) (i : Int32) (v : UInt64) : Met l yX3_writeDouble wsX3_writeDouble ({ frames := 3, cells := 0, slots := 0, locals := 71 }) (tcP D A (tcTY cI cJ cD cC) sz [.ref m0, .int (nI j), .int i, .double v] (tc_Z cI cJ cD x0 x1 x2 x3 x4 Z m0 m1 m2 m3 m4 m5 th n K Ln Wh Re cd ct)) (va_Qi (fun r (_ : Unit) => r = cdR K Ln j i 8 (K j)) (fun _ t => tcB D A (tc_Z cI cJ cD x0 x1 x2 x3 x4 Z m0 m1 m2 m3 m4 m5 0 n K Ln Wh (wrX K Ln Re j i 8 v) (cdR K Ln j i 8 (K j)) (noteC ct (cdR K Ln j i 8 (K j)))) t) A) 0 0 A := by
  refine Met.ofW (cc := cX3_writeDouble) (maxL := 5) (ret := (some .int)) (by decide) rfl ?_
  intro p e s m args below meth c s₁ B hml hv
  obtain ⟨rfl, hsz, hP, hK, hD, hE⟩ := hv
  have hx := B.exec
  have hb := B.bytes
  have hr := B.returns
  have hts := atoms_spec (ws := wsX3_writeDouble) B.pre
  have hown : s.vm.findClass RX3 = some m.cls := findClass_of_methodNamed B.named
  have hlocks := B.notSynchronized
  have hl := lv_entry ([.ref m0, .int (nI j), .int i, .double v]) (n := 5) (Nat.le_of_ble_eq_true rfl)
  rw [lg_entry_eq]
  generalize (lg_sl ([.ref m0, .int (nI j), .int i, .double v]) ++ List.replicate (5 - (lg_sl ([.ref m0, .int (nI j), .int i, .double v])).length) Slot.unset).toArray = ls at hl ⊢
  have hl : lv_has ls 5 [(0, .ref m0), (1, .int (nI j)), (2, .int i), (3, .double v)] := hl
  subst hsz
  have hS : va_S A s.heap s.heap [] := va_S.rf
  have hn60 : n ≤ 60 := hI.1
  have hkI := (hI.2.1 j hj).1
  have hL := (hI.2.1 j hj).2.1
  refine lv_aload_n hx hb dX3_writeDouble_0 rfl (lv_at hl 0 rfl) ?_
  refine lv_iload_n hx hb dX3_writeDouble_1 rfl (lv_at hl 1 rfl) ?_
  refine lv_iload_n hx hb dX3_writeDouble_2 rfl (lv_at hl 2 rfl) ?_
  refine lv_bipush (v := 8) hx hb dX3_writeDouble_3 (by decide) ?_
  refine lv_lconst (v := 0) hx hb dX3_writeDouble_5 (by decide) ?_
  refine lv_dload_n hx hb dX3_writeDouble_6 rfl (lv_at hl 3 rfl) ?_
  refine va_calli (va_runV (As := [.int (nI j), .int i, .int 8, .long 0, .double v]) (rest := []) ⟨hx, hb, hml, hown, hts⟩ (tX3_write_r l D A cI cJ cD cC x0 x1 x2 x3 x4 Z m0 m1 m2 m3 m4 m5 th n K Ln Wh Re cd ct s.heap.size hI j hj i 8 0 v (by decide)) (cwV 5 hts gX3_writeDouble_X3_write rfl rfl rfl (by decide +kernel) ⟨Nat.le_of_ble_eq_true rfl, Nat.le_of_ble_eq_true rfl⟩) ⟨tcP.blind, (va_recv hK hP (ci := 3) (q0 := 5) rfl rfl), (tcP.go hK hP hD hE hS)⟩ rfl rfl hl.1 rfl (lv_room (Nat.le_of_ble_eq_true rfl)) dX3_writeDouble_7 ⟨Nat.le_of_ble_eq_true rfl, Nat.le_of_ble_eq_true rfl⟩) hS (fun q _ h => h) (fun q h => h) (fun r_1 u t H locs ht hvm hw hB hz1 hk1 hS => ?_)
  subst hw
  obtain ⟨hP, hD⟩ := hB
  rw [ht] at hP
  exact W.iret (v := (cdR K Ln j i 8 (K j))) hx hb hr (fun t9 ht9 hW9 => ⟨⟨(cdR K Ln j i 8 (K j)), (), rfl, rfl, by rw [ht9]; exact hP, hD⟩, hS.F ht9⟩) hS.2.2 dX3_writeDouble_10
set_option maxHeartbeats 4000000 in
set_option maxRecDepth 100000 in
theorem tX3_writeDouble_n (l : Launch) (D : va_G) (A : Nat → Prop) (cI cJ cD cC : ClassId) (x0 x1 x2 x3 x4 : Nat × va_E) (Z : va_W) (m0 m1 m2 m3 m4 m5 : Nat) (th : Int32) (n : Nat) (K : Nat → Int32) (Ln : Nat → Nat) (Wh : Nat → Int64) (Re : Nat → UInt64) (cd : Int32) (ct : Nat → Int32) (sz : Nat) (hI : tcI n K Ln Wh Re) (cx : Int32) (hc : ¬ ∃ j, j < n ∧ cx = nI j) (i : Int32) (v : UInt64) : Met l yX3_writeDouble wsX3_writeDouble ({ frames := 2, cells := 0, slots := 0, locals := 49 }) (tcP D A (tcTY cI cJ cD cC) sz [.ref m0, .int cx, .int i, .double v] (tc_Z cI cJ cD x0 x1 x2 x3 x4 Z m0 m1 m2 m3 m4 m5 th n K Ln Wh Re cd ct)) (va_Qi (fun r (_ : Unit) => r = 0) (fun _ t => tcB D A (tc_Z cI cJ cD x0 x1 x2 x3 x4 Z m0 m1 m2 m3 m4 m5 1 n K Ln Wh Re cd ct) t) A) 0 0 A := by
  refine Met.ofW (cc := cX3_writeDouble) (maxL := 5) (ret := (some .int)) (by decide) rfl ?_
  intro p e s m args below meth c s₁ B hml hv
  obtain ⟨rfl, hsz, hP, hK, hD, hE⟩ := hv
  have hx := B.exec
  have hb := B.bytes
  have hr := B.returns
  have hts := atoms_spec (ws := wsX3_writeDouble) B.pre
  have hown : s.vm.findClass RX3 = some m.cls := findClass_of_methodNamed B.named
  have hlocks := B.notSynchronized
  have hl := lv_entry ([.ref m0, .int cx, .int i, .double v]) (n := 5) (Nat.le_of_ble_eq_true rfl)
  rw [lg_entry_eq]
  generalize (lg_sl ([.ref m0, .int cx, .int i, .double v]) ++ List.replicate (5 - (lg_sl ([.ref m0, .int cx, .int i, .double v])).length) Slot.unset).toArray = ls at hl ⊢
  have hl : lv_has ls 5 [(0, .ref m0), (1, .int cx), (2, .int i), (3, .double v)] := hl
  subst hsz
  have hS : va_S A s.heap s.heap [] := va_S.rf
  have hn60 : n ≤ 60 := hI.1
  refine lv_aload_n hx hb dX3_writeDouble_0 rfl (lv_at hl 0 rfl) ?_
  refine lv_iload_n hx hb dX3_writeDouble_1 rfl (lv_at hl 1 rfl) ?_
  refine lv_iload_n hx hb dX3_writeDouble_2 rfl (lv_at hl 2 rfl) ?_
  refine lv_bipush (v := 8) hx hb dX3_writeDouble_3 (by decide) ?_
  refine lv_lconst (v := 0) hx hb dX3_writeDouble_5 (by decide) ?_
  refine lv_dload_n hx hb dX3_writeDouble_6 rfl (lv_at hl 3 rfl) ?_
  refine va_calli (va_runV (As := [.int cx, .int i, .int 8, .long 0, .double v]) (rest := []) ⟨hx, hb, hml, hown, hts⟩ (tX3_write_n l D A cI cJ cD cC x0 x1 x2 x3 x4 Z m0 m1 m2 m3 m4 m5 th n K Ln Wh Re cd ct s.heap.size hI cx hc i 8 0 v) (cwV 5 hts gX3_writeDouble_X3_write rfl rfl rfl (by decide +kernel) ⟨Nat.le_of_ble_eq_true rfl, Nat.le_of_ble_eq_true rfl⟩) ⟨tcP.blind, (va_recv hK hP (ci := 3) (q0 := 5) rfl rfl), (tcP.go hK hP hD hE hS)⟩ rfl rfl hl.1 rfl (lv_room (Nat.le_of_ble_eq_true rfl)) dX3_writeDouble_7 ⟨Nat.le_of_ble_eq_true rfl, Nat.le_of_ble_eq_true rfl⟩) hS (fun q _ h => h) (fun q h => h) (fun r_1 u t H locs ht hvm hw hB hz1 hk1 hS => ?_)
  subst hw
  obtain ⟨hP, hD⟩ := hB
  rw [ht] at hP
  exact W.iret (v := 0) hx hb hr (fun t9 ht9 hW9 => ⟨⟨0, (), rfl, rfl, by rw [ht9]; exact hP, hD⟩, hS.F ht9⟩) hS.2.2 dX3_writeDouble_10
set_option maxHeartbeats 4000000 in
set_option maxRecDepth 100000 in
theorem tX3_writeAny_1 (l : Launch) (D : va_G) (A : Nat → Prop) (cI cJ cD cC : ClassId) (x0 x1 x2 x3 x4 : Nat × va_E) (Z : va_W) (m0 m1 m2 m3 m4 m5 : Nat) (th : Int32) (n : Nat) (K : Nat → Int32) (Ln : Nat → Nat) (Wh : Nat → Int64) (Re : Nat → UInt64) (cd : Int32) (ct : Nat → Int32) (sz : Nat) (hI : tcI n K Ln Wh Re) (j : Nat) (hj : j < n) (i v : Int32) : Met l yX3_writeAny wsX3_writeAny ({ frames := 4, cells := 0, slots := 0, locals := 94 }) (tcP D A (tcTY cI cJ cD cC) sz [.ref m0, .int (nI j), .int i, .int 1, .int v] (tc_Z cI cJ cD x0 x1 x2 x3 x4 Z m0 m1 m2 m3 m4 m5 th n K Ln Wh Re cd ct)) (va_Qi (fun r (_ : Unit) => r = cdR K Ln j i 1 (K j)) (fun _ t => tcB D A (tc_Z cI cJ cD x0 x1 x2 x3 x4 Z m0 m1 m2 m3 m4 m5 0 n K Ln (wrW K Ln Wh j i 1 (kMade v 1)) (wrR K Ln Re j i 1 (kMade v 1)) (cdR K Ln j i 1 (K j)) (noteC ct (cdR K Ln j i 1 (K j)))) t) A) 0 0 A := by
  refine Met.ofW (cc := cX3_writeAny) (maxL := 5) (ret := (some .int)) (by decide) rfl ?_
  intro p e s m args below meth c s₁ B hml hv
  obtain ⟨rfl, hsz, hP, hK, hD, hE⟩ := hv
  have hx := B.exec
  have hb := B.bytes
  have hr := B.returns
  have hts := atoms_spec (ws := wsX3_writeAny) B.pre
  have hown : s.vm.findClass RX3 = some m.cls := findClass_of_methodNamed B.named
  have hlocks := B.notSynchronized
  have hl := lv_entry ([.ref m0, .int (nI j), .int i, .int 1, .int v]) (n := 5) (Nat.le_of_ble_eq_true rfl)
  rw [lg_entry_eq]
  generalize (lg_sl ([.ref m0, .int (nI j), .int i, .int 1, .int v]) ++ List.replicate (5 - (lg_sl ([.ref m0, .int (nI j), .int i, .int 1, .int v])).length) Slot.unset).toArray = ls at hl ⊢
  have hl : lv_has ls 5 [(0, .ref m0), (1, .int (nI j)), (2, .int i), (3, .int 1), (4, .int v)] := hl
  subst hsz
  have hS : va_S A s.heap s.heap [] := va_S.rf
  have hn60 : n ≤ 60 := hI.1
  have hkI := (hI.2.1 j hj).1
  have hL := (hI.2.1 j hj).2.1
  refine lv_aload_n hx hb dX3_writeAny_0 rfl (lv_at hl 0 rfl) ?_
  refine lv_iconst (v := 0) hx hb dX3_writeAny_1 (by decide) ?_
  refine va_put (D := D) (ci := 3) (fs := [.int th, .int (nI n), .ref m1, .ref m2, .ref m3, .ref m4, .int cd, .ref m5]) (v := .int 0) (ty := .int) (C := RX3) (T := TX3) (N := 8) hx hb hts (by decide +kernel) tyX3 tyX3_ok nmX3 hown hK hP hD hS 5 rfl rfl 0 (by decide) (hts (.fieldLink RX3 27 "TypedColumnsModel" "thrown" "I") (by decide +kernel)) (fun _ h9 => h9) rfl (by decide +kernel) rfl rfl (Nat.le_of_ble_eq_true rfl) dX3_writeAny_2 (fun H locs hP hD hS => ?_)
  have hP : va_P D vwCl (tc_Z cI cJ cD x0 x1 x2 x3 x4 Z m0 m1 m2 m3 m4 m5 0 n K Ln Wh Re cd ct) H := hP
  have hD : va_D A (tc_Z cI cJ cD x0 x1 x2 x3 x4 Z m0 m1 m2 m3 m4 m5 0 n K Ln Wh Re cd ct) := hD
  refine lv_aload_n hx hb dX3_writeAny_5 rfl (lv_at hl 0 rfl) ?_
  refine lv_iload_n hx hb dX3_writeAny_6 rfl (lv_at hl 1 rfl) ?_
  refine vp_callSi (tc_CR (va_runV (As := [.int (nI j)]) (rest := []) ⟨hx, hb, hml, hown, hts⟩ (tX3_isColumn_y l D A cI cJ cD cC x0 x1 x2 x3 x4 Z m0 m1 m2 m3 m4 m5 0 n K Ln Wh Re cd ct H.size hI j hj) (cwV 1 hts gX3_writeAny_X3_isColumn rfl rfl rfl (by decide +kernel) ⟨Nat.le_of_ble_eq_true rfl, Nat.le_of_ble_eq_true rfl⟩) ⟨tcP.blind, (va_recv hK hP (ci := 3) (q0 := 5) rfl rfl), (tcP.go hK hP hD hE hS)⟩ rfl rfl hl.1 rfl (lv_room (Nat.le_of_ble_eq_true rfl)) dX3_writeAny_7 ⟨Nat.le_of_ble_eq_true rfl, Nat.le_of_ble_eq_true rfl⟩)) (fun r_1 hr_1 => ?_)
  subst hr_1
  refine lv_if_ne (tgt := 19) hx hb dX3_writeAny_10 (by decide) (fun _ => ?_) (fun q => absurd q (by decide))
  refine lv_iload_n hx hb dX3_writeAny_19 rfl (lv_at hl 3 rfl) ?_
  refine lv_tableIn (tgt := 68) hx hb dX3_writeAny_20 (by decide) (by decide) rfl (by decide) ?_
  refine lv_aload_n hx hb dX3_writeAny_68 rfl (lv_at hl 0 rfl) ?_
  refine lv_iload_n hx hb dX3_writeAny_69 rfl (lv_at hl 1 rfl) ?_
  refine lv_iload_n hx hb dX3_writeAny_70 rfl (lv_at hl 2 rfl) ?_
  refine lv_iload hx hb dX3_writeAny_71 (lv_at hl 4 rfl) ?_
  refine lv_if_eq (tgt := 80) hx hb dX3_writeAny_73 (by decide) (fun c_3 => ?_) (fun c_3 => ?_)
  · refine lv_iconst (v := 0) hx hb dX3_writeAny_80 (by decide) ?_
    refine va_calli (va_runV (As := [.int (nI j), .int i, .int 0]) (rest := []) ⟨hx, hb, hml, hown, hts⟩ (tX3_writeBoolean_y l D A cI cJ cD cC x0 x1 x2 x3 x4 Z m0 m1 m2 m3 m4 m5 0 n K Ln Wh Re cd ct H.size hI j hj i 0) (cwV 3 hts gX3_writeAny_X3_writeBoolean rfl rfl rfl (by decide +kernel) ⟨Nat.le_of_ble_eq_true rfl, Nat.le_of_ble_eq_true rfl⟩) ⟨tcP.blind, (va_recv hK hP (ci := 3) (q0 := 5) rfl rfl), (tcP.go hK hP hD hE hS)⟩ rfl rfl hl.1 rfl (lv_room (Nat.le_of_ble_eq_true rfl)) dX3_writeAny_81 ⟨Nat.le_of_ble_eq_true rfl, Nat.le_of_ble_eq_true rfl⟩) hS (fun q _ h => h) (fun q h => h) (fun r_4 u t H locs ht hvm hw hB hz1 hk1 hS => ?_)
    subst hw
    obtain ⟨hP, hD⟩ := hB
    rw [ht] at hP
    have z1 : kMade v 1 = kMade 0 1 := by unfold kMade; rw [if_pos rfl, if_pos rfl, if_pos c_3]; rfl
    have hP : va_P D vwCl (tc_Z cI cJ cD x0 x1 x2 x3 x4 Z m0 m1 m2 m3 m4 m5 0 n K Ln (wrW K Ln Wh j i 1 (kMade v 1)) (wrR K Ln Re j i 1 (kMade v 1)) (cdR K Ln j i 1 (K j)) (noteC ct (cdR K Ln j i 1 (K j)))) H := by rw [z1]; exact hP
    have hD : va_D A (tc_Z cI cJ cD x0 x1 x2 x3 x4 Z m0 m1 m2 m3 m4 m5 0 n K Ln (wrW K Ln Wh j i 1 (kMade v 1)) (wrR K Ln Re j i 1 (kMade v 1)) (cdR K Ln j i 1 (K j)) (noteC ct (cdR K Ln j i 1 (K j)))) := by rw [z1]; exact hD
    exact W.iret (v := (cdR K Ln j i 1 (K j))) hx hb hr (fun t9 ht9 hW9 => ⟨⟨(cdR K Ln j i 1 (K j)), (), rfl, rfl, by rw [ht9]; exact hP, hD⟩, hS.F ht9⟩) hS.2.2 dX3_writeAny_84
  · refine lv_iconst (v := 1) hx hb dX3_writeAny_76 (by decide) ?_
    refine lv_goto (tgt := 81) hx hb dX3_writeAny_77 (by decide) ?_
    refine va_calli (va_runV (As := [.int (nI j), .int i, .int 1]) (rest := []) ⟨hx, hb, hml, hown, hts⟩ (tX3_writeBoolean_y l D A cI cJ cD cC x0 x1 x2 x3 x4 Z m0 m1 m2 m3 m4 m5 0 n K Ln Wh Re cd ct H.size hI j hj i 1) (cwV 3 hts gX3_writeAny_X3_writeBoolean rfl rfl rfl (by decide +kernel) ⟨Nat.le_of_ble_eq_true rfl, Nat.le_of_ble_eq_true rfl⟩) ⟨tcP.blind, (va_recv hK hP (ci := 3) (q0 := 5) rfl rfl), (tcP.go hK hP hD hE hS)⟩ rfl rfl hl.1 rfl (lv_room (Nat.le_of_ble_eq_true rfl)) dX3_writeAny_81 ⟨Nat.le_of_ble_eq_true rfl, Nat.le_of_ble_eq_true rfl⟩) hS (fun q _ h => h) (fun q h => h) (fun r_5 u t H locs ht hvm hw hB hz1 hk1 hS => ?_)
    subst hw
    obtain ⟨hP, hD⟩ := hB
    rw [ht] at hP
    have z1 : kMade v 1 = kMade 1 1 := by unfold kMade; rw [if_pos rfl, if_pos rfl, if_neg c_3]; rfl
    have hP : va_P D vwCl (tc_Z cI cJ cD x0 x1 x2 x3 x4 Z m0 m1 m2 m3 m4 m5 0 n K Ln (wrW K Ln Wh j i 1 (kMade v 1)) (wrR K Ln Re j i 1 (kMade v 1)) (cdR K Ln j i 1 (K j)) (noteC ct (cdR K Ln j i 1 (K j)))) H := by rw [z1]; exact hP
    have hD : va_D A (tc_Z cI cJ cD x0 x1 x2 x3 x4 Z m0 m1 m2 m3 m4 m5 0 n K Ln (wrW K Ln Wh j i 1 (kMade v 1)) (wrR K Ln Re j i 1 (kMade v 1)) (cdR K Ln j i 1 (K j)) (noteC ct (cdR K Ln j i 1 (K j)))) := by rw [z1]; exact hD
    exact W.iret (v := (cdR K Ln j i 1 (K j))) hx hb hr (fun t9 ht9 hW9 => ⟨⟨(cdR K Ln j i 1 (K j)), (), rfl, rfl, by rw [ht9]; exact hP, hD⟩, hS.F ht9⟩) hS.2.2 dX3_writeAny_84
set_option maxHeartbeats 4000000 in
set_option maxRecDepth 100000 in
theorem tX3_writeAny_2 (l : Launch) (D : va_G) (A : Nat → Prop) (cI cJ cD cC : ClassId) (x0 x1 x2 x3 x4 : Nat × va_E) (Z : va_W) (m0 m1 m2 m3 m4 m5 : Nat) (th : Int32) (n : Nat) (K : Nat → Int32) (Ln : Nat → Nat) (Wh : Nat → Int64) (Re : Nat → UInt64) (cd : Int32) (ct : Nat → Int32) (sz : Nat) (hI : tcI n K Ln Wh Re) (j : Nat) (hj : j < n) (i v : Int32) : Met l yX3_writeAny wsX3_writeAny ({ frames := 4, cells := 0, slots := 0, locals := 94 }) (tcP D A (tcTY cI cJ cD cC) sz [.ref m0, .int (nI j), .int i, .int 2, .int v] (tc_Z cI cJ cD x0 x1 x2 x3 x4 Z m0 m1 m2 m3 m4 m5 th n K Ln Wh Re cd ct)) (va_Qi (fun r (_ : Unit) => r = cdR K Ln j i 2 (K j)) (fun _ t => tcB D A (tc_Z cI cJ cD x0 x1 x2 x3 x4 Z m0 m1 m2 m3 m4 m5 0 n K Ln (wrW K Ln Wh j i 2 (v.toInt8.toInt32.toInt64)) (wrR K Ln Re j i 2 (v.toInt8.toInt32.toInt64)) (cdR K Ln j i 2 (K j)) (noteC ct (cdR K Ln j i 2 (K j)))) t) A) 0 0 A := by
  refine Met.ofW (cc := cX3_writeAny) (maxL := 5) (ret := (some .int)) (by decide) rfl ?_
  intro p e s m args below meth c s₁ B hml hv
  obtain ⟨rfl, hsz, hP, hK, hD, hE⟩ := hv
  have hx := B.exec
  have hb := B.bytes
  have hr := B.returns
  have hts := atoms_spec (ws := wsX3_writeAny) B.pre
  have hown : s.vm.findClass RX3 = some m.cls := findClass_of_methodNamed B.named
  have hlocks := B.notSynchronized
  have hl := lv_entry ([.ref m0, .int (nI j), .int i, .int 2, .int v]) (n := 5) (Nat.le_of_ble_eq_true rfl)
  rw [lg_entry_eq]
  generalize (lg_sl ([.ref m0, .int (nI j), .int i, .int 2, .int v]) ++ List.replicate (5 - (lg_sl ([.ref m0, .int (nI j), .int i, .int 2, .int v])).length) Slot.unset).toArray = ls at hl ⊢
  have hl : lv_has ls 5 [(0, .ref m0), (1, .int (nI j)), (2, .int i), (3, .int 2), (4, .int v)] := hl
  subst hsz
  have hS : va_S A s.heap s.heap [] := va_S.rf
  have hn60 : n ≤ 60 := hI.1
  have hkI := (hI.2.1 j hj).1
  have hL := (hI.2.1 j hj).2.1
  refine lv_aload_n hx hb dX3_writeAny_0 rfl (lv_at hl 0 rfl) ?_
  refine lv_iconst (v := 0) hx hb dX3_writeAny_1 (by decide) ?_
  refine va_put (D := D) (ci := 3) (fs := [.int th, .int (nI n), .ref m1, .ref m2, .ref m3, .ref m4, .int cd, .ref m5]) (v := .int 0) (ty := .int) (C := RX3) (T := TX3) (N := 8) hx hb hts (by decide +kernel) tyX3 tyX3_ok nmX3 hown hK hP hD hS 5 rfl rfl 0 (by decide) (hts (.fieldLink RX3 27 "TypedColumnsModel" "thrown" "I") (by decide +kernel)) (fun _ h9 => h9) rfl (by decide +kernel) rfl rfl (Nat.le_of_ble_eq_true rfl) dX3_writeAny_2 (fun H locs hP hD hS => ?_)
  have hP : va_P D vwCl (tc_Z cI cJ cD x0 x1 x2 x3 x4 Z m0 m1 m2 m3 m4 m5 0 n K Ln Wh Re cd ct) H := hP
  have hD : va_D A (tc_Z cI cJ cD x0 x1 x2 x3 x4 Z m0 m1 m2 m3 m4 m5 0 n K Ln Wh Re cd ct) := hD
  refine lv_aload_n hx hb dX3_writeAny_5 rfl (lv_at hl 0 rfl) ?_
  refine lv_iload_n hx hb dX3_writeAny_6 rfl (lv_at hl 1 rfl) ?_
  refine vp_callSi (tc_CR (va_runV (As := [.int (nI j)]) (rest := []) ⟨hx, hb, hml, hown, hts⟩ (tX3_isColumn_y l D A cI cJ cD cC x0 x1 x2 x3 x4 Z m0 m1 m2 m3 m4 m5 0 n K Ln Wh Re cd ct H.size hI j hj) (cwV 1 hts gX3_writeAny_X3_isColumn rfl rfl rfl (by decide +kernel) ⟨Nat.le_of_ble_eq_true rfl, Nat.le_of_ble_eq_true rfl⟩) ⟨tcP.blind, (va_recv hK hP (ci := 3) (q0 := 5) rfl rfl), (tcP.go hK hP hD hE hS)⟩ rfl rfl hl.1 rfl (lv_room (Nat.le_of_ble_eq_true rfl)) dX3_writeAny_7 ⟨Nat.le_of_ble_eq_true rfl, Nat.le_of_ble_eq_true rfl⟩)) (fun r_1 hr_1 => ?_)
  subst hr_1
  refine lv_if_ne (tgt := 19) hx hb dX3_writeAny_10 (by decide) (fun _ => ?_) (fun q => absurd q (by decide))
  refine lv_iload_n hx hb dX3_writeAny_19 rfl (lv_at hl 3 rfl) ?_
  refine lv_tableIn (tgt := 85) hx hb dX3_writeAny_20 (by decide) (by decide) rfl (by decide) ?_
  refine lv_aload_n hx hb dX3_writeAny_85 rfl (lv_at hl 0 rfl) ?_
  refine lv_iload_n hx hb dX3_writeAny_86 rfl (lv_at hl 1 rfl) ?_
  refine lv_iload_n hx hb dX3_writeAny_87 rfl (lv_at hl 2 rfl) ?_
  refine lv_iload hx hb dX3_writeAny_88 (lv_at hl 4 rfl) ?_
  refine va_calli (va_runV (As := [.int (nI j), .int i, .int v]) (rest := []) ⟨hx, hb, hml, hown, hts⟩ (tX3_writeByte_y l D A cI cJ cD cC x0 x1 x2 x3 x4 Z m0 m1 m2 m3 m4 m5 0 n K Ln Wh Re cd ct H.size hI j hj i v) (cwV 3 hts gX3_writeAny_X3_writeByte rfl rfl rfl (by decide +kernel) ⟨Nat.le_of_ble_eq_true rfl, Nat.le_of_ble_eq_true rfl⟩) ⟨tcP.blind, (va_recv hK hP (ci := 3) (q0 := 5) rfl rfl), (tcP.go hK hP hD hE hS)⟩ rfl rfl hl.1 rfl (lv_room (Nat.le_of_ble_eq_true rfl)) dX3_writeAny_90 ⟨Nat.le_of_ble_eq_true rfl, Nat.le_of_ble_eq_true rfl⟩) hS (fun q _ h => h) (fun q h => h) (fun r_3 u t H locs ht hvm hw hB hz1 hk1 hS => ?_)
  subst hw
  obtain ⟨hP, hD⟩ := hB
  rw [ht] at hP
  exact W.iret (v := (cdR K Ln j i 2 (K j))) hx hb hr (fun t9 ht9 hW9 => ⟨⟨(cdR K Ln j i 2 (K j)), (), rfl, rfl, by rw [ht9]; exact hP, hD⟩, hS.F ht9⟩) hS.2.2 dX3_writeAny_93
set_option maxHeartbeats 4000000 in
set_option maxRecDepth 100000 in
theorem tX3_writeAny_3 (l : Launch) (D : va_G) (A : Nat → Prop) (cI cJ cD cC : ClassId) (x0 x1 x2 x3 x4 : Nat × va_E) (Z : va_W) (m0 m1 m2 m3 m4 m5 : Nat) (th : Int32) (n : Nat) (K : Nat → Int32) (Ln : Nat → Nat) (Wh : Nat → Int64) (Re : Nat → UInt64) (cd : Int32) (ct : Nat → Int32) (sz : Nat) (hI : tcI n K Ln Wh Re) (j : Nat) (hj : j < n) (i v : Int32) : Met l yX3_writeAny wsX3_writeAny ({ frames := 4, cells := 0, slots := 0, locals := 94 }) (tcP D A (tcTY cI cJ cD cC) sz [.ref m0, .int (nI j), .int i, .int 3, .int v] (tc_Z cI cJ cD x0 x1 x2 x3 x4 Z m0 m1 m2 m3 m4 m5 th n K Ln Wh Re cd ct)) (va_Qi (fun r (_ : Unit) => r = cdR K Ln j i 3 (K j)) (fun _ t => tcB D A (tc_Z cI cJ cD x0 x1 x2 x3 x4 Z m0 m1 m2 m3 m4 m5 0 n K Ln (wrW K Ln Wh j i 3 ((v.toUInt32 % 65536).toInt32.toInt64)) (wrR K Ln Re j i 3 ((v.toUInt32 % 65536).toInt32.toInt64)) (cdR K Ln j i 3 (K j)) (noteC ct (cdR K Ln j i 3 (K j)))) t) A) 0 0 A := by
  refine Met.ofW (cc := cX3_writeAny) (maxL := 5) (ret := (some .int)) (by decide) rfl ?_
  intro p e s m args below meth c s₁ B hml hv
  obtain ⟨rfl, hsz, hP, hK, hD, hE⟩ := hv
  have hx := B.exec
  have hb := B.bytes
  have hr := B.returns
  have hts := atoms_spec (ws := wsX3_writeAny) B.pre
  have hown : s.vm.findClass RX3 = some m.cls := findClass_of_methodNamed B.named
  have hlocks := B.notSynchronized
  have hl := lv_entry ([.ref m0, .int (nI j), .int i, .int 3, .int v]) (n := 5) (Nat.le_of_ble_eq_true rfl)
  rw [lg_entry_eq]
  generalize (lg_sl ([.ref m0, .int (nI j), .int i, .int 3, .int v]) ++ List.replicate (5 - (lg_sl ([.ref m0, .int (nI j), .int i, .int 3, .int v])).length) Slot.unset).toArray = ls at hl ⊢
  have hl : lv_has ls 5 [(0, .ref m0), (1, .int (nI j)), (2, .int i), (3, .int 3), (4, .int v)] := hl
  subst hsz
  have hS : va_S A s.heap s.heap [] := va_S.rf
  have hn60 : n ≤ 60 := hI.1
  have hkI := (hI.2.1 j hj).1
  have hL := (hI.2.1 j hj).2.1
  refine lv_aload_n hx hb dX3_writeAny_0 rfl (lv_at hl 0 rfl) ?_
  refine lv_iconst (v := 0) hx hb dX3_writeAny_1 (by decide) ?_
  refine va_put (D := D) (ci := 3) (fs := [.int th, .int (nI n), .ref m1, .ref m2, .ref m3, .ref m4, .int cd, .ref m5]) (v := .int 0) (ty := .int) (C := RX3) (T := TX3) (N := 8) hx hb hts (by decide +kernel) tyX3 tyX3_ok nmX3 hown hK hP hD hS 5 rfl rfl 0 (by decide) (hts (.fieldLink RX3 27 "TypedColumnsModel" "thrown" "I") (by decide +kernel)) (fun _ h9 => h9) rfl (by decide +kernel) rfl rfl (Nat.le_of_ble_eq_true rfl) dX3_writeAny_2 (fun H locs hP hD hS => ?_)
  have hP : va_P D vwCl (tc_Z cI cJ cD x0 x1 x2 x3 x4 Z m0 m1 m2 m3 m4 m5 0 n K Ln Wh Re cd ct) H := hP
  have hD : va_D A (tc_Z cI cJ cD x0 x1 x2 x3 x4 Z m0 m1 m2 m3 m4 m5 0 n K Ln Wh Re cd ct) := hD
  refine lv_aload_n hx hb dX3_writeAny_5 rfl (lv_at hl 0 rfl) ?_
  refine lv_iload_n hx hb dX3_writeAny_6 rfl (lv_at hl 1 rfl) ?_
  refine vp_callSi (tc_CR (va_runV (As := [.int (nI j)]) (rest := []) ⟨hx, hb, hml, hown, hts⟩ (tX3_isColumn_y l D A cI cJ cD cC x0 x1 x2 x3 x4 Z m0 m1 m2 m3 m4 m5 0 n K Ln Wh Re cd ct H.size hI j hj) (cwV 1 hts gX3_writeAny_X3_isColumn rfl rfl rfl (by decide +kernel) ⟨Nat.le_of_ble_eq_true rfl, Nat.le_of_ble_eq_true rfl⟩) ⟨tcP.blind, (va_recv hK hP (ci := 3) (q0 := 5) rfl rfl), (tcP.go hK hP hD hE hS)⟩ rfl rfl hl.1 rfl (lv_room (Nat.le_of_ble_eq_true rfl)) dX3_writeAny_7 ⟨Nat.le_of_ble_eq_true rfl, Nat.le_of_ble_eq_true rfl⟩)) (fun r_1 hr_1 => ?_)
  subst hr_1
  refine lv_if_ne (tgt := 19) hx hb dX3_writeAny_10 (by decide) (fun _ => ?_) (fun q => absurd q (by decide))
  refine lv_iload_n hx hb dX3_writeAny_19 rfl (lv_at hl 3 rfl) ?_
  refine lv_tableIn (tgt := 94) hx hb dX3_writeAny_20 (by decide) (by decide) rfl (by decide) ?_
  refine lv_aload_n hx hb dX3_writeAny_94 rfl (lv_at hl 0 rfl) ?_
  refine lv_iload_n hx hb dX3_writeAny_95 rfl (lv_at hl 1 rfl) ?_
  refine lv_iload_n hx hb dX3_writeAny_96 rfl (lv_at hl 2 rfl) ?_
  refine lv_iload hx hb dX3_writeAny_97 (lv_at hl 4 rfl) ?_
  refine va_calli (va_runV (As := [.int (nI j), .int i, .int v]) (rest := []) ⟨hx, hb, hml, hown, hts⟩ (tX3_writeChar_y l D A cI cJ cD cC x0 x1 x2 x3 x4 Z m0 m1 m2 m3 m4 m5 0 n K Ln Wh Re cd ct H.size hI j hj i v) (cwV 3 hts gX3_writeAny_X3_writeChar rfl rfl rfl (by decide +kernel) ⟨Nat.le_of_ble_eq_true rfl, Nat.le_of_ble_eq_true rfl⟩) ⟨tcP.blind, (va_recv hK hP (ci := 3) (q0 := 5) rfl rfl), (tcP.go hK hP hD hE hS)⟩ rfl rfl hl.1 rfl (lv_room (Nat.le_of_ble_eq_true rfl)) dX3_writeAny_99 ⟨Nat.le_of_ble_eq_true rfl, Nat.le_of_ble_eq_true rfl⟩) hS (fun q _ h => h) (fun q h => h) (fun r_3 u t H locs ht hvm hw hB hz1 hk1 hS => ?_)
  subst hw
  obtain ⟨hP, hD⟩ := hB
  rw [ht] at hP
  exact W.iret (v := (cdR K Ln j i 3 (K j))) hx hb hr (fun t9 ht9 hW9 => ⟨⟨(cdR K Ln j i 3 (K j)), (), rfl, rfl, by rw [ht9]; exact hP, hD⟩, hS.F ht9⟩) hS.2.2 dX3_writeAny_102
set_option maxHeartbeats 4000000 in
set_option maxRecDepth 100000 in
theorem tX3_writeAny_4 (l : Launch) (D : va_G) (A : Nat → Prop) (cI cJ cD cC : ClassId) (x0 x1 x2 x3 x4 : Nat × va_E) (Z : va_W) (m0 m1 m2 m3 m4 m5 : Nat) (th : Int32) (n : Nat) (K : Nat → Int32) (Ln : Nat → Nat) (Wh : Nat → Int64) (Re : Nat → UInt64) (cd : Int32) (ct : Nat → Int32) (sz : Nat) (hI : tcI n K Ln Wh Re) (j : Nat) (hj : j < n) (i v : Int32) : Met l yX3_writeAny wsX3_writeAny ({ frames := 4, cells := 0, slots := 0, locals := 94 }) (tcP D A (tcTY cI cJ cD cC) sz [.ref m0, .int (nI j), .int i, .int 4, .int v] (tc_Z cI cJ cD x0 x1 x2 x3 x4 Z m0 m1 m2 m3 m4 m5 th n K Ln Wh Re cd ct)) (va_Qi (fun r (_ : Unit) => r = cdR K Ln j i 4 (K j)) (fun _ t => tcB D A (tc_Z cI cJ cD x0 x1 x2 x3 x4 Z m0 m1 m2 m3 m4 m5 0 n K Ln (wrW K Ln Wh j i 4 (v.toInt16.toInt32.toInt64)) (wrR K Ln Re j i 4 (v.toInt16.toInt32.toInt64)) (cdR K Ln j i 4 (K j)) (noteC ct (cdR K Ln j i 4 (K j)))) t) A) 0 0 A := by
  refine Met.ofW (cc := cX3_writeAny) (maxL := 5) (ret := (some .int)) (by decide) rfl ?_
  intro p e s m args below meth c s₁ B hml hv
  obtain ⟨rfl, hsz, hP, hK, hD, hE⟩ := hv
  have hx := B.exec
  have hb := B.bytes
  have hr := B.returns
  have hts := atoms_spec (ws := wsX3_writeAny) B.pre
  have hown : s.vm.findClass RX3 = some m.cls := findClass_of_methodNamed B.named
  have hlocks := B.notSynchronized
  have hl := lv_entry ([.ref m0, .int (nI j), .int i, .int 4, .int v]) (n := 5) (Nat.le_of_ble_eq_true rfl)
  rw [lg_entry_eq]
  generalize (lg_sl ([.ref m0, .int (nI j), .int i, .int 4, .int v]) ++ List.replicate (5 - (lg_sl ([.ref m0, .int (nI j), .int i, .int 4, .int v])).length) Slot.unset).toArray = ls at hl ⊢
  have hl : lv_has ls 5 [(0, .ref m0), (1, .int (nI j)), (2, .int i), (3, .int 4), (4, .int v)] := hl
  subst hsz
  have hS : va_S A s.heap s.heap [] := va_S.rf
  have hn60 : n ≤ 60 := hI.1
  have hkI := (hI.2.1 j hj).1
  have hL := (hI.2.1 j hj).2.1
  refine lv_aload_n hx hb dX3_writeAny_0 rfl (lv_at hl 0 rfl) ?_
  refine lv_iconst (v := 0) hx hb dX3_writeAny_1 (by decide) ?_
  refine va_put (D := D) (ci := 3) (fs := [.int th, .int (nI n), .ref m1, .ref m2, .ref m3, .ref m4, .int cd, .ref m5]) (v := .int 0) (ty := .int) (C := RX3) (T := TX3) (N := 8) hx hb hts (by decide +kernel) tyX3 tyX3_ok nmX3 hown hK hP hD hS 5 rfl rfl 0 (by decide) (hts (.fieldLink RX3 27 "TypedColumnsModel" "thrown" "I") (by decide +kernel)) (fun _ h9 => h9) rfl (by decide +kernel) rfl rfl (Nat.le_of_ble_eq_true rfl) dX3_writeAny_2 (fun H locs hP hD hS => ?_)
  have hP : va_P D vwCl (tc_Z cI cJ cD x0 x1 x2 x3 x4 Z m0 m1 m2 m3 m4 m5 0 n K Ln Wh Re cd ct) H := hP
  have hD : va_D A (tc_Z cI cJ cD x0 x1 x2 x3 x4 Z m0 m1 m2 m3 m4 m5 0 n K Ln Wh Re cd ct) := hD
  refine lv_aload_n hx hb dX3_writeAny_5 rfl (lv_at hl 0 rfl) ?_
  refine lv_iload_n hx hb dX3_writeAny_6 rfl (lv_at hl 1 rfl) ?_
  refine vp_callSi (tc_CR (va_runV (As := [.int (nI j)]) (rest := []) ⟨hx, hb, hml, hown, hts⟩ (tX3_isColumn_y l D A cI cJ cD cC x0 x1 x2 x3 x4 Z m0 m1 m2 m3 m4 m5 0 n K Ln Wh Re cd ct H.size hI j hj) (cwV 1 hts gX3_writeAny_X3_isColumn rfl rfl rfl (by decide +kernel) ⟨Nat.le_of_ble_eq_true rfl, Nat.le_of_ble_eq_true rfl⟩) ⟨tcP.blind, (va_recv hK hP (ci := 3) (q0 := 5) rfl rfl), (tcP.go hK hP hD hE hS)⟩ rfl rfl hl.1 rfl (lv_room (Nat.le_of_ble_eq_true rfl)) dX3_writeAny_7 ⟨Nat.le_of_ble_eq_true rfl, Nat.le_of_ble_eq_true rfl⟩)) (fun r_1 hr_1 => ?_)
  subst hr_1
  refine lv_if_ne (tgt := 19) hx hb dX3_writeAny_10 (by decide) (fun _ => ?_) (fun q => absurd q (by decide))
  refine lv_iload_n hx hb dX3_writeAny_19 rfl (lv_at hl 3 rfl) ?_
  refine lv_tableIn (tgt := 103) hx hb dX3_writeAny_20 (by decide) (by decide) rfl (by decide) ?_
  refine lv_aload_n hx hb dX3_writeAny_103 rfl (lv_at hl 0 rfl) ?_
  refine lv_iload_n hx hb dX3_writeAny_104 rfl (lv_at hl 1 rfl) ?_
  refine lv_iload_n hx hb dX3_writeAny_105 rfl (lv_at hl 2 rfl) ?_
  refine lv_iload hx hb dX3_writeAny_106 (lv_at hl 4 rfl) ?_
  refine va_calli (va_runV (As := [.int (nI j), .int i, .int v]) (rest := []) ⟨hx, hb, hml, hown, hts⟩ (tX3_writeShort_y l D A cI cJ cD cC x0 x1 x2 x3 x4 Z m0 m1 m2 m3 m4 m5 0 n K Ln Wh Re cd ct H.size hI j hj i v) (cwV 3 hts gX3_writeAny_X3_writeShort rfl rfl rfl (by decide +kernel) ⟨Nat.le_of_ble_eq_true rfl, Nat.le_of_ble_eq_true rfl⟩) ⟨tcP.blind, (va_recv hK hP (ci := 3) (q0 := 5) rfl rfl), (tcP.go hK hP hD hE hS)⟩ rfl rfl hl.1 rfl (lv_room (Nat.le_of_ble_eq_true rfl)) dX3_writeAny_108 ⟨Nat.le_of_ble_eq_true rfl, Nat.le_of_ble_eq_true rfl⟩) hS (fun q _ h => h) (fun q h => h) (fun r_3 u t H locs ht hvm hw hB hz1 hk1 hS => ?_)
  subst hw
  obtain ⟨hP, hD⟩ := hB
  rw [ht] at hP
  exact W.iret (v := (cdR K Ln j i 4 (K j))) hx hb hr (fun t9 ht9 hW9 => ⟨⟨(cdR K Ln j i 4 (K j)), (), rfl, rfl, by rw [ht9]; exact hP, hD⟩, hS.F ht9⟩) hS.2.2 dX3_writeAny_111
set_option maxHeartbeats 4000000 in
set_option maxRecDepth 100000 in
theorem tX3_writeAny_5 (l : Launch) (D : va_G) (A : Nat → Prop) (cI cJ cD cC : ClassId) (x0 x1 x2 x3 x4 : Nat × va_E) (Z : va_W) (m0 m1 m2 m3 m4 m5 : Nat) (th : Int32) (n : Nat) (K : Nat → Int32) (Ln : Nat → Nat) (Wh : Nat → Int64) (Re : Nat → UInt64) (cd : Int32) (ct : Nat → Int32) (sz : Nat) (hI : tcI n K Ln Wh Re) (j : Nat) (hj : j < n) (i v : Int32) : Met l yX3_writeAny wsX3_writeAny ({ frames := 4, cells := 0, slots := 0, locals := 94 }) (tcP D A (tcTY cI cJ cD cC) sz [.ref m0, .int (nI j), .int i, .int 5, .int v] (tc_Z cI cJ cD x0 x1 x2 x3 x4 Z m0 m1 m2 m3 m4 m5 th n K Ln Wh Re cd ct)) (va_Qi (fun r (_ : Unit) => r = cdR K Ln j i 5 (K j)) (fun _ t => tcB D A (tc_Z cI cJ cD x0 x1 x2 x3 x4 Z m0 m1 m2 m3 m4 m5 0 n K Ln (wrW K Ln Wh j i 5 v.toInt64) (wrR K Ln Re j i 5 v.toInt64) (cdR K Ln j i 5 (K j)) (noteC ct (cdR K Ln j i 5 (K j)))) t) A) 0 0 A := by
  refine Met.ofW (cc := cX3_writeAny) (maxL := 5) (ret := (some .int)) (by decide) rfl ?_
  intro p e s m args below meth c s₁ B hml hv
  obtain ⟨rfl, hsz, hP, hK, hD, hE⟩ := hv
  have hx := B.exec
  have hb := B.bytes
  have hr := B.returns
  have hts := atoms_spec (ws := wsX3_writeAny) B.pre
  have hown : s.vm.findClass RX3 = some m.cls := findClass_of_methodNamed B.named
  have hlocks := B.notSynchronized
  have hl := lv_entry ([.ref m0, .int (nI j), .int i, .int 5, .int v]) (n := 5) (Nat.le_of_ble_eq_true rfl)
  rw [lg_entry_eq]
  generalize (lg_sl ([.ref m0, .int (nI j), .int i, .int 5, .int v]) ++ List.replicate (5 - (lg_sl ([.ref m0, .int (nI j), .int i, .int 5, .int v])).length) Slot.unset).toArray = ls at hl ⊢
  have hl : lv_has ls 5 [(0, .ref m0), (1, .int (nI j)), (2, .int i), (3, .int 5), (4, .int v)] := hl
  subst hsz
  have hS : va_S A s.heap s.heap [] := va_S.rf
  have hn60 : n ≤ 60 := hI.1
  have hkI := (hI.2.1 j hj).1
  have hL := (hI.2.1 j hj).2.1
  refine lv_aload_n hx hb dX3_writeAny_0 rfl (lv_at hl 0 rfl) ?_
  refine lv_iconst (v := 0) hx hb dX3_writeAny_1 (by decide) ?_
  refine va_put (D := D) (ci := 3) (fs := [.int th, .int (nI n), .ref m1, .ref m2, .ref m3, .ref m4, .int cd, .ref m5]) (v := .int 0) (ty := .int) (C := RX3) (T := TX3) (N := 8) hx hb hts (by decide +kernel) tyX3 tyX3_ok nmX3 hown hK hP hD hS 5 rfl rfl 0 (by decide) (hts (.fieldLink RX3 27 "TypedColumnsModel" "thrown" "I") (by decide +kernel)) (fun _ h9 => h9) rfl (by decide +kernel) rfl rfl (Nat.le_of_ble_eq_true rfl) dX3_writeAny_2 (fun H locs hP hD hS => ?_)
  have hP : va_P D vwCl (tc_Z cI cJ cD x0 x1 x2 x3 x4 Z m0 m1 m2 m3 m4 m5 0 n K Ln Wh Re cd ct) H := hP
  have hD : va_D A (tc_Z cI cJ cD x0 x1 x2 x3 x4 Z m0 m1 m2 m3 m4 m5 0 n K Ln Wh Re cd ct) := hD
  refine lv_aload_n hx hb dX3_writeAny_5 rfl (lv_at hl 0 rfl) ?_
  refine lv_iload_n hx hb dX3_writeAny_6 rfl (lv_at hl 1 rfl) ?_
  refine vp_callSi (tc_CR (va_runV (As := [.int (nI j)]) (rest := []) ⟨hx, hb, hml, hown, hts⟩ (tX3_isColumn_y l D A cI cJ cD cC x0 x1 x2 x3 x4 Z m0 m1 m2 m3 m4 m5 0 n K Ln Wh Re cd ct H.size hI j hj) (cwV 1 hts gX3_writeAny_X3_isColumn rfl rfl rfl (by decide +kernel) ⟨Nat.le_of_ble_eq_true rfl, Nat.le_of_ble_eq_true rfl⟩) ⟨tcP.blind, (va_recv hK hP (ci := 3) (q0 := 5) rfl rfl), (tcP.go hK hP hD hE hS)⟩ rfl rfl hl.1 rfl (lv_room (Nat.le_of_ble_eq_true rfl)) dX3_writeAny_7 ⟨Nat.le_of_ble_eq_true rfl, Nat.le_of_ble_eq_true rfl⟩)) (fun r_1 hr_1 => ?_)
  subst hr_1
  refine lv_if_ne (tgt := 19) hx hb dX3_writeAny_10 (by decide) (fun _ => ?_) (fun q => absurd q (by decide))
  refine lv_iload_n hx hb dX3_writeAny_19 rfl (lv_at hl 3 rfl) ?_
  refine lv_tableIn (tgt := 112) hx hb dX3_writeAny_20 (by decide) (by decide) rfl (by decide) ?_
  refine lv_aload_n hx hb dX3_writeAny_112 rfl (lv_at hl 0 rfl) ?_
  refine lv_iload_n hx hb dX3_writeAny_113 rfl (lv_at hl 1 rfl) ?_
  refine lv_iload_n hx hb dX3_writeAny_114 rfl (lv_at hl 2 rfl) ?_
  refine lv_iload hx hb dX3_writeAny_115 (lv_at hl 4 rfl) ?_
  refine va_calli (va_runV (As := [.int (nI j), .int i, .int v]) (rest := []) ⟨hx, hb, hml, hown, hts⟩ (tX3_writeInt_y l D A cI cJ cD cC x0 x1 x2 x3 x4 Z m0 m1 m2 m3 m4 m5 0 n K Ln Wh Re cd ct H.size hI j hj i v) (cwV 3 hts gX3_writeAny_X3_writeInt rfl rfl rfl (by decide +kernel) ⟨Nat.le_of_ble_eq_true rfl, Nat.le_of_ble_eq_true rfl⟩) ⟨tcP.blind, (va_recv hK hP (ci := 3) (q0 := 5) rfl rfl), (tcP.go hK hP hD hE hS)⟩ rfl rfl hl.1 rfl (lv_room (Nat.le_of_ble_eq_true rfl)) dX3_writeAny_117 ⟨Nat.le_of_ble_eq_true rfl, Nat.le_of_ble_eq_true rfl⟩) hS (fun q _ h => h) (fun q h => h) (fun r_3 u t H locs ht hvm hw hB hz1 hk1 hS => ?_)
  subst hw
  obtain ⟨hP, hD⟩ := hB
  rw [ht] at hP
  exact W.iret (v := (cdR K Ln j i 5 (K j))) hx hb hr (fun t9 ht9 hW9 => ⟨⟨(cdR K Ln j i 5 (K j)), (), rfl, rfl, by rw [ht9]; exact hP, hD⟩, hS.F ht9⟩) hS.2.2 dX3_writeAny_120
set_option maxHeartbeats 4000000 in
set_option maxRecDepth 100000 in
theorem tX3_writeAny_6 (l : Launch) (D : va_G) (A : Nat → Prop) (cI cJ cD cC : ClassId) (x0 x1 x2 x3 x4 : Nat × va_E) (Z : va_W) (m0 m1 m2 m3 m4 m5 : Nat) (th : Int32) (n : Nat) (K : Nat → Int32) (Ln : Nat → Nat) (Wh : Nat → Int64) (Re : Nat → UInt64) (cd : Int32) (ct : Nat → Int32) (sz : Nat) (hI : tcI n K Ln Wh Re) (j : Nat) (hj : j < n) (i v : Int32) : Met l yX3_writeAny wsX3_writeAny ({ frames := 4, cells := 0, slots := 0, locals := 95 }) (tcP D A (tcTY cI cJ cD cC) sz [.ref m0, .int (nI j), .int i, .int 6, .int v] (tc_Z cI cJ cD x0 x1 x2 x3 x4 Z m0 m1 m2 m3 m4 m5 th n K Ln Wh Re cd ct)) (va_Qi (fun r (_ : Unit) => r = cdR K Ln j i 6 (K j)) (fun _ t => tcB D A (tc_Z cI cJ cD x0 x1 x2 x3 x4 Z m0 m1 m2 m3 m4 m5 0 n K Ln (wrW K Ln Wh j i 6 v.toInt64) (wrR K Ln Re j i 6 v.toInt64) (cdR K Ln j i 6 (K j)) (noteC ct (cdR K Ln j i 6 (K j)))) t) A) 0 0 A := by
  refine Met.ofW (cc := cX3_writeAny) (maxL := 5) (ret := (some .int)) (by decide) rfl ?_
  intro p e s m args below meth c s₁ B hml hv
  obtain ⟨rfl, hsz, hP, hK, hD, hE⟩ := hv
  have hx := B.exec
  have hb := B.bytes
  have hr := B.returns
  have hts := atoms_spec (ws := wsX3_writeAny) B.pre
  have hown : s.vm.findClass RX3 = some m.cls := findClass_of_methodNamed B.named
  have hlocks := B.notSynchronized
  have hl := lv_entry ([.ref m0, .int (nI j), .int i, .int 6, .int v]) (n := 5) (Nat.le_of_ble_eq_true rfl)
  rw [lg_entry_eq]
  generalize (lg_sl ([.ref m0, .int (nI j), .int i, .int 6, .int v]) ++ List.replicate (5 - (lg_sl ([.ref m0, .int (nI j), .int i, .int 6, .int v])).length) Slot.unset).toArray = ls at hl ⊢
  have hl : lv_has ls 5 [(0, .ref m0), (1, .int (nI j)), (2, .int i), (3, .int 6), (4, .int v)] := hl
  subst hsz
  have hS : va_S A s.heap s.heap [] := va_S.rf
  have hn60 : n ≤ 60 := hI.1
  have hkI := (hI.2.1 j hj).1
  have hL := (hI.2.1 j hj).2.1
  refine lv_aload_n hx hb dX3_writeAny_0 rfl (lv_at hl 0 rfl) ?_
  refine lv_iconst (v := 0) hx hb dX3_writeAny_1 (by decide) ?_
  refine va_put (D := D) (ci := 3) (fs := [.int th, .int (nI n), .ref m1, .ref m2, .ref m3, .ref m4, .int cd, .ref m5]) (v := .int 0) (ty := .int) (C := RX3) (T := TX3) (N := 8) hx hb hts (by decide +kernel) tyX3 tyX3_ok nmX3 hown hK hP hD hS 5 rfl rfl 0 (by decide) (hts (.fieldLink RX3 27 "TypedColumnsModel" "thrown" "I") (by decide +kernel)) (fun _ h9 => h9) rfl (by decide +kernel) rfl rfl (Nat.le_of_ble_eq_true rfl) dX3_writeAny_2 (fun H locs hP hD hS => ?_)
  have hP : va_P D vwCl (tc_Z cI cJ cD x0 x1 x2 x3 x4 Z m0 m1 m2 m3 m4 m5 0 n K Ln Wh Re cd ct) H := hP
  have hD : va_D A (tc_Z cI cJ cD x0 x1 x2 x3 x4 Z m0 m1 m2 m3 m4 m5 0 n K Ln Wh Re cd ct) := hD
  refine lv_aload_n hx hb dX3_writeAny_5 rfl (lv_at hl 0 rfl) ?_
  refine lv_iload_n hx hb dX3_writeAny_6 rfl (lv_at hl 1 rfl) ?_
  refine vp_callSi (tc_CR (va_runV (As := [.int (nI j)]) (rest := []) ⟨hx, hb, hml, hown, hts⟩ (tX3_isColumn_y l D A cI cJ cD cC x0 x1 x2 x3 x4 Z m0 m1 m2 m3 m4 m5 0 n K Ln Wh Re cd ct H.size hI j hj) (cwV 1 hts gX3_writeAny_X3_isColumn rfl rfl rfl (by decide +kernel) ⟨Nat.le_of_ble_eq_true rfl, Nat.le_of_ble_eq_true rfl⟩) ⟨tcP.blind, (va_recv hK hP (ci := 3) (q0 := 5) rfl rfl), (tcP.go hK hP hD hE hS)⟩ rfl rfl hl.1 rfl (lv_room (Nat.le_of_ble_eq_true rfl)) dX3_writeAny_7 ⟨Nat.le_of_ble_eq_true rfl, Nat.le_of_ble_eq_true rfl⟩)) (fun r_1 hr_1 => ?_)
  subst hr_1
  refine lv_if_ne (tgt := 19) hx hb dX3_writeAny_10 (by decide) (fun _ => ?_) (fun q => absurd q (by decide))
  refine lv_iload_n hx hb dX3_writeAny_19 rfl (lv_at hl 3 rfl) ?_
  refine lv_tableIn (tgt := 121) hx hb dX3_writeAny_20 (by decide) (by decide) rfl (by decide) ?_
  refine lv_aload_n hx hb dX3_writeAny_121 rfl (lv_at hl 0 rfl) ?_
  refine lv_iload_n hx hb dX3_writeAny_122 rfl (lv_at hl 1 rfl) ?_
  refine lv_iload_n hx hb dX3_writeAny_123 rfl (lv_at hl 2 rfl) ?_
  refine lv_iload hx hb dX3_writeAny_124 (lv_at hl 4 rfl) ?_
  refine lv_i2l (v := v.toInt64) hx hb dX3_writeAny_126 rfl ?_
  refine va_calli (va_runV (As := [.int (nI j), .int i, .long v.toInt64]) (rest := []) ⟨hx, hb, hml, hown, hts⟩ (tX3_writeLong_y l D A cI cJ cD cC x0 x1 x2 x3 x4 Z m0 m1 m2 m3 m4 m5 0 n K Ln Wh Re cd ct H.size hI j hj i v.toInt64) (cwV 3 hts gX3_writeAny_X3_writeLong rfl rfl rfl (by decide +kernel) ⟨Nat.le_of_ble_eq_true rfl, Nat.le_of_ble_eq_true rfl⟩) ⟨tcP.blind, (va_recv hK hP (ci := 3) (q0 := 5) rfl rfl), (tcP.go hK hP hD hE hS)⟩ rfl rfl hl.1 rfl (lv_room (Nat.le_of_ble_eq_true rfl)) dX3_writeAny_127 ⟨Nat.le_of_ble_eq_true rfl, Nat.le_of_ble_eq_true rfl⟩) hS (fun q _ h => h) (fun q h => h) (fun r_3 u t H locs ht hvm hw hB hz1 hk1 hS => ?_)
  subst hw
  obtain ⟨hP, hD⟩ := hB
  rw [ht] at hP
  exact W.iret (v := (cdR K Ln j i 6 (K j))) hx hb hr (fun t9 ht9 hW9 => ⟨⟨(cdR K Ln j i 6 (K j)), (), rfl, rfl, by rw [ht9]; exact hP, hD⟩, hS.F ht9⟩) hS.2.2 dX3_writeAny_130
set_option maxHeartbeats 4000000 in
set_option maxRecDepth 100000 in
theorem tX3_writeAny_7 (l : Launch) (D : va_G) (A : Nat → Prop) (cI cJ cD cC : ClassId) (x0 x1 x2 x3 x4 : Nat × va_E) (Z : va_W) (m0 m1 m2 m3 m4 m5 : Nat) (th : Int32) (n : Nat) (K : Nat → Int32) (Ln : Nat → Nat) (Wh : Nat → Int64) (Re : Nat → UInt64) (cd : Int32) (ct : Nat → Int32) (sz : Nat) (hI : tcI n K Ln Wh Re) (j : Nat) (hj : j < n) (i v : Int32) : Met l yX3_writeAny wsX3_writeAny ({ frames := 4, cells := 0, slots := 0, locals := 94 }) (tcP D A (tcTY cI cJ cD cC) sz [.ref m0, .int (nI j), .int i, .int 7, .int v] (tc_Z cI cJ cD x0 x1 x2 x3 x4 Z m0 m1 m2 m3 m4 m5 th n K Ln Wh Re cd ct)) (va_Qi (fun r (_ : Unit) => r = cdR K Ln j i 7 (K j)) (fun _ t => tcB D A (tc_Z cI cJ cD x0 x1 x2 x3 x4 Z m0 m1 m2 m3 m4 m5 0 n K Ln Wh (wrX K Ln Re j i 7 (FP.f2d (FP.i2f v))) (cdR K Ln j i 7 (K j)) (noteC ct (cdR K Ln j i 7 (K j)))) t) A) 0 0 A := by
  refine Met.ofW (cc := cX3_writeAny) (maxL := 5) (ret := (some .int)) (by decide) rfl ?_
  intro p e s m args below meth c s₁ B hml hv
  obtain ⟨rfl, hsz, hP, hK, hD, hE⟩ := hv
  have hx := B.exec
  have hb := B.bytes
  have hr := B.returns
  have hts := atoms_spec (ws := wsX3_writeAny) B.pre
  have hown : s.vm.findClass RX3 = some m.cls := findClass_of_methodNamed B.named
  have hlocks := B.notSynchronized
  have hl := lv_entry ([.ref m0, .int (nI j), .int i, .int 7, .int v]) (n := 5) (Nat.le_of_ble_eq_true rfl)
  rw [lg_entry_eq]
  generalize (lg_sl ([.ref m0, .int (nI j), .int i, .int 7, .int v]) ++ List.replicate (5 - (lg_sl ([.ref m0, .int (nI j), .int i, .int 7, .int v])).length) Slot.unset).toArray = ls at hl ⊢
  have hl : lv_has ls 5 [(0, .ref m0), (1, .int (nI j)), (2, .int i), (3, .int 7), (4, .int v)] := hl
  subst hsz
  have hS : va_S A s.heap s.heap [] := va_S.rf
  have hn60 : n ≤ 60 := hI.1
  have hkI := (hI.2.1 j hj).1
  have hL := (hI.2.1 j hj).2.1
  refine lv_aload_n hx hb dX3_writeAny_0 rfl (lv_at hl 0 rfl) ?_
  refine lv_iconst (v := 0) hx hb dX3_writeAny_1 (by decide) ?_
  refine va_put (D := D) (ci := 3) (fs := [.int th, .int (nI n), .ref m1, .ref m2, .ref m3, .ref m4, .int cd, .ref m5]) (v := .int 0) (ty := .int) (C := RX3) (T := TX3) (N := 8) hx hb hts (by decide +kernel) tyX3 tyX3_ok nmX3 hown hK hP hD hS 5 rfl rfl 0 (by decide) (hts (.fieldLink RX3 27 "TypedColumnsModel" "thrown" "I") (by decide +kernel)) (fun _ h9 => h9) rfl (by decide +kernel) rfl rfl (Nat.le_of_ble_eq_true rfl) dX3_writeAny_2 (fun H locs hP hD hS => ?_)
  have hP : va_P D vwCl (tc_Z cI cJ cD x0 x1 x2 x3 x4 Z m0 m1 m2 m3 m4 m5 0 n K Ln Wh Re cd ct) H := hP
  have hD : va_D A (tc_Z cI cJ cD x0 x1 x2 x3 x4 Z m0 m1 m2 m3 m4 m5 0 n K Ln Wh Re cd ct) := hD
  refine lv_aload_n hx hb dX3_writeAny_5 rfl (lv_at hl 0 rfl) ?_
  refine lv_iload_n hx hb dX3_writeAny_6 rfl (lv_at hl 1 rfl) ?_
  refine vp_callSi (tc_CR (va_runV (As := [.int (nI j)]) (rest := []) ⟨hx, hb, hml, hown, hts⟩ (tX3_isColumn_y l D A cI cJ cD cC x0 x1 x2 x3 x4 Z m0 m1 m2 m3 m4 m5 0 n K Ln Wh Re cd ct H.size hI j hj) (cwV 1 hts gX3_writeAny_X3_isColumn rfl rfl rfl (by decide +kernel) ⟨Nat.le_of_ble_eq_true rfl, Nat.le_of_ble_eq_true rfl⟩) ⟨tcP.blind, (va_recv hK hP (ci := 3) (q0 := 5) rfl rfl), (tcP.go hK hP hD hE hS)⟩ rfl rfl hl.1 rfl (lv_room (Nat.le_of_ble_eq_true rfl)) dX3_writeAny_7 ⟨Nat.le_of_ble_eq_true rfl, Nat.le_of_ble_eq_true rfl⟩)) (fun r_1 hr_1 => ?_)
  subst hr_1
  refine lv_if_ne (tgt := 19) hx hb dX3_writeAny_10 (by decide) (fun _ => ?_) (fun q => absurd q (by decide))
  refine lv_iload_n hx hb dX3_writeAny_19 rfl (lv_at hl 3 rfl) ?_
  refine lv_tableIn (tgt := 131) hx hb dX3_writeAny_20 (by decide) (by decide) rfl (by decide) ?_
  refine lv_aload_n hx hb dX3_writeAny_131 rfl (lv_at hl 0 rfl) ?_
  refine lv_iload_n hx hb dX3_writeAny_132 rfl (lv_at hl 1 rfl) ?_
  refine lv_iload_n hx hb dX3_writeAny_133 rfl (lv_at hl 2 rfl) ?_
  refine lv_iload hx hb dX3_writeAny_134 (lv_at hl 4 rfl) ?_
  refine lv_i2f hx hb dX3_writeAny_136 ?_
  refine va_calli (va_runV (As := [.int (nI j), .int i, .float (FP.i2f v)]) (rest := []) ⟨hx, hb, hml, hown, hts⟩ (tX3_writeFloat_y l D A cI cJ cD cC x0 x1 x2 x3 x4 Z m0 m1 m2 m3 m4 m5 0 n K Ln Wh Re cd ct H.size hI j hj i (FP.i2f v) (tf_i2f v)) (cwV 3 hts gX3_writeAny_X3_writeFloat rfl rfl rfl (by decide +kernel) ⟨Nat.le_of_ble_eq_true rfl, Nat.le_of_ble_eq_true rfl⟩) ⟨tcP.blind, (va_recv hK hP (ci := 3) (q0 := 5) rfl rfl), (tcP.go hK hP hD hE hS)⟩ rfl rfl hl.1 rfl (lv_room (Nat.le_of_ble_eq_true rfl)) dX3_writeAny_137 ⟨Nat.le_of_ble_eq_true rfl, Nat.le_of_ble_eq_true rfl⟩) hS (fun q _ h => h) (fun q h => h) (fun r_3 u t H locs ht hvm hw hB hz1 hk1 hS => ?_)
  subst hw
  obtain ⟨hP, hD⟩ := hB
  rw [ht] at hP
  exact W.iret (v := (cdR K Ln j i 7 (K j))) hx hb hr (fun t9 ht9 hW9 => ⟨⟨(cdR K Ln j i 7 (K j)), (), rfl, rfl, by rw [ht9]; exact hP, hD⟩, hS.F ht9⟩) hS.2.2 dX3_writeAny_140
set_option maxHeartbeats 4000000 in
set_option maxRecDepth 100000 in
theorem tX3_writeAny_8 (l : Launch) (D : va_G) (A : Nat → Prop) (cI cJ cD cC : ClassId) (x0 x1 x2 x3 x4 : Nat × va_E) (Z : va_W) (m0 m1 m2 m3 m4 m5 : Nat) (th : Int32) (n : Nat) (K : Nat → Int32) (Ln : Nat → Nat) (Wh : Nat → Int64) (Re : Nat → UInt64) (cd : Int32) (ct : Nat → Int32) (sz : Nat) (hI : tcI n K Ln Wh Re) (j : Nat) (hj : j < n) (i v : Int32) : Met l yX3_writeAny wsX3_writeAny ({ frames := 4, cells := 0, slots := 0, locals := 95 }) (tcP D A (tcTY cI cJ cD cC) sz [.ref m0, .int (nI j), .int i, .int 8, .int v] (tc_Z cI cJ cD x0 x1 x2 x3 x4 Z m0 m1 m2 m3 m4 m5 th n K Ln Wh Re cd ct)) (va_Qi (fun r (_ : Unit) => r = cdR K Ln j i 8 (K j)) (fun _ t => tcB D A (tc_Z cI cJ cD x0 x1 x2 x3 x4 Z m0 m1 m2 m3 m4 m5 0 n K Ln Wh (wrX K Ln Re j i 8 (FP.i2d v)) (cdR K Ln j i 8 (K j)) (noteC ct (cdR K Ln j i 8 (K j)))) t) A) 0 0 A := by
  refine Met.ofW (cc := cX3_writeAny) (maxL := 5) (ret := (some .int)) (by decide) rfl ?_
  intro p e s m args below meth c s₁ B hml hv
  obtain ⟨rfl, hsz, hP, hK, hD, hE⟩ := hv
  have hx := B.exec
  have hb := B.bytes
  have hr := B.returns
  have hts := atoms_spec (ws := wsX3_writeAny) B.pre
  have hown : s.vm.findClass RX3 = some m.cls := findClass_of_methodNamed B.named
  have hlocks := B.notSynchronized
  have hl := lv_entry ([.ref m0, .int (nI j), .int i, .int 8, .int v]) (n := 5) (Nat.le_of_ble_eq_true rfl)
  rw [lg_entry_eq]
  generalize (lg_sl ([.ref m0, .int (nI j), .int i, .int 8, .int v]) ++ List.replicate (5 - (lg_sl ([.ref m0, .int (nI j), .int i, .int 8, .int v])).length) Slot.unset).toArray = ls at hl ⊢
  have hl : lv_has ls 5 [(0, .ref m0), (1, .int (nI j)), (2, .int i), (3, .int 8), (4, .int v)] := hl
  subst hsz
  have hS : va_S A s.heap s.heap [] := va_S.rf
  have hn60 : n ≤ 60 := hI.1
  have hkI := (hI.2.1 j hj).1
  have hL := (hI.2.1 j hj).2.1
  refine lv_aload_n hx hb dX3_writeAny_0 rfl (lv_at hl 0 rfl) ?_
  refine lv_iconst (v := 0) hx hb dX3_writeAny_1 (by decide) ?_
  refine va_put (D := D) (ci := 3) (fs := [.int th, .int (nI n), .ref m1, .ref m2, .ref m3, .ref m4, .int cd, .ref m5]) (v := .int 0) (ty := .int) (C := RX3) (T := TX3) (N := 8) hx hb hts (by decide +kernel) tyX3 tyX3_ok nmX3 hown hK hP hD hS 5 rfl rfl 0 (by decide) (hts (.fieldLink RX3 27 "TypedColumnsModel" "thrown" "I") (by decide +kernel)) (fun _ h9 => h9) rfl (by decide +kernel) rfl rfl (Nat.le_of_ble_eq_true rfl) dX3_writeAny_2 (fun H locs hP hD hS => ?_)
  have hP : va_P D vwCl (tc_Z cI cJ cD x0 x1 x2 x3 x4 Z m0 m1 m2 m3 m4 m5 0 n K Ln Wh Re cd ct) H := hP
  have hD : va_D A (tc_Z cI cJ cD x0 x1 x2 x3 x4 Z m0 m1 m2 m3 m4 m5 0 n K Ln Wh Re cd ct) := hD
  refine lv_aload_n hx hb dX3_writeAny_5 rfl (lv_at hl 0 rfl) ?_
  refine lv_iload_n hx hb dX3_writeAny_6 rfl (lv_at hl 1 rfl) ?_
  refine vp_callSi (tc_CR (va_runV (As := [.int (nI j)]) (rest := []) ⟨hx, hb, hml, hown, hts⟩ (tX3_isColumn_y l D A cI cJ cD cC x0 x1 x2 x3 x4 Z m0 m1 m2 m3 m4 m5 0 n K Ln Wh Re cd ct H.size hI j hj) (cwV 1 hts gX3_writeAny_X3_isColumn rfl rfl rfl (by decide +kernel) ⟨Nat.le_of_ble_eq_true rfl, Nat.le_of_ble_eq_true rfl⟩) ⟨tcP.blind, (va_recv hK hP (ci := 3) (q0 := 5) rfl rfl), (tcP.go hK hP hD hE hS)⟩ rfl rfl hl.1 rfl (lv_room (Nat.le_of_ble_eq_true rfl)) dX3_writeAny_7 ⟨Nat.le_of_ble_eq_true rfl, Nat.le_of_ble_eq_true rfl⟩)) (fun r_1 hr_1 => ?_)
  subst hr_1
  refine lv_if_ne (tgt := 19) hx hb dX3_writeAny_10 (by decide) (fun _ => ?_) (fun q => absurd q (by decide))
  refine lv_iload_n hx hb dX3_writeAny_19 rfl (lv_at hl 3 rfl) ?_
  refine lv_tableIn (tgt := 141) hx hb dX3_writeAny_20 (by decide) (by decide) rfl (by decide) ?_
  refine lv_aload_n hx hb dX3_writeAny_141 rfl (lv_at hl 0 rfl) ?_
  refine lv_iload_n hx hb dX3_writeAny_142 rfl (lv_at hl 1 rfl) ?_
  refine lv_iload_n hx hb dX3_writeAny_143 rfl (lv_at hl 2 rfl) ?_
  refine lv_iload hx hb dX3_writeAny_144 (lv_at hl 4 rfl) ?_
  refine lv_i2d hx hb dX3_writeAny_146 ?_
  refine va_calli (va_runV (As := [.int (nI j), .int i, .double (FP.i2d v)]) (rest := []) ⟨hx, hb, hml, hown, hts⟩ (tX3_writeDouble_y l D A cI cJ cD cC x0 x1 x2 x3 x4 Z m0 m1 m2 m3 m4 m5 0 n K Ln Wh Re cd ct H.size hI j hj i (FP.i2d v)) (cwV 3 hts gX3_writeAny_X3_writeDouble rfl rfl rfl (by decide +kernel) ⟨Nat.le_of_ble_eq_true rfl, Nat.le_of_ble_eq_true rfl⟩) ⟨tcP.blind, (va_recv hK hP (ci := 3) (q0 := 5) rfl rfl), (tcP.go hK hP hD hE hS)⟩ rfl rfl hl.1 rfl (lv_room (Nat.le_of_ble_eq_true rfl)) dX3_writeAny_147 ⟨Nat.le_of_ble_eq_true rfl, Nat.le_of_ble_eq_true rfl⟩) hS (fun q _ h => h) (fun q h => h) (fun r_3 u t H locs ht hvm hw hB hz1 hk1 hS => ?_)
  subst hw
  obtain ⟨hP, hD⟩ := hB
  rw [ht] at hP
  exact W.iret (v := (cdR K Ln j i 8 (K j))) hx hb hr (fun t9 ht9 hW9 => ⟨⟨(cdR K Ln j i 8 (K j)), (), rfl, rfl, by rw [ht9]; exact hP, hD⟩, hS.F ht9⟩) hS.2.2 dX3_writeAny_150
set_option maxHeartbeats 4000000 in
set_option maxRecDepth 100000 in
theorem tX3_writeAny_n (l : Launch) (D : va_G) (A : Nat → Prop) (cI cJ cD cC : ClassId) (x0 x1 x2 x3 x4 : Nat × va_E) (Z : va_W) (m0 m1 m2 m3 m4 m5 : Nat) (th : Int32) (n : Nat) (K : Nat → Int32) (Ln : Nat → Nat) (Wh : Nat → Int64) (Re : Nat → UInt64) (cd : Int32) (ct : Nat → Int32) (sz : Nat) (hI : tcI n K Ln Wh Re) (cx : Int32) (hc : ¬ ∃ j, j < n ∧ cx = nI j) (i kd v : Int32) : Met l yX3_writeAny wsX3_writeAny ({ frames := 1, cells := 0, slots := 0, locals := 21 }) (tcP D A (tcTY cI cJ cD cC) sz [.ref m0, .int cx, .int i, .int kd, .int v] (tc_Z cI cJ cD x0 x1 x2 x3 x4 Z m0 m1 m2 m3 m4 m5 th n K Ln Wh Re cd ct)) (va_Qi (fun r (_ : Unit) => r = 0) (fun _ t => tcB D A (tc_Z cI cJ cD x0 x1 x2 x3 x4 Z m0 m1 m2 m3 m4 m5 1 n K Ln Wh Re cd ct) t) A) 0 0 A := by
  refine Met.ofW (cc := cX3_writeAny) (maxL := 5) (ret := (some .int)) (by decide) rfl ?_
  intro p e s m args below meth c s₁ B hml hv
  obtain ⟨rfl, hsz, hP, hK, hD, hE⟩ := hv
  have hx := B.exec
  have hb := B.bytes
  have hr := B.returns
  have hts := atoms_spec (ws := wsX3_writeAny) B.pre
  have hown : s.vm.findClass RX3 = some m.cls := findClass_of_methodNamed B.named
  have hlocks := B.notSynchronized
  have hl := lv_entry ([.ref m0, .int cx, .int i, .int kd, .int v]) (n := 5) (Nat.le_of_ble_eq_true rfl)
  rw [lg_entry_eq]
  generalize (lg_sl ([.ref m0, .int cx, .int i, .int kd, .int v]) ++ List.replicate (5 - (lg_sl ([.ref m0, .int cx, .int i, .int kd, .int v])).length) Slot.unset).toArray = ls at hl ⊢
  have hl : lv_has ls 5 [(0, .ref m0), (1, .int cx), (2, .int i), (3, .int kd), (4, .int v)] := hl
  subst hsz
  have hS : va_S A s.heap s.heap [] := va_S.rf
  have hn60 : n ≤ 60 := hI.1
  refine lv_aload_n hx hb dX3_writeAny_0 rfl (lv_at hl 0 rfl) ?_
  refine lv_iconst (v := 0) hx hb dX3_writeAny_1 (by decide) ?_
  refine va_put (D := D) (ci := 3) (fs := [.int th, .int (nI n), .ref m1, .ref m2, .ref m3, .ref m4, .int cd, .ref m5]) (v := .int 0) (ty := .int) (C := RX3) (T := TX3) (N := 8) hx hb hts (by decide +kernel) tyX3 tyX3_ok nmX3 hown hK hP hD hS 5 rfl rfl 0 (by decide) (hts (.fieldLink RX3 27 "TypedColumnsModel" "thrown" "I") (by decide +kernel)) (fun _ h9 => h9) rfl (by decide +kernel) rfl rfl (Nat.le_of_ble_eq_true rfl) dX3_writeAny_2 (fun H locs hP hD hS => ?_)
  have hP : va_P D vwCl (tc_Z cI cJ cD x0 x1 x2 x3 x4 Z m0 m1 m2 m3 m4 m5 0 n K Ln Wh Re cd ct) H := hP
  have hD : va_D A (tc_Z cI cJ cD x0 x1 x2 x3 x4 Z m0 m1 m2 m3 m4 m5 0 n K Ln Wh Re cd ct) := hD
  refine lv_aload_n hx hb dX3_writeAny_5 rfl (lv_at hl 0 rfl) ?_
  refine lv_iload_n hx hb dX3_writeAny_6 rfl (lv_at hl 1 rfl) ?_
  refine vp_callSi (tc_CR (va_runV (As := [.int cx]) (rest := []) ⟨hx, hb, hml, hown, hts⟩ (tX3_isColumn_n l D A cI cJ cD cC x0 x1 x2 x3 x4 Z m0 m1 m2 m3 m4 m5 0 n K Ln Wh Re cd ct H.size hI cx hc) (cwV 1 hts gX3_writeAny_X3_isColumn rfl rfl rfl (by decide +kernel) ⟨Nat.le_of_ble_eq_true rfl, Nat.le_of_ble_eq_true rfl⟩) ⟨tcP.blind, (va_recv hK hP (ci := 3) (q0 := 5) rfl rfl), (tcP.go hK hP hD hE hS)⟩ rfl rfl hl.1 rfl (lv_room (Nat.le_of_ble_eq_true rfl)) dX3_writeAny_7 ⟨Nat.le_of_ble_eq_true rfl, Nat.le_of_ble_eq_true rfl⟩)) (fun r_1 hr_1 => ?_)
  subst hr_1
  refine lv_if_ne (tgt := 19) hx hb dX3_writeAny_10 (by decide) (fun q => absurd (by decide) q) (fun _ => ?_)
  refine lv_aload_n hx hb dX3_writeAny_13 rfl (lv_at hl 0 rfl) ?_
  refine lv_iconst (v := 1) hx hb dX3_writeAny_14 (by decide) ?_
  refine va_calli (va_runV (As := [.int 1]) (rest := []) ⟨hx, hb, hml, hown, hts⟩ (tX3_fail l D A cI cJ cD cC x0 x1 x2 x3 x4 Z m0 m1 m2 m3 m4 m5 0 n K Ln Wh Re cd ct H.size 1) (cwV 1 hts gX3_writeAny_X3_fail rfl rfl rfl (by decide +kernel) ⟨Nat.le_of_ble_eq_true rfl, Nat.le_of_ble_eq_true rfl⟩) ⟨tcP.blind, (va_recv hK hP (ci := 3) (q0 := 5) rfl rfl), (tcP.go hK hP hD hE hS)⟩ rfl rfl hl.1 rfl (lv_room (Nat.le_of_ble_eq_true rfl)) dX3_writeAny_15 ⟨Nat.le_of_ble_eq_true rfl, Nat.le_of_ble_eq_true rfl⟩) hS (fun q _ h => h) (fun q h => h) (fun r_3 u t H locs ht hvm hw hB hz1 hk1 hS => ?_)
  subst hw
  obtain ⟨hP, hD⟩ := hB
  rw [ht] at hP
  exact W.iret (v := 0) hx hb hr (fun t9 ht9 hW9 => ⟨⟨0, (), rfl, rfl, by rw [ht9]; exact hP, hD⟩, hS.F ht9⟩) hS.2.2 dX3_writeAny_18
theorem kNo8 {k : Int32} (h : kHas k = false) : k.toInt < 1 ∨ 8 < k.toInt := by
  have h1 : ¬ (1 ≤ k.toInt ∧ k.toInt ≤ 8) := fun q => by have := (kHas_iff k).mpr q; rw [this] at h; cases h
  omega
set_option maxHeartbeats 4000000 in
set_option maxRecDepth 100000 in
theorem tX3_writeAny_k (l : Launch) (D : va_G) (A : Nat → Prop) (cI cJ cD cC : ClassId) (x0 x1 x2 x3 x4 : Nat × va_E) (Z : va_W) (m0 m1 m2 m3 m4 m5 : Nat) (th : Int32) (n : Nat) (K : Nat → Int32) (Ln : Nat → Nat) (Wh : Nat → Int64) (Re : Nat → UInt64) (cd : Int32) (ct : Nat → Int32) (sz : Nat) (hI : tcI n K Ln Wh Re) (j : Nat) (hj : j < n) (i kd v : Int32) (hk : kHas kd = false) : Met l yX3_writeAny wsX3_writeAny ({ frames := 1, cells := 0, slots := 0, locals := 21 }) (tcP D A (tcTY cI cJ cD cC) sz [.ref m0, .int (nI j), .int i, .int kd, .int v] (tc_Z cI cJ cD x0 x1 x2 x3 x4 Z m0 m1 m2 m3 m4 m5 th n K Ln Wh Re cd ct)) (va_Qi (fun r (_ : Unit) => r = 0) (fun _ t => tcB D A (tc_Z cI cJ cD x0 x1 x2 x3 x4 Z m0 m1 m2 m3 m4 m5 2 n K Ln Wh Re cd ct) t) A) 0 0 A := by
  refine Met.ofW (cc := cX3_writeAny) (maxL := 5) (ret := (some .int)) (by decide) rfl ?_
  intro p e s m args below meth c s₁ B hml hv
  obtain ⟨rfl, hsz, hP, hK, hD, hE⟩ := hv
  have hx := B.exec
  have hb := B.bytes
  have hr := B.returns
  have hts := atoms_spec (ws := wsX3_writeAny) B.pre
  have hown : s.vm.findClass RX3 = some m.cls := findClass_of_methodNamed B.named
  have hlocks := B.notSynchronized
  have hl := lv_entry ([.ref m0, .int (nI j), .int i, .int kd, .int v]) (n := 5) (Nat.le_of_ble_eq_true rfl)
  rw [lg_entry_eq]
  generalize (lg_sl ([.ref m0, .int (nI j), .int i, .int kd, .int v]) ++ List.replicate (5 - (lg_sl ([.ref m0, .int (nI j), .int i, .int kd, .int v])).length) Slot.unset).toArray = ls at hl ⊢
  have hl : lv_has ls 5 [(0, .ref m0), (1, .int (nI j)), (2, .int i), (3, .int kd), (4, .int v)] := hl
  subst hsz
  have hS : va_S A s.heap s.heap [] := va_S.rf
  have hn60 : n ≤ 60 := hI.1
  have hkI := (hI.2.1 j hj).1
  have hL := (hI.2.1 j hj).2.1
  refine lv_aload_n hx hb dX3_writeAny_0 rfl (lv_at hl 0 rfl) ?_
  refine lv_iconst (v := 0) hx hb dX3_writeAny_1 (by decide) ?_
  refine va_put (D := D) (ci := 3) (fs := [.int th, .int (nI n), .ref m1, .ref m2, .ref m3, .ref m4, .int cd, .ref m5]) (v := .int 0) (ty := .int) (C := RX3) (T := TX3) (N := 8) hx hb hts (by decide +kernel) tyX3 tyX3_ok nmX3 hown hK hP hD hS 5 rfl rfl 0 (by decide) (hts (.fieldLink RX3 27 "TypedColumnsModel" "thrown" "I") (by decide +kernel)) (fun _ h9 => h9) rfl (by decide +kernel) rfl rfl (Nat.le_of_ble_eq_true rfl) dX3_writeAny_2 (fun H locs hP hD hS => ?_)
  have hP : va_P D vwCl (tc_Z cI cJ cD x0 x1 x2 x3 x4 Z m0 m1 m2 m3 m4 m5 0 n K Ln Wh Re cd ct) H := hP
  have hD : va_D A (tc_Z cI cJ cD x0 x1 x2 x3 x4 Z m0 m1 m2 m3 m4 m5 0 n K Ln Wh Re cd ct) := hD
  refine lv_aload_n hx hb dX3_writeAny_5 rfl (lv_at hl 0 rfl) ?_
  refine lv_iload_n hx hb dX3_writeAny_6 rfl (lv_at hl 1 rfl) ?_
  refine vp_callSi (tc_CR (va_runV (As := [.int (nI j)]) (rest := []) ⟨hx, hb, hml, hown, hts⟩ (tX3_isColumn_y l D A cI cJ cD cC x0 x1 x2 x3 x4 Z m0 m1 m2 m3 m4 m5 0 n K Ln Wh Re cd ct H.size hI j hj) (cwV 1 hts gX3_writeAny_X3_isColumn rfl rfl rfl (by decide +kernel) ⟨Nat.le_of_ble_eq_true rfl, Nat.le_of_ble_eq_true rfl⟩) ⟨tcP.blind, (va_recv hK hP (ci := 3) (q0 := 5) rfl rfl), (tcP.go hK hP hD hE hS)⟩ rfl rfl hl.1 rfl (lv_room (Nat.le_of_ble_eq_true rfl)) dX3_writeAny_7 ⟨Nat.le_of_ble_eq_true rfl, Nat.le_of_ble_eq_true rfl⟩)) (fun r_1 hr_1 => ?_)
  subst hr_1
  refine lv_if_ne (tgt := 19) hx hb dX3_writeAny_10 (by decide) (fun _ => ?_) (fun q => absurd q (by decide))
  refine lv_iload_n hx hb dX3_writeAny_19 rfl (lv_at hl 3 rfl) ?_
  refine lv_tableOut (tgt := 151) hx hb dX3_writeAny_20 (kNo8 hk) (by decide) ?_
  refine lv_aload_n hx hb dX3_writeAny_151 rfl (lv_at hl 0 rfl) ?_
  refine lv_iconst (v := 2) hx hb dX3_writeAny_152 (by decide) ?_
  refine va_calli (va_runV (As := [.int 2]) (rest := []) ⟨hx, hb, hml, hown, hts⟩ (tX3_fail l D A cI cJ cD cC x0 x1 x2 x3 x4 Z m0 m1 m2 m3 m4 m5 0 n K Ln Wh Re cd ct H.size 2) (cwV 1 hts gX3_writeAny_X3_fail rfl rfl rfl (by decide +kernel) ⟨Nat.le_of_ble_eq_true rfl, Nat.le_of_ble_eq_true rfl⟩) ⟨tcP.blind, (va_recv hK hP (ci := 3) (q0 := 5) rfl rfl), (tcP.go hK hP hD hE hS)⟩ rfl rfl hl.1 rfl (lv_room (Nat.le_of_ble_eq_true rfl)) dX3_writeAny_153 ⟨Nat.le_of_ble_eq_true rfl, Nat.le_of_ble_eq_true rfl⟩) hS (fun q _ h => h) (fun q h => h) (fun r_3 u t H locs ht hvm hw hB hz1 hk1 hS => ?_)
  subst hw
  obtain ⟨hP, hD⟩ := hB
  rw [ht] at hP
  exact W.iret (v := 0) hx hb hr (fun t9 ht9 hW9 => ⟨⟨0, (), rfl, rfl, by rw [ht9]; exact hP, hD⟩, hS.F ht9⟩) hS.2.2 dX3_writeAny_156
set_option maxHeartbeats 4000000 in
set_option maxRecDepth 100000 in
theorem tX3_kind_y (l : Launch) (D : va_G) (A : Nat → Prop) (cI cJ cD cC : ClassId) (x0 x1 x2 x3 x4 : Nat × va_E) (Z : va_W) (m0 m1 m2 m3 m4 m5 : Nat) (th : Int32) (n : Nat) (K : Nat → Int32) (Ln : Nat → Nat) (Wh : Nat → Int64) (Re : Nat → UInt64) (cd : Int32) (ct : Nat → Int32) (sz : Nat) (hI : tcI n K Ln Wh Re) (j : Nat) (hj : j < n)  : Met l yX3_kind wsX3_kind ({ frames := 1, cells := 0, slots := 0, locals := 21 }) (tcP D A (tcTY cI cJ cD cC) sz [.ref m0, .int (nI j)] (tc_Z cI cJ cD x0 x1 x2 x3 x4 Z m0 m1 m2 m3 m4 m5 th n K Ln Wh Re cd ct)) (va_Qi (fun r (_ : Unit) => r = K j) (fun _ t => tcB D A (tc_Z cI cJ cD x0 x1 x2 x3 x4 Z m0 m1 m2 m3 m4 m5 0 n K Ln Wh Re cd ct) t) A) 0 0 A := by
  refine Met.ofW (cc := cX3_kind) (maxL := 2) (ret := (some .int)) (by decide) rfl ?_
  intro p e s m args below meth c s₁ B hml hv
  obtain ⟨rfl, hsz, hP, hK, hD, hE⟩ := hv
  have hx := B.exec
  have hb := B.bytes
  have hr := B.returns
  have hts := atoms_spec (ws := wsX3_kind) B.pre
  have hown : s.vm.findClass RX3 = some m.cls := findClass_of_methodNamed B.named
  have hlocks := B.notSynchronized
  have hl := lv_entry ([.ref m0, .int (nI j)]) (n := 2) (Nat.le_of_ble_eq_true rfl)
  rw [lg_entry_eq]
  generalize (lg_sl ([.ref m0, .int (nI j)]) ++ List.replicate (2 - (lg_sl ([.ref m0, .int (nI j)])).length) Slot.unset).toArray = ls at hl ⊢
  have hl : lv_has ls 2 [(0, .ref m0), (1, .int (nI j))] := hl
  subst hsz
  have hS : va_S A s.heap s.heap [] := va_S.rf
  have hn60 : n ≤ 60 := hI.1
  have hkI := (hI.2.1 j hj).1
  have hL := (hI.2.1 j hj).2.1
  refine lv_aload_n hx hb dX3_kind_0 rfl (lv_at hl 0 rfl) ?_
  refine lv_iconst (v := 0) hx hb dX3_kind_1 (by decide) ?_
  refine va_put (D := D) (ci := 3) (fs := [.int th, .int (nI n), .ref m1, .ref m2, .ref m3, .ref m4, .int cd, .ref m5]) (v := .int 0) (ty := .int) (C := RX3) (T := TX3) (N := 8) hx hb hts (by decide +kernel) tyX3 tyX3_ok nmX3 hown hK hP hD hS 5 rfl rfl 0 (by decide) (hts (.fieldLink RX3 27 "TypedColumnsModel" "thrown" "I") (by decide +kernel)) (fun _ h9 => h9) rfl (by decide +kernel) rfl rfl (Nat.le_of_ble_eq_true rfl) dX3_kind_2 (fun H locs hP hD hS => ?_)
  have hP : va_P D vwCl (tc_Z cI cJ cD x0 x1 x2 x3 x4 Z m0 m1 m2 m3 m4 m5 0 n K Ln Wh Re cd ct) H := hP
  have hD : va_D A (tc_Z cI cJ cD x0 x1 x2 x3 x4 Z m0 m1 m2 m3 m4 m5 0 n K Ln Wh Re cd ct) := hD
  refine lv_aload_n hx hb dX3_kind_5 rfl (lv_at hl 0 rfl) ?_
  refine lv_iload_n hx hb dX3_kind_6 rfl (lv_at hl 1 rfl) ?_
  refine vp_callSi (tc_CR (va_runV (As := [.int (nI j)]) (rest := []) ⟨hx, hb, hml, hown, hts⟩ (tX3_isColumn_y l D A cI cJ cD cC x0 x1 x2 x3 x4 Z m0 m1 m2 m3 m4 m5 0 n K Ln Wh Re cd ct H.size hI j hj) (cwV 1 hts gX3_kind_X3_isColumn rfl rfl rfl (by decide +kernel) ⟨Nat.le_of_ble_eq_true rfl, Nat.le_of_ble_eq_true rfl⟩) ⟨tcP.blind, (va_recv hK hP (ci := 3) (q0 := 5) rfl rfl), (tcP.go hK hP hD hE hS)⟩ rfl rfl hl.1 rfl (lv_room (Nat.le_of_ble_eq_true rfl)) dX3_kind_7 ⟨Nat.le_of_ble_eq_true rfl, Nat.le_of_ble_eq_true rfl⟩)) (fun r_1 hr_1 => ?_)
  subst hr_1
  refine lv_if_eq (tgt := 22) hx hb dX3_kind_10 (by decide) (fun q => absurd q (by decide)) (fun _ => ?_)
  refine lv_aload_n hx hb dX3_kind_13 rfl (lv_at hl 0 rfl) ?_
  refine va_get (D := D) (ci := 3) (fs := [.int 0, .int (nI n), .ref m1, .ref m2, .ref m3, .ref m4, .int cd, .ref m5]) (v := .ref m1) (C := RX3) (T := TX3) (N := 8) hx hb hts (by decide +kernel) hown hK hP 5 rfl rfl 2 (by decide) (hts (.fieldLink RX3 9 "TypedColumnsModel" "kinds" "[I") (by decide +kernel)) (fun _ h9 => h9) rfl dX3_kind_14 ?_
  refine lv_iload_n hx hb dX3_kind_17 rfl (lv_at hl 1 rfl) ?_
  refine tc_iald (f := K) (v := (K j)) hx hb hK hP 6 0 rfl rfl (vp_in_nI (show j < 60 by omega) (by decide)) (by rw [nI_clamp (show j < 2 ^ 31 by omega)]) dX3_kind_18 ?_
  refine lv_goto (tgt := 27) hx hb dX3_kind_19 (by decide) ?_
  exact W.iret (v := (K j)) hx hb hr (fun t9 ht9 hW9 => ⟨⟨(K j), (), rfl, rfl, by rw [ht9]; exact hP, hD⟩, hS.F ht9⟩) hS.2.2 dX3_kind_27
set_option maxHeartbeats 4000000 in
set_option maxRecDepth 100000 in
theorem tX3_kind_n (l : Launch) (D : va_G) (A : Nat → Prop) (cI cJ cD cC : ClassId) (x0 x1 x2 x3 x4 : Nat × va_E) (Z : va_W) (m0 m1 m2 m3 m4 m5 : Nat) (th : Int32) (n : Nat) (K : Nat → Int32) (Ln : Nat → Nat) (Wh : Nat → Int64) (Re : Nat → UInt64) (cd : Int32) (ct : Nat → Int32) (sz : Nat) (hI : tcI n K Ln Wh Re) (cx : Int32) (hc : ¬ ∃ j, j < n ∧ cx = nI j)  : Met l yX3_kind wsX3_kind ({ frames := 1, cells := 0, slots := 0, locals := 21 }) (tcP D A (tcTY cI cJ cD cC) sz [.ref m0, .int cx] (tc_Z cI cJ cD x0 x1 x2 x3 x4 Z m0 m1 m2 m3 m4 m5 th n K Ln Wh Re cd ct)) (va_Qi (fun r (_ : Unit) => r = 0) (fun _ t => tcB D A (tc_Z cI cJ cD x0 x1 x2 x3 x4 Z m0 m1 m2 m3 m4 m5 1 n K Ln Wh Re cd ct) t) A) 0 0 A := by
  refine Met.ofW (cc := cX3_kind) (maxL := 2) (ret := (some .int)) (by decide) rfl ?_
  intro p e s m args below meth c s₁ B hml hv
  obtain ⟨rfl, hsz, hP, hK, hD, hE⟩ := hv
  have hx := B.exec
  have hb := B.bytes
  have hr := B.returns
  have hts := atoms_spec (ws := wsX3_kind) B.pre
  have hown : s.vm.findClass RX3 = some m.cls := findClass_of_methodNamed B.named
  have hlocks := B.notSynchronized
  have hl := lv_entry ([.ref m0, .int cx]) (n := 2) (Nat.le_of_ble_eq_true rfl)
  rw [lg_entry_eq]
  generalize (lg_sl ([.ref m0, .int cx]) ++ List.replicate (2 - (lg_sl ([.ref m0, .int cx])).length) Slot.unset).toArray = ls at hl ⊢
  have hl : lv_has ls 2 [(0, .ref m0), (1, .int cx)] := hl
  subst hsz
  have hS : va_S A s.heap s.heap [] := va_S.rf
  have hn60 : n ≤ 60 := hI.1
  refine lv_aload_n hx hb dX3_kind_0 rfl (lv_at hl 0 rfl) ?_
  refine lv_iconst (v := 0) hx hb dX3_kind_1 (by decide) ?_
  refine va_put (D := D) (ci := 3) (fs := [.int th, .int (nI n), .ref m1, .ref m2, .ref m3, .ref m4, .int cd, .ref m5]) (v := .int 0) (ty := .int) (C := RX3) (T := TX3) (N := 8) hx hb hts (by decide +kernel) tyX3 tyX3_ok nmX3 hown hK hP hD hS 5 rfl rfl 0 (by decide) (hts (.fieldLink RX3 27 "TypedColumnsModel" "thrown" "I") (by decide +kernel)) (fun _ h9 => h9) rfl (by decide +kernel) rfl rfl (Nat.le_of_ble_eq_true rfl) dX3_kind_2 (fun H locs hP hD hS => ?_)
  have hP : va_P D vwCl (tc_Z cI cJ cD x0 x1 x2 x3 x4 Z m0 m1 m2 m3 m4 m5 0 n K Ln Wh Re cd ct) H := hP
  have hD : va_D A (tc_Z cI cJ cD x0 x1 x2 x3 x4 Z m0 m1 m2 m3 m4 m5 0 n K Ln Wh Re cd ct) := hD
  refine lv_aload_n hx hb dX3_kind_5 rfl (lv_at hl 0 rfl) ?_
  refine lv_iload_n hx hb dX3_kind_6 rfl (lv_at hl 1 rfl) ?_
  refine vp_callSi (tc_CR (va_runV (As := [.int cx]) (rest := []) ⟨hx, hb, hml, hown, hts⟩ (tX3_isColumn_n l D A cI cJ cD cC x0 x1 x2 x3 x4 Z m0 m1 m2 m3 m4 m5 0 n K Ln Wh Re cd ct H.size hI cx hc) (cwV 1 hts gX3_kind_X3_isColumn rfl rfl rfl (by decide +kernel) ⟨Nat.le_of_ble_eq_true rfl, Nat.le_of_ble_eq_true rfl⟩) ⟨tcP.blind, (va_recv hK hP (ci := 3) (q0 := 5) rfl rfl), (tcP.go hK hP hD hE hS)⟩ rfl rfl hl.1 rfl (lv_room (Nat.le_of_ble_eq_true rfl)) dX3_kind_7 ⟨Nat.le_of_ble_eq_true rfl, Nat.le_of_ble_eq_true rfl⟩)) (fun r_1 hr_1 => ?_)
  subst hr_1
  refine lv_if_eq (tgt := 22) hx hb dX3_kind_10 (by decide) (fun _ => ?_) (fun q => absurd (by decide) q)
  refine lv_aload_n hx hb dX3_kind_22 rfl (lv_at hl 0 rfl) ?_
  refine lv_iconst (v := 1) hx hb dX3_kind_23 (by decide) ?_
  refine va_calli (va_runV (As := [.int 1]) (rest := []) ⟨hx, hb, hml, hown, hts⟩ (tX3_fail l D A cI cJ cD cC x0 x1 x2 x3 x4 Z m0 m1 m2 m3 m4 m5 0 n K Ln Wh Re cd ct H.size 1) (cwV 1 hts gX3_kind_X3_fail rfl rfl rfl (by decide +kernel) ⟨Nat.le_of_ble_eq_true rfl, Nat.le_of_ble_eq_true rfl⟩) ⟨tcP.blind, (va_recv hK hP (ci := 3) (q0 := 5) rfl rfl), (tcP.go hK hP hD hE hS)⟩ rfl rfl hl.1 rfl (lv_room (Nat.le_of_ble_eq_true rfl)) dX3_kind_24 ⟨Nat.le_of_ble_eq_true rfl, Nat.le_of_ble_eq_true rfl⟩) hS (fun q _ h => h) (fun q h => h) (fun r_3 u t H locs ht hvm hw hB hz1 hk1 hS => ?_)
  subst hw
  obtain ⟨hP, hD⟩ := hB
  rw [ht] at hP
  exact W.iret (v := 0) hx hb hr (fun t9 ht9 hW9 => ⟨⟨0, (), rfl, rfl, by rw [ht9]; exact hP, hD⟩, hS.F ht9⟩) hS.2.2 dX3_kind_27
set_option maxHeartbeats 4000000 in
set_option maxRecDepth 100000 in
theorem tX3_length_y (l : Launch) (D : va_G) (A : Nat → Prop) (cI cJ cD cC : ClassId) (x0 x1 x2 x3 x4 : Nat × va_E) (Z : va_W) (m0 m1 m2 m3 m4 m5 : Nat) (th : Int32) (n : Nat) (K : Nat → Int32) (Ln : Nat → Nat) (Wh : Nat → Int64) (Re : Nat → UInt64) (cd : Int32) (ct : Nat → Int32) (sz : Nat) (hI : tcI n K Ln Wh Re) (j : Nat) (hj : j < n)  : Met l yX3_length wsX3_length ({ frames := 1, cells := 0, slots := 0, locals := 21 }) (tcP D A (tcTY cI cJ cD cC) sz [.ref m0, .int (nI j)] (tc_Z cI cJ cD x0 x1 x2 x3 x4 Z m0 m1 m2 m3 m4 m5 th n K Ln Wh Re cd ct)) (va_Qi (fun r (_ : Unit) => r = tc_cl (K j) (Ln j)) (fun _ t => tcB D A (tc_Z cI cJ cD x0 x1 x2 x3 x4 Z m0 m1 m2 m3 m4 m5 0 n K Ln Wh Re (kCol (K j)) (noteC ct (kCol (K j)))) t) A) 0 0 A := by
  refine Met.ofW (cc := cX3_length) (maxL := 2) (ret := (some .int)) (by decide) rfl ?_
  intro p e s m args below meth c s₁ B hml hv
  obtain ⟨rfl, hsz, hP, hK, hD, hE⟩ := hv
  have hx := B.exec
  have hb := B.bytes
  have hr := B.returns
  have hts := atoms_spec (ws := wsX3_length) B.pre
  have hown : s.vm.findClass RX3 = some m.cls := findClass_of_methodNamed B.named
  have hlocks := B.notSynchronized
  have hl := lv_entry ([.ref m0, .int (nI j)]) (n := 2) (Nat.le_of_ble_eq_true rfl)
  rw [lg_entry_eq]
  generalize (lg_sl ([.ref m0, .int (nI j)]) ++ List.replicate (2 - (lg_sl ([.ref m0, .int (nI j)])).length) Slot.unset).toArray = ls at hl ⊢
  have hl : lv_has ls 2 [(0, .ref m0), (1, .int (nI j))] := hl
  subst hsz
  have hS : va_S A s.heap s.heap [] := va_S.rf
  have hn60 : n ≤ 60 := hI.1
  have hkI := (hI.2.1 j hj).1
  have hL := (hI.2.1 j hj).2.1
  refine lv_aload_n hx hb dX3_length_0 rfl (lv_at hl 0 rfl) ?_
  refine lv_iconst (v := 0) hx hb dX3_length_1 (by decide) ?_
  refine va_put (D := D) (ci := 3) (fs := [.int th, .int (nI n), .ref m1, .ref m2, .ref m3, .ref m4, .int cd, .ref m5]) (v := .int 0) (ty := .int) (C := RX3) (T := TX3) (N := 8) hx hb hts (by decide +kernel) tyX3 tyX3_ok nmX3 hown hK hP hD hS 5 rfl rfl 0 (by decide) (hts (.fieldLink RX3 27 "TypedColumnsModel" "thrown" "I") (by decide +kernel)) (fun _ h9 => h9) rfl (by decide +kernel) rfl rfl (Nat.le_of_ble_eq_true rfl) dX3_length_2 (fun H locs hP hD hS => ?_)
  have hP : va_P D vwCl (tc_Z cI cJ cD x0 x1 x2 x3 x4 Z m0 m1 m2 m3 m4 m5 0 n K Ln Wh Re cd ct) H := hP
  have hD : va_D A (tc_Z cI cJ cD x0 x1 x2 x3 x4 Z m0 m1 m2 m3 m4 m5 0 n K Ln Wh Re cd ct) := hD
  refine lv_aload_n hx hb dX3_length_5 rfl (lv_at hl 0 rfl) ?_
  refine lv_iload_n hx hb dX3_length_6 rfl (lv_at hl 1 rfl) ?_
  refine vp_callSi (tc_CR (va_runV (As := [.int (nI j)]) (rest := []) ⟨hx, hb, hml, hown, hts⟩ (tX3_isColumn_y l D A cI cJ cD cC x0 x1 x2 x3 x4 Z m0 m1 m2 m3 m4 m5 0 n K Ln Wh Re cd ct H.size hI j hj) (cwV 1 hts gX3_length_X3_isColumn rfl rfl rfl (by decide +kernel) ⟨Nat.le_of_ble_eq_true rfl, Nat.le_of_ble_eq_true rfl⟩) ⟨tcP.blind, (va_recv hK hP (ci := 3) (q0 := 5) rfl rfl), (tcP.go hK hP hD hE hS)⟩ rfl rfl hl.1 rfl (lv_room (Nat.le_of_ble_eq_true rfl)) dX3_length_7 ⟨Nat.le_of_ble_eq_true rfl, Nat.le_of_ble_eq_true rfl⟩)) (fun r_1 hr_1 => ?_)
  subst hr_1
  refine lv_if_ne (tgt := 19) hx hb dX3_length_10 (by decide) (fun _ => ?_) (fun q => absurd q (by decide))
  refine lv_aload_n hx hb dX3_length_19 rfl (lv_at hl 0 rfl) ?_
  refine lv_aload_n hx hb dX3_length_20 rfl (lv_at hl 0 rfl) ?_
  refine lv_iload_n hx hb dX3_length_21 rfl (lv_at hl 1 rfl) ?_
  refine vp_callSi (tc_CR (va_runV (As := [.int (nI j)]) (rest := [.ref m0]) ⟨hx, hb, hml, hown, hts⟩ (tX3_codeOf l D A cI cJ cD cC x0 x1 x2 x3 x4 Z m0 m1 m2 m3 m4 m5 0 n K Ln Wh Re cd ct H.size hI j hj) (cwV 1 hts gX3_length_X3_codeOf rfl rfl rfl (by decide +kernel) ⟨Nat.le_of_ble_eq_true rfl, Nat.le_of_ble_eq_true rfl⟩) ⟨tcP.blind, (va_recv hK hP (ci := 3) (q0 := 5) rfl rfl), (tcP.go hK hP hD hE hS)⟩ rfl rfl hl.1 rfl (lv_room (Nat.le_of_ble_eq_true rfl)) dX3_length_22 ⟨Nat.le_of_ble_eq_true rfl, Nat.le_of_ble_eq_true rfl⟩)) (fun r_3 hr_3 => ?_)
  subst hr_3
  refine va_calli (va_runV (As := [.int (kCol (K j))]) (rest := []) ⟨hx, hb, hml, hown, hts⟩ (tX3_note l D A cI cJ cD cC x0 x1 x2 x3 x4 Z m0 m1 m2 m3 m4 m5 0 n K Ln Wh Re cd ct H.size (kCol (K j)) (kCol_in _)) (cwV 1 hts gX3_length_X3_note rfl rfl rfl (by decide +kernel) ⟨Nat.le_of_ble_eq_true rfl, Nat.le_of_ble_eq_true rfl⟩) ⟨tcP.blind, (va_recv hK hP (ci := 3) (q0 := 5) rfl rfl), (tcP.go hK hP hD hE hS)⟩ rfl rfl hl.1 rfl (lv_room (Nat.le_of_ble_eq_true rfl)) dX3_length_25 ⟨Nat.le_of_ble_eq_true rfl, Nat.le_of_ble_eq_true rfl⟩) hS (fun q _ h => h) (fun q h => h) (fun r_4 u t H locs ht hvm hw hB hz1 hk1 hS => ?_)
  subst hw
  obtain ⟨hP, hD⟩ := hB
  rw [ht] at hP
  refine lv_if_eq (tgt := 40) hx hb dX3_length_28 (by decide) (fun c_5 => ?_) (fun c_5 => ?_)
  · refine lv_iconst (v := (-1)) hx hb dX3_length_40 (by decide) ?_
    exact W.iret (v := (-1)) hx hb hr (fun t9 ht9 hW9 => ⟨⟨(-1), (), rfl, by unfold tc_cl; rw [if_neg (fun q => tb_dn c_5 (kHas_col q))], by rw [ht9]; exact hP, hD⟩, hS.F ht9⟩) hS.2.2 dX3_length_41
  · refine lv_aload_n hx hb dX3_length_31 rfl (lv_at hl 0 rfl) ?_
    refine va_get (D := D) (ci := 3) (fs := [.int 0, .int (nI n), .ref m1, .ref m2, .ref m3, .ref m4, .int (kCol (K j)), .ref m5]) (v := .ref m2) (C := RX3) (T := TX3) (N := 8) hx hb hts (by decide +kernel) hown hK hP 5 rfl rfl 3 (by decide) (hts (.fieldLink RX3 13 "TypedColumnsModel" "lengths" "[I") (by decide +kernel)) (fun _ h9 => h9) rfl dX3_length_32 ?_
    refine lv_iload_n hx hb dX3_length_35 rfl (lv_at hl 1 rfl) ?_
    refine tc_iald (f := (fun j => nI (Ln j))) (v := (nI (Ln j))) hx hb hK hP 7 0 rfl rfl (vp_in_nI (show j < 60 by omega) (by decide)) (by rw [nI_clamp (show j < 2 ^ 31 by omega)]) dX3_length_36 ?_
    refine lv_goto (tgt := 41) hx hb dX3_length_37 (by decide) ?_
    exact W.iret (v := (nI (Ln j))) hx hb hr (fun t9 ht9 hW9 => ⟨⟨(nI (Ln j)), (), rfl, (tc_cl_has (kCol_has hkI (tb_dp c_5))).symm, by rw [ht9]; exact hP, hD⟩, hS.F ht9⟩) hS.2.2 dX3_length_41
set_option maxHeartbeats 4000000 in
set_option maxRecDepth 100000 in
theorem tX3_length_n (l : Launch) (D : va_G) (A : Nat → Prop) (cI cJ cD cC : ClassId) (x0 x1 x2 x3 x4 : Nat × va_E) (Z : va_W) (m0 m1 m2 m3 m4 m5 : Nat) (th : Int32) (n : Nat) (K : Nat → Int32) (Ln : Nat → Nat) (Wh : Nat → Int64) (Re : Nat → UInt64) (cd : Int32) (ct : Nat → Int32) (sz : Nat) (hI : tcI n K Ln Wh Re) (cx : Int32) (hc : ¬ ∃ j, j < n ∧ cx = nI j)  : Met l yX3_length wsX3_length ({ frames := 1, cells := 0, slots := 0, locals := 21 }) (tcP D A (tcTY cI cJ cD cC) sz [.ref m0, .int cx] (tc_Z cI cJ cD x0 x1 x2 x3 x4 Z m0 m1 m2 m3 m4 m5 th n K Ln Wh Re cd ct)) (va_Qi (fun r (_ : Unit) => r = 0) (fun _ t => tcB D A (tc_Z cI cJ cD x0 x1 x2 x3 x4 Z m0 m1 m2 m3 m4 m5 1 n K Ln Wh Re cd ct) t) A) 0 0 A := by
  refine Met.ofW (cc := cX3_length) (maxL := 2) (ret := (some .int)) (by decide) rfl ?_
  intro p e s m args below meth c s₁ B hml hv
  obtain ⟨rfl, hsz, hP, hK, hD, hE⟩ := hv
  have hx := B.exec
  have hb := B.bytes
  have hr := B.returns
  have hts := atoms_spec (ws := wsX3_length) B.pre
  have hown : s.vm.findClass RX3 = some m.cls := findClass_of_methodNamed B.named
  have hlocks := B.notSynchronized
  have hl := lv_entry ([.ref m0, .int cx]) (n := 2) (Nat.le_of_ble_eq_true rfl)
  rw [lg_entry_eq]
  generalize (lg_sl ([.ref m0, .int cx]) ++ List.replicate (2 - (lg_sl ([.ref m0, .int cx])).length) Slot.unset).toArray = ls at hl ⊢
  have hl : lv_has ls 2 [(0, .ref m0), (1, .int cx)] := hl
  subst hsz
  have hS : va_S A s.heap s.heap [] := va_S.rf
  have hn60 : n ≤ 60 := hI.1
  refine lv_aload_n hx hb dX3_length_0 rfl (lv_at hl 0 rfl) ?_
  refine lv_iconst (v := 0) hx hb dX3_length_1 (by decide) ?_
  refine va_put (D := D) (ci := 3) (fs := [.int th, .int (nI n), .ref m1, .ref m2, .ref m3, .ref m4, .int cd, .ref m5]) (v := .int 0) (ty := .int) (C := RX3) (T := TX3) (N := 8) hx hb hts (by decide +kernel) tyX3 tyX3_ok nmX3 hown hK hP hD hS 5 rfl rfl 0 (by decide) (hts (.fieldLink RX3 27 "TypedColumnsModel" "thrown" "I") (by decide +kernel)) (fun _ h9 => h9) rfl (by decide +kernel) rfl rfl (Nat.le_of_ble_eq_true rfl) dX3_length_2 (fun H locs hP hD hS => ?_)
  have hP : va_P D vwCl (tc_Z cI cJ cD x0 x1 x2 x3 x4 Z m0 m1 m2 m3 m4 m5 0 n K Ln Wh Re cd ct) H := hP
  have hD : va_D A (tc_Z cI cJ cD x0 x1 x2 x3 x4 Z m0 m1 m2 m3 m4 m5 0 n K Ln Wh Re cd ct) := hD
  refine lv_aload_n hx hb dX3_length_5 rfl (lv_at hl 0 rfl) ?_
  refine lv_iload_n hx hb dX3_length_6 rfl (lv_at hl 1 rfl) ?_
  refine vp_callSi (tc_CR (va_runV (As := [.int cx]) (rest := []) ⟨hx, hb, hml, hown, hts⟩ (tX3_isColumn_n l D A cI cJ cD cC x0 x1 x2 x3 x4 Z m0 m1 m2 m3 m4 m5 0 n K Ln Wh Re cd ct H.size hI cx hc) (cwV 1 hts gX3_length_X3_isColumn rfl rfl rfl (by decide +kernel) ⟨Nat.le_of_ble_eq_true rfl, Nat.le_of_ble_eq_true rfl⟩) ⟨tcP.blind, (va_recv hK hP (ci := 3) (q0 := 5) rfl rfl), (tcP.go hK hP hD hE hS)⟩ rfl rfl hl.1 rfl (lv_room (Nat.le_of_ble_eq_true rfl)) dX3_length_7 ⟨Nat.le_of_ble_eq_true rfl, Nat.le_of_ble_eq_true rfl⟩)) (fun r_1 hr_1 => ?_)
  subst hr_1
  refine lv_if_ne (tgt := 19) hx hb dX3_length_10 (by decide) (fun q => absurd (by decide) q) (fun _ => ?_)
  refine lv_aload_n hx hb dX3_length_13 rfl (lv_at hl 0 rfl) ?_
  refine lv_iconst (v := 1) hx hb dX3_length_14 (by decide) ?_
  refine va_calli (va_runV (As := [.int 1]) (rest := []) ⟨hx, hb, hml, hown, hts⟩ (tX3_fail l D A cI cJ cD cC x0 x1 x2 x3 x4 Z m0 m1 m2 m3 m4 m5 0 n K Ln Wh Re cd ct H.size 1) (cwV 1 hts gX3_length_X3_fail rfl rfl rfl (by decide +kernel) ⟨Nat.le_of_ble_eq_true rfl, Nat.le_of_ble_eq_true rfl⟩) ⟨tcP.blind, (va_recv hK hP (ci := 3) (q0 := 5) rfl rfl), (tcP.go hK hP hD hE hS)⟩ rfl rfl hl.1 rfl (lv_room (Nat.le_of_ble_eq_true rfl)) dX3_length_15 ⟨Nat.le_of_ble_eq_true rfl, Nat.le_of_ble_eq_true rfl⟩) hS (fun q _ h => h) (fun q h => h) (fun r_3 u t H locs ht hvm hw hB hz1 hk1 hS => ?_)
  subst hw
  obtain ⟨hP, hD⟩ := hB
  rw [ht] at hP
  exact W.iret (v := 0) hx hb hr (fun t9 ht9 hW9 => ⟨⟨0, (), rfl, rfl, by rw [ht9]; exact hP, hD⟩, hS.F ht9⟩) hS.2.2 dX3_length_18
set_option maxHeartbeats 4000000 in
set_option maxRecDepth 100000 in
theorem tX3_columnCount (l : Launch) (D : va_G) (A : Nat → Prop) (cI cJ cD cC : ClassId) (x0 x1 x2 x3 x4 : Nat × va_E) (Z : va_W) (m0 m1 m2 m3 m4 m5 : Nat) (th : Int32) (n : Nat) (K : Nat → Int32) (Ln : Nat → Nat) (Wh : Nat → Int64) (Re : Nat → UInt64) (cd : Int32) (ct : Nat → Int32) (sz : Nat)   : Met l yX3_columnCount wsX3_columnCount ({ frames := 0, cells := 0, slots := 0, locals := 0 }) (tcP D A (tcTY cI cJ cD cC) sz [.ref m0] (tc_Z cI cJ cD x0 x1 x2 x3 x4 Z m0 m1 m2 m3 m4 m5 th n K Ln Wh Re cd ct)) (va_Qi (fun r (_ : Unit) => r = nI n) (fun _ t => tcB D A (tc_Z cI cJ cD x0 x1 x2 x3 x4 Z m0 m1 m2 m3 m4 m5 0 n K Ln Wh Re cd ct) t) A) 0 0 A := by
  refine Met.ofW (cc := cX3_columnCount) (maxL := 1) (ret := (some .int)) (by decide) rfl ?_
  intro p e s m args below meth c s₁ B hml hv
  obtain ⟨rfl, hsz, hP, hK, hD, hE⟩ := hv
  have hx := B.exec
  have hb := B.bytes
  have hr := B.returns
  have hts := atoms_spec (ws := wsX3_columnCount) B.pre
  have hown : s.vm.findClass RX3 = some m.cls := findClass_of_methodNamed B.named
  have hlocks := B.notSynchronized
  have hl := lv_entry ([.ref m0]) (n := 1) (Nat.le_of_ble_eq_true rfl)
  rw [lg_entry_eq]
  generalize (lg_sl ([.ref m0]) ++ List.replicate (1 - (lg_sl ([.ref m0])).length) Slot.unset).toArray = ls at hl ⊢
  have hl : lv_has ls 1 [(0, .ref m0)] := hl
  subst hsz
  have hS : va_S A s.heap s.heap [] := va_S.rf
  refine lv_aload_n hx hb dX3_columnCount_0 rfl (lv_at hl 0 rfl) ?_
  refine lv_iconst (v := 0) hx hb dX3_columnCount_1 (by decide) ?_
  refine va_put (D := D) (ci := 3) (fs := [.int th, .int (nI n), .ref m1, .ref m2, .ref m3, .ref m4, .int cd, .ref m5]) (v := .int 0) (ty := .int) (C := RX3) (T := TX3) (N := 8) hx hb hts (by decide +kernel) tyX3 tyX3_ok nmX3 hown hK hP hD hS 5 rfl rfl 0 (by decide) (hts (.fieldLink RX3 27 "TypedColumnsModel" "thrown" "I") (by decide +kernel)) (fun _ h9 => h9) rfl (by decide +kernel) rfl rfl (Nat.le_of_ble_eq_true rfl) dX3_columnCount_2 (fun H locs hP hD hS => ?_)
  have hP : va_P D vwCl (tc_Z cI cJ cD x0 x1 x2 x3 x4 Z m0 m1 m2 m3 m4 m5 0 n K Ln Wh Re cd ct) H := hP
  have hD : va_D A (tc_Z cI cJ cD x0 x1 x2 x3 x4 Z m0 m1 m2 m3 m4 m5 0 n K Ln Wh Re cd ct) := hD
  refine lv_aload_n hx hb dX3_columnCount_5 rfl (lv_at hl 0 rfl) ?_
  refine va_get (D := D) (ci := 3) (fs := [.int 0, .int (nI n), .ref m1, .ref m2, .ref m3, .ref m4, .int cd, .ref m5]) (v := .int (nI n)) (C := RX3) (T := TX3) (N := 8) hx hb hts (by decide +kernel) hown hK hP 5 rfl rfl 1 (by decide) (hts (.fieldLink RX3 31 "TypedColumnsModel" "columns" "I") (by decide +kernel)) (fun _ h9 => h9) rfl dX3_columnCount_6 ?_
  exact W.iret (v := (nI n)) hx hb hr (fun t9 ht9 hW9 => ⟨⟨(nI n), (), rfl, rfl, by rw [ht9]; exact hP, hD⟩, hS.F ht9⟩) hS.2.2 dX3_columnCount_9
set_option maxHeartbeats 4000000 in
set_option maxRecDepth 100000 in
theorem tX3_code (l : Launch) (D : va_G) (A : Nat → Prop) (cI cJ cD cC : ClassId) (x0 x1 x2 x3 x4 : Nat × va_E) (Z : va_W) (m0 m1 m2 m3 m4 m5 : Nat) (th : Int32) (n : Nat) (K : Nat → Int32) (Ln : Nat → Nat) (Wh : Nat → Int64) (Re : Nat → UInt64) (cd : Int32) (ct : Nat → Int32) (sz : Nat)   : Met l yX3_code wsX3_code ({ frames := 0, cells := 0, slots := 0, locals := 0 }) (tcP D A (tcTY cI cJ cD cC) sz [.ref m0] (tc_Z cI cJ cD x0 x1 x2 x3 x4 Z m0 m1 m2 m3 m4 m5 th n K Ln Wh Re cd ct)) (va_Qi (fun r (_ : Unit) => r = cd) (fun _ t => tcB D A (tc_Z cI cJ cD x0 x1 x2 x3 x4 Z m0 m1 m2 m3 m4 m5 0 n K Ln Wh Re cd ct) t) A) 0 0 A := by
  refine Met.ofW (cc := cX3_code) (maxL := 1) (ret := (some .int)) (by decide) rfl ?_
  intro p e s m args below meth c s₁ B hml hv
  obtain ⟨rfl, hsz, hP, hK, hD, hE⟩ := hv
  have hx := B.exec
  have hb := B.bytes
  have hr := B.returns
  have hts := atoms_spec (ws := wsX3_code) B.pre
  have hown : s.vm.findClass RX3 = some m.cls := findClass_of_methodNamed B.named
  have hlocks := B.notSynchronized
  have hl := lv_entry ([.ref m0]) (n := 1) (Nat.le_of_ble_eq_true rfl)
  rw [lg_entry_eq]
  generalize (lg_sl ([.ref m0]) ++ List.replicate (1 - (lg_sl ([.ref m0])).length) Slot.unset).toArray = ls at hl ⊢
  have hl : lv_has ls 1 [(0, .ref m0)] := hl
  subst hsz
  have hS : va_S A s.heap s.heap [] := va_S.rf
  refine lv_aload_n hx hb dX3_code_0 rfl (lv_at hl 0 rfl) ?_
  refine lv_iconst (v := 0) hx hb dX3_code_1 (by decide) ?_
  refine va_put (D := D) (ci := 3) (fs := [.int th, .int (nI n), .ref m1, .ref m2, .ref m3, .ref m4, .int cd, .ref m5]) (v := .int 0) (ty := .int) (C := RX3) (T := TX3) (N := 8) hx hb hts (by decide +kernel) tyX3 tyX3_ok nmX3 hown hK hP hD hS 5 rfl rfl 0 (by decide) (hts (.fieldLink RX3 27 "TypedColumnsModel" "thrown" "I") (by decide +kernel)) (fun _ h9 => h9) rfl (by decide +kernel) rfl rfl (Nat.le_of_ble_eq_true rfl) dX3_code_2 (fun H locs hP hD hS => ?_)
  have hP : va_P D vwCl (tc_Z cI cJ cD x0 x1 x2 x3 x4 Z m0 m1 m2 m3 m4 m5 0 n K Ln Wh Re cd ct) H := hP
  have hD : va_D A (tc_Z cI cJ cD x0 x1 x2 x3 x4 Z m0 m1 m2 m3 m4 m5 0 n K Ln Wh Re cd ct) := hD
  refine lv_aload_n hx hb dX3_code_5 rfl (lv_at hl 0 rfl) ?_
  refine va_get (D := D) (ci := 3) (fs := [.int 0, .int (nI n), .ref m1, .ref m2, .ref m3, .ref m4, .int cd, .ref m5]) (v := .int cd) (C := RX3) (T := TX3) (N := 8) hx hb hts (by decide +kernel) hown hK hP 5 rfl rfl 6 (by decide) (hts (.fieldLink RX3 38 "TypedColumnsModel" "code" "I") (by decide +kernel)) (fun _ h9 => h9) rfl dX3_code_6 ?_
  exact W.iret (v := cd) hx hb hr (fun t9 ht9 hW9 => ⟨⟨cd, (), rfl, rfl, by rw [ht9]; exact hP, hD⟩, hS.F ht9⟩) hS.2.2 dX3_code_9
set_option maxHeartbeats 4000000 in
set_option maxRecDepth 100000 in
theorem tX3_count_y (l : Launch) (D : va_G) (A : Nat → Prop) (cI cJ cD cC : ClassId) (x0 x1 x2 x3 x4 : Nat × va_E) (Z : va_W) (m0 m1 m2 m3 m4 m5 : Nat) (th : Int32) (n : Nat) (K : Nat → Int32) (Ln : Nat → Nat) (Wh : Nat → Int64) (Re : Nat → UInt64) (cd : Int32) (ct : Nat → Int32) (sz : Nat)  (k : Int32) (hk : vp_in k 6) : Met l yX3_count wsX3_count ({ frames := 0, cells := 0, slots := 0, locals := 0 }) (tcP D A (tcTY cI cJ cD cC) sz [.ref m0, .int k] (tc_Z cI cJ cD x0 x1 x2 x3 x4 Z m0 m1 m2 m3 m4 m5 th n K Ln Wh Re cd ct)) (va_Qi (fun r (_ : Unit) => r = ct k.toNatClampNeg) (fun _ t => tcB D A (tc_Z cI cJ cD x0 x1 x2 x3 x4 Z m0 m1 m2 m3 m4 m5 0 n K Ln Wh Re cd ct) t) A) 0 0 A := by
  refine Met.ofW (cc := cX3_count) (maxL := 2) (ret := (some .int)) (by decide) rfl ?_
  intro p e s m args below meth c s₁ B hml hv
  obtain ⟨rfl, hsz, hP, hK, hD, hE⟩ := hv
  have hx := B.exec
  have hb := B.bytes
  have hr := B.returns
  have hts := atoms_spec (ws := wsX3_count) B.pre
  have hown : s.vm.findClass RX3 = some m.cls := findClass_of_methodNamed B.named
  have hlocks := B.notSynchronized
  have hl := lv_entry ([.ref m0, .int k]) (n := 2) (Nat.le_of_ble_eq_true rfl)
  rw [lg_entry_eq]
  generalize (lg_sl ([.ref m0, .int k]) ++ List.replicate (2 - (lg_sl ([.ref m0, .int k])).length) Slot.unset).toArray = ls at hl ⊢
  have hl : lv_has ls 2 [(0, .ref m0), (1, .int k)] := hl
  subst hsz
  have hS : va_S A s.heap s.heap [] := va_S.rf
  refine lv_aload_n hx hb dX3_count_0 rfl (lv_at hl 0 rfl) ?_
  refine lv_iconst (v := 0) hx hb dX3_count_1 (by decide) ?_
  refine va_put (D := D) (ci := 3) (fs := [.int th, .int (nI n), .ref m1, .ref m2, .ref m3, .ref m4, .int cd, .ref m5]) (v := .int 0) (ty := .int) (C := RX3) (T := TX3) (N := 8) hx hb hts (by decide +kernel) tyX3 tyX3_ok nmX3 hown hK hP hD hS 5 rfl rfl 0 (by decide) (hts (.fieldLink RX3 27 "TypedColumnsModel" "thrown" "I") (by decide +kernel)) (fun _ h9 => h9) rfl (by decide +kernel) rfl rfl (Nat.le_of_ble_eq_true rfl) dX3_count_2 (fun H locs hP hD hS => ?_)
  have hP : va_P D vwCl (tc_Z cI cJ cD x0 x1 x2 x3 x4 Z m0 m1 m2 m3 m4 m5 0 n K Ln Wh Re cd ct) H := hP
  have hD : va_D A (tc_Z cI cJ cD x0 x1 x2 x3 x4 Z m0 m1 m2 m3 m4 m5 0 n K Ln Wh Re cd ct) := hD
  refine lv_iload_n hx hb dX3_count_5 rfl (lv_at hl 1 rfl) ?_
  refine lv_if_lt (tgt := 23) hx hb dX3_count_6 (by decide) (fun q => absurd q (vp_in_lo hk)) (fun _ => ?_)
  refine lv_iload_n hx hb dX3_count_9 rfl (lv_at hl 1 rfl) ?_
  refine lv_iconst (v := 5) hx hb dX3_count_10 (by decide) ?_
  refine lv_icmp_gt (tgt := 23) hx hb dX3_count_11 (by decide) (fun q => absurd q (mC5 hk)) (fun _ => ?_)
  refine lv_aload_n hx hb dX3_count_14 rfl (lv_at hl 0 rfl) ?_
  refine va_get (D := D) (ci := 3) (fs := [.int 0, .int (nI n), .ref m1, .ref m2, .ref m3, .ref m4, .int cd, .ref m5]) (v := .ref m5) (C := RX3) (T := TX3) (N := 8) hx hb hts (by decide +kernel) hown hK hP 5 rfl rfl 7 (by decide) (hts (.fieldLink RX3 24 "TypedColumnsModel" "counts" "[I") (by decide +kernel)) (fun _ h9 => h9) rfl dX3_count_15 ?_
  refine lv_iload_n hx hb dX3_count_18 rfl (lv_at hl 1 rfl) ?_
  refine tc_iald (f := ct) (v := (ct k.toNatClampNeg)) hx hb hK hP 10 0 rfl rfl (hk) rfl dX3_count_19 ?_
  refine lv_goto (tgt := 28) hx hb dX3_count_20 (by decide) ?_
  exact W.iret (v := (ct k.toNatClampNeg)) hx hb hr (fun t9 ht9 hW9 => ⟨⟨(ct k.toNatClampNeg), (), rfl, rfl, by rw [ht9]; exact hP, hD⟩, hS.F ht9⟩) hS.2.2 dX3_count_28
set_option maxHeartbeats 4000000 in
set_option maxRecDepth 100000 in
theorem tX3_count_n (l : Launch) (D : va_G) (A : Nat → Prop) (cI cJ cD cC : ClassId) (x0 x1 x2 x3 x4 : Nat × va_E) (Z : va_W) (m0 m1 m2 m3 m4 m5 : Nat) (th : Int32) (n : Nat) (K : Nat → Int32) (Ln : Nat → Nat) (Wh : Nat → Int64) (Re : Nat → UInt64) (cd : Int32) (ct : Nat → Int32) (sz : Nat)  (k : Int32) (hk : ¬ vp_in k 6) : Met l yX3_count wsX3_count ({ frames := 1, cells := 0, slots := 0, locals := 21 }) (tcP D A (tcTY cI cJ cD cC) sz [.ref m0, .int k] (tc_Z cI cJ cD x0 x1 x2 x3 x4 Z m0 m1 m2 m3 m4 m5 th n K Ln Wh Re cd ct)) (va_Qi (fun r (_ : Unit) => r = 0) (fun _ t => tcB D A (tc_Z cI cJ cD x0 x1 x2 x3 x4 Z m0 m1 m2 m3 m4 m5 1 n K Ln Wh Re cd ct) t) A) 0 0 A := by
  refine Met.ofW (cc := cX3_count) (maxL := 2) (ret := (some .int)) (by decide) rfl ?_
  intro p e s m args below meth c s₁ B hml hv
  obtain ⟨rfl, hsz, hP, hK, hD, hE⟩ := hv
  have hx := B.exec
  have hb := B.bytes
  have hr := B.returns
  have hts := atoms_spec (ws := wsX3_count) B.pre
  have hown : s.vm.findClass RX3 = some m.cls := findClass_of_methodNamed B.named
  have hlocks := B.notSynchronized
  have hl := lv_entry ([.ref m0, .int k]) (n := 2) (Nat.le_of_ble_eq_true rfl)
  rw [lg_entry_eq]
  generalize (lg_sl ([.ref m0, .int k]) ++ List.replicate (2 - (lg_sl ([.ref m0, .int k])).length) Slot.unset).toArray = ls at hl ⊢
  have hl : lv_has ls 2 [(0, .ref m0), (1, .int k)] := hl
  subst hsz
  have hS : va_S A s.heap s.heap [] := va_S.rf
  refine lv_aload_n hx hb dX3_count_0 rfl (lv_at hl 0 rfl) ?_
  refine lv_iconst (v := 0) hx hb dX3_count_1 (by decide) ?_
  refine va_put (D := D) (ci := 3) (fs := [.int th, .int (nI n), .ref m1, .ref m2, .ref m3, .ref m4, .int cd, .ref m5]) (v := .int 0) (ty := .int) (C := RX3) (T := TX3) (N := 8) hx hb hts (by decide +kernel) tyX3 tyX3_ok nmX3 hown hK hP hD hS 5 rfl rfl 0 (by decide) (hts (.fieldLink RX3 27 "TypedColumnsModel" "thrown" "I") (by decide +kernel)) (fun _ h9 => h9) rfl (by decide +kernel) rfl rfl (Nat.le_of_ble_eq_true rfl) dX3_count_2 (fun H locs hP hD hS => ?_)
  have hP : va_P D vwCl (tc_Z cI cJ cD x0 x1 x2 x3 x4 Z m0 m1 m2 m3 m4 m5 0 n K Ln Wh Re cd ct) H := hP
  have hD : va_D A (tc_Z cI cJ cD x0 x1 x2 x3 x4 Z m0 m1 m2 m3 m4 m5 0 n K Ln Wh Re cd ct) := hD
  refine lv_iload_n hx hb dX3_count_5 rfl (lv_at hl 1 rfl) ?_
  refine lv_if_lt (tgt := 23) hx hb dX3_count_6 (by decide) (fun c_1 => ?_) (fun c_1 => ?_)
  · refine lv_aload_n hx hb dX3_count_23 rfl (lv_at hl 0 rfl) ?_
    refine lv_iconst (v := 1) hx hb dX3_count_24 (by decide) ?_
    refine va_calli (va_runV (As := [.int 1]) (rest := []) ⟨hx, hb, hml, hown, hts⟩ (tX3_fail l D A cI cJ cD cC x0 x1 x2 x3 x4 Z m0 m1 m2 m3 m4 m5 0 n K Ln Wh Re cd ct H.size 1) (cwV 1 hts gX3_count_X3_fail rfl rfl rfl (by decide +kernel) ⟨Nat.le_of_ble_eq_true rfl, Nat.le_of_ble_eq_true rfl⟩) ⟨tcP.blind, (va_recv hK hP (ci := 3) (q0 := 5) rfl rfl), (tcP.go hK hP hD hE hS)⟩ rfl rfl hl.1 rfl (lv_room (Nat.le_of_ble_eq_true rfl)) dX3_count_25 ⟨Nat.le_of_ble_eq_true rfl, Nat.le_of_ble_eq_true rfl⟩) hS (fun q _ h => h) (fun q h => h) (fun r_2 u t H locs ht hvm hw hB hz1 hk1 hS => ?_)
    subst hw
    obtain ⟨hP, hD⟩ := hB
    rw [ht] at hP
    exact W.iret (v := 0) hx hb hr (fun t9 ht9 hW9 => ⟨⟨0, (), rfl, rfl, by rw [ht9]; exact hP, hD⟩, hS.F ht9⟩) hS.2.2 dX3_count_28
  · refine lv_iload_n hx hb dX3_count_9 rfl (lv_at hl 1 rfl) ?_
    refine lv_iconst (v := 5) hx hb dX3_count_10 (by decide) ?_
    refine lv_icmp_gt (tgt := 23) hx hb dX3_count_11 (by decide) (fun _ => ?_) (fun q => absurd (mC5n hk c_1) q)
    refine lv_aload_n hx hb dX3_count_23 rfl (lv_at hl 0 rfl) ?_
    refine lv_iconst (v := 1) hx hb dX3_count_24 (by decide) ?_
    refine va_calli (va_runV (As := [.int 1]) (rest := []) ⟨hx, hb, hml, hown, hts⟩ (tX3_fail l D A cI cJ cD cC x0 x1 x2 x3 x4 Z m0 m1 m2 m3 m4 m5 0 n K Ln Wh Re cd ct H.size 1) (cwV 1 hts gX3_count_X3_fail rfl rfl rfl (by decide +kernel) ⟨Nat.le_of_ble_eq_true rfl, Nat.le_of_ble_eq_true rfl⟩) ⟨tcP.blind, (va_recv hK hP (ci := 3) (q0 := 5) rfl rfl), (tcP.go hK hP hD hE hS)⟩ rfl rfl hl.1 rfl (lv_room (Nat.le_of_ble_eq_true rfl)) dX3_count_25 ⟨Nat.le_of_ble_eq_true rfl, Nat.le_of_ble_eq_true rfl⟩) hS (fun q _ h => h) (fun q h => h) (fun r_4 u t H locs ht hvm hw hB hz1 hk1 hS => ?_)
    subst hw
    obtain ⟨hP, hD⟩ := hB
    rw [ht] at hP
    exact W.iret (v := 0) hx hb hr (fun t9 ht9 hW9 => ⟨⟨0, (), rfl, rfl, by rw [ht9]; exact hP, hD⟩, hS.F ht9⟩) hS.2.2 dX3_count_28
set_option maxHeartbeats 4000000 in
set_option maxRecDepth 100000 in
theorem tX3_hasCells_y (l : Launch) (D : va_G) (A : Nat → Prop) (cI cJ cD cC : ClassId) (x0 x1 x2 x3 x4 : Nat × va_E) (Z : va_W) (m0 m1 m2 m3 m4 m5 : Nat) (th : Int32) (n : Nat) (K : Nat → Int32) (Ln : Nat → Nat) (Wh : Nat → Int64) (Re : Nat → UInt64) (cd : Int32) (ct : Nat → Int32) (sz : Nat)  (k : Int32) (hk : kIs k = true) : Met l yX3_hasCells wsX3_hasCells ({ frames := 1, cells := 0, slots := 0, locals := 20 }) (tcP D A (tcTY cI cJ cD cC) sz [.ref m0, .int k] (tc_Z cI cJ cD x0 x1 x2 x3 x4 Z m0 m1 m2 m3 m4 m5 th n K Ln Wh Re cd ct)) (va_Qi (fun r (_ : Unit) => r = tb (kHas k)) (fun _ t => tcB D A (tc_Z cI cJ cD x0 x1 x2 x3 x4 Z m0 m1 m2 m3 m4 m5 0 n K Ln Wh Re cd ct) t) A) 0 0 A := by
  refine Met.ofW (cc := cX3_hasCells) (maxL := 2) (ret := (some .boolean)) (by decide) rfl ?_
  intro p e s m args below meth c s₁ B hml hv
  obtain ⟨rfl, hsz, hP, hK, hD, hE⟩ := hv
  have hx := B.exec
  have hb := B.bytes
  have hr := B.returns
  have hts := atoms_spec (ws := wsX3_hasCells) B.pre
  have hown : s.vm.findClass RX3 = some m.cls := findClass_of_methodNamed B.named
  have hlocks := B.notSynchronized
  have hl := lv_entry ([.ref m0, .int k]) (n := 2) (Nat.le_of_ble_eq_true rfl)
  rw [lg_entry_eq]
  generalize (lg_sl ([.ref m0, .int k]) ++ List.replicate (2 - (lg_sl ([.ref m0, .int k])).length) Slot.unset).toArray = ls at hl ⊢
  have hl : lv_has ls 2 [(0, .ref m0), (1, .int k)] := hl
  subst hsz
  have hS : va_S A s.heap s.heap [] := va_S.rf
  refine lv_aload_n hx hb dX3_hasCells_0 rfl (lv_at hl 0 rfl) ?_
  refine lv_iload_n hx hb dX3_hasCells_1 rfl (lv_at hl 1 rfl) ?_
  refine vp_callSi (W.runS (As := [.int k]) (rest := [.ref m0]) ⟨hx, hb, hml, hown, hts⟩ (kX3_isKind l k) (va_cwS 1 hts gX3_hasCells_X3_isKind rfl rfl rfl (by decide +kernel) ⟨Nat.le_of_ble_eq_true rfl, Nat.le_of_ble_eq_true rfl⟩) ⟨fun a U g mk q => q, fun U hU hW => ⟨rfl, trivial⟩⟩ rfl rfl hl.1 rfl (lv_room (Nat.le_of_ble_eq_true rfl)) dX3_hasCells_2 ⟨Nat.zero_le _, Nat.zero_le _⟩) (fun r_1 hr_1 => ?_)
  subst hr_1
  refine lv_if_eq (tgt := 12) hx hb dX3_hasCells_5 (by decide) (fun q => absurd q ((tb_1 _).mpr hk)) (fun _ => ?_)
  refine lv_iconst (v := 0) hx hb dX3_hasCells_8 (by decide) ?_
  refine lv_goto (tgt := 13) hx hb dX3_hasCells_9 (by decide) ?_
  refine va_put (D := D) (ci := 3) (fs := [.int th, .int (nI n), .ref m1, .ref m2, .ref m3, .ref m4, .int cd, .ref m5]) (v := .int 0) (ty := .int) (C := RX3) (T := TX3) (N := 8) hx hb hts (by decide +kernel) tyX3 tyX3_ok nmX3 hown hK hP hD hS 5 rfl rfl 0 (by decide) (hts (.fieldLink RX3 27 "TypedColumnsModel" "thrown" "I") (by decide +kernel)) (fun _ h9 => h9) rfl (by decide +kernel) rfl rfl (Nat.le_of_ble_eq_true rfl) dX3_hasCells_13 (fun H locs hP hD hS => ?_)
  have hP : va_P D vwCl (tc_Z cI cJ cD x0 x1 x2 x3 x4 Z m0 m1 m2 m3 m4 m5 0 n K Ln Wh Re cd ct) H := hP
  have hD : va_D A (tc_Z cI cJ cD x0 x1 x2 x3 x4 Z m0 m1 m2 m3 m4 m5 0 n K Ln Wh Re cd ct) := hD
  refine lv_aload_n hx hb dX3_hasCells_16 rfl (lv_at hl 0 rfl) ?_
  refine va_get (D := D) (ci := 3) (fs := [.int 0, .int (nI n), .ref m1, .ref m2, .ref m3, .ref m4, .int cd, .ref m5]) (v := .int 0) (C := RX3) (T := TX3) (N := 8) hx hb hts (by decide +kernel) hown hK hP 5 rfl rfl 0 (by decide) (hts (.fieldLink RX3 27 "TypedColumnsModel" "thrown" "I") (by decide +kernel)) (fun _ h9 => h9) rfl dX3_hasCells_17 ?_
  refine lv_if_ne (tgt := 34) hx hb dX3_hasCells_20 (by decide) (fun q => absurd (by decide) q) (fun _ => ?_)
  refine lv_iload_n hx hb dX3_hasCells_23 rfl (lv_at hl 1 rfl) ?_
  refine vp_callSi (W.runS (As := [.int k]) (rest := []) ⟨hx, hb, hml, hown, hts⟩ (kX3_has l k) (va_cwS 1 hts gX3_hasCells_X3_has rfl rfl rfl (by decide +kernel) ⟨Nat.le_of_ble_eq_true rfl, Nat.le_of_ble_eq_true rfl⟩) ⟨fun a U g mk q => q, fun U hU hW => ⟨rfl, trivial⟩⟩ rfl rfl hl.1 rfl (lv_room (Nat.le_of_ble_eq_true rfl)) dX3_hasCells_24 ⟨Nat.zero_le _, Nat.zero_le _⟩) (fun r_4 hr_4 => ?_)
  subst hr_4
  refine lv_if_eq (tgt := 34) hx hb dX3_hasCells_27 (by decide) (fun c_5 => ?_) (fun c_5 => ?_)
  · refine lv_iconst (v := 0) hx hb dX3_hasCells_34 (by decide) ?_
    exact W.zret (ty := .boolean) (v := 0) hx hb hr rfl (fun t9 ht9 hW9 => ⟨⟨0, (), rfl, (tb_f ((tb_0 _).mp c_5)).symm, by rw [ht9]; exact hP, hD⟩, hS.F ht9⟩) hS.2.2 dX3_hasCells_35
  · refine lv_iconst (v := 1) hx hb dX3_hasCells_30 (by decide) ?_
    refine lv_goto (tgt := 35) hx hb dX3_hasCells_31 (by decide) ?_
    exact W.zret (ty := .boolean) (v := 1) hx hb hr rfl (fun t9 ht9 hW9 => ⟨⟨1, (), rfl, (tb_t ((tb_1 _).mp c_5)).symm, by rw [ht9]; exact hP, hD⟩, hS.F ht9⟩) hS.2.2 dX3_hasCells_35
set_option maxHeartbeats 4000000 in
set_option maxRecDepth 100000 in
theorem tX3_hasCells_n (l : Launch) (D : va_G) (A : Nat → Prop) (cI cJ cD cC : ClassId) (x0 x1 x2 x3 x4 : Nat × va_E) (Z : va_W) (m0 m1 m2 m3 m4 m5 : Nat) (th : Int32) (n : Nat) (K : Nat → Int32) (Ln : Nat → Nat) (Wh : Nat → Int64) (Re : Nat → UInt64) (cd : Int32) (ct : Nat → Int32) (sz : Nat)  (k : Int32) (hk : kIs k = false) : Met l yX3_hasCells wsX3_hasCells ({ frames := 1, cells := 0, slots := 0, locals := 20 }) (tcP D A (tcTY cI cJ cD cC) sz [.ref m0, .int k] (tc_Z cI cJ cD x0 x1 x2 x3 x4 Z m0 m1 m2 m3 m4 m5 th n K Ln Wh Re cd ct)) (va_Qi (fun r (_ : Unit) => r = 0) (fun _ t => tcB D A (tc_Z cI cJ cD x0 x1 x2 x3 x4 Z m0 m1 m2 m3 m4 m5 1 n K Ln Wh Re cd ct) t) A) 0 0 A := by
  refine Met.ofW (cc := cX3_hasCells) (maxL := 2) (ret := (some .boolean)) (by decide) rfl ?_
  intro p e s m args below meth c s₁ B hml hv
  obtain ⟨rfl, hsz, hP, hK, hD, hE⟩ := hv
  have hx := B.exec
  have hb := B.bytes
  have hr := B.returns
  have hts := atoms_spec (ws := wsX3_hasCells) B.pre
  have hown : s.vm.findClass RX3 = some m.cls := findClass_of_methodNamed B.named
  have hlocks := B.notSynchronized
  have hl := lv_entry ([.ref m0, .int k]) (n := 2) (Nat.le_of_ble_eq_true rfl)
  rw [lg_entry_eq]
  generalize (lg_sl ([.ref m0, .int k]) ++ List.replicate (2 - (lg_sl ([.ref m0, .int k])).length) Slot.unset).toArray = ls at hl ⊢
  have hl : lv_has ls 2 [(0, .ref m0), (1, .int k)] := hl
  subst hsz
  have hS : va_S A s.heap s.heap [] := va_S.rf
  refine lv_aload_n hx hb dX3_hasCells_0 rfl (lv_at hl 0 rfl) ?_
  refine lv_iload_n hx hb dX3_hasCells_1 rfl (lv_at hl 1 rfl) ?_
  refine vp_callSi (W.runS (As := [.int k]) (rest := [.ref m0]) ⟨hx, hb, hml, hown, hts⟩ (kX3_isKind l k) (va_cwS 1 hts gX3_hasCells_X3_isKind rfl rfl rfl (by decide +kernel) ⟨Nat.le_of_ble_eq_true rfl, Nat.le_of_ble_eq_true rfl⟩) ⟨fun a U g mk q => q, fun U hU hW => ⟨rfl, trivial⟩⟩ rfl rfl hl.1 rfl (lv_room (Nat.le_of_ble_eq_true rfl)) dX3_hasCells_2 ⟨Nat.zero_le _, Nat.zero_le _⟩) (fun r_1 hr_1 => ?_)
  subst hr_1
  refine lv_if_eq (tgt := 12) hx hb dX3_hasCells_5 (by decide) (fun _ => ?_) (fun q => absurd ((tb_0 _).mpr hk) q)
  refine lv_iconst (v := 1) hx hb dX3_hasCells_12 (by decide) ?_
  refine va_put (D := D) (ci := 3) (fs := [.int th, .int (nI n), .ref m1, .ref m2, .ref m3, .ref m4, .int cd, .ref m5]) (v := .int 1) (ty := .int) (C := RX3) (T := TX3) (N := 8) hx hb hts (by decide +kernel) tyX3 tyX3_ok nmX3 hown hK hP hD hS 5 rfl rfl 0 (by decide) (hts (.fieldLink RX3 27 "TypedColumnsModel" "thrown" "I") (by decide +kernel)) (fun _ h9 => h9) rfl (by decide +kernel) rfl rfl (Nat.le_of_ble_eq_true rfl) dX3_hasCells_13 (fun H locs hP hD hS => ?_)
  have hP : va_P D vwCl (tc_Z cI cJ cD x0 x1 x2 x3 x4 Z m0 m1 m2 m3 m4 m5 1 n K Ln Wh Re cd ct) H := hP
  have hD : va_D A (tc_Z cI cJ cD x0 x1 x2 x3 x4 Z m0 m1 m2 m3 m4 m5 1 n K Ln Wh Re cd ct) := hD
  refine lv_aload_n hx hb dX3_hasCells_16 rfl (lv_at hl 0 rfl) ?_
  refine va_get (D := D) (ci := 3) (fs := [.int 1, .int (nI n), .ref m1, .ref m2, .ref m3, .ref m4, .int cd, .ref m5]) (v := .int 1) (C := RX3) (T := TX3) (N := 8) hx hb hts (by decide +kernel) hown hK hP 5 rfl rfl 0 (by decide) (hts (.fieldLink RX3 27 "TypedColumnsModel" "thrown" "I") (by decide +kernel)) (fun _ h9 => h9) rfl dX3_hasCells_17 ?_
  refine lv_if_ne (tgt := 34) hx hb dX3_hasCells_20 (by decide) (fun _ => ?_) (fun q => absurd q (by decide))
  refine lv_iconst (v := 0) hx hb dX3_hasCells_34 (by decide) ?_
  exact W.zret (ty := .boolean) (v := 0) hx hb hr rfl (fun t9 ht9 hW9 => ⟨⟨0, (), rfl, rfl, by rw [ht9]; exact hP, hD⟩, hS.F ht9⟩) hS.2.2 dX3_hasCells_35
set_option maxHeartbeats 4000000 in
set_option maxRecDepth 100000 in
theorem tX3_isNumber_y (l : Launch) (D : va_G) (A : Nat → Prop) (cI cJ cD cC : ClassId) (x0 x1 x2 x3 x4 : Nat × va_E) (Z : va_W) (m0 m1 m2 m3 m4 m5 : Nat) (th : Int32) (n : Nat) (K : Nat → Int32) (Ln : Nat → Nat) (Wh : Nat → Int64) (Re : Nat → UInt64) (cd : Int32) (ct : Nat → Int32) (sz : Nat)  (k : Int32) (hk : kIs k = true) : Met l yX3_isNumber wsX3_isNumber ({ frames := 1, cells := 0, slots := 0, locals := 20 }) (tcP D A (tcTY cI cJ cD cC) sz [.ref m0, .int k] (tc_Z cI cJ cD x0 x1 x2 x3 x4 Z m0 m1 m2 m3 m4 m5 th n K Ln Wh Re cd ct)) (va_Qi (fun r (_ : Unit) => r = tb (kNum k)) (fun _ t => tcB D A (tc_Z cI cJ cD x0 x1 x2 x3 x4 Z m0 m1 m2 m3 m4 m5 0 n K Ln Wh Re cd ct) t) A) 0 0 A := by
  refine Met.ofW (cc := cX3_isNumber) (maxL := 2) (ret := (some .boolean)) (by decide) rfl ?_
  intro p e s m args below meth c s₁ B hml hv
  obtain ⟨rfl, hsz, hP, hK, hD, hE⟩ := hv
  have hx := B.exec
  have hb := B.bytes
  have hr := B.returns
  have hts := atoms_spec (ws := wsX3_isNumber) B.pre
  have hown : s.vm.findClass RX3 = some m.cls := findClass_of_methodNamed B.named
  have hlocks := B.notSynchronized
  have hl := lv_entry ([.ref m0, .int k]) (n := 2) (Nat.le_of_ble_eq_true rfl)
  rw [lg_entry_eq]
  generalize (lg_sl ([.ref m0, .int k]) ++ List.replicate (2 - (lg_sl ([.ref m0, .int k])).length) Slot.unset).toArray = ls at hl ⊢
  have hl : lv_has ls 2 [(0, .ref m0), (1, .int k)] := hl
  subst hsz
  have hS : va_S A s.heap s.heap [] := va_S.rf
  refine lv_aload_n hx hb dX3_isNumber_0 rfl (lv_at hl 0 rfl) ?_
  refine lv_iload_n hx hb dX3_isNumber_1 rfl (lv_at hl 1 rfl) ?_
  refine vp_callSi (W.runS (As := [.int k]) (rest := [.ref m0]) ⟨hx, hb, hml, hown, hts⟩ (kX3_isKind l k) (va_cwS 1 hts gX3_isNumber_X3_isKind rfl rfl rfl (by decide +kernel) ⟨Nat.le_of_ble_eq_true rfl, Nat.le_of_ble_eq_true rfl⟩) ⟨fun a U g mk q => q, fun U hU hW => ⟨rfl, trivial⟩⟩ rfl rfl hl.1 rfl (lv_room (Nat.le_of_ble_eq_true rfl)) dX3_isNumber_2 ⟨Nat.zero_le _, Nat.zero_le _⟩) (fun r_1 hr_1 => ?_)
  subst hr_1
  refine lv_if_eq (tgt := 12) hx hb dX3_isNumber_5 (by decide) (fun q => absurd q ((tb_1 _).mpr hk)) (fun _ => ?_)
  refine lv_iconst (v := 0) hx hb dX3_isNumber_8 (by decide) ?_
  refine lv_goto (tgt := 13) hx hb dX3_isNumber_9 (by decide) ?_
  refine va_put (D := D) (ci := 3) (fs := [.int th, .int (nI n), .ref m1, .ref m2, .ref m3, .ref m4, .int cd, .ref m5]) (v := .int 0) (ty := .int) (C := RX3) (T := TX3) (N := 8) hx hb hts (by decide +kernel) tyX3 tyX3_ok nmX3 hown hK hP hD hS 5 rfl rfl 0 (by decide) (hts (.fieldLink RX3 27 "TypedColumnsModel" "thrown" "I") (by decide +kernel)) (fun _ h9 => h9) rfl (by decide +kernel) rfl rfl (Nat.le_of_ble_eq_true rfl) dX3_isNumber_13 (fun H locs hP hD hS => ?_)
  have hP : va_P D vwCl (tc_Z cI cJ cD x0 x1 x2 x3 x4 Z m0 m1 m2 m3 m4 m5 0 n K Ln Wh Re cd ct) H := hP
  have hD : va_D A (tc_Z cI cJ cD x0 x1 x2 x3 x4 Z m0 m1 m2 m3 m4 m5 0 n K Ln Wh Re cd ct) := hD
  refine lv_aload_n hx hb dX3_isNumber_16 rfl (lv_at hl 0 rfl) ?_
  refine va_get (D := D) (ci := 3) (fs := [.int 0, .int (nI n), .ref m1, .ref m2, .ref m3, .ref m4, .int cd, .ref m5]) (v := .int 0) (C := RX3) (T := TX3) (N := 8) hx hb hts (by decide +kernel) hown hK hP 5 rfl rfl 0 (by decide) (hts (.fieldLink RX3 27 "TypedColumnsModel" "thrown" "I") (by decide +kernel)) (fun _ h9 => h9) rfl dX3_isNumber_17 ?_
  refine lv_if_ne (tgt := 44) hx hb dX3_isNumber_20 (by decide) (fun q => absurd (by decide) q) (fun _ => ?_)
  refine lv_iload_n hx hb dX3_isNumber_23 rfl (lv_at hl 1 rfl) ?_
  refine vp_callSi (W.runS (As := [.int k]) (rest := []) ⟨hx, hb, hml, hown, hts⟩ (kX3_has l k) (va_cwS 1 hts gX3_isNumber_X3_has rfl rfl rfl (by decide +kernel) ⟨Nat.le_of_ble_eq_true rfl, Nat.le_of_ble_eq_true rfl⟩) ⟨fun a U g mk q => q, fun U hU hW => ⟨rfl, trivial⟩⟩ rfl rfl hl.1 rfl (lv_room (Nat.le_of_ble_eq_true rfl)) dX3_isNumber_24 ⟨Nat.zero_le _, Nat.zero_le _⟩) (fun r_4 hr_4 => ?_)
  subst hr_4
  refine lv_if_eq (tgt := 44) hx hb dX3_isNumber_27 (by decide) (fun c_5 => ?_) (fun c_5 => ?_)
  · refine lv_iconst (v := 0) hx hb dX3_isNumber_44 (by decide) ?_
    exact W.zret (ty := .boolean) (v := 0) hx hb hr rfl (fun t9 ht9 hW9 => ⟨⟨0, (), rfl, (tb_f (kNum_0 hk ((tb_0 _).mp c_5))).symm, by rw [ht9]; exact hP, hD⟩, hS.F ht9⟩) hS.2.2 dX3_isNumber_45
  · refine lv_iload_n hx hb dX3_isNumber_30 rfl (lv_at hl 1 rfl) ?_
    refine lv_iconst (v := 1) hx hb dX3_isNumber_31 (by decide) ?_
    refine lv_icmp_eq (tgt := 44) hx hb dX3_isNumber_32 (by decide) (fun c_6 => ?_) (fun c_6 => ?_)
    · refine lv_iconst (v := 0) hx hb dX3_isNumber_44 (by decide) ?_
      exact W.zret (ty := .boolean) (v := 0) hx hb hr rfl (fun t9 ht9 hW9 => ⟨⟨0, (), rfl, by rw [c_6]; decide, by rw [ht9]; exact hP, hD⟩, hS.F ht9⟩) hS.2.2 dX3_isNumber_45
    · refine lv_iload_n hx hb dX3_isNumber_35 rfl (lv_at hl 1 rfl) ?_
      refine lv_iconst (v := 3) hx hb dX3_isNumber_36 (by decide) ?_
      refine lv_icmp_eq (tgt := 44) hx hb dX3_isNumber_37 (by decide) (fun c_7 => ?_) (fun c_7 => ?_)
      · refine lv_iconst (v := 0) hx hb dX3_isNumber_44 (by decide) ?_
        exact W.zret (ty := .boolean) (v := 0) hx hb hr rfl (fun t9 ht9 hW9 => ⟨⟨0, (), rfl, by rw [c_7]; decide, by rw [ht9]; exact hP, hD⟩, hS.F ht9⟩) hS.2.2 dX3_isNumber_45
      · refine lv_iconst (v := 1) hx hb dX3_isNumber_40 (by decide) ?_
        refine lv_goto (tgt := 45) hx hb dX3_isNumber_41 (by decide) ?_
        exact W.zret (ty := .boolean) (v := 1) hx hb hr rfl (fun t9 ht9 hW9 => ⟨⟨1, (), rfl, (tb_t (kNum_1 ((tb_1 _).mp c_5) c_6 c_7)).symm, by rw [ht9]; exact hP, hD⟩, hS.F ht9⟩) hS.2.2 dX3_isNumber_45
set_option maxHeartbeats 4000000 in
set_option maxRecDepth 100000 in
theorem tX3_isNumber_n (l : Launch) (D : va_G) (A : Nat → Prop) (cI cJ cD cC : ClassId) (x0 x1 x2 x3 x4 : Nat × va_E) (Z : va_W) (m0 m1 m2 m3 m4 m5 : Nat) (th : Int32) (n : Nat) (K : Nat → Int32) (Ln : Nat → Nat) (Wh : Nat → Int64) (Re : Nat → UInt64) (cd : Int32) (ct : Nat → Int32) (sz : Nat)  (k : Int32) (hk : kIs k = false) : Met l yX3_isNumber wsX3_isNumber ({ frames := 1, cells := 0, slots := 0, locals := 20 }) (tcP D A (tcTY cI cJ cD cC) sz [.ref m0, .int k] (tc_Z cI cJ cD x0 x1 x2 x3 x4 Z m0 m1 m2 m3 m4 m5 th n K Ln Wh Re cd ct)) (va_Qi (fun r (_ : Unit) => r = 0) (fun _ t => tcB D A (tc_Z cI cJ cD x0 x1 x2 x3 x4 Z m0 m1 m2 m3 m4 m5 1 n K Ln Wh Re cd ct) t) A) 0 0 A := by
  refine Met.ofW (cc := cX3_isNumber) (maxL := 2) (ret := (some .boolean)) (by decide) rfl ?_
  intro p e s m args below meth c s₁ B hml hv
  obtain ⟨rfl, hsz, hP, hK, hD, hE⟩ := hv
  have hx := B.exec
  have hb := B.bytes
  have hr := B.returns
  have hts := atoms_spec (ws := wsX3_isNumber) B.pre
  have hown : s.vm.findClass RX3 = some m.cls := findClass_of_methodNamed B.named
  have hlocks := B.notSynchronized
  have hl := lv_entry ([.ref m0, .int k]) (n := 2) (Nat.le_of_ble_eq_true rfl)
  rw [lg_entry_eq]
  generalize (lg_sl ([.ref m0, .int k]) ++ List.replicate (2 - (lg_sl ([.ref m0, .int k])).length) Slot.unset).toArray = ls at hl ⊢
  have hl : lv_has ls 2 [(0, .ref m0), (1, .int k)] := hl
  subst hsz
  have hS : va_S A s.heap s.heap [] := va_S.rf
  refine lv_aload_n hx hb dX3_isNumber_0 rfl (lv_at hl 0 rfl) ?_
  refine lv_iload_n hx hb dX3_isNumber_1 rfl (lv_at hl 1 rfl) ?_
  refine vp_callSi (W.runS (As := [.int k]) (rest := [.ref m0]) ⟨hx, hb, hml, hown, hts⟩ (kX3_isKind l k) (va_cwS 1 hts gX3_isNumber_X3_isKind rfl rfl rfl (by decide +kernel) ⟨Nat.le_of_ble_eq_true rfl, Nat.le_of_ble_eq_true rfl⟩) ⟨fun a U g mk q => q, fun U hU hW => ⟨rfl, trivial⟩⟩ rfl rfl hl.1 rfl (lv_room (Nat.le_of_ble_eq_true rfl)) dX3_isNumber_2 ⟨Nat.zero_le _, Nat.zero_le _⟩) (fun r_1 hr_1 => ?_)
  subst hr_1
  refine lv_if_eq (tgt := 12) hx hb dX3_isNumber_5 (by decide) (fun _ => ?_) (fun q => absurd ((tb_0 _).mpr hk) q)
  refine lv_iconst (v := 1) hx hb dX3_isNumber_12 (by decide) ?_
  refine va_put (D := D) (ci := 3) (fs := [.int th, .int (nI n), .ref m1, .ref m2, .ref m3, .ref m4, .int cd, .ref m5]) (v := .int 1) (ty := .int) (C := RX3) (T := TX3) (N := 8) hx hb hts (by decide +kernel) tyX3 tyX3_ok nmX3 hown hK hP hD hS 5 rfl rfl 0 (by decide) (hts (.fieldLink RX3 27 "TypedColumnsModel" "thrown" "I") (by decide +kernel)) (fun _ h9 => h9) rfl (by decide +kernel) rfl rfl (Nat.le_of_ble_eq_true rfl) dX3_isNumber_13 (fun H locs hP hD hS => ?_)
  have hP : va_P D vwCl (tc_Z cI cJ cD x0 x1 x2 x3 x4 Z m0 m1 m2 m3 m4 m5 1 n K Ln Wh Re cd ct) H := hP
  have hD : va_D A (tc_Z cI cJ cD x0 x1 x2 x3 x4 Z m0 m1 m2 m3 m4 m5 1 n K Ln Wh Re cd ct) := hD
  refine lv_aload_n hx hb dX3_isNumber_16 rfl (lv_at hl 0 rfl) ?_
  refine va_get (D := D) (ci := 3) (fs := [.int 1, .int (nI n), .ref m1, .ref m2, .ref m3, .ref m4, .int cd, .ref m5]) (v := .int 1) (C := RX3) (T := TX3) (N := 8) hx hb hts (by decide +kernel) hown hK hP 5 rfl rfl 0 (by decide) (hts (.fieldLink RX3 27 "TypedColumnsModel" "thrown" "I") (by decide +kernel)) (fun _ h9 => h9) rfl dX3_isNumber_17 ?_
  refine lv_if_ne (tgt := 44) hx hb dX3_isNumber_20 (by decide) (fun _ => ?_) (fun q => absurd q (by decide))
  refine lv_iconst (v := 0) hx hb dX3_isNumber_44 (by decide) ?_
  exact W.zret (ty := .boolean) (v := 0) hx hb hr rfl (fun t9 ht9 hW9 => ⟨⟨0, (), rfl, rfl, by rw [ht9]; exact hP, hD⟩, hS.F ht9⟩) hS.2.2 dX3_isNumber_45
set_option maxHeartbeats 4000000 in
set_option maxRecDepth 100000 in
theorem tX3_canWiden_y (l : Launch) (D : va_G) (A : Nat → Prop) (cI cJ cD cC : ClassId) (x0 x1 x2 x3 x4 : Nat × va_E) (Z : va_W) (m0 m1 m2 m3 m4 m5 : Nat) (th : Int32) (n : Nat) (K : Nat → Int32) (Ln : Nat → Nat) (Wh : Nat → Int64) (Re : Nat → UInt64) (cd : Int32) (ct : Nat → Int32) (sz : Nat)  (k k2 : Int32) (hk : kIs k = true) (hk2 : kIs k2 = true) : Met l yX3_canWiden wsX3_canWiden ({ frames := 2, cells := 0, slots := 0, locals := 41 }) (tcP D A (tcTY cI cJ cD cC) sz [.ref m0, .int k, .int k2] (tc_Z cI cJ cD x0 x1 x2 x3 x4 Z m0 m1 m2 m3 m4 m5 th n K Ln Wh Re cd ct)) (va_Qi (fun r (_ : Unit) => r = tb (kWid k k2)) (fun _ t => tcB D A (tc_Z cI cJ cD x0 x1 x2 x3 x4 Z m0 m1 m2 m3 m4 m5 0 n K Ln Wh Re cd ct) t) A) 0 0 A := by
  refine Met.ofW (cc := cX3_canWiden) (maxL := 3) (ret := (some .boolean)) (by decide) rfl ?_
  intro p e s m args below meth c s₁ B hml hv
  obtain ⟨rfl, hsz, hP, hK, hD, hE⟩ := hv
  have hx := B.exec
  have hb := B.bytes
  have hr := B.returns
  have hts := atoms_spec (ws := wsX3_canWiden) B.pre
  have hown : s.vm.findClass RX3 = some m.cls := findClass_of_methodNamed B.named
  have hlocks := B.notSynchronized
  have hl := lv_entry ([.ref m0, .int k, .int k2]) (n := 3) (Nat.le_of_ble_eq_true rfl)
  rw [lg_entry_eq]
  generalize (lg_sl ([.ref m0, .int k, .int k2]) ++ List.replicate (3 - (lg_sl ([.ref m0, .int k, .int k2])).length) Slot.unset).toArray = ls at hl ⊢
  have hl : lv_has ls 3 [(0, .ref m0), (1, .int k), (2, .int k2)] := hl
  subst hsz
  have hS : va_S A s.heap s.heap [] := va_S.rf
  refine lv_aload_n hx hb dX3_canWiden_0 rfl (lv_at hl 0 rfl) ?_
  refine lv_iload_n hx hb dX3_canWiden_1 rfl (lv_at hl 1 rfl) ?_
  refine vp_callSi (W.runS (As := [.int k]) (rest := [.ref m0]) ⟨hx, hb, hml, hown, hts⟩ (kX3_isKind l k) (va_cwS 1 hts gX3_canWiden_X3_isKind rfl rfl rfl (by decide +kernel) ⟨Nat.le_of_ble_eq_true rfl, Nat.le_of_ble_eq_true rfl⟩) ⟨fun a U g mk q => q, fun U hU hW => ⟨rfl, trivial⟩⟩ rfl rfl hl.1 rfl (lv_room (Nat.le_of_ble_eq_true rfl)) dX3_canWiden_2 ⟨Nat.zero_le _, Nat.zero_le _⟩) (fun r_1 hr_1 => ?_)
  subst hr_1
  refine lv_if_eq (tgt := 19) hx hb dX3_canWiden_5 (by decide) (fun q => absurd q ((tb_1 _).mpr hk)) (fun _ => ?_)
  refine lv_iload_n hx hb dX3_canWiden_8 rfl (lv_at hl 2 rfl) ?_
  refine vp_callSi (W.runS (As := [.int k2]) (rest := [.ref m0]) ⟨hx, hb, hml, hown, hts⟩ (kX3_isKind l k2) (va_cwS 1 hts gX3_canWiden_X3_isKind rfl rfl rfl (by decide +kernel) ⟨Nat.le_of_ble_eq_true rfl, Nat.le_of_ble_eq_true rfl⟩) ⟨fun a U g mk q => q, fun U hU hW => ⟨rfl, trivial⟩⟩ rfl rfl hl.1 rfl (lv_room (Nat.le_of_ble_eq_true rfl)) dX3_canWiden_9 ⟨Nat.zero_le _, Nat.zero_le _⟩) (fun r_3 hr_3 => ?_)
  subst hr_3
  refine lv_if_eq (tgt := 19) hx hb dX3_canWiden_12 (by decide) (fun q => absurd q ((tb_1 _).mpr hk2)) (fun _ => ?_)
  refine lv_iconst (v := 0) hx hb dX3_canWiden_15 (by decide) ?_
  refine lv_goto (tgt := 20) hx hb dX3_canWiden_16 (by decide) ?_
  refine va_put (D := D) (ci := 3) (fs := [.int th, .int (nI n), .ref m1, .ref m2, .ref m3, .ref m4, .int cd, .ref m5]) (v := .int 0) (ty := .int) (C := RX3) (T := TX3) (N := 8) hx hb hts (by decide +kernel) tyX3 tyX3_ok nmX3 hown hK hP hD hS 5 rfl rfl 0 (by decide) (hts (.fieldLink RX3 27 "TypedColumnsModel" "thrown" "I") (by decide +kernel)) (fun _ h9 => h9) rfl (by decide +kernel) rfl rfl (Nat.le_of_ble_eq_true rfl) dX3_canWiden_20 (fun H locs hP hD hS => ?_)
  have hP : va_P D vwCl (tc_Z cI cJ cD x0 x1 x2 x3 x4 Z m0 m1 m2 m3 m4 m5 0 n K Ln Wh Re cd ct) H := hP
  have hD : va_D A (tc_Z cI cJ cD x0 x1 x2 x3 x4 Z m0 m1 m2 m3 m4 m5 0 n K Ln Wh Re cd ct) := hD
  refine lv_aload_n hx hb dX3_canWiden_23 rfl (lv_at hl 0 rfl) ?_
  refine va_get (D := D) (ci := 3) (fs := [.int 0, .int (nI n), .ref m1, .ref m2, .ref m3, .ref m4, .int cd, .ref m5]) (v := .int 0) (C := RX3) (T := TX3) (N := 8) hx hb hts (by decide +kernel) hown hK hP 5 rfl rfl 0 (by decide) (hts (.fieldLink RX3 27 "TypedColumnsModel" "thrown" "I") (by decide +kernel)) (fun _ h9 => h9) rfl dX3_canWiden_24 ?_
  refine lv_if_ne (tgt := 42) hx hb dX3_canWiden_27 (by decide) (fun q => absurd (by decide) q) (fun _ => ?_)
  refine lv_iload_n hx hb dX3_canWiden_30 rfl (lv_at hl 1 rfl) ?_
  refine lv_iload_n hx hb dX3_canWiden_31 rfl (lv_at hl 2 rfl) ?_
  refine vp_callSi (W.runS (As := [.int k, .int k2]) (rest := []) ⟨hx, hb, hml, hown, hts⟩ (kX3_widens l k k2) (va_cwS 2 hts gX3_canWiden_X3_widens rfl rfl rfl (by decide +kernel) ⟨Nat.le_of_ble_eq_true rfl, Nat.le_of_ble_eq_true rfl⟩) ⟨fun a U g mk q => q, fun U hU hW => ⟨rfl, trivial⟩⟩ rfl rfl hl.1 rfl (lv_room (Nat.le_of_ble_eq_true rfl)) dX3_canWiden_32 ⟨Nat.zero_le _, Nat.zero_le _⟩) (fun r_6 hr_6 => ?_)
  subst hr_6
  refine lv_if_eq (tgt := 42) hx hb dX3_canWiden_35 (by decide) (fun c_7 => ?_) (fun c_7 => ?_)
  · refine lv_iconst (v := 0) hx hb dX3_canWiden_42 (by decide) ?_
    exact W.zret (ty := .boolean) (v := 0) hx hb hr rfl (fun t9 ht9 hW9 => ⟨⟨0, (), rfl, (tb_f ((tb_0 _).mp c_7)).symm, by rw [ht9]; exact hP, hD⟩, hS.F ht9⟩) hS.2.2 dX3_canWiden_43
  · refine lv_iconst (v := 1) hx hb dX3_canWiden_38 (by decide) ?_
    refine lv_goto (tgt := 43) hx hb dX3_canWiden_39 (by decide) ?_
    exact W.zret (ty := .boolean) (v := 1) hx hb hr rfl (fun t9 ht9 hW9 => ⟨⟨1, (), rfl, (tb_t ((tb_1 _).mp c_7)).symm, by rw [ht9]; exact hP, hD⟩, hS.F ht9⟩) hS.2.2 dX3_canWiden_43
set_option maxHeartbeats 4000000 in
set_option maxRecDepth 100000 in
theorem tX3_canWiden_n1 (l : Launch) (D : va_G) (A : Nat → Prop) (cI cJ cD cC : ClassId) (x0 x1 x2 x3 x4 : Nat × va_E) (Z : va_W) (m0 m1 m2 m3 m4 m5 : Nat) (th : Int32) (n : Nat) (K : Nat → Int32) (Ln : Nat → Nat) (Wh : Nat → Int64) (Re : Nat → UInt64) (cd : Int32) (ct : Nat → Int32) (sz : Nat)  (k k2 : Int32) (hk : kIs k = false) : Met l yX3_canWiden wsX3_canWiden ({ frames := 1, cells := 0, slots := 0, locals := 20 }) (tcP D A (tcTY cI cJ cD cC) sz [.ref m0, .int k, .int k2] (tc_Z cI cJ cD x0 x1 x2 x3 x4 Z m0 m1 m2 m3 m4 m5 th n K Ln Wh Re cd ct)) (va_Qi (fun r (_ : Unit) => r = 0) (fun _ t => tcB D A (tc_Z cI cJ cD x0 x1 x2 x3 x4 Z m0 m1 m2 m3 m4 m5 1 n K Ln Wh Re cd ct) t) A) 0 0 A := by
  refine Met.ofW (cc := cX3_canWiden) (maxL := 3) (ret := (some .boolean)) (by decide) rfl ?_
  intro p e s m args below meth c s₁ B hml hv
  obtain ⟨rfl, hsz, hP, hK, hD, hE⟩ := hv
  have hx := B.exec
  have hb := B.bytes
  have hr := B.returns
  have hts := atoms_spec (ws := wsX3_canWiden) B.pre
  have hown : s.vm.findClass RX3 = some m.cls := findClass_of_methodNamed B.named
  have hlocks := B.notSynchronized
  have hl := lv_entry ([.ref m0, .int k, .int k2]) (n := 3) (Nat.le_of_ble_eq_true rfl)
  rw [lg_entry_eq]
  generalize (lg_sl ([.ref m0, .int k, .int k2]) ++ List.replicate (3 - (lg_sl ([.ref m0, .int k, .int k2])).length) Slot.unset).toArray = ls at hl ⊢
  have hl : lv_has ls 3 [(0, .ref m0), (1, .int k), (2, .int k2)] := hl
  subst hsz
  have hS : va_S A s.heap s.heap [] := va_S.rf
  refine lv_aload_n hx hb dX3_canWiden_0 rfl (lv_at hl 0 rfl) ?_
  refine lv_iload_n hx hb dX3_canWiden_1 rfl (lv_at hl 1 rfl) ?_
  refine vp_callSi (W.runS (As := [.int k]) (rest := [.ref m0]) ⟨hx, hb, hml, hown, hts⟩ (kX3_isKind l k) (va_cwS 1 hts gX3_canWiden_X3_isKind rfl rfl rfl (by decide +kernel) ⟨Nat.le_of_ble_eq_true rfl, Nat.le_of_ble_eq_true rfl⟩) ⟨fun a U g mk q => q, fun U hU hW => ⟨rfl, trivial⟩⟩ rfl rfl hl.1 rfl (lv_room (Nat.le_of_ble_eq_true rfl)) dX3_canWiden_2 ⟨Nat.zero_le _, Nat.zero_le _⟩) (fun r_1 hr_1 => ?_)
  subst hr_1
  refine lv_if_eq (tgt := 19) hx hb dX3_canWiden_5 (by decide) (fun _ => ?_) (fun q => absurd ((tb_0 _).mpr hk) q)
  refine lv_iconst (v := 1) hx hb dX3_canWiden_19 (by decide) ?_
  refine va_put (D := D) (ci := 3) (fs := [.int th, .int (nI n), .ref m1, .ref m2, .ref m3, .ref m4, .int cd, .ref m5]) (v := .int 1) (ty := .int) (C := RX3) (T := TX3) (N := 8) hx hb hts (by decide +kernel) tyX3 tyX3_ok nmX3 hown hK hP hD hS 5 rfl rfl 0 (by decide) (hts (.fieldLink RX3 27 "TypedColumnsModel" "thrown" "I") (by decide +kernel)) (fun _ h9 => h9) rfl (by decide +kernel) rfl rfl (Nat.le_of_ble_eq_true rfl) dX3_canWiden_20 (fun H locs hP hD hS => ?_)
  have hP : va_P D vwCl (tc_Z cI cJ cD x0 x1 x2 x3 x4 Z m0 m1 m2 m3 m4 m5 1 n K Ln Wh Re cd ct) H := hP
  have hD : va_D A (tc_Z cI cJ cD x0 x1 x2 x3 x4 Z m0 m1 m2 m3 m4 m5 1 n K Ln Wh Re cd ct) := hD
  refine lv_aload_n hx hb dX3_canWiden_23 rfl (lv_at hl 0 rfl) ?_
  refine va_get (D := D) (ci := 3) (fs := [.int 1, .int (nI n), .ref m1, .ref m2, .ref m3, .ref m4, .int cd, .ref m5]) (v := .int 1) (C := RX3) (T := TX3) (N := 8) hx hb hts (by decide +kernel) hown hK hP 5 rfl rfl 0 (by decide) (hts (.fieldLink RX3 27 "TypedColumnsModel" "thrown" "I") (by decide +kernel)) (fun _ h9 => h9) rfl dX3_canWiden_24 ?_
  refine lv_if_ne (tgt := 42) hx hb dX3_canWiden_27 (by decide) (fun _ => ?_) (fun q => absurd q (by decide))
  refine lv_iconst (v := 0) hx hb dX3_canWiden_42 (by decide) ?_
  exact W.zret (ty := .boolean) (v := 0) hx hb hr rfl (fun t9 ht9 hW9 => ⟨⟨0, (), rfl, rfl, by rw [ht9]; exact hP, hD⟩, hS.F ht9⟩) hS.2.2 dX3_canWiden_43
set_option maxHeartbeats 4000000 in
set_option maxRecDepth 100000 in
theorem tX3_canWiden_n2 (l : Launch) (D : va_G) (A : Nat → Prop) (cI cJ cD cC : ClassId) (x0 x1 x2 x3 x4 : Nat × va_E) (Z : va_W) (m0 m1 m2 m3 m4 m5 : Nat) (th : Int32) (n : Nat) (K : Nat → Int32) (Ln : Nat → Nat) (Wh : Nat → Int64) (Re : Nat → UInt64) (cd : Int32) (ct : Nat → Int32) (sz : Nat)  (k k2 : Int32) (hk : kIs k = true) (hk2 : kIs k2 = false) : Met l yX3_canWiden wsX3_canWiden ({ frames := 1, cells := 0, slots := 0, locals := 20 }) (tcP D A (tcTY cI cJ cD cC) sz [.ref m0, .int k, .int k2] (tc_Z cI cJ cD x0 x1 x2 x3 x4 Z m0 m1 m2 m3 m4 m5 th n K Ln Wh Re cd ct)) (va_Qi (fun r (_ : Unit) => r = 0) (fun _ t => tcB D A (tc_Z cI cJ cD x0 x1 x2 x3 x4 Z m0 m1 m2 m3 m4 m5 1 n K Ln Wh Re cd ct) t) A) 0 0 A := by
  refine Met.ofW (cc := cX3_canWiden) (maxL := 3) (ret := (some .boolean)) (by decide) rfl ?_
  intro p e s m args below meth c s₁ B hml hv
  obtain ⟨rfl, hsz, hP, hK, hD, hE⟩ := hv
  have hx := B.exec
  have hb := B.bytes
  have hr := B.returns
  have hts := atoms_spec (ws := wsX3_canWiden) B.pre
  have hown : s.vm.findClass RX3 = some m.cls := findClass_of_methodNamed B.named
  have hlocks := B.notSynchronized
  have hl := lv_entry ([.ref m0, .int k, .int k2]) (n := 3) (Nat.le_of_ble_eq_true rfl)
  rw [lg_entry_eq]
  generalize (lg_sl ([.ref m0, .int k, .int k2]) ++ List.replicate (3 - (lg_sl ([.ref m0, .int k, .int k2])).length) Slot.unset).toArray = ls at hl ⊢
  have hl : lv_has ls 3 [(0, .ref m0), (1, .int k), (2, .int k2)] := hl
  subst hsz
  have hS : va_S A s.heap s.heap [] := va_S.rf
  refine lv_aload_n hx hb dX3_canWiden_0 rfl (lv_at hl 0 rfl) ?_
  refine lv_iload_n hx hb dX3_canWiden_1 rfl (lv_at hl 1 rfl) ?_
  refine vp_callSi (W.runS (As := [.int k]) (rest := [.ref m0]) ⟨hx, hb, hml, hown, hts⟩ (kX3_isKind l k) (va_cwS 1 hts gX3_canWiden_X3_isKind rfl rfl rfl (by decide +kernel) ⟨Nat.le_of_ble_eq_true rfl, Nat.le_of_ble_eq_true rfl⟩) ⟨fun a U g mk q => q, fun U hU hW => ⟨rfl, trivial⟩⟩ rfl rfl hl.1 rfl (lv_room (Nat.le_of_ble_eq_true rfl)) dX3_canWiden_2 ⟨Nat.zero_le _, Nat.zero_le _⟩) (fun r_1 hr_1 => ?_)
  subst hr_1
  refine lv_if_eq (tgt := 19) hx hb dX3_canWiden_5 (by decide) (fun q => absurd q ((tb_1 _).mpr hk)) (fun _ => ?_)
  refine lv_iload_n hx hb dX3_canWiden_8 rfl (lv_at hl 2 rfl) ?_
  refine vp_callSi (W.runS (As := [.int k2]) (rest := [.ref m0]) ⟨hx, hb, hml, hown, hts⟩ (kX3_isKind l k2) (va_cwS 1 hts gX3_canWiden_X3_isKind rfl rfl rfl (by decide +kernel) ⟨Nat.le_of_ble_eq_true rfl, Nat.le_of_ble_eq_true rfl⟩) ⟨fun a U g mk q => q, fun U hU hW => ⟨rfl, trivial⟩⟩ rfl rfl hl.1 rfl (lv_room (Nat.le_of_ble_eq_true rfl)) dX3_canWiden_9 ⟨Nat.zero_le _, Nat.zero_le _⟩) (fun r_3 hr_3 => ?_)
  subst hr_3
  refine lv_if_eq (tgt := 19) hx hb dX3_canWiden_12 (by decide) (fun _ => ?_) (fun q => absurd ((tb_0 _).mpr hk2) q)
  refine lv_iconst (v := 1) hx hb dX3_canWiden_19 (by decide) ?_
  refine va_put (D := D) (ci := 3) (fs := [.int th, .int (nI n), .ref m1, .ref m2, .ref m3, .ref m4, .int cd, .ref m5]) (v := .int 1) (ty := .int) (C := RX3) (T := TX3) (N := 8) hx hb hts (by decide +kernel) tyX3 tyX3_ok nmX3 hown hK hP hD hS 5 rfl rfl 0 (by decide) (hts (.fieldLink RX3 27 "TypedColumnsModel" "thrown" "I") (by decide +kernel)) (fun _ h9 => h9) rfl (by decide +kernel) rfl rfl (Nat.le_of_ble_eq_true rfl) dX3_canWiden_20 (fun H locs hP hD hS => ?_)
  have hP : va_P D vwCl (tc_Z cI cJ cD x0 x1 x2 x3 x4 Z m0 m1 m2 m3 m4 m5 1 n K Ln Wh Re cd ct) H := hP
  have hD : va_D A (tc_Z cI cJ cD x0 x1 x2 x3 x4 Z m0 m1 m2 m3 m4 m5 1 n K Ln Wh Re cd ct) := hD
  refine lv_aload_n hx hb dX3_canWiden_23 rfl (lv_at hl 0 rfl) ?_
  refine va_get (D := D) (ci := 3) (fs := [.int 1, .int (nI n), .ref m1, .ref m2, .ref m3, .ref m4, .int cd, .ref m5]) (v := .int 1) (C := RX3) (T := TX3) (N := 8) hx hb hts (by decide +kernel) hown hK hP 5 rfl rfl 0 (by decide) (hts (.fieldLink RX3 27 "TypedColumnsModel" "thrown" "I") (by decide +kernel)) (fun _ h9 => h9) rfl dX3_canWiden_24 ?_
  refine lv_if_ne (tgt := 42) hx hb dX3_canWiden_27 (by decide) (fun _ => ?_) (fun q => absurd q (by decide))
  refine lv_iconst (v := 0) hx hb dX3_canWiden_42 (by decide) ?_
  exact W.zret (ty := .boolean) (v := 0) hx hb hr rfl (fun t9 ht9 hW9 => ⟨⟨0, (), rfl, rfl, by rw [ht9]; exact hP, hD⟩, hS.F ht9⟩) hS.2.2 dX3_canWiden_43
