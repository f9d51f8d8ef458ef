/-! FLOATS: which words are no NaN, the guarded sum, the bits of a double found by arithmetic -/
theorem tf_n64 (a : UInt64) : vf_n64 a ↔ FP.Core.dIsNaN a = false := by
  have h := FP.Core.isNaN_bits a
  unfold vf_n64
  rw [UInt64.le_iff_toNat_le, UInt64.toNat_and]
  have h1 : (0x7fffffffffffffff : UInt64).toNat = 2 ^ 63 - 1 := by decide
  have h2 : (0x7ff0000000000000 : UInt64).toNat = 9218868437227405312 := by decide
  rw [h1, h2, Nat.and_two_pow_sub_one_eq_mod]
  cases hz : FP.Core.dIsNaN a
  · rw [hz] at h
    have : ¬ 9218868437227405312 < a.toNat % 2 ^ 63 := fun q => by have := h.mpr q; cases this
    simp only [iff_true]
    omega
  · have := h.mp hz
    constructor
    · intro q; omega
    · intro q; cases q
theorem tf_n32 (a : UInt32) : vf_n32 a ↔ FP.Core.fIsNaN a = false := by
  have h := FP.Core.isNaN_bits32 a
  unfold vf_n32
  rw [UInt32.le_iff_toNat_le, UInt32.toNat_and]
  have h1 : (0x7fffffff : UInt32).toNat = 2 ^ 31 - 1 := by decide
  have h2 : (0x7f800000 : UInt32).toNat = 2139095040 := by decide
  rw [h1, h2, Nat.and_two_pow_sub_one_eq_mod]
  cases hz : FP.Core.fIsNaN a
  · rw [hz] at h
    have : ¬ 2139095040 < a.toNat % 2 ^ 31 := fun q => by have := h.mpr q; cases this
    simp only [iff_true]
    omega
  · have := h.mp hz
    constructor
    · intro q; omega
    · intro q; cases q
theorem tf_isNaN (a : UInt64) : isNaN64 a = FP.Core.dIsNaN a := by
  have h1 := isNaN64_not (b := a)
  have h2 := tf_n64 a
  unfold vf_n64 at h2
  cases hz : FP.Core.dIsNaN a
  · have h3 := h2.mpr hz
    cases hy : isNaN64 a
    · rfl
    · exact absurd h3 (h1.mp hy)
  · cases hy : isNaN64 a
    · have : ¬ (a &&& 0x7fffffffffffffff ≤ 0x7ff0000000000000) := fun q => by have := h2.mp q; rw [hz] at this; cases this
      exact absurd (h1.mpr this) (by rw [hy]; decide)
    · rfl
theorem tf_alike (x y : UInt64) : alike64 x y = true ↔ x = y ∨ (FP.Core.dIsNaN x = true ∧ FP.Core.dIsNaN y = true) := by
  simp [alike64, tf_isNaN]
def tf_canon (r : UInt64) : UInt64 := if FP.Core.dIsNaN r = true then 9221120237041090560 else r
def tf_sum (v : Nat → UInt64) : Nat → UInt64
  | 0 => 0
  | k + 1 => tf_canon (FP.dadd (tf_sum v k) (v k))
theorem tf_step {x y v r : UInt64} (h : alike64 x y = true) (hr : alike64 r (FP.dadd x v) = true) : alike64 r (tf_canon (FP.dadd y v)) = true := by
  have hn : FP.Core.dIsNaN 9221120237041090560 = true := by decide +kernel
  rw [tf_alike] at h hr ⊢
  by_cases hz : FP.Core.dIsNaN (FP.dadd y v) = true
  · right
    unfold tf_canon
    rw [if_pos hz]
    refine ⟨?_, hn⟩
    have hx : FP.Core.dIsNaN (FP.dadd x v) = true := by
      rcases h with h | ⟨h1, -⟩
      · rw [h]; exact hz
      · exact (FP.Core.dadd_nan_iff x v).mpr (Or.inl ((FP.Core.dIsNaN_iff x).mp h1))
    rcases hr with h2 | ⟨h2, -⟩
    · rw [h2]; exact hx
    · exact h2
  · have hf : FP.Core.dIsNaN (FP.dadd y v) = false := by simpa using hz
    have hy : FP.Core.dIsNaN y = false := (FP.Core.dadd_in hf).1
    rcases h with h | ⟨-, h1⟩
    · subst h
      unfold tf_canon
      rw [if_neg hz]
      exact hr
    · rw [hy] at h1; cases h1
/-- what the class answers and what the model answers are one number, or both are none -/
theorem tf_canon_n (r : UInt64) : alike64 r (tf_canon r) = true := by
  have hn : FP.Core.dIsNaN 9221120237041090560 = true := by decide +kernel
  rw [tf_alike]
  unfold tf_canon
  by_cases h : FP.Core.dIsNaN r = true
  · rw [if_pos h]; exact Or.inr ⟨h, hn⟩
  · rw [if_neg h]; exact Or.inl rfl
def tf_inf (v : UInt64) : Bool := decide (v.toNat % 2 ^ 63 = 9218868437227405312)
theorem tf_inf_gt {v : UInt64} (h : FP.Core.dIsNaN v = false) : FP.dcmp v 9218868437227405311 = some .gt ↔ v.toNat = 9218868437227405312 := by
  have hv := (FP.Core.notNaN_iff v).mp h
  have hm : FP.Core.val64 9218868437227405311 ≠ .nan := by rw [FP.Core.ne_nan]; decide
  have hb := (FP.Core.ne_nan v).mp hv
  have hl := v.toNat_lt
  rw [show FP.dcmp v 9218868437227405311 = FP.Core.dcmp v 9218868437227405311 from rfl, FP.Core.dcmp_gt_key hv hm]
  have e1 : FP.Core.dkey 9218868437227405311 = 9218868437227405311 := by decide
  rw [e1]
  unfold FP.Core.dkey
  split <;> omega
theorem tf_inf_lt {v : UInt64} (h : FP.Core.dIsNaN v = false) : FP.dcmp v 18442240474082181119 = some .lt ↔ v.toNat = 9218868437227405312 + 9223372036854775808 := by
  have hv := (FP.Core.notNaN_iff v).mp h
  have hm : FP.Core.val64 18442240474082181119 ≠ .nan := by rw [FP.Core.ne_nan]; decide
  have hb := (FP.Core.ne_nan v).mp hv
  have hl := v.toNat_lt
  rw [show FP.dcmp v 18442240474082181119 = FP.Core.dcmp v 18442240474082181119 from rfl, FP.Core.dcmp_lt_key hv hm]
  have e1 : FP.Core.dkey 18442240474082181119 = -9218868437227405311 := by decide
  rw [e1]
  unfold FP.Core.dkey
  split <;> omega
theorem tf_infV {v : UInt64} : tf_inf v = true ↔ ∃ s, FP.Core.val64 v = .inf s := by
  have hl := v.toNat_lt
  have p1 : FP.Core.val64 9218868437227405312 = .inf false := by decide +kernel
  have p2 : FP.Core.val64 18442240474082181120 = .inf true := by decide +kernel
  unfold tf_inf
  rw [decide_eq_true_eq]
  constructor
  · intro h
    by_cases hc : v.toNat < 2 ^ 63
    · have : v = 9218868437227405312 := UInt64.toNat_inj.mp (by show v.toNat = 9218868437227405312; omega)
      exact ⟨false, by rw [this]; exact p1⟩
    · have : v = 18442240474082181120 := UInt64.toNat_inj.mp (by show v.toNat = 18442240474082181120; omega)
      exact ⟨true, by rw [this]; exact p2⟩
  · rintro ⟨s, h⟩
    cases s
    · have : v = 9218868437227405312 := FP.Core.val64_inj (by rw [h]; simp) (h.trans p1.symm)
      rw [this]; decide
    · have : v = 18442240474082181120 := FP.Core.val64_inj (by rw [h]; simp) (h.trans p2.symm)
      rw [this]; decide
theorem tf_inf_or {v : UInt64} (h : FP.Core.dIsNaN v = false) : tf_inf v = true ↔ (FP.dcmp v 9218868437227405311 = some .gt ∨ FP.dcmp v 18442240474082181119 = some .lt) := by
  have hl := v.toNat_lt
  rw [tf_inf_gt h, tf_inf_lt h]
  unfold tf_inf
  rw [decide_eq_true_eq]
  omega
theorem tf_dcmp_none (a b : UInt64) : FP.dcmp a b = none ↔ FP.Core.dIsNaN a = true ∨ FP.Core.dIsNaN b = true := by
  constructor
  · intro h
    by_cases ha : FP.Core.dIsNaN a = true
    · exact Or.inl ha
    · by_cases hb : FP.Core.dIsNaN b = true
      · exact Or.inr hb
      · obtain ⟨o, ho⟩ := FP.Core.dcmp_of_notNaN (a := a) (b := b) (by simpa using ha) (by simpa using hb)
        rw [show FP.dcmp a b = FP.Core.dcmp a b from rfl, ho] at h
        cases h
  · intro h
    cases hc : FP.dcmp a b with
    | none => rfl
    | some o =>
      have := FP.Core.dcmp_notNaN (a := a) (b := b) hc
      rcases h with h | h
      · rw [h] at this; cases this.1
      · rw [h] at this; cases this.2
theorem tf_dcmp_self (a : UInt64) : FP.Core.dIsNaN a = false → FP.dcmp a a = some .eq := fun h => FP.Core.dcmp_refl h
theorem tf_sumc {a b : UInt64} (ha : FP.Core.dIsNaN a = false) (hb : FP.Core.dIsNaN b = false) : (tf_inf a = true ∧ FP.dcmp a (FP.dneg b) = some .eq) ↔ FP.Core.dIsNaN (FP.dadd a b) = true := by
  have hva := (FP.Core.notNaN_iff a).mp ha
  have hvb := (FP.Core.notNaN_iff b).mp hb
  have hn : FP.Core.dIsNaN (FP.dneg b) = false := (FP.dneg_nan b).trans hb
  have hvn := (FP.Core.notNaN_iff _).mp hn
  rw [show FP.dadd a b = FP.Core.dadd a b from rfl, FP.Core.dadd_nan_iff, tf_infV]
  constructor
  · rintro ⟨⟨s, hs⟩, hc⟩
    refine Or.inr (Or.inr ⟨s, hs, ?_⟩)
    have hz : ¬ FP.Core.DZero a := fun q => q.ne_inf s hs
    have hc2 : FP.Core.dcmp (FP.dneg b) a = some .eq := by
      rw [FP.Core.dcmp_eq_key hvn hva]
      exact ((FP.Core.dcmp_eq_key hva hvn).mp hc).symm
    have e := FP.Core.eq_bits hz hc2
    have h2 := FP.val64_dneg b
    rw [e, hs] at h2
    cases hb2 : FP.Core.val64 b with
    | nan => exact absurd hb2 hvb
    | inf t => rw [hb2] at h2; simp only [FP.Core.negate, FP.Core.Datum.inf.injEq] at h2; rw [h2]; simp
    | fin t c q => rw [hb2] at h2; simp [FP.Core.negate] at h2
  · rintro (h | h | ⟨s, h1, h2⟩)
    · exact absurd h hva
    · exact absurd h hvb
    · refine ⟨⟨s, h1⟩, ?_⟩
      have h3 := FP.val64_dneg b
      rw [h2] at h3
      simp only [FP.Core.negate, Bool.not_not] at h3
      have e : a = FP.dneg b := FP.Core.val64_inj hva (h1.trans h3.symm)
      rw [← e]
      exact tf_dcmp_self a ha
theorem tf_quot {f : FP.Core.Fmt} {s t : Bool} {c d : Nat} {q r : Int} (hd : d ≠ 0) : FP.Core.quotient f (.fin s c q) (.fin t d r) = FP.Core.roundRatio f (s != t) c d (q - r) := by
  simp [FP.Core.quotient, hd]
/-- the positive normal double with exponent field e and fraction t -/
def tf_N (e t : Nat) : UInt64 := UInt64.ofNat (e * 4503599627370496 + t)
theorem tf_Nn {e t : Nat} (h2 : e ≤ 2047) (ht : t < 4503599627370496) : (tf_N e t).toNat = e * 4503599627370496 + t := by
  unfold tf_N
  exact UInt64.toNat_ofNat_of_lt' (by show _ < 18446744073709551616; omega)
theorem tf_val {e t : Nat} (h1 : 1 ≤ e) (h2 : e ≤ 2046) (ht : t < 4503599627370496) : FP.Core.val64 (tf_N e t) = .fin false (4503599627370496 + t) ((e : Int) - 1075) := by
  have hx : FP.Core.b64.exps = 2048 := by decide
  have htl : FP.Core.b64.tails = 4503599627370496 := by decide
  have hn : (tf_N e t).toNat = FP.Core.assemble FP.Core.b64 false e t := by
    rw [tf_Nn (by omega) ht]
    unfold FP.Core.assemble
    rw [htl]
    simp
  unfold FP.Core.val64
  rw [hn, FP.Core.decode_assemble _ _ _ _ (by rw [hx]; omega) (by rw [htl]; exact ht), if_neg (by rw [hx]; omega), if_neg (by omega), htl, FP.Core.qmin_b64]
  congr 1
  omega
theorem tf_Nnan {e t : Nat} (h2 : e ≤ 2046) (ht : t < 4503599627370496) : vf_n64 (tf_N e t) := by
  rw [tf_n64, FP.Core.notNaN_iff, FP.Core.ne_nan, tf_Nn (by omega) ht]
  omega
theorem tf_fits {e t : Nat} (h1 : 1 ≤ e) (h2 : e ≤ 2046) (ht : t < 4503599627370496) : FP.Core.fits FP.Core.b64 (.fin false (4503599627370496 + t) ((e : Int) - 1075)) := by
  have h := FP.Core.val64_fits (tf_N e t)
  rw [tf_val h1 h2 ht] at h
  exact h
theorem tf_mul {e t k : Nat} (h1 : 1 ≤ e) (h2 : e + k ≤ 2046) (hk : k ≤ 1023) (ht : t < 4503599627370496) : FP.dmul (tf_N e t) (tf_N (1023 + k) 0) = tf_N (e + k) t := by
  have e2 : FP.Core.val64 (FP.dmul (tf_N e t) (tf_N (1023 + k) 0)) = .fin false (4503599627370496 + t) (((e + k : Nat) : Int) - 1075) := by
    rw [show FP.dmul (tf_N e t) (tf_N (1023 + k) 0) = FP.Core.dmul (tf_N e t) (tf_N (1023 + k) 0) from rfl, FP.Core.val64_dmul, tf_val h1 (by omega) ht, tf_val (by omega) (by omega) (by omega)]
    show FP.Core.roundRatio FP.Core.b64 false ((4503599627370496 + t) * (4503599627370496 + 0)) 1 (((e : Int) - 1075) + (((1023 + k : Nat) : Int) - 1075)) = _
    refine FP.Core.roundRatio_exact FP.Core.good_b64 (by decide) (tf_fits (by omega) h2 ht) ?_
    have a1 : (((e : Int) - 1075) + (((1023 + k : Nat) : Int) - 1075) - (((e + k : Nat) : Int) - 1075)).toNat = 0 := by omega
    have a2 : ((((e + k : Nat) : Int) - 1075) - (((e : Int) - 1075) + (((1023 + k : Nat) : Int) - 1075))).toNat = 52 := by omega
    rw [a1, a2]
    simp
  exact FP.Core.val64_inj (by rw [e2]; simp) (e2.trans (tf_val (by omega) h2 ht).symm)
theorem tf_div {e t k : Nat} (h1 : k + 1 ≤ e) (h2 : e ≤ 2046) (hk : k ≤ 1023) (ht : t < 4503599627370496) : FP.ddiv (tf_N e t) (tf_N (1023 + k) 0) = tf_N (e - k) t := by
  have e2 : FP.Core.val64 (FP.ddiv (tf_N e t) (tf_N (1023 + k) 0)) = .fin false (4503599627370496 + t) (((e - k : Nat) : Int) - 1075) := by
    rw [show FP.ddiv (tf_N e t) (tf_N (1023 + k) 0) = FP.Core.ddiv (tf_N e t) (tf_N (1023 + k) 0) from rfl, FP.Core.val64_ddiv, tf_val (by omega) (by omega) ht, tf_val (by omega) (by omega) (by omega)]
    rw [tf_quot (by decide)]
    refine FP.Core.roundRatio_exact FP.Core.good_b64 (by decide) (tf_fits (by omega) (by omega) ht) ?_
    have a1 : (((e : Int) - 1075) - (((1023 + k : Nat) : Int) - 1075) - (((e - k : Nat) : Int) - 1075)).toNat = 52 := by omega
    have a2 : ((((e - k : Nat) : Int) - 1075) - (((e : Int) - 1075) - (((1023 + k : Nat) : Int) - 1075))).toNat = 0 := by omega
    rw [a1, a2]
    simp
  exact FP.Core.val64_inj (by rw [e2]; simp) (e2.trans (tf_val (by omega) (by omega) ht).symm)
/-- a positive whole double of at most 53 digits is its own number -/
theorem tf_d2l {a : UInt64} {n c : Nat} {q : Int} (hv : FP.Core.val64 a = .fin false c q) (hq : -1074 ≤ q) (hc : c * 2 ^ (q + 1074).toNat = n * 2 ^ 1074) (hn : n < 9007199254740992) : (FP.d2l a).toInt = n := by
  rw [show FP.d2l a = FP.Core.d2l a from rfl, FP.Core.d2l_val (by rw [hv]; simp), hv]
  have hz : FP.Core.zmag FP.Core.b64 (.fin false c q) = n * 2 ^ 1074 := by
    show c * 2 ^ (q - FP.Core.b64.qmin).toNat = _
    rw [FP.Core.qmin_b64, show q - (-1074) = q + 1074 from by omega]
    exact hc
  have ho : FP.Core.one64 = 2 ^ 1074 := rfl
  rw [hz, ho, Nat.mul_div_cancel _ (Nat.two_pow_pos 1074)]
  show max (-2 ^ 63) (min (2 ^ 63 - 1) (n : Int)) = (n : Int)
  omega
theorem tf_d2lN {t : Nat} (ht : t < 4503599627370496) : (FP.d2l (tf_N 1075 t)).toInt = ((4503599627370496 + t : Nat) : Int) := by
  refine tf_d2l (c := 4503599627370496 + t) (q := 0) ?_ (by decide) ?_ (by omega)
  · rw [tf_val (by decide) (by decide) ht]; rfl
  · rw [show ((0 : Int) + 1074).toNat = 1074 from rfl]
theorem tf_sub {t : Nat} (h0 : 0 < t) (ht : t < 4503599627370496) : (FP.d2l (FP.ddiv (tf_N 0 t) 1)).toInt = t ∧ vf_n64 (FP.ddiv (tf_N 0 t) 1) := by
  have hx : FP.Core.b64.exps = 2048 := by decide
  have htl : FP.Core.b64.tails = 4503599627370496 := by decide
  have hn : (tf_N 0 t).toNat = FP.Core.assemble FP.Core.b64 false 0 t := by
    rw [tf_Nn (by omega) ht]
    unfold FP.Core.assemble
    rw [htl]
    simp
  have hv : FP.Core.val64 (tf_N 0 t) = .fin false t (-1074) := by
    unfold FP.Core.val64
    rw [hn, FP.Core.decode_assemble _ _ _ _ (by rw [hx]; omega) (by rw [htl]; exact ht), if_neg (by rw [hx]; omega), if_pos rfl, FP.Core.qmin_b64]
  have h1 : FP.Core.val64 1 = .fin false 1 (-1074) := by decide +kernel
  have hl1 : 2 ^ t.log2 ≤ t := (Nat.le_log2 (by omega)).mp (Nat.le_refl _)
  have hl2 : t < 2 ^ (t.log2 + 1) := (Nat.log2_lt (by omega)).mp (Nat.lt_succ_self _)
  have hL : t.log2 < 52 := (Nat.log2_lt (by omega)).mpr (by omega)
  obtain ⟨L, hLe⟩ : ∃ L, L = t.log2 := ⟨_, rfl⟩
  rw [← hLe] at hl1 hl2 hL
  have hp : 2 ^ L * 2 ^ (52 - L) = 4503599627370496 := by
    rw [← Nat.pow_add, show L + (52 - L) = 52 from by omega]
  have hp2 : 2 ^ (L + 1) * 2 ^ (52 - L) = 9007199254740992 := by
    rw [← Nat.pow_add, show L + 1 + (52 - L) = 53 from by omega]
  have hpos : 0 < 2 ^ (52 - L) := Nat.two_pow_pos _
  have g1 : 4503599627370496 ≤ t * 2 ^ (52 - L) := by rw [← hp]; exact Nat.mul_le_mul_right _ hl1
  have g2 : t * 2 ^ (52 - L) < 9007199254740992 := by rw [← hp2]; exact Nat.mul_lt_mul_of_pos_right hl2 hpos
  have e2 : FP.Core.val64 (FP.ddiv (tf_N 0 t) 1) = .fin false (t * 2 ^ (52 - L)) ((L : Int) - 52) := by
    rw [show FP.ddiv (tf_N 0 t) 1 = FP.Core.ddiv (tf_N 0 t) 1 from rfl, FP.Core.val64_ddiv, hv, h1]
    rw [tf_quot (by decide)]
    refine FP.Core.roundRatio_exact FP.Core.good_b64 (by decide) ⟨by show _ < 9007199254740992; exact g2, by rw [FP.Core.qmin_b64]; omega, by show _ ≤ (971 : Int); omega, Or.inr (by rw [htl]; exact g1)⟩ ?_
    have a1 : ((-1074 : Int) - (-1074) - ((L : Int) - 52)).toNat = 52 - L := by omega
    have a2 : (((L : Int) - 52) - ((-1074 : Int) - (-1074))).toNat = 0 := by omega
    rw [a1, a2]
    simp
  refine ⟨tf_d2l e2 (by omega) ?_ (by omega), ?_⟩
  · have a3 : ((L : Int) - 52 + 1074).toNat = L + 1022 := by omega
    rw [a3, Nat.mul_assoc, ← Nat.pow_add, show 52 - L + (L + 1022) = 1074 from by omega]
  · rw [tf_n64, FP.Core.notNaN_iff, e2]; simp
theorem tf_toI {n : Nat} (h : n < 9223372036854775808) : (UInt64.ofNat n).toInt64.toInt = n := by
  have h1 : (UInt64.ofNat n).toNat = n := UInt64.toNat_ofNat_of_lt' (by show _ < 18446744073709551616; omega)
  have h2 : (UInt64.ofNat n).toInt64.toBitVec.toNat = n := h1
  show (UInt64.ofNat n).toInt64.toBitVec.toInt = n
  rw [BitVec.toInt_eq_toNat_of_lt (by rw [h2]; omega), h2]
theorem tf_lNI {n : Nat} (h : n < 9223372036854775808) : (lN n).toInt = n := pk_lT h
/-- the positive normal double's bits put together -/
theorem tf_put {e t : Nat} (h2 : e ≤ 2046) (ht : t < 4503599627370496) : ((nI e).toInt64 <<< ((52 : Int32).toInt64 &&& 63)) + lN t = (tf_N e t).toInt64 := by
  rw [nI_l (by omega)]
  have hs : lN e <<< ((52 : Int32).toInt64 &&& 63) = lN (e * 4503599627370496) := by
    have hk : ((52 : Int32).toInt64 &&& 63) = (52 : Int64) := by decide
    rw [hk]
    apply Int64.toBitVec_inj.mp
    apply BitVec.eq_of_toNat_eq
    have hb : (lN e <<< (52 : Int64)).toBitVec = (lN e).toBitVec <<< 52 := by
      rw [Int64.toBitVec_shiftLeft]; rfl
    have hc : (lN e).toBitVec.toNat = e := by
      show (BitVec.ofNat 64 e).toNat = e
      rw [BitVec.toNat_ofNat]; omega
    have hd : (lN (e * 4503599627370496)).toBitVec.toNat = e * 4503599627370496 := by
      show (BitVec.ofNat 64 (e * 4503599627370496)).toNat = _
      rw [BitVec.toNat_ofNat]; omega
    rw [hb, hd, BitVec.toNat_shiftLeft, hc, Nat.shiftLeft_eq]
    omega
  rw [hs, lN_add]
  apply Int64.toInt_inj.mp
  unfold tf_N
  rw [tf_toI (by omega), tf_lNI (by omega)]
theorem tf_of_bits {x : UInt64} (h : x.toNat < 9218868437227405312) : ∃ e t, e ≤ 2046 ∧ t < 4503599627370496 ∧ x = tf_N e t := by
  refine ⟨x.toNat / 4503599627370496, x.toNat % 4503599627370496, by omega, Nat.mod_lt _ (by decide), ?_⟩
  unfold tf_N
  rw [Nat.div_add_mod']
  exact UInt64.toNat_inj.mp (UInt64.toNat_ofNat_of_lt' x.toNat_lt).symm
/-- comparisons of positive doubles are comparisons of their bits -/
theorem tf_cmp_lt {a b : UInt64} (ha : a.toNat ≤ 9218868437227405312) (hb : b.toNat ≤ 9218868437227405312) : (FP.dcmp a b = some .lt ↔ a.toNat < b.toNat) ∧ FP.dcmp a b ≠ none := by
  have na : FP.Core.val64 a ≠ .nan := by rw [FP.Core.ne_nan]; omega
  have nb : FP.Core.val64 b ≠ .nan := by rw [FP.Core.ne_nan]; omega
  refine ⟨(FP.Core.mono_bits na nb (by omega) (by omega)).1, ?_⟩
  rw [show FP.dcmp a b = FP.Core.dcmp a b from rfl, FP.Core.dcmp_key na nb]
  simp
theorem tf_cl (o : Option Ordering) : Op.cmpValue o .l < 0 ↔ o = some .lt ∨ o = none := by
  rcases o with _ | (_ | _ | _) <;> decide
theorem tf_cl0 (o : Option Ordering) : Op.cmpValue o .l = 0 ↔ o = some .eq := by
  rcases o with _ | (_ | _ | _) <;> decide
theorem tf_clgt (o : Option Ordering) : 0 < Op.cmpValue o .l ↔ o = some .gt := by
  rcases o with _ | (_ | _ | _) <;> decide
theorem tf_cg (o : Option Ordering) : 0 ≤ Op.cmpValue o .g ↔ o ≠ some .lt := by
  rcases o with _ | (_ | _ | _) <;> decide
theorem tf_i2d (x : Int32) : FP.Core.dIsNaN (FP.i2d x) = false := (FP.Core.i2d_fin x).notNaN
theorem tf_l2d (x : Int64) : FP.Core.dIsNaN (FP.l2d x) = false := (FP.Core.l2d_fin x).notNaN
theorem tf_i2f (x : Int32) : FP.Core.fIsNaN (FP.i2f x) = false := (FP.Core.i2f_fin x).notNaN
theorem tf_l2f (x : Int64) : FP.Core.fIsNaN (FP.l2f x) = false := (FP.Core.l2f_fin x).notNaN
theorem tf_f2d {x : UInt32} (h : FP.Core.fIsNaN x = false) : FP.Core.dIsNaN (FP.f2d x) = false := (FP.f2d_nan x).trans h
theorem tf_d2f {x : UInt64} (h : FP.Core.dIsNaN x = false) : FP.Core.fIsNaN (FP.d2f x) = false := (FP.d2f_nan x).trans h
theorem tf_fmul (x : Int32) : FP.Core.fIsNaN (FP.fmul (FP.i2f x) 1040187392) = false :=
  FP.Core.fmul_out (FP.Core.i2f_fin x) ((FP.Core.fin_bits32 _).mpr (by decide))
theorem tf_dmul (x : Int32) : FP.Core.dIsNaN (FP.dmul (FP.i2d x) 4593671619917905920) = false :=
  FP.Core.dmul_out (FP.Core.i2d_fin x) ((FP.Core.fin_bits _).mpr (by decide))
