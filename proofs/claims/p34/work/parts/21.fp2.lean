/-! FLOATS: what ints become, and back; sums of finite numbers -/
theorem tf_ge32 {i : Int} {a : UInt32} (ha : a.toNat = FP.Core.fromInt FP.Core.b32 i) (hi : 8388608 ≤ i.natAbs) : 150 * 2 ^ 23 ≤ a.toNat % 2 ^ 31 := by
  have hd : FP.Core.decode FP.Core.b32 (FP.Core.fromInt FP.Core.b32 i) = FP.Core.roundRatio FP.Core.b32 (decide (i < 0)) i.natAbs 1 0 := FP.Core.decode_enc FP.Core.good_b32 (FP.Core.round_fits FP.Core.good_b32 _)
  have h : 150 * FP.Core.b32.tails ≤ FP.Core.mag FP.Core.b32 (FP.Core.fromInt FP.Core.b32 i) := by
    refine FP.Core.mag_ge FP.Core.good_b32 hd (by decide) (e0 := FP.Core.b32.qmin) (Int.le_refl _) (by rw [FP.Core.qmin_b32]; decide) (by decide +kernel) ?_
    rw [FP.Core.unitsOf_start (by decide), Int.sub_self, Int.toNat_zero, Nat.pow_zero, Nat.mul_one, Nat.mul_one]
    show _ ≤ i.natAbs * 2 ^ (0 - FP.Core.b32.qmin).toNat
    rw [FP.Core.qmin_b32, FP.Core.tails_b32]
    show 8388608 * 2 ^ 149 ≤ i.natAbs * 2 ^ 149
    exact Nat.mul_le_mul_right _ hi
  rw [← ha, FP.Core.mag_toNat32, FP.Core.tails_b32] at h
  exact h
theorem tf_dec32 {a : UInt32} (h1 : 150 * 2 ^ 23 ≤ a.toNat % 2 ^ 31) (h2 : a.toNat % 2 ^ 31 < 160 * 2 ^ 23) : ∃ s c q, FP.Core.val32 a = .fin s c q ∧ 0 ≤ q ∧ q ≤ 9 ∧ 0 < c ∧ c ≤ 2 ^ 24 := by
  have hE : FP.Core.fieldE FP.Core.b32 a.toNat = a.toNat % 2 ^ 31 / 2 ^ 23 := by rw [FP.Core.fieldE_mag, FP.Core.mag_toNat32, FP.Core.tails_b32]
  have hT : FP.Core.fieldT FP.Core.b32 a.toNat < 2 ^ 23 := by unfold FP.Core.fieldT; rw [FP.Core.tails_b32]; exact Nat.mod_lt _ (by decide)
  have hx : FP.Core.b32.exps = 256 := by decide
  have ht : FP.Core.b32.tails = 2 ^ 23 := FP.Core.tails_b32
  have e1 : (2 : Nat) ^ 31 = 2147483648 := rfl
  have e2 : (2 : Nat) ^ 23 = 8388608 := rfl
  have e3 : (2 : Nat) ^ 24 = 16777216 := rfl
  rw [e1, e2] at h1 h2 hE
  rw [e2] at hT ht
  show ∃ s c q, FP.Core.decode FP.Core.b32 a.toNat = .fin s c q ∧ _
  unfold FP.Core.decode
  rw [hE, hx, if_neg (by omega), if_neg (by omega), FP.Core.qmin_b32, ht, e3]
  exact ⟨_, _, _, rfl, by omega, by omega, by omega, by omega⟩
theorem tf_signed (s : Bool) (n : Nat) : (FP.Core.signed s n).natAbs = n := by
  unfold FP.Core.signed
  cases s <;> simp
theorem tg_i2f (x : Int32) : FP.l2f x.toInt64 = FP.i2f x := by
  refine FP.Core.val32_inj ?_ ?_
  · obtain ⟨s, c, q, h⟩ := FP.Core.l2f_fin x.toInt64
    show FP.Core.val32 (FP.Core.l2f x.toInt64) ≠ _
    rw [h]
    exact fun z => by cases z
  · show FP.Core.val32 (FP.Core.l2f x.toInt64) = FP.Core.val32 (FP.Core.i2f x)
    rw [FP.Core.val32_l2f, FP.Core.val32_i2f, Int32.toInt_toInt64]
theorem tg_i2d (x : Int32) : FP.l2d x.toInt64 = FP.i2d x := by
  refine FP.Core.val64_inj ?_ ?_
  · obtain ⟨s, c, q, h⟩ := FP.Core.l2d_fin x.toInt64
    show FP.Core.val64 (FP.Core.l2d x.toInt64) ≠ _
    rw [h]
    exact fun z => by cases z
  · show FP.Core.val64 (FP.Core.l2d x.toInt64) = FP.Core.val64 (FP.Core.i2d x)
    rw [FP.Core.val64_l2d, FP.Core.val64_i2d, Int32.toInt_toInt64]
theorem tf_FFn {a : UInt32} (h : FP.Core.FFin a) : FP.Core.fIsNaN a = false := by
  refine (FP.Core.notNaN_iff32 _).mpr ?_
  obtain ⟨s, c, q, h⟩ := h
  rw [h]
  exact fun z => by cases z
theorem tf_DFn {a : UInt64} (h : FP.Core.DFin a) : FP.Core.dIsNaN a = false := (FP.Core.notNaN_iff _).mpr h.ne_nan
theorem tf_finl (w : Int64) : FP.Core.DFin (FP.l2d w) := FP.Core.l2d_fin w
theorem tf_finf {a : UInt32} (h : FP.Core.FFin a) : FP.Core.DFin (FP.f2d a) := by
  rw [FP.f2d_core (tf_FFn h)]
  exact FP.Core.f2d_fin h
theorem tf_fi (x : Int32) : FP.Core.FFin (FP.i2f x) := FP.Core.i2f_fin x
theorem tf_fl (x : Int64) : FP.Core.FFin (FP.l2f x) := FP.Core.l2f_fin x
/-- a float that an int became is a whole number: through a long it comes back -/
theorem tf_made7 (x : Int32) : FP.l2f (FP.f2l (FP.i2f x)) = FP.i2f x ∧ FP.l2d (FP.f2l (FP.i2f x)) = FP.f2d (FP.i2f x) := by
  have ef : FP.f2d (FP.i2f x) = FP.Core.f2d (FP.Core.i2f x) := FP.f2d_core (tf_FFn (tf_fi x))
  rw [ef]
  by_cases hx : x.toInt.natAbs ≤ 2 ^ 24
  · have e1 : FP.f2l (FP.i2f x) = x.toInt64 := FP.Core.f2l_int (a := x.toInt64) (by rw [Int32.toInt_toInt64]; exact FP.Core.i2f_int hx)
    rw [e1]
    refine ⟨tg_i2f x, ?_⟩
    have e2 : FP.Core.l2f x.toInt64 = FP.Core.i2f x := tg_i2f x
    rw [← e2]
    exact (FP.Core.f2d_l2f (by rw [Int32.toInt_toInt64]; exact hx)).symm
  · have hx2 : 16777216 < x.toInt.natAbs := Nat.lt_of_not_le hx
    obtain ⟨s, c, q, hv, hq0, hq9, hc0, hc⟩ := tf_dec32 (tf_ge32 (FP.Core.toNat_i2f x) (by omega)) (FP.Core.i2f_mag x)
    have hqz : (-q).toNat = 0 := by omega
    have hW : FP.Core.Whole (FP.Core.signed s (c * 2 ^ q.toNat)) (.fin s c q) := by
      show FP.Core.signed s (c * 2 ^ q.toNat) = FP.Core.signed s (c * 2 ^ q.toNat) * ((2 ^ (-q).toNat : Nat) : Int)
      rw [hqz]
      simp
    have hn := tf_signed s (c * 2 ^ q.toNat)
    have hp : 0 < c * 2 ^ q.toNat := Nat.mul_pos hc0 (Nat.two_pow_pos _)
    have hle : c * 2 ^ q.toNat ≤ 2 ^ 24 * 2 ^ 9 := Nat.mul_le_mul hc (Nat.pow_le_pow_right (by decide) (by omega))
    have e33 : (2 : Nat) ^ 24 * 2 ^ 9 = 8589934592 := rfl
    rw [e33] at hle
    generalize c * 2 ^ q.toNat = n at hW hn hp hle
    generalize FP.Core.signed s n = i at hW hn
    have hi : (Int64.ofInt i).toInt = i := Int64.toInt_ofInt_of_le (by omega) (by omega)
    have e1 : FP.f2l (FP.i2f x) = Int64.ofInt i := FP.Core.f2l_int (a := Int64.ofInt i) (by
      rw [hi]
      show FP.Core.Whole i (FP.Core.val32 (FP.Core.i2f x))
      rw [hv]
      exact hW)
    rw [e1]
    have hs := FP.Core.whole_sign hW (by omega)
    have hfit := FP.Core.val32_fits (FP.Core.i2f x)
    rw [hv] at hfit
    constructor
    · refine FP.Core.val32_inj ?_ ?_
      · exact (FP.Core.notNaN_iff32 _).mp (tf_FFn (tf_fl _))
      · show FP.Core.val32 (FP.Core.l2f (Int64.ofInt i)) = FP.Core.val32 (FP.Core.i2f x)
        rw [FP.Core.val32_l2f, hi, hv, ← FP.Core.round_of_fits FP.Core.good_b32 hfit, FP.Core.round_whole hW, hs]
        rfl
    · refine FP.Core.val64_inj ?_ ?_
      · exact (tf_finl _).ne_nan
      · show FP.Core.val64 (FP.Core.l2d (Int64.ofInt i)) = FP.Core.val64 (FP.Core.f2d (FP.Core.i2f x))
        rw [FP.Core.val64_l2d, FP.Core.val64_f2d, hi, hv, FP.Core.round_whole hW, hs]
        rfl
theorem tf_d2fl {w : Int64} (h : w.toInt.natAbs ≤ 2 ^ 53) : FP.d2f (FP.l2d w) = FP.l2f w := (FP.d2f_core (tf_DFn (tf_finl w))).trans (FP.Core.d2f_l2d h)
theorem tf_d2ff {a : UInt32} (h : FP.Core.FFin a) : FP.d2f (FP.f2d a) = a := by
  rw [FP.d2f_core (tf_DFn (tf_finf h)), FP.f2d_core (tf_FFn h)]
  exact FP.Core.d2f_f2d ((FP.Core.notNaN_iff32 _).mp (tf_FFn h))
theorem tf_addn {a v : UInt64} (ha : FP.Core.dIsNaN a = false) (hv : FP.Core.DFin v) : FP.Core.dIsNaN (FP.dadd a v) = false := by
  cases hz : FP.Core.dIsNaN (FP.dadd a v)
  · rfl
  · rw [show FP.dadd a v = FP.Core.dadd a v from rfl, FP.Core.dadd_nan_iff] at hz
    rcases hz with h | h | ⟨s, -, h⟩
    · exact absurd h ((FP.Core.notNaN_iff _).mp ha)
    · exact absurd h hv.ne_nan
    · exact absurd h (hv.ne_inf _)
/-- a sum as the law has it -/
def lsum (v : Nat → UInt64) : Nat → UInt64
  | 0 => 0
  | k + 1 => FP.dadd (lsum v k) (v k)
theorem lsum_nn {v : Nat → UInt64} : ∀ (k : Nat), (∀ i, i < k → FP.Core.DFin (v i)) → FP.Core.dIsNaN (lsum v k) = false
  | 0, _ => by show FP.Core.dIsNaN 0 = false; decide +kernel
  | k + 1, h => tf_addn (lsum_nn k (fun i hi => h i (by omega))) (h k (Nat.lt_succ_self k))
theorem lsum_sum {v v' : Nat → UInt64} : ∀ (k : Nat), (∀ i, i < k → FP.Core.DFin (v i) ∧ v' i = v i) → tf_sum v' k = lsum v k
  | 0, _ => rfl
  | k + 1, h => by
    show tf_canon (FP.dadd (tf_sum v' k) (v' k)) = FP.dadd (lsum v k) (v k)
    rw [lsum_sum k (fun i hi => h i (by omega)), (h k (Nat.lt_succ_self k)).2]
    exact tf_cno (tf_addn (lsum_nn k (fun i hi => (h i (by omega)).1)) (h k (Nat.lt_succ_self k)).1)
/-- one cell: what the class has of it (wh, re: its row of longs, of doubles) is the law's number v -/
def cOK (k : Int32) (wh : Int64) (re v : UInt64) : Prop := FP.Core.DFin v ∧ (kFl k = true → re = v) ∧ (kFl k = false → FP.l2d wh = v ∧ wh.toInt.natAbs ≤ 2 ^ 53) ∧ (k = 7 → FP.f2d (FP.d2f v) = v)
theorem cOK_z (k : Int32) : cOK k 0 0 0 := by
  have e : FP.l2d 0 = 0 := by decide +kernel
  refine ⟨?_, fun _ => rfl, fun _ => ⟨e, by decide⟩, fun _ => by decide +kernel⟩
  rw [← e]
  exact tf_finl 0
theorem cOK_n {k : Int32} {wh : Int64} {re v : UInt64} (h : cOK k wh re v) : FP.Core.dIsNaN v = false := tf_DFn h.1
/-- what a value made from an int becomes in the law's table -/
def lMade (v k : Int32) : Int64 := if k = 7 then FP.f2l (FP.i2f v) else kMade v k
theorem kMade_b (v : Int32) : kMade v 1 = 0 ∨ kMade v 1 = 1 := by
  unfold kMade
  rw [if_pos rfl]
  by_cases h : v = 0
  · rw [if_pos h]; exact Or.inl rfl
  · rw [if_neg h]; exact Or.inr rfl
theorem kMade_le (v k : Int32) : (kMade v k).toInt.natAbs ≤ 2 ^ 53 := by
  have aux : ∀ z : Int32, z.toInt64.toInt.natAbs ≤ 2 ^ 53 := fun z => by
    rw [Int32.toInt_toInt64]
    have h1 := z.toInt_lt
    have h2 := z.le_toInt
    omega
  unfold kMade
  split
  · split <;> decide
  · split
    · exact aux _
    · split
      · exact aux _
      · split
        · exact aux _
        · exact aux _
theorem kMade8 (v : Int32) : kMade v 8 = v.toInt64 := by unfold kMade; rw [if_neg (by decide), if_neg (by decide), if_neg (by decide), if_neg (by decide)]
