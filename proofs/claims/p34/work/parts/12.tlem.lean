/-! WHAT READS AND WRITES DO, in words of the state -/
theorem tc_sl_in {α : Type} {m i : Nat} {f : Nat → α} {z : α} (h : i < m) : tc_sl m f z i = f i := by unfold tc_sl; rw [if_pos h]
/-- the invariant of a state -/
def tcI (n : Nat) (K : Nat → Int32) (Ln : Nat → Nat) (Wh : Nat → Int64) (Re : Nat → UInt64) : Prop :=
  n ≤ 60 ∧ (∀ j, j < n → kIs (K j) = true ∧ Ln j ≤ 40 ∧ (kHas (K j) = false → Ln j = 0)) ∧ (∀ j, j < n → K j = 1 → ∀ q, q < Ln j → Wh (40 * j + q) = 0 ∨ Wh (40 * j + q) = 1) ∧ (∀ j, j < n → kFl (K j) = true → ∀ q, q < Ln j → FP.Core.dIsNaN (Re (40 * j + q)) = false)
def cdR (K : Nat → Int32) (Ln : Nat → Nat) (j : Nat) (i a b : Int32) : Int32 := kCell (K j) (tc_cl (K j) (Ln j)) i a b
def rdW (K : Nat → Int32) (Ln : Nat → Nat) (Wh : Nat → Int64) (j : Nat) (i kd : Int32) : Int64 := if cdR K Ln j i (K j) kd = 0 then Wh (40 * j + i.toNatClampNeg) else 0
def rdR (K : Nat → Int32) (Ln : Nat → Nat) (Wh : Nat → Int64) (Re : Nat → UInt64) (j : Nat) (i kd : Int32) : UInt64 := if cdR K Ln j i (K j) kd = 0 then (if kFl (K j) = true then Re (40 * j + i.toNatClampNeg) else FP.l2d (Wh (40 * j + i.toNatClampNeg))) else 0
def rdF (K : Nat → Int32) (Ln : Nat → Nat) (Wh : Nat → Int64) (Re : Nat → UInt64) (j : Nat) (i : Int32) : UInt32 := if cdR K Ln j i (K j) 7 = 0 then (if kFl (K j) = true then FP.d2f (Re (40 * j + i.toNatClampNeg)) else FP.l2f (Wh (40 * j + i.toNatClampNeg))) else 0
def wrW (K : Nat → Int32) (Ln : Nat → Nat) (Wh : Nat → Int64) (j : Nat) (i kd : Int32) (v : Int64) : Nat → Int64 := if cdR K Ln j i kd (K j) = 0 then (if kFl (K j) = true then Wh else vp_updL Wh (40 * j + i.toNatClampNeg) v) else Wh
def wrR (K : Nat → Int32) (Ln : Nat → Nat) (Re : Nat → UInt64) (j : Nat) (i kd : Int32) (v : Int64) : Nat → UInt64 := if cdR K Ln j i kd (K j) = 0 then (if kFl (K j) = true then vf_upd Re (40 * j + i.toNatClampNeg) (if K j = 7 then FP.f2d (FP.l2f v) else FP.l2d v) else Re) else Re
def wrX (K : Nat → Int32) (Ln : Nat → Nat) (Re : Nat → UInt64) (j : Nat) (i kd : Int32) (x : UInt64) : Nat → UInt64 := if cdR K Ln j i kd (K j) = 0 then vf_upd Re (40 * j + i.toNatClampNeg) x else Re
def kKinds (a b : Int32) : Int32 := if a = 0 then 1 else if b = 0 then 1 else if a = b then (if a = 9 then 5 else 0) else 5
theorem kCell_0 {k len i a b : Int32} (h : kCell k len i a b = 0) : kCol k = 0 ∧ ¬ i < 0 ∧ ¬ len ≤ i ∧ kWid a b = true := by
  unfold kCell at h
  by_cases h0 : kCol k = 0
  · rw [if_pos h0] at h
    by_cases h1 : i < 0
    · rw [if_pos h1] at h; exact absurd h (by decide)
    · rw [if_neg h1] at h
      by_cases h2 : len ≤ i
      · rw [if_pos h2] at h; exact absurd h (by decide)
      · rw [if_neg h2] at h
        by_cases h3 : kWid a b = true
        · exact ⟨h0, h1, h2, h3⟩
        · rw [if_neg h3] at h; exact absurd h (by decide)
  · rw [if_neg h0] at h; exact absurd h h0
theorem kWid_has {a b : Int32} (h : kWid a b = true) : kHas a = true ∧ kHas b = true := by
  unfold kWid at h
  by_cases h1 : kHas a = false
  · rw [if_pos h1] at h; cases h
  · rw [if_neg h1] at h
    by_cases h2 : kHas b = false
    · rw [if_pos h2] at h; cases h
    · exact ⟨by simpa using h1, by simpa using h2⟩
theorem kWid_self {a : Int32} (h : kHas a = true) : kWid a a = true := by
  unfold kWid; rw [if_neg (by rw [h]; decide), if_neg (by rw [h]; decide), if_pos rfl]
/-- a kind below FLOAT is widened to from kinds below FLOAT alone -/
theorem kWid_low {a b : Int32} (h : kWid a b = true) (hb : kFl b = false) : kFl a = false := by
  have h1 := (kHas_iff a).mp (kWid_has h).1
  have h2 := (kHas_iff b).mp (kWid_has h).2
  have n7 := kFl_no hb
  have g1 := (kWid_has h).1
  have g2 := (kWid_has h).2
  unfold kWid at h
  rw [if_neg (by rw [g1]; decide), if_neg (by rw [g2]; decide)] at h
  have e1 : (1 : Int32).toInt = 1 := rfl
  have e3 : (3 : Int32).toInt = 3 := rfl
  have e5 : (5 : Int32).toInt = 5 := rfl
  have e7 : (7 : Int32).toInt = 7 := rfl
  have e8 : (8 : Int32).toInt = 8 := rfl
  simp only [kFl, Bool.or_eq_false_iff, decide_eq_false_iff_not]
  simp only [← Int32.toInt_inj, Int32.lt_iff_toInt_lt, e1, e3, e5, e7, e8] at h n7 ⊢
  by_cases q1 : a.toInt = b.toInt
  · omega
  · rw [if_neg q1] at h
    by_cases q2 : a.toInt = 1
    · omega
    · rw [if_neg q2] at h
      by_cases q3 : b.toInt = 3
      · rw [if_pos q3] at h; cases h
      · rw [if_neg q3] at h
        by_cases q4 : a.toInt = 3
        · omega
        · rw [if_neg q4] at h
          have := of_decide_eq_true h
          omega
/-- FLOAT and DOUBLE widen to such alone -/
theorem kWid_high {a b : Int32} (h : kWid a b = true) (ha : kFl a = true) : kFl b = true := by
  cases hb : kFl b
  · have := kWid_low h hb; rw [ha] at this; cases this
  · rfl
theorem tc_cl_has {k : Int32} {n : Nat} (h : kHas k = true) : tc_cl k n = nI n := by unfold tc_cl; rw [if_pos h]
theorem kCol_has {k : Int32} (hr : kIs k = true) (h : kCol k = 0) : kHas k = true := by
  have h1 := (kIs_iff k).mp hr
  have e0 : (0 : Int32).toInt = 0 := rfl
  have e9 : (9 : Int32).toInt = 9 := rfl
  refine (kHas_iff k).mpr ?_
  unfold kCol at h
  by_cases q : k = 0
  · rw [if_pos q] at h; exact absurd h (by decide)
  · rw [if_neg q] at h
    by_cases q2 : k = 9
    · rw [if_pos q2] at h; exact absurd h (by decide)
    · rw [← Int32.toInt_inj, e0] at q
      rw [← Int32.toInt_inj, e9] at q2
      omega
theorem kHas_col {k : Int32} (h : kHas k = true) : kCol k = 0 := by
  have h1 := (kHas_iff k).mp h
  unfold kCol
  rw [if_neg (fun q => by rw [q] at h1; exact absurd h1 (by decide)), if_neg (fun q => by rw [q] at h1; exact absurd h1 (by decide))]
/-- a granted access: the index is a cell's -/
theorem cdR_0 {K : Nat → Int32} {Ln : Nat → Nat} {j : Nat} {i a b : Int32} (hr : kIs (K j) = true) (hL : Ln j ≤ 40) (h : cdR K Ln j i a b = 0) : kHas (K j) = true ∧ kWid a b = true ∧ vp_in i (Ln j) := by
  obtain ⟨h1, h2, h3, h4⟩ := kCell_0 h
  have h5 := kCol_has hr h1
  rw [tc_cl_has h5] at h3
  exact ⟨h5, h4, vp_in_mk h2 h3 (by omega)⟩
theorem vp_in_lt {i : Int32} {N : Nat} (h : vp_in i N) : i.toNatClampNeg < N := Nat.lt_of_not_le (fun q => h (Or.inr q))
theorem vp_in_le {i : Int32} {N M : Nat} (h : vp_in i N) (hNM : N ≤ M) : vp_in i M := fun q => h (q.imp id (fun q => Nat.le_trans hNM q))
section TCU
variable {cI cJ cD cC : ClassId} {h0 h1 h2 h3 h4 : Nat} {ad wd rd : Nat → Nat} {Y : va_W} {n : Nat} {K : Nat → Int32} {Ln : Nat → Nat} {Wh : Nat → Int64} {Re : Nat → UInt64} {cd : Int32} {ct : Nat → Int32}
theorem tc_T_wh {j q : Nat} (hj : j < n) (hL : ∀ k, k < n → Ln k ≤ 40) (hq : q < tc_wl (K j) (Ln j)) (v : Int64) :
    (tc_T cI cJ cD cC h0 h1 h2 h3 h4 ad wd rd Y n K Ln Wh Re cd ct).set (5 + (Y.length + (3 * j + 1))) (wd j, .inl (cJ, tc_wl (K j) (Ln j), .inr (.inl (vp_updL (tc_sl (tc_wl (K j) (Ln j)) (fun i => Wh (40 * j + i)) 0) q v)))) = tc_T cI cJ cD cC h0 h1 h2 h3 h4 ad wd rd Y n K Ln (vp_updL Wh (40 * j + q) v) Re cd ct := by
  have hwl : ∀ k, tc_wl (K k) (Ln k) ≤ Ln k := fun k => by unfold tc_wl; split <;> omega
  refine tc_T_set hj (by decide) (fun k hk hne => ?_) ?_
  · have e : tc_sl (tc_wl (K k) (Ln k)) (fun i => vp_updL Wh (40 * j + q) v (40 * k + i)) 0 = tc_sl (tc_wl (K k) (Ln k)) (fun i => Wh (40 * k + i)) 0 := by
      refine tc_sl_congr (fun i hi => ?_)
      have := hwl k; have := hL k hk; have := hwl j; have := hL j hj
      unfold vp_updL
      rw [if_neg (by omega)]
    unfold tc_col
    rw [e]
  · have e : tc_sl (tc_wl (K j) (Ln j)) (fun i => vp_updL Wh (40 * j + q) v (40 * j + i)) 0 = vp_updL (tc_sl (tc_wl (K j) (Ln j)) (fun i => Wh (40 * j + i)) 0) q v := by
      funext i
      show (if i < tc_wl (K j) (Ln j) then (if 40 * j + i = 40 * j + q then v else Wh (40 * j + i)) else 0) = (if i = q then v else (if i < tc_wl (K j) (Ln j) then Wh (40 * j + i) else 0))
      by_cases hi : i = q
      · subst hi; rw [if_pos hq, if_pos rfl, if_pos rfl]
      · rw [if_neg hi]
        by_cases h2 : i < tc_wl (K j) (Ln j)
        · rw [if_pos h2, if_neg (by omega), if_pos h2]
        · rw [if_neg h2, if_neg h2]
    unfold tc_col
    rw [e]
    rfl
theorem tc_T_re {j q : Nat} (hj : j < n) (hL : ∀ k, k < n → Ln k ≤ 40) (hq : q < tc_rl (K j) (Ln j)) (v : UInt64) :
    (tc_T cI cJ cD cC h0 h1 h2 h3 h4 ad wd rd Y n K Ln Wh Re cd ct).set (5 + (Y.length + (3 * j + 2))) (rd j, .inl (cD, tc_rl (K j) (Ln j), .inr (.inr (.inr (.inl (vf_upd (tc_sl (tc_rl (K j) (Ln j)) (fun i => Re (40 * j + i)) 0) q v)))))) = tc_T cI cJ cD cC h0 h1 h2 h3 h4 ad wd rd Y n K Ln Wh (vf_upd Re (40 * j + q) v) cd ct := by
  have hwl : ∀ k, tc_rl (K k) (Ln k) ≤ Ln k := fun k => by unfold tc_rl; split <;> omega
  refine tc_T_set hj (by decide) (fun k hk hne => ?_) ?_
  · have e : tc_sl (tc_rl (K k) (Ln k)) (fun i => vf_upd Re (40 * j + q) v (40 * k + i)) 0 = tc_sl (tc_rl (K k) (Ln k)) (fun i => Re (40 * k + i)) 0 := by
      refine tc_sl_congr (fun i hi => ?_)
      have := hwl k; have := hL k hk; have := hwl j; have := hL j hj
      unfold vf_upd
      rw [if_neg (by omega)]
    unfold tc_col
    rw [e]
  · have e : tc_sl (tc_rl (K j) (Ln j)) (fun i => vf_upd Re (40 * j + q) v (40 * j + i)) 0 = vf_upd (tc_sl (tc_rl (K j) (Ln j)) (fun i => Re (40 * j + i)) 0) q v := by
      funext i
      show (if i < tc_rl (K j) (Ln j) then (if 40 * j + i = 40 * j + q then v else Re (40 * j + i)) else 0) = (if i = q then v else (if i < tc_rl (K j) (Ln j) then Re (40 * j + i) else 0))
      by_cases hi : i = q
      · subst hi; rw [if_pos hq, if_pos rfl, if_pos rfl]
      · rw [if_neg hi]
        by_cases h2 : i < tc_rl (K j) (Ln j)
        · rw [if_pos h2, if_neg (by omega), if_pos h2]
        · rw [if_neg h2, if_neg h2]
    unfold tc_col
    rw [e]
    rfl
end TCU
theorem tc_wl_n {k : Int32} {n : Nat} (h : kFl k = false) : tc_wl k n = n := by unfold tc_wl; rw [if_neg (by rw [h]; decide)]
theorem tc_rl_n {k : Int32} {n : Nat} (h : kFl k = true) : tc_rl k n = n := by unfold tc_rl; rw [if_pos h]
theorem tc_len_lt {k : Int32} {n : Nat} (h : n ≤ 40) : tc_wl k n < 2 ^ 31 ∧ tc_rl k n < 2 ^ 31 := by
  unfold tc_wl tc_rl
  constructor <;> (split <;> omega)
