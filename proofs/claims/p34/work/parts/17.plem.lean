/-! WHAT THE CLASS'S WIDER METHODS ANSWER, in words of the state -/
theorem tf_sum_congr {V V' : Nat → UInt64} : ∀ (N : Nat), (∀ q, q < N → V q = V' q) → tf_sum V N = tf_sum V' N
  | 0, _ => rfl
  | N + 1, h => by
    show tf_canon (FP.dadd (tf_sum V N) (V N)) = tf_canon (FP.dadd (tf_sum V' N) (V' N))
    rw [tf_sum_congr N (fun q hq => h q (by omega)), h N (Nat.lt_succ_self N)]
def tot (K : Nat → Int32) (Ln : Nat → Nat) (Wh : Nat → Int64) (Re : Nat → UInt64) (j : Nat) : UInt64 := if kCol (K j) = 0 then tf_sum (fun q => if kFl (K j) = true then Re (40 * j + q) else FP.l2d (Wh (40 * j + q))) (Ln j) else 0
theorem tot_r {K : Nat → Int32} {Ln : Nat → Nat} {Wh : Nat → Int64} {Re : Nat → UInt64} {j : Nat} (hc : kCol (K j) = 0) (h : kFl (K j) = true) : tf_sum (tc_sl (tc_rl (K j) (Ln j)) (fun i => Re (40 * j + i)) 0) (tc_rl (K j) (Ln j)) = tot K Ln Wh Re j := by
  unfold tot
  rw [if_pos hc, tc_rl_n h]
  refine tf_sum_congr _ (fun q hq => ?_)
  rw [tc_sl_in hq, if_pos h]
theorem tot_w {K : Nat → Int32} {Ln : Nat → Nat} {Wh : Nat → Int64} {Re : Nat → UInt64} {j : Nat} (hc : kCol (K j) = 0) (h : kFl (K j) = false) : tf_sum (fun q => FP.l2d (tc_sl (tc_wl (K j) (Ln j)) (fun i => Wh (40 * j + i)) 0 q)) (tc_wl (K j) (Ln j)) = tot K Ln Wh Re j := by
  unfold tot
  rw [if_pos hc, tc_wl_n h]
  refine tf_sum_congr _ (fun q hq => ?_)
  rw [tc_sl_in hq, if_neg (by rw [h]; decide)]
def mx (d x : Int64) : Int64 := d * 31 + x
def mxW (d : Int64) (f : Nat → Int64) : Nat → Int64
  | 0 => d
  | k + 1 => mx (mxW d f k) (f k)
theorem mxW_congr {d : Int64} {f g : Nat → Int64} : ∀ (N : Nat), (∀ q, q < N → f q = g q) → mxW d f N = mxW d g N
  | 0, _ => rfl
  | N + 1, h => by
    show mx (mxW d f N) (f N) = mx (mxW d g N) (g N)
    rw [mxW_congr N (fun q hq => h q (by omega)), h N (Nat.lt_succ_self N)]
/-- one column's part of the checksum -/
def mxC (K : Nat → Int32) (Ln : Nat → Nat) (Wh : Nat → Int64) (Re : Nat → UInt64) (j : Nat) (d : Int64) : Int64 :=
  mxW (mx (mx d (K j).toInt64) (tc_cl (K j) (Ln j)).toInt64) (fun q => if kFl (K j) = true then (Re (40 * j + q)).toInt64 else Wh (40 * j + q)) (Ln j)
theorem mxC_r {K : Nat → Int32} {Ln : Nat → Nat} {Wh : Nat → Int64} {Re : Nat → UInt64} {j : Nat} {d : Int64} :
    mxW (mxW (mx (mx d (K j).toInt64) (tc_cl (K j) (Ln j)).toInt64) (tc_sl (tc_wl (K j) (Ln j)) (fun i => Wh (40 * j + i)) 0) (tc_wl (K j) (Ln j))) (fun q => (tc_sl (tc_rl (K j) (Ln j)) (fun i => Re (40 * j + i)) 0 q).toInt64) (tc_rl (K j) (Ln j)) = mxC K Ln Wh Re j d := by
  unfold mxC
  cases h : kFl (K j)
  · have e1 : tc_rl (K j) (Ln j) = 0 := by unfold tc_rl; rw [if_neg (by rw [h]; decide)]
    rw [e1, tc_wl_n h]
    show mxW (mx (mx d (K j).toInt64) (tc_cl (K j) (Ln j)).toInt64) (tc_sl (Ln j) (fun i => Wh (40 * j + i)) 0) (Ln j) = _
    refine mxW_congr _ (fun q hq => ?_)
    rw [tc_sl_in hq, if_neg (by decide)]
  · have e1 : tc_wl (K j) (Ln j) = 0 := by unfold tc_wl; rw [if_pos h]
    rw [e1, tc_rl_n h]
    show mxW (mx (mx d (K j).toInt64) (tc_cl (K j) (Ln j)).toInt64) _ _ = _
    refine mxW_congr _ (fun q hq => ?_)
    rw [tc_sl_in hq, if_pos rfl]
def digC (K : Nat → Int32) (Ln : Nat → Nat) (Wh : Nat → Int64) (Re : Nat → UInt64) (d : Int64) : Nat → Int64
  | 0 => d
  | c + 1 => mxC K Ln Wh Re c (digC K Ln Wh Re d c)
def dig (n : Nat) (K : Nat → Int32) (Ln : Nat → Nat) (Wh : Nat → Int64) (Re : Nat → UInt64) (ct : Nat → Int32) : Int64 := mxW (digC K Ln Wh Re (mx 53 (nI n).toInt64) n) (fun q => (ct q).toInt64) 6
/-- copies -/
def cpC (K : Nat → Int32) (Ln : Nat → Nat) (j j2 : Nat) (fi ti mm : Int32) : Int32 :=
  if kKinds (K j) (K j2) = 0 then (if kPart fi mm (tc_cl (K j) (Ln j)) = true then (if kPart ti mm (tc_cl (K j2) (Ln j2)) = true then 0 else 3) else 3) else kKinds (K j) (K j2)
def cpW {α : Type} (K : Nat → Int32) (Ln : Nat → Nat) (Wh : Nat → α) (j j2 : Nat) (fi ti mm : Int32) : Nat → α :=
  if cpC K Ln j j2 fi ti mm = 0 then va_cpy Wh Wh (40 * j + fi.toNatClampNeg) (40 * j2 + ti.toNatClampNeg) mm.toNatClampNeg else Wh
theorem kKinds_or (a b : Int32) : kKinds a b = 0 ∨ kKinds a b = 1 ∨ kKinds a b = 5 := by
  unfold kKinds
  by_cases h1 : a = 0
  · rw [if_pos h1]; exact Or.inr (Or.inl rfl)
  · rw [if_neg h1]
    by_cases h2 : b = 0
    · rw [if_pos h2]; exact Or.inr (Or.inl rfl)
    · rw [if_neg h2]
      by_cases h3 : a = b
      · rw [if_pos h3]
        by_cases h4 : a = 9
        · rw [if_pos h4]; exact Or.inr (Or.inr rfl)
        · rw [if_neg h4]; exact Or.inl rfl
      · rw [if_neg h3]; exact Or.inr (Or.inr rfl)
theorem kKinds_0 {a b : Int32} (h : kKinds a b = 0) (hr : kIs a = true) : a = b ∧ kHas a = true := by
  unfold kKinds at h
  by_cases h1 : a = 0
  · rw [if_pos h1] at h; exact absurd h (by decide)
  · rw [if_neg h1] at h
    by_cases h2 : b = 0
    · rw [if_pos h2] at h; exact absurd h (by decide)
    · rw [if_neg h2] at h
      by_cases h3 : a = b
      · rw [if_pos h3] at h
        by_cases h4 : a = 9
        · rw [if_pos h4] at h; exact absurd h (by decide)
        · exact ⟨h3, kCol_has hr (by unfold kCol; rw [if_neg h1, if_neg h4])⟩
      · rw [if_neg h3] at h; exact absurd h (by decide)
theorem cpC_in (K : Nat → Int32) (Ln : Nat → Nat) (j j2 : Nat) (fi ti mm : Int32) : vp_in (cpC K Ln j j2 fi ti mm) 6 := by
  unfold cpC
  rcases kKinds_or (K j) (K j2) with h | h | h
  · rw [if_pos h]
    by_cases h1 : kPart fi mm (tc_cl (K j) (Ln j)) = true
    · rw [if_pos h1]
      by_cases h2 : kPart ti mm (tc_cl (K j2) (Ln j2)) = true
      · rw [if_pos h2]; unfold vp_in; decide
      · rw [if_neg h2]; unfold vp_in; decide
    · rw [if_neg h1]; unfold vp_in; decide
  · rw [if_neg (by rw [h]; decide), h]; unfold vp_in; decide
  · rw [if_neg (by rw [h]; decide), h]; unfold vp_in; decide
/-- a granted copy: its parts lie in their columns -/
theorem cpC_0 {K : Nat → Int32} {Ln : Nat → Nat} {j j2 : Nat} {fi ti mm : Int32} (hr : kIs (K j) = true) (h1 : Ln j ≤ 40) (h2 : Ln j2 ≤ 40) (h : cpC K Ln j j2 fi ti mm = 0) :
    K j = K j2 ∧ kHas (K j) = true ∧ kPart fi mm (nI (Ln j)) = true ∧ kPart ti mm (nI (Ln j2)) = true ∧ fi.toNatClampNeg + mm.toNatClampNeg ≤ Ln j ∧ ti.toNatClampNeg + mm.toNatClampNeg ≤ Ln j2 := by
  unfold cpC at h
  by_cases h3 : kKinds (K j) (K j2) = 0
  · obtain ⟨e, hh⟩ := kKinds_0 h3 hr
    rw [if_pos h3, tc_cl_has hh, tc_cl_has (e ▸ hh)] at h
    by_cases q1 : kPart fi mm (nI (Ln j)) = true
    · rw [if_pos q1] at h
      by_cases q2 : kPart ti mm (nI (Ln j2)) = true
      · exact ⟨e, hh, q1, q2, (kPart_spec q1 (by omega)).2.2, (kPart_spec q2 (by omega)).2.2⟩
      · rw [if_neg q2] at h; exact absurd h (by decide)
    · rw [if_neg q1] at h; exact absurd h (by decide)
  · rw [if_neg h3] at h; exact absurd h h3
theorem va_cpy_slice {α : Type} {f : Nat → α} {j k j2 a b m i : Nat} (hk : k ≠ j2) (hi : i < 40) (hb : b + m ≤ 40) : va_cpy f f (40 * j + a) (40 * j2 + b) m (40 * k + i) = f (40 * k + i) := pk_cpy_out (by omega)
theorem va_cpy_own {α : Type} {f : Nat → α} {z : α} {j j2 a b m L1 L2 i : Nat} (h1 : a + m ≤ L1) (hi : i < L2) : va_cpy f f (40 * j + a) (40 * j2 + b) m (40 * j2 + i) = va_cpy (tc_sl L1 (fun i => f (40 * j + i)) z) (tc_sl L2 (fun i => f (40 * j2 + i)) z) a b m i := by
  unfold va_cpy
  by_cases h : b ≤ i ∧ i < b + m
  · rw [if_pos h, if_pos (by omega), tc_sl_in (by omega)]
    congr 1
    omega
  · rw [if_neg h, if_neg (by omega), tc_sl_in hi]
theorem va_cpy_zero {α : Type} {f g : Nat → α} {z : α} {a b m i : Nat} (hf : ∀ i, f i = z) (hg : ∀ i, g i = z) : va_cpy f g a b m i = z := by
  unfold va_cpy; split
  · exact hf _
  · exact hg _
theorem tc_sl_0 {α : Type} (f : Nat → α) (z : α) (i : Nat) : tc_sl 0 f z i = z := by unfold tc_sl; rw [if_neg (Nat.not_lt_zero i)]
/-- one kind of cells of the copied-to column -/
theorem tc_cp_own {α : Type} {f : Nat → α} {z : α} {j j2 L1 L2 : Nat} {fi ti mm : Int32} (h1 : L1 ≤ 40) (h2 : L2 ≤ 40) (hp : (L1 = 0 ∧ L2 = 0) ∨ (kPart fi mm (nI L1) = true ∧ kPart ti mm (nI L2) = true)) :
    tc_sl L2 (fun i => va_cpy f f (40 * j + fi.toNatClampNeg) (40 * j2 + ti.toNatClampNeg) mm.toNatClampNeg (40 * j2 + i)) z = tc_tk (tc_sl L1 (fun i => f (40 * j + i)) z) (tc_sl L2 (fun i => f (40 * j2 + i)) z) (kPart fi mm (nI L1)) (kPart ti mm (nI L2)) fi ti mm := by
  funext i
  rcases hp with ⟨e1, e2⟩ | ⟨q1, q2⟩
  · subst e1; subst e2
    rw [tc_sl_0]
    unfold tc_tk
    split
    · exact (va_cpy_zero (tc_sl_0 _ z) (tc_sl_0 _ z)).symm
    · exact (tc_sl_0 _ z i).symm
  · unfold tc_tk
    rw [if_pos ⟨q1, q2⟩]
    have g1 := (kPart_spec q1 (by omega)).2.2
    have g2 := (kPart_spec q2 (by omega)).2.2
    by_cases hi : i < L2
    · rw [tc_sl_in hi]; exact va_cpy_own g1 hi
    · have e : tc_sl L2 (fun i => va_cpy f f (40 * j + fi.toNatClampNeg) (40 * j2 + ti.toNatClampNeg) mm.toNatClampNeg (40 * j2 + i)) z i = z := by unfold tc_sl; rw [if_neg hi]
      rw [e]
      unfold va_cpy
      rw [if_neg (by omega)]
      unfold tc_sl
      rw [if_neg hi]
section TCV
variable {cI cJ cD cC : ClassId} {h0 h1 h2 h3 h4 : Nat} {ad wd rd : Nat → Nat} {Y : va_W} {n : Nat} {K : Nat → Int32} {Ln : Nat → Nat} {Wh : Nat → Int64} {Re : Nat → UInt64} {cd : Int32} {ct : Nat → Int32}
theorem tc_T_cp {j j2 : Nat} {fi ti mm : Int32} (hj : j < n) (hj2 : j2 < n) (hr : ∀ k, k < n → kIs (K k) = true ∧ Ln k ≤ 40) (hc : cpC K Ln j j2 fi ti mm = 0) :
    ((tc_T cI cJ cD cC h0 h1 h2 h3 h4 ad wd rd Y n K Ln Wh Re cd ct).set (5 + (Y.length + (3 * j2 + 1))) (wd j2, .inl (cJ, tc_wl (K j2) (Ln j2), .inr (.inl (tc_tk (tc_sl (tc_wl (K j) (Ln j)) (fun i => Wh (40 * j + i)) 0) (tc_sl (tc_wl (K j2) (Ln j2)) (fun i => Wh (40 * j2 + i)) 0) (kPart fi mm (nI (tc_wl (K j) (Ln j)))) (kPart ti mm (nI (tc_wl (K j2) (Ln j2)))) fi ti mm))))).set
      (5 + (Y.length + (3 * j2 + 2))) (rd j2, .inl (cD, tc_rl (K j2) (Ln j2), .inr (.inr (.inr (.inl (tc_tk (tc_sl (tc_rl (K j) (Ln j)) (fun i => Re (40 * j + i)) 0) (tc_sl (tc_rl (K j2) (Ln j2)) (fun i => Re (40 * j2 + i)) 0) (kPart fi mm (nI (tc_rl (K j) (Ln j)))) (kPart ti mm (nI (tc_rl (K j2) (Ln j2)))) fi ti mm))))))
      = tc_T cI cJ cD cC h0 h1 h2 h3 h4 ad wd rd Y n K Ln (cpW K Ln Wh j j2 fi ti mm) (cpW K Ln Re j j2 fi ti mm) cd ct := by
  obtain ⟨e, hh, q1, q2, g1, g2⟩ := cpC_0 (hr j hj).1 (hr j hj).2 (hr j2 hj2).2 hc
  have hL2 := (hr j2 hj2).2
  have hL1 := (hr j hj).2
  have hwl : ∀ k, k < n → tc_wl (K k) (Ln k) ≤ 40 := fun k hk => by have := (hr k hk).2; unfold tc_wl; split <;> omega
  have hrl : ∀ k, k < n → tc_rl (K k) (Ln k) ≤ 40 := fun k hk => by have := (hr k hk).2; unfold tc_rl; split <;> omega
  have eW : cpW K Ln Wh j j2 fi ti mm = va_cpy Wh Wh (40 * j + fi.toNatClampNeg) (40 * j2 + ti.toNatClampNeg) mm.toNatClampNeg := by unfold cpW; rw [if_pos hc]
  have eR : cpW K Ln Re j j2 fi ti mm = va_cpy Re Re (40 * j + fi.toNatClampNeg) (40 * j2 + ti.toNatClampNeg) mm.toNatClampNeg := by unfold cpW; rw [if_pos hc]
  rw [eW, eR]
  have hpw : (tc_wl (K j) (Ln j) = 0 ∧ tc_wl (K j2) (Ln j2) = 0) ∨ (kPart fi mm (nI (tc_wl (K j) (Ln j))) = true ∧ kPart ti mm (nI (tc_wl (K j2) (Ln j2))) = true) := by
    cases hf : kFl (K j)
    · exact Or.inr ⟨by rw [tc_wl_n hf]; exact q1, by rw [tc_wl_n (e ▸ hf)]; exact q2⟩
    · exact Or.inl ⟨by unfold tc_wl; rw [if_pos hf], by unfold tc_wl; rw [if_pos (e ▸ hf)]⟩
  have hpr : (tc_rl (K j) (Ln j) = 0 ∧ tc_rl (K j2) (Ln j2) = 0) ∨ (kPart fi mm (nI (tc_rl (K j) (Ln j))) = true ∧ kPart ti mm (nI (tc_rl (K j2) (Ln j2))) = true) := by
    cases hf : kFl (K j)
    · exact Or.inl ⟨by unfold tc_rl; rw [if_neg (by rw [hf]; decide)], by unfold tc_rl; rw [if_neg (by rw [← e, hf]; decide)]⟩
    · exact Or.inr ⟨by rw [tc_rl_n hf]; exact q1, by rw [tc_rl_n (e ▸ hf)]; exact q2⟩
  refine Eq.trans (congrArg (fun z : va_W => z.set (5 + (Y.length + (3 * j2 + 2))) (rd j2, .inl (cD, tc_rl (K j2) (Ln j2), .inr (.inr (.inr (.inl (tc_tk (tc_sl (tc_rl (K j) (Ln j)) (fun i => Re (40 * j + i)) 0) (tc_sl (tc_rl (K j2) (Ln j2)) (fun i => Re (40 * j2 + i)) 0) (kPart fi mm (nI (tc_rl (K j) (Ln j)))) (kPart ti mm (nI (tc_rl (K j2) (Ln j2)))) fi ti mm))))))) (tc_T_set (W' := va_cpy Wh Wh (40 * j + fi.toNatClampNeg) (40 * j2 + ti.toNatClampNeg) mm.toNatClampNeg) (R' := Re) hj2 (by decide) (fun k hk hne => ?_) ?_)) (tc_T_set hj2 (by decide) (fun k hk hne => ?_) ?_)
  · unfold tc_col
    rw [tc_sl_congr (m := tc_wl (K k) (Ln k)) (f := fun i => va_cpy Wh Wh (40 * j + fi.toNatClampNeg) (40 * j2 + ti.toNatClampNeg) mm.toNatClampNeg (40 * k + i)) (g := fun i => Wh (40 * k + i)) (fun i hi => va_cpy_slice hne (by have := hwl k hk; omega) (by omega))]
  · unfold tc_col
    rw [tc_cp_own (hwl j hj) (hwl j2 hj2) hpw]
    rfl
  · unfold tc_col
    rw [tc_sl_congr (m := tc_rl (K k) (Ln k)) (f := fun i => va_cpy Re Re (40 * j + fi.toNatClampNeg) (40 * j2 + ti.toNatClampNeg) mm.toNatClampNeg (40 * k + i)) (g := fun i => Re (40 * k + i)) (fun i hi => va_cpy_slice hne (by have := hrl k hk; omega) (by omega))]
  · unfold tc_col
    rw [tc_cp_own (hrl j hj) (hrl j2 hj2) hpr]
    rfl
end TCV
