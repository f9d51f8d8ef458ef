/-! THE LAW: its table beside the columns; what each step does to both -/
theorem kWid_1 {a : Int32} (h : kWid a 1 = true) : a = 1 := by
  obtain ⟨h1, h2⟩ := kWid_has h
  by_cases q : a = 1
  · exact q
  · rw [kWid_b1 h1 h2 q q rfl] at h; cases h
theorem kHas_Is {k : Int32} (h : kHas k = true) : kIs k = true := by
  have h1 := (kHas_iff k).mp h
  exact (kIs_iff k).mpr (by omega)
section TJ
variable {p : Program} {l : Launch} {e : Env} {R : Room} {s : State} {m : MethodId} {args : Array Value} {below : List Frame} {meth : Method} {c : Code} {H : Heap} {locs : List Loc} {cells slots : Nat} {Q : State → Prop}
/-- ways that meet -/
theorem tc_join (pc2 : Nat) {pc1 : Nat} {ls1 : Array Slot} {st1 : List Value} (I : Array Slot → List Value → Prop) (h2 : ∀ ls st, I ls st → W p l e R s m args below meth c H locs cells slots Q (F0 m pc2 ls st))
    (h1 : (∀ ls st, I ls st → W p l e R s m args below meth c H locs cells slots Q (F0 m pc2 ls st)) → W p l e R s m args below meth c H locs cells slots Q (F0 m pc1 ls1 st1)) : W p l e R s m args below meth c H locs cells slots Q (F0 m pc1 ls1 st1) := h1 h2
end TJ
theorem kHas8 {k : Int32} (h : kHas k = true) : k = 1 ∨ k = 2 ∨ k = 3 ∨ k = 4 ∨ k = 5 ∨ k = 6 ∨ k = 7 ∨ k = 8 := by
  have h1 := (kHas_iff k).mp h
  have e1 : (1 : Int32).toInt = 1 := rfl
  have e2 : (2 : Int32).toInt = 2 := rfl
  have e3 : (3 : Int32).toInt = 3 := rfl
  have e4 : (4 : Int32).toInt = 4 := rfl
  have e5 : (5 : Int32).toInt = 5 := rfl
  have e6 : (6 : Int32).toInt = 6 := rfl
  have e7 : (7 : Int32).toInt = 7 := rfl
  have e8 : (8 : Int32).toInt = 8 := rfl
  simp only [← Int32.toInt_inj, e1, e2, e3, e4, e5, e6, e7, e8]
  omega
section TI
variable {n : Nat} {K : Nat → Int32} {Ln : Nat → Nat} {Wh : Nat → Int64} {Re : Nat → UInt64}
theorem tcI_w (hI : tcI n K Ln Wh Re) {j : Nat} (hj : j < n) {i kd : Int32} {v : Int64} (hv : kd = 1 → v = 0 ∨ v = 1) : tcI n K Ln (wrW K Ln Wh j i kd v) (wrR K Ln Re j i kd v) := by
  obtain ⟨h1, h2, h3, h4⟩ := hI
  unfold wrW wrR
  by_cases hc : cdR K Ln j i kd (K j) = 0
  · rw [if_pos hc, if_pos hc]
    have g0 := cdR_0 (h2 j hj).1 (h2 j hj).2.1 hc
    have hq := vp_in_lt g0.2.2
    by_cases hf : kFl (K j) = true
    · rw [if_pos hf, if_pos hf]
      refine ⟨h1, h2, h3, fun j' hj' hf' q hq' => ?_⟩
      unfold vf_upd
      by_cases e : 40 * j' + q = 40 * j + i.toNatClampNeg
      · rw [if_pos e]
        by_cases e7 : K j = 7
        · rw [if_pos e7]; exact tf_f2d (tf_l2f v)
        · rw [if_neg e7]; exact tf_l2d v
      · rw [if_neg e]; exact h4 j' hj' hf' q hq'
    · rw [if_neg hf, if_neg hf]
      refine ⟨h1, h2, fun j' hj' hk' q hq' => ?_, h4⟩
      unfold vp_updL
      by_cases e : 40 * j' + q = 40 * j + i.toNatClampNeg
      · rw [if_pos e]
        have l1 := (h2 j hj).2.1
        have l2 := (h2 j' hj').2.1
        have ej : j' = j := by omega
        subst ej
        refine hv (kWid_1 (a := kd) ?_)
        have := g0.2.1
        rw [hk'] at this
        exact this
      · rw [if_neg e]; exact h3 j' hj' hk' q hq'
  · rw [if_neg hc, if_neg hc]; exact ⟨h1, h2, h3, h4⟩
theorem tcI_x (hI : tcI n K Ln Wh Re) {j : Nat} {i kd : Int32} {x : UInt64} (hx : FP.Core.dIsNaN x = false) : tcI n K Ln Wh (wrX K Ln Re j i kd x) := by
  obtain ⟨h1, h2, h3, h4⟩ := hI
  unfold wrX
  by_cases hc : cdR K Ln j i kd (K j) = 0
  · rw [if_pos hc]
    refine ⟨h1, h2, h3, fun j' hj' hf' q hq' => ?_⟩
    unfold vf_upd
    by_cases e : 40 * j' + q = 40 * j + i.toNatClampNeg
    · rw [if_pos e]; exact hx
    · rw [if_neg e]; exact h4 j' hj' hf' q hq'
  · rw [if_neg hc]; exact ⟨h1, h2, h3, h4⟩
theorem tcI_c (hI : tcI n K Ln Wh Re) {j j2 : Nat} (hj : j < n) (hj2 : j2 < n) (fi ti mm : Int32) : tcI n K Ln (cpW K Ln Wh j j2 fi ti mm) (cpW K Ln Re j j2 fi ti mm) := by
  obtain ⟨h1, h2, h3, h4⟩ := hI
  unfold cpW
  by_cases hc : cpC K Ln j j2 fi ti mm = 0
  · rw [if_pos hc, if_pos hc]
    obtain ⟨ek, -, -, -, g1, g2⟩ := cpC_0 (h2 j hj).1 (h2 j hj).2.1 (h2 j2 hj2).2.1 hc
    have l1 := (h2 j hj).2.1
    have l2 := (h2 j2 hj2).2.1
    refine ⟨h1, h2, fun j' hj' hk' q hq' => ?_, fun j' hj' hf' q hq' => ?_⟩
    · have l3 := (h2 j' hj').2.1
      unfold va_cpy
      by_cases e : 40 * j2 + ti.toNatClampNeg ≤ 40 * j' + q ∧ 40 * j' + q < 40 * j2 + ti.toNatClampNeg + mm.toNatClampNeg
      · rw [if_pos e]
        have ej : j' = j2 := by omega
        subst ej
        have := h3 j hj (ek.trans hk') (fi.toNatClampNeg + (q - ti.toNatClampNeg)) (by omega)
        rw [show 40 * j + fi.toNatClampNeg + (40 * j' + q - (40 * j' + ti.toNatClampNeg)) = 40 * j + (fi.toNatClampNeg + (q - ti.toNatClampNeg)) from by omega]
        exact this
      · rw [if_neg e]; exact h3 j' hj' hk' q hq'
    · have l3 := (h2 j' hj').2.1
      unfold va_cpy
      by_cases e : 40 * j2 + ti.toNatClampNeg ≤ 40 * j' + q ∧ 40 * j' + q < 40 * j2 + ti.toNatClampNeg + mm.toNatClampNeg
      · rw [if_pos e]
        have ej : j' = j2 := by omega
        subst ej
        have := h4 j hj (by rw [ek]; exact hf') (fi.toNatClampNeg + (q - ti.toNatClampNeg)) (by omega)
        rw [show 40 * j + fi.toNatClampNeg + (40 * j' + q - (40 * j' + ti.toNatClampNeg)) = 40 * j + (fi.toNatClampNeg + (q - ti.toNatClampNeg)) from by omega]
        exact this
      · rw [if_neg e]; exact h4 j' hj' hf' q hq'
  · rw [if_neg hc, if_neg hc]; exact ⟨h1, h2, h3, h4⟩
theorem tcI_a (hI : tcI n K Ln Wh Re) (hn : n < 60) {kd : Int32} {N M : Nat} (hk : kIs kd = true) (hN : N ≤ 40) (hz : kHas kd = false → N = 0) {V : Nat → Int64} {X : Nat → UInt64} (hV : kd = 1 → ∀ q, q < N → q < M → V q = 0 ∨ V q = 1) (hX : kFl kd = true → ∀ q, q < N → q < M → FP.Core.dIsNaN (X q) = false) :
    tcI (n + 1) (va_up K n kd) (va_up Ln n N) (tc_put n M V 0 Wh) (tc_put n M X 0 Re) := by
  obtain ⟨h1, h2, h3, h4⟩ := hI
  refine ⟨by omega, fun j hj => ?_, fun j hj hk' q hq => ?_, fun j hj hf q hq => ?_⟩
  · by_cases e : j = n
    · subst e; rw [tcu_at, tcu_at]; exact ⟨hk, hN, hz⟩
    · rw [tcu_ne K kd e, tcu_ne Ln N e]; exact h2 j (by omega)
  · by_cases e : j = n
    · subst e
      rw [tcu_at] at hk' hq
      rw [tc_put_in (by omega)]
      by_cases h : q < M
      · rw [if_pos h]; exact hV hk' q hq h
      · rw [if_neg h]; exact Or.inl rfl
    · rw [tcu_ne K kd e] at hk'
      rw [tcu_ne Ln N e] at hq
      have l := (h2 j (by omega)).2.1
      rw [tc_put_out (by omega) (by omega)]
      exact h3 j (by omega) hk' q hq
  · by_cases e : j = n
    · subst e
      rw [tcu_at] at hf hq
      rw [tc_put_in (by omega)]
      by_cases h : q < M
      · rw [if_pos h]; exact hX hf q hq h
      · rw [if_neg h]; decide +kernel
    · rw [tcu_ne K kd e] at hf
      rw [tcu_ne Ln N e] at hq
      have l := (h2 j (by omega)).2.1
      rw [tc_put_out (by omega) (by omega)]
      exact h4 j (by omega) hf q hq
theorem tcI_wd (hI : tcI n K Ln Wh Re) (hn : n < 60) {j : Nat} (hj : j < n) {kd : Int32} (hk : kHas kd = true) (hc : wdC K j kd = 0) : tcI (n + 1) (va_up K n kd) (va_up Ln n (Ln j)) (tc_put n (Ln j) (fun i => Wh (40 * j + i)) 0 Wh) (tc_put n (Ln j) (wdV K Wh Re j kd) 0 Re) := by
  obtain ⟨hc0, hc1⟩ := wdC_0 hc
  refine tcI_a hI hn (kHas_Is hk) (hI.2.1 j hj).2.1 (fun h => absurd hk (by rw [h]; decide)) (fun e1 q hq _ => ?_) (fun hf q hq _ => ?_)
  · rw [e1] at hc1
    exact hI.2.2.1 j hj (kWid_1 hc1) q hq
  · unfold wdV
    rw [if_neg (by rw [hf]; decide)]
    by_cases h2 : kFl (K j) = true
    · rw [if_pos h2]; exact hI.2.2.2 j hj h2 q hq
    · rw [if_neg h2]
      by_cases h7 : kd = 7
      · rw [if_pos h7]; exact tf_f2d (tf_l2f _)
      · rw [if_neg h7]; exact tf_l2d _
theorem rdR_nn (hI : tcI n K Ln Wh Re) {j : Nat} (hj : j < n) (i kd : Int32) : FP.Core.dIsNaN (rdR K Ln Wh Re j i kd) = false := by
  unfold rdR
  by_cases h : cdR K Ln j i (K j) kd = 0
  · rw [if_pos h]
    have g0 := cdR_0 (hI.2.1 j hj).1 (hI.2.1 j hj).2.1 h
    by_cases hf : kFl (K j) = true
    · rw [if_pos hf]; exact hI.2.2.2 j hj hf _ (vp_in_lt g0.2.2)
    · rw [if_neg hf]; exact tf_l2d _
  · rw [if_neg h]; decide +kernel
end TI
def PI (n : Nat) (K : Nat → Int32) (Ln : Nat → Nat) (Wh : Nat → Int64) (Re : Nat → UInt64) (ow : Nat → UInt64) (lf kf : Nat → Int32) : Prop :=
  n ≤ 12 ∧ tcI n K Ln Wh Re ∧ (∀ j, j < n → kf j = K j ∧ lf j = nI (Ln j) ∧ Ln j ≤ 5) ∧ (∀ j, j < n → ∀ q, q < Ln j → cOK (K j) (Wh (40 * j + q)) (Re (40 * j + q)) (ow (5 * j + q)))
section PIS
variable {n : Nat} {K : Nat → Int32} {Ln : Nat → Nat} {Wh : Nat → Int64} {Re : Nat → UInt64} {ow : Nat → UInt64} {lf kf : Nat → Int32}
theorem PI_has (h : PI n K Ln Wh Re ow lf kf) {j : Nat} (hj : j < n) {q : Nat} (hq : q < Ln j) : kHas (K j) = true := by
  cases hz : kHas (K j)
  · have := (h.2.1.2.1 j hj).2.2 hz
    omega
  · rfl
theorem PI_kf (h : PI n K Ln Wh Re ow lf kf) {j : Nat} (hj : j < n) : kf (nI j).toNatClampNeg = K j := by
  have := h.1
  rw [nI_clamp (by omega)]
  exact (h.2.2.1 j hj).1
theorem PI_lf (h : PI n K Ln Wh Re ow lf kf) {j : Nat} (hj : j < n) : lf (nI j).toNatClampNeg = nI (Ln j) := by
  have := h.1
  rw [nI_clamp (by omega)]
  exact (h.2.2.1 j hj).2.1
theorem PI_rd (h : PI n K Ln Wh Re ow lf kf) {j : Nat} (hj : j < n) {q : Nat} (hq : q < Ln j) : cdR K Ln j (nI q) (K j) (K j) = 0 ∧ rdR K Ln Wh Re j (nI q) (K j) = ow (5 * j + q) ∧ FP.Core.dIsNaN (ow (5 * j + q)) = false := by
  have hh := PI_has h hj hq
  have hL := (h.2.2.1 j hj).2.2
  have hc := h.2.2.2 j hj q hq
  have h0 : cdR K Ln j (nI q) (K j) (K j) = 0 := by
    unfold cdR kCell
    rw [if_pos (kHas_col hh), if_neg (nI_pos (by omega)), tc_cl_has hh, if_neg (nI_ge hq (by omega)), if_pos (kWid_self hh)]
  refine ⟨h0, ?_, cOK_n hc⟩
  unfold rdR
  rw [if_pos h0, nI_clamp (by omega)]
  cases hf : kFl (K j)
  · rw [if_neg (by decide)]; exact (hc.2.2.1 hf).1
  · rw [if_pos rfl]; exact hc.2.1 hf
theorem PI_tot (h : PI n K Ln Wh Re ow lf kf) {j : Nat} (hj : j < n) : tot K Ln Wh Re j = lsum (fun q => ow (5 * j + q)) (Ln j) := by
  unfold tot
  by_cases hc : kCol (K j) = 0
  · rw [if_pos hc]
    refine lsum_sum _ (fun q hq => ?_)
    have hk := h.2.2.2 j hj q hq
    refine ⟨hk.1, ?_⟩
    cases hf : kFl (K j)
    · rw [if_neg (by decide)]; exact (hk.2.2.1 hf).1
    · rw [if_pos rfl]; exact hk.2.1 hf
  · rw [if_neg hc]
    have hz : Ln j = 0 := by
      rcases Nat.eq_zero_or_pos (Ln j) with e | e
      · exact e
      · exact absurd (kHas_col (PI_has h hj e)) hc
    rw [hz]
    rfl
theorem PI_totn (h : PI n K Ln Wh Re ow lf kf) {j : Nat} (hj : j < n) {k : Nat} (hk : k ≤ Ln j) : FP.Core.dIsNaN (lsum (fun q => ow (5 * j + q)) k) = false :=
  lsum_nn k (fun i hi => (h.2.2.2 j hj i (by omega)).1)
/-- one cell is another -/
theorem PI_upd (h : PI n K Ln Wh Re ow lf kf) {j q : Nat} (hj : j < n) (hq : q < Ln j) {Wh' : Nat → Int64} {Re' : Nat → UInt64} {v : UInt64} (hI : tcI n K Ln Wh' Re') (hW : ∀ x, x ≠ 40 * j + q → Wh' x = Wh x) (hR : ∀ x, x ≠ 40 * j + q → Re' x = Re x) (hc : cOK (K j) (Wh' (40 * j + q)) (Re' (40 * j + q)) v) : PI n K Ln Wh' Re' (vf_upd ow (5 * j + q) v) lf kf := by
  refine ⟨h.1, hI, h.2.2.1, fun j' hj' q' hq' => ?_⟩
  have l1 := (h.2.2.1 j hj).2.2
  have l2 := (h.2.2.1 j' hj').2.2
  unfold vf_upd
  by_cases e : j' = j ∧ q' = q
  · obtain ⟨rfl, rfl⟩ := e
    rw [if_pos rfl]
    exact hc
  · rw [if_neg (by omega), hW _ (by omega), hR _ (by omega)]
    exact h.2.2.2 j' hj' q' hq'
def lVal (k : Int32) (x kd : Int32) : UInt64 := if k = 7 then FP.f2d (FP.l2f (lMade x kd)) else FP.l2d (lMade x kd)
theorem lVal7 (k x : Int32) : lVal k x 7 = FP.f2d (FP.i2f x) := by
  unfold lVal lMade
  rw [if_pos rfl]
  split
  · rw [(tf_made7 x).1]
  · rw [(tf_made7 x).2]
theorem PI_wf (h : PI n K Ln Wh Re ow lf kf) {j a : Nat} (hj : j < n) {x : Int32} (hc : cdR K Ln j (nI a) 7 (K j) = 0) : PI n K Ln Wh (wrX K Ln Re j (nI a) 7 (FP.f2d (FP.i2f x))) (vf_upd ow (5 * j + (nI a).toNatClampNeg) (lVal (K j) x 7)) lf kf := by
  obtain ⟨g1, g2, g3⟩ := cdR_0 (h.2.1.2.1 j hj).1 (h.2.1.2.1 j hj).2.1 hc
  have hf := kWid_high g2 (by decide)
  refine PI_upd h hj (vp_in_lt g3) (tcI_x h.2.1 (tf_DFn (tf_finf (tf_fi x)))) (fun _ _ => rfl) (fun y hy => ?_) ?_
  · unfold wrX; rw [if_pos hc]; exact if_neg hy
  · unfold wrX
    rw [if_pos hc, lVal7]
    refine ⟨tf_finf (tf_fi x), fun _ => if_pos rfl, fun z => absurd hf (by rw [z]; decide), fun _ => ?_⟩
    rw [tf_d2ff (tf_fi x)]
theorem kWid_8 {b : Int32} (h : kWid 8 b = true) : b = 8 := by
  rcases kHas8 (kWid_has h).2 with e | e | e | e | e | e | e | e
  all_goals first
    | exact e
    | (rw [e] at h; exact absurd h (by decide))
theorem PI_wd (h : PI n K Ln Wh Re ow lf kf) {j a : Nat} (hj : j < n) {x : Int32} (hc : cdR K Ln j (nI a) 8 (K j) = 0) : PI n K Ln Wh (wrX K Ln Re j (nI a) 8 (FP.i2d x)) (vf_upd ow (5 * j + (nI a).toNatClampNeg) (lVal (K j) x 8)) lf kf := by
  obtain ⟨g1, g2, g3⟩ := cdR_0 (h.2.1.2.1 j hj).1 (h.2.1.2.1 j hj).2.1 hc
  have h8 := kWid_8 g2
  have ev : lVal (K j) x 8 = FP.i2d x := by
    unfold lVal lMade
    rw [h8, if_neg (by decide), if_neg (by decide), kMade8, tg_i2d]
  have hfin : FP.Core.DFin (FP.i2d x) := by rw [← tg_i2d]; exact tf_finl _
  refine PI_upd h hj (vp_in_lt g3) (tcI_x h.2.1 (tf_DFn hfin)) (fun _ _ => rfl) (fun y hy => ?_) ?_
  · unfold wrX; rw [if_pos hc]; exact if_neg hy
  · unfold wrX
    rw [if_pos hc, ev]
    exact ⟨hfin, fun _ => if_pos rfl, fun z => absurd z (by rw [h8]; decide), fun z => absurd z (by rw [h8]; decide)⟩
theorem PI_ww (h : PI n K Ln Wh Re ow lf kf) {j a : Nat} (hj : j < n) {x kd : Int32} (hkf : kFl kd = false) (hc : cdR K Ln j (nI a) kd (K j) = 0) : PI n K Ln (wrW K Ln Wh j (nI a) kd (kMade x kd)) (wrR K Ln Re j (nI a) kd (kMade x kd)) (vf_upd ow (5 * j + (nI a).toNatClampNeg) (lVal (K j) x kd)) lf kf := by
  obtain ⟨g1, g2, g3⟩ := cdR_0 (h.2.1.2.1 j hj).1 (h.2.1.2.1 j hj).2.1 hc
  have n7 := (kFl_no hkf).1
  have em : lMade x kd = kMade x kd := if_neg n7
  have hI := tcI_w h.2.1 hj (i := nI a) (kd := kd) (v := kMade x kd) (fun e => by rw [e]; exact kMade_b x)
  refine PI_upd h hj (vp_in_lt g3) hI (fun y hy => ?_) (fun y hy => ?_) ?_
  · unfold wrW; rw [if_pos hc]
    split
    · rfl
    · exact if_neg hy
  · unfold wrR; rw [if_pos hc]
    split
    · exact if_neg hy
    · rfl
  · unfold wrW wrR lVal
    rw [if_pos hc, if_pos hc, em]
    cases hf : kFl (K j)
    · have k7 := (kFl_no hf).1
      rw [if_neg (by decide), if_neg (by decide), if_neg k7]
      refine ⟨tf_finl _, fun z => absurd z (by rw [hf]; decide), fun _ => ?_, fun z => absurd z k7⟩
      have e : vp_updL Wh (40 * j + (nI a).toNatClampNeg) (kMade x kd) (40 * j + (nI a).toNatClampNeg) = kMade x kd := if_pos rfl
      rw [e]
      exact ⟨rfl, kMade_le x kd⟩
    · rw [if_pos rfl, if_pos rfl]
      by_cases k7 : K j = 7
      · rw [if_pos k7]
        refine ⟨tf_finf (tf_fl _), fun _ => if_pos rfl, fun z => absurd z (by rw [hf]; decide), fun _ => ?_⟩
        rw [tf_d2ff (tf_fl _)]
      · rw [if_neg k7]
        exact ⟨tf_finl _, fun _ => if_pos rfl, fun z => absurd z (by rw [hf]; decide), fun z => absurd z k7⟩
theorem PI_w0 (h : PI n K Ln Wh Re ow lf kf) {j : Nat} {i kd : Int32} {v : Int64} (hc : ¬ cdR K Ln j i kd (K j) = 0) : PI n K Ln (wrW K Ln Wh j i kd v) (wrR K Ln Re j i kd v) ow lf kf := by
  unfold wrW wrR; rw [if_neg hc, if_neg hc]; exact h
theorem PI_x0 (h : PI n K Ln Wh Re ow lf kf) {j : Nat} {i kd : Int32} {v : UInt64} (hc : ¬ cdR K Ln j i kd (K j) = 0) : PI n K Ln Wh (wrX K Ln Re j i kd v) ow lf kf := by
  unfold wrX; rw [if_neg hc]; exact h
/-- a copy -/
theorem PI_cp (h : PI n K Ln Wh Re ow lf kf) {j j2 a m : Nat} (hj : j < n) (hj2 : j2 < n) (hm : m < 2 ^ 31) (ha : a < 2 ^ 31) (hc : cpC K Ln j j2 (nI a) 0 (nI m) = 0) : PI n K Ln (cpW K Ln Wh j j2 (nI a) 0 (nI m)) (cpW K Ln Re j j2 (nI a) 0 (nI m)) (va_cpy ow ow (5 * j + a) (5 * j2) m) lf kf := by
  obtain ⟨ek, -, -, -, g1, g2⟩ := cpC_0 (h.2.1.2.1 j hj).1 (h.2.1.2.1 j hj).2.1 (h.2.1.2.1 j2 hj2).2.1 hc
  have e0 : (0 : Int32).toNatClampNeg = 0 := rfl
  rw [nI_clamp hm, nI_clamp ha] at g1
  rw [nI_clamp hm, e0] at g2
  refine ⟨h.1, tcI_c h.2.1 hj hj2 _ _ _, h.2.2.1, fun j' hj' q' hq' => ?_⟩
  have l1 := (h.2.2.1 j hj).2.2
  have l2 := (h.2.2.1 j2 hj2).2.2
  have l3 := (h.2.2.1 j' hj').2.2
  unfold cpW
  rw [if_pos hc, if_pos hc, nI_clamp hm, nI_clamp ha, e0]
  unfold va_cpy
  by_cases e : j' = j2 ∧ q' < m
  · obtain ⟨rfl, e⟩ := e
    rw [if_pos (by omega), if_pos (by omega), if_pos (by omega)]
    have hk := h.2.2.2 j hj (a + q') (by omega)
    rw [ek] at hk
    rw [show 40 * j + a + (40 * j' + q' - (40 * j' + 0)) = 40 * j + (a + q') from by omega, show 5 * j + a + (5 * j' + q' - 5 * j') = 5 * j + (a + q') from by omega]
    exact hk
  · rw [if_neg (by omega), if_neg (by omega), if_neg (by omega)]
    exact h.2.2.2 j' hj' q' hq'
theorem PI_cp0 (h : PI n K Ln Wh Re ow lf kf) {j j2 : Nat} {fi ti mm : Int32} (hc : ¬ cpC K Ln j j2 fi ti mm = 0) : PI n K Ln (cpW K Ln Wh j j2 fi ti mm) (cpW K Ln Re j j2 fi ti mm) ow lf kf := by
  unfold cpW; rw [if_neg hc, if_neg hc]; exact h
/-- a new column -/
theorem PI_new (h : PI n K Ln Wh Re ow lf kf) (hn : n < 12) {kd : Int32} {N M : Nat} {V : Nat → Int64} {X : Nat → UInt64} {ow' : Nat → UInt64} (hN : N ≤ 5) (hI : tcI (n + 1) (va_up K n kd) (va_up Ln n N) (tc_put n M V 0 Wh) (tc_put n M X 0 Re)) (hw : ∀ j q, j < n → q < 5 → ow' (5 * j + q) = ow (5 * j + q))
    (hc : ∀ q, q < N → cOK kd (if q < M then V q else 0) (if q < M then X q else 0) (ow' (5 * n + q))) : PI (n + 1) (va_up K n kd) (va_up Ln n N) (tc_put n M V 0 Wh) (tc_put n M X 0 Re) ow' (upd lf n (nI N)) (upd kf n kd) := by
  refine ⟨by omega, hI, fun j hj => ?_, fun j hj q hq => ?_⟩
  · by_cases e : j = n
    · subst e
      rw [tcu_at, tcu_at]
      exact ⟨if_pos rfl, if_pos rfl, hN⟩
    · rw [tcu_ne K kd e, tcu_ne Ln N e]
      obtain ⟨h1, h2, h3⟩ := h.2.2.1 j (by omega)
      exact ⟨(if_neg e).trans h1, (if_neg e).trans h2, h3⟩
  · by_cases e : j = n
    · subst e
      rw [tcu_at] at hq ⊢
      rw [tc_put_in (by omega), tc_put_in (by omega)]
      exact hc q hq
    · rw [tcu_ne Ln N e] at hq
      rw [tcu_ne K kd e]
      have l := (h.2.2.1 j (by omega)).2.2
      rw [tc_put_out (by omega) (by omega), tc_put_out (by omega) (by omega), hw j q (by omega) (by omega)]
      exact h.2.2.2 j (by omega) q hq
theorem PI_create (h : PI n K Ln Wh Re (fun _ => 0) lf kf) (hn : n < 12) {kd : Int32} {N : Nat} (hN : N ≤ 5) (hk : kIs kd = true) (hz : kHas kd = false → N = 0) : PI (n + 1) (va_up K n kd) (va_up Ln n N) (tc_put n 0 (fun _ => 0) 0 Wh) (tc_put n 0 (fun _ => 0) 0 Re) (fun _ => 0) (upd lf n (nI N)) (upd kf n kd) := by
  refine PI_new h hn hN (tcI_a h.2.1 (by omega) hk (by omega) hz (fun _ q _ z => absurd z (Nat.not_lt_zero q)) (fun _ q _ z => absurd z (Nat.not_lt_zero q))) (fun _ _ _ _ => rfl) (fun q hq => ?_)
  rw [if_neg (Nat.not_lt_zero q), if_neg (Nat.not_lt_zero q)]
  exact cOK_z kd
/-- the law's table while a widened column is written into it -/
def lWd (n j : Nat) (kd : Int32) (ow : Nat → UInt64) (k : Nat) : Nat → UInt64 := fun x => if 5 * n ≤ x ∧ x < 5 * n + k then (if kd = 7 then FP.f2d (FP.d2f (ow (5 * j + (x - 5 * n)))) else ow (5 * j + (x - 5 * n))) else ow x
theorem lWd_0 (n j : Nat) (kd : Int32) (ow : Nat → UInt64) : lWd n j kd ow 0 = ow := by
  funext x
  unfold lWd
  rw [if_neg (by omega)]
theorem lWd_old {n j i q : Nat} {kd : Int32} {ow : Nat → UInt64} {k : Nat} (hi : i < n) (hq : q < 5) : lWd n j kd ow k (5 * i + q) = ow (5 * i + q) := by
  unfold lWd
  rw [if_neg (by omega)]
theorem lWd_new {n j q : Nat} {kd : Int32} {ow : Nat → UInt64} {k : Nat} (hq : q < k) : lWd n j kd ow k (5 * n + q) = if kd = 7 then FP.f2d (FP.d2f (ow (5 * j + q))) else ow (5 * j + q) := by
  unfold lWd
  rw [if_pos (by omega), show 5 * n + q - 5 * n = q from by omega]
theorem lWd_s (n j : Nat) (kd : Int32) (ow : Nat → UInt64) (k : Nat) {v : UInt64} (hv : v = if kd = 7 then FP.f2d (FP.d2f (ow (5 * j + k))) else ow (5 * j + k)) : vf_upd (lWd n j kd ow k) (5 * n + k) v = lWd n j kd ow (k + 1) := by
  funext x
  unfold vf_upd
  by_cases e : x = 5 * n + k
  · subst e
    rw [if_pos rfl, lWd_new (by omega), hv]
  · rw [if_neg e]
    unfold lWd
    by_cases e2 : 5 * n ≤ x ∧ x < 5 * n + k
    · rw [if_pos e2, if_pos (show 5 * n ≤ x ∧ x < 5 * n + (k + 1) by omega)]
    · rw [if_neg e2, if_neg (show ¬ (5 * n ≤ x ∧ x < 5 * n + (k + 1)) by omega)]
theorem PI_wid (h : PI n K Ln Wh Re ow lf kf) (hn : n < 12) {j : Nat} (hj : j < n) {kd : Int32} (hk : kHas kd = true) (hc : wdC K j kd = 0) : PI (n + 1) (va_up K n kd) (va_up Ln n (Ln j)) (tc_put n (Ln j) (fun i => Wh (40 * j + i)) 0 Wh) (tc_put n (Ln j) (wdV K Wh Re j kd) 0 Re) (lWd n j kd ow (Ln j)) (upd lf n (nI (Ln j))) (upd kf n kd) := by
  obtain ⟨hc0, hc1⟩ := wdC_0 hc
  have l1 := (h.2.2.1 j hj).2.2
  refine PI_new h hn l1 (tcI_wd h.2.1 (by omega) hj hk hc) (fun i q hi hq => lWd_old hi hq) (fun q hq => ?_)
  have ho := h.2.2.2 j hj q hq
  rw [if_pos hq, if_pos hq, lWd_new hq]
  unfold wdV
  cases hf : kFl kd
  · have hfj := kWid_low hc1 hf
    have k7 := (kFl_no hf).1
    simp only [if_neg k7]
    exact ⟨ho.1, fun z => absurd z (by rw [hf]; decide), fun _ => ho.2.2.1 hfj, fun z => absurd z k7⟩
  · rw [if_neg (by decide)]
    cases hfj : kFl (K j)
    · obtain ⟨q1, q2⟩ := ho.2.2.1 hfj
      rw [if_neg (by decide)]
      by_cases k7 : kd = 7
      · rw [if_pos k7, if_pos k7, ← q1, tf_d2fl q2]
        refine ⟨tf_finf (tf_fl _), fun _ => rfl, fun z => absurd z (by rw [hf]; decide), fun _ => ?_⟩
        rw [tf_d2ff (tf_fl _)]
      · rw [if_neg k7, if_neg k7]
        exact ⟨ho.1, fun _ => q1, fun z => absurd z (by rw [hf]; decide), fun z => absurd z k7⟩
    · rw [if_pos rfl]
      by_cases k7 : kd = 7
      · have kj : K j = 7 := by
          simp only [kFl, Bool.or_eq_true, decide_eq_true_eq] at hfj
          rcases hfj with e | e
          · exact e
          · rw [e] at hc1
            have := kWid_8 hc1
            rw [k7] at this
            exact absurd this (by decide)
        rw [if_pos k7, ho.2.2.2 kj]
        exact ⟨ho.1, fun _ => ho.2.1 hfj, fun z => absurd z (by rw [hf]; decide), fun _ => ho.2.2.2 kj⟩
      · rw [if_neg k7]
        exact ⟨ho.1, fun _ => ho.2.1 hfj, fun z => absurd z (by rw [hf]; decide), fun z => absurd z k7⟩
end PIS
