/-! THE LAW: what holds at the head of a turn -/
def LCtx (p : Program) (l : Launch) (D : va_G) (A : Nat → Prop) (cI cJ cD cC : ClassId) (s : State) (m : MethodId) (c : Code) (b L : Nat) (xs : Nat → Int32) : Prop :=
  p.tables.exec = Jvm.exec ∧ c.code = cL_law ∧ c.maxLocals = 9 ∧ s.vm.findClass RL = some m.cls ∧ (∀ w ∈ wsL_law, w.before #[Value.ref b] s = true) ∧ va_X b L xs s s.heap ∧ b < s.heap.size ∧ ¬ A b ∧ (∀ q, s.heap.size ≤ q → A q) ∧ L ≤ 3072 ∧ l.stackTraces = false ∧ va_K D vwCl (tcTY cI cJ cD cC) s ∧ tc_E A s ∧ tc_Nc s
def LInv (D : va_G) (A : Nat → Prop) (cI cJ cD cC : ClassId) (h0 h1 h2 h3 h4 m0 m1 m2 m3 m4 m5 o1 o2 : Nat) (s : State) (b : Nat) (d : Drawn) (H : Heap) (locs : List Loc) (i : Nat) (ls : Array Slot) : Prop :=
  ∃ (ad wd rd : Nat → Nat) (n : Nat) (K : Nat → Int32) (Ln : Nat → Nat) (Wh : Nat → Int64) (Re : Nat → UInt64) (cd : Int32) (ct : Nat → Int32) (th : Int32) (ov : Nat → Int64) (od : Nat → UInt64), s.drawn.sameBut d lw_cs ∧ tcI n K Ln Wh Re ∧
    va_P D vwCl (tc_T cI cJ cD cC h0 h1 h2 h3 h4 ad wd rd (tc_Y cJ cD (m0, .inr (3, [.int th, .int (nI n), .ref m1, .ref m2, .ref m3, .ref m4, .int cd, .ref m5])) (m1, .inl (cI, 60, .inl K)) (m2, .inl (cI, 60, .inl (fun t8 => nI (Ln t8)))) (m3, .inl (cJ, 2400, .inr (.inl Wh))) (m4, .inl (cD, 2400, .inr (.inr (.inr (.inl Re))))) (m5, .inl (cI, 6, .inl ct)) o1 o2 ov od) n K Ln Wh Re cd ct) H ∧
    va_D A (tc_T cI cJ cD cC h0 h1 h2 h3 h4 ad wd rd (tc_Y cJ cD (m0, .inr (3, [.int th, .int (nI n), .ref m1, .ref m2, .ref m3, .ref m4, .int cd, .ref m5])) (m1, .inl (cI, 60, .inl K)) (m2, .inl (cI, 60, .inl (fun t8 => nI (Ln t8)))) (m3, .inl (cJ, 2400, .inr (.inl Wh))) (m4, .inl (cD, 2400, .inr (.inr (.inr (.inl Re))))) (m5, .inl (cI, 6, .inl ct)) o1 o2 ov od) n K Ln Wh Re cd ct) ∧ va_S A s.heap H locs ∧ lv_has ls 9 [(5, .int (nI i)), (4, .ref o2), (3, .ref o1), (2, .ref m0), (1, .ref h0), (0, .ref b)]
section TSL
variable {p : Program} {l : Launch} {e : Env} {R : Room} {s : State} {m : MethodId} {args : Array Value} {below : List Frame} {meth : Method} {c : Code} {H : Heap} {locs : List Loc} {cells slots : Nat} {Q : State → Prop}
variable {cc : ByteArray} {pc : Nat} {ls : Array Slot} {rest : List Value} {A : Nat → Prop} {H0 : Heap}
theorem tc_sld (hexec : p.tables.exec = Jvm.exec) (hb : c.code = cc) {b L : Nat} {xs : Nat → Int32} (hX : va_X b L xs s H0) (hbl : b < H0.size) (hbA : ¬ A b) (hS : va_S A H0 H locs) (hL : L ≤ 3072) {i : Nat} (k : Nat) {k9 : Int32} (hk9 : k9 = nI k) (hi : i + k < L) {v : Int32} (hv : xs (i + k) = v) (hdg : decode cc pc = .ok (.iaload, 1))
    (kk : W p l e R s m args below meth c H locs cells slots Q (F0 m (pc + 1) ls (.int v :: rest))) : W p l e R s m args below meth c H locs cells slots Q (F0 m pc ls (.int (nI i + k9) :: .ref b :: rest)) := by
  rw [hk9, show nI i + nI k = nI (i + k) from (nI_addE i k).symm]
  refine va_sld hexec hb hX hbl hbA hS (vp_in_nI hi (by omega)) hdg ?_
  rw [nI_clamp (by omega), hv]
  exact kk
end TSL
theorem kLen_of {x : Int32} (h : kLen x = true) : ∃ N, N ≤ 40 ∧ x = nI N := by
  have h1 := (kLen_iff x).mp h
  have h0 : ¬ x < 0 := by
    have e : (0 : Int32).toInt = 0 := rfl
    rw [Int32.lt_iff_toInt_lt, e]; omega
  obtain ⟨N, hN, e⟩ := nI_of h0
  refine ⟨N, ?_, e⟩
  rw [e, nI_toInt hN] at h1
  omega
theorem kHas8 {k : Int32} (h : kHas k = true) : k = 1 ∨ k = 2 ∨ k = 3 ∨ k = 4 ∨ k = 5 ∨ k = 6 ∨ k = 7 ∨ k = 8 := by
  have h1 := (kHas_iff k).mp h
  have e1 : (1 : Int32).toInt = 1 := rfl
  have e2 : (2 : Int32).toInt = 2 := rfl
  have e3 : (3 : Int32).toInt = 3 := rfl
  have e4 : (4 : Int32).toInt = 4 := rfl
  have e5 : (5 : Int32).toInt = 5 := rfl
  have e6 : (6 : Int32).toInt = 6 := rfl
  have e7 : (7 : Int32).toInt = 7 := rfl
  have e8 : (8 : Int32).toInt = 8 := rfl
  simp only [← Int32.toInt_inj, e1, e2, e3, e4, e5, e6, e7, e8]
  omega
theorem kMade2 (v : Int32) : kMade v 2 = v.toInt8.toInt32.toInt64 := by unfold kMade; rw [if_neg (by decide), if_pos rfl]
theorem kMade3 (v : Int32) : kMade v 3 = (v.toUInt32 % 65536).toInt32.toInt64 := by unfold kMade; rw [if_neg (by decide), if_neg (by decide), if_pos rfl]
theorem kMade4 (v : Int32) : kMade v 4 = v.toInt16.toInt32.toInt64 := by unfold kMade; rw [if_neg (by decide), if_neg (by decide), if_neg (by decide), if_pos rfl]
theorem kMade5 (v : Int32) : kMade v 5 = v.toInt64 := by unfold kMade; rw [if_neg (by decide), if_neg (by decide), if_neg (by decide), if_neg (by decide)]
theorem kMade6 (v : Int32) : kMade v 6 = v.toInt64 := by unfold kMade; rw [if_neg (by decide), if_neg (by decide), if_neg (by decide), if_neg (by decide)]
theorem kMade_b (v : Int32) : kMade v 1 = 0 ∨ kMade v 1 = 1 := by
  unfold kMade
  rw [if_pos rfl]
  by_cases h : v = 0
  · rw [if_pos h]; exact Or.inl rfl
  · rw [if_neg h]; exact Or.inr rfl
theorem zq40 {α : Type} {n : Nat} {z : α} {f : Nat → α} : zq n 40 (fun _ => z) f = tc_put n 0 (fun _ => z) z f := by
  rw [← zq_put (Nat.zero_le 40), zq_0]
theorem tf_clN {o : Option Ordering} (h : o = none) : ¬ Op.cmpValue o .l = 0 := by
  rw [tf_cl0, h]; exact fun q => by cases q
section TI
variable {n : Nat} {K : Nat → Int32} {Ln : Nat → Nat} {Wh : Nat → Int64} {Re : Nat → UInt64}
theorem tcI_w (hI : tcI n K Ln Wh Re) {j : Nat} (hj : j < n) {i kd : Int32} {v : Int64} (hv : kd = 1 → v = 0 ∨ v = 1) : tcI n K Ln (wrW K Ln Wh j i kd v) (wrR K Ln Re j i kd v) := by
  obtain ⟨h1, h2, h3, h4⟩ := hI
  unfold wrW wrR
  by_cases hc : cdR K Ln j i kd (K j) = 0
  · rw [if_pos hc, if_pos hc]
    have g0 := cdR_0 (h2 j hj).1 (h2 j hj).2.1 hc
    have hq := vp_in_lt g0.2.2
    by_cases hf : kFl (K j) = true
    · rw [if_pos hf, if_pos hf]
      refine ⟨h1, h2, h3, fun j' hj' hf' q hq' => ?_⟩
      unfold vf_upd
      by_cases e : 40 * j' + q = 40 * j + i.toNatClampNeg
      · rw [if_pos e]
        by_cases e7 : K j = 7
        · rw [if_pos e7]; exact tf_f2d (tf_l2f v)
        · rw [if_neg e7]; exact tf_l2d v
      · rw [if_neg e]; exact h4 j' hj' hf' q hq'
    · rw [if_neg hf, if_neg hf]
      refine ⟨h1, h2, fun j' hj' hk' q hq' => ?_, h4⟩
      unfold vp_updL
      by_cases e : 40 * j' + q = 40 * j + i.toNatClampNeg
      · rw [if_pos e]
        have l1 := (h2 j hj).2.1
        have l2 := (h2 j' hj').2.1
        have ej : j' = j := by omega
        subst ej
        refine hv (kWid_1 (a := kd) ?_)
        have := g0.2.1
        rw [hk'] at this
        exact this
      · rw [if_neg e]; exact h3 j' hj' hk' q hq'
  · rw [if_neg hc, if_neg hc]; exact ⟨h1, h2, h3, h4⟩
theorem tcI_x (hI : tcI n K Ln Wh Re) {j : Nat} {i kd : Int32} {x : UInt64} (hx : FP.Core.dIsNaN x = false) : tcI n K Ln Wh (wrX K Ln Re j i kd x) := by
  obtain ⟨h1, h2, h3, h4⟩ := hI
  unfold wrX
  by_cases hc : cdR K Ln j i kd (K j) = 0
  · rw [if_pos hc]
    refine ⟨h1, h2, h3, fun j' hj' hf' q hq' => ?_⟩
    unfold vf_upd
    by_cases e : 40 * j' + q = 40 * j + i.toNatClampNeg
    · rw [if_pos e]; exact hx
    · rw [if_neg e]; exact h4 j' hj' hf' q hq'
  · rw [if_neg hc]; exact ⟨h1, h2, h3, h4⟩
theorem tcI_c (hI : tcI n K Ln Wh Re) {j j2 : Nat} (hj : j < n) (hj2 : j2 < n) (fi ti mm : Int32) : tcI n K Ln (cpW K Ln Wh j j2 fi ti mm) (cpW K Ln Re j j2 fi ti mm) := by
  obtain ⟨h1, h2, h3, h4⟩ := hI
  unfold cpW
  by_cases hc : cpC K Ln j j2 fi ti mm = 0
  · rw [if_pos hc, if_pos hc]
    obtain ⟨ek, -, -, -, g1, g2⟩ := cpC_0 (h2 j hj).1 (h2 j hj).2.1 (h2 j2 hj2).2.1 hc
    have l1 := (h2 j hj).2.1
    have l2 := (h2 j2 hj2).2.1
    refine ⟨h1, h2, fun j' hj' hk' q hq' => ?_, fun j' hj' hf' q hq' => ?_⟩
    · have l3 := (h2 j' hj').2.1
      unfold va_cpy
      by_cases e : 40 * j2 + ti.toNatClampNeg ≤ 40 * j' + q ∧ 40 * j' + q < 40 * j2 + ti.toNatClampNeg + mm.toNatClampNeg
      · rw [if_pos e]
        have ej : j' = j2 := by omega
        subst ej
        have := h3 j hj (ek.trans hk') (fi.toNatClampNeg + (q - ti.toNatClampNeg)) (by omega)
        rw [show 40 * j + fi.toNatClampNeg + (40 * j' + q - (40 * j' + ti.toNatClampNeg)) = 40 * j + (fi.toNatClampNeg + (q - ti.toNatClampNeg)) from by omega]
        exact this
      · rw [if_neg e]; exact h3 j' hj' hk' q hq'
    · have l3 := (h2 j' hj').2.1
      unfold va_cpy
      by_cases e : 40 * j2 + ti.toNatClampNeg ≤ 40 * j' + q ∧ 40 * j' + q < 40 * j2 + ti.toNatClampNeg + mm.toNatClampNeg
      · rw [if_pos e]
        have ej : j' = j2 := by omega
        subst ej
        have := h4 j hj (by rw [ek]; exact hf') (fi.toNatClampNeg + (q - ti.toNatClampNeg)) (by omega)
        rw [show 40 * j + fi.toNatClampNeg + (40 * j' + q - (40 * j' + ti.toNatClampNeg)) = 40 * j + (fi.toNatClampNeg + (q - ti.toNatClampNeg)) from by omega]
        exact this
      · rw [if_neg e]; exact h4 j' hj' hf' q hq'
  · rw [if_neg hc, if_neg hc]; exact ⟨h1, h2, h3, h4⟩
theorem tcI_a (hI : tcI n K Ln Wh Re) (hn : n < 60) {kd : Int32} {N M : Nat} (hk : kIs kd = true) (hN : N ≤ 40) (hz : kHas kd = false → N = 0) {V : Nat → Int64} {X : Nat → UInt64} (hV : kd = 1 → ∀ q, q < N → q < M → V q = 0 ∨ V q = 1) (hX : kFl kd = true → ∀ q, q < N → q < M → FP.Core.dIsNaN (X q) = false) :
    tcI (n + 1) (va_up K n kd) (va_up Ln n N) (tc_put n M V 0 Wh) (tc_put n M X 0 Re) := by
  obtain ⟨h1, h2, h3, h4⟩ := hI
  refine ⟨by omega, fun j hj => ?_, fun j hj hk' q hq => ?_, fun j hj hf q hq => ?_⟩
  · by_cases e : j = n
    · subst e; rw [tcu_at, tcu_at]; exact ⟨hk, hN, hz⟩
    · rw [tcu_ne K kd e, tcu_ne Ln N e]; exact h2 j (by omega)
  · by_cases e : j = n
    · subst e
      rw [tcu_at] at hk' hq
      rw [tc_put_in (by omega)]
      by_cases h : q < M
      · rw [if_pos h]; exact hV hk' q hq h
      · rw [if_neg h]; exact Or.inl rfl
    · rw [tcu_ne K kd e] at hk'
      rw [tcu_ne Ln N e] at hq
      have l := (h2 j (by omega)).2.1
      rw [tc_put_out (by omega) (by omega)]
      exact h3 j (by omega) hk' q hq
  · by_cases e : j = n
    · subst e
      rw [tcu_at] at hf hq
      rw [tc_put_in (by omega)]
      by_cases h : q < M
      · rw [if_pos h]; exact hX hf q hq h
      · rw [if_neg h]; decide +kernel
    · rw [tcu_ne K kd e] at hf
      rw [tcu_ne Ln N e] at hq
      have l := (h2 j (by omega)).2.1
      rw [tc_put_out (by omega) (by omega)]
      exact h4 j (by omega) hf q hq
theorem tcI_wd (hI : tcI n K Ln Wh Re) (hn : n < 60) {j : Nat} (hj : j < n) {kd : Int32} (hk : kHas kd = true) (hc : wdC K j kd = 0) : tcI (n + 1) (va_up K n kd) (va_up Ln n (Ln j)) (tc_put n (Ln j) (fun i => Wh (40 * j + i)) 0 Wh) (tc_put n (Ln j) (wdV K Wh Re j kd) 0 Re) := by
  obtain ⟨hc0, hc1⟩ := wdC_0 hc
  refine tcI_a hI hn (kHas_Is hk) (hI.2.1 j hj).2.1 (fun h => absurd hk (by rw [h]; decide)) (fun e1 q hq _ => ?_) (fun hf q hq _ => ?_)
  · rw [e1] at hc1
    exact hI.2.2.1 j hj (kWid_1 hc1) q hq
  · unfold wdV
    rw [if_neg (by rw [hf]; decide)]
    by_cases h2 : kFl (K j) = true
    · rw [if_pos h2]; exact hI.2.2.2 j hj h2 q hq
    · rw [if_neg h2]
      by_cases h7 : kd = 7
      · rw [if_pos h7]; exact tf_f2d (tf_l2f _)
      · rw [if_neg h7]; exact tf_l2d _
theorem rdR_nn (hI : tcI n K Ln Wh Re) {j : Nat} (hj : j < n) (i kd : Int32) : FP.Core.dIsNaN (rdR K Ln Wh Re j i kd) = false := by
  unfold rdR
  by_cases h : cdR K Ln j i (K j) kd = 0
  · rw [if_pos h]
    have g0 := cdR_0 (hI.2.1 j hj).1 (hI.2.1 j hj).2.1 h
    by_cases hf : kFl (K j) = true
    · rw [if_pos hf]; exact hI.2.2.2 j hj hf _ (vp_in_lt g0.2.2)
    · rw [if_neg hf]; exact tf_l2d _
  · rw [if_neg h]; decide +kernel
end TI
