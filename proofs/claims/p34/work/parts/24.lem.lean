/-! THE LAW: its context, its world, and small facts of its numbers -/
abbrev lY (cI cD : ClassId) (o2 o3 o4 o6 : Nat) (ow : Nat → UInt64) (lf kf cn : Nat → Int32) : va_W := [(o2, .inl (cD, 60, .inr (.inr (.inr (.inl ow))))), (o3, .inl (cI, 12, .inl lf)), (o4, .inl (cI, 12, .inl kf)), (o6, .inl (cI, 6, .inl cn))]
abbrev lT (cI cJ cD cC : ClassId) (h0 h1 h2 h3 h4 o2 o3 o4 o6 : Nat) (ad wd rd : Nat → Nat) (n : Nat) (K : Nat → Int32) (Ln : Nat → Nat) (Wh : Nat → Int64) (Re : Nat → UInt64) (cd : Int32) (ct : Nat → Int32) (ow : Nat → UInt64) (lf kf cn : Nat → Int32) : va_W := tc_T cI cJ cD cC h0 h1 h2 h3 h4 ad wd rd (lY cI cD o2 o3 o4 o6 ow lf kf cn) n K Ln Wh Re cd ct
def LCtx (p : Program) (D : va_G) (A : Nat → Prop) (cI cJ cD cC : ClassId) (s : State) (m : MethodId) (c : Code) (b L : Nat) (xs : Nat → Int32) (adK adV : Nat → Nat) : Prop :=
  p.tables.exec = Jvm.exec ∧ c.code = cL_law ∧ c.maxLocals = 18 ∧ s.vm.findClass RL = some m.cls ∧ (∀ w ∈ wsL_law, w.before #[Value.ref b] s = true) ∧ va_X b L xs s s.heap ∧ b < s.heap.size ∧ ¬ A b ∧ (∀ q, s.heap.size ≤ q → A q) ∧ L ≤ 260 ∧ va_K D vwCl (tcTY cI cJ cD cC) s ∧ tc_E A s ∧ tsE adK adV A s s.heap ∧ tsR adK s
theorem ix5 (j q : Nat) : (5 : Int32) * nI j + nI q = nI (5 * j + q) := by
  show nI 5 * nI j + nI q = _
  rw [pk_mul, nI_add]
theorem kCol_le {k : Int32} (h : kCol k ≤ 0) : kCol k = 0 := by
  rcases kCol_or k with e | e | e
  · exact e
  · rw [e] at h; exact absurd h (by decide)
  · rw [e] at h; exact absurd h (by decide)
theorem kHas_n {k : Int32} (h : kHas k = true) : ∃ j, j < 8 ∧ k = nI (j + 1) := by
  rcases kHas8 h with e | e | e | e | e | e | e | e
  · exact ⟨0, by decide, e⟩
  · exact ⟨1, by decide, e⟩
  · exact ⟨2, by decide, e⟩
  · exact ⟨3, by decide, e⟩
  · exact ⟨4, by decide, e⟩
  · exact ⟨5, by decide, e⟩
  · exact ⟨6, by decide, e⟩
  · exact ⟨7, by decide, e⟩
theorem kHas_ofn : ∀ j, j < 8 → kHas (nI (j + 1)) = true := by decide +kernel
section LCS
variable {K : Nat → Int32} {Ln : Nat → Nat} {j j2 : Nat} {i kd : Int32}
theorem cdR_c (h : ¬ kCol (K j) = 0) : kCol (K j) = cdR K Ln j i kd (K j) := by
  unfold cdR kCell; rw [if_neg h]
theorem cdR_3a (h : kCol (K j) = 0) (h1 : i < 0) : 3 = cdR K Ln j i kd (K j) := by
  unfold cdR kCell; rw [if_pos h, if_pos h1]
theorem cdR_3b (h : kCol (K j) = 0) (hk : kHas (K j) = true) (h1 : ¬ i < 0) (h2 : ¬ i < nI (Ln j)) : 3 = cdR K Ln j i kd (K j) := by
  unfold cdR kCell; rw [if_pos h, if_neg h1, tc_cl_has hk, if_pos (Int32.not_lt.mp h2)]
theorem cdR_w (h : kCol (K j) = 0) (hk : kHas (K j) = true) (h1 : ¬ i < 0) (h2 : i < nI (Ln j)) : cdR K Ln j i kd (K j) = if kWid kd (K j) = true then 0 else 4 := by
  unfold cdR kCell; rw [if_pos h, if_neg h1, tc_cl_has hk, if_neg (fun q => Int32.not_lt.mpr q h2)]
theorem cdR_w0 (h : kCol (K j) = 0) (hk : kHas (K j) = true) (h1 : ¬ i < 0) (h2 : i < nI (Ln j)) (h3 : ¬ tb (kWid kd (K j)) = 0) : 0 = cdR K Ln j i kd (K j) := by
  rw [cdR_w h hk h1 h2, if_pos ((tb_1 _).mp h3)]
theorem cdR_w4 (h : kCol (K j) = 0) (hk : kHas (K j) = true) (h1 : ¬ i < 0) (h2 : i < nI (Ln j)) (h3 : tb (kWid kd (K j)) = 0) : 4 = cdR K Ln j i kd (K j) := by
  rw [cdR_w h hk h1 h2, if_neg (by rw [(tb_0 _).mp h3]; decide)]
theorem cdR_in (a b : Int32) : vp_in (cdR K Ln j i a b) 6 := kCell_in _ _ _ _ _
theorem wdC_c (h : ¬ kCol (K j) = 0) : kCol (K j) = wdC K j kd := by
  unfold wdC; rw [if_neg h]
theorem wdC_w0 (h : kCol (K j) = 0) (h3 : ¬ tb (kWid (K j) kd) = 0) : 0 = wdC K j kd := by
  unfold wdC; rw [if_pos h, if_pos ((tb_1 _).mp h3)]
theorem wdC_w4 (h : kCol (K j) = 0) (h3 : tb (kWid (K j) kd) = 0) : 4 = wdC K j kd := by
  unfold wdC; rw [if_pos h, if_neg (by rw [(tb_0 _).mp h3]; decide)]
theorem lPart {a m N : Nat} (ha : a < 7) (hm : m < 4) (hN : N ≤ 5) : kPart (nI a - 1) (nI m) (nI N) = (!decide (nI a - 1 < 0) && !decide (nI N < nI a - 1 + nI m)) := by
  rcases (show a = 0 ∨ a = 1 ∨ a = 2 ∨ a = 3 ∨ a = 4 ∨ a = 5 ∨ a = 6 by omega) with rfl | rfl | rfl | rfl | rfl | rfl | rfl <;>
  rcases (show m = 0 ∨ m = 1 ∨ m = 2 ∨ m = 3 by omega) with rfl | rfl | rfl | rfl <;>
  rcases (show N = 0 ∨ N = 1 ∨ N = 2 ∨ N = 3 ∨ N = 4 ∨ N = 5 by omega) with rfl | rfl | rfl | rfl | rfl | rfl <;> decide +kernel
theorem lPart0 {m N : Nat} (hm : m < 4) (hN : N ≤ 5) : kPart 0 (nI m) (nI N) = (!decide (nI N < nI m)) := by
  rcases (show m = 0 ∨ m = 1 ∨ m = 2 ∨ m = 3 by omega) with rfl | rfl | rfl | rfl <;>
  rcases (show N = 0 ∨ N = 1 ∨ N = 2 ∨ N = 3 ∨ N = 4 ∨ N = 5 by omega) with rfl | rfl | rfl | rfl | rfl | rfl <;> decide +kernel
theorem cpC_1a {fi ti mm : Int32} (h : K j = 0) : 1 = cpC K Ln j j2 fi ti mm := by
  have e : kKinds (K j) (K j2) = 1 := by unfold kKinds; rw [if_pos h]
  unfold cpC; rw [if_neg (by rw [e]; decide), e]
theorem cpC_1b {fi ti mm : Int32} (h : ¬ K j = 0) (h2 : K j2 = 0) : 1 = cpC K Ln j j2 fi ti mm := by
  have e : kKinds (K j) (K j2) = 1 := by unfold kKinds; rw [if_neg h, if_pos h2]
  unfold cpC; rw [if_neg (by rw [e]; decide), e]
theorem cpC_5a {fi ti mm : Int32} (h : ¬ K j = 0) (h2 : ¬ K j2 = 0) (h3 : ¬ K j = K j2) : 5 = cpC K Ln j j2 fi ti mm := by
  have e : kKinds (K j) (K j2) = 5 := by unfold kKinds; rw [if_neg h, if_neg h2, if_neg h3]
  unfold cpC; rw [if_neg (by rw [e]; decide), e]
theorem cpC_5b {fi ti mm : Int32} (h : ¬ K j = 0) (h2 : ¬ K j2 = 0) (h3 : K j = K j2) (h4 : K j = 9) : 5 = cpC K Ln j j2 fi ti mm := by
  have e : kKinds (K j) (K j2) = 5 := by unfold kKinds; rw [if_neg h, if_neg h2, if_pos h3, if_pos h4]
  unfold cpC; rw [if_neg (by rw [e]; decide), e]
theorem cpC_g {fi ti mm : Int32} (hr : kIs (K j) = true) (h : ¬ K j = 0) (h2 : ¬ K j2 = 0) (h3 : K j = K j2) (h4 : ¬ K j = 9) : cpC K Ln j j2 fi ti mm = if kPart fi mm (nI (Ln j)) = true then (if kPart ti mm (nI (Ln j2)) = true then 0 else 3) else 3 := by
  have e : kKinds (K j) (K j2) = 0 := by unfold kKinds; rw [if_neg h, if_neg h2, if_pos h3, if_neg h4]
  have hh := (kKinds_0 e hr).2
  have hh2 := hh
  rw [h3] at hh2
  unfold cpC; rw [if_pos e, tc_cl_has hh, tc_cl_has hh2]
theorem cpC_3a {a m : Nat} (ha : a < 7) (hm : m < 4) (hN : Ln j ≤ 5) (hr : kIs (K j) = true) (h : ¬ K j = 0) (h2 : ¬ K j2 = 0) (h3 : K j = K j2) (h4 : ¬ K j = 9) (h5 : nI a - 1 < 0) : 3 = cpC K Ln j j2 (nI a - 1) 0 (nI m) := by
  rw [cpC_g hr h h2 h3 h4, if_neg]
  rw [lPart ha hm hN, decide_eq_true h5]
  simp
theorem cpC_3b {a m : Nat} (ha : a < 7) (hm : m < 4) (hN : Ln j ≤ 5) (hr : kIs (K j) = true) (h : ¬ K j = 0) (h2 : ¬ K j2 = 0) (h3 : K j = K j2) (h4 : ¬ K j = 9) (h5 : nI (Ln j) < nI a - 1 + nI m) : 3 = cpC K Ln j j2 (nI a - 1) 0 (nI m) := by
  rw [cpC_g hr h h2 h3 h4, if_neg]
  rw [lPart ha hm hN, decide_eq_true h5]
  simp
theorem cpC_3c {a m : Nat} (hm : m < 4) (hN : Ln j2 ≤ 5) (hr : kIs (K j) = true) (h : ¬ K j = 0) (h2 : ¬ K j2 = 0) (h3 : K j = K j2) (h4 : ¬ K j = 9) (h5 : ¬ nI m ≤ nI (Ln j2)) : 3 = cpC K Ln j j2 (nI a - 1) 0 (nI m) := by
  have e : kPart 0 (nI m) (nI (Ln j2)) = false := by
    rw [lPart0 hm hN, decide_eq_true (Int32.not_le.mp h5)]
    rfl
  rw [cpC_g hr h h2 h3 h4, e]
  split <;> rfl
theorem cpC_00 {a m : Nat} (ha : a < 7) (hm : m < 4) (hN : Ln j ≤ 5) (hN2 : Ln j2 ≤ 5) (hr : kIs (K j) = true) (h : ¬ K j = 0) (h2 : ¬ K j2 = 0) (h3 : K j = K j2) (h4 : ¬ K j = 9) (h5 : ¬ nI a - 1 < 0) (h6 : ¬ nI (Ln j) < nI a - 1 + nI m) (h7 : nI m ≤ nI (Ln j2)) : 0 = cpC K Ln j j2 (nI a - 1) 0 (nI m) := by
  have e : kPart 0 (nI m) (nI (Ln j2)) = true := by
    rw [lPart0 hm hN2, decide_eq_false (Int32.not_lt.mpr h7)]
    rfl
  rw [cpC_g hr h h2 h3 h4, if_pos, if_pos e]
  rw [lPart ha hm hN, decide_eq_false h5, decide_eq_false h6]
  rfl
theorem cpC_a {a m : Nat} (ha : a < 7) (hm : m < 4) (hr : kIs (K j) = true) (hN : Ln j ≤ 5) (hN2 : Ln j2 ≤ 5) (h : cpC K Ln j j2 (nI a - 1) 0 (nI m) = 0) : ∃ a', a = a' + 1 ∧ a' + m ≤ Ln j ∧ m ≤ Ln j2 := by
  obtain ⟨-, -, g1, -, g2, g3⟩ := cpC_0 hr (by omega) (by omega) h
  have g4 := (kPart_spec g1 (by omega)).1
  rcases Nat.eq_zero_or_pos a with e | e
  · subst e
    exact absurd (show nI 0 - 1 < 0 by decide) g4
  · have e2 : nI a - 1 = nI (a - 1) := pk_sub (b := 1) e
    rw [e2, nI_clamp (by omega), nI_clamp (by omega)] at g2
    have e0 : (0 : Int32).toNatClampNeg = 0 := rfl
    rw [e0, nI_clamp (by omega)] at g3
    exact ⟨a - 1, by omega, g2, by omega⟩
end LCS
theorem va_cpy_0 {α : Type} (f : Nat → α) (a b : Nat) : va_cpy f f a b 0 = f := by
  funext x
  unfold va_cpy
  rw [if_neg (by omega)]
theorem va_cpy_s {α : Type} (f : Nat → α) (a b k : Nat) : vf_upd (va_cpy f f a b k) (b + k) (f (a + k)) = va_cpy f f a b (k + 1) := by
  funext x
  unfold vf_upd va_cpy
  by_cases e : x = b + k
  · subst e
    rw [if_pos rfl, if_pos (by omega), show a + (b + k - b) = a + k from by omega]
  · rw [if_neg e]
    by_cases e2 : b ≤ x ∧ x < b + k
    · rw [if_pos e2, if_pos (show b ≤ x ∧ x < b + (k + 1) by omega)]
    · rw [if_neg e2, if_neg (show ¬ (b ≤ x ∧ x < b + (k + 1)) by omega)]
theorem lXgo {b L : Nat} {xs : Nat → Int32} {A : Nat → Prop} {s : State} {H : Heap} {locs : List Loc} {av : List Value} (hX : va_X b L xs s s.heap) (hbl : b < s.heap.size) (hbA : ¬ A b) (hS : va_S A s.heap H locs) : ∀ U : State, U.heap = H → s.WarmedH U.vm → va_Pc av (fun U => va_X b L xs U U.heap) av.toArray U := by
  intro U hU hW
  subst hU
  exact ⟨rfl, va_X.moved hW.alike (hX.kept (hS.2.1 b hbl hbA))⟩
theorem lXblind {b L : Nat} {xs : Nat → Int32} {av : List Value} : FrameBlind (va_Pc av (fun U => va_X b L xs U U.heap)) := fun _ U _ _ q => ⟨q.1, va_X.moved (u := U) (Vm.Alike.refl U.vm) q.2⟩
theorem PI_wf' {n : Nat} {K : Nat → Int32} {Ln : Nat → Nat} {Wh : Nat → Int64} {Re : Nat → UInt64} {ow : Nat → UInt64} {lf kf : Nat → Int32} {kd : Int32} (h7 : kd = 7) (h : PI n K Ln Wh Re ow lf kf) {j a : Nat} (hj : j < n) {x : Int32} (hc : cdR K Ln j (nI a) kd (K j) = 0) : PI n K Ln Wh (wrX K Ln Re j (nI a) kd (FP.f2d (FP.i2f x))) (vf_upd ow (5 * j + (nI a).toNatClampNeg) (lVal (K j) x kd)) lf kf := by
  subst h7
  exact PI_wf h hj hc
theorem PI_wd' {n : Nat} {K : Nat → Int32} {Ln : Nat → Nat} {Wh : Nat → Int64} {Re : Nat → UInt64} {ow : Nat → UInt64} {lf kf : Nat → Int32} {kd : Int32} (h8 : kd = 8) (h : PI n K Ln Wh Re ow lf kf) {j a : Nat} (hj : j < n) {x : Int32} (hc : cdR K Ln j (nI a) kd (K j) = 0) : PI n K Ln Wh (wrX K Ln Re j (nI a) kd (FP.i2d x)) (vf_upd ow (5 * j + (nI a).toNatClampNeg) (lVal (K j) x kd)) lf kf := by
  subst h8
  exact PI_wd h hj hc
/-- the law's fourth array comes behind the columns, and is put ahead of them -/
theorem tc_perm {D : va_G} {A : Nat → Prop} {X Y F : va_W} {z : Nat × va_E} {H : Heap} (hP : va_P D vwCl ((X ++ (Y ++ F)) ++ [z]) H) (hD : va_D A ((X ++ (Y ++ F)) ++ [z])) : va_P D vwCl (X ++ ((Y ++ [z]) ++ F)) H ∧ va_D A (X ++ ((Y ++ [z]) ++ F)) := by
  have e1 : (X ++ (Y ++ F)) ++ [z] = ((X ++ Y) ++ F) ++ [z] := by rw [List.append_assoc X Y F]
  have e2 : X ++ ((Y ++ [z]) ++ F) = ((X ++ Y) ++ [z]) ++ F := by simp [List.append_assoc]
  rw [e1] at hP hD
  rw [e2]
  exact ⟨hP.swap, hD.swap⟩
