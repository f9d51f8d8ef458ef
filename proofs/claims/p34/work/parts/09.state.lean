/-! THE STATE: what the machine's surroundings hold, the worlds of the class and of the model -/
def tcIO : String := "java/lang/IndexOutOfBoundsException"
def tcIA : String := "java/lang/IllegalArgumentException"
def tcIS : String := "java/lang/IllegalStateException"
/-- what every method's surroundings hold: the nest's links (the texts that throws take, and the casts of their catching, aren't wanted here: no call of the law throws) -/
def tc_E (A : Nat → Prop) (U : State) : Prop :=
  (True ∧ True ∧ True) ∧ (A = A) ∧ True ∧
  (va_Nw (.methodLinkNest RX0 9 yX2_holdsCells RX2) U ∧ va_Nw (.methodLinkNest RX0 13 yX2_isLength RX2) U ∧ va_Nw (.methodLinkNest RX0 25 yX2_isFloating RX2) U ∧ True ∧ va_Nw (.methodLinkNest RX0 52 yX2_isPart RX2) U ∧ va_Nw (.methodLinkNest RX0 69 yX2_sumOf RX2) U ∧ True)
theorem tc_warmD {x : MethodName} {s U : State} (hW : s.WarmedH U.vm) (hZ : va_Nw (.declares x) s) : va_Nw (.declares x) U := va_tabs rfl (rfl : (s.setVm U.vm).vm = U.vm) (by rw [Cond.declares_setVm hW.alike]; exact hZ)
theorem tc_E.go {A : Nat → Prop} {s U : State} {H : Heap} {locs : List Loc} (h : tc_E A s) (_hS : va_S A s.heap H locs) (_hU : U.heap = H) (hW : s.WarmedH U.vm) : tc_E A U := by
  obtain ⟨-, -, -, d1, d2, d3, -, d5, d6, -⟩ := h
  exact ⟨⟨trivial, trivial, trivial⟩, rfl, trivial, va_Nw.warmM hW d1, va_Nw.warmM hW d2, va_Nw.warmM hW d3, trivial, va_Nw.warmM hW d5, va_Nw.warmM hW d6, trivial⟩
theorem tc_E.blind {A : Nat → Prop} {U : State} (h : tc_E A U) (g : JFrame) (mk : MethodId) (a : Array Value) : tc_E A (U.calling g mk a) := h.go (va_S.rf (A := A) (H0 := U.heap)) rfl (State.WarmedH.refl U)
theorem tc_E.drawn {A : Nat → Prop} {s : State} (h : tc_E A s) (d : Drawn) : tc_E A (s.setDrawn d) := h.go (va_S.rf (A := A) (H0 := s.heap)) rfl (State.WarmedH.refl s)
abbrev tcTY (cI cJ cD cC : ClassId) : List (ClassId × FieldType) := [(cI, .int), (cJ, .long), (cD, .double), (cC, .object RX0)]
/-- a method's start: the world ws, its classes, the surroundings -/
def tcP (D : va_G) (A : Nat → Prop) (tys : List (ClassId × FieldType)) (sz : Nat) (av : List Value) (ws : va_W) : Array Value → State → Prop := va_Pc av (fun U => U.heap.size = sz ∧ va_P D vwCl ws U.heap ∧ va_K D vwCl tys U ∧ va_D A ws ∧ tc_E A U)
def tcB (D : va_G) (A : Nat → Prop) (ws : va_W) (t : State) : Prop := va_P D vwCl ws t.heap ∧ va_D A ws
theorem tcP.blind {D : va_G} {A : Nat → Prop} {tys : List (ClassId × FieldType)} {sz : Nat} {av : List Value} {ws : va_W} : FrameBlind (tcP D A tys sz av ws) := fun a U g mk q => ⟨q.1, q.2.1, q.2.2.1, va_K.moved (u := U) (U := U.calling g mk a) (Vm.Alike.refl U.vm) q.2.2.2.1, q.2.2.2.2.1, q.2.2.2.2.2.blind g mk a⟩
theorem tcP.go {D : va_G} {A : Nat → Prop} {tys : List (ClassId × FieldType)} {av : List Value} {ws : va_W} {s : State} {H : Heap} {locs : List Loc} (hK : va_K D vwCl tys s) (hP : va_P D vwCl ws H) (hD : va_D A ws) (hE : tc_E A s) (hS : va_S A s.heap H locs) : ∀ U : State, U.heap = H → s.WarmedH U.vm → tcP D A tys H.size av ws av.toArray U :=
  fun U hU hW => ⟨rfl, by rw [hU], by rw [hU]; exact hP, va_K.moved hW.alike hK, hD, hE.go hS hU hW⟩
/-- rows of cells by number, three to a number -/
def tc_fl (col : Nat → va_W) : Nat → va_W
  | 0 => []
  | n + 1 => tc_fl col n ++ col n
theorem tc_fl_len {col : Nat → va_W} (h3 : ∀ j, (col j).length = 3) : ∀ n, (tc_fl col n).length = 3 * n
  | 0 => rfl
  | n + 1 => by
    show (tc_fl col n ++ col n).length = _
    rw [List.length_append, tc_fl_len h3 n, h3]
    omega
theorem tc_fl_get {col : Nat → va_W} (h3 : ∀ j, (col j).length = 3) {i : Nat} (hi : i < 3) : ∀ (n : Nat) {j : Nat}, j < n → (tc_fl col n)[3 * j + i]? = (col j)[i]?
  | 0, j, h => absurd h (Nat.not_lt_zero _)
  | n + 1, j, h => by
    show (tc_fl col n ++ col n)[3 * j + i]? = _
    have hl := tc_fl_len h3 n
    rcases Nat.lt_or_ge j n with q | q
    · rw [List.getElem?_append_left (by omega)]
      exact tc_fl_get h3 hi n q
    · have : j = n := by omega
      subst this
      rw [List.getElem?_append_right (by omega), hl]
      congr 1
      omega
theorem tc_fl_congr {c1 c2 : Nat → va_W} : ∀ (n : Nat), (∀ j, j < n → c1 j = c2 j) → tc_fl c1 n = tc_fl c2 n
  | 0, _ => rfl
  | n + 1, h => by
    show tc_fl c1 n ++ c1 n = tc_fl c2 n ++ c2 n
    rw [tc_fl_congr n (fun j q => h j (by omega)), h n (Nat.lt_succ_self n)]
theorem tc_fl_set {c1 c2 : Nat → va_W} (h3 : ∀ j, (c1 j).length = 3) {i : Nat} (hi : i < 3) {q : Nat × va_E} : ∀ (n : Nat) {j : Nat}, j < n → (∀ k, k < n → k ≠ j → c2 k = c1 k) → c2 j = (c1 j).set i q → (tc_fl c1 n).set (3 * j + i) q = tc_fl c2 n
  | 0, j, h, _, _ => absurd h (Nat.not_lt_zero _)
  | n + 1, j, h, hk, hj => by
    show (tc_fl c1 n ++ c1 n).set (3 * j + i) q = tc_fl c2 n ++ c2 n
    have hl := tc_fl_len h3 n
    rcases Nat.lt_or_ge j n with z | z
    · rw [List.set_append_left _ _ (by omega), tc_fl_set h3 hi n z (fun k a b => hk k (by omega) b) hj, hk n (Nat.lt_succ_self n) (by omega)]
    · have : j = n := by omega
      subst this
      rw [List.set_append_right _ _ (by omega), hl, show 3 * j + i - 3 * j = i from by omega, hj, tc_fl_congr j (fun k a => hk k (by omega) (by omega))]
/-- the length that the class's column tells; how many whole and real cells it has -/
def tc_cl (k : Int32) (n : Nat) : Int32 := if kHas k = true then nI n else -1
def tc_wl (k : Int32) (n : Nat) : Nat := if kFl k = true then 0 else n
def tc_rl (k : Int32) (n : Nat) : Nat := if kFl k = true then n else 0
def tc_sl {α : Type} (m : Nat) (f : Nat → α) (z : α) : Nat → α := fun i => if i < m then f i else z
def tc_col (cJ cD : ClassId) (ad wd rd : Nat → Nat) (K : Nat → Int32) (Ln : Nat → Nat) (W : Nat → Int64) (R : Nat → UInt64) (j : Nat) : va_W :=
  [(ad j, .inr (0, [.int (K j), .int (tc_cl (K j) (Ln j)), .ref (wd j), .ref (rd j)])),
   (wd j, .inl (cJ, tc_wl (K j) (Ln j), .inr (.inl (tc_sl (tc_wl (K j) (Ln j)) (fun i => W (40 * j + i)) 0)))),
   (rd j, .inl (cD, tc_rl (K j) (Ln j), .inr (.inr (.inr (.inl (tc_sl (tc_rl (K j) (Ln j)) (fun i => R (40 * j + i)) 0))))))]
theorem tc_col_len (cJ cD : ClassId) (ad wd rd : Nat → Nat) (K : Nat → Int32) (Ln : Nat → Nat) (W : Nat → Int64) (R : Nat → UInt64) (j : Nat) : (tc_col cJ cD ad wd rd K Ln W R j).length = 3 := rfl
/-- the class's own five cells -/
def tc_hd (cI cD cC : ClassId) (h0 h1 h2 h3 h4 : Nat) (ad : Nat → Nat) (n : Nat) (cd : Int32) (ct : Nat → Int32) : va_W :=
  [(h0, .inr (2, [.ref h1, .ref h2, .ref h3, .int (nI n), .int cd])),
   (h1, .inl (cC, 60, .inr (.inr (.inr (.inr (fun j => if j < n then some (ad j) else none)))))),
   (h2, .inl (cI, 6, .inl ct)),
   (h3, .inr (1, [.ref h4])),
   (h4, .inl (cD, 10, .inr (.inr (.inr (.inl (fun j => tf_N (1023 + 2 ^ j) 0))))))]
def tc_T (cI cJ cD cC : ClassId) (h0 h1 h2 h3 h4 : Nat) (ad wd rd : Nat → Nat) (Y : va_W) (n : Nat) (K : Nat → Int32) (Ln : Nat → Nat) (W : Nat → Int64) (R : Nat → UInt64) (cd : Int32) (ct : Nat → Int32) : va_W :=
  tc_hd cI cD cC h0 h1 h2 h3 h4 ad n cd ct ++ (Y ++ tc_fl (tc_col cJ cD ad wd rd K Ln W R) n)
/-- the model's six cells -/
def tc_M (cI cJ cD : ClassId) (m0 m1 m2 m3 m4 m5 : Nat) (th : Int32) (n : Nat) (K : Nat → Int32) (Ln : Nat → Nat) (W : Nat → Int64) (R : Nat → UInt64) (cd : Int32) (ct : Nat → Int32) : va_W :=
  [(m0, .inr (3, [.int th, .int (nI n), .ref m1, .ref m2, .ref m3, .ref m4, .int cd, .ref m5])),
   (m1, .inl (cI, 60, .inl K)),
   (m2, .inl (cI, 60, .inl (fun j => nI (Ln j)))),
   (m3, .inl (cJ, 2400, .inr (.inl W))),
   (m4, .inl (cD, 2400, .inr (.inr (.inr (.inl R))))),
   (m5, .inl (cI, 6, .inl ct))]
section TCW
variable {cI cJ cD cC : ClassId} {h0 h1 h2 h3 h4 : Nat} {ad wd rd : Nat → Nat} {Y : va_W} {n : Nat} {K : Nat → Int32} {Ln : Nat → Nat} {W W' : Nat → Int64} {R R' : Nat → UInt64} {cd : Int32} {ct : Nat → Int32}
theorem tc_T_get {j i : Nat} (hj : j < n) (hi : i < 3) : (tc_T cI cJ cD cC h0 h1 h2 h3 h4 ad wd rd Y n K Ln W R cd ct)[5 + (Y.length + (3 * j + i))]? = (tc_col cJ cD ad wd rd K Ln W R j)[i]? := by
  unfold tc_T
  rw [List.getElem?_append_right (by show 5 ≤ _; omega)]
  show (Y ++ tc_fl (tc_col cJ cD ad wd rd K Ln W R) n)[5 + (Y.length + (3 * j + i)) - 5]? = _
  rw [show 5 + (Y.length + (3 * j + i)) - 5 = Y.length + (3 * j + i) from by omega, List.getElem?_append_right (by omega), show Y.length + (3 * j + i) - Y.length = 3 * j + i from by omega]
  exact tc_fl_get (tc_col_len cJ cD ad wd rd K Ln W R) hi n hj
theorem tc_T0 {j : Nat} (hj : j < n) : (tc_T cI cJ cD cC h0 h1 h2 h3 h4 ad wd rd Y n K Ln W R cd ct)[5 + (Y.length + (3 * j + 0))]? = some (ad j, .inr (0, [.int (K j), .int (tc_cl (K j) (Ln j)), .ref (wd j), .ref (rd j)])) := (tc_T_get hj (by decide)).trans rfl
theorem tc_T1 {j : Nat} (hj : j < n) : (tc_T cI cJ cD cC h0 h1 h2 h3 h4 ad wd rd Y n K Ln W R cd ct)[5 + (Y.length + (3 * j + 1))]? = some (wd j, .inl (cJ, tc_wl (K j) (Ln j), .inr (.inl (tc_sl (tc_wl (K j) (Ln j)) (fun i => W (40 * j + i)) 0)))) := (tc_T_get hj (by decide)).trans rfl
theorem tc_T2 {j : Nat} (hj : j < n) : (tc_T cI cJ cD cC h0 h1 h2 h3 h4 ad wd rd Y n K Ln W R cd ct)[5 + (Y.length + (3 * j + 2))]? = some (rd j, .inl (cD, tc_rl (K j) (Ln j), .inr (.inr (.inr (.inl (tc_sl (tc_rl (K j) (Ln j)) (fun i => R (40 * j + i)) 0)))))) := (tc_T_get hj (by decide)).trans rfl
theorem tc_T_set {j i : Nat} (hj : j < n) (hi : i < 3) {q : Nat × va_E} (hk : ∀ k, k < n → k ≠ j → tc_col cJ cD ad wd rd K Ln W' R' k = tc_col cJ cD ad wd rd K Ln W R k) (hq : tc_col cJ cD ad wd rd K Ln W' R' j = (tc_col cJ cD ad wd rd K Ln W R j).set i q) :
    (tc_T cI cJ cD cC h0 h1 h2 h3 h4 ad wd rd Y n K Ln W R cd ct).set (5 + (Y.length + (3 * j + i))) q = tc_T cI cJ cD cC h0 h1 h2 h3 h4 ad wd rd Y n K Ln W' R' cd ct := by
  unfold tc_T
  rw [List.set_append_right _ _ (by show 5 ≤ _; omega)]
  show _ ++ (Y ++ tc_fl (tc_col cJ cD ad wd rd K Ln W R) n).set (5 + (Y.length + (3 * j + i)) - 5) q = _
  rw [show 5 + (Y.length + (3 * j + i)) - 5 = Y.length + (3 * j + i) from by omega, List.set_append_right _ _ (by omega), show Y.length + (3 * j + i) - Y.length = 3 * j + i from by omega,
    tc_fl_set (tc_col_len cJ cD ad wd rd K Ln W R) hi n hj hk hq]
end TCW
theorem tc_sl_congr {α : Type} {m : Nat} {f g : Nat → α} {z : α} (h : ∀ i, i < m → f i = g i) : tc_sl m f z = tc_sl m g z := by
  funext i
  unfold tc_sl
  by_cases q : i < m
  · rw [if_pos q, if_pos q, h i q]
  · rw [if_neg q, if_neg q]
/-- the codes -/
def kCol (k : Int32) : Int32 := if k = 0 then 1 else if k = 9 then 2 else 0
def kCell (k len i a b : Int32) : Int32 := if kCol k = 0 then (if i < 0 then 3 else if len ≤ i then 3 else if kWid a b = true then 0 else 4) else kCol k
def noteC (ct : Nat → Int32) (k : Int32) : Nat → Int32 := upd ct k.toNatClampNeg (ct k.toNatClampNeg + 1)
theorem kCol_or (k : Int32) : kCol k = 0 ∨ kCol k = 1 ∨ kCol k = 2 := by
  unfold kCol
  by_cases h : k = 0
  · rw [if_pos h]; exact Or.inr (Or.inl rfl)
  · rw [if_neg h]
    by_cases h : k = 9
    · rw [if_pos h]; exact Or.inr (Or.inr rfl)
    · rw [if_neg h]; exact Or.inl rfl
theorem kCol_in (k : Int32) : vp_in (kCol k) 6 := by
  rcases kCol_or k with h | h | h <;> rw [h] <;> (unfold vp_in; decide)
theorem kCell_in (k len i a b : Int32) : vp_in (kCell k len i a b) 6 := by
  unfold kCell
  by_cases h : kCol k = 0
  · rw [if_pos h]
    by_cases h1 : i < 0
    · rw [if_pos h1]; unfold vp_in; decide
    · rw [if_neg h1]
      by_cases h2 : len ≤ i
      · rw [if_pos h2]; unfold vp_in; decide
      · rw [if_neg h2]
        by_cases h3 : kWid a b = true
        · rw [if_pos h3]; unfold vp_in; decide
        · rw [if_neg h3]; unfold vp_in; decide
  · rw [if_neg h]; exact kCol_in k
theorem vp_in_lo {x : Int32} {N : Nat} (h : vp_in x N) : ¬ x < 0 := fun q => h (Or.inl q)
theorem vp_in_hi {x : Int32} {N : Nat} (h : vp_in x N) (hN : N < 2 ^ 31) : ¬ nI N ≤ x := by
  obtain ⟨j, hj, e⟩ := vp_in_of h hN
  rw [e]
  exact nI_ge hj hN
theorem vp_in_mk {x : Int32} {N : Nat} (h1 : ¬ x < 0) (h2 : ¬ nI N ≤ x) (hN : N < 2 ^ 31) : vp_in x N := by
  rcases pk_ix x hN with q | q | ⟨j, hj, e⟩
  · exact absurd q h1
  · exact absurd q h2
  · rw [e]; exact vp_in_nI hj hN
section TCL
variable {p : Program} {l : Launch} {e : Env} {R : Room} {s : State} {m : MethodId} {args : Array Value} {below : List Frame} {meth : Method} {c : Code} {cells slots : Nat} {Q : State → Prop} {pc : Nat} {st : List Value}
/-- a loop whose turns are counted down -/
theorem tc_loop (inv : Nat → Heap → List Loc → Array Slot → Prop)
    (hs : ∀ (k : Nat) (H : Heap) (locs : List Loc) (ls : Array Slot), inv (k + 1) H locs ls → (∀ (H : Heap) (locs : List Loc) (ls : Array Slot), inv k H locs ls → W p l e R s m args below meth c H locs cells slots Q (F0 m pc ls st)) → W p l e R s m args below meth c H locs cells slots Q (F0 m pc ls st))
    (h0 : ∀ (H : Heap) (locs : List Loc) (ls : Array Slot), inv 0 H locs ls → W p l e R s m args below meth c H locs cells slots Q (F0 m pc ls st)) :
    ∀ (n : Nat) {H : Heap} {locs : List Loc} {ls : Array Slot}, inv n H locs ls → W p l e R s m args below meth c H locs cells slots Q (F0 m pc ls st)
  | 0, H, locs, ls, h => h0 H locs ls h
  | n + 1, H, locs, ls, h => hs n H locs ls h (fun H locs ls h => tc_loop inv hs h0 n h)
end TCL
theorem tc_set_same {α : Type} {ws : List α} {i : Nat} {x : α} (h : ws[i]? = some x) : ws.set i x = ws := by
  apply List.ext_getElem?
  intro j
  by_cases q : j = i
  · subst q
    have hl := (List.getElem?_eq_some_iff.mp h).1
    rw [List.getElem?_set_self hl, h]
  · rw [List.getElem?_set_ne (Ne.symm q)]
theorem tc_set_self {α : Type} {ws : List α} {i : Nat} {x y : α} (h : ws[i]? = some x) : (ws.set i y)[i]? = some y := List.getElem?_set_self (List.getElem?_eq_some_iff.mp h).1
theorem tc_set_ne {α : Type} {ws : List α} {i j : Nat} {x y : α} (h : ws[j]? = some x) (hn : i ≠ j) : (ws.set i y)[j]? = some x := by
  rw [List.getElem?_set_ne hn]; exact h
/-- two array classes of one component type are one -/
theorem tc_uniq {D : va_G} {cl : List vw_C} {tys : List (ClassId × FieldType)} {U : State} (hK : va_K D cl tys U) {i j : Nat} {a b : ClassId} {t : FieldType} (h1 : tys[i]? = some (a, t)) (h2 : tys[j]? = some (b, t)) : a = b := by
  have g1 := (hK.2 i _ h1).2
  have g2 := (hK.2 j _ h2).2
  cases t <;> first
    | exact Option.some.inj (g1.symm.trans g2)
    | (obtain ⟨_, _, _, _, _, w1⟩ := g1; obtain ⟨_, _, _, _, _, w2⟩ := g2; exact Option.some.inj (w1.symm.trans w2))
theorem tc_app_l {α : Type} {ws v : List α} {i : Nat} {x : α} (h : ws[i]? = some x) : (ws ++ v)[i]? = some x := by
  rw [List.getElem?_append_left (List.getElem?_eq_some_iff.mp h).1]; exact h
theorem tc_app_set {α : Type} {ws v : List α} {i : Nat} {x y : α} (h : ws[i]? = some x) : (ws ++ v).set i y = ws.set i y ++ v := List.set_append_left _ _ (List.getElem?_eq_some_iff.mp h).1
theorem tc_app_last {α : Type} {ws : List α} {x : α} : (ws ++ [x])[ws.length]? = some x := by simp
theorem tc_app_last_set {α : Type} {ws : List α} {x y : α} : (ws ++ [x]).set ws.length y = ws ++ [y] := by simp
def tc_mix {α : Type} (V g : Nat → α) (i : Nat) : Nat → α := fun q => if q < i then V q else g q
theorem tc_mix_0 {α : Type} (V g : Nat → α) : tc_mix V g 0 = g := by
  funext q; unfold tc_mix; rw [if_neg (Nat.not_lt_zero q)]
theorem tc_mix_s {α : Type} (V g : Nat → α) (i : Nat) : vf_upd (tc_mix V g i) i (V i) = tc_mix V g (i + 1) := by
  funext q
  unfold vf_upd tc_mix
  by_cases h : q = i
  · rw [if_pos h, if_pos (by omega), h]
  · rw [if_neg h]
    by_cases h2 : q < i
    · rw [if_pos h2, if_pos (by omega)]
    · rw [if_neg h2, if_neg (by omega)]
theorem tc_mix_sL (V g : Nat → Int64) (i : Nat) : vp_updL (tc_mix V g i) i (V i) = tc_mix V g (i + 1) := tc_mix_s V g i
/-- a part of a row that lies in it -/
theorem kPart_spec {f m : Int32} {N : Nat} (h : kPart f m (nI N) = true) (hN : N < 2 ^ 31) : ¬ f < 0 ∧ ¬ m < 0 ∧ f.toNatClampNeg + m.toNatClampNeg ≤ N := by
  simp only [kPart, Bool.and_eq_true, Bool.not_eq_true', decide_eq_false_iff_not] at h
  obtain ⟨⟨h1, h2⟩, h3⟩ := h
  refine ⟨h1, h2, ?_⟩
  obtain ⟨a, ha, rfl⟩ := nI_of h1
  obtain ⟨b, hb, rfl⟩ := nI_of h2
  rw [nI_clamp ha, nI_clamp hb]
  rw [Int32.lt_iff_toInt_lt, Int32.toInt_sub, nI_toInt ha, nI_toInt hb, nI_toInt hN] at h3
  have hb2 : ((N : Int) - (b : Int)).bmod (2 ^ 32) = (N : Int) - b := Int.bmod_eq_of_le (by omega) (by omega)
  rw [hb2] at h3
  omega
theorem kPart_mk {a b N : Nat} (ha : a < 2 ^ 31) (hb : b < 2 ^ 31) (h : a + b ≤ N) (hN : N < 2 ^ 31) : kPart (nI a) (nI b) (nI N) = true := by
  simp only [kPart, Bool.and_eq_true, Bool.not_eq_true', decide_eq_false_iff_not]
  refine ⟨⟨nI_pos ha, nI_pos hb⟩, ?_⟩
  rw [pk_sub (by omega)]
  rw [Int32.lt_iff_toInt_lt, nI_toInt ha, nI_toInt (by omega)]
  omega
def tc_tk {α : Type} (sf f : Nat → α) (b1 b2 : Bool) (sp dp n : Int32) : Nat → α := if b1 = true ∧ b2 = true then va_cpy sf f sp.toNatClampNeg dp.toNatClampNeg n.toNatClampNeg else f
theorem tc_tk1 {α : Type} (sf f : Nat → α) {b1 : Bool} (b2 : Bool) (sp dp n : Int32) (h : tb b1 = 0) : tc_tk sf f b1 b2 sp dp n = f := by
  unfold tc_tk; rw [if_neg (fun q => by have := (tb_0 b1).mp h; rw [this] at q; cases q.1)]
theorem tc_tk2 {α : Type} (sf f : Nat → α) (b1 : Bool) {b2 : Bool} (sp dp n : Int32) (h : tb b2 = 0) : tc_tk sf f b1 b2 sp dp n = f := by
  unfold tc_tk; rw [if_neg (fun q => by have := (tb_0 b2).mp h; rw [this] at q; cases q.2)]
theorem tc_tk3 {α : Type} (sf f : Nat → α) {b1 b2 : Bool} (sp dp n : Int32) (h1 : ¬ tb b1 = 0) (h2 : ¬ tb b2 = 0) : tc_tk sf f b1 b2 sp dp n = va_cpy sf f sp.toNatClampNeg dp.toNatClampNeg n.toNatClampNeg := by
  unfold tc_tk; rw [if_pos ⟨(tb_1 b1).mp h1, (tb_1 b2).mp h2⟩]
theorem kLen_nI {N : Nat} (h : N ≤ 40) : kLen (nI N) = true := (kLen_iff _).mpr (by rw [nI_toInt (by omega)]; omega)
theorem kFl_has {k : Int32} (h : kFl k = true) : kHas k = true := by
  simp only [kFl, Bool.or_eq_true, decide_eq_true_eq] at h
  rcases h with h | h <;> (rw [h]; decide)
section TCA
variable {p : Program} {l : Launch} {e : Env} {R : Room} {s : State} {m : MethodId} {args : Array Value} {below : List Frame} {meth : Method} {c : Code} {H : Heap} {locs : List Loc} {cells slots : Nat} {Q : State → Prop}
variable {cc : ByteArray} {pc : Nat} {ls : Array Slot} {rest : List Value} {D : va_G} {cl : List vw_C} {a : Nat} {tys : List (ClassId × FieldType)} {ws : va_W}
theorem tc_iald (hexec : p.tables.exec = Jvm.exec) (hb : c.code = cc) (hK : va_K D cl tys s) (hP : va_P D cl ws H) (q0 t0 : Nat) {cA : ClassId} {n : Nat} {f : Nat → Int32} (ha : ws[q0]? = some (a, .inl (cA, n, .inl f))) (ht : tys[t0]? = some (cA, .int)) {i : Int32} (hin : vp_in i n) {v : Int32} (hv : f i.toNatClampNeg = v) (hdg : decode cc pc = .ok (.iaload, 1))
    (kk : W p l e R s m args below meth c H locs cells slots Q (F0 m (pc + 1) ls (.int v :: rest))) : W p l e R s m args below meth c H locs cells slots Q (F0 m pc ls (.int i :: .ref a :: rest)) := va_iald hexec hb hK hP q0 t0 ha ht hin hdg (by rw [hv]; exact kk)
theorem tc_lald (hexec : p.tables.exec = Jvm.exec) (hb : c.code = cc) (hK : va_K D cl tys s) (hP : va_P D cl ws H) (q0 t0 : Nat) {cA : ClassId} {n : Nat} {f : Nat → Int64} (ha : ws[q0]? = some (a, .inl (cA, n, .inr (.inl f)))) (ht : tys[t0]? = some (cA, .long)) {i : Int32} (hin : vp_in i n) {v : Int64} (hv : f i.toNatClampNeg = v) (hdg : decode cc pc = .ok (.laload, 1))
    (kk : W p l e R s m args below meth c H locs cells slots Q (F0 m (pc + 1) ls (.long v :: rest))) : W p l e R s m args below meth c H locs cells slots Q (F0 m pc ls (.int i :: .ref a :: rest)) := va_lald hexec hb hK hP q0 t0 ha ht hin hdg (by rw [hv]; exact kk)
theorem tc_dald (hexec : p.tables.exec = Jvm.exec) (hb : c.code = cc) (hK : va_K D cl tys s) (hP : va_P D cl ws H) (q0 t0 : Nat) {cA : ClassId} {n : Nat} {f : Nat → UInt64} (ha : ws[q0]? = some (a, .inl (cA, n, .inr (.inr (.inr (.inl f)))))) (ht : tys[t0]? = some (cA, .double)) {i : Int32} (hin : vp_in i n) {v : UInt64} (hv : f i.toNatClampNeg = v) (hdg : decode cc pc = .ok (.daload, 1))
    (kk : W p l e R s m args below meth c H locs cells slots Q (F0 m (pc + 1) ls (.double v :: rest))) : W p l e R s m args below meth c H locs cells slots Q (F0 m pc ls (.int i :: .ref a :: rest)) := va_dald hexec hb hK hP q0 t0 ha ht hin hdg (by rw [hv]; exact kk)
theorem tc_aldS (hexec : p.tables.exec = Jvm.exec) (hb : c.code = cc) (hK : va_K D cl tys s) (hP : va_P D cl ws H) (q0 t0 : Nat) {cA : ClassId} {C : String} {n : Nat} {f : Nat → Option Nat} (ha : ws[q0]? = some (a, .inl (cA, n, .inr (.inr (.inr (.inr f)))))) (ht : tys[t0]? = some (cA, .object C)) {i : Int32} (hin : vp_in i n) {v : Nat} (hv : f i.toNatClampNeg = some v) (hdg : decode cc pc = .ok (.aaload, 1))
    (kk : W p l e R s m args below meth c H locs cells slots Q (F0 m (pc + 1) ls (.ref v :: rest))) : W p l e R s m args below meth c H locs cells slots Q (F0 m pc ls (.int i :: .ref a :: rest)) := va_aldq hexec hb hK hP q0 t0 ha ht hin hdg (by rw [hv]; exact kk)
theorem tc_aldN (hexec : p.tables.exec = Jvm.exec) (hb : c.code = cc) (hK : va_K D cl tys s) (hP : va_P D cl ws H) (q0 t0 : Nat) {cA : ClassId} {C : String} {n : Nat} {f : Nat → Option Nat} (ha : ws[q0]? = some (a, .inl (cA, n, .inr (.inr (.inr (.inr f)))))) (ht : tys[t0]? = some (cA, .object C)) {i : Int32} (hin : vp_in i n) (hv : f i.toNatClampNeg = none) (hdg : decode cc pc = .ok (.aaload, 1))
    (kk : W p l e R s m args below meth c H locs cells slots Q (F0 m (pc + 1) ls (.null :: rest))) : W p l e R s m args below meth c H locs cells slots Q (F0 m pc ls (.int i :: .ref a :: rest)) := va_aldq hexec hb hK hP q0 t0 ha ht hin hdg (by rw [hv]; exact kk)
end TCA
