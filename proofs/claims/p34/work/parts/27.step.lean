/-! THE LAW: a step -/
set_option maxHeartbeats 4000000 in
set_option maxRecDepth 100000 in
theorem law_step {p : Program} {l : Launch} {e : Env} {s : State} {m : MethodId} {below : List Frame} {meth : Method} {c : Code} {D : va_G} {A : Nat → Prop} {cI cJ cD cC : ClassId} {h0 h1 h2 h3 h4 o2 o3 o4 o6 : Nat} {b L : Nat} {xs : Nat → Int32} {adK adV : Nat → Nat} {Q : State → Prop} (C0 : LCtx p D A cI cJ cD cC s m c b L xs adK adV) {ad wd rd : Nat → Nat} {n : Nat} {K : Nat → Int32} {Ln : Nat → Nat} {Wh : Nat → Int64} {Re : Nat → UInt64} {ow : Nat → UInt64} {lf kf : Nat → Int32} {ct : Nat → Int32} {k : Nat} (hk : k < 18) (h10 : 10 ≤ n) (hI : PI n K Ln Wh Re ow lf kf) {ce sl : Nat} (hce : ce + 6 ≤ 600086) (hsl : sl + 88 ≤ 7301442) (kc : ∀ (ad wd rd : Nat → Nat) (n : Nat) (K : Nat → Int32) (Ln : Nat → Nat) (Wh : Nat → Int64) (Re : Nat → UInt64) (ow : Nat → UInt64) (lf kf : Nat → Int32) (cd : Int32) (ct : Nat → Int32) (H : Heap) (locs : List Loc) (ls : Array Slot), PI n K Ln Wh Re ow lf kf → 10 ≤ n → va_P D vwCl (lT cI cJ cD cC h0 h1 h2 h3 h4 o2 o3 o4 o6 ad wd rd n K Ln Wh Re cd ct ow lf kf ct) H → va_D A (lT cI cJ cD cC h0 h1 h2 h3 h4 o2 o3 o4 o6 ad wd rd n K Ln Wh Re cd ct ow lf kf ct) → va_S A s.heap H locs → lv_has ls 18 [(7, .int (nI k)), (6, .ref o6), (5, .int (nI n)), (4, .ref o4), (3, .ref o3), (2, .ref o2), (1, .ref h0), (0, .ref b)] → W p l e room_1 s m #[Value.ref b] below meth c H locs (ce + 3) (sl + 44) Q (F0 m 831 ls [])) {cd : Int32} {H : Heap} {locs : List Loc} {ls : Array Slot} (hP : va_P D vwCl (lT cI cJ cD cC h0 h1 h2 h3 h4 o2 o3 o4 o6 ad wd rd n K Ln Wh Re cd ct ow lf kf ct) H) (hD : va_D A (lT cI cJ cD cC h0 h1 h2 h3 h4 o2 o3 o4 o6 ad wd rd n K Ln Wh Re cd ct ow lf kf ct)) (hS : va_S A s.heap H locs) (hl : lv_has ls 18 [(7, .int (nI k)), (6, .ref o6), (5, .int (nI n)), (4, .ref o4), (3, .ref o3), (2, .ref o2), (1, .ref h0), (0, .ref b)]) : W p l e room_1 s m #[Value.ref b] below meth c H locs ce sl Q (F0 m 116 ls []) := by
  have C1 := C0
  obtain ⟨hx, hb, hml, hown, hts, hX, hbl, hbA, hA, hL, hK, hE, hT, hTR⟩ := C0
  have hn12 := hI.1
  have K9 : ∀ (ad wd rd : Nat → Nat) (n : Nat) (K : Nat → Int32) (Ln : Nat → Nat) (Wh : Nat → Int64) (Re : Nat → UInt64) (ow : Nat → UInt64) (lf kf : Nat → Int32) (v : Int32) (H : Heap) (locs : List Loc) (ls : Array Slot), PI n K Ln Wh Re ow lf kf → 10 ≤ n → vp_in v 6 → va_P D vwCl (lT cI cJ cD cC h0 h1 h2 h3 h4 o2 o3 o4 o6 ad wd rd n K Ln Wh Re v (noteC ct v) ow lf kf ct) H → va_D A (lT cI cJ cD cC h0 h1 h2 h3 h4 o2 o3 o4 o6 ad wd rd n K Ln Wh Re v (noteC ct v) ow lf kf ct) → va_S A s.heap H locs → lv_has ls 18 [(13, .int v), (7, .int (nI k)), (6, .ref o6), (5, .int (nI n)), (4, .ref o4), (3, .ref o3), (2, .ref o2), (1, .ref h0), (0, .ref b)] → W p l e room_1 s m #[Value.ref b] below meth c H locs (ce + 3) (sl + 44) Q (F0 m 649 ls []) :=
    fun ad wd rd n K Ln Wh Re ow lf kf v H locs ls hI h10 hv hP hD hS hl => law_tail C1 hI (by omega) (by omega) hv (fun cd ct H locs ls hP hD hS hl => kc _ _ _ _ _ _ _ _ _ _ _ _ _ _ _ _ hI h10 hP hD hS hl) hP hD hS hl
  refine lv_aload_n hx hb dL_law_116 rfl (lv_at hl 7 rfl) ?_
  refine lv_bipush (v := 10) hx hb dL_law_117 (by decide) ?_
  refine lv_iload hx hb dL_law_119 (lv_at hl 0 rfl) ?_
  refine lv_iadd hx hb dL_law_121 ?_
  refine lv_topi (fun x9 e9 => ?_)
  obtain rfl : x9 = nI (10 + k) := by rw [e9]; exact nI_add 10 k
  refine vp_callSi (W.runS (As := [.ref b, .int (nI (10 + k))]) (rest := []) ⟨hx, hb, hml, hown, hts⟩ (lL_cell l b L xs hL (10 + k) (by omega)) (va_cwS 2 hts gL_law_L_cell rfl rfl rfl (by decide +kernel) ⟨Nat.le_of_ble_eq_true rfl, Nat.le_of_ble_eq_true rfl⟩) ⟨lXblind, lXgo hX hbl hbA hS⟩ rfl rfl hl.1 rfl (lv_room (Nat.le_of_ble_eq_true rfl)) dL_law_122 ⟨by show _ ≤ 600086; omega, by show _ ≤ 7301442; omega⟩) (fun r9 h9 => ?_)
  obtain ⟨x, ex9⟩ : ∃ x : Int32, x = r9 := ⟨_, rfl⟩
  subst ex9
  refine lv_istore (lv' := [(8, .int x), (7, .int (nI k)), (6, .ref o6), (5, .int (nI n)), (4, .ref o4), (3, .ref o3), (2, .ref o2), (1, .ref h0), (0, .ref b)]) hx hb dL_law_125 hl (by decide) rfl (fun ls hl => ?_)
  refine lv_iload hx hb dL_law_127 (lv_at hl 0 rfl) ?_
  refine lv_iconst (v := 2) hx hb dL_law_129 (by decide) ?_
  refine lv_ishr hx hb dL_law_130 ?_
  refine lv_iload hx hb dL_law_131 (lv_at hl 3 rfl) ?_
  refine vp_callSi (W.runS (As := [.int (x >>> (2 &&& 31)), .int (nI n)]) (rest := []) ⟨hx, hb, hml, hown, hts⟩ (lL_below l (x >>> (2 &&& 31)) n (by omega) (by omega)) (va_cwS 2 hts gL_law_L_below rfl rfl rfl (by decide +kernel) ⟨Nat.le_of_ble_eq_true rfl, Nat.le_of_ble_eq_true rfl⟩) ⟨fun a U g mk q => q, fun U hU hW => ⟨rfl, trivial⟩⟩ rfl rfl hl.1 rfl (lv_room (Nat.le_of_ble_eq_true rfl)) dL_law_133 ⟨by show _ ≤ 600086; omega, by show _ ≤ 7301442; omega⟩) (fun r9 h9 => ?_)
  obtain ⟨j, hj, rfl⟩ := h9
  refine lv_istore (lv' := [(9, .int (nI j)), (8, .int x), (7, .int (nI k)), (6, .ref o6), (5, .int (nI n)), (4, .ref o4), (3, .ref o3), (2, .ref o2), (1, .ref h0), (0, .ref b)]) hx hb dL_law_136 hl (by decide) rfl (fun ls hl => ?_)
  refine lv_iload hx hb dL_law_138 (lv_at hl 1 rfl) ?_
  refine lv_bipush (v := 7) hx hb dL_law_140 (by decide) ?_
  refine lv_ishr hx hb dL_law_142 ?_
  refine lv_bipush (v := 7) hx hb dL_law_143 (by decide) ?_
  refine vp_callSi (W.runS (As := [.int (x >>> (7 &&& 31)), .int (nI 7)]) (rest := []) ⟨hx, hb, hml, hown, hts⟩ (lL_below l (x >>> (7 &&& 31)) 7 (by omega) (by omega)) (va_cwS 2 hts gL_law_L_below rfl rfl rfl (by decide +kernel) ⟨Nat.le_of_ble_eq_true rfl, Nat.le_of_ble_eq_true rfl⟩) ⟨fun a U g mk q => q, fun U hU hW => ⟨rfl, trivial⟩⟩ rfl rfl hl.1 rfl (lv_room (Nat.le_of_ble_eq_true rfl)) dL_law_145 ⟨by show _ ≤ 600086; omega, by show _ ≤ 7301442; omega⟩) (fun r9 h9 => ?_)
  obtain ⟨a, ha, rfl⟩ := h9
  refine lv_iconst (v := 1) hx hb dL_law_148 (by decide) ?_
  refine lv_isub hx hb dL_law_149 ?_
  refine lv_istore (lv' := [(10, .int ((nI a) - 1)), (9, .int (nI j)), (8, .int x), (7, .int (nI k)), (6, .ref o6), (5, .int (nI n)), (4, .ref o4), (3, .ref o3), (2, .ref o2), (1, .ref h0), (0, .ref b)]) hx hb dL_law_150 hl (by decide) rfl (fun ls hl => ?_)
  refine lv_iconst (v := 1) hx hb dL_law_152 (by decide) ?_
  refine lv_iload hx hb dL_law_153 (lv_at hl 2 rfl) ?_
  refine lv_bipush (v := 11) hx hb dL_law_155 (by decide) ?_
  refine lv_ishr hx hb dL_law_157 ?_
  refine lv_bipush (v := 8) hx hb dL_law_158 (by decide) ?_
  refine vp_callSi (W.runS (As := [.int (x >>> (11 &&& 31)), .int (nI 8)]) (rest := [.int 1]) ⟨hx, hb, hml, hown, hts⟩ (lL_below l (x >>> (11 &&& 31)) 8 (by omega) (by omega)) (va_cwS 2 hts gL_law_L_below rfl rfl rfl (by decide +kernel) ⟨Nat.le_of_ble_eq_true rfl, Nat.le_of_ble_eq_true rfl⟩) ⟨fun a U g mk q => q, fun U hU hW => ⟨rfl, trivial⟩⟩ rfl rfl hl.1 rfl (lv_room (Nat.le_of_ble_eq_true rfl)) dL_law_160 ⟨by show _ ≤ 600086; omega, by show _ ≤ 7301442; omega⟩) (fun r9 h9 => ?_)
  obtain ⟨k8, hk8, rfl⟩ := h9
  refine lv_iadd hx hb dL_law_163 ?_
  refine lv_topi (fun x9 e9 => ?_)
  obtain rfl : x9 = nI (k8 + 1) := by rw [e9]; show nI 1 + nI k8 = nI (k8 + 1); rw [nI_add, Nat.add_comm]
  refine lv_istore (lv' := [(11, .int (nI (k8 + 1))), (10, .int ((nI a) - 1)), (9, .int (nI j)), (8, .int x), (7, .int (nI k)), (6, .ref o6), (5, .int (nI n)), (4, .ref o4), (3, .ref o3), (2, .ref o2), (1, .ref h0), (0, .ref b)]) hx hb dL_law_164 hl (by decide) rfl (fun ls hl => ?_)
  refine tc_join 193 (fun ls st => ∃ v8, v8 = kCol (K j) ∧ st = [.int v8] ∧ lv_has ls 18 [(11, .int (nI (k8 + 1))), (10, .int ((nI a) - 1)), (9, .int (nI j)), (8, .int x), (7, .int (nI k)), (6, .ref o6), (5, .int (nI n)), (4, .ref o4), (3, .ref o3), (2, .ref o2), (1, .ref h0), (0, .ref b)]) (fun ls st hj9 => ?_) (fun k193 => ?_)
  · obtain ⟨v8, rfl, rfl, hl⟩ := hj9
    refine lv_istore (lv' := [(12, .int (kCol (K j))), (11, .int (nI (k8 + 1))), (10, .int ((nI a) - 1)), (9, .int (nI j)), (8, .int x), (7, .int (nI k)), (6, .ref o6), (5, .int (nI n)), (4, .ref o4), (3, .ref o3), (2, .ref o2), (1, .ref h0), (0, .ref b)]) hx hb dL_law_193 hl (by decide) rfl (fun ls hl => ?_)
    refine lv_iload hx hb dL_law_195 (lv_at hl 4 rfl) ?_
    refine lv_iconst (v := 3) hx hb dL_law_197 (by decide) ?_
    refine lv_iand hx hb dL_law_198 ?_
    refine lv_iconst (v := 2) hx hb dL_law_199 (by decide) ?_
    refine lv_icmp_ge (tgt := 317) hx hb dL_law_200 (by decide) (fun c_1 => ?_) (fun c_1 => ?_)
    · refine lv_iload hx hb dL_law_317 (lv_at hl 4 rfl) ?_
      refine lv_iconst (v := 3) hx hb dL_law_319 (by decide) ?_
      refine lv_iand hx hb dL_law_320 ?_
      refine lv_iconst (v := 2) hx hb dL_law_321 (by decide) ?_
      refine lv_icmp_ne (tgt := 505) hx hb dL_law_322 (by decide) (fun c_2 => ?_) (fun c_2 => ?_)
      · exact law_d C1 hj h10 (kHas_ofn k8 hk8) hI (by omega) (by omega) K9 (fun H locs ls hP hD hS hl => kc _ _ _ _ _ _ _ _ _ _ _ _ _ _ _ _ hI h10 hP hD hS hl) hP hD hS (lv_sub hl [0, 1, 3, 5, 6, 7, 8, 9, 10, 11, 12] rfl)
      · exact law_c C1 hj ha h10 hI (by omega) (by omega) K9 hP hD hS (lv_sub hl [2, 3, 4, 5, 6, 7, 8, 9, 10, 11, 12] rfl)
    · exact law_w C1 hj h10 (kHas_ofn k8 hk8) hI (by omega) (by omega) K9 hP hD hS (lv_sub hl [0, 1, 2, 3, 4, 5, 6, 7, 8, 9, 10, 11, 12] rfl)
  · refine lv_aload hx hb dL_law_166 (lv_at hl 7 rfl) ?_
    refine lv_iload hx hb dL_law_168 (lv_at hl 2 rfl) ?_
    refine tc_iald (f := kf) (v := (K j)) hx hb hK hP 7 0 rfl rfl (vp_in_nI (show j < 12 by omega) (by decide)) (PI_kf hI hj) dL_law_170 ?_
    refine lv_if_ne (tgt := 178) hx hb dL_law_171 (by decide) (fun c_3 => ?_) (fun c_3 => ?_)
    · refine lv_aload hx hb dL_law_178 (lv_at hl 7 rfl) ?_
      refine lv_iload hx hb dL_law_180 (lv_at hl 2 rfl) ?_
      refine tc_iald (f := kf) (v := (K j)) hx hb hK hP 7 0 rfl rfl (vp_in_nI (show j < 12 by omega) (by decide)) (PI_kf hI hj) dL_law_182 ?_
      refine lv_bipush (v := 9) hx hb dL_law_183 (by decide) ?_
      refine lv_icmp_ne (tgt := 192) hx hb dL_law_185 (by decide) (fun c_4 => ?_) (fun c_4 => ?_)
      · refine lv_iconst (v := 0) hx hb dL_law_192 (by decide) ?_
        exact k193 _ _ ⟨0, (kCol_0 c_3 c_4).symm, rfl, hl⟩
      · refine lv_iconst (v := 2) hx hb dL_law_188 (by decide) ?_
        refine lv_goto (tgt := 193) hx hb dL_law_189 (by decide) ?_
        exact k193 _ _ ⟨2, (kCol_2 c_3 c_4).symm, rfl, hl⟩
    · refine lv_iconst (v := 1) hx hb dL_law_174 (by decide) ?_
      refine lv_goto (tgt := 193) hx hb dL_law_175 (by decide) ?_
      exact k193 _ _ ⟨1, (kCol_1 c_3).symm, rfl, hl⟩
