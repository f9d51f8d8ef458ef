/-! THE LAW: a value written, cells copied, a column widened -/
theorem kFl_3w (k : Int32) : k = 7 ∨ k = 8 ∨ kFl k = false := by
  cases h : kFl k
  · exact Or.inr (Or.inr rfl)
  · simp only [kFl, Bool.or_eq_true, decide_eq_true_eq] at h
    exact h.imp id Or.inl
set_option maxHeartbeats 4000000 in
set_option maxRecDepth 100000 in
theorem law_w {p : Program} {l : Launch} {e : Env} {s : State} {m : MethodId} {below : List Frame} {meth : Method} {c : Code} {D : va_G} {A : Nat → Prop} {cI cJ cD cC : ClassId} {h0 h1 h2 h3 h4 o2 o3 o4 o6 : Nat} {b L : Nat} {xs : Nat → Int32} {adK adV : Nat → Nat} {Q : State → Prop} (C0 : LCtx p D A cI cJ cD cC s m c b L xs adK adV) {ad wd rd : Nat → Nat} {n : Nat} {K : Nat → Int32} {Ln : Nat → Nat} {Wh : Nat → Int64} {Re : Nat → UInt64} {ow : Nat → UInt64} {lf kf : Nat → Int32} {ct : Nat → Int32} {j k : Nat} {i x kd : Int32} (hj : j < n) (h10 : 10 ≤ n) (hkd : kHas kd = true) (hI : PI n K Ln Wh Re ow lf kf) {ce sl : Nat} (hce : ce + 3 ≤ 600086) (hsl : sl + 44 ≤ 7301442) (kc : ∀ (ad wd rd : Nat → Nat) (n : Nat) (K : Nat → Int32) (Ln : Nat → Nat) (Wh : Nat → Int64) (Re : Nat → UInt64) (ow : Nat → UInt64) (lf kf : Nat → Int32) (v : Int32) (H : Heap) (locs : List Loc) (ls : Array Slot), PI n K Ln Wh Re ow lf kf → 10 ≤ n → vp_in v 6 → va_P D vwCl (lT cI cJ cD cC h0 h1 h2 h3 h4 o2 o3 o4 o6 ad wd rd n K Ln Wh Re v (noteC ct v) ow lf kf ct) H → va_D A (lT cI cJ cD cC h0 h1 h2 h3 h4 o2 o3 o4 o6 ad wd rd n K Ln Wh Re v (noteC ct v) ow lf kf ct) → va_S A s.heap H locs → lv_has ls 18 [(13, .int v), (7, .int (nI k)), (6, .ref o6), (5, .int (nI n)), (4, .ref o4), (3, .ref o3), (2, .ref o2), (1, .ref h0), (0, .ref b)] → W p l e room_1 s m #[Value.ref b] below meth c H locs (ce + 3) (sl + 44) Q (F0 m 649 ls [])) {cd : Int32} {H : Heap} {locs : List Loc} {ls : Array Slot} (hP : va_P D vwCl (lT cI cJ cD cC h0 h1 h2 h3 h4 o2 o3 o4 o6 ad wd rd n K Ln Wh Re cd ct ow lf kf ct) H) (hD : va_D A (lT cI cJ cD cC h0 h1 h2 h3 h4 o2 o3 o4 o6 ad wd rd n K Ln Wh Re cd ct ow lf kf ct)) (hS : va_S A s.heap H locs) (hl : lv_has ls 18 [(12, .int (kCol (K j))), (11, .int kd), (10, .int i), (9, .int (nI j)), (8, .int x), (7, .int (nI k)), (6, .ref o6), (5, .int (nI n)), (4, .ref o4), (3, .ref o3), (2, .ref o2), (1, .ref h0), (0, .ref b)]) : W p l e room_1 s m #[Value.ref b] below meth c H locs ce sl Q (F0 m 203 ls []) := by
  obtain ⟨hx, hb, hml, hown, hts, hX, hbl, hbA, hA, hL, hK, hE, hT, hTR⟩ := C0
  have hn12 := hI.1
  have hL5 := (hI.2.2.1 j hj).2.2
  refine tc_join 249 (fun ls st => ∃ v8, v8 = (cdR K Ln j i kd (K j)) ∧ st = [.int v8] ∧ lv_has ls 18 [(12, .int (kCol (K j))), (11, .int kd), (10, .int i), (9, .int (nI j)), (8, .int x), (7, .int (nI k)), (6, .ref o6), (5, .int (nI n)), (4, .ref o4), (3, .ref o3), (2, .ref o2), (1, .ref h0), (0, .ref b)]) (fun ls st hj9 => ?_) (fun k249 => ?_)
  · obtain ⟨v, ev, rfl, hl⟩ := hj9
    have hv6 : vp_in v 6 := by rw [ev]; exact cdR_in kd (K j)
    refine lv_istore (lv' := [(13, .int v), (12, .int (kCol (K j))), (11, .int kd), (10, .int i), (9, .int (nI j)), (8, .int x), (7, .int (nI k)), (6, .ref o6), (5, .int (nI n)), (4, .ref o4), (3, .ref o3), (2, .ref o2), (1, .ref h0), (0, .ref b)]) hx hb dL_law_249 hl (by decide) rfl (fun ls hl => ?_)
    rcases kFl_3w kd with h7 | h8 | hf
    · refine lv_aload_n hx hb dL_law_251 rfl (lv_at hl 12 rfl) ?_
      refine lv_iload hx hb dL_law_252 (lv_at hl 4 rfl) ?_
      refine lv_iload hx hb dL_law_254 (lv_at hl 3 rfl) ?_
      refine lv_iload hx hb dL_law_256 (lv_at hl 2 rfl) ?_
      refine lv_iload hx hb dL_law_258 (lv_at hl 5 rfl) ?_
      refine va_calli (va_runV (As := [.int (nI j), .int i, .int kd, .int x]) (rest := []) ⟨hx, hb, hml, hown, hts⟩ (tX2_writeAny_f l D A cI cJ cD cC h0 h1 h2 h3 h4 ad wd rd (lY cI cD o2 o3 o4 o6 ow lf kf ct) n K Ln Wh Re cd ct H.size hI.2.1 j hj i kd x hkd h7) (cwV 4 hts gL_law_X2_writeAny rfl rfl rfl (by decide +kernel) ⟨Nat.le_of_ble_eq_true rfl, Nat.le_of_ble_eq_true rfl⟩) ⟨tcP.blind, va_recv hK hP (ci := 2) (q0 := 0) rfl rfl, tcP.go hK hP hD hE hS⟩ rfl rfl hl.1 rfl (lv_room (Nat.le_of_ble_eq_true rfl)) dL_law_260 ⟨by show _ ≤ 600086; omega, by show _ ≤ 7301442; omega⟩) hS (fun q _ h => h) (fun q h => h) (fun r9 u9 t9 H locs ht9 hvm9 hw9 hB9 hz9 hk9 hS => ?_)
      obtain ⟨hP, hD⟩ := hB9
      rw [ht9] at hP
      obtain rfl : v = r9 := ev.trans hw9.symm
      rw [← ev] at hP hD
      refine lv_iload hx hb dL_law_263 (lv_at hl 0 rfl) ?_
      refine lv_icmp_eq (tgt := 270) hx hb dL_law_265 (by decide) (fun _ => ?_) (fun q => absurd (rfl) q)
      refine lv_iload hx hb dL_law_270 (lv_at hl 0 rfl) ?_
      refine lv_if_ne (tgt := 649) hx hb dL_law_272 (by decide) (fun c_2 => ?_) (fun c_2 => ?_)
      · refine W.widen (k := ce + 3) (n := sl + 44) (by omega) (by omega) ?_
        exact kc ad wd rd n K Ln Wh (wrX K Ln Re j i kd (FP.f2d (FP.i2f x))) ow lf kf _ _ _ _ (PI_x0 hI (by rw [← ev]; exact c_2)) (h10) (hv6) hP hD hS (lv_sub hl [0, 6, 7, 8, 9, 10, 11, 12, 13] rfl)
      · have hc0 : (cdR K Ln j i kd (K j)) = 0 := ev.symm.trans c_2
        obtain ⟨g1, g2, g3⟩ := cdR_0 (hI.2.1.2.1 j hj).1 (hI.2.1.2.1 j hj).2.1 hc0
        obtain ⟨a, ha, rfl⟩ := vp_in_of g3 (by omega)
        refine lv_aload_n hx hb dL_law_275 rfl (lv_at hl 11 rfl) ?_
        refine lv_iconst (v := 5) hx hb dL_law_276 (by decide) ?_
        refine lv_iload hx hb dL_law_277 (lv_at hl 4 rfl) ?_
        refine lv_imul hx hb dL_law_279 ?_
        refine lv_iload hx hb dL_law_280 (lv_at hl 3 rfl) ?_
        refine lv_iadd hx hb dL_law_282 ?_
        refine lv_topi (fun x9 e9 => ?_)
        obtain rfl : x9 = nI (5 * j + a) := by rw [e9]; exact ix5 j a
        refine lv_aload hx hb dL_law_283 (lv_at hl 9 rfl) ?_
        refine lv_iload hx hb dL_law_285 (lv_at hl 4 rfl) ?_
        refine tc_iald (f := kf) (v := (K j)) hx hb hK hP 7 0 rfl rfl (vp_in_nI (show j < 12 by omega) (by decide)) (PI_kf hI hj) dL_law_287 ?_
        refine lv_bipush (v := 7) hx hb dL_law_288 (by decide) ?_
        refine lv_icmp_ne (tgt := 305) hx hb dL_law_290 (by decide) (fun c_3 => ?_) (fun c_3 => ?_)
        · refine lv_iload hx hb dL_law_305 (lv_at hl 2 rfl) ?_
          refine lv_iload hx hb dL_law_307 (lv_at hl 5 rfl) ?_
          refine vp_callSl (W.runS (As := [.int kd, .int x]) (rest := [.int (nI (5 * j + a)), .ref o2]) ⟨hx, hb, hml, hown, hts⟩ (lL_made l kd x) (va_cwS 2 hts gL_law_L_made rfl rfl rfl (by decide +kernel) ⟨Nat.le_of_ble_eq_true rfl, Nat.le_of_ble_eq_true rfl⟩) ⟨fun a U g mk q => q, fun U hU hW => ⟨rfl, trivial⟩⟩ rfl rfl hl.1 rfl (lv_room (Nat.le_of_ble_eq_true rfl)) dL_law_309 ⟨by show _ ≤ 600086; omega, by show _ ≤ 7301442; omega⟩) (fun r9 h9 => ?_)
          subst h9
          refine lv_l2d hx hb dL_law_312 ?_
          refine va_dast (f := ow) hx hb hK hP hD hS 5 2 rfl rfl (vp_in_nI (show 5 * j + a < 60 by omega) (by decide)) dL_law_313 (fun H locs hP hD hS => ?_)
          have hP : va_P D vwCl (lT cI cJ cD cC h0 h1 h2 h3 h4 o2 o3 o4 o6 ad wd rd n K Ln Wh (wrX K Ln Re j (nI a) kd (FP.f2d (FP.i2f x))) v (noteC ct v) (vf_upd ow (nI (5 * j + a)).toNatClampNeg (FP.l2d (lMade x kd))) lf kf ct) H := hP
          have hD : va_D A (lT cI cJ cD cC h0 h1 h2 h3 h4 o2 o3 o4 o6 ad wd rd n K Ln Wh (wrX K Ln Re j (nI a) kd (FP.f2d (FP.i2f x))) v (noteC ct v) (vf_upd ow (nI (5 * j + a)).toNatClampNeg (FP.l2d (lMade x kd))) lf kf ct) := hD
          have ew : (vf_upd ow (nI (5 * j + a)).toNatClampNeg (FP.l2d (lMade x kd))) = (vf_upd ow (5 * j + (nI a).toNatClampNeg) (lVal (K j) x kd)) := by rw [nI_clamp (by omega), nI_clamp (by omega)]; unfold lVal; rw [if_neg c_3]
          rw [ew] at hP hD
          have hP : va_P D vwCl (lT cI cJ cD cC h0 h1 h2 h3 h4 o2 o3 o4 o6 ad wd rd n K Ln Wh (wrX K Ln Re j (nI a) kd (FP.f2d (FP.i2f x))) v (noteC ct v) (vf_upd ow (5 * j + (nI a).toNatClampNeg) (lVal (K j) x kd)) lf kf ct) H := hP
          have hD : va_D A (lT cI cJ cD cC h0 h1 h2 h3 h4 o2 o3 o4 o6 ad wd rd n K Ln Wh (wrX K Ln Re j (nI a) kd (FP.f2d (FP.i2f x))) v (noteC ct v) (vf_upd ow (5 * j + (nI a).toNatClampNeg) (lVal (K j) x kd)) lf kf ct) := hD
          refine lv_goto (tgt := 649) hx hb dL_law_314 (by decide) ?_
          refine W.widen (k := ce + 3) (n := sl + 44) (by omega) (by omega) ?_
          exact kc ad wd rd n K Ln Wh (wrX K Ln Re j (nI a) kd (FP.f2d (FP.i2f x))) (vf_upd ow (5 * j + (nI a).toNatClampNeg) (lVal (K j) x kd)) lf kf _ _ _ _ (PI_wf' h7 hI hj hc0) (h10) (hv6) hP hD hS (lv_sub hl [0, 6, 7, 8, 9, 10, 11, 12, 13] rfl)
        · refine lv_iload hx hb dL_law_293 (lv_at hl 2 rfl) ?_
          refine lv_iload hx hb dL_law_295 (lv_at hl 5 rfl) ?_
          refine vp_callSl (W.runS (As := [.int kd, .int x]) (rest := [.int (nI (5 * j + a)), .ref o2]) ⟨hx, hb, hml, hown, hts⟩ (lL_made l kd x) (va_cwS 2 hts gL_law_L_made rfl rfl rfl (by decide +kernel) ⟨Nat.le_of_ble_eq_true rfl, Nat.le_of_ble_eq_true rfl⟩) ⟨fun a U g mk q => q, fun U hU hW => ⟨rfl, trivial⟩⟩ rfl rfl hl.1 rfl (lv_room (Nat.le_of_ble_eq_true rfl)) dL_law_297 ⟨by show _ ≤ 600086; omega, by show _ ≤ 7301442; omega⟩) (fun r9 h9 => ?_)
          subst h9
          refine lv_l2f hx hb dL_law_300 ?_
          refine lv_f2d hx hb dL_law_301 ((tf_n64 _).mpr (tf_f2d (tf_l2f _))) ?_
          refine lv_goto (tgt := 313) hx hb dL_law_302 (by decide) ?_
          refine va_dast (f := ow) hx hb hK hP hD hS 5 2 rfl rfl (vp_in_nI (show 5 * j + a < 60 by omega) (by decide)) dL_law_313 (fun H locs hP hD hS => ?_)
          have hP : va_P D vwCl (lT cI cJ cD cC h0 h1 h2 h3 h4 o2 o3 o4 o6 ad wd rd n K Ln Wh (wrX K Ln Re j (nI a) kd (FP.f2d (FP.i2f x))) v (noteC ct v) (vf_upd ow (nI (5 * j + a)).toNatClampNeg (FP.f2d (FP.l2f (lMade x kd)))) lf kf ct) H := hP
          have hD : va_D A (lT cI cJ cD cC h0 h1 h2 h3 h4 o2 o3 o4 o6 ad wd rd n K Ln Wh (wrX K Ln Re j (nI a) kd (FP.f2d (FP.i2f x))) v (noteC ct v) (vf_upd ow (nI (5 * j + a)).toNatClampNeg (FP.f2d (FP.l2f (lMade x kd)))) lf kf ct) := hD
          have ew : (vf_upd ow (nI (5 * j + a)).toNatClampNeg (FP.f2d (FP.l2f (lMade x kd)))) = (vf_upd ow (5 * j + (nI a).toNatClampNeg) (lVal (K j) x kd)) := by rw [nI_clamp (by omega), nI_clamp (by omega)]; unfold lVal; rw [if_pos c_3]
          rw [ew] at hP hD
          have hP : va_P D vwCl (lT cI cJ cD cC h0 h1 h2 h3 h4 o2 o3 o4 o6 ad wd rd n K Ln Wh (wrX K Ln Re j (nI a) kd (FP.f2d (FP.i2f x))) v (noteC ct v) (vf_upd ow (5 * j + (nI a).toNatClampNeg) (lVal (K j) x kd)) lf kf ct) H := hP
          have hD : va_D A (lT cI cJ cD cC h0 h1 h2 h3 h4 o2 o3 o4 o6 ad wd rd n K Ln Wh (wrX K Ln Re j (nI a) kd (FP.f2d (FP.i2f x))) v (noteC ct v) (vf_upd ow (5 * j + (nI a).toNatClampNeg) (lVal (K j) x kd)) lf kf ct) := hD
          refine lv_goto (tgt := 649) hx hb dL_law_314 (by decide) ?_
          refine W.widen (k := ce + 3) (n := sl + 44) (by omega) (by omega) ?_
          exact kc ad wd rd n K Ln Wh (wrX K Ln Re j (nI a) kd (FP.f2d (FP.i2f x))) (vf_upd ow (5 * j + (nI a).toNatClampNeg) (lVal (K j) x kd)) lf kf _ _ _ _ (PI_wf' h7 hI hj hc0) (h10) (hv6) hP hD hS (lv_sub hl [0, 6, 7, 8, 9, 10, 11, 12, 13] rfl)
    · refine lv_aload_n hx hb dL_law_251 rfl (lv_at hl 12 rfl) ?_
      refine lv_iload hx hb dL_law_252 (lv_at hl 4 rfl) ?_
      refine lv_iload hx hb dL_law_254 (lv_at hl 3 rfl) ?_
      refine lv_iload hx hb dL_law_256 (lv_at hl 2 rfl) ?_
      refine lv_iload hx hb dL_law_258 (lv_at hl 5 rfl) ?_
      refine va_calli (va_runV (As := [.int (nI j), .int i, .int kd, .int x]) (rest := []) ⟨hx, hb, hml, hown, hts⟩ (tX2_writeAny_d l D A cI cJ cD cC h0 h1 h2 h3 h4 ad wd rd (lY cI cD o2 o3 o4 o6 ow lf kf ct) n K Ln Wh Re cd ct H.size hI.2.1 j hj i kd x hkd h8) (cwV 4 hts gL_law_X2_writeAny rfl rfl rfl (by decide +kernel) ⟨Nat.le_of_ble_eq_true rfl, Nat.le_of_ble_eq_true rfl⟩) ⟨tcP.blind, va_recv hK hP (ci := 2) (q0 := 0) rfl rfl, tcP.go hK hP hD hE hS⟩ rfl rfl hl.1 rfl (lv_room (Nat.le_of_ble_eq_true rfl)) dL_law_260 ⟨by show _ ≤ 600086; omega, by show _ ≤ 7301442; omega⟩) hS (fun q _ h => h) (fun q h => h) (fun r9 u9 t9 H locs ht9 hvm9 hw9 hB9 hz9 hk9 hS => ?_)
      obtain ⟨hP, hD⟩ := hB9
      rw [ht9] at hP
      obtain rfl : v = r9 := ev.trans hw9.symm
      rw [← ev] at hP hD
      refine lv_iload hx hb dL_law_263 (lv_at hl 0 rfl) ?_
      refine lv_icmp_eq (tgt := 270) hx hb dL_law_265 (by decide) (fun _ => ?_) (fun q => absurd (rfl) q)
      refine lv_iload hx hb dL_law_270 (lv_at hl 0 rfl) ?_
      refine lv_if_ne (tgt := 649) hx hb dL_law_272 (by decide) (fun c_5 => ?_) (fun c_5 => ?_)
      · refine W.widen (k := ce + 3) (n := sl + 44) (by omega) (by omega) ?_
        exact kc ad wd rd n K Ln Wh (wrX K Ln Re j i kd (FP.i2d x)) ow lf kf _ _ _ _ (PI_x0 hI (by rw [← ev]; exact c_5)) (h10) (hv6) hP hD hS (lv_sub hl [0, 6, 7, 8, 9, 10, 11, 12, 13] rfl)
      · have hc0 : (cdR K Ln j i kd (K j)) = 0 := ev.symm.trans c_5
        obtain ⟨g1, g2, g3⟩ := cdR_0 (hI.2.1.2.1 j hj).1 (hI.2.1.2.1 j hj).2.1 hc0
        obtain ⟨a, ha, rfl⟩ := vp_in_of g3 (by omega)
        refine lv_aload_n hx hb dL_law_275 rfl (lv_at hl 11 rfl) ?_
        refine lv_iconst (v := 5) hx hb dL_law_276 (by decide) ?_
        refine lv_iload hx hb dL_law_277 (lv_at hl 4 rfl) ?_
        refine lv_imul hx hb dL_law_279 ?_
        refine lv_iload hx hb dL_law_280 (lv_at hl 3 rfl) ?_
        refine lv_iadd hx hb dL_law_282 ?_
        refine lv_topi (fun x9 e9 => ?_)
        obtain rfl : x9 = nI (5 * j + a) := by rw [e9]; exact ix5 j a
        refine lv_aload hx hb dL_law_283 (lv_at hl 9 rfl) ?_
        refine lv_iload hx hb dL_law_285 (lv_at hl 4 rfl) ?_
        refine tc_iald (f := kf) (v := (K j)) hx hb hK hP 7 0 rfl rfl (vp_in_nI (show j < 12 by omega) (by decide)) (PI_kf hI hj) dL_law_287 ?_
        refine lv_bipush (v := 7) hx hb dL_law_288 (by decide) ?_
        refine lv_icmp_ne (tgt := 305) hx hb dL_law_290 (by decide) (fun c_6 => ?_) (fun c_6 => ?_)
        · refine lv_iload hx hb dL_law_305 (lv_at hl 2 rfl) ?_
          refine lv_iload hx hb dL_law_307 (lv_at hl 5 rfl) ?_
          refine vp_callSl (W.runS (As := [.int kd, .int x]) (rest := [.int (nI (5 * j + a)), .ref o2]) ⟨hx, hb, hml, hown, hts⟩ (lL_made l kd x) (va_cwS 2 hts gL_law_L_made rfl rfl rfl (by decide +kernel) ⟨Nat.le_of_ble_eq_true rfl, Nat.le_of_ble_eq_true rfl⟩) ⟨fun a U g mk q => q, fun U hU hW => ⟨rfl, trivial⟩⟩ rfl rfl hl.1 rfl (lv_room (Nat.le_of_ble_eq_true rfl)) dL_law_309 ⟨by show _ ≤ 600086; omega, by show _ ≤ 7301442; omega⟩) (fun r9 h9 => ?_)
          subst h9
          refine lv_l2d hx hb dL_law_312 ?_
          refine va_dast (f := ow) hx hb hK hP hD hS 5 2 rfl rfl (vp_in_nI (show 5 * j + a < 60 by omega) (by decide)) dL_law_313 (fun H locs hP hD hS => ?_)
          have hP : va_P D vwCl (lT cI cJ cD cC h0 h1 h2 h3 h4 o2 o3 o4 o6 ad wd rd n K Ln Wh (wrX K Ln Re j (nI a) kd (FP.i2d x)) v (noteC ct v) (vf_upd ow (nI (5 * j + a)).toNatClampNeg (FP.l2d (lMade x kd))) lf kf ct) H := hP
          have hD : va_D A (lT cI cJ cD cC h0 h1 h2 h3 h4 o2 o3 o4 o6 ad wd rd n K Ln Wh (wrX K Ln Re j (nI a) kd (FP.i2d x)) v (noteC ct v) (vf_upd ow (nI (5 * j + a)).toNatClampNeg (FP.l2d (lMade x kd))) lf kf ct) := hD
          have ew : (vf_upd ow (nI (5 * j + a)).toNatClampNeg (FP.l2d (lMade x kd))) = (vf_upd ow (5 * j + (nI a).toNatClampNeg) (lVal (K j) x kd)) := by rw [nI_clamp (by omega), nI_clamp (by omega)]; unfold lVal; rw [if_neg c_6]
          rw [ew] at hP hD
          have hP : va_P D vwCl (lT cI cJ cD cC h0 h1 h2 h3 h4 o2 o3 o4 o6 ad wd rd n K Ln Wh (wrX K Ln Re j (nI a) kd (FP.i2d x)) v (noteC ct v) (vf_upd ow (5 * j + (nI a).toNatClampNeg) (lVal (K j) x kd)) lf kf ct) H := hP
          have hD : va_D A (lT cI cJ cD cC h0 h1 h2 h3 h4 o2 o3 o4 o6 ad wd rd n K Ln Wh (wrX K Ln Re j (nI a) kd (FP.i2d x)) v (noteC ct v) (vf_upd ow (5 * j + (nI a).toNatClampNeg) (lVal (K j) x kd)) lf kf ct) := hD
          refine lv_goto (tgt := 649) hx hb dL_law_314 (by decide) ?_
          refine W.widen (k := ce + 3) (n := sl + 44) (by omega) (by omega) ?_
          exact kc ad wd rd n K Ln Wh (wrX K Ln Re j (nI a) kd (FP.i2d x)) (vf_upd ow (5 * j + (nI a).toNatClampNeg) (lVal (K j) x kd)) lf kf _ _ _ _ (PI_wd' h8 hI hj hc0) (h10) (hv6) hP hD hS (lv_sub hl [0, 6, 7, 8, 9, 10, 11, 12, 13] rfl)
        · refine lv_iload hx hb dL_law_293 (lv_at hl 2 rfl) ?_
          refine lv_iload hx hb dL_law_295 (lv_at hl 5 rfl) ?_
          refine vp_callSl (W.runS (As := [.int kd, .int x]) (rest := [.int (nI (5 * j + a)), .ref o2]) ⟨hx, hb, hml, hown, hts⟩ (lL_made l kd x) (va_cwS 2 hts gL_law_L_made rfl rfl rfl (by decide +kernel) ⟨Nat.le_of_ble_eq_true rfl, Nat.le_of_ble_eq_true rfl⟩) ⟨fun a U g mk q => q, fun U hU hW => ⟨rfl, trivial⟩⟩ rfl rfl hl.1 rfl (lv_room (Nat.le_of_ble_eq_true rfl)) dL_law_297 ⟨by show _ ≤ 600086; omega, by show _ ≤ 7301442; omega⟩) (fun r9 h9 => ?_)
          subst h9
          refine lv_l2f hx hb dL_law_300 ?_
          refine lv_f2d hx hb dL_law_301 ((tf_n64 _).mpr (tf_f2d (tf_l2f _))) ?_
          refine lv_goto (tgt := 313) hx hb dL_law_302 (by decide) ?_
          refine va_dast (f := ow) hx hb hK hP hD hS 5 2 rfl rfl (vp_in_nI (show 5 * j + a < 60 by omega) (by decide)) dL_law_313 (fun H locs hP hD hS => ?_)
          have hP : va_P D vwCl (lT cI cJ cD cC h0 h1 h2 h3 h4 o2 o3 o4 o6 ad wd rd n K Ln Wh (wrX K Ln Re j (nI a) kd (FP.i2d x)) v (noteC ct v) (vf_upd ow (nI (5 * j + a)).toNatClampNeg (FP.f2d (FP.l2f (lMade x kd)))) lf kf ct) H := hP
          have hD : va_D A (lT cI cJ cD cC h0 h1 h2 h3 h4 o2 o3 o4 o6 ad wd rd n K Ln Wh (wrX K Ln Re j (nI a) kd (FP.i2d x)) v (noteC ct v) (vf_upd ow (nI (5 * j + a)).toNatClampNeg (FP.f2d (FP.l2f (lMade x kd)))) lf kf ct) := hD
          have ew : (vf_upd ow (nI (5 * j + a)).toNatClampNeg (FP.f2d (FP.l2f (lMade x kd)))) = (vf_upd ow (5 * j + (nI a).toNatClampNeg) (lVal (K j) x kd)) := by rw [nI_clamp (by omega), nI_clamp (by omega)]; unfold lVal; rw [if_pos c_6]
          rw [ew] at hP hD
          have hP : va_P D vwCl (lT cI cJ cD cC h0 h1 h2 h3 h4 o2 o3 o4 o6 ad wd rd n K Ln Wh (wrX K Ln Re j (nI a) kd (FP.i2d x)) v (noteC ct v) (vf_upd ow (5 * j + (nI a).toNatClampNeg) (lVal (K j) x kd)) lf kf ct) H := hP
          have hD : va_D A (lT cI cJ cD cC h0 h1 h2 h3 h4 o2 o3 o4 o6 ad wd rd n K Ln Wh (wrX K Ln Re j (nI a) kd (FP.i2d x)) v (noteC ct v) (vf_upd ow (5 * j + (nI a).toNatClampNeg) (lVal (K j) x kd)) lf kf ct) := hD
          refine lv_goto (tgt := 649) hx hb dL_law_314 (by decide) ?_
          refine W.widen (k := ce + 3) (n := sl + 44) (by omega) (by omega) ?_
          exact kc ad wd rd n K Ln Wh (wrX K Ln Re j (nI a) kd (FP.i2d x)) (vf_upd ow (5 * j + (nI a).toNatClampNeg) (lVal (K j) x kd)) lf kf _ _ _ _ (PI_wd' h8 hI hj hc0) (h10) (hv6) hP hD hS (lv_sub hl [0, 6, 7, 8, 9, 10, 11, 12, 13] rfl)
    · refine lv_aload_n hx hb dL_law_251 rfl (lv_at hl 12 rfl) ?_
      refine lv_iload hx hb dL_law_252 (lv_at hl 4 rfl) ?_
      refine lv_iload hx hb dL_law_254 (lv_at hl 3 rfl) ?_
      refine lv_iload hx hb dL_law_256 (lv_at hl 2 rfl) ?_
      refine lv_iload hx hb dL_law_258 (lv_at hl 5 rfl) ?_
      refine va_calli (va_runV (As := [.int (nI j), .int i, .int kd, .int x]) (rest := []) ⟨hx, hb, hml, hown, hts⟩ (tX2_writeAny_w l D A cI cJ cD cC h0 h1 h2 h3 h4 ad wd rd (lY cI cD o2 o3 o4 o6 ow lf kf ct) n K Ln Wh Re cd ct H.size hI.2.1 j hj i kd x hkd hf) (cwV 4 hts gL_law_X2_writeAny rfl rfl rfl (by decide +kernel) ⟨Nat.le_of_ble_eq_true rfl, Nat.le_of_ble_eq_true rfl⟩) ⟨tcP.blind, va_recv hK hP (ci := 2) (q0 := 0) rfl rfl, tcP.go hK hP hD hE hS⟩ rfl rfl hl.1 rfl (lv_room (Nat.le_of_ble_eq_true rfl)) dL_law_260 ⟨by show _ ≤ 600086; omega, by show _ ≤ 7301442; omega⟩) hS (fun q _ h => h) (fun q h => h) (fun r9 u9 t9 H locs ht9 hvm9 hw9 hB9 hz9 hk9 hS => ?_)
      obtain ⟨hP, hD⟩ := hB9
      rw [ht9] at hP
      obtain rfl : v = r9 := ev.trans hw9.symm
      rw [← ev] at hP hD
      refine lv_iload hx hb dL_law_263 (lv_at hl 0 rfl) ?_
      refine lv_icmp_eq (tgt := 270) hx hb dL_law_265 (by decide) (fun _ => ?_) (fun q => absurd (rfl) q)
      refine lv_iload hx hb dL_law_270 (lv_at hl 0 rfl) ?_
      refine lv_if_ne (tgt := 649) hx hb dL_law_272 (by decide) (fun c_8 => ?_) (fun c_8 => ?_)
      · refine W.widen (k := ce + 3) (n := sl + 44) (by omega) (by omega) ?_
        exact kc ad wd rd n K Ln (wrW K Ln Wh j i kd (kMade x kd)) (wrR K Ln Re j i kd (kMade x kd)) ow lf kf _ _ _ _ (PI_w0 hI (by rw [← ev]; exact c_8)) (h10) (hv6) hP hD hS (lv_sub hl [0, 6, 7, 8, 9, 10, 11, 12, 13] rfl)
      · have hc0 : (cdR K Ln j i kd (K j)) = 0 := ev.symm.trans c_8
        obtain ⟨g1, g2, g3⟩ := cdR_0 (hI.2.1.2.1 j hj).1 (hI.2.1.2.1 j hj).2.1 hc0
        obtain ⟨a, ha, rfl⟩ := vp_in_of g3 (by omega)
        refine lv_aload_n hx hb dL_law_275 rfl (lv_at hl 11 rfl) ?_
        refine lv_iconst (v := 5) hx hb dL_law_276 (by decide) ?_
        refine lv_iload hx hb dL_law_277 (lv_at hl 4 rfl) ?_
        refine lv_imul hx hb dL_law_279 ?_
        refine lv_iload hx hb dL_law_280 (lv_at hl 3 rfl) ?_
        refine lv_iadd hx hb dL_law_282 ?_
        refine lv_topi (fun x9 e9 => ?_)
        obtain rfl : x9 = nI (5 * j + a) := by rw [e9]; exact ix5 j a
        refine lv_aload hx hb dL_law_283 (lv_at hl 9 rfl) ?_
        refine lv_iload hx hb dL_law_285 (lv_at hl 4 rfl) ?_
        refine tc_iald (f := kf) (v := (K j)) hx hb hK hP 7 0 rfl rfl (vp_in_nI (show j < 12 by omega) (by decide)) (PI_kf hI hj) dL_law_287 ?_
        refine lv_bipush (v := 7) hx hb dL_law_288 (by decide) ?_
        refine lv_icmp_ne (tgt := 305) hx hb dL_law_290 (by decide) (fun c_9 => ?_) (fun c_9 => ?_)
        · refine lv_iload hx hb dL_law_305 (lv_at hl 2 rfl) ?_
          refine lv_iload hx hb dL_law_307 (lv_at hl 5 rfl) ?_
          refine vp_callSl (W.runS (As := [.int kd, .int x]) (rest := [.int (nI (5 * j + a)), .ref o2]) ⟨hx, hb, hml, hown, hts⟩ (lL_made l kd x) (va_cwS 2 hts gL_law_L_made rfl rfl rfl (by decide +kernel) ⟨Nat.le_of_ble_eq_true rfl, Nat.le_of_ble_eq_true rfl⟩) ⟨fun a U g mk q => q, fun U hU hW => ⟨rfl, trivial⟩⟩ rfl rfl hl.1 rfl (lv_room (Nat.le_of_ble_eq_true rfl)) dL_law_309 ⟨by show _ ≤ 600086; omega, by show _ ≤ 7301442; omega⟩) (fun r9 h9 => ?_)
          subst h9
          refine lv_l2d hx hb dL_law_312 ?_
          refine va_dast (f := ow) hx hb hK hP hD hS 5 2 rfl rfl (vp_in_nI (show 5 * j + a < 60 by omega) (by decide)) dL_law_313 (fun H locs hP hD hS => ?_)
          have hP : va_P D vwCl (lT cI cJ cD cC h0 h1 h2 h3 h4 o2 o3 o4 o6 ad wd rd n K Ln (wrW K Ln Wh j (nI a) kd (kMade x kd)) (wrR K Ln Re j (nI a) kd (kMade x kd)) v (noteC ct v) (vf_upd ow (nI (5 * j + a)).toNatClampNeg (FP.l2d (lMade x kd))) lf kf ct) H := hP
          have hD : va_D A (lT cI cJ cD cC h0 h1 h2 h3 h4 o2 o3 o4 o6 ad wd rd n K Ln (wrW K Ln Wh j (nI a) kd (kMade x kd)) (wrR K Ln Re j (nI a) kd (kMade x kd)) v (noteC ct v) (vf_upd ow (nI (5 * j + a)).toNatClampNeg (FP.l2d (lMade x kd))) lf kf ct) := hD
          have ew : (vf_upd ow (nI (5 * j + a)).toNatClampNeg (FP.l2d (lMade x kd))) = (vf_upd ow (5 * j + (nI a).toNatClampNeg) (lVal (K j) x kd)) := by rw [nI_clamp (by omega), nI_clamp (by omega)]; unfold lVal; rw [if_neg c_9]
          rw [ew] at hP hD
          have hP : va_P D vwCl (lT cI cJ cD cC h0 h1 h2 h3 h4 o2 o3 o4 o6 ad wd rd n K Ln (wrW K Ln Wh j (nI a) kd (kMade x kd)) (wrR K Ln Re j (nI a) kd (kMade x kd)) v (noteC ct v) (vf_upd ow (5 * j + (nI a).toNatClampNeg) (lVal (K j) x kd)) lf kf ct) H := hP
          have hD : va_D A (lT cI cJ cD cC h0 h1 h2 h3 h4 o2 o3 o4 o6 ad wd rd n K Ln (wrW K Ln Wh j (nI a) kd (kMade x kd)) (wrR K Ln Re j (nI a) kd (kMade x kd)) v (noteC ct v) (vf_upd ow (5 * j + (nI a).toNatClampNeg) (lVal (K j) x kd)) lf kf ct) := hD
          refine lv_goto (tgt := 649) hx hb dL_law_314 (by decide) ?_
          refine W.widen (k := ce + 3) (n := sl + 44) (by omega) (by omega) ?_
          exact kc ad wd rd n K Ln (wrW K Ln Wh j (nI a) kd (kMade x kd)) (wrR K Ln Re j (nI a) kd (kMade x kd)) (vf_upd ow (5 * j + (nI a).toNatClampNeg) (lVal (K j) x kd)) lf kf _ _ _ _ (PI_ww hI hj hf hc0) (h10) (hv6) hP hD hS (lv_sub hl [0, 6, 7, 8, 9, 10, 11, 12, 13] rfl)
        · refine lv_iload hx hb dL_law_293 (lv_at hl 2 rfl) ?_
          refine lv_iload hx hb dL_law_295 (lv_at hl 5 rfl) ?_
          refine vp_callSl (W.runS (As := [.int kd, .int x]) (rest := [.int (nI (5 * j + a)), .ref o2]) ⟨hx, hb, hml, hown, hts⟩ (lL_made l kd x) (va_cwS 2 hts gL_law_L_made rfl rfl rfl (by decide +kernel) ⟨Nat.le_of_ble_eq_true rfl, Nat.le_of_ble_eq_true rfl⟩) ⟨fun a U g mk q => q, fun U hU hW => ⟨rfl, trivial⟩⟩ rfl rfl hl.1 rfl (lv_room (Nat.le_of_ble_eq_true rfl)) dL_law_297 ⟨by show _ ≤ 600086; omega, by show _ ≤ 7301442; omega⟩) (fun r9 h9 => ?_)
          subst h9
          refine lv_l2f hx hb dL_law_300 ?_
          refine lv_f2d hx hb dL_law_301 ((tf_n64 _).mpr (tf_f2d (tf_l2f _))) ?_
          refine lv_goto (tgt := 313) hx hb dL_law_302 (by decide) ?_
          refine va_dast (f := ow) hx hb hK hP hD hS 5 2 rfl rfl (vp_in_nI (show 5 * j + a < 60 by omega) (by decide)) dL_law_313 (fun H locs hP hD hS => ?_)
          have hP : va_P D vwCl (lT cI cJ cD cC h0 h1 h2 h3 h4 o2 o3 o4 o6 ad wd rd n K Ln (wrW K Ln Wh j (nI a) kd (kMade x kd)) (wrR K Ln Re j (nI a) kd (kMade x kd)) v (noteC ct v) (vf_upd ow (nI (5 * j + a)).toNatClampNeg (FP.f2d (FP.l2f (lMade x kd)))) lf kf ct) H := hP
          have hD : va_D A (lT cI cJ cD cC h0 h1 h2 h3 h4 o2 o3 o4 o6 ad wd rd n K Ln (wrW K Ln Wh j (nI a) kd (kMade x kd)) (wrR K Ln Re j (nI a) kd (kMade x kd)) v (noteC ct v) (vf_upd ow (nI (5 * j + a)).toNatClampNeg (FP.f2d (FP.l2f (lMade x kd)))) lf kf ct) := hD
          have ew : (vf_upd ow (nI (5 * j + a)).toNatClampNeg (FP.f2d (FP.l2f (lMade x kd)))) = (vf_upd ow (5 * j + (nI a).toNatClampNeg) (lVal (K j) x kd)) := by rw [nI_clamp (by omega), nI_clamp (by omega)]; unfold lVal; rw [if_pos c_9]
          rw [ew] at hP hD
          have hP : va_P D vwCl (lT cI cJ cD cC h0 h1 h2 h3 h4 o2 o3 o4 o6 ad wd rd n K Ln (wrW K Ln Wh j (nI a) kd (kMade x kd)) (wrR K Ln Re j (nI a) kd (kMade x kd)) v (noteC ct v) (vf_upd ow (5 * j + (nI a).toNatClampNeg) (lVal (K j) x kd)) lf kf ct) H := hP
          have hD : va_D A (lT cI cJ cD cC h0 h1 h2 h3 h4 o2 o3 o4 o6 ad wd rd n K Ln (wrW K Ln Wh j (nI a) kd (kMade x kd)) (wrR K Ln Re j (nI a) kd (kMade x kd)) v (noteC ct v) (vf_upd ow (5 * j + (nI a).toNatClampNeg) (lVal (K j) x kd)) lf kf ct) := hD
          refine lv_goto (tgt := 649) hx hb dL_law_314 (by decide) ?_
          refine W.widen (k := ce + 3) (n := sl + 44) (by omega) (by omega) ?_
          exact kc ad wd rd n K Ln (wrW K Ln Wh j (nI a) kd (kMade x kd)) (wrR K Ln Re j (nI a) kd (kMade x kd)) (vf_upd ow (5 * j + (nI a).toNatClampNeg) (lVal (K j) x kd)) lf kf _ _ _ _ (PI_ww hI hj hf hc0) (h10) (hv6) hP hD hS (lv_sub hl [0, 6, 7, 8, 9, 10, 11, 12, 13] rfl)
  · refine lv_iload hx hb dL_law_203 (lv_at hl 0 rfl) ?_
    refine lv_if_le (tgt := 213) hx hb dL_law_205 (by decide) (fun c_10 => ?_) (fun c_10 => ?_)
    · have hc0 : kCol (K j) = 0 := kCol_le c_10
      have hh : kHas (K j) = true := kCol_has (hI.2.1.2.1 j hj).1 hc0
      obtain ⟨k9, hk9, ek9⟩ := kHas_n hh
      obtain ⟨k8, hk8, rfl⟩ := kHas_n hkd
      refine lv_iload hx hb dL_law_213 (lv_at hl 2 rfl) ?_
      refine lv_if_lt (tgt := 227) hx hb dL_law_215 (by decide) (fun c_11 => ?_) (fun c_11 => ?_)
      · refine lv_iconst (v := 3) hx hb dL_law_227 (by decide) ?_
        refine lv_goto (tgt := 249) hx hb dL_law_228 (by decide) ?_
        exact k249 _ _ ⟨_, cdR_3a hc0 c_11, rfl, hl⟩
      · refine lv_iload hx hb dL_law_218 (lv_at hl 2 rfl) ?_
        refine lv_aload_n hx hb dL_law_220 rfl (lv_at hl 9 rfl) ?_
        refine lv_iload hx hb dL_law_221 (lv_at hl 3 rfl) ?_
        refine tc_iald (f := lf) (v := (nI (Ln j))) hx hb hK hP 6 0 rfl rfl (vp_in_nI (show j < 12 by omega) (by decide)) (PI_lf hI hj) dL_law_223 ?_
        refine lv_icmp_lt (tgt := 231) hx hb dL_law_224 (by decide) (fun c_12 => ?_) (fun c_12 => ?_)
        · refine lv_iload hx hb dL_law_231 (lv_at hl 1 rfl) ?_
          refine lv_aload hx hb dL_law_233 (lv_at hl 8 rfl) ?_
          refine lv_iload hx hb dL_law_235 (lv_at hl 3 rfl) ?_
          refine tc_iald (f := kf) (v := (nI (k9 + 1))) hx hb hK hP 7 0 rfl rfl (vp_in_nI (show j < 12 by omega) (by decide)) ((PI_kf hI hj).trans ek9) dL_law_237 ?_
          refine vp_callSi (W.runS (As := [.int (nI (k8 + 1)), .int (nI (k9 + 1))]) (rest := []) ⟨hx, hb, hml, hown, hts⟩ (lL_widens l adK adV k8 k9 hk8 hk9) (va_cwS 2 hts gL_law_L_widens rfl rfl rfl (by decide +kernel) ⟨Nat.le_of_ble_eq_true rfl, Nat.le_of_ble_eq_true rfl⟩) ⟨twP.blind, twP.go hT hTR hS⟩ rfl rfl hl.1 rfl (lv_room (Nat.le_of_ble_eq_true rfl)) dL_law_238 ⟨by show _ ≤ 600086; omega, by show _ ≤ 7301442; omega⟩) (fun r9 h9 => ?_)
          subst h9
          rw [← ek9]
          refine lv_if_eq (tgt := 248) hx hb dL_law_241 (by decide) (fun c_13 => ?_) (fun c_13 => ?_)
          · refine lv_iconst (v := 4) hx hb dL_law_248 (by decide) ?_
            exact k249 _ _ ⟨_, cdR_w4 hc0 hh c_11 c_12 c_13, rfl, hl⟩
          · refine lv_iconst (v := 0) hx hb dL_law_244 (by decide) ?_
            refine lv_goto (tgt := 249) hx hb dL_law_245 (by decide) ?_
            exact k249 _ _ ⟨_, cdR_w0 hc0 hh c_11 c_12 c_13, rfl, hl⟩
        · refine lv_iconst (v := 3) hx hb dL_law_227 (by decide) ?_
          refine lv_goto (tgt := 249) hx hb dL_law_228 (by decide) ?_
          exact k249 _ _ ⟨_, cdR_3b hc0 hh c_11 c_12, rfl, hl⟩
    · refine lv_iload hx hb dL_law_208 (lv_at hl 0 rfl) ?_
      refine lv_goto (tgt := 249) hx hb dL_law_210 (by decide) ?_
      exact k249 _ _ ⟨_, cdR_c (fun z => c_10 (by rw [z]; decide)), rfl, hl⟩
set_option maxHeartbeats 4000000 in
set_option maxRecDepth 100000 in
theorem law_c {p : Program} {l : Launch} {e : Env} {s : State} {m : MethodId} {below : List Frame} {meth : Method} {c : Code} {D : va_G} {A : Nat → Prop} {cI cJ cD cC : ClassId} {h0 h1 h2 h3 h4 o2 o3 o4 o6 : Nat} {b L : Nat} {xs : Nat → Int32} {adK adV : Nat → Nat} {Q : State → Prop} (C0 : LCtx p D A cI cJ cD cC s m c b L xs adK adV) {ad wd rd : Nat → Nat} {n : Nat} {K : Nat → Int32} {Ln : Nat → Nat} {Wh : Nat → Int64} {Re : Nat → UInt64} {ow : Nat → UInt64} {lf kf : Nat → Int32} {ct : Nat → Int32} {j a k : Nat} {x : Int32} (hj : j < n) (ha : a < 7) (h10 : 10 ≤ n) (hI : PI n K Ln Wh Re ow lf kf) {ce sl : Nat} (hce : ce + 3 ≤ 600086) (hsl : sl + 44 ≤ 7301442) (kc : ∀ (ad wd rd : Nat → Nat) (n : Nat) (K : Nat → Int32) (Ln : Nat → Nat) (Wh : Nat → Int64) (Re : Nat → UInt64) (ow : Nat → UInt64) (lf kf : Nat → Int32) (v : Int32) (H : Heap) (locs : List Loc) (ls : Array Slot), PI n K Ln Wh Re ow lf kf → 10 ≤ n → vp_in v 6 → va_P D vwCl (lT cI cJ cD cC h0 h1 h2 h3 h4 o2 o3 o4 o6 ad wd rd n K Ln Wh Re v (noteC ct v) ow lf kf ct) H → va_D A (lT cI cJ cD cC h0 h1 h2 h3 h4 o2 o3 o4 o6 ad wd rd n K Ln Wh Re v (noteC ct v) ow lf kf ct) → va_S A s.heap H locs → lv_has ls 18 [(13, .int v), (7, .int (nI k)), (6, .ref o6), (5, .int (nI n)), (4, .ref o4), (3, .ref o3), (2, .ref o2), (1, .ref h0), (0, .ref b)] → W p l e room_1 s m #[Value.ref b] below meth c H locs (ce + 3) (sl + 44) Q (F0 m 649 ls [])) {cd : Int32} {H : Heap} {locs : List Loc} {ls : Array Slot} (hP : va_P D vwCl (lT cI cJ cD cC h0 h1 h2 h3 h4 o2 o3 o4 o6 ad wd rd n K Ln Wh Re cd ct ow lf kf ct) H) (hD : va_D A (lT cI cJ cD cC h0 h1 h2 h3 h4 o2 o3 o4 o6 ad wd rd n K Ln Wh Re cd ct ow lf kf ct)) (hS : va_S A s.heap H locs) (hl : lv_has ls 18 [(10, .int (nI a - 1)), (9, .int (nI j)), (8, .int x), (7, .int (nI k)), (6, .ref o6), (5, .int (nI n)), (4, .ref o4), (3, .ref o3), (2, .ref o2), (1, .ref h0), (0, .ref b)]) : W p l e room_1 s m #[Value.ref b] below meth c H locs ce sl Q (F0 m 325 ls []) := by
  obtain ⟨hx, hb, hml, hown, hts, hX, hbl, hbA, hA, hL, hK, hE, hT, hTR⟩ := C0
  have hn12 := hI.1
  refine lv_iload hx hb dL_law_325 (lv_at hl 2 rfl) ?_
  refine lv_bipush (v := 15) hx hb dL_law_327 (by decide) ?_
  refine lv_ishr hx hb dL_law_329 ?_
  refine lv_iload hx hb dL_law_330 (lv_at hl 5 rfl) ?_
  refine vp_callSi (W.runS (As := [.int (x >>> (15 &&& 31)), .int (nI n)]) (rest := []) ⟨hx, hb, hml, hown, hts⟩ (lL_below l (x >>> (15 &&& 31)) n (by omega) (by omega)) (va_cwS 2 hts gL_law_L_below rfl rfl rfl (by decide +kernel) ⟨Nat.le_of_ble_eq_true rfl, Nat.le_of_ble_eq_true rfl⟩) ⟨fun a U g mk q => q, fun U hU hW => ⟨rfl, trivial⟩⟩ rfl rfl hl.1 rfl (lv_room (Nat.le_of_ble_eq_true rfl)) dL_law_332 ⟨by show _ ≤ 600086; omega, by show _ ≤ 7301442; omega⟩) (fun r9 h9 => ?_)
  obtain ⟨j2, hj2, rfl⟩ := h9
  refine lv_istore (lv' := [(14, .int (nI j2)), (10, .int (nI a - 1)), (9, .int (nI j)), (8, .int x), (7, .int (nI k)), (6, .ref o6), (5, .int (nI n)), (4, .ref o4), (3, .ref o3), (2, .ref o2), (1, .ref h0), (0, .ref b)]) hx hb dL_law_335 hl (by decide) rfl (fun ls hl => ?_)
  refine lv_iload hx hb dL_law_337 (lv_at hl 3 rfl) ?_
  refine lv_bipush (v := 19) hx hb dL_law_339 (by decide) ?_
  refine lv_ishr hx hb dL_law_341 ?_
  refine lv_iconst (v := 4) hx hb dL_law_342 (by decide) ?_
  refine vp_callSi (W.runS (As := [.int (x >>> (19 &&& 31)), .int (nI 4)]) (rest := []) ⟨hx, hb, hml, hown, hts⟩ (lL_below l (x >>> (19 &&& 31)) 4 (by omega) (by omega)) (va_cwS 2 hts gL_law_L_below rfl rfl rfl (by decide +kernel) ⟨Nat.le_of_ble_eq_true rfl, Nat.le_of_ble_eq_true rfl⟩) ⟨fun a U g mk q => q, fun U hU hW => ⟨rfl, trivial⟩⟩ rfl rfl hl.1 rfl (lv_room (Nat.le_of_ble_eq_true rfl)) dL_law_343 ⟨by show _ ≤ 600086; omega, by show _ ≤ 7301442; omega⟩) (fun r9 h9 => ?_)
  obtain ⟨mm, hmm, rfl⟩ := h9
  refine lv_istore (lv' := [(15, .int (nI mm)), (14, .int (nI j2)), (10, .int (nI a - 1)), (9, .int (nI j)), (8, .int x), (7, .int (nI k)), (6, .ref o6), (5, .int (nI n)), (4, .ref o4), (3, .ref o3), (2, .ref o2), (1, .ref h0), (0, .ref b)]) hx hb dL_law_346 hl (by decide) rfl (fun ls hl => ?_)
  have hLj := (hI.2.2.1 j hj).2.2
  have hLj2 := (hI.2.2.1 j2 hj2).2.2
  have hr := (hI.2.1.2.1 j hj).1
  refine tc_join 438 (fun ls st => ∃ v8, v8 = (cpC K Ln j j2 (nI a - 1) 0 (nI mm)) ∧ st = [.int v8] ∧ lv_has ls 18 [(15, .int (nI mm)), (14, .int (nI j2)), (10, .int (nI a - 1)), (9, .int (nI j)), (7, .int (nI k)), (6, .ref o6), (5, .int (nI n)), (4, .ref o4), (3, .ref o3), (2, .ref o2), (1, .ref h0), (0, .ref b)]) (fun ls st hj9 => ?_) (fun k438 => ?_)
  · obtain ⟨v, ev, rfl, hl⟩ := hj9
    have hv6 : vp_in v 6 := by rw [ev]; exact cpC_in _ _ _ _ _ _ _
    refine lv_istore (lv' := [(13, .int v), (15, .int (nI mm)), (14, .int (nI j2)), (10, .int (nI a - 1)), (9, .int (nI j)), (7, .int (nI k)), (6, .ref o6), (5, .int (nI n)), (4, .ref o4), (3, .ref o3), (2, .ref o2), (1, .ref h0), (0, .ref b)]) hx hb dL_law_438 hl (by decide) rfl (fun ls hl => ?_)
    refine lv_aload_n hx hb dL_law_440 rfl (lv_at hl 11 rfl) ?_
    refine lv_iload hx hb dL_law_441 (lv_at hl 4 rfl) ?_
    refine lv_iload hx hb dL_law_443 (lv_at hl 3 rfl) ?_
    refine lv_iload hx hb dL_law_445 (lv_at hl 2 rfl) ?_
    refine lv_iconst (v := 0) hx hb dL_law_447 (by decide) ?_
    refine lv_iload hx hb dL_law_448 (lv_at hl 1 rfl) ?_
    refine va_calli (va_runV (As := [.int (nI j), .int (nI a - 1), .int (nI j2), .int 0, .int (nI mm)]) (rest := []) ⟨hx, hb, hml, hown, hts⟩ (tX2_copy l D A cI cJ cD cC h0 h1 h2 h3 h4 ad wd rd (lY cI cD o2 o3 o4 o6 ow lf kf ct) n K Ln Wh Re cd ct H.size hI.2.1 j hj j2 hj2 (nI a - 1) 0 (nI mm)) (cwV 5 hts gL_law_X2_copy rfl rfl rfl (by decide +kernel) ⟨Nat.le_of_ble_eq_true rfl, Nat.le_of_ble_eq_true rfl⟩) ⟨tcP.blind, va_recv hK hP (ci := 2) (q0 := 0) rfl rfl, tcP.go hK hP hD hE hS⟩ rfl rfl hl.1 rfl (lv_room (Nat.le_of_ble_eq_true rfl)) dL_law_450 ⟨by show _ ≤ 600086; omega, by show _ ≤ 7301442; omega⟩) hS (fun q _ h => h) (fun q h => h) (fun r9 u9 t9 H locs ht9 hvm9 hw9 hB9 hz9 hk9 hS => ?_)
    obtain ⟨hP, hD⟩ := hB9
    rw [ht9] at hP
    obtain rfl : v = r9 := ev.trans hw9.symm
    rw [← ev] at hP hD
    refine lv_iload hx hb dL_law_453 (lv_at hl 0 rfl) ?_
    refine lv_icmp_eq (tgt := 460) hx hb dL_law_455 (by decide) (fun _ => ?_) (fun q => absurd (rfl) q)
    refine lv_iconst (v := 0) hx hb dL_law_460 (by decide) ?_
    refine lv_istore (lv' := [(17, .int 0), (13, .int v), (15, .int (nI mm)), (14, .int (nI j2)), (10, .int (nI a - 1)), (9, .int (nI j)), (7, .int (nI k)), (6, .ref o6), (5, .int (nI n)), (4, .ref o4), (3, .ref o3), (2, .ref o2), (1, .ref h0), (0, .ref b)]) hx hb dL_law_461 hl (by decide) rfl (fun ls hl => ?_)
    rcases Decidable.em (v = 0) with hv0 | hv0
    · obtain ⟨a1, ea, g1, g2⟩ := cpC_a ha hmm hr hLj hLj2 (ev.symm.trans hv0)
      subst ea
      have ei : nI (a1 + 1) - 1 = nI a1 := pk_sub (b := 1) (Nat.le_add_left 1 a1)
      rw [ei] at hP hD hl ev
      refine tc_loop (fun r9 H locs ls => ∃ (q : Nat), q + r9 = mm ∧ va_P D vwCl (lT cI cJ cD cC h0 h1 h2 h3 h4 o2 o3 o4 o6 ad wd rd n K Ln (cpW K Ln Wh j j2 (nI a1) 0 (nI mm)) (cpW K Ln Re j j2 (nI a1) 0 (nI mm)) v (noteC ct v) (va_cpy ow ow (5 * j + a1) (5 * j2) q) lf kf ct) H ∧ va_D A (lT cI cJ cD cC h0 h1 h2 h3 h4 o2 o3 o4 o6 ad wd rd n K Ln (cpW K Ln Wh j j2 (nI a1) 0 (nI mm)) (cpW K Ln Re j j2 (nI a1) 0 (nI mm)) v (noteC ct v) (va_cpy ow ow (5 * j + a1) (5 * j2) q) lf kf ct) ∧ va_S A s.heap H locs ∧ lv_has ls 18 [(17, .int (nI q)), (13, .int v), (15, .int (nI mm)), (14, .int (nI j2)), (10, .int (nI a1)), (9, .int (nI j)), (7, .int (nI k)), (6, .ref o6), (5, .int (nI n)), (4, .ref o4), (3, .ref o3), (2, .ref o2), (1, .ref h0), (0, .ref b)]) (fun r9 H locs ls hv ih => ?_) (fun H locs ls hv => ?_) mm ⟨0, by omega, by rw [va_cpy_0]; exact hP, by rw [va_cpy_0]; exact hD, hS, lv_sub hl [0, 1, 2, 3, 4, 5, 6, 7, 8, 9, 10, 11, 12, 13] rfl⟩
      · obtain ⟨q, hqn, hP, hD, hS, hl⟩ := hv
        have hq : q < mm := by omega
        refine lv_iload hx hb dL_law_463 (lv_at hl 0 rfl) ?_
        refine lv_iload hx hb dL_law_465 (lv_at hl 2 rfl) ?_
        refine lv_icmp_ge (tgt := 502) hx hb dL_law_467 (by decide) (fun q => absurd q (nI_ge hq (by omega))) (fun _ => ?_)
        refine lv_iload hx hb dL_law_470 (lv_at hl 1 rfl) ?_
        refine lv_if_ne (tgt := 502) hx hb dL_law_472 (by decide) (fun q => absurd (hv0) q) (fun _ => ?_)
        refine lv_aload_n hx hb dL_law_475 rfl (lv_at hl 11 rfl) ?_
        refine lv_iconst (v := 5) hx hb dL_law_476 (by decide) ?_
        refine lv_iload hx hb dL_law_477 (lv_at hl 3 rfl) ?_
        refine lv_imul hx hb dL_law_479 ?_
        refine lv_iload hx hb dL_law_480 (lv_at hl 0 rfl) ?_
        refine lv_iadd hx hb dL_law_482 ?_
        refine lv_topi (fun x9 e9 => ?_)
        obtain rfl : x9 = nI (5 * j2 + q) := by rw [e9]; exact ix5 j2 q
        refine lv_aload_n hx hb dL_law_483 rfl (lv_at hl 11 rfl) ?_
        refine lv_iconst (v := 5) hx hb dL_law_484 (by decide) ?_
        refine lv_iload hx hb dL_law_485 (lv_at hl 5 rfl) ?_
        refine lv_imul hx hb dL_law_487 ?_
        refine lv_iload hx hb dL_law_488 (lv_at hl 4 rfl) ?_
        refine lv_iadd hx hb dL_law_490 ?_
        refine lv_iload hx hb dL_law_491 (lv_at hl 0 rfl) ?_
        refine lv_iadd hx hb dL_law_493 ?_
        refine lv_topi (fun x9 e9 => ?_)
        obtain rfl : x9 = nI (5 * j + a1 + q) := by rw [e9]; rw [ix5, nI_add]
        refine tc_dald (f := (va_cpy ow ow (5 * j + a1) (5 * j2) q)) (v := (ow (5 * j + a1 + q))) hx hb hK hP 5 2 rfl rfl (vp_in_nI (show 5 * j + a1 + q < 60 by omega) (by decide)) (by rw [nI_clamp (by omega)]; exact if_neg (by omega)) dL_law_494 ?_
        refine va_dast (f := (va_cpy ow ow (5 * j + a1) (5 * j2) q)) hx hb hK hP hD hS 5 2 rfl rfl (vp_in_nI (show 5 * j2 + q < 60 by omega) (by decide)) dL_law_495 (fun H locs hP hD hS => ?_)
        have hP : va_P D vwCl (lT cI cJ cD cC h0 h1 h2 h3 h4 o2 o3 o4 o6 ad wd rd n K Ln (cpW K Ln Wh j j2 (nI a1) 0 (nI mm)) (cpW K Ln Re j j2 (nI a1) 0 (nI mm)) v (noteC ct v) (vf_upd (va_cpy ow ow (5 * j + a1) (5 * j2) q) (nI (5 * j2 + q)).toNatClampNeg (ow (5 * j + a1 + q))) lf kf ct) H := hP
        have hD : va_D A (lT cI cJ cD cC h0 h1 h2 h3 h4 o2 o3 o4 o6 ad wd rd n K Ln (cpW K Ln Wh j j2 (nI a1) 0 (nI mm)) (cpW K Ln Re j j2 (nI a1) 0 (nI mm)) v (noteC ct v) (vf_upd (va_cpy ow ow (5 * j + a1) (5 * j2) q) (nI (5 * j2 + q)).toNatClampNeg (ow (5 * j + a1 + q))) lf kf ct) := hD
        have ew : vf_upd (va_cpy ow ow (5 * j + a1) (5 * j2) q) (nI (5 * j2 + q)).toNatClampNeg (ow (5 * j + a1 + q)) = (va_cpy ow ow (5 * j + a1) (5 * j2) (q + 1)) := by rw [nI_clamp (by omega)]; exact va_cpy_s ow (5 * j + a1) (5 * j2) q
        rw [ew] at hP hD
        have hP : va_P D vwCl (lT cI cJ cD cC h0 h1 h2 h3 h4 o2 o3 o4 o6 ad wd rd n K Ln (cpW K Ln Wh j j2 (nI a1) 0 (nI mm)) (cpW K Ln Re j j2 (nI a1) 0 (nI mm)) v (noteC ct v) (va_cpy ow ow (5 * j + a1) (5 * j2) (q + 1)) lf kf ct) H := hP
        have hD : va_D A (lT cI cJ cD cC h0 h1 h2 h3 h4 o2 o3 o4 o6 ad wd rd n K Ln (cpW K Ln Wh j j2 (nI a1) 0 (nI mm)) (cpW K Ln Re j j2 (nI a1) 0 (nI mm)) v (noteC ct v) (va_cpy ow ow (5 * j + a1) (5 * j2) (q + 1)) lf kf ct) := hD
        refine lv_iinc (v := (nI (q + 1))) (lv' := [(17, .int (nI (q + 1))), (13, .int v), (15, .int (nI mm)), (14, .int (nI j2)), (10, .int (nI a1)), (9, .int (nI j)), (7, .int (nI k)), (6, .ref o6), (5, .int (nI n)), (4, .ref o4), (3, .ref o3), (2, .ref o2), (1, .ref h0), (0, .ref b)]) hx hb dL_law_496 hl (k := 0) rfl (by rw [nI_succ]; rfl) (by decide) rfl (fun ls hl => ?_)
        refine lv_goto (tgt := 463) hx hb dL_law_499 (by decide) ?_
        exact ih _ _ _ ⟨q + 1, by omega, hP, hD, hS, lv_sub hl [0, 1, 2, 3, 4, 5, 6, 7, 8, 9, 10, 11, 12, 13] rfl⟩
      · obtain ⟨q, hqn, hP, hD, hS, hl⟩ := hv
        obtain rfl : q = mm := by omega
        refine lv_iload hx hb dL_law_463 (lv_at hl 0 rfl) ?_
        refine lv_iload hx hb dL_law_465 (lv_at hl 2 rfl) ?_
        refine lv_icmp_ge (tgt := 502) hx hb dL_law_467 (by decide) (fun _ => ?_) (fun q => absurd (nI_le (Nat.le_refl _) (by omega)) q)
        refine lv_goto (tgt := 649) hx hb dL_law_502 (by decide) ?_
        refine W.widen (k := ce + 3) (n := sl + 44) (by omega) (by omega) ?_
        exact kc ad wd rd n K Ln (cpW K Ln Wh j j2 (nI a1) 0 (nI q)) (cpW K Ln Re j j2 (nI a1) 0 (nI q)) (va_cpy ow ow (5 * j + a1) (5 * j2) q) lf kf _ _ _ _ (PI_cp hI hj hj2 (by omega) (by omega) (ev.symm.trans hv0)) (h10) (hv6) hP hD hS (lv_sub hl [1, 6, 7, 8, 9, 10, 11, 12, 13] rfl)
    · refine lv_iload hx hb dL_law_463 (lv_at hl 0 rfl) ?_
      refine lv_iload hx hb dL_law_465 (lv_at hl 2 rfl) ?_
      refine lv_icmp_ge (tgt := 502) hx hb dL_law_467 (by decide) (fun c_5 => ?_) (fun c_5 => ?_)
      · refine lv_goto (tgt := 649) hx hb dL_law_502 (by decide) ?_
        refine W.widen (k := ce + 3) (n := sl + 44) (by omega) (by omega) ?_
        exact kc ad wd rd n K Ln (cpW K Ln Wh j j2 (nI a - 1) 0 (nI mm)) (cpW K Ln Re j j2 (nI a - 1) 0 (nI mm)) ow lf kf _ _ _ _ (PI_cp0 hI (by rw [← ev]; exact hv0)) (h10) (hv6) hP hD hS (lv_sub hl [1, 6, 7, 8, 9, 10, 11, 12, 13] rfl)
      · refine lv_iload hx hb dL_law_470 (lv_at hl 1 rfl) ?_
        refine lv_if_ne (tgt := 502) hx hb dL_law_472 (by decide) (fun _ => ?_) (fun q => absurd q (hv0))
        refine lv_goto (tgt := 649) hx hb dL_law_502 (by decide) ?_
        refine W.widen (k := ce + 3) (n := sl + 44) (by omega) (by omega) ?_
        exact kc ad wd rd n K Ln (cpW K Ln Wh j j2 (nI a - 1) 0 (nI mm)) (cpW K Ln Re j j2 (nI a - 1) 0 (nI mm)) ow lf kf _ _ _ _ (PI_cp0 hI (by rw [← ev]; exact hv0)) (h10) (hv6) hP hD hS (lv_sub hl [1, 6, 7, 8, 9, 10, 11, 12, 13] rfl)
  · refine lv_aload hx hb dL_law_348 (lv_at hl 8 rfl) ?_
    refine lv_iload hx hb dL_law_350 (lv_at hl 3 rfl) ?_
    refine tc_iald (f := kf) (v := (K j)) hx hb hK hP 7 0 rfl rfl (vp_in_nI (show j < 12 by omega) (by decide)) (PI_kf hI hj) dL_law_352 ?_
    refine lv_if_eq (tgt := 364) hx hb dL_law_353 (by decide) (fun c_7 => ?_) (fun c_7 => ?_)
    · refine lv_iconst (v := 1) hx hb dL_law_364 (by decide) ?_
      refine lv_goto (tgt := 369) hx hb dL_law_365 (by decide) ?_
      refine lv_istore (lv' := [(16, .int 1), (15, .int (nI mm)), (14, .int (nI j2)), (10, .int (nI a - 1)), (9, .int (nI j)), (8, .int x), (7, .int (nI k)), (6, .ref o6), (5, .int (nI n)), (4, .ref o4), (3, .ref o3), (2, .ref o2), (1, .ref h0), (0, .ref b)]) hx hb dL_law_369 hl (by decide) rfl (fun ls hl => ?_)
      refine lv_iload hx hb dL_law_371 (lv_at hl 0 rfl) ?_
      refine lv_if_eq (tgt := 380) hx hb dL_law_373 (by decide) (fun q => absurd q (by decide)) (fun _ => ?_)
      refine lv_iconst (v := 1) hx hb dL_law_376 (by decide) ?_
      refine lv_goto (tgt := 438) hx hb dL_law_377 (by decide) ?_
      exact k438 _ _ ⟨_, cpC_1a c_7, rfl, lv_sub hl [1, 2, 3, 4, 6, 7, 8, 9, 10, 11, 12, 13] rfl⟩
    · refine lv_aload hx hb dL_law_356 (lv_at hl 8 rfl) ?_
      refine lv_iload hx hb dL_law_358 (lv_at hl 1 rfl) ?_
      refine tc_iald (f := kf) (v := (K j2)) hx hb hK hP 7 0 rfl rfl (vp_in_nI (show j2 < 12 by omega) (by decide)) (PI_kf hI hj2) dL_law_360 ?_
      refine lv_if_ne (tgt := 368) hx hb dL_law_361 (by decide) (fun c_9 => ?_) (fun c_9 => ?_)
      · refine lv_iconst (v := 0) hx hb dL_law_368 (by decide) ?_
        refine lv_istore (lv' := [(16, .int 0), (15, .int (nI mm)), (14, .int (nI j2)), (10, .int (nI a - 1)), (9, .int (nI j)), (8, .int x), (7, .int (nI k)), (6, .ref o6), (5, .int (nI n)), (4, .ref o4), (3, .ref o3), (2, .ref o2), (1, .ref h0), (0, .ref b)]) hx hb dL_law_369 hl (by decide) rfl (fun ls hl => ?_)
        refine lv_iload hx hb dL_law_371 (lv_at hl 0 rfl) ?_
        refine lv_if_eq (tgt := 380) hx hb dL_law_373 (by decide) (fun _ => ?_) (fun q => absurd (by decide) q)
        refine lv_aload hx hb dL_law_380 (lv_at hl 9 rfl) ?_
        refine lv_iload hx hb dL_law_382 (lv_at hl 4 rfl) ?_
        refine tc_iald (f := kf) (v := (K j)) hx hb hK hP 7 0 rfl rfl (vp_in_nI (show j < 12 by omega) (by decide)) (PI_kf hI hj) dL_law_384 ?_
        refine lv_aload hx hb dL_law_385 (lv_at hl 9 rfl) ?_
        refine lv_iload hx hb dL_law_387 (lv_at hl 2 rfl) ?_
        refine tc_iald (f := kf) (v := (K j2)) hx hb hK hP 7 0 rfl rfl (vp_in_nI (show j2 < 12 by omega) (by decide)) (PI_kf hI hj2) dL_law_389 ?_
        refine lv_icmp_ne (tgt := 403) hx hb dL_law_390 (by decide) (fun c_11 => ?_) (fun c_11 => ?_)
        · refine lv_iconst (v := 5) hx hb dL_law_403 (by decide) ?_
          refine lv_goto (tgt := 438) hx hb dL_law_404 (by decide) ?_
          exact k438 _ _ ⟨_, cpC_5a c_7 c_9 c_11, rfl, lv_sub hl [1, 2, 3, 4, 6, 7, 8, 9, 10, 11, 12, 13] rfl⟩
        · refine lv_aload hx hb dL_law_393 (lv_at hl 9 rfl) ?_
          refine lv_iload hx hb dL_law_395 (lv_at hl 4 rfl) ?_
          refine tc_iald (f := kf) (v := (K j)) hx hb hK hP 7 0 rfl rfl (vp_in_nI (show j < 12 by omega) (by decide)) (PI_kf hI hj) dL_law_397 ?_
          refine lv_bipush (v := 9) hx hb dL_law_398 (by decide) ?_
          refine lv_icmp_ne (tgt := 407) hx hb dL_law_400 (by decide) (fun c_12 => ?_) (fun c_12 => ?_)
          · refine lv_iload hx hb dL_law_407 (lv_at hl 3 rfl) ?_
            refine lv_if_lt (tgt := 433) hx hb dL_law_409 (by decide) (fun c_13 => ?_) (fun c_13 => ?_)
            · refine lv_iconst (v := 3) hx hb dL_law_433 (by decide) ?_
              refine lv_goto (tgt := 438) hx hb dL_law_434 (by decide) ?_
              exact k438 _ _ ⟨_, cpC_3a ha hmm hLj hr c_7 c_9 c_11 c_12 c_13, rfl, lv_sub hl [1, 2, 3, 4, 6, 7, 8, 9, 10, 11, 12, 13] rfl⟩
            · refine lv_iload hx hb dL_law_412 (lv_at hl 3 rfl) ?_
              refine lv_iload hx hb dL_law_414 (lv_at hl 1 rfl) ?_
              refine lv_iadd hx hb dL_law_416 ?_
              refine lv_aload_n hx hb dL_law_417 rfl (lv_at hl 10 rfl) ?_
              refine lv_iload hx hb dL_law_418 (lv_at hl 4 rfl) ?_
              refine tc_iald (f := lf) (v := (nI (Ln j))) hx hb hK hP 6 0 rfl rfl (vp_in_nI (show j < 12 by omega) (by decide)) (PI_lf hI hj) dL_law_420 ?_
              refine lv_icmp_gt (tgt := 433) hx hb dL_law_421 (by decide) (fun c_14 => ?_) (fun c_14 => ?_)
              · refine lv_iconst (v := 3) hx hb dL_law_433 (by decide) ?_
                refine lv_goto (tgt := 438) hx hb dL_law_434 (by decide) ?_
                exact k438 _ _ ⟨_, cpC_3b ha hmm hLj hr c_7 c_9 c_11 c_12 c_14, rfl, lv_sub hl [1, 2, 3, 4, 6, 7, 8, 9, 10, 11, 12, 13] rfl⟩
              · refine lv_iload hx hb dL_law_424 (lv_at hl 1 rfl) ?_
                refine lv_aload_n hx hb dL_law_426 rfl (lv_at hl 10 rfl) ?_
                refine lv_iload hx hb dL_law_427 (lv_at hl 2 rfl) ?_
                refine tc_iald (f := lf) (v := (nI (Ln j2))) hx hb hK hP 6 0 rfl rfl (vp_in_nI (show j2 < 12 by omega) (by decide)) (PI_lf hI hj2) dL_law_429 ?_
                refine lv_icmp_le (tgt := 437) hx hb dL_law_430 (by decide) (fun c_15 => ?_) (fun c_15 => ?_)
                · refine lv_iconst (v := 0) hx hb dL_law_437 (by decide) ?_
                  exact k438 _ _ ⟨_, cpC_00 ha hmm hLj hLj2 hr c_7 c_9 c_11 c_12 c_13 c_14 c_15, rfl, lv_sub hl [1, 2, 3, 4, 6, 7, 8, 9, 10, 11, 12, 13] rfl⟩
                · refine lv_iconst (v := 3) hx hb dL_law_433 (by decide) ?_
                  refine lv_goto (tgt := 438) hx hb dL_law_434 (by decide) ?_
                  exact k438 _ _ ⟨_, cpC_3c hmm hLj2 hr c_7 c_9 c_11 c_12 c_15, rfl, lv_sub hl [1, 2, 3, 4, 6, 7, 8, 9, 10, 11, 12, 13] rfl⟩
          · refine lv_iconst (v := 5) hx hb dL_law_403 (by decide) ?_
            refine lv_goto (tgt := 438) hx hb dL_law_404 (by decide) ?_
            exact k438 _ _ ⟨_, cpC_5b c_7 c_9 c_11 c_12, rfl, lv_sub hl [1, 2, 3, 4, 6, 7, 8, 9, 10, 11, 12, 13] rfl⟩
      · refine lv_iconst (v := 1) hx hb dL_law_364 (by decide) ?_
        refine lv_goto (tgt := 369) hx hb dL_law_365 (by decide) ?_
        refine lv_istore (lv' := [(16, .int 1), (15, .int (nI mm)), (14, .int (nI j2)), (10, .int (nI a - 1)), (9, .int (nI j)), (8, .int x), (7, .int (nI k)), (6, .ref o6), (5, .int (nI n)), (4, .ref o4), (3, .ref o3), (2, .ref o2), (1, .ref h0), (0, .ref b)]) hx hb dL_law_369 hl (by decide) rfl (fun ls hl => ?_)
        refine lv_iload hx hb dL_law_371 (lv_at hl 0 rfl) ?_
        refine lv_if_eq (tgt := 380) hx hb dL_law_373 (by decide) (fun q => absurd q (by decide)) (fun _ => ?_)
        refine lv_iconst (v := 1) hx hb dL_law_376 (by decide) ?_
        refine lv_goto (tgt := 438) hx hb dL_law_377 (by decide) ?_
        exact k438 _ _ ⟨_, cpC_1b c_7 c_9, rfl, lv_sub hl [1, 2, 3, 4, 6, 7, 8, 9, 10, 11, 12, 13] rfl⟩
set_option maxHeartbeats 4000000 in
set_option maxRecDepth 100000 in
theorem law_d {p : Program} {l : Launch} {e : Env} {s : State} {m : MethodId} {below : List Frame} {meth : Method} {c : Code} {D : va_G} {A : Nat → Prop} {cI cJ cD cC : ClassId} {h0 h1 h2 h3 h4 o2 o3 o4 o6 : Nat} {b L : Nat} {xs : Nat → Int32} {adK adV : Nat → Nat} {Q : State → Prop} (C0 : LCtx p D A cI cJ cD cC s m c b L xs adK adV) {ad wd rd : Nat → Nat} {n : Nat} {K : Nat → Int32} {Ln : Nat → Nat} {Wh : Nat → Int64} {Re : Nat → UInt64} {ow : Nat → UInt64} {lf kf : Nat → Int32} {ct : Nat → Int32} {j k : Nat} {kd : Int32} (hj : j < n) (h10 : 10 ≤ n) (hkd : kHas kd = true) (hI : PI n K Ln Wh Re ow lf kf) {ce sl : Nat} (hce : ce + 3 ≤ 600086) (hsl : sl + 44 ≤ 7301442) (kc : ∀ (ad wd rd : Nat → Nat) (n : Nat) (K : Nat → Int32) (Ln : Nat → Nat) (Wh : Nat → Int64) (Re : Nat → UInt64) (ow : Nat → UInt64) (lf kf : Nat → Int32) (v : Int32) (H : Heap) (locs : List Loc) (ls : Array Slot), PI n K Ln Wh Re ow lf kf → 10 ≤ n → vp_in v 6 → va_P D vwCl (lT cI cJ cD cC h0 h1 h2 h3 h4 o2 o3 o4 o6 ad wd rd n K Ln Wh Re v (noteC ct v) ow lf kf ct) H → va_D A (lT cI cJ cD cC h0 h1 h2 h3 h4 o2 o3 o4 o6 ad wd rd n K Ln Wh Re v (noteC ct v) ow lf kf ct) → va_S A s.heap H locs → lv_has ls 18 [(13, .int v), (7, .int (nI k)), (6, .ref o6), (5, .int (nI n)), (4, .ref o4), (3, .ref o3), (2, .ref o2), (1, .ref h0), (0, .ref b)] → W p l e room_1 s m #[Value.ref b] below meth c H locs (ce + 3) (sl + 44) Q (F0 m 649 ls [])) {cd : Int32} (kc2 : ∀ (H : Heap) (locs : List Loc) (ls : Array Slot), va_P D vwCl (lT cI cJ cD cC h0 h1 h2 h3 h4 o2 o3 o4 o6 ad wd rd n K Ln Wh Re cd ct ow lf kf ct) H → va_D A (lT cI cJ cD cC h0 h1 h2 h3 h4 o2 o3 o4 o6 ad wd rd n K Ln Wh Re cd ct ow lf kf ct) → va_S A s.heap H locs → lv_has ls 18 [(7, .int (nI k)), (6, .ref o6), (5, .int (nI n)), (4, .ref o4), (3, .ref o3), (2, .ref o2), (1, .ref h0), (0, .ref b)] → W p l e room_1 s m #[Value.ref b] below meth c H locs (ce + 3) (sl + 44) Q (F0 m 831 ls [])) {H : Heap} {locs : List Loc} {ls : Array Slot} (hP : va_P D vwCl (lT cI cJ cD cC h0 h1 h2 h3 h4 o2 o3 o4 o6 ad wd rd n K Ln Wh Re cd ct ow lf kf ct) H) (hD : va_D A (lT cI cJ cD cC h0 h1 h2 h3 h4 o2 o3 o4 o6 ad wd rd n K Ln Wh Re cd ct ow lf kf ct)) (hS : va_S A s.heap H locs) (hl : lv_has ls 18 [(12, .int (kCol (K j))), (11, .int kd), (9, .int (nI j)), (7, .int (nI k)), (6, .ref o6), (5, .int (nI n)), (4, .ref o4), (3, .ref o3), (2, .ref o2), (1, .ref h0), (0, .ref b)]) : W p l e room_1 s m #[Value.ref b] below meth c H locs ce sl Q (F0 m 505 ls []) := by
  obtain ⟨hx, hb, hml, hown, hts, hX, hbl, hbA, hA, hL, hK, hE, hT, hTR⟩ := C0
  have hn12 := hI.1
  have hL5 := (hI.2.2.1 j hj).2.2
  refine lv_iload hx hb dL_law_505 (lv_at hl 5 rfl) ?_
  refine lv_bipush (v := 12) hx hb dL_law_507 (by decide) ?_
  refine lv_icmp_ne (tgt := 515) hx hb dL_law_509 (by decide) (fun c_1 => ?_) (fun c_1 => ?_)
  · have hn : n < 12 := Nat.lt_of_le_of_ne hn12 (fun z => c_1 (by rw [z]; rfl))
    refine tc_join 543 (fun ls st => ∃ v8, v8 = (wdC K j kd) ∧ st = [.int v8] ∧ lv_has ls 18 [(12, .int (kCol (K j))), (11, .int kd), (9, .int (nI j)), (7, .int (nI k)), (6, .ref o6), (5, .int (nI n)), (4, .ref o4), (3, .ref o3), (2, .ref o2), (1, .ref h0), (0, .ref b)]) (fun ls st hj9 => ?_) (fun k543 => ?_)
    · obtain ⟨v, ev, rfl, hl⟩ := hj9
      have hv6 : vp_in v 6 := by rw [ev]; exact wdC_in _ _ _
      refine lv_istore (lv' := [(13, .int v), (12, .int (kCol (K j))), (11, .int kd), (9, .int (nI j)), (7, .int (nI k)), (6, .ref o6), (5, .int (nI n)), (4, .ref o4), (3, .ref o3), (2, .ref o2), (1, .ref h0), (0, .ref b)]) hx hb dL_law_543 hl (by decide) rfl (fun ls hl => ?_)
      rcases Decidable.em (v = 0) with hv0 | hv0
      · subst hv0
        refine lv_aload_n hx hb dL_law_545 rfl (lv_at hl 10 rfl) ?_
        refine lv_iload hx hb dL_law_546 (lv_at hl 3 rfl) ?_
        refine lv_iload hx hb dL_law_548 (lv_at hl 2 rfl) ?_
        refine va_calli (va_runV (As := [.int (nI j), .int kd]) (rest := []) ⟨hx, hb, hml, hown, hts⟩ (tX2_widened l D A cI cJ cD cC h0 h1 h2 h3 h4 ad wd rd (lY cI cD o2 o3 o4 o6 ow lf kf ct) n K Ln Wh Re cd ct H.size hI.2.1 j hj (by omega) kd hkd ev.symm (fun q h => hA q (Nat.le_trans hS.1 h))) (cwV 2 hts gL_law_X2_widened rfl rfl rfl (by decide +kernel) ⟨Nat.le_of_ble_eq_true rfl, Nat.le_of_ble_eq_true rfl⟩) ⟨tcP.blind, va_recv hK hP (ci := 2) (q0 := 0) rfl rfl, tcP.go hK hP hD hE hS⟩ rfl rfl hl.1 rfl (lv_room (Nat.le_of_ble_eq_true rfl)) dL_law_550 ⟨by show _ ≤ 600086; omega, by show _ ≤ 7301442; omega⟩) hS (fun q _ h => h) (fun q h => h) (fun r9 u9 t9 H locs ht9 hvm9 hw9 hB9 hz9 hk9 hS => ?_)
        obtain ⟨hP, hD⟩ := hB9
        rw [ht9] at hP
        obtain rfl : r9 = nI n := hw9
        obtain ⟨u1, u2, u3⟩ := u9
        have hP : va_P D vwCl (lT cI cJ cD cC h0 h1 h2 h3 h4 o2 o3 o4 o6 (va_up ad n u1) (va_up wd n u2) (va_up rd n u3) (n + 1) (va_up K n kd) (va_up Ln n (Ln j)) (tc_put n (Ln j) (fun i => Wh (40 * j + i)) 0 Wh) (tc_put n (Ln j) (wdV K Wh Re j kd) 0 Re) 0 (noteC ct 0) ow lf kf ct) H := hP
        have hD : va_D A (lT cI cJ cD cC h0 h1 h2 h3 h4 o2 o3 o4 o6 (va_up ad n u1) (va_up wd n u2) (va_up rd n u3) (n + 1) (va_up K n kd) (va_up Ln n (Ln j)) (tc_put n (Ln j) (fun i => Wh (40 * j + i)) 0 Wh) (tc_put n (Ln j) (wdV K Wh Re j kd) 0 Re) 0 (noteC ct 0) ow lf kf ct) := hD
        refine lv_iload hx hb dL_law_553 (lv_at hl 0 rfl) ?_
        refine lv_if_ne (tgt := 563) hx hb dL_law_555 (by decide) (fun q => absurd (by decide) q) (fun _ => ?_)
        refine lv_iload hx hb dL_law_558 (lv_at hl 6 rfl) ?_
        refine lv_goto (tgt := 564) hx hb dL_law_560 (by decide) ?_
        refine lv_icmp_eq (tgt := 569) hx hb dL_law_564 (by decide) (fun _ => ?_) (fun q => absurd (rfl) q)
        refine lv_iload hx hb dL_law_569 (lv_at hl 0 rfl) ?_
        refine lv_if_ne (tgt := 649) hx hb dL_law_571 (by decide) (fun q => absurd (by decide) q) (fun _ => ?_)
        refine lv_aload hx hb dL_law_574 (lv_at hl 7 rfl) ?_
        refine lv_iload hx hb dL_law_576 (lv_at hl 6 rfl) ?_
        refine lv_iload hx hb dL_law_578 (lv_at hl 2 rfl) ?_
        refine va_iast (f := kf) hx hb hK hP hD hS 7 0 rfl rfl (vp_in_nI (show n < 12 by omega) (by decide)) dL_law_580 (fun H locs hP hD hS => ?_)
        have hP : va_P D vwCl (lT cI cJ cD cC h0 h1 h2 h3 h4 o2 o3 o4 o6 (va_up ad n u1) (va_up wd n u2) (va_up rd n u3) (n + 1) (va_up K n kd) (va_up Ln n (Ln j)) (tc_put n (Ln j) (fun i => Wh (40 * j + i)) 0 Wh) (tc_put n (Ln j) (wdV K Wh Re j kd) 0 Re) 0 (noteC ct 0) ow lf (upd kf (nI n).toNatClampNeg kd) ct) H := hP
        have hD : va_D A (lT cI cJ cD cC h0 h1 h2 h3 h4 o2 o3 o4 o6 (va_up ad n u1) (va_up wd n u2) (va_up rd n u3) (n + 1) (va_up K n kd) (va_up Ln n (Ln j)) (tc_put n (Ln j) (fun i => Wh (40 * j + i)) 0 Wh) (tc_put n (Ln j) (wdV K Wh Re j kd) 0 Re) 0 (noteC ct 0) ow lf (upd kf (nI n).toNatClampNeg kd) ct) := hD
        have ew : upd kf (nI n).toNatClampNeg kd = upd kf n kd := by rw [nI_clamp (by omega)]
        rw [ew] at hP hD
        have hP : va_P D vwCl (lT cI cJ cD cC h0 h1 h2 h3 h4 o2 o3 o4 o6 (va_up ad n u1) (va_up wd n u2) (va_up rd n u3) (n + 1) (va_up K n kd) (va_up Ln n (Ln j)) (tc_put n (Ln j) (fun i => Wh (40 * j + i)) 0 Wh) (tc_put n (Ln j) (wdV K Wh Re j kd) 0 Re) 0 (noteC ct 0) ow lf (upd kf n kd) ct) H := hP
        have hD : va_D A (lT cI cJ cD cC h0 h1 h2 h3 h4 o2 o3 o4 o6 (va_up ad n u1) (va_up wd n u2) (va_up rd n u3) (n + 1) (va_up K n kd) (va_up Ln n (Ln j)) (tc_put n (Ln j) (fun i => Wh (40 * j + i)) 0 Wh) (tc_put n (Ln j) (wdV K Wh Re j kd) 0 Re) 0 (noteC ct 0) ow lf (upd kf n kd) ct) := hD
        refine lv_aload_n hx hb dL_law_581 rfl (lv_at hl 8 rfl) ?_
        refine lv_iload hx hb dL_law_582 (lv_at hl 6 rfl) ?_
        refine lv_aload_n hx hb dL_law_584 rfl (lv_at hl 8 rfl) ?_
        refine lv_iload hx hb dL_law_585 (lv_at hl 3 rfl) ?_
        refine tc_iald (f := lf) (v := (nI (Ln j))) hx hb hK hP 6 0 rfl rfl (vp_in_nI (show j < 12 by omega) (by decide)) (PI_lf hI hj) dL_law_587 ?_
        refine va_iast (f := lf) hx hb hK hP hD hS 6 0 rfl rfl (vp_in_nI (show n < 12 by omega) (by decide)) dL_law_588 (fun H locs hP hD hS => ?_)
        have hP : va_P D vwCl (lT cI cJ cD cC h0 h1 h2 h3 h4 o2 o3 o4 o6 (va_up ad n u1) (va_up wd n u2) (va_up rd n u3) (n + 1) (va_up K n kd) (va_up Ln n (Ln j)) (tc_put n (Ln j) (fun i => Wh (40 * j + i)) 0 Wh) (tc_put n (Ln j) (wdV K Wh Re j kd) 0 Re) 0 (noteC ct 0) ow (upd lf (nI n).toNatClampNeg (nI (Ln j))) (upd kf n kd) ct) H := hP
        have hD : va_D A (lT cI cJ cD cC h0 h1 h2 h3 h4 o2 o3 o4 o6 (va_up ad n u1) (va_up wd n u2) (va_up rd n u3) (n + 1) (va_up K n kd) (va_up Ln n (Ln j)) (tc_put n (Ln j) (fun i => Wh (40 * j + i)) 0 Wh) (tc_put n (Ln j) (wdV K Wh Re j kd) 0 Re) 0 (noteC ct 0) ow (upd lf (nI n).toNatClampNeg (nI (Ln j))) (upd kf n kd) ct) := hD
        have ew : upd lf (nI n).toNatClampNeg (nI (Ln j)) = upd lf n (nI (Ln j)) := by rw [nI_clamp (by omega)]
        rw [ew] at hP hD
        have hP : va_P D vwCl (lT cI cJ cD cC h0 h1 h2 h3 h4 o2 o3 o4 o6 (va_up ad n u1) (va_up wd n u2) (va_up rd n u3) (n + 1) (va_up K n kd) (va_up Ln n (Ln j)) (tc_put n (Ln j) (fun i => Wh (40 * j + i)) 0 Wh) (tc_put n (Ln j) (wdV K Wh Re j kd) 0 Re) 0 (noteC ct 0) ow (upd lf n (nI (Ln j))) (upd kf n kd) ct) H := hP
        have hD : va_D A (lT cI cJ cD cC h0 h1 h2 h3 h4 o2 o3 o4 o6 (va_up ad n u1) (va_up wd n u2) (va_up rd n u3) (n + 1) (va_up K n kd) (va_up Ln n (Ln j)) (tc_put n (Ln j) (fun i => Wh (40 * j + i)) 0 Wh) (tc_put n (Ln j) (wdV K Wh Re j kd) 0 Re) 0 (noteC ct 0) ow (upd lf n (nI (Ln j))) (upd kf n kd) ct) := hD
        refine lv_iconst (v := 0) hx hb dL_law_589 (by decide) ?_
        refine lv_istore (lv' := [(14, .int 0), (13, .int 0), (12, .int (kCol (K j))), (11, .int kd), (9, .int (nI j)), (7, .int (nI k)), (6, .ref o6), (5, .int (nI n)), (4, .ref o4), (3, .ref o3), (2, .ref o2), (1, .ref h0), (0, .ref b)]) hx hb dL_law_590 hl (by decide) rfl (fun ls hl => ?_)
        refine tc_loop (fun r9 H locs ls => ∃ (q : Nat), q + r9 = Ln j ∧ va_P D vwCl (lT cI cJ cD cC h0 h1 h2 h3 h4 o2 o3 o4 o6 (va_up ad n u1) (va_up wd n u2) (va_up rd n u3) (n + 1) (va_up K n kd) (va_up Ln n (Ln j)) (tc_put n (Ln j) (fun i => Wh (40 * j + i)) 0 Wh) (tc_put n (Ln j) (wdV K Wh Re j kd) 0 Re) 0 (noteC ct 0) (lWd n j kd ow q) (upd lf n (nI (Ln j))) (upd kf n kd) ct) H ∧ va_D A (lT cI cJ cD cC h0 h1 h2 h3 h4 o2 o3 o4 o6 (va_up ad n u1) (va_up wd n u2) (va_up rd n u3) (n + 1) (va_up K n kd) (va_up Ln n (Ln j)) (tc_put n (Ln j) (fun i => Wh (40 * j + i)) 0 Wh) (tc_put n (Ln j) (wdV K Wh Re j kd) 0 Re) 0 (noteC ct 0) (lWd n j kd ow q) (upd lf n (nI (Ln j))) (upd kf n kd) ct) ∧ va_S A s.heap H locs ∧ lv_has ls 18 [(14, .int (nI q)), (13, .int 0), (11, .int kd), (9, .int (nI j)), (7, .int (nI k)), (6, .ref o6), (5, .int (nI n)), (4, .ref o4), (3, .ref o3), (2, .ref o2), (1, .ref h0), (0, .ref b)]) (fun r9 H locs ls hv ih => ?_) (fun H locs ls hv => ?_) (Ln j) ⟨0, by omega, by rw [lWd_0]; exact hP, by rw [lWd_0]; exact hD, hS, lv_sub hl [0, 1, 3, 4, 5, 6, 7, 8, 9, 10, 11, 12] rfl⟩
        · obtain ⟨q, hqn, hP, hD, hS, hl⟩ := hv
          have hq : q < Ln j := by omega
          have hnn := cOK_n (hI.2.2.2 j hj q hq)
          refine lv_iload hx hb dL_law_592 (lv_at hl 0 rfl) ?_
          refine lv_aload_n hx hb dL_law_594 rfl (lv_at hl 8 rfl) ?_
          refine lv_iload hx hb dL_law_595 (lv_at hl 3 rfl) ?_
          refine tc_iald (f := (upd lf n (nI (Ln j)))) (v := (nI (Ln j))) hx hb hK hP 6 0 rfl rfl (vp_in_nI (show j < 12 by omega) (by decide)) (by rw [nI_clamp (by omega)]; exact (if_neg (by omega)).trans (hI.2.2.1 j hj).2.1) dL_law_597 ?_
          refine lv_icmp_ge (tgt := 646) hx hb dL_law_598 (by decide) (fun q => absurd q (nI_ge hq (by omega))) (fun _ => ?_)
          refine lv_aload_n hx hb dL_law_601 rfl (lv_at hl 9 rfl) ?_
          refine lv_iconst (v := 5) hx hb dL_law_602 (by decide) ?_
          refine lv_iload hx hb dL_law_603 (lv_at hl 6 rfl) ?_
          refine lv_imul hx hb dL_law_605 ?_
          refine lv_iload hx hb dL_law_606 (lv_at hl 0 rfl) ?_
          refine lv_iadd hx hb dL_law_608 ?_
          refine lv_topi (fun x9 e9 => ?_)
          obtain rfl : x9 = nI (5 * n + q) := by rw [e9]; exact ix5 n q
          refine lv_iload hx hb dL_law_609 (lv_at hl 2 rfl) ?_
          refine lv_bipush (v := 7) hx hb dL_law_611 (by decide) ?_
          refine lv_icmp_ne (tgt := 630) hx hb dL_law_613 (by decide) (fun c_6 => ?_) (fun c_6 => ?_)
          · refine lv_aload_n hx hb dL_law_630 rfl (lv_at hl 9 rfl) ?_
            refine lv_iconst (v := 5) hx hb dL_law_631 (by decide) ?_
            refine lv_iload hx hb dL_law_632 (lv_at hl 3 rfl) ?_
            refine lv_imul hx hb dL_law_634 ?_
            refine lv_iload hx hb dL_law_635 (lv_at hl 0 rfl) ?_
            refine lv_iadd hx hb dL_law_637 ?_
            refine lv_topi (fun x9 e9 => ?_)
            obtain rfl : x9 = nI (5 * j + q) := by rw [e9]; exact ix5 j q
            refine tc_dald (f := (lWd n j kd ow q)) (v := (ow (5 * j + q))) hx hb hK hP 5 2 rfl rfl (vp_in_nI (show 5 * j + q < 60 by omega) (by decide)) (by rw [nI_clamp (by omega)]; exact lWd_old hj (by omega)) dL_law_638 ?_
            refine va_dast (f := (lWd n j kd ow q)) hx hb hK hP hD hS 5 2 rfl rfl (vp_in_nI (show 5 * n + q < 60 by omega) (by decide)) dL_law_639 (fun H locs hP hD hS => ?_)
            have hP : va_P D vwCl (lT cI cJ cD cC h0 h1 h2 h3 h4 o2 o3 o4 o6 (va_up ad n u1) (va_up wd n u2) (va_up rd n u3) (n + 1) (va_up K n kd) (va_up Ln n (Ln j)) (tc_put n (Ln j) (fun i => Wh (40 * j + i)) 0 Wh) (tc_put n (Ln j) (wdV K Wh Re j kd) 0 Re) 0 (noteC ct 0) (vf_upd (lWd n j kd ow q) (nI (5 * n + q)).toNatClampNeg (ow (5 * j + q))) (upd lf n (nI (Ln j))) (upd kf n kd) ct) H := hP
            have hD : va_D A (lT cI cJ cD cC h0 h1 h2 h3 h4 o2 o3 o4 o6 (va_up ad n u1) (va_up wd n u2) (va_up rd n u3) (n + 1) (va_up K n kd) (va_up Ln n (Ln j)) (tc_put n (Ln j) (fun i => Wh (40 * j + i)) 0 Wh) (tc_put n (Ln j) (wdV K Wh Re j kd) 0 Re) 0 (noteC ct 0) (vf_upd (lWd n j kd ow q) (nI (5 * n + q)).toNatClampNeg (ow (5 * j + q))) (upd lf n (nI (Ln j))) (upd kf n kd) ct) := hD
            have ew : vf_upd (lWd n j kd ow q) (nI (5 * n + q)).toNatClampNeg (ow (5 * j + q)) = (lWd n j kd ow (q + 1)) := by rw [nI_clamp (by omega)]; exact lWd_s n j kd ow q (if_neg c_6).symm
            rw [ew] at hP hD
            have hP : va_P D vwCl (lT cI cJ cD cC h0 h1 h2 h3 h4 o2 o3 o4 o6 (va_up ad n u1) (va_up wd n u2) (va_up rd n u3) (n + 1) (va_up K n kd) (va_up Ln n (Ln j)) (tc_put n (Ln j) (fun i => Wh (40 * j + i)) 0 Wh) (tc_put n (Ln j) (wdV K Wh Re j kd) 0 Re) 0 (noteC ct 0) (lWd n j kd ow (q + 1)) (upd lf n (nI (Ln j))) (upd kf n kd) ct) H := hP
            have hD : va_D A (lT cI cJ cD cC h0 h1 h2 h3 h4 o2 o3 o4 o6 (va_up ad n u1) (va_up wd n u2) (va_up rd n u3) (n + 1) (va_up K n kd) (va_up Ln n (Ln j)) (tc_put n (Ln j) (fun i => Wh (40 * j + i)) 0 Wh) (tc_put n (Ln j) (wdV K Wh Re j kd) 0 Re) 0 (noteC ct 0) (lWd n j kd ow (q + 1)) (upd lf n (nI (Ln j))) (upd kf n kd) ct) := hD
            refine lv_iinc (v := (nI (q + 1))) (lv' := [(14, .int (nI (q + 1))), (13, .int 0), (11, .int kd), (9, .int (nI j)), (7, .int (nI k)), (6, .ref o6), (5, .int (nI n)), (4, .ref o4), (3, .ref o3), (2, .ref o2), (1, .ref h0), (0, .ref b)]) hx hb dL_law_640 hl (k := 0) rfl (by rw [nI_succ]; rfl) (by decide) rfl (fun ls hl => ?_)
            refine lv_goto (tgt := 592) hx hb dL_law_643 (by decide) ?_
            exact ih _ _ _ ⟨q + 1, by omega, hP, hD, hS, lv_sub hl [0, 1, 2, 3, 4, 5, 6, 7, 8, 9, 10, 11] rfl⟩
          · refine lv_aload_n hx hb dL_law_616 rfl (lv_at hl 9 rfl) ?_
            refine lv_iconst (v := 5) hx hb dL_law_617 (by decide) ?_
            refine lv_iload hx hb dL_law_618 (lv_at hl 3 rfl) ?_
            refine lv_imul hx hb dL_law_620 ?_
            refine lv_iload hx hb dL_law_621 (lv_at hl 0 rfl) ?_
            refine lv_iadd hx hb dL_law_623 ?_
            refine lv_topi (fun x9 e9 => ?_)
            obtain rfl : x9 = nI (5 * j + q) := by rw [e9]; exact ix5 j q
            refine tc_dald (f := (lWd n j kd ow q)) (v := (ow (5 * j + q))) hx hb hK hP 5 2 rfl rfl (vp_in_nI (show 5 * j + q < 60 by omega) (by decide)) (by rw [nI_clamp (by omega)]; exact lWd_old hj (by omega)) dL_law_624 ?_
            refine lv_d2f hx hb dL_law_625 ((tf_n32 _).mpr ((FP.d2f_nan _).trans hnn)) ?_
            refine lv_f2d hx hb dL_law_626 ((tf_n64 _).mpr (tf_f2d ((FP.d2f_nan _).trans hnn))) ?_
            refine lv_goto (tgt := 639) hx hb dL_law_627 (by decide) ?_
            refine va_dast (f := (lWd n j kd ow q)) hx hb hK hP hD hS 5 2 rfl rfl (vp_in_nI (show 5 * n + q < 60 by omega) (by decide)) dL_law_639 (fun H locs hP hD hS => ?_)
            have hP : va_P D vwCl (lT cI cJ cD cC h0 h1 h2 h3 h4 o2 o3 o4 o6 (va_up ad n u1) (va_up wd n u2) (va_up rd n u3) (n + 1) (va_up K n kd) (va_up Ln n (Ln j)) (tc_put n (Ln j) (fun i => Wh (40 * j + i)) 0 Wh) (tc_put n (Ln j) (wdV K Wh Re j kd) 0 Re) 0 (noteC ct 0) (vf_upd (lWd n j kd ow q) (nI (5 * n + q)).toNatClampNeg (FP.f2d (FP.d2f (ow (5 * j + q))))) (upd lf n (nI (Ln j))) (upd kf n kd) ct) H := hP
            have hD : va_D A (lT cI cJ cD cC h0 h1 h2 h3 h4 o2 o3 o4 o6 (va_up ad n u1) (va_up wd n u2) (va_up rd n u3) (n + 1) (va_up K n kd) (va_up Ln n (Ln j)) (tc_put n (Ln j) (fun i => Wh (40 * j + i)) 0 Wh) (tc_put n (Ln j) (wdV K Wh Re j kd) 0 Re) 0 (noteC ct 0) (vf_upd (lWd n j kd ow q) (nI (5 * n + q)).toNatClampNeg (FP.f2d (FP.d2f (ow (5 * j + q))))) (upd lf n (nI (Ln j))) (upd kf n kd) ct) := hD
            have ew : vf_upd (lWd n j kd ow q) (nI (5 * n + q)).toNatClampNeg (FP.f2d (FP.d2f (ow (5 * j + q)))) = (lWd n j kd ow (q + 1)) := by rw [nI_clamp (by omega)]; exact lWd_s n j kd ow q (if_pos c_6).symm
            rw [ew] at hP hD
            have hP : va_P D vwCl (lT cI cJ cD cC h0 h1 h2 h3 h4 o2 o3 o4 o6 (va_up ad n u1) (va_up wd n u2) (va_up rd n u3) (n + 1) (va_up K n kd) (va_up Ln n (Ln j)) (tc_put n (Ln j) (fun i => Wh (40 * j + i)) 0 Wh) (tc_put n (Ln j) (wdV K Wh Re j kd) 0 Re) 0 (noteC ct 0) (lWd n j kd ow (q + 1)) (upd lf n (nI (Ln j))) (upd kf n kd) ct) H := hP
            have hD : va_D A (lT cI cJ cD cC h0 h1 h2 h3 h4 o2 o3 o4 o6 (va_up ad n u1) (va_up wd n u2) (va_up rd n u3) (n + 1) (va_up K n kd) (va_up Ln n (Ln j)) (tc_put n (Ln j) (fun i => Wh (40 * j + i)) 0 Wh) (tc_put n (Ln j) (wdV K Wh Re j kd) 0 Re) 0 (noteC ct 0) (lWd n j kd ow (q + 1)) (upd lf n (nI (Ln j))) (upd kf n kd) ct) := hD
            refine lv_iinc (v := (nI (q + 1))) (lv' := [(14, .int (nI (q + 1))), (13, .int 0), (11, .int kd), (9, .int (nI j)), (7, .int (nI k)), (6, .ref o6), (5, .int (nI n)), (4, .ref o4), (3, .ref o3), (2, .ref o2), (1, .ref h0), (0, .ref b)]) hx hb dL_law_640 hl (k := 0) rfl (by rw [nI_succ]; rfl) (by decide) rfl (fun ls hl => ?_)
            refine lv_goto (tgt := 592) hx hb dL_law_643 (by decide) ?_
            exact ih _ _ _ ⟨q + 1, by omega, hP, hD, hS, lv_sub hl [0, 1, 2, 3, 4, 5, 6, 7, 8, 9, 10, 11] rfl⟩
        · obtain ⟨q, hqn, hP, hD, hS, hl⟩ := hv
          obtain rfl : q = Ln j := by omega
          refine lv_iload hx hb dL_law_592 (lv_at hl 0 rfl) ?_
          refine lv_aload_n hx hb dL_law_594 rfl (lv_at hl 8 rfl) ?_
          refine lv_iload hx hb dL_law_595 (lv_at hl 3 rfl) ?_
          refine tc_iald (f := (upd lf n (nI (Ln j)))) (v := (nI (Ln j))) hx hb hK hP 6 0 rfl rfl (vp_in_nI (show j < 12 by omega) (by decide)) (by rw [nI_clamp (by omega)]; exact (if_neg (by omega)).trans (hI.2.2.1 j hj).2.1) dL_law_597 ?_
          refine lv_icmp_ge (tgt := 646) hx hb dL_law_598 (by decide) (fun _ => ?_) (fun q => absurd (nI_le (Nat.le_refl _) (by omega)) q)
          refine lv_iinc (v := (nI (n + 1))) (lv' := [(5, .int (nI (n + 1))), (14, .int (nI (Ln j))), (13, .int 0), (11, .int kd), (9, .int (nI j)), (7, .int (nI k)), (6, .ref o6), (4, .ref o4), (3, .ref o3), (2, .ref o2), (1, .ref h0), (0, .ref b)]) hx hb dL_law_646 hl (k := 6) rfl (by rw [nI_succ]; rfl) (by decide) rfl (fun ls hl => ?_)
          refine W.widen (k := ce + 3) (n := sl + 44) (by omega) (by omega) ?_
          exact kc (va_up ad n u1) (va_up wd n u2) (va_up rd n u3) (n + 1) (va_up K n kd) (va_up Ln n (Ln j)) (tc_put n (Ln j) (fun i => Wh (40 * j + i)) 0 Wh) (tc_put n (Ln j) (wdV K Wh Re j kd) 0 Re) (lWd n j kd ow (Ln j)) (upd lf n (nI (Ln j))) (upd kf n kd) _ _ _ _ (PI_wid hI hn hj hkd ev.symm) (Nat.le_succ_of_le h10) (by unfold vp_in; decide) hP hD hS (lv_sub hl [2, 5, 6, 0, 7, 8, 9, 10, 11] rfl)
      · refine lv_aload_n hx hb dL_law_545 rfl (lv_at hl 10 rfl) ?_
        refine lv_iload hx hb dL_law_546 (lv_at hl 3 rfl) ?_
        refine lv_iload hx hb dL_law_548 (lv_at hl 2 rfl) ?_
        refine va_calli (va_runV (As := [.int (nI j), .int kd]) (rest := []) ⟨hx, hb, hml, hown, hts⟩ (tX2_widened_no l D A cI cJ cD cC h0 h1 h2 h3 h4 ad wd rd (lY cI cD o2 o3 o4 o6 ow lf kf ct) n K Ln Wh Re cd ct H.size hI.2.1 j hj (by omega) kd hkd (by rw [← ev]; exact hv0)) (cwV 2 hts gL_law_X2_widened rfl rfl rfl (by decide +kernel) ⟨Nat.le_of_ble_eq_true rfl, Nat.le_of_ble_eq_true rfl⟩) ⟨tcP.blind, va_recv hK hP (ci := 2) (q0 := 0) rfl rfl, tcP.go hK hP hD hE hS⟩ rfl rfl hl.1 rfl (lv_room (Nat.le_of_ble_eq_true rfl)) dL_law_550 ⟨by show _ ≤ 600086; omega, by show _ ≤ 7301442; omega⟩) hS (fun q _ h => h) (fun q h => h) (fun r9 u9 t9 H locs ht9 hvm9 hw9 hB9 hz9 hk9 hS => ?_)
        obtain ⟨hP, hD⟩ := hB9
        rw [ht9] at hP
        obtain rfl : r9 = -1 := hw9
        rw [← ev] at hP hD
        refine lv_iload hx hb dL_law_553 (lv_at hl 0 rfl) ?_
        refine lv_if_ne (tgt := 563) hx hb dL_law_555 (by decide) (fun _ => ?_) (fun q => absurd q (hv0))
        refine lv_iconst (v := (-1)) hx hb dL_law_563 (by decide) ?_
        refine lv_icmp_eq (tgt := 569) hx hb dL_law_564 (by decide) (fun _ => ?_) (fun q => absurd (by decide) q)
        refine lv_iload hx hb dL_law_569 (lv_at hl 0 rfl) ?_
        refine lv_if_ne (tgt := 649) hx hb dL_law_571 (by decide) (fun _ => ?_) (fun q => absurd q (hv0))
        refine W.widen (k := ce + 3) (n := sl + 44) (by omega) (by omega) ?_
        exact kc ad wd rd n K Ln Wh Re ow lf kf _ _ _ _ (hI) (h10) (hv6) hP hD hS (lv_sub hl [0, 4, 5, 6, 7, 8, 9, 10, 11] rfl)
    · refine lv_iload hx hb dL_law_515 (lv_at hl 0 rfl) ?_
      refine lv_if_le (tgt := 525) hx hb dL_law_517 (by decide) (fun c_11 => ?_) (fun c_11 => ?_)
      · have hc0 : kCol (K j) = 0 := kCol_le c_11
        have hh : kHas (K j) = true := kCol_has (hI.2.1.2.1 j hj).1 hc0
        obtain ⟨k9, hk9, ek9⟩ := kHas_n hh
        obtain ⟨k8, hk8, rfl⟩ := kHas_n hkd
        refine lv_aload hx hb dL_law_525 (lv_at hl 6 rfl) ?_
        refine lv_iload hx hb dL_law_527 (lv_at hl 2 rfl) ?_
        refine tc_iald (f := kf) (v := (nI (k9 + 1))) hx hb hK hP 7 0 rfl rfl (vp_in_nI (show j < 12 by omega) (by decide)) ((PI_kf hI hj).trans ek9) dL_law_529 ?_
        refine lv_iload hx hb dL_law_530 (lv_at hl 1 rfl) ?_
        refine vp_callSi (W.runS (As := [.int (nI (k9 + 1)), .int (nI (k8 + 1))]) (rest := []) ⟨hx, hb, hml, hown, hts⟩ (lL_widens l adK adV k9 k8 hk9 hk8) (va_cwS 2 hts gL_law_L_widens rfl rfl rfl (by decide +kernel) ⟨Nat.le_of_ble_eq_true rfl, Nat.le_of_ble_eq_true rfl⟩) ⟨twP.blind, twP.go hT hTR hS⟩ rfl rfl hl.1 rfl (lv_room (Nat.le_of_ble_eq_true rfl)) dL_law_532 ⟨by show _ ≤ 600086; omega, by show _ ≤ 7301442; omega⟩) (fun r9 h9 => ?_)
        subst h9
        rw [← ek9]
        refine lv_if_eq (tgt := 542) hx hb dL_law_535 (by decide) (fun c_12 => ?_) (fun c_12 => ?_)
        · refine lv_iconst (v := 4) hx hb dL_law_542 (by decide) ?_
          exact k543 _ _ ⟨_, wdC_w4 hc0 c_12, rfl, hl⟩
        · refine lv_iconst (v := 0) hx hb dL_law_538 (by decide) ?_
          refine lv_goto (tgt := 543) hx hb dL_law_539 (by decide) ?_
          exact k543 _ _ ⟨_, wdC_w0 hc0 c_12, rfl, hl⟩
      · refine lv_iload hx hb dL_law_520 (lv_at hl 0 rfl) ?_
        refine lv_goto (tgt := 543) hx hb dL_law_522 (by decide) ?_
        exact k543 _ _ ⟨_, wdC_c (fun z => c_11 (by rw [z]; decide)), rfl, hl⟩
  · refine lv_goto (tgt := 831) hx hb dL_law_512 (by decide) ?_
    refine W.widen (k := ce + 3) (n := sl + 44) (by omega) (by omega) ?_
    exact kc2 _ _ _ hP hD hS (lv_sub hl [3, 4, 5, 6, 7, 8, 9, 10] rfl)
