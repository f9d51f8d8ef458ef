/-! THE LAW: after each step every cell is read, each column added up, each count asked -/
set_option maxHeartbeats 4000000 in
set_option maxRecDepth 100000 in
theorem law_rd {p : Program} {l : Launch} {e : Env} {s : State} {m : MethodId} {below : List Frame} {meth : Method} {c : Code} {D : va_G} {A : Nat → Prop} {cI cJ cD cC : ClassId} {h0 h1 h2 h3 h4 o2 o3 o4 o6 : Nat} {b L : Nat} {xs : Nat → Int32} {adK adV : Nat → Nat} {Q : State → Prop} (C0 : LCtx p D A cI cJ cD cC s m c b L xs adK adV) {ad wd rd : Nat → Nat} {n : Nat} {K : Nat → Int32} {Ln : Nat → Nat} {Wh : Nat → Int64} {Re : Nat → UInt64} {ow : Nat → UInt64} {lf kf : Nat → Int32} {q k : Nat} (hq : q < n) (hI : PI n K Ln Wh Re ow lf kf) {ce sl : Nat} (hce : ce + 3 ≤ 600086) (hsl : sl + 44 ≤ 7301442) (kc : ∀ (cd : Int32) (ct : Nat → Int32) (H : Heap) (locs : List Loc) (ls : Array Slot), va_P D vwCl (lT cI cJ cD cC h0 h1 h2 h3 h4 o2 o3 o4 o6 ad wd rd n K Ln Wh Re cd ct ow lf kf ct) H → va_D A (lT cI cJ cD cC h0 h1 h2 h3 h4 o2 o3 o4 o6 ad wd rd n K Ln Wh Re cd ct ow lf kf ct) → va_S A s.heap H locs → lv_has ls 18 [(15, .double (lsum (fun t8 => ow (5 * q + t8)) (Ln q))), (14, .int (nI q)), (7, .int (nI k)), (6, .ref o6), (5, .int (nI n)), (4, .ref o4), (3, .ref o3), (2, .ref o2), (1, .ref h0), (0, .ref b)] → W p l e room_1 s m #[Value.ref b] below meth c H locs ce sl Q (F0 m 745 ls [])) {cd : Int32} {ct : Nat → Int32} {H : Heap} {locs : List Loc} {ls : Array Slot} (hP : va_P D vwCl (lT cI cJ cD cC h0 h1 h2 h3 h4 o2 o3 o4 o6 ad wd rd n K Ln Wh Re cd ct ow lf kf ct) H) (hD : va_D A (lT cI cJ cD cC h0 h1 h2 h3 h4 o2 o3 o4 o6 ad wd rd n K Ln Wh Re cd ct ow lf kf ct)) (hS : va_S A s.heap H locs) (hl : lv_has ls 18 [(17, .int (nI 0)), (15, .double (lsum (fun t8 => ow (5 * q + t8)) 0)), (14, .int (nI q)), (7, .int (nI k)), (6, .ref o6), (5, .int (nI n)), (4, .ref o4), (3, .ref o3), (2, .ref o2), (1, .ref h0), (0, .ref b)]) : W p l e room_1 s m #[Value.ref b] below meth c H locs ce sl Q (F0 m 685 ls []) := by
  obtain ⟨hx, hb, hml, hown, hts, hX, hbl, hbA, hA, hL, hK, hE, hT, hTR⟩ := C0
  have hn12 := hI.1
  have hL5 := (hI.2.2.1 q hq).2.2
  refine tc_loop (fun r9 H locs ls => ∃ (i : Nat) (cd : Int32) (ct : Nat → Int32), i + r9 = Ln q ∧ va_P D vwCl (lT cI cJ cD cC h0 h1 h2 h3 h4 o2 o3 o4 o6 ad wd rd n K Ln Wh Re cd ct ow lf kf ct) H ∧ va_D A (lT cI cJ cD cC h0 h1 h2 h3 h4 o2 o3 o4 o6 ad wd rd n K Ln Wh Re cd ct ow lf kf ct) ∧ va_S A s.heap H locs ∧ lv_has ls 18 [(17, .int (nI i)), (15, .double (lsum (fun t8 => ow (5 * q + t8)) i)), (14, .int (nI q)), (7, .int (nI k)), (6, .ref o6), (5, .int (nI n)), (4, .ref o4), (3, .ref o3), (2, .ref o2), (1, .ref h0), (0, .ref b)]) (fun r9 H locs ls hv ih => ?_) (fun H locs ls hv => ?_) (Ln q) ⟨0, cd, ct, by omega, hP, hD, hS, hl⟩
  · obtain ⟨i, cd, ct, hi, hP, hD, hS, hl⟩ := hv
    have hiq : i < Ln q := by omega
    refine lv_iload hx hb dL_law_685 (lv_at hl 0 rfl) ?_
    refine lv_aload_n hx hb dL_law_687 rfl (lv_at hl 7 rfl) ?_
    refine lv_iload hx hb dL_law_688 (lv_at hl 2 rfl) ?_
    refine tc_iald (f := lf) (v := (nI (Ln q))) hx hb hK hP 6 0 rfl rfl (vp_in_nI (show q < 12 by omega) (by decide)) (PI_lf hI hq) dL_law_690 ?_
    refine lv_icmp_ge (tgt := 745) hx hb dL_law_691 (by decide) (fun q => absurd q (nI_ge hiq (by omega))) (fun _ => ?_)
    refine lv_aload_n hx hb dL_law_694 rfl (lv_at hl 9 rfl) ?_
    refine lv_iload hx hb dL_law_695 (lv_at hl 2 rfl) ?_
    refine lv_iload hx hb dL_law_697 (lv_at hl 0 rfl) ?_
    refine va_calld (va_runV (As := [.int (nI q), .int (nI i)]) (rest := []) ⟨hx, hb, hml, hown, hts⟩ (tX2_readAny l D A cI cJ cD cC h0 h1 h2 h3 h4 ad wd rd (lY cI cD o2 o3 o4 o6 ow lf kf ct) n K Ln Wh Re cd ct H.size hI.2.1 q hq (nI i)) (cwV 2 hts gL_law_X2_readAny rfl rfl rfl (by decide +kernel) ⟨Nat.le_of_ble_eq_true rfl, Nat.le_of_ble_eq_true rfl⟩) ⟨tcP.blind, va_recv hK hP (ci := 2) (q0 := 0) rfl rfl, tcP.go hK hP hD hE hS⟩ rfl rfl hl.1 rfl (lv_room (Nat.le_of_ble_eq_true rfl)) dL_law_699 ⟨by show _ ≤ 600086; omega, by show _ ≤ 7301442; omega⟩) hS (fun q _ h => h) (fun q h => h) (fun r9 u9 t9 H locs ht9 hvm9 hw9 hB9 hz9 hk9 hS => ?_)
    obtain ⟨hP, hD⟩ := hB9
    rw [ht9] at hP
    obtain ⟨g1, g2, g3⟩ := PI_rd hI hq hiq
    obtain rfl : r9 = ow (5 * q + i) := hw9.trans g2
    rw [g1] at hP hD
    refine lv_aload_n hx hb dL_law_702 rfl (lv_at hl 8 rfl) ?_
    refine lv_iconst (v := 5) hx hb dL_law_703 (by decide) ?_
    refine lv_iload hx hb dL_law_704 (lv_at hl 2 rfl) ?_
    refine lv_imul hx hb dL_law_706 ?_
    refine lv_iload hx hb dL_law_707 (lv_at hl 0 rfl) ?_
    refine lv_iadd hx hb dL_law_709 ?_
    refine lv_topi (fun x9 e9 => ?_)
    obtain rfl : x9 = nI (5 * q + i) := by rw [e9]; exact ix5 q i
    refine tc_dald (f := ow) (v := (ow (5 * q + i))) hx hb hK hP 5 2 rfl rfl (vp_in_nI (show 5 * q + i < 60 by omega) (by decide)) (by rw [nI_clamp (by omega)]) dL_law_710 ?_
    refine lv_dcmp hx hb dL_law_711 ?_
    refine lv_if_eq (tgt := 717) hx hb dL_law_712 (by decide) (fun _ => ?_) (fun q => absurd ((tf_cl0 _).mpr (tf_dcmp_self _ g3)) q)
    refine lv_aload hx hb dL_law_717 (lv_at hl 4 rfl) ?_
    refine lv_iconst (v := 0) hx hb dL_law_719 (by decide) ?_
    refine lv_dup2_11 hx hb dL_law_720 rfl rfl ?_
    refine tc_iald (f := ct) (v := (ct (0 : Int32).toNatClampNeg)) hx hb hK hP 8 0 rfl rfl (by unfold vp_in; decide) (rfl) dL_law_721 ?_
    refine lv_iconst (v := 1) hx hb dL_law_722 (by decide) ?_
    refine lv_iadd hx hb dL_law_723 ?_
    refine va_iast (f := ct) hx hb hK hP hD hS 8 0 rfl rfl (by unfold vp_in; decide) dL_law_724 (fun H locs hP hD hS => ?_)
    have hP : va_P D vwCl (lT cI cJ cD cC h0 h1 h2 h3 h4 o2 o3 o4 o6 ad wd rd n K Ln Wh Re 0 (noteC ct 0) ow lf kf (noteC ct 0)) H := hP
    have hD : va_D A (lT cI cJ cD cC h0 h1 h2 h3 h4 o2 o3 o4 o6 ad wd rd n K Ln Wh Re 0 (noteC ct 0) ow lf kf (noteC ct 0)) := hD
    refine lv_dload hx hb dL_law_725 (lv_at hl 1 rfl) ?_
    refine lv_aload_n hx hb dL_law_727 rfl (lv_at hl 8 rfl) ?_
    refine lv_iconst (v := 5) hx hb dL_law_728 (by decide) ?_
    refine lv_iload hx hb dL_law_729 (lv_at hl 2 rfl) ?_
    refine lv_imul hx hb dL_law_731 ?_
    refine lv_iload hx hb dL_law_732 (lv_at hl 0 rfl) ?_
    refine lv_iadd hx hb dL_law_734 ?_
    refine lv_topi (fun x9 e9 => ?_)
    obtain rfl : x9 = nI (5 * q + i) := by rw [e9]; exact ix5 q i
    refine tc_dald (f := ow) (v := (ow (5 * q + i))) hx hb hK hP 5 2 rfl rfl (vp_in_nI (show 5 * q + i < 60 by omega) (by decide)) (by rw [nI_clamp (by omega)]) dL_law_735 ?_
    refine lv_dadd hx hb dL_law_736 ((tf_n64 _).mpr (PI_totn hI hq (k := i + 1) (by omega))) ?_
    refine lv_dstore (lv' := [(15, .double (FP.dadd (lsum (fun t8 => ow (5 * q + t8)) i) (ow (5 * q + i)))), (17, .int (nI i)), (14, .int (nI q)), (7, .int (nI k)), (6, .ref o6), (5, .int (nI n)), (4, .ref o4), (3, .ref o3), (2, .ref o2), (1, .ref h0), (0, .ref b)]) hx hb dL_law_737 hl (by decide) rfl (fun ls hl => ?_)
    refine lv_iinc (v := (nI (i + 1))) (lv' := [(17, .int (nI (i + 1))), (15, .double (FP.dadd (lsum (fun t8 => ow (5 * q + t8)) i) (ow (5 * q + i)))), (14, .int (nI q)), (7, .int (nI k)), (6, .ref o6), (5, .int (nI n)), (4, .ref o4), (3, .ref o3), (2, .ref o2), (1, .ref h0), (0, .ref b)]) hx hb dL_law_739 hl (k := 1) rfl (by rw [nI_succ]; rfl) (by decide) rfl (fun ls hl => ?_)
    refine lv_goto (tgt := 685) hx hb dL_law_742 (by decide) ?_
    exact ih _ _ _ ⟨i + 1, _, _, by omega, hP, hD, hS, lv_sub hl [0, 1, 2, 3, 4, 5, 6, 7, 8, 9, 10] rfl⟩
  · obtain ⟨i, cd, ct, hi, hP, hD, hS, hl⟩ := hv
    obtain rfl : i = Ln q := by omega
    refine lv_iload hx hb dL_law_685 (lv_at hl 0 rfl) ?_
    refine lv_aload_n hx hb dL_law_687 rfl (lv_at hl 7 rfl) ?_
    refine lv_iload hx hb dL_law_688 (lv_at hl 2 rfl) ?_
    refine tc_iald (f := lf) (v := (nI (Ln q))) hx hb hK hP 6 0 rfl rfl (vp_in_nI (show q < 12 by omega) (by decide)) (PI_lf hI hq) dL_law_690 ?_
    refine lv_icmp_ge (tgt := 745) hx hb dL_law_691 (by decide) (fun _ => ?_) (fun q => absurd (nI_le (Nat.le_refl _) (by omega)) q)
    exact kc _ _ _ _ _ hP hD hS (lv_sub hl [1, 2, 3, 4, 5, 6, 7, 8, 9, 10] rfl)
theorem kCol_1 {k : Int32} (h : k = 0) : kCol k = 1 := if_pos h
theorem kCol_2 {k : Int32} (h : ¬ k = 0) (h2 : k = 9) : kCol k = 2 := by unfold kCol; rw [if_neg h, if_pos h2]
theorem kCol_0 {k : Int32} (h : ¬ k = 0) (h2 : ¬ k = 9) : kCol k = 0 := by unfold kCol; rw [if_neg h, if_neg h2]
set_option maxHeartbeats 4000000 in
set_option maxRecDepth 100000 in
theorem law_cols {p : Program} {l : Launch} {e : Env} {s : State} {m : MethodId} {below : List Frame} {meth : Method} {c : Code} {D : va_G} {A : Nat → Prop} {cI cJ cD cC : ClassId} {h0 h1 h2 h3 h4 o2 o3 o4 o6 : Nat} {b L : Nat} {xs : Nat → Int32} {adK adV : Nat → Nat} {Q : State → Prop} (C0 : LCtx p D A cI cJ cD cC s m c b L xs adK adV) {ad wd rd : Nat → Nat} {n : Nat} {K : Nat → Int32} {Ln : Nat → Nat} {Wh : Nat → Int64} {Re : Nat → UInt64} {ow : Nat → UInt64} {lf kf : Nat → Int32} {k : Nat} (hI : PI n K Ln Wh Re ow lf kf) {ce sl : Nat} (hce : ce + 3 ≤ 600086) (hsl : sl + 44 ≤ 7301442) (kc : ∀ (cd : Int32) (ct : Nat → Int32) (H : Heap) (locs : List Loc) (ls : Array Slot), va_P D vwCl (lT cI cJ cD cC h0 h1 h2 h3 h4 o2 o3 o4 o6 ad wd rd n K Ln Wh Re cd ct ow lf kf ct) H → va_D A (lT cI cJ cD cC h0 h1 h2 h3 h4 o2 o3 o4 o6 ad wd rd n K Ln Wh Re cd ct ow lf kf ct) → va_S A s.heap H locs → lv_has ls 18 [(7, .int (nI k)), (6, .ref o6), (5, .int (nI n)), (4, .ref o4), (3, .ref o3), (2, .ref o2), (1, .ref h0), (0, .ref b)] → W p l e room_1 s m #[Value.ref b] below meth c H locs ce sl Q (F0 m 799 ls [])) {cd : Int32} {ct : Nat → Int32} {H : Heap} {locs : List Loc} {ls : Array Slot} (hP : va_P D vwCl (lT cI cJ cD cC h0 h1 h2 h3 h4 o2 o3 o4 o6 ad wd rd n K Ln Wh Re cd ct ow lf kf ct) H) (hD : va_D A (lT cI cJ cD cC h0 h1 h2 h3 h4 o2 o3 o4 o6 ad wd rd n K Ln Wh Re cd ct ow lf kf ct)) (hS : va_S A s.heap H locs) (hl : lv_has ls 18 [(14, .int (nI 0)), (7, .int (nI k)), (6, .ref o6), (5, .int (nI n)), (4, .ref o4), (3, .ref o3), (2, .ref o2), (1, .ref h0), (0, .ref b)]) : W p l e room_1 s m #[Value.ref b] below meth c H locs ce sl Q (F0 m 672 ls []) := by
  have C1 := C0
  obtain ⟨hx, hb, hml, hown, hts, hX, hbl, hbA, hA, hL, hK, hE, hT, hTR⟩ := C0
  have hn12 := hI.1
  refine tc_loop (fun r9 H locs ls => ∃ (q : Nat) (cd : Int32) (ct : Nat → Int32), q + r9 = n ∧ va_P D vwCl (lT cI cJ cD cC h0 h1 h2 h3 h4 o2 o3 o4 o6 ad wd rd n K Ln Wh Re cd ct ow lf kf ct) H ∧ va_D A (lT cI cJ cD cC h0 h1 h2 h3 h4 o2 o3 o4 o6 ad wd rd n K Ln Wh Re cd ct ow lf kf ct) ∧ va_S A s.heap H locs ∧ lv_has ls 18 [(14, .int (nI q)), (7, .int (nI k)), (6, .ref o6), (5, .int (nI n)), (4, .ref o4), (3, .ref o3), (2, .ref o2), (1, .ref h0), (0, .ref b)]) (fun r9 H locs ls hv ih => ?_) (fun H locs ls hv => ?_) n ⟨0, cd, ct, by omega, hP, hD, hS, hl⟩
  · obtain ⟨q, cd, ct, hqn, hP, hD, hS, hl⟩ := hv
    have hq : q < n := by omega
    refine lv_iload hx hb dL_law_672 (lv_at hl 0 rfl) ?_
    refine lv_iload hx hb dL_law_674 (lv_at hl 3 rfl) ?_
    refine lv_icmp_ge (tgt := 799) hx hb dL_law_676 (by decide) (fun q => absurd q (nI_ge hq (by omega))) (fun _ => ?_)
    refine lv_dconst0 hx hb dL_law_679 ?_
    refine lv_dstore (lv' := [(15, .double FP.dconst0), (14, .int (nI q)), (7, .int (nI k)), (6, .ref o6), (5, .int (nI n)), (4, .ref o4), (3, .ref o3), (2, .ref o2), (1, .ref h0), (0, .ref b)]) hx hb dL_law_680 hl (by decide) rfl (fun ls hl => ?_)
    refine lv_iconst (v := 0) hx hb dL_law_682 (by decide) ?_
    refine lv_istore (lv' := [(17, .int 0), (15, .double FP.dconst0), (14, .int (nI q)), (7, .int (nI k)), (6, .ref o6), (5, .int (nI n)), (4, .ref o4), (3, .ref o3), (2, .ref o2), (1, .ref h0), (0, .ref b)]) hx hb dL_law_683 hl (by decide) rfl (fun ls hl => ?_)
    refine law_rd C1 hq hI hce hsl (fun cd ct H locs ls hP hD hS hl => ?_) hP hD hS (lv_sub hl [0, 1, 2, 3, 4, 5, 6, 7, 8, 9, 10] rfl)
    refine lv_aload_n hx hb dL_law_745 rfl (lv_at hl 8 rfl) ?_
    refine lv_iload hx hb dL_law_746 (lv_at hl 1 rfl) ?_
    refine va_calld (va_runV (As := [.int (nI q)]) (rest := []) ⟨hx, hb, hml, hown, hts⟩ (tX2_total l D A cI cJ cD cC h0 h1 h2 h3 h4 ad wd rd (lY cI cD o2 o3 o4 o6 ow lf kf ct) n K Ln Wh Re cd ct H.size hI.2.1 q hq) (cwV 1 hts gL_law_X2_total rfl rfl rfl (by decide +kernel) ⟨Nat.le_of_ble_eq_true rfl, Nat.le_of_ble_eq_true rfl⟩) ⟨tcP.blind, va_recv hK hP (ci := 2) (q0 := 0) rfl rfl, tcP.go hK hP hD hE hS⟩ rfl rfl hl.1 rfl (lv_room (Nat.le_of_ble_eq_true rfl)) dL_law_748 ⟨by show _ ≤ 600086; omega, by show _ ≤ 7301442; omega⟩) hS (fun q _ h => h) (fun q h => h) (fun r9 u9 t9 H locs ht9 hvm9 hw9 hB9 hz9 hk9 hS => ?_)
    obtain ⟨hP, hD⟩ := hB9
    rw [ht9] at hP
    obtain rfl : r9 = lsum (fun t8 => ow (5 * q + t8)) (Ln q) := hw9.trans (PI_tot hI hq)
    refine lv_dload hx hb dL_law_751 (lv_at hl 0 rfl) ?_
    refine lv_dcmp hx hb dL_law_753 ?_
    refine lv_if_eq (tgt := 759) hx hb dL_law_754 (by decide) (fun _ => ?_) (fun q => absurd ((tf_cl0 _).mpr (tf_dcmp_self _ (PI_totn hI hq (Nat.le_refl _)))) q)
    refine tc_join 788 (fun ls st => ∃ v8, v8 = kCol (K q) ∧ st = [.int v8, .ref o6] ∧ lv_has ls 18 [(15, .double (lsum (fun t8 => ow (5 * q + t8)) (Ln q))), (14, .int (nI q)), (7, .int (nI k)), (6, .ref o6), (5, .int (nI n)), (4, .ref o4), (3, .ref o3), (2, .ref o2), (1, .ref h0), (0, .ref b)]) (fun ls st hj => ?_) (fun k788 => ?_)
    · obtain ⟨v8, rfl, rfl, hl⟩ := hj
      refine lv_dup2_11 hx hb dL_law_788 rfl rfl ?_
      refine tc_iald (f := ct) (v := (ct (kCol (K q)).toNatClampNeg)) hx hb hK hP 8 0 rfl rfl (kCol_in (K q)) (rfl) dL_law_789 ?_
      refine lv_iconst (v := 1) hx hb dL_law_790 (by decide) ?_
      refine lv_iadd hx hb dL_law_791 ?_
      refine va_iast (f := ct) hx hb hK hP hD hS 8 0 rfl rfl (kCol_in (K q)) dL_law_792 (fun H locs hP hD hS => ?_)
      have hP : va_P D vwCl (lT cI cJ cD cC h0 h1 h2 h3 h4 o2 o3 o4 o6 ad wd rd n K Ln Wh Re (kCol (K q)) (noteC ct (kCol (K q))) ow lf kf (noteC ct (kCol (K q)))) H := hP
      have hD : va_D A (lT cI cJ cD cC h0 h1 h2 h3 h4 o2 o3 o4 o6 ad wd rd n K Ln Wh Re (kCol (K q)) (noteC ct (kCol (K q))) ow lf kf (noteC ct (kCol (K q)))) := hD
      refine lv_iinc (v := (nI (q + 1))) (lv' := [(14, .int (nI (q + 1))), (15, .double (lsum (fun t8 => ow (5 * q + t8)) (Ln q))), (7, .int (nI k)), (6, .ref o6), (5, .int (nI n)), (4, .ref o4), (3, .ref o3), (2, .ref o2), (1, .ref h0), (0, .ref b)]) hx hb dL_law_793 hl (k := 1) rfl (by rw [nI_succ]; rfl) (by decide) rfl (fun ls hl => ?_)
      refine lv_goto (tgt := 672) hx hb dL_law_796 (by decide) ?_
      exact ih _ _ _ ⟨q + 1, _, _, by omega, hP, hD, hS, lv_sub hl [0, 2, 3, 4, 5, 6, 7, 8, 9] rfl⟩
    · refine lv_aload hx hb dL_law_759 (lv_at hl 3 rfl) ?_
      refine lv_aload hx hb dL_law_761 (lv_at hl 5 rfl) ?_
      refine lv_iload hx hb dL_law_763 (lv_at hl 1 rfl) ?_
      refine tc_iald (f := kf) (v := (K q)) hx hb hK hP 7 0 rfl rfl (vp_in_nI (show q < 12 by omega) (by decide)) (PI_kf hI hq) dL_law_765 ?_
      refine lv_if_ne (tgt := 773) hx hb dL_law_766 (by decide) (fun c_3 => ?_) (fun c_3 => ?_)
      · refine lv_aload hx hb dL_law_773 (lv_at hl 5 rfl) ?_
        refine lv_iload hx hb dL_law_775 (lv_at hl 1 rfl) ?_
        refine tc_iald (f := kf) (v := (K q)) hx hb hK hP 7 0 rfl rfl (vp_in_nI (show q < 12 by omega) (by decide)) (PI_kf hI hq) dL_law_777 ?_
        refine lv_bipush (v := 9) hx hb dL_law_778 (by decide) ?_
        refine lv_icmp_ne (tgt := 787) hx hb dL_law_780 (by decide) (fun c_4 => ?_) (fun c_4 => ?_)
        · refine lv_iconst (v := 0) hx hb dL_law_787 (by decide) ?_
          exact k788 _ _ ⟨0, (kCol_0 c_3 c_4).symm, rfl, hl⟩
        · refine lv_iconst (v := 2) hx hb dL_law_783 (by decide) ?_
          refine lv_goto (tgt := 788) hx hb dL_law_784 (by decide) ?_
          exact k788 _ _ ⟨2, (kCol_2 c_3 c_4).symm, rfl, hl⟩
      · refine lv_iconst (v := 1) hx hb dL_law_769 (by decide) ?_
        refine lv_goto (tgt := 788) hx hb dL_law_770 (by decide) ?_
        exact k788 _ _ ⟨1, (kCol_1 c_3).symm, rfl, hl⟩
  · obtain ⟨q, cd, ct, hqn, hP, hD, hS, hl⟩ := hv
    obtain rfl : q = n := by omega
    refine lv_iload hx hb dL_law_672 (lv_at hl 0 rfl) ?_
    refine lv_iload hx hb dL_law_674 (lv_at hl 3 rfl) ?_
    refine lv_icmp_ge (tgt := 799) hx hb dL_law_676 (by decide) (fun _ => ?_) (fun q => absurd (nI_le (Nat.le_refl _) (by omega)) q)
    exact kc _ _ _ _ _ hP hD hS (lv_sub hl [1, 2, 3, 4, 5, 6, 7, 8] rfl)
set_option maxHeartbeats 4000000 in
set_option maxRecDepth 100000 in
theorem law_cnt {p : Program} {l : Launch} {e : Env} {s : State} {m : MethodId} {below : List Frame} {meth : Method} {c : Code} {D : va_G} {A : Nat → Prop} {cI cJ cD cC : ClassId} {h0 h1 h2 h3 h4 o2 o3 o4 o6 : Nat} {b L : Nat} {xs : Nat → Int32} {adK adV : Nat → Nat} {Q : State → Prop} (C0 : LCtx p D A cI cJ cD cC s m c b L xs adK adV) {ad wd rd : Nat → Nat} {n : Nat} {K : Nat → Int32} {Ln : Nat → Nat} {Wh : Nat → Int64} {Re : Nat → UInt64} {ow : Nat → UInt64} {lf kf : Nat → Int32} {k : Nat} (hI : PI n K Ln Wh Re ow lf kf) {ce sl : Nat} (hce : ce + 3 ≤ 600086) (hsl : sl + 44 ≤ 7301442) {cd : Int32} {ct : Nat → Int32} (kc : ∀ (H : Heap) (locs : List Loc) (ls : Array Slot), va_P D vwCl (lT cI cJ cD cC h0 h1 h2 h3 h4 o2 o3 o4 o6 ad wd rd n K Ln Wh Re cd ct ow lf kf ct) H → va_D A (lT cI cJ cD cC h0 h1 h2 h3 h4 o2 o3 o4 o6 ad wd rd n K Ln Wh Re cd ct ow lf kf ct) → va_S A s.heap H locs → lv_has ls 18 [(7, .int (nI k)), (6, .ref o6), (5, .int (nI n)), (4, .ref o4), (3, .ref o3), (2, .ref o2), (1, .ref h0), (0, .ref b)] → W p l e room_1 s m #[Value.ref b] below meth c H locs ce sl Q (F0 m 831 ls [])) {H : Heap} {locs : List Loc} {ls : Array Slot} (hP : va_P D vwCl (lT cI cJ cD cC h0 h1 h2 h3 h4 o2 o3 o4 o6 ad wd rd n K Ln Wh Re cd ct ow lf kf ct) H) (hD : va_D A (lT cI cJ cD cC h0 h1 h2 h3 h4 o2 o3 o4 o6 ad wd rd n K Ln Wh Re cd ct ow lf kf ct)) (hS : va_S A s.heap H locs) (hl : lv_has ls 18 [(14, .int (nI 0)), (7, .int (nI k)), (6, .ref o6), (5, .int (nI n)), (4, .ref o4), (3, .ref o3), (2, .ref o2), (1, .ref h0), (0, .ref b)]) : W p l e room_1 s m #[Value.ref b] below meth c H locs ce sl Q (F0 m 802 ls []) := by
  obtain ⟨hx, hb, hml, hown, hts, hX, hbl, hbA, hA, hL, hK, hE, hT, hTR⟩ := C0
  have hn12 := hI.1
  refine tc_loop (fun r9 H locs ls => ∃ (q : Nat), q + r9 = 6 ∧ va_P D vwCl (lT cI cJ cD cC h0 h1 h2 h3 h4 o2 o3 o4 o6 ad wd rd n K Ln Wh Re cd ct ow lf kf ct) H ∧ va_D A (lT cI cJ cD cC h0 h1 h2 h3 h4 o2 o3 o4 o6 ad wd rd n K Ln Wh Re cd ct ow lf kf ct) ∧ va_S A s.heap H locs ∧ lv_has ls 18 [(14, .int (nI q)), (7, .int (nI k)), (6, .ref o6), (5, .int (nI n)), (4, .ref o4), (3, .ref o3), (2, .ref o2), (1, .ref h0), (0, .ref b)]) (fun r9 H locs ls hv ih => ?_) (fun H locs ls hv => ?_) 6 ⟨0, by omega, hP, hD, hS, hl⟩
  · obtain ⟨q, hqn, hP, hD, hS, hl⟩ := hv
    have hq : q < 6 := by omega
    refine lv_iload hx hb dL_law_802 (lv_at hl 0 rfl) ?_
    refine lv_bipush (v := 6) hx hb dL_law_804 (by decide) ?_
    refine lv_icmp_ge (tgt := 831) hx hb dL_law_806 (by decide) (fun q => absurd q (nI_ge (b := 6) hq (by decide))) (fun _ => ?_)
    refine lv_aload_n hx hb dL_law_809 rfl (lv_at hl 7 rfl) ?_
    refine lv_iload hx hb dL_law_810 (lv_at hl 0 rfl) ?_
    refine vp_callSi (tc_CR (va_runV (As := [.int (nI q)]) (rest := []) ⟨hx, hb, hml, hown, hts⟩ (tX2_count l D A cI cJ cD cC h0 h1 h2 h3 h4 ad wd rd (lY cI cD o2 o3 o4 o6 ow lf kf ct) n K Ln Wh Re cd ct H.size hI.2.1 (nI q) (vp_in_nI hq (by decide))) (cwV 1 hts gL_law_X2_count rfl rfl rfl (by decide +kernel) ⟨Nat.le_of_ble_eq_true rfl, Nat.le_of_ble_eq_true rfl⟩) ⟨tcP.blind, va_recv hK hP (ci := 2) (q0 := 0) rfl rfl, tcP.go hK hP hD hE hS⟩ rfl rfl hl.1 rfl (lv_room (Nat.le_of_ble_eq_true rfl)) dL_law_812 ⟨by show _ ≤ 600086; omega, by show _ ≤ 7301442; omega⟩)) (fun r9 h9 => ?_)
    subst h9
    refine lv_aload hx hb dL_law_815 (lv_at hl 2 rfl) ?_
    refine lv_iload hx hb dL_law_817 (lv_at hl 0 rfl) ?_
    refine tc_iald (f := ct) (v := (ct (nI q).toNatClampNeg)) hx hb hK hP 8 0 rfl rfl (vp_in_nI hq (by decide)) (rfl) dL_law_819 ?_
    refine lv_icmp_eq (tgt := 825) hx hb dL_law_820 (by decide) (fun _ => ?_) (fun q => absurd (rfl) q)
    refine lv_iinc (v := (nI (q + 1))) (lv' := [(14, .int (nI (q + 1))), (7, .int (nI k)), (6, .ref o6), (5, .int (nI n)), (4, .ref o4), (3, .ref o3), (2, .ref o2), (1, .ref h0), (0, .ref b)]) hx hb dL_law_825 hl (k := 0) rfl (by rw [nI_succ]; rfl) (by decide) rfl (fun ls hl => ?_)
    refine lv_goto (tgt := 802) hx hb dL_law_828 (by decide) ?_
    exact ih _ _ _ ⟨q + 1, by omega, hP, hD, hS, lv_sub hl [0, 1, 2, 3, 4, 5, 6, 7, 8] rfl⟩
  · obtain ⟨q, hqn, hP, hD, hS, hl⟩ := hv
    obtain rfl : q = 6 := by omega
    refine lv_iload hx hb dL_law_802 (lv_at hl 0 rfl) ?_
    refine lv_bipush (v := 6) hx hb dL_law_804 (by decide) ?_
    refine lv_icmp_ge (tgt := 831) hx hb dL_law_806 (by decide) (fun _ => ?_) (fun q => absurd (by decide) q)
    exact kc _ _ _ hP hD hS (lv_sub hl [1, 2, 3, 4, 5, 6, 7, 8] rfl)
set_option maxHeartbeats 4000000 in
set_option maxRecDepth 100000 in
theorem law_tail {p : Program} {l : Launch} {e : Env} {s : State} {m : MethodId} {below : List Frame} {meth : Method} {c : Code} {D : va_G} {A : Nat → Prop} {cI cJ cD cC : ClassId} {h0 h1 h2 h3 h4 o2 o3 o4 o6 : Nat} {b L : Nat} {xs : Nat → Int32} {adK adV : Nat → Nat} {Q : State → Prop} (C0 : LCtx p D A cI cJ cD cC s m c b L xs adK adV) {ad wd rd : Nat → Nat} {n : Nat} {K : Nat → Int32} {Ln : Nat → Nat} {Wh : Nat → Int64} {Re : Nat → UInt64} {ow : Nat → UInt64} {lf kf : Nat → Int32} {k : Nat} (hI : PI n K Ln Wh Re ow lf kf) {ce sl : Nat} (hce : ce + 3 ≤ 600086) (hsl : sl + 44 ≤ 7301442) {v : Int32} (hv : vp_in v 6) (kc : ∀ (cd : Int32) (ct : Nat → Int32) (H : Heap) (locs : List Loc) (ls : Array Slot), va_P D vwCl (lT cI cJ cD cC h0 h1 h2 h3 h4 o2 o3 o4 o6 ad wd rd n K Ln Wh Re cd ct ow lf kf ct) H → va_D A (lT cI cJ cD cC h0 h1 h2 h3 h4 o2 o3 o4 o6 ad wd rd n K Ln Wh Re cd ct ow lf kf ct) → va_S A s.heap H locs → lv_has ls 18 [(7, .int (nI k)), (6, .ref o6), (5, .int (nI n)), (4, .ref o4), (3, .ref o3), (2, .ref o2), (1, .ref h0), (0, .ref b)] → W p l e room_1 s m #[Value.ref b] below meth c H locs ce sl Q (F0 m 831 ls [])) {ct : Nat → Int32} {H : Heap} {locs : List Loc} {ls : Array Slot} (hP : va_P D vwCl (lT cI cJ cD cC h0 h1 h2 h3 h4 o2 o3 o4 o6 ad wd rd n K Ln Wh Re v (noteC ct v) ow lf kf ct) H) (hD : va_D A (lT cI cJ cD cC h0 h1 h2 h3 h4 o2 o3 o4 o6 ad wd rd n K Ln Wh Re v (noteC ct v) ow lf kf ct)) (hS : va_S A s.heap H locs) (hl : lv_has ls 18 [(13, .int v), (7, .int (nI k)), (6, .ref o6), (5, .int (nI n)), (4, .ref o4), (3, .ref o3), (2, .ref o2), (1, .ref h0), (0, .ref b)]) : W p l e room_1 s m #[Value.ref b] below meth c H locs ce sl Q (F0 m 649 ls []) := by
  have C1 := C0
  obtain ⟨hx, hb, hml, hown, hts, hX, hbl, hbA, hA, hL, hK, hE, hT, hTR⟩ := C0
  have hn12 := hI.1
  refine lv_aload hx hb dL_law_649 (lv_at hl 2 rfl) ?_
  refine lv_iload hx hb dL_law_651 (lv_at hl 0 rfl) ?_
  refine lv_dup2_11 hx hb dL_law_653 rfl rfl ?_
  refine tc_iald (f := ct) (v := (ct v.toNatClampNeg)) hx hb hK hP 8 0 rfl rfl (hv) (rfl) dL_law_654 ?_
  refine lv_iconst (v := 1) hx hb dL_law_655 (by decide) ?_
  refine lv_iadd hx hb dL_law_656 ?_
  refine va_iast (f := ct) hx hb hK hP hD hS 8 0 rfl rfl (hv) dL_law_657 (fun H locs hP hD hS => ?_)
  have hP : va_P D vwCl (lT cI cJ cD cC h0 h1 h2 h3 h4 o2 o3 o4 o6 ad wd rd n K Ln Wh Re v (noteC ct v) ow lf kf (noteC ct v)) H := hP
  have hD : va_D A (lT cI cJ cD cC h0 h1 h2 h3 h4 o2 o3 o4 o6 ad wd rd n K Ln Wh Re v (noteC ct v) ow lf kf (noteC ct v)) := hD
  refine lv_aload_n hx hb dL_law_658 rfl (lv_at hl 7 rfl) ?_
  refine vp_callSi (tc_CR (va_runV (As := []) (rest := []) ⟨hx, hb, hml, hown, hts⟩ (tX2_code l D A cI cJ cD cC h0 h1 h2 h3 h4 ad wd rd (lY cI cD o2 o3 o4 o6 ow lf kf (noteC ct v)) n K Ln Wh Re v (noteC ct v) H.size hI.2.1) (cwV 0 hts gL_law_X2_code rfl rfl rfl (by decide +kernel) ⟨Nat.le_of_ble_eq_true rfl, Nat.le_of_ble_eq_true rfl⟩) ⟨tcP.blind, va_recv hK hP (ci := 2) (q0 := 0) rfl rfl, tcP.go hK hP hD hE hS⟩ rfl rfl hl.1 rfl (lv_room (Nat.le_of_ble_eq_true rfl)) dL_law_659 ⟨by show _ ≤ 600086; omega, by show _ ≤ 7301442; omega⟩)) (fun r9 h9 => ?_)
  rw [h9]
  refine lv_iload hx hb dL_law_662 (lv_at hl 0 rfl) ?_
  refine lv_icmp_eq (tgt := 669) hx hb dL_law_664 (by decide) (fun _ => ?_) (fun q => absurd (rfl) q)
  refine lv_iconst (v := 0) hx hb dL_law_669 (by decide) ?_
  refine lv_istore (lv' := [(14, .int 0), (13, .int v), (7, .int (nI k)), (6, .ref o6), (5, .int (nI n)), (4, .ref o4), (3, .ref o3), (2, .ref o2), (1, .ref h0), (0, .ref b)]) hx hb dL_law_670 hl (by decide) rfl (fun ls hl => ?_)
  refine law_cols C1 hI hce hsl (fun cd ct H locs ls hP hD hS hl => ?_) hP hD hS (lv_sub hl [0, 2, 3, 4, 5, 6, 7, 8, 9] rfl)
  refine lv_iconst (v := 0) hx hb dL_law_799 (by decide) ?_
  refine lv_istore (lv' := [(14, .int 0), (7, .int (nI k)), (6, .ref o6), (5, .int (nI n)), (4, .ref o4), (3, .ref o3), (2, .ref o2), (1, .ref h0), (0, .ref b)]) hx hb dL_law_800 hl (by decide) rfl (fun ls hl => ?_)
  exact law_cnt C1 hI hce hsl (fun H locs ls hP hD hS hl => kc _ _ _ _ _ hP hD hS hl) hP hD hS (lv_sub hl [0, 1, 2, 3, 4, 5, 6, 7, 8] rfl)
