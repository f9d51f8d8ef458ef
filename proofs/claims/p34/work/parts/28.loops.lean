/-! THE LAW: the columns created, the eighteen steps -/
abbrev lY3 (cI cD : ClassId) (o2 o3 o4 : Nat) (ow : Nat → UInt64) (lf kf : Nat → Int32) : va_W := [(o2, .inl (cD, 60, .inr (.inr (.inr (.inl ow))))), (o3, .inl (cI, 12, .inl lf)), (o4, .inl (cI, 12, .inl kf))]
abbrev lT3 (cI cJ cD cC : ClassId) (h0 h1 h2 h3 h4 o2 o3 o4 : Nat) (ad wd rd : Nat → Nat) (n : Nat) (K : Nat → Int32) (Ln : Nat → Nat) (Wh : Nat → Int64) (Re : Nat → UInt64) (cd : Int32) (ct : Nat → Int32) (ow : Nat → UInt64) (lf kf : Nat → Int32) : va_W := tc_T cI cJ cD cC h0 h1 h2 h3 h4 ad wd rd (lY3 cI cD o2 o3 o4 ow lf kf) n K Ln Wh Re cd ct
theorem kIs_10 : ∀ k, k < 10 → kIs (nI k) = true := by decide +kernel
theorem kHas_10 : ∀ k, k < 10 → ¬ nI k = 0 → ¬ nI k = 9 → kHas (nI k) = true := by decide +kernel
set_option maxHeartbeats 4000000 in
set_option maxRecDepth 100000 in
theorem law_create {p : Program} {l : Launch} {e : Env} {s : State} {m : MethodId} {below : List Frame} {meth : Method} {c : Code} {D : va_G} {A : Nat → Prop} {cI cJ cD cC : ClassId} {h0 h1 h2 h3 h4 o2 o3 o4 : Nat} {b L : Nat} {xs : Nat → Int32} {adK adV : Nat → Nat} {Q : State → Prop} (C0 : LCtx p D A cI cJ cD cC s m c b L xs adK adV) (ke : ∀ (ad wd rd : Nat → Nat) (K : Nat → Int32) (Ln : Nat → Nat) (Wh : Nat → Int64) (Re : Nat → UInt64) (lf kf : Nat → Int32) (H : Heap) (locs : List Loc) (ls : Array Slot), PI 10 K Ln Wh Re (fun _ => 0) lf kf → va_P D vwCl (lT3 cI cJ cD cC h0 h1 h2 h3 h4 o2 o3 o4 ad wd rd 10 K Ln Wh Re 0 (fun _ => 0) (fun _ => 0) lf kf) H → va_D A (lT3 cI cJ cD cC h0 h1 h2 h3 h4 o2 o3 o4 ad wd rd 10 K Ln Wh Re 0 (fun _ => 0) (fun _ => 0) lf kf) → va_S A s.heap H locs → lv_has ls 18 [(5, .int 10), (4, .ref o4), (3, .ref o3), (2, .ref o2), (1, .ref h0), (0, .ref b)] → W p l e room_1 s m #[Value.ref b] below meth c H locs (8 + 3 * 10) (166 + 44 * 10) Q (F0 m 100 ls [])) : ∀ (r k : Nat) (ad wd rd : Nat → Nat) (K : Nat → Int32) (Ln : Nat → Nat) (Wh : Nat → Int64) (Re : Nat → UInt64) (lf kf : Nat → Int32) (H : Heap) (locs : List Loc) (ls : Array Slot), k + r = 10 → PI k K Ln Wh Re (fun _ => 0) lf kf → va_P D vwCl (lT3 cI cJ cD cC h0 h1 h2 h3 h4 o2 o3 o4 ad wd rd k K Ln Wh Re 0 (fun _ => 0) (fun _ => 0) lf kf) H → va_D A (lT3 cI cJ cD cC h0 h1 h2 h3 h4 o2 o3 o4 ad wd rd k K Ln Wh Re 0 (fun _ => 0) (fun _ => 0) lf kf) → va_S A s.heap H locs → lv_has ls 18 [(6, .int (nI k)), (5, .int 10), (4, .ref o4), (3, .ref o3), (2, .ref o2), (1, .ref h0), (0, .ref b)] → W p l e room_1 s m #[Value.ref b] below meth c H locs (8 + 3 * k) (166 + 44 * k) Q (F0 m 31 ls []) := by
  have C1 := C0
  obtain ⟨hx, hb, hml, hown, hts, hX, hbl, hbA, hA, hL, hK, hE, hT, hTR⟩ := C0
  intro r
  induction r with
  | zero =>
    intro k ad wd rd K Ln Wh Re lf kf H locs ls hkr hI hP hD hS hl
    obtain rfl : k = 10 := by omega
    refine lv_iload hx hb dL_law_31 (lv_at hl 0 rfl) ?_
    refine lv_bipush (v := 10) hx hb dL_law_33 (by decide) ?_
    refine lv_icmp_ge (tgt := 100) hx hb dL_law_35 (by decide) (fun _ => ?_) (fun q => absurd (by decide) q)
    exact ke _ _ _ _ _ _ _ _ _ _ _ _ hI hP hD hS (lv_sub hl [1, 2, 3, 4, 5, 6] rfl)
  | succ r ih =>
    intro k ad wd rd K Ln Wh Re lf kf H locs ls hkr hI hP hD hS hl
    have hk : k < 10 := by omega
    refine lv_iload hx hb dL_law_31 (lv_at hl 0 rfl) ?_
    refine lv_bipush (v := 10) hx hb dL_law_33 (by decide) ?_
    refine lv_icmp_ge (tgt := 100) hx hb dL_law_35 (by decide) (fun q => absurd q (nI_ge (b := 10) hk (by decide))) (fun _ => ?_)
    refine lv_aload hx hb dL_law_38 (lv_at hl 2 rfl) ?_
    refine lv_iload hx hb dL_law_40 (lv_at hl 0 rfl) ?_
    refine lv_iload hx hb dL_law_42 (lv_at hl 0 rfl) ?_
    refine va_iast (f := kf) hx hb hK hP hD hS 7 0 rfl rfl (vp_in_nI (show k < 12 by omega) (by decide)) dL_law_44 (fun H locs hP hD hS => ?_)
    have hP : va_P D vwCl (lT3 cI cJ cD cC h0 h1 h2 h3 h4 o2 o3 o4 ad wd rd k K Ln Wh Re 0 (fun _ => 0) (fun _ => 0) lf (upd kf (nI k).toNatClampNeg (nI k))) H := hP
    have hD : va_D A (lT3 cI cJ cD cC h0 h1 h2 h3 h4 o2 o3 o4 ad wd rd k K Ln Wh Re 0 (fun _ => 0) (fun _ => 0) lf (upd kf (nI k).toNatClampNeg (nI k))) := hD
    have ew : upd kf (nI k).toNatClampNeg (nI k) = upd kf k (nI k) := by rw [nI_clamp (by omega)]
    rw [ew] at hP hD
    have hP : va_P D vwCl (lT3 cI cJ cD cC h0 h1 h2 h3 h4 o2 o3 o4 ad wd rd k K Ln Wh Re 0 (fun _ => 0) (fun _ => 0) lf (upd kf k (nI k))) H := hP
    have hD : va_D A (lT3 cI cJ cD cC h0 h1 h2 h3 h4 o2 o3 o4 ad wd rd k K Ln Wh Re 0 (fun _ => 0) (fun _ => 0) lf (upd kf k (nI k))) := hD
    refine tc_join 76 (fun ls st => ∃ N, st = [.int (nI N), .int (nI k), .ref o3] ∧ N ≤ 5 ∧ (kHas (nI k) = false → N = 0) ∧ lv_has ls 18 [(6, .int (nI k)), (5, .int 10), (4, .ref o4), (3, .ref o3), (2, .ref o2), (1, .ref h0), (0, .ref b)]) (fun ls st hj9 => ?_) (fun k76 => ?_)
    · obtain ⟨N, rfl, hN, hz, hl⟩ := hj9
      refine va_iast (f := lf) hx hb hK hP hD hS 6 0 rfl rfl (vp_in_nI (show k < 12 by omega) (by decide)) dL_law_76 (fun H locs hP hD hS => ?_)
      have hP : va_P D vwCl (lT3 cI cJ cD cC h0 h1 h2 h3 h4 o2 o3 o4 ad wd rd k K Ln Wh Re 0 (fun _ => 0) (fun _ => 0) (upd lf (nI k).toNatClampNeg (nI N)) (upd kf k (nI k))) H := hP
      have hD : va_D A (lT3 cI cJ cD cC h0 h1 h2 h3 h4 o2 o3 o4 ad wd rd k K Ln Wh Re 0 (fun _ => 0) (fun _ => 0) (upd lf (nI k).toNatClampNeg (nI N)) (upd kf k (nI k))) := hD
      have ew : upd lf (nI k).toNatClampNeg (nI N) = upd lf k (nI N) := by rw [nI_clamp (by omega)]
      rw [ew] at hP hD
      have hP : va_P D vwCl (lT3 cI cJ cD cC h0 h1 h2 h3 h4 o2 o3 o4 ad wd rd k K Ln Wh Re 0 (fun _ => 0) (fun _ => 0) (upd lf k (nI N)) (upd kf k (nI k))) H := hP
      have hD : va_D A (lT3 cI cJ cD cC h0 h1 h2 h3 h4 o2 o3 o4 ad wd rd k K Ln Wh Re 0 (fun _ => 0) (fun _ => 0) (upd lf k (nI N)) (upd kf k (nI k))) := hD
      refine lv_aload_n hx hb dL_law_77 rfl (lv_at hl 5 rfl) ?_
      refine lv_iload hx hb dL_law_78 (lv_at hl 0 rfl) ?_
      refine lv_aload_n hx hb dL_law_80 rfl (lv_at hl 3 rfl) ?_
      refine lv_iload hx hb dL_law_81 (lv_at hl 0 rfl) ?_
      refine tc_iald (f := (upd lf k (nI N))) (v := (nI N)) hx hb hK hP 6 0 rfl rfl (vp_in_nI (show k < 12 by omega) (by decide)) (by rw [nI_clamp (by omega)]; exact if_pos rfl) dL_law_83 ?_
      refine va_calli (va_runV (As := [.int (nI k), .int (nI N)]) (rest := []) ⟨hx, hb, hml, hown, hts⟩ (tX2_create l D A cI cJ cD cC h0 h1 h2 h3 h4 ad wd rd (lY3 cI cD o2 o3 o4 (fun _ => 0) (upd lf k (nI N)) (upd kf k (nI k))) k K Ln Wh Re 0 (fun _ => 0) H.size hI.2.1 (by omega) (nI k) (nI N) N (by omega) (kIs_10 k hk) (fun _ => rfl) hz (fun q h => hA q (Nat.le_trans hS.1 h))) (cwV 2 hts gL_law_X2_create rfl rfl rfl (by decide +kernel) ⟨Nat.le_of_ble_eq_true rfl, Nat.le_of_ble_eq_true rfl⟩) ⟨tcP.blind, va_recv hK hP (ci := 2) (q0 := 0) rfl rfl, tcP.go hK hP hD hE hS⟩ rfl rfl hl.1 rfl (lv_room (Nat.le_of_ble_eq_true rfl)) dL_law_84 ⟨by show _ ≤ 600086; omega, by show _ ≤ 7301442; omega⟩) hS (fun q _ h => h) (fun q h => h) (fun r9 u9 t9 H locs ht9 hvm9 hw9 hB9 hz9 hk9 hS => ?_)
      obtain ⟨hP, hD⟩ := hB9
      rw [ht9] at hP
      obtain rfl : r9 = nI k := hw9
      obtain ⟨u1, u2, u3⟩ := u9
      have hP : va_P D vwCl (lT3 cI cJ cD cC h0 h1 h2 h3 h4 o2 o3 o4 (va_up ad k u1) (va_up wd k u2) (va_up rd k u3) (k + 1) (va_up K k (nI k)) (va_up Ln k N) (tc_put k 0 (fun _ => 0) 0 Wh) (tc_put k 0 (fun _ => 0) 0 Re) 0 (fun _ => 0) (fun _ => 0) (upd lf k (nI N)) (upd kf k (nI k))) H := hP
      have hD : va_D A (lT3 cI cJ cD cC h0 h1 h2 h3 h4 o2 o3 o4 (va_up ad k u1) (va_up wd k u2) (va_up rd k u3) (k + 1) (va_up K k (nI k)) (va_up Ln k N) (tc_put k 0 (fun _ => 0) 0 Wh) (tc_put k 0 (fun _ => 0) 0 Re) 0 (fun _ => 0) (fun _ => 0) (upd lf k (nI N)) (upd kf k (nI k))) := hD
      refine lv_iload hx hb dL_law_87 (lv_at hl 0 rfl) ?_
      refine lv_icmp_eq (tgt := 94) hx hb dL_law_89 (by decide) (fun _ => ?_) (fun q => absurd (rfl) q)
      refine lv_iinc (v := (nI (k + 1))) (lv' := [(6, .int (nI (k + 1))), (5, .int 10), (4, .ref o4), (3, .ref o3), (2, .ref o2), (1, .ref h0), (0, .ref b)]) hx hb dL_law_94 hl (k := 0) rfl (by rw [nI_succ]; rfl) (by decide) rfl (fun ls hl => ?_)
      refine lv_goto (tgt := 31) hx hb dL_law_97 (by decide) ?_
      refine W.widen (k := 8 + 3 * (k + 1)) (n := 166 + 44 * (k + 1)) (by omega) (by omega) ?_
      exact ih (k + 1) _ _ _ _ _ _ _ _ _ _ _ _ (by omega) (PI_create hI (by omega) hN (kIs_10 k hk) hz) hP hD hS (lv_sub hl [0, 1, 2, 3, 4, 5, 6] rfl)
    · refine lv_aload_n hx hb dL_law_45 rfl (lv_at hl 3 rfl) ?_
      refine lv_iload hx hb dL_law_46 (lv_at hl 0 rfl) ?_
      refine lv_iload hx hb dL_law_48 (lv_at hl 0 rfl) ?_
      refine lv_if_eq (tgt := 60) hx hb dL_law_50 (by decide) (fun c_4 => ?_) (fun c_4 => ?_)
      · refine lv_iconst (v := 0) hx hb dL_law_60 (by decide) ?_
        refine lv_goto (tgt := 76) hx hb dL_law_61 (by decide) ?_
        exact k76 _ _ ⟨0, rfl, by omega, fun _ => rfl, hl⟩
      · refine lv_iload hx hb dL_law_53 (lv_at hl 0 rfl) ?_
        refine lv_bipush (v := 9) hx hb dL_law_55 (by decide) ?_
        refine lv_icmp_ne (tgt := 64) hx hb dL_law_57 (by decide) (fun c_5 => ?_) (fun c_5 => ?_)
        · refine lv_iconst (v := 1) hx hb dL_law_64 (by decide) ?_
          refine lv_aload_n hx hb dL_law_65 rfl (lv_at hl 6 rfl) ?_
          refine lv_iload hx hb dL_law_66 (lv_at hl 0 rfl) ?_
          refine vp_callSi (W.runS (As := [.ref b, .int (nI k)]) (rest := [.int 1, .int (nI k), .ref o3]) ⟨hx, hb, hml, hown, hts⟩ (lL_cell l b L xs hL k (by omega)) (va_cwS 2 hts gL_law_L_cell rfl rfl rfl (by decide +kernel) ⟨Nat.le_of_ble_eq_true rfl, Nat.le_of_ble_eq_true rfl⟩) ⟨lXblind, lXgo hX hbl hbA hS⟩ rfl rfl hl.1 rfl (lv_room (Nat.le_of_ble_eq_true rfl)) dL_law_68 ⟨by show _ ≤ 600086; omega, by show _ ≤ 7301442; omega⟩) (fun r9 h9 => ?_)
          obtain ⟨x, ex9⟩ : ∃ x : Int32, x = r9 := ⟨_, rfl⟩
          subst ex9
          refine lv_iconst (v := 5) hx hb dL_law_71 (by decide) ?_
          refine vp_callSi (W.runS (As := [.int x, .int (nI 5)]) (rest := [.int 1, .int (nI k), .ref o3]) ⟨hx, hb, hml, hown, hts⟩ (lL_below l x 5 (by omega) (by omega)) (va_cwS 2 hts gL_law_L_below rfl rfl rfl (by decide +kernel) ⟨Nat.le_of_ble_eq_true rfl, Nat.le_of_ble_eq_true rfl⟩) ⟨fun a U g mk q => q, fun U hU hW => ⟨rfl, trivial⟩⟩ rfl rfl hl.1 rfl (lv_room (Nat.le_of_ble_eq_true rfl)) dL_law_72 ⟨by show _ ≤ 600086; omega, by show _ ≤ 7301442; omega⟩) (fun r9 h9 => ?_)
          obtain ⟨t, ht, rfl⟩ := h9
          refine lv_iadd hx hb dL_law_75 ?_
          refine lv_topi (fun x9 e9 => ?_)
          obtain rfl : x9 = nI (t + 1) := by rw [e9]; show nI 1 + nI t = nI (t + 1); rw [nI_add, Nat.add_comm]
          exact k76 _ _ ⟨t + 1, rfl, by omega, fun z => absurd (kHas_10 k hk c_4 c_5) (by rw [z]; decide), hl⟩
        · refine lv_iconst (v := 0) hx hb dL_law_60 (by decide) ?_
          refine lv_goto (tgt := 76) hx hb dL_law_61 (by decide) ?_
          exact k76 _ _ ⟨0, rfl, by omega, fun _ => rfl, hl⟩
set_option maxHeartbeats 4000000 in
set_option maxRecDepth 100000 in
theorem law_steps {p : Program} {l : Launch} {e : Env} {s : State} {m : MethodId} {below : List Frame} {meth : Method} {c : Code} {D : va_G} {A : Nat → Prop} {cI cJ cD cC : ClassId} {h0 h1 h2 h3 h4 o2 o3 o4 o6 : Nat} {b L : Nat} {xs : Nat → Int32} {adK adV : Nat → Nat} {Q : State → Prop} (C0 : LCtx p D A cI cJ cD cC s m c b L xs adK adV) (ke : ∀ (ad wd rd : Nat → Nat) (n : Nat) (K : Nat → Int32) (Ln : Nat → Nat) (Wh : Nat → Int64) (Re : Nat → UInt64) (ow : Nat → UInt64) (lf kf : Nat → Int32) (cd : Int32) (ct : Nat → Int32) (H : Heap) (locs : List Loc) (ls : Array Slot) (ce sl : Nat), ce ≤ 600000 → sl ≤ 7000000 → PI n K Ln Wh Re ow lf kf → 10 ≤ n → va_P D vwCl (lT cI cJ cD cC h0 h1 h2 h3 h4 o2 o3 o4 o6 ad wd rd n K Ln Wh Re cd ct ow lf kf ct) H → va_D A (lT cI cJ cD cC h0 h1 h2 h3 h4 o2 o3 o4 o6 ad wd rd n K Ln Wh Re cd ct ow lf kf ct) → va_S A s.heap H locs → lv_has ls 18 [(7, .int (nI 18)), (6, .ref o6), (5, .int (nI n)), (4, .ref o4), (3, .ref o3), (2, .ref o2), (1, .ref h0), (0, .ref b)] → W p l e room_1 s m #[Value.ref b] below meth c H locs ce sl Q (F0 m 837 ls [])) : ∀ (r k : Nat) (ad wd rd : Nat → Nat) (n : Nat) (K : Nat → Int32) (Ln : Nat → Nat) (Wh : Nat → Int64) (Re : Nat → UInt64) (ow : Nat → UInt64) (lf kf : Nat → Int32) (cd : Int32) (ct : Nat → Int32) (H : Heap) (locs : List Loc) (ls : Array Slot), k + r = 18 → PI n K Ln Wh Re ow lf kf → 10 ≤ n → va_P D vwCl (lT cI cJ cD cC h0 h1 h2 h3 h4 o2 o3 o4 o6 ad wd rd n K Ln Wh Re cd ct ow lf kf ct) H → va_D A (lT cI cJ cD cC h0 h1 h2 h3 h4 o2 o3 o4 o6 ad wd rd n K Ln Wh Re cd ct ow lf kf ct) → va_S A s.heap H locs → lv_has ls 18 [(7, .int (nI k)), (6, .ref o6), (5, .int (nI n)), (4, .ref o4), (3, .ref o3), (2, .ref o2), (1, .ref h0), (0, .ref b)] → W p l e room_1 s m #[Value.ref b] below meth c H locs (39 + 3 * k) (612 + 44 * k) Q (F0 m 109 ls []) := by
  have C1 := C0
  obtain ⟨hx, hb, hml, hown, hts, hX, hbl, hbA, hA, hL, hK, hE, hT, hTR⟩ := C0
  intro r
  induction r with
  | zero =>
    intro k ad wd rd n K Ln Wh Re ow lf kf cd ct H locs ls hkr hI h10 hP hD hS hl
    obtain rfl : k = 18 := by omega
    refine lv_iload hx hb dL_law_109 (lv_at hl 0 rfl) ?_
    refine lv_bipush (v := 18) hx hb dL_law_111 (by decide) ?_
    refine lv_icmp_ge (tgt := 837) hx hb dL_law_113 (by decide) (fun _ => ?_) (fun q => absurd (by decide) q)
    exact ke _ _ _ _ _ _ _ _ _ _ _ _ _ _ _ _ _ _ (by omega) (by omega) hI h10 hP hD hS (lv_sub hl [0, 1, 2, 3, 4, 5, 6, 7] rfl)
  | succ r ih =>
    intro k ad wd rd n K Ln Wh Re ow lf kf cd ct H locs ls hkr hI h10 hP hD hS hl
    have hk : k < 18 := by omega
    refine lv_iload hx hb dL_law_109 (lv_at hl 0 rfl) ?_
    refine lv_bipush (v := 18) hx hb dL_law_111 (by decide) ?_
    refine lv_icmp_ge (tgt := 837) hx hb dL_law_113 (by decide) (fun q => absurd q (nI_ge (b := 18) hk (by decide))) (fun _ => ?_)
    refine law_step C1 hk h10 hI (by omega) (by omega) (fun ad wd rd n K Ln Wh Re ow lf kf cd ct H locs ls hI h10 hP hD hS hl => ?_) hP hD hS (lv_sub hl [0, 1, 2, 3, 4, 5, 6, 7] rfl)
    refine lv_iinc (v := (nI (k + 1))) (lv' := [(7, .int (nI (k + 1))), (6, .ref o6), (5, .int (nI n)), (4, .ref o4), (3, .ref o3), (2, .ref o2), (1, .ref h0), (0, .ref b)]) hx hb dL_law_831 hl (k := 0) rfl (by rw [nI_succ]; rfl) (by decide) rfl (fun ls hl => ?_)
    refine lv_goto (tgt := 109) hx hb dL_law_834 (by decide) ?_
    refine W.widen (k := 39 + 3 * (k + 1)) (n := 612 + 44 * (k + 1)) (by omega) (by omega) ?_
    exact ih (k + 1) _ _ _ _ _ _ _ _ _ _ _ _ _ _ _ _ (by omega) hI h10 hP hD hS (lv_sub hl [0, 1, 2, 3, 4, 5, 6, 7] rfl)
