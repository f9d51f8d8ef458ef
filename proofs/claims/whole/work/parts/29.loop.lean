/-! THE LAW: its loop -/
theorem land31 (v : Int32) : ∃ q, q < 32 ∧ v &&& 31 = nI q := by
  refine ⟨(v &&& 31).toBitVec.toNat, ?_, ?_⟩
  · show (v.toBitVec &&& 31#32).toNat < 32
    rw [BitVec.toNat_and]
    exact Nat.lt_of_le_of_lt Nat.and_le_right (by decide)
  · rw [← Int32.toBitVec_inj]
    show _ = BitVec.ofNat 32 _
    rw [BitVec.ofNat_toNat]
    simp
theorem law_end {L i : Nat} (hL : L ≤ 3072) (hi : i ≤ 4000) : (nI L - 6 < nI i) ↔ L < i + 6 := by
  have e6 : (6 : Int32).toInt = 6 := rfl
  rw [Int32.lt_iff_toInt_lt, Int32.toInt_sub, nI_toInt (by omega), nI_toInt (by omega), e6]
  have hb : ((L : Int) - 6).bmod (2 ^ 32) = (L : Int) - 6 := Int.bmod_eq_of_le (by omega) (by omega)
  rw [hb]
  omega
set_option maxHeartbeats 4000000 in
set_option maxRecDepth 100000 in
theorem law_turn {p : Program} {l : Launch} {e : Env} {s : State} {m : MethodId} {below : List Frame} {meth : Method} {c : Code} {D : va_G} {A : Nat → Prop} {cI cJ cD cC : ClassId} {h0 h1 h2 h3 h4 m0 m1 m2 m3 m4 m5 o1 o2 : Nat} {b L : Nat} {xs : Nat → Int32} {Q : State → Prop} (C0 : LCtx p l D A cI cJ cD cC s m c b L xs) {d : Drawn} {H : Heap} {locs : List Loc} {ls : Array Slot} {i ce sl : Nat} (hi : i + 6 ≤ L) (hce : ce + 3 ≤ 601024) (hsl : sl + 44 ≤ 7293034) (hv : LInv D A cI cJ cD cC h0 h1 h2 h3 h4 m0 m1 m2 m3 m4 m5 o1 o2 s b d H locs i ls) (kc : ∀ (d : Drawn) (H : Heap) (locs : List Loc) (ls : Array Slot), LInv D A cI cJ cD cC h0 h1 h2 h3 h4 m0 m1 m2 m3 m4 m5 o1 o2 s b d H locs i ls → W p l e room_1 (s.setDrawn d) m #[Value.ref b] below meth c H locs (ce + 3) (sl + 44) Q (F0 m 2390 ls [])) : W p l e room_1 (s.setDrawn d) m #[Value.ref b] below meth c H locs ce sl Q (F0 m 38 ls []) := by
  have C1 := C0
  have hv1 := hv
  obtain ⟨hx, hb, hml, hown0, htsB, hX0, hbl, hbA, hA, hL, hfl, hK0, hE0, hNc0⟩ := C0
  obtain ⟨ad, wd, rd, n, K, Ln, Wh, Re, cd, ct, th, ov, od, hdd, hI, hP, hD, hS, hl⟩ := hv
  have hX : va_X b L xs (s.setDrawn d) s.heap := hX0
  refine lv_aload_n hx hb dL_law_38 rfl (lv_at hl 5 rfl) ?_
  refine lv_iload hx hb dL_law_39 (lv_at hl 0 rfl) ?_
  refine va_sld hx hb hX hbl hbA hS (vp_in_nI (show i < L by omega) (by omega)) dL_law_41 ?_
  rw [nI_clamp (show i < 2 ^ 31 by omega)]
  refine lv_bipush (v := 31) hx hb dL_law_42 (by decide) ?_
  refine lv_iand hx hb dL_law_44 ?_
  obtain ⟨q, hq, e⟩ := land31 (xs i)
  rcases (show q = 0 ∨ q = 1 ∨ q = 2 ∨ q = 3 ∨ q = 4 ∨ q = 5 ∨ q = 6 ∨ q = 7 ∨ q = 8 ∨ q = 9 ∨ q = 10 ∨ q = 11 ∨ q = 12 ∨ q = 13 ∨ q = 14 ∨ q = 15 ∨ q = 16 ∨ q = 17 ∨ q = 18 ∨ q = 19 ∨ q = 20 ∨ q = 21 ∨ q = 22 ∨ q = 23 ∨ q = 24 ∨ q = 25 ∨ q = 26 ∨ q = 27 ∨ q = 28 ∨ q = 29 ∨ q = 30 ∨ q = 31 by omega) with rfl | rfl | rfl | rfl | rfl | rfl | rfl | rfl | rfl | rfl | rfl | rfl | rfl | rfl | rfl | rfl | rfl | rfl | rfl | rfl | rfl | rfl | rfl | rfl | rfl | rfl | rfl | rfl | rfl | rfl | rfl | rfl
  · refine lv_tableIn (tgt := 184) hx hb dL_law_45 (by rw [e]; decide) (by rw [e]; decide) (by rw [e]; rfl) (by decide) ?_
    exact law_0 C1 hi hce hsl hv1 kc
  · refine lv_tableIn (tgt := 252) hx hb dL_law_45 (by rw [e]; decide) (by rw [e]; decide) (by rw [e]; rfl) (by decide) ?_
    exact law_1 C1 hi hce hsl hv1 kc
  · refine lv_tableIn (tgt := 265) hx hb dL_law_45 (by rw [e]; decide) (by rw [e]; decide) (by rw [e]; rfl) (by decide) ?_
    exact law_2 C1 hi hce hsl hv1 kc
  · refine lv_tableIn (tgt := 321) hx hb dL_law_45 (by rw [e]; decide) (by rw [e]; decide) (by rw [e]; rfl) (by decide) ?_
    exact law_3 C1 hi hce hsl hv1 kc
  · refine lv_tableIn (tgt := 377) hx hb dL_law_45 (by rw [e]; decide) (by rw [e]; decide) (by rw [e]; rfl) (by decide) ?_
    exact law_4 C1 hi hce hsl hv1 kc
  · refine lv_tableIn (tgt := 452) hx hb dL_law_45 (by rw [e]; decide) (by rw [e]; decide) (by rw [e]; rfl) (by decide) ?_
    exact law_5 C1 hi hce hsl hv1 kc
  · refine lv_tableIn (tgt := 520) hx hb dL_law_45 (by rw [e]; decide) (by rw [e]; decide) (by rw [e]; rfl) (by decide) ?_
    exact law_6 C1 hi hce hsl hv1 kc
  · refine lv_tableIn (tgt := 588) hx hb dL_law_45 (by rw [e]; decide) (by rw [e]; decide) (by rw [e]; rfl) (by decide) ?_
    exact law_7 C1 hi hce hsl hv1 kc
  · refine lv_tableIn (tgt := 656) hx hb dL_law_45 (by rw [e]; decide) (by rw [e]; decide) (by rw [e]; rfl) (by decide) ?_
    exact law_8 C1 hi hce hsl hv1 kc
  · refine lv_tableIn (tgt := 724) hx hb dL_law_45 (by rw [e]; decide) (by rw [e]; decide) (by rw [e]; rfl) (by decide) ?_
    exact law_9 C1 hi hce hsl hv1 kc
  · refine lv_tableIn (tgt := 791) hx hb dL_law_45 (by rw [e]; decide) (by rw [e]; decide) (by rw [e]; rfl) (by decide) ?_
    exact law_10 C1 hi hce hsl hv1 kc
  · refine lv_tableIn (tgt := 881) hx hb dL_law_45 (by rw [e]; decide) (by rw [e]; decide) (by rw [e]; rfl) (by decide) ?_
    exact law_11 C1 hi hce hsl hv1 kc
  · refine lv_tableIn (tgt := 970) hx hb dL_law_45 (by rw [e]; decide) (by rw [e]; decide) (by rw [e]; rfl) (by decide) ?_
    exact law_12 C1 hi hce hsl hv1 kc
  · refine lv_tableIn (tgt := 1059) hx hb dL_law_45 (by rw [e]; decide) (by rw [e]; decide) (by rw [e]; rfl) (by decide) ?_
    exact law_13 C1 hi hce hsl hv1 kc
  · refine lv_tableIn (tgt := 1155) hx hb dL_law_45 (by rw [e]; decide) (by rw [e]; decide) (by rw [e]; rfl) (by decide) ?_
    exact law_14 C1 hi hce hsl hv1 kc
  · refine lv_tableIn (tgt := 1235) hx hb dL_law_45 (by rw [e]; decide) (by rw [e]; decide) (by rw [e]; rfl) (by decide) ?_
    exact law_15 C1 hi hce hsl hv1 kc
  · refine lv_tableIn (tgt := 1315) hx hb dL_law_45 (by rw [e]; decide) (by rw [e]; decide) (by rw [e]; rfl) (by decide) ?_
    exact law_16 C1 hi hce hsl hv1 kc
  · refine lv_tableIn (tgt := 1395) hx hb dL_law_45 (by rw [e]; decide) (by rw [e]; decide) (by rw [e]; rfl) (by decide) ?_
    exact law_17 C1 hi hce hsl hv1 kc
  · refine lv_tableIn (tgt := 1475) hx hb dL_law_45 (by rw [e]; decide) (by rw [e]; decide) (by rw [e]; rfl) (by decide) ?_
    exact law_18 C1 hi hce hsl hv1 kc
  · refine lv_tableIn (tgt := 1587) hx hb dL_law_45 (by rw [e]; decide) (by rw [e]; decide) (by rw [e]; rfl) (by decide) ?_
    exact law_19 C1 hi hce hsl hv1 kc
  · refine lv_tableIn (tgt := 1675) hx hb dL_law_45 (by rw [e]; decide) (by rw [e]; decide) (by rw [e]; rfl) (by decide) ?_
    exact law_20 C1 hi hce hsl hv1 kc
  · refine lv_tableIn (tgt := 1765) hx hb dL_law_45 (by rw [e]; decide) (by rw [e]; decide) (by rw [e]; rfl) (by decide) ?_
    exact law_21 C1 hi hce hsl hv1 kc
  · refine lv_tableIn (tgt := 1857) hx hb dL_law_45 (by rw [e]; decide) (by rw [e]; decide) (by rw [e]; rfl) (by decide) ?_
    exact law_22 C1 hi hce hsl hv1 kc
  · refine lv_tableIn (tgt := 1961) hx hb dL_law_45 (by rw [e]; decide) (by rw [e]; decide) (by rw [e]; rfl) (by decide) ?_
    exact law_23 C1 hi hce hsl hv1 kc
  · refine lv_tableIn (tgt := 2038) hx hb dL_law_45 (by rw [e]; decide) (by rw [e]; decide) (by rw [e]; rfl) (by decide) ?_
    exact law_24 C1 hi hce hsl hv1 kc
  · refine lv_tableIn (tgt := 2106) hx hb dL_law_45 (by rw [e]; decide) (by rw [e]; decide) (by rw [e]; rfl) (by decide) ?_
    exact law_25 C1 hi hce hsl hv1 kc
  · refine lv_tableIn (tgt := 2119) hx hb dL_law_45 (by rw [e]; decide) (by rw [e]; decide) (by rw [e]; rfl) (by decide) ?_
    exact law_26 C1 hi hce hsl hv1 kc
  · refine lv_tableIn (tgt := 2175) hx hb dL_law_45 (by rw [e]; decide) (by rw [e]; decide) (by rw [e]; rfl) (by decide) ?_
    exact law_27 C1 hi hce hsl hv1 kc
  · refine lv_tableIn (tgt := 2238) hx hb dL_law_45 (by rw [e]; decide) (by rw [e]; decide) (by rw [e]; rfl) (by decide) ?_
    exact law_28 C1 hi hce hsl hv1 kc
  · refine lv_tableIn (tgt := 2301) hx hb dL_law_45 (by rw [e]; decide) (by rw [e]; decide) (by rw [e]; rfl) (by decide) ?_
    exact law_29 C1 hi hce hsl hv1 kc
  · refine lv_tableIn (tgt := 2376) hx hb dL_law_45 (by rw [e]; decide) (by rw [e]; decide) (by rw [e]; rfl) (by decide) ?_
    exact law_30 C1 hi hce hsl hv1 kc
  · refine lv_tableOut (tgt := 2390) hx hb dL_law_45 (by rw [e]; decide) (by decide) ?_
    refine W.widen (k := ce + 3) (n := sl + 44) (by omega) (by omega) ?_
    exact kc _ _ _ _ hv1
set_option maxHeartbeats 4000000 in
set_option maxRecDepth 100000 in
theorem law_loop {p : Program} {l : Launch} {e : Env} {s : State} {m : MethodId} {below : List Frame} {meth : Method} {c : Code} {D : va_G} {A : Nat → Prop} {cI cJ cD cC : ClassId} {h0 h1 h2 h3 h4 m0 m1 m2 m3 m4 m5 o1 o2 : Nat} {b L : Nat} {xs : Nat → Int32} {Q : State → Prop} (C0 : LCtx p l D A cI cJ cD cC s m c b L xs) (ke : ∀ (d : Drawn) (H : Heap) (locs : List Loc) (ls : Array Slot) (i ce sl : Nat), ce ≤ 601024 → sl ≤ 7293034 → LInv D A cI cJ cD cC h0 h1 h2 h3 h4 m0 m1 m2 m3 m4 m5 o1 o2 s b d H locs i ls → W p l e room_1 (s.setDrawn d) m #[Value.ref b] below meth c H locs ce sl Q (F0 m 2396 ls [])) :
    ∀ (k t : Nat) (d : Drawn) (H : Heap) (locs : List Loc) (ls : Array Slot), t + k = L / 6 → LInv D A cI cJ cD cC h0 h1 h2 h3 h4 m0 m1 m2 m3 m4 m5 o1 o2 s b d H locs (6 * t) ls → W p l e room_1 (s.setDrawn d) m #[Value.ref b] below meth c H locs (13 + 3 * t) (5018 + 44 * t) Q (F0 m 28 ls [])
  | k, t, d, H, locs, ls, hk, hv => by
    have C1 := C0
    have hv1 := hv
    obtain ⟨hx, hb, hml, hown0, htsB, hX0, hbl, hbA, hA, hL, hfl, hK0, hE0, hNc0⟩ := C0
    obtain ⟨ad, wd, rd, n, K, Ln, Wh, Re, cd, ct, th, ov, od, hdd, hI, hP, hD, hS, hl⟩ := hv
    have hX : va_X b L xs (s.setDrawn d) s.heap := hX0
    have ht : 6 * t ≤ L := by omega
    refine lv_iload hx hb dL_law_28 (lv_at hl 0 rfl) ?_
    refine lv_aload_n hx hb dL_law_30 rfl (lv_at hl 5 rfl) ?_
    refine va_slen hx hb hX hbl hbA hS dL_law_31 ?_
    refine lv_bipush (v := 6) hx hb dL_law_32 (by decide) ?_
    refine lv_isub hx hb dL_law_34 ?_
    refine lv_icmp_gt (tgt := 2396) hx hb dL_law_35 (by decide) (fun c1 => ?_) (fun c1 => ?_)
    · exact ke _ _ _ _ _ _ _ (by omega) (by omega) hv1
    · have hi : 6 * t + 6 ≤ L := Nat.le_of_not_lt (fun q => c1 ((law_end (i := 6 * t) hL (by omega)).mpr q))
      match k, hk with
      | 0, hk => exact absurd hi (by omega)
      | k + 1, hk =>
        refine law_turn C1 hi (by omega) (by omega) hv1 (fun d H locs ls hv => ?_)
        obtain ⟨ad, wd, rd, n, K, Ln, Wh, Re, cd, ct, th, ov, od, hdd, hI, hP, hD, hS, hl⟩ := hv
        refine lv_iinc (v := nI (6 * (t + 1))) (lv' := [(5, .int (nI (6 * (t + 1)))), (4, .ref o2), (3, .ref o1), (2, .ref m0), (1, .ref h0), (0, .ref b)]) hx hb dL_law_2390 hl (k := 0) rfl (by rw [show 6 * (t + 1) = 6 * t + 6 from by omega, nI_addE]; rfl) (by decide) rfl (fun ls hl => ?_)
        refine lv_goto (tgt := 28) hx hb dL_law_2393 (by decide) ?_
        exact law_loop C1 ke k (t + 1) d H locs ls (by omega) ⟨ad, wd, rd, n, K, Ln, Wh, Re, cd, ct, th, ov, od, hdd, hI, hP, hD, hS, hl⟩
  termination_by k => k
