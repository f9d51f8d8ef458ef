/-! THE LAW: its turns -/
set_option maxHeartbeats 4000000 in
set_option maxRecDepth 100000 in
theorem law_0 {p : Program} {l : Launch} {e : Env} {s : State} {m : MethodId} {below : List Frame} {meth : Method} {c : Code} {D : va_G} {A : Nat → Prop} {cI cJ cD cC : ClassId} {h0 h1 h2 h3 h4 m0 m1 m2 m3 m4 m5 o1 o2 : Nat} {b L : Nat} {xs : Nat → Int32} {Q : State → Prop} (C0 : LCtx p l D A cI cJ cD cC s m c b L xs) {d : Drawn} {H : Heap} {locs : List Loc} {ls : Array Slot} {i ce sl : Nat} (hi : i + 6 ≤ L) (hce : ce + 3 ≤ 601024) (hsl : sl + 44 ≤ 7293034) (hv : LInv D A cI cJ cD cC h0 h1 h2 h3 h4 m0 m1 m2 m3 m4 m5 o1 o2 s b d H locs i ls) (kc : ∀ (d : Drawn) (H : Heap) (locs : List Loc) (ls : Array Slot), LInv D A cI cJ cD cC h0 h1 h2 h3 h4 m0 m1 m2 m3 m4 m5 o1 o2 s b d H locs i ls → W p l e room_1 (s.setDrawn d) m #[Value.ref b] below meth c H locs (ce + 3) (sl + 44) Q (F0 m 2390 ls [])) : W p l e room_1 (s.setDrawn d) m #[Value.ref b] below meth c H locs ce sl Q (F0 m 184 ls []) := by
  obtain ⟨hx, hb, hml, hown0, htsB, hX0, hbl, hbA, hA, hL, hfl, hK0, hE0, hNc0⟩ := C0
  obtain ⟨ad, wd, rd, n, K, Ln, Wh, Re, cd, ct, th, ov, od, hdd, hI, hP, hD, hS, hl⟩ := hv
  have hn60 : n ≤ 60 := hI.1
  have hts := dr_words htsB d
  have hK : va_K D vwCl (tcTY cI cJ cD cC) (s.setDrawn d) := hK0
  have hE : tc_E A (s.setDrawn d) := hE0
  have hNc : tc_Nc (s.setDrawn d) := hNc0
  have hown : (s.setDrawn d).vm.findClass RL = some m.cls := hown0
  have hX : va_X b L xs (s.setDrawn d) s.heap := hX0
  cases hk : kIs (xs (i + 1))
  · refine lv_aload_n hx hb dL_law_184 rfl (lv_at hl 4 rfl) ?_
    refine lv_aload_n hx hb dL_law_185 rfl (lv_at hl 5 rfl) ?_
    refine lv_iload hx hb dL_law_186 (lv_at hl 0 rfl) ?_
    refine lv_iconst (v := 1) hx hb dL_law_188 (by decide) ?_
    refine lv_iadd hx hb dL_law_189 ?_
    refine tc_sld hx hb hX hbl hbA hS hL 1 rfl (by omega) (v := (xs (i + 1))) rfl dL_law_190 ?_
    refine lv_aload_n hx hb dL_law_191 rfl (lv_at hl 5 rfl) ?_
    refine lv_iload hx hb dL_law_192 (lv_at hl 0 rfl) ?_
    refine lv_iconst (v := 2) hx hb dL_law_194 (by decide) ?_
    refine lv_iadd hx hb dL_law_195 ?_
    refine tc_sld hx hb hX hbl hbA hS hL 2 rfl (by omega) (v := (xs (i + 2))) rfl dL_law_196 ?_
    refine lv_aload_n hx hb dL_law_197 rfl (lv_at hl 2 rfl) ?_
    refine va_calli (tc_noX (vx_runSX (As := [.ref h0, .int (xs (i + 1)), .int (xs (i + 2)), .ref o1]) (rest := []) ⟨hx, hb, hml, hown, hts⟩ (lLn_create_k l hfl D A cI cJ cD cC h0 h1 h2 h3 h4 ad wd rd (m0, .inr (3, [.int th, .int (nI n), .ref m1, .ref m2, .ref m3, .ref m4, .int cd, .ref m5])) (m1, .inl (cI, 60, .inl K)) (m2, .inl (cI, 60, .inl (fun t8 => nI (Ln t8)))) (m3, .inl (cJ, 2400, .inr (.inl Wh))) (m4, .inl (cD, 2400, .inr (.inr (.inr (.inl Re))))) (m5, .inl (cI, 6, .inl ct)) o1 o2 ov od n K Ln Wh Re cd ct H.size (xs (i + 1)) (xs (i + 2)) hk) (vx_cwSW 4 hts gL_law_L_create rfl rfl rfl (by decide +kernel) ⟨Nat.le_of_ble_eq_true rfl, Nat.le_of_ble_eq_true rfl⟩) ⟨tcPL.blind, tcPL.go hK hP hD hE hNc hS⟩ rfl rfl hl.1 rfl (lv_room (Nat.le_of_ble_eq_true rfl)) dL_law_198 ⟨by show _ ≤ 601024; omega, by show _ ≤ 7293034; omega⟩)) hS (fun q _ h => h) (fun q h => h) (fun r uL t H locs ht hvm hw hB hz1 hk1 hS => ?_)
    subst hw
    obtain ⟨hP, hD⟩ := hB
    rw [ht] at hP
    have hP : va_P D vwCl (tc_Z cI cJ cD (h0, .inr (2, [.ref h1, .ref h2, .ref h3, .int (nI n), .int cd])) (h1, .inl (cC, 60, .inr (.inr (.inr (.inr (fun t8 => if t8 < n then some (ad t8) else none)))))) (h2, .inl (cI, 6, .inl ct)) (h3, .inr (1, [.ref h4])) (h4, .inl (cD, 10, .inr (.inr (.inr (.inl (fun t8 => tf_N (1023 + 2 ^ t8) 0)))))) ((o1, .inl (cJ, 1, .inr (.inl ov))) :: (o2, .inl (cD, 1, .inr (.inr (.inr (.inl od))))) :: tc_fl (tc_col cJ cD ad wd rd K Ln Wh Re) n) m0 m1 m2 m3 m4 m5 th n K Ln Wh Re cd ct) H := hP
    have hD : va_D A (tc_Z cI cJ cD (h0, .inr (2, [.ref h1, .ref h2, .ref h3, .int (nI n), .int cd])) (h1, .inl (cC, 60, .inr (.inr (.inr (.inr (fun t8 => if t8 < n then some (ad t8) else none)))))) (h2, .inl (cI, 6, .inl ct)) (h3, .inr (1, [.ref h4])) (h4, .inl (cD, 10, .inr (.inr (.inr (.inl (fun t8 => tf_N (1023 + 2 ^ t8) 0)))))) ((o1, .inl (cJ, 1, .inr (.inl ov))) :: (o2, .inl (cD, 1, .inr (.inr (.inr (.inl od))))) :: tc_fl (tc_col cJ cD ad wd rd K Ln Wh Re) n) m0 m1 m2 m3 m4 m5 th n K Ln Wh Re cd ct) := hD
    refine lv_istore (lv' := [(6, .int 1), (5, .int (nI i)), (4, .ref o2), (3, .ref o1), (2, .ref m0), (1, .ref h0), (0, .ref b)]) hx hb dL_law_201 hl (by decide) rfl (fun ls hl => ?_)
    refine lv_aload_n hx hb dL_law_203 rfl (lv_at hl 4 rfl) ?_
    refine lv_aload_n hx hb dL_law_204 rfl (lv_at hl 6 rfl) ?_
    refine lv_iload hx hb dL_law_205 (lv_at hl 1 rfl) ?_
    refine lv_iconst (v := 1) hx hb dL_law_207 (by decide) ?_
    refine lv_iadd hx hb dL_law_208 ?_
    refine tc_sld hx hb hX hbl hbA hS hL 1 rfl (by omega) (v := (xs (i + 1))) rfl dL_law_209 ?_
    refine lv_aload_n hx hb dL_law_210 rfl (lv_at hl 6 rfl) ?_
    refine lv_iload hx hb dL_law_211 (lv_at hl 1 rfl) ?_
    refine lv_iconst (v := 2) hx hb dL_law_213 (by decide) ?_
    refine lv_iadd hx hb dL_law_214 ?_
    refine tc_sld hx hb hX hbl hbA hS hL 2 rfl (by omega) (v := (xs (i + 2))) rfl dL_law_215 ?_
    refine va_calli (va_runV (As := [.int (xs (i + 1)), .int (xs (i + 2))]) (rest := []) ⟨hx, hb, hml, hown, hts⟩ (tX3_create_k l D A cI cJ cD cC (h0, .inr (2, [.ref h1, .ref h2, .ref h3, .int (nI n), .int cd])) (h1, .inl (cC, 60, .inr (.inr (.inr (.inr (fun t8 => if t8 < n then some (ad t8) else none)))))) (h2, .inl (cI, 6, .inl ct)) (h3, .inr (1, [.ref h4])) (h4, .inl (cD, 10, .inr (.inr (.inr (.inl (fun t8 => tf_N (1023 + 2 ^ t8) 0)))))) ((o1, .inl (cJ, 1, .inr (.inl ov))) :: (o2, .inl (cD, 1, .inr (.inr (.inr (.inl od))))) :: tc_fl (tc_col cJ cD ad wd rd K Ln Wh Re) n) m0 m1 m2 m3 m4 m5 th n K Ln Wh Re cd ct H.size (xs (i + 1)) (xs (i + 2)) hk) (cwV 2 hts gL_law_X3_create rfl rfl rfl (by decide +kernel) ⟨Nat.le_of_ble_eq_true rfl, Nat.le_of_ble_eq_true rfl⟩) ⟨tcP.blind, va_recv hK hP (ci := 3) (q0 := 5) rfl rfl, tcP.go hK hP hD hE hS⟩ rfl rfl hl.1 rfl (lv_room (Nat.le_of_ble_eq_true rfl)) dL_law_216 ⟨by show _ ≤ 601024; omega, by show _ ≤ 7293034; omega⟩) hS (fun q _ h => h) (fun q h => h) (fun r u t H locs ht hvm hw hB hz1 hk1 hS => ?_)
    subst hw
    obtain ⟨hP, hD⟩ := hB
    rw [ht] at hP
    refine lv_istore (lv' := [(7, .int 0), (6, .int 1), (5, .int (nI i)), (4, .ref o2), (3, .ref o1), (2, .ref m0), (1, .ref h0), (0, .ref b)]) hx hb dL_law_219 hl (by decide) rfl (fun ls hl => ?_)
    refine lv_aload_n hx hb dL_law_221 rfl (lv_at hl 5 rfl) ?_
    refine vp_callSi (tc_CR (va_runV (As := []) (rest := []) ⟨hx, hb, hml, hown, hts⟩ (tX3_thrown l D A cI cJ cD cC (h0, .inr (2, [.ref h1, .ref h2, .ref h3, .int (nI n), .int cd])) (h1, .inl (cC, 60, .inr (.inr (.inr (.inr (fun t8 => if t8 < n then some (ad t8) else none)))))) (h2, .inl (cI, 6, .inl ct)) (h3, .inr (1, [.ref h4])) (h4, .inl (cD, 10, .inr (.inr (.inr (.inl (fun t8 => tf_N (1023 + 2 ^ t8) 0)))))) ((o1, .inl (cJ, 1, .inr (.inl ov))) :: (o2, .inl (cD, 1, .inr (.inr (.inr (.inl od))))) :: tc_fl (tc_col cJ cD ad wd rd K Ln Wh Re) n) m0 m1 m2 m3 m4 m5 1 n K Ln Wh Re cd ct H.size) (cwV 0 hts gL_law_X3_thrown rfl rfl rfl (by decide +kernel) ⟨Nat.le_of_ble_eq_true rfl, Nat.le_of_ble_eq_true rfl⟩) ⟨tcP.blind, va_recv hK hP (ci := 3) (q0 := 5) rfl rfl, tcP.go hK hP hD hE hS⟩ rfl rfl hl.1 rfl (lv_room (Nat.le_of_ble_eq_true rfl)) dL_law_222 ⟨by show _ ≤ 601024; omega, by show _ ≤ 7293034; omega⟩)) (fun r9 h9 => ?_)
    subst h9
    refine lv_iload hx hb dL_law_225 (lv_at hl 1 rfl) ?_
    refine lv_icmp_eq (tgt := 232) hx hb dL_law_227 (by decide) (fun _ => ?_) (fun q => absurd (by decide) q)
    refine lv_iload hx hb dL_law_232 (lv_at hl 1 rfl) ?_
    refine lv_if_ne (tgt := 249) hx hb dL_law_234 (by decide) (fun _ => ?_) (fun q => absurd q (by decide))
    refine lv_goto (tgt := 2390) hx hb dL_law_249 (by decide) ?_
    refine W.widen (k := ce + 3) (n := sl + 44) (by omega) (by omega) ?_
    exact kc _ _ _ _ ⟨ad, wd, rd, n, K, Ln, Wh, Re, cd, ct, 1, ov, od, hdd, hI, hP, hD, hS, lv_sub hl [2, 3, 4, 5, 6, 7] rfl⟩
  · cases hh : kHas (xs (i + 1))
    · rcases (show n < 60 ∨ n = 60 by omega) with hn | hn
      · refine lv_aload_n hx hb dL_law_184 rfl (lv_at hl 4 rfl) ?_
        refine lv_aload_n hx hb dL_law_185 rfl (lv_at hl 5 rfl) ?_
        refine lv_iload hx hb dL_law_186 (lv_at hl 0 rfl) ?_
        refine lv_iconst (v := 1) hx hb dL_law_188 (by decide) ?_
        refine lv_iadd hx hb dL_law_189 ?_
        refine tc_sld hx hb hX hbl hbA hS hL 1 rfl (by omega) (v := (xs (i + 1))) rfl dL_law_190 ?_
        refine lv_aload_n hx hb dL_law_191 rfl (lv_at hl 5 rfl) ?_
        refine lv_iload hx hb dL_law_192 (lv_at hl 0 rfl) ?_
        refine lv_iconst (v := 2) hx hb dL_law_194 (by decide) ?_
        refine lv_iadd hx hb dL_law_195 ?_
        refine tc_sld hx hb hX hbl hbA hS hL 2 rfl (by omega) (v := (xs (i + 2))) rfl dL_law_196 ?_
        refine lv_aload_n hx hb dL_law_197 rfl (lv_at hl 2 rfl) ?_
        refine va_calli (tc_noX (vx_runSX (As := [.ref h0, .int (xs (i + 1)), .int (xs (i + 2)), .ref o1]) (rest := []) ⟨hx, hb, hml, hown, hts⟩ (lL_create l hfl D A cI cJ cD cC h0 h1 h2 h3 h4 ad wd rd (m0, .inr (3, [.int th, .int (nI n), .ref m1, .ref m2, .ref m3, .ref m4, .int cd, .ref m5])) (m1, .inl (cI, 60, .inl K)) (m2, .inl (cI, 60, .inl (fun t8 => nI (Ln t8)))) (m3, .inl (cJ, 2400, .inr (.inl Wh))) (m4, .inl (cD, 2400, .inr (.inr (.inr (.inl Re))))) (m5, .inl (cI, 6, .inl ct)) o1 o2 ov od n K Ln Wh Re cd ct H.size hI hn (xs (i + 1)) (xs (i + 2)) 0 (Nat.zero_le 40) hk (fun h => absurd (hh.symm.trans h) (by decide))  (fun _ => rfl) (fun q h => hA q (Nat.le_trans hS.1 h))) (vx_cwSW 4 hts gL_law_L_create rfl rfl rfl (by decide +kernel) ⟨Nat.le_of_ble_eq_true rfl, Nat.le_of_ble_eq_true rfl⟩) ⟨tcPL.blind, tcPL.go hK hP hD hE hNc hS⟩ rfl rfl hl.1 rfl (lv_room (Nat.le_of_ble_eq_true rfl)) dL_law_198 ⟨by show _ ≤ 601024; omega, by show _ ≤ 7293034; omega⟩)) hS (fun q _ h => h) (fun q h => h) (fun r uL t H locs ht hvm hw hB hz1 hk1 hS => ?_)
        subst hw
        obtain ⟨hP, hD⟩ := hB
        rw [ht] at hP
        have hP : va_P D vwCl (tc_Z cI cJ cD (h0, .inr (2, [.ref h1, .ref h2, .ref h3, .int (nI (n + 1)), .int cd])) (h1, .inl (cC, 60, .inr (.inr (.inr (.inr (fun t8 => if t8 < (n + 1) then some ((va_up ad n uL.1) t8) else none)))))) (h2, .inl (cI, 6, .inl ct)) (h3, .inr (1, [.ref h4])) (h4, .inl (cD, 10, .inr (.inr (.inr (.inl (fun t8 => tf_N (1023 + 2 ^ t8) 0)))))) ((o1, .inl (cJ, 1, .inr (.inl (vp_updL ov 0 ((nI n).toInt64))))) :: (o2, .inl (cD, 1, .inr (.inr (.inr (.inl od))))) :: tc_fl (tc_col cJ cD (va_up ad n uL.1) (va_up wd n uL.2.1) (va_up rd n uL.2.2) (va_up K n (xs (i + 1))) (va_up Ln n 0) (tc_put n 0 (fun _ => 0) 0 Wh) (tc_put n 0 (fun _ => 0) 0 Re)) (n + 1)) m0 m1 m2 m3 m4 m5 th n K Ln Wh Re cd ct) H := hP
        have hD : va_D A (tc_Z cI cJ cD (h0, .inr (2, [.ref h1, .ref h2, .ref h3, .int (nI (n + 1)), .int cd])) (h1, .inl (cC, 60, .inr (.inr (.inr (.inr (fun t8 => if t8 < (n + 1) then some ((va_up ad n uL.1) t8) else none)))))) (h2, .inl (cI, 6, .inl ct)) (h3, .inr (1, [.ref h4])) (h4, .inl (cD, 10, .inr (.inr (.inr (.inl (fun t8 => tf_N (1023 + 2 ^ t8) 0)))))) ((o1, .inl (cJ, 1, .inr (.inl (vp_updL ov 0 ((nI n).toInt64))))) :: (o2, .inl (cD, 1, .inr (.inr (.inr (.inl od))))) :: tc_fl (tc_col cJ cD (va_up ad n uL.1) (va_up wd n uL.2.1) (va_up rd n uL.2.2) (va_up K n (xs (i + 1))) (va_up Ln n 0) (tc_put n 0 (fun _ => 0) 0 Wh) (tc_put n 0 (fun _ => 0) 0 Re)) (n + 1)) m0 m1 m2 m3 m4 m5 th n K Ln Wh Re cd ct) := hD
        refine lv_istore (lv' := [(6, .int 0), (5, .int (nI i)), (4, .ref o2), (3, .ref o1), (2, .ref m0), (1, .ref h0), (0, .ref b)]) hx hb dL_law_201 hl (by decide) rfl (fun ls hl => ?_)
        refine lv_aload_n hx hb dL_law_203 rfl (lv_at hl 4 rfl) ?_
        refine lv_aload_n hx hb dL_law_204 rfl (lv_at hl 6 rfl) ?_
        refine lv_iload hx hb dL_law_205 (lv_at hl 1 rfl) ?_
        refine lv_iconst (v := 1) hx hb dL_law_207 (by decide) ?_
        refine lv_iadd hx hb dL_law_208 ?_
        refine tc_sld hx hb hX hbl hbA hS hL 1 rfl (by omega) (v := (xs (i + 1))) rfl dL_law_209 ?_
        refine lv_aload_n hx hb dL_law_210 rfl (lv_at hl 6 rfl) ?_
        refine lv_iload hx hb dL_law_211 (lv_at hl 1 rfl) ?_
        refine lv_iconst (v := 2) hx hb dL_law_213 (by decide) ?_
        refine lv_iadd hx hb dL_law_214 ?_
        refine tc_sld hx hb hX hbl hbA hS hL 2 rfl (by omega) (v := (xs (i + 2))) rfl dL_law_215 ?_
        refine va_calli (va_runV (As := [.int (xs (i + 1)), .int (xs (i + 2))]) (rest := []) ⟨hx, hb, hml, hown, hts⟩ (tX3_create l D A cI cJ cD cC (h0, .inr (2, [.ref h1, .ref h2, .ref h3, .int (nI (n + 1)), .int cd])) (h1, .inl (cC, 60, .inr (.inr (.inr (.inr (fun t8 => if t8 < (n + 1) then some ((va_up ad n uL.1) t8) else none)))))) (h2, .inl (cI, 6, .inl ct)) (h3, .inr (1, [.ref h4])) (h4, .inl (cD, 10, .inr (.inr (.inr (.inl (fun t8 => tf_N (1023 + 2 ^ t8) 0)))))) ((o1, .inl (cJ, 1, .inr (.inl (vp_updL ov 0 ((nI n).toInt64))))) :: (o2, .inl (cD, 1, .inr (.inr (.inr (.inl od))))) :: tc_fl (tc_col cJ cD (va_up ad n uL.1) (va_up wd n uL.2.1) (va_up rd n uL.2.2) (va_up K n (xs (i + 1))) (va_up Ln n 0) (tc_put n 0 (fun _ => 0) 0 Wh) (tc_put n 0 (fun _ => 0) 0 Re)) (n + 1)) m0 m1 m2 m3 m4 m5 th n K Ln Wh Re cd ct H.size (xs (i + 1)) (xs (i + 2)) 0 (Nat.zero_le 40) hk (fun h => absurd (hh.symm.trans h) (by decide))  (fun _ => rfl) hn) (cwV 2 hts gL_law_X3_create rfl rfl rfl (by decide +kernel) ⟨Nat.le_of_ble_eq_true rfl, Nat.le_of_ble_eq_true rfl⟩) ⟨tcP.blind, va_recv hK hP (ci := 3) (q0 := 5) rfl rfl, tcP.go hK hP hD hE hS⟩ rfl rfl hl.1 rfl (lv_room (Nat.le_of_ble_eq_true rfl)) dL_law_216 ⟨by show _ ≤ 601024; omega, by show _ ≤ 7293034; omega⟩) hS (fun q _ h => h) (fun q h => h) (fun r u t H locs ht hvm hw hB hz1 hk1 hS => ?_)
        subst hw
        obtain ⟨hP, hD⟩ := hB
        rw [ht] at hP
        rw [zq40, zq40] at hP hD
        refine lv_istore (lv' := [(7, .int (nI n)), (6, .int 0), (5, .int (nI i)), (4, .ref o2), (3, .ref o1), (2, .ref m0), (1, .ref h0), (0, .ref b)]) hx hb dL_law_219 hl (by decide) rfl (fun ls hl => ?_)
        refine lv_aload_n hx hb dL_law_221 rfl (lv_at hl 5 rfl) ?_
        refine vp_callSi (tc_CR (va_runV (As := []) (rest := []) ⟨hx, hb, hml, hown, hts⟩ (tX3_thrown l D A cI cJ cD cC (h0, .inr (2, [.ref h1, .ref h2, .ref h3, .int (nI (n + 1)), .int cd])) (h1, .inl (cC, 60, .inr (.inr (.inr (.inr (fun t8 => if t8 < (n + 1) then some ((va_up ad n uL.1) t8) else none)))))) (h2, .inl (cI, 6, .inl ct)) (h3, .inr (1, [.ref h4])) (h4, .inl (cD, 10, .inr (.inr (.inr (.inl (fun t8 => tf_N (1023 + 2 ^ t8) 0)))))) ((o1, .inl (cJ, 1, .inr (.inl (vp_updL ov 0 ((nI n).toInt64))))) :: (o2, .inl (cD, 1, .inr (.inr (.inr (.inl od))))) :: tc_fl (tc_col cJ cD (va_up ad n uL.1) (va_up wd n uL.2.1) (va_up rd n uL.2.2) (va_up K n (xs (i + 1))) (va_up Ln n 0) (tc_put n 0 (fun _ => 0) 0 Wh) (tc_put n 0 (fun _ => 0) 0 Re)) (n + 1)) m0 m1 m2 m3 m4 m5 0 (n + 1) (va_up K n (xs (i + 1))) (va_up Ln n 0) (tc_put n 0 (fun _ => 0) 0 Wh) (tc_put n 0 (fun _ => 0) 0 Re) cd ct H.size) (cwV 0 hts gL_law_X3_thrown rfl rfl rfl (by decide +kernel) ⟨Nat.le_of_ble_eq_true rfl, Nat.le_of_ble_eq_true rfl⟩) ⟨tcP.blind, va_recv hK hP (ci := 3) (q0 := 5) rfl rfl, tcP.go hK hP hD hE hS⟩ rfl rfl hl.1 rfl (lv_room (Nat.le_of_ble_eq_true rfl)) dL_law_222 ⟨by show _ ≤ 601024; omega, by show _ ≤ 7293034; omega⟩)) (fun r9 h9 => ?_)
        subst h9
        refine lv_iload hx hb dL_law_225 (lv_at hl 1 rfl) ?_
        refine lv_icmp_eq (tgt := 232) hx hb dL_law_227 (by decide) (fun _ => ?_) (fun q => absurd (by decide) q)
        refine lv_iload hx hb dL_law_232 (lv_at hl 1 rfl) ?_
        refine lv_if_ne (tgt := 249) hx hb dL_law_234 (by decide) (fun q => absurd (by decide) q) (fun _ => ?_)
        refine lv_aload_n hx hb dL_law_237 rfl (lv_at hl 4 rfl) ?_
        refine lv_iconst (v := 0) hx hb dL_law_238 (by decide) ?_
        refine tc_lald (f := (vp_updL ov 0 ((nI n).toInt64))) (v := (nI n).toInt64) hx hb hK hP 11 1 rfl rfl (by unfold vp_in; decide) (show (vp_updL ov 0 ((nI n).toInt64)) 0 = (nI n).toInt64 from if_pos rfl) dL_law_239 ?_
        refine lv_iload hx hb dL_law_240 (lv_at hl 0 rfl) ?_
        refine lv_i2l (v := (nI n).toInt64) hx hb dL_law_242 rfl ?_
        refine W.lcmp hx hb dL_law_243 ?_
        refine lv_if_eq (tgt := 249) hx hb dL_law_244 (by decide) (fun _ => ?_) (fun q => absurd ((lg_cmp_eq _ _).mpr rfl) q)
        refine lv_goto (tgt := 2390) hx hb dL_law_249 (by decide) ?_
        refine W.widen (k := ce + 3) (n := sl + 44) (by omega) (by omega) ?_
        exact kc _ _ _ _ ⟨(va_up ad n uL.1), (va_up wd n uL.2.1), (va_up rd n uL.2.2), (n + 1), (va_up K n (xs (i + 1))), (va_up Ln n 0), (tc_put n 0 (fun _ => 0) 0 Wh), (tc_put n 0 (fun _ => 0) 0 Re), cd, ct, 0, (vp_updL ov 0 ((nI n).toInt64)), od, hdd, (tcI_a hI hn hk (Nat.zero_le 40) (fun _ => rfl) (fun _ q _ h => absurd h (Nat.not_lt_zero q)) (fun _ q _ h => absurd h (Nat.not_lt_zero q))), hP, hD, hS, lv_sub hl [2, 3, 4, 5, 6, 7] rfl⟩
      · refine lv_aload_n hx hb dL_law_184 rfl (lv_at hl 4 rfl) ?_
        refine lv_aload_n hx hb dL_law_185 rfl (lv_at hl 5 rfl) ?_
        refine lv_iload hx hb dL_law_186 (lv_at hl 0 rfl) ?_
        refine lv_iconst (v := 1) hx hb dL_law_188 (by decide) ?_
        refine lv_iadd hx hb dL_law_189 ?_
        refine tc_sld hx hb hX hbl hbA hS hL 1 rfl (by omega) (v := (xs (i + 1))) rfl dL_law_190 ?_
        refine lv_aload_n hx hb dL_law_191 rfl (lv_at hl 5 rfl) ?_
        refine lv_iload hx hb dL_law_192 (lv_at hl 0 rfl) ?_
        refine lv_iconst (v := 2) hx hb dL_law_194 (by decide) ?_
        refine lv_iadd hx hb dL_law_195 ?_
        refine tc_sld hx hb hX hbl hbA hS hL 2 rfl (by omega) (v := (xs (i + 2))) rfl dL_law_196 ?_
        refine lv_aload_n hx hb dL_law_197 rfl (lv_at hl 2 rfl) ?_
        refine va_calli (tc_noX (vx_runSX (As := [.ref h0, .int (xs (i + 1)), .int (xs (i + 2)), .ref o1]) (rest := []) ⟨hx, hb, hml, hown, hts⟩ (lLn_create_f1 l hfl D A cI cJ cD cC h0 h1 h2 h3 h4 ad wd rd (m0, .inr (3, [.int th, .int (nI n), .ref m1, .ref m2, .ref m3, .ref m4, .int cd, .ref m5])) (m1, .inl (cI, 60, .inl K)) (m2, .inl (cI, 60, .inl (fun t8 => nI (Ln t8)))) (m3, .inl (cJ, 2400, .inr (.inl Wh))) (m4, .inl (cD, 2400, .inr (.inr (.inr (.inl Re))))) (m5, .inl (cI, 6, .inl ct)) o1 o2 ov od n K Ln Wh Re cd ct H.size (xs (i + 1)) (xs (i + 2)) hk hh hn) (vx_cwSW 4 hts gL_law_L_create rfl rfl rfl (by decide +kernel) ⟨Nat.le_of_ble_eq_true rfl, Nat.le_of_ble_eq_true rfl⟩) ⟨tcPL.blind, tcPL.go hK hP hD hE hNc hS⟩ rfl rfl hl.1 rfl (lv_room (Nat.le_of_ble_eq_true rfl)) dL_law_198 ⟨by show _ ≤ 601024; omega, by show _ ≤ 7293034; omega⟩)) hS (fun q _ h => h) (fun q h => h) (fun r uL t H locs ht hvm hw hB hz1 hk1 hS => ?_)
        subst hw
        obtain ⟨hP, hD⟩ := hB
        rw [ht] at hP
        have hP : va_P D vwCl (tc_Z cI cJ cD (h0, .inr (2, [.ref h1, .ref h2, .ref h3, .int (nI n), .int cd])) (h1, .inl (cC, 60, .inr (.inr (.inr (.inr (fun t8 => if t8 < n then some (ad t8) else none)))))) (h2, .inl (cI, 6, .inl ct)) (h3, .inr (1, [.ref h4])) (h4, .inl (cD, 10, .inr (.inr (.inr (.inl (fun t8 => tf_N (1023 + 2 ^ t8) 0)))))) ((o1, .inl (cJ, 1, .inr (.inl ov))) :: (o2, .inl (cD, 1, .inr (.inr (.inr (.inl od))))) :: tc_fl (tc_col cJ cD ad wd rd K Ln Wh Re) n) m0 m1 m2 m3 m4 m5 th n K Ln Wh Re cd ct) H := hP
        have hD : va_D A (tc_Z cI cJ cD (h0, .inr (2, [.ref h1, .ref h2, .ref h3, .int (nI n), .int cd])) (h1, .inl (cC, 60, .inr (.inr (.inr (.inr (fun t8 => if t8 < n then some (ad t8) else none)))))) (h2, .inl (cI, 6, .inl ct)) (h3, .inr (1, [.ref h4])) (h4, .inl (cD, 10, .inr (.inr (.inr (.inl (fun t8 => tf_N (1023 + 2 ^ t8) 0)))))) ((o1, .inl (cJ, 1, .inr (.inl ov))) :: (o2, .inl (cD, 1, .inr (.inr (.inr (.inl od))))) :: tc_fl (tc_col cJ cD ad wd rd K Ln Wh Re) n) m0 m1 m2 m3 m4 m5 th n K Ln Wh Re cd ct) := hD
        refine lv_istore (lv' := [(6, .int 2), (5, .int (nI i)), (4, .ref o2), (3, .ref o1), (2, .ref m0), (1, .ref h0), (0, .ref b)]) hx hb dL_law_201 hl (by decide) rfl (fun ls hl => ?_)
        refine lv_aload_n hx hb dL_law_203 rfl (lv_at hl 4 rfl) ?_
        refine lv_aload_n hx hb dL_law_204 rfl (lv_at hl 6 rfl) ?_
        refine lv_iload hx hb dL_law_205 (lv_at hl 1 rfl) ?_
        refine lv_iconst (v := 1) hx hb dL_law_207 (by decide) ?_
        refine lv_iadd hx hb dL_law_208 ?_
        refine tc_sld hx hb hX hbl hbA hS hL 1 rfl (by omega) (v := (xs (i + 1))) rfl dL_law_209 ?_
        refine lv_aload_n hx hb dL_law_210 rfl (lv_at hl 6 rfl) ?_
        refine lv_iload hx hb dL_law_211 (lv_at hl 1 rfl) ?_
        refine lv_iconst (v := 2) hx hb dL_law_213 (by decide) ?_
        refine lv_iadd hx hb dL_law_214 ?_
        refine tc_sld hx hb hX hbl hbA hS hL 2 rfl (by omega) (v := (xs (i + 2))) rfl dL_law_215 ?_
        refine va_calli (va_runV (As := [.int (xs (i + 1)), .int (xs (i + 2))]) (rest := []) ⟨hx, hb, hml, hown, hts⟩ (tX3_create_f l D A cI cJ cD cC (h0, .inr (2, [.ref h1, .ref h2, .ref h3, .int (nI n), .int cd])) (h1, .inl (cC, 60, .inr (.inr (.inr (.inr (fun t8 => if t8 < n then some (ad t8) else none)))))) (h2, .inl (cI, 6, .inl ct)) (h3, .inr (1, [.ref h4])) (h4, .inl (cD, 10, .inr (.inr (.inr (.inl (fun t8 => tf_N (1023 + 2 ^ t8) 0)))))) ((o1, .inl (cJ, 1, .inr (.inl ov))) :: (o2, .inl (cD, 1, .inr (.inr (.inr (.inl od))))) :: tc_fl (tc_col cJ cD ad wd rd K Ln Wh Re) n) m0 m1 m2 m3 m4 m5 th n K Ln Wh Re cd ct H.size (xs (i + 1)) (xs (i + 2)) 0 (Nat.zero_le 40) hk (fun h => absurd (hh.symm.trans h) (by decide)) (fun _ => rfl) hn) (cwV 2 hts gL_law_X3_create rfl rfl rfl (by decide +kernel) ⟨Nat.le_of_ble_eq_true rfl, Nat.le_of_ble_eq_true rfl⟩) ⟨tcP.blind, va_recv hK hP (ci := 3) (q0 := 5) rfl rfl, tcP.go hK hP hD hE hS⟩ rfl rfl hl.1 rfl (lv_room (Nat.le_of_ble_eq_true rfl)) dL_law_216 ⟨by show _ ≤ 601024; omega, by show _ ≤ 7293034; omega⟩) hS (fun q _ h => h) (fun q h => h) (fun r u t H locs ht hvm hw hB hz1 hk1 hS => ?_)
        subst hw
        obtain ⟨hP, hD⟩ := hB
        rw [ht] at hP
        refine lv_istore (lv' := [(7, .int 0), (6, .int 2), (5, .int (nI i)), (4, .ref o2), (3, .ref o1), (2, .ref m0), (1, .ref h0), (0, .ref b)]) hx hb dL_law_219 hl (by decide) rfl (fun ls hl => ?_)
        refine lv_aload_n hx hb dL_law_221 rfl (lv_at hl 5 rfl) ?_
        refine vp_callSi (tc_CR (va_runV (As := []) (rest := []) ⟨hx, hb, hml, hown, hts⟩ (tX3_thrown l D A cI cJ cD cC (h0, .inr (2, [.ref h1, .ref h2, .ref h3, .int (nI n), .int cd])) (h1, .inl (cC, 60, .inr (.inr (.inr (.inr (fun t8 => if t8 < n then some (ad t8) else none)))))) (h2, .inl (cI, 6, .inl ct)) (h3, .inr (1, [.ref h4])) (h4, .inl (cD, 10, .inr (.inr (.inr (.inl (fun t8 => tf_N (1023 + 2 ^ t8) 0)))))) ((o1, .inl (cJ, 1, .inr (.inl ov))) :: (o2, .inl (cD, 1, .inr (.inr (.inr (.inl od))))) :: tc_fl (tc_col cJ cD ad wd rd K Ln Wh Re) n) m0 m1 m2 m3 m4 m5 2 n K Ln Wh Re cd ct H.size) (cwV 0 hts gL_law_X3_thrown rfl rfl rfl (by decide +kernel) ⟨Nat.le_of_ble_eq_true rfl, Nat.le_of_ble_eq_true rfl⟩) ⟨tcP.blind, va_recv hK hP (ci := 3) (q0 := 5) rfl rfl, tcP.go hK hP hD hE hS⟩ rfl rfl hl.1 rfl (lv_room (Nat.le_of_ble_eq_true rfl)) dL_law_222 ⟨by show _ ≤ 601024; omega, by show _ ≤ 7293034; omega⟩)) (fun r9 h9 => ?_)
        subst h9
        refine lv_iload hx hb dL_law_225 (lv_at hl 1 rfl) ?_
        refine lv_icmp_eq (tgt := 232) hx hb dL_law_227 (by decide) (fun _ => ?_) (fun q => absurd (by decide) q)
        refine lv_iload hx hb dL_law_232 (lv_at hl 1 rfl) ?_
        refine lv_if_ne (tgt := 249) hx hb dL_law_234 (by decide) (fun _ => ?_) (fun q => absurd q (by decide))
        refine lv_goto (tgt := 2390) hx hb dL_law_249 (by decide) ?_
        refine W.widen (k := ce + 3) (n := sl + 44) (by omega) (by omega) ?_
        exact kc _ _ _ _ ⟨ad, wd, rd, n, K, Ln, Wh, Re, cd, ct, 2, ov, od, hdd, hI, hP, hD, hS, lv_sub hl [2, 3, 4, 5, 6, 7] rfl⟩
    · cases hl9 : kLen (xs (i + 2))
      · refine lv_aload_n hx hb dL_law_184 rfl (lv_at hl 4 rfl) ?_
        refine lv_aload_n hx hb dL_law_185 rfl (lv_at hl 5 rfl) ?_
        refine lv_iload hx hb dL_law_186 (lv_at hl 0 rfl) ?_
        refine lv_iconst (v := 1) hx hb dL_law_188 (by decide) ?_
        refine lv_iadd hx hb dL_law_189 ?_
        refine tc_sld hx hb hX hbl hbA hS hL 1 rfl (by omega) (v := (xs (i + 1))) rfl dL_law_190 ?_
        refine lv_aload_n hx hb dL_law_191 rfl (lv_at hl 5 rfl) ?_
        refine lv_iload hx hb dL_law_192 (lv_at hl 0 rfl) ?_
        refine lv_iconst (v := 2) hx hb dL_law_194 (by decide) ?_
        refine lv_iadd hx hb dL_law_195 ?_
        refine tc_sld hx hb hX hbl hbA hS hL 2 rfl (by omega) (v := (xs (i + 2))) rfl dL_law_196 ?_
        refine lv_aload_n hx hb dL_law_197 rfl (lv_at hl 2 rfl) ?_
        refine va_calli (tc_noX (vx_runSX (As := [.ref h0, .int (xs (i + 1)), .int (xs (i + 2)), .ref o1]) (rest := []) ⟨hx, hb, hml, hown, hts⟩ (lLn_create_l l hfl D A cI cJ cD cC h0 h1 h2 h3 h4 ad wd rd (m0, .inr (3, [.int th, .int (nI n), .ref m1, .ref m2, .ref m3, .ref m4, .int cd, .ref m5])) (m1, .inl (cI, 60, .inl K)) (m2, .inl (cI, 60, .inl (fun t8 => nI (Ln t8)))) (m3, .inl (cJ, 2400, .inr (.inl Wh))) (m4, .inl (cD, 2400, .inr (.inr (.inr (.inl Re))))) (m5, .inl (cI, 6, .inl ct)) o1 o2 ov od n K Ln Wh Re cd ct H.size (xs (i + 1)) (xs (i + 2)) hk hh hl9) (vx_cwSW 4 hts gL_law_L_create rfl rfl rfl (by decide +kernel) ⟨Nat.le_of_ble_eq_true rfl, Nat.le_of_ble_eq_true rfl⟩) ⟨tcPL.blind, tcPL.go hK hP hD hE hNc hS⟩ rfl rfl hl.1 rfl (lv_room (Nat.le_of_ble_eq_true rfl)) dL_law_198 ⟨by show _ ≤ 601024; omega, by show _ ≤ 7293034; omega⟩)) hS (fun q _ h => h) (fun q h => h) (fun r uL t H locs ht hvm hw hB hz1 hk1 hS => ?_)
        subst hw
        obtain ⟨hP, hD⟩ := hB
        rw [ht] at hP
        have hP : va_P D vwCl (tc_Z cI cJ cD (h0, .inr (2, [.ref h1, .ref h2, .ref h3, .int (nI n), .int cd])) (h1, .inl (cC, 60, .inr (.inr (.inr (.inr (fun t8 => if t8 < n then some (ad t8) else none)))))) (h2, .inl (cI, 6, .inl ct)) (h3, .inr (1, [.ref h4])) (h4, .inl (cD, 10, .inr (.inr (.inr (.inl (fun t8 => tf_N (1023 + 2 ^ t8) 0)))))) ((o1, .inl (cJ, 1, .inr (.inl ov))) :: (o2, .inl (cD, 1, .inr (.inr (.inr (.inl od))))) :: tc_fl (tc_col cJ cD ad wd rd K Ln Wh Re) n) m0 m1 m2 m3 m4 m5 th n K Ln Wh Re cd ct) H := hP
        have hD : va_D A (tc_Z cI cJ cD (h0, .inr (2, [.ref h1, .ref h2, .ref h3, .int (nI n), .int cd])) (h1, .inl (cC, 60, .inr (.inr (.inr (.inr (fun t8 => if t8 < n then some (ad t8) else none)))))) (h2, .inl (cI, 6, .inl ct)) (h3, .inr (1, [.ref h4])) (h4, .inl (cD, 10, .inr (.inr (.inr (.inl (fun t8 => tf_N (1023 + 2 ^ t8) 0)))))) ((o1, .inl (cJ, 1, .inr (.inl ov))) :: (o2, .inl (cD, 1, .inr (.inr (.inr (.inl od))))) :: tc_fl (tc_col cJ cD ad wd rd K Ln Wh Re) n) m0 m1 m2 m3 m4 m5 th n K Ln Wh Re cd ct) := hD
        refine lv_istore (lv' := [(6, .int 1), (5, .int (nI i)), (4, .ref o2), (3, .ref o1), (2, .ref m0), (1, .ref h0), (0, .ref b)]) hx hb dL_law_201 hl (by decide) rfl (fun ls hl => ?_)
        refine lv_aload_n hx hb dL_law_203 rfl (lv_at hl 4 rfl) ?_
        refine lv_aload_n hx hb dL_law_204 rfl (lv_at hl 6 rfl) ?_
        refine lv_iload hx hb dL_law_205 (lv_at hl 1 rfl) ?_
        refine lv_iconst (v := 1) hx hb dL_law_207 (by decide) ?_
        refine lv_iadd hx hb dL_law_208 ?_
        refine tc_sld hx hb hX hbl hbA hS hL 1 rfl (by omega) (v := (xs (i + 1))) rfl dL_law_209 ?_
        refine lv_aload_n hx hb dL_law_210 rfl (lv_at hl 6 rfl) ?_
        refine lv_iload hx hb dL_law_211 (lv_at hl 1 rfl) ?_
        refine lv_iconst (v := 2) hx hb dL_law_213 (by decide) ?_
        refine lv_iadd hx hb dL_law_214 ?_
        refine tc_sld hx hb hX hbl hbA hS hL 2 rfl (by omega) (v := (xs (i + 2))) rfl dL_law_215 ?_
        refine va_calli (va_runV (As := [.int (xs (i + 1)), .int (xs (i + 2))]) (rest := []) ⟨hx, hb, hml, hown, hts⟩ (tX3_create_l l D A cI cJ cD cC (h0, .inr (2, [.ref h1, .ref h2, .ref h3, .int (nI n), .int cd])) (h1, .inl (cC, 60, .inr (.inr (.inr (.inr (fun t8 => if t8 < n then some (ad t8) else none)))))) (h2, .inl (cI, 6, .inl ct)) (h3, .inr (1, [.ref h4])) (h4, .inl (cD, 10, .inr (.inr (.inr (.inl (fun t8 => tf_N (1023 + 2 ^ t8) 0)))))) ((o1, .inl (cJ, 1, .inr (.inl ov))) :: (o2, .inl (cD, 1, .inr (.inr (.inr (.inl od))))) :: tc_fl (tc_col cJ cD ad wd rd K Ln Wh Re) n) m0 m1 m2 m3 m4 m5 th n K Ln Wh Re cd ct H.size (xs (i + 1)) (xs (i + 2)) hk hh hl9) (cwV 2 hts gL_law_X3_create rfl rfl rfl (by decide +kernel) ⟨Nat.le_of_ble_eq_true rfl, Nat.le_of_ble_eq_true rfl⟩) ⟨tcP.blind, va_recv hK hP (ci := 3) (q0 := 5) rfl rfl, tcP.go hK hP hD hE hS⟩ rfl rfl hl.1 rfl (lv_room (Nat.le_of_ble_eq_true rfl)) dL_law_216 ⟨by show _ ≤ 601024; omega, by show _ ≤ 7293034; omega⟩) hS (fun q _ h => h) (fun q h => h) (fun r u t H locs ht hvm hw hB hz1 hk1 hS => ?_)
        subst hw
        obtain ⟨hP, hD⟩ := hB
        rw [ht] at hP
        refine lv_istore (lv' := [(7, .int 0), (6, .int 1), (5, .int (nI i)), (4, .ref o2), (3, .ref o1), (2, .ref m0), (1, .ref h0), (0, .ref b)]) hx hb dL_law_219 hl (by decide) rfl (fun ls hl => ?_)
        refine lv_aload_n hx hb dL_law_221 rfl (lv_at hl 5 rfl) ?_
        refine vp_callSi (tc_CR (va_runV (As := []) (rest := []) ⟨hx, hb, hml, hown, hts⟩ (tX3_thrown l D A cI cJ cD cC (h0, .inr (2, [.ref h1, .ref h2, .ref h3, .int (nI n), .int cd])) (h1, .inl (cC, 60, .inr (.inr (.inr (.inr (fun t8 => if t8 < n then some (ad t8) else none)))))) (h2, .inl (cI, 6, .inl ct)) (h3, .inr (1, [.ref h4])) (h4, .inl (cD, 10, .inr (.inr (.inr (.inl (fun t8 => tf_N (1023 + 2 ^ t8) 0)))))) ((o1, .inl (cJ, 1, .inr (.inl ov))) :: (o2, .inl (cD, 1, .inr (.inr (.inr (.inl od))))) :: tc_fl (tc_col cJ cD ad wd rd K Ln Wh Re) n) m0 m1 m2 m3 m4 m5 1 n K Ln Wh Re cd ct H.size) (cwV 0 hts gL_law_X3_thrown rfl rfl rfl (by decide +kernel) ⟨Nat.le_of_ble_eq_true rfl, Nat.le_of_ble_eq_true rfl⟩) ⟨tcP.blind, va_recv hK hP (ci := 3) (q0 := 5) rfl rfl, tcP.go hK hP hD hE hS⟩ rfl rfl hl.1 rfl (lv_room (Nat.le_of_ble_eq_true rfl)) dL_law_222 ⟨by show _ ≤ 601024; omega, by show _ ≤ 7293034; omega⟩)) (fun r9 h9 => ?_)
        subst h9
        refine lv_iload hx hb dL_law_225 (lv_at hl 1 rfl) ?_
        refine lv_icmp_eq (tgt := 232) hx hb dL_law_227 (by decide) (fun _ => ?_) (fun q => absurd (by decide) q)
        refine lv_iload hx hb dL_law_232 (lv_at hl 1 rfl) ?_
        refine lv_if_ne (tgt := 249) hx hb dL_law_234 (by decide) (fun _ => ?_) (fun q => absurd q (by decide))
        refine lv_goto (tgt := 2390) hx hb dL_law_249 (by decide) ?_
        refine W.widen (k := ce + 3) (n := sl + 44) (by omega) (by omega) ?_
        exact kc _ _ _ _ ⟨ad, wd, rd, n, K, Ln, Wh, Re, cd, ct, 1, ov, od, hdd, hI, hP, hD, hS, lv_sub hl [2, 3, 4, 5, 6, 7] rfl⟩
      · obtain ⟨N, hN, eN⟩ := kLen_of hl9
        rcases (show n < 60 ∨ n = 60 by omega) with hn | hn
        · refine lv_aload_n hx hb dL_law_184 rfl (lv_at hl 4 rfl) ?_
          refine lv_aload_n hx hb dL_law_185 rfl (lv_at hl 5 rfl) ?_
          refine lv_iload hx hb dL_law_186 (lv_at hl 0 rfl) ?_
          refine lv_iconst (v := 1) hx hb dL_law_188 (by decide) ?_
          refine lv_iadd hx hb dL_law_189 ?_
          refine tc_sld hx hb hX hbl hbA hS hL 1 rfl (by omega) (v := (xs (i + 1))) rfl dL_law_190 ?_
          refine lv_aload_n hx hb dL_law_191 rfl (lv_at hl 5 rfl) ?_
          refine lv_iload hx hb dL_law_192 (lv_at hl 0 rfl) ?_
          refine lv_iconst (v := 2) hx hb dL_law_194 (by decide) ?_
          refine lv_iadd hx hb dL_law_195 ?_
          refine tc_sld hx hb hX hbl hbA hS hL 2 rfl (by omega) (v := (nI N)) eN dL_law_196 ?_
          refine lv_aload_n hx hb dL_law_197 rfl (lv_at hl 2 rfl) ?_
          refine va_calli (tc_noX (vx_runSX (As := [.ref h0, .int (xs (i + 1)), .int (nI N), .ref o1]) (rest := []) ⟨hx, hb, hml, hown, hts⟩ (lL_create l hfl D A cI cJ cD cC h0 h1 h2 h3 h4 ad wd rd (m0, .inr (3, [.int th, .int (nI n), .ref m1, .ref m2, .ref m3, .ref m4, .int cd, .ref m5])) (m1, .inl (cI, 60, .inl K)) (m2, .inl (cI, 60, .inl (fun t8 => nI (Ln t8)))) (m3, .inl (cJ, 2400, .inr (.inl Wh))) (m4, .inl (cD, 2400, .inr (.inr (.inr (.inl Re))))) (m5, .inl (cI, 6, .inl ct)) o1 o2 ov od n K Ln Wh Re cd ct H.size hI hn (xs (i + 1)) (nI N) N hN hk (fun _ => rfl)  (fun h => absurd (hh.symm.trans h) (by decide)) (fun q h => hA q (Nat.le_trans hS.1 h))) (vx_cwSW 4 hts gL_law_L_create rfl rfl rfl (by decide +kernel) ⟨Nat.le_of_ble_eq_true rfl, Nat.le_of_ble_eq_true rfl⟩) ⟨tcPL.blind, tcPL.go hK hP hD hE hNc hS⟩ rfl rfl hl.1 rfl (lv_room (Nat.le_of_ble_eq_true rfl)) dL_law_198 ⟨by show _ ≤ 601024; omega, by show _ ≤ 7293034; omega⟩)) hS (fun q _ h => h) (fun q h => h) (fun r uL t H locs ht hvm hw hB hz1 hk1 hS => ?_)
          subst hw
          obtain ⟨hP, hD⟩ := hB
          rw [ht] at hP
          have hP : va_P D vwCl (tc_Z cI cJ cD (h0, .inr (2, [.ref h1, .ref h2, .ref h3, .int (nI (n + 1)), .int cd])) (h1, .inl (cC, 60, .inr (.inr (.inr (.inr (fun t8 => if t8 < (n + 1) then some ((va_up ad n uL.1) t8) else none)))))) (h2, .inl (cI, 6, .inl ct)) (h3, .inr (1, [.ref h4])) (h4, .inl (cD, 10, .inr (.inr (.inr (.inl (fun t8 => tf_N (1023 + 2 ^ t8) 0)))))) ((o1, .inl (cJ, 1, .inr (.inl (vp_updL ov 0 ((nI n).toInt64))))) :: (o2, .inl (cD, 1, .inr (.inr (.inr (.inl od))))) :: tc_fl (tc_col cJ cD (va_up ad n uL.1) (va_up wd n uL.2.1) (va_up rd n uL.2.2) (va_up K n (xs (i + 1))) (va_up Ln n N) (tc_put n 0 (fun _ => 0) 0 Wh) (tc_put n 0 (fun _ => 0) 0 Re)) (n + 1)) m0 m1 m2 m3 m4 m5 th n K Ln Wh Re cd ct) H := hP
          have hD : va_D A (tc_Z cI cJ cD (h0, .inr (2, [.ref h1, .ref h2, .ref h3, .int (nI (n + 1)), .int cd])) (h1, .inl (cC, 60, .inr (.inr (.inr (.inr (fun t8 => if t8 < (n + 1) then some ((va_up ad n uL.1) t8) else none)))))) (h2, .inl (cI, 6, .inl ct)) (h3, .inr (1, [.ref h4])) (h4, .inl (cD, 10, .inr (.inr (.inr (.inl (fun t8 => tf_N (1023 + 2 ^ t8) 0)))))) ((o1, .inl (cJ, 1, .inr (.inl (vp_updL ov 0 ((nI n).toInt64))))) :: (o2, .inl (cD, 1, .inr (.inr (.inr (.inl od))))) :: tc_fl (tc_col cJ cD (va_up ad n uL.1) (va_up wd n uL.2.1) (va_up rd n uL.2.2) (va_up K n (xs (i + 1))) (va_up Ln n N) (tc_put n 0 (fun _ => 0) 0 Wh) (tc_put n 0 (fun _ => 0) 0 Re)) (n + 1)) m0 m1 m2 m3 m4 m5 th n K Ln Wh Re cd ct) := hD
          refine lv_istore (lv' := [(6, .int 0), (5, .int (nI i)), (4, .ref o2), (3, .ref o1), (2, .ref m0), (1, .ref h0), (0, .ref b)]) hx hb dL_law_201 hl (by decide) rfl (fun ls hl => ?_)
          refine lv_aload_n hx hb dL_law_203 rfl (lv_at hl 4 rfl) ?_
          refine lv_aload_n hx hb dL_law_204 rfl (lv_at hl 6 rfl) ?_
          refine lv_iload hx hb dL_law_205 (lv_at hl 1 rfl) ?_
          refine lv_iconst (v := 1) hx hb dL_law_207 (by decide) ?_
          refine lv_iadd hx hb dL_law_208 ?_
          refine tc_sld hx hb hX hbl hbA hS hL 1 rfl (by omega) (v := (xs (i + 1))) rfl dL_law_209 ?_
          refine lv_aload_n hx hb dL_law_210 rfl (lv_at hl 6 rfl) ?_
          refine lv_iload hx hb dL_law_211 (lv_at hl 1 rfl) ?_
          refine lv_iconst (v := 2) hx hb dL_law_213 (by decide) ?_
          refine lv_iadd hx hb dL_law_214 ?_
          refine tc_sld hx hb hX hbl hbA hS hL 2 rfl (by omega) (v := (nI N)) eN dL_law_215 ?_
          refine va_calli (va_runV (As := [.int (xs (i + 1)), .int (nI N)]) (rest := []) ⟨hx, hb, hml, hown, hts⟩ (tX3_create l D A cI cJ cD cC (h0, .inr (2, [.ref h1, .ref h2, .ref h3, .int (nI (n + 1)), .int cd])) (h1, .inl (cC, 60, .inr (.inr (.inr (.inr (fun t8 => if t8 < (n + 1) then some ((va_up ad n uL.1) t8) else none)))))) (h2, .inl (cI, 6, .inl ct)) (h3, .inr (1, [.ref h4])) (h4, .inl (cD, 10, .inr (.inr (.inr (.inl (fun t8 => tf_N (1023 + 2 ^ t8) 0)))))) ((o1, .inl (cJ, 1, .inr (.inl (vp_updL ov 0 ((nI n).toInt64))))) :: (o2, .inl (cD, 1, .inr (.inr (.inr (.inl od))))) :: tc_fl (tc_col cJ cD (va_up ad n uL.1) (va_up wd n uL.2.1) (va_up rd n uL.2.2) (va_up K n (xs (i + 1))) (va_up Ln n N) (tc_put n 0 (fun _ => 0) 0 Wh) (tc_put n 0 (fun _ => 0) 0 Re)) (n + 1)) m0 m1 m2 m3 m4 m5 th n K Ln Wh Re cd ct H.size (xs (i + 1)) (nI N) N hN hk (fun _ => rfl)  (fun h => absurd (hh.symm.trans h) (by decide)) hn) (cwV 2 hts gL_law_X3_create rfl rfl rfl (by decide +kernel) ⟨Nat.le_of_ble_eq_true rfl, Nat.le_of_ble_eq_true rfl⟩) ⟨tcP.blind, va_recv hK hP (ci := 3) (q0 := 5) rfl rfl, tcP.go hK hP hD hE hS⟩ rfl rfl hl.1 rfl (lv_room (Nat.le_of_ble_eq_true rfl)) dL_law_216 ⟨by show _ ≤ 601024; omega, by show _ ≤ 7293034; omega⟩) hS (fun q _ h => h) (fun q h => h) (fun r u t H locs ht hvm hw hB hz1 hk1 hS => ?_)
          subst hw
          obtain ⟨hP, hD⟩ := hB
          rw [ht] at hP
          rw [zq40, zq40] at hP hD
          refine lv_istore (lv' := [(7, .int (nI n)), (6, .int 0), (5, .int (nI i)), (4, .ref o2), (3, .ref o1), (2, .ref m0), (1, .ref h0), (0, .ref b)]) hx hb dL_law_219 hl (by decide) rfl (fun ls hl => ?_)
          refine lv_aload_n hx hb dL_law_221 rfl (lv_at hl 5 rfl) ?_
          refine vp_callSi (tc_CR (va_runV (As := []) (rest := []) ⟨hx, hb, hml, hown, hts⟩ (tX3_thrown l D A cI cJ cD cC (h0, .inr (2, [.ref h1, .ref h2, .ref h3, .int (nI (n + 1)), .int cd])) (h1, .inl (cC, 60, .inr (.inr (.inr (.inr (fun t8 => if t8 < (n + 1) then some ((va_up ad n uL.1) t8) else none)))))) (h2, .inl (cI, 6, .inl ct)) (h3, .inr (1, [.ref h4])) (h4, .inl (cD, 10, .inr (.inr (.inr (.inl (fun t8 => tf_N (1023 + 2 ^ t8) 0)))))) ((o1, .inl (cJ, 1, .inr (.inl (vp_updL ov 0 ((nI n).toInt64))))) :: (o2, .inl (cD, 1, .inr (.inr (.inr (.inl od))))) :: tc_fl (tc_col cJ cD (va_up ad n uL.1) (va_up wd n uL.2.1) (va_up rd n uL.2.2) (va_up K n (xs (i + 1))) (va_up Ln n N) (tc_put n 0 (fun _ => 0) 0 Wh) (tc_put n 0 (fun _ => 0) 0 Re)) (n + 1)) m0 m1 m2 m3 m4 m5 0 (n + 1) (va_up K n (xs (i + 1))) (va_up Ln n N) (tc_put n 0 (fun _ => 0) 0 Wh) (tc_put n 0 (fun _ => 0) 0 Re) cd ct H.size) (cwV 0 hts gL_law_X3_thrown rfl rfl rfl (by decide +kernel) ⟨Nat.le_of_ble_eq_true rfl, Nat.le_of_ble_eq_true rfl⟩) ⟨tcP.blind, va_recv hK hP (ci := 3) (q0 := 5) rfl rfl, tcP.go hK hP hD hE hS⟩ rfl rfl hl.1 rfl (lv_room (Nat.le_of_ble_eq_true rfl)) dL_law_222 ⟨by show _ ≤ 601024; omega, by show _ ≤ 7293034; omega⟩)) (fun r9 h9 => ?_)
          subst h9
          refine lv_iload hx hb dL_law_225 (lv_at hl 1 rfl) ?_
          refine lv_icmp_eq (tgt := 232) hx hb dL_law_227 (by decide) (fun _ => ?_) (fun q => absurd (by decide) q)
          refine lv_iload hx hb dL_law_232 (lv_at hl 1 rfl) ?_
          refine lv_if_ne (tgt := 249) hx hb dL_law_234 (by decide) (fun q => absurd (by decide) q) (fun _ => ?_)
          refine lv_aload_n hx hb dL_law_237 rfl (lv_at hl 4 rfl) ?_
          refine lv_iconst (v := 0) hx hb dL_law_238 (by decide) ?_
          refine tc_lald (f := (vp_updL ov 0 ((nI n).toInt64))) (v := (nI n).toInt64) hx hb hK hP 11 1 rfl rfl (by unfold vp_in; decide) (show (vp_updL ov 0 ((nI n).toInt64)) 0 = (nI n).toInt64 from if_pos rfl) dL_law_239 ?_
          refine lv_iload hx hb dL_law_240 (lv_at hl 0 rfl) ?_
          refine lv_i2l (v := (nI n).toInt64) hx hb dL_law_242 rfl ?_
          refine W.lcmp hx hb dL_law_243 ?_
          refine lv_if_eq (tgt := 249) hx hb dL_law_244 (by decide) (fun _ => ?_) (fun q => absurd ((lg_cmp_eq _ _).mpr rfl) q)
          refine lv_goto (tgt := 2390) hx hb dL_law_249 (by decide) ?_
          refine W.widen (k := ce + 3) (n := sl + 44) (by omega) (by omega) ?_
          exact kc _ _ _ _ ⟨(va_up ad n uL.1), (va_up wd n uL.2.1), (va_up rd n uL.2.2), (n + 1), (va_up K n (xs (i + 1))), (va_up Ln n N), (tc_put n 0 (fun _ => 0) 0 Wh), (tc_put n 0 (fun _ => 0) 0 Re), cd, ct, 0, (vp_updL ov 0 ((nI n).toInt64)), od, hdd, (tcI_a hI hn hk hN (fun h => absurd (hh.symm.trans h) (by decide)) (fun _ q _ h => absurd h (Nat.not_lt_zero q)) (fun _ q _ h => absurd h (Nat.not_lt_zero q))), hP, hD, hS, lv_sub hl [2, 3, 4, 5, 6, 7] rfl⟩
        · refine lv_aload_n hx hb dL_law_184 rfl (lv_at hl 4 rfl) ?_
          refine lv_aload_n hx hb dL_law_185 rfl (lv_at hl 5 rfl) ?_
          refine lv_iload hx hb dL_law_186 (lv_at hl 0 rfl) ?_
          refine lv_iconst (v := 1) hx hb dL_law_188 (by decide) ?_
          refine lv_iadd hx hb dL_law_189 ?_
          refine tc_sld hx hb hX hbl hbA hS hL 1 rfl (by omega) (v := (xs (i + 1))) rfl dL_law_190 ?_
          refine lv_aload_n hx hb dL_law_191 rfl (lv_at hl 5 rfl) ?_
          refine lv_iload hx hb dL_law_192 (lv_at hl 0 rfl) ?_
          refine lv_iconst (v := 2) hx hb dL_law_194 (by decide) ?_
          refine lv_iadd hx hb dL_law_195 ?_
          refine tc_sld hx hb hX hbl hbA hS hL 2 rfl (by omega) (v := (xs (i + 2))) rfl dL_law_196 ?_
          refine lv_aload_n hx hb dL_law_197 rfl (lv_at hl 2 rfl) ?_
          refine va_calli (tc_noX (vx_runSX (As := [.ref h0, .int (xs (i + 1)), .int (xs (i + 2)), .ref o1]) (rest := []) ⟨hx, hb, hml, hown, hts⟩ (lLn_create_f2 l hfl D A cI cJ cD cC h0 h1 h2 h3 h4 ad wd rd (m0, .inr (3, [.int th, .int (nI n), .ref m1, .ref m2, .ref m3, .ref m4, .int cd, .ref m5])) (m1, .inl (cI, 60, .inl K)) (m2, .inl (cI, 60, .inl (fun t8 => nI (Ln t8)))) (m3, .inl (cJ, 2400, .inr (.inl Wh))) (m4, .inl (cD, 2400, .inr (.inr (.inr (.inl Re))))) (m5, .inl (cI, 6, .inl ct)) o1 o2 ov od n K Ln Wh Re cd ct H.size (xs (i + 1)) (xs (i + 2)) hk hh hl9 hn) (vx_cwSW 4 hts gL_law_L_create rfl rfl rfl (by decide +kernel) ⟨Nat.le_of_ble_eq_true rfl, Nat.le_of_ble_eq_true rfl⟩) ⟨tcPL.blind, tcPL.go hK hP hD hE hNc hS⟩ rfl rfl hl.1 rfl (lv_room (Nat.le_of_ble_eq_true rfl)) dL_law_198 ⟨by show _ ≤ 601024; omega, by show _ ≤ 7293034; omega⟩)) hS (fun q _ h => h) (fun q h => h) (fun r uL t H locs ht hvm hw hB hz1 hk1 hS => ?_)
          subst hw
          obtain ⟨hP, hD⟩ := hB
          rw [ht] at hP
          have hP : va_P D vwCl (tc_Z cI cJ cD (h0, .inr (2, [.ref h1, .ref h2, .ref h3, .int (nI n), .int cd])) (h1, .inl (cC, 60, .inr (.inr (.inr (.inr (fun t8 => if t8 < n then some (ad t8) else none)))))) (h2, .inl (cI, 6, .inl ct)) (h3, .inr (1, [.ref h4])) (h4, .inl (cD, 10, .inr (.inr (.inr (.inl (fun t8 => tf_N (1023 + 2 ^ t8) 0)))))) ((o1, .inl (cJ, 1, .inr (.inl ov))) :: (o2, .inl (cD, 1, .inr (.inr (.inr (.inl od))))) :: tc_fl (tc_col cJ cD ad wd rd K Ln Wh Re) n) m0 m1 m2 m3 m4 m5 th n K Ln Wh Re cd ct) H := hP
          have hD : va_D A (tc_Z cI cJ cD (h0, .inr (2, [.ref h1, .ref h2, .ref h3, .int (nI n), .int cd])) (h1, .inl (cC, 60, .inr (.inr (.inr (.inr (fun t8 => if t8 < n then some (ad t8) else none)))))) (h2, .inl (cI, 6, .inl ct)) (h3, .inr (1, [.ref h4])) (h4, .inl (cD, 10, .inr (.inr (.inr (.inl (fun t8 => tf_N (1023 + 2 ^ t8) 0)))))) ((o1, .inl (cJ, 1, .inr (.inl ov))) :: (o2, .inl (cD, 1, .inr (.inr (.inr (.inl od))))) :: tc_fl (tc_col cJ cD ad wd rd K Ln Wh Re) n) m0 m1 m2 m3 m4 m5 th n K Ln Wh Re cd ct) := hD
          refine lv_istore (lv' := [(6, .int 2), (5, .int (nI i)), (4, .ref o2), (3, .ref o1), (2, .ref m0), (1, .ref h0), (0, .ref b)]) hx hb dL_law_201 hl (by decide) rfl (fun ls hl => ?_)
          refine lv_aload_n hx hb dL_law_203 rfl (lv_at hl 4 rfl) ?_
          refine lv_aload_n hx hb dL_law_204 rfl (lv_at hl 6 rfl) ?_
          refine lv_iload hx hb dL_law_205 (lv_at hl 1 rfl) ?_
          refine lv_iconst (v := 1) hx hb dL_law_207 (by decide) ?_
          refine lv_iadd hx hb dL_law_208 ?_
          refine tc_sld hx hb hX hbl hbA hS hL 1 rfl (by omega) (v := (xs (i + 1))) rfl dL_law_209 ?_
          refine lv_aload_n hx hb dL_law_210 rfl (lv_at hl 6 rfl) ?_
          refine lv_iload hx hb dL_law_211 (lv_at hl 1 rfl) ?_
          refine lv_iconst (v := 2) hx hb dL_law_213 (by decide) ?_
          refine lv_iadd hx hb dL_law_214 ?_
          refine tc_sld hx hb hX hbl hbA hS hL 2 rfl (by omega) (v := (xs (i + 2))) rfl dL_law_215 ?_
          refine va_calli (va_runV (As := [.int (xs (i + 1)), .int (xs (i + 2))]) (rest := []) ⟨hx, hb, hml, hown, hts⟩ (tX3_create_f l D A cI cJ cD cC (h0, .inr (2, [.ref h1, .ref h2, .ref h3, .int (nI n), .int cd])) (h1, .inl (cC, 60, .inr (.inr (.inr (.inr (fun t8 => if t8 < n then some (ad t8) else none)))))) (h2, .inl (cI, 6, .inl ct)) (h3, .inr (1, [.ref h4])) (h4, .inl (cD, 10, .inr (.inr (.inr (.inl (fun t8 => tf_N (1023 + 2 ^ t8) 0)))))) ((o1, .inl (cJ, 1, .inr (.inl ov))) :: (o2, .inl (cD, 1, .inr (.inr (.inr (.inl od))))) :: tc_fl (tc_col cJ cD ad wd rd K Ln Wh Re) n) m0 m1 m2 m3 m4 m5 th n K Ln Wh Re cd ct H.size (xs (i + 1)) (xs (i + 2)) N hN hk (fun _ => eN) (fun h => absurd (hh.symm.trans h) (by decide)) hn) (cwV 2 hts gL_law_X3_create rfl rfl rfl (by decide +kernel) ⟨Nat.le_of_ble_eq_true rfl, Nat.le_of_ble_eq_true rfl⟩) ⟨tcP.blind, va_recv hK hP (ci := 3) (q0 := 5) rfl rfl, tcP.go hK hP hD hE hS⟩ rfl rfl hl.1 rfl (lv_room (Nat.le_of_ble_eq_true rfl)) dL_law_216 ⟨by show _ ≤ 601024; omega, by show _ ≤ 7293034; omega⟩) hS (fun q _ h => h) (fun q h => h) (fun r u t H locs ht hvm hw hB hz1 hk1 hS => ?_)
          subst hw
          obtain ⟨hP, hD⟩ := hB
          rw [ht] at hP
          refine lv_istore (lv' := [(7, .int 0), (6, .int 2), (5, .int (nI i)), (4, .ref o2), (3, .ref o1), (2, .ref m0), (1, .ref h0), (0, .ref b)]) hx hb dL_law_219 hl (by decide) rfl (fun ls hl => ?_)
          refine lv_aload_n hx hb dL_law_221 rfl (lv_at hl 5 rfl) ?_
          refine vp_callSi (tc_CR (va_runV (As := []) (rest := []) ⟨hx, hb, hml, hown, hts⟩ (tX3_thrown l D A cI cJ cD cC (h0, .inr (2, [.ref h1, .ref h2, .ref h3, .int (nI n), .int cd])) (h1, .inl (cC, 60, .inr (.inr (.inr (.inr (fun t8 => if t8 < n then some (ad t8) else none)))))) (h2, .inl (cI, 6, .inl ct)) (h3, .inr (1, [.ref h4])) (h4, .inl (cD, 10, .inr (.inr (.inr (.inl (fun t8 => tf_N (1023 + 2 ^ t8) 0)))))) ((o1, .inl (cJ, 1, .inr (.inl ov))) :: (o2, .inl (cD, 1, .inr (.inr (.inr (.inl od))))) :: tc_fl (tc_col cJ cD ad wd rd K Ln Wh Re) n) m0 m1 m2 m3 m4 m5 2 n K Ln Wh Re cd ct H.size) (cwV 0 hts gL_law_X3_thrown rfl rfl rfl (by decide +kernel) ⟨Nat.le_of_ble_eq_true rfl, Nat.le_of_ble_eq_true rfl⟩) ⟨tcP.blind, va_recv hK hP (ci := 3) (q0 := 5) rfl rfl, tcP.go hK hP hD hE hS⟩ rfl rfl hl.1 rfl (lv_room (Nat.le_of_ble_eq_true rfl)) dL_law_222 ⟨by show _ ≤ 601024; omega, by show _ ≤ 7293034; omega⟩)) (fun r9 h9 => ?_)
          subst h9
          refine lv_iload hx hb dL_law_225 (lv_at hl 1 rfl) ?_
          refine lv_icmp_eq (tgt := 232) hx hb dL_law_227 (by decide) (fun _ => ?_) (fun q => absurd (by decide) q)
          refine lv_iload hx hb dL_law_232 (lv_at hl 1 rfl) ?_
          refine lv_if_ne (tgt := 249) hx hb dL_law_234 (by decide) (fun _ => ?_) (fun q => absurd q (by decide))
          refine lv_goto (tgt := 2390) hx hb dL_law_249 (by decide) ?_
          refine W.widen (k := ce + 3) (n := sl + 44) (by omega) (by omega) ?_
          exact kc _ _ _ _ ⟨ad, wd, rd, n, K, Ln, Wh, Re, cd, ct, 2, ov, od, hdd, hI, hP, hD, hS, lv_sub hl [2, 3, 4, 5, 6, 7] rfl⟩
set_option maxHeartbeats 4000000 in
set_option maxRecDepth 100000 in
theorem law_1 {p : Program} {l : Launch} {e : Env} {s : State} {m : MethodId} {below : List Frame} {meth : Method} {c : Code} {D : va_G} {A : Nat → Prop} {cI cJ cD cC : ClassId} {h0 h1 h2 h3 h4 m0 m1 m2 m3 m4 m5 o1 o2 : Nat} {b L : Nat} {xs : Nat → Int32} {Q : State → Prop} (C0 : LCtx p l D A cI cJ cD cC s m c b L xs) {d : Drawn} {H : Heap} {locs : List Loc} {ls : Array Slot} {i ce sl : Nat} (hi : i + 6 ≤ L) (hce : ce + 3 ≤ 601024) (hsl : sl + 44 ≤ 7293034) (hv : LInv D A cI cJ cD cC h0 h1 h2 h3 h4 m0 m1 m2 m3 m4 m5 o1 o2 s b d H locs i ls) (kc : ∀ (d : Drawn) (H : Heap) (locs : List Loc) (ls : Array Slot), LInv D A cI cJ cD cC h0 h1 h2 h3 h4 m0 m1 m2 m3 m4 m5 o1 o2 s b d H locs i ls → W p l e room_1 (s.setDrawn d) m #[Value.ref b] below meth c H locs (ce + 3) (sl + 44) Q (F0 m 2390 ls [])) : W p l e room_1 (s.setDrawn d) m #[Value.ref b] below meth c H locs ce sl Q (F0 m 252 ls []) := by
  obtain ⟨hx, hb, hml, hown0, htsB, hX0, hbl, hbA, hA, hL, hfl, hK0, hE0, hNc0⟩ := C0
  obtain ⟨ad, wd, rd, n, K, Ln, Wh, Re, cd, ct, th, ov, od, hdd, hI, hP, hD, hS, hl⟩ := hv
  have hn60 : n ≤ 60 := hI.1
  have hts := dr_words htsB d
  have hK : va_K D vwCl (tcTY cI cJ cD cC) (s.setDrawn d) := hK0
  have hE : tc_E A (s.setDrawn d) := hE0
  have hNc : tc_Nc (s.setDrawn d) := hNc0
  have hown : (s.setDrawn d).vm.findClass RL = some m.cls := hown0
  have hX : va_X b L xs (s.setDrawn d) s.heap := hX0
  refine lv_aload_n hx hb dL_law_252 rfl (lv_at hl 4 rfl) ?_
  refine vp_callSi (tc_CR (va_runV (As := []) (rest := []) ⟨hx, hb, hml, hown, hts⟩ (tX2_columnCount l D A cI cJ cD cC h0 h1 h2 h3 h4 ad wd rd (tc_Y cJ cD (m0, .inr (3, [.int th, .int (nI n), .ref m1, .ref m2, .ref m3, .ref m4, .int cd, .ref m5])) (m1, .inl (cI, 60, .inl K)) (m2, .inl (cI, 60, .inl (fun t8 => nI (Ln t8)))) (m3, .inl (cJ, 2400, .inr (.inl Wh))) (m4, .inl (cD, 2400, .inr (.inr (.inr (.inl Re))))) (m5, .inl (cI, 6, .inl ct)) o1 o2 ov od) n K Ln Wh Re cd ct H.size hI) (cwV 0 hts gL_law_X2_columnCount rfl rfl rfl (by decide +kernel) ⟨Nat.le_of_ble_eq_true rfl, Nat.le_of_ble_eq_true rfl⟩) ⟨tcP.blind, va_recv hK hP (ci := 2) (q0 := 0) rfl rfl, tcP.go hK hP hD hE hS⟩ rfl rfl hl.1 rfl (lv_room (Nat.le_of_ble_eq_true rfl)) dL_law_253 ⟨by show _ ≤ 601024; omega, by show _ ≤ 7293034; omega⟩)) (fun r9 h9 => ?_)
  subst h9
  have hP : va_P D vwCl (tc_Z cI cJ cD (h0, .inr (2, [.ref h1, .ref h2, .ref h3, .int (nI n), .int cd])) (h1, .inl (cC, 60, .inr (.inr (.inr (.inr (fun t8 => if t8 < n then some (ad t8) else none)))))) (h2, .inl (cI, 6, .inl ct)) (h3, .inr (1, [.ref h4])) (h4, .inl (cD, 10, .inr (.inr (.inr (.inl (fun t8 => tf_N (1023 + 2 ^ t8) 0)))))) ((o1, .inl (cJ, 1, .inr (.inl ov))) :: (o2, .inl (cD, 1, .inr (.inr (.inr (.inl od))))) :: tc_fl (tc_col cJ cD ad wd rd K Ln Wh Re) n) m0 m1 m2 m3 m4 m5 th n K Ln Wh Re cd ct) H := hP
  have hD : va_D A (tc_Z cI cJ cD (h0, .inr (2, [.ref h1, .ref h2, .ref h3, .int (nI n), .int cd])) (h1, .inl (cC, 60, .inr (.inr (.inr (.inr (fun t8 => if t8 < n then some (ad t8) else none)))))) (h2, .inl (cI, 6, .inl ct)) (h3, .inr (1, [.ref h4])) (h4, .inl (cD, 10, .inr (.inr (.inr (.inl (fun t8 => tf_N (1023 + 2 ^ t8) 0)))))) ((o1, .inl (cJ, 1, .inr (.inl ov))) :: (o2, .inl (cD, 1, .inr (.inr (.inr (.inl od))))) :: tc_fl (tc_col cJ cD ad wd rd K Ln Wh Re) n) m0 m1 m2 m3 m4 m5 th n K Ln Wh Re cd ct) := hD
  refine lv_aload_n hx hb dL_law_256 rfl (lv_at hl 3 rfl) ?_
  refine va_calli (va_runV (As := []) (rest := [.int (nI n)]) ⟨hx, hb, hml, hown, hts⟩ (tX3_columnCount l D A cI cJ cD cC (h0, .inr (2, [.ref h1, .ref h2, .ref h3, .int (nI n), .int cd])) (h1, .inl (cC, 60, .inr (.inr (.inr (.inr (fun t8 => if t8 < n then some (ad t8) else none)))))) (h2, .inl (cI, 6, .inl ct)) (h3, .inr (1, [.ref h4])) (h4, .inl (cD, 10, .inr (.inr (.inr (.inl (fun t8 => tf_N (1023 + 2 ^ t8) 0)))))) ((o1, .inl (cJ, 1, .inr (.inl ov))) :: (o2, .inl (cD, 1, .inr (.inr (.inr (.inl od))))) :: tc_fl (tc_col cJ cD ad wd rd K Ln Wh Re) n) m0 m1 m2 m3 m4 m5 th n K Ln Wh Re cd ct H.size) (cwV 0 hts gL_law_X3_columnCount rfl rfl rfl (by decide +kernel) ⟨Nat.le_of_ble_eq_true rfl, Nat.le_of_ble_eq_true rfl⟩) ⟨tcP.blind, va_recv hK hP (ci := 3) (q0 := 5) rfl rfl, tcP.go hK hP hD hE hS⟩ rfl rfl hl.1 rfl (lv_room (Nat.le_of_ble_eq_true rfl)) dL_law_257 ⟨by show _ ≤ 601024; omega, by show _ ≤ 7293034; omega⟩) hS (fun q _ h => h) (fun q h => h) (fun r u t H locs ht hvm hw hB hz1 hk1 hS => ?_)
  subst hw
  obtain ⟨hP, hD⟩ := hB
  rw [ht] at hP
  refine lv_icmp_eq (tgt := 2390) hx hb dL_law_260 (by decide) (fun _ => ?_) (fun q => absurd (rfl) q)
  refine W.widen (k := ce + 3) (n := sl + 44) (by omega) (by omega) ?_
  exact kc _ _ _ _ ⟨ad, wd, rd, n, K, Ln, Wh, Re, cd, ct, 0, ov, od, hdd, hI, hP, hD, hS, lv_sub hl [0, 1, 2, 3, 4, 5] rfl⟩
set_option maxHeartbeats 4000000 in
set_option maxRecDepth 100000 in
theorem law_2 {p : Program} {l : Launch} {e : Env} {s : State} {m : MethodId} {below : List Frame} {meth : Method} {c : Code} {D : va_G} {A : Nat → Prop} {cI cJ cD cC : ClassId} {h0 h1 h2 h3 h4 m0 m1 m2 m3 m4 m5 o1 o2 : Nat} {b L : Nat} {xs : Nat → Int32} {Q : State → Prop} (C0 : LCtx p l D A cI cJ cD cC s m c b L xs) {d : Drawn} {H : Heap} {locs : List Loc} {ls : Array Slot} {i ce sl : Nat} (hi : i + 6 ≤ L) (hce : ce + 3 ≤ 601024) (hsl : sl + 44 ≤ 7293034) (hv : LInv D A cI cJ cD cC h0 h1 h2 h3 h4 m0 m1 m2 m3 m4 m5 o1 o2 s b d H locs i ls) (kc : ∀ (d : Drawn) (H : Heap) (locs : List Loc) (ls : Array Slot), LInv D A cI cJ cD cC h0 h1 h2 h3 h4 m0 m1 m2 m3 m4 m5 o1 o2 s b d H locs i ls → W p l e room_1 (s.setDrawn d) m #[Value.ref b] below meth c H locs (ce + 3) (sl + 44) Q (F0 m 2390 ls [])) : W p l e room_1 (s.setDrawn d) m #[Value.ref b] below meth c H locs ce sl Q (F0 m 265 ls []) := by
  obtain ⟨hx, hb, hml, hown0, htsB, hX0, hbl, hbA, hA, hL, hfl, hK0, hE0, hNc0⟩ := C0
  obtain ⟨ad, wd, rd, n, K, Ln, Wh, Re, cd, ct, th, ov, od, hdd, hI, hP, hD, hS, hl⟩ := hv
  have hn60 : n ≤ 60 := hI.1
  have hts := dr_words htsB d
  have hK : va_K D vwCl (tcTY cI cJ cD cC) (s.setDrawn d) := hK0
  have hE : tc_E A (s.setDrawn d) := hE0
  have hNc : tc_Nc (s.setDrawn d) := hNc0
  have hown : (s.setDrawn d).vm.findClass RL = some m.cls := hown0
  have hX : va_X b L xs (s.setDrawn d) s.heap := hX0
  rcases Classical.em (∃ j, j < n ∧ xs (i + 1) = nI j) with ⟨j, hj, ej⟩ | hc
  · refine lv_aload_n hx hb dL_law_265 rfl (lv_at hl 4 rfl) ?_
    refine lv_aload_n hx hb dL_law_266 rfl (lv_at hl 5 rfl) ?_
    refine lv_iload hx hb dL_law_267 (lv_at hl 0 rfl) ?_
    refine lv_iconst (v := 1) hx hb dL_law_269 (by decide) ?_
    refine lv_iadd hx hb dL_law_270 ?_
    refine tc_sld hx hb hX hbl hbA hS hL 1 rfl (by omega) (v := (nI j)) ej dL_law_271 ?_
    refine lv_aload_n hx hb dL_law_272 rfl (lv_at hl 2 rfl) ?_
    refine va_calli (tc_noX (vx_runSX (As := [.ref h0, .int (nI j), .ref o1]) (rest := []) ⟨hx, hb, hml, hown, hts⟩ (lL_kind l hfl D A cI cJ cD cC h0 h1 h2 h3 h4 ad wd rd (m0, .inr (3, [.int th, .int (nI n), .ref m1, .ref m2, .ref m3, .ref m4, .int cd, .ref m5])) (m1, .inl (cI, 60, .inl K)) (m2, .inl (cI, 60, .inl (fun t8 => nI (Ln t8)))) (m3, .inl (cJ, 2400, .inr (.inl Wh))) (m4, .inl (cD, 2400, .inr (.inr (.inr (.inl Re))))) (m5, .inl (cI, 6, .inl ct)) o1 o2 ov od n K Ln Wh Re cd ct H.size hI j hj) (vx_cwSW 3 hts gL_law_L_kind rfl rfl rfl (by decide +kernel) ⟨Nat.le_of_ble_eq_true rfl, Nat.le_of_ble_eq_true rfl⟩) ⟨tcPL.blind, tcPL.go hK hP hD hE hNc hS⟩ rfl rfl hl.1 rfl (lv_room (Nat.le_of_ble_eq_true rfl)) dL_law_273 ⟨by show _ ≤ 601024; omega, by show _ ≤ 7293034; omega⟩)) hS (fun q _ h => h) (fun q h => h) (fun r uL t H locs ht hvm hw hB hz1 hk1 hS => ?_)
    subst hw
    obtain ⟨hP, hD⟩ := hB
    rw [ht] at hP
    have hP : va_P D vwCl (tc_Z cI cJ cD (h0, .inr (2, [.ref h1, .ref h2, .ref h3, .int (nI n), .int cd])) (h1, .inl (cC, 60, .inr (.inr (.inr (.inr (fun t8 => if t8 < n then some (ad t8) else none)))))) (h2, .inl (cI, 6, .inl ct)) (h3, .inr (1, [.ref h4])) (h4, .inl (cD, 10, .inr (.inr (.inr (.inl (fun t8 => tf_N (1023 + 2 ^ t8) 0)))))) ((o1, .inl (cJ, 1, .inr (.inl (vp_updL ov 0 ((K j).toInt64))))) :: (o2, .inl (cD, 1, .inr (.inr (.inr (.inl od))))) :: tc_fl (tc_col cJ cD ad wd rd K Ln Wh Re) n) m0 m1 m2 m3 m4 m5 th n K Ln Wh Re cd ct) H := hP
    have hD : va_D A (tc_Z cI cJ cD (h0, .inr (2, [.ref h1, .ref h2, .ref h3, .int (nI n), .int cd])) (h1, .inl (cC, 60, .inr (.inr (.inr (.inr (fun t8 => if t8 < n then some (ad t8) else none)))))) (h2, .inl (cI, 6, .inl ct)) (h3, .inr (1, [.ref h4])) (h4, .inl (cD, 10, .inr (.inr (.inr (.inl (fun t8 => tf_N (1023 + 2 ^ t8) 0)))))) ((o1, .inl (cJ, 1, .inr (.inl (vp_updL ov 0 ((K j).toInt64))))) :: (o2, .inl (cD, 1, .inr (.inr (.inr (.inl od))))) :: tc_fl (tc_col cJ cD ad wd rd K Ln Wh Re) n) m0 m1 m2 m3 m4 m5 th n K Ln Wh Re cd ct) := hD
    refine lv_istore (lv' := [(6, .int 0), (5, .int (nI i)), (4, .ref o2), (3, .ref o1), (2, .ref m0), (1, .ref h0), (0, .ref b)]) hx hb dL_law_276 hl (by decide) rfl (fun ls hl => ?_)
    refine lv_aload_n hx hb dL_law_278 rfl (lv_at hl 4 rfl) ?_
    refine lv_aload_n hx hb dL_law_279 rfl (lv_at hl 6 rfl) ?_
    refine lv_iload hx hb dL_law_280 (lv_at hl 1 rfl) ?_
    refine lv_iconst (v := 1) hx hb dL_law_282 (by decide) ?_
    refine lv_iadd hx hb dL_law_283 ?_
    refine tc_sld hx hb hX hbl hbA hS hL 1 rfl (by omega) (v := (nI j)) ej dL_law_284 ?_
    refine va_calli (va_runV (As := [.int (nI j)]) (rest := []) ⟨hx, hb, hml, hown, hts⟩ (tX3_kind_y l D A cI cJ cD cC (h0, .inr (2, [.ref h1, .ref h2, .ref h3, .int (nI n), .int cd])) (h1, .inl (cC, 60, .inr (.inr (.inr (.inr (fun t8 => if t8 < n then some (ad t8) else none)))))) (h2, .inl (cI, 6, .inl ct)) (h3, .inr (1, [.ref h4])) (h4, .inl (cD, 10, .inr (.inr (.inr (.inl (fun t8 => tf_N (1023 + 2 ^ t8) 0)))))) ((o1, .inl (cJ, 1, .inr (.inl (vp_updL ov 0 ((K j).toInt64))))) :: (o2, .inl (cD, 1, .inr (.inr (.inr (.inl od))))) :: tc_fl (tc_col cJ cD ad wd rd K Ln Wh Re) n) m0 m1 m2 m3 m4 m5 th n K Ln Wh Re cd ct H.size hI j hj) (cwV 1 hts gL_law_X3_kind rfl rfl rfl (by decide +kernel) ⟨Nat.le_of_ble_eq_true rfl, Nat.le_of_ble_eq_true rfl⟩) ⟨tcP.blind, va_recv hK hP (ci := 3) (q0 := 5) rfl rfl, tcP.go hK hP hD hE hS⟩ rfl rfl hl.1 rfl (lv_room (Nat.le_of_ble_eq_true rfl)) dL_law_285 ⟨by show _ ≤ 601024; omega, by show _ ≤ 7293034; omega⟩) hS (fun q _ h => h) (fun q h => h) (fun r u t H locs ht hvm hw hB hz1 hk1 hS => ?_)
    subst hw
    obtain ⟨hP, hD⟩ := hB
    rw [ht] at hP
    refine lv_istore (lv' := [(7, .int (K j)), (6, .int 0), (5, .int (nI i)), (4, .ref o2), (3, .ref o1), (2, .ref m0), (1, .ref h0), (0, .ref b)]) hx hb dL_law_288 hl (by decide) rfl (fun ls hl => ?_)
    refine lv_aload_n hx hb dL_law_290 rfl (lv_at hl 5 rfl) ?_
    refine vp_callSi (tc_CR (va_runV (As := []) (rest := []) ⟨hx, hb, hml, hown, hts⟩ (tX3_thrown l D A cI cJ cD cC (h0, .inr (2, [.ref h1, .ref h2, .ref h3, .int (nI n), .int cd])) (h1, .inl (cC, 60, .inr (.inr (.inr (.inr (fun t8 => if t8 < n then some (ad t8) else none)))))) (h2, .inl (cI, 6, .inl ct)) (h3, .inr (1, [.ref h4])) (h4, .inl (cD, 10, .inr (.inr (.inr (.inl (fun t8 => tf_N (1023 + 2 ^ t8) 0)))))) ((o1, .inl (cJ, 1, .inr (.inl (vp_updL ov 0 ((K j).toInt64))))) :: (o2, .inl (cD, 1, .inr (.inr (.inr (.inl od))))) :: tc_fl (tc_col cJ cD ad wd rd K Ln Wh Re) n) m0 m1 m2 m3 m4 m5 0 n K Ln Wh Re cd ct H.size) (cwV 0 hts gL_law_X3_thrown rfl rfl rfl (by decide +kernel) ⟨Nat.le_of_ble_eq_true rfl, Nat.le_of_ble_eq_true rfl⟩) ⟨tcP.blind, va_recv hK hP (ci := 3) (q0 := 5) rfl rfl, tcP.go hK hP hD hE hS⟩ rfl rfl hl.1 rfl (lv_room (Nat.le_of_ble_eq_true rfl)) dL_law_291 ⟨by show _ ≤ 601024; omega, by show _ ≤ 7293034; omega⟩)) (fun r9 h9 => ?_)
    subst h9
    refine lv_iload hx hb dL_law_294 (lv_at hl 1 rfl) ?_
    refine lv_icmp_eq (tgt := 301) hx hb dL_law_296 (by decide) (fun _ => ?_) (fun q => absurd (by decide) q)
    refine lv_iload hx hb dL_law_301 (lv_at hl 1 rfl) ?_
    refine lv_if_ne (tgt := 318) hx hb dL_law_303 (by decide) (fun q => absurd (by decide) q) (fun _ => ?_)
    refine lv_aload_n hx hb dL_law_306 rfl (lv_at hl 4 rfl) ?_
    refine lv_iconst (v := 0) hx hb dL_law_307 (by decide) ?_
    refine tc_lald (f := (vp_updL ov 0 ((K j).toInt64))) (v := (K j).toInt64) hx hb hK hP 11 1 rfl rfl (by unfold vp_in; decide) (show (vp_updL ov 0 ((K j).toInt64)) 0 = (K j).toInt64 from if_pos rfl) dL_law_308 ?_
    refine lv_iload hx hb dL_law_309 (lv_at hl 0 rfl) ?_
    refine lv_i2l (v := (K j).toInt64) hx hb dL_law_311 rfl ?_
    refine W.lcmp hx hb dL_law_312 ?_
    refine lv_if_eq (tgt := 318) hx hb dL_law_313 (by decide) (fun _ => ?_) (fun q => absurd ((lg_cmp_eq _ _).mpr rfl) q)
    refine lv_goto (tgt := 2390) hx hb dL_law_318 (by decide) ?_
    refine W.widen (k := ce + 3) (n := sl + 44) (by omega) (by omega) ?_
    exact kc _ _ _ _ ⟨ad, wd, rd, n, K, Ln, Wh, Re, cd, ct, 0, (vp_updL ov 0 ((K j).toInt64)), od, hdd, hI, hP, hD, hS, lv_sub hl [2, 3, 4, 5, 6, 7] rfl⟩
  · refine lv_aload_n hx hb dL_law_265 rfl (lv_at hl 4 rfl) ?_
    refine lv_aload_n hx hb dL_law_266 rfl (lv_at hl 5 rfl) ?_
    refine lv_iload hx hb dL_law_267 (lv_at hl 0 rfl) ?_
    refine lv_iconst (v := 1) hx hb dL_law_269 (by decide) ?_
    refine lv_iadd hx hb dL_law_270 ?_
    refine tc_sld hx hb hX hbl hbA hS hL 1 rfl (by omega) (v := (xs (i + 1))) rfl dL_law_271 ?_
    refine lv_aload_n hx hb dL_law_272 rfl (lv_at hl 2 rfl) ?_
    refine va_calli (tc_noX (vx_runSX (As := [.ref h0, .int (xs (i + 1)), .ref o1]) (rest := []) ⟨hx, hb, hml, hown, hts⟩ (lLn_kind l hfl D A cI cJ cD cC h0 h1 h2 h3 h4 ad wd rd (m0, .inr (3, [.int th, .int (nI n), .ref m1, .ref m2, .ref m3, .ref m4, .int cd, .ref m5])) (m1, .inl (cI, 60, .inl K)) (m2, .inl (cI, 60, .inl (fun t8 => nI (Ln t8)))) (m3, .inl (cJ, 2400, .inr (.inl Wh))) (m4, .inl (cD, 2400, .inr (.inr (.inr (.inl Re))))) (m5, .inl (cI, 6, .inl ct)) o1 o2 ov od n K Ln Wh Re cd ct H.size hn60 (xs (i + 1)) hc) (vx_cwSW 3 hts gL_law_L_kind rfl rfl rfl (by decide +kernel) ⟨Nat.le_of_ble_eq_true rfl, Nat.le_of_ble_eq_true rfl⟩) ⟨tcPL.blind, tcPL.go hK hP hD hE hNc hS⟩ rfl rfl hl.1 rfl (lv_room (Nat.le_of_ble_eq_true rfl)) dL_law_273 ⟨by show _ ≤ 601024; omega, by show _ ≤ 7293034; omega⟩)) hS (fun q _ h => h) (fun q h => h) (fun r uL t H locs ht hvm hw hB hz1 hk1 hS => ?_)
    subst hw
    obtain ⟨hP, hD⟩ := hB
    rw [ht] at hP
    have hP : va_P D vwCl (tc_Z cI cJ cD (h0, .inr (2, [.ref h1, .ref h2, .ref h3, .int (nI n), .int cd])) (h1, .inl (cC, 60, .inr (.inr (.inr (.inr (fun t8 => if t8 < n then some (ad t8) else none)))))) (h2, .inl (cI, 6, .inl ct)) (h3, .inr (1, [.ref h4])) (h4, .inl (cD, 10, .inr (.inr (.inr (.inl (fun t8 => tf_N (1023 + 2 ^ t8) 0)))))) ((o1, .inl (cJ, 1, .inr (.inl ov))) :: (o2, .inl (cD, 1, .inr (.inr (.inr (.inl od))))) :: tc_fl (tc_col cJ cD ad wd rd K Ln Wh Re) n) m0 m1 m2 m3 m4 m5 th n K Ln Wh Re cd ct) H := hP
    have hD : va_D A (tc_Z cI cJ cD (h0, .inr (2, [.ref h1, .ref h2, .ref h3, .int (nI n), .int cd])) (h1, .inl (cC, 60, .inr (.inr (.inr (.inr (fun t8 => if t8 < n then some (ad t8) else none)))))) (h2, .inl (cI, 6, .inl ct)) (h3, .inr (1, [.ref h4])) (h4, .inl (cD, 10, .inr (.inr (.inr (.inl (fun t8 => tf_N (1023 + 2 ^ t8) 0)))))) ((o1, .inl (cJ, 1, .inr (.inl ov))) :: (o2, .inl (cD, 1, .inr (.inr (.inr (.inl od))))) :: tc_fl (tc_col cJ cD ad wd rd K Ln Wh Re) n) m0 m1 m2 m3 m4 m5 th n K Ln Wh Re cd ct) := hD
    refine lv_istore (lv' := [(6, .int 1), (5, .int (nI i)), (4, .ref o2), (3, .ref o1), (2, .ref m0), (1, .ref h0), (0, .ref b)]) hx hb dL_law_276 hl (by decide) rfl (fun ls hl => ?_)
    refine lv_aload_n hx hb dL_law_278 rfl (lv_at hl 4 rfl) ?_
    refine lv_aload_n hx hb dL_law_279 rfl (lv_at hl 6 rfl) ?_
    refine lv_iload hx hb dL_law_280 (lv_at hl 1 rfl) ?_
    refine lv_iconst (v := 1) hx hb dL_law_282 (by decide) ?_
    refine lv_iadd hx hb dL_law_283 ?_
    refine tc_sld hx hb hX hbl hbA hS hL 1 rfl (by omega) (v := (xs (i + 1))) rfl dL_law_284 ?_
    refine va_calli (va_runV (As := [.int (xs (i + 1))]) (rest := []) ⟨hx, hb, hml, hown, hts⟩ (tX3_kind_n l D A cI cJ cD cC (h0, .inr (2, [.ref h1, .ref h2, .ref h3, .int (nI n), .int cd])) (h1, .inl (cC, 60, .inr (.inr (.inr (.inr (fun t8 => if t8 < n then some (ad t8) else none)))))) (h2, .inl (cI, 6, .inl ct)) (h3, .inr (1, [.ref h4])) (h4, .inl (cD, 10, .inr (.inr (.inr (.inl (fun t8 => tf_N (1023 + 2 ^ t8) 0)))))) ((o1, .inl (cJ, 1, .inr (.inl ov))) :: (o2, .inl (cD, 1, .inr (.inr (.inr (.inl od))))) :: tc_fl (tc_col cJ cD ad wd rd K Ln Wh Re) n) m0 m1 m2 m3 m4 m5 th n K Ln Wh Re cd ct H.size hI (xs (i + 1)) hc) (cwV 1 hts gL_law_X3_kind rfl rfl rfl (by decide +kernel) ⟨Nat.le_of_ble_eq_true rfl, Nat.le_of_ble_eq_true rfl⟩) ⟨tcP.blind, va_recv hK hP (ci := 3) (q0 := 5) rfl rfl, tcP.go hK hP hD hE hS⟩ rfl rfl hl.1 rfl (lv_room (Nat.le_of_ble_eq_true rfl)) dL_law_285 ⟨by show _ ≤ 601024; omega, by show _ ≤ 7293034; omega⟩) hS (fun q _ h => h) (fun q h => h) (fun r u t H locs ht hvm hw hB hz1 hk1 hS => ?_)
    subst hw
    obtain ⟨hP, hD⟩ := hB
    rw [ht] at hP
    refine lv_istore (lv' := [(7, .int 0), (6, .int 1), (5, .int (nI i)), (4, .ref o2), (3, .ref o1), (2, .ref m0), (1, .ref h0), (0, .ref b)]) hx hb dL_law_288 hl (by decide) rfl (fun ls hl => ?_)
    refine lv_aload_n hx hb dL_law_290 rfl (lv_at hl 5 rfl) ?_
    refine vp_callSi (tc_CR (va_runV (As := []) (rest := []) ⟨hx, hb, hml, hown, hts⟩ (tX3_thrown l D A cI cJ cD cC (h0, .inr (2, [.ref h1, .ref h2, .ref h3, .int (nI n), .int cd])) (h1, .inl (cC, 60, .inr (.inr (.inr (.inr (fun t8 => if t8 < n then some (ad t8) else none)))))) (h2, .inl (cI, 6, .inl ct)) (h3, .inr (1, [.ref h4])) (h4, .inl (cD, 10, .inr (.inr (.inr (.inl (fun t8 => tf_N (1023 + 2 ^ t8) 0)))))) ((o1, .inl (cJ, 1, .inr (.inl ov))) :: (o2, .inl (cD, 1, .inr (.inr (.inr (.inl od))))) :: tc_fl (tc_col cJ cD ad wd rd K Ln Wh Re) n) m0 m1 m2 m3 m4 m5 1 n K Ln Wh Re cd ct H.size) (cwV 0 hts gL_law_X3_thrown rfl rfl rfl (by decide +kernel) ⟨Nat.le_of_ble_eq_true rfl, Nat.le_of_ble_eq_true rfl⟩) ⟨tcP.blind, va_recv hK hP (ci := 3) (q0 := 5) rfl rfl, tcP.go hK hP hD hE hS⟩ rfl rfl hl.1 rfl (lv_room (Nat.le_of_ble_eq_true rfl)) dL_law_291 ⟨by show _ ≤ 601024; omega, by show _ ≤ 7293034; omega⟩)) (fun r9 h9 => ?_)
    subst h9
    refine lv_iload hx hb dL_law_294 (lv_at hl 1 rfl) ?_
    refine lv_icmp_eq (tgt := 301) hx hb dL_law_296 (by decide) (fun _ => ?_) (fun q => absurd (by decide) q)
    refine lv_iload hx hb dL_law_301 (lv_at hl 1 rfl) ?_
    refine lv_if_ne (tgt := 318) hx hb dL_law_303 (by decide) (fun _ => ?_) (fun q => absurd q (by decide))
    refine lv_goto (tgt := 2390) hx hb dL_law_318 (by decide) ?_
    refine W.widen (k := ce + 3) (n := sl + 44) (by omega) (by omega) ?_
    exact kc _ _ _ _ ⟨ad, wd, rd, n, K, Ln, Wh, Re, cd, ct, 1, ov, od, hdd, hI, hP, hD, hS, lv_sub hl [2, 3, 4, 5, 6, 7] rfl⟩
set_option maxHeartbeats 4000000 in
set_option maxRecDepth 100000 in
theorem law_3 {p : Program} {l : Launch} {e : Env} {s : State} {m : MethodId} {below : List Frame} {meth : Method} {c : Code} {D : va_G} {A : Nat → Prop} {cI cJ cD cC : ClassId} {h0 h1 h2 h3 h4 m0 m1 m2 m3 m4 m5 o1 o2 : Nat} {b L : Nat} {xs : Nat → Int32} {Q : State → Prop} (C0 : LCtx p l D A cI cJ cD cC s m c b L xs) {d : Drawn} {H : Heap} {locs : List Loc} {ls : Array Slot} {i ce sl : Nat} (hi : i + 6 ≤ L) (hce : ce + 3 ≤ 601024) (hsl : sl + 44 ≤ 7293034) (hv : LInv D A cI cJ cD cC h0 h1 h2 h3 h4 m0 m1 m2 m3 m4 m5 o1 o2 s b d H locs i ls) (kc : ∀ (d : Drawn) (H : Heap) (locs : List Loc) (ls : Array Slot), LInv D A cI cJ cD cC h0 h1 h2 h3 h4 m0 m1 m2 m3 m4 m5 o1 o2 s b d H locs i ls → W p l e room_1 (s.setDrawn d) m #[Value.ref b] below meth c H locs (ce + 3) (sl + 44) Q (F0 m 2390 ls [])) : W p l e room_1 (s.setDrawn d) m #[Value.ref b] below meth c H locs ce sl Q (F0 m 321 ls []) := by
  obtain ⟨hx, hb, hml, hown0, htsB, hX0, hbl, hbA, hA, hL, hfl, hK0, hE0, hNc0⟩ := C0
  obtain ⟨ad, wd, rd, n, K, Ln, Wh, Re, cd, ct, th, ov, od, hdd, hI, hP, hD, hS, hl⟩ := hv
  have hn60 : n ≤ 60 := hI.1
  have hts := dr_words htsB d
  have hK : va_K D vwCl (tcTY cI cJ cD cC) (s.setDrawn d) := hK0
  have hE : tc_E A (s.setDrawn d) := hE0
  have hNc : tc_Nc (s.setDrawn d) := hNc0
  have hown : (s.setDrawn d).vm.findClass RL = some m.cls := hown0
  have hX : va_X b L xs (s.setDrawn d) s.heap := hX0
  rcases Classical.em (∃ j, j < n ∧ xs (i + 1) = nI j) with ⟨j, hj, ej⟩ | hc
  · refine lv_aload_n hx hb dL_law_321 rfl (lv_at hl 4 rfl) ?_
    refine lv_aload_n hx hb dL_law_322 rfl (lv_at hl 5 rfl) ?_
    refine lv_iload hx hb dL_law_323 (lv_at hl 0 rfl) ?_
    refine lv_iconst (v := 1) hx hb dL_law_325 (by decide) ?_
    refine lv_iadd hx hb dL_law_326 ?_
    refine tc_sld hx hb hX hbl hbA hS hL 1 rfl (by omega) (v := (nI j)) ej dL_law_327 ?_
    refine lv_aload_n hx hb dL_law_328 rfl (lv_at hl 2 rfl) ?_
    refine va_calli (tc_noX (vx_runSX (As := [.ref h0, .int (nI j), .ref o1]) (rest := []) ⟨hx, hb, hml, hown, hts⟩ (lL_length l hfl D A cI cJ cD cC h0 h1 h2 h3 h4 ad wd rd (m0, .inr (3, [.int th, .int (nI n), .ref m1, .ref m2, .ref m3, .ref m4, .int cd, .ref m5])) (m1, .inl (cI, 60, .inl K)) (m2, .inl (cI, 60, .inl (fun t8 => nI (Ln t8)))) (m3, .inl (cJ, 2400, .inr (.inl Wh))) (m4, .inl (cD, 2400, .inr (.inr (.inr (.inl Re))))) (m5, .inl (cI, 6, .inl ct)) o1 o2 ov od n K Ln Wh Re cd ct H.size hI j hj) (vx_cwSW 3 hts gL_law_L_length rfl rfl rfl (by decide +kernel) ⟨Nat.le_of_ble_eq_true rfl, Nat.le_of_ble_eq_true rfl⟩) ⟨tcPL.blind, tcPL.go hK hP hD hE hNc hS⟩ rfl rfl hl.1 rfl (lv_room (Nat.le_of_ble_eq_true rfl)) dL_law_329 ⟨by show _ ≤ 601024; omega, by show _ ≤ 7293034; omega⟩)) hS (fun q _ h => h) (fun q h => h) (fun r uL t H locs ht hvm hw hB hz1 hk1 hS => ?_)
    subst hw
    obtain ⟨hP, hD⟩ := hB
    rw [ht] at hP
    have hP : va_P D vwCl (tc_Z cI cJ cD (h0, .inr (2, [.ref h1, .ref h2, .ref h3, .int (nI n), .int (kCol (K j))])) (h1, .inl (cC, 60, .inr (.inr (.inr (.inr (fun t8 => if t8 < n then some (ad t8) else none)))))) (h2, .inl (cI, 6, .inl (noteC ct (kCol (K j))))) (h3, .inr (1, [.ref h4])) (h4, .inl (cD, 10, .inr (.inr (.inr (.inl (fun t8 => tf_N (1023 + 2 ^ t8) 0)))))) ((o1, .inl (cJ, 1, .inr (.inl (vp_updL ov 0 ((tc_cl (K j) (Ln j)).toInt64))))) :: (o2, .inl (cD, 1, .inr (.inr (.inr (.inl od))))) :: tc_fl (tc_col cJ cD ad wd rd K Ln Wh Re) n) m0 m1 m2 m3 m4 m5 th n K Ln Wh Re cd ct) H := hP
    have hD : va_D A (tc_Z cI cJ cD (h0, .inr (2, [.ref h1, .ref h2, .ref h3, .int (nI n), .int (kCol (K j))])) (h1, .inl (cC, 60, .inr (.inr (.inr (.inr (fun t8 => if t8 < n then some (ad t8) else none)))))) (h2, .inl (cI, 6, .inl (noteC ct (kCol (K j))))) (h3, .inr (1, [.ref h4])) (h4, .inl (cD, 10, .inr (.inr (.inr (.inl (fun t8 => tf_N (1023 + 2 ^ t8) 0)))))) ((o1, .inl (cJ, 1, .inr (.inl (vp_updL ov 0 ((tc_cl (K j) (Ln j)).toInt64))))) :: (o2, .inl (cD, 1, .inr (.inr (.inr (.inl od))))) :: tc_fl (tc_col cJ cD ad wd rd K Ln Wh Re) n) m0 m1 m2 m3 m4 m5 th n K Ln Wh Re cd ct) := hD
    refine lv_istore (lv' := [(6, .int 0), (5, .int (nI i)), (4, .ref o2), (3, .ref o1), (2, .ref m0), (1, .ref h0), (0, .ref b)]) hx hb dL_law_332 hl (by decide) rfl (fun ls hl => ?_)
    refine lv_aload_n hx hb dL_law_334 rfl (lv_at hl 4 rfl) ?_
    refine lv_aload_n hx hb dL_law_335 rfl (lv_at hl 6 rfl) ?_
    refine lv_iload hx hb dL_law_336 (lv_at hl 1 rfl) ?_
    refine lv_iconst (v := 1) hx hb dL_law_338 (by decide) ?_
    refine lv_iadd hx hb dL_law_339 ?_
    refine tc_sld hx hb hX hbl hbA hS hL 1 rfl (by omega) (v := (nI j)) ej dL_law_340 ?_
    refine va_calli (va_runV (As := [.int (nI j)]) (rest := []) ⟨hx, hb, hml, hown, hts⟩ (tX3_length_y l D A cI cJ cD cC (h0, .inr (2, [.ref h1, .ref h2, .ref h3, .int (nI n), .int (kCol (K j))])) (h1, .inl (cC, 60, .inr (.inr (.inr (.inr (fun t8 => if t8 < n then some (ad t8) else none)))))) (h2, .inl (cI, 6, .inl (noteC ct (kCol (K j))))) (h3, .inr (1, [.ref h4])) (h4, .inl (cD, 10, .inr (.inr (.inr (.inl (fun t8 => tf_N (1023 + 2 ^ t8) 0)))))) ((o1, .inl (cJ, 1, .inr (.inl (vp_updL ov 0 ((tc_cl (K j) (Ln j)).toInt64))))) :: (o2, .inl (cD, 1, .inr (.inr (.inr (.inl od))))) :: tc_fl (tc_col cJ cD ad wd rd K Ln Wh Re) n) m0 m1 m2 m3 m4 m5 th n K Ln Wh Re cd ct H.size hI j hj) (cwV 1 hts gL_law_X3_length rfl rfl rfl (by decide +kernel) ⟨Nat.le_of_ble_eq_true rfl, Nat.le_of_ble_eq_true rfl⟩) ⟨tcP.blind, va_recv hK hP (ci := 3) (q0 := 5) rfl rfl, tcP.go hK hP hD hE hS⟩ rfl rfl hl.1 rfl (lv_room (Nat.le_of_ble_eq_true rfl)) dL_law_341 ⟨by show _ ≤ 601024; omega, by show _ ≤ 7293034; omega⟩) hS (fun q _ h => h) (fun q h => h) (fun r u t H locs ht hvm hw hB hz1 hk1 hS => ?_)
    subst hw
    obtain ⟨hP, hD⟩ := hB
    rw [ht] at hP
    refine lv_istore (lv' := [(7, .int (tc_cl (K j) (Ln j))), (6, .int 0), (5, .int (nI i)), (4, .ref o2), (3, .ref o1), (2, .ref m0), (1, .ref h0), (0, .ref b)]) hx hb dL_law_344 hl (by decide) rfl (fun ls hl => ?_)
    refine lv_aload_n hx hb dL_law_346 rfl (lv_at hl 5 rfl) ?_
    refine vp_callSi (tc_CR (va_runV (As := []) (rest := []) ⟨hx, hb, hml, hown, hts⟩ (tX3_thrown l D A cI cJ cD cC (h0, .inr (2, [.ref h1, .ref h2, .ref h3, .int (nI n), .int (kCol (K j))])) (h1, .inl (cC, 60, .inr (.inr (.inr (.inr (fun t8 => if t8 < n then some (ad t8) else none)))))) (h2, .inl (cI, 6, .inl (noteC ct (kCol (K j))))) (h3, .inr (1, [.ref h4])) (h4, .inl (cD, 10, .inr (.inr (.inr (.inl (fun t8 => tf_N (1023 + 2 ^ t8) 0)))))) ((o1, .inl (cJ, 1, .inr (.inl (vp_updL ov 0 ((tc_cl (K j) (Ln j)).toInt64))))) :: (o2, .inl (cD, 1, .inr (.inr (.inr (.inl od))))) :: tc_fl (tc_col cJ cD ad wd rd K Ln Wh Re) n) m0 m1 m2 m3 m4 m5 0 n K Ln Wh Re (kCol (K j)) (noteC ct (kCol (K j))) H.size) (cwV 0 hts gL_law_X3_thrown rfl rfl rfl (by decide +kernel) ⟨Nat.le_of_ble_eq_true rfl, Nat.le_of_ble_eq_true rfl⟩) ⟨tcP.blind, va_recv hK hP (ci := 3) (q0 := 5) rfl rfl, tcP.go hK hP hD hE hS⟩ rfl rfl hl.1 rfl (lv_room (Nat.le_of_ble_eq_true rfl)) dL_law_347 ⟨by show _ ≤ 601024; omega, by show _ ≤ 7293034; omega⟩)) (fun r9 h9 => ?_)
    subst h9
    refine lv_iload hx hb dL_law_350 (lv_at hl 1 rfl) ?_
    refine lv_icmp_eq (tgt := 357) hx hb dL_law_352 (by decide) (fun _ => ?_) (fun q => absurd (by decide) q)
    refine lv_iload hx hb dL_law_357 (lv_at hl 1 rfl) ?_
    refine lv_if_ne (tgt := 374) hx hb dL_law_359 (by decide) (fun q => absurd (by decide) q) (fun _ => ?_)
    refine lv_aload_n hx hb dL_law_362 rfl (lv_at hl 4 rfl) ?_
    refine lv_iconst (v := 0) hx hb dL_law_363 (by decide) ?_
    refine tc_lald (f := (vp_updL ov 0 ((tc_cl (K j) (Ln j)).toInt64))) (v := (tc_cl (K j) (Ln j)).toInt64) hx hb hK hP 11 1 rfl rfl (by unfold vp_in; decide) (show (vp_updL ov 0 ((tc_cl (K j) (Ln j)).toInt64)) 0 = (tc_cl (K j) (Ln j)).toInt64 from if_pos rfl) dL_law_364 ?_
    refine lv_iload hx hb dL_law_365 (lv_at hl 0 rfl) ?_
    refine lv_i2l (v := (tc_cl (K j) (Ln j)).toInt64) hx hb dL_law_367 rfl ?_
    refine W.lcmp hx hb dL_law_368 ?_
    refine lv_if_eq (tgt := 374) hx hb dL_law_369 (by decide) (fun _ => ?_) (fun q => absurd ((lg_cmp_eq _ _).mpr rfl) q)
    refine lv_goto (tgt := 2390) hx hb dL_law_374 (by decide) ?_
    refine W.widen (k := ce + 3) (n := sl + 44) (by omega) (by omega) ?_
    exact kc _ _ _ _ ⟨ad, wd, rd, n, K, Ln, Wh, Re, (kCol (K j)), (noteC ct (kCol (K j))), 0, (vp_updL ov 0 ((tc_cl (K j) (Ln j)).toInt64)), od, hdd, hI, hP, hD, hS, lv_sub hl [2, 3, 4, 5, 6, 7] rfl⟩
  · refine lv_aload_n hx hb dL_law_321 rfl (lv_at hl 4 rfl) ?_
    refine lv_aload_n hx hb dL_law_322 rfl (lv_at hl 5 rfl) ?_
    refine lv_iload hx hb dL_law_323 (lv_at hl 0 rfl) ?_
    refine lv_iconst (v := 1) hx hb dL_law_325 (by decide) ?_
    refine lv_iadd hx hb dL_law_326 ?_
    refine tc_sld hx hb hX hbl hbA hS hL 1 rfl (by omega) (v := (xs (i + 1))) rfl dL_law_327 ?_
    refine lv_aload_n hx hb dL_law_328 rfl (lv_at hl 2 rfl) ?_
    refine va_calli (tc_noX (vx_runSX (As := [.ref h0, .int (xs (i + 1)), .ref o1]) (rest := []) ⟨hx, hb, hml, hown, hts⟩ (lLn_length l hfl D A cI cJ cD cC h0 h1 h2 h3 h4 ad wd rd (m0, .inr (3, [.int th, .int (nI n), .ref m1, .ref m2, .ref m3, .ref m4, .int cd, .ref m5])) (m1, .inl (cI, 60, .inl K)) (m2, .inl (cI, 60, .inl (fun t8 => nI (Ln t8)))) (m3, .inl (cJ, 2400, .inr (.inl Wh))) (m4, .inl (cD, 2400, .inr (.inr (.inr (.inl Re))))) (m5, .inl (cI, 6, .inl ct)) o1 o2 ov od n K Ln Wh Re cd ct H.size hn60 (xs (i + 1)) hc) (vx_cwSW 3 hts gL_law_L_length rfl rfl rfl (by decide +kernel) ⟨Nat.le_of_ble_eq_true rfl, Nat.le_of_ble_eq_true rfl⟩) ⟨tcPL.blind, tcPL.go hK hP hD hE hNc hS⟩ rfl rfl hl.1 rfl (lv_room (Nat.le_of_ble_eq_true rfl)) dL_law_329 ⟨by show _ ≤ 601024; omega, by show _ ≤ 7293034; omega⟩)) hS (fun q _ h => h) (fun q h => h) (fun r uL t H locs ht hvm hw hB hz1 hk1 hS => ?_)
    subst hw
    obtain ⟨hP, hD⟩ := hB
    rw [ht] at hP
    have hP : va_P D vwCl (tc_Z cI cJ cD (h0, .inr (2, [.ref h1, .ref h2, .ref h3, .int (nI n), .int cd])) (h1, .inl (cC, 60, .inr (.inr (.inr (.inr (fun t8 => if t8 < n then some (ad t8) else none)))))) (h2, .inl (cI, 6, .inl ct)) (h3, .inr (1, [.ref h4])) (h4, .inl (cD, 10, .inr (.inr (.inr (.inl (fun t8 => tf_N (1023 + 2 ^ t8) 0)))))) ((o1, .inl (cJ, 1, .inr (.inl ov))) :: (o2, .inl (cD, 1, .inr (.inr (.inr (.inl od))))) :: tc_fl (tc_col cJ cD ad wd rd K Ln Wh Re) n) m0 m1 m2 m3 m4 m5 th n K Ln Wh Re cd ct) H := hP
    have hD : va_D A (tc_Z cI cJ cD (h0, .inr (2, [.ref h1, .ref h2, .ref h3, .int (nI n), .int cd])) (h1, .inl (cC, 60, .inr (.inr (.inr (.inr (fun t8 => if t8 < n then some (ad t8) else none)))))) (h2, .inl (cI, 6, .inl ct)) (h3, .inr (1, [.ref h4])) (h4, .inl (cD, 10, .inr (.inr (.inr (.inl (fun t8 => tf_N (1023 + 2 ^ t8) 0)))))) ((o1, .inl (cJ, 1, .inr (.inl ov))) :: (o2, .inl (cD, 1, .inr (.inr (.inr (.inl od))))) :: tc_fl (tc_col cJ cD ad wd rd K Ln Wh Re) n) m0 m1 m2 m3 m4 m5 th n K Ln Wh Re cd ct) := hD
    refine lv_istore (lv' := [(6, .int 1), (5, .int (nI i)), (4, .ref o2), (3, .ref o1), (2, .ref m0), (1, .ref h0), (0, .ref b)]) hx hb dL_law_332 hl (by decide) rfl (fun ls hl => ?_)
    refine lv_aload_n hx hb dL_law_334 rfl (lv_at hl 4 rfl) ?_
    refine lv_aload_n hx hb dL_law_335 rfl (lv_at hl 6 rfl) ?_
    refine lv_iload hx hb dL_law_336 (lv_at hl 1 rfl) ?_
    refine lv_iconst (v := 1) hx hb dL_law_338 (by decide) ?_
    refine lv_iadd hx hb dL_law_339 ?_
    refine tc_sld hx hb hX hbl hbA hS hL 1 rfl (by omega) (v := (xs (i + 1))) rfl dL_law_340 ?_
    refine va_calli (va_runV (As := [.int (xs (i + 1))]) (rest := []) ⟨hx, hb, hml, hown, hts⟩ (tX3_length_n l D A cI cJ cD cC (h0, .inr (2, [.ref h1, .ref h2, .ref h3, .int (nI n), .int cd])) (h1, .inl (cC, 60, .inr (.inr (.inr (.inr (fun t8 => if t8 < n then some (ad t8) else none)))))) (h2, .inl (cI, 6, .inl ct)) (h3, .inr (1, [.ref h4])) (h4, .inl (cD, 10, .inr (.inr (.inr (.inl (fun t8 => tf_N (1023 + 2 ^ t8) 0)))))) ((o1, .inl (cJ, 1, .inr (.inl ov))) :: (o2, .inl (cD, 1, .inr (.inr (.inr (.inl od))))) :: tc_fl (tc_col cJ cD ad wd rd K Ln Wh Re) n) m0 m1 m2 m3 m4 m5 th n K Ln Wh Re cd ct H.size hI (xs (i + 1)) hc) (cwV 1 hts gL_law_X3_length rfl rfl rfl (by decide +kernel) ⟨Nat.le_of_ble_eq_true rfl, Nat.le_of_ble_eq_true rfl⟩) ⟨tcP.blind, va_recv hK hP (ci := 3) (q0 := 5) rfl rfl, tcP.go hK hP hD hE hS⟩ rfl rfl hl.1 rfl (lv_room (Nat.le_of_ble_eq_true rfl)) dL_law_341 ⟨by show _ ≤ 601024; omega, by show _ ≤ 7293034; omega⟩) hS (fun q _ h => h) (fun q h => h) (fun r u t H locs ht hvm hw hB hz1 hk1 hS => ?_)
    subst hw
    obtain ⟨hP, hD⟩ := hB
    rw [ht] at hP
    refine lv_istore (lv' := [(7, .int 0), (6, .int 1), (5, .int (nI i)), (4, .ref o2), (3, .ref o1), (2, .ref m0), (1, .ref h0), (0, .ref b)]) hx hb dL_law_344 hl (by decide) rfl (fun ls hl => ?_)
    refine lv_aload_n hx hb dL_law_346 rfl (lv_at hl 5 rfl) ?_
    refine vp_callSi (tc_CR (va_runV (As := []) (rest := []) ⟨hx, hb, hml, hown, hts⟩ (tX3_thrown l D A cI cJ cD cC (h0, .inr (2, [.ref h1, .ref h2, .ref h3, .int (nI n), .int cd])) (h1, .inl (cC, 60, .inr (.inr (.inr (.inr (fun t8 => if t8 < n then some (ad t8) else none)))))) (h2, .inl (cI, 6, .inl ct)) (h3, .inr (1, [.ref h4])) (h4, .inl (cD, 10, .inr (.inr (.inr (.inl (fun t8 => tf_N (1023 + 2 ^ t8) 0)))))) ((o1, .inl (cJ, 1, .inr (.inl ov))) :: (o2, .inl (cD, 1, .inr (.inr (.inr (.inl od))))) :: tc_fl (tc_col cJ cD ad wd rd K Ln Wh Re) n) m0 m1 m2 m3 m4 m5 1 n K Ln Wh Re cd ct H.size) (cwV 0 hts gL_law_X3_thrown rfl rfl rfl (by decide +kernel) ⟨Nat.le_of_ble_eq_true rfl, Nat.le_of_ble_eq_true rfl⟩) ⟨tcP.blind, va_recv hK hP (ci := 3) (q0 := 5) rfl rfl, tcP.go hK hP hD hE hS⟩ rfl rfl hl.1 rfl (lv_room (Nat.le_of_ble_eq_true rfl)) dL_law_347 ⟨by show _ ≤ 601024; omega, by show _ ≤ 7293034; omega⟩)) (fun r9 h9 => ?_)
    subst h9
    refine lv_iload hx hb dL_law_350 (lv_at hl 1 rfl) ?_
    refine lv_icmp_eq (tgt := 357) hx hb dL_law_352 (by decide) (fun _ => ?_) (fun q => absurd (by decide) q)
    refine lv_iload hx hb dL_law_357 (lv_at hl 1 rfl) ?_
    refine lv_if_ne (tgt := 374) hx hb dL_law_359 (by decide) (fun _ => ?_) (fun q => absurd q (by decide))
    refine lv_goto (tgt := 2390) hx hb dL_law_374 (by decide) ?_
    refine W.widen (k := ce + 3) (n := sl + 44) (by omega) (by omega) ?_
    exact kc _ _ _ _ ⟨ad, wd, rd, n, K, Ln, Wh, Re, cd, ct, 1, ov, od, hdd, hI, hP, hD, hS, lv_sub hl [2, 3, 4, 5, 6, 7] rfl⟩
set_option maxHeartbeats 4000000 in
set_option maxRecDepth 100000 in
theorem law_4 {p : Program} {l : Launch} {e : Env} {s : State} {m : MethodId} {below : List Frame} {meth : Method} {c : Code} {D : va_G} {A : Nat → Prop} {cI cJ cD cC : ClassId} {h0 h1 h2 h3 h4 m0 m1 m2 m3 m4 m5 o1 o2 : Nat} {b L : Nat} {xs : Nat → Int32} {Q : State → Prop} (C0 : LCtx p l D A cI cJ cD cC s m c b L xs) {d : Drawn} {H : Heap} {locs : List Loc} {ls : Array Slot} {i ce sl : Nat} (hi : i + 6 ≤ L) (hce : ce + 3 ≤ 601024) (hsl : sl + 44 ≤ 7293034) (hv : LInv D A cI cJ cD cC h0 h1 h2 h3 h4 m0 m1 m2 m3 m4 m5 o1 o2 s b d H locs i ls) (kc : ∀ (d : Drawn) (H : Heap) (locs : List Loc) (ls : Array Slot), LInv D A cI cJ cD cC h0 h1 h2 h3 h4 m0 m1 m2 m3 m4 m5 o1 o2 s b d H locs i ls → W p l e room_1 (s.setDrawn d) m #[Value.ref b] below meth c H locs (ce + 3) (sl + 44) Q (F0 m 2390 ls [])) : W p l e room_1 (s.setDrawn d) m #[Value.ref b] below meth c H locs ce sl Q (F0 m 377 ls []) := by
  obtain ⟨hx, hb, hml, hown0, htsB, hX0, hbl, hbA, hA, hL, hfl, hK0, hE0, hNc0⟩ := C0
  obtain ⟨ad, wd, rd, n, K, Ln, Wh, Re, cd, ct, th, ov, od, hdd, hI, hP, hD, hS, hl⟩ := hv
  have hn60 : n ≤ 60 := hI.1
  have hts := dr_words htsB d
  have hK : va_K D vwCl (tcTY cI cJ cD cC) (s.setDrawn d) := hK0
  have hE : tc_E A (s.setDrawn d) := hE0
  have hNc : tc_Nc (s.setDrawn d) := hNc0
  have hown : (s.setDrawn d).vm.findClass RL = some m.cls := hown0
  have hX : va_X b L xs (s.setDrawn d) s.heap := hX0
  rcases Classical.em (∃ j, j < n ∧ xs (i + 1) = nI j) with ⟨j, hj, ej⟩ | hc
  · refine lv_aload_n hx hb dL_law_377 rfl (lv_at hl 4 rfl) ?_
    refine lv_aload_n hx hb dL_law_378 rfl (lv_at hl 5 rfl) ?_
    refine lv_iload hx hb dL_law_379 (lv_at hl 0 rfl) ?_
    refine lv_iconst (v := 1) hx hb dL_law_381 (by decide) ?_
    refine lv_iadd hx hb dL_law_382 ?_
    refine tc_sld hx hb hX hbl hbA hS hL 1 rfl (by omega) (v := (nI j)) ej dL_law_383 ?_
    refine lv_aload_n hx hb dL_law_384 rfl (lv_at hl 5 rfl) ?_
    refine lv_iload hx hb dL_law_385 (lv_at hl 0 rfl) ?_
    refine lv_iconst (v := 2) hx hb dL_law_387 (by decide) ?_
    refine lv_iadd hx hb dL_law_388 ?_
    refine tc_sld hx hb hX hbl hbA hS hL 2 rfl (by omega) (v := (xs (i + 2))) rfl dL_law_389 ?_
    refine lv_aload_n hx hb dL_law_390 rfl (lv_at hl 2 rfl) ?_
    refine va_calli (tc_noX (vx_runSX (As := [.ref h0, .int (nI j), .int (xs (i + 2)), .ref o1]) (rest := []) ⟨hx, hb, hml, hown, hts⟩ (lL_readBoolean l hfl D A cI cJ cD cC h0 h1 h2 h3 h4 ad wd rd (m0, .inr (3, [.int th, .int (nI n), .ref m1, .ref m2, .ref m3, .ref m4, .int cd, .ref m5])) (m1, .inl (cI, 60, .inl K)) (m2, .inl (cI, 60, .inl (fun t8 => nI (Ln t8)))) (m3, .inl (cJ, 2400, .inr (.inl Wh))) (m4, .inl (cD, 2400, .inr (.inr (.inr (.inl Re))))) (m5, .inl (cI, 6, .inl ct)) o1 o2 ov od n K Ln Wh Re cd ct H.size hI j hj (xs (i + 2))) (vx_cwSW 4 hts gL_law_L_readBoolean rfl rfl rfl (by decide +kernel) ⟨Nat.le_of_ble_eq_true rfl, Nat.le_of_ble_eq_true rfl⟩) ⟨tcPL.blind, tcPL.go hK hP hD hE hNc hS⟩ rfl rfl hl.1 rfl (lv_room (Nat.le_of_ble_eq_true rfl)) dL_law_391 ⟨by show _ ≤ 601024; omega, by show _ ≤ 7293034; omega⟩)) hS (fun q _ h => h) (fun q h => h) (fun r uL t H locs ht hvm hw hB hz1 hk1 hS => ?_)
    subst hw
    obtain ⟨hP, hD⟩ := hB
    rw [ht] at hP
    have hP : va_P D vwCl (tc_Z cI cJ cD (h0, .inr (2, [.ref h1, .ref h2, .ref h3, .int (nI n), .int (cdR K Ln j (xs (i + 2)) (K j) 1)])) (h1, .inl (cC, 60, .inr (.inr (.inr (.inr (fun t8 => if t8 < n then some (ad t8) else none)))))) (h2, .inl (cI, 6, .inl (noteC ct (cdR K Ln j (xs (i + 2)) (K j) 1)))) (h3, .inr (1, [.ref h4])) (h4, .inl (cD, 10, .inr (.inr (.inr (.inl (fun t8 => tf_N (1023 + 2 ^ t8) 0)))))) ((o1, .inl (cJ, 1, .inr (.inl (vp_updL ov 0 ((tb (!decide (rdW K Ln Wh j (xs (i + 2)) 1 = 0))).toInt64))))) :: (o2, .inl (cD, 1, .inr (.inr (.inr (.inl od))))) :: tc_fl (tc_col cJ cD ad wd rd K Ln Wh Re) n) m0 m1 m2 m3 m4 m5 th n K Ln Wh Re cd ct) H := hP
    have hD : va_D A (tc_Z cI cJ cD (h0, .inr (2, [.ref h1, .ref h2, .ref h3, .int (nI n), .int (cdR K Ln j (xs (i + 2)) (K j) 1)])) (h1, .inl (cC, 60, .inr (.inr (.inr (.inr (fun t8 => if t8 < n then some (ad t8) else none)))))) (h2, .inl (cI, 6, .inl (noteC ct (cdR K Ln j (xs (i + 2)) (K j) 1)))) (h3, .inr (1, [.ref h4])) (h4, .inl (cD, 10, .inr (.inr (.inr (.inl (fun t8 => tf_N (1023 + 2 ^ t8) 0)))))) ((o1, .inl (cJ, 1, .inr (.inl (vp_updL ov 0 ((tb (!decide (rdW K Ln Wh j (xs (i + 2)) 1 = 0))).toInt64))))) :: (o2, .inl (cD, 1, .inr (.inr (.inr (.inl od))))) :: tc_fl (tc_col cJ cD ad wd rd K Ln Wh Re) n) m0 m1 m2 m3 m4 m5 th n K Ln Wh Re cd ct) := hD
    refine lv_istore (lv' := [(6, .int 0), (5, .int (nI i)), (4, .ref o2), (3, .ref o1), (2, .ref m0), (1, .ref h0), (0, .ref b)]) hx hb dL_law_394 hl (by decide) rfl (fun ls hl => ?_)
    refine lv_aload_n hx hb dL_law_396 rfl (lv_at hl 4 rfl) ?_
    refine lv_aload_n hx hb dL_law_397 rfl (lv_at hl 6 rfl) ?_
    refine lv_iload hx hb dL_law_398 (lv_at hl 1 rfl) ?_
    refine lv_iconst (v := 1) hx hb dL_law_400 (by decide) ?_
    refine lv_iadd hx hb dL_law_401 ?_
    refine tc_sld hx hb hX hbl hbA hS hL 1 rfl (by omega) (v := (nI j)) ej dL_law_402 ?_
    refine lv_aload_n hx hb dL_law_403 rfl (lv_at hl 6 rfl) ?_
    refine lv_iload hx hb dL_law_404 (lv_at hl 1 rfl) ?_
    refine lv_iconst (v := 2) hx hb dL_law_406 (by decide) ?_
    refine lv_iadd hx hb dL_law_407 ?_
    refine tc_sld hx hb hX hbl hbA hS hL 2 rfl (by omega) (v := (xs (i + 2))) rfl dL_law_408 ?_
    refine va_calli (va_runV (As := [.int (nI j), .int (xs (i + 2))]) (rest := []) ⟨hx, hb, hml, hown, hts⟩ (tX3_readBoolean_y l D A cI cJ cD cC (h0, .inr (2, [.ref h1, .ref h2, .ref h3, .int (nI n), .int (cdR K Ln j (xs (i + 2)) (K j) 1)])) (h1, .inl (cC, 60, .inr (.inr (.inr (.inr (fun t8 => if t8 < n then some (ad t8) else none)))))) (h2, .inl (cI, 6, .inl (noteC ct (cdR K Ln j (xs (i + 2)) (K j) 1)))) (h3, .inr (1, [.ref h4])) (h4, .inl (cD, 10, .inr (.inr (.inr (.inl (fun t8 => tf_N (1023 + 2 ^ t8) 0)))))) ((o1, .inl (cJ, 1, .inr (.inl (vp_updL ov 0 ((tb (!decide (rdW K Ln Wh j (xs (i + 2)) 1 = 0))).toInt64))))) :: (o2, .inl (cD, 1, .inr (.inr (.inr (.inl od))))) :: tc_fl (tc_col cJ cD ad wd rd K Ln Wh Re) n) m0 m1 m2 m3 m4 m5 th n K Ln Wh Re cd ct H.size hI j hj (xs (i + 2))) (cwV 2 hts gL_law_X3_readBoolean rfl rfl rfl (by decide +kernel) ⟨Nat.le_of_ble_eq_true rfl, Nat.le_of_ble_eq_true rfl⟩) ⟨tcP.blind, va_recv hK hP (ci := 3) (q0 := 5) rfl rfl, tcP.go hK hP hD hE hS⟩ rfl rfl hl.1 rfl (lv_room (Nat.le_of_ble_eq_true rfl)) dL_law_409 ⟨by show _ ≤ 601024; omega, by show _ ≤ 7293034; omega⟩) hS (fun q _ h => h) (fun q h => h) (fun r u t H locs ht hvm hw hB hz1 hk1 hS => ?_)
    subst hw
    obtain ⟨hP, hD⟩ := hB
    rw [ht] at hP
    refine lv_istore (lv' := [(7, .int (tb (!decide (rdW K Ln Wh j (xs (i + 2)) 1 = 0)))), (6, .int 0), (5, .int (nI i)), (4, .ref o2), (3, .ref o1), (2, .ref m0), (1, .ref h0), (0, .ref b)]) hx hb dL_law_412 hl (by decide) rfl (fun ls hl => ?_)
    refine lv_aload_n hx hb dL_law_414 rfl (lv_at hl 5 rfl) ?_
    refine vp_callSi (tc_CR (va_runV (As := []) (rest := []) ⟨hx, hb, hml, hown, hts⟩ (tX3_thrown l D A cI cJ cD cC (h0, .inr (2, [.ref h1, .ref h2, .ref h3, .int (nI n), .int (cdR K Ln j (xs (i + 2)) (K j) 1)])) (h1, .inl (cC, 60, .inr (.inr (.inr (.inr (fun t8 => if t8 < n then some (ad t8) else none)))))) (h2, .inl (cI, 6, .inl (noteC ct (cdR K Ln j (xs (i + 2)) (K j) 1)))) (h3, .inr (1, [.ref h4])) (h4, .inl (cD, 10, .inr (.inr (.inr (.inl (fun t8 => tf_N (1023 + 2 ^ t8) 0)))))) ((o1, .inl (cJ, 1, .inr (.inl (vp_updL ov 0 ((tb (!decide (rdW K Ln Wh j (xs (i + 2)) 1 = 0))).toInt64))))) :: (o2, .inl (cD, 1, .inr (.inr (.inr (.inl od))))) :: tc_fl (tc_col cJ cD ad wd rd K Ln Wh Re) n) m0 m1 m2 m3 m4 m5 0 n K Ln Wh Re (cdR K Ln j (xs (i + 2)) (K j) 1) (noteC ct (cdR K Ln j (xs (i + 2)) (K j) 1)) H.size) (cwV 0 hts gL_law_X3_thrown rfl rfl rfl (by decide +kernel) ⟨Nat.le_of_ble_eq_true rfl, Nat.le_of_ble_eq_true rfl⟩) ⟨tcP.blind, va_recv hK hP (ci := 3) (q0 := 5) rfl rfl, tcP.go hK hP hD hE hS⟩ rfl rfl hl.1 rfl (lv_room (Nat.le_of_ble_eq_true rfl)) dL_law_415 ⟨by show _ ≤ 601024; omega, by show _ ≤ 7293034; omega⟩)) (fun r9 h9 => ?_)
    subst h9
    refine lv_iload hx hb dL_law_418 (lv_at hl 1 rfl) ?_
    refine lv_icmp_eq (tgt := 425) hx hb dL_law_420 (by decide) (fun _ => ?_) (fun q => absurd (by decide) q)
    refine lv_iload hx hb dL_law_425 (lv_at hl 1 rfl) ?_
    refine lv_if_ne (tgt := 449) hx hb dL_law_427 (by decide) (fun q => absurd (by decide) q) (fun _ => ?_)
    refine lv_aload_n hx hb dL_law_430 rfl (lv_at hl 4 rfl) ?_
    refine lv_iconst (v := 0) hx hb dL_law_431 (by decide) ?_
    refine tc_lald (f := (vp_updL ov 0 ((tb (!decide (rdW K Ln Wh j (xs (i + 2)) 1 = 0))).toInt64))) (v := (tb (!decide (rdW K Ln Wh j (xs (i + 2)) 1 = 0))).toInt64) hx hb hK hP 11 1 rfl rfl (by unfold vp_in; decide) (show (vp_updL ov 0 ((tb (!decide (rdW K Ln Wh j (xs (i + 2)) 1 = 0))).toInt64)) 0 = (tb (!decide (rdW K Ln Wh j (xs (i + 2)) 1 = 0))).toInt64 from if_pos rfl) dL_law_432 ?_
    refine lv_iload hx hb dL_law_433 (lv_at hl 0 rfl) ?_
    refine lv_if_eq (tgt := 442) hx hb dL_law_435 (by decide) (fun c_3 => ?_) (fun c_3 => ?_)
    · refine lv_lconst (v := 0) hx hb dL_law_442 (by decide) ?_
      refine W.lcmp hx hb dL_law_443 ?_
      refine lv_if_eq (tgt := 449) hx hb dL_law_444 (by decide) (fun _ => ?_) (fun q => absurd ((lg_cmp_eq _ _).mpr (tbL0 c_3)) q)
      refine lv_goto (tgt := 2390) hx hb dL_law_449 (by decide) ?_
      refine W.widen (k := ce + 3) (n := sl + 44) (by omega) (by omega) ?_
      exact kc _ _ _ _ ⟨ad, wd, rd, n, K, Ln, Wh, Re, (cdR K Ln j (xs (i + 2)) (K j) 1), (noteC ct (cdR K Ln j (xs (i + 2)) (K j) 1)), 0, (vp_updL ov 0 ((tb (!decide (rdW K Ln Wh j (xs (i + 2)) 1 = 0))).toInt64)), od, hdd, hI, hP, hD, hS, lv_sub hl [2, 3, 4, 5, 6, 7] rfl⟩
    · refine lv_lconst (v := 1) hx hb dL_law_438 (by decide) ?_
      refine lv_goto (tgt := 443) hx hb dL_law_439 (by decide) ?_
      refine W.lcmp hx hb dL_law_443 ?_
      refine lv_if_eq (tgt := 449) hx hb dL_law_444 (by decide) (fun _ => ?_) (fun q => absurd ((lg_cmp_eq _ _).mpr (tbL1 c_3)) q)
      refine lv_goto (tgt := 2390) hx hb dL_law_449 (by decide) ?_
      refine W.widen (k := ce + 3) (n := sl + 44) (by omega) (by omega) ?_
      exact kc _ _ _ _ ⟨ad, wd, rd, n, K, Ln, Wh, Re, (cdR K Ln j (xs (i + 2)) (K j) 1), (noteC ct (cdR K Ln j (xs (i + 2)) (K j) 1)), 0, (vp_updL ov 0 ((tb (!decide (rdW K Ln Wh j (xs (i + 2)) 1 = 0))).toInt64)), od, hdd, hI, hP, hD, hS, lv_sub hl [2, 3, 4, 5, 6, 7] rfl⟩
  · refine lv_aload_n hx hb dL_law_377 rfl (lv_at hl 4 rfl) ?_
    refine lv_aload_n hx hb dL_law_378 rfl (lv_at hl 5 rfl) ?_
    refine lv_iload hx hb dL_law_379 (lv_at hl 0 rfl) ?_
    refine lv_iconst (v := 1) hx hb dL_law_381 (by decide) ?_
    refine lv_iadd hx hb dL_law_382 ?_
    refine tc_sld hx hb hX hbl hbA hS hL 1 rfl (by omega) (v := (xs (i + 1))) rfl dL_law_383 ?_
    refine lv_aload_n hx hb dL_law_384 rfl (lv_at hl 5 rfl) ?_
    refine lv_iload hx hb dL_law_385 (lv_at hl 0 rfl) ?_
    refine lv_iconst (v := 2) hx hb dL_law_387 (by decide) ?_
    refine lv_iadd hx hb dL_law_388 ?_
    refine tc_sld hx hb hX hbl hbA hS hL 2 rfl (by omega) (v := (xs (i + 2))) rfl dL_law_389 ?_
    refine lv_aload_n hx hb dL_law_390 rfl (lv_at hl 2 rfl) ?_
    refine va_calli (tc_noX (vx_runSX (As := [.ref h0, .int (xs (i + 1)), .int (xs (i + 2)), .ref o1]) (rest := []) ⟨hx, hb, hml, hown, hts⟩ (lLn_readBoolean l hfl D A cI cJ cD cC h0 h1 h2 h3 h4 ad wd rd (m0, .inr (3, [.int th, .int (nI n), .ref m1, .ref m2, .ref m3, .ref m4, .int cd, .ref m5])) (m1, .inl (cI, 60, .inl K)) (m2, .inl (cI, 60, .inl (fun t8 => nI (Ln t8)))) (m3, .inl (cJ, 2400, .inr (.inl Wh))) (m4, .inl (cD, 2400, .inr (.inr (.inr (.inl Re))))) (m5, .inl (cI, 6, .inl ct)) o1 o2 ov od n K Ln Wh Re cd ct H.size hn60 (xs (i + 1)) hc (xs (i + 2))) (vx_cwSW 4 hts gL_law_L_readBoolean rfl rfl rfl (by decide +kernel) ⟨Nat.le_of_ble_eq_true rfl, Nat.le_of_ble_eq_true rfl⟩) ⟨tcPL.blind, tcPL.go hK hP hD hE hNc hS⟩ rfl rfl hl.1 rfl (lv_room (Nat.le_of_ble_eq_true rfl)) dL_law_391 ⟨by show _ ≤ 601024; omega, by show _ ≤ 7293034; omega⟩)) hS (fun q _ h => h) (fun q h => h) (fun r uL t H locs ht hvm hw hB hz1 hk1 hS => ?_)
    subst hw
    obtain ⟨hP, hD⟩ := hB
    rw [ht] at hP
    have hP : va_P D vwCl (tc_Z cI cJ cD (h0, .inr (2, [.ref h1, .ref h2, .ref h3, .int (nI n), .int cd])) (h1, .inl (cC, 60, .inr (.inr (.inr (.inr (fun t8 => if t8 < n then some (ad t8) else none)))))) (h2, .inl (cI, 6, .inl ct)) (h3, .inr (1, [.ref h4])) (h4, .inl (cD, 10, .inr (.inr (.inr (.inl (fun t8 => tf_N (1023 + 2 ^ t8) 0)))))) ((o1, .inl (cJ, 1, .inr (.inl ov))) :: (o2, .inl (cD, 1, .inr (.inr (.inr (.inl od))))) :: tc_fl (tc_col cJ cD ad wd rd K Ln Wh Re) n) m0 m1 m2 m3 m4 m5 th n K Ln Wh Re cd ct) H := hP
    have hD : va_D A (tc_Z cI cJ cD (h0, .inr (2, [.ref h1, .ref h2, .ref h3, .int (nI n), .int cd])) (h1, .inl (cC, 60, .inr (.inr (.inr (.inr (fun t8 => if t8 < n then some (ad t8) else none)))))) (h2, .inl (cI, 6, .inl ct)) (h3, .inr (1, [.ref h4])) (h4, .inl (cD, 10, .inr (.inr (.inr (.inl (fun t8 => tf_N (1023 + 2 ^ t8) 0)))))) ((o1, .inl (cJ, 1, .inr (.inl ov))) :: (o2, .inl (cD, 1, .inr (.inr (.inr (.inl od))))) :: tc_fl (tc_col cJ cD ad wd rd K Ln Wh Re) n) m0 m1 m2 m3 m4 m5 th n K Ln Wh Re cd ct) := hD
    refine lv_istore (lv' := [(6, .int 1), (5, .int (nI i)), (4, .ref o2), (3, .ref o1), (2, .ref m0), (1, .ref h0), (0, .ref b)]) hx hb dL_law_394 hl (by decide) rfl (fun ls hl => ?_)
    refine lv_aload_n hx hb dL_law_396 rfl (lv_at hl 4 rfl) ?_
    refine lv_aload_n hx hb dL_law_397 rfl (lv_at hl 6 rfl) ?_
    refine lv_iload hx hb dL_law_398 (lv_at hl 1 rfl) ?_
    refine lv_iconst (v := 1) hx hb dL_law_400 (by decide) ?_
    refine lv_iadd hx hb dL_law_401 ?_
    refine tc_sld hx hb hX hbl hbA hS hL 1 rfl (by omega) (v := (xs (i + 1))) rfl dL_law_402 ?_
    refine lv_aload_n hx hb dL_law_403 rfl (lv_at hl 6 rfl) ?_
    refine lv_iload hx hb dL_law_404 (lv_at hl 1 rfl) ?_
    refine lv_iconst (v := 2) hx hb dL_law_406 (by decide) ?_
    refine lv_iadd hx hb dL_law_407 ?_
    refine tc_sld hx hb hX hbl hbA hS hL 2 rfl (by omega) (v := (xs (i + 2))) rfl dL_law_408 ?_
    refine va_calli (va_runV (As := [.int (xs (i + 1)), .int (xs (i + 2))]) (rest := []) ⟨hx, hb, hml, hown, hts⟩ (tX3_readBoolean_n l D A cI cJ cD cC (h0, .inr (2, [.ref h1, .ref h2, .ref h3, .int (nI n), .int cd])) (h1, .inl (cC, 60, .inr (.inr (.inr (.inr (fun t8 => if t8 < n then some (ad t8) else none)))))) (h2, .inl (cI, 6, .inl ct)) (h3, .inr (1, [.ref h4])) (h4, .inl (cD, 10, .inr (.inr (.inr (.inl (fun t8 => tf_N (1023 + 2 ^ t8) 0)))))) ((o1, .inl (cJ, 1, .inr (.inl ov))) :: (o2, .inl (cD, 1, .inr (.inr (.inr (.inl od))))) :: tc_fl (tc_col cJ cD ad wd rd K Ln Wh Re) n) m0 m1 m2 m3 m4 m5 th n K Ln Wh Re cd ct H.size hI (xs (i + 1)) hc (xs (i + 2))) (cwV 2 hts gL_law_X3_readBoolean rfl rfl rfl (by decide +kernel) ⟨Nat.le_of_ble_eq_true rfl, Nat.le_of_ble_eq_true rfl⟩) ⟨tcP.blind, va_recv hK hP (ci := 3) (q0 := 5) rfl rfl, tcP.go hK hP hD hE hS⟩ rfl rfl hl.1 rfl (lv_room (Nat.le_of_ble_eq_true rfl)) dL_law_409 ⟨by show _ ≤ 601024; omega, by show _ ≤ 7293034; omega⟩) hS (fun q _ h => h) (fun q h => h) (fun r u t H locs ht hvm hw hB hz1 hk1 hS => ?_)
    subst hw
    obtain ⟨hP, hD⟩ := hB
    rw [ht] at hP
    refine lv_istore (lv' := [(7, .int 0), (6, .int 1), (5, .int (nI i)), (4, .ref o2), (3, .ref o1), (2, .ref m0), (1, .ref h0), (0, .ref b)]) hx hb dL_law_412 hl (by decide) rfl (fun ls hl => ?_)
    refine lv_aload_n hx hb dL_law_414 rfl (lv_at hl 5 rfl) ?_
    refine vp_callSi (tc_CR (va_runV (As := []) (rest := []) ⟨hx, hb, hml, hown, hts⟩ (tX3_thrown l D A cI cJ cD cC (h0, .inr (2, [.ref h1, .ref h2, .ref h3, .int (nI n), .int cd])) (h1, .inl (cC, 60, .inr (.inr (.inr (.inr (fun t8 => if t8 < n then some (ad t8) else none)))))) (h2, .inl (cI, 6, .inl ct)) (h3, .inr (1, [.ref h4])) (h4, .inl (cD, 10, .inr (.inr (.inr (.inl (fun t8 => tf_N (1023 + 2 ^ t8) 0)))))) ((o1, .inl (cJ, 1, .inr (.inl ov))) :: (o2, .inl (cD, 1, .inr (.inr (.inr (.inl od))))) :: tc_fl (tc_col cJ cD ad wd rd K Ln Wh Re) n) m0 m1 m2 m3 m4 m5 1 n K Ln Wh Re cd ct H.size) (cwV 0 hts gL_law_X3_thrown rfl rfl rfl (by decide +kernel) ⟨Nat.le_of_ble_eq_true rfl, Nat.le_of_ble_eq_true rfl⟩) ⟨tcP.blind, va_recv hK hP (ci := 3) (q0 := 5) rfl rfl, tcP.go hK hP hD hE hS⟩ rfl rfl hl.1 rfl (lv_room (Nat.le_of_ble_eq_true rfl)) dL_law_415 ⟨by show _ ≤ 601024; omega, by show _ ≤ 7293034; omega⟩)) (fun r9 h9 => ?_)
    subst h9
    refine lv_iload hx hb dL_law_418 (lv_at hl 1 rfl) ?_
    refine lv_icmp_eq (tgt := 425) hx hb dL_law_420 (by decide) (fun _ => ?_) (fun q => absurd (by decide) q)
    refine lv_iload hx hb dL_law_425 (lv_at hl 1 rfl) ?_
    refine lv_if_ne (tgt := 449) hx hb dL_law_427 (by decide) (fun _ => ?_) (fun q => absurd q (by decide))
    refine lv_goto (tgt := 2390) hx hb dL_law_449 (by decide) ?_
    refine W.widen (k := ce + 3) (n := sl + 44) (by omega) (by omega) ?_
    exact kc _ _ _ _ ⟨ad, wd, rd, n, K, Ln, Wh, Re, cd, ct, 1, ov, od, hdd, hI, hP, hD, hS, lv_sub hl [2, 3, 4, 5, 6, 7] rfl⟩
set_option maxHeartbeats 4000000 in
set_option maxRecDepth 100000 in
theorem law_5 {p : Program} {l : Launch} {e : Env} {s : State} {m : MethodId} {below : List Frame} {meth : Method} {c : Code} {D : va_G} {A : Nat → Prop} {cI cJ cD cC : ClassId} {h0 h1 h2 h3 h4 m0 m1 m2 m3 m4 m5 o1 o2 : Nat} {b L : Nat} {xs : Nat → Int32} {Q : State → Prop} (C0 : LCtx p l D A cI cJ cD cC s m c b L xs) {d : Drawn} {H : Heap} {locs : List Loc} {ls : Array Slot} {i ce sl : Nat} (hi : i + 6 ≤ L) (hce : ce + 3 ≤ 601024) (hsl : sl + 44 ≤ 7293034) (hv : LInv D A cI cJ cD cC h0 h1 h2 h3 h4 m0 m1 m2 m3 m4 m5 o1 o2 s b d H locs i ls) (kc : ∀ (d : Drawn) (H : Heap) (locs : List Loc) (ls : Array Slot), LInv D A cI cJ cD cC h0 h1 h2 h3 h4 m0 m1 m2 m3 m4 m5 o1 o2 s b d H locs i ls → W p l e room_1 (s.setDrawn d) m #[Value.ref b] below meth c H locs (ce + 3) (sl + 44) Q (F0 m 2390 ls [])) : W p l e room_1 (s.setDrawn d) m #[Value.ref b] below meth c H locs ce sl Q (F0 m 452 ls []) := by
  obtain ⟨hx, hb, hml, hown0, htsB, hX0, hbl, hbA, hA, hL, hfl, hK0, hE0, hNc0⟩ := C0
  obtain ⟨ad, wd, rd, n, K, Ln, Wh, Re, cd, ct, th, ov, od, hdd, hI, hP, hD, hS, hl⟩ := hv
  have hn60 : n ≤ 60 := hI.1
  have hts := dr_words htsB d
  have hK : va_K D vwCl (tcTY cI cJ cD cC) (s.setDrawn d) := hK0
  have hE : tc_E A (s.setDrawn d) := hE0
  have hNc : tc_Nc (s.setDrawn d) := hNc0
  have hown : (s.setDrawn d).vm.findClass RL = some m.cls := hown0
  have hX : va_X b L xs (s.setDrawn d) s.heap := hX0
  rcases Classical.em (∃ j, j < n ∧ xs (i + 1) = nI j) with ⟨j, hj, ej⟩ | hc
  · refine lv_aload_n hx hb dL_law_452 rfl (lv_at hl 4 rfl) ?_
    refine lv_aload_n hx hb dL_law_453 rfl (lv_at hl 5 rfl) ?_
    refine lv_iload hx hb dL_law_454 (lv_at hl 0 rfl) ?_
    refine lv_iconst (v := 1) hx hb dL_law_456 (by decide) ?_
    refine lv_iadd hx hb dL_law_457 ?_
    refine tc_sld hx hb hX hbl hbA hS hL 1 rfl (by omega) (v := (nI j)) ej dL_law_458 ?_
    refine lv_aload_n hx hb dL_law_459 rfl (lv_at hl 5 rfl) ?_
    refine lv_iload hx hb dL_law_460 (lv_at hl 0 rfl) ?_
    refine lv_iconst (v := 2) hx hb dL_law_462 (by decide) ?_
    refine lv_iadd hx hb dL_law_463 ?_
    refine tc_sld hx hb hX hbl hbA hS hL 2 rfl (by omega) (v := (xs (i + 2))) rfl dL_law_464 ?_
    refine lv_aload_n hx hb dL_law_465 rfl (lv_at hl 2 rfl) ?_
    refine va_calli (tc_noX (vx_runSX (As := [.ref h0, .int (nI j), .int (xs (i + 2)), .ref o1]) (rest := []) ⟨hx, hb, hml, hown, hts⟩ (lL_readByte l hfl D A cI cJ cD cC h0 h1 h2 h3 h4 ad wd rd (m0, .inr (3, [.int th, .int (nI n), .ref m1, .ref m2, .ref m3, .ref m4, .int cd, .ref m5])) (m1, .inl (cI, 60, .inl K)) (m2, .inl (cI, 60, .inl (fun t8 => nI (Ln t8)))) (m3, .inl (cJ, 2400, .inr (.inl Wh))) (m4, .inl (cD, 2400, .inr (.inr (.inr (.inl Re))))) (m5, .inl (cI, 6, .inl ct)) o1 o2 ov od n K Ln Wh Re cd ct H.size hI j hj (xs (i + 2))) (vx_cwSW 4 hts gL_law_L_readByte rfl rfl rfl (by decide +kernel) ⟨Nat.le_of_ble_eq_true rfl, Nat.le_of_ble_eq_true rfl⟩) ⟨tcPL.blind, tcPL.go hK hP hD hE hNc hS⟩ rfl rfl hl.1 rfl (lv_room (Nat.le_of_ble_eq_true rfl)) dL_law_466 ⟨by show _ ≤ 601024; omega, by show _ ≤ 7293034; omega⟩)) hS (fun q _ h => h) (fun q h => h) (fun r uL t H locs ht hvm hw hB hz1 hk1 hS => ?_)
    subst hw
    obtain ⟨hP, hD⟩ := hB
    rw [ht] at hP
    have hP : va_P D vwCl (tc_Z cI cJ cD (h0, .inr (2, [.ref h1, .ref h2, .ref h3, .int (nI n), .int (cdR K Ln j (xs (i + 2)) (K j) 2)])) (h1, .inl (cC, 60, .inr (.inr (.inr (.inr (fun t8 => if t8 < n then some (ad t8) else none)))))) (h2, .inl (cI, 6, .inl (noteC ct (cdR K Ln j (xs (i + 2)) (K j) 2)))) (h3, .inr (1, [.ref h4])) (h4, .inl (cD, 10, .inr (.inr (.inr (.inl (fun t8 => tf_N (1023 + 2 ^ t8) 0)))))) ((o1, .inl (cJ, 1, .inr (.inl (vp_updL ov 0 (((rdW K Ln Wh j (xs (i + 2)) 2).toInt32).toInt64))))) :: (o2, .inl (cD, 1, .inr (.inr (.inr (.inl od))))) :: tc_fl (tc_col cJ cD ad wd rd K Ln Wh Re) n) m0 m1 m2 m3 m4 m5 th n K Ln Wh Re cd ct) H := hP
    have hD : va_D A (tc_Z cI cJ cD (h0, .inr (2, [.ref h1, .ref h2, .ref h3, .int (nI n), .int (cdR K Ln j (xs (i + 2)) (K j) 2)])) (h1, .inl (cC, 60, .inr (.inr (.inr (.inr (fun t8 => if t8 < n then some (ad t8) else none)))))) (h2, .inl (cI, 6, .inl (noteC ct (cdR K Ln j (xs (i + 2)) (K j) 2)))) (h3, .inr (1, [.ref h4])) (h4, .inl (cD, 10, .inr (.inr (.inr (.inl (fun t8 => tf_N (1023 + 2 ^ t8) 0)))))) ((o1, .inl (cJ, 1, .inr (.inl (vp_updL ov 0 (((rdW K Ln Wh j (xs (i + 2)) 2).toInt32).toInt64))))) :: (o2, .inl (cD, 1, .inr (.inr (.inr (.inl od))))) :: tc_fl (tc_col cJ cD ad wd rd K Ln Wh Re) n) m0 m1 m2 m3 m4 m5 th n K Ln Wh Re cd ct) := hD
    refine lv_istore (lv' := [(6, .int 0), (5, .int (nI i)), (4, .ref o2), (3, .ref o1), (2, .ref m0), (1, .ref h0), (0, .ref b)]) hx hb dL_law_469 hl (by decide) rfl (fun ls hl => ?_)
    refine lv_aload_n hx hb dL_law_471 rfl (lv_at hl 4 rfl) ?_
    refine lv_aload_n hx hb dL_law_472 rfl (lv_at hl 6 rfl) ?_
    refine lv_iload hx hb dL_law_473 (lv_at hl 1 rfl) ?_
    refine lv_iconst (v := 1) hx hb dL_law_475 (by decide) ?_
    refine lv_iadd hx hb dL_law_476 ?_
    refine tc_sld hx hb hX hbl hbA hS hL 1 rfl (by omega) (v := (nI j)) ej dL_law_477 ?_
    refine lv_aload_n hx hb dL_law_478 rfl (lv_at hl 6 rfl) ?_
    refine lv_iload hx hb dL_law_479 (lv_at hl 1 rfl) ?_
    refine lv_iconst (v := 2) hx hb dL_law_481 (by decide) ?_
    refine lv_iadd hx hb dL_law_482 ?_
    refine tc_sld hx hb hX hbl hbA hS hL 2 rfl (by omega) (v := (xs (i + 2))) rfl dL_law_483 ?_
    refine va_calli (va_runV (As := [.int (nI j), .int (xs (i + 2))]) (rest := []) ⟨hx, hb, hml, hown, hts⟩ (tX3_readByte_y l D A cI cJ cD cC (h0, .inr (2, [.ref h1, .ref h2, .ref h3, .int (nI n), .int (cdR K Ln j (xs (i + 2)) (K j) 2)])) (h1, .inl (cC, 60, .inr (.inr (.inr (.inr (fun t8 => if t8 < n then some (ad t8) else none)))))) (h2, .inl (cI, 6, .inl (noteC ct (cdR K Ln j (xs (i + 2)) (K j) 2)))) (h3, .inr (1, [.ref h4])) (h4, .inl (cD, 10, .inr (.inr (.inr (.inl (fun t8 => tf_N (1023 + 2 ^ t8) 0)))))) ((o1, .inl (cJ, 1, .inr (.inl (vp_updL ov 0 (((rdW K Ln Wh j (xs (i + 2)) 2).toInt32).toInt64))))) :: (o2, .inl (cD, 1, .inr (.inr (.inr (.inl od))))) :: tc_fl (tc_col cJ cD ad wd rd K Ln Wh Re) n) m0 m1 m2 m3 m4 m5 th n K Ln Wh Re cd ct H.size hI j hj (xs (i + 2))) (cwV 2 hts gL_law_X3_readByte rfl rfl rfl (by decide +kernel) ⟨Nat.le_of_ble_eq_true rfl, Nat.le_of_ble_eq_true rfl⟩) ⟨tcP.blind, va_recv hK hP (ci := 3) (q0 := 5) rfl rfl, tcP.go hK hP hD hE hS⟩ rfl rfl hl.1 rfl (lv_room (Nat.le_of_ble_eq_true rfl)) dL_law_484 ⟨by show _ ≤ 601024; omega, by show _ ≤ 7293034; omega⟩) hS (fun q _ h => h) (fun q h => h) (fun r u t H locs ht hvm hw hB hz1 hk1 hS => ?_)
    subst hw
    obtain ⟨hP, hD⟩ := hB
    rw [ht] at hP
    refine lv_istore (lv' := [(7, .int ((rdW K Ln Wh j (xs (i + 2)) 2).toInt32)), (6, .int 0), (5, .int (nI i)), (4, .ref o2), (3, .ref o1), (2, .ref m0), (1, .ref h0), (0, .ref b)]) hx hb dL_law_487 hl (by decide) rfl (fun ls hl => ?_)
    refine lv_aload_n hx hb dL_law_489 rfl (lv_at hl 5 rfl) ?_
    refine vp_callSi (tc_CR (va_runV (As := []) (rest := []) ⟨hx, hb, hml, hown, hts⟩ (tX3_thrown l D A cI cJ cD cC (h0, .inr (2, [.ref h1, .ref h2, .ref h3, .int (nI n), .int (cdR K Ln j (xs (i + 2)) (K j) 2)])) (h1, .inl (cC, 60, .inr (.inr (.inr (.inr (fun t8 => if t8 < n then some (ad t8) else none)))))) (h2, .inl (cI, 6, .inl (noteC ct (cdR K Ln j (xs (i + 2)) (K j) 2)))) (h3, .inr (1, [.ref h4])) (h4, .inl (cD, 10, .inr (.inr (.inr (.inl (fun t8 => tf_N (1023 + 2 ^ t8) 0)))))) ((o1, .inl (cJ, 1, .inr (.inl (vp_updL ov 0 (((rdW K Ln Wh j (xs (i + 2)) 2).toInt32).toInt64))))) :: (o2, .inl (cD, 1, .inr (.inr (.inr (.inl od))))) :: tc_fl (tc_col cJ cD ad wd rd K Ln Wh Re) n) m0 m1 m2 m3 m4 m5 0 n K Ln Wh Re (cdR K Ln j (xs (i + 2)) (K j) 2) (noteC ct (cdR K Ln j (xs (i + 2)) (K j) 2)) H.size) (cwV 0 hts gL_law_X3_thrown rfl rfl rfl (by decide +kernel) ⟨Nat.le_of_ble_eq_true rfl, Nat.le_of_ble_eq_true rfl⟩) ⟨tcP.blind, va_recv hK hP (ci := 3) (q0 := 5) rfl rfl, tcP.go hK hP hD hE hS⟩ rfl rfl hl.1 rfl (lv_room (Nat.le_of_ble_eq_true rfl)) dL_law_490 ⟨by show _ ≤ 601024; omega, by show _ ≤ 7293034; omega⟩)) (fun r9 h9 => ?_)
    subst h9
    refine lv_iload hx hb dL_law_493 (lv_at hl 1 rfl) ?_
    refine lv_icmp_eq (tgt := 500) hx hb dL_law_495 (by decide) (fun _ => ?_) (fun q => absurd (by decide) q)
    refine lv_iload hx hb dL_law_500 (lv_at hl 1 rfl) ?_
    refine lv_if_ne (tgt := 517) hx hb dL_law_502 (by decide) (fun q => absurd (by decide) q) (fun _ => ?_)
    refine lv_aload_n hx hb dL_law_505 rfl (lv_at hl 4 rfl) ?_
    refine lv_iconst (v := 0) hx hb dL_law_506 (by decide) ?_
    refine tc_lald (f := (vp_updL ov 0 (((rdW K Ln Wh j (xs (i + 2)) 2).toInt32).toInt64))) (v := ((rdW K Ln Wh j (xs (i + 2)) 2).toInt32).toInt64) hx hb hK hP 11 1 rfl rfl (by unfold vp_in; decide) (show (vp_updL ov 0 (((rdW K Ln Wh j (xs (i + 2)) 2).toInt32).toInt64)) 0 = ((rdW K Ln Wh j (xs (i + 2)) 2).toInt32).toInt64 from if_pos rfl) dL_law_507 ?_
    refine lv_iload hx hb dL_law_508 (lv_at hl 0 rfl) ?_
    refine lv_i2l (v := ((rdW K Ln Wh j (xs (i + 2)) 2).toInt32).toInt64) hx hb dL_law_510 rfl ?_
    refine W.lcmp hx hb dL_law_511 ?_
    refine lv_if_eq (tgt := 517) hx hb dL_law_512 (by decide) (fun _ => ?_) (fun q => absurd ((lg_cmp_eq _ _).mpr rfl) q)
    refine lv_goto (tgt := 2390) hx hb dL_law_517 (by decide) ?_
    refine W.widen (k := ce + 3) (n := sl + 44) (by omega) (by omega) ?_
    exact kc _ _ _ _ ⟨ad, wd, rd, n, K, Ln, Wh, Re, (cdR K Ln j (xs (i + 2)) (K j) 2), (noteC ct (cdR K Ln j (xs (i + 2)) (K j) 2)), 0, (vp_updL ov 0 (((rdW K Ln Wh j (xs (i + 2)) 2).toInt32).toInt64)), od, hdd, hI, hP, hD, hS, lv_sub hl [2, 3, 4, 5, 6, 7] rfl⟩
  · refine lv_aload_n hx hb dL_law_452 rfl (lv_at hl 4 rfl) ?_
    refine lv_aload_n hx hb dL_law_453 rfl (lv_at hl 5 rfl) ?_
    refine lv_iload hx hb dL_law_454 (lv_at hl 0 rfl) ?_
    refine lv_iconst (v := 1) hx hb dL_law_456 (by decide) ?_
    refine lv_iadd hx hb dL_law_457 ?_
    refine tc_sld hx hb hX hbl hbA hS hL 1 rfl (by omega) (v := (xs (i + 1))) rfl dL_law_458 ?_
    refine lv_aload_n hx hb dL_law_459 rfl (lv_at hl 5 rfl) ?_
    refine lv_iload hx hb dL_law_460 (lv_at hl 0 rfl) ?_
    refine lv_iconst (v := 2) hx hb dL_law_462 (by decide) ?_
    refine lv_iadd hx hb dL_law_463 ?_
    refine tc_sld hx hb hX hbl hbA hS hL 2 rfl (by omega) (v := (xs (i + 2))) rfl dL_law_464 ?_
    refine lv_aload_n hx hb dL_law_465 rfl (lv_at hl 2 rfl) ?_
    refine va_calli (tc_noX (vx_runSX (As := [.ref h0, .int (xs (i + 1)), .int (xs (i + 2)), .ref o1]) (rest := []) ⟨hx, hb, hml, hown, hts⟩ (lLn_readByte l hfl D A cI cJ cD cC h0 h1 h2 h3 h4 ad wd rd (m0, .inr (3, [.int th, .int (nI n), .ref m1, .ref m2, .ref m3, .ref m4, .int cd, .ref m5])) (m1, .inl (cI, 60, .inl K)) (m2, .inl (cI, 60, .inl (fun t8 => nI (Ln t8)))) (m3, .inl (cJ, 2400, .inr (.inl Wh))) (m4, .inl (cD, 2400, .inr (.inr (.inr (.inl Re))))) (m5, .inl (cI, 6, .inl ct)) o1 o2 ov od n K Ln Wh Re cd ct H.size hn60 (xs (i + 1)) hc (xs (i + 2))) (vx_cwSW 4 hts gL_law_L_readByte rfl rfl rfl (by decide +kernel) ⟨Nat.le_of_ble_eq_true rfl, Nat.le_of_ble_eq_true rfl⟩) ⟨tcPL.blind, tcPL.go hK hP hD hE hNc hS⟩ rfl rfl hl.1 rfl (lv_room (Nat.le_of_ble_eq_true rfl)) dL_law_466 ⟨by show _ ≤ 601024; omega, by show _ ≤ 7293034; omega⟩)) hS (fun q _ h => h) (fun q h => h) (fun r uL t H locs ht hvm hw hB hz1 hk1 hS => ?_)
    subst hw
    obtain ⟨hP, hD⟩ := hB
    rw [ht] at hP
    have hP : va_P D vwCl (tc_Z cI cJ cD (h0, .inr (2, [.ref h1, .ref h2, .ref h3, .int (nI n), .int cd])) (h1, .inl (cC, 60, .inr (.inr (.inr (.inr (fun t8 => if t8 < n then some (ad t8) else none)))))) (h2, .inl (cI, 6, .inl ct)) (h3, .inr (1, [.ref h4])) (h4, .inl (cD, 10, .inr (.inr (.inr (.inl (fun t8 => tf_N (1023 + 2 ^ t8) 0)))))) ((o1, .inl (cJ, 1, .inr (.inl ov))) :: (o2, .inl (cD, 1, .inr (.inr (.inr (.inl od))))) :: tc_fl (tc_col cJ cD ad wd rd K Ln Wh Re) n) m0 m1 m2 m3 m4 m5 th n K Ln Wh Re cd ct) H := hP
    have hD : va_D A (tc_Z cI cJ cD (h0, .inr (2, [.ref h1, .ref h2, .ref h3, .int (nI n), .int cd])) (h1, .inl (cC, 60, .inr (.inr (.inr (.inr (fun t8 => if t8 < n then some (ad t8) else none)))))) (h2, .inl (cI, 6, .inl ct)) (h3, .inr (1, [.ref h4])) (h4, .inl (cD, 10, .inr (.inr (.inr (.inl (fun t8 => tf_N (1023 + 2 ^ t8) 0)))))) ((o1, .inl (cJ, 1, .inr (.inl ov))) :: (o2, .inl (cD, 1, .inr (.inr (.inr (.inl od))))) :: tc_fl (tc_col cJ cD ad wd rd K Ln Wh Re) n) m0 m1 m2 m3 m4 m5 th n K Ln Wh Re cd ct) := hD
    refine lv_istore (lv' := [(6, .int 1), (5, .int (nI i)), (4, .ref o2), (3, .ref o1), (2, .ref m0), (1, .ref h0), (0, .ref b)]) hx hb dL_law_469 hl (by decide) rfl (fun ls hl => ?_)
    refine lv_aload_n hx hb dL_law_471 rfl (lv_at hl 4 rfl) ?_
    refine lv_aload_n hx hb dL_law_472 rfl (lv_at hl 6 rfl) ?_
    refine lv_iload hx hb dL_law_473 (lv_at hl 1 rfl) ?_
    refine lv_iconst (v := 1) hx hb dL_law_475 (by decide) ?_
    refine lv_iadd hx hb dL_law_476 ?_
    refine tc_sld hx hb hX hbl hbA hS hL 1 rfl (by omega) (v := (xs (i + 1))) rfl dL_law_477 ?_
    refine lv_aload_n hx hb dL_law_478 rfl (lv_at hl 6 rfl) ?_
    refine lv_iload hx hb dL_law_479 (lv_at hl 1 rfl) ?_
    refine lv_iconst (v := 2) hx hb dL_law_481 (by decide) ?_
    refine lv_iadd hx hb dL_law_482 ?_
    refine tc_sld hx hb hX hbl hbA hS hL 2 rfl (by omega) (v := (xs (i + 2))) rfl dL_law_483 ?_
    refine va_calli (va_runV (As := [.int (xs (i + 1)), .int (xs (i + 2))]) (rest := []) ⟨hx, hb, hml, hown, hts⟩ (tX3_readByte_n l D A cI cJ cD cC (h0, .inr (2, [.ref h1, .ref h2, .ref h3, .int (nI n), .int cd])) (h1, .inl (cC, 60, .inr (.inr (.inr (.inr (fun t8 => if t8 < n then some (ad t8) else none)))))) (h2, .inl (cI, 6, .inl ct)) (h3, .inr (1, [.ref h4])) (h4, .inl (cD, 10, .inr (.inr (.inr (.inl (fun t8 => tf_N (1023 + 2 ^ t8) 0)))))) ((o1, .inl (cJ, 1, .inr (.inl ov))) :: (o2, .inl (cD, 1, .inr (.inr (.inr (.inl od))))) :: tc_fl (tc_col cJ cD ad wd rd K Ln Wh Re) n) m0 m1 m2 m3 m4 m5 th n K Ln Wh Re cd ct H.size hI (xs (i + 1)) hc (xs (i + 2))) (cwV 2 hts gL_law_X3_readByte rfl rfl rfl (by decide +kernel) ⟨Nat.le_of_ble_eq_true rfl, Nat.le_of_ble_eq_true rfl⟩) ⟨tcP.blind, va_recv hK hP (ci := 3) (q0 := 5) rfl rfl, tcP.go hK hP hD hE hS⟩ rfl rfl hl.1 rfl (lv_room (Nat.le_of_ble_eq_true rfl)) dL_law_484 ⟨by show _ ≤ 601024; omega, by show _ ≤ 7293034; omega⟩) hS (fun q _ h => h) (fun q h => h) (fun r u t H locs ht hvm hw hB hz1 hk1 hS => ?_)
    subst hw
    obtain ⟨hP, hD⟩ := hB
    rw [ht] at hP
    refine lv_istore (lv' := [(7, .int 0), (6, .int 1), (5, .int (nI i)), (4, .ref o2), (3, .ref o1), (2, .ref m0), (1, .ref h0), (0, .ref b)]) hx hb dL_law_487 hl (by decide) rfl (fun ls hl => ?_)
    refine lv_aload_n hx hb dL_law_489 rfl (lv_at hl 5 rfl) ?_
    refine vp_callSi (tc_CR (va_runV (As := []) (rest := []) ⟨hx, hb, hml, hown, hts⟩ (tX3_thrown l D A cI cJ cD cC (h0, .inr (2, [.ref h1, .ref h2, .ref h3, .int (nI n), .int cd])) (h1, .inl (cC, 60, .inr (.inr (.inr (.inr (fun t8 => if t8 < n then some (ad t8) else none)))))) (h2, .inl (cI, 6, .inl ct)) (h3, .inr (1, [.ref h4])) (h4, .inl (cD, 10, .inr (.inr (.inr (.inl (fun t8 => tf_N (1023 + 2 ^ t8) 0)))))) ((o1, .inl (cJ, 1, .inr (.inl ov))) :: (o2, .inl (cD, 1, .inr (.inr (.inr (.inl od))))) :: tc_fl (tc_col cJ cD ad wd rd K Ln Wh Re) n) m0 m1 m2 m3 m4 m5 1 n K Ln Wh Re cd ct H.size) (cwV 0 hts gL_law_X3_thrown rfl rfl rfl (by decide +kernel) ⟨Nat.le_of_ble_eq_true rfl, Nat.le_of_ble_eq_true rfl⟩) ⟨tcP.blind, va_recv hK hP (ci := 3) (q0 := 5) rfl rfl, tcP.go hK hP hD hE hS⟩ rfl rfl hl.1 rfl (lv_room (Nat.le_of_ble_eq_true rfl)) dL_law_490 ⟨by show _ ≤ 601024; omega, by show _ ≤ 7293034; omega⟩)) (fun r9 h9 => ?_)
    subst h9
    refine lv_iload hx hb dL_law_493 (lv_at hl 1 rfl) ?_
    refine lv_icmp_eq (tgt := 500) hx hb dL_law_495 (by decide) (fun _ => ?_) (fun q => absurd (by decide) q)
    refine lv_iload hx hb dL_law_500 (lv_at hl 1 rfl) ?_
    refine lv_if_ne (tgt := 517) hx hb dL_law_502 (by decide) (fun _ => ?_) (fun q => absurd q (by decide))
    refine lv_goto (tgt := 2390) hx hb dL_law_517 (by decide) ?_
    refine W.widen (k := ce + 3) (n := sl + 44) (by omega) (by omega) ?_
    exact kc _ _ _ _ ⟨ad, wd, rd, n, K, Ln, Wh, Re, cd, ct, 1, ov, od, hdd, hI, hP, hD, hS, lv_sub hl [2, 3, 4, 5, 6, 7] rfl⟩
set_option maxHeartbeats 4000000 in
set_option maxRecDepth 100000 in
theorem law_6 {p : Program} {l : Launch} {e : Env} {s : State} {m : MethodId} {below : List Frame} {meth : Method} {c : Code} {D : va_G} {A : Nat → Prop} {cI cJ cD cC : ClassId} {h0 h1 h2 h3 h4 m0 m1 m2 m3 m4 m5 o1 o2 : Nat} {b L : Nat} {xs : Nat → Int32} {Q : State → Prop} (C0 : LCtx p l D A cI cJ cD cC s m c b L xs) {d : Drawn} {H : Heap} {locs : List Loc} {ls : Array Slot} {i ce sl : Nat} (hi : i + 6 ≤ L) (hce : ce + 3 ≤ 601024) (hsl : sl + 44 ≤ 7293034) (hv : LInv D A cI cJ cD cC h0 h1 h2 h3 h4 m0 m1 m2 m3 m4 m5 o1 o2 s b d H locs i ls) (kc : ∀ (d : Drawn) (H : Heap) (locs : List Loc) (ls : Array Slot), LInv D A cI cJ cD cC h0 h1 h2 h3 h4 m0 m1 m2 m3 m4 m5 o1 o2 s b d H locs i ls → W p l e room_1 (s.setDrawn d) m #[Value.ref b] below meth c H locs (ce + 3) (sl + 44) Q (F0 m 2390 ls [])) : W p l e room_1 (s.setDrawn d) m #[Value.ref b] below meth c H locs ce sl Q (F0 m 520 ls []) := by
  obtain ⟨hx, hb, hml, hown0, htsB, hX0, hbl, hbA, hA, hL, hfl, hK0, hE0, hNc0⟩ := C0
  obtain ⟨ad, wd, rd, n, K, Ln, Wh, Re, cd, ct, th, ov, od, hdd, hI, hP, hD, hS, hl⟩ := hv
  have hn60 : n ≤ 60 := hI.1
  have hts := dr_words htsB d
  have hK : va_K D vwCl (tcTY cI cJ cD cC) (s.setDrawn d) := hK0
  have hE : tc_E A (s.setDrawn d) := hE0
  have hNc : tc_Nc (s.setDrawn d) := hNc0
  have hown : (s.setDrawn d).vm.findClass RL = some m.cls := hown0
  have hX : va_X b L xs (s.setDrawn d) s.heap := hX0
  rcases Classical.em (∃ j, j < n ∧ xs (i + 1) = nI j) with ⟨j, hj, ej⟩ | hc
  · refine lv_aload_n hx hb dL_law_520 rfl (lv_at hl 4 rfl) ?_
    refine lv_aload_n hx hb dL_law_521 rfl (lv_at hl 5 rfl) ?_
    refine lv_iload hx hb dL_law_522 (lv_at hl 0 rfl) ?_
    refine lv_iconst (v := 1) hx hb dL_law_524 (by decide) ?_
    refine lv_iadd hx hb dL_law_525 ?_
    refine tc_sld hx hb hX hbl hbA hS hL 1 rfl (by omega) (v := (nI j)) ej dL_law_526 ?_
    refine lv_aload_n hx hb dL_law_527 rfl (lv_at hl 5 rfl) ?_
    refine lv_iload hx hb dL_law_528 (lv_at hl 0 rfl) ?_
    refine lv_iconst (v := 2) hx hb dL_law_530 (by decide) ?_
    refine lv_iadd hx hb dL_law_531 ?_
    refine tc_sld hx hb hX hbl hbA hS hL 2 rfl (by omega) (v := (xs (i + 2))) rfl dL_law_532 ?_
    refine lv_aload_n hx hb dL_law_533 rfl (lv_at hl 2 rfl) ?_
    refine va_calli (tc_noX (vx_runSX (As := [.ref h0, .int (nI j), .int (xs (i + 2)), .ref o1]) (rest := []) ⟨hx, hb, hml, hown, hts⟩ (lL_readChar l hfl D A cI cJ cD cC h0 h1 h2 h3 h4 ad wd rd (m0, .inr (3, [.int th, .int (nI n), .ref m1, .ref m2, .ref m3, .ref m4, .int cd, .ref m5])) (m1, .inl (cI, 60, .inl K)) (m2, .inl (cI, 60, .inl (fun t8 => nI (Ln t8)))) (m3, .inl (cJ, 2400, .inr (.inl Wh))) (m4, .inl (cD, 2400, .inr (.inr (.inr (.inl Re))))) (m5, .inl (cI, 6, .inl ct)) o1 o2 ov od n K Ln Wh Re cd ct H.size hI j hj (xs (i + 2))) (vx_cwSW 4 hts gL_law_L_readChar rfl rfl rfl (by decide +kernel) ⟨Nat.le_of_ble_eq_true rfl, Nat.le_of_ble_eq_true rfl⟩) ⟨tcPL.blind, tcPL.go hK hP hD hE hNc hS⟩ rfl rfl hl.1 rfl (lv_room (Nat.le_of_ble_eq_true rfl)) dL_law_534 ⟨by show _ ≤ 601024; omega, by show _ ≤ 7293034; omega⟩)) hS (fun q _ h => h) (fun q h => h) (fun r uL t H locs ht hvm hw hB hz1 hk1 hS => ?_)
    subst hw
    obtain ⟨hP, hD⟩ := hB
    rw [ht] at hP
    have hP : va_P D vwCl (tc_Z cI cJ cD (h0, .inr (2, [.ref h1, .ref h2, .ref h3, .int (nI n), .int (cdR K Ln j (xs (i + 2)) (K j) 3)])) (h1, .inl (cC, 60, .inr (.inr (.inr (.inr (fun t8 => if t8 < n then some (ad t8) else none)))))) (h2, .inl (cI, 6, .inl (noteC ct (cdR K Ln j (xs (i + 2)) (K j) 3)))) (h3, .inr (1, [.ref h4])) (h4, .inl (cD, 10, .inr (.inr (.inr (.inl (fun t8 => tf_N (1023 + 2 ^ t8) 0)))))) ((o1, .inl (cJ, 1, .inr (.inl (vp_updL ov 0 (((rdW K Ln Wh j (xs (i + 2)) 3).toInt32).toInt64))))) :: (o2, .inl (cD, 1, .inr (.inr (.inr (.inl od))))) :: tc_fl (tc_col cJ cD ad wd rd K Ln Wh Re) n) m0 m1 m2 m3 m4 m5 th n K Ln Wh Re cd ct) H := hP
    have hD : va_D A (tc_Z cI cJ cD (h0, .inr (2, [.ref h1, .ref h2, .ref h3, .int (nI n), .int (cdR K Ln j (xs (i + 2)) (K j) 3)])) (h1, .inl (cC, 60, .inr (.inr (.inr (.inr (fun t8 => if t8 < n then some (ad t8) else none)))))) (h2, .inl (cI, 6, .inl (noteC ct (cdR K Ln j (xs (i + 2)) (K j) 3)))) (h3, .inr (1, [.ref h4])) (h4, .inl (cD, 10, .inr (.inr (.inr (.inl (fun t8 => tf_N (1023 + 2 ^ t8) 0)))))) ((o1, .inl (cJ, 1, .inr (.inl (vp_updL ov 0 (((rdW K Ln Wh j (xs (i + 2)) 3).toInt32).toInt64))))) :: (o2, .inl (cD, 1, .inr (.inr (.inr (.inl od))))) :: tc_fl (tc_col cJ cD ad wd rd K Ln Wh Re) n) m0 m1 m2 m3 m4 m5 th n K Ln Wh Re cd ct) := hD
    refine lv_istore (lv' := [(6, .int 0), (5, .int (nI i)), (4, .ref o2), (3, .ref o1), (2, .ref m0), (1, .ref h0), (0, .ref b)]) hx hb dL_law_537 hl (by decide) rfl (fun ls hl => ?_)
    refine lv_aload_n hx hb dL_law_539 rfl (lv_at hl 4 rfl) ?_
    refine lv_aload_n hx hb dL_law_540 rfl (lv_at hl 6 rfl) ?_
    refine lv_iload hx hb dL_law_541 (lv_at hl 1 rfl) ?_
    refine lv_iconst (v := 1) hx hb dL_law_543 (by decide) ?_
    refine lv_iadd hx hb dL_law_544 ?_
    refine tc_sld hx hb hX hbl hbA hS hL 1 rfl (by omega) (v := (nI j)) ej dL_law_545 ?_
    refine lv_aload_n hx hb dL_law_546 rfl (lv_at hl 6 rfl) ?_
    refine lv_iload hx hb dL_law_547 (lv_at hl 1 rfl) ?_
    refine lv_iconst (v := 2) hx hb dL_law_549 (by decide) ?_
    refine lv_iadd hx hb dL_law_550 ?_
    refine tc_sld hx hb hX hbl hbA hS hL 2 rfl (by omega) (v := (xs (i + 2))) rfl dL_law_551 ?_
    refine va_calli (va_runV (As := [.int (nI j), .int (xs (i + 2))]) (rest := []) ⟨hx, hb, hml, hown, hts⟩ (tX3_readChar_y l D A cI cJ cD cC (h0, .inr (2, [.ref h1, .ref h2, .ref h3, .int (nI n), .int (cdR K Ln j (xs (i + 2)) (K j) 3)])) (h1, .inl (cC, 60, .inr (.inr (.inr (.inr (fun t8 => if t8 < n then some (ad t8) else none)))))) (h2, .inl (cI, 6, .inl (noteC ct (cdR K Ln j (xs (i + 2)) (K j) 3)))) (h3, .inr (1, [.ref h4])) (h4, .inl (cD, 10, .inr (.inr (.inr (.inl (fun t8 => tf_N (1023 + 2 ^ t8) 0)))))) ((o1, .inl (cJ, 1, .inr (.inl (vp_updL ov 0 (((rdW K Ln Wh j (xs (i + 2)) 3).toInt32).toInt64))))) :: (o2, .inl (cD, 1, .inr (.inr (.inr (.inl od))))) :: tc_fl (tc_col cJ cD ad wd rd K Ln Wh Re) n) m0 m1 m2 m3 m4 m5 th n K Ln Wh Re cd ct H.size hI j hj (xs (i + 2))) (cwV 2 hts gL_law_X3_readChar rfl rfl rfl (by decide +kernel) ⟨Nat.le_of_ble_eq_true rfl, Nat.le_of_ble_eq_true rfl⟩) ⟨tcP.blind, va_recv hK hP (ci := 3) (q0 := 5) rfl rfl, tcP.go hK hP hD hE hS⟩ rfl rfl hl.1 rfl (lv_room (Nat.le_of_ble_eq_true rfl)) dL_law_552 ⟨by show _ ≤ 601024; omega, by show _ ≤ 7293034; omega⟩) hS (fun q _ h => h) (fun q h => h) (fun r u t H locs ht hvm hw hB hz1 hk1 hS => ?_)
    subst hw
    obtain ⟨hP, hD⟩ := hB
    rw [ht] at hP
    refine lv_istore (lv' := [(7, .int ((rdW K Ln Wh j (xs (i + 2)) 3).toInt32)), (6, .int 0), (5, .int (nI i)), (4, .ref o2), (3, .ref o1), (2, .ref m0), (1, .ref h0), (0, .ref b)]) hx hb dL_law_555 hl (by decide) rfl (fun ls hl => ?_)
    refine lv_aload_n hx hb dL_law_557 rfl (lv_at hl 5 rfl) ?_
    refine vp_callSi (tc_CR (va_runV (As := []) (rest := []) ⟨hx, hb, hml, hown, hts⟩ (tX3_thrown l D A cI cJ cD cC (h0, .inr (2, [.ref h1, .ref h2, .ref h3, .int (nI n), .int (cdR K Ln j (xs (i + 2)) (K j) 3)])) (h1, .inl (cC, 60, .inr (.inr (.inr (.inr (fun t8 => if t8 < n then some (ad t8) else none)))))) (h2, .inl (cI, 6, .inl (noteC ct (cdR K Ln j (xs (i + 2)) (K j) 3)))) (h3, .inr (1, [.ref h4])) (h4, .inl (cD, 10, .inr (.inr (.inr (.inl (fun t8 => tf_N (1023 + 2 ^ t8) 0)))))) ((o1, .inl (cJ, 1, .inr (.inl (vp_updL ov 0 (((rdW K Ln Wh j (xs (i + 2)) 3).toInt32).toInt64))))) :: (o2, .inl (cD, 1, .inr (.inr (.inr (.inl od))))) :: tc_fl (tc_col cJ cD ad wd rd K Ln Wh Re) n) m0 m1 m2 m3 m4 m5 0 n K Ln Wh Re (cdR K Ln j (xs (i + 2)) (K j) 3) (noteC ct (cdR K Ln j (xs (i + 2)) (K j) 3)) H.size) (cwV 0 hts gL_law_X3_thrown rfl rfl rfl (by decide +kernel) ⟨Nat.le_of_ble_eq_true rfl, Nat.le_of_ble_eq_true rfl⟩) ⟨tcP.blind, va_recv hK hP (ci := 3) (q0 := 5) rfl rfl, tcP.go hK hP hD hE hS⟩ rfl rfl hl.1 rfl (lv_room (Nat.le_of_ble_eq_true rfl)) dL_law_558 ⟨by show _ ≤ 601024; omega, by show _ ≤ 7293034; omega⟩)) (fun r9 h9 => ?_)
    subst h9
    refine lv_iload hx hb dL_law_561 (lv_at hl 1 rfl) ?_
    refine lv_icmp_eq (tgt := 568) hx hb dL_law_563 (by decide) (fun _ => ?_) (fun q => absurd (by decide) q)
    refine lv_iload hx hb dL_law_568 (lv_at hl 1 rfl) ?_
    refine lv_if_ne (tgt := 585) hx hb dL_law_570 (by decide) (fun q => absurd (by decide) q) (fun _ => ?_)
    refine lv_aload_n hx hb dL_law_573 rfl (lv_at hl 4 rfl) ?_
    refine lv_iconst (v := 0) hx hb dL_law_574 (by decide) ?_
    refine tc_lald (f := (vp_updL ov 0 (((rdW K Ln Wh j (xs (i + 2)) 3).toInt32).toInt64))) (v := ((rdW K Ln Wh j (xs (i + 2)) 3).toInt32).toInt64) hx hb hK hP 11 1 rfl rfl (by unfold vp_in; decide) (show (vp_updL ov 0 (((rdW K Ln Wh j (xs (i + 2)) 3).toInt32).toInt64)) 0 = ((rdW K Ln Wh j (xs (i + 2)) 3).toInt32).toInt64 from if_pos rfl) dL_law_575 ?_
    refine lv_iload hx hb dL_law_576 (lv_at hl 0 rfl) ?_
    refine lv_i2l (v := ((rdW K Ln Wh j (xs (i + 2)) 3).toInt32).toInt64) hx hb dL_law_578 rfl ?_
    refine W.lcmp hx hb dL_law_579 ?_
    refine lv_if_eq (tgt := 585) hx hb dL_law_580 (by decide) (fun _ => ?_) (fun q => absurd ((lg_cmp_eq _ _).mpr rfl) q)
    refine lv_goto (tgt := 2390) hx hb dL_law_585 (by decide) ?_
    refine W.widen (k := ce + 3) (n := sl + 44) (by omega) (by omega) ?_
    exact kc _ _ _ _ ⟨ad, wd, rd, n, K, Ln, Wh, Re, (cdR K Ln j (xs (i + 2)) (K j) 3), (noteC ct (cdR K Ln j (xs (i + 2)) (K j) 3)), 0, (vp_updL ov 0 (((rdW K Ln Wh j (xs (i + 2)) 3).toInt32).toInt64)), od, hdd, hI, hP, hD, hS, lv_sub hl [2, 3, 4, 5, 6, 7] rfl⟩
  · refine lv_aload_n hx hb dL_law_520 rfl (lv_at hl 4 rfl) ?_
    refine lv_aload_n hx hb dL_law_521 rfl (lv_at hl 5 rfl) ?_
    refine lv_iload hx hb dL_law_522 (lv_at hl 0 rfl) ?_
    refine lv_iconst (v := 1) hx hb dL_law_524 (by decide) ?_
    refine lv_iadd hx hb dL_law_525 ?_
    refine tc_sld hx hb hX hbl hbA hS hL 1 rfl (by omega) (v := (xs (i + 1))) rfl dL_law_526 ?_
    refine lv_aload_n hx hb dL_law_527 rfl (lv_at hl 5 rfl) ?_
    refine lv_iload hx hb dL_law_528 (lv_at hl 0 rfl) ?_
    refine lv_iconst (v := 2) hx hb dL_law_530 (by decide) ?_
    refine lv_iadd hx hb dL_law_531 ?_
    refine tc_sld hx hb hX hbl hbA hS hL 2 rfl (by omega) (v := (xs (i + 2))) rfl dL_law_532 ?_
    refine lv_aload_n hx hb dL_law_533 rfl (lv_at hl 2 rfl) ?_
    refine va_calli (tc_noX (vx_runSX (As := [.ref h0, .int (xs (i + 1)), .int (xs (i + 2)), .ref o1]) (rest := []) ⟨hx, hb, hml, hown, hts⟩ (lLn_readChar l hfl D A cI cJ cD cC h0 h1 h2 h3 h4 ad wd rd (m0, .inr (3, [.int th, .int (nI n), .ref m1, .ref m2, .ref m3, .ref m4, .int cd, .ref m5])) (m1, .inl (cI, 60, .inl K)) (m2, .inl (cI, 60, .inl (fun t8 => nI (Ln t8)))) (m3, .inl (cJ, 2400, .inr (.inl Wh))) (m4, .inl (cD, 2400, .inr (.inr (.inr (.inl Re))))) (m5, .inl (cI, 6, .inl ct)) o1 o2 ov od n K Ln Wh Re cd ct H.size hn60 (xs (i + 1)) hc (xs (i + 2))) (vx_cwSW 4 hts gL_law_L_readChar rfl rfl rfl (by decide +kernel) ⟨Nat.le_of_ble_eq_true rfl, Nat.le_of_ble_eq_true rfl⟩) ⟨tcPL.blind, tcPL.go hK hP hD hE hNc hS⟩ rfl rfl hl.1 rfl (lv_room (Nat.le_of_ble_eq_true rfl)) dL_law_534 ⟨by show _ ≤ 601024; omega, by show _ ≤ 7293034; omega⟩)) hS (fun q _ h => h) (fun q h => h) (fun r uL t H locs ht hvm hw hB hz1 hk1 hS => ?_)
    subst hw
    obtain ⟨hP, hD⟩ := hB
    rw [ht] at hP
    have hP : va_P D vwCl (tc_Z cI cJ cD (h0, .inr (2, [.ref h1, .ref h2, .ref h3, .int (nI n), .int cd])) (h1, .inl (cC, 60, .inr (.inr (.inr (.inr (fun t8 => if t8 < n then some (ad t8) else none)))))) (h2, .inl (cI, 6, .inl ct)) (h3, .inr (1, [.ref h4])) (h4, .inl (cD, 10, .inr (.inr (.inr (.inl (fun t8 => tf_N (1023 + 2 ^ t8) 0)))))) ((o1, .inl (cJ, 1, .inr (.inl ov))) :: (o2, .inl (cD, 1, .inr (.inr (.inr (.inl od))))) :: tc_fl (tc_col cJ cD ad wd rd K Ln Wh Re) n) m0 m1 m2 m3 m4 m5 th n K Ln Wh Re cd ct) H := hP
    have hD : va_D A (tc_Z cI cJ cD (h0, .inr (2, [.ref h1, .ref h2, .ref h3, .int (nI n), .int cd])) (h1, .inl (cC, 60, .inr (.inr (.inr (.inr (fun t8 => if t8 < n then some (ad t8) else none)))))) (h2, .inl (cI, 6, .inl ct)) (h3, .inr (1, [.ref h4])) (h4, .inl (cD, 10, .inr (.inr (.inr (.inl (fun t8 => tf_N (1023 + 2 ^ t8) 0)))))) ((o1, .inl (cJ, 1, .inr (.inl ov))) :: (o2, .inl (cD, 1, .inr (.inr (.inr (.inl od))))) :: tc_fl (tc_col cJ cD ad wd rd K Ln Wh Re) n) m0 m1 m2 m3 m4 m5 th n K Ln Wh Re cd ct) := hD
    refine lv_istore (lv' := [(6, .int 1), (5, .int (nI i)), (4, .ref o2), (3, .ref o1), (2, .ref m0), (1, .ref h0), (0, .ref b)]) hx hb dL_law_537 hl (by decide) rfl (fun ls hl => ?_)
    refine lv_aload_n hx hb dL_law_539 rfl (lv_at hl 4 rfl) ?_
    refine lv_aload_n hx hb dL_law_540 rfl (lv_at hl 6 rfl) ?_
    refine lv_iload hx hb dL_law_541 (lv_at hl 1 rfl) ?_
    refine lv_iconst (v := 1) hx hb dL_law_543 (by decide) ?_
    refine lv_iadd hx hb dL_law_544 ?_
    refine tc_sld hx hb hX hbl hbA hS hL 1 rfl (by omega) (v := (xs (i + 1))) rfl dL_law_545 ?_
    refine lv_aload_n hx hb dL_law_546 rfl (lv_at hl 6 rfl) ?_
    refine lv_iload hx hb dL_law_547 (lv_at hl 1 rfl) ?_
    refine lv_iconst (v := 2) hx hb dL_law_549 (by decide) ?_
    refine lv_iadd hx hb dL_law_550 ?_
    refine tc_sld hx hb hX hbl hbA hS hL 2 rfl (by omega) (v := (xs (i + 2))) rfl dL_law_551 ?_
    refine va_calli (va_runV (As := [.int (xs (i + 1)), .int (xs (i + 2))]) (rest := []) ⟨hx, hb, hml, hown, hts⟩ (tX3_readChar_n l D A cI cJ cD cC (h0, .inr (2, [.ref h1, .ref h2, .ref h3, .int (nI n), .int cd])) (h1, .inl (cC, 60, .inr (.inr (.inr (.inr (fun t8 => if t8 < n then some (ad t8) else none)))))) (h2, .inl (cI, 6, .inl ct)) (h3, .inr (1, [.ref h4])) (h4, .inl (cD, 10, .inr (.inr (.inr (.inl (fun t8 => tf_N (1023 + 2 ^ t8) 0)))))) ((o1, .inl (cJ, 1, .inr (.inl ov))) :: (o2, .inl (cD, 1, .inr (.inr (.inr (.inl od))))) :: tc_fl (tc_col cJ cD ad wd rd K Ln Wh Re) n) m0 m1 m2 m3 m4 m5 th n K Ln Wh Re cd ct H.size hI (xs (i + 1)) hc (xs (i + 2))) (cwV 2 hts gL_law_X3_readChar rfl rfl rfl (by decide +kernel) ⟨Nat.le_of_ble_eq_true rfl, Nat.le_of_ble_eq_true rfl⟩) ⟨tcP.blind, va_recv hK hP (ci := 3) (q0 := 5) rfl rfl, tcP.go hK hP hD hE hS⟩ rfl rfl hl.1 rfl (lv_room (Nat.le_of_ble_eq_true rfl)) dL_law_552 ⟨by show _ ≤ 601024; omega, by show _ ≤ 7293034; omega⟩) hS (fun q _ h => h) (fun q h => h) (fun r u t H locs ht hvm hw hB hz1 hk1 hS => ?_)
    subst hw
    obtain ⟨hP, hD⟩ := hB
    rw [ht] at hP
    refine lv_istore (lv' := [(7, .int 0), (6, .int 1), (5, .int (nI i)), (4, .ref o2), (3, .ref o1), (2, .ref m0), (1, .ref h0), (0, .ref b)]) hx hb dL_law_555 hl (by decide) rfl (fun ls hl => ?_)
    refine lv_aload_n hx hb dL_law_557 rfl (lv_at hl 5 rfl) ?_
    refine vp_callSi (tc_CR (va_runV (As := []) (rest := []) ⟨hx, hb, hml, hown, hts⟩ (tX3_thrown l D A cI cJ cD cC (h0, .inr (2, [.ref h1, .ref h2, .ref h3, .int (nI n), .int cd])) (h1, .inl (cC, 60, .inr (.inr (.inr (.inr (fun t8 => if t8 < n then some (ad t8) else none)))))) (h2, .inl (cI, 6, .inl ct)) (h3, .inr (1, [.ref h4])) (h4, .inl (cD, 10, .inr (.inr (.inr (.inl (fun t8 => tf_N (1023 + 2 ^ t8) 0)))))) ((o1, .inl (cJ, 1, .inr (.inl ov))) :: (o2, .inl (cD, 1, .inr (.inr (.inr (.inl od))))) :: tc_fl (tc_col cJ cD ad wd rd K Ln Wh Re) n) m0 m1 m2 m3 m4 m5 1 n K Ln Wh Re cd ct H.size) (cwV 0 hts gL_law_X3_thrown rfl rfl rfl (by decide +kernel) ⟨Nat.le_of_ble_eq_true rfl, Nat.le_of_ble_eq_true rfl⟩) ⟨tcP.blind, va_recv hK hP (ci := 3) (q0 := 5) rfl rfl, tcP.go hK hP hD hE hS⟩ rfl rfl hl.1 rfl (lv_room (Nat.le_of_ble_eq_true rfl)) dL_law_558 ⟨by show _ ≤ 601024; omega, by show _ ≤ 7293034; omega⟩)) (fun r9 h9 => ?_)
    subst h9
    refine lv_iload hx hb dL_law_561 (lv_at hl 1 rfl) ?_
    refine lv_icmp_eq (tgt := 568) hx hb dL_law_563 (by decide) (fun _ => ?_) (fun q => absurd (by decide) q)
    refine lv_iload hx hb dL_law_568 (lv_at hl 1 rfl) ?_
    refine lv_if_ne (tgt := 585) hx hb dL_law_570 (by decide) (fun _ => ?_) (fun q => absurd q (by decide))
    refine lv_goto (tgt := 2390) hx hb dL_law_585 (by decide) ?_
    refine W.widen (k := ce + 3) (n := sl + 44) (by omega) (by omega) ?_
    exact kc _ _ _ _ ⟨ad, wd, rd, n, K, Ln, Wh, Re, cd, ct, 1, ov, od, hdd, hI, hP, hD, hS, lv_sub hl [2, 3, 4, 5, 6, 7] rfl⟩
set_option maxHeartbeats 4000000 in
set_option maxRecDepth 100000 in
theorem law_7 {p : Program} {l : Launch} {e : Env} {s : State} {m : MethodId} {below : List Frame} {meth : Method} {c : Code} {D : va_G} {A : Nat → Prop} {cI cJ cD cC : ClassId} {h0 h1 h2 h3 h4 m0 m1 m2 m3 m4 m5 o1 o2 : Nat} {b L : Nat} {xs : Nat → Int32} {Q : State → Prop} (C0 : LCtx p l D A cI cJ cD cC s m c b L xs) {d : Drawn} {H : Heap} {locs : List Loc} {ls : Array Slot} {i ce sl : Nat} (hi : i + 6 ≤ L) (hce : ce + 3 ≤ 601024) (hsl : sl + 44 ≤ 7293034) (hv : LInv D A cI cJ cD cC h0 h1 h2 h3 h4 m0 m1 m2 m3 m4 m5 o1 o2 s b d H locs i ls) (kc : ∀ (d : Drawn) (H : Heap) (locs : List Loc) (ls : Array Slot), LInv D A cI cJ cD cC h0 h1 h2 h3 h4 m0 m1 m2 m3 m4 m5 o1 o2 s b d H locs i ls → W p l e room_1 (s.setDrawn d) m #[Value.ref b] below meth c H locs (ce + 3) (sl + 44) Q (F0 m 2390 ls [])) : W p l e room_1 (s.setDrawn d) m #[Value.ref b] below meth c H locs ce sl Q (F0 m 588 ls []) := by
  obtain ⟨hx, hb, hml, hown0, htsB, hX0, hbl, hbA, hA, hL, hfl, hK0, hE0, hNc0⟩ := C0
  obtain ⟨ad, wd, rd, n, K, Ln, Wh, Re, cd, ct, th, ov, od, hdd, hI, hP, hD, hS, hl⟩ := hv
  have hn60 : n ≤ 60 := hI.1
  have hts := dr_words htsB d
  have hK : va_K D vwCl (tcTY cI cJ cD cC) (s.setDrawn d) := hK0
  have hE : tc_E A (s.setDrawn d) := hE0
  have hNc : tc_Nc (s.setDrawn d) := hNc0
  have hown : (s.setDrawn d).vm.findClass RL = some m.cls := hown0
  have hX : va_X b L xs (s.setDrawn d) s.heap := hX0
  rcases Classical.em (∃ j, j < n ∧ xs (i + 1) = nI j) with ⟨j, hj, ej⟩ | hc
  · refine lv_aload_n hx hb dL_law_588 rfl (lv_at hl 4 rfl) ?_
    refine lv_aload_n hx hb dL_law_589 rfl (lv_at hl 5 rfl) ?_
    refine lv_iload hx hb dL_law_590 (lv_at hl 0 rfl) ?_
    refine lv_iconst (v := 1) hx hb dL_law_592 (by decide) ?_
    refine lv_iadd hx hb dL_law_593 ?_
    refine tc_sld hx hb hX hbl hbA hS hL 1 rfl (by omega) (v := (nI j)) ej dL_law_594 ?_
    refine lv_aload_n hx hb dL_law_595 rfl (lv_at hl 5 rfl) ?_
    refine lv_iload hx hb dL_law_596 (lv_at hl 0 rfl) ?_
    refine lv_iconst (v := 2) hx hb dL_law_598 (by decide) ?_
    refine lv_iadd hx hb dL_law_599 ?_
    refine tc_sld hx hb hX hbl hbA hS hL 2 rfl (by omega) (v := (xs (i + 2))) rfl dL_law_600 ?_
    refine lv_aload_n hx hb dL_law_601 rfl (lv_at hl 2 rfl) ?_
    refine va_calli (tc_noX (vx_runSX (As := [.ref h0, .int (nI j), .int (xs (i + 2)), .ref o1]) (rest := []) ⟨hx, hb, hml, hown, hts⟩ (lL_readShort l hfl D A cI cJ cD cC h0 h1 h2 h3 h4 ad wd rd (m0, .inr (3, [.int th, .int (nI n), .ref m1, .ref m2, .ref m3, .ref m4, .int cd, .ref m5])) (m1, .inl (cI, 60, .inl K)) (m2, .inl (cI, 60, .inl (fun t8 => nI (Ln t8)))) (m3, .inl (cJ, 2400, .inr (.inl Wh))) (m4, .inl (cD, 2400, .inr (.inr (.inr (.inl Re))))) (m5, .inl (cI, 6, .inl ct)) o1 o2 ov od n K Ln Wh Re cd ct H.size hI j hj (xs (i + 2))) (vx_cwSW 4 hts gL_law_L_readShort rfl rfl rfl (by decide +kernel) ⟨Nat.le_of_ble_eq_true rfl, Nat.le_of_ble_eq_true rfl⟩) ⟨tcPL.blind, tcPL.go hK hP hD hE hNc hS⟩ rfl rfl hl.1 rfl (lv_room (Nat.le_of_ble_eq_true rfl)) dL_law_602 ⟨by show _ ≤ 601024; omega, by show _ ≤ 7293034; omega⟩)) hS (fun q _ h => h) (fun q h => h) (fun r uL t H locs ht hvm hw hB hz1 hk1 hS => ?_)
    subst hw
    obtain ⟨hP, hD⟩ := hB
    rw [ht] at hP
    have hP : va_P D vwCl (tc_Z cI cJ cD (h0, .inr (2, [.ref h1, .ref h2, .ref h3, .int (nI n), .int (cdR K Ln j (xs (i + 2)) (K j) 4)])) (h1, .inl (cC, 60, .inr (.inr (.inr (.inr (fun t8 => if t8 < n then some (ad t8) else none)))))) (h2, .inl (cI, 6, .inl (noteC ct (cdR K Ln j (xs (i + 2)) (K j) 4)))) (h3, .inr (1, [.ref h4])) (h4, .inl (cD, 10, .inr (.inr (.inr (.inl (fun t8 => tf_N (1023 + 2 ^ t8) 0)))))) ((o1, .inl (cJ, 1, .inr (.inl (vp_updL ov 0 (((rdW K Ln Wh j (xs (i + 2)) 4).toInt32).toInt64))))) :: (o2, .inl (cD, 1, .inr (.inr (.inr (.inl od))))) :: tc_fl (tc_col cJ cD ad wd rd K Ln Wh Re) n) m0 m1 m2 m3 m4 m5 th n K Ln Wh Re cd ct) H := hP
    have hD : va_D A (tc_Z cI cJ cD (h0, .inr (2, [.ref h1, .ref h2, .ref h3, .int (nI n), .int (cdR K Ln j (xs (i + 2)) (K j) 4)])) (h1, .inl (cC, 60, .inr (.inr (.inr (.inr (fun t8 => if t8 < n then some (ad t8) else none)))))) (h2, .inl (cI, 6, .inl (noteC ct (cdR K Ln j (xs (i + 2)) (K j) 4)))) (h3, .inr (1, [.ref h4])) (h4, .inl (cD, 10, .inr (.inr (.inr (.inl (fun t8 => tf_N (1023 + 2 ^ t8) 0)))))) ((o1, .inl (cJ, 1, .inr (.inl (vp_updL ov 0 (((rdW K Ln Wh j (xs (i + 2)) 4).toInt32).toInt64))))) :: (o2, .inl (cD, 1, .inr (.inr (.inr (.inl od))))) :: tc_fl (tc_col cJ cD ad wd rd K Ln Wh Re) n) m0 m1 m2 m3 m4 m5 th n K Ln Wh Re cd ct) := hD
    refine lv_istore (lv' := [(6, .int 0), (5, .int (nI i)), (4, .ref o2), (3, .ref o1), (2, .ref m0), (1, .ref h0), (0, .ref b)]) hx hb dL_law_605 hl (by decide) rfl (fun ls hl => ?_)
    refine lv_aload_n hx hb dL_law_607 rfl (lv_at hl 4 rfl) ?_
    refine lv_aload_n hx hb dL_law_608 rfl (lv_at hl 6 rfl) ?_
    refine lv_iload hx hb dL_law_609 (lv_at hl 1 rfl) ?_
    refine lv_iconst (v := 1) hx hb dL_law_611 (by decide) ?_
    refine lv_iadd hx hb dL_law_612 ?_
    refine tc_sld hx hb hX hbl hbA hS hL 1 rfl (by omega) (v := (nI j)) ej dL_law_613 ?_
    refine lv_aload_n hx hb dL_law_614 rfl (lv_at hl 6 rfl) ?_
    refine lv_iload hx hb dL_law_615 (lv_at hl 1 rfl) ?_
    refine lv_iconst (v := 2) hx hb dL_law_617 (by decide) ?_
    refine lv_iadd hx hb dL_law_618 ?_
    refine tc_sld hx hb hX hbl hbA hS hL 2 rfl (by omega) (v := (xs (i + 2))) rfl dL_law_619 ?_
    refine va_calli (va_runV (As := [.int (nI j), .int (xs (i + 2))]) (rest := []) ⟨hx, hb, hml, hown, hts⟩ (tX3_readShort_y l D A cI cJ cD cC (h0, .inr (2, [.ref h1, .ref h2, .ref h3, .int (nI n), .int (cdR K Ln j (xs (i + 2)) (K j) 4)])) (h1, .inl (cC, 60, .inr (.inr (.inr (.inr (fun t8 => if t8 < n then some (ad t8) else none)))))) (h2, .inl (cI, 6, .inl (noteC ct (cdR K Ln j (xs (i + 2)) (K j) 4)))) (h3, .inr (1, [.ref h4])) (h4, .inl (cD, 10, .inr (.inr (.inr (.inl (fun t8 => tf_N (1023 + 2 ^ t8) 0)))))) ((o1, .inl (cJ, 1, .inr (.inl (vp_updL ov 0 (((rdW K Ln Wh j (xs (i + 2)) 4).toInt32).toInt64))))) :: (o2, .inl (cD, 1, .inr (.inr (.inr (.inl od))))) :: tc_fl (tc_col cJ cD ad wd rd K Ln Wh Re) n) m0 m1 m2 m3 m4 m5 th n K Ln Wh Re cd ct H.size hI j hj (xs (i + 2))) (cwV 2 hts gL_law_X3_readShort rfl rfl rfl (by decide +kernel) ⟨Nat.le_of_ble_eq_true rfl, Nat.le_of_ble_eq_true rfl⟩) ⟨tcP.blind, va_recv hK hP (ci := 3) (q0 := 5) rfl rfl, tcP.go hK hP hD hE hS⟩ rfl rfl hl.1 rfl (lv_room (Nat.le_of_ble_eq_true rfl)) dL_law_620 ⟨by show _ ≤ 601024; omega, by show _ ≤ 7293034; omega⟩) hS (fun q _ h => h) (fun q h => h) (fun r u t H locs ht hvm hw hB hz1 hk1 hS => ?_)
    subst hw
    obtain ⟨hP, hD⟩ := hB
    rw [ht] at hP
    refine lv_istore (lv' := [(7, .int ((rdW K Ln Wh j (xs (i + 2)) 4).toInt32)), (6, .int 0), (5, .int (nI i)), (4, .ref o2), (3, .ref o1), (2, .ref m0), (1, .ref h0), (0, .ref b)]) hx hb dL_law_623 hl (by decide) rfl (fun ls hl => ?_)
    refine lv_aload_n hx hb dL_law_625 rfl (lv_at hl 5 rfl) ?_
    refine vp_callSi (tc_CR (va_runV (As := []) (rest := []) ⟨hx, hb, hml, hown, hts⟩ (tX3_thrown l D A cI cJ cD cC (h0, .inr (2, [.ref h1, .ref h2, .ref h3, .int (nI n), .int (cdR K Ln j (xs (i + 2)) (K j) 4)])) (h1, .inl (cC, 60, .inr (.inr (.inr (.inr (fun t8 => if t8 < n then some (ad t8) else none)))))) (h2, .inl (cI, 6, .inl (noteC ct (cdR K Ln j (xs (i + 2)) (K j) 4)))) (h3, .inr (1, [.ref h4])) (h4, .inl (cD, 10, .inr (.inr (.inr (.inl (fun t8 => tf_N (1023 + 2 ^ t8) 0)))))) ((o1, .inl (cJ, 1, .inr (.inl (vp_updL ov 0 (((rdW K Ln Wh j (xs (i + 2)) 4).toInt32).toInt64))))) :: (o2, .inl (cD, 1, .inr (.inr (.inr (.inl od))))) :: tc_fl (tc_col cJ cD ad wd rd K Ln Wh Re) n) m0 m1 m2 m3 m4 m5 0 n K Ln Wh Re (cdR K Ln j (xs (i + 2)) (K j) 4) (noteC ct (cdR K Ln j (xs (i + 2)) (K j) 4)) H.size) (cwV 0 hts gL_law_X3_thrown rfl rfl rfl (by decide +kernel) ⟨Nat.le_of_ble_eq_true rfl, Nat.le_of_ble_eq_true rfl⟩) ⟨tcP.blind, va_recv hK hP (ci := 3) (q0 := 5) rfl rfl, tcP.go hK hP hD hE hS⟩ rfl rfl hl.1 rfl (lv_room (Nat.le_of_ble_eq_true rfl)) dL_law_626 ⟨by show _ ≤ 601024; omega, by show _ ≤ 7293034; omega⟩)) (fun r9 h9 => ?_)
    subst h9
    refine lv_iload hx hb dL_law_629 (lv_at hl 1 rfl) ?_
    refine lv_icmp_eq (tgt := 636) hx hb dL_law_631 (by decide) (fun _ => ?_) (fun q => absurd (by decide) q)
    refine lv_iload hx hb dL_law_636 (lv_at hl 1 rfl) ?_
    refine lv_if_ne (tgt := 653) hx hb dL_law_638 (by decide) (fun q => absurd (by decide) q) (fun _ => ?_)
    refine lv_aload_n hx hb dL_law_641 rfl (lv_at hl 4 rfl) ?_
    refine lv_iconst (v := 0) hx hb dL_law_642 (by decide) ?_
    refine tc_lald (f := (vp_updL ov 0 (((rdW K Ln Wh j (xs (i + 2)) 4).toInt32).toInt64))) (v := ((rdW K Ln Wh j (xs (i + 2)) 4).toInt32).toInt64) hx hb hK hP 11 1 rfl rfl (by unfold vp_in; decide) (show (vp_updL ov 0 (((rdW K Ln Wh j (xs (i + 2)) 4).toInt32).toInt64)) 0 = ((rdW K Ln Wh j (xs (i + 2)) 4).toInt32).toInt64 from if_pos rfl) dL_law_643 ?_
    refine lv_iload hx hb dL_law_644 (lv_at hl 0 rfl) ?_
    refine lv_i2l (v := ((rdW K Ln Wh j (xs (i + 2)) 4).toInt32).toInt64) hx hb dL_law_646 rfl ?_
    refine W.lcmp hx hb dL_law_647 ?_
    refine lv_if_eq (tgt := 653) hx hb dL_law_648 (by decide) (fun _ => ?_) (fun q => absurd ((lg_cmp_eq _ _).mpr rfl) q)
    refine lv_goto (tgt := 2390) hx hb dL_law_653 (by decide) ?_
    refine W.widen (k := ce + 3) (n := sl + 44) (by omega) (by omega) ?_
    exact kc _ _ _ _ ⟨ad, wd, rd, n, K, Ln, Wh, Re, (cdR K Ln j (xs (i + 2)) (K j) 4), (noteC ct (cdR K Ln j (xs (i + 2)) (K j) 4)), 0, (vp_updL ov 0 (((rdW K Ln Wh j (xs (i + 2)) 4).toInt32).toInt64)), od, hdd, hI, hP, hD, hS, lv_sub hl [2, 3, 4, 5, 6, 7] rfl⟩
  · refine lv_aload_n hx hb dL_law_588 rfl (lv_at hl 4 rfl) ?_
    refine lv_aload_n hx hb dL_law_589 rfl (lv_at hl 5 rfl) ?_
    refine lv_iload hx hb dL_law_590 (lv_at hl 0 rfl) ?_
    refine lv_iconst (v := 1) hx hb dL_law_592 (by decide) ?_
    refine lv_iadd hx hb dL_law_593 ?_
    refine tc_sld hx hb hX hbl hbA hS hL 1 rfl (by omega) (v := (xs (i + 1))) rfl dL_law_594 ?_
    refine lv_aload_n hx hb dL_law_595 rfl (lv_at hl 5 rfl) ?_
    refine lv_iload hx hb dL_law_596 (lv_at hl 0 rfl) ?_
    refine lv_iconst (v := 2) hx hb dL_law_598 (by decide) ?_
    refine lv_iadd hx hb dL_law_599 ?_
    refine tc_sld hx hb hX hbl hbA hS hL 2 rfl (by omega) (v := (xs (i + 2))) rfl dL_law_600 ?_
    refine lv_aload_n hx hb dL_law_601 rfl (lv_at hl 2 rfl) ?_
    refine va_calli (tc_noX (vx_runSX (As := [.ref h0, .int (xs (i + 1)), .int (xs (i + 2)), .ref o1]) (rest := []) ⟨hx, hb, hml, hown, hts⟩ (lLn_readShort l hfl D A cI cJ cD cC h0 h1 h2 h3 h4 ad wd rd (m0, .inr (3, [.int th, .int (nI n), .ref m1, .ref m2, .ref m3, .ref m4, .int cd, .ref m5])) (m1, .inl (cI, 60, .inl K)) (m2, .inl (cI, 60, .inl (fun t8 => nI (Ln t8)))) (m3, .inl (cJ, 2400, .inr (.inl Wh))) (m4, .inl (cD, 2400, .inr (.inr (.inr (.inl Re))))) (m5, .inl (cI, 6, .inl ct)) o1 o2 ov od n K Ln Wh Re cd ct H.size hn60 (xs (i + 1)) hc (xs (i + 2))) (vx_cwSW 4 hts gL_law_L_readShort rfl rfl rfl (by decide +kernel) ⟨Nat.le_of_ble_eq_true rfl, Nat.le_of_ble_eq_true rfl⟩) ⟨tcPL.blind, tcPL.go hK hP hD hE hNc hS⟩ rfl rfl hl.1 rfl (lv_room (Nat.le_of_ble_eq_true rfl)) dL_law_602 ⟨by show _ ≤ 601024; omega, by show _ ≤ 7293034; omega⟩)) hS (fun q _ h => h) (fun q h => h) (fun r uL t H locs ht hvm hw hB hz1 hk1 hS => ?_)
    subst hw
    obtain ⟨hP, hD⟩ := hB
    rw [ht] at hP
    have hP : va_P D vwCl (tc_Z cI cJ cD (h0, .inr (2, [.ref h1, .ref h2, .ref h3, .int (nI n), .int cd])) (h1, .inl (cC, 60, .inr (.inr (.inr (.inr (fun t8 => if t8 < n then some (ad t8) else none)))))) (h2, .inl (cI, 6, .inl ct)) (h3, .inr (1, [.ref h4])) (h4, .inl (cD, 10, .inr (.inr (.inr (.inl (fun t8 => tf_N (1023 + 2 ^ t8) 0)))))) ((o1, .inl (cJ, 1, .inr (.inl ov))) :: (o2, .inl (cD, 1, .inr (.inr (.inr (.inl od))))) :: tc_fl (tc_col cJ cD ad wd rd K Ln Wh Re) n) m0 m1 m2 m3 m4 m5 th n K Ln Wh Re cd ct) H := hP
    have hD : va_D A (tc_Z cI cJ cD (h0, .inr (2, [.ref h1, .ref h2, .ref h3, .int (nI n), .int cd])) (h1, .inl (cC, 60, .inr (.inr (.inr (.inr (fun t8 => if t8 < n then some (ad t8) else none)))))) (h2, .inl (cI, 6, .inl ct)) (h3, .inr (1, [.ref h4])) (h4, .inl (cD, 10, .inr (.inr (.inr (.inl (fun t8 => tf_N (1023 + 2 ^ t8) 0)))))) ((o1, .inl (cJ, 1, .inr (.inl ov))) :: (o2, .inl (cD, 1, .inr (.inr (.inr (.inl od))))) :: tc_fl (tc_col cJ cD ad wd rd K Ln Wh Re) n) m0 m1 m2 m3 m4 m5 th n K Ln Wh Re cd ct) := hD
    refine lv_istore (lv' := [(6, .int 1), (5, .int (nI i)), (4, .ref o2), (3, .ref o1), (2, .ref m0), (1, .ref h0), (0, .ref b)]) hx hb dL_law_605 hl (by decide) rfl (fun ls hl => ?_)
    refine lv_aload_n hx hb dL_law_607 rfl (lv_at hl 4 rfl) ?_
    refine lv_aload_n hx hb dL_law_608 rfl (lv_at hl 6 rfl) ?_
    refine lv_iload hx hb dL_law_609 (lv_at hl 1 rfl) ?_
    refine lv_iconst (v := 1) hx hb dL_law_611 (by decide) ?_
    refine lv_iadd hx hb dL_law_612 ?_
    refine tc_sld hx hb hX hbl hbA hS hL 1 rfl (by omega) (v := (xs (i + 1))) rfl dL_law_613 ?_
    refine lv_aload_n hx hb dL_law_614 rfl (lv_at hl 6 rfl) ?_
    refine lv_iload hx hb dL_law_615 (lv_at hl 1 rfl) ?_
    refine lv_iconst (v := 2) hx hb dL_law_617 (by decide) ?_
    refine lv_iadd hx hb dL_law_618 ?_
    refine tc_sld hx hb hX hbl hbA hS hL 2 rfl (by omega) (v := (xs (i + 2))) rfl dL_law_619 ?_
    refine va_calli (va_runV (As := [.int (xs (i + 1)), .int (xs (i + 2))]) (rest := []) ⟨hx, hb, hml, hown, hts⟩ (tX3_readShort_n l D A cI cJ cD cC (h0, .inr (2, [.ref h1, .ref h2, .ref h3, .int (nI n), .int cd])) (h1, .inl (cC, 60, .inr (.inr (.inr (.inr (fun t8 => if t8 < n then some (ad t8) else none)))))) (h2, .inl (cI, 6, .inl ct)) (h3, .inr (1, [.ref h4])) (h4, .inl (cD, 10, .inr (.inr (.inr (.inl (fun t8 => tf_N (1023 + 2 ^ t8) 0)))))) ((o1, .inl (cJ, 1, .inr (.inl ov))) :: (o2, .inl (cD, 1, .inr (.inr (.inr (.inl od))))) :: tc_fl (tc_col cJ cD ad wd rd K Ln Wh Re) n) m0 m1 m2 m3 m4 m5 th n K Ln Wh Re cd ct H.size hI (xs (i + 1)) hc (xs (i + 2))) (cwV 2 hts gL_law_X3_readShort rfl rfl rfl (by decide +kernel) ⟨Nat.le_of_ble_eq_true rfl, Nat.le_of_ble_eq_true rfl⟩) ⟨tcP.blind, va_recv hK hP (ci := 3) (q0 := 5) rfl rfl, tcP.go hK hP hD hE hS⟩ rfl rfl hl.1 rfl (lv_room (Nat.le_of_ble_eq_true rfl)) dL_law_620 ⟨by show _ ≤ 601024; omega, by show _ ≤ 7293034; omega⟩) hS (fun q _ h => h) (fun q h => h) (fun r u t H locs ht hvm hw hB hz1 hk1 hS => ?_)
    subst hw
    obtain ⟨hP, hD⟩ := hB
    rw [ht] at hP
    refine lv_istore (lv' := [(7, .int 0), (6, .int 1), (5, .int (nI i)), (4, .ref o2), (3, .ref o1), (2, .ref m0), (1, .ref h0), (0, .ref b)]) hx hb dL_law_623 hl (by decide) rfl (fun ls hl => ?_)
    refine lv_aload_n hx hb dL_law_625 rfl (lv_at hl 5 rfl) ?_
    refine vp_callSi (tc_CR (va_runV (As := []) (rest := []) ⟨hx, hb, hml, hown, hts⟩ (tX3_thrown l D A cI cJ cD cC (h0, .inr (2, [.ref h1, .ref h2, .ref h3, .int (nI n), .int cd])) (h1, .inl (cC, 60, .inr (.inr (.inr (.inr (fun t8 => if t8 < n then some (ad t8) else none)))))) (h2, .inl (cI, 6, .inl ct)) (h3, .inr (1, [.ref h4])) (h4, .inl (cD, 10, .inr (.inr (.inr (.inl (fun t8 => tf_N (1023 + 2 ^ t8) 0)))))) ((o1, .inl (cJ, 1, .inr (.inl ov))) :: (o2, .inl (cD, 1, .inr (.inr (.inr (.inl od))))) :: tc_fl (tc_col cJ cD ad wd rd K Ln Wh Re) n) m0 m1 m2 m3 m4 m5 1 n K Ln Wh Re cd ct H.size) (cwV 0 hts gL_law_X3_thrown rfl rfl rfl (by decide +kernel) ⟨Nat.le_of_ble_eq_true rfl, Nat.le_of_ble_eq_true rfl⟩) ⟨tcP.blind, va_recv hK hP (ci := 3) (q0 := 5) rfl rfl, tcP.go hK hP hD hE hS⟩ rfl rfl hl.1 rfl (lv_room (Nat.le_of_ble_eq_true rfl)) dL_law_626 ⟨by show _ ≤ 601024; omega, by show _ ≤ 7293034; omega⟩)) (fun r9 h9 => ?_)
    subst h9
    refine lv_iload hx hb dL_law_629 (lv_at hl 1 rfl) ?_
    refine lv_icmp_eq (tgt := 636) hx hb dL_law_631 (by decide) (fun _ => ?_) (fun q => absurd (by decide) q)
    refine lv_iload hx hb dL_law_636 (lv_at hl 1 rfl) ?_
    refine lv_if_ne (tgt := 653) hx hb dL_law_638 (by decide) (fun _ => ?_) (fun q => absurd q (by decide))
    refine lv_goto (tgt := 2390) hx hb dL_law_653 (by decide) ?_
    refine W.widen (k := ce + 3) (n := sl + 44) (by omega) (by omega) ?_
    exact kc _ _ _ _ ⟨ad, wd, rd, n, K, Ln, Wh, Re, cd, ct, 1, ov, od, hdd, hI, hP, hD, hS, lv_sub hl [2, 3, 4, 5, 6, 7] rfl⟩
set_option maxHeartbeats 4000000 in
set_option maxRecDepth 100000 in
theorem law_8 {p : Program} {l : Launch} {e : Env} {s : State} {m : MethodId} {below : List Frame} {meth : Method} {c : Code} {D : va_G} {A : Nat → Prop} {cI cJ cD cC : ClassId} {h0 h1 h2 h3 h4 m0 m1 m2 m3 m4 m5 o1 o2 : Nat} {b L : Nat} {xs : Nat → Int32} {Q : State → Prop} (C0 : LCtx p l D A cI cJ cD cC s m c b L xs) {d : Drawn} {H : Heap} {locs : List Loc} {ls : Array Slot} {i ce sl : Nat} (hi : i + 6 ≤ L) (hce : ce + 3 ≤ 601024) (hsl : sl + 44 ≤ 7293034) (hv : LInv D A cI cJ cD cC h0 h1 h2 h3 h4 m0 m1 m2 m3 m4 m5 o1 o2 s b d H locs i ls) (kc : ∀ (d : Drawn) (H : Heap) (locs : List Loc) (ls : Array Slot), LInv D A cI cJ cD cC h0 h1 h2 h3 h4 m0 m1 m2 m3 m4 m5 o1 o2 s b d H locs i ls → W p l e room_1 (s.setDrawn d) m #[Value.ref b] below meth c H locs (ce + 3) (sl + 44) Q (F0 m 2390 ls [])) : W p l e room_1 (s.setDrawn d) m #[Value.ref b] below meth c H locs ce sl Q (F0 m 656 ls []) := by
  obtain ⟨hx, hb, hml, hown0, htsB, hX0, hbl, hbA, hA, hL, hfl, hK0, hE0, hNc0⟩ := C0
  obtain ⟨ad, wd, rd, n, K, Ln, Wh, Re, cd, ct, th, ov, od, hdd, hI, hP, hD, hS, hl⟩ := hv
  have hn60 : n ≤ 60 := hI.1
  have hts := dr_words htsB d
  have hK : va_K D vwCl (tcTY cI cJ cD cC) (s.setDrawn d) := hK0
  have hE : tc_E A (s.setDrawn d) := hE0
  have hNc : tc_Nc (s.setDrawn d) := hNc0
  have hown : (s.setDrawn d).vm.findClass RL = some m.cls := hown0
  have hX : va_X b L xs (s.setDrawn d) s.heap := hX0
  rcases Classical.em (∃ j, j < n ∧ xs (i + 1) = nI j) with ⟨j, hj, ej⟩ | hc
  · refine lv_aload_n hx hb dL_law_656 rfl (lv_at hl 4 rfl) ?_
    refine lv_aload_n hx hb dL_law_657 rfl (lv_at hl 5 rfl) ?_
    refine lv_iload hx hb dL_law_658 (lv_at hl 0 rfl) ?_
    refine lv_iconst (v := 1) hx hb dL_law_660 (by decide) ?_
    refine lv_iadd hx hb dL_law_661 ?_
    refine tc_sld hx hb hX hbl hbA hS hL 1 rfl (by omega) (v := (nI j)) ej dL_law_662 ?_
    refine lv_aload_n hx hb dL_law_663 rfl (lv_at hl 5 rfl) ?_
    refine lv_iload hx hb dL_law_664 (lv_at hl 0 rfl) ?_
    refine lv_iconst (v := 2) hx hb dL_law_666 (by decide) ?_
    refine lv_iadd hx hb dL_law_667 ?_
    refine tc_sld hx hb hX hbl hbA hS hL 2 rfl (by omega) (v := (xs (i + 2))) rfl dL_law_668 ?_
    refine lv_aload_n hx hb dL_law_669 rfl (lv_at hl 2 rfl) ?_
    refine va_calli (tc_noX (vx_runSX (As := [.ref h0, .int (nI j), .int (xs (i + 2)), .ref o1]) (rest := []) ⟨hx, hb, hml, hown, hts⟩ (lL_readInt l hfl D A cI cJ cD cC h0 h1 h2 h3 h4 ad wd rd (m0, .inr (3, [.int th, .int (nI n), .ref m1, .ref m2, .ref m3, .ref m4, .int cd, .ref m5])) (m1, .inl (cI, 60, .inl K)) (m2, .inl (cI, 60, .inl (fun t8 => nI (Ln t8)))) (m3, .inl (cJ, 2400, .inr (.inl Wh))) (m4, .inl (cD, 2400, .inr (.inr (.inr (.inl Re))))) (m5, .inl (cI, 6, .inl ct)) o1 o2 ov od n K Ln Wh Re cd ct H.size hI j hj (xs (i + 2))) (vx_cwSW 4 hts gL_law_L_readInt rfl rfl rfl (by decide +kernel) ⟨Nat.le_of_ble_eq_true rfl, Nat.le_of_ble_eq_true rfl⟩) ⟨tcPL.blind, tcPL.go hK hP hD hE hNc hS⟩ rfl rfl hl.1 rfl (lv_room (Nat.le_of_ble_eq_true rfl)) dL_law_670 ⟨by show _ ≤ 601024; omega, by show _ ≤ 7293034; omega⟩)) hS (fun q _ h => h) (fun q h => h) (fun r uL t H locs ht hvm hw hB hz1 hk1 hS => ?_)
    subst hw
    obtain ⟨hP, hD⟩ := hB
    rw [ht] at hP
    have hP : va_P D vwCl (tc_Z cI cJ cD (h0, .inr (2, [.ref h1, .ref h2, .ref h3, .int (nI n), .int (cdR K Ln j (xs (i + 2)) (K j) 5)])) (h1, .inl (cC, 60, .inr (.inr (.inr (.inr (fun t8 => if t8 < n then some (ad t8) else none)))))) (h2, .inl (cI, 6, .inl (noteC ct (cdR K Ln j (xs (i + 2)) (K j) 5)))) (h3, .inr (1, [.ref h4])) (h4, .inl (cD, 10, .inr (.inr (.inr (.inl (fun t8 => tf_N (1023 + 2 ^ t8) 0)))))) ((o1, .inl (cJ, 1, .inr (.inl (vp_updL ov 0 (((rdW K Ln Wh j (xs (i + 2)) 5).toInt32).toInt64))))) :: (o2, .inl (cD, 1, .inr (.inr (.inr (.inl od))))) :: tc_fl (tc_col cJ cD ad wd rd K Ln Wh Re) n) m0 m1 m2 m3 m4 m5 th n K Ln Wh Re cd ct) H := hP
    have hD : va_D A (tc_Z cI cJ cD (h0, .inr (2, [.ref h1, .ref h2, .ref h3, .int (nI n), .int (cdR K Ln j (xs (i + 2)) (K j) 5)])) (h1, .inl (cC, 60, .inr (.inr (.inr (.inr (fun t8 => if t8 < n then some (ad t8) else none)))))) (h2, .inl (cI, 6, .inl (noteC ct (cdR K Ln j (xs (i + 2)) (K j) 5)))) (h3, .inr (1, [.ref h4])) (h4, .inl (cD, 10, .inr (.inr (.inr (.inl (fun t8 => tf_N (1023 + 2 ^ t8) 0)))))) ((o1, .inl (cJ, 1, .inr (.inl (vp_updL ov 0 (((rdW K Ln Wh j (xs (i + 2)) 5).toInt32).toInt64))))) :: (o2, .inl (cD, 1, .inr (.inr (.inr (.inl od))))) :: tc_fl (tc_col cJ cD ad wd rd K Ln Wh Re) n) m0 m1 m2 m3 m4 m5 th n K Ln Wh Re cd ct) := hD
    refine lv_istore (lv' := [(6, .int 0), (5, .int (nI i)), (4, .ref o2), (3, .ref o1), (2, .ref m0), (1, .ref h0), (0, .ref b)]) hx hb dL_law_673 hl (by decide) rfl (fun ls hl => ?_)
    refine lv_aload_n hx hb dL_law_675 rfl (lv_at hl 4 rfl) ?_
    refine lv_aload_n hx hb dL_law_676 rfl (lv_at hl 6 rfl) ?_
    refine lv_iload hx hb dL_law_677 (lv_at hl 1 rfl) ?_
    refine lv_iconst (v := 1) hx hb dL_law_679 (by decide) ?_
    refine lv_iadd hx hb dL_law_680 ?_
    refine tc_sld hx hb hX hbl hbA hS hL 1 rfl (by omega) (v := (nI j)) ej dL_law_681 ?_
    refine lv_aload_n hx hb dL_law_682 rfl (lv_at hl 6 rfl) ?_
    refine lv_iload hx hb dL_law_683 (lv_at hl 1 rfl) ?_
    refine lv_iconst (v := 2) hx hb dL_law_685 (by decide) ?_
    refine lv_iadd hx hb dL_law_686 ?_
    refine tc_sld hx hb hX hbl hbA hS hL 2 rfl (by omega) (v := (xs (i + 2))) rfl dL_law_687 ?_
    refine va_calli (va_runV (As := [.int (nI j), .int (xs (i + 2))]) (rest := []) ⟨hx, hb, hml, hown, hts⟩ (tX3_readInt_y l D A cI cJ cD cC (h0, .inr (2, [.ref h1, .ref h2, .ref h3, .int (nI n), .int (cdR K Ln j (xs (i + 2)) (K j) 5)])) (h1, .inl (cC, 60, .inr (.inr (.inr (.inr (fun t8 => if t8 < n then some (ad t8) else none)))))) (h2, .inl (cI, 6, .inl (noteC ct (cdR K Ln j (xs (i + 2)) (K j) 5)))) (h3, .inr (1, [.ref h4])) (h4, .inl (cD, 10, .inr (.inr (.inr (.inl (fun t8 => tf_N (1023 + 2 ^ t8) 0)))))) ((o1, .inl (cJ, 1, .inr (.inl (vp_updL ov 0 (((rdW K Ln Wh j (xs (i + 2)) 5).toInt32).toInt64))))) :: (o2, .inl (cD, 1, .inr (.inr (.inr (.inl od))))) :: tc_fl (tc_col cJ cD ad wd rd K Ln Wh Re) n) m0 m1 m2 m3 m4 m5 th n K Ln Wh Re cd ct H.size hI j hj (xs (i + 2))) (cwV 2 hts gL_law_X3_readInt rfl rfl rfl (by decide +kernel) ⟨Nat.le_of_ble_eq_true rfl, Nat.le_of_ble_eq_true rfl⟩) ⟨tcP.blind, va_recv hK hP (ci := 3) (q0 := 5) rfl rfl, tcP.go hK hP hD hE hS⟩ rfl rfl hl.1 rfl (lv_room (Nat.le_of_ble_eq_true rfl)) dL_law_688 ⟨by show _ ≤ 601024; omega, by show _ ≤ 7293034; omega⟩) hS (fun q _ h => h) (fun q h => h) (fun r u t H locs ht hvm hw hB hz1 hk1 hS => ?_)
    subst hw
    obtain ⟨hP, hD⟩ := hB
    rw [ht] at hP
    refine lv_istore (lv' := [(7, .int ((rdW K Ln Wh j (xs (i + 2)) 5).toInt32)), (6, .int 0), (5, .int (nI i)), (4, .ref o2), (3, .ref o1), (2, .ref m0), (1, .ref h0), (0, .ref b)]) hx hb dL_law_691 hl (by decide) rfl (fun ls hl => ?_)
    refine lv_aload_n hx hb dL_law_693 rfl (lv_at hl 5 rfl) ?_
    refine vp_callSi (tc_CR (va_runV (As := []) (rest := []) ⟨hx, hb, hml, hown, hts⟩ (tX3_thrown l D A cI cJ cD cC (h0, .inr (2, [.ref h1, .ref h2, .ref h3, .int (nI n), .int (cdR K Ln j (xs (i + 2)) (K j) 5)])) (h1, .inl (cC, 60, .inr (.inr (.inr (.inr (fun t8 => if t8 < n then some (ad t8) else none)))))) (h2, .inl (cI, 6, .inl (noteC ct (cdR K Ln j (xs (i + 2)) (K j) 5)))) (h3, .inr (1, [.ref h4])) (h4, .inl (cD, 10, .inr (.inr (.inr (.inl (fun t8 => tf_N (1023 + 2 ^ t8) 0)))))) ((o1, .inl (cJ, 1, .inr (.inl (vp_updL ov 0 (((rdW K Ln Wh j (xs (i + 2)) 5).toInt32).toInt64))))) :: (o2, .inl (cD, 1, .inr (.inr (.inr (.inl od))))) :: tc_fl (tc_col cJ cD ad wd rd K Ln Wh Re) n) m0 m1 m2 m3 m4 m5 0 n K Ln Wh Re (cdR K Ln j (xs (i + 2)) (K j) 5) (noteC ct (cdR K Ln j (xs (i + 2)) (K j) 5)) H.size) (cwV 0 hts gL_law_X3_thrown rfl rfl rfl (by decide +kernel) ⟨Nat.le_of_ble_eq_true rfl, Nat.le_of_ble_eq_true rfl⟩) ⟨tcP.blind, va_recv hK hP (ci := 3) (q0 := 5) rfl rfl, tcP.go hK hP hD hE hS⟩ rfl rfl hl.1 rfl (lv_room (Nat.le_of_ble_eq_true rfl)) dL_law_694 ⟨by show _ ≤ 601024; omega, by show _ ≤ 7293034; omega⟩)) (fun r9 h9 => ?_)
    subst h9
    refine lv_iload hx hb dL_law_697 (lv_at hl 1 rfl) ?_
    refine lv_icmp_eq (tgt := 704) hx hb dL_law_699 (by decide) (fun _ => ?_) (fun q => absurd (by decide) q)
    refine lv_iload hx hb dL_law_704 (lv_at hl 1 rfl) ?_
    refine lv_if_ne (tgt := 721) hx hb dL_law_706 (by decide) (fun q => absurd (by decide) q) (fun _ => ?_)
    refine lv_aload_n hx hb dL_law_709 rfl (lv_at hl 4 rfl) ?_
    refine lv_iconst (v := 0) hx hb dL_law_710 (by decide) ?_
    refine tc_lald (f := (vp_updL ov 0 (((rdW K Ln Wh j (xs (i + 2)) 5).toInt32).toInt64))) (v := ((rdW K Ln Wh j (xs (i + 2)) 5).toInt32).toInt64) hx hb hK hP 11 1 rfl rfl (by unfold vp_in; decide) (show (vp_updL ov 0 (((rdW K Ln Wh j (xs (i + 2)) 5).toInt32).toInt64)) 0 = ((rdW K Ln Wh j (xs (i + 2)) 5).toInt32).toInt64 from if_pos rfl) dL_law_711 ?_
    refine lv_iload hx hb dL_law_712 (lv_at hl 0 rfl) ?_
    refine lv_i2l (v := ((rdW K Ln Wh j (xs (i + 2)) 5).toInt32).toInt64) hx hb dL_law_714 rfl ?_
    refine W.lcmp hx hb dL_law_715 ?_
    refine lv_if_eq (tgt := 721) hx hb dL_law_716 (by decide) (fun _ => ?_) (fun q => absurd ((lg_cmp_eq _ _).mpr rfl) q)
    refine lv_goto (tgt := 2390) hx hb dL_law_721 (by decide) ?_
    refine W.widen (k := ce + 3) (n := sl + 44) (by omega) (by omega) ?_
    exact kc _ _ _ _ ⟨ad, wd, rd, n, K, Ln, Wh, Re, (cdR K Ln j (xs (i + 2)) (K j) 5), (noteC ct (cdR K Ln j (xs (i + 2)) (K j) 5)), 0, (vp_updL ov 0 (((rdW K Ln Wh j (xs (i + 2)) 5).toInt32).toInt64)), od, hdd, hI, hP, hD, hS, lv_sub hl [2, 3, 4, 5, 6, 7] rfl⟩
  · refine lv_aload_n hx hb dL_law_656 rfl (lv_at hl 4 rfl) ?_
    refine lv_aload_n hx hb dL_law_657 rfl (lv_at hl 5 rfl) ?_
    refine lv_iload hx hb dL_law_658 (lv_at hl 0 rfl) ?_
    refine lv_iconst (v := 1) hx hb dL_law_660 (by decide) ?_
    refine lv_iadd hx hb dL_law_661 ?_
    refine tc_sld hx hb hX hbl hbA hS hL 1 rfl (by omega) (v := (xs (i + 1))) rfl dL_law_662 ?_
    refine lv_aload_n hx hb dL_law_663 rfl (lv_at hl 5 rfl) ?_
    refine lv_iload hx hb dL_law_664 (lv_at hl 0 rfl) ?_
    refine lv_iconst (v := 2) hx hb dL_law_666 (by decide) ?_
    refine lv_iadd hx hb dL_law_667 ?_
    refine tc_sld hx hb hX hbl hbA hS hL 2 rfl (by omega) (v := (xs (i + 2))) rfl dL_law_668 ?_
    refine lv_aload_n hx hb dL_law_669 rfl (lv_at hl 2 rfl) ?_
    refine va_calli (tc_noX (vx_runSX (As := [.ref h0, .int (xs (i + 1)), .int (xs (i + 2)), .ref o1]) (rest := []) ⟨hx, hb, hml, hown, hts⟩ (lLn_readInt l hfl D A cI cJ cD cC h0 h1 h2 h3 h4 ad wd rd (m0, .inr (3, [.int th, .int (nI n), .ref m1, .ref m2, .ref m3, .ref m4, .int cd, .ref m5])) (m1, .inl (cI, 60, .inl K)) (m2, .inl (cI, 60, .inl (fun t8 => nI (Ln t8)))) (m3, .inl (cJ, 2400, .inr (.inl Wh))) (m4, .inl (cD, 2400, .inr (.inr (.inr (.inl Re))))) (m5, .inl (cI, 6, .inl ct)) o1 o2 ov od n K Ln Wh Re cd ct H.size hn60 (xs (i + 1)) hc (xs (i + 2))) (vx_cwSW 4 hts gL_law_L_readInt rfl rfl rfl (by decide +kernel) ⟨Nat.le_of_ble_eq_true rfl, Nat.le_of_ble_eq_true rfl⟩) ⟨tcPL.blind, tcPL.go hK hP hD hE hNc hS⟩ rfl rfl hl.1 rfl (lv_room (Nat.le_of_ble_eq_true rfl)) dL_law_670 ⟨by show _ ≤ 601024; omega, by show _ ≤ 7293034; omega⟩)) hS (fun q _ h => h) (fun q h => h) (fun r uL t H locs ht hvm hw hB hz1 hk1 hS => ?_)
    subst hw
    obtain ⟨hP, hD⟩ := hB
    rw [ht] at hP
    have hP : va_P D vwCl (tc_Z cI cJ cD (h0, .inr (2, [.ref h1, .ref h2, .ref h3, .int (nI n), .int cd])) (h1, .inl (cC, 60, .inr (.inr (.inr (.inr (fun t8 => if t8 < n then some (ad t8) else none)))))) (h2, .inl (cI, 6, .inl ct)) (h3, .inr (1, [.ref h4])) (h4, .inl (cD, 10, .inr (.inr (.inr (.inl (fun t8 => tf_N (1023 + 2 ^ t8) 0)))))) ((o1, .inl (cJ, 1, .inr (.inl ov))) :: (o2, .inl (cD, 1, .inr (.inr (.inr (.inl od))))) :: tc_fl (tc_col cJ cD ad wd rd K Ln Wh Re) n) m0 m1 m2 m3 m4 m5 th n K Ln Wh Re cd ct) H := hP
    have hD : va_D A (tc_Z cI cJ cD (h0, .inr (2, [.ref h1, .ref h2, .ref h3, .int (nI n), .int cd])) (h1, .inl (cC, 60, .inr (.inr (.inr (.inr (fun t8 => if t8 < n then some (ad t8) else none)))))) (h2, .inl (cI, 6, .inl ct)) (h3, .inr (1, [.ref h4])) (h4, .inl (cD, 10, .inr (.inr (.inr (.inl (fun t8 => tf_N (1023 + 2 ^ t8) 0)))))) ((o1, .inl (cJ, 1, .inr (.inl ov))) :: (o2, .inl (cD, 1, .inr (.inr (.inr (.inl od))))) :: tc_fl (tc_col cJ cD ad wd rd K Ln Wh Re) n) m0 m1 m2 m3 m4 m5 th n K Ln Wh Re cd ct) := hD
    refine lv_istore (lv' := [(6, .int 1), (5, .int (nI i)), (4, .ref o2), (3, .ref o1), (2, .ref m0), (1, .ref h0), (0, .ref b)]) hx hb dL_law_673 hl (by decide) rfl (fun ls hl => ?_)
    refine lv_aload_n hx hb dL_law_675 rfl (lv_at hl 4 rfl) ?_
    refine lv_aload_n hx hb dL_law_676 rfl (lv_at hl 6 rfl) ?_
    refine lv_iload hx hb dL_law_677 (lv_at hl 1 rfl) ?_
    refine lv_iconst (v := 1) hx hb dL_law_679 (by decide) ?_
    refine lv_iadd hx hb dL_law_680 ?_
    refine tc_sld hx hb hX hbl hbA hS hL 1 rfl (by omega) (v := (xs (i + 1))) rfl dL_law_681 ?_
    refine lv_aload_n hx hb dL_law_682 rfl (lv_at hl 6 rfl) ?_
    refine lv_iload hx hb dL_law_683 (lv_at hl 1 rfl) ?_
    refine lv_iconst (v := 2) hx hb dL_law_685 (by decide) ?_
    refine lv_iadd hx hb dL_law_686 ?_
    refine tc_sld hx hb hX hbl hbA hS hL 2 rfl (by omega) (v := (xs (i + 2))) rfl dL_law_687 ?_
    refine va_calli (va_runV (As := [.int (xs (i + 1)), .int (xs (i + 2))]) (rest := []) ⟨hx, hb, hml, hown, hts⟩ (tX3_readInt_n l D A cI cJ cD cC (h0, .inr (2, [.ref h1, .ref h2, .ref h3, .int (nI n), .int cd])) (h1, .inl (cC, 60, .inr (.inr (.inr (.inr (fun t8 => if t8 < n then some (ad t8) else none)))))) (h2, .inl (cI, 6, .inl ct)) (h3, .inr (1, [.ref h4])) (h4, .inl (cD, 10, .inr (.inr (.inr (.inl (fun t8 => tf_N (1023 + 2 ^ t8) 0)))))) ((o1, .inl (cJ, 1, .inr (.inl ov))) :: (o2, .inl (cD, 1, .inr (.inr (.inr (.inl od))))) :: tc_fl (tc_col cJ cD ad wd rd K Ln Wh Re) n) m0 m1 m2 m3 m4 m5 th n K Ln Wh Re cd ct H.size hI (xs (i + 1)) hc (xs (i + 2))) (cwV 2 hts gL_law_X3_readInt rfl rfl rfl (by decide +kernel) ⟨Nat.le_of_ble_eq_true rfl, Nat.le_of_ble_eq_true rfl⟩) ⟨tcP.blind, va_recv hK hP (ci := 3) (q0 := 5) rfl rfl, tcP.go hK hP hD hE hS⟩ rfl rfl hl.1 rfl (lv_room (Nat.le_of_ble_eq_true rfl)) dL_law_688 ⟨by show _ ≤ 601024; omega, by show _ ≤ 7293034; omega⟩) hS (fun q _ h => h) (fun q h => h) (fun r u t H locs ht hvm hw hB hz1 hk1 hS => ?_)
    subst hw
    obtain ⟨hP, hD⟩ := hB
    rw [ht] at hP
    refine lv_istore (lv' := [(7, .int 0), (6, .int 1), (5, .int (nI i)), (4, .ref o2), (3, .ref o1), (2, .ref m0), (1, .ref h0), (0, .ref b)]) hx hb dL_law_691 hl (by decide) rfl (fun ls hl => ?_)
    refine lv_aload_n hx hb dL_law_693 rfl (lv_at hl 5 rfl) ?_
    refine vp_callSi (tc_CR (va_runV (As := []) (rest := []) ⟨hx, hb, hml, hown, hts⟩ (tX3_thrown l D A cI cJ cD cC (h0, .inr (2, [.ref h1, .ref h2, .ref h3, .int (nI n), .int cd])) (h1, .inl (cC, 60, .inr (.inr (.inr (.inr (fun t8 => if t8 < n then some (ad t8) else none)))))) (h2, .inl (cI, 6, .inl ct)) (h3, .inr (1, [.ref h4])) (h4, .inl (cD, 10, .inr (.inr (.inr (.inl (fun t8 => tf_N (1023 + 2 ^ t8) 0)))))) ((o1, .inl (cJ, 1, .inr (.inl ov))) :: (o2, .inl (cD, 1, .inr (.inr (.inr (.inl od))))) :: tc_fl (tc_col cJ cD ad wd rd K Ln Wh Re) n) m0 m1 m2 m3 m4 m5 1 n K Ln Wh Re cd ct H.size) (cwV 0 hts gL_law_X3_thrown rfl rfl rfl (by decide +kernel) ⟨Nat.le_of_ble_eq_true rfl, Nat.le_of_ble_eq_true rfl⟩) ⟨tcP.blind, va_recv hK hP (ci := 3) (q0 := 5) rfl rfl, tcP.go hK hP hD hE hS⟩ rfl rfl hl.1 rfl (lv_room (Nat.le_of_ble_eq_true rfl)) dL_law_694 ⟨by show _ ≤ 601024; omega, by show _ ≤ 7293034; omega⟩)) (fun r9 h9 => ?_)
    subst h9
    refine lv_iload hx hb dL_law_697 (lv_at hl 1 rfl) ?_
    refine lv_icmp_eq (tgt := 704) hx hb dL_law_699 (by decide) (fun _ => ?_) (fun q => absurd (by decide) q)
    refine lv_iload hx hb dL_law_704 (lv_at hl 1 rfl) ?_
    refine lv_if_ne (tgt := 721) hx hb dL_law_706 (by decide) (fun _ => ?_) (fun q => absurd q (by decide))
    refine lv_goto (tgt := 2390) hx hb dL_law_721 (by decide) ?_
    refine W.widen (k := ce + 3) (n := sl + 44) (by omega) (by omega) ?_
    exact kc _ _ _ _ ⟨ad, wd, rd, n, K, Ln, Wh, Re, cd, ct, 1, ov, od, hdd, hI, hP, hD, hS, lv_sub hl [2, 3, 4, 5, 6, 7] rfl⟩
set_option maxHeartbeats 4000000 in
set_option maxRecDepth 100000 in
theorem law_9 {p : Program} {l : Launch} {e : Env} {s : State} {m : MethodId} {below : List Frame} {meth : Method} {c : Code} {D : va_G} {A : Nat → Prop} {cI cJ cD cC : ClassId} {h0 h1 h2 h3 h4 m0 m1 m2 m3 m4 m5 o1 o2 : Nat} {b L : Nat} {xs : Nat → Int32} {Q : State → Prop} (C0 : LCtx p l D A cI cJ cD cC s m c b L xs) {d : Drawn} {H : Heap} {locs : List Loc} {ls : Array Slot} {i ce sl : Nat} (hi : i + 6 ≤ L) (hce : ce + 3 ≤ 601024) (hsl : sl + 44 ≤ 7293034) (hv : LInv D A cI cJ cD cC h0 h1 h2 h3 h4 m0 m1 m2 m3 m4 m5 o1 o2 s b d H locs i ls) (kc : ∀ (d : Drawn) (H : Heap) (locs : List Loc) (ls : Array Slot), LInv D A cI cJ cD cC h0 h1 h2 h3 h4 m0 m1 m2 m3 m4 m5 o1 o2 s b d H locs i ls → W p l e room_1 (s.setDrawn d) m #[Value.ref b] below meth c H locs (ce + 3) (sl + 44) Q (F0 m 2390 ls [])) : W p l e room_1 (s.setDrawn d) m #[Value.ref b] below meth c H locs ce sl Q (F0 m 724 ls []) := by
  obtain ⟨hx, hb, hml, hown0, htsB, hX0, hbl, hbA, hA, hL, hfl, hK0, hE0, hNc0⟩ := C0
  obtain ⟨ad, wd, rd, n, K, Ln, Wh, Re, cd, ct, th, ov, od, hdd, hI, hP, hD, hS, hl⟩ := hv
  have hn60 : n ≤ 60 := hI.1
  have hts := dr_words htsB d
  have hK : va_K D vwCl (tcTY cI cJ cD cC) (s.setDrawn d) := hK0
  have hE : tc_E A (s.setDrawn d) := hE0
  have hNc : tc_Nc (s.setDrawn d) := hNc0
  have hown : (s.setDrawn d).vm.findClass RL = some m.cls := hown0
  have hX : va_X b L xs (s.setDrawn d) s.heap := hX0
  rcases Classical.em (∃ j, j < n ∧ xs (i + 1) = nI j) with ⟨j, hj, ej⟩ | hc
  · refine lv_aload_n hx hb dL_law_724 rfl (lv_at hl 4 rfl) ?_
    refine lv_aload_n hx hb dL_law_725 rfl (lv_at hl 5 rfl) ?_
    refine lv_iload hx hb dL_law_726 (lv_at hl 0 rfl) ?_
    refine lv_iconst (v := 1) hx hb dL_law_728 (by decide) ?_
    refine lv_iadd hx hb dL_law_729 ?_
    refine tc_sld hx hb hX hbl hbA hS hL 1 rfl (by omega) (v := (nI j)) ej dL_law_730 ?_
    refine lv_aload_n hx hb dL_law_731 rfl (lv_at hl 5 rfl) ?_
    refine lv_iload hx hb dL_law_732 (lv_at hl 0 rfl) ?_
    refine lv_iconst (v := 2) hx hb dL_law_734 (by decide) ?_
    refine lv_iadd hx hb dL_law_735 ?_
    refine tc_sld hx hb hX hbl hbA hS hL 2 rfl (by omega) (v := (xs (i + 2))) rfl dL_law_736 ?_
    refine lv_aload_n hx hb dL_law_737 rfl (lv_at hl 2 rfl) ?_
    refine va_calli (tc_noX (vx_runSX (As := [.ref h0, .int (nI j), .int (xs (i + 2)), .ref o1]) (rest := []) ⟨hx, hb, hml, hown, hts⟩ (lL_readLong l hfl D A cI cJ cD cC h0 h1 h2 h3 h4 ad wd rd (m0, .inr (3, [.int th, .int (nI n), .ref m1, .ref m2, .ref m3, .ref m4, .int cd, .ref m5])) (m1, .inl (cI, 60, .inl K)) (m2, .inl (cI, 60, .inl (fun t8 => nI (Ln t8)))) (m3, .inl (cJ, 2400, .inr (.inl Wh))) (m4, .inl (cD, 2400, .inr (.inr (.inr (.inl Re))))) (m5, .inl (cI, 6, .inl ct)) o1 o2 ov od n K Ln Wh Re cd ct H.size hI j hj (xs (i + 2))) (vx_cwSW 4 hts gL_law_L_readLong rfl rfl rfl (by decide +kernel) ⟨Nat.le_of_ble_eq_true rfl, Nat.le_of_ble_eq_true rfl⟩) ⟨tcPL.blind, tcPL.go hK hP hD hE hNc hS⟩ rfl rfl hl.1 rfl (lv_room (Nat.le_of_ble_eq_true rfl)) dL_law_738 ⟨by show _ ≤ 601024; omega, by show _ ≤ 7293034; omega⟩)) hS (fun q _ h => h) (fun q h => h) (fun r uL t H locs ht hvm hw hB hz1 hk1 hS => ?_)
    subst hw
    obtain ⟨hP, hD⟩ := hB
    rw [ht] at hP
    have hP : va_P D vwCl (tc_Z cI cJ cD (h0, .inr (2, [.ref h1, .ref h2, .ref h3, .int (nI n), .int (cdR K Ln j (xs (i + 2)) (K j) 6)])) (h1, .inl (cC, 60, .inr (.inr (.inr (.inr (fun t8 => if t8 < n then some (ad t8) else none)))))) (h2, .inl (cI, 6, .inl (noteC ct (cdR K Ln j (xs (i + 2)) (K j) 6)))) (h3, .inr (1, [.ref h4])) (h4, .inl (cD, 10, .inr (.inr (.inr (.inl (fun t8 => tf_N (1023 + 2 ^ t8) 0)))))) ((o1, .inl (cJ, 1, .inr (.inl (vp_updL ov 0 (rdW K Ln Wh j (xs (i + 2)) 6))))) :: (o2, .inl (cD, 1, .inr (.inr (.inr (.inl od))))) :: tc_fl (tc_col cJ cD ad wd rd K Ln Wh Re) n) m0 m1 m2 m3 m4 m5 th n K Ln Wh Re cd ct) H := hP
    have hD : va_D A (tc_Z cI cJ cD (h0, .inr (2, [.ref h1, .ref h2, .ref h3, .int (nI n), .int (cdR K Ln j (xs (i + 2)) (K j) 6)])) (h1, .inl (cC, 60, .inr (.inr (.inr (.inr (fun t8 => if t8 < n then some (ad t8) else none)))))) (h2, .inl (cI, 6, .inl (noteC ct (cdR K Ln j (xs (i + 2)) (K j) 6)))) (h3, .inr (1, [.ref h4])) (h4, .inl (cD, 10, .inr (.inr (.inr (.inl (fun t8 => tf_N (1023 + 2 ^ t8) 0)))))) ((o1, .inl (cJ, 1, .inr (.inl (vp_updL ov 0 (rdW K Ln Wh j (xs (i + 2)) 6))))) :: (o2, .inl (cD, 1, .inr (.inr (.inr (.inl od))))) :: tc_fl (tc_col cJ cD ad wd rd K Ln Wh Re) n) m0 m1 m2 m3 m4 m5 th n K Ln Wh Re cd ct) := hD
    refine lv_istore (lv' := [(6, .int 0), (5, .int (nI i)), (4, .ref o2), (3, .ref o1), (2, .ref m0), (1, .ref h0), (0, .ref b)]) hx hb dL_law_741 hl (by decide) rfl (fun ls hl => ?_)
    refine lv_aload_n hx hb dL_law_743 rfl (lv_at hl 4 rfl) ?_
    refine lv_aload_n hx hb dL_law_744 rfl (lv_at hl 6 rfl) ?_
    refine lv_iload hx hb dL_law_745 (lv_at hl 1 rfl) ?_
    refine lv_iconst (v := 1) hx hb dL_law_747 (by decide) ?_
    refine lv_iadd hx hb dL_law_748 ?_
    refine tc_sld hx hb hX hbl hbA hS hL 1 rfl (by omega) (v := (nI j)) ej dL_law_749 ?_
    refine lv_aload_n hx hb dL_law_750 rfl (lv_at hl 6 rfl) ?_
    refine lv_iload hx hb dL_law_751 (lv_at hl 1 rfl) ?_
    refine lv_iconst (v := 2) hx hb dL_law_753 (by decide) ?_
    refine lv_iadd hx hb dL_law_754 ?_
    refine tc_sld hx hb hX hbl hbA hS hL 2 rfl (by omega) (v := (xs (i + 2))) rfl dL_law_755 ?_
    refine va_calll (va_runV (As := [.int (nI j), .int (xs (i + 2))]) (rest := []) ⟨hx, hb, hml, hown, hts⟩ (tX3_readLong_y l D A cI cJ cD cC (h0, .inr (2, [.ref h1, .ref h2, .ref h3, .int (nI n), .int (cdR K Ln j (xs (i + 2)) (K j) 6)])) (h1, .inl (cC, 60, .inr (.inr (.inr (.inr (fun t8 => if t8 < n then some (ad t8) else none)))))) (h2, .inl (cI, 6, .inl (noteC ct (cdR K Ln j (xs (i + 2)) (K j) 6)))) (h3, .inr (1, [.ref h4])) (h4, .inl (cD, 10, .inr (.inr (.inr (.inl (fun t8 => tf_N (1023 + 2 ^ t8) 0)))))) ((o1, .inl (cJ, 1, .inr (.inl (vp_updL ov 0 (rdW K Ln Wh j (xs (i + 2)) 6))))) :: (o2, .inl (cD, 1, .inr (.inr (.inr (.inl od))))) :: tc_fl (tc_col cJ cD ad wd rd K Ln Wh Re) n) m0 m1 m2 m3 m4 m5 th n K Ln Wh Re cd ct H.size hI j hj (xs (i + 2))) (cwV 2 hts gL_law_X3_readLong rfl rfl rfl (by decide +kernel) ⟨Nat.le_of_ble_eq_true rfl, Nat.le_of_ble_eq_true rfl⟩) ⟨tcP.blind, va_recv hK hP (ci := 3) (q0 := 5) rfl rfl, tcP.go hK hP hD hE hS⟩ rfl rfl hl.1 rfl (lv_room (Nat.le_of_ble_eq_true rfl)) dL_law_756 ⟨by show _ ≤ 601024; omega, by show _ ≤ 7293034; omega⟩) hS (fun q _ h => h) (fun q h => h) (fun r u t H locs ht hvm hw hB hz1 hk1 hS => ?_)
    subst hw
    obtain ⟨hP, hD⟩ := hB
    rw [ht] at hP
    refine lv_lstore (lv' := [(7, .long (rdW K Ln Wh j (xs (i + 2)) 6)), (6, .int 0), (5, .int (nI i)), (4, .ref o2), (3, .ref o1), (2, .ref m0), (1, .ref h0), (0, .ref b)]) hx hb dL_law_759 hl (by decide) rfl (fun ls hl => ?_)
    refine lv_aload_n hx hb dL_law_761 rfl (lv_at hl 5 rfl) ?_
    refine vp_callSi (tc_CR (va_runV (As := []) (rest := []) ⟨hx, hb, hml, hown, hts⟩ (tX3_thrown l D A cI cJ cD cC (h0, .inr (2, [.ref h1, .ref h2, .ref h3, .int (nI n), .int (cdR K Ln j (xs (i + 2)) (K j) 6)])) (h1, .inl (cC, 60, .inr (.inr (.inr (.inr (fun t8 => if t8 < n then some (ad t8) else none)))))) (h2, .inl (cI, 6, .inl (noteC ct (cdR K Ln j (xs (i + 2)) (K j) 6)))) (h3, .inr (1, [.ref h4])) (h4, .inl (cD, 10, .inr (.inr (.inr (.inl (fun t8 => tf_N (1023 + 2 ^ t8) 0)))))) ((o1, .inl (cJ, 1, .inr (.inl (vp_updL ov 0 (rdW K Ln Wh j (xs (i + 2)) 6))))) :: (o2, .inl (cD, 1, .inr (.inr (.inr (.inl od))))) :: tc_fl (tc_col cJ cD ad wd rd K Ln Wh Re) n) m0 m1 m2 m3 m4 m5 0 n K Ln Wh Re (cdR K Ln j (xs (i + 2)) (K j) 6) (noteC ct (cdR K Ln j (xs (i + 2)) (K j) 6)) H.size) (cwV 0 hts gL_law_X3_thrown rfl rfl rfl (by decide +kernel) ⟨Nat.le_of_ble_eq_true rfl, Nat.le_of_ble_eq_true rfl⟩) ⟨tcP.blind, va_recv hK hP (ci := 3) (q0 := 5) rfl rfl, tcP.go hK hP hD hE hS⟩ rfl rfl hl.1 rfl (lv_room (Nat.le_of_ble_eq_true rfl)) dL_law_762 ⟨by show _ ≤ 601024; omega, by show _ ≤ 7293034; omega⟩)) (fun r9 h9 => ?_)
    subst h9
    refine lv_iload hx hb dL_law_765 (lv_at hl 1 rfl) ?_
    refine lv_icmp_eq (tgt := 772) hx hb dL_law_767 (by decide) (fun _ => ?_) (fun q => absurd (by decide) q)
    refine lv_iload hx hb dL_law_772 (lv_at hl 1 rfl) ?_
    refine lv_if_ne (tgt := 788) hx hb dL_law_774 (by decide) (fun q => absurd (by decide) q) (fun _ => ?_)
    refine lv_aload_n hx hb dL_law_777 rfl (lv_at hl 4 rfl) ?_
    refine lv_iconst (v := 0) hx hb dL_law_778 (by decide) ?_
    refine tc_lald (f := (vp_updL ov 0 (rdW K Ln Wh j (xs (i + 2)) 6))) (v := (rdW K Ln Wh j (xs (i + 2)) 6)) hx hb hK hP 11 1 rfl rfl (by unfold vp_in; decide) (show (vp_updL ov 0 (rdW K Ln Wh j (xs (i + 2)) 6)) 0 = (rdW K Ln Wh j (xs (i + 2)) 6) from if_pos rfl) dL_law_779 ?_
    refine lv_lload hx hb dL_law_780 (lv_at hl 0 rfl) ?_
    refine W.lcmp hx hb dL_law_782 ?_
    refine lv_if_eq (tgt := 788) hx hb dL_law_783 (by decide) (fun _ => ?_) (fun q => absurd ((lg_cmp_eq _ _).mpr rfl) q)
    refine lv_goto (tgt := 2390) hx hb dL_law_788 (by decide) ?_
    refine W.widen (k := ce + 3) (n := sl + 44) (by omega) (by omega) ?_
    exact kc _ _ _ _ ⟨ad, wd, rd, n, K, Ln, Wh, Re, (cdR K Ln j (xs (i + 2)) (K j) 6), (noteC ct (cdR K Ln j (xs (i + 2)) (K j) 6)), 0, (vp_updL ov 0 (rdW K Ln Wh j (xs (i + 2)) 6)), od, hdd, hI, hP, hD, hS, lv_sub hl [2, 3, 4, 5, 6, 7] rfl⟩
  · refine lv_aload_n hx hb dL_law_724 rfl (lv_at hl 4 rfl) ?_
    refine lv_aload_n hx hb dL_law_725 rfl (lv_at hl 5 rfl) ?_
    refine lv_iload hx hb dL_law_726 (lv_at hl 0 rfl) ?_
    refine lv_iconst (v := 1) hx hb dL_law_728 (by decide) ?_
    refine lv_iadd hx hb dL_law_729 ?_
    refine tc_sld hx hb hX hbl hbA hS hL 1 rfl (by omega) (v := (xs (i + 1))) rfl dL_law_730 ?_
    refine lv_aload_n hx hb dL_law_731 rfl (lv_at hl 5 rfl) ?_
    refine lv_iload hx hb dL_law_732 (lv_at hl 0 rfl) ?_
    refine lv_iconst (v := 2) hx hb dL_law_734 (by decide) ?_
    refine lv_iadd hx hb dL_law_735 ?_
    refine tc_sld hx hb hX hbl hbA hS hL 2 rfl (by omega) (v := (xs (i + 2))) rfl dL_law_736 ?_
    refine lv_aload_n hx hb dL_law_737 rfl (lv_at hl 2 rfl) ?_
    refine va_calli (tc_noX (vx_runSX (As := [.ref h0, .int (xs (i + 1)), .int (xs (i + 2)), .ref o1]) (rest := []) ⟨hx, hb, hml, hown, hts⟩ (lLn_readLong l hfl D A cI cJ cD cC h0 h1 h2 h3 h4 ad wd rd (m0, .inr (3, [.int th, .int (nI n), .ref m1, .ref m2, .ref m3, .ref m4, .int cd, .ref m5])) (m1, .inl (cI, 60, .inl K)) (m2, .inl (cI, 60, .inl (fun t8 => nI (Ln t8)))) (m3, .inl (cJ, 2400, .inr (.inl Wh))) (m4, .inl (cD, 2400, .inr (.inr (.inr (.inl Re))))) (m5, .inl (cI, 6, .inl ct)) o1 o2 ov od n K Ln Wh Re cd ct H.size hn60 (xs (i + 1)) hc (xs (i + 2))) (vx_cwSW 4 hts gL_law_L_readLong rfl rfl rfl (by decide +kernel) ⟨Nat.le_of_ble_eq_true rfl, Nat.le_of_ble_eq_true rfl⟩) ⟨tcPL.blind, tcPL.go hK hP hD hE hNc hS⟩ rfl rfl hl.1 rfl (lv_room (Nat.le_of_ble_eq_true rfl)) dL_law_738 ⟨by show _ ≤ 601024; omega, by show _ ≤ 7293034; omega⟩)) hS (fun q _ h => h) (fun q h => h) (fun r uL t H locs ht hvm hw hB hz1 hk1 hS => ?_)
    subst hw
    obtain ⟨hP, hD⟩ := hB
    rw [ht] at hP
    have hP : va_P D vwCl (tc_Z cI cJ cD (h0, .inr (2, [.ref h1, .ref h2, .ref h3, .int (nI n), .int cd])) (h1, .inl (cC, 60, .inr (.inr (.inr (.inr (fun t8 => if t8 < n then some (ad t8) else none)))))) (h2, .inl (cI, 6, .inl ct)) (h3, .inr (1, [.ref h4])) (h4, .inl (cD, 10, .inr (.inr (.inr (.inl (fun t8 => tf_N (1023 + 2 ^ t8) 0)))))) ((o1, .inl (cJ, 1, .inr (.inl ov))) :: (o2, .inl (cD, 1, .inr (.inr (.inr (.inl od))))) :: tc_fl (tc_col cJ cD ad wd rd K Ln Wh Re) n) m0 m1 m2 m3 m4 m5 th n K Ln Wh Re cd ct) H := hP
    have hD : va_D A (tc_Z cI cJ cD (h0, .inr (2, [.ref h1, .ref h2, .ref h3, .int (nI n), .int cd])) (h1, .inl (cC, 60, .inr (.inr (.inr (.inr (fun t8 => if t8 < n then some (ad t8) else none)))))) (h2, .inl (cI, 6, .inl ct)) (h3, .inr (1, [.ref h4])) (h4, .inl (cD, 10, .inr (.inr (.inr (.inl (fun t8 => tf_N (1023 + 2 ^ t8) 0)))))) ((o1, .inl (cJ, 1, .inr (.inl ov))) :: (o2, .inl (cD, 1, .inr (.inr (.inr (.inl od))))) :: tc_fl (tc_col cJ cD ad wd rd K Ln Wh Re) n) m0 m1 m2 m3 m4 m5 th n K Ln Wh Re cd ct) := hD
    refine lv_istore (lv' := [(6, .int 1), (5, .int (nI i)), (4, .ref o2), (3, .ref o1), (2, .ref m0), (1, .ref h0), (0, .ref b)]) hx hb dL_law_741 hl (by decide) rfl (fun ls hl => ?_)
    refine lv_aload_n hx hb dL_law_743 rfl (lv_at hl 4 rfl) ?_
    refine lv_aload_n hx hb dL_law_744 rfl (lv_at hl 6 rfl) ?_
    refine lv_iload hx hb dL_law_745 (lv_at hl 1 rfl) ?_
    refine lv_iconst (v := 1) hx hb dL_law_747 (by decide) ?_
    refine lv_iadd hx hb dL_law_748 ?_
    refine tc_sld hx hb hX hbl hbA hS hL 1 rfl (by omega) (v := (xs (i + 1))) rfl dL_law_749 ?_
    refine lv_aload_n hx hb dL_law_750 rfl (lv_at hl 6 rfl) ?_
    refine lv_iload hx hb dL_law_751 (lv_at hl 1 rfl) ?_
    refine lv_iconst (v := 2) hx hb dL_law_753 (by decide) ?_
    refine lv_iadd hx hb dL_law_754 ?_
    refine tc_sld hx hb hX hbl hbA hS hL 2 rfl (by omega) (v := (xs (i + 2))) rfl dL_law_755 ?_
    refine va_calll (va_runV (As := [.int (xs (i + 1)), .int (xs (i + 2))]) (rest := []) ⟨hx, hb, hml, hown, hts⟩ (tX3_readLong_n l D A cI cJ cD cC (h0, .inr (2, [.ref h1, .ref h2, .ref h3, .int (nI n), .int cd])) (h1, .inl (cC, 60, .inr (.inr (.inr (.inr (fun t8 => if t8 < n then some (ad t8) else none)))))) (h2, .inl (cI, 6, .inl ct)) (h3, .inr (1, [.ref h4])) (h4, .inl (cD, 10, .inr (.inr (.inr (.inl (fun t8 => tf_N (1023 + 2 ^ t8) 0)))))) ((o1, .inl (cJ, 1, .inr (.inl ov))) :: (o2, .inl (cD, 1, .inr (.inr (.inr (.inl od))))) :: tc_fl (tc_col cJ cD ad wd rd K Ln Wh Re) n) m0 m1 m2 m3 m4 m5 th n K Ln Wh Re cd ct H.size hI (xs (i + 1)) hc (xs (i + 2))) (cwV 2 hts gL_law_X3_readLong rfl rfl rfl (by decide +kernel) ⟨Nat.le_of_ble_eq_true rfl, Nat.le_of_ble_eq_true rfl⟩) ⟨tcP.blind, va_recv hK hP (ci := 3) (q0 := 5) rfl rfl, tcP.go hK hP hD hE hS⟩ rfl rfl hl.1 rfl (lv_room (Nat.le_of_ble_eq_true rfl)) dL_law_756 ⟨by show _ ≤ 601024; omega, by show _ ≤ 7293034; omega⟩) hS (fun q _ h => h) (fun q h => h) (fun r u t H locs ht hvm hw hB hz1 hk1 hS => ?_)
    subst hw
    obtain ⟨hP, hD⟩ := hB
    rw [ht] at hP
    refine lv_lstore (lv' := [(7, .long 0), (6, .int 1), (5, .int (nI i)), (4, .ref o2), (3, .ref o1), (2, .ref m0), (1, .ref h0), (0, .ref b)]) hx hb dL_law_759 hl (by decide) rfl (fun ls hl => ?_)
    refine lv_aload_n hx hb dL_law_761 rfl (lv_at hl 5 rfl) ?_
    refine vp_callSi (tc_CR (va_runV (As := []) (rest := []) ⟨hx, hb, hml, hown, hts⟩ (tX3_thrown l D A cI cJ cD cC (h0, .inr (2, [.ref h1, .ref h2, .ref h3, .int (nI n), .int cd])) (h1, .inl (cC, 60, .inr (.inr (.inr (.inr (fun t8 => if t8 < n then some (ad t8) else none)))))) (h2, .inl (cI, 6, .inl ct)) (h3, .inr (1, [.ref h4])) (h4, .inl (cD, 10, .inr (.inr (.inr (.inl (fun t8 => tf_N (1023 + 2 ^ t8) 0)))))) ((o1, .inl (cJ, 1, .inr (.inl ov))) :: (o2, .inl (cD, 1, .inr (.inr (.inr (.inl od))))) :: tc_fl (tc_col cJ cD ad wd rd K Ln Wh Re) n) m0 m1 m2 m3 m4 m5 1 n K Ln Wh Re cd ct H.size) (cwV 0 hts gL_law_X3_thrown rfl rfl rfl (by decide +kernel) ⟨Nat.le_of_ble_eq_true rfl, Nat.le_of_ble_eq_true rfl⟩) ⟨tcP.blind, va_recv hK hP (ci := 3) (q0 := 5) rfl rfl, tcP.go hK hP hD hE hS⟩ rfl rfl hl.1 rfl (lv_room (Nat.le_of_ble_eq_true rfl)) dL_law_762 ⟨by show _ ≤ 601024; omega, by show _ ≤ 7293034; omega⟩)) (fun r9 h9 => ?_)
    subst h9
    refine lv_iload hx hb dL_law_765 (lv_at hl 1 rfl) ?_
    refine lv_icmp_eq (tgt := 772) hx hb dL_law_767 (by decide) (fun _ => ?_) (fun q => absurd (by decide) q)
    refine lv_iload hx hb dL_law_772 (lv_at hl 1 rfl) ?_
    refine lv_if_ne (tgt := 788) hx hb dL_law_774 (by decide) (fun _ => ?_) (fun q => absurd q (by decide))
    refine lv_goto (tgt := 2390) hx hb dL_law_788 (by decide) ?_
    refine W.widen (k := ce + 3) (n := sl + 44) (by omega) (by omega) ?_
    exact kc _ _ _ _ ⟨ad, wd, rd, n, K, Ln, Wh, Re, cd, ct, 1, ov, od, hdd, hI, hP, hD, hS, lv_sub hl [2, 3, 4, 5, 6, 7] rfl⟩
set_option maxHeartbeats 4000000 in
set_option maxRecDepth 100000 in
theorem law_10 {p : Program} {l : Launch} {e : Env} {s : State} {m : MethodId} {below : List Frame} {meth : Method} {c : Code} {D : va_G} {A : Nat → Prop} {cI cJ cD cC : ClassId} {h0 h1 h2 h3 h4 m0 m1 m2 m3 m4 m5 o1 o2 : Nat} {b L : Nat} {xs : Nat → Int32} {Q : State → Prop} (C0 : LCtx p l D A cI cJ cD cC s m c b L xs) {d : Drawn} {H : Heap} {locs : List Loc} {ls : Array Slot} {i ce sl : Nat} (hi : i + 6 ≤ L) (hce : ce + 3 ≤ 601024) (hsl : sl + 44 ≤ 7293034) (hv : LInv D A cI cJ cD cC h0 h1 h2 h3 h4 m0 m1 m2 m3 m4 m5 o1 o2 s b d H locs i ls) (kc : ∀ (d : Drawn) (H : Heap) (locs : List Loc) (ls : Array Slot), LInv D A cI cJ cD cC h0 h1 h2 h3 h4 m0 m1 m2 m3 m4 m5 o1 o2 s b d H locs i ls → W p l e room_1 (s.setDrawn d) m #[Value.ref b] below meth c H locs (ce + 3) (sl + 44) Q (F0 m 2390 ls [])) : W p l e room_1 (s.setDrawn d) m #[Value.ref b] below meth c H locs ce sl Q (F0 m 791 ls []) := by
  obtain ⟨hx, hb, hml, hown0, htsB, hX0, hbl, hbA, hA, hL, hfl, hK0, hE0, hNc0⟩ := C0
  obtain ⟨ad, wd, rd, n, K, Ln, Wh, Re, cd, ct, th, ov, od, hdd, hI, hP, hD, hS, hl⟩ := hv
  have hn60 : n ≤ 60 := hI.1
  have hts := dr_words htsB d
  have hK : va_K D vwCl (tcTY cI cJ cD cC) (s.setDrawn d) := hK0
  have hE : tc_E A (s.setDrawn d) := hE0
  have hNc : tc_Nc (s.setDrawn d) := hNc0
  have hown : (s.setDrawn d).vm.findClass RL = some m.cls := hown0
  have hX : va_X b L xs (s.setDrawn d) s.heap := hX0
  rcases Classical.em (∃ j, j < n ∧ xs (i + 1) = nI j) with ⟨j, hj, ej⟩ | hc
  · refine lv_aload_n hx hb dL_law_791 rfl (lv_at hl 4 rfl) ?_
    refine lv_aload_n hx hb dL_law_792 rfl (lv_at hl 5 rfl) ?_
    refine lv_iload hx hb dL_law_793 (lv_at hl 0 rfl) ?_
    refine lv_iconst (v := 1) hx hb dL_law_795 (by decide) ?_
    refine lv_iadd hx hb dL_law_796 ?_
    refine tc_sld hx hb hX hbl hbA hS hL 1 rfl (by omega) (v := (nI j)) ej dL_law_797 ?_
    refine lv_aload_n hx hb dL_law_798 rfl (lv_at hl 5 rfl) ?_
    refine lv_iload hx hb dL_law_799 (lv_at hl 0 rfl) ?_
    refine lv_iconst (v := 2) hx hb dL_law_801 (by decide) ?_
    refine lv_iadd hx hb dL_law_802 ?_
    refine tc_sld hx hb hX hbl hbA hS hL 2 rfl (by omega) (v := (xs (i + 2))) rfl dL_law_803 ?_
    refine lv_aload hx hb dL_law_804 (lv_at hl 1 rfl) ?_
    refine va_calli (tc_noX (vx_runSX (As := [.ref h0, .int (nI j), .int (xs (i + 2)), .ref o2]) (rest := []) ⟨hx, hb, hml, hown, hts⟩ (lL_readFloat l hfl D A cI cJ cD cC h0 h1 h2 h3 h4 ad wd rd (m0, .inr (3, [.int th, .int (nI n), .ref m1, .ref m2, .ref m3, .ref m4, .int cd, .ref m5])) (m1, .inl (cI, 60, .inl K)) (m2, .inl (cI, 60, .inl (fun t8 => nI (Ln t8)))) (m3, .inl (cJ, 2400, .inr (.inl Wh))) (m4, .inl (cD, 2400, .inr (.inr (.inr (.inl Re))))) (m5, .inl (cI, 6, .inl ct)) o1 o2 ov od n K Ln Wh Re cd ct H.size hI j hj (xs (i + 2))) (vx_cwSW 4 hts gL_law_L_readFloat rfl rfl rfl (by decide +kernel) ⟨Nat.le_of_ble_eq_true rfl, Nat.le_of_ble_eq_true rfl⟩) ⟨tcPL.blind, tcPL.go hK hP hD hE hNc hS⟩ rfl rfl hl.1 rfl (lv_room (Nat.le_of_ble_eq_true rfl)) dL_law_806 ⟨by show _ ≤ 601024; omega, by show _ ≤ 7293034; omega⟩)) hS (fun q _ h => h) (fun q h => h) (fun r uL t H locs ht hvm hw hB hz1 hk1 hS => ?_)
    subst hw
    obtain ⟨hP, hD⟩ := hB
    rw [ht] at hP
    have hP : va_P D vwCl (tc_Z cI cJ cD (h0, .inr (2, [.ref h1, .ref h2, .ref h3, .int (nI n), .int (cdR K Ln j (xs (i + 2)) (K j) 7)])) (h1, .inl (cC, 60, .inr (.inr (.inr (.inr (fun t8 => if t8 < n then some (ad t8) else none)))))) (h2, .inl (cI, 6, .inl (noteC ct (cdR K Ln j (xs (i + 2)) (K j) 7)))) (h3, .inr (1, [.ref h4])) (h4, .inl (cD, 10, .inr (.inr (.inr (.inl (fun t8 => tf_N (1023 + 2 ^ t8) 0)))))) ((o1, .inl (cJ, 1, .inr (.inl ov))) :: (o2, .inl (cD, 1, .inr (.inr (.inr (.inl (vf_upd od 0 (FP.f2d (rdF K Ln Wh Re j (xs (i + 2)))))))))) :: tc_fl (tc_col cJ cD ad wd rd K Ln Wh Re) n) m0 m1 m2 m3 m4 m5 th n K Ln Wh Re cd ct) H := hP
    have hD : va_D A (tc_Z cI cJ cD (h0, .inr (2, [.ref h1, .ref h2, .ref h3, .int (nI n), .int (cdR K Ln j (xs (i + 2)) (K j) 7)])) (h1, .inl (cC, 60, .inr (.inr (.inr (.inr (fun t8 => if t8 < n then some (ad t8) else none)))))) (h2, .inl (cI, 6, .inl (noteC ct (cdR K Ln j (xs (i + 2)) (K j) 7)))) (h3, .inr (1, [.ref h4])) (h4, .inl (cD, 10, .inr (.inr (.inr (.inl (fun t8 => tf_N (1023 + 2 ^ t8) 0)))))) ((o1, .inl (cJ, 1, .inr (.inl ov))) :: (o2, .inl (cD, 1, .inr (.inr (.inr (.inl (vf_upd od 0 (FP.f2d (rdF K Ln Wh Re j (xs (i + 2)))))))))) :: tc_fl (tc_col cJ cD ad wd rd K Ln Wh Re) n) m0 m1 m2 m3 m4 m5 th n K Ln Wh Re cd ct) := hD
    refine lv_istore (lv' := [(6, .int 0), (5, .int (nI i)), (4, .ref o2), (3, .ref o1), (2, .ref m0), (1, .ref h0), (0, .ref b)]) hx hb dL_law_809 hl (by decide) rfl (fun ls hl => ?_)
    refine lv_aload_n hx hb dL_law_811 rfl (lv_at hl 4 rfl) ?_
    refine lv_aload_n hx hb dL_law_812 rfl (lv_at hl 6 rfl) ?_
    refine lv_iload hx hb dL_law_813 (lv_at hl 1 rfl) ?_
    refine lv_iconst (v := 1) hx hb dL_law_815 (by decide) ?_
    refine lv_iadd hx hb dL_law_816 ?_
    refine tc_sld hx hb hX hbl hbA hS hL 1 rfl (by omega) (v := (nI j)) ej dL_law_817 ?_
    refine lv_aload_n hx hb dL_law_818 rfl (lv_at hl 6 rfl) ?_
    refine lv_iload hx hb dL_law_819 (lv_at hl 1 rfl) ?_
    refine lv_iconst (v := 2) hx hb dL_law_821 (by decide) ?_
    refine lv_iadd hx hb dL_law_822 ?_
    refine tc_sld hx hb hX hbl hbA hS hL 2 rfl (by omega) (v := (xs (i + 2))) rfl dL_law_823 ?_
    refine va_callf (va_runV (As := [.int (nI j), .int (xs (i + 2))]) (rest := []) ⟨hx, hb, hml, hown, hts⟩ (tX3_readFloat_y l D A cI cJ cD cC (h0, .inr (2, [.ref h1, .ref h2, .ref h3, .int (nI n), .int (cdR K Ln j (xs (i + 2)) (K j) 7)])) (h1, .inl (cC, 60, .inr (.inr (.inr (.inr (fun t8 => if t8 < n then some (ad t8) else none)))))) (h2, .inl (cI, 6, .inl (noteC ct (cdR K Ln j (xs (i + 2)) (K j) 7)))) (h3, .inr (1, [.ref h4])) (h4, .inl (cD, 10, .inr (.inr (.inr (.inl (fun t8 => tf_N (1023 + 2 ^ t8) 0)))))) ((o1, .inl (cJ, 1, .inr (.inl ov))) :: (o2, .inl (cD, 1, .inr (.inr (.inr (.inl (vf_upd od 0 (FP.f2d (rdF K Ln Wh Re j (xs (i + 2)))))))))) :: tc_fl (tc_col cJ cD ad wd rd K Ln Wh Re) n) m0 m1 m2 m3 m4 m5 th n K Ln Wh Re cd ct H.size hI j hj (xs (i + 2))) (cwV 2 hts gL_law_X3_readFloat rfl rfl rfl (by decide +kernel) ⟨Nat.le_of_ble_eq_true rfl, Nat.le_of_ble_eq_true rfl⟩) ⟨tcP.blind, va_recv hK hP (ci := 3) (q0 := 5) rfl rfl, tcP.go hK hP hD hE hS⟩ rfl rfl hl.1 rfl (lv_room (Nat.le_of_ble_eq_true rfl)) dL_law_824 ⟨by show _ ≤ 601024; omega, by show _ ≤ 7293034; omega⟩) hS (fun q _ h => h) (fun q h => h) (fun r u t H locs ht hvm hw hB hz1 hk1 hS => ?_)
    subst hw
    obtain ⟨hP, hD⟩ := hB
    rw [ht] at hP
    refine lv_fstore (lv' := [(7, .float (rdF K Ln Wh Re j (xs (i + 2)))), (6, .int 0), (5, .int (nI i)), (4, .ref o2), (3, .ref o1), (2, .ref m0), (1, .ref h0), (0, .ref b)]) hx hb dL_law_827 hl (by decide) rfl (fun ls hl => ?_)
    refine lv_aload_n hx hb dL_law_829 rfl (lv_at hl 5 rfl) ?_
    refine vp_callSi (tc_CR (va_runV (As := []) (rest := []) ⟨hx, hb, hml, hown, hts⟩ (tX3_thrown l D A cI cJ cD cC (h0, .inr (2, [.ref h1, .ref h2, .ref h3, .int (nI n), .int (cdR K Ln j (xs (i + 2)) (K j) 7)])) (h1, .inl (cC, 60, .inr (.inr (.inr (.inr (fun t8 => if t8 < n then some (ad t8) else none)))))) (h2, .inl (cI, 6, .inl (noteC ct (cdR K Ln j (xs (i + 2)) (K j) 7)))) (h3, .inr (1, [.ref h4])) (h4, .inl (cD, 10, .inr (.inr (.inr (.inl (fun t8 => tf_N (1023 + 2 ^ t8) 0)))))) ((o1, .inl (cJ, 1, .inr (.inl ov))) :: (o2, .inl (cD, 1, .inr (.inr (.inr (.inl (vf_upd od 0 (FP.f2d (rdF K Ln Wh Re j (xs (i + 2)))))))))) :: tc_fl (tc_col cJ cD ad wd rd K Ln Wh Re) n) m0 m1 m2 m3 m4 m5 0 n K Ln Wh Re (cdR K Ln j (xs (i + 2)) (K j) 7) (noteC ct (cdR K Ln j (xs (i + 2)) (K j) 7)) H.size) (cwV 0 hts gL_law_X3_thrown rfl rfl rfl (by decide +kernel) ⟨Nat.le_of_ble_eq_true rfl, Nat.le_of_ble_eq_true rfl⟩) ⟨tcP.blind, va_recv hK hP (ci := 3) (q0 := 5) rfl rfl, tcP.go hK hP hD hE hS⟩ rfl rfl hl.1 rfl (lv_room (Nat.le_of_ble_eq_true rfl)) dL_law_830 ⟨by show _ ≤ 601024; omega, by show _ ≤ 7293034; omega⟩)) (fun r9 h9 => ?_)
    subst h9
    refine lv_iload hx hb dL_law_833 (lv_at hl 1 rfl) ?_
    refine lv_icmp_eq (tgt := 840) hx hb dL_law_835 (by decide) (fun _ => ?_) (fun q => absurd (by decide) q)
    refine lv_iload hx hb dL_law_840 (lv_at hl 1 rfl) ?_
    refine lv_if_ne (tgt := 878) hx hb dL_law_842 (by decide) (fun q => absurd (by decide) q) (fun _ => ?_)
    refine lv_aload hx hb dL_law_845 (lv_at hl 3 rfl) ?_
    refine lv_iconst (v := 0) hx hb dL_law_847 (by decide) ?_
    refine tc_dald (f := (vf_upd od 0 (FP.f2d (rdF K Ln Wh Re j (xs (i + 2)))))) (v := (FP.f2d (rdF K Ln Wh Re j (xs (i + 2))))) hx hb hK hP 12 2 rfl rfl (by unfold vp_in; decide) (show (vf_upd od 0 (FP.f2d (rdF K Ln Wh Re j (xs (i + 2))))) 0 = (FP.f2d (rdF K Ln Wh Re j (xs (i + 2)))) from if_pos rfl) dL_law_848 ?_
    refine lv_fload hx hb dL_law_849 (lv_at hl 0 rfl) ?_
    refine lv_f2d hx hb dL_law_851 ((tf_n64 _).mpr (tf_f2d (rdF_nn hI hj _))) ?_
    refine lv_dcmp hx hb dL_law_852 ?_
    refine lv_if_eq (tgt := 878) hx hb dL_law_853 (by decide) (fun _ => ?_) (fun q => absurd ((tf_cl0 _).mpr (tf_dcmp_self _ (tf_f2d (rdF_nn hI hj _)))) q)
    refine lv_goto (tgt := 2390) hx hb dL_law_878 (by decide) ?_
    refine W.widen (k := ce + 3) (n := sl + 44) (by omega) (by omega) ?_
    exact kc _ _ _ _ ⟨ad, wd, rd, n, K, Ln, Wh, Re, (cdR K Ln j (xs (i + 2)) (K j) 7), (noteC ct (cdR K Ln j (xs (i + 2)) (K j) 7)), 0, ov, (vf_upd od 0 (FP.f2d (rdF K Ln Wh Re j (xs (i + 2))))), hdd, hI, hP, hD, hS, lv_sub hl [2, 3, 4, 5, 6, 7] rfl⟩
  · refine lv_aload_n hx hb dL_law_791 rfl (lv_at hl 4 rfl) ?_
    refine lv_aload_n hx hb dL_law_792 rfl (lv_at hl 5 rfl) ?_
    refine lv_iload hx hb dL_law_793 (lv_at hl 0 rfl) ?_
    refine lv_iconst (v := 1) hx hb dL_law_795 (by decide) ?_
    refine lv_iadd hx hb dL_law_796 ?_
    refine tc_sld hx hb hX hbl hbA hS hL 1 rfl (by omega) (v := (xs (i + 1))) rfl dL_law_797 ?_
    refine lv_aload_n hx hb dL_law_798 rfl (lv_at hl 5 rfl) ?_
    refine lv_iload hx hb dL_law_799 (lv_at hl 0 rfl) ?_
    refine lv_iconst (v := 2) hx hb dL_law_801 (by decide) ?_
    refine lv_iadd hx hb dL_law_802 ?_
    refine tc_sld hx hb hX hbl hbA hS hL 2 rfl (by omega) (v := (xs (i + 2))) rfl dL_law_803 ?_
    refine lv_aload hx hb dL_law_804 (lv_at hl 1 rfl) ?_
    refine va_calli (tc_noX (vx_runSX (As := [.ref h0, .int (xs (i + 1)), .int (xs (i + 2)), .ref o2]) (rest := []) ⟨hx, hb, hml, hown, hts⟩ (lLn_readFloat l hfl D A cI cJ cD cC h0 h1 h2 h3 h4 ad wd rd (m0, .inr (3, [.int th, .int (nI n), .ref m1, .ref m2, .ref m3, .ref m4, .int cd, .ref m5])) (m1, .inl (cI, 60, .inl K)) (m2, .inl (cI, 60, .inl (fun t8 => nI (Ln t8)))) (m3, .inl (cJ, 2400, .inr (.inl Wh))) (m4, .inl (cD, 2400, .inr (.inr (.inr (.inl Re))))) (m5, .inl (cI, 6, .inl ct)) o1 o2 ov od n K Ln Wh Re cd ct H.size hn60 (xs (i + 1)) hc (xs (i + 2))) (vx_cwSW 4 hts gL_law_L_readFloat rfl rfl rfl (by decide +kernel) ⟨Nat.le_of_ble_eq_true rfl, Nat.le_of_ble_eq_true rfl⟩) ⟨tcPL.blind, tcPL.go hK hP hD hE hNc hS⟩ rfl rfl hl.1 rfl (lv_room (Nat.le_of_ble_eq_true rfl)) dL_law_806 ⟨by show _ ≤ 601024; omega, by show _ ≤ 7293034; omega⟩)) hS (fun q _ h => h) (fun q h => h) (fun r uL t H locs ht hvm hw hB hz1 hk1 hS => ?_)
    subst hw
    obtain ⟨hP, hD⟩ := hB
    rw [ht] at hP
    have hP : va_P D vwCl (tc_Z cI cJ cD (h0, .inr (2, [.ref h1, .ref h2, .ref h3, .int (nI n), .int cd])) (h1, .inl (cC, 60, .inr (.inr (.inr (.inr (fun t8 => if t8 < n then some (ad t8) else none)))))) (h2, .inl (cI, 6, .inl ct)) (h3, .inr (1, [.ref h4])) (h4, .inl (cD, 10, .inr (.inr (.inr (.inl (fun t8 => tf_N (1023 + 2 ^ t8) 0)))))) ((o1, .inl (cJ, 1, .inr (.inl ov))) :: (o2, .inl (cD, 1, .inr (.inr (.inr (.inl od))))) :: tc_fl (tc_col cJ cD ad wd rd K Ln Wh Re) n) m0 m1 m2 m3 m4 m5 th n K Ln Wh Re cd ct) H := hP
    have hD : va_D A (tc_Z cI cJ cD (h0, .inr (2, [.ref h1, .ref h2, .ref h3, .int (nI n), .int cd])) (h1, .inl (cC, 60, .inr (.inr (.inr (.inr (fun t8 => if t8 < n then some (ad t8) else none)))))) (h2, .inl (cI, 6, .inl ct)) (h3, .inr (1, [.ref h4])) (h4, .inl (cD, 10, .inr (.inr (.inr (.inl (fun t8 => tf_N (1023 + 2 ^ t8) 0)))))) ((o1, .inl (cJ, 1, .inr (.inl ov))) :: (o2, .inl (cD, 1, .inr (.inr (.inr (.inl od))))) :: tc_fl (tc_col cJ cD ad wd rd K Ln Wh Re) n) m0 m1 m2 m3 m4 m5 th n K Ln Wh Re cd ct) := hD
    refine lv_istore (lv' := [(6, .int 1), (5, .int (nI i)), (4, .ref o2), (3, .ref o1), (2, .ref m0), (1, .ref h0), (0, .ref b)]) hx hb dL_law_809 hl (by decide) rfl (fun ls hl => ?_)
    refine lv_aload_n hx hb dL_law_811 rfl (lv_at hl 4 rfl) ?_
    refine lv_aload_n hx hb dL_law_812 rfl (lv_at hl 6 rfl) ?_
    refine lv_iload hx hb dL_law_813 (lv_at hl 1 rfl) ?_
    refine lv_iconst (v := 1) hx hb dL_law_815 (by decide) ?_
    refine lv_iadd hx hb dL_law_816 ?_
    refine tc_sld hx hb hX hbl hbA hS hL 1 rfl (by omega) (v := (xs (i + 1))) rfl dL_law_817 ?_
    refine lv_aload_n hx hb dL_law_818 rfl (lv_at hl 6 rfl) ?_
    refine lv_iload hx hb dL_law_819 (lv_at hl 1 rfl) ?_
    refine lv_iconst (v := 2) hx hb dL_law_821 (by decide) ?_
    refine lv_iadd hx hb dL_law_822 ?_
    refine tc_sld hx hb hX hbl hbA hS hL 2 rfl (by omega) (v := (xs (i + 2))) rfl dL_law_823 ?_
    refine va_callf (va_runV (As := [.int (xs (i + 1)), .int (xs (i + 2))]) (rest := []) ⟨hx, hb, hml, hown, hts⟩ (tX3_readFloat_n l D A cI cJ cD cC (h0, .inr (2, [.ref h1, .ref h2, .ref h3, .int (nI n), .int cd])) (h1, .inl (cC, 60, .inr (.inr (.inr (.inr (fun t8 => if t8 < n then some (ad t8) else none)))))) (h2, .inl (cI, 6, .inl ct)) (h3, .inr (1, [.ref h4])) (h4, .inl (cD, 10, .inr (.inr (.inr (.inl (fun t8 => tf_N (1023 + 2 ^ t8) 0)))))) ((o1, .inl (cJ, 1, .inr (.inl ov))) :: (o2, .inl (cD, 1, .inr (.inr (.inr (.inl od))))) :: tc_fl (tc_col cJ cD ad wd rd K Ln Wh Re) n) m0 m1 m2 m3 m4 m5 th n K Ln Wh Re cd ct H.size hI (xs (i + 1)) hc (xs (i + 2))) (cwV 2 hts gL_law_X3_readFloat rfl rfl rfl (by decide +kernel) ⟨Nat.le_of_ble_eq_true rfl, Nat.le_of_ble_eq_true rfl⟩) ⟨tcP.blind, va_recv hK hP (ci := 3) (q0 := 5) rfl rfl, tcP.go hK hP hD hE hS⟩ rfl rfl hl.1 rfl (lv_room (Nat.le_of_ble_eq_true rfl)) dL_law_824 ⟨by show _ ≤ 601024; omega, by show _ ≤ 7293034; omega⟩) hS (fun q _ h => h) (fun q h => h) (fun r u t H locs ht hvm hw hB hz1 hk1 hS => ?_)
    subst hw
    obtain ⟨hP, hD⟩ := hB
    rw [ht] at hP
    refine lv_fstore (lv' := [(7, .float 0), (6, .int 1), (5, .int (nI i)), (4, .ref o2), (3, .ref o1), (2, .ref m0), (1, .ref h0), (0, .ref b)]) hx hb dL_law_827 hl (by decide) rfl (fun ls hl => ?_)
    refine lv_aload_n hx hb dL_law_829 rfl (lv_at hl 5 rfl) ?_
    refine vp_callSi (tc_CR (va_runV (As := []) (rest := []) ⟨hx, hb, hml, hown, hts⟩ (tX3_thrown l D A cI cJ cD cC (h0, .inr (2, [.ref h1, .ref h2, .ref h3, .int (nI n), .int cd])) (h1, .inl (cC, 60, .inr (.inr (.inr (.inr (fun t8 => if t8 < n then some (ad t8) else none)))))) (h2, .inl (cI, 6, .inl ct)) (h3, .inr (1, [.ref h4])) (h4, .inl (cD, 10, .inr (.inr (.inr (.inl (fun t8 => tf_N (1023 + 2 ^ t8) 0)))))) ((o1, .inl (cJ, 1, .inr (.inl ov))) :: (o2, .inl (cD, 1, .inr (.inr (.inr (.inl od))))) :: tc_fl (tc_col cJ cD ad wd rd K Ln Wh Re) n) m0 m1 m2 m3 m4 m5 1 n K Ln Wh Re cd ct H.size) (cwV 0 hts gL_law_X3_thrown rfl rfl rfl (by decide +kernel) ⟨Nat.le_of_ble_eq_true rfl, Nat.le_of_ble_eq_true rfl⟩) ⟨tcP.blind, va_recv hK hP (ci := 3) (q0 := 5) rfl rfl, tcP.go hK hP hD hE hS⟩ rfl rfl hl.1 rfl (lv_room (Nat.le_of_ble_eq_true rfl)) dL_law_830 ⟨by show _ ≤ 601024; omega, by show _ ≤ 7293034; omega⟩)) (fun r9 h9 => ?_)
    subst h9
    refine lv_iload hx hb dL_law_833 (lv_at hl 1 rfl) ?_
    refine lv_icmp_eq (tgt := 840) hx hb dL_law_835 (by decide) (fun _ => ?_) (fun q => absurd (by decide) q)
    refine lv_iload hx hb dL_law_840 (lv_at hl 1 rfl) ?_
    refine lv_if_ne (tgt := 878) hx hb dL_law_842 (by decide) (fun _ => ?_) (fun q => absurd q (by decide))
    refine lv_goto (tgt := 2390) hx hb dL_law_878 (by decide) ?_
    refine W.widen (k := ce + 3) (n := sl + 44) (by omega) (by omega) ?_
    exact kc _ _ _ _ ⟨ad, wd, rd, n, K, Ln, Wh, Re, cd, ct, 1, ov, od, hdd, hI, hP, hD, hS, lv_sub hl [2, 3, 4, 5, 6, 7] rfl⟩
set_option maxHeartbeats 4000000 in
set_option maxRecDepth 100000 in
theorem law_11 {p : Program} {l : Launch} {e : Env} {s : State} {m : MethodId} {below : List Frame} {meth : Method} {c : Code} {D : va_G} {A : Nat → Prop} {cI cJ cD cC : ClassId} {h0 h1 h2 h3 h4 m0 m1 m2 m3 m4 m5 o1 o2 : Nat} {b L : Nat} {xs : Nat → Int32} {Q : State → Prop} (C0 : LCtx p l D A cI cJ cD cC s m c b L xs) {d : Drawn} {H : Heap} {locs : List Loc} {ls : Array Slot} {i ce sl : Nat} (hi : i + 6 ≤ L) (hce : ce + 3 ≤ 601024) (hsl : sl + 44 ≤ 7293034) (hv : LInv D A cI cJ cD cC h0 h1 h2 h3 h4 m0 m1 m2 m3 m4 m5 o1 o2 s b d H locs i ls) (kc : ∀ (d : Drawn) (H : Heap) (locs : List Loc) (ls : Array Slot), LInv D A cI cJ cD cC h0 h1 h2 h3 h4 m0 m1 m2 m3 m4 m5 o1 o2 s b d H locs i ls → W p l e room_1 (s.setDrawn d) m #[Value.ref b] below meth c H locs (ce + 3) (sl + 44) Q (F0 m 2390 ls [])) : W p l e room_1 (s.setDrawn d) m #[Value.ref b] below meth c H locs ce sl Q (F0 m 881 ls []) := by
  obtain ⟨hx, hb, hml, hown0, htsB, hX0, hbl, hbA, hA, hL, hfl, hK0, hE0, hNc0⟩ := C0
  obtain ⟨ad, wd, rd, n, K, Ln, Wh, Re, cd, ct, th, ov, od, hdd, hI, hP, hD, hS, hl⟩ := hv
  have hn60 : n ≤ 60 := hI.1
  have hts := dr_words htsB d
  have hK : va_K D vwCl (tcTY cI cJ cD cC) (s.setDrawn d) := hK0
  have hE : tc_E A (s.setDrawn d) := hE0
  have hNc : tc_Nc (s.setDrawn d) := hNc0
  have hown : (s.setDrawn d).vm.findClass RL = some m.cls := hown0
  have hX : va_X b L xs (s.setDrawn d) s.heap := hX0
  rcases Classical.em (∃ j, j < n ∧ xs (i + 1) = nI j) with ⟨j, hj, ej⟩ | hc
  · refine lv_aload_n hx hb dL_law_881 rfl (lv_at hl 4 rfl) ?_
    refine lv_aload_n hx hb dL_law_882 rfl (lv_at hl 5 rfl) ?_
    refine lv_iload hx hb dL_law_883 (lv_at hl 0 rfl) ?_
    refine lv_iconst (v := 1) hx hb dL_law_885 (by decide) ?_
    refine lv_iadd hx hb dL_law_886 ?_
    refine tc_sld hx hb hX hbl hbA hS hL 1 rfl (by omega) (v := (nI j)) ej dL_law_887 ?_
    refine lv_aload_n hx hb dL_law_888 rfl (lv_at hl 5 rfl) ?_
    refine lv_iload hx hb dL_law_889 (lv_at hl 0 rfl) ?_
    refine lv_iconst (v := 2) hx hb dL_law_891 (by decide) ?_
    refine lv_iadd hx hb dL_law_892 ?_
    refine tc_sld hx hb hX hbl hbA hS hL 2 rfl (by omega) (v := (xs (i + 2))) rfl dL_law_893 ?_
    refine lv_aload hx hb dL_law_894 (lv_at hl 1 rfl) ?_
    refine va_calli (tc_noX (vx_runSX (As := [.ref h0, .int (nI j), .int (xs (i + 2)), .ref o2]) (rest := []) ⟨hx, hb, hml, hown, hts⟩ (lL_readDouble l hfl D A cI cJ cD cC h0 h1 h2 h3 h4 ad wd rd (m0, .inr (3, [.int th, .int (nI n), .ref m1, .ref m2, .ref m3, .ref m4, .int cd, .ref m5])) (m1, .inl (cI, 60, .inl K)) (m2, .inl (cI, 60, .inl (fun t8 => nI (Ln t8)))) (m3, .inl (cJ, 2400, .inr (.inl Wh))) (m4, .inl (cD, 2400, .inr (.inr (.inr (.inl Re))))) (m5, .inl (cI, 6, .inl ct)) o1 o2 ov od n K Ln Wh Re cd ct H.size hI j hj (xs (i + 2))) (vx_cwSW 4 hts gL_law_L_readDouble rfl rfl rfl (by decide +kernel) ⟨Nat.le_of_ble_eq_true rfl, Nat.le_of_ble_eq_true rfl⟩) ⟨tcPL.blind, tcPL.go hK hP hD hE hNc hS⟩ rfl rfl hl.1 rfl (lv_room (Nat.le_of_ble_eq_true rfl)) dL_law_896 ⟨by show _ ≤ 601024; omega, by show _ ≤ 7293034; omega⟩)) hS (fun q _ h => h) (fun q h => h) (fun r uL t H locs ht hvm hw hB hz1 hk1 hS => ?_)
    subst hw
    obtain ⟨hP, hD⟩ := hB
    rw [ht] at hP
    have hP : va_P D vwCl (tc_Z cI cJ cD (h0, .inr (2, [.ref h1, .ref h2, .ref h3, .int (nI n), .int (cdR K Ln j (xs (i + 2)) (K j) 8)])) (h1, .inl (cC, 60, .inr (.inr (.inr (.inr (fun t8 => if t8 < n then some (ad t8) else none)))))) (h2, .inl (cI, 6, .inl (noteC ct (cdR K Ln j (xs (i + 2)) (K j) 8)))) (h3, .inr (1, [.ref h4])) (h4, .inl (cD, 10, .inr (.inr (.inr (.inl (fun t8 => tf_N (1023 + 2 ^ t8) 0)))))) ((o1, .inl (cJ, 1, .inr (.inl ov))) :: (o2, .inl (cD, 1, .inr (.inr (.inr (.inl (vf_upd od 0 (rdR K Ln Wh Re j (xs (i + 2)) 8))))))) :: tc_fl (tc_col cJ cD ad wd rd K Ln Wh Re) n) m0 m1 m2 m3 m4 m5 th n K Ln Wh Re cd ct) H := hP
    have hD : va_D A (tc_Z cI cJ cD (h0, .inr (2, [.ref h1, .ref h2, .ref h3, .int (nI n), .int (cdR K Ln j (xs (i + 2)) (K j) 8)])) (h1, .inl (cC, 60, .inr (.inr (.inr (.inr (fun t8 => if t8 < n then some (ad t8) else none)))))) (h2, .inl (cI, 6, .inl (noteC ct (cdR K Ln j (xs (i + 2)) (K j) 8)))) (h3, .inr (1, [.ref h4])) (h4, .inl (cD, 10, .inr (.inr (.inr (.inl (fun t8 => tf_N (1023 + 2 ^ t8) 0)))))) ((o1, .inl (cJ, 1, .inr (.inl ov))) :: (o2, .inl (cD, 1, .inr (.inr (.inr (.inl (vf_upd od 0 (rdR K Ln Wh Re j (xs (i + 2)) 8))))))) :: tc_fl (tc_col cJ cD ad wd rd K Ln Wh Re) n) m0 m1 m2 m3 m4 m5 th n K Ln Wh Re cd ct) := hD
    refine lv_istore (lv' := [(6, .int 0), (5, .int (nI i)), (4, .ref o2), (3, .ref o1), (2, .ref m0), (1, .ref h0), (0, .ref b)]) hx hb dL_law_899 hl (by decide) rfl (fun ls hl => ?_)
    refine lv_aload_n hx hb dL_law_901 rfl (lv_at hl 4 rfl) ?_
    refine lv_aload_n hx hb dL_law_902 rfl (lv_at hl 6 rfl) ?_
    refine lv_iload hx hb dL_law_903 (lv_at hl 1 rfl) ?_
    refine lv_iconst (v := 1) hx hb dL_law_905 (by decide) ?_
    refine lv_iadd hx hb dL_law_906 ?_
    refine tc_sld hx hb hX hbl hbA hS hL 1 rfl (by omega) (v := (nI j)) ej dL_law_907 ?_
    refine lv_aload_n hx hb dL_law_908 rfl (lv_at hl 6 rfl) ?_
    refine lv_iload hx hb dL_law_909 (lv_at hl 1 rfl) ?_
    refine lv_iconst (v := 2) hx hb dL_law_911 (by decide) ?_
    refine lv_iadd hx hb dL_law_912 ?_
    refine tc_sld hx hb hX hbl hbA hS hL 2 rfl (by omega) (v := (xs (i + 2))) rfl dL_law_913 ?_
    refine va_calld (va_runV (As := [.int (nI j), .int (xs (i + 2))]) (rest := []) ⟨hx, hb, hml, hown, hts⟩ (tX3_readDouble_y l D A cI cJ cD cC (h0, .inr (2, [.ref h1, .ref h2, .ref h3, .int (nI n), .int (cdR K Ln j (xs (i + 2)) (K j) 8)])) (h1, .inl (cC, 60, .inr (.inr (.inr (.inr (fun t8 => if t8 < n then some (ad t8) else none)))))) (h2, .inl (cI, 6, .inl (noteC ct (cdR K Ln j (xs (i + 2)) (K j) 8)))) (h3, .inr (1, [.ref h4])) (h4, .inl (cD, 10, .inr (.inr (.inr (.inl (fun t8 => tf_N (1023 + 2 ^ t8) 0)))))) ((o1, .inl (cJ, 1, .inr (.inl ov))) :: (o2, .inl (cD, 1, .inr (.inr (.inr (.inl (vf_upd od 0 (rdR K Ln Wh Re j (xs (i + 2)) 8))))))) :: tc_fl (tc_col cJ cD ad wd rd K Ln Wh Re) n) m0 m1 m2 m3 m4 m5 th n K Ln Wh Re cd ct H.size hI j hj (xs (i + 2))) (cwV 2 hts gL_law_X3_readDouble rfl rfl rfl (by decide +kernel) ⟨Nat.le_of_ble_eq_true rfl, Nat.le_of_ble_eq_true rfl⟩) ⟨tcP.blind, va_recv hK hP (ci := 3) (q0 := 5) rfl rfl, tcP.go hK hP hD hE hS⟩ rfl rfl hl.1 rfl (lv_room (Nat.le_of_ble_eq_true rfl)) dL_law_914 ⟨by show _ ≤ 601024; omega, by show _ ≤ 7293034; omega⟩) hS (fun q _ h => h) (fun q h => h) (fun r u t H locs ht hvm hw hB hz1 hk1 hS => ?_)
    subst hw
    obtain ⟨hP, hD⟩ := hB
    rw [ht] at hP
    refine lv_dstore (lv' := [(7, .double (rdR K Ln Wh Re j (xs (i + 2)) 8)), (6, .int 0), (5, .int (nI i)), (4, .ref o2), (3, .ref o1), (2, .ref m0), (1, .ref h0), (0, .ref b)]) hx hb dL_law_917 hl (by decide) rfl (fun ls hl => ?_)
    refine lv_aload_n hx hb dL_law_919 rfl (lv_at hl 5 rfl) ?_
    refine vp_callSi (tc_CR (va_runV (As := []) (rest := []) ⟨hx, hb, hml, hown, hts⟩ (tX3_thrown l D A cI cJ cD cC (h0, .inr (2, [.ref h1, .ref h2, .ref h3, .int (nI n), .int (cdR K Ln j (xs (i + 2)) (K j) 8)])) (h1, .inl (cC, 60, .inr (.inr (.inr (.inr (fun t8 => if t8 < n then some (ad t8) else none)))))) (h2, .inl (cI, 6, .inl (noteC ct (cdR K Ln j (xs (i + 2)) (K j) 8)))) (h3, .inr (1, [.ref h4])) (h4, .inl (cD, 10, .inr (.inr (.inr (.inl (fun t8 => tf_N (1023 + 2 ^ t8) 0)))))) ((o1, .inl (cJ, 1, .inr (.inl ov))) :: (o2, .inl (cD, 1, .inr (.inr (.inr (.inl (vf_upd od 0 (rdR K Ln Wh Re j (xs (i + 2)) 8))))))) :: tc_fl (tc_col cJ cD ad wd rd K Ln Wh Re) n) m0 m1 m2 m3 m4 m5 0 n K Ln Wh Re (cdR K Ln j (xs (i + 2)) (K j) 8) (noteC ct (cdR K Ln j (xs (i + 2)) (K j) 8)) H.size) (cwV 0 hts gL_law_X3_thrown rfl rfl rfl (by decide +kernel) ⟨Nat.le_of_ble_eq_true rfl, Nat.le_of_ble_eq_true rfl⟩) ⟨tcP.blind, va_recv hK hP (ci := 3) (q0 := 5) rfl rfl, tcP.go hK hP hD hE hS⟩ rfl rfl hl.1 rfl (lv_room (Nat.le_of_ble_eq_true rfl)) dL_law_920 ⟨by show _ ≤ 601024; omega, by show _ ≤ 7293034; omega⟩)) (fun r9 h9 => ?_)
    subst h9
    refine lv_iload hx hb dL_law_923 (lv_at hl 1 rfl) ?_
    refine lv_icmp_eq (tgt := 930) hx hb dL_law_925 (by decide) (fun _ => ?_) (fun q => absurd (by decide) q)
    refine lv_iload hx hb dL_law_930 (lv_at hl 1 rfl) ?_
    refine lv_if_ne (tgt := 967) hx hb dL_law_932 (by decide) (fun q => absurd (by decide) q) (fun _ => ?_)
    refine lv_aload hx hb dL_law_935 (lv_at hl 3 rfl) ?_
    refine lv_iconst (v := 0) hx hb dL_law_937 (by decide) ?_
    refine tc_dald (f := (vf_upd od 0 (rdR K Ln Wh Re j (xs (i + 2)) 8))) (v := (rdR K Ln Wh Re j (xs (i + 2)) 8)) hx hb hK hP 12 2 rfl rfl (by unfold vp_in; decide) (show (vf_upd od 0 (rdR K Ln Wh Re j (xs (i + 2)) 8)) 0 = (rdR K Ln Wh Re j (xs (i + 2)) 8) from if_pos rfl) dL_law_938 ?_
    refine lv_dload hx hb dL_law_939 (lv_at hl 0 rfl) ?_
    refine lv_dcmp hx hb dL_law_941 ?_
    refine lv_if_eq (tgt := 967) hx hb dL_law_942 (by decide) (fun _ => ?_) (fun q => absurd ((tf_cl0 _).mpr (tf_dcmp_self _ (rdR_nn hI hj _ _))) q)
    refine lv_goto (tgt := 2390) hx hb dL_law_967 (by decide) ?_
    refine W.widen (k := ce + 3) (n := sl + 44) (by omega) (by omega) ?_
    exact kc _ _ _ _ ⟨ad, wd, rd, n, K, Ln, Wh, Re, (cdR K Ln j (xs (i + 2)) (K j) 8), (noteC ct (cdR K Ln j (xs (i + 2)) (K j) 8)), 0, ov, (vf_upd od 0 (rdR K Ln Wh Re j (xs (i + 2)) 8)), hdd, hI, hP, hD, hS, lv_sub hl [2, 3, 4, 5, 6, 7] rfl⟩
  · refine lv_aload_n hx hb dL_law_881 rfl (lv_at hl 4 rfl) ?_
    refine lv_aload_n hx hb dL_law_882 rfl (lv_at hl 5 rfl) ?_
    refine lv_iload hx hb dL_law_883 (lv_at hl 0 rfl) ?_
    refine lv_iconst (v := 1) hx hb dL_law_885 (by decide) ?_
    refine lv_iadd hx hb dL_law_886 ?_
    refine tc_sld hx hb hX hbl hbA hS hL 1 rfl (by omega) (v := (xs (i + 1))) rfl dL_law_887 ?_
    refine lv_aload_n hx hb dL_law_888 rfl (lv_at hl 5 rfl) ?_
    refine lv_iload hx hb dL_law_889 (lv_at hl 0 rfl) ?_
    refine lv_iconst (v := 2) hx hb dL_law_891 (by decide) ?_
    refine lv_iadd hx hb dL_law_892 ?_
    refine tc_sld hx hb hX hbl hbA hS hL 2 rfl (by omega) (v := (xs (i + 2))) rfl dL_law_893 ?_
    refine lv_aload hx hb dL_law_894 (lv_at hl 1 rfl) ?_
    refine va_calli (tc_noX (vx_runSX (As := [.ref h0, .int (xs (i + 1)), .int (xs (i + 2)), .ref o2]) (rest := []) ⟨hx, hb, hml, hown, hts⟩ (lLn_readDouble l hfl D A cI cJ cD cC h0 h1 h2 h3 h4 ad wd rd (m0, .inr (3, [.int th, .int (nI n), .ref m1, .ref m2, .ref m3, .ref m4, .int cd, .ref m5])) (m1, .inl (cI, 60, .inl K)) (m2, .inl (cI, 60, .inl (fun t8 => nI (Ln t8)))) (m3, .inl (cJ, 2400, .inr (.inl Wh))) (m4, .inl (cD, 2400, .inr (.inr (.inr (.inl Re))))) (m5, .inl (cI, 6, .inl ct)) o1 o2 ov od n K Ln Wh Re cd ct H.size hn60 (xs (i + 1)) hc (xs (i + 2))) (vx_cwSW 4 hts gL_law_L_readDouble rfl rfl rfl (by decide +kernel) ⟨Nat.le_of_ble_eq_true rfl, Nat.le_of_ble_eq_true rfl⟩) ⟨tcPL.blind, tcPL.go hK hP hD hE hNc hS⟩ rfl rfl hl.1 rfl (lv_room (Nat.le_of_ble_eq_true rfl)) dL_law_896 ⟨by show _ ≤ 601024; omega, by show _ ≤ 7293034; omega⟩)) hS (fun q _ h => h) (fun q h => h) (fun r uL t H locs ht hvm hw hB hz1 hk1 hS => ?_)
    subst hw
    obtain ⟨hP, hD⟩ := hB
    rw [ht] at hP
    have hP : va_P D vwCl (tc_Z cI cJ cD (h0, .inr (2, [.ref h1, .ref h2, .ref h3, .int (nI n), .int cd])) (h1, .inl (cC, 60, .inr (.inr (.inr (.inr (fun t8 => if t8 < n then some (ad t8) else none)))))) (h2, .inl (cI, 6, .inl ct)) (h3, .inr (1, [.ref h4])) (h4, .inl (cD, 10, .inr (.inr (.inr (.inl (fun t8 => tf_N (1023 + 2 ^ t8) 0)))))) ((o1, .inl (cJ, 1, .inr (.inl ov))) :: (o2, .inl (cD, 1, .inr (.inr (.inr (.inl od))))) :: tc_fl (tc_col cJ cD ad wd rd K Ln Wh Re) n) m0 m1 m2 m3 m4 m5 th n K Ln Wh Re cd ct) H := hP
    have hD : va_D A (tc_Z cI cJ cD (h0, .inr (2, [.ref h1, .ref h2, .ref h3, .int (nI n), .int cd])) (h1, .inl (cC, 60, .inr (.inr (.inr (.inr (fun t8 => if t8 < n then some (ad t8) else none)))))) (h2, .inl (cI, 6, .inl ct)) (h3, .inr (1, [.ref h4])) (h4, .inl (cD, 10, .inr (.inr (.inr (.inl (fun t8 => tf_N (1023 + 2 ^ t8) 0)))))) ((o1, .inl (cJ, 1, .inr (.inl ov))) :: (o2, .inl (cD, 1, .inr (.inr (.inr (.inl od))))) :: tc_fl (tc_col cJ cD ad wd rd K Ln Wh Re) n) m0 m1 m2 m3 m4 m5 th n K Ln Wh Re cd ct) := hD
    refine lv_istore (lv' := [(6, .int 1), (5, .int (nI i)), (4, .ref o2), (3, .ref o1), (2, .ref m0), (1, .ref h0), (0, .ref b)]) hx hb dL_law_899 hl (by decide) rfl (fun ls hl => ?_)
    refine lv_aload_n hx hb dL_law_901 rfl (lv_at hl 4 rfl) ?_
    refine lv_aload_n hx hb dL_law_902 rfl (lv_at hl 6 rfl) ?_
    refine lv_iload hx hb dL_law_903 (lv_at hl 1 rfl) ?_
    refine lv_iconst (v := 1) hx hb dL_law_905 (by decide) ?_
    refine lv_iadd hx hb dL_law_906 ?_
    refine tc_sld hx hb hX hbl hbA hS hL 1 rfl (by omega) (v := (xs (i + 1))) rfl dL_law_907 ?_
    refine lv_aload_n hx hb dL_law_908 rfl (lv_at hl 6 rfl) ?_
    refine lv_iload hx hb dL_law_909 (lv_at hl 1 rfl) ?_
    refine lv_iconst (v := 2) hx hb dL_law_911 (by decide) ?_
    refine lv_iadd hx hb dL_law_912 ?_
    refine tc_sld hx hb hX hbl hbA hS hL 2 rfl (by omega) (v := (xs (i + 2))) rfl dL_law_913 ?_
    refine va_calld (va_runV (As := [.int (xs (i + 1)), .int (xs (i + 2))]) (rest := []) ⟨hx, hb, hml, hown, hts⟩ (tX3_readDouble_n l D A cI cJ cD cC (h0, .inr (2, [.ref h1, .ref h2, .ref h3, .int (nI n), .int cd])) (h1, .inl (cC, 60, .inr (.inr (.inr (.inr (fun t8 => if t8 < n then some (ad t8) else none)))))) (h2, .inl (cI, 6, .inl ct)) (h3, .inr (1, [.ref h4])) (h4, .inl (cD, 10, .inr (.inr (.inr (.inl (fun t8 => tf_N (1023 + 2 ^ t8) 0)))))) ((o1, .inl (cJ, 1, .inr (.inl ov))) :: (o2, .inl (cD, 1, .inr (.inr (.inr (.inl od))))) :: tc_fl (tc_col cJ cD ad wd rd K Ln Wh Re) n) m0 m1 m2 m3 m4 m5 th n K Ln Wh Re cd ct H.size hI (xs (i + 1)) hc (xs (i + 2))) (cwV 2 hts gL_law_X3_readDouble rfl rfl rfl (by decide +kernel) ⟨Nat.le_of_ble_eq_true rfl, Nat.le_of_ble_eq_true rfl⟩) ⟨tcP.blind, va_recv hK hP (ci := 3) (q0 := 5) rfl rfl, tcP.go hK hP hD hE hS⟩ rfl rfl hl.1 rfl (lv_room (Nat.le_of_ble_eq_true rfl)) dL_law_914 ⟨by show _ ≤ 601024; omega, by show _ ≤ 7293034; omega⟩) hS (fun q _ h => h) (fun q h => h) (fun r u t H locs ht hvm hw hB hz1 hk1 hS => ?_)
    subst hw
    obtain ⟨hP, hD⟩ := hB
    rw [ht] at hP
    refine lv_dstore (lv' := [(7, .double 0), (6, .int 1), (5, .int (nI i)), (4, .ref o2), (3, .ref o1), (2, .ref m0), (1, .ref h0), (0, .ref b)]) hx hb dL_law_917 hl (by decide) rfl (fun ls hl => ?_)
    refine lv_aload_n hx hb dL_law_919 rfl (lv_at hl 5 rfl) ?_
    refine vp_callSi (tc_CR (va_runV (As := []) (rest := []) ⟨hx, hb, hml, hown, hts⟩ (tX3_thrown l D A cI cJ cD cC (h0, .inr (2, [.ref h1, .ref h2, .ref h3, .int (nI n), .int cd])) (h1, .inl (cC, 60, .inr (.inr (.inr (.inr (fun t8 => if t8 < n then some (ad t8) else none)))))) (h2, .inl (cI, 6, .inl ct)) (h3, .inr (1, [.ref h4])) (h4, .inl (cD, 10, .inr (.inr (.inr (.inl (fun t8 => tf_N (1023 + 2 ^ t8) 0)))))) ((o1, .inl (cJ, 1, .inr (.inl ov))) :: (o2, .inl (cD, 1, .inr (.inr (.inr (.inl od))))) :: tc_fl (tc_col cJ cD ad wd rd K Ln Wh Re) n) m0 m1 m2 m3 m4 m5 1 n K Ln Wh Re cd ct H.size) (cwV 0 hts gL_law_X3_thrown rfl rfl rfl (by decide +kernel) ⟨Nat.le_of_ble_eq_true rfl, Nat.le_of_ble_eq_true rfl⟩) ⟨tcP.blind, va_recv hK hP (ci := 3) (q0 := 5) rfl rfl, tcP.go hK hP hD hE hS⟩ rfl rfl hl.1 rfl (lv_room (Nat.le_of_ble_eq_true rfl)) dL_law_920 ⟨by show _ ≤ 601024; omega, by show _ ≤ 7293034; omega⟩)) (fun r9 h9 => ?_)
    subst h9
    refine lv_iload hx hb dL_law_923 (lv_at hl 1 rfl) ?_
    refine lv_icmp_eq (tgt := 930) hx hb dL_law_925 (by decide) (fun _ => ?_) (fun q => absurd (by decide) q)
    refine lv_iload hx hb dL_law_930 (lv_at hl 1 rfl) ?_
    refine lv_if_ne (tgt := 967) hx hb dL_law_932 (by decide) (fun _ => ?_) (fun q => absurd q (by decide))
    refine lv_goto (tgt := 2390) hx hb dL_law_967 (by decide) ?_
    refine W.widen (k := ce + 3) (n := sl + 44) (by omega) (by omega) ?_
    exact kc _ _ _ _ ⟨ad, wd, rd, n, K, Ln, Wh, Re, cd, ct, 1, ov, od, hdd, hI, hP, hD, hS, lv_sub hl [2, 3, 4, 5, 6, 7] rfl⟩
set_option maxHeartbeats 4000000 in
set_option maxRecDepth 100000 in
theorem law_12 {p : Program} {l : Launch} {e : Env} {s : State} {m : MethodId} {below : List Frame} {meth : Method} {c : Code} {D : va_G} {A : Nat → Prop} {cI cJ cD cC : ClassId} {h0 h1 h2 h3 h4 m0 m1 m2 m3 m4 m5 o1 o2 : Nat} {b L : Nat} {xs : Nat → Int32} {Q : State → Prop} (C0 : LCtx p l D A cI cJ cD cC s m c b L xs) {d : Drawn} {H : Heap} {locs : List Loc} {ls : Array Slot} {i ce sl : Nat} (hi : i + 6 ≤ L) (hce : ce + 3 ≤ 601024) (hsl : sl + 44 ≤ 7293034) (hv : LInv D A cI cJ cD cC h0 h1 h2 h3 h4 m0 m1 m2 m3 m4 m5 o1 o2 s b d H locs i ls) (kc : ∀ (d : Drawn) (H : Heap) (locs : List Loc) (ls : Array Slot), LInv D A cI cJ cD cC h0 h1 h2 h3 h4 m0 m1 m2 m3 m4 m5 o1 o2 s b d H locs i ls → W p l e room_1 (s.setDrawn d) m #[Value.ref b] below meth c H locs (ce + 3) (sl + 44) Q (F0 m 2390 ls [])) : W p l e room_1 (s.setDrawn d) m #[Value.ref b] below meth c H locs ce sl Q (F0 m 970 ls []) := by
  obtain ⟨hx, hb, hml, hown0, htsB, hX0, hbl, hbA, hA, hL, hfl, hK0, hE0, hNc0⟩ := C0
  obtain ⟨ad, wd, rd, n, K, Ln, Wh, Re, cd, ct, th, ov, od, hdd, hI, hP, hD, hS, hl⟩ := hv
  have hn60 : n ≤ 60 := hI.1
  have hts := dr_words htsB d
  have hK : va_K D vwCl (tcTY cI cJ cD cC) (s.setDrawn d) := hK0
  have hE : tc_E A (s.setDrawn d) := hE0
  have hNc : tc_Nc (s.setDrawn d) := hNc0
  have hown : (s.setDrawn d).vm.findClass RL = some m.cls := hown0
  have hX : va_X b L xs (s.setDrawn d) s.heap := hX0
  rcases Classical.em (∃ j, j < n ∧ xs (i + 1) = nI j) with ⟨j, hj, ej⟩ | hc
  · refine lv_aload_n hx hb dL_law_970 rfl (lv_at hl 4 rfl) ?_
    refine lv_aload_n hx hb dL_law_971 rfl (lv_at hl 5 rfl) ?_
    refine lv_iload hx hb dL_law_972 (lv_at hl 0 rfl) ?_
    refine lv_iconst (v := 1) hx hb dL_law_974 (by decide) ?_
    refine lv_iadd hx hb dL_law_975 ?_
    refine tc_sld hx hb hX hbl hbA hS hL 1 rfl (by omega) (v := (nI j)) ej dL_law_976 ?_
    refine lv_aload_n hx hb dL_law_977 rfl (lv_at hl 5 rfl) ?_
    refine lv_iload hx hb dL_law_978 (lv_at hl 0 rfl) ?_
    refine lv_iconst (v := 2) hx hb dL_law_980 (by decide) ?_
    refine lv_iadd hx hb dL_law_981 ?_
    refine tc_sld hx hb hX hbl hbA hS hL 2 rfl (by omega) (v := (xs (i + 2))) rfl dL_law_982 ?_
    refine lv_aload hx hb dL_law_983 (lv_at hl 1 rfl) ?_
    refine va_calli (tc_noX (vx_runSX (As := [.ref h0, .int (nI j), .int (xs (i + 2)), .ref o2]) (rest := []) ⟨hx, hb, hml, hown, hts⟩ (lL_readAny l hfl D A cI cJ cD cC h0 h1 h2 h3 h4 ad wd rd (m0, .inr (3, [.int th, .int (nI n), .ref m1, .ref m2, .ref m3, .ref m4, .int cd, .ref m5])) (m1, .inl (cI, 60, .inl K)) (m2, .inl (cI, 60, .inl (fun t8 => nI (Ln t8)))) (m3, .inl (cJ, 2400, .inr (.inl Wh))) (m4, .inl (cD, 2400, .inr (.inr (.inr (.inl Re))))) (m5, .inl (cI, 6, .inl ct)) o1 o2 ov od n K Ln Wh Re cd ct H.size hI j hj (xs (i + 2))) (vx_cwSW 4 hts gL_law_L_readAny rfl rfl rfl (by decide +kernel) ⟨Nat.le_of_ble_eq_true rfl, Nat.le_of_ble_eq_true rfl⟩) ⟨tcPL.blind, tcPL.go hK hP hD hE hNc hS⟩ rfl rfl hl.1 rfl (lv_room (Nat.le_of_ble_eq_true rfl)) dL_law_985 ⟨by show _ ≤ 601024; omega, by show _ ≤ 7293034; omega⟩)) hS (fun q _ h => h) (fun q h => h) (fun r uL t H locs ht hvm hw hB hz1 hk1 hS => ?_)
    subst hw
    obtain ⟨hP, hD⟩ := hB
    rw [ht] at hP
    have hP : va_P D vwCl (tc_Z cI cJ cD (h0, .inr (2, [.ref h1, .ref h2, .ref h3, .int (nI n), .int (cdR K Ln j (xs (i + 2)) (K j) (K j))])) (h1, .inl (cC, 60, .inr (.inr (.inr (.inr (fun t8 => if t8 < n then some (ad t8) else none)))))) (h2, .inl (cI, 6, .inl (noteC ct (cdR K Ln j (xs (i + 2)) (K j) (K j))))) (h3, .inr (1, [.ref h4])) (h4, .inl (cD, 10, .inr (.inr (.inr (.inl (fun t8 => tf_N (1023 + 2 ^ t8) 0)))))) ((o1, .inl (cJ, 1, .inr (.inl ov))) :: (o2, .inl (cD, 1, .inr (.inr (.inr (.inl (vf_upd od 0 (rdR K Ln Wh Re j (xs (i + 2)) (K j)))))))) :: tc_fl (tc_col cJ cD ad wd rd K Ln Wh Re) n) m0 m1 m2 m3 m4 m5 th n K Ln Wh Re cd ct) H := hP
    have hD : va_D A (tc_Z cI cJ cD (h0, .inr (2, [.ref h1, .ref h2, .ref h3, .int (nI n), .int (cdR K Ln j (xs (i + 2)) (K j) (K j))])) (h1, .inl (cC, 60, .inr (.inr (.inr (.inr (fun t8 => if t8 < n then some (ad t8) else none)))))) (h2, .inl (cI, 6, .inl (noteC ct (cdR K Ln j (xs (i + 2)) (K j) (K j))))) (h3, .inr (1, [.ref h4])) (h4, .inl (cD, 10, .inr (.inr (.inr (.inl (fun t8 => tf_N (1023 + 2 ^ t8) 0)))))) ((o1, .inl (cJ, 1, .inr (.inl ov))) :: (o2, .inl (cD, 1, .inr (.inr (.inr (.inl (vf_upd od 0 (rdR K Ln Wh Re j (xs (i + 2)) (K j)))))))) :: tc_fl (tc_col cJ cD ad wd rd K Ln Wh Re) n) m0 m1 m2 m3 m4 m5 th n K Ln Wh Re cd ct) := hD
    refine lv_istore (lv' := [(6, .int 0), (5, .int (nI i)), (4, .ref o2), (3, .ref o1), (2, .ref m0), (1, .ref h0), (0, .ref b)]) hx hb dL_law_988 hl (by decide) rfl (fun ls hl => ?_)
    refine lv_aload_n hx hb dL_law_990 rfl (lv_at hl 4 rfl) ?_
    refine lv_aload_n hx hb dL_law_991 rfl (lv_at hl 6 rfl) ?_
    refine lv_iload hx hb dL_law_992 (lv_at hl 1 rfl) ?_
    refine lv_iconst (v := 1) hx hb dL_law_994 (by decide) ?_
    refine lv_iadd hx hb dL_law_995 ?_
    refine tc_sld hx hb hX hbl hbA hS hL 1 rfl (by omega) (v := (nI j)) ej dL_law_996 ?_
    refine lv_aload_n hx hb dL_law_997 rfl (lv_at hl 6 rfl) ?_
    refine lv_iload hx hb dL_law_998 (lv_at hl 1 rfl) ?_
    refine lv_iconst (v := 2) hx hb dL_law_1000 (by decide) ?_
    refine lv_iadd hx hb dL_law_1001 ?_
    refine tc_sld hx hb hX hbl hbA hS hL 2 rfl (by omega) (v := (xs (i + 2))) rfl dL_law_1002 ?_
    refine va_calld (va_runV (As := [.int (nI j), .int (xs (i + 2))]) (rest := []) ⟨hx, hb, hml, hown, hts⟩ (tX3_readAny_y l D A cI cJ cD cC (h0, .inr (2, [.ref h1, .ref h2, .ref h3, .int (nI n), .int (cdR K Ln j (xs (i + 2)) (K j) (K j))])) (h1, .inl (cC, 60, .inr (.inr (.inr (.inr (fun t8 => if t8 < n then some (ad t8) else none)))))) (h2, .inl (cI, 6, .inl (noteC ct (cdR K Ln j (xs (i + 2)) (K j) (K j))))) (h3, .inr (1, [.ref h4])) (h4, .inl (cD, 10, .inr (.inr (.inr (.inl (fun t8 => tf_N (1023 + 2 ^ t8) 0)))))) ((o1, .inl (cJ, 1, .inr (.inl ov))) :: (o2, .inl (cD, 1, .inr (.inr (.inr (.inl (vf_upd od 0 (rdR K Ln Wh Re j (xs (i + 2)) (K j)))))))) :: tc_fl (tc_col cJ cD ad wd rd K Ln Wh Re) n) m0 m1 m2 m3 m4 m5 th n K Ln Wh Re cd ct H.size hI j hj (xs (i + 2))) (cwV 2 hts gL_law_X3_readAny rfl rfl rfl (by decide +kernel) ⟨Nat.le_of_ble_eq_true rfl, Nat.le_of_ble_eq_true rfl⟩) ⟨tcP.blind, va_recv hK hP (ci := 3) (q0 := 5) rfl rfl, tcP.go hK hP hD hE hS⟩ rfl rfl hl.1 rfl (lv_room (Nat.le_of_ble_eq_true rfl)) dL_law_1003 ⟨by show _ ≤ 601024; omega, by show _ ≤ 7293034; omega⟩) hS (fun q _ h => h) (fun q h => h) (fun r u t H locs ht hvm hw hB hz1 hk1 hS => ?_)
    subst hw
    obtain ⟨hP, hD⟩ := hB
    rw [ht] at hP
    refine lv_dstore (lv' := [(7, .double (rdR K Ln Wh Re j (xs (i + 2)) (K j))), (6, .int 0), (5, .int (nI i)), (4, .ref o2), (3, .ref o1), (2, .ref m0), (1, .ref h0), (0, .ref b)]) hx hb dL_law_1006 hl (by decide) rfl (fun ls hl => ?_)
    refine lv_aload_n hx hb dL_law_1008 rfl (lv_at hl 5 rfl) ?_
    refine vp_callSi (tc_CR (va_runV (As := []) (rest := []) ⟨hx, hb, hml, hown, hts⟩ (tX3_thrown l D A cI cJ cD cC (h0, .inr (2, [.ref h1, .ref h2, .ref h3, .int (nI n), .int (cdR K Ln j (xs (i + 2)) (K j) (K j))])) (h1, .inl (cC, 60, .inr (.inr (.inr (.inr (fun t8 => if t8 < n then some (ad t8) else none)))))) (h2, .inl (cI, 6, .inl (noteC ct (cdR K Ln j (xs (i + 2)) (K j) (K j))))) (h3, .inr (1, [.ref h4])) (h4, .inl (cD, 10, .inr (.inr (.inr (.inl (fun t8 => tf_N (1023 + 2 ^ t8) 0)))))) ((o1, .inl (cJ, 1, .inr (.inl ov))) :: (o2, .inl (cD, 1, .inr (.inr (.inr (.inl (vf_upd od 0 (rdR K Ln Wh Re j (xs (i + 2)) (K j)))))))) :: tc_fl (tc_col cJ cD ad wd rd K Ln Wh Re) n) m0 m1 m2 m3 m4 m5 0 n K Ln Wh Re (cdR K Ln j (xs (i + 2)) (K j) (K j)) (noteC ct (cdR K Ln j (xs (i + 2)) (K j) (K j))) H.size) (cwV 0 hts gL_law_X3_thrown rfl rfl rfl (by decide +kernel) ⟨Nat.le_of_ble_eq_true rfl, Nat.le_of_ble_eq_true rfl⟩) ⟨tcP.blind, va_recv hK hP (ci := 3) (q0 := 5) rfl rfl, tcP.go hK hP hD hE hS⟩ rfl rfl hl.1 rfl (lv_room (Nat.le_of_ble_eq_true rfl)) dL_law_1009 ⟨by show _ ≤ 601024; omega, by show _ ≤ 7293034; omega⟩)) (fun r9 h9 => ?_)
    subst h9
    refine lv_iload hx hb dL_law_1012 (lv_at hl 1 rfl) ?_
    refine lv_icmp_eq (tgt := 1019) hx hb dL_law_1014 (by decide) (fun _ => ?_) (fun q => absurd (by decide) q)
    refine lv_iload hx hb dL_law_1019 (lv_at hl 1 rfl) ?_
    refine lv_if_ne (tgt := 1056) hx hb dL_law_1021 (by decide) (fun q => absurd (by decide) q) (fun _ => ?_)
    refine lv_aload hx hb dL_law_1024 (lv_at hl 3 rfl) ?_
    refine lv_iconst (v := 0) hx hb dL_law_1026 (by decide) ?_
    refine tc_dald (f := (vf_upd od 0 (rdR K Ln Wh Re j (xs (i + 2)) (K j)))) (v := (rdR K Ln Wh Re j (xs (i + 2)) (K j))) hx hb hK hP 12 2 rfl rfl (by unfold vp_in; decide) (show (vf_upd od 0 (rdR K Ln Wh Re j (xs (i + 2)) (K j))) 0 = (rdR K Ln Wh Re j (xs (i + 2)) (K j)) from if_pos rfl) dL_law_1027 ?_
    refine lv_dload hx hb dL_law_1028 (lv_at hl 0 rfl) ?_
    refine lv_dcmp hx hb dL_law_1030 ?_
    refine lv_if_eq (tgt := 1056) hx hb dL_law_1031 (by decide) (fun _ => ?_) (fun q => absurd ((tf_cl0 _).mpr (tf_dcmp_self _ (rdR_nn hI hj _ _))) q)
    refine lv_goto (tgt := 2390) hx hb dL_law_1056 (by decide) ?_
    refine W.widen (k := ce + 3) (n := sl + 44) (by omega) (by omega) ?_
    exact kc _ _ _ _ ⟨ad, wd, rd, n, K, Ln, Wh, Re, (cdR K Ln j (xs (i + 2)) (K j) (K j)), (noteC ct (cdR K Ln j (xs (i + 2)) (K j) (K j))), 0, ov, (vf_upd od 0 (rdR K Ln Wh Re j (xs (i + 2)) (K j))), hdd, hI, hP, hD, hS, lv_sub hl [2, 3, 4, 5, 6, 7] rfl⟩
  · refine lv_aload_n hx hb dL_law_970 rfl (lv_at hl 4 rfl) ?_
    refine lv_aload_n hx hb dL_law_971 rfl (lv_at hl 5 rfl) ?_
    refine lv_iload hx hb dL_law_972 (lv_at hl 0 rfl) ?_
    refine lv_iconst (v := 1) hx hb dL_law_974 (by decide) ?_
    refine lv_iadd hx hb dL_law_975 ?_
    refine tc_sld hx hb hX hbl hbA hS hL 1 rfl (by omega) (v := (xs (i + 1))) rfl dL_law_976 ?_
    refine lv_aload_n hx hb dL_law_977 rfl (lv_at hl 5 rfl) ?_
    refine lv_iload hx hb dL_law_978 (lv_at hl 0 rfl) ?_
    refine lv_iconst (v := 2) hx hb dL_law_980 (by decide) ?_
    refine lv_iadd hx hb dL_law_981 ?_
    refine tc_sld hx hb hX hbl hbA hS hL 2 rfl (by omega) (v := (xs (i + 2))) rfl dL_law_982 ?_
    refine lv_aload hx hb dL_law_983 (lv_at hl 1 rfl) ?_
    refine va_calli (tc_noX (vx_runSX (As := [.ref h0, .int (xs (i + 1)), .int (xs (i + 2)), .ref o2]) (rest := []) ⟨hx, hb, hml, hown, hts⟩ (lLn_readAny l hfl D A cI cJ cD cC h0 h1 h2 h3 h4 ad wd rd (m0, .inr (3, [.int th, .int (nI n), .ref m1, .ref m2, .ref m3, .ref m4, .int cd, .ref m5])) (m1, .inl (cI, 60, .inl K)) (m2, .inl (cI, 60, .inl (fun t8 => nI (Ln t8)))) (m3, .inl (cJ, 2400, .inr (.inl Wh))) (m4, .inl (cD, 2400, .inr (.inr (.inr (.inl Re))))) (m5, .inl (cI, 6, .inl ct)) o1 o2 ov od n K Ln Wh Re cd ct H.size hn60 (xs (i + 1)) hc (xs (i + 2))) (vx_cwSW 4 hts gL_law_L_readAny rfl rfl rfl (by decide +kernel) ⟨Nat.le_of_ble_eq_true rfl, Nat.le_of_ble_eq_true rfl⟩) ⟨tcPL.blind, tcPL.go hK hP hD hE hNc hS⟩ rfl rfl hl.1 rfl (lv_room (Nat.le_of_ble_eq_true rfl)) dL_law_985 ⟨by show _ ≤ 601024; omega, by show _ ≤ 7293034; omega⟩)) hS (fun q _ h => h) (fun q h => h) (fun r uL t H locs ht hvm hw hB hz1 hk1 hS => ?_)
    subst hw
    obtain ⟨hP, hD⟩ := hB
    rw [ht] at hP
    have hP : va_P D vwCl (tc_Z cI cJ cD (h0, .inr (2, [.ref h1, .ref h2, .ref h3, .int (nI n), .int cd])) (h1, .inl (cC, 60, .inr (.inr (.inr (.inr (fun t8 => if t8 < n then some (ad t8) else none)))))) (h2, .inl (cI, 6, .inl ct)) (h3, .inr (1, [.ref h4])) (h4, .inl (cD, 10, .inr (.inr (.inr (.inl (fun t8 => tf_N (1023 + 2 ^ t8) 0)))))) ((o1, .inl (cJ, 1, .inr (.inl ov))) :: (o2, .inl (cD, 1, .inr (.inr (.inr (.inl od))))) :: tc_fl (tc_col cJ cD ad wd rd K Ln Wh Re) n) m0 m1 m2 m3 m4 m5 th n K Ln Wh Re cd ct) H := hP
    have hD : va_D A (tc_Z cI cJ cD (h0, .inr (2, [.ref h1, .ref h2, .ref h3, .int (nI n), .int cd])) (h1, .inl (cC, 60, .inr (.inr (.inr (.inr (fun t8 => if t8 < n then some (ad t8) else none)))))) (h2, .inl (cI, 6, .inl ct)) (h3, .inr (1, [.ref h4])) (h4, .inl (cD, 10, .inr (.inr (.inr (.inl (fun t8 => tf_N (1023 + 2 ^ t8) 0)))))) ((o1, .inl (cJ, 1, .inr (.inl ov))) :: (o2, .inl (cD, 1, .inr (.inr (.inr (.inl od))))) :: tc_fl (tc_col cJ cD ad wd rd K Ln Wh Re) n) m0 m1 m2 m3 m4 m5 th n K Ln Wh Re cd ct) := hD
    refine lv_istore (lv' := [(6, .int 1), (5, .int (nI i)), (4, .ref o2), (3, .ref o1), (2, .ref m0), (1, .ref h0), (0, .ref b)]) hx hb dL_law_988 hl (by decide) rfl (fun ls hl => ?_)
    refine lv_aload_n hx hb dL_law_990 rfl (lv_at hl 4 rfl) ?_
    refine lv_aload_n hx hb dL_law_991 rfl (lv_at hl 6 rfl) ?_
    refine lv_iload hx hb dL_law_992 (lv_at hl 1 rfl) ?_
    refine lv_iconst (v := 1) hx hb dL_law_994 (by decide) ?_
    refine lv_iadd hx hb dL_law_995 ?_
    refine tc_sld hx hb hX hbl hbA hS hL 1 rfl (by omega) (v := (xs (i + 1))) rfl dL_law_996 ?_
    refine lv_aload_n hx hb dL_law_997 rfl (lv_at hl 6 rfl) ?_
    refine lv_iload hx hb dL_law_998 (lv_at hl 1 rfl) ?_
    refine lv_iconst (v := 2) hx hb dL_law_1000 (by decide) ?_
    refine lv_iadd hx hb dL_law_1001 ?_
    refine tc_sld hx hb hX hbl hbA hS hL 2 rfl (by omega) (v := (xs (i + 2))) rfl dL_law_1002 ?_
    refine va_calld (va_runV (As := [.int (xs (i + 1)), .int (xs (i + 2))]) (rest := []) ⟨hx, hb, hml, hown, hts⟩ (tX3_readAny_n l D A cI cJ cD cC (h0, .inr (2, [.ref h1, .ref h2, .ref h3, .int (nI n), .int cd])) (h1, .inl (cC, 60, .inr (.inr (.inr (.inr (fun t8 => if t8 < n then some (ad t8) else none)))))) (h2, .inl (cI, 6, .inl ct)) (h3, .inr (1, [.ref h4])) (h4, .inl (cD, 10, .inr (.inr (.inr (.inl (fun t8 => tf_N (1023 + 2 ^ t8) 0)))))) ((o1, .inl (cJ, 1, .inr (.inl ov))) :: (o2, .inl (cD, 1, .inr (.inr (.inr (.inl od))))) :: tc_fl (tc_col cJ cD ad wd rd K Ln Wh Re) n) m0 m1 m2 m3 m4 m5 th n K Ln Wh Re cd ct H.size hI (xs (i + 1)) hc (xs (i + 2))) (cwV 2 hts gL_law_X3_readAny rfl rfl rfl (by decide +kernel) ⟨Nat.le_of_ble_eq_true rfl, Nat.le_of_ble_eq_true rfl⟩) ⟨tcP.blind, va_recv hK hP (ci := 3) (q0 := 5) rfl rfl, tcP.go hK hP hD hE hS⟩ rfl rfl hl.1 rfl (lv_room (Nat.le_of_ble_eq_true rfl)) dL_law_1003 ⟨by show _ ≤ 601024; omega, by show _ ≤ 7293034; omega⟩) hS (fun q _ h => h) (fun q h => h) (fun r u t H locs ht hvm hw hB hz1 hk1 hS => ?_)
    subst hw
    obtain ⟨hP, hD⟩ := hB
    rw [ht] at hP
    refine lv_dstore (lv' := [(7, .double 0), (6, .int 1), (5, .int (nI i)), (4, .ref o2), (3, .ref o1), (2, .ref m0), (1, .ref h0), (0, .ref b)]) hx hb dL_law_1006 hl (by decide) rfl (fun ls hl => ?_)
    refine lv_aload_n hx hb dL_law_1008 rfl (lv_at hl 5 rfl) ?_
    refine vp_callSi (tc_CR (va_runV (As := []) (rest := []) ⟨hx, hb, hml, hown, hts⟩ (tX3_thrown l D A cI cJ cD cC (h0, .inr (2, [.ref h1, .ref h2, .ref h3, .int (nI n), .int cd])) (h1, .inl (cC, 60, .inr (.inr (.inr (.inr (fun t8 => if t8 < n then some (ad t8) else none)))))) (h2, .inl (cI, 6, .inl ct)) (h3, .inr (1, [.ref h4])) (h4, .inl (cD, 10, .inr (.inr (.inr (.inl (fun t8 => tf_N (1023 + 2 ^ t8) 0)))))) ((o1, .inl (cJ, 1, .inr (.inl ov))) :: (o2, .inl (cD, 1, .inr (.inr (.inr (.inl od))))) :: tc_fl (tc_col cJ cD ad wd rd K Ln Wh Re) n) m0 m1 m2 m3 m4 m5 1 n K Ln Wh Re cd ct H.size) (cwV 0 hts gL_law_X3_thrown rfl rfl rfl (by decide +kernel) ⟨Nat.le_of_ble_eq_true rfl, Nat.le_of_ble_eq_true rfl⟩) ⟨tcP.blind, va_recv hK hP (ci := 3) (q0 := 5) rfl rfl, tcP.go hK hP hD hE hS⟩ rfl rfl hl.1 rfl (lv_room (Nat.le_of_ble_eq_true rfl)) dL_law_1009 ⟨by show _ ≤ 601024; omega, by show _ ≤ 7293034; omega⟩)) (fun r9 h9 => ?_)
    subst h9
    refine lv_iload hx hb dL_law_1012 (lv_at hl 1 rfl) ?_
    refine lv_icmp_eq (tgt := 1019) hx hb dL_law_1014 (by decide) (fun _ => ?_) (fun q => absurd (by decide) q)
    refine lv_iload hx hb dL_law_1019 (lv_at hl 1 rfl) ?_
    refine lv_if_ne (tgt := 1056) hx hb dL_law_1021 (by decide) (fun _ => ?_) (fun q => absurd q (by decide))
    refine lv_goto (tgt := 2390) hx hb dL_law_1056 (by decide) ?_
    refine W.widen (k := ce + 3) (n := sl + 44) (by omega) (by omega) ?_
    exact kc _ _ _ _ ⟨ad, wd, rd, n, K, Ln, Wh, Re, cd, ct, 1, ov, od, hdd, hI, hP, hD, hS, lv_sub hl [2, 3, 4, 5, 6, 7] rfl⟩
set_option maxHeartbeats 4000000 in
set_option maxRecDepth 100000 in
theorem law_13 {p : Program} {l : Launch} {e : Env} {s : State} {m : MethodId} {below : List Frame} {meth : Method} {c : Code} {D : va_G} {A : Nat → Prop} {cI cJ cD cC : ClassId} {h0 h1 h2 h3 h4 m0 m1 m2 m3 m4 m5 o1 o2 : Nat} {b L : Nat} {xs : Nat → Int32} {Q : State → Prop} (C0 : LCtx p l D A cI cJ cD cC s m c b L xs) {d : Drawn} {H : Heap} {locs : List Loc} {ls : Array Slot} {i ce sl : Nat} (hi : i + 6 ≤ L) (hce : ce + 3 ≤ 601024) (hsl : sl + 44 ≤ 7293034) (hv : LInv D A cI cJ cD cC h0 h1 h2 h3 h4 m0 m1 m2 m3 m4 m5 o1 o2 s b d H locs i ls) (kc : ∀ (d : Drawn) (H : Heap) (locs : List Loc) (ls : Array Slot), LInv D A cI cJ cD cC h0 h1 h2 h3 h4 m0 m1 m2 m3 m4 m5 o1 o2 s b d H locs i ls → W p l e room_1 (s.setDrawn d) m #[Value.ref b] below meth c H locs (ce + 3) (sl + 44) Q (F0 m 2390 ls [])) : W p l e room_1 (s.setDrawn d) m #[Value.ref b] below meth c H locs ce sl Q (F0 m 1059 ls []) := by
  obtain ⟨hx, hb, hml, hown0, htsB, hX0, hbl, hbA, hA, hL, hfl, hK0, hE0, hNc0⟩ := C0
  obtain ⟨ad, wd, rd, n, K, Ln, Wh, Re, cd, ct, th, ov, od, hdd, hI, hP, hD, hS, hl⟩ := hv
  have hn60 : n ≤ 60 := hI.1
  have hts := dr_words htsB d
  have hK : va_K D vwCl (tcTY cI cJ cD cC) (s.setDrawn d) := hK0
  have hE : tc_E A (s.setDrawn d) := hE0
  have hNc : tc_Nc (s.setDrawn d) := hNc0
  have hown : (s.setDrawn d).vm.findClass RL = some m.cls := hown0
  have hX : va_X b L xs (s.setDrawn d) s.heap := hX0
  rcases Classical.em (xs (i + 3) = 0) with c3 | c3
  · rcases Classical.em (∃ j, j < n ∧ xs (i + 1) = nI j) with ⟨j, hj, ej⟩ | hc
    · refine lv_aload_n hx hb dL_law_1059 rfl (lv_at hl 4 rfl) ?_
      refine lv_aload_n hx hb dL_law_1060 rfl (lv_at hl 5 rfl) ?_
      refine lv_iload hx hb dL_law_1061 (lv_at hl 0 rfl) ?_
      refine lv_iconst (v := 1) hx hb dL_law_1063 (by decide) ?_
      refine lv_iadd hx hb dL_law_1064 ?_
      refine tc_sld hx hb hX hbl hbA hS hL 1 rfl (by omega) (v := (nI j)) ej dL_law_1065 ?_
      refine lv_aload_n hx hb dL_law_1066 rfl (lv_at hl 5 rfl) ?_
      refine lv_iload hx hb dL_law_1067 (lv_at hl 0 rfl) ?_
      refine lv_iconst (v := 2) hx hb dL_law_1069 (by decide) ?_
      refine lv_iadd hx hb dL_law_1070 ?_
      refine tc_sld hx hb hX hbl hbA hS hL 2 rfl (by omega) (v := (xs (i + 2))) rfl dL_law_1071 ?_
      refine lv_aload_n hx hb dL_law_1072 rfl (lv_at hl 5 rfl) ?_
      refine lv_iload hx hb dL_law_1073 (lv_at hl 0 rfl) ?_
      refine lv_iconst (v := 3) hx hb dL_law_1075 (by decide) ?_
      refine lv_iadd hx hb dL_law_1076 ?_
      refine tc_sld hx hb hX hbl hbA hS hL 3 rfl (by omega) (v := (xs (i + 3))) rfl dL_law_1077 ?_
      refine lv_if_eq (tgt := 1085) hx hb dL_law_1078 (by decide) (fun _ => ?_) (fun q => absurd (c3) q)
      refine lv_iconst (v := 0) hx hb dL_law_1085 (by decide) ?_
      refine lv_aload_n hx hb dL_law_1086 rfl (lv_at hl 2 rfl) ?_
      refine va_calli (tc_noX (vx_runSX (As := [.ref h0, .int (nI j), .int (xs (i + 2)), .int 0, .ref o1]) (rest := []) ⟨hx, hb, hml, hown, hts⟩ (lL_writeBoolean l hfl D A cI cJ cD cC h0 h1 h2 h3 h4 ad wd rd (m0, .inr (3, [.int th, .int (nI n), .ref m1, .ref m2, .ref m3, .ref m4, .int cd, .ref m5])) (m1, .inl (cI, 60, .inl K)) (m2, .inl (cI, 60, .inl (fun t8 => nI (Ln t8)))) (m3, .inl (cJ, 2400, .inr (.inl Wh))) (m4, .inl (cD, 2400, .inr (.inr (.inr (.inl Re))))) (m5, .inl (cI, 6, .inl ct)) o1 o2 ov od n K Ln Wh Re cd ct H.size hI j hj (xs (i + 2)) 0) (vx_cwSW 5 hts gL_law_L_writeBoolean rfl rfl rfl (by decide +kernel) ⟨Nat.le_of_ble_eq_true rfl, Nat.le_of_ble_eq_true rfl⟩) ⟨tcPL.blind, tcPL.go hK hP hD hE hNc hS⟩ rfl rfl hl.1 rfl (lv_room (Nat.le_of_ble_eq_true rfl)) dL_law_1087 ⟨by show _ ≤ 601024; omega, by show _ ≤ 7293034; omega⟩)) hS (fun q _ h => h) (fun q h => h) (fun r uL t H locs ht hvm hw hB hz1 hk1 hS => ?_)
      subst hw
      obtain ⟨hP, hD⟩ := hB
      rw [ht] at hP
      have hP : va_P D vwCl (tc_Z cI cJ cD (h0, .inr (2, [.ref h1, .ref h2, .ref h3, .int (nI n), .int (cdR K Ln j (xs (i + 2)) 1 (K j))])) (h1, .inl (cC, 60, .inr (.inr (.inr (.inr (fun t8 => if t8 < n then some (ad t8) else none)))))) (h2, .inl (cI, 6, .inl (noteC ct (cdR K Ln j (xs (i + 2)) 1 (K j))))) (h3, .inr (1, [.ref h4])) (h4, .inl (cD, 10, .inr (.inr (.inr (.inl (fun t8 => tf_N (1023 + 2 ^ t8) 0)))))) ((o1, .inl (cJ, 1, .inr (.inl (vp_updL ov 0 ((cdR K Ln j (xs (i + 2)) 1 (K j)).toInt64))))) :: (o2, .inl (cD, 1, .inr (.inr (.inr (.inl od))))) :: tc_fl (tc_col cJ cD ad wd rd K Ln (wrW K Ln Wh j (xs (i + 2)) 1 (kMade 0 1)) (wrR K Ln Re j (xs (i + 2)) 1 (kMade 0 1))) n) m0 m1 m2 m3 m4 m5 th n K Ln Wh Re cd ct) H := hP
      have hD : va_D A (tc_Z cI cJ cD (h0, .inr (2, [.ref h1, .ref h2, .ref h3, .int (nI n), .int (cdR K Ln j (xs (i + 2)) 1 (K j))])) (h1, .inl (cC, 60, .inr (.inr (.inr (.inr (fun t8 => if t8 < n then some (ad t8) else none)))))) (h2, .inl (cI, 6, .inl (noteC ct (cdR K Ln j (xs (i + 2)) 1 (K j))))) (h3, .inr (1, [.ref h4])) (h4, .inl (cD, 10, .inr (.inr (.inr (.inl (fun t8 => tf_N (1023 + 2 ^ t8) 0)))))) ((o1, .inl (cJ, 1, .inr (.inl (vp_updL ov 0 ((cdR K Ln j (xs (i + 2)) 1 (K j)).toInt64))))) :: (o2, .inl (cD, 1, .inr (.inr (.inr (.inl od))))) :: tc_fl (tc_col cJ cD ad wd rd K Ln (wrW K Ln Wh j (xs (i + 2)) 1 (kMade 0 1)) (wrR K Ln Re j (xs (i + 2)) 1 (kMade 0 1))) n) m0 m1 m2 m3 m4 m5 th n K Ln Wh Re cd ct) := hD
      refine lv_istore (lv' := [(6, .int 0), (5, .int (nI i)), (4, .ref o2), (3, .ref o1), (2, .ref m0), (1, .ref h0), (0, .ref b)]) hx hb dL_law_1090 hl (by decide) rfl (fun ls hl => ?_)
      refine lv_aload_n hx hb dL_law_1092 rfl (lv_at hl 4 rfl) ?_
      refine lv_aload_n hx hb dL_law_1093 rfl (lv_at hl 6 rfl) ?_
      refine lv_iload hx hb dL_law_1094 (lv_at hl 1 rfl) ?_
      refine lv_iconst (v := 1) hx hb dL_law_1096 (by decide) ?_
      refine lv_iadd hx hb dL_law_1097 ?_
      refine tc_sld hx hb hX hbl hbA hS hL 1 rfl (by omega) (v := (nI j)) ej dL_law_1098 ?_
      refine lv_aload_n hx hb dL_law_1099 rfl (lv_at hl 6 rfl) ?_
      refine lv_iload hx hb dL_law_1100 (lv_at hl 1 rfl) ?_
      refine lv_iconst (v := 2) hx hb dL_law_1102 (by decide) ?_
      refine lv_iadd hx hb dL_law_1103 ?_
      refine tc_sld hx hb hX hbl hbA hS hL 2 rfl (by omega) (v := (xs (i + 2))) rfl dL_law_1104 ?_
      refine lv_aload_n hx hb dL_law_1105 rfl (lv_at hl 6 rfl) ?_
      refine lv_iload hx hb dL_law_1106 (lv_at hl 1 rfl) ?_
      refine lv_iconst (v := 3) hx hb dL_law_1108 (by decide) ?_
      refine lv_iadd hx hb dL_law_1109 ?_
      refine tc_sld hx hb hX hbl hbA hS hL 3 rfl (by omega) (v := (xs (i + 3))) rfl dL_law_1110 ?_
      refine lv_if_eq (tgt := 1118) hx hb dL_law_1111 (by decide) (fun _ => ?_) (fun q => absurd (c3) q)
      refine lv_iconst (v := 0) hx hb dL_law_1118 (by decide) ?_
      refine va_calli (va_runV (As := [.int (nI j), .int (xs (i + 2)), .int 0]) (rest := []) ⟨hx, hb, hml, hown, hts⟩ (tX3_writeBoolean_y l D A cI cJ cD cC (h0, .inr (2, [.ref h1, .ref h2, .ref h3, .int (nI n), .int (cdR K Ln j (xs (i + 2)) 1 (K j))])) (h1, .inl (cC, 60, .inr (.inr (.inr (.inr (fun t8 => if t8 < n then some (ad t8) else none)))))) (h2, .inl (cI, 6, .inl (noteC ct (cdR K Ln j (xs (i + 2)) 1 (K j))))) (h3, .inr (1, [.ref h4])) (h4, .inl (cD, 10, .inr (.inr (.inr (.inl (fun t8 => tf_N (1023 + 2 ^ t8) 0)))))) ((o1, .inl (cJ, 1, .inr (.inl (vp_updL ov 0 ((cdR K Ln j (xs (i + 2)) 1 (K j)).toInt64))))) :: (o2, .inl (cD, 1, .inr (.inr (.inr (.inl od))))) :: tc_fl (tc_col cJ cD ad wd rd K Ln (wrW K Ln Wh j (xs (i + 2)) 1 (kMade 0 1)) (wrR K Ln Re j (xs (i + 2)) 1 (kMade 0 1))) n) m0 m1 m2 m3 m4 m5 th n K Ln Wh Re cd ct H.size hI j hj (xs (i + 2)) 0) (cwV 3 hts gL_law_X3_writeBoolean rfl rfl rfl (by decide +kernel) ⟨Nat.le_of_ble_eq_true rfl, Nat.le_of_ble_eq_true rfl⟩) ⟨tcP.blind, va_recv hK hP (ci := 3) (q0 := 5) rfl rfl, tcP.go hK hP hD hE hS⟩ rfl rfl hl.1 rfl (lv_room (Nat.le_of_ble_eq_true rfl)) dL_law_1119 ⟨by show _ ≤ 601024; omega, by show _ ≤ 7293034; omega⟩) hS (fun q _ h => h) (fun q h => h) (fun r u t H locs ht hvm hw hB hz1 hk1 hS => ?_)
      subst hw
      obtain ⟨hP, hD⟩ := hB
      rw [ht] at hP
      refine lv_istore (lv' := [(7, .int (cdR K Ln j (xs (i + 2)) 1 (K j))), (6, .int 0), (5, .int (nI i)), (4, .ref o2), (3, .ref o1), (2, .ref m0), (1, .ref h0), (0, .ref b)]) hx hb dL_law_1122 hl (by decide) rfl (fun ls hl => ?_)
      refine lv_aload_n hx hb dL_law_1124 rfl (lv_at hl 5 rfl) ?_
      refine vp_callSi (tc_CR (va_runV (As := []) (rest := []) ⟨hx, hb, hml, hown, hts⟩ (tX3_thrown l D A cI cJ cD cC (h0, .inr (2, [.ref h1, .ref h2, .ref h3, .int (nI n), .int (cdR K Ln j (xs (i + 2)) 1 (K j))])) (h1, .inl (cC, 60, .inr (.inr (.inr (.inr (fun t8 => if t8 < n then some (ad t8) else none)))))) (h2, .inl (cI, 6, .inl (noteC ct (cdR K Ln j (xs (i + 2)) 1 (K j))))) (h3, .inr (1, [.ref h4])) (h4, .inl (cD, 10, .inr (.inr (.inr (.inl (fun t8 => tf_N (1023 + 2 ^ t8) 0)))))) ((o1, .inl (cJ, 1, .inr (.inl (vp_updL ov 0 ((cdR K Ln j (xs (i + 2)) 1 (K j)).toInt64))))) :: (o2, .inl (cD, 1, .inr (.inr (.inr (.inl od))))) :: tc_fl (tc_col cJ cD ad wd rd K Ln (wrW K Ln Wh j (xs (i + 2)) 1 (kMade 0 1)) (wrR K Ln Re j (xs (i + 2)) 1 (kMade 0 1))) n) m0 m1 m2 m3 m4 m5 0 n K Ln (wrW K Ln Wh j (xs (i + 2)) 1 (kMade 0 1)) (wrR K Ln Re j (xs (i + 2)) 1 (kMade 0 1)) (cdR K Ln j (xs (i + 2)) 1 (K j)) (noteC ct (cdR K Ln j (xs (i + 2)) 1 (K j))) H.size) (cwV 0 hts gL_law_X3_thrown rfl rfl rfl (by decide +kernel) ⟨Nat.le_of_ble_eq_true rfl, Nat.le_of_ble_eq_true rfl⟩) ⟨tcP.blind, va_recv hK hP (ci := 3) (q0 := 5) rfl rfl, tcP.go hK hP hD hE hS⟩ rfl rfl hl.1 rfl (lv_room (Nat.le_of_ble_eq_true rfl)) dL_law_1125 ⟨by show _ ≤ 601024; omega, by show _ ≤ 7293034; omega⟩)) (fun r9 h9 => ?_)
      subst h9
      refine lv_iload hx hb dL_law_1128 (lv_at hl 1 rfl) ?_
      refine lv_icmp_eq (tgt := 1135) hx hb dL_law_1130 (by decide) (fun _ => ?_) (fun q => absurd (by decide) q)
      refine lv_iload hx hb dL_law_1135 (lv_at hl 1 rfl) ?_
      refine lv_if_ne (tgt := 1152) hx hb dL_law_1137 (by decide) (fun q => absurd (by decide) q) (fun _ => ?_)
      refine lv_aload_n hx hb dL_law_1140 rfl (lv_at hl 4 rfl) ?_
      refine lv_iconst (v := 0) hx hb dL_law_1141 (by decide) ?_
      refine tc_lald (f := (vp_updL ov 0 ((cdR K Ln j (xs (i + 2)) 1 (K j)).toInt64))) (v := (cdR K Ln j (xs (i + 2)) 1 (K j)).toInt64) hx hb hK hP 11 1 rfl rfl (by unfold vp_in; decide) (show (vp_updL ov 0 ((cdR K Ln j (xs (i + 2)) 1 (K j)).toInt64)) 0 = (cdR K Ln j (xs (i + 2)) 1 (K j)).toInt64 from if_pos rfl) dL_law_1142 ?_
      refine lv_iload hx hb dL_law_1143 (lv_at hl 0 rfl) ?_
      refine lv_i2l (v := (cdR K Ln j (xs (i + 2)) 1 (K j)).toInt64) hx hb dL_law_1145 rfl ?_
      refine W.lcmp hx hb dL_law_1146 ?_
      refine lv_if_eq (tgt := 1152) hx hb dL_law_1147 (by decide) (fun _ => ?_) (fun q => absurd ((lg_cmp_eq _ _).mpr rfl) q)
      refine lv_goto (tgt := 2390) hx hb dL_law_1152 (by decide) ?_
      refine W.widen (k := ce + 3) (n := sl + 44) (by omega) (by omega) ?_
      exact kc _ _ _ _ ⟨ad, wd, rd, n, K, Ln, (wrW K Ln Wh j (xs (i + 2)) 1 (kMade 0 1)), (wrR K Ln Re j (xs (i + 2)) 1 (kMade 0 1)), (cdR K Ln j (xs (i + 2)) 1 (K j)), (noteC ct (cdR K Ln j (xs (i + 2)) 1 (K j))), 0, (vp_updL ov 0 ((cdR K Ln j (xs (i + 2)) 1 (K j)).toInt64)), od, hdd, (tcI_w hI hj (fun _ => kMade_b _)), hP, hD, hS, lv_sub hl [2, 3, 4, 5, 6, 7] rfl⟩
    · refine lv_aload_n hx hb dL_law_1059 rfl (lv_at hl 4 rfl) ?_
      refine lv_aload_n hx hb dL_law_1060 rfl (lv_at hl 5 rfl) ?_
      refine lv_iload hx hb dL_law_1061 (lv_at hl 0 rfl) ?_
      refine lv_iconst (v := 1) hx hb dL_law_1063 (by decide) ?_
      refine lv_iadd hx hb dL_law_1064 ?_
      refine tc_sld hx hb hX hbl hbA hS hL 1 rfl (by omega) (v := (xs (i + 1))) rfl dL_law_1065 ?_
      refine lv_aload_n hx hb dL_law_1066 rfl (lv_at hl 5 rfl) ?_
      refine lv_iload hx hb dL_law_1067 (lv_at hl 0 rfl) ?_
      refine lv_iconst (v := 2) hx hb dL_law_1069 (by decide) ?_
      refine lv_iadd hx hb dL_law_1070 ?_
      refine tc_sld hx hb hX hbl hbA hS hL 2 rfl (by omega) (v := (xs (i + 2))) rfl dL_law_1071 ?_
      refine lv_aload_n hx hb dL_law_1072 rfl (lv_at hl 5 rfl) ?_
      refine lv_iload hx hb dL_law_1073 (lv_at hl 0 rfl) ?_
      refine lv_iconst (v := 3) hx hb dL_law_1075 (by decide) ?_
      refine lv_iadd hx hb dL_law_1076 ?_
      refine tc_sld hx hb hX hbl hbA hS hL 3 rfl (by omega) (v := (xs (i + 3))) rfl dL_law_1077 ?_
      refine lv_if_eq (tgt := 1085) hx hb dL_law_1078 (by decide) (fun _ => ?_) (fun q => absurd (c3) q)
      refine lv_iconst (v := 0) hx hb dL_law_1085 (by decide) ?_
      refine lv_aload_n hx hb dL_law_1086 rfl (lv_at hl 2 rfl) ?_
      refine va_calli (tc_noX (vx_runSX (As := [.ref h0, .int (xs (i + 1)), .int (xs (i + 2)), .int 0, .ref o1]) (rest := []) ⟨hx, hb, hml, hown, hts⟩ (lLn_writeBoolean l hfl D A cI cJ cD cC h0 h1 h2 h3 h4 ad wd rd (m0, .inr (3, [.int th, .int (nI n), .ref m1, .ref m2, .ref m3, .ref m4, .int cd, .ref m5])) (m1, .inl (cI, 60, .inl K)) (m2, .inl (cI, 60, .inl (fun t8 => nI (Ln t8)))) (m3, .inl (cJ, 2400, .inr (.inl Wh))) (m4, .inl (cD, 2400, .inr (.inr (.inr (.inl Re))))) (m5, .inl (cI, 6, .inl ct)) o1 o2 ov od n K Ln Wh Re cd ct H.size hn60 (xs (i + 1)) hc (xs (i + 2)) 0) (vx_cwSW 5 hts gL_law_L_writeBoolean rfl rfl rfl (by decide +kernel) ⟨Nat.le_of_ble_eq_true rfl, Nat.le_of_ble_eq_true rfl⟩) ⟨tcPL.blind, tcPL.go hK hP hD hE hNc hS⟩ rfl rfl hl.1 rfl (lv_room (Nat.le_of_ble_eq_true rfl)) dL_law_1087 ⟨by show _ ≤ 601024; omega, by show _ ≤ 7293034; omega⟩)) hS (fun q _ h => h) (fun q h => h) (fun r uL t H locs ht hvm hw hB hz1 hk1 hS => ?_)
      subst hw
      obtain ⟨hP, hD⟩ := hB
      rw [ht] at hP
      have hP : va_P D vwCl (tc_Z cI cJ cD (h0, .inr (2, [.ref h1, .ref h2, .ref h3, .int (nI n), .int cd])) (h1, .inl (cC, 60, .inr (.inr (.inr (.inr (fun t8 => if t8 < n then some (ad t8) else none)))))) (h2, .inl (cI, 6, .inl ct)) (h3, .inr (1, [.ref h4])) (h4, .inl (cD, 10, .inr (.inr (.inr (.inl (fun t8 => tf_N (1023 + 2 ^ t8) 0)))))) ((o1, .inl (cJ, 1, .inr (.inl ov))) :: (o2, .inl (cD, 1, .inr (.inr (.inr (.inl od))))) :: tc_fl (tc_col cJ cD ad wd rd K Ln Wh Re) n) m0 m1 m2 m3 m4 m5 th n K Ln Wh Re cd ct) H := hP
      have hD : va_D A (tc_Z cI cJ cD (h0, .inr (2, [.ref h1, .ref h2, .ref h3, .int (nI n), .int cd])) (h1, .inl (cC, 60, .inr (.inr (.inr (.inr (fun t8 => if t8 < n then some (ad t8) else none)))))) (h2, .inl (cI, 6, .inl ct)) (h3, .inr (1, [.ref h4])) (h4, .inl (cD, 10, .inr (.inr (.inr (.inl (fun t8 => tf_N (1023 + 2 ^ t8) 0)))))) ((o1, .inl (cJ, 1, .inr (.inl ov))) :: (o2, .inl (cD, 1, .inr (.inr (.inr (.inl od))))) :: tc_fl (tc_col cJ cD ad wd rd K Ln Wh Re) n) m0 m1 m2 m3 m4 m5 th n K Ln Wh Re cd ct) := hD
      refine lv_istore (lv' := [(6, .int 1), (5, .int (nI i)), (4, .ref o2), (3, .ref o1), (2, .ref m0), (1, .ref h0), (0, .ref b)]) hx hb dL_law_1090 hl (by decide) rfl (fun ls hl => ?_)
      refine lv_aload_n hx hb dL_law_1092 rfl (lv_at hl 4 rfl) ?_
      refine lv_aload_n hx hb dL_law_1093 rfl (lv_at hl 6 rfl) ?_
      refine lv_iload hx hb dL_law_1094 (lv_at hl 1 rfl) ?_
      refine lv_iconst (v := 1) hx hb dL_law_1096 (by decide) ?_
      refine lv_iadd hx hb dL_law_1097 ?_
      refine tc_sld hx hb hX hbl hbA hS hL 1 rfl (by omega) (v := (xs (i + 1))) rfl dL_law_1098 ?_
      refine lv_aload_n hx hb dL_law_1099 rfl (lv_at hl 6 rfl) ?_
      refine lv_iload hx hb dL_law_1100 (lv_at hl 1 rfl) ?_
      refine lv_iconst (v := 2) hx hb dL_law_1102 (by decide) ?_
      refine lv_iadd hx hb dL_law_1103 ?_
      refine tc_sld hx hb hX hbl hbA hS hL 2 rfl (by omega) (v := (xs (i + 2))) rfl dL_law_1104 ?_
      refine lv_aload_n hx hb dL_law_1105 rfl (lv_at hl 6 rfl) ?_
      refine lv_iload hx hb dL_law_1106 (lv_at hl 1 rfl) ?_
      refine lv_iconst (v := 3) hx hb dL_law_1108 (by decide) ?_
      refine lv_iadd hx hb dL_law_1109 ?_
      refine tc_sld hx hb hX hbl hbA hS hL 3 rfl (by omega) (v := (xs (i + 3))) rfl dL_law_1110 ?_
      refine lv_if_eq (tgt := 1118) hx hb dL_law_1111 (by decide) (fun _ => ?_) (fun q => absurd (c3) q)
      refine lv_iconst (v := 0) hx hb dL_law_1118 (by decide) ?_
      refine va_calli (va_runV (As := [.int (xs (i + 1)), .int (xs (i + 2)), .int 0]) (rest := []) ⟨hx, hb, hml, hown, hts⟩ (tX3_writeBoolean_n l D A cI cJ cD cC (h0, .inr (2, [.ref h1, .ref h2, .ref h3, .int (nI n), .int cd])) (h1, .inl (cC, 60, .inr (.inr (.inr (.inr (fun t8 => if t8 < n then some (ad t8) else none)))))) (h2, .inl (cI, 6, .inl ct)) (h3, .inr (1, [.ref h4])) (h4, .inl (cD, 10, .inr (.inr (.inr (.inl (fun t8 => tf_N (1023 + 2 ^ t8) 0)))))) ((o1, .inl (cJ, 1, .inr (.inl ov))) :: (o2, .inl (cD, 1, .inr (.inr (.inr (.inl od))))) :: tc_fl (tc_col cJ cD ad wd rd K Ln Wh Re) n) m0 m1 m2 m3 m4 m5 th n K Ln Wh Re cd ct H.size hI (xs (i + 1)) hc (xs (i + 2)) 0) (cwV 3 hts gL_law_X3_writeBoolean rfl rfl rfl (by decide +kernel) ⟨Nat.le_of_ble_eq_true rfl, Nat.le_of_ble_eq_true rfl⟩) ⟨tcP.blind, va_recv hK hP (ci := 3) (q0 := 5) rfl rfl, tcP.go hK hP hD hE hS⟩ rfl rfl hl.1 rfl (lv_room (Nat.le_of_ble_eq_true rfl)) dL_law_1119 ⟨by show _ ≤ 601024; omega, by show _ ≤ 7293034; omega⟩) hS (fun q _ h => h) (fun q h => h) (fun r u t H locs ht hvm hw hB hz1 hk1 hS => ?_)
      subst hw
      obtain ⟨hP, hD⟩ := hB
      rw [ht] at hP
      refine lv_istore (lv' := [(7, .int 0), (6, .int 1), (5, .int (nI i)), (4, .ref o2), (3, .ref o1), (2, .ref m0), (1, .ref h0), (0, .ref b)]) hx hb dL_law_1122 hl (by decide) rfl (fun ls hl => ?_)
      refine lv_aload_n hx hb dL_law_1124 rfl (lv_at hl 5 rfl) ?_
      refine vp_callSi (tc_CR (va_runV (As := []) (rest := []) ⟨hx, hb, hml, hown, hts⟩ (tX3_thrown l D A cI cJ cD cC (h0, .inr (2, [.ref h1, .ref h2, .ref h3, .int (nI n), .int cd])) (h1, .inl (cC, 60, .inr (.inr (.inr (.inr (fun t8 => if t8 < n then some (ad t8) else none)))))) (h2, .inl (cI, 6, .inl ct)) (h3, .inr (1, [.ref h4])) (h4, .inl (cD, 10, .inr (.inr (.inr (.inl (fun t8 => tf_N (1023 + 2 ^ t8) 0)))))) ((o1, .inl (cJ, 1, .inr (.inl ov))) :: (o2, .inl (cD, 1, .inr (.inr (.inr (.inl od))))) :: tc_fl (tc_col cJ cD ad wd rd K Ln Wh Re) n) m0 m1 m2 m3 m4 m5 1 n K Ln Wh Re cd ct H.size) (cwV 0 hts gL_law_X3_thrown rfl rfl rfl (by decide +kernel) ⟨Nat.le_of_ble_eq_true rfl, Nat.le_of_ble_eq_true rfl⟩) ⟨tcP.blind, va_recv hK hP (ci := 3) (q0 := 5) rfl rfl, tcP.go hK hP hD hE hS⟩ rfl rfl hl.1 rfl (lv_room (Nat.le_of_ble_eq_true rfl)) dL_law_1125 ⟨by show _ ≤ 601024; omega, by show _ ≤ 7293034; omega⟩)) (fun r9 h9 => ?_)
      subst h9
      refine lv_iload hx hb dL_law_1128 (lv_at hl 1 rfl) ?_
      refine lv_icmp_eq (tgt := 1135) hx hb dL_law_1130 (by decide) (fun _ => ?_) (fun q => absurd (by decide) q)
      refine lv_iload hx hb dL_law_1135 (lv_at hl 1 rfl) ?_
      refine lv_if_ne (tgt := 1152) hx hb dL_law_1137 (by decide) (fun _ => ?_) (fun q => absurd q (by decide))
      refine lv_goto (tgt := 2390) hx hb dL_law_1152 (by decide) ?_
      refine W.widen (k := ce + 3) (n := sl + 44) (by omega) (by omega) ?_
      exact kc _ _ _ _ ⟨ad, wd, rd, n, K, Ln, Wh, Re, cd, ct, 1, ov, od, hdd, hI, hP, hD, hS, lv_sub hl [2, 3, 4, 5, 6, 7] rfl⟩
  · rcases Classical.em (∃ j, j < n ∧ xs (i + 1) = nI j) with ⟨j, hj, ej⟩ | hc
    · refine lv_aload_n hx hb dL_law_1059 rfl (lv_at hl 4 rfl) ?_
      refine lv_aload_n hx hb dL_law_1060 rfl (lv_at hl 5 rfl) ?_
      refine lv_iload hx hb dL_law_1061 (lv_at hl 0 rfl) ?_
      refine lv_iconst (v := 1) hx hb dL_law_1063 (by decide) ?_
      refine lv_iadd hx hb dL_law_1064 ?_
      refine tc_sld hx hb hX hbl hbA hS hL 1 rfl (by omega) (v := (nI j)) ej dL_law_1065 ?_
      refine lv_aload_n hx hb dL_law_1066 rfl (lv_at hl 5 rfl) ?_
      refine lv_iload hx hb dL_law_1067 (lv_at hl 0 rfl) ?_
      refine lv_iconst (v := 2) hx hb dL_law_1069 (by decide) ?_
      refine lv_iadd hx hb dL_law_1070 ?_
      refine tc_sld hx hb hX hbl hbA hS hL 2 rfl (by omega) (v := (xs (i + 2))) rfl dL_law_1071 ?_
      refine lv_aload_n hx hb dL_law_1072 rfl (lv_at hl 5 rfl) ?_
      refine lv_iload hx hb dL_law_1073 (lv_at hl 0 rfl) ?_
      refine lv_iconst (v := 3) hx hb dL_law_1075 (by decide) ?_
      refine lv_iadd hx hb dL_law_1076 ?_
      refine tc_sld hx hb hX hbl hbA hS hL 3 rfl (by omega) (v := (xs (i + 3))) rfl dL_law_1077 ?_
      refine lv_if_eq (tgt := 1085) hx hb dL_law_1078 (by decide) (fun q => absurd q (c3)) (fun _ => ?_)
      refine lv_iconst (v := 1) hx hb dL_law_1081 (by decide) ?_
      refine lv_goto (tgt := 1086) hx hb dL_law_1082 (by decide) ?_
      refine lv_aload_n hx hb dL_law_1086 rfl (lv_at hl 2 rfl) ?_
      refine va_calli (tc_noX (vx_runSX (As := [.ref h0, .int (nI j), .int (xs (i + 2)), .int 1, .ref o1]) (rest := []) ⟨hx, hb, hml, hown, hts⟩ (lL_writeBoolean l hfl D A cI cJ cD cC h0 h1 h2 h3 h4 ad wd rd (m0, .inr (3, [.int th, .int (nI n), .ref m1, .ref m2, .ref m3, .ref m4, .int cd, .ref m5])) (m1, .inl (cI, 60, .inl K)) (m2, .inl (cI, 60, .inl (fun t8 => nI (Ln t8)))) (m3, .inl (cJ, 2400, .inr (.inl Wh))) (m4, .inl (cD, 2400, .inr (.inr (.inr (.inl Re))))) (m5, .inl (cI, 6, .inl ct)) o1 o2 ov od n K Ln Wh Re cd ct H.size hI j hj (xs (i + 2)) 1) (vx_cwSW 5 hts gL_law_L_writeBoolean rfl rfl rfl (by decide +kernel) ⟨Nat.le_of_ble_eq_true rfl, Nat.le_of_ble_eq_true rfl⟩) ⟨tcPL.blind, tcPL.go hK hP hD hE hNc hS⟩ rfl rfl hl.1 rfl (lv_room (Nat.le_of_ble_eq_true rfl)) dL_law_1087 ⟨by show _ ≤ 601024; omega, by show _ ≤ 7293034; omega⟩)) hS (fun q _ h => h) (fun q h => h) (fun r uL t H locs ht hvm hw hB hz1 hk1 hS => ?_)
      subst hw
      obtain ⟨hP, hD⟩ := hB
      rw [ht] at hP
      have hP : va_P D vwCl (tc_Z cI cJ cD (h0, .inr (2, [.ref h1, .ref h2, .ref h3, .int (nI n), .int (cdR K Ln j (xs (i + 2)) 1 (K j))])) (h1, .inl (cC, 60, .inr (.inr (.inr (.inr (fun t8 => if t8 < n then some (ad t8) else none)))))) (h2, .inl (cI, 6, .inl (noteC ct (cdR K Ln j (xs (i + 2)) 1 (K j))))) (h3, .inr (1, [.ref h4])) (h4, .inl (cD, 10, .inr (.inr (.inr (.inl (fun t8 => tf_N (1023 + 2 ^ t8) 0)))))) ((o1, .inl (cJ, 1, .inr (.inl (vp_updL ov 0 ((cdR K Ln j (xs (i + 2)) 1 (K j)).toInt64))))) :: (o2, .inl (cD, 1, .inr (.inr (.inr (.inl od))))) :: tc_fl (tc_col cJ cD ad wd rd K Ln (wrW K Ln Wh j (xs (i + 2)) 1 (kMade 1 1)) (wrR K Ln Re j (xs (i + 2)) 1 (kMade 1 1))) n) m0 m1 m2 m3 m4 m5 th n K Ln Wh Re cd ct) H := hP
      have hD : va_D A (tc_Z cI cJ cD (h0, .inr (2, [.ref h1, .ref h2, .ref h3, .int (nI n), .int (cdR K Ln j (xs (i + 2)) 1 (K j))])) (h1, .inl (cC, 60, .inr (.inr (.inr (.inr (fun t8 => if t8 < n then some (ad t8) else none)))))) (h2, .inl (cI, 6, .inl (noteC ct (cdR K Ln j (xs (i + 2)) 1 (K j))))) (h3, .inr (1, [.ref h4])) (h4, .inl (cD, 10, .inr (.inr (.inr (.inl (fun t8 => tf_N (1023 + 2 ^ t8) 0)))))) ((o1, .inl (cJ, 1, .inr (.inl (vp_updL ov 0 ((cdR K Ln j (xs (i + 2)) 1 (K j)).toInt64))))) :: (o2, .inl (cD, 1, .inr (.inr (.inr (.inl od))))) :: tc_fl (tc_col cJ cD ad wd rd K Ln (wrW K Ln Wh j (xs (i + 2)) 1 (kMade 1 1)) (wrR K Ln Re j (xs (i + 2)) 1 (kMade 1 1))) n) m0 m1 m2 m3 m4 m5 th n K Ln Wh Re cd ct) := hD
      refine lv_istore (lv' := [(6, .int 0), (5, .int (nI i)), (4, .ref o2), (3, .ref o1), (2, .ref m0), (1, .ref h0), (0, .ref b)]) hx hb dL_law_1090 hl (by decide) rfl (fun ls hl => ?_)
      refine lv_aload_n hx hb dL_law_1092 rfl (lv_at hl 4 rfl) ?_
      refine lv_aload_n hx hb dL_law_1093 rfl (lv_at hl 6 rfl) ?_
      refine lv_iload hx hb dL_law_1094 (lv_at hl 1 rfl) ?_
      refine lv_iconst (v := 1) hx hb dL_law_1096 (by decide) ?_
      refine lv_iadd hx hb dL_law_1097 ?_
      refine tc_sld hx hb hX hbl hbA hS hL 1 rfl (by omega) (v := (nI j)) ej dL_law_1098 ?_
      refine lv_aload_n hx hb dL_law_1099 rfl (lv_at hl 6 rfl) ?_
      refine lv_iload hx hb dL_law_1100 (lv_at hl 1 rfl) ?_
      refine lv_iconst (v := 2) hx hb dL_law_1102 (by decide) ?_
      refine lv_iadd hx hb dL_law_1103 ?_
      refine tc_sld hx hb hX hbl hbA hS hL 2 rfl (by omega) (v := (xs (i + 2))) rfl dL_law_1104 ?_
      refine lv_aload_n hx hb dL_law_1105 rfl (lv_at hl 6 rfl) ?_
      refine lv_iload hx hb dL_law_1106 (lv_at hl 1 rfl) ?_
      refine lv_iconst (v := 3) hx hb dL_law_1108 (by decide) ?_
      refine lv_iadd hx hb dL_law_1109 ?_
      refine tc_sld hx hb hX hbl hbA hS hL 3 rfl (by omega) (v := (xs (i + 3))) rfl dL_law_1110 ?_
      refine lv_if_eq (tgt := 1118) hx hb dL_law_1111 (by decide) (fun q => absurd q (c3)) (fun _ => ?_)
      refine lv_iconst (v := 1) hx hb dL_law_1114 (by decide) ?_
      refine lv_goto (tgt := 1119) hx hb dL_law_1115 (by decide) ?_
      refine va_calli (va_runV (As := [.int (nI j), .int (xs (i + 2)), .int 1]) (rest := []) ⟨hx, hb, hml, hown, hts⟩ (tX3_writeBoolean_y l D A cI cJ cD cC (h0, .inr (2, [.ref h1, .ref h2, .ref h3, .int (nI n), .int (cdR K Ln j (xs (i + 2)) 1 (K j))])) (h1, .inl (cC, 60, .inr (.inr (.inr (.inr (fun t8 => if t8 < n then some (ad t8) else none)))))) (h2, .inl (cI, 6, .inl (noteC ct (cdR K Ln j (xs (i + 2)) 1 (K j))))) (h3, .inr (1, [.ref h4])) (h4, .inl (cD, 10, .inr (.inr (.inr (.inl (fun t8 => tf_N (1023 + 2 ^ t8) 0)))))) ((o1, .inl (cJ, 1, .inr (.inl (vp_updL ov 0 ((cdR K Ln j (xs (i + 2)) 1 (K j)).toInt64))))) :: (o2, .inl (cD, 1, .inr (.inr (.inr (.inl od))))) :: tc_fl (tc_col cJ cD ad wd rd K Ln (wrW K Ln Wh j (xs (i + 2)) 1 (kMade 1 1)) (wrR K Ln Re j (xs (i + 2)) 1 (kMade 1 1))) n) m0 m1 m2 m3 m4 m5 th n K Ln Wh Re cd ct H.size hI j hj (xs (i + 2)) 1) (cwV 3 hts gL_law_X3_writeBoolean rfl rfl rfl (by decide +kernel) ⟨Nat.le_of_ble_eq_true rfl, Nat.le_of_ble_eq_true rfl⟩) ⟨tcP.blind, va_recv hK hP (ci := 3) (q0 := 5) rfl rfl, tcP.go hK hP hD hE hS⟩ rfl rfl hl.1 rfl (lv_room (Nat.le_of_ble_eq_true rfl)) dL_law_1119 ⟨by show _ ≤ 601024; omega, by show _ ≤ 7293034; omega⟩) hS (fun q _ h => h) (fun q h => h) (fun r u t H locs ht hvm hw hB hz1 hk1 hS => ?_)
      subst hw
      obtain ⟨hP, hD⟩ := hB
      rw [ht] at hP
      refine lv_istore (lv' := [(7, .int (cdR K Ln j (xs (i + 2)) 1 (K j))), (6, .int 0), (5, .int (nI i)), (4, .ref o2), (3, .ref o1), (2, .ref m0), (1, .ref h0), (0, .ref b)]) hx hb dL_law_1122 hl (by decide) rfl (fun ls hl => ?_)
      refine lv_aload_n hx hb dL_law_1124 rfl (lv_at hl 5 rfl) ?_
      refine vp_callSi (tc_CR (va_runV (As := []) (rest := []) ⟨hx, hb, hml, hown, hts⟩ (tX3_thrown l D A cI cJ cD cC (h0, .inr (2, [.ref h1, .ref h2, .ref h3, .int (nI n), .int (cdR K Ln j (xs (i + 2)) 1 (K j))])) (h1, .inl (cC, 60, .inr (.inr (.inr (.inr (fun t8 => if t8 < n then some (ad t8) else none)))))) (h2, .inl (cI, 6, .inl (noteC ct (cdR K Ln j (xs (i + 2)) 1 (K j))))) (h3, .inr (1, [.ref h4])) (h4, .inl (cD, 10, .inr (.inr (.inr (.inl (fun t8 => tf_N (1023 + 2 ^ t8) 0)))))) ((o1, .inl (cJ, 1, .inr (.inl (vp_updL ov 0 ((cdR K Ln j (xs (i + 2)) 1 (K j)).toInt64))))) :: (o2, .inl (cD, 1, .inr (.inr (.inr (.inl od))))) :: tc_fl (tc_col cJ cD ad wd rd K Ln (wrW K Ln Wh j (xs (i + 2)) 1 (kMade 1 1)) (wrR K Ln Re j (xs (i + 2)) 1 (kMade 1 1))) n) m0 m1 m2 m3 m4 m5 0 n K Ln (wrW K Ln Wh j (xs (i + 2)) 1 (kMade 1 1)) (wrR K Ln Re j (xs (i + 2)) 1 (kMade 1 1)) (cdR K Ln j (xs (i + 2)) 1 (K j)) (noteC ct (cdR K Ln j (xs (i + 2)) 1 (K j))) H.size) (cwV 0 hts gL_law_X3_thrown rfl rfl rfl (by decide +kernel) ⟨Nat.le_of_ble_eq_true rfl, Nat.le_of_ble_eq_true rfl⟩) ⟨tcP.blind, va_recv hK hP (ci := 3) (q0 := 5) rfl rfl, tcP.go hK hP hD hE hS⟩ rfl rfl hl.1 rfl (lv_room (Nat.le_of_ble_eq_true rfl)) dL_law_1125 ⟨by show _ ≤ 601024; omega, by show _ ≤ 7293034; omega⟩)) (fun r9 h9 => ?_)
      subst h9
      refine lv_iload hx hb dL_law_1128 (lv_at hl 1 rfl) ?_
      refine lv_icmp_eq (tgt := 1135) hx hb dL_law_1130 (by decide) (fun _ => ?_) (fun q => absurd (by decide) q)
      refine lv_iload hx hb dL_law_1135 (lv_at hl 1 rfl) ?_
      refine lv_if_ne (tgt := 1152) hx hb dL_law_1137 (by decide) (fun q => absurd (by decide) q) (fun _ => ?_)
      refine lv_aload_n hx hb dL_law_1140 rfl (lv_at hl 4 rfl) ?_
      refine lv_iconst (v := 0) hx hb dL_law_1141 (by decide) ?_
      refine tc_lald (f := (vp_updL ov 0 ((cdR K Ln j (xs (i + 2)) 1 (K j)).toInt64))) (v := (cdR K Ln j (xs (i + 2)) 1 (K j)).toInt64) hx hb hK hP 11 1 rfl rfl (by unfold vp_in; decide) (show (vp_updL ov 0 ((cdR K Ln j (xs (i + 2)) 1 (K j)).toInt64)) 0 = (cdR K Ln j (xs (i + 2)) 1 (K j)).toInt64 from if_pos rfl) dL_law_1142 ?_
      refine lv_iload hx hb dL_law_1143 (lv_at hl 0 rfl) ?_
      refine lv_i2l (v := (cdR K Ln j (xs (i + 2)) 1 (K j)).toInt64) hx hb dL_law_1145 rfl ?_
      refine W.lcmp hx hb dL_law_1146 ?_
      refine lv_if_eq (tgt := 1152) hx hb dL_law_1147 (by decide) (fun _ => ?_) (fun q => absurd ((lg_cmp_eq _ _).mpr rfl) q)
      refine lv_goto (tgt := 2390) hx hb dL_law_1152 (by decide) ?_
      refine W.widen (k := ce + 3) (n := sl + 44) (by omega) (by omega) ?_
      exact kc _ _ _ _ ⟨ad, wd, rd, n, K, Ln, (wrW K Ln Wh j (xs (i + 2)) 1 (kMade 1 1)), (wrR K Ln Re j (xs (i + 2)) 1 (kMade 1 1)), (cdR K Ln j (xs (i + 2)) 1 (K j)), (noteC ct (cdR K Ln j (xs (i + 2)) 1 (K j))), 0, (vp_updL ov 0 ((cdR K Ln j (xs (i + 2)) 1 (K j)).toInt64)), od, hdd, (tcI_w hI hj (fun _ => kMade_b _)), hP, hD, hS, lv_sub hl [2, 3, 4, 5, 6, 7] rfl⟩
    · refine lv_aload_n hx hb dL_law_1059 rfl (lv_at hl 4 rfl) ?_
      refine lv_aload_n hx hb dL_law_1060 rfl (lv_at hl 5 rfl) ?_
      refine lv_iload hx hb dL_law_1061 (lv_at hl 0 rfl) ?_
      refine lv_iconst (v := 1) hx hb dL_law_1063 (by decide) ?_
      refine lv_iadd hx hb dL_law_1064 ?_
      refine tc_sld hx hb hX hbl hbA hS hL 1 rfl (by omega) (v := (xs (i + 1))) rfl dL_law_1065 ?_
      refine lv_aload_n hx hb dL_law_1066 rfl (lv_at hl 5 rfl) ?_
      refine lv_iload hx hb dL_law_1067 (lv_at hl 0 rfl) ?_
      refine lv_iconst (v := 2) hx hb dL_law_1069 (by decide) ?_
      refine lv_iadd hx hb dL_law_1070 ?_
      refine tc_sld hx hb hX hbl hbA hS hL 2 rfl (by omega) (v := (xs (i + 2))) rfl dL_law_1071 ?_
      refine lv_aload_n hx hb dL_law_1072 rfl (lv_at hl 5 rfl) ?_
      refine lv_iload hx hb dL_law_1073 (lv_at hl 0 rfl) ?_
      refine lv_iconst (v := 3) hx hb dL_law_1075 (by decide) ?_
      refine lv_iadd hx hb dL_law_1076 ?_
      refine tc_sld hx hb hX hbl hbA hS hL 3 rfl (by omega) (v := (xs (i + 3))) rfl dL_law_1077 ?_
      refine lv_if_eq (tgt := 1085) hx hb dL_law_1078 (by decide) (fun q => absurd q (c3)) (fun _ => ?_)
      refine lv_iconst (v := 1) hx hb dL_law_1081 (by decide) ?_
      refine lv_goto (tgt := 1086) hx hb dL_law_1082 (by decide) ?_
      refine lv_aload_n hx hb dL_law_1086 rfl (lv_at hl 2 rfl) ?_
      refine va_calli (tc_noX (vx_runSX (As := [.ref h0, .int (xs (i + 1)), .int (xs (i + 2)), .int 1, .ref o1]) (rest := []) ⟨hx, hb, hml, hown, hts⟩ (lLn_writeBoolean l hfl D A cI cJ cD cC h0 h1 h2 h3 h4 ad wd rd (m0, .inr (3, [.int th, .int (nI n), .ref m1, .ref m2, .ref m3, .ref m4, .int cd, .ref m5])) (m1, .inl (cI, 60, .inl K)) (m2, .inl (cI, 60, .inl (fun t8 => nI (Ln t8)))) (m3, .inl (cJ, 2400, .inr (.inl Wh))) (m4, .inl (cD, 2400, .inr (.inr (.inr (.inl Re))))) (m5, .inl (cI, 6, .inl ct)) o1 o2 ov od n K Ln Wh Re cd ct H.size hn60 (xs (i + 1)) hc (xs (i + 2)) 1) (vx_cwSW 5 hts gL_law_L_writeBoolean rfl rfl rfl (by decide +kernel) ⟨Nat.le_of_ble_eq_true rfl, Nat.le_of_ble_eq_true rfl⟩) ⟨tcPL.blind, tcPL.go hK hP hD hE hNc hS⟩ rfl rfl hl.1 rfl (lv_room (Nat.le_of_ble_eq_true rfl)) dL_law_1087 ⟨by show _ ≤ 601024; omega, by show _ ≤ 7293034; omega⟩)) hS (fun q _ h => h) (fun q h => h) (fun r uL t H locs ht hvm hw hB hz1 hk1 hS => ?_)
      subst hw
      obtain ⟨hP, hD⟩ := hB
      rw [ht] at hP
      have hP : va_P D vwCl (tc_Z cI cJ cD (h0, .inr (2, [.ref h1, .ref h2, .ref h3, .int (nI n), .int cd])) (h1, .inl (cC, 60, .inr (.inr (.inr (.inr (fun t8 => if t8 < n then some (ad t8) else none)))))) (h2, .inl (cI, 6, .inl ct)) (h3, .inr (1, [.ref h4])) (h4, .inl (cD, 10, .inr (.inr (.inr (.inl (fun t8 => tf_N (1023 + 2 ^ t8) 0)))))) ((o1, .inl (cJ, 1, .inr (.inl ov))) :: (o2, .inl (cD, 1, .inr (.inr (.inr (.inl od))))) :: tc_fl (tc_col cJ cD ad wd rd K Ln Wh Re) n) m0 m1 m2 m3 m4 m5 th n K Ln Wh Re cd ct) H := hP
      have hD : va_D A (tc_Z cI cJ cD (h0, .inr (2, [.ref h1, .ref h2, .ref h3, .int (nI n), .int cd])) (h1, .inl (cC, 60, .inr (.inr (.inr (.inr (fun t8 => if t8 < n then some (ad t8) else none)))))) (h2, .inl (cI, 6, .inl ct)) (h3, .inr (1, [.ref h4])) (h4, .inl (cD, 10, .inr (.inr (.inr (.inl (fun t8 => tf_N (1023 + 2 ^ t8) 0)))))) ((o1, .inl (cJ, 1, .inr (.inl ov))) :: (o2, .inl (cD, 1, .inr (.inr (.inr (.inl od))))) :: tc_fl (tc_col cJ cD ad wd rd K Ln Wh Re) n) m0 m1 m2 m3 m4 m5 th n K Ln Wh Re cd ct) := hD
      refine lv_istore (lv' := [(6, .int 1), (5, .int (nI i)), (4, .ref o2), (3, .ref o1), (2, .ref m0), (1, .ref h0), (0, .ref b)]) hx hb dL_law_1090 hl (by decide) rfl (fun ls hl => ?_)
      refine lv_aload_n hx hb dL_law_1092 rfl (lv_at hl 4 rfl) ?_
      refine lv_aload_n hx hb dL_law_1093 rfl (lv_at hl 6 rfl) ?_
      refine lv_iload hx hb dL_law_1094 (lv_at hl 1 rfl) ?_
      refine lv_iconst (v := 1) hx hb dL_law_1096 (by decide) ?_
      refine lv_iadd hx hb dL_law_1097 ?_
      refine tc_sld hx hb hX hbl hbA hS hL 1 rfl (by omega) (v := (xs (i + 1))) rfl dL_law_1098 ?_
      refine lv_aload_n hx hb dL_law_1099 rfl (lv_at hl 6 rfl) ?_
      refine lv_iload hx hb dL_law_1100 (lv_at hl 1 rfl) ?_
      refine lv_iconst (v := 2) hx hb dL_law_1102 (by decide) ?_
      refine lv_iadd hx hb dL_law_1103 ?_
      refine tc_sld hx hb hX hbl hbA hS hL 2 rfl (by omega) (v := (xs (i + 2))) rfl dL_law_1104 ?_
      refine lv_aload_n hx hb dL_law_1105 rfl (lv_at hl 6 rfl) ?_
      refine lv_iload hx hb dL_law_1106 (lv_at hl 1 rfl) ?_
      refine lv_iconst (v := 3) hx hb dL_law_1108 (by decide) ?_
      refine lv_iadd hx hb dL_law_1109 ?_
      refine tc_sld hx hb hX hbl hbA hS hL 3 rfl (by omega) (v := (xs (i + 3))) rfl dL_law_1110 ?_
      refine lv_if_eq (tgt := 1118) hx hb dL_law_1111 (by decide) (fun q => absurd q (c3)) (fun _ => ?_)
      refine lv_iconst (v := 1) hx hb dL_law_1114 (by decide) ?_
      refine lv_goto (tgt := 1119) hx hb dL_law_1115 (by decide) ?_
      refine va_calli (va_runV (As := [.int (xs (i + 1)), .int (xs (i + 2)), .int 1]) (rest := []) ⟨hx, hb, hml, hown, hts⟩ (tX3_writeBoolean_n l D A cI cJ cD cC (h0, .inr (2, [.ref h1, .ref h2, .ref h3, .int (nI n), .int cd])) (h1, .inl (cC, 60, .inr (.inr (.inr (.inr (fun t8 => if t8 < n then some (ad t8) else none)))))) (h2, .inl (cI, 6, .inl ct)) (h3, .inr (1, [.ref h4])) (h4, .inl (cD, 10, .inr (.inr (.inr (.inl (fun t8 => tf_N (1023 + 2 ^ t8) 0)))))) ((o1, .inl (cJ, 1, .inr (.inl ov))) :: (o2, .inl (cD, 1, .inr (.inr (.inr (.inl od))))) :: tc_fl (tc_col cJ cD ad wd rd K Ln Wh Re) n) m0 m1 m2 m3 m4 m5 th n K Ln Wh Re cd ct H.size hI (xs (i + 1)) hc (xs (i + 2)) 1) (cwV 3 hts gL_law_X3_writeBoolean rfl rfl rfl (by decide +kernel) ⟨Nat.le_of_ble_eq_true rfl, Nat.le_of_ble_eq_true rfl⟩) ⟨tcP.blind, va_recv hK hP (ci := 3) (q0 := 5) rfl rfl, tcP.go hK hP hD hE hS⟩ rfl rfl hl.1 rfl (lv_room (Nat.le_of_ble_eq_true rfl)) dL_law_1119 ⟨by show _ ≤ 601024; omega, by show _ ≤ 7293034; omega⟩) hS (fun q _ h => h) (fun q h => h) (fun r u t H locs ht hvm hw hB hz1 hk1 hS => ?_)
      subst hw
      obtain ⟨hP, hD⟩ := hB
      rw [ht] at hP
      refine lv_istore (lv' := [(7, .int 0), (6, .int 1), (5, .int (nI i)), (4, .ref o2), (3, .ref o1), (2, .ref m0), (1, .ref h0), (0, .ref b)]) hx hb dL_law_1122 hl (by decide) rfl (fun ls hl => ?_)
      refine lv_aload_n hx hb dL_law_1124 rfl (lv_at hl 5 rfl) ?_
      refine vp_callSi (tc_CR (va_runV (As := []) (rest := []) ⟨hx, hb, hml, hown, hts⟩ (tX3_thrown l D A cI cJ cD cC (h0, .inr (2, [.ref h1, .ref h2, .ref h3, .int (nI n), .int cd])) (h1, .inl (cC, 60, .inr (.inr (.inr (.inr (fun t8 => if t8 < n then some (ad t8) else none)))))) (h2, .inl (cI, 6, .inl ct)) (h3, .inr (1, [.ref h4])) (h4, .inl (cD, 10, .inr (.inr (.inr (.inl (fun t8 => tf_N (1023 + 2 ^ t8) 0)))))) ((o1, .inl (cJ, 1, .inr (.inl ov))) :: (o2, .inl (cD, 1, .inr (.inr (.inr (.inl od))))) :: tc_fl (tc_col cJ cD ad wd rd K Ln Wh Re) n) m0 m1 m2 m3 m4 m5 1 n K Ln Wh Re cd ct H.size) (cwV 0 hts gL_law_X3_thrown rfl rfl rfl (by decide +kernel) ⟨Nat.le_of_ble_eq_true rfl, Nat.le_of_ble_eq_true rfl⟩) ⟨tcP.blind, va_recv hK hP (ci := 3) (q0 := 5) rfl rfl, tcP.go hK hP hD hE hS⟩ rfl rfl hl.1 rfl (lv_room (Nat.le_of_ble_eq_true rfl)) dL_law_1125 ⟨by show _ ≤ 601024; omega, by show _ ≤ 7293034; omega⟩)) (fun r9 h9 => ?_)
      subst h9
      refine lv_iload hx hb dL_law_1128 (lv_at hl 1 rfl) ?_
      refine lv_icmp_eq (tgt := 1135) hx hb dL_law_1130 (by decide) (fun _ => ?_) (fun q => absurd (by decide) q)
      refine lv_iload hx hb dL_law_1135 (lv_at hl 1 rfl) ?_
      refine lv_if_ne (tgt := 1152) hx hb dL_law_1137 (by decide) (fun _ => ?_) (fun q => absurd q (by decide))
      refine lv_goto (tgt := 2390) hx hb dL_law_1152 (by decide) ?_
      refine W.widen (k := ce + 3) (n := sl + 44) (by omega) (by omega) ?_
      exact kc _ _ _ _ ⟨ad, wd, rd, n, K, Ln, Wh, Re, cd, ct, 1, ov, od, hdd, hI, hP, hD, hS, lv_sub hl [2, 3, 4, 5, 6, 7] rfl⟩
set_option maxHeartbeats 4000000 in
set_option maxRecDepth 100000 in
theorem law_14 {p : Program} {l : Launch} {e : Env} {s : State} {m : MethodId} {below : List Frame} {meth : Method} {c : Code} {D : va_G} {A : Nat → Prop} {cI cJ cD cC : ClassId} {h0 h1 h2 h3 h4 m0 m1 m2 m3 m4 m5 o1 o2 : Nat} {b L : Nat} {xs : Nat → Int32} {Q : State → Prop} (C0 : LCtx p l D A cI cJ cD cC s m c b L xs) {d : Drawn} {H : Heap} {locs : List Loc} {ls : Array Slot} {i ce sl : Nat} (hi : i + 6 ≤ L) (hce : ce + 3 ≤ 601024) (hsl : sl + 44 ≤ 7293034) (hv : LInv D A cI cJ cD cC h0 h1 h2 h3 h4 m0 m1 m2 m3 m4 m5 o1 o2 s b d H locs i ls) (kc : ∀ (d : Drawn) (H : Heap) (locs : List Loc) (ls : Array Slot), LInv D A cI cJ cD cC h0 h1 h2 h3 h4 m0 m1 m2 m3 m4 m5 o1 o2 s b d H locs i ls → W p l e room_1 (s.setDrawn d) m #[Value.ref b] below meth c H locs (ce + 3) (sl + 44) Q (F0 m 2390 ls [])) : W p l e room_1 (s.setDrawn d) m #[Value.ref b] below meth c H locs ce sl Q (F0 m 1155 ls []) := by
  obtain ⟨hx, hb, hml, hown0, htsB, hX0, hbl, hbA, hA, hL, hfl, hK0, hE0, hNc0⟩ := C0
  obtain ⟨ad, wd, rd, n, K, Ln, Wh, Re, cd, ct, th, ov, od, hdd, hI, hP, hD, hS, hl⟩ := hv
  have hn60 : n ≤ 60 := hI.1
  have hts := dr_words htsB d
  have hK : va_K D vwCl (tcTY cI cJ cD cC) (s.setDrawn d) := hK0
  have hE : tc_E A (s.setDrawn d) := hE0
  have hNc : tc_Nc (s.setDrawn d) := hNc0
  have hown : (s.setDrawn d).vm.findClass RL = some m.cls := hown0
  have hX : va_X b L xs (s.setDrawn d) s.heap := hX0
  rcases Classical.em (∃ j, j < n ∧ xs (i + 1) = nI j) with ⟨j, hj, ej⟩ | hc
  · refine lv_aload_n hx hb dL_law_1155 rfl (lv_at hl 4 rfl) ?_
    refine lv_aload_n hx hb dL_law_1156 rfl (lv_at hl 5 rfl) ?_
    refine lv_iload hx hb dL_law_1157 (lv_at hl 0 rfl) ?_
    refine lv_iconst (v := 1) hx hb dL_law_1159 (by decide) ?_
    refine lv_iadd hx hb dL_law_1160 ?_
    refine tc_sld hx hb hX hbl hbA hS hL 1 rfl (by omega) (v := (nI j)) ej dL_law_1161 ?_
    refine lv_aload_n hx hb dL_law_1162 rfl (lv_at hl 5 rfl) ?_
    refine lv_iload hx hb dL_law_1163 (lv_at hl 0 rfl) ?_
    refine lv_iconst (v := 2) hx hb dL_law_1165 (by decide) ?_
    refine lv_iadd hx hb dL_law_1166 ?_
    refine tc_sld hx hb hX hbl hbA hS hL 2 rfl (by omega) (v := (xs (i + 2))) rfl dL_law_1167 ?_
    refine lv_aload_n hx hb dL_law_1168 rfl (lv_at hl 5 rfl) ?_
    refine lv_iload hx hb dL_law_1169 (lv_at hl 0 rfl) ?_
    refine lv_iconst (v := 3) hx hb dL_law_1171 (by decide) ?_
    refine lv_iadd hx hb dL_law_1172 ?_
    refine tc_sld hx hb hX hbl hbA hS hL 3 rfl (by omega) (v := (xs (i + 3))) rfl dL_law_1173 ?_
    refine lv_aload_n hx hb dL_law_1174 rfl (lv_at hl 2 rfl) ?_
    refine va_calli (tc_noX (vx_runSX (As := [.ref h0, .int (nI j), .int (xs (i + 2)), .int (xs (i + 3)), .ref o1]) (rest := []) ⟨hx, hb, hml, hown, hts⟩ (lL_writeByte l hfl D A cI cJ cD cC h0 h1 h2 h3 h4 ad wd rd (m0, .inr (3, [.int th, .int (nI n), .ref m1, .ref m2, .ref m3, .ref m4, .int cd, .ref m5])) (m1, .inl (cI, 60, .inl K)) (m2, .inl (cI, 60, .inl (fun t8 => nI (Ln t8)))) (m3, .inl (cJ, 2400, .inr (.inl Wh))) (m4, .inl (cD, 2400, .inr (.inr (.inr (.inl Re))))) (m5, .inl (cI, 6, .inl ct)) o1 o2 ov od n K Ln Wh Re cd ct H.size hI j hj (xs (i + 2)) (xs (i + 3))) (vx_cwSW 5 hts gL_law_L_writeByte rfl rfl rfl (by decide +kernel) ⟨Nat.le_of_ble_eq_true rfl, Nat.le_of_ble_eq_true rfl⟩) ⟨tcPL.blind, tcPL.go hK hP hD hE hNc hS⟩ rfl rfl hl.1 rfl (lv_room (Nat.le_of_ble_eq_true rfl)) dL_law_1175 ⟨by show _ ≤ 601024; omega, by show _ ≤ 7293034; omega⟩)) hS (fun q _ h => h) (fun q h => h) (fun r uL t H locs ht hvm hw hB hz1 hk1 hS => ?_)
    subst hw
    obtain ⟨hP, hD⟩ := hB
    rw [ht] at hP
    have hP : va_P D vwCl (tc_Z cI cJ cD (h0, .inr (2, [.ref h1, .ref h2, .ref h3, .int (nI n), .int (cdR K Ln j (xs (i + 2)) 2 (K j))])) (h1, .inl (cC, 60, .inr (.inr (.inr (.inr (fun t8 => if t8 < n then some (ad t8) else none)))))) (h2, .inl (cI, 6, .inl (noteC ct (cdR K Ln j (xs (i + 2)) 2 (K j))))) (h3, .inr (1, [.ref h4])) (h4, .inl (cD, 10, .inr (.inr (.inr (.inl (fun t8 => tf_N (1023 + 2 ^ t8) 0)))))) ((o1, .inl (cJ, 1, .inr (.inl (vp_updL ov 0 ((cdR K Ln j (xs (i + 2)) 2 (K j)).toInt64))))) :: (o2, .inl (cD, 1, .inr (.inr (.inr (.inl od))))) :: tc_fl (tc_col cJ cD ad wd rd K Ln (wrW K Ln Wh j (xs (i + 2)) 2 ((xs (i + 3)).toInt8.toInt32.toInt64)) (wrR K Ln Re j (xs (i + 2)) 2 ((xs (i + 3)).toInt8.toInt32.toInt64))) n) m0 m1 m2 m3 m4 m5 th n K Ln Wh Re cd ct) H := hP
    have hD : va_D A (tc_Z cI cJ cD (h0, .inr (2, [.ref h1, .ref h2, .ref h3, .int (nI n), .int (cdR K Ln j (xs (i + 2)) 2 (K j))])) (h1, .inl (cC, 60, .inr (.inr (.inr (.inr (fun t8 => if t8 < n then some (ad t8) else none)))))) (h2, .inl (cI, 6, .inl (noteC ct (cdR K Ln j (xs (i + 2)) 2 (K j))))) (h3, .inr (1, [.ref h4])) (h4, .inl (cD, 10, .inr (.inr (.inr (.inl (fun t8 => tf_N (1023 + 2 ^ t8) 0)))))) ((o1, .inl (cJ, 1, .inr (.inl (vp_updL ov 0 ((cdR K Ln j (xs (i + 2)) 2 (K j)).toInt64))))) :: (o2, .inl (cD, 1, .inr (.inr (.inr (.inl od))))) :: tc_fl (tc_col cJ cD ad wd rd K Ln (wrW K Ln Wh j (xs (i + 2)) 2 ((xs (i + 3)).toInt8.toInt32.toInt64)) (wrR K Ln Re j (xs (i + 2)) 2 ((xs (i + 3)).toInt8.toInt32.toInt64))) n) m0 m1 m2 m3 m4 m5 th n K Ln Wh Re cd ct) := hD
    refine lv_istore (lv' := [(6, .int 0), (5, .int (nI i)), (4, .ref o2), (3, .ref o1), (2, .ref m0), (1, .ref h0), (0, .ref b)]) hx hb dL_law_1178 hl (by decide) rfl (fun ls hl => ?_)
    refine lv_aload_n hx hb dL_law_1180 rfl (lv_at hl 4 rfl) ?_
    refine lv_aload_n hx hb dL_law_1181 rfl (lv_at hl 6 rfl) ?_
    refine lv_iload hx hb dL_law_1182 (lv_at hl 1 rfl) ?_
    refine lv_iconst (v := 1) hx hb dL_law_1184 (by decide) ?_
    refine lv_iadd hx hb dL_law_1185 ?_
    refine tc_sld hx hb hX hbl hbA hS hL 1 rfl (by omega) (v := (nI j)) ej dL_law_1186 ?_
    refine lv_aload_n hx hb dL_law_1187 rfl (lv_at hl 6 rfl) ?_
    refine lv_iload hx hb dL_law_1188 (lv_at hl 1 rfl) ?_
    refine lv_iconst (v := 2) hx hb dL_law_1190 (by decide) ?_
    refine lv_iadd hx hb dL_law_1191 ?_
    refine tc_sld hx hb hX hbl hbA hS hL 2 rfl (by omega) (v := (xs (i + 2))) rfl dL_law_1192 ?_
    refine lv_aload_n hx hb dL_law_1193 rfl (lv_at hl 6 rfl) ?_
    refine lv_iload hx hb dL_law_1194 (lv_at hl 1 rfl) ?_
    refine lv_iconst (v := 3) hx hb dL_law_1196 (by decide) ?_
    refine lv_iadd hx hb dL_law_1197 ?_
    refine tc_sld hx hb hX hbl hbA hS hL 3 rfl (by omega) (v := (xs (i + 3))) rfl dL_law_1198 ?_
    refine va_calli (va_runV (As := [.int (nI j), .int (xs (i + 2)), .int (xs (i + 3))]) (rest := []) ⟨hx, hb, hml, hown, hts⟩ (tX3_writeByte_y l D A cI cJ cD cC (h0, .inr (2, [.ref h1, .ref h2, .ref h3, .int (nI n), .int (cdR K Ln j (xs (i + 2)) 2 (K j))])) (h1, .inl (cC, 60, .inr (.inr (.inr (.inr (fun t8 => if t8 < n then some (ad t8) else none)))))) (h2, .inl (cI, 6, .inl (noteC ct (cdR K Ln j (xs (i + 2)) 2 (K j))))) (h3, .inr (1, [.ref h4])) (h4, .inl (cD, 10, .inr (.inr (.inr (.inl (fun t8 => tf_N (1023 + 2 ^ t8) 0)))))) ((o1, .inl (cJ, 1, .inr (.inl (vp_updL ov 0 ((cdR K Ln j (xs (i + 2)) 2 (K j)).toInt64))))) :: (o2, .inl (cD, 1, .inr (.inr (.inr (.inl od))))) :: tc_fl (tc_col cJ cD ad wd rd K Ln (wrW K Ln Wh j (xs (i + 2)) 2 ((xs (i + 3)).toInt8.toInt32.toInt64)) (wrR K Ln Re j (xs (i + 2)) 2 ((xs (i + 3)).toInt8.toInt32.toInt64))) n) m0 m1 m2 m3 m4 m5 th n K Ln Wh Re cd ct H.size hI j hj (xs (i + 2)) (xs (i + 3))) (cwV 3 hts gL_law_X3_writeByte rfl rfl rfl (by decide +kernel) ⟨Nat.le_of_ble_eq_true rfl, Nat.le_of_ble_eq_true rfl⟩) ⟨tcP.blind, va_recv hK hP (ci := 3) (q0 := 5) rfl rfl, tcP.go hK hP hD hE hS⟩ rfl rfl hl.1 rfl (lv_room (Nat.le_of_ble_eq_true rfl)) dL_law_1199 ⟨by show _ ≤ 601024; omega, by show _ ≤ 7293034; omega⟩) hS (fun q _ h => h) (fun q h => h) (fun r u t H locs ht hvm hw hB hz1 hk1 hS => ?_)
    subst hw
    obtain ⟨hP, hD⟩ := hB
    rw [ht] at hP
    refine lv_istore (lv' := [(7, .int (cdR K Ln j (xs (i + 2)) 2 (K j))), (6, .int 0), (5, .int (nI i)), (4, .ref o2), (3, .ref o1), (2, .ref m0), (1, .ref h0), (0, .ref b)]) hx hb dL_law_1202 hl (by decide) rfl (fun ls hl => ?_)
    refine lv_aload_n hx hb dL_law_1204 rfl (lv_at hl 5 rfl) ?_
    refine vp_callSi (tc_CR (va_runV (As := []) (rest := []) ⟨hx, hb, hml, hown, hts⟩ (tX3_thrown l D A cI cJ cD cC (h0, .inr (2, [.ref h1, .ref h2, .ref h3, .int (nI n), .int (cdR K Ln j (xs (i + 2)) 2 (K j))])) (h1, .inl (cC, 60, .inr (.inr (.inr (.inr (fun t8 => if t8 < n then some (ad t8) else none)))))) (h2, .inl (cI, 6, .inl (noteC ct (cdR K Ln j (xs (i + 2)) 2 (K j))))) (h3, .inr (1, [.ref h4])) (h4, .inl (cD, 10, .inr (.inr (.inr (.inl (fun t8 => tf_N (1023 + 2 ^ t8) 0)))))) ((o1, .inl (cJ, 1, .inr (.inl (vp_updL ov 0 ((cdR K Ln j (xs (i + 2)) 2 (K j)).toInt64))))) :: (o2, .inl (cD, 1, .inr (.inr (.inr (.inl od))))) :: tc_fl (tc_col cJ cD ad wd rd K Ln (wrW K Ln Wh j (xs (i + 2)) 2 ((xs (i + 3)).toInt8.toInt32.toInt64)) (wrR K Ln Re j (xs (i + 2)) 2 ((xs (i + 3)).toInt8.toInt32.toInt64))) n) m0 m1 m2 m3 m4 m5 0 n K Ln (wrW K Ln Wh j (xs (i + 2)) 2 ((xs (i + 3)).toInt8.toInt32.toInt64)) (wrR K Ln Re j (xs (i + 2)) 2 ((xs (i + 3)).toInt8.toInt32.toInt64)) (cdR K Ln j (xs (i + 2)) 2 (K j)) (noteC ct (cdR K Ln j (xs (i + 2)) 2 (K j))) H.size) (cwV 0 hts gL_law_X3_thrown rfl rfl rfl (by decide +kernel) ⟨Nat.le_of_ble_eq_true rfl, Nat.le_of_ble_eq_true rfl⟩) ⟨tcP.blind, va_recv hK hP (ci := 3) (q0 := 5) rfl rfl, tcP.go hK hP hD hE hS⟩ rfl rfl hl.1 rfl (lv_room (Nat.le_of_ble_eq_true rfl)) dL_law_1205 ⟨by show _ ≤ 601024; omega, by show _ ≤ 7293034; omega⟩)) (fun r9 h9 => ?_)
    subst h9
    refine lv_iload hx hb dL_law_1208 (lv_at hl 1 rfl) ?_
    refine lv_icmp_eq (tgt := 1215) hx hb dL_law_1210 (by decide) (fun _ => ?_) (fun q => absurd (by decide) q)
    refine lv_iload hx hb dL_law_1215 (lv_at hl 1 rfl) ?_
    refine lv_if_ne (tgt := 1232) hx hb dL_law_1217 (by decide) (fun q => absurd (by decide) q) (fun _ => ?_)
    refine lv_aload_n hx hb dL_law_1220 rfl (lv_at hl 4 rfl) ?_
    refine lv_iconst (v := 0) hx hb dL_law_1221 (by decide) ?_
    refine tc_lald (f := (vp_updL ov 0 ((cdR K Ln j (xs (i + 2)) 2 (K j)).toInt64))) (v := (cdR K Ln j (xs (i + 2)) 2 (K j)).toInt64) hx hb hK hP 11 1 rfl rfl (by unfold vp_in; decide) (show (vp_updL ov 0 ((cdR K Ln j (xs (i + 2)) 2 (K j)).toInt64)) 0 = (cdR K Ln j (xs (i + 2)) 2 (K j)).toInt64 from if_pos rfl) dL_law_1222 ?_
    refine lv_iload hx hb dL_law_1223 (lv_at hl 0 rfl) ?_
    refine lv_i2l (v := (cdR K Ln j (xs (i + 2)) 2 (K j)).toInt64) hx hb dL_law_1225 rfl ?_
    refine W.lcmp hx hb dL_law_1226 ?_
    refine lv_if_eq (tgt := 1232) hx hb dL_law_1227 (by decide) (fun _ => ?_) (fun q => absurd ((lg_cmp_eq _ _).mpr rfl) q)
    refine lv_goto (tgt := 2390) hx hb dL_law_1232 (by decide) ?_
    refine W.widen (k := ce + 3) (n := sl + 44) (by omega) (by omega) ?_
    exact kc _ _ _ _ ⟨ad, wd, rd, n, K, Ln, (wrW K Ln Wh j (xs (i + 2)) 2 ((xs (i + 3)).toInt8.toInt32.toInt64)), (wrR K Ln Re j (xs (i + 2)) 2 ((xs (i + 3)).toInt8.toInt32.toInt64)), (cdR K Ln j (xs (i + 2)) 2 (K j)), (noteC ct (cdR K Ln j (xs (i + 2)) 2 (K j))), 0, (vp_updL ov 0 ((cdR K Ln j (xs (i + 2)) 2 (K j)).toInt64)), od, hdd, (tcI_w hI hj (fun q => absurd q (by decide))), hP, hD, hS, lv_sub hl [2, 3, 4, 5, 6, 7] rfl⟩
  · refine lv_aload_n hx hb dL_law_1155 rfl (lv_at hl 4 rfl) ?_
    refine lv_aload_n hx hb dL_law_1156 rfl (lv_at hl 5 rfl) ?_
    refine lv_iload hx hb dL_law_1157 (lv_at hl 0 rfl) ?_
    refine lv_iconst (v := 1) hx hb dL_law_1159 (by decide) ?_
    refine lv_iadd hx hb dL_law_1160 ?_
    refine tc_sld hx hb hX hbl hbA hS hL 1 rfl (by omega) (v := (xs (i + 1))) rfl dL_law_1161 ?_
    refine lv_aload_n hx hb dL_law_1162 rfl (lv_at hl 5 rfl) ?_
    refine lv_iload hx hb dL_law_1163 (lv_at hl 0 rfl) ?_
    refine lv_iconst (v := 2) hx hb dL_law_1165 (by decide) ?_
    refine lv_iadd hx hb dL_law_1166 ?_
    refine tc_sld hx hb hX hbl hbA hS hL 2 rfl (by omega) (v := (xs (i + 2))) rfl dL_law_1167 ?_
    refine lv_aload_n hx hb dL_law_1168 rfl (lv_at hl 5 rfl) ?_
    refine lv_iload hx hb dL_law_1169 (lv_at hl 0 rfl) ?_
    refine lv_iconst (v := 3) hx hb dL_law_1171 (by decide) ?_
    refine lv_iadd hx hb dL_law_1172 ?_
    refine tc_sld hx hb hX hbl hbA hS hL 3 rfl (by omega) (v := (xs (i + 3))) rfl dL_law_1173 ?_
    refine lv_aload_n hx hb dL_law_1174 rfl (lv_at hl 2 rfl) ?_
    refine va_calli (tc_noX (vx_runSX (As := [.ref h0, .int (xs (i + 1)), .int (xs (i + 2)), .int (xs (i + 3)), .ref o1]) (rest := []) ⟨hx, hb, hml, hown, hts⟩ (lLn_writeByte l hfl D A cI cJ cD cC h0 h1 h2 h3 h4 ad wd rd (m0, .inr (3, [.int th, .int (nI n), .ref m1, .ref m2, .ref m3, .ref m4, .int cd, .ref m5])) (m1, .inl (cI, 60, .inl K)) (m2, .inl (cI, 60, .inl (fun t8 => nI (Ln t8)))) (m3, .inl (cJ, 2400, .inr (.inl Wh))) (m4, .inl (cD, 2400, .inr (.inr (.inr (.inl Re))))) (m5, .inl (cI, 6, .inl ct)) o1 o2 ov od n K Ln Wh Re cd ct H.size hn60 (xs (i + 1)) hc (xs (i + 2)) (xs (i + 3))) (vx_cwSW 5 hts gL_law_L_writeByte rfl rfl rfl (by decide +kernel) ⟨Nat.le_of_ble_eq_true rfl, Nat.le_of_ble_eq_true rfl⟩) ⟨tcPL.blind, tcPL.go hK hP hD hE hNc hS⟩ rfl rfl hl.1 rfl (lv_room (Nat.le_of_ble_eq_true rfl)) dL_law_1175 ⟨by show _ ≤ 601024; omega, by show _ ≤ 7293034; omega⟩)) hS (fun q _ h => h) (fun q h => h) (fun r uL t H locs ht hvm hw hB hz1 hk1 hS => ?_)
    subst hw
    obtain ⟨hP, hD⟩ := hB
    rw [ht] at hP
    have hP : va_P D vwCl (tc_Z cI cJ cD (h0, .inr (2, [.ref h1, .ref h2, .ref h3, .int (nI n), .int cd])) (h1, .inl (cC, 60, .inr (.inr (.inr (.inr (fun t8 => if t8 < n then some (ad t8) else none)))))) (h2, .inl (cI, 6, .inl ct)) (h3, .inr (1, [.ref h4])) (h4, .inl (cD, 10, .inr (.inr (.inr (.inl (fun t8 => tf_N (1023 + 2 ^ t8) 0)))))) ((o1, .inl (cJ, 1, .inr (.inl ov))) :: (o2, .inl (cD, 1, .inr (.inr (.inr (.inl od))))) :: tc_fl (tc_col cJ cD ad wd rd K Ln Wh Re) n) m0 m1 m2 m3 m4 m5 th n K Ln Wh Re cd ct) H := hP
    have hD : va_D A (tc_Z cI cJ cD (h0, .inr (2, [.ref h1, .ref h2, .ref h3, .int (nI n), .int cd])) (h1, .inl (cC, 60, .inr (.inr (.inr (.inr (fun t8 => if t8 < n then some (ad t8) else none)))))) (h2, .inl (cI, 6, .inl ct)) (h3, .inr (1, [.ref h4])) (h4, .inl (cD, 10, .inr (.inr (.inr (.inl (fun t8 => tf_N (1023 + 2 ^ t8) 0)))))) ((o1, .inl (cJ, 1, .inr (.inl ov))) :: (o2, .inl (cD, 1, .inr (.inr (.inr (.inl od))))) :: tc_fl (tc_col cJ cD ad wd rd K Ln Wh Re) n) m0 m1 m2 m3 m4 m5 th n K Ln Wh Re cd ct) := hD
    refine lv_istore (lv' := [(6, .int 1), (5, .int (nI i)), (4, .ref o2), (3, .ref o1), (2, .ref m0), (1, .ref h0), (0, .ref b)]) hx hb dL_law_1178 hl (by decide) rfl (fun ls hl => ?_)
    refine lv_aload_n hx hb dL_law_1180 rfl (lv_at hl 4 rfl) ?_
    refine lv_aload_n hx hb dL_law_1181 rfl (lv_at hl 6 rfl) ?_
    refine lv_iload hx hb dL_law_1182 (lv_at hl 1 rfl) ?_
    refine lv_iconst (v := 1) hx hb dL_law_1184 (by decide) ?_
    refine lv_iadd hx hb dL_law_1185 ?_
    refine tc_sld hx hb hX hbl hbA hS hL 1 rfl (by omega) (v := (xs (i + 1))) rfl dL_law_1186 ?_
    refine lv_aload_n hx hb dL_law_1187 rfl (lv_at hl 6 rfl) ?_
    refine lv_iload hx hb dL_law_1188 (lv_at hl 1 rfl) ?_
    refine lv_iconst (v := 2) hx hb dL_law_1190 (by decide) ?_
    refine lv_iadd hx hb dL_law_1191 ?_
    refine tc_sld hx hb hX hbl hbA hS hL 2 rfl (by omega) (v := (xs (i + 2))) rfl dL_law_1192 ?_
    refine lv_aload_n hx hb dL_law_1193 rfl (lv_at hl 6 rfl) ?_
    refine lv_iload hx hb dL_law_1194 (lv_at hl 1 rfl) ?_
    refine lv_iconst (v := 3) hx hb dL_law_1196 (by decide) ?_
    refine lv_iadd hx hb dL_law_1197 ?_
    refine tc_sld hx hb hX hbl hbA hS hL 3 rfl (by omega) (v := (xs (i + 3))) rfl dL_law_1198 ?_
    refine va_calli (va_runV (As := [.int (xs (i + 1)), .int (xs (i + 2)), .int (xs (i + 3))]) (rest := []) ⟨hx, hb, hml, hown, hts⟩ (tX3_writeByte_n l D A cI cJ cD cC (h0, .inr (2, [.ref h1, .ref h2, .ref h3, .int (nI n), .int cd])) (h1, .inl (cC, 60, .inr (.inr (.inr (.inr (fun t8 => if t8 < n then some (ad t8) else none)))))) (h2, .inl (cI, 6, .inl ct)) (h3, .inr (1, [.ref h4])) (h4, .inl (cD, 10, .inr (.inr (.inr (.inl (fun t8 => tf_N (1023 + 2 ^ t8) 0)))))) ((o1, .inl (cJ, 1, .inr (.inl ov))) :: (o2, .inl (cD, 1, .inr (.inr (.inr (.inl od))))) :: tc_fl (tc_col cJ cD ad wd rd K Ln Wh Re) n) m0 m1 m2 m3 m4 m5 th n K Ln Wh Re cd ct H.size hI (xs (i + 1)) hc (xs (i + 2)) (xs (i + 3))) (cwV 3 hts gL_law_X3_writeByte rfl rfl rfl (by decide +kernel) ⟨Nat.le_of_ble_eq_true rfl, Nat.le_of_ble_eq_true rfl⟩) ⟨tcP.blind, va_recv hK hP (ci := 3) (q0 := 5) rfl rfl, tcP.go hK hP hD hE hS⟩ rfl rfl hl.1 rfl (lv_room (Nat.le_of_ble_eq_true rfl)) dL_law_1199 ⟨by show _ ≤ 601024; omega, by show _ ≤ 7293034; omega⟩) hS (fun q _ h => h) (fun q h => h) (fun r u t H locs ht hvm hw hB hz1 hk1 hS => ?_)
    subst hw
    obtain ⟨hP, hD⟩ := hB
    rw [ht] at hP
    refine lv_istore (lv' := [(7, .int 0), (6, .int 1), (5, .int (nI i)), (4, .ref o2), (3, .ref o1), (2, .ref m0), (1, .ref h0), (0, .ref b)]) hx hb dL_law_1202 hl (by decide) rfl (fun ls hl => ?_)
    refine lv_aload_n hx hb dL_law_1204 rfl (lv_at hl 5 rfl) ?_
    refine vp_callSi (tc_CR (va_runV (As := []) (rest := []) ⟨hx, hb, hml, hown, hts⟩ (tX3_thrown l D A cI cJ cD cC (h0, .inr (2, [.ref h1, .ref h2, .ref h3, .int (nI n), .int cd])) (h1, .inl (cC, 60, .inr (.inr (.inr (.inr (fun t8 => if t8 < n then some (ad t8) else none)))))) (h2, .inl (cI, 6, .inl ct)) (h3, .inr (1, [.ref h4])) (h4, .inl (cD, 10, .inr (.inr (.inr (.inl (fun t8 => tf_N (1023 + 2 ^ t8) 0)))))) ((o1, .inl (cJ, 1, .inr (.inl ov))) :: (o2, .inl (cD, 1, .inr (.inr (.inr (.inl od))))) :: tc_fl (tc_col cJ cD ad wd rd K Ln Wh Re) n) m0 m1 m2 m3 m4 m5 1 n K Ln Wh Re cd ct H.size) (cwV 0 hts gL_law_X3_thrown rfl rfl rfl (by decide +kernel) ⟨Nat.le_of_ble_eq_true rfl, Nat.le_of_ble_eq_true rfl⟩) ⟨tcP.blind, va_recv hK hP (ci := 3) (q0 := 5) rfl rfl, tcP.go hK hP hD hE hS⟩ rfl rfl hl.1 rfl (lv_room (Nat.le_of_ble_eq_true rfl)) dL_law_1205 ⟨by show _ ≤ 601024; omega, by show _ ≤ 7293034; omega⟩)) (fun r9 h9 => ?_)
    subst h9
    refine lv_iload hx hb dL_law_1208 (lv_at hl 1 rfl) ?_
    refine lv_icmp_eq (tgt := 1215) hx hb dL_law_1210 (by decide) (fun _ => ?_) (fun q => absurd (by decide) q)
    refine lv_iload hx hb dL_law_1215 (lv_at hl 1 rfl) ?_
    refine lv_if_ne (tgt := 1232) hx hb dL_law_1217 (by decide) (fun _ => ?_) (fun q => absurd q (by decide))
    refine lv_goto (tgt := 2390) hx hb dL_law_1232 (by decide) ?_
    refine W.widen (k := ce + 3) (n := sl + 44) (by omega) (by omega) ?_
    exact kc _ _ _ _ ⟨ad, wd, rd, n, K, Ln, Wh, Re, cd, ct, 1, ov, od, hdd, hI, hP, hD, hS, lv_sub hl [2, 3, 4, 5, 6, 7] rfl⟩
set_option maxHeartbeats 4000000 in
set_option maxRecDepth 100000 in
theorem law_15 {p : Program} {l : Launch} {e : Env} {s : State} {m : MethodId} {below : List Frame} {meth : Method} {c : Code} {D : va_G} {A : Nat → Prop} {cI cJ cD cC : ClassId} {h0 h1 h2 h3 h4 m0 m1 m2 m3 m4 m5 o1 o2 : Nat} {b L : Nat} {xs : Nat → Int32} {Q : State → Prop} (C0 : LCtx p l D A cI cJ cD cC s m c b L xs) {d : Drawn} {H : Heap} {locs : List Loc} {ls : Array Slot} {i ce sl : Nat} (hi : i + 6 ≤ L) (hce : ce + 3 ≤ 601024) (hsl : sl + 44 ≤ 7293034) (hv : LInv D A cI cJ cD cC h0 h1 h2 h3 h4 m0 m1 m2 m3 m4 m5 o1 o2 s b d H locs i ls) (kc : ∀ (d : Drawn) (H : Heap) (locs : List Loc) (ls : Array Slot), LInv D A cI cJ cD cC h0 h1 h2 h3 h4 m0 m1 m2 m3 m4 m5 o1 o2 s b d H locs i ls → W p l e room_1 (s.setDrawn d) m #[Value.ref b] below meth c H locs (ce + 3) (sl + 44) Q (F0 m 2390 ls [])) : W p l e room_1 (s.setDrawn d) m #[Value.ref b] below meth c H locs ce sl Q (F0 m 1235 ls []) := by
  obtain ⟨hx, hb, hml, hown0, htsB, hX0, hbl, hbA, hA, hL, hfl, hK0, hE0, hNc0⟩ := C0
  obtain ⟨ad, wd, rd, n, K, Ln, Wh, Re, cd, ct, th, ov, od, hdd, hI, hP, hD, hS, hl⟩ := hv
  have hn60 : n ≤ 60 := hI.1
  have hts := dr_words htsB d
  have hK : va_K D vwCl (tcTY cI cJ cD cC) (s.setDrawn d) := hK0
  have hE : tc_E A (s.setDrawn d) := hE0
  have hNc : tc_Nc (s.setDrawn d) := hNc0
  have hown : (s.setDrawn d).vm.findClass RL = some m.cls := hown0
  have hX : va_X b L xs (s.setDrawn d) s.heap := hX0
  rcases Classical.em (∃ j, j < n ∧ xs (i + 1) = nI j) with ⟨j, hj, ej⟩ | hc
  · refine lv_aload_n hx hb dL_law_1235 rfl (lv_at hl 4 rfl) ?_
    refine lv_aload_n hx hb dL_law_1236 rfl (lv_at hl 5 rfl) ?_
    refine lv_iload hx hb dL_law_1237 (lv_at hl 0 rfl) ?_
    refine lv_iconst (v := 1) hx hb dL_law_1239 (by decide) ?_
    refine lv_iadd hx hb dL_law_1240 ?_
    refine tc_sld hx hb hX hbl hbA hS hL 1 rfl (by omega) (v := (nI j)) ej dL_law_1241 ?_
    refine lv_aload_n hx hb dL_law_1242 rfl (lv_at hl 5 rfl) ?_
    refine lv_iload hx hb dL_law_1243 (lv_at hl 0 rfl) ?_
    refine lv_iconst (v := 2) hx hb dL_law_1245 (by decide) ?_
    refine lv_iadd hx hb dL_law_1246 ?_
    refine tc_sld hx hb hX hbl hbA hS hL 2 rfl (by omega) (v := (xs (i + 2))) rfl dL_law_1247 ?_
    refine lv_aload_n hx hb dL_law_1248 rfl (lv_at hl 5 rfl) ?_
    refine lv_iload hx hb dL_law_1249 (lv_at hl 0 rfl) ?_
    refine lv_iconst (v := 3) hx hb dL_law_1251 (by decide) ?_
    refine lv_iadd hx hb dL_law_1252 ?_
    refine tc_sld hx hb hX hbl hbA hS hL 3 rfl (by omega) (v := (xs (i + 3))) rfl dL_law_1253 ?_
    refine lv_aload_n hx hb dL_law_1254 rfl (lv_at hl 2 rfl) ?_
    refine va_calli (tc_noX (vx_runSX (As := [.ref h0, .int (nI j), .int (xs (i + 2)), .int (xs (i + 3)), .ref o1]) (rest := []) ⟨hx, hb, hml, hown, hts⟩ (lL_writeChar l hfl D A cI cJ cD cC h0 h1 h2 h3 h4 ad wd rd (m0, .inr (3, [.int th, .int (nI n), .ref m1, .ref m2, .ref m3, .ref m4, .int cd, .ref m5])) (m1, .inl (cI, 60, .inl K)) (m2, .inl (cI, 60, .inl (fun t8 => nI (Ln t8)))) (m3, .inl (cJ, 2400, .inr (.inl Wh))) (m4, .inl (cD, 2400, .inr (.inr (.inr (.inl Re))))) (m5, .inl (cI, 6, .inl ct)) o1 o2 ov od n K Ln Wh Re cd ct H.size hI j hj (xs (i + 2)) (xs (i + 3))) (vx_cwSW 5 hts gL_law_L_writeChar rfl rfl rfl (by decide +kernel) ⟨Nat.le_of_ble_eq_true rfl, Nat.le_of_ble_eq_true rfl⟩) ⟨tcPL.blind, tcPL.go hK hP hD hE hNc hS⟩ rfl rfl hl.1 rfl (lv_room (Nat.le_of_ble_eq_true rfl)) dL_law_1255 ⟨by show _ ≤ 601024; omega, by show _ ≤ 7293034; omega⟩)) hS (fun q _ h => h) (fun q h => h) (fun r uL t H locs ht hvm hw hB hz1 hk1 hS => ?_)
    subst hw
    obtain ⟨hP, hD⟩ := hB
    rw [ht] at hP
    have hP : va_P D vwCl (tc_Z cI cJ cD (h0, .inr (2, [.ref h1, .ref h2, .ref h3, .int (nI n), .int (cdR K Ln j (xs (i + 2)) 3 (K j))])) (h1, .inl (cC, 60, .inr (.inr (.inr (.inr (fun t8 => if t8 < n then some (ad t8) else none)))))) (h2, .inl (cI, 6, .inl (noteC ct (cdR K Ln j (xs (i + 2)) 3 (K j))))) (h3, .inr (1, [.ref h4])) (h4, .inl (cD, 10, .inr (.inr (.inr (.inl (fun t8 => tf_N (1023 + 2 ^ t8) 0)))))) ((o1, .inl (cJ, 1, .inr (.inl (vp_updL ov 0 ((cdR K Ln j (xs (i + 2)) 3 (K j)).toInt64))))) :: (o2, .inl (cD, 1, .inr (.inr (.inr (.inl od))))) :: tc_fl (tc_col cJ cD ad wd rd K Ln (wrW K Ln Wh j (xs (i + 2)) 3 (((xs (i + 3)).toUInt32 % 65536).toInt32.toInt64)) (wrR K Ln Re j (xs (i + 2)) 3 (((xs (i + 3)).toUInt32 % 65536).toInt32.toInt64))) n) m0 m1 m2 m3 m4 m5 th n K Ln Wh Re cd ct) H := hP
    have hD : va_D A (tc_Z cI cJ cD (h0, .inr (2, [.ref h1, .ref h2, .ref h3, .int (nI n), .int (cdR K Ln j (xs (i + 2)) 3 (K j))])) (h1, .inl (cC, 60, .inr (.inr (.inr (.inr (fun t8 => if t8 < n then some (ad t8) else none)))))) (h2, .inl (cI, 6, .inl (noteC ct (cdR K Ln j (xs (i + 2)) 3 (K j))))) (h3, .inr (1, [.ref h4])) (h4, .inl (cD, 10, .inr (.inr (.inr (.inl (fun t8 => tf_N (1023 + 2 ^ t8) 0)))))) ((o1, .inl (cJ, 1, .inr (.inl (vp_updL ov 0 ((cdR K Ln j (xs (i + 2)) 3 (K j)).toInt64))))) :: (o2, .inl (cD, 1, .inr (.inr (.inr (.inl od))))) :: tc_fl (tc_col cJ cD ad wd rd K Ln (wrW K Ln Wh j (xs (i + 2)) 3 (((xs (i + 3)).toUInt32 % 65536).toInt32.toInt64)) (wrR K Ln Re j (xs (i + 2)) 3 (((xs (i + 3)).toUInt32 % 65536).toInt32.toInt64))) n) m0 m1 m2 m3 m4 m5 th n K Ln Wh Re cd ct) := hD
    refine lv_istore (lv' := [(6, .int 0), (5, .int (nI i)), (4, .ref o2), (3, .ref o1), (2, .ref m0), (1, .ref h0), (0, .ref b)]) hx hb dL_law_1258 hl (by decide) rfl (fun ls hl => ?_)
    refine lv_aload_n hx hb dL_law_1260 rfl (lv_at hl 4 rfl) ?_
    refine lv_aload_n hx hb dL_law_1261 rfl (lv_at hl 6 rfl) ?_
    refine lv_iload hx hb dL_law_1262 (lv_at hl 1 rfl) ?_
    refine lv_iconst (v := 1) hx hb dL_law_1264 (by decide) ?_
    refine lv_iadd hx hb dL_law_1265 ?_
    refine tc_sld hx hb hX hbl hbA hS hL 1 rfl (by omega) (v := (nI j)) ej dL_law_1266 ?_
    refine lv_aload_n hx hb dL_law_1267 rfl (lv_at hl 6 rfl) ?_
    refine lv_iload hx hb dL_law_1268 (lv_at hl 1 rfl) ?_
    refine lv_iconst (v := 2) hx hb dL_law_1270 (by decide) ?_
    refine lv_iadd hx hb dL_law_1271 ?_
    refine tc_sld hx hb hX hbl hbA hS hL 2 rfl (by omega) (v := (xs (i + 2))) rfl dL_law_1272 ?_
    refine lv_aload_n hx hb dL_law_1273 rfl (lv_at hl 6 rfl) ?_
    refine lv_iload hx hb dL_law_1274 (lv_at hl 1 rfl) ?_
    refine lv_iconst (v := 3) hx hb dL_law_1276 (by decide) ?_
    refine lv_iadd hx hb dL_law_1277 ?_
    refine tc_sld hx hb hX hbl hbA hS hL 3 rfl (by omega) (v := (xs (i + 3))) rfl dL_law_1278 ?_
    refine va_calli (va_runV (As := [.int (nI j), .int (xs (i + 2)), .int (xs (i + 3))]) (rest := []) ⟨hx, hb, hml, hown, hts⟩ (tX3_writeChar_y l D A cI cJ cD cC (h0, .inr (2, [.ref h1, .ref h2, .ref h3, .int (nI n), .int (cdR K Ln j (xs (i + 2)) 3 (K j))])) (h1, .inl (cC, 60, .inr (.inr (.inr (.inr (fun t8 => if t8 < n then some (ad t8) else none)))))) (h2, .inl (cI, 6, .inl (noteC ct (cdR K Ln j (xs (i + 2)) 3 (K j))))) (h3, .inr (1, [.ref h4])) (h4, .inl (cD, 10, .inr (.inr (.inr (.inl (fun t8 => tf_N (1023 + 2 ^ t8) 0)))))) ((o1, .inl (cJ, 1, .inr (.inl (vp_updL ov 0 ((cdR K Ln j (xs (i + 2)) 3 (K j)).toInt64))))) :: (o2, .inl (cD, 1, .inr (.inr (.inr (.inl od))))) :: tc_fl (tc_col cJ cD ad wd rd K Ln (wrW K Ln Wh j (xs (i + 2)) 3 (((xs (i + 3)).toUInt32 % 65536).toInt32.toInt64)) (wrR K Ln Re j (xs (i + 2)) 3 (((xs (i + 3)).toUInt32 % 65536).toInt32.toInt64))) n) m0 m1 m2 m3 m4 m5 th n K Ln Wh Re cd ct H.size hI j hj (xs (i + 2)) (xs (i + 3))) (cwV 3 hts gL_law_X3_writeChar rfl rfl rfl (by decide +kernel) ⟨Nat.le_of_ble_eq_true rfl, Nat.le_of_ble_eq_true rfl⟩) ⟨tcP.blind, va_recv hK hP (ci := 3) (q0 := 5) rfl rfl, tcP.go hK hP hD hE hS⟩ rfl rfl hl.1 rfl (lv_room (Nat.le_of_ble_eq_true rfl)) dL_law_1279 ⟨by show _ ≤ 601024; omega, by show _ ≤ 7293034; omega⟩) hS (fun q _ h => h) (fun q h => h) (fun r u t H locs ht hvm hw hB hz1 hk1 hS => ?_)
    subst hw
    obtain ⟨hP, hD⟩ := hB
    rw [ht] at hP
    refine lv_istore (lv' := [(7, .int (cdR K Ln j (xs (i + 2)) 3 (K j))), (6, .int 0), (5, .int (nI i)), (4, .ref o2), (3, .ref o1), (2, .ref m0), (1, .ref h0), (0, .ref b)]) hx hb dL_law_1282 hl (by decide) rfl (fun ls hl => ?_)
    refine lv_aload_n hx hb dL_law_1284 rfl (lv_at hl 5 rfl) ?_
    refine vp_callSi (tc_CR (va_runV (As := []) (rest := []) ⟨hx, hb, hml, hown, hts⟩ (tX3_thrown l D A cI cJ cD cC (h0, .inr (2, [.ref h1, .ref h2, .ref h3, .int (nI n), .int (cdR K Ln j (xs (i + 2)) 3 (K j))])) (h1, .inl (cC, 60, .inr (.inr (.inr (.inr (fun t8 => if t8 < n then some (ad t8) else none)))))) (h2, .inl (cI, 6, .inl (noteC ct (cdR K Ln j (xs (i + 2)) 3 (K j))))) (h3, .inr (1, [.ref h4])) (h4, .inl (cD, 10, .inr (.inr (.inr (.inl (fun t8 => tf_N (1023 + 2 ^ t8) 0)))))) ((o1, .inl (cJ, 1, .inr (.inl (vp_updL ov 0 ((cdR K Ln j (xs (i + 2)) 3 (K j)).toInt64))))) :: (o2, .inl (cD, 1, .inr (.inr (.inr (.inl od))))) :: tc_fl (tc_col cJ cD ad wd rd K Ln (wrW K Ln Wh j (xs (i + 2)) 3 (((xs (i + 3)).toUInt32 % 65536).toInt32.toInt64)) (wrR K Ln Re j (xs (i + 2)) 3 (((xs (i + 3)).toUInt32 % 65536).toInt32.toInt64))) n) m0 m1 m2 m3 m4 m5 0 n K Ln (wrW K Ln Wh j (xs (i + 2)) 3 (((xs (i + 3)).toUInt32 % 65536).toInt32.toInt64)) (wrR K Ln Re j (xs (i + 2)) 3 (((xs (i + 3)).toUInt32 % 65536).toInt32.toInt64)) (cdR K Ln j (xs (i + 2)) 3 (K j)) (noteC ct (cdR K Ln j (xs (i + 2)) 3 (K j))) H.size) (cwV 0 hts gL_law_X3_thrown rfl rfl rfl (by decide +kernel) ⟨Nat.le_of_ble_eq_true rfl, Nat.le_of_ble_eq_true rfl⟩) ⟨tcP.blind, va_recv hK hP (ci := 3) (q0 := 5) rfl rfl, tcP.go hK hP hD hE hS⟩ rfl rfl hl.1 rfl (lv_room (Nat.le_of_ble_eq_true rfl)) dL_law_1285 ⟨by show _ ≤ 601024; omega, by show _ ≤ 7293034; omega⟩)) (fun r9 h9 => ?_)
    subst h9
    refine lv_iload hx hb dL_law_1288 (lv_at hl 1 rfl) ?_
    refine lv_icmp_eq (tgt := 1295) hx hb dL_law_1290 (by decide) (fun _ => ?_) (fun q => absurd (by decide) q)
    refine lv_iload hx hb dL_law_1295 (lv_at hl 1 rfl) ?_
    refine lv_if_ne (tgt := 1312) hx hb dL_law_1297 (by decide) (fun q => absurd (by decide) q) (fun _ => ?_)
    refine lv_aload_n hx hb dL_law_1300 rfl (lv_at hl 4 rfl) ?_
    refine lv_iconst (v := 0) hx hb dL_law_1301 (by decide) ?_
    refine tc_lald (f := (vp_updL ov 0 ((cdR K Ln j (xs (i + 2)) 3 (K j)).toInt64))) (v := (cdR K Ln j (xs (i + 2)) 3 (K j)).toInt64) hx hb hK hP 11 1 rfl rfl (by unfold vp_in; decide) (show (vp_updL ov 0 ((cdR K Ln j (xs (i + 2)) 3 (K j)).toInt64)) 0 = (cdR K Ln j (xs (i + 2)) 3 (K j)).toInt64 from if_pos rfl) dL_law_1302 ?_
    refine lv_iload hx hb dL_law_1303 (lv_at hl 0 rfl) ?_
    refine lv_i2l (v := (cdR K Ln j (xs (i + 2)) 3 (K j)).toInt64) hx hb dL_law_1305 rfl ?_
    refine W.lcmp hx hb dL_law_1306 ?_
    refine lv_if_eq (tgt := 1312) hx hb dL_law_1307 (by decide) (fun _ => ?_) (fun q => absurd ((lg_cmp_eq _ _).mpr rfl) q)
    refine lv_goto (tgt := 2390) hx hb dL_law_1312 (by decide) ?_
    refine W.widen (k := ce + 3) (n := sl + 44) (by omega) (by omega) ?_
    exact kc _ _ _ _ ⟨ad, wd, rd, n, K, Ln, (wrW K Ln Wh j (xs (i + 2)) 3 (((xs (i + 3)).toUInt32 % 65536).toInt32.toInt64)), (wrR K Ln Re j (xs (i + 2)) 3 (((xs (i + 3)).toUInt32 % 65536).toInt32.toInt64)), (cdR K Ln j (xs (i + 2)) 3 (K j)), (noteC ct (cdR K Ln j (xs (i + 2)) 3 (K j))), 0, (vp_updL ov 0 ((cdR K Ln j (xs (i + 2)) 3 (K j)).toInt64)), od, hdd, (tcI_w hI hj (fun q => absurd q (by decide))), hP, hD, hS, lv_sub hl [2, 3, 4, 5, 6, 7] rfl⟩
  · refine lv_aload_n hx hb dL_law_1235 rfl (lv_at hl 4 rfl) ?_
    refine lv_aload_n hx hb dL_law_1236 rfl (lv_at hl 5 rfl) ?_
    refine lv_iload hx hb dL_law_1237 (lv_at hl 0 rfl) ?_
    refine lv_iconst (v := 1) hx hb dL_law_1239 (by decide) ?_
    refine lv_iadd hx hb dL_law_1240 ?_
    refine tc_sld hx hb hX hbl hbA hS hL 1 rfl (by omega) (v := (xs (i + 1))) rfl dL_law_1241 ?_
    refine lv_aload_n hx hb dL_law_1242 rfl (lv_at hl 5 rfl) ?_
    refine lv_iload hx hb dL_law_1243 (lv_at hl 0 rfl) ?_
    refine lv_iconst (v := 2) hx hb dL_law_1245 (by decide) ?_
    refine lv_iadd hx hb dL_law_1246 ?_
    refine tc_sld hx hb hX hbl hbA hS hL 2 rfl (by omega) (v := (xs (i + 2))) rfl dL_law_1247 ?_
    refine lv_aload_n hx hb dL_law_1248 rfl (lv_at hl 5 rfl) ?_
    refine lv_iload hx hb dL_law_1249 (lv_at hl 0 rfl) ?_
    refine lv_iconst (v := 3) hx hb dL_law_1251 (by decide) ?_
    refine lv_iadd hx hb dL_law_1252 ?_
    refine tc_sld hx hb hX hbl hbA hS hL 3 rfl (by omega) (v := (xs (i + 3))) rfl dL_law_1253 ?_
    refine lv_aload_n hx hb dL_law_1254 rfl (lv_at hl 2 rfl) ?_
    refine va_calli (tc_noX (vx_runSX (As := [.ref h0, .int (xs (i + 1)), .int (xs (i + 2)), .int (xs (i + 3)), .ref o1]) (rest := []) ⟨hx, hb, hml, hown, hts⟩ (lLn_writeChar l hfl D A cI cJ cD cC h0 h1 h2 h3 h4 ad wd rd (m0, .inr (3, [.int th, .int (nI n), .ref m1, .ref m2, .ref m3, .ref m4, .int cd, .ref m5])) (m1, .inl (cI, 60, .inl K)) (m2, .inl (cI, 60, .inl (fun t8 => nI (Ln t8)))) (m3, .inl (cJ, 2400, .inr (.inl Wh))) (m4, .inl (cD, 2400, .inr (.inr (.inr (.inl Re))))) (m5, .inl (cI, 6, .inl ct)) o1 o2 ov od n K Ln Wh Re cd ct H.size hn60 (xs (i + 1)) hc (xs (i + 2)) (xs (i + 3))) (vx_cwSW 5 hts gL_law_L_writeChar rfl rfl rfl (by decide +kernel) ⟨Nat.le_of_ble_eq_true rfl, Nat.le_of_ble_eq_true rfl⟩) ⟨tcPL.blind, tcPL.go hK hP hD hE hNc hS⟩ rfl rfl hl.1 rfl (lv_room (Nat.le_of_ble_eq_true rfl)) dL_law_1255 ⟨by show _ ≤ 601024; omega, by show _ ≤ 7293034; omega⟩)) hS (fun q _ h => h) (fun q h => h) (fun r uL t H locs ht hvm hw hB hz1 hk1 hS => ?_)
    subst hw
    obtain ⟨hP, hD⟩ := hB
    rw [ht] at hP
    have hP : va_P D vwCl (tc_Z cI cJ cD (h0, .inr (2, [.ref h1, .ref h2, .ref h3, .int (nI n), .int cd])) (h1, .inl (cC, 60, .inr (.inr (.inr (.inr (fun t8 => if t8 < n then some (ad t8) else none)))))) (h2, .inl (cI, 6, .inl ct)) (h3, .inr (1, [.ref h4])) (h4, .inl (cD, 10, .inr (.inr (.inr (.inl (fun t8 => tf_N (1023 + 2 ^ t8) 0)))))) ((o1, .inl (cJ, 1, .inr (.inl ov))) :: (o2, .inl (cD, 1, .inr (.inr (.inr (.inl od))))) :: tc_fl (tc_col cJ cD ad wd rd K Ln Wh Re) n) m0 m1 m2 m3 m4 m5 th n K Ln Wh Re cd ct) H := hP
    have hD : va_D A (tc_Z cI cJ cD (h0, .inr (2, [.ref h1, .ref h2, .ref h3, .int (nI n), .int cd])) (h1, .inl (cC, 60, .inr (.inr (.inr (.inr (fun t8 => if t8 < n then some (ad t8) else none)))))) (h2, .inl (cI, 6, .inl ct)) (h3, .inr (1, [.ref h4])) (h4, .inl (cD, 10, .inr (.inr (.inr (.inl (fun t8 => tf_N (1023 + 2 ^ t8) 0)))))) ((o1, .inl (cJ, 1, .inr (.inl ov))) :: (o2, .inl (cD, 1, .inr (.inr (.inr (.inl od))))) :: tc_fl (tc_col cJ cD ad wd rd K Ln Wh Re) n) m0 m1 m2 m3 m4 m5 th n K Ln Wh Re cd ct) := hD
    refine lv_istore (lv' := [(6, .int 1), (5, .int (nI i)), (4, .ref o2), (3, .ref o1), (2, .ref m0), (1, .ref h0), (0, .ref b)]) hx hb dL_law_1258 hl (by decide) rfl (fun ls hl => ?_)
    refine lv_aload_n hx hb dL_law_1260 rfl (lv_at hl 4 rfl) ?_
    refine lv_aload_n hx hb dL_law_1261 rfl (lv_at hl 6 rfl) ?_
    refine lv_iload hx hb dL_law_1262 (lv_at hl 1 rfl) ?_
    refine lv_iconst (v := 1) hx hb dL_law_1264 (by decide) ?_
    refine lv_iadd hx hb dL_law_1265 ?_
    refine tc_sld hx hb hX hbl hbA hS hL 1 rfl (by omega) (v := (xs (i + 1))) rfl dL_law_1266 ?_
    refine lv_aload_n hx hb dL_law_1267 rfl (lv_at hl 6 rfl) ?_
    refine lv_iload hx hb dL_law_1268 (lv_at hl 1 rfl) ?_
    refine lv_iconst (v := 2) hx hb dL_law_1270 (by decide) ?_
    refine lv_iadd hx hb dL_law_1271 ?_
    refine tc_sld hx hb hX hbl hbA hS hL 2 rfl (by omega) (v := (xs (i + 2))) rfl dL_law_1272 ?_
    refine lv_aload_n hx hb dL_law_1273 rfl (lv_at hl 6 rfl) ?_
    refine lv_iload hx hb dL_law_1274 (lv_at hl 1 rfl) ?_
    refine lv_iconst (v := 3) hx hb dL_law_1276 (by decide) ?_
    refine lv_iadd hx hb dL_law_1277 ?_
    refine tc_sld hx hb hX hbl hbA hS hL 3 rfl (by omega) (v := (xs (i + 3))) rfl dL_law_1278 ?_
    refine va_calli (va_runV (As := [.int (xs (i + 1)), .int (xs (i + 2)), .int (xs (i + 3))]) (rest := []) ⟨hx, hb, hml, hown, hts⟩ (tX3_writeChar_n l D A cI cJ cD cC (h0, .inr (2, [.ref h1, .ref h2, .ref h3, .int (nI n), .int cd])) (h1, .inl (cC, 60, .inr (.inr (.inr (.inr (fun t8 => if t8 < n then some (ad t8) else none)))))) (h2, .inl (cI, 6, .inl ct)) (h3, .inr (1, [.ref h4])) (h4, .inl (cD, 10, .inr (.inr (.inr (.inl (fun t8 => tf_N (1023 + 2 ^ t8) 0)))))) ((o1, .inl (cJ, 1, .inr (.inl ov))) :: (o2, .inl (cD, 1, .inr (.inr (.inr (.inl od))))) :: tc_fl (tc_col cJ cD ad wd rd K Ln Wh Re) n) m0 m1 m2 m3 m4 m5 th n K Ln Wh Re cd ct H.size hI (xs (i + 1)) hc (xs (i + 2)) (xs (i + 3))) (cwV 3 hts gL_law_X3_writeChar rfl rfl rfl (by decide +kernel) ⟨Nat.le_of_ble_eq_true rfl, Nat.le_of_ble_eq_true rfl⟩) ⟨tcP.blind, va_recv hK hP (ci := 3) (q0 := 5) rfl rfl, tcP.go hK hP hD hE hS⟩ rfl rfl hl.1 rfl (lv_room (Nat.le_of_ble_eq_true rfl)) dL_law_1279 ⟨by show _ ≤ 601024; omega, by show _ ≤ 7293034; omega⟩) hS (fun q _ h => h) (fun q h => h) (fun r u t H locs ht hvm hw hB hz1 hk1 hS => ?_)
    subst hw
    obtain ⟨hP, hD⟩ := hB
    rw [ht] at hP
    refine lv_istore (lv' := [(7, .int 0), (6, .int 1), (5, .int (nI i)), (4, .ref o2), (3, .ref o1), (2, .ref m0), (1, .ref h0), (0, .ref b)]) hx hb dL_law_1282 hl (by decide) rfl (fun ls hl => ?_)
    refine lv_aload_n hx hb dL_law_1284 rfl (lv_at hl 5 rfl) ?_
    refine vp_callSi (tc_CR (va_runV (As := []) (rest := []) ⟨hx, hb, hml, hown, hts⟩ (tX3_thrown l D A cI cJ cD cC (h0, .inr (2, [.ref h1, .ref h2, .ref h3, .int (nI n), .int cd])) (h1, .inl (cC, 60, .inr (.inr (.inr (.inr (fun t8 => if t8 < n then some (ad t8) else none)))))) (h2, .inl (cI, 6, .inl ct)) (h3, .inr (1, [.ref h4])) (h4, .inl (cD, 10, .inr (.inr (.inr (.inl (fun t8 => tf_N (1023 + 2 ^ t8) 0)))))) ((o1, .inl (cJ, 1, .inr (.inl ov))) :: (o2, .inl (cD, 1, .inr (.inr (.inr (.inl od))))) :: tc_fl (tc_col cJ cD ad wd rd K Ln Wh Re) n) m0 m1 m2 m3 m4 m5 1 n K Ln Wh Re cd ct H.size) (cwV 0 hts gL_law_X3_thrown rfl rfl rfl (by decide +kernel) ⟨Nat.le_of_ble_eq_true rfl, Nat.le_of_ble_eq_true rfl⟩) ⟨tcP.blind, va_recv hK hP (ci := 3) (q0 := 5) rfl rfl, tcP.go hK hP hD hE hS⟩ rfl rfl hl.1 rfl (lv_room (Nat.le_of_ble_eq_true rfl)) dL_law_1285 ⟨by show _ ≤ 601024; omega, by show _ ≤ 7293034; omega⟩)) (fun r9 h9 => ?_)
    subst h9
    refine lv_iload hx hb dL_law_1288 (lv_at hl 1 rfl) ?_
    refine lv_icmp_eq (tgt := 1295) hx hb dL_law_1290 (by decide) (fun _ => ?_) (fun q => absurd (by decide) q)
    refine lv_iload hx hb dL_law_1295 (lv_at hl 1 rfl) ?_
    refine lv_if_ne (tgt := 1312) hx hb dL_law_1297 (by decide) (fun _ => ?_) (fun q => absurd q (by decide))
    refine lv_goto (tgt := 2390) hx hb dL_law_1312 (by decide) ?_
    refine W.widen (k := ce + 3) (n := sl + 44) (by omega) (by omega) ?_
    exact kc _ _ _ _ ⟨ad, wd, rd, n, K, Ln, Wh, Re, cd, ct, 1, ov, od, hdd, hI, hP, hD, hS, lv_sub hl [2, 3, 4, 5, 6, 7] rfl⟩
set_option maxHeartbeats 4000000 in
set_option maxRecDepth 100000 in
theorem law_16 {p : Program} {l : Launch} {e : Env} {s : State} {m : MethodId} {below : List Frame} {meth : Method} {c : Code} {D : va_G} {A : Nat → Prop} {cI cJ cD cC : ClassId} {h0 h1 h2 h3 h4 m0 m1 m2 m3 m4 m5 o1 o2 : Nat} {b L : Nat} {xs : Nat → Int32} {Q : State → Prop} (C0 : LCtx p l D A cI cJ cD cC s m c b L xs) {d : Drawn} {H : Heap} {locs : List Loc} {ls : Array Slot} {i ce sl : Nat} (hi : i + 6 ≤ L) (hce : ce + 3 ≤ 601024) (hsl : sl + 44 ≤ 7293034) (hv : LInv D A cI cJ cD cC h0 h1 h2 h3 h4 m0 m1 m2 m3 m4 m5 o1 o2 s b d H locs i ls) (kc : ∀ (d : Drawn) (H : Heap) (locs : List Loc) (ls : Array Slot), LInv D A cI cJ cD cC h0 h1 h2 h3 h4 m0 m1 m2 m3 m4 m5 o1 o2 s b d H locs i ls → W p l e room_1 (s.setDrawn d) m #[Value.ref b] below meth c H locs (ce + 3) (sl + 44) Q (F0 m 2390 ls [])) : W p l e room_1 (s.setDrawn d) m #[Value.ref b] below meth c H locs ce sl Q (F0 m 1315 ls []) := by
  obtain ⟨hx, hb, hml, hown0, htsB, hX0, hbl, hbA, hA, hL, hfl, hK0, hE0, hNc0⟩ := C0
  obtain ⟨ad, wd, rd, n, K, Ln, Wh, Re, cd, ct, th, ov, od, hdd, hI, hP, hD, hS, hl⟩ := hv
  have hn60 : n ≤ 60 := hI.1
  have hts := dr_words htsB d
  have hK : va_K D vwCl (tcTY cI cJ cD cC) (s.setDrawn d) := hK0
  have hE : tc_E A (s.setDrawn d) := hE0
  have hNc : tc_Nc (s.setDrawn d) := hNc0
  have hown : (s.setDrawn d).vm.findClass RL = some m.cls := hown0
  have hX : va_X b L xs (s.setDrawn d) s.heap := hX0
  rcases Classical.em (∃ j, j < n ∧ xs (i + 1) = nI j) with ⟨j, hj, ej⟩ | hc
  · refine lv_aload_n hx hb dL_law_1315 rfl (lv_at hl 4 rfl) ?_
    refine lv_aload_n hx hb dL_law_1316 rfl (lv_at hl 5 rfl) ?_
    refine lv_iload hx hb dL_law_1317 (lv_at hl 0 rfl) ?_
    refine lv_iconst (v := 1) hx hb dL_law_1319 (by decide) ?_
    refine lv_iadd hx hb dL_law_1320 ?_
    refine tc_sld hx hb hX hbl hbA hS hL 1 rfl (by omega) (v := (nI j)) ej dL_law_1321 ?_
    refine lv_aload_n hx hb dL_law_1322 rfl (lv_at hl 5 rfl) ?_
    refine lv_iload hx hb dL_law_1323 (lv_at hl 0 rfl) ?_
    refine lv_iconst (v := 2) hx hb dL_law_1325 (by decide) ?_
    refine lv_iadd hx hb dL_law_1326 ?_
    refine tc_sld hx hb hX hbl hbA hS hL 2 rfl (by omega) (v := (xs (i + 2))) rfl dL_law_1327 ?_
    refine lv_aload_n hx hb dL_law_1328 rfl (lv_at hl 5 rfl) ?_
    refine lv_iload hx hb dL_law_1329 (lv_at hl 0 rfl) ?_
    refine lv_iconst (v := 3) hx hb dL_law_1331 (by decide) ?_
    refine lv_iadd hx hb dL_law_1332 ?_
    refine tc_sld hx hb hX hbl hbA hS hL 3 rfl (by omega) (v := (xs (i + 3))) rfl dL_law_1333 ?_
    refine lv_aload_n hx hb dL_law_1334 rfl (lv_at hl 2 rfl) ?_
    refine va_calli (tc_noX (vx_runSX (As := [.ref h0, .int (nI j), .int (xs (i + 2)), .int (xs (i + 3)), .ref o1]) (rest := []) ⟨hx, hb, hml, hown, hts⟩ (lL_writeShort l hfl D A cI cJ cD cC h0 h1 h2 h3 h4 ad wd rd (m0, .inr (3, [.int th, .int (nI n), .ref m1, .ref m2, .ref m3, .ref m4, .int cd, .ref m5])) (m1, .inl (cI, 60, .inl K)) (m2, .inl (cI, 60, .inl (fun t8 => nI (Ln t8)))) (m3, .inl (cJ, 2400, .inr (.inl Wh))) (m4, .inl (cD, 2400, .inr (.inr (.inr (.inl Re))))) (m5, .inl (cI, 6, .inl ct)) o1 o2 ov od n K Ln Wh Re cd ct H.size hI j hj (xs (i + 2)) (xs (i + 3))) (vx_cwSW 5 hts gL_law_L_writeShort rfl rfl rfl (by decide +kernel) ⟨Nat.le_of_ble_eq_true rfl, Nat.le_of_ble_eq_true rfl⟩) ⟨tcPL.blind, tcPL.go hK hP hD hE hNc hS⟩ rfl rfl hl.1 rfl (lv_room (Nat.le_of_ble_eq_true rfl)) dL_law_1335 ⟨by show _ ≤ 601024; omega, by show _ ≤ 7293034; omega⟩)) hS (fun q _ h => h) (fun q h => h) (fun r uL t H locs ht hvm hw hB hz1 hk1 hS => ?_)
    subst hw
    obtain ⟨hP, hD⟩ := hB
    rw [ht] at hP
    have hP : va_P D vwCl (tc_Z cI cJ cD (h0, .inr (2, [.ref h1, .ref h2, .ref h3, .int (nI n), .int (cdR K Ln j (xs (i + 2)) 4 (K j))])) (h1, .inl (cC, 60, .inr (.inr (.inr (.inr (fun t8 => if t8 < n then some (ad t8) else none)))))) (h2, .inl (cI, 6, .inl (noteC ct (cdR K Ln j (xs (i + 2)) 4 (K j))))) (h3, .inr (1, [.ref h4])) (h4, .inl (cD, 10, .inr (.inr (.inr (.inl (fun t8 => tf_N (1023 + 2 ^ t8) 0)))))) ((o1, .inl (cJ, 1, .inr (.inl (vp_updL ov 0 ((cdR K Ln j (xs (i + 2)) 4 (K j)).toInt64))))) :: (o2, .inl (cD, 1, .inr (.inr (.inr (.inl od))))) :: tc_fl (tc_col cJ cD ad wd rd K Ln (wrW K Ln Wh j (xs (i + 2)) 4 ((xs (i + 3)).toInt16.toInt32.toInt64)) (wrR K Ln Re j (xs (i + 2)) 4 ((xs (i + 3)).toInt16.toInt32.toInt64))) n) m0 m1 m2 m3 m4 m5 th n K Ln Wh Re cd ct) H := hP
    have hD : va_D A (tc_Z cI cJ cD (h0, .inr (2, [.ref h1, .ref h2, .ref h3, .int (nI n), .int (cdR K Ln j (xs (i + 2)) 4 (K j))])) (h1, .inl (cC, 60, .inr (.inr (.inr (.inr (fun t8 => if t8 < n then some (ad t8) else none)))))) (h2, .inl (cI, 6, .inl (noteC ct (cdR K Ln j (xs (i + 2)) 4 (K j))))) (h3, .inr (1, [.ref h4])) (h4, .inl (cD, 10, .inr (.inr (.inr (.inl (fun t8 => tf_N (1023 + 2 ^ t8) 0)))))) ((o1, .inl (cJ, 1, .inr (.inl (vp_updL ov 0 ((cdR K Ln j (xs (i + 2)) 4 (K j)).toInt64))))) :: (o2, .inl (cD, 1, .inr (.inr (.inr (.inl od))))) :: tc_fl (tc_col cJ cD ad wd rd K Ln (wrW K Ln Wh j (xs (i + 2)) 4 ((xs (i + 3)).toInt16.toInt32.toInt64)) (wrR K Ln Re j (xs (i + 2)) 4 ((xs (i + 3)).toInt16.toInt32.toInt64))) n) m0 m1 m2 m3 m4 m5 th n K Ln Wh Re cd ct) := hD
    refine lv_istore (lv' := [(6, .int 0), (5, .int (nI i)), (4, .ref o2), (3, .ref o1), (2, .ref m0), (1, .ref h0), (0, .ref b)]) hx hb dL_law_1338 hl (by decide) rfl (fun ls hl => ?_)
    refine lv_aload_n hx hb dL_law_1340 rfl (lv_at hl 4 rfl) ?_
    refine lv_aload_n hx hb dL_law_1341 rfl (lv_at hl 6 rfl) ?_
    refine lv_iload hx hb dL_law_1342 (lv_at hl 1 rfl) ?_
    refine lv_iconst (v := 1) hx hb dL_law_1344 (by decide) ?_
    refine lv_iadd hx hb dL_law_1345 ?_
    refine tc_sld hx hb hX hbl hbA hS hL 1 rfl (by omega) (v := (nI j)) ej dL_law_1346 ?_
    refine lv_aload_n hx hb dL_law_1347 rfl (lv_at hl 6 rfl) ?_
    refine lv_iload hx hb dL_law_1348 (lv_at hl 1 rfl) ?_
    refine lv_iconst (v := 2) hx hb dL_law_1350 (by decide) ?_
    refine lv_iadd hx hb dL_law_1351 ?_
    refine tc_sld hx hb hX hbl hbA hS hL 2 rfl (by omega) (v := (xs (i + 2))) rfl dL_law_1352 ?_
    refine lv_aload_n hx hb dL_law_1353 rfl (lv_at hl 6 rfl) ?_
    refine lv_iload hx hb dL_law_1354 (lv_at hl 1 rfl) ?_
    refine lv_iconst (v := 3) hx hb dL_law_1356 (by decide) ?_
    refine lv_iadd hx hb dL_law_1357 ?_
    refine tc_sld hx hb hX hbl hbA hS hL 3 rfl (by omega) (v := (xs (i + 3))) rfl dL_law_1358 ?_
    refine va_calli (va_runV (As := [.int (nI j), .int (xs (i + 2)), .int (xs (i + 3))]) (rest := []) ⟨hx, hb, hml, hown, hts⟩ (tX3_writeShort_y l D A cI cJ cD cC (h0, .inr (2, [.ref h1, .ref h2, .ref h3, .int (nI n), .int (cdR K Ln j (xs (i + 2)) 4 (K j))])) (h1, .inl (cC, 60, .inr (.inr (.inr (.inr (fun t8 => if t8 < n then some (ad t8) else none)))))) (h2, .inl (cI, 6, .inl (noteC ct (cdR K Ln j (xs (i + 2)) 4 (K j))))) (h3, .inr (1, [.ref h4])) (h4, .inl (cD, 10, .inr (.inr (.inr (.inl (fun t8 => tf_N (1023 + 2 ^ t8) 0)))))) ((o1, .inl (cJ, 1, .inr (.inl (vp_updL ov 0 ((cdR K Ln j (xs (i + 2)) 4 (K j)).toInt64))))) :: (o2, .inl (cD, 1, .inr (.inr (.inr (.inl od))))) :: tc_fl (tc_col cJ cD ad wd rd K Ln (wrW K Ln Wh j (xs (i + 2)) 4 ((xs (i + 3)).toInt16.toInt32.toInt64)) (wrR K Ln Re j (xs (i + 2)) 4 ((xs (i + 3)).toInt16.toInt32.toInt64))) n) m0 m1 m2 m3 m4 m5 th n K Ln Wh Re cd ct H.size hI j hj (xs (i + 2)) (xs (i + 3))) (cwV 3 hts gL_law_X3_writeShort rfl rfl rfl (by decide +kernel) ⟨Nat.le_of_ble_eq_true rfl, Nat.le_of_ble_eq_true rfl⟩) ⟨tcP.blind, va_recv hK hP (ci := 3) (q0 := 5) rfl rfl, tcP.go hK hP hD hE hS⟩ rfl rfl hl.1 rfl (lv_room (Nat.le_of_ble_eq_true rfl)) dL_law_1359 ⟨by show _ ≤ 601024; omega, by show _ ≤ 7293034; omega⟩) hS (fun q _ h => h) (fun q h => h) (fun r u t H locs ht hvm hw hB hz1 hk1 hS => ?_)
    subst hw
    obtain ⟨hP, hD⟩ := hB
    rw [ht] at hP
    refine lv_istore (lv' := [(7, .int (cdR K Ln j (xs (i + 2)) 4 (K j))), (6, .int 0), (5, .int (nI i)), (4, .ref o2), (3, .ref o1), (2, .ref m0), (1, .ref h0), (0, .ref b)]) hx hb dL_law_1362 hl (by decide) rfl (fun ls hl => ?_)
    refine lv_aload_n hx hb dL_law_1364 rfl (lv_at hl 5 rfl) ?_
    refine vp_callSi (tc_CR (va_runV (As := []) (rest := []) ⟨hx, hb, hml, hown, hts⟩ (tX3_thrown l D A cI cJ cD cC (h0, .inr (2, [.ref h1, .ref h2, .ref h3, .int (nI n), .int (cdR K Ln j (xs (i + 2)) 4 (K j))])) (h1, .inl (cC, 60, .inr (.inr (.inr (.inr (fun t8 => if t8 < n then some (ad t8) else none)))))) (h2, .inl (cI, 6, .inl (noteC ct (cdR K Ln j (xs (i + 2)) 4 (K j))))) (h3, .inr (1, [.ref h4])) (h4, .inl (cD, 10, .inr (.inr (.inr (.inl (fun t8 => tf_N (1023 + 2 ^ t8) 0)))))) ((o1, .inl (cJ, 1, .inr (.inl (vp_updL ov 0 ((cdR K Ln j (xs (i + 2)) 4 (K j)).toInt64))))) :: (o2, .inl (cD, 1, .inr (.inr (.inr (.inl od))))) :: tc_fl (tc_col cJ cD ad wd rd K Ln (wrW K Ln Wh j (xs (i + 2)) 4 ((xs (i + 3)).toInt16.toInt32.toInt64)) (wrR K Ln Re j (xs (i + 2)) 4 ((xs (i + 3)).toInt16.toInt32.toInt64))) n) m0 m1 m2 m3 m4 m5 0 n K Ln (wrW K Ln Wh j (xs (i + 2)) 4 ((xs (i + 3)).toInt16.toInt32.toInt64)) (wrR K Ln Re j (xs (i + 2)) 4 ((xs (i + 3)).toInt16.toInt32.toInt64)) (cdR K Ln j (xs (i + 2)) 4 (K j)) (noteC ct (cdR K Ln j (xs (i + 2)) 4 (K j))) H.size) (cwV 0 hts gL_law_X3_thrown rfl rfl rfl (by decide +kernel) ⟨Nat.le_of_ble_eq_true rfl, Nat.le_of_ble_eq_true rfl⟩) ⟨tcP.blind, va_recv hK hP (ci := 3) (q0 := 5) rfl rfl, tcP.go hK hP hD hE hS⟩ rfl rfl hl.1 rfl (lv_room (Nat.le_of_ble_eq_true rfl)) dL_law_1365 ⟨by show _ ≤ 601024; omega, by show _ ≤ 7293034; omega⟩)) (fun r9 h9 => ?_)
    subst h9
    refine lv_iload hx hb dL_law_1368 (lv_at hl 1 rfl) ?_
    refine lv_icmp_eq (tgt := 1375) hx hb dL_law_1370 (by decide) (fun _ => ?_) (fun q => absurd (by decide) q)
    refine lv_iload hx hb dL_law_1375 (lv_at hl 1 rfl) ?_
    refine lv_if_ne (tgt := 1392) hx hb dL_law_1377 (by decide) (fun q => absurd (by decide) q) (fun _ => ?_)
    refine lv_aload_n hx hb dL_law_1380 rfl (lv_at hl 4 rfl) ?_
    refine lv_iconst (v := 0) hx hb dL_law_1381 (by decide) ?_
    refine tc_lald (f := (vp_updL ov 0 ((cdR K Ln j (xs (i + 2)) 4 (K j)).toInt64))) (v := (cdR K Ln j (xs (i + 2)) 4 (K j)).toInt64) hx hb hK hP 11 1 rfl rfl (by unfold vp_in; decide) (show (vp_updL ov 0 ((cdR K Ln j (xs (i + 2)) 4 (K j)).toInt64)) 0 = (cdR K Ln j (xs (i + 2)) 4 (K j)).toInt64 from if_pos rfl) dL_law_1382 ?_
    refine lv_iload hx hb dL_law_1383 (lv_at hl 0 rfl) ?_
    refine lv_i2l (v := (cdR K Ln j (xs (i + 2)) 4 (K j)).toInt64) hx hb dL_law_1385 rfl ?_
    refine W.lcmp hx hb dL_law_1386 ?_
    refine lv_if_eq (tgt := 1392) hx hb dL_law_1387 (by decide) (fun _ => ?_) (fun q => absurd ((lg_cmp_eq _ _).mpr rfl) q)
    refine lv_goto (tgt := 2390) hx hb dL_law_1392 (by decide) ?_
    refine W.widen (k := ce + 3) (n := sl + 44) (by omega) (by omega) ?_
    exact kc _ _ _ _ ⟨ad, wd, rd, n, K, Ln, (wrW K Ln Wh j (xs (i + 2)) 4 ((xs (i + 3)).toInt16.toInt32.toInt64)), (wrR K Ln Re j (xs (i + 2)) 4 ((xs (i + 3)).toInt16.toInt32.toInt64)), (cdR K Ln j (xs (i + 2)) 4 (K j)), (noteC ct (cdR K Ln j (xs (i + 2)) 4 (K j))), 0, (vp_updL ov 0 ((cdR K Ln j (xs (i + 2)) 4 (K j)).toInt64)), od, hdd, (tcI_w hI hj (fun q => absurd q (by decide))), hP, hD, hS, lv_sub hl [2, 3, 4, 5, 6, 7] rfl⟩
  · refine lv_aload_n hx hb dL_law_1315 rfl (lv_at hl 4 rfl) ?_
    refine lv_aload_n hx hb dL_law_1316 rfl (lv_at hl 5 rfl) ?_
    refine lv_iload hx hb dL_law_1317 (lv_at hl 0 rfl) ?_
    refine lv_iconst (v := 1) hx hb dL_law_1319 (by decide) ?_
    refine lv_iadd hx hb dL_law_1320 ?_
    refine tc_sld hx hb hX hbl hbA hS hL 1 rfl (by omega) (v := (xs (i + 1))) rfl dL_law_1321 ?_
    refine lv_aload_n hx hb dL_law_1322 rfl (lv_at hl 5 rfl) ?_
    refine lv_iload hx hb dL_law_1323 (lv_at hl 0 rfl) ?_
    refine lv_iconst (v := 2) hx hb dL_law_1325 (by decide) ?_
    refine lv_iadd hx hb dL_law_1326 ?_
    refine tc_sld hx hb hX hbl hbA hS hL 2 rfl (by omega) (v := (xs (i + 2))) rfl dL_law_1327 ?_
    refine lv_aload_n hx hb dL_law_1328 rfl (lv_at hl 5 rfl) ?_
    refine lv_iload hx hb dL_law_1329 (lv_at hl 0 rfl) ?_
    refine lv_iconst (v := 3) hx hb dL_law_1331 (by decide) ?_
    refine lv_iadd hx hb dL_law_1332 ?_
    refine tc_sld hx hb hX hbl hbA hS hL 3 rfl (by omega) (v := (xs (i + 3))) rfl dL_law_1333 ?_
    refine lv_aload_n hx hb dL_law_1334 rfl (lv_at hl 2 rfl) ?_
    refine va_calli (tc_noX (vx_runSX (As := [.ref h0, .int (xs (i + 1)), .int (xs (i + 2)), .int (xs (i + 3)), .ref o1]) (rest := []) ⟨hx, hb, hml, hown, hts⟩ (lLn_writeShort l hfl D A cI cJ cD cC h0 h1 h2 h3 h4 ad wd rd (m0, .inr (3, [.int th, .int (nI n), .ref m1, .ref m2, .ref m3, .ref m4, .int cd, .ref m5])) (m1, .inl (cI, 60, .inl K)) (m2, .inl (cI, 60, .inl (fun t8 => nI (Ln t8)))) (m3, .inl (cJ, 2400, .inr (.inl Wh))) (m4, .inl (cD, 2400, .inr (.inr (.inr (.inl Re))))) (m5, .inl (cI, 6, .inl ct)) o1 o2 ov od n K Ln Wh Re cd ct H.size hn60 (xs (i + 1)) hc (xs (i + 2)) (xs (i + 3))) (vx_cwSW 5 hts gL_law_L_writeShort rfl rfl rfl (by decide +kernel) ⟨Nat.le_of_ble_eq_true rfl, Nat.le_of_ble_eq_true rfl⟩) ⟨tcPL.blind, tcPL.go hK hP hD hE hNc hS⟩ rfl rfl hl.1 rfl (lv_room (Nat.le_of_ble_eq_true rfl)) dL_law_1335 ⟨by show _ ≤ 601024; omega, by show _ ≤ 7293034; omega⟩)) hS (fun q _ h => h) (fun q h => h) (fun r uL t H locs ht hvm hw hB hz1 hk1 hS => ?_)
    subst hw
    obtain ⟨hP, hD⟩ := hB
    rw [ht] at hP
    have hP : va_P D vwCl (tc_Z cI cJ cD (h0, .inr (2, [.ref h1, .ref h2, .ref h3, .int (nI n), .int cd])) (h1, .inl (cC, 60, .inr (.inr (.inr (.inr (fun t8 => if t8 < n then some (ad t8) else none)))))) (h2, .inl (cI, 6, .inl ct)) (h3, .inr (1, [.ref h4])) (h4, .inl (cD, 10, .inr (.inr (.inr (.inl (fun t8 => tf_N (1023 + 2 ^ t8) 0)))))) ((o1, .inl (cJ, 1, .inr (.inl ov))) :: (o2, .inl (cD, 1, .inr (.inr (.inr (.inl od))))) :: tc_fl (tc_col cJ cD ad wd rd K Ln Wh Re) n) m0 m1 m2 m3 m4 m5 th n K Ln Wh Re cd ct) H := hP
    have hD : va_D A (tc_Z cI cJ cD (h0, .inr (2, [.ref h1, .ref h2, .ref h3, .int (nI n), .int cd])) (h1, .inl (cC, 60, .inr (.inr (.inr (.inr (fun t8 => if t8 < n then some (ad t8) else none)))))) (h2, .inl (cI, 6, .inl ct)) (h3, .inr (1, [.ref h4])) (h4, .inl (cD, 10, .inr (.inr (.inr (.inl (fun t8 => tf_N (1023 + 2 ^ t8) 0)))))) ((o1, .inl (cJ, 1, .inr (.inl ov))) :: (o2, .inl (cD, 1, .inr (.inr (.inr (.inl od))))) :: tc_fl (tc_col cJ cD ad wd rd K Ln Wh Re) n) m0 m1 m2 m3 m4 m5 th n K Ln Wh Re cd ct) := hD
    refine lv_istore (lv' := [(6, .int 1), (5, .int (nI i)), (4, .ref o2), (3, .ref o1), (2, .ref m0), (1, .ref h0), (0, .ref b)]) hx hb dL_law_1338 hl (by decide) rfl (fun ls hl => ?_)
    refine lv_aload_n hx hb dL_law_1340 rfl (lv_at hl 4 rfl) ?_
    refine lv_aload_n hx hb dL_law_1341 rfl (lv_at hl 6 rfl) ?_
    refine lv_iload hx hb dL_law_1342 (lv_at hl 1 rfl) ?_
    refine lv_iconst (v := 1) hx hb dL_law_1344 (by decide) ?_
    refine lv_iadd hx hb dL_law_1345 ?_
    refine tc_sld hx hb hX hbl hbA hS hL 1 rfl (by omega) (v := (xs (i + 1))) rfl dL_law_1346 ?_
    refine lv_aload_n hx hb dL_law_1347 rfl (lv_at hl 6 rfl) ?_
    refine lv_iload hx hb dL_law_1348 (lv_at hl 1 rfl) ?_
    refine lv_iconst (v := 2) hx hb dL_law_1350 (by decide) ?_
    refine lv_iadd hx hb dL_law_1351 ?_
    refine tc_sld hx hb hX hbl hbA hS hL 2 rfl (by omega) (v := (xs (i + 2))) rfl dL_law_1352 ?_
    refine lv_aload_n hx hb dL_law_1353 rfl (lv_at hl 6 rfl) ?_
    refine lv_iload hx hb dL_law_1354 (lv_at hl 1 rfl) ?_
    refine lv_iconst (v := 3) hx hb dL_law_1356 (by decide) ?_
    refine lv_iadd hx hb dL_law_1357 ?_
    refine tc_sld hx hb hX hbl hbA hS hL 3 rfl (by omega) (v := (xs (i + 3))) rfl dL_law_1358 ?_
    refine va_calli (va_runV (As := [.int (xs (i + 1)), .int (xs (i + 2)), .int (xs (i + 3))]) (rest := []) ⟨hx, hb, hml, hown, hts⟩ (tX3_writeShort_n l D A cI cJ cD cC (h0, .inr (2, [.ref h1, .ref h2, .ref h3, .int (nI n), .int cd])) (h1, .inl (cC, 60, .inr (.inr (.inr (.inr (fun t8 => if t8 < n then some (ad t8) else none)))))) (h2, .inl (cI, 6, .inl ct)) (h3, .inr (1, [.ref h4])) (h4, .inl (cD, 10, .inr (.inr (.inr (.inl (fun t8 => tf_N (1023 + 2 ^ t8) 0)))))) ((o1, .inl (cJ, 1, .inr (.inl ov))) :: (o2, .inl (cD, 1, .inr (.inr (.inr (.inl od))))) :: tc_fl (tc_col cJ cD ad wd rd K Ln Wh Re) n) m0 m1 m2 m3 m4 m5 th n K Ln Wh Re cd ct H.size hI (xs (i + 1)) hc (xs (i + 2)) (xs (i + 3))) (cwV 3 hts gL_law_X3_writeShort rfl rfl rfl (by decide +kernel) ⟨Nat.le_of_ble_eq_true rfl, Nat.le_of_ble_eq_true rfl⟩) ⟨tcP.blind, va_recv hK hP (ci := 3) (q0 := 5) rfl rfl, tcP.go hK hP hD hE hS⟩ rfl rfl hl.1 rfl (lv_room (Nat.le_of_ble_eq_true rfl)) dL_law_1359 ⟨by show _ ≤ 601024; omega, by show _ ≤ 7293034; omega⟩) hS (fun q _ h => h) (fun q h => h) (fun r u t H locs ht hvm hw hB hz1 hk1 hS => ?_)
    subst hw
    obtain ⟨hP, hD⟩ := hB
    rw [ht] at hP
    refine lv_istore (lv' := [(7, .int 0), (6, .int 1), (5, .int (nI i)), (4, .ref o2), (3, .ref o1), (2, .ref m0), (1, .ref h0), (0, .ref b)]) hx hb dL_law_1362 hl (by decide) rfl (fun ls hl => ?_)
    refine lv_aload_n hx hb dL_law_1364 rfl (lv_at hl 5 rfl) ?_
    refine vp_callSi (tc_CR (va_runV (As := []) (rest := []) ⟨hx, hb, hml, hown, hts⟩ (tX3_thrown l D A cI cJ cD cC (h0, .inr (2, [.ref h1, .ref h2, .ref h3, .int (nI n), .int cd])) (h1, .inl (cC, 60, .inr (.inr (.inr (.inr (fun t8 => if t8 < n then some (ad t8) else none)))))) (h2, .inl (cI, 6, .inl ct)) (h3, .inr (1, [.ref h4])) (h4, .inl (cD, 10, .inr (.inr (.inr (.inl (fun t8 => tf_N (1023 + 2 ^ t8) 0)))))) ((o1, .inl (cJ, 1, .inr (.inl ov))) :: (o2, .inl (cD, 1, .inr (.inr (.inr (.inl od))))) :: tc_fl (tc_col cJ cD ad wd rd K Ln Wh Re) n) m0 m1 m2 m3 m4 m5 1 n K Ln Wh Re cd ct H.size) (cwV 0 hts gL_law_X3_thrown rfl rfl rfl (by decide +kernel) ⟨Nat.le_of_ble_eq_true rfl, Nat.le_of_ble_eq_true rfl⟩) ⟨tcP.blind, va_recv hK hP (ci := 3) (q0 := 5) rfl rfl, tcP.go hK hP hD hE hS⟩ rfl rfl hl.1 rfl (lv_room (Nat.le_of_ble_eq_true rfl)) dL_law_1365 ⟨by show _ ≤ 601024; omega, by show _ ≤ 7293034; omega⟩)) (fun r9 h9 => ?_)
    subst h9
    refine lv_iload hx hb dL_law_1368 (lv_at hl 1 rfl) ?_
    refine lv_icmp_eq (tgt := 1375) hx hb dL_law_1370 (by decide) (fun _ => ?_) (fun q => absurd (by decide) q)
    refine lv_iload hx hb dL_law_1375 (lv_at hl 1 rfl) ?_
    refine lv_if_ne (tgt := 1392) hx hb dL_law_1377 (by decide) (fun _ => ?_) (fun q => absurd q (by decide))
    refine lv_goto (tgt := 2390) hx hb dL_law_1392 (by decide) ?_
    refine W.widen (k := ce + 3) (n := sl + 44) (by omega) (by omega) ?_
    exact kc _ _ _ _ ⟨ad, wd, rd, n, K, Ln, Wh, Re, cd, ct, 1, ov, od, hdd, hI, hP, hD, hS, lv_sub hl [2, 3, 4, 5, 6, 7] rfl⟩
set_option maxHeartbeats 4000000 in
set_option maxRecDepth 100000 in
theorem law_17 {p : Program} {l : Launch} {e : Env} {s : State} {m : MethodId} {below : List Frame} {meth : Method} {c : Code} {D : va_G} {A : Nat → Prop} {cI cJ cD cC : ClassId} {h0 h1 h2 h3 h4 m0 m1 m2 m3 m4 m5 o1 o2 : Nat} {b L : Nat} {xs : Nat → Int32} {Q : State → Prop} (C0 : LCtx p l D A cI cJ cD cC s m c b L xs) {d : Drawn} {H : Heap} {locs : List Loc} {ls : Array Slot} {i ce sl : Nat} (hi : i + 6 ≤ L) (hce : ce + 3 ≤ 601024) (hsl : sl + 44 ≤ 7293034) (hv : LInv D A cI cJ cD cC h0 h1 h2 h3 h4 m0 m1 m2 m3 m4 m5 o1 o2 s b d H locs i ls) (kc : ∀ (d : Drawn) (H : Heap) (locs : List Loc) (ls : Array Slot), LInv D A cI cJ cD cC h0 h1 h2 h3 h4 m0 m1 m2 m3 m4 m5 o1 o2 s b d H locs i ls → W p l e room_1 (s.setDrawn d) m #[Value.ref b] below meth c H locs (ce + 3) (sl + 44) Q (F0 m 2390 ls [])) : W p l e room_1 (s.setDrawn d) m #[Value.ref b] below meth c H locs ce sl Q (F0 m 1395 ls []) := by
  obtain ⟨hx, hb, hml, hown0, htsB, hX0, hbl, hbA, hA, hL, hfl, hK0, hE0, hNc0⟩ := C0
  obtain ⟨ad, wd, rd, n, K, Ln, Wh, Re, cd, ct, th, ov, od, hdd, hI, hP, hD, hS, hl⟩ := hv
  have hn60 : n ≤ 60 := hI.1
  have hts := dr_words htsB d
  have hK : va_K D vwCl (tcTY cI cJ cD cC) (s.setDrawn d) := hK0
  have hE : tc_E A (s.setDrawn d) := hE0
  have hNc : tc_Nc (s.setDrawn d) := hNc0
  have hown : (s.setDrawn d).vm.findClass RL = some m.cls := hown0
  have hX : va_X b L xs (s.setDrawn d) s.heap := hX0
  rcases Classical.em (∃ j, j < n ∧ xs (i + 1) = nI j) with ⟨j, hj, ej⟩ | hc
  · refine lv_aload_n hx hb dL_law_1395 rfl (lv_at hl 4 rfl) ?_
    refine lv_aload_n hx hb dL_law_1396 rfl (lv_at hl 5 rfl) ?_
    refine lv_iload hx hb dL_law_1397 (lv_at hl 0 rfl) ?_
    refine lv_iconst (v := 1) hx hb dL_law_1399 (by decide) ?_
    refine lv_iadd hx hb dL_law_1400 ?_
    refine tc_sld hx hb hX hbl hbA hS hL 1 rfl (by omega) (v := (nI j)) ej dL_law_1401 ?_
    refine lv_aload_n hx hb dL_law_1402 rfl (lv_at hl 5 rfl) ?_
    refine lv_iload hx hb dL_law_1403 (lv_at hl 0 rfl) ?_
    refine lv_iconst (v := 2) hx hb dL_law_1405 (by decide) ?_
    refine lv_iadd hx hb dL_law_1406 ?_
    refine tc_sld hx hb hX hbl hbA hS hL 2 rfl (by omega) (v := (xs (i + 2))) rfl dL_law_1407 ?_
    refine lv_aload_n hx hb dL_law_1408 rfl (lv_at hl 5 rfl) ?_
    refine lv_iload hx hb dL_law_1409 (lv_at hl 0 rfl) ?_
    refine lv_iconst (v := 3) hx hb dL_law_1411 (by decide) ?_
    refine lv_iadd hx hb dL_law_1412 ?_
    refine tc_sld hx hb hX hbl hbA hS hL 3 rfl (by omega) (v := (xs (i + 3))) rfl dL_law_1413 ?_
    refine lv_aload_n hx hb dL_law_1414 rfl (lv_at hl 2 rfl) ?_
    refine va_calli (tc_noX (vx_runSX (As := [.ref h0, .int (nI j), .int (xs (i + 2)), .int (xs (i + 3)), .ref o1]) (rest := []) ⟨hx, hb, hml, hown, hts⟩ (lL_writeInt l hfl D A cI cJ cD cC h0 h1 h2 h3 h4 ad wd rd (m0, .inr (3, [.int th, .int (nI n), .ref m1, .ref m2, .ref m3, .ref m4, .int cd, .ref m5])) (m1, .inl (cI, 60, .inl K)) (m2, .inl (cI, 60, .inl (fun t8 => nI (Ln t8)))) (m3, .inl (cJ, 2400, .inr (.inl Wh))) (m4, .inl (cD, 2400, .inr (.inr (.inr (.inl Re))))) (m5, .inl (cI, 6, .inl ct)) o1 o2 ov od n K Ln Wh Re cd ct H.size hI j hj (xs (i + 2)) (xs (i + 3))) (vx_cwSW 5 hts gL_law_L_writeInt rfl rfl rfl (by decide +kernel) ⟨Nat.le_of_ble_eq_true rfl, Nat.le_of_ble_eq_true rfl⟩) ⟨tcPL.blind, tcPL.go hK hP hD hE hNc hS⟩ rfl rfl hl.1 rfl (lv_room (Nat.le_of_ble_eq_true rfl)) dL_law_1415 ⟨by show _ ≤ 601024; omega, by show _ ≤ 7293034; omega⟩)) hS (fun q _ h => h) (fun q h => h) (fun r uL t H locs ht hvm hw hB hz1 hk1 hS => ?_)
    subst hw
    obtain ⟨hP, hD⟩ := hB
    rw [ht] at hP
    have hP : va_P D vwCl (tc_Z cI cJ cD (h0, .inr (2, [.ref h1, .ref h2, .ref h3, .int (nI n), .int (cdR K Ln j (xs (i + 2)) 5 (K j))])) (h1, .inl (cC, 60, .inr (.inr (.inr (.inr (fun t8 => if t8 < n then some (ad t8) else none)))))) (h2, .inl (cI, 6, .inl (noteC ct (cdR K Ln j (xs (i + 2)) 5 (K j))))) (h3, .inr (1, [.ref h4])) (h4, .inl (cD, 10, .inr (.inr (.inr (.inl (fun t8 => tf_N (1023 + 2 ^ t8) 0)))))) ((o1, .inl (cJ, 1, .inr (.inl (vp_updL ov 0 ((cdR K Ln j (xs (i + 2)) 5 (K j)).toInt64))))) :: (o2, .inl (cD, 1, .inr (.inr (.inr (.inl od))))) :: tc_fl (tc_col cJ cD ad wd rd K Ln (wrW K Ln Wh j (xs (i + 2)) 5 ((xs (i + 3)).toInt64)) (wrR K Ln Re j (xs (i + 2)) 5 ((xs (i + 3)).toInt64))) n) m0 m1 m2 m3 m4 m5 th n K Ln Wh Re cd ct) H := hP
    have hD : va_D A (tc_Z cI cJ cD (h0, .inr (2, [.ref h1, .ref h2, .ref h3, .int (nI n), .int (cdR K Ln j (xs (i + 2)) 5 (K j))])) (h1, .inl (cC, 60, .inr (.inr (.inr (.inr (fun t8 => if t8 < n then some (ad t8) else none)))))) (h2, .inl (cI, 6, .inl (noteC ct (cdR K Ln j (xs (i + 2)) 5 (K j))))) (h3, .inr (1, [.ref h4])) (h4, .inl (cD, 10, .inr (.inr (.inr (.inl (fun t8 => tf_N (1023 + 2 ^ t8) 0)))))) ((o1, .inl (cJ, 1, .inr (.inl (vp_updL ov 0 ((cdR K Ln j (xs (i + 2)) 5 (K j)).toInt64))))) :: (o2, .inl (cD, 1, .inr (.inr (.inr (.inl od))))) :: tc_fl (tc_col cJ cD ad wd rd K Ln (wrW K Ln Wh j (xs (i + 2)) 5 ((xs (i + 3)).toInt64)) (wrR K Ln Re j (xs (i + 2)) 5 ((xs (i + 3)).toInt64))) n) m0 m1 m2 m3 m4 m5 th n K Ln Wh Re cd ct) := hD
    refine lv_istore (lv' := [(6, .int 0), (5, .int (nI i)), (4, .ref o2), (3, .ref o1), (2, .ref m0), (1, .ref h0), (0, .ref b)]) hx hb dL_law_1418 hl (by decide) rfl (fun ls hl => ?_)
    refine lv_aload_n hx hb dL_law_1420 rfl (lv_at hl 4 rfl) ?_
    refine lv_aload_n hx hb dL_law_1421 rfl (lv_at hl 6 rfl) ?_
    refine lv_iload hx hb dL_law_1422 (lv_at hl 1 rfl) ?_
    refine lv_iconst (v := 1) hx hb dL_law_1424 (by decide) ?_
    refine lv_iadd hx hb dL_law_1425 ?_
    refine tc_sld hx hb hX hbl hbA hS hL 1 rfl (by omega) (v := (nI j)) ej dL_law_1426 ?_
    refine lv_aload_n hx hb dL_law_1427 rfl (lv_at hl 6 rfl) ?_
    refine lv_iload hx hb dL_law_1428 (lv_at hl 1 rfl) ?_
    refine lv_iconst (v := 2) hx hb dL_law_1430 (by decide) ?_
    refine lv_iadd hx hb dL_law_1431 ?_
    refine tc_sld hx hb hX hbl hbA hS hL 2 rfl (by omega) (v := (xs (i + 2))) rfl dL_law_1432 ?_
    refine lv_aload_n hx hb dL_law_1433 rfl (lv_at hl 6 rfl) ?_
    refine lv_iload hx hb dL_law_1434 (lv_at hl 1 rfl) ?_
    refine lv_iconst (v := 3) hx hb dL_law_1436 (by decide) ?_
    refine lv_iadd hx hb dL_law_1437 ?_
    refine tc_sld hx hb hX hbl hbA hS hL 3 rfl (by omega) (v := (xs (i + 3))) rfl dL_law_1438 ?_
    refine va_calli (va_runV (As := [.int (nI j), .int (xs (i + 2)), .int (xs (i + 3))]) (rest := []) ⟨hx, hb, hml, hown, hts⟩ (tX3_writeInt_y l D A cI cJ cD cC (h0, .inr (2, [.ref h1, .ref h2, .ref h3, .int (nI n), .int (cdR K Ln j (xs (i + 2)) 5 (K j))])) (h1, .inl (cC, 60, .inr (.inr (.inr (.inr (fun t8 => if t8 < n then some (ad t8) else none)))))) (h2, .inl (cI, 6, .inl (noteC ct (cdR K Ln j (xs (i + 2)) 5 (K j))))) (h3, .inr (1, [.ref h4])) (h4, .inl (cD, 10, .inr (.inr (.inr (.inl (fun t8 => tf_N (1023 + 2 ^ t8) 0)))))) ((o1, .inl (cJ, 1, .inr (.inl (vp_updL ov 0 ((cdR K Ln j (xs (i + 2)) 5 (K j)).toInt64))))) :: (o2, .inl (cD, 1, .inr (.inr (.inr (.inl od))))) :: tc_fl (tc_col cJ cD ad wd rd K Ln (wrW K Ln Wh j (xs (i + 2)) 5 ((xs (i + 3)).toInt64)) (wrR K Ln Re j (xs (i + 2)) 5 ((xs (i + 3)).toInt64))) n) m0 m1 m2 m3 m4 m5 th n K Ln Wh Re cd ct H.size hI j hj (xs (i + 2)) (xs (i + 3))) (cwV 3 hts gL_law_X3_writeInt rfl rfl rfl (by decide +kernel) ⟨Nat.le_of_ble_eq_true rfl, Nat.le_of_ble_eq_true rfl⟩) ⟨tcP.blind, va_recv hK hP (ci := 3) (q0 := 5) rfl rfl, tcP.go hK hP hD hE hS⟩ rfl rfl hl.1 rfl (lv_room (Nat.le_of_ble_eq_true rfl)) dL_law_1439 ⟨by show _ ≤ 601024; omega, by show _ ≤ 7293034; omega⟩) hS (fun q _ h => h) (fun q h => h) (fun r u t H locs ht hvm hw hB hz1 hk1 hS => ?_)
    subst hw
    obtain ⟨hP, hD⟩ := hB
    rw [ht] at hP
    refine lv_istore (lv' := [(7, .int (cdR K Ln j (xs (i + 2)) 5 (K j))), (6, .int 0), (5, .int (nI i)), (4, .ref o2), (3, .ref o1), (2, .ref m0), (1, .ref h0), (0, .ref b)]) hx hb dL_law_1442 hl (by decide) rfl (fun ls hl => ?_)
    refine lv_aload_n hx hb dL_law_1444 rfl (lv_at hl 5 rfl) ?_
    refine vp_callSi (tc_CR (va_runV (As := []) (rest := []) ⟨hx, hb, hml, hown, hts⟩ (tX3_thrown l D A cI cJ cD cC (h0, .inr (2, [.ref h1, .ref h2, .ref h3, .int (nI n), .int (cdR K Ln j (xs (i + 2)) 5 (K j))])) (h1, .inl (cC, 60, .inr (.inr (.inr (.inr (fun t8 => if t8 < n then some (ad t8) else none)))))) (h2, .inl (cI, 6, .inl (noteC ct (cdR K Ln j (xs (i + 2)) 5 (K j))))) (h3, .inr (1, [.ref h4])) (h4, .inl (cD, 10, .inr (.inr (.inr (.inl (fun t8 => tf_N (1023 + 2 ^ t8) 0)))))) ((o1, .inl (cJ, 1, .inr (.inl (vp_updL ov 0 ((cdR K Ln j (xs (i + 2)) 5 (K j)).toInt64))))) :: (o2, .inl (cD, 1, .inr (.inr (.inr (.inl od))))) :: tc_fl (tc_col cJ cD ad wd rd K Ln (wrW K Ln Wh j (xs (i + 2)) 5 ((xs (i + 3)).toInt64)) (wrR K Ln Re j (xs (i + 2)) 5 ((xs (i + 3)).toInt64))) n) m0 m1 m2 m3 m4 m5 0 n K Ln (wrW K Ln Wh j (xs (i + 2)) 5 ((xs (i + 3)).toInt64)) (wrR K Ln Re j (xs (i + 2)) 5 ((xs (i + 3)).toInt64)) (cdR K Ln j (xs (i + 2)) 5 (K j)) (noteC ct (cdR K Ln j (xs (i + 2)) 5 (K j))) H.size) (cwV 0 hts gL_law_X3_thrown rfl rfl rfl (by decide +kernel) ⟨Nat.le_of_ble_eq_true rfl, Nat.le_of_ble_eq_true rfl⟩) ⟨tcP.blind, va_recv hK hP (ci := 3) (q0 := 5) rfl rfl, tcP.go hK hP hD hE hS⟩ rfl rfl hl.1 rfl (lv_room (Nat.le_of_ble_eq_true rfl)) dL_law_1445 ⟨by show _ ≤ 601024; omega, by show _ ≤ 7293034; omega⟩)) (fun r9 h9 => ?_)
    subst h9
    refine lv_iload hx hb dL_law_1448 (lv_at hl 1 rfl) ?_
    refine lv_icmp_eq (tgt := 1455) hx hb dL_law_1450 (by decide) (fun _ => ?_) (fun q => absurd (by decide) q)
    refine lv_iload hx hb dL_law_1455 (lv_at hl 1 rfl) ?_
    refine lv_if_ne (tgt := 1472) hx hb dL_law_1457 (by decide) (fun q => absurd (by decide) q) (fun _ => ?_)
    refine lv_aload_n hx hb dL_law_1460 rfl (lv_at hl 4 rfl) ?_
    refine lv_iconst (v := 0) hx hb dL_law_1461 (by decide) ?_
    refine tc_lald (f := (vp_updL ov 0 ((cdR K Ln j (xs (i + 2)) 5 (K j)).toInt64))) (v := (cdR K Ln j (xs (i + 2)) 5 (K j)).toInt64) hx hb hK hP 11 1 rfl rfl (by unfold vp_in; decide) (show (vp_updL ov 0 ((cdR K Ln j (xs (i + 2)) 5 (K j)).toInt64)) 0 = (cdR K Ln j (xs (i + 2)) 5 (K j)).toInt64 from if_pos rfl) dL_law_1462 ?_
    refine lv_iload hx hb dL_law_1463 (lv_at hl 0 rfl) ?_
    refine lv_i2l (v := (cdR K Ln j (xs (i + 2)) 5 (K j)).toInt64) hx hb dL_law_1465 rfl ?_
    refine W.lcmp hx hb dL_law_1466 ?_
    refine lv_if_eq (tgt := 1472) hx hb dL_law_1467 (by decide) (fun _ => ?_) (fun q => absurd ((lg_cmp_eq _ _).mpr rfl) q)
    refine lv_goto (tgt := 2390) hx hb dL_law_1472 (by decide) ?_
    refine W.widen (k := ce + 3) (n := sl + 44) (by omega) (by omega) ?_
    exact kc _ _ _ _ ⟨ad, wd, rd, n, K, Ln, (wrW K Ln Wh j (xs (i + 2)) 5 ((xs (i + 3)).toInt64)), (wrR K Ln Re j (xs (i + 2)) 5 ((xs (i + 3)).toInt64)), (cdR K Ln j (xs (i + 2)) 5 (K j)), (noteC ct (cdR K Ln j (xs (i + 2)) 5 (K j))), 0, (vp_updL ov 0 ((cdR K Ln j (xs (i + 2)) 5 (K j)).toInt64)), od, hdd, (tcI_w hI hj (fun q => absurd q (by decide))), hP, hD, hS, lv_sub hl [2, 3, 4, 5, 6, 7] rfl⟩
  · refine lv_aload_n hx hb dL_law_1395 rfl (lv_at hl 4 rfl) ?_
    refine lv_aload_n hx hb dL_law_1396 rfl (lv_at hl 5 rfl) ?_
    refine lv_iload hx hb dL_law_1397 (lv_at hl 0 rfl) ?_
    refine lv_iconst (v := 1) hx hb dL_law_1399 (by decide) ?_
    refine lv_iadd hx hb dL_law_1400 ?_
    refine tc_sld hx hb hX hbl hbA hS hL 1 rfl (by omega) (v := (xs (i + 1))) rfl dL_law_1401 ?_
    refine lv_aload_n hx hb dL_law_1402 rfl (lv_at hl 5 rfl) ?_
    refine lv_iload hx hb dL_law_1403 (lv_at hl 0 rfl) ?_
    refine lv_iconst (v := 2) hx hb dL_law_1405 (by decide) ?_
    refine lv_iadd hx hb dL_law_1406 ?_
    refine tc_sld hx hb hX hbl hbA hS hL 2 rfl (by omega) (v := (xs (i + 2))) rfl dL_law_1407 ?_
    refine lv_aload_n hx hb dL_law_1408 rfl (lv_at hl 5 rfl) ?_
    refine lv_iload hx hb dL_law_1409 (lv_at hl 0 rfl) ?_
    refine lv_iconst (v := 3) hx hb dL_law_1411 (by decide) ?_
    refine lv_iadd hx hb dL_law_1412 ?_
    refine tc_sld hx hb hX hbl hbA hS hL 3 rfl (by omega) (v := (xs (i + 3))) rfl dL_law_1413 ?_
    refine lv_aload_n hx hb dL_law_1414 rfl (lv_at hl 2 rfl) ?_
    refine va_calli (tc_noX (vx_runSX (As := [.ref h0, .int (xs (i + 1)), .int (xs (i + 2)), .int (xs (i + 3)), .ref o1]) (rest := []) ⟨hx, hb, hml, hown, hts⟩ (lLn_writeInt l hfl D A cI cJ cD cC h0 h1 h2 h3 h4 ad wd rd (m0, .inr (3, [.int th, .int (nI n), .ref m1, .ref m2, .ref m3, .ref m4, .int cd, .ref m5])) (m1, .inl (cI, 60, .inl K)) (m2, .inl (cI, 60, .inl (fun t8 => nI (Ln t8)))) (m3, .inl (cJ, 2400, .inr (.inl Wh))) (m4, .inl (cD, 2400, .inr (.inr (.inr (.inl Re))))) (m5, .inl (cI, 6, .inl ct)) o1 o2 ov od n K Ln Wh Re cd ct H.size hn60 (xs (i + 1)) hc (xs (i + 2)) (xs (i + 3))) (vx_cwSW 5 hts gL_law_L_writeInt rfl rfl rfl (by decide +kernel) ⟨Nat.le_of_ble_eq_true rfl, Nat.le_of_ble_eq_true rfl⟩) ⟨tcPL.blind, tcPL.go hK hP hD hE hNc hS⟩ rfl rfl hl.1 rfl (lv_room (Nat.le_of_ble_eq_true rfl)) dL_law_1415 ⟨by show _ ≤ 601024; omega, by show _ ≤ 7293034; omega⟩)) hS (fun q _ h => h) (fun q h => h) (fun r uL t H locs ht hvm hw hB hz1 hk1 hS => ?_)
    subst hw
    obtain ⟨hP, hD⟩ := hB
    rw [ht] at hP
    have hP : va_P D vwCl (tc_Z cI cJ cD (h0, .inr (2, [.ref h1, .ref h2, .ref h3, .int (nI n), .int cd])) (h1, .inl (cC, 60, .inr (.inr (.inr (.inr (fun t8 => if t8 < n then some (ad t8) else none)))))) (h2, .inl (cI, 6, .inl ct)) (h3, .inr (1, [.ref h4])) (h4, .inl (cD, 10, .inr (.inr (.inr (.inl (fun t8 => tf_N (1023 + 2 ^ t8) 0)))))) ((o1, .inl (cJ, 1, .inr (.inl ov))) :: (o2, .inl (cD, 1, .inr (.inr (.inr (.inl od))))) :: tc_fl (tc_col cJ cD ad wd rd K Ln Wh Re) n) m0 m1 m2 m3 m4 m5 th n K Ln Wh Re cd ct) H := hP
    have hD : va_D A (tc_Z cI cJ cD (h0, .inr (2, [.ref h1, .ref h2, .ref h3, .int (nI n), .int cd])) (h1, .inl (cC, 60, .inr (.inr (.inr (.inr (fun t8 => if t8 < n then some (ad t8) else none)))))) (h2, .inl (cI, 6, .inl ct)) (h3, .inr (1, [.ref h4])) (h4, .inl (cD, 10, .inr (.inr (.inr (.inl (fun t8 => tf_N (1023 + 2 ^ t8) 0)))))) ((o1, .inl (cJ, 1, .inr (.inl ov))) :: (o2, .inl (cD, 1, .inr (.inr (.inr (.inl od))))) :: tc_fl (tc_col cJ cD ad wd rd K Ln Wh Re) n) m0 m1 m2 m3 m4 m5 th n K Ln Wh Re cd ct) := hD
    refine lv_istore (lv' := [(6, .int 1), (5, .int (nI i)), (4, .ref o2), (3, .ref o1), (2, .ref m0), (1, .ref h0), (0, .ref b)]) hx hb dL_law_1418 hl (by decide) rfl (fun ls hl => ?_)
    refine lv_aload_n hx hb dL_law_1420 rfl (lv_at hl 4 rfl) ?_
    refine lv_aload_n hx hb dL_law_1421 rfl (lv_at hl 6 rfl) ?_
    refine lv_iload hx hb dL_law_1422 (lv_at hl 1 rfl) ?_
    refine lv_iconst (v := 1) hx hb dL_law_1424 (by decide) ?_
    refine lv_iadd hx hb dL_law_1425 ?_
    refine tc_sld hx hb hX hbl hbA hS hL 1 rfl (by omega) (v := (xs (i + 1))) rfl dL_law_1426 ?_
    refine lv_aload_n hx hb dL_law_1427 rfl (lv_at hl 6 rfl) ?_
    refine lv_iload hx hb dL_law_1428 (lv_at hl 1 rfl) ?_
    refine lv_iconst (v := 2) hx hb dL_law_1430 (by decide) ?_
    refine lv_iadd hx hb dL_law_1431 ?_
    refine tc_sld hx hb hX hbl hbA hS hL 2 rfl (by omega) (v := (xs (i + 2))) rfl dL_law_1432 ?_
    refine lv_aload_n hx hb dL_law_1433 rfl (lv_at hl 6 rfl) ?_
    refine lv_iload hx hb dL_law_1434 (lv_at hl 1 rfl) ?_
    refine lv_iconst (v := 3) hx hb dL_law_1436 (by decide) ?_
    refine lv_iadd hx hb dL_law_1437 ?_
    refine tc_sld hx hb hX hbl hbA hS hL 3 rfl (by omega) (v := (xs (i + 3))) rfl dL_law_1438 ?_
    refine va_calli (va_runV (As := [.int (xs (i + 1)), .int (xs (i + 2)), .int (xs (i + 3))]) (rest := []) ⟨hx, hb, hml, hown, hts⟩ (tX3_writeInt_n l D A cI cJ cD cC (h0, .inr (2, [.ref h1, .ref h2, .ref h3, .int (nI n), .int cd])) (h1, .inl (cC, 60, .inr (.inr (.inr (.inr (fun t8 => if t8 < n then some (ad t8) else none)))))) (h2, .inl (cI, 6, .inl ct)) (h3, .inr (1, [.ref h4])) (h4, .inl (cD, 10, .inr (.inr (.inr (.inl (fun t8 => tf_N (1023 + 2 ^ t8) 0)))))) ((o1, .inl (cJ, 1, .inr (.inl ov))) :: (o2, .inl (cD, 1, .inr (.inr (.inr (.inl od))))) :: tc_fl (tc_col cJ cD ad wd rd K Ln Wh Re) n) m0 m1 m2 m3 m4 m5 th n K Ln Wh Re cd ct H.size hI (xs (i + 1)) hc (xs (i + 2)) (xs (i + 3))) (cwV 3 hts gL_law_X3_writeInt rfl rfl rfl (by decide +kernel) ⟨Nat.le_of_ble_eq_true rfl, Nat.le_of_ble_eq_true rfl⟩) ⟨tcP.blind, va_recv hK hP (ci := 3) (q0 := 5) rfl rfl, tcP.go hK hP hD hE hS⟩ rfl rfl hl.1 rfl (lv_room (Nat.le_of_ble_eq_true rfl)) dL_law_1439 ⟨by show _ ≤ 601024; omega, by show _ ≤ 7293034; omega⟩) hS (fun q _ h => h) (fun q h => h) (fun r u t H locs ht hvm hw hB hz1 hk1 hS => ?_)
    subst hw
    obtain ⟨hP, hD⟩ := hB
    rw [ht] at hP
    refine lv_istore (lv' := [(7, .int 0), (6, .int 1), (5, .int (nI i)), (4, .ref o2), (3, .ref o1), (2, .ref m0), (1, .ref h0), (0, .ref b)]) hx hb dL_law_1442 hl (by decide) rfl (fun ls hl => ?_)
    refine lv_aload_n hx hb dL_law_1444 rfl (lv_at hl 5 rfl) ?_
    refine vp_callSi (tc_CR (va_runV (As := []) (rest := []) ⟨hx, hb, hml, hown, hts⟩ (tX3_thrown l D A cI cJ cD cC (h0, .inr (2, [.ref h1, .ref h2, .ref h3, .int (nI n), .int cd])) (h1, .inl (cC, 60, .inr (.inr (.inr (.inr (fun t8 => if t8 < n then some (ad t8) else none)))))) (h2, .inl (cI, 6, .inl ct)) (h3, .inr (1, [.ref h4])) (h4, .inl (cD, 10, .inr (.inr (.inr (.inl (fun t8 => tf_N (1023 + 2 ^ t8) 0)))))) ((o1, .inl (cJ, 1, .inr (.inl ov))) :: (o2, .inl (cD, 1, .inr (.inr (.inr (.inl od))))) :: tc_fl (tc_col cJ cD ad wd rd K Ln Wh Re) n) m0 m1 m2 m3 m4 m5 1 n K Ln Wh Re cd ct H.size) (cwV 0 hts gL_law_X3_thrown rfl rfl rfl (by decide +kernel) ⟨Nat.le_of_ble_eq_true rfl, Nat.le_of_ble_eq_true rfl⟩) ⟨tcP.blind, va_recv hK hP (ci := 3) (q0 := 5) rfl rfl, tcP.go hK hP hD hE hS⟩ rfl rfl hl.1 rfl (lv_room (Nat.le_of_ble_eq_true rfl)) dL_law_1445 ⟨by show _ ≤ 601024; omega, by show _ ≤ 7293034; omega⟩)) (fun r9 h9 => ?_)
    subst h9
    refine lv_iload hx hb dL_law_1448 (lv_at hl 1 rfl) ?_
    refine lv_icmp_eq (tgt := 1455) hx hb dL_law_1450 (by decide) (fun _ => ?_) (fun q => absurd (by decide) q)
    refine lv_iload hx hb dL_law_1455 (lv_at hl 1 rfl) ?_
    refine lv_if_ne (tgt := 1472) hx hb dL_law_1457 (by decide) (fun _ => ?_) (fun q => absurd q (by decide))
    refine lv_goto (tgt := 2390) hx hb dL_law_1472 (by decide) ?_
    refine W.widen (k := ce + 3) (n := sl + 44) (by omega) (by omega) ?_
    exact kc _ _ _ _ ⟨ad, wd, rd, n, K, Ln, Wh, Re, cd, ct, 1, ov, od, hdd, hI, hP, hD, hS, lv_sub hl [2, 3, 4, 5, 6, 7] rfl⟩
set_option maxHeartbeats 4000000 in
set_option maxRecDepth 100000 in
theorem law_18 {p : Program} {l : Launch} {e : Env} {s : State} {m : MethodId} {below : List Frame} {meth : Method} {c : Code} {D : va_G} {A : Nat → Prop} {cI cJ cD cC : ClassId} {h0 h1 h2 h3 h4 m0 m1 m2 m3 m4 m5 o1 o2 : Nat} {b L : Nat} {xs : Nat → Int32} {Q : State → Prop} (C0 : LCtx p l D A cI cJ cD cC s m c b L xs) {d : Drawn} {H : Heap} {locs : List Loc} {ls : Array Slot} {i ce sl : Nat} (hi : i + 6 ≤ L) (hce : ce + 3 ≤ 601024) (hsl : sl + 44 ≤ 7293034) (hv : LInv D A cI cJ cD cC h0 h1 h2 h3 h4 m0 m1 m2 m3 m4 m5 o1 o2 s b d H locs i ls) (kc : ∀ (d : Drawn) (H : Heap) (locs : List Loc) (ls : Array Slot), LInv D A cI cJ cD cC h0 h1 h2 h3 h4 m0 m1 m2 m3 m4 m5 o1 o2 s b d H locs i ls → W p l e room_1 (s.setDrawn d) m #[Value.ref b] below meth c H locs (ce + 3) (sl + 44) Q (F0 m 2390 ls [])) : W p l e room_1 (s.setDrawn d) m #[Value.ref b] below meth c H locs ce sl Q (F0 m 1475 ls []) := by
  obtain ⟨hx, hb, hml, hown0, htsB, hX0, hbl, hbA, hA, hL, hfl, hK0, hE0, hNc0⟩ := C0
  obtain ⟨ad, wd, rd, n, K, Ln, Wh, Re, cd, ct, th, ov, od, hdd, hI, hP, hD, hS, hl⟩ := hv
  have hn60 : n ≤ 60 := hI.1
  have hts := dr_words htsB d
  have hK : va_K D vwCl (tcTY cI cJ cD cC) (s.setDrawn d) := hK0
  have hE : tc_E A (s.setDrawn d) := hE0
  have hNc : tc_Nc (s.setDrawn d) := hNc0
  have hown : (s.setDrawn d).vm.findClass RL = some m.cls := hown0
  have hX : va_X b L xs (s.setDrawn d) s.heap := hX0
  rcases Classical.em (∃ j, j < n ∧ xs (i + 1) = nI j) with ⟨j, hj, ej⟩ | hc
  · refine lv_aload_n hx hb dL_law_1475 rfl (lv_at hl 4 rfl) ?_
    refine lv_aload_n hx hb dL_law_1476 rfl (lv_at hl 5 rfl) ?_
    refine lv_iload hx hb dL_law_1477 (lv_at hl 0 rfl) ?_
    refine lv_iconst (v := 1) hx hb dL_law_1479 (by decide) ?_
    refine lv_iadd hx hb dL_law_1480 ?_
    refine tc_sld hx hb hX hbl hbA hS hL 1 rfl (by omega) (v := (nI j)) ej dL_law_1481 ?_
    refine lv_aload_n hx hb dL_law_1482 rfl (lv_at hl 5 rfl) ?_
    refine lv_iload hx hb dL_law_1483 (lv_at hl 0 rfl) ?_
    refine lv_iconst (v := 2) hx hb dL_law_1485 (by decide) ?_
    refine lv_iadd hx hb dL_law_1486 ?_
    refine tc_sld hx hb hX hbl hbA hS hL 2 rfl (by omega) (v := (xs (i + 2))) rfl dL_law_1487 ?_
    refine lv_aload_n hx hb dL_law_1488 rfl (lv_at hl 5 rfl) ?_
    refine lv_iload hx hb dL_law_1489 (lv_at hl 0 rfl) ?_
    refine lv_iconst (v := 3) hx hb dL_law_1491 (by decide) ?_
    refine lv_iadd hx hb dL_law_1492 ?_
    refine tc_sld hx hb hX hbl hbA hS hL 3 rfl (by omega) (v := (xs (i + 3))) rfl dL_law_1493 ?_
    refine lv_i2l (v := (xs (i + 3)).toInt64) hx hb dL_law_1494 rfl ?_
    refine lv_bipush (v := 32) hx hb dL_law_1495 (by decide) ?_
    refine lv_lshl (v := ((xs (i + 3)).toInt64 <<< ((32 : Int32).toInt64 &&& 63))) hx hb dL_law_1497 rfl ?_
    refine lv_aload_n hx hb dL_law_1498 rfl (lv_at hl 5 rfl) ?_
    refine lv_iload hx hb dL_law_1499 (lv_at hl 0 rfl) ?_
    refine lv_iconst (v := 4) hx hb dL_law_1501 (by decide) ?_
    refine lv_iadd hx hb dL_law_1502 ?_
    refine tc_sld hx hb hX hbl hbA hS hL 4 rfl (by omega) (v := (xs (i + 4))) rfl dL_law_1503 ?_
    refine lv_i2l (v := (xs (i + 4)).toInt64) hx hb dL_law_1504 rfl ?_
    refine lv_ldc2 (v := 4294967295) hx hb hown (hts (.constantLong RL 184 (4294967295)) (by decide +kernel)) dL_law_1505 ?_
    refine lv_land hx hb dL_law_1508 ?_
    refine lv_lor hx hb dL_law_1509 ?_
    refine lv_aload_n hx hb dL_law_1510 rfl (lv_at hl 2 rfl) ?_
    refine va_calli (tc_noX (vx_runSX (As := [.ref h0, .int (nI j), .int (xs (i + 2)), .long (((xs (i + 3)).toInt64 <<< ((32 : Int32).toInt64 &&& 63)) ||| ((xs (i + 4)).toInt64 &&& 4294967295)), .ref o1]) (rest := []) ⟨hx, hb, hml, hown, hts⟩ (lL_writeLong l hfl D A cI cJ cD cC h0 h1 h2 h3 h4 ad wd rd (m0, .inr (3, [.int th, .int (nI n), .ref m1, .ref m2, .ref m3, .ref m4, .int cd, .ref m5])) (m1, .inl (cI, 60, .inl K)) (m2, .inl (cI, 60, .inl (fun t8 => nI (Ln t8)))) (m3, .inl (cJ, 2400, .inr (.inl Wh))) (m4, .inl (cD, 2400, .inr (.inr (.inr (.inl Re))))) (m5, .inl (cI, 6, .inl ct)) o1 o2 ov od n K Ln Wh Re cd ct H.size hI j hj (xs (i + 2)) (((xs (i + 3)).toInt64 <<< ((32 : Int32).toInt64 &&& 63)) ||| ((xs (i + 4)).toInt64 &&& 4294967295))) (vx_cwSW 5 hts gL_law_L_writeLong rfl rfl rfl (by decide +kernel) ⟨Nat.le_of_ble_eq_true rfl, Nat.le_of_ble_eq_true rfl⟩) ⟨tcPL.blind, tcPL.go hK hP hD hE hNc hS⟩ rfl rfl hl.1 rfl (lv_room (Nat.le_of_ble_eq_true rfl)) dL_law_1511 ⟨by show _ ≤ 601024; omega, by show _ ≤ 7293034; omega⟩)) hS (fun q _ h => h) (fun q h => h) (fun r uL t H locs ht hvm hw hB hz1 hk1 hS => ?_)
    subst hw
    obtain ⟨hP, hD⟩ := hB
    rw [ht] at hP
    have hP : va_P D vwCl (tc_Z cI cJ cD (h0, .inr (2, [.ref h1, .ref h2, .ref h3, .int (nI n), .int (cdR K Ln j (xs (i + 2)) 6 (K j))])) (h1, .inl (cC, 60, .inr (.inr (.inr (.inr (fun t8 => if t8 < n then some (ad t8) else none)))))) (h2, .inl (cI, 6, .inl (noteC ct (cdR K Ln j (xs (i + 2)) 6 (K j))))) (h3, .inr (1, [.ref h4])) (h4, .inl (cD, 10, .inr (.inr (.inr (.inl (fun t8 => tf_N (1023 + 2 ^ t8) 0)))))) ((o1, .inl (cJ, 1, .inr (.inl (vp_updL ov 0 ((cdR K Ln j (xs (i + 2)) 6 (K j)).toInt64))))) :: (o2, .inl (cD, 1, .inr (.inr (.inr (.inl od))))) :: tc_fl (tc_col cJ cD ad wd rd K Ln (wrW K Ln Wh j (xs (i + 2)) 6 (((xs (i + 3)).toInt64 <<< ((32 : Int32).toInt64 &&& 63)) ||| ((xs (i + 4)).toInt64 &&& 4294967295))) (wrR K Ln Re j (xs (i + 2)) 6 (((xs (i + 3)).toInt64 <<< ((32 : Int32).toInt64 &&& 63)) ||| ((xs (i + 4)).toInt64 &&& 4294967295)))) n) m0 m1 m2 m3 m4 m5 th n K Ln Wh Re cd ct) H := hP
    have hD : va_D A (tc_Z cI cJ cD (h0, .inr (2, [.ref h1, .ref h2, .ref h3, .int (nI n), .int (cdR K Ln j (xs (i + 2)) 6 (K j))])) (h1, .inl (cC, 60, .inr (.inr (.inr (.inr (fun t8 => if t8 < n then some (ad t8) else none)))))) (h2, .inl (cI, 6, .inl (noteC ct (cdR K Ln j (xs (i + 2)) 6 (K j))))) (h3, .inr (1, [.ref h4])) (h4, .inl (cD, 10, .inr (.inr (.inr (.inl (fun t8 => tf_N (1023 + 2 ^ t8) 0)))))) ((o1, .inl (cJ, 1, .inr (.inl (vp_updL ov 0 ((cdR K Ln j (xs (i + 2)) 6 (K j)).toInt64))))) :: (o2, .inl (cD, 1, .inr (.inr (.inr (.inl od))))) :: tc_fl (tc_col cJ cD ad wd rd K Ln (wrW K Ln Wh j (xs (i + 2)) 6 (((xs (i + 3)).toInt64 <<< ((32 : Int32).toInt64 &&& 63)) ||| ((xs (i + 4)).toInt64 &&& 4294967295))) (wrR K Ln Re j (xs (i + 2)) 6 (((xs (i + 3)).toInt64 <<< ((32 : Int32).toInt64 &&& 63)) ||| ((xs (i + 4)).toInt64 &&& 4294967295)))) n) m0 m1 m2 m3 m4 m5 th n K Ln Wh Re cd ct) := hD
    refine lv_istore (lv' := [(6, .int 0), (5, .int (nI i)), (4, .ref o2), (3, .ref o1), (2, .ref m0), (1, .ref h0), (0, .ref b)]) hx hb dL_law_1514 hl (by decide) rfl (fun ls hl => ?_)
    refine lv_aload_n hx hb dL_law_1516 rfl (lv_at hl 4 rfl) ?_
    refine lv_aload_n hx hb dL_law_1517 rfl (lv_at hl 6 rfl) ?_
    refine lv_iload hx hb dL_law_1518 (lv_at hl 1 rfl) ?_
    refine lv_iconst (v := 1) hx hb dL_law_1520 (by decide) ?_
    refine lv_iadd hx hb dL_law_1521 ?_
    refine tc_sld hx hb hX hbl hbA hS hL 1 rfl (by omega) (v := (nI j)) ej dL_law_1522 ?_
    refine lv_aload_n hx hb dL_law_1523 rfl (lv_at hl 6 rfl) ?_
    refine lv_iload hx hb dL_law_1524 (lv_at hl 1 rfl) ?_
    refine lv_iconst (v := 2) hx hb dL_law_1526 (by decide) ?_
    refine lv_iadd hx hb dL_law_1527 ?_
    refine tc_sld hx hb hX hbl hbA hS hL 2 rfl (by omega) (v := (xs (i + 2))) rfl dL_law_1528 ?_
    refine lv_aload_n hx hb dL_law_1529 rfl (lv_at hl 6 rfl) ?_
    refine lv_iload hx hb dL_law_1530 (lv_at hl 1 rfl) ?_
    refine lv_iconst (v := 3) hx hb dL_law_1532 (by decide) ?_
    refine lv_iadd hx hb dL_law_1533 ?_
    refine tc_sld hx hb hX hbl hbA hS hL 3 rfl (by omega) (v := (xs (i + 3))) rfl dL_law_1534 ?_
    refine lv_i2l (v := (xs (i + 3)).toInt64) hx hb dL_law_1535 rfl ?_
    refine lv_bipush (v := 32) hx hb dL_law_1536 (by decide) ?_
    refine lv_lshl (v := ((xs (i + 3)).toInt64 <<< ((32 : Int32).toInt64 &&& 63))) hx hb dL_law_1538 rfl ?_
    refine lv_aload_n hx hb dL_law_1539 rfl (lv_at hl 6 rfl) ?_
    refine lv_iload hx hb dL_law_1540 (lv_at hl 1 rfl) ?_
    refine lv_iconst (v := 4) hx hb dL_law_1542 (by decide) ?_
    refine lv_iadd hx hb dL_law_1543 ?_
    refine tc_sld hx hb hX hbl hbA hS hL 4 rfl (by omega) (v := (xs (i + 4))) rfl dL_law_1544 ?_
    refine lv_i2l (v := (xs (i + 4)).toInt64) hx hb dL_law_1545 rfl ?_
    refine lv_ldc2 (v := 4294967295) hx hb hown (hts (.constantLong RL 184 (4294967295)) (by decide +kernel)) dL_law_1546 ?_
    refine lv_land hx hb dL_law_1549 ?_
    refine lv_lor hx hb dL_law_1550 ?_
    refine va_calli (va_runV (As := [.int (nI j), .int (xs (i + 2)), .long (((xs (i + 3)).toInt64 <<< ((32 : Int32).toInt64 &&& 63)) ||| ((xs (i + 4)).toInt64 &&& 4294967295))]) (rest := []) ⟨hx, hb, hml, hown, hts⟩ (tX3_writeLong_y l D A cI cJ cD cC (h0, .inr (2, [.ref h1, .ref h2, .ref h3, .int (nI n), .int (cdR K Ln j (xs (i + 2)) 6 (K j))])) (h1, .inl (cC, 60, .inr (.inr (.inr (.inr (fun t8 => if t8 < n then some (ad t8) else none)))))) (h2, .inl (cI, 6, .inl (noteC ct (cdR K Ln j (xs (i + 2)) 6 (K j))))) (h3, .inr (1, [.ref h4])) (h4, .inl (cD, 10, .inr (.inr (.inr (.inl (fun t8 => tf_N (1023 + 2 ^ t8) 0)))))) ((o1, .inl (cJ, 1, .inr (.inl (vp_updL ov 0 ((cdR K Ln j (xs (i + 2)) 6 (K j)).toInt64))))) :: (o2, .inl (cD, 1, .inr (.inr (.inr (.inl od))))) :: tc_fl (tc_col cJ cD ad wd rd K Ln (wrW K Ln Wh j (xs (i + 2)) 6 (((xs (i + 3)).toInt64 <<< ((32 : Int32).toInt64 &&& 63)) ||| ((xs (i + 4)).toInt64 &&& 4294967295))) (wrR K Ln Re j (xs (i + 2)) 6 (((xs (i + 3)).toInt64 <<< ((32 : Int32).toInt64 &&& 63)) ||| ((xs (i + 4)).toInt64 &&& 4294967295)))) n) m0 m1 m2 m3 m4 m5 th n K Ln Wh Re cd ct H.size hI j hj (xs (i + 2)) (((xs (i + 3)).toInt64 <<< ((32 : Int32).toInt64 &&& 63)) ||| ((xs (i + 4)).toInt64 &&& 4294967295))) (cwV 3 hts gL_law_X3_writeLong rfl rfl rfl (by decide +kernel) ⟨Nat.le_of_ble_eq_true rfl, Nat.le_of_ble_eq_true rfl⟩) ⟨tcP.blind, va_recv hK hP (ci := 3) (q0 := 5) rfl rfl, tcP.go hK hP hD hE hS⟩ rfl rfl hl.1 rfl (lv_room (Nat.le_of_ble_eq_true rfl)) dL_law_1551 ⟨by show _ ≤ 601024; omega, by show _ ≤ 7293034; omega⟩) hS (fun q _ h => h) (fun q h => h) (fun r u t H locs ht hvm hw hB hz1 hk1 hS => ?_)
    subst hw
    obtain ⟨hP, hD⟩ := hB
    rw [ht] at hP
    refine lv_istore (lv' := [(7, .int (cdR K Ln j (xs (i + 2)) 6 (K j))), (6, .int 0), (5, .int (nI i)), (4, .ref o2), (3, .ref o1), (2, .ref m0), (1, .ref h0), (0, .ref b)]) hx hb dL_law_1554 hl (by decide) rfl (fun ls hl => ?_)
    refine lv_aload_n hx hb dL_law_1556 rfl (lv_at hl 5 rfl) ?_
    refine vp_callSi (tc_CR (va_runV (As := []) (rest := []) ⟨hx, hb, hml, hown, hts⟩ (tX3_thrown l D A cI cJ cD cC (h0, .inr (2, [.ref h1, .ref h2, .ref h3, .int (nI n), .int (cdR K Ln j (xs (i + 2)) 6 (K j))])) (h1, .inl (cC, 60, .inr (.inr (.inr (.inr (fun t8 => if t8 < n then some (ad t8) else none)))))) (h2, .inl (cI, 6, .inl (noteC ct (cdR K Ln j (xs (i + 2)) 6 (K j))))) (h3, .inr (1, [.ref h4])) (h4, .inl (cD, 10, .inr (.inr (.inr (.inl (fun t8 => tf_N (1023 + 2 ^ t8) 0)))))) ((o1, .inl (cJ, 1, .inr (.inl (vp_updL ov 0 ((cdR K Ln j (xs (i + 2)) 6 (K j)).toInt64))))) :: (o2, .inl (cD, 1, .inr (.inr (.inr (.inl od))))) :: tc_fl (tc_col cJ cD ad wd rd K Ln (wrW K Ln Wh j (xs (i + 2)) 6 (((xs (i + 3)).toInt64 <<< ((32 : Int32).toInt64 &&& 63)) ||| ((xs (i + 4)).toInt64 &&& 4294967295))) (wrR K Ln Re j (xs (i + 2)) 6 (((xs (i + 3)).toInt64 <<< ((32 : Int32).toInt64 &&& 63)) ||| ((xs (i + 4)).toInt64 &&& 4294967295)))) n) m0 m1 m2 m3 m4 m5 0 n K Ln (wrW K Ln Wh j (xs (i + 2)) 6 (((xs (i + 3)).toInt64 <<< ((32 : Int32).toInt64 &&& 63)) ||| ((xs (i + 4)).toInt64 &&& 4294967295))) (wrR K Ln Re j (xs (i + 2)) 6 (((xs (i + 3)).toInt64 <<< ((32 : Int32).toInt64 &&& 63)) ||| ((xs (i + 4)).toInt64 &&& 4294967295))) (cdR K Ln j (xs (i + 2)) 6 (K j)) (noteC ct (cdR K Ln j (xs (i + 2)) 6 (K j))) H.size) (cwV 0 hts gL_law_X3_thrown rfl rfl rfl (by decide +kernel) ⟨Nat.le_of_ble_eq_true rfl, Nat.le_of_ble_eq_true rfl⟩) ⟨tcP.blind, va_recv hK hP (ci := 3) (q0 := 5) rfl rfl, tcP.go hK hP hD hE hS⟩ rfl rfl hl.1 rfl (lv_room (Nat.le_of_ble_eq_true rfl)) dL_law_1557 ⟨by show _ ≤ 601024; omega, by show _ ≤ 7293034; omega⟩)) (fun r9 h9 => ?_)
    subst h9
    refine lv_iload hx hb dL_law_1560 (lv_at hl 1 rfl) ?_
    refine lv_icmp_eq (tgt := 1567) hx hb dL_law_1562 (by decide) (fun _ => ?_) (fun q => absurd (by decide) q)
    refine lv_iload hx hb dL_law_1567 (lv_at hl 1 rfl) ?_
    refine lv_if_ne (tgt := 1584) hx hb dL_law_1569 (by decide) (fun q => absurd (by decide) q) (fun _ => ?_)
    refine lv_aload_n hx hb dL_law_1572 rfl (lv_at hl 4 rfl) ?_
    refine lv_iconst (v := 0) hx hb dL_law_1573 (by decide) ?_
    refine tc_lald (f := (vp_updL ov 0 ((cdR K Ln j (xs (i + 2)) 6 (K j)).toInt64))) (v := (cdR K Ln j (xs (i + 2)) 6 (K j)).toInt64) hx hb hK hP 11 1 rfl rfl (by unfold vp_in; decide) (show (vp_updL ov 0 ((cdR K Ln j (xs (i + 2)) 6 (K j)).toInt64)) 0 = (cdR K Ln j (xs (i + 2)) 6 (K j)).toInt64 from if_pos rfl) dL_law_1574 ?_
    refine lv_iload hx hb dL_law_1575 (lv_at hl 0 rfl) ?_
    refine lv_i2l (v := (cdR K Ln j (xs (i + 2)) 6 (K j)).toInt64) hx hb dL_law_1577 rfl ?_
    refine W.lcmp hx hb dL_law_1578 ?_
    refine lv_if_eq (tgt := 1584) hx hb dL_law_1579 (by decide) (fun _ => ?_) (fun q => absurd ((lg_cmp_eq _ _).mpr rfl) q)
    refine lv_goto (tgt := 2390) hx hb dL_law_1584 (by decide) ?_
    refine W.widen (k := ce + 3) (n := sl + 44) (by omega) (by omega) ?_
    exact kc _ _ _ _ ⟨ad, wd, rd, n, K, Ln, (wrW K Ln Wh j (xs (i + 2)) 6 (((xs (i + 3)).toInt64 <<< ((32 : Int32).toInt64 &&& 63)) ||| ((xs (i + 4)).toInt64 &&& 4294967295))), (wrR K Ln Re j (xs (i + 2)) 6 (((xs (i + 3)).toInt64 <<< ((32 : Int32).toInt64 &&& 63)) ||| ((xs (i + 4)).toInt64 &&& 4294967295))), (cdR K Ln j (xs (i + 2)) 6 (K j)), (noteC ct (cdR K Ln j (xs (i + 2)) 6 (K j))), 0, (vp_updL ov 0 ((cdR K Ln j (xs (i + 2)) 6 (K j)).toInt64)), od, hdd, (tcI_w hI hj (fun q => absurd q (by decide))), hP, hD, hS, lv_sub hl [2, 3, 4, 5, 6, 7] rfl⟩
  · refine lv_aload_n hx hb dL_law_1475 rfl (lv_at hl 4 rfl) ?_
    refine lv_aload_n hx hb dL_law_1476 rfl (lv_at hl 5 rfl) ?_
    refine lv_iload hx hb dL_law_1477 (lv_at hl 0 rfl) ?_
    refine lv_iconst (v := 1) hx hb dL_law_1479 (by decide) ?_
    refine lv_iadd hx hb dL_law_1480 ?_
    refine tc_sld hx hb hX hbl hbA hS hL 1 rfl (by omega) (v := (xs (i + 1))) rfl dL_law_1481 ?_
    refine lv_aload_n hx hb dL_law_1482 rfl (lv_at hl 5 rfl) ?_
    refine lv_iload hx hb dL_law_1483 (lv_at hl 0 rfl) ?_
    refine lv_iconst (v := 2) hx hb dL_law_1485 (by decide) ?_
    refine lv_iadd hx hb dL_law_1486 ?_
    refine tc_sld hx hb hX hbl hbA hS hL 2 rfl (by omega) (v := (xs (i + 2))) rfl dL_law_1487 ?_
    refine lv_aload_n hx hb dL_law_1488 rfl (lv_at hl 5 rfl) ?_
    refine lv_iload hx hb dL_law_1489 (lv_at hl 0 rfl) ?_
    refine lv_iconst (v := 3) hx hb dL_law_1491 (by decide) ?_
    refine lv_iadd hx hb dL_law_1492 ?_
    refine tc_sld hx hb hX hbl hbA hS hL 3 rfl (by omega) (v := (xs (i + 3))) rfl dL_law_1493 ?_
    refine lv_i2l (v := (xs (i + 3)).toInt64) hx hb dL_law_1494 rfl ?_
    refine lv_bipush (v := 32) hx hb dL_law_1495 (by decide) ?_
    refine lv_lshl (v := ((xs (i + 3)).toInt64 <<< ((32 : Int32).toInt64 &&& 63))) hx hb dL_law_1497 rfl ?_
    refine lv_aload_n hx hb dL_law_1498 rfl (lv_at hl 5 rfl) ?_
    refine lv_iload hx hb dL_law_1499 (lv_at hl 0 rfl) ?_
    refine lv_iconst (v := 4) hx hb dL_law_1501 (by decide) ?_
    refine lv_iadd hx hb dL_law_1502 ?_
    refine tc_sld hx hb hX hbl hbA hS hL 4 rfl (by omega) (v := (xs (i + 4))) rfl dL_law_1503 ?_
    refine lv_i2l (v := (xs (i + 4)).toInt64) hx hb dL_law_1504 rfl ?_
    refine lv_ldc2 (v := 4294967295) hx hb hown (hts (.constantLong RL 184 (4294967295)) (by decide +kernel)) dL_law_1505 ?_
    refine lv_land hx hb dL_law_1508 ?_
    refine lv_lor hx hb dL_law_1509 ?_
    refine lv_aload_n hx hb dL_law_1510 rfl (lv_at hl 2 rfl) ?_
    refine va_calli (tc_noX (vx_runSX (As := [.ref h0, .int (xs (i + 1)), .int (xs (i + 2)), .long (((xs (i + 3)).toInt64 <<< ((32 : Int32).toInt64 &&& 63)) ||| ((xs (i + 4)).toInt64 &&& 4294967295)), .ref o1]) (rest := []) ⟨hx, hb, hml, hown, hts⟩ (lLn_writeLong l hfl D A cI cJ cD cC h0 h1 h2 h3 h4 ad wd rd (m0, .inr (3, [.int th, .int (nI n), .ref m1, .ref m2, .ref m3, .ref m4, .int cd, .ref m5])) (m1, .inl (cI, 60, .inl K)) (m2, .inl (cI, 60, .inl (fun t8 => nI (Ln t8)))) (m3, .inl (cJ, 2400, .inr (.inl Wh))) (m4, .inl (cD, 2400, .inr (.inr (.inr (.inl Re))))) (m5, .inl (cI, 6, .inl ct)) o1 o2 ov od n K Ln Wh Re cd ct H.size hn60 (xs (i + 1)) hc (xs (i + 2)) (((xs (i + 3)).toInt64 <<< ((32 : Int32).toInt64 &&& 63)) ||| ((xs (i + 4)).toInt64 &&& 4294967295))) (vx_cwSW 5 hts gL_law_L_writeLong rfl rfl rfl (by decide +kernel) ⟨Nat.le_of_ble_eq_true rfl, Nat.le_of_ble_eq_true rfl⟩) ⟨tcPL.blind, tcPL.go hK hP hD hE hNc hS⟩ rfl rfl hl.1 rfl (lv_room (Nat.le_of_ble_eq_true rfl)) dL_law_1511 ⟨by show _ ≤ 601024; omega, by show _ ≤ 7293034; omega⟩)) hS (fun q _ h => h) (fun q h => h) (fun r uL t H locs ht hvm hw hB hz1 hk1 hS => ?_)
    subst hw
    obtain ⟨hP, hD⟩ := hB
    rw [ht] at hP
    have hP : va_P D vwCl (tc_Z cI cJ cD (h0, .inr (2, [.ref h1, .ref h2, .ref h3, .int (nI n), .int cd])) (h1, .inl (cC, 60, .inr (.inr (.inr (.inr (fun t8 => if t8 < n then some (ad t8) else none)))))) (h2, .inl (cI, 6, .inl ct)) (h3, .inr (1, [.ref h4])) (h4, .inl (cD, 10, .inr (.inr (.inr (.inl (fun t8 => tf_N (1023 + 2 ^ t8) 0)))))) ((o1, .inl (cJ, 1, .inr (.inl ov))) :: (o2, .inl (cD, 1, .inr (.inr (.inr (.inl od))))) :: tc_fl (tc_col cJ cD ad wd rd K Ln Wh Re) n) m0 m1 m2 m3 m4 m5 th n K Ln Wh Re cd ct) H := hP
    have hD : va_D A (tc_Z cI cJ cD (h0, .inr (2, [.ref h1, .ref h2, .ref h3, .int (nI n), .int cd])) (h1, .inl (cC, 60, .inr (.inr (.inr (.inr (fun t8 => if t8 < n then some (ad t8) else none)))))) (h2, .inl (cI, 6, .inl ct)) (h3, .inr (1, [.ref h4])) (h4, .inl (cD, 10, .inr (.inr (.inr (.inl (fun t8 => tf_N (1023 + 2 ^ t8) 0)))))) ((o1, .inl (cJ, 1, .inr (.inl ov))) :: (o2, .inl (cD, 1, .inr (.inr (.inr (.inl od))))) :: tc_fl (tc_col cJ cD ad wd rd K Ln Wh Re) n) m0 m1 m2 m3 m4 m5 th n K Ln Wh Re cd ct) := hD
    refine lv_istore (lv' := [(6, .int 1), (5, .int (nI i)), (4, .ref o2), (3, .ref o1), (2, .ref m0), (1, .ref h0), (0, .ref b)]) hx hb dL_law_1514 hl (by decide) rfl (fun ls hl => ?_)
    refine lv_aload_n hx hb dL_law_1516 rfl (lv_at hl 4 rfl) ?_
    refine lv_aload_n hx hb dL_law_1517 rfl (lv_at hl 6 rfl) ?_
    refine lv_iload hx hb dL_law_1518 (lv_at hl 1 rfl) ?_
    refine lv_iconst (v := 1) hx hb dL_law_1520 (by decide) ?_
    refine lv_iadd hx hb dL_law_1521 ?_
    refine tc_sld hx hb hX hbl hbA hS hL 1 rfl (by omega) (v := (xs (i + 1))) rfl dL_law_1522 ?_
    refine lv_aload_n hx hb dL_law_1523 rfl (lv_at hl 6 rfl) ?_
    refine lv_iload hx hb dL_law_1524 (lv_at hl 1 rfl) ?_
    refine lv_iconst (v := 2) hx hb dL_law_1526 (by decide) ?_
    refine lv_iadd hx hb dL_law_1527 ?_
    refine tc_sld hx hb hX hbl hbA hS hL 2 rfl (by omega) (v := (xs (i + 2))) rfl dL_law_1528 ?_
    refine lv_aload_n hx hb dL_law_1529 rfl (lv_at hl 6 rfl) ?_
    refine lv_iload hx hb dL_law_1530 (lv_at hl 1 rfl) ?_
    refine lv_iconst (v := 3) hx hb dL_law_1532 (by decide) ?_
    refine lv_iadd hx hb dL_law_1533 ?_
    refine tc_sld hx hb hX hbl hbA hS hL 3 rfl (by omega) (v := (xs (i + 3))) rfl dL_law_1534 ?_
    refine lv_i2l (v := (xs (i + 3)).toInt64) hx hb dL_law_1535 rfl ?_
    refine lv_bipush (v := 32) hx hb dL_law_1536 (by decide) ?_
    refine lv_lshl (v := ((xs (i + 3)).toInt64 <<< ((32 : Int32).toInt64 &&& 63))) hx hb dL_law_1538 rfl ?_
    refine lv_aload_n hx hb dL_law_1539 rfl (lv_at hl 6 rfl) ?_
    refine lv_iload hx hb dL_law_1540 (lv_at hl 1 rfl) ?_
    refine lv_iconst (v := 4) hx hb dL_law_1542 (by decide) ?_
    refine lv_iadd hx hb dL_law_1543 ?_
    refine tc_sld hx hb hX hbl hbA hS hL 4 rfl (by omega) (v := (xs (i + 4))) rfl dL_law_1544 ?_
    refine lv_i2l (v := (xs (i + 4)).toInt64) hx hb dL_law_1545 rfl ?_
    refine lv_ldc2 (v := 4294967295) hx hb hown (hts (.constantLong RL 184 (4294967295)) (by decide +kernel)) dL_law_1546 ?_
    refine lv_land hx hb dL_law_1549 ?_
    refine lv_lor hx hb dL_law_1550 ?_
    refine va_calli (va_runV (As := [.int (xs (i + 1)), .int (xs (i + 2)), .long (((xs (i + 3)).toInt64 <<< ((32 : Int32).toInt64 &&& 63)) ||| ((xs (i + 4)).toInt64 &&& 4294967295))]) (rest := []) ⟨hx, hb, hml, hown, hts⟩ (tX3_writeLong_n l D A cI cJ cD cC (h0, .inr (2, [.ref h1, .ref h2, .ref h3, .int (nI n), .int cd])) (h1, .inl (cC, 60, .inr (.inr (.inr (.inr (fun t8 => if t8 < n then some (ad t8) else none)))))) (h2, .inl (cI, 6, .inl ct)) (h3, .inr (1, [.ref h4])) (h4, .inl (cD, 10, .inr (.inr (.inr (.inl (fun t8 => tf_N (1023 + 2 ^ t8) 0)))))) ((o1, .inl (cJ, 1, .inr (.inl ov))) :: (o2, .inl (cD, 1, .inr (.inr (.inr (.inl od))))) :: tc_fl (tc_col cJ cD ad wd rd K Ln Wh Re) n) m0 m1 m2 m3 m4 m5 th n K Ln Wh Re cd ct H.size hI (xs (i + 1)) hc (xs (i + 2)) (((xs (i + 3)).toInt64 <<< ((32 : Int32).toInt64 &&& 63)) ||| ((xs (i + 4)).toInt64 &&& 4294967295))) (cwV 3 hts gL_law_X3_writeLong rfl rfl rfl (by decide +kernel) ⟨Nat.le_of_ble_eq_true rfl, Nat.le_of_ble_eq_true rfl⟩) ⟨tcP.blind, va_recv hK hP (ci := 3) (q0 := 5) rfl rfl, tcP.go hK hP hD hE hS⟩ rfl rfl hl.1 rfl (lv_room (Nat.le_of_ble_eq_true rfl)) dL_law_1551 ⟨by show _ ≤ 601024; omega, by show _ ≤ 7293034; omega⟩) hS (fun q _ h => h) (fun q h => h) (fun r u t H locs ht hvm hw hB hz1 hk1 hS => ?_)
    subst hw
    obtain ⟨hP, hD⟩ := hB
    rw [ht] at hP
    refine lv_istore (lv' := [(7, .int 0), (6, .int 1), (5, .int (nI i)), (4, .ref o2), (3, .ref o1), (2, .ref m0), (1, .ref h0), (0, .ref b)]) hx hb dL_law_1554 hl (by decide) rfl (fun ls hl => ?_)
    refine lv_aload_n hx hb dL_law_1556 rfl (lv_at hl 5 rfl) ?_
    refine vp_callSi (tc_CR (va_runV (As := []) (rest := []) ⟨hx, hb, hml, hown, hts⟩ (tX3_thrown l D A cI cJ cD cC (h0, .inr (2, [.ref h1, .ref h2, .ref h3, .int (nI n), .int cd])) (h1, .inl (cC, 60, .inr (.inr (.inr (.inr (fun t8 => if t8 < n then some (ad t8) else none)))))) (h2, .inl (cI, 6, .inl ct)) (h3, .inr (1, [.ref h4])) (h4, .inl (cD, 10, .inr (.inr (.inr (.inl (fun t8 => tf_N (1023 + 2 ^ t8) 0)))))) ((o1, .inl (cJ, 1, .inr (.inl ov))) :: (o2, .inl (cD, 1, .inr (.inr (.inr (.inl od))))) :: tc_fl (tc_col cJ cD ad wd rd K Ln Wh Re) n) m0 m1 m2 m3 m4 m5 1 n K Ln Wh Re cd ct H.size) (cwV 0 hts gL_law_X3_thrown rfl rfl rfl (by decide +kernel) ⟨Nat.le_of_ble_eq_true rfl, Nat.le_of_ble_eq_true rfl⟩) ⟨tcP.blind, va_recv hK hP (ci := 3) (q0 := 5) rfl rfl, tcP.go hK hP hD hE hS⟩ rfl rfl hl.1 rfl (lv_room (Nat.le_of_ble_eq_true rfl)) dL_law_1557 ⟨by show _ ≤ 601024; omega, by show _ ≤ 7293034; omega⟩)) (fun r9 h9 => ?_)
    subst h9
    refine lv_iload hx hb dL_law_1560 (lv_at hl 1 rfl) ?_
    refine lv_icmp_eq (tgt := 1567) hx hb dL_law_1562 (by decide) (fun _ => ?_) (fun q => absurd (by decide) q)
    refine lv_iload hx hb dL_law_1567 (lv_at hl 1 rfl) ?_
    refine lv_if_ne (tgt := 1584) hx hb dL_law_1569 (by decide) (fun _ => ?_) (fun q => absurd q (by decide))
    refine lv_goto (tgt := 2390) hx hb dL_law_1584 (by decide) ?_
    refine W.widen (k := ce + 3) (n := sl + 44) (by omega) (by omega) ?_
    exact kc _ _ _ _ ⟨ad, wd, rd, n, K, Ln, Wh, Re, cd, ct, 1, ov, od, hdd, hI, hP, hD, hS, lv_sub hl [2, 3, 4, 5, 6, 7] rfl⟩
set_option maxHeartbeats 4000000 in
set_option maxRecDepth 100000 in
theorem law_19 {p : Program} {l : Launch} {e : Env} {s : State} {m : MethodId} {below : List Frame} {meth : Method} {c : Code} {D : va_G} {A : Nat → Prop} {cI cJ cD cC : ClassId} {h0 h1 h2 h3 h4 m0 m1 m2 m3 m4 m5 o1 o2 : Nat} {b L : Nat} {xs : Nat → Int32} {Q : State → Prop} (C0 : LCtx p l D A cI cJ cD cC s m c b L xs) {d : Drawn} {H : Heap} {locs : List Loc} {ls : Array Slot} {i ce sl : Nat} (hi : i + 6 ≤ L) (hce : ce + 3 ≤ 601024) (hsl : sl + 44 ≤ 7293034) (hv : LInv D A cI cJ cD cC h0 h1 h2 h3 h4 m0 m1 m2 m3 m4 m5 o1 o2 s b d H locs i ls) (kc : ∀ (d : Drawn) (H : Heap) (locs : List Loc) (ls : Array Slot), LInv D A cI cJ cD cC h0 h1 h2 h3 h4 m0 m1 m2 m3 m4 m5 o1 o2 s b d H locs i ls → W p l e room_1 (s.setDrawn d) m #[Value.ref b] below meth c H locs (ce + 3) (sl + 44) Q (F0 m 2390 ls [])) : W p l e room_1 (s.setDrawn d) m #[Value.ref b] below meth c H locs ce sl Q (F0 m 1587 ls []) := by
  obtain ⟨hx, hb, hml, hown0, htsB, hX0, hbl, hbA, hA, hL, hfl, hK0, hE0, hNc0⟩ := C0
  obtain ⟨ad, wd, rd, n, K, Ln, Wh, Re, cd, ct, th, ov, od, hdd, hI, hP, hD, hS, hl⟩ := hv
  have hn60 : n ≤ 60 := hI.1
  have hts := dr_words htsB d
  have hK : va_K D vwCl (tcTY cI cJ cD cC) (s.setDrawn d) := hK0
  have hE : tc_E A (s.setDrawn d) := hE0
  have hNc : tc_Nc (s.setDrawn d) := hNc0
  have hown : (s.setDrawn d).vm.findClass RL = some m.cls := hown0
  have hX : va_X b L xs (s.setDrawn d) s.heap := hX0
  rcases Classical.em (∃ j, j < n ∧ xs (i + 1) = nI j) with ⟨j, hj, ej⟩ | hc
  · refine lv_aload_n hx hb dL_law_1587 rfl (lv_at hl 4 rfl) ?_
    refine lv_aload_n hx hb dL_law_1588 rfl (lv_at hl 5 rfl) ?_
    refine lv_iload hx hb dL_law_1589 (lv_at hl 0 rfl) ?_
    refine lv_iconst (v := 1) hx hb dL_law_1591 (by decide) ?_
    refine lv_iadd hx hb dL_law_1592 ?_
    refine tc_sld hx hb hX hbl hbA hS hL 1 rfl (by omega) (v := (nI j)) ej dL_law_1593 ?_
    refine lv_aload_n hx hb dL_law_1594 rfl (lv_at hl 5 rfl) ?_
    refine lv_iload hx hb dL_law_1595 (lv_at hl 0 rfl) ?_
    refine lv_iconst (v := 2) hx hb dL_law_1597 (by decide) ?_
    refine lv_iadd hx hb dL_law_1598 ?_
    refine tc_sld hx hb hX hbl hbA hS hL 2 rfl (by omega) (v := (xs (i + 2))) rfl dL_law_1599 ?_
    refine lv_aload_n hx hb dL_law_1600 rfl (lv_at hl 5 rfl) ?_
    refine lv_iload hx hb dL_law_1601 (lv_at hl 0 rfl) ?_
    refine lv_iconst (v := 3) hx hb dL_law_1603 (by decide) ?_
    refine lv_iadd hx hb dL_law_1604 ?_
    refine tc_sld hx hb hX hbl hbA hS hL 3 rfl (by omega) (v := (xs (i + 3))) rfl dL_law_1605 ?_
    refine lv_i2f hx hb dL_law_1606 ?_
    refine lv_ldcf (v := 1040187392) hx hb hown (hts (.constantFloat RL 190 (1040187392)) (by decide +kernel)) dL_law_1607 ?_
    refine lv_fmul hx hb dL_law_1609 ((tf_n32 _).mpr (tf_fmul _)) ?_
    refine lv_aload_n hx hb dL_law_1610 rfl (lv_at hl 2 rfl) ?_
    refine va_calli (tc_noX (vx_runSX (As := [.ref h0, .int (nI j), .int (xs (i + 2)), .float (FP.fmul (FP.i2f (xs (i + 3))) 1040187392), .ref o1]) (rest := []) ⟨hx, hb, hml, hown, hts⟩ (lL_writeFloat l hfl D A cI cJ cD cC h0 h1 h2 h3 h4 ad wd rd (m0, .inr (3, [.int th, .int (nI n), .ref m1, .ref m2, .ref m3, .ref m4, .int cd, .ref m5])) (m1, .inl (cI, 60, .inl K)) (m2, .inl (cI, 60, .inl (fun t8 => nI (Ln t8)))) (m3, .inl (cJ, 2400, .inr (.inl Wh))) (m4, .inl (cD, 2400, .inr (.inr (.inr (.inl Re))))) (m5, .inl (cI, 6, .inl ct)) o1 o2 ov od n K Ln Wh Re cd ct H.size hI j hj (xs (i + 2)) (FP.fmul (FP.i2f (xs (i + 3))) 1040187392) (tf_fmul (xs (i + 3)))) (vx_cwSW 5 hts gL_law_L_writeFloat rfl rfl rfl (by decide +kernel) ⟨Nat.le_of_ble_eq_true rfl, Nat.le_of_ble_eq_true rfl⟩) ⟨tcPL.blind, tcPL.go hK hP hD hE hNc hS⟩ rfl rfl hl.1 rfl (lv_room (Nat.le_of_ble_eq_true rfl)) dL_law_1611 ⟨by show _ ≤ 601024; omega, by show _ ≤ 7293034; omega⟩)) hS (fun q _ h => h) (fun q h => h) (fun r uL t H locs ht hvm hw hB hz1 hk1 hS => ?_)
    subst hw
    obtain ⟨hP, hD⟩ := hB
    rw [ht] at hP
    have hP : va_P D vwCl (tc_Z cI cJ cD (h0, .inr (2, [.ref h1, .ref h2, .ref h3, .int (nI n), .int (cdR K Ln j (xs (i + 2)) 7 (K j))])) (h1, .inl (cC, 60, .inr (.inr (.inr (.inr (fun t8 => if t8 < n then some (ad t8) else none)))))) (h2, .inl (cI, 6, .inl (noteC ct (cdR K Ln j (xs (i + 2)) 7 (K j))))) (h3, .inr (1, [.ref h4])) (h4, .inl (cD, 10, .inr (.inr (.inr (.inl (fun t8 => tf_N (1023 + 2 ^ t8) 0)))))) ((o1, .inl (cJ, 1, .inr (.inl (vp_updL ov 0 ((cdR K Ln j (xs (i + 2)) 7 (K j)).toInt64))))) :: (o2, .inl (cD, 1, .inr (.inr (.inr (.inl od))))) :: tc_fl (tc_col cJ cD ad wd rd K Ln Wh (wrX K Ln Re j (xs (i + 2)) 7 (FP.f2d (FP.fmul (FP.i2f (xs (i + 3))) 1040187392)))) n) m0 m1 m2 m3 m4 m5 th n K Ln Wh Re cd ct) H := hP
    have hD : va_D A (tc_Z cI cJ cD (h0, .inr (2, [.ref h1, .ref h2, .ref h3, .int (nI n), .int (cdR K Ln j (xs (i + 2)) 7 (K j))])) (h1, .inl (cC, 60, .inr (.inr (.inr (.inr (fun t8 => if t8 < n then some (ad t8) else none)))))) (h2, .inl (cI, 6, .inl (noteC ct (cdR K Ln j (xs (i + 2)) 7 (K j))))) (h3, .inr (1, [.ref h4])) (h4, .inl (cD, 10, .inr (.inr (.inr (.inl (fun t8 => tf_N (1023 + 2 ^ t8) 0)))))) ((o1, .inl (cJ, 1, .inr (.inl (vp_updL ov 0 ((cdR K Ln j (xs (i + 2)) 7 (K j)).toInt64))))) :: (o2, .inl (cD, 1, .inr (.inr (.inr (.inl od))))) :: tc_fl (tc_col cJ cD ad wd rd K Ln Wh (wrX K Ln Re j (xs (i + 2)) 7 (FP.f2d (FP.fmul (FP.i2f (xs (i + 3))) 1040187392)))) n) m0 m1 m2 m3 m4 m5 th n K Ln Wh Re cd ct) := hD
    refine lv_istore (lv' := [(6, .int 0), (5, .int (nI i)), (4, .ref o2), (3, .ref o1), (2, .ref m0), (1, .ref h0), (0, .ref b)]) hx hb dL_law_1614 hl (by decide) rfl (fun ls hl => ?_)
    refine lv_aload_n hx hb dL_law_1616 rfl (lv_at hl 4 rfl) ?_
    refine lv_aload_n hx hb dL_law_1617 rfl (lv_at hl 6 rfl) ?_
    refine lv_iload hx hb dL_law_1618 (lv_at hl 1 rfl) ?_
    refine lv_iconst (v := 1) hx hb dL_law_1620 (by decide) ?_
    refine lv_iadd hx hb dL_law_1621 ?_
    refine tc_sld hx hb hX hbl hbA hS hL 1 rfl (by omega) (v := (nI j)) ej dL_law_1622 ?_
    refine lv_aload_n hx hb dL_law_1623 rfl (lv_at hl 6 rfl) ?_
    refine lv_iload hx hb dL_law_1624 (lv_at hl 1 rfl) ?_
    refine lv_iconst (v := 2) hx hb dL_law_1626 (by decide) ?_
    refine lv_iadd hx hb dL_law_1627 ?_
    refine tc_sld hx hb hX hbl hbA hS hL 2 rfl (by omega) (v := (xs (i + 2))) rfl dL_law_1628 ?_
    refine lv_aload_n hx hb dL_law_1629 rfl (lv_at hl 6 rfl) ?_
    refine lv_iload hx hb dL_law_1630 (lv_at hl 1 rfl) ?_
    refine lv_iconst (v := 3) hx hb dL_law_1632 (by decide) ?_
    refine lv_iadd hx hb dL_law_1633 ?_
    refine tc_sld hx hb hX hbl hbA hS hL 3 rfl (by omega) (v := (xs (i + 3))) rfl dL_law_1634 ?_
    refine lv_i2f hx hb dL_law_1635 ?_
    refine lv_ldcf (v := 1040187392) hx hb hown (hts (.constantFloat RL 190 (1040187392)) (by decide +kernel)) dL_law_1636 ?_
    refine lv_fmul hx hb dL_law_1638 ((tf_n32 _).mpr (tf_fmul _)) ?_
    refine va_calli (va_runV (As := [.int (nI j), .int (xs (i + 2)), .float (FP.fmul (FP.i2f (xs (i + 3))) 1040187392)]) (rest := []) ⟨hx, hb, hml, hown, hts⟩ (tX3_writeFloat_y l D A cI cJ cD cC (h0, .inr (2, [.ref h1, .ref h2, .ref h3, .int (nI n), .int (cdR K Ln j (xs (i + 2)) 7 (K j))])) (h1, .inl (cC, 60, .inr (.inr (.inr (.inr (fun t8 => if t8 < n then some (ad t8) else none)))))) (h2, .inl (cI, 6, .inl (noteC ct (cdR K Ln j (xs (i + 2)) 7 (K j))))) (h3, .inr (1, [.ref h4])) (h4, .inl (cD, 10, .inr (.inr (.inr (.inl (fun t8 => tf_N (1023 + 2 ^ t8) 0)))))) ((o1, .inl (cJ, 1, .inr (.inl (vp_updL ov 0 ((cdR K Ln j (xs (i + 2)) 7 (K j)).toInt64))))) :: (o2, .inl (cD, 1, .inr (.inr (.inr (.inl od))))) :: tc_fl (tc_col cJ cD ad wd rd K Ln Wh (wrX K Ln Re j (xs (i + 2)) 7 (FP.f2d (FP.fmul (FP.i2f (xs (i + 3))) 1040187392)))) n) m0 m1 m2 m3 m4 m5 th n K Ln Wh Re cd ct H.size hI j hj (xs (i + 2)) (FP.fmul (FP.i2f (xs (i + 3))) 1040187392) (tf_fmul (xs (i + 3)))) (cwV 3 hts gL_law_X3_writeFloat rfl rfl rfl (by decide +kernel) ⟨Nat.le_of_ble_eq_true rfl, Nat.le_of_ble_eq_true rfl⟩) ⟨tcP.blind, va_recv hK hP (ci := 3) (q0 := 5) rfl rfl, tcP.go hK hP hD hE hS⟩ rfl rfl hl.1 rfl (lv_room (Nat.le_of_ble_eq_true rfl)) dL_law_1639 ⟨by show _ ≤ 601024; omega, by show _ ≤ 7293034; omega⟩) hS (fun q _ h => h) (fun q h => h) (fun r u t H locs ht hvm hw hB hz1 hk1 hS => ?_)
    subst hw
    obtain ⟨hP, hD⟩ := hB
    rw [ht] at hP
    refine lv_istore (lv' := [(7, .int (cdR K Ln j (xs (i + 2)) 7 (K j))), (6, .int 0), (5, .int (nI i)), (4, .ref o2), (3, .ref o1), (2, .ref m0), (1, .ref h0), (0, .ref b)]) hx hb dL_law_1642 hl (by decide) rfl (fun ls hl => ?_)
    refine lv_aload_n hx hb dL_law_1644 rfl (lv_at hl 5 rfl) ?_
    refine vp_callSi (tc_CR (va_runV (As := []) (rest := []) ⟨hx, hb, hml, hown, hts⟩ (tX3_thrown l D A cI cJ cD cC (h0, .inr (2, [.ref h1, .ref h2, .ref h3, .int (nI n), .int (cdR K Ln j (xs (i + 2)) 7 (K j))])) (h1, .inl (cC, 60, .inr (.inr (.inr (.inr (fun t8 => if t8 < n then some (ad t8) else none)))))) (h2, .inl (cI, 6, .inl (noteC ct (cdR K Ln j (xs (i + 2)) 7 (K j))))) (h3, .inr (1, [.ref h4])) (h4, .inl (cD, 10, .inr (.inr (.inr (.inl (fun t8 => tf_N (1023 + 2 ^ t8) 0)))))) ((o1, .inl (cJ, 1, .inr (.inl (vp_updL ov 0 ((cdR K Ln j (xs (i + 2)) 7 (K j)).toInt64))))) :: (o2, .inl (cD, 1, .inr (.inr (.inr (.inl od))))) :: tc_fl (tc_col cJ cD ad wd rd K Ln Wh (wrX K Ln Re j (xs (i + 2)) 7 (FP.f2d (FP.fmul (FP.i2f (xs (i + 3))) 1040187392)))) n) m0 m1 m2 m3 m4 m5 0 n K Ln Wh (wrX K Ln Re j (xs (i + 2)) 7 (FP.f2d (FP.fmul (FP.i2f (xs (i + 3))) 1040187392))) (cdR K Ln j (xs (i + 2)) 7 (K j)) (noteC ct (cdR K Ln j (xs (i + 2)) 7 (K j))) H.size) (cwV 0 hts gL_law_X3_thrown rfl rfl rfl (by decide +kernel) ⟨Nat.le_of_ble_eq_true rfl, Nat.le_of_ble_eq_true rfl⟩) ⟨tcP.blind, va_recv hK hP (ci := 3) (q0 := 5) rfl rfl, tcP.go hK hP hD hE hS⟩ rfl rfl hl.1 rfl (lv_room (Nat.le_of_ble_eq_true rfl)) dL_law_1645 ⟨by show _ ≤ 601024; omega, by show _ ≤ 7293034; omega⟩)) (fun r9 h9 => ?_)
    subst h9
    refine lv_iload hx hb dL_law_1648 (lv_at hl 1 rfl) ?_
    refine lv_icmp_eq (tgt := 1655) hx hb dL_law_1650 (by decide) (fun _ => ?_) (fun q => absurd (by decide) q)
    refine lv_iload hx hb dL_law_1655 (lv_at hl 1 rfl) ?_
    refine lv_if_ne (tgt := 1672) hx hb dL_law_1657 (by decide) (fun q => absurd (by decide) q) (fun _ => ?_)
    refine lv_aload_n hx hb dL_law_1660 rfl (lv_at hl 4 rfl) ?_
    refine lv_iconst (v := 0) hx hb dL_law_1661 (by decide) ?_
    refine tc_lald (f := (vp_updL ov 0 ((cdR K Ln j (xs (i + 2)) 7 (K j)).toInt64))) (v := (cdR K Ln j (xs (i + 2)) 7 (K j)).toInt64) hx hb hK hP 11 1 rfl rfl (by unfold vp_in; decide) (show (vp_updL ov 0 ((cdR K Ln j (xs (i + 2)) 7 (K j)).toInt64)) 0 = (cdR K Ln j (xs (i + 2)) 7 (K j)).toInt64 from if_pos rfl) dL_law_1662 ?_
    refine lv_iload hx hb dL_law_1663 (lv_at hl 0 rfl) ?_
    refine lv_i2l (v := (cdR K Ln j (xs (i + 2)) 7 (K j)).toInt64) hx hb dL_law_1665 rfl ?_
    refine W.lcmp hx hb dL_law_1666 ?_
    refine lv_if_eq (tgt := 1672) hx hb dL_law_1667 (by decide) (fun _ => ?_) (fun q => absurd ((lg_cmp_eq _ _).mpr rfl) q)
    refine lv_goto (tgt := 2390) hx hb dL_law_1672 (by decide) ?_
    refine W.widen (k := ce + 3) (n := sl + 44) (by omega) (by omega) ?_
    exact kc _ _ _ _ ⟨ad, wd, rd, n, K, Ln, Wh, (wrX K Ln Re j (xs (i + 2)) 7 (FP.f2d (FP.fmul (FP.i2f (xs (i + 3))) 1040187392))), (cdR K Ln j (xs (i + 2)) 7 (K j)), (noteC ct (cdR K Ln j (xs (i + 2)) 7 (K j))), 0, (vp_updL ov 0 ((cdR K Ln j (xs (i + 2)) 7 (K j)).toInt64)), od, hdd, (tcI_x hI (tf_f2d (tf_fmul _))), hP, hD, hS, lv_sub hl [2, 3, 4, 5, 6, 7] rfl⟩
  · refine lv_aload_n hx hb dL_law_1587 rfl (lv_at hl 4 rfl) ?_
    refine lv_aload_n hx hb dL_law_1588 rfl (lv_at hl 5 rfl) ?_
    refine lv_iload hx hb dL_law_1589 (lv_at hl 0 rfl) ?_
    refine lv_iconst (v := 1) hx hb dL_law_1591 (by decide) ?_
    refine lv_iadd hx hb dL_law_1592 ?_
    refine tc_sld hx hb hX hbl hbA hS hL 1 rfl (by omega) (v := (xs (i + 1))) rfl dL_law_1593 ?_
    refine lv_aload_n hx hb dL_law_1594 rfl (lv_at hl 5 rfl) ?_
    refine lv_iload hx hb dL_law_1595 (lv_at hl 0 rfl) ?_
    refine lv_iconst (v := 2) hx hb dL_law_1597 (by decide) ?_
    refine lv_iadd hx hb dL_law_1598 ?_
    refine tc_sld hx hb hX hbl hbA hS hL 2 rfl (by omega) (v := (xs (i + 2))) rfl dL_law_1599 ?_
    refine lv_aload_n hx hb dL_law_1600 rfl (lv_at hl 5 rfl) ?_
    refine lv_iload hx hb dL_law_1601 (lv_at hl 0 rfl) ?_
    refine lv_iconst (v := 3) hx hb dL_law_1603 (by decide) ?_
    refine lv_iadd hx hb dL_law_1604 ?_
    refine tc_sld hx hb hX hbl hbA hS hL 3 rfl (by omega) (v := (xs (i + 3))) rfl dL_law_1605 ?_
    refine lv_i2f hx hb dL_law_1606 ?_
    refine lv_ldcf (v := 1040187392) hx hb hown (hts (.constantFloat RL 190 (1040187392)) (by decide +kernel)) dL_law_1607 ?_
    refine lv_fmul hx hb dL_law_1609 ((tf_n32 _).mpr (tf_fmul _)) ?_
    refine lv_aload_n hx hb dL_law_1610 rfl (lv_at hl 2 rfl) ?_
    refine va_calli (tc_noX (vx_runSX (As := [.ref h0, .int (xs (i + 1)), .int (xs (i + 2)), .float (FP.fmul (FP.i2f (xs (i + 3))) 1040187392), .ref o1]) (rest := []) ⟨hx, hb, hml, hown, hts⟩ (lLn_writeFloat l hfl D A cI cJ cD cC h0 h1 h2 h3 h4 ad wd rd (m0, .inr (3, [.int th, .int (nI n), .ref m1, .ref m2, .ref m3, .ref m4, .int cd, .ref m5])) (m1, .inl (cI, 60, .inl K)) (m2, .inl (cI, 60, .inl (fun t8 => nI (Ln t8)))) (m3, .inl (cJ, 2400, .inr (.inl Wh))) (m4, .inl (cD, 2400, .inr (.inr (.inr (.inl Re))))) (m5, .inl (cI, 6, .inl ct)) o1 o2 ov od n K Ln Wh Re cd ct H.size hn60 (xs (i + 1)) hc (xs (i + 2)) (FP.fmul (FP.i2f (xs (i + 3))) 1040187392)) (vx_cwSW 5 hts gL_law_L_writeFloat rfl rfl rfl (by decide +kernel) ⟨Nat.le_of_ble_eq_true rfl, Nat.le_of_ble_eq_true rfl⟩) ⟨tcPL.blind, tcPL.go hK hP hD hE hNc hS⟩ rfl rfl hl.1 rfl (lv_room (Nat.le_of_ble_eq_true rfl)) dL_law_1611 ⟨by show _ ≤ 601024; omega, by show _ ≤ 7293034; omega⟩)) hS (fun q _ h => h) (fun q h => h) (fun r uL t H locs ht hvm hw hB hz1 hk1 hS => ?_)
    subst hw
    obtain ⟨hP, hD⟩ := hB
    rw [ht] at hP
    have hP : va_P D vwCl (tc_Z cI cJ cD (h0, .inr (2, [.ref h1, .ref h2, .ref h3, .int (nI n), .int cd])) (h1, .inl (cC, 60, .inr (.inr (.inr (.inr (fun t8 => if t8 < n then some (ad t8) else none)))))) (h2, .inl (cI, 6, .inl ct)) (h3, .inr (1, [.ref h4])) (h4, .inl (cD, 10, .inr (.inr (.inr (.inl (fun t8 => tf_N (1023 + 2 ^ t8) 0)))))) ((o1, .inl (cJ, 1, .inr (.inl ov))) :: (o2, .inl (cD, 1, .inr (.inr (.inr (.inl od))))) :: tc_fl (tc_col cJ cD ad wd rd K Ln Wh Re) n) m0 m1 m2 m3 m4 m5 th n K Ln Wh Re cd ct) H := hP
    have hD : va_D A (tc_Z cI cJ cD (h0, .inr (2, [.ref h1, .ref h2, .ref h3, .int (nI n), .int cd])) (h1, .inl (cC, 60, .inr (.inr (.inr (.inr (fun t8 => if t8 < n then some (ad t8) else none)))))) (h2, .inl (cI, 6, .inl ct)) (h3, .inr (1, [.ref h4])) (h4, .inl (cD, 10, .inr (.inr (.inr (.inl (fun t8 => tf_N (1023 + 2 ^ t8) 0)))))) ((o1, .inl (cJ, 1, .inr (.inl ov))) :: (o2, .inl (cD, 1, .inr (.inr (.inr (.inl od))))) :: tc_fl (tc_col cJ cD ad wd rd K Ln Wh Re) n) m0 m1 m2 m3 m4 m5 th n K Ln Wh Re cd ct) := hD
    refine lv_istore (lv' := [(6, .int 1), (5, .int (nI i)), (4, .ref o2), (3, .ref o1), (2, .ref m0), (1, .ref h0), (0, .ref b)]) hx hb dL_law_1614 hl (by decide) rfl (fun ls hl => ?_)
    refine lv_aload_n hx hb dL_law_1616 rfl (lv_at hl 4 rfl) ?_
    refine lv_aload_n hx hb dL_law_1617 rfl (lv_at hl 6 rfl) ?_
    refine lv_iload hx hb dL_law_1618 (lv_at hl 1 rfl) ?_
    refine lv_iconst (v := 1) hx hb dL_law_1620 (by decide) ?_
    refine lv_iadd hx hb dL_law_1621 ?_
    refine tc_sld hx hb hX hbl hbA hS hL 1 rfl (by omega) (v := (xs (i + 1))) rfl dL_law_1622 ?_
    refine lv_aload_n hx hb dL_law_1623 rfl (lv_at hl 6 rfl) ?_
    refine lv_iload hx hb dL_law_1624 (lv_at hl 1 rfl) ?_
    refine lv_iconst (v := 2) hx hb dL_law_1626 (by decide) ?_
    refine lv_iadd hx hb dL_law_1627 ?_
    refine tc_sld hx hb hX hbl hbA hS hL 2 rfl (by omega) (v := (xs (i + 2))) rfl dL_law_1628 ?_
    refine lv_aload_n hx hb dL_law_1629 rfl (lv_at hl 6 rfl) ?_
    refine lv_iload hx hb dL_law_1630 (lv_at hl 1 rfl) ?_
    refine lv_iconst (v := 3) hx hb dL_law_1632 (by decide) ?_
    refine lv_iadd hx hb dL_law_1633 ?_
    refine tc_sld hx hb hX hbl hbA hS hL 3 rfl (by omega) (v := (xs (i + 3))) rfl dL_law_1634 ?_
    refine lv_i2f hx hb dL_law_1635 ?_
    refine lv_ldcf (v := 1040187392) hx hb hown (hts (.constantFloat RL 190 (1040187392)) (by decide +kernel)) dL_law_1636 ?_
    refine lv_fmul hx hb dL_law_1638 ((tf_n32 _).mpr (tf_fmul _)) ?_
    refine va_calli (va_runV (As := [.int (xs (i + 1)), .int (xs (i + 2)), .float (FP.fmul (FP.i2f (xs (i + 3))) 1040187392)]) (rest := []) ⟨hx, hb, hml, hown, hts⟩ (tX3_writeFloat_n l D A cI cJ cD cC (h0, .inr (2, [.ref h1, .ref h2, .ref h3, .int (nI n), .int cd])) (h1, .inl (cC, 60, .inr (.inr (.inr (.inr (fun t8 => if t8 < n then some (ad t8) else none)))))) (h2, .inl (cI, 6, .inl ct)) (h3, .inr (1, [.ref h4])) (h4, .inl (cD, 10, .inr (.inr (.inr (.inl (fun t8 => tf_N (1023 + 2 ^ t8) 0)))))) ((o1, .inl (cJ, 1, .inr (.inl ov))) :: (o2, .inl (cD, 1, .inr (.inr (.inr (.inl od))))) :: tc_fl (tc_col cJ cD ad wd rd K Ln Wh Re) n) m0 m1 m2 m3 m4 m5 th n K Ln Wh Re cd ct H.size hI (xs (i + 1)) hc (xs (i + 2)) (FP.fmul (FP.i2f (xs (i + 3))) 1040187392) (tf_fmul (xs (i + 3)))) (cwV 3 hts gL_law_X3_writeFloat rfl rfl rfl (by decide +kernel) ⟨Nat.le_of_ble_eq_true rfl, Nat.le_of_ble_eq_true rfl⟩) ⟨tcP.blind, va_recv hK hP (ci := 3) (q0 := 5) rfl rfl, tcP.go hK hP hD hE hS⟩ rfl rfl hl.1 rfl (lv_room (Nat.le_of_ble_eq_true rfl)) dL_law_1639 ⟨by show _ ≤ 601024; omega, by show _ ≤ 7293034; omega⟩) hS (fun q _ h => h) (fun q h => h) (fun r u t H locs ht hvm hw hB hz1 hk1 hS => ?_)
    subst hw
    obtain ⟨hP, hD⟩ := hB
    rw [ht] at hP
    refine lv_istore (lv' := [(7, .int 0), (6, .int 1), (5, .int (nI i)), (4, .ref o2), (3, .ref o1), (2, .ref m0), (1, .ref h0), (0, .ref b)]) hx hb dL_law_1642 hl (by decide) rfl (fun ls hl => ?_)
    refine lv_aload_n hx hb dL_law_1644 rfl (lv_at hl 5 rfl) ?_
    refine vp_callSi (tc_CR (va_runV (As := []) (rest := []) ⟨hx, hb, hml, hown, hts⟩ (tX3_thrown l D A cI cJ cD cC (h0, .inr (2, [.ref h1, .ref h2, .ref h3, .int (nI n), .int cd])) (h1, .inl (cC, 60, .inr (.inr (.inr (.inr (fun t8 => if t8 < n then some (ad t8) else none)))))) (h2, .inl (cI, 6, .inl ct)) (h3, .inr (1, [.ref h4])) (h4, .inl (cD, 10, .inr (.inr (.inr (.inl (fun t8 => tf_N (1023 + 2 ^ t8) 0)))))) ((o1, .inl (cJ, 1, .inr (.inl ov))) :: (o2, .inl (cD, 1, .inr (.inr (.inr (.inl od))))) :: tc_fl (tc_col cJ cD ad wd rd K Ln Wh Re) n) m0 m1 m2 m3 m4 m5 1 n K Ln Wh Re cd ct H.size) (cwV 0 hts gL_law_X3_thrown rfl rfl rfl (by decide +kernel) ⟨Nat.le_of_ble_eq_true rfl, Nat.le_of_ble_eq_true rfl⟩) ⟨tcP.blind, va_recv hK hP (ci := 3) (q0 := 5) rfl rfl, tcP.go hK hP hD hE hS⟩ rfl rfl hl.1 rfl (lv_room (Nat.le_of_ble_eq_true rfl)) dL_law_1645 ⟨by show _ ≤ 601024; omega, by show _ ≤ 7293034; omega⟩)) (fun r9 h9 => ?_)
    subst h9
    refine lv_iload hx hb dL_law_1648 (lv_at hl 1 rfl) ?_
    refine lv_icmp_eq (tgt := 1655) hx hb dL_law_1650 (by decide) (fun _ => ?_) (fun q => absurd (by decide) q)
    refine lv_iload hx hb dL_law_1655 (lv_at hl 1 rfl) ?_
    refine lv_if_ne (tgt := 1672) hx hb dL_law_1657 (by decide) (fun _ => ?_) (fun q => absurd q (by decide))
    refine lv_goto (tgt := 2390) hx hb dL_law_1672 (by decide) ?_
    refine W.widen (k := ce + 3) (n := sl + 44) (by omega) (by omega) ?_
    exact kc _ _ _ _ ⟨ad, wd, rd, n, K, Ln, Wh, Re, cd, ct, 1, ov, od, hdd, hI, hP, hD, hS, lv_sub hl [2, 3, 4, 5, 6, 7] rfl⟩
set_option maxHeartbeats 4000000 in
set_option maxRecDepth 100000 in
theorem law_20 {p : Program} {l : Launch} {e : Env} {s : State} {m : MethodId} {below : List Frame} {meth : Method} {c : Code} {D : va_G} {A : Nat → Prop} {cI cJ cD cC : ClassId} {h0 h1 h2 h3 h4 m0 m1 m2 m3 m4 m5 o1 o2 : Nat} {b L : Nat} {xs : Nat → Int32} {Q : State → Prop} (C0 : LCtx p l D A cI cJ cD cC s m c b L xs) {d : Drawn} {H : Heap} {locs : List Loc} {ls : Array Slot} {i ce sl : Nat} (hi : i + 6 ≤ L) (hce : ce + 3 ≤ 601024) (hsl : sl + 44 ≤ 7293034) (hv : LInv D A cI cJ cD cC h0 h1 h2 h3 h4 m0 m1 m2 m3 m4 m5 o1 o2 s b d H locs i ls) (kc : ∀ (d : Drawn) (H : Heap) (locs : List Loc) (ls : Array Slot), LInv D A cI cJ cD cC h0 h1 h2 h3 h4 m0 m1 m2 m3 m4 m5 o1 o2 s b d H locs i ls → W p l e room_1 (s.setDrawn d) m #[Value.ref b] below meth c H locs (ce + 3) (sl + 44) Q (F0 m 2390 ls [])) : W p l e room_1 (s.setDrawn d) m #[Value.ref b] below meth c H locs ce sl Q (F0 m 1675 ls []) := by
  obtain ⟨hx, hb, hml, hown0, htsB, hX0, hbl, hbA, hA, hL, hfl, hK0, hE0, hNc0⟩ := C0
  obtain ⟨ad, wd, rd, n, K, Ln, Wh, Re, cd, ct, th, ov, od, hdd, hI, hP, hD, hS, hl⟩ := hv
  have hn60 : n ≤ 60 := hI.1
  have hts := dr_words htsB d
  have hK : va_K D vwCl (tcTY cI cJ cD cC) (s.setDrawn d) := hK0
  have hE : tc_E A (s.setDrawn d) := hE0
  have hNc : tc_Nc (s.setDrawn d) := hNc0
  have hown : (s.setDrawn d).vm.findClass RL = some m.cls := hown0
  have hX : va_X b L xs (s.setDrawn d) s.heap := hX0
  rcases Classical.em (∃ j, j < n ∧ xs (i + 1) = nI j) with ⟨j, hj, ej⟩ | hc
  · refine lv_aload_n hx hb dL_law_1675 rfl (lv_at hl 4 rfl) ?_
    refine lv_aload_n hx hb dL_law_1676 rfl (lv_at hl 5 rfl) ?_
    refine lv_iload hx hb dL_law_1677 (lv_at hl 0 rfl) ?_
    refine lv_iconst (v := 1) hx hb dL_law_1679 (by decide) ?_
    refine lv_iadd hx hb dL_law_1680 ?_
    refine tc_sld hx hb hX hbl hbA hS hL 1 rfl (by omega) (v := (nI j)) ej dL_law_1681 ?_
    refine lv_aload_n hx hb dL_law_1682 rfl (lv_at hl 5 rfl) ?_
    refine lv_iload hx hb dL_law_1683 (lv_at hl 0 rfl) ?_
    refine lv_iconst (v := 2) hx hb dL_law_1685 (by decide) ?_
    refine lv_iadd hx hb dL_law_1686 ?_
    refine tc_sld hx hb hX hbl hbA hS hL 2 rfl (by omega) (v := (xs (i + 2))) rfl dL_law_1687 ?_
    refine lv_aload_n hx hb dL_law_1688 rfl (lv_at hl 5 rfl) ?_
    refine lv_iload hx hb dL_law_1689 (lv_at hl 0 rfl) ?_
    refine lv_iconst (v := 3) hx hb dL_law_1691 (by decide) ?_
    refine lv_iadd hx hb dL_law_1692 ?_
    refine tc_sld hx hb hX hbl hbA hS hL 3 rfl (by omega) (v := (xs (i + 3))) rfl dL_law_1693 ?_
    refine lv_i2d hx hb dL_law_1694 ?_
    refine lv_ldc2d (v := 4593671619917905920) hx hb hown (hts (.constantDouble RL 195 (4593671619917905920)) (by decide +kernel)) dL_law_1695 ?_
    refine lv_dmul hx hb dL_law_1698 ((tf_n64 _).mpr (tf_dmul _)) ?_
    refine lv_aload_n hx hb dL_law_1699 rfl (lv_at hl 2 rfl) ?_
    refine va_calli (tc_noX (vx_runSX (As := [.ref h0, .int (nI j), .int (xs (i + 2)), .double (FP.dmul (FP.i2d (xs (i + 3))) 4593671619917905920), .ref o1]) (rest := []) ⟨hx, hb, hml, hown, hts⟩ (lL_writeDouble l hfl D A cI cJ cD cC h0 h1 h2 h3 h4 ad wd rd (m0, .inr (3, [.int th, .int (nI n), .ref m1, .ref m2, .ref m3, .ref m4, .int cd, .ref m5])) (m1, .inl (cI, 60, .inl K)) (m2, .inl (cI, 60, .inl (fun t8 => nI (Ln t8)))) (m3, .inl (cJ, 2400, .inr (.inl Wh))) (m4, .inl (cD, 2400, .inr (.inr (.inr (.inl Re))))) (m5, .inl (cI, 6, .inl ct)) o1 o2 ov od n K Ln Wh Re cd ct H.size hI j hj (xs (i + 2)) (FP.dmul (FP.i2d (xs (i + 3))) 4593671619917905920)) (vx_cwSW 5 hts gL_law_L_writeDouble rfl rfl rfl (by decide +kernel) ⟨Nat.le_of_ble_eq_true rfl, Nat.le_of_ble_eq_true rfl⟩) ⟨tcPL.blind, tcPL.go hK hP hD hE hNc hS⟩ rfl rfl hl.1 rfl (lv_room (Nat.le_of_ble_eq_true rfl)) dL_law_1700 ⟨by show _ ≤ 601024; omega, by show _ ≤ 7293034; omega⟩)) hS (fun q _ h => h) (fun q h => h) (fun r uL t H locs ht hvm hw hB hz1 hk1 hS => ?_)
    subst hw
    obtain ⟨hP, hD⟩ := hB
    rw [ht] at hP
    have hP : va_P D vwCl (tc_Z cI cJ cD (h0, .inr (2, [.ref h1, .ref h2, .ref h3, .int (nI n), .int (cdR K Ln j (xs (i + 2)) 8 (K j))])) (h1, .inl (cC, 60, .inr (.inr (.inr (.inr (fun t8 => if t8 < n then some (ad t8) else none)))))) (h2, .inl (cI, 6, .inl (noteC ct (cdR K Ln j (xs (i + 2)) 8 (K j))))) (h3, .inr (1, [.ref h4])) (h4, .inl (cD, 10, .inr (.inr (.inr (.inl (fun t8 => tf_N (1023 + 2 ^ t8) 0)))))) ((o1, .inl (cJ, 1, .inr (.inl (vp_updL ov 0 ((cdR K Ln j (xs (i + 2)) 8 (K j)).toInt64))))) :: (o2, .inl (cD, 1, .inr (.inr (.inr (.inl od))))) :: tc_fl (tc_col cJ cD ad wd rd K Ln Wh (wrX K Ln Re j (xs (i + 2)) 8 (FP.dmul (FP.i2d (xs (i + 3))) 4593671619917905920))) n) m0 m1 m2 m3 m4 m5 th n K Ln Wh Re cd ct) H := hP
    have hD : va_D A (tc_Z cI cJ cD (h0, .inr (2, [.ref h1, .ref h2, .ref h3, .int (nI n), .int (cdR K Ln j (xs (i + 2)) 8 (K j))])) (h1, .inl (cC, 60, .inr (.inr (.inr (.inr (fun t8 => if t8 < n then some (ad t8) else none)))))) (h2, .inl (cI, 6, .inl (noteC ct (cdR K Ln j (xs (i + 2)) 8 (K j))))) (h3, .inr (1, [.ref h4])) (h4, .inl (cD, 10, .inr (.inr (.inr (.inl (fun t8 => tf_N (1023 + 2 ^ t8) 0)))))) ((o1, .inl (cJ, 1, .inr (.inl (vp_updL ov 0 ((cdR K Ln j (xs (i + 2)) 8 (K j)).toInt64))))) :: (o2, .inl (cD, 1, .inr (.inr (.inr (.inl od))))) :: tc_fl (tc_col cJ cD ad wd rd K Ln Wh (wrX K Ln Re j (xs (i + 2)) 8 (FP.dmul (FP.i2d (xs (i + 3))) 4593671619917905920))) n) m0 m1 m2 m3 m4 m5 th n K Ln Wh Re cd ct) := hD
    refine lv_istore (lv' := [(6, .int 0), (5, .int (nI i)), (4, .ref o2), (3, .ref o1), (2, .ref m0), (1, .ref h0), (0, .ref b)]) hx hb dL_law_1703 hl (by decide) rfl (fun ls hl => ?_)
    refine lv_aload_n hx hb dL_law_1705 rfl (lv_at hl 4 rfl) ?_
    refine lv_aload_n hx hb dL_law_1706 rfl (lv_at hl 6 rfl) ?_
    refine lv_iload hx hb dL_law_1707 (lv_at hl 1 rfl) ?_
    refine lv_iconst (v := 1) hx hb dL_law_1709 (by decide) ?_
    refine lv_iadd hx hb dL_law_1710 ?_
    refine tc_sld hx hb hX hbl hbA hS hL 1 rfl (by omega) (v := (nI j)) ej dL_law_1711 ?_
    refine lv_aload_n hx hb dL_law_1712 rfl (lv_at hl 6 rfl) ?_
    refine lv_iload hx hb dL_law_1713 (lv_at hl 1 rfl) ?_
    refine lv_iconst (v := 2) hx hb dL_law_1715 (by decide) ?_
    refine lv_iadd hx hb dL_law_1716 ?_
    refine tc_sld hx hb hX hbl hbA hS hL 2 rfl (by omega) (v := (xs (i + 2))) rfl dL_law_1717 ?_
    refine lv_aload_n hx hb dL_law_1718 rfl (lv_at hl 6 rfl) ?_
    refine lv_iload hx hb dL_law_1719 (lv_at hl 1 rfl) ?_
    refine lv_iconst (v := 3) hx hb dL_law_1721 (by decide) ?_
    refine lv_iadd hx hb dL_law_1722 ?_
    refine tc_sld hx hb hX hbl hbA hS hL 3 rfl (by omega) (v := (xs (i + 3))) rfl dL_law_1723 ?_
    refine lv_i2d hx hb dL_law_1724 ?_
    refine lv_ldc2d (v := 4593671619917905920) hx hb hown (hts (.constantDouble RL 195 (4593671619917905920)) (by decide +kernel)) dL_law_1725 ?_
    refine lv_dmul hx hb dL_law_1728 ((tf_n64 _).mpr (tf_dmul _)) ?_
    refine va_calli (va_runV (As := [.int (nI j), .int (xs (i + 2)), .double (FP.dmul (FP.i2d (xs (i + 3))) 4593671619917905920)]) (rest := []) ⟨hx, hb, hml, hown, hts⟩ (tX3_writeDouble_y l D A cI cJ cD cC (h0, .inr (2, [.ref h1, .ref h2, .ref h3, .int (nI n), .int (cdR K Ln j (xs (i + 2)) 8 (K j))])) (h1, .inl (cC, 60, .inr (.inr (.inr (.inr (fun t8 => if t8 < n then some (ad t8) else none)))))) (h2, .inl (cI, 6, .inl (noteC ct (cdR K Ln j (xs (i + 2)) 8 (K j))))) (h3, .inr (1, [.ref h4])) (h4, .inl (cD, 10, .inr (.inr (.inr (.inl (fun t8 => tf_N (1023 + 2 ^ t8) 0)))))) ((o1, .inl (cJ, 1, .inr (.inl (vp_updL ov 0 ((cdR K Ln j (xs (i + 2)) 8 (K j)).toInt64))))) :: (o2, .inl (cD, 1, .inr (.inr (.inr (.inl od))))) :: tc_fl (tc_col cJ cD ad wd rd K Ln Wh (wrX K Ln Re j (xs (i + 2)) 8 (FP.dmul (FP.i2d (xs (i + 3))) 4593671619917905920))) n) m0 m1 m2 m3 m4 m5 th n K Ln Wh Re cd ct H.size hI j hj (xs (i + 2)) (FP.dmul (FP.i2d (xs (i + 3))) 4593671619917905920)) (cwV 3 hts gL_law_X3_writeDouble rfl rfl rfl (by decide +kernel) ⟨Nat.le_of_ble_eq_true rfl, Nat.le_of_ble_eq_true rfl⟩) ⟨tcP.blind, va_recv hK hP (ci := 3) (q0 := 5) rfl rfl, tcP.go hK hP hD hE hS⟩ rfl rfl hl.1 rfl (lv_room (Nat.le_of_ble_eq_true rfl)) dL_law_1729 ⟨by show _ ≤ 601024; omega, by show _ ≤ 7293034; omega⟩) hS (fun q _ h => h) (fun q h => h) (fun r u t H locs ht hvm hw hB hz1 hk1 hS => ?_)
    subst hw
    obtain ⟨hP, hD⟩ := hB
    rw [ht] at hP
    refine lv_istore (lv' := [(7, .int (cdR K Ln j (xs (i + 2)) 8 (K j))), (6, .int 0), (5, .int (nI i)), (4, .ref o2), (3, .ref o1), (2, .ref m0), (1, .ref h0), (0, .ref b)]) hx hb dL_law_1732 hl (by decide) rfl (fun ls hl => ?_)
    refine lv_aload_n hx hb dL_law_1734 rfl (lv_at hl 5 rfl) ?_
    refine vp_callSi (tc_CR (va_runV (As := []) (rest := []) ⟨hx, hb, hml, hown, hts⟩ (tX3_thrown l D A cI cJ cD cC (h0, .inr (2, [.ref h1, .ref h2, .ref h3, .int (nI n), .int (cdR K Ln j (xs (i + 2)) 8 (K j))])) (h1, .inl (cC, 60, .inr (.inr (.inr (.inr (fun t8 => if t8 < n then some (ad t8) else none)))))) (h2, .inl (cI, 6, .inl (noteC ct (cdR K Ln j (xs (i + 2)) 8 (K j))))) (h3, .inr (1, [.ref h4])) (h4, .inl (cD, 10, .inr (.inr (.inr (.inl (fun t8 => tf_N (1023 + 2 ^ t8) 0)))))) ((o1, .inl (cJ, 1, .inr (.inl (vp_updL ov 0 ((cdR K Ln j (xs (i + 2)) 8 (K j)).toInt64))))) :: (o2, .inl (cD, 1, .inr (.inr (.inr (.inl od))))) :: tc_fl (tc_col cJ cD ad wd rd K Ln Wh (wrX K Ln Re j (xs (i + 2)) 8 (FP.dmul (FP.i2d (xs (i + 3))) 4593671619917905920))) n) m0 m1 m2 m3 m4 m5 0 n K Ln Wh (wrX K Ln Re j (xs (i + 2)) 8 (FP.dmul (FP.i2d (xs (i + 3))) 4593671619917905920)) (cdR K Ln j (xs (i + 2)) 8 (K j)) (noteC ct (cdR K Ln j (xs (i + 2)) 8 (K j))) H.size) (cwV 0 hts gL_law_X3_thrown rfl rfl rfl (by decide +kernel) ⟨Nat.le_of_ble_eq_true rfl, Nat.le_of_ble_eq_true rfl⟩) ⟨tcP.blind, va_recv hK hP (ci := 3) (q0 := 5) rfl rfl, tcP.go hK hP hD hE hS⟩ rfl rfl hl.1 rfl (lv_room (Nat.le_of_ble_eq_true rfl)) dL_law_1735 ⟨by show _ ≤ 601024; omega, by show _ ≤ 7293034; omega⟩)) (fun r9 h9 => ?_)
    subst h9
    refine lv_iload hx hb dL_law_1738 (lv_at hl 1 rfl) ?_
    refine lv_icmp_eq (tgt := 1745) hx hb dL_law_1740 (by decide) (fun _ => ?_) (fun q => absurd (by decide) q)
    refine lv_iload hx hb dL_law_1745 (lv_at hl 1 rfl) ?_
    refine lv_if_ne (tgt := 1762) hx hb dL_law_1747 (by decide) (fun q => absurd (by decide) q) (fun _ => ?_)
    refine lv_aload_n hx hb dL_law_1750 rfl (lv_at hl 4 rfl) ?_
    refine lv_iconst (v := 0) hx hb dL_law_1751 (by decide) ?_
    refine tc_lald (f := (vp_updL ov 0 ((cdR K Ln j (xs (i + 2)) 8 (K j)).toInt64))) (v := (cdR K Ln j (xs (i + 2)) 8 (K j)).toInt64) hx hb hK hP 11 1 rfl rfl (by unfold vp_in; decide) (show (vp_updL ov 0 ((cdR K Ln j (xs (i + 2)) 8 (K j)).toInt64)) 0 = (cdR K Ln j (xs (i + 2)) 8 (K j)).toInt64 from if_pos rfl) dL_law_1752 ?_
    refine lv_iload hx hb dL_law_1753 (lv_at hl 0 rfl) ?_
    refine lv_i2l (v := (cdR K Ln j (xs (i + 2)) 8 (K j)).toInt64) hx hb dL_law_1755 rfl ?_
    refine W.lcmp hx hb dL_law_1756 ?_
    refine lv_if_eq (tgt := 1762) hx hb dL_law_1757 (by decide) (fun _ => ?_) (fun q => absurd ((lg_cmp_eq _ _).mpr rfl) q)
    refine lv_goto (tgt := 2390) hx hb dL_law_1762 (by decide) ?_
    refine W.widen (k := ce + 3) (n := sl + 44) (by omega) (by omega) ?_
    exact kc _ _ _ _ ⟨ad, wd, rd, n, K, Ln, Wh, (wrX K Ln Re j (xs (i + 2)) 8 (FP.dmul (FP.i2d (xs (i + 3))) 4593671619917905920)), (cdR K Ln j (xs (i + 2)) 8 (K j)), (noteC ct (cdR K Ln j (xs (i + 2)) 8 (K j))), 0, (vp_updL ov 0 ((cdR K Ln j (xs (i + 2)) 8 (K j)).toInt64)), od, hdd, (tcI_x hI (tf_dmul _)), hP, hD, hS, lv_sub hl [2, 3, 4, 5, 6, 7] rfl⟩
  · refine lv_aload_n hx hb dL_law_1675 rfl (lv_at hl 4 rfl) ?_
    refine lv_aload_n hx hb dL_law_1676 rfl (lv_at hl 5 rfl) ?_
    refine lv_iload hx hb dL_law_1677 (lv_at hl 0 rfl) ?_
    refine lv_iconst (v := 1) hx hb dL_law_1679 (by decide) ?_
    refine lv_iadd hx hb dL_law_1680 ?_
    refine tc_sld hx hb hX hbl hbA hS hL 1 rfl (by omega) (v := (xs (i + 1))) rfl dL_law_1681 ?_
    refine lv_aload_n hx hb dL_law_1682 rfl (lv_at hl 5 rfl) ?_
    refine lv_iload hx hb dL_law_1683 (lv_at hl 0 rfl) ?_
    refine lv_iconst (v := 2) hx hb dL_law_1685 (by decide) ?_
    refine lv_iadd hx hb dL_law_1686 ?_
    refine tc_sld hx hb hX hbl hbA hS hL 2 rfl (by omega) (v := (xs (i + 2))) rfl dL_law_1687 ?_
    refine lv_aload_n hx hb dL_law_1688 rfl (lv_at hl 5 rfl) ?_
    refine lv_iload hx hb dL_law_1689 (lv_at hl 0 rfl) ?_
    refine lv_iconst (v := 3) hx hb dL_law_1691 (by decide) ?_
    refine lv_iadd hx hb dL_law_1692 ?_
    refine tc_sld hx hb hX hbl hbA hS hL 3 rfl (by omega) (v := (xs (i + 3))) rfl dL_law_1693 ?_
    refine lv_i2d hx hb dL_law_1694 ?_
    refine lv_ldc2d (v := 4593671619917905920) hx hb hown (hts (.constantDouble RL 195 (4593671619917905920)) (by decide +kernel)) dL_law_1695 ?_
    refine lv_dmul hx hb dL_law_1698 ((tf_n64 _).mpr (tf_dmul _)) ?_
    refine lv_aload_n hx hb dL_law_1699 rfl (lv_at hl 2 rfl) ?_
    refine va_calli (tc_noX (vx_runSX (As := [.ref h0, .int (xs (i + 1)), .int (xs (i + 2)), .double (FP.dmul (FP.i2d (xs (i + 3))) 4593671619917905920), .ref o1]) (rest := []) ⟨hx, hb, hml, hown, hts⟩ (lLn_writeDouble l hfl D A cI cJ cD cC h0 h1 h2 h3 h4 ad wd rd (m0, .inr (3, [.int th, .int (nI n), .ref m1, .ref m2, .ref m3, .ref m4, .int cd, .ref m5])) (m1, .inl (cI, 60, .inl K)) (m2, .inl (cI, 60, .inl (fun t8 => nI (Ln t8)))) (m3, .inl (cJ, 2400, .inr (.inl Wh))) (m4, .inl (cD, 2400, .inr (.inr (.inr (.inl Re))))) (m5, .inl (cI, 6, .inl ct)) o1 o2 ov od n K Ln Wh Re cd ct H.size hn60 (xs (i + 1)) hc (xs (i + 2)) (FP.dmul (FP.i2d (xs (i + 3))) 4593671619917905920)) (vx_cwSW 5 hts gL_law_L_writeDouble rfl rfl rfl (by decide +kernel) ⟨Nat.le_of_ble_eq_true rfl, Nat.le_of_ble_eq_true rfl⟩) ⟨tcPL.blind, tcPL.go hK hP hD hE hNc hS⟩ rfl rfl hl.1 rfl (lv_room (Nat.le_of_ble_eq_true rfl)) dL_law_1700 ⟨by show _ ≤ 601024; omega, by show _ ≤ 7293034; omega⟩)) hS (fun q _ h => h) (fun q h => h) (fun r uL t H locs ht hvm hw hB hz1 hk1 hS => ?_)
    subst hw
    obtain ⟨hP, hD⟩ := hB
    rw [ht] at hP
    have hP : va_P D vwCl (tc_Z cI cJ cD (h0, .inr (2, [.ref h1, .ref h2, .ref h3, .int (nI n), .int cd])) (h1, .inl (cC, 60, .inr (.inr (.inr (.inr (fun t8 => if t8 < n then some (ad t8) else none)))))) (h2, .inl (cI, 6, .inl ct)) (h3, .inr (1, [.ref h4])) (h4, .inl (cD, 10, .inr (.inr (.inr (.inl (fun t8 => tf_N (1023 + 2 ^ t8) 0)))))) ((o1, .inl (cJ, 1, .inr (.inl ov))) :: (o2, .inl (cD, 1, .inr (.inr (.inr (.inl od))))) :: tc_fl (tc_col cJ cD ad wd rd K Ln Wh Re) n) m0 m1 m2 m3 m4 m5 th n K Ln Wh Re cd ct) H := hP
    have hD : va_D A (tc_Z cI cJ cD (h0, .inr (2, [.ref h1, .ref h2, .ref h3, .int (nI n), .int cd])) (h1, .inl (cC, 60, .inr (.inr (.inr (.inr (fun t8 => if t8 < n then some (ad t8) else none)))))) (h2, .inl (cI, 6, .inl ct)) (h3, .inr (1, [.ref h4])) (h4, .inl (cD, 10, .inr (.inr (.inr (.inl (fun t8 => tf_N (1023 + 2 ^ t8) 0)))))) ((o1, .inl (cJ, 1, .inr (.inl ov))) :: (o2, .inl (cD, 1, .inr (.inr (.inr (.inl od))))) :: tc_fl (tc_col cJ cD ad wd rd K Ln Wh Re) n) m0 m1 m2 m3 m4 m5 th n K Ln Wh Re cd ct) := hD
    refine lv_istore (lv' := [(6, .int 1), (5, .int (nI i)), (4, .ref o2), (3, .ref o1), (2, .ref m0), (1, .ref h0), (0, .ref b)]) hx hb dL_law_1703 hl (by decide) rfl (fun ls hl => ?_)
    refine lv_aload_n hx hb dL_law_1705 rfl (lv_at hl 4 rfl) ?_
    refine lv_aload_n hx hb dL_law_1706 rfl (lv_at hl 6 rfl) ?_
    refine lv_iload hx hb dL_law_1707 (lv_at hl 1 rfl) ?_
    refine lv_iconst (v := 1) hx hb dL_law_1709 (by decide) ?_
    refine lv_iadd hx hb dL_law_1710 ?_
    refine tc_sld hx hb hX hbl hbA hS hL 1 rfl (by omega) (v := (xs (i + 1))) rfl dL_law_1711 ?_
    refine lv_aload_n hx hb dL_law_1712 rfl (lv_at hl 6 rfl) ?_
    refine lv_iload hx hb dL_law_1713 (lv_at hl 1 rfl) ?_
    refine lv_iconst (v := 2) hx hb dL_law_1715 (by decide) ?_
    refine lv_iadd hx hb dL_law_1716 ?_
    refine tc_sld hx hb hX hbl hbA hS hL 2 rfl (by omega) (v := (xs (i + 2))) rfl dL_law_1717 ?_
    refine lv_aload_n hx hb dL_law_1718 rfl (lv_at hl 6 rfl) ?_
    refine lv_iload hx hb dL_law_1719 (lv_at hl 1 rfl) ?_
    refine lv_iconst (v := 3) hx hb dL_law_1721 (by decide) ?_
    refine lv_iadd hx hb dL_law_1722 ?_
    refine tc_sld hx hb hX hbl hbA hS hL 3 rfl (by omega) (v := (xs (i + 3))) rfl dL_law_1723 ?_
    refine lv_i2d hx hb dL_law_1724 ?_
    refine lv_ldc2d (v := 4593671619917905920) hx hb hown (hts (.constantDouble RL 195 (4593671619917905920)) (by decide +kernel)) dL_law_1725 ?_
    refine lv_dmul hx hb dL_law_1728 ((tf_n64 _).mpr (tf_dmul _)) ?_
    refine va_calli (va_runV (As := [.int (xs (i + 1)), .int (xs (i + 2)), .double (FP.dmul (FP.i2d (xs (i + 3))) 4593671619917905920)]) (rest := []) ⟨hx, hb, hml, hown, hts⟩ (tX3_writeDouble_n l D A cI cJ cD cC (h0, .inr (2, [.ref h1, .ref h2, .ref h3, .int (nI n), .int cd])) (h1, .inl (cC, 60, .inr (.inr (.inr (.inr (fun t8 => if t8 < n then some (ad t8) else none)))))) (h2, .inl (cI, 6, .inl ct)) (h3, .inr (1, [.ref h4])) (h4, .inl (cD, 10, .inr (.inr (.inr (.inl (fun t8 => tf_N (1023 + 2 ^ t8) 0)))))) ((o1, .inl (cJ, 1, .inr (.inl ov))) :: (o2, .inl (cD, 1, .inr (.inr (.inr (.inl od))))) :: tc_fl (tc_col cJ cD ad wd rd K Ln Wh Re) n) m0 m1 m2 m3 m4 m5 th n K Ln Wh Re cd ct H.size hI (xs (i + 1)) hc (xs (i + 2)) (FP.dmul (FP.i2d (xs (i + 3))) 4593671619917905920)) (cwV 3 hts gL_law_X3_writeDouble rfl rfl rfl (by decide +kernel) ⟨Nat.le_of_ble_eq_true rfl, Nat.le_of_ble_eq_true rfl⟩) ⟨tcP.blind, va_recv hK hP (ci := 3) (q0 := 5) rfl rfl, tcP.go hK hP hD hE hS⟩ rfl rfl hl.1 rfl (lv_room (Nat.le_of_ble_eq_true rfl)) dL_law_1729 ⟨by show _ ≤ 601024; omega, by show _ ≤ 7293034; omega⟩) hS (fun q _ h => h) (fun q h => h) (fun r u t H locs ht hvm hw hB hz1 hk1 hS => ?_)
    subst hw
    obtain ⟨hP, hD⟩ := hB
    rw [ht] at hP
    refine lv_istore (lv' := [(7, .int 0), (6, .int 1), (5, .int (nI i)), (4, .ref o2), (3, .ref o1), (2, .ref m0), (1, .ref h0), (0, .ref b)]) hx hb dL_law_1732 hl (by decide) rfl (fun ls hl => ?_)
    refine lv_aload_n hx hb dL_law_1734 rfl (lv_at hl 5 rfl) ?_
    refine vp_callSi (tc_CR (va_runV (As := []) (rest := []) ⟨hx, hb, hml, hown, hts⟩ (tX3_thrown l D A cI cJ cD cC (h0, .inr (2, [.ref h1, .ref h2, .ref h3, .int (nI n), .int cd])) (h1, .inl (cC, 60, .inr (.inr (.inr (.inr (fun t8 => if t8 < n then some (ad t8) else none)))))) (h2, .inl (cI, 6, .inl ct)) (h3, .inr (1, [.ref h4])) (h4, .inl (cD, 10, .inr (.inr (.inr (.inl (fun t8 => tf_N (1023 + 2 ^ t8) 0)))))) ((o1, .inl (cJ, 1, .inr (.inl ov))) :: (o2, .inl (cD, 1, .inr (.inr (.inr (.inl od))))) :: tc_fl (tc_col cJ cD ad wd rd K Ln Wh Re) n) m0 m1 m2 m3 m4 m5 1 n K Ln Wh Re cd ct H.size) (cwV 0 hts gL_law_X3_thrown rfl rfl rfl (by decide +kernel) ⟨Nat.le_of_ble_eq_true rfl, Nat.le_of_ble_eq_true rfl⟩) ⟨tcP.blind, va_recv hK hP (ci := 3) (q0 := 5) rfl rfl, tcP.go hK hP hD hE hS⟩ rfl rfl hl.1 rfl (lv_room (Nat.le_of_ble_eq_true rfl)) dL_law_1735 ⟨by show _ ≤ 601024; omega, by show _ ≤ 7293034; omega⟩)) (fun r9 h9 => ?_)
    subst h9
    refine lv_iload hx hb dL_law_1738 (lv_at hl 1 rfl) ?_
    refine lv_icmp_eq (tgt := 1745) hx hb dL_law_1740 (by decide) (fun _ => ?_) (fun q => absurd (by decide) q)
    refine lv_iload hx hb dL_law_1745 (lv_at hl 1 rfl) ?_
    refine lv_if_ne (tgt := 1762) hx hb dL_law_1747 (by decide) (fun _ => ?_) (fun q => absurd q (by decide))
    refine lv_goto (tgt := 2390) hx hb dL_law_1762 (by decide) ?_
    refine W.widen (k := ce + 3) (n := sl + 44) (by omega) (by omega) ?_
    exact kc _ _ _ _ ⟨ad, wd, rd, n, K, Ln, Wh, Re, cd, ct, 1, ov, od, hdd, hI, hP, hD, hS, lv_sub hl [2, 3, 4, 5, 6, 7] rfl⟩
set_option maxHeartbeats 4000000 in
set_option maxRecDepth 100000 in
theorem law_21 {p : Program} {l : Launch} {e : Env} {s : State} {m : MethodId} {below : List Frame} {meth : Method} {c : Code} {D : va_G} {A : Nat → Prop} {cI cJ cD cC : ClassId} {h0 h1 h2 h3 h4 m0 m1 m2 m3 m4 m5 o1 o2 : Nat} {b L : Nat} {xs : Nat → Int32} {Q : State → Prop} (C0 : LCtx p l D A cI cJ cD cC s m c b L xs) {d : Drawn} {H : Heap} {locs : List Loc} {ls : Array Slot} {i ce sl : Nat} (hi : i + 6 ≤ L) (hce : ce + 3 ≤ 601024) (hsl : sl + 44 ≤ 7293034) (hv : LInv D A cI cJ cD cC h0 h1 h2 h3 h4 m0 m1 m2 m3 m4 m5 o1 o2 s b d H locs i ls) (kc : ∀ (d : Drawn) (H : Heap) (locs : List Loc) (ls : Array Slot), LInv D A cI cJ cD cC h0 h1 h2 h3 h4 m0 m1 m2 m3 m4 m5 o1 o2 s b d H locs i ls → W p l e room_1 (s.setDrawn d) m #[Value.ref b] below meth c H locs (ce + 3) (sl + 44) Q (F0 m 2390 ls [])) : W p l e room_1 (s.setDrawn d) m #[Value.ref b] below meth c H locs ce sl Q (F0 m 1765 ls []) := by
  obtain ⟨hx, hb, hml, hown0, htsB, hX0, hbl, hbA, hA, hL, hfl, hK0, hE0, hNc0⟩ := C0
  obtain ⟨ad, wd, rd, n, K, Ln, Wh, Re, cd, ct, th, ov, od, hdd, hI, hP, hD, hS, hl⟩ := hv
  have hn60 : n ≤ 60 := hI.1
  have hts := dr_words htsB d
  have hK : va_K D vwCl (tcTY cI cJ cD cC) (s.setDrawn d) := hK0
  have hE : tc_E A (s.setDrawn d) := hE0
  have hNc : tc_Nc (s.setDrawn d) := hNc0
  have hown : (s.setDrawn d).vm.findClass RL = some m.cls := hown0
  have hX : va_X b L xs (s.setDrawn d) s.heap := hX0
  rcases Classical.em (∃ j, j < n ∧ xs (i + 1) = nI j) with ⟨j, hj, ej⟩ | hc
  · cases hk : kHas (xs (i + 3))
    · refine lv_aload_n hx hb dL_law_1765 rfl (lv_at hl 4 rfl) ?_
      refine lv_aload_n hx hb dL_law_1766 rfl (lv_at hl 5 rfl) ?_
      refine lv_iload hx hb dL_law_1767 (lv_at hl 0 rfl) ?_
      refine lv_iconst (v := 1) hx hb dL_law_1769 (by decide) ?_
      refine lv_iadd hx hb dL_law_1770 ?_
      refine tc_sld hx hb hX hbl hbA hS hL 1 rfl (by omega) (v := (nI j)) ej dL_law_1771 ?_
      refine lv_aload_n hx hb dL_law_1772 rfl (lv_at hl 5 rfl) ?_
      refine lv_iload hx hb dL_law_1773 (lv_at hl 0 rfl) ?_
      refine lv_iconst (v := 2) hx hb dL_law_1775 (by decide) ?_
      refine lv_iadd hx hb dL_law_1776 ?_
      refine tc_sld hx hb hX hbl hbA hS hL 2 rfl (by omega) (v := (xs (i + 2))) rfl dL_law_1777 ?_
      refine lv_aload_n hx hb dL_law_1778 rfl (lv_at hl 5 rfl) ?_
      refine lv_iload hx hb dL_law_1779 (lv_at hl 0 rfl) ?_
      refine lv_iconst (v := 3) hx hb dL_law_1781 (by decide) ?_
      refine lv_iadd hx hb dL_law_1782 ?_
      refine tc_sld hx hb hX hbl hbA hS hL 3 rfl (by omega) (v := (xs (i + 3))) rfl dL_law_1783 ?_
      refine lv_aload_n hx hb dL_law_1784 rfl (lv_at hl 5 rfl) ?_
      refine lv_iload hx hb dL_law_1785 (lv_at hl 0 rfl) ?_
      refine lv_iconst (v := 4) hx hb dL_law_1787 (by decide) ?_
      refine lv_iadd hx hb dL_law_1788 ?_
      refine tc_sld hx hb hX hbl hbA hS hL 4 rfl (by omega) (v := (xs (i + 4))) rfl dL_law_1789 ?_
      refine lv_aload_n hx hb dL_law_1790 rfl (lv_at hl 2 rfl) ?_
      refine va_calli (tc_noX (vx_runSX (As := [.ref h0, .int (nI j), .int (xs (i + 2)), .int (xs (i + 3)), .int (xs (i + 4)), .ref o1]) (rest := []) ⟨hx, hb, hml, hown, hts⟩ (lLn_writeAny_k l hfl D A cI cJ cD cC h0 h1 h2 h3 h4 ad wd rd (m0, .inr (3, [.int th, .int (nI n), .ref m1, .ref m2, .ref m3, .ref m4, .int cd, .ref m5])) (m1, .inl (cI, 60, .inl K)) (m2, .inl (cI, 60, .inl (fun t8 => nI (Ln t8)))) (m3, .inl (cJ, 2400, .inr (.inl Wh))) (m4, .inl (cD, 2400, .inr (.inr (.inr (.inl Re))))) (m5, .inl (cI, 6, .inl ct)) o1 o2 ov od n K Ln Wh Re cd ct H.size hn60 j hj (xs (i + 2)) (xs (i + 3)) (xs (i + 4)) hk) (vx_cwSW 6 hts gL_law_L_writeAny rfl rfl rfl (by decide +kernel) ⟨Nat.le_of_ble_eq_true rfl, Nat.le_of_ble_eq_true rfl⟩) ⟨tcPL.blind, tcPL.go hK hP hD hE hNc hS⟩ rfl rfl hl.1 rfl (lv_room (Nat.le_of_ble_eq_true rfl)) dL_law_1791 ⟨by show _ ≤ 601024; omega, by show _ ≤ 7293034; omega⟩)) hS (fun q _ h => h) (fun q h => h) (fun r uL t H locs ht hvm hw hB hz1 hk1 hS => ?_)
      subst hw
      obtain ⟨hP, hD⟩ := hB
      rw [ht] at hP
      have hP : va_P D vwCl (tc_Z cI cJ cD (h0, .inr (2, [.ref h1, .ref h2, .ref h3, .int (nI n), .int cd])) (h1, .inl (cC, 60, .inr (.inr (.inr (.inr (fun t8 => if t8 < n then some (ad t8) else none)))))) (h2, .inl (cI, 6, .inl ct)) (h3, .inr (1, [.ref h4])) (h4, .inl (cD, 10, .inr (.inr (.inr (.inl (fun t8 => tf_N (1023 + 2 ^ t8) 0)))))) ((o1, .inl (cJ, 1, .inr (.inl ov))) :: (o2, .inl (cD, 1, .inr (.inr (.inr (.inl od))))) :: tc_fl (tc_col cJ cD ad wd rd K Ln Wh Re) n) m0 m1 m2 m3 m4 m5 th n K Ln Wh Re cd ct) H := hP
      have hD : va_D A (tc_Z cI cJ cD (h0, .inr (2, [.ref h1, .ref h2, .ref h3, .int (nI n), .int cd])) (h1, .inl (cC, 60, .inr (.inr (.inr (.inr (fun t8 => if t8 < n then some (ad t8) else none)))))) (h2, .inl (cI, 6, .inl ct)) (h3, .inr (1, [.ref h4])) (h4, .inl (cD, 10, .inr (.inr (.inr (.inl (fun t8 => tf_N (1023 + 2 ^ t8) 0)))))) ((o1, .inl (cJ, 1, .inr (.inl ov))) :: (o2, .inl (cD, 1, .inr (.inr (.inr (.inl od))))) :: tc_fl (tc_col cJ cD ad wd rd K Ln Wh Re) n) m0 m1 m2 m3 m4 m5 th n K Ln Wh Re cd ct) := hD
      refine lv_istore (lv' := [(6, .int 2), (5, .int (nI i)), (4, .ref o2), (3, .ref o1), (2, .ref m0), (1, .ref h0), (0, .ref b)]) hx hb dL_law_1794 hl (by decide) rfl (fun ls hl => ?_)
      refine lv_aload_n hx hb dL_law_1796 rfl (lv_at hl 4 rfl) ?_
      refine lv_aload_n hx hb dL_law_1797 rfl (lv_at hl 6 rfl) ?_
      refine lv_iload hx hb dL_law_1798 (lv_at hl 1 rfl) ?_
      refine lv_iconst (v := 1) hx hb dL_law_1800 (by decide) ?_
      refine lv_iadd hx hb dL_law_1801 ?_
      refine tc_sld hx hb hX hbl hbA hS hL 1 rfl (by omega) (v := (nI j)) ej dL_law_1802 ?_
      refine lv_aload_n hx hb dL_law_1803 rfl (lv_at hl 6 rfl) ?_
      refine lv_iload hx hb dL_law_1804 (lv_at hl 1 rfl) ?_
      refine lv_iconst (v := 2) hx hb dL_law_1806 (by decide) ?_
      refine lv_iadd hx hb dL_law_1807 ?_
      refine tc_sld hx hb hX hbl hbA hS hL 2 rfl (by omega) (v := (xs (i + 2))) rfl dL_law_1808 ?_
      refine lv_aload_n hx hb dL_law_1809 rfl (lv_at hl 6 rfl) ?_
      refine lv_iload hx hb dL_law_1810 (lv_at hl 1 rfl) ?_
      refine lv_iconst (v := 3) hx hb dL_law_1812 (by decide) ?_
      refine lv_iadd hx hb dL_law_1813 ?_
      refine tc_sld hx hb hX hbl hbA hS hL 3 rfl (by omega) (v := (xs (i + 3))) rfl dL_law_1814 ?_
      refine lv_aload_n hx hb dL_law_1815 rfl (lv_at hl 6 rfl) ?_
      refine lv_iload hx hb dL_law_1816 (lv_at hl 1 rfl) ?_
      refine lv_iconst (v := 4) hx hb dL_law_1818 (by decide) ?_
      refine lv_iadd hx hb dL_law_1819 ?_
      refine tc_sld hx hb hX hbl hbA hS hL 4 rfl (by omega) (v := (xs (i + 4))) rfl dL_law_1820 ?_
      refine va_calli (va_runV (As := [.int (nI j), .int (xs (i + 2)), .int (xs (i + 3)), .int (xs (i + 4))]) (rest := []) ⟨hx, hb, hml, hown, hts⟩ (tX3_writeAny_k l D A cI cJ cD cC (h0, .inr (2, [.ref h1, .ref h2, .ref h3, .int (nI n), .int cd])) (h1, .inl (cC, 60, .inr (.inr (.inr (.inr (fun t8 => if t8 < n then some (ad t8) else none)))))) (h2, .inl (cI, 6, .inl ct)) (h3, .inr (1, [.ref h4])) (h4, .inl (cD, 10, .inr (.inr (.inr (.inl (fun t8 => tf_N (1023 + 2 ^ t8) 0)))))) ((o1, .inl (cJ, 1, .inr (.inl ov))) :: (o2, .inl (cD, 1, .inr (.inr (.inr (.inl od))))) :: tc_fl (tc_col cJ cD ad wd rd K Ln Wh Re) n) m0 m1 m2 m3 m4 m5 th n K Ln Wh Re cd ct H.size hI j hj (xs (i + 2)) (xs (i + 3)) (xs (i + 4)) hk) (cwV 4 hts gL_law_X3_writeAny rfl rfl rfl (by decide +kernel) ⟨Nat.le_of_ble_eq_true rfl, Nat.le_of_ble_eq_true rfl⟩) ⟨tcP.blind, va_recv hK hP (ci := 3) (q0 := 5) rfl rfl, tcP.go hK hP hD hE hS⟩ rfl rfl hl.1 rfl (lv_room (Nat.le_of_ble_eq_true rfl)) dL_law_1821 ⟨by show _ ≤ 601024; omega, by show _ ≤ 7293034; omega⟩) hS (fun q _ h => h) (fun q h => h) (fun r u t H locs ht hvm hw hB hz1 hk1 hS => ?_)
      subst hw
      obtain ⟨hP, hD⟩ := hB
      rw [ht] at hP
      refine lv_istore (lv' := [(7, .int 0), (6, .int 2), (5, .int (nI i)), (4, .ref o2), (3, .ref o1), (2, .ref m0), (1, .ref h0), (0, .ref b)]) hx hb dL_law_1824 hl (by decide) rfl (fun ls hl => ?_)
      refine lv_aload_n hx hb dL_law_1826 rfl (lv_at hl 5 rfl) ?_
      refine vp_callSi (tc_CR (va_runV (As := []) (rest := []) ⟨hx, hb, hml, hown, hts⟩ (tX3_thrown l D A cI cJ cD cC (h0, .inr (2, [.ref h1, .ref h2, .ref h3, .int (nI n), .int cd])) (h1, .inl (cC, 60, .inr (.inr (.inr (.inr (fun t8 => if t8 < n then some (ad t8) else none)))))) (h2, .inl (cI, 6, .inl ct)) (h3, .inr (1, [.ref h4])) (h4, .inl (cD, 10, .inr (.inr (.inr (.inl (fun t8 => tf_N (1023 + 2 ^ t8) 0)))))) ((o1, .inl (cJ, 1, .inr (.inl ov))) :: (o2, .inl (cD, 1, .inr (.inr (.inr (.inl od))))) :: tc_fl (tc_col cJ cD ad wd rd K Ln Wh Re) n) m0 m1 m2 m3 m4 m5 2 n K Ln Wh Re cd ct H.size) (cwV 0 hts gL_law_X3_thrown rfl rfl rfl (by decide +kernel) ⟨Nat.le_of_ble_eq_true rfl, Nat.le_of_ble_eq_true rfl⟩) ⟨tcP.blind, va_recv hK hP (ci := 3) (q0 := 5) rfl rfl, tcP.go hK hP hD hE hS⟩ rfl rfl hl.1 rfl (lv_room (Nat.le_of_ble_eq_true rfl)) dL_law_1827 ⟨by show _ ≤ 601024; omega, by show _ ≤ 7293034; omega⟩)) (fun r9 h9 => ?_)
      subst h9
      refine lv_iload hx hb dL_law_1830 (lv_at hl 1 rfl) ?_
      refine lv_icmp_eq (tgt := 1837) hx hb dL_law_1832 (by decide) (fun _ => ?_) (fun q => absurd (by decide) q)
      refine lv_iload hx hb dL_law_1837 (lv_at hl 1 rfl) ?_
      refine lv_if_ne (tgt := 1854) hx hb dL_law_1839 (by decide) (fun _ => ?_) (fun q => absurd q (by decide))
      refine lv_goto (tgt := 2390) hx hb dL_law_1854 (by decide) ?_
      refine W.widen (k := ce + 3) (n := sl + 44) (by omega) (by omega) ?_
      exact kc _ _ _ _ ⟨ad, wd, rd, n, K, Ln, Wh, Re, cd, ct, 2, ov, od, hdd, hI, hP, hD, hS, lv_sub hl [2, 3, 4, 5, 6, 7] rfl⟩
    · rcases kHas8 hk with e3 | e3 | e3 | e3 | e3 | e3 | e3 | e3
      · refine lv_aload_n hx hb dL_law_1765 rfl (lv_at hl 4 rfl) ?_
        refine lv_aload_n hx hb dL_law_1766 rfl (lv_at hl 5 rfl) ?_
        refine lv_iload hx hb dL_law_1767 (lv_at hl 0 rfl) ?_
        refine lv_iconst (v := 1) hx hb dL_law_1769 (by decide) ?_
        refine lv_iadd hx hb dL_law_1770 ?_
        refine tc_sld hx hb hX hbl hbA hS hL 1 rfl (by omega) (v := (nI j)) ej dL_law_1771 ?_
        refine lv_aload_n hx hb dL_law_1772 rfl (lv_at hl 5 rfl) ?_
        refine lv_iload hx hb dL_law_1773 (lv_at hl 0 rfl) ?_
        refine lv_iconst (v := 2) hx hb dL_law_1775 (by decide) ?_
        refine lv_iadd hx hb dL_law_1776 ?_
        refine tc_sld hx hb hX hbl hbA hS hL 2 rfl (by omega) (v := (xs (i + 2))) rfl dL_law_1777 ?_
        refine lv_aload_n hx hb dL_law_1778 rfl (lv_at hl 5 rfl) ?_
        refine lv_iload hx hb dL_law_1779 (lv_at hl 0 rfl) ?_
        refine lv_iconst (v := 3) hx hb dL_law_1781 (by decide) ?_
        refine lv_iadd hx hb dL_law_1782 ?_
        refine tc_sld hx hb hX hbl hbA hS hL 3 rfl (by omega) (v := 1) e3 dL_law_1783 ?_
        refine lv_aload_n hx hb dL_law_1784 rfl (lv_at hl 5 rfl) ?_
        refine lv_iload hx hb dL_law_1785 (lv_at hl 0 rfl) ?_
        refine lv_iconst (v := 4) hx hb dL_law_1787 (by decide) ?_
        refine lv_iadd hx hb dL_law_1788 ?_
        refine tc_sld hx hb hX hbl hbA hS hL 4 rfl (by omega) (v := (xs (i + 4))) rfl dL_law_1789 ?_
        refine lv_aload_n hx hb dL_law_1790 rfl (lv_at hl 2 rfl) ?_
        refine va_calli (tc_noX (vx_runSX (As := [.ref h0, .int (nI j), .int (xs (i + 2)), .int 1, .int (xs (i + 4)), .ref o1]) (rest := []) ⟨hx, hb, hml, hown, hts⟩ (lL_writeAny_w l hfl D A cI cJ cD cC h0 h1 h2 h3 h4 ad wd rd (m0, .inr (3, [.int th, .int (nI n), .ref m1, .ref m2, .ref m3, .ref m4, .int cd, .ref m5])) (m1, .inl (cI, 60, .inl K)) (m2, .inl (cI, 60, .inl (fun t8 => nI (Ln t8)))) (m3, .inl (cJ, 2400, .inr (.inl Wh))) (m4, .inl (cD, 2400, .inr (.inr (.inr (.inl Re))))) (m5, .inl (cI, 6, .inl ct)) o1 o2 ov od n K Ln Wh Re cd ct H.size hI j hj (xs (i + 2)) 1 (xs (i + 4)) (by decide) (by decide)) (vx_cwSW 6 hts gL_law_L_writeAny rfl rfl rfl (by decide +kernel) ⟨Nat.le_of_ble_eq_true rfl, Nat.le_of_ble_eq_true rfl⟩) ⟨tcPL.blind, tcPL.go hK hP hD hE hNc hS⟩ rfl rfl hl.1 rfl (lv_room (Nat.le_of_ble_eq_true rfl)) dL_law_1791 ⟨by show _ ≤ 601024; omega, by show _ ≤ 7293034; omega⟩)) hS (fun q _ h => h) (fun q h => h) (fun r uL t H locs ht hvm hw hB hz1 hk1 hS => ?_)
        subst hw
        obtain ⟨hP, hD⟩ := hB
        rw [ht] at hP
        have hP : va_P D vwCl (tc_Z cI cJ cD (h0, .inr (2, [.ref h1, .ref h2, .ref h3, .int (nI n), .int (cdR K Ln j (xs (i + 2)) 1 (K j))])) (h1, .inl (cC, 60, .inr (.inr (.inr (.inr (fun t8 => if t8 < n then some (ad t8) else none)))))) (h2, .inl (cI, 6, .inl (noteC ct (cdR K Ln j (xs (i + 2)) 1 (K j))))) (h3, .inr (1, [.ref h4])) (h4, .inl (cD, 10, .inr (.inr (.inr (.inl (fun t8 => tf_N (1023 + 2 ^ t8) 0)))))) ((o1, .inl (cJ, 1, .inr (.inl (vp_updL ov 0 ((cdR K Ln j (xs (i + 2)) 1 (K j)).toInt64))))) :: (o2, .inl (cD, 1, .inr (.inr (.inr (.inl od))))) :: tc_fl (tc_col cJ cD ad wd rd K Ln (wrW K Ln Wh j (xs (i + 2)) 1 (kMade (xs (i + 4)) 1)) (wrR K Ln Re j (xs (i + 2)) 1 (kMade (xs (i + 4)) 1))) n) m0 m1 m2 m3 m4 m5 th n K Ln Wh Re cd ct) H := hP
        have hD : va_D A (tc_Z cI cJ cD (h0, .inr (2, [.ref h1, .ref h2, .ref h3, .int (nI n), .int (cdR K Ln j (xs (i + 2)) 1 (K j))])) (h1, .inl (cC, 60, .inr (.inr (.inr (.inr (fun t8 => if t8 < n then some (ad t8) else none)))))) (h2, .inl (cI, 6, .inl (noteC ct (cdR K Ln j (xs (i + 2)) 1 (K j))))) (h3, .inr (1, [.ref h4])) (h4, .inl (cD, 10, .inr (.inr (.inr (.inl (fun t8 => tf_N (1023 + 2 ^ t8) 0)))))) ((o1, .inl (cJ, 1, .inr (.inl (vp_updL ov 0 ((cdR K Ln j (xs (i + 2)) 1 (K j)).toInt64))))) :: (o2, .inl (cD, 1, .inr (.inr (.inr (.inl od))))) :: tc_fl (tc_col cJ cD ad wd rd K Ln (wrW K Ln Wh j (xs (i + 2)) 1 (kMade (xs (i + 4)) 1)) (wrR K Ln Re j (xs (i + 2)) 1 (kMade (xs (i + 4)) 1))) n) m0 m1 m2 m3 m4 m5 th n K Ln Wh Re cd ct) := hD
        refine lv_istore (lv' := [(6, .int 0), (5, .int (nI i)), (4, .ref o2), (3, .ref o1), (2, .ref m0), (1, .ref h0), (0, .ref b)]) hx hb dL_law_1794 hl (by decide) rfl (fun ls hl => ?_)
        refine lv_aload_n hx hb dL_law_1796 rfl (lv_at hl 4 rfl) ?_
        refine lv_aload_n hx hb dL_law_1797 rfl (lv_at hl 6 rfl) ?_
        refine lv_iload hx hb dL_law_1798 (lv_at hl 1 rfl) ?_
        refine lv_iconst (v := 1) hx hb dL_law_1800 (by decide) ?_
        refine lv_iadd hx hb dL_law_1801 ?_
        refine tc_sld hx hb hX hbl hbA hS hL 1 rfl (by omega) (v := (nI j)) ej dL_law_1802 ?_
        refine lv_aload_n hx hb dL_law_1803 rfl (lv_at hl 6 rfl) ?_
        refine lv_iload hx hb dL_law_1804 (lv_at hl 1 rfl) ?_
        refine lv_iconst (v := 2) hx hb dL_law_1806 (by decide) ?_
        refine lv_iadd hx hb dL_law_1807 ?_
        refine tc_sld hx hb hX hbl hbA hS hL 2 rfl (by omega) (v := (xs (i + 2))) rfl dL_law_1808 ?_
        refine lv_aload_n hx hb dL_law_1809 rfl (lv_at hl 6 rfl) ?_
        refine lv_iload hx hb dL_law_1810 (lv_at hl 1 rfl) ?_
        refine lv_iconst (v := 3) hx hb dL_law_1812 (by decide) ?_
        refine lv_iadd hx hb dL_law_1813 ?_
        refine tc_sld hx hb hX hbl hbA hS hL 3 rfl (by omega) (v := 1) e3 dL_law_1814 ?_
        refine lv_aload_n hx hb dL_law_1815 rfl (lv_at hl 6 rfl) ?_
        refine lv_iload hx hb dL_law_1816 (lv_at hl 1 rfl) ?_
        refine lv_iconst (v := 4) hx hb dL_law_1818 (by decide) ?_
        refine lv_iadd hx hb dL_law_1819 ?_
        refine tc_sld hx hb hX hbl hbA hS hL 4 rfl (by omega) (v := (xs (i + 4))) rfl dL_law_1820 ?_
        refine va_calli (va_runV (As := [.int (nI j), .int (xs (i + 2)), .int 1, .int (xs (i + 4))]) (rest := []) ⟨hx, hb, hml, hown, hts⟩ (tX3_writeAny_1 l D A cI cJ cD cC (h0, .inr (2, [.ref h1, .ref h2, .ref h3, .int (nI n), .int (cdR K Ln j (xs (i + 2)) 1 (K j))])) (h1, .inl (cC, 60, .inr (.inr (.inr (.inr (fun t8 => if t8 < n then some (ad t8) else none)))))) (h2, .inl (cI, 6, .inl (noteC ct (cdR K Ln j (xs (i + 2)) 1 (K j))))) (h3, .inr (1, [.ref h4])) (h4, .inl (cD, 10, .inr (.inr (.inr (.inl (fun t8 => tf_N (1023 + 2 ^ t8) 0)))))) ((o1, .inl (cJ, 1, .inr (.inl (vp_updL ov 0 ((cdR K Ln j (xs (i + 2)) 1 (K j)).toInt64))))) :: (o2, .inl (cD, 1, .inr (.inr (.inr (.inl od))))) :: tc_fl (tc_col cJ cD ad wd rd K Ln (wrW K Ln Wh j (xs (i + 2)) 1 (kMade (xs (i + 4)) 1)) (wrR K Ln Re j (xs (i + 2)) 1 (kMade (xs (i + 4)) 1))) n) m0 m1 m2 m3 m4 m5 th n K Ln Wh Re cd ct H.size hI j hj (xs (i + 2)) (xs (i + 4))) (cwV 4 hts gL_law_X3_writeAny rfl rfl rfl (by decide +kernel) ⟨Nat.le_of_ble_eq_true rfl, Nat.le_of_ble_eq_true rfl⟩) ⟨tcP.blind, va_recv hK hP (ci := 3) (q0 := 5) rfl rfl, tcP.go hK hP hD hE hS⟩ rfl rfl hl.1 rfl (lv_room (Nat.le_of_ble_eq_true rfl)) dL_law_1821 ⟨by show _ ≤ 601024; omega, by show _ ≤ 7293034; omega⟩) hS (fun q _ h => h) (fun q h => h) (fun r u t H locs ht hvm hw hB hz1 hk1 hS => ?_)
        subst hw
        obtain ⟨hP, hD⟩ := hB
        rw [ht] at hP
        refine lv_istore (lv' := [(7, .int (cdR K Ln j (xs (i + 2)) 1 (K j))), (6, .int 0), (5, .int (nI i)), (4, .ref o2), (3, .ref o1), (2, .ref m0), (1, .ref h0), (0, .ref b)]) hx hb dL_law_1824 hl (by decide) rfl (fun ls hl => ?_)
        refine lv_aload_n hx hb dL_law_1826 rfl (lv_at hl 5 rfl) ?_
        refine vp_callSi (tc_CR (va_runV (As := []) (rest := []) ⟨hx, hb, hml, hown, hts⟩ (tX3_thrown l D A cI cJ cD cC (h0, .inr (2, [.ref h1, .ref h2, .ref h3, .int (nI n), .int (cdR K Ln j (xs (i + 2)) 1 (K j))])) (h1, .inl (cC, 60, .inr (.inr (.inr (.inr (fun t8 => if t8 < n then some (ad t8) else none)))))) (h2, .inl (cI, 6, .inl (noteC ct (cdR K Ln j (xs (i + 2)) 1 (K j))))) (h3, .inr (1, [.ref h4])) (h4, .inl (cD, 10, .inr (.inr (.inr (.inl (fun t8 => tf_N (1023 + 2 ^ t8) 0)))))) ((o1, .inl (cJ, 1, .inr (.inl (vp_updL ov 0 ((cdR K Ln j (xs (i + 2)) 1 (K j)).toInt64))))) :: (o2, .inl (cD, 1, .inr (.inr (.inr (.inl od))))) :: tc_fl (tc_col cJ cD ad wd rd K Ln (wrW K Ln Wh j (xs (i + 2)) 1 (kMade (xs (i + 4)) 1)) (wrR K Ln Re j (xs (i + 2)) 1 (kMade (xs (i + 4)) 1))) n) m0 m1 m2 m3 m4 m5 0 n K Ln (wrW K Ln Wh j (xs (i + 2)) 1 (kMade (xs (i + 4)) 1)) (wrR K Ln Re j (xs (i + 2)) 1 (kMade (xs (i + 4)) 1)) (cdR K Ln j (xs (i + 2)) 1 (K j)) (noteC ct (cdR K Ln j (xs (i + 2)) 1 (K j))) H.size) (cwV 0 hts gL_law_X3_thrown rfl rfl rfl (by decide +kernel) ⟨Nat.le_of_ble_eq_true rfl, Nat.le_of_ble_eq_true rfl⟩) ⟨tcP.blind, va_recv hK hP (ci := 3) (q0 := 5) rfl rfl, tcP.go hK hP hD hE hS⟩ rfl rfl hl.1 rfl (lv_room (Nat.le_of_ble_eq_true rfl)) dL_law_1827 ⟨by show _ ≤ 601024; omega, by show _ ≤ 7293034; omega⟩)) (fun r9 h9 => ?_)
        subst h9
        refine lv_iload hx hb dL_law_1830 (lv_at hl 1 rfl) ?_
        refine lv_icmp_eq (tgt := 1837) hx hb dL_law_1832 (by decide) (fun _ => ?_) (fun q => absurd (by decide) q)
        refine lv_iload hx hb dL_law_1837 (lv_at hl 1 rfl) ?_
        refine lv_if_ne (tgt := 1854) hx hb dL_law_1839 (by decide) (fun q => absurd (by decide) q) (fun _ => ?_)
        refine lv_aload_n hx hb dL_law_1842 rfl (lv_at hl 4 rfl) ?_
        refine lv_iconst (v := 0) hx hb dL_law_1843 (by decide) ?_
        refine tc_lald (f := (vp_updL ov 0 ((cdR K Ln j (xs (i + 2)) 1 (K j)).toInt64))) (v := (cdR K Ln j (xs (i + 2)) 1 (K j)).toInt64) hx hb hK hP 11 1 rfl rfl (by unfold vp_in; decide) (show (vp_updL ov 0 ((cdR K Ln j (xs (i + 2)) 1 (K j)).toInt64)) 0 = (cdR K Ln j (xs (i + 2)) 1 (K j)).toInt64 from if_pos rfl) dL_law_1844 ?_
        refine lv_iload hx hb dL_law_1845 (lv_at hl 0 rfl) ?_
        refine lv_i2l (v := (cdR K Ln j (xs (i + 2)) 1 (K j)).toInt64) hx hb dL_law_1847 rfl ?_
        refine W.lcmp hx hb dL_law_1848 ?_
        refine lv_if_eq (tgt := 1854) hx hb dL_law_1849 (by decide) (fun _ => ?_) (fun q => absurd ((lg_cmp_eq _ _).mpr rfl) q)
        refine lv_goto (tgt := 2390) hx hb dL_law_1854 (by decide) ?_
        refine W.widen (k := ce + 3) (n := sl + 44) (by omega) (by omega) ?_
        exact kc _ _ _ _ ⟨ad, wd, rd, n, K, Ln, (wrW K Ln Wh j (xs (i + 2)) 1 (kMade (xs (i + 4)) 1)), (wrR K Ln Re j (xs (i + 2)) 1 (kMade (xs (i + 4)) 1)), (cdR K Ln j (xs (i + 2)) 1 (K j)), (noteC ct (cdR K Ln j (xs (i + 2)) 1 (K j))), 0, (vp_updL ov 0 ((cdR K Ln j (xs (i + 2)) 1 (K j)).toInt64)), od, hdd, (tcI_w hI hj (fun _ => kMade_b _)), hP, hD, hS, lv_sub hl [2, 3, 4, 5, 6, 7] rfl⟩
      · refine lv_aload_n hx hb dL_law_1765 rfl (lv_at hl 4 rfl) ?_
        refine lv_aload_n hx hb dL_law_1766 rfl (lv_at hl 5 rfl) ?_
        refine lv_iload hx hb dL_law_1767 (lv_at hl 0 rfl) ?_
        refine lv_iconst (v := 1) hx hb dL_law_1769 (by decide) ?_
        refine lv_iadd hx hb dL_law_1770 ?_
        refine tc_sld hx hb hX hbl hbA hS hL 1 rfl (by omega) (v := (nI j)) ej dL_law_1771 ?_
        refine lv_aload_n hx hb dL_law_1772 rfl (lv_at hl 5 rfl) ?_
        refine lv_iload hx hb dL_law_1773 (lv_at hl 0 rfl) ?_
        refine lv_iconst (v := 2) hx hb dL_law_1775 (by decide) ?_
        refine lv_iadd hx hb dL_law_1776 ?_
        refine tc_sld hx hb hX hbl hbA hS hL 2 rfl (by omega) (v := (xs (i + 2))) rfl dL_law_1777 ?_
        refine lv_aload_n hx hb dL_law_1778 rfl (lv_at hl 5 rfl) ?_
        refine lv_iload hx hb dL_law_1779 (lv_at hl 0 rfl) ?_
        refine lv_iconst (v := 3) hx hb dL_law_1781 (by decide) ?_
        refine lv_iadd hx hb dL_law_1782 ?_
        refine tc_sld hx hb hX hbl hbA hS hL 3 rfl (by omega) (v := 2) e3 dL_law_1783 ?_
        refine lv_aload_n hx hb dL_law_1784 rfl (lv_at hl 5 rfl) ?_
        refine lv_iload hx hb dL_law_1785 (lv_at hl 0 rfl) ?_
        refine lv_iconst (v := 4) hx hb dL_law_1787 (by decide) ?_
        refine lv_iadd hx hb dL_law_1788 ?_
        refine tc_sld hx hb hX hbl hbA hS hL 4 rfl (by omega) (v := (xs (i + 4))) rfl dL_law_1789 ?_
        refine lv_aload_n hx hb dL_law_1790 rfl (lv_at hl 2 rfl) ?_
        refine va_calli (tc_noX (vx_runSX (As := [.ref h0, .int (nI j), .int (xs (i + 2)), .int 2, .int (xs (i + 4)), .ref o1]) (rest := []) ⟨hx, hb, hml, hown, hts⟩ (lL_writeAny_w l hfl D A cI cJ cD cC h0 h1 h2 h3 h4 ad wd rd (m0, .inr (3, [.int th, .int (nI n), .ref m1, .ref m2, .ref m3, .ref m4, .int cd, .ref m5])) (m1, .inl (cI, 60, .inl K)) (m2, .inl (cI, 60, .inl (fun t8 => nI (Ln t8)))) (m3, .inl (cJ, 2400, .inr (.inl Wh))) (m4, .inl (cD, 2400, .inr (.inr (.inr (.inl Re))))) (m5, .inl (cI, 6, .inl ct)) o1 o2 ov od n K Ln Wh Re cd ct H.size hI j hj (xs (i + 2)) 2 (xs (i + 4)) (by decide) (by decide)) (vx_cwSW 6 hts gL_law_L_writeAny rfl rfl rfl (by decide +kernel) ⟨Nat.le_of_ble_eq_true rfl, Nat.le_of_ble_eq_true rfl⟩) ⟨tcPL.blind, tcPL.go hK hP hD hE hNc hS⟩ rfl rfl hl.1 rfl (lv_room (Nat.le_of_ble_eq_true rfl)) dL_law_1791 ⟨by show _ ≤ 601024; omega, by show _ ≤ 7293034; omega⟩)) hS (fun q _ h => h) (fun q h => h) (fun r uL t H locs ht hvm hw hB hz1 hk1 hS => ?_)
        subst hw
        obtain ⟨hP, hD⟩ := hB
        rw [ht] at hP
        rw [kMade2] at hP hD
        have hP : va_P D vwCl (tc_Z cI cJ cD (h0, .inr (2, [.ref h1, .ref h2, .ref h3, .int (nI n), .int (cdR K Ln j (xs (i + 2)) 2 (K j))])) (h1, .inl (cC, 60, .inr (.inr (.inr (.inr (fun t8 => if t8 < n then some (ad t8) else none)))))) (h2, .inl (cI, 6, .inl (noteC ct (cdR K Ln j (xs (i + 2)) 2 (K j))))) (h3, .inr (1, [.ref h4])) (h4, .inl (cD, 10, .inr (.inr (.inr (.inl (fun t8 => tf_N (1023 + 2 ^ t8) 0)))))) ((o1, .inl (cJ, 1, .inr (.inl (vp_updL ov 0 ((cdR K Ln j (xs (i + 2)) 2 (K j)).toInt64))))) :: (o2, .inl (cD, 1, .inr (.inr (.inr (.inl od))))) :: tc_fl (tc_col cJ cD ad wd rd K Ln (wrW K Ln Wh j (xs (i + 2)) 2 ((xs (i + 4)).toInt8.toInt32.toInt64)) (wrR K Ln Re j (xs (i + 2)) 2 ((xs (i + 4)).toInt8.toInt32.toInt64))) n) m0 m1 m2 m3 m4 m5 th n K Ln Wh Re cd ct) H := hP
        have hD : va_D A (tc_Z cI cJ cD (h0, .inr (2, [.ref h1, .ref h2, .ref h3, .int (nI n), .int (cdR K Ln j (xs (i + 2)) 2 (K j))])) (h1, .inl (cC, 60, .inr (.inr (.inr (.inr (fun t8 => if t8 < n then some (ad t8) else none)))))) (h2, .inl (cI, 6, .inl (noteC ct (cdR K Ln j (xs (i + 2)) 2 (K j))))) (h3, .inr (1, [.ref h4])) (h4, .inl (cD, 10, .inr (.inr (.inr (.inl (fun t8 => tf_N (1023 + 2 ^ t8) 0)))))) ((o1, .inl (cJ, 1, .inr (.inl (vp_updL ov 0 ((cdR K Ln j (xs (i + 2)) 2 (K j)).toInt64))))) :: (o2, .inl (cD, 1, .inr (.inr (.inr (.inl od))))) :: tc_fl (tc_col cJ cD ad wd rd K Ln (wrW K Ln Wh j (xs (i + 2)) 2 ((xs (i + 4)).toInt8.toInt32.toInt64)) (wrR K Ln Re j (xs (i + 2)) 2 ((xs (i + 4)).toInt8.toInt32.toInt64))) n) m0 m1 m2 m3 m4 m5 th n K Ln Wh Re cd ct) := hD
        refine lv_istore (lv' := [(6, .int 0), (5, .int (nI i)), (4, .ref o2), (3, .ref o1), (2, .ref m0), (1, .ref h0), (0, .ref b)]) hx hb dL_law_1794 hl (by decide) rfl (fun ls hl => ?_)
        refine lv_aload_n hx hb dL_law_1796 rfl (lv_at hl 4 rfl) ?_
        refine lv_aload_n hx hb dL_law_1797 rfl (lv_at hl 6 rfl) ?_
        refine lv_iload hx hb dL_law_1798 (lv_at hl 1 rfl) ?_
        refine lv_iconst (v := 1) hx hb dL_law_1800 (by decide) ?_
        refine lv_iadd hx hb dL_law_1801 ?_
        refine tc_sld hx hb hX hbl hbA hS hL 1 rfl (by omega) (v := (nI j)) ej dL_law_1802 ?_
        refine lv_aload_n hx hb dL_law_1803 rfl (lv_at hl 6 rfl) ?_
        refine lv_iload hx hb dL_law_1804 (lv_at hl 1 rfl) ?_
        refine lv_iconst (v := 2) hx hb dL_law_1806 (by decide) ?_
        refine lv_iadd hx hb dL_law_1807 ?_
        refine tc_sld hx hb hX hbl hbA hS hL 2 rfl (by omega) (v := (xs (i + 2))) rfl dL_law_1808 ?_
        refine lv_aload_n hx hb dL_law_1809 rfl (lv_at hl 6 rfl) ?_
        refine lv_iload hx hb dL_law_1810 (lv_at hl 1 rfl) ?_
        refine lv_iconst (v := 3) hx hb dL_law_1812 (by decide) ?_
        refine lv_iadd hx hb dL_law_1813 ?_
        refine tc_sld hx hb hX hbl hbA hS hL 3 rfl (by omega) (v := 2) e3 dL_law_1814 ?_
        refine lv_aload_n hx hb dL_law_1815 rfl (lv_at hl 6 rfl) ?_
        refine lv_iload hx hb dL_law_1816 (lv_at hl 1 rfl) ?_
        refine lv_iconst (v := 4) hx hb dL_law_1818 (by decide) ?_
        refine lv_iadd hx hb dL_law_1819 ?_
        refine tc_sld hx hb hX hbl hbA hS hL 4 rfl (by omega) (v := (xs (i + 4))) rfl dL_law_1820 ?_
        refine va_calli (va_runV (As := [.int (nI j), .int (xs (i + 2)), .int 2, .int (xs (i + 4))]) (rest := []) ⟨hx, hb, hml, hown, hts⟩ (tX3_writeAny_2 l D A cI cJ cD cC (h0, .inr (2, [.ref h1, .ref h2, .ref h3, .int (nI n), .int (cdR K Ln j (xs (i + 2)) 2 (K j))])) (h1, .inl (cC, 60, .inr (.inr (.inr (.inr (fun t8 => if t8 < n then some (ad t8) else none)))))) (h2, .inl (cI, 6, .inl (noteC ct (cdR K Ln j (xs (i + 2)) 2 (K j))))) (h3, .inr (1, [.ref h4])) (h4, .inl (cD, 10, .inr (.inr (.inr (.inl (fun t8 => tf_N (1023 + 2 ^ t8) 0)))))) ((o1, .inl (cJ, 1, .inr (.inl (vp_updL ov 0 ((cdR K Ln j (xs (i + 2)) 2 (K j)).toInt64))))) :: (o2, .inl (cD, 1, .inr (.inr (.inr (.inl od))))) :: tc_fl (tc_col cJ cD ad wd rd K Ln (wrW K Ln Wh j (xs (i + 2)) 2 ((xs (i + 4)).toInt8.toInt32.toInt64)) (wrR K Ln Re j (xs (i + 2)) 2 ((xs (i + 4)).toInt8.toInt32.toInt64))) n) m0 m1 m2 m3 m4 m5 th n K Ln Wh Re cd ct H.size hI j hj (xs (i + 2)) (xs (i + 4))) (cwV 4 hts gL_law_X3_writeAny rfl rfl rfl (by decide +kernel) ⟨Nat.le_of_ble_eq_true rfl, Nat.le_of_ble_eq_true rfl⟩) ⟨tcP.blind, va_recv hK hP (ci := 3) (q0 := 5) rfl rfl, tcP.go hK hP hD hE hS⟩ rfl rfl hl.1 rfl (lv_room (Nat.le_of_ble_eq_true rfl)) dL_law_1821 ⟨by show _ ≤ 601024; omega, by show _ ≤ 7293034; omega⟩) hS (fun q _ h => h) (fun q h => h) (fun r u t H locs ht hvm hw hB hz1 hk1 hS => ?_)
        subst hw
        obtain ⟨hP, hD⟩ := hB
        rw [ht] at hP
        refine lv_istore (lv' := [(7, .int (cdR K Ln j (xs (i + 2)) 2 (K j))), (6, .int 0), (5, .int (nI i)), (4, .ref o2), (3, .ref o1), (2, .ref m0), (1, .ref h0), (0, .ref b)]) hx hb dL_law_1824 hl (by decide) rfl (fun ls hl => ?_)
        refine lv_aload_n hx hb dL_law_1826 rfl (lv_at hl 5 rfl) ?_
        refine vp_callSi (tc_CR (va_runV (As := []) (rest := []) ⟨hx, hb, hml, hown, hts⟩ (tX3_thrown l D A cI cJ cD cC (h0, .inr (2, [.ref h1, .ref h2, .ref h3, .int (nI n), .int (cdR K Ln j (xs (i + 2)) 2 (K j))])) (h1, .inl (cC, 60, .inr (.inr (.inr (.inr (fun t8 => if t8 < n then some (ad t8) else none)))))) (h2, .inl (cI, 6, .inl (noteC ct (cdR K Ln j (xs (i + 2)) 2 (K j))))) (h3, .inr (1, [.ref h4])) (h4, .inl (cD, 10, .inr (.inr (.inr (.inl (fun t8 => tf_N (1023 + 2 ^ t8) 0)))))) ((o1, .inl (cJ, 1, .inr (.inl (vp_updL ov 0 ((cdR K Ln j (xs (i + 2)) 2 (K j)).toInt64))))) :: (o2, .inl (cD, 1, .inr (.inr (.inr (.inl od))))) :: tc_fl (tc_col cJ cD ad wd rd K Ln (wrW K Ln Wh j (xs (i + 2)) 2 ((xs (i + 4)).toInt8.toInt32.toInt64)) (wrR K Ln Re j (xs (i + 2)) 2 ((xs (i + 4)).toInt8.toInt32.toInt64))) n) m0 m1 m2 m3 m4 m5 0 n K Ln (wrW K Ln Wh j (xs (i + 2)) 2 ((xs (i + 4)).toInt8.toInt32.toInt64)) (wrR K Ln Re j (xs (i + 2)) 2 ((xs (i + 4)).toInt8.toInt32.toInt64)) (cdR K Ln j (xs (i + 2)) 2 (K j)) (noteC ct (cdR K Ln j (xs (i + 2)) 2 (K j))) H.size) (cwV 0 hts gL_law_X3_thrown rfl rfl rfl (by decide +kernel) ⟨Nat.le_of_ble_eq_true rfl, Nat.le_of_ble_eq_true rfl⟩) ⟨tcP.blind, va_recv hK hP (ci := 3) (q0 := 5) rfl rfl, tcP.go hK hP hD hE hS⟩ rfl rfl hl.1 rfl (lv_room (Nat.le_of_ble_eq_true rfl)) dL_law_1827 ⟨by show _ ≤ 601024; omega, by show _ ≤ 7293034; omega⟩)) (fun r9 h9 => ?_)
        subst h9
        refine lv_iload hx hb dL_law_1830 (lv_at hl 1 rfl) ?_
        refine lv_icmp_eq (tgt := 1837) hx hb dL_law_1832 (by decide) (fun _ => ?_) (fun q => absurd (by decide) q)
        refine lv_iload hx hb dL_law_1837 (lv_at hl 1 rfl) ?_
        refine lv_if_ne (tgt := 1854) hx hb dL_law_1839 (by decide) (fun q => absurd (by decide) q) (fun _ => ?_)
        refine lv_aload_n hx hb dL_law_1842 rfl (lv_at hl 4 rfl) ?_
        refine lv_iconst (v := 0) hx hb dL_law_1843 (by decide) ?_
        refine tc_lald (f := (vp_updL ov 0 ((cdR K Ln j (xs (i + 2)) 2 (K j)).toInt64))) (v := (cdR K Ln j (xs (i + 2)) 2 (K j)).toInt64) hx hb hK hP 11 1 rfl rfl (by unfold vp_in; decide) (show (vp_updL ov 0 ((cdR K Ln j (xs (i + 2)) 2 (K j)).toInt64)) 0 = (cdR K Ln j (xs (i + 2)) 2 (K j)).toInt64 from if_pos rfl) dL_law_1844 ?_
        refine lv_iload hx hb dL_law_1845 (lv_at hl 0 rfl) ?_
        refine lv_i2l (v := (cdR K Ln j (xs (i + 2)) 2 (K j)).toInt64) hx hb dL_law_1847 rfl ?_
        refine W.lcmp hx hb dL_law_1848 ?_
        refine lv_if_eq (tgt := 1854) hx hb dL_law_1849 (by decide) (fun _ => ?_) (fun q => absurd ((lg_cmp_eq _ _).mpr rfl) q)
        refine lv_goto (tgt := 2390) hx hb dL_law_1854 (by decide) ?_
        refine W.widen (k := ce + 3) (n := sl + 44) (by omega) (by omega) ?_
        exact kc _ _ _ _ ⟨ad, wd, rd, n, K, Ln, (wrW K Ln Wh j (xs (i + 2)) 2 ((xs (i + 4)).toInt8.toInt32.toInt64)), (wrR K Ln Re j (xs (i + 2)) 2 ((xs (i + 4)).toInt8.toInt32.toInt64)), (cdR K Ln j (xs (i + 2)) 2 (K j)), (noteC ct (cdR K Ln j (xs (i + 2)) 2 (K j))), 0, (vp_updL ov 0 ((cdR K Ln j (xs (i + 2)) 2 (K j)).toInt64)), od, hdd, (tcI_w hI hj (fun q => absurd q (by decide))), hP, hD, hS, lv_sub hl [2, 3, 4, 5, 6, 7] rfl⟩
      · refine lv_aload_n hx hb dL_law_1765 rfl (lv_at hl 4 rfl) ?_
        refine lv_aload_n hx hb dL_law_1766 rfl (lv_at hl 5 rfl) ?_
        refine lv_iload hx hb dL_law_1767 (lv_at hl 0 rfl) ?_
        refine lv_iconst (v := 1) hx hb dL_law_1769 (by decide) ?_
        refine lv_iadd hx hb dL_law_1770 ?_
        refine tc_sld hx hb hX hbl hbA hS hL 1 rfl (by omega) (v := (nI j)) ej dL_law_1771 ?_
        refine lv_aload_n hx hb dL_law_1772 rfl (lv_at hl 5 rfl) ?_
        refine lv_iload hx hb dL_law_1773 (lv_at hl 0 rfl) ?_
        refine lv_iconst (v := 2) hx hb dL_law_1775 (by decide) ?_
        refine lv_iadd hx hb dL_law_1776 ?_
        refine tc_sld hx hb hX hbl hbA hS hL 2 rfl (by omega) (v := (xs (i + 2))) rfl dL_law_1777 ?_
        refine lv_aload_n hx hb dL_law_1778 rfl (lv_at hl 5 rfl) ?_
        refine lv_iload hx hb dL_law_1779 (lv_at hl 0 rfl) ?_
        refine lv_iconst (v := 3) hx hb dL_law_1781 (by decide) ?_
        refine lv_iadd hx hb dL_law_1782 ?_
        refine tc_sld hx hb hX hbl hbA hS hL 3 rfl (by omega) (v := 3) e3 dL_law_1783 ?_
        refine lv_aload_n hx hb dL_law_1784 rfl (lv_at hl 5 rfl) ?_
        refine lv_iload hx hb dL_law_1785 (lv_at hl 0 rfl) ?_
        refine lv_iconst (v := 4) hx hb dL_law_1787 (by decide) ?_
        refine lv_iadd hx hb dL_law_1788 ?_
        refine tc_sld hx hb hX hbl hbA hS hL 4 rfl (by omega) (v := (xs (i + 4))) rfl dL_law_1789 ?_
        refine lv_aload_n hx hb dL_law_1790 rfl (lv_at hl 2 rfl) ?_
        refine va_calli (tc_noX (vx_runSX (As := [.ref h0, .int (nI j), .int (xs (i + 2)), .int 3, .int (xs (i + 4)), .ref o1]) (rest := []) ⟨hx, hb, hml, hown, hts⟩ (lL_writeAny_w l hfl D A cI cJ cD cC h0 h1 h2 h3 h4 ad wd rd (m0, .inr (3, [.int th, .int (nI n), .ref m1, .ref m2, .ref m3, .ref m4, .int cd, .ref m5])) (m1, .inl (cI, 60, .inl K)) (m2, .inl (cI, 60, .inl (fun t8 => nI (Ln t8)))) (m3, .inl (cJ, 2400, .inr (.inl Wh))) (m4, .inl (cD, 2400, .inr (.inr (.inr (.inl Re))))) (m5, .inl (cI, 6, .inl ct)) o1 o2 ov od n K Ln Wh Re cd ct H.size hI j hj (xs (i + 2)) 3 (xs (i + 4)) (by decide) (by decide)) (vx_cwSW 6 hts gL_law_L_writeAny rfl rfl rfl (by decide +kernel) ⟨Nat.le_of_ble_eq_true rfl, Nat.le_of_ble_eq_true rfl⟩) ⟨tcPL.blind, tcPL.go hK hP hD hE hNc hS⟩ rfl rfl hl.1 rfl (lv_room (Nat.le_of_ble_eq_true rfl)) dL_law_1791 ⟨by show _ ≤ 601024; omega, by show _ ≤ 7293034; omega⟩)) hS (fun q _ h => h) (fun q h => h) (fun r uL t H locs ht hvm hw hB hz1 hk1 hS => ?_)
        subst hw
        obtain ⟨hP, hD⟩ := hB
        rw [ht] at hP
        rw [kMade3] at hP hD
        have hP : va_P D vwCl (tc_Z cI cJ cD (h0, .inr (2, [.ref h1, .ref h2, .ref h3, .int (nI n), .int (cdR K Ln j (xs (i + 2)) 3 (K j))])) (h1, .inl (cC, 60, .inr (.inr (.inr (.inr (fun t8 => if t8 < n then some (ad t8) else none)))))) (h2, .inl (cI, 6, .inl (noteC ct (cdR K Ln j (xs (i + 2)) 3 (K j))))) (h3, .inr (1, [.ref h4])) (h4, .inl (cD, 10, .inr (.inr (.inr (.inl (fun t8 => tf_N (1023 + 2 ^ t8) 0)))))) ((o1, .inl (cJ, 1, .inr (.inl (vp_updL ov 0 ((cdR K Ln j (xs (i + 2)) 3 (K j)).toInt64))))) :: (o2, .inl (cD, 1, .inr (.inr (.inr (.inl od))))) :: tc_fl (tc_col cJ cD ad wd rd K Ln (wrW K Ln Wh j (xs (i + 2)) 3 (((xs (i + 4)).toUInt32 % 65536).toInt32.toInt64)) (wrR K Ln Re j (xs (i + 2)) 3 (((xs (i + 4)).toUInt32 % 65536).toInt32.toInt64))) n) m0 m1 m2 m3 m4 m5 th n K Ln Wh Re cd ct) H := hP
        have hD : va_D A (tc_Z cI cJ cD (h0, .inr (2, [.ref h1, .ref h2, .ref h3, .int (nI n), .int (cdR K Ln j (xs (i + 2)) 3 (K j))])) (h1, .inl (cC, 60, .inr (.inr (.inr (.inr (fun t8 => if t8 < n then some (ad t8) else none)))))) (h2, .inl (cI, 6, .inl (noteC ct (cdR K Ln j (xs (i + 2)) 3 (K j))))) (h3, .inr (1, [.ref h4])) (h4, .inl (cD, 10, .inr (.inr (.inr (.inl (fun t8 => tf_N (1023 + 2 ^ t8) 0)))))) ((o1, .inl (cJ, 1, .inr (.inl (vp_updL ov 0 ((cdR K Ln j (xs (i + 2)) 3 (K j)).toInt64))))) :: (o2, .inl (cD, 1, .inr (.inr (.inr (.inl od))))) :: tc_fl (tc_col cJ cD ad wd rd K Ln (wrW K Ln Wh j (xs (i + 2)) 3 (((xs (i + 4)).toUInt32 % 65536).toInt32.toInt64)) (wrR K Ln Re j (xs (i + 2)) 3 (((xs (i + 4)).toUInt32 % 65536).toInt32.toInt64))) n) m0 m1 m2 m3 m4 m5 th n K Ln Wh Re cd ct) := hD
        refine lv_istore (lv' := [(6, .int 0), (5, .int (nI i)), (4, .ref o2), (3, .ref o1), (2, .ref m0), (1, .ref h0), (0, .ref b)]) hx hb dL_law_1794 hl (by decide) rfl (fun ls hl => ?_)
        refine lv_aload_n hx hb dL_law_1796 rfl (lv_at hl 4 rfl) ?_
        refine lv_aload_n hx hb dL_law_1797 rfl (lv_at hl 6 rfl) ?_
        refine lv_iload hx hb dL_law_1798 (lv_at hl 1 rfl) ?_
        refine lv_iconst (v := 1) hx hb dL_law_1800 (by decide) ?_
        refine lv_iadd hx hb dL_law_1801 ?_
        refine tc_sld hx hb hX hbl hbA hS hL 1 rfl (by omega) (v := (nI j)) ej dL_law_1802 ?_
        refine lv_aload_n hx hb dL_law_1803 rfl (lv_at hl 6 rfl) ?_
        refine lv_iload hx hb dL_law_1804 (lv_at hl 1 rfl) ?_
        refine lv_iconst (v := 2) hx hb dL_law_1806 (by decide) ?_
        refine lv_iadd hx hb dL_law_1807 ?_
        refine tc_sld hx hb hX hbl hbA hS hL 2 rfl (by omega) (v := (xs (i + 2))) rfl dL_law_1808 ?_
        refine lv_aload_n hx hb dL_law_1809 rfl (lv_at hl 6 rfl) ?_
        refine lv_iload hx hb dL_law_1810 (lv_at hl 1 rfl) ?_
        refine lv_iconst (v := 3) hx hb dL_law_1812 (by decide) ?_
        refine lv_iadd hx hb dL_law_1813 ?_
        refine tc_sld hx hb hX hbl hbA hS hL 3 rfl (by omega) (v := 3) e3 dL_law_1814 ?_
        refine lv_aload_n hx hb dL_law_1815 rfl (lv_at hl 6 rfl) ?_
        refine lv_iload hx hb dL_law_1816 (lv_at hl 1 rfl) ?_
        refine lv_iconst (v := 4) hx hb dL_law_1818 (by decide) ?_
        refine lv_iadd hx hb dL_law_1819 ?_
        refine tc_sld hx hb hX hbl hbA hS hL 4 rfl (by omega) (v := (xs (i + 4))) rfl dL_law_1820 ?_
        refine va_calli (va_runV (As := [.int (nI j), .int (xs (i + 2)), .int 3, .int (xs (i + 4))]) (rest := []) ⟨hx, hb, hml, hown, hts⟩ (tX3_writeAny_3 l D A cI cJ cD cC (h0, .inr (2, [.ref h1, .ref h2, .ref h3, .int (nI n), .int (cdR K Ln j (xs (i + 2)) 3 (K j))])) (h1, .inl (cC, 60, .inr (.inr (.inr (.inr (fun t8 => if t8 < n then some (ad t8) else none)))))) (h2, .inl (cI, 6, .inl (noteC ct (cdR K Ln j (xs (i + 2)) 3 (K j))))) (h3, .inr (1, [.ref h4])) (h4, .inl (cD, 10, .inr (.inr (.inr (.inl (fun t8 => tf_N (1023 + 2 ^ t8) 0)))))) ((o1, .inl (cJ, 1, .inr (.inl (vp_updL ov 0 ((cdR K Ln j (xs (i + 2)) 3 (K j)).toInt64))))) :: (o2, .inl (cD, 1, .inr (.inr (.inr (.inl od))))) :: tc_fl (tc_col cJ cD ad wd rd K Ln (wrW K Ln Wh j (xs (i + 2)) 3 (((xs (i + 4)).toUInt32 % 65536).toInt32.toInt64)) (wrR K Ln Re j (xs (i + 2)) 3 (((xs (i + 4)).toUInt32 % 65536).toInt32.toInt64))) n) m0 m1 m2 m3 m4 m5 th n K Ln Wh Re cd ct H.size hI j hj (xs (i + 2)) (xs (i + 4))) (cwV 4 hts gL_law_X3_writeAny rfl rfl rfl (by decide +kernel) ⟨Nat.le_of_ble_eq_true rfl, Nat.le_of_ble_eq_true rfl⟩) ⟨tcP.blind, va_recv hK hP (ci := 3) (q0 := 5) rfl rfl, tcP.go hK hP hD hE hS⟩ rfl rfl hl.1 rfl (lv_room (Nat.le_of_ble_eq_true rfl)) dL_law_1821 ⟨by show _ ≤ 601024; omega, by show _ ≤ 7293034; omega⟩) hS (fun q _ h => h) (fun q h => h) (fun r u t H locs ht hvm hw hB hz1 hk1 hS => ?_)
        subst hw
        obtain ⟨hP, hD⟩ := hB
        rw [ht] at hP
        refine lv_istore (lv' := [(7, .int (cdR K Ln j (xs (i + 2)) 3 (K j))), (6, .int 0), (5, .int (nI i)), (4, .ref o2), (3, .ref o1), (2, .ref m0), (1, .ref h0), (0, .ref b)]) hx hb dL_law_1824 hl (by decide) rfl (fun ls hl => ?_)
        refine lv_aload_n hx hb dL_law_1826 rfl (lv_at hl 5 rfl) ?_
        refine vp_callSi (tc_CR (va_runV (As := []) (rest := []) ⟨hx, hb, hml, hown, hts⟩ (tX3_thrown l D A cI cJ cD cC (h0, .inr (2, [.ref h1, .ref h2, .ref h3, .int (nI n), .int (cdR K Ln j (xs (i + 2)) 3 (K j))])) (h1, .inl (cC, 60, .inr (.inr (.inr (.inr (fun t8 => if t8 < n then some (ad t8) else none)))))) (h2, .inl (cI, 6, .inl (noteC ct (cdR K Ln j (xs (i + 2)) 3 (K j))))) (h3, .inr (1, [.ref h4])) (h4, .inl (cD, 10, .inr (.inr (.inr (.inl (fun t8 => tf_N (1023 + 2 ^ t8) 0)))))) ((o1, .inl (cJ, 1, .inr (.inl (vp_updL ov 0 ((cdR K Ln j (xs (i + 2)) 3 (K j)).toInt64))))) :: (o2, .inl (cD, 1, .inr (.inr (.inr (.inl od))))) :: tc_fl (tc_col cJ cD ad wd rd K Ln (wrW K Ln Wh j (xs (i + 2)) 3 (((xs (i + 4)).toUInt32 % 65536).toInt32.toInt64)) (wrR K Ln Re j (xs (i + 2)) 3 (((xs (i + 4)).toUInt32 % 65536).toInt32.toInt64))) n) m0 m1 m2 m3 m4 m5 0 n K Ln (wrW K Ln Wh j (xs (i + 2)) 3 (((xs (i + 4)).toUInt32 % 65536).toInt32.toInt64)) (wrR K Ln Re j (xs (i + 2)) 3 (((xs (i + 4)).toUInt32 % 65536).toInt32.toInt64)) (cdR K Ln j (xs (i + 2)) 3 (K j)) (noteC ct (cdR K Ln j (xs (i + 2)) 3 (K j))) H.size) (cwV 0 hts gL_law_X3_thrown rfl rfl rfl (by decide +kernel) ⟨Nat.le_of_ble_eq_true rfl, Nat.le_of_ble_eq_true rfl⟩) ⟨tcP.blind, va_recv hK hP (ci := 3) (q0 := 5) rfl rfl, tcP.go hK hP hD hE hS⟩ rfl rfl hl.1 rfl (lv_room (Nat.le_of_ble_eq_true rfl)) dL_law_1827 ⟨by show _ ≤ 601024; omega, by show _ ≤ 7293034; omega⟩)) (fun r9 h9 => ?_)
        subst h9
        refine lv_iload hx hb dL_law_1830 (lv_at hl 1 rfl) ?_
        refine lv_icmp_eq (tgt := 1837) hx hb dL_law_1832 (by decide) (fun _ => ?_) (fun q => absurd (by decide) q)
        refine lv_iload hx hb dL_law_1837 (lv_at hl 1 rfl) ?_
        refine lv_if_ne (tgt := 1854) hx hb dL_law_1839 (by decide) (fun q => absurd (by decide) q) (fun _ => ?_)
        refine lv_aload_n hx hb dL_law_1842 rfl (lv_at hl 4 rfl) ?_
        refine lv_iconst (v := 0) hx hb dL_law_1843 (by decide) ?_
        refine tc_lald (f := (vp_updL ov 0 ((cdR K Ln j (xs (i + 2)) 3 (K j)).toInt64))) (v := (cdR K Ln j (xs (i + 2)) 3 (K j)).toInt64) hx hb hK hP 11 1 rfl rfl (by unfold vp_in; decide) (show (vp_updL ov 0 ((cdR K Ln j (xs (i + 2)) 3 (K j)).toInt64)) 0 = (cdR K Ln j (xs (i + 2)) 3 (K j)).toInt64 from if_pos rfl) dL_law_1844 ?_
        refine lv_iload hx hb dL_law_1845 (lv_at hl 0 rfl) ?_
        refine lv_i2l (v := (cdR K Ln j (xs (i + 2)) 3 (K j)).toInt64) hx hb dL_law_1847 rfl ?_
        refine W.lcmp hx hb dL_law_1848 ?_
        refine lv_if_eq (tgt := 1854) hx hb dL_law_1849 (by decide) (fun _ => ?_) (fun q => absurd ((lg_cmp_eq _ _).mpr rfl) q)
        refine lv_goto (tgt := 2390) hx hb dL_law_1854 (by decide) ?_
        refine W.widen (k := ce + 3) (n := sl + 44) (by omega) (by omega) ?_
        exact kc _ _ _ _ ⟨ad, wd, rd, n, K, Ln, (wrW K Ln Wh j (xs (i + 2)) 3 (((xs (i + 4)).toUInt32 % 65536).toInt32.toInt64)), (wrR K Ln Re j (xs (i + 2)) 3 (((xs (i + 4)).toUInt32 % 65536).toInt32.toInt64)), (cdR K Ln j (xs (i + 2)) 3 (K j)), (noteC ct (cdR K Ln j (xs (i + 2)) 3 (K j))), 0, (vp_updL ov 0 ((cdR K Ln j (xs (i + 2)) 3 (K j)).toInt64)), od, hdd, (tcI_w hI hj (fun q => absurd q (by decide))), hP, hD, hS, lv_sub hl [2, 3, 4, 5, 6, 7] rfl⟩
      · refine lv_aload_n hx hb dL_law_1765 rfl (lv_at hl 4 rfl) ?_
        refine lv_aload_n hx hb dL_law_1766 rfl (lv_at hl 5 rfl) ?_
        refine lv_iload hx hb dL_law_1767 (lv_at hl 0 rfl) ?_
        refine lv_iconst (v := 1) hx hb dL_law_1769 (by decide) ?_
        refine lv_iadd hx hb dL_law_1770 ?_
        refine tc_sld hx hb hX hbl hbA hS hL 1 rfl (by omega) (v := (nI j)) ej dL_law_1771 ?_
        refine lv_aload_n hx hb dL_law_1772 rfl (lv_at hl 5 rfl) ?_
        refine lv_iload hx hb dL_law_1773 (lv_at hl 0 rfl) ?_
        refine lv_iconst (v := 2) hx hb dL_law_1775 (by decide) ?_
        refine lv_iadd hx hb dL_law_1776 ?_
        refine tc_sld hx hb hX hbl hbA hS hL 2 rfl (by omega) (v := (xs (i + 2))) rfl dL_law_1777 ?_
        refine lv_aload_n hx hb dL_law_1778 rfl (lv_at hl 5 rfl) ?_
        refine lv_iload hx hb dL_law_1779 (lv_at hl 0 rfl) ?_
        refine lv_iconst (v := 3) hx hb dL_law_1781 (by decide) ?_
        refine lv_iadd hx hb dL_law_1782 ?_
        refine tc_sld hx hb hX hbl hbA hS hL 3 rfl (by omega) (v := 4) e3 dL_law_1783 ?_
        refine lv_aload_n hx hb dL_law_1784 rfl (lv_at hl 5 rfl) ?_
        refine lv_iload hx hb dL_law_1785 (lv_at hl 0 rfl) ?_
        refine lv_iconst (v := 4) hx hb dL_law_1787 (by decide) ?_
        refine lv_iadd hx hb dL_law_1788 ?_
        refine tc_sld hx hb hX hbl hbA hS hL 4 rfl (by omega) (v := (xs (i + 4))) rfl dL_law_1789 ?_
        refine lv_aload_n hx hb dL_law_1790 rfl (lv_at hl 2 rfl) ?_
        refine va_calli (tc_noX (vx_runSX (As := [.ref h0, .int (nI j), .int (xs (i + 2)), .int 4, .int (xs (i + 4)), .ref o1]) (rest := []) ⟨hx, hb, hml, hown, hts⟩ (lL_writeAny_w l hfl D A cI cJ cD cC h0 h1 h2 h3 h4 ad wd rd (m0, .inr (3, [.int th, .int (nI n), .ref m1, .ref m2, .ref m3, .ref m4, .int cd, .ref m5])) (m1, .inl (cI, 60, .inl K)) (m2, .inl (cI, 60, .inl (fun t8 => nI (Ln t8)))) (m3, .inl (cJ, 2400, .inr (.inl Wh))) (m4, .inl (cD, 2400, .inr (.inr (.inr (.inl Re))))) (m5, .inl (cI, 6, .inl ct)) o1 o2 ov od n K Ln Wh Re cd ct H.size hI j hj (xs (i + 2)) 4 (xs (i + 4)) (by decide) (by decide)) (vx_cwSW 6 hts gL_law_L_writeAny rfl rfl rfl (by decide +kernel) ⟨Nat.le_of_ble_eq_true rfl, Nat.le_of_ble_eq_true rfl⟩) ⟨tcPL.blind, tcPL.go hK hP hD hE hNc hS⟩ rfl rfl hl.1 rfl (lv_room (Nat.le_of_ble_eq_true rfl)) dL_law_1791 ⟨by show _ ≤ 601024; omega, by show _ ≤ 7293034; omega⟩)) hS (fun q _ h => h) (fun q h => h) (fun r uL t H locs ht hvm hw hB hz1 hk1 hS => ?_)
        subst hw
        obtain ⟨hP, hD⟩ := hB
        rw [ht] at hP
        rw [kMade4] at hP hD
        have hP : va_P D vwCl (tc_Z cI cJ cD (h0, .inr (2, [.ref h1, .ref h2, .ref h3, .int (nI n), .int (cdR K Ln j (xs (i + 2)) 4 (K j))])) (h1, .inl (cC, 60, .inr (.inr (.inr (.inr (fun t8 => if t8 < n then some (ad t8) else none)))))) (h2, .inl (cI, 6, .inl (noteC ct (cdR K Ln j (xs (i + 2)) 4 (K j))))) (h3, .inr (1, [.ref h4])) (h4, .inl (cD, 10, .inr (.inr (.inr (.inl (fun t8 => tf_N (1023 + 2 ^ t8) 0)))))) ((o1, .inl (cJ, 1, .inr (.inl (vp_updL ov 0 ((cdR K Ln j (xs (i + 2)) 4 (K j)).toInt64))))) :: (o2, .inl (cD, 1, .inr (.inr (.inr (.inl od))))) :: tc_fl (tc_col cJ cD ad wd rd K Ln (wrW K Ln Wh j (xs (i + 2)) 4 ((xs (i + 4)).toInt16.toInt32.toInt64)) (wrR K Ln Re j (xs (i + 2)) 4 ((xs (i + 4)).toInt16.toInt32.toInt64))) n) m0 m1 m2 m3 m4 m5 th n K Ln Wh Re cd ct) H := hP
        have hD : va_D A (tc_Z cI cJ cD (h0, .inr (2, [.ref h1, .ref h2, .ref h3, .int (nI n), .int (cdR K Ln j (xs (i + 2)) 4 (K j))])) (h1, .inl (cC, 60, .inr (.inr (.inr (.inr (fun t8 => if t8 < n then some (ad t8) else none)))))) (h2, .inl (cI, 6, .inl (noteC ct (cdR K Ln j (xs (i + 2)) 4 (K j))))) (h3, .inr (1, [.ref h4])) (h4, .inl (cD, 10, .inr (.inr (.inr (.inl (fun t8 => tf_N (1023 + 2 ^ t8) 0)))))) ((o1, .inl (cJ, 1, .inr (.inl (vp_updL ov 0 ((cdR K Ln j (xs (i + 2)) 4 (K j)).toInt64))))) :: (o2, .inl (cD, 1, .inr (.inr (.inr (.inl od))))) :: tc_fl (tc_col cJ cD ad wd rd K Ln (wrW K Ln Wh j (xs (i + 2)) 4 ((xs (i + 4)).toInt16.toInt32.toInt64)) (wrR K Ln Re j (xs (i + 2)) 4 ((xs (i + 4)).toInt16.toInt32.toInt64))) n) m0 m1 m2 m3 m4 m5 th n K Ln Wh Re cd ct) := hD
        refine lv_istore (lv' := [(6, .int 0), (5, .int (nI i)), (4, .ref o2), (3, .ref o1), (2, .ref m0), (1, .ref h0), (0, .ref b)]) hx hb dL_law_1794 hl (by decide) rfl (fun ls hl => ?_)
        refine lv_aload_n hx hb dL_law_1796 rfl (lv_at hl 4 rfl) ?_
        refine lv_aload_n hx hb dL_law_1797 rfl (lv_at hl 6 rfl) ?_
        refine lv_iload hx hb dL_law_1798 (lv_at hl 1 rfl) ?_
        refine lv_iconst (v := 1) hx hb dL_law_1800 (by decide) ?_
        refine lv_iadd hx hb dL_law_1801 ?_
        refine tc_sld hx hb hX hbl hbA hS hL 1 rfl (by omega) (v := (nI j)) ej dL_law_1802 ?_
        refine lv_aload_n hx hb dL_law_1803 rfl (lv_at hl 6 rfl) ?_
        refine lv_iload hx hb dL_law_1804 (lv_at hl 1 rfl) ?_
        refine lv_iconst (v := 2) hx hb dL_law_1806 (by decide) ?_
        refine lv_iadd hx hb dL_law_1807 ?_
        refine tc_sld hx hb hX hbl hbA hS hL 2 rfl (by omega) (v := (xs (i + 2))) rfl dL_law_1808 ?_
        refine lv_aload_n hx hb dL_law_1809 rfl (lv_at hl 6 rfl) ?_
        refine lv_iload hx hb dL_law_1810 (lv_at hl 1 rfl) ?_
        refine lv_iconst (v := 3) hx hb dL_law_1812 (by decide) ?_
        refine lv_iadd hx hb dL_law_1813 ?_
        refine tc_sld hx hb hX hbl hbA hS hL 3 rfl (by omega) (v := 4) e3 dL_law_1814 ?_
        refine lv_aload_n hx hb dL_law_1815 rfl (lv_at hl 6 rfl) ?_
        refine lv_iload hx hb dL_law_1816 (lv_at hl 1 rfl) ?_
        refine lv_iconst (v := 4) hx hb dL_law_1818 (by decide) ?_
        refine lv_iadd hx hb dL_law_1819 ?_
        refine tc_sld hx hb hX hbl hbA hS hL 4 rfl (by omega) (v := (xs (i + 4))) rfl dL_law_1820 ?_
        refine va_calli (va_runV (As := [.int (nI j), .int (xs (i + 2)), .int 4, .int (xs (i + 4))]) (rest := []) ⟨hx, hb, hml, hown, hts⟩ (tX3_writeAny_4 l D A cI cJ cD cC (h0, .inr (2, [.ref h1, .ref h2, .ref h3, .int (nI n), .int (cdR K Ln j (xs (i + 2)) 4 (K j))])) (h1, .inl (cC, 60, .inr (.inr (.inr (.inr (fun t8 => if t8 < n then some (ad t8) else none)))))) (h2, .inl (cI, 6, .inl (noteC ct (cdR K Ln j (xs (i + 2)) 4 (K j))))) (h3, .inr (1, [.ref h4])) (h4, .inl (cD, 10, .inr (.inr (.inr (.inl (fun t8 => tf_N (1023 + 2 ^ t8) 0)))))) ((o1, .inl (cJ, 1, .inr (.inl (vp_updL ov 0 ((cdR K Ln j (xs (i + 2)) 4 (K j)).toInt64))))) :: (o2, .inl (cD, 1, .inr (.inr (.inr (.inl od))))) :: tc_fl (tc_col cJ cD ad wd rd K Ln (wrW K Ln Wh j (xs (i + 2)) 4 ((xs (i + 4)).toInt16.toInt32.toInt64)) (wrR K Ln Re j (xs (i + 2)) 4 ((xs (i + 4)).toInt16.toInt32.toInt64))) n) m0 m1 m2 m3 m4 m5 th n K Ln Wh Re cd ct H.size hI j hj (xs (i + 2)) (xs (i + 4))) (cwV 4 hts gL_law_X3_writeAny rfl rfl rfl (by decide +kernel) ⟨Nat.le_of_ble_eq_true rfl, Nat.le_of_ble_eq_true rfl⟩) ⟨tcP.blind, va_recv hK hP (ci := 3) (q0 := 5) rfl rfl, tcP.go hK hP hD hE hS⟩ rfl rfl hl.1 rfl (lv_room (Nat.le_of_ble_eq_true rfl)) dL_law_1821 ⟨by show _ ≤ 601024; omega, by show _ ≤ 7293034; omega⟩) hS (fun q _ h => h) (fun q h => h) (fun r u t H locs ht hvm hw hB hz1 hk1 hS => ?_)
        subst hw
        obtain ⟨hP, hD⟩ := hB
        rw [ht] at hP
        refine lv_istore (lv' := [(7, .int (cdR K Ln j (xs (i + 2)) 4 (K j))), (6, .int 0), (5, .int (nI i)), (4, .ref o2), (3, .ref o1), (2, .ref m0), (1, .ref h0), (0, .ref b)]) hx hb dL_law_1824 hl (by decide) rfl (fun ls hl => ?_)
        refine lv_aload_n hx hb dL_law_1826 rfl (lv_at hl 5 rfl) ?_
        refine vp_callSi (tc_CR (va_runV (As := []) (rest := []) ⟨hx, hb, hml, hown, hts⟩ (tX3_thrown l D A cI cJ cD cC (h0, .inr (2, [.ref h1, .ref h2, .ref h3, .int (nI n), .int (cdR K Ln j (xs (i + 2)) 4 (K j))])) (h1, .inl (cC, 60, .inr (.inr (.inr (.inr (fun t8 => if t8 < n then some (ad t8) else none)))))) (h2, .inl (cI, 6, .inl (noteC ct (cdR K Ln j (xs (i + 2)) 4 (K j))))) (h3, .inr (1, [.ref h4])) (h4, .inl (cD, 10, .inr (.inr (.inr (.inl (fun t8 => tf_N (1023 + 2 ^ t8) 0)))))) ((o1, .inl (cJ, 1, .inr (.inl (vp_updL ov 0 ((cdR K Ln j (xs (i + 2)) 4 (K j)).toInt64))))) :: (o2, .inl (cD, 1, .inr (.inr (.inr (.inl od))))) :: tc_fl (tc_col cJ cD ad wd rd K Ln (wrW K Ln Wh j (xs (i + 2)) 4 ((xs (i + 4)).toInt16.toInt32.toInt64)) (wrR K Ln Re j (xs (i + 2)) 4 ((xs (i + 4)).toInt16.toInt32.toInt64))) n) m0 m1 m2 m3 m4 m5 0 n K Ln (wrW K Ln Wh j (xs (i + 2)) 4 ((xs (i + 4)).toInt16.toInt32.toInt64)) (wrR K Ln Re j (xs (i + 2)) 4 ((xs (i + 4)).toInt16.toInt32.toInt64)) (cdR K Ln j (xs (i + 2)) 4 (K j)) (noteC ct (cdR K Ln j (xs (i + 2)) 4 (K j))) H.size) (cwV 0 hts gL_law_X3_thrown rfl rfl rfl (by decide +kernel) ⟨Nat.le_of_ble_eq_true rfl, Nat.le_of_ble_eq_true rfl⟩) ⟨tcP.blind, va_recv hK hP (ci := 3) (q0 := 5) rfl rfl, tcP.go hK hP hD hE hS⟩ rfl rfl hl.1 rfl (lv_room (Nat.le_of_ble_eq_true rfl)) dL_law_1827 ⟨by show _ ≤ 601024; omega, by show _ ≤ 7293034; omega⟩)) (fun r9 h9 => ?_)
        subst h9
        refine lv_iload hx hb dL_law_1830 (lv_at hl 1 rfl) ?_
        refine lv_icmp_eq (tgt := 1837) hx hb dL_law_1832 (by decide) (fun _ => ?_) (fun q => absurd (by decide) q)
        refine lv_iload hx hb dL_law_1837 (lv_at hl 1 rfl) ?_
        refine lv_if_ne (tgt := 1854) hx hb dL_law_1839 (by decide) (fun q => absurd (by decide) q) (fun _ => ?_)
        refine lv_aload_n hx hb dL_law_1842 rfl (lv_at hl 4 rfl) ?_
        refine lv_iconst (v := 0) hx hb dL_law_1843 (by decide) ?_
        refine tc_lald (f := (vp_updL ov 0 ((cdR K Ln j (xs (i + 2)) 4 (K j)).toInt64))) (v := (cdR K Ln j (xs (i + 2)) 4 (K j)).toInt64) hx hb hK hP 11 1 rfl rfl (by unfold vp_in; decide) (show (vp_updL ov 0 ((cdR K Ln j (xs (i + 2)) 4 (K j)).toInt64)) 0 = (cdR K Ln j (xs (i + 2)) 4 (K j)).toInt64 from if_pos rfl) dL_law_1844 ?_
        refine lv_iload hx hb dL_law_1845 (lv_at hl 0 rfl) ?_
        refine lv_i2l (v := (cdR K Ln j (xs (i + 2)) 4 (K j)).toInt64) hx hb dL_law_1847 rfl ?_
        refine W.lcmp hx hb dL_law_1848 ?_
        refine lv_if_eq (tgt := 1854) hx hb dL_law_1849 (by decide) (fun _ => ?_) (fun q => absurd ((lg_cmp_eq _ _).mpr rfl) q)
        refine lv_goto (tgt := 2390) hx hb dL_law_1854 (by decide) ?_
        refine W.widen (k := ce + 3) (n := sl + 44) (by omega) (by omega) ?_
        exact kc _ _ _ _ ⟨ad, wd, rd, n, K, Ln, (wrW K Ln Wh j (xs (i + 2)) 4 ((xs (i + 4)).toInt16.toInt32.toInt64)), (wrR K Ln Re j (xs (i + 2)) 4 ((xs (i + 4)).toInt16.toInt32.toInt64)), (cdR K Ln j (xs (i + 2)) 4 (K j)), (noteC ct (cdR K Ln j (xs (i + 2)) 4 (K j))), 0, (vp_updL ov 0 ((cdR K Ln j (xs (i + 2)) 4 (K j)).toInt64)), od, hdd, (tcI_w hI hj (fun q => absurd q (by decide))), hP, hD, hS, lv_sub hl [2, 3, 4, 5, 6, 7] rfl⟩
      · refine lv_aload_n hx hb dL_law_1765 rfl (lv_at hl 4 rfl) ?_
        refine lv_aload_n hx hb dL_law_1766 rfl (lv_at hl 5 rfl) ?_
        refine lv_iload hx hb dL_law_1767 (lv_at hl 0 rfl) ?_
        refine lv_iconst (v := 1) hx hb dL_law_1769 (by decide) ?_
        refine lv_iadd hx hb dL_law_1770 ?_
        refine tc_sld hx hb hX hbl hbA hS hL 1 rfl (by omega) (v := (nI j)) ej dL_law_1771 ?_
        refine lv_aload_n hx hb dL_law_1772 rfl (lv_at hl 5 rfl) ?_
        refine lv_iload hx hb dL_law_1773 (lv_at hl 0 rfl) ?_
        refine lv_iconst (v := 2) hx hb dL_law_1775 (by decide) ?_
        refine lv_iadd hx hb dL_law_1776 ?_
        refine tc_sld hx hb hX hbl hbA hS hL 2 rfl (by omega) (v := (xs (i + 2))) rfl dL_law_1777 ?_
        refine lv_aload_n hx hb dL_law_1778 rfl (lv_at hl 5 rfl) ?_
        refine lv_iload hx hb dL_law_1779 (lv_at hl 0 rfl) ?_
        refine lv_iconst (v := 3) hx hb dL_law_1781 (by decide) ?_
        refine lv_iadd hx hb dL_law_1782 ?_
        refine tc_sld hx hb hX hbl hbA hS hL 3 rfl (by omega) (v := 5) e3 dL_law_1783 ?_
        refine lv_aload_n hx hb dL_law_1784 rfl (lv_at hl 5 rfl) ?_
        refine lv_iload hx hb dL_law_1785 (lv_at hl 0 rfl) ?_
        refine lv_iconst (v := 4) hx hb dL_law_1787 (by decide) ?_
        refine lv_iadd hx hb dL_law_1788 ?_
        refine tc_sld hx hb hX hbl hbA hS hL 4 rfl (by omega) (v := (xs (i + 4))) rfl dL_law_1789 ?_
        refine lv_aload_n hx hb dL_law_1790 rfl (lv_at hl 2 rfl) ?_
        refine va_calli (tc_noX (vx_runSX (As := [.ref h0, .int (nI j), .int (xs (i + 2)), .int 5, .int (xs (i + 4)), .ref o1]) (rest := []) ⟨hx, hb, hml, hown, hts⟩ (lL_writeAny_w l hfl D A cI cJ cD cC h0 h1 h2 h3 h4 ad wd rd (m0, .inr (3, [.int th, .int (nI n), .ref m1, .ref m2, .ref m3, .ref m4, .int cd, .ref m5])) (m1, .inl (cI, 60, .inl K)) (m2, .inl (cI, 60, .inl (fun t8 => nI (Ln t8)))) (m3, .inl (cJ, 2400, .inr (.inl Wh))) (m4, .inl (cD, 2400, .inr (.inr (.inr (.inl Re))))) (m5, .inl (cI, 6, .inl ct)) o1 o2 ov od n K Ln Wh Re cd ct H.size hI j hj (xs (i + 2)) 5 (xs (i + 4)) (by decide) (by decide)) (vx_cwSW 6 hts gL_law_L_writeAny rfl rfl rfl (by decide +kernel) ⟨Nat.le_of_ble_eq_true rfl, Nat.le_of_ble_eq_true rfl⟩) ⟨tcPL.blind, tcPL.go hK hP hD hE hNc hS⟩ rfl rfl hl.1 rfl (lv_room (Nat.le_of_ble_eq_true rfl)) dL_law_1791 ⟨by show _ ≤ 601024; omega, by show _ ≤ 7293034; omega⟩)) hS (fun q _ h => h) (fun q h => h) (fun r uL t H locs ht hvm hw hB hz1 hk1 hS => ?_)
        subst hw
        obtain ⟨hP, hD⟩ := hB
        rw [ht] at hP
        rw [kMade5] at hP hD
        have hP : va_P D vwCl (tc_Z cI cJ cD (h0, .inr (2, [.ref h1, .ref h2, .ref h3, .int (nI n), .int (cdR K Ln j (xs (i + 2)) 5 (K j))])) (h1, .inl (cC, 60, .inr (.inr (.inr (.inr (fun t8 => if t8 < n then some (ad t8) else none)))))) (h2, .inl (cI, 6, .inl (noteC ct (cdR K Ln j (xs (i + 2)) 5 (K j))))) (h3, .inr (1, [.ref h4])) (h4, .inl (cD, 10, .inr (.inr (.inr (.inl (fun t8 => tf_N (1023 + 2 ^ t8) 0)))))) ((o1, .inl (cJ, 1, .inr (.inl (vp_updL ov 0 ((cdR K Ln j (xs (i + 2)) 5 (K j)).toInt64))))) :: (o2, .inl (cD, 1, .inr (.inr (.inr (.inl od))))) :: tc_fl (tc_col cJ cD ad wd rd K Ln (wrW K Ln Wh j (xs (i + 2)) 5 ((xs (i + 4)).toInt64)) (wrR K Ln Re j (xs (i + 2)) 5 ((xs (i + 4)).toInt64))) n) m0 m1 m2 m3 m4 m5 th n K Ln Wh Re cd ct) H := hP
        have hD : va_D A (tc_Z cI cJ cD (h0, .inr (2, [.ref h1, .ref h2, .ref h3, .int (nI n), .int (cdR K Ln j (xs (i + 2)) 5 (K j))])) (h1, .inl (cC, 60, .inr (.inr (.inr (.inr (fun t8 => if t8 < n then some (ad t8) else none)))))) (h2, .inl (cI, 6, .inl (noteC ct (cdR K Ln j (xs (i + 2)) 5 (K j))))) (h3, .inr (1, [.ref h4])) (h4, .inl (cD, 10, .inr (.inr (.inr (.inl (fun t8 => tf_N (1023 + 2 ^ t8) 0)))))) ((o1, .inl (cJ, 1, .inr (.inl (vp_updL ov 0 ((cdR K Ln j (xs (i + 2)) 5 (K j)).toInt64))))) :: (o2, .inl (cD, 1, .inr (.inr (.inr (.inl od))))) :: tc_fl (tc_col cJ cD ad wd rd K Ln (wrW K Ln Wh j (xs (i + 2)) 5 ((xs (i + 4)).toInt64)) (wrR K Ln Re j (xs (i + 2)) 5 ((xs (i + 4)).toInt64))) n) m0 m1 m2 m3 m4 m5 th n K Ln Wh Re cd ct) := hD
        refine lv_istore (lv' := [(6, .int 0), (5, .int (nI i)), (4, .ref o2), (3, .ref o1), (2, .ref m0), (1, .ref h0), (0, .ref b)]) hx hb dL_law_1794 hl (by decide) rfl (fun ls hl => ?_)
        refine lv_aload_n hx hb dL_law_1796 rfl (lv_at hl 4 rfl) ?_
        refine lv_aload_n hx hb dL_law_1797 rfl (lv_at hl 6 rfl) ?_
        refine lv_iload hx hb dL_law_1798 (lv_at hl 1 rfl) ?_
        refine lv_iconst (v := 1) hx hb dL_law_1800 (by decide) ?_
        refine lv_iadd hx hb dL_law_1801 ?_
        refine tc_sld hx hb hX hbl hbA hS hL 1 rfl (by omega) (v := (nI j)) ej dL_law_1802 ?_
        refine lv_aload_n hx hb dL_law_1803 rfl (lv_at hl 6 rfl) ?_
        refine lv_iload hx hb dL_law_1804 (lv_at hl 1 rfl) ?_
        refine lv_iconst (v := 2) hx hb dL_law_1806 (by decide) ?_
        refine lv_iadd hx hb dL_law_1807 ?_
        refine tc_sld hx hb hX hbl hbA hS hL 2 rfl (by omega) (v := (xs (i + 2))) rfl dL_law_1808 ?_
        refine lv_aload_n hx hb dL_law_1809 rfl (lv_at hl 6 rfl) ?_
        refine lv_iload hx hb dL_law_1810 (lv_at hl 1 rfl) ?_
        refine lv_iconst (v := 3) hx hb dL_law_1812 (by decide) ?_
        refine lv_iadd hx hb dL_law_1813 ?_
        refine tc_sld hx hb hX hbl hbA hS hL 3 rfl (by omega) (v := 5) e3 dL_law_1814 ?_
        refine lv_aload_n hx hb dL_law_1815 rfl (lv_at hl 6 rfl) ?_
        refine lv_iload hx hb dL_law_1816 (lv_at hl 1 rfl) ?_
        refine lv_iconst (v := 4) hx hb dL_law_1818 (by decide) ?_
        refine lv_iadd hx hb dL_law_1819 ?_
        refine tc_sld hx hb hX hbl hbA hS hL 4 rfl (by omega) (v := (xs (i + 4))) rfl dL_law_1820 ?_
        refine va_calli (va_runV (As := [.int (nI j), .int (xs (i + 2)), .int 5, .int (xs (i + 4))]) (rest := []) ⟨hx, hb, hml, hown, hts⟩ (tX3_writeAny_5 l D A cI cJ cD cC (h0, .inr (2, [.ref h1, .ref h2, .ref h3, .int (nI n), .int (cdR K Ln j (xs (i + 2)) 5 (K j))])) (h1, .inl (cC, 60, .inr (.inr (.inr (.inr (fun t8 => if t8 < n then some (ad t8) else none)))))) (h2, .inl (cI, 6, .inl (noteC ct (cdR K Ln j (xs (i + 2)) 5 (K j))))) (h3, .inr (1, [.ref h4])) (h4, .inl (cD, 10, .inr (.inr (.inr (.inl (fun t8 => tf_N (1023 + 2 ^ t8) 0)))))) ((o1, .inl (cJ, 1, .inr (.inl (vp_updL ov 0 ((cdR K Ln j (xs (i + 2)) 5 (K j)).toInt64))))) :: (o2, .inl (cD, 1, .inr (.inr (.inr (.inl od))))) :: tc_fl (tc_col cJ cD ad wd rd K Ln (wrW K Ln Wh j (xs (i + 2)) 5 ((xs (i + 4)).toInt64)) (wrR K Ln Re j (xs (i + 2)) 5 ((xs (i + 4)).toInt64))) n) m0 m1 m2 m3 m4 m5 th n K Ln Wh Re cd ct H.size hI j hj (xs (i + 2)) (xs (i + 4))) (cwV 4 hts gL_law_X3_writeAny rfl rfl rfl (by decide +kernel) ⟨Nat.le_of_ble_eq_true rfl, Nat.le_of_ble_eq_true rfl⟩) ⟨tcP.blind, va_recv hK hP (ci := 3) (q0 := 5) rfl rfl, tcP.go hK hP hD hE hS⟩ rfl rfl hl.1 rfl (lv_room (Nat.le_of_ble_eq_true rfl)) dL_law_1821 ⟨by show _ ≤ 601024; omega, by show _ ≤ 7293034; omega⟩) hS (fun q _ h => h) (fun q h => h) (fun r u t H locs ht hvm hw hB hz1 hk1 hS => ?_)
        subst hw
        obtain ⟨hP, hD⟩ := hB
        rw [ht] at hP
        refine lv_istore (lv' := [(7, .int (cdR K Ln j (xs (i + 2)) 5 (K j))), (6, .int 0), (5, .int (nI i)), (4, .ref o2), (3, .ref o1), (2, .ref m0), (1, .ref h0), (0, .ref b)]) hx hb dL_law_1824 hl (by decide) rfl (fun ls hl => ?_)
        refine lv_aload_n hx hb dL_law_1826 rfl (lv_at hl 5 rfl) ?_
        refine vp_callSi (tc_CR (va_runV (As := []) (rest := []) ⟨hx, hb, hml, hown, hts⟩ (tX3_thrown l D A cI cJ cD cC (h0, .inr (2, [.ref h1, .ref h2, .ref h3, .int (nI n), .int (cdR K Ln j (xs (i + 2)) 5 (K j))])) (h1, .inl (cC, 60, .inr (.inr (.inr (.inr (fun t8 => if t8 < n then some (ad t8) else none)))))) (h2, .inl (cI, 6, .inl (noteC ct (cdR K Ln j (xs (i + 2)) 5 (K j))))) (h3, .inr (1, [.ref h4])) (h4, .inl (cD, 10, .inr (.inr (.inr (.inl (fun t8 => tf_N (1023 + 2 ^ t8) 0)))))) ((o1, .inl (cJ, 1, .inr (.inl (vp_updL ov 0 ((cdR K Ln j (xs (i + 2)) 5 (K j)).toInt64))))) :: (o2, .inl (cD, 1, .inr (.inr (.inr (.inl od))))) :: tc_fl (tc_col cJ cD ad wd rd K Ln (wrW K Ln Wh j (xs (i + 2)) 5 ((xs (i + 4)).toInt64)) (wrR K Ln Re j (xs (i + 2)) 5 ((xs (i + 4)).toInt64))) n) m0 m1 m2 m3 m4 m5 0 n K Ln (wrW K Ln Wh j (xs (i + 2)) 5 ((xs (i + 4)).toInt64)) (wrR K Ln Re j (xs (i + 2)) 5 ((xs (i + 4)).toInt64)) (cdR K Ln j (xs (i + 2)) 5 (K j)) (noteC ct (cdR K Ln j (xs (i + 2)) 5 (K j))) H.size) (cwV 0 hts gL_law_X3_thrown rfl rfl rfl (by decide +kernel) ⟨Nat.le_of_ble_eq_true rfl, Nat.le_of_ble_eq_true rfl⟩) ⟨tcP.blind, va_recv hK hP (ci := 3) (q0 := 5) rfl rfl, tcP.go hK hP hD hE hS⟩ rfl rfl hl.1 rfl (lv_room (Nat.le_of_ble_eq_true rfl)) dL_law_1827 ⟨by show _ ≤ 601024; omega, by show _ ≤ 7293034; omega⟩)) (fun r9 h9 => ?_)
        subst h9
        refine lv_iload hx hb dL_law_1830 (lv_at hl 1 rfl) ?_
        refine lv_icmp_eq (tgt := 1837) hx hb dL_law_1832 (by decide) (fun _ => ?_) (fun q => absurd (by decide) q)
        refine lv_iload hx hb dL_law_1837 (lv_at hl 1 rfl) ?_
        refine lv_if_ne (tgt := 1854) hx hb dL_law_1839 (by decide) (fun q => absurd (by decide) q) (fun _ => ?_)
        refine lv_aload_n hx hb dL_law_1842 rfl (lv_at hl 4 rfl) ?_
        refine lv_iconst (v := 0) hx hb dL_law_1843 (by decide) ?_
        refine tc_lald (f := (vp_updL ov 0 ((cdR K Ln j (xs (i + 2)) 5 (K j)).toInt64))) (v := (cdR K Ln j (xs (i + 2)) 5 (K j)).toInt64) hx hb hK hP 11 1 rfl rfl (by unfold vp_in; decide) (show (vp_updL ov 0 ((cdR K Ln j (xs (i + 2)) 5 (K j)).toInt64)) 0 = (cdR K Ln j (xs (i + 2)) 5 (K j)).toInt64 from if_pos rfl) dL_law_1844 ?_
        refine lv_iload hx hb dL_law_1845 (lv_at hl 0 rfl) ?_
        refine lv_i2l (v := (cdR K Ln j (xs (i + 2)) 5 (K j)).toInt64) hx hb dL_law_1847 rfl ?_
        refine W.lcmp hx hb dL_law_1848 ?_
        refine lv_if_eq (tgt := 1854) hx hb dL_law_1849 (by decide) (fun _ => ?_) (fun q => absurd ((lg_cmp_eq _ _).mpr rfl) q)
        refine lv_goto (tgt := 2390) hx hb dL_law_1854 (by decide) ?_
        refine W.widen (k := ce + 3) (n := sl + 44) (by omega) (by omega) ?_
        exact kc _ _ _ _ ⟨ad, wd, rd, n, K, Ln, (wrW K Ln Wh j (xs (i + 2)) 5 ((xs (i + 4)).toInt64)), (wrR K Ln Re j (xs (i + 2)) 5 ((xs (i + 4)).toInt64)), (cdR K Ln j (xs (i + 2)) 5 (K j)), (noteC ct (cdR K Ln j (xs (i + 2)) 5 (K j))), 0, (vp_updL ov 0 ((cdR K Ln j (xs (i + 2)) 5 (K j)).toInt64)), od, hdd, (tcI_w hI hj (fun q => absurd q (by decide))), hP, hD, hS, lv_sub hl [2, 3, 4, 5, 6, 7] rfl⟩
      · refine lv_aload_n hx hb dL_law_1765 rfl (lv_at hl 4 rfl) ?_
        refine lv_aload_n hx hb dL_law_1766 rfl (lv_at hl 5 rfl) ?_
        refine lv_iload hx hb dL_law_1767 (lv_at hl 0 rfl) ?_
        refine lv_iconst (v := 1) hx hb dL_law_1769 (by decide) ?_
        refine lv_iadd hx hb dL_law_1770 ?_
        refine tc_sld hx hb hX hbl hbA hS hL 1 rfl (by omega) (v := (nI j)) ej dL_law_1771 ?_
        refine lv_aload_n hx hb dL_law_1772 rfl (lv_at hl 5 rfl) ?_
        refine lv_iload hx hb dL_law_1773 (lv_at hl 0 rfl) ?_
        refine lv_iconst (v := 2) hx hb dL_law_1775 (by decide) ?_
        refine lv_iadd hx hb dL_law_1776 ?_
        refine tc_sld hx hb hX hbl hbA hS hL 2 rfl (by omega) (v := (xs (i + 2))) rfl dL_law_1777 ?_
        refine lv_aload_n hx hb dL_law_1778 rfl (lv_at hl 5 rfl) ?_
        refine lv_iload hx hb dL_law_1779 (lv_at hl 0 rfl) ?_
        refine lv_iconst (v := 3) hx hb dL_law_1781 (by decide) ?_
        refine lv_iadd hx hb dL_law_1782 ?_
        refine tc_sld hx hb hX hbl hbA hS hL 3 rfl (by omega) (v := 6) e3 dL_law_1783 ?_
        refine lv_aload_n hx hb dL_law_1784 rfl (lv_at hl 5 rfl) ?_
        refine lv_iload hx hb dL_law_1785 (lv_at hl 0 rfl) ?_
        refine lv_iconst (v := 4) hx hb dL_law_1787 (by decide) ?_
        refine lv_iadd hx hb dL_law_1788 ?_
        refine tc_sld hx hb hX hbl hbA hS hL 4 rfl (by omega) (v := (xs (i + 4))) rfl dL_law_1789 ?_
        refine lv_aload_n hx hb dL_law_1790 rfl (lv_at hl 2 rfl) ?_
        refine va_calli (tc_noX (vx_runSX (As := [.ref h0, .int (nI j), .int (xs (i + 2)), .int 6, .int (xs (i + 4)), .ref o1]) (rest := []) ⟨hx, hb, hml, hown, hts⟩ (lL_writeAny_w l hfl D A cI cJ cD cC h0 h1 h2 h3 h4 ad wd rd (m0, .inr (3, [.int th, .int (nI n), .ref m1, .ref m2, .ref m3, .ref m4, .int cd, .ref m5])) (m1, .inl (cI, 60, .inl K)) (m2, .inl (cI, 60, .inl (fun t8 => nI (Ln t8)))) (m3, .inl (cJ, 2400, .inr (.inl Wh))) (m4, .inl (cD, 2400, .inr (.inr (.inr (.inl Re))))) (m5, .inl (cI, 6, .inl ct)) o1 o2 ov od n K Ln Wh Re cd ct H.size hI j hj (xs (i + 2)) 6 (xs (i + 4)) (by decide) (by decide)) (vx_cwSW 6 hts gL_law_L_writeAny rfl rfl rfl (by decide +kernel) ⟨Nat.le_of_ble_eq_true rfl, Nat.le_of_ble_eq_true rfl⟩) ⟨tcPL.blind, tcPL.go hK hP hD hE hNc hS⟩ rfl rfl hl.1 rfl (lv_room (Nat.le_of_ble_eq_true rfl)) dL_law_1791 ⟨by show _ ≤ 601024; omega, by show _ ≤ 7293034; omega⟩)) hS (fun q _ h => h) (fun q h => h) (fun r uL t H locs ht hvm hw hB hz1 hk1 hS => ?_)
        subst hw
        obtain ⟨hP, hD⟩ := hB
        rw [ht] at hP
        rw [kMade6] at hP hD
        have hP : va_P D vwCl (tc_Z cI cJ cD (h0, .inr (2, [.ref h1, .ref h2, .ref h3, .int (nI n), .int (cdR K Ln j (xs (i + 2)) 6 (K j))])) (h1, .inl (cC, 60, .inr (.inr (.inr (.inr (fun t8 => if t8 < n then some (ad t8) else none)))))) (h2, .inl (cI, 6, .inl (noteC ct (cdR K Ln j (xs (i + 2)) 6 (K j))))) (h3, .inr (1, [.ref h4])) (h4, .inl (cD, 10, .inr (.inr (.inr (.inl (fun t8 => tf_N (1023 + 2 ^ t8) 0)))))) ((o1, .inl (cJ, 1, .inr (.inl (vp_updL ov 0 ((cdR K Ln j (xs (i + 2)) 6 (K j)).toInt64))))) :: (o2, .inl (cD, 1, .inr (.inr (.inr (.inl od))))) :: tc_fl (tc_col cJ cD ad wd rd K Ln (wrW K Ln Wh j (xs (i + 2)) 6 ((xs (i + 4)).toInt64)) (wrR K Ln Re j (xs (i + 2)) 6 ((xs (i + 4)).toInt64))) n) m0 m1 m2 m3 m4 m5 th n K Ln Wh Re cd ct) H := hP
        have hD : va_D A (tc_Z cI cJ cD (h0, .inr (2, [.ref h1, .ref h2, .ref h3, .int (nI n), .int (cdR K Ln j (xs (i + 2)) 6 (K j))])) (h1, .inl (cC, 60, .inr (.inr (.inr (.inr (fun t8 => if t8 < n then some (ad t8) else none)))))) (h2, .inl (cI, 6, .inl (noteC ct (cdR K Ln j (xs (i + 2)) 6 (K j))))) (h3, .inr (1, [.ref h4])) (h4, .inl (cD, 10, .inr (.inr (.inr (.inl (fun t8 => tf_N (1023 + 2 ^ t8) 0)))))) ((o1, .inl (cJ, 1, .inr (.inl (vp_updL ov 0 ((cdR K Ln j (xs (i + 2)) 6 (K j)).toInt64))))) :: (o2, .inl (cD, 1, .inr (.inr (.inr (.inl od))))) :: tc_fl (tc_col cJ cD ad wd rd K Ln (wrW K Ln Wh j (xs (i + 2)) 6 ((xs (i + 4)).toInt64)) (wrR K Ln Re j (xs (i + 2)) 6 ((xs (i + 4)).toInt64))) n) m0 m1 m2 m3 m4 m5 th n K Ln Wh Re cd ct) := hD
        refine lv_istore (lv' := [(6, .int 0), (5, .int (nI i)), (4, .ref o2), (3, .ref o1), (2, .ref m0), (1, .ref h0), (0, .ref b)]) hx hb dL_law_1794 hl (by decide) rfl (fun ls hl => ?_)
        refine lv_aload_n hx hb dL_law_1796 rfl (lv_at hl 4 rfl) ?_
        refine lv_aload_n hx hb dL_law_1797 rfl (lv_at hl 6 rfl) ?_
        refine lv_iload hx hb dL_law_1798 (lv_at hl 1 rfl) ?_
        refine lv_iconst (v := 1) hx hb dL_law_1800 (by decide) ?_
        refine lv_iadd hx hb dL_law_1801 ?_
        refine tc_sld hx hb hX hbl hbA hS hL 1 rfl (by omega) (v := (nI j)) ej dL_law_1802 ?_
        refine lv_aload_n hx hb dL_law_1803 rfl (lv_at hl 6 rfl) ?_
        refine lv_iload hx hb dL_law_1804 (lv_at hl 1 rfl) ?_
        refine lv_iconst (v := 2) hx hb dL_law_1806 (by decide) ?_
        refine lv_iadd hx hb dL_law_1807 ?_
        refine tc_sld hx hb hX hbl hbA hS hL 2 rfl (by omega) (v := (xs (i + 2))) rfl dL_law_1808 ?_
        refine lv_aload_n hx hb dL_law_1809 rfl (lv_at hl 6 rfl) ?_
        refine lv_iload hx hb dL_law_1810 (lv_at hl 1 rfl) ?_
        refine lv_iconst (v := 3) hx hb dL_law_1812 (by decide) ?_
        refine lv_iadd hx hb dL_law_1813 ?_
        refine tc_sld hx hb hX hbl hbA hS hL 3 rfl (by omega) (v := 6) e3 dL_law_1814 ?_
        refine lv_aload_n hx hb dL_law_1815 rfl (lv_at hl 6 rfl) ?_
        refine lv_iload hx hb dL_law_1816 (lv_at hl 1 rfl) ?_
        refine lv_iconst (v := 4) hx hb dL_law_1818 (by decide) ?_
        refine lv_iadd hx hb dL_law_1819 ?_
        refine tc_sld hx hb hX hbl hbA hS hL 4 rfl (by omega) (v := (xs (i + 4))) rfl dL_law_1820 ?_
        refine va_calli (va_runV (As := [.int (nI j), .int (xs (i + 2)), .int 6, .int (xs (i + 4))]) (rest := []) ⟨hx, hb, hml, hown, hts⟩ (tX3_writeAny_6 l D A cI cJ cD cC (h0, .inr (2, [.ref h1, .ref h2, .ref h3, .int (nI n), .int (cdR K Ln j (xs (i + 2)) 6 (K j))])) (h1, .inl (cC, 60, .inr (.inr (.inr (.inr (fun t8 => if t8 < n then some (ad t8) else none)))))) (h2, .inl (cI, 6, .inl (noteC ct (cdR K Ln j (xs (i + 2)) 6 (K j))))) (h3, .inr (1, [.ref h4])) (h4, .inl (cD, 10, .inr (.inr (.inr (.inl (fun t8 => tf_N (1023 + 2 ^ t8) 0)))))) ((o1, .inl (cJ, 1, .inr (.inl (vp_updL ov 0 ((cdR K Ln j (xs (i + 2)) 6 (K j)).toInt64))))) :: (o2, .inl (cD, 1, .inr (.inr (.inr (.inl od))))) :: tc_fl (tc_col cJ cD ad wd rd K Ln (wrW K Ln Wh j (xs (i + 2)) 6 ((xs (i + 4)).toInt64)) (wrR K Ln Re j (xs (i + 2)) 6 ((xs (i + 4)).toInt64))) n) m0 m1 m2 m3 m4 m5 th n K Ln Wh Re cd ct H.size hI j hj (xs (i + 2)) (xs (i + 4))) (cwV 4 hts gL_law_X3_writeAny rfl rfl rfl (by decide +kernel) ⟨Nat.le_of_ble_eq_true rfl, Nat.le_of_ble_eq_true rfl⟩) ⟨tcP.blind, va_recv hK hP (ci := 3) (q0 := 5) rfl rfl, tcP.go hK hP hD hE hS⟩ rfl rfl hl.1 rfl (lv_room (Nat.le_of_ble_eq_true rfl)) dL_law_1821 ⟨by show _ ≤ 601024; omega, by show _ ≤ 7293034; omega⟩) hS (fun q _ h => h) (fun q h => h) (fun r u t H locs ht hvm hw hB hz1 hk1 hS => ?_)
        subst hw
        obtain ⟨hP, hD⟩ := hB
        rw [ht] at hP
        refine lv_istore (lv' := [(7, .int (cdR K Ln j (xs (i + 2)) 6 (K j))), (6, .int 0), (5, .int (nI i)), (4, .ref o2), (3, .ref o1), (2, .ref m0), (1, .ref h0), (0, .ref b)]) hx hb dL_law_1824 hl (by decide) rfl (fun ls hl => ?_)
        refine lv_aload_n hx hb dL_law_1826 rfl (lv_at hl 5 rfl) ?_
        refine vp_callSi (tc_CR (va_runV (As := []) (rest := []) ⟨hx, hb, hml, hown, hts⟩ (tX3_thrown l D A cI cJ cD cC (h0, .inr (2, [.ref h1, .ref h2, .ref h3, .int (nI n), .int (cdR K Ln j (xs (i + 2)) 6 (K j))])) (h1, .inl (cC, 60, .inr (.inr (.inr (.inr (fun t8 => if t8 < n then some (ad t8) else none)))))) (h2, .inl (cI, 6, .inl (noteC ct (cdR K Ln j (xs (i + 2)) 6 (K j))))) (h3, .inr (1, [.ref h4])) (h4, .inl (cD, 10, .inr (.inr (.inr (.inl (fun t8 => tf_N (1023 + 2 ^ t8) 0)))))) ((o1, .inl (cJ, 1, .inr (.inl (vp_updL ov 0 ((cdR K Ln j (xs (i + 2)) 6 (K j)).toInt64))))) :: (o2, .inl (cD, 1, .inr (.inr (.inr (.inl od))))) :: tc_fl (tc_col cJ cD ad wd rd K Ln (wrW K Ln Wh j (xs (i + 2)) 6 ((xs (i + 4)).toInt64)) (wrR K Ln Re j (xs (i + 2)) 6 ((xs (i + 4)).toInt64))) n) m0 m1 m2 m3 m4 m5 0 n K Ln (wrW K Ln Wh j (xs (i + 2)) 6 ((xs (i + 4)).toInt64)) (wrR K Ln Re j (xs (i + 2)) 6 ((xs (i + 4)).toInt64)) (cdR K Ln j (xs (i + 2)) 6 (K j)) (noteC ct (cdR K Ln j (xs (i + 2)) 6 (K j))) H.size) (cwV 0 hts gL_law_X3_thrown rfl rfl rfl (by decide +kernel) ⟨Nat.le_of_ble_eq_true rfl, Nat.le_of_ble_eq_true rfl⟩) ⟨tcP.blind, va_recv hK hP (ci := 3) (q0 := 5) rfl rfl, tcP.go hK hP hD hE hS⟩ rfl rfl hl.1 rfl (lv_room (Nat.le_of_ble_eq_true rfl)) dL_law_1827 ⟨by show _ ≤ 601024; omega, by show _ ≤ 7293034; omega⟩)) (fun r9 h9 => ?_)
        subst h9
        refine lv_iload hx hb dL_law_1830 (lv_at hl 1 rfl) ?_
        refine lv_icmp_eq (tgt := 1837) hx hb dL_law_1832 (by decide) (fun _ => ?_) (fun q => absurd (by decide) q)
        refine lv_iload hx hb dL_law_1837 (lv_at hl 1 rfl) ?_
        refine lv_if_ne (tgt := 1854) hx hb dL_law_1839 (by decide) (fun q => absurd (by decide) q) (fun _ => ?_)
        refine lv_aload_n hx hb dL_law_1842 rfl (lv_at hl 4 rfl) ?_
        refine lv_iconst (v := 0) hx hb dL_law_1843 (by decide) ?_
        refine tc_lald (f := (vp_updL ov 0 ((cdR K Ln j (xs (i + 2)) 6 (K j)).toInt64))) (v := (cdR K Ln j (xs (i + 2)) 6 (K j)).toInt64) hx hb hK hP 11 1 rfl rfl (by unfold vp_in; decide) (show (vp_updL ov 0 ((cdR K Ln j (xs (i + 2)) 6 (K j)).toInt64)) 0 = (cdR K Ln j (xs (i + 2)) 6 (K j)).toInt64 from if_pos rfl) dL_law_1844 ?_
        refine lv_iload hx hb dL_law_1845 (lv_at hl 0 rfl) ?_
        refine lv_i2l (v := (cdR K Ln j (xs (i + 2)) 6 (K j)).toInt64) hx hb dL_law_1847 rfl ?_
        refine W.lcmp hx hb dL_law_1848 ?_
        refine lv_if_eq (tgt := 1854) hx hb dL_law_1849 (by decide) (fun _ => ?_) (fun q => absurd ((lg_cmp_eq _ _).mpr rfl) q)
        refine lv_goto (tgt := 2390) hx hb dL_law_1854 (by decide) ?_
        refine W.widen (k := ce + 3) (n := sl + 44) (by omega) (by omega) ?_
        exact kc _ _ _ _ ⟨ad, wd, rd, n, K, Ln, (wrW K Ln Wh j (xs (i + 2)) 6 ((xs (i + 4)).toInt64)), (wrR K Ln Re j (xs (i + 2)) 6 ((xs (i + 4)).toInt64)), (cdR K Ln j (xs (i + 2)) 6 (K j)), (noteC ct (cdR K Ln j (xs (i + 2)) 6 (K j))), 0, (vp_updL ov 0 ((cdR K Ln j (xs (i + 2)) 6 (K j)).toInt64)), od, hdd, (tcI_w hI hj (fun q => absurd q (by decide))), hP, hD, hS, lv_sub hl [2, 3, 4, 5, 6, 7] rfl⟩
      · refine lv_aload_n hx hb dL_law_1765 rfl (lv_at hl 4 rfl) ?_
        refine lv_aload_n hx hb dL_law_1766 rfl (lv_at hl 5 rfl) ?_
        refine lv_iload hx hb dL_law_1767 (lv_at hl 0 rfl) ?_
        refine lv_iconst (v := 1) hx hb dL_law_1769 (by decide) ?_
        refine lv_iadd hx hb dL_law_1770 ?_
        refine tc_sld hx hb hX hbl hbA hS hL 1 rfl (by omega) (v := (nI j)) ej dL_law_1771 ?_
        refine lv_aload_n hx hb dL_law_1772 rfl (lv_at hl 5 rfl) ?_
        refine lv_iload hx hb dL_law_1773 (lv_at hl 0 rfl) ?_
        refine lv_iconst (v := 2) hx hb dL_law_1775 (by decide) ?_
        refine lv_iadd hx hb dL_law_1776 ?_
        refine tc_sld hx hb hX hbl hbA hS hL 2 rfl (by omega) (v := (xs (i + 2))) rfl dL_law_1777 ?_
        refine lv_aload_n hx hb dL_law_1778 rfl (lv_at hl 5 rfl) ?_
        refine lv_iload hx hb dL_law_1779 (lv_at hl 0 rfl) ?_
        refine lv_iconst (v := 3) hx hb dL_law_1781 (by decide) ?_
        refine lv_iadd hx hb dL_law_1782 ?_
        refine tc_sld hx hb hX hbl hbA hS hL 3 rfl (by omega) (v := 7) e3 dL_law_1783 ?_
        refine lv_aload_n hx hb dL_law_1784 rfl (lv_at hl 5 rfl) ?_
        refine lv_iload hx hb dL_law_1785 (lv_at hl 0 rfl) ?_
        refine lv_iconst (v := 4) hx hb dL_law_1787 (by decide) ?_
        refine lv_iadd hx hb dL_law_1788 ?_
        refine tc_sld hx hb hX hbl hbA hS hL 4 rfl (by omega) (v := (xs (i + 4))) rfl dL_law_1789 ?_
        refine lv_aload_n hx hb dL_law_1790 rfl (lv_at hl 2 rfl) ?_
        refine va_calli (tc_noX (vx_runSX (As := [.ref h0, .int (nI j), .int (xs (i + 2)), .int 7, .int (xs (i + 4)), .ref o1]) (rest := []) ⟨hx, hb, hml, hown, hts⟩ (lL_writeAny_f l hfl D A cI cJ cD cC h0 h1 h2 h3 h4 ad wd rd (m0, .inr (3, [.int th, .int (nI n), .ref m1, .ref m2, .ref m3, .ref m4, .int cd, .ref m5])) (m1, .inl (cI, 60, .inl K)) (m2, .inl (cI, 60, .inl (fun t8 => nI (Ln t8)))) (m3, .inl (cJ, 2400, .inr (.inl Wh))) (m4, .inl (cD, 2400, .inr (.inr (.inr (.inl Re))))) (m5, .inl (cI, 6, .inl ct)) o1 o2 ov od n K Ln Wh Re cd ct H.size hI j hj (xs (i + 2)) 7 (xs (i + 4)) (by decide) rfl) (vx_cwSW 6 hts gL_law_L_writeAny rfl rfl rfl (by decide +kernel) ⟨Nat.le_of_ble_eq_true rfl, Nat.le_of_ble_eq_true rfl⟩) ⟨tcPL.blind, tcPL.go hK hP hD hE hNc hS⟩ rfl rfl hl.1 rfl (lv_room (Nat.le_of_ble_eq_true rfl)) dL_law_1791 ⟨by show _ ≤ 601024; omega, by show _ ≤ 7293034; omega⟩)) hS (fun q _ h => h) (fun q h => h) (fun r uL t H locs ht hvm hw hB hz1 hk1 hS => ?_)
        subst hw
        obtain ⟨hP, hD⟩ := hB
        rw [ht] at hP
        have hP : va_P D vwCl (tc_Z cI cJ cD (h0, .inr (2, [.ref h1, .ref h2, .ref h3, .int (nI n), .int (cdR K Ln j (xs (i + 2)) 7 (K j))])) (h1, .inl (cC, 60, .inr (.inr (.inr (.inr (fun t8 => if t8 < n then some (ad t8) else none)))))) (h2, .inl (cI, 6, .inl (noteC ct (cdR K Ln j (xs (i + 2)) 7 (K j))))) (h3, .inr (1, [.ref h4])) (h4, .inl (cD, 10, .inr (.inr (.inr (.inl (fun t8 => tf_N (1023 + 2 ^ t8) 0)))))) ((o1, .inl (cJ, 1, .inr (.inl (vp_updL ov 0 ((cdR K Ln j (xs (i + 2)) 7 (K j)).toInt64))))) :: (o2, .inl (cD, 1, .inr (.inr (.inr (.inl od))))) :: tc_fl (tc_col cJ cD ad wd rd K Ln Wh (wrX K Ln Re j (xs (i + 2)) 7 (FP.f2d (FP.i2f (xs (i + 4)))))) n) m0 m1 m2 m3 m4 m5 th n K Ln Wh Re cd ct) H := hP
        have hD : va_D A (tc_Z cI cJ cD (h0, .inr (2, [.ref h1, .ref h2, .ref h3, .int (nI n), .int (cdR K Ln j (xs (i + 2)) 7 (K j))])) (h1, .inl (cC, 60, .inr (.inr (.inr (.inr (fun t8 => if t8 < n then some (ad t8) else none)))))) (h2, .inl (cI, 6, .inl (noteC ct (cdR K Ln j (xs (i + 2)) 7 (K j))))) (h3, .inr (1, [.ref h4])) (h4, .inl (cD, 10, .inr (.inr (.inr (.inl (fun t8 => tf_N (1023 + 2 ^ t8) 0)))))) ((o1, .inl (cJ, 1, .inr (.inl (vp_updL ov 0 ((cdR K Ln j (xs (i + 2)) 7 (K j)).toInt64))))) :: (o2, .inl (cD, 1, .inr (.inr (.inr (.inl od))))) :: tc_fl (tc_col cJ cD ad wd rd K Ln Wh (wrX K Ln Re j (xs (i + 2)) 7 (FP.f2d (FP.i2f (xs (i + 4)))))) n) m0 m1 m2 m3 m4 m5 th n K Ln Wh Re cd ct) := hD
        refine lv_istore (lv' := [(6, .int 0), (5, .int (nI i)), (4, .ref o2), (3, .ref o1), (2, .ref m0), (1, .ref h0), (0, .ref b)]) hx hb dL_law_1794 hl (by decide) rfl (fun ls hl => ?_)
        refine lv_aload_n hx hb dL_law_1796 rfl (lv_at hl 4 rfl) ?_
        refine lv_aload_n hx hb dL_law_1797 rfl (lv_at hl 6 rfl) ?_
        refine lv_iload hx hb dL_law_1798 (lv_at hl 1 rfl) ?_
        refine lv_iconst (v := 1) hx hb dL_law_1800 (by decide) ?_
        refine lv_iadd hx hb dL_law_1801 ?_
        refine tc_sld hx hb hX hbl hbA hS hL 1 rfl (by omega) (v := (nI j)) ej dL_law_1802 ?_
        refine lv_aload_n hx hb dL_law_1803 rfl (lv_at hl 6 rfl) ?_
        refine lv_iload hx hb dL_law_1804 (lv_at hl 1 rfl) ?_
        refine lv_iconst (v := 2) hx hb dL_law_1806 (by decide) ?_
        refine lv_iadd hx hb dL_law_1807 ?_
        refine tc_sld hx hb hX hbl hbA hS hL 2 rfl (by omega) (v := (xs (i + 2))) rfl dL_law_1808 ?_
        refine lv_aload_n hx hb dL_law_1809 rfl (lv_at hl 6 rfl) ?_
        refine lv_iload hx hb dL_law_1810 (lv_at hl 1 rfl) ?_
        refine lv_iconst (v := 3) hx hb dL_law_1812 (by decide) ?_
        refine lv_iadd hx hb dL_law_1813 ?_
        refine tc_sld hx hb hX hbl hbA hS hL 3 rfl (by omega) (v := 7) e3 dL_law_1814 ?_
        refine lv_aload_n hx hb dL_law_1815 rfl (lv_at hl 6 rfl) ?_
        refine lv_iload hx hb dL_law_1816 (lv_at hl 1 rfl) ?_
        refine lv_iconst (v := 4) hx hb dL_law_1818 (by decide) ?_
        refine lv_iadd hx hb dL_law_1819 ?_
        refine tc_sld hx hb hX hbl hbA hS hL 4 rfl (by omega) (v := (xs (i + 4))) rfl dL_law_1820 ?_
        refine va_calli (va_runV (As := [.int (nI j), .int (xs (i + 2)), .int 7, .int (xs (i + 4))]) (rest := []) ⟨hx, hb, hml, hown, hts⟩ (tX3_writeAny_7 l D A cI cJ cD cC (h0, .inr (2, [.ref h1, .ref h2, .ref h3, .int (nI n), .int (cdR K Ln j (xs (i + 2)) 7 (K j))])) (h1, .inl (cC, 60, .inr (.inr (.inr (.inr (fun t8 => if t8 < n then some (ad t8) else none)))))) (h2, .inl (cI, 6, .inl (noteC ct (cdR K Ln j (xs (i + 2)) 7 (K j))))) (h3, .inr (1, [.ref h4])) (h4, .inl (cD, 10, .inr (.inr (.inr (.inl (fun t8 => tf_N (1023 + 2 ^ t8) 0)))))) ((o1, .inl (cJ, 1, .inr (.inl (vp_updL ov 0 ((cdR K Ln j (xs (i + 2)) 7 (K j)).toInt64))))) :: (o2, .inl (cD, 1, .inr (.inr (.inr (.inl od))))) :: tc_fl (tc_col cJ cD ad wd rd K Ln Wh (wrX K Ln Re j (xs (i + 2)) 7 (FP.f2d (FP.i2f (xs (i + 4)))))) n) m0 m1 m2 m3 m4 m5 th n K Ln Wh Re cd ct H.size hI j hj (xs (i + 2)) (xs (i + 4))) (cwV 4 hts gL_law_X3_writeAny rfl rfl rfl (by decide +kernel) ⟨Nat.le_of_ble_eq_true rfl, Nat.le_of_ble_eq_true rfl⟩) ⟨tcP.blind, va_recv hK hP (ci := 3) (q0 := 5) rfl rfl, tcP.go hK hP hD hE hS⟩ rfl rfl hl.1 rfl (lv_room (Nat.le_of_ble_eq_true rfl)) dL_law_1821 ⟨by show _ ≤ 601024; omega, by show _ ≤ 7293034; omega⟩) hS (fun q _ h => h) (fun q h => h) (fun r u t H locs ht hvm hw hB hz1 hk1 hS => ?_)
        subst hw
        obtain ⟨hP, hD⟩ := hB
        rw [ht] at hP
        refine lv_istore (lv' := [(7, .int (cdR K Ln j (xs (i + 2)) 7 (K j))), (6, .int 0), (5, .int (nI i)), (4, .ref o2), (3, .ref o1), (2, .ref m0), (1, .ref h0), (0, .ref b)]) hx hb dL_law_1824 hl (by decide) rfl (fun ls hl => ?_)
        refine lv_aload_n hx hb dL_law_1826 rfl (lv_at hl 5 rfl) ?_
        refine vp_callSi (tc_CR (va_runV (As := []) (rest := []) ⟨hx, hb, hml, hown, hts⟩ (tX3_thrown l D A cI cJ cD cC (h0, .inr (2, [.ref h1, .ref h2, .ref h3, .int (nI n), .int (cdR K Ln j (xs (i + 2)) 7 (K j))])) (h1, .inl (cC, 60, .inr (.inr (.inr (.inr (fun t8 => if t8 < n then some (ad t8) else none)))))) (h2, .inl (cI, 6, .inl (noteC ct (cdR K Ln j (xs (i + 2)) 7 (K j))))) (h3, .inr (1, [.ref h4])) (h4, .inl (cD, 10, .inr (.inr (.inr (.inl (fun t8 => tf_N (1023 + 2 ^ t8) 0)))))) ((o1, .inl (cJ, 1, .inr (.inl (vp_updL ov 0 ((cdR K Ln j (xs (i + 2)) 7 (K j)).toInt64))))) :: (o2, .inl (cD, 1, .inr (.inr (.inr (.inl od))))) :: tc_fl (tc_col cJ cD ad wd rd K Ln Wh (wrX K Ln Re j (xs (i + 2)) 7 (FP.f2d (FP.i2f (xs (i + 4)))))) n) m0 m1 m2 m3 m4 m5 0 n K Ln Wh (wrX K Ln Re j (xs (i + 2)) 7 (FP.f2d (FP.i2f (xs (i + 4))))) (cdR K Ln j (xs (i + 2)) 7 (K j)) (noteC ct (cdR K Ln j (xs (i + 2)) 7 (K j))) H.size) (cwV 0 hts gL_law_X3_thrown rfl rfl rfl (by decide +kernel) ⟨Nat.le_of_ble_eq_true rfl, Nat.le_of_ble_eq_true rfl⟩) ⟨tcP.blind, va_recv hK hP (ci := 3) (q0 := 5) rfl rfl, tcP.go hK hP hD hE hS⟩ rfl rfl hl.1 rfl (lv_room (Nat.le_of_ble_eq_true rfl)) dL_law_1827 ⟨by show _ ≤ 601024; omega, by show _ ≤ 7293034; omega⟩)) (fun r9 h9 => ?_)
        subst h9
        refine lv_iload hx hb dL_law_1830 (lv_at hl 1 rfl) ?_
        refine lv_icmp_eq (tgt := 1837) hx hb dL_law_1832 (by decide) (fun _ => ?_) (fun q => absurd (by decide) q)
        refine lv_iload hx hb dL_law_1837 (lv_at hl 1 rfl) ?_
        refine lv_if_ne (tgt := 1854) hx hb dL_law_1839 (by decide) (fun q => absurd (by decide) q) (fun _ => ?_)
        refine lv_aload_n hx hb dL_law_1842 rfl (lv_at hl 4 rfl) ?_
        refine lv_iconst (v := 0) hx hb dL_law_1843 (by decide) ?_
        refine tc_lald (f := (vp_updL ov 0 ((cdR K Ln j (xs (i + 2)) 7 (K j)).toInt64))) (v := (cdR K Ln j (xs (i + 2)) 7 (K j)).toInt64) hx hb hK hP 11 1 rfl rfl (by unfold vp_in; decide) (show (vp_updL ov 0 ((cdR K Ln j (xs (i + 2)) 7 (K j)).toInt64)) 0 = (cdR K Ln j (xs (i + 2)) 7 (K j)).toInt64 from if_pos rfl) dL_law_1844 ?_
        refine lv_iload hx hb dL_law_1845 (lv_at hl 0 rfl) ?_
        refine lv_i2l (v := (cdR K Ln j (xs (i + 2)) 7 (K j)).toInt64) hx hb dL_law_1847 rfl ?_
        refine W.lcmp hx hb dL_law_1848 ?_
        refine lv_if_eq (tgt := 1854) hx hb dL_law_1849 (by decide) (fun _ => ?_) (fun q => absurd ((lg_cmp_eq _ _).mpr rfl) q)
        refine lv_goto (tgt := 2390) hx hb dL_law_1854 (by decide) ?_
        refine W.widen (k := ce + 3) (n := sl + 44) (by omega) (by omega) ?_
        exact kc _ _ _ _ ⟨ad, wd, rd, n, K, Ln, Wh, (wrX K Ln Re j (xs (i + 2)) 7 (FP.f2d (FP.i2f (xs (i + 4))))), (cdR K Ln j (xs (i + 2)) 7 (K j)), (noteC ct (cdR K Ln j (xs (i + 2)) 7 (K j))), 0, (vp_updL ov 0 ((cdR K Ln j (xs (i + 2)) 7 (K j)).toInt64)), od, hdd, (tcI_x hI (tf_f2d (tf_i2f _))), hP, hD, hS, lv_sub hl [2, 3, 4, 5, 6, 7] rfl⟩
      · refine lv_aload_n hx hb dL_law_1765 rfl (lv_at hl 4 rfl) ?_
        refine lv_aload_n hx hb dL_law_1766 rfl (lv_at hl 5 rfl) ?_
        refine lv_iload hx hb dL_law_1767 (lv_at hl 0 rfl) ?_
        refine lv_iconst (v := 1) hx hb dL_law_1769 (by decide) ?_
        refine lv_iadd hx hb dL_law_1770 ?_
        refine tc_sld hx hb hX hbl hbA hS hL 1 rfl (by omega) (v := (nI j)) ej dL_law_1771 ?_
        refine lv_aload_n hx hb dL_law_1772 rfl (lv_at hl 5 rfl) ?_
        refine lv_iload hx hb dL_law_1773 (lv_at hl 0 rfl) ?_
        refine lv_iconst (v := 2) hx hb dL_law_1775 (by decide) ?_
        refine lv_iadd hx hb dL_law_1776 ?_
        refine tc_sld hx hb hX hbl hbA hS hL 2 rfl (by omega) (v := (xs (i + 2))) rfl dL_law_1777 ?_
        refine lv_aload_n hx hb dL_law_1778 rfl (lv_at hl 5 rfl) ?_
        refine lv_iload hx hb dL_law_1779 (lv_at hl 0 rfl) ?_
        refine lv_iconst (v := 3) hx hb dL_law_1781 (by decide) ?_
        refine lv_iadd hx hb dL_law_1782 ?_
        refine tc_sld hx hb hX hbl hbA hS hL 3 rfl (by omega) (v := 8) e3 dL_law_1783 ?_
        refine lv_aload_n hx hb dL_law_1784 rfl (lv_at hl 5 rfl) ?_
        refine lv_iload hx hb dL_law_1785 (lv_at hl 0 rfl) ?_
        refine lv_iconst (v := 4) hx hb dL_law_1787 (by decide) ?_
        refine lv_iadd hx hb dL_law_1788 ?_
        refine tc_sld hx hb hX hbl hbA hS hL 4 rfl (by omega) (v := (xs (i + 4))) rfl dL_law_1789 ?_
        refine lv_aload_n hx hb dL_law_1790 rfl (lv_at hl 2 rfl) ?_
        refine va_calli (tc_noX (vx_runSX (As := [.ref h0, .int (nI j), .int (xs (i + 2)), .int 8, .int (xs (i + 4)), .ref o1]) (rest := []) ⟨hx, hb, hml, hown, hts⟩ (lL_writeAny_d l hfl D A cI cJ cD cC h0 h1 h2 h3 h4 ad wd rd (m0, .inr (3, [.int th, .int (nI n), .ref m1, .ref m2, .ref m3, .ref m4, .int cd, .ref m5])) (m1, .inl (cI, 60, .inl K)) (m2, .inl (cI, 60, .inl (fun t8 => nI (Ln t8)))) (m3, .inl (cJ, 2400, .inr (.inl Wh))) (m4, .inl (cD, 2400, .inr (.inr (.inr (.inl Re))))) (m5, .inl (cI, 6, .inl ct)) o1 o2 ov od n K Ln Wh Re cd ct H.size hI j hj (xs (i + 2)) 8 (xs (i + 4)) (by decide) rfl) (vx_cwSW 6 hts gL_law_L_writeAny rfl rfl rfl (by decide +kernel) ⟨Nat.le_of_ble_eq_true rfl, Nat.le_of_ble_eq_true rfl⟩) ⟨tcPL.blind, tcPL.go hK hP hD hE hNc hS⟩ rfl rfl hl.1 rfl (lv_room (Nat.le_of_ble_eq_true rfl)) dL_law_1791 ⟨by show _ ≤ 601024; omega, by show _ ≤ 7293034; omega⟩)) hS (fun q _ h => h) (fun q h => h) (fun r uL t H locs ht hvm hw hB hz1 hk1 hS => ?_)
        subst hw
        obtain ⟨hP, hD⟩ := hB
        rw [ht] at hP
        have hP : va_P D vwCl (tc_Z cI cJ cD (h0, .inr (2, [.ref h1, .ref h2, .ref h3, .int (nI n), .int (cdR K Ln j (xs (i + 2)) 8 (K j))])) (h1, .inl (cC, 60, .inr (.inr (.inr (.inr (fun t8 => if t8 < n then some (ad t8) else none)))))) (h2, .inl (cI, 6, .inl (noteC ct (cdR K Ln j (xs (i + 2)) 8 (K j))))) (h3, .inr (1, [.ref h4])) (h4, .inl (cD, 10, .inr (.inr (.inr (.inl (fun t8 => tf_N (1023 + 2 ^ t8) 0)))))) ((o1, .inl (cJ, 1, .inr (.inl (vp_updL ov 0 ((cdR K Ln j (xs (i + 2)) 8 (K j)).toInt64))))) :: (o2, .inl (cD, 1, .inr (.inr (.inr (.inl od))))) :: tc_fl (tc_col cJ cD ad wd rd K Ln Wh (wrX K Ln Re j (xs (i + 2)) 8 (FP.i2d (xs (i + 4))))) n) m0 m1 m2 m3 m4 m5 th n K Ln Wh Re cd ct) H := hP
        have hD : va_D A (tc_Z cI cJ cD (h0, .inr (2, [.ref h1, .ref h2, .ref h3, .int (nI n), .int (cdR K Ln j (xs (i + 2)) 8 (K j))])) (h1, .inl (cC, 60, .inr (.inr (.inr (.inr (fun t8 => if t8 < n then some (ad t8) else none)))))) (h2, .inl (cI, 6, .inl (noteC ct (cdR K Ln j (xs (i + 2)) 8 (K j))))) (h3, .inr (1, [.ref h4])) (h4, .inl (cD, 10, .inr (.inr (.inr (.inl (fun t8 => tf_N (1023 + 2 ^ t8) 0)))))) ((o1, .inl (cJ, 1, .inr (.inl (vp_updL ov 0 ((cdR K Ln j (xs (i + 2)) 8 (K j)).toInt64))))) :: (o2, .inl (cD, 1, .inr (.inr (.inr (.inl od))))) :: tc_fl (tc_col cJ cD ad wd rd K Ln Wh (wrX K Ln Re j (xs (i + 2)) 8 (FP.i2d (xs (i + 4))))) n) m0 m1 m2 m3 m4 m5 th n K Ln Wh Re cd ct) := hD
        refine lv_istore (lv' := [(6, .int 0), (5, .int (nI i)), (4, .ref o2), (3, .ref o1), (2, .ref m0), (1, .ref h0), (0, .ref b)]) hx hb dL_law_1794 hl (by decide) rfl (fun ls hl => ?_)
        refine lv_aload_n hx hb dL_law_1796 rfl (lv_at hl 4 rfl) ?_
        refine lv_aload_n hx hb dL_law_1797 rfl (lv_at hl 6 rfl) ?_
        refine lv_iload hx hb dL_law_1798 (lv_at hl 1 rfl) ?_
        refine lv_iconst (v := 1) hx hb dL_law_1800 (by decide) ?_
        refine lv_iadd hx hb dL_law_1801 ?_
        refine tc_sld hx hb hX hbl hbA hS hL 1 rfl (by omega) (v := (nI j)) ej dL_law_1802 ?_
        refine lv_aload_n hx hb dL_law_1803 rfl (lv_at hl 6 rfl) ?_
        refine lv_iload hx hb dL_law_1804 (lv_at hl 1 rfl) ?_
        refine lv_iconst (v := 2) hx hb dL_law_1806 (by decide) ?_
        refine lv_iadd hx hb dL_law_1807 ?_
        refine tc_sld hx hb hX hbl hbA hS hL 2 rfl (by omega) (v := (xs (i + 2))) rfl dL_law_1808 ?_
        refine lv_aload_n hx hb dL_law_1809 rfl (lv_at hl 6 rfl) ?_
        refine lv_iload hx hb dL_law_1810 (lv_at hl 1 rfl) ?_
        refine lv_iconst (v := 3) hx hb dL_law_1812 (by decide) ?_
        refine lv_iadd hx hb dL_law_1813 ?_
        refine tc_sld hx hb hX hbl hbA hS hL 3 rfl (by omega) (v := 8) e3 dL_law_1814 ?_
        refine lv_aload_n hx hb dL_law_1815 rfl (lv_at hl 6 rfl) ?_
        refine lv_iload hx hb dL_law_1816 (lv_at hl 1 rfl) ?_
        refine lv_iconst (v := 4) hx hb dL_law_1818 (by decide) ?_
        refine lv_iadd hx hb dL_law_1819 ?_
        refine tc_sld hx hb hX hbl hbA hS hL 4 rfl (by omega) (v := (xs (i + 4))) rfl dL_law_1820 ?_
        refine va_calli (va_runV (As := [.int (nI j), .int (xs (i + 2)), .int 8, .int (xs (i + 4))]) (rest := []) ⟨hx, hb, hml, hown, hts⟩ (tX3_writeAny_8 l D A cI cJ cD cC (h0, .inr (2, [.ref h1, .ref h2, .ref h3, .int (nI n), .int (cdR K Ln j (xs (i + 2)) 8 (K j))])) (h1, .inl (cC, 60, .inr (.inr (.inr (.inr (fun t8 => if t8 < n then some (ad t8) else none)))))) (h2, .inl (cI, 6, .inl (noteC ct (cdR K Ln j (xs (i + 2)) 8 (K j))))) (h3, .inr (1, [.ref h4])) (h4, .inl (cD, 10, .inr (.inr (.inr (.inl (fun t8 => tf_N (1023 + 2 ^ t8) 0)))))) ((o1, .inl (cJ, 1, .inr (.inl (vp_updL ov 0 ((cdR K Ln j (xs (i + 2)) 8 (K j)).toInt64))))) :: (o2, .inl (cD, 1, .inr (.inr (.inr (.inl od))))) :: tc_fl (tc_col cJ cD ad wd rd K Ln Wh (wrX K Ln Re j (xs (i + 2)) 8 (FP.i2d (xs (i + 4))))) n) m0 m1 m2 m3 m4 m5 th n K Ln Wh Re cd ct H.size hI j hj (xs (i + 2)) (xs (i + 4))) (cwV 4 hts gL_law_X3_writeAny rfl rfl rfl (by decide +kernel) ⟨Nat.le_of_ble_eq_true rfl, Nat.le_of_ble_eq_true rfl⟩) ⟨tcP.blind, va_recv hK hP (ci := 3) (q0 := 5) rfl rfl, tcP.go hK hP hD hE hS⟩ rfl rfl hl.1 rfl (lv_room (Nat.le_of_ble_eq_true rfl)) dL_law_1821 ⟨by show _ ≤ 601024; omega, by show _ ≤ 7293034; omega⟩) hS (fun q _ h => h) (fun q h => h) (fun r u t H locs ht hvm hw hB hz1 hk1 hS => ?_)
        subst hw
        obtain ⟨hP, hD⟩ := hB
        rw [ht] at hP
        refine lv_istore (lv' := [(7, .int (cdR K Ln j (xs (i + 2)) 8 (K j))), (6, .int 0), (5, .int (nI i)), (4, .ref o2), (3, .ref o1), (2, .ref m0), (1, .ref h0), (0, .ref b)]) hx hb dL_law_1824 hl (by decide) rfl (fun ls hl => ?_)
        refine lv_aload_n hx hb dL_law_1826 rfl (lv_at hl 5 rfl) ?_
        refine vp_callSi (tc_CR (va_runV (As := []) (rest := []) ⟨hx, hb, hml, hown, hts⟩ (tX3_thrown l D A cI cJ cD cC (h0, .inr (2, [.ref h1, .ref h2, .ref h3, .int (nI n), .int (cdR K Ln j (xs (i + 2)) 8 (K j))])) (h1, .inl (cC, 60, .inr (.inr (.inr (.inr (fun t8 => if t8 < n then some (ad t8) else none)))))) (h2, .inl (cI, 6, .inl (noteC ct (cdR K Ln j (xs (i + 2)) 8 (K j))))) (h3, .inr (1, [.ref h4])) (h4, .inl (cD, 10, .inr (.inr (.inr (.inl (fun t8 => tf_N (1023 + 2 ^ t8) 0)))))) ((o1, .inl (cJ, 1, .inr (.inl (vp_updL ov 0 ((cdR K Ln j (xs (i + 2)) 8 (K j)).toInt64))))) :: (o2, .inl (cD, 1, .inr (.inr (.inr (.inl od))))) :: tc_fl (tc_col cJ cD ad wd rd K Ln Wh (wrX K Ln Re j (xs (i + 2)) 8 (FP.i2d (xs (i + 4))))) n) m0 m1 m2 m3 m4 m5 0 n K Ln Wh (wrX K Ln Re j (xs (i + 2)) 8 (FP.i2d (xs (i + 4)))) (cdR K Ln j (xs (i + 2)) 8 (K j)) (noteC ct (cdR K Ln j (xs (i + 2)) 8 (K j))) H.size) (cwV 0 hts gL_law_X3_thrown rfl rfl rfl (by decide +kernel) ⟨Nat.le_of_ble_eq_true rfl, Nat.le_of_ble_eq_true rfl⟩) ⟨tcP.blind, va_recv hK hP (ci := 3) (q0 := 5) rfl rfl, tcP.go hK hP hD hE hS⟩ rfl rfl hl.1 rfl (lv_room (Nat.le_of_ble_eq_true rfl)) dL_law_1827 ⟨by show _ ≤ 601024; omega, by show _ ≤ 7293034; omega⟩)) (fun r9 h9 => ?_)
        subst h9
        refine lv_iload hx hb dL_law_1830 (lv_at hl 1 rfl) ?_
        refine lv_icmp_eq (tgt := 1837) hx hb dL_law_1832 (by decide) (fun _ => ?_) (fun q => absurd (by decide) q)
        refine lv_iload hx hb dL_law_1837 (lv_at hl 1 rfl) ?_
        refine lv_if_ne (tgt := 1854) hx hb dL_law_1839 (by decide) (fun q => absurd (by decide) q) (fun _ => ?_)
        refine lv_aload_n hx hb dL_law_1842 rfl (lv_at hl 4 rfl) ?_
        refine lv_iconst (v := 0) hx hb dL_law_1843 (by decide) ?_
        refine tc_lald (f := (vp_updL ov 0 ((cdR K Ln j (xs (i + 2)) 8 (K j)).toInt64))) (v := (cdR K Ln j (xs (i + 2)) 8 (K j)).toInt64) hx hb hK hP 11 1 rfl rfl (by unfold vp_in; decide) (show (vp_updL ov 0 ((cdR K Ln j (xs (i + 2)) 8 (K j)).toInt64)) 0 = (cdR K Ln j (xs (i + 2)) 8 (K j)).toInt64 from if_pos rfl) dL_law_1844 ?_
        refine lv_iload hx hb dL_law_1845 (lv_at hl 0 rfl) ?_
        refine lv_i2l (v := (cdR K Ln j (xs (i + 2)) 8 (K j)).toInt64) hx hb dL_law_1847 rfl ?_
        refine W.lcmp hx hb dL_law_1848 ?_
        refine lv_if_eq (tgt := 1854) hx hb dL_law_1849 (by decide) (fun _ => ?_) (fun q => absurd ((lg_cmp_eq _ _).mpr rfl) q)
        refine lv_goto (tgt := 2390) hx hb dL_law_1854 (by decide) ?_
        refine W.widen (k := ce + 3) (n := sl + 44) (by omega) (by omega) ?_
        exact kc _ _ _ _ ⟨ad, wd, rd, n, K, Ln, Wh, (wrX K Ln Re j (xs (i + 2)) 8 (FP.i2d (xs (i + 4)))), (cdR K Ln j (xs (i + 2)) 8 (K j)), (noteC ct (cdR K Ln j (xs (i + 2)) 8 (K j))), 0, (vp_updL ov 0 ((cdR K Ln j (xs (i + 2)) 8 (K j)).toInt64)), od, hdd, (tcI_x hI (tf_i2d _)), hP, hD, hS, lv_sub hl [2, 3, 4, 5, 6, 7] rfl⟩
  · refine lv_aload_n hx hb dL_law_1765 rfl (lv_at hl 4 rfl) ?_
    refine lv_aload_n hx hb dL_law_1766 rfl (lv_at hl 5 rfl) ?_
    refine lv_iload hx hb dL_law_1767 (lv_at hl 0 rfl) ?_
    refine lv_iconst (v := 1) hx hb dL_law_1769 (by decide) ?_
    refine lv_iadd hx hb dL_law_1770 ?_
    refine tc_sld hx hb hX hbl hbA hS hL 1 rfl (by omega) (v := (xs (i + 1))) rfl dL_law_1771 ?_
    refine lv_aload_n hx hb dL_law_1772 rfl (lv_at hl 5 rfl) ?_
    refine lv_iload hx hb dL_law_1773 (lv_at hl 0 rfl) ?_
    refine lv_iconst (v := 2) hx hb dL_law_1775 (by decide) ?_
    refine lv_iadd hx hb dL_law_1776 ?_
    refine tc_sld hx hb hX hbl hbA hS hL 2 rfl (by omega) (v := (xs (i + 2))) rfl dL_law_1777 ?_
    refine lv_aload_n hx hb dL_law_1778 rfl (lv_at hl 5 rfl) ?_
    refine lv_iload hx hb dL_law_1779 (lv_at hl 0 rfl) ?_
    refine lv_iconst (v := 3) hx hb dL_law_1781 (by decide) ?_
    refine lv_iadd hx hb dL_law_1782 ?_
    refine tc_sld hx hb hX hbl hbA hS hL 3 rfl (by omega) (v := (xs (i + 3))) rfl dL_law_1783 ?_
    refine lv_aload_n hx hb dL_law_1784 rfl (lv_at hl 5 rfl) ?_
    refine lv_iload hx hb dL_law_1785 (lv_at hl 0 rfl) ?_
    refine lv_iconst (v := 4) hx hb dL_law_1787 (by decide) ?_
    refine lv_iadd hx hb dL_law_1788 ?_
    refine tc_sld hx hb hX hbl hbA hS hL 4 rfl (by omega) (v := (xs (i + 4))) rfl dL_law_1789 ?_
    refine lv_aload_n hx hb dL_law_1790 rfl (lv_at hl 2 rfl) ?_
    refine va_calli (tc_noX (vx_runSX (As := [.ref h0, .int (xs (i + 1)), .int (xs (i + 2)), .int (xs (i + 3)), .int (xs (i + 4)), .ref o1]) (rest := []) ⟨hx, hb, hml, hown, hts⟩ (lLn_writeAny l hfl D A cI cJ cD cC h0 h1 h2 h3 h4 ad wd rd (m0, .inr (3, [.int th, .int (nI n), .ref m1, .ref m2, .ref m3, .ref m4, .int cd, .ref m5])) (m1, .inl (cI, 60, .inl K)) (m2, .inl (cI, 60, .inl (fun t8 => nI (Ln t8)))) (m3, .inl (cJ, 2400, .inr (.inl Wh))) (m4, .inl (cD, 2400, .inr (.inr (.inr (.inl Re))))) (m5, .inl (cI, 6, .inl ct)) o1 o2 ov od n K Ln Wh Re cd ct H.size hn60 (xs (i + 1)) hc (xs (i + 2)) (xs (i + 3)) (xs (i + 4))) (vx_cwSW 6 hts gL_law_L_writeAny rfl rfl rfl (by decide +kernel) ⟨Nat.le_of_ble_eq_true rfl, Nat.le_of_ble_eq_true rfl⟩) ⟨tcPL.blind, tcPL.go hK hP hD hE hNc hS⟩ rfl rfl hl.1 rfl (lv_room (Nat.le_of_ble_eq_true rfl)) dL_law_1791 ⟨by show _ ≤ 601024; omega, by show _ ≤ 7293034; omega⟩)) hS (fun q _ h => h) (fun q h => h) (fun r uL t H locs ht hvm hw hB hz1 hk1 hS => ?_)
    subst hw
    obtain ⟨hP, hD⟩ := hB
    rw [ht] at hP
    have hP : va_P D vwCl (tc_Z cI cJ cD (h0, .inr (2, [.ref h1, .ref h2, .ref h3, .int (nI n), .int cd])) (h1, .inl (cC, 60, .inr (.inr (.inr (.inr (fun t8 => if t8 < n then some (ad t8) else none)))))) (h2, .inl (cI, 6, .inl ct)) (h3, .inr (1, [.ref h4])) (h4, .inl (cD, 10, .inr (.inr (.inr (.inl (fun t8 => tf_N (1023 + 2 ^ t8) 0)))))) ((o1, .inl (cJ, 1, .inr (.inl ov))) :: (o2, .inl (cD, 1, .inr (.inr (.inr (.inl od))))) :: tc_fl (tc_col cJ cD ad wd rd K Ln Wh Re) n) m0 m1 m2 m3 m4 m5 th n K Ln Wh Re cd ct) H := hP
    have hD : va_D A (tc_Z cI cJ cD (h0, .inr (2, [.ref h1, .ref h2, .ref h3, .int (nI n), .int cd])) (h1, .inl (cC, 60, .inr (.inr (.inr (.inr (fun t8 => if t8 < n then some (ad t8) else none)))))) (h2, .inl (cI, 6, .inl ct)) (h3, .inr (1, [.ref h4])) (h4, .inl (cD, 10, .inr (.inr (.inr (.inl (fun t8 => tf_N (1023 + 2 ^ t8) 0)))))) ((o1, .inl (cJ, 1, .inr (.inl ov))) :: (o2, .inl (cD, 1, .inr (.inr (.inr (.inl od))))) :: tc_fl (tc_col cJ cD ad wd rd K Ln Wh Re) n) m0 m1 m2 m3 m4 m5 th n K Ln Wh Re cd ct) := hD
    refine lv_istore (lv' := [(6, .int 1), (5, .int (nI i)), (4, .ref o2), (3, .ref o1), (2, .ref m0), (1, .ref h0), (0, .ref b)]) hx hb dL_law_1794 hl (by decide) rfl (fun ls hl => ?_)
    refine lv_aload_n hx hb dL_law_1796 rfl (lv_at hl 4 rfl) ?_
    refine lv_aload_n hx hb dL_law_1797 rfl (lv_at hl 6 rfl) ?_
    refine lv_iload hx hb dL_law_1798 (lv_at hl 1 rfl) ?_
    refine lv_iconst (v := 1) hx hb dL_law_1800 (by decide) ?_
    refine lv_iadd hx hb dL_law_1801 ?_
    refine tc_sld hx hb hX hbl hbA hS hL 1 rfl (by omega) (v := (xs (i + 1))) rfl dL_law_1802 ?_
    refine lv_aload_n hx hb dL_law_1803 rfl (lv_at hl 6 rfl) ?_
    refine lv_iload hx hb dL_law_1804 (lv_at hl 1 rfl) ?_
    refine lv_iconst (v := 2) hx hb dL_law_1806 (by decide) ?_
    refine lv_iadd hx hb dL_law_1807 ?_
    refine tc_sld hx hb hX hbl hbA hS hL 2 rfl (by omega) (v := (xs (i + 2))) rfl dL_law_1808 ?_
    refine lv_aload_n hx hb dL_law_1809 rfl (lv_at hl 6 rfl) ?_
    refine lv_iload hx hb dL_law_1810 (lv_at hl 1 rfl) ?_
    refine lv_iconst (v := 3) hx hb dL_law_1812 (by decide) ?_
    refine lv_iadd hx hb dL_law_1813 ?_
    refine tc_sld hx hb hX hbl hbA hS hL 3 rfl (by omega) (v := (xs (i + 3))) rfl dL_law_1814 ?_
    refine lv_aload_n hx hb dL_law_1815 rfl (lv_at hl 6 rfl) ?_
    refine lv_iload hx hb dL_law_1816 (lv_at hl 1 rfl) ?_
    refine lv_iconst (v := 4) hx hb dL_law_1818 (by decide) ?_
    refine lv_iadd hx hb dL_law_1819 ?_
    refine tc_sld hx hb hX hbl hbA hS hL 4 rfl (by omega) (v := (xs (i + 4))) rfl dL_law_1820 ?_
    refine va_calli (va_runV (As := [.int (xs (i + 1)), .int (xs (i + 2)), .int (xs (i + 3)), .int (xs (i + 4))]) (rest := []) ⟨hx, hb, hml, hown, hts⟩ (tX3_writeAny_n l D A cI cJ cD cC (h0, .inr (2, [.ref h1, .ref h2, .ref h3, .int (nI n), .int cd])) (h1, .inl (cC, 60, .inr (.inr (.inr (.inr (fun t8 => if t8 < n then some (ad t8) else none)))))) (h2, .inl (cI, 6, .inl ct)) (h3, .inr (1, [.ref h4])) (h4, .inl (cD, 10, .inr (.inr (.inr (.inl (fun t8 => tf_N (1023 + 2 ^ t8) 0)))))) ((o1, .inl (cJ, 1, .inr (.inl ov))) :: (o2, .inl (cD, 1, .inr (.inr (.inr (.inl od))))) :: tc_fl (tc_col cJ cD ad wd rd K Ln Wh Re) n) m0 m1 m2 m3 m4 m5 th n K Ln Wh Re cd ct H.size hI (xs (i + 1)) hc (xs (i + 2)) (xs (i + 3)) (xs (i + 4))) (cwV 4 hts gL_law_X3_writeAny rfl rfl rfl (by decide +kernel) ⟨Nat.le_of_ble_eq_true rfl, Nat.le_of_ble_eq_true rfl⟩) ⟨tcP.blind, va_recv hK hP (ci := 3) (q0 := 5) rfl rfl, tcP.go hK hP hD hE hS⟩ rfl rfl hl.1 rfl (lv_room (Nat.le_of_ble_eq_true rfl)) dL_law_1821 ⟨by show _ ≤ 601024; omega, by show _ ≤ 7293034; omega⟩) hS (fun q _ h => h) (fun q h => h) (fun r u t H locs ht hvm hw hB hz1 hk1 hS => ?_)
    subst hw
    obtain ⟨hP, hD⟩ := hB
    rw [ht] at hP
    refine lv_istore (lv' := [(7, .int 0), (6, .int 1), (5, .int (nI i)), (4, .ref o2), (3, .ref o1), (2, .ref m0), (1, .ref h0), (0, .ref b)]) hx hb dL_law_1824 hl (by decide) rfl (fun ls hl => ?_)
    refine lv_aload_n hx hb dL_law_1826 rfl (lv_at hl 5 rfl) ?_
    refine vp_callSi (tc_CR (va_runV (As := []) (rest := []) ⟨hx, hb, hml, hown, hts⟩ (tX3_thrown l D A cI cJ cD cC (h0, .inr (2, [.ref h1, .ref h2, .ref h3, .int (nI n), .int cd])) (h1, .inl (cC, 60, .inr (.inr (.inr (.inr (fun t8 => if t8 < n then some (ad t8) else none)))))) (h2, .inl (cI, 6, .inl ct)) (h3, .inr (1, [.ref h4])) (h4, .inl (cD, 10, .inr (.inr (.inr (.inl (fun t8 => tf_N (1023 + 2 ^ t8) 0)))))) ((o1, .inl (cJ, 1, .inr (.inl ov))) :: (o2, .inl (cD, 1, .inr (.inr (.inr (.inl od))))) :: tc_fl (tc_col cJ cD ad wd rd K Ln Wh Re) n) m0 m1 m2 m3 m4 m5 1 n K Ln Wh Re cd ct H.size) (cwV 0 hts gL_law_X3_thrown rfl rfl rfl (by decide +kernel) ⟨Nat.le_of_ble_eq_true rfl, Nat.le_of_ble_eq_true rfl⟩) ⟨tcP.blind, va_recv hK hP (ci := 3) (q0 := 5) rfl rfl, tcP.go hK hP hD hE hS⟩ rfl rfl hl.1 rfl (lv_room (Nat.le_of_ble_eq_true rfl)) dL_law_1827 ⟨by show _ ≤ 601024; omega, by show _ ≤ 7293034; omega⟩)) (fun r9 h9 => ?_)
    subst h9
    refine lv_iload hx hb dL_law_1830 (lv_at hl 1 rfl) ?_
    refine lv_icmp_eq (tgt := 1837) hx hb dL_law_1832 (by decide) (fun _ => ?_) (fun q => absurd (by decide) q)
    refine lv_iload hx hb dL_law_1837 (lv_at hl 1 rfl) ?_
    refine lv_if_ne (tgt := 1854) hx hb dL_law_1839 (by decide) (fun _ => ?_) (fun q => absurd q (by decide))
    refine lv_goto (tgt := 2390) hx hb dL_law_1854 (by decide) ?_
    refine W.widen (k := ce + 3) (n := sl + 44) (by omega) (by omega) ?_
    exact kc _ _ _ _ ⟨ad, wd, rd, n, K, Ln, Wh, Re, cd, ct, 1, ov, od, hdd, hI, hP, hD, hS, lv_sub hl [2, 3, 4, 5, 6, 7] rfl⟩
set_option maxHeartbeats 4000000 in
set_option maxRecDepth 100000 in
theorem law_22 {p : Program} {l : Launch} {e : Env} {s : State} {m : MethodId} {below : List Frame} {meth : Method} {c : Code} {D : va_G} {A : Nat → Prop} {cI cJ cD cC : ClassId} {h0 h1 h2 h3 h4 m0 m1 m2 m3 m4 m5 o1 o2 : Nat} {b L : Nat} {xs : Nat → Int32} {Q : State → Prop} (C0 : LCtx p l D A cI cJ cD cC s m c b L xs) {d : Drawn} {H : Heap} {locs : List Loc} {ls : Array Slot} {i ce sl : Nat} (hi : i + 6 ≤ L) (hce : ce + 3 ≤ 601024) (hsl : sl + 44 ≤ 7293034) (hv : LInv D A cI cJ cD cC h0 h1 h2 h3 h4 m0 m1 m2 m3 m4 m5 o1 o2 s b d H locs i ls) (kc : ∀ (d : Drawn) (H : Heap) (locs : List Loc) (ls : Array Slot), LInv D A cI cJ cD cC h0 h1 h2 h3 h4 m0 m1 m2 m3 m4 m5 o1 o2 s b d H locs i ls → W p l e room_1 (s.setDrawn d) m #[Value.ref b] below meth c H locs (ce + 3) (sl + 44) Q (F0 m 2390 ls [])) : W p l e room_1 (s.setDrawn d) m #[Value.ref b] below meth c H locs ce sl Q (F0 m 1857 ls []) := by
  obtain ⟨hx, hb, hml, hown0, htsB, hX0, hbl, hbA, hA, hL, hfl, hK0, hE0, hNc0⟩ := C0
  obtain ⟨ad, wd, rd, n, K, Ln, Wh, Re, cd, ct, th, ov, od, hdd, hI, hP, hD, hS, hl⟩ := hv
  have hn60 : n ≤ 60 := hI.1
  have hts := dr_words htsB d
  have hK : va_K D vwCl (tcTY cI cJ cD cC) (s.setDrawn d) := hK0
  have hE : tc_E A (s.setDrawn d) := hE0
  have hNc : tc_Nc (s.setDrawn d) := hNc0
  have hown : (s.setDrawn d).vm.findClass RL = some m.cls := hown0
  have hX : va_X b L xs (s.setDrawn d) s.heap := hX0
  rcases Classical.em (∃ j, j < n ∧ xs (i + 1) = nI j) with ⟨j, hj, ej⟩ | hc
  · rcases Classical.em (∃ j, j < n ∧ xs (i + 3) = nI j) with ⟨j2, hj2, ej2⟩ | hc2
    · refine lv_aload_n hx hb dL_law_1857 rfl (lv_at hl 4 rfl) ?_
      refine lv_aload_n hx hb dL_law_1858 rfl (lv_at hl 5 rfl) ?_
      refine lv_iload hx hb dL_law_1859 (lv_at hl 0 rfl) ?_
      refine lv_iconst (v := 1) hx hb dL_law_1861 (by decide) ?_
      refine lv_iadd hx hb dL_law_1862 ?_
      refine tc_sld hx hb hX hbl hbA hS hL 1 rfl (by omega) (v := (nI j)) ej dL_law_1863 ?_
      refine lv_aload_n hx hb dL_law_1864 rfl (lv_at hl 5 rfl) ?_
      refine lv_iload hx hb dL_law_1865 (lv_at hl 0 rfl) ?_
      refine lv_iconst (v := 2) hx hb dL_law_1867 (by decide) ?_
      refine lv_iadd hx hb dL_law_1868 ?_
      refine tc_sld hx hb hX hbl hbA hS hL 2 rfl (by omega) (v := (xs (i + 2))) rfl dL_law_1869 ?_
      refine lv_aload_n hx hb dL_law_1870 rfl (lv_at hl 5 rfl) ?_
      refine lv_iload hx hb dL_law_1871 (lv_at hl 0 rfl) ?_
      refine lv_iconst (v := 3) hx hb dL_law_1873 (by decide) ?_
      refine lv_iadd hx hb dL_law_1874 ?_
      refine tc_sld hx hb hX hbl hbA hS hL 3 rfl (by omega) (v := (nI j2)) ej2 dL_law_1875 ?_
      refine lv_aload_n hx hb dL_law_1876 rfl (lv_at hl 5 rfl) ?_
      refine lv_iload hx hb dL_law_1877 (lv_at hl 0 rfl) ?_
      refine lv_iconst (v := 4) hx hb dL_law_1879 (by decide) ?_
      refine lv_iadd hx hb dL_law_1880 ?_
      refine tc_sld hx hb hX hbl hbA hS hL 4 rfl (by omega) (v := (xs (i + 4))) rfl dL_law_1881 ?_
      refine lv_aload_n hx hb dL_law_1882 rfl (lv_at hl 5 rfl) ?_
      refine lv_iload hx hb dL_law_1883 (lv_at hl 0 rfl) ?_
      refine lv_iconst (v := 5) hx hb dL_law_1885 (by decide) ?_
      refine lv_iadd hx hb dL_law_1886 ?_
      refine tc_sld hx hb hX hbl hbA hS hL 5 rfl (by omega) (v := (xs (i + 5))) rfl dL_law_1887 ?_
      refine lv_aload_n hx hb dL_law_1888 rfl (lv_at hl 2 rfl) ?_
      refine va_calli (tc_noX (vx_runSX (As := [.ref h0, .int (nI j), .int (xs (i + 2)), .int (nI j2), .int (xs (i + 4)), .int (xs (i + 5)), .ref o1]) (rest := []) ⟨hx, hb, hml, hown, hts⟩ (lL_copy l hfl D A cI cJ cD cC h0 h1 h2 h3 h4 ad wd rd (m0, .inr (3, [.int th, .int (nI n), .ref m1, .ref m2, .ref m3, .ref m4, .int cd, .ref m5])) (m1, .inl (cI, 60, .inl K)) (m2, .inl (cI, 60, .inl (fun t8 => nI (Ln t8)))) (m3, .inl (cJ, 2400, .inr (.inl Wh))) (m4, .inl (cD, 2400, .inr (.inr (.inr (.inl Re))))) (m5, .inl (cI, 6, .inl ct)) o1 o2 ov od n K Ln Wh Re cd ct H.size hI j hj j2 hj2 (xs (i + 2)) (xs (i + 4)) (xs (i + 5))) (vx_cwSW 7 hts gL_law_L_copy rfl rfl rfl (by decide +kernel) ⟨Nat.le_of_ble_eq_true rfl, Nat.le_of_ble_eq_true rfl⟩) ⟨tcPL.blind, tcPL.go hK hP hD hE hNc hS⟩ rfl rfl hl.1 rfl (lv_room (Nat.le_of_ble_eq_true rfl)) dL_law_1889 ⟨by show _ ≤ 601024; omega, by show _ ≤ 7293034; omega⟩)) hS (fun q _ h => h) (fun q h => h) (fun r uL t H locs ht hvm hw hB hz1 hk1 hS => ?_)
      subst hw
      obtain ⟨hP, hD⟩ := hB
      rw [ht] at hP
      have hP : va_P D vwCl (tc_Z cI cJ cD (h0, .inr (2, [.ref h1, .ref h2, .ref h3, .int (nI n), .int (cpC K Ln j j2 (xs (i + 2)) (xs (i + 4)) (xs (i + 5)))])) (h1, .inl (cC, 60, .inr (.inr (.inr (.inr (fun t8 => if t8 < n then some (ad t8) else none)))))) (h2, .inl (cI, 6, .inl (noteC ct (cpC K Ln j j2 (xs (i + 2)) (xs (i + 4)) (xs (i + 5)))))) (h3, .inr (1, [.ref h4])) (h4, .inl (cD, 10, .inr (.inr (.inr (.inl (fun t8 => tf_N (1023 + 2 ^ t8) 0)))))) ((o1, .inl (cJ, 1, .inr (.inl (vp_updL ov 0 ((cpC K Ln j j2 (xs (i + 2)) (xs (i + 4)) (xs (i + 5))).toInt64))))) :: (o2, .inl (cD, 1, .inr (.inr (.inr (.inl od))))) :: tc_fl (tc_col cJ cD ad wd rd K Ln (cpW K Ln Wh j j2 (xs (i + 2)) (xs (i + 4)) (xs (i + 5))) (cpW K Ln Re j j2 (xs (i + 2)) (xs (i + 4)) (xs (i + 5)))) n) m0 m1 m2 m3 m4 m5 th n K Ln Wh Re cd ct) H := hP
      have hD : va_D A (tc_Z cI cJ cD (h0, .inr (2, [.ref h1, .ref h2, .ref h3, .int (nI n), .int (cpC K Ln j j2 (xs (i + 2)) (xs (i + 4)) (xs (i + 5)))])) (h1, .inl (cC, 60, .inr (.inr (.inr (.inr (fun t8 => if t8 < n then some (ad t8) else none)))))) (h2, .inl (cI, 6, .inl (noteC ct (cpC K Ln j j2 (xs (i + 2)) (xs (i + 4)) (xs (i + 5)))))) (h3, .inr (1, [.ref h4])) (h4, .inl (cD, 10, .inr (.inr (.inr (.inl (fun t8 => tf_N (1023 + 2 ^ t8) 0)))))) ((o1, .inl (cJ, 1, .inr (.inl (vp_updL ov 0 ((cpC K Ln j j2 (xs (i + 2)) (xs (i + 4)) (xs (i + 5))).toInt64))))) :: (o2, .inl (cD, 1, .inr (.inr (.inr (.inl od))))) :: tc_fl (tc_col cJ cD ad wd rd K Ln (cpW K Ln Wh j j2 (xs (i + 2)) (xs (i + 4)) (xs (i + 5))) (cpW K Ln Re j j2 (xs (i + 2)) (xs (i + 4)) (xs (i + 5)))) n) m0 m1 m2 m3 m4 m5 th n K Ln Wh Re cd ct) := hD
      refine lv_istore (lv' := [(6, .int 0), (5, .int (nI i)), (4, .ref o2), (3, .ref o1), (2, .ref m0), (1, .ref h0), (0, .ref b)]) hx hb dL_law_1892 hl (by decide) rfl (fun ls hl => ?_)
      refine lv_aload_n hx hb dL_law_1894 rfl (lv_at hl 4 rfl) ?_
      refine lv_aload_n hx hb dL_law_1895 rfl (lv_at hl 6 rfl) ?_
      refine lv_iload hx hb dL_law_1896 (lv_at hl 1 rfl) ?_
      refine lv_iconst (v := 1) hx hb dL_law_1898 (by decide) ?_
      refine lv_iadd hx hb dL_law_1899 ?_
      refine tc_sld hx hb hX hbl hbA hS hL 1 rfl (by omega) (v := (nI j)) ej dL_law_1900 ?_
      refine lv_aload_n hx hb dL_law_1901 rfl (lv_at hl 6 rfl) ?_
      refine lv_iload hx hb dL_law_1902 (lv_at hl 1 rfl) ?_
      refine lv_iconst (v := 2) hx hb dL_law_1904 (by decide) ?_
      refine lv_iadd hx hb dL_law_1905 ?_
      refine tc_sld hx hb hX hbl hbA hS hL 2 rfl (by omega) (v := (xs (i + 2))) rfl dL_law_1906 ?_
      refine lv_aload_n hx hb dL_law_1907 rfl (lv_at hl 6 rfl) ?_
      refine lv_iload hx hb dL_law_1908 (lv_at hl 1 rfl) ?_
      refine lv_iconst (v := 3) hx hb dL_law_1910 (by decide) ?_
      refine lv_iadd hx hb dL_law_1911 ?_
      refine tc_sld hx hb hX hbl hbA hS hL 3 rfl (by omega) (v := (nI j2)) ej2 dL_law_1912 ?_
      refine lv_aload_n hx hb dL_law_1913 rfl (lv_at hl 6 rfl) ?_
      refine lv_iload hx hb dL_law_1914 (lv_at hl 1 rfl) ?_
      refine lv_iconst (v := 4) hx hb dL_law_1916 (by decide) ?_
      refine lv_iadd hx hb dL_law_1917 ?_
      refine tc_sld hx hb hX hbl hbA hS hL 4 rfl (by omega) (v := (xs (i + 4))) rfl dL_law_1918 ?_
      refine lv_aload_n hx hb dL_law_1919 rfl (lv_at hl 6 rfl) ?_
      refine lv_iload hx hb dL_law_1920 (lv_at hl 1 rfl) ?_
      refine lv_iconst (v := 5) hx hb dL_law_1922 (by decide) ?_
      refine lv_iadd hx hb dL_law_1923 ?_
      refine tc_sld hx hb hX hbl hbA hS hL 5 rfl (by omega) (v := (xs (i + 5))) rfl dL_law_1924 ?_
      refine va_calli (va_runV (As := [.int (nI j), .int (xs (i + 2)), .int (nI j2), .int (xs (i + 4)), .int (xs (i + 5))]) (rest := []) ⟨hx, hb, hml, hown, hts⟩ (tX3_copy_y l D A cI cJ cD cC (h0, .inr (2, [.ref h1, .ref h2, .ref h3, .int (nI n), .int (cpC K Ln j j2 (xs (i + 2)) (xs (i + 4)) (xs (i + 5)))])) (h1, .inl (cC, 60, .inr (.inr (.inr (.inr (fun t8 => if t8 < n then some (ad t8) else none)))))) (h2, .inl (cI, 6, .inl (noteC ct (cpC K Ln j j2 (xs (i + 2)) (xs (i + 4)) (xs (i + 5)))))) (h3, .inr (1, [.ref h4])) (h4, .inl (cD, 10, .inr (.inr (.inr (.inl (fun t8 => tf_N (1023 + 2 ^ t8) 0)))))) ((o1, .inl (cJ, 1, .inr (.inl (vp_updL ov 0 ((cpC K Ln j j2 (xs (i + 2)) (xs (i + 4)) (xs (i + 5))).toInt64))))) :: (o2, .inl (cD, 1, .inr (.inr (.inr (.inl od))))) :: tc_fl (tc_col cJ cD ad wd rd K Ln (cpW K Ln Wh j j2 (xs (i + 2)) (xs (i + 4)) (xs (i + 5))) (cpW K Ln Re j j2 (xs (i + 2)) (xs (i + 4)) (xs (i + 5)))) n) m0 m1 m2 m3 m4 m5 th n K Ln Wh Re cd ct H.size hI j hj j2 hj2 (xs (i + 2)) (xs (i + 4)) (xs (i + 5))) (cwV 5 hts gL_law_X3_copy rfl rfl rfl (by decide +kernel) ⟨Nat.le_of_ble_eq_true rfl, Nat.le_of_ble_eq_true rfl⟩) ⟨tcP.blind, va_recv hK hP (ci := 3) (q0 := 5) rfl rfl, tcP.go hK hP hD hE hS⟩ rfl rfl hl.1 rfl (lv_room (Nat.le_of_ble_eq_true rfl)) dL_law_1925 ⟨by show _ ≤ 601024; omega, by show _ ≤ 7293034; omega⟩) hS (fun q _ h => h) (fun q h => h) (fun r u t H locs ht hvm hw hB hz1 hk1 hS => ?_)
      subst hw
      obtain ⟨hP, hD⟩ := hB
      rw [ht] at hP
      refine lv_istore (lv' := [(7, .int (cpC K Ln j j2 (xs (i + 2)) (xs (i + 4)) (xs (i + 5)))), (6, .int 0), (5, .int (nI i)), (4, .ref o2), (3, .ref o1), (2, .ref m0), (1, .ref h0), (0, .ref b)]) hx hb dL_law_1928 hl (by decide) rfl (fun ls hl => ?_)
      refine lv_aload_n hx hb dL_law_1930 rfl (lv_at hl 5 rfl) ?_
      refine vp_callSi (tc_CR (va_runV (As := []) (rest := []) ⟨hx, hb, hml, hown, hts⟩ (tX3_thrown l D A cI cJ cD cC (h0, .inr (2, [.ref h1, .ref h2, .ref h3, .int (nI n), .int (cpC K Ln j j2 (xs (i + 2)) (xs (i + 4)) (xs (i + 5)))])) (h1, .inl (cC, 60, .inr (.inr (.inr (.inr (fun t8 => if t8 < n then some (ad t8) else none)))))) (h2, .inl (cI, 6, .inl (noteC ct (cpC K Ln j j2 (xs (i + 2)) (xs (i + 4)) (xs (i + 5)))))) (h3, .inr (1, [.ref h4])) (h4, .inl (cD, 10, .inr (.inr (.inr (.inl (fun t8 => tf_N (1023 + 2 ^ t8) 0)))))) ((o1, .inl (cJ, 1, .inr (.inl (vp_updL ov 0 ((cpC K Ln j j2 (xs (i + 2)) (xs (i + 4)) (xs (i + 5))).toInt64))))) :: (o2, .inl (cD, 1, .inr (.inr (.inr (.inl od))))) :: tc_fl (tc_col cJ cD ad wd rd K Ln (cpW K Ln Wh j j2 (xs (i + 2)) (xs (i + 4)) (xs (i + 5))) (cpW K Ln Re j j2 (xs (i + 2)) (xs (i + 4)) (xs (i + 5)))) n) m0 m1 m2 m3 m4 m5 0 n K Ln (cpW K Ln Wh j j2 (xs (i + 2)) (xs (i + 4)) (xs (i + 5))) (cpW K Ln Re j j2 (xs (i + 2)) (xs (i + 4)) (xs (i + 5))) (cpC K Ln j j2 (xs (i + 2)) (xs (i + 4)) (xs (i + 5))) (noteC ct (cpC K Ln j j2 (xs (i + 2)) (xs (i + 4)) (xs (i + 5)))) H.size) (cwV 0 hts gL_law_X3_thrown rfl rfl rfl (by decide +kernel) ⟨Nat.le_of_ble_eq_true rfl, Nat.le_of_ble_eq_true rfl⟩) ⟨tcP.blind, va_recv hK hP (ci := 3) (q0 := 5) rfl rfl, tcP.go hK hP hD hE hS⟩ rfl rfl hl.1 rfl (lv_room (Nat.le_of_ble_eq_true rfl)) dL_law_1931 ⟨by show _ ≤ 601024; omega, by show _ ≤ 7293034; omega⟩)) (fun r9 h9 => ?_)
      subst h9
      refine lv_iload hx hb dL_law_1934 (lv_at hl 1 rfl) ?_
      refine lv_icmp_eq (tgt := 1941) hx hb dL_law_1936 (by decide) (fun _ => ?_) (fun q => absurd (by decide) q)
      refine lv_iload hx hb dL_law_1941 (lv_at hl 1 rfl) ?_
      refine lv_if_ne (tgt := 1958) hx hb dL_law_1943 (by decide) (fun q => absurd (by decide) q) (fun _ => ?_)
      refine lv_aload_n hx hb dL_law_1946 rfl (lv_at hl 4 rfl) ?_
      refine lv_iconst (v := 0) hx hb dL_law_1947 (by decide) ?_
      refine tc_lald (f := (vp_updL ov 0 ((cpC K Ln j j2 (xs (i + 2)) (xs (i + 4)) (xs (i + 5))).toInt64))) (v := (cpC K Ln j j2 (xs (i + 2)) (xs (i + 4)) (xs (i + 5))).toInt64) hx hb hK hP 11 1 rfl rfl (by unfold vp_in; decide) (show (vp_updL ov 0 ((cpC K Ln j j2 (xs (i + 2)) (xs (i + 4)) (xs (i + 5))).toInt64)) 0 = (cpC K Ln j j2 (xs (i + 2)) (xs (i + 4)) (xs (i + 5))).toInt64 from if_pos rfl) dL_law_1948 ?_
      refine lv_iload hx hb dL_law_1949 (lv_at hl 0 rfl) ?_
      refine lv_i2l (v := (cpC K Ln j j2 (xs (i + 2)) (xs (i + 4)) (xs (i + 5))).toInt64) hx hb dL_law_1951 rfl ?_
      refine W.lcmp hx hb dL_law_1952 ?_
      refine lv_if_eq (tgt := 1958) hx hb dL_law_1953 (by decide) (fun _ => ?_) (fun q => absurd ((lg_cmp_eq _ _).mpr rfl) q)
      refine lv_goto (tgt := 2390) hx hb dL_law_1958 (by decide) ?_
      refine W.widen (k := ce + 3) (n := sl + 44) (by omega) (by omega) ?_
      exact kc _ _ _ _ ⟨ad, wd, rd, n, K, Ln, (cpW K Ln Wh j j2 (xs (i + 2)) (xs (i + 4)) (xs (i + 5))), (cpW K Ln Re j j2 (xs (i + 2)) (xs (i + 4)) (xs (i + 5))), (cpC K Ln j j2 (xs (i + 2)) (xs (i + 4)) (xs (i + 5))), (noteC ct (cpC K Ln j j2 (xs (i + 2)) (xs (i + 4)) (xs (i + 5)))), 0, (vp_updL ov 0 ((cpC K Ln j j2 (xs (i + 2)) (xs (i + 4)) (xs (i + 5))).toInt64)), od, hdd, (tcI_c hI hj hj2 _ _ _), hP, hD, hS, lv_sub hl [2, 3, 4, 5, 6, 7] rfl⟩
    · refine lv_aload_n hx hb dL_law_1857 rfl (lv_at hl 4 rfl) ?_
      refine lv_aload_n hx hb dL_law_1858 rfl (lv_at hl 5 rfl) ?_
      refine lv_iload hx hb dL_law_1859 (lv_at hl 0 rfl) ?_
      refine lv_iconst (v := 1) hx hb dL_law_1861 (by decide) ?_
      refine lv_iadd hx hb dL_law_1862 ?_
      refine tc_sld hx hb hX hbl hbA hS hL 1 rfl (by omega) (v := (nI j)) ej dL_law_1863 ?_
      refine lv_aload_n hx hb dL_law_1864 rfl (lv_at hl 5 rfl) ?_
      refine lv_iload hx hb dL_law_1865 (lv_at hl 0 rfl) ?_
      refine lv_iconst (v := 2) hx hb dL_law_1867 (by decide) ?_
      refine lv_iadd hx hb dL_law_1868 ?_
      refine tc_sld hx hb hX hbl hbA hS hL 2 rfl (by omega) (v := (xs (i + 2))) rfl dL_law_1869 ?_
      refine lv_aload_n hx hb dL_law_1870 rfl (lv_at hl 5 rfl) ?_
      refine lv_iload hx hb dL_law_1871 (lv_at hl 0 rfl) ?_
      refine lv_iconst (v := 3) hx hb dL_law_1873 (by decide) ?_
      refine lv_iadd hx hb dL_law_1874 ?_
      refine tc_sld hx hb hX hbl hbA hS hL 3 rfl (by omega) (v := (xs (i + 3))) rfl dL_law_1875 ?_
      refine lv_aload_n hx hb dL_law_1876 rfl (lv_at hl 5 rfl) ?_
      refine lv_iload hx hb dL_law_1877 (lv_at hl 0 rfl) ?_
      refine lv_iconst (v := 4) hx hb dL_law_1879 (by decide) ?_
      refine lv_iadd hx hb dL_law_1880 ?_
      refine tc_sld hx hb hX hbl hbA hS hL 4 rfl (by omega) (v := (xs (i + 4))) rfl dL_law_1881 ?_
      refine lv_aload_n hx hb dL_law_1882 rfl (lv_at hl 5 rfl) ?_
      refine lv_iload hx hb dL_law_1883 (lv_at hl 0 rfl) ?_
      refine lv_iconst (v := 5) hx hb dL_law_1885 (by decide) ?_
      refine lv_iadd hx hb dL_law_1886 ?_
      refine tc_sld hx hb hX hbl hbA hS hL 5 rfl (by omega) (v := (xs (i + 5))) rfl dL_law_1887 ?_
      refine lv_aload_n hx hb dL_law_1888 rfl (lv_at hl 2 rfl) ?_
      refine va_calli (tc_noX (vx_runSX (As := [.ref h0, .int (nI j), .int (xs (i + 2)), .int (xs (i + 3)), .int (xs (i + 4)), .int (xs (i + 5)), .ref o1]) (rest := []) ⟨hx, hb, hml, hown, hts⟩ (lLn_copy2 l hfl D A cI cJ cD cC h0 h1 h2 h3 h4 ad wd rd (m0, .inr (3, [.int th, .int (nI n), .ref m1, .ref m2, .ref m3, .ref m4, .int cd, .ref m5])) (m1, .inl (cI, 60, .inl K)) (m2, .inl (cI, 60, .inl (fun t8 => nI (Ln t8)))) (m3, .inl (cJ, 2400, .inr (.inl Wh))) (m4, .inl (cD, 2400, .inr (.inr (.inr (.inl Re))))) (m5, .inl (cI, 6, .inl ct)) o1 o2 ov od n K Ln Wh Re cd ct H.size hn60 j hj (xs (i + 2)) (xs (i + 3)) (xs (i + 4)) (xs (i + 5)) hc2) (vx_cwSW 7 hts gL_law_L_copy rfl rfl rfl (by decide +kernel) ⟨Nat.le_of_ble_eq_true rfl, Nat.le_of_ble_eq_true rfl⟩) ⟨tcPL.blind, tcPL.go hK hP hD hE hNc hS⟩ rfl rfl hl.1 rfl (lv_room (Nat.le_of_ble_eq_true rfl)) dL_law_1889 ⟨by show _ ≤ 601024; omega, by show _ ≤ 7293034; omega⟩)) hS (fun q _ h => h) (fun q h => h) (fun r uL t H locs ht hvm hw hB hz1 hk1 hS => ?_)
      subst hw
      obtain ⟨hP, hD⟩ := hB
      rw [ht] at hP
      have hP : va_P D vwCl (tc_Z cI cJ cD (h0, .inr (2, [.ref h1, .ref h2, .ref h3, .int (nI n), .int cd])) (h1, .inl (cC, 60, .inr (.inr (.inr (.inr (fun t8 => if t8 < n then some (ad t8) else none)))))) (h2, .inl (cI, 6, .inl ct)) (h3, .inr (1, [.ref h4])) (h4, .inl (cD, 10, .inr (.inr (.inr (.inl (fun t8 => tf_N (1023 + 2 ^ t8) 0)))))) ((o1, .inl (cJ, 1, .inr (.inl ov))) :: (o2, .inl (cD, 1, .inr (.inr (.inr (.inl od))))) :: tc_fl (tc_col cJ cD ad wd rd K Ln Wh Re) n) m0 m1 m2 m3 m4 m5 th n K Ln Wh Re cd ct) H := hP
      have hD : va_D A (tc_Z cI cJ cD (h0, .inr (2, [.ref h1, .ref h2, .ref h3, .int (nI n), .int cd])) (h1, .inl (cC, 60, .inr (.inr (.inr (.inr (fun t8 => if t8 < n then some (ad t8) else none)))))) (h2, .inl (cI, 6, .inl ct)) (h3, .inr (1, [.ref h4])) (h4, .inl (cD, 10, .inr (.inr (.inr (.inl (fun t8 => tf_N (1023 + 2 ^ t8) 0)))))) ((o1, .inl (cJ, 1, .inr (.inl ov))) :: (o2, .inl (cD, 1, .inr (.inr (.inr (.inl od))))) :: tc_fl (tc_col cJ cD ad wd rd K Ln Wh Re) n) m0 m1 m2 m3 m4 m5 th n K Ln Wh Re cd ct) := hD
      refine lv_istore (lv' := [(6, .int 1), (5, .int (nI i)), (4, .ref o2), (3, .ref o1), (2, .ref m0), (1, .ref h0), (0, .ref b)]) hx hb dL_law_1892 hl (by decide) rfl (fun ls hl => ?_)
      refine lv_aload_n hx hb dL_law_1894 rfl (lv_at hl 4 rfl) ?_
      refine lv_aload_n hx hb dL_law_1895 rfl (lv_at hl 6 rfl) ?_
      refine lv_iload hx hb dL_law_1896 (lv_at hl 1 rfl) ?_
      refine lv_iconst (v := 1) hx hb dL_law_1898 (by decide) ?_
      refine lv_iadd hx hb dL_law_1899 ?_
      refine tc_sld hx hb hX hbl hbA hS hL 1 rfl (by omega) (v := (nI j)) ej dL_law_1900 ?_
      refine lv_aload_n hx hb dL_law_1901 rfl (lv_at hl 6 rfl) ?_
      refine lv_iload hx hb dL_law_1902 (lv_at hl 1 rfl) ?_
      refine lv_iconst (v := 2) hx hb dL_law_1904 (by decide) ?_
      refine lv_iadd hx hb dL_law_1905 ?_
      refine tc_sld hx hb hX hbl hbA hS hL 2 rfl (by omega) (v := (xs (i + 2))) rfl dL_law_1906 ?_
      refine lv_aload_n hx hb dL_law_1907 rfl (lv_at hl 6 rfl) ?_
      refine lv_iload hx hb dL_law_1908 (lv_at hl 1 rfl) ?_
      refine lv_iconst (v := 3) hx hb dL_law_1910 (by decide) ?_
      refine lv_iadd hx hb dL_law_1911 ?_
      refine tc_sld hx hb hX hbl hbA hS hL 3 rfl (by omega) (v := (xs (i + 3))) rfl dL_law_1912 ?_
      refine lv_aload_n hx hb dL_law_1913 rfl (lv_at hl 6 rfl) ?_
      refine lv_iload hx hb dL_law_1914 (lv_at hl 1 rfl) ?_
      refine lv_iconst (v := 4) hx hb dL_law_1916 (by decide) ?_
      refine lv_iadd hx hb dL_law_1917 ?_
      refine tc_sld hx hb hX hbl hbA hS hL 4 rfl (by omega) (v := (xs (i + 4))) rfl dL_law_1918 ?_
      refine lv_aload_n hx hb dL_law_1919 rfl (lv_at hl 6 rfl) ?_
      refine lv_iload hx hb dL_law_1920 (lv_at hl 1 rfl) ?_
      refine lv_iconst (v := 5) hx hb dL_law_1922 (by decide) ?_
      refine lv_iadd hx hb dL_law_1923 ?_
      refine tc_sld hx hb hX hbl hbA hS hL 5 rfl (by omega) (v := (xs (i + 5))) rfl dL_law_1924 ?_
      refine va_calli (va_runV (As := [.int (nI j), .int (xs (i + 2)), .int (xs (i + 3)), .int (xs (i + 4)), .int (xs (i + 5))]) (rest := []) ⟨hx, hb, hml, hown, hts⟩ (tX3_copy_n2 l D A cI cJ cD cC (h0, .inr (2, [.ref h1, .ref h2, .ref h3, .int (nI n), .int cd])) (h1, .inl (cC, 60, .inr (.inr (.inr (.inr (fun t8 => if t8 < n then some (ad t8) else none)))))) (h2, .inl (cI, 6, .inl ct)) (h3, .inr (1, [.ref h4])) (h4, .inl (cD, 10, .inr (.inr (.inr (.inl (fun t8 => tf_N (1023 + 2 ^ t8) 0)))))) ((o1, .inl (cJ, 1, .inr (.inl ov))) :: (o2, .inl (cD, 1, .inr (.inr (.inr (.inl od))))) :: tc_fl (tc_col cJ cD ad wd rd K Ln Wh Re) n) m0 m1 m2 m3 m4 m5 th n K Ln Wh Re cd ct H.size hI j hj (xs (i + 2)) (xs (i + 3)) (xs (i + 4)) (xs (i + 5)) hc2) (cwV 5 hts gL_law_X3_copy rfl rfl rfl (by decide +kernel) ⟨Nat.le_of_ble_eq_true rfl, Nat.le_of_ble_eq_true rfl⟩) ⟨tcP.blind, va_recv hK hP (ci := 3) (q0 := 5) rfl rfl, tcP.go hK hP hD hE hS⟩ rfl rfl hl.1 rfl (lv_room (Nat.le_of_ble_eq_true rfl)) dL_law_1925 ⟨by show _ ≤ 601024; omega, by show _ ≤ 7293034; omega⟩) hS (fun q _ h => h) (fun q h => h) (fun r u t H locs ht hvm hw hB hz1 hk1 hS => ?_)
      subst hw
      obtain ⟨hP, hD⟩ := hB
      rw [ht] at hP
      refine lv_istore (lv' := [(7, .int 0), (6, .int 1), (5, .int (nI i)), (4, .ref o2), (3, .ref o1), (2, .ref m0), (1, .ref h0), (0, .ref b)]) hx hb dL_law_1928 hl (by decide) rfl (fun ls hl => ?_)
      refine lv_aload_n hx hb dL_law_1930 rfl (lv_at hl 5 rfl) ?_
      refine vp_callSi (tc_CR (va_runV (As := []) (rest := []) ⟨hx, hb, hml, hown, hts⟩ (tX3_thrown l D A cI cJ cD cC (h0, .inr (2, [.ref h1, .ref h2, .ref h3, .int (nI n), .int cd])) (h1, .inl (cC, 60, .inr (.inr (.inr (.inr (fun t8 => if t8 < n then some (ad t8) else none)))))) (h2, .inl (cI, 6, .inl ct)) (h3, .inr (1, [.ref h4])) (h4, .inl (cD, 10, .inr (.inr (.inr (.inl (fun t8 => tf_N (1023 + 2 ^ t8) 0)))))) ((o1, .inl (cJ, 1, .inr (.inl ov))) :: (o2, .inl (cD, 1, .inr (.inr (.inr (.inl od))))) :: tc_fl (tc_col cJ cD ad wd rd K Ln Wh Re) n) m0 m1 m2 m3 m4 m5 1 n K Ln Wh Re cd ct H.size) (cwV 0 hts gL_law_X3_thrown rfl rfl rfl (by decide +kernel) ⟨Nat.le_of_ble_eq_true rfl, Nat.le_of_ble_eq_true rfl⟩) ⟨tcP.blind, va_recv hK hP (ci := 3) (q0 := 5) rfl rfl, tcP.go hK hP hD hE hS⟩ rfl rfl hl.1 rfl (lv_room (Nat.le_of_ble_eq_true rfl)) dL_law_1931 ⟨by show _ ≤ 601024; omega, by show _ ≤ 7293034; omega⟩)) (fun r9 h9 => ?_)
      subst h9
      refine lv_iload hx hb dL_law_1934 (lv_at hl 1 rfl) ?_
      refine lv_icmp_eq (tgt := 1941) hx hb dL_law_1936 (by decide) (fun _ => ?_) (fun q => absurd (by decide) q)
      refine lv_iload hx hb dL_law_1941 (lv_at hl 1 rfl) ?_
      refine lv_if_ne (tgt := 1958) hx hb dL_law_1943 (by decide) (fun _ => ?_) (fun q => absurd q (by decide))
      refine lv_goto (tgt := 2390) hx hb dL_law_1958 (by decide) ?_
      refine W.widen (k := ce + 3) (n := sl + 44) (by omega) (by omega) ?_
      exact kc _ _ _ _ ⟨ad, wd, rd, n, K, Ln, Wh, Re, cd, ct, 1, ov, od, hdd, hI, hP, hD, hS, lv_sub hl [2, 3, 4, 5, 6, 7] rfl⟩
  · refine lv_aload_n hx hb dL_law_1857 rfl (lv_at hl 4 rfl) ?_
    refine lv_aload_n hx hb dL_law_1858 rfl (lv_at hl 5 rfl) ?_
    refine lv_iload hx hb dL_law_1859 (lv_at hl 0 rfl) ?_
    refine lv_iconst (v := 1) hx hb dL_law_1861 (by decide) ?_
    refine lv_iadd hx hb dL_law_1862 ?_
    refine tc_sld hx hb hX hbl hbA hS hL 1 rfl (by omega) (v := (xs (i + 1))) rfl dL_law_1863 ?_
    refine lv_aload_n hx hb dL_law_1864 rfl (lv_at hl 5 rfl) ?_
    refine lv_iload hx hb dL_law_1865 (lv_at hl 0 rfl) ?_
    refine lv_iconst (v := 2) hx hb dL_law_1867 (by decide) ?_
    refine lv_iadd hx hb dL_law_1868 ?_
    refine tc_sld hx hb hX hbl hbA hS hL 2 rfl (by omega) (v := (xs (i + 2))) rfl dL_law_1869 ?_
    refine lv_aload_n hx hb dL_law_1870 rfl (lv_at hl 5 rfl) ?_
    refine lv_iload hx hb dL_law_1871 (lv_at hl 0 rfl) ?_
    refine lv_iconst (v := 3) hx hb dL_law_1873 (by decide) ?_
    refine lv_iadd hx hb dL_law_1874 ?_
    refine tc_sld hx hb hX hbl hbA hS hL 3 rfl (by omega) (v := (xs (i + 3))) rfl dL_law_1875 ?_
    refine lv_aload_n hx hb dL_law_1876 rfl (lv_at hl 5 rfl) ?_
    refine lv_iload hx hb dL_law_1877 (lv_at hl 0 rfl) ?_
    refine lv_iconst (v := 4) hx hb dL_law_1879 (by decide) ?_
    refine lv_iadd hx hb dL_law_1880 ?_
    refine tc_sld hx hb hX hbl hbA hS hL 4 rfl (by omega) (v := (xs (i + 4))) rfl dL_law_1881 ?_
    refine lv_aload_n hx hb dL_law_1882 rfl (lv_at hl 5 rfl) ?_
    refine lv_iload hx hb dL_law_1883 (lv_at hl 0 rfl) ?_
    refine lv_iconst (v := 5) hx hb dL_law_1885 (by decide) ?_
    refine lv_iadd hx hb dL_law_1886 ?_
    refine tc_sld hx hb hX hbl hbA hS hL 5 rfl (by omega) (v := (xs (i + 5))) rfl dL_law_1887 ?_
    refine lv_aload_n hx hb dL_law_1888 rfl (lv_at hl 2 rfl) ?_
    refine va_calli (tc_noX (vx_runSX (As := [.ref h0, .int (xs (i + 1)), .int (xs (i + 2)), .int (xs (i + 3)), .int (xs (i + 4)), .int (xs (i + 5)), .ref o1]) (rest := []) ⟨hx, hb, hml, hown, hts⟩ (lLn_copy l hfl D A cI cJ cD cC h0 h1 h2 h3 h4 ad wd rd (m0, .inr (3, [.int th, .int (nI n), .ref m1, .ref m2, .ref m3, .ref m4, .int cd, .ref m5])) (m1, .inl (cI, 60, .inl K)) (m2, .inl (cI, 60, .inl (fun t8 => nI (Ln t8)))) (m3, .inl (cJ, 2400, .inr (.inl Wh))) (m4, .inl (cD, 2400, .inr (.inr (.inr (.inl Re))))) (m5, .inl (cI, 6, .inl ct)) o1 o2 ov od n K Ln Wh Re cd ct H.size hn60 (xs (i + 1)) hc (xs (i + 2)) (xs (i + 3)) (xs (i + 4)) (xs (i + 5))) (vx_cwSW 7 hts gL_law_L_copy rfl rfl rfl (by decide +kernel) ⟨Nat.le_of_ble_eq_true rfl, Nat.le_of_ble_eq_true rfl⟩) ⟨tcPL.blind, tcPL.go hK hP hD hE hNc hS⟩ rfl rfl hl.1 rfl (lv_room (Nat.le_of_ble_eq_true rfl)) dL_law_1889 ⟨by show _ ≤ 601024; omega, by show _ ≤ 7293034; omega⟩)) hS (fun q _ h => h) (fun q h => h) (fun r uL t H locs ht hvm hw hB hz1 hk1 hS => ?_)
    subst hw
    obtain ⟨hP, hD⟩ := hB
    rw [ht] at hP
    have hP : va_P D vwCl (tc_Z cI cJ cD (h0, .inr (2, [.ref h1, .ref h2, .ref h3, .int (nI n), .int cd])) (h1, .inl (cC, 60, .inr (.inr (.inr (.inr (fun t8 => if t8 < n then some (ad t8) else none)))))) (h2, .inl (cI, 6, .inl ct)) (h3, .inr (1, [.ref h4])) (h4, .inl (cD, 10, .inr (.inr (.inr (.inl (fun t8 => tf_N (1023 + 2 ^ t8) 0)))))) ((o1, .inl (cJ, 1, .inr (.inl ov))) :: (o2, .inl (cD, 1, .inr (.inr (.inr (.inl od))))) :: tc_fl (tc_col cJ cD ad wd rd K Ln Wh Re) n) m0 m1 m2 m3 m4 m5 th n K Ln Wh Re cd ct) H := hP
    have hD : va_D A (tc_Z cI cJ cD (h0, .inr (2, [.ref h1, .ref h2, .ref h3, .int (nI n), .int cd])) (h1, .inl (cC, 60, .inr (.inr (.inr (.inr (fun t8 => if t8 < n then some (ad t8) else none)))))) (h2, .inl (cI, 6, .inl ct)) (h3, .inr (1, [.ref h4])) (h4, .inl (cD, 10, .inr (.inr (.inr (.inl (fun t8 => tf_N (1023 + 2 ^ t8) 0)))))) ((o1, .inl (cJ, 1, .inr (.inl ov))) :: (o2, .inl (cD, 1, .inr (.inr (.inr (.inl od))))) :: tc_fl (tc_col cJ cD ad wd rd K Ln Wh Re) n) m0 m1 m2 m3 m4 m5 th n K Ln Wh Re cd ct) := hD
    refine lv_istore (lv' := [(6, .int 1), (5, .int (nI i)), (4, .ref o2), (3, .ref o1), (2, .ref m0), (1, .ref h0), (0, .ref b)]) hx hb dL_law_1892 hl (by decide) rfl (fun ls hl => ?_)
    refine lv_aload_n hx hb dL_law_1894 rfl (lv_at hl 4 rfl) ?_
    refine lv_aload_n hx hb dL_law_1895 rfl (lv_at hl 6 rfl) ?_
    refine lv_iload hx hb dL_law_1896 (lv_at hl 1 rfl) ?_
    refine lv_iconst (v := 1) hx hb dL_law_1898 (by decide) ?_
    refine lv_iadd hx hb dL_law_1899 ?_
    refine tc_sld hx hb hX hbl hbA hS hL 1 rfl (by omega) (v := (xs (i + 1))) rfl dL_law_1900 ?_
    refine lv_aload_n hx hb dL_law_1901 rfl (lv_at hl 6 rfl) ?_
    refine lv_iload hx hb dL_law_1902 (lv_at hl 1 rfl) ?_
    refine lv_iconst (v := 2) hx hb dL_law_1904 (by decide) ?_
    refine lv_iadd hx hb dL_law_1905 ?_
    refine tc_sld hx hb hX hbl hbA hS hL 2 rfl (by omega) (v := (xs (i + 2))) rfl dL_law_1906 ?_
    refine lv_aload_n hx hb dL_law_1907 rfl (lv_at hl 6 rfl) ?_
    refine lv_iload hx hb dL_law_1908 (lv_at hl 1 rfl) ?_
    refine lv_iconst (v := 3) hx hb dL_law_1910 (by decide) ?_
    refine lv_iadd hx hb dL_law_1911 ?_
    refine tc_sld hx hb hX hbl hbA hS hL 3 rfl (by omega) (v := (xs (i + 3))) rfl dL_law_1912 ?_
    refine lv_aload_n hx hb dL_law_1913 rfl (lv_at hl 6 rfl) ?_
    refine lv_iload hx hb dL_law_1914 (lv_at hl 1 rfl) ?_
    refine lv_iconst (v := 4) hx hb dL_law_1916 (by decide) ?_
    refine lv_iadd hx hb dL_law_1917 ?_
    refine tc_sld hx hb hX hbl hbA hS hL 4 rfl (by omega) (v := (xs (i + 4))) rfl dL_law_1918 ?_
    refine lv_aload_n hx hb dL_law_1919 rfl (lv_at hl 6 rfl) ?_
    refine lv_iload hx hb dL_law_1920 (lv_at hl 1 rfl) ?_
    refine lv_iconst (v := 5) hx hb dL_law_1922 (by decide) ?_
    refine lv_iadd hx hb dL_law_1923 ?_
    refine tc_sld hx hb hX hbl hbA hS hL 5 rfl (by omega) (v := (xs (i + 5))) rfl dL_law_1924 ?_
    refine va_calli (va_runV (As := [.int (xs (i + 1)), .int (xs (i + 2)), .int (xs (i + 3)), .int (xs (i + 4)), .int (xs (i + 5))]) (rest := []) ⟨hx, hb, hml, hown, hts⟩ (tX3_copy_n1 l D A cI cJ cD cC (h0, .inr (2, [.ref h1, .ref h2, .ref h3, .int (nI n), .int cd])) (h1, .inl (cC, 60, .inr (.inr (.inr (.inr (fun t8 => if t8 < n then some (ad t8) else none)))))) (h2, .inl (cI, 6, .inl ct)) (h3, .inr (1, [.ref h4])) (h4, .inl (cD, 10, .inr (.inr (.inr (.inl (fun t8 => tf_N (1023 + 2 ^ t8) 0)))))) ((o1, .inl (cJ, 1, .inr (.inl ov))) :: (o2, .inl (cD, 1, .inr (.inr (.inr (.inl od))))) :: tc_fl (tc_col cJ cD ad wd rd K Ln Wh Re) n) m0 m1 m2 m3 m4 m5 th n K Ln Wh Re cd ct H.size hI (xs (i + 1)) hc (xs (i + 2)) (xs (i + 3)) (xs (i + 4)) (xs (i + 5))) (cwV 5 hts gL_law_X3_copy rfl rfl rfl (by decide +kernel) ⟨Nat.le_of_ble_eq_true rfl, Nat.le_of_ble_eq_true rfl⟩) ⟨tcP.blind, va_recv hK hP (ci := 3) (q0 := 5) rfl rfl, tcP.go hK hP hD hE hS⟩ rfl rfl hl.1 rfl (lv_room (Nat.le_of_ble_eq_true rfl)) dL_law_1925 ⟨by show _ ≤ 601024; omega, by show _ ≤ 7293034; omega⟩) hS (fun q _ h => h) (fun q h => h) (fun r u t H locs ht hvm hw hB hz1 hk1 hS => ?_)
    subst hw
    obtain ⟨hP, hD⟩ := hB
    rw [ht] at hP
    refine lv_istore (lv' := [(7, .int 0), (6, .int 1), (5, .int (nI i)), (4, .ref o2), (3, .ref o1), (2, .ref m0), (1, .ref h0), (0, .ref b)]) hx hb dL_law_1928 hl (by decide) rfl (fun ls hl => ?_)
    refine lv_aload_n hx hb dL_law_1930 rfl (lv_at hl 5 rfl) ?_
    refine vp_callSi (tc_CR (va_runV (As := []) (rest := []) ⟨hx, hb, hml, hown, hts⟩ (tX3_thrown l D A cI cJ cD cC (h0, .inr (2, [.ref h1, .ref h2, .ref h3, .int (nI n), .int cd])) (h1, .inl (cC, 60, .inr (.inr (.inr (.inr (fun t8 => if t8 < n then some (ad t8) else none)))))) (h2, .inl (cI, 6, .inl ct)) (h3, .inr (1, [.ref h4])) (h4, .inl (cD, 10, .inr (.inr (.inr (.inl (fun t8 => tf_N (1023 + 2 ^ t8) 0)))))) ((o1, .inl (cJ, 1, .inr (.inl ov))) :: (o2, .inl (cD, 1, .inr (.inr (.inr (.inl od))))) :: tc_fl (tc_col cJ cD ad wd rd K Ln Wh Re) n) m0 m1 m2 m3 m4 m5 1 n K Ln Wh Re cd ct H.size) (cwV 0 hts gL_law_X3_thrown rfl rfl rfl (by decide +kernel) ⟨Nat.le_of_ble_eq_true rfl, Nat.le_of_ble_eq_true rfl⟩) ⟨tcP.blind, va_recv hK hP (ci := 3) (q0 := 5) rfl rfl, tcP.go hK hP hD hE hS⟩ rfl rfl hl.1 rfl (lv_room (Nat.le_of_ble_eq_true rfl)) dL_law_1931 ⟨by show _ ≤ 601024; omega, by show _ ≤ 7293034; omega⟩)) (fun r9 h9 => ?_)
    subst h9
    refine lv_iload hx hb dL_law_1934 (lv_at hl 1 rfl) ?_
    refine lv_icmp_eq (tgt := 1941) hx hb dL_law_1936 (by decide) (fun _ => ?_) (fun q => absurd (by decide) q)
    refine lv_iload hx hb dL_law_1941 (lv_at hl 1 rfl) ?_
    refine lv_if_ne (tgt := 1958) hx hb dL_law_1943 (by decide) (fun _ => ?_) (fun q => absurd q (by decide))
    refine lv_goto (tgt := 2390) hx hb dL_law_1958 (by decide) ?_
    refine W.widen (k := ce + 3) (n := sl + 44) (by omega) (by omega) ?_
    exact kc _ _ _ _ ⟨ad, wd, rd, n, K, Ln, Wh, Re, cd, ct, 1, ov, od, hdd, hI, hP, hD, hS, lv_sub hl [2, 3, 4, 5, 6, 7] rfl⟩
set_option maxHeartbeats 4000000 in
set_option maxRecDepth 100000 in
theorem law_23 {p : Program} {l : Launch} {e : Env} {s : State} {m : MethodId} {below : List Frame} {meth : Method} {c : Code} {D : va_G} {A : Nat → Prop} {cI cJ cD cC : ClassId} {h0 h1 h2 h3 h4 m0 m1 m2 m3 m4 m5 o1 o2 : Nat} {b L : Nat} {xs : Nat → Int32} {Q : State → Prop} (C0 : LCtx p l D A cI cJ cD cC s m c b L xs) {d : Drawn} {H : Heap} {locs : List Loc} {ls : Array Slot} {i ce sl : Nat} (hi : i + 6 ≤ L) (hce : ce + 3 ≤ 601024) (hsl : sl + 44 ≤ 7293034) (hv : LInv D A cI cJ cD cC h0 h1 h2 h3 h4 m0 m1 m2 m3 m4 m5 o1 o2 s b d H locs i ls) (kc : ∀ (d : Drawn) (H : Heap) (locs : List Loc) (ls : Array Slot), LInv D A cI cJ cD cC h0 h1 h2 h3 h4 m0 m1 m2 m3 m4 m5 o1 o2 s b d H locs i ls → W p l e room_1 (s.setDrawn d) m #[Value.ref b] below meth c H locs (ce + 3) (sl + 44) Q (F0 m 2390 ls [])) : W p l e room_1 (s.setDrawn d) m #[Value.ref b] below meth c H locs ce sl Q (F0 m 1961 ls []) := by
  obtain ⟨hx, hb, hml, hown0, htsB, hX0, hbl, hbA, hA, hL, hfl, hK0, hE0, hNc0⟩ := C0
  obtain ⟨ad, wd, rd, n, K, Ln, Wh, Re, cd, ct, th, ov, od, hdd, hI, hP, hD, hS, hl⟩ := hv
  have hn60 : n ≤ 60 := hI.1
  have hts := dr_words htsB d
  have hK : va_K D vwCl (tcTY cI cJ cD cC) (s.setDrawn d) := hK0
  have hE : tc_E A (s.setDrawn d) := hE0
  have hNc : tc_Nc (s.setDrawn d) := hNc0
  have hown : (s.setDrawn d).vm.findClass RL = some m.cls := hown0
  have hX : va_X b L xs (s.setDrawn d) s.heap := hX0
  rcases Classical.em (∃ j, j < n ∧ xs (i + 1) = nI j) with ⟨j, hj, ej⟩ | hc
  · refine lv_aload_n hx hb dL_law_1961 rfl (lv_at hl 4 rfl) ?_
    refine lv_aload_n hx hb dL_law_1962 rfl (lv_at hl 5 rfl) ?_
    refine lv_iload hx hb dL_law_1963 (lv_at hl 0 rfl) ?_
    refine lv_iconst (v := 1) hx hb dL_law_1965 (by decide) ?_
    refine lv_iadd hx hb dL_law_1966 ?_
    refine tc_sld hx hb hX hbl hbA hS hL 1 rfl (by omega) (v := (nI j)) ej dL_law_1967 ?_
    refine lv_aload hx hb dL_law_1968 (lv_at hl 1 rfl) ?_
    refine va_calli (tc_noX (vx_runSX (As := [.ref h0, .int (nI j), .ref o2]) (rest := []) ⟨hx, hb, hml, hown, hts⟩ (lL_total l hfl D A cI cJ cD cC h0 h1 h2 h3 h4 ad wd rd (m0, .inr (3, [.int th, .int (nI n), .ref m1, .ref m2, .ref m3, .ref m4, .int cd, .ref m5])) (m1, .inl (cI, 60, .inl K)) (m2, .inl (cI, 60, .inl (fun t8 => nI (Ln t8)))) (m3, .inl (cJ, 2400, .inr (.inl Wh))) (m4, .inl (cD, 2400, .inr (.inr (.inr (.inl Re))))) (m5, .inl (cI, 6, .inl ct)) o1 o2 ov od n K Ln Wh Re cd ct H.size hI j hj) (vx_cwSW 3 hts gL_law_L_total rfl rfl rfl (by decide +kernel) ⟨Nat.le_of_ble_eq_true rfl, Nat.le_of_ble_eq_true rfl⟩) ⟨tcPL.blind, tcPL.go hK hP hD hE hNc hS⟩ rfl rfl hl.1 rfl (lv_room (Nat.le_of_ble_eq_true rfl)) dL_law_1970 ⟨by show _ ≤ 601024; omega, by show _ ≤ 7293034; omega⟩)) hS (fun q _ h => h) (fun q h => h) (fun r uL t H locs ht hvm hw hB hz1 hk1 hS => ?_)
    subst hw
    obtain ⟨hP, hD⟩ := hB
    rw [ht] at hP
    have hP : va_P D vwCl (tc_Z cI cJ cD (h0, .inr (2, [.ref h1, .ref h2, .ref h3, .int (nI n), .int (kCol (K j))])) (h1, .inl (cC, 60, .inr (.inr (.inr (.inr (fun t8 => if t8 < n then some (ad t8) else none)))))) (h2, .inl (cI, 6, .inl (noteC ct (kCol (K j))))) (h3, .inr (1, [.ref h4])) (h4, .inl (cD, 10, .inr (.inr (.inr (.inl (fun t8 => tf_N (1023 + 2 ^ t8) 0)))))) ((o1, .inl (cJ, 1, .inr (.inl ov))) :: (o2, .inl (cD, 1, .inr (.inr (.inr (.inl (vf_upd od 0 (tot K Ln Wh Re j))))))) :: tc_fl (tc_col cJ cD ad wd rd K Ln Wh Re) n) m0 m1 m2 m3 m4 m5 th n K Ln Wh Re cd ct) H := hP
    have hD : va_D A (tc_Z cI cJ cD (h0, .inr (2, [.ref h1, .ref h2, .ref h3, .int (nI n), .int (kCol (K j))])) (h1, .inl (cC, 60, .inr (.inr (.inr (.inr (fun t8 => if t8 < n then some (ad t8) else none)))))) (h2, .inl (cI, 6, .inl (noteC ct (kCol (K j))))) (h3, .inr (1, [.ref h4])) (h4, .inl (cD, 10, .inr (.inr (.inr (.inl (fun t8 => tf_N (1023 + 2 ^ t8) 0)))))) ((o1, .inl (cJ, 1, .inr (.inl ov))) :: (o2, .inl (cD, 1, .inr (.inr (.inr (.inl (vf_upd od 0 (tot K Ln Wh Re j))))))) :: tc_fl (tc_col cJ cD ad wd rd K Ln Wh Re) n) m0 m1 m2 m3 m4 m5 th n K Ln Wh Re cd ct) := hD
    refine lv_istore (lv' := [(6, .int 0), (5, .int (nI i)), (4, .ref o2), (3, .ref o1), (2, .ref m0), (1, .ref h0), (0, .ref b)]) hx hb dL_law_1973 hl (by decide) rfl (fun ls hl => ?_)
    refine lv_aload_n hx hb dL_law_1975 rfl (lv_at hl 4 rfl) ?_
    refine lv_aload_n hx hb dL_law_1976 rfl (lv_at hl 6 rfl) ?_
    refine lv_iload hx hb dL_law_1977 (lv_at hl 1 rfl) ?_
    refine lv_iconst (v := 1) hx hb dL_law_1979 (by decide) ?_
    refine lv_iadd hx hb dL_law_1980 ?_
    refine tc_sld hx hb hX hbl hbA hS hL 1 rfl (by omega) (v := (nI j)) ej dL_law_1981 ?_
    refine va_calldD hdd (va_runV_D (As := [.int (nI j)]) (rest := []) ⟨hx, hb, hml, hown, hts⟩ (tX3_total_y l D A cI cJ cD cC (h0, .inr (2, [.ref h1, .ref h2, .ref h3, .int (nI n), .int (kCol (K j))])) (h1, .inl (cC, 60, .inr (.inr (.inr (.inr (fun t8 => if t8 < n then some (ad t8) else none)))))) (h2, .inl (cI, 6, .inl (noteC ct (kCol (K j))))) (h3, .inr (1, [.ref h4])) (h4, .inl (cD, 10, .inr (.inr (.inr (.inl (fun t8 => tf_N (1023 + 2 ^ t8) 0)))))) ((o1, .inl (cJ, 1, .inr (.inl ov))) :: (o2, .inl (cD, 1, .inr (.inr (.inr (.inl (vf_upd od 0 (tot K Ln Wh Re j))))))) :: tc_fl (tc_col cJ cD ad wd rd K Ln Wh Re) n) m0 m1 m2 m3 m4 m5 th n K Ln Wh Re cd ct H.size hI j hj) (cwV 1 hts gL_law_X3_total rfl rfl rfl (by decide +kernel) ⟨Nat.le_of_ble_eq_true rfl, Nat.le_of_ble_eq_true rfl⟩) ⟨tcP.blind, va_recv hK hP (ci := 3) (q0 := 5) rfl rfl, tcP.go hK hP hD hE hS⟩ rfl rfl hl.1 rfl (lv_room (Nat.le_of_ble_eq_true rfl)) dL_law_1982 ⟨by show _ ≤ 601024; omega, by show _ ≤ 7293034; omega⟩) hS (fun q _ h => h) (fun q h => h) (fun r u t H locs ht hvm hw hB hz1 hk1 hS d2 hdd => ?_)
    have hts := dr_words htsB d2
    have hK : va_K D vwCl (tcTY cI cJ cD cC) (s.setDrawn d2) := hK0
    have hE : tc_E A (s.setDrawn d2) := hE0
    have hNc : tc_Nc (s.setDrawn d2) := hNc0
    have hown : (s.setDrawn d2).vm.findClass RL = some m.cls := hown0
    have hX : va_X b L xs (s.setDrawn d2) s.heap := hX0
    obtain ⟨hP, hD⟩ := hB
    rw [ht] at hP
    cases hz : FP.Core.dIsNaN (tot K Ln Wh Re j)
    · have er : r = (tot K Ln Wh Re j) := ((tf_alike _ _).mp hw).resolve_right (fun q => by rw [q.2] at hz; cases hz)
      subst er
      refine lv_dstore (lv' := [(7, .double (tot K Ln Wh Re j)), (6, .int 0), (5, .int (nI i)), (4, .ref o2), (3, .ref o1), (2, .ref m0), (1, .ref h0), (0, .ref b)]) hx hb dL_law_1985 hl (by decide) rfl (fun ls hl => ?_)
      refine lv_aload_n hx hb dL_law_1987 rfl (lv_at hl 5 rfl) ?_
      refine vp_callSi (tc_CR (va_runV (As := []) (rest := []) ⟨hx, hb, hml, hown, hts⟩ (tX3_thrown l D A cI cJ cD cC (h0, .inr (2, [.ref h1, .ref h2, .ref h3, .int (nI n), .int (kCol (K j))])) (h1, .inl (cC, 60, .inr (.inr (.inr (.inr (fun t8 => if t8 < n then some (ad t8) else none)))))) (h2, .inl (cI, 6, .inl (noteC ct (kCol (K j))))) (h3, .inr (1, [.ref h4])) (h4, .inl (cD, 10, .inr (.inr (.inr (.inl (fun t8 => tf_N (1023 + 2 ^ t8) 0)))))) ((o1, .inl (cJ, 1, .inr (.inl ov))) :: (o2, .inl (cD, 1, .inr (.inr (.inr (.inl (vf_upd od 0 (tot K Ln Wh Re j))))))) :: tc_fl (tc_col cJ cD ad wd rd K Ln Wh Re) n) m0 m1 m2 m3 m4 m5 0 n K Ln Wh Re (kCol (K j)) (noteC ct (kCol (K j))) H.size) (cwV 0 hts gL_law_X3_thrown rfl rfl rfl (by decide +kernel) ⟨Nat.le_of_ble_eq_true rfl, Nat.le_of_ble_eq_true rfl⟩) ⟨tcP.blind, va_recv hK hP (ci := 3) (q0 := 5) rfl rfl, tcP.go hK hP hD hE hS⟩ rfl rfl hl.1 rfl (lv_room (Nat.le_of_ble_eq_true rfl)) dL_law_1988 ⟨by show _ ≤ 601024; omega, by show _ ≤ 7293034; omega⟩)) (fun r9 h9 => ?_)
      subst h9
      refine lv_iload hx hb dL_law_1991 (lv_at hl 1 rfl) ?_
      refine lv_icmp_eq (tgt := 1998) hx hb dL_law_1993 (by decide) (fun _ => ?_) (fun q => absurd (by decide) q)
      refine lv_iload hx hb dL_law_1998 (lv_at hl 1 rfl) ?_
      refine lv_if_ne (tgt := 2035) hx hb dL_law_2000 (by decide) (fun q => absurd (by decide) q) (fun _ => ?_)
      refine lv_aload hx hb dL_law_2003 (lv_at hl 3 rfl) ?_
      refine lv_iconst (v := 0) hx hb dL_law_2005 (by decide) ?_
      refine tc_dald (f := (vf_upd od 0 (tot K Ln Wh Re j))) (v := (tot K Ln Wh Re j)) hx hb hK hP 12 2 rfl rfl (by unfold vp_in; decide) (show (vf_upd od 0 (tot K Ln Wh Re j)) 0 = (tot K Ln Wh Re j) from if_pos rfl) dL_law_2006 ?_
      refine lv_dload hx hb dL_law_2007 (lv_at hl 0 rfl) ?_
      refine lv_dcmp hx hb dL_law_2009 ?_
      refine lv_if_eq (tgt := 2035) hx hb dL_law_2010 (by decide) (fun _ => ?_) (fun q => absurd ((tf_cl0 _).mpr (tf_dcmp_self _ hz)) q)
      refine lv_goto (tgt := 2390) hx hb dL_law_2035 (by decide) ?_
      refine W.widen (k := ce + 3) (n := sl + 44) (by omega) (by omega) ?_
      exact kc _ _ _ _ ⟨ad, wd, rd, n, K, Ln, Wh, Re, (kCol (K j)), (noteC ct (kCol (K j))), 0, ov, (vf_upd od 0 (tot K Ln Wh Re j)), hdd, hI, hP, hD, hS, lv_sub hl [2, 3, 4, 5, 6, 7] rfl⟩
    · have hr9 : FP.Core.dIsNaN r = true := ((tf_alike _ _).mp hw).elim (fun q => by rw [q]; exact hz) (fun q => q.1)
      refine lv_dstore (lv' := [(7, .double r), (6, .int 0), (5, .int (nI i)), (4, .ref o2), (3, .ref o1), (2, .ref m0), (1, .ref h0), (0, .ref b)]) hx hb dL_law_1985 hl (by decide) rfl (fun ls hl => ?_)
      refine lv_aload_n hx hb dL_law_1987 rfl (lv_at hl 5 rfl) ?_
      refine vp_callSi (tc_CR (va_runV (As := []) (rest := []) ⟨hx, hb, hml, hown, hts⟩ (tX3_thrown l D A cI cJ cD cC (h0, .inr (2, [.ref h1, .ref h2, .ref h3, .int (nI n), .int (kCol (K j))])) (h1, .inl (cC, 60, .inr (.inr (.inr (.inr (fun t8 => if t8 < n then some (ad t8) else none)))))) (h2, .inl (cI, 6, .inl (noteC ct (kCol (K j))))) (h3, .inr (1, [.ref h4])) (h4, .inl (cD, 10, .inr (.inr (.inr (.inl (fun t8 => tf_N (1023 + 2 ^ t8) 0)))))) ((o1, .inl (cJ, 1, .inr (.inl ov))) :: (o2, .inl (cD, 1, .inr (.inr (.inr (.inl (vf_upd od 0 (tot K Ln Wh Re j))))))) :: tc_fl (tc_col cJ cD ad wd rd K Ln Wh Re) n) m0 m1 m2 m3 m4 m5 0 n K Ln Wh Re (kCol (K j)) (noteC ct (kCol (K j))) H.size) (cwV 0 hts gL_law_X3_thrown rfl rfl rfl (by decide +kernel) ⟨Nat.le_of_ble_eq_true rfl, Nat.le_of_ble_eq_true rfl⟩) ⟨tcP.blind, va_recv hK hP (ci := 3) (q0 := 5) rfl rfl, tcP.go hK hP hD hE hS⟩ rfl rfl hl.1 rfl (lv_room (Nat.le_of_ble_eq_true rfl)) dL_law_1988 ⟨by show _ ≤ 601024; omega, by show _ ≤ 7293034; omega⟩)) (fun r9 h9 => ?_)
      subst h9
      refine lv_iload hx hb dL_law_1991 (lv_at hl 1 rfl) ?_
      refine lv_icmp_eq (tgt := 1998) hx hb dL_law_1993 (by decide) (fun _ => ?_) (fun q => absurd (by decide) q)
      refine lv_iload hx hb dL_law_1998 (lv_at hl 1 rfl) ?_
      refine lv_if_ne (tgt := 2035) hx hb dL_law_2000 (by decide) (fun q => absurd (by decide) q) (fun _ => ?_)
      refine lv_aload hx hb dL_law_2003 (lv_at hl 3 rfl) ?_
      refine lv_iconst (v := 0) hx hb dL_law_2005 (by decide) ?_
      refine tc_dald (f := (vf_upd od 0 (tot K Ln Wh Re j))) (v := (tot K Ln Wh Re j)) hx hb hK hP 12 2 rfl rfl (by unfold vp_in; decide) (show (vf_upd od 0 (tot K Ln Wh Re j)) 0 = (tot K Ln Wh Re j) from if_pos rfl) dL_law_2006 ?_
      refine lv_dload hx hb dL_law_2007 (lv_at hl 0 rfl) ?_
      refine lv_dcmp hx hb dL_law_2009 ?_
      refine lv_if_eq (tgt := 2035) hx hb dL_law_2010 (by decide) (fun q => absurd q (tf_clN ((tf_dcmp_none _ _).mpr (Or.inl hz)))) (fun _ => ?_)
      refine lv_aload hx hb dL_law_2013 (lv_at hl 3 rfl) ?_
      refine lv_iconst (v := 0) hx hb dL_law_2015 (by decide) ?_
      refine tc_dald (f := (vf_upd od 0 (tot K Ln Wh Re j))) (v := (tot K Ln Wh Re j)) hx hb hK hP 12 2 rfl rfl (by unfold vp_in; decide) (show (vf_upd od 0 (tot K Ln Wh Re j)) 0 = (tot K Ln Wh Re j) from if_pos rfl) dL_law_2016 ?_
      refine lv_aload hx hb dL_law_2017 (lv_at hl 3 rfl) ?_
      refine lv_iconst (v := 0) hx hb dL_law_2019 (by decide) ?_
      refine tc_dald (f := (vf_upd od 0 (tot K Ln Wh Re j))) (v := (tot K Ln Wh Re j)) hx hb hK hP 12 2 rfl rfl (by unfold vp_in; decide) (show (vf_upd od 0 (tot K Ln Wh Re j)) 0 = (tot K Ln Wh Re j) from if_pos rfl) dL_law_2020 ?_
      refine lv_dcmp hx hb dL_law_2021 ?_
      refine lv_if_eq (tgt := 2033) hx hb dL_law_2022 (by decide) (fun q => absurd q (tf_clN ((tf_dcmp_none _ _).mpr (Or.inl hz)))) (fun _ => ?_)
      refine lv_dload hx hb dL_law_2025 (lv_at hl 0 rfl) ?_
      refine lv_dload hx hb dL_law_2027 (lv_at hl 0 rfl) ?_
      refine lv_dcmp hx hb dL_law_2029 ?_
      refine lv_if_ne (tgt := 2035) hx hb dL_law_2030 (by decide) (fun _ => ?_) (fun q => absurd q (tf_clN ((tf_dcmp_none _ _).mpr (Or.inl hr9))))
      refine lv_goto (tgt := 2390) hx hb dL_law_2035 (by decide) ?_
      refine W.widen (k := ce + 3) (n := sl + 44) (by omega) (by omega) ?_
      exact kc _ _ _ _ ⟨ad, wd, rd, n, K, Ln, Wh, Re, (kCol (K j)), (noteC ct (kCol (K j))), 0, ov, (vf_upd od 0 (tot K Ln Wh Re j)), hdd, hI, hP, hD, hS, lv_sub hl [2, 3, 4, 5, 6, 7] rfl⟩
  · refine lv_aload_n hx hb dL_law_1961 rfl (lv_at hl 4 rfl) ?_
    refine lv_aload_n hx hb dL_law_1962 rfl (lv_at hl 5 rfl) ?_
    refine lv_iload hx hb dL_law_1963 (lv_at hl 0 rfl) ?_
    refine lv_iconst (v := 1) hx hb dL_law_1965 (by decide) ?_
    refine lv_iadd hx hb dL_law_1966 ?_
    refine tc_sld hx hb hX hbl hbA hS hL 1 rfl (by omega) (v := (xs (i + 1))) rfl dL_law_1967 ?_
    refine lv_aload hx hb dL_law_1968 (lv_at hl 1 rfl) ?_
    refine va_calli (tc_noX (vx_runSX (As := [.ref h0, .int (xs (i + 1)), .ref o2]) (rest := []) ⟨hx, hb, hml, hown, hts⟩ (lLn_total l hfl D A cI cJ cD cC h0 h1 h2 h3 h4 ad wd rd (m0, .inr (3, [.int th, .int (nI n), .ref m1, .ref m2, .ref m3, .ref m4, .int cd, .ref m5])) (m1, .inl (cI, 60, .inl K)) (m2, .inl (cI, 60, .inl (fun t8 => nI (Ln t8)))) (m3, .inl (cJ, 2400, .inr (.inl Wh))) (m4, .inl (cD, 2400, .inr (.inr (.inr (.inl Re))))) (m5, .inl (cI, 6, .inl ct)) o1 o2 ov od n K Ln Wh Re cd ct H.size hn60 (xs (i + 1)) hc) (vx_cwSW 3 hts gL_law_L_total rfl rfl rfl (by decide +kernel) ⟨Nat.le_of_ble_eq_true rfl, Nat.le_of_ble_eq_true rfl⟩) ⟨tcPL.blind, tcPL.go hK hP hD hE hNc hS⟩ rfl rfl hl.1 rfl (lv_room (Nat.le_of_ble_eq_true rfl)) dL_law_1970 ⟨by show _ ≤ 601024; omega, by show _ ≤ 7293034; omega⟩)) hS (fun q _ h => h) (fun q h => h) (fun r uL t H locs ht hvm hw hB hz1 hk1 hS => ?_)
    subst hw
    obtain ⟨hP, hD⟩ := hB
    rw [ht] at hP
    have hP : va_P D vwCl (tc_Z cI cJ cD (h0, .inr (2, [.ref h1, .ref h2, .ref h3, .int (nI n), .int cd])) (h1, .inl (cC, 60, .inr (.inr (.inr (.inr (fun t8 => if t8 < n then some (ad t8) else none)))))) (h2, .inl (cI, 6, .inl ct)) (h3, .inr (1, [.ref h4])) (h4, .inl (cD, 10, .inr (.inr (.inr (.inl (fun t8 => tf_N (1023 + 2 ^ t8) 0)))))) ((o1, .inl (cJ, 1, .inr (.inl ov))) :: (o2, .inl (cD, 1, .inr (.inr (.inr (.inl od))))) :: tc_fl (tc_col cJ cD ad wd rd K Ln Wh Re) n) m0 m1 m2 m3 m4 m5 th n K Ln Wh Re cd ct) H := hP
    have hD : va_D A (tc_Z cI cJ cD (h0, .inr (2, [.ref h1, .ref h2, .ref h3, .int (nI n), .int cd])) (h1, .inl (cC, 60, .inr (.inr (.inr (.inr (fun t8 => if t8 < n then some (ad t8) else none)))))) (h2, .inl (cI, 6, .inl ct)) (h3, .inr (1, [.ref h4])) (h4, .inl (cD, 10, .inr (.inr (.inr (.inl (fun t8 => tf_N (1023 + 2 ^ t8) 0)))))) ((o1, .inl (cJ, 1, .inr (.inl ov))) :: (o2, .inl (cD, 1, .inr (.inr (.inr (.inl od))))) :: tc_fl (tc_col cJ cD ad wd rd K Ln Wh Re) n) m0 m1 m2 m3 m4 m5 th n K Ln Wh Re cd ct) := hD
    refine lv_istore (lv' := [(6, .int 1), (5, .int (nI i)), (4, .ref o2), (3, .ref o1), (2, .ref m0), (1, .ref h0), (0, .ref b)]) hx hb dL_law_1973 hl (by decide) rfl (fun ls hl => ?_)
    refine lv_aload_n hx hb dL_law_1975 rfl (lv_at hl 4 rfl) ?_
    refine lv_aload_n hx hb dL_law_1976 rfl (lv_at hl 6 rfl) ?_
    refine lv_iload hx hb dL_law_1977 (lv_at hl 1 rfl) ?_
    refine lv_iconst (v := 1) hx hb dL_law_1979 (by decide) ?_
    refine lv_iadd hx hb dL_law_1980 ?_
    refine tc_sld hx hb hX hbl hbA hS hL 1 rfl (by omega) (v := (xs (i + 1))) rfl dL_law_1981 ?_
    refine va_calld (va_runV (As := [.int (xs (i + 1))]) (rest := []) ⟨hx, hb, hml, hown, hts⟩ (tX3_total_n l D A cI cJ cD cC (h0, .inr (2, [.ref h1, .ref h2, .ref h3, .int (nI n), .int cd])) (h1, .inl (cC, 60, .inr (.inr (.inr (.inr (fun t8 => if t8 < n then some (ad t8) else none)))))) (h2, .inl (cI, 6, .inl ct)) (h3, .inr (1, [.ref h4])) (h4, .inl (cD, 10, .inr (.inr (.inr (.inl (fun t8 => tf_N (1023 + 2 ^ t8) 0)))))) ((o1, .inl (cJ, 1, .inr (.inl ov))) :: (o2, .inl (cD, 1, .inr (.inr (.inr (.inl od))))) :: tc_fl (tc_col cJ cD ad wd rd K Ln Wh Re) n) m0 m1 m2 m3 m4 m5 th n K Ln Wh Re cd ct H.size hI (xs (i + 1)) hc) (cwV 1 hts gL_law_X3_total rfl rfl rfl (by decide +kernel) ⟨Nat.le_of_ble_eq_true rfl, Nat.le_of_ble_eq_true rfl⟩) ⟨tcP.blind, va_recv hK hP (ci := 3) (q0 := 5) rfl rfl, tcP.go hK hP hD hE hS⟩ rfl rfl hl.1 rfl (lv_room (Nat.le_of_ble_eq_true rfl)) dL_law_1982 ⟨by show _ ≤ 601024; omega, by show _ ≤ 7293034; omega⟩) hS (fun q _ h => h) (fun q h => h) (fun r u t H locs ht hvm hw hB hz1 hk1 hS => ?_)
    subst hw
    obtain ⟨hP, hD⟩ := hB
    rw [ht] at hP
    refine lv_dstore (lv' := [(7, .double 0), (6, .int 1), (5, .int (nI i)), (4, .ref o2), (3, .ref o1), (2, .ref m0), (1, .ref h0), (0, .ref b)]) hx hb dL_law_1985 hl (by decide) rfl (fun ls hl => ?_)
    refine lv_aload_n hx hb dL_law_1987 rfl (lv_at hl 5 rfl) ?_
    refine vp_callSi (tc_CR (va_runV (As := []) (rest := []) ⟨hx, hb, hml, hown, hts⟩ (tX3_thrown l D A cI cJ cD cC (h0, .inr (2, [.ref h1, .ref h2, .ref h3, .int (nI n), .int cd])) (h1, .inl (cC, 60, .inr (.inr (.inr (.inr (fun t8 => if t8 < n then some (ad t8) else none)))))) (h2, .inl (cI, 6, .inl ct)) (h3, .inr (1, [.ref h4])) (h4, .inl (cD, 10, .inr (.inr (.inr (.inl (fun t8 => tf_N (1023 + 2 ^ t8) 0)))))) ((o1, .inl (cJ, 1, .inr (.inl ov))) :: (o2, .inl (cD, 1, .inr (.inr (.inr (.inl od))))) :: tc_fl (tc_col cJ cD ad wd rd K Ln Wh Re) n) m0 m1 m2 m3 m4 m5 1 n K Ln Wh Re cd ct H.size) (cwV 0 hts gL_law_X3_thrown rfl rfl rfl (by decide +kernel) ⟨Nat.le_of_ble_eq_true rfl, Nat.le_of_ble_eq_true rfl⟩) ⟨tcP.blind, va_recv hK hP (ci := 3) (q0 := 5) rfl rfl, tcP.go hK hP hD hE hS⟩ rfl rfl hl.1 rfl (lv_room (Nat.le_of_ble_eq_true rfl)) dL_law_1988 ⟨by show _ ≤ 601024; omega, by show _ ≤ 7293034; omega⟩)) (fun r9 h9 => ?_)
    subst h9
    refine lv_iload hx hb dL_law_1991 (lv_at hl 1 rfl) ?_
    refine lv_icmp_eq (tgt := 1998) hx hb dL_law_1993 (by decide) (fun _ => ?_) (fun q => absurd (by decide) q)
    refine lv_iload hx hb dL_law_1998 (lv_at hl 1 rfl) ?_
    refine lv_if_ne (tgt := 2035) hx hb dL_law_2000 (by decide) (fun _ => ?_) (fun q => absurd q (by decide))
    refine lv_goto (tgt := 2390) hx hb dL_law_2035 (by decide) ?_
    refine W.widen (k := ce + 3) (n := sl + 44) (by omega) (by omega) ?_
    exact kc _ _ _ _ ⟨ad, wd, rd, n, K, Ln, Wh, Re, cd, ct, 1, ov, od, hdd, hI, hP, hD, hS, lv_sub hl [2, 3, 4, 5, 6, 7] rfl⟩
set_option maxHeartbeats 4000000 in
set_option maxRecDepth 100000 in
theorem law_24 {p : Program} {l : Launch} {e : Env} {s : State} {m : MethodId} {below : List Frame} {meth : Method} {c : Code} {D : va_G} {A : Nat → Prop} {cI cJ cD cC : ClassId} {h0 h1 h2 h3 h4 m0 m1 m2 m3 m4 m5 o1 o2 : Nat} {b L : Nat} {xs : Nat → Int32} {Q : State → Prop} (C0 : LCtx p l D A cI cJ cD cC s m c b L xs) {d : Drawn} {H : Heap} {locs : List Loc} {ls : Array Slot} {i ce sl : Nat} (hi : i + 6 ≤ L) (hce : ce + 3 ≤ 601024) (hsl : sl + 44 ≤ 7293034) (hv : LInv D A cI cJ cD cC h0 h1 h2 h3 h4 m0 m1 m2 m3 m4 m5 o1 o2 s b d H locs i ls) (kc : ∀ (d : Drawn) (H : Heap) (locs : List Loc) (ls : Array Slot), LInv D A cI cJ cD cC h0 h1 h2 h3 h4 m0 m1 m2 m3 m4 m5 o1 o2 s b d H locs i ls → W p l e room_1 (s.setDrawn d) m #[Value.ref b] below meth c H locs (ce + 3) (sl + 44) Q (F0 m 2390 ls [])) : W p l e room_1 (s.setDrawn d) m #[Value.ref b] below meth c H locs ce sl Q (F0 m 2038 ls []) := by
  obtain ⟨hx, hb, hml, hown0, htsB, hX0, hbl, hbA, hA, hL, hfl, hK0, hE0, hNc0⟩ := C0
  obtain ⟨ad, wd, rd, n, K, Ln, Wh, Re, cd, ct, th, ov, od, hdd, hI, hP, hD, hS, hl⟩ := hv
  have hn60 : n ≤ 60 := hI.1
  have hts := dr_words htsB d
  have hK : va_K D vwCl (tcTY cI cJ cD cC) (s.setDrawn d) := hK0
  have hE : tc_E A (s.setDrawn d) := hE0
  have hNc : tc_Nc (s.setDrawn d) := hNc0
  have hown : (s.setDrawn d).vm.findClass RL = some m.cls := hown0
  have hX : va_X b L xs (s.setDrawn d) s.heap := hX0
  rcases Classical.em (∃ j, j < n ∧ xs (i + 1) = nI j) with ⟨j, hj, ej⟩ | hc
  · cases hk : kHas (xs (i + 2))
    · refine lv_aload_n hx hb dL_law_2038 rfl (lv_at hl 4 rfl) ?_
      refine lv_aload_n hx hb dL_law_2039 rfl (lv_at hl 5 rfl) ?_
      refine lv_iload hx hb dL_law_2040 (lv_at hl 0 rfl) ?_
      refine lv_iconst (v := 1) hx hb dL_law_2042 (by decide) ?_
      refine lv_iadd hx hb dL_law_2043 ?_
      refine tc_sld hx hb hX hbl hbA hS hL 1 rfl (by omega) (v := (nI j)) ej dL_law_2044 ?_
      refine lv_aload_n hx hb dL_law_2045 rfl (lv_at hl 5 rfl) ?_
      refine lv_iload hx hb dL_law_2046 (lv_at hl 0 rfl) ?_
      refine lv_iconst (v := 2) hx hb dL_law_2048 (by decide) ?_
      refine lv_iadd hx hb dL_law_2049 ?_
      refine tc_sld hx hb hX hbl hbA hS hL 2 rfl (by omega) (v := (xs (i + 2))) rfl dL_law_2050 ?_
      refine lv_aload_n hx hb dL_law_2051 rfl (lv_at hl 2 rfl) ?_
      refine va_calli (tc_noX (vx_runSX (As := [.ref h0, .int (nI j), .int (xs (i + 2)), .ref o1]) (rest := []) ⟨hx, hb, hml, hown, hts⟩ (lLn_widened_k l hfl D A cI cJ cD cC h0 h1 h2 h3 h4 ad wd rd (m0, .inr (3, [.int th, .int (nI n), .ref m1, .ref m2, .ref m3, .ref m4, .int cd, .ref m5])) (m1, .inl (cI, 60, .inl K)) (m2, .inl (cI, 60, .inl (fun t8 => nI (Ln t8)))) (m3, .inl (cJ, 2400, .inr (.inl Wh))) (m4, .inl (cD, 2400, .inr (.inr (.inr (.inl Re))))) (m5, .inl (cI, 6, .inl ct)) o1 o2 ov od n K Ln Wh Re cd ct H.size hn60 j hj (xs (i + 2)) hk) (vx_cwSW 4 hts gL_law_L_widened rfl rfl rfl (by decide +kernel) ⟨Nat.le_of_ble_eq_true rfl, Nat.le_of_ble_eq_true rfl⟩) ⟨tcPL.blind, tcPL.go hK hP hD hE hNc hS⟩ rfl rfl hl.1 rfl (lv_room (Nat.le_of_ble_eq_true rfl)) dL_law_2052 ⟨by show _ ≤ 601024; omega, by show _ ≤ 7293034; omega⟩)) hS (fun q _ h => h) (fun q h => h) (fun r uL t H locs ht hvm hw hB hz1 hk1 hS => ?_)
      subst hw
      obtain ⟨hP, hD⟩ := hB
      rw [ht] at hP
      have hP : va_P D vwCl (tc_Z cI cJ cD (h0, .inr (2, [.ref h1, .ref h2, .ref h3, .int (nI n), .int cd])) (h1, .inl (cC, 60, .inr (.inr (.inr (.inr (fun t8 => if t8 < n then some (ad t8) else none)))))) (h2, .inl (cI, 6, .inl ct)) (h3, .inr (1, [.ref h4])) (h4, .inl (cD, 10, .inr (.inr (.inr (.inl (fun t8 => tf_N (1023 + 2 ^ t8) 0)))))) ((o1, .inl (cJ, 1, .inr (.inl ov))) :: (o2, .inl (cD, 1, .inr (.inr (.inr (.inl od))))) :: tc_fl (tc_col cJ cD ad wd rd K Ln Wh Re) n) m0 m1 m2 m3 m4 m5 th n K Ln Wh Re cd ct) H := hP
      have hD : va_D A (tc_Z cI cJ cD (h0, .inr (2, [.ref h1, .ref h2, .ref h3, .int (nI n), .int cd])) (h1, .inl (cC, 60, .inr (.inr (.inr (.inr (fun t8 => if t8 < n then some (ad t8) else none)))))) (h2, .inl (cI, 6, .inl ct)) (h3, .inr (1, [.ref h4])) (h4, .inl (cD, 10, .inr (.inr (.inr (.inl (fun t8 => tf_N (1023 + 2 ^ t8) 0)))))) ((o1, .inl (cJ, 1, .inr (.inl ov))) :: (o2, .inl (cD, 1, .inr (.inr (.inr (.inl od))))) :: tc_fl (tc_col cJ cD ad wd rd K Ln Wh Re) n) m0 m1 m2 m3 m4 m5 th n K Ln Wh Re cd ct) := hD
      refine lv_istore (lv' := [(6, .int 2), (5, .int (nI i)), (4, .ref o2), (3, .ref o1), (2, .ref m0), (1, .ref h0), (0, .ref b)]) hx hb dL_law_2055 hl (by decide) rfl (fun ls hl => ?_)
      refine lv_aload_n hx hb dL_law_2057 rfl (lv_at hl 4 rfl) ?_
      refine lv_aload_n hx hb dL_law_2058 rfl (lv_at hl 6 rfl) ?_
      refine lv_iload hx hb dL_law_2059 (lv_at hl 1 rfl) ?_
      refine lv_iconst (v := 1) hx hb dL_law_2061 (by decide) ?_
      refine lv_iadd hx hb dL_law_2062 ?_
      refine tc_sld hx hb hX hbl hbA hS hL 1 rfl (by omega) (v := (nI j)) ej dL_law_2063 ?_
      refine lv_aload_n hx hb dL_law_2064 rfl (lv_at hl 6 rfl) ?_
      refine lv_iload hx hb dL_law_2065 (lv_at hl 1 rfl) ?_
      refine lv_iconst (v := 2) hx hb dL_law_2067 (by decide) ?_
      refine lv_iadd hx hb dL_law_2068 ?_
      refine tc_sld hx hb hX hbl hbA hS hL 2 rfl (by omega) (v := (xs (i + 2))) rfl dL_law_2069 ?_
      refine va_calli (va_runV (As := [.int (nI j), .int (xs (i + 2))]) (rest := []) ⟨hx, hb, hml, hown, hts⟩ (tX3_widened_k l D A cI cJ cD cC (h0, .inr (2, [.ref h1, .ref h2, .ref h3, .int (nI n), .int cd])) (h1, .inl (cC, 60, .inr (.inr (.inr (.inr (fun t8 => if t8 < n then some (ad t8) else none)))))) (h2, .inl (cI, 6, .inl ct)) (h3, .inr (1, [.ref h4])) (h4, .inl (cD, 10, .inr (.inr (.inr (.inl (fun t8 => tf_N (1023 + 2 ^ t8) 0)))))) ((o1, .inl (cJ, 1, .inr (.inl ov))) :: (o2, .inl (cD, 1, .inr (.inr (.inr (.inl od))))) :: tc_fl (tc_col cJ cD ad wd rd K Ln Wh Re) n) m0 m1 m2 m3 m4 m5 th n K Ln Wh Re cd ct H.size hI j hj (xs (i + 2)) hk) (cwV 2 hts gL_law_X3_widened rfl rfl rfl (by decide +kernel) ⟨Nat.le_of_ble_eq_true rfl, Nat.le_of_ble_eq_true rfl⟩) ⟨tcP.blind, va_recv hK hP (ci := 3) (q0 := 5) rfl rfl, tcP.go hK hP hD hE hS⟩ rfl rfl hl.1 rfl (lv_room (Nat.le_of_ble_eq_true rfl)) dL_law_2070 ⟨by show _ ≤ 601024; omega, by show _ ≤ 7293034; omega⟩) hS (fun q _ h => h) (fun q h => h) (fun r u t H locs ht hvm hw hB hz1 hk1 hS => ?_)
      subst hw
      obtain ⟨hP, hD⟩ := hB
      rw [ht] at hP
      refine lv_istore (lv' := [(7, .int 0), (6, .int 2), (5, .int (nI i)), (4, .ref o2), (3, .ref o1), (2, .ref m0), (1, .ref h0), (0, .ref b)]) hx hb dL_law_2073 hl (by decide) rfl (fun ls hl => ?_)
      refine lv_aload_n hx hb dL_law_2075 rfl (lv_at hl 5 rfl) ?_
      refine vp_callSi (tc_CR (va_runV (As := []) (rest := []) ⟨hx, hb, hml, hown, hts⟩ (tX3_thrown l D A cI cJ cD cC (h0, .inr (2, [.ref h1, .ref h2, .ref h3, .int (nI n), .int cd])) (h1, .inl (cC, 60, .inr (.inr (.inr (.inr (fun t8 => if t8 < n then some (ad t8) else none)))))) (h2, .inl (cI, 6, .inl ct)) (h3, .inr (1, [.ref h4])) (h4, .inl (cD, 10, .inr (.inr (.inr (.inl (fun t8 => tf_N (1023 + 2 ^ t8) 0)))))) ((o1, .inl (cJ, 1, .inr (.inl ov))) :: (o2, .inl (cD, 1, .inr (.inr (.inr (.inl od))))) :: tc_fl (tc_col cJ cD ad wd rd K Ln Wh Re) n) m0 m1 m2 m3 m4 m5 2 n K Ln Wh Re cd ct H.size) (cwV 0 hts gL_law_X3_thrown rfl rfl rfl (by decide +kernel) ⟨Nat.le_of_ble_eq_true rfl, Nat.le_of_ble_eq_true rfl⟩) ⟨tcP.blind, va_recv hK hP (ci := 3) (q0 := 5) rfl rfl, tcP.go hK hP hD hE hS⟩ rfl rfl hl.1 rfl (lv_room (Nat.le_of_ble_eq_true rfl)) dL_law_2076 ⟨by show _ ≤ 601024; omega, by show _ ≤ 7293034; omega⟩)) (fun r9 h9 => ?_)
      subst h9
      refine lv_iload hx hb dL_law_2079 (lv_at hl 1 rfl) ?_
      refine lv_icmp_eq (tgt := 2086) hx hb dL_law_2081 (by decide) (fun _ => ?_) (fun q => absurd (by decide) q)
      refine lv_iload hx hb dL_law_2086 (lv_at hl 1 rfl) ?_
      refine lv_if_ne (tgt := 2103) hx hb dL_law_2088 (by decide) (fun _ => ?_) (fun q => absurd q (by decide))
      refine lv_goto (tgt := 2390) hx hb dL_law_2103 (by decide) ?_
      refine W.widen (k := ce + 3) (n := sl + 44) (by omega) (by omega) ?_
      exact kc _ _ _ _ ⟨ad, wd, rd, n, K, Ln, Wh, Re, cd, ct, 2, ov, od, hdd, hI, hP, hD, hS, lv_sub hl [2, 3, 4, 5, 6, 7] rfl⟩
    · rcases (show n < 60 ∨ n = 60 by omega) with hn | hn
      · rcases Classical.em (wdC K j (xs (i + 2)) = 0) with hc | hc
        · refine lv_aload_n hx hb dL_law_2038 rfl (lv_at hl 4 rfl) ?_
          refine lv_aload_n hx hb dL_law_2039 rfl (lv_at hl 5 rfl) ?_
          refine lv_iload hx hb dL_law_2040 (lv_at hl 0 rfl) ?_
          refine lv_iconst (v := 1) hx hb dL_law_2042 (by decide) ?_
          refine lv_iadd hx hb dL_law_2043 ?_
          refine tc_sld hx hb hX hbl hbA hS hL 1 rfl (by omega) (v := (nI j)) ej dL_law_2044 ?_
          refine lv_aload_n hx hb dL_law_2045 rfl (lv_at hl 5 rfl) ?_
          refine lv_iload hx hb dL_law_2046 (lv_at hl 0 rfl) ?_
          refine lv_iconst (v := 2) hx hb dL_law_2048 (by decide) ?_
          refine lv_iadd hx hb dL_law_2049 ?_
          refine tc_sld hx hb hX hbl hbA hS hL 2 rfl (by omega) (v := (xs (i + 2))) rfl dL_law_2050 ?_
          refine lv_aload_n hx hb dL_law_2051 rfl (lv_at hl 2 rfl) ?_
          refine va_calli (tc_noX (vx_runSX (As := [.ref h0, .int (nI j), .int (xs (i + 2)), .ref o1]) (rest := []) ⟨hx, hb, hml, hown, hts⟩ (lL_widened l hfl D A cI cJ cD cC h0 h1 h2 h3 h4 ad wd rd (m0, .inr (3, [.int th, .int (nI n), .ref m1, .ref m2, .ref m3, .ref m4, .int cd, .ref m5])) (m1, .inl (cI, 60, .inl K)) (m2, .inl (cI, 60, .inl (fun t8 => nI (Ln t8)))) (m3, .inl (cJ, 2400, .inr (.inl Wh))) (m4, .inl (cD, 2400, .inr (.inr (.inr (.inl Re))))) (m5, .inl (cI, 6, .inl ct)) o1 o2 ov od n K Ln Wh Re cd ct H.size hI j hj hn (xs (i + 2)) hk hc (fun q h => hA q (Nat.le_trans hS.1 h))) (vx_cwSW 4 hts gL_law_L_widened rfl rfl rfl (by decide +kernel) ⟨Nat.le_of_ble_eq_true rfl, Nat.le_of_ble_eq_true rfl⟩) ⟨tcPL.blind, tcPL.go hK hP hD hE hNc hS⟩ rfl rfl hl.1 rfl (lv_room (Nat.le_of_ble_eq_true rfl)) dL_law_2052 ⟨by show _ ≤ 601024; omega, by show _ ≤ 7293034; omega⟩)) hS (fun q _ h => h) (fun q h => h) (fun r uL t H locs ht hvm hw hB hz1 hk1 hS => ?_)
          subst hw
          obtain ⟨hP, hD⟩ := hB
          rw [ht] at hP
          have hP : va_P D vwCl (tc_Z cI cJ cD (h0, .inr (2, [.ref h1, .ref h2, .ref h3, .int (nI (n + 1)), .int 0])) (h1, .inl (cC, 60, .inr (.inr (.inr (.inr (fun t8 => if t8 < (n + 1) then some ((va_up ad n uL.1) t8) else none)))))) (h2, .inl (cI, 6, .inl (noteC ct 0))) (h3, .inr (1, [.ref h4])) (h4, .inl (cD, 10, .inr (.inr (.inr (.inl (fun t8 => tf_N (1023 + 2 ^ t8) 0)))))) ((o1, .inl (cJ, 1, .inr (.inl (vp_updL ov 0 ((nI n).toInt64))))) :: (o2, .inl (cD, 1, .inr (.inr (.inr (.inl od))))) :: tc_fl (tc_col cJ cD (va_up ad n uL.1) (va_up wd n uL.2.1) (va_up rd n uL.2.2) (va_up K n (xs (i + 2))) (va_up Ln n (Ln j)) (tc_put n (Ln j) (fun i => Wh (40 * j + i)) 0 Wh) (tc_put n (Ln j) (wdV K Wh Re j (xs (i + 2))) 0 Re)) (n + 1)) m0 m1 m2 m3 m4 m5 th n K Ln Wh Re cd ct) H := hP
          have hD : va_D A (tc_Z cI cJ cD (h0, .inr (2, [.ref h1, .ref h2, .ref h3, .int (nI (n + 1)), .int 0])) (h1, .inl (cC, 60, .inr (.inr (.inr (.inr (fun t8 => if t8 < (n + 1) then some ((va_up ad n uL.1) t8) else none)))))) (h2, .inl (cI, 6, .inl (noteC ct 0))) (h3, .inr (1, [.ref h4])) (h4, .inl (cD, 10, .inr (.inr (.inr (.inl (fun t8 => tf_N (1023 + 2 ^ t8) 0)))))) ((o1, .inl (cJ, 1, .inr (.inl (vp_updL ov 0 ((nI n).toInt64))))) :: (o2, .inl (cD, 1, .inr (.inr (.inr (.inl od))))) :: tc_fl (tc_col cJ cD (va_up ad n uL.1) (va_up wd n uL.2.1) (va_up rd n uL.2.2) (va_up K n (xs (i + 2))) (va_up Ln n (Ln j)) (tc_put n (Ln j) (fun i => Wh (40 * j + i)) 0 Wh) (tc_put n (Ln j) (wdV K Wh Re j (xs (i + 2))) 0 Re)) (n + 1)) m0 m1 m2 m3 m4 m5 th n K Ln Wh Re cd ct) := hD
          refine lv_istore (lv' := [(6, .int 0), (5, .int (nI i)), (4, .ref o2), (3, .ref o1), (2, .ref m0), (1, .ref h0), (0, .ref b)]) hx hb dL_law_2055 hl (by decide) rfl (fun ls hl => ?_)
          refine lv_aload_n hx hb dL_law_2057 rfl (lv_at hl 4 rfl) ?_
          refine lv_aload_n hx hb dL_law_2058 rfl (lv_at hl 6 rfl) ?_
          refine lv_iload hx hb dL_law_2059 (lv_at hl 1 rfl) ?_
          refine lv_iconst (v := 1) hx hb dL_law_2061 (by decide) ?_
          refine lv_iadd hx hb dL_law_2062 ?_
          refine tc_sld hx hb hX hbl hbA hS hL 1 rfl (by omega) (v := (nI j)) ej dL_law_2063 ?_
          refine lv_aload_n hx hb dL_law_2064 rfl (lv_at hl 6 rfl) ?_
          refine lv_iload hx hb dL_law_2065 (lv_at hl 1 rfl) ?_
          refine lv_iconst (v := 2) hx hb dL_law_2067 (by decide) ?_
          refine lv_iadd hx hb dL_law_2068 ?_
          refine tc_sld hx hb hX hbl hbA hS hL 2 rfl (by omega) (v := (xs (i + 2))) rfl dL_law_2069 ?_
          refine va_calli (va_runV (As := [.int (nI j), .int (xs (i + 2))]) (rest := []) ⟨hx, hb, hml, hown, hts⟩ (tX3_widened l D A cI cJ cD cC (h0, .inr (2, [.ref h1, .ref h2, .ref h3, .int (nI (n + 1)), .int 0])) (h1, .inl (cC, 60, .inr (.inr (.inr (.inr (fun t8 => if t8 < (n + 1) then some ((va_up ad n uL.1) t8) else none)))))) (h2, .inl (cI, 6, .inl (noteC ct 0))) (h3, .inr (1, [.ref h4])) (h4, .inl (cD, 10, .inr (.inr (.inr (.inl (fun t8 => tf_N (1023 + 2 ^ t8) 0)))))) ((o1, .inl (cJ, 1, .inr (.inl (vp_updL ov 0 ((nI n).toInt64))))) :: (o2, .inl (cD, 1, .inr (.inr (.inr (.inl od))))) :: tc_fl (tc_col cJ cD (va_up ad n uL.1) (va_up wd n uL.2.1) (va_up rd n uL.2.2) (va_up K n (xs (i + 2))) (va_up Ln n (Ln j)) (tc_put n (Ln j) (fun i => Wh (40 * j + i)) 0 Wh) (tc_put n (Ln j) (wdV K Wh Re j (xs (i + 2))) 0 Re)) (n + 1)) m0 m1 m2 m3 m4 m5 th n K Ln Wh Re cd ct H.size hI j hj (xs (i + 2)) hk hn hc) (cwV 2 hts gL_law_X3_widened rfl rfl rfl (by decide +kernel) ⟨Nat.le_of_ble_eq_true rfl, Nat.le_of_ble_eq_true rfl⟩) ⟨tcP.blind, va_recv hK hP (ci := 3) (q0 := 5) rfl rfl, tcP.go hK hP hD hE hS⟩ rfl rfl hl.1 rfl (lv_room (Nat.le_of_ble_eq_true rfl)) dL_law_2070 ⟨by show _ ≤ 601024; omega, by show _ ≤ 7293034; omega⟩) hS (fun q _ h => h) (fun q h => h) (fun r u t H locs ht hvm hw hB hz1 hk1 hS => ?_)
          subst hw
          obtain ⟨hP, hD⟩ := hB
          rw [ht] at hP
          refine lv_istore (lv' := [(7, .int (nI n)), (6, .int 0), (5, .int (nI i)), (4, .ref o2), (3, .ref o1), (2, .ref m0), (1, .ref h0), (0, .ref b)]) hx hb dL_law_2073 hl (by decide) rfl (fun ls hl => ?_)
          refine lv_aload_n hx hb dL_law_2075 rfl (lv_at hl 5 rfl) ?_
          refine vp_callSi (tc_CR (va_runV (As := []) (rest := []) ⟨hx, hb, hml, hown, hts⟩ (tX3_thrown l D A cI cJ cD cC (h0, .inr (2, [.ref h1, .ref h2, .ref h3, .int (nI (n + 1)), .int 0])) (h1, .inl (cC, 60, .inr (.inr (.inr (.inr (fun t8 => if t8 < (n + 1) then some ((va_up ad n uL.1) t8) else none)))))) (h2, .inl (cI, 6, .inl (noteC ct 0))) (h3, .inr (1, [.ref h4])) (h4, .inl (cD, 10, .inr (.inr (.inr (.inl (fun t8 => tf_N (1023 + 2 ^ t8) 0)))))) ((o1, .inl (cJ, 1, .inr (.inl (vp_updL ov 0 ((nI n).toInt64))))) :: (o2, .inl (cD, 1, .inr (.inr (.inr (.inl od))))) :: tc_fl (tc_col cJ cD (va_up ad n uL.1) (va_up wd n uL.2.1) (va_up rd n uL.2.2) (va_up K n (xs (i + 2))) (va_up Ln n (Ln j)) (tc_put n (Ln j) (fun i => Wh (40 * j + i)) 0 Wh) (tc_put n (Ln j) (wdV K Wh Re j (xs (i + 2))) 0 Re)) (n + 1)) m0 m1 m2 m3 m4 m5 0 (n + 1) (va_up K n (xs (i + 2))) (va_up Ln n (Ln j)) (tc_put n (Ln j) (fun i => Wh (40 * j + i)) 0 Wh) (tc_put n (Ln j) (wdV K Wh Re j (xs (i + 2))) 0 Re) 0 (noteC ct 0) H.size) (cwV 0 hts gL_law_X3_thrown rfl rfl rfl (by decide +kernel) ⟨Nat.le_of_ble_eq_true rfl, Nat.le_of_ble_eq_true rfl⟩) ⟨tcP.blind, va_recv hK hP (ci := 3) (q0 := 5) rfl rfl, tcP.go hK hP hD hE hS⟩ rfl rfl hl.1 rfl (lv_room (Nat.le_of_ble_eq_true rfl)) dL_law_2076 ⟨by show _ ≤ 601024; omega, by show _ ≤ 7293034; omega⟩)) (fun r9 h9 => ?_)
          subst h9
          refine lv_iload hx hb dL_law_2079 (lv_at hl 1 rfl) ?_
          refine lv_icmp_eq (tgt := 2086) hx hb dL_law_2081 (by decide) (fun _ => ?_) (fun q => absurd (by decide) q)
          refine lv_iload hx hb dL_law_2086 (lv_at hl 1 rfl) ?_
          refine lv_if_ne (tgt := 2103) hx hb dL_law_2088 (by decide) (fun q => absurd (by decide) q) (fun _ => ?_)
          refine lv_aload_n hx hb dL_law_2091 rfl (lv_at hl 4 rfl) ?_
          refine lv_iconst (v := 0) hx hb dL_law_2092 (by decide) ?_
          refine tc_lald (f := (vp_updL ov 0 ((nI n).toInt64))) (v := (nI n).toInt64) hx hb hK hP 11 1 rfl rfl (by unfold vp_in; decide) (show (vp_updL ov 0 ((nI n).toInt64)) 0 = (nI n).toInt64 from if_pos rfl) dL_law_2093 ?_
          refine lv_iload hx hb dL_law_2094 (lv_at hl 0 rfl) ?_
          refine lv_i2l (v := (nI n).toInt64) hx hb dL_law_2096 rfl ?_
          refine W.lcmp hx hb dL_law_2097 ?_
          refine lv_if_eq (tgt := 2103) hx hb dL_law_2098 (by decide) (fun _ => ?_) (fun q => absurd ((lg_cmp_eq _ _).mpr rfl) q)
          refine lv_goto (tgt := 2390) hx hb dL_law_2103 (by decide) ?_
          refine W.widen (k := ce + 3) (n := sl + 44) (by omega) (by omega) ?_
          exact kc _ _ _ _ ⟨(va_up ad n uL.1), (va_up wd n uL.2.1), (va_up rd n uL.2.2), (n + 1), (va_up K n (xs (i + 2))), (va_up Ln n (Ln j)), (tc_put n (Ln j) (fun i => Wh (40 * j + i)) 0 Wh), (tc_put n (Ln j) (wdV K Wh Re j (xs (i + 2))) 0 Re), 0, (noteC ct 0), 0, (vp_updL ov 0 ((nI n).toInt64)), od, hdd, (tcI_wd hI hn hj hk hc), hP, hD, hS, lv_sub hl [2, 3, 4, 5, 6, 7] rfl⟩
        · refine lv_aload_n hx hb dL_law_2038 rfl (lv_at hl 4 rfl) ?_
          refine lv_aload_n hx hb dL_law_2039 rfl (lv_at hl 5 rfl) ?_
          refine lv_iload hx hb dL_law_2040 (lv_at hl 0 rfl) ?_
          refine lv_iconst (v := 1) hx hb dL_law_2042 (by decide) ?_
          refine lv_iadd hx hb dL_law_2043 ?_
          refine tc_sld hx hb hX hbl hbA hS hL 1 rfl (by omega) (v := (nI j)) ej dL_law_2044 ?_
          refine lv_aload_n hx hb dL_law_2045 rfl (lv_at hl 5 rfl) ?_
          refine lv_iload hx hb dL_law_2046 (lv_at hl 0 rfl) ?_
          refine lv_iconst (v := 2) hx hb dL_law_2048 (by decide) ?_
          refine lv_iadd hx hb dL_law_2049 ?_
          refine tc_sld hx hb hX hbl hbA hS hL 2 rfl (by omega) (v := (xs (i + 2))) rfl dL_law_2050 ?_
          refine lv_aload_n hx hb dL_law_2051 rfl (lv_at hl 2 rfl) ?_
          refine va_calli (tc_noX (vx_runSX (As := [.ref h0, .int (nI j), .int (xs (i + 2)), .ref o1]) (rest := []) ⟨hx, hb, hml, hown, hts⟩ (lL_widened_no l hfl D A cI cJ cD cC h0 h1 h2 h3 h4 ad wd rd (m0, .inr (3, [.int th, .int (nI n), .ref m1, .ref m2, .ref m3, .ref m4, .int cd, .ref m5])) (m1, .inl (cI, 60, .inl K)) (m2, .inl (cI, 60, .inl (fun t8 => nI (Ln t8)))) (m3, .inl (cJ, 2400, .inr (.inl Wh))) (m4, .inl (cD, 2400, .inr (.inr (.inr (.inl Re))))) (m5, .inl (cI, 6, .inl ct)) o1 o2 ov od n K Ln Wh Re cd ct H.size hI j hj hn (xs (i + 2)) hk hc) (vx_cwSW 4 hts gL_law_L_widened rfl rfl rfl (by decide +kernel) ⟨Nat.le_of_ble_eq_true rfl, Nat.le_of_ble_eq_true rfl⟩) ⟨tcPL.blind, tcPL.go hK hP hD hE hNc hS⟩ rfl rfl hl.1 rfl (lv_room (Nat.le_of_ble_eq_true rfl)) dL_law_2052 ⟨by show _ ≤ 601024; omega, by show _ ≤ 7293034; omega⟩)) hS (fun q _ h => h) (fun q h => h) (fun r uL t H locs ht hvm hw hB hz1 hk1 hS => ?_)
          subst hw
          obtain ⟨hP, hD⟩ := hB
          rw [ht] at hP
          have hP : va_P D vwCl (tc_Z cI cJ cD (h0, .inr (2, [.ref h1, .ref h2, .ref h3, .int (nI n), .int (wdC K j (xs (i + 2)))])) (h1, .inl (cC, 60, .inr (.inr (.inr (.inr (fun t8 => if t8 < n then some (ad t8) else none)))))) (h2, .inl (cI, 6, .inl (noteC ct (wdC K j (xs (i + 2)))))) (h3, .inr (1, [.ref h4])) (h4, .inl (cD, 10, .inr (.inr (.inr (.inl (fun t8 => tf_N (1023 + 2 ^ t8) 0)))))) ((o1, .inl (cJ, 1, .inr (.inl (vp_updL ov 0 (((-1) : Int32).toInt64))))) :: (o2, .inl (cD, 1, .inr (.inr (.inr (.inl od))))) :: tc_fl (tc_col cJ cD ad wd rd K Ln Wh Re) n) m0 m1 m2 m3 m4 m5 th n K Ln Wh Re cd ct) H := hP
          have hD : va_D A (tc_Z cI cJ cD (h0, .inr (2, [.ref h1, .ref h2, .ref h3, .int (nI n), .int (wdC K j (xs (i + 2)))])) (h1, .inl (cC, 60, .inr (.inr (.inr (.inr (fun t8 => if t8 < n then some (ad t8) else none)))))) (h2, .inl (cI, 6, .inl (noteC ct (wdC K j (xs (i + 2)))))) (h3, .inr (1, [.ref h4])) (h4, .inl (cD, 10, .inr (.inr (.inr (.inl (fun t8 => tf_N (1023 + 2 ^ t8) 0)))))) ((o1, .inl (cJ, 1, .inr (.inl (vp_updL ov 0 (((-1) : Int32).toInt64))))) :: (o2, .inl (cD, 1, .inr (.inr (.inr (.inl od))))) :: tc_fl (tc_col cJ cD ad wd rd K Ln Wh Re) n) m0 m1 m2 m3 m4 m5 th n K Ln Wh Re cd ct) := hD
          refine lv_istore (lv' := [(6, .int 0), (5, .int (nI i)), (4, .ref o2), (3, .ref o1), (2, .ref m0), (1, .ref h0), (0, .ref b)]) hx hb dL_law_2055 hl (by decide) rfl (fun ls hl => ?_)
          refine lv_aload_n hx hb dL_law_2057 rfl (lv_at hl 4 rfl) ?_
          refine lv_aload_n hx hb dL_law_2058 rfl (lv_at hl 6 rfl) ?_
          refine lv_iload hx hb dL_law_2059 (lv_at hl 1 rfl) ?_
          refine lv_iconst (v := 1) hx hb dL_law_2061 (by decide) ?_
          refine lv_iadd hx hb dL_law_2062 ?_
          refine tc_sld hx hb hX hbl hbA hS hL 1 rfl (by omega) (v := (nI j)) ej dL_law_2063 ?_
          refine lv_aload_n hx hb dL_law_2064 rfl (lv_at hl 6 rfl) ?_
          refine lv_iload hx hb dL_law_2065 (lv_at hl 1 rfl) ?_
          refine lv_iconst (v := 2) hx hb dL_law_2067 (by decide) ?_
          refine lv_iadd hx hb dL_law_2068 ?_
          refine tc_sld hx hb hX hbl hbA hS hL 2 rfl (by omega) (v := (xs (i + 2))) rfl dL_law_2069 ?_
          refine va_calli (va_runV (As := [.int (nI j), .int (xs (i + 2))]) (rest := []) ⟨hx, hb, hml, hown, hts⟩ (tX3_widened_no l D A cI cJ cD cC (h0, .inr (2, [.ref h1, .ref h2, .ref h3, .int (nI n), .int (wdC K j (xs (i + 2)))])) (h1, .inl (cC, 60, .inr (.inr (.inr (.inr (fun t8 => if t8 < n then some (ad t8) else none)))))) (h2, .inl (cI, 6, .inl (noteC ct (wdC K j (xs (i + 2)))))) (h3, .inr (1, [.ref h4])) (h4, .inl (cD, 10, .inr (.inr (.inr (.inl (fun t8 => tf_N (1023 + 2 ^ t8) 0)))))) ((o1, .inl (cJ, 1, .inr (.inl (vp_updL ov 0 (((-1) : Int32).toInt64))))) :: (o2, .inl (cD, 1, .inr (.inr (.inr (.inl od))))) :: tc_fl (tc_col cJ cD ad wd rd K Ln Wh Re) n) m0 m1 m2 m3 m4 m5 th n K Ln Wh Re cd ct H.size hI j hj (xs (i + 2)) hk hn hc) (cwV 2 hts gL_law_X3_widened rfl rfl rfl (by decide +kernel) ⟨Nat.le_of_ble_eq_true rfl, Nat.le_of_ble_eq_true rfl⟩) ⟨tcP.blind, va_recv hK hP (ci := 3) (q0 := 5) rfl rfl, tcP.go hK hP hD hE hS⟩ rfl rfl hl.1 rfl (lv_room (Nat.le_of_ble_eq_true rfl)) dL_law_2070 ⟨by show _ ≤ 601024; omega, by show _ ≤ 7293034; omega⟩) hS (fun q _ h => h) (fun q h => h) (fun r u t H locs ht hvm hw hB hz1 hk1 hS => ?_)
          subst hw
          obtain ⟨hP, hD⟩ := hB
          rw [ht] at hP
          refine lv_istore (lv' := [(7, .int (-1)), (6, .int 0), (5, .int (nI i)), (4, .ref o2), (3, .ref o1), (2, .ref m0), (1, .ref h0), (0, .ref b)]) hx hb dL_law_2073 hl (by decide) rfl (fun ls hl => ?_)
          refine lv_aload_n hx hb dL_law_2075 rfl (lv_at hl 5 rfl) ?_
          refine vp_callSi (tc_CR (va_runV (As := []) (rest := []) ⟨hx, hb, hml, hown, hts⟩ (tX3_thrown l D A cI cJ cD cC (h0, .inr (2, [.ref h1, .ref h2, .ref h3, .int (nI n), .int (wdC K j (xs (i + 2)))])) (h1, .inl (cC, 60, .inr (.inr (.inr (.inr (fun t8 => if t8 < n then some (ad t8) else none)))))) (h2, .inl (cI, 6, .inl (noteC ct (wdC K j (xs (i + 2)))))) (h3, .inr (1, [.ref h4])) (h4, .inl (cD, 10, .inr (.inr (.inr (.inl (fun t8 => tf_N (1023 + 2 ^ t8) 0)))))) ((o1, .inl (cJ, 1, .inr (.inl (vp_updL ov 0 (((-1) : Int32).toInt64))))) :: (o2, .inl (cD, 1, .inr (.inr (.inr (.inl od))))) :: tc_fl (tc_col cJ cD ad wd rd K Ln Wh Re) n) m0 m1 m2 m3 m4 m5 0 n K Ln Wh Re (wdC K j (xs (i + 2))) (noteC ct (wdC K j (xs (i + 2)))) H.size) (cwV 0 hts gL_law_X3_thrown rfl rfl rfl (by decide +kernel) ⟨Nat.le_of_ble_eq_true rfl, Nat.le_of_ble_eq_true rfl⟩) ⟨tcP.blind, va_recv hK hP (ci := 3) (q0 := 5) rfl rfl, tcP.go hK hP hD hE hS⟩ rfl rfl hl.1 rfl (lv_room (Nat.le_of_ble_eq_true rfl)) dL_law_2076 ⟨by show _ ≤ 601024; omega, by show _ ≤ 7293034; omega⟩)) (fun r9 h9 => ?_)
          subst h9
          refine lv_iload hx hb dL_law_2079 (lv_at hl 1 rfl) ?_
          refine lv_icmp_eq (tgt := 2086) hx hb dL_law_2081 (by decide) (fun _ => ?_) (fun q => absurd (by decide) q)
          refine lv_iload hx hb dL_law_2086 (lv_at hl 1 rfl) ?_
          refine lv_if_ne (tgt := 2103) hx hb dL_law_2088 (by decide) (fun q => absurd (by decide) q) (fun _ => ?_)
          refine lv_aload_n hx hb dL_law_2091 rfl (lv_at hl 4 rfl) ?_
          refine lv_iconst (v := 0) hx hb dL_law_2092 (by decide) ?_
          refine tc_lald (f := (vp_updL ov 0 (((-1) : Int32).toInt64))) (v := ((-1) : Int32).toInt64) hx hb hK hP 11 1 rfl rfl (by unfold vp_in; decide) (show (vp_updL ov 0 (((-1) : Int32).toInt64)) 0 = ((-1) : Int32).toInt64 from if_pos rfl) dL_law_2093 ?_
          refine lv_iload hx hb dL_law_2094 (lv_at hl 0 rfl) ?_
          refine lv_i2l (v := ((-1) : Int32).toInt64) hx hb dL_law_2096 rfl ?_
          refine W.lcmp hx hb dL_law_2097 ?_
          refine lv_if_eq (tgt := 2103) hx hb dL_law_2098 (by decide) (fun _ => ?_) (fun q => absurd ((lg_cmp_eq _ _).mpr rfl) q)
          refine lv_goto (tgt := 2390) hx hb dL_law_2103 (by decide) ?_
          refine W.widen (k := ce + 3) (n := sl + 44) (by omega) (by omega) ?_
          exact kc _ _ _ _ ⟨ad, wd, rd, n, K, Ln, Wh, Re, (wdC K j (xs (i + 2))), (noteC ct (wdC K j (xs (i + 2)))), 0, (vp_updL ov 0 (((-1) : Int32).toInt64)), od, hdd, hI, hP, hD, hS, lv_sub hl [2, 3, 4, 5, 6, 7] rfl⟩
      · refine lv_aload_n hx hb dL_law_2038 rfl (lv_at hl 4 rfl) ?_
        refine lv_aload_n hx hb dL_law_2039 rfl (lv_at hl 5 rfl) ?_
        refine lv_iload hx hb dL_law_2040 (lv_at hl 0 rfl) ?_
        refine lv_iconst (v := 1) hx hb dL_law_2042 (by decide) ?_
        refine lv_iadd hx hb dL_law_2043 ?_
        refine tc_sld hx hb hX hbl hbA hS hL 1 rfl (by omega) (v := (nI j)) ej dL_law_2044 ?_
        refine lv_aload_n hx hb dL_law_2045 rfl (lv_at hl 5 rfl) ?_
        refine lv_iload hx hb dL_law_2046 (lv_at hl 0 rfl) ?_
        refine lv_iconst (v := 2) hx hb dL_law_2048 (by decide) ?_
        refine lv_iadd hx hb dL_law_2049 ?_
        refine tc_sld hx hb hX hbl hbA hS hL 2 rfl (by omega) (v := (xs (i + 2))) rfl dL_law_2050 ?_
        refine lv_aload_n hx hb dL_law_2051 rfl (lv_at hl 2 rfl) ?_
        refine va_calli (tc_noX (vx_runSX (As := [.ref h0, .int (nI j), .int (xs (i + 2)), .ref o1]) (rest := []) ⟨hx, hb, hml, hown, hts⟩ (lLn_widened_f l hfl D A cI cJ cD cC h0 h1 h2 h3 h4 ad wd rd (m0, .inr (3, [.int th, .int (nI n), .ref m1, .ref m2, .ref m3, .ref m4, .int cd, .ref m5])) (m1, .inl (cI, 60, .inl K)) (m2, .inl (cI, 60, .inl (fun t8 => nI (Ln t8)))) (m3, .inl (cJ, 2400, .inr (.inl Wh))) (m4, .inl (cD, 2400, .inr (.inr (.inr (.inl Re))))) (m5, .inl (cI, 6, .inl ct)) o1 o2 ov od n K Ln Wh Re cd ct H.size hn j hj (xs (i + 2)) hk) (vx_cwSW 4 hts gL_law_L_widened rfl rfl rfl (by decide +kernel) ⟨Nat.le_of_ble_eq_true rfl, Nat.le_of_ble_eq_true rfl⟩) ⟨tcPL.blind, tcPL.go hK hP hD hE hNc hS⟩ rfl rfl hl.1 rfl (lv_room (Nat.le_of_ble_eq_true rfl)) dL_law_2052 ⟨by show _ ≤ 601024; omega, by show _ ≤ 7293034; omega⟩)) hS (fun q _ h => h) (fun q h => h) (fun r uL t H locs ht hvm hw hB hz1 hk1 hS => ?_)
        subst hw
        obtain ⟨hP, hD⟩ := hB
        rw [ht] at hP
        have hP : va_P D vwCl (tc_Z cI cJ cD (h0, .inr (2, [.ref h1, .ref h2, .ref h3, .int (nI n), .int cd])) (h1, .inl (cC, 60, .inr (.inr (.inr (.inr (fun t8 => if t8 < n then some (ad t8) else none)))))) (h2, .inl (cI, 6, .inl ct)) (h3, .inr (1, [.ref h4])) (h4, .inl (cD, 10, .inr (.inr (.inr (.inl (fun t8 => tf_N (1023 + 2 ^ t8) 0)))))) ((o1, .inl (cJ, 1, .inr (.inl ov))) :: (o2, .inl (cD, 1, .inr (.inr (.inr (.inl od))))) :: tc_fl (tc_col cJ cD ad wd rd K Ln Wh Re) n) m0 m1 m2 m3 m4 m5 th n K Ln Wh Re cd ct) H := hP
        have hD : va_D A (tc_Z cI cJ cD (h0, .inr (2, [.ref h1, .ref h2, .ref h3, .int (nI n), .int cd])) (h1, .inl (cC, 60, .inr (.inr (.inr (.inr (fun t8 => if t8 < n then some (ad t8) else none)))))) (h2, .inl (cI, 6, .inl ct)) (h3, .inr (1, [.ref h4])) (h4, .inl (cD, 10, .inr (.inr (.inr (.inl (fun t8 => tf_N (1023 + 2 ^ t8) 0)))))) ((o1, .inl (cJ, 1, .inr (.inl ov))) :: (o2, .inl (cD, 1, .inr (.inr (.inr (.inl od))))) :: tc_fl (tc_col cJ cD ad wd rd K Ln Wh Re) n) m0 m1 m2 m3 m4 m5 th n K Ln Wh Re cd ct) := hD
        refine lv_istore (lv' := [(6, .int 3), (5, .int (nI i)), (4, .ref o2), (3, .ref o1), (2, .ref m0), (1, .ref h0), (0, .ref b)]) hx hb dL_law_2055 hl (by decide) rfl (fun ls hl => ?_)
        refine lv_aload_n hx hb dL_law_2057 rfl (lv_at hl 4 rfl) ?_
        refine lv_aload_n hx hb dL_law_2058 rfl (lv_at hl 6 rfl) ?_
        refine lv_iload hx hb dL_law_2059 (lv_at hl 1 rfl) ?_
        refine lv_iconst (v := 1) hx hb dL_law_2061 (by decide) ?_
        refine lv_iadd hx hb dL_law_2062 ?_
        refine tc_sld hx hb hX hbl hbA hS hL 1 rfl (by omega) (v := (nI j)) ej dL_law_2063 ?_
        refine lv_aload_n hx hb dL_law_2064 rfl (lv_at hl 6 rfl) ?_
        refine lv_iload hx hb dL_law_2065 (lv_at hl 1 rfl) ?_
        refine lv_iconst (v := 2) hx hb dL_law_2067 (by decide) ?_
        refine lv_iadd hx hb dL_law_2068 ?_
        refine tc_sld hx hb hX hbl hbA hS hL 2 rfl (by omega) (v := (xs (i + 2))) rfl dL_law_2069 ?_
        refine va_calli (va_runV (As := [.int (nI j), .int (xs (i + 2))]) (rest := []) ⟨hx, hb, hml, hown, hts⟩ (tX3_widened_f l D A cI cJ cD cC (h0, .inr (2, [.ref h1, .ref h2, .ref h3, .int (nI n), .int cd])) (h1, .inl (cC, 60, .inr (.inr (.inr (.inr (fun t8 => if t8 < n then some (ad t8) else none)))))) (h2, .inl (cI, 6, .inl ct)) (h3, .inr (1, [.ref h4])) (h4, .inl (cD, 10, .inr (.inr (.inr (.inl (fun t8 => tf_N (1023 + 2 ^ t8) 0)))))) ((o1, .inl (cJ, 1, .inr (.inl ov))) :: (o2, .inl (cD, 1, .inr (.inr (.inr (.inl od))))) :: tc_fl (tc_col cJ cD ad wd rd K Ln Wh Re) n) m0 m1 m2 m3 m4 m5 th n K Ln Wh Re cd ct H.size hI j hj (xs (i + 2)) hk hn) (cwV 2 hts gL_law_X3_widened rfl rfl rfl (by decide +kernel) ⟨Nat.le_of_ble_eq_true rfl, Nat.le_of_ble_eq_true rfl⟩) ⟨tcP.blind, va_recv hK hP (ci := 3) (q0 := 5) rfl rfl, tcP.go hK hP hD hE hS⟩ rfl rfl hl.1 rfl (lv_room (Nat.le_of_ble_eq_true rfl)) dL_law_2070 ⟨by show _ ≤ 601024; omega, by show _ ≤ 7293034; omega⟩) hS (fun q _ h => h) (fun q h => h) (fun r u t H locs ht hvm hw hB hz1 hk1 hS => ?_)
        subst hw
        obtain ⟨hP, hD⟩ := hB
        rw [ht] at hP
        refine lv_istore (lv' := [(7, .int 0), (6, .int 3), (5, .int (nI i)), (4, .ref o2), (3, .ref o1), (2, .ref m0), (1, .ref h0), (0, .ref b)]) hx hb dL_law_2073 hl (by decide) rfl (fun ls hl => ?_)
        refine lv_aload_n hx hb dL_law_2075 rfl (lv_at hl 5 rfl) ?_
        refine vp_callSi (tc_CR (va_runV (As := []) (rest := []) ⟨hx, hb, hml, hown, hts⟩ (tX3_thrown l D A cI cJ cD cC (h0, .inr (2, [.ref h1, .ref h2, .ref h3, .int (nI n), .int cd])) (h1, .inl (cC, 60, .inr (.inr (.inr (.inr (fun t8 => if t8 < n then some (ad t8) else none)))))) (h2, .inl (cI, 6, .inl ct)) (h3, .inr (1, [.ref h4])) (h4, .inl (cD, 10, .inr (.inr (.inr (.inl (fun t8 => tf_N (1023 + 2 ^ t8) 0)))))) ((o1, .inl (cJ, 1, .inr (.inl ov))) :: (o2, .inl (cD, 1, .inr (.inr (.inr (.inl od))))) :: tc_fl (tc_col cJ cD ad wd rd K Ln Wh Re) n) m0 m1 m2 m3 m4 m5 3 n K Ln Wh Re cd ct H.size) (cwV 0 hts gL_law_X3_thrown rfl rfl rfl (by decide +kernel) ⟨Nat.le_of_ble_eq_true rfl, Nat.le_of_ble_eq_true rfl⟩) ⟨tcP.blind, va_recv hK hP (ci := 3) (q0 := 5) rfl rfl, tcP.go hK hP hD hE hS⟩ rfl rfl hl.1 rfl (lv_room (Nat.le_of_ble_eq_true rfl)) dL_law_2076 ⟨by show _ ≤ 601024; omega, by show _ ≤ 7293034; omega⟩)) (fun r9 h9 => ?_)
        subst h9
        refine lv_iload hx hb dL_law_2079 (lv_at hl 1 rfl) ?_
        refine lv_icmp_eq (tgt := 2086) hx hb dL_law_2081 (by decide) (fun _ => ?_) (fun q => absurd (by decide) q)
        refine lv_iload hx hb dL_law_2086 (lv_at hl 1 rfl) ?_
        refine lv_if_ne (tgt := 2103) hx hb dL_law_2088 (by decide) (fun _ => ?_) (fun q => absurd q (by decide))
        refine lv_goto (tgt := 2390) hx hb dL_law_2103 (by decide) ?_
        refine W.widen (k := ce + 3) (n := sl + 44) (by omega) (by omega) ?_
        exact kc _ _ _ _ ⟨ad, wd, rd, n, K, Ln, Wh, Re, cd, ct, 3, ov, od, hdd, hI, hP, hD, hS, lv_sub hl [2, 3, 4, 5, 6, 7] rfl⟩
  · refine lv_aload_n hx hb dL_law_2038 rfl (lv_at hl 4 rfl) ?_
    refine lv_aload_n hx hb dL_law_2039 rfl (lv_at hl 5 rfl) ?_
    refine lv_iload hx hb dL_law_2040 (lv_at hl 0 rfl) ?_
    refine lv_iconst (v := 1) hx hb dL_law_2042 (by decide) ?_
    refine lv_iadd hx hb dL_law_2043 ?_
    refine tc_sld hx hb hX hbl hbA hS hL 1 rfl (by omega) (v := (xs (i + 1))) rfl dL_law_2044 ?_
    refine lv_aload_n hx hb dL_law_2045 rfl (lv_at hl 5 rfl) ?_
    refine lv_iload hx hb dL_law_2046 (lv_at hl 0 rfl) ?_
    refine lv_iconst (v := 2) hx hb dL_law_2048 (by decide) ?_
    refine lv_iadd hx hb dL_law_2049 ?_
    refine tc_sld hx hb hX hbl hbA hS hL 2 rfl (by omega) (v := (xs (i + 2))) rfl dL_law_2050 ?_
    refine lv_aload_n hx hb dL_law_2051 rfl (lv_at hl 2 rfl) ?_
    refine va_calli (tc_noX (vx_runSX (As := [.ref h0, .int (xs (i + 1)), .int (xs (i + 2)), .ref o1]) (rest := []) ⟨hx, hb, hml, hown, hts⟩ (lLn_widened l hfl D A cI cJ cD cC h0 h1 h2 h3 h4 ad wd rd (m0, .inr (3, [.int th, .int (nI n), .ref m1, .ref m2, .ref m3, .ref m4, .int cd, .ref m5])) (m1, .inl (cI, 60, .inl K)) (m2, .inl (cI, 60, .inl (fun t8 => nI (Ln t8)))) (m3, .inl (cJ, 2400, .inr (.inl Wh))) (m4, .inl (cD, 2400, .inr (.inr (.inr (.inl Re))))) (m5, .inl (cI, 6, .inl ct)) o1 o2 ov od n K Ln Wh Re cd ct H.size hn60 (xs (i + 1)) hc (xs (i + 2))) (vx_cwSW 4 hts gL_law_L_widened rfl rfl rfl (by decide +kernel) ⟨Nat.le_of_ble_eq_true rfl, Nat.le_of_ble_eq_true rfl⟩) ⟨tcPL.blind, tcPL.go hK hP hD hE hNc hS⟩ rfl rfl hl.1 rfl (lv_room (Nat.le_of_ble_eq_true rfl)) dL_law_2052 ⟨by show _ ≤ 601024; omega, by show _ ≤ 7293034; omega⟩)) hS (fun q _ h => h) (fun q h => h) (fun r uL t H locs ht hvm hw hB hz1 hk1 hS => ?_)
    subst hw
    obtain ⟨hP, hD⟩ := hB
    rw [ht] at hP
    have hP : va_P D vwCl (tc_Z cI cJ cD (h0, .inr (2, [.ref h1, .ref h2, .ref h3, .int (nI n), .int cd])) (h1, .inl (cC, 60, .inr (.inr (.inr (.inr (fun t8 => if t8 < n then some (ad t8) else none)))))) (h2, .inl (cI, 6, .inl ct)) (h3, .inr (1, [.ref h4])) (h4, .inl (cD, 10, .inr (.inr (.inr (.inl (fun t8 => tf_N (1023 + 2 ^ t8) 0)))))) ((o1, .inl (cJ, 1, .inr (.inl ov))) :: (o2, .inl (cD, 1, .inr (.inr (.inr (.inl od))))) :: tc_fl (tc_col cJ cD ad wd rd K Ln Wh Re) n) m0 m1 m2 m3 m4 m5 th n K Ln Wh Re cd ct) H := hP
    have hD : va_D A (tc_Z cI cJ cD (h0, .inr (2, [.ref h1, .ref h2, .ref h3, .int (nI n), .int cd])) (h1, .inl (cC, 60, .inr (.inr (.inr (.inr (fun t8 => if t8 < n then some (ad t8) else none)))))) (h2, .inl (cI, 6, .inl ct)) (h3, .inr (1, [.ref h4])) (h4, .inl (cD, 10, .inr (.inr (.inr (.inl (fun t8 => tf_N (1023 + 2 ^ t8) 0)))))) ((o1, .inl (cJ, 1, .inr (.inl ov))) :: (o2, .inl (cD, 1, .inr (.inr (.inr (.inl od))))) :: tc_fl (tc_col cJ cD ad wd rd K Ln Wh Re) n) m0 m1 m2 m3 m4 m5 th n K Ln Wh Re cd ct) := hD
    refine lv_istore (lv' := [(6, .int 1), (5, .int (nI i)), (4, .ref o2), (3, .ref o1), (2, .ref m0), (1, .ref h0), (0, .ref b)]) hx hb dL_law_2055 hl (by decide) rfl (fun ls hl => ?_)
    refine lv_aload_n hx hb dL_law_2057 rfl (lv_at hl 4 rfl) ?_
    refine lv_aload_n hx hb dL_law_2058 rfl (lv_at hl 6 rfl) ?_
    refine lv_iload hx hb dL_law_2059 (lv_at hl 1 rfl) ?_
    refine lv_iconst (v := 1) hx hb dL_law_2061 (by decide) ?_
    refine lv_iadd hx hb dL_law_2062 ?_
    refine tc_sld hx hb hX hbl hbA hS hL 1 rfl (by omega) (v := (xs (i + 1))) rfl dL_law_2063 ?_
    refine lv_aload_n hx hb dL_law_2064 rfl (lv_at hl 6 rfl) ?_
    refine lv_iload hx hb dL_law_2065 (lv_at hl 1 rfl) ?_
    refine lv_iconst (v := 2) hx hb dL_law_2067 (by decide) ?_
    refine lv_iadd hx hb dL_law_2068 ?_
    refine tc_sld hx hb hX hbl hbA hS hL 2 rfl (by omega) (v := (xs (i + 2))) rfl dL_law_2069 ?_
    refine va_calli (va_runV (As := [.int (xs (i + 1)), .int (xs (i + 2))]) (rest := []) ⟨hx, hb, hml, hown, hts⟩ (tX3_widened_n l D A cI cJ cD cC (h0, .inr (2, [.ref h1, .ref h2, .ref h3, .int (nI n), .int cd])) (h1, .inl (cC, 60, .inr (.inr (.inr (.inr (fun t8 => if t8 < n then some (ad t8) else none)))))) (h2, .inl (cI, 6, .inl ct)) (h3, .inr (1, [.ref h4])) (h4, .inl (cD, 10, .inr (.inr (.inr (.inl (fun t8 => tf_N (1023 + 2 ^ t8) 0)))))) ((o1, .inl (cJ, 1, .inr (.inl ov))) :: (o2, .inl (cD, 1, .inr (.inr (.inr (.inl od))))) :: tc_fl (tc_col cJ cD ad wd rd K Ln Wh Re) n) m0 m1 m2 m3 m4 m5 th n K Ln Wh Re cd ct H.size hI (xs (i + 1)) hc (xs (i + 2))) (cwV 2 hts gL_law_X3_widened rfl rfl rfl (by decide +kernel) ⟨Nat.le_of_ble_eq_true rfl, Nat.le_of_ble_eq_true rfl⟩) ⟨tcP.blind, va_recv hK hP (ci := 3) (q0 := 5) rfl rfl, tcP.go hK hP hD hE hS⟩ rfl rfl hl.1 rfl (lv_room (Nat.le_of_ble_eq_true rfl)) dL_law_2070 ⟨by show _ ≤ 601024; omega, by show _ ≤ 7293034; omega⟩) hS (fun q _ h => h) (fun q h => h) (fun r u t H locs ht hvm hw hB hz1 hk1 hS => ?_)
    subst hw
    obtain ⟨hP, hD⟩ := hB
    rw [ht] at hP
    refine lv_istore (lv' := [(7, .int 0), (6, .int 1), (5, .int (nI i)), (4, .ref o2), (3, .ref o1), (2, .ref m0), (1, .ref h0), (0, .ref b)]) hx hb dL_law_2073 hl (by decide) rfl (fun ls hl => ?_)
    refine lv_aload_n hx hb dL_law_2075 rfl (lv_at hl 5 rfl) ?_
    refine vp_callSi (tc_CR (va_runV (As := []) (rest := []) ⟨hx, hb, hml, hown, hts⟩ (tX3_thrown l D A cI cJ cD cC (h0, .inr (2, [.ref h1, .ref h2, .ref h3, .int (nI n), .int cd])) (h1, .inl (cC, 60, .inr (.inr (.inr (.inr (fun t8 => if t8 < n then some (ad t8) else none)))))) (h2, .inl (cI, 6, .inl ct)) (h3, .inr (1, [.ref h4])) (h4, .inl (cD, 10, .inr (.inr (.inr (.inl (fun t8 => tf_N (1023 + 2 ^ t8) 0)))))) ((o1, .inl (cJ, 1, .inr (.inl ov))) :: (o2, .inl (cD, 1, .inr (.inr (.inr (.inl od))))) :: tc_fl (tc_col cJ cD ad wd rd K Ln Wh Re) n) m0 m1 m2 m3 m4 m5 1 n K Ln Wh Re cd ct H.size) (cwV 0 hts gL_law_X3_thrown rfl rfl rfl (by decide +kernel) ⟨Nat.le_of_ble_eq_true rfl, Nat.le_of_ble_eq_true rfl⟩) ⟨tcP.blind, va_recv hK hP (ci := 3) (q0 := 5) rfl rfl, tcP.go hK hP hD hE hS⟩ rfl rfl hl.1 rfl (lv_room (Nat.le_of_ble_eq_true rfl)) dL_law_2076 ⟨by show _ ≤ 601024; omega, by show _ ≤ 7293034; omega⟩)) (fun r9 h9 => ?_)
    subst h9
    refine lv_iload hx hb dL_law_2079 (lv_at hl 1 rfl) ?_
    refine lv_icmp_eq (tgt := 2086) hx hb dL_law_2081 (by decide) (fun _ => ?_) (fun q => absurd (by decide) q)
    refine lv_iload hx hb dL_law_2086 (lv_at hl 1 rfl) ?_
    refine lv_if_ne (tgt := 2103) hx hb dL_law_2088 (by decide) (fun _ => ?_) (fun q => absurd q (by decide))
    refine lv_goto (tgt := 2390) hx hb dL_law_2103 (by decide) ?_
    refine W.widen (k := ce + 3) (n := sl + 44) (by omega) (by omega) ?_
    exact kc _ _ _ _ ⟨ad, wd, rd, n, K, Ln, Wh, Re, cd, ct, 1, ov, od, hdd, hI, hP, hD, hS, lv_sub hl [2, 3, 4, 5, 6, 7] rfl⟩
set_option maxHeartbeats 4000000 in
set_option maxRecDepth 100000 in
theorem law_25 {p : Program} {l : Launch} {e : Env} {s : State} {m : MethodId} {below : List Frame} {meth : Method} {c : Code} {D : va_G} {A : Nat → Prop} {cI cJ cD cC : ClassId} {h0 h1 h2 h3 h4 m0 m1 m2 m3 m4 m5 o1 o2 : Nat} {b L : Nat} {xs : Nat → Int32} {Q : State → Prop} (C0 : LCtx p l D A cI cJ cD cC s m c b L xs) {d : Drawn} {H : Heap} {locs : List Loc} {ls : Array Slot} {i ce sl : Nat} (hi : i + 6 ≤ L) (hce : ce + 3 ≤ 601024) (hsl : sl + 44 ≤ 7293034) (hv : LInv D A cI cJ cD cC h0 h1 h2 h3 h4 m0 m1 m2 m3 m4 m5 o1 o2 s b d H locs i ls) (kc : ∀ (d : Drawn) (H : Heap) (locs : List Loc) (ls : Array Slot), LInv D A cI cJ cD cC h0 h1 h2 h3 h4 m0 m1 m2 m3 m4 m5 o1 o2 s b d H locs i ls → W p l e room_1 (s.setDrawn d) m #[Value.ref b] below meth c H locs (ce + 3) (sl + 44) Q (F0 m 2390 ls [])) : W p l e room_1 (s.setDrawn d) m #[Value.ref b] below meth c H locs ce sl Q (F0 m 2106 ls []) := by
  obtain ⟨hx, hb, hml, hown0, htsB, hX0, hbl, hbA, hA, hL, hfl, hK0, hE0, hNc0⟩ := C0
  obtain ⟨ad, wd, rd, n, K, Ln, Wh, Re, cd, ct, th, ov, od, hdd, hI, hP, hD, hS, hl⟩ := hv
  have hn60 : n ≤ 60 := hI.1
  have hts := dr_words htsB d
  have hK : va_K D vwCl (tcTY cI cJ cD cC) (s.setDrawn d) := hK0
  have hE : tc_E A (s.setDrawn d) := hE0
  have hNc : tc_Nc (s.setDrawn d) := hNc0
  have hown : (s.setDrawn d).vm.findClass RL = some m.cls := hown0
  have hX : va_X b L xs (s.setDrawn d) s.heap := hX0
  refine lv_aload_n hx hb dL_law_2106 rfl (lv_at hl 4 rfl) ?_
  refine vp_callSi (tc_CR (va_runV (As := []) (rest := []) ⟨hx, hb, hml, hown, hts⟩ (tX2_code l D A cI cJ cD cC h0 h1 h2 h3 h4 ad wd rd (tc_Y cJ cD (m0, .inr (3, [.int th, .int (nI n), .ref m1, .ref m2, .ref m3, .ref m4, .int cd, .ref m5])) (m1, .inl (cI, 60, .inl K)) (m2, .inl (cI, 60, .inl (fun t8 => nI (Ln t8)))) (m3, .inl (cJ, 2400, .inr (.inl Wh))) (m4, .inl (cD, 2400, .inr (.inr (.inr (.inl Re))))) (m5, .inl (cI, 6, .inl ct)) o1 o2 ov od) n K Ln Wh Re cd ct H.size hI) (cwV 0 hts gL_law_X2_code rfl rfl rfl (by decide +kernel) ⟨Nat.le_of_ble_eq_true rfl, Nat.le_of_ble_eq_true rfl⟩) ⟨tcP.blind, va_recv hK hP (ci := 2) (q0 := 0) rfl rfl, tcP.go hK hP hD hE hS⟩ rfl rfl hl.1 rfl (lv_room (Nat.le_of_ble_eq_true rfl)) dL_law_2107 ⟨by show _ ≤ 601024; omega, by show _ ≤ 7293034; omega⟩)) (fun r9 h9 => ?_)
  rw [h9]
  have hP : va_P D vwCl (tc_Z cI cJ cD (h0, .inr (2, [.ref h1, .ref h2, .ref h3, .int (nI n), .int cd])) (h1, .inl (cC, 60, .inr (.inr (.inr (.inr (fun t8 => if t8 < n then some (ad t8) else none)))))) (h2, .inl (cI, 6, .inl ct)) (h3, .inr (1, [.ref h4])) (h4, .inl (cD, 10, .inr (.inr (.inr (.inl (fun t8 => tf_N (1023 + 2 ^ t8) 0)))))) ((o1, .inl (cJ, 1, .inr (.inl ov))) :: (o2, .inl (cD, 1, .inr (.inr (.inr (.inl od))))) :: tc_fl (tc_col cJ cD ad wd rd K Ln Wh Re) n) m0 m1 m2 m3 m4 m5 th n K Ln Wh Re cd ct) H := hP
  have hD : va_D A (tc_Z cI cJ cD (h0, .inr (2, [.ref h1, .ref h2, .ref h3, .int (nI n), .int cd])) (h1, .inl (cC, 60, .inr (.inr (.inr (.inr (fun t8 => if t8 < n then some (ad t8) else none)))))) (h2, .inl (cI, 6, .inl ct)) (h3, .inr (1, [.ref h4])) (h4, .inl (cD, 10, .inr (.inr (.inr (.inl (fun t8 => tf_N (1023 + 2 ^ t8) 0)))))) ((o1, .inl (cJ, 1, .inr (.inl ov))) :: (o2, .inl (cD, 1, .inr (.inr (.inr (.inl od))))) :: tc_fl (tc_col cJ cD ad wd rd K Ln Wh Re) n) m0 m1 m2 m3 m4 m5 th n K Ln Wh Re cd ct) := hD
  refine lv_aload_n hx hb dL_law_2110 rfl (lv_at hl 3 rfl) ?_
  refine va_calli (va_runV (As := []) (rest := [.int cd]) ⟨hx, hb, hml, hown, hts⟩ (tX3_code l D A cI cJ cD cC (h0, .inr (2, [.ref h1, .ref h2, .ref h3, .int (nI n), .int cd])) (h1, .inl (cC, 60, .inr (.inr (.inr (.inr (fun t8 => if t8 < n then some (ad t8) else none)))))) (h2, .inl (cI, 6, .inl ct)) (h3, .inr (1, [.ref h4])) (h4, .inl (cD, 10, .inr (.inr (.inr (.inl (fun t8 => tf_N (1023 + 2 ^ t8) 0)))))) ((o1, .inl (cJ, 1, .inr (.inl ov))) :: (o2, .inl (cD, 1, .inr (.inr (.inr (.inl od))))) :: tc_fl (tc_col cJ cD ad wd rd K Ln Wh Re) n) m0 m1 m2 m3 m4 m5 th n K Ln Wh Re cd ct H.size) (cwV 0 hts gL_law_X3_code rfl rfl rfl (by decide +kernel) ⟨Nat.le_of_ble_eq_true rfl, Nat.le_of_ble_eq_true rfl⟩) ⟨tcP.blind, va_recv hK hP (ci := 3) (q0 := 5) rfl rfl, tcP.go hK hP hD hE hS⟩ rfl rfl hl.1 rfl (lv_room (Nat.le_of_ble_eq_true rfl)) dL_law_2111 ⟨by show _ ≤ 601024; omega, by show _ ≤ 7293034; omega⟩) hS (fun q _ h => h) (fun q h => h) (fun r u t H locs ht hvm hw hB hz1 hk1 hS => ?_)
  rw [hw]
  obtain ⟨hP, hD⟩ := hB
  rw [ht] at hP
  refine lv_icmp_eq (tgt := 2390) hx hb dL_law_2114 (by decide) (fun _ => ?_) (fun q => absurd (rfl) q)
  refine W.widen (k := ce + 3) (n := sl + 44) (by omega) (by omega) ?_
  exact kc _ _ _ _ ⟨ad, wd, rd, n, K, Ln, Wh, Re, cd, ct, 0, ov, od, hdd, hI, hP, hD, hS, lv_sub hl [0, 1, 2, 3, 4, 5] rfl⟩
set_option maxHeartbeats 4000000 in
set_option maxRecDepth 100000 in
theorem law_26 {p : Program} {l : Launch} {e : Env} {s : State} {m : MethodId} {below : List Frame} {meth : Method} {c : Code} {D : va_G} {A : Nat → Prop} {cI cJ cD cC : ClassId} {h0 h1 h2 h3 h4 m0 m1 m2 m3 m4 m5 o1 o2 : Nat} {b L : Nat} {xs : Nat → Int32} {Q : State → Prop} (C0 : LCtx p l D A cI cJ cD cC s m c b L xs) {d : Drawn} {H : Heap} {locs : List Loc} {ls : Array Slot} {i ce sl : Nat} (hi : i + 6 ≤ L) (hce : ce + 3 ≤ 601024) (hsl : sl + 44 ≤ 7293034) (hv : LInv D A cI cJ cD cC h0 h1 h2 h3 h4 m0 m1 m2 m3 m4 m5 o1 o2 s b d H locs i ls) (kc : ∀ (d : Drawn) (H : Heap) (locs : List Loc) (ls : Array Slot), LInv D A cI cJ cD cC h0 h1 h2 h3 h4 m0 m1 m2 m3 m4 m5 o1 o2 s b d H locs i ls → W p l e room_1 (s.setDrawn d) m #[Value.ref b] below meth c H locs (ce + 3) (sl + 44) Q (F0 m 2390 ls [])) : W p l e room_1 (s.setDrawn d) m #[Value.ref b] below meth c H locs ce sl Q (F0 m 2119 ls []) := by
  obtain ⟨hx, hb, hml, hown0, htsB, hX0, hbl, hbA, hA, hL, hfl, hK0, hE0, hNc0⟩ := C0
  obtain ⟨ad, wd, rd, n, K, Ln, Wh, Re, cd, ct, th, ov, od, hdd, hI, hP, hD, hS, hl⟩ := hv
  have hn60 : n ≤ 60 := hI.1
  have hts := dr_words htsB d
  have hK : va_K D vwCl (tcTY cI cJ cD cC) (s.setDrawn d) := hK0
  have hE : tc_E A (s.setDrawn d) := hE0
  have hNc : tc_Nc (s.setDrawn d) := hNc0
  have hown : (s.setDrawn d).vm.findClass RL = some m.cls := hown0
  have hX : va_X b L xs (s.setDrawn d) s.heap := hX0
  rcases Classical.em (vp_in (xs (i + 1)) 6) with hk | hk
  · refine lv_aload_n hx hb dL_law_2119 rfl (lv_at hl 4 rfl) ?_
    refine lv_aload_n hx hb dL_law_2120 rfl (lv_at hl 5 rfl) ?_
    refine lv_iload hx hb dL_law_2121 (lv_at hl 0 rfl) ?_
    refine lv_iconst (v := 1) hx hb dL_law_2123 (by decide) ?_
    refine lv_iadd hx hb dL_law_2124 ?_
    refine tc_sld hx hb hX hbl hbA hS hL 1 rfl (by omega) (v := (xs (i + 1))) rfl dL_law_2125 ?_
    refine lv_aload_n hx hb dL_law_2126 rfl (lv_at hl 2 rfl) ?_
    refine va_calli (tc_noX (vx_runSX (As := [.ref h0, .int (xs (i + 1)), .ref o1]) (rest := []) ⟨hx, hb, hml, hown, hts⟩ (lL_count l hfl D A cI cJ cD cC h0 h1 h2 h3 h4 ad wd rd (m0, .inr (3, [.int th, .int (nI n), .ref m1, .ref m2, .ref m3, .ref m4, .int cd, .ref m5])) (m1, .inl (cI, 60, .inl K)) (m2, .inl (cI, 60, .inl (fun t8 => nI (Ln t8)))) (m3, .inl (cJ, 2400, .inr (.inl Wh))) (m4, .inl (cD, 2400, .inr (.inr (.inr (.inl Re))))) (m5, .inl (cI, 6, .inl ct)) o1 o2 ov od n K Ln Wh Re cd ct H.size hI (xs (i + 1)) hk) (vx_cwSW 3 hts gL_law_L_count rfl rfl rfl (by decide +kernel) ⟨Nat.le_of_ble_eq_true rfl, Nat.le_of_ble_eq_true rfl⟩) ⟨tcPL.blind, tcPL.go hK hP hD hE hNc hS⟩ rfl rfl hl.1 rfl (lv_room (Nat.le_of_ble_eq_true rfl)) dL_law_2127 ⟨by show _ ≤ 601024; omega, by show _ ≤ 7293034; omega⟩)) hS (fun q _ h => h) (fun q h => h) (fun r uL t H locs ht hvm hw hB hz1 hk1 hS => ?_)
    subst hw
    obtain ⟨hP, hD⟩ := hB
    rw [ht] at hP
    have hP : va_P D vwCl (tc_Z cI cJ cD (h0, .inr (2, [.ref h1, .ref h2, .ref h3, .int (nI n), .int cd])) (h1, .inl (cC, 60, .inr (.inr (.inr (.inr (fun t8 => if t8 < n then some (ad t8) else none)))))) (h2, .inl (cI, 6, .inl ct)) (h3, .inr (1, [.ref h4])) (h4, .inl (cD, 10, .inr (.inr (.inr (.inl (fun t8 => tf_N (1023 + 2 ^ t8) 0)))))) ((o1, .inl (cJ, 1, .inr (.inl (vp_updL ov 0 ((ct (xs (i + 1)).toNatClampNeg).toInt64))))) :: (o2, .inl (cD, 1, .inr (.inr (.inr (.inl od))))) :: tc_fl (tc_col cJ cD ad wd rd K Ln Wh Re) n) m0 m1 m2 m3 m4 m5 th n K Ln Wh Re cd ct) H := hP
    have hD : va_D A (tc_Z cI cJ cD (h0, .inr (2, [.ref h1, .ref h2, .ref h3, .int (nI n), .int cd])) (h1, .inl (cC, 60, .inr (.inr (.inr (.inr (fun t8 => if t8 < n then some (ad t8) else none)))))) (h2, .inl (cI, 6, .inl ct)) (h3, .inr (1, [.ref h4])) (h4, .inl (cD, 10, .inr (.inr (.inr (.inl (fun t8 => tf_N (1023 + 2 ^ t8) 0)))))) ((o1, .inl (cJ, 1, .inr (.inl (vp_updL ov 0 ((ct (xs (i + 1)).toNatClampNeg).toInt64))))) :: (o2, .inl (cD, 1, .inr (.inr (.inr (.inl od))))) :: tc_fl (tc_col cJ cD ad wd rd K Ln Wh Re) n) m0 m1 m2 m3 m4 m5 th n K Ln Wh Re cd ct) := hD
    refine lv_istore (lv' := [(6, .int 0), (5, .int (nI i)), (4, .ref o2), (3, .ref o1), (2, .ref m0), (1, .ref h0), (0, .ref b)]) hx hb dL_law_2130 hl (by decide) rfl (fun ls hl => ?_)
    refine lv_aload_n hx hb dL_law_2132 rfl (lv_at hl 4 rfl) ?_
    refine lv_aload_n hx hb dL_law_2133 rfl (lv_at hl 6 rfl) ?_
    refine lv_iload hx hb dL_law_2134 (lv_at hl 1 rfl) ?_
    refine lv_iconst (v := 1) hx hb dL_law_2136 (by decide) ?_
    refine lv_iadd hx hb dL_law_2137 ?_
    refine tc_sld hx hb hX hbl hbA hS hL 1 rfl (by omega) (v := (xs (i + 1))) rfl dL_law_2138 ?_
    refine va_calli (va_runV (As := [.int (xs (i + 1))]) (rest := []) ⟨hx, hb, hml, hown, hts⟩ (tX3_count_y l D A cI cJ cD cC (h0, .inr (2, [.ref h1, .ref h2, .ref h3, .int (nI n), .int cd])) (h1, .inl (cC, 60, .inr (.inr (.inr (.inr (fun t8 => if t8 < n then some (ad t8) else none)))))) (h2, .inl (cI, 6, .inl ct)) (h3, .inr (1, [.ref h4])) (h4, .inl (cD, 10, .inr (.inr (.inr (.inl (fun t8 => tf_N (1023 + 2 ^ t8) 0)))))) ((o1, .inl (cJ, 1, .inr (.inl (vp_updL ov 0 ((ct (xs (i + 1)).toNatClampNeg).toInt64))))) :: (o2, .inl (cD, 1, .inr (.inr (.inr (.inl od))))) :: tc_fl (tc_col cJ cD ad wd rd K Ln Wh Re) n) m0 m1 m2 m3 m4 m5 th n K Ln Wh Re cd ct H.size (xs (i + 1)) hk) (cwV 1 hts gL_law_X3_count rfl rfl rfl (by decide +kernel) ⟨Nat.le_of_ble_eq_true rfl, Nat.le_of_ble_eq_true rfl⟩) ⟨tcP.blind, va_recv hK hP (ci := 3) (q0 := 5) rfl rfl, tcP.go hK hP hD hE hS⟩ rfl rfl hl.1 rfl (lv_room (Nat.le_of_ble_eq_true rfl)) dL_law_2139 ⟨by show _ ≤ 601024; omega, by show _ ≤ 7293034; omega⟩) hS (fun q _ h => h) (fun q h => h) (fun r u t H locs ht hvm hw hB hz1 hk1 hS => ?_)
    subst hw
    obtain ⟨hP, hD⟩ := hB
    rw [ht] at hP
    refine lv_istore (lv' := [(7, .int (ct (xs (i + 1)).toNatClampNeg)), (6, .int 0), (5, .int (nI i)), (4, .ref o2), (3, .ref o1), (2, .ref m0), (1, .ref h0), (0, .ref b)]) hx hb dL_law_2142 hl (by decide) rfl (fun ls hl => ?_)
    refine lv_aload_n hx hb dL_law_2144 rfl (lv_at hl 5 rfl) ?_
    refine vp_callSi (tc_CR (va_runV (As := []) (rest := []) ⟨hx, hb, hml, hown, hts⟩ (tX3_thrown l D A cI cJ cD cC (h0, .inr (2, [.ref h1, .ref h2, .ref h3, .int (nI n), .int cd])) (h1, .inl (cC, 60, .inr (.inr (.inr (.inr (fun t8 => if t8 < n then some (ad t8) else none)))))) (h2, .inl (cI, 6, .inl ct)) (h3, .inr (1, [.ref h4])) (h4, .inl (cD, 10, .inr (.inr (.inr (.inl (fun t8 => tf_N (1023 + 2 ^ t8) 0)))))) ((o1, .inl (cJ, 1, .inr (.inl (vp_updL ov 0 ((ct (xs (i + 1)).toNatClampNeg).toInt64))))) :: (o2, .inl (cD, 1, .inr (.inr (.inr (.inl od))))) :: tc_fl (tc_col cJ cD ad wd rd K Ln Wh Re) n) m0 m1 m2 m3 m4 m5 0 n K Ln Wh Re cd ct H.size) (cwV 0 hts gL_law_X3_thrown rfl rfl rfl (by decide +kernel) ⟨Nat.le_of_ble_eq_true rfl, Nat.le_of_ble_eq_true rfl⟩) ⟨tcP.blind, va_recv hK hP (ci := 3) (q0 := 5) rfl rfl, tcP.go hK hP hD hE hS⟩ rfl rfl hl.1 rfl (lv_room (Nat.le_of_ble_eq_true rfl)) dL_law_2145 ⟨by show _ ≤ 601024; omega, by show _ ≤ 7293034; omega⟩)) (fun r9 h9 => ?_)
    subst h9
    refine lv_iload hx hb dL_law_2148 (lv_at hl 1 rfl) ?_
    refine lv_icmp_eq (tgt := 2155) hx hb dL_law_2150 (by decide) (fun _ => ?_) (fun q => absurd (by decide) q)
    refine lv_iload hx hb dL_law_2155 (lv_at hl 1 rfl) ?_
    refine lv_if_ne (tgt := 2172) hx hb dL_law_2157 (by decide) (fun q => absurd (by decide) q) (fun _ => ?_)
    refine lv_aload_n hx hb dL_law_2160 rfl (lv_at hl 4 rfl) ?_
    refine lv_iconst (v := 0) hx hb dL_law_2161 (by decide) ?_
    refine tc_lald (f := (vp_updL ov 0 ((ct (xs (i + 1)).toNatClampNeg).toInt64))) (v := (ct (xs (i + 1)).toNatClampNeg).toInt64) hx hb hK hP 11 1 rfl rfl (by unfold vp_in; decide) (show (vp_updL ov 0 ((ct (xs (i + 1)).toNatClampNeg).toInt64)) 0 = (ct (xs (i + 1)).toNatClampNeg).toInt64 from if_pos rfl) dL_law_2162 ?_
    refine lv_iload hx hb dL_law_2163 (lv_at hl 0 rfl) ?_
    refine lv_i2l (v := (ct (xs (i + 1)).toNatClampNeg).toInt64) hx hb dL_law_2165 rfl ?_
    refine W.lcmp hx hb dL_law_2166 ?_
    refine lv_if_eq (tgt := 2172) hx hb dL_law_2167 (by decide) (fun _ => ?_) (fun q => absurd ((lg_cmp_eq _ _).mpr rfl) q)
    refine lv_goto (tgt := 2390) hx hb dL_law_2172 (by decide) ?_
    refine W.widen (k := ce + 3) (n := sl + 44) (by omega) (by omega) ?_
    exact kc _ _ _ _ ⟨ad, wd, rd, n, K, Ln, Wh, Re, cd, ct, 0, (vp_updL ov 0 ((ct (xs (i + 1)).toNatClampNeg).toInt64)), od, hdd, hI, hP, hD, hS, lv_sub hl [2, 3, 4, 5, 6, 7] rfl⟩
  · refine lv_aload_n hx hb dL_law_2119 rfl (lv_at hl 4 rfl) ?_
    refine lv_aload_n hx hb dL_law_2120 rfl (lv_at hl 5 rfl) ?_
    refine lv_iload hx hb dL_law_2121 (lv_at hl 0 rfl) ?_
    refine lv_iconst (v := 1) hx hb dL_law_2123 (by decide) ?_
    refine lv_iadd hx hb dL_law_2124 ?_
    refine tc_sld hx hb hX hbl hbA hS hL 1 rfl (by omega) (v := (xs (i + 1))) rfl dL_law_2125 ?_
    refine lv_aload_n hx hb dL_law_2126 rfl (lv_at hl 2 rfl) ?_
    refine va_calli (tc_noX (vx_runSX (As := [.ref h0, .int (xs (i + 1)), .ref o1]) (rest := []) ⟨hx, hb, hml, hown, hts⟩ (lLn_count l hfl D A cI cJ cD cC h0 h1 h2 h3 h4 ad wd rd (m0, .inr (3, [.int th, .int (nI n), .ref m1, .ref m2, .ref m3, .ref m4, .int cd, .ref m5])) (m1, .inl (cI, 60, .inl K)) (m2, .inl (cI, 60, .inl (fun t8 => nI (Ln t8)))) (m3, .inl (cJ, 2400, .inr (.inl Wh))) (m4, .inl (cD, 2400, .inr (.inr (.inr (.inl Re))))) (m5, .inl (cI, 6, .inl ct)) o1 o2 ov od n K Ln Wh Re cd ct H.size (xs (i + 1)) hk) (vx_cwSW 3 hts gL_law_L_count rfl rfl rfl (by decide +kernel) ⟨Nat.le_of_ble_eq_true rfl, Nat.le_of_ble_eq_true rfl⟩) ⟨tcPL.blind, tcPL.go hK hP hD hE hNc hS⟩ rfl rfl hl.1 rfl (lv_room (Nat.le_of_ble_eq_true rfl)) dL_law_2127 ⟨by show _ ≤ 601024; omega, by show _ ≤ 7293034; omega⟩)) hS (fun q _ h => h) (fun q h => h) (fun r uL t H locs ht hvm hw hB hz1 hk1 hS => ?_)
    subst hw
    obtain ⟨hP, hD⟩ := hB
    rw [ht] at hP
    have hP : va_P D vwCl (tc_Z cI cJ cD (h0, .inr (2, [.ref h1, .ref h2, .ref h3, .int (nI n), .int cd])) (h1, .inl (cC, 60, .inr (.inr (.inr (.inr (fun t8 => if t8 < n then some (ad t8) else none)))))) (h2, .inl (cI, 6, .inl ct)) (h3, .inr (1, [.ref h4])) (h4, .inl (cD, 10, .inr (.inr (.inr (.inl (fun t8 => tf_N (1023 + 2 ^ t8) 0)))))) ((o1, .inl (cJ, 1, .inr (.inl ov))) :: (o2, .inl (cD, 1, .inr (.inr (.inr (.inl od))))) :: tc_fl (tc_col cJ cD ad wd rd K Ln Wh Re) n) m0 m1 m2 m3 m4 m5 th n K Ln Wh Re cd ct) H := hP
    have hD : va_D A (tc_Z cI cJ cD (h0, .inr (2, [.ref h1, .ref h2, .ref h3, .int (nI n), .int cd])) (h1, .inl (cC, 60, .inr (.inr (.inr (.inr (fun t8 => if t8 < n then some (ad t8) else none)))))) (h2, .inl (cI, 6, .inl ct)) (h3, .inr (1, [.ref h4])) (h4, .inl (cD, 10, .inr (.inr (.inr (.inl (fun t8 => tf_N (1023 + 2 ^ t8) 0)))))) ((o1, .inl (cJ, 1, .inr (.inl ov))) :: (o2, .inl (cD, 1, .inr (.inr (.inr (.inl od))))) :: tc_fl (tc_col cJ cD ad wd rd K Ln Wh Re) n) m0 m1 m2 m3 m4 m5 th n K Ln Wh Re cd ct) := hD
    refine lv_istore (lv' := [(6, .int 1), (5, .int (nI i)), (4, .ref o2), (3, .ref o1), (2, .ref m0), (1, .ref h0), (0, .ref b)]) hx hb dL_law_2130 hl (by decide) rfl (fun ls hl => ?_)
    refine lv_aload_n hx hb dL_law_2132 rfl (lv_at hl 4 rfl) ?_
    refine lv_aload_n hx hb dL_law_2133 rfl (lv_at hl 6 rfl) ?_
    refine lv_iload hx hb dL_law_2134 (lv_at hl 1 rfl) ?_
    refine lv_iconst (v := 1) hx hb dL_law_2136 (by decide) ?_
    refine lv_iadd hx hb dL_law_2137 ?_
    refine tc_sld hx hb hX hbl hbA hS hL 1 rfl (by omega) (v := (xs (i + 1))) rfl dL_law_2138 ?_
    refine va_calli (va_runV (As := [.int (xs (i + 1))]) (rest := []) ⟨hx, hb, hml, hown, hts⟩ (tX3_count_n l D A cI cJ cD cC (h0, .inr (2, [.ref h1, .ref h2, .ref h3, .int (nI n), .int cd])) (h1, .inl (cC, 60, .inr (.inr (.inr (.inr (fun t8 => if t8 < n then some (ad t8) else none)))))) (h2, .inl (cI, 6, .inl ct)) (h3, .inr (1, [.ref h4])) (h4, .inl (cD, 10, .inr (.inr (.inr (.inl (fun t8 => tf_N (1023 + 2 ^ t8) 0)))))) ((o1, .inl (cJ, 1, .inr (.inl ov))) :: (o2, .inl (cD, 1, .inr (.inr (.inr (.inl od))))) :: tc_fl (tc_col cJ cD ad wd rd K Ln Wh Re) n) m0 m1 m2 m3 m4 m5 th n K Ln Wh Re cd ct H.size (xs (i + 1)) hk) (cwV 1 hts gL_law_X3_count rfl rfl rfl (by decide +kernel) ⟨Nat.le_of_ble_eq_true rfl, Nat.le_of_ble_eq_true rfl⟩) ⟨tcP.blind, va_recv hK hP (ci := 3) (q0 := 5) rfl rfl, tcP.go hK hP hD hE hS⟩ rfl rfl hl.1 rfl (lv_room (Nat.le_of_ble_eq_true rfl)) dL_law_2139 ⟨by show _ ≤ 601024; omega, by show _ ≤ 7293034; omega⟩) hS (fun q _ h => h) (fun q h => h) (fun r u t H locs ht hvm hw hB hz1 hk1 hS => ?_)
    subst hw
    obtain ⟨hP, hD⟩ := hB
    rw [ht] at hP
    refine lv_istore (lv' := [(7, .int 0), (6, .int 1), (5, .int (nI i)), (4, .ref o2), (3, .ref o1), (2, .ref m0), (1, .ref h0), (0, .ref b)]) hx hb dL_law_2142 hl (by decide) rfl (fun ls hl => ?_)
    refine lv_aload_n hx hb dL_law_2144 rfl (lv_at hl 5 rfl) ?_
    refine vp_callSi (tc_CR (va_runV (As := []) (rest := []) ⟨hx, hb, hml, hown, hts⟩ (tX3_thrown l D A cI cJ cD cC (h0, .inr (2, [.ref h1, .ref h2, .ref h3, .int (nI n), .int cd])) (h1, .inl (cC, 60, .inr (.inr (.inr (.inr (fun t8 => if t8 < n then some (ad t8) else none)))))) (h2, .inl (cI, 6, .inl ct)) (h3, .inr (1, [.ref h4])) (h4, .inl (cD, 10, .inr (.inr (.inr (.inl (fun t8 => tf_N (1023 + 2 ^ t8) 0)))))) ((o1, .inl (cJ, 1, .inr (.inl ov))) :: (o2, .inl (cD, 1, .inr (.inr (.inr (.inl od))))) :: tc_fl (tc_col cJ cD ad wd rd K Ln Wh Re) n) m0 m1 m2 m3 m4 m5 1 n K Ln Wh Re cd ct H.size) (cwV 0 hts gL_law_X3_thrown rfl rfl rfl (by decide +kernel) ⟨Nat.le_of_ble_eq_true rfl, Nat.le_of_ble_eq_true rfl⟩) ⟨tcP.blind, va_recv hK hP (ci := 3) (q0 := 5) rfl rfl, tcP.go hK hP hD hE hS⟩ rfl rfl hl.1 rfl (lv_room (Nat.le_of_ble_eq_true rfl)) dL_law_2145 ⟨by show _ ≤ 601024; omega, by show _ ≤ 7293034; omega⟩)) (fun r9 h9 => ?_)
    subst h9
    refine lv_iload hx hb dL_law_2148 (lv_at hl 1 rfl) ?_
    refine lv_icmp_eq (tgt := 2155) hx hb dL_law_2150 (by decide) (fun _ => ?_) (fun q => absurd (by decide) q)
    refine lv_iload hx hb dL_law_2155 (lv_at hl 1 rfl) ?_
    refine lv_if_ne (tgt := 2172) hx hb dL_law_2157 (by decide) (fun _ => ?_) (fun q => absurd q (by decide))
    refine lv_goto (tgt := 2390) hx hb dL_law_2172 (by decide) ?_
    refine W.widen (k := ce + 3) (n := sl + 44) (by omega) (by omega) ?_
    exact kc _ _ _ _ ⟨ad, wd, rd, n, K, Ln, Wh, Re, cd, ct, 1, ov, od, hdd, hI, hP, hD, hS, lv_sub hl [2, 3, 4, 5, 6, 7] rfl⟩
set_option maxHeartbeats 4000000 in
set_option maxRecDepth 100000 in
theorem law_27 {p : Program} {l : Launch} {e : Env} {s : State} {m : MethodId} {below : List Frame} {meth : Method} {c : Code} {D : va_G} {A : Nat → Prop} {cI cJ cD cC : ClassId} {h0 h1 h2 h3 h4 m0 m1 m2 m3 m4 m5 o1 o2 : Nat} {b L : Nat} {xs : Nat → Int32} {Q : State → Prop} (C0 : LCtx p l D A cI cJ cD cC s m c b L xs) {d : Drawn} {H : Heap} {locs : List Loc} {ls : Array Slot} {i ce sl : Nat} (hi : i + 6 ≤ L) (hce : ce + 3 ≤ 601024) (hsl : sl + 44 ≤ 7293034) (hv : LInv D A cI cJ cD cC h0 h1 h2 h3 h4 m0 m1 m2 m3 m4 m5 o1 o2 s b d H locs i ls) (kc : ∀ (d : Drawn) (H : Heap) (locs : List Loc) (ls : Array Slot), LInv D A cI cJ cD cC h0 h1 h2 h3 h4 m0 m1 m2 m3 m4 m5 o1 o2 s b d H locs i ls → W p l e room_1 (s.setDrawn d) m #[Value.ref b] below meth c H locs (ce + 3) (sl + 44) Q (F0 m 2390 ls [])) : W p l e room_1 (s.setDrawn d) m #[Value.ref b] below meth c H locs ce sl Q (F0 m 2175 ls []) := by
  obtain ⟨hx, hb, hml, hown0, htsB, hX0, hbl, hbA, hA, hL, hfl, hK0, hE0, hNc0⟩ := C0
  obtain ⟨ad, wd, rd, n, K, Ln, Wh, Re, cd, ct, th, ov, od, hdd, hI, hP, hD, hS, hl⟩ := hv
  have hn60 : n ≤ 60 := hI.1
  have hts := dr_words htsB d
  have hK : va_K D vwCl (tcTY cI cJ cD cC) (s.setDrawn d) := hK0
  have hE : tc_E A (s.setDrawn d) := hE0
  have hNc : tc_Nc (s.setDrawn d) := hNc0
  have hown : (s.setDrawn d).vm.findClass RL = some m.cls := hown0
  have hX : va_X b L xs (s.setDrawn d) s.heap := hX0
  cases hk : kIs (xs (i + 1))
  · refine lv_aload_n hx hb dL_law_2175 rfl (lv_at hl 4 rfl) ?_
    refine lv_aload_n hx hb dL_law_2176 rfl (lv_at hl 5 rfl) ?_
    refine lv_iload hx hb dL_law_2177 (lv_at hl 0 rfl) ?_
    refine lv_iconst (v := 1) hx hb dL_law_2179 (by decide) ?_
    refine lv_iadd hx hb dL_law_2180 ?_
    refine tc_sld hx hb hX hbl hbA hS hL 1 rfl (by omega) (v := (xs (i + 1))) rfl dL_law_2181 ?_
    refine lv_aload_n hx hb dL_law_2182 rfl (lv_at hl 2 rfl) ?_
    refine va_calli (tc_noX (vx_runSX (As := [.ref h0, .int (xs (i + 1)), .ref o1]) (rest := []) ⟨hx, hb, hml, hown, hts⟩ (lLn_hasCells l hfl D A cI cJ cD cC h0 h1 h2 h3 h4 ad wd rd (m0, .inr (3, [.int th, .int (nI n), .ref m1, .ref m2, .ref m3, .ref m4, .int cd, .ref m5])) (m1, .inl (cI, 60, .inl K)) (m2, .inl (cI, 60, .inl (fun t8 => nI (Ln t8)))) (m3, .inl (cJ, 2400, .inr (.inl Wh))) (m4, .inl (cD, 2400, .inr (.inr (.inr (.inl Re))))) (m5, .inl (cI, 6, .inl ct)) o1 o2 ov od n K Ln Wh Re cd ct H.size (xs (i + 1)) hk) (vx_cwSW 3 hts gL_law_L_hasCells rfl rfl rfl (by decide +kernel) ⟨Nat.le_of_ble_eq_true rfl, Nat.le_of_ble_eq_true rfl⟩) ⟨tcPL.blind, tcPL.go hK hP hD hE hNc hS⟩ rfl rfl hl.1 rfl (lv_room (Nat.le_of_ble_eq_true rfl)) dL_law_2183 ⟨by show _ ≤ 601024; omega, by show _ ≤ 7293034; omega⟩)) hS (fun q _ h => h) (fun q h => h) (fun r uL t H locs ht hvm hw hB hz1 hk1 hS => ?_)
    subst hw
    obtain ⟨hP, hD⟩ := hB
    rw [ht] at hP
    have hP : va_P D vwCl (tc_Z cI cJ cD (h0, .inr (2, [.ref h1, .ref h2, .ref h3, .int (nI n), .int cd])) (h1, .inl (cC, 60, .inr (.inr (.inr (.inr (fun t8 => if t8 < n then some (ad t8) else none)))))) (h2, .inl (cI, 6, .inl ct)) (h3, .inr (1, [.ref h4])) (h4, .inl (cD, 10, .inr (.inr (.inr (.inl (fun t8 => tf_N (1023 + 2 ^ t8) 0)))))) ((o1, .inl (cJ, 1, .inr (.inl ov))) :: (o2, .inl (cD, 1, .inr (.inr (.inr (.inl od))))) :: tc_fl (tc_col cJ cD ad wd rd K Ln Wh Re) n) m0 m1 m2 m3 m4 m5 th n K Ln Wh Re cd ct) H := hP
    have hD : va_D A (tc_Z cI cJ cD (h0, .inr (2, [.ref h1, .ref h2, .ref h3, .int (nI n), .int cd])) (h1, .inl (cC, 60, .inr (.inr (.inr (.inr (fun t8 => if t8 < n then some (ad t8) else none)))))) (h2, .inl (cI, 6, .inl ct)) (h3, .inr (1, [.ref h4])) (h4, .inl (cD, 10, .inr (.inr (.inr (.inl (fun t8 => tf_N (1023 + 2 ^ t8) 0)))))) ((o1, .inl (cJ, 1, .inr (.inl ov))) :: (o2, .inl (cD, 1, .inr (.inr (.inr (.inl od))))) :: tc_fl (tc_col cJ cD ad wd rd K Ln Wh Re) n) m0 m1 m2 m3 m4 m5 th n K Ln Wh Re cd ct) := hD
    refine lv_istore (lv' := [(6, .int 1), (5, .int (nI i)), (4, .ref o2), (3, .ref o1), (2, .ref m0), (1, .ref h0), (0, .ref b)]) hx hb dL_law_2186 hl (by decide) rfl (fun ls hl => ?_)
    refine lv_aload_n hx hb dL_law_2188 rfl (lv_at hl 4 rfl) ?_
    refine lv_aload_n hx hb dL_law_2189 rfl (lv_at hl 6 rfl) ?_
    refine lv_iload hx hb dL_law_2190 (lv_at hl 1 rfl) ?_
    refine lv_iconst (v := 1) hx hb dL_law_2192 (by decide) ?_
    refine lv_iadd hx hb dL_law_2193 ?_
    refine tc_sld hx hb hX hbl hbA hS hL 1 rfl (by omega) (v := (xs (i + 1))) rfl dL_law_2194 ?_
    refine va_calli (va_runV (As := [.int (xs (i + 1))]) (rest := []) ⟨hx, hb, hml, hown, hts⟩ (tX3_hasCells_n l D A cI cJ cD cC (h0, .inr (2, [.ref h1, .ref h2, .ref h3, .int (nI n), .int cd])) (h1, .inl (cC, 60, .inr (.inr (.inr (.inr (fun t8 => if t8 < n then some (ad t8) else none)))))) (h2, .inl (cI, 6, .inl ct)) (h3, .inr (1, [.ref h4])) (h4, .inl (cD, 10, .inr (.inr (.inr (.inl (fun t8 => tf_N (1023 + 2 ^ t8) 0)))))) ((o1, .inl (cJ, 1, .inr (.inl ov))) :: (o2, .inl (cD, 1, .inr (.inr (.inr (.inl od))))) :: tc_fl (tc_col cJ cD ad wd rd K Ln Wh Re) n) m0 m1 m2 m3 m4 m5 th n K Ln Wh Re cd ct H.size (xs (i + 1)) hk) (cwV 1 hts gL_law_X3_hasCells rfl rfl rfl (by decide +kernel) ⟨Nat.le_of_ble_eq_true rfl, Nat.le_of_ble_eq_true rfl⟩) ⟨tcP.blind, va_recv hK hP (ci := 3) (q0 := 5) rfl rfl, tcP.go hK hP hD hE hS⟩ rfl rfl hl.1 rfl (lv_room (Nat.le_of_ble_eq_true rfl)) dL_law_2195 ⟨by show _ ≤ 601024; omega, by show _ ≤ 7293034; omega⟩) hS (fun q _ h => h) (fun q h => h) (fun r u t H locs ht hvm hw hB hz1 hk1 hS => ?_)
    subst hw
    obtain ⟨hP, hD⟩ := hB
    rw [ht] at hP
    refine lv_istore (lv' := [(7, .int 0), (6, .int 1), (5, .int (nI i)), (4, .ref o2), (3, .ref o1), (2, .ref m0), (1, .ref h0), (0, .ref b)]) hx hb dL_law_2198 hl (by decide) rfl (fun ls hl => ?_)
    refine lv_aload_n hx hb dL_law_2200 rfl (lv_at hl 5 rfl) ?_
    refine vp_callSi (tc_CR (va_runV (As := []) (rest := []) ⟨hx, hb, hml, hown, hts⟩ (tX3_thrown l D A cI cJ cD cC (h0, .inr (2, [.ref h1, .ref h2, .ref h3, .int (nI n), .int cd])) (h1, .inl (cC, 60, .inr (.inr (.inr (.inr (fun t8 => if t8 < n then some (ad t8) else none)))))) (h2, .inl (cI, 6, .inl ct)) (h3, .inr (1, [.ref h4])) (h4, .inl (cD, 10, .inr (.inr (.inr (.inl (fun t8 => tf_N (1023 + 2 ^ t8) 0)))))) ((o1, .inl (cJ, 1, .inr (.inl ov))) :: (o2, .inl (cD, 1, .inr (.inr (.inr (.inl od))))) :: tc_fl (tc_col cJ cD ad wd rd K Ln Wh Re) n) m0 m1 m2 m3 m4 m5 1 n K Ln Wh Re cd ct H.size) (cwV 0 hts gL_law_X3_thrown rfl rfl rfl (by decide +kernel) ⟨Nat.le_of_ble_eq_true rfl, Nat.le_of_ble_eq_true rfl⟩) ⟨tcP.blind, va_recv hK hP (ci := 3) (q0 := 5) rfl rfl, tcP.go hK hP hD hE hS⟩ rfl rfl hl.1 rfl (lv_room (Nat.le_of_ble_eq_true rfl)) dL_law_2201 ⟨by show _ ≤ 601024; omega, by show _ ≤ 7293034; omega⟩)) (fun r9 h9 => ?_)
    subst h9
    refine lv_iload hx hb dL_law_2204 (lv_at hl 1 rfl) ?_
    refine lv_icmp_eq (tgt := 2211) hx hb dL_law_2206 (by decide) (fun _ => ?_) (fun q => absurd (by decide) q)
    refine lv_iload hx hb dL_law_2211 (lv_at hl 1 rfl) ?_
    refine lv_if_ne (tgt := 2235) hx hb dL_law_2213 (by decide) (fun _ => ?_) (fun q => absurd q (by decide))
    refine lv_goto (tgt := 2390) hx hb dL_law_2235 (by decide) ?_
    refine W.widen (k := ce + 3) (n := sl + 44) (by omega) (by omega) ?_
    exact kc _ _ _ _ ⟨ad, wd, rd, n, K, Ln, Wh, Re, cd, ct, 1, ov, od, hdd, hI, hP, hD, hS, lv_sub hl [2, 3, 4, 5, 6, 7] rfl⟩
  · refine lv_aload_n hx hb dL_law_2175 rfl (lv_at hl 4 rfl) ?_
    refine lv_aload_n hx hb dL_law_2176 rfl (lv_at hl 5 rfl) ?_
    refine lv_iload hx hb dL_law_2177 (lv_at hl 0 rfl) ?_
    refine lv_iconst (v := 1) hx hb dL_law_2179 (by decide) ?_
    refine lv_iadd hx hb dL_law_2180 ?_
    refine tc_sld hx hb hX hbl hbA hS hL 1 rfl (by omega) (v := (xs (i + 1))) rfl dL_law_2181 ?_
    refine lv_aload_n hx hb dL_law_2182 rfl (lv_at hl 2 rfl) ?_
    refine va_calli (tc_noX (vx_runSX (As := [.ref h0, .int (xs (i + 1)), .ref o1]) (rest := []) ⟨hx, hb, hml, hown, hts⟩ (lL_hasCells l hfl D A cI cJ cD cC h0 h1 h2 h3 h4 ad wd rd (m0, .inr (3, [.int th, .int (nI n), .ref m1, .ref m2, .ref m3, .ref m4, .int cd, .ref m5])) (m1, .inl (cI, 60, .inl K)) (m2, .inl (cI, 60, .inl (fun t8 => nI (Ln t8)))) (m3, .inl (cJ, 2400, .inr (.inl Wh))) (m4, .inl (cD, 2400, .inr (.inr (.inr (.inl Re))))) (m5, .inl (cI, 6, .inl ct)) o1 o2 ov od n K Ln Wh Re cd ct H.size hI (xs (i + 1)) hk) (vx_cwSW 3 hts gL_law_L_hasCells rfl rfl rfl (by decide +kernel) ⟨Nat.le_of_ble_eq_true rfl, Nat.le_of_ble_eq_true rfl⟩) ⟨tcPL.blind, tcPL.go hK hP hD hE hNc hS⟩ rfl rfl hl.1 rfl (lv_room (Nat.le_of_ble_eq_true rfl)) dL_law_2183 ⟨by show _ ≤ 601024; omega, by show _ ≤ 7293034; omega⟩)) hS (fun q _ h => h) (fun q h => h) (fun r uL t H locs ht hvm hw hB hz1 hk1 hS => ?_)
    subst hw
    obtain ⟨hP, hD⟩ := hB
    rw [ht] at hP
    have hP : va_P D vwCl (tc_Z cI cJ cD (h0, .inr (2, [.ref h1, .ref h2, .ref h3, .int (nI n), .int cd])) (h1, .inl (cC, 60, .inr (.inr (.inr (.inr (fun t8 => if t8 < n then some (ad t8) else none)))))) (h2, .inl (cI, 6, .inl ct)) (h3, .inr (1, [.ref h4])) (h4, .inl (cD, 10, .inr (.inr (.inr (.inl (fun t8 => tf_N (1023 + 2 ^ t8) 0)))))) ((o1, .inl (cJ, 1, .inr (.inl (vp_updL ov 0 ((tb (kHas (xs (i + 1)))).toInt64))))) :: (o2, .inl (cD, 1, .inr (.inr (.inr (.inl od))))) :: tc_fl (tc_col cJ cD ad wd rd K Ln Wh Re) n) m0 m1 m2 m3 m4 m5 th n K Ln Wh Re cd ct) H := hP
    have hD : va_D A (tc_Z cI cJ cD (h0, .inr (2, [.ref h1, .ref h2, .ref h3, .int (nI n), .int cd])) (h1, .inl (cC, 60, .inr (.inr (.inr (.inr (fun t8 => if t8 < n then some (ad t8) else none)))))) (h2, .inl (cI, 6, .inl ct)) (h3, .inr (1, [.ref h4])) (h4, .inl (cD, 10, .inr (.inr (.inr (.inl (fun t8 => tf_N (1023 + 2 ^ t8) 0)))))) ((o1, .inl (cJ, 1, .inr (.inl (vp_updL ov 0 ((tb (kHas (xs (i + 1)))).toInt64))))) :: (o2, .inl (cD, 1, .inr (.inr (.inr (.inl od))))) :: tc_fl (tc_col cJ cD ad wd rd K Ln Wh Re) n) m0 m1 m2 m3 m4 m5 th n K Ln Wh Re cd ct) := hD
    refine lv_istore (lv' := [(6, .int 0), (5, .int (nI i)), (4, .ref o2), (3, .ref o1), (2, .ref m0), (1, .ref h0), (0, .ref b)]) hx hb dL_law_2186 hl (by decide) rfl (fun ls hl => ?_)
    refine lv_aload_n hx hb dL_law_2188 rfl (lv_at hl 4 rfl) ?_
    refine lv_aload_n hx hb dL_law_2189 rfl (lv_at hl 6 rfl) ?_
    refine lv_iload hx hb dL_law_2190 (lv_at hl 1 rfl) ?_
    refine lv_iconst (v := 1) hx hb dL_law_2192 (by decide) ?_
    refine lv_iadd hx hb dL_law_2193 ?_
    refine tc_sld hx hb hX hbl hbA hS hL 1 rfl (by omega) (v := (xs (i + 1))) rfl dL_law_2194 ?_
    refine va_calli (va_runV (As := [.int (xs (i + 1))]) (rest := []) ⟨hx, hb, hml, hown, hts⟩ (tX3_hasCells_y l D A cI cJ cD cC (h0, .inr (2, [.ref h1, .ref h2, .ref h3, .int (nI n), .int cd])) (h1, .inl (cC, 60, .inr (.inr (.inr (.inr (fun t8 => if t8 < n then some (ad t8) else none)))))) (h2, .inl (cI, 6, .inl ct)) (h3, .inr (1, [.ref h4])) (h4, .inl (cD, 10, .inr (.inr (.inr (.inl (fun t8 => tf_N (1023 + 2 ^ t8) 0)))))) ((o1, .inl (cJ, 1, .inr (.inl (vp_updL ov 0 ((tb (kHas (xs (i + 1)))).toInt64))))) :: (o2, .inl (cD, 1, .inr (.inr (.inr (.inl od))))) :: tc_fl (tc_col cJ cD ad wd rd K Ln Wh Re) n) m0 m1 m2 m3 m4 m5 th n K Ln Wh Re cd ct H.size (xs (i + 1)) hk) (cwV 1 hts gL_law_X3_hasCells rfl rfl rfl (by decide +kernel) ⟨Nat.le_of_ble_eq_true rfl, Nat.le_of_ble_eq_true rfl⟩) ⟨tcP.blind, va_recv hK hP (ci := 3) (q0 := 5) rfl rfl, tcP.go hK hP hD hE hS⟩ rfl rfl hl.1 rfl (lv_room (Nat.le_of_ble_eq_true rfl)) dL_law_2195 ⟨by show _ ≤ 601024; omega, by show _ ≤ 7293034; omega⟩) hS (fun q _ h => h) (fun q h => h) (fun r u t H locs ht hvm hw hB hz1 hk1 hS => ?_)
    subst hw
    obtain ⟨hP, hD⟩ := hB
    rw [ht] at hP
    refine lv_istore (lv' := [(7, .int (tb (kHas (xs (i + 1))))), (6, .int 0), (5, .int (nI i)), (4, .ref o2), (3, .ref o1), (2, .ref m0), (1, .ref h0), (0, .ref b)]) hx hb dL_law_2198 hl (by decide) rfl (fun ls hl => ?_)
    refine lv_aload_n hx hb dL_law_2200 rfl (lv_at hl 5 rfl) ?_
    refine vp_callSi (tc_CR (va_runV (As := []) (rest := []) ⟨hx, hb, hml, hown, hts⟩ (tX3_thrown l D A cI cJ cD cC (h0, .inr (2, [.ref h1, .ref h2, .ref h3, .int (nI n), .int cd])) (h1, .inl (cC, 60, .inr (.inr (.inr (.inr (fun t8 => if t8 < n then some (ad t8) else none)))))) (h2, .inl (cI, 6, .inl ct)) (h3, .inr (1, [.ref h4])) (h4, .inl (cD, 10, .inr (.inr (.inr (.inl (fun t8 => tf_N (1023 + 2 ^ t8) 0)))))) ((o1, .inl (cJ, 1, .inr (.inl (vp_updL ov 0 ((tb (kHas (xs (i + 1)))).toInt64))))) :: (o2, .inl (cD, 1, .inr (.inr (.inr (.inl od))))) :: tc_fl (tc_col cJ cD ad wd rd K Ln Wh Re) n) m0 m1 m2 m3 m4 m5 0 n K Ln Wh Re cd ct H.size) (cwV 0 hts gL_law_X3_thrown rfl rfl rfl (by decide +kernel) ⟨Nat.le_of_ble_eq_true rfl, Nat.le_of_ble_eq_true rfl⟩) ⟨tcP.blind, va_recv hK hP (ci := 3) (q0 := 5) rfl rfl, tcP.go hK hP hD hE hS⟩ rfl rfl hl.1 rfl (lv_room (Nat.le_of_ble_eq_true rfl)) dL_law_2201 ⟨by show _ ≤ 601024; omega, by show _ ≤ 7293034; omega⟩)) (fun r9 h9 => ?_)
    subst h9
    refine lv_iload hx hb dL_law_2204 (lv_at hl 1 rfl) ?_
    refine lv_icmp_eq (tgt := 2211) hx hb dL_law_2206 (by decide) (fun _ => ?_) (fun q => absurd (by decide) q)
    refine lv_iload hx hb dL_law_2211 (lv_at hl 1 rfl) ?_
    refine lv_if_ne (tgt := 2235) hx hb dL_law_2213 (by decide) (fun q => absurd (by decide) q) (fun _ => ?_)
    refine lv_aload_n hx hb dL_law_2216 rfl (lv_at hl 4 rfl) ?_
    refine lv_iconst (v := 0) hx hb dL_law_2217 (by decide) ?_
    refine tc_lald (f := (vp_updL ov 0 ((tb (kHas (xs (i + 1)))).toInt64))) (v := (tb (kHas (xs (i + 1)))).toInt64) hx hb hK hP 11 1 rfl rfl (by unfold vp_in; decide) (show (vp_updL ov 0 ((tb (kHas (xs (i + 1)))).toInt64)) 0 = (tb (kHas (xs (i + 1)))).toInt64 from if_pos rfl) dL_law_2218 ?_
    refine lv_iload hx hb dL_law_2219 (lv_at hl 0 rfl) ?_
    refine lv_if_eq (tgt := 2228) hx hb dL_law_2221 (by decide) (fun c_5 => ?_) (fun c_5 => ?_)
    · refine lv_lconst (v := 0) hx hb dL_law_2228 (by decide) ?_
      refine W.lcmp hx hb dL_law_2229 ?_
      refine lv_if_eq (tgt := 2235) hx hb dL_law_2230 (by decide) (fun _ => ?_) (fun q => absurd ((lg_cmp_eq _ _).mpr (tbL0 c_5)) q)
      refine lv_goto (tgt := 2390) hx hb dL_law_2235 (by decide) ?_
      refine W.widen (k := ce + 3) (n := sl + 44) (by omega) (by omega) ?_
      exact kc _ _ _ _ ⟨ad, wd, rd, n, K, Ln, Wh, Re, cd, ct, 0, (vp_updL ov 0 ((tb (kHas (xs (i + 1)))).toInt64)), od, hdd, hI, hP, hD, hS, lv_sub hl [2, 3, 4, 5, 6, 7] rfl⟩
    · refine lv_lconst (v := 1) hx hb dL_law_2224 (by decide) ?_
      refine lv_goto (tgt := 2229) hx hb dL_law_2225 (by decide) ?_
      refine W.lcmp hx hb dL_law_2229 ?_
      refine lv_if_eq (tgt := 2235) hx hb dL_law_2230 (by decide) (fun _ => ?_) (fun q => absurd ((lg_cmp_eq _ _).mpr (tbL1 c_5)) q)
      refine lv_goto (tgt := 2390) hx hb dL_law_2235 (by decide) ?_
      refine W.widen (k := ce + 3) (n := sl + 44) (by omega) (by omega) ?_
      exact kc _ _ _ _ ⟨ad, wd, rd, n, K, Ln, Wh, Re, cd, ct, 0, (vp_updL ov 0 ((tb (kHas (xs (i + 1)))).toInt64)), od, hdd, hI, hP, hD, hS, lv_sub hl [2, 3, 4, 5, 6, 7] rfl⟩
set_option maxHeartbeats 4000000 in
set_option maxRecDepth 100000 in
theorem law_28 {p : Program} {l : Launch} {e : Env} {s : State} {m : MethodId} {below : List Frame} {meth : Method} {c : Code} {D : va_G} {A : Nat → Prop} {cI cJ cD cC : ClassId} {h0 h1 h2 h3 h4 m0 m1 m2 m3 m4 m5 o1 o2 : Nat} {b L : Nat} {xs : Nat → Int32} {Q : State → Prop} (C0 : LCtx p l D A cI cJ cD cC s m c b L xs) {d : Drawn} {H : Heap} {locs : List Loc} {ls : Array Slot} {i ce sl : Nat} (hi : i + 6 ≤ L) (hce : ce + 3 ≤ 601024) (hsl : sl + 44 ≤ 7293034) (hv : LInv D A cI cJ cD cC h0 h1 h2 h3 h4 m0 m1 m2 m3 m4 m5 o1 o2 s b d H locs i ls) (kc : ∀ (d : Drawn) (H : Heap) (locs : List Loc) (ls : Array Slot), LInv D A cI cJ cD cC h0 h1 h2 h3 h4 m0 m1 m2 m3 m4 m5 o1 o2 s b d H locs i ls → W p l e room_1 (s.setDrawn d) m #[Value.ref b] below meth c H locs (ce + 3) (sl + 44) Q (F0 m 2390 ls [])) : W p l e room_1 (s.setDrawn d) m #[Value.ref b] below meth c H locs ce sl Q (F0 m 2238 ls []) := by
  obtain ⟨hx, hb, hml, hown0, htsB, hX0, hbl, hbA, hA, hL, hfl, hK0, hE0, hNc0⟩ := C0
  obtain ⟨ad, wd, rd, n, K, Ln, Wh, Re, cd, ct, th, ov, od, hdd, hI, hP, hD, hS, hl⟩ := hv
  have hn60 : n ≤ 60 := hI.1
  have hts := dr_words htsB d
  have hK : va_K D vwCl (tcTY cI cJ cD cC) (s.setDrawn d) := hK0
  have hE : tc_E A (s.setDrawn d) := hE0
  have hNc : tc_Nc (s.setDrawn d) := hNc0
  have hown : (s.setDrawn d).vm.findClass RL = some m.cls := hown0
  have hX : va_X b L xs (s.setDrawn d) s.heap := hX0
  cases hk : kIs (xs (i + 1))
  · refine lv_aload_n hx hb dL_law_2238 rfl (lv_at hl 4 rfl) ?_
    refine lv_aload_n hx hb dL_law_2239 rfl (lv_at hl 5 rfl) ?_
    refine lv_iload hx hb dL_law_2240 (lv_at hl 0 rfl) ?_
    refine lv_iconst (v := 1) hx hb dL_law_2242 (by decide) ?_
    refine lv_iadd hx hb dL_law_2243 ?_
    refine tc_sld hx hb hX hbl hbA hS hL 1 rfl (by omega) (v := (xs (i + 1))) rfl dL_law_2244 ?_
    refine lv_aload_n hx hb dL_law_2245 rfl (lv_at hl 2 rfl) ?_
    refine va_calli (tc_noX (vx_runSX (As := [.ref h0, .int (xs (i + 1)), .ref o1]) (rest := []) ⟨hx, hb, hml, hown, hts⟩ (lLn_isNumber l hfl D A cI cJ cD cC h0 h1 h2 h3 h4 ad wd rd (m0, .inr (3, [.int th, .int (nI n), .ref m1, .ref m2, .ref m3, .ref m4, .int cd, .ref m5])) (m1, .inl (cI, 60, .inl K)) (m2, .inl (cI, 60, .inl (fun t8 => nI (Ln t8)))) (m3, .inl (cJ, 2400, .inr (.inl Wh))) (m4, .inl (cD, 2400, .inr (.inr (.inr (.inl Re))))) (m5, .inl (cI, 6, .inl ct)) o1 o2 ov od n K Ln Wh Re cd ct H.size (xs (i + 1)) hk) (vx_cwSW 3 hts gL_law_L_isNumber rfl rfl rfl (by decide +kernel) ⟨Nat.le_of_ble_eq_true rfl, Nat.le_of_ble_eq_true rfl⟩) ⟨tcPL.blind, tcPL.go hK hP hD hE hNc hS⟩ rfl rfl hl.1 rfl (lv_room (Nat.le_of_ble_eq_true rfl)) dL_law_2246 ⟨by show _ ≤ 601024; omega, by show _ ≤ 7293034; omega⟩)) hS (fun q _ h => h) (fun q h => h) (fun r uL t H locs ht hvm hw hB hz1 hk1 hS => ?_)
    subst hw
    obtain ⟨hP, hD⟩ := hB
    rw [ht] at hP
    have hP : va_P D vwCl (tc_Z cI cJ cD (h0, .inr (2, [.ref h1, .ref h2, .ref h3, .int (nI n), .int cd])) (h1, .inl (cC, 60, .inr (.inr (.inr (.inr (fun t8 => if t8 < n then some (ad t8) else none)))))) (h2, .inl (cI, 6, .inl ct)) (h3, .inr (1, [.ref h4])) (h4, .inl (cD, 10, .inr (.inr (.inr (.inl (fun t8 => tf_N (1023 + 2 ^ t8) 0)))))) ((o1, .inl (cJ, 1, .inr (.inl ov))) :: (o2, .inl (cD, 1, .inr (.inr (.inr (.inl od))))) :: tc_fl (tc_col cJ cD ad wd rd K Ln Wh Re) n) m0 m1 m2 m3 m4 m5 th n K Ln Wh Re cd ct) H := hP
    have hD : va_D A (tc_Z cI cJ cD (h0, .inr (2, [.ref h1, .ref h2, .ref h3, .int (nI n), .int cd])) (h1, .inl (cC, 60, .inr (.inr (.inr (.inr (fun t8 => if t8 < n then some (ad t8) else none)))))) (h2, .inl (cI, 6, .inl ct)) (h3, .inr (1, [.ref h4])) (h4, .inl (cD, 10, .inr (.inr (.inr (.inl (fun t8 => tf_N (1023 + 2 ^ t8) 0)))))) ((o1, .inl (cJ, 1, .inr (.inl ov))) :: (o2, .inl (cD, 1, .inr (.inr (.inr (.inl od))))) :: tc_fl (tc_col cJ cD ad wd rd K Ln Wh Re) n) m0 m1 m2 m3 m4 m5 th n K Ln Wh Re cd ct) := hD
    refine lv_istore (lv' := [(6, .int 1), (5, .int (nI i)), (4, .ref o2), (3, .ref o1), (2, .ref m0), (1, .ref h0), (0, .ref b)]) hx hb dL_law_2249 hl (by decide) rfl (fun ls hl => ?_)
    refine lv_aload_n hx hb dL_law_2251 rfl (lv_at hl 4 rfl) ?_
    refine lv_aload_n hx hb dL_law_2252 rfl (lv_at hl 6 rfl) ?_
    refine lv_iload hx hb dL_law_2253 (lv_at hl 1 rfl) ?_
    refine lv_iconst (v := 1) hx hb dL_law_2255 (by decide) ?_
    refine lv_iadd hx hb dL_law_2256 ?_
    refine tc_sld hx hb hX hbl hbA hS hL 1 rfl (by omega) (v := (xs (i + 1))) rfl dL_law_2257 ?_
    refine va_calli (va_runV (As := [.int (xs (i + 1))]) (rest := []) ⟨hx, hb, hml, hown, hts⟩ (tX3_isNumber_n l D A cI cJ cD cC (h0, .inr (2, [.ref h1, .ref h2, .ref h3, .int (nI n), .int cd])) (h1, .inl (cC, 60, .inr (.inr (.inr (.inr (fun t8 => if t8 < n then some (ad t8) else none)))))) (h2, .inl (cI, 6, .inl ct)) (h3, .inr (1, [.ref h4])) (h4, .inl (cD, 10, .inr (.inr (.inr (.inl (fun t8 => tf_N (1023 + 2 ^ t8) 0)))))) ((o1, .inl (cJ, 1, .inr (.inl ov))) :: (o2, .inl (cD, 1, .inr (.inr (.inr (.inl od))))) :: tc_fl (tc_col cJ cD ad wd rd K Ln Wh Re) n) m0 m1 m2 m3 m4 m5 th n K Ln Wh Re cd ct H.size (xs (i + 1)) hk) (cwV 1 hts gL_law_X3_isNumber rfl rfl rfl (by decide +kernel) ⟨Nat.le_of_ble_eq_true rfl, Nat.le_of_ble_eq_true rfl⟩) ⟨tcP.blind, va_recv hK hP (ci := 3) (q0 := 5) rfl rfl, tcP.go hK hP hD hE hS⟩ rfl rfl hl.1 rfl (lv_room (Nat.le_of_ble_eq_true rfl)) dL_law_2258 ⟨by show _ ≤ 601024; omega, by show _ ≤ 7293034; omega⟩) hS (fun q _ h => h) (fun q h => h) (fun r u t H locs ht hvm hw hB hz1 hk1 hS => ?_)
    subst hw
    obtain ⟨hP, hD⟩ := hB
    rw [ht] at hP
    refine lv_istore (lv' := [(7, .int 0), (6, .int 1), (5, .int (nI i)), (4, .ref o2), (3, .ref o1), (2, .ref m0), (1, .ref h0), (0, .ref b)]) hx hb dL_law_2261 hl (by decide) rfl (fun ls hl => ?_)
    refine lv_aload_n hx hb dL_law_2263 rfl (lv_at hl 5 rfl) ?_
    refine vp_callSi (tc_CR (va_runV (As := []) (rest := []) ⟨hx, hb, hml, hown, hts⟩ (tX3_thrown l D A cI cJ cD cC (h0, .inr (2, [.ref h1, .ref h2, .ref h3, .int (nI n), .int cd])) (h1, .inl (cC, 60, .inr (.inr (.inr (.inr (fun t8 => if t8 < n then some (ad t8) else none)))))) (h2, .inl (cI, 6, .inl ct)) (h3, .inr (1, [.ref h4])) (h4, .inl (cD, 10, .inr (.inr (.inr (.inl (fun t8 => tf_N (1023 + 2 ^ t8) 0)))))) ((o1, .inl (cJ, 1, .inr (.inl ov))) :: (o2, .inl (cD, 1, .inr (.inr (.inr (.inl od))))) :: tc_fl (tc_col cJ cD ad wd rd K Ln Wh Re) n) m0 m1 m2 m3 m4 m5 1 n K Ln Wh Re cd ct H.size) (cwV 0 hts gL_law_X3_thrown rfl rfl rfl (by decide +kernel) ⟨Nat.le_of_ble_eq_true rfl, Nat.le_of_ble_eq_true rfl⟩) ⟨tcP.blind, va_recv hK hP (ci := 3) (q0 := 5) rfl rfl, tcP.go hK hP hD hE hS⟩ rfl rfl hl.1 rfl (lv_room (Nat.le_of_ble_eq_true rfl)) dL_law_2264 ⟨by show _ ≤ 601024; omega, by show _ ≤ 7293034; omega⟩)) (fun r9 h9 => ?_)
    subst h9
    refine lv_iload hx hb dL_law_2267 (lv_at hl 1 rfl) ?_
    refine lv_icmp_eq (tgt := 2274) hx hb dL_law_2269 (by decide) (fun _ => ?_) (fun q => absurd (by decide) q)
    refine lv_iload hx hb dL_law_2274 (lv_at hl 1 rfl) ?_
    refine lv_if_ne (tgt := 2298) hx hb dL_law_2276 (by decide) (fun _ => ?_) (fun q => absurd q (by decide))
    refine lv_goto (tgt := 2390) hx hb dL_law_2298 (by decide) ?_
    refine W.widen (k := ce + 3) (n := sl + 44) (by omega) (by omega) ?_
    exact kc _ _ _ _ ⟨ad, wd, rd, n, K, Ln, Wh, Re, cd, ct, 1, ov, od, hdd, hI, hP, hD, hS, lv_sub hl [2, 3, 4, 5, 6, 7] rfl⟩
  · refine lv_aload_n hx hb dL_law_2238 rfl (lv_at hl 4 rfl) ?_
    refine lv_aload_n hx hb dL_law_2239 rfl (lv_at hl 5 rfl) ?_
    refine lv_iload hx hb dL_law_2240 (lv_at hl 0 rfl) ?_
    refine lv_iconst (v := 1) hx hb dL_law_2242 (by decide) ?_
    refine lv_iadd hx hb dL_law_2243 ?_
    refine tc_sld hx hb hX hbl hbA hS hL 1 rfl (by omega) (v := (xs (i + 1))) rfl dL_law_2244 ?_
    refine lv_aload_n hx hb dL_law_2245 rfl (lv_at hl 2 rfl) ?_
    refine va_calli (tc_noX (vx_runSX (As := [.ref h0, .int (xs (i + 1)), .ref o1]) (rest := []) ⟨hx, hb, hml, hown, hts⟩ (lL_isNumber l hfl D A cI cJ cD cC h0 h1 h2 h3 h4 ad wd rd (m0, .inr (3, [.int th, .int (nI n), .ref m1, .ref m2, .ref m3, .ref m4, .int cd, .ref m5])) (m1, .inl (cI, 60, .inl K)) (m2, .inl (cI, 60, .inl (fun t8 => nI (Ln t8)))) (m3, .inl (cJ, 2400, .inr (.inl Wh))) (m4, .inl (cD, 2400, .inr (.inr (.inr (.inl Re))))) (m5, .inl (cI, 6, .inl ct)) o1 o2 ov od n K Ln Wh Re cd ct H.size hI (xs (i + 1)) hk) (vx_cwSW 3 hts gL_law_L_isNumber rfl rfl rfl (by decide +kernel) ⟨Nat.le_of_ble_eq_true rfl, Nat.le_of_ble_eq_true rfl⟩) ⟨tcPL.blind, tcPL.go hK hP hD hE hNc hS⟩ rfl rfl hl.1 rfl (lv_room (Nat.le_of_ble_eq_true rfl)) dL_law_2246 ⟨by show _ ≤ 601024; omega, by show _ ≤ 7293034; omega⟩)) hS (fun q _ h => h) (fun q h => h) (fun r uL t H locs ht hvm hw hB hz1 hk1 hS => ?_)
    subst hw
    obtain ⟨hP, hD⟩ := hB
    rw [ht] at hP
    have hP : va_P D vwCl (tc_Z cI cJ cD (h0, .inr (2, [.ref h1, .ref h2, .ref h3, .int (nI n), .int cd])) (h1, .inl (cC, 60, .inr (.inr (.inr (.inr (fun t8 => if t8 < n then some (ad t8) else none)))))) (h2, .inl (cI, 6, .inl ct)) (h3, .inr (1, [.ref h4])) (h4, .inl (cD, 10, .inr (.inr (.inr (.inl (fun t8 => tf_N (1023 + 2 ^ t8) 0)))))) ((o1, .inl (cJ, 1, .inr (.inl (vp_updL ov 0 ((tb (kNum (xs (i + 1)))).toInt64))))) :: (o2, .inl (cD, 1, .inr (.inr (.inr (.inl od))))) :: tc_fl (tc_col cJ cD ad wd rd K Ln Wh Re) n) m0 m1 m2 m3 m4 m5 th n K Ln Wh Re cd ct) H := hP
    have hD : va_D A (tc_Z cI cJ cD (h0, .inr (2, [.ref h1, .ref h2, .ref h3, .int (nI n), .int cd])) (h1, .inl (cC, 60, .inr (.inr (.inr (.inr (fun t8 => if t8 < n then some (ad t8) else none)))))) (h2, .inl (cI, 6, .inl ct)) (h3, .inr (1, [.ref h4])) (h4, .inl (cD, 10, .inr (.inr (.inr (.inl (fun t8 => tf_N (1023 + 2 ^ t8) 0)))))) ((o1, .inl (cJ, 1, .inr (.inl (vp_updL ov 0 ((tb (kNum (xs (i + 1)))).toInt64))))) :: (o2, .inl (cD, 1, .inr (.inr (.inr (.inl od))))) :: tc_fl (tc_col cJ cD ad wd rd K Ln Wh Re) n) m0 m1 m2 m3 m4 m5 th n K Ln Wh Re cd ct) := hD
    refine lv_istore (lv' := [(6, .int 0), (5, .int (nI i)), (4, .ref o2), (3, .ref o1), (2, .ref m0), (1, .ref h0), (0, .ref b)]) hx hb dL_law_2249 hl (by decide) rfl (fun ls hl => ?_)
    refine lv_aload_n hx hb dL_law_2251 rfl (lv_at hl 4 rfl) ?_
    refine lv_aload_n hx hb dL_law_2252 rfl (lv_at hl 6 rfl) ?_
    refine lv_iload hx hb dL_law_2253 (lv_at hl 1 rfl) ?_
    refine lv_iconst (v := 1) hx hb dL_law_2255 (by decide) ?_
    refine lv_iadd hx hb dL_law_2256 ?_
    refine tc_sld hx hb hX hbl hbA hS hL 1 rfl (by omega) (v := (xs (i + 1))) rfl dL_law_2257 ?_
    refine va_calli (va_runV (As := [.int (xs (i + 1))]) (rest := []) ⟨hx, hb, hml, hown, hts⟩ (tX3_isNumber_y l D A cI cJ cD cC (h0, .inr (2, [.ref h1, .ref h2, .ref h3, .int (nI n), .int cd])) (h1, .inl (cC, 60, .inr (.inr (.inr (.inr (fun t8 => if t8 < n then some (ad t8) else none)))))) (h2, .inl (cI, 6, .inl ct)) (h3, .inr (1, [.ref h4])) (h4, .inl (cD, 10, .inr (.inr (.inr (.inl (fun t8 => tf_N (1023 + 2 ^ t8) 0)))))) ((o1, .inl (cJ, 1, .inr (.inl (vp_updL ov 0 ((tb (kNum (xs (i + 1)))).toInt64))))) :: (o2, .inl (cD, 1, .inr (.inr (.inr (.inl od))))) :: tc_fl (tc_col cJ cD ad wd rd K Ln Wh Re) n) m0 m1 m2 m3 m4 m5 th n K Ln Wh Re cd ct H.size (xs (i + 1)) hk) (cwV 1 hts gL_law_X3_isNumber rfl rfl rfl (by decide +kernel) ⟨Nat.le_of_ble_eq_true rfl, Nat.le_of_ble_eq_true rfl⟩) ⟨tcP.blind, va_recv hK hP (ci := 3) (q0 := 5) rfl rfl, tcP.go hK hP hD hE hS⟩ rfl rfl hl.1 rfl (lv_room (Nat.le_of_ble_eq_true rfl)) dL_law_2258 ⟨by show _ ≤ 601024; omega, by show _ ≤ 7293034; omega⟩) hS (fun q _ h => h) (fun q h => h) (fun r u t H locs ht hvm hw hB hz1 hk1 hS => ?_)
    subst hw
    obtain ⟨hP, hD⟩ := hB
    rw [ht] at hP
    refine lv_istore (lv' := [(7, .int (tb (kNum (xs (i + 1))))), (6, .int 0), (5, .int (nI i)), (4, .ref o2), (3, .ref o1), (2, .ref m0), (1, .ref h0), (0, .ref b)]) hx hb dL_law_2261 hl (by decide) rfl (fun ls hl => ?_)
    refine lv_aload_n hx hb dL_law_2263 rfl (lv_at hl 5 rfl) ?_
    refine vp_callSi (tc_CR (va_runV (As := []) (rest := []) ⟨hx, hb, hml, hown, hts⟩ (tX3_thrown l D A cI cJ cD cC (h0, .inr (2, [.ref h1, .ref h2, .ref h3, .int (nI n), .int cd])) (h1, .inl (cC, 60, .inr (.inr (.inr (.inr (fun t8 => if t8 < n then some (ad t8) else none)))))) (h2, .inl (cI, 6, .inl ct)) (h3, .inr (1, [.ref h4])) (h4, .inl (cD, 10, .inr (.inr (.inr (.inl (fun t8 => tf_N (1023 + 2 ^ t8) 0)))))) ((o1, .inl (cJ, 1, .inr (.inl (vp_updL ov 0 ((tb (kNum (xs (i + 1)))).toInt64))))) :: (o2, .inl (cD, 1, .inr (.inr (.inr (.inl od))))) :: tc_fl (tc_col cJ cD ad wd rd K Ln Wh Re) n) m0 m1 m2 m3 m4 m5 0 n K Ln Wh Re cd ct H.size) (cwV 0 hts gL_law_X3_thrown rfl rfl rfl (by decide +kernel) ⟨Nat.le_of_ble_eq_true rfl, Nat.le_of_ble_eq_true rfl⟩) ⟨tcP.blind, va_recv hK hP (ci := 3) (q0 := 5) rfl rfl, tcP.go hK hP hD hE hS⟩ rfl rfl hl.1 rfl (lv_room (Nat.le_of_ble_eq_true rfl)) dL_law_2264 ⟨by show _ ≤ 601024; omega, by show _ ≤ 7293034; omega⟩)) (fun r9 h9 => ?_)
    subst h9
    refine lv_iload hx hb dL_law_2267 (lv_at hl 1 rfl) ?_
    refine lv_icmp_eq (tgt := 2274) hx hb dL_law_2269 (by decide) (fun _ => ?_) (fun q => absurd (by decide) q)
    refine lv_iload hx hb dL_law_2274 (lv_at hl 1 rfl) ?_
    refine lv_if_ne (tgt := 2298) hx hb dL_law_2276 (by decide) (fun q => absurd (by decide) q) (fun _ => ?_)
    refine lv_aload_n hx hb dL_law_2279 rfl (lv_at hl 4 rfl) ?_
    refine lv_iconst (v := 0) hx hb dL_law_2280 (by decide) ?_
    refine tc_lald (f := (vp_updL ov 0 ((tb (kNum (xs (i + 1)))).toInt64))) (v := (tb (kNum (xs (i + 1)))).toInt64) hx hb hK hP 11 1 rfl rfl (by unfold vp_in; decide) (show (vp_updL ov 0 ((tb (kNum (xs (i + 1)))).toInt64)) 0 = (tb (kNum (xs (i + 1)))).toInt64 from if_pos rfl) dL_law_2281 ?_
    refine lv_iload hx hb dL_law_2282 (lv_at hl 0 rfl) ?_
    refine lv_if_eq (tgt := 2291) hx hb dL_law_2284 (by decide) (fun c_5 => ?_) (fun c_5 => ?_)
    · refine lv_lconst (v := 0) hx hb dL_law_2291 (by decide) ?_
      refine W.lcmp hx hb dL_law_2292 ?_
      refine lv_if_eq (tgt := 2298) hx hb dL_law_2293 (by decide) (fun _ => ?_) (fun q => absurd ((lg_cmp_eq _ _).mpr (tbL0 c_5)) q)
      refine lv_goto (tgt := 2390) hx hb dL_law_2298 (by decide) ?_
      refine W.widen (k := ce + 3) (n := sl + 44) (by omega) (by omega) ?_
      exact kc _ _ _ _ ⟨ad, wd, rd, n, K, Ln, Wh, Re, cd, ct, 0, (vp_updL ov 0 ((tb (kNum (xs (i + 1)))).toInt64)), od, hdd, hI, hP, hD, hS, lv_sub hl [2, 3, 4, 5, 6, 7] rfl⟩
    · refine lv_lconst (v := 1) hx hb dL_law_2287 (by decide) ?_
      refine lv_goto (tgt := 2292) hx hb dL_law_2288 (by decide) ?_
      refine W.lcmp hx hb dL_law_2292 ?_
      refine lv_if_eq (tgt := 2298) hx hb dL_law_2293 (by decide) (fun _ => ?_) (fun q => absurd ((lg_cmp_eq _ _).mpr (tbL1 c_5)) q)
      refine lv_goto (tgt := 2390) hx hb dL_law_2298 (by decide) ?_
      refine W.widen (k := ce + 3) (n := sl + 44) (by omega) (by omega) ?_
      exact kc _ _ _ _ ⟨ad, wd, rd, n, K, Ln, Wh, Re, cd, ct, 0, (vp_updL ov 0 ((tb (kNum (xs (i + 1)))).toInt64)), od, hdd, hI, hP, hD, hS, lv_sub hl [2, 3, 4, 5, 6, 7] rfl⟩
set_option maxHeartbeats 4000000 in
set_option maxRecDepth 100000 in
theorem law_29 {p : Program} {l : Launch} {e : Env} {s : State} {m : MethodId} {below : List Frame} {meth : Method} {c : Code} {D : va_G} {A : Nat → Prop} {cI cJ cD cC : ClassId} {h0 h1 h2 h3 h4 m0 m1 m2 m3 m4 m5 o1 o2 : Nat} {b L : Nat} {xs : Nat → Int32} {Q : State → Prop} (C0 : LCtx p l D A cI cJ cD cC s m c b L xs) {d : Drawn} {H : Heap} {locs : List Loc} {ls : Array Slot} {i ce sl : Nat} (hi : i + 6 ≤ L) (hce : ce + 3 ≤ 601024) (hsl : sl + 44 ≤ 7293034) (hv : LInv D A cI cJ cD cC h0 h1 h2 h3 h4 m0 m1 m2 m3 m4 m5 o1 o2 s b d H locs i ls) (kc : ∀ (d : Drawn) (H : Heap) (locs : List Loc) (ls : Array Slot), LInv D A cI cJ cD cC h0 h1 h2 h3 h4 m0 m1 m2 m3 m4 m5 o1 o2 s b d H locs i ls → W p l e room_1 (s.setDrawn d) m #[Value.ref b] below meth c H locs (ce + 3) (sl + 44) Q (F0 m 2390 ls [])) : W p l e room_1 (s.setDrawn d) m #[Value.ref b] below meth c H locs ce sl Q (F0 m 2301 ls []) := by
  obtain ⟨hx, hb, hml, hown0, htsB, hX0, hbl, hbA, hA, hL, hfl, hK0, hE0, hNc0⟩ := C0
  obtain ⟨ad, wd, rd, n, K, Ln, Wh, Re, cd, ct, th, ov, od, hdd, hI, hP, hD, hS, hl⟩ := hv
  have hn60 : n ≤ 60 := hI.1
  have hts := dr_words htsB d
  have hK : va_K D vwCl (tcTY cI cJ cD cC) (s.setDrawn d) := hK0
  have hE : tc_E A (s.setDrawn d) := hE0
  have hNc : tc_Nc (s.setDrawn d) := hNc0
  have hown : (s.setDrawn d).vm.findClass RL = some m.cls := hown0
  have hX : va_X b L xs (s.setDrawn d) s.heap := hX0
  cases hk : kIs (xs (i + 1))
  · refine lv_aload_n hx hb dL_law_2301 rfl (lv_at hl 4 rfl) ?_
    refine lv_aload_n hx hb dL_law_2302 rfl (lv_at hl 5 rfl) ?_
    refine lv_iload hx hb dL_law_2303 (lv_at hl 0 rfl) ?_
    refine lv_iconst (v := 1) hx hb dL_law_2305 (by decide) ?_
    refine lv_iadd hx hb dL_law_2306 ?_
    refine tc_sld hx hb hX hbl hbA hS hL 1 rfl (by omega) (v := (xs (i + 1))) rfl dL_law_2307 ?_
    refine lv_aload_n hx hb dL_law_2308 rfl (lv_at hl 5 rfl) ?_
    refine lv_iload hx hb dL_law_2309 (lv_at hl 0 rfl) ?_
    refine lv_iconst (v := 2) hx hb dL_law_2311 (by decide) ?_
    refine lv_iadd hx hb dL_law_2312 ?_
    refine tc_sld hx hb hX hbl hbA hS hL 2 rfl (by omega) (v := (xs (i + 2))) rfl dL_law_2313 ?_
    refine lv_aload_n hx hb dL_law_2314 rfl (lv_at hl 2 rfl) ?_
    refine va_calli (tc_noX (vx_runSX (As := [.ref h0, .int (xs (i + 1)), .int (xs (i + 2)), .ref o1]) (rest := []) ⟨hx, hb, hml, hown, hts⟩ (lLn_canWiden1 l hfl D A cI cJ cD cC h0 h1 h2 h3 h4 ad wd rd (m0, .inr (3, [.int th, .int (nI n), .ref m1, .ref m2, .ref m3, .ref m4, .int cd, .ref m5])) (m1, .inl (cI, 60, .inl K)) (m2, .inl (cI, 60, .inl (fun t8 => nI (Ln t8)))) (m3, .inl (cJ, 2400, .inr (.inl Wh))) (m4, .inl (cD, 2400, .inr (.inr (.inr (.inl Re))))) (m5, .inl (cI, 6, .inl ct)) o1 o2 ov od n K Ln Wh Re cd ct H.size (xs (i + 1)) (xs (i + 2)) hk) (vx_cwSW 4 hts gL_law_L_canWiden rfl rfl rfl (by decide +kernel) ⟨Nat.le_of_ble_eq_true rfl, Nat.le_of_ble_eq_true rfl⟩) ⟨tcPL.blind, tcPL.go hK hP hD hE hNc hS⟩ rfl rfl hl.1 rfl (lv_room (Nat.le_of_ble_eq_true rfl)) dL_law_2315 ⟨by show _ ≤ 601024; omega, by show _ ≤ 7293034; omega⟩)) hS (fun q _ h => h) (fun q h => h) (fun r uL t H locs ht hvm hw hB hz1 hk1 hS => ?_)
    subst hw
    obtain ⟨hP, hD⟩ := hB
    rw [ht] at hP
    have hP : va_P D vwCl (tc_Z cI cJ cD (h0, .inr (2, [.ref h1, .ref h2, .ref h3, .int (nI n), .int cd])) (h1, .inl (cC, 60, .inr (.inr (.inr (.inr (fun t8 => if t8 < n then some (ad t8) else none)))))) (h2, .inl (cI, 6, .inl ct)) (h3, .inr (1, [.ref h4])) (h4, .inl (cD, 10, .inr (.inr (.inr (.inl (fun t8 => tf_N (1023 + 2 ^ t8) 0)))))) ((o1, .inl (cJ, 1, .inr (.inl ov))) :: (o2, .inl (cD, 1, .inr (.inr (.inr (.inl od))))) :: tc_fl (tc_col cJ cD ad wd rd K Ln Wh Re) n) m0 m1 m2 m3 m4 m5 th n K Ln Wh Re cd ct) H := hP
    have hD : va_D A (tc_Z cI cJ cD (h0, .inr (2, [.ref h1, .ref h2, .ref h3, .int (nI n), .int cd])) (h1, .inl (cC, 60, .inr (.inr (.inr (.inr (fun t8 => if t8 < n then some (ad t8) else none)))))) (h2, .inl (cI, 6, .inl ct)) (h3, .inr (1, [.ref h4])) (h4, .inl (cD, 10, .inr (.inr (.inr (.inl (fun t8 => tf_N (1023 + 2 ^ t8) 0)))))) ((o1, .inl (cJ, 1, .inr (.inl ov))) :: (o2, .inl (cD, 1, .inr (.inr (.inr (.inl od))))) :: tc_fl (tc_col cJ cD ad wd rd K Ln Wh Re) n) m0 m1 m2 m3 m4 m5 th n K Ln Wh Re cd ct) := hD
    refine lv_istore (lv' := [(6, .int 1), (5, .int (nI i)), (4, .ref o2), (3, .ref o1), (2, .ref m0), (1, .ref h0), (0, .ref b)]) hx hb dL_law_2318 hl (by decide) rfl (fun ls hl => ?_)
    refine lv_aload_n hx hb dL_law_2320 rfl (lv_at hl 4 rfl) ?_
    refine lv_aload_n hx hb dL_law_2321 rfl (lv_at hl 6 rfl) ?_
    refine lv_iload hx hb dL_law_2322 (lv_at hl 1 rfl) ?_
    refine lv_iconst (v := 1) hx hb dL_law_2324 (by decide) ?_
    refine lv_iadd hx hb dL_law_2325 ?_
    refine tc_sld hx hb hX hbl hbA hS hL 1 rfl (by omega) (v := (xs (i + 1))) rfl dL_law_2326 ?_
    refine lv_aload_n hx hb dL_law_2327 rfl (lv_at hl 6 rfl) ?_
    refine lv_iload hx hb dL_law_2328 (lv_at hl 1 rfl) ?_
    refine lv_iconst (v := 2) hx hb dL_law_2330 (by decide) ?_
    refine lv_iadd hx hb dL_law_2331 ?_
    refine tc_sld hx hb hX hbl hbA hS hL 2 rfl (by omega) (v := (xs (i + 2))) rfl dL_law_2332 ?_
    refine va_calli (va_runV (As := [.int (xs (i + 1)), .int (xs (i + 2))]) (rest := []) ⟨hx, hb, hml, hown, hts⟩ (tX3_canWiden_n1 l D A cI cJ cD cC (h0, .inr (2, [.ref h1, .ref h2, .ref h3, .int (nI n), .int cd])) (h1, .inl (cC, 60, .inr (.inr (.inr (.inr (fun t8 => if t8 < n then some (ad t8) else none)))))) (h2, .inl (cI, 6, .inl ct)) (h3, .inr (1, [.ref h4])) (h4, .inl (cD, 10, .inr (.inr (.inr (.inl (fun t8 => tf_N (1023 + 2 ^ t8) 0)))))) ((o1, .inl (cJ, 1, .inr (.inl ov))) :: (o2, .inl (cD, 1, .inr (.inr (.inr (.inl od))))) :: tc_fl (tc_col cJ cD ad wd rd K Ln Wh Re) n) m0 m1 m2 m3 m4 m5 th n K Ln Wh Re cd ct H.size (xs (i + 1)) (xs (i + 2)) hk) (cwV 2 hts gL_law_X3_canWiden rfl rfl rfl (by decide +kernel) ⟨Nat.le_of_ble_eq_true rfl, Nat.le_of_ble_eq_true rfl⟩) ⟨tcP.blind, va_recv hK hP (ci := 3) (q0 := 5) rfl rfl, tcP.go hK hP hD hE hS⟩ rfl rfl hl.1 rfl (lv_room (Nat.le_of_ble_eq_true rfl)) dL_law_2333 ⟨by show _ ≤ 601024; omega, by show _ ≤ 7293034; omega⟩) hS (fun q _ h => h) (fun q h => h) (fun r u t H locs ht hvm hw hB hz1 hk1 hS => ?_)
    subst hw
    obtain ⟨hP, hD⟩ := hB
    rw [ht] at hP
    refine lv_istore (lv' := [(7, .int 0), (6, .int 1), (5, .int (nI i)), (4, .ref o2), (3, .ref o1), (2, .ref m0), (1, .ref h0), (0, .ref b)]) hx hb dL_law_2336 hl (by decide) rfl (fun ls hl => ?_)
    refine lv_aload_n hx hb dL_law_2338 rfl (lv_at hl 5 rfl) ?_
    refine vp_callSi (tc_CR (va_runV (As := []) (rest := []) ⟨hx, hb, hml, hown, hts⟩ (tX3_thrown l D A cI cJ cD cC (h0, .inr (2, [.ref h1, .ref h2, .ref h3, .int (nI n), .int cd])) (h1, .inl (cC, 60, .inr (.inr (.inr (.inr (fun t8 => if t8 < n then some (ad t8) else none)))))) (h2, .inl (cI, 6, .inl ct)) (h3, .inr (1, [.ref h4])) (h4, .inl (cD, 10, .inr (.inr (.inr (.inl (fun t8 => tf_N (1023 + 2 ^ t8) 0)))))) ((o1, .inl (cJ, 1, .inr (.inl ov))) :: (o2, .inl (cD, 1, .inr (.inr (.inr (.inl od))))) :: tc_fl (tc_col cJ cD ad wd rd K Ln Wh Re) n) m0 m1 m2 m3 m4 m5 1 n K Ln Wh Re cd ct H.size) (cwV 0 hts gL_law_X3_thrown rfl rfl rfl (by decide +kernel) ⟨Nat.le_of_ble_eq_true rfl, Nat.le_of_ble_eq_true rfl⟩) ⟨tcP.blind, va_recv hK hP (ci := 3) (q0 := 5) rfl rfl, tcP.go hK hP hD hE hS⟩ rfl rfl hl.1 rfl (lv_room (Nat.le_of_ble_eq_true rfl)) dL_law_2339 ⟨by show _ ≤ 601024; omega, by show _ ≤ 7293034; omega⟩)) (fun r9 h9 => ?_)
    subst h9
    refine lv_iload hx hb dL_law_2342 (lv_at hl 1 rfl) ?_
    refine lv_icmp_eq (tgt := 2349) hx hb dL_law_2344 (by decide) (fun _ => ?_) (fun q => absurd (by decide) q)
    refine lv_iload hx hb dL_law_2349 (lv_at hl 1 rfl) ?_
    refine lv_if_ne (tgt := 2373) hx hb dL_law_2351 (by decide) (fun _ => ?_) (fun q => absurd q (by decide))
    refine lv_goto (tgt := 2390) hx hb dL_law_2373 (by decide) ?_
    refine W.widen (k := ce + 3) (n := sl + 44) (by omega) (by omega) ?_
    exact kc _ _ _ _ ⟨ad, wd, rd, n, K, Ln, Wh, Re, cd, ct, 1, ov, od, hdd, hI, hP, hD, hS, lv_sub hl [2, 3, 4, 5, 6, 7] rfl⟩
  · cases hk2 : kIs (xs (i + 2))
    · refine lv_aload_n hx hb dL_law_2301 rfl (lv_at hl 4 rfl) ?_
      refine lv_aload_n hx hb dL_law_2302 rfl (lv_at hl 5 rfl) ?_
      refine lv_iload hx hb dL_law_2303 (lv_at hl 0 rfl) ?_
      refine lv_iconst (v := 1) hx hb dL_law_2305 (by decide) ?_
      refine lv_iadd hx hb dL_law_2306 ?_
      refine tc_sld hx hb hX hbl hbA hS hL 1 rfl (by omega) (v := (xs (i + 1))) rfl dL_law_2307 ?_
      refine lv_aload_n hx hb dL_law_2308 rfl (lv_at hl 5 rfl) ?_
      refine lv_iload hx hb dL_law_2309 (lv_at hl 0 rfl) ?_
      refine lv_iconst (v := 2) hx hb dL_law_2311 (by decide) ?_
      refine lv_iadd hx hb dL_law_2312 ?_
      refine tc_sld hx hb hX hbl hbA hS hL 2 rfl (by omega) (v := (xs (i + 2))) rfl dL_law_2313 ?_
      refine lv_aload_n hx hb dL_law_2314 rfl (lv_at hl 2 rfl) ?_
      refine va_calli (tc_noX (vx_runSX (As := [.ref h0, .int (xs (i + 1)), .int (xs (i + 2)), .ref o1]) (rest := []) ⟨hx, hb, hml, hown, hts⟩ (lLn_canWiden2 l hfl D A cI cJ cD cC h0 h1 h2 h3 h4 ad wd rd (m0, .inr (3, [.int th, .int (nI n), .ref m1, .ref m2, .ref m3, .ref m4, .int cd, .ref m5])) (m1, .inl (cI, 60, .inl K)) (m2, .inl (cI, 60, .inl (fun t8 => nI (Ln t8)))) (m3, .inl (cJ, 2400, .inr (.inl Wh))) (m4, .inl (cD, 2400, .inr (.inr (.inr (.inl Re))))) (m5, .inl (cI, 6, .inl ct)) o1 o2 ov od n K Ln Wh Re cd ct H.size (xs (i + 1)) (xs (i + 2)) hk hk2) (vx_cwSW 4 hts gL_law_L_canWiden rfl rfl rfl (by decide +kernel) ⟨Nat.le_of_ble_eq_true rfl, Nat.le_of_ble_eq_true rfl⟩) ⟨tcPL.blind, tcPL.go hK hP hD hE hNc hS⟩ rfl rfl hl.1 rfl (lv_room (Nat.le_of_ble_eq_true rfl)) dL_law_2315 ⟨by show _ ≤ 601024; omega, by show _ ≤ 7293034; omega⟩)) hS (fun q _ h => h) (fun q h => h) (fun r uL t H locs ht hvm hw hB hz1 hk1 hS => ?_)
      subst hw
      obtain ⟨hP, hD⟩ := hB
      rw [ht] at hP
      have hP : va_P D vwCl (tc_Z cI cJ cD (h0, .inr (2, [.ref h1, .ref h2, .ref h3, .int (nI n), .int cd])) (h1, .inl (cC, 60, .inr (.inr (.inr (.inr (fun t8 => if t8 < n then some (ad t8) else none)))))) (h2, .inl (cI, 6, .inl ct)) (h3, .inr (1, [.ref h4])) (h4, .inl (cD, 10, .inr (.inr (.inr (.inl (fun t8 => tf_N (1023 + 2 ^ t8) 0)))))) ((o1, .inl (cJ, 1, .inr (.inl ov))) :: (o2, .inl (cD, 1, .inr (.inr (.inr (.inl od))))) :: tc_fl (tc_col cJ cD ad wd rd K Ln Wh Re) n) m0 m1 m2 m3 m4 m5 th n K Ln Wh Re cd ct) H := hP
      have hD : va_D A (tc_Z cI cJ cD (h0, .inr (2, [.ref h1, .ref h2, .ref h3, .int (nI n), .int cd])) (h1, .inl (cC, 60, .inr (.inr (.inr (.inr (fun t8 => if t8 < n then some (ad t8) else none)))))) (h2, .inl (cI, 6, .inl ct)) (h3, .inr (1, [.ref h4])) (h4, .inl (cD, 10, .inr (.inr (.inr (.inl (fun t8 => tf_N (1023 + 2 ^ t8) 0)))))) ((o1, .inl (cJ, 1, .inr (.inl ov))) :: (o2, .inl (cD, 1, .inr (.inr (.inr (.inl od))))) :: tc_fl (tc_col cJ cD ad wd rd K Ln Wh Re) n) m0 m1 m2 m3 m4 m5 th n K Ln Wh Re cd ct) := hD
      refine lv_istore (lv' := [(6, .int 1), (5, .int (nI i)), (4, .ref o2), (3, .ref o1), (2, .ref m0), (1, .ref h0), (0, .ref b)]) hx hb dL_law_2318 hl (by decide) rfl (fun ls hl => ?_)
      refine lv_aload_n hx hb dL_law_2320 rfl (lv_at hl 4 rfl) ?_
      refine lv_aload_n hx hb dL_law_2321 rfl (lv_at hl 6 rfl) ?_
      refine lv_iload hx hb dL_law_2322 (lv_at hl 1 rfl) ?_
      refine lv_iconst (v := 1) hx hb dL_law_2324 (by decide) ?_
      refine lv_iadd hx hb dL_law_2325 ?_
      refine tc_sld hx hb hX hbl hbA hS hL 1 rfl (by omega) (v := (xs (i + 1))) rfl dL_law_2326 ?_
      refine lv_aload_n hx hb dL_law_2327 rfl (lv_at hl 6 rfl) ?_
      refine lv_iload hx hb dL_law_2328 (lv_at hl 1 rfl) ?_
      refine lv_iconst (v := 2) hx hb dL_law_2330 (by decide) ?_
      refine lv_iadd hx hb dL_law_2331 ?_
      refine tc_sld hx hb hX hbl hbA hS hL 2 rfl (by omega) (v := (xs (i + 2))) rfl dL_law_2332 ?_
      refine va_calli (va_runV (As := [.int (xs (i + 1)), .int (xs (i + 2))]) (rest := []) ⟨hx, hb, hml, hown, hts⟩ (tX3_canWiden_n2 l D A cI cJ cD cC (h0, .inr (2, [.ref h1, .ref h2, .ref h3, .int (nI n), .int cd])) (h1, .inl (cC, 60, .inr (.inr (.inr (.inr (fun t8 => if t8 < n then some (ad t8) else none)))))) (h2, .inl (cI, 6, .inl ct)) (h3, .inr (1, [.ref h4])) (h4, .inl (cD, 10, .inr (.inr (.inr (.inl (fun t8 => tf_N (1023 + 2 ^ t8) 0)))))) ((o1, .inl (cJ, 1, .inr (.inl ov))) :: (o2, .inl (cD, 1, .inr (.inr (.inr (.inl od))))) :: tc_fl (tc_col cJ cD ad wd rd K Ln Wh Re) n) m0 m1 m2 m3 m4 m5 th n K Ln Wh Re cd ct H.size (xs (i + 1)) (xs (i + 2)) hk hk2) (cwV 2 hts gL_law_X3_canWiden rfl rfl rfl (by decide +kernel) ⟨Nat.le_of_ble_eq_true rfl, Nat.le_of_ble_eq_true rfl⟩) ⟨tcP.blind, va_recv hK hP (ci := 3) (q0 := 5) rfl rfl, tcP.go hK hP hD hE hS⟩ rfl rfl hl.1 rfl (lv_room (Nat.le_of_ble_eq_true rfl)) dL_law_2333 ⟨by show _ ≤ 601024; omega, by show _ ≤ 7293034; omega⟩) hS (fun q _ h => h) (fun q h => h) (fun r u t H locs ht hvm hw hB hz1 hk1 hS => ?_)
      subst hw
      obtain ⟨hP, hD⟩ := hB
      rw [ht] at hP
      refine lv_istore (lv' := [(7, .int 0), (6, .int 1), (5, .int (nI i)), (4, .ref o2), (3, .ref o1), (2, .ref m0), (1, .ref h0), (0, .ref b)]) hx hb dL_law_2336 hl (by decide) rfl (fun ls hl => ?_)
      refine lv_aload_n hx hb dL_law_2338 rfl (lv_at hl 5 rfl) ?_
      refine vp_callSi (tc_CR (va_runV (As := []) (rest := []) ⟨hx, hb, hml, hown, hts⟩ (tX3_thrown l D A cI cJ cD cC (h0, .inr (2, [.ref h1, .ref h2, .ref h3, .int (nI n), .int cd])) (h1, .inl (cC, 60, .inr (.inr (.inr (.inr (fun t8 => if t8 < n then some (ad t8) else none)))))) (h2, .inl (cI, 6, .inl ct)) (h3, .inr (1, [.ref h4])) (h4, .inl (cD, 10, .inr (.inr (.inr (.inl (fun t8 => tf_N (1023 + 2 ^ t8) 0)))))) ((o1, .inl (cJ, 1, .inr (.inl ov))) :: (o2, .inl (cD, 1, .inr (.inr (.inr (.inl od))))) :: tc_fl (tc_col cJ cD ad wd rd K Ln Wh Re) n) m0 m1 m2 m3 m4 m5 1 n K Ln Wh Re cd ct H.size) (cwV 0 hts gL_law_X3_thrown rfl rfl rfl (by decide +kernel) ⟨Nat.le_of_ble_eq_true rfl, Nat.le_of_ble_eq_true rfl⟩) ⟨tcP.blind, va_recv hK hP (ci := 3) (q0 := 5) rfl rfl, tcP.go hK hP hD hE hS⟩ rfl rfl hl.1 rfl (lv_room (Nat.le_of_ble_eq_true rfl)) dL_law_2339 ⟨by show _ ≤ 601024; omega, by show _ ≤ 7293034; omega⟩)) (fun r9 h9 => ?_)
      subst h9
      refine lv_iload hx hb dL_law_2342 (lv_at hl 1 rfl) ?_
      refine lv_icmp_eq (tgt := 2349) hx hb dL_law_2344 (by decide) (fun _ => ?_) (fun q => absurd (by decide) q)
      refine lv_iload hx hb dL_law_2349 (lv_at hl 1 rfl) ?_
      refine lv_if_ne (tgt := 2373) hx hb dL_law_2351 (by decide) (fun _ => ?_) (fun q => absurd q (by decide))
      refine lv_goto (tgt := 2390) hx hb dL_law_2373 (by decide) ?_
      refine W.widen (k := ce + 3) (n := sl + 44) (by omega) (by omega) ?_
      exact kc _ _ _ _ ⟨ad, wd, rd, n, K, Ln, Wh, Re, cd, ct, 1, ov, od, hdd, hI, hP, hD, hS, lv_sub hl [2, 3, 4, 5, 6, 7] rfl⟩
    · refine lv_aload_n hx hb dL_law_2301 rfl (lv_at hl 4 rfl) ?_
      refine lv_aload_n hx hb dL_law_2302 rfl (lv_at hl 5 rfl) ?_
      refine lv_iload hx hb dL_law_2303 (lv_at hl 0 rfl) ?_
      refine lv_iconst (v := 1) hx hb dL_law_2305 (by decide) ?_
      refine lv_iadd hx hb dL_law_2306 ?_
      refine tc_sld hx hb hX hbl hbA hS hL 1 rfl (by omega) (v := (xs (i + 1))) rfl dL_law_2307 ?_
      refine lv_aload_n hx hb dL_law_2308 rfl (lv_at hl 5 rfl) ?_
      refine lv_iload hx hb dL_law_2309 (lv_at hl 0 rfl) ?_
      refine lv_iconst (v := 2) hx hb dL_law_2311 (by decide) ?_
      refine lv_iadd hx hb dL_law_2312 ?_
      refine tc_sld hx hb hX hbl hbA hS hL 2 rfl (by omega) (v := (xs (i + 2))) rfl dL_law_2313 ?_
      refine lv_aload_n hx hb dL_law_2314 rfl (lv_at hl 2 rfl) ?_
      refine va_calli (tc_noX (vx_runSX (As := [.ref h0, .int (xs (i + 1)), .int (xs (i + 2)), .ref o1]) (rest := []) ⟨hx, hb, hml, hown, hts⟩ (lL_canWiden l hfl D A cI cJ cD cC h0 h1 h2 h3 h4 ad wd rd (m0, .inr (3, [.int th, .int (nI n), .ref m1, .ref m2, .ref m3, .ref m4, .int cd, .ref m5])) (m1, .inl (cI, 60, .inl K)) (m2, .inl (cI, 60, .inl (fun t8 => nI (Ln t8)))) (m3, .inl (cJ, 2400, .inr (.inl Wh))) (m4, .inl (cD, 2400, .inr (.inr (.inr (.inl Re))))) (m5, .inl (cI, 6, .inl ct)) o1 o2 ov od n K Ln Wh Re cd ct H.size hI (xs (i + 1)) (xs (i + 2)) hk hk2) (vx_cwSW 4 hts gL_law_L_canWiden rfl rfl rfl (by decide +kernel) ⟨Nat.le_of_ble_eq_true rfl, Nat.le_of_ble_eq_true rfl⟩) ⟨tcPL.blind, tcPL.go hK hP hD hE hNc hS⟩ rfl rfl hl.1 rfl (lv_room (Nat.le_of_ble_eq_true rfl)) dL_law_2315 ⟨by show _ ≤ 601024; omega, by show _ ≤ 7293034; omega⟩)) hS (fun q _ h => h) (fun q h => h) (fun r uL t H locs ht hvm hw hB hz1 hk1 hS => ?_)
      subst hw
      obtain ⟨hP, hD⟩ := hB
      rw [ht] at hP
      have hP : va_P D vwCl (tc_Z cI cJ cD (h0, .inr (2, [.ref h1, .ref h2, .ref h3, .int (nI n), .int cd])) (h1, .inl (cC, 60, .inr (.inr (.inr (.inr (fun t8 => if t8 < n then some (ad t8) else none)))))) (h2, .inl (cI, 6, .inl ct)) (h3, .inr (1, [.ref h4])) (h4, .inl (cD, 10, .inr (.inr (.inr (.inl (fun t8 => tf_N (1023 + 2 ^ t8) 0)))))) ((o1, .inl (cJ, 1, .inr (.inl (vp_updL ov 0 ((tb (kWid (xs (i + 1)) (xs (i + 2)))).toInt64))))) :: (o2, .inl (cD, 1, .inr (.inr (.inr (.inl od))))) :: tc_fl (tc_col cJ cD ad wd rd K Ln Wh Re) n) m0 m1 m2 m3 m4 m5 th n K Ln Wh Re cd ct) H := hP
      have hD : va_D A (tc_Z cI cJ cD (h0, .inr (2, [.ref h1, .ref h2, .ref h3, .int (nI n), .int cd])) (h1, .inl (cC, 60, .inr (.inr (.inr (.inr (fun t8 => if t8 < n then some (ad t8) else none)))))) (h2, .inl (cI, 6, .inl ct)) (h3, .inr (1, [.ref h4])) (h4, .inl (cD, 10, .inr (.inr (.inr (.inl (fun t8 => tf_N (1023 + 2 ^ t8) 0)))))) ((o1, .inl (cJ, 1, .inr (.inl (vp_updL ov 0 ((tb (kWid (xs (i + 1)) (xs (i + 2)))).toInt64))))) :: (o2, .inl (cD, 1, .inr (.inr (.inr (.inl od))))) :: tc_fl (tc_col cJ cD ad wd rd K Ln Wh Re) n) m0 m1 m2 m3 m4 m5 th n K Ln Wh Re cd ct) := hD
      refine lv_istore (lv' := [(6, .int 0), (5, .int (nI i)), (4, .ref o2), (3, .ref o1), (2, .ref m0), (1, .ref h0), (0, .ref b)]) hx hb dL_law_2318 hl (by decide) rfl (fun ls hl => ?_)
      refine lv_aload_n hx hb dL_law_2320 rfl (lv_at hl 4 rfl) ?_
      refine lv_aload_n hx hb dL_law_2321 rfl (lv_at hl 6 rfl) ?_
      refine lv_iload hx hb dL_law_2322 (lv_at hl 1 rfl) ?_
      refine lv_iconst (v := 1) hx hb dL_law_2324 (by decide) ?_
      refine lv_iadd hx hb dL_law_2325 ?_
      refine tc_sld hx hb hX hbl hbA hS hL 1 rfl (by omega) (v := (xs (i + 1))) rfl dL_law_2326 ?_
      refine lv_aload_n hx hb dL_law_2327 rfl (lv_at hl 6 rfl) ?_
      refine lv_iload hx hb dL_law_2328 (lv_at hl 1 rfl) ?_
      refine lv_iconst (v := 2) hx hb dL_law_2330 (by decide) ?_
      refine lv_iadd hx hb dL_law_2331 ?_
      refine tc_sld hx hb hX hbl hbA hS hL 2 rfl (by omega) (v := (xs (i + 2))) rfl dL_law_2332 ?_
      refine va_calli (va_runV (As := [.int (xs (i + 1)), .int (xs (i + 2))]) (rest := []) ⟨hx, hb, hml, hown, hts⟩ (tX3_canWiden_y l D A cI cJ cD cC (h0, .inr (2, [.ref h1, .ref h2, .ref h3, .int (nI n), .int cd])) (h1, .inl (cC, 60, .inr (.inr (.inr (.inr (fun t8 => if t8 < n then some (ad t8) else none)))))) (h2, .inl (cI, 6, .inl ct)) (h3, .inr (1, [.ref h4])) (h4, .inl (cD, 10, .inr (.inr (.inr (.inl (fun t8 => tf_N (1023 + 2 ^ t8) 0)))))) ((o1, .inl (cJ, 1, .inr (.inl (vp_updL ov 0 ((tb (kWid (xs (i + 1)) (xs (i + 2)))).toInt64))))) :: (o2, .inl (cD, 1, .inr (.inr (.inr (.inl od))))) :: tc_fl (tc_col cJ cD ad wd rd K Ln Wh Re) n) m0 m1 m2 m3 m4 m5 th n K Ln Wh Re cd ct H.size (xs (i + 1)) (xs (i + 2)) hk hk2) (cwV 2 hts gL_law_X3_canWiden rfl rfl rfl (by decide +kernel) ⟨Nat.le_of_ble_eq_true rfl, Nat.le_of_ble_eq_true rfl⟩) ⟨tcP.blind, va_recv hK hP (ci := 3) (q0 := 5) rfl rfl, tcP.go hK hP hD hE hS⟩ rfl rfl hl.1 rfl (lv_room (Nat.le_of_ble_eq_true rfl)) dL_law_2333 ⟨by show _ ≤ 601024; omega, by show _ ≤ 7293034; omega⟩) hS (fun q _ h => h) (fun q h => h) (fun r u t H locs ht hvm hw hB hz1 hk1 hS => ?_)
      subst hw
      obtain ⟨hP, hD⟩ := hB
      rw [ht] at hP
      refine lv_istore (lv' := [(7, .int (tb (kWid (xs (i + 1)) (xs (i + 2))))), (6, .int 0), (5, .int (nI i)), (4, .ref o2), (3, .ref o1), (2, .ref m0), (1, .ref h0), (0, .ref b)]) hx hb dL_law_2336 hl (by decide) rfl (fun ls hl => ?_)
      refine lv_aload_n hx hb dL_law_2338 rfl (lv_at hl 5 rfl) ?_
      refine vp_callSi (tc_CR (va_runV (As := []) (rest := []) ⟨hx, hb, hml, hown, hts⟩ (tX3_thrown l D A cI cJ cD cC (h0, .inr (2, [.ref h1, .ref h2, .ref h3, .int (nI n), .int cd])) (h1, .inl (cC, 60, .inr (.inr (.inr (.inr (fun t8 => if t8 < n then some (ad t8) else none)))))) (h2, .inl (cI, 6, .inl ct)) (h3, .inr (1, [.ref h4])) (h4, .inl (cD, 10, .inr (.inr (.inr (.inl (fun t8 => tf_N (1023 + 2 ^ t8) 0)))))) ((o1, .inl (cJ, 1, .inr (.inl (vp_updL ov 0 ((tb (kWid (xs (i + 1)) (xs (i + 2)))).toInt64))))) :: (o2, .inl (cD, 1, .inr (.inr (.inr (.inl od))))) :: tc_fl (tc_col cJ cD ad wd rd K Ln Wh Re) n) m0 m1 m2 m3 m4 m5 0 n K Ln Wh Re cd ct H.size) (cwV 0 hts gL_law_X3_thrown rfl rfl rfl (by decide +kernel) ⟨Nat.le_of_ble_eq_true rfl, Nat.le_of_ble_eq_true rfl⟩) ⟨tcP.blind, va_recv hK hP (ci := 3) (q0 := 5) rfl rfl, tcP.go hK hP hD hE hS⟩ rfl rfl hl.1 rfl (lv_room (Nat.le_of_ble_eq_true rfl)) dL_law_2339 ⟨by show _ ≤ 601024; omega, by show _ ≤ 7293034; omega⟩)) (fun r9 h9 => ?_)
      subst h9
      refine lv_iload hx hb dL_law_2342 (lv_at hl 1 rfl) ?_
      refine lv_icmp_eq (tgt := 2349) hx hb dL_law_2344 (by decide) (fun _ => ?_) (fun q => absurd (by decide) q)
      refine lv_iload hx hb dL_law_2349 (lv_at hl 1 rfl) ?_
      refine lv_if_ne (tgt := 2373) hx hb dL_law_2351 (by decide) (fun q => absurd (by decide) q) (fun _ => ?_)
      refine lv_aload_n hx hb dL_law_2354 rfl (lv_at hl 4 rfl) ?_
      refine lv_iconst (v := 0) hx hb dL_law_2355 (by decide) ?_
      refine tc_lald (f := (vp_updL ov 0 ((tb (kWid (xs (i + 1)) (xs (i + 2)))).toInt64))) (v := (tb (kWid (xs (i + 1)) (xs (i + 2)))).toInt64) hx hb hK hP 11 1 rfl rfl (by unfold vp_in; decide) (show (vp_updL ov 0 ((tb (kWid (xs (i + 1)) (xs (i + 2)))).toInt64)) 0 = (tb (kWid (xs (i + 1)) (xs (i + 2)))).toInt64 from if_pos rfl) dL_law_2356 ?_
      refine lv_iload hx hb dL_law_2357 (lv_at hl 0 rfl) ?_
      refine lv_if_eq (tgt := 2366) hx hb dL_law_2359 (by decide) (fun c_7 => ?_) (fun c_7 => ?_)
      · refine lv_lconst (v := 0) hx hb dL_law_2366 (by decide) ?_
        refine W.lcmp hx hb dL_law_2367 ?_
        refine lv_if_eq (tgt := 2373) hx hb dL_law_2368 (by decide) (fun _ => ?_) (fun q => absurd ((lg_cmp_eq _ _).mpr (tbL0 c_7)) q)
        refine lv_goto (tgt := 2390) hx hb dL_law_2373 (by decide) ?_
        refine W.widen (k := ce + 3) (n := sl + 44) (by omega) (by omega) ?_
        exact kc _ _ _ _ ⟨ad, wd, rd, n, K, Ln, Wh, Re, cd, ct, 0, (vp_updL ov 0 ((tb (kWid (xs (i + 1)) (xs (i + 2)))).toInt64)), od, hdd, hI, hP, hD, hS, lv_sub hl [2, 3, 4, 5, 6, 7] rfl⟩
      · refine lv_lconst (v := 1) hx hb dL_law_2362 (by decide) ?_
        refine lv_goto (tgt := 2367) hx hb dL_law_2363 (by decide) ?_
        refine W.lcmp hx hb dL_law_2367 ?_
        refine lv_if_eq (tgt := 2373) hx hb dL_law_2368 (by decide) (fun _ => ?_) (fun q => absurd ((lg_cmp_eq _ _).mpr (tbL1 c_7)) q)
        refine lv_goto (tgt := 2390) hx hb dL_law_2373 (by decide) ?_
        refine W.widen (k := ce + 3) (n := sl + 44) (by omega) (by omega) ?_
        exact kc _ _ _ _ ⟨ad, wd, rd, n, K, Ln, Wh, Re, cd, ct, 0, (vp_updL ov 0 ((tb (kWid (xs (i + 1)) (xs (i + 2)))).toInt64)), od, hdd, hI, hP, hD, hS, lv_sub hl [2, 3, 4, 5, 6, 7] rfl⟩
set_option maxHeartbeats 4000000 in
set_option maxRecDepth 100000 in
theorem law_30 {p : Program} {l : Launch} {e : Env} {s : State} {m : MethodId} {below : List Frame} {meth : Method} {c : Code} {D : va_G} {A : Nat → Prop} {cI cJ cD cC : ClassId} {h0 h1 h2 h3 h4 m0 m1 m2 m3 m4 m5 o1 o2 : Nat} {b L : Nat} {xs : Nat → Int32} {Q : State → Prop} (C0 : LCtx p l D A cI cJ cD cC s m c b L xs) {d : Drawn} {H : Heap} {locs : List Loc} {ls : Array Slot} {i ce sl : Nat} (hi : i + 6 ≤ L) (hce : ce + 3 ≤ 601024) (hsl : sl + 44 ≤ 7293034) (hv : LInv D A cI cJ cD cC h0 h1 h2 h3 h4 m0 m1 m2 m3 m4 m5 o1 o2 s b d H locs i ls) (kc : ∀ (d : Drawn) (H : Heap) (locs : List Loc) (ls : Array Slot), LInv D A cI cJ cD cC h0 h1 h2 h3 h4 m0 m1 m2 m3 m4 m5 o1 o2 s b d H locs i ls → W p l e room_1 (s.setDrawn d) m #[Value.ref b] below meth c H locs (ce + 3) (sl + 44) Q (F0 m 2390 ls [])) : W p l e room_1 (s.setDrawn d) m #[Value.ref b] below meth c H locs ce sl Q (F0 m 2376 ls []) := by
  obtain ⟨hx, hb, hml, hown0, htsB, hX0, hbl, hbA, hA, hL, hfl, hK0, hE0, hNc0⟩ := C0
  obtain ⟨ad, wd, rd, n, K, Ln, Wh, Re, cd, ct, th, ov, od, hdd, hI, hP, hD, hS, hl⟩ := hv
  have hn60 : n ≤ 60 := hI.1
  have hts := dr_words htsB d
  have hK : va_K D vwCl (tcTY cI cJ cD cC) (s.setDrawn d) := hK0
  have hE : tc_E A (s.setDrawn d) := hE0
  have hNc : tc_Nc (s.setDrawn d) := hNc0
  have hown : (s.setDrawn d).vm.findClass RL = some m.cls := hown0
  have hX : va_X b L xs (s.setDrawn d) s.heap := hX0
  refine lv_aload_n hx hb dL_law_2376 rfl (lv_at hl 4 rfl) ?_
  refine vp_callSl (tc_CR (va_runV (As := []) (rest := []) ⟨hx, hb, hml, hown, hts⟩ (tX2_digest l D A cI cJ cD cC h0 h1 h2 h3 h4 ad wd rd (tc_Y cJ cD (m0, .inr (3, [.int th, .int (nI n), .ref m1, .ref m2, .ref m3, .ref m4, .int cd, .ref m5])) (m1, .inl (cI, 60, .inl K)) (m2, .inl (cI, 60, .inl (fun t8 => nI (Ln t8)))) (m3, .inl (cJ, 2400, .inr (.inl Wh))) (m4, .inl (cD, 2400, .inr (.inr (.inr (.inl Re))))) (m5, .inl (cI, 6, .inl ct)) o1 o2 ov od) n K Ln Wh Re cd ct H.size hI) (cwV 0 hts gL_law_X2_digest rfl rfl rfl (by decide +kernel) ⟨Nat.le_of_ble_eq_true rfl, Nat.le_of_ble_eq_true rfl⟩) ⟨tcP.blind, va_recv hK hP (ci := 2) (q0 := 0) rfl rfl, tcP.go hK hP hD hE hS⟩ rfl rfl hl.1 rfl (lv_room (Nat.le_of_ble_eq_true rfl)) dL_law_2377 ⟨by show _ ≤ 601024; omega, by show _ ≤ 7293034; omega⟩)) (fun r9 h9 => ?_)
  subst h9
  have hP : va_P D vwCl (tc_Z cI cJ cD (h0, .inr (2, [.ref h1, .ref h2, .ref h3, .int (nI n), .int cd])) (h1, .inl (cC, 60, .inr (.inr (.inr (.inr (fun t8 => if t8 < n then some (ad t8) else none)))))) (h2, .inl (cI, 6, .inl ct)) (h3, .inr (1, [.ref h4])) (h4, .inl (cD, 10, .inr (.inr (.inr (.inl (fun t8 => tf_N (1023 + 2 ^ t8) 0)))))) ((o1, .inl (cJ, 1, .inr (.inl ov))) :: (o2, .inl (cD, 1, .inr (.inr (.inr (.inl od))))) :: tc_fl (tc_col cJ cD ad wd rd K Ln Wh Re) n) m0 m1 m2 m3 m4 m5 th n K Ln Wh Re cd ct) H := hP
  have hD : va_D A (tc_Z cI cJ cD (h0, .inr (2, [.ref h1, .ref h2, .ref h3, .int (nI n), .int cd])) (h1, .inl (cC, 60, .inr (.inr (.inr (.inr (fun t8 => if t8 < n then some (ad t8) else none)))))) (h2, .inl (cI, 6, .inl ct)) (h3, .inr (1, [.ref h4])) (h4, .inl (cD, 10, .inr (.inr (.inr (.inl (fun t8 => tf_N (1023 + 2 ^ t8) 0)))))) ((o1, .inl (cJ, 1, .inr (.inl ov))) :: (o2, .inl (cD, 1, .inr (.inr (.inr (.inl od))))) :: tc_fl (tc_col cJ cD ad wd rd K Ln Wh Re) n) m0 m1 m2 m3 m4 m5 th n K Ln Wh Re cd ct) := hD
  refine lv_aload_n hx hb dL_law_2380 rfl (lv_at hl 3 rfl) ?_
  refine va_calll (va_runV (As := []) (rest := [.long (dig n K Ln Wh Re ct)]) ⟨hx, hb, hml, hown, hts⟩ (tX3_digest l D A cI cJ cD cC (h0, .inr (2, [.ref h1, .ref h2, .ref h3, .int (nI n), .int cd])) (h1, .inl (cC, 60, .inr (.inr (.inr (.inr (fun t8 => if t8 < n then some (ad t8) else none)))))) (h2, .inl (cI, 6, .inl ct)) (h3, .inr (1, [.ref h4])) (h4, .inl (cD, 10, .inr (.inr (.inr (.inl (fun t8 => tf_N (1023 + 2 ^ t8) 0)))))) ((o1, .inl (cJ, 1, .inr (.inl ov))) :: (o2, .inl (cD, 1, .inr (.inr (.inr (.inl od))))) :: tc_fl (tc_col cJ cD ad wd rd K Ln Wh Re) n) m0 m1 m2 m3 m4 m5 th n K Ln Wh Re cd ct H.size hI) (cwV 0 hts gL_law_X3_digest rfl rfl rfl (by decide +kernel) ⟨Nat.le_of_ble_eq_true rfl, Nat.le_of_ble_eq_true rfl⟩) ⟨tcP.blind, va_recv hK hP (ci := 3) (q0 := 5) rfl rfl, tcP.go hK hP hD hE hS⟩ rfl rfl hl.1 rfl (lv_room (Nat.le_of_ble_eq_true rfl)) dL_law_2381 ⟨by show _ ≤ 601024; omega, by show _ ≤ 7293034; omega⟩) hS (fun q _ h => h) (fun q h => h) (fun r u t H locs ht hvm hw hB hz1 hk1 hS => ?_)
  subst hw
  obtain ⟨hP, hD⟩ := hB
  rw [ht] at hP
  refine W.lcmp hx hb dL_law_2384 ?_
  refine lv_if_eq (tgt := 2390) hx hb dL_law_2385 (by decide) (fun _ => ?_) (fun q => absurd ((lg_cmp_eq _ _).mpr rfl) q)
  refine W.widen (k := ce + 3) (n := sl + 44) (by omega) (by omega) ?_
  exact kc _ _ _ _ ⟨ad, wd, rd, n, K, Ln, Wh, Re, cd, ct, 0, ov, od, hdd, hI, hP, hD, hS, lv_sub hl [0, 1, 2, 3, 4, 5] rfl⟩
