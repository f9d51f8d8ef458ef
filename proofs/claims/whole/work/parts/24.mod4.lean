/-! THE MODEL: totals, checksums; its constructor -/
def dgC (K : Nat → Int32) (Wh : Nat → Int64) (Re : Nat → UInt64) (u : Nat) (q : Nat) : Int64 := if kFl (K u) = true then (Re (40 * u + q)).toInt64 else Wh (40 * u + q)
theorem mx53 (x : Int64) : mx 53 x = 1643 + x := by
  unfold mx
  rw [show (53 : Int64) * 31 = 1643 from by decide]
def toV (K : Nat → Int32) (Wh : Nat → Int64) (Re : Nat → UInt64) (j : Nat) (q : Nat) : UInt64 := if kFl (K j) = true then Re (40 * j + q) else FP.l2d (Wh (40 * j + q))
theorem tot_y {K : Nat → Int32} {Ln : Nat → Nat} {Wh : Nat → Int64} {Re : Nat → UInt64} {j : Nat} (hc : kCol (K j) = 0) : tot K Ln Wh Re j = tf_sum (toV K Wh Re j) (Ln j) := by unfold tot; rw [if_pos hc]; rfl
theorem tot_n {K : Nat → Int32} {Ln : Nat → Nat} {Wh : Nat → Int64} {Re : Nat → UInt64} {j : Nat} (hc : ¬ kCol (K j) = 0) : tot K Ln Wh Re j = 0 := by unfold tot; rw [if_neg hc]
set_option maxHeartbeats 4000000 in
set_option maxRecDepth 100000 in
theorem tX3_digest (l : Launch) (D : va_G) (A : Nat → Prop) (cI cJ cD cC : ClassId) (x0 x1 x2 x3 x4 : Nat × va_E) (Z : va_W) (m0 m1 m2 m3 m4 m5 : Nat) (th : Int32) (n : Nat) (K : Nat → Int32) (Ln : Nat → Nat) (Wh : Nat → Int64) (Re : Nat → UInt64) (cd : Int32) (ct : Nat → Int32) (sz : Nat) (hI : tcI n K Ln Wh Re)  : Met l yX3_digest wsX3_digest ({ frames := 2, cells := 0, slots := 0, locals := 42 }) (tcP D A (tcTY cI cJ cD cC) sz [.ref m0] (tc_Z cI cJ cD x0 x1 x2 x3 x4 Z m0 m1 m2 m3 m4 m5 th n K Ln Wh Re cd ct)) (va_Ql (fun r (_ : Unit) => r = dig n K Ln Wh Re ct) (fun _ t => tcB D A (tc_Z cI cJ cD x0 x1 x2 x3 x4 Z m0 m1 m2 m3 m4 m5 0 n K Ln Wh Re cd ct) t) A) 0 0 A := by
  refine Met.ofW (cc := cX3_digest) (maxL := 5) (ret := (some .long)) (by decide) rfl ?_
  intro p e s m args below meth c s₁ B hml hv
  obtain ⟨rfl, hsz, hP, hK, hD, hE⟩ := hv
  have hx := B.exec
  have hb := B.bytes
  have hr := B.returns
  have hts := atoms_spec (ws := wsX3_digest) B.pre
  have hown : s.vm.findClass RX3 = some m.cls := findClass_of_methodNamed B.named
  have hlocks := B.notSynchronized
  have hl := lv_entry ([.ref m0]) (n := 5) (Nat.le_of_ble_eq_true rfl)
  rw [lg_entry_eq]
  generalize (lg_sl ([.ref m0]) ++ List.replicate (5 - (lg_sl ([.ref m0])).length) Slot.unset).toArray = ls at hl ⊢
  have hl : lv_has ls 5 [(0, .ref m0)] := hl
  subst hsz
  have hS : va_S A s.heap s.heap [] := va_S.rf
  have hn60 : n ≤ 60 := hI.1
  refine lv_aload_n hx hb dX3_digest_0 rfl (lv_at hl 0 rfl) ?_
  refine lv_iconst (v := 0) hx hb dX3_digest_1 (by decide) ?_
  refine va_put (D := D) (ci := 3) (fs := [.int th, .int (nI n), .ref m1, .ref m2, .ref m3, .ref m4, .int cd, .ref m5]) (v := .int 0) (ty := .int) (C := RX3) (T := TX3) (N := 8) hx hb hts (by decide +kernel) tyX3 tyX3_ok nmX3 hown hK hP hD hS 5 rfl rfl 0 (by decide) (hts (.fieldLink RX3 27 "TypedColumnsModel" "thrown" "I") (by decide +kernel)) (fun _ h9 => h9) rfl (by decide +kernel) rfl rfl (Nat.le_of_ble_eq_true rfl) dX3_digest_2 (fun H locs hP hD hS => ?_)
  have hP : va_P D vwCl (tc_Z cI cJ cD x0 x1 x2 x3 x4 Z m0 m1 m2 m3 m4 m5 0 n K Ln Wh Re cd ct) H := hP
  have hD : va_D A (tc_Z cI cJ cD x0 x1 x2 x3 x4 Z m0 m1 m2 m3 m4 m5 0 n K Ln Wh Re cd ct) := hD
  refine lv_ldc2 (v := 1643) hx hb hown (hts (.constantLong RX3 115 (1643)) (by decide +kernel)) dX3_digest_5 ?_
  refine lv_aload_n hx hb dX3_digest_8 rfl (lv_at hl 0 rfl) ?_
  refine va_get (D := D) (ci := 3) (fs := [.int 0, .int (nI n), .ref m1, .ref m2, .ref m3, .ref m4, .int cd, .ref m5]) (v := .int (nI n)) (C := RX3) (T := TX3) (N := 8) hx hb hts (by decide +kernel) hown hK hP 5 rfl rfl 1 (by decide) (hts (.fieldLink RX3 31 "TypedColumnsModel" "columns" "I") (by decide +kernel)) (fun _ h9 => h9) rfl dX3_digest_9 ?_
  refine lv_i2l (v := (nI n).toInt64) hx hb dX3_digest_12 rfl ?_
  refine lv_ladd hx hb dX3_digest_13 ?_
  refine lv_topl (fun x_1 ex_1 => ?_)
  refine lv_lstore_n (lv' := [(1, .long x_1), (0, .ref m0)]) hx hb dX3_digest_14 rfl hl (by decide) rfl (fun ls hl => ?_)
  refine lv_iconst (v := 0) hx hb dX3_digest_15 (by decide) ?_
  refine lv_istore_n (lv' := [(3, .int 0), (1, .long x_1), (0, .ref m0)]) hx hb dX3_digest_16 rfl hl (by decide) rfl (fun ls hl => ?_)
  subst ex_1
  have hl0 : lv_has ls 5 [(3, .int (nI 0)), (1, .long (mx 53 (nI n).toInt64)), (0, .ref m0)] := by rw [mx53]; exact lv_sub hl [0, 1, 2] rfl
  refine tc_loop (fun k9u H locs ls => ∃ u : Nat, u + k9u = n ∧ va_P D vwCl (tc_Z cI cJ cD x0 x1 x2 x3 x4 Z m0 m1 m2 m3 m4 m5 0 n K Ln Wh Re cd ct) H ∧ va_D A (tc_Z cI cJ cD x0 x1 x2 x3 x4 Z m0 m1 m2 m3 m4 m5 0 n K Ln Wh Re cd ct) ∧ va_S A s.heap H locs ∧ lv_has ls 5 [(3, .int (nI u)), (1, .long (digC K Ln Wh Re (mx 53 (nI n).toInt64) u)), (0, .ref m0)]) (fun k9u H locs ls hi9 ihu => ?_) (fun H locs ls hi9 => ?_) n ⟨0, by omega, hP, hD, hS, hl0⟩
  · obtain ⟨u, huk, hP, hD, hS, hl⟩ := hi9
    have huN : u < n := by omega
    have hu60 : u < 60 := by omega
    have hLu := (hI.2.1 u huN).2.1
    refine lv_iload_n hx hb dX3_digest_17 rfl (lv_at hl 0 rfl) ?_
    refine lv_aload_n hx hb dX3_digest_18 rfl (lv_at hl 2 rfl) ?_
    refine va_get (D := D) (ci := 3) (fs := [.int 0, .int (nI n), .ref m1, .ref m2, .ref m3, .ref m4, .int cd, .ref m5]) (v := .int (nI n)) (C := RX3) (T := TX3) (N := 8) hx hb hts (by decide +kernel) hown hK hP 5 rfl rfl 1 (by decide) (hts (.fieldLink RX3 31 "TypedColumnsModel" "columns" "I") (by decide +kernel)) (fun _ h9 => h9) rfl dX3_digest_19 ?_
    refine lv_icmp_ge (tgt := 140) hx hb dX3_digest_22 (by decide) (fun q => absurd q (nI_ge huN (by omega))) (fun _ => ?_)
    refine lv_lload_n hx hb dX3_digest_25 rfl (lv_at hl 1 rfl) ?_
    refine lv_ldc2 (v := 31) hx hb hown (hts (.constantLong RX3 117 (31)) (by decide +kernel)) dX3_digest_26 ?_
    refine lv_lmul hx hb dX3_digest_29 ?_
    refine lv_aload_n hx hb dX3_digest_30 rfl (lv_at hl 2 rfl) ?_
    refine va_get (D := D) (ci := 3) (fs := [.int 0, .int (nI n), .ref m1, .ref m2, .ref m3, .ref m4, .int cd, .ref m5]) (v := .ref m1) (C := RX3) (T := TX3) (N := 8) hx hb hts (by decide +kernel) hown hK hP 5 rfl rfl 2 (by decide) (hts (.fieldLink RX3 9 "TypedColumnsModel" "kinds" "[I") (by decide +kernel)) (fun _ h9 => h9) rfl dX3_digest_31 ?_
    refine lv_iload_n hx hb dX3_digest_34 rfl (lv_at hl 0 rfl) ?_
    refine tc_iald (f := K) (v := (K u)) hx hb hK hP 6 0 rfl rfl (vp_in_nI (show u < 60 by omega) (by decide)) (by rw [nI_clamp (show u < 2 ^ 31 by omega)]) dX3_digest_35 ?_
    refine lv_i2l (v := (K u).toInt64) hx hb dX3_digest_36 rfl ?_
    refine lv_ladd hx hb dX3_digest_37 ?_
    refine lv_ldc2 (v := 31) hx hb hown (hts (.constantLong RX3 117 (31)) (by decide +kernel)) dX3_digest_38 ?_
    refine lv_lmul hx hb dX3_digest_41 ?_
    refine tc_join 64 (fun ls st9 => (st9 = [.int (tc_cl (K u) (Ln u)), .long ((((digC K Ln Wh Re (mx 53 (nI n).toInt64) u) * 31) + (K u).toInt64) * 31)]) ∧ lv_has ls 5 [(3, .int (nI u)), (1, .long (digC K Ln Wh Re (mx 53 (nI n).toInt64) u)), (0, .ref m0)]) (fun ls st9 hi9 => ?_) (fun jn => ?_)
    · obtain ⟨rfl, hl⟩ := hi9
      refine lv_i2l (v := (tc_cl (K u) (Ln u)).toInt64) hx hb dX3_digest_64 rfl ?_
      refine lv_ladd hx hb dX3_digest_65 ?_
      refine lv_topl (fun x_3 ex_3 => ?_)
      refine lv_lstore_n (lv' := [(1, .long x_3), (3, .int (nI u)), (0, .ref m0)]) hx hb dX3_digest_66 rfl hl (by decide) rfl (fun ls hl => ?_)
      refine lv_iconst (v := 0) hx hb dX3_digest_67 (by decide) ?_
      refine lv_istore (lv' := [(4, .int 0), (1, .long x_3), (3, .int (nI u)), (0, .ref m0)]) hx hb dX3_digest_68 hl (by decide) rfl (fun ls hl => ?_)
      subst ex_3
      have hl0 : lv_has ls 5 [(4, .int (nI 0)), (3, .int (nI u)), (1, .long (mx (mx (digC K Ln Wh Re (mx 53 (nI n).toInt64) u) (K u).toInt64) (tc_cl (K u) (Ln u)).toInt64)), (0, .ref m0)] := lv_sub hl [0, 2, 1, 3] rfl
      refine tc_loop (fun k9 H locs ls => ∃ i : Nat, i + k9 = (Ln u) ∧ va_P D vwCl (tc_Z cI cJ cD x0 x1 x2 x3 x4 Z m0 m1 m2 m3 m4 m5 0 n K Ln Wh Re cd ct) H ∧ va_D A (tc_Z cI cJ cD x0 x1 x2 x3 x4 Z m0 m1 m2 m3 m4 m5 0 n K Ln Wh Re cd ct) ∧ va_S A s.heap H locs ∧ lv_has ls 5 [(4, .int (nI i)), (3, .int (nI u)), (1, .long (mxW (mx (mx (digC K Ln Wh Re (mx 53 (nI n).toInt64) u) (K u).toInt64) (tc_cl (K u) (Ln u)).toInt64) (dgC K Wh Re u) i)), (0, .ref m0)]) (fun k9 H locs ls hi9 ih => ?_) (fun H locs ls hi9 => ?_) (Ln u) ⟨0, by omega, hP, hD, hS, hl0⟩
      · obtain ⟨i, hik, hP, hD, hS, hl⟩ := hi9
        have hiN : i < (Ln u) := by omega
        have hq : i < 40 := by omega
        have hh : kHas (K u) = true := (Bool.not_eq_false _).mp (fun q => by have := (hI.2.1 u huN).2.2 q; omega)
        refine lv_iload hx hb dX3_digest_70 (lv_at hl 0 rfl) ?_
        refine lv_aload_n hx hb dX3_digest_72 rfl (lv_at hl 3 rfl) ?_
        refine va_get (D := D) (ci := 3) (fs := [.int 0, .int (nI n), .ref m1, .ref m2, .ref m3, .ref m4, .int cd, .ref m5]) (v := .ref m2) (C := RX3) (T := TX3) (N := 8) hx hb hts (by decide +kernel) hown hK hP 5 rfl rfl 3 (by decide) (hts (.fieldLink RX3 13 "TypedColumnsModel" "lengths" "[I") (by decide +kernel)) (fun _ h9 => h9) rfl dX3_digest_73 ?_
        refine lv_iload_n hx hb dX3_digest_76 rfl (lv_at hl 1 rfl) ?_
        refine tc_iald (f := (fun t8 => nI (Ln t8))) (v := (nI (Ln u))) hx hb hK hP 7 0 rfl rfl (vp_in_nI (show u < 60 by omega) (by decide)) (by rw [nI_clamp (show u < 2 ^ 31 by omega)]) dX3_digest_77 ?_
        refine lv_icmp_ge (tgt := 134) hx hb dX3_digest_78 (by decide) (fun q => absurd q (nI_ge hiN (by omega))) (fun _ => ?_)
        refine lv_lload_n hx hb dX3_digest_81 rfl (lv_at hl 2 rfl) ?_
        refine lv_ldc2 (v := 31) hx hb hown (hts (.constantLong RX3 117 (31)) (by decide +kernel)) dX3_digest_82 ?_
        refine lv_lmul hx hb dX3_digest_85 ?_
        refine lv_aload_n hx hb dX3_digest_86 rfl (lv_at hl 3 rfl) ?_
        refine va_get (D := D) (ci := 3) (fs := [.int 0, .int (nI n), .ref m1, .ref m2, .ref m3, .ref m4, .int cd, .ref m5]) (v := .ref m1) (C := RX3) (T := TX3) (N := 8) hx hb hts (by decide +kernel) hown hK hP 5 rfl rfl 2 (by decide) (hts (.fieldLink RX3 9 "TypedColumnsModel" "kinds" "[I") (by decide +kernel)) (fun _ h9 => h9) rfl dX3_digest_87 ?_
        refine lv_iload_n hx hb dX3_digest_90 rfl (lv_at hl 1 rfl) ?_
        refine tc_iald (f := K) (v := (K u)) hx hb hK hP 6 0 rfl rfl (vp_in_nI (show u < 60 by omega) (by decide)) (by rw [nI_clamp (show u < 2 ^ 31 by omega)]) dX3_digest_91 ?_
        refine vp_callSi (W.runS (As := [.int (K u)]) (rest := [.long ((mxW (mx (mx (digC K Ln Wh Re (mx 53 (nI n).toInt64) u) (K u).toInt64) (tc_cl (K u) (Ln u)).toInt64) (dgC K Wh Re u) i) * 31)]) ⟨hx, hb, hml, hown, hts⟩ (kX3_isReal l (K u)) (va_cwS 1 hts gX3_digest_X3_isReal rfl rfl rfl (by decide +kernel) ⟨Nat.le_of_ble_eq_true rfl, Nat.le_of_ble_eq_true rfl⟩) ⟨fun a U g mk q => q, fun U hU hW => ⟨rfl, trivial⟩⟩ rfl rfl hl.1 rfl (lv_room (Nat.le_of_ble_eq_true rfl)) dX3_digest_92 ⟨Nat.zero_le _, Nat.zero_le _⟩) (fun r_5 hr_5 => ?_)
        subst hr_5
        refine lv_if_eq (tgt := 115) hx hb dX3_digest_95 (by decide) (fun c_6 => ?_) (fun c_6 => ?_)
        · refine lv_aload_n hx hb dX3_digest_115 rfl (lv_at hl 3 rfl) ?_
          refine va_get (D := D) (ci := 3) (fs := [.int 0, .int (nI n), .ref m1, .ref m2, .ref m3, .ref m4, .int cd, .ref m5]) (v := .ref m3) (C := RX3) (T := TX3) (N := 8) hx hb hts (by decide +kernel) hown hK hP 5 rfl rfl 4 (by decide) (hts (.fieldLink RX3 16 "TypedColumnsModel" "whole" "[J") (by decide +kernel)) (fun _ h9 => h9) rfl dX3_digest_116 ?_
          refine lv_iload_n hx hb dX3_digest_119 rfl (lv_at hl 1 rfl) ?_
          refine lv_iload hx hb dX3_digest_120 (lv_at hl 0 rfl) ?_
          refine vp_callSi (W.runS (As := [.int (nI u), .int (nI i)]) (rest := [.ref m3, .long ((mxW (mx (mx (digC K Ln Wh Re (mx 53 (nI n).toInt64) u) (K u).toInt64) (tc_cl (K u) (Ln u)).toInt64) (dgC K Wh Re u) i) * 31)]) ⟨hx, hb, hml, hown, hts⟩ (kX3_at l (nI u) (nI i)) (va_cwS 2 hts gX3_digest_X3_at rfl rfl rfl (by decide +kernel) ⟨Nat.le_of_ble_eq_true rfl, Nat.le_of_ble_eq_true rfl⟩) ⟨fun a U g mk q => q, fun U hU hW => ⟨rfl, trivial⟩⟩ rfl rfl hl.1 rfl (lv_room (Nat.le_of_ble_eq_true rfl)) dX3_digest_122 ⟨Nat.zero_le _, Nat.zero_le _⟩) (fun r_7 hr_7 => ?_)
          subst hr_7
          rw [at_n (j := u) (q := i)]
          refine tc_lald (f := Wh) (v := (Wh (40 * u + i))) hx hb hK hP 8 1 rfl rfl (vp_in_nI (show (40 * u + i) < 2400 by omega) (by decide)) (by rw [nI_clamp (show (40 * u + i) < 2 ^ 31 by omega)]) dX3_digest_125 ?_
          rw [show Wh (40 * u + i) = dgC K Wh Re u i from (if_neg (by rw [((kReal_has hh).symm.trans ((tb_0 _).mp c_6))]; decide)).symm]
          refine lv_ladd hx hb dX3_digest_126 ?_
          refine lv_topl (fun x_8 ex_8 => ?_)
          refine lv_lstore_n (lv' := [(1, .long x_8), (4, .int (nI i)), (3, .int (nI u)), (0, .ref m0)]) hx hb dX3_digest_127 rfl hl (by decide) rfl (fun ls hl => ?_)
          obtain ⟨x_9, ex_9⟩ : ∃ y : Int32, y = (nI i) + (1) := ⟨_, rfl⟩
          refine lv_iinc (v := x_9) (lv' := [(4, .int x_9), (1, .long x_8), (3, .int (nI u)), (0, .ref m0)]) hx hb dX3_digest_128 hl (k := 1) rfl (by rw [ex_9]; rfl) (by decide) rfl (fun ls hl => ?_)
          refine lv_goto (tgt := 70) hx hb dX3_digest_131 (by decide) ?_
          subst ex_8
          subst ex_9
          exact ih _ _ _ ⟨i + 1, by omega, hP, hD, hS, by rw [nI_succ]; exact lv_sub hl [0, 2, 1, 3] rfl⟩
        · refine lv_aload_n hx hb dX3_digest_98 rfl (lv_at hl 3 rfl) ?_
          refine va_get (D := D) (ci := 3) (fs := [.int 0, .int (nI n), .ref m1, .ref m2, .ref m3, .ref m4, .int cd, .ref m5]) (v := .ref m4) (C := RX3) (T := TX3) (N := 8) hx hb hts (by decide +kernel) hown hK hP 5 rfl rfl 5 (by decide) (hts (.fieldLink RX3 20 "TypedColumnsModel" "real" "[D") (by decide +kernel)) (fun _ h9 => h9) rfl dX3_digest_99 ?_
          refine lv_iload_n hx hb dX3_digest_102 rfl (lv_at hl 1 rfl) ?_
          refine lv_iload hx hb dX3_digest_103 (lv_at hl 0 rfl) ?_
          refine vp_callSi (W.runS (As := [.int (nI u), .int (nI i)]) (rest := [.ref m4, .long ((mxW (mx (mx (digC K Ln Wh Re (mx 53 (nI n).toInt64) u) (K u).toInt64) (tc_cl (K u) (Ln u)).toInt64) (dgC K Wh Re u) i) * 31)]) ⟨hx, hb, hml, hown, hts⟩ (kX3_at l (nI u) (nI i)) (va_cwS 2 hts gX3_digest_X3_at rfl rfl rfl (by decide +kernel) ⟨Nat.le_of_ble_eq_true rfl, Nat.le_of_ble_eq_true rfl⟩) ⟨fun a U g mk q => q, fun U hU hW => ⟨rfl, trivial⟩⟩ rfl rfl hl.1 rfl (lv_room (Nat.le_of_ble_eq_true rfl)) dX3_digest_105 ⟨Nat.zero_le _, Nat.zero_le _⟩) (fun r_10 hr_10 => ?_)
          subst hr_10
          rw [at_n (j := u) (q := i)]
          refine tc_dald (f := Re) (v := (Re (40 * u + i))) hx hb hK hP 9 2 rfl rfl (vp_in_nI (show (40 * u + i) < 2400 by omega) (by decide)) (by rw [nI_clamp (show (40 * u + i) < 2 ^ 31 by omega)]) dX3_digest_108 ?_
          have gz : FP.Core.dIsNaN (Re (40 * u + i)) = false := hI.2.2.2 u huN ((kReal_has hh).symm.trans ((tb_1 _).mp c_6)) i hiN
          refine vp_callSl (W.runS (As := [.double (Re (40 * u + i))]) (rest := [.long ((mxW (mx (mx (digC K Ln Wh Re (mx 53 (nI n).toInt64) u) (K u).toInt64) (tc_cl (K u) (Ln u)).toInt64) (dgC K Wh Re u) i) * 31)]) ⟨hx, hb, hml, hown, hts⟩ (kJxe99ae_doubleToLongBits_ccdee l (Re (40 * u + i)) (gz)) (va_cwS 1 hts gX3_digest_Jxe99ae_doubleToLongBits_ccdee rfl rfl rfl (by decide +kernel) ⟨Nat.le_of_ble_eq_true rfl, Nat.le_of_ble_eq_true rfl⟩) ⟨fun a U g mk q => q, fun U hU hW => ⟨rfl, trivial⟩⟩ rfl rfl hl.1 rfl (lv_room (Nat.le_of_ble_eq_true rfl)) dX3_digest_109 ⟨Nat.zero_le _, Nat.zero_le _⟩) (fun r_11 hr_11 => ?_)
          subst hr_11
          rw [show (Re (40 * u + i)).toInt64 = dgC K Wh Re u i from (if_pos ((kReal_has hh).symm.trans ((tb_1 _).mp c_6))).symm]
          refine lv_goto (tgt := 126) hx hb dX3_digest_112 (by decide) ?_
          refine lv_ladd hx hb dX3_digest_126 ?_
          refine lv_topl (fun x_12 ex_12 => ?_)
          refine lv_lstore_n (lv' := [(1, .long x_12), (4, .int (nI i)), (3, .int (nI u)), (0, .ref m0)]) hx hb dX3_digest_127 rfl hl (by decide) rfl (fun ls hl => ?_)
          obtain ⟨x_13, ex_13⟩ : ∃ y : Int32, y = (nI i) + (1) := ⟨_, rfl⟩
          refine lv_iinc (v := x_13) (lv' := [(4, .int x_13), (1, .long x_12), (3, .int (nI u)), (0, .ref m0)]) hx hb dX3_digest_128 hl (k := 1) rfl (by rw [ex_13]; rfl) (by decide) rfl (fun ls hl => ?_)
          refine lv_goto (tgt := 70) hx hb dX3_digest_131 (by decide) ?_
          subst ex_12
          subst ex_13
          exact ih _ _ _ ⟨i + 1, by omega, hP, hD, hS, by rw [nI_succ]; exact lv_sub hl [0, 2, 1, 3] rfl⟩
      · obtain ⟨i, hik, hP, hD, hS, hl⟩ := hi9
        have hiN : i = (Ln u) := by omega
        rw [hiN] at hl
        refine lv_iload hx hb dX3_digest_70 (lv_at hl 0 rfl) ?_
        refine lv_aload_n hx hb dX3_digest_72 rfl (lv_at hl 3 rfl) ?_
        refine va_get (D := D) (ci := 3) (fs := [.int 0, .int (nI n), .ref m1, .ref m2, .ref m3, .ref m4, .int cd, .ref m5]) (v := .ref m2) (C := RX3) (T := TX3) (N := 8) hx hb hts (by decide +kernel) hown hK hP 5 rfl rfl 3 (by decide) (hts (.fieldLink RX3 13 "TypedColumnsModel" "lengths" "[I") (by decide +kernel)) (fun _ h9 => h9) rfl dX3_digest_73 ?_
        refine lv_iload_n hx hb dX3_digest_76 rfl (lv_at hl 1 rfl) ?_
        refine tc_iald (f := (fun t8 => nI (Ln t8))) (v := (nI (Ln u))) hx hb hK hP 7 0 rfl rfl (vp_in_nI (show u < 60 by omega) (by decide)) (by rw [nI_clamp (show u < 2 ^ 31 by omega)]) dX3_digest_77 ?_
        refine lv_icmp_ge (tgt := 134) hx hb dX3_digest_78 (by decide) (fun _ => ?_) (fun q => absurd (nI_le (Nat.le_refl _) (by omega)) q)
        obtain ⟨x_15, ex_15⟩ : ∃ y : Int32, y = (nI u) + (1) := ⟨_, rfl⟩
        refine lv_iinc (v := x_15) (lv' := [(3, .int x_15), (4, .int (nI (Ln u))), (1, .long (mxW (mx (mx (digC K Ln Wh Re (mx 53 (nI n).toInt64) u) (K u).toInt64) (tc_cl (K u) (Ln u)).toInt64) (dgC K Wh Re u) (Ln u))), (0, .ref m0)]) hx hb dX3_digest_134 hl (k := 1) rfl (by rw [ex_15]; rfl) (by decide) rfl (fun ls hl => ?_)
        refine lv_goto (tgt := 17) hx hb dX3_digest_137 (by decide) ?_
        subst ex_15
        exact ihu _ _ _ ⟨u + 1, by omega, hP, hD, hS, by rw [nI_succ]; exact lv_sub hl [0, 2, 3] rfl⟩
    · refine lv_aload_n hx hb dX3_digest_42 rfl (lv_at hl 2 rfl) ?_
      refine va_get (D := D) (ci := 3) (fs := [.int 0, .int (nI n), .ref m1, .ref m2, .ref m3, .ref m4, .int cd, .ref m5]) (v := .ref m1) (C := RX3) (T := TX3) (N := 8) hx hb hts (by decide +kernel) hown hK hP 5 rfl rfl 2 (by decide) (hts (.fieldLink RX3 9 "TypedColumnsModel" "kinds" "[I") (by decide +kernel)) (fun _ h9 => h9) rfl dX3_digest_43 ?_
      refine lv_iload_n hx hb dX3_digest_46 rfl (lv_at hl 0 rfl) ?_
      refine tc_iald (f := K) (v := (K u)) hx hb hK hP 6 0 rfl rfl (vp_in_nI (show u < 60 by omega) (by decide)) (by rw [nI_clamp (show u < 2 ^ 31 by omega)]) dX3_digest_47 ?_
      refine vp_callSi (W.runS (As := [.int (K u)]) (rest := [.long ((((digC K Ln Wh Re (mx 53 (nI n).toInt64) u) * 31) + (K u).toInt64) * 31)]) ⟨hx, hb, hml, hown, hts⟩ (kX3_has l (K u)) (va_cwS 1 hts gX3_digest_X3_has rfl rfl rfl (by decide +kernel) ⟨Nat.le_of_ble_eq_true rfl, Nat.le_of_ble_eq_true rfl⟩) ⟨fun a U g mk q => q, fun U hU hW => ⟨rfl, trivial⟩⟩ rfl rfl hl.1 rfl (lv_room (Nat.le_of_ble_eq_true rfl)) dX3_digest_48 ⟨Nat.zero_le _, Nat.zero_le _⟩) (fun r_16 hr_16 => ?_)
      subst hr_16
      refine lv_if_eq (tgt := 63) hx hb dX3_digest_51 (by decide) (fun c_17 => ?_) (fun c_17 => ?_)
      · refine lv_iconst (v := (-1)) hx hb dX3_digest_63 (by decide) ?_
        exact jn _ _ ⟨(congrArg (fun z : Int32 => [Value.int z, .long ((((digC K Ln Wh Re (mx 53 (nI n).toInt64) u) * 31) + (K u).toInt64) * 31)]) (show (-1) = tc_cl (K u) (Ln u) from (by unfold tc_cl; rw [if_neg (by rw [(tb_0 _).mp c_17]; decide)]))), lv_sub hl [0, 1, 2] rfl⟩
      · refine lv_aload_n hx hb dX3_digest_54 rfl (lv_at hl 2 rfl) ?_
        refine va_get (D := D) (ci := 3) (fs := [.int 0, .int (nI n), .ref m1, .ref m2, .ref m3, .ref m4, .int cd, .ref m5]) (v := .ref m2) (C := RX3) (T := TX3) (N := 8) hx hb hts (by decide +kernel) hown hK hP 5 rfl rfl 3 (by decide) (hts (.fieldLink RX3 13 "TypedColumnsModel" "lengths" "[I") (by decide +kernel)) (fun _ h9 => h9) rfl dX3_digest_55 ?_
        refine lv_iload_n hx hb dX3_digest_58 rfl (lv_at hl 0 rfl) ?_
        refine tc_iald (f := (fun t8 => nI (Ln t8))) (v := (nI (Ln u))) hx hb hK hP 7 0 rfl rfl (vp_in_nI (show u < 60 by omega) (by decide)) (by rw [nI_clamp (show u < 2 ^ 31 by omega)]) dX3_digest_59 ?_
        refine lv_goto (tgt := 64) hx hb dX3_digest_60 (by decide) ?_
        exact jn _ _ ⟨(congrArg (fun z : Int32 => [Value.int z, .long ((((digC K Ln Wh Re (mx 53 (nI n).toInt64) u) * 31) + (K u).toInt64) * 31)]) (show (nI (Ln u)) = tc_cl (K u) (Ln u) from (tc_cl_has ((tb_1 _).mp c_17)).symm)), lv_sub hl [0, 1, 2] rfl⟩
  · obtain ⟨u, huk, hP, hD, hS, hl⟩ := hi9
    have huN : u = n := by omega
    rw [huN] at hl
    refine lv_iload_n hx hb dX3_digest_17 rfl (lv_at hl 0 rfl) ?_
    refine lv_aload_n hx hb dX3_digest_18 rfl (lv_at hl 2 rfl) ?_
    refine va_get (D := D) (ci := 3) (fs := [.int 0, .int (nI n), .ref m1, .ref m2, .ref m3, .ref m4, .int cd, .ref m5]) (v := .int (nI n)) (C := RX3) (T := TX3) (N := 8) hx hb hts (by decide +kernel) hown hK hP 5 rfl rfl 1 (by decide) (hts (.fieldLink RX3 31 "TypedColumnsModel" "columns" "I") (by decide +kernel)) (fun _ h9 => h9) rfl dX3_digest_19 ?_
    refine lv_icmp_ge (tgt := 140) hx hb dX3_digest_22 (by decide) (fun _ => ?_) (fun q => absurd (nI_le (Nat.le_refl _) (by omega)) q)
    refine lv_iconst (v := 0) hx hb dX3_digest_140 (by decide) ?_
    refine lv_istore_n (lv' := [(3, .int 0), (1, .long (digC K Ln Wh Re (mx 53 (nI n).toInt64) n)), (0, .ref m0)]) hx hb dX3_digest_141 rfl hl (by decide) rfl (fun ls hl => ?_)
    have hl0 : lv_has ls 5 [(3, .int (nI 0)), (1, .long (digC K Ln Wh Re (mx 53 (nI n).toInt64) n)), (0, .ref m0)] := lv_sub hl [0, 1, 2] rfl
    refine tc_loop (fun k9 H locs ls => ∃ i : Nat, i + k9 = 6 ∧ va_P D vwCl (tc_Z cI cJ cD x0 x1 x2 x3 x4 Z m0 m1 m2 m3 m4 m5 0 n K Ln Wh Re cd ct) H ∧ va_D A (tc_Z cI cJ cD x0 x1 x2 x3 x4 Z m0 m1 m2 m3 m4 m5 0 n K Ln Wh Re cd ct) ∧ va_S A s.heap H locs ∧ lv_has ls 5 [(3, .int (nI i)), (1, .long (mxW (digC K Ln Wh Re (mx 53 (nI n).toInt64) n) (fun q => (ct q).toInt64) i)), (0, .ref m0)]) (fun k9 H locs ls hi9 ih => ?_) (fun H locs ls hi9 => ?_) 6 ⟨0, by omega, hP, hD, hS, hl0⟩
    · obtain ⟨i, hik, hP, hD, hS, hl⟩ := hi9
      have hiN : i < 6 := by omega
      refine lv_iload_n hx hb dX3_digest_142 rfl (lv_at hl 0 rfl) ?_
      refine lv_aload_n hx hb dX3_digest_143 rfl (lv_at hl 2 rfl) ?_
      refine va_get (D := D) (ci := 3) (fs := [.int 0, .int (nI n), .ref m1, .ref m2, .ref m3, .ref m4, .int cd, .ref m5]) (v := .ref m5) (C := RX3) (T := TX3) (N := 8) hx hb hts (by decide +kernel) hown hK hP 5 rfl rfl 7 (by decide) (hts (.fieldLink RX3 24 "TypedColumnsModel" "counts" "[I") (by decide +kernel)) (fun _ h9 => h9) rfl dX3_digest_144 ?_
      refine va_alen (v := 6) hx hb hK hP 10 0 rfl rfl rfl dX3_digest_147 ?_
      refine lv_icmp_ge (tgt := 171) hx hb dX3_digest_148 (by decide) (fun q => absurd q (nI_ge hiN (by decide))) (fun _ => ?_)
      refine lv_lload_n hx hb dX3_digest_151 rfl (lv_at hl 1 rfl) ?_
      refine lv_ldc2 (v := 31) hx hb hown (hts (.constantLong RX3 117 (31)) (by decide +kernel)) dX3_digest_152 ?_
      refine lv_lmul hx hb dX3_digest_155 ?_
      refine lv_aload_n hx hb dX3_digest_156 rfl (lv_at hl 2 rfl) ?_
      refine va_get (D := D) (ci := 3) (fs := [.int 0, .int (nI n), .ref m1, .ref m2, .ref m3, .ref m4, .int cd, .ref m5]) (v := .ref m5) (C := RX3) (T := TX3) (N := 8) hx hb hts (by decide +kernel) hown hK hP 5 rfl rfl 7 (by decide) (hts (.fieldLink RX3 24 "TypedColumnsModel" "counts" "[I") (by decide +kernel)) (fun _ h9 => h9) rfl dX3_digest_157 ?_
      refine lv_iload_n hx hb dX3_digest_160 rfl (lv_at hl 0 rfl) ?_
      refine tc_iald (f := ct) (v := (ct i)) hx hb hK hP 10 0 rfl rfl (vp_in_nI (show i < 6 by omega) (by decide)) (by rw [nI_clamp (show i < 2 ^ 31 by omega)]) dX3_digest_161 ?_
      refine lv_i2l (v := (ct i).toInt64) hx hb dX3_digest_162 rfl ?_
      refine lv_ladd hx hb dX3_digest_163 ?_
      refine lv_topl (fun x_20 ex_20 => ?_)
      refine lv_lstore_n (lv' := [(1, .long x_20), (3, .int (nI i)), (0, .ref m0)]) hx hb dX3_digest_164 rfl hl (by decide) rfl (fun ls hl => ?_)
      obtain ⟨x_21, ex_21⟩ : ∃ y : Int32, y = (nI i) + (1) := ⟨_, rfl⟩
      refine lv_iinc (v := x_21) (lv' := [(3, .int x_21), (1, .long x_20), (0, .ref m0)]) hx hb dX3_digest_165 hl (k := 1) rfl (by rw [ex_21]; rfl) (by decide) rfl (fun ls hl => ?_)
      refine lv_goto (tgt := 142) hx hb dX3_digest_168 (by decide) ?_
      subst ex_20
      subst ex_21
      exact ih _ _ _ ⟨i + 1, by omega, hP, hD, hS, by rw [nI_succ]; exact lv_sub hl [0, 1, 2] rfl⟩
    · obtain ⟨i, hik, hP, hD, hS, hl⟩ := hi9
      have hiN : i = 6 := by omega
      rw [hiN] at hl
      refine lv_iload_n hx hb dX3_digest_142 rfl (lv_at hl 0 rfl) ?_
      refine lv_aload_n hx hb dX3_digest_143 rfl (lv_at hl 2 rfl) ?_
      refine va_get (D := D) (ci := 3) (fs := [.int 0, .int (nI n), .ref m1, .ref m2, .ref m3, .ref m4, .int cd, .ref m5]) (v := .ref m5) (C := RX3) (T := TX3) (N := 8) hx hb hts (by decide +kernel) hown hK hP 5 rfl rfl 7 (by decide) (hts (.fieldLink RX3 24 "TypedColumnsModel" "counts" "[I") (by decide +kernel)) (fun _ h9 => h9) rfl dX3_digest_144 ?_
      refine va_alen (v := 6) hx hb hK hP 10 0 rfl rfl rfl dX3_digest_147 ?_
      refine lv_icmp_ge (tgt := 171) hx hb dX3_digest_148 (by decide) (fun _ => ?_) (fun q => absurd (nI_le (Nat.le_refl _) (by decide)) q)
      refine lv_lload_n hx hb dX3_digest_171 rfl (lv_at hl 1 rfl) ?_
      exact W.lret (v := (mxW (digC K Ln Wh Re (mx 53 (nI n).toInt64) n) (fun q => (ct q).toInt64) 6)) hx hb hr (fun t9 ht9 hW9 => ⟨⟨(mxW (digC K Ln Wh Re (mx 53 (nI n).toInt64) n) (fun q => (ct q).toInt64) 6), (), rfl, rfl, by rw [ht9]; exact hP, hD⟩, hS.F ht9⟩) hS.2.2 dX3_digest_172
set_option maxHeartbeats 4000000 in
set_option maxRecDepth 100000 in
theorem tX3_total_n (l : Launch) (D : va_G) (A : Nat → Prop) (cI cJ cD cC : ClassId) (x0 x1 x2 x3 x4 : Nat × va_E) (Z : va_W) (m0 m1 m2 m3 m4 m5 : Nat) (th : Int32) (n : Nat) (K : Nat → Int32) (Ln : Nat → Nat) (Wh : Nat → Int64) (Re : Nat → UInt64) (cd : Int32) (ct : Nat → Int32) (sz : Nat) (hI : tcI n K Ln Wh Re) (cx : Int32) (hc : ¬ ∃ j, j < n ∧ cx = nI j)  : Met l yX3_total wsX3_total ({ frames := 1, cells := 0, slots := 0, locals := 21 }) (tcP D A (tcTY cI cJ cD cC) sz [.ref m0, .int cx] (tc_Z cI cJ cD x0 x1 x2 x3 x4 Z m0 m1 m2 m3 m4 m5 th n K Ln Wh Re cd ct)) (va_Qd (fun r (_ : Unit) => r = 0) (fun _ t => tcB D A (tc_Z cI cJ cD x0 x1 x2 x3 x4 Z m0 m1 m2 m3 m4 m5 1 n K Ln Wh Re cd ct) t) A) 0 0 A := by
  refine Met.ofW (cc := cX3_total) (maxL := 5) (ret := (some .double)) (by decide) rfl ?_
  intro p e s m args below meth c s₁ B hml hv
  obtain ⟨rfl, hsz, hP, hK, hD, hE⟩ := hv
  have hx := B.exec
  have hb := B.bytes
  have hr := B.returns
  have hts := atoms_spec (ws := wsX3_total) B.pre
  have hown : s.vm.findClass RX3 = some m.cls := findClass_of_methodNamed B.named
  have hlocks := B.notSynchronized
  have hl := lv_entry ([.ref m0, .int cx]) (n := 5) (Nat.le_of_ble_eq_true rfl)
  rw [lg_entry_eq]
  generalize (lg_sl ([.ref m0, .int cx]) ++ List.replicate (5 - (lg_sl ([.ref m0, .int cx])).length) Slot.unset).toArray = ls at hl ⊢
  have hl : lv_has ls 5 [(0, .ref m0), (1, .int cx)] := hl
  subst hsz
  have hS : va_S A s.heap s.heap [] := va_S.rf
  have hn60 : n ≤ 60 := hI.1
  refine lv_aload_n hx hb dX3_total_0 rfl (lv_at hl 0 rfl) ?_
  refine lv_aload_n hx hb dX3_total_1 rfl (lv_at hl 0 rfl) ?_
  refine lv_iload_n hx hb dX3_total_2 rfl (lv_at hl 1 rfl) ?_
  refine vp_callSi (tc_CR (va_runV (As := [.int cx]) (rest := [.ref m0]) ⟨hx, hb, hml, hown, hts⟩ (tX3_isColumn_n l D A cI cJ cD cC x0 x1 x2 x3 x4 Z m0 m1 m2 m3 m4 m5 th n K Ln Wh Re cd ct s.heap.size hI cx hc) (cwV 1 hts gX3_total_X3_isColumn rfl rfl rfl (by decide +kernel) ⟨Nat.le_of_ble_eq_true rfl, Nat.le_of_ble_eq_true rfl⟩) ⟨tcP.blind, (va_recv hK hP (ci := 3) (q0 := 5) rfl rfl), (tcP.go hK hP hD hE hS)⟩ rfl rfl hl.1 rfl (lv_room (Nat.le_of_ble_eq_true rfl)) dX3_total_3 ⟨Nat.le_of_ble_eq_true rfl, Nat.le_of_ble_eq_true rfl⟩)) (fun r_1 hr_1 => ?_)
  subst hr_1
  refine lv_if_eq (tgt := 13) hx hb dX3_total_6 (by decide) (fun _ => ?_) (fun q => absurd (by decide) q)
  refine lv_iconst (v := 1) hx hb dX3_total_13 (by decide) ?_
  refine va_put (D := D) (ci := 3) (fs := [.int th, .int (nI n), .ref m1, .ref m2, .ref m3, .ref m4, .int cd, .ref m5]) (v := .int 1) (ty := .int) (C := RX3) (T := TX3) (N := 8) hx hb hts (by decide +kernel) tyX3 tyX3_ok nmX3 hown hK hP hD hS 5 rfl rfl 0 (by decide) (hts (.fieldLink RX3 27 "TypedColumnsModel" "thrown" "I") (by decide +kernel)) (fun _ h9 => h9) rfl (by decide +kernel) rfl rfl (Nat.le_of_ble_eq_true rfl) dX3_total_14 (fun H locs hP hD hS => ?_)
  have hP : va_P D vwCl (tc_Z cI cJ cD x0 x1 x2 x3 x4 Z m0 m1 m2 m3 m4 m5 1 n K Ln Wh Re cd ct) H := hP
  have hD : va_D A (tc_Z cI cJ cD x0 x1 x2 x3 x4 Z m0 m1 m2 m3 m4 m5 1 n K Ln Wh Re cd ct) := hD
  refine lv_aload_n hx hb dX3_total_17 rfl (lv_at hl 0 rfl) ?_
  refine va_get (D := D) (ci := 3) (fs := [.int 1, .int (nI n), .ref m1, .ref m2, .ref m3, .ref m4, .int cd, .ref m5]) (v := .int 1) (C := RX3) (T := TX3) (N := 8) hx hb hts (by decide +kernel) hown hK hP 5 rfl rfl 0 (by decide) (hts (.fieldLink RX3 27 "TypedColumnsModel" "thrown" "I") (by decide +kernel)) (fun _ h9 => h9) rfl dX3_total_18 ?_
  refine lv_if_ne (tgt := 36) hx hb dX3_total_21 (by decide) (fun _ => ?_) (fun q => absurd q (by decide))
  refine lv_dconst0 hx hb dX3_total_36 ?_
  exact W.dret (v := FP.dconst0) hx hb hr (fun t9 ht9 hW9 => ⟨⟨FP.dconst0, (), rfl, rfl, by rw [ht9]; exact hP, hD⟩, hS.F ht9⟩) hS.2.2 dX3_total_37
set_option maxHeartbeats 4000000 in
set_option maxRecDepth 100000 in
theorem tX3_total_y (l : Launch) (D : va_G) (A : Nat → Prop) (cI cJ cD cC : ClassId) (x0 x1 x2 x3 x4 : Nat × va_E) (Z : va_W) (m0 m1 m2 m3 m4 m5 : Nat) (th : Int32) (n : Nat) (K : Nat → Int32) (Ln : Nat → Nat) (Wh : Nat → Int64) (Re : Nat → UInt64) (cd : Int32) (ct : Nat → Int32) (sz : Nat) (hI : tcI n K Ln Wh Re) (j : Nat) (hj : j < n) : MetD lw_cs l yX3_total wsX3_total ({ frames := 2, cells := 0, slots := 0, locals := 43 }) (tcP D A (tcTY cI cJ cD cC) sz [.ref m0, .int (nI j)] (tc_Z cI cJ cD x0 x1 x2 x3 x4 Z m0 m1 m2 m3 m4 m5 th n K Ln Wh Re cd ct)) (va_Qd (fun r (_ : Unit) => alike64 r (tot K Ln Wh Re j) = true) (fun _ t => tcB D A (tc_Z cI cJ cD x0 x1 x2 x3 x4 Z m0 m1 m2 m3 m4 m5 0 n K Ln Wh Re (kCol (K j)) (noteC ct (kCol (K j)))) t) A) 0 0 A := by
  refine MetD.ofW (cc := cX3_total) (maxL := 5) (ret := (some .double)) (by decide) rfl ?_
  intro p e s m args below meth c s₁ B hml hv hd0
  obtain ⟨rfl, hsz, hP, hK, hD, hE⟩ := hv
  have hx := B.exec
  have hb := B.bytes
  have hr := B.returns
  have hts := atoms_spec (ws := wsX3_total) B.pre
  have hown : s.vm.findClass RX3 = some m.cls := findClass_of_methodNamed B.named
  have hlocks := B.notSynchronized
  have hl := lv_entry ([.ref m0, .int (nI j)]) (n := 5) (Nat.le_of_ble_eq_true rfl)
  rw [lg_entry_eq]
  generalize (lg_sl ([.ref m0, .int (nI j)]) ++ List.replicate (5 - (lg_sl ([.ref m0, .int (nI j)])).length) Slot.unset).toArray = ls at hl ⊢
  have hl : lv_has ls 5 [(0, .ref m0), (1, .int (nI j))] := hl
  subst hsz
  have hS : va_S A (s.setDrawn s.drawn).heap s.heap [] := va_S.rf
  have htsB := hts
  have hts := dr_words htsB s.drawn
  have hK : va_K D vwCl (tcTY cI cJ cD cC) (s.setDrawn s.drawn) := hK
  have hE : tc_E A (s.setDrawn s.drawn) := hE
  have hown : (s.setDrawn s.drawn).vm.findClass RX3 = some m.cls := hown
  have hn60 : n ≤ 60 := hI.1
  have hkI := (hI.2.1 j hj).1
  have hL := (hI.2.1 j hj).2.1
  refine lv_aload_n hx hb dX3_total_0 rfl (lv_at hl 0 rfl) ?_
  refine lv_aload_n hx hb dX3_total_1 rfl (lv_at hl 0 rfl) ?_
  refine lv_iload_n hx hb dX3_total_2 rfl (lv_at hl 1 rfl) ?_
  refine vp_callSi (tc_CR (va_runV (As := [.int (nI j)]) (rest := [.ref m0]) ⟨hx, hb, hml, hown, hts⟩ (tX3_isColumn_y l D A cI cJ cD cC x0 x1 x2 x3 x4 Z m0 m1 m2 m3 m4 m5 th n K Ln Wh Re cd ct s.heap.size hI j hj) (cwV 1 hts gX3_total_X3_isColumn rfl rfl rfl (by decide +kernel) ⟨Nat.le_of_ble_eq_true rfl, Nat.le_of_ble_eq_true rfl⟩) ⟨tcP.blind, (va_recv hK hP (ci := 3) (q0 := 5) rfl rfl), (tcP.go hK hP hD hE hS)⟩ rfl rfl hl.1 rfl (lv_room (Nat.le_of_ble_eq_true rfl)) dX3_total_3 ⟨Nat.le_of_ble_eq_true rfl, Nat.le_of_ble_eq_true rfl⟩)) (fun r_1 hr_1 => ?_)
  subst hr_1
  refine lv_if_eq (tgt := 13) hx hb dX3_total_6 (by decide) (fun q => absurd q (by decide)) (fun _ => ?_)
  refine lv_iconst (v := 0) hx hb dX3_total_9 (by decide) ?_
  refine lv_goto (tgt := 14) hx hb dX3_total_10 (by decide) ?_
  refine va_put (D := D) (ci := 3) (fs := [.int th, .int (nI n), .ref m1, .ref m2, .ref m3, .ref m4, .int cd, .ref m5]) (v := .int 0) (ty := .int) (C := RX3) (T := TX3) (N := 8) hx hb hts (by decide +kernel) tyX3 tyX3_ok nmX3 hown hK hP hD hS 5 rfl rfl 0 (by decide) (hts (.fieldLink RX3 27 "TypedColumnsModel" "thrown" "I") (by decide +kernel)) (fun _ h9 => h9) rfl (by decide +kernel) rfl rfl (Nat.le_of_ble_eq_true rfl) dX3_total_14 (fun H locs hP hD hS => ?_)
  have hP : va_P D vwCl (tc_Z cI cJ cD x0 x1 x2 x3 x4 Z m0 m1 m2 m3 m4 m5 0 n K Ln Wh Re cd ct) H := hP
  have hD : va_D A (tc_Z cI cJ cD x0 x1 x2 x3 x4 Z m0 m1 m2 m3 m4 m5 0 n K Ln Wh Re cd ct) := hD
  refine lv_aload_n hx hb dX3_total_17 rfl (lv_at hl 0 rfl) ?_
  refine va_get (D := D) (ci := 3) (fs := [.int 0, .int (nI n), .ref m1, .ref m2, .ref m3, .ref m4, .int cd, .ref m5]) (v := .int 0) (C := RX3) (T := TX3) (N := 8) hx hb hts (by decide +kernel) hown hK hP 5 rfl rfl 0 (by decide) (hts (.fieldLink RX3 27 "TypedColumnsModel" "thrown" "I") (by decide +kernel)) (fun _ h9 => h9) rfl dX3_total_18 ?_
  refine lv_if_ne (tgt := 36) hx hb dX3_total_21 (by decide) (fun q => absurd (by decide) q) (fun _ => ?_)
  refine lv_aload_n hx hb dX3_total_24 rfl (lv_at hl 0 rfl) ?_
  refine lv_aload_n hx hb dX3_total_25 rfl (lv_at hl 0 rfl) ?_
  refine lv_iload_n hx hb dX3_total_26 rfl (lv_at hl 1 rfl) ?_
  refine vp_callSi (tc_CR (va_runV (As := [.int (nI j)]) (rest := [.ref m0]) ⟨hx, hb, hml, hown, hts⟩ (tX3_codeOf l D A cI cJ cD cC x0 x1 x2 x3 x4 Z m0 m1 m2 m3 m4 m5 0 n K Ln Wh Re cd ct H.size hI j hj) (cwV 1 hts gX3_total_X3_codeOf rfl rfl rfl (by decide +kernel) ⟨Nat.le_of_ble_eq_true rfl, Nat.le_of_ble_eq_true rfl⟩) ⟨tcP.blind, (va_recv hK hP (ci := 3) (q0 := 5) rfl rfl), (tcP.go hK hP hD hE hS)⟩ rfl rfl hl.1 rfl (lv_room (Nat.le_of_ble_eq_true rfl)) dX3_total_27 ⟨Nat.le_of_ble_eq_true rfl, Nat.le_of_ble_eq_true rfl⟩)) (fun r_4 hr_4 => ?_)
  subst hr_4
  refine va_calli (va_runV (As := [.int (kCol (K j))]) (rest := []) ⟨hx, hb, hml, hown, hts⟩ (tX3_note l D A cI cJ cD cC x0 x1 x2 x3 x4 Z m0 m1 m2 m3 m4 m5 0 n K Ln Wh Re cd ct H.size (kCol (K j)) (kCol_in _)) (cwV 1 hts gX3_total_X3_note rfl rfl rfl (by decide +kernel) ⟨Nat.le_of_ble_eq_true rfl, Nat.le_of_ble_eq_true rfl⟩) ⟨tcP.blind, (va_recv hK hP (ci := 3) (q0 := 5) rfl rfl), (tcP.go hK hP hD hE hS)⟩ rfl rfl hl.1 rfl (lv_room (Nat.le_of_ble_eq_true rfl)) dX3_total_30 ⟨Nat.le_of_ble_eq_true rfl, Nat.le_of_ble_eq_true rfl⟩) hS (fun q _ h => h) (fun q h => h) (fun r_5 u t H locs ht hvm hw hB hz1 hk1 hS => ?_)
  subst hw
  obtain ⟨hP, hD⟩ := hB
  rw [ht] at hP
  refine lv_if_ne (tgt := 38) hx hb dX3_total_33 (by decide) (fun c_6 => ?_) (fun c_6 => ?_)
  · refine lv_dconst0 hx hb dX3_total_38 ?_
    refine lv_dstore_n (lv' := [(2, .double FP.dconst0), (0, .ref m0), (1, .int (nI j))]) hx hb dX3_total_39 rfl hl (by decide) rfl (fun ls hl => ?_)
    refine lv_iconst (v := 0) hx hb dX3_total_40 (by decide) ?_
    refine lv_istore (lv' := [(4, .int 0), (2, .double FP.dconst0), (0, .ref m0), (1, .int (nI j))]) hx hb dX3_total_41 hl (by decide) rfl (fun ls hl => ?_)
    have hh := kCol_has hkI (tb_dp c_6)
    refine tc_loopD (fun k9 dd H locs ls => ∃ (i : Nat) (r : UInt64), i + k9 = Ln j ∧ s.drawn.sameBut dd lw_cs ∧ alike64 r (tf_sum (toV K Wh Re j) i) = true ∧ va_P D vwCl (tc_Z cI cJ cD x0 x1 x2 x3 x4 Z m0 m1 m2 m3 m4 m5 0 n K Ln Wh Re (kCol (K j)) (noteC ct (kCol (K j)))) H ∧ va_D A (tc_Z cI cJ cD x0 x1 x2 x3 x4 Z m0 m1 m2 m3 m4 m5 0 n K Ln Wh Re (kCol (K j)) (noteC ct (kCol (K j)))) ∧ va_S A s.heap H locs ∧ lv_has ls 5 [(4, .int (nI i)), (2, .double r), (1, .int (nI j)), (0, .ref m0)]) (fun k9 dd H locs ls hi9 ih => ?_) (fun dd H locs ls hi9 => ?_) (Ln j) ⟨0, 0, by omega, hd0, (tf_alike _ _).mpr (Or.inl rfl), hP, hD, hS, lv_sub hl [0, 1, 3, 2] rfl⟩
    · obtain ⟨i, r, hik, hdd, hal, hP, hD, hS, hl⟩ := hi9
      have hts := dr_words htsB dd
      have hK : va_K D vwCl (tcTY cI cJ cD cC) (s.setDrawn dd) := hK
      have hE : tc_E A (s.setDrawn dd) := hE
      have hown : (s.setDrawn dd).vm.findClass RX3 = some m.cls := hown
      have hiN : i < Ln j := by omega
      refine lv_iload hx hb dX3_total_43 (lv_at hl 0 rfl) ?_
      refine lv_aload_n hx hb dX3_total_45 rfl (lv_at hl 3 rfl) ?_
      refine va_get (D := D) (ci := 3) (fs := [.int 0, .int (nI n), .ref m1, .ref m2, .ref m3, .ref m4, .int (kCol (K j)), .ref m5]) (v := .ref m2) (C := RX3) (T := TX3) (N := 8) hx hb hts (by decide +kernel) hown hK hP 5 rfl rfl 3 (by decide) (hts (.fieldLink RX3 13 "TypedColumnsModel" "lengths" "[I") (by decide +kernel)) (fun _ h9 => h9) rfl dX3_total_46 ?_
      refine lv_iload_n hx hb dX3_total_49 rfl (lv_at hl 2 rfl) ?_
      refine tc_iald (f := (fun t8 => nI (Ln t8))) (v := (nI (Ln j))) hx hb hK hP 7 0 rfl rfl (vp_in_nI (show j < 60 by omega) (by decide)) (by rw [nI_clamp (show j < 2 ^ 31 by omega)]) dX3_total_50 ?_
      refine lv_icmp_ge (tgt := 70) hx hb dX3_total_51 (by decide) (fun q => absurd q (nI_ge hiN (by omega))) (fun _ => ?_)
      refine lv_dload_n hx hb dX3_total_54 rfl (lv_at hl 1 rfl) ?_
      refine lv_aload_n hx hb dX3_total_55 rfl (lv_at hl 3 rfl) ?_
      refine lv_iload_n hx hb dX3_total_56 rfl (lv_at hl 2 rfl) ?_
      refine lv_iload hx hb dX3_total_57 (lv_at hl 0 rfl) ?_
      have gi : vp_in (nI i) (Ln j) := vp_in_nI hiN (by omega)
      refine vp_callSd (tc_CR (va_runV (As := [.int (nI j), .int (nI i)]) (rest := [.double r]) ⟨hx, hb, hml, hown, hts⟩ (tX3_asDouble l D A cI cJ cD cC x0 x1 x2 x3 x4 Z m0 m1 m2 m3 m4 m5 0 n K Ln Wh Re (kCol (K j)) (noteC ct (kCol (K j))) H.size hI j hj (nI i) gi hh) (cwV 2 hts gX3_total_X3_asDouble rfl rfl rfl (by decide +kernel) ⟨Nat.le_of_ble_eq_true rfl, Nat.le_of_ble_eq_true rfl⟩) ⟨tcP.blind, (va_recv hK hP (ci := 3) (q0 := 5) rfl rfl), (tcP.go hK hP hD hE hS)⟩ rfl rfl hl.1 rfl (lv_room (Nat.le_of_ble_eq_true rfl)) dX3_total_59 ⟨Nat.le_of_ble_eq_true rfl, Nat.le_of_ble_eq_true rfl⟩)) (fun r_8 hr_8 => ?_)
      subst hr_8
      rw [nI_clamp (n := i) (by omega)]
      refine lv_dadd_any hdd lw_bits hx hb dX3_total_62 (fun r2 d2 hal2 hd2 => ?_)
      refine lv_dstore_n (lv' := [(2, .double r2), (4, .int (nI i)), (1, .int (nI j)), (0, .ref m0)]) hx hb dX3_total_63 rfl hl (by decide) rfl (fun ls hl => ?_)
      obtain ⟨x_9, ex_9⟩ : ∃ y : Int32, y = (nI i) + (1) := ⟨_, rfl⟩
      refine lv_iinc (v := x_9) (lv' := [(4, .int x_9), (2, .double r2), (1, .int (nI j)), (0, .ref m0)]) hx hb dX3_total_64 hl (k := 1) rfl (by rw [ex_9]; rfl) (by decide) rfl (fun ls hl => ?_)
      refine lv_goto (tgt := 43) hx hb dX3_total_67 (by decide) ?_
      subst ex_9
      exact ih d2 _ _ _ ⟨i + 1, r2, by omega, hd2, tf_step hal hal2, hP, hD, hS, by rw [nI_succ]; exact lv_sub hl [0, 1, 2, 3] rfl⟩
    · obtain ⟨i, r, hik, hdd, hal, hP, hD, hS, hl⟩ := hi9
      have hts := dr_words htsB dd
      have hK : va_K D vwCl (tcTY cI cJ cD cC) (s.setDrawn dd) := hK
      have hE : tc_E A (s.setDrawn dd) := hE
      have hown : (s.setDrawn dd).vm.findClass RX3 = some m.cls := hown
      have hiN : i = Ln j := by omega
      rw [hiN] at hl hal
      refine lv_iload hx hb dX3_total_43 (lv_at hl 0 rfl) ?_
      refine lv_aload_n hx hb dX3_total_45 rfl (lv_at hl 3 rfl) ?_
      refine va_get (D := D) (ci := 3) (fs := [.int 0, .int (nI n), .ref m1, .ref m2, .ref m3, .ref m4, .int (kCol (K j)), .ref m5]) (v := .ref m2) (C := RX3) (T := TX3) (N := 8) hx hb hts (by decide +kernel) hown hK hP 5 rfl rfl 3 (by decide) (hts (.fieldLink RX3 13 "TypedColumnsModel" "lengths" "[I") (by decide +kernel)) (fun _ h9 => h9) rfl dX3_total_46 ?_
      refine lv_iload_n hx hb dX3_total_49 rfl (lv_at hl 2 rfl) ?_
      refine tc_iald (f := (fun t8 => nI (Ln t8))) (v := (nI (Ln j))) hx hb hK hP 7 0 rfl rfl (vp_in_nI (show j < 60 by omega) (by decide)) (by rw [nI_clamp (show j < 2 ^ 31 by omega)]) dX3_total_50 ?_
      refine lv_icmp_ge (tgt := 70) hx hb dX3_total_51 (by decide) (fun _ => ?_) (fun q => absurd (nI_le (Nat.le_refl _) (by omega)) q)
      refine lv_dload_n hx hb dX3_total_70 rfl (lv_at hl 1 rfl) ?_
      refine W.endD hdd ?_
      exact W.dret (v := r) hx hb hr (fun t9 ht9 hW9 => ⟨⟨r, (), rfl, by rw [tot_y (tb_dp c_6)]; exact hal, by rw [ht9]; exact hP, hD⟩, hS.F ht9⟩) hS.2.2 dX3_total_71
  · refine lv_dconst0 hx hb dX3_total_36 ?_
    refine W.endD hd0 ?_
    exact W.dret (v := FP.dconst0) hx hb hr (fun t9 ht9 hW9 => ⟨⟨FP.dconst0, (), rfl, by rw [tot_n (tb_dn c_6)]; exact (tf_alike _ _).mpr (Or.inl rfl), by rw [ht9]; exact hP, hD⟩, hS.F ht9⟩) hS.2.2 dX3_total_37
set_option maxHeartbeats 4000000 in
set_option maxRecDepth 100000 in
theorem oX3_init (l : Launch) (D : va_G) (A : Nat → Prop) (cI cJ cD cC : ClassId) (ws : va_W) (p0 a sz : Nat) (e0 : ws[p0]? = some (a, .inr (3, [.int 0, .int 0, .null, .null, .null, .null, .int 0, .null]))) (hA : ∀ q, sz ≤ q → A q) : Met l yX3_init wsX3_init ({ frames := 1, cells := 5, slots := 4926, locals := 12 }) (tcP D A (tcTY cI cJ cD cC) sz [.ref a] ws) (va_Qv (fun _ : Nat × Nat × Nat × Nat × Nat => True) (fun u t => tcB D A (ws.set p0 (a, .inr (3, [.int 0, .int 0, .ref u.1, .ref u.2.1, .ref u.2.2.1, .ref u.2.2.2.1, .int 0, .ref u.2.2.2.2])) ++ ([(u.1, .inl (cI, 60, .inl (fun _ => 0))), (u.2.1, .inl (cI, 60, .inl (fun _ => 0))), (u.2.2.1, .inl (cJ, 2400, .inr (.inl (fun _ => 0)))), (u.2.2.2.1, .inl (cD, 2400, .inr (.inr (.inr (.inl (fun _ => 0)))))), (u.2.2.2.2, .inl (cI, 6, .inl (fun _ => 0)))] : va_W)) t) A) 5 4926 A := by
  refine Met.ofW (cc := cX3_init) (maxL := 1) (ret := none) (by decide) rfl ?_
  intro p e s m args below meth c s₁ B hml hv
  obtain ⟨rfl, hsz, hP, hK, hD, hE⟩ := hv
  have hx := B.exec
  have hb := B.bytes
  have hr := B.returns
  have hts := atoms_spec (ws := wsX3_init) B.pre
  have hown : s.vm.findClass RX3 = some m.cls := findClass_of_methodNamed B.named
  have hlocks := B.notSynchronized
  have hl := lv_entry ([.ref a]) (n := 1) (Nat.le_of_ble_eq_true rfl)
  rw [lg_entry_eq]
  generalize (lg_sl ([.ref a]) ++ List.replicate (1 - (lg_sl ([.ref a])).length) Slot.unset).toArray = ls at hl ⊢
  have hl : lv_has ls 1 [(0, .ref a)] := hl
  subst hsz
  have hS : va_S A s.heap s.heap [] := va_S.rf
  have hin : meth.name = "<init>" := (name_of_methodNamed B.named B.method).1
  refine lv_aload_n hx hb dX3_init_0 rfl (lv_at hl 0 rfl) ?_
  refine W.objInit hx hb hown (hts (.methodLink RX3 1 objectInit) (by decide +kernel)) (hts (.instanceMethod objectInit) (by decide +kernel)) (hts _ (List.mem_cons_of_mem _ (List.mem_append_left _ (List.mem_of_getElem? (i := 2) rfl)))) rfl (by rw [hml]; exact hl.1) rfl dX3_init_1 (Nat.le_of_ble_eq_true rfl) (Nat.le_of_ble_eq_true rfl) ?_
  refine W.eq (g2 := F0 m 4 ls []) rfl ?_
  refine lv_aload_n hx hb dX3_init_4 rfl (lv_at hl 0 rfl) ?_
  refine lv_bipush (v := 60) hx hb dX3_init_5 (by decide) ?_
  refine va_newa (atype := .int) (ty := .int) (N' := 60) (a0 := (60, .inl (fun _ => 0))) hx hb (hts (.arrayClass .int) (by decide +kernel)) rfl hK hP hD hS hA (fun _ => rfl) (by decide) (rfl) (Nat.le_of_ble_eq_true rfl) (Nat.le_of_ble_eq_true rfl) (Nat.le_of_ble_eq_true rfl) dX3_init_7 (fun q_1 cA_2 H hK1 hP hD hS => ?_)
  have hcA_2 : cI = cA_2 := tc_uniq hK1 (i := 0) (j := 4) rfl rfl
  subst hcA_2
  clear hK1
  have hP : va_P D vwCl (ws ++ ([(q_1, .inl (cI, 60, .inl (fun _ => 0)))] : va_W)) H := hP
  have hD : va_D A (ws ++ ([(q_1, .inl (cI, 60, .inl (fun _ => 0)))] : va_W)) := hD
  refine va_putF (D := D) (ci := 3) (fs := [.int 0, .int 0, .null, .null, .null, .null, .int 0, .null]) (v := .ref q_1) (ty := .array .int) (C := RX3) (T := TX3) (N := 8) hx hb hts (by decide +kernel) tyX3 tyX3_ok nmX3 hown hK hP hD hS p0 (tc_app_l e0) rfl 2 (by decide) (hts (.fieldLink RX3 9 "TypedColumnsModel" "kinds" "[I") (by decide +kernel)) (fun _ h9 => h9) rfl hin rfl (by decide +kernel) rfl rfl (Nat.le_of_ble_eq_true rfl) dX3_init_9 (fun H locs hP hD hS => ?_)
  rw [tc_app_set (e0)] at hP hD
  have hP : va_P D vwCl ((ws.set p0 (a, .inr (3, [.int 0, .int 0, .ref q_1, .null, .null, .null, .int 0, .null]))) ++ ([(q_1, .inl (cI, 60, .inl (fun _ => 0)))] : va_W)) H := hP
  have hD : va_D A ((ws.set p0 (a, .inr (3, [.int 0, .int 0, .ref q_1, .null, .null, .null, .int 0, .null]))) ++ ([(q_1, .inl (cI, 60, .inl (fun _ => 0)))] : va_W)) := hD
  refine lv_aload_n hx hb dX3_init_12 rfl (lv_at hl 0 rfl) ?_
  refine lv_bipush (v := 60) hx hb dX3_init_13 (by decide) ?_
  refine va_newa (atype := .int) (ty := .int) (N' := 60) (a0 := (60, .inl (fun _ => 0))) hx hb (hts (.arrayClass .int) (by decide +kernel)) rfl hK hP hD hS hA (fun _ => rfl) (by decide) (rfl) (Nat.le_of_ble_eq_true rfl) (Nat.le_of_ble_eq_true rfl) (Nat.le_of_ble_eq_true rfl) dX3_init_15 (fun q_3 cA_4 H hK1 hP hD hS => ?_)
  have hcA_4 : cI = cA_4 := tc_uniq hK1 (i := 0) (j := 4) rfl rfl
  subst hcA_4
  clear hK1
  have hP : va_P D vwCl (((ws.set p0 (a, .inr (3, [.int 0, .int 0, .ref q_1, .null, .null, .null, .int 0, .null]))) ++ ([(q_1, .inl (cI, 60, .inl (fun _ => 0)))] : va_W)) ++ ([(q_3, .inl (cI, 60, .inl (fun _ => 0)))] : va_W)) H := hP
  have hD : va_D A (((ws.set p0 (a, .inr (3, [.int 0, .int 0, .ref q_1, .null, .null, .null, .int 0, .null]))) ++ ([(q_1, .inl (cI, 60, .inl (fun _ => 0)))] : va_W)) ++ ([(q_3, .inl (cI, 60, .inl (fun _ => 0)))] : va_W)) := hD
  refine va_putF (D := D) (ci := 3) (fs := [.int 0, .int 0, .ref q_1, .null, .null, .null, .int 0, .null]) (v := .ref q_3) (ty := .array .int) (C := RX3) (T := TX3) (N := 8) hx hb hts (by decide +kernel) tyX3 tyX3_ok nmX3 hown hK hP hD hS p0 (tc_app_l (tc_app_l (tc_set_self e0))) rfl 3 (by decide) (hts (.fieldLink RX3 13 "TypedColumnsModel" "lengths" "[I") (by decide +kernel)) (fun _ h9 => h9) rfl hin rfl (by decide +kernel) rfl rfl (Nat.le_of_ble_eq_true rfl) dX3_init_17 (fun H locs hP hD hS => ?_)
  rw [tc_app_set (tc_app_l (tc_set_self e0)), tc_app_set (tc_set_self e0), List.set_set] at hP hD
  have hP : va_P D vwCl (((ws.set p0 (a, .inr (3, [.int 0, .int 0, .ref q_1, .ref q_3, .null, .null, .int 0, .null]))) ++ ([(q_1, .inl (cI, 60, .inl (fun _ => 0)))] : va_W)) ++ ([(q_3, .inl (cI, 60, .inl (fun _ => 0)))] : va_W)) H := hP
  have hD : va_D A (((ws.set p0 (a, .inr (3, [.int 0, .int 0, .ref q_1, .ref q_3, .null, .null, .int 0, .null]))) ++ ([(q_1, .inl (cI, 60, .inl (fun _ => 0)))] : va_W)) ++ ([(q_3, .inl (cI, 60, .inl (fun _ => 0)))] : va_W)) := hD
  refine lv_aload_n hx hb dX3_init_20 rfl (lv_at hl 0 rfl) ?_
  refine lv_sipush (v := 2400) hx hb dX3_init_21 (by decide) ?_
  refine va_newa (atype := .long) (ty := .long) (N' := 2400) (a0 := (2400, .inr (.inl (fun _ => 0)))) hx hb (hts (.arrayClass .long) (by decide +kernel)) rfl hK hP hD hS hA (fun _ => rfl) (by decide) (rfl) (Nat.le_of_ble_eq_true rfl) (Nat.le_of_ble_eq_true rfl) (Nat.le_of_ble_eq_true rfl) dX3_init_24 (fun q_5 cA_6 H hK1 hP hD hS => ?_)
  have hcA_6 : cJ = cA_6 := tc_uniq hK1 (i := 1) (j := 4) rfl rfl
  subst hcA_6
  clear hK1
  have hP : va_P D vwCl ((((ws.set p0 (a, .inr (3, [.int 0, .int 0, .ref q_1, .ref q_3, .null, .null, .int 0, .null]))) ++ ([(q_1, .inl (cI, 60, .inl (fun _ => 0)))] : va_W)) ++ ([(q_3, .inl (cI, 60, .inl (fun _ => 0)))] : va_W)) ++ ([(q_5, .inl (cJ, 2400, .inr (.inl (fun _ => 0))))] : va_W)) H := hP
  have hD : va_D A ((((ws.set p0 (a, .inr (3, [.int 0, .int 0, .ref q_1, .ref q_3, .null, .null, .int 0, .null]))) ++ ([(q_1, .inl (cI, 60, .inl (fun _ => 0)))] : va_W)) ++ ([(q_3, .inl (cI, 60, .inl (fun _ => 0)))] : va_W)) ++ ([(q_5, .inl (cJ, 2400, .inr (.inl (fun _ => 0))))] : va_W)) := hD
  refine va_putF (D := D) (ci := 3) (fs := [.int 0, .int 0, .ref q_1, .ref q_3, .null, .null, .int 0, .null]) (v := .ref q_5) (ty := .array .long) (C := RX3) (T := TX3) (N := 8) hx hb hts (by decide +kernel) tyX3 tyX3_ok nmX3 hown hK hP hD hS p0 (tc_app_l (tc_app_l (tc_app_l (tc_set_self e0)))) rfl 4 (by decide) (hts (.fieldLink RX3 16 "TypedColumnsModel" "whole" "[J") (by decide +kernel)) (fun _ h9 => h9) rfl hin rfl (by decide +kernel) rfl rfl (Nat.le_of_ble_eq_true rfl) dX3_init_26 (fun H locs hP hD hS => ?_)
  rw [tc_app_set (tc_app_l (tc_app_l (tc_set_self e0))), tc_app_set (tc_app_l (tc_set_self e0)), tc_app_set (tc_set_self e0), List.set_set] at hP hD
  have hP : va_P D vwCl ((((ws.set p0 (a, .inr (3, [.int 0, .int 0, .ref q_1, .ref q_3, .ref q_5, .null, .int 0, .null]))) ++ ([(q_1, .inl (cI, 60, .inl (fun _ => 0)))] : va_W)) ++ ([(q_3, .inl (cI, 60, .inl (fun _ => 0)))] : va_W)) ++ ([(q_5, .inl (cJ, 2400, .inr (.inl (fun _ => 0))))] : va_W)) H := hP
  have hD : va_D A ((((ws.set p0 (a, .inr (3, [.int 0, .int 0, .ref q_1, .ref q_3, .ref q_5, .null, .int 0, .null]))) ++ ([(q_1, .inl (cI, 60, .inl (fun _ => 0)))] : va_W)) ++ ([(q_3, .inl (cI, 60, .inl (fun _ => 0)))] : va_W)) ++ ([(q_5, .inl (cJ, 2400, .inr (.inl (fun _ => 0))))] : va_W)) := hD
  refine lv_aload_n hx hb dX3_init_29 rfl (lv_at hl 0 rfl) ?_
  refine lv_sipush (v := 2400) hx hb dX3_init_30 (by decide) ?_
  refine va_newa (atype := .double) (ty := .double) (N' := 2400) (a0 := (2400, .inr (.inr (.inr (.inl (fun _ => 0)))))) hx hb (hts (.arrayClass .double) (by decide +kernel)) rfl hK hP hD hS hA (fun _ => rfl) (by decide) (rfl) (Nat.le_of_ble_eq_true rfl) (Nat.le_of_ble_eq_true rfl) (Nat.le_of_ble_eq_true rfl) dX3_init_33 (fun q_7 cA_8 H hK1 hP hD hS => ?_)
  have hcA_8 : cD = cA_8 := tc_uniq hK1 (i := 2) (j := 4) rfl rfl
  subst hcA_8
  clear hK1
  have hP : va_P D vwCl (((((ws.set p0 (a, .inr (3, [.int 0, .int 0, .ref q_1, .ref q_3, .ref q_5, .null, .int 0, .null]))) ++ ([(q_1, .inl (cI, 60, .inl (fun _ => 0)))] : va_W)) ++ ([(q_3, .inl (cI, 60, .inl (fun _ => 0)))] : va_W)) ++ ([(q_5, .inl (cJ, 2400, .inr (.inl (fun _ => 0))))] : va_W)) ++ ([(q_7, .inl (cD, 2400, .inr (.inr (.inr (.inl (fun _ => 0))))))] : va_W)) H := hP
  have hD : va_D A (((((ws.set p0 (a, .inr (3, [.int 0, .int 0, .ref q_1, .ref q_3, .ref q_5, .null, .int 0, .null]))) ++ ([(q_1, .inl (cI, 60, .inl (fun _ => 0)))] : va_W)) ++ ([(q_3, .inl (cI, 60, .inl (fun _ => 0)))] : va_W)) ++ ([(q_5, .inl (cJ, 2400, .inr (.inl (fun _ => 0))))] : va_W)) ++ ([(q_7, .inl (cD, 2400, .inr (.inr (.inr (.inl (fun _ => 0))))))] : va_W)) := hD
  refine va_putF (D := D) (ci := 3) (fs := [.int 0, .int 0, .ref q_1, .ref q_3, .ref q_5, .null, .int 0, .null]) (v := .ref q_7) (ty := .array .double) (C := RX3) (T := TX3) (N := 8) hx hb hts (by decide +kernel) tyX3 tyX3_ok nmX3 hown hK hP hD hS p0 (tc_app_l (tc_app_l (tc_app_l (tc_app_l (tc_set_self e0))))) rfl 5 (by decide) (hts (.fieldLink RX3 20 "TypedColumnsModel" "real" "[D") (by decide +kernel)) (fun _ h9 => h9) rfl hin rfl (by decide +kernel) rfl rfl (Nat.le_of_ble_eq_true rfl) dX3_init_35 (fun H locs hP hD hS => ?_)
  rw [tc_app_set (tc_app_l (tc_app_l (tc_app_l (tc_set_self e0)))), tc_app_set (tc_app_l (tc_app_l (tc_set_self e0))), tc_app_set (tc_app_l (tc_set_self e0)), tc_app_set (tc_set_self e0), List.set_set] at hP hD
  have hP : va_P D vwCl (((((ws.set p0 (a, .inr (3, [.int 0, .int 0, .ref q_1, .ref q_3, .ref q_5, .ref q_7, .int 0, .null]))) ++ ([(q_1, .inl (cI, 60, .inl (fun _ => 0)))] : va_W)) ++ ([(q_3, .inl (cI, 60, .inl (fun _ => 0)))] : va_W)) ++ ([(q_5, .inl (cJ, 2400, .inr (.inl (fun _ => 0))))] : va_W)) ++ ([(q_7, .inl (cD, 2400, .inr (.inr (.inr (.inl (fun _ => 0))))))] : va_W)) H := hP
  have hD : va_D A (((((ws.set p0 (a, .inr (3, [.int 0, .int 0, .ref q_1, .ref q_3, .ref q_5, .ref q_7, .int 0, .null]))) ++ ([(q_1, .inl (cI, 60, .inl (fun _ => 0)))] : va_W)) ++ ([(q_3, .inl (cI, 60, .inl (fun _ => 0)))] : va_W)) ++ ([(q_5, .inl (cJ, 2400, .inr (.inl (fun _ => 0))))] : va_W)) ++ ([(q_7, .inl (cD, 2400, .inr (.inr (.inr (.inl (fun _ => 0))))))] : va_W)) := hD
  refine lv_aload_n hx hb dX3_init_38 rfl (lv_at hl 0 rfl) ?_
  refine lv_bipush (v := 6) hx hb dX3_init_39 (by decide) ?_
  refine va_newa (atype := .int) (ty := .int) (N' := 6) (a0 := (6, .inl (fun _ => 0))) hx hb (hts (.arrayClass .int) (by decide +kernel)) rfl hK hP hD hS hA (fun _ => rfl) (by decide) (rfl) (Nat.le_of_ble_eq_true rfl) (Nat.le_of_ble_eq_true rfl) (Nat.le_of_ble_eq_true rfl) dX3_init_41 (fun q_9 cA_10 H hK1 hP hD hS => ?_)
  have hcA_10 : cI = cA_10 := tc_uniq hK1 (i := 0) (j := 4) rfl rfl
  subst hcA_10
  clear hK1
  have hP : va_P D vwCl ((((((ws.set p0 (a, .inr (3, [.int 0, .int 0, .ref q_1, .ref q_3, .ref q_5, .ref q_7, .int 0, .null]))) ++ ([(q_1, .inl (cI, 60, .inl (fun _ => 0)))] : va_W)) ++ ([(q_3, .inl (cI, 60, .inl (fun _ => 0)))] : va_W)) ++ ([(q_5, .inl (cJ, 2400, .inr (.inl (fun _ => 0))))] : va_W)) ++ ([(q_7, .inl (cD, 2400, .inr (.inr (.inr (.inl (fun _ => 0))))))] : va_W)) ++ ([(q_9, .inl (cI, 6, .inl (fun _ => 0)))] : va_W)) H := hP
  have hD : va_D A ((((((ws.set p0 (a, .inr (3, [.int 0, .int 0, .ref q_1, .ref q_3, .ref q_5, .ref q_7, .int 0, .null]))) ++ ([(q_1, .inl (cI, 60, .inl (fun _ => 0)))] : va_W)) ++ ([(q_3, .inl (cI, 60, .inl (fun _ => 0)))] : va_W)) ++ ([(q_5, .inl (cJ, 2400, .inr (.inl (fun _ => 0))))] : va_W)) ++ ([(q_7, .inl (cD, 2400, .inr (.inr (.inr (.inl (fun _ => 0))))))] : va_W)) ++ ([(q_9, .inl (cI, 6, .inl (fun _ => 0)))] : va_W)) := hD
  refine va_putF (D := D) (ci := 3) (fs := [.int 0, .int 0, .ref q_1, .ref q_3, .ref q_5, .ref q_7, .int 0, .null]) (v := .ref q_9) (ty := .array .int) (C := RX3) (T := TX3) (N := 8) hx hb hts (by decide +kernel) tyX3 tyX3_ok nmX3 hown hK hP hD hS p0 (tc_app_l (tc_app_l (tc_app_l (tc_app_l (tc_app_l (tc_set_self e0)))))) rfl 7 (by decide) (hts (.fieldLink RX3 24 "TypedColumnsModel" "counts" "[I") (by decide +kernel)) (fun _ h9 => h9) rfl hin rfl (by decide +kernel) rfl rfl (Nat.le_of_ble_eq_true rfl) dX3_init_43 (fun H locs hP hD hS => ?_)
  rw [tc_app_set (tc_app_l (tc_app_l (tc_app_l (tc_app_l (tc_set_self e0))))), tc_app_set (tc_app_l (tc_app_l (tc_app_l (tc_set_self e0)))), tc_app_set (tc_app_l (tc_app_l (tc_set_self e0))), tc_app_set (tc_app_l (tc_set_self e0)), tc_app_set (tc_set_self e0), List.set_set] at hP hD
  have hP : va_P D vwCl ((((((ws.set p0 (a, .inr (3, [.int 0, .int 0, .ref q_1, .ref q_3, .ref q_5, .ref q_7, .int 0, .ref q_9]))) ++ ([(q_1, .inl (cI, 60, .inl (fun _ => 0)))] : va_W)) ++ ([(q_3, .inl (cI, 60, .inl (fun _ => 0)))] : va_W)) ++ ([(q_5, .inl (cJ, 2400, .inr (.inl (fun _ => 0))))] : va_W)) ++ ([(q_7, .inl (cD, 2400, .inr (.inr (.inr (.inl (fun _ => 0))))))] : va_W)) ++ ([(q_9, .inl (cI, 6, .inl (fun _ => 0)))] : va_W)) H := hP
  have hD : va_D A ((((((ws.set p0 (a, .inr (3, [.int 0, .int 0, .ref q_1, .ref q_3, .ref q_5, .ref q_7, .int 0, .ref q_9]))) ++ ([(q_1, .inl (cI, 60, .inl (fun _ => 0)))] : va_W)) ++ ([(q_3, .inl (cI, 60, .inl (fun _ => 0)))] : va_W)) ++ ([(q_5, .inl (cJ, 2400, .inr (.inl (fun _ => 0))))] : va_W)) ++ ([(q_7, .inl (cD, 2400, .inr (.inr (.inr (.inl (fun _ => 0))))))] : va_W)) ++ ([(q_9, .inl (cI, 6, .inl (fun _ => 0)))] : va_W)) := hD
  rw [List.append_assoc, List.append_assoc, List.append_assoc, List.append_assoc] at hP hD
  exact W.vret hx hb hr (fun t9 ht9 hW9 => ⟨⟨(q_1, q_3, q_5, q_7, q_9), rfl, trivial, by rw [ht9]; exact hP, hD⟩, hS.F ht9⟩) hS.2.2 dX3_init_46
