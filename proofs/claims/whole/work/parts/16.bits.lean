/-! THE BITS OF A DOUBLE, by arithmetic -/
theorem tf_shl {k : Nat} (h : k < 31) : (1 : Int32) <<< (nI k &&& 31) = nI (2 ^ k) := by
  have h31 : nI k &&& 31 = nI k := by
    rw [pk_andN (by omega) 5 (by decide)]
    rw [Nat.mod_eq_of_lt (by omega)]
  rw [h31]
  have e1 : (1 : Int32) = nI 1 := rfl
  have hs : ((nI k).toBitVec.smod 32).toNat = k := by
    have : ∀ k, k < 31 → ((nI k).toBitVec.smod 32).toNat = k := by decide +kernel
    exact this k h
  rw [e1, pk_shlN (nI k) k hs (by rw [Nat.one_mul]; exact Nat.pow_lt_pow_right (by decide) (by omega)), Nat.one_mul]
theorem tf_frac {t : Nat} (ht : t < 4503599627370496) : FP.d2l (tf_N 1075 t) - 4503599627370496 = lN t := by
  have h := tf_d2lN ht
  have e : FP.d2l (tf_N 1075 t) = lN (4503599627370496 + t) := Int64.toInt_inj.mp (by rw [h, tf_lNI (by omega)])
  rw [e, show (4503599627370496 : Int64) = lN 4503599627370496 from rfl, lN_sub (by omega), show 4503599627370496 + t - 4503599627370496 = t from by omega]
theorem tf_infN {E t : Nat} (h : E ≤ 2046) (ht : t < 4503599627370496) : tf_inf (tf_N E t) = false := by
  unfold tf_inf
  rw [tf_Nn (by omega) ht]
  exact decide_eq_false (by omega)
theorem tf_notsub {E t : Nat} (h1 : 1 ≤ E) (h : E ≤ 2046) (ht : t < 4503599627370496) : FP.dcmp (tf_N E t) 4503599627370496 ≠ some .lt := by
  intro q
  have hc := (tf_cmp_lt (a := tf_N E t) (b := 4503599627370496) (by rw [tf_Nn (by omega) ht]; omega) (by decide)).1.mp q
  rw [tf_Nn (by omega) ht, show (4503599627370496 : UInt64).toNat = 4503599627370496 from rfl] at hc
  omega
theorem tf_issub {t : Nat} (ht : t < 4503599627370496) : FP.dcmp (tf_N 0 t) 4503599627370496 = some .lt := by
  refine (tf_cmp_lt (a := tf_N 0 t) (b := 4503599627370496) (by rw [tf_Nn (by omega) ht]; omega) (by decide)).1.mpr ?_
  rw [tf_Nn (by omega) ht, show (4503599627370496 : UInt64).toNat = 4503599627370496 from rfl]
  omega
theorem tf_subI {t : Nat} (h0 : 0 < t) (ht : t < 4503599627370496) : FP.d2l (FP.ddiv (tf_N 0 t) 1) = (tf_N 0 t).toInt64 := by
  apply Int64.toInt_inj.mp
  rw [(tf_sub h0 ht).1]
  unfold tf_N
  rw [tf_toI (by omega)]
  omega
theorem tf_eq0 {x : UInt64} (h : Op.cmpValue (FP.dcmp x FP.dconst0) .l = 0) : x = 0 ∨ x = 9223372036854775808 := FP.Core.zero_bits ((tf_cl0 _).mp h)
theorem tf_inv0 {x : UInt64} (h : x = 0 ∨ x = 9223372036854775808) : vf_n64 (FP.ddiv FP.dconst1 x) := by
  rw [tf_n64]
  rcases h with h | h <;> (rw [h]; decide +kernel)
theorem tf_zerop {x : UInt64} (h : Op.cmpValue (FP.dcmp x FP.dconst0) .l = 0) (h2 : 0 ≤ Op.cmpValue (FP.dcmp (FP.ddiv FP.dconst1 x) FP.dconst0) .g) : (0 : Int64) = x.toInt64 := by
  rcases tf_eq0 h with q | q
  · rw [q]; rfl
  · rw [q] at h2; exact absurd h2 (by decide +kernel)
theorem tf_zeron {x : UInt64} (h : Op.cmpValue (FP.dcmp x FP.dconst0) .l = 0) (h2 : ¬ 0 ≤ Op.cmpValue (FP.dcmp (FP.ddiv FP.dconst1 x) FP.dconst0) .g) : (-9223372036854775808 : Int64) = x.toInt64 := by
  rcases tf_eq0 h with q | q
  · rw [q] at h2; exact absurd (by decide +kernel) h2
  · rw [q]; decide
theorem tf_posx {x : UInt64} (hz : FP.Core.dIsNaN x = false) (h : ¬ Op.cmpValue (FP.dcmp x FP.dconst0) .l = 0) (h2 : 0 ≤ Op.cmpValue (FP.dcmp x FP.dconst0) .g) : x ≠ 0 ∧ x.toNat ≤ 9218868437227405312 := by
  have hv := (FP.Core.notNaN_iff x).mp hz
  have h0 : FP.Core.val64 FP.dconst0 ≠ .nan := by rw [FP.Core.ne_nan]; decide
  have hb := (FP.Core.ne_nan x).mp hv
  refine ⟨fun q => h (by rw [q]; decide +kernel), ?_⟩
  have hn := (tf_cg _).mp h2
  rw [show FP.dcmp x FP.dconst0 = FP.Core.dcmp x FP.dconst0 from rfl, ne_eq, FP.Core.dcmp_lt_key hv h0] at hn
  have e0 : FP.Core.dkey FP.dconst0 = 0 := by decide
  have e : ¬ Op.cmpValue (FP.dcmp x FP.dconst0) .l = 0 := h
  rw [tf_cl0, show FP.dcmp x FP.dconst0 = FP.Core.dcmp x FP.dconst0 from rfl, FP.Core.dcmp_eq_key hv h0, e0] at e
  rw [e0] at hn
  unfold FP.Core.dkey at hn e
  split at hn <;> omega
theorem tf_negx {x : UInt64} (hz : FP.Core.dIsNaN x = false) (h : ¬ Op.cmpValue (FP.dcmp x FP.dconst0) .l = 0) (h2 : ¬ 0 ≤ Op.cmpValue (FP.dcmp x FP.dconst0) .g) : FP.dneg x ≠ 0 ∧ (FP.dneg x).toNat ≤ 9218868437227405312 ∧ (-9223372036854775808 : Int64) ||| (FP.dneg x).toInt64 = x.toInt64 := by
  have hv := (FP.Core.notNaN_iff x).mp hz
  have h0 : FP.Core.val64 FP.dconst0 ≠ .nan := by rw [FP.Core.ne_nan]; decide
  have hb := (FP.Core.ne_nan x).mp hv
  have hn : FP.dcmp x FP.dconst0 = some .lt := Classical.byContradiction (fun q => h2 ((tf_cg _).mpr q))
  rw [show FP.dcmp x FP.dconst0 = FP.Core.dcmp x FP.dconst0 from rfl, FP.Core.dcmp_lt_key hv h0] at hn
  have e0 : FP.Core.dkey FP.dconst0 = 0 := by decide
  rw [e0] at hn
  have hl := x.toNat_lt
  have hbig : 2 ^ 63 < x.toNat := by
    unfold FP.Core.dkey at hn
    split at hn <;> omega
  have hx : (FP.dneg x).toNat = x.toNat - 2 ^ 63 := by
    have hq : (FP.dneg x).toNat = x.toNat ^^^ 2 ^ 63 := by unfold FP.dneg; rw [UInt64.toNat_xor]; rfl
    rw [hq]
    exact (FP.xor_top (a := x.toNat) (k := 63) (by omega)).2 (by omega)
  refine ⟨fun q => ?_, by rw [hx]; omega, ?_⟩
  · rw [q] at hx
    have : (0 : UInt64).toNat = 0 := rfl
    omega
  · apply Int64.toBitVec_inj.mp
    rw [Int64.toBitVec_or]
    show (-9223372036854775808 : Int64).toBitVec ||| (FP.dneg x).toBitVec = x.toBitVec
    have e1 : (-9223372036854775808 : Int64).toBitVec = 0x8000000000000000#64 := by decide
    have e2 : (FP.dneg x).toBitVec = x.toBitVec ^^^ 0x8000000000000000#64 := by unfold FP.dneg; rw [UInt64.toBitVec_xor]; rfl
    rw [e1, e2]
    apply BitVec.eq_of_getElem_eq
    intro i hi
    rw [BitVec.getElem_or, BitVec.getElem_xor]
    by_cases q : i = 63
    · subst q
      have hm : x.toBitVec[63] = true := by
        have : x.toBitVec.toNat = x.toNat := rfl
        rw [← BitVec.getLsbD_eq_getElem, BitVec.getLsbD, this, Nat.testBit_eq_decide_div_mod_eq]
        exact decide_eq_true (by omega)
      have hc : (0x8000000000000000#64)[63]'(by decide) = true := by decide
      rw [hc, hm]; rfl
    · have hc : (0x8000000000000000#64)[i] = false := by
        have : ∀ i, (h : i < 64) → i ≠ 63 → (0x8000000000000000#64)[i] = false := by decide
        exact this i hi q
      rw [hc]; simp
set_option maxHeartbeats 4000000 in
set_option maxRecDepth 100000 in
theorem oX1_ofNormal (l : Launch) (D : va_G) (A : Nat → Prop) (cI cJ cD cC : ClassId) (ws : va_W) (p3 p4 : Nat) (a h : Nat) (sz : Nat) (e3 : ws[p3]? = some (a, .inr (1, [.ref h]))) (e4 : ws[p4]? = some (h, .inl (cD, 10, .inr (.inr (.inr (.inl (fun j => tf_N (1023 + 2 ^ j) 0))))))) (E t : Nat) (hE1 : 1 ≤ E) (hE2 : E ≤ 2046) (ht : t < 4503599627370496) : Met l yX1_ofNormal wsX1_ofNormal ({ frames := 0, cells := 0, slots := 0, locals := 0 }) (tcP D A (tcTY cI cJ cD cC) sz [.ref a, .double (tf_N E t)] ws) (vp_Sl (fun r => r = (tf_N E t).toInt64)) 0 0 (fun _ => False) := by
  refine Met.ofW (cc := cX1_ofNormal) (maxL := 9) (ret := (some .long)) (by decide) rfl ?_
  intro p e s m args below meth c s₁ B hml hv
  obtain ⟨rfl, hsz, hP, hK, hD, hE⟩ := hv
  have hx := B.exec
  have hb := B.bytes
  have hr := B.returns
  have hts := atoms_spec (ws := wsX1_ofNormal) B.pre
  have hown : s.vm.findClass RX1 = some m.cls := findClass_of_methodNamed B.named
  have hlocks := B.notSynchronized
  have hl := lv_entry ([.ref a, .double (tf_N E t)]) (n := 9) (Nat.le_of_ble_eq_true rfl)
  rw [lg_entry_eq]
  generalize (lg_sl ([.ref a, .double (tf_N E t)]) ++ List.replicate (9 - (lg_sl ([.ref a, .double (tf_N E t)])).length) Slot.unset).toArray = ls at hl ⊢
  have hl : lv_has ls 9 [(0, .ref a), (1, .double (tf_N E t))] := hl
  subst hsz
  have hS : va_S A s.heap s.heap [] := va_S.rf
  refine lv_dload_n hx hb dX1_ofNormal_0 rfl (lv_at hl 1 rfl) ?_
  refine lv_dstore_n (lv' := [(3, .double (tf_N E t)), (0, .ref a), (1, .double (tf_N E t))]) hx hb dX1_ofNormal_1 rfl hl (by decide) rfl (fun ls hl => ?_)
  refine lv_iconst (v := 0) hx hb dX1_ofNormal_2 (by decide) ?_
  refine lv_istore (lv' := [(5, .int 0), (3, .double (tf_N E t)), (0, .ref a), (1, .double (tf_N E t))]) hx hb dX1_ofNormal_3 hl (by decide) rfl (fun ls hl => ?_)
  refine lv_aload_n hx hb dX1_ofNormal_5 rfl (lv_at hl 2 rfl) ?_
  refine va_get (D := D) (ci := 1) (fs := [.ref h]) (v := .ref h) (C := RX1) (T := TX1) (N := 1) hx hb hts (by decide +kernel) hown hK hP p3 e3 rfl 0 (by decide) (hts (.fieldLink RX1 9 "TypedColumns$DoubleBits" "powers" "[D") (by decide +kernel)) (fun _ h9 => h9) rfl dX1_ofNormal_6 ?_
  refine va_alen (v := 10) hx hb hK hP p4 2 e4 rfl rfl dX1_ofNormal_9 ?_
  refine lv_iconst (v := 1) hx hb dX1_ofNormal_10 (by decide) ?_
  refine lv_isub hx hb dX1_ofNormal_11 ?_
  refine lv_topi (fun x_1 ex_1 => ?_)
  refine lv_istore (lv' := [(6, .int x_1), (5, .int 0), (3, .double (tf_N E t)), (0, .ref a), (1, .double (tf_N E t))]) hx hb dX1_ofNormal_12 hl (by decide) rfl (fun ls hl => ?_)
  subst ex_1
  refine tc_loop (fun k9 H locs ls => ∃ (e' : Nat) (ex : Int32), (H = s.heap ∧ locs = []) ∧ k9 ≤ 10 ∧ 1 ≤ e' ∧ (1023 < e' + 2 ^ k9 ∧ e' < 1023 + 2 ^ k9) ∧ ex + nI e' = nI E ∧ lv_has ls 9 [(6, .int (nI k9 - 1)), (5, .int ex), (3, .double (tf_N e' t)), (0, .ref a), (1, .double (tf_N E t))]) (fun k9 H locs ls hi9 ih => ?_) (fun H locs ls hi9 => ?_) 10 ⟨E, 0, ⟨rfl, rfl⟩, Nat.le_refl _, hE1, ⟨by omega, by omega⟩, Int32.zero_add _, hl⟩
  · obtain ⟨e', ex, ⟨rfl, rfl⟩, hk9, he1, ⟨hb1, hb2⟩, hsum, hl⟩ := hi9
    rw [nI_pred] at hl
    have hpw := Nat.two_pow_pos k9
    have hps : 2 ^ (k9 + 1) = 2 * 2 ^ k9 := by rw [Nat.pow_succ]; omega
    rw [hps] at hb1 hb2
    have hp9 : 2 ^ k9 ≤ 512 := Nat.pow_le_pow_right (by decide) (show k9 ≤ 9 by omega)
    have hN := tf_Nn (e := e') (t := t) (by omega) ht
    have hQ := tf_Nn (e := 1023 + 2 ^ k9) (t := 0) (by omega) (by decide)
    have hc := tf_cmp_lt (a := tf_N e' t) (b := tf_N (1023 + 2 ^ k9) 0) (by rw [hN]; omega) (by rw [hQ]; omega)
    refine lv_iload hx hb dX1_ofNormal_14 (lv_at hl 0 rfl) ?_
    refine lv_if_lt (tgt := 83) hx hb dX1_ofNormal_16 (by decide) (fun q => absurd q (nI_pos (by omega))) (fun _ => ?_)
    refine lv_aload_n hx hb dX1_ofNormal_19 rfl (lv_at hl 3 rfl) ?_
    refine va_get (D := D) (ci := 1) (fs := [.ref h]) (v := .ref h) (C := RX1) (T := TX1) (N := 1) hx hb hts (by decide +kernel) hown hK hP p3 e3 rfl 0 (by decide) (hts (.fieldLink RX1 9 "TypedColumns$DoubleBits" "powers" "[D") (by decide +kernel)) (fun _ h9 => h9) rfl dX1_ofNormal_20 ?_
    refine lv_iload hx hb dX1_ofNormal_23 (lv_at hl 0 rfl) ?_
    refine tc_dald (f := (fun j => tf_N (1023 + 2 ^ j) 0)) (v := (tf_N (1023 + 2 ^ k9) 0)) hx hb hK hP p4 2 e4 rfl (vp_in_nI (by omega) (by decide)) (by rw [nI_clamp (by omega)]) dX1_ofNormal_25 ?_
    refine lv_dstore (lv' := [(7, .double (tf_N (1023 + 2 ^ k9) 0)), (6, .int (nI k9)), (5, .int ex), (3, .double (tf_N e' t)), (0, .ref a), (1, .double (tf_N E t))]) hx hb dX1_ofNormal_26 hl (by decide) rfl (fun ls hl => ?_)
    refine lv_dload_n hx hb dX1_ofNormal_28 rfl (lv_at hl 3 rfl) ?_
    refine lv_dload hx hb dX1_ofNormal_29 (lv_at hl 0 rfl) ?_
    refine lv_dcmp hx hb dX1_ofNormal_31 ?_
    refine lv_if_lt (tgt := 52) hx hb dX1_ofNormal_32 (by decide) (fun c_3 => ?_) (fun c_3 => ?_)
    · have hlt : (tf_N e' t).toNat < (tf_N (1023 + 2 ^ k9) 0).toNat := ((tf_cl _).mp c_3).elim (fun q => hc.1.mp q) (fun q => absurd q hc.2)
      rw [hN, hQ] at hlt
      refine lv_dload_n hx hb dX1_ofNormal_52 rfl (lv_at hl 3 rfl) ?_
      refine lv_dload hx hb dX1_ofNormal_53 (lv_at hl 0 rfl) ?_
      refine lv_dmul hx hb dX1_ofNormal_55 (by rw [tf_mul (e := e') (k := 2 ^ k9) (t := t) (by omega) (by omega) (by omega) ht]; exact tf_Nnan (by omega) ht) ?_
      rw [tf_mul (e := e') (k := 2 ^ k9) (t := t) (by omega) (by omega) (by omega) ht]
      have hM := tf_Nn (e := e' + 2 ^ k9) (t := t) (by omega) ht
      have hc2 := tf_cmp_lt (a := tf_N (e' + 2 ^ k9) t) (b := 4611686018427387904) (by rw [hM]; omega) (by decide)
      refine lv_ldc2d (v := 4611686018427387904) hx hb hown (hts (.constantDouble RX1 13 (4611686018427387904)) (by decide +kernel)) dX1_ofNormal_56 ?_
      refine lv_dcmp hx hb dX1_ofNormal_59 ?_
      refine lv_if_ge (tgt := 77) hx hb dX1_ofNormal_60 (by decide) (fun c_4 => ?_) (fun c_4 => ?_)
      · have hge2 : ¬ (tf_N (e' + 2 ^ k9) t).toNat < (4611686018427387904 : UInt64).toNat := fun q => absurd (hc2.1.mpr q) ((tf_cg _).mp c_4)
        rw [hM, show (4611686018427387904 : UInt64).toNat = 4611686018427387904 from rfl] at hge2
        obtain ⟨x_5, ex_5⟩ : ∃ y : Int32, y = (nI k9) + (-1) := ⟨_, rfl⟩
        refine lv_iinc (v := x_5) (lv' := [(6, .int x_5), (7, .double (tf_N (1023 + 2 ^ k9) 0)), (5, .int ex), (3, .double (tf_N e' t)), (0, .ref a), (1, .double (tf_N E t))]) hx hb dX1_ofNormal_77 hl (k := 1) rfl (by rw [ex_5]; rfl) (by decide) rfl (fun ls hl => ?_)
        refine lv_goto (tgt := 14) hx hb dX1_ofNormal_80 (by decide) ?_
        subst ex_5
        exact ih _ _ _ ⟨e', ex, ⟨rfl, rfl⟩, by omega, by omega, ⟨by omega, by omega⟩, hsum, by rw [show nI k9 - 1 = nI k9 + (-1) from Int32.sub_eq_add_neg _ _]; exact lv_sub hl [0, 2, 3, 4, 5] rfl⟩
      · have hlt2 : (tf_N (e' + 2 ^ k9) t).toNat < (4611686018427387904 : UInt64).toNat := Classical.byContradiction (fun q => c_4 ((tf_cg _).mpr (fun z => q (hc2.1.mp z))))
        rw [hM, show (4611686018427387904 : UInt64).toNat = 4611686018427387904 from rfl] at hlt2
        refine lv_dload_n hx hb dX1_ofNormal_63 rfl (lv_at hl 3 rfl) ?_
        refine lv_dload hx hb dX1_ofNormal_64 (lv_at hl 0 rfl) ?_
        refine lv_dmul hx hb dX1_ofNormal_66 (by rw [tf_mul (e := e') (k := 2 ^ k9) (t := t) (by omega) (by omega) (by omega) ht]; exact tf_Nnan (by omega) ht) ?_
        rw [tf_mul (e := e') (k := 2 ^ k9) (t := t) (by omega) (by omega) (by omega) ht]
        refine lv_dstore_n (lv' := [(3, .double (tf_N (e' + 2 ^ k9) t)), (7, .double (tf_N (1023 + 2 ^ k9) 0)), (6, .int (nI k9)), (5, .int ex), (0, .ref a), (1, .double (tf_N E t))]) hx hb dX1_ofNormal_67 rfl hl (by decide) rfl (fun ls hl => ?_)
        refine lv_iload hx hb dX1_ofNormal_68 (lv_at hl 3 rfl) ?_
        refine lv_iconst (v := 1) hx hb dX1_ofNormal_70 (by decide) ?_
        refine lv_iload hx hb dX1_ofNormal_71 (lv_at hl 2 rfl) ?_
        refine lv_ishl hx hb dX1_ofNormal_73 ?_
        rw [show (1 : Int32) <<< (nI k9 &&& 31) = nI (2 ^ k9) from tf_shl (by omega)]
        refine lv_isub hx hb dX1_ofNormal_74 ?_
        refine lv_topi (fun x_6 ex_6 => ?_)
        refine lv_istore (lv' := [(5, .int x_6), (3, .double (tf_N (e' + 2 ^ k9) t)), (7, .double (tf_N (1023 + 2 ^ k9) 0)), (6, .int (nI k9)), (0, .ref a), (1, .double (tf_N E t))]) hx hb dX1_ofNormal_75 hl (by decide) rfl (fun ls hl => ?_)
        obtain ⟨x_7, ex_7⟩ : ∃ y : Int32, y = (nI k9) + (-1) := ⟨_, rfl⟩
        refine lv_iinc (v := x_7) (lv' := [(6, .int x_7), (5, .int x_6), (3, .double (tf_N (e' + 2 ^ k9) t)), (7, .double (tf_N (1023 + 2 ^ k9) 0)), (0, .ref a), (1, .double (tf_N E t))]) hx hb dX1_ofNormal_77 hl (k := 3) rfl (by rw [ex_7]; rfl) (by decide) rfl (fun ls hl => ?_)
        refine lv_goto (tgt := 14) hx hb dX1_ofNormal_80 (by decide) ?_
        subst ex_6
        subst ex_7
        exact ih _ _ _ ⟨e' + 2 ^ k9, (ex - nI (2 ^ k9)), ⟨rfl, rfl⟩, by omega, by omega, ⟨by omega, by omega⟩, by rw [← nI_add, Int32.add_comm (nI e'), ← Int32.add_assoc, Int32.sub_add_cancel]; exact hsum, by rw [show nI k9 - 1 = nI k9 + (-1) from Int32.sub_eq_add_neg _ _]; exact lv_sub hl [0, 1, 2, 4, 5] rfl⟩
    · have hge : ¬ (tf_N e' t).toNat < (tf_N (1023 + 2 ^ k9) 0).toNat := fun q => c_3 ((tf_cl _).mpr (Or.inl (hc.1.mpr q)))
      rw [hN, hQ] at hge
      refine lv_dload_n hx hb dX1_ofNormal_35 rfl (lv_at hl 3 rfl) ?_
      refine lv_dload hx hb dX1_ofNormal_36 (lv_at hl 0 rfl) ?_
      refine lv_ddiv hx hb dX1_ofNormal_38 (by rw [tf_div (e := e') (k := 2 ^ k9) (t := t) (by omega) (by omega) (by omega) ht]; exact tf_Nnan (by omega) ht) ?_
      rw [tf_div (e := e') (k := 2 ^ k9) (t := t) (by omega) (by omega) (by omega) ht]
      refine lv_dstore_n (lv' := [(3, .double (tf_N (e' - 2 ^ k9) t)), (7, .double (tf_N (1023 + 2 ^ k9) 0)), (6, .int (nI k9)), (5, .int ex), (0, .ref a), (1, .double (tf_N E t))]) hx hb dX1_ofNormal_39 rfl hl (by decide) rfl (fun ls hl => ?_)
      refine lv_iload hx hb dX1_ofNormal_40 (lv_at hl 3 rfl) ?_
      refine lv_iconst (v := 1) hx hb dX1_ofNormal_42 (by decide) ?_
      refine lv_iload hx hb dX1_ofNormal_43 (lv_at hl 2 rfl) ?_
      refine lv_ishl hx hb dX1_ofNormal_45 ?_
      rw [show (1 : Int32) <<< (nI k9 &&& 31) = nI (2 ^ k9) from tf_shl (by omega)]
      refine lv_iadd hx hb dX1_ofNormal_46 ?_
      refine lv_topi (fun x_8 ex_8 => ?_)
      refine lv_istore (lv' := [(5, .int x_8), (3, .double (tf_N (e' - 2 ^ k9) t)), (7, .double (tf_N (1023 + 2 ^ k9) 0)), (6, .int (nI k9)), (0, .ref a), (1, .double (tf_N E t))]) hx hb dX1_ofNormal_47 hl (by decide) rfl (fun ls hl => ?_)
      refine lv_goto (tgt := 77) hx hb dX1_ofNormal_49 (by decide) ?_
      obtain ⟨x_9, ex_9⟩ : ∃ y : Int32, y = (nI k9) + (-1) := ⟨_, rfl⟩
      refine lv_iinc (v := x_9) (lv' := [(6, .int x_9), (5, .int x_8), (3, .double (tf_N (e' - 2 ^ k9) t)), (7, .double (tf_N (1023 + 2 ^ k9) 0)), (0, .ref a), (1, .double (tf_N E t))]) hx hb dX1_ofNormal_77 hl (k := 3) rfl (by rw [ex_9]; rfl) (by decide) rfl (fun ls hl => ?_)
      refine lv_goto (tgt := 14) hx hb dX1_ofNormal_80 (by decide) ?_
      subst ex_8
      subst ex_9
      exact ih _ _ _ ⟨e' - 2 ^ k9, (ex + nI (2 ^ k9)), ⟨rfl, rfl⟩, by omega, by omega, ⟨by omega, by omega⟩, by rw [show nI (e' - 2 ^ k9) = nI e' - nI (2 ^ k9) from (pk_sub (by omega)).symm, Int32.add_assoc, Int32.add_comm (nI (2 ^ k9)), Int32.sub_add_cancel]; exact hsum, by rw [show nI k9 - 1 = nI k9 + (-1) from Int32.sub_eq_add_neg _ _]; exact lv_sub hl [0, 1, 2, 4, 5] rfl⟩
  · obtain ⟨e', ex, ⟨rfl, rfl⟩, hk9, he1, ⟨hb1, hb2⟩, hsum, hl⟩ := hi9
    have he : e' = 1023 := by omega
    subst he
    refine lv_iload hx hb dX1_ofNormal_14 (lv_at hl 0 rfl) ?_
    refine lv_if_lt (tgt := 83) hx hb dX1_ofNormal_16 (by decide) (fun _ => ?_) (fun q => absurd (by decide) q)
    refine lv_dload_n hx hb dX1_ofNormal_83 rfl (lv_at hl 2 rfl) ?_
    refine lv_ldc2d (v := 4841369599423283200) hx hb hown (hts (.constantDouble RX1 38 (4841369599423283200)) (by decide +kernel)) dX1_ofNormal_84 ?_
    refine lv_dmul hx hb dX1_ofNormal_87 (by rw [show FP.dmul (tf_N 1023 t) 4841369599423283200 = tf_N 1075 t from tf_mul (e := 1023) (k := 52) (by decide) (by decide) (by decide) ht]; exact tf_Nnan (by decide) ht) ?_
    rw [show FP.dmul (tf_N 1023 t) 4841369599423283200 = tf_N 1075 t from tf_mul (e := 1023) (k := 52) (by decide) (by decide) (by decide) ht]
    refine lv_d2l hx hb dX1_ofNormal_88 ?_
    refine lv_ldc2 (v := 4503599627370496) hx hb hown (hts (.constantLong RX1 40 (4503599627370496)) (by decide +kernel)) dX1_ofNormal_89 ?_
    refine lv_lsub hx hb dX1_ofNormal_92 ?_
    rw [show FP.d2l (tf_N 1075 t) - 4503599627370496 = lN t from tf_frac ht]
    refine lv_lstore (lv' := [(6, .long (lN t)), (5, .int ex), (3, .double (tf_N 1023 t)), (0, .ref a), (1, .double (tf_N E t))]) hx hb dX1_ofNormal_93 hl (by decide) rfl (fun ls hl => ?_)
    refine lv_iload hx hb dX1_ofNormal_95 (lv_at hl 1 rfl) ?_
    refine lv_sipush (v := 1023) hx hb dX1_ofNormal_97 (by decide) ?_
    refine lv_iadd hx hb dX1_ofNormal_100 ?_
    rw [show ex + 1023 = nI E from hsum]
    refine lv_i2l (v := (nI E).toInt64) hx hb dX1_ofNormal_101 rfl ?_
    refine lv_bipush (v := 52) hx hb dX1_ofNormal_102 (by decide) ?_
    refine lv_lshl (v := ((nI E).toInt64 <<< ((52 : Int32).toInt64 &&& 63))) hx hb dX1_ofNormal_104 rfl ?_
    refine lv_lload hx hb dX1_ofNormal_105 (lv_at hl 0 rfl) ?_
    refine lv_ladd hx hb dX1_ofNormal_107 ?_
    exact W.lret (v := (((nI E).toInt64 <<< ((52 : Int32).toInt64 &&& 63)) + (lN t))) hx hb hr (fun t9 ht9 hW9 => ⟨(((nI E).toInt64 <<< ((52 : Int32).toInt64 &&& 63)) + (lN t)), rfl, tf_put (by omega) ht, ht9⟩) (fun q hq => absurd hq List.not_mem_nil) dX1_ofNormal_108
set_option maxHeartbeats 4000000 in
set_option maxRecDepth 100000 in
theorem oX1_ofPositive_n (l : Launch) (D : va_G) (A : Nat → Prop) (cI cJ cD cC : ClassId) (ws : va_W) (p3 p4 : Nat) (a h : Nat) (sz : Nat) (e3 : ws[p3]? = some (a, .inr (1, [.ref h]))) (e4 : ws[p4]? = some (h, .inl (cD, 10, .inr (.inr (.inr (.inl (fun j => tf_N (1023 + 2 ^ j) 0))))))) (E t : Nat) (hE2 : E ≤ 2046) (ht : t < 4503599627370496) (hE1 : 1 ≤ E) : Met l yX1_ofPositive wsX1_ofPositive ({ frames := 1, cells := 0, slots := 0, locals := 28 }) (tcP D A (tcTY cI cJ cD cC) sz [.ref a, .double (tf_N E t)] ws) (vp_Sl (fun r => r = (tf_N E t).toInt64)) 0 0 (fun _ => False) := by
  refine Met.ofW (cc := cX1_ofPositive) (maxL := 4) (ret := (some .long)) (by decide) rfl ?_
  intro p e s m args below meth c s₁ B hml hv
  obtain ⟨rfl, hsz, hP, hK, hD, hE⟩ := hv
  have hx := B.exec
  have hb := B.bytes
  have hr := B.returns
  have hts := atoms_spec (ws := wsX1_ofPositive) B.pre
  have hown : s.vm.findClass RX1 = some m.cls := findClass_of_methodNamed B.named
  have hlocks := B.notSynchronized
  have hl := lv_entry ([.ref a, .double (tf_N E t)]) (n := 4) (Nat.le_of_ble_eq_true rfl)
  rw [lg_entry_eq]
  generalize (lg_sl ([.ref a, .double (tf_N E t)]) ++ List.replicate (4 - (lg_sl ([.ref a, .double (tf_N E t)])).length) Slot.unset).toArray = ls at hl ⊢
  have hl : lv_has ls 4 [(0, .ref a), (1, .double (tf_N E t))] := hl
  subst hsz
  have hS : va_S A s.heap s.heap [] := va_S.rf
  refine lv_dload_n hx hb dX1_ofPositive_0 rfl (lv_at hl 1 rfl) ?_
  refine vp_callSi (tc_CR (va_runSN (As := [.double (tf_N E t)]) (rest := []) ⟨hx, hb, hml, hown, hts⟩ (kX2_isInfinite l (tf_N E t) (((FP.Core.notNaN_iff _).mpr ((FP.Core.ne_nan _).mpr (by rw [tf_Nn (by omega) ht]; omega))))) ⟨va_cnB 1 hts gX1_ofPositive_X2_isInfinite_n23 rfl rfl rfl (hE.2.2.2.2.2.2.2.2.2) (hts (.initialized RX2) (by decide +kernel)) (by decide +kernel) ⟨Nat.le_of_ble_eq_true rfl, Nat.le_of_ble_eq_true rfl⟩, hts (.static yX2_isInfinite) (by decide +kernel), trivial⟩ ⟨fun a U g mk q => q, fun U hU hW => ⟨rfl, trivial⟩⟩ rfl rfl hl.1 rfl (lv_room (Nat.le_of_ble_eq_true rfl)) dX1_ofPositive_1 ⟨Nat.zero_le _, Nat.zero_le _⟩)) (fun r_1 hr_1 => ?_)
  subst hr_1
  refine lv_if_eq (tgt := 11) hx hb dX1_ofPositive_4 (by decide) (fun _ => ?_) (fun q => absurd ((tb_0 _).mpr (tf_infN hE2 ht)) q)
  refine lv_dload_n hx hb dX1_ofPositive_11 rfl (lv_at hl 1 rfl) ?_
  refine lv_ldc2d (v := 4503599627370496) hx hb hown (hts (.constantDouble RX1 31 (4503599627370496)) (by decide +kernel)) dX1_ofPositive_12 ?_
  refine lv_dcmp hx hb dX1_ofPositive_15 ?_
  refine lv_if_ge (tgt := 23) hx hb dX1_ofPositive_16 (by decide) (fun _ => ?_) (fun q => absurd ((tf_cg _).mpr (tf_notsub hE1 hE2 ht)) q)
  refine lv_iconst (v := 0) hx hb dX1_ofPositive_23 (by decide) ?_
  refine lv_istore_n (lv' := [(3, .int 0), (0, .ref a), (1, .double (tf_N E t))]) hx hb dX1_ofPositive_24 rfl hl (by decide) rfl (fun ls hl => ?_)
  refine lv_iload_n hx hb dX1_ofPositive_25 rfl (lv_at hl 0 rfl) ?_
  refine lv_if_eq (tgt := 38) hx hb dX1_ofPositive_26 (by decide) (fun _ => ?_) (fun q => absurd (by decide) q)
  refine lv_aload_n hx hb dX1_ofPositive_38 rfl (lv_at hl 1 rfl) ?_
  refine lv_dload_n hx hb dX1_ofPositive_39 rfl (lv_at hl 2 rfl) ?_
  refine vp_callSl (tc_CR (va_runV (As := [.double (tf_N E t)]) (rest := []) ⟨hx, hb, hml, hown, hts⟩ (oX1_ofNormal l D A cI cJ cD cC ws p3 p4 a h s.heap.size e3 e4 E t hE1 hE2 ht) (cwV 1 hts gX1_ofPositive_X1_ofNormal rfl rfl rfl (by decide +kernel) ⟨Nat.le_of_ble_eq_true rfl, Nat.le_of_ble_eq_true rfl⟩) ⟨tcP.blind, (va_recv hK hP (ci := 1) (q0 := p3) rfl e3), (tcP.go hK hP hD hE hS)⟩ rfl rfl hl.1 rfl (lv_room (Nat.le_of_ble_eq_true rfl)) dX1_ofPositive_40 ⟨Nat.le_of_ble_eq_true rfl, Nat.le_of_ble_eq_true rfl⟩)) (fun r_5 hr_5 => ?_)
  subst hr_5
  exact W.lret (v := ((tf_N E t).toInt64)) hx hb hr (fun t9 ht9 hW9 => ⟨((tf_N E t).toInt64), rfl, rfl, ht9⟩) (fun q hq => absurd hq List.not_mem_nil) dX1_ofPositive_43
set_option maxHeartbeats 4000000 in
set_option maxRecDepth 100000 in
theorem oX1_ofPositive_s (l : Launch) (D : va_G) (A : Nat → Prop) (cI cJ cD cC : ClassId) (ws : va_W) (p3 p4 : Nat) (a h : Nat) (sz : Nat) (e3 : ws[p3]? = some (a, .inr (1, [.ref h]))) (e4 : ws[p4]? = some (h, .inl (cD, 10, .inr (.inr (.inr (.inl (fun j => tf_N (1023 + 2 ^ j) 0))))))) (t : Nat) (h0 : 0 < t) (ht : t < 4503599627370496) : Met l yX1_ofPositive wsX1_ofPositive ({ frames := 1, cells := 0, slots := 0, locals := 28 }) (tcP D A (tcTY cI cJ cD cC) sz [.ref a, .double (tf_N 0 t)] ws) (vp_Sl (fun r => r = (tf_N 0 t).toInt64)) 0 0 (fun _ => False) := by
  refine Met.ofW (cc := cX1_ofPositive) (maxL := 4) (ret := (some .long)) (by decide) rfl ?_
  intro p e s m args below meth c s₁ B hml hv
  obtain ⟨rfl, hsz, hP, hK, hD, hE⟩ := hv
  have hx := B.exec
  have hb := B.bytes
  have hr := B.returns
  have hts := atoms_spec (ws := wsX1_ofPositive) B.pre
  have hown : s.vm.findClass RX1 = some m.cls := findClass_of_methodNamed B.named
  have hlocks := B.notSynchronized
  have hl := lv_entry ([.ref a, .double (tf_N 0 t)]) (n := 4) (Nat.le_of_ble_eq_true rfl)
  rw [lg_entry_eq]
  generalize (lg_sl ([.ref a, .double (tf_N 0 t)]) ++ List.replicate (4 - (lg_sl ([.ref a, .double (tf_N 0 t)])).length) Slot.unset).toArray = ls at hl ⊢
  have hl : lv_has ls 4 [(0, .ref a), (1, .double (tf_N 0 t))] := hl
  subst hsz
  have hS : va_S A s.heap s.heap [] := va_S.rf
  refine lv_dload_n hx hb dX1_ofPositive_0 rfl (lv_at hl 1 rfl) ?_
  refine vp_callSi (tc_CR (va_runSN (As := [.double (tf_N 0 t)]) (rest := []) ⟨hx, hb, hml, hown, hts⟩ (kX2_isInfinite l (tf_N 0 t) (((FP.Core.notNaN_iff _).mpr ((FP.Core.ne_nan _).mpr (by rw [tf_Nn (by omega) ht]; omega))))) ⟨va_cnB 1 hts gX1_ofPositive_X2_isInfinite_n23 rfl rfl rfl (hE.2.2.2.2.2.2.2.2.2) (hts (.initialized RX2) (by decide +kernel)) (by decide +kernel) ⟨Nat.le_of_ble_eq_true rfl, Nat.le_of_ble_eq_true rfl⟩, hts (.static yX2_isInfinite) (by decide +kernel), trivial⟩ ⟨fun a U g mk q => q, fun U hU hW => ⟨rfl, trivial⟩⟩ rfl rfl hl.1 rfl (lv_room (Nat.le_of_ble_eq_true rfl)) dX1_ofPositive_1 ⟨Nat.zero_le _, Nat.zero_le _⟩)) (fun r_1 hr_1 => ?_)
  subst hr_1
  refine lv_if_eq (tgt := 11) hx hb dX1_ofPositive_4 (by decide) (fun _ => ?_) (fun q => absurd ((tb_0 _).mpr (tf_infN (by omega) ht)) q)
  refine lv_dload_n hx hb dX1_ofPositive_11 rfl (lv_at hl 1 rfl) ?_
  refine lv_ldc2d (v := 4503599627370496) hx hb hown (hts (.constantDouble RX1 31 (4503599627370496)) (by decide +kernel)) dX1_ofPositive_12 ?_
  refine lv_dcmp hx hb dX1_ofPositive_15 ?_
  refine lv_if_ge (tgt := 23) hx hb dX1_ofPositive_16 (by decide) (fun q => absurd q (fun q => (tf_cg _).mp q (tf_issub ht))) (fun _ => ?_)
  refine lv_iconst (v := 1) hx hb dX1_ofPositive_19 (by decide) ?_
  refine lv_goto (tgt := 24) hx hb dX1_ofPositive_20 (by decide) ?_
  refine lv_istore_n (lv' := [(3, .int 1), (0, .ref a), (1, .double (tf_N 0 t))]) hx hb dX1_ofPositive_24 rfl hl (by decide) rfl (fun ls hl => ?_)
  refine lv_iload_n hx hb dX1_ofPositive_25 rfl (lv_at hl 0 rfl) ?_
  refine lv_if_eq (tgt := 38) hx hb dX1_ofPositive_26 (by decide) (fun q => absurd q (by decide)) (fun _ => ?_)
  refine lv_dload_n hx hb dX1_ofPositive_29 rfl (lv_at hl 2 rfl) ?_
  refine lv_ldc2d (v := 1) hx hb hown (hts (.constantDouble RX1 33 (1)) (by decide +kernel)) dX1_ofPositive_30 ?_
  refine lv_ddiv hx hb dX1_ofPositive_33 ((tf_sub h0 ht).2) ?_
  refine lv_d2l hx hb dX1_ofPositive_34 ?_
  refine lv_goto (tgt := 43) hx hb dX1_ofPositive_35 (by decide) ?_
  exact W.lret (v := (FP.d2l (FP.ddiv (tf_N 0 t) 1))) hx hb hr (fun t9 ht9 hW9 => ⟨(FP.d2l (FP.ddiv (tf_N 0 t) 1)), rfl, tf_subI h0 ht, ht9⟩) (fun q hq => absurd hq List.not_mem_nil) dX1_ofPositive_43
set_option maxHeartbeats 4000000 in
set_option maxRecDepth 100000 in
theorem oX1_ofPositive_i (l : Launch) (D : va_G) (A : Nat → Prop) (cI cJ cD cC : ClassId) (ws : va_W) (p3 p4 : Nat) (a h : Nat) (sz : Nat) (e3 : ws[p3]? = some (a, .inr (1, [.ref h]))) (e4 : ws[p4]? = some (h, .inl (cD, 10, .inr (.inr (.inr (.inl (fun j => tf_N (1023 + 2 ^ j) 0))))))) : Met l yX1_ofPositive wsX1_ofPositive ({ frames := 1, cells := 0, slots := 0, locals := 28 }) (tcP D A (tcTY cI cJ cD cC) sz [.ref a, .double 9218868437227405312] ws) (vp_Sl (fun r => r = (9218868437227405312 : UInt64).toInt64)) 0 0 (fun _ => False) := by
  refine Met.ofW (cc := cX1_ofPositive) (maxL := 4) (ret := (some .long)) (by decide) rfl ?_
  intro p e s m args below meth c s₁ B hml hv
  obtain ⟨rfl, hsz, hP, hK, hD, hE⟩ := hv
  have hx := B.exec
  have hb := B.bytes
  have hr := B.returns
  have hts := atoms_spec (ws := wsX1_ofPositive) B.pre
  have hown : s.vm.findClass RX1 = some m.cls := findClass_of_methodNamed B.named
  have hlocks := B.notSynchronized
  have hl := lv_entry ([.ref a, .double 9218868437227405312]) (n := 4) (Nat.le_of_ble_eq_true rfl)
  rw [lg_entry_eq]
  generalize (lg_sl ([.ref a, .double 9218868437227405312]) ++ List.replicate (4 - (lg_sl ([.ref a, .double 9218868437227405312])).length) Slot.unset).toArray = ls at hl ⊢
  have hl : lv_has ls 4 [(0, .ref a), (1, .double 9218868437227405312)] := hl
  subst hsz
  have hS : va_S A s.heap s.heap [] := va_S.rf
  refine lv_dload_n hx hb dX1_ofPositive_0 rfl (lv_at hl 1 rfl) ?_
  refine vp_callSi (tc_CR (va_runSN (As := [.double 9218868437227405312]) (rest := []) ⟨hx, hb, hml, hown, hts⟩ (kX2_isInfinite l 9218868437227405312 (by decide +kernel)) ⟨va_cnB 1 hts gX1_ofPositive_X2_isInfinite_n23 rfl rfl rfl (hE.2.2.2.2.2.2.2.2.2) (hts (.initialized RX2) (by decide +kernel)) (by decide +kernel) ⟨Nat.le_of_ble_eq_true rfl, Nat.le_of_ble_eq_true rfl⟩, hts (.static yX2_isInfinite) (by decide +kernel), trivial⟩ ⟨fun a U g mk q => q, fun U hU hW => ⟨rfl, trivial⟩⟩ rfl rfl hl.1 rfl (lv_room (Nat.le_of_ble_eq_true rfl)) dX1_ofPositive_1 ⟨Nat.zero_le _, Nat.zero_le _⟩)) (fun r_1 hr_1 => ?_)
  subst hr_1
  refine lv_if_eq (tgt := 11) hx hb dX1_ofPositive_4 (by decide) (fun q => absurd q ((tb_1 _).mpr (by decide))) (fun _ => ?_)
  refine lv_ldc2 (v := 9218868437227405312) hx hb hown (hts (.constantLong RX1 29 (9218868437227405312)) (by decide +kernel)) dX1_ofPositive_7 ?_
  exact W.lret (v := 9218868437227405312) hx hb hr (fun t9 ht9 hW9 => ⟨9218868437227405312, rfl, by decide, ht9⟩) (fun q hq => absurd hq List.not_mem_nil) dX1_ofPositive_10
theorem oX1_ofPositive (l : Launch) (D : va_G) (A : Nat → Prop) (cI cJ cD cC : ClassId) (ws : va_W) (p3 p4 : Nat) (a hh : Nat) (sz : Nat) (e3 : ws[p3]? = some (a, .inr (1, [.ref hh]))) (e4 : ws[p4]? = some (hh, .inl (cD, 10, .inr (.inr (.inr (.inl (fun j => tf_N (1023 + 2 ^ j) 0))))))) (x : UInt64) (hx0 : x ≠ 0) (hx1 : x.toNat ≤ 9218868437227405312) : Met l yX1_ofPositive wsX1_ofPositive ({ frames := 1, cells := 0, slots := 0, locals := 28 }) (tcP D A (tcTY cI cJ cD cC) sz [.ref a, .double x] ws) (vp_Sl (fun r => r = x.toInt64)) 0 0 (fun _ => False) := by
  rcases Nat.lt_or_ge x.toNat 9218868437227405312 with h | h
  · obtain ⟨E, t, hE2, ht, rfl⟩ := tf_of_bits h
    rcases Nat.eq_zero_or_pos E with hE | hE
    · subst hE
      rcases Nat.eq_zero_or_pos t with h0 | h0
      · subst h0; exact absurd (by decide) hx0
      · exact oX1_ofPositive_s l D A cI cJ cD cC ws p3 p4 a hh sz e3 e4 t h0 ht
    · exact oX1_ofPositive_n l D A cI cJ cD cC ws p3 p4 a hh sz e3 e4 E t hE2 ht hE
  · have : x = 9218868437227405312 := UInt64.toNat_inj.mp (by show x.toNat = 9218868437227405312; omega)
    subst this
    exact oX1_ofPositive_i l D A cI cJ cD cC ws p3 p4 a hh sz e3 e4
set_option maxHeartbeats 4000000 in
set_option maxRecDepth 100000 in
theorem oX1_of (l : Launch) (D : va_G) (A : Nat → Prop) (cI cJ cD cC : ClassId) (ws : va_W) (p3 p4 : Nat) (a h : Nat) (sz : Nat) (e3 : ws[p3]? = some (a, .inr (1, [.ref h]))) (e4 : ws[p4]? = some (h, .inl (cD, 10, .inr (.inr (.inr (.inl (fun j => tf_N (1023 + 2 ^ j) 0))))))) (x : UInt64) (hz : FP.Core.dIsNaN x = false) : Met l yX1_of wsX1_of ({ frames := 2, cells := 0, slots := 0, locals := 51 }) (tcP D A (tcTY cI cJ cD cC) sz [.ref a, .double x] ws) (vp_Sl (fun r => r = x.toInt64)) 0 0 (fun _ => False) := by
  refine Met.ofW (cc := cX1_of) (maxL := 3) (ret := (some .long)) (by decide) rfl ?_
  intro p e s m args below meth c s₁ B hml hv
  obtain ⟨rfl, hsz, hP, hK, hD, hE⟩ := hv
  have hx := B.exec
  have hb := B.bytes
  have hr := B.returns
  have hts := atoms_spec (ws := wsX1_of) B.pre
  have hown : s.vm.findClass RX1 = some m.cls := findClass_of_methodNamed B.named
  have hlocks := B.notSynchronized
  have hl := lv_entry ([.ref a, .double x]) (n := 3) (Nat.le_of_ble_eq_true rfl)
  rw [lg_entry_eq]
  generalize (lg_sl ([.ref a, .double x]) ++ List.replicate (3 - (lg_sl ([.ref a, .double x])).length) Slot.unset).toArray = ls at hl ⊢
  have hl : lv_has ls 3 [(0, .ref a), (1, .double x)] := hl
  subst hsz
  have hS : va_S A s.heap s.heap [] := va_S.rf
  refine lv_dload_n hx hb dX1_of_0 rfl (lv_at hl 1 rfl) ?_
  refine lv_dload_n hx hb dX1_of_1 rfl (lv_at hl 1 rfl) ?_
  refine lv_dcmp hx hb dX1_of_2 ?_
  refine lv_if_eq (tgt := 10) hx hb dX1_of_3 (by decide) (fun _ => ?_) (fun q => absurd ((tf_cl0 _).mpr (tf_dcmp_self x hz)) q)
  refine lv_dload_n hx hb dX1_of_10 rfl (lv_at hl 1 rfl) ?_
  refine lv_dconst0 hx hb dX1_of_11 ?_
  refine lv_dcmp hx hb dX1_of_12 ?_
  refine lv_if_ne (tgt := 32) hx hb dX1_of_13 (by decide) (fun c_2 => ?_) (fun c_2 => ?_)
  · refine lv_dload_n hx hb dX1_of_32 rfl (lv_at hl 1 rfl) ?_
    refine lv_dconst0 hx hb dX1_of_33 ?_
    refine lv_dcmp hx hb dX1_of_34 ?_
    refine lv_if_ge (tgt := 51) hx hb dX1_of_35 (by decide) (fun c_3 => ?_) (fun c_3 => ?_)
    · refine lv_aload_n hx hb dX1_of_51 rfl (lv_at hl 0 rfl) ?_
      refine lv_dload_n hx hb dX1_of_52 rfl (lv_at hl 1 rfl) ?_
      have g := tf_posx hz c_2 c_3
      refine vp_callSl (tc_CR (va_runV (As := [.double x]) (rest := []) ⟨hx, hb, hml, hown, hts⟩ (oX1_ofPositive l D A cI cJ cD cC ws p3 p4 a h s.heap.size e3 e4 x g.1 g.2) (cwV 1 hts gX1_of_X1_ofPositive rfl rfl rfl (by decide +kernel) ⟨Nat.le_of_ble_eq_true rfl, Nat.le_of_ble_eq_true rfl⟩) ⟨tcP.blind, (va_recv hK hP (ci := 1) (q0 := p3) rfl e3), (tcP.go hK hP hD hE hS)⟩ rfl rfl hl.1 rfl (lv_room (Nat.le_of_ble_eq_true rfl)) dX1_of_53 ⟨Nat.le_of_ble_eq_true rfl, Nat.le_of_ble_eq_true rfl⟩)) (fun r_4 hr_4 => ?_)
      subst hr_4
      exact W.lret (v := (x.toInt64)) hx hb hr (fun t9 ht9 hW9 => ⟨(x.toInt64), rfl, rfl, ht9⟩) (fun q hq => absurd hq List.not_mem_nil) dX1_of_56
    · refine lv_ldc2 (v := (-9223372036854775808)) hx hb hown (hts (.constantLong RX1 17 (-9223372036854775808)) (by decide +kernel)) dX1_of_38 ?_
      refine lv_aload_n hx hb dX1_of_41 rfl (lv_at hl 0 rfl) ?_
      refine lv_dload_n hx hb dX1_of_42 rfl (lv_at hl 1 rfl) ?_
      refine lv_dneg hx hb dX1_of_43 ?_
      have g := tf_negx hz c_2 c_3
      refine vp_callSl (tc_CR (va_runV (As := [.double (FP.dneg x)]) (rest := [.long (-9223372036854775808)]) ⟨hx, hb, hml, hown, hts⟩ (oX1_ofPositive l D A cI cJ cD cC ws p3 p4 a h s.heap.size e3 e4 (FP.dneg x) g.1 g.2.1) (cwV 1 hts gX1_of_X1_ofPositive rfl rfl rfl (by decide +kernel) ⟨Nat.le_of_ble_eq_true rfl, Nat.le_of_ble_eq_true rfl⟩) ⟨tcP.blind, (va_recv hK hP (ci := 1) (q0 := p3) rfl e3), (tcP.go hK hP hD hE hS)⟩ rfl rfl hl.1 rfl (lv_room (Nat.le_of_ble_eq_true rfl)) dX1_of_44 ⟨Nat.le_of_ble_eq_true rfl, Nat.le_of_ble_eq_true rfl⟩)) (fun r_5 hr_5 => ?_)
      subst hr_5
      refine lv_lor hx hb dX1_of_47 ?_
      refine lv_goto (tgt := 56) hx hb dX1_of_48 (by decide) ?_
      exact W.lret (v := ((-9223372036854775808) ||| ((FP.dneg x).toInt64))) hx hb hr (fun t9 ht9 hW9 => ⟨((-9223372036854775808) ||| ((FP.dneg x).toInt64)), rfl, g.2.2, ht9⟩) (fun q hq => absurd hq List.not_mem_nil) dX1_of_56
  · refine lv_dconst1 hx hb dX1_of_16 ?_
    refine lv_dload_n hx hb dX1_of_17 rfl (lv_at hl 1 rfl) ?_
    refine lv_ddiv hx hb dX1_of_18 (tf_inv0 (tf_eq0 c_2)) ?_
    refine lv_dconst0 hx hb dX1_of_19 ?_
    refine lv_dcmp hx hb dX1_of_20 ?_
    refine lv_if_ge (tgt := 30) hx hb dX1_of_21 (by decide) (fun c_6 => ?_) (fun c_6 => ?_)
    · refine lv_lconst (v := 0) hx hb dX1_of_30 (by decide) ?_
      exact W.lret (v := 0) hx hb hr (fun t9 ht9 hW9 => ⟨0, rfl, tf_zerop c_2 c_6, ht9⟩) (fun q hq => absurd hq List.not_mem_nil) dX1_of_31
    · refine lv_ldc2 (v := (-9223372036854775808)) hx hb hown (hts (.constantLong RX1 17 (-9223372036854775808)) (by decide +kernel)) dX1_of_24 ?_
      refine lv_goto (tgt := 31) hx hb dX1_of_27 (by decide) ?_
      exact W.lret (v := (-9223372036854775808)) hx hb hr (fun t9 ht9 hW9 => ⟨(-9223372036854775808), rfl, tf_zeron c_2 c_6, ht9⟩) (fun q hq => absurd hq List.not_mem_nil) dX1_of_31
