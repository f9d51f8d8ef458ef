/-! THE CONSTRUCTORS OF THE STORE -/
def tf_pw (i : Nat) : UInt64 := if i < 10 then tf_N (1023 + 2 ^ i) 0 else 9218868437227405312
theorem tf_pw_s : ∀ i, i < 10 → FP.dmul (tf_pw i) (tf_pw i) = tf_pw (i + 1) ∧ FP.Core.dIsNaN (tf_pw (i + 1)) = false := by decide +kernel
theorem tf_pw_in {i : Nat} (h : i < 10) : tf_pw i = tf_N (1023 + 2 ^ i) 0 := if_pos h
theorem tf_pw_0 : tf_pw 0 = 4611686018427387904 := by decide +kernel
theorem tf_mix_s (i : Nat) (hi : i < 10) : vf_upd (tc_mix (fun j => tf_N (1023 + 2 ^ j) 0) (fun _ => 0) i) i (tf_pw i) = tc_mix (fun j => tf_N (1023 + 2 ^ j) 0) (fun _ => 0) (i + 1) := by
  rw [tf_pw_in hi]; exact tc_mix_s _ _ i
set_option maxHeartbeats 4000000 in
set_option maxRecDepth 100000 in
theorem oX1_init (l : Launch) (D : va_G) (A : Nat → Prop) (cI cJ cD cC : ClassId) (ws : va_W) (p0 a sz : Nat) (e0 : ws[p0]? = some (a, .inr (1, [.null]))) (hA : ∀ q, sz ≤ q → A q) : Met l yX1_init wsX1_init ({ frames := 1, cells := 1, slots := 10, locals := 12 }) (tcP D A (tcTY cI cJ cD cC) sz [.ref a] ws) (va_Qv (fun _ : Nat => True) (fun u t => tcB D A ((ws.set p0 (a, .inr (1, [.ref u]))) ++ ([(u, .inl (cD, 10, .inr (.inr (.inr (.inl (tc_mix (fun j => tf_N (1023 + 2 ^ j) 0) (fun _ => 0) 10))))))] : va_W)) t) A) 1 10 A := by
  refine Met.ofW (cc := cX1_init) (maxL := 4) (ret := none) (by decide) rfl ?_
  intro p e s m args below meth c s₁ B hml hv
  obtain ⟨rfl, hsz, hP, hK, hD, hE⟩ := hv
  have hx := B.exec
  have hb := B.bytes
  have hr := B.returns
  have hts := atoms_spec (ws := wsX1_init) B.pre
  have hown : s.vm.findClass RX1 = some m.cls := findClass_of_methodNamed B.named
  have hlocks := B.notSynchronized
  have hl := lv_entry ([.ref a]) (n := 4) (Nat.le_of_ble_eq_true rfl)
  rw [lg_entry_eq]
  generalize (lg_sl ([.ref a]) ++ List.replicate (4 - (lg_sl ([.ref a])).length) Slot.unset).toArray = ls at hl ⊢
  have hl : lv_has ls 4 [(0, .ref a)] := hl
  subst hsz
  have hS : va_S A s.heap s.heap [] := va_S.rf
  have hin : meth.name = "<init>" := (name_of_methodNamed B.named B.method).1
  refine lv_aload_n hx hb dX1_init_0 rfl (lv_at hl 0 rfl) ?_
  refine W.objInit hx hb hown (hts (.methodLink RX1 1 objectInit) (by decide +kernel)) (hts (.instanceMethod objectInit) (by decide +kernel)) (hts _ (List.mem_cons_of_mem _ (List.mem_append_left _ (List.mem_of_getElem? (i := 2) rfl)))) rfl (by rw [hml]; exact hl.1) rfl dX1_init_1 (Nat.le_of_ble_eq_true rfl) (Nat.le_of_ble_eq_true rfl) ?_
  refine W.eq (g2 := F0 m 4 ls []) rfl ?_
  refine lv_aload_n hx hb dX1_init_4 rfl (lv_at hl 0 rfl) ?_
  refine lv_bipush (v := 10) hx hb dX1_init_5 (by decide) ?_
  refine va_newa (atype := .double) (ty := .double) (N' := 10) (a0 := (10, .inr (.inr (.inr (.inl (fun _ => 0)))))) hx hb (hts (.arrayClass .double) (by decide +kernel)) rfl hK hP hD hS hA (fun _ => rfl) (by decide) (rfl) (Nat.le_of_ble_eq_true rfl) (Nat.le_of_ble_eq_true rfl) (Nat.le_of_ble_eq_true rfl) dX1_init_7 (fun q_1 cA_2 H hK1 hP hD hS => ?_)
  have hcA_2 : cD = cA_2 := tc_uniq hK1 (i := 2) (j := 4) rfl rfl
  subst hcA_2
  clear hK1
  have hP : va_P D vwCl (ws ++ ([(q_1, .inl (cD, 10, .inr (.inr (.inr (.inl (fun _ => 0))))))] : va_W)) H := hP
  have hD : va_D A (ws ++ ([(q_1, .inl (cD, 10, .inr (.inr (.inr (.inl (fun _ => 0))))))] : va_W)) := hD
  refine va_putF (D := D) (ci := 1) (fs := [.null]) (v := .ref q_1) (ty := .array .double) (C := RX1) (T := TX1) (N := 1) hx hb hts (by decide +kernel) tyX1 tyX1_ok nmX1 hown hK hP hD hS p0 (tc_app_l e0) rfl 0 (by decide) (hts (.fieldLink RX1 9 "TypedColumns$DoubleBits" "powers" "[D") (by decide +kernel)) (fun _ h9 => h9) rfl hin rfl (by decide +kernel) rfl rfl (Nat.le_of_ble_eq_true rfl) dX1_init_9 (fun H locs hP hD hS => ?_)
  rw [tc_app_set (e0)] at hP hD
  have hP : va_P D vwCl ((ws.set p0 (a, .inr (1, [.ref q_1]))) ++ ([(q_1, .inl (cD, 10, .inr (.inr (.inr (.inl (fun _ => 0))))))] : va_W)) H := hP
  have hD : va_D A ((ws.set p0 (a, .inr (1, [.ref q_1]))) ++ ([(q_1, .inl (cD, 10, .inr (.inr (.inr (.inl (fun _ => 0))))))] : va_W)) := hD
  refine lv_ldc2d (v := 4611686018427387904) hx hb hown (hts (.constantDouble RX1 13 (4611686018427387904)) (by decide +kernel)) dX1_init_12 ?_
  refine lv_dstore_n (lv' := [(1, .double 4611686018427387904), (0, .ref a)]) hx hb dX1_init_15 rfl hl (by decide) rfl (fun ls hl => ?_)
  refine lv_iconst (v := 0) hx hb dX1_init_16 (by decide) ?_
  refine lv_istore_n (lv' := [(3, .int 0), (1, .double 4611686018427387904), (0, .ref a)]) hx hb dX1_init_17 rfl hl (by decide) rfl (fun ls hl => ?_)
  have hP : va_P D vwCl ((ws.set p0 (a, .inr (1, [.ref q_1]))) ++ ([(q_1, .inl (cD, 10, .inr (.inr (.inr (.inl (tc_mix (fun j => tf_N (1023 + 2 ^ j) 0) (fun _ => 0) 0))))))] : va_W)) H := by rw [tc_mix_0]; exact hP
  have hD : va_D A ((ws.set p0 (a, .inr (1, [.ref q_1]))) ++ ([(q_1, .inl (cD, 10, .inr (.inr (.inr (.inl (tc_mix (fun j => tf_N (1023 + 2 ^ j) 0) (fun _ => 0) 0))))))] : va_W)) := by rw [tc_mix_0]; exact hD
  have hl0 : lv_has ls 4 [(3, .int (nI 0)), (1, .double (tf_pw 0)), (0, .ref a)] := by rw [tf_pw_0]; exact lv_sub hl [0, 1, 2] rfl
  refine tc_loop (fun k9 H locs ls => ∃ i : Nat, i + k9 = 10 ∧ va_P D vwCl ((ws.set p0 (a, .inr (1, [.ref q_1]))) ++ ([(q_1, .inl (cD, 10, .inr (.inr (.inr (.inl (tc_mix (fun j => tf_N (1023 + 2 ^ j) 0) (fun _ => 0) i))))))] : va_W)) H ∧ va_D A ((ws.set p0 (a, .inr (1, [.ref q_1]))) ++ ([(q_1, .inl (cD, 10, .inr (.inr (.inr (.inl (tc_mix (fun j => tf_N (1023 + 2 ^ j) 0) (fun _ => 0) i))))))] : va_W)) ∧ va_S A s.heap H locs ∧ lv_has ls 4 [(3, .int (nI i)), (1, .double (tf_pw i)), (0, .ref a)]) (fun k9 H locs ls hi9 ih => ?_) (fun H locs ls hi9 => ?_) 10 ⟨0, by omega, hP, hD, hS, hl0⟩
  · obtain ⟨i, hik, hP, hD, hS, hl⟩ := hi9
    have hiN : i < 10 := by omega
    have ep := tc_app_l (v := ([(q_1, .inl (cD, 10, .inr (.inr (.inr (.inl (tc_mix (fun j => tf_N (1023 + 2 ^ j) 0) (fun _ => 0) i))))))] : va_W)) (tc_set_self (y := (a, .inr (1, [.ref q_1]))) e0)
    have ea : ((ws.set p0 (a, .inr (1, [.ref q_1]))) ++ ([(q_1, .inl (cD, 10, .inr (.inr (.inr (.inl (tc_mix (fun j => tf_N (1023 + 2 ^ j) 0) (fun _ => 0) i))))))] : va_W))[(ws.set p0 (a, .inr (1, [.ref q_1]))).length]? = some (q_1, .inl (cD, 10, .inr (.inr (.inr (.inl (tc_mix (fun j => tf_N (1023 + 2 ^ j) 0) (fun _ => 0) i)))))) := tc_app_last
    refine lv_iload_n hx hb dX1_init_18 rfl (lv_at hl 0 rfl) ?_
    refine lv_aload_n hx hb dX1_init_19 rfl (lv_at hl 2 rfl) ?_
    refine va_get (D := D) (ci := 1) (fs := [.ref q_1]) (v := .ref q_1) (C := RX1) (T := TX1) (N := 1) hx hb hts (by decide +kernel) hown hK hP p0 ep rfl 0 (by decide) (hts (.fieldLink RX1 9 "TypedColumns$DoubleBits" "powers" "[D") (by decide +kernel)) (fun _ h9 => h9) rfl dX1_init_20 ?_
    refine va_alen (v := 10) hx hb hK hP ((ws.set p0 (a, .inr (1, [.ref q_1]))).length) 2 ea rfl rfl dX1_init_23 ?_
    refine lv_icmp_ge (tgt := 44) hx hb dX1_init_24 (by decide) (fun q => absurd q (nI_ge hiN (by decide))) (fun _ => ?_)
    refine lv_aload_n hx hb dX1_init_27 rfl (lv_at hl 2 rfl) ?_
    refine va_get (D := D) (ci := 1) (fs := [.ref q_1]) (v := .ref q_1) (C := RX1) (T := TX1) (N := 1) hx hb hts (by decide +kernel) hown hK hP p0 ep rfl 0 (by decide) (hts (.fieldLink RX1 9 "TypedColumns$DoubleBits" "powers" "[D") (by decide +kernel)) (fun _ h9 => h9) rfl dX1_init_28 ?_
    refine lv_iload_n hx hb dX1_init_31 rfl (lv_at hl 0 rfl) ?_
    refine lv_dload_n hx hb dX1_init_32 rfl (lv_at hl 1 rfl) ?_
    refine va_dast (f := (tc_mix (fun j => tf_N (1023 + 2 ^ j) 0) (fun _ => 0) i)) hx hb hK hP hD hS ((ws.set p0 (a, .inr (1, [.ref q_1]))).length) 2 ea rfl (vp_in_nI hiN (by decide)) dX1_init_33 (fun H locs hP hD hS => ?_)
    rw [tc_app_last_set, nI_clamp (n := i) (by omega), tf_mix_s i hiN] at hP hD
    refine lv_dload_n hx hb dX1_init_34 rfl (lv_at hl 1 rfl) ?_
    refine lv_dload_n hx hb dX1_init_35 rfl (lv_at hl 1 rfl) ?_
    refine lv_dmul hx hb dX1_init_36 ((tf_n64 _).mpr (by rw [(tf_pw_s i hiN).1]; exact (tf_pw_s i hiN).2)) ?_
    refine lv_dstore_n (lv' := [(1, .double (FP.dmul (tf_pw i) (tf_pw i))), (3, .int (nI i)), (0, .ref a)]) hx hb dX1_init_37 rfl hl (by decide) rfl (fun ls hl => ?_)
    obtain ⟨x_4, ex_4⟩ : ∃ y : Int32, y = (nI i) + (1) := ⟨_, rfl⟩
    refine lv_iinc (v := x_4) (lv' := [(3, .int x_4), (1, .double (FP.dmul (tf_pw i) (tf_pw i))), (0, .ref a)]) hx hb dX1_init_38 hl (k := 1) rfl (by rw [ex_4]; rfl) (by decide) rfl (fun ls hl => ?_)
    refine lv_goto (tgt := 18) hx hb dX1_init_41 (by decide) ?_
    subst ex_4
    rw [(tf_pw_s i hiN).1] at hl
    exact ih _ _ _ ⟨i + 1, by omega, hP, hD, hS, by rw [nI_succ]; exact lv_sub hl [0, 1, 2] rfl⟩
  · obtain ⟨i, hik, hP, hD, hS, hl⟩ := hi9
    have hiN : i = 10 := by omega
    rw [hiN] at hl
    rw [hiN] at hP hD
    have ep := tc_app_l (v := ([(q_1, .inl (cD, 10, .inr (.inr (.inr (.inl (tc_mix (fun j => tf_N (1023 + 2 ^ j) 0) (fun _ => 0) 10))))))] : va_W)) (tc_set_self (y := (a, .inr (1, [.ref q_1]))) e0)
    have ea : ((ws.set p0 (a, .inr (1, [.ref q_1]))) ++ ([(q_1, .inl (cD, 10, .inr (.inr (.inr (.inl (tc_mix (fun j => tf_N (1023 + 2 ^ j) 0) (fun _ => 0) 10))))))] : va_W))[(ws.set p0 (a, .inr (1, [.ref q_1]))).length]? = some (q_1, .inl (cD, 10, .inr (.inr (.inr (.inl (tc_mix (fun j => tf_N (1023 + 2 ^ j) 0) (fun _ => 0) 10)))))) := tc_app_last
    refine lv_iload_n hx hb dX1_init_18 rfl (lv_at hl 0 rfl) ?_
    refine lv_aload_n hx hb dX1_init_19 rfl (lv_at hl 2 rfl) ?_
    refine va_get (D := D) (ci := 1) (fs := [.ref q_1]) (v := .ref q_1) (C := RX1) (T := TX1) (N := 1) hx hb hts (by decide +kernel) hown hK hP p0 ep rfl 0 (by decide) (hts (.fieldLink RX1 9 "TypedColumns$DoubleBits" "powers" "[D") (by decide +kernel)) (fun _ h9 => h9) rfl dX1_init_20 ?_
    refine va_alen (v := 10) hx hb hK hP ((ws.set p0 (a, .inr (1, [.ref q_1]))).length) 2 ea rfl rfl dX1_init_23 ?_
    refine lv_icmp_ge (tgt := 44) hx hb dX1_init_24 (by decide) (fun _ => ?_) (fun q => absurd (nI_le (Nat.le_refl 10) (by decide)) q)
    exact W.vret hx hb hr (fun t9 ht9 hW9 => ⟨⟨q_1, rfl, trivial, by rw [ht9]; exact hP, hD⟩, hS.F ht9⟩) hS.2.2 dX1_init_44
def tcPA (D : va_G) (A : Nat → Prop) (tys : List (ClassId × FieldType)) (sz : Nat) (av : List Value) (ws : va_W) : Array Value → State → Prop := va_Pc av (fun U => (U.heap.size = sz ∧ va_P D vwCl ws U.heap ∧ va_K D vwCl tys U ∧ va_D A ws ∧ tc_E A U) ∧ va_AO "TypedColumns$Column" U)
theorem tcPA.blind {D : va_G} {A : Nat → Prop} {tys : List (ClassId × FieldType)} {sz : Nat} {av : List Value} {ws : va_W} : FrameBlind (tcPA D A tys sz av ws) := fun a U g mk q => ⟨q.1, ⟨q.2.1.1, q.2.1.2.1, va_K.moved (u := U) (U := U.calling g mk a) (Vm.Alike.refl U.vm) q.2.1.2.2.1, q.2.1.2.2.2.1, q.2.1.2.2.2.2.blind g mk a⟩, va_AO.moved (u := U) (U := U.calling g mk a) (Vm.Alike.refl U.vm) q.2.2⟩
theorem tcPA.go {D : va_G} {A : Nat → Prop} {tys : List (ClassId × FieldType)} {av : List Value} {ws : va_W} {s : State} {H : Heap} {locs : List Loc} (hK : va_K D vwCl tys s) (hP : va_P D vwCl ws H) (hD : va_D A ws) (hE : tc_E A s) (hAO : va_AO "TypedColumns$Column" s) (hS : va_S A s.heap H locs) : ∀ U : State, U.heap = H → s.WarmedH U.vm → tcPA D A tys H.size av ws av.toArray U :=
  fun U hU hW => ⟨rfl, ⟨by rw [hU], by rw [hU]; exact hP, va_K.moved hW.alike hK, hD, hE.go hS hU hW⟩, va_AO.moved hW.alike hAO⟩
set_option maxHeartbeats 4000000 in
set_option maxRecDepth 100000 in
theorem oX2_init (l : Launch) (D : va_G) (A : Nat → Prop) (cI cJ cD cC : ClassId) (ws : va_W) (p0 a sz : Nat) (e0 : ws[p0]? = some (a, .inr (2, [.null, .null, .null, .int 0, .int 0]))) (hA : ∀ q, sz ≤ q → A q) : Met l yX2_init wsX2_init ({ frames := 2, cells := 4, slots := 77, locals := 35 }) (tcPA D A (tcTY cI cJ cD cC) sz [.ref a] ws) (va_Qv (fun _ : Nat × Nat × Nat × Nat => True) (fun u t => tcB D A (ws.set p0 (a, .inr (2, [.ref u.1, .ref u.2.1, .ref u.2.2.1, .int 0, .int 0])) ++ ([(u.1, .inl (cC, 60, .inr (.inr (.inr (.inr (fun _ => none)))))), (u.2.1, .inl (cI, 6, .inl (fun _ => 0))), (u.2.2.1, .inr (1, [.ref u.2.2.2])), (u.2.2.2, .inl (cD, 10, .inr (.inr (.inr (.inl (tc_mix (fun j => tf_N (1023 + 2 ^ j) 0) (fun _ => 0) 10))))))] : va_W)) t) A) 4 77 A := by
  refine Met.ofW (cc := cX2_init) (maxL := 1) (ret := none) (by decide) rfl ?_
  intro p e s m args below meth c s₁ B hml hv
  obtain ⟨rfl, ⟨hsz, hP, hK, hD, hE⟩, hAO⟩ := hv
  have hx := B.exec
  have hb := B.bytes
  have hr := B.returns
  have hts := atoms_spec (ws := wsX2_init) B.pre
  have hown : s.vm.findClass RX2 = some m.cls := findClass_of_methodNamed B.named
  have hlocks := B.notSynchronized
  have hl := lv_entry ([.ref a]) (n := 1) (Nat.le_of_ble_eq_true rfl)
  rw [lg_entry_eq]
  generalize (lg_sl ([.ref a]) ++ List.replicate (1 - (lg_sl ([.ref a])).length) Slot.unset).toArray = ls at hl ⊢
  have hl : lv_has ls 1 [(0, .ref a)] := hl
  subst hsz
  have hS : va_S A s.heap s.heap [] := va_S.rf
  have hin : meth.name = "<init>" := (name_of_methodNamed B.named B.method).1
  refine lv_aload_n hx hb dX2_init_0 rfl (lv_at hl 0 rfl) ?_
  refine W.objInit hx hb hown (hts (.methodLink RX2 1 objectInit) (by decide +kernel)) (hts (.instanceMethod objectInit) (by decide +kernel)) (hts _ (List.mem_cons_of_mem _ (List.mem_append_left _ (List.mem_append_left _ (List.mem_of_getElem? (i := 2) rfl))))) rfl (by rw [hml]; exact hl.1) rfl dX2_init_1 (Nat.le_of_ble_eq_true rfl) (Nat.le_of_ble_eq_true rfl) ?_
  refine W.eq (g2 := F0 m 4 ls []) rfl ?_
  refine lv_aload_n hx hb dX2_init_4 rfl (lv_at hl 0 rfl) ?_
  refine lv_bipush (v := 60) hx hb dX2_init_5 (by decide) ?_
  refine va_newq (N' := 60) hx hb hown (hts (.classLink RX2 9 RX0) (by decide +kernel)) hAO hK hP hD hS hA (by decide) rfl (Nat.le_of_ble_eq_true rfl) (Nat.le_of_ble_eq_true rfl) (Nat.le_of_ble_eq_true rfl) dX2_init_7 (fun q_1 cA_2 H hK1 hP hD hS => ?_)
  have hcA_2 : cC = cA_2 := tc_uniq hK1 (i := 3) (j := 4) rfl rfl
  subst hcA_2
  clear hK1
  have hP : va_P D vwCl (ws ++ ([(q_1, .inl (cC, 60, .inr (.inr (.inr (.inr (fun _ => none))))))] : va_W)) H := hP
  have hD : va_D A (ws ++ ([(q_1, .inl (cC, 60, .inr (.inr (.inr (.inr (fun _ => none))))))] : va_W)) := hD
  refine va_putF (D := D) (ci := 2) (fs := [.null, .null, .null, .int 0, .int 0]) (v := .ref q_1) (ty := .array (.object "TypedColumns$Column")) (C := RX2) (T := TX2) (N := 5) hx hb hts (by decide +kernel) tyX2 tyX2_ok nmX2 hown hK hP hD hS p0 (tc_app_l e0) rfl 0 (by decide) (hts (.fieldLink RX2 11 "TypedColumns" "columns" "[LTypedColumns$Column;") (by decide +kernel)) (fun _ h9 => h9) rfl hin rfl (by decide +kernel) rfl rfl (Nat.le_of_ble_eq_true rfl) dX2_init_10 (fun H locs hP hD hS => ?_)
  rw [tc_app_set (e0)] at hP hD
  have hP : va_P D vwCl ((ws.set p0 (a, .inr (2, [.ref q_1, .null, .null, .int 0, .int 0]))) ++ ([(q_1, .inl (cC, 60, .inr (.inr (.inr (.inr (fun _ => none))))))] : va_W)) H := hP
  have hD : va_D A ((ws.set p0 (a, .inr (2, [.ref q_1, .null, .null, .int 0, .int 0]))) ++ ([(q_1, .inl (cC, 60, .inr (.inr (.inr (.inr (fun _ => none))))))] : va_W)) := hD
  refine lv_aload_n hx hb dX2_init_13 rfl (lv_at hl 0 rfl) ?_
  refine lv_bipush (v := 6) hx hb dX2_init_14 (by decide) ?_
  refine va_newa (atype := .int) (ty := .int) (N' := 6) (a0 := (6, .inl (fun _ => 0))) hx hb (hts (.arrayClass .int) (by decide +kernel)) rfl hK hP hD hS hA (fun _ => rfl) (by decide) (rfl) (Nat.le_of_ble_eq_true rfl) (Nat.le_of_ble_eq_true rfl) (Nat.le_of_ble_eq_true rfl) dX2_init_16 (fun q_3 cA_4 H hK1 hP hD hS => ?_)
  have hcA_4 : cI = cA_4 := tc_uniq hK1 (i := 0) (j := 4) rfl rfl
  subst hcA_4
  clear hK1
  have hP : va_P D vwCl (((ws.set p0 (a, .inr (2, [.ref q_1, .null, .null, .int 0, .int 0]))) ++ ([(q_1, .inl (cC, 60, .inr (.inr (.inr (.inr (fun _ => none))))))] : va_W)) ++ ([(q_3, .inl (cI, 6, .inl (fun _ => 0)))] : va_W)) H := hP
  have hD : va_D A (((ws.set p0 (a, .inr (2, [.ref q_1, .null, .null, .int 0, .int 0]))) ++ ([(q_1, .inl (cC, 60, .inr (.inr (.inr (.inr (fun _ => none))))))] : va_W)) ++ ([(q_3, .inl (cI, 6, .inl (fun _ => 0)))] : va_W)) := hD
  refine va_putF (D := D) (ci := 2) (fs := [.ref q_1, .null, .null, .int 0, .int 0]) (v := .ref q_3) (ty := .array .int) (C := RX2) (T := TX2) (N := 5) hx hb hts (by decide +kernel) tyX2 tyX2_ok nmX2 hown hK hP hD hS p0 (tc_app_l (tc_app_l (tc_set_self e0))) rfl 1 (by decide) (hts (.fieldLink RX2 15 "TypedColumns" "counts" "[I") (by decide +kernel)) (fun _ h9 => h9) rfl hin rfl (by decide +kernel) rfl rfl (Nat.le_of_ble_eq_true rfl) dX2_init_18 (fun H locs hP hD hS => ?_)
  rw [tc_app_set (tc_app_l (tc_set_self e0)), tc_app_set (tc_set_self e0), List.set_set] at hP hD
  have hP : va_P D vwCl (((ws.set p0 (a, .inr (2, [.ref q_1, .ref q_3, .null, .int 0, .int 0]))) ++ ([(q_1, .inl (cC, 60, .inr (.inr (.inr (.inr (fun _ => none))))))] : va_W)) ++ ([(q_3, .inl (cI, 6, .inl (fun _ => 0)))] : va_W)) H := hP
  have hD : va_D A (((ws.set p0 (a, .inr (2, [.ref q_1, .ref q_3, .null, .int 0, .int 0]))) ++ ([(q_1, .inl (cC, 60, .inr (.inr (.inr (.inr (fun _ => none))))))] : va_W)) ++ ([(q_3, .inl (cI, 6, .inl (fun _ => 0)))] : va_W)) := hD
  refine lv_aload_n hx hb dX2_init_21 rfl (lv_at hl 0 rfl) ?_
  refine va_new (ci := 1) (fs := [.null]) (C := RX1) (T := TX1) (N := 1) hx hb hts (by decide +kernel) tyX1 tyX1_ok hown (hts (.classLink RX2 19 RX1) (by decide +kernel)) (hts (.instantiable RX1 1) (by decide +kernel)) (hts (.initialized RX1) (by decide +kernel)) hK hP hD hS hA rfl (fun j hj => by rcases (show j = 0 by omega) with rfl <;> rfl) (Nat.le_of_ble_eq_true rfl) (Nat.le_of_ble_eq_true rfl) dX2_init_22 (fun q_5 H hP hD hS => ?_)
  have hP : va_P D vwCl ((((ws.set p0 (a, .inr (2, [.ref q_1, .ref q_3, .null, .int 0, .int 0]))) ++ ([(q_1, .inl (cC, 60, .inr (.inr (.inr (.inr (fun _ => none))))))] : va_W)) ++ ([(q_3, .inl (cI, 6, .inl (fun _ => 0)))] : va_W)) ++ ([(q_5, .inr (1, [.null]))] : va_W)) H := hP
  have hD : va_D A ((((ws.set p0 (a, .inr (2, [.ref q_1, .ref q_3, .null, .int 0, .int 0]))) ++ ([(q_1, .inl (cC, 60, .inr (.inr (.inr (.inr (fun _ => none))))))] : va_W)) ++ ([(q_3, .inl (cI, 6, .inl (fun _ => 0)))] : va_W)) ++ ([(q_5, .inr (1, [.null]))] : va_W)) := hD
  refine lv_dup hx hb dX2_init_25 rfl ?_
  refine va_callv (va_runI (As := []) (rest := [.ref q_5, .ref a]) ⟨hx, hb, hml, hown, hts⟩ (oX1_init l D A cI cJ cD cC ((((ws.set p0 (a, .inr (2, [.ref q_1, .ref q_3, .null, .int 0, .int 0]))) ++ ([(q_1, .inl (cC, 60, .inr (.inr (.inr (.inr (fun _ => none))))))] : va_W)) ++ ([(q_3, .inl (cI, 6, .inl (fun _ => 0)))] : va_W)) ++ ([(q_5, .inr (1, [.null]))] : va_W)) ((((ws.set p0 (a, .inr (2, [.ref q_1, .ref q_3, .null, .int 0, .int 0]))) ++ ([(q_1, .inl (cC, 60, .inr (.inr (.inr (.inr (fun _ => none))))))] : va_W)) ++ ([(q_3, .inl (cI, 6, .inl (fun _ => 0)))] : va_W))).length q_5 H.size tc_app_last (fun q h => hA q (Nat.le_trans hS.1 h))) (cwI 0 hts gX2_init_X1_init rfl rfl rfl (hts (.initialized RX1) (by decide +kernel)) (hts (.methodLink RX2 21 yX1_init) (by decide +kernel)) (hts (.instanceMethod yX1_init) (by decide +kernel)) rfl (by decide +kernel) ⟨Nat.le_of_ble_eq_true rfl, Nat.le_of_ble_eq_true rfl⟩) ⟨tcP.blind, (tcP.go hK hP hD hE hS)⟩ rfl rfl hl.1 rfl (lv_room (Nat.le_of_ble_eq_true rfl)) dX2_init_26 ⟨Nat.le_of_ble_eq_true rfl, Nat.le_of_ble_eq_true rfl⟩) hS (fun q _ h => h) (fun q h => h) (fun u t H locs ht hvm hw hB hz1 hk1 hS => ?_)
  obtain ⟨hP, hD⟩ := hB
  rw [ht] at hP
  rw [tc_app_last_set] at hP hD
  have hP : va_P D vwCl (((((ws.set p0 (a, .inr (2, [.ref q_1, .ref q_3, .null, .int 0, .int 0]))) ++ ([(q_1, .inl (cC, 60, .inr (.inr (.inr (.inr (fun _ => none))))))] : va_W)) ++ ([(q_3, .inl (cI, 6, .inl (fun _ => 0)))] : va_W)) ++ ([(q_5, .inr (1, [.ref u]))] : va_W)) ++ ([(u, .inl (cD, 10, .inr (.inr (.inr (.inl (tc_mix (fun j => tf_N (1023 + 2 ^ j) 0) (fun _ => 0) 10))))))] : va_W)) H := hP
  have hD : va_D A (((((ws.set p0 (a, .inr (2, [.ref q_1, .ref q_3, .null, .int 0, .int 0]))) ++ ([(q_1, .inl (cC, 60, .inr (.inr (.inr (.inr (fun _ => none))))))] : va_W)) ++ ([(q_3, .inl (cI, 6, .inl (fun _ => 0)))] : va_W)) ++ ([(q_5, .inr (1, [.ref u]))] : va_W)) ++ ([(u, .inl (cD, 10, .inr (.inr (.inr (.inl (tc_mix (fun j => tf_N (1023 + 2 ^ j) 0) (fun _ => 0) 10))))))] : va_W)) := hD
  refine va_putF (D := D) (ci := 2) (fs := [.ref q_1, .ref q_3, .null, .int 0, .int 0]) (v := .ref q_5) (ty := .object "TypedColumns$DoubleBits") (C := RX2) (T := TX2) (N := 5) hx hb hts (by decide +kernel) tyX2 tyX2_ok nmX2 hown hK hP hD hS p0 (tc_app_l (tc_app_l (tc_app_l (tc_app_l (tc_set_self e0))))) rfl 2 (by decide) (hts (.fieldLink RX2 22 "TypedColumns" "doubleBits" "LTypedColumns$DoubleBits;") (by decide +kernel)) (fun _ h9 => h9) rfl hin rfl (by decide +kernel) rfl rfl (Nat.le_of_ble_eq_true rfl) dX2_init_29 (fun H locs hP hD hS => ?_)
  rw [tc_app_set (tc_app_l (tc_app_l (tc_app_l (tc_set_self e0)))), tc_app_set (tc_app_l (tc_app_l (tc_set_self e0))), tc_app_set (tc_app_l (tc_set_self e0)), tc_app_set (tc_set_self e0), List.set_set] at hP hD
  have hP : va_P D vwCl (((((ws.set p0 (a, .inr (2, [.ref q_1, .ref q_3, .ref q_5, .int 0, .int 0]))) ++ ([(q_1, .inl (cC, 60, .inr (.inr (.inr (.inr (fun _ => none))))))] : va_W)) ++ ([(q_3, .inl (cI, 6, .inl (fun _ => 0)))] : va_W)) ++ ([(q_5, .inr (1, [.ref u]))] : va_W)) ++ ([(u, .inl (cD, 10, .inr (.inr (.inr (.inl (tc_mix (fun j => tf_N (1023 + 2 ^ j) 0) (fun _ => 0) 10))))))] : va_W)) H := hP
  have hD : va_D A (((((ws.set p0 (a, .inr (2, [.ref q_1, .ref q_3, .ref q_5, .int 0, .int 0]))) ++ ([(q_1, .inl (cC, 60, .inr (.inr (.inr (.inr (fun _ => none))))))] : va_W)) ++ ([(q_3, .inl (cI, 6, .inl (fun _ => 0)))] : va_W)) ++ ([(q_5, .inr (1, [.ref u]))] : va_W)) ++ ([(u, .inl (cD, 10, .inr (.inr (.inr (.inl (tc_mix (fun j => tf_N (1023 + 2 ^ j) 0) (fun _ => 0) 10))))))] : va_W)) := hD
  refine lv_aload_n hx hb dX2_init_32 rfl (lv_at hl 0 rfl) ?_
  refine lv_iconst (v := 0) hx hb dX2_init_33 (by decide) ?_
  refine va_put (D := D) (ci := 2) (fs := [.ref q_1, .ref q_3, .ref q_5, .int 0, .int 0]) (v := .int 0) (ty := .int) (C := RX2) (T := TX2) (N := 5) hx hb hts (by decide +kernel) tyX2 tyX2_ok nmX2 hown hK hP hD hS p0 (tc_app_l (tc_app_l (tc_app_l (tc_app_l (tc_set_self e0))))) rfl 3 (by decide) (hts (.fieldLink RX2 26 "TypedColumns" "created" "I") (by decide +kernel)) (fun _ h9 => h9) rfl (by decide +kernel) rfl rfl (Nat.le_of_ble_eq_true rfl) dX2_init_34 (fun H locs hP hD hS => ?_)
  rw [tc_app_set (tc_app_l (tc_app_l (tc_app_l (tc_set_self e0)))), tc_app_set (tc_app_l (tc_app_l (tc_set_self e0))), tc_app_set (tc_app_l (tc_set_self e0)), tc_app_set (tc_set_self e0), List.set_set] at hP hD
  have hP : va_P D vwCl (((((ws.set p0 (a, .inr (2, [.ref q_1, .ref q_3, .ref q_5, .int 0, .int 0]))) ++ ([(q_1, .inl (cC, 60, .inr (.inr (.inr (.inr (fun _ => none))))))] : va_W)) ++ ([(q_3, .inl (cI, 6, .inl (fun _ => 0)))] : va_W)) ++ ([(q_5, .inr (1, [.ref u]))] : va_W)) ++ ([(u, .inl (cD, 10, .inr (.inr (.inr (.inl (tc_mix (fun j => tf_N (1023 + 2 ^ j) 0) (fun _ => 0) 10))))))] : va_W)) H := hP
  have hD : va_D A (((((ws.set p0 (a, .inr (2, [.ref q_1, .ref q_3, .ref q_5, .int 0, .int 0]))) ++ ([(q_1, .inl (cC, 60, .inr (.inr (.inr (.inr (fun _ => none))))))] : va_W)) ++ ([(q_3, .inl (cI, 6, .inl (fun _ => 0)))] : va_W)) ++ ([(q_5, .inr (1, [.ref u]))] : va_W)) ++ ([(u, .inl (cD, 10, .inr (.inr (.inr (.inl (tc_mix (fun j => tf_N (1023 + 2 ^ j) 0) (fun _ => 0) 10))))))] : va_W)) := hD
  refine lv_aload_n hx hb dX2_init_37 rfl (lv_at hl 0 rfl) ?_
  refine lv_iconst (v := 0) hx hb dX2_init_38 (by decide) ?_
  refine va_put (D := D) (ci := 2) (fs := [.ref q_1, .ref q_3, .ref q_5, .int 0, .int 0]) (v := .int 0) (ty := .int) (C := RX2) (T := TX2) (N := 5) hx hb hts (by decide +kernel) tyX2 tyX2_ok nmX2 hown hK hP hD hS p0 (tc_app_l (tc_app_l (tc_app_l (tc_app_l (tc_set_self e0))))) rfl 4 (by decide) (hts (.fieldLink RX2 30 "TypedColumns" "latestCode" "I") (by decide +kernel)) (fun _ h9 => h9) rfl (by decide +kernel) rfl rfl (Nat.le_of_ble_eq_true rfl) dX2_init_39 (fun H locs hP hD hS => ?_)
  rw [tc_app_set (tc_app_l (tc_app_l (tc_app_l (tc_set_self e0)))), tc_app_set (tc_app_l (tc_app_l (tc_set_self e0))), tc_app_set (tc_app_l (tc_set_self e0)), tc_app_set (tc_set_self e0), List.set_set] at hP hD
  have hP : va_P D vwCl (((((ws.set p0 (a, .inr (2, [.ref q_1, .ref q_3, .ref q_5, .int 0, .int 0]))) ++ ([(q_1, .inl (cC, 60, .inr (.inr (.inr (.inr (fun _ => none))))))] : va_W)) ++ ([(q_3, .inl (cI, 6, .inl (fun _ => 0)))] : va_W)) ++ ([(q_5, .inr (1, [.ref u]))] : va_W)) ++ ([(u, .inl (cD, 10, .inr (.inr (.inr (.inl (tc_mix (fun j => tf_N (1023 + 2 ^ j) 0) (fun _ => 0) 10))))))] : va_W)) H := hP
  have hD : va_D A (((((ws.set p0 (a, .inr (2, [.ref q_1, .ref q_3, .ref q_5, .int 0, .int 0]))) ++ ([(q_1, .inl (cC, 60, .inr (.inr (.inr (.inr (fun _ => none))))))] : va_W)) ++ ([(q_3, .inl (cI, 6, .inl (fun _ => 0)))] : va_W)) ++ ([(q_5, .inr (1, [.ref u]))] : va_W)) ++ ([(u, .inl (cD, 10, .inr (.inr (.inr (.inl (tc_mix (fun j => tf_N (1023 + 2 ^ j) 0) (fun _ => 0) 10))))))] : va_W)) := hD
  rw [List.append_assoc, List.append_assoc, List.append_assoc] at hP hD
  exact W.vret hx hb hr (fun t9 ht9 hW9 => ⟨⟨(q_1, q_3, q_5, u), rfl, trivial, by rw [ht9]; exact hP, hD⟩, hS.F ht9⟩) hS.2.2 dX2_init_42
