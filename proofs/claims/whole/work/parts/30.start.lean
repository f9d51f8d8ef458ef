/-! THE LAW, from its entry -/
theorem tc_cellD {cA : ClassId} {n : Nat} {f g : Nat → UInt64} (h : ∀ j, j < n → f j = g j) : vp_cell cA (n, .inr (.inr (.inr (.inl f)))) = vp_cell cA (n, .inr (.inr (.inr (.inl g)))) := by
  rw [vp_cell_d, vp_cell_d]
  unfold arrV
  have e : (fun j : Fin n => Value.double (f j.val)) = (fun j : Fin n => Value.double (g j.val)) := funext fun j => congrArg Value.double (h j.val j.isLt)
  rw [e]
theorem tc_P_repl {D : va_G} {cl : List vw_C} {ws : va_W} {H : Heap} (hP : va_P D cl ws H) {k a n : Nat} {cA : ClassId} {f g : Nat → UInt64} (he : ws[k]? = some (a, .inl (cA, n, .inr (.inr (.inr (.inl f)))))) (h : ∀ j, j < n → f j = g j) : va_P D cl (ws.set k (a, .inl (cA, n, .inr (.inr (.inr (.inl g)))))) H := by
  intro i q hq
  by_cases e : i = k
  · subst e
    rw [tc_set_self he] at hq
    cases hq
    have h1 : H[a]? = some (vp_cell cA (n, .inr (.inr (.inr (.inl f))))) := hP i _ he
    show H[a]? = some (vp_cell cA (n, .inr (.inr (.inr (.inl g)))))
    rw [← tc_cellD h]
    exact h1
  · rw [List.getElem?_set_ne (Ne.symm e)] at hq
    exact hP i q hq
theorem tc_arrI {args : Array Value} {s : State} (h : (Cond.arrayClass .int).before args s = true) : ∃ cA, ArrOfT s cA .int ∧ va_RA s cA .int := by
  obtain ⟨c, k, comp, h1, h2, h3⟩ := Cond.arrayClass_spec h
  exact ⟨c, fun n z => ⟨fun k h => (by cases h), k, h2, comp, h3⟩, h1⟩
theorem tc_arrJ {args : Array Value} {s : State} (h : (Cond.arrayClass .long).before args s = true) : ∃ cA, ArrOfT s cA .long ∧ va_RA s cA .long := by
  obtain ⟨c, k, comp, h1, h2, h3⟩ := Cond.arrayClass_spec h
  exact ⟨c, fun n z => ⟨fun k h => (by cases h), k, h2, comp, h3⟩, h1⟩
theorem tc_arrD {args : Array Value} {s : State} (h : (Cond.arrayClass .double).before args s = true) : ∃ cA, ArrOfT s cA .double ∧ va_RA s cA .double := by
  obtain ⟨c, k, comp, h1, h2, h3⟩ := Cond.arrayClass_spec h
  exact ⟨c, fun n z => ⟨fun k h => (by cases h), k, h2, comp, h3⟩, h1⟩
theorem tc_arrC {args : Array Value} {s : State} {C : String} (h : (Cond.arrayOver (.object C)).before args s = true) : ∃ cA, ArrOfT s cA (.object C) ∧ va_RA s cA (.object C) := by
  obtain ⟨comp, c, k, h1, h2, h3, h4, h5⟩ := Cond.arrayOver_spec h
  exact ⟨c, fun n z => ⟨fun k h => (by cases h), k, h3, comp, h4⟩, k, comp, h3, h4, h1, h5⟩
theorem tc_vkR {args : Array Value} {s : State} {own tx : String} {k : Nat} (h1 : (Cond.stringRef own k tx).before args s = true) (h2 : (Cond.exactly (.string own k) "java/lang/String").before args s = true) : ∃ q, vk_R own k tx q s := by
  obtain ⟨a, _, _, _, ha, -⟩ := Cond.exactly_spec h2
  refine ⟨a, ?_, ?_⟩
  · first
      | exact h1
      | simpa [Cond.before, Cond.holds, Cond.value] using h1
  · rw [Term.string_eval_of_vm (args := #[]) rfl] at ha
    exact ha
set_option maxHeartbeats 4000000 in
set_option maxRecDepth 100000 in
theorem whole_start {p : Program} {e : Env} {s : State} {m : MethodId} {below : List Frame} {meth : Method} {c : Code} (l : Launch) (hflags : l.flags = flags0) {b L : Nat} {xs : Nat → Int32} (hL : L ≤ 3072) (C0 : lw_At p s m meth c b L xs) : W p l e room_1 s m #[Value.ref b] below meth c s.heap [] 0 0 (lw_Z below #[Value.ref b] s) (entryFrame m ([Value.ref b] : List Value).toArray 9) := by
  obtain ⟨hx, hb, hr, hml, hown, hts0, hX0, hbl, hlocks, hgv⟩ := id C0
  have hs := flat_of_before _ hgv
  have hfl : l.stackTraces = false := by unfold Launch.stackTraces; rw [hflags]; decide +kernel
  have htsB : ∀ w ∈ wsL_law, w.before #[Value.ref b] s = true := fun w h => hts0 w (wsL_law_in w h)
  have hA : ∀ q : Nat, s.heap.size ≤ q → (fun q : Nat => s.heap.size ≤ q) q := fun _ h => h
  have hbA : ¬ (fun q : Nat => s.heap.size ≤ q) b := Nat.not_le.mpr hbl
  have hnA : ∀ a : Nat, a < s.heap.size → ¬ (fun q : Nat => s.heap.size ≤ q) a := fun a h => Nat.not_le.mpr h
  obtain ⟨k0, iS0, hKn0⟩ := u_known (C := RX0) (T := TX0) (N := 4) (n := 4) htsB inlX0 (htsB (.instantiable RX0 4) (by decide +kernel))
  obtain ⟨k1, iS1, hKn1⟩ := u_known (C := RX1) (T := TX1) (N := 1) (n := 1) htsB inlX1 (htsB (.instantiable RX1 1) (by decide +kernel))
  obtain ⟨k2, iS2, hKn2⟩ := u_known (C := RX2) (T := TX2) (N := 5) (n := 5) htsB inlX2 (htsB (.instantiable RX2 5) (by decide +kernel))
  obtain ⟨k3, iS3, hKn3⟩ := u_known (C := RX3) (T := TX3) (N := 8) (n := 8) htsB inlX3 (htsB (.instantiable RX3 8) (by decide +kernel))
  obtain ⟨cI, hI1⟩ := tc_arrI (htsB (.arrayClass .int) (by decide +kernel))
  obtain ⟨cJ, hJ1⟩ := tc_arrJ (htsB (.arrayClass .long) (by decide +kernel))
  obtain ⟨cD, hD1⟩ := tc_arrD (htsB (.arrayClass .double) (by decide +kernel))
  have hAOw : (Cond.arrayOver (.object "TypedColumns$Column")).before #[Value.ref b] s = true := hts0 _ (by decide +kernel)
  obtain ⟨cC, hC1⟩ := tc_arrC hAOw
  have hAO : va_AO "TypedColumns$Column" s := va_AO.of hAOw
  obtain ⟨D, hK0⟩ : ∃ D : va_G, va_K D vwCl (tcTY cI cJ cD cC) s := by
    refine ⟨(fun k => if k = 0 then k0 else if k = 1 then k1 else if k = 2 then k2 else k3, fun k => if k = 0 then iS0 else if k = 1 then iS1 else if k = 2 then iS2 else iS3), ?_, ?_⟩
    · intro k q hq
      match k, hq with
      | 0, hq => cases hq; exact hKn0
      | 1, hq => cases hq; exact hKn1
      | 2, hq => cases hq; exact hKn2
      | 3, hq => cases hq; exact hKn3
      | k + 4, hq => simp [vwCl] at hq
    · intro k q hq
      match k, hq with
      | 0, hq => cases hq; exact hI1
      | 1, hq => cases hq; exact hJ1
      | 2, hq => cases hq; exact hD1
      | 3, hq => cases hq; exact hC1
      | k + 4, hq => simp [tcTY] at hq
  have hE0 : tc_E (fun q : Nat => s.heap.size ≤ q) s := by
    refine ⟨⟨vx_Zqof (hts0 (.laysStatic "java/lang/Throwable" "UNASSIGNED_STACK" "[Ljava/lang/StackTraceElement;") (by decide +kernel)) (hts0 (.initialized "java/lang/Throwable") (by decide +kernel)) (hs (.isRef (.static "java/lang/Throwable" "UNASSIGNED_STACK" "[Ljava/lang/StackTraceElement;")) (by decide +kernel)) hnA, vx_Zqof (hts0 (.laysStatic "java/lang/Throwable" "SUPPRESSED_SENTINEL" "Ljava/util/List;") (by decide +kernel)) (hts0 (.initialized "java/lang/Throwable") (by decide +kernel)) (hs (.isRef (.static "java/lang/Throwable" "SUPPRESSED_SENTINEL" "Ljava/util/List;")) (by decide +kernel)) hnA⟩, ⟨tc_vkR (hts0 (.stringRef RX2 39 "no such kind") (by decide +kernel)) (hs (.exactly (.string RX2 39) "java/lang/String") (by decide +kernel)), tc_vkR (hts0 (.stringRef RX2 50 "no such length") (by decide +kernel)) (hs (.exactly (.string RX2 50) "java/lang/String") (by decide +kernel)), tc_vkR (hts0 (.stringRef RX2 141 "no such code") (by decide +kernel)) (hs (.exactly (.string RX2 141) "java/lang/String") (by decide +kernel)), tc_vkR (hts0 (.stringRef RX2 157 "not a kind with cells") (by decide +kernel)) (hs (.exactly (.string RX2 157) "java/lang/String") (by decide +kernel)), tc_vkR (hts0 (.stringRef RX2 161 "there are 60 columns") (by decide +kernel)) (hs (.exactly (.string RX2 161) "java/lang/String") (by decide +kernel)), tc_vkR (hts0 (.stringRef RX2 164 "no such column") (by decide +kernel)) (hs (.exactly (.string RX2 164) "java/lang/String") (by decide +kernel))⟩, ⟨va_tabs rfl rfl (hts0 (.castable "java/lang/IndexOutOfBoundsException" "java/lang/IndexOutOfBoundsException") (by decide +kernel)), va_tabs rfl rfl (hts0 (.castable "java/lang/IllegalArgumentException" "java/lang/IllegalArgumentException") (by decide +kernel)), va_tabs rfl rfl (hts0 (.castable "java/lang/IllegalStateException" "java/lang/IllegalStateException") (by decide +kernel)), va_tabs rfl rfl (hts0 (.declares (Bundle.initS "java/lang/RuntimeException")) (by decide +kernel)), va_tabs rfl rfl (hts0 (.declares (Bundle.initS "java/lang/Exception")) (by decide +kernel)), va_tabs rfl rfl (hts0 (.declares (Bundle.initS Bundle.tN)) (by decide +kernel))⟩, ⟨va_tabs rfl rfl (hts0 (.methodLinkNest RX0 9 yX2_holdsCells RX2) (by decide +kernel)), va_tabs rfl rfl (hts0 (.methodLinkNest RX0 13 yX2_isLength RX2) (by decide +kernel)), va_tabs rfl rfl (hts0 (.methodLinkNest RX0 25 yX2_isFloating RX2) (by decide +kernel)), va_tabs rfl rfl (hts0 (.methodLinkNest RX0 44 yX2_floatOf RX2) (by decide +kernel)), va_tabs rfl rfl (hts0 (.methodLinkNest RX0 52 yX2_isPart RX2) (by decide +kernel)), va_tabs rfl rfl (hts0 (.methodLinkNest RX0 69 yX2_sumOf RX2) (by decide +kernel)), va_tabs rfl rfl (hts0 (.methodLinkNest RX1 23 yX2_isInfinite RX2) (by decide +kernel))⟩⟩
  have hNc0 : tc_Nc s := ⟨va_Nc.of (hs (.not (.castable "java/lang/IllegalStateException" "java/lang/IllegalArgumentException")) (by decide +kernel)), va_Nc.of (hs (.not (.castable "java/lang/IllegalArgumentException" "java/lang/IndexOutOfBoundsException")) (by decide +kernel)), va_Nc.of (hs (.not (.castable "java/lang/IllegalStateException" "java/lang/IndexOutOfBoundsException")) (by decide +kernel))⟩
  have hd0 := Drawn.sameBut.refl s.drawn lw_cs
  have CC : LCtx p l D (fun q : Nat => s.heap.size ≤ q) cI cJ cD cC s m c b L xs := ⟨hx, hb, hml, hown, htsB, hX0, hbl, hbA, hA, hL, hfl, hK0, hE0, hNc0⟩
  refine W.base ?_
  have hts := dr_words htsB s.drawn
  have hK : va_K D vwCl (tcTY cI cJ cD cC) (s.setDrawn s.drawn) := hK0
  have hE : tc_E (fun q : Nat => s.heap.size ≤ q) (s.setDrawn s.drawn) := hE0
  have hAO : va_AO "TypedColumns$Column" (s.setDrawn s.drawn) := hAO
  have hown : (s.setDrawn s.drawn).vm.findClass RL = some m.cls := hown
  have hS : va_S (fun q : Nat => s.heap.size ≤ q) (s.setDrawn s.drawn).heap s.heap [] := va_S.rf
  have hP : va_P D vwCl [] s.heap := fun k q h => by simp at h
  have hD : va_D (fun q : Nat => s.heap.size ≤ q) [] := ⟨fun i j p q h => by simp at h, fun k q h => by simp at h⟩
  have hl := lv_entry ([.ref b]) (n := 9) (Nat.le_of_ble_eq_true rfl)
  rw [lg_entry_eq]
  generalize (lg_sl ([.ref b]) ++ List.replicate (9 - (lg_sl ([.ref b])).length) Slot.unset).toArray = ls at hl ⊢
  have hl : lv_has ls 9 [(0, .ref b)] := hl
  refine va_new (ci := 2) (fs := [.null, .null, .null, .int 0, .int 0]) (C := RX2) (T := TX2) (N := 5) hx hb hts (by decide +kernel) tyX2 tyX2_ok hown (hts (.classLink RL 8 RX2) (by decide +kernel)) (hts (.instantiable RX2 5) (by decide +kernel)) (hts (.initialized RX2) (by decide +kernel)) hK hP hD hS hA rfl (fun j hj => by rcases (show j = 0 ∨ j = 1 ∨ j = 2 ∨ j = 3 ∨ j = 4 by omega) with rfl | rfl | rfl | rfl | rfl <;> rfl) (Nat.le_of_ble_eq_true rfl) (Nat.le_of_ble_eq_true rfl) dL_law_0 (fun q_1 H hP hD hS => ?_)
  have hP : va_P D vwCl [(q_1, .inr (2, [.null, .null, .null, .int 0, .int 0]))] H := hP
  have hD : va_D (fun q : Nat => s.heap.size ≤ q) [(q_1, .inr (2, [.null, .null, .null, .int 0, .int 0]))] := hD
  refine lv_dup hx hb dL_law_3 rfl ?_
  refine va_callv (va_runI (As := []) (rest := [.ref q_1]) ⟨hx, hb, hml, hown, hts⟩ (oX2_init l D (fun q : Nat => s.heap.size ≤ q) cI cJ cD cC [(q_1, .inr (2, [.null, .null, .null, .int 0, .int 0]))] 0 q_1 H.size rfl (fun q h => hA q (Nat.le_trans hS.1 h))) (cwI 0 hts gL_law_X2_init rfl rfl rfl (hts (.initialized RX2) (by decide +kernel)) (hts (.methodLink RL 114 yX2_init) (by decide +kernel)) (hts (.instanceMethod yX2_init) (by decide +kernel)) rfl (by decide +kernel) ⟨Nat.le_of_ble_eq_true rfl, Nat.le_of_ble_eq_true rfl⟩) ⟨tcPA.blind, tcPA.go hK hP hD hE hAO hS⟩ rfl rfl hl.1 rfl (lv_room (Nat.le_of_ble_eq_true rfl)) dL_law_4 ⟨Nat.le_of_ble_eq_true rfl, Nat.le_of_ble_eq_true rfl⟩) hS (fun q _ h => h) (fun q h => h) (fun u t H locs ht hvm hw hB hz1 hk1 hS => ?_)
  obtain ⟨hP, hD⟩ := hB
  rw [ht] at hP
  obtain ⟨g1, g2, g3, g4⟩ := u
  have hP : va_P D vwCl [(q_1, .inr (2, [.ref g1, .ref g2, .ref g3, .int 0, .int 0])), (g1, .inl (cC, 60, .inr (.inr (.inr (.inr (fun _ => none)))))), (g2, .inl (cI, 6, .inl (fun _ => 0))), (g3, .inr (1, [.ref g4])), (g4, .inl (cD, 10, .inr (.inr (.inr (.inl (tc_mix (fun j => tf_N (1023 + 2 ^ j) 0) (fun _ => 0) 10))))))] H := hP
  have hD : va_D (fun q : Nat => s.heap.size ≤ q) [(q_1, .inr (2, [.ref g1, .ref g2, .ref g3, .int 0, .int 0])), (g1, .inl (cC, 60, .inr (.inr (.inr (.inr (fun _ => none)))))), (g2, .inl (cI, 6, .inl (fun _ => 0))), (g3, .inr (1, [.ref g4])), (g4, .inl (cD, 10, .inr (.inr (.inr (.inl (tc_mix (fun j => tf_N (1023 + 2 ^ j) 0) (fun _ => 0) 10))))))] := hD
  have hP := tc_P_repl hP (k := 4) (g := (fun j => tf_N (1023 + 2 ^ j) 0)) rfl (fun j hj => if_pos hj)
  have hD : va_D (fun q : Nat => s.heap.size ≤ q) (([(q_1, .inr (2, [.ref g1, .ref g2, .ref g3, .int 0, .int 0])), (g1, .inl (cC, 60, .inr (.inr (.inr (.inr (fun _ => none)))))), (g2, .inl (cI, 6, .inl (fun _ => 0))), (g3, .inr (1, [.ref g4])), (g4, .inl (cD, 10, .inr (.inr (.inr (.inl (tc_mix (fun j => tf_N (1023 + 2 ^ j) 0) (fun _ => 0) 10))))))] : va_W).set 4 (g4, .inl (cD, 10, .inr (.inr (.inr (.inl (fun j => tf_N (1023 + 2 ^ j) 0))))))) := hD.set rfl
  have hP : va_P D vwCl [(q_1, .inr (2, [.ref g1, .ref g2, .ref g3, .int 0, .int 0])), (g1, .inl (cC, 60, .inr (.inr (.inr (.inr (fun _ => none)))))), (g2, .inl (cI, 6, .inl (fun _ => 0))), (g3, .inr (1, [.ref g4])), (g4, .inl (cD, 10, .inr (.inr (.inr (.inl (fun j => tf_N (1023 + 2 ^ j) 0))))))] H := hP
  have hD : va_D (fun q : Nat => s.heap.size ≤ q) [(q_1, .inr (2, [.ref g1, .ref g2, .ref g3, .int 0, .int 0])), (g1, .inl (cC, 60, .inr (.inr (.inr (.inr (fun _ => none)))))), (g2, .inl (cI, 6, .inl (fun _ => 0))), (g3, .inr (1, [.ref g4])), (g4, .inl (cD, 10, .inr (.inr (.inr (.inl (fun j => tf_N (1023 + 2 ^ j) 0))))))] := hD
  refine lv_astore_n (lv' := [(1, .ref q_1), (0, .ref b)]) hx hb dL_law_7 rfl hl (by decide) rfl (fun ls hl => ?_)
  refine va_new (ci := 3) (fs := [.int 0, .int 0, .null, .null, .null, .null, .int 0, .null]) (C := RX3) (T := TX3) (N := 8) hx hb hts (by decide +kernel) tyX3 tyX3_ok hown (hts (.classLink RL 115 RX3) (by decide +kernel)) (hts (.instantiable RX3 8) (by decide +kernel)) (hts (.initialized RX3) (by decide +kernel)) hK hP hD hS hA rfl (fun j hj => by rcases (show j = 0 ∨ j = 1 ∨ j = 2 ∨ j = 3 ∨ j = 4 ∨ j = 5 ∨ j = 6 ∨ j = 7 by omega) with rfl | rfl | rfl | rfl | rfl | rfl | rfl | rfl <;> rfl) (Nat.le_of_ble_eq_true rfl) (Nat.le_of_ble_eq_true rfl) dL_law_8 (fun q_2 H hP hD hS => ?_)
  have hP : va_P D vwCl [(q_1, .inr (2, [.ref g1, .ref g2, .ref g3, .int 0, .int 0])), (g1, .inl (cC, 60, .inr (.inr (.inr (.inr (fun _ => none)))))), (g2, .inl (cI, 6, .inl (fun _ => 0))), (g3, .inr (1, [.ref g4])), (g4, .inl (cD, 10, .inr (.inr (.inr (.inl (fun j => tf_N (1023 + 2 ^ j) 0)))))), (q_2, .inr (3, [.int 0, .int 0, .null, .null, .null, .null, .int 0, .null]))] H := hP
  have hD : va_D (fun q : Nat => s.heap.size ≤ q) [(q_1, .inr (2, [.ref g1, .ref g2, .ref g3, .int 0, .int 0])), (g1, .inl (cC, 60, .inr (.inr (.inr (.inr (fun _ => none)))))), (g2, .inl (cI, 6, .inl (fun _ => 0))), (g3, .inr (1, [.ref g4])), (g4, .inl (cD, 10, .inr (.inr (.inr (.inl (fun j => tf_N (1023 + 2 ^ j) 0)))))), (q_2, .inr (3, [.int 0, .int 0, .null, .null, .null, .null, .int 0, .null]))] := hD
  refine lv_dup hx hb dL_law_11 rfl ?_
  refine va_callv (va_runI (As := []) (rest := [.ref q_2]) ⟨hx, hb, hml, hown, hts⟩ (oX3_init l D (fun q : Nat => s.heap.size ≤ q) cI cJ cD cC [(q_1, .inr (2, [.ref g1, .ref g2, .ref g3, .int 0, .int 0])), (g1, .inl (cC, 60, .inr (.inr (.inr (.inr (fun _ => none)))))), (g2, .inl (cI, 6, .inl (fun _ => 0))), (g3, .inr (1, [.ref g4])), (g4, .inl (cD, 10, .inr (.inr (.inr (.inl (fun j => tf_N (1023 + 2 ^ j) 0)))))), (q_2, .inr (3, [.int 0, .int 0, .null, .null, .null, .null, .int 0, .null]))] 5 q_2 H.size rfl (fun q h => hA q (Nat.le_trans hS.1 h))) (cwI 0 hts gL_law_X3_init rfl rfl rfl (hts (.initialized RX3) (by decide +kernel)) (hts (.methodLink RL 117 yX3_init) (by decide +kernel)) (hts (.instanceMethod yX3_init) (by decide +kernel)) rfl (by decide +kernel) ⟨Nat.le_of_ble_eq_true rfl, Nat.le_of_ble_eq_true rfl⟩) ⟨tcP.blind, tcP.go hK hP hD hE hS⟩ rfl rfl hl.1 rfl (lv_room (Nat.le_of_ble_eq_true rfl)) dL_law_12 ⟨Nat.le_of_ble_eq_true rfl, Nat.le_of_ble_eq_true rfl⟩) hS (fun q _ h => h) (fun q h => h) (fun u t H locs ht hvm hw hB hz1 hk1 hS => ?_)
  obtain ⟨hP, hD⟩ := hB
  rw [ht] at hP
  obtain ⟨n1, n2, n3, n4, n5⟩ := u
  have hP : va_P D vwCl [(q_1, .inr (2, [.ref g1, .ref g2, .ref g3, .int 0, .int 0])), (g1, .inl (cC, 60, .inr (.inr (.inr (.inr (fun _ => none)))))), (g2, .inl (cI, 6, .inl (fun _ => 0))), (g3, .inr (1, [.ref g4])), (g4, .inl (cD, 10, .inr (.inr (.inr (.inl (fun j => tf_N (1023 + 2 ^ j) 0)))))), (q_2, .inr (3, [.int 0, .int 0, .ref n1, .ref n2, .ref n3, .ref n4, .int 0, .ref n5])), (n1, .inl (cI, 60, .inl (fun _ => 0))), (n2, .inl (cI, 60, .inl (fun _ => 0))), (n3, .inl (cJ, 2400, .inr (.inl (fun _ => 0)))), (n4, .inl (cD, 2400, .inr (.inr (.inr (.inl (fun _ => 0)))))), (n5, .inl (cI, 6, .inl (fun _ => 0)))] H := hP
  have hD : va_D (fun q : Nat => s.heap.size ≤ q) [(q_1, .inr (2, [.ref g1, .ref g2, .ref g3, .int 0, .int 0])), (g1, .inl (cC, 60, .inr (.inr (.inr (.inr (fun _ => none)))))), (g2, .inl (cI, 6, .inl (fun _ => 0))), (g3, .inr (1, [.ref g4])), (g4, .inl (cD, 10, .inr (.inr (.inr (.inl (fun j => tf_N (1023 + 2 ^ j) 0)))))), (q_2, .inr (3, [.int 0, .int 0, .ref n1, .ref n2, .ref n3, .ref n4, .int 0, .ref n5])), (n1, .inl (cI, 60, .inl (fun _ => 0))), (n2, .inl (cI, 60, .inl (fun _ => 0))), (n3, .inl (cJ, 2400, .inr (.inl (fun _ => 0)))), (n4, .inl (cD, 2400, .inr (.inr (.inr (.inl (fun _ => 0)))))), (n5, .inl (cI, 6, .inl (fun _ => 0)))] := hD
  refine lv_astore_n (lv' := [(2, .ref q_2), (1, .ref q_1), (0, .ref b)]) hx hb dL_law_15 rfl hl (by decide) rfl (fun ls hl => ?_)
  refine lv_iconst (v := 1) hx hb dL_law_16 (by decide) ?_
  refine va_newa (atype := .long) (ty := .long) (N' := 1) (a0 := (1, .inr (.inl (fun _ => 0)))) hx hb (hts (.arrayClass .long) (by decide +kernel)) rfl hK hP hD hS hA (fun _ => rfl) (by decide) rfl (Nat.le_of_ble_eq_true rfl) (Nat.le_of_ble_eq_true rfl) (Nat.le_of_ble_eq_true rfl) dL_law_17 (fun q_3 cA_4 H hK1 hP hD hS => ?_)
  have hcA_4 : cJ = cA_4 := tc_uniq hK1 (i := 1) (j := 4) rfl rfl
  subst hcA_4
  clear hK1
  have hP : va_P D vwCl [(q_1, .inr (2, [.ref g1, .ref g2, .ref g3, .int 0, .int 0])), (g1, .inl (cC, 60, .inr (.inr (.inr (.inr (fun _ => none)))))), (g2, .inl (cI, 6, .inl (fun _ => 0))), (g3, .inr (1, [.ref g4])), (g4, .inl (cD, 10, .inr (.inr (.inr (.inl (fun j => tf_N (1023 + 2 ^ j) 0)))))), (q_2, .inr (3, [.int 0, .int 0, .ref n1, .ref n2, .ref n3, .ref n4, .int 0, .ref n5])), (n1, .inl (cI, 60, .inl (fun _ => 0))), (n2, .inl (cI, 60, .inl (fun _ => 0))), (n3, .inl (cJ, 2400, .inr (.inl (fun _ => 0)))), (n4, .inl (cD, 2400, .inr (.inr (.inr (.inl (fun _ => 0)))))), (n5, .inl (cI, 6, .inl (fun _ => 0))), (q_3, .inl (cJ, 1, .inr (.inl (fun _ => 0))))] H := hP
  have hD : va_D (fun q : Nat => s.heap.size ≤ q) [(q_1, .inr (2, [.ref g1, .ref g2, .ref g3, .int 0, .int 0])), (g1, .inl (cC, 60, .inr (.inr (.inr (.inr (fun _ => none)))))), (g2, .inl (cI, 6, .inl (fun _ => 0))), (g3, .inr (1, [.ref g4])), (g4, .inl (cD, 10, .inr (.inr (.inr (.inl (fun j => tf_N (1023 + 2 ^ j) 0)))))), (q_2, .inr (3, [.int 0, .int 0, .ref n1, .ref n2, .ref n3, .ref n4, .int 0, .ref n5])), (n1, .inl (cI, 60, .inl (fun _ => 0))), (n2, .inl (cI, 60, .inl (fun _ => 0))), (n3, .inl (cJ, 2400, .inr (.inl (fun _ => 0)))), (n4, .inl (cD, 2400, .inr (.inr (.inr (.inl (fun _ => 0)))))), (n5, .inl (cI, 6, .inl (fun _ => 0))), (q_3, .inl (cJ, 1, .inr (.inl (fun _ => 0))))] := hD
  refine lv_astore_n (lv' := [(3, .ref q_3), (2, .ref q_2), (1, .ref q_1), (0, .ref b)]) hx hb dL_law_19 rfl hl (by decide) rfl (fun ls hl => ?_)
  refine lv_iconst (v := 1) hx hb dL_law_20 (by decide) ?_
  refine va_newa (atype := .double) (ty := .double) (N' := 1) (a0 := (1, .inr (.inr (.inr (.inl (fun _ => 0)))))) hx hb (hts (.arrayClass .double) (by decide +kernel)) rfl hK hP hD hS hA (fun _ => rfl) (by decide) rfl (Nat.le_of_ble_eq_true rfl) (Nat.le_of_ble_eq_true rfl) (Nat.le_of_ble_eq_true rfl) dL_law_21 (fun q_5 cA_6 H hK1 hP hD hS => ?_)
  have hcA_6 : cD = cA_6 := tc_uniq hK1 (i := 2) (j := 4) rfl rfl
  subst hcA_6
  clear hK1
  have hP : va_P D vwCl [(q_1, .inr (2, [.ref g1, .ref g2, .ref g3, .int 0, .int 0])), (g1, .inl (cC, 60, .inr (.inr (.inr (.inr (fun _ => none)))))), (g2, .inl (cI, 6, .inl (fun _ => 0))), (g3, .inr (1, [.ref g4])), (g4, .inl (cD, 10, .inr (.inr (.inr (.inl (fun j => tf_N (1023 + 2 ^ j) 0)))))), (q_2, .inr (3, [.int 0, .int 0, .ref n1, .ref n2, .ref n3, .ref n4, .int 0, .ref n5])), (n1, .inl (cI, 60, .inl (fun _ => 0))), (n2, .inl (cI, 60, .inl (fun _ => 0))), (n3, .inl (cJ, 2400, .inr (.inl (fun _ => 0)))), (n4, .inl (cD, 2400, .inr (.inr (.inr (.inl (fun _ => 0)))))), (n5, .inl (cI, 6, .inl (fun _ => 0))), (q_3, .inl (cJ, 1, .inr (.inl (fun _ => 0)))), (q_5, .inl (cD, 1, .inr (.inr (.inr (.inl (fun _ => 0))))))] H := hP
  have hD : va_D (fun q : Nat => s.heap.size ≤ q) [(q_1, .inr (2, [.ref g1, .ref g2, .ref g3, .int 0, .int 0])), (g1, .inl (cC, 60, .inr (.inr (.inr (.inr (fun _ => none)))))), (g2, .inl (cI, 6, .inl (fun _ => 0))), (g3, .inr (1, [.ref g4])), (g4, .inl (cD, 10, .inr (.inr (.inr (.inl (fun j => tf_N (1023 + 2 ^ j) 0)))))), (q_2, .inr (3, [.int 0, .int 0, .ref n1, .ref n2, .ref n3, .ref n4, .int 0, .ref n5])), (n1, .inl (cI, 60, .inl (fun _ => 0))), (n2, .inl (cI, 60, .inl (fun _ => 0))), (n3, .inl (cJ, 2400, .inr (.inl (fun _ => 0)))), (n4, .inl (cD, 2400, .inr (.inr (.inr (.inl (fun _ => 0)))))), (n5, .inl (cI, 6, .inl (fun _ => 0))), (q_3, .inl (cJ, 1, .inr (.inl (fun _ => 0)))), (q_5, .inl (cD, 1, .inr (.inr (.inr (.inl (fun _ => 0))))))] := hD
  refine lv_astore (lv' := [(4, .ref q_5), (3, .ref q_3), (2, .ref q_2), (1, .ref q_1), (0, .ref b)]) hx hb dL_law_23 hl (by decide) rfl (fun ls hl => ?_)
  refine lv_iconst (v := 0) hx hb dL_law_25 (by decide) ?_
  refine lv_istore (lv' := [(5, .int 0), (4, .ref q_5), (3, .ref q_3), (2, .ref q_2), (1, .ref q_1), (0, .ref b)]) hx hb dL_law_26 hl (by decide) rfl (fun ls hl => ?_)
  have en : (fun j : Nat => if j < 0 then some ((fun _ => 0 : Nat → Nat) j) else none) = (fun _ => none) := by funext j; rw [if_neg (Nat.not_lt_zero j)]
  refine W.widen (k := 13 + 3 * 0) (n := 5018 + 44 * 0) (Nat.le_of_ble_eq_true rfl) (Nat.le_of_ble_eq_true rfl) ?_
  refine law_loop (h0 := q_1) (h1 := g1) (h2 := g2) (h3 := g3) (h4 := g4) (m0 := q_2) (m1 := n1) (m2 := n2) (m3 := n3) (m4 := n4) (m5 := n5) (o1 := q_3) (o2 := q_5) CC (fun d H locs ls i ce sl hce hsl hv => ?_) (L / 6) 0 _ _ _ _ (Nat.zero_add _) ⟨fun _ => 0, fun _ => 0, fun _ => 0, 0, fun _ => 0, fun _ => 0, fun _ => 0, fun _ => 0, 0, fun _ => 0, 0, fun _ => 0, fun _ => 0, hd0, ⟨Nat.zero_le _, fun j h => absurd h (Nat.not_lt_zero j), fun j h => absurd h (Nat.not_lt_zero j), fun j h => absurd h (Nat.not_lt_zero j)⟩, ?_, ?_, hS, lv_sub hl [0, 1, 2, 3, 4, 5] rfl⟩
  · obtain ⟨ad, wd, rd, n, K, Ln, Wh, Re, cd, ct, th, ov, od, hdd, hI, hP, hD, hS, hl⟩ := hv
    refine va_forget (fun q hq => hS.2.2 q hq) ?_
    refine W.widen (k := 601024) (n := 7293034) hce hsl ?_
    refine lv_iconst (v := 1) hx hb dL_law_2396 (by decide) ?_
    exact lw_ret hdd hx hb hr hlocks dL_law_2397
  · unfold tc_T tc_hd
    rw [en]
    exact hP
  · unfold tc_T tc_hd
    rw [en]
    exact hD
