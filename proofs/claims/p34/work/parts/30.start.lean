def ts_tm (i : Nat) : Term := .string RL (9 + 2 * i)
/-! THE LAW, from its entry -/
theorem tc_cellD {cA : ClassId} {n : Nat} {f g : Nat → UInt64} (h : ∀ j, j < n → f j = g j) : vp_cell cA (n, .inr (.inr (.inr (.inl f)))) = vp_cell cA (n, .inr (.inr (.inr (.inl g)))) := by
  rw [vp_cell_d, vp_cell_d]
  unfold arrV
  have e : (fun j : Fin n => Value.double (f j.val)) = (fun j : Fin n => Value.double (g j.val)) := funext fun j => congrArg Value.double (h j.val j.isLt)
  rw [e]
theorem tc_P_repl {D : va_G} {cl : List vw_C} {ws : va_W} {H : Heap} (hP : va_P D cl ws H) {k a n : Nat} {cA : ClassId} {f g : Nat → UInt64} (he : ws[k]? = some (a, .inl (cA, n, .inr (.inr (.inr (.inl f)))))) (h : ∀ j, j < n → f j = g j) : va_P D cl (ws.set k (a, .inl (cA, n, .inr (.inr (.inr (.inl g)))))) H := by
  intro i q hq
  by_cases e : i = k
  · subst e
    rw [tc_set_self he] at hq
    cases hq
    have h1 : H[a]? = some (vp_cell cA (n, .inr (.inr (.inr (.inl f))))) := hP i _ he
    show H[a]? = some (vp_cell cA (n, .inr (.inr (.inr (.inl g)))))
    rw [← tc_cellD h]
    exact h1
  · rw [List.getElem?_set_ne (Ne.symm e)] at hq
    exact hP i q hq
theorem tc_arrI {args : Array Value} {s : State} (h : (Cond.arrayClass .int).before args s = true) : ∃ cA, ArrOfT s cA .int ∧ va_RA s cA .int := by
  obtain ⟨c, k, comp, h1, h2, h3⟩ := Cond.arrayClass_spec h
  exact ⟨c, fun n z => ⟨fun k h => (by cases h), k, h2, comp, h3⟩, h1⟩
theorem tc_arrJ {args : Array Value} {s : State} (h : (Cond.arrayClass .long).before args s = true) : ∃ cA, ArrOfT s cA .long ∧ va_RA s cA .long := by
  obtain ⟨c, k, comp, h1, h2, h3⟩ := Cond.arrayClass_spec h
  exact ⟨c, fun n z => ⟨fun k h => (by cases h), k, h2, comp, h3⟩, h1⟩
theorem tc_arrD {args : Array Value} {s : State} (h : (Cond.arrayClass .double).before args s = true) : ∃ cA, ArrOfT s cA .double ∧ va_RA s cA .double := by
  obtain ⟨c, k, comp, h1, h2, h3⟩ := Cond.arrayClass_spec h
  exact ⟨c, fun n z => ⟨fun k h => (by cases h), k, h2, comp, h3⟩, h1⟩
theorem tc_arrC {args : Array Value} {s : State} {C : String} (h : (Cond.arrayOver (.object C)).before args s = true) : ∃ cA, ArrOfT s cA (.object C) ∧ va_RA s cA (.object C) := by
  obtain ⟨comp, c, k, h1, h2, h3, h4, h5⟩ := Cond.arrayOver_spec h
  exact ⟨c, fun n z => ⟨fun k h => (by cases h), k, h3, comp, h4⟩, k, comp, h3, h4, h1, h5⟩
theorem tc_vkR {args : Array Value} {s : State} {own tx : String} {k : Nat} (h1 : (Cond.stringRef own k tx).before args s = true) (h2 : (Cond.exactly (.string own k) "java/lang/String").before args s = true) : ∃ q, vk_R own k tx q s := by
  obtain ⟨a, _, _, _, ha, -⟩ := Cond.exactly_spec h2
  refine ⟨a, ?_, ?_⟩
  · first
      | exact h1
      | simpa [Cond.before, Cond.holds, Cond.value] using h1
  · rw [Term.string_eval_of_vm (args := #[]) rfl] at ha
    exact ha
set_option maxHeartbeats 4000000 in
set_option maxRecDepth 100000 in
theorem whole_start {p : Program} {e : Env} {s : State} {m : MethodId} {below : List Frame} {meth : Method} {c : Code} (l : Launch) (hflags : l.flags = flags0) {b L : Nat} {xs : Nat → Int32} (hL : L ≤ 260) (C0 : lw_At p s m meth c b L xs) : W p l e room_1 s m #[Value.ref b] below meth c s.heap [] 0 0 (lw_Z below #[Value.ref b] s) (entryFrame m ([Value.ref b] : List Value).toArray 18) := by
  obtain ⟨hx, hb, hr, hml, hown, hts0, hX0, hbl, hlocks, hgv⟩ := id C0
  have hs := flat_of_before _ hgv
  have htsB : ∀ w ∈ wsL_law, w.before #[Value.ref b] s = true := fun w h => hts0 w (wsL_law_in w h)
  have hA : ∀ q : Nat, s.heap.size ≤ q → (fun q : Nat => s.heap.size ≤ q) q := fun _ h => h
  have hbA : ¬ (fun q : Nat => s.heap.size ≤ q) b := Nat.not_le.mpr hbl
  have hnA : ∀ a : Nat, a < s.heap.size → ¬ (fun q : Nat => s.heap.size ≤ q) a := fun a h => Nat.not_le.mpr h
  obtain ⟨k0, iS0, hKn0⟩ := u_known (C := RX0) (T := TX0) (N := 4) (n := 4) htsB inlX0 (htsB (.instantiable RX0 4) (by decide +kernel))
  obtain ⟨k1, iS1, hKn1⟩ := u_known (C := RX1) (T := TX1) (N := 1) (n := 1) htsB inlX1 (htsB (.instantiable RX1 1) (by decide +kernel))
  obtain ⟨k2, iS2, hKn2⟩ := u_known (C := RX2) (T := TX2) (N := 5) (n := 5) htsB inlX2 (htsB (.instantiable RX2 5) (by decide +kernel))
  obtain ⟨cI, hI1⟩ := tc_arrI (htsB (.arrayClass .int) (by decide +kernel))
  obtain ⟨cJ, hJ1⟩ := tc_arrJ (htsB (.arrayClass .long) (by decide +kernel))
  obtain ⟨cD, hD1⟩ := tc_arrD (htsB (.arrayClass .double) (by decide +kernel))
  have hAOw : (Cond.arrayOver (.object "TypedColumns$Column")).before #[Value.ref b] s = true := hts0 _ (by decide +kernel)
  obtain ⟨cC, hC1⟩ := tc_arrC hAOw
  have hAO : va_AO "TypedColumns$Column" s := va_AO.of hAOw
  obtain ⟨D, hK0⟩ : ∃ D : va_G, va_K D vwCl (tcTY cI cJ cD cC) s := by
    refine ⟨(fun k => if k = 0 then k0 else if k = 1 then k1 else k2, fun k => if k = 0 then iS0 else if k = 1 then iS1 else iS2), ?_, ?_⟩
    · intro k q hq
      match k, hq with
      | 0, hq => cases hq; exact hKn0
      | 1, hq => cases hq; exact hKn1
      | 2, hq => cases hq; exact hKn2
      | k + 3, hq => simp [vwCl] at hq
    · intro k q hq
      match k, hq with
      | 0, hq => cases hq; exact hI1
      | 1, hq => cases hq; exact hJ1
      | 2, hq => cases hq; exact hD1
      | 3, hq => cases hq; exact hC1
      | k + 4, hq => simp [tcTY] at hq
  have hE0 : tc_E (fun q : Nat => s.heap.size ≤ q) s := ⟨⟨trivial, trivial, trivial⟩, rfl, trivial, va_tabs rfl rfl (hts0 (.methodLinkNest RX0 9 yX2_holdsCells RX2) (by decide +kernel)), va_tabs rfl rfl (hts0 (.methodLinkNest RX0 13 yX2_isLength RX2) (by decide +kernel)), va_tabs rfl rfl (hts0 (.methodLinkNest RX0 25 yX2_isFloating RX2) (by decide +kernel)), trivial, va_tabs rfl rfl (hts0 (.methodLinkNest RX0 52 yX2_isPart RX2) (by decide +kernel)), va_tabs rfl rfl (hts0 (.methodLinkNest RX0 69 yX2_sumOf RX2) (by decide +kernel)), trivial⟩
  have i8 : ∀ i : Nat, i < 8 → i = 0 ∨ i = 1 ∨ i = 2 ∨ i = 3 ∨ i = 4 ∨ i = 5 ∨ i = 6 ∨ i = 7 := fun i h => by omega
  have ex8 : ∀ i : Nat, i < 8 → (Cond.exactly (ts_tm i) "java/lang/String").before #[Value.ref b] s = true := fun i h => by rcases i8 i h with rfl | rfl | rfl | rfl | rfl | rfl | rfl | rfl <;> exact hs _ (by decide +kernel)
  have co8 : ∀ i : Nat, i < 8 → (Cond.eq (.field (ts_tm i) "java/lang/String" "coder" "B") (.int 0)).before #[Value.ref b] s = true := fun i h => by rcases i8 i h with rfl | rfl | rfl | rfl | rfl | rfl | rfl | rfl <;> exact hs _ (by decide +kernel)
  have ar8 : ∀ i : Nat, i < 8 → (Cond.arrayOf (.field (ts_tm i) "java/lang/String" "value" "[B") .byte).before #[Value.ref b] s = true := fun i h => by rcases i8 i h with rfl | rfl | rfl | rfl | rfl | rfl | rfl | rfl <;> exact hs _ (by decide +kernel)
  have le8 : ∀ i : Nat, i < 8 → (Cond.eq (.length (.field (ts_tm i) "java/lang/String" "value" "[B")) (.int (Int32.ofNat (ts_len.getD i 0)))).before #[Value.ref b] s = true := fun i h => by rcases i8 i h with rfl | rfl | rfl | rfl | rfl | rfl | rfl | rfl <;> exact hs _ (by decide +kernel)
  have el8 : ∀ i : Nat, i < 8 → ∀ j : Nat, j < ts_len.getD i 0 → (Cond.eq (.elem (.field (ts_tm i) "java/lang/String" "value" "[B") (.int (Int32.ofNat j))) (.int ((ts_byt.getD i []).getD j 0))).before #[Value.ref b] s = true := fun i h j hj => by
    rw [ts_ln i h] at hj
    rcases i8 i h with rfl | rfl | rfl | rfl | rfl | rfl | rfl | rfl <;> rcases i8 j hj with rfl | rfl | rfl | rfl | rfl | rfl | rfl | rfl <;> exact hs _ (by decide +kernel)
  have ne8 : ∀ i j : Nat, i < 8 → j < 8 → i ≠ j → (Cond.not (Cond.eq (ts_tm i) (ts_tm j))).before #[Value.ref b] s = true ∨ (Cond.not (Cond.eq (ts_tm j) (ts_tm i))).before #[Value.ref b] s = true := fun i j h hj hij => by
    rcases i8 i h with rfl | rfl | rfl | rfl | rfl | rfl | rfl | rfl <;> rcases i8 j hj with rfl | rfl | rfl | rfl | rfl | rfl | rfl | rfl <;> first | exact absurd rfl hij | exact Or.inl (hs _ (by decide +kernel)) | exact Or.inr (hs _ (by decide +kernel))
  obtain ⟨adK, adV, hT1, hTe⟩ := vk_Sof (tm := ts_tm) (len := ts_len) (byt := ts_byt) (A := (fun q : Nat => s.heap.size ≤ q)) (fun i h => by rw [ts_ln i h]; decide) ex8 co8 ar8 le8 el8 ne8 hnA
  have hT0 : tsE adK adV (fun q : Nat => s.heap.size ≤ q) s s.heap := ⟨hT1, va_Zof (hts0 (.laysStatic "java/lang/String" "COMPACT_STRINGS" "Z") (by decide +kernel)) (hts0 (.initialized "java/lang/String") (by decide +kernel)) (va_eqi (hs (.eq (.static "java/lang/String" "COMPACT_STRINGS" "Z") (.int 1)) (by decide +kernel))) hnA, va_Zqof (hts0 (.laysStatic "jdk/internal/util/Preconditions" "SIOOBE_FORMATTER" "Ljava/util/function/BiFunction;") (by decide +kernel)) (hts0 (.initialized "jdk/internal/util/Preconditions") (by decide +kernel)) (hs (.isRef (.static "jdk/internal/util/Preconditions" "SIOOBE_FORMATTER" "Ljava/util/function/BiFunction;")) (by decide +kernel)) hnA⟩
  have hR0 : tsR adK s := ⟨vk_R.of (hts0 (.stringRef RL 9 "b.......") (by decide +kernel)) (hTe 0 (by decide)), vk_R.of (hts0 (.stringRef RL 11 ".b.sijfd") (by decide +kernel)) (hTe 1 (by decide)), vk_R.of (hts0 (.stringRef RL 13 "..c.ijfd") (by decide +kernel)) (hTe 2 (by decide)), vk_R.of (hts0 (.stringRef RL 15 "...sijfd") (by decide +kernel)) (hTe 3 (by decide)), vk_R.of (hts0 (.stringRef RL 17 "....ijfd") (by decide +kernel)) (hTe 4 (by decide)), vk_R.of (hts0 (.stringRef RL 19 ".....jfd") (by decide +kernel)) (hTe 5 (by decide)), vk_R.of (hts0 (.stringRef RL 21 "......fd") (by decide +kernel)) (hTe 6 (by decide)), vk_R.of (hts0 (.stringRef RL 23 ".......d") (by decide +kernel)) (hTe 7 (by decide))⟩
  have hd0 := Drawn.sameBut.refl s.drawn lw_cs
  have CC : LCtx p D (fun q : Nat => s.heap.size ≤ q) cI cJ cD cC (s.setDrawn s.drawn) m c b L xs adK adV := ⟨hx, hb, hml, hown, dr_words htsB s.drawn, hX0, hbl, hbA, hA, hL, hK0, hE0, hT0, hR0⟩
  refine W.base ?_
  have hts := dr_words htsB s.drawn
  have hK : va_K D vwCl (tcTY cI cJ cD cC) (s.setDrawn s.drawn) := hK0
  have hE : tc_E (fun q : Nat => s.heap.size ≤ q) (s.setDrawn s.drawn) := hE0
  have hAO : va_AO "TypedColumns$Column" (s.setDrawn s.drawn) := hAO
  have hown : (s.setDrawn s.drawn).vm.findClass RL = some m.cls := hown
  have hS : va_S (fun q : Nat => s.heap.size ≤ q) (s.setDrawn s.drawn).heap s.heap [] := va_S.rf
  have hP : va_P D vwCl [] s.heap := fun k q h => by simp at h
  have hD : va_D (fun q : Nat => s.heap.size ≤ q) [] := ⟨fun i j p q h => by simp at h, fun k q h => by simp at h⟩
  have hl := lv_entry ([.ref b]) (n := 18) (Nat.le_of_ble_eq_true rfl)
  rw [lg_entry_eq]
  generalize (lg_sl ([.ref b]) ++ List.replicate (18 - (lg_sl ([.ref b])).length) Slot.unset).toArray = ls at hl ⊢
  have hl : lv_has ls 18 [(0, .ref b)] := hl
  refine va_new (ci := 2) (fs := [.null, .null, .null, .int 0, .int 0]) (C := RX2) (T := TX2) (N := 5) hx hb hts (by decide +kernel) tyX2 tyX2_ok hown (hts (.classLink RL 31 RX2) (by decide +kernel)) (hts (.instantiable RX2 5) (by decide +kernel)) (hts (.initialized RX2) (by decide +kernel)) hK hP hD hS hA rfl (fun j hj => by rcases (show j = 0 ∨ j = 1 ∨ j = 2 ∨ j = 3 ∨ j = 4 by omega) with rfl | rfl | rfl | rfl | rfl <;> rfl) (Nat.le_of_ble_eq_true rfl) (Nat.le_of_ble_eq_true rfl) dL_law_0 (fun qob H hP hD hS => ?_)
  have hP : va_P D vwCl [(qob, .inr (2, [.null, .null, .null, .int 0, .int 0]))] H := hP
  have hD : va_D (fun q : Nat => s.heap.size ≤ q) [(qob, .inr (2, [.null, .null, .null, .int 0, .int 0]))] := hD
  refine lv_dup hx hb dL_law_3 rfl ?_
  refine va_callv (va_runI (As := []) (rest := [.ref qob]) ⟨hx, hb, hml, hown, hts⟩ (oX2_init l D (fun q : Nat => s.heap.size ≤ q) cI cJ cD cC [(qob, .inr (2, [.null, .null, .null, .int 0, .int 0]))] 0 qob H.size rfl (fun q h => hA q (Nat.le_trans hS.1 h))) (cwI 0 hts gL_law_X2_init rfl rfl rfl (hts (.initialized RX2) (by decide +kernel)) (hts (.methodLink RL 33 yX2_init) (by decide +kernel)) (hts (.instanceMethod yX2_init) (by decide +kernel)) rfl (by decide +kernel) ⟨Nat.le_of_ble_eq_true rfl, Nat.le_of_ble_eq_true rfl⟩) ⟨tcPA.blind, tcPA.go hK hP hD hE hAO hS⟩ rfl rfl hl.1 rfl (lv_room (Nat.le_of_ble_eq_true rfl)) dL_law_4 ⟨Nat.le_of_ble_eq_true rfl, Nat.le_of_ble_eq_true rfl⟩) hS (fun q _ h => h) (fun q h => h) (fun u t H locs ht hvm hw hB hz1 hk1 hS => ?_)
  obtain ⟨hP, hD⟩ := hB
  rw [ht] at hP
  obtain ⟨g1, g2, g3, g4⟩ := u
  have hP : va_P D vwCl [(qob, .inr (2, [.ref g1, .ref g2, .ref g3, .int 0, .int 0])), (g1, .inl (cC, 60, .inr (.inr (.inr (.inr (fun _ => none)))))), (g2, .inl (cI, 6, .inl (fun _ => 0))), (g3, .inr (1, [.ref g4])), (g4, .inl (cD, 10, .inr (.inr (.inr (.inl (tc_mix (fun j => tf_N (1023 + 2 ^ j) 0) (fun _ => 0) 10))))))] H := hP
  have hD : va_D (fun q : Nat => s.heap.size ≤ q) [(qob, .inr (2, [.ref g1, .ref g2, .ref g3, .int 0, .int 0])), (g1, .inl (cC, 60, .inr (.inr (.inr (.inr (fun _ => none)))))), (g2, .inl (cI, 6, .inl (fun _ => 0))), (g3, .inr (1, [.ref g4])), (g4, .inl (cD, 10, .inr (.inr (.inr (.inl (tc_mix (fun j => tf_N (1023 + 2 ^ j) 0) (fun _ => 0) 10))))))] := hD
  have hP := tc_P_repl hP (k := 4) (g := (fun j => tf_N (1023 + 2 ^ j) 0)) rfl (fun j hj => if_pos hj)
  have hD : va_D (fun q : Nat => s.heap.size ≤ q) (([(qob, .inr (2, [.ref g1, .ref g2, .ref g3, .int 0, .int 0])), (g1, .inl (cC, 60, .inr (.inr (.inr (.inr (fun _ => none)))))), (g2, .inl (cI, 6, .inl (fun _ => 0))), (g3, .inr (1, [.ref g4])), (g4, .inl (cD, 10, .inr (.inr (.inr (.inl (tc_mix (fun j => tf_N (1023 + 2 ^ j) 0) (fun _ => 0) 10))))))] : va_W).set 4 (g4, .inl (cD, 10, .inr (.inr (.inr (.inl (fun j => tf_N (1023 + 2 ^ j) 0))))))) := hD.set rfl
  have hP : va_P D vwCl [(qob, .inr (2, [.ref g1, .ref g2, .ref g3, .int 0, .int 0])), (g1, .inl (cC, 60, .inr (.inr (.inr (.inr (fun _ => none)))))), (g2, .inl (cI, 6, .inl (fun _ => 0))), (g3, .inr (1, [.ref g4])), (g4, .inl (cD, 10, .inr (.inr (.inr (.inl (fun j => tf_N (1023 + 2 ^ j) 0))))))] H := hP
  have hD : va_D (fun q : Nat => s.heap.size ≤ q) [(qob, .inr (2, [.ref g1, .ref g2, .ref g3, .int 0, .int 0])), (g1, .inl (cC, 60, .inr (.inr (.inr (.inr (fun _ => none)))))), (g2, .inl (cI, 6, .inl (fun _ => 0))), (g3, .inr (1, [.ref g4])), (g4, .inl (cD, 10, .inr (.inr (.inr (.inl (fun j => tf_N (1023 + 2 ^ j) 0))))))] := hD
  refine lv_astore_n (lv' := [(1, .ref qob), (0, .ref b)]) hx hb dL_law_7 rfl hl (by decide) rfl (fun ls hl => ?_)
  refine lv_bipush (v := 60) hx hb dL_law_8 (by decide) ?_
  refine va_newa (atype := .double) (ty := .double) (N' := 60) (a0 := (60, .inr (.inr (.inr (.inl (fun _ => 0)))))) hx hb (hts (.arrayClass .double) (by decide +kernel)) rfl hK hP hD hS hA (fun _ => rfl) (by decide) rfl (Nat.le_of_ble_eq_true rfl) (Nat.le_of_ble_eq_true rfl) (Nat.le_of_ble_eq_true rfl) dL_law_10 (fun q_1 cA_2 H hK1 hP hD hS => ?_)
  have hcA_2 : cD = cA_2 := tc_uniq hK1 (i := 2) (j := 4) rfl rfl
  subst hcA_2
  clear hK1
  have hP : va_P D vwCl [(qob, .inr (2, [.ref g1, .ref g2, .ref g3, .int 0, .int 0])), (g1, .inl (cC, 60, .inr (.inr (.inr (.inr (fun _ => none)))))), (g2, .inl (cI, 6, .inl (fun _ => 0))), (g3, .inr (1, [.ref g4])), (g4, .inl (cD, 10, .inr (.inr (.inr (.inl (fun j => tf_N (1023 + 2 ^ j) 0)))))), (q_1, .inl (cD, 60, .inr (.inr (.inr (.inl (fun _ => 0))))))] H := hP
  have hD : va_D (fun q : Nat => s.heap.size ≤ q) [(qob, .inr (2, [.ref g1, .ref g2, .ref g3, .int 0, .int 0])), (g1, .inl (cC, 60, .inr (.inr (.inr (.inr (fun _ => none)))))), (g2, .inl (cI, 6, .inl (fun _ => 0))), (g3, .inr (1, [.ref g4])), (g4, .inl (cD, 10, .inr (.inr (.inr (.inl (fun j => tf_N (1023 + 2 ^ j) 0)))))), (q_1, .inl (cD, 60, .inr (.inr (.inr (.inl (fun _ => 0))))))] := hD
  refine lv_astore_n (lv' := [(2, .ref q_1), (1, .ref qob), (0, .ref b)]) hx hb dL_law_12 rfl hl (by decide) rfl (fun ls hl => ?_)
  refine lv_bipush (v := 12) hx hb dL_law_13 (by decide) ?_
  refine va_newa (atype := .int) (ty := .int) (N' := 12) (a0 := (12, .inl (fun _ => 0))) hx hb (hts (.arrayClass .int) (by decide +kernel)) rfl hK hP hD hS hA (fun _ => rfl) (by decide) rfl (Nat.le_of_ble_eq_true rfl) (Nat.le_of_ble_eq_true rfl) (Nat.le_of_ble_eq_true rfl) dL_law_15 (fun q_3 cA_4 H hK1 hP hD hS => ?_)
  have hcA_4 : cI = cA_4 := tc_uniq hK1 (i := 0) (j := 4) rfl rfl
  subst hcA_4
  clear hK1
  have hP : va_P D vwCl [(qob, .inr (2, [.ref g1, .ref g2, .ref g3, .int 0, .int 0])), (g1, .inl (cC, 60, .inr (.inr (.inr (.inr (fun _ => none)))))), (g2, .inl (cI, 6, .inl (fun _ => 0))), (g3, .inr (1, [.ref g4])), (g4, .inl (cD, 10, .inr (.inr (.inr (.inl (fun j => tf_N (1023 + 2 ^ j) 0)))))), (q_1, .inl (cD, 60, .inr (.inr (.inr (.inl (fun _ => 0)))))), (q_3, .inl (cI, 12, .inl (fun _ => 0)))] H := hP
  have hD : va_D (fun q : Nat => s.heap.size ≤ q) [(qob, .inr (2, [.ref g1, .ref g2, .ref g3, .int 0, .int 0])), (g1, .inl (cC, 60, .inr (.inr (.inr (.inr (fun _ => none)))))), (g2, .inl (cI, 6, .inl (fun _ => 0))), (g3, .inr (1, [.ref g4])), (g4, .inl (cD, 10, .inr (.inr (.inr (.inl (fun j => tf_N (1023 + 2 ^ j) 0)))))), (q_1, .inl (cD, 60, .inr (.inr (.inr (.inl (fun _ => 0)))))), (q_3, .inl (cI, 12, .inl (fun _ => 0)))] := hD
  refine lv_astore_n (lv' := [(3, .ref q_3), (2, .ref q_1), (1, .ref qob), (0, .ref b)]) hx hb dL_law_17 rfl hl (by decide) rfl (fun ls hl => ?_)
  refine lv_bipush (v := 12) hx hb dL_law_18 (by decide) ?_
  refine va_newa (atype := .int) (ty := .int) (N' := 12) (a0 := (12, .inl (fun _ => 0))) hx hb (hts (.arrayClass .int) (by decide +kernel)) rfl hK hP hD hS hA (fun _ => rfl) (by decide) rfl (Nat.le_of_ble_eq_true rfl) (Nat.le_of_ble_eq_true rfl) (Nat.le_of_ble_eq_true rfl) dL_law_20 (fun q_5 cA_6 H hK1 hP hD hS => ?_)
  have hcA_6 : cI = cA_6 := tc_uniq hK1 (i := 0) (j := 4) rfl rfl
  subst hcA_6
  clear hK1
  have hP : va_P D vwCl [(qob, .inr (2, [.ref g1, .ref g2, .ref g3, .int 0, .int 0])), (g1, .inl (cC, 60, .inr (.inr (.inr (.inr (fun _ => none)))))), (g2, .inl (cI, 6, .inl (fun _ => 0))), (g3, .inr (1, [.ref g4])), (g4, .inl (cD, 10, .inr (.inr (.inr (.inl (fun j => tf_N (1023 + 2 ^ j) 0)))))), (q_1, .inl (cD, 60, .inr (.inr (.inr (.inl (fun _ => 0)))))), (q_3, .inl (cI, 12, .inl (fun _ => 0))), (q_5, .inl (cI, 12, .inl (fun _ => 0)))] H := hP
  have hD : va_D (fun q : Nat => s.heap.size ≤ q) [(qob, .inr (2, [.ref g1, .ref g2, .ref g3, .int 0, .int 0])), (g1, .inl (cC, 60, .inr (.inr (.inr (.inr (fun _ => none)))))), (g2, .inl (cI, 6, .inl (fun _ => 0))), (g3, .inr (1, [.ref g4])), (g4, .inl (cD, 10, .inr (.inr (.inr (.inl (fun j => tf_N (1023 + 2 ^ j) 0)))))), (q_1, .inl (cD, 60, .inr (.inr (.inr (.inl (fun _ => 0)))))), (q_3, .inl (cI, 12, .inl (fun _ => 0))), (q_5, .inl (cI, 12, .inl (fun _ => 0)))] := hD
  refine lv_astore (lv' := [(4, .ref q_5), (3, .ref q_3), (2, .ref q_1), (1, .ref qob), (0, .ref b)]) hx hb dL_law_22 hl (by decide) rfl (fun ls hl => ?_)
  refine lv_bipush (v := 10) hx hb dL_law_24 (by decide) ?_
  refine lv_istore (lv' := [(5, .int 10), (4, .ref q_5), (3, .ref q_3), (2, .ref q_1), (1, .ref qob), (0, .ref b)]) hx hb dL_law_26 hl (by decide) rfl (fun ls hl => ?_)
  refine lv_iconst (v := 0) hx hb dL_law_28 (by decide) ?_
  refine lv_istore (lv' := [(6, .int 0), (5, .int 10), (4, .ref q_5), (3, .ref q_3), (2, .ref q_1), (1, .ref qob), (0, .ref b)]) hx hb dL_law_29 hl (by decide) rfl (fun ls hl => ?_)
  have en : (fun j : Nat => if j < 0 then some ((fun _ => 0 : Nat → Nat) j) else none) = (fun _ => none) := by funext j; rw [if_neg (Nat.not_lt_zero j)]
  have hP : va_P D vwCl (lT3 cI cJ cD cC qob g1 g2 g3 g4 q_1 q_3 q_5 (fun _ => 0) (fun _ => 0) (fun _ => 0) 0 (fun _ => 0) (fun _ => 0) (fun _ => 0) (fun _ => 0) 0 (fun _ => 0) (fun _ => 0) (fun _ => 0) (fun _ => 0)) H := by unfold lT3 tc_T tc_hd; rw [en]; exact hP
  have hD : va_D (fun q : Nat => s.heap.size ≤ q) (lT3 cI cJ cD cC qob g1 g2 g3 g4 q_1 q_3 q_5 (fun _ => 0) (fun _ => 0) (fun _ => 0) 0 (fun _ => 0) (fun _ => 0) (fun _ => 0) (fun _ => 0) 0 (fun _ => 0) (fun _ => 0) (fun _ => 0) (fun _ => 0)) := by unfold lT3 tc_T tc_hd; rw [en]; exact hD
  have hI0 : PI 0 (fun _ => 0) (fun _ => 0) (fun _ => 0) (fun _ => 0) (fun _ => 0) (fun _ => 0) (fun _ => 0) := ⟨Nat.zero_le _, ⟨Nat.zero_le _, fun j h => absurd h (Nat.not_lt_zero j), fun j h => absurd h (Nat.not_lt_zero j), fun j h => absurd h (Nat.not_lt_zero j)⟩, fun j h => absurd h (Nat.not_lt_zero j), fun j h => absurd h (Nat.not_lt_zero j)⟩
  refine W.widen (k := 8 + 3 * 0) (n := 166 + 44 * 0) (Nat.le_of_ble_eq_true rfl) (Nat.le_of_ble_eq_true rfl) ?_
  refine law_create (h0 := qob) (h1 := g1) (h2 := g2) (h3 := g3) (h4 := g4) (o2 := q_1) (o3 := q_3) (o4 := q_5) CC (fun ad wd rd K Ln Wh Re lf kf H locs ls hI hP hD hS hl => ?_) 10 0 _ _ _ _ _ _ _ _ _ _ _ _ (Nat.zero_add _) hI0 hP hD hS (lv_sub hl [0, 1, 2, 3, 4, 5, 6] rfl)
  refine lv_bipush (v := 6) hx hb dL_law_100 (by decide) ?_
  refine va_newa (atype := .int) (ty := .int) (N' := 6) (a0 := (6, .inl (fun _ => 0))) hx hb (hts (.arrayClass .int) (by decide +kernel)) rfl hK hP hD hS hA (fun _ => rfl) (by decide) rfl (Nat.le_of_ble_eq_true rfl) (Nat.le_of_ble_eq_true rfl) (Nat.le_of_ble_eq_true rfl) dL_law_102 (fun o6 cA H hK1 hP hD hS => ?_)
  have hcA : cI = cA := tc_uniq hK1 (i := 0) (j := 4) rfl rfl
  subst hcA
  clear hK1
  obtain ⟨hP, hD⟩ := tc_perm hP hD
  have hP : va_P D vwCl (lT cI cJ cD cC qob g1 g2 g3 g4 q_1 q_3 q_5 o6 ad wd rd 10 K Ln Wh Re 0 (fun _ => 0) (fun _ => 0) lf kf (fun _ => 0)) H := hP
  have hD : va_D (fun q : Nat => s.heap.size ≤ q) (lT cI cJ cD cC qob g1 g2 g3 g4 q_1 q_3 q_5 o6 ad wd rd 10 K Ln Wh Re 0 (fun _ => 0) (fun _ => 0) lf kf (fun _ => 0)) := hD
  refine lv_astore (lv' := [(6, .ref o6), (5, .int 10), (4, .ref q_5), (3, .ref q_3), (2, .ref q_1), (1, .ref qob), (0, .ref b)]) hx hb dL_law_104 hl (by decide) rfl (fun ls hl => ?_)
  refine lv_iconst (v := 0) hx hb dL_law_106 (by decide) ?_
  refine lv_istore (lv' := [(7, .int 0), (6, .ref o6), (5, .int 10), (4, .ref q_5), (3, .ref q_3), (2, .ref q_1), (1, .ref qob), (0, .ref b)]) hx hb dL_law_107 hl (by decide) rfl (fun ls hl => ?_)
  refine W.widen (k := 39 + 3 * 0) (n := 612 + 44 * 0) (Nat.le_of_ble_eq_true rfl) (Nat.le_of_ble_eq_true rfl) ?_
  refine law_steps CC (fun ad wd rd n K Ln Wh Re ow lf kf cd ct H locs ls ce sl hce hsl hI h10 hP hD hS hl => ?_) 18 0 _ _ _ _ _ _ _ _ _ _ _ _ _ _ _ _ (Nat.zero_add _) hI (Nat.le_refl _) hP hD hS (lv_sub hl [0, 1, 2, 3, 4, 5, 6, 7] rfl)
  refine lv_aload_n hx hb dL_law_837 rfl (lv_at hl 6 rfl) ?_
  refine vp_callSi (tc_CR (va_runV (As := []) (rest := []) ⟨hx, hb, hml, hown, hts⟩ (tX2_columnCount l D (fun q : Nat => s.heap.size ≤ q) cI cJ cD cC qob g1 g2 g3 g4 ad wd rd (lY cI cD q_1 q_3 q_5 o6 ow lf kf ct) n K Ln Wh Re cd ct H.size hI.2.1) (cwV 0 hts gL_law_X2_columnCount rfl rfl rfl (by decide +kernel) ⟨Nat.le_of_ble_eq_true rfl, Nat.le_of_ble_eq_true rfl⟩) ⟨tcP.blind, va_recv hK hP (ci := 2) (q0 := 0) rfl rfl, tcP.go hK hP hD hE hS⟩ rfl rfl hl.1 rfl (lv_room (Nat.le_of_ble_eq_true rfl)) dL_law_838 ⟨by show _ ≤ 600086; omega, by show _ ≤ 7301442; omega⟩)) (fun r9 h9 => ?_)
  subst h9
  refine lv_iload hx hb dL_law_841 (lv_at hl 2 rfl) ?_
  refine lv_icmp_ne (tgt := 850) hx hb dL_law_843 (by decide) (fun q => absurd rfl q) (fun _ => ?_)
  refine lv_iconst (v := 1) hx hb dL_law_846 (by decide) ?_
  refine lv_goto (tgt := 851) hx hb dL_law_847 (by decide) ?_
  refine va_forget (fun q hq => hS.2.2 q hq) ?_
  refine W.widen (k := 600086) (n := 7301442) (by omega) (by omega) ?_
  exact lw_ret hd0 hx hb hr hlocks dL_law_851
