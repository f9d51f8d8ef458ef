/-! TEXTS: the eight rows of letters in the law's widens, and String.charAt of them -/
def ts_len : List Nat := [8, 8, 8, 8, 8, 8, 8, 8]
def ts_byt : List (List Int32) := [[98, 46, 46, 46, 46, 46, 46, 46], [46, 98, 46, 115, 105, 106, 102, 100], [46, 46, 99, 46, 105, 106, 102, 100], [46, 46, 46, 115, 105, 106, 102, 100], [46, 46, 46, 46, 105, 106, 102, 100], [46, 46, 46, 46, 46, 106, 102, 100], [46, 46, 46, 46, 46, 46, 102, 100], [46, 46, 46, 46, 46, 46, 46, 100]]
def ts_b (i k : Nat) : Int32 := (ts_byt.getD i []).getD k 0
theorem ts_ch : ∀ i, i < 8 → ∀ k, k < 8 → ((ts_b i k &&& 255).toUInt32 % 65536).toInt32 = ts_b i k := by decide +kernel
theorem ts_nr : ∀ i, i < 8 → ∀ k, k < 8 → ((ts_b i k).toUInt32 % 65536).toInt32 = ts_b i k := by decide +kernel
theorem ts_nar {i k : Nat} (hi : i < 8) (hk : k < 8) : narrow .char (.int (ts_b i k)) = .int (ts_b i k) := by
  have h := pk_nc (ts_b i k)
  rw [ts_nr i hi k hk] at h
  exact h
theorem ts_wid : ∀ i, i < 8 → ∀ k, k < 8 → (ts_b i k = 46 ↔ kWid (nI (i + 1)) (nI (k + 1)) = false) := by decide +kernel
theorem ts_ln : ∀ i, i < 8 → ts_len.getD i 0 = 8 := by decide
def tsE (adK adV : Nat → Nat) (A : Nat → Prop) (U : State) (H : Heap) : Prop :=
  vk_S 8 ts_len ts_byt adK adV A U H ∧ va_Z "java/lang/String" "COMPACT_STRINGS" "Z" (.int 1) A U H ∧ va_Zq "jdk/internal/util/Preconditions" "SIOOBE_FORMATTER" "Ljava/util/function/BiFunction;" A U H
abbrev FN : Nat → Prop := fun _ => False
theorem tsE.go {adK adV : Nat → Nat} {A : Nat → Prop} {s U : State} {H : Heap} {locs : List Loc} (h : tsE adK adV A s s.heap) (hS : va_S A s.heap H locs) (hU : U.heap = H) (hW : s.WarmedH U.vm) : tsE adK adV FN U U.heap := by
  subst hU
  exact ⟨(vk_S.moved hW.alike (h.1.kept hS.2.1)).narrow (fun _ q => q.elim), (va_Z.moved hW.alike (h.2.1.kept hS.2.1)).narrow (fun _ q => q.elim), (va_Zq.moved hW.alike (h.2.2.kept hS.2.1)).narrow (fun _ q => q.elim)⟩
def tsP (adK adV : Nat → Nat) (av : List Value) : Array Value → State → Prop := va_Pc av (fun U => tsE adK adV FN U U.heap)
theorem tsP.blind {adK adV : Nat → Nat} {av : List Value} : FrameBlind (tsP adK adV av) := fun a U g mk q => ⟨q.1, q.2.go (va_S.rf (A := FN) (H0 := U.heap)) rfl (State.WarmedH.refl U)⟩
theorem tsP.go {adK adV : Nat → Nat} {A : Nat → Prop} {av : List Value} {s : State} {H : Heap} {locs : List Loc} (h : tsE adK adV A s s.heap) (hS : va_S A s.heap H locs) : ∀ U : State, U.heap = H → s.WarmedH U.vm → tsP adK adV av av.toArray U :=
  fun _ hU hW => ⟨rfl, h.go hS hU hW⟩
set_option maxHeartbeats 4000000 in
set_option maxRecDepth 100000 in
theorem jJ3_checkIndexN (l : Launch) (i n : Nat) (hi : i < n) (hn : n < 2 ^ 31) : Met l yJ3_checkIndex_8e157 wsJ3_checkIndex_8e157 ({ frames := 0, cells := 0, slots := 0, locals := 0 }) (va_Pc [.int (nI i), .int (nI n), .null] (fun _ => True)) (vp_Si (fun r => r = nI i)) 0 0 (fun _ => False) := by
  refine Met.ofW (cc := cJ3_checkIndex_8e157) (maxL := 3) (ret := (some .int)) (by decide) rfl ?_
  intro p e s m args below meth c s₁ B hml hv
  obtain ⟨rfl, -⟩ := hv
  have hx := B.exec
  have hb := B.bytes
  have hr := B.returns
  have hts := atoms_spec (ws := wsJ3_checkIndex_8e157) B.pre
  have hown : s.vm.findClass RJ3 = some m.cls := findClass_of_methodNamed B.named
  have hlocks := B.notSynchronized
  have hl := lv_entry ([.int (nI i), .int (nI n), .null]) (n := 3) (Nat.le_of_ble_eq_true rfl)
  rw [lg_entry_eq]
  generalize (lg_sl ([.int (nI i), .int (nI n), .null]) ++ List.replicate (3 - (lg_sl ([.int (nI i), .int (nI n), .null])).length) Slot.unset).toArray = ls at hl ⊢
  have hl : lv_has ls 3 [(0, .int (nI i)), (1, .int (nI n)), (2, .null)] := hl
  refine lv_iload_n hx hb dJ3_checkIndex_8e157_0 rfl (lv_at hl 0 rfl) ?_
  refine lv_if_lt (tgt := 9) hx hb dJ3_checkIndex_8e157_1 (by decide) (fun q => absurd q (nI_pos (by omega))) (fun _ => ?_)
  refine lv_iload_n hx hb dJ3_checkIndex_8e157_4 rfl (lv_at hl 0 rfl) ?_
  refine lv_iload_n hx hb dJ3_checkIndex_8e157_5 rfl (lv_at hl 1 rfl) ?_
  refine lv_icmp_lt (tgt := 16) hx hb dJ3_checkIndex_8e157_6 (by decide) (fun _ => ?_) (fun q => absurd (nI_lt hi hn) q)
  refine lv_iload_n hx hb dJ3_checkIndex_8e157_16 rfl (lv_at hl 0 rfl) ?_
  exact W.iret (v := nI i) hx hb hr (fun t9 ht9 hW9 => ⟨nI i, rfl, rfl, ht9⟩) (fun q hq => absurd hq List.not_mem_nil) dJ3_checkIndex_8e157_17
set_option maxHeartbeats 4000000 in
set_option maxRecDepth 100000 in
theorem jJ3_checkIndexR (l : Launch) (i n : Nat) (hi : i < n) (hn : n < 2 ^ 31) (q9 : Nat) : Met l yJ3_checkIndex_8e157 wsJ3_checkIndex_8e157 ({ frames := 0, cells := 0, slots := 0, locals := 0 }) (va_Pc [.int (nI i), .int (nI n), .ref q9] (fun _ => True)) (vp_Si (fun r => r = nI i)) 0 0 (fun _ => False) := by
  refine Met.ofW (cc := cJ3_checkIndex_8e157) (maxL := 3) (ret := (some .int)) (by decide) rfl ?_
  intro p e s m args below meth c s₁ B hml hv
  obtain ⟨rfl, -⟩ := hv
  have hx := B.exec
  have hb := B.bytes
  have hr := B.returns
  have hts := atoms_spec (ws := wsJ3_checkIndex_8e157) B.pre
  have hown : s.vm.findClass RJ3 = some m.cls := findClass_of_methodNamed B.named
  have hlocks := B.notSynchronized
  have hl := lv_entry ([.int (nI i), .int (nI n), .ref q9]) (n := 3) (Nat.le_of_ble_eq_true rfl)
  rw [lg_entry_eq]
  generalize (lg_sl ([.int (nI i), .int (nI n), .ref q9]) ++ List.replicate (3 - (lg_sl ([.int (nI i), .int (nI n), .ref q9])).length) Slot.unset).toArray = ls at hl ⊢
  have hl : lv_has ls 3 [(0, .int (nI i)), (1, .int (nI n)), (2, .ref q9)] := hl
  refine lv_iload_n hx hb dJ3_checkIndex_8e157_0 rfl (lv_at hl 0 rfl) ?_
  refine lv_if_lt (tgt := 9) hx hb dJ3_checkIndex_8e157_1 (by decide) (fun q => absurd q (nI_pos (by omega))) (fun _ => ?_)
  refine lv_iload_n hx hb dJ3_checkIndex_8e157_4 rfl (lv_at hl 0 rfl) ?_
  refine lv_iload_n hx hb dJ3_checkIndex_8e157_5 rfl (lv_at hl 1 rfl) ?_
  refine lv_icmp_lt (tgt := 16) hx hb dJ3_checkIndex_8e157_6 (by decide) (fun _ => ?_) (fun q => absurd (nI_lt hi hn) q)
  refine lv_iload_n hx hb dJ3_checkIndex_8e157_16 rfl (lv_at hl 0 rfl) ?_
  exact W.iret (v := nI i) hx hb hr (fun t9 ht9 hW9 => ⟨nI i, rfl, rfl, ht9⟩) (fun q hq => absurd hq List.not_mem_nil) dJ3_checkIndex_8e157_17
set_option maxHeartbeats 4000000 in
set_option maxRecDepth 100000 in
theorem jJ0_checkIndex (l : Launch) (adK adV : Nat → Nat) (i n : Nat) (hi : i < n) (hn : n < 2 ^ 31) : Met l yJ0_checkIndex_df160 wsJ0_checkIndex_df160 ({ frames := 1, cells := 0, slots := 0, locals := 22 }) (tsP adK adV [.int (nI i), .int (nI n)]) (va_Sv (fun _ => True)) 0 0 (fun _ => False) := by
  refine Met.ofW (cc := cJ0_checkIndex_df160) (maxL := 2) (ret := none) (by decide) rfl ?_
  intro p e s m args below meth c s₁ B hml hv
  obtain ⟨rfl, hE⟩ := hv
  have hx := B.exec
  have hb := B.bytes
  have hr := B.returns
  have hts := atoms_spec (ws := wsJ0_checkIndex_df160) B.pre
  have hown : s.vm.findClass RJ0 = some m.cls := findClass_of_methodNamed B.named
  have hlocks := B.notSynchronized
  have hl := lv_entry ([.int (nI i), .int (nI n)]) (n := 2) (Nat.le_of_ble_eq_true rfl)
  rw [lg_entry_eq]
  generalize (lg_sl ([.int (nI i), .int (nI n)]) ++ List.replicate (2 - (lg_sl ([.int (nI i), .int (nI n)])).length) Slot.unset).toArray = ls at hl ⊢
  have hl : lv_has ls 2 [(0, .int (nI i)), (1, .int (nI n))] := hl
  have hS : va_S FN s.heap s.heap [] := va_S.rf
  refine lv_iload_n hx hb dJ0_checkIndex_df160_0 rfl (lv_at hl 0 rfl) ?_
  refine lv_iload_n hx hb dJ0_checkIndex_df160_1 rfl (lv_at hl 1 rfl) ?_
  rcases hE.2.2 with hz | ⟨q9, hz⟩
  · refine va_gets hx hb (C := "jdk/internal/util/Preconditions") (ref := "jdk/internal/util/Preconditions") hz hS hown (hts (.fieldLink RJ0 1053 "jdk/internal/util/Preconditions" "SIOOBE_FORMATTER" "Ljava/util/function/BiFunction;") (by decide +kernel)) (fun _ h9 => h9) dJ0_checkIndex_df160_2 ?_
    refine vp_callSi (W.runS (As := [.int (nI i), .int (nI n), .null]) (rest := []) ⟨hx, hb, hml, hown, hts⟩ (jJ3_checkIndexN l i n hi hn) (va_cwS 3 hts gJ0_checkIndex_df160_J3_checkIndex_8e157 rfl rfl rfl (by decide +kernel) ⟨Nat.le_of_ble_eq_true rfl, Nat.le_of_ble_eq_true rfl⟩) ⟨fun a U g mk q => q, fun U hU hW => ⟨rfl, trivial⟩⟩ rfl rfl hl.1 rfl (lv_room (Nat.le_of_ble_eq_true rfl)) dJ0_checkIndex_df160_5 ⟨Nat.zero_le _, Nat.zero_le _⟩) (fun r9 h9 => ?_)
    refine lv_pop hx hb dJ0_checkIndex_df160_8 rfl ?_
    exact W.vret hx hb hr (fun t9 ht9 hW9 => ⟨rfl, trivial, ht9⟩) (fun q hq => absurd hq List.not_mem_nil) dJ0_checkIndex_df160_9
  · refine va_gets hx hb (C := "jdk/internal/util/Preconditions") (ref := "jdk/internal/util/Preconditions") hz hS hown (hts (.fieldLink RJ0 1053 "jdk/internal/util/Preconditions" "SIOOBE_FORMATTER" "Ljava/util/function/BiFunction;") (by decide +kernel)) (fun _ h9 => h9) dJ0_checkIndex_df160_2 ?_
    refine vp_callSi (W.runS (As := [.int (nI i), .int (nI n), .ref q9]) (rest := []) ⟨hx, hb, hml, hown, hts⟩ (jJ3_checkIndexR l i n hi hn q9) (va_cwS 3 hts gJ0_checkIndex_df160_J3_checkIndex_8e157 rfl rfl rfl (by decide +kernel) ⟨Nat.le_of_ble_eq_true rfl, Nat.le_of_ble_eq_true rfl⟩) ⟨fun a U g mk q => q, fun U hU hW => ⟨rfl, trivial⟩⟩ rfl rfl hl.1 rfl (lv_room (Nat.le_of_ble_eq_true rfl)) dJ0_checkIndex_df160_5 ⟨Nat.zero_le _, Nat.zero_le _⟩) (fun r9 h9 => ?_)
    refine lv_pop hx hb dJ0_checkIndex_df160_8 rfl ?_
    exact W.vret hx hb hr (fun t9 ht9 hW9 => ⟨rfl, trivial, ht9⟩) (fun q hq => absurd hq List.not_mem_nil) dJ0_checkIndex_df160_9
set_option maxHeartbeats 4000000 in
set_option maxRecDepth 100000 in
theorem jJ0_isLatin1 (l : Launch) (adK adV : Nat → Nat) (i : Nat) (hi : i < 8) : Met l yJ0_isLatin1_aae02 wsJ0_isLatin1_aae02 ({ frames := 0, cells := 0, slots := 0, locals := 0 }) (tsP adK adV [.ref (adK i)]) (vp_Si (fun r => r = 1)) 0 0 (fun _ => False) := by
  refine Met.ofW (cc := cJ0_isLatin1_aae02) (maxL := 1) (ret := (some .boolean)) (by decide) rfl ?_
  intro p e s m args below meth c s₁ B hml hv
  obtain ⟨rfl, hE⟩ := hv
  have hx := B.exec
  have hb := B.bytes
  have hr := B.returns
  have hts := atoms_spec (ws := wsJ0_isLatin1_aae02) B.pre
  have hown : s.vm.findClass RJ0 = some m.cls := findClass_of_methodNamed B.named
  have hlocks := B.notSynchronized
  have hl := lv_entry ([.ref (adK i)]) (n := 1) (Nat.le_of_ble_eq_true rfl)
  rw [lg_entry_eq]
  generalize (lg_sl ([.ref (adK i)]) ++ List.replicate (1 - (lg_sl ([.ref (adK i)])).length) Slot.unset).toArray = ls at hl ⊢
  have hl : lv_has ls 1 [(0, .ref (adK i))] := hl
  have hS : va_S FN s.heap s.heap [] := va_S.rf
  refine va_gets hx hb (C := "java/lang/String") (ref := "java/lang/String") hE.2.1 hS hown (hts (.fieldLink RJ0 38 "java/lang/String" "COMPACT_STRINGS" "Z") (by decide +kernel)) (fun _ h9 => h9) dJ0_isLatin1_aae02_0 ?_
  refine lv_if_eq (tgt := 17) hx hb dJ0_isLatin1_aae02_3 (by decide) (fun q => absurd q (by decide)) (fun _ => ?_)
  refine lv_aload_n hx hb dJ0_isLatin1_aae02_6 rfl (lv_at hl 0 rfl) ?_
  refine vk_getf hx hb (ref := "java/lang/String") (hE.1.1 i hi).2.1 hS hown (hts (.fieldLink RJ0 15 "java/lang/String" "coder" "B") (by decide +kernel)) (fun _ h9 => h9) dJ0_isLatin1_aae02_7 ?_
  refine lv_if_ne (tgt := 17) hx hb dJ0_isLatin1_aae02_10 (by decide) (fun q => absurd rfl q) (fun _ => ?_)
  refine lv_iconst (v := 1) hx hb dJ0_isLatin1_aae02_13 (by decide) ?_
  refine lv_goto (tgt := 18) hx hb dJ0_isLatin1_aae02_14 (by decide) ?_
  exact W.zret (ty := .boolean) (v := 1) hx hb hr rfl (fun t9 ht9 hW9 => ⟨1, rfl, rfl, ht9⟩) (fun q hq => absurd hq List.not_mem_nil) dJ0_isLatin1_aae02_18
set_option maxHeartbeats 4000000 in
set_option maxRecDepth 100000 in
theorem jJ1_charAt (l : Launch) (adK adV : Nat → Nat) (i k : Nat) (hi : i < 8) (hk : k < 8) : Met l yJ1_charAt_3b067 wsJ1_charAt_3b067 ({ frames := 2, cells := 0, slots := 0, locals := 43 }) (tsP adK adV [.ref (adV i), .int (nI k)]) (vp_Si (fun r => r = ts_b i k)) 0 0 (fun _ => False) := by
  refine Met.ofW (cc := cJ1_charAt_3b067) (maxL := 2) (ret := (some .char)) (by decide) rfl ?_
  intro p e s m args below meth c s₁ B hml hv
  obtain ⟨rfl, hE⟩ := hv
  have hx := B.exec
  have hb := B.bytes
  have hr := B.returns
  have hts := atoms_spec (ws := wsJ1_charAt_3b067) B.pre
  have hown : s.vm.findClass RJ1 = some m.cls := findClass_of_methodNamed B.named
  have hlocks := B.notSynchronized
  have hl := lv_entry ([.ref (adV i), .int (nI k)]) (n := 2) (Nat.le_of_ble_eq_true rfl)
  rw [lg_entry_eq]
  generalize (lg_sl ([.ref (adV i), .int (nI k)]) ++ List.replicate (2 - (lg_sl ([.ref (adV i), .int (nI k)])).length) Slot.unset).toArray = ls at hl ⊢
  have hl : lv_has ls 2 [(0, .ref (adV i)), (1, .int (nI k))] := hl
  have hS : va_S FN s.heap s.heap [] := va_S.rf
  have hT := (hE.1.1 i hi).2.2.2
  rw [ts_ln i hi] at hT
  refine lv_iload_n hx hb dJ1_charAt_3b067_0 rfl (lv_at hl 1 rfl) ?_
  refine lv_aload_n hx hb dJ1_charAt_3b067_1 rfl (lv_at hl 0 rfl) ?_
  refine va_tlen (v := nI 8) hx hb hT hS rfl dJ1_charAt_3b067_2 ?_
  refine va_csv (W.runS (As := [.int (nI k), .int (nI 8)]) (rest := []) ⟨hx, hb, hml, hown, hts⟩ (jJ0_checkIndex l adK adV k 8 hk (by decide)) (va_cwS 2 hts gJ1_charAt_3b067_J0_checkIndex_df160 rfl rfl rfl (by decide +kernel) ⟨Nat.le_of_ble_eq_true rfl, Nat.le_of_ble_eq_true rfl⟩) ⟨tsP.blind, tsP.go hE hS⟩ rfl rfl hl.1 rfl (lv_room (Nat.le_of_ble_eq_true rfl)) dJ1_charAt_3b067_3 ⟨Nat.zero_le _, Nat.zero_le _⟩) (fun _ => ?_)
  refine lv_aload_n hx hb dJ1_charAt_3b067_6 rfl (lv_at hl 0 rfl) ?_
  refine lv_iload_n hx hb dJ1_charAt_3b067_7 rfl (lv_at hl 1 rfl) ?_
  refine va_tb (v := .int (ts_b i k)) hx hb hT hS (vp_in_nI hk (by decide)) (by rw [nI_clamp (by omega)]; rfl) dJ1_charAt_3b067_8 ?_
  refine lv_sipush (v := 255) hx hb dJ1_charAt_3b067_9 (by decide) ?_
  refine lv_iand hx hb dJ1_charAt_3b067_12 ?_
  refine lv_i2c (v := ts_b i k) hx hb dJ1_charAt_3b067_13 (ts_ch i hi k hk) ?_
  exact W.zret (ty := .char) (v := ts_b i k) hx hb hr (ts_nar hi hk) (fun t9 ht9 hW9 => ⟨ts_b i k, rfl, rfl, ht9⟩) (fun q hq => absurd hq List.not_mem_nil) dJ1_charAt_3b067_14
set_option maxHeartbeats 4000000 in
set_option maxRecDepth 100000 in
theorem jJ0_charAt (l : Launch) (adK adV : Nat → Nat) (i k : Nat) (hi : i < 8) (hk : k < 8) : Met l yJ0_charAt_5068e wsJ0_charAt_5068e ({ frames := 3, cells := 0, slots := 0, locals := 64 }) (tsP adK adV [.ref (adK i), .int (nI k)]) (vp_Si (fun r => r = ts_b i k)) 0 0 (fun _ => False) := by
  refine Met.ofW (cc := cJ0_charAt_5068e) (maxL := 2) (ret := (some .char)) (by decide) rfl ?_
  intro p e s m args below meth c s₁ B hml hv
  obtain ⟨rfl, hE⟩ := hv
  have hx := B.exec
  have hb := B.bytes
  have hr := B.returns
  have hts := atoms_spec (ws := wsJ0_charAt_5068e) B.pre
  have hown : s.vm.findClass RJ0 = some m.cls := findClass_of_methodNamed B.named
  have hlocks := B.notSynchronized
  have hl := lv_entry ([.ref (adK i), .int (nI k)]) (n := 2) (Nat.le_of_ble_eq_true rfl)
  rw [lg_entry_eq]
  generalize (lg_sl ([.ref (adK i), .int (nI k)]) ++ List.replicate (2 - (lg_sl ([.ref (adK i), .int (nI k)])).length) Slot.unset).toArray = ls at hl ⊢
  have hl : lv_has ls 2 [(0, .ref (adK i)), (1, .int (nI k))] := hl
  have hS : va_S FN s.heap s.heap [] := va_S.rf
  refine lv_aload_n hx hb dJ0_charAt_5068e_0 rfl (lv_at hl 0 rfl) ?_
  refine vp_callSi (tc_CR (va_runV (As := []) (rest := []) ⟨hx, hb, hml, hown, hts⟩ (jJ0_isLatin1 l adK adV i hi) (cwV 0 hts gJ0_charAt_5068e_J0_isLatin1_aae02 rfl rfl rfl (by decide +kernel) ⟨Nat.le_of_ble_eq_true rfl, Nat.le_of_ble_eq_true rfl⟩) ⟨tsP.blind, vk_recv hE.1 hi hS, tsP.go hE hS⟩ rfl rfl hl.1 rfl (lv_room (Nat.le_of_ble_eq_true rfl)) dJ0_charAt_5068e_1 ⟨Nat.zero_le _, Nat.zero_le _⟩)) (fun r9 h9 => ?_)
  subst h9
  refine lv_if_eq (tgt := 16) hx hb dJ0_charAt_5068e_4 (by decide) (fun q => absurd q (by decide)) (fun _ => ?_)
  refine lv_aload_n hx hb dJ0_charAt_5068e_7 rfl (lv_at hl 0 rfl) ?_
  refine vk_getf hx hb (ref := "java/lang/String") (hE.1.1 i hi).2.2.1 hS hown (hts (.fieldLink RJ0 9 "java/lang/String" "value" "[B") (by decide +kernel)) (fun _ h9 => h9) dJ0_charAt_5068e_8 ?_
  refine lv_iload_n hx hb dJ0_charAt_5068e_11 rfl (lv_at hl 1 rfl) ?_
  refine vp_callSi (W.runS (As := [.ref (adV i), .int (nI k)]) (rest := []) ⟨hx, hb, hml, hown, hts⟩ (jJ1_charAt l adK adV i k hi hk) (va_cwS 2 hts gJ0_charAt_5068e_J1_charAt_3b067 rfl rfl rfl (by decide +kernel) ⟨Nat.le_of_ble_eq_true rfl, Nat.le_of_ble_eq_true rfl⟩) ⟨tsP.blind, tsP.go hE hS⟩ rfl rfl hl.1 rfl (lv_room (Nat.le_of_ble_eq_true rfl)) dJ0_charAt_5068e_12 ⟨Nat.zero_le _, Nat.zero_le _⟩) (fun r9 h9 => ?_)
  subst h9
  exact W.zret (ty := .char) (v := ts_b i k) hx hb hr (ts_nar hi hk) (fun t9 ht9 hW9 => ⟨ts_b i k, rfl, rfl, ht9⟩) (fun q hq => absurd hq List.not_mem_nil) dJ0_charAt_5068e_15
/-! THE LAW'S HELPERS -/
def tsR (adK : Nat → Nat) (U : State) : Prop := vk_R RL 9 "b......." (adK 0) U ∧ vk_R RL 11 ".b.sijfd" (adK 1) U ∧ vk_R RL 13 "..c.ijfd" (adK 2) U ∧ vk_R RL 15 "...sijfd" (adK 3) U ∧ vk_R RL 17 "....ijfd" (adK 4) U ∧ vk_R RL 19 ".....jfd" (adK 5) U ∧ vk_R RL 21 "......fd" (adK 6) U ∧ vk_R RL 23 ".......d" (adK 7) U
theorem tsR.go {adK : Nat → Nat} {s U : State} (h : tsR adK s) (hW : s.WarmedH U.vm) : tsR adK U := by
  obtain ⟨h0, h1, h2, h3, h4, h5, h6, h7⟩ := h
  exact ⟨vk_R.warm hW h0, vk_R.warm hW h1, vk_R.warm hW h2, vk_R.warm hW h3, vk_R.warm hW h4, vk_R.warm hW h5, vk_R.warm hW h6, vk_R.warm hW h7⟩
def twP (adK adV : Nat → Nat) (av : List Value) : Array Value → State → Prop := va_Pc av (fun U => tsE adK adV FN U U.heap ∧ tsR adK U)
theorem twP.blind {adK adV : Nat → Nat} {av : List Value} : FrameBlind (twP adK adV av) := fun a U g mk q => ⟨q.1, q.2.1.go (va_S.rf (A := FN) (H0 := U.heap)) rfl (State.WarmedH.refl U), q.2.2.go (State.WarmedH.refl U)⟩
theorem twP.go {adK adV : Nat → Nat} {A : Nat → Prop} {av : List Value} {s : State} {H : Heap} {locs : List Loc} (h : tsE adK adV A s s.heap) (h2 : tsR adK s) (hS : va_S A s.heap H locs) : ∀ U : State, U.heap = H → s.WarmedH U.vm → twP adK adV av av.toArray U :=
  fun _ hU hW => ⟨rfl, h.go hS hU hW, h2.go hW⟩
set_option maxHeartbeats 4000000 in
set_option maxRecDepth 100000 in
theorem lL_widens0 (l : Launch) (adK adV : Nat → Nat) (k : Nat) (hk : k < 8) : Met l yL_widens wsL_widens ({ frames := 4, cells := 0, slots := 0, locals := 85 }) (twP adK adV [.int (nI (0 + 1)), .int (nI (k + 1))]) (vp_Si (fun r => r = tb (kWid (nI (0 + 1)) (nI (k + 1))))) 0 0 (fun _ => False) := by
  refine Met.ofW (cc := cL_widens) (maxL := 3) (ret := (some .boolean)) (by decide) rfl ?_
  intro p e s m args below meth c s₁ B hml hv
  obtain ⟨rfl, hE, hR⟩ := hv
  have hx := B.exec
  have hb := B.bytes
  have hr := B.returns
  have hts := atoms_spec (ws := wsL_widens) B.pre
  have hown : s.vm.findClass RL = some m.cls := findClass_of_methodNamed B.named
  have hlocks := B.notSynchronized
  have hl := lv_entry ([.int (nI (0 + 1)), .int (nI (k + 1))]) (n := 3) (Nat.le_of_ble_eq_true rfl)
  rw [lg_entry_eq]
  generalize (lg_sl ([.int (nI (0 + 1)), .int (nI (k + 1))]) ++ List.replicate (3 - (lg_sl ([.int (nI (0 + 1)), .int (nI (k + 1))])).length) Slot.unset).toArray = ls at hl ⊢
  have hl : lv_has ls 3 [(0, .int 1), (1, .int (nI (k + 1)))] := hl
  have hS : va_S FN s.heap s.heap [] := va_S.rf
  obtain ⟨h0, h1, h2, h3, h4, h5, h6, h7⟩ := hR
  refine lv_iload_n hx hb dL_widens_0 rfl (lv_at hl 0 rfl) ?_
  refine lv_iconst (v := 1) hx hb dL_widens_1 (by decide) ?_
  refine lv_icmp_ne (tgt := 10) hx hb dL_widens_2 (by decide) (fun q => absurd rfl q) (fun _ => ?_)
  refine va_ldcS hx hb hown h0 dL_widens_5 ?_
  refine lv_goto (tgt := 74) hx hb dL_widens_7 (by decide) ?_
  refine lv_astore_n (lv' := [(2, .ref (adK 0)), (0, .int 1), (1, .int (nI (k + 1)))]) hx hb dL_widens_74 rfl hl (by decide) rfl (fun ls hl => ?_)
  refine lv_aload_n hx hb dL_widens_75 rfl (lv_at hl 0 rfl) ?_
  refine lv_iload_n hx hb dL_widens_76 rfl (lv_at hl 2 rfl) ?_
  refine lv_iconst (v := 1) hx hb dL_widens_77 (by decide) ?_
  refine lv_isub hx hb dL_widens_78 ?_
  refine lv_topi (fun x ex => ?_)
  obtain rfl : x = nI k := by
    rw [ex]
    show nI (k + 1) - nI 1 = nI k
    rw [pk_sub (by omega)]
    rfl
  refine vp_callSi (tc_CR (va_runV (As := [.int (nI k)]) (rest := []) ⟨hx, hb, hml, hown, hts⟩ (jJ0_charAt l adK adV 0 k (by decide) hk) (cwV 1 hts gL_widens_J0_charAt_5068e rfl rfl rfl (by decide +kernel) ⟨Nat.le_of_ble_eq_true rfl, Nat.le_of_ble_eq_true rfl⟩) ⟨tsP.blind, vk_recv hE.1 (by decide) hS, tsP.go hE hS⟩ rfl rfl hl.1 rfl (lv_room (Nat.le_of_ble_eq_true rfl)) dL_widens_79 ⟨Nat.zero_le _, Nat.zero_le _⟩)) (fun r9 h9 => ?_)
  subst h9
  refine lv_bipush (v := 46) hx hb dL_widens_82 (by decide) ?_
  have hw := ts_wid 0 (by decide) k hk
  refine lv_icmp_eq (tgt := 91) hx hb dL_widens_84 (by decide) (fun c1 => ?_) (fun c1 => ?_)
  · refine lv_iconst (v := 0) hx hb dL_widens_91 (by decide) ?_
    exact W.zret (ty := .boolean) (v := 0) hx hb hr rfl (fun t9 ht9 hW9 => ⟨0, rfl, (tb_f (hw.mp c1)).symm, ht9⟩) (fun q hq => absurd hq List.not_mem_nil) dL_widens_92
  · refine lv_iconst (v := 1) hx hb dL_widens_87 (by decide) ?_
    refine lv_goto (tgt := 92) hx hb dL_widens_88 (by decide) ?_
    exact W.zret (ty := .boolean) (v := 1) hx hb hr rfl (fun t9 ht9 hW9 => ⟨1, rfl, (tb_t (by cases hz : kWid (nI (0 + 1)) (nI (k + 1)) with | true => rfl | false => exact absurd (hw.mpr hz) c1)).symm, ht9⟩) (fun q hq => absurd hq List.not_mem_nil) dL_widens_92
set_option maxHeartbeats 4000000 in
set_option maxRecDepth 100000 in
theorem lL_widens1 (l : Launch) (adK adV : Nat → Nat) (k : Nat) (hk : k < 8) : Met l yL_widens wsL_widens ({ frames := 4, cells := 0, slots := 0, locals := 85 }) (twP adK adV [.int (nI (1 + 1)), .int (nI (k + 1))]) (vp_Si (fun r => r = tb (kWid (nI (1 + 1)) (nI (k + 1))))) 0 0 (fun _ => False) := by
  refine Met.ofW (cc := cL_widens) (maxL := 3) (ret := (some .boolean)) (by decide) rfl ?_
  intro p e s m args below meth c s₁ B hml hv
  obtain ⟨rfl, hE, hR⟩ := hv
  have hx := B.exec
  have hb := B.bytes
  have hr := B.returns
  have hts := atoms_spec (ws := wsL_widens) B.pre
  have hown : s.vm.findClass RL = some m.cls := findClass_of_methodNamed B.named
  have hlocks := B.notSynchronized
  have hl := lv_entry ([.int (nI (1 + 1)), .int (nI (k + 1))]) (n := 3) (Nat.le_of_ble_eq_true rfl)
  rw [lg_entry_eq]
  generalize (lg_sl ([.int (nI (1 + 1)), .int (nI (k + 1))]) ++ List.replicate (3 - (lg_sl ([.int (nI (1 + 1)), .int (nI (k + 1))])).length) Slot.unset).toArray = ls at hl ⊢
  have hl : lv_has ls 3 [(0, .int 2), (1, .int (nI (k + 1)))] := hl
  have hS : va_S FN s.heap s.heap [] := va_S.rf
  obtain ⟨h0, h1, h2, h3, h4, h5, h6, h7⟩ := hR
  refine lv_iload_n hx hb dL_widens_0 rfl (lv_at hl 0 rfl) ?_
  refine lv_iconst (v := 1) hx hb dL_widens_1 (by decide) ?_
  refine lv_icmp_ne (tgt := 10) hx hb dL_widens_2 (by decide) (fun _ => ?_) (fun q => absurd q (by decide))
  refine lv_iload_n hx hb dL_widens_10 rfl (lv_at hl 0 rfl) ?_
  refine lv_iconst (v := 2) hx hb dL_widens_11 (by decide) ?_
  refine lv_icmp_ne (tgt := 20) hx hb dL_widens_12 (by decide) (fun q => absurd rfl q) (fun _ => ?_)
  refine va_ldcS hx hb hown h1 dL_widens_15 ?_
  refine lv_goto (tgt := 74) hx hb dL_widens_17 (by decide) ?_
  refine lv_astore_n (lv' := [(2, .ref (adK 1)), (0, .int 2), (1, .int (nI (k + 1)))]) hx hb dL_widens_74 rfl hl (by decide) rfl (fun ls hl => ?_)
  refine lv_aload_n hx hb dL_widens_75 rfl (lv_at hl 0 rfl) ?_
  refine lv_iload_n hx hb dL_widens_76 rfl (lv_at hl 2 rfl) ?_
  refine lv_iconst (v := 1) hx hb dL_widens_77 (by decide) ?_
  refine lv_isub hx hb dL_widens_78 ?_
  refine lv_topi (fun x ex => ?_)
  obtain rfl : x = nI k := by
    rw [ex]
    show nI (k + 1) - nI 1 = nI k
    rw [pk_sub (by omega)]
    rfl
  refine vp_callSi (tc_CR (va_runV (As := [.int (nI k)]) (rest := []) ⟨hx, hb, hml, hown, hts⟩ (jJ0_charAt l adK adV 1 k (by decide) hk) (cwV 1 hts gL_widens_J0_charAt_5068e rfl rfl rfl (by decide +kernel) ⟨Nat.le_of_ble_eq_true rfl, Nat.le_of_ble_eq_true rfl⟩) ⟨tsP.blind, vk_recv hE.1 (by decide) hS, tsP.go hE hS⟩ rfl rfl hl.1 rfl (lv_room (Nat.le_of_ble_eq_true rfl)) dL_widens_79 ⟨Nat.zero_le _, Nat.zero_le _⟩)) (fun r9 h9 => ?_)
  subst h9
  refine lv_bipush (v := 46) hx hb dL_widens_82 (by decide) ?_
  have hw := ts_wid 1 (by decide) k hk
  refine lv_icmp_eq (tgt := 91) hx hb dL_widens_84 (by decide) (fun c1 => ?_) (fun c1 => ?_)
  · refine lv_iconst (v := 0) hx hb dL_widens_91 (by decide) ?_
    exact W.zret (ty := .boolean) (v := 0) hx hb hr rfl (fun t9 ht9 hW9 => ⟨0, rfl, (tb_f (hw.mp c1)).symm, ht9⟩) (fun q hq => absurd hq List.not_mem_nil) dL_widens_92
  · refine lv_iconst (v := 1) hx hb dL_widens_87 (by decide) ?_
    refine lv_goto (tgt := 92) hx hb dL_widens_88 (by decide) ?_
    exact W.zret (ty := .boolean) (v := 1) hx hb hr rfl (fun t9 ht9 hW9 => ⟨1, rfl, (tb_t (by cases hz : kWid (nI (1 + 1)) (nI (k + 1)) with | true => rfl | false => exact absurd (hw.mpr hz) c1)).symm, ht9⟩) (fun q hq => absurd hq List.not_mem_nil) dL_widens_92
set_option maxHeartbeats 4000000 in
set_option maxRecDepth 100000 in
theorem lL_widens2 (l : Launch) (adK adV : Nat → Nat) (k : Nat) (hk : k < 8) : Met l yL_widens wsL_widens ({ frames := 4, cells := 0, slots := 0, locals := 85 }) (twP adK adV [.int (nI (2 + 1)), .int (nI (k + 1))]) (vp_Si (fun r => r = tb (kWid (nI (2 + 1)) (nI (k + 1))))) 0 0 (fun _ => False) := by
  refine Met.ofW (cc := cL_widens) (maxL := 3) (ret := (some .boolean)) (by decide) rfl ?_
  intro p e s m args below meth c s₁ B hml hv
  obtain ⟨rfl, hE, hR⟩ := hv
  have hx := B.exec
  have hb := B.bytes
  have hr := B.returns
  have hts := atoms_spec (ws := wsL_widens) B.pre
  have hown : s.vm.findClass RL = some m.cls := findClass_of_methodNamed B.named
  have hlocks := B.notSynchronized
  have hl := lv_entry ([.int (nI (2 + 1)), .int (nI (k + 1))]) (n := 3) (Nat.le_of_ble_eq_true rfl)
  rw [lg_entry_eq]
  generalize (lg_sl ([.int (nI (2 + 1)), .int (nI (k + 1))]) ++ List.replicate (3 - (lg_sl ([.int (nI (2 + 1)), .int (nI (k + 1))])).length) Slot.unset).toArray = ls at hl ⊢
  have hl : lv_has ls 3 [(0, .int 3), (1, .int (nI (k + 1)))] := hl
  have hS : va_S FN s.heap s.heap [] := va_S.rf
  obtain ⟨h0, h1, h2, h3, h4, h5, h6, h7⟩ := hR
  refine lv_iload_n hx hb dL_widens_0 rfl (lv_at hl 0 rfl) ?_
  refine lv_iconst (v := 1) hx hb dL_widens_1 (by decide) ?_
  refine lv_icmp_ne (tgt := 10) hx hb dL_widens_2 (by decide) (fun _ => ?_) (fun q => absurd q (by decide))
  refine lv_iload_n hx hb dL_widens_10 rfl (lv_at hl 0 rfl) ?_
  refine lv_iconst (v := 2) hx hb dL_widens_11 (by decide) ?_
  refine lv_icmp_ne (tgt := 20) hx hb dL_widens_12 (by decide) (fun _ => ?_) (fun q => absurd q (by decide))
  refine lv_iload_n hx hb dL_widens_20 rfl (lv_at hl 0 rfl) ?_
  refine lv_iconst (v := 3) hx hb dL_widens_21 (by decide) ?_
  refine lv_icmp_ne (tgt := 30) hx hb dL_widens_22 (by decide) (fun q => absurd rfl q) (fun _ => ?_)
  refine va_ldcS hx hb hown h2 dL_widens_25 ?_
  refine lv_goto (tgt := 74) hx hb dL_widens_27 (by decide) ?_
  refine lv_astore_n (lv' := [(2, .ref (adK 2)), (0, .int 3), (1, .int (nI (k + 1)))]) hx hb dL_widens_74 rfl hl (by decide) rfl (fun ls hl => ?_)
  refine lv_aload_n hx hb dL_widens_75 rfl (lv_at hl 0 rfl) ?_
  refine lv_iload_n hx hb dL_widens_76 rfl (lv_at hl 2 rfl) ?_
  refine lv_iconst (v := 1) hx hb dL_widens_77 (by decide) ?_
  refine lv_isub hx hb dL_widens_78 ?_
  refine lv_topi (fun x ex => ?_)
  obtain rfl : x = nI k := by
    rw [ex]
    show nI (k + 1) - nI 1 = nI k
    rw [pk_sub (by omega)]
    rfl
  refine vp_callSi (tc_CR (va_runV (As := [.int (nI k)]) (rest := []) ⟨hx, hb, hml, hown, hts⟩ (jJ0_charAt l adK adV 2 k (by decide) hk) (cwV 1 hts gL_widens_J0_charAt_5068e rfl rfl rfl (by decide +kernel) ⟨Nat.le_of_ble_eq_true rfl, Nat.le_of_ble_eq_true rfl⟩) ⟨tsP.blind, vk_recv hE.1 (by decide) hS, tsP.go hE hS⟩ rfl rfl hl.1 rfl (lv_room (Nat.le_of_ble_eq_true rfl)) dL_widens_79 ⟨Nat.zero_le _, Nat.zero_le _⟩)) (fun r9 h9 => ?_)
  subst h9
  refine lv_bipush (v := 46) hx hb dL_widens_82 (by decide) ?_
  have hw := ts_wid 2 (by decide) k hk
  refine lv_icmp_eq (tgt := 91) hx hb dL_widens_84 (by decide) (fun c1 => ?_) (fun c1 => ?_)
  · refine lv_iconst (v := 0) hx hb dL_widens_91 (by decide) ?_
    exact W.zret (ty := .boolean) (v := 0) hx hb hr rfl (fun t9 ht9 hW9 => ⟨0, rfl, (tb_f (hw.mp c1)).symm, ht9⟩) (fun q hq => absurd hq List.not_mem_nil) dL_widens_92
  · refine lv_iconst (v := 1) hx hb dL_widens_87 (by decide) ?_
    refine lv_goto (tgt := 92) hx hb dL_widens_88 (by decide) ?_
    exact W.zret (ty := .boolean) (v := 1) hx hb hr rfl (fun t9 ht9 hW9 => ⟨1, rfl, (tb_t (by cases hz : kWid (nI (2 + 1)) (nI (k + 1)) with | true => rfl | false => exact absurd (hw.mpr hz) c1)).symm, ht9⟩) (fun q hq => absurd hq List.not_mem_nil) dL_widens_92
set_option maxHeartbeats 4000000 in
set_option maxRecDepth 100000 in
theorem lL_widens3 (l : Launch) (adK adV : Nat → Nat) (k : Nat) (hk : k < 8) : Met l yL_widens wsL_widens ({ frames := 4, cells := 0, slots := 0, locals := 85 }) (twP adK adV [.int (nI (3 + 1)), .int (nI (k + 1))]) (vp_Si (fun r => r = tb (kWid (nI (3 + 1)) (nI (k + 1))))) 0 0 (fun _ => False) := by
  refine Met.ofW (cc := cL_widens) (maxL := 3) (ret := (some .boolean)) (by decide) rfl ?_
  intro p e s m args below meth c s₁ B hml hv
  obtain ⟨rfl, hE, hR⟩ := hv
  have hx := B.exec
  have hb := B.bytes
  have hr := B.returns
  have hts := atoms_spec (ws := wsL_widens) B.pre
  have hown : s.vm.findClass RL = some m.cls := findClass_of_methodNamed B.named
  have hlocks := B.notSynchronized
  have hl := lv_entry ([.int (nI (3 + 1)), .int (nI (k + 1))]) (n := 3) (Nat.le_of_ble_eq_true rfl)
  rw [lg_entry_eq]
  generalize (lg_sl ([.int (nI (3 + 1)), .int (nI (k + 1))]) ++ List.replicate (3 - (lg_sl ([.int (nI (3 + 1)), .int (nI (k + 1))])).length) Slot.unset).toArray = ls at hl ⊢
  have hl : lv_has ls 3 [(0, .int 4), (1, .int (nI (k + 1)))] := hl
  have hS : va_S FN s.heap s.heap [] := va_S.rf
  obtain ⟨h0, h1, h2, h3, h4, h5, h6, h7⟩ := hR
  refine lv_iload_n hx hb dL_widens_0 rfl (lv_at hl 0 rfl) ?_
  refine lv_iconst (v := 1) hx hb dL_widens_1 (by decide) ?_
  refine lv_icmp_ne (tgt := 10) hx hb dL_widens_2 (by decide) (fun _ => ?_) (fun q => absurd q (by decide))
  refine lv_iload_n hx hb dL_widens_10 rfl (lv_at hl 0 rfl) ?_
  refine lv_iconst (v := 2) hx hb dL_widens_11 (by decide) ?_
  refine lv_icmp_ne (tgt := 20) hx hb dL_widens_12 (by decide) (fun _ => ?_) (fun q => absurd q (by decide))
  refine lv_iload_n hx hb dL_widens_20 rfl (lv_at hl 0 rfl) ?_
  refine lv_iconst (v := 3) hx hb dL_widens_21 (by decide) ?_
  refine lv_icmp_ne (tgt := 30) hx hb dL_widens_22 (by decide) (fun _ => ?_) (fun q => absurd q (by decide))
  refine lv_iload_n hx hb dL_widens_30 rfl (lv_at hl 0 rfl) ?_
  refine lv_iconst (v := 4) hx hb dL_widens_31 (by decide) ?_
  refine lv_icmp_ne (tgt := 40) hx hb dL_widens_32 (by decide) (fun q => absurd rfl q) (fun _ => ?_)
  refine va_ldcS hx hb hown h3 dL_widens_35 ?_
  refine lv_goto (tgt := 74) hx hb dL_widens_37 (by decide) ?_
  refine lv_astore_n (lv' := [(2, .ref (adK 3)), (0, .int 4), (1, .int (nI (k + 1)))]) hx hb dL_widens_74 rfl hl (by decide) rfl (fun ls hl => ?_)
  refine lv_aload_n hx hb dL_widens_75 rfl (lv_at hl 0 rfl) ?_
  refine lv_iload_n hx hb dL_widens_76 rfl (lv_at hl 2 rfl) ?_
  refine lv_iconst (v := 1) hx hb dL_widens_77 (by decide) ?_
  refine lv_isub hx hb dL_widens_78 ?_
  refine lv_topi (fun x ex => ?_)
  obtain rfl : x = nI k := by
    rw [ex]
    show nI (k + 1) - nI 1 = nI k
    rw [pk_sub (by omega)]
    rfl
  refine vp_callSi (tc_CR (va_runV (As := [.int (nI k)]) (rest := []) ⟨hx, hb, hml, hown, hts⟩ (jJ0_charAt l adK adV 3 k (by decide) hk) (cwV 1 hts gL_widens_J0_charAt_5068e rfl rfl rfl (by decide +kernel) ⟨Nat.le_of_ble_eq_true rfl, Nat.le_of_ble_eq_true rfl⟩) ⟨tsP.blind, vk_recv hE.1 (by decide) hS, tsP.go hE hS⟩ rfl rfl hl.1 rfl (lv_room (Nat.le_of_ble_eq_true rfl)) dL_widens_79 ⟨Nat.zero_le _, Nat.zero_le _⟩)) (fun r9 h9 => ?_)
  subst h9
  refine lv_bipush (v := 46) hx hb dL_widens_82 (by decide) ?_
  have hw := ts_wid 3 (by decide) k hk
  refine lv_icmp_eq (tgt := 91) hx hb dL_widens_84 (by decide) (fun c1 => ?_) (fun c1 => ?_)
  · refine lv_iconst (v := 0) hx hb dL_widens_91 (by decide) ?_
    exact W.zret (ty := .boolean) (v := 0) hx hb hr rfl (fun t9 ht9 hW9 => ⟨0, rfl, (tb_f (hw.mp c1)).symm, ht9⟩) (fun q hq => absurd hq List.not_mem_nil) dL_widens_92
  · refine lv_iconst (v := 1) hx hb dL_widens_87 (by decide) ?_
    refine lv_goto (tgt := 92) hx hb dL_widens_88 (by decide) ?_
    exact W.zret (ty := .boolean) (v := 1) hx hb hr rfl (fun t9 ht9 hW9 => ⟨1, rfl, (tb_t (by cases hz : kWid (nI (3 + 1)) (nI (k + 1)) with | true => rfl | false => exact absurd (hw.mpr hz) c1)).symm, ht9⟩) (fun q hq => absurd hq List.not_mem_nil) dL_widens_92
set_option maxHeartbeats 4000000 in
set_option maxRecDepth 100000 in
theorem lL_widens4 (l : Launch) (adK adV : Nat → Nat) (k : Nat) (hk : k < 8) : Met l yL_widens wsL_widens ({ frames := 4, cells := 0, slots := 0, locals := 85 }) (twP adK adV [.int (nI (4 + 1)), .int (nI (k + 1))]) (vp_Si (fun r => r = tb (kWid (nI (4 + 1)) (nI (k + 1))))) 0 0 (fun _ => False) := by
  refine Met.ofW (cc := cL_widens) (maxL := 3) (ret := (some .boolean)) (by decide) rfl ?_
  intro p e s m args below meth c s₁ B hml hv
  obtain ⟨rfl, hE, hR⟩ := hv
  have hx := B.exec
  have hb := B.bytes
  have hr := B.returns
  have hts := atoms_spec (ws := wsL_widens) B.pre
  have hown : s.vm.findClass RL = some m.cls := findClass_of_methodNamed B.named
  have hlocks := B.notSynchronized
  have hl := lv_entry ([.int (nI (4 + 1)), .int (nI (k + 1))]) (n := 3) (Nat.le_of_ble_eq_true rfl)
  rw [lg_entry_eq]
  generalize (lg_sl ([.int (nI (4 + 1)), .int (nI (k + 1))]) ++ List.replicate (3 - (lg_sl ([.int (nI (4 + 1)), .int (nI (k + 1))])).length) Slot.unset).toArray = ls at hl ⊢
  have hl : lv_has ls 3 [(0, .int 5), (1, .int (nI (k + 1)))] := hl
  have hS : va_S FN s.heap s.heap [] := va_S.rf
  obtain ⟨h0, h1, h2, h3, h4, h5, h6, h7⟩ := hR
  refine lv_iload_n hx hb dL_widens_0 rfl (lv_at hl 0 rfl) ?_
  refine lv_iconst (v := 1) hx hb dL_widens_1 (by decide) ?_
  refine lv_icmp_ne (tgt := 10) hx hb dL_widens_2 (by decide) (fun _ => ?_) (fun q => absurd q (by decide))
  refine lv_iload_n hx hb dL_widens_10 rfl (lv_at hl 0 rfl) ?_
  refine lv_iconst (v := 2) hx hb dL_widens_11 (by decide) ?_
  refine lv_icmp_ne (tgt := 20) hx hb dL_widens_12 (by decide) (fun _ => ?_) (fun q => absurd q (by decide))
  refine lv_iload_n hx hb dL_widens_20 rfl (lv_at hl 0 rfl) ?_
  refine lv_iconst (v := 3) hx hb dL_widens_21 (by decide) ?_
  refine lv_icmp_ne (tgt := 30) hx hb dL_widens_22 (by decide) (fun _ => ?_) (fun q => absurd q (by decide))
  refine lv_iload_n hx hb dL_widens_30 rfl (lv_at hl 0 rfl) ?_
  refine lv_iconst (v := 4) hx hb dL_widens_31 (by decide) ?_
  refine lv_icmp_ne (tgt := 40) hx hb dL_widens_32 (by decide) (fun _ => ?_) (fun q => absurd q (by decide))
  refine lv_iload_n hx hb dL_widens_40 rfl (lv_at hl 0 rfl) ?_
  refine lv_iconst (v := 5) hx hb dL_widens_41 (by decide) ?_
  refine lv_icmp_ne (tgt := 50) hx hb dL_widens_42 (by decide) (fun q => absurd rfl q) (fun _ => ?_)
  refine va_ldcS hx hb hown h4 dL_widens_45 ?_
  refine lv_goto (tgt := 74) hx hb dL_widens_47 (by decide) ?_
  refine lv_astore_n (lv' := [(2, .ref (adK 4)), (0, .int 5), (1, .int (nI (k + 1)))]) hx hb dL_widens_74 rfl hl (by decide) rfl (fun ls hl => ?_)
  refine lv_aload_n hx hb dL_widens_75 rfl (lv_at hl 0 rfl) ?_
  refine lv_iload_n hx hb dL_widens_76 rfl (lv_at hl 2 rfl) ?_
  refine lv_iconst (v := 1) hx hb dL_widens_77 (by decide) ?_
  refine lv_isub hx hb dL_widens_78 ?_
  refine lv_topi (fun x ex => ?_)
  obtain rfl : x = nI k := by
    rw [ex]
    show nI (k + 1) - nI 1 = nI k
    rw [pk_sub (by omega)]
    rfl
  refine vp_callSi (tc_CR (va_runV (As := [.int (nI k)]) (rest := []) ⟨hx, hb, hml, hown, hts⟩ (jJ0_charAt l adK adV 4 k (by decide) hk) (cwV 1 hts gL_widens_J0_charAt_5068e rfl rfl rfl (by decide +kernel) ⟨Nat.le_of_ble_eq_true rfl, Nat.le_of_ble_eq_true rfl⟩) ⟨tsP.blind, vk_recv hE.1 (by decide) hS, tsP.go hE hS⟩ rfl rfl hl.1 rfl (lv_room (Nat.le_of_ble_eq_true rfl)) dL_widens_79 ⟨Nat.zero_le _, Nat.zero_le _⟩)) (fun r9 h9 => ?_)
  subst h9
  refine lv_bipush (v := 46) hx hb dL_widens_82 (by decide) ?_
  have hw := ts_wid 4 (by decide) k hk
  refine lv_icmp_eq (tgt := 91) hx hb dL_widens_84 (by decide) (fun c1 => ?_) (fun c1 => ?_)
  · refine lv_iconst (v := 0) hx hb dL_widens_91 (by decide) ?_
    exact W.zret (ty := .boolean) (v := 0) hx hb hr rfl (fun t9 ht9 hW9 => ⟨0, rfl, (tb_f (hw.mp c1)).symm, ht9⟩) (fun q hq => absurd hq List.not_mem_nil) dL_widens_92
  · refine lv_iconst (v := 1) hx hb dL_widens_87 (by decide) ?_
    refine lv_goto (tgt := 92) hx hb dL_widens_88 (by decide) ?_
    exact W.zret (ty := .boolean) (v := 1) hx hb hr rfl (fun t9 ht9 hW9 => ⟨1, rfl, (tb_t (by cases hz : kWid (nI (4 + 1)) (nI (k + 1)) with | true => rfl | false => exact absurd (hw.mpr hz) c1)).symm, ht9⟩) (fun q hq => absurd hq List.not_mem_nil) dL_widens_92
set_option maxHeartbeats 4000000 in
set_option maxRecDepth 100000 in
theorem lL_widens5 (l : Launch) (adK adV : Nat → Nat) (k : Nat) (hk : k < 8) : Met l yL_widens wsL_widens ({ frames := 4, cells := 0, slots := 0, locals := 85 }) (twP adK adV [.int (nI (5 + 1)), .int (nI (k + 1))]) (vp_Si (fun r => r = tb (kWid (nI (5 + 1)) (nI (k + 1))))) 0 0 (fun _ => False) := by
  refine Met.ofW (cc := cL_widens) (maxL := 3) (ret := (some .boolean)) (by decide) rfl ?_
  intro p e s m args below meth c s₁ B hml hv
  obtain ⟨rfl, hE, hR⟩ := hv
  have hx := B.exec
  have hb := B.bytes
  have hr := B.returns
  have hts := atoms_spec (ws := wsL_widens) B.pre
  have hown : s.vm.findClass RL = some m.cls := findClass_of_methodNamed B.named
  have hlocks := B.notSynchronized
  have hl := lv_entry ([.int (nI (5 + 1)), .int (nI (k + 1))]) (n := 3) (Nat.le_of_ble_eq_true rfl)
  rw [lg_entry_eq]
  generalize (lg_sl ([.int (nI (5 + 1)), .int (nI (k + 1))]) ++ List.replicate (3 - (lg_sl ([.int (nI (5 + 1)), .int (nI (k + 1))])).length) Slot.unset).toArray = ls at hl ⊢
  have hl : lv_has ls 3 [(0, .int 6), (1, .int (nI (k + 1)))] := hl
  have hS : va_S FN s.heap s.heap [] := va_S.rf
  obtain ⟨h0, h1, h2, h3, h4, h5, h6, h7⟩ := hR
  refine lv_iload_n hx hb dL_widens_0 rfl (lv_at hl 0 rfl) ?_
  refine lv_iconst (v := 1) hx hb dL_widens_1 (by decide) ?_
  refine lv_icmp_ne (tgt := 10) hx hb dL_widens_2 (by decide) (fun _ => ?_) (fun q => absurd q (by decide))
  refine lv_iload_n hx hb dL_widens_10 rfl (lv_at hl 0 rfl) ?_
  refine lv_iconst (v := 2) hx hb dL_widens_11 (by decide) ?_
  refine lv_icmp_ne (tgt := 20) hx hb dL_widens_12 (by decide) (fun _ => ?_) (fun q => absurd q (by decide))
  refine lv_iload_n hx hb dL_widens_20 rfl (lv_at hl 0 rfl) ?_
  refine lv_iconst (v := 3) hx hb dL_widens_21 (by decide) ?_
  refine lv_icmp_ne (tgt := 30) hx hb dL_widens_22 (by decide) (fun _ => ?_) (fun q => absurd q (by decide))
  refine lv_iload_n hx hb dL_widens_30 rfl (lv_at hl 0 rfl) ?_
  refine lv_iconst (v := 4) hx hb dL_widens_31 (by decide) ?_
  refine lv_icmp_ne (tgt := 40) hx hb dL_widens_32 (by decide) (fun _ => ?_) (fun q => absurd q (by decide))
  refine lv_iload_n hx hb dL_widens_40 rfl (lv_at hl 0 rfl) ?_
  refine lv_iconst (v := 5) hx hb dL_widens_41 (by decide) ?_
  refine lv_icmp_ne (tgt := 50) hx hb dL_widens_42 (by decide) (fun _ => ?_) (fun q => absurd q (by decide))
  refine lv_iload_n hx hb dL_widens_50 rfl (lv_at hl 0 rfl) ?_
  refine lv_bipush (v := 6) hx hb dL_widens_51 (by decide) ?_
  refine lv_icmp_ne (tgt := 61) hx hb dL_widens_53 (by decide) (fun q => absurd rfl q) (fun _ => ?_)
  refine va_ldcS hx hb hown h5 dL_widens_56 ?_
  refine lv_goto (tgt := 74) hx hb dL_widens_58 (by decide) ?_
  refine lv_astore_n (lv' := [(2, .ref (adK 5)), (0, .int 6), (1, .int (nI (k + 1)))]) hx hb dL_widens_74 rfl hl (by decide) rfl (fun ls hl => ?_)
  refine lv_aload_n hx hb dL_widens_75 rfl (lv_at hl 0 rfl) ?_
  refine lv_iload_n hx hb dL_widens_76 rfl (lv_at hl 2 rfl) ?_
  refine lv_iconst (v := 1) hx hb dL_widens_77 (by decide) ?_
  refine lv_isub hx hb dL_widens_78 ?_
  refine lv_topi (fun x ex => ?_)
  obtain rfl : x = nI k := by
    rw [ex]
    show nI (k + 1) - nI 1 = nI k
    rw [pk_sub (by omega)]
    rfl
  refine vp_callSi (tc_CR (va_runV (As := [.int (nI k)]) (rest := []) ⟨hx, hb, hml, hown, hts⟩ (jJ0_charAt l adK adV 5 k (by decide) hk) (cwV 1 hts gL_widens_J0_charAt_5068e rfl rfl rfl (by decide +kernel) ⟨Nat.le_of_ble_eq_true rfl, Nat.le_of_ble_eq_true rfl⟩) ⟨tsP.blind, vk_recv hE.1 (by decide) hS, tsP.go hE hS⟩ rfl rfl hl.1 rfl (lv_room (Nat.le_of_ble_eq_true rfl)) dL_widens_79 ⟨Nat.zero_le _, Nat.zero_le _⟩)) (fun r9 h9 => ?_)
  subst h9
  refine lv_bipush (v := 46) hx hb dL_widens_82 (by decide) ?_
  have hw := ts_wid 5 (by decide) k hk
  refine lv_icmp_eq (tgt := 91) hx hb dL_widens_84 (by decide) (fun c1 => ?_) (fun c1 => ?_)
  · refine lv_iconst (v := 0) hx hb dL_widens_91 (by decide) ?_
    exact W.zret (ty := .boolean) (v := 0) hx hb hr rfl (fun t9 ht9 hW9 => ⟨0, rfl, (tb_f (hw.mp c1)).symm, ht9⟩) (fun q hq => absurd hq List.not_mem_nil) dL_widens_92
  · refine lv_iconst (v := 1) hx hb dL_widens_87 (by decide) ?_
    refine lv_goto (tgt := 92) hx hb dL_widens_88 (by decide) ?_
    exact W.zret (ty := .boolean) (v := 1) hx hb hr rfl (fun t9 ht9 hW9 => ⟨1, rfl, (tb_t (by cases hz : kWid (nI (5 + 1)) (nI (k + 1)) with | true => rfl | false => exact absurd (hw.mpr hz) c1)).symm, ht9⟩) (fun q hq => absurd hq List.not_mem_nil) dL_widens_92
set_option maxHeartbeats 4000000 in
set_option maxRecDepth 100000 in
theorem lL_widens6 (l : Launch) (adK adV : Nat → Nat) (k : Nat) (hk : k < 8) : Met l yL_widens wsL_widens ({ frames := 4, cells := 0, slots := 0, locals := 85 }) (twP adK adV [.int (nI (6 + 1)), .int (nI (k + 1))]) (vp_Si (fun r => r = tb (kWid (nI (6 + 1)) (nI (k + 1))))) 0 0 (fun _ => False) := by
  refine Met.ofW (cc := cL_widens) (maxL := 3) (ret := (some .boolean)) (by decide) rfl ?_
  intro p e s m args below meth c s₁ B hml hv
  obtain ⟨rfl, hE, hR⟩ := hv
  have hx := B.exec
  have hb := B.bytes
  have hr := B.returns
  have hts := atoms_spec (ws := wsL_widens) B.pre
  have hown : s.vm.findClass RL = some m.cls := findClass_of_methodNamed B.named
  have hlocks := B.notSynchronized
  have hl := lv_entry ([.int (nI (6 + 1)), .int (nI (k + 1))]) (n := 3) (Nat.le_of_ble_eq_true rfl)
  rw [lg_entry_eq]
  generalize (lg_sl ([.int (nI (6 + 1)), .int (nI (k + 1))]) ++ List.replicate (3 - (lg_sl ([.int (nI (6 + 1)), .int (nI (k + 1))])).length) Slot.unset).toArray = ls at hl ⊢
  have hl : lv_has ls 3 [(0, .int 7), (1, .int (nI (k + 1)))] := hl
  have hS : va_S FN s.heap s.heap [] := va_S.rf
  obtain ⟨h0, h1, h2, h3, h4, h5, h6, h7⟩ := hR
  refine lv_iload_n hx hb dL_widens_0 rfl (lv_at hl 0 rfl) ?_
  refine lv_iconst (v := 1) hx hb dL_widens_1 (by decide) ?_
  refine lv_icmp_ne (tgt := 10) hx hb dL_widens_2 (by decide) (fun _ => ?_) (fun q => absurd q (by decide))
  refine lv_iload_n hx hb dL_widens_10 rfl (lv_at hl 0 rfl) ?_
  refine lv_iconst (v := 2) hx hb dL_widens_11 (by decide) ?_
  refine lv_icmp_ne (tgt := 20) hx hb dL_widens_12 (by decide) (fun _ => ?_) (fun q => absurd q (by decide))
  refine lv_iload_n hx hb dL_widens_20 rfl (lv_at hl 0 rfl) ?_
  refine lv_iconst (v := 3) hx hb dL_widens_21 (by decide) ?_
  refine lv_icmp_ne (tgt := 30) hx hb dL_widens_22 (by decide) (fun _ => ?_) (fun q => absurd q (by decide))
  refine lv_iload_n hx hb dL_widens_30 rfl (lv_at hl 0 rfl) ?_
  refine lv_iconst (v := 4) hx hb dL_widens_31 (by decide) ?_
  refine lv_icmp_ne (tgt := 40) hx hb dL_widens_32 (by decide) (fun _ => ?_) (fun q => absurd q (by decide))
  refine lv_iload_n hx hb dL_widens_40 rfl (lv_at hl 0 rfl) ?_
  refine lv_iconst (v := 5) hx hb dL_widens_41 (by decide) ?_
  refine lv_icmp_ne (tgt := 50) hx hb dL_widens_42 (by decide) (fun _ => ?_) (fun q => absurd q (by decide))
  refine lv_iload_n hx hb dL_widens_50 rfl (lv_at hl 0 rfl) ?_
  refine lv_bipush (v := 6) hx hb dL_widens_51 (by decide) ?_
  refine lv_icmp_ne (tgt := 61) hx hb dL_widens_53 (by decide) (fun _ => ?_) (fun q => absurd q (by decide))
  refine lv_iload_n hx hb dL_widens_61 rfl (lv_at hl 0 rfl) ?_
  refine lv_bipush (v := 7) hx hb dL_widens_62 (by decide) ?_
  refine lv_icmp_ne (tgt := 72) hx hb dL_widens_64 (by decide) (fun q => absurd rfl q) (fun _ => ?_)
  refine va_ldcS hx hb hown h6 dL_widens_67 ?_
  refine lv_goto (tgt := 74) hx hb dL_widens_69 (by decide) ?_
  refine lv_astore_n (lv' := [(2, .ref (adK 6)), (0, .int 7), (1, .int (nI (k + 1)))]) hx hb dL_widens_74 rfl hl (by decide) rfl (fun ls hl => ?_)
  refine lv_aload_n hx hb dL_widens_75 rfl (lv_at hl 0 rfl) ?_
  refine lv_iload_n hx hb dL_widens_76 rfl (lv_at hl 2 rfl) ?_
  refine lv_iconst (v := 1) hx hb dL_widens_77 (by decide) ?_
  refine lv_isub hx hb dL_widens_78 ?_
  refine lv_topi (fun x ex => ?_)
  obtain rfl : x = nI k := by
    rw [ex]
    show nI (k + 1) - nI 1 = nI k
    rw [pk_sub (by omega)]
    rfl
  refine vp_callSi (tc_CR (va_runV (As := [.int (nI k)]) (rest := []) ⟨hx, hb, hml, hown, hts⟩ (jJ0_charAt l adK adV 6 k (by decide) hk) (cwV 1 hts gL_widens_J0_charAt_5068e rfl rfl rfl (by decide +kernel) ⟨Nat.le_of_ble_eq_true rfl, Nat.le_of_ble_eq_true rfl⟩) ⟨tsP.blind, vk_recv hE.1 (by decide) hS, tsP.go hE hS⟩ rfl rfl hl.1 rfl (lv_room (Nat.le_of_ble_eq_true rfl)) dL_widens_79 ⟨Nat.zero_le _, Nat.zero_le _⟩)) (fun r9 h9 => ?_)
  subst h9
  refine lv_bipush (v := 46) hx hb dL_widens_82 (by decide) ?_
  have hw := ts_wid 6 (by decide) k hk
  refine lv_icmp_eq (tgt := 91) hx hb dL_widens_84 (by decide) (fun c1 => ?_) (fun c1 => ?_)
  · refine lv_iconst (v := 0) hx hb dL_widens_91 (by decide) ?_
    exact W.zret (ty := .boolean) (v := 0) hx hb hr rfl (fun t9 ht9 hW9 => ⟨0, rfl, (tb_f (hw.mp c1)).symm, ht9⟩) (fun q hq => absurd hq List.not_mem_nil) dL_widens_92
  · refine lv_iconst (v := 1) hx hb dL_widens_87 (by decide) ?_
    refine lv_goto (tgt := 92) hx hb dL_widens_88 (by decide) ?_
    exact W.zret (ty := .boolean) (v := 1) hx hb hr rfl (fun t9 ht9 hW9 => ⟨1, rfl, (tb_t (by cases hz : kWid (nI (6 + 1)) (nI (k + 1)) with | true => rfl | false => exact absurd (hw.mpr hz) c1)).symm, ht9⟩) (fun q hq => absurd hq List.not_mem_nil) dL_widens_92
set_option maxHeartbeats 4000000 in
set_option maxRecDepth 100000 in
theorem lL_widens7 (l : Launch) (adK adV : Nat → Nat) (k : Nat) (hk : k < 8) : Met l yL_widens wsL_widens ({ frames := 4, cells := 0, slots := 0, locals := 85 }) (twP adK adV [.int (nI (7 + 1)), .int (nI (k + 1))]) (vp_Si (fun r => r = tb (kWid (nI (7 + 1)) (nI (k + 1))))) 0 0 (fun _ => False) := by
  refine Met.ofW (cc := cL_widens) (maxL := 3) (ret := (some .boolean)) (by decide) rfl ?_
  intro p e s m args below meth c s₁ B hml hv
  obtain ⟨rfl, hE, hR⟩ := hv
  have hx := B.exec
  have hb := B.bytes
  have hr := B.returns
  have hts := atoms_spec (ws := wsL_widens) B.pre
  have hown : s.vm.findClass RL = some m.cls := findClass_of_methodNamed B.named
  have hlocks := B.notSynchronized
  have hl := lv_entry ([.int (nI (7 + 1)), .int (nI (k + 1))]) (n := 3) (Nat.le_of_ble_eq_true rfl)
  rw [lg_entry_eq]
  generalize (lg_sl ([.int (nI (7 + 1)), .int (nI (k + 1))]) ++ List.replicate (3 - (lg_sl ([.int (nI (7 + 1)), .int (nI (k + 1))])).length) Slot.unset).toArray = ls at hl ⊢
  have hl : lv_has ls 3 [(0, .int 8), (1, .int (nI (k + 1)))] := hl
  have hS : va_S FN s.heap s.heap [] := va_S.rf
  obtain ⟨h0, h1, h2, h3, h4, h5, h6, h7⟩ := hR
  refine lv_iload_n hx hb dL_widens_0 rfl (lv_at hl 0 rfl) ?_
  refine lv_iconst (v := 1) hx hb dL_widens_1 (by decide) ?_
  refine lv_icmp_ne (tgt := 10) hx hb dL_widens_2 (by decide) (fun _ => ?_) (fun q => absurd q (by decide))
  refine lv_iload_n hx hb dL_widens_10 rfl (lv_at hl 0 rfl) ?_
  refine lv_iconst (v := 2) hx hb dL_widens_11 (by decide) ?_
  refine lv_icmp_ne (tgt := 20) hx hb dL_widens_12 (by decide) (fun _ => ?_) (fun q => absurd q (by decide))
  refine lv_iload_n hx hb dL_widens_20 rfl (lv_at hl 0 rfl) ?_
  refine lv_iconst (v := 3) hx hb dL_widens_21 (by decide) ?_
  refine lv_icmp_ne (tgt := 30) hx hb dL_widens_22 (by decide) (fun _ => ?_) (fun q => absurd q (by decide))
  refine lv_iload_n hx hb dL_widens_30 rfl (lv_at hl 0 rfl) ?_
  refine lv_iconst (v := 4) hx hb dL_widens_31 (by decide) ?_
  refine lv_icmp_ne (tgt := 40) hx hb dL_widens_32 (by decide) (fun _ => ?_) (fun q => absurd q (by decide))
  refine lv_iload_n hx hb dL_widens_40 rfl (lv_at hl 0 rfl) ?_
  refine lv_iconst (v := 5) hx hb dL_widens_41 (by decide) ?_
  refine lv_icmp_ne (tgt := 50) hx hb dL_widens_42 (by decide) (fun _ => ?_) (fun q => absurd q (by decide))
  refine lv_iload_n hx hb dL_widens_50 rfl (lv_at hl 0 rfl) ?_
  refine lv_bipush (v := 6) hx hb dL_widens_51 (by decide) ?_
  refine lv_icmp_ne (tgt := 61) hx hb dL_widens_53 (by decide) (fun _ => ?_) (fun q => absurd q (by decide))
  refine lv_iload_n hx hb dL_widens_61 rfl (lv_at hl 0 rfl) ?_
  refine lv_bipush (v := 7) hx hb dL_widens_62 (by decide) ?_
  refine lv_icmp_ne (tgt := 72) hx hb dL_widens_64 (by decide) (fun _ => ?_) (fun q => absurd q (by decide))
  refine va_ldcS hx hb hown h7 dL_widens_72 ?_
  refine lv_astore_n (lv' := [(2, .ref (adK 7)), (0, .int 8), (1, .int (nI (k + 1)))]) hx hb dL_widens_74 rfl hl (by decide) rfl (fun ls hl => ?_)
  refine lv_aload_n hx hb dL_widens_75 rfl (lv_at hl 0 rfl) ?_
  refine lv_iload_n hx hb dL_widens_76 rfl (lv_at hl 2 rfl) ?_
  refine lv_iconst (v := 1) hx hb dL_widens_77 (by decide) ?_
  refine lv_isub hx hb dL_widens_78 ?_
  refine lv_topi (fun x ex => ?_)
  obtain rfl : x = nI k := by
    rw [ex]
    show nI (k + 1) - nI 1 = nI k
    rw [pk_sub (by omega)]
    rfl
  refine vp_callSi (tc_CR (va_runV (As := [.int (nI k)]) (rest := []) ⟨hx, hb, hml, hown, hts⟩ (jJ0_charAt l adK adV 7 k (by decide) hk) (cwV 1 hts gL_widens_J0_charAt_5068e rfl rfl rfl (by decide +kernel) ⟨Nat.le_of_ble_eq_true rfl, Nat.le_of_ble_eq_true rfl⟩) ⟨tsP.blind, vk_recv hE.1 (by decide) hS, tsP.go hE hS⟩ rfl rfl hl.1 rfl (lv_room (Nat.le_of_ble_eq_true rfl)) dL_widens_79 ⟨Nat.zero_le _, Nat.zero_le _⟩)) (fun r9 h9 => ?_)
  subst h9
  refine lv_bipush (v := 46) hx hb dL_widens_82 (by decide) ?_
  have hw := ts_wid 7 (by decide) k hk
  refine lv_icmp_eq (tgt := 91) hx hb dL_widens_84 (by decide) (fun c1 => ?_) (fun c1 => ?_)
  · refine lv_iconst (v := 0) hx hb dL_widens_91 (by decide) ?_
    exact W.zret (ty := .boolean) (v := 0) hx hb hr rfl (fun t9 ht9 hW9 => ⟨0, rfl, (tb_f (hw.mp c1)).symm, ht9⟩) (fun q hq => absurd hq List.not_mem_nil) dL_widens_92
  · refine lv_iconst (v := 1) hx hb dL_widens_87 (by decide) ?_
    refine lv_goto (tgt := 92) hx hb dL_widens_88 (by decide) ?_
    exact W.zret (ty := .boolean) (v := 1) hx hb hr rfl (fun t9 ht9 hW9 => ⟨1, rfl, (tb_t (by cases hz : kWid (nI (7 + 1)) (nI (k + 1)) with | true => rfl | false => exact absurd (hw.mpr hz) c1)).symm, ht9⟩) (fun q hq => absurd hq List.not_mem_nil) dL_widens_92
theorem lL_widens (l : Launch) (adK adV : Nat → Nat) (i k : Nat) (hi : i < 8) (hk : k < 8) : Met l yL_widens wsL_widens ({ frames := 4, cells := 0, slots := 0, locals := 85 }) (twP adK adV [.int (nI (i + 1)), .int (nI (k + 1))]) (vp_Si (fun r => r = tb (kWid (nI (i + 1)) (nI (k + 1))))) 0 0 (fun _ => False) := by
  rcases (show i = 0 ∨ i = 1 ∨ i = 2 ∨ i = 3 ∨ i = 4 ∨ i = 5 ∨ i = 6 ∨ i = 7 by omega) with rfl | rfl | rfl | rfl | rfl | rfl | rfl | rfl
  · exact lL_widens0 l adK adV k hk
  · exact lL_widens1 l adK adV k hk
  · exact lL_widens2 l adK adV k hk
  · exact lL_widens3 l adK adV k hk
  · exact lL_widens4 l adK adV k hk
  · exact lL_widens5 l adK adV k hk
  · exact lL_widens6 l adK adV k hk
  · exact lL_widens7 l adK adV k hk
theorem tf_below (v : Int32) {N : Nat} (h0 : 0 < N) (h1 : N < 2 ^ 31) : ∃ j, j < N ∧ (v &&& 2147483647) - (v &&& 2147483647) / nI N * nI N = nI j := by
  have e := pk_and v (m := 2147483647) 31 (by decide)
  rw [e, pk_rem (Nat.mod_lt _ (by decide)) h0 h1]
  exact ⟨_, Nat.mod_lt _ h0, rfl⟩
set_option maxHeartbeats 4000000 in
set_option maxRecDepth 100000 in
theorem lL_below (l : Launch) (v : Int32) (N : Nat) (h0 : 0 < N) (h1 : N < 2 ^ 31) : Met l yL_below wsL_below ({ frames := 0, cells := 0, slots := 0, locals := 0 }) (va_Pc [.int v, .int (nI N)] (fun _ => True)) (vp_Si (fun r => ∃ j, j < N ∧ r = nI j)) 0 0 (fun _ => False) := by
  refine Met.ofW (cc := cL_below) (maxL := 2) (ret := (some .int)) (by decide) rfl ?_
  intro p e s m args below meth c s₁ B hml hv
  obtain ⟨rfl, -⟩ := hv
  have hx := B.exec
  have hb := B.bytes
  have hr := B.returns
  have hts := atoms_spec (ws := wsL_below) B.pre
  have hown : s.vm.findClass RL = some m.cls := findClass_of_methodNamed B.named
  have hlocks := B.notSynchronized
  have hl := lv_entry ([.int v, .int (nI N)]) (n := 2) (Nat.le_of_ble_eq_true rfl)
  rw [lg_entry_eq]
  generalize (lg_sl ([.int v, .int (nI N)]) ++ List.replicate (2 - (lg_sl ([.int v, .int (nI N)])).length) Slot.unset).toArray = ls at hl ⊢
  have hl : lv_has ls 2 [(0, .int v), (1, .int (nI N))] := hl
  refine lv_iload_n hx hb dL_below_0 rfl (lv_at hl 0 rfl) ?_
  refine lv_ldc (v := 2147483647) hx hb hown (hts (.constant RL 7 (2147483647)) (by decide +kernel)) dL_below_1 ?_
  refine lv_iand hx hb dL_below_3 ?_
  refine lv_iload_n hx hb dL_below_4 rfl (lv_at hl 1 rfl) ?_
  refine lv_irem hx hb dL_below_5 (fun q => ?_) ?_
  · have e0 : (0 : Int32).toInt = 0 := rfl
    have := congrArg Int32.toInt q
    rw [nI_toInt h1, e0] at this
    omega
  exact W.iret (v := (v &&& 2147483647) - (v &&& 2147483647) / nI N * nI N) hx hb hr (fun t9 ht9 hW9 => ⟨_, rfl, tf_below v h0 h1, ht9⟩) (fun q hq => absurd hq List.not_mem_nil) dL_below_6
set_option maxHeartbeats 4000000 in
set_option maxRecDepth 100000 in
theorem lL_cell (l : Launch) (b L : Nat) (xs : Nat → Int32) (hL : L ≤ 260) (k : Nat) (hk : k < 1000) : Met l yL_cell wsL_cell ({ frames := 0, cells := 0, slots := 0, locals := 0 }) (va_Pc [.ref b, .int (nI k)] (fun U => va_X b L xs U U.heap)) (vp_Si (fun _ => True)) 0 0 (fun _ => False) := by
  refine Met.ofW (cc := cL_cell) (maxL := 2) (ret := (some .int)) (by decide) rfl ?_
  intro p e s m args below meth c s₁ B hml hv
  obtain ⟨rfl, hX⟩ := hv
  have hx := B.exec
  have hb := B.bytes
  have hr := B.returns
  have hts := atoms_spec (ws := wsL_cell) B.pre
  have hown : s.vm.findClass RL = some m.cls := findClass_of_methodNamed B.named
  have hlocks := B.notSynchronized
  have hl := lv_entry ([.ref b, .int (nI k)]) (n := 2) (Nat.le_of_ble_eq_true rfl)
  rw [lg_entry_eq]
  generalize (lg_sl ([.ref b, .int (nI k)]) ++ List.replicate (2 - (lg_sl ([.ref b, .int (nI k)])).length) Slot.unset).toArray = ls at hl ⊢
  have hl : lv_has ls 2 [(0, .ref b), (1, .int (nI k))] := hl
  have hS : va_S FN s.heap s.heap [] := va_S.rf
  have hbl : b < s.heap.size := by
    obtain ⟨scr, h, -⟩ := hX
    exact (Array.getElem?_eq_some_iff.mp h).1
  have hbA : ¬ FN b := fun q => q
  refine lv_iload_n hx hb dL_cell_0 rfl (lv_at hl 1 rfl) ?_
  refine lv_aload_n hx hb dL_cell_1 rfl (lv_at hl 0 rfl) ?_
  refine va_slen hx hb hX hbl hbA hS dL_cell_2 ?_
  refine lv_icmp_ge (tgt := 12) hx hb dL_cell_3 (by decide) (fun c1 => ?_) (fun c1 => ?_)
  · refine lv_ldc (v := 790386105) hx hb hown (hts (.constant RL 8 (790386105)) (by decide +kernel)) dL_cell_12 ?_
    refine lv_iload_n hx hb dL_cell_14 rfl (lv_at hl 1 rfl) ?_
    refine lv_iconst (v := 3) hx hb dL_cell_15 (by decide) ?_
    refine lv_iadd hx hb dL_cell_16 ?_
    refine lv_imul hx hb dL_cell_17 ?_
    exact W.iret (v := 790386105 * (nI k + 3)) hx hb hr (fun t9 ht9 hW9 => ⟨_, rfl, trivial, ht9⟩) (fun q hq => absurd hq List.not_mem_nil) dL_cell_18
  · have hkL : k < L := by
      rcases Nat.lt_or_ge k L with h | h
      · exact h
      · exact absurd (nI_le h (by omega)) c1
    refine lv_aload_n hx hb dL_cell_6 rfl (lv_at hl 0 rfl) ?_
    refine lv_iload_n hx hb dL_cell_7 rfl (lv_at hl 1 rfl) ?_
    refine va_sld hx hb hX hbl hbA hS (vp_in_nI hkL (by omega)) dL_cell_8 ?_
    refine lv_goto (tgt := 18) hx hb dL_cell_9 (by decide) ?_
    exact W.iret (v := xs (nI k).toNatClampNeg) hx hb hr (fun t9 ht9 hW9 => ⟨_, rfl, trivial, ht9⟩) (fun q hq => absurd hq List.not_mem_nil) dL_cell_18
set_option maxHeartbeats 4000000 in
set_option maxRecDepth 100000 in
theorem lL_made (l : Launch) (k v : Int32) : Met l yL_made wsL_made ({ frames := 0, cells := 0, slots := 0, locals := 0 }) (va_Pc [.int k, .int v] (fun _ => True)) (vp_Sl (fun r => r = lMade v k)) 0 0 (fun _ => False) := by
  refine Met.ofW (cc := cL_made) (maxL := 2) (ret := (some .long)) (by decide) rfl ?_
  intro p e s m args below meth c s₁ B hml hv
  obtain ⟨rfl, -⟩ := hv
  have hx := B.exec
  have hb := B.bytes
  have hr := B.returns
  have hts := atoms_spec (ws := wsL_made) B.pre
  have hown : s.vm.findClass RL = some m.cls := findClass_of_methodNamed B.named
  have hlocks := B.notSynchronized
  have hl := lv_entry ([.int k, .int v]) (n := 2) (Nat.le_of_ble_eq_true rfl)
  rw [lg_entry_eq]
  generalize (lg_sl ([.int k, .int v]) ++ List.replicate (2 - (lg_sl ([.int k, .int v])).length) Slot.unset).toArray = ls at hl ⊢
  have hl : lv_has ls 2 [(0, .int k), (1, .int v)] := hl
  refine lv_iload_n hx hb dL_made_0 rfl (lv_at hl 0 rfl) ?_
  refine lv_iconst (v := 1) hx hb dL_made_1 (by decide) ?_
  refine lv_icmp_ne (tgt := 17) hx hb dL_made_2 (by decide) (fun c_1 => ?_) (fun c_1 => ?_)
  · refine lv_iload_n hx hb dL_made_17 rfl (lv_at hl 0 rfl) ?_
    refine lv_iconst (v := 2) hx hb dL_made_18 (by decide) ?_
    refine lv_icmp_ne (tgt := 28) hx hb dL_made_19 (by decide) (fun c_2 => ?_) (fun c_2 => ?_)
    · refine lv_iload_n hx hb dL_made_28 rfl (lv_at hl 0 rfl) ?_
      refine lv_iconst (v := 3) hx hb dL_made_29 (by decide) ?_
      refine lv_icmp_ne (tgt := 39) hx hb dL_made_30 (by decide) (fun c_3 => ?_) (fun c_3 => ?_)
      · refine lv_iload_n hx hb dL_made_39 rfl (lv_at hl 0 rfl) ?_
        refine lv_iconst (v := 4) hx hb dL_made_40 (by decide) ?_
        refine lv_icmp_ne (tgt := 50) hx hb dL_made_41 (by decide) (fun c_4 => ?_) (fun c_4 => ?_)
        · refine lv_iload_n hx hb dL_made_50 rfl (lv_at hl 0 rfl) ?_
          refine lv_bipush (v := 7) hx hb dL_made_51 (by decide) ?_
          refine lv_icmp_ne (tgt := 62) hx hb dL_made_53 (by decide) (fun c_5 => ?_) (fun c_5 => ?_)
          · refine lv_iload_n hx hb dL_made_62 rfl (lv_at hl 1 rfl) ?_
            refine lv_i2l (v := v.toInt64) hx hb dL_made_63 rfl ?_
            exact W.lret (v := v.toInt64) hx hb hr (fun t9 ht9 hW9 => ⟨v.toInt64, rfl, by simp [lMade, kMade, c_1, c_2, c_3, c_4, c_5], ht9⟩) (fun q hq => absurd hq List.not_mem_nil) dL_made_64
          · refine lv_iload_n hx hb dL_made_56 rfl (lv_at hl 1 rfl) ?_
            refine lv_i2f hx hb dL_made_57 ?_
            refine lv_f2l hx hb dL_made_58 ?_
            refine lv_goto (tgt := 64) hx hb dL_made_59 (by decide) ?_
            exact W.lret (v := (FP.f2l (FP.i2f v))) hx hb hr (fun t9 ht9 hW9 => ⟨(FP.f2l (FP.i2f v)), rfl, by simp [lMade, kMade, c_1, c_2, c_3, c_4, c_5], ht9⟩) (fun q hq => absurd hq List.not_mem_nil) dL_made_64
        · refine lv_iload_n hx hb dL_made_44 rfl (lv_at hl 1 rfl) ?_
          refine lv_i2s (v := v.toInt16.toInt32) hx hb dL_made_45 rfl ?_
          refine lv_i2l (v := v.toInt16.toInt32.toInt64) hx hb dL_made_46 rfl ?_
          refine lv_goto (tgt := 64) hx hb dL_made_47 (by decide) ?_
          exact W.lret (v := v.toInt16.toInt32.toInt64) hx hb hr (fun t9 ht9 hW9 => ⟨v.toInt16.toInt32.toInt64, rfl, by simp [lMade, kMade, c_1, c_2, c_3, c_4], ht9⟩) (fun q hq => absurd hq List.not_mem_nil) dL_made_64
      · refine lv_iload_n hx hb dL_made_33 rfl (lv_at hl 1 rfl) ?_
        refine lv_i2c (v := (v.toUInt32 % 65536).toInt32) hx hb dL_made_34 rfl ?_
        refine lv_i2l (v := ((v.toUInt32 % 65536).toInt32).toInt64) hx hb dL_made_35 rfl ?_
        refine lv_goto (tgt := 64) hx hb dL_made_36 (by decide) ?_
        exact W.lret (v := ((v.toUInt32 % 65536).toInt32).toInt64) hx hb hr (fun t9 ht9 hW9 => ⟨((v.toUInt32 % 65536).toInt32).toInt64, rfl, by simp [lMade, kMade, c_1, c_2, c_3], ht9⟩) (fun q hq => absurd hq List.not_mem_nil) dL_made_64
    · refine lv_iload_n hx hb dL_made_22 rfl (lv_at hl 1 rfl) ?_
      refine lv_i2b (v := v.toInt8.toInt32) hx hb dL_made_23 rfl ?_
      refine lv_i2l (v := v.toInt8.toInt32.toInt64) hx hb dL_made_24 rfl ?_
      refine lv_goto (tgt := 64) hx hb dL_made_25 (by decide) ?_
      exact W.lret (v := v.toInt8.toInt32.toInt64) hx hb hr (fun t9 ht9 hW9 => ⟨v.toInt8.toInt32.toInt64, rfl, by simp [lMade, kMade, c_1, c_2], ht9⟩) (fun q hq => absurd hq List.not_mem_nil) dL_made_64
  · refine lv_iload_n hx hb dL_made_5 rfl (lv_at hl 1 rfl) ?_
    refine lv_if_eq (tgt := 13) hx hb dL_made_6 (by decide) (fun c_6 => ?_) (fun c_6 => ?_)
    · refine lv_lconst (v := 0) hx hb dL_made_13 (by decide) ?_
      refine lv_goto (tgt := 64) hx hb dL_made_14 (by decide) ?_
      exact W.lret (v := 0) hx hb hr (fun t9 ht9 hW9 => ⟨0, rfl, by simp [lMade, kMade, c_1, c_6], ht9⟩) (fun q hq => absurd hq List.not_mem_nil) dL_made_64
    · refine lv_lconst (v := 1) hx hb dL_made_9 (by decide) ?_
      refine lv_goto (tgt := 64) hx hb dL_made_10 (by decide) ?_
      exact W.lret (v := 1) hx hb hr (fun t9 ht9 hW9 => ⟨1, rfl, by simp [lMade, kMade, c_1, c_6], ht9⟩) (fun q hq => absurd hq List.not_mem_nil) dL_made_64
