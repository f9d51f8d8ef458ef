/-! OBJECTS AND ARRAYS THAT ARE MADE -/
def tc_put {α : Type} (n N : Nat) (V : Nat → α) (z : α) (f : Nat → α) : Nat → α := fun x => if 40 * n ≤ x ∧ x < 40 * n + 40 then (if x - 40 * n < N then V (x - 40 * n) else z) else f x
theorem tc_put_out {α : Type} {n N j i : Nat} {V : Nat → α} {z : α} {f : Nat → α} (hj : j < n) (hi : i < 40) : tc_put n N V z f (40 * j + i) = f (40 * j + i) := by
  unfold tc_put; rw [if_neg (by omega)]
theorem tc_put_in {α : Type} {n N i : Nat} {V : Nat → α} {z : α} {f : Nat → α} (hi : i < 40) : tc_put n N V z f (40 * n + i) = if i < N then V i else z := by
  unfold tc_put; rw [if_pos (by omega), show 40 * n + i - 40 * n = i from by omega]
theorem tc_sl_put {α : Type} {m n N : Nat} {V : Nat → α} {z : α} {f : Nat → α} (hm : m ≤ 40) (hN : m = 0 ∨ m = N) : tc_sl m (fun i => tc_put n N V z f (40 * n + i)) z = tc_mix V (fun _ => z) m := by
  funext i
  show (if i < m then tc_put n N V z f (40 * n + i) else z) = (if i < m then V i else z)
  by_cases h : i < m
  · rw [if_pos h, if_pos h, tc_put_in (by omega), if_pos (by omega)]
  · rw [if_neg h, if_neg h]
theorem tc_app_mid {α : Type} {ws v : List α} {x : α} : (ws ++ (x :: v))[ws.length]? = some x := by simp
theorem tc_app_mid1 {α : Type} {ws v : List α} {x y : α} : (ws ++ (x :: y :: v))[ws.length + 1]? = some y := by
  rw [List.getElem?_append_right (by omega), show ws.length + 1 - ws.length = 1 from by omega]; rfl
theorem tc_app_mid2 {α : Type} {ws v : List α} {x y z : α} : (ws ++ (x :: y :: z :: v))[ws.length + 2]? = some z := by
  rw [List.getElem?_append_right (by omega), show ws.length + 2 - ws.length = 2 from by omega]; rfl
theorem tc_app_mid_set1 {α : Type} {ws v : List α} {x y w : α} : (ws ++ (x :: y :: v)).set (ws.length + 1) w = ws ++ (x :: w :: v) := by
  rw [List.set_append_right _ _ (by omega), show ws.length + 1 - ws.length = 1 from by omega]; rfl
theorem tc_app_mid_set2 {α : Type} {ws v : List α} {x y z w : α} : (ws ++ (x :: y :: z :: v)).set (ws.length + 2) w = ws ++ (x :: y :: w :: v) := by
  rw [List.set_append_right _ _ (by omega), show ws.length + 2 - ws.length = 2 from by omega]; rfl
theorem tcu_at {α : Type} (f : Nat → α) (k : Nat) (v : α) : va_up f k v k = v := if_pos rfl
theorem tcu_ne {α : Type} (f : Nat → α) {k j : Nat} (v : α) (h : j ≠ k) : va_up f k v j = f j := if_neg h
section TCN
variable {cI cJ cD cC : ClassId} {h0 h1 h2 h3 h4 : Nat} {ad wd rd : Nat → Nat} {Y : va_W} {n : Nat} {K : Nat → Int32} {Ln : Nat → Nat} {Wh Wh' : Nat → Int64} {Re Re' : Nat → UInt64} {cd : Int32} {ct : Nat → Int32}
/-- a column more -/
theorem tc_T_add {q u1 u2 N : Nat} {kd : Int32} {F : Nat → Int64} {G : Nat → UInt64} (hL : ∀ j, j < n → Ln j ≤ 40) (hW : ∀ j i, j < n → i < 40 → Wh' (40 * j + i) = Wh (40 * j + i)) (hR : ∀ j i, j < n → i < 40 → Re' (40 * j + i) = Re (40 * j + i))
    (hF : tc_sl (tc_wl kd N) (fun i => Wh' (40 * n + i)) 0 = F) (hG : tc_sl (tc_rl kd N) (fun i => Re' (40 * n + i)) 0 = G) :
    ((tc_T cI cJ cD cC h0 h1 h2 h3 h4 ad wd rd Y n K Ln Wh Re cd ct ++ ([(q, .inr (0, [.int kd, .int (tc_cl kd N), .ref u1, .ref u2])), (u1, .inl (cJ, tc_wl kd N, .inr (.inl F))), (u2, .inl (cD, tc_rl kd N, .inr (.inr (.inr (.inl G)))))] : va_W)).set 1 (h1, .inl (cC, 60, .inr (.inr (.inr (.inr (va_up (fun j => if j < n then some (ad j) else none) n (some q)))))))).set 0 (h0, .inr (2, [.ref h1, .ref h2, .ref h3, .int (nI n + 1), .int cd])) = tc_T cI cJ cD cC h0 h1 h2 h3 h4 (va_up ad n q) (va_up wd n u1) (va_up rd n u2) Y (n + 1) (va_up K n kd) (va_up Ln n N) Wh' Re' cd ct := by
  have e : tc_fl (tc_col cJ cD (va_up ad n q) (va_up wd n u1) (va_up rd n u2) (va_up K n kd) (va_up Ln n N) Wh' Re') (n + 1) = tc_fl (tc_col cJ cD ad wd rd K Ln Wh Re) n ++ ([(q, .inr (0, [.int kd, .int (tc_cl kd N), .ref u1, .ref u2])), (u1, .inl (cJ, tc_wl kd N, .inr (.inl F))), (u2, .inl (cD, tc_rl kd N, .inr (.inr (.inr (.inl G)))))] : va_W) := by
    show tc_fl _ n ++ tc_col _ _ _ _ _ _ _ _ _ n = _
    have e1 : tc_fl (tc_col cJ cD (va_up ad n q) (va_up wd n u1) (va_up rd n u2) (va_up K n kd) (va_up Ln n N) Wh' Re') n = tc_fl (tc_col cJ cD ad wd rd K Ln Wh Re) n := by
      refine tc_fl_congr n (fun j hj => ?_)
      have hne : j ≠ n := by omega
      have hl := hL j hj
      have hwl : tc_wl (K j) (Ln j) ≤ 40 := by unfold tc_wl; split <;> omega
      have hrl : tc_rl (K j) (Ln j) ≤ 40 := by unfold tc_rl; split <;> omega
      unfold tc_col
      rw [tcu_ne ad q hne, tcu_ne wd u1 hne, tcu_ne rd u2 hne, tcu_ne K kd hne, tcu_ne Ln N hne,
        tc_sl_congr (f := fun i => Wh' (40 * j + i)) (g := fun i => Wh (40 * j + i)) (fun i hi => hW j i hj (by omega)),
        tc_sl_congr (f := fun i => Re' (40 * j + i)) (g := fun i => Re (40 * j + i)) (fun i hi => hR j i hj (by omega))]
    rw [e1]
    unfold tc_col
    rw [tcu_at, tcu_at, tcu_at, tcu_at, tcu_at, hF, hG]
  have ef : (fun j => if j < n + 1 then some (va_up ad n q j) else none) = va_up (fun j => if j < n then some (ad j) else none) n (some q) := by
    funext j
    show (if j < n + 1 then some (if j = n then q else ad j) else none) = (if j = n then some q else (if j < n then some (ad j) else none))
    by_cases h : j = n
    · rw [if_pos (show j < n + 1 by omega), if_pos h, if_pos h]
    · by_cases h2 : j < n
      · rw [if_pos (show j < n + 1 by omega), if_neg h, if_neg h, if_pos h2]
      · rw [if_neg (show ¬ j < n + 1 by omega), if_neg h, if_neg h2]
  unfold tc_T
  rw [e, List.append_assoc, List.append_assoc, ← nI_succ]
  unfold tc_hd
  rw [ef]
  rfl
end TCN
def wdC (K : Nat → Int32) (j : Nat) (kd : Int32) : Int32 := if kCol (K j) = 0 then (if kWid (K j) kd = true then 0 else 4) else kCol (K j)
def wdV (K : Nat → Int32) (Wh : Nat → Int64) (Re : Nat → UInt64) (j : Nat) (kd : Int32) : Nat → UInt64 := fun i => if kFl kd = false then 0 else if kFl (K j) = true then Re (40 * j + i) else if kd = 7 then FP.f2d (FP.l2f (Wh (40 * j + i))) else FP.l2d (Wh (40 * j + i))
theorem wdC_in (K : Nat → Int32) (j : Nat) (kd : Int32) : vp_in (wdC K j kd) 6 := by
  unfold wdC
  by_cases h : kCol (K j) = 0
  · rw [if_pos h]
    by_cases h2 : kWid (K j) kd = true
    · rw [if_pos h2]; unfold vp_in; decide
    · rw [if_neg h2]; unfold vp_in; decide
  · rw [if_neg h]; exact kCol_in _
theorem wdC_0 {K : Nat → Int32} {j : Nat} {kd : Int32} (h : wdC K j kd = 0) : kCol (K j) = 0 ∧ kWid (K j) kd = true := by
  unfold wdC at h
  by_cases h1 : kCol (K j) = 0
  · rw [if_pos h1] at h
    by_cases h2 : kWid (K j) kd = true
    · exact ⟨h1, h2⟩
    · rw [if_neg h2] at h; exact absurd h (by decide)
  · rw [if_neg h1] at h; exact absurd h h1
theorem tc_mix_eq {α : Type} {V V' g : Nat → α} {N : Nat} (h : ∀ i, i < N → V i = V' i) : tc_mix V g N = tc_mix V' g N := by
  funext i
  unfold tc_mix
  by_cases q : i < N
  · rw [if_pos q, if_pos q, h i q]
  · rw [if_neg q, if_neg q]
theorem wl_or (k : Int32) (N : Nat) : tc_wl k N = 0 ∨ tc_wl k N = N := by unfold tc_wl; split <;> omega
theorem rl_or (k : Int32) (N : Nat) : tc_rl k N = 0 ∨ tc_rl k N = N := by unfold tc_rl; split <;> omega
theorem wl_le {k : Int32} {N : Nat} (h : N ≤ 40) : tc_wl k N ≤ 40 := by unfold tc_wl; split <;> omega
theorem rl_le {k : Int32} {N : Nat} (h : N ≤ 40) : tc_rl k N ≤ 40 := by unfold tc_rl; split <;> omega
theorem tc_wl_z {k : Int32} (N : Nat) (h : kFl k = true) : tc_wl k N = 0 := by unfold tc_wl; rw [if_pos h]
theorem tc_sl_nil {α : Type} {m : Nat} (hm : m = 0) (f : Nat → α) (z : α) : tc_sl m f z = (fun _ => z) := by
  subst hm; funext i; exact tc_sl_0 f z i
theorem wd_F {α : Type} {m n N j : Nat} {f : Nat → α} {z : α} {L : Nat} (hN : N ≤ 40) (hm : m = N) (hL : L = N) : tc_sl m (fun i => tc_put n N (fun i => f (40 * j + i)) z f (40 * n + i)) z = tc_mix (tc_sl L (fun i => f (40 * j + i)) z) (fun _ => z) N := by
  subst hm; subst hL
  rw [tc_sl_put hN (Or.inr rfl)]
  exact tc_mix_eq (fun i hi => by rw [tc_sl_in hi])
theorem wd_G {α : Type} {m n N : Nat} {V V' f : Nat → α} {z : α} (hN : N ≤ 40) (hm : m = N) (hv : ∀ i, i < N → V i = V' i) : tc_sl m (fun i => tc_put n N V z f (40 * n + i)) z = tc_mix V' (fun _ => z) N := by
  subst hm
  rw [tc_sl_put hN (Or.inr rfl)]
  exact tc_mix_eq hv
theorem wdV_r {K : Nat → Int32} {Wh : Nat → Int64} {Re : Nat → UInt64} {j L : Nat} {kd : Int32} (gkf : kFl kd = true) (gf : kFl (K j) = true) {i : Nat} (hi : i < L) : wdV K Wh Re j kd i = tc_sl L (fun i => Re (40 * j + i)) 0 i := by
  unfold wdV; rw [if_neg (by rw [gkf]; decide), if_pos gf, tc_sl_in hi]
theorem wdV_f {K : Nat → Int32} {Wh : Nat → Int64} {Re : Nat → UInt64} {j L : Nat} {kd : Int32} (gkf : kFl kd = true) (gf : kFl (K j) = false) (gk : kd = 7) {i : Nat} (hi : i < L) : wdV K Wh Re j kd i = FP.f2d (FP.l2f (tc_sl L (fun i => Wh (40 * j + i)) 0 i)) := by
  unfold wdV; rw [if_neg (by rw [gkf]; decide), if_neg (by rw [gf]; decide), if_pos gk, tc_sl_in hi]
theorem wdV_d {K : Nat → Int32} {Wh : Nat → Int64} {Re : Nat → UInt64} {j L : Nat} {kd : Int32} (gkf : kFl kd = true) (gf : kFl (K j) = false) (gk : kd = 8) {i : Nat} (hi : i < L) : wdV K Wh Re j kd i = FP.l2d (tc_sl L (fun i => Wh (40 * j + i)) 0 i) := by
  unfold wdV; rw [if_neg (by rw [gkf]; decide), if_neg (by rw [gf]; decide), if_neg (by rw [gk]; decide), tc_sl_in hi]
theorem tc_rl_z {k : Int32} (N : Nat) (h : kFl k = false) : tc_rl k N = 0 := by unfold tc_rl; rw [if_neg (by rw [h]; decide)]
set_option maxHeartbeats 4000000 in
set_option maxRecDepth 100000 in
theorem oX0_init (l : Launch) (D : va_G) (A : Nat → Prop) (cI cJ cD cC : ClassId) (ws : va_W) (p0 a sz : Nat) (e0 : ws[p0]? = some (a, .inr (0, [.int 0, .int 0, .null, .null]))) (hA : ∀ q, sz ≤ q → A q) (k : Int32) (len : Int32) (N : Nat) (hN : N ≤ 40) (hlen : kHas k = true → len = nI N) (hz : kHas k = false → N = 0) : Met l yX0_init wsX0_init ({ frames := 1, cells := 2, slots := 40, locals := 20 }) (tcP D A (tcTY cI cJ cD cC) sz [.ref a, .int k, .int len] ws) (va_Qv (fun _ : Nat × Nat => True) (fun u t => tcB D A (ws.set p0 (a, .inr (0, [.int k, .int (tc_cl k N), .ref u.1, .ref u.2])) ++ ([(u.1, .inl (cJ, tc_wl k N, .inr (.inl (fun _ => 0)))), (u.2, .inl (cD, tc_rl k N, .inr (.inr (.inr (.inl (fun _ => 0))))))] : va_W)) t) A) 2 40 A := by
  refine Met.ofW (cc := cX0_init) (maxL := 4) (ret := none) (by decide) rfl ?_
  intro p e s m args below meth c s₁ B hml hv
  obtain ⟨rfl, hsz, hP, hK, hD, hE⟩ := hv
  have hx := B.exec
  have hb := B.bytes
  have hr := B.returns
  have hts := atoms_spec (ws := wsX0_init) B.pre
  have hown : s.vm.findClass RX0 = some m.cls := findClass_of_methodNamed B.named
  have hlocks := B.notSynchronized
  have hl := lv_entry ([.ref a, .int k, .int len]) (n := 4) (Nat.le_of_ble_eq_true rfl)
  rw [lg_entry_eq]
  generalize (lg_sl ([.ref a, .int k, .int len]) ++ List.replicate (4 - (lg_sl ([.ref a, .int k, .int len])).length) Slot.unset).toArray = ls at hl ⊢
  have hl : lv_has ls 4 [(0, .ref a), (1, .int k), (2, .int len)] := hl
  subst hsz
  have hS : va_S A s.heap s.heap [] := va_S.rf
  have hin : meth.name = "<init>" := (name_of_methodNamed B.named B.method).1
  refine lv_aload_n hx hb dX0_init_0 rfl (lv_at hl 0 rfl) ?_
  refine W.objInit hx hb hown (hts (.methodLink RX0 3 objectInit) (by decide +kernel)) (hts (.instanceMethod objectInit) (by decide +kernel)) (hts _ (List.mem_cons_of_mem _ (List.mem_append_left _ (List.mem_of_getElem? (i := 2) rfl)))) rfl (by rw [hml]; exact hl.1) rfl dX0_init_1 (Nat.le_of_ble_eq_true rfl) (Nat.le_of_ble_eq_true rfl) ?_
  refine W.eq (g2 := F0 m 4 ls []) rfl ?_
  refine lv_iload_n hx hb dX0_init_4 rfl (lv_at hl 1 rfl) ?_
  refine vp_callSi (tc_CR (va_runSN (As := [.int k]) (rest := []) ⟨hx, hb, hml, hown, hts⟩ (kX2_holdsCells l k) ⟨va_cnB 1 hts gX0_init_X2_holdsCells_n9 rfl rfl rfl (hE.2.2.2.1) (hts (.initialized RX2) (by decide +kernel)) (by decide +kernel) ⟨Nat.le_of_ble_eq_true rfl, Nat.le_of_ble_eq_true rfl⟩, hts (.static yX2_holdsCells) (by decide +kernel), trivial⟩ ⟨fun a U g mk q => q, fun U hU hW => ⟨rfl, trivial⟩⟩ rfl rfl hl.1 rfl (lv_room (Nat.le_of_ble_eq_true rfl)) dX0_init_5 ⟨by show _ ≤ 2; omega, by show _ ≤ 40; omega⟩)) (fun r_1 hr_1 => ?_)
  subst hr_1
  refine lv_if_eq (tgt := 22) hx hb dX0_init_8 (by decide) (fun c_2 => ?_) (fun c_2 => ?_)
  · refine lv_iconst (v := 0) hx hb dX0_init_22 (by decide) ?_
    have gN := hz ((tb_0 _).mp c_2)
    subst gN
    refine lv_istore_n (lv' := [(3, .int 0), (0, .ref a), (1, .int k), (2, .int len)]) hx hb dX0_init_23 rfl hl (by decide) rfl (fun ls hl => ?_)
    refine lv_aload_n hx hb dX0_init_24 rfl (lv_at hl 1 rfl) ?_
    refine lv_iload_n hx hb dX0_init_25 rfl (lv_at hl 2 rfl) ?_
    refine va_putF (D := D) (ci := 0) (fs := [.int 0, .int 0, .null, .null]) (v := .int k) (ty := .int) (C := RX0) (T := TX0) (N := 4) hx hb hts (by decide +kernel) tyX0 tyX0_ok nmX0 hown hK hP hD hS p0 e0 rfl 0 (by decide) (hts (.fieldLink RX0 16 "TypedColumns$Column" "kind" "I") (by decide +kernel)) (fun _ h9 => h9) rfl hin rfl (by decide +kernel) rfl rfl (Nat.le_of_ble_eq_true rfl) dX0_init_26 (fun H locs hP hD hS => ?_)
    have hP : va_P D vwCl (ws.set p0 (a, .inr (0, [.int k, .int 0, .null, .null]))) H := hP
    have hD : va_D A (ws.set p0 (a, .inr (0, [.int k, .int 0, .null, .null]))) := hD
    refine lv_aload_n hx hb dX0_init_29 rfl (lv_at hl 1 rfl) ?_
    refine lv_iload_n hx hb dX0_init_30 rfl (lv_at hl 2 rfl) ?_
    refine vp_callSi (tc_CR (va_runSN (As := [.int k]) (rest := [.ref a]) ⟨hx, hb, hml, hown, hts⟩ (kX2_holdsCells l k) ⟨va_cnB 1 hts gX0_init_X2_holdsCells_n9 rfl rfl rfl (hE.2.2.2.1) (hts (.initialized RX2) (by decide +kernel)) (by decide +kernel) ⟨Nat.le_of_ble_eq_true rfl, Nat.le_of_ble_eq_true rfl⟩, hts (.static yX2_holdsCells) (by decide +kernel), trivial⟩ ⟨fun a U g mk q => q, fun U hU hW => ⟨rfl, trivial⟩⟩ rfl rfl hl.1 rfl (lv_room (Nat.le_of_ble_eq_true rfl)) dX0_init_31 ⟨by show _ ≤ 2; omega, by show _ ≤ 40; omega⟩)) (fun r_3 hr_3 => ?_)
    subst hr_3
    refine lv_if_eq (tgt := 41) hx hb dX0_init_34 (by decide) (fun _ => ?_) (fun q => absurd (c_2) q)
    refine lv_iconst (v := (-1)) hx hb dX0_init_41 (by decide) ?_
    refine va_putF (D := D) (ci := 0) (fs := [.int k, .int 0, .null, .null]) (v := .int (-1)) (ty := .int) (C := RX0) (T := TX0) (N := 4) hx hb hts (by decide +kernel) tyX0 tyX0_ok nmX0 hown hK hP hD hS p0 (tc_set_self e0) rfl 1 (by decide) (hts (.fieldLink RX0 22 "TypedColumns$Column" "length" "I") (by decide +kernel)) (fun _ h9 => h9) rfl hin rfl (by decide +kernel) rfl rfl (Nat.le_of_ble_eq_true rfl) dX0_init_42 (fun H locs hP hD hS => ?_)
    rw [List.set_set] at hP hD
    have hP : va_P D vwCl (ws.set p0 (a, .inr (0, [.int k, .int (-1), .null, .null]))) H := hP
    have hD : va_D A (ws.set p0 (a, .inr (0, [.int k, .int (-1), .null, .null]))) := hD
    refine lv_aload_n hx hb dX0_init_45 rfl (lv_at hl 1 rfl) ?_
    refine lv_iload_n hx hb dX0_init_46 rfl (lv_at hl 2 rfl) ?_
    refine vp_callSi (tc_CR (va_runSN (As := [.int k]) (rest := [.ref a]) ⟨hx, hb, hml, hown, hts⟩ (kX2_isFloating l k) ⟨va_cnB 1 hts gX0_init_X2_isFloating_n25 rfl rfl rfl (hE.2.2.2.2.2.1) (hts (.initialized RX2) (by decide +kernel)) (by decide +kernel) ⟨Nat.le_of_ble_eq_true rfl, Nat.le_of_ble_eq_true rfl⟩, hts (.static yX2_isFloating) (by decide +kernel), trivial⟩ ⟨fun a U g mk q => q, fun U hU hW => ⟨rfl, trivial⟩⟩ rfl rfl hl.1 rfl (lv_room (Nat.le_of_ble_eq_true rfl)) dX0_init_47 ⟨by show _ ≤ 2; omega, by show _ ≤ 40; omega⟩)) (fun r_5 hr_5 => ?_)
    subst hr_5
    refine lv_if_eq (tgt := 57) hx hb dX0_init_50 (by decide) (fun c_6 => ?_) (fun c_6 => ?_)
    · refine lv_iload_n hx hb dX0_init_57 rfl (lv_at hl 0 rfl) ?_
      refine va_newa (atype := .long) (ty := .long) (N' := 0) (a0 := (0, .inr (.inl (fun _ => 0)))) hx hb (hts (.arrayClass .long) (by decide +kernel)) rfl hK hP hD hS hA (fun _ => rfl) (by decide) (rfl) (Nat.le_of_ble_eq_true rfl) (Nat.le_of_ble_eq_true rfl) (Nat.le_of_ble_eq_true rfl) dX0_init_58 (fun q_7 cA_8 H hK1 hP hD hS => ?_)
      have hcA_8 : cJ = cA_8 := tc_uniq hK1 (i := 1) (j := 4) rfl rfl
      subst hcA_8
      clear hK1
      have hP : va_P D vwCl ((ws.set p0 (a, .inr (0, [.int k, .int (-1), .null, .null]))) ++ ([(q_7, .inl (cJ, 0, .inr (.inl (fun _ => 0))))] : va_W)) H := hP
      have hD : va_D A ((ws.set p0 (a, .inr (0, [.int k, .int (-1), .null, .null]))) ++ ([(q_7, .inl (cJ, 0, .inr (.inl (fun _ => 0))))] : va_W)) := hD
      refine va_putF (D := D) (ci := 0) (fs := [.int k, .int (-1), .null, .null]) (v := .ref q_7) (ty := .array .long) (C := RX0) (T := TX0) (N := 4) hx hb hts (by decide +kernel) tyX0 tyX0_ok nmX0 hown hK hP hD hS p0 (tc_app_l (tc_set_self e0)) rfl 2 (by decide) (hts (.fieldLink RX0 28 "TypedColumns$Column" "wholes" "[J") (by decide +kernel)) (fun _ h9 => h9) rfl hin rfl (by decide +kernel) rfl rfl (Nat.le_of_ble_eq_true rfl) dX0_init_60 (fun H locs hP hD hS => ?_)
      rw [tc_app_set (tc_set_self e0), List.set_set] at hP hD
      have hP : va_P D vwCl ((ws.set p0 (a, .inr (0, [.int k, .int (-1), .ref q_7, .null]))) ++ ([(q_7, .inl (cJ, 0, .inr (.inl (fun _ => 0))))] : va_W)) H := hP
      have hD : va_D A ((ws.set p0 (a, .inr (0, [.int k, .int (-1), .ref q_7, .null]))) ++ ([(q_7, .inl (cJ, 0, .inr (.inl (fun _ => 0))))] : va_W)) := hD
      refine lv_aload_n hx hb dX0_init_63 rfl (lv_at hl 1 rfl) ?_
      refine lv_iload_n hx hb dX0_init_64 rfl (lv_at hl 2 rfl) ?_
      refine vp_callSi (tc_CR (va_runSN (As := [.int k]) (rest := [.ref a]) ⟨hx, hb, hml, hown, hts⟩ (kX2_isFloating l k) ⟨va_cnB 1 hts gX0_init_X2_isFloating_n25 rfl rfl rfl (hE.2.2.2.2.2.1) (hts (.initialized RX2) (by decide +kernel)) (by decide +kernel) ⟨Nat.le_of_ble_eq_true rfl, Nat.le_of_ble_eq_true rfl⟩, hts (.static yX2_isFloating) (by decide +kernel), trivial⟩ ⟨fun a U g mk q => q, fun U hU hW => ⟨rfl, trivial⟩⟩ rfl rfl hl.1 rfl (lv_room (Nat.le_of_ble_eq_true rfl)) dX0_init_65 ⟨by show _ ≤ 2; omega, by show _ ≤ 40; omega⟩)) (fun r_9 hr_9 => ?_)
      subst hr_9
      refine lv_if_eq (tgt := 75) hx hb dX0_init_68 (by decide) (fun _ => ?_) (fun q => absurd (c_6) q)
      refine lv_iconst (v := 0) hx hb dX0_init_75 (by decide) ?_
      refine va_newa (atype := .double) (ty := .double) (N' := 0) (a0 := (0, .inr (.inr (.inr (.inl (fun _ => 0)))))) hx hb (hts (.arrayClass .double) (by decide +kernel)) rfl hK hP hD hS hA (fun _ => rfl) (by decide) (rfl) (Nat.le_of_ble_eq_true rfl) (Nat.le_of_ble_eq_true rfl) (by show _ ≤ 40; omega) dX0_init_76 (fun q_11 cA_12 H hK1 hP hD hS => ?_)
      have hcA_12 : cD = cA_12 := tc_uniq hK1 (i := 2) (j := 4) rfl rfl
      subst hcA_12
      clear hK1
      have hP : va_P D vwCl (((ws.set p0 (a, .inr (0, [.int k, .int (-1), .ref q_7, .null]))) ++ ([(q_7, .inl (cJ, 0, .inr (.inl (fun _ => 0))))] : va_W)) ++ ([(q_11, .inl (cD, 0, .inr (.inr (.inr (.inl (fun _ => 0))))))] : va_W)) H := hP
      have hD : va_D A (((ws.set p0 (a, .inr (0, [.int k, .int (-1), .ref q_7, .null]))) ++ ([(q_7, .inl (cJ, 0, .inr (.inl (fun _ => 0))))] : va_W)) ++ ([(q_11, .inl (cD, 0, .inr (.inr (.inr (.inl (fun _ => 0))))))] : va_W)) := hD
      refine va_putF (D := D) (ci := 0) (fs := [.int k, .int (-1), .ref q_7, .null]) (v := .ref q_11) (ty := .array .double) (C := RX0) (T := TX0) (N := 4) hx hb hts (by decide +kernel) tyX0 tyX0_ok nmX0 hown hK hP hD hS p0 (tc_app_l (tc_app_l (tc_set_self e0))) rfl 3 (by decide) (hts (.fieldLink RX0 32 "TypedColumns$Column" "reals" "[D") (by decide +kernel)) (fun _ h9 => h9) rfl hin rfl (by decide +kernel) rfl rfl (Nat.le_of_ble_eq_true rfl) dX0_init_78 (fun H locs hP hD hS => ?_)
      rw [tc_app_set (tc_app_l (tc_set_self e0)), tc_app_set (tc_set_self e0), List.set_set] at hP hD
      have hP : va_P D vwCl (((ws.set p0 (a, .inr (0, [.int k, .int (-1), .ref q_7, .ref q_11]))) ++ ([(q_7, .inl (cJ, 0, .inr (.inl (fun _ => 0))))] : va_W)) ++ ([(q_11, .inl (cD, 0, .inr (.inr (.inr (.inl (fun _ => 0))))))] : va_W)) H := hP
      have hD : va_D A (((ws.set p0 (a, .inr (0, [.int k, .int (-1), .ref q_7, .ref q_11]))) ++ ([(q_7, .inl (cJ, 0, .inr (.inl (fun _ => 0))))] : va_W)) ++ ([(q_11, .inl (cD, 0, .inr (.inr (.inr (.inl (fun _ => 0))))))] : va_W)) := hD
      have z1 : tc_cl k 0 = -1 := by unfold tc_cl; rw [if_neg (by rw [((tb_0 _).mp c_2)]; decide)]
      have z2 : tc_wl k 0 = 0 := by unfold tc_wl; split <;> rfl
      have z3 : tc_rl k 0 = 0 := by unfold tc_rl; split <;> rfl
      rw [List.append_assoc] at hP hD
      refine W.widen (k := 2) (n := 40) (Nat.le_of_ble_eq_true rfl) (Nat.le_of_ble_eq_true rfl) ?_
      exact W.vret hx hb hr (fun t9 ht9 hW9 => ⟨⟨(q_7, q_11), rfl, trivial, by rw [ht9, z1, z2, z3]; exact hP, by rw [z1, z2, z3]; exact hD⟩, hS.F ht9⟩) hS.2.2 dX0_init_81
    · refine lv_iconst (v := 0) hx hb dX0_init_53 (by decide) ?_
      refine lv_goto (tgt := 58) hx hb dX0_init_54 (by decide) ?_
      refine va_newa (atype := .long) (ty := .long) (N' := 0) (a0 := (0, .inr (.inl (fun _ => 0)))) hx hb (hts (.arrayClass .long) (by decide +kernel)) rfl hK hP hD hS hA (fun _ => rfl) (by decide) (rfl) (Nat.le_of_ble_eq_true rfl) (Nat.le_of_ble_eq_true rfl) (Nat.le_of_ble_eq_true rfl) dX0_init_58 (fun q_13 cA_14 H hK1 hP hD hS => ?_)
      have hcA_14 : cJ = cA_14 := tc_uniq hK1 (i := 1) (j := 4) rfl rfl
      subst hcA_14
      clear hK1
      have hP : va_P D vwCl ((ws.set p0 (a, .inr (0, [.int k, .int (-1), .null, .null]))) ++ ([(q_13, .inl (cJ, 0, .inr (.inl (fun _ => 0))))] : va_W)) H := hP
      have hD : va_D A ((ws.set p0 (a, .inr (0, [.int k, .int (-1), .null, .null]))) ++ ([(q_13, .inl (cJ, 0, .inr (.inl (fun _ => 0))))] : va_W)) := hD
      refine va_putF (D := D) (ci := 0) (fs := [.int k, .int (-1), .null, .null]) (v := .ref q_13) (ty := .array .long) (C := RX0) (T := TX0) (N := 4) hx hb hts (by decide +kernel) tyX0 tyX0_ok nmX0 hown hK hP hD hS p0 (tc_app_l (tc_set_self e0)) rfl 2 (by decide) (hts (.fieldLink RX0 28 "TypedColumns$Column" "wholes" "[J") (by decide +kernel)) (fun _ h9 => h9) rfl hin rfl (by decide +kernel) rfl rfl (Nat.le_of_ble_eq_true rfl) dX0_init_60 (fun H locs hP hD hS => ?_)
      rw [tc_app_set (tc_set_self e0), List.set_set] at hP hD
      have hP : va_P D vwCl ((ws.set p0 (a, .inr (0, [.int k, .int (-1), .ref q_13, .null]))) ++ ([(q_13, .inl (cJ, 0, .inr (.inl (fun _ => 0))))] : va_W)) H := hP
      have hD : va_D A ((ws.set p0 (a, .inr (0, [.int k, .int (-1), .ref q_13, .null]))) ++ ([(q_13, .inl (cJ, 0, .inr (.inl (fun _ => 0))))] : va_W)) := hD
      refine lv_aload_n hx hb dX0_init_63 rfl (lv_at hl 1 rfl) ?_
      refine lv_iload_n hx hb dX0_init_64 rfl (lv_at hl 2 rfl) ?_
      refine vp_callSi (tc_CR (va_runSN (As := [.int k]) (rest := [.ref a]) ⟨hx, hb, hml, hown, hts⟩ (kX2_isFloating l k) ⟨va_cnB 1 hts gX0_init_X2_isFloating_n25 rfl rfl rfl (hE.2.2.2.2.2.1) (hts (.initialized RX2) (by decide +kernel)) (by decide +kernel) ⟨Nat.le_of_ble_eq_true rfl, Nat.le_of_ble_eq_true rfl⟩, hts (.static yX2_isFloating) (by decide +kernel), trivial⟩ ⟨fun a U g mk q => q, fun U hU hW => ⟨rfl, trivial⟩⟩ rfl rfl hl.1 rfl (lv_room (Nat.le_of_ble_eq_true rfl)) dX0_init_65 ⟨by show _ ≤ 2; omega, by show _ ≤ 40; omega⟩)) (fun r_15 hr_15 => ?_)
      subst hr_15
      refine lv_if_eq (tgt := 75) hx hb dX0_init_68 (by decide) (fun q => absurd q (c_6)) (fun _ => ?_)
      refine lv_iload_n hx hb dX0_init_71 rfl (lv_at hl 0 rfl) ?_
      refine lv_goto (tgt := 76) hx hb dX0_init_72 (by decide) ?_
      refine va_newa (atype := .double) (ty := .double) (N' := 0) (a0 := (0, .inr (.inr (.inr (.inl (fun _ => 0)))))) hx hb (hts (.arrayClass .double) (by decide +kernel)) rfl hK hP hD hS hA (fun _ => rfl) (by decide) (rfl) (Nat.le_of_ble_eq_true rfl) (Nat.le_of_ble_eq_true rfl) (by show _ ≤ 40; omega) dX0_init_76 (fun q_17 cA_18 H hK1 hP hD hS => ?_)
      have hcA_18 : cD = cA_18 := tc_uniq hK1 (i := 2) (j := 4) rfl rfl
      subst hcA_18
      clear hK1
      have hP : va_P D vwCl (((ws.set p0 (a, .inr (0, [.int k, .int (-1), .ref q_13, .null]))) ++ ([(q_13, .inl (cJ, 0, .inr (.inl (fun _ => 0))))] : va_W)) ++ ([(q_17, .inl (cD, 0, .inr (.inr (.inr (.inl (fun _ => 0))))))] : va_W)) H := hP
      have hD : va_D A (((ws.set p0 (a, .inr (0, [.int k, .int (-1), .ref q_13, .null]))) ++ ([(q_13, .inl (cJ, 0, .inr (.inl (fun _ => 0))))] : va_W)) ++ ([(q_17, .inl (cD, 0, .inr (.inr (.inr (.inl (fun _ => 0))))))] : va_W)) := hD
      refine va_putF (D := D) (ci := 0) (fs := [.int k, .int (-1), .ref q_13, .null]) (v := .ref q_17) (ty := .array .double) (C := RX0) (T := TX0) (N := 4) hx hb hts (by decide +kernel) tyX0 tyX0_ok nmX0 hown hK hP hD hS p0 (tc_app_l (tc_app_l (tc_set_self e0))) rfl 3 (by decide) (hts (.fieldLink RX0 32 "TypedColumns$Column" "reals" "[D") (by decide +kernel)) (fun _ h9 => h9) rfl hin rfl (by decide +kernel) rfl rfl (Nat.le_of_ble_eq_true rfl) dX0_init_78 (fun H locs hP hD hS => ?_)
      rw [tc_app_set (tc_app_l (tc_set_self e0)), tc_app_set (tc_set_self e0), List.set_set] at hP hD
      have hP : va_P D vwCl (((ws.set p0 (a, .inr (0, [.int k, .int (-1), .ref q_13, .ref q_17]))) ++ ([(q_13, .inl (cJ, 0, .inr (.inl (fun _ => 0))))] : va_W)) ++ ([(q_17, .inl (cD, 0, .inr (.inr (.inr (.inl (fun _ => 0))))))] : va_W)) H := hP
      have hD : va_D A (((ws.set p0 (a, .inr (0, [.int k, .int (-1), .ref q_13, .ref q_17]))) ++ ([(q_13, .inl (cJ, 0, .inr (.inl (fun _ => 0))))] : va_W)) ++ ([(q_17, .inl (cD, 0, .inr (.inr (.inr (.inl (fun _ => 0))))))] : va_W)) := hD
      have z1 : tc_cl k 0 = -1 := by unfold tc_cl; rw [if_neg (by rw [((tb_0 _).mp c_2)]; decide)]
      have z2 : tc_wl k 0 = 0 := by unfold tc_wl; split <;> rfl
      have z3 : tc_rl k 0 = 0 := by unfold tc_rl; split <;> rfl
      rw [List.append_assoc] at hP hD
      refine W.widen (k := 2) (n := 40) (Nat.le_of_ble_eq_true rfl) (Nat.le_of_ble_eq_true rfl) ?_
      exact W.vret hx hb hr (fun t9 ht9 hW9 => ⟨⟨(q_13, q_17), rfl, trivial, by rw [ht9, z1, z2, z3]; exact hP, by rw [z1, z2, z3]; exact hD⟩, hS.F ht9⟩) hS.2.2 dX0_init_81
  · refine lv_iload_n hx hb dX0_init_11 rfl (lv_at hl 2 rfl) ?_
    refine vp_callSi (tc_CR (va_runSN (As := [.int len]) (rest := []) ⟨hx, hb, hml, hown, hts⟩ (kX2_isLength l len) ⟨va_cnB 1 hts gX0_init_X2_isLength_n13 rfl rfl rfl (hE.2.2.2.2.1) (hts (.initialized RX2) (by decide +kernel)) (by decide +kernel) ⟨Nat.le_of_ble_eq_true rfl, Nat.le_of_ble_eq_true rfl⟩, hts (.static yX2_isLength) (by decide +kernel), trivial⟩ ⟨fun a U g mk q => q, fun U hU hW => ⟨rfl, trivial⟩⟩ rfl rfl hl.1 rfl (lv_room (Nat.le_of_ble_eq_true rfl)) dX0_init_12 ⟨by show _ ≤ 2; omega, by show _ ≤ 40; omega⟩)) (fun r_19 hr_19 => ?_)
    subst hr_19
    refine lv_if_eq (tgt := 22) hx hb dX0_init_15 (by decide) (fun q => absurd q ((tb_1 _).mpr (by rw [hlen ((tb_1 _).mp c_2)]; exact kLen_nI hN))) (fun _ => ?_)
    refine lv_iload_n hx hb dX0_init_18 rfl (lv_at hl 2 rfl) ?_
    refine lv_goto (tgt := 23) hx hb dX0_init_19 (by decide) ?_
    have gl := hlen ((tb_1 _).mp c_2)
    subst gl
    refine lv_istore_n (lv' := [(3, .int (nI N)), (0, .ref a), (1, .int k), (2, .int (nI N))]) hx hb dX0_init_23 rfl hl (by decide) rfl (fun ls hl => ?_)
    refine lv_aload_n hx hb dX0_init_24 rfl (lv_at hl 1 rfl) ?_
    refine lv_iload_n hx hb dX0_init_25 rfl (lv_at hl 2 rfl) ?_
    refine va_putF (D := D) (ci := 0) (fs := [.int 0, .int 0, .null, .null]) (v := .int k) (ty := .int) (C := RX0) (T := TX0) (N := 4) hx hb hts (by decide +kernel) tyX0 tyX0_ok nmX0 hown hK hP hD hS p0 e0 rfl 0 (by decide) (hts (.fieldLink RX0 16 "TypedColumns$Column" "kind" "I") (by decide +kernel)) (fun _ h9 => h9) rfl hin rfl (by decide +kernel) rfl rfl (Nat.le_of_ble_eq_true rfl) dX0_init_26 (fun H locs hP hD hS => ?_)
    have hP : va_P D vwCl (ws.set p0 (a, .inr (0, [.int k, .int 0, .null, .null]))) H := hP
    have hD : va_D A (ws.set p0 (a, .inr (0, [.int k, .int 0, .null, .null]))) := hD
    refine lv_aload_n hx hb dX0_init_29 rfl (lv_at hl 1 rfl) ?_
    refine lv_iload_n hx hb dX0_init_30 rfl (lv_at hl 2 rfl) ?_
    refine vp_callSi (tc_CR (va_runSN (As := [.int k]) (rest := [.ref a]) ⟨hx, hb, hml, hown, hts⟩ (kX2_holdsCells l k) ⟨va_cnB 1 hts gX0_init_X2_holdsCells_n9 rfl rfl rfl (hE.2.2.2.1) (hts (.initialized RX2) (by decide +kernel)) (by decide +kernel) ⟨Nat.le_of_ble_eq_true rfl, Nat.le_of_ble_eq_true rfl⟩, hts (.static yX2_holdsCells) (by decide +kernel), trivial⟩ ⟨fun a U g mk q => q, fun U hU hW => ⟨rfl, trivial⟩⟩ rfl rfl hl.1 rfl (lv_room (Nat.le_of_ble_eq_true rfl)) dX0_init_31 ⟨by show _ ≤ 2; omega, by show _ ≤ 40; omega⟩)) (fun r_21 hr_21 => ?_)
    subst hr_21
    refine lv_if_eq (tgt := 41) hx hb dX0_init_34 (by decide) (fun q => absurd q (c_2)) (fun _ => ?_)
    refine lv_iload_n hx hb dX0_init_37 rfl (lv_at hl 0 rfl) ?_
    refine lv_goto (tgt := 42) hx hb dX0_init_38 (by decide) ?_
    refine va_putF (D := D) (ci := 0) (fs := [.int k, .int 0, .null, .null]) (v := .int (nI N)) (ty := .int) (C := RX0) (T := TX0) (N := 4) hx hb hts (by decide +kernel) tyX0 tyX0_ok nmX0 hown hK hP hD hS p0 (tc_set_self e0) rfl 1 (by decide) (hts (.fieldLink RX0 22 "TypedColumns$Column" "length" "I") (by decide +kernel)) (fun _ h9 => h9) rfl hin rfl (by decide +kernel) rfl rfl (Nat.le_of_ble_eq_true rfl) dX0_init_42 (fun H locs hP hD hS => ?_)
    rw [List.set_set] at hP hD
    have hP : va_P D vwCl (ws.set p0 (a, .inr (0, [.int k, .int (nI N), .null, .null]))) H := hP
    have hD : va_D A (ws.set p0 (a, .inr (0, [.int k, .int (nI N), .null, .null]))) := hD
    refine lv_aload_n hx hb dX0_init_45 rfl (lv_at hl 1 rfl) ?_
    refine lv_iload_n hx hb dX0_init_46 rfl (lv_at hl 2 rfl) ?_
    refine vp_callSi (tc_CR (va_runSN (As := [.int k]) (rest := [.ref a]) ⟨hx, hb, hml, hown, hts⟩ (kX2_isFloating l k) ⟨va_cnB 1 hts gX0_init_X2_isFloating_n25 rfl rfl rfl (hE.2.2.2.2.2.1) (hts (.initialized RX2) (by decide +kernel)) (by decide +kernel) ⟨Nat.le_of_ble_eq_true rfl, Nat.le_of_ble_eq_true rfl⟩, hts (.static yX2_isFloating) (by decide +kernel), trivial⟩ ⟨fun a U g mk q => q, fun U hU hW => ⟨rfl, trivial⟩⟩ rfl rfl hl.1 rfl (lv_room (Nat.le_of_ble_eq_true rfl)) dX0_init_47 ⟨by show _ ≤ 2; omega, by show _ ≤ 40; omega⟩)) (fun r_23 hr_23 => ?_)
    subst hr_23
    refine lv_if_eq (tgt := 57) hx hb dX0_init_50 (by decide) (fun c_24 => ?_) (fun c_24 => ?_)
    · refine lv_iload_n hx hb dX0_init_57 rfl (lv_at hl 0 rfl) ?_
      refine va_newa (atype := .long) (ty := .long) (N' := N) (a0 := (N, .inr (.inl (fun _ => 0)))) hx hb (hts (.arrayClass .long) (by decide +kernel)) rfl hK hP hD hS hA (fun _ => rfl) (nI_pos (by omega)) (nI_clamp (by omega)) (by show N * 8 ≤ _; omega) (Nat.le_of_ble_eq_true rfl) (by show _ ≤ 40; omega) dX0_init_58 (fun q_25 cA_26 H hK1 hP hD hS => ?_)
      have hcA_26 : cJ = cA_26 := tc_uniq hK1 (i := 1) (j := 4) rfl rfl
      subst hcA_26
      clear hK1
      have hP : va_P D vwCl ((ws.set p0 (a, .inr (0, [.int k, .int (nI N), .null, .null]))) ++ ([(q_25, .inl (cJ, N, .inr (.inl (fun _ => 0))))] : va_W)) H := hP
      have hD : va_D A ((ws.set p0 (a, .inr (0, [.int k, .int (nI N), .null, .null]))) ++ ([(q_25, .inl (cJ, N, .inr (.inl (fun _ => 0))))] : va_W)) := hD
      refine va_putF (D := D) (ci := 0) (fs := [.int k, .int (nI N), .null, .null]) (v := .ref q_25) (ty := .array .long) (C := RX0) (T := TX0) (N := 4) hx hb hts (by decide +kernel) tyX0 tyX0_ok nmX0 hown hK hP hD hS p0 (tc_app_l (tc_set_self e0)) rfl 2 (by decide) (hts (.fieldLink RX0 28 "TypedColumns$Column" "wholes" "[J") (by decide +kernel)) (fun _ h9 => h9) rfl hin rfl (by decide +kernel) rfl rfl (Nat.le_of_ble_eq_true rfl) dX0_init_60 (fun H locs hP hD hS => ?_)
      rw [tc_app_set (tc_set_self e0), List.set_set] at hP hD
      have hP : va_P D vwCl ((ws.set p0 (a, .inr (0, [.int k, .int (nI N), .ref q_25, .null]))) ++ ([(q_25, .inl (cJ, N, .inr (.inl (fun _ => 0))))] : va_W)) H := hP
      have hD : va_D A ((ws.set p0 (a, .inr (0, [.int k, .int (nI N), .ref q_25, .null]))) ++ ([(q_25, .inl (cJ, N, .inr (.inl (fun _ => 0))))] : va_W)) := hD
      refine lv_aload_n hx hb dX0_init_63 rfl (lv_at hl 1 rfl) ?_
      refine lv_iload_n hx hb dX0_init_64 rfl (lv_at hl 2 rfl) ?_
      refine vp_callSi (tc_CR (va_runSN (As := [.int k]) (rest := [.ref a]) ⟨hx, hb, hml, hown, hts⟩ (kX2_isFloating l k) ⟨va_cnB 1 hts gX0_init_X2_isFloating_n25 rfl rfl rfl (hE.2.2.2.2.2.1) (hts (.initialized RX2) (by decide +kernel)) (by decide +kernel) ⟨Nat.le_of_ble_eq_true rfl, Nat.le_of_ble_eq_true rfl⟩, hts (.static yX2_isFloating) (by decide +kernel), trivial⟩ ⟨fun a U g mk q => q, fun U hU hW => ⟨rfl, trivial⟩⟩ rfl rfl hl.1 rfl (lv_room (Nat.le_of_ble_eq_true rfl)) dX0_init_65 ⟨by show _ ≤ 2; omega, by show _ ≤ 40; omega⟩)) (fun r_27 hr_27 => ?_)
      subst hr_27
      refine lv_if_eq (tgt := 75) hx hb dX0_init_68 (by decide) (fun _ => ?_) (fun q => absurd (c_24) q)
      refine lv_iconst (v := 0) hx hb dX0_init_75 (by decide) ?_
      refine va_newa (atype := .double) (ty := .double) (N' := 0) (a0 := (0, .inr (.inr (.inr (.inl (fun _ => 0)))))) hx hb (hts (.arrayClass .double) (by decide +kernel)) rfl hK hP hD hS hA (fun _ => rfl) (by decide) (rfl) (Nat.le_of_ble_eq_true rfl) (Nat.le_of_ble_eq_true rfl) (by show _ ≤ 40; omega) dX0_init_76 (fun q_29 cA_30 H hK1 hP hD hS => ?_)
      have hcA_30 : cD = cA_30 := tc_uniq hK1 (i := 2) (j := 4) rfl rfl
      subst hcA_30
      clear hK1
      have hP : va_P D vwCl (((ws.set p0 (a, .inr (0, [.int k, .int (nI N), .ref q_25, .null]))) ++ ([(q_25, .inl (cJ, N, .inr (.inl (fun _ => 0))))] : va_W)) ++ ([(q_29, .inl (cD, 0, .inr (.inr (.inr (.inl (fun _ => 0))))))] : va_W)) H := hP
      have hD : va_D A (((ws.set p0 (a, .inr (0, [.int k, .int (nI N), .ref q_25, .null]))) ++ ([(q_25, .inl (cJ, N, .inr (.inl (fun _ => 0))))] : va_W)) ++ ([(q_29, .inl (cD, 0, .inr (.inr (.inr (.inl (fun _ => 0))))))] : va_W)) := hD
      refine va_putF (D := D) (ci := 0) (fs := [.int k, .int (nI N), .ref q_25, .null]) (v := .ref q_29) (ty := .array .double) (C := RX0) (T := TX0) (N := 4) hx hb hts (by decide +kernel) tyX0 tyX0_ok nmX0 hown hK hP hD hS p0 (tc_app_l (tc_app_l (tc_set_self e0))) rfl 3 (by decide) (hts (.fieldLink RX0 32 "TypedColumns$Column" "reals" "[D") (by decide +kernel)) (fun _ h9 => h9) rfl hin rfl (by decide +kernel) rfl rfl (Nat.le_of_ble_eq_true rfl) dX0_init_78 (fun H locs hP hD hS => ?_)
      rw [tc_app_set (tc_app_l (tc_set_self e0)), tc_app_set (tc_set_self e0), List.set_set] at hP hD
      have hP : va_P D vwCl (((ws.set p0 (a, .inr (0, [.int k, .int (nI N), .ref q_25, .ref q_29]))) ++ ([(q_25, .inl (cJ, N, .inr (.inl (fun _ => 0))))] : va_W)) ++ ([(q_29, .inl (cD, 0, .inr (.inr (.inr (.inl (fun _ => 0))))))] : va_W)) H := hP
      have hD : va_D A (((ws.set p0 (a, .inr (0, [.int k, .int (nI N), .ref q_25, .ref q_29]))) ++ ([(q_25, .inl (cJ, N, .inr (.inl (fun _ => 0))))] : va_W)) ++ ([(q_29, .inl (cD, 0, .inr (.inr (.inr (.inl (fun _ => 0))))))] : va_W)) := hD
      have z1 : tc_cl k N = nI N := tc_cl_has ((tb_1 _).mp c_2)
      have z2 : tc_wl k N = N := tc_wl_n ((tb_0 _).mp c_24)
      have z3 : tc_rl k N = 0 := tc_rl_z N ((tb_0 _).mp c_24)
      rw [List.append_assoc] at hP hD
      refine W.widen (k := 2) (n := 40) (Nat.le_of_ble_eq_true rfl) (by omega) ?_
      exact W.vret hx hb hr (fun t9 ht9 hW9 => ⟨⟨(q_25, q_29), rfl, trivial, by rw [ht9, z1, z2, z3]; exact hP, by rw [z1, z2, z3]; exact hD⟩, hS.F ht9⟩) hS.2.2 dX0_init_81
    · refine lv_iconst (v := 0) hx hb dX0_init_53 (by decide) ?_
      refine lv_goto (tgt := 58) hx hb dX0_init_54 (by decide) ?_
      refine va_newa (atype := .long) (ty := .long) (N' := 0) (a0 := (0, .inr (.inl (fun _ => 0)))) hx hb (hts (.arrayClass .long) (by decide +kernel)) rfl hK hP hD hS hA (fun _ => rfl) (by decide) (rfl) (Nat.le_of_ble_eq_true rfl) (Nat.le_of_ble_eq_true rfl) (Nat.le_of_ble_eq_true rfl) dX0_init_58 (fun q_31 cA_32 H hK1 hP hD hS => ?_)
      have hcA_32 : cJ = cA_32 := tc_uniq hK1 (i := 1) (j := 4) rfl rfl
      subst hcA_32
      clear hK1
      have hP : va_P D vwCl ((ws.set p0 (a, .inr (0, [.int k, .int (nI N), .null, .null]))) ++ ([(q_31, .inl (cJ, 0, .inr (.inl (fun _ => 0))))] : va_W)) H := hP
      have hD : va_D A ((ws.set p0 (a, .inr (0, [.int k, .int (nI N), .null, .null]))) ++ ([(q_31, .inl (cJ, 0, .inr (.inl (fun _ => 0))))] : va_W)) := hD
      refine va_putF (D := D) (ci := 0) (fs := [.int k, .int (nI N), .null, .null]) (v := .ref q_31) (ty := .array .long) (C := RX0) (T := TX0) (N := 4) hx hb hts (by decide +kernel) tyX0 tyX0_ok nmX0 hown hK hP hD hS p0 (tc_app_l (tc_set_self e0)) rfl 2 (by decide) (hts (.fieldLink RX0 28 "TypedColumns$Column" "wholes" "[J") (by decide +kernel)) (fun _ h9 => h9) rfl hin rfl (by decide +kernel) rfl rfl (Nat.le_of_ble_eq_true rfl) dX0_init_60 (fun H locs hP hD hS => ?_)
      rw [tc_app_set (tc_set_self e0), List.set_set] at hP hD
      have hP : va_P D vwCl ((ws.set p0 (a, .inr (0, [.int k, .int (nI N), .ref q_31, .null]))) ++ ([(q_31, .inl (cJ, 0, .inr (.inl (fun _ => 0))))] : va_W)) H := hP
      have hD : va_D A ((ws.set p0 (a, .inr (0, [.int k, .int (nI N), .ref q_31, .null]))) ++ ([(q_31, .inl (cJ, 0, .inr (.inl (fun _ => 0))))] : va_W)) := hD
      refine lv_aload_n hx hb dX0_init_63 rfl (lv_at hl 1 rfl) ?_
      refine lv_iload_n hx hb dX0_init_64 rfl (lv_at hl 2 rfl) ?_
      refine vp_callSi (tc_CR (va_runSN (As := [.int k]) (rest := [.ref a]) ⟨hx, hb, hml, hown, hts⟩ (kX2_isFloating l k) ⟨va_cnB 1 hts gX0_init_X2_isFloating_n25 rfl rfl rfl (hE.2.2.2.2.2.1) (hts (.initialized RX2) (by decide +kernel)) (by decide +kernel) ⟨Nat.le_of_ble_eq_true rfl, Nat.le_of_ble_eq_true rfl⟩, hts (.static yX2_isFloating) (by decide +kernel), trivial⟩ ⟨fun a U g mk q => q, fun U hU hW => ⟨rfl, trivial⟩⟩ rfl rfl hl.1 rfl (lv_room (Nat.le_of_ble_eq_true rfl)) dX0_init_65 ⟨by show _ ≤ 2; omega, by show _ ≤ 40; omega⟩)) (fun r_33 hr_33 => ?_)
      subst hr_33
      refine lv_if_eq (tgt := 75) hx hb dX0_init_68 (by decide) (fun q => absurd q (c_24)) (fun _ => ?_)
      refine lv_iload_n hx hb dX0_init_71 rfl (lv_at hl 0 rfl) ?_
      refine lv_goto (tgt := 76) hx hb dX0_init_72 (by decide) ?_
      refine va_newa (atype := .double) (ty := .double) (N' := N) (a0 := (N, .inr (.inr (.inr (.inl (fun _ => 0)))))) hx hb (hts (.arrayClass .double) (by decide +kernel)) rfl hK hP hD hS hA (fun _ => rfl) (nI_pos (by omega)) (nI_clamp (by omega)) (by show N * 8 ≤ _; omega) (Nat.le_of_ble_eq_true rfl) (by show _ ≤ 40; omega) dX0_init_76 (fun q_35 cA_36 H hK1 hP hD hS => ?_)
      have hcA_36 : cD = cA_36 := tc_uniq hK1 (i := 2) (j := 4) rfl rfl
      subst hcA_36
      clear hK1
      have hP : va_P D vwCl (((ws.set p0 (a, .inr (0, [.int k, .int (nI N), .ref q_31, .null]))) ++ ([(q_31, .inl (cJ, 0, .inr (.inl (fun _ => 0))))] : va_W)) ++ ([(q_35, .inl (cD, N, .inr (.inr (.inr (.inl (fun _ => 0))))))] : va_W)) H := hP
      have hD : va_D A (((ws.set p0 (a, .inr (0, [.int k, .int (nI N), .ref q_31, .null]))) ++ ([(q_31, .inl (cJ, 0, .inr (.inl (fun _ => 0))))] : va_W)) ++ ([(q_35, .inl (cD, N, .inr (.inr (.inr (.inl (fun _ => 0))))))] : va_W)) := hD
      refine va_putF (D := D) (ci := 0) (fs := [.int k, .int (nI N), .ref q_31, .null]) (v := .ref q_35) (ty := .array .double) (C := RX0) (T := TX0) (N := 4) hx hb hts (by decide +kernel) tyX0 tyX0_ok nmX0 hown hK hP hD hS p0 (tc_app_l (tc_app_l (tc_set_self e0))) rfl 3 (by decide) (hts (.fieldLink RX0 32 "TypedColumns$Column" "reals" "[D") (by decide +kernel)) (fun _ h9 => h9) rfl hin rfl (by decide +kernel) rfl rfl (Nat.le_of_ble_eq_true rfl) dX0_init_78 (fun H locs hP hD hS => ?_)
      rw [tc_app_set (tc_app_l (tc_set_self e0)), tc_app_set (tc_set_self e0), List.set_set] at hP hD
      have hP : va_P D vwCl (((ws.set p0 (a, .inr (0, [.int k, .int (nI N), .ref q_31, .ref q_35]))) ++ ([(q_31, .inl (cJ, 0, .inr (.inl (fun _ => 0))))] : va_W)) ++ ([(q_35, .inl (cD, N, .inr (.inr (.inr (.inl (fun _ => 0))))))] : va_W)) H := hP
      have hD : va_D A (((ws.set p0 (a, .inr (0, [.int k, .int (nI N), .ref q_31, .ref q_35]))) ++ ([(q_31, .inl (cJ, 0, .inr (.inl (fun _ => 0))))] : va_W)) ++ ([(q_35, .inl (cD, N, .inr (.inr (.inr (.inl (fun _ => 0))))))] : va_W)) := hD
      have z1 : tc_cl k N = nI N := tc_cl_has ((tb_1 _).mp c_2)
      have z2 : tc_wl k N = 0 := tc_wl_z N ((tb_1 _).mp c_24)
      have z3 : tc_rl k N = N := tc_rl_n ((tb_1 _).mp c_24)
      rw [List.append_assoc] at hP hD
      refine W.widen (k := 2) (n := 40) (Nat.le_of_ble_eq_true rfl) (by omega) ?_
      exact W.vret hx hb hr (fun t9 ht9 hW9 => ⟨⟨(q_31, q_35), rfl, trivial, by rw [ht9, z1, z2, z3]; exact hP, by rw [z1, z2, z3]; exact hD⟩, hS.F ht9⟩) hS.2.2 dX0_init_81
set_option maxHeartbeats 4000000 in
set_option maxRecDepth 100000 in
theorem oX2_addColumn (l : Launch) (D : va_G) (A : Nat → Prop) (cI cJ cD cC : ClassId) (ws : va_W) (h0 h1 h2 h3 n : Nat) (cd : Int32) (f : Nat → Option Nat) (qk v : Nat) (vs : List Value) (sz : Nat) (z0 : ws[0]? = some (h0, .inr (2, [.ref h1, .ref h2, .ref h3, .int (nI n), .int cd]))) (z1 : ws[1]? = some (h1, .inl (cC, 60, .inr (.inr (.inr (.inr f)))))) (zk : ws[qk]? = some (v, .inr (0, vs))) (hn : n < 60) : Met l yX2_addColumn wsX2_addColumn ({ frames := 0, cells := 0, slots := 0, locals := 0 }) (tcP D A (tcTY cI cJ cD cC) sz [.ref h0, .ref v] ws) (va_Qi (fun r (_ : Unit) => r = nI n) (fun _ t => tcB D A ((ws.set 1 (h1, .inl (cC, 60, .inr (.inr (.inr (.inr (va_up f n (some v)))))))).set 0 (h0, .inr (2, [.ref h1, .ref h2, .ref h3, .int (nI n + 1), .int cd]))) t) A) 0 0 A := by
  refine Met.ofW (cc := cX2_addColumn) (maxL := 3) (ret := (some .int)) (by decide) rfl ?_
  intro p e s m args below meth c s₁ B hml hv
  obtain ⟨rfl, hsz, hP, hK, hD, hE⟩ := hv
  have hx := B.exec
  have hb := B.bytes
  have hr := B.returns
  have hts := atoms_spec (ws := wsX2_addColumn) B.pre
  have hown : s.vm.findClass RX2 = some m.cls := findClass_of_methodNamed B.named
  have hlocks := B.notSynchronized
  have hl := lv_entry ([.ref h0, .ref v]) (n := 3) (Nat.le_of_ble_eq_true rfl)
  rw [lg_entry_eq]
  generalize (lg_sl ([.ref h0, .ref v]) ++ List.replicate (3 - (lg_sl ([.ref h0, .ref v])).length) Slot.unset).toArray = ls at hl ⊢
  have hl : lv_has ls 3 [(0, .ref h0), (1, .ref v)] := hl
  subst hsz
  have hS : va_S A s.heap s.heap [] := va_S.rf
  refine lv_aload_n hx hb dX2_addColumn_0 rfl (lv_at hl 0 rfl) ?_
  refine va_get (D := D) (ci := 2) (fs := [.ref h1, .ref h2, .ref h3, .int (nI n), .int cd]) (v := .int (nI n)) (C := RX2) (T := TX2) (N := 5) hx hb hts (by decide +kernel) hown hK hP 0 z0 rfl 3 (by decide) (hts (.fieldLink RX2 26 "TypedColumns" "created" "I") (by decide +kernel)) (fun _ h9 => h9) rfl dX2_addColumn_1 ?_
  refine lv_istore_n (lv' := [(2, .int (nI n)), (0, .ref h0), (1, .ref v)]) hx hb dX2_addColumn_4 rfl hl (by decide) rfl (fun ls hl => ?_)
  refine lv_iload_n hx hb dX2_addColumn_5 rfl (lv_at hl 0 rfl) ?_
  refine lv_if_lt (tgt := 32) hx hb dX2_addColumn_6 (by decide) (fun q => absurd q (nI_pos (by omega))) (fun _ => ?_)
  refine lv_iload_n hx hb dX2_addColumn_9 rfl (lv_at hl 0 rfl) ?_
  refine lv_aload_n hx hb dX2_addColumn_10 rfl (lv_at hl 1 rfl) ?_
  refine va_get (D := D) (ci := 2) (fs := [.ref h1, .ref h2, .ref h3, .int (nI n), .int cd]) (v := .ref h1) (C := RX2) (T := TX2) (N := 5) hx hb hts (by decide +kernel) hown hK hP 0 z0 rfl 0 (by decide) (hts (.fieldLink RX2 11 "TypedColumns" "columns" "[LTypedColumns$Column;") (by decide +kernel)) (fun _ h9 => h9) rfl dX2_addColumn_11 ?_
  refine va_alen (v := 60) hx hb hK hP 1 3 z1 rfl rfl dX2_addColumn_14 ?_
  refine lv_icmp_ge (tgt := 32) hx hb dX2_addColumn_15 (by decide) (fun q => absurd q (nI_ge hn (by decide))) (fun _ => ?_)
  refine lv_aload_n hx hb dX2_addColumn_18 rfl (lv_at hl 1 rfl) ?_
  refine va_get (D := D) (ci := 2) (fs := [.ref h1, .ref h2, .ref h3, .int (nI n), .int cd]) (v := .ref h1) (C := RX2) (T := TX2) (N := 5) hx hb hts (by decide +kernel) hown hK hP 0 z0 rfl 0 (by decide) (hts (.fieldLink RX2 11 "TypedColumns" "columns" "[LTypedColumns$Column;") (by decide +kernel)) (fun _ h9 => h9) rfl dX2_addColumn_19 ?_
  refine lv_iload_n hx hb dX2_addColumn_22 rfl (lv_at hl 0 rfl) ?_
  refine lv_aload_n hx hb dX2_addColumn_23 rfl (lv_at hl 2 rfl) ?_
  refine va_astq hx hb hK hP hD hS 1 3 qk 0 (f := f) (v := v) (r := ("TypedColumns$Column", TX0, 4)) z1 rfl zk rfl (vp_in_nI hn (by decide)) dX2_addColumn_24 (fun H locs hP hD hS => ?_)
  rw [nI_clamp (n := n) (by omega)] at hP hD
  have z0a := tc_set_ne (y := (h1, .inl (cC, 60, .inr (.inr (.inr (.inr (va_up f n (some v)))))))) z0 (show 1 ≠ 0 by decide)
  refine lv_aload_n hx hb dX2_addColumn_25 rfl (lv_at hl 1 rfl) ?_
  refine lv_iload_n hx hb dX2_addColumn_26 rfl (lv_at hl 0 rfl) ?_
  refine lv_iconst (v := 1) hx hb dX2_addColumn_27 (by decide) ?_
  refine lv_iadd hx hb dX2_addColumn_28 ?_
  refine va_put (D := D) (ci := 2) (fs := [.ref h1, .ref h2, .ref h3, .int (nI n), .int cd]) (v := .int ((nI n) + 1)) (ty := .int) (C := RX2) (T := TX2) (N := 5) hx hb hts (by decide +kernel) tyX2 tyX2_ok nmX2 hown hK hP hD hS 0 z0a rfl 3 (by decide) (hts (.fieldLink RX2 26 "TypedColumns" "created" "I") (by decide +kernel)) (fun _ h9 => h9) rfl (by decide +kernel) rfl rfl (Nat.le_of_ble_eq_true rfl) dX2_addColumn_29 (fun H locs hP hD hS => ?_)
  refine lv_iload_n hx hb dX2_addColumn_32 rfl (lv_at hl 0 rfl) ?_
  exact W.iret (v := (nI n)) hx hb hr (fun t9 ht9 hW9 => ⟨⟨(nI n), (), rfl, rfl, by rw [ht9]; exact hP, hD⟩, hS.F ht9⟩) hS.2.2 dX2_addColumn_33
theorem zr0 {α : Type} {n : Nat} {z : α} (m : Nat) (hm : m ≤ 40) (f : Nat → α) : tc_sl m (fun i => tc_put n 0 (fun _ => z) z f (40 * n + i)) z = (fun _ => z) := by
  funext i
  show (if i < m then tc_put n 0 (fun _ => z) z f (40 * n + i) else z) = z
  by_cases h : i < m
  · rw [if_pos h, tc_put_in (by omega), if_neg (Nat.not_lt_zero i)]
  · rw [if_neg h]
set_option maxHeartbeats 4000000 in
set_option maxRecDepth 100000 in
theorem tX2_create (l : Launch) (D : va_G) (A : Nat → Prop) (cI cJ cD cC : ClassId) (h0 h1 h2 h3 h4 : Nat) (ad wd rd : Nat → Nat) (Y : va_W) (n : Nat) (K : Nat → Int32) (Ln : Nat → Nat) (Wh : Nat → Int64) (Re : Nat → UInt64) (cd : Int32) (ct : Nat → Int32) (sz : Nat) (hI : tcI n K Ln Wh Re) (hn : n < 60) (kd len : Int32) (N : Nat) (hN : N ≤ 40) (hk : kIs kd = true) (hlen : kHas kd = true → len = nI N) (hz : kHas kd = false → N = 0) (hA : ∀ q, sz ≤ q → A q) : Met l yX2_create wsX2_create ({ frames := 2, cells := 3, slots := 44, locals := 43 }) (tcP D A (tcTY cI cJ cD cC) sz [.ref h0, .int kd, .int len] (tc_T cI cJ cD cC h0 h1 h2 h3 h4 ad wd rd Y n K Ln Wh Re cd ct)) (va_Qi (fun r (_ : Nat × Nat × Nat) => r = nI n) (fun u t => tcB D A (tc_T cI cJ cD cC h0 h1 h2 h3 h4 (va_up ad n u.1) (va_up wd n u.2.1) (va_up rd n u.2.2) Y (n + 1) (va_up K n kd) (va_up Ln n N) (tc_put n 0 (fun _ => 0) 0 Wh) (tc_put n 0 (fun _ => 0) 0 Re) cd ct) t) A) 3 44 A := by
  refine Met.ofW (cc := cX2_create) (maxL := 3) (ret := (some .int)) (by decide) rfl ?_
  intro p e s m args below meth c s₁ B hml hv
  obtain ⟨rfl, hsz, hP, hK, hD, hE⟩ := hv
  have hx := B.exec
  have hb := B.bytes
  have hr := B.returns
  have hts := atoms_spec (ws := wsX2_create) B.pre
  have hown : s.vm.findClass RX2 = some m.cls := findClass_of_methodNamed B.named
  have hlocks := B.notSynchronized
  have hl := lv_entry ([.ref h0, .int kd, .int len]) (n := 3) (Nat.le_of_ble_eq_true rfl)
  rw [lg_entry_eq]
  generalize (lg_sl ([.ref h0, .int kd, .int len]) ++ List.replicate (3 - (lg_sl ([.ref h0, .int kd, .int len])).length) Slot.unset).toArray = ls at hl ⊢
  have hl : lv_has ls 3 [(0, .ref h0), (1, .int kd), (2, .int len)] := hl
  subst hsz
  have hS : va_S A s.heap s.heap [] := va_S.rf
  refine lv_iload_n hx hb dX2_create_0 rfl (lv_at hl 1 rfl) ?_
  refine vp_callSi (W.runS (As := [.int kd]) (rest := []) ⟨hx, hb, hml, hown, hts⟩ (kX2_isKind l kd) (va_cwS 1 hts gX2_create_X2_isKind rfl rfl rfl (by decide +kernel) ⟨Nat.le_of_ble_eq_true rfl, Nat.le_of_ble_eq_true rfl⟩) ⟨fun a U g mk q => q, fun U hU hW => ⟨rfl, trivial⟩⟩ rfl rfl hl.1 rfl (lv_room (Nat.le_of_ble_eq_true rfl)) dX2_create_1 ⟨Nat.zero_le _, Nat.zero_le _⟩) (fun r_1 hr_1 => ?_)
  subst hr_1
  refine lv_if_ne (tgt := 17) hx hb dX2_create_4 (by decide) (fun _ => ?_) (fun q => absurd q ((tb_1 _).mpr hk))
  refine lv_iload_n hx hb dX2_create_17 rfl (lv_at hl 1 rfl) ?_
  refine vp_callSi (W.runS (As := [.int kd]) (rest := []) ⟨hx, hb, hml, hown, hts⟩ (kX2_holdsCells l kd) (va_cwS 1 hts gX2_create_X2_holdsCells rfl rfl rfl (by decide +kernel) ⟨Nat.le_of_ble_eq_true rfl, Nat.le_of_ble_eq_true rfl⟩) ⟨fun a U g mk q => q, fun U hU hW => ⟨rfl, trivial⟩⟩ rfl rfl hl.1 rfl (lv_room (Nat.le_of_ble_eq_true rfl)) dX2_create_18 ⟨Nat.zero_le _, Nat.zero_le _⟩) (fun r_3 hr_3 => ?_)
  subst hr_3
  refine lv_if_eq (tgt := 41) hx hb dX2_create_21 (by decide) (fun c_4 => ?_) (fun c_4 => ?_)
  · refine lv_aload_n hx hb dX2_create_41 rfl (lv_at hl 0 rfl) ?_
    refine va_csv (tc_CR (va_runV (As := []) (rest := []) ⟨hx, hb, hml, hown, hts⟩ (tX2_refuseWhenFull l D A cI cJ cD cC h0 h1 h2 h3 h4 ad wd rd Y n K Ln Wh Re cd ct s.heap.size hn) (cwV 0 hts gX2_create_X2_refuseWhenFull rfl rfl rfl (by decide +kernel) ⟨Nat.le_of_ble_eq_true rfl, Nat.le_of_ble_eq_true rfl⟩) ⟨tcP.blind, (va_recv hK hP (ci := 2) (q0 := 0) rfl rfl), (tcP.go hK hP hD hE hS)⟩ rfl rfl hl.1 rfl (lv_room (Nat.le_of_ble_eq_true rfl)) dX2_create_42 ⟨Nat.le_of_ble_eq_true rfl, Nat.le_of_ble_eq_true rfl⟩)) (fun _ => ?_)
    refine lv_aload_n hx hb dX2_create_45 rfl (lv_at hl 0 rfl) ?_
    refine va_new (ci := 0) (fs := [.int 0, .int 0, .null, .null]) (C := RX0) (T := TX0) (N := 4) hx hb hts (by decide +kernel) tyX0 tyX0_ok hown (hts (.classLink RX2 9 RX0) (by decide +kernel)) (hts (.instantiable RX0 4) (by decide +kernel)) (hts (.initialized RX0) (by decide +kernel)) hK hP hD hS hA rfl (fun j hj => by rcases (show j = 0 ∨ j = 1 ∨ j = 2 ∨ j = 3 by omega) with rfl | rfl | rfl | rfl <;> rfl) (Nat.le_of_ble_eq_true rfl) (Nat.le_of_ble_eq_true rfl) dX2_create_46 (fun q_5 H hP hD hS => ?_)
    refine lv_dup hx hb dX2_create_49 rfl ?_
    refine lv_iload_n hx hb dX2_create_50 rfl (lv_at hl 1 rfl) ?_
    refine lv_iload_n hx hb dX2_create_51 rfl (lv_at hl 2 rfl) ?_
    refine va_callv (va_runI (As := [.int kd, .int len]) (rest := [.ref q_5, .ref h0]) ⟨hx, hb, hml, hown, hts⟩ (oX0_init l D A cI cJ cD cC ((tc_T cI cJ cD cC h0 h1 h2 h3 h4 ad wd rd Y n K Ln Wh Re cd ct) ++ ([(q_5, .inr (0, [.int 0, .int 0, .null, .null]))] : va_W)) ((tc_T cI cJ cD cC h0 h1 h2 h3 h4 ad wd rd Y n K Ln Wh Re cd ct)).length q_5 H.size tc_app_last (fun q h => hA q (Nat.le_trans hS.1 h)) kd len N hN hlen hz) (cwI 2 hts gX2_create_X0_init rfl rfl rfl (hts (.initialized RX0) (by decide +kernel)) (hts (.methodLink RX2 55 yX0_init) (by decide +kernel)) (hts (.instanceMethod yX0_init) (by decide +kernel)) rfl (by decide +kernel) ⟨Nat.le_of_ble_eq_true rfl, Nat.le_of_ble_eq_true rfl⟩) ⟨tcP.blind, (tcP.go hK hP hD hE hS)⟩ rfl rfl hl.1 rfl (lv_room (Nat.le_of_ble_eq_true rfl)) dX2_create_52 ⟨Nat.le_of_ble_eq_true rfl, Nat.le_of_ble_eq_true rfl⟩) hS (fun q _ h => h) (fun q h => h) (fun u t H locs ht hvm hw hB hz1 hk1 hS => ?_)
    obtain ⟨hP, hD⟩ := hB
    rw [ht] at hP
    rw [tc_app_last_set, List.append_assoc] at hP hD
    obtain ⟨u1, u2⟩ := u
    have hP : va_P D vwCl ((tc_T cI cJ cD cC h0 h1 h2 h3 h4 ad wd rd Y n K Ln Wh Re cd ct) ++ ([(q_5, .inr (0, [.int kd, .int (tc_cl kd N), .ref u1, .ref u2])), (u1, .inl (cJ, tc_wl kd N, .inr (.inl (fun _ => 0)))), (u2, .inl (cD, tc_rl kd N, .inr (.inr (.inr (.inl (fun _ => 0))))))] : va_W)) H := hP
    have hD : va_D A ((tc_T cI cJ cD cC h0 h1 h2 h3 h4 ad wd rd Y n K Ln Wh Re cd ct) ++ ([(q_5, .inr (0, [.int kd, .int (tc_cl kd N), .ref u1, .ref u2])), (u1, .inl (cJ, tc_wl kd N, .inr (.inl (fun _ => 0)))), (u2, .inl (cD, tc_rl kd N, .inr (.inr (.inr (.inl (fun _ => 0))))))] : va_W)) := hD
    refine va_calli (va_runV (As := [.ref q_5]) (rest := []) ⟨hx, hb, hml, hown, hts⟩ (oX2_addColumn l D A cI cJ cD cC ((tc_T cI cJ cD cC h0 h1 h2 h3 h4 ad wd rd Y n K Ln Wh Re cd ct) ++ ([(q_5, .inr (0, [.int kd, .int (tc_cl kd N), .ref u1, .ref u2])), (u1, .inl (cJ, tc_wl kd N, .inr (.inl (fun _ => 0)))), (u2, .inl (cD, tc_rl kd N, .inr (.inr (.inr (.inl (fun _ => 0))))))] : va_W)) h0 h1 h2 h3 n cd (fun j => if j < n then some (ad j) else none) ((tc_T cI cJ cD cC h0 h1 h2 h3 h4 ad wd rd Y n K Ln Wh Re cd ct)).length q_5 _ H.size rfl rfl tc_app_mid hn) (cwV 1 hts gX2_create_X2_addColumn rfl rfl rfl (by decide +kernel) ⟨Nat.le_of_ble_eq_true rfl, Nat.le_of_ble_eq_true rfl⟩) ⟨tcP.blind, (va_recv hK hP (ci := 2) (q0 := 0) rfl rfl), (tcP.go hK hP hD hE hS)⟩ rfl rfl hl.1 rfl (lv_room (Nat.le_of_ble_eq_true rfl)) dX2_create_55 ⟨Nat.le_of_ble_eq_true rfl, Nat.le_of_ble_eq_true rfl⟩) hS (fun q _ h => h) (fun q h => h) (fun r_7 u t H locs ht hvm hw hB hz1 hk1 hS => ?_)
    subst hw
    obtain ⟨hP, hD⟩ := hB
    rw [ht] at hP
    rw [tc_T_add (Wh' := (tc_put n 0 (fun _ => 0) 0 Wh)) (Re' := (tc_put n 0 (fun _ => 0) 0 Re)) (fun j hj => (hI.2.1 j hj).2.1) (fun j i hj hi => tc_put_out hj hi) (fun j i hj hi => tc_put_out hj hi) (zr0 (tc_wl kd N) (wl_le hN) _) (zr0 (tc_rl kd N) (rl_le hN) _)] at hP hD
    exact W.iret (v := nI n) hx hb hr (fun t9 ht9 hW9 => ⟨⟨nI n, (q_5, u1, u2), rfl, rfl, by rw [ht9]; exact hP, hD⟩, hS.F ht9⟩) hS.2.2 dX2_create_58
  · refine lv_iload_n hx hb dX2_create_24 rfl (lv_at hl 2 rfl) ?_
    refine vp_callSi (W.runS (As := [.int len]) (rest := []) ⟨hx, hb, hml, hown, hts⟩ (kX2_isLength l len) (va_cwS 1 hts gX2_create_X2_isLength rfl rfl rfl (by decide +kernel) ⟨Nat.le_of_ble_eq_true rfl, Nat.le_of_ble_eq_true rfl⟩) ⟨fun a U g mk q => q, fun U hU hW => ⟨rfl, trivial⟩⟩ rfl rfl hl.1 rfl (lv_room (Nat.le_of_ble_eq_true rfl)) dX2_create_25 ⟨Nat.zero_le _, Nat.zero_le _⟩) (fun r_8 hr_8 => ?_)
    subst hr_8
    refine lv_if_ne (tgt := 41) hx hb dX2_create_28 (by decide) (fun _ => ?_) (fun q => absurd q ((tb_1 _).mpr (by rw [hlen ((tb_1 _).mp c_4)]; exact kLen_nI hN)))
    refine lv_aload_n hx hb dX2_create_41 rfl (lv_at hl 0 rfl) ?_
    refine va_csv (tc_CR (va_runV (As := []) (rest := []) ⟨hx, hb, hml, hown, hts⟩ (tX2_refuseWhenFull l D A cI cJ cD cC h0 h1 h2 h3 h4 ad wd rd Y n K Ln Wh Re cd ct s.heap.size hn) (cwV 0 hts gX2_create_X2_refuseWhenFull rfl rfl rfl (by decide +kernel) ⟨Nat.le_of_ble_eq_true rfl, Nat.le_of_ble_eq_true rfl⟩) ⟨tcP.blind, (va_recv hK hP (ci := 2) (q0 := 0) rfl rfl), (tcP.go hK hP hD hE hS)⟩ rfl rfl hl.1 rfl (lv_room (Nat.le_of_ble_eq_true rfl)) dX2_create_42 ⟨Nat.le_of_ble_eq_true rfl, Nat.le_of_ble_eq_true rfl⟩)) (fun _ => ?_)
    refine lv_aload_n hx hb dX2_create_45 rfl (lv_at hl 0 rfl) ?_
    refine va_new (ci := 0) (fs := [.int 0, .int 0, .null, .null]) (C := RX0) (T := TX0) (N := 4) hx hb hts (by decide +kernel) tyX0 tyX0_ok hown (hts (.classLink RX2 9 RX0) (by decide +kernel)) (hts (.instantiable RX0 4) (by decide +kernel)) (hts (.initialized RX0) (by decide +kernel)) hK hP hD hS hA rfl (fun j hj => by rcases (show j = 0 ∨ j = 1 ∨ j = 2 ∨ j = 3 by omega) with rfl | rfl | rfl | rfl <;> rfl) (Nat.le_of_ble_eq_true rfl) (Nat.le_of_ble_eq_true rfl) dX2_create_46 (fun q_10 H hP hD hS => ?_)
    refine lv_dup hx hb dX2_create_49 rfl ?_
    refine lv_iload_n hx hb dX2_create_50 rfl (lv_at hl 1 rfl) ?_
    refine lv_iload_n hx hb dX2_create_51 rfl (lv_at hl 2 rfl) ?_
    refine va_callv (va_runI (As := [.int kd, .int len]) (rest := [.ref q_10, .ref h0]) ⟨hx, hb, hml, hown, hts⟩ (oX0_init l D A cI cJ cD cC ((tc_T cI cJ cD cC h0 h1 h2 h3 h4 ad wd rd Y n K Ln Wh Re cd ct) ++ ([(q_10, .inr (0, [.int 0, .int 0, .null, .null]))] : va_W)) ((tc_T cI cJ cD cC h0 h1 h2 h3 h4 ad wd rd Y n K Ln Wh Re cd ct)).length q_10 H.size tc_app_last (fun q h => hA q (Nat.le_trans hS.1 h)) kd len N hN hlen hz) (cwI 2 hts gX2_create_X0_init rfl rfl rfl (hts (.initialized RX0) (by decide +kernel)) (hts (.methodLink RX2 55 yX0_init) (by decide +kernel)) (hts (.instanceMethod yX0_init) (by decide +kernel)) rfl (by decide +kernel) ⟨Nat.le_of_ble_eq_true rfl, Nat.le_of_ble_eq_true rfl⟩) ⟨tcP.blind, (tcP.go hK hP hD hE hS)⟩ rfl rfl hl.1 rfl (lv_room (Nat.le_of_ble_eq_true rfl)) dX2_create_52 ⟨Nat.le_of_ble_eq_true rfl, Nat.le_of_ble_eq_true rfl⟩) hS (fun q _ h => h) (fun q h => h) (fun u t H locs ht hvm hw hB hz1 hk1 hS => ?_)
    obtain ⟨hP, hD⟩ := hB
    rw [ht] at hP
    rw [tc_app_last_set, List.append_assoc] at hP hD
    obtain ⟨u1, u2⟩ := u
    have hP : va_P D vwCl ((tc_T cI cJ cD cC h0 h1 h2 h3 h4 ad wd rd Y n K Ln Wh Re cd ct) ++ ([(q_10, .inr (0, [.int kd, .int (tc_cl kd N), .ref u1, .ref u2])), (u1, .inl (cJ, tc_wl kd N, .inr (.inl (fun _ => 0)))), (u2, .inl (cD, tc_rl kd N, .inr (.inr (.inr (.inl (fun _ => 0))))))] : va_W)) H := hP
    have hD : va_D A ((tc_T cI cJ cD cC h0 h1 h2 h3 h4 ad wd rd Y n K Ln Wh Re cd ct) ++ ([(q_10, .inr (0, [.int kd, .int (tc_cl kd N), .ref u1, .ref u2])), (u1, .inl (cJ, tc_wl kd N, .inr (.inl (fun _ => 0)))), (u2, .inl (cD, tc_rl kd N, .inr (.inr (.inr (.inl (fun _ => 0))))))] : va_W)) := hD
    refine va_calli (va_runV (As := [.ref q_10]) (rest := []) ⟨hx, hb, hml, hown, hts⟩ (oX2_addColumn l D A cI cJ cD cC ((tc_T cI cJ cD cC h0 h1 h2 h3 h4 ad wd rd Y n K Ln Wh Re cd ct) ++ ([(q_10, .inr (0, [.int kd, .int (tc_cl kd N), .ref u1, .ref u2])), (u1, .inl (cJ, tc_wl kd N, .inr (.inl (fun _ => 0)))), (u2, .inl (cD, tc_rl kd N, .inr (.inr (.inr (.inl (fun _ => 0))))))] : va_W)) h0 h1 h2 h3 n cd (fun j => if j < n then some (ad j) else none) ((tc_T cI cJ cD cC h0 h1 h2 h3 h4 ad wd rd Y n K Ln Wh Re cd ct)).length q_10 _ H.size rfl rfl tc_app_mid hn) (cwV 1 hts gX2_create_X2_addColumn rfl rfl rfl (by decide +kernel) ⟨Nat.le_of_ble_eq_true rfl, Nat.le_of_ble_eq_true rfl⟩) ⟨tcP.blind, (va_recv hK hP (ci := 2) (q0 := 0) rfl rfl), (tcP.go hK hP hD hE hS)⟩ rfl rfl hl.1 rfl (lv_room (Nat.le_of_ble_eq_true rfl)) dX2_create_55 ⟨Nat.le_of_ble_eq_true rfl, Nat.le_of_ble_eq_true rfl⟩) hS (fun q _ h => h) (fun q h => h) (fun r_12 u t H locs ht hvm hw hB hz1 hk1 hS => ?_)
    subst hw
    obtain ⟨hP, hD⟩ := hB
    rw [ht] at hP
    rw [tc_T_add (Wh' := (tc_put n 0 (fun _ => 0) 0 Wh)) (Re' := (tc_put n 0 (fun _ => 0) 0 Re)) (fun j hj => (hI.2.1 j hj).2.1) (fun j i hj hi => tc_put_out hj hi) (fun j i hj hi => tc_put_out hj hi) (zr0 (tc_wl kd N) (wl_le hN) _) (zr0 (tc_rl kd N) (rl_le hN) _)] at hP hD
    exact W.iret (v := nI n) hx hb hr (fun t9 ht9 hW9 => ⟨⟨nI n, (q_10, u1, u2), rfl, rfl, by rw [ht9]; exact hP, hD⟩, hS.F ht9⟩) hS.2.2 dX2_create_58
set_option maxHeartbeats 4000000 in
set_option maxRecDepth 100000 in
theorem tX2_widened_no (l : Launch) (D : va_G) (A : Nat → Prop) (cI cJ cD cC : ClassId) (h0 h1 h2 h3 h4 : Nat) (ad wd rd : Nat → Nat) (Y : va_W) (n : Nat) (K : Nat → Int32) (Ln : Nat → Nat) (Wh : Nat → Int64) (Re : Nat → UInt64) (cd : Int32) (ct : Nat → Int32) (sz : Nat) (hI : tcI n K Ln Wh Re) (j : Nat) (hj : j < n) (hn : n < 60) (kd : Int32) (hk : kHas kd = true) (hc : ¬ wdC K j kd = 0) : Met l yX2_widened wsX2_widened ({ frames := 2, cells := 0, slots := 0, locals := 41 }) (tcP D A (tcTY cI cJ cD cC) sz [.ref h0, .int (nI j), .int kd] (tc_T cI cJ cD cC h0 h1 h2 h3 h4 ad wd rd Y n K Ln Wh Re cd ct)) (va_Qi (fun r (_ : Unit) => r = -1) (fun _ t => tcB D A (tc_T cI cJ cD cC h0 h1 h2 h3 h4 ad wd rd Y n K Ln Wh Re (wdC K j kd) (noteC ct (wdC K j kd))) t) A) 0 0 A := by
  refine Met.ofW (cc := cX2_widened) (maxL := 6) (ret := (some .int)) (by decide) rfl ?_
  intro p e s m args below meth c s₁ B hml hv
  obtain ⟨rfl, hsz, hP, hK, hD, hE⟩ := hv
  have hx := B.exec
  have hb := B.bytes
  have hr := B.returns
  have hts := atoms_spec (ws := wsX2_widened) B.pre
  have hown : s.vm.findClass RX2 = some m.cls := findClass_of_methodNamed B.named
  have hlocks := B.notSynchronized
  have hl := lv_entry ([.ref h0, .int (nI j), .int kd]) (n := 6) (Nat.le_of_ble_eq_true rfl)
  rw [lg_entry_eq]
  generalize (lg_sl ([.ref h0, .int (nI j), .int kd]) ++ List.replicate (6 - (lg_sl ([.ref h0, .int (nI j), .int kd])).length) Slot.unset).toArray = ls at hl ⊢
  have hl : lv_has ls 6 [(0, .ref h0), (1, .int (nI j)), (2, .int kd)] := hl
  subst hsz
  have hS : va_S A s.heap s.heap [] := va_S.rf
  refine lv_aload_n hx hb dX2_widened_0 rfl (lv_at hl 0 rfl) ?_
  refine lv_iload_n hx hb dX2_widened_1 rfl (lv_at hl 1 rfl) ?_
  refine va_csr (tc_CR (va_runV (As := [.int (nI j)]) (rest := []) ⟨hx, hb, hml, hown, hts⟩ (tX2_columnAt l D A cI cJ cD cC h0 h1 h2 h3 h4 ad wd rd Y n K Ln Wh Re cd ct s.heap.size hI.1 j hj) (cwV 1 hts gX2_widened_X2_columnAt rfl rfl rfl (by decide +kernel) ⟨Nat.le_of_ble_eq_true rfl, Nat.le_of_ble_eq_true rfl⟩) ⟨tcP.blind, va_recv hK hP (ci := 2) (q0 := 0) rfl rfl, tcP.go hK hP hD hE hS⟩ rfl rfl hl.1 rfl (lv_room (Nat.le_of_ble_eq_true rfl)) dX2_widened_2 ⟨Nat.le_of_ble_eq_true rfl, Nat.le_of_ble_eq_true rfl⟩)) (fun _ _ => ?_)
  refine lv_astore_n (lv' := [(3, .ref (ad j)), (0, .ref h0), (1, .int (nI j)), (2, .int kd)]) hx hb dX2_widened_5 rfl hl (by decide) rfl (fun ls hl => ?_)
  refine lv_iload_n hx hb dX2_widened_6 rfl (lv_at hl 3 rfl) ?_
  refine va_csv (tc_CR (va_runS (As := [.int kd]) (rest := []) ⟨hx, hb, hml, hown, hts⟩ (tX2_refuseWithoutCells l D A cI cJ cD cC h0 h1 h2 h3 h4 ad wd rd Y n K Ln Wh Re cd ct s.heap.size kd hk) (va_cwS 1 hts gX2_widened_X2_refuseWithoutCells rfl rfl rfl (by decide +kernel) ⟨Nat.le_of_ble_eq_true rfl, Nat.le_of_ble_eq_true rfl⟩) ⟨tcP.blind, (tcP.go hK hP hD hE hS)⟩ rfl rfl hl.1 rfl (lv_room (Nat.le_of_ble_eq_true rfl)) dX2_widened_7 ⟨Nat.le_of_ble_eq_true rfl, Nat.le_of_ble_eq_true rfl⟩)) (fun _ => ?_)
  refine lv_aload_n hx hb dX2_widened_10 rfl (lv_at hl 1 rfl) ?_
  refine va_csv (tc_CR (va_runV (As := []) (rest := []) ⟨hx, hb, hml, hown, hts⟩ (tX2_refuseWhenFull l D A cI cJ cD cC h0 h1 h2 h3 h4 ad wd rd Y n K Ln Wh Re cd ct s.heap.size hn) (cwV 0 hts gX2_widened_X2_refuseWhenFull rfl rfl rfl (by decide +kernel) ⟨Nat.le_of_ble_eq_true rfl, Nat.le_of_ble_eq_true rfl⟩) ⟨tcP.blind, (va_recv hK hP (ci := 2) (q0 := 0) rfl rfl), (tcP.go hK hP hD hE hS)⟩ rfl rfl hl.1 rfl (lv_room (Nat.le_of_ble_eq_true rfl)) dX2_widened_11 ⟨Nat.le_of_ble_eq_true rfl, Nat.le_of_ble_eq_true rfl⟩)) (fun _ => ?_)
  refine lv_aload_n hx hb dX2_widened_14 rfl (lv_at hl 0 rfl) ?_
  refine vp_callSi (tc_CR (va_runS (As := [.ref (ad j)]) (rest := []) ⟨hx, hb, hml, hown, hts⟩ (oX2_codeOfColumn l D A cI cJ cD cC (tc_T cI cJ cD cC h0 h1 h2 h3 h4 ad wd rd Y n K Ln Wh Re cd ct) (5 + (Y.length + (3 * j + 0))) (5 + (Y.length + (3 * j + 1))) (5 + (Y.length + (3 * j + 2))) (ad j) (wd j) (rd j) (K j) (tc_cl (K j) (Ln j)) (tc_wl (K j) (Ln j)) (tc_rl (K j) (Ln j)) (tc_sl (tc_wl (K j) (Ln j)) (fun i => Wh (40 * j + i)) 0) (tc_sl (tc_rl (K j) (Ln j)) (fun i => Re (40 * j + i)) 0) s.heap.size (tc_T0 hj) (tc_T1 hj) (tc_T2 hj) (tc_len_lt (hI.2.1 j hj).2.1)) (va_cwS 1 hts gX2_widened_X2_codeOfColumn rfl rfl rfl (by decide +kernel) ⟨Nat.le_of_ble_eq_true rfl, Nat.le_of_ble_eq_true rfl⟩) ⟨tcP.blind, (tcP.go hK hP hD hE hS)⟩ rfl rfl hl.1 rfl (lv_room (Nat.le_of_ble_eq_true rfl)) dX2_widened_15 ⟨Nat.le_of_ble_eq_true rfl, Nat.le_of_ble_eq_true rfl⟩)) (fun r_1 hr_1 => ?_)
  subst hr_1
  refine lv_istore (lv' := [(4, .int (kCol (K j))), (3, .ref (ad j)), (0, .ref h0), (1, .int (nI j)), (2, .int kd)]) hx hb dX2_widened_18 hl (by decide) rfl (fun ls hl => ?_)
  refine lv_iload hx hb dX2_widened_20 (lv_at hl 0 rfl) ?_
  refine lv_if_ne (tgt := 39) hx hb dX2_widened_22 (by decide) (fun c_2 => ?_) (fun c_2 => ?_)
  · refine lv_aload_n hx hb dX2_widened_39 rfl (lv_at hl 2 rfl) ?_
    refine lv_iload hx hb dX2_widened_40 (lv_at hl 0 rfl) ?_
    have z : wdC K j kd = (kCol (K j)) := by unfold wdC; rw [if_neg c_2]
    refine va_calli (va_runV (As := [.int (kCol (K j))]) (rest := []) ⟨hx, hb, hml, hown, hts⟩ (tX2_note l D A cI cJ cD cC h0 h1 h2 h3 h4 ad wd rd Y n K Ln Wh Re cd ct s.heap.size (kCol (K j)) (z ▸ wdC_in K j kd)) (cwV 1 hts gX2_widened_X2_note rfl rfl rfl (by decide +kernel) ⟨Nat.le_of_ble_eq_true rfl, Nat.le_of_ble_eq_true rfl⟩) ⟨tcP.blind, (va_recv hK hP (ci := 2) (q0 := 0) rfl rfl), (tcP.go hK hP hD hE hS)⟩ rfl rfl hl.1 rfl (lv_room (Nat.le_of_ble_eq_true rfl)) dX2_widened_42 ⟨Nat.le_of_ble_eq_true rfl, Nat.le_of_ble_eq_true rfl⟩) hS (fun q _ h => h) (fun q h => h) (fun r_3 u t H locs ht hvm hw hB hz1 hk1 hS => ?_)
    subst hw
    obtain ⟨hP, hD⟩ := hB
    rw [ht] at hP
    rw [← z] at hP hD
    refine lv_if_eq (tgt := 50) hx hb dX2_widened_45 (by decide) (fun q => absurd q (c_2)) (fun _ => ?_)
    refine lv_iconst (v := (-1)) hx hb dX2_widened_48 (by decide) ?_
    exact W.iret (v := (-1)) hx hb hr (fun t9 ht9 hW9 => ⟨⟨(-1), (), rfl, rfl, by rw [ht9]; exact hP, hD⟩, hS.F ht9⟩) hS.2.2 dX2_widened_49
  · refine lv_aload_n hx hb dX2_widened_25 rfl (lv_at hl 1 rfl) ?_
    refine va_get (D := D) (ci := 0) (fs := [.int (K j), .int (tc_cl (K j) (Ln j)), .ref (wd j), .ref (rd j)]) (v := .int (K j)) (C := RX0) (T := TX0) (N := 4) hx hb hts (by decide +kernel) hown hK hP (5 + (Y.length + (3 * j + 0))) (tc_T0 hj) rfl 0 (by decide) (hts (.fieldLink RX2 66 "TypedColumns$Column" "kind" "I") (by decide +kernel)) (fun _ h9 => h9) rfl dX2_widened_26 ?_
    refine lv_iload_n hx hb dX2_widened_29 rfl (lv_at hl 4 rfl) ?_
    refine vp_callSi (W.runS (As := [.int (K j), .int kd]) (rest := []) ⟨hx, hb, hml, hown, hts⟩ (kX2_widens l (K j) kd) (va_cwS 2 hts gX2_widened_X2_widens rfl rfl rfl (by decide +kernel) ⟨Nat.le_of_ble_eq_true rfl, Nat.le_of_ble_eq_true rfl⟩) ⟨fun a U g mk q => q, fun U hU hW => ⟨rfl, trivial⟩⟩ rfl rfl hl.1 rfl (lv_room (Nat.le_of_ble_eq_true rfl)) dX2_widened_30 ⟨Nat.zero_le _, Nat.zero_le _⟩) (fun r_5 hr_5 => ?_)
    subst hr_5
    refine lv_if_ne (tgt := 39) hx hb dX2_widened_33 (by decide) (fun c_6 => ?_) (fun c_6 => ?_)
    · refine lv_aload_n hx hb dX2_widened_39 rfl (lv_at hl 2 rfl) ?_
      refine lv_iload hx hb dX2_widened_40 (lv_at hl 0 rfl) ?_
      have z : wdC K j kd = (kCol (K j)) := by unfold wdC; rw [if_pos c_2, if_pos ((tb_1 _).mp c_6), c_2]
      exact absurd (z.trans c_2) hc
    · refine lv_iconst (v := 4) hx hb dX2_widened_36 (by decide) ?_
      refine lv_istore (lv' := [(4, .int 4), (3, .ref (ad j)), (0, .ref h0), (1, .int (nI j)), (2, .int kd)]) hx hb dX2_widened_37 hl (by decide) rfl (fun ls hl => ?_)
      refine lv_aload_n hx hb dX2_widened_39 rfl (lv_at hl 2 rfl) ?_
      refine lv_iload hx hb dX2_widened_40 (lv_at hl 0 rfl) ?_
      have z : wdC K j kd = 4 := by unfold wdC; rw [if_pos c_2, if_neg (by rw [(tb_0 _).mp c_6]; decide)]
      refine va_calli (va_runV (As := [.int 4]) (rest := []) ⟨hx, hb, hml, hown, hts⟩ (tX2_note l D A cI cJ cD cC h0 h1 h2 h3 h4 ad wd rd Y n K Ln Wh Re cd ct s.heap.size 4 (z ▸ wdC_in K j kd)) (cwV 1 hts gX2_widened_X2_note rfl rfl rfl (by decide +kernel) ⟨Nat.le_of_ble_eq_true rfl, Nat.le_of_ble_eq_true rfl⟩) ⟨tcP.blind, (va_recv hK hP (ci := 2) (q0 := 0) rfl rfl), (tcP.go hK hP hD hE hS)⟩ rfl rfl hl.1 rfl (lv_room (Nat.le_of_ble_eq_true rfl)) dX2_widened_42 ⟨Nat.le_of_ble_eq_true rfl, Nat.le_of_ble_eq_true rfl⟩) hS (fun q _ h => h) (fun q h => h) (fun r_7 u t H locs ht hvm hw hB hz1 hk1 hS => ?_)
      subst hw
      obtain ⟨hP, hD⟩ := hB
      rw [ht] at hP
      rw [← z] at hP hD
      refine lv_if_eq (tgt := 50) hx hb dX2_widened_45 (by decide) (fun q => absurd q (by decide)) (fun _ => ?_)
      refine lv_iconst (v := (-1)) hx hb dX2_widened_48 (by decide) ?_
      exact W.iret (v := (-1)) hx hb hr (fun t9 ht9 hW9 => ⟨⟨(-1), (), rfl, rfl, by rw [ht9]; exact hP, hD⟩, hS.F ht9⟩) hS.2.2 dX2_widened_49
theorem wd4 {kd : Int32} (hk : kHas kd = true) (a : Int32) (h : kWid a kd = true) : (kFl a = true ∧ kFl kd = true) ∨ (kFl a = false ∧ kFl kd = false) ∨ (kFl a = false ∧ kd = 7) ∨ (kFl a = false ∧ kd = 8) := by
  cases ha : kFl a
  · rcases kFl_3 kd with g | g | g
    · exact Or.inr (Or.inl ⟨rfl, g⟩)
    · exact Or.inr (Or.inr (Or.inl ⟨rfl, g⟩))
    · exact Or.inr (Or.inr (Or.inr ⟨rfl, g⟩))
  · exact Or.inl ⟨rfl, kWid_high h ha⟩
set_option maxHeartbeats 4000000 in
set_option maxRecDepth 100000 in
theorem tX2_widened (l : Launch) (D : va_G) (A : Nat → Prop) (cI cJ cD cC : ClassId) (h0 h1 h2 h3 h4 : Nat) (ad wd rd : Nat → Nat) (Y : va_W) (n : Nat) (K : Nat → Int32) (Ln : Nat → Nat) (Wh : Nat → Int64) (Re : Nat → UInt64) (cd : Int32) (ct : Nat → Int32) (sz : Nat) (hI : tcI n K Ln Wh Re) (j : Nat) (hj : j < n) (hn : n < 60) (kd : Int32) (hk : kHas kd = true) (hc : wdC K j kd = 0) (hA : ∀ q, sz ≤ q → A q) : Met l yX2_widened wsX2_widened ({ frames := 3, cells := 3, slots := 44, locals := 68 }) (tcP D A (tcTY cI cJ cD cC) sz [.ref h0, .int (nI j), .int kd] (tc_T cI cJ cD cC h0 h1 h2 h3 h4 ad wd rd Y n K Ln Wh Re cd ct)) (va_Qi (fun r (_ : Nat × Nat × Nat) => r = nI n) (fun u t => tcB D A (tc_T cI cJ cD cC h0 h1 h2 h3 h4 (va_up ad n u.1) (va_up wd n u.2.1) (va_up rd n u.2.2) Y (n + 1) (va_up K n kd) (va_up Ln n (Ln j)) (tc_put n (Ln j) (fun i => Wh (40 * j + i)) 0 Wh) (tc_put n (Ln j) (wdV K Wh Re j kd) 0 Re) 0 (noteC ct 0)) t) A) 3 44 A := by
  refine Met.ofW (cc := cX2_widened) (maxL := 6) (ret := (some .int)) (by decide) rfl ?_
  intro p e s m args below meth c s₁ B hml hv
  obtain ⟨rfl, hsz, hP, hK, hD, hE⟩ := hv
  have hx := B.exec
  have hb := B.bytes
  have hr := B.returns
  have hts := atoms_spec (ws := wsX2_widened) B.pre
  have hown : s.vm.findClass RX2 = some m.cls := findClass_of_methodNamed B.named
  have hlocks := B.notSynchronized
  have hl := lv_entry ([.ref h0, .int (nI j), .int kd]) (n := 6) (Nat.le_of_ble_eq_true rfl)
  rw [lg_entry_eq]
  generalize (lg_sl ([.ref h0, .int (nI j), .int kd]) ++ List.replicate (6 - (lg_sl ([.ref h0, .int (nI j), .int kd])).length) Slot.unset).toArray = ls at hl ⊢
  have hl : lv_has ls 6 [(0, .ref h0), (1, .int (nI j)), (2, .int kd)] := hl
  subst hsz
  have hS : va_S A s.heap s.heap [] := va_S.rf
  obtain ⟨hc0, hc1⟩ := wdC_0 hc
  have hh := kCol_has (hI.2.1 j hj).1 hc0
  have hL : Ln j ≤ 40 := (hI.2.1 j hj).2.1
  refine lv_aload_n hx hb dX2_widened_0 rfl (lv_at hl 0 rfl) ?_
  refine lv_iload_n hx hb dX2_widened_1 rfl (lv_at hl 1 rfl) ?_
  refine va_csr (tc_CR (va_runV (As := [.int (nI j)]) (rest := []) ⟨hx, hb, hml, hown, hts⟩ (tX2_columnAt l D A cI cJ cD cC h0 h1 h2 h3 h4 ad wd rd Y n K Ln Wh Re cd ct s.heap.size hI.1 j hj) (cwV 1 hts gX2_widened_X2_columnAt rfl rfl rfl (by decide +kernel) ⟨Nat.le_of_ble_eq_true rfl, Nat.le_of_ble_eq_true rfl⟩) ⟨tcP.blind, va_recv hK hP (ci := 2) (q0 := 0) rfl rfl, tcP.go hK hP hD hE hS⟩ rfl rfl hl.1 rfl (lv_room (Nat.le_of_ble_eq_true rfl)) dX2_widened_2 ⟨Nat.le_of_ble_eq_true rfl, Nat.le_of_ble_eq_true rfl⟩)) (fun _ _ => ?_)
  refine lv_astore_n (lv' := [(3, .ref (ad j)), (0, .ref h0), (1, .int (nI j)), (2, .int kd)]) hx hb dX2_widened_5 rfl hl (by decide) rfl (fun ls hl => ?_)
  refine lv_iload_n hx hb dX2_widened_6 rfl (lv_at hl 3 rfl) ?_
  refine va_csv (tc_CR (va_runS (As := [.int kd]) (rest := []) ⟨hx, hb, hml, hown, hts⟩ (tX2_refuseWithoutCells l D A cI cJ cD cC h0 h1 h2 h3 h4 ad wd rd Y n K Ln Wh Re cd ct s.heap.size kd hk) (va_cwS 1 hts gX2_widened_X2_refuseWithoutCells rfl rfl rfl (by decide +kernel) ⟨Nat.le_of_ble_eq_true rfl, Nat.le_of_ble_eq_true rfl⟩) ⟨tcP.blind, (tcP.go hK hP hD hE hS)⟩ rfl rfl hl.1 rfl (lv_room (Nat.le_of_ble_eq_true rfl)) dX2_widened_7 ⟨Nat.le_of_ble_eq_true rfl, Nat.le_of_ble_eq_true rfl⟩)) (fun _ => ?_)
  refine lv_aload_n hx hb dX2_widened_10 rfl (lv_at hl 1 rfl) ?_
  refine va_csv (tc_CR (va_runV (As := []) (rest := []) ⟨hx, hb, hml, hown, hts⟩ (tX2_refuseWhenFull l D A cI cJ cD cC h0 h1 h2 h3 h4 ad wd rd Y n K Ln Wh Re cd ct s.heap.size hn) (cwV 0 hts gX2_widened_X2_refuseWhenFull rfl rfl rfl (by decide +kernel) ⟨Nat.le_of_ble_eq_true rfl, Nat.le_of_ble_eq_true rfl⟩) ⟨tcP.blind, (va_recv hK hP (ci := 2) (q0 := 0) rfl rfl), (tcP.go hK hP hD hE hS)⟩ rfl rfl hl.1 rfl (lv_room (Nat.le_of_ble_eq_true rfl)) dX2_widened_11 ⟨Nat.le_of_ble_eq_true rfl, Nat.le_of_ble_eq_true rfl⟩)) (fun _ => ?_)
  refine lv_aload_n hx hb dX2_widened_14 rfl (lv_at hl 0 rfl) ?_
  refine vp_callSi (tc_CR (va_runS (As := [.ref (ad j)]) (rest := []) ⟨hx, hb, hml, hown, hts⟩ (oX2_codeOfColumn l D A cI cJ cD cC (tc_T cI cJ cD cC h0 h1 h2 h3 h4 ad wd rd Y n K Ln Wh Re cd ct) (5 + (Y.length + (3 * j + 0))) (5 + (Y.length + (3 * j + 1))) (5 + (Y.length + (3 * j + 2))) (ad j) (wd j) (rd j) (K j) (tc_cl (K j) (Ln j)) (tc_wl (K j) (Ln j)) (tc_rl (K j) (Ln j)) (tc_sl (tc_wl (K j) (Ln j)) (fun i => Wh (40 * j + i)) 0) (tc_sl (tc_rl (K j) (Ln j)) (fun i => Re (40 * j + i)) 0) s.heap.size (tc_T0 hj) (tc_T1 hj) (tc_T2 hj) (tc_len_lt (hI.2.1 j hj).2.1)) (va_cwS 1 hts gX2_widened_X2_codeOfColumn rfl rfl rfl (by decide +kernel) ⟨Nat.le_of_ble_eq_true rfl, Nat.le_of_ble_eq_true rfl⟩) ⟨tcP.blind, (tcP.go hK hP hD hE hS)⟩ rfl rfl hl.1 rfl (lv_room (Nat.le_of_ble_eq_true rfl)) dX2_widened_15 ⟨Nat.le_of_ble_eq_true rfl, Nat.le_of_ble_eq_true rfl⟩)) (fun r_1 hr_1 => ?_)
  subst hr_1
  refine lv_istore (lv' := [(4, .int (kCol (K j))), (3, .ref (ad j)), (0, .ref h0), (1, .int (nI j)), (2, .int kd)]) hx hb dX2_widened_18 hl (by decide) rfl (fun ls hl => ?_)
  refine lv_iload hx hb dX2_widened_20 (lv_at hl 0 rfl) ?_
  refine lv_if_ne (tgt := 39) hx hb dX2_widened_22 (by decide) (fun q => absurd (hc0) q) (fun _ => ?_)
  refine lv_aload_n hx hb dX2_widened_25 rfl (lv_at hl 1 rfl) ?_
  refine va_get (D := D) (ci := 0) (fs := [.int (K j), .int (tc_cl (K j) (Ln j)), .ref (wd j), .ref (rd j)]) (v := .int (K j)) (C := RX0) (T := TX0) (N := 4) hx hb hts (by decide +kernel) hown hK hP (5 + (Y.length + (3 * j + 0))) (tc_T0 hj) rfl 0 (by decide) (hts (.fieldLink RX2 66 "TypedColumns$Column" "kind" "I") (by decide +kernel)) (fun _ h9 => h9) rfl dX2_widened_26 ?_
  refine lv_iload_n hx hb dX2_widened_29 rfl (lv_at hl 4 rfl) ?_
  refine vp_callSi (W.runS (As := [.int (K j), .int kd]) (rest := []) ⟨hx, hb, hml, hown, hts⟩ (kX2_widens l (K j) kd) (va_cwS 2 hts gX2_widened_X2_widens rfl rfl rfl (by decide +kernel) ⟨Nat.le_of_ble_eq_true rfl, Nat.le_of_ble_eq_true rfl⟩) ⟨fun a U g mk q => q, fun U hU hW => ⟨rfl, trivial⟩⟩ rfl rfl hl.1 rfl (lv_room (Nat.le_of_ble_eq_true rfl)) dX2_widened_30 ⟨Nat.zero_le _, Nat.zero_le _⟩) (fun r_3 hr_3 => ?_)
  subst hr_3
  refine lv_if_ne (tgt := 39) hx hb dX2_widened_33 (by decide) (fun _ => ?_) (fun q => absurd q ((tb_1 _).mpr hc1))
  refine lv_aload_n hx hb dX2_widened_39 rfl (lv_at hl 2 rfl) ?_
  refine lv_iload hx hb dX2_widened_40 (lv_at hl 0 rfl) ?_
  refine va_calli (va_runV (As := [.int (kCol (K j))]) (rest := []) ⟨hx, hb, hml, hown, hts⟩ (tX2_note l D A cI cJ cD cC h0 h1 h2 h3 h4 ad wd rd Y n K Ln Wh Re cd ct s.heap.size (kCol (K j)) (kCol_in _)) (cwV 1 hts gX2_widened_X2_note rfl rfl rfl (by decide +kernel) ⟨Nat.le_of_ble_eq_true rfl, Nat.le_of_ble_eq_true rfl⟩) ⟨tcP.blind, (va_recv hK hP (ci := 2) (q0 := 0) rfl rfl), (tcP.go hK hP hD hE hS)⟩ rfl rfl hl.1 rfl (lv_room (Nat.le_of_ble_eq_true rfl)) dX2_widened_42 ⟨Nat.le_of_ble_eq_true rfl, Nat.le_of_ble_eq_true rfl⟩) hS (fun q _ h => h) (fun q h => h) (fun r_5 u t H locs ht hvm hw hB hz1 hk1 hS => ?_)
  subst hw
  obtain ⟨hP, hD⟩ := hB
  rw [ht] at hP
  rw [hc0] at hP hD
  refine lv_if_eq (tgt := 50) hx hb dX2_widened_45 (by decide) (fun _ => ?_) (fun q => absurd (hc0) q)
  refine va_new (ci := 0) (fs := [.int 0, .int 0, .null, .null]) (C := RX0) (T := TX0) (N := 4) hx hb hts (by decide +kernel) tyX0 tyX0_ok hown (hts (.classLink RX2 9 RX0) (by decide +kernel)) (hts (.instantiable RX0 4) (by decide +kernel)) (hts (.initialized RX0) (by decide +kernel)) hK hP hD hS hA rfl (fun j hj => by rcases (show j = 0 ∨ j = 1 ∨ j = 2 ∨ j = 3 by omega) with rfl | rfl | rfl | rfl <;> rfl) (Nat.le_of_ble_eq_true rfl) (Nat.le_of_ble_eq_true rfl) dX2_widened_50 (fun q_7 H hP hD hS => ?_)
  refine lv_dup hx hb dX2_widened_53 rfl ?_
  refine lv_iload_n hx hb dX2_widened_54 rfl (lv_at hl 4 rfl) ?_
  refine lv_aload_n hx hb dX2_widened_55 rfl (lv_at hl 1 rfl) ?_
  refine va_get (D := D) (ci := 0) (fs := [.int (K j), .int (tc_cl (K j) (Ln j)), .ref (wd j), .ref (rd j)]) (v := .int (tc_cl (K j) (Ln j))) (C := RX0) (T := TX0) (N := 4) hx hb hts (by decide +kernel) hown hK hP (5 + (Y.length + (3 * j + 0))) (tc_app_l (tc_T0 hj)) rfl 1 (by decide) (hts (.fieldLink RX2 76 "TypedColumns$Column" "length" "I") (by decide +kernel)) (fun _ h9 => h9) rfl dX2_widened_56 ?_
  refine va_callv (va_runI (As := [.int kd, .int (tc_cl (K j) (Ln j))]) (rest := [.ref q_7]) ⟨hx, hb, hml, hown, hts⟩ (oX0_init l D A cI cJ cD cC ((tc_T cI cJ cD cC h0 h1 h2 h3 h4 ad wd rd Y n K Ln Wh Re 0 (noteC ct 0)) ++ ([(q_7, .inr (0, [.int 0, .int 0, .null, .null]))] : va_W)) ((tc_T cI cJ cD cC h0 h1 h2 h3 h4 ad wd rd Y n K Ln Wh Re 0 (noteC ct 0))).length q_7 H.size tc_app_last (fun q h => hA q (Nat.le_trans hS.1 h)) kd (tc_cl (K j) (Ln j)) (Ln j) hL (fun _ => tc_cl_has hh) (fun h => absurd hk (by rw [h]; decide))) (cwI 2 hts gX2_widened_X0_init rfl rfl rfl (hts (.initialized RX0) (by decide +kernel)) (hts (.methodLink RX2 55 yX0_init) (by decide +kernel)) (hts (.instanceMethod yX0_init) (by decide +kernel)) rfl (by decide +kernel) ⟨Nat.le_of_ble_eq_true rfl, Nat.le_of_ble_eq_true rfl⟩) ⟨tcP.blind, (tcP.go hK hP hD hE hS)⟩ rfl rfl hl.1 rfl (lv_room (Nat.le_of_ble_eq_true rfl)) dX2_widened_59 ⟨Nat.le_of_ble_eq_true rfl, Nat.le_of_ble_eq_true rfl⟩) hS (fun q _ h => h) (fun q h => h) (fun u t H locs ht hvm hw hB hz1 hk1 hS => ?_)
  obtain ⟨hP, hD⟩ := hB
  rw [ht] at hP
  rw [tc_app_last_set, List.append_assoc] at hP hD
  obtain ⟨u1, u2⟩ := u
  have hP : va_P D vwCl ((tc_T cI cJ cD cC h0 h1 h2 h3 h4 ad wd rd Y n K Ln Wh Re 0 (noteC ct 0)) ++ ([(q_7, .inr (0, [.int kd, .int (tc_cl kd (Ln j)), .ref u1, .ref u2])), (u1, .inl (cJ, tc_wl kd (Ln j), .inr (.inl (fun _ => 0)))), (u2, .inl (cD, tc_rl kd (Ln j), .inr (.inr (.inr (.inl (fun _ => 0))))))] : va_W)) H := hP
  have hD : va_D A ((tc_T cI cJ cD cC h0 h1 h2 h3 h4 ad wd rd Y n K Ln Wh Re 0 (noteC ct 0)) ++ ([(q_7, .inr (0, [.int kd, .int (tc_cl kd (Ln j)), .ref u1, .ref u2])), (u1, .inl (cJ, tc_wl kd (Ln j), .inr (.inl (fun _ => 0)))), (u2, .inl (cD, tc_rl kd (Ln j), .inr (.inr (.inr (.inl (fun _ => 0))))))] : va_W)) := hD
  refine lv_astore (lv' := [(5, .ref q_7), (4, .int (kCol (K j))), (3, .ref (ad j)), (0, .ref h0), (1, .int (nI j)), (2, .int kd)]) hx hb dX2_widened_62 hl (by decide) rfl (fun ls hl => ?_)
  refine lv_aload hx hb dX2_widened_64 (lv_at hl 0 rfl) ?_
  refine lv_aload_n hx hb dX2_widened_66 rfl (lv_at hl 2 rfl) ?_
  have g5 : (5 + (Y.length + (3 * j + 2))) < (tc_T cI cJ cD cC h0 h1 h2 h3 h4 ad wd rd Y n K Ln Wh Re 0 (noteC ct 0)).length := (List.getElem?_eq_some_iff.mp (tc_T2 hj)).1
  rcases wd4 (kWid_has hc1).2 (K j) hc1 with ⟨gf, gk⟩ | ⟨gf, gk⟩ | ⟨gf, gk⟩ | ⟨gf, gk⟩
  · have gkf : kFl kd = true := gk
    refine va_callv (va_runV (As := [.ref (ad j)]) (rest := []) ⟨hx, hb, hml, hown, hts⟩ (oX0_takeWidened_rr l D A cI cJ cD cC ((tc_T cI cJ cD cC h0 h1 h2 h3 h4 ad wd rd Y n K Ln Wh Re 0 (noteC ct 0)) ++ ([(q_7, .inr (0, [.int kd, .int (tc_cl kd (Ln j)), .ref u1, .ref u2])), (u1, .inl (cJ, tc_wl kd (Ln j), .inr (.inl (fun _ => 0)))), (u2, .inl (cD, tc_rl kd (Ln j), .inr (.inr (.inr (.inl (fun _ => 0))))))] : va_W)) ((tc_T cI cJ cD cC h0 h1 h2 h3 h4 ad wd rd Y n K Ln Wh Re 0 (noteC ct 0)).length) ((tc_T cI cJ cD cC h0 h1 h2 h3 h4 ad wd rd Y n K Ln Wh Re 0 (noteC ct 0)).length + 1) ((tc_T cI cJ cD cC h0 h1 h2 h3 h4 ad wd rd Y n K Ln Wh Re 0 (noteC ct 0)).length + 2) q_7 u1 u2 kd (tc_cl kd (Ln j)) (tc_wl kd (Ln j)) (tc_rl kd (Ln j)) (fun _ => 0) (fun _ => 0) H.size tc_app_mid tc_app_mid1 tc_app_mid2 (tc_len_lt hL) (5 + (Y.length + (3 * j + 0))) (5 + (Y.length + (3 * j + 1))) (5 + (Y.length + (3 * j + 2))) (ad j) (wd j) (rd j) (K j) (tc_cl (K j) (Ln j)) (tc_wl (K j) (Ln j)) (tc_rl (K j) (Ln j)) (tc_sl (tc_wl (K j) (Ln j)) (fun i => Wh (40 * j + i)) 0) (tc_sl (tc_rl (K j) (Ln j)) (fun i => Re (40 * j + i)) 0) (tc_app_l (tc_T0 hj)) (tc_app_l (tc_T1 hj)) (tc_app_l (tc_T2 hj)) (tc_len_lt (hI.2.1 j hj).2.1) ⟨⟨by omega, by omega, by omega, by omega, by omega⟩, ⟨by omega, by omega, by omega, by omega, by omega⟩⟩ (Ln j) (by omega) (tc_cl_has hh) gf (Nat.le_of_eq (tc_rl_n gkf).symm) (Nat.le_of_eq (tc_rl_n gf).symm)) (cwV 1 hts gX2_widened_X0_takeWidened rfl rfl rfl (by decide +kernel) ⟨Nat.le_of_ble_eq_true rfl, Nat.le_of_ble_eq_true rfl⟩) ⟨tcP.blind, (va_recv hK hP (ci := 0) (q0 := (tc_T cI cJ cD cC h0 h1 h2 h3 h4 ad wd rd Y n K Ln Wh Re 0 (noteC ct 0)).length) rfl tc_app_mid), (tcP.go hK hP hD hE hS)⟩ rfl rfl hl.1 rfl (lv_room (Nat.le_of_ble_eq_true rfl)) dX2_widened_67 ⟨Nat.le_of_ble_eq_true rfl, Nat.le_of_ble_eq_true rfl⟩) hS (fun q _ h => h) (fun q h => h) (fun u t H locs ht hvm hw hB hz1 hk1 hS => ?_)
    obtain ⟨hP, hD⟩ := hB
    rw [ht] at hP
    rw [tc_app_mid_set2] at hP hD
    refine lv_aload_n hx hb dX2_widened_70 rfl (lv_at hl 3 rfl) ?_
    refine lv_aload hx hb dX2_widened_71 (lv_at hl 0 rfl) ?_
    refine va_calli (va_runV (As := [.ref q_7]) (rest := []) ⟨hx, hb, hml, hown, hts⟩ (oX2_addColumn l D A cI cJ cD cC ((tc_T cI cJ cD cC h0 h1 h2 h3 h4 ad wd rd Y n K Ln Wh Re 0 (noteC ct 0)) ++ ([(q_7, .inr (0, [.int kd, .int (tc_cl kd (Ln j)), .ref u1, .ref u2])), (u1, .inl (cJ, tc_wl kd (Ln j), .inr (.inl (fun _ => 0)))), (u2, .inl (cD, tc_rl kd (Ln j), .inr (.inr (.inr (.inl (tc_mix (tc_sl (tc_rl (K j) (Ln j)) (fun i => Re (40 * j + i)) 0) (fun _ => 0) (Ln j)))))))] : va_W)) h0 h1 h2 h3 n 0 (fun j => if j < n then some (ad j) else none) ((tc_T cI cJ cD cC h0 h1 h2 h3 h4 ad wd rd Y n K Ln Wh Re 0 (noteC ct 0))).length q_7 _ H.size rfl rfl tc_app_mid hn) (cwV 1 hts gX2_widened_X2_addColumn rfl rfl rfl (by decide +kernel) ⟨Nat.le_of_ble_eq_true rfl, Nat.le_of_ble_eq_true rfl⟩) ⟨tcP.blind, (va_recv hK hP (ci := 2) (q0 := 0) rfl rfl), (tcP.go hK hP hD hE hS)⟩ rfl rfl hl.1 rfl (lv_room (Nat.le_of_ble_eq_true rfl)) dX2_widened_73 ⟨Nat.le_of_ble_eq_true rfl, Nat.le_of_ble_eq_true rfl⟩) hS (fun q _ h => h) (fun q h => h) (fun r_10 u t H locs ht hvm hw hB hz1 hk1 hS => ?_)
    subst hw
    obtain ⟨hP, hD⟩ := hB
    rw [ht] at hP
    rw [tc_T_add (Wh' := (tc_put n (Ln j) (fun i => Wh (40 * j + i)) 0 Wh)) (Re' := (tc_put n (Ln j) (wdV K Wh Re j kd) 0 Re)) (fun j hj => (hI.2.1 j hj).2.1) (fun j i hj hi => tc_put_out hj hi) (fun j i hj hi => tc_put_out hj hi) (tc_sl_nil (tc_wl_z (Ln j) gkf) _ _) (wd_G hL (tc_rl_n gkf) (fun i hi => wdV_r gkf gf (Nat.lt_of_lt_of_eq hi (tc_rl_n gf).symm)))] at hP hD
    exact W.iret (v := nI n) hx hb hr (fun t9 ht9 hW9 => ⟨⟨nI n, (q_7, u1, u2), rfl, rfl, by rw [ht9]; exact hP, hD⟩, hS.F ht9⟩) hS.2.2 dX2_widened_76
  · have gkf : kFl kd = false := gk
    refine va_callv (va_runV (As := [.ref (ad j)]) (rest := []) ⟨hx, hb, hml, hown, hts⟩ (oX0_takeWidened_ww l D A cI cJ cD cC ((tc_T cI cJ cD cC h0 h1 h2 h3 h4 ad wd rd Y n K Ln Wh Re 0 (noteC ct 0)) ++ ([(q_7, .inr (0, [.int kd, .int (tc_cl kd (Ln j)), .ref u1, .ref u2])), (u1, .inl (cJ, tc_wl kd (Ln j), .inr (.inl (fun _ => 0)))), (u2, .inl (cD, tc_rl kd (Ln j), .inr (.inr (.inr (.inl (fun _ => 0))))))] : va_W)) ((tc_T cI cJ cD cC h0 h1 h2 h3 h4 ad wd rd Y n K Ln Wh Re 0 (noteC ct 0)).length) ((tc_T cI cJ cD cC h0 h1 h2 h3 h4 ad wd rd Y n K Ln Wh Re 0 (noteC ct 0)).length + 1) ((tc_T cI cJ cD cC h0 h1 h2 h3 h4 ad wd rd Y n K Ln Wh Re 0 (noteC ct 0)).length + 2) q_7 u1 u2 kd (tc_cl kd (Ln j)) (tc_wl kd (Ln j)) (tc_rl kd (Ln j)) (fun _ => 0) (fun _ => 0) H.size tc_app_mid tc_app_mid1 tc_app_mid2 (tc_len_lt hL) (5 + (Y.length + (3 * j + 0))) (5 + (Y.length + (3 * j + 1))) (5 + (Y.length + (3 * j + 2))) (ad j) (wd j) (rd j) (K j) (tc_cl (K j) (Ln j)) (tc_wl (K j) (Ln j)) (tc_rl (K j) (Ln j)) (tc_sl (tc_wl (K j) (Ln j)) (fun i => Wh (40 * j + i)) 0) (tc_sl (tc_rl (K j) (Ln j)) (fun i => Re (40 * j + i)) 0) (tc_app_l (tc_T0 hj)) (tc_app_l (tc_T1 hj)) (tc_app_l (tc_T2 hj)) (tc_len_lt (hI.2.1 j hj).2.1) ⟨⟨by omega, by omega, by omega, by omega, by omega⟩, ⟨by omega, by omega, by omega, by omega, by omega⟩⟩ (Ln j) (by omega) (tc_cl_has hh) gf gk (Nat.le_of_eq (tc_wl_n gk).symm) (Nat.le_of_eq (tc_wl_n gf).symm)) (cwV 1 hts gX2_widened_X0_takeWidened rfl rfl rfl (by decide +kernel) ⟨Nat.le_of_ble_eq_true rfl, Nat.le_of_ble_eq_true rfl⟩) ⟨tcP.blind, (va_recv hK hP (ci := 0) (q0 := (tc_T cI cJ cD cC h0 h1 h2 h3 h4 ad wd rd Y n K Ln Wh Re 0 (noteC ct 0)).length) rfl tc_app_mid), (tcP.go hK hP hD hE hS)⟩ rfl rfl hl.1 rfl (lv_room (Nat.le_of_ble_eq_true rfl)) dX2_widened_67 ⟨Nat.le_of_ble_eq_true rfl, Nat.le_of_ble_eq_true rfl⟩) hS (fun q _ h => h) (fun q h => h) (fun u t H locs ht hvm hw hB hz1 hk1 hS => ?_)
    obtain ⟨hP, hD⟩ := hB
    rw [ht] at hP
    rw [tc_app_mid_set1] at hP hD
    refine lv_aload_n hx hb dX2_widened_70 rfl (lv_at hl 3 rfl) ?_
    refine lv_aload hx hb dX2_widened_71 (lv_at hl 0 rfl) ?_
    refine va_calli (va_runV (As := [.ref q_7]) (rest := []) ⟨hx, hb, hml, hown, hts⟩ (oX2_addColumn l D A cI cJ cD cC ((tc_T cI cJ cD cC h0 h1 h2 h3 h4 ad wd rd Y n K Ln Wh Re 0 (noteC ct 0)) ++ ([(q_7, .inr (0, [.int kd, .int (tc_cl kd (Ln j)), .ref u1, .ref u2])), (u1, .inl (cJ, tc_wl kd (Ln j), .inr (.inl (tc_mix (tc_sl (tc_wl (K j) (Ln j)) (fun i => Wh (40 * j + i)) 0) (fun _ => 0) (Ln j))))), (u2, .inl (cD, tc_rl kd (Ln j), .inr (.inr (.inr (.inl (fun _ => 0))))))] : va_W)) h0 h1 h2 h3 n 0 (fun j => if j < n then some (ad j) else none) ((tc_T cI cJ cD cC h0 h1 h2 h3 h4 ad wd rd Y n K Ln Wh Re 0 (noteC ct 0))).length q_7 _ H.size rfl rfl tc_app_mid hn) (cwV 1 hts gX2_widened_X2_addColumn rfl rfl rfl (by decide +kernel) ⟨Nat.le_of_ble_eq_true rfl, Nat.le_of_ble_eq_true rfl⟩) ⟨tcP.blind, (va_recv hK hP (ci := 2) (q0 := 0) rfl rfl), (tcP.go hK hP hD hE hS)⟩ rfl rfl hl.1 rfl (lv_room (Nat.le_of_ble_eq_true rfl)) dX2_widened_73 ⟨Nat.le_of_ble_eq_true rfl, Nat.le_of_ble_eq_true rfl⟩) hS (fun q _ h => h) (fun q h => h) (fun r_12 u t H locs ht hvm hw hB hz1 hk1 hS => ?_)
    subst hw
    obtain ⟨hP, hD⟩ := hB
    rw [ht] at hP
    rw [tc_T_add (Wh' := (tc_put n (Ln j) (fun i => Wh (40 * j + i)) 0 Wh)) (Re' := (tc_put n (Ln j) (wdV K Wh Re j kd) 0 Re)) (fun j hj => (hI.2.1 j hj).2.1) (fun j i hj hi => tc_put_out hj hi) (fun j i hj hi => tc_put_out hj hi) (wd_F hL (tc_wl_n gkf) (tc_wl_n gf)) (tc_sl_nil (tc_rl_z (Ln j) gkf) _ _)] at hP hD
    exact W.iret (v := nI n) hx hb hr (fun t9 ht9 hW9 => ⟨⟨nI n, (q_7, u1, u2), rfl, rfl, by rw [ht9]; exact hP, hD⟩, hS.F ht9⟩) hS.2.2 dX2_widened_76
  · have gkf : kFl kd = true := by rw [gk]; decide
    refine va_callv (va_runV (As := [.ref (ad j)]) (rest := []) ⟨hx, hb, hml, hown, hts⟩ (oX0_takeWidened_wf l D A cI cJ cD cC ((tc_T cI cJ cD cC h0 h1 h2 h3 h4 ad wd rd Y n K Ln Wh Re 0 (noteC ct 0)) ++ ([(q_7, .inr (0, [.int kd, .int (tc_cl kd (Ln j)), .ref u1, .ref u2])), (u1, .inl (cJ, tc_wl kd (Ln j), .inr (.inl (fun _ => 0)))), (u2, .inl (cD, tc_rl kd (Ln j), .inr (.inr (.inr (.inl (fun _ => 0))))))] : va_W)) ((tc_T cI cJ cD cC h0 h1 h2 h3 h4 ad wd rd Y n K Ln Wh Re 0 (noteC ct 0)).length) ((tc_T cI cJ cD cC h0 h1 h2 h3 h4 ad wd rd Y n K Ln Wh Re 0 (noteC ct 0)).length + 1) ((tc_T cI cJ cD cC h0 h1 h2 h3 h4 ad wd rd Y n K Ln Wh Re 0 (noteC ct 0)).length + 2) q_7 u1 u2 kd (tc_cl kd (Ln j)) (tc_wl kd (Ln j)) (tc_rl kd (Ln j)) (fun _ => 0) (fun _ => 0) H.size tc_app_mid tc_app_mid1 tc_app_mid2 (tc_len_lt hL) (5 + (Y.length + (3 * j + 0))) (5 + (Y.length + (3 * j + 1))) (5 + (Y.length + (3 * j + 2))) (ad j) (wd j) (rd j) (K j) (tc_cl (K j) (Ln j)) (tc_wl (K j) (Ln j)) (tc_rl (K j) (Ln j)) (tc_sl (tc_wl (K j) (Ln j)) (fun i => Wh (40 * j + i)) 0) (tc_sl (tc_rl (K j) (Ln j)) (fun i => Re (40 * j + i)) 0) (tc_app_l (tc_T0 hj)) (tc_app_l (tc_T1 hj)) (tc_app_l (tc_T2 hj)) (tc_len_lt (hI.2.1 j hj).2.1) ⟨⟨by omega, by omega, by omega, by omega, by omega⟩, ⟨by omega, by omega, by omega, by omega, by omega⟩⟩ (Ln j) (by omega) (tc_cl_has hh) gf gk (Nat.le_of_eq (tc_rl_n gkf).symm) (Nat.le_of_eq (tc_wl_n gf).symm)) (cwV 1 hts gX2_widened_X0_takeWidened rfl rfl rfl (by decide +kernel) ⟨Nat.le_of_ble_eq_true rfl, Nat.le_of_ble_eq_true rfl⟩) ⟨tcP.blind, (va_recv hK hP (ci := 0) (q0 := (tc_T cI cJ cD cC h0 h1 h2 h3 h4 ad wd rd Y n K Ln Wh Re 0 (noteC ct 0)).length) rfl tc_app_mid), (tcP.go hK hP hD hE hS)⟩ rfl rfl hl.1 rfl (lv_room (Nat.le_of_ble_eq_true rfl)) dX2_widened_67 ⟨Nat.le_of_ble_eq_true rfl, Nat.le_of_ble_eq_true rfl⟩) hS (fun q _ h => h) (fun q h => h) (fun u t H locs ht hvm hw hB hz1 hk1 hS => ?_)
    obtain ⟨hP, hD⟩ := hB
    rw [ht] at hP
    rw [tc_app_mid_set2] at hP hD
    refine lv_aload_n hx hb dX2_widened_70 rfl (lv_at hl 3 rfl) ?_
    refine lv_aload hx hb dX2_widened_71 (lv_at hl 0 rfl) ?_
    refine va_calli (va_runV (As := [.ref q_7]) (rest := []) ⟨hx, hb, hml, hown, hts⟩ (oX2_addColumn l D A cI cJ cD cC ((tc_T cI cJ cD cC h0 h1 h2 h3 h4 ad wd rd Y n K Ln Wh Re 0 (noteC ct 0)) ++ ([(q_7, .inr (0, [.int kd, .int (tc_cl kd (Ln j)), .ref u1, .ref u2])), (u1, .inl (cJ, tc_wl kd (Ln j), .inr (.inl (fun _ => 0)))), (u2, .inl (cD, tc_rl kd (Ln j), .inr (.inr (.inr (.inl (tc_mix (fun q => FP.f2d (FP.l2f ((tc_sl (tc_wl (K j) (Ln j)) (fun i => Wh (40 * j + i)) 0) q))) (fun _ => 0) (Ln j)))))))] : va_W)) h0 h1 h2 h3 n 0 (fun j => if j < n then some (ad j) else none) ((tc_T cI cJ cD cC h0 h1 h2 h3 h4 ad wd rd Y n K Ln Wh Re 0 (noteC ct 0))).length q_7 _ H.size rfl rfl tc_app_mid hn) (cwV 1 hts gX2_widened_X2_addColumn rfl rfl rfl (by decide +kernel) ⟨Nat.le_of_ble_eq_true rfl, Nat.le_of_ble_eq_true rfl⟩) ⟨tcP.blind, (va_recv hK hP (ci := 2) (q0 := 0) rfl rfl), (tcP.go hK hP hD hE hS)⟩ rfl rfl hl.1 rfl (lv_room (Nat.le_of_ble_eq_true rfl)) dX2_widened_73 ⟨Nat.le_of_ble_eq_true rfl, Nat.le_of_ble_eq_true rfl⟩) hS (fun q _ h => h) (fun q h => h) (fun r_14 u t H locs ht hvm hw hB hz1 hk1 hS => ?_)
    subst hw
    obtain ⟨hP, hD⟩ := hB
    rw [ht] at hP
    rw [tc_T_add (Wh' := (tc_put n (Ln j) (fun i => Wh (40 * j + i)) 0 Wh)) (Re' := (tc_put n (Ln j) (wdV K Wh Re j kd) 0 Re)) (fun j hj => (hI.2.1 j hj).2.1) (fun j i hj hi => tc_put_out hj hi) (fun j i hj hi => tc_put_out hj hi) (tc_sl_nil (tc_wl_z (Ln j) gkf) _ _) (wd_G hL (tc_rl_n gkf) (fun i hi => wdV_f gkf gf gk (Nat.lt_of_lt_of_eq hi (tc_wl_n gf).symm)))] at hP hD
    exact W.iret (v := nI n) hx hb hr (fun t9 ht9 hW9 => ⟨⟨nI n, (q_7, u1, u2), rfl, rfl, by rw [ht9]; exact hP, hD⟩, hS.F ht9⟩) hS.2.2 dX2_widened_76
  · have gkf : kFl kd = true := by rw [gk]; decide
    refine va_callv (va_runV (As := [.ref (ad j)]) (rest := []) ⟨hx, hb, hml, hown, hts⟩ (oX0_takeWidened_wd l D A cI cJ cD cC ((tc_T cI cJ cD cC h0 h1 h2 h3 h4 ad wd rd Y n K Ln Wh Re 0 (noteC ct 0)) ++ ([(q_7, .inr (0, [.int kd, .int (tc_cl kd (Ln j)), .ref u1, .ref u2])), (u1, .inl (cJ, tc_wl kd (Ln j), .inr (.inl (fun _ => 0)))), (u2, .inl (cD, tc_rl kd (Ln j), .inr (.inr (.inr (.inl (fun _ => 0))))))] : va_W)) ((tc_T cI cJ cD cC h0 h1 h2 h3 h4 ad wd rd Y n K Ln Wh Re 0 (noteC ct 0)).length) ((tc_T cI cJ cD cC h0 h1 h2 h3 h4 ad wd rd Y n K Ln Wh Re 0 (noteC ct 0)).length + 1) ((tc_T cI cJ cD cC h0 h1 h2 h3 h4 ad wd rd Y n K Ln Wh Re 0 (noteC ct 0)).length + 2) q_7 u1 u2 kd (tc_cl kd (Ln j)) (tc_wl kd (Ln j)) (tc_rl kd (Ln j)) (fun _ => 0) (fun _ => 0) H.size tc_app_mid tc_app_mid1 tc_app_mid2 (tc_len_lt hL) (5 + (Y.length + (3 * j + 0))) (5 + (Y.length + (3 * j + 1))) (5 + (Y.length + (3 * j + 2))) (ad j) (wd j) (rd j) (K j) (tc_cl (K j) (Ln j)) (tc_wl (K j) (Ln j)) (tc_rl (K j) (Ln j)) (tc_sl (tc_wl (K j) (Ln j)) (fun i => Wh (40 * j + i)) 0) (tc_sl (tc_rl (K j) (Ln j)) (fun i => Re (40 * j + i)) 0) (tc_app_l (tc_T0 hj)) (tc_app_l (tc_T1 hj)) (tc_app_l (tc_T2 hj)) (tc_len_lt (hI.2.1 j hj).2.1) ⟨⟨by omega, by omega, by omega, by omega, by omega⟩, ⟨by omega, by omega, by omega, by omega, by omega⟩⟩ (Ln j) (by omega) (tc_cl_has hh) gf gk (Nat.le_of_eq (tc_rl_n gkf).symm) (Nat.le_of_eq (tc_wl_n gf).symm)) (cwV 1 hts gX2_widened_X0_takeWidened rfl rfl rfl (by decide +kernel) ⟨Nat.le_of_ble_eq_true rfl, Nat.le_of_ble_eq_true rfl⟩) ⟨tcP.blind, (va_recv hK hP (ci := 0) (q0 := (tc_T cI cJ cD cC h0 h1 h2 h3 h4 ad wd rd Y n K Ln Wh Re 0 (noteC ct 0)).length) rfl tc_app_mid), (tcP.go hK hP hD hE hS)⟩ rfl rfl hl.1 rfl (lv_room (Nat.le_of_ble_eq_true rfl)) dX2_widened_67 ⟨Nat.le_of_ble_eq_true rfl, Nat.le_of_ble_eq_true rfl⟩) hS (fun q _ h => h) (fun q h => h) (fun u t H locs ht hvm hw hB hz1 hk1 hS => ?_)
    obtain ⟨hP, hD⟩ := hB
    rw [ht] at hP
    rw [tc_app_mid_set2] at hP hD
    refine lv_aload_n hx hb dX2_widened_70 rfl (lv_at hl 3 rfl) ?_
    refine lv_aload hx hb dX2_widened_71 (lv_at hl 0 rfl) ?_
    refine va_calli (va_runV (As := [.ref q_7]) (rest := []) ⟨hx, hb, hml, hown, hts⟩ (oX2_addColumn l D A cI cJ cD cC ((tc_T cI cJ cD cC h0 h1 h2 h3 h4 ad wd rd Y n K Ln Wh Re 0 (noteC ct 0)) ++ ([(q_7, .inr (0, [.int kd, .int (tc_cl kd (Ln j)), .ref u1, .ref u2])), (u1, .inl (cJ, tc_wl kd (Ln j), .inr (.inl (fun _ => 0)))), (u2, .inl (cD, tc_rl kd (Ln j), .inr (.inr (.inr (.inl (tc_mix (fun q => FP.l2d ((tc_sl (tc_wl (K j) (Ln j)) (fun i => Wh (40 * j + i)) 0) q)) (fun _ => 0) (Ln j)))))))] : va_W)) h0 h1 h2 h3 n 0 (fun j => if j < n then some (ad j) else none) ((tc_T cI cJ cD cC h0 h1 h2 h3 h4 ad wd rd Y n K Ln Wh Re 0 (noteC ct 0))).length q_7 _ H.size rfl rfl tc_app_mid hn) (cwV 1 hts gX2_widened_X2_addColumn rfl rfl rfl (by decide +kernel) ⟨Nat.le_of_ble_eq_true rfl, Nat.le_of_ble_eq_true rfl⟩) ⟨tcP.blind, (va_recv hK hP (ci := 2) (q0 := 0) rfl rfl), (tcP.go hK hP hD hE hS)⟩ rfl rfl hl.1 rfl (lv_room (Nat.le_of_ble_eq_true rfl)) dX2_widened_73 ⟨Nat.le_of_ble_eq_true rfl, Nat.le_of_ble_eq_true rfl⟩) hS (fun q _ h => h) (fun q h => h) (fun r_16 u t H locs ht hvm hw hB hz1 hk1 hS => ?_)
    subst hw
    obtain ⟨hP, hD⟩ := hB
    rw [ht] at hP
    rw [tc_T_add (Wh' := (tc_put n (Ln j) (fun i => Wh (40 * j + i)) 0 Wh)) (Re' := (tc_put n (Ln j) (wdV K Wh Re j kd) 0 Re)) (fun j hj => (hI.2.1 j hj).2.1) (fun j i hj hi => tc_put_out hj hi) (fun j i hj hi => tc_put_out hj hi) (tc_sl_nil (tc_wl_z (Ln j) gkf) _ _) (wd_G hL (tc_rl_n gkf) (fun i hi => wdV_d gkf gf gk (Nat.lt_of_lt_of_eq hi (tc_wl_n gf).symm)))] at hP hD
    exact W.iret (v := nI n) hx hb hr (fun t9 ht9 hW9 => ⟨⟨nI n, (q_7, u1, u2), rfl, rfl, by rw [ht9]; exact hP, hD⟩, hS.F ht9⟩) hS.2.2 dX2_widened_76
