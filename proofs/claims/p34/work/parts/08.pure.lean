/-! PURE METHODS: what each answers, of its arguments alone -/
def tb (b : Bool) : Int32 := if b = true then 1 else 0
theorem tb_0 (b : Bool) : tb b = 0 ↔ b = false := by cases b <;> decide
theorem tb_t {b : Bool} (h : b = true) : tb b = 1 := by rw [h]; rfl
theorem tb_f {b : Bool} (h : b = false) : tb b = 0 := by rw [h]; rfl
theorem tb_n (b : Bool) : narrow .boolean (.int (tb b)) = .int (tb b) := by cases b <;> rfl
def kIs (k : Int32) : Bool := !decide (k < 0) && !decide (9 < k)
def kHas (k : Int32) : Bool := !decide (k < 1) && !decide (8 < k)
def kLen (k : Int32) : Bool := !decide (k < 0) && !decide (40 < k)
def kFl (k : Int32) : Bool := decide (k = 7) || decide (k = 8)
def kReal (k : Int32) : Bool := !decide (k < 7)
def kWid (a b : Int32) : Bool := if kHas a = false then false else if kHas b = false then false else if a = b then true else if a = 1 then false else if b = 3 then false else if a = 3 then !decide (b < 5) else decide (a < b)
def kPart (f m n : Int32) : Bool := !decide (f < 0) && !decide (m < 0) && !decide (n - m < f)
def kMade (v k : Int32) : Int64 := if k = 1 then (if v = 0 then 0 else 1) else if k = 2 then v.toInt8.toInt32.toInt64 else if k = 3 then (v.toUInt32 % 65536).toInt32.toInt64 else if k = 4 then v.toInt16.toInt32.toInt64 else v.toInt64
theorem tc_sw4 {x : Int32} (h1 : ¬ x = 1) (h2 : ¬ x = 2) (h3 : ¬ x = 3) (h4 : ¬ x = 4) : x.toInt < 1 ∨ 4 < x.toInt := by
  simp only [← Int32.toInt_inj] at h1 h2 h3 h4
  have e1 : (1 : Int32).toInt = 1 := rfl
  have e2 : (2 : Int32).toInt = 2 := rfl
  have e3 : (3 : Int32).toInt = 3 := rfl
  have e4 : (4 : Int32).toInt = 4 := rfl
  omega
theorem tc_sw8 {x : Int32} (h1 : ¬ x = 1) (h2 : ¬ x = 2) (h3 : ¬ x = 3) (h4 : ¬ x = 4) (h5 : ¬ x = 5) (h6 : ¬ x = 6) (h7 : ¬ x = 7) (h8 : ¬ x = 8) : x.toInt < 1 ∨ 8 < x.toInt := by
  simp only [← Int32.toInt_inj] at h1 h2 h3 h4 h5 h6 h7 h8
  have e1 : (1 : Int32).toInt = 1 := rfl
  have e2 : (2 : Int32).toInt = 2 := rfl
  have e3 : (3 : Int32).toInt = 3 := rfl
  have e4 : (4 : Int32).toInt = 4 := rfl
  have e5 : (5 : Int32).toInt = 5 := rfl
  have e6 : (6 : Int32).toInt = 6 := rfl
  have e7 : (7 : Int32).toInt = 7 := rfl
  have e8 : (8 : Int32).toInt = 8 := rfl
  omega
theorem kHas_iff (k : Int32) : kHas k = true ↔ 1 ≤ k.toInt ∧ k.toInt ≤ 8 := by
  have e1 : (1 : Int32).toInt = 1 := rfl
  have e8 : (8 : Int32).toInt = 8 := rfl
  simp only [kHas, Bool.and_eq_true, Bool.not_eq_true', decide_eq_false_iff_not, Int32.lt_iff_toInt_lt, e1, e8]
  omega
theorem kIs_iff (k : Int32) : kIs k = true ↔ 0 ≤ k.toInt ∧ k.toInt ≤ 9 := by
  have e1 : (0 : Int32).toInt = 0 := rfl
  have e8 : (9 : Int32).toInt = 9 := rfl
  simp only [kIs, Bool.and_eq_true, Bool.not_eq_true', decide_eq_false_iff_not, Int32.lt_iff_toInt_lt, e1, e8]
  omega
theorem kLen_iff (k : Int32) : kLen k = true ↔ 0 ≤ k.toInt ∧ k.toInt ≤ 40 := by
  have e1 : (0 : Int32).toInt = 0 := rfl
  have e8 : (40 : Int32).toInt = 40 := rfl
  simp only [kLen, Bool.and_eq_true, Bool.not_eq_true', decide_eq_false_iff_not, Int32.lt_iff_toInt_lt, e1, e8]
  omega
theorem kWid_e1 {a b : Int32} (h1 : kHas a = false) : kWid a b = false := by unfold kWid; rw [if_pos h1]
theorem kWid_e2 {a b : Int32} (h1 : kHas a = true) (h2 : kHas b = false) : kWid a b = false := by unfold kWid; rw [if_neg (by rw [h1]; decide), if_pos h2]
theorem kWid_e3 {a b : Int32} (h1 : kHas a = true) (h2 : kHas b = true) (h3 : a = b) : kWid a b = true := by unfold kWid; rw [if_neg (by rw [h1]; decide), if_neg (by rw [h2]; decide), if_pos h3]
theorem kWid_e4 {a b : Int32} (h1 : kHas a = true) (h2 : kHas b = true) (h3 : ¬ a = b) (h4 : a = 1) : kWid a b = false := by unfold kWid; rw [if_neg (by rw [h1]; decide), if_neg (by rw [h2]; decide), if_neg h3, if_pos h4]
theorem kWid_e5 {a b : Int32} (h1 : kHas a = true) (h2 : kHas b = true) (h3 : ¬ a = b) (h4 : ¬ a = 1) (h5 : b = 3) : kWid a b = false := by unfold kWid; rw [if_neg (by rw [h1]; decide), if_neg (by rw [h2]; decide), if_neg h3, if_neg h4, if_pos h5]
theorem kWid_e6 {a b : Int32} (h1 : kHas a = true) (h2 : kHas b = true) (h3 : ¬ a = b) (h4 : ¬ a = 1) (h5 : ¬ b = 3) (h6 : a = 3) : kWid a b = !decide (b < 5) := by unfold kWid; rw [if_neg (by rw [h1]; decide), if_neg (by rw [h2]; decide), if_neg h3, if_neg h4, if_neg h5, if_pos h6]
theorem kWid_e7 {a b : Int32} (h1 : kHas a = true) (h2 : kHas b = true) (h3 : ¬ a = b) (h4 : ¬ a = 1) (h5 : ¬ b = 3) (h6 : ¬ a = 3) : kWid a b = decide (a < b) := by unfold kWid; rw [if_neg (by rw [h1]; decide), if_neg (by rw [h2]; decide), if_neg h3, if_neg h4, if_neg h5, if_neg h6]
theorem kWid_b1 {a b : Int32} (h1 : kHas a = true) (h2 : kHas b = true) (h3 : ¬ a = b) (h4 : ¬ a = 1) (h5 : b = 1) : kWid a b = false := by
  subst h5
  by_cases h6 : a = 3
  · rw [kWid_e6 h1 h2 h3 h4 (by decide) h6]; decide
  · rw [kWid_e7 h1 h2 h3 h4 (by decide) h6]
    have g := (kHas_iff a).mp h1
    have e1 : (1 : Int32).toInt = 1 := rfl
    refine decide_eq_false ?_
    rw [Int32.lt_iff_toInt_lt, e1]
    omega
theorem tc_bf {b : Bool} {p : Prop} (h : b = true ↔ p) (hp : ¬ p) : b = false := by
  cases hb : b
  · rfl
  · exact absurd (h.mp hb) hp
theorem tb_1 (b : Bool) : ¬ tb b = 0 ↔ b = true := by cases b <;> decide
theorem tf_self {a : UInt64} (h : Op.cmpValue (FP.dcmp a a) .l = 0) : FP.Core.dIsNaN a = false := (FP.Core.dcmp_notNaN (a := a) (b := a) ((tf_cl0 _).mp h)).1
theorem tf_selfN {a : UInt64} (h : ¬ Op.cmpValue (FP.dcmp a a) .l = 0) : FP.Core.dIsNaN a = true := by
  cases hz : FP.Core.dIsNaN a
  · exact absurd ((tf_cl0 _).mpr (tf_dcmp_self a hz)) h
  · rfl
theorem tf_cyes {r : UInt64} (h : FP.Core.dIsNaN r = true) : tf_canon r = 9221120237041090560 := by unfold tf_canon; rw [if_pos h]
theorem tf_cno {r : UInt64} (h : FP.Core.dIsNaN r = false) : tf_canon r = r := by unfold tf_canon; rw [if_neg (by rw [h]; decide)]
section TCR
variable {p : Program} {l : Launch} {e : Env} {R : Room} {s : State} {m : MethodId} {args : Array Value} {below : List Frame} {meth : Method} {c : Code} {H : Heap} {locs : List Loc} {cells slots mc ms : Nat} {g : JFrame} {rest : List Value} {Qa : State → Outcome → State → Prop} {free : Addr → Prop}
theorem tc_CR (h : va_Run p l e R s m args below meth c H locs cells slots mc ms g rest Qa free) : CallRun p l e R s m args below meth c H locs cells slots mc ms g rest Qa free := fun T hT X => by
  obtain ⟨v, st₀, t, T', L, h0, X', hL, e1, -, hq, st⟩ := h T hT X
  exact ⟨v, st₀, t, T', L, h0, X', hL, e1, hq, st⟩
end TCR
set_option maxHeartbeats 4000000 in
set_option maxRecDepth 100000 in
theorem kX2_isKind (l : Launch) (k : Int32) : Met l yX2_isKind wsX2_isKind ({ frames := 0, cells := 0, slots := 0, locals := 0 }) (va_Pc [.int k] (fun _ => True)) (vp_Si (fun r => r = tb (kIs k))) 0 0 (fun _ => False) := by
  refine Met.ofW (cc := cX2_isKind) (maxL := 1) (ret := (some .boolean)) (by decide) rfl ?_
  intro p e s m args below meth c s₁ B hml hv
  obtain ⟨rfl, -⟩ := hv
  have hx := B.exec
  have hb := B.bytes
  have hr := B.returns
  have hts := atoms_spec (ws := wsX2_isKind) B.pre
  have hown : s.vm.findClass RX2 = some m.cls := findClass_of_methodNamed B.named
  have hlocks := B.notSynchronized
  have hl := lv_entry ([.int k]) (n := 1) (Nat.le_of_ble_eq_true rfl)
  rw [lg_entry_eq]
  generalize (lg_sl ([.int k]) ++ List.replicate (1 - (lg_sl ([.int k])).length) Slot.unset).toArray = ls at hl ⊢
  have hl : lv_has ls 1 [(0, .int k)] := hl
  refine lv_iload_n hx hb dX2_isKind_0 rfl (lv_at hl 0 rfl) ?_
  refine lv_if_lt (tgt := 14) hx hb dX2_isKind_1 (by decide) (fun c_1 => ?_) (fun c_1 => ?_)
  · refine lv_iconst (v := 0) hx hb dX2_isKind_14 (by decide) ?_
    exact W.zret (ty := .boolean) (v := 0) hx hb hr rfl (fun t9 ht9 hW9 => ⟨0, rfl, by simp [tb, kIs, c_1], ht9⟩) (fun q hq => absurd hq List.not_mem_nil) dX2_isKind_15
  · refine lv_iload_n hx hb dX2_isKind_4 rfl (lv_at hl 0 rfl) ?_
    refine lv_bipush (v := 9) hx hb dX2_isKind_5 (by decide) ?_
    refine lv_icmp_gt (tgt := 14) hx hb dX2_isKind_7 (by decide) (fun c_2 => ?_) (fun c_2 => ?_)
    · refine lv_iconst (v := 0) hx hb dX2_isKind_14 (by decide) ?_
      exact W.zret (ty := .boolean) (v := 0) hx hb hr rfl (fun t9 ht9 hW9 => ⟨0, rfl, by simp [tb, kIs, c_1, c_2], ht9⟩) (fun q hq => absurd hq List.not_mem_nil) dX2_isKind_15
    · refine lv_iconst (v := 1) hx hb dX2_isKind_10 (by decide) ?_
      refine lv_goto (tgt := 15) hx hb dX2_isKind_11 (by decide) ?_
      exact W.zret (ty := .boolean) (v := 1) hx hb hr rfl (fun t9 ht9 hW9 => ⟨1, rfl, by simp [tb, kIs, c_1, c_2], ht9⟩) (fun q hq => absurd hq List.not_mem_nil) dX2_isKind_15
set_option maxHeartbeats 4000000 in
set_option maxRecDepth 100000 in
theorem kX2_holdsCells (l : Launch) (k : Int32) : Met l yX2_holdsCells wsX2_holdsCells ({ frames := 0, cells := 0, slots := 0, locals := 0 }) (va_Pc [.int k] (fun _ => True)) (vp_Si (fun r => r = tb (kHas k))) 0 0 (fun _ => False) := by
  refine Met.ofW (cc := cX2_holdsCells) (maxL := 1) (ret := (some .boolean)) (by decide) rfl ?_
  intro p e s m args below meth c s₁ B hml hv
  obtain ⟨rfl, -⟩ := hv
  have hx := B.exec
  have hb := B.bytes
  have hr := B.returns
  have hts := atoms_spec (ws := wsX2_holdsCells) B.pre
  have hown : s.vm.findClass RX2 = some m.cls := findClass_of_methodNamed B.named
  have hlocks := B.notSynchronized
  have hl := lv_entry ([.int k]) (n := 1) (Nat.le_of_ble_eq_true rfl)
  rw [lg_entry_eq]
  generalize (lg_sl ([.int k]) ++ List.replicate (1 - (lg_sl ([.int k])).length) Slot.unset).toArray = ls at hl ⊢
  have hl : lv_has ls 1 [(0, .int k)] := hl
  refine lv_iload_n hx hb dX2_holdsCells_0 rfl (lv_at hl 0 rfl) ?_
  refine lv_iconst (v := 1) hx hb dX2_holdsCells_1 (by decide) ?_
  refine lv_icmp_lt (tgt := 15) hx hb dX2_holdsCells_2 (by decide) (fun c_1 => ?_) (fun c_1 => ?_)
  · refine lv_iconst (v := 0) hx hb dX2_holdsCells_15 (by decide) ?_
    exact W.zret (ty := .boolean) (v := 0) hx hb hr rfl (fun t9 ht9 hW9 => ⟨0, rfl, by simp [tb, kHas, c_1], ht9⟩) (fun q hq => absurd hq List.not_mem_nil) dX2_holdsCells_16
  · refine lv_iload_n hx hb dX2_holdsCells_5 rfl (lv_at hl 0 rfl) ?_
    refine lv_bipush (v := 8) hx hb dX2_holdsCells_6 (by decide) ?_
    refine lv_icmp_gt (tgt := 15) hx hb dX2_holdsCells_8 (by decide) (fun c_2 => ?_) (fun c_2 => ?_)
    · refine lv_iconst (v := 0) hx hb dX2_holdsCells_15 (by decide) ?_
      exact W.zret (ty := .boolean) (v := 0) hx hb hr rfl (fun t9 ht9 hW9 => ⟨0, rfl, by simp [tb, kHas, c_1, c_2], ht9⟩) (fun q hq => absurd hq List.not_mem_nil) dX2_holdsCells_16
    · refine lv_iconst (v := 1) hx hb dX2_holdsCells_11 (by decide) ?_
      refine lv_goto (tgt := 16) hx hb dX2_holdsCells_12 (by decide) ?_
      exact W.zret (ty := .boolean) (v := 1) hx hb hr rfl (fun t9 ht9 hW9 => ⟨1, rfl, by simp [tb, kHas, c_1, c_2], ht9⟩) (fun q hq => absurd hq List.not_mem_nil) dX2_holdsCells_16
set_option maxHeartbeats 4000000 in
set_option maxRecDepth 100000 in
theorem kX2_isLength (l : Launch) (k : Int32) : Met l yX2_isLength wsX2_isLength ({ frames := 0, cells := 0, slots := 0, locals := 0 }) (va_Pc [.int k] (fun _ => True)) (vp_Si (fun r => r = tb (kLen k))) 0 0 (fun _ => False) := by
  refine Met.ofW (cc := cX2_isLength) (maxL := 1) (ret := (some .boolean)) (by decide) rfl ?_
  intro p e s m args below meth c s₁ B hml hv
  obtain ⟨rfl, -⟩ := hv
  have hx := B.exec
  have hb := B.bytes
  have hr := B.returns
  have hts := atoms_spec (ws := wsX2_isLength) B.pre
  have hown : s.vm.findClass RX2 = some m.cls := findClass_of_methodNamed B.named
  have hlocks := B.notSynchronized
  have hl := lv_entry ([.int k]) (n := 1) (Nat.le_of_ble_eq_true rfl)
  rw [lg_entry_eq]
  generalize (lg_sl ([.int k]) ++ List.replicate (1 - (lg_sl ([.int k])).length) Slot.unset).toArray = ls at hl ⊢
  have hl : lv_has ls 1 [(0, .int k)] := hl
  refine lv_iload_n hx hb dX2_isLength_0 rfl (lv_at hl 0 rfl) ?_
  refine lv_if_lt (tgt := 14) hx hb dX2_isLength_1 (by decide) (fun c_1 => ?_) (fun c_1 => ?_)
  · refine lv_iconst (v := 0) hx hb dX2_isLength_14 (by decide) ?_
    exact W.zret (ty := .boolean) (v := 0) hx hb hr rfl (fun t9 ht9 hW9 => ⟨0, rfl, by simp [tb, kLen, c_1], ht9⟩) (fun q hq => absurd hq List.not_mem_nil) dX2_isLength_15
  · refine lv_iload_n hx hb dX2_isLength_4 rfl (lv_at hl 0 rfl) ?_
    refine lv_bipush (v := 40) hx hb dX2_isLength_5 (by decide) ?_
    refine lv_icmp_gt (tgt := 14) hx hb dX2_isLength_7 (by decide) (fun c_2 => ?_) (fun c_2 => ?_)
    · refine lv_iconst (v := 0) hx hb dX2_isLength_14 (by decide) ?_
      exact W.zret (ty := .boolean) (v := 0) hx hb hr rfl (fun t9 ht9 hW9 => ⟨0, rfl, by simp [tb, kLen, c_1, c_2], ht9⟩) (fun q hq => absurd hq List.not_mem_nil) dX2_isLength_15
    · refine lv_iconst (v := 1) hx hb dX2_isLength_10 (by decide) ?_
      refine lv_goto (tgt := 15) hx hb dX2_isLength_11 (by decide) ?_
      exact W.zret (ty := .boolean) (v := 1) hx hb hr rfl (fun t9 ht9 hW9 => ⟨1, rfl, by simp [tb, kLen, c_1, c_2], ht9⟩) (fun q hq => absurd hq List.not_mem_nil) dX2_isLength_15
set_option maxHeartbeats 4000000 in
set_option maxRecDepth 100000 in
theorem kX2_isFloating (l : Launch) (k : Int32) : Met l yX2_isFloating wsX2_isFloating ({ frames := 0, cells := 0, slots := 0, locals := 0 }) (va_Pc [.int k] (fun _ => True)) (vp_Si (fun r => r = tb (kFl k))) 0 0 (fun _ => False) := by
  refine Met.ofW (cc := cX2_isFloating) (maxL := 1) (ret := (some .boolean)) (by decide) rfl ?_
  intro p e s m args below meth c s₁ B hml hv
  obtain ⟨rfl, -⟩ := hv
  have hx := B.exec
  have hb := B.bytes
  have hr := B.returns
  have hts := atoms_spec (ws := wsX2_isFloating) B.pre
  have hown : s.vm.findClass RX2 = some m.cls := findClass_of_methodNamed B.named
  have hlocks := B.notSynchronized
  have hl := lv_entry ([.int k]) (n := 1) (Nat.le_of_ble_eq_true rfl)
  rw [lg_entry_eq]
  generalize (lg_sl ([.int k]) ++ List.replicate (1 - (lg_sl ([.int k])).length) Slot.unset).toArray = ls at hl ⊢
  have hl : lv_has ls 1 [(0, .int k)] := hl
  refine lv_iload_n hx hb dX2_isFloating_0 rfl (lv_at hl 0 rfl) ?_
  refine lv_bipush (v := 7) hx hb dX2_isFloating_1 (by decide) ?_
  refine lv_icmp_eq (tgt := 12) hx hb dX2_isFloating_3 (by decide) (fun c_1 => ?_) (fun c_1 => ?_)
  · refine lv_iconst (v := 1) hx hb dX2_isFloating_12 (by decide) ?_
    refine lv_goto (tgt := 17) hx hb dX2_isFloating_13 (by decide) ?_
    exact W.zret (ty := .boolean) (v := 1) hx hb hr rfl (fun t9 ht9 hW9 => ⟨1, rfl, by simp [tb, kFl, c_1], ht9⟩) (fun q hq => absurd hq List.not_mem_nil) dX2_isFloating_17
  · refine lv_iload_n hx hb dX2_isFloating_6 rfl (lv_at hl 0 rfl) ?_
    refine lv_bipush (v := 8) hx hb dX2_isFloating_7 (by decide) ?_
    refine lv_icmp_ne (tgt := 16) hx hb dX2_isFloating_9 (by decide) (fun c_2 => ?_) (fun c_2 => ?_)
    · refine lv_iconst (v := 0) hx hb dX2_isFloating_16 (by decide) ?_
      exact W.zret (ty := .boolean) (v := 0) hx hb hr rfl (fun t9 ht9 hW9 => ⟨0, rfl, by simp [tb, kFl, c_1, c_2], ht9⟩) (fun q hq => absurd hq List.not_mem_nil) dX2_isFloating_17
    · refine lv_iconst (v := 1) hx hb dX2_isFloating_12 (by decide) ?_
      refine lv_goto (tgt := 17) hx hb dX2_isFloating_13 (by decide) ?_
      exact W.zret (ty := .boolean) (v := 1) hx hb hr rfl (fun t9 ht9 hW9 => ⟨1, rfl, by simp [tb, kFl, c_1, c_2], ht9⟩) (fun q hq => absurd hq List.not_mem_nil) dX2_isFloating_17
set_option maxHeartbeats 4000000 in
set_option maxRecDepth 100000 in
theorem kX2_widens (l : Launch) (a : Int32) (b : Int32) : Met l yX2_widens wsX2_widens ({ frames := 1, cells := 0, slots := 0, locals := 20 }) (va_Pc [.int a, .int b] (fun _ => True)) (vp_Si (fun r => r = tb (kWid a b))) 0 0 (fun _ => False) := by
  refine Met.ofW (cc := cX2_widens) (maxL := 2) (ret := (some .boolean)) (by decide) rfl ?_
  intro p e s m args below meth c s₁ B hml hv
  obtain ⟨rfl, -⟩ := hv
  have hx := B.exec
  have hb := B.bytes
  have hr := B.returns
  have hts := atoms_spec (ws := wsX2_widens) B.pre
  have hown : s.vm.findClass RX2 = some m.cls := findClass_of_methodNamed B.named
  have hlocks := B.notSynchronized
  have hl := lv_entry ([.int a, .int b]) (n := 2) (Nat.le_of_ble_eq_true rfl)
  rw [lg_entry_eq]
  generalize (lg_sl ([.int a, .int b]) ++ List.replicate (2 - (lg_sl ([.int a, .int b])).length) Slot.unset).toArray = ls at hl ⊢
  have hl : lv_has ls 2 [(0, .int a), (1, .int b)] := hl
  refine lv_iload_n hx hb dX2_widens_0 rfl (lv_at hl 0 rfl) ?_
  refine vp_callSi (W.runS (As := [.int a]) (rest := []) ⟨hx, hb, hml, hown, hts⟩ (kX2_holdsCells l a) (va_cwS 1 hts gX2_widens_X2_holdsCells rfl rfl rfl (by decide +kernel) ⟨Nat.le_of_ble_eq_true rfl, Nat.le_of_ble_eq_true rfl⟩) ⟨fun a U g mk q => q, fun U hU hW => ⟨rfl, trivial⟩⟩ rfl rfl hl.1 rfl (lv_room (Nat.le_of_ble_eq_true rfl)) dX2_widens_1 ⟨Nat.zero_le _, Nat.zero_le _⟩) (fun r_1 hr_1 => ?_)
  subst hr_1
  refine lv_if_eq (tgt := 14) hx hb dX2_widens_4 (by decide) (fun c_2 => ?_) (fun c_2 => ?_)
  · refine lv_iconst (v := 0) hx hb dX2_widens_14 (by decide) ?_
    exact W.zret (ty := .boolean) (v := 0) hx hb hr rfl (fun t9 ht9 hW9 => ⟨0, rfl, (tb_f (kWid_e1 ((tb_0 _).mp c_2))).symm, ht9⟩) (fun q hq => absurd hq List.not_mem_nil) dX2_widens_15
  · refine lv_iload_n hx hb dX2_widens_7 rfl (lv_at hl 1 rfl) ?_
    refine vp_callSi (W.runS (As := [.int b]) (rest := []) ⟨hx, hb, hml, hown, hts⟩ (kX2_holdsCells l b) (va_cwS 1 hts gX2_widens_X2_holdsCells rfl rfl rfl (by decide +kernel) ⟨Nat.le_of_ble_eq_true rfl, Nat.le_of_ble_eq_true rfl⟩) ⟨fun a U g mk q => q, fun U hU hW => ⟨rfl, trivial⟩⟩ rfl rfl hl.1 rfl (lv_room (Nat.le_of_ble_eq_true rfl)) dX2_widens_8 ⟨Nat.zero_le _, Nat.zero_le _⟩) (fun r_3 hr_3 => ?_)
    subst hr_3
    refine lv_if_ne (tgt := 16) hx hb dX2_widens_11 (by decide) (fun c_4 => ?_) (fun c_4 => ?_)
    · refine lv_iload_n hx hb dX2_widens_16 rfl (lv_at hl 0 rfl) ?_
      refine lv_iload_n hx hb dX2_widens_17 rfl (lv_at hl 1 rfl) ?_
      refine lv_icmp_ne (tgt := 23) hx hb dX2_widens_18 (by decide) (fun c_5 => ?_) (fun c_5 => ?_)
      · refine lv_iload_n hx hb dX2_widens_23 rfl (lv_at hl 0 rfl) ?_
        refine lv_iconst (v := 1) hx hb dX2_widens_24 (by decide) ?_
        refine lv_icmp_eq (tgt := 33) hx hb dX2_widens_25 (by decide) (fun c_6 => ?_) (fun c_6 => ?_)
        · refine lv_iconst (v := 0) hx hb dX2_widens_33 (by decide) ?_
          exact W.zret (ty := .boolean) (v := 0) hx hb hr rfl (fun t9 ht9 hW9 => ⟨0, rfl, (tb_f (kWid_e4 ((tb_1 _).mp c_2) ((tb_1 _).mp c_4) c_5 c_6)).symm, ht9⟩) (fun q hq => absurd hq List.not_mem_nil) dX2_widens_34
        · refine lv_iload_n hx hb dX2_widens_28 rfl (lv_at hl 1 rfl) ?_
          refine lv_iconst (v := 3) hx hb dX2_widens_29 (by decide) ?_
          refine lv_icmp_ne (tgt := 35) hx hb dX2_widens_30 (by decide) (fun c_7 => ?_) (fun c_7 => ?_)
          · refine lv_iload_n hx hb dX2_widens_35 rfl (lv_at hl 0 rfl) ?_
            refine lv_iconst (v := 3) hx hb dX2_widens_36 (by decide) ?_
            refine lv_icmp_ne (tgt := 53) hx hb dX2_widens_37 (by decide) (fun c_8 => ?_) (fun c_8 => ?_)
            · refine lv_iload_n hx hb dX2_widens_53 rfl (lv_at hl 0 rfl) ?_
              refine lv_iload_n hx hb dX2_widens_54 rfl (lv_at hl 1 rfl) ?_
              refine lv_icmp_ge (tgt := 62) hx hb dX2_widens_55 (by decide) (fun c_9 => ?_) (fun c_9 => ?_)
              · refine lv_iconst (v := 0) hx hb dX2_widens_62 (by decide) ?_
                exact W.zret (ty := .boolean) (v := 0) hx hb hr rfl (fun t9 ht9 hW9 => ⟨0, rfl, (tb_f ((kWid_e7 ((tb_1 _).mp c_2) ((tb_1 _).mp c_4) c_5 c_6 c_7 c_8).trans (decide_eq_false (Int32.not_lt.mpr c_9)))).symm, ht9⟩) (fun q hq => absurd hq List.not_mem_nil) dX2_widens_63
              · refine lv_iconst (v := 1) hx hb dX2_widens_58 (by decide) ?_
                refine lv_goto (tgt := 63) hx hb dX2_widens_59 (by decide) ?_
                exact W.zret (ty := .boolean) (v := 1) hx hb hr rfl (fun t9 ht9 hW9 => ⟨1, rfl, (tb_t ((kWid_e7 ((tb_1 _).mp c_2) ((tb_1 _).mp c_4) c_5 c_6 c_7 c_8).trans (decide_eq_true (Int32.not_le.mp c_9)))).symm, ht9⟩) (fun q hq => absurd hq List.not_mem_nil) dX2_widens_63
            · refine lv_iload_n hx hb dX2_widens_40 rfl (lv_at hl 1 rfl) ?_
              refine lv_iconst (v := 5) hx hb dX2_widens_41 (by decide) ?_
              refine lv_icmp_lt (tgt := 49) hx hb dX2_widens_42 (by decide) (fun c_10 => ?_) (fun c_10 => ?_)
              · refine lv_iconst (v := 0) hx hb dX2_widens_49 (by decide) ?_
                refine lv_goto (tgt := 63) hx hb dX2_widens_50 (by decide) ?_
                exact W.zret (ty := .boolean) (v := 0) hx hb hr rfl (fun t9 ht9 hW9 => ⟨0, rfl, (tb_f ((kWid_e6 ((tb_1 _).mp c_2) ((tb_1 _).mp c_4) c_5 c_6 c_7 c_8).trans (by rw [decide_eq_true (c_10)]; rfl))).symm, ht9⟩) (fun q hq => absurd hq List.not_mem_nil) dX2_widens_63
              · refine lv_iconst (v := 1) hx hb dX2_widens_45 (by decide) ?_
                refine lv_goto (tgt := 63) hx hb dX2_widens_46 (by decide) ?_
                exact W.zret (ty := .boolean) (v := 1) hx hb hr rfl (fun t9 ht9 hW9 => ⟨1, rfl, (tb_t ((kWid_e6 ((tb_1 _).mp c_2) ((tb_1 _).mp c_4) c_5 c_6 c_7 c_8).trans (by rw [decide_eq_false (c_10)]; rfl))).symm, ht9⟩) (fun q hq => absurd hq List.not_mem_nil) dX2_widens_63
          · refine lv_iconst (v := 0) hx hb dX2_widens_33 (by decide) ?_
            exact W.zret (ty := .boolean) (v := 0) hx hb hr rfl (fun t9 ht9 hW9 => ⟨0, rfl, (tb_f (kWid_e5 ((tb_1 _).mp c_2) ((tb_1 _).mp c_4) c_5 c_6 c_7)).symm, ht9⟩) (fun q hq => absurd hq List.not_mem_nil) dX2_widens_34
      · refine lv_iconst (v := 1) hx hb dX2_widens_21 (by decide) ?_
        exact W.zret (ty := .boolean) (v := 1) hx hb hr rfl (fun t9 ht9 hW9 => ⟨1, rfl, (tb_t (kWid_e3 ((tb_1 _).mp c_2) ((tb_1 _).mp c_4) c_5)).symm, ht9⟩) (fun q hq => absurd hq List.not_mem_nil) dX2_widens_22
    · refine lv_iconst (v := 0) hx hb dX2_widens_14 (by decide) ?_
      exact W.zret (ty := .boolean) (v := 0) hx hb hr rfl (fun t9 ht9 hW9 => ⟨0, rfl, (tb_f (kWid_e2 ((tb_1 _).mp c_2) ((tb_0 _).mp c_4))).symm, ht9⟩) (fun q hq => absurd hq List.not_mem_nil) dX2_widens_15
set_option maxHeartbeats 4000000 in
set_option maxRecDepth 100000 in
theorem kX2_isPart (l : Launch) (f : Int32) (mm : Int32) (n : Int32) : Met l yX2_isPart wsX2_isPart ({ frames := 0, cells := 0, slots := 0, locals := 0 }) (va_Pc [.int f, .int mm, .int n] (fun _ => True)) (vp_Si (fun r => r = tb (kPart f mm n))) 0 0 (fun _ => False) := by
  refine Met.ofW (cc := cX2_isPart) (maxL := 3) (ret := (some .boolean)) (by decide) rfl ?_
  intro p e s m args below meth c s₁ B hml hv
  obtain ⟨rfl, -⟩ := hv
  have hx := B.exec
  have hb := B.bytes
  have hr := B.returns
  have hts := atoms_spec (ws := wsX2_isPart) B.pre
  have hown : s.vm.findClass RX2 = some m.cls := findClass_of_methodNamed B.named
  have hlocks := B.notSynchronized
  have hl := lv_entry ([.int f, .int mm, .int n]) (n := 3) (Nat.le_of_ble_eq_true rfl)
  rw [lg_entry_eq]
  generalize (lg_sl ([.int f, .int mm, .int n]) ++ List.replicate (3 - (lg_sl ([.int f, .int mm, .int n])).length) Slot.unset).toArray = ls at hl ⊢
  have hl : lv_has ls 3 [(0, .int f), (1, .int mm), (2, .int n)] := hl
  refine lv_iload_n hx hb dX2_isPart_0 rfl (lv_at hl 0 rfl) ?_
  refine lv_if_lt (tgt := 19) hx hb dX2_isPart_1 (by decide) (fun c_1 => ?_) (fun c_1 => ?_)
  · refine lv_iconst (v := 0) hx hb dX2_isPart_19 (by decide) ?_
    exact W.zret (ty := .boolean) (v := 0) hx hb hr rfl (fun t9 ht9 hW9 => ⟨0, rfl, by simp [tb, kPart, c_1], ht9⟩) (fun q hq => absurd hq List.not_mem_nil) dX2_isPart_20
  · refine lv_iload_n hx hb dX2_isPart_4 rfl (lv_at hl 1 rfl) ?_
    refine lv_if_lt (tgt := 19) hx hb dX2_isPart_5 (by decide) (fun c_2 => ?_) (fun c_2 => ?_)
    · refine lv_iconst (v := 0) hx hb dX2_isPart_19 (by decide) ?_
      exact W.zret (ty := .boolean) (v := 0) hx hb hr rfl (fun t9 ht9 hW9 => ⟨0, rfl, by simp [tb, kPart, c_1, c_2], ht9⟩) (fun q hq => absurd hq List.not_mem_nil) dX2_isPart_20
    · refine lv_iload_n hx hb dX2_isPart_8 rfl (lv_at hl 0 rfl) ?_
      refine lv_iload_n hx hb dX2_isPart_9 rfl (lv_at hl 2 rfl) ?_
      refine lv_iload_n hx hb dX2_isPart_10 rfl (lv_at hl 1 rfl) ?_
      refine lv_isub hx hb dX2_isPart_11 ?_
      refine lv_icmp_gt (tgt := 19) hx hb dX2_isPart_12 (by decide) (fun c_3 => ?_) (fun c_3 => ?_)
      · refine lv_iconst (v := 0) hx hb dX2_isPart_19 (by decide) ?_
        exact W.zret (ty := .boolean) (v := 0) hx hb hr rfl (fun t9 ht9 hW9 => ⟨0, rfl, by simp [tb, kPart, c_1, c_2, c_3], ht9⟩) (fun q hq => absurd hq List.not_mem_nil) dX2_isPart_20
      · refine lv_iconst (v := 1) hx hb dX2_isPart_15 (by decide) ?_
        refine lv_goto (tgt := 20) hx hb dX2_isPart_16 (by decide) ?_
        exact W.zret (ty := .boolean) (v := 1) hx hb hr rfl (fun t9 ht9 hW9 => ⟨1, rfl, by simp [tb, kPart, c_1, c_2, c_3], ht9⟩) (fun q hq => absurd hq List.not_mem_nil) dX2_isPart_20
set_option maxHeartbeats 4000000 in
set_option maxRecDepth 100000 in
theorem kX2_wholeMadeFrom (l : Launch) (v : Int32) (k : Int32) : Met l yX2_wholeMadeFrom wsX2_wholeMadeFrom ({ frames := 0, cells := 0, slots := 0, locals := 0 }) (va_Pc [.int v, .int k] (fun _ => True)) (vp_Sl (fun r => r = kMade v k)) 0 0 (fun _ => False) := by
  refine Met.ofW (cc := cX2_wholeMadeFrom) (maxL := 2) (ret := (some .long)) (by decide) rfl ?_
  intro p e s m args below meth c s₁ B hml hv
  obtain ⟨rfl, -⟩ := hv
  have hx := B.exec
  have hb := B.bytes
  have hr := B.returns
  have hts := atoms_spec (ws := wsX2_wholeMadeFrom) B.pre
  have hown : s.vm.findClass RX2 = some m.cls := findClass_of_methodNamed B.named
  have hlocks := B.notSynchronized
  have hl := lv_entry ([.int v, .int k]) (n := 2) (Nat.le_of_ble_eq_true rfl)
  rw [lg_entry_eq]
  generalize (lg_sl ([.int v, .int k]) ++ List.replicate (2 - (lg_sl ([.int v, .int k])).length) Slot.unset).toArray = ls at hl ⊢
  have hl : lv_has ls 2 [(0, .int v), (1, .int k)] := hl
  refine lv_iload_n hx hb dX2_wholeMadeFrom_0 rfl (lv_at hl 1 rfl) ?_
  rcases Decidable.em (k = 1) with c_1 | c_1
  · refine lv_tableIn (tgt := 32) hx hb dX2_wholeMadeFrom_1 (by rw [c_1]; decide) (by rw [c_1]; decide) (by rw [c_1]; rfl) (by decide) ?_
    refine lv_iload_n hx hb dX2_wholeMadeFrom_32 rfl (lv_at hl 0 rfl) ?_
    refine lv_if_eq (tgt := 40) hx hb dX2_wholeMadeFrom_33 (by decide) (fun c_2 => ?_) (fun c_2 => ?_)
    · refine lv_lconst (v := 0) hx hb dX2_wholeMadeFrom_40 (by decide) ?_
      exact W.lret (v := 0) hx hb hr (fun t9 ht9 hW9 => ⟨0, rfl, by simp [kMade, c_1, c_2], ht9⟩) (fun q hq => absurd hq List.not_mem_nil) dX2_wholeMadeFrom_41
    · refine lv_lconst (v := 1) hx hb dX2_wholeMadeFrom_36 (by decide) ?_
      refine lv_goto (tgt := 41) hx hb dX2_wholeMadeFrom_37 (by decide) ?_
      exact W.lret (v := 1) hx hb hr (fun t9 ht9 hW9 => ⟨1, rfl, by simp [kMade, c_1, c_2], ht9⟩) (fun q hq => absurd hq List.not_mem_nil) dX2_wholeMadeFrom_41
  rcases Decidable.em (k = 2) with c_3 | c_3
  · refine lv_tableIn (tgt := 42) hx hb dX2_wholeMadeFrom_1 (by rw [c_3]; decide) (by rw [c_3]; decide) (by rw [c_3]; rfl) (by decide) ?_
    refine lv_iload_n hx hb dX2_wholeMadeFrom_42 rfl (lv_at hl 0 rfl) ?_
    refine lv_i2b (v := v.toInt8.toInt32) hx hb dX2_wholeMadeFrom_43 rfl ?_
    refine lv_i2l (v := v.toInt8.toInt32.toInt64) hx hb dX2_wholeMadeFrom_44 rfl ?_
    exact W.lret (v := v.toInt8.toInt32.toInt64) hx hb hr (fun t9 ht9 hW9 => ⟨v.toInt8.toInt32.toInt64, rfl, by simp [kMade, c_1, c_3], ht9⟩) (fun q hq => absurd hq List.not_mem_nil) dX2_wholeMadeFrom_45
  rcases Decidable.em (k = 3) with c_4 | c_4
  · refine lv_tableIn (tgt := 46) hx hb dX2_wholeMadeFrom_1 (by rw [c_4]; decide) (by rw [c_4]; decide) (by rw [c_4]; rfl) (by decide) ?_
    refine lv_iload_n hx hb dX2_wholeMadeFrom_46 rfl (lv_at hl 0 rfl) ?_
    refine lv_i2c (v := (v.toUInt32 % 65536).toInt32) hx hb dX2_wholeMadeFrom_47 rfl ?_
    refine lv_i2l (v := ((v.toUInt32 % 65536).toInt32).toInt64) hx hb dX2_wholeMadeFrom_48 rfl ?_
    exact W.lret (v := ((v.toUInt32 % 65536).toInt32).toInt64) hx hb hr (fun t9 ht9 hW9 => ⟨((v.toUInt32 % 65536).toInt32).toInt64, rfl, by simp [kMade, c_1, c_3, c_4], ht9⟩) (fun q hq => absurd hq List.not_mem_nil) dX2_wholeMadeFrom_49
  rcases Decidable.em (k = 4) with c_5 | c_5
  · refine lv_tableIn (tgt := 50) hx hb dX2_wholeMadeFrom_1 (by rw [c_5]; decide) (by rw [c_5]; decide) (by rw [c_5]; rfl) (by decide) ?_
    refine lv_iload_n hx hb dX2_wholeMadeFrom_50 rfl (lv_at hl 0 rfl) ?_
    refine lv_i2s (v := v.toInt16.toInt32) hx hb dX2_wholeMadeFrom_51 rfl ?_
    refine lv_i2l (v := v.toInt16.toInt32.toInt64) hx hb dX2_wholeMadeFrom_52 rfl ?_
    exact W.lret (v := v.toInt16.toInt32.toInt64) hx hb hr (fun t9 ht9 hW9 => ⟨v.toInt16.toInt32.toInt64, rfl, by simp [kMade, c_1, c_3, c_4, c_5], ht9⟩) (fun q hq => absurd hq List.not_mem_nil) dX2_wholeMadeFrom_53
  refine lv_tableOut (tgt := 54) hx hb dX2_wholeMadeFrom_1 (tc_sw4 c_1 c_3 c_4 c_5) (by decide) ?_
  refine lv_iload_n hx hb dX2_wholeMadeFrom_54 rfl (lv_at hl 0 rfl) ?_
  refine lv_i2l (v := v.toInt64) hx hb dX2_wholeMadeFrom_55 rfl ?_
  exact W.lret (v := v.toInt64) hx hb hr (fun t9 ht9 hW9 => ⟨v.toInt64, rfl, by simp [kMade, c_1, c_3, c_4, c_5], ht9⟩) (fun q hq => absurd hq List.not_mem_nil) dX2_wholeMadeFrom_56
set_option maxHeartbeats 4000000 in
set_option maxRecDepth 100000 in
theorem kX2_noNumber (l : Launch)  : Met l yX2_noNumber wsX2_noNumber ({ frames := 0, cells := 0, slots := 0, locals := 0 }) (va_Pc [] (fun _ => True)) (vp_Sd (fun r => r = (9221120237041090560 : UInt64))) 0 0 (fun _ => False) := by
  refine Met.ofW (cc := cX2_noNumber) (maxL := 0) (ret := (some .double)) (by decide) rfl ?_
  intro p e s m args below meth c s₁ B hml hv
  obtain ⟨rfl, -⟩ := hv
  have hx := B.exec
  have hb := B.bytes
  have hr := B.returns
  have hts := atoms_spec (ws := wsX2_noNumber) B.pre
  have hown : s.vm.findClass RX2 = some m.cls := findClass_of_methodNamed B.named
  have hlocks := B.notSynchronized
  have hl := lv_entry ([]) (n := 0) (Nat.le_of_ble_eq_true rfl)
  rw [lg_entry_eq]
  generalize (lg_sl ([]) ++ List.replicate (0 - (lg_sl ([])).length) Slot.unset).toArray = ls at hl ⊢
  have hl : lv_has ls 0 [] := hl
  refine lv_ldc2d (v := 9221120237041090560) hx hb hown (hts (.constantDouble RX2 182 (9221120237041090560)) (by decide +kernel)) dX2_noNumber_0 ?_
  exact W.dret (v := 9221120237041090560) hx hb hr (fun t9 ht9 hW9 => ⟨9221120237041090560, rfl, rfl, ht9⟩) (fun q hq => absurd hq List.not_mem_nil) dX2_noNumber_3
set_option maxHeartbeats 4000000 in
set_option maxRecDepth 100000 in
theorem kX2_isInfinite (l : Launch) (v : UInt64) (hn : FP.Core.dIsNaN v = false) : Met l yX2_isInfinite wsX2_isInfinite ({ frames := 0, cells := 0, slots := 0, locals := 0 }) (va_Pc [.double v] (fun _ => True)) (vp_Si (fun r => r = tb (tf_inf v))) 0 0 (fun _ => False) := by
  refine Met.ofW (cc := cX2_isInfinite) (maxL := 2) (ret := (some .boolean)) (by decide) rfl ?_
  intro p e s m args below meth c s₁ B hml hv
  obtain ⟨rfl, -⟩ := hv
  have hx := B.exec
  have hb := B.bytes
  have hr := B.returns
  have hts := atoms_spec (ws := wsX2_isInfinite) B.pre
  have hown : s.vm.findClass RX2 = some m.cls := findClass_of_methodNamed B.named
  have hlocks := B.notSynchronized
  have hl := lv_entry ([.double v]) (n := 2) (Nat.le_of_ble_eq_true rfl)
  rw [lg_entry_eq]
  generalize (lg_sl ([.double v]) ++ List.replicate (2 - (lg_sl ([.double v])).length) Slot.unset).toArray = ls at hl ⊢
  have hl : lv_has ls 2 [(0, .double v)] := hl
  refine lv_dload_n hx hb dX2_isInfinite_0 rfl (lv_at hl 0 rfl) ?_
  refine lv_ldc2d (v := 9218868437227405311) hx hb hown (hts (.constantDouble RX2 192 (9218868437227405311)) (by decide +kernel)) dX2_isInfinite_1 ?_
  refine lv_dcmp hx hb dX2_isInfinite_4 ?_
  refine lv_if_gt (tgt := 16) hx hb dX2_isInfinite_5 (by decide) (fun c_1 => ?_) (fun c_1 => ?_)
  · refine lv_iconst (v := 1) hx hb dX2_isInfinite_16 (by decide) ?_
    refine lv_goto (tgt := 21) hx hb dX2_isInfinite_17 (by decide) ?_
    exact W.zret (ty := .boolean) (v := 1) hx hb hr rfl (fun t9 ht9 hW9 => ⟨1, rfl, (tb_t ((tf_inf_or hn).mpr (Or.inl ((tf_clgt _).mp c_1)))).symm, ht9⟩) (fun q hq => absurd hq List.not_mem_nil) dX2_isInfinite_21
  · refine lv_dload_n hx hb dX2_isInfinite_8 rfl (lv_at hl 0 rfl) ?_
    refine lv_ldc2d (v := 18442240474082181119) hx hb hown (hts (.constantDouble RX2 194 (18442240474082181119)) (by decide +kernel)) dX2_isInfinite_9 ?_
    refine lv_dcmp hx hb dX2_isInfinite_12 ?_
    refine lv_if_ge (tgt := 20) hx hb dX2_isInfinite_13 (by decide) (fun c_2 => ?_) (fun c_2 => ?_)
    · refine lv_iconst (v := 0) hx hb dX2_isInfinite_20 (by decide) ?_
      exact W.zret (ty := .boolean) (v := 0) hx hb hr rfl (fun t9 ht9 hW9 => ⟨0, rfl, (tb_f (tc_bf (tf_inf_or hn) (fun q => q.elim (fun q => c_1 ((tf_clgt _).mpr q)) (fun q => ((tf_cg _).mp c_2) q)))).symm, ht9⟩) (fun q hq => absurd hq List.not_mem_nil) dX2_isInfinite_21
    · refine lv_iconst (v := 1) hx hb dX2_isInfinite_16 (by decide) ?_
      refine lv_goto (tgt := 21) hx hb dX2_isInfinite_17 (by decide) ?_
      exact W.zret (ty := .boolean) (v := 1) hx hb hr rfl (fun t9 ht9 hW9 => ⟨1, rfl, (tb_t ((tf_inf_or hn).mpr (Or.inr (Classical.byContradiction fun q => c_2 ((tf_cg _).mpr q))))).symm, ht9⟩) (fun q hq => absurd hq List.not_mem_nil) dX2_isInfinite_21
set_option maxHeartbeats 4000000 in
set_option maxRecDepth 100000 in
theorem kX2_sumOf (l : Launch) (a : UInt64) (b : UInt64) : Met l yX2_sumOf wsX2_sumOf ({ frames := 1, cells := 0, slots := 0, locals := 21 }) (va_Pc [.double a, .double b] (fun _ => True)) (vp_Sd (fun r => r = tf_canon (FP.dadd a b))) 0 0 (fun _ => False) := by
  refine Met.ofW (cc := cX2_sumOf) (maxL := 4) (ret := (some .double)) (by decide) rfl ?_
  intro p e s m args below meth c s₁ B hml hv
  obtain ⟨rfl, -⟩ := hv
  have hx := B.exec
  have hb := B.bytes
  have hr := B.returns
  have hts := atoms_spec (ws := wsX2_sumOf) B.pre
  have hown : s.vm.findClass RX2 = some m.cls := findClass_of_methodNamed B.named
  have hlocks := B.notSynchronized
  have hl := lv_entry ([.double a, .double b]) (n := 4) (Nat.le_of_ble_eq_true rfl)
  rw [lg_entry_eq]
  generalize (lg_sl ([.double a, .double b]) ++ List.replicate (4 - (lg_sl ([.double a, .double b])).length) Slot.unset).toArray = ls at hl ⊢
  have hl : lv_has ls 4 [(0, .double a), (2, .double b)] := hl
  refine lv_dload_n hx hb dX2_sumOf_0 rfl (lv_at hl 0 rfl) ?_
  refine lv_dload_n hx hb dX2_sumOf_1 rfl (lv_at hl 0 rfl) ?_
  refine lv_dcmp hx hb dX2_sumOf_2 ?_
  refine lv_if_ne (tgt := 26) hx hb dX2_sumOf_3 (by decide) (fun c_1 => ?_) (fun c_1 => ?_)
  · refine vp_callSd (W.runS (As := []) (rest := []) ⟨hx, hb, hml, hown, hts⟩ (kX2_noNumber l) (va_cwS 0 hts gX2_sumOf_X2_noNumber rfl rfl rfl (by decide +kernel) ⟨Nat.le_of_ble_eq_true rfl, Nat.le_of_ble_eq_true rfl⟩) ⟨fun a U g mk q => q, fun U hU hW => ⟨rfl, trivial⟩⟩ rfl rfl hl.1 rfl (lv_room (Nat.le_of_ble_eq_true rfl)) dX2_sumOf_26 ⟨Nat.zero_le _, Nat.zero_le _⟩) (fun r_2 hr_2 => ?_)
    subst hr_2
    exact W.dret (v := (9221120237041090560 : UInt64)) hx hb hr (fun t9 ht9 hW9 => ⟨(9221120237041090560 : UInt64), rfl, (tf_cyes ((FP.Core.dadd_nan_iff a b).mpr (Or.inl ((FP.Core.dIsNaN_iff a).mp (tf_selfN c_1))))).symm, ht9⟩) (fun q hq => absurd hq List.not_mem_nil) dX2_sumOf_29
  · refine lv_dload_n hx hb dX2_sumOf_6 rfl (lv_at hl 1 rfl) ?_
    refine lv_dload_n hx hb dX2_sumOf_7 rfl (lv_at hl 1 rfl) ?_
    refine lv_dcmp hx hb dX2_sumOf_8 ?_
    refine lv_if_ne (tgt := 26) hx hb dX2_sumOf_9 (by decide) (fun c_3 => ?_) (fun c_3 => ?_)
    · refine vp_callSd (W.runS (As := []) (rest := []) ⟨hx, hb, hml, hown, hts⟩ (kX2_noNumber l) (va_cwS 0 hts gX2_sumOf_X2_noNumber rfl rfl rfl (by decide +kernel) ⟨Nat.le_of_ble_eq_true rfl, Nat.le_of_ble_eq_true rfl⟩) ⟨fun a U g mk q => q, fun U hU hW => ⟨rfl, trivial⟩⟩ rfl rfl hl.1 rfl (lv_room (Nat.le_of_ble_eq_true rfl)) dX2_sumOf_26 ⟨Nat.zero_le _, Nat.zero_le _⟩) (fun r_4 hr_4 => ?_)
      subst hr_4
      exact W.dret (v := (9221120237041090560 : UInt64)) hx hb hr (fun t9 ht9 hW9 => ⟨(9221120237041090560 : UInt64), rfl, (tf_cyes ((FP.Core.dadd_nan_iff a b).mpr (Or.inr (Or.inl ((FP.Core.dIsNaN_iff b).mp (tf_selfN c_3)))))).symm, ht9⟩) (fun q hq => absurd hq List.not_mem_nil) dX2_sumOf_29
    · refine lv_dload_n hx hb dX2_sumOf_12 rfl (lv_at hl 0 rfl) ?_
      refine vp_callSi (W.runS (As := [.double a]) (rest := []) ⟨hx, hb, hml, hown, hts⟩ (kX2_isInfinite l a (tf_self c_1)) (va_cwS 1 hts gX2_sumOf_X2_isInfinite rfl rfl rfl (by decide +kernel) ⟨Nat.le_of_ble_eq_true rfl, Nat.le_of_ble_eq_true rfl⟩) ⟨fun a U g mk q => q, fun U hU hW => ⟨rfl, trivial⟩⟩ rfl rfl hl.1 rfl (lv_room (Nat.le_of_ble_eq_true rfl)) dX2_sumOf_13 ⟨Nat.zero_le _, Nat.zero_le _⟩) (fun r_5 hr_5 => ?_)
      subst hr_5
      refine lv_if_eq (tgt := 30) hx hb dX2_sumOf_16 (by decide) (fun c_6 => ?_) (fun c_6 => ?_)
      · refine lv_dload_n hx hb dX2_sumOf_30 rfl (lv_at hl 0 rfl) ?_
        refine lv_dload_n hx hb dX2_sumOf_31 rfl (lv_at hl 1 rfl) ?_
        refine lv_dadd hx hb dX2_sumOf_32 ((tf_n64 _).mpr (tc_bf (tf_sumc (tf_self c_1) (tf_self c_3)).symm (fun q => absurd q.1 (by rw [(tb_0 _).mp c_6]; decide)))) ?_
        exact W.dret (v := (FP.dadd a b)) hx hb hr (fun t9 ht9 hW9 => ⟨(FP.dadd a b), rfl, (tf_cno ((tc_bf (tf_sumc (tf_self c_1) (tf_self c_3)).symm (fun q => absurd q.1 (by rw [(tb_0 _).mp c_6]; decide))))).symm, ht9⟩) (fun q hq => absurd hq List.not_mem_nil) dX2_sumOf_33
      · refine lv_dload_n hx hb dX2_sumOf_19 rfl (lv_at hl 0 rfl) ?_
        refine lv_dload_n hx hb dX2_sumOf_20 rfl (lv_at hl 1 rfl) ?_
        refine lv_dneg hx hb dX2_sumOf_21 ?_
        refine lv_dcmp hx hb dX2_sumOf_22 ?_
        refine lv_if_ne (tgt := 30) hx hb dX2_sumOf_23 (by decide) (fun c_7 => ?_) (fun c_7 => ?_)
        · refine lv_dload_n hx hb dX2_sumOf_30 rfl (lv_at hl 0 rfl) ?_
          refine lv_dload_n hx hb dX2_sumOf_31 rfl (lv_at hl 1 rfl) ?_
          refine lv_dadd hx hb dX2_sumOf_32 ((tf_n64 _).mpr (tc_bf (tf_sumc (tf_self c_1) (tf_self c_3)).symm (fun q => c_7 ((tf_cl0 _).mpr q.2)))) ?_
          exact W.dret (v := (FP.dadd a b)) hx hb hr (fun t9 ht9 hW9 => ⟨(FP.dadd a b), rfl, (tf_cno ((tc_bf (tf_sumc (tf_self c_1) (tf_self c_3)).symm (fun q => c_7 ((tf_cl0 _).mpr q.2))))).symm, ht9⟩) (fun q hq => absurd hq List.not_mem_nil) dX2_sumOf_33
        · refine vp_callSd (W.runS (As := []) (rest := []) ⟨hx, hb, hml, hown, hts⟩ (kX2_noNumber l) (va_cwS 0 hts gX2_sumOf_X2_noNumber rfl rfl rfl (by decide +kernel) ⟨Nat.le_of_ble_eq_true rfl, Nat.le_of_ble_eq_true rfl⟩) ⟨fun a U g mk q => q, fun U hU hW => ⟨rfl, trivial⟩⟩ rfl rfl hl.1 rfl (lv_room (Nat.le_of_ble_eq_true rfl)) dX2_sumOf_26 ⟨Nat.zero_le _, Nat.zero_le _⟩) (fun r_8 hr_8 => ?_)
          subst hr_8
          exact W.dret (v := (9221120237041090560 : UInt64)) hx hb hr (fun t9 ht9 hW9 => ⟨(9221120237041090560 : UInt64), rfl, (tf_cyes ((tf_sumc (tf_self c_1) (tf_self c_3)).mp ⟨(tb_1 _).mp c_6, (tf_cl0 _).mp c_7⟩)).symm, ht9⟩) (fun q hq => absurd hq List.not_mem_nil) dX2_sumOf_29
