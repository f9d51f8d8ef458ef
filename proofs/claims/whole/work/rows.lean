section
-- ===== PART A: goes FIRST, ahead of the names: the tables' words, and 'selects' of the private methods out of them =====
/-- a private method of a class that the tables say can be made, by its rows of tables_1 -/
def lw_okq (q : MethodName × Nat) : Prop := (q.1.cls ≠ "java/lang/invoke/MethodHandle" ∧ q.1.cls ≠ "java/lang/invoke/VarHandle") ∧ Cond.instantiable q.1.cls q.2 ∈ tables_1 ∧ Cond.privateMethod q.1 ∈ tables_1 ∧ Cond.instanceMethod q.1 ∈ tables_1
theorem lw_p0 : lw_okq (⟨"TypedColumns", "columnAt", "(I)LTypedColumns$Column;"⟩, 5) := ⟨⟨by decide +kernel, by decide +kernel⟩, List.mem_of_getElem? (i := 14) (by decide +kernel), List.mem_of_getElem? (i := 70) (by decide +kernel), List.mem_of_getElem? (i := 71) (by decide +kernel)⟩
theorem lw_p1 : lw_okq (⟨"java/lang/Throwable", "fillInStackTrace", "(I)Ljava/lang/Throwable;"⟩, 6) := ⟨⟨by decide +kernel, by decide +kernel⟩, List.mem_of_getElem? (i := 112) (by decide +kernel), List.mem_of_getElem? (i := 110) (by decide +kernel), List.mem_of_getElem? (i := 111) (by decide +kernel)⟩
theorem lw_p2 : lw_okq (⟨"TypedColumns", "mixedColumn", "(JLTypedColumns$Column;)J"⟩, 5) := ⟨⟨by decide +kernel, by decide +kernel⟩, List.mem_of_getElem? (i := 14) (by decide +kernel), List.mem_of_getElem? (i := 142) (by decide +kernel), List.mem_of_getElem? (i := 143) (by decide +kernel)⟩
theorem lw_p3 : lw_okq (⟨"TypedColumns$DoubleBits", "ofPositive", "(D)J"⟩, 1) := ⟨⟨by decide +kernel, by decide +kernel⟩, List.mem_of_getElem? (i := 24) (by decide +kernel), List.mem_of_getElem? (i := 152) (by decide +kernel), List.mem_of_getElem? (i := 153) (by decide +kernel)⟩
theorem lw_p4 : lw_okq (⟨"TypedColumns$DoubleBits", "ofNormal", "(D)J"⟩, 1) := ⟨⟨by decide +kernel, by decide +kernel⟩, List.mem_of_getElem? (i := 24) (by decide +kernel), List.mem_of_getElem? (i := 164) (by decide +kernel), List.mem_of_getElem? (i := 165) (by decide +kernel)⟩
theorem lw_p5 : lw_okq (⟨"TypedColumns", "refuseWhenFull", "()V"⟩, 5) := ⟨⟨by decide +kernel, by decide +kernel⟩, List.mem_of_getElem? (i := 14) (by decide +kernel), List.mem_of_getElem? (i := 205) (by decide +kernel), List.mem_of_getElem? (i := 206) (by decide +kernel)⟩
theorem lw_p6 : lw_okq (⟨"TypedColumns", "addColumn", "(LTypedColumns$Column;)I"⟩, 5) := ⟨⟨by decide +kernel, by decide +kernel⟩, List.mem_of_getElem? (i := 14) (by decide +kernel), List.mem_of_getElem? (i := 253) (by decide +kernel), List.mem_of_getElem? (i := 254) (by decide +kernel)⟩
theorem lw_p7 : lw_okq (⟨"TypedColumns", "note", "(I)I"⟩, 5) := ⟨⟨by decide +kernel, by decide +kernel⟩, List.mem_of_getElem? (i := 14) (by decide +kernel), List.mem_of_getElem? (i := 275) (by decide +kernel), List.mem_of_getElem? (i := 276) (by decide +kernel)⟩
theorem lw_p8 : lw_okq (⟨"TypedColumns", "readWhole", "(LTypedColumns$Column;II)J"⟩, 5) := ⟨⟨by decide +kernel, by decide +kernel⟩, List.mem_of_getElem? (i := 14) (by decide +kernel), List.mem_of_getElem? (i := 286) (by decide +kernel), List.mem_of_getElem? (i := 287) (by decide +kernel)⟩
theorem lw_p9 : lw_okq (⟨"TypedColumns", "readReal", "(LTypedColumns$Column;II)D"⟩, 5) := ⟨⟨by decide +kernel, by decide +kernel⟩, List.mem_of_getElem? (i := 14) (by decide +kernel), List.mem_of_getElem? (i := 365) (by decide +kernel), List.mem_of_getElem? (i := 366) (by decide +kernel)⟩
theorem lw_p10 : lw_okq (⟨"TypedColumns", "writeWhole", "(LTypedColumns$Column;IIJ)I"⟩, 5) := ⟨⟨by decide +kernel, by decide +kernel⟩, List.mem_of_getElem? (i := 14) (by decide +kernel), List.mem_of_getElem? (i := 387) (by decide +kernel), List.mem_of_getElem? (i := 388) (by decide +kernel)⟩
theorem lw_p11 : lw_okq (⟨"TypedColumns", "writeReal", "(LTypedColumns$Column;IID)I"⟩, 5) := ⟨⟨by decide +kernel, by decide +kernel⟩, List.mem_of_getElem? (i := 14) (by decide +kernel), List.mem_of_getElem? (i := 448) (by decide +kernel), List.mem_of_getElem? (i := 449) (by decide +kernel)⟩
theorem lw_p12 : lw_okq (⟨"TypedColumnsModel", "fail", "(I)I"⟩, 8) := ⟨⟨by decide +kernel, by decide +kernel⟩, List.mem_of_getElem? (i := 555) (by decide +kernel), List.mem_of_getElem? (i := 597) (by decide +kernel), List.mem_of_getElem? (i := 598) (by decide +kernel)⟩
theorem lw_p13 : lw_okq (⟨"TypedColumnsModel", "isColumn", "(I)Z"⟩, 8) := ⟨⟨by decide +kernel, by decide +kernel⟩, List.mem_of_getElem? (i := 555) (by decide +kernel), List.mem_of_getElem? (i := 612) (by decide +kernel), List.mem_of_getElem? (i := 613) (by decide +kernel)⟩
theorem lw_p14 : lw_okq (⟨"TypedColumnsModel", "codeOf", "(I)I"⟩, 8) := ⟨⟨by decide +kernel, by decide +kernel⟩, List.mem_of_getElem? (i := 555) (by decide +kernel), List.mem_of_getElem? (i := 620) (by decide +kernel), List.mem_of_getElem? (i := 621) (by decide +kernel)⟩
theorem lw_p15 : lw_okq (⟨"TypedColumnsModel", "note", "(I)Z"⟩, 8) := ⟨⟨by decide +kernel, by decide +kernel⟩, List.mem_of_getElem? (i := 555) (by decide +kernel), List.mem_of_getElem? (i := 624) (by decide +kernel), List.mem_of_getElem? (i := 625) (by decide +kernel)⟩
def lw_privs_1 : List (MethodName × Nat) := [(⟨"TypedColumns", "columnAt", "(I)LTypedColumns$Column;"⟩, 5), (⟨"java/lang/Throwable", "fillInStackTrace", "(I)Ljava/lang/Throwable;"⟩, 6), (⟨"TypedColumns", "mixedColumn", "(JLTypedColumns$Column;)J"⟩, 5), (⟨"TypedColumns$DoubleBits", "ofPositive", "(D)J"⟩, 1), (⟨"TypedColumns$DoubleBits", "ofNormal", "(D)J"⟩, 1), (⟨"TypedColumns", "refuseWhenFull", "()V"⟩, 5), (⟨"TypedColumns", "addColumn", "(LTypedColumns$Column;)I"⟩, 5), (⟨"TypedColumns", "note", "(I)I"⟩, 5), (⟨"TypedColumns", "readWhole", "(LTypedColumns$Column;II)J"⟩, 5), (⟨"TypedColumns", "readReal", "(LTypedColumns$Column;II)D"⟩, 5), (⟨"TypedColumns", "writeWhole", "(LTypedColumns$Column;IIJ)I"⟩, 5), (⟨"TypedColumns", "writeReal", "(LTypedColumns$Column;IID)I"⟩, 5), (⟨"TypedColumnsModel", "fail", "(I)I"⟩, 8), (⟨"TypedColumnsModel", "isColumn", "(I)Z"⟩, 8), (⟨"TypedColumnsModel", "codeOf", "(I)I"⟩, 8), (⟨"TypedColumnsModel", "note", "(I)Z"⟩, 8)]
theorem lw_r1 : ∀ q ∈ lw_privs_1, lw_okq q := List.forall_mem_cons.mpr ⟨lw_p0, List.forall_mem_cons.mpr ⟨lw_p1, List.forall_mem_cons.mpr ⟨lw_p2, List.forall_mem_cons.mpr ⟨lw_p3, List.forall_mem_cons.mpr ⟨lw_p4, List.forall_mem_cons.mpr ⟨lw_p5, List.forall_mem_cons.mpr ⟨lw_p6, List.forall_mem_cons.mpr ⟨lw_p7, List.forall_mem_cons.mpr ⟨lw_p8, List.forall_mem_cons.mpr ⟨lw_p9, List.forall_mem_cons.mpr ⟨lw_p10, List.forall_mem_cons.mpr ⟨lw_p11, List.forall_mem_cons.mpr ⟨lw_p12, List.forall_mem_cons.mpr ⟨lw_p13, List.forall_mem_cons.mpr ⟨lw_p14, List.forall_mem_cons.mpr ⟨lw_p15, fun _ h => absurd h List.not_mem_nil⟩⟩⟩⟩⟩⟩⟩⟩⟩⟩⟩⟩⟩⟩⟩⟩
theorem lw_p16 : lw_okq (⟨"TypedColumnsModel", "reads", "(III)Z"⟩, 8) := ⟨⟨by decide +kernel, by decide +kernel⟩, List.mem_of_getElem? (i := 555) (by decide +kernel), List.mem_of_getElem? (i := 632) (by decide +kernel), List.mem_of_getElem? (i := 633) (by decide +kernel)⟩
theorem lw_p17 : lw_okq (⟨"TypedColumnsModel", "codeOf", "(II)I"⟩, 8) := ⟨⟨by decide +kernel, by decide +kernel⟩, List.mem_of_getElem? (i := 555) (by decide +kernel), List.mem_of_getElem? (i := 636) (by decide +kernel), List.mem_of_getElem? (i := 637) (by decide +kernel)⟩
theorem lw_p18 : lw_okq (⟨"TypedColumnsModel", "asDouble", "(II)D"⟩, 8) := ⟨⟨by decide +kernel, by decide +kernel⟩, List.mem_of_getElem? (i := 555) (by decide +kernel), List.mem_of_getElem? (i := 674) (by decide +kernel), List.mem_of_getElem? (i := 675) (by decide +kernel)⟩
theorem lw_p19 : lw_okq (⟨"TypedColumnsModel", "write", "(IIIJD)I"⟩, 8) := ⟨⟨by decide +kernel, by decide +kernel⟩, List.mem_of_getElem? (i := 555) (by decide +kernel), List.mem_of_getElem? (i := 686) (by decide +kernel), List.mem_of_getElem? (i := 687) (by decide +kernel)⟩
def lw_privs_2 : List (MethodName × Nat) := [(⟨"TypedColumnsModel", "reads", "(III)Z"⟩, 8), (⟨"TypedColumnsModel", "codeOf", "(II)I"⟩, 8), (⟨"TypedColumnsModel", "asDouble", "(II)D"⟩, 8), (⟨"TypedColumnsModel", "write", "(IIIJD)I"⟩, 8)]
theorem lw_r2 : ∀ q ∈ lw_privs_2, lw_okq q := List.forall_mem_cons.mpr ⟨lw_p16, List.forall_mem_cons.mpr ⟨lw_p17, List.forall_mem_cons.mpr ⟨lw_p18, List.forall_mem_cons.mpr ⟨lw_p19, fun _ h => absurd h List.not_mem_nil⟩⟩⟩⟩
def lw_privs : List (MethodName × Nat) := lw_privs_1 ++ (lw_privs_2)
def lw_tbl : List Cond := k2_sels lw_privs ++ tables_1
theorem lw_privs_ok : ∀ q ∈ lw_privs, lw_okq q := by
  show ∀ q ∈ lw_privs_1 ++ (lw_privs_2), lw_okq q
  exact List.forall_mem_append.mpr ⟨lw_r1, lw_r2⟩
/-- the streams that the claim lets the run draw from -/
abbrev lw_cs : List Choice := [Jvm.Choice.named "NaN.bits"]
theorem lw_bits : nanBits ∈ lw_cs := by first | decide | exact List.mem_cons_self | simp [lw_cs, nanBits]
-- ===== end of PART A; then your names; then what follows =====
/-! ===== BEGIN words of one list among another's, by their places ===== -/
theorem goodIn_r {big : List Cond} (ws : List Cond) (ps : List Nat) (hp : ws = ps.filterMap (fun i => big[i]?)) (h : ws.all goodWord = true) : GoodIn big ws := by
  intro w hw
  have h1 := List.all_eq_true.mp h w hw
  rw [hp] at hw
  obtain ⟨i, -, hi⟩ := List.mem_filterMap.mp hw
  have hm : w ∈ big := by first | exact List.mem_of_getElem? hi | exact List.getElem?_mem hi
  exact ⟨hm, good_of_word h1⟩
theorem goodIn_app {big a b : List Cond} (ha : GoodIn big a) (hb : GoodIn big b) : GoodIn big (a ++ b) := fun w h => (List.mem_append.mp h).elim (ha w) (hb w)
theorem goodIn_ca {big a b : List Cond} {c : Cond} (ha : GoodIn big (c :: a)) (hb : GoodIn big b) : GoodIn big (c :: (a ++ b)) := fun w h => (List.mem_cons.mp h).elim (fun e => ha w (List.mem_cons.mpr (Or.inl e))) (fun h => (List.mem_append.mp h).elim (fun h => ha w (List.mem_cons.mpr (Or.inr h))) (hb w))
theorem goodIn_sub {big ws : List Cond} (hm : ∀ w ∈ ws, w ∈ big) (h : ws.all goodWord = true) : GoodIn big ws := fun w hw => ⟨hm w hw, good_of_word (List.all_eq_true.mp h w hw)⟩
/-! ===== END ===== -/

/-! ===== BEGIN exceptions that leave a method, and their catching by the caller (launches without stack traces) ===== -/
section VXA
/-! The laws vx_back, vx_callV, vx_callS, vx_callSW, vx_throw0, vx_throwS follow proofs of the library, with one case more: JvmDerived/Free/Laws.lean (Back.of_free), Shelf42/LK1.lean (callV, callS), Shelf/KitTraced.lean (throwNew0V, throwNewS). -/
/-- where a method has thrown q: the class by its name, the cell, what was written, the world -/
def vx_T (XC : String → State → State → Prop) (st : State) (q : Addr) (t : State) (mc ms : Nat) (free : Addr → Prop) : Prop :=
  ∃ (E : String) (ce : Cell) (L : List Loc), XC E st t ∧ t.heap[q]? = some ce ∧ ce.vm = .none ∧ st.vm.findClass E = some ce.cls ∧ st.WarmedH t.vm ∧ st.sameButNew ({ t with vm := st.vm } : State) L mc ms ∧ ∀ z ∈ L, free z.base
def vx_Q (Qc : Array Value → State → Outcome → State → Prop) (XC : String → State → State → Prop) (mc ms : Nat) (free : Addr → Prop) : Array Value → State → Outcome → State → Prop := fun a st o t =>
  (Qc a st o t ∧ ∃ L, FrameEnd st o t L mc ms ∧ ∀ q ∈ L, free q.base) ∨ ∃ q, o = .threw q ∧ vx_T XC st q t mc ms free
/-- a callee that returns or throws -/
def vx_Met (l : Launch) (y : MethodName) (ws : List Cond) (rm : Room) (Pc : Array Value → State → Prop) (Qc : Array Value → State → Outcome → State → Prop) (XC : String → State → State → Prop) (mc ms : Nat) (free : Addr → Prop) : Prop :=
  MetFree l y (headSpec ws rm) Pc (fun _ _ _ _ _ => True) (vx_Q Qc XC mc ms free)
def vx_Post (XC : String → State → State → Prop) (mc ms : Nat) (free : Addr → Prop) : Pt → Array Value → Addr → Pt → Prop := fun A a q B =>
  ∃ (g : JFrame) (mk : MethodId) (t : State) (L : List Loc) (E : String) (ce : Cell), B.U.heap = t.heap ∧ B.U.vm = t.vm ∧ XC E (A.U.calling g mk a) t ∧ t.heap[q]? = some ce ∧ ce.vm = .none ∧ A.U.vm.findClass E = some ce.cls ∧ B.locs = A.locs ++ L ∧ (∀ z ∈ L, free z.base) ∧ B.cells = A.cells + mc ∧ B.slots = A.slots + ms
def vx_Back (l : Launch) (R : Room) (p : Program) (e : Env) (below : List Frame) (s : State) (sargs : Array Value) (y : MethodName) (len W9 : Nat)
    (Pre : Pt → Array Value → Prop) (Post : Pt → Array Value → Option Value → Pt → Prop) (PostX : Pt → Array Value → Addr → Pt → Prop) : Prop :=
  ∀ (m : MethodId) (meth : Method) (c : Code) (A : Pt) (g : JFrame) (ig : Instr) (mk : MethodId) (a : Array Value),
    Stand p l e R s m sargs below meth c A.U A.locs A.cells A.slots → g.method = m → g.locals.size = c.maxLocals → decode c.code g.pc = .ok (ig, len) →
    2 * g.monitorRoom + (g.stack.map fun v => v.category).sum ≤ W9 → A.U.methodNamed? y = some mk → Pre A a →
    (∃ (v : Option Value) (B : Pt), Stand p l e R s m sargs below meth c B.U B.locs B.cells B.slots ∧ Post A a v B ∧
      Steps p.tables e below (doInvoke e (A.U.setTop g) [] mk a).1 (B.U.setTop { g with pc := g.pc + len, stack := v.toList ++ g.stack })) ∨
    (∃ (q : Addr) (B : Pt), Stand p l e R s m sargs below meth c B.U B.locs B.cells B.slots ∧ PostX A a q B ∧
      Steps p.tables e below (doInvoke e (A.U.setTop g) [] mk a).1 ((B.U.setTop g).pushFrame (.throwing q)))
section Payer
variable {l : Launch} {R : Room} {p : Program} {e : Env} {below : List Frame} {s : State} {sargs : Array Value} {y : MethodName} {len W9 : Nat}
theorem vx_back {ws : List Cond} {rm : Room} {Pc : Array Value → State → Prop} {Qc : Array Value → State → Outcome → State → Prop} {XC : String → State → State → Prop} {mc ms : Nat} {free : Addr → Prop} {bytes : ByteArray} {maxL : Nat} {ret : Option FieldType}
    (hM : vx_Met l y ws rm Pc Qc XC mc ms free) (hblind : FrameBlind Pc) (hrc : rm.cells = mc) (hrs : rm.slots = ms)
    (hframes : rm.frames + 1 ≤ R.frames) (hlocals : W9 + (maxL + 11) + rm.locals ≤ R.locals)
    (hws : ∀ w ∈ ws, ∀ a' U, s.WarmedH U.vm → w.before a' U = true) (hcode : Cond.code y bytes maxL ret ∈ ws) (hinit : ∀ a' U, s.WarmedH U.vm → (Cond.initialized y.cls).before a' U = true) :
    vx_Back l R p e below s sargs y len W9 (PreOf R mc ms Pc) (PostOf Qc mc ms free) (vx_Post XC mc ms free) := by
  intro m meth c A g ig mk a X hg hsize hdg hW hn hp
  have h1 : (headSpec ws rm).pre.before a A.U = true := atoms_intro fun w hw => hws w hw _ _ X.warmed
  have h2 : (Cond.code y bytes maxL ret).before a A.U = true := hws _ hcode _ _ X.warmed
  have h3 : (Cond.initialized y.cls).before a A.U = true := hinit _ _ X.warmed
  have h4 : A.cells + (headSpec ws rm).room.cells ≤ R.cells := by rw [show (headSpec ws rm).room.cells = mc from hrc]; exact hp.1
  have h5 : A.slots + (headSpec ws rm).room.slots ≤ R.slots := by rw [show (headSpec ws rm).room.slots = ms from hrs]; exact hp.2.1
  have hPc : Pc a (A.U.calling g mk a) := hblind _ _ _ _ hp.2.2
  obtain ⟨U, Ls, c0, s0⟩ := A
  dsimp only [Pt.U, Pt.locs, Pt.cells, Pt.slots] at h1 h2 h3 h4 h5 X hn hPc ⊢
  obtain ⟨methY, cY, hmY, hcY, -, hlY, -, -, -, -⟩ := Cond.code_spec hn h2
  obtain ⟨kY, hkY, -⟩ := className_of_methodNamed hn
  have hinitY : kY.init = .initialized := Cond.initialized_spec (findClass_of_methodNamed hn) hkY h3
  have h : At U g.method c below := by rw [hg]; exact X.here
  have hlocals9 : W9 + (maxL + 11) + (headSpec ws rm).room.locals ≤ R.locals := hlocals
  have happ : (headSpec ws rm).appliesLoose y e.platform (U.calling g mk a) = true :=
    Spec.appliesLoose_calling (g := g) h hdg hn hkY hinitY
      (X.room_calling (g := g) (R' := (headSpec ws rm).room) hsize hmY hcY hframes (by rw [hlY]; omega) h4 h5) h1
  obtain ⟨mid, hmid⟩ := h.above
  have hfr : (U.setTop g).frames = (.java g :: mid) ++ below := by rw [State.frames_setTop' g h.top, hmid]; rfl
  obtain ⟨o, s₂, hsteps, -, hend, hq⟩ := Steps.callFree hM p X.admits X.cas X.clock (acts := []) hfr happ hPc trivial
  have hq' : vx_Q Qc XC mc ms free a (U.calling g mk a) o s₂ := hq
  rw [State.frames_setTop' g h.top] at hend
  obtain ⟨g₀, hg0⟩ := Option.isSome_iff_exists.mp h.top
  obtain ⟨r, hr⟩ := State.topJava?_eq_some.mp hg0
  have hr' : (({ U with heap := s₂.heap, slotsUsed := s₂.slotsUsed } : State).setVm s₂.vm).frames = .java g₀ :: r := hr
  rcases hq' with ⟨hqc, L, hfe, hL⟩ | ⟨q, rfl, E, ce, L, hx, hce, hcv, hcl, hW₂, hsm, hL⟩
  · obtain ⟨⟨v, rfl⟩, hW₂, e2, q2, q3, q4, q5, q6⟩ := id hfe
    have e3 : s₂ = ({ (U.calling g mk a).setFrames s₂.frames with heap := s₂.heap, slotsUsed := s₂.slotsUsed } : State).setVm s₂.vm := by
      have : s₂ = ({ s₂ with vm := (U.calling g mk a).vm } : State).setVm s₂.vm := rfl
      rw [e2] at this
      exact this
    obtain ⟨c₂, i₂, len₂, hc₂, hd₂, hf₂⟩ := hend
    have hW' : U.WarmedH s₂.vm := hW₂
    have hcc : c₂ = c := by
      have h1 : s₂.code? g.method = U.code? g.method := by
        rw [State.code?_eq, State.code?_eq, hW'.alike.method?]
      exact Option.some.inj (hc₂.symm.trans (h1.trans h.code))
    subst hcc
    have hlen : len₂ = len := by rw [hdg] at hd₂; cases hd₂; rfl
    subst hlen
    have hs₂ : s₂ = (({ U with heap := s₂.heap, slotsUsed := s₂.slotsUsed } : State).setVm s₂.vm).setTop { g with pc := g.pc + len₂, stack := v.toList ++ g.stack } := by
      refine e3.trans ?_
      rw [hf₂, State.calling_eq h.top, State.setFrames_setFrames, State.setTop_of_frames _ hr', hr]
      rfl
    have hsame : U.sameButNew ({ U with heap := s₂.heap, slotsUsed := s₂.slotsUsed } : State) L mc ms := by
      refine ⟨?_, q2, q3, q4, q5, q6⟩
      obtain ⟨t, ht, -⟩ := State.frames_cons hr
      show ({ U with heap := s₂.heap, slotsUsed := s₂.slotsUsed } : State) = { U.setFrames U.frames with heap := s₂.heap, slotsUsed := s₂.slotsUsed }
      rw [State.setFrames_self ht]
    subst hg
    refine Or.inl ⟨v, ⟨(({ U with heap := s₂.heap, slotsUsed := s₂.slotsUsed } : State).setVm s₂.vm), Ls ++ L, c0 + mc, s0 + ms⟩,
      ⟨X.admits, X.cas, X.clock, X.frames, X.room, X.hears, X.method, X.code, (X.here.setHeapUsed s₂.heap s₂.slotsUsed).setVm hW'.alike, X.tail, State.WarmedH.trans X.warmed hW', X.limits, X.bytes, X.same.trans (hsame.setVm s.vm)⟩,
      ⟨g, mk, s₂, L, rfl, rfl, hqc, rfl, hL, rfl, rfl⟩, ?_⟩
    show Steps p.tables e below _ ((({ U with heap := s₂.heap, slotsUsed := s₂.slotsUsed } : State).setVm s₂.vm).setTop { g with pc := g.pc + len₂, stack := v.toList ++ g.stack })
    rw [← hs₂]
    exact hsteps
  · obtain ⟨e2, q2, q3, q4, q5, q6⟩ := id hsm
    have e3 : s₂ = ({ (U.calling g mk a).setFrames s₂.frames with heap := s₂.heap, slotsUsed := s₂.slotsUsed } : State).setVm s₂.vm := by
      have : s₂ = ({ s₂ with vm := (U.calling g mk a).vm } : State).setVm s₂.vm := rfl
      rw [e2] at this
      exact this
    have hf₂ : s₂.frames = .throwing q :: .java g :: U.frames.tail := hend
    have hW' : U.WarmedH s₂.vm := hW₂
    have hs₂ : s₂ = ((({ U with heap := s₂.heap, slotsUsed := s₂.slotsUsed } : State).setVm s₂.vm).setTop g).pushFrame (.throwing q) := by
      refine e3.trans ?_
      rw [hf₂, State.calling_eq h.top, State.setFrames_setFrames, State.pushFrame, State.frames_setTop _ hr', State.setTop_of_frames _ hr', State.setFrames_setFrames, hr]
      rfl
    have hsame : U.sameButNew ({ U with heap := s₂.heap, slotsUsed := s₂.slotsUsed } : State) L mc ms := by
      refine ⟨?_, q2, q3, q4, q5, q6⟩
      obtain ⟨t, ht, -⟩ := State.frames_cons hr
      show ({ U with heap := s₂.heap, slotsUsed := s₂.slotsUsed } : State) = { U.setFrames U.frames with heap := s₂.heap, slotsUsed := s₂.slotsUsed }
      rw [State.setFrames_self ht]
    subst hg
    refine Or.inr ⟨q, ⟨(({ U with heap := s₂.heap, slotsUsed := s₂.slotsUsed } : State).setVm s₂.vm), Ls ++ L, c0 + mc, s0 + ms⟩,
      ⟨X.admits, X.cas, X.clock, X.frames, X.room, X.hears, X.method, X.code, (X.here.setHeapUsed s₂.heap s₂.slotsUsed).setVm hW'.alike, X.tail, State.WarmedH.trans X.warmed hW', X.limits, X.bytes, X.same.trans (hsame.setVm s.vm)⟩,
      ⟨g, mk, s₂, L, E, ce, rfl, rfl, hx, hce, hcv, hcl, rfl, hL, rfl, rfl⟩, ?_⟩
    show Steps p.tables e below _ (((({ U with heap := s₂.heap, slotsUsed := s₂.slotsUsed } : State).setVm s₂.vm).setTop g).pushFrame (.throwing q))
    rw [← hs₂]
    exact hsteps
end Payer
section Calls
variable {p : Program} {l : Launch} {e : Env} {R : Room} {s : State} {m : MethodId} {args : Array Value} {below : List Frame} {meth : Method} {c : Code} {T : State} {locs : List Loc} {cells slots : Nat}
theorem vx_callV (X : Stand p l e R s m args below meth c T locs cells slots) (hexec : p.tables.exec = Jvm.exec) {own C : String} {index : Nat} {y : MethodName} {bytes : ByteArray} {maxL : Nat} {ret : Option FieldType}
    (hown : s.vm.findClass own = some m.cls) (hlink : (Cond.methodLink own index y).before args s = true) (hinst : (Cond.instanceMethod y).before args s = true) (hsel : (Cond.selects C y y).before args s = true)
    (hcode : (Cond.code y bytes maxL ret).before args s = true) (hy : y.cls ≠ "java/lang/invoke/MethodHandle" ∧ y.cls ≠ "java/lang/invoke/VarHandle")
    {W9 : Nat} {Pre : Pt → Array Value → Prop} {Post : Pt → Array Value → Option Value → Pt → Prop} {PostX : Pt → Array Value → Addr → Pt → Prop} (hK : vx_Back l R p e below s args y 3 W9 Pre Post PostX)
    {b : Addr} {cellB : Cell} (hcell : T.heap[b]? = some cellB) (hobj : cellB.vm.isStatics = false) (hcls : s.vm.findClass C = some cellB.cls)
    {g : JFrame} (hg : g.method = m) (hsize : g.locals.size = c.maxLocals) {argsL rest : List Value} (hlen : ∀ sig, parseMethodDescriptor y.desc = some sig → argsL.length = sig.parameters.length)
    (hstack : g.stack = argsL.reverse ++ .ref b :: rest) (hW : 2 * g.monitorRoom + (rest.map fun v => v.category).sum ≤ W9) (hdg : decode c.code g.pc = .ok (.invokevirtual index, 3))
    (hpre : ∀ vm₁, s.WarmedH vm₁ → Pre ⟨T.setVm vm₁, locs, cells, slots⟩ (Value.ref b :: argsL).toArray) :
    (∃ (v : Option Value) (vm₁ : Vm) (B : Pt), s.WarmedH vm₁ ∧ Stand p l e R s m args below meth c B.U B.locs B.cells B.slots ∧ Post ⟨T.setVm vm₁, locs, cells, slots⟩ (Value.ref b :: argsL).toArray v B ∧
      ∀ target, Steps p.tables e below (B.U.setTop { g with pc := g.pc + 3, stack := v.toList ++ rest }) target → Steps p.tables e below (T.setTop g) target) ∨
    (∃ (q : Addr) (vm₁ : Vm) (B : Pt), s.WarmedH vm₁ ∧ Stand p l e R s m args below meth c B.U B.locs B.cells B.slots ∧ PostX ⟨T.setVm vm₁, locs, cells, slots⟩ (Value.ref b :: argsL).toArray q B ∧
      Steps p.tables e below (T.setTop g) ((B.U.setTop { g with stack := rest }).pushFrame (.throwing q))) := by
  obtain ⟨mk, methM, hnamed, hmethM, hstM, habM⟩ := Cond.instanceMethod_spec hinst
  obtain ⟨methM', cM, hmethM', -, -, -, -, -, -, hsigM⟩ := Cond.code_spec hnamed hcode
  cases hmethM.symm.trans hmethM'
  obtain ⟨c2, r2, m2, q1, q2, q3, q4, kP, hkP, hkPi⟩ := Cond.selects_spec hsel
  cases hcls.symm.trans q1
  cases (State.methodFound?_of_named hnamed hy).symm.trans q2
  cases hnamed.symm.trans q3
  have hselP : selectMethod e.platform s.vm cellB.cls mk = .method mk := by rw [Launch.admits_selectMethod X.admits]; exact q4
  obtain ⟨vm₁, X₁, hstep₁⟩ := X.invokevirtual hexec hown hlink hnamed hmethM hstM hkP hkPi hy (a := b) (cell := cellB) hcell
    (fun z h => by rw [h] at hobj; cases hobj) hselP hmethM habM hkP hkPi (g := g) hg (argsL := argsL) (rest := rest) (hlen _ hsigM) hstack hdg
  rcases hK m meth c ⟨T.setVm vm₁, locs, cells, slots⟩ { g with stack := rest } (.invokevirtual index) mk (Value.ref b :: argsL).toArray X₁ hg hsize hdg hW (X₁.named hnamed) (hpre vm₁ X₁.warmed) with ⟨v, B, X', hpost, hsteps⟩ | ⟨q, B, X', hpost, hsteps⟩
  · exact Or.inl ⟨v, vm₁, B, X₁.warmed, X', hpost, fun target h => hstep₁ _ fun acts => by rw [doInvoke_state]; exact hsteps.trans h⟩
  · exact Or.inr ⟨q, vm₁, B, X₁.warmed, X', hpost, hstep₁ _ fun acts => by rw [doInvoke_state]; exact hsteps⟩
theorem vx_callS (X : Stand p l e R s m args below meth c T locs cells slots) (hexec : p.tables.exec = Jvm.exec) {own : String} {index : Nat} {y : MethodName} {bytes : ByteArray} {maxL : Nat} {ret : Option FieldType}
    (hown : s.vm.findClass own = some m.cls) (hlink : (Cond.methodLink own index y).before args s = true) (hstat : (Cond.static y).before args s = true) (hinit : (Cond.initialized y.cls).before args s = true)
    (hcode : (Cond.code y bytes maxL ret).before args s = true) (hy : y.cls ≠ "java/lang/invoke/MethodHandle" ∧ y.cls ≠ "java/lang/invoke/VarHandle")
    {W9 : Nat} {Pre : Pt → Array Value → Prop} {Post : Pt → Array Value → Option Value → Pt → Prop} {PostX : Pt → Array Value → Addr → Pt → Prop} (hK : vx_Back l R p e below s args y 3 W9 Pre Post PostX)
    {g : JFrame} (hg : g.method = m) (hsize : g.locals.size = c.maxLocals) {argsL rest : List Value} (hlen : ∀ sig, parseMethodDescriptor y.desc = some sig → argsL.length = sig.parameters.length)
    (hstack : g.stack = argsL.reverse ++ rest) (hW : 2 * g.monitorRoom + (rest.map fun v => v.category).sum ≤ W9) (hdg : decode c.code g.pc = .ok (.invokestatic index, 3))
    (hpre : ∀ vm₁, s.WarmedH vm₁ → Pre ⟨T.setVm vm₁, locs, cells, slots⟩ argsL.toArray) :
    (∃ (v : Option Value) (vm₁ : Vm) (B : Pt), s.WarmedH vm₁ ∧ Stand p l e R s m args below meth c B.U B.locs B.cells B.slots ∧ Post ⟨T.setVm vm₁, locs, cells, slots⟩ argsL.toArray v B ∧
      ∀ target, Steps p.tables e below (B.U.setTop { g with pc := g.pc + 3, stack := v.toList ++ rest }) target → Steps p.tables e below (T.setTop g) target) ∨
    (∃ (q : Addr) (vm₁ : Vm) (B : Pt), s.WarmedH vm₁ ∧ Stand p l e R s m args below meth c B.U B.locs B.cells B.slots ∧ PostX ⟨T.setVm vm₁, locs, cells, slots⟩ argsL.toArray q B ∧
      Steps p.tables e below (T.setTop g) ((B.U.setTop { g with stack := rest }).pushFrame (.throwing q))) := by
  obtain ⟨mk, hnamed⟩ := Cond.code_named hcode
  obtain ⟨methM, cM, hmethM, -, -, -, -, -, -, hsigM⟩ := Cond.code_spec hnamed hcode
  have hstatic : methM.isStatic = true := Cond.static_spec hnamed hmethM hstat
  obtain ⟨kP, hkP, -⟩ := className_of_methodNamed hnamed
  have hinitP : kP.init = .initialized := Cond.initialized_spec (findClass_of_methodNamed hnamed) hkP hinit
  obtain ⟨vm₁, X₁, hstep₁⟩ := X.invokestatic hexec hown hlink hnamed hmethM hstatic hkP hinitP hy (g := g) hg (argsL := argsL) (rest := rest) (hlen _ hsigM) hstack hdg
  rcases hK m meth c ⟨T.setVm vm₁, locs, cells, slots⟩ { g with stack := rest } (.invokestatic index) mk argsL.toArray X₁ hg hsize hdg hW (X₁.named hnamed) (hpre vm₁ X₁.warmed) with ⟨v, B, X', hpost, hsteps⟩ | ⟨q, B, X', hpost, hsteps⟩
  · exact Or.inl ⟨v, vm₁, B, X₁.warmed, X', hpost, fun target h => hstep₁ _ fun acts => by rw [doInvoke_state]; exact hsteps.trans h⟩
  · exact Or.inr ⟨q, vm₁, B, X₁.warmed, X', hpost, hstep₁ _ fun acts => by rw [doInvoke_state]; exact hsteps⟩
end Calls
theorem vx_cls {s : State} {T : State} {vm₁ : Vm} {E : String} {k : ClassId} (hW : s.WarmedH vm₁) (h : (T.setVm vm₁).vm.findClass E = some k) : s.vm.findClass E = some k := by
  have h1 : vm₁.findClass E = some k := h
  rw [hW.alike.findClass] at h1
  exact h1
/-- the method's frame g, with q thrown over it -/
def vx_W (p : Program) (l : Launch) (e : Env) (R : Room) (s : State) (m : MethodId) (args : Array Value) (below : List Frame) (meth : Method) (c : Code) (H : Heap) (locs : List Loc) (cells slots : Nat) (Q : State → Prop) (g : JFrame) (q : Addr) : Prop :=
  ∀ T : State, T.heap = H → Stand p l e R s m args below meth c T locs cells slots → ∃ t, Steps p.tables e below ((T.setTop g).pushFrame (.throwing q)) t ∧ Q t
def vx_Run (p : Program) (l : Launch) (e : Env) (R : Room) (s : State) (m : MethodId) (args : Array Value) (below : List Frame) (meth : Method) (c : Code) (H : Heap) (locs : List Loc) (cells slots mc ms : Nat) (g : JFrame) (rest : List Value) (Qa : State → Outcome → State → Prop) (XC : String → State → State → Prop) (free : Addr → Prop) : Prop :=
  ∀ T : State, T.heap = H → Stand p l e R s m args below meth c T locs cells slots →
    (∃ (v : Option Value) (st₀ t T' : State) (L : List Loc), st₀.heap = H ∧ Stand p l e R s m args below meth c T' (locs ++ L) (cells + mc) (slots + ms) ∧ (∀ q ∈ L, free q.base) ∧ T'.heap = t.heap ∧ T'.vm = t.vm ∧ Qa st₀ (.returned v) t ∧
      Goes p e below T g T' { g with pc := g.pc + 3, stack := v.toList ++ rest }) ∨
    (∃ (q : Addr) (st₀ t T' : State) (L : List Loc) (E : String) (ce : Cell), st₀.heap = H ∧ Stand p l e R s m args below meth c T' (locs ++ L) (cells + mc) (slots + ms) ∧ (∀ z ∈ L, free z.base) ∧ T'.heap = t.heap ∧ T'.vm = t.vm ∧ XC E st₀ t ∧ t.heap[q]? = some ce ∧ ce.vm = .none ∧ s.vm.findClass E = some ce.cls ∧
      Steps p.tables e below (T.setTop g) ((T'.setTop { g with stack := rest }).pushFrame (.throwing q)))
def vx_X {S : Type} (px : S → Prop) (B : String → S → State → Prop) (A : Nat → Prop) : String → State → State → Prop := fun E st t => ∃ u : S, px u ∧ B E u t ∧ va_F A st t
section Runs
variable {p : Program} {l : Launch} {e : Env} {R : Room} {s : State} {m : MethodId} {args : Array Value} {below : List Frame} {meth : Method} {c : Code} {H : Heap} {locs : List Loc} {cells slots : Nat}
variable {y : MethodName} {bytes cc : ByteArray} {maxL nL mc ms n index : Nat} {ret : Option FieldType} {ws : List Cond} {rm : Room} {Pc : Array Value → State → Prop} {Qc : Array Value → State → Outcome → State → Prop} {XC : String → State → State → Prop} {free : Addr → Prop} {Ts : List Cond} {own C : String} {b : Addr} {As rest : List Value} {g : JFrame}
theorem vx_callBack (cb : CallB R s args own index y bytes maxL ret ws rm mc ms n) (hM : vx_Met l y ws rm Pc Qc XC mc ms free) (hbl : FrameBlind Pc) : vx_Back l R p e below s args y 3 8 (PreOf R mc ms Pc) (PostOf Qc mc ms free) (vx_Post XC mc ms free) := by
  obtain ⟨hrc, hrs, hfr, hlo, hws, hcw, -, hini, -⟩ := cb
  exact vx_back (bytes := bytes) (maxL := maxL) (ret := ret) hM hbl hrc hrs hfr hlo hws hcw (fun a' U hW => word_at hW (Or.inl (by first | rfl | simp [Cond.onTables, Cond.keeps, Cond.steady])) hini)
theorem vx_runV (S : CallFix p m c cc nL s args Ts own) (hM : vx_Met l y ws rm Pc Qc XC mc ms free) (cw : CallW R s args own C index y bytes maxL ret ws rm mc ms n) (hp : PreV s H C b Pc As)
    (hg : g.method = m) (hn : As.length = n) (hsize : g.locals.size = nL) (hstack : g.stack = As.reverse ++ .ref b :: rest) (hW : 2 * g.monitorRoom + (rest.map fun v => v.category).sum ≤ 8) (hdg : decode cc g.pc = .ok (.invokevirtual index, 3)) (hf : cells + mc ≤ R.cells ∧ slots + ms ≤ R.slots) :
    vx_Run p l e R s m args below meth c H locs cells slots mc ms g rest (Qc (Value.ref b :: As).toArray) XC free := by
  have hK : vx_Back l R p e below s args y 3 8 (PreOf R mc ms Pc) (PostOf Qc mc ms free) (vx_Post XC mc ms free) := vx_callBack cw.1 hM hp.1
  obtain ⟨⟨-, -, -, -, -, -, hcode, -, hy, hlen, hl⟩, hin, hse⟩ := cw
  obtain ⟨hx, hb, hml, ho, -⟩ := S
  obtain ⟨-, ⟨cellB, hcB, hoB, hclB⟩, hPc⟩ := hp
  intro T hT X
  rcases vx_callV X hx (C := C) (bytes := bytes) (maxL := maxL) (ret := ret) ho hl hin hse hcode hy hK (by rw [hT]; exact hcB) hoB hclB hg (hsize.trans hml.symm) (argsL := As) (rest := rest) (fun sig h => hn.trans (hlen sig h)) hstack hW (by rw [hb]; exact hdg)
    (fun vm₁ hW₁ => ⟨hf.1, hf.2, hPc (T.setVm vm₁) hT hW₁⟩) with ⟨v, vm₁, ⟨U', l2, c2, s2⟩, hW₁, X', ⟨g', mk, t, L, e1, e2, hq, h1, hL, h2, h3⟩, st⟩ | ⟨q, vm₁, ⟨U', l2, c2, s2⟩, hW₁, X', ⟨g', mk, t, L, E, ce, e1, e2, hq, hce, hcv, hcl, h1, hL, h2, h3⟩, st⟩
  · dsimp only [Pt.U, Pt.locs, Pt.cells, Pt.slots] at X' e1 e2 h1 h2 h3 st
    subst h1; subst h2; subst h3
    exact Or.inl ⟨v, (T.setVm vm₁).calling g' mk (Value.ref b :: As).toArray, t, U', L, hT, X', hL, e1, e2, hq, st⟩
  · dsimp only [Pt.U, Pt.locs, Pt.cells, Pt.slots] at X' e1 e2 h1 h2 h3 st hcl
    subst h1; subst h2; subst h3
    exact Or.inr ⟨q, (T.setVm vm₁).calling g' mk (Value.ref b :: As).toArray, t, U', L, E, ce, hT, X', hL, e1, e2, hq, hce, hcv, vx_cls hW₁ hcl, st⟩
theorem vx_runS (S : CallFix p m c cc nL s args Ts own) (hM : vx_Met l y ws rm Pc Qc XC mc ms free) (cw : CallB R s args own index y bytes maxL ret ws rm mc ms n ∧ (Cond.static y).before args s = true) (hp : PreS s H Pc As)
    (hg : g.method = m) (hn : As.length = n) (hsize : g.locals.size = nL) (hstack : g.stack = As.reverse ++ rest) (hW : 2 * g.monitorRoom + (rest.map fun v => v.category).sum ≤ 8) (hdg : decode cc g.pc = .ok (.invokestatic index, 3)) (hf : cells + mc ≤ R.cells ∧ slots + ms ≤ R.slots) :
    vx_Run p l e R s m args below meth c H locs cells slots mc ms g rest (Qc As.toArray) XC free := by
  have hK : vx_Back l R p e below s args y 3 8 (PreOf R mc ms Pc) (PostOf Qc mc ms free) (vx_Post XC mc ms free) := vx_callBack cw.1 hM hp.1
  obtain ⟨⟨-, -, -, -, -, -, hcode, hini, hy, hlen, hl⟩, hstt⟩ := cw
  obtain ⟨hx, hb, hml, ho, -⟩ := S
  intro T hT X
  rcases vx_callS X hx (bytes := bytes) (maxL := maxL) (ret := ret) ho hl hstt hini hcode hy hK hg (hsize.trans hml.symm) (argsL := As) (rest := rest) (fun sig h => hn.trans (hlen sig h)) hstack hW (by rw [hb]; exact hdg)
    (fun vm₁ hW₁ => ⟨hf.1, hf.2, hp.2 (T.setVm vm₁) hT hW₁⟩) with ⟨v, vm₁, ⟨U', l2, c2, s2⟩, hW₁, X', ⟨g', mk, t, L, e1, e2, hq, h1, hL, h2, h3⟩, st⟩ | ⟨q, vm₁, ⟨U', l2, c2, s2⟩, hW₁, X', ⟨g', mk, t, L, E, ce, e1, e2, hq, hce, hcv, hcl, h1, hL, h2, h3⟩, st⟩
  · dsimp only [Pt.U, Pt.locs, Pt.cells, Pt.slots] at X' e1 e2 h1 h2 h3 st
    subst h1; subst h2; subst h3
    exact Or.inl ⟨v, (T.setVm vm₁).calling g' mk As.toArray, t, U', L, hT, X', hL, e1, e2, hq, st⟩
  · dsimp only [Pt.U, Pt.locs, Pt.cells, Pt.slots] at X' e1 e2 h1 h2 h3 st hcl
    subst h1; subst h2; subst h3
    exact Or.inr ⟨q, (T.setVm vm₁).calling g' mk As.toArray, t, U', L, E, ce, hT, X', hL, e1, e2, hq, hce, hcv, vx_cls hW₁ hcl, st⟩
end Runs
section Rows
variable {p : Program} {l : Launch} {e : Env} {R : Room} {s : State} {m : MethodId} {args : Array Value} {below : List Frame} {meth : Method} {c : Code} {H : Heap} {locs : List Loc} {cells slots : Nat} {Q : State → Prop}
variable {mc ms : Nat} {free : Addr → Prop} {A0 A1 : Nat → Prop} {H0 : Heap} {a : Array Value} {pc : Nat} {ls : Array Slot} {st0 rest : List Value}
theorem vx_keep {st₀ t T' : State} {L : List Loc} (h0 : st₀.heap = H) (e1 : T'.heap = t.heap) (hS : va_S A0 H0 H locs) (hA : ∀ q, q < H.size → A1 q → A0 q) (hf : ∀ q, free q → A0 q) (hL : ∀ q ∈ L, free q.base) (hF : va_F A1 st₀ t) :
    H.size ≤ T'.heap.size ∧ (∀ q : Nat, q < H.size → ¬ A1 q → T'.heap[q]? = H[q]?) ∧ va_S A0 H0 T'.heap (locs ++ L) := by
  obtain ⟨hz, hk⟩ := hF
  rw [h0] at hz hk
  exact ⟨by rw [e1]; exact hz, fun q h1 h2 => by rw [e1]; exact hk q h1 h2,
    ⟨Nat.le_trans hS.1 (by rw [e1]; exact hz), fun q h1 h2 => by rw [e1, hk q (Nat.lt_of_lt_of_le h1 hS.1) (fun z => h2 (hA q (Nat.lt_of_lt_of_le h1 hS.1) z))]; exact hS.2.1 q h1 h2, fun q hq => by
      rcases List.mem_append.mp hq with h | h
      · exact hS.2.2 q h
      · exact hf _ (hL q h)⟩⟩
theorem vx_calli {S SX : Type} {post : Int32 → S → Prop} {px : SX → Prop} {B : S → State → Prop} {BX : String → SX → State → Prop} {AX : Nat → Prop} (hr : vx_Run p l e R s m args below meth c H locs cells slots mc ms (F0 m pc ls st0) rest (va_Qi post B A1 a) (vx_X px BX AX) free) (hS : va_S A0 H0 H locs) (hA : ∀ q, q < H.size → A1 q → A0 q) (hf : ∀ q, free q → A0 q) (hAX : ∀ q, q < H.size → AX q → A0 q)
    (kx : ∀ (E : String) (ce : Cell) (q9 : Addr) (u : SX) (t : State) (H1 : Heap) (locs1 : List Loc), t.heap = H1 → s.vm.Alike t.vm → px u → BX E u t → H.size ≤ H1.size → (∀ q : Nat, q < H.size → ¬ AX q → H1[q]? = H[q]?) → va_S A0 H0 H1 locs1 → H1[q9]? = some ce → ce.vm = .none → s.vm.findClass E = some ce.cls → vx_W p l e R s m args below meth c H1 locs1 (cells + mc) (slots + ms) Q (F0 m pc ls rest) q9)
    (kk : ∀ (r : Int32) (u : S) (t : State) (H1 : Heap) (locs1 : List Loc), t.heap = H1 → s.vm.Alike t.vm → post r u → B u t → H.size ≤ H1.size → (∀ q : Nat, q < H.size → ¬ A1 q → H1[q]? = H[q]?) → va_S A0 H0 H1 locs1 → W p l e R s m args below meth c H1 locs1 (cells + mc) (slots + ms) Q (F0 m (pc + 3) ls (.int r :: rest))) : W p l e R s m args below meth c H locs cells slots Q (F0 m pc ls st0) := by
  intro T hT X
  rcases hr T hT X with ⟨v, st₀, t, T', L, h0, X', hL, e1, e2, ⟨⟨r, u, hv, hp, hb⟩, hF⟩, st⟩ | ⟨q, st₀, t, T', L, E, ce, h0, X', hL, e1, e2, ⟨u, hp, hb, hF⟩, hce, hcv, hcl, st⟩
  · cases hv
    obtain ⟨k1, k2, k3⟩ := vx_keep h0 e1 hS hA hf hL hF
    obtain ⟨t2, a1, b1⟩ := kk r u t T'.heap (locs ++ L) e1.symm (by rw [← e2]; exact X'.warmed.alike) hp hb k1 k2 k3 T' rfl X'
    exact ⟨t2, st t2 a1, b1⟩
  · obtain ⟨k1, k2, k3⟩ := vx_keep h0 e1 hS hAX hf hL hF
    obtain ⟨t2, a1, b1⟩ := kx E ce q u t T'.heap (locs ++ L) e1.symm (by rw [← e2]; exact X'.warmed.alike) hp hb k1 k2 k3 (by rw [e1]; exact hce) hcv hcl T' rfl X'
    exact ⟨t2, st.trans a1, b1⟩
theorem vx_calll {S SX : Type} {post : Int64 → S → Prop} {px : SX → Prop} {B : S → State → Prop} {BX : String → SX → State → Prop} {AX : Nat → Prop} (hr : vx_Run p l e R s m args below meth c H locs cells slots mc ms (F0 m pc ls st0) rest (va_Ql post B A1 a) (vx_X px BX AX) free) (hS : va_S A0 H0 H locs) (hA : ∀ q, q < H.size → A1 q → A0 q) (hf : ∀ q, free q → A0 q) (hAX : ∀ q, q < H.size → AX q → A0 q)
    (kx : ∀ (E : String) (ce : Cell) (q9 : Addr) (u : SX) (t : State) (H1 : Heap) (locs1 : List Loc), t.heap = H1 → s.vm.Alike t.vm → px u → BX E u t → H.size ≤ H1.size → (∀ q : Nat, q < H.size → ¬ AX q → H1[q]? = H[q]?) → va_S A0 H0 H1 locs1 → H1[q9]? = some ce → ce.vm = .none → s.vm.findClass E = some ce.cls → vx_W p l e R s m args below meth c H1 locs1 (cells + mc) (slots + ms) Q (F0 m pc ls rest) q9)
    (kk : ∀ (r : Int64) (u : S) (t : State) (H1 : Heap) (locs1 : List Loc), t.heap = H1 → s.vm.Alike t.vm → post r u → B u t → H.size ≤ H1.size → (∀ q : Nat, q < H.size → ¬ A1 q → H1[q]? = H[q]?) → va_S A0 H0 H1 locs1 → W p l e R s m args below meth c H1 locs1 (cells + mc) (slots + ms) Q (F0 m (pc + 3) ls (.long r :: rest))) : W p l e R s m args below meth c H locs cells slots Q (F0 m pc ls st0) := by
  intro T hT X
  rcases hr T hT X with ⟨v, st₀, t, T', L, h0, X', hL, e1, e2, ⟨⟨r, u, hv, hp, hb⟩, hF⟩, st⟩ | ⟨q, st₀, t, T', L, E, ce, h0, X', hL, e1, e2, ⟨u, hp, hb, hF⟩, hce, hcv, hcl, st⟩
  · cases hv
    obtain ⟨k1, k2, k3⟩ := vx_keep h0 e1 hS hA hf hL hF
    obtain ⟨t2, a1, b1⟩ := kk r u t T'.heap (locs ++ L) e1.symm (by rw [← e2]; exact X'.warmed.alike) hp hb k1 k2 k3 T' rfl X'
    exact ⟨t2, st t2 a1, b1⟩
  · obtain ⟨k1, k2, k3⟩ := vx_keep h0 e1 hS hAX hf hL hF
    obtain ⟨t2, a1, b1⟩ := kx E ce q u t T'.heap (locs ++ L) e1.symm (by rw [← e2]; exact X'.warmed.alike) hp hb k1 k2 k3 (by rw [e1]; exact hce) hcv hcl T' rfl X'
    exact ⟨t2, st.trans a1, b1⟩
theorem vx_callf {S SX : Type} {post : UInt32 → S → Prop} {px : SX → Prop} {B : S → State → Prop} {BX : String → SX → State → Prop} {AX : Nat → Prop} (hr : vx_Run p l e R s m args below meth c H locs cells slots mc ms (F0 m pc ls st0) rest (va_Qf post B A1 a) (vx_X px BX AX) free) (hS : va_S A0 H0 H locs) (hA : ∀ q, q < H.size → A1 q → A0 q) (hf : ∀ q, free q → A0 q) (hAX : ∀ q, q < H.size → AX q → A0 q)
    (kx : ∀ (E : String) (ce : Cell) (q9 : Addr) (u : SX) (t : State) (H1 : Heap) (locs1 : List Loc), t.heap = H1 → s.vm.Alike t.vm → px u → BX E u t → H.size ≤ H1.size → (∀ q : Nat, q < H.size → ¬ AX q → H1[q]? = H[q]?) → va_S A0 H0 H1 locs1 → H1[q9]? = some ce → ce.vm = .none → s.vm.findClass E = some ce.cls → vx_W p l e R s m args below meth c H1 locs1 (cells + mc) (slots + ms) Q (F0 m pc ls rest) q9)
    (kk : ∀ (r : UInt32) (u : S) (t : State) (H1 : Heap) (locs1 : List Loc), t.heap = H1 → s.vm.Alike t.vm → post r u → B u t → H.size ≤ H1.size → (∀ q : Nat, q < H.size → ¬ A1 q → H1[q]? = H[q]?) → va_S A0 H0 H1 locs1 → W p l e R s m args below meth c H1 locs1 (cells + mc) (slots + ms) Q (F0 m (pc + 3) ls (.float r :: rest))) : W p l e R s m args below meth c H locs cells slots Q (F0 m pc ls st0) := by
  intro T hT X
  rcases hr T hT X with ⟨v, st₀, t, T', L, h0, X', hL, e1, e2, ⟨⟨r, u, hv, hp, hb⟩, hF⟩, st⟩ | ⟨q, st₀, t, T', L, E, ce, h0, X', hL, e1, e2, ⟨u, hp, hb, hF⟩, hce, hcv, hcl, st⟩
  · cases hv
    obtain ⟨k1, k2, k3⟩ := vx_keep h0 e1 hS hA hf hL hF
    obtain ⟨t2, a1, b1⟩ := kk r u t T'.heap (locs ++ L) e1.symm (by rw [← e2]; exact X'.warmed.alike) hp hb k1 k2 k3 T' rfl X'
    exact ⟨t2, st t2 a1, b1⟩
  · obtain ⟨k1, k2, k3⟩ := vx_keep h0 e1 hS hAX hf hL hF
    obtain ⟨t2, a1, b1⟩ := kx E ce q u t T'.heap (locs ++ L) e1.symm (by rw [← e2]; exact X'.warmed.alike) hp hb k1 k2 k3 (by rw [e1]; exact hce) hcv hcl T' rfl X'
    exact ⟨t2, st.trans a1, b1⟩
theorem vx_calld {S SX : Type} {post : UInt64 → S → Prop} {px : SX → Prop} {B : S → State → Prop} {BX : String → SX → State → Prop} {AX : Nat → Prop} (hr : vx_Run p l e R s m args below meth c H locs cells slots mc ms (F0 m pc ls st0) rest (va_Qd post B A1 a) (vx_X px BX AX) free) (hS : va_S A0 H0 H locs) (hA : ∀ q, q < H.size → A1 q → A0 q) (hf : ∀ q, free q → A0 q) (hAX : ∀ q, q < H.size → AX q → A0 q)
    (kx : ∀ (E : String) (ce : Cell) (q9 : Addr) (u : SX) (t : State) (H1 : Heap) (locs1 : List Loc), t.heap = H1 → s.vm.Alike t.vm → px u → BX E u t → H.size ≤ H1.size → (∀ q : Nat, q < H.size → ¬ AX q → H1[q]? = H[q]?) → va_S A0 H0 H1 locs1 → H1[q9]? = some ce → ce.vm = .none → s.vm.findClass E = some ce.cls → vx_W p l e R s m args below meth c H1 locs1 (cells + mc) (slots + ms) Q (F0 m pc ls rest) q9)
    (kk : ∀ (r : UInt64) (u : S) (t : State) (H1 : Heap) (locs1 : List Loc), t.heap = H1 → s.vm.Alike t.vm → post r u → B u t → H.size ≤ H1.size → (∀ q : Nat, q < H.size → ¬ A1 q → H1[q]? = H[q]?) → va_S A0 H0 H1 locs1 → W p l e R s m args below meth c H1 locs1 (cells + mc) (slots + ms) Q (F0 m (pc + 3) ls (.double r :: rest))) : W p l e R s m args below meth c H locs cells slots Q (F0 m pc ls st0) := by
  intro T hT X
  rcases hr T hT X with ⟨v, st₀, t, T', L, h0, X', hL, e1, e2, ⟨⟨r, u, hv, hp, hb⟩, hF⟩, st⟩ | ⟨q, st₀, t, T', L, E, ce, h0, X', hL, e1, e2, ⟨u, hp, hb, hF⟩, hce, hcv, hcl, st⟩
  · cases hv
    obtain ⟨k1, k2, k3⟩ := vx_keep h0 e1 hS hA hf hL hF
    obtain ⟨t2, a1, b1⟩ := kk r u t T'.heap (locs ++ L) e1.symm (by rw [← e2]; exact X'.warmed.alike) hp hb k1 k2 k3 T' rfl X'
    exact ⟨t2, st t2 a1, b1⟩
  · obtain ⟨k1, k2, k3⟩ := vx_keep h0 e1 hS hAX hf hL hF
    obtain ⟨t2, a1, b1⟩ := kx E ce q u t T'.heap (locs ++ L) e1.symm (by rw [← e2]; exact X'.warmed.alike) hp hb k1 k2 k3 (by rw [e1]; exact hce) hcv hcl T' rfl X'
    exact ⟨t2, st.trans a1, b1⟩
theorem vx_callv {S SX : Type} {post : S → Prop} {px : SX → Prop} {B : S → State → Prop} {BX : String → SX → State → Prop} {AX : Nat → Prop} (hr : vx_Run p l e R s m args below meth c H locs cells slots mc ms (F0 m pc ls st0) rest (va_Qv post B A1 a) (vx_X px BX AX) free) (hS : va_S A0 H0 H locs) (hA : ∀ q, q < H.size → A1 q → A0 q) (hf : ∀ q, free q → A0 q) (hAX : ∀ q, q < H.size → AX q → A0 q)
    (kx : ∀ (E : String) (ce : Cell) (q9 : Addr) (u : SX) (t : State) (H1 : Heap) (locs1 : List Loc), t.heap = H1 → s.vm.Alike t.vm → px u → BX E u t → H.size ≤ H1.size → (∀ q : Nat, q < H.size → ¬ AX q → H1[q]? = H[q]?) → va_S A0 H0 H1 locs1 → H1[q9]? = some ce → ce.vm = .none → s.vm.findClass E = some ce.cls → vx_W p l e R s m args below meth c H1 locs1 (cells + mc) (slots + ms) Q (F0 m pc ls rest) q9)
    (kk : ∀ (u : S) (t : State) (H1 : Heap) (locs1 : List Loc), t.heap = H1 → s.vm.Alike t.vm → post u → B u t → H.size ≤ H1.size → (∀ q : Nat, q < H.size → ¬ A1 q → H1[q]? = H[q]?) → va_S A0 H0 H1 locs1 → W p l e R s m args below meth c H1 locs1 (cells + mc) (slots + ms) Q (F0 m (pc + 3) ls (rest))) : W p l e R s m args below meth c H locs cells slots Q (F0 m pc ls st0) := by
  intro T hT X
  rcases hr T hT X with ⟨v, st₀, t, T', L, h0, X', hL, e1, e2, ⟨⟨u, hv, hp, hb⟩, hF⟩, st⟩ | ⟨q, st₀, t, T', L, E, ce, h0, X', hL, e1, e2, ⟨u, hp, hb, hF⟩, hce, hcv, hcl, st⟩
  · cases hv
    obtain ⟨k1, k2, k3⟩ := vx_keep h0 e1 hS hA hf hL hF
    obtain ⟨t2, a1, b1⟩ := kk u t T'.heap (locs ++ L) e1.symm (by rw [← e2]; exact X'.warmed.alike) hp hb k1 k2 k3 T' rfl X'
    exact ⟨t2, st t2 a1, b1⟩
  · obtain ⟨k1, k2, k3⟩ := vx_keep h0 e1 hS hAX hf hL hF
    obtain ⟨t2, a1, b1⟩ := kx E ce q u t T'.heap (locs ++ L) e1.symm (by rw [← e2]; exact X'.warmed.alike) hp hb k1 k2 k3 (by rw [e1]; exact hce) hcv hcl T' rfl X'
    exact ⟨t2, st.trans a1, b1⟩
/-- caught by the row x of this method's table; the rows ahead don't take it -/
theorem vx_catch {own name : String} {E : String} {ce : Cell} {q : Addr} (hown : s.vm.findClass own = some m.cls) (pre : List ExceptionTableEntry) (x : ExceptionTableEntry) (suf : List ExceptionTableEntry) (hsplit : c.exceptionTable.toList = pre ++ x :: suf)
    (hpass : ∀ z ∈ pre, covers z pc = false ∨ (z.catchType ≠ 0 ∧ ∃ nm : String, (Cond.classLink own z.catchType nm).before args s = true ∧ va_Nc E nm s)) (hx : covers x pc = true) (h0 : x.catchType ≠ 0)
    (hlink : (Cond.classLink own x.catchType name).before args s = true) (hcast : (Cond.castable E name).before args s = true) (hcell : H[q]? = some ce) (hv : ce.vm = .none) (hcl : s.vm.findClass E = some ce.cls)
    (kk : W p l e R s m args below meth c H locs cells slots Q (F0 m x.handlerPc ls [.ref q])) : vx_W p l e R s m args below meth c H locs cells slots Q (F0 m pc ls rest) q := by
  intro T hT X
  have hpl : e.platform.magicAccessors = ({} : Platform).magicAccessors := by rw [X.admits.platform]
  obtain ⟨c3, c4, hc3, hc4, hasg⟩ := Cond.castable_spec hcast
  cases Option.some.inj (hc3.symm.trans hcl)
  obtain ⟨c5, hc5, hcl5⟩ := Cond.classLink_spec hown hlink e.platform hpl
  cases Option.some.inj (hc4.symm.trans hc5)
  obtain ⟨vm', X', st⟩ := X.thenCaughtThrough q (g := F0 m pc ls rest) rfl (Steps.refl _) (by rw [hT]; exact hcell) (by rw [hv]; rfl) (by obtain ⟨k9, h9, -⟩ := Vm.findClass_spec hcl; exact ⟨k9, h9⟩) pre x suf hsplit
    (fun z hz => by
      rcases hpass z hz with h | ⟨hz0, nm, hl1, hn1⟩
      · exact Or.inl h
      · obtain ⟨c6, hc6, hcl6⟩ := Cond.classLink_spec hown hl1 e.platform hpl
        obtain ⟨a8, b8, h1, h2, h3⟩ := hn1
        cases Option.some.inj (h1.symm.trans hcl)
        cases Option.some.inj (h2.symm.trans hc6)
        exact Or.inr ⟨hz0, _, hcl6, h3⟩) hx (Or.inr ⟨h0, c4, hcl5, hasg⟩)
  obtain ⟨t, a1, b1⟩ := kk (T.setVm vm') hT X'
  exact ⟨t, st.trans a1, b1⟩
end Rows
section Ends
variable {p : Program} {l : Launch} {e : Env} {R : Room} {s : State} {m : MethodId} {args : Array Value} {below : List Frame} {meth : Method} {c : Code} {H : Heap} {locs : List Loc} {cells slots : Nat} {Q : State → Prop}
variable {mc ms : Nat} {free : Addr → Prop} {A0 A1 : Nat → Prop} {H0 : Heap} {a : Array Value} {ls : Array Slot} {st0 rest : List Value}
variable {Qc : Array Value → State → Outcome → State → Prop} {XC : String → State → State → Prop}
/-- what a body that may throw owes at its end -/
def vx_MQ (below : List Frame) (Qc : Array Value → State → Outcome → State → Prop) (XC : String → State → State → Prop) (a : Array Value) (s : State) (mc ms : Nat) (free : Addr → Prop) : State → Prop := fun t =>
  ∃ o, t.status = .running ∧ Ended t below o ∧ vx_Q Qc XC mc ms free a s o t
theorem vx_ret {g : JFrame} {mc ms : Nat} (k : W p l e R s m args below meth c H locs cells slots (MQ below Qc args s mc ms free) g) : W p l e R s m args below meth c H locs cells slots (vx_MQ below Qc XC args s mc ms free) g := by
  intro T hT X
  obtain ⟨t, a1, o, b1, b2, b3, b4⟩ := k T hT X
  exact ⟨t, a1, o, b1, b2, Or.inl ⟨b3, b4⟩⟩
/-- not caught here: it goes on to the caller -/
theorem vx_widen {g : JFrame} {q : Addr} {k n : Nat} (h1 : cells ≤ k) (h2 : slots ≤ n) (kk : vx_W p l e R s m args below meth c H locs k n Q g q) : vx_W p l e R s m args below meth c H locs cells slots Q g q := fun T hT X => kk T hT (stand_widen X h1 h2)
theorem vx_out {pc : Nat} {E : String} {ce : Cell} {q : Addr} {mc ms : Nat} (hout : ∀ x ∈ c.exceptionTable.toList, covers x pc = false) (hlocks : meth.locks = false) (hcell : H[q]? = some ce) (hv : ce.vm = .none) (hcl : s.vm.findClass E = some ce.cls)
    (hx : ∀ t : State, t.heap = H → s.vm.Alike t.vm → XC E s t) (hf : ∀ z ∈ locs, free z.base) (hc : cells ≤ mc) (hs : slots ≤ ms) :
    vx_W p l e R s m args below meth c H locs cells slots (vx_MQ below Qc XC args s mc ms free) (F0 m pc ls rest) q := by
  intro T hT X
  obtain ⟨st1, hrun, hend, hW, hsm⟩ := X.leaveThrown q (g := F0 m pc ls rest) rfl rfl rfl hout hlocks
  have hcell9 : (T.setFrames (.throwing q :: below)).heap[q]? = some ce := by
    show T.heap[q]? = some ce
    rw [hT]; exact hcell
  exact ⟨_, st1, .threw q, hrun, hend, Or.inr ⟨q, rfl, E, ce, locs, hx _ hT hW.alike, hcell9, hv, hcl, hW, hsm.mono hc hs, hf⟩⟩
theorem vx_frame {U : State} {k n : Nat} (h : s.sameButNew ({ U with vm := s.vm } : State) locs k n) : s.heap.size ≤ U.heap.size ∧ ∀ q : Nat, q < s.heap.size → (∀ z ∈ locs, z.base ≠ q) → U.heap[q]? = s.heap[q]? := by
  obtain ⟨-, h2, -, -, -, h6⟩ := h
  refine ⟨h2, fun q hq hz => ?_⟩
  obtain ⟨c9, e1, e2, e3, e4⟩ := h6 q _ (Array.getElem?_eq_getElem hq)
  have hs : c9.slots = (s.heap[q]).slots := Array.ext_getElem? fun i => e4 i fun hm => hz _ hm rfl
  have h9 : c9 = s.heap[q] := by
    rw [hs] at e2
    exact e2
  have e5 : U.heap[q]? = some c9 := e1
  rw [e5, h9, Array.getElem?_eq_getElem hq]
/-- the words of a throw but the four that speak of the heap -/
def vx_no (w : Cond) : Bool := decide (w ≠ .isRef (.static Bundle.tN "UNASSIGNED_STACK" Bundle.steD)) && decide (w ≠ .isRef (.static Bundle.tN "SUPPRESSED_SENTINEL" Bundle.listD)) && decide (w ≠ .laysStatic Bundle.tN "UNASSIGNED_STACK" Bundle.steD) && decide (w ≠ .laysStatic Bundle.tN "SUPPRESSED_SENTINEL" Bundle.listD)
def vx_at0 (own : String) (ic : Nat) (X : String) (names : List String) : List Cond := (Bundle.ownAtoms0 own ic X names).filter vx_no
def vx_atS (own : String) (ic : Nat) (X : String) (names : List String) : List Cond := (Bundle.ownAtoms own ic X names).filter vx_no
/-- a word that the tables alone decide, or a good one -/
def vx_ot (w : Cond) : Bool := w.onTables || goodWord w
theorem vx_ot_at {args a' : Array Value} {s U : State} {w : Cond} (hW : s.WarmedH U.vm) (hvm : s.vm = U.vm) (hg : vx_ot w = true) (h : w.before args s = true) : w.before a' U = true := by
  simp only [vx_ot, Bool.or_eq_true] at hg
  rcases hg with hg | hg
  · exact va_tabs hg hvm h
  · exact word_at hW (good_of_word hg) h
/-- a list's words: the good ones out of the method's own list, the others by premises of their own -/
theorem vx_hat {args : Array Value} {s : State} {L B : List Cond} (h1 : ∀ w ∈ L.filter goodWord, w.before args s = true) (h2 : ∀ w ∈ L.filter (fun w => !goodWord w), w ∈ B) (h3 : ∀ w ∈ B, w.before args s = true) : ∀ w ∈ L, w.before args s = true := by
  intro w hw
  by_cases g : goodWord w = true
  · exact h1 w (List.mem_filter.mpr ⟨hw, g⟩)
  · refine h3 w (h2 w (List.mem_filter.mpr ⟨hw, ?_⟩))
    show (!goodWord w) = true
    cases hgw : goodWord w
    · rfl
    · exact absurd hgw g
theorem vx_c {args : Array Value} {s : State} {w : Cond} {B : List Cond} (h : w.before args s = true) (t : ∀ w ∈ B, w.before args s = true) : ∀ w' ∈ w :: B, w'.before args s = true := fun w' h' => (List.mem_cons.mp h').elim (fun e => by rw [e]; exact h) (t w')
theorem vx_n {args : Array Value} {s : State} : ∀ w ∈ ([] : List Cond), w.before args s = true := fun _ h => nomatch h
theorem vx_own {args : Array Value} {s : State} {L : List Cond} (h1 : ∀ w ∈ L.filter vx_no, w.before args s = true)
    (hU : (Cond.isRef (.static Bundle.tN "UNASSIGNED_STACK" Bundle.steD)).before args s = true) (hN : (Cond.isRef (.static Bundle.tN "SUPPRESSED_SENTINEL" Bundle.listD)).before args s = true)
    (lU : (Cond.laysStatic Bundle.tN "UNASSIGNED_STACK" Bundle.steD).before args s = true) (lN : (Cond.laysStatic Bundle.tN "SUPPRESSED_SENTINEL" Bundle.listD).before args s = true) : ∀ w ∈ L, w.before args s = true := by
  intro w hw
  by_cases e1 : w = .isRef (.static Bundle.tN "UNASSIGNED_STACK" Bundle.steD)
  · rw [e1]; exact hU
  · by_cases e2 : w = .isRef (.static Bundle.tN "SUPPRESSED_SENTINEL" Bundle.listD)
    · rw [e2]; exact hN
    · by_cases e3 : w = .laysStatic Bundle.tN "UNASSIGNED_STACK" Bundle.steD
      · rw [e3]; exact lU
      · by_cases e4 : w = .laysStatic Bundle.tN "SUPPRESSED_SENTINEL" Bundle.listD
        · rw [e4]; exact lN
        · exact h1 w (List.mem_filter.mpr ⟨hw, by unfold vx_no; rw [decide_eq_true e1, decide_eq_true e2, decide_eq_true e3, decide_eq_true e4]; rfl⟩)
/-- where a static field lies, its class's statics cell in H -/
def vx_L (C n d : String) (A : Nat → Prop) (U : State) (H : Heap) : Prop := ∃ (c : ClassId) (k : Class) (i : Nat) (f : Field) (a : Nat) (cell : Cell), U.vm.findClass C = some c ∧ U.fieldFound? C n d = some (c, k, i, f) ∧ f.isStatic = true ∧ k.statics = some a ∧ H[a]? = some cell ∧ cell.vm.isStatics = true ∧ cell.cls = c ∧ f.slot < cell.slots.size ∧ k.staticTypes[f.slot]? = some f.type ∧ ¬ A a
theorem vx_L.moved {C n d : String} {A : Nat → Prop} {u U : State} {H : Heap} (hvm : u.vm.Alike U.vm) (h : vx_L C n d A u H) : vx_L C n d A U H := by
  obtain ⟨c, k, i, f, a, cell, h1, h2, h3, h4, h5, h6, h7, h8, h9, h10⟩ := h
  obtain ⟨k', hi', he⟩ := State.fieldFound?_setVm hvm h2
  exact ⟨c, k', i, f, a, cell, by rw [hvm.findClass]; exact h1, hi', h3, by rw [he]; exact h4, h5, h6, h7, h8, by rw [he]; exact h9, h10⟩
theorem vx_L.kept {C n d : String} {A : Nat → Prop} {U : State} {H H1 : Heap} (h : vx_L C n d A U H) (hq : ∀ a : Nat, a < H.size → ¬ A a → H1[a]? = H[a]?) : vx_L C n d A U H1 := by
  obtain ⟨c, k, i, f, a, cell, h1, h2, h3, h4, h5, h6, h7, h8, h9, h10⟩ := h
  exact ⟨c, k, i, f, a, cell, h1, h2, h3, h4, by rw [hq a (Array.getElem?_eq_some_iff.mp h5).1 h10]; exact h5, h6, h7, h8, h9, h10⟩
theorem vx_L.narrow {C n d : String} {A B : Nat → Prop} {U : State} {H : Heap} (h : vx_L C n d A U H) (hAB : ∀ q, B q → A q) : vx_L C n d B U H := by
  obtain ⟨c, k, i, f, a, cell, h1, h2, h3, h4, h5, h6, h7, h8, h9, h10⟩ := h
  exact ⟨c, k, i, f, a, cell, h1, h2, h3, h4, h5, h6, h7, h8, h9, fun z => h10 (hAB _ z)⟩
theorem vx_L.word {C n d : String} {A : Nat → Prop} {s : State} {args : Array Value} (h : vx_L C n d A s s.heap) : (Cond.laysStatic C n d).before args s = true := by
  obtain ⟨c, k, i, f, a, cell, h1, h2, h3, h4, h5, h6, h7, h8, h9, -⟩ := h
  show (Cond.laysStatic C n d).holds args s none s [] = true
  exact Cond.laysStatic_of h1 h2 h3 h4 h5 h6 h7 h8 h9
/-- .. and what it holds: null or some reference -/
def vx_Zq (C n d : String) (A : Nat → Prop) (U : State) (H : Heap) : Prop := va_Zq C n d A U H ∧ vx_L C n d A U H
theorem vx_Zq.moved {C n d : String} {A : Nat → Prop} {u U : State} {H : Heap} (hvm : u.vm.Alike U.vm) (h : vx_Zq C n d A u H) : vx_Zq C n d A U H := ⟨va_Zq.moved hvm h.1, vx_L.moved hvm h.2⟩
theorem vx_Zq.kept {C n d : String} {A : Nat → Prop} {U : State} {H H1 : Heap} (h : vx_Zq C n d A U H) (hq : ∀ a : Nat, a < H.size → ¬ A a → H1[a]? = H[a]?) : vx_Zq C n d A U H1 := ⟨va_Zq.kept h.1 hq, vx_L.kept h.2 hq⟩
theorem vx_Zq.narrow {C n d : String} {A B : Nat → Prop} {U : State} {H : Heap} (h : vx_Zq C n d A U H) (hAB : ∀ q, B q → A q) : vx_Zq C n d B U H := ⟨va_Zq.narrow h.1 hAB, vx_L.narrow h.2 hAB⟩
theorem vx_Zqof {args : Array Value} {s : State} {C n d : String} {A : Nat → Prop} (hl : (Cond.laysStatic C n d).before args s = true) (hini : (Cond.initialized C).before args s = true) (h : (Cond.isRef (.static C n d)).before args s = true) (hA : ∀ a : Nat, a < s.heap.size → ¬ A a) : vx_Zq C n d A s s.heap := by
  refine ⟨va_Zqof hl hini h hA, ?_⟩
  obtain ⟨c, k, i, f, a, cell, h1, h2, h3, h4, h5, h6, h7, h8, h9⟩ := Cond.laysStatic_spec hl
  exact ⟨c, k, i, f, a, cell, h1, h2, h3, h4, h5, h6, h7, h8, h9, hA a (Array.getElem?_eq_some_iff.mp h5).1⟩
theorem vx_isRef {C n d : String} {v : Value} {A : Nat → Prop} {s : State} {args : Array Value} (h : va_Z C n d v A s s.heap) (hv : v.isRef = true) : (Cond.isRef (.static C n d)).before args s = true := by
  obtain ⟨cf, kf, fi, f, a, cell, h1, h2, h3, h4, h5, h6, h7, -⟩ := h
  have he : (Term.static C n d).eval args s none [] s = some v := by
    simp [Term.eval, State.fieldNamed?, h1, h2, h4, h5, h6, h7]
  simp only [Cond.before, Cond.holds, Cond.value, he]
  cases v <;> simp_all [Value.isRef]
theorem vx_isRefq {C n d : String} {A : Nat → Prop} {s : State} {args : Array Value} (h : va_Zq C n d A s s.heap) : (Cond.isRef (.static C n d)).before args s = true := by
  rcases h with h | ⟨t, h⟩
  · exact vx_isRef h rfl
  · exact vx_isRef h rfl
/-- the same frame, seen from here: as if the method were called anew in this heap -/
theorem vx_rebase {T : State} (X : Stand p l e R s m args below meth c T locs cells slots) {R' : Room} (hf : R'.frames ≤ R.frames) (hl : R'.locals ≤ R.locals) (hc : cells + R'.cells ≤ R.cells) (hs : slots + R'.slots ≤ R.slots) :
    Stand p l e R' ((T.setVm s.vm).setFrames (.invoking m args :: below)) m args below meth c T [] 0 0 := by
  have htop : (T.setVm s.vm).topJava?.isSome := X.here.top
  have hF : ((T.setVm s.vm).setFrames (.invoking m args :: below)).frames = .invoking m args :: below := State.frames_setFrames _ (State.cur_lt_of_top htop)
  obtain ⟨g₀, hg0⟩ := Option.isSome_iff_exists.mp htop
  obtain ⟨r, hr⟩ := State.topJava?_eq_some.mp hg0
  have hl9 : e.platform.stackLimits (T.setVm s.vm).me = e.platform.stackLimits s.me := X.limits
  have hb9 : (T.setVm s.vm).me.stackBytes = s.me.stackBytes := X.bytes
  refine ⟨X.admits, X.cas, X.clock, hF, ?_, X.hears, X.method, X.code, X.here, X.tail, X.warmed, ?_, ?_, ?_⟩
  · have h := X.room
    have hU : ((T.setVm s.vm).setFrames (.invoking m args :: below)).localsInUse = s.localsInUse := by
      rw [State.localsInUse_invoking hF (meth := meth) (c := c) X.method X.code, State.localsInUse_invoking X.frames X.method X.code]
    simp only [State.hasRoom, Bool.and_eq_true, decide_eq_true_eq] at h ⊢
    obtain ⟨⟨⟨⟨h1, h2, h3, h4, h5, h6⟩, h7⟩, h8⟩, h9⟩ := h
    rw [X.frames, List.length_cons] at h2 h3
    have q1 := X.heapSize
    have q2 := X.used
    simp only [hF, hU, List.length_cons, State.stackLimits_setFrames, State.stackBytes_setFrames, hl9, hb9]
    refine ⟨⟨⟨⟨by omega, by omega, by omega, by omega, by omega, h6⟩, ?_⟩, ?_⟩, X.book⟩
    · show T.heap.size + R'.cells ≤ e.platform.maxCells
      omega
    · show T.slotsUsed + R'.slots ≤ e.platform.maxSlots
      omega
  · rw [State.stackLimits_setFrames]; rfl
  · rw [State.stackBytes_setFrames]; rfl
  · refine ⟨?_, Nat.le_refl _, Nat.le_refl _, ?_, ?_, fun a c9 h9 => ⟨c9, h9, rfl, rfl, fun _ _ => rfl⟩⟩
    · obtain ⟨t, ht, -⟩ := State.frames_cons hr
      show T.setVm s.vm = { ((T.setVm s.vm).setFrames (.invoking m args :: below)).setFrames (T.setVm s.vm).frames with heap := T.heap, slotsUsed := T.slotsUsed }
      rw [State.setFrames_setFrames, State.setFrames_self ht]
      rfl
    · show T.slotsUsed = T.slotsUsed + ((T.heap.toList.drop T.heap.size).map (·.slots.size)).sum
      rw [List.drop_eq_nil_of_le (Nat.le_of_eq Array.length_toList)]
      rfl
    · show ((T.heap.toList.drop T.heap.size).map (·.slots.size)).sum ≤ 0
      rw [List.drop_eq_nil_of_le (Nat.le_of_eq Array.length_toList)]
      exact Nat.le_refl _
/-- 'throw new E()': new; dup; invokespecial; athrow -/
theorem vx_throw0 {cc : ByteArray} {pc : Nat} (hexec : p.tables.exec = Jvm.exec) (hb : c.code = cc) (hl : l.stackTraces = false) {own cls : String} {names : List String} {ik ic mc ms : Nat} {A : Nat → Prop}
    (hown : s.vm.findClass own = some m.cls) (hcls : Bundle.fit cls = true) (hnames : ∀ n ∈ names, Bundle.fit n = true)
    (hk : (Cond.classLink own ik cls).before args s = true) (hini : (Cond.initialized cls).before args s = true) (hat : ∀ w ∈ vx_at0 own ic cls names, w.before args s = true)
    (hgood : ∀ w ∈ Cond.classLink own ik cls :: Cond.initialized cls :: vx_at0 own ic cls names, vx_ot w = true)
    (hU : vx_Zq Bundle.tN "UNASSIGNED_STACK" Bundle.steD A s s.heap) (hN : vx_Zq Bundle.tN "SUPPRESSED_SENTINEL" Bundle.listD A s s.heap) (hS : va_S A s.heap H locs) (hsize : ls.size = c.maxLocals)
    (d0 : decode cc pc = .ok (.new ik, 3)) (d3 : decode cc (pc + 3) = .ok (.dup, 1)) (d4 : decode cc (pc + 4) = .ok (.invokespecial ic, 3)) (d7 : decode cc (pc + 7) = .ok (.athrow, 1))
    (hout : ∀ x ∈ c.exceptionTable.toList, covers x (pc + 7) = false)
    (hRframes : names.length + 3 < R.frames) (hRlocals : (rest.map fun v => v.category).sum + (13 * (names.length + 1) + 42) ≤ R.locals) (hRcells : cells + 1 ≤ R.cells) (hRslots : slots + 6 ≤ R.slots) (hlocks : meth.locks = false)
    (hx : ∀ t : State, s.vm.Alike t.vm → H.size ≤ t.heap.size → (∀ q : Nat, q < H.size → t.heap[q]? = H[q]?) → XC cls s t)
    (hf : ∀ z ∈ locs, free z.base) (hc : cells + 1 ≤ mc) (hs : slots + 6 ≤ ms) :
    W p l e R s m args below meth c H locs cells slots (vx_MQ below Qc XC args s mc ms free) (F0 m pc ls rest) := by
  intro T hT X
  have htr : e.platform.stackTraces = false := (show e.platform.stackTraces = l.stackTraces by rw [X.admits.platform]).trans hl
  have Y := vx_rebase X (R' := { frames := R.frames, locals := R.locals, cells := 1, slots := 6 }) (Nat.le_refl _) (Nat.le_refl _) hRcells hRslots
  obtain ⟨s', hA⟩ : ∃ z, z = (T.setVm s.vm).setFrames (.invoking m args :: below) := ⟨_, rfl⟩
  rw [← hA] at Y
  have hvm : s'.vm = s.vm := by rw [hA]; rfl
  have hhp : s'.heap = H := by rw [hA]; exact hT
  have hW0 : s.WarmedH s'.vm := by rw [hvm]; exact State.WarmedH.refl s
  have hat' : ∀ w ∈ vx_at0 own ic cls names, w.before args s' = true := fun w hw => vx_ot_at hW0 hvm.symm (hgood w (List.mem_cons_of_mem _ (List.mem_cons_of_mem _ hw))) (hat w hw)
  have hk' : (Cond.classLink own ik cls).before args s' = true := vx_ot_at hW0 hvm.symm (hgood _ List.mem_cons_self) hk
  have hini' : (Cond.initialized cls).before args s' = true := vx_ot_at hW0 hvm.symm (hgood _ (List.mem_cons_of_mem _ List.mem_cons_self)) hini
  have hU' : vx_Zq Bundle.tN "UNASSIGNED_STACK" Bundle.steD A s' s'.heap := by rw [hhp]; exact vx_Zq.moved hW0.alike (hU.kept hS.2.1)
  have hN' : vx_Zq Bundle.tN "SUPPRESSED_SENTINEL" Bundle.listD A s' s'.heap := by rw [hhp]; exact vx_Zq.moved hW0.alike (hN.kept hS.2.1)
  have h : ∀ w ∈ Bundle.ownAtoms0 own ic cls names, w.before args s' = true := vx_own hat' (vx_isRefq hU'.1) (vx_isRefq hN'.1) hU'.2.word hN'.2.word
  have hown' : s'.vm.findClass own = some m.cls := by rw [hvm]; exact hown
  have hins : (Cond.instantiable cls 6).before args s' = true := h _ (by simp [Bundle.ownAtoms0])
  obtain ⟨vm₁, cX, kX, hfX, hkX, -, -, X₁, st1⟩ := Y.newCold hexec (own := own) (C := cls) (index := ik) (n := 6) hown' hk' hins hini'
    (g := F0 m pc ls rest) rfl (by rw [hb]; exact d0) (Nat.le_refl _) (Nat.le_refl _)
  generalize hT1 : (T.setVm vm₁).pushCell { cls := cX, slots := kX.instanceTypes.map defaultValue, vm := .none } = T1 at X₁ st1
  have hcat : (Value.ref T.heap.size).category = 1 := rfl
  have hcellA : T1.heap[T.heap.size]? = some (freshCell cX kX) := by rw [← hT1]; exact State.heap_pushCell_size _ _
  have d3' : decode c.code (pc + 3) = .ok (.dup, 1) := by rw [hb]; exact d3
  obtain ⟨U, hsteps, hrun, hend, hW, hsame, ce, hce, hO⟩ := X₁.ctorThrow0 hexec htr (own := own) (cls := cls) (names := names) (ic := ic) hown' hcls hnames h (fun x hx => nomatch hx) hfX hkX hcellA (by rw [hhp, hT]; exact Nat.le_refl _)
    (g := { method := m, pc := pc + 4, locals := ls, stack := .ref T.heap.size :: .ref T.heap.size :: rest, locked := none }) rfl hsize rfl rfl (rest := rest) rfl
    (by rw [hb]; exact d4) (by rw [hb]; exact d7) hout hRframes (by simp only [List.map_cons, List.sum_cons, hcat]; omega) hlocks
  obtain ⟨f1, f2⟩ := vx_frame hsame
  rw [hhp] at f1 f2
  have hWs : s.WarmedH U.vm := State.WarmedH.trans hW0 hW
  have hcl : s.vm.findClass cls = some ce.cls := by
    have h9 := hO.cls
    rw [hvm] at h9
    exact h9
  have hall : s.sameButNew ({ U with vm := s.vm } : State) locs mc ms := by
    subst hA
    obtain ⟨e1, e2⟩ := hsame
    rw [State.setFrames_setFrames] at e1
    have h2 : (T.setVm s.vm).sameButNew ({ U with vm := s.vm } : State) [] (0 + 1) (0 + 6) := ⟨e1, e2⟩
    have h3 := X.same.trans h2
    rw [List.append_nil] at h3
    exact h3.mono hc hs
  refine ⟨U, ?_, .threw T.heap.size, hrun, hend, Or.inr ⟨T.heap.size, rfl, cls, ce, locs, hx U hWs.alike f1 (fun q hq => f2 q hq (fun z hz => nomatch hz)), hce, hO.vm, hcl, hWs, hall, hf⟩⟩
  refine st1 _ ?_
  show Steps p.tables e below (T1.setTop { method := m, pc := pc + 3, locals := ls, stack := .ref T.heap.size :: rest, locked := none }) _
  jvm_step X₁.here [X₁.here.top, hexec, d3', Value.category]
  exact hsteps
/-- 'throw new E("text")': new; dup; ldc; invokespecial; athrow -/
theorem vx_throwS {cc : ByteArray} {pc : Nat} (hexec : p.tables.exec = Jvm.exec) (hb : c.code = cc) (hl : l.stackTraces = false) {own cls text : String} {names : List String} {ik is ic mc ms sa : Nat} {A : Nat → Prop}
    (hown : s.vm.findClass own = some m.cls) (hcls : Bundle.fit cls = true) (hnames : ∀ n ∈ names, Bundle.fit n = true)
    (hk : (Cond.classLink own ik cls).before args s = true) (hini : (Cond.initialized cls).before args s = true) (hstr : vk_R own is text sa s) (hat : ∀ w ∈ vx_atS own ic cls names, w.before args s = true)
    (hgood : ∀ w ∈ Cond.classLink own ik cls :: Cond.initialized cls :: vx_atS own ic cls names, vx_ot w = true)
    (hU : vx_Zq Bundle.tN "UNASSIGNED_STACK" Bundle.steD A s s.heap) (hN : vx_Zq Bundle.tN "SUPPRESSED_SENTINEL" Bundle.listD A s s.heap) (hS : va_S A s.heap H locs) (hsize : ls.size = c.maxLocals)
    (d0 : decode cc pc = .ok (.new ik, 3)) (d3 : decode cc (pc + 3) = .ok (.dup, 1)) (d4 : decode cc (pc + 4) = .ok (.ldc is, 2)) (d6 : decode cc (pc + 6) = .ok (.invokespecial ic, 3)) (d9 : decode cc (pc + 9) = .ok (.athrow, 1))
    (hout : ∀ x ∈ c.exceptionTable.toList, covers x (pc + 9) = false)
    (hRframes : names.length + 3 < R.frames) (hRlocals : (rest.map fun v => v.category).sum + (13 * (names.length + 1) + 43) ≤ R.locals) (hRcells : cells + 1 ≤ R.cells) (hRslots : slots + 6 ≤ R.slots) (hlocks : meth.locks = false)
    (hx : ∀ t : State, s.vm.Alike t.vm → H.size ≤ t.heap.size → (∀ q : Nat, q < H.size → t.heap[q]? = H[q]?) → XC cls s t)
    (hf : ∀ z ∈ locs, free z.base) (hc : cells + 1 ≤ mc) (hs : slots + 6 ≤ ms) :
    W p l e R s m args below meth c H locs cells slots (vx_MQ below Qc XC args s mc ms free) (F0 m pc ls rest) := by
  intro T hT X
  have htr : e.platform.stackTraces = false := (show e.platform.stackTraces = l.stackTraces by rw [X.admits.platform]).trans hl
  have Y := vx_rebase X (R' := { frames := R.frames, locals := R.locals, cells := 1, slots := 6 }) (Nat.le_refl _) (Nat.le_refl _) hRcells hRslots
  obtain ⟨s', hA⟩ : ∃ z, z = (T.setVm s.vm).setFrames (.invoking m args :: below) := ⟨_, rfl⟩
  rw [← hA] at Y
  have hvm : s'.vm = s.vm := by rw [hA]; rfl
  have hhp : s'.heap = H := by rw [hA]; exact hT
  have hW0 : s.WarmedH s'.vm := by rw [hvm]; exact State.WarmedH.refl s
  have hat' : ∀ w ∈ vx_atS own ic cls names, w.before args s' = true := fun w hw => vx_ot_at hW0 hvm.symm (hgood w (List.mem_cons_of_mem _ (List.mem_cons_of_mem _ hw))) (hat w hw)
  have hk' : (Cond.classLink own ik cls).before args s' = true := vx_ot_at hW0 hvm.symm (hgood _ List.mem_cons_self) hk
  have hini' : (Cond.initialized cls).before args s' = true := vx_ot_at hW0 hvm.symm (hgood _ (List.mem_cons_of_mem _ List.mem_cons_self)) hini
  have hU' : vx_Zq Bundle.tN "UNASSIGNED_STACK" Bundle.steD A s' s'.heap := by rw [hhp]; exact vx_Zq.moved hW0.alike (hU.kept hS.2.1)
  have hN' : vx_Zq Bundle.tN "SUPPRESSED_SENTINEL" Bundle.listD A s' s'.heap := by rw [hhp]; exact vx_Zq.moved hW0.alike (hN.kept hS.2.1)
  have h : ∀ w ∈ Bundle.ownAtoms own ic cls names, w.before args s' = true := vx_own hat' (vx_isRefq hU'.1) (vx_isRefq hN'.1) hU'.2.word hN'.2.word
  have hown' : s'.vm.findClass own = some m.cls := by rw [hvm]; exact hown
  have hins : (Cond.instantiable cls 6).before args s' = true := h _ (by simp [Bundle.ownAtoms])
  obtain ⟨vm₁, cX, kX, hfX, hkX, -, -, X₁, st1⟩ := Y.newCold hexec (own := own) (C := cls) (index := ik) (n := 6) hown' hk' hins hini'
    (g := F0 m pc ls rest) rfl (by rw [hb]; exact d0) (Nat.le_refl _) (Nat.le_refl _)
  generalize hT1 : (T.setVm vm₁).pushCell { cls := cX, slots := kX.instanceTypes.map defaultValue, vm := .none } = T1 at X₁ st1
  have hcat : (Value.ref T.heap.size).category = 1 := rfl
  have hcellA : T1.heap[T.heap.size]? = some (freshCell cX kX) := by rw [← hT1]; exact State.heap_pushCell_size _ _
  have d3' : decode c.code (pc + 3) = .ok (.dup, 1) := by rw [hb]; exact d3
  have d4' : decode c.code (pc + 4) = .ok (.ldc is, 2) := by rw [hb]; exact d4
  have hstr' : vk_R own is text sa s' := vk_R.warm hW0 hstr
  obtain ⟨U, hsteps, hrun, hend, hW, hsame, ce, hce, hO⟩ := X₁.ctorThrowS hexec htr (own := own) (cls := cls) (names := names) (ic := ic) hown' hcls hnames h (fun x hx => nomatch hx) hfX hkX hcellA (by rw [hhp, hT]; exact Nat.le_refl _) (msg := .ref sa) rfl
    (g := { method := m, pc := pc + 6, locals := ls, stack := .ref sa :: .ref T.heap.size :: .ref T.heap.size :: rest, locked := none }) rfl hsize rfl rfl (rest := rest) rfl
    (by rw [hb]; exact d6) (by rw [hb]; exact d9) hout hRframes (by simp only [List.map_cons, List.sum_cons, hcat]; omega) hlocks
  obtain ⟨f1, f2⟩ := vx_frame hsame
  rw [hhp] at f1 f2
  have hWs : s.WarmedH U.vm := State.WarmedH.trans hW0 hW
  have hcl : s.vm.findClass cls = some ce.cls := by
    have h9 := hO.cls
    rw [hvm] at h9
    exact h9
  have hall : s.sameButNew ({ U with vm := s.vm } : State) locs mc ms := by
    subst hA
    obtain ⟨e1, e2⟩ := hsame
    rw [State.setFrames_setFrames] at e1
    have h2 : (T.setVm s.vm).sameButNew ({ U with vm := s.vm } : State) [] (0 + 1) (0 + 6) := ⟨e1, e2⟩
    have h3 := X.same.trans h2
    rw [List.append_nil] at h3
    exact h3.mono hc hs
  refine ⟨U, ?_, .threw T.heap.size, hrun, hend, Or.inr ⟨T.heap.size, rfl, cls, ce, locs, hx U hWs.alike f1 (fun q hq => f2 q hq (fun z hz => nomatch hz)), hce, hO.vm, hcl, hWs, hall, hf⟩⟩
  refine st1 _ ?_
  show Steps p.tables e below (T1.setTop { method := m, pc := pc + 3, locals := ls, stack := .ref T.heap.size :: rest, locked := none }) _
  jvm_step X₁.here [X₁.here.top, hexec, d3', Value.category]
  exact X₁.ldcString hexec (own := own) (text := text) (index := is) (a := sa) hown' hstr'.1 hstr'.2
    (g := { method := m, pc := pc + 4, locals := ls, stack := .ref T.heap.size :: .ref T.heap.size :: rest, locked := none }) rfl d4' _ hsteps
/-- 'throw new E("text")', the text by a wide index -/
theorem vx_throwSW {cc : ByteArray} {pc : Nat} (hexec : p.tables.exec = Jvm.exec) (hb : c.code = cc) (hl : l.stackTraces = false) {own cls text : String} {names : List String} {ik is ic mc ms sa : Nat} {A : Nat → Prop}
    (hown : s.vm.findClass own = some m.cls) (hcls : Bundle.fit cls = true) (hnames : ∀ n ∈ names, Bundle.fit n = true)
    (hk : (Cond.classLink own ik cls).before args s = true) (hini : (Cond.initialized cls).before args s = true) (hstr : vk_R own is text sa s) (hat : ∀ w ∈ vx_atS own ic cls names, w.before args s = true)
    (hgood : ∀ w ∈ Cond.classLink own ik cls :: Cond.initialized cls :: vx_atS own ic cls names, vx_ot w = true)
    (hU : vx_Zq Bundle.tN "UNASSIGNED_STACK" Bundle.steD A s s.heap) (hN : vx_Zq Bundle.tN "SUPPRESSED_SENTINEL" Bundle.listD A s s.heap) (hS : va_S A s.heap H locs) (hsize : ls.size = c.maxLocals)
    (d0 : decode cc pc = .ok (.new ik, 3)) (d3 : decode cc (pc + 3) = .ok (.dup, 1)) (d4 : decode cc (pc + 4) = .ok (.ldc_w is, 3)) (d7 : decode cc (pc + 7) = .ok (.invokespecial ic, 3)) (d10 : decode cc (pc + 10) = .ok (.athrow, 1))
    (hout : ∀ x ∈ c.exceptionTable.toList, covers x (pc + 10) = false)
    (hRframes : names.length + 3 < R.frames) (hRlocals : (rest.map fun v => v.category).sum + (13 * (names.length + 1) + 43) ≤ R.locals) (hRcells : cells + 1 ≤ R.cells) (hRslots : slots + 6 ≤ R.slots) (hlocks : meth.locks = false)
    (hx : ∀ t : State, s.vm.Alike t.vm → H.size ≤ t.heap.size → (∀ q : Nat, q < H.size → t.heap[q]? = H[q]?) → XC cls s t)
    (hf : ∀ z ∈ locs, free z.base) (hc : cells + 1 ≤ mc) (hs : slots + 6 ≤ ms) :
    W p l e R s m args below meth c H locs cells slots (vx_MQ below Qc XC args s mc ms free) (F0 m pc ls rest) := by
  intro T hT X
  have htr : e.platform.stackTraces = false := (show e.platform.stackTraces = l.stackTraces by rw [X.admits.platform]).trans hl
  have Y := vx_rebase X (R' := { frames := R.frames, locals := R.locals, cells := 1, slots := 6 }) (Nat.le_refl _) (Nat.le_refl _) hRcells hRslots
  obtain ⟨s', hA⟩ : ∃ z, z = (T.setVm s.vm).setFrames (.invoking m args :: below) := ⟨_, rfl⟩
  rw [← hA] at Y
  have hvm : s'.vm = s.vm := by rw [hA]; rfl
  have hhp : s'.heap = H := by rw [hA]; exact hT
  have hW0 : s.WarmedH s'.vm := by rw [hvm]; exact State.WarmedH.refl s
  have hat' : ∀ w ∈ vx_atS own ic cls names, w.before args s' = true := fun w hw => vx_ot_at hW0 hvm.symm (hgood w (List.mem_cons_of_mem _ (List.mem_cons_of_mem _ hw))) (hat w hw)
  have hk' : (Cond.classLink own ik cls).before args s' = true := vx_ot_at hW0 hvm.symm (hgood _ List.mem_cons_self) hk
  have hini' : (Cond.initialized cls).before args s' = true := vx_ot_at hW0 hvm.symm (hgood _ (List.mem_cons_of_mem _ List.mem_cons_self)) hini
  have hU' : vx_Zq Bundle.tN "UNASSIGNED_STACK" Bundle.steD A s' s'.heap := by rw [hhp]; exact vx_Zq.moved hW0.alike (hU.kept hS.2.1)
  have hN' : vx_Zq Bundle.tN "SUPPRESSED_SENTINEL" Bundle.listD A s' s'.heap := by rw [hhp]; exact vx_Zq.moved hW0.alike (hN.kept hS.2.1)
  have h : ∀ w ∈ Bundle.ownAtoms own ic cls names, w.before args s' = true := vx_own hat' (vx_isRefq hU'.1) (vx_isRefq hN'.1) hU'.2.word hN'.2.word
  have hown' : s'.vm.findClass own = some m.cls := by rw [hvm]; exact hown
  have hins : (Cond.instantiable cls 6).before args s' = true := h _ (by simp [Bundle.ownAtoms])
  obtain ⟨vm₁, cX, kX, hfX, hkX, -, -, X₁, st1⟩ := Y.newCold hexec (own := own) (C := cls) (index := ik) (n := 6) hown' hk' hins hini'
    (g := F0 m pc ls rest) rfl (by rw [hb]; exact d0) (Nat.le_refl _) (Nat.le_refl _)
  generalize hT1 : (T.setVm vm₁).pushCell { cls := cX, slots := kX.instanceTypes.map defaultValue, vm := .none } = T1 at X₁ st1
  have hcat : (Value.ref T.heap.size).category = 1 := rfl
  have hcellA : T1.heap[T.heap.size]? = some (freshCell cX kX) := by rw [← hT1]; exact State.heap_pushCell_size _ _
  have d3' : decode c.code (pc + 3) = .ok (.dup, 1) := by rw [hb]; exact d3
  have d4' : decode c.code (pc + 4) = .ok (.ldc_w is, 3) := by rw [hb]; exact d4
  have hstr' : vk_R own is text sa s' := vk_R.warm hW0 hstr
  obtain ⟨U, hsteps, hrun, hend, hW, hsame, ce, hce, hO⟩ := X₁.ctorThrowS hexec htr (own := own) (cls := cls) (names := names) (ic := ic) hown' hcls hnames h (fun x hx => nomatch hx) hfX hkX hcellA (by rw [hhp, hT]; exact Nat.le_refl _) (msg := .ref sa) rfl
    (g := { method := m, pc := pc + 7, locals := ls, stack := .ref sa :: .ref T.heap.size :: .ref T.heap.size :: rest, locked := none }) rfl hsize rfl rfl (rest := rest) rfl
    (by rw [hb]; exact d7) (by rw [hb]; exact d10) hout hRframes (by simp only [List.map_cons, List.sum_cons, hcat]; omega) hlocks
  obtain ⟨f1, f2⟩ := vx_frame hsame
  rw [hhp] at f1 f2
  have hWs : s.WarmedH U.vm := State.WarmedH.trans hW0 hW
  have hcl : s.vm.findClass cls = some ce.cls := by
    have h9 := hO.cls
    rw [hvm] at h9
    exact h9
  have hall : s.sameButNew ({ U with vm := s.vm } : State) locs mc ms := by
    subst hA
    obtain ⟨e1, e2⟩ := hsame
    rw [State.setFrames_setFrames] at e1
    have h2 : (T.setVm s.vm).sameButNew ({ U with vm := s.vm } : State) [] (0 + 1) (0 + 6) := ⟨e1, e2⟩
    have h3 := X.same.trans h2
    rw [List.append_nil] at h3
    exact h3.mono hc hs
  refine ⟨U, ?_, .threw T.heap.size, hrun, hend, Or.inr ⟨T.heap.size, rfl, cls, ce, locs, hx U hWs.alike f1 (fun q hq => f2 q hq (fun z hz => nomatch hz)), hce, hO.vm, hcl, hWs, hall, hf⟩⟩
  refine st1 _ ?_
  show Steps p.tables e below (T1.setTop { method := m, pc := pc + 3, locals := ls, stack := .ref T.heap.size :: rest, locked := none }) _
  jvm_step X₁.here [X₁.here.top, hexec, d3', Value.category]
  exact X₁.ldcStringW hexec (own := own) (text := text) (index := is) (a := sa) hown' hstr'.1 hstr'.2
    (g := { method := m, pc := pc + 4, locals := ls, stack := .ref T.heap.size :: .ref T.heap.size :: rest, locked := none }) rfl d4' _ hsteps
end Ends
section Bodies
variable {l : Launch}
theorem vx_ofW {y : MethodName} {ws ws' : List Cond} {rm : Room} {Pc : Array Value → State → Prop} {Qc : Array Value → State → Outcome → State → Prop} {XC : String → State → State → Prop} {mc ms : Nat} {free : Addr → Prop} {cc : ByteArray} {maxL : Nat} {ret : Option FieldType}
    (hy : plainName y.cls = true) (hw : ws = Cond.code y cc maxL ret :: ws')
    (body : ∀ p e s m args below meth c s₁, BodyLoose p l y (headSpec ws rm) cc maxL ret e s m args below meth c s₁ → c.maxLocals = maxL → (∀ x ∈ c.exceptionTable.toList, False) → Pc args s →
      W p l e (headSpec ws rm).room s m args below meth c s.heap [] 0 0 (vx_MQ below Qc XC args s mc ms free) (entryFrame m args maxL)) : vx_Met l y ws rm Pc Qc XC mc ms free := by
  refine MetFree.of_bodyS (code := cc) (maxLocals := maxL) (ret := ret) hy ?_ ?_
  · intro args s m h hn
    obtain ⟨meth, c, h1, h2, h3, h4, h5, h6, -, -⟩ := Cond.code_spec hn (atoms_spec (ws := ws) h _ (by rw [hw]; exact List.mem_cons_self))
    exact ⟨meth, c, h1, h2, h3, h4, h5, h6⟩
  · intro p e s m args below meth c s₁ B hml hP _
    have hh0 : s₁.heap = s.heap := by rw [B.state]; rfl
    have ht : ∀ x ∈ c.exceptionTable.toList, False := by
      obtain ⟨meth9, c9, h1, h2, -, -, -, -, h7, -⟩ := Cond.code_spec B.named (atoms_spec (ws := ws) B.pre _ (by rw [hw]; exact List.mem_cons_self))
      cases Option.some.inj (h1.symm.trans B.method)
      cases Option.some.inj (h2.symm.trans (Stand.of_body B).code)
      intro x hx
      rw [Array.isEmpty_iff.mp h7] at hx
      cases hx
    obtain ⟨t, a1, o, b1, b2, b3⟩ := body p e s m args below meth c s₁ B hml ht hP s₁ hh0 (Stand.of_body B)
    exact ⟨t, o, a1, b1, b2, b3⟩
/-- the table of a body with handlers -/
theorem vx_table {p : Program} {x y : MethodName} {S : Spec} {cc bytes : ByteArray} {maxL maxL' : Nat} {ret ret' : Option FieldType} {e : Env} {s s₁ : State} {m : MethodId} {args : Array Value} {below : List Frame} {meth : Method} {c : Code} {hh : List (Nat × Nat × Nat × Nat)}
    (B : BodyLoose p l y S cc maxL ret e s m args below meth c s₁) (h : (Cond.codeWith y bytes maxL' ret' hh).before args s = true) : c.exceptionTable.toList = tableOf hh := by
  obtain ⟨m9, meth9, c9, hn9, h1, h2, -, -, h6, -⟩ := Cond.codeWith_spec h
  cases Option.some.inj (hn9.symm.trans B.named)
  cases Option.some.inj (h1.symm.trans B.method)
  cases Option.some.inj (h2.symm.trans (Stand.of_body B).code)
  rw [← h6, table_eq]
end Bodies
end VXA
/-! ===== END ===== -/
/-! ===== BEGIN a static call of a method with an exception table ===== -/
section VXS
variable {p : Program} {l : Launch} {e : Env} {R : Room} {s : State} {m : MethodId} {args : Array Value} {below : List Frame} {meth : Method} {c : Code} {T : State} {H : Heap} {locs : List Loc} {cells slots : Nat}
abbrev vx_CSW (R : Room) (s : State) (args : Array Value) (own : String) (index : Nat) (y : MethodName) (bytes : ByteArray) (maxL : Nat) (ret : Option FieldType) (hh : List (Nat × Nat × Nat × Nat)) (ws : List Cond) (rm : Room) (mc ms n : Nat) : Prop :=
  (rm.cells = mc ∧ rm.slots = ms ∧ rm.frames + 1 ≤ R.frames ∧ 8 + (maxL + 11) + rm.locals ≤ R.locals ∧ (∀ w ∈ ws, ∀ (a' : Array Value) (U : State), s.WarmedH U.vm → w.before a' U = true) ∧ Cond.codeWith y bytes maxL ret hh ∈ ws) ∧
  (Cond.codeWith y bytes maxL ret hh).before args s = true ∧ (Cond.initialized y.cls).before args s = true ∧ (y.cls ≠ "java/lang/invoke/MethodHandle" ∧ y.cls ≠ "java/lang/invoke/VarHandle") ∧
  (∀ sig, parseMethodDescriptor y.desc = some sig → n = sig.parameters.length) ∧ (Cond.methodLink own index y).before args s = true ∧ (Cond.static y).before args s = true
theorem vx_cwSW {own : String} {index maxL mc ms : Nat} {y : MethodName} {bytes : ByteArray} {ret : Option FieldType} {hh : List (Nat × Nat × Nat × Nat)} {Ts ws ws' : List Cond} {rm : Room} (n : Nat) (ht : ∀ w ∈ Ts, w.before args s = true) (hT : GoodIn Ts (va_wsS own index y ws)) (hw : ws = Cond.codeWith y bytes maxL ret hh :: ws') (hrc : rm.cells = mc) (hrs : rm.slots = ms)
    (hd : y.cls ≠ "java/lang/invoke/MethodHandle" ∧ y.cls ≠ "java/lang/invoke/VarHandle" ∧ (parseMethodDescriptor y.desc).map (fun d => d.parameters.length) = some n) (hR : rm.frames + 1 ≤ R.frames ∧ 8 + (maxL + 11) + rm.locals ≤ R.locals) :
    vx_CSW R s args own index y bytes maxL ret hh ws rm mc ms n := by
  have ok : ∀ w ∈ va_wsS own index y ws, w.before args s = true := fun w h => ht w (hT w h).1
  have hG : GoodIn Ts ws := fun w h => hT w (by unfold va_wsS; exact List.mem_append_right _ h)
  have hc : Cond.codeWith y bytes maxL ret hh ∈ ws := by rw [hw]; exact List.mem_cons_self
  refine ⟨⟨hrc, hrs, hR.1, hR.2, pay_in ht hG, hc⟩, ht _ (hG _ hc).1, ok _ (by simp [va_wsS]), ⟨hd.1, hd.2.1⟩, fun sig h => ?_, ok _ (by simp [va_wsS]), ok _ (by simp [va_wsS])⟩
  have h2 := hd.2.2
  rw [h] at h2
  exact (Option.some.inj h2).symm
theorem vx_callSW (X : Stand p l e R s m args below meth c T locs cells slots) (hexec : p.tables.exec = Jvm.exec) {own : String} {index : Nat} {y : MethodName} {bytes : ByteArray} {maxL : Nat} {ret : Option FieldType} {hh : List (Nat × Nat × Nat × Nat)}
    (hown : s.vm.findClass own = some m.cls) (hlink : (Cond.methodLink own index y).before args s = true) (hstat : (Cond.static y).before args s = true) (hinit : (Cond.initialized y.cls).before args s = true)
    (hcode : (Cond.codeWith y bytes maxL ret hh).before args s = true) (hy : y.cls ≠ "java/lang/invoke/MethodHandle" ∧ y.cls ≠ "java/lang/invoke/VarHandle")
    {W9 : Nat} {Pre : Pt → Array Value → Prop} {Post : Pt → Array Value → Option Value → Pt → Prop} (hK : Back l R p e below s args y 3 W9 Pre Post)
    {g : JFrame} (hg : g.method = m) (hsize : g.locals.size = c.maxLocals) {argsL rest : List Value} (hlen : ∀ sig, parseMethodDescriptor y.desc = some sig → argsL.length = sig.parameters.length)
    (hstack : g.stack = argsL.reverse ++ rest) (hW : 2 * g.monitorRoom + (rest.map fun v => v.category).sum ≤ W9) (hdg : decode c.code g.pc = .ok (.invokestatic index, 3))
    (hpre : ∀ vm₁, s.WarmedH vm₁ → Pre ⟨T.setVm vm₁, locs, cells, slots⟩ argsL.toArray) :
    ∃ (v : Option Value) (vm₁ : Vm) (B : Pt), s.WarmedH vm₁ ∧ Stand p l e R s m args below meth c B.U B.locs B.cells B.slots ∧ Post ⟨T.setVm vm₁, locs, cells, slots⟩ argsL.toArray v B ∧
      ∀ target, Steps p.tables e below (B.U.setTop { g with pc := g.pc + 3, stack := v.toList ++ rest }) target → Steps p.tables e below (T.setTop g) target := by
  obtain ⟨mk, methM, cM, hnamed, hmethM, -, -, -, -, -, -, hsigM⟩ := Cond.codeWith_spec hcode
  have hstatic : methM.isStatic = true := Cond.static_spec hnamed hmethM hstat
  obtain ⟨kP, hkP, -⟩ := className_of_methodNamed hnamed
  have hinitP : kP.init = .initialized := Cond.initialized_spec (findClass_of_methodNamed hnamed) hkP hinit
  obtain ⟨vm₁, X₁, hstep₁⟩ := X.invokestatic hexec hown hlink hnamed hmethM hstatic hkP hinitP hy (g := g) hg (argsL := argsL) (rest := rest) (hlen _ hsigM) hstack hdg
  obtain ⟨v, B, X', hpost, hsteps⟩ := hK m meth c ⟨T.setVm vm₁, locs, cells, slots⟩ { g with stack := rest } (.invokestatic index) mk argsL.toArray X₁ hg hsize hdg hW (X₁.named hnamed) (hpre vm₁ X₁.warmed)
  exact ⟨v, vm₁, B, X₁.warmed, X', hpost, fun target h => hstep₁ _ fun acts => by rw [doInvoke_state]; exact hsteps.trans h⟩
theorem vx_runSW {y : MethodName} {bytes cc : ByteArray} {maxL nL mc ms n index : Nat} {ret : Option FieldType} {hh : List (Nat × Nat × Nat × Nat)} {ws : List Cond} {rm : Room} {Pc : Array Value → State → Prop} {Qc : Array Value → State → Outcome → State → Prop} {free : Addr → Prop} {Ts : List Cond} {own : String} {As rest : List Value} {g : JFrame}
    (S : CallFix p m c cc nL s args Ts own) (hM : Met l y ws rm Pc Qc mc ms free) (cw : vx_CSW R s args own index y bytes maxL ret hh ws rm mc ms n) (hp : PreS s H Pc As)
    (hg : g.method = m) (hn : As.length = n) (hsize : g.locals.size = nL) (hstack : g.stack = As.reverse ++ rest) (hW : 2 * g.monitorRoom + (rest.map fun v => v.category).sum ≤ 8) (hdg : decode cc g.pc = .ok (.invokestatic index, 3)) (hf : cells + mc ≤ R.cells ∧ slots + ms ≤ R.slots) :
    va_Run p l e R s m args below meth c H locs cells slots mc ms g rest (Qc As.toArray) (free) := by
  obtain ⟨⟨hrc, hrs, hfr, hlo, hws, hcw⟩, hcode, hini, hy, hlen, hl, hstt⟩ := cw
  have hK : Back l R p e below s args y 3 8 (PreOf R mc ms Pc) (PostOf Qc mc ms free) := va_backW (hh := hh) (bytes := bytes) (maxL := maxL) (ret := ret) hM hp.1 hrc hrs hfr hlo hws hcw (fun a' U hW => word_at hW (Or.inl (by first | rfl | simp [Cond.onTables, Cond.keeps, Cond.steady])) hini)
  obtain ⟨hx, hb, hml, ho, -⟩ := S
  intro T hT X
  obtain ⟨v, vm₁, ⟨U', l2, c2, s2⟩, hW₁, X', ⟨g', mk, t, L, e1, e2, hq, h1, hL, h2, h3⟩, st⟩ := vx_callSW X hx (hh := hh) (bytes := bytes) (maxL := maxL) (ret := ret) ho hl hstt hini hcode hy hK hg (hsize.trans hml.symm) (argsL := As) (rest := rest) (fun sig h => hn.trans (hlen sig h)) hstack hW (by rw [hb]; exact hdg)
    (fun vm₁ hW₁ => ⟨hf.1, hf.2, hp.2 (T.setVm vm₁) hT hW₁⟩)
  dsimp only [Pt.U, Pt.locs, Pt.cells, Pt.slots] at X' e1 e2 h1 h2 h3 st
  subst h1; subst h2; subst h3
  exact ⟨v, (T.setVm vm₁).calling g' mk As.toArray, t, U', L, hT, X', hL, e1, e2, hq, st⟩
/-- not caught here, past rows that name other classes: it goes on to the caller -/
theorem vx_outP {p : Program} {l : Launch} {e : Env} {R : Room} {s : State} {m : MethodId} {args : Array Value} {below : List Frame} {meth : Method} {c : Code} {H : Heap} {locs : List Loc} {cells slots : Nat} {free : Addr → Prop} {ls : Array Slot} {rest : List Value} {Qc : Array Value → State → Outcome → State → Prop} {XC : String → State → State → Prop}
    {pc : Nat} {own E : String} {ce : Cell} {q : Addr} {mc ms : Nat} (hown : s.vm.findClass own = some m.cls) (hlocks : meth.locks = false)
    (hpass : ∀ z ∈ c.exceptionTable.toList, covers z pc = false ∨ (z.catchType ≠ 0 ∧ ∃ nm : String, (Cond.classLink own z.catchType nm).before args s = true ∧ va_Nc E nm s)) (hcell : H[q]? = some ce) (hv : ce.vm = .none) (hcl : s.vm.findClass E = some ce.cls)
    (hx : ∀ t : State, t.heap = H → s.vm.Alike t.vm → XC E s t) (hf : ∀ z ∈ locs, free z.base) (hc : cells ≤ mc) (hs : slots ≤ ms) :
    vx_W p l e R s m args below meth c H locs cells slots (vx_MQ below Qc XC args s mc ms free) (F0 m pc ls rest) q := by
  intro T hT X
  have hpl : e.platform.magicAccessors = ({} : Platform).magicAccessors := by rw [X.admits.platform]
  obtain ⟨vm', hW', X', st⟩ := X.outThrough hlocks q (g := F0 m pc ls rest) rfl rfl rfl (cell := ce) (by rw [hT]; exact hcell) (by rw [hv]; rfl)
    (by obtain ⟨k9, h9, -⟩ := Vm.findClass_spec hcl; exact ⟨k9, h9⟩) (fun z hz => by
      rcases hpass z hz with h | ⟨hz0, nm, hl1, hn1⟩
      · exact Or.inl h
      · obtain ⟨c6, hc6, hcl6⟩ := Cond.classLink_spec hown hl1 e.platform hpl
        obtain ⟨a8, b8, h1, h2, h3⟩ := hn1
        cases Option.some.inj (h1.symm.trans hcl)
        cases Option.some.inj (h2.symm.trans hc6)
        exact Or.inr ⟨hz0, _, hcl6, h3⟩)
  obtain ⟨g₀, hfr⟩ := X'.frames_eq
  have hcell9 : ((T.setVm vm').setFrames (.throwing q :: below)).heap[q]? = some ce := by
    show T.heap[q]? = some ce
    rw [hT]; exact hcell
  have hend : Ended ((T.setVm vm').setFrames (.throwing q :: below)) below (.threw q) := State.frames_setFrames _ (State.cur_lt_of_frames hfr)
  refine ⟨(T.setVm vm').setFrames (.throwing q :: below), ?_, .threw q, X'.here.running, hend, Or.inr ⟨q, rfl, E, ce, locs, hx _ hT (X'.ends _).1.alike, hcell9, hv, hcl, (X'.ends _).1, (X'.ends _).2.mono hc hs, hf⟩⟩
  rw [X.pushThrowing_eq]
  exact st
/-- a thing of a world lies in the heap -/
theorem vx_lt {D : va_G} {cl : List vw_C} {ws : va_W} {H1 : Heap} (h : va_P D cl ws H1) {k : Nat} {q : Nat × va_E} (hk : ws[k]? = some q) : q.1 < H1.size := (h k q hk).lt
end VXS
/-! ===== END ===== -/
/-! ===== BEGIN methods with a table of their own: called by a name, returning or throwing ===== -/
section VXH
/-! vx_backW, vx_callVX, vx_callSX, vx_callVW, vx_runVW, vx_runVX, vx_runSX, vx_ofWH follow the same proofs as their sisters above (Free/Laws.lean, Shelf42/LK1.lean); vx_outP calls Shelf42/NT130.lean (outThrough). -/
section
variable {l : Launch} {R : Room} {p : Program} {e : Env} {below : List Frame} {s : State} {sargs : Array Value} {y : MethodName} {len W9 : Nat}
theorem vx_backW {ws : List Cond} {rm : Room} {Pc : Array Value → State → Prop} {Qc : Array Value → State → Outcome → State → Prop} {XC : String → State → State → Prop} {mc ms : Nat} {free : Addr → Prop} {bytes : ByteArray} {maxL : Nat} {ret : Option FieldType} {hh : List (Nat × Nat × Nat × Nat)}
    (hM : vx_Met l y ws rm Pc Qc XC mc ms free) (hblind : FrameBlind Pc) (hrc : rm.cells = mc) (hrs : rm.slots = ms)
    (hframes : rm.frames + 1 ≤ R.frames) (hlocals : W9 + (maxL + 11) + rm.locals ≤ R.locals)
    (hws : ∀ w ∈ ws, ∀ a' U, s.WarmedH U.vm → w.before a' U = true) (hcode : Cond.codeWith y bytes maxL ret hh ∈ ws) (hinit : ∀ a' U, s.WarmedH U.vm → (Cond.initialized y.cls).before a' U = true) :
    vx_Back l R p e below s sargs y len W9 (PreOf R mc ms Pc) (PostOf Qc mc ms free) (vx_Post XC mc ms free) := by
  intro m meth c A g ig mk a X hg hsize hdg hW hn hp
  have h1 : (headSpec ws rm).pre.before a A.U = true := atoms_intro fun w hw => hws w hw _ _ X.warmed
  have h2 : (Cond.codeWith y bytes maxL ret hh).before a A.U = true := hws _ hcode _ _ X.warmed
  have h3 : (Cond.initialized y.cls).before a A.U = true := hinit _ _ X.warmed
  have h4 : A.cells + (headSpec ws rm).room.cells ≤ R.cells := by rw [show (headSpec ws rm).room.cells = mc from hrc]; exact hp.1
  have h5 : A.slots + (headSpec ws rm).room.slots ≤ R.slots := by rw [show (headSpec ws rm).room.slots = ms from hrs]; exact hp.2.1
  have hPc : Pc a (A.U.calling g mk a) := hblind _ _ _ _ hp.2.2
  obtain ⟨U, Ls, c0, s0⟩ := A
  dsimp only [Pt.U, Pt.locs, Pt.cells, Pt.slots] at h1 h2 h3 h4 h5 X hn hPc ⊢
  obtain ⟨m9, methY, cY, hn9, hmY, hcY, -, hlY, -⟩ := Cond.codeWith_spec h2
  cases Option.some.inj (hn9.symm.trans hn)
  obtain ⟨kY, hkY, -⟩ := className_of_methodNamed hn
  have hinitY : kY.init = .initialized := Cond.initialized_spec (findClass_of_methodNamed hn) hkY h3
  have h : At U g.method c below := by rw [hg]; exact X.here
  have hlocals9 : W9 + (maxL + 11) + (headSpec ws rm).room.locals ≤ R.locals := hlocals
  have happ : (headSpec ws rm).appliesLoose y e.platform (U.calling g mk a) = true :=
    Spec.appliesLoose_calling (g := g) h hdg hn hkY hinitY
      (X.room_calling (g := g) (R' := (headSpec ws rm).room) hsize hmY hcY hframes (by rw [hlY]; omega) h4 h5) h1
  obtain ⟨mid, hmid⟩ := h.above
  have hfr : (U.setTop g).frames = (.java g :: mid) ++ below := by rw [State.frames_setTop' g h.top, hmid]; rfl
  obtain ⟨o, s₂, hsteps, -, hend, hq⟩ := Steps.callFree hM p X.admits X.cas X.clock (acts := []) hfr happ hPc trivial
  have hq' : vx_Q Qc XC mc ms free a (U.calling g mk a) o s₂ := hq
  rw [State.frames_setTop' g h.top] at hend
  obtain ⟨g₀, hg0⟩ := Option.isSome_iff_exists.mp h.top
  obtain ⟨r, hr⟩ := State.topJava?_eq_some.mp hg0
  have hr' : (({ U with heap := s₂.heap, slotsUsed := s₂.slotsUsed } : State).setVm s₂.vm).frames = .java g₀ :: r := hr
  rcases hq' with ⟨hqc, L, hfe, hL⟩ | ⟨q, rfl, E, ce, L, hx, hce, hcv, hcl, hW₂, hsm, hL⟩
  · obtain ⟨⟨v, rfl⟩, hW₂, e2, q2, q3, q4, q5, q6⟩ := id hfe
    have e3 : s₂ = ({ (U.calling g mk a).setFrames s₂.frames with heap := s₂.heap, slotsUsed := s₂.slotsUsed } : State).setVm s₂.vm := by
      have : s₂ = ({ s₂ with vm := (U.calling g mk a).vm } : State).setVm s₂.vm := rfl
      rw [e2] at this
      exact this
    obtain ⟨c₂, i₂, len₂, hc₂, hd₂, hf₂⟩ := hend
    have hW' : U.WarmedH s₂.vm := hW₂
    have hcc : c₂ = c := by
      have h1 : s₂.code? g.method = U.code? g.method := by
        rw [State.code?_eq, State.code?_eq, hW'.alike.method?]
      exact Option.some.inj (hc₂.symm.trans (h1.trans h.code))
    subst hcc
    have hlen : len₂ = len := by rw [hdg] at hd₂; cases hd₂; rfl
    subst hlen
    have hs₂ : s₂ = (({ U with heap := s₂.heap, slotsUsed := s₂.slotsUsed } : State).setVm s₂.vm).setTop { g with pc := g.pc + len₂, stack := v.toList ++ g.stack } := by
      refine e3.trans ?_
      rw [hf₂, State.calling_eq h.top, State.setFrames_setFrames, State.setTop_of_frames _ hr', hr]
      rfl
    have hsame : U.sameButNew ({ U with heap := s₂.heap, slotsUsed := s₂.slotsUsed } : State) L mc ms := by
      refine ⟨?_, q2, q3, q4, q5, q6⟩
      obtain ⟨t, ht, -⟩ := State.frames_cons hr
      show ({ U with heap := s₂.heap, slotsUsed := s₂.slotsUsed } : State) = { U.setFrames U.frames with heap := s₂.heap, slotsUsed := s₂.slotsUsed }
      rw [State.setFrames_self ht]
    subst hg
    refine Or.inl ⟨v, ⟨(({ U with heap := s₂.heap, slotsUsed := s₂.slotsUsed } : State).setVm s₂.vm), Ls ++ L, c0 + mc, s0 + ms⟩,
      ⟨X.admits, X.cas, X.clock, X.frames, X.room, X.hears, X.method, X.code, (X.here.setHeapUsed s₂.heap s₂.slotsUsed).setVm hW'.alike, X.tail, State.WarmedH.trans X.warmed hW', X.limits, X.bytes, X.same.trans (hsame.setVm s.vm)⟩,
      ⟨g, mk, s₂, L, rfl, rfl, hqc, rfl, hL, rfl, rfl⟩, ?_⟩
    show Steps p.tables e below _ ((({ U with heap := s₂.heap, slotsUsed := s₂.slotsUsed } : State).setVm s₂.vm).setTop { g with pc := g.pc + len₂, stack := v.toList ++ g.stack })
    rw [← hs₂]
    exact hsteps
  · obtain ⟨e2, q2, q3, q4, q5, q6⟩ := id hsm
    have e3 : s₂ = ({ (U.calling g mk a).setFrames s₂.frames with heap := s₂.heap, slotsUsed := s₂.slotsUsed } : State).setVm s₂.vm := by
      have : s₂ = ({ s₂ with vm := (U.calling g mk a).vm } : State).setVm s₂.vm := rfl
      rw [e2] at this
      exact this
    have hf₂ : s₂.frames = .throwing q :: .java g :: U.frames.tail := hend
    have hW' : U.WarmedH s₂.vm := hW₂
    have hs₂ : s₂ = ((({ U with heap := s₂.heap, slotsUsed := s₂.slotsUsed } : State).setVm s₂.vm).setTop g).pushFrame (.throwing q) := by
      refine e3.trans ?_
      rw [hf₂, State.calling_eq h.top, State.setFrames_setFrames, State.pushFrame, State.frames_setTop _ hr', State.setTop_of_frames _ hr', State.setFrames_setFrames, hr]
      rfl
    have hsame : U.sameButNew ({ U with heap := s₂.heap, slotsUsed := s₂.slotsUsed } : State) L mc ms := by
      refine ⟨?_, q2, q3, q4, q5, q6⟩
      obtain ⟨t, ht, -⟩ := State.frames_cons hr
      show ({ U with heap := s₂.heap, slotsUsed := s₂.slotsUsed } : State) = { U.setFrames U.frames with heap := s₂.heap, slotsUsed := s₂.slotsUsed }
      rw [State.setFrames_self ht]
    subst hg
    refine Or.inr ⟨q, ⟨(({ U with heap := s₂.heap, slotsUsed := s₂.slotsUsed } : State).setVm s₂.vm), Ls ++ L, c0 + mc, s0 + ms⟩,
      ⟨X.admits, X.cas, X.clock, X.frames, X.room, X.hears, X.method, X.code, (X.here.setHeapUsed s₂.heap s₂.slotsUsed).setVm hW'.alike, X.tail, State.WarmedH.trans X.warmed hW', X.limits, X.bytes, X.same.trans (hsame.setVm s.vm)⟩,
      ⟨g, mk, s₂, L, E, ce, rfl, rfl, hx, hce, hcv, hcl, rfl, hL, rfl, rfl⟩, ?_⟩
    show Steps p.tables e below _ (((({ U with heap := s₂.heap, slotsUsed := s₂.slotsUsed } : State).setVm s₂.vm).setTop g).pushFrame (.throwing q))
    rw [← hs₂]
    exact hsteps
end
variable {p : Program} {l : Launch} {e : Env} {R : Room} {s : State} {m : MethodId} {args : Array Value} {below : List Frame} {meth : Method} {c : Code} {T : State} {H : Heap} {locs : List Loc} {cells slots : Nat}
theorem vx_callVX (X : Stand p l e R s m args below meth c T locs cells slots) (hexec : p.tables.exec = Jvm.exec) {own C : String} {index : Nat} {y : MethodName} {bytes : ByteArray} {maxL : Nat} {ret : Option FieldType} {hh : List (Nat × Nat × Nat × Nat)}
    (hown : s.vm.findClass own = some m.cls) (hlink : (Cond.methodLink own index y).before args s = true) (hinst : (Cond.instanceMethod y).before args s = true) (hsel : (Cond.selects C y y).before args s = true)
    (hcode : (Cond.codeWith y bytes maxL ret hh).before args s = true) (hy : y.cls ≠ "java/lang/invoke/MethodHandle" ∧ y.cls ≠ "java/lang/invoke/VarHandle")
    {W9 : Nat} {Pre : Pt → Array Value → Prop} {Post : Pt → Array Value → Option Value → Pt → Prop} {PostX : Pt → Array Value → Addr → Pt → Prop} (hK : vx_Back l R p e below s args y 3 W9 Pre Post PostX)
    {b : Addr} {cellB : Cell} (hcell : T.heap[b]? = some cellB) (hobj : cellB.vm.isStatics = false) (hcls : s.vm.findClass C = some cellB.cls)
    {g : JFrame} (hg : g.method = m) (hsize : g.locals.size = c.maxLocals) {argsL rest : List Value} (hlen : ∀ sig, parseMethodDescriptor y.desc = some sig → argsL.length = sig.parameters.length)
    (hstack : g.stack = argsL.reverse ++ .ref b :: rest) (hW : 2 * g.monitorRoom + (rest.map fun v => v.category).sum ≤ W9) (hdg : decode c.code g.pc = .ok (.invokevirtual index, 3))
    (hpre : ∀ vm₁, s.WarmedH vm₁ → Pre ⟨T.setVm vm₁, locs, cells, slots⟩ (Value.ref b :: argsL).toArray) :
    (∃ (v : Option Value) (vm₁ : Vm) (B : Pt), s.WarmedH vm₁ ∧ Stand p l e R s m args below meth c B.U B.locs B.cells B.slots ∧ Post ⟨T.setVm vm₁, locs, cells, slots⟩ (Value.ref b :: argsL).toArray v B ∧
      ∀ target, Steps p.tables e below (B.U.setTop { g with pc := g.pc + 3, stack := v.toList ++ rest }) target → Steps p.tables e below (T.setTop g) target) ∨
    (∃ (q : Addr) (vm₁ : Vm) (B : Pt), s.WarmedH vm₁ ∧ Stand p l e R s m args below meth c B.U B.locs B.cells B.slots ∧ PostX ⟨T.setVm vm₁, locs, cells, slots⟩ (Value.ref b :: argsL).toArray q B ∧
      Steps p.tables e below (T.setTop g) ((B.U.setTop { g with stack := rest }).pushFrame (.throwing q))) := by
  obtain ⟨mk, methM, hnamed, hmethM, hstM, habM⟩ := Cond.instanceMethod_spec hinst
  obtain ⟨m8, methM', cM, hn8, hmethM', -, -, -, -, -, -, hsigM⟩ := Cond.codeWith_spec hcode
  cases Option.some.inj (hn8.symm.trans hnamed)
  cases hmethM.symm.trans hmethM'
  obtain ⟨c2, r2, m2, q1, q2, q3, q4, kP, hkP, hkPi⟩ := Cond.selects_spec hsel
  cases hcls.symm.trans q1
  cases (State.methodFound?_of_named hnamed hy).symm.trans q2
  cases hnamed.symm.trans q3
  have hselP : selectMethod e.platform s.vm cellB.cls mk = .method mk := by rw [Launch.admits_selectMethod X.admits]; exact q4
  obtain ⟨vm₁, X₁, hstep₁⟩ := X.invokevirtual hexec hown hlink hnamed hmethM hstM hkP hkPi hy (a := b) (cell := cellB) hcell
    (fun z h => by rw [h] at hobj; cases hobj) hselP hmethM habM hkP hkPi (g := g) hg (argsL := argsL) (rest := rest) (hlen _ hsigM) hstack hdg
  rcases hK m meth c ⟨T.setVm vm₁, locs, cells, slots⟩ { g with stack := rest } (.invokevirtual index) mk (Value.ref b :: argsL).toArray X₁ hg hsize hdg hW (X₁.named hnamed) (hpre vm₁ X₁.warmed) with ⟨v, B, X', hpost, hsteps⟩ | ⟨q, B, X', hpost, hsteps⟩
  · exact Or.inl ⟨v, vm₁, B, X₁.warmed, X', hpost, fun target h => hstep₁ _ fun acts => by rw [doInvoke_state]; exact hsteps.trans h⟩
  · exact Or.inr ⟨q, vm₁, B, X₁.warmed, X', hpost, hstep₁ _ fun acts => by rw [doInvoke_state]; exact hsteps⟩
theorem vx_callSX (X : Stand p l e R s m args below meth c T locs cells slots) (hexec : p.tables.exec = Jvm.exec) {own : String} {index : Nat} {y : MethodName} {bytes : ByteArray} {maxL : Nat} {ret : Option FieldType} {hh : List (Nat × Nat × Nat × Nat)}
    (hown : s.vm.findClass own = some m.cls) (hlink : (Cond.methodLink own index y).before args s = true) (hstat : (Cond.static y).before args s = true) (hinit : (Cond.initialized y.cls).before args s = true)
    (hcode : (Cond.codeWith y bytes maxL ret hh).before args s = true) (hy : y.cls ≠ "java/lang/invoke/MethodHandle" ∧ y.cls ≠ "java/lang/invoke/VarHandle")
    {W9 : Nat} {Pre : Pt → Array Value → Prop} {Post : Pt → Array Value → Option Value → Pt → Prop} {PostX : Pt → Array Value → Addr → Pt → Prop} (hK : vx_Back l R p e below s args y 3 W9 Pre Post PostX)
    {g : JFrame} (hg : g.method = m) (hsize : g.locals.size = c.maxLocals) {argsL rest : List Value} (hlen : ∀ sig, parseMethodDescriptor y.desc = some sig → argsL.length = sig.parameters.length)
    (hstack : g.stack = argsL.reverse ++ rest) (hW : 2 * g.monitorRoom + (rest.map fun v => v.category).sum ≤ W9) (hdg : decode c.code g.pc = .ok (.invokestatic index, 3))
    (hpre : ∀ vm₁, s.WarmedH vm₁ → Pre ⟨T.setVm vm₁, locs, cells, slots⟩ argsL.toArray) :
    (∃ (v : Option Value) (vm₁ : Vm) (B : Pt), s.WarmedH vm₁ ∧ Stand p l e R s m args below meth c B.U B.locs B.cells B.slots ∧ Post ⟨T.setVm vm₁, locs, cells, slots⟩ argsL.toArray v B ∧
      ∀ target, Steps p.tables e below (B.U.setTop { g with pc := g.pc + 3, stack := v.toList ++ rest }) target → Steps p.tables e below (T.setTop g) target) ∨
    (∃ (q : Addr) (vm₁ : Vm) (B : Pt), s.WarmedH vm₁ ∧ Stand p l e R s m args below meth c B.U B.locs B.cells B.slots ∧ PostX ⟨T.setVm vm₁, locs, cells, slots⟩ argsL.toArray q B ∧
      Steps p.tables e below (T.setTop g) ((B.U.setTop { g with stack := rest }).pushFrame (.throwing q))) := by
  obtain ⟨mk, methM, cM, hnamed, hmethM, -, -, -, -, -, -, hsigM⟩ := Cond.codeWith_spec hcode
  have hstatic : methM.isStatic = true := Cond.static_spec hnamed hmethM hstat
  obtain ⟨kP, hkP, -⟩ := className_of_methodNamed hnamed
  have hinitP : kP.init = .initialized := Cond.initialized_spec (findClass_of_methodNamed hnamed) hkP hinit
  obtain ⟨vm₁, X₁, hstep₁⟩ := X.invokestatic hexec hown hlink hnamed hmethM hstatic hkP hinitP hy (g := g) hg (argsL := argsL) (rest := rest) (hlen _ hsigM) hstack hdg
  rcases hK m meth c ⟨T.setVm vm₁, locs, cells, slots⟩ { g with stack := rest } (.invokestatic index) mk argsL.toArray X₁ hg hsize hdg hW (X₁.named hnamed) (hpre vm₁ X₁.warmed) with ⟨v, B, X', hpost, hsteps⟩ | ⟨q, B, X', hpost, hsteps⟩
  · exact Or.inl ⟨v, vm₁, B, X₁.warmed, X', hpost, fun target h => hstep₁ _ fun acts => by rw [doInvoke_state]; exact hsteps.trans h⟩
  · exact Or.inr ⟨q, vm₁, B, X₁.warmed, X', hpost, hstep₁ _ fun acts => by rw [doInvoke_state]; exact hsteps⟩
theorem vx_callVW (X : Stand p l e R s m args below meth c T locs cells slots) (hexec : p.tables.exec = Jvm.exec) {own C : String} {index : Nat} {y : MethodName} {bytes : ByteArray} {maxL : Nat} {ret : Option FieldType} {hh : List (Nat × Nat × Nat × Nat)}
    (hown : s.vm.findClass own = some m.cls) (hlink : (Cond.methodLink own index y).before args s = true) (hinst : (Cond.instanceMethod y).before args s = true) (hsel : (Cond.selects C y y).before args s = true)
    (hcode : (Cond.codeWith y bytes maxL ret hh).before args s = true) (hy : y.cls ≠ "java/lang/invoke/MethodHandle" ∧ y.cls ≠ "java/lang/invoke/VarHandle")
    {W9 : Nat} {Pre : Pt → Array Value → Prop} {Post : Pt → Array Value → Option Value → Pt → Prop} (hK : Back l R p e below s args y 3 W9 Pre Post)
    {b : Addr} {cellB : Cell} (hcell : T.heap[b]? = some cellB) (hobj : cellB.vm.isStatics = false) (hcls : s.vm.findClass C = some cellB.cls)
    {g : JFrame} (hg : g.method = m) (hsize : g.locals.size = c.maxLocals) {argsL rest : List Value} (hlen : ∀ sig, parseMethodDescriptor y.desc = some sig → argsL.length = sig.parameters.length)
    (hstack : g.stack = argsL.reverse ++ .ref b :: rest) (hW : 2 * g.monitorRoom + (rest.map fun v => v.category).sum ≤ W9) (hdg : decode c.code g.pc = .ok (.invokevirtual index, 3))
    (hpre : ∀ vm₁, s.WarmedH vm₁ → Pre ⟨T.setVm vm₁, locs, cells, slots⟩ (Value.ref b :: argsL).toArray) :
    ∃ (v : Option Value) (vm₁ : Vm) (B : Pt), s.WarmedH vm₁ ∧ Stand p l e R s m args below meth c B.U B.locs B.cells B.slots ∧ Post ⟨T.setVm vm₁, locs, cells, slots⟩ (Value.ref b :: argsL).toArray v B ∧
      ∀ target, Steps p.tables e below (B.U.setTop { g with pc := g.pc + 3, stack := v.toList ++ rest }) target → Steps p.tables e below (T.setTop g) target := by
  obtain ⟨mk, methM, hnamed, hmethM, hstM, habM⟩ := Cond.instanceMethod_spec hinst
  obtain ⟨m8, methM', cM, hn8, hmethM', -, -, -, -, -, -, hsigM⟩ := Cond.codeWith_spec hcode
  cases Option.some.inj (hn8.symm.trans hnamed)
  cases hmethM.symm.trans hmethM'
  obtain ⟨c2, r2, m2, q1, q2, q3, q4, kP, hkP, hkPi⟩ := Cond.selects_spec hsel
  cases hcls.symm.trans q1
  cases (State.methodFound?_of_named hnamed hy).symm.trans q2
  cases hnamed.symm.trans q3
  have hselP : selectMethod e.platform s.vm cellB.cls mk = .method mk := by rw [Launch.admits_selectMethod X.admits]; exact q4
  obtain ⟨vm₁, X₁, hstep₁⟩ := X.invokevirtual hexec hown hlink hnamed hmethM hstM hkP hkPi hy (a := b) (cell := cellB) hcell
    (fun z h => by rw [h] at hobj; cases hobj) hselP hmethM habM hkP hkPi (g := g) hg (argsL := argsL) (rest := rest) (hlen _ hsigM) hstack hdg
  obtain ⟨v, B, X', hpost, hsteps⟩ := hK m meth c ⟨T.setVm vm₁, locs, cells, slots⟩ { g with stack := rest } (.invokevirtual index) mk (Value.ref b :: argsL).toArray X₁ hg hsize hdg hW (X₁.named hnamed) (hpre vm₁ X₁.warmed)
  exact ⟨v, vm₁, B, X₁.warmed, X', hpost, fun target h => hstep₁ _ fun acts => by rw [doInvoke_state]; exact hsteps.trans h⟩
abbrev vx_CVW (R : Room) (s : State) (args : Array Value) (own C : String) (index : Nat) (y : MethodName) (bytes : ByteArray) (maxL : Nat) (ret : Option FieldType) (hh : List (Nat × Nat × Nat × Nat)) (ws : List Cond) (rm : Room) (mc ms n : Nat) : Prop :=
  (rm.cells = mc ∧ rm.slots = ms ∧ rm.frames + 1 ≤ R.frames ∧ 8 + (maxL + 11) + rm.locals ≤ R.locals ∧ (∀ w ∈ ws, ∀ (a' : Array Value) (U : State), s.WarmedH U.vm → w.before a' U = true) ∧ Cond.codeWith y bytes maxL ret hh ∈ ws) ∧
  (Cond.codeWith y bytes maxL ret hh).before args s = true ∧ (Cond.initialized y.cls).before args s = true ∧ (y.cls ≠ "java/lang/invoke/MethodHandle" ∧ y.cls ≠ "java/lang/invoke/VarHandle") ∧
  (∀ sig, parseMethodDescriptor y.desc = some sig → n = sig.parameters.length) ∧ (Cond.methodLink own index y).before args s = true ∧ (Cond.instanceMethod y).before args s = true ∧ (Cond.selects C y y).before args s = true
theorem vx_cwVW {own C : String} {index maxL mc ms : Nat} {y : MethodName} {bytes : ByteArray} {ret : Option FieldType} {hh : List (Nat × Nat × Nat × Nat)} {Ts ws ws' : List Cond} {rm : Room} (n : Nat) (ht : ∀ w ∈ Ts, w.before args s = true) (hT : GoodIn Ts (wsV own index C y ws)) (hw : ws = Cond.codeWith y bytes maxL ret hh :: ws') (hrc : rm.cells = mc) (hrs : rm.slots = ms)
    (hd : y.cls = C ∧ y.cls ≠ "java/lang/invoke/MethodHandle" ∧ y.cls ≠ "java/lang/invoke/VarHandle" ∧ (parseMethodDescriptor y.desc).map (fun d => d.parameters.length) = some n) (hR : rm.frames + 1 ≤ R.frames ∧ 8 + (maxL + 11) + rm.locals ≤ R.locals) :
    vx_CVW R s args own C index y bytes maxL ret hh ws rm mc ms n := by
  obtain ⟨hC, hd⟩ := hd
  subst hC
  have ok : ∀ w ∈ wsV own index y.cls y ws, w.before args s = true := fun w h => ht w (hT w h).1
  have hG : GoodIn Ts ws := fun w h => hT w (by unfold wsV; exact List.mem_append_right _ h)
  have hc : Cond.codeWith y bytes maxL ret hh ∈ ws := by rw [hw]; exact List.mem_cons_self
  refine ⟨⟨hrc, hrs, hR.1, hR.2, pay_in ht hG, hc⟩, ht _ (hG _ hc).1, ok _ (by simp [wsV]), ⟨hd.1, hd.2.1⟩, fun sig h => ?_, ok _ (by simp [wsV]), ok _ (by simp [wsV]), ok _ (by simp [wsV])⟩
  have h2 := hd.2.2
  rw [h] at h2
  exact (Option.some.inj h2).symm
theorem vx_runVW {y : MethodName} {bytes cc : ByteArray} {maxL nL mc ms n index : Nat} {ret : Option FieldType} {hh : List (Nat × Nat × Nat × Nat)} {ws : List Cond} {rm : Room} {Pc : Array Value → State → Prop} {Qc : Array Value → State → Outcome → State → Prop} {free : Addr → Prop} {Ts : List Cond} {own C : String} {b : Addr} {As rest : List Value} {g : JFrame}
    (S : CallFix p m c cc nL s args Ts own) (hM : Met l y ws rm Pc Qc mc ms free) (cw : vx_CVW R s args own C index y bytes maxL ret hh ws rm mc ms n) (hp : PreV s H C b Pc As)
    (hg : g.method = m) (hn : As.length = n) (hsize : g.locals.size = nL) (hstack : g.stack = As.reverse ++ .ref b :: rest) (hW : 2 * g.monitorRoom + (rest.map fun v => v.category).sum ≤ 8) (hdg : decode cc g.pc = .ok (.invokevirtual index, 3)) (hf : cells + mc ≤ R.cells ∧ slots + ms ≤ R.slots) :
    va_Run p l e R s m args below meth c H locs cells slots mc ms g rest (Qc (Value.ref b :: As).toArray) free := by
  obtain ⟨⟨hrc, hrs, hfr, hlo, hws, hcw⟩, hcode, hini, hy, hlen, hl, hin, hse⟩ := cw
  have hK : Back l R p e below s args y 3 8 (PreOf R mc ms Pc) (PostOf Qc mc ms free) := va_backW (hh := hh) (bytes := bytes) (maxL := maxL) (ret := ret) hM hp.1 hrc hrs hfr hlo hws hcw (fun a' U hW => word_at hW (Or.inl (by first | rfl | simp [Cond.onTables, Cond.keeps, Cond.steady])) hini)
  obtain ⟨hx, hb, hml, ho, -⟩ := S
  obtain ⟨-, ⟨cellB, hcB, hoB, hclB⟩, hPc⟩ := hp
  intro T hT X
  obtain ⟨v, vm₁, ⟨U', l2, c2, s2⟩, hW₁, X', ⟨g', mk, t, L, e1, e2, hq, h1, hL, h2, h3⟩, st⟩ := vx_callVW X hx (C := C) (hh := hh) (bytes := bytes) (maxL := maxL) (ret := ret) ho hl hin hse hcode hy hK (by rw [hT]; exact hcB) hoB hclB hg (hsize.trans hml.symm) (argsL := As) (rest := rest) (fun sig h => hn.trans (hlen sig h)) hstack hW (by rw [hb]; exact hdg)
    (fun vm₁ hW₁ => ⟨hf.1, hf.2, hPc (T.setVm vm₁) hT hW₁⟩)
  dsimp only [Pt.U, Pt.locs, Pt.cells, Pt.slots] at X' e1 e2 h1 h2 h3 st
  subst h1; subst h2; subst h3
  exact ⟨v, (T.setVm vm₁).calling g' mk (Value.ref b :: As).toArray, t, U', L, hT, X', hL, e1, e2, hq, st⟩
section
variable {y : MethodName} {bytes cc : ByteArray} {maxL nL mc ms n index : Nat} {ret : Option FieldType} {ws : List Cond} {rm : Room} {Pc : Array Value → State → Prop} {Qc : Array Value → State → Outcome → State → Prop} {XC : String → State → State → Prop} {free : Addr → Prop} {Ts : List Cond} {own C : String} {b : Addr} {As rest : List Value} {g : JFrame}
theorem vx_runVX {hh : List (Nat × Nat × Nat × Nat)} (S : CallFix p m c cc nL s args Ts own) (hM : vx_Met l y ws rm Pc Qc XC mc ms free) (cw : vx_CVW R s args own C index y bytes maxL ret hh ws rm mc ms n) (hp : PreV s H C b Pc As)
    (hg : g.method = m) (hn : As.length = n) (hsize : g.locals.size = nL) (hstack : g.stack = As.reverse ++ .ref b :: rest) (hW : 2 * g.monitorRoom + (rest.map fun v => v.category).sum ≤ 8) (hdg : decode cc g.pc = .ok (.invokevirtual index, 3)) (hf : cells + mc ≤ R.cells ∧ slots + ms ≤ R.slots) :
    vx_Run p l e R s m args below meth c H locs cells slots mc ms g rest (Qc (Value.ref b :: As).toArray) XC free := by
  obtain ⟨⟨hrc, hrs, hfr, hlo, hws, hcw⟩, hcode, hini, hy, hlen, hl, hin, hse⟩ := cw
  have hK : vx_Back l R p e below s args y 3 8 (PreOf R mc ms Pc) (PostOf Qc mc ms free) (vx_Post XC mc ms free) := vx_backW (hh := hh) (bytes := bytes) (maxL := maxL) (ret := ret) hM hp.1 hrc hrs hfr hlo hws hcw (fun a' U hW => word_at hW (Or.inl (by first | rfl | simp [Cond.onTables, Cond.keeps, Cond.steady])) hini)
  obtain ⟨hx, hb, hml, ho, -⟩ := S
  obtain ⟨-, ⟨cellB, hcB, hoB, hclB⟩, hPc⟩ := hp
  intro T hT X
  rcases vx_callVX X hx (C := C) (hh := hh) (bytes := bytes) (maxL := maxL) (ret := ret) ho hl hin hse hcode hy hK (by rw [hT]; exact hcB) hoB hclB hg (hsize.trans hml.symm) (argsL := As) (rest := rest) (fun sig h => hn.trans (hlen sig h)) hstack hW (by rw [hb]; exact hdg)
    (fun vm₁ hW₁ => ⟨hf.1, hf.2, hPc (T.setVm vm₁) hT hW₁⟩) with ⟨v, vm₁, ⟨U', l2, c2, s2⟩, hW₁, X', ⟨g', mk, t, L, e1, e2, hq, h1, hL, h2, h3⟩, st⟩ | ⟨q, vm₁, ⟨U', l2, c2, s2⟩, hW₁, X', ⟨g', mk, t, L, E, ce, e1, e2, hq, hce, hcv, hcl, h1, hL, h2, h3⟩, st⟩
  · dsimp only [Pt.U, Pt.locs, Pt.cells, Pt.slots] at X' e1 e2 h1 h2 h3 st
    subst h1; subst h2; subst h3
    exact Or.inl ⟨v, (T.setVm vm₁).calling g' mk (Value.ref b :: As).toArray, t, U', L, hT, X', hL, e1, e2, hq, st⟩
  · dsimp only [Pt.U, Pt.locs, Pt.cells, Pt.slots] at X' e1 e2 h1 h2 h3 st hcl
    subst h1; subst h2; subst h3
    exact Or.inr ⟨q, (T.setVm vm₁).calling g' mk (Value.ref b :: As).toArray, t, U', L, E, ce, hT, X', hL, e1, e2, hq, hce, hcv, vx_cls hW₁ hcl, st⟩
theorem vx_runSX {hh : List (Nat × Nat × Nat × Nat)} (S : CallFix p m c cc nL s args Ts own) (hM : vx_Met l y ws rm Pc Qc XC mc ms free) (cw : vx_CSW R s args own index y bytes maxL ret hh ws rm mc ms n) (hp : PreS s H Pc As)
    (hg : g.method = m) (hn : As.length = n) (hsize : g.locals.size = nL) (hstack : g.stack = As.reverse ++ rest) (hW : 2 * g.monitorRoom + (rest.map fun v => v.category).sum ≤ 8) (hdg : decode cc g.pc = .ok (.invokestatic index, 3)) (hf : cells + mc ≤ R.cells ∧ slots + ms ≤ R.slots) :
    vx_Run p l e R s m args below meth c H locs cells slots mc ms g rest (Qc As.toArray) XC free := by
  obtain ⟨⟨hrc, hrs, hfr, hlo, hws, hcw⟩, hcode, hini, hy, hlen, hl, hstt⟩ := cw
  have hK : vx_Back l R p e below s args y 3 8 (PreOf R mc ms Pc) (PostOf Qc mc ms free) (vx_Post XC mc ms free) := vx_backW (hh := hh) (bytes := bytes) (maxL := maxL) (ret := ret) hM hp.1 hrc hrs hfr hlo hws hcw (fun a' U hW => word_at hW (Or.inl (by first | rfl | simp [Cond.onTables, Cond.keeps, Cond.steady])) hini)
  obtain ⟨hx, hb, hml, ho, -⟩ := S
  intro T hT X
  rcases vx_callSX X hx (hh := hh) (bytes := bytes) (maxL := maxL) (ret := ret) ho hl hstt hini hcode hy hK hg (hsize.trans hml.symm) (argsL := As) (rest := rest) (fun sig h => hn.trans (hlen sig h)) hstack hW (by rw [hb]; exact hdg)
    (fun vm₁ hW₁ => ⟨hf.1, hf.2, hp.2 (T.setVm vm₁) hT hW₁⟩) with ⟨v, vm₁, ⟨U', l2, c2, s2⟩, hW₁, X', ⟨g', mk, t, L, e1, e2, hq, h1, hL, h2, h3⟩, st⟩ | ⟨q, vm₁, ⟨U', l2, c2, s2⟩, hW₁, X', ⟨g', mk, t, L, E, ce, e1, e2, hq, hce, hcv, hcl, h1, hL, h2, h3⟩, st⟩
  · dsimp only [Pt.U, Pt.locs, Pt.cells, Pt.slots] at X' e1 e2 h1 h2 h3 st
    subst h1; subst h2; subst h3
    exact Or.inl ⟨v, (T.setVm vm₁).calling g' mk As.toArray, t, U', L, hT, X', hL, e1, e2, hq, st⟩
  · dsimp only [Pt.U, Pt.locs, Pt.cells, Pt.slots] at X' e1 e2 h1 h2 h3 st hcl
    subst h1; subst h2; subst h3
    exact Or.inr ⟨q, (T.setVm vm₁).calling g' mk As.toArray, t, U', L, E, ce, hT, X', hL, e1, e2, hq, hce, hcv, vx_cls hW₁ hcl, st⟩
end
end VXH
theorem vx_ofWH {l : Launch} {y : MethodName} {ws ws' : List Cond} {rm : Room} {Pc : Array Value → State → Prop} {Qc : Array Value → State → Outcome → State → Prop} {XC : String → State → State → Prop} {mc ms : Nat} {free : Addr → Prop} {cc : ByteArray} {maxL : Nat} {ret : Option FieldType} {hh : List (Nat × Nat × Nat × Nat)}
    (hy : plainName y.cls = true) (hw : ws = Cond.codeWith y cc maxL ret hh :: ws')
    (body : ∀ p e s m args below meth c s₁, BodyLoose p l y (headSpec ws rm) cc maxL ret e s m args below meth c s₁ → c.maxLocals = maxL → Pc args s →
      W p l e (headSpec ws rm).room s m args below meth c s.heap [] 0 0 (vx_MQ below Qc XC args s mc ms free) (entryFrame m args maxL)) : vx_Met l y ws rm Pc Qc XC mc ms free := by
  refine MetFree.of_bodyS (code := cc) (maxLocals := maxL) (ret := ret) hy ?_ ?_
  · intro args s m h hn
    obtain ⟨m9, meth, c, hn9, h1, h2, h3, h4, -, h5, h6, -⟩ := Cond.codeWith_spec (atoms_spec (ws := ws) h _ (by rw [hw]; exact List.mem_cons_self))
    cases hn.symm.trans hn9
    exact ⟨meth, c, h1, h2, h3, h4, h5, h6⟩
  · intro p e s m args below meth c s₁ B hml hP _
    have hh0 : s₁.heap = s.heap := by rw [B.state]; rfl
    obtain ⟨t, a1, o, b1, b2, b3⟩ := body p e s m args below meth c s₁ B hml hP s₁ hh0 (Stand.of_body B)
    exact ⟨t, o, a1, b1, b2, b3⟩
/-! ===== END ===== -/
end
section
/-! ===== BEGIN printed: names, fields, word lists, decode rows ===== -/
def RX0 : String := "TypedColumns$Column"
def TX0 : u_T := fun k => match k with
  | 0 => ("TypedColumns$Column", "kind", "I", true)
  | 1 => ("TypedColumns$Column", "length", "I", true)
  | 2 => ("TypedColumns$Column", "wholes", "[J", true)
  | _ => ("TypedColumns$Column", "reals", "[D", true)
def tyX0 : Nat → FieldType := fun k => match k with
  | 0 => .int
  | 1 => .int
  | 2 => .array .long
  | _ => .array .double
abbrev wsX00 : List Cond := u_ws RX0 TX0 4
theorem nmX0 : ∀ a, a < 4 → ∀ b, b < 4 → a ≠ b → (TX0 a).2.1 ≠ (TX0 b).2.1 := by decide +kernel
theorem tyX0_ok : ∀ k, k < 4 → parseFieldDescriptor (TX0 k).2.2.1 = some (tyX0 k) := by decide +kernel
abbrev cX0_init : ByteArray := prog_2_method_1_code
def yX0_init : MethodName := ⟨RX0, "<init>", "(II)V"⟩
abbrev cX0_wholeAt : ByteArray := prog_2_method_2_code
def yX0_wholeAt : MethodName := ⟨RX0, "wholeAt", "(I)J"⟩
abbrev cX0_realAt : ByteArray := prog_2_method_3_code
def yX0_realAt : MethodName := ⟨RX0, "realAt", "(I)D"⟩
abbrev cX0_doubleAt : ByteArray := prog_2_method_4_code
def yX0_doubleAt : MethodName := ⟨RX0, "doubleAt", "(I)D"⟩
abbrev cX0_floatAt : ByteArray := prog_2_method_5_code
def yX0_floatAt : MethodName := ⟨RX0, "floatAt", "(I)F"⟩
abbrev cX0_putWhole : ByteArray := prog_2_method_6_code
def yX0_putWhole : MethodName := ⟨RX0, "putWhole", "(IJ)V"⟩
abbrev cX0_putReal : ByteArray := prog_2_method_7_code
def yX0_putReal : MethodName := ⟨RX0, "putReal", "(ID)V"⟩
abbrev cX0_takeCells : ByteArray := prog_2_method_8_code
def yX0_takeCells : MethodName := ⟨RX0, "takeCells", "(LTypedColumns$Column;III)V"⟩
abbrev cX0_takeWidened : ByteArray := prog_2_method_9_code
def yX0_takeWidened : MethodName := ⟨RX0, "takeWidened", "(LTypedColumns$Column;)V"⟩
abbrev cX0_sum : ByteArray := prog_2_method_10_code
def yX0_sum : MethodName := ⟨RX0, "sum", "()D"⟩
def RX1 : String := "TypedColumns$DoubleBits"
def TX1 : u_T := fun k => match k with
  | _ => ("TypedColumns$DoubleBits", "powers", "[D", true)
def tyX1 : Nat → FieldType := fun k => match k with
  | _ => .array .double
abbrev wsX10 : List Cond := u_ws RX1 TX1 1
theorem nmX1 : ∀ a, a < 1 → ∀ b, b < 1 → a ≠ b → (TX1 a).2.1 ≠ (TX1 b).2.1 := by decide +kernel
theorem tyX1_ok : ∀ k, k < 1 → parseFieldDescriptor (TX1 k).2.2.1 = some (tyX1 k) := by decide +kernel
abbrev cX1_init : ByteArray := prog_3_method_1_code
def yX1_init : MethodName := ⟨RX1, "<init>", "()V"⟩
abbrev cX1_of : ByteArray := prog_3_method_2_code
def yX1_of : MethodName := ⟨RX1, "of", "(D)J"⟩
abbrev cX1_ofPositive : ByteArray := prog_3_method_3_code
def yX1_ofPositive : MethodName := ⟨RX1, "ofPositive", "(D)J"⟩
abbrev cX1_ofNormal : ByteArray := prog_3_method_4_code
def yX1_ofNormal : MethodName := ⟨RX1, "ofNormal", "(D)J"⟩
def RX2 : String := "TypedColumns"
def TX2 : u_T := fun k => match k with
  | 0 => ("TypedColumns", "columns", "[LTypedColumns$Column;", true)
  | 1 => ("TypedColumns", "counts", "[I", true)
  | 2 => ("TypedColumns", "doubleBits", "LTypedColumns$DoubleBits;", true)
  | 3 => ("TypedColumns", "created", "I", false)
  | _ => ("TypedColumns", "latestCode", "I", false)
def tyX2 : Nat → FieldType := fun k => match k with
  | 0 => .array (.object "TypedColumns$Column")
  | 1 => .array .int
  | 2 => .object "TypedColumns$DoubleBits"
  | 3 => .int
  | _ => .int
abbrev wsX20 : List Cond := u_ws RX2 TX2 5
theorem nmX2 : ∀ a, a < 5 → ∀ b, b < 5 → a ≠ b → (TX2 a).2.1 ≠ (TX2 b).2.1 := by decide +kernel
theorem tyX2_ok : ∀ k, k < 5 → parseFieldDescriptor (TX2 k).2.2.1 = some (tyX2 k) := by decide +kernel
abbrev cX2_init : ByteArray := prog_1_method_1_code
def yX2_init : MethodName := ⟨RX2, "<init>", "()V"⟩
abbrev cX2_create : ByteArray := prog_1_method_2_code
def yX2_create : MethodName := ⟨RX2, "create", "(II)I"⟩
abbrev cX2_columnCount : ByteArray := prog_1_method_3_code
def yX2_columnCount : MethodName := ⟨RX2, "columnCount", "()I"⟩
abbrev cX2_kind : ByteArray := prog_1_method_4_code
def yX2_kind : MethodName := ⟨RX2, "kind", "(I)I"⟩
abbrev cX2_length : ByteArray := prog_1_method_5_code
def yX2_length : MethodName := ⟨RX2, "length", "(I)I"⟩
abbrev cX2_readBoolean : ByteArray := prog_1_method_6_code
def yX2_readBoolean : MethodName := ⟨RX2, "readBoolean", "(II)Z"⟩
abbrev cX2_readByte : ByteArray := prog_1_method_7_code
def yX2_readByte : MethodName := ⟨RX2, "readByte", "(II)I"⟩
abbrev cX2_readChar : ByteArray := prog_1_method_8_code
def yX2_readChar : MethodName := ⟨RX2, "readChar", "(II)I"⟩
abbrev cX2_readShort : ByteArray := prog_1_method_9_code
def yX2_readShort : MethodName := ⟨RX2, "readShort", "(II)I"⟩
abbrev cX2_readInt : ByteArray := prog_1_method_10_code
def yX2_readInt : MethodName := ⟨RX2, "readInt", "(II)I"⟩
abbrev cX2_readLong : ByteArray := prog_1_method_11_code
def yX2_readLong : MethodName := ⟨RX2, "readLong", "(II)J"⟩
abbrev cX2_readFloat : ByteArray := prog_1_method_12_code
def yX2_readFloat : MethodName := ⟨RX2, "readFloat", "(II)F"⟩
abbrev cX2_readDouble : ByteArray := prog_1_method_13_code
def yX2_readDouble : MethodName := ⟨RX2, "readDouble", "(II)D"⟩
abbrev cX2_readAny : ByteArray := prog_1_method_14_code
def yX2_readAny : MethodName := ⟨RX2, "readAny", "(II)D"⟩
abbrev cX2_writeBoolean : ByteArray := prog_1_method_15_code
def yX2_writeBoolean : MethodName := ⟨RX2, "writeBoolean", "(IIZ)I"⟩
abbrev cX2_writeByte : ByteArray := prog_1_method_16_code
def yX2_writeByte : MethodName := ⟨RX2, "writeByte", "(III)I"⟩
abbrev cX2_writeChar : ByteArray := prog_1_method_17_code
def yX2_writeChar : MethodName := ⟨RX2, "writeChar", "(III)I"⟩
abbrev cX2_writeShort : ByteArray := prog_1_method_18_code
def yX2_writeShort : MethodName := ⟨RX2, "writeShort", "(III)I"⟩
abbrev cX2_writeInt : ByteArray := prog_1_method_19_code
def yX2_writeInt : MethodName := ⟨RX2, "writeInt", "(III)I"⟩
abbrev cX2_writeLong : ByteArray := prog_1_method_20_code
def yX2_writeLong : MethodName := ⟨RX2, "writeLong", "(IIJ)I"⟩
abbrev cX2_writeFloat : ByteArray := prog_1_method_21_code
def yX2_writeFloat : MethodName := ⟨RX2, "writeFloat", "(IIF)I"⟩
abbrev cX2_writeDouble : ByteArray := prog_1_method_22_code
def yX2_writeDouble : MethodName := ⟨RX2, "writeDouble", "(IID)I"⟩
abbrev cX2_writeAny : ByteArray := prog_1_method_23_code
def yX2_writeAny : MethodName := ⟨RX2, "writeAny", "(IIII)I"⟩
abbrev cX2_copy : ByteArray := prog_1_method_24_code
def yX2_copy : MethodName := ⟨RX2, "copy", "(IIIII)I"⟩
abbrev cX2_total : ByteArray := prog_1_method_25_code
def yX2_total : MethodName := ⟨RX2, "total", "(I)D"⟩
abbrev cX2_widened : ByteArray := prog_1_method_26_code
def yX2_widened : MethodName := ⟨RX2, "widened", "(II)I"⟩
abbrev cX2_code : ByteArray := prog_1_method_27_code
def yX2_code : MethodName := ⟨RX2, "code", "()I"⟩
abbrev cX2_count : ByteArray := prog_1_method_28_code
def yX2_count : MethodName := ⟨RX2, "count", "(I)I"⟩
abbrev cX2_hasCells : ByteArray := prog_1_method_29_code
def yX2_hasCells : MethodName := ⟨RX2, "hasCells", "(I)Z"⟩
abbrev cX2_isNumber : ByteArray := prog_1_method_30_code
def yX2_isNumber : MethodName := ⟨RX2, "isNumber", "(I)Z"⟩
abbrev cX2_canWiden : ByteArray := prog_1_method_31_code
def yX2_canWiden : MethodName := ⟨RX2, "canWiden", "(II)Z"⟩
abbrev cX2_digest : ByteArray := prog_1_method_32_code
def yX2_digest : MethodName := ⟨RX2, "digest", "()J"⟩
abbrev cX2_isKind : ByteArray := prog_1_method_33_code
def yX2_isKind : MethodName := ⟨RX2, "isKind", "(I)Z"⟩
abbrev cX2_holdsCells : ByteArray := prog_1_method_34_code
def yX2_holdsCells : MethodName := ⟨RX2, "holdsCells", "(I)Z"⟩
abbrev cX2_isLength : ByteArray := prog_1_method_35_code
def yX2_isLength : MethodName := ⟨RX2, "isLength", "(I)Z"⟩
abbrev cX2_isFloating : ByteArray := prog_1_method_36_code
def yX2_isFloating : MethodName := ⟨RX2, "isFloating", "(I)Z"⟩
abbrev cX2_widens : ByteArray := prog_1_method_37_code
def yX2_widens : MethodName := ⟨RX2, "widens", "(II)Z"⟩
abbrev cX2_isPart : ByteArray := prog_1_method_38_code
def yX2_isPart : MethodName := ⟨RX2, "isPart", "(III)Z"⟩
abbrev cX2_refuseNoKind : ByteArray := prog_1_method_39_code
def yX2_refuseNoKind : MethodName := ⟨RX2, "refuseNoKind", "(I)V"⟩
abbrev cX2_refuseWithoutCells : ByteArray := prog_1_method_40_code
def yX2_refuseWithoutCells : MethodName := ⟨RX2, "refuseWithoutCells", "(I)V"⟩
abbrev cX2_refuseWhenFull : ByteArray := prog_1_method_41_code
def yX2_refuseWhenFull : MethodName := ⟨RX2, "refuseWhenFull", "()V"⟩
abbrev cX2_columnAt : ByteArray := prog_1_method_42_code
def yX2_columnAt : MethodName := ⟨RX2, "columnAt", "(I)LTypedColumns$Column;"⟩
abbrev cX2_addColumn : ByteArray := prog_1_method_43_code
def yX2_addColumn : MethodName := ⟨RX2, "addColumn", "(LTypedColumns$Column;)I"⟩
abbrev cX2_note : ByteArray := prog_1_method_44_code
def yX2_note : MethodName := ⟨RX2, "note", "(I)I"⟩
abbrev cX2_codeOfColumn : ByteArray := prog_1_method_45_code
def yX2_codeOfColumn : MethodName := ⟨RX2, "codeOfColumn", "(LTypedColumns$Column;)I"⟩
abbrev cX2_codeOfCell : ByteArray := prog_1_method_46_code
def yX2_codeOfCell : MethodName := ⟨RX2, "codeOfCell", "(LTypedColumns$Column;III)I"⟩
abbrev cX2_codeOfKinds : ByteArray := prog_1_method_47_code
def yX2_codeOfKinds : MethodName := ⟨RX2, "codeOfKinds", "(LTypedColumns$Column;LTypedColumns$Column;)I"⟩
abbrev cX2_readWhole : ByteArray := prog_1_method_48_code
def yX2_readWhole : MethodName := ⟨RX2, "readWhole", "(LTypedColumns$Column;II)J"⟩
abbrev cX2_readReal : ByteArray := prog_1_method_49_code
def yX2_readReal : MethodName := ⟨RX2, "readReal", "(LTypedColumns$Column;II)D"⟩
abbrev cX2_writeWhole : ByteArray := prog_1_method_50_code
def yX2_writeWhole : MethodName := ⟨RX2, "writeWhole", "(LTypedColumns$Column;IIJ)I"⟩
abbrev cX2_writeReal : ByteArray := prog_1_method_51_code
def yX2_writeReal : MethodName := ⟨RX2, "writeReal", "(LTypedColumns$Column;IID)I"⟩
abbrev cX2_wholeMadeFrom : ByteArray := prog_1_method_52_code
def yX2_wholeMadeFrom : MethodName := ⟨RX2, "wholeMadeFrom", "(II)J"⟩
abbrev cX2_noNumber : ByteArray := prog_1_method_53_code
def yX2_noNumber : MethodName := ⟨RX2, "noNumber", "()D"⟩
abbrev cX2_noFloatNumber : ByteArray := prog_1_method_54_code
def yX2_noFloatNumber : MethodName := ⟨RX2, "noFloatNumber", "()F"⟩
abbrev cX2_doubleOf : ByteArray := prog_1_method_55_code
def yX2_doubleOf : MethodName := ⟨RX2, "doubleOf", "(F)D"⟩
abbrev cX2_floatOf : ByteArray := prog_1_method_56_code
def yX2_floatOf : MethodName := ⟨RX2, "floatOf", "(D)F"⟩
abbrev cX2_isInfinite : ByteArray := prog_1_method_57_code
def yX2_isInfinite : MethodName := ⟨RX2, "isInfinite", "(D)Z"⟩
abbrev cX2_sumOf : ByteArray := prog_1_method_58_code
def yX2_sumOf : MethodName := ⟨RX2, "sumOf", "(DD)D"⟩
abbrev cX2_mixed : ByteArray := prog_1_method_59_code
def yX2_mixed : MethodName := ⟨RX2, "mixed", "(JJ)J"⟩
abbrev cX2_mixedColumn : ByteArray := prog_1_method_60_code
def yX2_mixedColumn : MethodName := ⟨RX2, "mixedColumn", "(JLTypedColumns$Column;)J"⟩
def RX3 : String := "TypedColumnsModel"
def TX3 : u_T := fun k => match k with
  | 0 => ("TypedColumnsModel", "thrown", "I", false)
  | 1 => ("TypedColumnsModel", "columns", "I", false)
  | 2 => ("TypedColumnsModel", "kinds", "[I", true)
  | 3 => ("TypedColumnsModel", "lengths", "[I", true)
  | 4 => ("TypedColumnsModel", "whole", "[J", true)
  | 5 => ("TypedColumnsModel", "real", "[D", true)
  | 6 => ("TypedColumnsModel", "code", "I", false)
  | _ => ("TypedColumnsModel", "counts", "[I", true)
def tyX3 : Nat → FieldType := fun k => match k with
  | 0 => .int
  | 1 => .int
  | 2 => .array .int
  | 3 => .array .int
  | 4 => .array .long
  | 5 => .array .double
  | 6 => .int
  | _ => .array .int
abbrev wsX30 : List Cond := u_ws RX3 TX3 8
theorem nmX3 : ∀ a, a < 8 → ∀ b, b < 8 → a ≠ b → (TX3 a).2.1 ≠ (TX3 b).2.1 := by decide +kernel
theorem tyX3_ok : ∀ k, k < 8 → parseFieldDescriptor (TX3 k).2.2.1 = some (tyX3 k) := by decide +kernel
abbrev cX3_init : ByteArray := prog_5_method_1_code
def yX3_init : MethodName := ⟨RX3, "<init>", "()V"⟩
abbrev cX3_thrown : ByteArray := prog_5_method_2_code
def yX3_thrown : MethodName := ⟨RX3, "thrown", "()I"⟩
abbrev cX3_fail : ByteArray := prog_5_method_3_code
def yX3_fail : MethodName := ⟨RX3, "fail", "(I)I"⟩
abbrev cX3_isColumn : ByteArray := prog_5_method_4_code
def yX3_isColumn : MethodName := ⟨RX3, "isColumn", "(I)Z"⟩
abbrev cX3_isReal : ByteArray := prog_5_method_5_code
def yX3_isReal : MethodName := ⟨RX3, "isReal", "(I)Z"⟩
abbrev cX3_has : ByteArray := prog_5_method_6_code
def yX3_has : MethodName := ⟨RX3, "has", "(I)Z"⟩
abbrev cX3_widens : ByteArray := prog_5_method_7_code
def yX3_widens : MethodName := ⟨RX3, "widens", "(II)Z"⟩
abbrev cX3_note : ByteArray := prog_5_method_8_code
def yX3_note : MethodName := ⟨RX3, "note", "(I)Z"⟩
abbrev cX3_codeOf : ByteArray := prog_5_method_9_code
def yX3_codeOf : MethodName := ⟨RX3, "codeOf", "(I)I"⟩
abbrev cX3_codeOf_ : ByteArray := prog_5_method_10_code
def yX3_codeOf_ : MethodName := ⟨RX3, "codeOf", "(II)I"⟩
abbrev cX3_at : ByteArray := prog_5_method_11_code
def yX3_at : MethodName := ⟨RX3, "at", "(II)I"⟩
abbrev cX3_create : ByteArray := prog_5_method_12_code
def yX3_create : MethodName := ⟨RX3, "create", "(II)I"⟩
abbrev cX3_columnCount : ByteArray := prog_5_method_13_code
def yX3_columnCount : MethodName := ⟨RX3, "columnCount", "()I"⟩
abbrev cX3_kind : ByteArray := prog_5_method_14_code
def yX3_kind : MethodName := ⟨RX3, "kind", "(I)I"⟩
abbrev cX3_length : ByteArray := prog_5_method_15_code
def yX3_length : MethodName := ⟨RX3, "length", "(I)I"⟩
abbrev cX3_reads : ByteArray := prog_5_method_16_code
def yX3_reads : MethodName := ⟨RX3, "reads", "(III)Z"⟩
abbrev cX3_readBoolean : ByteArray := prog_5_method_17_code
def yX3_readBoolean : MethodName := ⟨RX3, "readBoolean", "(II)Z"⟩
abbrev cX3_readByte : ByteArray := prog_5_method_18_code
def yX3_readByte : MethodName := ⟨RX3, "readByte", "(II)I"⟩
abbrev cX3_readChar : ByteArray := prog_5_method_19_code
def yX3_readChar : MethodName := ⟨RX3, "readChar", "(II)I"⟩
abbrev cX3_readShort : ByteArray := prog_5_method_20_code
def yX3_readShort : MethodName := ⟨RX3, "readShort", "(II)I"⟩
abbrev cX3_readInt : ByteArray := prog_5_method_21_code
def yX3_readInt : MethodName := ⟨RX3, "readInt", "(II)I"⟩
abbrev cX3_readLong : ByteArray := prog_5_method_22_code
def yX3_readLong : MethodName := ⟨RX3, "readLong", "(II)J"⟩
abbrev cX3_readFloat : ByteArray := prog_5_method_23_code
def yX3_readFloat : MethodName := ⟨RX3, "readFloat", "(II)F"⟩
abbrev cX3_asDouble : ByteArray := prog_5_method_24_code
def yX3_asDouble : MethodName := ⟨RX3, "asDouble", "(II)D"⟩
abbrev cX3_readDouble : ByteArray := prog_5_method_25_code
def yX3_readDouble : MethodName := ⟨RX3, "readDouble", "(II)D"⟩
abbrev cX3_readAny : ByteArray := prog_5_method_26_code
def yX3_readAny : MethodName := ⟨RX3, "readAny", "(II)D"⟩
abbrev cX3_write : ByteArray := prog_5_method_27_code
def yX3_write : MethodName := ⟨RX3, "write", "(IIIJD)I"⟩
abbrev cX3_writeBoolean : ByteArray := prog_5_method_28_code
def yX3_writeBoolean : MethodName := ⟨RX3, "writeBoolean", "(IIZ)I"⟩
abbrev cX3_writeByte : ByteArray := prog_5_method_29_code
def yX3_writeByte : MethodName := ⟨RX3, "writeByte", "(III)I"⟩
abbrev cX3_writeChar : ByteArray := prog_5_method_30_code
def yX3_writeChar : MethodName := ⟨RX3, "writeChar", "(III)I"⟩
abbrev cX3_writeShort : ByteArray := prog_5_method_31_code
def yX3_writeShort : MethodName := ⟨RX3, "writeShort", "(III)I"⟩
abbrev cX3_writeInt : ByteArray := prog_5_method_32_code
def yX3_writeInt : MethodName := ⟨RX3, "writeInt", "(III)I"⟩
abbrev cX3_writeLong : ByteArray := prog_5_method_33_code
def yX3_writeLong : MethodName := ⟨RX3, "writeLong", "(IIJ)I"⟩
abbrev cX3_writeFloat : ByteArray := prog_5_method_34_code
def yX3_writeFloat : MethodName := ⟨RX3, "writeFloat", "(IIF)I"⟩
abbrev cX3_writeDouble : ByteArray := prog_5_method_35_code
def yX3_writeDouble : MethodName := ⟨RX3, "writeDouble", "(IID)I"⟩
abbrev cX3_writeAny : ByteArray := prog_5_method_36_code
def yX3_writeAny : MethodName := ⟨RX3, "writeAny", "(IIII)I"⟩
abbrev cX3_copy : ByteArray := prog_5_method_37_code
def yX3_copy : MethodName := ⟨RX3, "copy", "(IIIII)I"⟩
abbrev cX3_total : ByteArray := prog_5_method_38_code
def yX3_total : MethodName := ⟨RX3, "total", "(I)D"⟩
abbrev cX3_widened : ByteArray := prog_5_method_39_code
def yX3_widened : MethodName := ⟨RX3, "widened", "(II)I"⟩
abbrev cX3_code : ByteArray := prog_5_method_40_code
def yX3_code : MethodName := ⟨RX3, "code", "()I"⟩
abbrev cX3_count : ByteArray := prog_5_method_41_code
def yX3_count : MethodName := ⟨RX3, "count", "(I)I"⟩
abbrev cX3_isKind : ByteArray := prog_5_method_42_code
def yX3_isKind : MethodName := ⟨RX3, "isKind", "(I)Z"⟩
abbrev cX3_hasCells : ByteArray := prog_5_method_43_code
def yX3_hasCells : MethodName := ⟨RX3, "hasCells", "(I)Z"⟩
abbrev cX3_isNumber : ByteArray := prog_5_method_44_code
def yX3_isNumber : MethodName := ⟨RX3, "isNumber", "(I)Z"⟩
abbrev cX3_canWiden : ByteArray := prog_5_method_45_code
def yX3_canWiden : MethodName := ⟨RX3, "canWiden", "(II)Z"⟩
abbrev cX3_digest : ByteArray := prog_5_method_46_code
def yX3_digest : MethodName := ⟨RX3, "digest", "()J"⟩
def RJxe99ae : String := "java/lang/Double"
def TJxe99ae : u_T := fun k => match k with
  | _ => ("", "", "", false)
def tyJxe99ae : Nat → FieldType := fun k => match k with
  | _ => .int
abbrev wsJxe99ae0 : List Cond := u_ws RJxe99ae TJxe99ae 0
theorem nmJxe99ae : ∀ a, a < 0 → ∀ b, b < 0 → a ≠ b → (TJxe99ae a).2.1 ≠ (TJxe99ae b).2.1 := by decide +kernel
theorem tyJxe99ae_ok : ∀ k, k < 0 → parseFieldDescriptor (TJxe99ae k).2.2.1 = some (tyJxe99ae k) := by decide +kernel
abbrev cJxe99ae_isNaN_b9ae7 : ByteArray := prog_6_method_6_code
def yJxe99ae_isNaN_b9ae7 : MethodName := ⟨RJxe99ae, "isNaN", "(D)Z"⟩
abbrev cJxe99ae_doubleToLongBits_ccdee : ByteArray := prog_6_method_23_code
def yJxe99ae_doubleToLongBits_ccdee : MethodName := ⟨RJxe99ae, "doubleToLongBits", "(D)J"⟩
def RJ0 : String := "java/lang/String"
def TJ0 : u_T := fun k => match k with
  | _ => ("", "", "", false)
def tyJ0 : Nat → FieldType := fun k => match k with
  | _ => .int
abbrev wsJ00 : List Cond := u_ws RJ0 TJ0 0
theorem nmJ0 : ∀ a, a < 0 → ∀ b, b < 0 → a ≠ b → (TJ0 a).2.1 ≠ (TJ0 b).2.1 := by decide +kernel
theorem tyJ0_ok : ∀ k, k < 0 → parseFieldDescriptor (TJ0 k).2.2.1 = some (tyJ0 k) := by decide +kernel
def RJ10 : String := "java/lang/System"
def TJ10 : u_T := fun k => match k with
  | _ => ("", "", "", false)
def tyJ10 : Nat → FieldType := fun k => match k with
  | _ => .int
abbrev wsJ100 : List Cond := u_ws RJ10 TJ10 0
theorem nmJ10 : ∀ a, a < 0 → ∀ b, b < 0 → a ≠ b → (TJ10 a).2.1 ≠ (TJ10 b).2.1 := by decide +kernel
theorem tyJ10_ok : ∀ k, k < 0 → parseFieldDescriptor (TJ10 k).2.2.1 = some (tyJ10 k) := by decide +kernel
def RL : String := "TypedColumnsLaw"
abbrev cL_create : ByteArray := method_3_code
def yL_create : MethodName := ⟨RL, "create", "(LTypedColumns;II[J)I"⟩
abbrev cL_kind : ByteArray := method_4_code
def yL_kind : MethodName := ⟨RL, "kind", "(LTypedColumns;I[J)I"⟩
abbrev cL_length : ByteArray := method_5_code
def yL_length : MethodName := ⟨RL, "length", "(LTypedColumns;I[J)I"⟩
abbrev cL_readBoolean : ByteArray := method_6_code
def yL_readBoolean : MethodName := ⟨RL, "readBoolean", "(LTypedColumns;II[J)I"⟩
abbrev cL_readByte : ByteArray := method_7_code
def yL_readByte : MethodName := ⟨RL, "readByte", "(LTypedColumns;II[J)I"⟩
abbrev cL_readChar : ByteArray := method_8_code
def yL_readChar : MethodName := ⟨RL, "readChar", "(LTypedColumns;II[J)I"⟩
abbrev cL_readShort : ByteArray := method_9_code
def yL_readShort : MethodName := ⟨RL, "readShort", "(LTypedColumns;II[J)I"⟩
abbrev cL_readInt : ByteArray := method_10_code
def yL_readInt : MethodName := ⟨RL, "readInt", "(LTypedColumns;II[J)I"⟩
abbrev cL_readLong : ByteArray := method_11_code
def yL_readLong : MethodName := ⟨RL, "readLong", "(LTypedColumns;II[J)I"⟩
abbrev cL_readFloat : ByteArray := method_12_code
def yL_readFloat : MethodName := ⟨RL, "readFloat", "(LTypedColumns;II[D)I"⟩
abbrev cL_readDouble : ByteArray := method_13_code
def yL_readDouble : MethodName := ⟨RL, "readDouble", "(LTypedColumns;II[D)I"⟩
abbrev cL_readAny : ByteArray := method_14_code
def yL_readAny : MethodName := ⟨RL, "readAny", "(LTypedColumns;II[D)I"⟩
abbrev cL_writeBoolean : ByteArray := method_15_code
def yL_writeBoolean : MethodName := ⟨RL, "writeBoolean", "(LTypedColumns;IIZ[J)I"⟩
abbrev cL_writeByte : ByteArray := method_16_code
def yL_writeByte : MethodName := ⟨RL, "writeByte", "(LTypedColumns;III[J)I"⟩
abbrev cL_writeChar : ByteArray := method_17_code
def yL_writeChar : MethodName := ⟨RL, "writeChar", "(LTypedColumns;III[J)I"⟩
abbrev cL_writeShort : ByteArray := method_18_code
def yL_writeShort : MethodName := ⟨RL, "writeShort", "(LTypedColumns;III[J)I"⟩
abbrev cL_writeInt : ByteArray := method_19_code
def yL_writeInt : MethodName := ⟨RL, "writeInt", "(LTypedColumns;III[J)I"⟩
abbrev cL_writeLong : ByteArray := method_20_code
def yL_writeLong : MethodName := ⟨RL, "writeLong", "(LTypedColumns;IIJ[J)I"⟩
abbrev cL_writeFloat : ByteArray := method_21_code
def yL_writeFloat : MethodName := ⟨RL, "writeFloat", "(LTypedColumns;IIF[J)I"⟩
abbrev cL_writeDouble : ByteArray := method_22_code
def yL_writeDouble : MethodName := ⟨RL, "writeDouble", "(LTypedColumns;IID[J)I"⟩
abbrev cL_writeAny : ByteArray := method_23_code
def yL_writeAny : MethodName := ⟨RL, "writeAny", "(LTypedColumns;IIII[J)I"⟩
abbrev cL_copy : ByteArray := method_24_code
def yL_copy : MethodName := ⟨RL, "copy", "(LTypedColumns;IIIII[J)I"⟩
abbrev cL_total : ByteArray := method_25_code
def yL_total : MethodName := ⟨RL, "total", "(LTypedColumns;I[D)I"⟩
abbrev cL_widened : ByteArray := method_26_code
def yL_widened : MethodName := ⟨RL, "widened", "(LTypedColumns;II[J)I"⟩
abbrev cL_count : ByteArray := method_27_code
def yL_count : MethodName := ⟨RL, "count", "(LTypedColumns;I[J)I"⟩
abbrev cL_hasCells : ByteArray := method_28_code
def yL_hasCells : MethodName := ⟨RL, "hasCells", "(LTypedColumns;I[J)I"⟩
abbrev cL_isNumber : ByteArray := method_29_code
def yL_isNumber : MethodName := ⟨RL, "isNumber", "(LTypedColumns;I[J)I"⟩
abbrev cL_canWiden : ByteArray := method_30_code
def yL_canWiden : MethodName := ⟨RL, "canWiden", "(LTypedColumns;II[J)I"⟩
abbrev cL_law : ByteArray := code
def yL_law : MethodName := ⟨RL, "law", "([I)Z"⟩
def wsX2_holdsCells : List Cond := .code yX2_holdsCells cX2_holdsCells 1 (some .boolean) :: ([])
def wsX2_isLength : List Cond := .code yX2_isLength cX2_isLength 1 (some .boolean) :: ([])
def wsX2_isFloating : List Cond := .code yX2_isFloating cX2_isFloating 1 (some .boolean) :: ([])
def wsX0_init : List Cond := .code yX0_init cX0_init 4 none :: ([.methodLink RX0 3 objectInit, .instanceMethod objectInit, .code objectInit ⟨#[0xb1]⟩ 1 none, .fieldLink RX0 16 "TypedColumns$Column" "kind" "I", .fieldLink RX0 22 "TypedColumns$Column" "length" "I", .arrayClass .long, .fieldLink RX0 28 "TypedColumns$Column" "wholes" "[J", .arrayClass .double, .fieldLink RX0 32 "TypedColumns$Column" "reals" "[D", .static yX2_holdsCells, .initialized RX2, .code yX2_holdsCells cX2_holdsCells 1 (some .boolean), .static yX2_isLength, .code yX2_isLength cX2_isLength 1 (some .boolean), .static yX2_isFloating, .code yX2_isFloating cX2_isFloating 1 (some .boolean)] ++ wsX00)
def wsX0_wholeAt : List Cond := .code yX0_wholeAt cX0_wholeAt 2 (some .long) :: ([.fieldLink RX0 28 "TypedColumns$Column" "wholes" "[J"] ++ wsX00)
def wsX0_realAt : List Cond := .code yX0_realAt cX0_realAt 2 (some .double) :: ([.fieldLink RX0 32 "TypedColumns$Column" "reals" "[D"] ++ wsX00)
def wsX0_doubleAt : List Cond := .code yX0_doubleAt cX0_doubleAt 2 (some .double) :: ([.fieldLink RX0 16 "TypedColumns$Column" "kind" "I", .static yX2_isFloating, .initialized RX2, .code yX2_isFloating cX2_isFloating 1 (some .boolean), .methodLink RX0 36 yX0_realAt, .instanceMethod yX0_realAt, .selects RX0 yX0_realAt yX0_realAt, .initialized RX0, .code yX0_realAt cX0_realAt 2 (some .double), .fieldLink RX0 32 "TypedColumns$Column" "reals" "[D", .methodLink RX0 40 yX0_wholeAt, .instanceMethod yX0_wholeAt, .selects RX0 yX0_wholeAt yX0_wholeAt, .code yX0_wholeAt cX0_wholeAt 2 (some .long), .fieldLink RX0 28 "TypedColumns$Column" "wholes" "[J"] ++ wsX00)
def wsX2_noFloatNumber : List Cond := .code yX2_noFloatNumber cX2_noFloatNumber 0 (some .float) :: ([.constantFloat RX2 184 (2143289344)])
def wsX2_floatOf : List Cond := .code yX2_floatOf cX2_floatOf 2 (some .float) :: ([.methodLink RX2 188 yX2_noFloatNumber, .static yX2_noFloatNumber, .initialized RX2, .code yX2_noFloatNumber cX2_noFloatNumber 0 (some .float), .constantFloat RX2 184 (2143289344)])
def wsX0_floatAt : List Cond := .code yX0_floatAt cX0_floatAt 2 (some .float) :: ([.fieldLink RX0 16 "TypedColumns$Column" "kind" "I", .static yX2_isFloating, .initialized RX2, .code yX2_isFloating cX2_isFloating 1 (some .boolean), .methodLink RX0 36 yX0_realAt, .instanceMethod yX0_realAt, .selects RX0 yX0_realAt yX0_realAt, .initialized RX0, .code yX0_realAt cX0_realAt 2 (some .double), .fieldLink RX0 32 "TypedColumns$Column" "reals" "[D", .static yX2_floatOf, .code yX2_floatOf cX2_floatOf 2 (some .float), .methodLink RX2 188 yX2_noFloatNumber, .static yX2_noFloatNumber, .code yX2_noFloatNumber cX2_noFloatNumber 0 (some .float), .constantFloat RX2 184 (2143289344), .methodLink RX0 40 yX0_wholeAt, .instanceMethod yX0_wholeAt, .selects RX0 yX0_wholeAt yX0_wholeAt, .code yX0_wholeAt cX0_wholeAt 2 (some .long), .fieldLink RX0 28 "TypedColumns$Column" "wholes" "[J"] ++ wsX00)
def wsX0_putReal : List Cond := .code yX0_putReal cX0_putReal 4 none :: ([.fieldLink RX0 32 "TypedColumns$Column" "reals" "[D"] ++ wsX00)
def wsX0_putWhole : List Cond := .code yX0_putWhole cX0_putWhole 4 none :: ([.fieldLink RX0 16 "TypedColumns$Column" "kind" "I", .fieldLink RX0 28 "TypedColumns$Column" "wholes" "[J", .methodLink RX0 48 yX0_putReal, .instanceMethod yX0_putReal, .selects RX0 yX0_putReal yX0_putReal, .initialized RX0, .code yX0_putReal cX0_putReal 4 none, .fieldLink RX0 32 "TypedColumns$Column" "reals" "[D"] ++ wsX00)
def wsX2_isPart : List Cond := .code yX2_isPart cX2_isPart 3 (some .boolean) :: ([])
def wsX0_takeCells : List Cond := .code yX0_takeCells cX0_takeCells 5 none :: ([.fieldLink RX0 28 "TypedColumns$Column" "wholes" "[J", .methodLink RX0 56 arraycopyName, .native arraycopyName, .static arraycopyName, .initialized "java/lang/System", .fieldLink RX0 32 "TypedColumns$Column" "reals" "[D", .static yX2_isPart, .initialized RX2, .code yX2_isPart cX2_isPart 3 (some .boolean)] ++ wsX00)
def wsX0_takeWidened : List Cond := .code yX0_takeWidened cX0_takeWidened 3 none :: ([.fieldLink RX0 22 "TypedColumns$Column" "length" "I", .fieldLink RX0 16 "TypedColumns$Column" "kind" "I", .static yX2_isFloating, .initialized RX2, .code yX2_isFloating cX2_isFloating 1 (some .boolean), .methodLink RX0 36 yX0_realAt, .instanceMethod yX0_realAt, .selects RX0 yX0_realAt yX0_realAt, .initialized RX0, .code yX0_realAt cX0_realAt 2 (some .double), .fieldLink RX0 32 "TypedColumns$Column" "reals" "[D", .methodLink RX0 48 yX0_putReal, .instanceMethod yX0_putReal, .selects RX0 yX0_putReal yX0_putReal, .code yX0_putReal cX0_putReal 4 none, .methodLink RX0 40 yX0_wholeAt, .instanceMethod yX0_wholeAt, .selects RX0 yX0_wholeAt yX0_wholeAt, .code yX0_wholeAt cX0_wholeAt 2 (some .long), .fieldLink RX0 28 "TypedColumns$Column" "wholes" "[J", .methodLink RX0 62 yX0_putWhole, .instanceMethod yX0_putWhole, .selects RX0 yX0_putWhole yX0_putWhole, .code yX0_putWhole cX0_putWhole 4 none] ++ wsX00)
def wsX2_isInfinite : List Cond := .code yX2_isInfinite cX2_isInfinite 2 (some .boolean) :: ([.constantDouble RX2 192 (9218868437227405311), .constantDouble RX2 194 (18442240474082181119)])
def wsX2_noNumber : List Cond := .code yX2_noNumber cX2_noNumber 0 (some .double) :: ([.constantDouble RX2 182 (9221120237041090560)])
def wsX2_sumOf : List Cond := .code yX2_sumOf cX2_sumOf 4 (some .double) :: ([.methodLink RX2 196 yX2_isInfinite, .static yX2_isInfinite, .initialized RX2, .code yX2_isInfinite cX2_isInfinite 2 (some .boolean), .constantDouble RX2 192 (9218868437227405311), .constantDouble RX2 194 (18442240474082181119), .methodLink RX2 185 yX2_noNumber, .static yX2_noNumber, .code yX2_noNumber cX2_noNumber 0 (some .double), .constantDouble RX2 182 (9221120237041090560)])
def wsX0_sum_r1 : List Cond := [Cond.fieldLink RX0 22 "TypedColumns$Column" "length" "I", Cond.methodLink RX0 66 yX0_doubleAt, Cond.instanceMethod yX0_doubleAt, Cond.selects RX0 yX0_doubleAt yX0_doubleAt, Cond.initialized RX0, Cond.code yX0_doubleAt cX0_doubleAt 2 (some .double), Cond.fieldLink RX0 16 "TypedColumns$Column" "kind" "I", Cond.static yX2_isFloating, Cond.initialized RX2, Cond.code yX2_isFloating cX2_isFloating 1 (some .boolean), Cond.methodLink RX0 36 yX0_realAt, Cond.instanceMethod yX0_realAt, Cond.selects RX0 yX0_realAt yX0_realAt, Cond.code yX0_realAt cX0_realAt 2 (some .double), Cond.fieldLink RX0 32 "TypedColumns$Column" "reals" "[D", Cond.methodLink RX0 40 yX0_wholeAt, Cond.instanceMethod yX0_wholeAt, Cond.selects RX0 yX0_wholeAt yX0_wholeAt, Cond.code yX0_wholeAt cX0_wholeAt 2 (some .long), Cond.fieldLink RX0 28 "TypedColumns$Column" "wholes" "[J", Cond.static yX2_sumOf, Cond.code yX2_sumOf cX2_sumOf 4 (some .double), Cond.methodLink RX2 196 yX2_isInfinite, Cond.static yX2_isInfinite]
def wsX0_sum_r2 : List Cond := [Cond.code yX2_isInfinite cX2_isInfinite 2 (some .boolean), Cond.constantDouble RX2 192 (9218868437227405311), Cond.constantDouble RX2 194 (18442240474082181119), Cond.methodLink RX2 185 yX2_noNumber, Cond.static yX2_noNumber, Cond.code yX2_noNumber cX2_noNumber 0 (some .double), Cond.constantDouble RX2 182 (9221120237041090560)]
def wsX0_sum : List Cond := .code yX0_sum cX0_sum 4 (some .double) :: ((wsX0_sum_r1 ++ wsX0_sum_r2) ++ wsX00)
def wsX1_init : List Cond := .code yX1_init cX1_init 4 none :: ([.methodLink RX1 1 objectInit, .instanceMethod objectInit, .code objectInit ⟨#[0xb1]⟩ 1 none, .arrayClass .double, .fieldLink RX1 9 "TypedColumns$DoubleBits" "powers" "[D", .constantDouble RX1 13 (4611686018427387904)] ++ wsX10)
def wsX1_ofNormal : List Cond := .code yX1_ofNormal cX1_ofNormal 9 (some .long) :: ([.fieldLink RX1 9 "TypedColumns$DoubleBits" "powers" "[D", .constantDouble RX1 13 (4611686018427387904), .constantDouble RX1 38 (4841369599423283200), .constantLong RX1 40 (4503599627370496)] ++ wsX10)
def wsX1_ofPositive : List Cond := .code yX1_ofPositive cX1_ofPositive 4 (some .long) :: ([.constantLong RX1 29 (9218868437227405312), .constantDouble RX1 31 (4503599627370496), .constantDouble RX1 33 (1), .static yX2_isInfinite, .initialized RX2, .code yX2_isInfinite cX2_isInfinite 2 (some .boolean), .constantDouble RX2 192 (9218868437227405311), .constantDouble RX2 194 (18442240474082181119), .methodLink RX1 35 yX1_ofNormal, .instanceMethod yX1_ofNormal, .selects RX1 yX1_ofNormal yX1_ofNormal, .initialized RX1, .code yX1_ofNormal cX1_ofNormal 9 (some .long), .fieldLink RX1 9 "TypedColumns$DoubleBits" "powers" "[D", .constantDouble RX1 13 (4611686018427387904), .constantDouble RX1 38 (4841369599423283200), .constantLong RX1 40 (4503599627370496)] ++ wsX10)
def wsX1_of : List Cond := .code yX1_of cX1_of 3 (some .long) :: ([.constantLong RX1 15 (9221120237041090560), .constantLong RX1 17 (-9223372036854775808), .methodLink RX1 19 yX1_ofPositive, .instanceMethod yX1_ofPositive, .selects RX1 yX1_ofPositive yX1_ofPositive, .initialized RX1, .code yX1_ofPositive cX1_ofPositive 4 (some .long), .constantLong RX1 29 (9218868437227405312), .constantDouble RX1 31 (4503599627370496), .constantDouble RX1 33 (1), .static yX2_isInfinite, .initialized RX2, .code yX2_isInfinite cX2_isInfinite 2 (some .boolean), .constantDouble RX2 192 (9218868437227405311), .constantDouble RX2 194 (18442240474082181119), .methodLink RX1 35 yX1_ofNormal, .instanceMethod yX1_ofNormal, .selects RX1 yX1_ofNormal yX1_ofNormal, .code yX1_ofNormal cX1_ofNormal 9 (some .long), .fieldLink RX1 9 "TypedColumns$DoubleBits" "powers" "[D", .constantDouble RX1 13 (4611686018427387904), .constantDouble RX1 38 (4841369599423283200), .constantLong RX1 40 (4503599627370496)] ++ wsX10)
def wsX2_init : List Cond := .code yX2_init cX2_init 1 none :: ([.methodLink RX2 1 objectInit, .instanceMethod objectInit, .code objectInit ⟨#[0xb1]⟩ 1 none, .classLink RX2 9 RX0, .fieldLink RX2 11 "TypedColumns" "columns" "[LTypedColumns$Column;", .arrayClass .int, .fieldLink RX2 15 "TypedColumns" "counts" "[I", .classLink RX2 19 RX1, .instantiable RX1 1, .initialized RX1, .fieldLink RX2 22 "TypedColumns" "doubleBits" "LTypedColumns$DoubleBits;", .fieldLink RX2 26 "TypedColumns" "created" "I", .fieldLink RX2 30 "TypedColumns" "latestCode" "I", .methodLink RX2 21 yX1_init, .instanceMethod yX1_init, .code yX1_init cX1_init 4 none, .methodLink RX1 1 objectInit, .arrayClass .double, .fieldLink RX1 9 "TypedColumns$DoubleBits" "powers" "[D", .constantDouble RX1 13 (4611686018427387904)] ++ wsX20 ++ wsX10)
def wsX2_isKind : List Cond := .code yX2_isKind cX2_isKind 1 (some .boolean) :: ([])
def wsX2_refuseWhenFull : List Cond := .code yX2_refuseWhenFull cX2_refuseWhenFull 1 none :: ([.classLink RX2 159 "java/lang/IllegalStateException", .initialized "java/lang/IllegalStateException", .fieldLink RX2 26 "TypedColumns" "created" "I", .fieldLink RX2 11 "TypedColumns" "columns" "[LTypedColumns$Column;"] ++ wsX20 ++ (vx_atS RX2 163 "java/lang/IllegalStateException" ["java/lang/RuntimeException", "java/lang/Exception"]).filter goodWord)
def wsX2_addColumn : List Cond := .code yX2_addColumn cX2_addColumn 3 (some .int) :: ([.fieldLink RX2 26 "TypedColumns" "created" "I", .fieldLink RX2 11 "TypedColumns" "columns" "[LTypedColumns$Column;"] ++ wsX20)
def wsX2_create_r1 : List Cond := [Cond.classLink RX2 37 "java/lang/IllegalArgumentException", Cond.initialized "java/lang/IllegalArgumentException", Cond.classLink RX2 9 RX0, Cond.instantiable RX0 4, Cond.initialized RX0, Cond.methodLink RX2 33 yX2_isKind, Cond.static yX2_isKind, Cond.initialized RX2, Cond.code yX2_isKind cX2_isKind 1 (some .boolean), Cond.methodLink RX2 44 yX2_holdsCells, Cond.static yX2_holdsCells, Cond.code yX2_holdsCells cX2_holdsCells 1 (some .boolean), Cond.methodLink RX2 47 yX2_isLength, Cond.static yX2_isLength, Cond.code yX2_isLength cX2_isLength 1 (some .boolean), Cond.methodLink RX2 52 yX2_refuseWhenFull, Cond.instanceMethod yX2_refuseWhenFull, Cond.selects RX2 yX2_refuseWhenFull yX2_refuseWhenFull, Cond.code yX2_refuseWhenFull cX2_refuseWhenFull 1 none, Cond.classLink RX2 159 "java/lang/IllegalStateException", Cond.initialized "java/lang/IllegalStateException", Cond.fieldLink RX2 26 "TypedColumns" "created" "I", Cond.fieldLink RX2 11 "TypedColumns" "columns" "[LTypedColumns$Column;", Cond.methodLink RX2 55 yX0_init]
def wsX2_create_r2 : List Cond := [Cond.instanceMethod yX0_init, Cond.code yX0_init cX0_init 4 none, Cond.methodLink RX0 3 objectInit, Cond.instanceMethod objectInit, Cond.code objectInit ⟨#[0xb1]⟩ 1 none, Cond.fieldLink RX0 16 "TypedColumns$Column" "kind" "I", Cond.fieldLink RX0 22 "TypedColumns$Column" "length" "I", Cond.arrayClass .long, Cond.fieldLink RX0 28 "TypedColumns$Column" "wholes" "[J", Cond.arrayClass .double, Cond.fieldLink RX0 32 "TypedColumns$Column" "reals" "[D", Cond.static yX2_isFloating, Cond.code yX2_isFloating cX2_isFloating 1 (some .boolean), Cond.methodLink RX2 58 yX2_addColumn, Cond.instanceMethod yX2_addColumn, Cond.selects RX2 yX2_addColumn yX2_addColumn, Cond.code yX2_addColumn cX2_addColumn 3 (some .int)]
def wsX2_create : List Cond := .code yX2_create cX2_create 3 (some .int) :: ((wsX2_create_r1 ++ wsX2_create_r2) ++ wsX00 ++ wsX20 ++ (vx_atS RX2 41 "java/lang/IllegalArgumentException" ["java/lang/RuntimeException", "java/lang/Exception"]).filter goodWord ++ (vx_atS RX2 163 "java/lang/IllegalStateException" ["java/lang/RuntimeException", "java/lang/Exception"]).filter goodWord)
def wsX2_columnCount : List Cond := .code yX2_columnCount cX2_columnCount 1 (some .int) :: ([.fieldLink RX2 26 "TypedColumns" "created" "I"] ++ wsX20)
def wsX2_columnAt : List Cond := .code yX2_columnAt cX2_columnAt 3 (some (.object "TypedColumns$Column")) :: ([.classLink RX2 139 "java/lang/IndexOutOfBoundsException", .initialized "java/lang/IndexOutOfBoundsException", .fieldLink RX2 11 "TypedColumns" "columns" "[LTypedColumns$Column;"] ++ wsX20 ++ (vx_atS RX2 143 "java/lang/IndexOutOfBoundsException" ["java/lang/RuntimeException", "java/lang/Exception"]).filter goodWord)
def wsX2_kind : List Cond := .code yX2_kind cX2_kind 2 (some .int) :: ([.fieldLink RX2 66 "TypedColumns$Column" "kind" "I", .methodLink RX2 62 yX2_columnAt, .instanceMethod yX2_columnAt, .selects RX2 yX2_columnAt yX2_columnAt, .initialized RX2, .code yX2_columnAt cX2_columnAt 3 (some (.object "TypedColumns$Column")), .classLink RX2 139 "java/lang/IndexOutOfBoundsException", .initialized "java/lang/IndexOutOfBoundsException", .fieldLink RX2 11 "TypedColumns" "columns" "[LTypedColumns$Column;"] ++ wsX00 ++ wsX20 ++ (vx_atS RX2 143 "java/lang/IndexOutOfBoundsException" ["java/lang/RuntimeException", "java/lang/Exception"]).filter goodWord)
def wsX2_codeOfColumn : List Cond := .code yX2_codeOfColumn cX2_codeOfColumn 1 (some .int) :: ([.fieldLink RX2 66 "TypedColumns$Column" "kind" "I"] ++ wsX00)
def wsX2_note : List Cond := .code yX2_note cX2_note 2 (some .int) :: ([.fieldLink RX2 15 "TypedColumns" "counts" "[I", .fieldLink RX2 30 "TypedColumns" "latestCode" "I"] ++ wsX20)
def wsX2_length : List Cond := .code yX2_length cX2_length 3 (some .int) :: ([.fieldLink RX2 76 "TypedColumns$Column" "length" "I", .methodLink RX2 62 yX2_columnAt, .instanceMethod yX2_columnAt, .selects RX2 yX2_columnAt yX2_columnAt, .initialized RX2, .code yX2_columnAt cX2_columnAt 3 (some (.object "TypedColumns$Column")), .classLink RX2 139 "java/lang/IndexOutOfBoundsException", .initialized "java/lang/IndexOutOfBoundsException", .fieldLink RX2 11 "TypedColumns" "columns" "[LTypedColumns$Column;", .methodLink RX2 69 yX2_codeOfColumn, .static yX2_codeOfColumn, .code yX2_codeOfColumn cX2_codeOfColumn 1 (some .int), .fieldLink RX2 66 "TypedColumns$Column" "kind" "I", .methodLink RX2 72 yX2_note, .instanceMethod yX2_note, .selects RX2 yX2_note yX2_note, .code yX2_note cX2_note 2 (some .int), .fieldLink RX2 15 "TypedColumns" "counts" "[I", .fieldLink RX2 30 "TypedColumns" "latestCode" "I"] ++ wsX00 ++ wsX20 ++ (vx_atS RX2 143 "java/lang/IndexOutOfBoundsException" ["java/lang/RuntimeException", "java/lang/Exception"]).filter goodWord)
def wsX2_widens : List Cond := .code yX2_widens cX2_widens 2 (some .boolean) :: ([.methodLink RX2 44 yX2_holdsCells, .static yX2_holdsCells, .initialized RX2, .code yX2_holdsCells cX2_holdsCells 1 (some .boolean)])
def wsX2_codeOfCell : List Cond := .code yX2_codeOfCell cX2_codeOfCell 5 (some .int) :: ([.fieldLink RX2 76 "TypedColumns$Column" "length" "I", .methodLink RX2 69 yX2_codeOfColumn, .static yX2_codeOfColumn, .initialized RX2, .code yX2_codeOfColumn cX2_codeOfColumn 1 (some .int), .fieldLink RX2 66 "TypedColumns$Column" "kind" "I", .methodLink RX2 131 yX2_widens, .static yX2_widens, .code yX2_widens cX2_widens 2 (some .boolean), .methodLink RX2 44 yX2_holdsCells, .static yX2_holdsCells, .code yX2_holdsCells cX2_holdsCells 1 (some .boolean)] ++ wsX00)
def wsX2_readWhole_r1 : List Cond := [Cond.fieldLink RX2 66 "TypedColumns$Column" "kind" "I", Cond.methodLink RX2 83 yX2_codeOfCell, Cond.static yX2_codeOfCell, Cond.initialized RX2, Cond.code yX2_codeOfCell cX2_codeOfCell 5 (some .int), Cond.fieldLink RX2 76 "TypedColumns$Column" "length" "I", Cond.methodLink RX2 69 yX2_codeOfColumn, Cond.static yX2_codeOfColumn, Cond.code yX2_codeOfColumn cX2_codeOfColumn 1 (some .int), Cond.methodLink RX2 131 yX2_widens, Cond.static yX2_widens, Cond.code yX2_widens cX2_widens 2 (some .boolean), Cond.methodLink RX2 44 yX2_holdsCells, Cond.static yX2_holdsCells, Cond.code yX2_holdsCells cX2_holdsCells 1 (some .boolean), Cond.methodLink RX2 72 yX2_note, Cond.instanceMethod yX2_note, Cond.selects RX2 yX2_note yX2_note, Cond.code yX2_note cX2_note 2 (some .int), Cond.fieldLink RX2 15 "TypedColumns" "counts" "[I", Cond.fieldLink RX2 30 "TypedColumns" "latestCode" "I", Cond.methodLink RX2 166 yX0_wholeAt, Cond.instanceMethod yX0_wholeAt, Cond.selects RX0 yX0_wholeAt yX0_wholeAt]
def wsX2_readWhole_r2 : List Cond := [Cond.initialized RX0, Cond.code yX0_wholeAt cX0_wholeAt 2 (some .long), Cond.fieldLink RX0 28 "TypedColumns$Column" "wholes" "[J"]
def wsX2_readWhole : List Cond := .code yX2_readWhole cX2_readWhole 5 (some .long) :: ((wsX2_readWhole_r1 ++ wsX2_readWhole_r2) ++ wsX00 ++ wsX20)
def wsX2_readBoolean_r1 : List Cond := [Cond.methodLink RX2 62 yX2_columnAt, Cond.instanceMethod yX2_columnAt, Cond.selects RX2 yX2_columnAt yX2_columnAt, Cond.initialized RX2, Cond.code yX2_columnAt cX2_columnAt 3 (some (.object "TypedColumns$Column")), Cond.classLink RX2 139 "java/lang/IndexOutOfBoundsException", Cond.initialized "java/lang/IndexOutOfBoundsException", Cond.fieldLink RX2 11 "TypedColumns" "columns" "[LTypedColumns$Column;", Cond.methodLink RX2 79 yX2_readWhole, Cond.instanceMethod yX2_readWhole, Cond.selects RX2 yX2_readWhole yX2_readWhole, Cond.code yX2_readWhole cX2_readWhole 5 (some .long), Cond.fieldLink RX2 66 "TypedColumns$Column" "kind" "I", Cond.methodLink RX2 83 yX2_codeOfCell, Cond.static yX2_codeOfCell, Cond.code yX2_codeOfCell cX2_codeOfCell 5 (some .int), Cond.fieldLink RX2 76 "TypedColumns$Column" "length" "I", Cond.methodLink RX2 69 yX2_codeOfColumn, Cond.static yX2_codeOfColumn, Cond.code yX2_codeOfColumn cX2_codeOfColumn 1 (some .int), Cond.methodLink RX2 131 yX2_widens, Cond.static yX2_widens, Cond.code yX2_widens cX2_widens 2 (some .boolean), Cond.methodLink RX2 44 yX2_holdsCells]
def wsX2_readBoolean_r2 : List Cond := [Cond.static yX2_holdsCells, Cond.code yX2_holdsCells cX2_holdsCells 1 (some .boolean), Cond.methodLink RX2 72 yX2_note, Cond.instanceMethod yX2_note, Cond.selects RX2 yX2_note yX2_note, Cond.code yX2_note cX2_note 2 (some .int), Cond.fieldLink RX2 15 "TypedColumns" "counts" "[I", Cond.fieldLink RX2 30 "TypedColumns" "latestCode" "I", Cond.methodLink RX2 166 yX0_wholeAt, Cond.instanceMethod yX0_wholeAt, Cond.selects RX0 yX0_wholeAt yX0_wholeAt, Cond.initialized RX0, Cond.code yX0_wholeAt cX0_wholeAt 2 (some .long), Cond.fieldLink RX0 28 "TypedColumns$Column" "wholes" "[J"]
def wsX2_readBoolean : List Cond := .code yX2_readBoolean cX2_readBoolean 3 (some .boolean) :: ((wsX2_readBoolean_r1 ++ wsX2_readBoolean_r2) ++ wsX20 ++ wsX00 ++ (vx_atS RX2 143 "java/lang/IndexOutOfBoundsException" ["java/lang/RuntimeException", "java/lang/Exception"]).filter goodWord)
def wsX2_readByte_r1 : List Cond := [Cond.methodLink RX2 62 yX2_columnAt, Cond.instanceMethod yX2_columnAt, Cond.selects RX2 yX2_columnAt yX2_columnAt, Cond.initialized RX2, Cond.code yX2_columnAt cX2_columnAt 3 (some (.object "TypedColumns$Column")), Cond.classLink RX2 139 "java/lang/IndexOutOfBoundsException", Cond.initialized "java/lang/IndexOutOfBoundsException", Cond.fieldLink RX2 11 "TypedColumns" "columns" "[LTypedColumns$Column;", Cond.methodLink RX2 79 yX2_readWhole, Cond.instanceMethod yX2_readWhole, Cond.selects RX2 yX2_readWhole yX2_readWhole, Cond.code yX2_readWhole cX2_readWhole 5 (some .long), Cond.fieldLink RX2 66 "TypedColumns$Column" "kind" "I", Cond.methodLink RX2 83 yX2_codeOfCell, Cond.static yX2_codeOfCell, Cond.code yX2_codeOfCell cX2_codeOfCell 5 (some .int), Cond.fieldLink RX2 76 "TypedColumns$Column" "length" "I", Cond.methodLink RX2 69 yX2_codeOfColumn, Cond.static yX2_codeOfColumn, Cond.code yX2_codeOfColumn cX2_codeOfColumn 1 (some .int), Cond.methodLink RX2 131 yX2_widens, Cond.static yX2_widens, Cond.code yX2_widens cX2_widens 2 (some .boolean), Cond.methodLink RX2 44 yX2_holdsCells]
def wsX2_readByte_r2 : List Cond := [Cond.static yX2_holdsCells, Cond.code yX2_holdsCells cX2_holdsCells 1 (some .boolean), Cond.methodLink RX2 72 yX2_note, Cond.instanceMethod yX2_note, Cond.selects RX2 yX2_note yX2_note, Cond.code yX2_note cX2_note 2 (some .int), Cond.fieldLink RX2 15 "TypedColumns" "counts" "[I", Cond.fieldLink RX2 30 "TypedColumns" "latestCode" "I", Cond.methodLink RX2 166 yX0_wholeAt, Cond.instanceMethod yX0_wholeAt, Cond.selects RX0 yX0_wholeAt yX0_wholeAt, Cond.initialized RX0, Cond.code yX0_wholeAt cX0_wholeAt 2 (some .long), Cond.fieldLink RX0 28 "TypedColumns$Column" "wholes" "[J"]
def wsX2_readByte : List Cond := .code yX2_readByte cX2_readByte 3 (some .int) :: ((wsX2_readByte_r1 ++ wsX2_readByte_r2) ++ wsX20 ++ wsX00 ++ (vx_atS RX2 143 "java/lang/IndexOutOfBoundsException" ["java/lang/RuntimeException", "java/lang/Exception"]).filter goodWord)
def wsX2_readChar_r1 : List Cond := [Cond.methodLink RX2 62 yX2_columnAt, Cond.instanceMethod yX2_columnAt, Cond.selects RX2 yX2_columnAt yX2_columnAt, Cond.initialized RX2, Cond.code yX2_columnAt cX2_columnAt 3 (some (.object "TypedColumns$Column")), Cond.classLink RX2 139 "java/lang/IndexOutOfBoundsException", Cond.initialized "java/lang/IndexOutOfBoundsException", Cond.fieldLink RX2 11 "TypedColumns" "columns" "[LTypedColumns$Column;", Cond.methodLink RX2 79 yX2_readWhole, Cond.instanceMethod yX2_readWhole, Cond.selects RX2 yX2_readWhole yX2_readWhole, Cond.code yX2_readWhole cX2_readWhole 5 (some .long), Cond.fieldLink RX2 66 "TypedColumns$Column" "kind" "I", Cond.methodLink RX2 83 yX2_codeOfCell, Cond.static yX2_codeOfCell, Cond.code yX2_codeOfCell cX2_codeOfCell 5 (some .int), Cond.fieldLink RX2 76 "TypedColumns$Column" "length" "I", Cond.methodLink RX2 69 yX2_codeOfColumn, Cond.static yX2_codeOfColumn, Cond.code yX2_codeOfColumn cX2_codeOfColumn 1 (some .int), Cond.methodLink RX2 131 yX2_widens, Cond.static yX2_widens, Cond.code yX2_widens cX2_widens 2 (some .boolean), Cond.methodLink RX2 44 yX2_holdsCells]
def wsX2_readChar_r2 : List Cond := [Cond.static yX2_holdsCells, Cond.code yX2_holdsCells cX2_holdsCells 1 (some .boolean), Cond.methodLink RX2 72 yX2_note, Cond.instanceMethod yX2_note, Cond.selects RX2 yX2_note yX2_note, Cond.code yX2_note cX2_note 2 (some .int), Cond.fieldLink RX2 15 "TypedColumns" "counts" "[I", Cond.fieldLink RX2 30 "TypedColumns" "latestCode" "I", Cond.methodLink RX2 166 yX0_wholeAt, Cond.instanceMethod yX0_wholeAt, Cond.selects RX0 yX0_wholeAt yX0_wholeAt, Cond.initialized RX0, Cond.code yX0_wholeAt cX0_wholeAt 2 (some .long), Cond.fieldLink RX0 28 "TypedColumns$Column" "wholes" "[J"]
def wsX2_readChar : List Cond := .code yX2_readChar cX2_readChar 3 (some .int) :: ((wsX2_readChar_r1 ++ wsX2_readChar_r2) ++ wsX20 ++ wsX00 ++ (vx_atS RX2 143 "java/lang/IndexOutOfBoundsException" ["java/lang/RuntimeException", "java/lang/Exception"]).filter goodWord)
def wsX2_readShort_r1 : List Cond := [Cond.methodLink RX2 62 yX2_columnAt, Cond.instanceMethod yX2_columnAt, Cond.selects RX2 yX2_columnAt yX2_columnAt, Cond.initialized RX2, Cond.code yX2_columnAt cX2_columnAt 3 (some (.object "TypedColumns$Column")), Cond.classLink RX2 139 "java/lang/IndexOutOfBoundsException", Cond.initialized "java/lang/IndexOutOfBoundsException", Cond.fieldLink RX2 11 "TypedColumns" "columns" "[LTypedColumns$Column;", Cond.methodLink RX2 79 yX2_readWhole, Cond.instanceMethod yX2_readWhole, Cond.selects RX2 yX2_readWhole yX2_readWhole, Cond.code yX2_readWhole cX2_readWhole 5 (some .long), Cond.fieldLink RX2 66 "TypedColumns$Column" "kind" "I", Cond.methodLink RX2 83 yX2_codeOfCell, Cond.static yX2_codeOfCell, Cond.code yX2_codeOfCell cX2_codeOfCell 5 (some .int), Cond.fieldLink RX2 76 "TypedColumns$Column" "length" "I", Cond.methodLink RX2 69 yX2_codeOfColumn, Cond.static yX2_codeOfColumn, Cond.code yX2_codeOfColumn cX2_codeOfColumn 1 (some .int), Cond.methodLink RX2 131 yX2_widens, Cond.static yX2_widens, Cond.code yX2_widens cX2_widens 2 (some .boolean), Cond.methodLink RX2 44 yX2_holdsCells]
def wsX2_readShort_r2 : List Cond := [Cond.static yX2_holdsCells, Cond.code yX2_holdsCells cX2_holdsCells 1 (some .boolean), Cond.methodLink RX2 72 yX2_note, Cond.instanceMethod yX2_note, Cond.selects RX2 yX2_note yX2_note, Cond.code yX2_note cX2_note 2 (some .int), Cond.fieldLink RX2 15 "TypedColumns" "counts" "[I", Cond.fieldLink RX2 30 "TypedColumns" "latestCode" "I", Cond.methodLink RX2 166 yX0_wholeAt, Cond.instanceMethod yX0_wholeAt, Cond.selects RX0 yX0_wholeAt yX0_wholeAt, Cond.initialized RX0, Cond.code yX0_wholeAt cX0_wholeAt 2 (some .long), Cond.fieldLink RX0 28 "TypedColumns$Column" "wholes" "[J"]
def wsX2_readShort : List Cond := .code yX2_readShort cX2_readShort 3 (some .int) :: ((wsX2_readShort_r1 ++ wsX2_readShort_r2) ++ wsX20 ++ wsX00 ++ (vx_atS RX2 143 "java/lang/IndexOutOfBoundsException" ["java/lang/RuntimeException", "java/lang/Exception"]).filter goodWord)
def wsX2_readInt_r1 : List Cond := [Cond.methodLink RX2 62 yX2_columnAt, Cond.instanceMethod yX2_columnAt, Cond.selects RX2 yX2_columnAt yX2_columnAt, Cond.initialized RX2, Cond.code yX2_columnAt cX2_columnAt 3 (some (.object "TypedColumns$Column")), Cond.classLink RX2 139 "java/lang/IndexOutOfBoundsException", Cond.initialized "java/lang/IndexOutOfBoundsException", Cond.fieldLink RX2 11 "TypedColumns" "columns" "[LTypedColumns$Column;", Cond.methodLink RX2 79 yX2_readWhole, Cond.instanceMethod yX2_readWhole, Cond.selects RX2 yX2_readWhole yX2_readWhole, Cond.code yX2_readWhole cX2_readWhole 5 (some .long), Cond.fieldLink RX2 66 "TypedColumns$Column" "kind" "I", Cond.methodLink RX2 83 yX2_codeOfCell, Cond.static yX2_codeOfCell, Cond.code yX2_codeOfCell cX2_codeOfCell 5 (some .int), Cond.fieldLink RX2 76 "TypedColumns$Column" "length" "I", Cond.methodLink RX2 69 yX2_codeOfColumn, Cond.static yX2_codeOfColumn, Cond.code yX2_codeOfColumn cX2_codeOfColumn 1 (some .int), Cond.methodLink RX2 131 yX2_widens, Cond.static yX2_widens, Cond.code yX2_widens cX2_widens 2 (some .boolean), Cond.methodLink RX2 44 yX2_holdsCells]
def wsX2_readInt_r2 : List Cond := [Cond.static yX2_holdsCells, Cond.code yX2_holdsCells cX2_holdsCells 1 (some .boolean), Cond.methodLink RX2 72 yX2_note, Cond.instanceMethod yX2_note, Cond.selects RX2 yX2_note yX2_note, Cond.code yX2_note cX2_note 2 (some .int), Cond.fieldLink RX2 15 "TypedColumns" "counts" "[I", Cond.fieldLink RX2 30 "TypedColumns" "latestCode" "I", Cond.methodLink RX2 166 yX0_wholeAt, Cond.instanceMethod yX0_wholeAt, Cond.selects RX0 yX0_wholeAt yX0_wholeAt, Cond.initialized RX0, Cond.code yX0_wholeAt cX0_wholeAt 2 (some .long), Cond.fieldLink RX0 28 "TypedColumns$Column" "wholes" "[J"]
def wsX2_readInt : List Cond := .code yX2_readInt cX2_readInt 3 (some .int) :: ((wsX2_readInt_r1 ++ wsX2_readInt_r2) ++ wsX20 ++ wsX00 ++ (vx_atS RX2 143 "java/lang/IndexOutOfBoundsException" ["java/lang/RuntimeException", "java/lang/Exception"]).filter goodWord)
def wsX2_readLong_r1 : List Cond := [Cond.methodLink RX2 62 yX2_columnAt, Cond.instanceMethod yX2_columnAt, Cond.selects RX2 yX2_columnAt yX2_columnAt, Cond.initialized RX2, Cond.code yX2_columnAt cX2_columnAt 3 (some (.object "TypedColumns$Column")), Cond.classLink RX2 139 "java/lang/IndexOutOfBoundsException", Cond.initialized "java/lang/IndexOutOfBoundsException", Cond.fieldLink RX2 11 "TypedColumns" "columns" "[LTypedColumns$Column;", Cond.methodLink RX2 79 yX2_readWhole, Cond.instanceMethod yX2_readWhole, Cond.selects RX2 yX2_readWhole yX2_readWhole, Cond.code yX2_readWhole cX2_readWhole 5 (some .long), Cond.fieldLink RX2 66 "TypedColumns$Column" "kind" "I", Cond.methodLink RX2 83 yX2_codeOfCell, Cond.static yX2_codeOfCell, Cond.code yX2_codeOfCell cX2_codeOfCell 5 (some .int), Cond.fieldLink RX2 76 "TypedColumns$Column" "length" "I", Cond.methodLink RX2 69 yX2_codeOfColumn, Cond.static yX2_codeOfColumn, Cond.code yX2_codeOfColumn cX2_codeOfColumn 1 (some .int), Cond.methodLink RX2 131 yX2_widens, Cond.static yX2_widens, Cond.code yX2_widens cX2_widens 2 (some .boolean), Cond.methodLink RX2 44 yX2_holdsCells]
def wsX2_readLong_r2 : List Cond := [Cond.static yX2_holdsCells, Cond.code yX2_holdsCells cX2_holdsCells 1 (some .boolean), Cond.methodLink RX2 72 yX2_note, Cond.instanceMethod yX2_note, Cond.selects RX2 yX2_note yX2_note, Cond.code yX2_note cX2_note 2 (some .int), Cond.fieldLink RX2 15 "TypedColumns" "counts" "[I", Cond.fieldLink RX2 30 "TypedColumns" "latestCode" "I", Cond.methodLink RX2 166 yX0_wholeAt, Cond.instanceMethod yX0_wholeAt, Cond.selects RX0 yX0_wholeAt yX0_wholeAt, Cond.initialized RX0, Cond.code yX0_wholeAt cX0_wholeAt 2 (some .long), Cond.fieldLink RX0 28 "TypedColumns$Column" "wholes" "[J"]
def wsX2_readLong : List Cond := .code yX2_readLong cX2_readLong 3 (some .long) :: ((wsX2_readLong_r1 ++ wsX2_readLong_r2) ++ wsX20 ++ wsX00 ++ (vx_atS RX2 143 "java/lang/IndexOutOfBoundsException" ["java/lang/RuntimeException", "java/lang/Exception"]).filter goodWord)
def wsX2_readFloat_r1 : List Cond := [Cond.fieldLink RX2 66 "TypedColumns$Column" "kind" "I", Cond.methodLink RX2 62 yX2_columnAt, Cond.instanceMethod yX2_columnAt, Cond.selects RX2 yX2_columnAt yX2_columnAt, Cond.initialized RX2, Cond.code yX2_columnAt cX2_columnAt 3 (some (.object "TypedColumns$Column")), Cond.classLink RX2 139 "java/lang/IndexOutOfBoundsException", Cond.initialized "java/lang/IndexOutOfBoundsException", Cond.fieldLink RX2 11 "TypedColumns" "columns" "[LTypedColumns$Column;", Cond.methodLink RX2 83 yX2_codeOfCell, Cond.static yX2_codeOfCell, Cond.code yX2_codeOfCell cX2_codeOfCell 5 (some .int), Cond.fieldLink RX2 76 "TypedColumns$Column" "length" "I", Cond.methodLink RX2 69 yX2_codeOfColumn, Cond.static yX2_codeOfColumn, Cond.code yX2_codeOfColumn cX2_codeOfColumn 1 (some .int), Cond.methodLink RX2 131 yX2_widens, Cond.static yX2_widens, Cond.code yX2_widens cX2_widens 2 (some .boolean), Cond.methodLink RX2 44 yX2_holdsCells, Cond.static yX2_holdsCells, Cond.code yX2_holdsCells cX2_holdsCells 1 (some .boolean), Cond.methodLink RX2 72 yX2_note, Cond.instanceMethod yX2_note]
def wsX2_readFloat_r2 : List Cond := [Cond.selects RX2 yX2_note yX2_note, Cond.code yX2_note cX2_note 2 (some .int), Cond.fieldLink RX2 15 "TypedColumns" "counts" "[I", Cond.fieldLink RX2 30 "TypedColumns" "latestCode" "I", Cond.methodLink RX2 87 yX0_floatAt, Cond.instanceMethod yX0_floatAt, Cond.selects RX0 yX0_floatAt yX0_floatAt, Cond.initialized RX0, Cond.code yX0_floatAt cX0_floatAt 2 (some .float), Cond.fieldLink RX0 16 "TypedColumns$Column" "kind" "I", Cond.static yX2_isFloating, Cond.code yX2_isFloating cX2_isFloating 1 (some .boolean), Cond.methodLink RX0 36 yX0_realAt, Cond.instanceMethod yX0_realAt, Cond.selects RX0 yX0_realAt yX0_realAt, Cond.code yX0_realAt cX0_realAt 2 (some .double), Cond.fieldLink RX0 32 "TypedColumns$Column" "reals" "[D", Cond.static yX2_floatOf, Cond.code yX2_floatOf cX2_floatOf 2 (some .float), Cond.methodLink RX2 188 yX2_noFloatNumber, Cond.static yX2_noFloatNumber, Cond.code yX2_noFloatNumber cX2_noFloatNumber 0 (some .float), Cond.constantFloat RX2 184 (2143289344), Cond.methodLink RX0 40 yX0_wholeAt]
def wsX2_readFloat_r3 : List Cond := [Cond.instanceMethod yX0_wholeAt, Cond.selects RX0 yX0_wholeAt yX0_wholeAt, Cond.code yX0_wholeAt cX0_wholeAt 2 (some .long), Cond.fieldLink RX0 28 "TypedColumns$Column" "wholes" "[J"]
def wsX2_readFloat : List Cond := .code yX2_readFloat cX2_readFloat 5 (some .float) :: ((wsX2_readFloat_r1 ++ (wsX2_readFloat_r2 ++ wsX2_readFloat_r3)) ++ wsX00 ++ wsX20 ++ (vx_atS RX2 143 "java/lang/IndexOutOfBoundsException" ["java/lang/RuntimeException", "java/lang/Exception"]).filter goodWord)
def wsX2_readReal_r1 : List Cond := [Cond.fieldLink RX2 66 "TypedColumns$Column" "kind" "I", Cond.methodLink RX2 83 yX2_codeOfCell, Cond.static yX2_codeOfCell, Cond.initialized RX2, Cond.code yX2_codeOfCell cX2_codeOfCell 5 (some .int), Cond.fieldLink RX2 76 "TypedColumns$Column" "length" "I", Cond.methodLink RX2 69 yX2_codeOfColumn, Cond.static yX2_codeOfColumn, Cond.code yX2_codeOfColumn cX2_codeOfColumn 1 (some .int), Cond.methodLink RX2 131 yX2_widens, Cond.static yX2_widens, Cond.code yX2_widens cX2_widens 2 (some .boolean), Cond.methodLink RX2 44 yX2_holdsCells, Cond.static yX2_holdsCells, Cond.code yX2_holdsCells cX2_holdsCells 1 (some .boolean), Cond.methodLink RX2 72 yX2_note, Cond.instanceMethod yX2_note, Cond.selects RX2 yX2_note yX2_note, Cond.code yX2_note cX2_note 2 (some .int), Cond.fieldLink RX2 15 "TypedColumns" "counts" "[I", Cond.fieldLink RX2 30 "TypedColumns" "latestCode" "I", Cond.methodLink RX2 170 yX0_doubleAt, Cond.instanceMethod yX0_doubleAt, Cond.selects RX0 yX0_doubleAt yX0_doubleAt]
def wsX2_readReal_r2 : List Cond := [Cond.initialized RX0, Cond.code yX0_doubleAt cX0_doubleAt 2 (some .double), Cond.fieldLink RX0 16 "TypedColumns$Column" "kind" "I", Cond.static yX2_isFloating, Cond.code yX2_isFloating cX2_isFloating 1 (some .boolean), Cond.methodLink RX0 36 yX0_realAt, Cond.instanceMethod yX0_realAt, Cond.selects RX0 yX0_realAt yX0_realAt, Cond.code yX0_realAt cX0_realAt 2 (some .double), Cond.fieldLink RX0 32 "TypedColumns$Column" "reals" "[D", Cond.methodLink RX0 40 yX0_wholeAt, Cond.instanceMethod yX0_wholeAt, Cond.selects RX0 yX0_wholeAt yX0_wholeAt, Cond.code yX0_wholeAt cX0_wholeAt 2 (some .long), Cond.fieldLink RX0 28 "TypedColumns$Column" "wholes" "[J"]
def wsX2_readReal : List Cond := .code yX2_readReal cX2_readReal 5 (some .double) :: ((wsX2_readReal_r1 ++ wsX2_readReal_r2) ++ wsX00 ++ wsX20)
def wsX2_readDouble_r1 : List Cond := [Cond.methodLink RX2 62 yX2_columnAt, Cond.instanceMethod yX2_columnAt, Cond.selects RX2 yX2_columnAt yX2_columnAt, Cond.initialized RX2, Cond.code yX2_columnAt cX2_columnAt 3 (some (.object "TypedColumns$Column")), Cond.classLink RX2 139 "java/lang/IndexOutOfBoundsException", Cond.initialized "java/lang/IndexOutOfBoundsException", Cond.fieldLink RX2 11 "TypedColumns" "columns" "[LTypedColumns$Column;", Cond.methodLink RX2 91 yX2_readReal, Cond.instanceMethod yX2_readReal, Cond.selects RX2 yX2_readReal yX2_readReal, Cond.code yX2_readReal cX2_readReal 5 (some .double), Cond.fieldLink RX2 66 "TypedColumns$Column" "kind" "I", Cond.methodLink RX2 83 yX2_codeOfCell, Cond.static yX2_codeOfCell, Cond.code yX2_codeOfCell cX2_codeOfCell 5 (some .int), Cond.fieldLink RX2 76 "TypedColumns$Column" "length" "I", Cond.methodLink RX2 69 yX2_codeOfColumn, Cond.static yX2_codeOfColumn, Cond.code yX2_codeOfColumn cX2_codeOfColumn 1 (some .int), Cond.methodLink RX2 131 yX2_widens, Cond.static yX2_widens, Cond.code yX2_widens cX2_widens 2 (some .boolean), Cond.methodLink RX2 44 yX2_holdsCells]
def wsX2_readDouble_r2 : List Cond := [Cond.static yX2_holdsCells, Cond.code yX2_holdsCells cX2_holdsCells 1 (some .boolean), Cond.methodLink RX2 72 yX2_note, Cond.instanceMethod yX2_note, Cond.selects RX2 yX2_note yX2_note, Cond.code yX2_note cX2_note 2 (some .int), Cond.fieldLink RX2 15 "TypedColumns" "counts" "[I", Cond.fieldLink RX2 30 "TypedColumns" "latestCode" "I", Cond.methodLink RX2 170 yX0_doubleAt, Cond.instanceMethod yX0_doubleAt, Cond.selects RX0 yX0_doubleAt yX0_doubleAt, Cond.initialized RX0, Cond.code yX0_doubleAt cX0_doubleAt 2 (some .double), Cond.fieldLink RX0 16 "TypedColumns$Column" "kind" "I", Cond.static yX2_isFloating, Cond.code yX2_isFloating cX2_isFloating 1 (some .boolean), Cond.methodLink RX0 36 yX0_realAt, Cond.instanceMethod yX0_realAt, Cond.selects RX0 yX0_realAt yX0_realAt, Cond.code yX0_realAt cX0_realAt 2 (some .double), Cond.fieldLink RX0 32 "TypedColumns$Column" "reals" "[D", Cond.methodLink RX0 40 yX0_wholeAt, Cond.instanceMethod yX0_wholeAt, Cond.selects RX0 yX0_wholeAt yX0_wholeAt]
def wsX2_readDouble_r3 : List Cond := [Cond.code yX0_wholeAt cX0_wholeAt 2 (some .long), Cond.fieldLink RX0 28 "TypedColumns$Column" "wholes" "[J"]
def wsX2_readDouble : List Cond := .code yX2_readDouble cX2_readDouble 3 (some .double) :: ((wsX2_readDouble_r1 ++ (wsX2_readDouble_r2 ++ wsX2_readDouble_r3)) ++ wsX20 ++ wsX00 ++ (vx_atS RX2 143 "java/lang/IndexOutOfBoundsException" ["java/lang/RuntimeException", "java/lang/Exception"]).filter goodWord)
def wsX2_readAny_r1 : List Cond := [Cond.fieldLink RX2 66 "TypedColumns$Column" "kind" "I", Cond.methodLink RX2 62 yX2_columnAt, Cond.instanceMethod yX2_columnAt, Cond.selects RX2 yX2_columnAt yX2_columnAt, Cond.initialized RX2, Cond.code yX2_columnAt cX2_columnAt 3 (some (.object "TypedColumns$Column")), Cond.classLink RX2 139 "java/lang/IndexOutOfBoundsException", Cond.initialized "java/lang/IndexOutOfBoundsException", Cond.fieldLink RX2 11 "TypedColumns" "columns" "[LTypedColumns$Column;", Cond.methodLink RX2 91 yX2_readReal, Cond.instanceMethod yX2_readReal, Cond.selects RX2 yX2_readReal yX2_readReal, Cond.code yX2_readReal cX2_readReal 5 (some .double), Cond.methodLink RX2 83 yX2_codeOfCell, Cond.static yX2_codeOfCell, Cond.code yX2_codeOfCell cX2_codeOfCell 5 (some .int), Cond.fieldLink RX2 76 "TypedColumns$Column" "length" "I", Cond.methodLink RX2 69 yX2_codeOfColumn, Cond.static yX2_codeOfColumn, Cond.code yX2_codeOfColumn cX2_codeOfColumn 1 (some .int), Cond.methodLink RX2 131 yX2_widens, Cond.static yX2_widens, Cond.code yX2_widens cX2_widens 2 (some .boolean), Cond.methodLink RX2 44 yX2_holdsCells]
def wsX2_readAny_r2 : List Cond := [Cond.static yX2_holdsCells, Cond.code yX2_holdsCells cX2_holdsCells 1 (some .boolean), Cond.methodLink RX2 72 yX2_note, Cond.instanceMethod yX2_note, Cond.selects RX2 yX2_note yX2_note, Cond.code yX2_note cX2_note 2 (some .int), Cond.fieldLink RX2 15 "TypedColumns" "counts" "[I", Cond.fieldLink RX2 30 "TypedColumns" "latestCode" "I", Cond.methodLink RX2 170 yX0_doubleAt, Cond.instanceMethod yX0_doubleAt, Cond.selects RX0 yX0_doubleAt yX0_doubleAt, Cond.initialized RX0, Cond.code yX0_doubleAt cX0_doubleAt 2 (some .double), Cond.fieldLink RX0 16 "TypedColumns$Column" "kind" "I", Cond.static yX2_isFloating, Cond.code yX2_isFloating cX2_isFloating 1 (some .boolean), Cond.methodLink RX0 36 yX0_realAt, Cond.instanceMethod yX0_realAt, Cond.selects RX0 yX0_realAt yX0_realAt, Cond.code yX0_realAt cX0_realAt 2 (some .double), Cond.fieldLink RX0 32 "TypedColumns$Column" "reals" "[D", Cond.methodLink RX0 40 yX0_wholeAt, Cond.instanceMethod yX0_wholeAt, Cond.selects RX0 yX0_wholeAt yX0_wholeAt]
def wsX2_readAny_r3 : List Cond := [Cond.code yX0_wholeAt cX0_wholeAt 2 (some .long), Cond.fieldLink RX0 28 "TypedColumns$Column" "wholes" "[J"]
def wsX2_readAny : List Cond := .code yX2_readAny cX2_readAny 4 (some .double) :: ((wsX2_readAny_r1 ++ (wsX2_readAny_r2 ++ wsX2_readAny_r3)) ++ wsX00 ++ wsX20 ++ (vx_atS RX2 143 "java/lang/IndexOutOfBoundsException" ["java/lang/RuntimeException", "java/lang/Exception"]).filter goodWord)
def wsX2_writeWhole_r1 : List Cond := [Cond.fieldLink RX2 66 "TypedColumns$Column" "kind" "I", Cond.methodLink RX2 83 yX2_codeOfCell, Cond.static yX2_codeOfCell, Cond.initialized RX2, Cond.code yX2_codeOfCell cX2_codeOfCell 5 (some .int), Cond.fieldLink RX2 76 "TypedColumns$Column" "length" "I", Cond.methodLink RX2 69 yX2_codeOfColumn, Cond.static yX2_codeOfColumn, Cond.code yX2_codeOfColumn cX2_codeOfColumn 1 (some .int), Cond.methodLink RX2 131 yX2_widens, Cond.static yX2_widens, Cond.code yX2_widens cX2_widens 2 (some .boolean), Cond.methodLink RX2 44 yX2_holdsCells, Cond.static yX2_holdsCells, Cond.code yX2_holdsCells cX2_holdsCells 1 (some .boolean), Cond.methodLink RX2 72 yX2_note, Cond.instanceMethod yX2_note, Cond.selects RX2 yX2_note yX2_note, Cond.code yX2_note cX2_note 2 (some .int), Cond.fieldLink RX2 15 "TypedColumns" "counts" "[I", Cond.fieldLink RX2 30 "TypedColumns" "latestCode" "I", Cond.methodLink RX2 174 yX0_putWhole, Cond.instanceMethod yX0_putWhole, Cond.selects RX0 yX0_putWhole yX0_putWhole]
def wsX2_writeWhole_r2 : List Cond := [Cond.initialized RX0, Cond.code yX0_putWhole cX0_putWhole 4 none, Cond.fieldLink RX0 16 "TypedColumns$Column" "kind" "I", Cond.fieldLink RX0 28 "TypedColumns$Column" "wholes" "[J", Cond.methodLink RX0 48 yX0_putReal, Cond.instanceMethod yX0_putReal, Cond.selects RX0 yX0_putReal yX0_putReal, Cond.code yX0_putReal cX0_putReal 4 none, Cond.fieldLink RX0 32 "TypedColumns$Column" "reals" "[D"]
def wsX2_writeWhole : List Cond := .code yX2_writeWhole cX2_writeWhole 7 (some .int) :: ((wsX2_writeWhole_r1 ++ wsX2_writeWhole_r2) ++ wsX00 ++ wsX20)
def wsX2_writeBoolean_r1 : List Cond := [Cond.methodLink RX2 62 yX2_columnAt, Cond.instanceMethod yX2_columnAt, Cond.selects RX2 yX2_columnAt yX2_columnAt, Cond.initialized RX2, Cond.code yX2_columnAt cX2_columnAt 3 (some (.object "TypedColumns$Column")), Cond.classLink RX2 139 "java/lang/IndexOutOfBoundsException", Cond.initialized "java/lang/IndexOutOfBoundsException", Cond.fieldLink RX2 11 "TypedColumns" "columns" "[LTypedColumns$Column;", Cond.methodLink RX2 95 yX2_writeWhole, Cond.instanceMethod yX2_writeWhole, Cond.selects RX2 yX2_writeWhole yX2_writeWhole, Cond.code yX2_writeWhole cX2_writeWhole 7 (some .int), Cond.fieldLink RX2 66 "TypedColumns$Column" "kind" "I", Cond.methodLink RX2 83 yX2_codeOfCell, Cond.static yX2_codeOfCell, Cond.code yX2_codeOfCell cX2_codeOfCell 5 (some .int), Cond.fieldLink RX2 76 "TypedColumns$Column" "length" "I", Cond.methodLink RX2 69 yX2_codeOfColumn, Cond.static yX2_codeOfColumn, Cond.code yX2_codeOfColumn cX2_codeOfColumn 1 (some .int), Cond.methodLink RX2 131 yX2_widens, Cond.static yX2_widens, Cond.code yX2_widens cX2_widens 2 (some .boolean), Cond.methodLink RX2 44 yX2_holdsCells]
def wsX2_writeBoolean_r2 : List Cond := [Cond.static yX2_holdsCells, Cond.code yX2_holdsCells cX2_holdsCells 1 (some .boolean), Cond.methodLink RX2 72 yX2_note, Cond.instanceMethod yX2_note, Cond.selects RX2 yX2_note yX2_note, Cond.code yX2_note cX2_note 2 (some .int), Cond.fieldLink RX2 15 "TypedColumns" "counts" "[I", Cond.fieldLink RX2 30 "TypedColumns" "latestCode" "I", Cond.methodLink RX2 174 yX0_putWhole, Cond.instanceMethod yX0_putWhole, Cond.selects RX0 yX0_putWhole yX0_putWhole, Cond.initialized RX0, Cond.code yX0_putWhole cX0_putWhole 4 none, Cond.fieldLink RX0 16 "TypedColumns$Column" "kind" "I", Cond.fieldLink RX0 28 "TypedColumns$Column" "wholes" "[J", Cond.methodLink RX0 48 yX0_putReal, Cond.instanceMethod yX0_putReal, Cond.selects RX0 yX0_putReal yX0_putReal, Cond.code yX0_putReal cX0_putReal 4 none, Cond.fieldLink RX0 32 "TypedColumns$Column" "reals" "[D"]
def wsX2_writeBoolean : List Cond := .code yX2_writeBoolean cX2_writeBoolean 4 (some .int) :: ((wsX2_writeBoolean_r1 ++ wsX2_writeBoolean_r2) ++ wsX20 ++ wsX00 ++ (vx_atS RX2 143 "java/lang/IndexOutOfBoundsException" ["java/lang/RuntimeException", "java/lang/Exception"]).filter goodWord)
def wsX2_writeByte_r1 : List Cond := [Cond.methodLink RX2 62 yX2_columnAt, Cond.instanceMethod yX2_columnAt, Cond.selects RX2 yX2_columnAt yX2_columnAt, Cond.initialized RX2, Cond.code yX2_columnAt cX2_columnAt 3 (some (.object "TypedColumns$Column")), Cond.classLink RX2 139 "java/lang/IndexOutOfBoundsException", Cond.initialized "java/lang/IndexOutOfBoundsException", Cond.fieldLink RX2 11 "TypedColumns" "columns" "[LTypedColumns$Column;", Cond.methodLink RX2 95 yX2_writeWhole, Cond.instanceMethod yX2_writeWhole, Cond.selects RX2 yX2_writeWhole yX2_writeWhole, Cond.code yX2_writeWhole cX2_writeWhole 7 (some .int), Cond.fieldLink RX2 66 "TypedColumns$Column" "kind" "I", Cond.methodLink RX2 83 yX2_codeOfCell, Cond.static yX2_codeOfCell, Cond.code yX2_codeOfCell cX2_codeOfCell 5 (some .int), Cond.fieldLink RX2 76 "TypedColumns$Column" "length" "I", Cond.methodLink RX2 69 yX2_codeOfColumn, Cond.static yX2_codeOfColumn, Cond.code yX2_codeOfColumn cX2_codeOfColumn 1 (some .int), Cond.methodLink RX2 131 yX2_widens, Cond.static yX2_widens, Cond.code yX2_widens cX2_widens 2 (some .boolean), Cond.methodLink RX2 44 yX2_holdsCells]
def wsX2_writeByte_r2 : List Cond := [Cond.static yX2_holdsCells, Cond.code yX2_holdsCells cX2_holdsCells 1 (some .boolean), Cond.methodLink RX2 72 yX2_note, Cond.instanceMethod yX2_note, Cond.selects RX2 yX2_note yX2_note, Cond.code yX2_note cX2_note 2 (some .int), Cond.fieldLink RX2 15 "TypedColumns" "counts" "[I", Cond.fieldLink RX2 30 "TypedColumns" "latestCode" "I", Cond.methodLink RX2 174 yX0_putWhole, Cond.instanceMethod yX0_putWhole, Cond.selects RX0 yX0_putWhole yX0_putWhole, Cond.initialized RX0, Cond.code yX0_putWhole cX0_putWhole 4 none, Cond.fieldLink RX0 16 "TypedColumns$Column" "kind" "I", Cond.fieldLink RX0 28 "TypedColumns$Column" "wholes" "[J", Cond.methodLink RX0 48 yX0_putReal, Cond.instanceMethod yX0_putReal, Cond.selects RX0 yX0_putReal yX0_putReal, Cond.code yX0_putReal cX0_putReal 4 none, Cond.fieldLink RX0 32 "TypedColumns$Column" "reals" "[D"]
def wsX2_writeByte : List Cond := .code yX2_writeByte cX2_writeByte 4 (some .int) :: ((wsX2_writeByte_r1 ++ wsX2_writeByte_r2) ++ wsX20 ++ wsX00 ++ (vx_atS RX2 143 "java/lang/IndexOutOfBoundsException" ["java/lang/RuntimeException", "java/lang/Exception"]).filter goodWord)
def wsX2_writeChar_r1 : List Cond := [Cond.methodLink RX2 62 yX2_columnAt, Cond.instanceMethod yX2_columnAt, Cond.selects RX2 yX2_columnAt yX2_columnAt, Cond.initialized RX2, Cond.code yX2_columnAt cX2_columnAt 3 (some (.object "TypedColumns$Column")), Cond.classLink RX2 139 "java/lang/IndexOutOfBoundsException", Cond.initialized "java/lang/IndexOutOfBoundsException", Cond.fieldLink RX2 11 "TypedColumns" "columns" "[LTypedColumns$Column;", Cond.methodLink RX2 95 yX2_writeWhole, Cond.instanceMethod yX2_writeWhole, Cond.selects RX2 yX2_writeWhole yX2_writeWhole, Cond.code yX2_writeWhole cX2_writeWhole 7 (some .int), Cond.fieldLink RX2 66 "TypedColumns$Column" "kind" "I", Cond.methodLink RX2 83 yX2_codeOfCell, Cond.static yX2_codeOfCell, Cond.code yX2_codeOfCell cX2_codeOfCell 5 (some .int), Cond.fieldLink RX2 76 "TypedColumns$Column" "length" "I", Cond.methodLink RX2 69 yX2_codeOfColumn, Cond.static yX2_codeOfColumn, Cond.code yX2_codeOfColumn cX2_codeOfColumn 1 (some .int), Cond.methodLink RX2 131 yX2_widens, Cond.static yX2_widens, Cond.code yX2_widens cX2_widens 2 (some .boolean), Cond.methodLink RX2 44 yX2_holdsCells]
def wsX2_writeChar_r2 : List Cond := [Cond.static yX2_holdsCells, Cond.code yX2_holdsCells cX2_holdsCells 1 (some .boolean), Cond.methodLink RX2 72 yX2_note, Cond.instanceMethod yX2_note, Cond.selects RX2 yX2_note yX2_note, Cond.code yX2_note cX2_note 2 (some .int), Cond.fieldLink RX2 15 "TypedColumns" "counts" "[I", Cond.fieldLink RX2 30 "TypedColumns" "latestCode" "I", Cond.methodLink RX2 174 yX0_putWhole, Cond.instanceMethod yX0_putWhole, Cond.selects RX0 yX0_putWhole yX0_putWhole, Cond.initialized RX0, Cond.code yX0_putWhole cX0_putWhole 4 none, Cond.fieldLink RX0 16 "TypedColumns$Column" "kind" "I", Cond.fieldLink RX0 28 "TypedColumns$Column" "wholes" "[J", Cond.methodLink RX0 48 yX0_putReal, Cond.instanceMethod yX0_putReal, Cond.selects RX0 yX0_putReal yX0_putReal, Cond.code yX0_putReal cX0_putReal 4 none, Cond.fieldLink RX0 32 "TypedColumns$Column" "reals" "[D"]
def wsX2_writeChar : List Cond := .code yX2_writeChar cX2_writeChar 4 (some .int) :: ((wsX2_writeChar_r1 ++ wsX2_writeChar_r2) ++ wsX20 ++ wsX00 ++ (vx_atS RX2 143 "java/lang/IndexOutOfBoundsException" ["java/lang/RuntimeException", "java/lang/Exception"]).filter goodWord)
def wsX2_writeShort_r1 : List Cond := [Cond.methodLink RX2 62 yX2_columnAt, Cond.instanceMethod yX2_columnAt, Cond.selects RX2 yX2_columnAt yX2_columnAt, Cond.initialized RX2, Cond.code yX2_columnAt cX2_columnAt 3 (some (.object "TypedColumns$Column")), Cond.classLink RX2 139 "java/lang/IndexOutOfBoundsException", Cond.initialized "java/lang/IndexOutOfBoundsException", Cond.fieldLink RX2 11 "TypedColumns" "columns" "[LTypedColumns$Column;", Cond.methodLink RX2 95 yX2_writeWhole, Cond.instanceMethod yX2_writeWhole, Cond.selects RX2 yX2_writeWhole yX2_writeWhole, Cond.code yX2_writeWhole cX2_writeWhole 7 (some .int), Cond.fieldLink RX2 66 "TypedColumns$Column" "kind" "I", Cond.methodLink RX2 83 yX2_codeOfCell, Cond.static yX2_codeOfCell, Cond.code yX2_codeOfCell cX2_codeOfCell 5 (some .int), Cond.fieldLink RX2 76 "TypedColumns$Column" "length" "I", Cond.methodLink RX2 69 yX2_codeOfColumn, Cond.static yX2_codeOfColumn, Cond.code yX2_codeOfColumn cX2_codeOfColumn 1 (some .int), Cond.methodLink RX2 131 yX2_widens, Cond.static yX2_widens, Cond.code yX2_widens cX2_widens 2 (some .boolean), Cond.methodLink RX2 44 yX2_holdsCells]
def wsX2_writeShort_r2 : List Cond := [Cond.static yX2_holdsCells, Cond.code yX2_holdsCells cX2_holdsCells 1 (some .boolean), Cond.methodLink RX2 72 yX2_note, Cond.instanceMethod yX2_note, Cond.selects RX2 yX2_note yX2_note, Cond.code yX2_note cX2_note 2 (some .int), Cond.fieldLink RX2 15 "TypedColumns" "counts" "[I", Cond.fieldLink RX2 30 "TypedColumns" "latestCode" "I", Cond.methodLink RX2 174 yX0_putWhole, Cond.instanceMethod yX0_putWhole, Cond.selects RX0 yX0_putWhole yX0_putWhole, Cond.initialized RX0, Cond.code yX0_putWhole cX0_putWhole 4 none, Cond.fieldLink RX0 16 "TypedColumns$Column" "kind" "I", Cond.fieldLink RX0 28 "TypedColumns$Column" "wholes" "[J", Cond.methodLink RX0 48 yX0_putReal, Cond.instanceMethod yX0_putReal, Cond.selects RX0 yX0_putReal yX0_putReal, Cond.code yX0_putReal cX0_putReal 4 none, Cond.fieldLink RX0 32 "TypedColumns$Column" "reals" "[D"]
def wsX2_writeShort : List Cond := .code yX2_writeShort cX2_writeShort 4 (some .int) :: ((wsX2_writeShort_r1 ++ wsX2_writeShort_r2) ++ wsX20 ++ wsX00 ++ (vx_atS RX2 143 "java/lang/IndexOutOfBoundsException" ["java/lang/RuntimeException", "java/lang/Exception"]).filter goodWord)
def wsX2_writeInt_r1 : List Cond := [Cond.methodLink RX2 62 yX2_columnAt, Cond.instanceMethod yX2_columnAt, Cond.selects RX2 yX2_columnAt yX2_columnAt, Cond.initialized RX2, Cond.code yX2_columnAt cX2_columnAt 3 (some (.object "TypedColumns$Column")), Cond.classLink RX2 139 "java/lang/IndexOutOfBoundsException", Cond.initialized "java/lang/IndexOutOfBoundsException", Cond.fieldLink RX2 11 "TypedColumns" "columns" "[LTypedColumns$Column;", Cond.methodLink RX2 95 yX2_writeWhole, Cond.instanceMethod yX2_writeWhole, Cond.selects RX2 yX2_writeWhole yX2_writeWhole, Cond.code yX2_writeWhole cX2_writeWhole 7 (some .int), Cond.fieldLink RX2 66 "TypedColumns$Column" "kind" "I", Cond.methodLink RX2 83 yX2_codeOfCell, Cond.static yX2_codeOfCell, Cond.code yX2_codeOfCell cX2_codeOfCell 5 (some .int), Cond.fieldLink RX2 76 "TypedColumns$Column" "length" "I", Cond.methodLink RX2 69 yX2_codeOfColumn, Cond.static yX2_codeOfColumn, Cond.code yX2_codeOfColumn cX2_codeOfColumn 1 (some .int), Cond.methodLink RX2 131 yX2_widens, Cond.static yX2_widens, Cond.code yX2_widens cX2_widens 2 (some .boolean), Cond.methodLink RX2 44 yX2_holdsCells]
def wsX2_writeInt_r2 : List Cond := [Cond.static yX2_holdsCells, Cond.code yX2_holdsCells cX2_holdsCells 1 (some .boolean), Cond.methodLink RX2 72 yX2_note, Cond.instanceMethod yX2_note, Cond.selects RX2 yX2_note yX2_note, Cond.code yX2_note cX2_note 2 (some .int), Cond.fieldLink RX2 15 "TypedColumns" "counts" "[I", Cond.fieldLink RX2 30 "TypedColumns" "latestCode" "I", Cond.methodLink RX2 174 yX0_putWhole, Cond.instanceMethod yX0_putWhole, Cond.selects RX0 yX0_putWhole yX0_putWhole, Cond.initialized RX0, Cond.code yX0_putWhole cX0_putWhole 4 none, Cond.fieldLink RX0 16 "TypedColumns$Column" "kind" "I", Cond.fieldLink RX0 28 "TypedColumns$Column" "wholes" "[J", Cond.methodLink RX0 48 yX0_putReal, Cond.instanceMethod yX0_putReal, Cond.selects RX0 yX0_putReal yX0_putReal, Cond.code yX0_putReal cX0_putReal 4 none, Cond.fieldLink RX0 32 "TypedColumns$Column" "reals" "[D"]
def wsX2_writeInt : List Cond := .code yX2_writeInt cX2_writeInt 4 (some .int) :: ((wsX2_writeInt_r1 ++ wsX2_writeInt_r2) ++ wsX20 ++ wsX00 ++ (vx_atS RX2 143 "java/lang/IndexOutOfBoundsException" ["java/lang/RuntimeException", "java/lang/Exception"]).filter goodWord)
def wsX2_writeLong_r1 : List Cond := [Cond.methodLink RX2 62 yX2_columnAt, Cond.instanceMethod yX2_columnAt, Cond.selects RX2 yX2_columnAt yX2_columnAt, Cond.initialized RX2, Cond.code yX2_columnAt cX2_columnAt 3 (some (.object "TypedColumns$Column")), Cond.classLink RX2 139 "java/lang/IndexOutOfBoundsException", Cond.initialized "java/lang/IndexOutOfBoundsException", Cond.fieldLink RX2 11 "TypedColumns" "columns" "[LTypedColumns$Column;", Cond.methodLink RX2 95 yX2_writeWhole, Cond.instanceMethod yX2_writeWhole, Cond.selects RX2 yX2_writeWhole yX2_writeWhole, Cond.code yX2_writeWhole cX2_writeWhole 7 (some .int), Cond.fieldLink RX2 66 "TypedColumns$Column" "kind" "I", Cond.methodLink RX2 83 yX2_codeOfCell, Cond.static yX2_codeOfCell, Cond.code yX2_codeOfCell cX2_codeOfCell 5 (some .int), Cond.fieldLink RX2 76 "TypedColumns$Column" "length" "I", Cond.methodLink RX2 69 yX2_codeOfColumn, Cond.static yX2_codeOfColumn, Cond.code yX2_codeOfColumn cX2_codeOfColumn 1 (some .int), Cond.methodLink RX2 131 yX2_widens, Cond.static yX2_widens, Cond.code yX2_widens cX2_widens 2 (some .boolean), Cond.methodLink RX2 44 yX2_holdsCells]
def wsX2_writeLong_r2 : List Cond := [Cond.static yX2_holdsCells, Cond.code yX2_holdsCells cX2_holdsCells 1 (some .boolean), Cond.methodLink RX2 72 yX2_note, Cond.instanceMethod yX2_note, Cond.selects RX2 yX2_note yX2_note, Cond.code yX2_note cX2_note 2 (some .int), Cond.fieldLink RX2 15 "TypedColumns" "counts" "[I", Cond.fieldLink RX2 30 "TypedColumns" "latestCode" "I", Cond.methodLink RX2 174 yX0_putWhole, Cond.instanceMethod yX0_putWhole, Cond.selects RX0 yX0_putWhole yX0_putWhole, Cond.initialized RX0, Cond.code yX0_putWhole cX0_putWhole 4 none, Cond.fieldLink RX0 16 "TypedColumns$Column" "kind" "I", Cond.fieldLink RX0 28 "TypedColumns$Column" "wholes" "[J", Cond.methodLink RX0 48 yX0_putReal, Cond.instanceMethod yX0_putReal, Cond.selects RX0 yX0_putReal yX0_putReal, Cond.code yX0_putReal cX0_putReal 4 none, Cond.fieldLink RX0 32 "TypedColumns$Column" "reals" "[D"]
def wsX2_writeLong : List Cond := .code yX2_writeLong cX2_writeLong 5 (some .int) :: ((wsX2_writeLong_r1 ++ wsX2_writeLong_r2) ++ wsX20 ++ wsX00 ++ (vx_atS RX2 143 "java/lang/IndexOutOfBoundsException" ["java/lang/RuntimeException", "java/lang/Exception"]).filter goodWord)
def wsX2_doubleOf : List Cond := .code yX2_doubleOf cX2_doubleOf 1 (some .double) :: ([.methodLink RX2 185 yX2_noNumber, .static yX2_noNumber, .initialized RX2, .code yX2_noNumber cX2_noNumber 0 (some .double), .constantDouble RX2 182 (9221120237041090560)])
def wsX2_writeReal_r1 : List Cond := [Cond.fieldLink RX2 66 "TypedColumns$Column" "kind" "I", Cond.methodLink RX2 83 yX2_codeOfCell, Cond.static yX2_codeOfCell, Cond.initialized RX2, Cond.code yX2_codeOfCell cX2_codeOfCell 5 (some .int), Cond.fieldLink RX2 76 "TypedColumns$Column" "length" "I", Cond.methodLink RX2 69 yX2_codeOfColumn, Cond.static yX2_codeOfColumn, Cond.code yX2_codeOfColumn cX2_codeOfColumn 1 (some .int), Cond.methodLink RX2 131 yX2_widens, Cond.static yX2_widens, Cond.code yX2_widens cX2_widens 2 (some .boolean), Cond.methodLink RX2 44 yX2_holdsCells, Cond.static yX2_holdsCells, Cond.code yX2_holdsCells cX2_holdsCells 1 (some .boolean), Cond.methodLink RX2 72 yX2_note, Cond.instanceMethod yX2_note, Cond.selects RX2 yX2_note yX2_note, Cond.code yX2_note cX2_note 2 (some .int), Cond.fieldLink RX2 15 "TypedColumns" "counts" "[I", Cond.fieldLink RX2 30 "TypedColumns" "latestCode" "I", Cond.methodLink RX2 178 yX0_putReal, Cond.instanceMethod yX0_putReal, Cond.selects RX0 yX0_putReal yX0_putReal]
def wsX2_writeReal_r2 : List Cond := [Cond.initialized RX0, Cond.code yX0_putReal cX0_putReal 4 none, Cond.fieldLink RX0 32 "TypedColumns$Column" "reals" "[D"]
def wsX2_writeReal : List Cond := .code yX2_writeReal cX2_writeReal 7 (some .int) :: ((wsX2_writeReal_r1 ++ wsX2_writeReal_r2) ++ wsX00 ++ wsX20)
def wsX2_writeFloat_r1 : List Cond := [Cond.methodLink RX2 62 yX2_columnAt, Cond.instanceMethod yX2_columnAt, Cond.selects RX2 yX2_columnAt yX2_columnAt, Cond.initialized RX2, Cond.code yX2_columnAt cX2_columnAt 3 (some (.object "TypedColumns$Column")), Cond.classLink RX2 139 "java/lang/IndexOutOfBoundsException", Cond.initialized "java/lang/IndexOutOfBoundsException", Cond.fieldLink RX2 11 "TypedColumns" "columns" "[LTypedColumns$Column;", Cond.methodLink RX2 99 yX2_doubleOf, Cond.static yX2_doubleOf, Cond.code yX2_doubleOf cX2_doubleOf 1 (some .double), Cond.methodLink RX2 185 yX2_noNumber, Cond.static yX2_noNumber, Cond.code yX2_noNumber cX2_noNumber 0 (some .double), Cond.constantDouble RX2 182 (9221120237041090560), Cond.methodLink RX2 103 yX2_writeReal, Cond.instanceMethod yX2_writeReal, Cond.selects RX2 yX2_writeReal yX2_writeReal, Cond.code yX2_writeReal cX2_writeReal 7 (some .int), Cond.fieldLink RX2 66 "TypedColumns$Column" "kind" "I", Cond.methodLink RX2 83 yX2_codeOfCell, Cond.static yX2_codeOfCell, Cond.code yX2_codeOfCell cX2_codeOfCell 5 (some .int), Cond.fieldLink RX2 76 "TypedColumns$Column" "length" "I"]
def wsX2_writeFloat_r2 : List Cond := [Cond.methodLink RX2 69 yX2_codeOfColumn, Cond.static yX2_codeOfColumn, Cond.code yX2_codeOfColumn cX2_codeOfColumn 1 (some .int), Cond.methodLink RX2 131 yX2_widens, Cond.static yX2_widens, Cond.code yX2_widens cX2_widens 2 (some .boolean), Cond.methodLink RX2 44 yX2_holdsCells, Cond.static yX2_holdsCells, Cond.code yX2_holdsCells cX2_holdsCells 1 (some .boolean), Cond.methodLink RX2 72 yX2_note, Cond.instanceMethod yX2_note, Cond.selects RX2 yX2_note yX2_note, Cond.code yX2_note cX2_note 2 (some .int), Cond.fieldLink RX2 15 "TypedColumns" "counts" "[I", Cond.fieldLink RX2 30 "TypedColumns" "latestCode" "I", Cond.methodLink RX2 178 yX0_putReal, Cond.instanceMethod yX0_putReal, Cond.selects RX0 yX0_putReal yX0_putReal, Cond.initialized RX0, Cond.code yX0_putReal cX0_putReal 4 none, Cond.fieldLink RX0 32 "TypedColumns$Column" "reals" "[D"]
def wsX2_writeFloat : List Cond := .code yX2_writeFloat cX2_writeFloat 4 (some .int) :: ((wsX2_writeFloat_r1 ++ wsX2_writeFloat_r2) ++ wsX20 ++ wsX00 ++ (vx_atS RX2 143 "java/lang/IndexOutOfBoundsException" ["java/lang/RuntimeException", "java/lang/Exception"]).filter goodWord)
def wsX2_writeDouble_r1 : List Cond := [Cond.methodLink RX2 62 yX2_columnAt, Cond.instanceMethod yX2_columnAt, Cond.selects RX2 yX2_columnAt yX2_columnAt, Cond.initialized RX2, Cond.code yX2_columnAt cX2_columnAt 3 (some (.object "TypedColumns$Column")), Cond.classLink RX2 139 "java/lang/IndexOutOfBoundsException", Cond.initialized "java/lang/IndexOutOfBoundsException", Cond.fieldLink RX2 11 "TypedColumns" "columns" "[LTypedColumns$Column;", Cond.methodLink RX2 103 yX2_writeReal, Cond.instanceMethod yX2_writeReal, Cond.selects RX2 yX2_writeReal yX2_writeReal, Cond.code yX2_writeReal cX2_writeReal 7 (some .int), Cond.fieldLink RX2 66 "TypedColumns$Column" "kind" "I", Cond.methodLink RX2 83 yX2_codeOfCell, Cond.static yX2_codeOfCell, Cond.code yX2_codeOfCell cX2_codeOfCell 5 (some .int), Cond.fieldLink RX2 76 "TypedColumns$Column" "length" "I", Cond.methodLink RX2 69 yX2_codeOfColumn, Cond.static yX2_codeOfColumn, Cond.code yX2_codeOfColumn cX2_codeOfColumn 1 (some .int), Cond.methodLink RX2 131 yX2_widens, Cond.static yX2_widens, Cond.code yX2_widens cX2_widens 2 (some .boolean), Cond.methodLink RX2 44 yX2_holdsCells]
def wsX2_writeDouble_r2 : List Cond := [Cond.static yX2_holdsCells, Cond.code yX2_holdsCells cX2_holdsCells 1 (some .boolean), Cond.methodLink RX2 72 yX2_note, Cond.instanceMethod yX2_note, Cond.selects RX2 yX2_note yX2_note, Cond.code yX2_note cX2_note 2 (some .int), Cond.fieldLink RX2 15 "TypedColumns" "counts" "[I", Cond.fieldLink RX2 30 "TypedColumns" "latestCode" "I", Cond.methodLink RX2 178 yX0_putReal, Cond.instanceMethod yX0_putReal, Cond.selects RX0 yX0_putReal yX0_putReal, Cond.initialized RX0, Cond.code yX0_putReal cX0_putReal 4 none, Cond.fieldLink RX0 32 "TypedColumns$Column" "reals" "[D"]
def wsX2_writeDouble : List Cond := .code yX2_writeDouble cX2_writeDouble 5 (some .int) :: ((wsX2_writeDouble_r1 ++ wsX2_writeDouble_r2) ++ wsX20 ++ wsX00 ++ (vx_atS RX2 143 "java/lang/IndexOutOfBoundsException" ["java/lang/RuntimeException", "java/lang/Exception"]).filter goodWord)
def wsX2_refuseWithoutCells : List Cond := .code yX2_refuseWithoutCells cX2_refuseWithoutCells 1 none :: ([.classLink RX2 37 "java/lang/IllegalArgumentException", .initialized "java/lang/IllegalArgumentException", .methodLink RX2 44 yX2_holdsCells, .static yX2_holdsCells, .initialized RX2, .code yX2_holdsCells cX2_holdsCells 1 (some .boolean)] ++ (vx_atS RX2 41 "java/lang/IllegalArgumentException" ["java/lang/RuntimeException", "java/lang/Exception"]).filter goodWord)
def wsX2_wholeMadeFrom : List Cond := .code yX2_wholeMadeFrom cX2_wholeMadeFrom 2 (some .long) :: ([])
def wsX2_writeAny_r1 : List Cond := [Cond.methodLink RX2 62 yX2_columnAt, Cond.instanceMethod yX2_columnAt, Cond.selects RX2 yX2_columnAt yX2_columnAt, Cond.initialized RX2, Cond.code yX2_columnAt cX2_columnAt 3 (some (.object "TypedColumns$Column")), Cond.classLink RX2 139 "java/lang/IndexOutOfBoundsException", Cond.initialized "java/lang/IndexOutOfBoundsException", Cond.fieldLink RX2 11 "TypedColumns" "columns" "[LTypedColumns$Column;", Cond.methodLink RX2 107 yX2_refuseWithoutCells, Cond.static yX2_refuseWithoutCells, Cond.code yX2_refuseWithoutCells cX2_refuseWithoutCells 1 none, Cond.classLink RX2 37 "java/lang/IllegalArgumentException", Cond.initialized "java/lang/IllegalArgumentException", Cond.methodLink RX2 44 yX2_holdsCells, Cond.static yX2_holdsCells, Cond.code yX2_holdsCells cX2_holdsCells 1 (some .boolean), Cond.methodLink RX2 103 yX2_writeReal, Cond.instanceMethod yX2_writeReal, Cond.selects RX2 yX2_writeReal yX2_writeReal, Cond.code yX2_writeReal cX2_writeReal 7 (some .int), Cond.fieldLink RX2 66 "TypedColumns$Column" "kind" "I", Cond.methodLink RX2 83 yX2_codeOfCell, Cond.static yX2_codeOfCell, Cond.code yX2_codeOfCell cX2_codeOfCell 5 (some .int)]
def wsX2_writeAny_r2 : List Cond := [Cond.fieldLink RX2 76 "TypedColumns$Column" "length" "I", Cond.methodLink RX2 69 yX2_codeOfColumn, Cond.static yX2_codeOfColumn, Cond.code yX2_codeOfColumn cX2_codeOfColumn 1 (some .int), Cond.methodLink RX2 131 yX2_widens, Cond.static yX2_widens, Cond.code yX2_widens cX2_widens 2 (some .boolean), Cond.methodLink RX2 72 yX2_note, Cond.instanceMethod yX2_note, Cond.selects RX2 yX2_note yX2_note, Cond.code yX2_note cX2_note 2 (some .int), Cond.fieldLink RX2 15 "TypedColumns" "counts" "[I", Cond.fieldLink RX2 30 "TypedColumns" "latestCode" "I", Cond.methodLink RX2 178 yX0_putReal, Cond.instanceMethod yX0_putReal, Cond.selects RX0 yX0_putReal yX0_putReal, Cond.initialized RX0, Cond.code yX0_putReal cX0_putReal 4 none, Cond.fieldLink RX0 32 "TypedColumns$Column" "reals" "[D", Cond.methodLink RX2 111 yX2_wholeMadeFrom, Cond.static yX2_wholeMadeFrom, Cond.code yX2_wholeMadeFrom cX2_wholeMadeFrom 2 (some .long), Cond.methodLink RX2 95 yX2_writeWhole, Cond.instanceMethod yX2_writeWhole]
def wsX2_writeAny_r3 : List Cond := [Cond.selects RX2 yX2_writeWhole yX2_writeWhole, Cond.code yX2_writeWhole cX2_writeWhole 7 (some .int), Cond.methodLink RX2 174 yX0_putWhole, Cond.instanceMethod yX0_putWhole, Cond.selects RX0 yX0_putWhole yX0_putWhole, Cond.code yX0_putWhole cX0_putWhole 4 none, Cond.fieldLink RX0 16 "TypedColumns$Column" "kind" "I", Cond.fieldLink RX0 28 "TypedColumns$Column" "wholes" "[J", Cond.methodLink RX0 48 yX0_putReal]
def wsX2_writeAny : List Cond := .code yX2_writeAny cX2_writeAny 6 (some .int) :: ((wsX2_writeAny_r1 ++ (wsX2_writeAny_r2 ++ wsX2_writeAny_r3)) ++ wsX20 ++ wsX00 ++ (vx_atS RX2 143 "java/lang/IndexOutOfBoundsException" ["java/lang/RuntimeException", "java/lang/Exception"]).filter goodWord ++ (vx_atS RX2 41 "java/lang/IllegalArgumentException" ["java/lang/RuntimeException", "java/lang/Exception"]).filter goodWord)
def wsX2_codeOfKinds : List Cond := .code yX2_codeOfKinds cX2_codeOfKinds 3 (some .int) :: ([.fieldLink RX2 66 "TypedColumns$Column" "kind" "I"] ++ wsX00)
def wsX2_copy_r1 : List Cond := [Cond.fieldLink RX2 76 "TypedColumns$Column" "length" "I", Cond.methodLink RX2 62 yX2_columnAt, Cond.instanceMethod yX2_columnAt, Cond.selects RX2 yX2_columnAt yX2_columnAt, Cond.initialized RX2, Cond.code yX2_columnAt cX2_columnAt 3 (some (.object "TypedColumns$Column")), Cond.classLink RX2 139 "java/lang/IndexOutOfBoundsException", Cond.initialized "java/lang/IndexOutOfBoundsException", Cond.fieldLink RX2 11 "TypedColumns" "columns" "[LTypedColumns$Column;", Cond.methodLink RX2 115 yX2_codeOfKinds, Cond.static yX2_codeOfKinds, Cond.code yX2_codeOfKinds cX2_codeOfKinds 3 (some .int), Cond.fieldLink RX2 66 "TypedColumns$Column" "kind" "I", Cond.methodLink RX2 119 yX2_isPart, Cond.static yX2_isPart, Cond.code yX2_isPart cX2_isPart 3 (some .boolean), Cond.methodLink RX2 123 yX0_takeCells, Cond.instanceMethod yX0_takeCells, Cond.selects RX0 yX0_takeCells yX0_takeCells, Cond.initialized RX0, Cond.code yX0_takeCells cX0_takeCells 5 none, Cond.fieldLink RX0 28 "TypedColumns$Column" "wholes" "[J", Cond.methodLink RX0 56 arraycopyName, Cond.native arraycopyName]
def wsX2_copy_r2 : List Cond := [Cond.static arraycopyName, Cond.initialized "java/lang/System", Cond.fieldLink RX0 32 "TypedColumns$Column" "reals" "[D", Cond.methodLink RX2 72 yX2_note, Cond.instanceMethod yX2_note, Cond.selects RX2 yX2_note yX2_note, Cond.code yX2_note cX2_note 2 (some .int), Cond.fieldLink RX2 15 "TypedColumns" "counts" "[I", Cond.fieldLink RX2 30 "TypedColumns" "latestCode" "I"]
def wsX2_copy : List Cond := .code yX2_copy cX2_copy 9 (some .int) :: ((wsX2_copy_r1 ++ wsX2_copy_r2) ++ wsX00 ++ wsX20 ++ (vx_atS RX2 143 "java/lang/IndexOutOfBoundsException" ["java/lang/RuntimeException", "java/lang/Exception"]).filter goodWord)
def wsX2_total_r1 : List Cond := [Cond.methodLink RX2 62 yX2_columnAt, Cond.instanceMethod yX2_columnAt, Cond.selects RX2 yX2_columnAt yX2_columnAt, Cond.initialized RX2, Cond.code yX2_columnAt cX2_columnAt 3 (some (.object "TypedColumns$Column")), Cond.classLink RX2 139 "java/lang/IndexOutOfBoundsException", Cond.initialized "java/lang/IndexOutOfBoundsException", Cond.fieldLink RX2 11 "TypedColumns" "columns" "[LTypedColumns$Column;", Cond.methodLink RX2 69 yX2_codeOfColumn, Cond.static yX2_codeOfColumn, Cond.code yX2_codeOfColumn cX2_codeOfColumn 1 (some .int), Cond.fieldLink RX2 66 "TypedColumns$Column" "kind" "I", Cond.methodLink RX2 72 yX2_note, Cond.instanceMethod yX2_note, Cond.selects RX2 yX2_note yX2_note, Cond.code yX2_note cX2_note 2 (some .int), Cond.fieldLink RX2 15 "TypedColumns" "counts" "[I", Cond.fieldLink RX2 30 "TypedColumns" "latestCode" "I", Cond.methodLink RX2 127 yX0_sum, Cond.instanceMethod yX0_sum, Cond.selects RX0 yX0_sum yX0_sum, Cond.initialized RX0, Cond.code yX0_sum cX0_sum 4 (some .double), Cond.fieldLink RX0 22 "TypedColumns$Column" "length" "I"]
def wsX2_total_r2 : List Cond := [Cond.methodLink RX0 66 yX0_doubleAt, Cond.instanceMethod yX0_doubleAt, Cond.selects RX0 yX0_doubleAt yX0_doubleAt, Cond.code yX0_doubleAt cX0_doubleAt 2 (some .double), Cond.fieldLink RX0 16 "TypedColumns$Column" "kind" "I", Cond.static yX2_isFloating, Cond.code yX2_isFloating cX2_isFloating 1 (some .boolean), Cond.methodLink RX0 36 yX0_realAt, Cond.instanceMethod yX0_realAt, Cond.selects RX0 yX0_realAt yX0_realAt, Cond.code yX0_realAt cX0_realAt 2 (some .double), Cond.fieldLink RX0 32 "TypedColumns$Column" "reals" "[D", Cond.methodLink RX0 40 yX0_wholeAt, Cond.instanceMethod yX0_wholeAt, Cond.selects RX0 yX0_wholeAt yX0_wholeAt, Cond.code yX0_wholeAt cX0_wholeAt 2 (some .long), Cond.fieldLink RX0 28 "TypedColumns$Column" "wholes" "[J", Cond.static yX2_sumOf, Cond.code yX2_sumOf cX2_sumOf 4 (some .double), Cond.methodLink RX2 196 yX2_isInfinite, Cond.static yX2_isInfinite, Cond.code yX2_isInfinite cX2_isInfinite 2 (some .boolean), Cond.constantDouble RX2 192 (9218868437227405311), Cond.constantDouble RX2 194 (18442240474082181119)]
def wsX2_total_r3 : List Cond := [Cond.methodLink RX2 185 yX2_noNumber, Cond.static yX2_noNumber, Cond.code yX2_noNumber cX2_noNumber 0 (some .double), Cond.constantDouble RX2 182 (9221120237041090560)]
def wsX2_total : List Cond := .code yX2_total cX2_total 4 (some .double) :: ((wsX2_total_r1 ++ (wsX2_total_r2 ++ wsX2_total_r3)) ++ wsX20 ++ wsX00 ++ (vx_atS RX2 143 "java/lang/IndexOutOfBoundsException" ["java/lang/RuntimeException", "java/lang/Exception"]).filter goodWord)
def wsX2_widened_r1 : List Cond := [Cond.fieldLink RX2 66 "TypedColumns$Column" "kind" "I", Cond.classLink RX2 9 RX0, Cond.instantiable RX0 4, Cond.initialized RX0, Cond.fieldLink RX2 76 "TypedColumns$Column" "length" "I", Cond.methodLink RX2 62 yX2_columnAt, Cond.instanceMethod yX2_columnAt, Cond.selects RX2 yX2_columnAt yX2_columnAt, Cond.initialized RX2, Cond.code yX2_columnAt cX2_columnAt 3 (some (.object "TypedColumns$Column")), Cond.classLink RX2 139 "java/lang/IndexOutOfBoundsException", Cond.initialized "java/lang/IndexOutOfBoundsException", Cond.fieldLink RX2 11 "TypedColumns" "columns" "[LTypedColumns$Column;", Cond.methodLink RX2 107 yX2_refuseWithoutCells, Cond.static yX2_refuseWithoutCells, Cond.code yX2_refuseWithoutCells cX2_refuseWithoutCells 1 none, Cond.classLink RX2 37 "java/lang/IllegalArgumentException", Cond.initialized "java/lang/IllegalArgumentException", Cond.methodLink RX2 44 yX2_holdsCells, Cond.static yX2_holdsCells, Cond.code yX2_holdsCells cX2_holdsCells 1 (some .boolean), Cond.methodLink RX2 52 yX2_refuseWhenFull, Cond.instanceMethod yX2_refuseWhenFull, Cond.selects RX2 yX2_refuseWhenFull yX2_refuseWhenFull]
def wsX2_widened_r2 : List Cond := [Cond.code yX2_refuseWhenFull cX2_refuseWhenFull 1 none, Cond.classLink RX2 159 "java/lang/IllegalStateException", Cond.initialized "java/lang/IllegalStateException", Cond.fieldLink RX2 26 "TypedColumns" "created" "I", Cond.methodLink RX2 69 yX2_codeOfColumn, Cond.static yX2_codeOfColumn, Cond.code yX2_codeOfColumn cX2_codeOfColumn 1 (some .int), Cond.methodLink RX2 131 yX2_widens, Cond.static yX2_widens, Cond.code yX2_widens cX2_widens 2 (some .boolean), Cond.methodLink RX2 72 yX2_note, Cond.instanceMethod yX2_note, Cond.selects RX2 yX2_note yX2_note, Cond.code yX2_note cX2_note 2 (some .int), Cond.fieldLink RX2 15 "TypedColumns" "counts" "[I", Cond.fieldLink RX2 30 "TypedColumns" "latestCode" "I", Cond.methodLink RX2 55 yX0_init, Cond.instanceMethod yX0_init, Cond.code yX0_init cX0_init 4 none, Cond.methodLink RX0 3 objectInit, Cond.instanceMethod objectInit, Cond.code objectInit ⟨#[0xb1]⟩ 1 none, Cond.fieldLink RX0 16 "TypedColumns$Column" "kind" "I", Cond.fieldLink RX0 22 "TypedColumns$Column" "length" "I"]
def wsX2_widened_r3 : List Cond := [Cond.arrayClass .long, Cond.fieldLink RX0 28 "TypedColumns$Column" "wholes" "[J", Cond.arrayClass .double, Cond.fieldLink RX0 32 "TypedColumns$Column" "reals" "[D", Cond.static yX2_isLength, Cond.code yX2_isLength cX2_isLength 1 (some .boolean), Cond.static yX2_isFloating, Cond.code yX2_isFloating cX2_isFloating 1 (some .boolean), Cond.methodLink RX2 135 yX0_takeWidened, Cond.instanceMethod yX0_takeWidened, Cond.selects RX0 yX0_takeWidened yX0_takeWidened, Cond.code yX0_takeWidened cX0_takeWidened 3 none, Cond.methodLink RX0 36 yX0_realAt, Cond.instanceMethod yX0_realAt, Cond.selects RX0 yX0_realAt yX0_realAt, Cond.code yX0_realAt cX0_realAt 2 (some .double), Cond.methodLink RX0 48 yX0_putReal, Cond.instanceMethod yX0_putReal, Cond.selects RX0 yX0_putReal yX0_putReal, Cond.code yX0_putReal cX0_putReal 4 none, Cond.methodLink RX0 40 yX0_wholeAt, Cond.instanceMethod yX0_wholeAt, Cond.selects RX0 yX0_wholeAt yX0_wholeAt, Cond.code yX0_wholeAt cX0_wholeAt 2 (some .long)]
def wsX2_widened_r4 : List Cond := [Cond.methodLink RX0 62 yX0_putWhole, Cond.instanceMethod yX0_putWhole, Cond.selects RX0 yX0_putWhole yX0_putWhole, Cond.code yX0_putWhole cX0_putWhole 4 none, Cond.methodLink RX2 58 yX2_addColumn, Cond.instanceMethod yX2_addColumn, Cond.selects RX2 yX2_addColumn yX2_addColumn, Cond.code yX2_addColumn cX2_addColumn 3 (some .int)]
def wsX2_widened : List Cond := .code yX2_widened cX2_widened 6 (some .int) :: ((wsX2_widened_r1 ++ (wsX2_widened_r2 ++ (wsX2_widened_r3 ++ wsX2_widened_r4))) ++ wsX00 ++ wsX20 ++ (vx_atS RX2 143 "java/lang/IndexOutOfBoundsException" ["java/lang/RuntimeException", "java/lang/Exception"]).filter goodWord ++ (vx_atS RX2 41 "java/lang/IllegalArgumentException" ["java/lang/RuntimeException", "java/lang/Exception"]).filter goodWord ++ (vx_atS RX2 163 "java/lang/IllegalStateException" ["java/lang/RuntimeException", "java/lang/Exception"]).filter goodWord)
def wsX2_code : List Cond := .code yX2_code cX2_code 1 (some .int) :: ([.fieldLink RX2 30 "TypedColumns" "latestCode" "I"] ++ wsX20)
def wsX2_count : List Cond := .code yX2_count cX2_count 2 (some .int) :: ([.classLink RX2 139 "java/lang/IndexOutOfBoundsException", .initialized "java/lang/IndexOutOfBoundsException", .fieldLink RX2 15 "TypedColumns" "counts" "[I"] ++ wsX20 ++ (vx_atS RX2 143 "java/lang/IndexOutOfBoundsException" ["java/lang/RuntimeException", "java/lang/Exception"]).filter goodWord)
def wsX2_refuseNoKind : List Cond := .code yX2_refuseNoKind cX2_refuseNoKind 1 none :: ([.classLink RX2 139 "java/lang/IndexOutOfBoundsException", .initialized "java/lang/IndexOutOfBoundsException", .methodLink RX2 33 yX2_isKind, .static yX2_isKind, .initialized RX2, .code yX2_isKind cX2_isKind 1 (some .boolean)] ++ (vx_atS RX2 143 "java/lang/IndexOutOfBoundsException" ["java/lang/RuntimeException", "java/lang/Exception"]).filter goodWord)
def wsX2_hasCells : List Cond := .code yX2_hasCells cX2_hasCells 2 (some .boolean) :: ([.methodLink RX2 144 yX2_refuseNoKind, .static yX2_refuseNoKind, .initialized RX2, .code yX2_refuseNoKind cX2_refuseNoKind 1 none, .classLink RX2 139 "java/lang/IndexOutOfBoundsException", .initialized "java/lang/IndexOutOfBoundsException", .methodLink RX2 33 yX2_isKind, .static yX2_isKind, .code yX2_isKind cX2_isKind 1 (some .boolean), .methodLink RX2 44 yX2_holdsCells, .static yX2_holdsCells, .code yX2_holdsCells cX2_holdsCells 1 (some .boolean)] ++ (vx_atS RX2 143 "java/lang/IndexOutOfBoundsException" ["java/lang/RuntimeException", "java/lang/Exception"]).filter goodWord)
def wsX2_isNumber : List Cond := .code yX2_isNumber cX2_isNumber 2 (some .boolean) :: ([.methodLink RX2 144 yX2_refuseNoKind, .static yX2_refuseNoKind, .initialized RX2, .code yX2_refuseNoKind cX2_refuseNoKind 1 none, .classLink RX2 139 "java/lang/IndexOutOfBoundsException", .initialized "java/lang/IndexOutOfBoundsException", .methodLink RX2 33 yX2_isKind, .static yX2_isKind, .code yX2_isKind cX2_isKind 1 (some .boolean)] ++ (vx_atS RX2 143 "java/lang/IndexOutOfBoundsException" ["java/lang/RuntimeException", "java/lang/Exception"]).filter goodWord)
def wsX2_canWiden : List Cond := .code yX2_canWiden cX2_canWiden 3 (some .boolean) :: ([.methodLink RX2 144 yX2_refuseNoKind, .static yX2_refuseNoKind, .initialized RX2, .code yX2_refuseNoKind cX2_refuseNoKind 1 none, .classLink RX2 139 "java/lang/IndexOutOfBoundsException", .initialized "java/lang/IndexOutOfBoundsException", .methodLink RX2 33 yX2_isKind, .static yX2_isKind, .code yX2_isKind cX2_isKind 1 (some .boolean), .methodLink RX2 131 yX2_widens, .static yX2_widens, .code yX2_widens cX2_widens 2 (some .boolean), .methodLink RX2 44 yX2_holdsCells, .static yX2_holdsCells, .code yX2_holdsCells cX2_holdsCells 1 (some .boolean)] ++ (vx_atS RX2 143 "java/lang/IndexOutOfBoundsException" ["java/lang/RuntimeException", "java/lang/Exception"]).filter goodWord)
def wsX2_mixed : List Cond := .code yX2_mixed cX2_mixed 4 (some .long) :: ([.constantLong RX2 200 (31)])
def wsX2_mixedColumn_r1 : List Cond := [Cond.fieldLink RX2 66 "TypedColumns$Column" "kind" "I", Cond.fieldLink RX2 76 "TypedColumns$Column" "length" "I", Cond.fieldLink RX2 202 "TypedColumns$Column" "wholes" "[J", Cond.fieldLink RX2 206 "TypedColumns$Column" "reals" "[D", Cond.fieldLink RX2 22 "TypedColumns" "doubleBits" "LTypedColumns$DoubleBits;", Cond.methodLink RX2 149 yX2_mixed, Cond.static yX2_mixed, Cond.initialized RX2, Cond.code yX2_mixed cX2_mixed 4 (some .long), Cond.constantLong RX2 200 (31), Cond.methodLink RX2 210 yX1_of, Cond.instanceMethod yX1_of, Cond.selects RX1 yX1_of yX1_of, Cond.initialized RX1, Cond.code yX1_of cX1_of 3 (some .long), Cond.constantLong RX1 15 (9221120237041090560), Cond.constantLong RX1 17 (-9223372036854775808), Cond.methodLink RX1 19 yX1_ofPositive, Cond.instanceMethod yX1_ofPositive, Cond.selects RX1 yX1_ofPositive yX1_ofPositive, Cond.code yX1_ofPositive cX1_ofPositive 4 (some .long), Cond.constantLong RX1 29 (9218868437227405312), Cond.constantDouble RX1 31 (4503599627370496), Cond.constantDouble RX1 33 (1)]
def wsX2_mixedColumn_r2 : List Cond := [Cond.static yX2_isInfinite, Cond.code yX2_isInfinite cX2_isInfinite 2 (some .boolean), Cond.constantDouble RX2 192 (9218868437227405311), Cond.constantDouble RX2 194 (18442240474082181119), Cond.methodLink RX1 35 yX1_ofNormal, Cond.instanceMethod yX1_ofNormal, Cond.selects RX1 yX1_ofNormal yX1_ofNormal, Cond.code yX1_ofNormal cX1_ofNormal 9 (some .long), Cond.fieldLink RX1 9 "TypedColumns$DoubleBits" "powers" "[D", Cond.constantDouble RX1 13 (4611686018427387904), Cond.constantDouble RX1 38 (4841369599423283200), Cond.constantLong RX1 40 (4503599627370496)]
def wsX2_mixedColumn : List Cond := .code yX2_mixedColumn cX2_mixedColumn 11 (some .long) :: ((wsX2_mixedColumn_r1 ++ wsX2_mixedColumn_r2) ++ wsX00 ++ wsX20 ++ wsX10)
def wsX2_digest_r1 : List Cond := [Cond.constantLong RX2 147 (53), Cond.fieldLink RX2 26 "TypedColumns" "created" "I", Cond.fieldLink RX2 15 "TypedColumns" "counts" "[I", Cond.methodLink RX2 149 yX2_mixed, Cond.static yX2_mixed, Cond.initialized RX2, Cond.code yX2_mixed cX2_mixed 4 (some .long), Cond.constantLong RX2 200 (31), Cond.methodLink RX2 62 yX2_columnAt, Cond.instanceMethod yX2_columnAt, Cond.selects RX2 yX2_columnAt yX2_columnAt, Cond.code yX2_columnAt cX2_columnAt 3 (some (.object "TypedColumns$Column")), Cond.classLink RX2 139 "java/lang/IndexOutOfBoundsException", Cond.initialized "java/lang/IndexOutOfBoundsException", Cond.fieldLink RX2 11 "TypedColumns" "columns" "[LTypedColumns$Column;", Cond.methodLink RX2 153 yX2_mixedColumn, Cond.instanceMethod yX2_mixedColumn, Cond.selects RX2 yX2_mixedColumn yX2_mixedColumn, Cond.code yX2_mixedColumn cX2_mixedColumn 11 (some .long), Cond.fieldLink RX2 66 "TypedColumns$Column" "kind" "I", Cond.fieldLink RX2 76 "TypedColumns$Column" "length" "I", Cond.fieldLink RX2 202 "TypedColumns$Column" "wholes" "[J", Cond.fieldLink RX2 206 "TypedColumns$Column" "reals" "[D", Cond.fieldLink RX2 22 "TypedColumns" "doubleBits" "LTypedColumns$DoubleBits;"]
def wsX2_digest_r2 : List Cond := [Cond.methodLink RX2 210 yX1_of, Cond.instanceMethod yX1_of, Cond.selects RX1 yX1_of yX1_of, Cond.initialized RX1, Cond.code yX1_of cX1_of 3 (some .long), Cond.constantLong RX1 15 (9221120237041090560), Cond.constantLong RX1 17 (-9223372036854775808), Cond.methodLink RX1 19 yX1_ofPositive, Cond.instanceMethod yX1_ofPositive, Cond.selects RX1 yX1_ofPositive yX1_ofPositive, Cond.code yX1_ofPositive cX1_ofPositive 4 (some .long), Cond.constantLong RX1 29 (9218868437227405312), Cond.constantDouble RX1 31 (4503599627370496), Cond.constantDouble RX1 33 (1), Cond.static yX2_isInfinite, Cond.code yX2_isInfinite cX2_isInfinite 2 (some .boolean), Cond.constantDouble RX2 192 (9218868437227405311), Cond.constantDouble RX2 194 (18442240474082181119), Cond.methodLink RX1 35 yX1_ofNormal, Cond.instanceMethod yX1_ofNormal, Cond.selects RX1 yX1_ofNormal yX1_ofNormal, Cond.code yX1_ofNormal cX1_ofNormal 9 (some .long), Cond.fieldLink RX1 9 "TypedColumns$DoubleBits" "powers" "[D", Cond.constantDouble RX1 13 (4611686018427387904)]
def wsX2_digest_r3 : List Cond := [Cond.constantDouble RX1 38 (4841369599423283200), Cond.constantLong RX1 40 (4503599627370496)]
def wsX2_digest : List Cond := .code yX2_digest cX2_digest 7 (some .long) :: ((wsX2_digest_r1 ++ (wsX2_digest_r2 ++ wsX2_digest_r3)) ++ wsX20 ++ wsX00 ++ wsX10 ++ (vx_atS RX2 143 "java/lang/IndexOutOfBoundsException" ["java/lang/RuntimeException", "java/lang/Exception"]).filter goodWord)
def wsX3_init : List Cond := .code yX3_init cX3_init 1 none :: ([.methodLink RX3 1 objectInit, .instanceMethod objectInit, .code objectInit ⟨#[0xb1]⟩ 1 none, .arrayClass .int, .fieldLink RX3 9 "TypedColumnsModel" "kinds" "[I", .fieldLink RX3 13 "TypedColumnsModel" "lengths" "[I", .arrayClass .long, .fieldLink RX3 16 "TypedColumnsModel" "whole" "[J", .arrayClass .double, .fieldLink RX3 20 "TypedColumnsModel" "real" "[D", .fieldLink RX3 24 "TypedColumnsModel" "counts" "[I"] ++ wsX30)
def wsX3_thrown : List Cond := .code yX3_thrown cX3_thrown 1 (some .int) :: ([.fieldLink RX3 27 "TypedColumnsModel" "thrown" "I"] ++ wsX30)
def wsX3_fail : List Cond := .code yX3_fail cX3_fail 2 (some .int) :: ([.fieldLink RX3 27 "TypedColumnsModel" "thrown" "I"] ++ wsX30)
def wsX3_isColumn : List Cond := .code yX3_isColumn cX3_isColumn 2 (some .boolean) :: ([.fieldLink RX3 31 "TypedColumnsModel" "columns" "I"] ++ wsX30)
def wsX3_isReal : List Cond := .code yX3_isReal cX3_isReal 1 (some .boolean) :: ([])
def wsX3_has : List Cond := .code yX3_has cX3_has 1 (some .boolean) :: ([])
def wsX3_widens : List Cond := .code yX3_widens cX3_widens 2 (some .boolean) :: ([.methodLink RX3 34 yX3_has, .static yX3_has, .initialized RX3, .code yX3_has cX3_has 1 (some .boolean)])
def wsX3_note : List Cond := .code yX3_note cX3_note 2 (some .boolean) :: ([.fieldLink RX3 38 "TypedColumnsModel" "code" "I", .fieldLink RX3 24 "TypedColumnsModel" "counts" "[I"] ++ wsX30)
def wsX3_codeOf : List Cond := .code yX3_codeOf cX3_codeOf 2 (some .int) :: ([.fieldLink RX3 9 "TypedColumnsModel" "kinds" "[I"] ++ wsX30)
def wsX3_codeOf_ : List Cond := .code yX3_codeOf_ cX3_codeOf_ 3 (some .int) :: ([.fieldLink RX3 13 "TypedColumnsModel" "lengths" "[I", .methodLink RX3 41 yX3_codeOf, .instanceMethod yX3_codeOf, .selects RX3 yX3_codeOf yX3_codeOf, .initialized RX3, .code yX3_codeOf cX3_codeOf 2 (some .int), .fieldLink RX3 9 "TypedColumnsModel" "kinds" "[I"] ++ wsX30)
def wsX3_at : List Cond := .code yX3_at cX3_at 2 (some .int) :: ([])
def wsX3_create : List Cond := .code yX3_create cX3_create 4 (some .int) :: ([.fieldLink RX3 27 "TypedColumnsModel" "thrown" "I", .fieldLink RX3 31 "TypedColumnsModel" "columns" "I", .fieldLink RX3 9 "TypedColumnsModel" "kinds" "[I", .fieldLink RX3 13 "TypedColumnsModel" "lengths" "[I", .fieldLink RX3 16 "TypedColumnsModel" "whole" "[J", .fieldLink RX3 20 "TypedColumnsModel" "real" "[D", .methodLink RX3 34 yX3_has, .static yX3_has, .initialized RX3, .code yX3_has cX3_has 1 (some .boolean), .methodLink RX3 45 yX3_fail, .instanceMethod yX3_fail, .selects RX3 yX3_fail yX3_fail, .code yX3_fail cX3_fail 2 (some .int), .methodLink RX3 48 yX3_at, .static yX3_at, .code yX3_at cX3_at 2 (some .int)] ++ wsX30)
def wsX3_columnCount : List Cond := .code yX3_columnCount cX3_columnCount 1 (some .int) :: ([.fieldLink RX3 27 "TypedColumnsModel" "thrown" "I", .fieldLink RX3 31 "TypedColumnsModel" "columns" "I"] ++ wsX30)
def wsX3_kind : List Cond := .code yX3_kind cX3_kind 2 (some .int) :: ([.fieldLink RX3 27 "TypedColumnsModel" "thrown" "I", .fieldLink RX3 9 "TypedColumnsModel" "kinds" "[I", .methodLink RX3 52 yX3_isColumn, .instanceMethod yX3_isColumn, .selects RX3 yX3_isColumn yX3_isColumn, .initialized RX3, .code yX3_isColumn cX3_isColumn 2 (some .boolean), .fieldLink RX3 31 "TypedColumnsModel" "columns" "I", .methodLink RX3 45 yX3_fail, .instanceMethod yX3_fail, .selects RX3 yX3_fail yX3_fail, .code yX3_fail cX3_fail 2 (some .int)] ++ wsX30)
def wsX3_length : List Cond := .code yX3_length cX3_length 2 (some .int) :: ([.fieldLink RX3 27 "TypedColumnsModel" "thrown" "I", .fieldLink RX3 13 "TypedColumnsModel" "lengths" "[I", .methodLink RX3 52 yX3_isColumn, .instanceMethod yX3_isColumn, .selects RX3 yX3_isColumn yX3_isColumn, .initialized RX3, .code yX3_isColumn cX3_isColumn 2 (some .boolean), .fieldLink RX3 31 "TypedColumnsModel" "columns" "I", .methodLink RX3 45 yX3_fail, .instanceMethod yX3_fail, .selects RX3 yX3_fail yX3_fail, .code yX3_fail cX3_fail 2 (some .int), .methodLink RX3 41 yX3_codeOf, .instanceMethod yX3_codeOf, .selects RX3 yX3_codeOf yX3_codeOf, .code yX3_codeOf cX3_codeOf 2 (some .int), .fieldLink RX3 9 "TypedColumnsModel" "kinds" "[I", .methodLink RX3 55 yX3_note, .instanceMethod yX3_note, .selects RX3 yX3_note yX3_note, .code yX3_note cX3_note 2 (some .boolean), .fieldLink RX3 38 "TypedColumnsModel" "code" "I", .fieldLink RX3 24 "TypedColumnsModel" "counts" "[I"] ++ wsX30)
def wsX3_reads_r1 : List Cond := [Cond.fieldLink RX3 27 "TypedColumnsModel" "thrown" "I", Cond.fieldLink RX3 9 "TypedColumnsModel" "kinds" "[I", Cond.methodLink RX3 52 yX3_isColumn, Cond.instanceMethod yX3_isColumn, Cond.selects RX3 yX3_isColumn yX3_isColumn, Cond.initialized RX3, Cond.code yX3_isColumn cX3_isColumn 2 (some .boolean), Cond.fieldLink RX3 31 "TypedColumnsModel" "columns" "I", Cond.methodLink RX3 58 yX3_codeOf_, Cond.instanceMethod yX3_codeOf_, Cond.selects RX3 yX3_codeOf_ yX3_codeOf_, Cond.code yX3_codeOf_ cX3_codeOf_ 3 (some .int), Cond.fieldLink RX3 13 "TypedColumnsModel" "lengths" "[I", Cond.methodLink RX3 41 yX3_codeOf, Cond.instanceMethod yX3_codeOf, Cond.selects RX3 yX3_codeOf yX3_codeOf, Cond.code yX3_codeOf cX3_codeOf 2 (some .int), Cond.methodLink RX3 60 yX3_widens, Cond.static yX3_widens, Cond.code yX3_widens cX3_widens 2 (some .boolean), Cond.methodLink RX3 34 yX3_has, Cond.static yX3_has, Cond.code yX3_has cX3_has 1 (some .boolean), Cond.methodLink RX3 55 yX3_note]
def wsX3_reads_r2 : List Cond := [Cond.instanceMethod yX3_note, Cond.selects RX3 yX3_note yX3_note, Cond.code yX3_note cX3_note 2 (some .boolean), Cond.fieldLink RX3 38 "TypedColumnsModel" "code" "I", Cond.fieldLink RX3 24 "TypedColumnsModel" "counts" "[I"]
def wsX3_reads : List Cond := .code yX3_reads cX3_reads 5 (some .boolean) :: ((wsX3_reads_r1 ++ wsX3_reads_r2) ++ wsX30)
def wsX3_readBoolean_r1 : List Cond := [Cond.fieldLink RX3 16 "TypedColumnsModel" "whole" "[J", Cond.methodLink RX3 64 yX3_reads, Cond.instanceMethod yX3_reads, Cond.selects RX3 yX3_reads yX3_reads, Cond.initialized RX3, Cond.code yX3_reads cX3_reads 5 (some .boolean), Cond.fieldLink RX3 27 "TypedColumnsModel" "thrown" "I", Cond.fieldLink RX3 9 "TypedColumnsModel" "kinds" "[I", Cond.methodLink RX3 52 yX3_isColumn, Cond.instanceMethod yX3_isColumn, Cond.selects RX3 yX3_isColumn yX3_isColumn, Cond.code yX3_isColumn cX3_isColumn 2 (some .boolean), Cond.fieldLink RX3 31 "TypedColumnsModel" "columns" "I", Cond.methodLink RX3 58 yX3_codeOf_, Cond.instanceMethod yX3_codeOf_, Cond.selects RX3 yX3_codeOf_ yX3_codeOf_, Cond.code yX3_codeOf_ cX3_codeOf_ 3 (some .int), Cond.fieldLink RX3 13 "TypedColumnsModel" "lengths" "[I", Cond.methodLink RX3 41 yX3_codeOf, Cond.instanceMethod yX3_codeOf, Cond.selects RX3 yX3_codeOf yX3_codeOf, Cond.code yX3_codeOf cX3_codeOf 2 (some .int), Cond.methodLink RX3 60 yX3_widens, Cond.static yX3_widens]
def wsX3_readBoolean_r2 : List Cond := [Cond.code yX3_widens cX3_widens 2 (some .boolean), Cond.methodLink RX3 34 yX3_has, Cond.static yX3_has, Cond.code yX3_has cX3_has 1 (some .boolean), Cond.methodLink RX3 55 yX3_note, Cond.instanceMethod yX3_note, Cond.selects RX3 yX3_note yX3_note, Cond.code yX3_note cX3_note 2 (some .boolean), Cond.fieldLink RX3 38 "TypedColumnsModel" "code" "I", Cond.fieldLink RX3 24 "TypedColumnsModel" "counts" "[I", Cond.methodLink RX3 48 yX3_at, Cond.static yX3_at, Cond.code yX3_at cX3_at 2 (some .int)]
def wsX3_readBoolean : List Cond := .code yX3_readBoolean cX3_readBoolean 3 (some .boolean) :: ((wsX3_readBoolean_r1 ++ wsX3_readBoolean_r2) ++ wsX30)
def wsX3_readByte_r1 : List Cond := [Cond.fieldLink RX3 16 "TypedColumnsModel" "whole" "[J", Cond.methodLink RX3 64 yX3_reads, Cond.instanceMethod yX3_reads, Cond.selects RX3 yX3_reads yX3_reads, Cond.initialized RX3, Cond.code yX3_reads cX3_reads 5 (some .boolean), Cond.fieldLink RX3 27 "TypedColumnsModel" "thrown" "I", Cond.fieldLink RX3 9 "TypedColumnsModel" "kinds" "[I", Cond.methodLink RX3 52 yX3_isColumn, Cond.instanceMethod yX3_isColumn, Cond.selects RX3 yX3_isColumn yX3_isColumn, Cond.code yX3_isColumn cX3_isColumn 2 (some .boolean), Cond.fieldLink RX3 31 "TypedColumnsModel" "columns" "I", Cond.methodLink RX3 58 yX3_codeOf_, Cond.instanceMethod yX3_codeOf_, Cond.selects RX3 yX3_codeOf_ yX3_codeOf_, Cond.code yX3_codeOf_ cX3_codeOf_ 3 (some .int), Cond.fieldLink RX3 13 "TypedColumnsModel" "lengths" "[I", Cond.methodLink RX3 41 yX3_codeOf, Cond.instanceMethod yX3_codeOf, Cond.selects RX3 yX3_codeOf yX3_codeOf, Cond.code yX3_codeOf cX3_codeOf 2 (some .int), Cond.methodLink RX3 60 yX3_widens, Cond.static yX3_widens]
def wsX3_readByte_r2 : List Cond := [Cond.code yX3_widens cX3_widens 2 (some .boolean), Cond.methodLink RX3 34 yX3_has, Cond.static yX3_has, Cond.code yX3_has cX3_has 1 (some .boolean), Cond.methodLink RX3 55 yX3_note, Cond.instanceMethod yX3_note, Cond.selects RX3 yX3_note yX3_note, Cond.code yX3_note cX3_note 2 (some .boolean), Cond.fieldLink RX3 38 "TypedColumnsModel" "code" "I", Cond.fieldLink RX3 24 "TypedColumnsModel" "counts" "[I", Cond.methodLink RX3 48 yX3_at, Cond.static yX3_at, Cond.code yX3_at cX3_at 2 (some .int)]
def wsX3_readByte : List Cond := .code yX3_readByte cX3_readByte 3 (some .int) :: ((wsX3_readByte_r1 ++ wsX3_readByte_r2) ++ wsX30)
def wsX3_readChar_r1 : List Cond := [Cond.fieldLink RX3 16 "TypedColumnsModel" "whole" "[J", Cond.methodLink RX3 64 yX3_reads, Cond.instanceMethod yX3_reads, Cond.selects RX3 yX3_reads yX3_reads, Cond.initialized RX3, Cond.code yX3_reads cX3_reads 5 (some .boolean), Cond.fieldLink RX3 27 "TypedColumnsModel" "thrown" "I", Cond.fieldLink RX3 9 "TypedColumnsModel" "kinds" "[I", Cond.methodLink RX3 52 yX3_isColumn, Cond.instanceMethod yX3_isColumn, Cond.selects RX3 yX3_isColumn yX3_isColumn, Cond.code yX3_isColumn cX3_isColumn 2 (some .boolean), Cond.fieldLink RX3 31 "TypedColumnsModel" "columns" "I", Cond.methodLink RX3 58 yX3_codeOf_, Cond.instanceMethod yX3_codeOf_, Cond.selects RX3 yX3_codeOf_ yX3_codeOf_, Cond.code yX3_codeOf_ cX3_codeOf_ 3 (some .int), Cond.fieldLink RX3 13 "TypedColumnsModel" "lengths" "[I", Cond.methodLink RX3 41 yX3_codeOf, Cond.instanceMethod yX3_codeOf, Cond.selects RX3 yX3_codeOf yX3_codeOf, Cond.code yX3_codeOf cX3_codeOf 2 (some .int), Cond.methodLink RX3 60 yX3_widens, Cond.static yX3_widens]
def wsX3_readChar_r2 : List Cond := [Cond.code yX3_widens cX3_widens 2 (some .boolean), Cond.methodLink RX3 34 yX3_has, Cond.static yX3_has, Cond.code yX3_has cX3_has 1 (some .boolean), Cond.methodLink RX3 55 yX3_note, Cond.instanceMethod yX3_note, Cond.selects RX3 yX3_note yX3_note, Cond.code yX3_note cX3_note 2 (some .boolean), Cond.fieldLink RX3 38 "TypedColumnsModel" "code" "I", Cond.fieldLink RX3 24 "TypedColumnsModel" "counts" "[I", Cond.methodLink RX3 48 yX3_at, Cond.static yX3_at, Cond.code yX3_at cX3_at 2 (some .int)]
def wsX3_readChar : List Cond := .code yX3_readChar cX3_readChar 3 (some .int) :: ((wsX3_readChar_r1 ++ wsX3_readChar_r2) ++ wsX30)
def wsX3_readShort_r1 : List Cond := [Cond.fieldLink RX3 16 "TypedColumnsModel" "whole" "[J", Cond.methodLink RX3 64 yX3_reads, Cond.instanceMethod yX3_reads, Cond.selects RX3 yX3_reads yX3_reads, Cond.initialized RX3, Cond.code yX3_reads cX3_reads 5 (some .boolean), Cond.fieldLink RX3 27 "TypedColumnsModel" "thrown" "I", Cond.fieldLink RX3 9 "TypedColumnsModel" "kinds" "[I", Cond.methodLink RX3 52 yX3_isColumn, Cond.instanceMethod yX3_isColumn, Cond.selects RX3 yX3_isColumn yX3_isColumn, Cond.code yX3_isColumn cX3_isColumn 2 (some .boolean), Cond.fieldLink RX3 31 "TypedColumnsModel" "columns" "I", Cond.methodLink RX3 58 yX3_codeOf_, Cond.instanceMethod yX3_codeOf_, Cond.selects RX3 yX3_codeOf_ yX3_codeOf_, Cond.code yX3_codeOf_ cX3_codeOf_ 3 (some .int), Cond.fieldLink RX3 13 "TypedColumnsModel" "lengths" "[I", Cond.methodLink RX3 41 yX3_codeOf, Cond.instanceMethod yX3_codeOf, Cond.selects RX3 yX3_codeOf yX3_codeOf, Cond.code yX3_codeOf cX3_codeOf 2 (some .int), Cond.methodLink RX3 60 yX3_widens, Cond.static yX3_widens]
def wsX3_readShort_r2 : List Cond := [Cond.code yX3_widens cX3_widens 2 (some .boolean), Cond.methodLink RX3 34 yX3_has, Cond.static yX3_has, Cond.code yX3_has cX3_has 1 (some .boolean), Cond.methodLink RX3 55 yX3_note, Cond.instanceMethod yX3_note, Cond.selects RX3 yX3_note yX3_note, Cond.code yX3_note cX3_note 2 (some .boolean), Cond.fieldLink RX3 38 "TypedColumnsModel" "code" "I", Cond.fieldLink RX3 24 "TypedColumnsModel" "counts" "[I", Cond.methodLink RX3 48 yX3_at, Cond.static yX3_at, Cond.code yX3_at cX3_at 2 (some .int)]
def wsX3_readShort : List Cond := .code yX3_readShort cX3_readShort 3 (some .int) :: ((wsX3_readShort_r1 ++ wsX3_readShort_r2) ++ wsX30)
def wsX3_readInt_r1 : List Cond := [Cond.fieldLink RX3 16 "TypedColumnsModel" "whole" "[J", Cond.methodLink RX3 64 yX3_reads, Cond.instanceMethod yX3_reads, Cond.selects RX3 yX3_reads yX3_reads, Cond.initialized RX3, Cond.code yX3_reads cX3_reads 5 (some .boolean), Cond.fieldLink RX3 27 "TypedColumnsModel" "thrown" "I", Cond.fieldLink RX3 9 "TypedColumnsModel" "kinds" "[I", Cond.methodLink RX3 52 yX3_isColumn, Cond.instanceMethod yX3_isColumn, Cond.selects RX3 yX3_isColumn yX3_isColumn, Cond.code yX3_isColumn cX3_isColumn 2 (some .boolean), Cond.fieldLink RX3 31 "TypedColumnsModel" "columns" "I", Cond.methodLink RX3 58 yX3_codeOf_, Cond.instanceMethod yX3_codeOf_, Cond.selects RX3 yX3_codeOf_ yX3_codeOf_, Cond.code yX3_codeOf_ cX3_codeOf_ 3 (some .int), Cond.fieldLink RX3 13 "TypedColumnsModel" "lengths" "[I", Cond.methodLink RX3 41 yX3_codeOf, Cond.instanceMethod yX3_codeOf, Cond.selects RX3 yX3_codeOf yX3_codeOf, Cond.code yX3_codeOf cX3_codeOf 2 (some .int), Cond.methodLink RX3 60 yX3_widens, Cond.static yX3_widens]
def wsX3_readInt_r2 : List Cond := [Cond.code yX3_widens cX3_widens 2 (some .boolean), Cond.methodLink RX3 34 yX3_has, Cond.static yX3_has, Cond.code yX3_has cX3_has 1 (some .boolean), Cond.methodLink RX3 55 yX3_note, Cond.instanceMethod yX3_note, Cond.selects RX3 yX3_note yX3_note, Cond.code yX3_note cX3_note 2 (some .boolean), Cond.fieldLink RX3 38 "TypedColumnsModel" "code" "I", Cond.fieldLink RX3 24 "TypedColumnsModel" "counts" "[I", Cond.methodLink RX3 48 yX3_at, Cond.static yX3_at, Cond.code yX3_at cX3_at 2 (some .int)]
def wsX3_readInt : List Cond := .code yX3_readInt cX3_readInt 3 (some .int) :: ((wsX3_readInt_r1 ++ wsX3_readInt_r2) ++ wsX30)
def wsX3_readLong_r1 : List Cond := [Cond.fieldLink RX3 16 "TypedColumnsModel" "whole" "[J", Cond.methodLink RX3 64 yX3_reads, Cond.instanceMethod yX3_reads, Cond.selects RX3 yX3_reads yX3_reads, Cond.initialized RX3, Cond.code yX3_reads cX3_reads 5 (some .boolean), Cond.fieldLink RX3 27 "TypedColumnsModel" "thrown" "I", Cond.fieldLink RX3 9 "TypedColumnsModel" "kinds" "[I", Cond.methodLink RX3 52 yX3_isColumn, Cond.instanceMethod yX3_isColumn, Cond.selects RX3 yX3_isColumn yX3_isColumn, Cond.code yX3_isColumn cX3_isColumn 2 (some .boolean), Cond.fieldLink RX3 31 "TypedColumnsModel" "columns" "I", Cond.methodLink RX3 58 yX3_codeOf_, Cond.instanceMethod yX3_codeOf_, Cond.selects RX3 yX3_codeOf_ yX3_codeOf_, Cond.code yX3_codeOf_ cX3_codeOf_ 3 (some .int), Cond.fieldLink RX3 13 "TypedColumnsModel" "lengths" "[I", Cond.methodLink RX3 41 yX3_codeOf, Cond.instanceMethod yX3_codeOf, Cond.selects RX3 yX3_codeOf yX3_codeOf, Cond.code yX3_codeOf cX3_codeOf 2 (some .int), Cond.methodLink RX3 60 yX3_widens, Cond.static yX3_widens]
def wsX3_readLong_r2 : List Cond := [Cond.code yX3_widens cX3_widens 2 (some .boolean), Cond.methodLink RX3 34 yX3_has, Cond.static yX3_has, Cond.code yX3_has cX3_has 1 (some .boolean), Cond.methodLink RX3 55 yX3_note, Cond.instanceMethod yX3_note, Cond.selects RX3 yX3_note yX3_note, Cond.code yX3_note cX3_note 2 (some .boolean), Cond.fieldLink RX3 38 "TypedColumnsModel" "code" "I", Cond.fieldLink RX3 24 "TypedColumnsModel" "counts" "[I", Cond.methodLink RX3 48 yX3_at, Cond.static yX3_at, Cond.code yX3_at cX3_at 2 (some .int)]
def wsX3_readLong : List Cond := .code yX3_readLong cX3_readLong 3 (some .long) :: ((wsX3_readLong_r1 ++ wsX3_readLong_r2) ++ wsX30)
def wsX3_readFloat_r1 : List Cond := [Cond.fieldLink RX3 9 "TypedColumnsModel" "kinds" "[I", Cond.fieldLink RX3 20 "TypedColumnsModel" "real" "[D", Cond.fieldLink RX3 16 "TypedColumnsModel" "whole" "[J", Cond.methodLink RX3 64 yX3_reads, Cond.instanceMethod yX3_reads, Cond.selects RX3 yX3_reads yX3_reads, Cond.initialized RX3, Cond.code yX3_reads cX3_reads 5 (some .boolean), Cond.fieldLink RX3 27 "TypedColumnsModel" "thrown" "I", Cond.methodLink RX3 52 yX3_isColumn, Cond.instanceMethod yX3_isColumn, Cond.selects RX3 yX3_isColumn yX3_isColumn, Cond.code yX3_isColumn cX3_isColumn 2 (some .boolean), Cond.fieldLink RX3 31 "TypedColumnsModel" "columns" "I", Cond.methodLink RX3 58 yX3_codeOf_, Cond.instanceMethod yX3_codeOf_, Cond.selects RX3 yX3_codeOf_ yX3_codeOf_, Cond.code yX3_codeOf_ cX3_codeOf_ 3 (some .int), Cond.fieldLink RX3 13 "TypedColumnsModel" "lengths" "[I", Cond.methodLink RX3 41 yX3_codeOf, Cond.instanceMethod yX3_codeOf, Cond.selects RX3 yX3_codeOf yX3_codeOf, Cond.code yX3_codeOf cX3_codeOf 2 (some .int), Cond.methodLink RX3 60 yX3_widens]
def wsX3_readFloat_r2 : List Cond := [Cond.static yX3_widens, Cond.code yX3_widens cX3_widens 2 (some .boolean), Cond.methodLink RX3 34 yX3_has, Cond.static yX3_has, Cond.code yX3_has cX3_has 1 (some .boolean), Cond.methodLink RX3 55 yX3_note, Cond.instanceMethod yX3_note, Cond.selects RX3 yX3_note yX3_note, Cond.code yX3_note cX3_note 2 (some .boolean), Cond.fieldLink RX3 38 "TypedColumnsModel" "code" "I", Cond.fieldLink RX3 24 "TypedColumnsModel" "counts" "[I", Cond.methodLink RX3 68 yX3_isReal, Cond.static yX3_isReal, Cond.code yX3_isReal cX3_isReal 1 (some .boolean), Cond.methodLink RX3 48 yX3_at, Cond.static yX3_at, Cond.code yX3_at cX3_at 2 (some .int)]
def wsX3_readFloat : List Cond := .code yX3_readFloat cX3_readFloat 3 (some .float) :: ((wsX3_readFloat_r1 ++ wsX3_readFloat_r2) ++ wsX30)
def wsX3_asDouble : List Cond := .code yX3_asDouble cX3_asDouble 3 (some .double) :: ([.fieldLink RX3 9 "TypedColumnsModel" "kinds" "[I", .fieldLink RX3 20 "TypedColumnsModel" "real" "[D", .fieldLink RX3 16 "TypedColumnsModel" "whole" "[J", .methodLink RX3 68 yX3_isReal, .static yX3_isReal, .initialized RX3, .code yX3_isReal cX3_isReal 1 (some .boolean), .methodLink RX3 48 yX3_at, .static yX3_at, .code yX3_at cX3_at 2 (some .int)] ++ wsX30)
def wsX3_readDouble_r1 : List Cond := [Cond.methodLink RX3 64 yX3_reads, Cond.instanceMethod yX3_reads, Cond.selects RX3 yX3_reads yX3_reads, Cond.initialized RX3, Cond.code yX3_reads cX3_reads 5 (some .boolean), Cond.fieldLink RX3 27 "TypedColumnsModel" "thrown" "I", Cond.fieldLink RX3 9 "TypedColumnsModel" "kinds" "[I", Cond.methodLink RX3 52 yX3_isColumn, Cond.instanceMethod yX3_isColumn, Cond.selects RX3 yX3_isColumn yX3_isColumn, Cond.code yX3_isColumn cX3_isColumn 2 (some .boolean), Cond.fieldLink RX3 31 "TypedColumnsModel" "columns" "I", Cond.methodLink RX3 58 yX3_codeOf_, Cond.instanceMethod yX3_codeOf_, Cond.selects RX3 yX3_codeOf_ yX3_codeOf_, Cond.code yX3_codeOf_ cX3_codeOf_ 3 (some .int), Cond.fieldLink RX3 13 "TypedColumnsModel" "lengths" "[I", Cond.methodLink RX3 41 yX3_codeOf, Cond.instanceMethod yX3_codeOf, Cond.selects RX3 yX3_codeOf yX3_codeOf, Cond.code yX3_codeOf cX3_codeOf 2 (some .int), Cond.methodLink RX3 60 yX3_widens, Cond.static yX3_widens, Cond.code yX3_widens cX3_widens 2 (some .boolean)]
def wsX3_readDouble_r2 : List Cond := [Cond.methodLink RX3 34 yX3_has, Cond.static yX3_has, Cond.code yX3_has cX3_has 1 (some .boolean), Cond.methodLink RX3 55 yX3_note, Cond.instanceMethod yX3_note, Cond.selects RX3 yX3_note yX3_note, Cond.code yX3_note cX3_note 2 (some .boolean), Cond.fieldLink RX3 38 "TypedColumnsModel" "code" "I", Cond.fieldLink RX3 24 "TypedColumnsModel" "counts" "[I", Cond.methodLink RX3 71 yX3_asDouble, Cond.instanceMethod yX3_asDouble, Cond.selects RX3 yX3_asDouble yX3_asDouble, Cond.code yX3_asDouble cX3_asDouble 3 (some .double), Cond.fieldLink RX3 20 "TypedColumnsModel" "real" "[D", Cond.fieldLink RX3 16 "TypedColumnsModel" "whole" "[J", Cond.methodLink RX3 68 yX3_isReal, Cond.static yX3_isReal, Cond.code yX3_isReal cX3_isReal 1 (some .boolean), Cond.methodLink RX3 48 yX3_at, Cond.static yX3_at, Cond.code yX3_at cX3_at 2 (some .int)]
def wsX3_readDouble : List Cond := .code yX3_readDouble cX3_readDouble 3 (some .double) :: ((wsX3_readDouble_r1 ++ wsX3_readDouble_r2) ++ wsX30)
def wsX3_readAny_r1 : List Cond := [Cond.fieldLink RX3 27 "TypedColumnsModel" "thrown" "I", Cond.methodLink RX3 52 yX3_isColumn, Cond.instanceMethod yX3_isColumn, Cond.selects RX3 yX3_isColumn yX3_isColumn, Cond.initialized RX3, Cond.code yX3_isColumn cX3_isColumn 2 (some .boolean), Cond.fieldLink RX3 31 "TypedColumnsModel" "columns" "I", Cond.methodLink RX3 58 yX3_codeOf_, Cond.instanceMethod yX3_codeOf_, Cond.selects RX3 yX3_codeOf_ yX3_codeOf_, Cond.code yX3_codeOf_ cX3_codeOf_ 3 (some .int), Cond.fieldLink RX3 13 "TypedColumnsModel" "lengths" "[I", Cond.methodLink RX3 41 yX3_codeOf, Cond.instanceMethod yX3_codeOf, Cond.selects RX3 yX3_codeOf yX3_codeOf, Cond.code yX3_codeOf cX3_codeOf 2 (some .int), Cond.fieldLink RX3 9 "TypedColumnsModel" "kinds" "[I", Cond.methodLink RX3 55 yX3_note, Cond.instanceMethod yX3_note, Cond.selects RX3 yX3_note yX3_note, Cond.code yX3_note cX3_note 2 (some .boolean), Cond.fieldLink RX3 38 "TypedColumnsModel" "code" "I", Cond.fieldLink RX3 24 "TypedColumnsModel" "counts" "[I", Cond.methodLink RX3 71 yX3_asDouble]
def wsX3_readAny_r2 : List Cond := [Cond.instanceMethod yX3_asDouble, Cond.selects RX3 yX3_asDouble yX3_asDouble, Cond.code yX3_asDouble cX3_asDouble 3 (some .double), Cond.fieldLink RX3 20 "TypedColumnsModel" "real" "[D", Cond.fieldLink RX3 16 "TypedColumnsModel" "whole" "[J", Cond.methodLink RX3 68 yX3_isReal, Cond.static yX3_isReal, Cond.code yX3_isReal cX3_isReal 1 (some .boolean), Cond.methodLink RX3 48 yX3_at, Cond.static yX3_at, Cond.code yX3_at cX3_at 2 (some .int)]
def wsX3_readAny : List Cond := .code yX3_readAny cX3_readAny 3 (some .double) :: ((wsX3_readAny_r1 ++ wsX3_readAny_r2) ++ wsX30)
def wsX3_write_r1 : List Cond := [Cond.fieldLink RX3 27 "TypedColumnsModel" "thrown" "I", Cond.fieldLink RX3 9 "TypedColumnsModel" "kinds" "[I", Cond.fieldLink RX3 38 "TypedColumnsModel" "code" "I", Cond.fieldLink RX3 16 "TypedColumnsModel" "whole" "[J", Cond.fieldLink RX3 20 "TypedColumnsModel" "real" "[D", Cond.methodLink RX3 52 yX3_isColumn, Cond.instanceMethod yX3_isColumn, Cond.selects RX3 yX3_isColumn yX3_isColumn, Cond.initialized RX3, Cond.code yX3_isColumn cX3_isColumn 2 (some .boolean), Cond.fieldLink RX3 31 "TypedColumnsModel" "columns" "I", Cond.methodLink RX3 58 yX3_codeOf_, Cond.instanceMethod yX3_codeOf_, Cond.selects RX3 yX3_codeOf_ yX3_codeOf_, Cond.code yX3_codeOf_ cX3_codeOf_ 3 (some .int), Cond.fieldLink RX3 13 "TypedColumnsModel" "lengths" "[I", Cond.methodLink RX3 41 yX3_codeOf, Cond.instanceMethod yX3_codeOf, Cond.selects RX3 yX3_codeOf yX3_codeOf, Cond.code yX3_codeOf cX3_codeOf 2 (some .int), Cond.methodLink RX3 60 yX3_widens, Cond.static yX3_widens, Cond.code yX3_widens cX3_widens 2 (some .boolean), Cond.methodLink RX3 34 yX3_has]
def wsX3_write_r2 : List Cond := [Cond.static yX3_has, Cond.code yX3_has cX3_has 1 (some .boolean), Cond.methodLink RX3 55 yX3_note, Cond.instanceMethod yX3_note, Cond.selects RX3 yX3_note yX3_note, Cond.code yX3_note cX3_note 2 (some .boolean), Cond.fieldLink RX3 24 "TypedColumnsModel" "counts" "[I", Cond.methodLink RX3 68 yX3_isReal, Cond.static yX3_isReal, Cond.code yX3_isReal cX3_isReal 1 (some .boolean), Cond.methodLink RX3 48 yX3_at, Cond.static yX3_at, Cond.code yX3_at cX3_at 2 (some .int)]
def wsX3_write : List Cond := .code yX3_write cX3_write 9 (some .int) :: ((wsX3_write_r1 ++ wsX3_write_r2) ++ wsX30)
def wsX3_writeBoolean_r1 : List Cond := [Cond.methodLink RX3 75 yX3_write, Cond.instanceMethod yX3_write, Cond.selects RX3 yX3_write yX3_write, Cond.initialized RX3, Cond.code yX3_write cX3_write 9 (some .int), Cond.fieldLink RX3 27 "TypedColumnsModel" "thrown" "I", Cond.fieldLink RX3 9 "TypedColumnsModel" "kinds" "[I", Cond.fieldLink RX3 38 "TypedColumnsModel" "code" "I", Cond.fieldLink RX3 16 "TypedColumnsModel" "whole" "[J", Cond.fieldLink RX3 20 "TypedColumnsModel" "real" "[D", Cond.methodLink RX3 52 yX3_isColumn, Cond.instanceMethod yX3_isColumn, Cond.selects RX3 yX3_isColumn yX3_isColumn, Cond.code yX3_isColumn cX3_isColumn 2 (some .boolean), Cond.fieldLink RX3 31 "TypedColumnsModel" "columns" "I", Cond.methodLink RX3 58 yX3_codeOf_, Cond.instanceMethod yX3_codeOf_, Cond.selects RX3 yX3_codeOf_ yX3_codeOf_, Cond.code yX3_codeOf_ cX3_codeOf_ 3 (some .int), Cond.fieldLink RX3 13 "TypedColumnsModel" "lengths" "[I", Cond.methodLink RX3 41 yX3_codeOf, Cond.instanceMethod yX3_codeOf, Cond.selects RX3 yX3_codeOf yX3_codeOf, Cond.code yX3_codeOf cX3_codeOf 2 (some .int)]
def wsX3_writeBoolean_r2 : List Cond := [Cond.methodLink RX3 60 yX3_widens, Cond.static yX3_widens, Cond.code yX3_widens cX3_widens 2 (some .boolean), Cond.methodLink RX3 34 yX3_has, Cond.static yX3_has, Cond.code yX3_has cX3_has 1 (some .boolean), Cond.methodLink RX3 55 yX3_note, Cond.instanceMethod yX3_note, Cond.selects RX3 yX3_note yX3_note, Cond.code yX3_note cX3_note 2 (some .boolean), Cond.fieldLink RX3 24 "TypedColumnsModel" "counts" "[I", Cond.methodLink RX3 68 yX3_isReal, Cond.static yX3_isReal, Cond.code yX3_isReal cX3_isReal 1 (some .boolean), Cond.methodLink RX3 48 yX3_at, Cond.static yX3_at, Cond.code yX3_at cX3_at 2 (some .int)]
def wsX3_writeBoolean : List Cond := .code yX3_writeBoolean cX3_writeBoolean 4 (some .int) :: ((wsX3_writeBoolean_r1 ++ wsX3_writeBoolean_r2) ++ wsX30)
def wsX3_writeByte_r1 : List Cond := [Cond.methodLink RX3 75 yX3_write, Cond.instanceMethod yX3_write, Cond.selects RX3 yX3_write yX3_write, Cond.initialized RX3, Cond.code yX3_write cX3_write 9 (some .int), Cond.fieldLink RX3 27 "TypedColumnsModel" "thrown" "I", Cond.fieldLink RX3 9 "TypedColumnsModel" "kinds" "[I", Cond.fieldLink RX3 38 "TypedColumnsModel" "code" "I", Cond.fieldLink RX3 16 "TypedColumnsModel" "whole" "[J", Cond.fieldLink RX3 20 "TypedColumnsModel" "real" "[D", Cond.methodLink RX3 52 yX3_isColumn, Cond.instanceMethod yX3_isColumn, Cond.selects RX3 yX3_isColumn yX3_isColumn, Cond.code yX3_isColumn cX3_isColumn 2 (some .boolean), Cond.fieldLink RX3 31 "TypedColumnsModel" "columns" "I", Cond.methodLink RX3 58 yX3_codeOf_, Cond.instanceMethod yX3_codeOf_, Cond.selects RX3 yX3_codeOf_ yX3_codeOf_, Cond.code yX3_codeOf_ cX3_codeOf_ 3 (some .int), Cond.fieldLink RX3 13 "TypedColumnsModel" "lengths" "[I", Cond.methodLink RX3 41 yX3_codeOf, Cond.instanceMethod yX3_codeOf, Cond.selects RX3 yX3_codeOf yX3_codeOf, Cond.code yX3_codeOf cX3_codeOf 2 (some .int)]
def wsX3_writeByte_r2 : List Cond := [Cond.methodLink RX3 60 yX3_widens, Cond.static yX3_widens, Cond.code yX3_widens cX3_widens 2 (some .boolean), Cond.methodLink RX3 34 yX3_has, Cond.static yX3_has, Cond.code yX3_has cX3_has 1 (some .boolean), Cond.methodLink RX3 55 yX3_note, Cond.instanceMethod yX3_note, Cond.selects RX3 yX3_note yX3_note, Cond.code yX3_note cX3_note 2 (some .boolean), Cond.fieldLink RX3 24 "TypedColumnsModel" "counts" "[I", Cond.methodLink RX3 68 yX3_isReal, Cond.static yX3_isReal, Cond.code yX3_isReal cX3_isReal 1 (some .boolean), Cond.methodLink RX3 48 yX3_at, Cond.static yX3_at, Cond.code yX3_at cX3_at 2 (some .int)]
def wsX3_writeByte : List Cond := .code yX3_writeByte cX3_writeByte 4 (some .int) :: ((wsX3_writeByte_r1 ++ wsX3_writeByte_r2) ++ wsX30)
def wsX3_writeChar_r1 : List Cond := [Cond.constant RX3 79 (65535), Cond.methodLink RX3 75 yX3_write, Cond.instanceMethod yX3_write, Cond.selects RX3 yX3_write yX3_write, Cond.initialized RX3, Cond.code yX3_write cX3_write 9 (some .int), Cond.fieldLink RX3 27 "TypedColumnsModel" "thrown" "I", Cond.fieldLink RX3 9 "TypedColumnsModel" "kinds" "[I", Cond.fieldLink RX3 38 "TypedColumnsModel" "code" "I", Cond.fieldLink RX3 16 "TypedColumnsModel" "whole" "[J", Cond.fieldLink RX3 20 "TypedColumnsModel" "real" "[D", Cond.methodLink RX3 52 yX3_isColumn, Cond.instanceMethod yX3_isColumn, Cond.selects RX3 yX3_isColumn yX3_isColumn, Cond.code yX3_isColumn cX3_isColumn 2 (some .boolean), Cond.fieldLink RX3 31 "TypedColumnsModel" "columns" "I", Cond.methodLink RX3 58 yX3_codeOf_, Cond.instanceMethod yX3_codeOf_, Cond.selects RX3 yX3_codeOf_ yX3_codeOf_, Cond.code yX3_codeOf_ cX3_codeOf_ 3 (some .int), Cond.fieldLink RX3 13 "TypedColumnsModel" "lengths" "[I", Cond.methodLink RX3 41 yX3_codeOf, Cond.instanceMethod yX3_codeOf, Cond.selects RX3 yX3_codeOf yX3_codeOf]
def wsX3_writeChar_r2 : List Cond := [Cond.code yX3_codeOf cX3_codeOf 2 (some .int), Cond.methodLink RX3 60 yX3_widens, Cond.static yX3_widens, Cond.code yX3_widens cX3_widens 2 (some .boolean), Cond.methodLink RX3 34 yX3_has, Cond.static yX3_has, Cond.code yX3_has cX3_has 1 (some .boolean), Cond.methodLink RX3 55 yX3_note, Cond.instanceMethod yX3_note, Cond.selects RX3 yX3_note yX3_note, Cond.code yX3_note cX3_note 2 (some .boolean), Cond.fieldLink RX3 24 "TypedColumnsModel" "counts" "[I", Cond.methodLink RX3 68 yX3_isReal, Cond.static yX3_isReal, Cond.code yX3_isReal cX3_isReal 1 (some .boolean), Cond.methodLink RX3 48 yX3_at, Cond.static yX3_at, Cond.code yX3_at cX3_at 2 (some .int)]
def wsX3_writeChar : List Cond := .code yX3_writeChar cX3_writeChar 4 (some .int) :: ((wsX3_writeChar_r1 ++ wsX3_writeChar_r2) ++ wsX30)
def wsX3_writeShort_r1 : List Cond := [Cond.methodLink RX3 75 yX3_write, Cond.instanceMethod yX3_write, Cond.selects RX3 yX3_write yX3_write, Cond.initialized RX3, Cond.code yX3_write cX3_write 9 (some .int), Cond.fieldLink RX3 27 "TypedColumnsModel" "thrown" "I", Cond.fieldLink RX3 9 "TypedColumnsModel" "kinds" "[I", Cond.fieldLink RX3 38 "TypedColumnsModel" "code" "I", Cond.fieldLink RX3 16 "TypedColumnsModel" "whole" "[J", Cond.fieldLink RX3 20 "TypedColumnsModel" "real" "[D", Cond.methodLink RX3 52 yX3_isColumn, Cond.instanceMethod yX3_isColumn, Cond.selects RX3 yX3_isColumn yX3_isColumn, Cond.code yX3_isColumn cX3_isColumn 2 (some .boolean), Cond.fieldLink RX3 31 "TypedColumnsModel" "columns" "I", Cond.methodLink RX3 58 yX3_codeOf_, Cond.instanceMethod yX3_codeOf_, Cond.selects RX3 yX3_codeOf_ yX3_codeOf_, Cond.code yX3_codeOf_ cX3_codeOf_ 3 (some .int), Cond.fieldLink RX3 13 "TypedColumnsModel" "lengths" "[I", Cond.methodLink RX3 41 yX3_codeOf, Cond.instanceMethod yX3_codeOf, Cond.selects RX3 yX3_codeOf yX3_codeOf, Cond.code yX3_codeOf cX3_codeOf 2 (some .int)]
def wsX3_writeShort_r2 : List Cond := [Cond.methodLink RX3 60 yX3_widens, Cond.static yX3_widens, Cond.code yX3_widens cX3_widens 2 (some .boolean), Cond.methodLink RX3 34 yX3_has, Cond.static yX3_has, Cond.code yX3_has cX3_has 1 (some .boolean), Cond.methodLink RX3 55 yX3_note, Cond.instanceMethod yX3_note, Cond.selects RX3 yX3_note yX3_note, Cond.code yX3_note cX3_note 2 (some .boolean), Cond.fieldLink RX3 24 "TypedColumnsModel" "counts" "[I", Cond.methodLink RX3 68 yX3_isReal, Cond.static yX3_isReal, Cond.code yX3_isReal cX3_isReal 1 (some .boolean), Cond.methodLink RX3 48 yX3_at, Cond.static yX3_at, Cond.code yX3_at cX3_at 2 (some .int)]
def wsX3_writeShort : List Cond := .code yX3_writeShort cX3_writeShort 4 (some .int) :: ((wsX3_writeShort_r1 ++ wsX3_writeShort_r2) ++ wsX30)
def wsX3_writeInt_r1 : List Cond := [Cond.methodLink RX3 75 yX3_write, Cond.instanceMethod yX3_write, Cond.selects RX3 yX3_write yX3_write, Cond.initialized RX3, Cond.code yX3_write cX3_write 9 (some .int), Cond.fieldLink RX3 27 "TypedColumnsModel" "thrown" "I", Cond.fieldLink RX3 9 "TypedColumnsModel" "kinds" "[I", Cond.fieldLink RX3 38 "TypedColumnsModel" "code" "I", Cond.fieldLink RX3 16 "TypedColumnsModel" "whole" "[J", Cond.fieldLink RX3 20 "TypedColumnsModel" "real" "[D", Cond.methodLink RX3 52 yX3_isColumn, Cond.instanceMethod yX3_isColumn, Cond.selects RX3 yX3_isColumn yX3_isColumn, Cond.code yX3_isColumn cX3_isColumn 2 (some .boolean), Cond.fieldLink RX3 31 "TypedColumnsModel" "columns" "I", Cond.methodLink RX3 58 yX3_codeOf_, Cond.instanceMethod yX3_codeOf_, Cond.selects RX3 yX3_codeOf_ yX3_codeOf_, Cond.code yX3_codeOf_ cX3_codeOf_ 3 (some .int), Cond.fieldLink RX3 13 "TypedColumnsModel" "lengths" "[I", Cond.methodLink RX3 41 yX3_codeOf, Cond.instanceMethod yX3_codeOf, Cond.selects RX3 yX3_codeOf yX3_codeOf, Cond.code yX3_codeOf cX3_codeOf 2 (some .int)]
def wsX3_writeInt_r2 : List Cond := [Cond.methodLink RX3 60 yX3_widens, Cond.static yX3_widens, Cond.code yX3_widens cX3_widens 2 (some .boolean), Cond.methodLink RX3 34 yX3_has, Cond.static yX3_has, Cond.code yX3_has cX3_has 1 (some .boolean), Cond.methodLink RX3 55 yX3_note, Cond.instanceMethod yX3_note, Cond.selects RX3 yX3_note yX3_note, Cond.code yX3_note cX3_note 2 (some .boolean), Cond.fieldLink RX3 24 "TypedColumnsModel" "counts" "[I", Cond.methodLink RX3 68 yX3_isReal, Cond.static yX3_isReal, Cond.code yX3_isReal cX3_isReal 1 (some .boolean), Cond.methodLink RX3 48 yX3_at, Cond.static yX3_at, Cond.code yX3_at cX3_at 2 (some .int)]
def wsX3_writeInt : List Cond := .code yX3_writeInt cX3_writeInt 4 (some .int) :: ((wsX3_writeInt_r1 ++ wsX3_writeInt_r2) ++ wsX30)
def wsX3_writeLong_r1 : List Cond := [Cond.methodLink RX3 75 yX3_write, Cond.instanceMethod yX3_write, Cond.selects RX3 yX3_write yX3_write, Cond.initialized RX3, Cond.code yX3_write cX3_write 9 (some .int), Cond.fieldLink RX3 27 "TypedColumnsModel" "thrown" "I", Cond.fieldLink RX3 9 "TypedColumnsModel" "kinds" "[I", Cond.fieldLink RX3 38 "TypedColumnsModel" "code" "I", Cond.fieldLink RX3 16 "TypedColumnsModel" "whole" "[J", Cond.fieldLink RX3 20 "TypedColumnsModel" "real" "[D", Cond.methodLink RX3 52 yX3_isColumn, Cond.instanceMethod yX3_isColumn, Cond.selects RX3 yX3_isColumn yX3_isColumn, Cond.code yX3_isColumn cX3_isColumn 2 (some .boolean), Cond.fieldLink RX3 31 "TypedColumnsModel" "columns" "I", Cond.methodLink RX3 58 yX3_codeOf_, Cond.instanceMethod yX3_codeOf_, Cond.selects RX3 yX3_codeOf_ yX3_codeOf_, Cond.code yX3_codeOf_ cX3_codeOf_ 3 (some .int), Cond.fieldLink RX3 13 "TypedColumnsModel" "lengths" "[I", Cond.methodLink RX3 41 yX3_codeOf, Cond.instanceMethod yX3_codeOf, Cond.selects RX3 yX3_codeOf yX3_codeOf, Cond.code yX3_codeOf cX3_codeOf 2 (some .int)]
def wsX3_writeLong_r2 : List Cond := [Cond.methodLink RX3 60 yX3_widens, Cond.static yX3_widens, Cond.code yX3_widens cX3_widens 2 (some .boolean), Cond.methodLink RX3 34 yX3_has, Cond.static yX3_has, Cond.code yX3_has cX3_has 1 (some .boolean), Cond.methodLink RX3 55 yX3_note, Cond.instanceMethod yX3_note, Cond.selects RX3 yX3_note yX3_note, Cond.code yX3_note cX3_note 2 (some .boolean), Cond.fieldLink RX3 24 "TypedColumnsModel" "counts" "[I", Cond.methodLink RX3 68 yX3_isReal, Cond.static yX3_isReal, Cond.code yX3_isReal cX3_isReal 1 (some .boolean), Cond.methodLink RX3 48 yX3_at, Cond.static yX3_at, Cond.code yX3_at cX3_at 2 (some .int)]
def wsX3_writeLong : List Cond := .code yX3_writeLong cX3_writeLong 5 (some .int) :: ((wsX3_writeLong_r1 ++ wsX3_writeLong_r2) ++ wsX30)
def wsX3_writeFloat_r1 : List Cond := [Cond.methodLink RX3 75 yX3_write, Cond.instanceMethod yX3_write, Cond.selects RX3 yX3_write yX3_write, Cond.initialized RX3, Cond.code yX3_write cX3_write 9 (some .int), Cond.fieldLink RX3 27 "TypedColumnsModel" "thrown" "I", Cond.fieldLink RX3 9 "TypedColumnsModel" "kinds" "[I", Cond.fieldLink RX3 38 "TypedColumnsModel" "code" "I", Cond.fieldLink RX3 16 "TypedColumnsModel" "whole" "[J", Cond.fieldLink RX3 20 "TypedColumnsModel" "real" "[D", Cond.methodLink RX3 52 yX3_isColumn, Cond.instanceMethod yX3_isColumn, Cond.selects RX3 yX3_isColumn yX3_isColumn, Cond.code yX3_isColumn cX3_isColumn 2 (some .boolean), Cond.fieldLink RX3 31 "TypedColumnsModel" "columns" "I", Cond.methodLink RX3 58 yX3_codeOf_, Cond.instanceMethod yX3_codeOf_, Cond.selects RX3 yX3_codeOf_ yX3_codeOf_, Cond.code yX3_codeOf_ cX3_codeOf_ 3 (some .int), Cond.fieldLink RX3 13 "TypedColumnsModel" "lengths" "[I", Cond.methodLink RX3 41 yX3_codeOf, Cond.instanceMethod yX3_codeOf, Cond.selects RX3 yX3_codeOf yX3_codeOf, Cond.code yX3_codeOf cX3_codeOf 2 (some .int)]
def wsX3_writeFloat_r2 : List Cond := [Cond.methodLink RX3 60 yX3_widens, Cond.static yX3_widens, Cond.code yX3_widens cX3_widens 2 (some .boolean), Cond.methodLink RX3 34 yX3_has, Cond.static yX3_has, Cond.code yX3_has cX3_has 1 (some .boolean), Cond.methodLink RX3 55 yX3_note, Cond.instanceMethod yX3_note, Cond.selects RX3 yX3_note yX3_note, Cond.code yX3_note cX3_note 2 (some .boolean), Cond.fieldLink RX3 24 "TypedColumnsModel" "counts" "[I", Cond.methodLink RX3 68 yX3_isReal, Cond.static yX3_isReal, Cond.code yX3_isReal cX3_isReal 1 (some .boolean), Cond.methodLink RX3 48 yX3_at, Cond.static yX3_at, Cond.code yX3_at cX3_at 2 (some .int)]
def wsX3_writeFloat : List Cond := .code yX3_writeFloat cX3_writeFloat 4 (some .int) :: ((wsX3_writeFloat_r1 ++ wsX3_writeFloat_r2) ++ wsX30)
def wsX3_writeDouble_r1 : List Cond := [Cond.methodLink RX3 75 yX3_write, Cond.instanceMethod yX3_write, Cond.selects RX3 yX3_write yX3_write, Cond.initialized RX3, Cond.code yX3_write cX3_write 9 (some .int), Cond.fieldLink RX3 27 "TypedColumnsModel" "thrown" "I", Cond.fieldLink RX3 9 "TypedColumnsModel" "kinds" "[I", Cond.fieldLink RX3 38 "TypedColumnsModel" "code" "I", Cond.fieldLink RX3 16 "TypedColumnsModel" "whole" "[J", Cond.fieldLink RX3 20 "TypedColumnsModel" "real" "[D", Cond.methodLink RX3 52 yX3_isColumn, Cond.instanceMethod yX3_isColumn, Cond.selects RX3 yX3_isColumn yX3_isColumn, Cond.code yX3_isColumn cX3_isColumn 2 (some .boolean), Cond.fieldLink RX3 31 "TypedColumnsModel" "columns" "I", Cond.methodLink RX3 58 yX3_codeOf_, Cond.instanceMethod yX3_codeOf_, Cond.selects RX3 yX3_codeOf_ yX3_codeOf_, Cond.code yX3_codeOf_ cX3_codeOf_ 3 (some .int), Cond.fieldLink RX3 13 "TypedColumnsModel" "lengths" "[I", Cond.methodLink RX3 41 yX3_codeOf, Cond.instanceMethod yX3_codeOf, Cond.selects RX3 yX3_codeOf yX3_codeOf, Cond.code yX3_codeOf cX3_codeOf 2 (some .int)]
def wsX3_writeDouble_r2 : List Cond := [Cond.methodLink RX3 60 yX3_widens, Cond.static yX3_widens, Cond.code yX3_widens cX3_widens 2 (some .boolean), Cond.methodLink RX3 34 yX3_has, Cond.static yX3_has, Cond.code yX3_has cX3_has 1 (some .boolean), Cond.methodLink RX3 55 yX3_note, Cond.instanceMethod yX3_note, Cond.selects RX3 yX3_note yX3_note, Cond.code yX3_note cX3_note 2 (some .boolean), Cond.fieldLink RX3 24 "TypedColumnsModel" "counts" "[I", Cond.methodLink RX3 68 yX3_isReal, Cond.static yX3_isReal, Cond.code yX3_isReal cX3_isReal 1 (some .boolean), Cond.methodLink RX3 48 yX3_at, Cond.static yX3_at, Cond.code yX3_at cX3_at 2 (some .int)]
def wsX3_writeDouble : List Cond := .code yX3_writeDouble cX3_writeDouble 5 (some .int) :: ((wsX3_writeDouble_r1 ++ wsX3_writeDouble_r2) ++ wsX30)
def wsX3_writeAny_r1 : List Cond := [Cond.fieldLink RX3 27 "TypedColumnsModel" "thrown" "I", Cond.methodLink RX3 52 yX3_isColumn, Cond.instanceMethod yX3_isColumn, Cond.selects RX3 yX3_isColumn yX3_isColumn, Cond.initialized RX3, Cond.code yX3_isColumn cX3_isColumn 2 (some .boolean), Cond.fieldLink RX3 31 "TypedColumnsModel" "columns" "I", Cond.methodLink RX3 45 yX3_fail, Cond.instanceMethod yX3_fail, Cond.selects RX3 yX3_fail yX3_fail, Cond.code yX3_fail cX3_fail 2 (some .int), Cond.methodLink RX3 80 yX3_writeBoolean, Cond.instanceMethod yX3_writeBoolean, Cond.selects RX3 yX3_writeBoolean yX3_writeBoolean, Cond.code yX3_writeBoolean cX3_writeBoolean 4 (some .int), Cond.methodLink RX3 75 yX3_write, Cond.instanceMethod yX3_write, Cond.selects RX3 yX3_write yX3_write, Cond.code yX3_write cX3_write 9 (some .int), Cond.fieldLink RX3 9 "TypedColumnsModel" "kinds" "[I", Cond.fieldLink RX3 38 "TypedColumnsModel" "code" "I", Cond.fieldLink RX3 16 "TypedColumnsModel" "whole" "[J", Cond.fieldLink RX3 20 "TypedColumnsModel" "real" "[D", Cond.methodLink RX3 58 yX3_codeOf_]
def wsX3_writeAny_r2 : List Cond := [Cond.instanceMethod yX3_codeOf_, Cond.selects RX3 yX3_codeOf_ yX3_codeOf_, Cond.code yX3_codeOf_ cX3_codeOf_ 3 (some .int), Cond.fieldLink RX3 13 "TypedColumnsModel" "lengths" "[I", Cond.methodLink RX3 41 yX3_codeOf, Cond.instanceMethod yX3_codeOf, Cond.selects RX3 yX3_codeOf yX3_codeOf, Cond.code yX3_codeOf cX3_codeOf 2 (some .int), Cond.methodLink RX3 60 yX3_widens, Cond.static yX3_widens, Cond.code yX3_widens cX3_widens 2 (some .boolean), Cond.methodLink RX3 34 yX3_has, Cond.static yX3_has, Cond.code yX3_has cX3_has 1 (some .boolean), Cond.methodLink RX3 55 yX3_note, Cond.instanceMethod yX3_note, Cond.selects RX3 yX3_note yX3_note, Cond.code yX3_note cX3_note 2 (some .boolean), Cond.fieldLink RX3 24 "TypedColumnsModel" "counts" "[I", Cond.methodLink RX3 68 yX3_isReal, Cond.static yX3_isReal, Cond.code yX3_isReal cX3_isReal 1 (some .boolean), Cond.methodLink RX3 48 yX3_at, Cond.static yX3_at]
def wsX3_writeAny_r3 : List Cond := [Cond.code yX3_at cX3_at 2 (some .int), Cond.methodLink RX3 84 yX3_writeByte, Cond.instanceMethod yX3_writeByte, Cond.selects RX3 yX3_writeByte yX3_writeByte, Cond.code yX3_writeByte cX3_writeByte 4 (some .int), Cond.methodLink RX3 88 yX3_writeChar, Cond.instanceMethod yX3_writeChar, Cond.selects RX3 yX3_writeChar yX3_writeChar, Cond.code yX3_writeChar cX3_writeChar 4 (some .int), Cond.constant RX3 79 (65535), Cond.methodLink RX3 91 yX3_writeShort, Cond.instanceMethod yX3_writeShort, Cond.selects RX3 yX3_writeShort yX3_writeShort, Cond.code yX3_writeShort cX3_writeShort 4 (some .int), Cond.methodLink RX3 94 yX3_writeInt, Cond.instanceMethod yX3_writeInt, Cond.selects RX3 yX3_writeInt yX3_writeInt, Cond.code yX3_writeInt cX3_writeInt 4 (some .int), Cond.methodLink RX3 97 yX3_writeLong, Cond.instanceMethod yX3_writeLong, Cond.selects RX3 yX3_writeLong yX3_writeLong, Cond.code yX3_writeLong cX3_writeLong 5 (some .int), Cond.methodLink RX3 101 yX3_writeFloat, Cond.instanceMethod yX3_writeFloat]
def wsX3_writeAny_r4 : List Cond := [Cond.selects RX3 yX3_writeFloat yX3_writeFloat, Cond.code yX3_writeFloat cX3_writeFloat 4 (some .int), Cond.methodLink RX3 105 yX3_writeDouble, Cond.instanceMethod yX3_writeDouble, Cond.selects RX3 yX3_writeDouble yX3_writeDouble, Cond.code yX3_writeDouble cX3_writeDouble 5 (some .int)]
def wsX3_writeAny : List Cond := .code yX3_writeAny cX3_writeAny 5 (some .int) :: ((wsX3_writeAny_r1 ++ (wsX3_writeAny_r2 ++ (wsX3_writeAny_r3 ++ wsX3_writeAny_r4))) ++ wsX30)
def wsX3_copy : List Cond := .code yX3_copy cX3_copy 12 (some .int) :: ([.fieldLink RX3 27 "TypedColumnsModel" "thrown" "I", .fieldLink RX3 9 "TypedColumnsModel" "kinds" "[I", .fieldLink RX3 13 "TypedColumnsModel" "lengths" "[I", .fieldLink RX3 38 "TypedColumnsModel" "code" "I", .fieldLink RX3 16 "TypedColumnsModel" "whole" "[J", .fieldLink RX3 20 "TypedColumnsModel" "real" "[D", .methodLink RX3 52 yX3_isColumn, .instanceMethod yX3_isColumn, .selects RX3 yX3_isColumn yX3_isColumn, .initialized RX3, .code yX3_isColumn cX3_isColumn 2 (some .boolean), .fieldLink RX3 31 "TypedColumnsModel" "columns" "I", .methodLink RX3 45 yX3_fail, .instanceMethod yX3_fail, .selects RX3 yX3_fail yX3_fail, .code yX3_fail cX3_fail 2 (some .int), .methodLink RX3 55 yX3_note, .instanceMethod yX3_note, .selects RX3 yX3_note yX3_note, .code yX3_note cX3_note 2 (some .boolean), .fieldLink RX3 24 "TypedColumnsModel" "counts" "[I", .methodLink RX3 48 yX3_at, .static yX3_at, .code yX3_at cX3_at 2 (some .int)] ++ wsX30)
def wsX3_total_r1 : List Cond := [Cond.fieldLink RX3 27 "TypedColumnsModel" "thrown" "I", Cond.fieldLink RX3 13 "TypedColumnsModel" "lengths" "[I", Cond.methodLink RX3 52 yX3_isColumn, Cond.instanceMethod yX3_isColumn, Cond.selects RX3 yX3_isColumn yX3_isColumn, Cond.initialized RX3, Cond.code yX3_isColumn cX3_isColumn 2 (some .boolean), Cond.fieldLink RX3 31 "TypedColumnsModel" "columns" "I", Cond.methodLink RX3 41 yX3_codeOf, Cond.instanceMethod yX3_codeOf, Cond.selects RX3 yX3_codeOf yX3_codeOf, Cond.code yX3_codeOf cX3_codeOf 2 (some .int), Cond.fieldLink RX3 9 "TypedColumnsModel" "kinds" "[I", Cond.methodLink RX3 55 yX3_note, Cond.instanceMethod yX3_note, Cond.selects RX3 yX3_note yX3_note, Cond.code yX3_note cX3_note 2 (some .boolean), Cond.fieldLink RX3 38 "TypedColumnsModel" "code" "I", Cond.fieldLink RX3 24 "TypedColumnsModel" "counts" "[I", Cond.methodLink RX3 71 yX3_asDouble, Cond.instanceMethod yX3_asDouble, Cond.selects RX3 yX3_asDouble yX3_asDouble, Cond.code yX3_asDouble cX3_asDouble 3 (some .double), Cond.fieldLink RX3 20 "TypedColumnsModel" "real" "[D"]
def wsX3_total_r2 : List Cond := [Cond.fieldLink RX3 16 "TypedColumnsModel" "whole" "[J", Cond.methodLink RX3 68 yX3_isReal, Cond.static yX3_isReal, Cond.code yX3_isReal cX3_isReal 1 (some .boolean), Cond.methodLink RX3 48 yX3_at, Cond.static yX3_at, Cond.code yX3_at cX3_at 2 (some .int)]
def wsX3_total : List Cond := .code yX3_total cX3_total 5 (some .double) :: ((wsX3_total_r1 ++ wsX3_total_r2) ++ wsX30)
def wsX3_widened_r1 : List Cond := [Cond.fieldLink RX3 27 "TypedColumnsModel" "thrown" "I", Cond.fieldLink RX3 31 "TypedColumnsModel" "columns" "I", Cond.fieldLink RX3 9 "TypedColumnsModel" "kinds" "[I", Cond.fieldLink RX3 13 "TypedColumnsModel" "lengths" "[I", Cond.fieldLink RX3 16 "TypedColumnsModel" "whole" "[J", Cond.fieldLink RX3 20 "TypedColumnsModel" "real" "[D", Cond.methodLink RX3 52 yX3_isColumn, Cond.instanceMethod yX3_isColumn, Cond.selects RX3 yX3_isColumn yX3_isColumn, Cond.initialized RX3, Cond.code yX3_isColumn cX3_isColumn 2 (some .boolean), Cond.methodLink RX3 45 yX3_fail, Cond.instanceMethod yX3_fail, Cond.selects RX3 yX3_fail yX3_fail, Cond.code yX3_fail cX3_fail 2 (some .int), Cond.methodLink RX3 34 yX3_has, Cond.static yX3_has, Cond.code yX3_has cX3_has 1 (some .boolean), Cond.methodLink RX3 41 yX3_codeOf, Cond.instanceMethod yX3_codeOf, Cond.selects RX3 yX3_codeOf yX3_codeOf, Cond.code yX3_codeOf cX3_codeOf 2 (some .int), Cond.methodLink RX3 60 yX3_widens, Cond.static yX3_widens]
def wsX3_widened_r2 : List Cond := [Cond.code yX3_widens cX3_widens 2 (some .boolean), Cond.methodLink RX3 55 yX3_note, Cond.instanceMethod yX3_note, Cond.selects RX3 yX3_note yX3_note, Cond.code yX3_note cX3_note 2 (some .boolean), Cond.fieldLink RX3 38 "TypedColumnsModel" "code" "I", Cond.fieldLink RX3 24 "TypedColumnsModel" "counts" "[I", Cond.methodLink RX3 109 yX3_create, Cond.instanceMethod yX3_create, Cond.selects RX3 yX3_create yX3_create, Cond.code yX3_create cX3_create 4 (some .int), Cond.methodLink RX3 48 yX3_at, Cond.static yX3_at, Cond.code yX3_at cX3_at 2 (some .int), Cond.methodLink RX3 68 yX3_isReal, Cond.static yX3_isReal, Cond.code yX3_isReal cX3_isReal 1 (some .boolean)]
def wsX3_widened : List Cond := .code yX3_widened cX3_widened 6 (some .int) :: ((wsX3_widened_r1 ++ wsX3_widened_r2) ++ wsX30)
def wsX3_code : List Cond := .code yX3_code cX3_code 1 (some .int) :: ([.fieldLink RX3 27 "TypedColumnsModel" "thrown" "I", .fieldLink RX3 38 "TypedColumnsModel" "code" "I"] ++ wsX30)
def wsX3_count : List Cond := .code yX3_count cX3_count 2 (some .int) :: ([.fieldLink RX3 27 "TypedColumnsModel" "thrown" "I", .fieldLink RX3 24 "TypedColumnsModel" "counts" "[I", .methodLink RX3 45 yX3_fail, .instanceMethod yX3_fail, .selects RX3 yX3_fail yX3_fail, .initialized RX3, .code yX3_fail cX3_fail 2 (some .int)] ++ wsX30)
def wsX3_isKind : List Cond := .code yX3_isKind cX3_isKind 1 (some .boolean) :: ([])
def wsX3_hasCells : List Cond := .code yX3_hasCells cX3_hasCells 2 (some .boolean) :: ([.fieldLink RX3 27 "TypedColumnsModel" "thrown" "I", .methodLink RX3 112 yX3_isKind, .static yX3_isKind, .initialized RX3, .code yX3_isKind cX3_isKind 1 (some .boolean), .methodLink RX3 34 yX3_has, .static yX3_has, .code yX3_has cX3_has 1 (some .boolean)] ++ wsX30)
def wsX3_isNumber : List Cond := .code yX3_isNumber cX3_isNumber 2 (some .boolean) :: ([.fieldLink RX3 27 "TypedColumnsModel" "thrown" "I", .methodLink RX3 112 yX3_isKind, .static yX3_isKind, .initialized RX3, .code yX3_isKind cX3_isKind 1 (some .boolean), .methodLink RX3 34 yX3_has, .static yX3_has, .code yX3_has cX3_has 1 (some .boolean)] ++ wsX30)
def wsX3_canWiden : List Cond := .code yX3_canWiden cX3_canWiden 3 (some .boolean) :: ([.fieldLink RX3 27 "TypedColumnsModel" "thrown" "I", .methodLink RX3 112 yX3_isKind, .static yX3_isKind, .initialized RX3, .code yX3_isKind cX3_isKind 1 (some .boolean), .methodLink RX3 60 yX3_widens, .static yX3_widens, .code yX3_widens cX3_widens 2 (some .boolean), .methodLink RX3 34 yX3_has, .static yX3_has, .code yX3_has cX3_has 1 (some .boolean)] ++ wsX30)
def wsJxe99ae_isNaN_b9ae7 : List Cond := .code yJxe99ae_isNaN_b9ae7 cJxe99ae_isNaN_b9ae7 2 (some .boolean) :: ([])
def wsJxe99ae_doubleToLongBits_ccdee : List Cond := .code yJxe99ae_doubleToLongBits_ccdee cJxe99ae_doubleToLongBits_ccdee 2 (some .long) :: ([.methodLink RJxe99ae 134 ⟨"java/lang/Double", "doubleToRawLongBits", "(D)J"⟩, .native ⟨"java/lang/Double", "doubleToRawLongBits", "(D)J"⟩, .static ⟨"java/lang/Double", "doubleToRawLongBits", "(D)J"⟩, .initialized "java/lang/Double", .constantLong RJxe99ae 137 (9221120237041090560), .methodLink RJxe99ae 122 yJxe99ae_isNaN_b9ae7, .static yJxe99ae_isNaN_b9ae7, .initialized RJxe99ae, .code yJxe99ae_isNaN_b9ae7 cJxe99ae_isNaN_b9ae7 2 (some .boolean)])
def wsX3_digest_r1 : List Cond := [Cond.fieldLink RX3 27 "TypedColumnsModel" "thrown" "I", Cond.constantLong RX3 115 (1643), Cond.fieldLink RX3 31 "TypedColumnsModel" "columns" "I", Cond.constantLong RX3 117 (31), Cond.fieldLink RX3 9 "TypedColumnsModel" "kinds" "[I", Cond.fieldLink RX3 13 "TypedColumnsModel" "lengths" "[I", Cond.fieldLink RX3 20 "TypedColumnsModel" "real" "[D", Cond.fieldLink RX3 16 "TypedColumnsModel" "whole" "[J", Cond.fieldLink RX3 24 "TypedColumnsModel" "counts" "[I", Cond.methodLink RX3 34 yX3_has, Cond.static yX3_has, Cond.initialized RX3, Cond.code yX3_has cX3_has 1 (some .boolean), Cond.methodLink RX3 68 yX3_isReal, Cond.static yX3_isReal, Cond.code yX3_isReal cX3_isReal 1 (some .boolean), Cond.methodLink RX3 48 yX3_at, Cond.static yX3_at, Cond.code yX3_at cX3_at 2 (some .int), Cond.methodLink RX3 119 yJxe99ae_doubleToLongBits_ccdee, Cond.static yJxe99ae_doubleToLongBits_ccdee, Cond.initialized RJxe99ae, Cond.code yJxe99ae_doubleToLongBits_ccdee cJxe99ae_doubleToLongBits_ccdee 2 (some .long), Cond.methodLink RJxe99ae 134 ⟨"java/lang/Double", "doubleToRawLongBits", "(D)J"⟩]
def wsX3_digest_r2 : List Cond := [Cond.native ⟨"java/lang/Double", "doubleToRawLongBits", "(D)J"⟩, Cond.static ⟨"java/lang/Double", "doubleToRawLongBits", "(D)J"⟩, Cond.initialized "java/lang/Double", Cond.constantLong RJxe99ae 137 (9221120237041090560), Cond.methodLink RJxe99ae 122 yJxe99ae_isNaN_b9ae7, Cond.static yJxe99ae_isNaN_b9ae7, Cond.code yJxe99ae_isNaN_b9ae7 cJxe99ae_isNaN_b9ae7 2 (some .boolean)]
def wsX3_digest : List Cond := .code yX3_digest cX3_digest 5 (some .long) :: ((wsX3_digest_r1 ++ wsX3_digest_r2) ++ wsX30)
def wsL_create_r1 : List Cond := [Cond.classLink RL 13 "java/lang/IllegalArgumentException", Cond.classLink RL 15 "java/lang/IllegalStateException", Cond.methodLink RL 7 yX2_create, Cond.instanceMethod yX2_create, Cond.selects RX2 yX2_create yX2_create, Cond.initialized RX2, Cond.code yX2_create cX2_create 3 (some .int), Cond.classLink RX2 37 "java/lang/IllegalArgumentException", Cond.initialized "java/lang/IllegalArgumentException", Cond.classLink RX2 9 RX0, Cond.instantiable RX0 4, Cond.initialized RX0, Cond.methodLink RX2 33 yX2_isKind, Cond.static yX2_isKind, Cond.code yX2_isKind cX2_isKind 1 (some .boolean), Cond.methodLink RX2 44 yX2_holdsCells, Cond.static yX2_holdsCells, Cond.code yX2_holdsCells cX2_holdsCells 1 (some .boolean), Cond.methodLink RX2 47 yX2_isLength, Cond.static yX2_isLength, Cond.code yX2_isLength cX2_isLength 1 (some .boolean), Cond.methodLink RX2 52 yX2_refuseWhenFull, Cond.instanceMethod yX2_refuseWhenFull, Cond.selects RX2 yX2_refuseWhenFull yX2_refuseWhenFull]
def wsL_create_r2 : List Cond := [Cond.code yX2_refuseWhenFull cX2_refuseWhenFull 1 none, Cond.classLink RX2 159 "java/lang/IllegalStateException", Cond.initialized "java/lang/IllegalStateException", Cond.fieldLink RX2 26 "TypedColumns" "created" "I", Cond.fieldLink RX2 11 "TypedColumns" "columns" "[LTypedColumns$Column;", Cond.methodLink RX2 55 yX0_init, Cond.instanceMethod yX0_init, Cond.code yX0_init cX0_init 4 none, Cond.methodLink RX0 3 objectInit, Cond.instanceMethod objectInit, Cond.code objectInit ⟨#[0xb1]⟩ 1 none, Cond.fieldLink RX0 16 "TypedColumns$Column" "kind" "I", Cond.fieldLink RX0 22 "TypedColumns$Column" "length" "I", Cond.arrayClass .long, Cond.fieldLink RX0 28 "TypedColumns$Column" "wholes" "[J", Cond.arrayClass .double, Cond.fieldLink RX0 32 "TypedColumns$Column" "reals" "[D", Cond.static yX2_isFloating, Cond.code yX2_isFloating cX2_isFloating 1 (some .boolean), Cond.methodLink RX2 58 yX2_addColumn, Cond.instanceMethod yX2_addColumn, Cond.selects RX2 yX2_addColumn yX2_addColumn, Cond.code yX2_addColumn cX2_addColumn 3 (some .int)]
def wsL_create : List Cond := .codeWith yL_create cL_create 5 (some .int) [(0, 10, 13, 13), (0, 10, 17, 15)] :: ((wsL_create_r1 ++ wsL_create_r2) ++ wsX00 ++ wsX20 ++ (vx_atS RX2 41 "java/lang/IllegalArgumentException" ["java/lang/RuntimeException", "java/lang/Exception"]).filter goodWord ++ (vx_atS RX2 163 "java/lang/IllegalStateException" ["java/lang/RuntimeException", "java/lang/Exception"]).filter goodWord)
def wsL_kind : List Cond := .codeWith yL_kind cL_kind 4 (some .int) [(0, 9, 12, 21)] :: ([.classLink RL 21 "java/lang/IndexOutOfBoundsException", .methodLink RL 17 yX2_kind, .instanceMethod yX2_kind, .selects RX2 yX2_kind yX2_kind, .initialized RX2, .code yX2_kind cX2_kind 2 (some .int), .fieldLink RX2 66 "TypedColumns$Column" "kind" "I", .methodLink RX2 62 yX2_columnAt, .instanceMethod yX2_columnAt, .selects RX2 yX2_columnAt yX2_columnAt, .code yX2_columnAt cX2_columnAt 3 (some (.object "TypedColumns$Column")), .classLink RX2 139 "java/lang/IndexOutOfBoundsException", .initialized "java/lang/IndexOutOfBoundsException", .fieldLink RX2 11 "TypedColumns" "columns" "[LTypedColumns$Column;"] ++ wsX00 ++ wsX20 ++ (vx_atS RX2 143 "java/lang/IndexOutOfBoundsException" ["java/lang/RuntimeException", "java/lang/Exception"]).filter goodWord)
def wsL_length : List Cond := .codeWith yL_length cL_length 4 (some .int) [(0, 9, 12, 21)] :: ([.classLink RL 21 "java/lang/IndexOutOfBoundsException", .methodLink RL 23 yX2_length, .instanceMethod yX2_length, .selects RX2 yX2_length yX2_length, .initialized RX2, .code yX2_length cX2_length 3 (some .int), .fieldLink RX2 76 "TypedColumns$Column" "length" "I", .methodLink RX2 62 yX2_columnAt, .instanceMethod yX2_columnAt, .selects RX2 yX2_columnAt yX2_columnAt, .code yX2_columnAt cX2_columnAt 3 (some (.object "TypedColumns$Column")), .classLink RX2 139 "java/lang/IndexOutOfBoundsException", .initialized "java/lang/IndexOutOfBoundsException", .fieldLink RX2 11 "TypedColumns" "columns" "[LTypedColumns$Column;", .methodLink RX2 69 yX2_codeOfColumn, .static yX2_codeOfColumn, .code yX2_codeOfColumn cX2_codeOfColumn 1 (some .int), .fieldLink RX2 66 "TypedColumns$Column" "kind" "I", .methodLink RX2 72 yX2_note, .instanceMethod yX2_note, .selects RX2 yX2_note yX2_note, .code yX2_note cX2_note 2 (some .int), .fieldLink RX2 15 "TypedColumns" "counts" "[I", .fieldLink RX2 30 "TypedColumns" "latestCode" "I"] ++ wsX00 ++ wsX20 ++ (vx_atS RX2 143 "java/lang/IndexOutOfBoundsException" ["java/lang/RuntimeException", "java/lang/Exception"]).filter goodWord)
def wsL_readBoolean_r1 : List Cond := [Cond.classLink RL 21 "java/lang/IndexOutOfBoundsException", Cond.methodLink RL 26 yX2_readBoolean, Cond.instanceMethod yX2_readBoolean, Cond.selects RX2 yX2_readBoolean yX2_readBoolean, Cond.initialized RX2, Cond.code yX2_readBoolean cX2_readBoolean 3 (some .boolean), Cond.methodLink RX2 62 yX2_columnAt, Cond.instanceMethod yX2_columnAt, Cond.selects RX2 yX2_columnAt yX2_columnAt, Cond.code yX2_columnAt cX2_columnAt 3 (some (.object "TypedColumns$Column")), Cond.classLink RX2 139 "java/lang/IndexOutOfBoundsException", Cond.initialized "java/lang/IndexOutOfBoundsException", Cond.fieldLink RX2 11 "TypedColumns" "columns" "[LTypedColumns$Column;", Cond.methodLink RX2 79 yX2_readWhole, Cond.instanceMethod yX2_readWhole, Cond.selects RX2 yX2_readWhole yX2_readWhole, Cond.code yX2_readWhole cX2_readWhole 5 (some .long), Cond.fieldLink RX2 66 "TypedColumns$Column" "kind" "I", Cond.methodLink RX2 83 yX2_codeOfCell, Cond.static yX2_codeOfCell, Cond.code yX2_codeOfCell cX2_codeOfCell 5 (some .int), Cond.fieldLink RX2 76 "TypedColumns$Column" "length" "I", Cond.methodLink RX2 69 yX2_codeOfColumn, Cond.static yX2_codeOfColumn]
def wsL_readBoolean_r2 : List Cond := [Cond.code yX2_codeOfColumn cX2_codeOfColumn 1 (some .int), Cond.methodLink RX2 131 yX2_widens, Cond.static yX2_widens, Cond.code yX2_widens cX2_widens 2 (some .boolean), Cond.methodLink RX2 44 yX2_holdsCells, Cond.static yX2_holdsCells, Cond.code yX2_holdsCells cX2_holdsCells 1 (some .boolean), Cond.methodLink RX2 72 yX2_note, Cond.instanceMethod yX2_note, Cond.selects RX2 yX2_note yX2_note, Cond.code yX2_note cX2_note 2 (some .int), Cond.fieldLink RX2 15 "TypedColumns" "counts" "[I", Cond.fieldLink RX2 30 "TypedColumns" "latestCode" "I", Cond.methodLink RX2 166 yX0_wholeAt, Cond.instanceMethod yX0_wholeAt, Cond.selects RX0 yX0_wholeAt yX0_wholeAt, Cond.initialized RX0, Cond.code yX0_wholeAt cX0_wholeAt 2 (some .long), Cond.fieldLink RX0 28 "TypedColumns$Column" "wholes" "[J"]
def wsL_readBoolean : List Cond := .codeWith yL_readBoolean cL_readBoolean 5 (some .int) [(0, 17, 20, 21)] :: ((wsL_readBoolean_r1 ++ wsL_readBoolean_r2) ++ wsX20 ++ wsX00 ++ (vx_atS RX2 143 "java/lang/IndexOutOfBoundsException" ["java/lang/RuntimeException", "java/lang/Exception"]).filter goodWord)
def wsL_readByte_r1 : List Cond := [Cond.classLink RL 21 "java/lang/IndexOutOfBoundsException", Cond.methodLink RL 30 yX2_readByte, Cond.instanceMethod yX2_readByte, Cond.selects RX2 yX2_readByte yX2_readByte, Cond.initialized RX2, Cond.code yX2_readByte cX2_readByte 3 (some .int), Cond.methodLink RX2 62 yX2_columnAt, Cond.instanceMethod yX2_columnAt, Cond.selects RX2 yX2_columnAt yX2_columnAt, Cond.code yX2_columnAt cX2_columnAt 3 (some (.object "TypedColumns$Column")), Cond.classLink RX2 139 "java/lang/IndexOutOfBoundsException", Cond.initialized "java/lang/IndexOutOfBoundsException", Cond.fieldLink RX2 11 "TypedColumns" "columns" "[LTypedColumns$Column;", Cond.methodLink RX2 79 yX2_readWhole, Cond.instanceMethod yX2_readWhole, Cond.selects RX2 yX2_readWhole yX2_readWhole, Cond.code yX2_readWhole cX2_readWhole 5 (some .long), Cond.fieldLink RX2 66 "TypedColumns$Column" "kind" "I", Cond.methodLink RX2 83 yX2_codeOfCell, Cond.static yX2_codeOfCell, Cond.code yX2_codeOfCell cX2_codeOfCell 5 (some .int), Cond.fieldLink RX2 76 "TypedColumns$Column" "length" "I", Cond.methodLink RX2 69 yX2_codeOfColumn, Cond.static yX2_codeOfColumn]
def wsL_readByte_r2 : List Cond := [Cond.code yX2_codeOfColumn cX2_codeOfColumn 1 (some .int), Cond.methodLink RX2 131 yX2_widens, Cond.static yX2_widens, Cond.code yX2_widens cX2_widens 2 (some .boolean), Cond.methodLink RX2 44 yX2_holdsCells, Cond.static yX2_holdsCells, Cond.code yX2_holdsCells cX2_holdsCells 1 (some .boolean), Cond.methodLink RX2 72 yX2_note, Cond.instanceMethod yX2_note, Cond.selects RX2 yX2_note yX2_note, Cond.code yX2_note cX2_note 2 (some .int), Cond.fieldLink RX2 15 "TypedColumns" "counts" "[I", Cond.fieldLink RX2 30 "TypedColumns" "latestCode" "I", Cond.methodLink RX2 166 yX0_wholeAt, Cond.instanceMethod yX0_wholeAt, Cond.selects RX0 yX0_wholeAt yX0_wholeAt, Cond.initialized RX0, Cond.code yX0_wholeAt cX0_wholeAt 2 (some .long), Cond.fieldLink RX0 28 "TypedColumns$Column" "wholes" "[J"]
def wsL_readByte : List Cond := .codeWith yL_readByte cL_readByte 5 (some .int) [(0, 10, 13, 21)] :: ((wsL_readByte_r1 ++ wsL_readByte_r2) ++ wsX20 ++ wsX00 ++ (vx_atS RX2 143 "java/lang/IndexOutOfBoundsException" ["java/lang/RuntimeException", "java/lang/Exception"]).filter goodWord)
def wsL_readChar_r1 : List Cond := [Cond.classLink RL 21 "java/lang/IndexOutOfBoundsException", Cond.methodLink RL 33 yX2_readChar, Cond.instanceMethod yX2_readChar, Cond.selects RX2 yX2_readChar yX2_readChar, Cond.initialized RX2, Cond.code yX2_readChar cX2_readChar 3 (some .int), Cond.methodLink RX2 62 yX2_columnAt, Cond.instanceMethod yX2_columnAt, Cond.selects RX2 yX2_columnAt yX2_columnAt, Cond.code yX2_columnAt cX2_columnAt 3 (some (.object "TypedColumns$Column")), Cond.classLink RX2 139 "java/lang/IndexOutOfBoundsException", Cond.initialized "java/lang/IndexOutOfBoundsException", Cond.fieldLink RX2 11 "TypedColumns" "columns" "[LTypedColumns$Column;", Cond.methodLink RX2 79 yX2_readWhole, Cond.instanceMethod yX2_readWhole, Cond.selects RX2 yX2_readWhole yX2_readWhole, Cond.code yX2_readWhole cX2_readWhole 5 (some .long), Cond.fieldLink RX2 66 "TypedColumns$Column" "kind" "I", Cond.methodLink RX2 83 yX2_codeOfCell, Cond.static yX2_codeOfCell, Cond.code yX2_codeOfCell cX2_codeOfCell 5 (some .int), Cond.fieldLink RX2 76 "TypedColumns$Column" "length" "I", Cond.methodLink RX2 69 yX2_codeOfColumn, Cond.static yX2_codeOfColumn]
def wsL_readChar_r2 : List Cond := [Cond.code yX2_codeOfColumn cX2_codeOfColumn 1 (some .int), Cond.methodLink RX2 131 yX2_widens, Cond.static yX2_widens, Cond.code yX2_widens cX2_widens 2 (some .boolean), Cond.methodLink RX2 44 yX2_holdsCells, Cond.static yX2_holdsCells, Cond.code yX2_holdsCells cX2_holdsCells 1 (some .boolean), Cond.methodLink RX2 72 yX2_note, Cond.instanceMethod yX2_note, Cond.selects RX2 yX2_note yX2_note, Cond.code yX2_note cX2_note 2 (some .int), Cond.fieldLink RX2 15 "TypedColumns" "counts" "[I", Cond.fieldLink RX2 30 "TypedColumns" "latestCode" "I", Cond.methodLink RX2 166 yX0_wholeAt, Cond.instanceMethod yX0_wholeAt, Cond.selects RX0 yX0_wholeAt yX0_wholeAt, Cond.initialized RX0, Cond.code yX0_wholeAt cX0_wholeAt 2 (some .long), Cond.fieldLink RX0 28 "TypedColumns$Column" "wholes" "[J"]
def wsL_readChar : List Cond := .codeWith yL_readChar cL_readChar 5 (some .int) [(0, 10, 13, 21)] :: ((wsL_readChar_r1 ++ wsL_readChar_r2) ++ wsX20 ++ wsX00 ++ (vx_atS RX2 143 "java/lang/IndexOutOfBoundsException" ["java/lang/RuntimeException", "java/lang/Exception"]).filter goodWord)
def wsL_readShort_r1 : List Cond := [Cond.classLink RL 21 "java/lang/IndexOutOfBoundsException", Cond.methodLink RL 36 yX2_readShort, Cond.instanceMethod yX2_readShort, Cond.selects RX2 yX2_readShort yX2_readShort, Cond.initialized RX2, Cond.code yX2_readShort cX2_readShort 3 (some .int), Cond.methodLink RX2 62 yX2_columnAt, Cond.instanceMethod yX2_columnAt, Cond.selects RX2 yX2_columnAt yX2_columnAt, Cond.code yX2_columnAt cX2_columnAt 3 (some (.object "TypedColumns$Column")), Cond.classLink RX2 139 "java/lang/IndexOutOfBoundsException", Cond.initialized "java/lang/IndexOutOfBoundsException", Cond.fieldLink RX2 11 "TypedColumns" "columns" "[LTypedColumns$Column;", Cond.methodLink RX2 79 yX2_readWhole, Cond.instanceMethod yX2_readWhole, Cond.selects RX2 yX2_readWhole yX2_readWhole, Cond.code yX2_readWhole cX2_readWhole 5 (some .long), Cond.fieldLink RX2 66 "TypedColumns$Column" "kind" "I", Cond.methodLink RX2 83 yX2_codeOfCell, Cond.static yX2_codeOfCell, Cond.code yX2_codeOfCell cX2_codeOfCell 5 (some .int), Cond.fieldLink RX2 76 "TypedColumns$Column" "length" "I", Cond.methodLink RX2 69 yX2_codeOfColumn, Cond.static yX2_codeOfColumn]
def wsL_readShort_r2 : List Cond := [Cond.code yX2_codeOfColumn cX2_codeOfColumn 1 (some .int), Cond.methodLink RX2 131 yX2_widens, Cond.static yX2_widens, Cond.code yX2_widens cX2_widens 2 (some .boolean), Cond.methodLink RX2 44 yX2_holdsCells, Cond.static yX2_holdsCells, Cond.code yX2_holdsCells cX2_holdsCells 1 (some .boolean), Cond.methodLink RX2 72 yX2_note, Cond.instanceMethod yX2_note, Cond.selects RX2 yX2_note yX2_note, Cond.code yX2_note cX2_note 2 (some .int), Cond.fieldLink RX2 15 "TypedColumns" "counts" "[I", Cond.fieldLink RX2 30 "TypedColumns" "latestCode" "I", Cond.methodLink RX2 166 yX0_wholeAt, Cond.instanceMethod yX0_wholeAt, Cond.selects RX0 yX0_wholeAt yX0_wholeAt, Cond.initialized RX0, Cond.code yX0_wholeAt cX0_wholeAt 2 (some .long), Cond.fieldLink RX0 28 "TypedColumns$Column" "wholes" "[J"]
def wsL_readShort : List Cond := .codeWith yL_readShort cL_readShort 5 (some .int) [(0, 10, 13, 21)] :: ((wsL_readShort_r1 ++ wsL_readShort_r2) ++ wsX20 ++ wsX00 ++ (vx_atS RX2 143 "java/lang/IndexOutOfBoundsException" ["java/lang/RuntimeException", "java/lang/Exception"]).filter goodWord)
def wsL_readInt_r1 : List Cond := [Cond.classLink RL 21 "java/lang/IndexOutOfBoundsException", Cond.methodLink RL 39 yX2_readInt, Cond.instanceMethod yX2_readInt, Cond.selects RX2 yX2_readInt yX2_readInt, Cond.initialized RX2, Cond.code yX2_readInt cX2_readInt 3 (some .int), Cond.methodLink RX2 62 yX2_columnAt, Cond.instanceMethod yX2_columnAt, Cond.selects RX2 yX2_columnAt yX2_columnAt, Cond.code yX2_columnAt cX2_columnAt 3 (some (.object "TypedColumns$Column")), Cond.classLink RX2 139 "java/lang/IndexOutOfBoundsException", Cond.initialized "java/lang/IndexOutOfBoundsException", Cond.fieldLink RX2 11 "TypedColumns" "columns" "[LTypedColumns$Column;", Cond.methodLink RX2 79 yX2_readWhole, Cond.instanceMethod yX2_readWhole, Cond.selects RX2 yX2_readWhole yX2_readWhole, Cond.code yX2_readWhole cX2_readWhole 5 (some .long), Cond.fieldLink RX2 66 "TypedColumns$Column" "kind" "I", Cond.methodLink RX2 83 yX2_codeOfCell, Cond.static yX2_codeOfCell, Cond.code yX2_codeOfCell cX2_codeOfCell 5 (some .int), Cond.fieldLink RX2 76 "TypedColumns$Column" "length" "I", Cond.methodLink RX2 69 yX2_codeOfColumn, Cond.static yX2_codeOfColumn]
def wsL_readInt_r2 : List Cond := [Cond.code yX2_codeOfColumn cX2_codeOfColumn 1 (some .int), Cond.methodLink RX2 131 yX2_widens, Cond.static yX2_widens, Cond.code yX2_widens cX2_widens 2 (some .boolean), Cond.methodLink RX2 44 yX2_holdsCells, Cond.static yX2_holdsCells, Cond.code yX2_holdsCells cX2_holdsCells 1 (some .boolean), Cond.methodLink RX2 72 yX2_note, Cond.instanceMethod yX2_note, Cond.selects RX2 yX2_note yX2_note, Cond.code yX2_note cX2_note 2 (some .int), Cond.fieldLink RX2 15 "TypedColumns" "counts" "[I", Cond.fieldLink RX2 30 "TypedColumns" "latestCode" "I", Cond.methodLink RX2 166 yX0_wholeAt, Cond.instanceMethod yX0_wholeAt, Cond.selects RX0 yX0_wholeAt yX0_wholeAt, Cond.initialized RX0, Cond.code yX0_wholeAt cX0_wholeAt 2 (some .long), Cond.fieldLink RX0 28 "TypedColumns$Column" "wholes" "[J"]
def wsL_readInt : List Cond := .codeWith yL_readInt cL_readInt 5 (some .int) [(0, 10, 13, 21)] :: ((wsL_readInt_r1 ++ wsL_readInt_r2) ++ wsX20 ++ wsX00 ++ (vx_atS RX2 143 "java/lang/IndexOutOfBoundsException" ["java/lang/RuntimeException", "java/lang/Exception"]).filter goodWord)
def wsL_readLong_r1 : List Cond := [Cond.classLink RL 21 "java/lang/IndexOutOfBoundsException", Cond.methodLink RL 42 yX2_readLong, Cond.instanceMethod yX2_readLong, Cond.selects RX2 yX2_readLong yX2_readLong, Cond.initialized RX2, Cond.code yX2_readLong cX2_readLong 3 (some .long), Cond.methodLink RX2 62 yX2_columnAt, Cond.instanceMethod yX2_columnAt, Cond.selects RX2 yX2_columnAt yX2_columnAt, Cond.code yX2_columnAt cX2_columnAt 3 (some (.object "TypedColumns$Column")), Cond.classLink RX2 139 "java/lang/IndexOutOfBoundsException", Cond.initialized "java/lang/IndexOutOfBoundsException", Cond.fieldLink RX2 11 "TypedColumns" "columns" "[LTypedColumns$Column;", Cond.methodLink RX2 79 yX2_readWhole, Cond.instanceMethod yX2_readWhole, Cond.selects RX2 yX2_readWhole yX2_readWhole, Cond.code yX2_readWhole cX2_readWhole 5 (some .long), Cond.fieldLink RX2 66 "TypedColumns$Column" "kind" "I", Cond.methodLink RX2 83 yX2_codeOfCell, Cond.static yX2_codeOfCell, Cond.code yX2_codeOfCell cX2_codeOfCell 5 (some .int), Cond.fieldLink RX2 76 "TypedColumns$Column" "length" "I", Cond.methodLink RX2 69 yX2_codeOfColumn, Cond.static yX2_codeOfColumn]
def wsL_readLong_r2 : List Cond := [Cond.code yX2_codeOfColumn cX2_codeOfColumn 1 (some .int), Cond.methodLink RX2 131 yX2_widens, Cond.static yX2_widens, Cond.code yX2_widens cX2_widens 2 (some .boolean), Cond.methodLink RX2 44 yX2_holdsCells, Cond.static yX2_holdsCells, Cond.code yX2_holdsCells cX2_holdsCells 1 (some .boolean), Cond.methodLink RX2 72 yX2_note, Cond.instanceMethod yX2_note, Cond.selects RX2 yX2_note yX2_note, Cond.code yX2_note cX2_note 2 (some .int), Cond.fieldLink RX2 15 "TypedColumns" "counts" "[I", Cond.fieldLink RX2 30 "TypedColumns" "latestCode" "I", Cond.methodLink RX2 166 yX0_wholeAt, Cond.instanceMethod yX0_wholeAt, Cond.selects RX0 yX0_wholeAt yX0_wholeAt, Cond.initialized RX0, Cond.code yX0_wholeAt cX0_wholeAt 2 (some .long), Cond.fieldLink RX0 28 "TypedColumns$Column" "wholes" "[J"]
def wsL_readLong : List Cond := .codeWith yL_readLong cL_readLong 5 (some .int) [(0, 9, 12, 21)] :: ((wsL_readLong_r1 ++ wsL_readLong_r2) ++ wsX20 ++ wsX00 ++ (vx_atS RX2 143 "java/lang/IndexOutOfBoundsException" ["java/lang/RuntimeException", "java/lang/Exception"]).filter goodWord)
def wsL_readFloat_r1 : List Cond := [Cond.classLink RL 21 "java/lang/IndexOutOfBoundsException", Cond.methodLink RL 46 yX2_readFloat, Cond.instanceMethod yX2_readFloat, Cond.selects RX2 yX2_readFloat yX2_readFloat, Cond.initialized RX2, Cond.code yX2_readFloat cX2_readFloat 5 (some .float), Cond.fieldLink RX2 66 "TypedColumns$Column" "kind" "I", Cond.methodLink RX2 62 yX2_columnAt, Cond.instanceMethod yX2_columnAt, Cond.selects RX2 yX2_columnAt yX2_columnAt, Cond.code yX2_columnAt cX2_columnAt 3 (some (.object "TypedColumns$Column")), Cond.classLink RX2 139 "java/lang/IndexOutOfBoundsException", Cond.initialized "java/lang/IndexOutOfBoundsException", Cond.fieldLink RX2 11 "TypedColumns" "columns" "[LTypedColumns$Column;", Cond.methodLink RX2 83 yX2_codeOfCell, Cond.static yX2_codeOfCell, Cond.code yX2_codeOfCell cX2_codeOfCell 5 (some .int), Cond.fieldLink RX2 76 "TypedColumns$Column" "length" "I", Cond.methodLink RX2 69 yX2_codeOfColumn, Cond.static yX2_codeOfColumn, Cond.code yX2_codeOfColumn cX2_codeOfColumn 1 (some .int), Cond.methodLink RX2 131 yX2_widens, Cond.static yX2_widens, Cond.code yX2_widens cX2_widens 2 (some .boolean)]
def wsL_readFloat_r2 : List Cond := [Cond.methodLink RX2 44 yX2_holdsCells, Cond.static yX2_holdsCells, Cond.code yX2_holdsCells cX2_holdsCells 1 (some .boolean), Cond.methodLink RX2 72 yX2_note, Cond.instanceMethod yX2_note, Cond.selects RX2 yX2_note yX2_note, Cond.code yX2_note cX2_note 2 (some .int), Cond.fieldLink RX2 15 "TypedColumns" "counts" "[I", Cond.fieldLink RX2 30 "TypedColumns" "latestCode" "I", Cond.methodLink RX2 87 yX0_floatAt, Cond.instanceMethod yX0_floatAt, Cond.selects RX0 yX0_floatAt yX0_floatAt, Cond.initialized RX0, Cond.code yX0_floatAt cX0_floatAt 2 (some .float), Cond.fieldLink RX0 16 "TypedColumns$Column" "kind" "I", Cond.static yX2_isFloating, Cond.code yX2_isFloating cX2_isFloating 1 (some .boolean), Cond.methodLink RX0 36 yX0_realAt, Cond.instanceMethod yX0_realAt, Cond.selects RX0 yX0_realAt yX0_realAt, Cond.code yX0_realAt cX0_realAt 2 (some .double), Cond.fieldLink RX0 32 "TypedColumns$Column" "reals" "[D", Cond.static yX2_floatOf, Cond.code yX2_floatOf cX2_floatOf 2 (some .float)]
def wsL_readFloat_r3 : List Cond := [Cond.methodLink RX2 188 yX2_noFloatNumber, Cond.static yX2_noFloatNumber, Cond.code yX2_noFloatNumber cX2_noFloatNumber 0 (some .float), Cond.constantFloat RX2 184 (2143289344), Cond.methodLink RX0 40 yX0_wholeAt, Cond.instanceMethod yX0_wholeAt, Cond.selects RX0 yX0_wholeAt yX0_wholeAt, Cond.code yX0_wholeAt cX0_wholeAt 2 (some .long), Cond.fieldLink RX0 28 "TypedColumns$Column" "wholes" "[J"]
def wsL_readFloat : List Cond := .codeWith yL_readFloat cL_readFloat 5 (some .int) [(0, 10, 13, 21)] :: ((wsL_readFloat_r1 ++ (wsL_readFloat_r2 ++ wsL_readFloat_r3)) ++ wsX00 ++ wsX20 ++ (vx_atS RX2 143 "java/lang/IndexOutOfBoundsException" ["java/lang/RuntimeException", "java/lang/Exception"]).filter goodWord)
def wsL_readDouble_r1 : List Cond := [Cond.classLink RL 21 "java/lang/IndexOutOfBoundsException", Cond.methodLink RL 50 yX2_readDouble, Cond.instanceMethod yX2_readDouble, Cond.selects RX2 yX2_readDouble yX2_readDouble, Cond.initialized RX2, Cond.code yX2_readDouble cX2_readDouble 3 (some .double), Cond.methodLink RX2 62 yX2_columnAt, Cond.instanceMethod yX2_columnAt, Cond.selects RX2 yX2_columnAt yX2_columnAt, Cond.code yX2_columnAt cX2_columnAt 3 (some (.object "TypedColumns$Column")), Cond.classLink RX2 139 "java/lang/IndexOutOfBoundsException", Cond.initialized "java/lang/IndexOutOfBoundsException", Cond.fieldLink RX2 11 "TypedColumns" "columns" "[LTypedColumns$Column;", Cond.methodLink RX2 91 yX2_readReal, Cond.instanceMethod yX2_readReal, Cond.selects RX2 yX2_readReal yX2_readReal, Cond.code yX2_readReal cX2_readReal 5 (some .double), Cond.fieldLink RX2 66 "TypedColumns$Column" "kind" "I", Cond.methodLink RX2 83 yX2_codeOfCell, Cond.static yX2_codeOfCell, Cond.code yX2_codeOfCell cX2_codeOfCell 5 (some .int), Cond.fieldLink RX2 76 "TypedColumns$Column" "length" "I", Cond.methodLink RX2 69 yX2_codeOfColumn, Cond.static yX2_codeOfColumn]
def wsL_readDouble_r2 : List Cond := [Cond.code yX2_codeOfColumn cX2_codeOfColumn 1 (some .int), Cond.methodLink RX2 131 yX2_widens, Cond.static yX2_widens, Cond.code yX2_widens cX2_widens 2 (some .boolean), Cond.methodLink RX2 44 yX2_holdsCells, Cond.static yX2_holdsCells, Cond.code yX2_holdsCells cX2_holdsCells 1 (some .boolean), Cond.methodLink RX2 72 yX2_note, Cond.instanceMethod yX2_note, Cond.selects RX2 yX2_note yX2_note, Cond.code yX2_note cX2_note 2 (some .int), Cond.fieldLink RX2 15 "TypedColumns" "counts" "[I", Cond.fieldLink RX2 30 "TypedColumns" "latestCode" "I", Cond.methodLink RX2 170 yX0_doubleAt, Cond.instanceMethod yX0_doubleAt, Cond.selects RX0 yX0_doubleAt yX0_doubleAt, Cond.initialized RX0, Cond.code yX0_doubleAt cX0_doubleAt 2 (some .double), Cond.fieldLink RX0 16 "TypedColumns$Column" "kind" "I", Cond.static yX2_isFloating, Cond.code yX2_isFloating cX2_isFloating 1 (some .boolean), Cond.methodLink RX0 36 yX0_realAt, Cond.instanceMethod yX0_realAt, Cond.selects RX0 yX0_realAt yX0_realAt]
def wsL_readDouble_r3 : List Cond := [Cond.code yX0_realAt cX0_realAt 2 (some .double), Cond.fieldLink RX0 32 "TypedColumns$Column" "reals" "[D", Cond.methodLink RX0 40 yX0_wholeAt, Cond.instanceMethod yX0_wholeAt, Cond.selects RX0 yX0_wholeAt yX0_wholeAt, Cond.code yX0_wholeAt cX0_wholeAt 2 (some .long), Cond.fieldLink RX0 28 "TypedColumns$Column" "wholes" "[J"]
def wsL_readDouble : List Cond := .codeWith yL_readDouble cL_readDouble 5 (some .int) [(0, 9, 12, 21)] :: ((wsL_readDouble_r1 ++ (wsL_readDouble_r2 ++ wsL_readDouble_r3)) ++ wsX20 ++ wsX00 ++ (vx_atS RX2 143 "java/lang/IndexOutOfBoundsException" ["java/lang/RuntimeException", "java/lang/Exception"]).filter goodWord)
def wsL_readAny_r1 : List Cond := [Cond.classLink RL 21 "java/lang/IndexOutOfBoundsException", Cond.methodLink RL 54 yX2_readAny, Cond.instanceMethod yX2_readAny, Cond.selects RX2 yX2_readAny yX2_readAny, Cond.initialized RX2, Cond.code yX2_readAny cX2_readAny 4 (some .double), Cond.fieldLink RX2 66 "TypedColumns$Column" "kind" "I", Cond.methodLink RX2 62 yX2_columnAt, Cond.instanceMethod yX2_columnAt, Cond.selects RX2 yX2_columnAt yX2_columnAt, Cond.code yX2_columnAt cX2_columnAt 3 (some (.object "TypedColumns$Column")), Cond.classLink RX2 139 "java/lang/IndexOutOfBoundsException", Cond.initialized "java/lang/IndexOutOfBoundsException", Cond.fieldLink RX2 11 "TypedColumns" "columns" "[LTypedColumns$Column;", Cond.methodLink RX2 91 yX2_readReal, Cond.instanceMethod yX2_readReal, Cond.selects RX2 yX2_readReal yX2_readReal, Cond.code yX2_readReal cX2_readReal 5 (some .double), Cond.methodLink RX2 83 yX2_codeOfCell, Cond.static yX2_codeOfCell, Cond.code yX2_codeOfCell cX2_codeOfCell 5 (some .int), Cond.fieldLink RX2 76 "TypedColumns$Column" "length" "I", Cond.methodLink RX2 69 yX2_codeOfColumn, Cond.static yX2_codeOfColumn]
def wsL_readAny_r2 : List Cond := [Cond.code yX2_codeOfColumn cX2_codeOfColumn 1 (some .int), Cond.methodLink RX2 131 yX2_widens, Cond.static yX2_widens, Cond.code yX2_widens cX2_widens 2 (some .boolean), Cond.methodLink RX2 44 yX2_holdsCells, Cond.static yX2_holdsCells, Cond.code yX2_holdsCells cX2_holdsCells 1 (some .boolean), Cond.methodLink RX2 72 yX2_note, Cond.instanceMethod yX2_note, Cond.selects RX2 yX2_note yX2_note, Cond.code yX2_note cX2_note 2 (some .int), Cond.fieldLink RX2 15 "TypedColumns" "counts" "[I", Cond.fieldLink RX2 30 "TypedColumns" "latestCode" "I", Cond.methodLink RX2 170 yX0_doubleAt, Cond.instanceMethod yX0_doubleAt, Cond.selects RX0 yX0_doubleAt yX0_doubleAt, Cond.initialized RX0, Cond.code yX0_doubleAt cX0_doubleAt 2 (some .double), Cond.fieldLink RX0 16 "TypedColumns$Column" "kind" "I", Cond.static yX2_isFloating, Cond.code yX2_isFloating cX2_isFloating 1 (some .boolean), Cond.methodLink RX0 36 yX0_realAt, Cond.instanceMethod yX0_realAt, Cond.selects RX0 yX0_realAt yX0_realAt]
def wsL_readAny_r3 : List Cond := [Cond.code yX0_realAt cX0_realAt 2 (some .double), Cond.fieldLink RX0 32 "TypedColumns$Column" "reals" "[D", Cond.methodLink RX0 40 yX0_wholeAt, Cond.instanceMethod yX0_wholeAt, Cond.selects RX0 yX0_wholeAt yX0_wholeAt, Cond.code yX0_wholeAt cX0_wholeAt 2 (some .long), Cond.fieldLink RX0 28 "TypedColumns$Column" "wholes" "[J"]
def wsL_readAny : List Cond := .codeWith yL_readAny cL_readAny 5 (some .int) [(0, 9, 12, 21)] :: ((wsL_readAny_r1 ++ (wsL_readAny_r2 ++ wsL_readAny_r3)) ++ wsX00 ++ wsX20 ++ (vx_atS RX2 143 "java/lang/IndexOutOfBoundsException" ["java/lang/RuntimeException", "java/lang/Exception"]).filter goodWord)
def wsL_writeBoolean_r1 : List Cond := [Cond.classLink RL 21 "java/lang/IndexOutOfBoundsException", Cond.methodLink RL 57 yX2_writeBoolean, Cond.instanceMethod yX2_writeBoolean, Cond.selects RX2 yX2_writeBoolean yX2_writeBoolean, Cond.initialized RX2, Cond.code yX2_writeBoolean cX2_writeBoolean 4 (some .int), Cond.methodLink RX2 62 yX2_columnAt, Cond.instanceMethod yX2_columnAt, Cond.selects RX2 yX2_columnAt yX2_columnAt, Cond.code yX2_columnAt cX2_columnAt 3 (some (.object "TypedColumns$Column")), Cond.classLink RX2 139 "java/lang/IndexOutOfBoundsException", Cond.initialized "java/lang/IndexOutOfBoundsException", Cond.fieldLink RX2 11 "TypedColumns" "columns" "[LTypedColumns$Column;", Cond.methodLink RX2 95 yX2_writeWhole, Cond.instanceMethod yX2_writeWhole, Cond.selects RX2 yX2_writeWhole yX2_writeWhole, Cond.code yX2_writeWhole cX2_writeWhole 7 (some .int), Cond.fieldLink RX2 66 "TypedColumns$Column" "kind" "I", Cond.methodLink RX2 83 yX2_codeOfCell, Cond.static yX2_codeOfCell, Cond.code yX2_codeOfCell cX2_codeOfCell 5 (some .int), Cond.fieldLink RX2 76 "TypedColumns$Column" "length" "I", Cond.methodLink RX2 69 yX2_codeOfColumn, Cond.static yX2_codeOfColumn]
def wsL_writeBoolean_r2 : List Cond := [Cond.code yX2_codeOfColumn cX2_codeOfColumn 1 (some .int), Cond.methodLink RX2 131 yX2_widens, Cond.static yX2_widens, Cond.code yX2_widens cX2_widens 2 (some .boolean), Cond.methodLink RX2 44 yX2_holdsCells, Cond.static yX2_holdsCells, Cond.code yX2_holdsCells cX2_holdsCells 1 (some .boolean), Cond.methodLink RX2 72 yX2_note, Cond.instanceMethod yX2_note, Cond.selects RX2 yX2_note yX2_note, Cond.code yX2_note cX2_note 2 (some .int), Cond.fieldLink RX2 15 "TypedColumns" "counts" "[I", Cond.fieldLink RX2 30 "TypedColumns" "latestCode" "I", Cond.methodLink RX2 174 yX0_putWhole, Cond.instanceMethod yX0_putWhole, Cond.selects RX0 yX0_putWhole yX0_putWhole, Cond.initialized RX0, Cond.code yX0_putWhole cX0_putWhole 4 none, Cond.fieldLink RX0 16 "TypedColumns$Column" "kind" "I", Cond.fieldLink RX0 28 "TypedColumns$Column" "wholes" "[J", Cond.methodLink RX0 48 yX0_putReal, Cond.instanceMethod yX0_putReal, Cond.selects RX0 yX0_putReal yX0_putReal, Cond.code yX0_putReal cX0_putReal 4 none]
def wsL_writeBoolean_r3 : List Cond := [Cond.fieldLink RX0 32 "TypedColumns$Column" "reals" "[D"]
def wsL_writeBoolean : List Cond := .codeWith yL_writeBoolean cL_writeBoolean 6 (some .int) [(0, 12, 15, 21)] :: ((wsL_writeBoolean_r1 ++ (wsL_writeBoolean_r2 ++ wsL_writeBoolean_r3)) ++ wsX20 ++ wsX00 ++ (vx_atS RX2 143 "java/lang/IndexOutOfBoundsException" ["java/lang/RuntimeException", "java/lang/Exception"]).filter goodWord)
def wsL_writeByte_r1 : List Cond := [Cond.classLink RL 21 "java/lang/IndexOutOfBoundsException", Cond.methodLink RL 61 yX2_writeByte, Cond.instanceMethod yX2_writeByte, Cond.selects RX2 yX2_writeByte yX2_writeByte, Cond.initialized RX2, Cond.code yX2_writeByte cX2_writeByte 4 (some .int), Cond.methodLink RX2 62 yX2_columnAt, Cond.instanceMethod yX2_columnAt, Cond.selects RX2 yX2_columnAt yX2_columnAt, Cond.code yX2_columnAt cX2_columnAt 3 (some (.object "TypedColumns$Column")), Cond.classLink RX2 139 "java/lang/IndexOutOfBoundsException", Cond.initialized "java/lang/IndexOutOfBoundsException", Cond.fieldLink RX2 11 "TypedColumns" "columns" "[LTypedColumns$Column;", Cond.methodLink RX2 95 yX2_writeWhole, Cond.instanceMethod yX2_writeWhole, Cond.selects RX2 yX2_writeWhole yX2_writeWhole, Cond.code yX2_writeWhole cX2_writeWhole 7 (some .int), Cond.fieldLink RX2 66 "TypedColumns$Column" "kind" "I", Cond.methodLink RX2 83 yX2_codeOfCell, Cond.static yX2_codeOfCell, Cond.code yX2_codeOfCell cX2_codeOfCell 5 (some .int), Cond.fieldLink RX2 76 "TypedColumns$Column" "length" "I", Cond.methodLink RX2 69 yX2_codeOfColumn, Cond.static yX2_codeOfColumn]
def wsL_writeByte_r2 : List Cond := [Cond.code yX2_codeOfColumn cX2_codeOfColumn 1 (some .int), Cond.methodLink RX2 131 yX2_widens, Cond.static yX2_widens, Cond.code yX2_widens cX2_widens 2 (some .boolean), Cond.methodLink RX2 44 yX2_holdsCells, Cond.static yX2_holdsCells, Cond.code yX2_holdsCells cX2_holdsCells 1 (some .boolean), Cond.methodLink RX2 72 yX2_note, Cond.instanceMethod yX2_note, Cond.selects RX2 yX2_note yX2_note, Cond.code yX2_note cX2_note 2 (some .int), Cond.fieldLink RX2 15 "TypedColumns" "counts" "[I", Cond.fieldLink RX2 30 "TypedColumns" "latestCode" "I", Cond.methodLink RX2 174 yX0_putWhole, Cond.instanceMethod yX0_putWhole, Cond.selects RX0 yX0_putWhole yX0_putWhole, Cond.initialized RX0, Cond.code yX0_putWhole cX0_putWhole 4 none, Cond.fieldLink RX0 16 "TypedColumns$Column" "kind" "I", Cond.fieldLink RX0 28 "TypedColumns$Column" "wholes" "[J", Cond.methodLink RX0 48 yX0_putReal, Cond.instanceMethod yX0_putReal, Cond.selects RX0 yX0_putReal yX0_putReal, Cond.code yX0_putReal cX0_putReal 4 none]
def wsL_writeByte_r3 : List Cond := [Cond.fieldLink RX0 32 "TypedColumns$Column" "reals" "[D"]
def wsL_writeByte : List Cond := .codeWith yL_writeByte cL_writeByte 6 (some .int) [(0, 12, 15, 21)] :: ((wsL_writeByte_r1 ++ (wsL_writeByte_r2 ++ wsL_writeByte_r3)) ++ wsX20 ++ wsX00 ++ (vx_atS RX2 143 "java/lang/IndexOutOfBoundsException" ["java/lang/RuntimeException", "java/lang/Exception"]).filter goodWord)
def wsL_writeChar_r1 : List Cond := [Cond.classLink RL 21 "java/lang/IndexOutOfBoundsException", Cond.methodLink RL 65 yX2_writeChar, Cond.instanceMethod yX2_writeChar, Cond.selects RX2 yX2_writeChar yX2_writeChar, Cond.initialized RX2, Cond.code yX2_writeChar cX2_writeChar 4 (some .int), Cond.methodLink RX2 62 yX2_columnAt, Cond.instanceMethod yX2_columnAt, Cond.selects RX2 yX2_columnAt yX2_columnAt, Cond.code yX2_columnAt cX2_columnAt 3 (some (.object "TypedColumns$Column")), Cond.classLink RX2 139 "java/lang/IndexOutOfBoundsException", Cond.initialized "java/lang/IndexOutOfBoundsException", Cond.fieldLink RX2 11 "TypedColumns" "columns" "[LTypedColumns$Column;", Cond.methodLink RX2 95 yX2_writeWhole, Cond.instanceMethod yX2_writeWhole, Cond.selects RX2 yX2_writeWhole yX2_writeWhole, Cond.code yX2_writeWhole cX2_writeWhole 7 (some .int), Cond.fieldLink RX2 66 "TypedColumns$Column" "kind" "I", Cond.methodLink RX2 83 yX2_codeOfCell, Cond.static yX2_codeOfCell, Cond.code yX2_codeOfCell cX2_codeOfCell 5 (some .int), Cond.fieldLink RX2 76 "TypedColumns$Column" "length" "I", Cond.methodLink RX2 69 yX2_codeOfColumn, Cond.static yX2_codeOfColumn]
def wsL_writeChar_r2 : List Cond := [Cond.code yX2_codeOfColumn cX2_codeOfColumn 1 (some .int), Cond.methodLink RX2 131 yX2_widens, Cond.static yX2_widens, Cond.code yX2_widens cX2_widens 2 (some .boolean), Cond.methodLink RX2 44 yX2_holdsCells, Cond.static yX2_holdsCells, Cond.code yX2_holdsCells cX2_holdsCells 1 (some .boolean), Cond.methodLink RX2 72 yX2_note, Cond.instanceMethod yX2_note, Cond.selects RX2 yX2_note yX2_note, Cond.code yX2_note cX2_note 2 (some .int), Cond.fieldLink RX2 15 "TypedColumns" "counts" "[I", Cond.fieldLink RX2 30 "TypedColumns" "latestCode" "I", Cond.methodLink RX2 174 yX0_putWhole, Cond.instanceMethod yX0_putWhole, Cond.selects RX0 yX0_putWhole yX0_putWhole, Cond.initialized RX0, Cond.code yX0_putWhole cX0_putWhole 4 none, Cond.fieldLink RX0 16 "TypedColumns$Column" "kind" "I", Cond.fieldLink RX0 28 "TypedColumns$Column" "wholes" "[J", Cond.methodLink RX0 48 yX0_putReal, Cond.instanceMethod yX0_putReal, Cond.selects RX0 yX0_putReal yX0_putReal, Cond.code yX0_putReal cX0_putReal 4 none]
def wsL_writeChar_r3 : List Cond := [Cond.fieldLink RX0 32 "TypedColumns$Column" "reals" "[D"]
def wsL_writeChar : List Cond := .codeWith yL_writeChar cL_writeChar 6 (some .int) [(0, 12, 15, 21)] :: ((wsL_writeChar_r1 ++ (wsL_writeChar_r2 ++ wsL_writeChar_r3)) ++ wsX20 ++ wsX00 ++ (vx_atS RX2 143 "java/lang/IndexOutOfBoundsException" ["java/lang/RuntimeException", "java/lang/Exception"]).filter goodWord)
def wsL_writeShort_r1 : List Cond := [Cond.classLink RL 21 "java/lang/IndexOutOfBoundsException", Cond.methodLink RL 68 yX2_writeShort, Cond.instanceMethod yX2_writeShort, Cond.selects RX2 yX2_writeShort yX2_writeShort, Cond.initialized RX2, Cond.code yX2_writeShort cX2_writeShort 4 (some .int), Cond.methodLink RX2 62 yX2_columnAt, Cond.instanceMethod yX2_columnAt, Cond.selects RX2 yX2_columnAt yX2_columnAt, Cond.code yX2_columnAt cX2_columnAt 3 (some (.object "TypedColumns$Column")), Cond.classLink RX2 139 "java/lang/IndexOutOfBoundsException", Cond.initialized "java/lang/IndexOutOfBoundsException", Cond.fieldLink RX2 11 "TypedColumns" "columns" "[LTypedColumns$Column;", Cond.methodLink RX2 95 yX2_writeWhole, Cond.instanceMethod yX2_writeWhole, Cond.selects RX2 yX2_writeWhole yX2_writeWhole, Cond.code yX2_writeWhole cX2_writeWhole 7 (some .int), Cond.fieldLink RX2 66 "TypedColumns$Column" "kind" "I", Cond.methodLink RX2 83 yX2_codeOfCell, Cond.static yX2_codeOfCell, Cond.code yX2_codeOfCell cX2_codeOfCell 5 (some .int), Cond.fieldLink RX2 76 "TypedColumns$Column" "length" "I", Cond.methodLink RX2 69 yX2_codeOfColumn, Cond.static yX2_codeOfColumn]
def wsL_writeShort_r2 : List Cond := [Cond.code yX2_codeOfColumn cX2_codeOfColumn 1 (some .int), Cond.methodLink RX2 131 yX2_widens, Cond.static yX2_widens, Cond.code yX2_widens cX2_widens 2 (some .boolean), Cond.methodLink RX2 44 yX2_holdsCells, Cond.static yX2_holdsCells, Cond.code yX2_holdsCells cX2_holdsCells 1 (some .boolean), Cond.methodLink RX2 72 yX2_note, Cond.instanceMethod yX2_note, Cond.selects RX2 yX2_note yX2_note, Cond.code yX2_note cX2_note 2 (some .int), Cond.fieldLink RX2 15 "TypedColumns" "counts" "[I", Cond.fieldLink RX2 30 "TypedColumns" "latestCode" "I", Cond.methodLink RX2 174 yX0_putWhole, Cond.instanceMethod yX0_putWhole, Cond.selects RX0 yX0_putWhole yX0_putWhole, Cond.initialized RX0, Cond.code yX0_putWhole cX0_putWhole 4 none, Cond.fieldLink RX0 16 "TypedColumns$Column" "kind" "I", Cond.fieldLink RX0 28 "TypedColumns$Column" "wholes" "[J", Cond.methodLink RX0 48 yX0_putReal, Cond.instanceMethod yX0_putReal, Cond.selects RX0 yX0_putReal yX0_putReal, Cond.code yX0_putReal cX0_putReal 4 none]
def wsL_writeShort_r3 : List Cond := [Cond.fieldLink RX0 32 "TypedColumns$Column" "reals" "[D"]
def wsL_writeShort : List Cond := .codeWith yL_writeShort cL_writeShort 6 (some .int) [(0, 12, 15, 21)] :: ((wsL_writeShort_r1 ++ (wsL_writeShort_r2 ++ wsL_writeShort_r3)) ++ wsX20 ++ wsX00 ++ (vx_atS RX2 143 "java/lang/IndexOutOfBoundsException" ["java/lang/RuntimeException", "java/lang/Exception"]).filter goodWord)
def wsL_writeInt_r1 : List Cond := [Cond.classLink RL 21 "java/lang/IndexOutOfBoundsException", Cond.methodLink RL 71 yX2_writeInt, Cond.instanceMethod yX2_writeInt, Cond.selects RX2 yX2_writeInt yX2_writeInt, Cond.initialized RX2, Cond.code yX2_writeInt cX2_writeInt 4 (some .int), Cond.methodLink RX2 62 yX2_columnAt, Cond.instanceMethod yX2_columnAt, Cond.selects RX2 yX2_columnAt yX2_columnAt, Cond.code yX2_columnAt cX2_columnAt 3 (some (.object "TypedColumns$Column")), Cond.classLink RX2 139 "java/lang/IndexOutOfBoundsException", Cond.initialized "java/lang/IndexOutOfBoundsException", Cond.fieldLink RX2 11 "TypedColumns" "columns" "[LTypedColumns$Column;", Cond.methodLink RX2 95 yX2_writeWhole, Cond.instanceMethod yX2_writeWhole, Cond.selects RX2 yX2_writeWhole yX2_writeWhole, Cond.code yX2_writeWhole cX2_writeWhole 7 (some .int), Cond.fieldLink RX2 66 "TypedColumns$Column" "kind" "I", Cond.methodLink RX2 83 yX2_codeOfCell, Cond.static yX2_codeOfCell, Cond.code yX2_codeOfCell cX2_codeOfCell 5 (some .int), Cond.fieldLink RX2 76 "TypedColumns$Column" "length" "I", Cond.methodLink RX2 69 yX2_codeOfColumn, Cond.static yX2_codeOfColumn]
def wsL_writeInt_r2 : List Cond := [Cond.code yX2_codeOfColumn cX2_codeOfColumn 1 (some .int), Cond.methodLink RX2 131 yX2_widens, Cond.static yX2_widens, Cond.code yX2_widens cX2_widens 2 (some .boolean), Cond.methodLink RX2 44 yX2_holdsCells, Cond.static yX2_holdsCells, Cond.code yX2_holdsCells cX2_holdsCells 1 (some .boolean), Cond.methodLink RX2 72 yX2_note, Cond.instanceMethod yX2_note, Cond.selects RX2 yX2_note yX2_note, Cond.code yX2_note cX2_note 2 (some .int), Cond.fieldLink RX2 15 "TypedColumns" "counts" "[I", Cond.fieldLink RX2 30 "TypedColumns" "latestCode" "I", Cond.methodLink RX2 174 yX0_putWhole, Cond.instanceMethod yX0_putWhole, Cond.selects RX0 yX0_putWhole yX0_putWhole, Cond.initialized RX0, Cond.code yX0_putWhole cX0_putWhole 4 none, Cond.fieldLink RX0 16 "TypedColumns$Column" "kind" "I", Cond.fieldLink RX0 28 "TypedColumns$Column" "wholes" "[J", Cond.methodLink RX0 48 yX0_putReal, Cond.instanceMethod yX0_putReal, Cond.selects RX0 yX0_putReal yX0_putReal, Cond.code yX0_putReal cX0_putReal 4 none]
def wsL_writeInt_r3 : List Cond := [Cond.fieldLink RX0 32 "TypedColumns$Column" "reals" "[D"]
def wsL_writeInt : List Cond := .codeWith yL_writeInt cL_writeInt 6 (some .int) [(0, 12, 15, 21)] :: ((wsL_writeInt_r1 ++ (wsL_writeInt_r2 ++ wsL_writeInt_r3)) ++ wsX20 ++ wsX00 ++ (vx_atS RX2 143 "java/lang/IndexOutOfBoundsException" ["java/lang/RuntimeException", "java/lang/Exception"]).filter goodWord)
def wsL_writeLong_r1 : List Cond := [Cond.classLink RL 21 "java/lang/IndexOutOfBoundsException", Cond.methodLink RL 74 yX2_writeLong, Cond.instanceMethod yX2_writeLong, Cond.selects RX2 yX2_writeLong yX2_writeLong, Cond.initialized RX2, Cond.code yX2_writeLong cX2_writeLong 5 (some .int), Cond.methodLink RX2 62 yX2_columnAt, Cond.instanceMethod yX2_columnAt, Cond.selects RX2 yX2_columnAt yX2_columnAt, Cond.code yX2_columnAt cX2_columnAt 3 (some (.object "TypedColumns$Column")), Cond.classLink RX2 139 "java/lang/IndexOutOfBoundsException", Cond.initialized "java/lang/IndexOutOfBoundsException", Cond.fieldLink RX2 11 "TypedColumns" "columns" "[LTypedColumns$Column;", Cond.methodLink RX2 95 yX2_writeWhole, Cond.instanceMethod yX2_writeWhole, Cond.selects RX2 yX2_writeWhole yX2_writeWhole, Cond.code yX2_writeWhole cX2_writeWhole 7 (some .int), Cond.fieldLink RX2 66 "TypedColumns$Column" "kind" "I", Cond.methodLink RX2 83 yX2_codeOfCell, Cond.static yX2_codeOfCell, Cond.code yX2_codeOfCell cX2_codeOfCell 5 (some .int), Cond.fieldLink RX2 76 "TypedColumns$Column" "length" "I", Cond.methodLink RX2 69 yX2_codeOfColumn, Cond.static yX2_codeOfColumn]
def wsL_writeLong_r2 : List Cond := [Cond.code yX2_codeOfColumn cX2_codeOfColumn 1 (some .int), Cond.methodLink RX2 131 yX2_widens, Cond.static yX2_widens, Cond.code yX2_widens cX2_widens 2 (some .boolean), Cond.methodLink RX2 44 yX2_holdsCells, Cond.static yX2_holdsCells, Cond.code yX2_holdsCells cX2_holdsCells 1 (some .boolean), Cond.methodLink RX2 72 yX2_note, Cond.instanceMethod yX2_note, Cond.selects RX2 yX2_note yX2_note, Cond.code yX2_note cX2_note 2 (some .int), Cond.fieldLink RX2 15 "TypedColumns" "counts" "[I", Cond.fieldLink RX2 30 "TypedColumns" "latestCode" "I", Cond.methodLink RX2 174 yX0_putWhole, Cond.instanceMethod yX0_putWhole, Cond.selects RX0 yX0_putWhole yX0_putWhole, Cond.initialized RX0, Cond.code yX0_putWhole cX0_putWhole 4 none, Cond.fieldLink RX0 16 "TypedColumns$Column" "kind" "I", Cond.fieldLink RX0 28 "TypedColumns$Column" "wholes" "[J", Cond.methodLink RX0 48 yX0_putReal, Cond.instanceMethod yX0_putReal, Cond.selects RX0 yX0_putReal yX0_putReal, Cond.code yX0_putReal cX0_putReal 4 none]
def wsL_writeLong_r3 : List Cond := [Cond.fieldLink RX0 32 "TypedColumns$Column" "reals" "[D"]
def wsL_writeLong : List Cond := .codeWith yL_writeLong cL_writeLong 7 (some .int) [(0, 12, 15, 21)] :: ((wsL_writeLong_r1 ++ (wsL_writeLong_r2 ++ wsL_writeLong_r3)) ++ wsX20 ++ wsX00 ++ (vx_atS RX2 143 "java/lang/IndexOutOfBoundsException" ["java/lang/RuntimeException", "java/lang/Exception"]).filter goodWord)
def wsL_writeFloat_r1 : List Cond := [Cond.classLink RL 21 "java/lang/IndexOutOfBoundsException", Cond.methodLink RL 78 yX2_writeFloat, Cond.instanceMethod yX2_writeFloat, Cond.selects RX2 yX2_writeFloat yX2_writeFloat, Cond.initialized RX2, Cond.code yX2_writeFloat cX2_writeFloat 4 (some .int), Cond.methodLink RX2 62 yX2_columnAt, Cond.instanceMethod yX2_columnAt, Cond.selects RX2 yX2_columnAt yX2_columnAt, Cond.code yX2_columnAt cX2_columnAt 3 (some (.object "TypedColumns$Column")), Cond.classLink RX2 139 "java/lang/IndexOutOfBoundsException", Cond.initialized "java/lang/IndexOutOfBoundsException", Cond.fieldLink RX2 11 "TypedColumns" "columns" "[LTypedColumns$Column;", Cond.methodLink RX2 99 yX2_doubleOf, Cond.static yX2_doubleOf, Cond.code yX2_doubleOf cX2_doubleOf 1 (some .double), Cond.methodLink RX2 185 yX2_noNumber, Cond.static yX2_noNumber, Cond.code yX2_noNumber cX2_noNumber 0 (some .double), Cond.constantDouble RX2 182 (9221120237041090560), Cond.methodLink RX2 103 yX2_writeReal, Cond.instanceMethod yX2_writeReal, Cond.selects RX2 yX2_writeReal yX2_writeReal, Cond.code yX2_writeReal cX2_writeReal 7 (some .int)]
def wsL_writeFloat_r2 : List Cond := [Cond.fieldLink RX2 66 "TypedColumns$Column" "kind" "I", Cond.methodLink RX2 83 yX2_codeOfCell, Cond.static yX2_codeOfCell, Cond.code yX2_codeOfCell cX2_codeOfCell 5 (some .int), Cond.fieldLink RX2 76 "TypedColumns$Column" "length" "I", Cond.methodLink RX2 69 yX2_codeOfColumn, Cond.static yX2_codeOfColumn, Cond.code yX2_codeOfColumn cX2_codeOfColumn 1 (some .int), Cond.methodLink RX2 131 yX2_widens, Cond.static yX2_widens, Cond.code yX2_widens cX2_widens 2 (some .boolean), Cond.methodLink RX2 44 yX2_holdsCells, Cond.static yX2_holdsCells, Cond.code yX2_holdsCells cX2_holdsCells 1 (some .boolean), Cond.methodLink RX2 72 yX2_note, Cond.instanceMethod yX2_note, Cond.selects RX2 yX2_note yX2_note, Cond.code yX2_note cX2_note 2 (some .int), Cond.fieldLink RX2 15 "TypedColumns" "counts" "[I", Cond.fieldLink RX2 30 "TypedColumns" "latestCode" "I", Cond.methodLink RX2 178 yX0_putReal, Cond.instanceMethod yX0_putReal, Cond.selects RX0 yX0_putReal yX0_putReal, Cond.initialized RX0]
def wsL_writeFloat_r3 : List Cond := [Cond.code yX0_putReal cX0_putReal 4 none, Cond.fieldLink RX0 32 "TypedColumns$Column" "reals" "[D"]
def wsL_writeFloat : List Cond := .codeWith yL_writeFloat cL_writeFloat 6 (some .int) [(0, 12, 15, 21)] :: ((wsL_writeFloat_r1 ++ (wsL_writeFloat_r2 ++ wsL_writeFloat_r3)) ++ wsX20 ++ wsX00 ++ (vx_atS RX2 143 "java/lang/IndexOutOfBoundsException" ["java/lang/RuntimeException", "java/lang/Exception"]).filter goodWord)
def wsL_writeDouble_r1 : List Cond := [Cond.classLink RL 21 "java/lang/IndexOutOfBoundsException", Cond.methodLink RL 82 yX2_writeDouble, Cond.instanceMethod yX2_writeDouble, Cond.selects RX2 yX2_writeDouble yX2_writeDouble, Cond.initialized RX2, Cond.code yX2_writeDouble cX2_writeDouble 5 (some .int), Cond.methodLink RX2 62 yX2_columnAt, Cond.instanceMethod yX2_columnAt, Cond.selects RX2 yX2_columnAt yX2_columnAt, Cond.code yX2_columnAt cX2_columnAt 3 (some (.object "TypedColumns$Column")), Cond.classLink RX2 139 "java/lang/IndexOutOfBoundsException", Cond.initialized "java/lang/IndexOutOfBoundsException", Cond.fieldLink RX2 11 "TypedColumns" "columns" "[LTypedColumns$Column;", Cond.methodLink RX2 103 yX2_writeReal, Cond.instanceMethod yX2_writeReal, Cond.selects RX2 yX2_writeReal yX2_writeReal, Cond.code yX2_writeReal cX2_writeReal 7 (some .int), Cond.fieldLink RX2 66 "TypedColumns$Column" "kind" "I", Cond.methodLink RX2 83 yX2_codeOfCell, Cond.static yX2_codeOfCell, Cond.code yX2_codeOfCell cX2_codeOfCell 5 (some .int), Cond.fieldLink RX2 76 "TypedColumns$Column" "length" "I", Cond.methodLink RX2 69 yX2_codeOfColumn, Cond.static yX2_codeOfColumn]
def wsL_writeDouble_r2 : List Cond := [Cond.code yX2_codeOfColumn cX2_codeOfColumn 1 (some .int), Cond.methodLink RX2 131 yX2_widens, Cond.static yX2_widens, Cond.code yX2_widens cX2_widens 2 (some .boolean), Cond.methodLink RX2 44 yX2_holdsCells, Cond.static yX2_holdsCells, Cond.code yX2_holdsCells cX2_holdsCells 1 (some .boolean), Cond.methodLink RX2 72 yX2_note, Cond.instanceMethod yX2_note, Cond.selects RX2 yX2_note yX2_note, Cond.code yX2_note cX2_note 2 (some .int), Cond.fieldLink RX2 15 "TypedColumns" "counts" "[I", Cond.fieldLink RX2 30 "TypedColumns" "latestCode" "I", Cond.methodLink RX2 178 yX0_putReal, Cond.instanceMethod yX0_putReal, Cond.selects RX0 yX0_putReal yX0_putReal, Cond.initialized RX0, Cond.code yX0_putReal cX0_putReal 4 none, Cond.fieldLink RX0 32 "TypedColumns$Column" "reals" "[D"]
def wsL_writeDouble : List Cond := .codeWith yL_writeDouble cL_writeDouble 7 (some .int) [(0, 12, 15, 21)] :: ((wsL_writeDouble_r1 ++ wsL_writeDouble_r2) ++ wsX20 ++ wsX00 ++ (vx_atS RX2 143 "java/lang/IndexOutOfBoundsException" ["java/lang/RuntimeException", "java/lang/Exception"]).filter goodWord)
def wsL_writeAny_r1 : List Cond := [Cond.classLink RL 21 "java/lang/IndexOutOfBoundsException", Cond.classLink RL 13 "java/lang/IllegalArgumentException", Cond.methodLink RL 86 yX2_writeAny, Cond.instanceMethod yX2_writeAny, Cond.selects RX2 yX2_writeAny yX2_writeAny, Cond.initialized RX2, Cond.code yX2_writeAny cX2_writeAny 6 (some .int), Cond.methodLink RX2 62 yX2_columnAt, Cond.instanceMethod yX2_columnAt, Cond.selects RX2 yX2_columnAt yX2_columnAt, Cond.code yX2_columnAt cX2_columnAt 3 (some (.object "TypedColumns$Column")), Cond.classLink RX2 139 "java/lang/IndexOutOfBoundsException", Cond.initialized "java/lang/IndexOutOfBoundsException", Cond.fieldLink RX2 11 "TypedColumns" "columns" "[LTypedColumns$Column;", Cond.methodLink RX2 107 yX2_refuseWithoutCells, Cond.static yX2_refuseWithoutCells, Cond.code yX2_refuseWithoutCells cX2_refuseWithoutCells 1 none, Cond.classLink RX2 37 "java/lang/IllegalArgumentException", Cond.initialized "java/lang/IllegalArgumentException", Cond.methodLink RX2 44 yX2_holdsCells, Cond.static yX2_holdsCells, Cond.code yX2_holdsCells cX2_holdsCells 1 (some .boolean), Cond.methodLink RX2 103 yX2_writeReal, Cond.instanceMethod yX2_writeReal]
def wsL_writeAny_r2 : List Cond := [Cond.selects RX2 yX2_writeReal yX2_writeReal, Cond.code yX2_writeReal cX2_writeReal 7 (some .int), Cond.fieldLink RX2 66 "TypedColumns$Column" "kind" "I", Cond.methodLink RX2 83 yX2_codeOfCell, Cond.static yX2_codeOfCell, Cond.code yX2_codeOfCell cX2_codeOfCell 5 (some .int), Cond.fieldLink RX2 76 "TypedColumns$Column" "length" "I", Cond.methodLink RX2 69 yX2_codeOfColumn, Cond.static yX2_codeOfColumn, Cond.code yX2_codeOfColumn cX2_codeOfColumn 1 (some .int), Cond.methodLink RX2 131 yX2_widens, Cond.static yX2_widens, Cond.code yX2_widens cX2_widens 2 (some .boolean), Cond.methodLink RX2 72 yX2_note, Cond.instanceMethod yX2_note, Cond.selects RX2 yX2_note yX2_note, Cond.code yX2_note cX2_note 2 (some .int), Cond.fieldLink RX2 15 "TypedColumns" "counts" "[I", Cond.fieldLink RX2 30 "TypedColumns" "latestCode" "I", Cond.methodLink RX2 178 yX0_putReal, Cond.instanceMethod yX0_putReal, Cond.selects RX0 yX0_putReal yX0_putReal, Cond.initialized RX0, Cond.code yX0_putReal cX0_putReal 4 none]
def wsL_writeAny_r3 : List Cond := [Cond.fieldLink RX0 32 "TypedColumns$Column" "reals" "[D", Cond.methodLink RX2 111 yX2_wholeMadeFrom, Cond.static yX2_wholeMadeFrom, Cond.code yX2_wholeMadeFrom cX2_wholeMadeFrom 2 (some .long), Cond.methodLink RX2 95 yX2_writeWhole, Cond.instanceMethod yX2_writeWhole, Cond.selects RX2 yX2_writeWhole yX2_writeWhole, Cond.code yX2_writeWhole cX2_writeWhole 7 (some .int), Cond.methodLink RX2 174 yX0_putWhole, Cond.instanceMethod yX0_putWhole, Cond.selects RX0 yX0_putWhole yX0_putWhole, Cond.code yX0_putWhole cX0_putWhole 4 none, Cond.fieldLink RX0 16 "TypedColumns$Column" "kind" "I", Cond.fieldLink RX0 28 "TypedColumns$Column" "wholes" "[J", Cond.methodLink RX0 48 yX0_putReal]
def wsL_writeAny : List Cond := .codeWith yL_writeAny cL_writeAny 7 (some .int) [(0, 14, 17, 21), (0, 14, 21, 13)] :: ((wsL_writeAny_r1 ++ (wsL_writeAny_r2 ++ wsL_writeAny_r3)) ++ wsX20 ++ wsX00 ++ (vx_atS RX2 143 "java/lang/IndexOutOfBoundsException" ["java/lang/RuntimeException", "java/lang/Exception"]).filter goodWord ++ (vx_atS RX2 41 "java/lang/IllegalArgumentException" ["java/lang/RuntimeException", "java/lang/Exception"]).filter goodWord)
def wsL_copy_r1 : List Cond := [Cond.classLink RL 21 "java/lang/IndexOutOfBoundsException", Cond.methodLink RL 90 yX2_copy, Cond.instanceMethod yX2_copy, Cond.selects RX2 yX2_copy yX2_copy, Cond.initialized RX2, Cond.code yX2_copy cX2_copy 9 (some .int), Cond.fieldLink RX2 76 "TypedColumns$Column" "length" "I", Cond.methodLink RX2 62 yX2_columnAt, Cond.instanceMethod yX2_columnAt, Cond.selects RX2 yX2_columnAt yX2_columnAt, Cond.code yX2_columnAt cX2_columnAt 3 (some (.object "TypedColumns$Column")), Cond.classLink RX2 139 "java/lang/IndexOutOfBoundsException", Cond.initialized "java/lang/IndexOutOfBoundsException", Cond.fieldLink RX2 11 "TypedColumns" "columns" "[LTypedColumns$Column;", Cond.methodLink RX2 115 yX2_codeOfKinds, Cond.static yX2_codeOfKinds, Cond.code yX2_codeOfKinds cX2_codeOfKinds 3 (some .int), Cond.fieldLink RX2 66 "TypedColumns$Column" "kind" "I", Cond.methodLink RX2 119 yX2_isPart, Cond.static yX2_isPart, Cond.code yX2_isPart cX2_isPart 3 (some .boolean), Cond.methodLink RX2 123 yX0_takeCells, Cond.instanceMethod yX0_takeCells, Cond.selects RX0 yX0_takeCells yX0_takeCells]
def wsL_copy_r2 : List Cond := [Cond.initialized RX0, Cond.code yX0_takeCells cX0_takeCells 5 none, Cond.fieldLink RX0 28 "TypedColumns$Column" "wholes" "[J", Cond.methodLink RX0 56 arraycopyName, Cond.native arraycopyName, Cond.static arraycopyName, Cond.initialized "java/lang/System", Cond.fieldLink RX0 32 "TypedColumns$Column" "reals" "[D", Cond.methodLink RX2 72 yX2_note, Cond.instanceMethod yX2_note, Cond.selects RX2 yX2_note yX2_note, Cond.code yX2_note cX2_note 2 (some .int), Cond.fieldLink RX2 15 "TypedColumns" "counts" "[I", Cond.fieldLink RX2 30 "TypedColumns" "latestCode" "I"]
def wsL_copy : List Cond := .codeWith yL_copy cL_copy 8 (some .int) [(0, 16, 19, 21)] :: ((wsL_copy_r1 ++ wsL_copy_r2) ++ wsX00 ++ wsX20 ++ (vx_atS RX2 143 "java/lang/IndexOutOfBoundsException" ["java/lang/RuntimeException", "java/lang/Exception"]).filter goodWord)
def wsL_total_r1 : List Cond := [Cond.classLink RL 21 "java/lang/IndexOutOfBoundsException", Cond.methodLink RL 94 yX2_total, Cond.instanceMethod yX2_total, Cond.selects RX2 yX2_total yX2_total, Cond.initialized RX2, Cond.code yX2_total cX2_total 4 (some .double), Cond.methodLink RX2 62 yX2_columnAt, Cond.instanceMethod yX2_columnAt, Cond.selects RX2 yX2_columnAt yX2_columnAt, Cond.code yX2_columnAt cX2_columnAt 3 (some (.object "TypedColumns$Column")), Cond.classLink RX2 139 "java/lang/IndexOutOfBoundsException", Cond.initialized "java/lang/IndexOutOfBoundsException", Cond.fieldLink RX2 11 "TypedColumns" "columns" "[LTypedColumns$Column;", Cond.methodLink RX2 69 yX2_codeOfColumn, Cond.static yX2_codeOfColumn, Cond.code yX2_codeOfColumn cX2_codeOfColumn 1 (some .int), Cond.fieldLink RX2 66 "TypedColumns$Column" "kind" "I", Cond.methodLink RX2 72 yX2_note, Cond.instanceMethod yX2_note, Cond.selects RX2 yX2_note yX2_note, Cond.code yX2_note cX2_note 2 (some .int), Cond.fieldLink RX2 15 "TypedColumns" "counts" "[I", Cond.fieldLink RX2 30 "TypedColumns" "latestCode" "I", Cond.methodLink RX2 127 yX0_sum]
def wsL_total_r2 : List Cond := [Cond.instanceMethod yX0_sum, Cond.selects RX0 yX0_sum yX0_sum, Cond.initialized RX0, Cond.code yX0_sum cX0_sum 4 (some .double), Cond.fieldLink RX0 22 "TypedColumns$Column" "length" "I", Cond.methodLink RX0 66 yX0_doubleAt, Cond.instanceMethod yX0_doubleAt, Cond.selects RX0 yX0_doubleAt yX0_doubleAt, Cond.code yX0_doubleAt cX0_doubleAt 2 (some .double), Cond.fieldLink RX0 16 "TypedColumns$Column" "kind" "I", Cond.static yX2_isFloating, Cond.code yX2_isFloating cX2_isFloating 1 (some .boolean), Cond.methodLink RX0 36 yX0_realAt, Cond.instanceMethod yX0_realAt, Cond.selects RX0 yX0_realAt yX0_realAt, Cond.code yX0_realAt cX0_realAt 2 (some .double), Cond.fieldLink RX0 32 "TypedColumns$Column" "reals" "[D", Cond.methodLink RX0 40 yX0_wholeAt, Cond.instanceMethod yX0_wholeAt, Cond.selects RX0 yX0_wholeAt yX0_wholeAt, Cond.code yX0_wholeAt cX0_wholeAt 2 (some .long), Cond.fieldLink RX0 28 "TypedColumns$Column" "wholes" "[J", Cond.static yX2_sumOf, Cond.code yX2_sumOf cX2_sumOf 4 (some .double)]
def wsL_total_r3 : List Cond := [Cond.methodLink RX2 196 yX2_isInfinite, Cond.static yX2_isInfinite, Cond.code yX2_isInfinite cX2_isInfinite 2 (some .boolean), Cond.constantDouble RX2 192 (9218868437227405311), Cond.constantDouble RX2 194 (18442240474082181119), Cond.methodLink RX2 185 yX2_noNumber, Cond.static yX2_noNumber, Cond.code yX2_noNumber cX2_noNumber 0 (some .double), Cond.constantDouble RX2 182 (9221120237041090560)]
def wsL_total : List Cond := .codeWith yL_total cL_total 4 (some .int) [(0, 8, 11, 21)] :: ((wsL_total_r1 ++ (wsL_total_r2 ++ wsL_total_r3)) ++ wsX20 ++ wsX00 ++ (vx_atS RX2 143 "java/lang/IndexOutOfBoundsException" ["java/lang/RuntimeException", "java/lang/Exception"]).filter goodWord)
def wsL_widened_r1 : List Cond := [Cond.classLink RL 21 "java/lang/IndexOutOfBoundsException", Cond.classLink RL 13 "java/lang/IllegalArgumentException", Cond.classLink RL 15 "java/lang/IllegalStateException", Cond.methodLink RL 98 yX2_widened, Cond.instanceMethod yX2_widened, Cond.selects RX2 yX2_widened yX2_widened, Cond.initialized RX2, Cond.code yX2_widened cX2_widened 6 (some .int), Cond.fieldLink RX2 66 "TypedColumns$Column" "kind" "I", Cond.classLink RX2 9 RX0, Cond.instantiable RX0 4, Cond.initialized RX0, Cond.fieldLink RX2 76 "TypedColumns$Column" "length" "I", Cond.methodLink RX2 62 yX2_columnAt, Cond.instanceMethod yX2_columnAt, Cond.selects RX2 yX2_columnAt yX2_columnAt, Cond.code yX2_columnAt cX2_columnAt 3 (some (.object "TypedColumns$Column")), Cond.classLink RX2 139 "java/lang/IndexOutOfBoundsException", Cond.initialized "java/lang/IndexOutOfBoundsException", Cond.fieldLink RX2 11 "TypedColumns" "columns" "[LTypedColumns$Column;", Cond.methodLink RX2 107 yX2_refuseWithoutCells, Cond.static yX2_refuseWithoutCells, Cond.code yX2_refuseWithoutCells cX2_refuseWithoutCells 1 none, Cond.classLink RX2 37 "java/lang/IllegalArgumentException"]
def wsL_widened_r2 : List Cond := [Cond.initialized "java/lang/IllegalArgumentException", Cond.methodLink RX2 44 yX2_holdsCells, Cond.static yX2_holdsCells, Cond.code yX2_holdsCells cX2_holdsCells 1 (some .boolean), Cond.methodLink RX2 52 yX2_refuseWhenFull, Cond.instanceMethod yX2_refuseWhenFull, Cond.selects RX2 yX2_refuseWhenFull yX2_refuseWhenFull, Cond.code yX2_refuseWhenFull cX2_refuseWhenFull 1 none, Cond.classLink RX2 159 "java/lang/IllegalStateException", Cond.initialized "java/lang/IllegalStateException", Cond.fieldLink RX2 26 "TypedColumns" "created" "I", Cond.methodLink RX2 69 yX2_codeOfColumn, Cond.static yX2_codeOfColumn, Cond.code yX2_codeOfColumn cX2_codeOfColumn 1 (some .int), Cond.methodLink RX2 131 yX2_widens, Cond.static yX2_widens, Cond.code yX2_widens cX2_widens 2 (some .boolean), Cond.methodLink RX2 72 yX2_note, Cond.instanceMethod yX2_note, Cond.selects RX2 yX2_note yX2_note, Cond.code yX2_note cX2_note 2 (some .int), Cond.fieldLink RX2 15 "TypedColumns" "counts" "[I", Cond.fieldLink RX2 30 "TypedColumns" "latestCode" "I", Cond.methodLink RX2 55 yX0_init]
def wsL_widened_r3 : List Cond := [Cond.instanceMethod yX0_init, Cond.code yX0_init cX0_init 4 none, Cond.methodLink RX0 3 objectInit, Cond.instanceMethod objectInit, Cond.code objectInit ⟨#[0xb1]⟩ 1 none, Cond.fieldLink RX0 16 "TypedColumns$Column" "kind" "I", Cond.fieldLink RX0 22 "TypedColumns$Column" "length" "I", Cond.arrayClass .long, Cond.fieldLink RX0 28 "TypedColumns$Column" "wholes" "[J", Cond.arrayClass .double, Cond.fieldLink RX0 32 "TypedColumns$Column" "reals" "[D", Cond.static yX2_isLength, Cond.code yX2_isLength cX2_isLength 1 (some .boolean), Cond.static yX2_isFloating, Cond.code yX2_isFloating cX2_isFloating 1 (some .boolean), Cond.methodLink RX2 135 yX0_takeWidened, Cond.instanceMethod yX0_takeWidened, Cond.selects RX0 yX0_takeWidened yX0_takeWidened, Cond.code yX0_takeWidened cX0_takeWidened 3 none, Cond.methodLink RX0 36 yX0_realAt, Cond.instanceMethod yX0_realAt, Cond.selects RX0 yX0_realAt yX0_realAt, Cond.code yX0_realAt cX0_realAt 2 (some .double), Cond.methodLink RX0 48 yX0_putReal]
def wsL_widened_r4 : List Cond := [Cond.instanceMethod yX0_putReal, Cond.selects RX0 yX0_putReal yX0_putReal, Cond.code yX0_putReal cX0_putReal 4 none, Cond.methodLink RX0 40 yX0_wholeAt, Cond.instanceMethod yX0_wholeAt, Cond.selects RX0 yX0_wholeAt yX0_wholeAt, Cond.code yX0_wholeAt cX0_wholeAt 2 (some .long), Cond.methodLink RX0 62 yX0_putWhole, Cond.instanceMethod yX0_putWhole, Cond.selects RX0 yX0_putWhole yX0_putWhole, Cond.code yX0_putWhole cX0_putWhole 4 none, Cond.methodLink RX2 58 yX2_addColumn, Cond.instanceMethod yX2_addColumn, Cond.selects RX2 yX2_addColumn yX2_addColumn, Cond.code yX2_addColumn cX2_addColumn 3 (some .int)]
def wsL_widened : List Cond := .codeWith yL_widened cL_widened 5 (some .int) [(0, 10, 13, 21), (0, 10, 17, 13), (0, 10, 21, 15)] :: ((wsL_widened_r1 ++ (wsL_widened_r2 ++ (wsL_widened_r3 ++ wsL_widened_r4))) ++ wsX00 ++ wsX20 ++ (vx_atS RX2 143 "java/lang/IndexOutOfBoundsException" ["java/lang/RuntimeException", "java/lang/Exception"]).filter goodWord ++ (vx_atS RX2 41 "java/lang/IllegalArgumentException" ["java/lang/RuntimeException", "java/lang/Exception"]).filter goodWord ++ (vx_atS RX2 163 "java/lang/IllegalStateException" ["java/lang/RuntimeException", "java/lang/Exception"]).filter goodWord)
def wsL_count : List Cond := .codeWith yL_count cL_count 4 (some .int) [(0, 9, 12, 21)] :: ([.classLink RL 21 "java/lang/IndexOutOfBoundsException", .methodLink RL 101 yX2_count, .instanceMethod yX2_count, .selects RX2 yX2_count yX2_count, .initialized RX2, .code yX2_count cX2_count 2 (some .int), .classLink RX2 139 "java/lang/IndexOutOfBoundsException", .initialized "java/lang/IndexOutOfBoundsException", .fieldLink RX2 15 "TypedColumns" "counts" "[I"] ++ wsX20 ++ (vx_atS RX2 143 "java/lang/IndexOutOfBoundsException" ["java/lang/RuntimeException", "java/lang/Exception"]).filter goodWord)
def wsL_hasCells : List Cond := .codeWith yL_hasCells cL_hasCells 4 (some .int) [(0, 16, 19, 21)] :: ([.classLink RL 21 "java/lang/IndexOutOfBoundsException", .methodLink RL 104 yX2_hasCells, .instanceMethod yX2_hasCells, .selects RX2 yX2_hasCells yX2_hasCells, .initialized RX2, .code yX2_hasCells cX2_hasCells 2 (some .boolean), .methodLink RX2 144 yX2_refuseNoKind, .static yX2_refuseNoKind, .code yX2_refuseNoKind cX2_refuseNoKind 1 none, .classLink RX2 139 "java/lang/IndexOutOfBoundsException", .initialized "java/lang/IndexOutOfBoundsException", .methodLink RX2 33 yX2_isKind, .static yX2_isKind, .code yX2_isKind cX2_isKind 1 (some .boolean), .methodLink RX2 44 yX2_holdsCells, .static yX2_holdsCells, .code yX2_holdsCells cX2_holdsCells 1 (some .boolean)] ++ (vx_atS RX2 143 "java/lang/IndexOutOfBoundsException" ["java/lang/RuntimeException", "java/lang/Exception"]).filter goodWord)
def wsL_isNumber : List Cond := .codeWith yL_isNumber cL_isNumber 4 (some .int) [(0, 16, 19, 21)] :: ([.classLink RL 21 "java/lang/IndexOutOfBoundsException", .methodLink RL 108 yX2_isNumber, .instanceMethod yX2_isNumber, .selects RX2 yX2_isNumber yX2_isNumber, .initialized RX2, .code yX2_isNumber cX2_isNumber 2 (some .boolean), .methodLink RX2 144 yX2_refuseNoKind, .static yX2_refuseNoKind, .code yX2_refuseNoKind cX2_refuseNoKind 1 none, .classLink RX2 139 "java/lang/IndexOutOfBoundsException", .initialized "java/lang/IndexOutOfBoundsException", .methodLink RX2 33 yX2_isKind, .static yX2_isKind, .code yX2_isKind cX2_isKind 1 (some .boolean)] ++ (vx_atS RX2 143 "java/lang/IndexOutOfBoundsException" ["java/lang/RuntimeException", "java/lang/Exception"]).filter goodWord)
def wsL_canWiden : List Cond := .codeWith yL_canWiden cL_canWiden 5 (some .int) [(0, 17, 20, 21)] :: ([.classLink RL 21 "java/lang/IndexOutOfBoundsException", .methodLink RL 111 yX2_canWiden, .instanceMethod yX2_canWiden, .selects RX2 yX2_canWiden yX2_canWiden, .initialized RX2, .code yX2_canWiden cX2_canWiden 3 (some .boolean), .methodLink RX2 144 yX2_refuseNoKind, .static yX2_refuseNoKind, .code yX2_refuseNoKind cX2_refuseNoKind 1 none, .classLink RX2 139 "java/lang/IndexOutOfBoundsException", .initialized "java/lang/IndexOutOfBoundsException", .methodLink RX2 33 yX2_isKind, .static yX2_isKind, .code yX2_isKind cX2_isKind 1 (some .boolean), .methodLink RX2 131 yX2_widens, .static yX2_widens, .code yX2_widens cX2_widens 2 (some .boolean), .methodLink RX2 44 yX2_holdsCells, .static yX2_holdsCells, .code yX2_holdsCells cX2_holdsCells 1 (some .boolean)] ++ (vx_atS RX2 143 "java/lang/IndexOutOfBoundsException" ["java/lang/RuntimeException", "java/lang/Exception"]).filter goodWord)
def wsL_law0_r1 : List Cond := [Cond.classLink RL 8 RX2, Cond.instantiable RX2 5, Cond.initialized RX2, Cond.classLink RL 115 RX3, Cond.instantiable RX3 8, Cond.initialized RX3, Cond.arrayClass .long, Cond.arrayClass .double, Cond.constantLong RL 184 (4294967295), Cond.constantFloat RL 190 (1040187392), Cond.constantDouble RL 195 (4593671619917905920), Cond.methodLink RL 114 yX2_init, Cond.instanceMethod yX2_init, Cond.code yX2_init cX2_init 1 none, Cond.methodLink RX2 1 objectInit, Cond.instanceMethod objectInit, Cond.code objectInit ⟨#[0xb1]⟩ 1 none, Cond.classLink RX2 9 RX0, Cond.fieldLink RX2 11 "TypedColumns" "columns" "[LTypedColumns$Column;", Cond.arrayClass .int, Cond.fieldLink RX2 15 "TypedColumns" "counts" "[I", Cond.classLink RX2 19 RX1, Cond.instantiable RX1 1, Cond.initialized RX1]
def wsL_law0_r2 : List Cond := [Cond.fieldLink RX2 22 "TypedColumns" "doubleBits" "LTypedColumns$DoubleBits;", Cond.fieldLink RX2 26 "TypedColumns" "created" "I", Cond.fieldLink RX2 30 "TypedColumns" "latestCode" "I", Cond.methodLink RX2 21 yX1_init, Cond.instanceMethod yX1_init, Cond.code yX1_init cX1_init 4 none, Cond.methodLink RX1 1 objectInit, Cond.fieldLink RX1 9 "TypedColumns$DoubleBits" "powers" "[D", Cond.constantDouble RX1 13 (4611686018427387904), Cond.methodLink RL 117 yX3_init, Cond.instanceMethod yX3_init, Cond.code yX3_init cX3_init 1 none, Cond.methodLink RX3 1 objectInit, Cond.fieldLink RX3 9 "TypedColumnsModel" "kinds" "[I", Cond.fieldLink RX3 13 "TypedColumnsModel" "lengths" "[I", Cond.fieldLink RX3 16 "TypedColumnsModel" "whole" "[J", Cond.fieldLink RX3 20 "TypedColumnsModel" "real" "[D", Cond.fieldLink RX3 24 "TypedColumnsModel" "counts" "[I", Cond.methodLink RL 118 yL_create, Cond.static yL_create, Cond.initialized RL, Cond.codeWith yL_create cL_create 5 (some .int) [(0, 10, 13, 13), (0, 10, 17, 15)], Cond.classLink RL 13 "java/lang/IllegalArgumentException", Cond.classLink RL 15 "java/lang/IllegalStateException"]
def wsL_law0_r3 : List Cond := [Cond.methodLink RL 7 yX2_create, Cond.instanceMethod yX2_create, Cond.selects RX2 yX2_create yX2_create, Cond.code yX2_create cX2_create 3 (some .int), Cond.classLink RX2 37 "java/lang/IllegalArgumentException", Cond.initialized "java/lang/IllegalArgumentException", Cond.instantiable RX0 4, Cond.initialized RX0, Cond.methodLink RX2 33 yX2_isKind, Cond.static yX2_isKind, Cond.code yX2_isKind cX2_isKind 1 (some .boolean), Cond.methodLink RX2 44 yX2_holdsCells, Cond.static yX2_holdsCells, Cond.code yX2_holdsCells cX2_holdsCells 1 (some .boolean), Cond.methodLink RX2 47 yX2_isLength, Cond.static yX2_isLength, Cond.code yX2_isLength cX2_isLength 1 (some .boolean), Cond.methodLink RX2 52 yX2_refuseWhenFull, Cond.instanceMethod yX2_refuseWhenFull, Cond.selects RX2 yX2_refuseWhenFull yX2_refuseWhenFull, Cond.code yX2_refuseWhenFull cX2_refuseWhenFull 1 none, Cond.classLink RX2 159 "java/lang/IllegalStateException", Cond.initialized "java/lang/IllegalStateException", Cond.methodLink RX2 55 yX0_init]
def wsL_law0_r4 : List Cond := [Cond.instanceMethod yX0_init, Cond.code yX0_init cX0_init 4 none, Cond.methodLink RX0 3 objectInit, Cond.fieldLink RX0 16 "TypedColumns$Column" "kind" "I", Cond.fieldLink RX0 22 "TypedColumns$Column" "length" "I", Cond.fieldLink RX0 28 "TypedColumns$Column" "wholes" "[J", Cond.fieldLink RX0 32 "TypedColumns$Column" "reals" "[D", Cond.static yX2_isFloating, Cond.code yX2_isFloating cX2_isFloating 1 (some .boolean), Cond.methodLink RX2 58 yX2_addColumn, Cond.instanceMethod yX2_addColumn, Cond.selects RX2 yX2_addColumn yX2_addColumn, Cond.code yX2_addColumn cX2_addColumn 3 (some .int), Cond.methodLink RL 123 yX3_create, Cond.instanceMethod yX3_create, Cond.selects RX3 yX3_create yX3_create, Cond.code yX3_create cX3_create 4 (some .int), Cond.fieldLink RX3 27 "TypedColumnsModel" "thrown" "I", Cond.fieldLink RX3 31 "TypedColumnsModel" "columns" "I", Cond.methodLink RX3 34 yX3_has, Cond.static yX3_has, Cond.code yX3_has cX3_has 1 (some .boolean), Cond.methodLink RX3 45 yX3_fail, Cond.instanceMethod yX3_fail]
def wsL_law0_r5 : List Cond := [Cond.selects RX3 yX3_fail yX3_fail, Cond.code yX3_fail cX3_fail 2 (some .int), Cond.methodLink RX3 48 yX3_at, Cond.static yX3_at, Cond.code yX3_at cX3_at 2 (some .int), Cond.methodLink RL 124 yX3_thrown, Cond.instanceMethod yX3_thrown, Cond.selects RX3 yX3_thrown yX3_thrown, Cond.code yX3_thrown cX3_thrown 1 (some .int), Cond.methodLink RL 128 yX2_columnCount, Cond.instanceMethod yX2_columnCount, Cond.selects RX2 yX2_columnCount yX2_columnCount, Cond.code yX2_columnCount cX2_columnCount 1 (some .int), Cond.methodLink RL 131 yX3_columnCount, Cond.instanceMethod yX3_columnCount, Cond.selects RX3 yX3_columnCount yX3_columnCount, Cond.code yX3_columnCount cX3_columnCount 1 (some .int), Cond.methodLink RL 132 yL_kind, Cond.static yL_kind, Cond.codeWith yL_kind cL_kind 4 (some .int) [(0, 9, 12, 21)], Cond.classLink RL 21 "java/lang/IndexOutOfBoundsException", Cond.methodLink RL 17 yX2_kind, Cond.instanceMethod yX2_kind, Cond.selects RX2 yX2_kind yX2_kind]
def wsL_law0_r6 : List Cond := [Cond.code yX2_kind cX2_kind 2 (some .int), Cond.fieldLink RX2 66 "TypedColumns$Column" "kind" "I", Cond.methodLink RX2 62 yX2_columnAt, Cond.instanceMethod yX2_columnAt, Cond.selects RX2 yX2_columnAt yX2_columnAt, Cond.code yX2_columnAt cX2_columnAt 3 (some (.object "TypedColumns$Column")), Cond.classLink RX2 139 "java/lang/IndexOutOfBoundsException", Cond.initialized "java/lang/IndexOutOfBoundsException", Cond.methodLink RL 135 yX3_kind, Cond.instanceMethod yX3_kind, Cond.selects RX3 yX3_kind yX3_kind, Cond.code yX3_kind cX3_kind 2 (some .int), Cond.methodLink RX3 52 yX3_isColumn, Cond.instanceMethod yX3_isColumn, Cond.selects RX3 yX3_isColumn yX3_isColumn, Cond.code yX3_isColumn cX3_isColumn 2 (some .boolean), Cond.methodLink RL 136 yL_length, Cond.static yL_length, Cond.codeWith yL_length cL_length 4 (some .int) [(0, 9, 12, 21)], Cond.methodLink RL 23 yX2_length, Cond.instanceMethod yX2_length, Cond.selects RX2 yX2_length yX2_length, Cond.code yX2_length cX2_length 3 (some .int), Cond.fieldLink RX2 76 "TypedColumns$Column" "length" "I"]
def wsL_law0_r7 : List Cond := [Cond.methodLink RX2 69 yX2_codeOfColumn, Cond.static yX2_codeOfColumn, Cond.code yX2_codeOfColumn cX2_codeOfColumn 1 (some .int), Cond.methodLink RX2 72 yX2_note, Cond.instanceMethod yX2_note, Cond.selects RX2 yX2_note yX2_note, Cond.code yX2_note cX2_note 2 (some .int), Cond.methodLink RL 138 yX3_length, Cond.instanceMethod yX3_length, Cond.selects RX3 yX3_length yX3_length, Cond.code yX3_length cX3_length 2 (some .int), Cond.methodLink RX3 41 yX3_codeOf, Cond.instanceMethod yX3_codeOf, Cond.selects RX3 yX3_codeOf yX3_codeOf, Cond.code yX3_codeOf cX3_codeOf 2 (some .int), Cond.methodLink RX3 55 yX3_note, Cond.instanceMethod yX3_note, Cond.selects RX3 yX3_note yX3_note, Cond.code yX3_note cX3_note 2 (some .boolean), Cond.fieldLink RX3 38 "TypedColumnsModel" "code" "I", Cond.methodLink RL 139 yL_readBoolean, Cond.static yL_readBoolean, Cond.codeWith yL_readBoolean cL_readBoolean 5 (some .int) [(0, 17, 20, 21)], Cond.methodLink RL 26 yX2_readBoolean]
def wsL_law0_r8 : List Cond := [Cond.instanceMethod yX2_readBoolean, Cond.selects RX2 yX2_readBoolean yX2_readBoolean, Cond.code yX2_readBoolean cX2_readBoolean 3 (some .boolean), Cond.methodLink RX2 79 yX2_readWhole, Cond.instanceMethod yX2_readWhole, Cond.selects RX2 yX2_readWhole yX2_readWhole, Cond.code yX2_readWhole cX2_readWhole 5 (some .long), Cond.methodLink RX2 83 yX2_codeOfCell, Cond.static yX2_codeOfCell, Cond.code yX2_codeOfCell cX2_codeOfCell 5 (some .int), Cond.methodLink RX2 131 yX2_widens, Cond.static yX2_widens, Cond.code yX2_widens cX2_widens 2 (some .boolean), Cond.methodLink RX2 166 yX0_wholeAt, Cond.instanceMethod yX0_wholeAt, Cond.selects RX0 yX0_wholeAt yX0_wholeAt, Cond.code yX0_wholeAt cX0_wholeAt 2 (some .long), Cond.methodLink RL 141 yX3_readBoolean, Cond.instanceMethod yX3_readBoolean, Cond.selects RX3 yX3_readBoolean yX3_readBoolean, Cond.code yX3_readBoolean cX3_readBoolean 3 (some .boolean), Cond.methodLink RX3 64 yX3_reads, Cond.instanceMethod yX3_reads, Cond.selects RX3 yX3_reads yX3_reads]
def wsL_law0_r9 : List Cond := [Cond.code yX3_reads cX3_reads 5 (some .boolean), Cond.methodLink RX3 58 yX3_codeOf_, Cond.instanceMethod yX3_codeOf_, Cond.selects RX3 yX3_codeOf_ yX3_codeOf_, Cond.code yX3_codeOf_ cX3_codeOf_ 3 (some .int), Cond.methodLink RX3 60 yX3_widens, Cond.static yX3_widens, Cond.code yX3_widens cX3_widens 2 (some .boolean), Cond.methodLink RL 142 yL_readByte, Cond.static yL_readByte, Cond.codeWith yL_readByte cL_readByte 5 (some .int) [(0, 10, 13, 21)], Cond.methodLink RL 30 yX2_readByte, Cond.instanceMethod yX2_readByte, Cond.selects RX2 yX2_readByte yX2_readByte, Cond.code yX2_readByte cX2_readByte 3 (some .int), Cond.methodLink RL 144 yX3_readByte, Cond.instanceMethod yX3_readByte, Cond.selects RX3 yX3_readByte yX3_readByte, Cond.code yX3_readByte cX3_readByte 3 (some .int), Cond.methodLink RL 145 yL_readChar, Cond.static yL_readChar, Cond.codeWith yL_readChar cL_readChar 5 (some .int) [(0, 10, 13, 21)], Cond.methodLink RL 33 yX2_readChar, Cond.instanceMethod yX2_readChar]
def wsL_law0_r10 : List Cond := [Cond.selects RX2 yX2_readChar yX2_readChar, Cond.code yX2_readChar cX2_readChar 3 (some .int), Cond.methodLink RL 147 yX3_readChar, Cond.instanceMethod yX3_readChar, Cond.selects RX3 yX3_readChar yX3_readChar, Cond.code yX3_readChar cX3_readChar 3 (some .int), Cond.methodLink RL 148 yL_readShort, Cond.static yL_readShort, Cond.codeWith yL_readShort cL_readShort 5 (some .int) [(0, 10, 13, 21)], Cond.methodLink RL 36 yX2_readShort, Cond.instanceMethod yX2_readShort, Cond.selects RX2 yX2_readShort yX2_readShort, Cond.code yX2_readShort cX2_readShort 3 (some .int), Cond.methodLink RL 150 yX3_readShort, Cond.instanceMethod yX3_readShort, Cond.selects RX3 yX3_readShort yX3_readShort, Cond.code yX3_readShort cX3_readShort 3 (some .int), Cond.methodLink RL 151 yL_readInt, Cond.static yL_readInt, Cond.codeWith yL_readInt cL_readInt 5 (some .int) [(0, 10, 13, 21)], Cond.methodLink RL 39 yX2_readInt, Cond.instanceMethod yX2_readInt, Cond.selects RX2 yX2_readInt yX2_readInt, Cond.code yX2_readInt cX2_readInt 3 (some .int)]
def wsL_law0_r11 : List Cond := [Cond.methodLink RL 153 yX3_readInt, Cond.instanceMethod yX3_readInt, Cond.selects RX3 yX3_readInt yX3_readInt, Cond.code yX3_readInt cX3_readInt 3 (some .int), Cond.methodLink RL 154 yL_readLong, Cond.static yL_readLong, Cond.codeWith yL_readLong cL_readLong 5 (some .int) [(0, 9, 12, 21)], Cond.methodLink RL 42 yX2_readLong, Cond.instanceMethod yX2_readLong, Cond.selects RX2 yX2_readLong yX2_readLong, Cond.code yX2_readLong cX2_readLong 3 (some .long), Cond.methodLink RL 156 yX3_readLong, Cond.instanceMethod yX3_readLong, Cond.selects RX3 yX3_readLong yX3_readLong, Cond.code yX3_readLong cX3_readLong 3 (some .long), Cond.methodLink RL 157 yL_readFloat, Cond.static yL_readFloat, Cond.codeWith yL_readFloat cL_readFloat 5 (some .int) [(0, 10, 13, 21)], Cond.methodLink RL 46 yX2_readFloat, Cond.instanceMethod yX2_readFloat, Cond.selects RX2 yX2_readFloat yX2_readFloat, Cond.code yX2_readFloat cX2_readFloat 5 (some .float), Cond.methodLink RX2 87 yX0_floatAt, Cond.instanceMethod yX0_floatAt]
def wsL_law0_r12 : List Cond := [Cond.selects RX0 yX0_floatAt yX0_floatAt, Cond.code yX0_floatAt cX0_floatAt 2 (some .float), Cond.methodLink RX0 36 yX0_realAt, Cond.instanceMethod yX0_realAt, Cond.selects RX0 yX0_realAt yX0_realAt, Cond.code yX0_realAt cX0_realAt 2 (some .double), Cond.static yX2_floatOf, Cond.code yX2_floatOf cX2_floatOf 2 (some .float), Cond.methodLink RX2 188 yX2_noFloatNumber, Cond.static yX2_noFloatNumber, Cond.code yX2_noFloatNumber cX2_noFloatNumber 0 (some .float), Cond.constantFloat RX2 184 (2143289344), Cond.methodLink RX0 40 yX0_wholeAt, Cond.methodLink RL 160 yX3_readFloat, Cond.instanceMethod yX3_readFloat, Cond.selects RX3 yX3_readFloat yX3_readFloat, Cond.code yX3_readFloat cX3_readFloat 3 (some .float), Cond.methodLink RX3 68 yX3_isReal, Cond.static yX3_isReal, Cond.code yX3_isReal cX3_isReal 1 (some .boolean), Cond.methodLink RL 161 yL_readDouble, Cond.static yL_readDouble, Cond.codeWith yL_readDouble cL_readDouble 5 (some .int) [(0, 9, 12, 21)], Cond.methodLink RL 50 yX2_readDouble]
def wsL_law0_r13 : List Cond := [Cond.instanceMethod yX2_readDouble, Cond.selects RX2 yX2_readDouble yX2_readDouble, Cond.code yX2_readDouble cX2_readDouble 3 (some .double), Cond.methodLink RX2 91 yX2_readReal, Cond.instanceMethod yX2_readReal, Cond.selects RX2 yX2_readReal yX2_readReal, Cond.code yX2_readReal cX2_readReal 5 (some .double), Cond.methodLink RX2 170 yX0_doubleAt, Cond.instanceMethod yX0_doubleAt, Cond.selects RX0 yX0_doubleAt yX0_doubleAt, Cond.code yX0_doubleAt cX0_doubleAt 2 (some .double), Cond.methodLink RL 163 yX3_readDouble, Cond.instanceMethod yX3_readDouble, Cond.selects RX3 yX3_readDouble yX3_readDouble, Cond.code yX3_readDouble cX3_readDouble 3 (some .double), Cond.methodLink RX3 71 yX3_asDouble, Cond.instanceMethod yX3_asDouble, Cond.selects RX3 yX3_asDouble yX3_asDouble, Cond.code yX3_asDouble cX3_asDouble 3 (some .double), Cond.methodLink RL 164 yL_readAny, Cond.static yL_readAny, Cond.codeWith yL_readAny cL_readAny 5 (some .int) [(0, 9, 12, 21)], Cond.methodLink RL 54 yX2_readAny, Cond.instanceMethod yX2_readAny]
def wsL_law0_r14 : List Cond := [Cond.selects RX2 yX2_readAny yX2_readAny, Cond.code yX2_readAny cX2_readAny 4 (some .double), Cond.methodLink RL 166 yX3_readAny, Cond.instanceMethod yX3_readAny, Cond.selects RX3 yX3_readAny yX3_readAny, Cond.code yX3_readAny cX3_readAny 3 (some .double), Cond.methodLink RL 167 yL_writeBoolean, Cond.static yL_writeBoolean, Cond.codeWith yL_writeBoolean cL_writeBoolean 6 (some .int) [(0, 12, 15, 21)], Cond.methodLink RL 57 yX2_writeBoolean, Cond.instanceMethod yX2_writeBoolean, Cond.selects RX2 yX2_writeBoolean yX2_writeBoolean, Cond.code yX2_writeBoolean cX2_writeBoolean 4 (some .int), Cond.methodLink RX2 95 yX2_writeWhole, Cond.instanceMethod yX2_writeWhole, Cond.selects RX2 yX2_writeWhole yX2_writeWhole, Cond.code yX2_writeWhole cX2_writeWhole 7 (some .int), Cond.methodLink RX2 174 yX0_putWhole, Cond.instanceMethod yX0_putWhole, Cond.selects RX0 yX0_putWhole yX0_putWhole, Cond.code yX0_putWhole cX0_putWhole 4 none, Cond.methodLink RX0 48 yX0_putReal, Cond.instanceMethod yX0_putReal, Cond.selects RX0 yX0_putReal yX0_putReal]
def wsL_law0_r15 : List Cond := [Cond.code yX0_putReal cX0_putReal 4 none, Cond.methodLink RL 170 yX3_writeBoolean, Cond.instanceMethod yX3_writeBoolean, Cond.selects RX3 yX3_writeBoolean yX3_writeBoolean, Cond.code yX3_writeBoolean cX3_writeBoolean 4 (some .int), Cond.methodLink RX3 75 yX3_write, Cond.instanceMethod yX3_write, Cond.selects RX3 yX3_write yX3_write, Cond.code yX3_write cX3_write 9 (some .int), Cond.methodLink RL 171 yL_writeByte, Cond.static yL_writeByte, Cond.codeWith yL_writeByte cL_writeByte 6 (some .int) [(0, 12, 15, 21)], Cond.methodLink RL 61 yX2_writeByte, Cond.instanceMethod yX2_writeByte, Cond.selects RX2 yX2_writeByte yX2_writeByte, Cond.code yX2_writeByte cX2_writeByte 4 (some .int), Cond.methodLink RL 174 yX3_writeByte, Cond.instanceMethod yX3_writeByte, Cond.selects RX3 yX3_writeByte yX3_writeByte, Cond.code yX3_writeByte cX3_writeByte 4 (some .int), Cond.methodLink RL 175 yL_writeChar, Cond.static yL_writeChar, Cond.codeWith yL_writeChar cL_writeChar 6 (some .int) [(0, 12, 15, 21)], Cond.methodLink RL 65 yX2_writeChar]
def wsL_law0_r16 : List Cond := [Cond.instanceMethod yX2_writeChar, Cond.selects RX2 yX2_writeChar yX2_writeChar, Cond.code yX2_writeChar cX2_writeChar 4 (some .int), Cond.methodLink RL 177 yX3_writeChar, Cond.instanceMethod yX3_writeChar, Cond.selects RX3 yX3_writeChar yX3_writeChar, Cond.code yX3_writeChar cX3_writeChar 4 (some .int), Cond.constant RX3 79 (65535), Cond.methodLink RL 178 yL_writeShort, Cond.static yL_writeShort, Cond.codeWith yL_writeShort cL_writeShort 6 (some .int) [(0, 12, 15, 21)], Cond.methodLink RL 68 yX2_writeShort, Cond.instanceMethod yX2_writeShort, Cond.selects RX2 yX2_writeShort yX2_writeShort, Cond.code yX2_writeShort cX2_writeShort 4 (some .int), Cond.methodLink RL 180 yX3_writeShort, Cond.instanceMethod yX3_writeShort, Cond.selects RX3 yX3_writeShort yX3_writeShort, Cond.code yX3_writeShort cX3_writeShort 4 (some .int), Cond.methodLink RL 181 yL_writeInt, Cond.static yL_writeInt, Cond.codeWith yL_writeInt cL_writeInt 6 (some .int) [(0, 12, 15, 21)], Cond.methodLink RL 71 yX2_writeInt, Cond.instanceMethod yX2_writeInt]
def wsL_law0_r17 : List Cond := [Cond.selects RX2 yX2_writeInt yX2_writeInt, Cond.code yX2_writeInt cX2_writeInt 4 (some .int), Cond.methodLink RL 183 yX3_writeInt, Cond.instanceMethod yX3_writeInt, Cond.selects RX3 yX3_writeInt yX3_writeInt, Cond.code yX3_writeInt cX3_writeInt 4 (some .int), Cond.methodLink RL 186 yL_writeLong, Cond.static yL_writeLong, Cond.codeWith yL_writeLong cL_writeLong 7 (some .int) [(0, 12, 15, 21)], Cond.methodLink RL 74 yX2_writeLong, Cond.instanceMethod yX2_writeLong, Cond.selects RX2 yX2_writeLong yX2_writeLong, Cond.code yX2_writeLong cX2_writeLong 5 (some .int), Cond.methodLink RL 189 yX3_writeLong, Cond.instanceMethod yX3_writeLong, Cond.selects RX3 yX3_writeLong yX3_writeLong, Cond.code yX3_writeLong cX3_writeLong 5 (some .int), Cond.methodLink RL 191 yL_writeFloat, Cond.static yL_writeFloat, Cond.codeWith yL_writeFloat cL_writeFloat 6 (some .int) [(0, 12, 15, 21)], Cond.methodLink RL 78 yX2_writeFloat, Cond.instanceMethod yX2_writeFloat, Cond.selects RX2 yX2_writeFloat yX2_writeFloat, Cond.code yX2_writeFloat cX2_writeFloat 4 (some .int)]
def wsL_law0_r18 : List Cond := [Cond.methodLink RX2 99 yX2_doubleOf, Cond.static yX2_doubleOf, Cond.code yX2_doubleOf cX2_doubleOf 1 (some .double), Cond.methodLink RX2 185 yX2_noNumber, Cond.static yX2_noNumber, Cond.code yX2_noNumber cX2_noNumber 0 (some .double), Cond.constantDouble RX2 182 (9221120237041090560), Cond.methodLink RX2 103 yX2_writeReal, Cond.instanceMethod yX2_writeReal, Cond.selects RX2 yX2_writeReal yX2_writeReal, Cond.code yX2_writeReal cX2_writeReal 7 (some .int), Cond.methodLink RX2 178 yX0_putReal, Cond.methodLink RL 194 yX3_writeFloat, Cond.instanceMethod yX3_writeFloat, Cond.selects RX3 yX3_writeFloat yX3_writeFloat, Cond.code yX3_writeFloat cX3_writeFloat 4 (some .int), Cond.methodLink RL 197 yL_writeDouble, Cond.static yL_writeDouble, Cond.codeWith yL_writeDouble cL_writeDouble 7 (some .int) [(0, 12, 15, 21)], Cond.methodLink RL 82 yX2_writeDouble, Cond.instanceMethod yX2_writeDouble, Cond.selects RX2 yX2_writeDouble yX2_writeDouble, Cond.code yX2_writeDouble cX2_writeDouble 5 (some .int), Cond.methodLink RL 200 yX3_writeDouble]
def wsL_law0_r19 : List Cond := [Cond.instanceMethod yX3_writeDouble, Cond.selects RX3 yX3_writeDouble yX3_writeDouble, Cond.code yX3_writeDouble cX3_writeDouble 5 (some .int), Cond.methodLink RL 201 yL_writeAny, Cond.static yL_writeAny, Cond.codeWith yL_writeAny cL_writeAny 7 (some .int) [(0, 14, 17, 21), (0, 14, 21, 13)], Cond.methodLink RL 86 yX2_writeAny, Cond.instanceMethod yX2_writeAny, Cond.selects RX2 yX2_writeAny yX2_writeAny, Cond.code yX2_writeAny cX2_writeAny 6 (some .int), Cond.methodLink RX2 107 yX2_refuseWithoutCells, Cond.static yX2_refuseWithoutCells, Cond.code yX2_refuseWithoutCells cX2_refuseWithoutCells 1 none, Cond.methodLink RX2 111 yX2_wholeMadeFrom, Cond.static yX2_wholeMadeFrom, Cond.code yX2_wholeMadeFrom cX2_wholeMadeFrom 2 (some .long), Cond.methodLink RL 204 yX3_writeAny, Cond.instanceMethod yX3_writeAny, Cond.selects RX3 yX3_writeAny yX3_writeAny, Cond.code yX3_writeAny cX3_writeAny 5 (some .int), Cond.methodLink RX3 80 yX3_writeBoolean, Cond.methodLink RX3 84 yX3_writeByte, Cond.methodLink RX3 88 yX3_writeChar, Cond.methodLink RX3 91 yX3_writeShort]
def wsL_law0_r20 : List Cond := [Cond.methodLink RX3 94 yX3_writeInt, Cond.methodLink RX3 97 yX3_writeLong, Cond.methodLink RX3 101 yX3_writeFloat, Cond.methodLink RX3 105 yX3_writeDouble, Cond.methodLink RL 205 yL_copy, Cond.static yL_copy, Cond.codeWith yL_copy cL_copy 8 (some .int) [(0, 16, 19, 21)], Cond.methodLink RL 90 yX2_copy, Cond.instanceMethod yX2_copy, Cond.selects RX2 yX2_copy yX2_copy, Cond.code yX2_copy cX2_copy 9 (some .int), Cond.methodLink RX2 115 yX2_codeOfKinds, Cond.static yX2_codeOfKinds, Cond.code yX2_codeOfKinds cX2_codeOfKinds 3 (some .int), Cond.methodLink RX2 119 yX2_isPart, Cond.static yX2_isPart, Cond.code yX2_isPart cX2_isPart 3 (some .boolean), Cond.methodLink RX2 123 yX0_takeCells, Cond.instanceMethod yX0_takeCells, Cond.selects RX0 yX0_takeCells yX0_takeCells, Cond.code yX0_takeCells cX0_takeCells 5 none, Cond.methodLink RX0 56 arraycopyName, Cond.native arraycopyName, Cond.static arraycopyName]
def wsL_law0_r21 : List Cond := [Cond.initialized "java/lang/System", Cond.methodLink RL 208 yX3_copy, Cond.instanceMethod yX3_copy, Cond.selects RX3 yX3_copy yX3_copy, Cond.code yX3_copy cX3_copy 12 (some .int), Cond.methodLink RL 209 yL_total, Cond.static yL_total, Cond.codeWith yL_total cL_total 4 (some .int) [(0, 8, 11, 21)], Cond.methodLink RL 94 yX2_total, Cond.instanceMethod yX2_total, Cond.selects RX2 yX2_total yX2_total, Cond.code yX2_total cX2_total 4 (some .double), Cond.methodLink RX2 127 yX0_sum, Cond.instanceMethod yX0_sum, Cond.selects RX0 yX0_sum yX0_sum, Cond.code yX0_sum cX0_sum 4 (some .double), Cond.methodLink RX0 66 yX0_doubleAt, Cond.static yX2_sumOf, Cond.code yX2_sumOf cX2_sumOf 4 (some .double), Cond.methodLink RX2 196 yX2_isInfinite, Cond.static yX2_isInfinite, Cond.code yX2_isInfinite cX2_isInfinite 2 (some .boolean), Cond.constantDouble RX2 192 (9218868437227405311), Cond.constantDouble RX2 194 (18442240474082181119)]
def wsL_law0_r22 : List Cond := [Cond.methodLink RL 212 yX3_total, Cond.instanceMethod yX3_total, Cond.selects RX3 yX3_total yX3_total, Cond.code yX3_total cX3_total 5 (some .double), Cond.methodLink RL 213 yL_widened, Cond.static yL_widened, Cond.codeWith yL_widened cL_widened 5 (some .int) [(0, 10, 13, 21), (0, 10, 17, 13), (0, 10, 21, 15)], Cond.methodLink RL 98 yX2_widened, Cond.instanceMethod yX2_widened, Cond.selects RX2 yX2_widened yX2_widened, Cond.code yX2_widened cX2_widened 6 (some .int), Cond.methodLink RX2 135 yX0_takeWidened, Cond.instanceMethod yX0_takeWidened, Cond.selects RX0 yX0_takeWidened yX0_takeWidened, Cond.code yX0_takeWidened cX0_takeWidened 3 none, Cond.methodLink RX0 62 yX0_putWhole, Cond.methodLink RL 215 yX3_widened, Cond.instanceMethod yX3_widened, Cond.selects RX3 yX3_widened yX3_widened, Cond.code yX3_widened cX3_widened 6 (some .int), Cond.methodLink RX3 109 yX3_create, Cond.methodLink RL 216 yX2_code, Cond.instanceMethod yX2_code, Cond.selects RX2 yX2_code yX2_code]
def wsL_law0_r23 : List Cond := [Cond.code yX2_code cX2_code 1 (some .int), Cond.methodLink RL 219 yX3_code, Cond.instanceMethod yX3_code, Cond.selects RX3 yX3_code yX3_code, Cond.code yX3_code cX3_code 1 (some .int), Cond.methodLink RL 220 yL_count, Cond.static yL_count, Cond.codeWith yL_count cL_count 4 (some .int) [(0, 9, 12, 21)], Cond.methodLink RL 101 yX2_count, Cond.instanceMethod yX2_count, Cond.selects RX2 yX2_count yX2_count, Cond.code yX2_count cX2_count 2 (some .int), Cond.methodLink RL 222 yX3_count, Cond.instanceMethod yX3_count, Cond.selects RX3 yX3_count yX3_count, Cond.code yX3_count cX3_count 2 (some .int), Cond.methodLink RL 223 yL_hasCells, Cond.static yL_hasCells, Cond.codeWith yL_hasCells cL_hasCells 4 (some .int) [(0, 16, 19, 21)], Cond.methodLink RL 104 yX2_hasCells, Cond.instanceMethod yX2_hasCells, Cond.selects RX2 yX2_hasCells yX2_hasCells, Cond.code yX2_hasCells cX2_hasCells 2 (some .boolean), Cond.methodLink RX2 144 yX2_refuseNoKind]
def wsL_law0_r24 : List Cond := [Cond.static yX2_refuseNoKind, Cond.code yX2_refuseNoKind cX2_refuseNoKind 1 none, Cond.methodLink RL 225 yX3_hasCells, Cond.instanceMethod yX3_hasCells, Cond.selects RX3 yX3_hasCells yX3_hasCells, Cond.code yX3_hasCells cX3_hasCells 2 (some .boolean), Cond.methodLink RX3 112 yX3_isKind, Cond.static yX3_isKind, Cond.code yX3_isKind cX3_isKind 1 (some .boolean), Cond.methodLink RL 226 yL_isNumber, Cond.static yL_isNumber, Cond.codeWith yL_isNumber cL_isNumber 4 (some .int) [(0, 16, 19, 21)], Cond.methodLink RL 108 yX2_isNumber, Cond.instanceMethod yX2_isNumber, Cond.selects RX2 yX2_isNumber yX2_isNumber, Cond.code yX2_isNumber cX2_isNumber 2 (some .boolean), Cond.methodLink RL 228 yX3_isNumber, Cond.instanceMethod yX3_isNumber, Cond.selects RX3 yX3_isNumber yX3_isNumber, Cond.code yX3_isNumber cX3_isNumber 2 (some .boolean), Cond.methodLink RL 229 yL_canWiden, Cond.static yL_canWiden, Cond.codeWith yL_canWiden cL_canWiden 5 (some .int) [(0, 17, 20, 21)], Cond.methodLink RL 111 yX2_canWiden]
def wsL_law0_r25 : List Cond := [Cond.instanceMethod yX2_canWiden, Cond.selects RX2 yX2_canWiden yX2_canWiden, Cond.code yX2_canWiden cX2_canWiden 3 (some .boolean), Cond.methodLink RL 231 yX3_canWiden, Cond.instanceMethod yX3_canWiden, Cond.selects RX3 yX3_canWiden yX3_canWiden, Cond.code yX3_canWiden cX3_canWiden 3 (some .boolean), Cond.methodLink RL 232 yX2_digest, Cond.instanceMethod yX2_digest, Cond.selects RX2 yX2_digest yX2_digest, Cond.code yX2_digest cX2_digest 7 (some .long), Cond.constantLong RX2 147 (53), Cond.methodLink RX2 149 yX2_mixed, Cond.static yX2_mixed, Cond.code yX2_mixed cX2_mixed 4 (some .long), Cond.constantLong RX2 200 (31), Cond.methodLink RX2 153 yX2_mixedColumn, Cond.instanceMethod yX2_mixedColumn, Cond.selects RX2 yX2_mixedColumn yX2_mixedColumn, Cond.code yX2_mixedColumn cX2_mixedColumn 11 (some .long), Cond.fieldLink RX2 202 "TypedColumns$Column" "wholes" "[J", Cond.fieldLink RX2 206 "TypedColumns$Column" "reals" "[D", Cond.methodLink RX2 210 yX1_of, Cond.instanceMethod yX1_of]
def wsL_law0_r26 : List Cond := [Cond.selects RX1 yX1_of yX1_of, Cond.code yX1_of cX1_of 3 (some .long), Cond.constantLong RX1 15 (9221120237041090560), Cond.constantLong RX1 17 (-9223372036854775808), Cond.methodLink RX1 19 yX1_ofPositive, Cond.instanceMethod yX1_ofPositive, Cond.selects RX1 yX1_ofPositive yX1_ofPositive, Cond.code yX1_ofPositive cX1_ofPositive 4 (some .long), Cond.constantLong RX1 29 (9218868437227405312), Cond.constantDouble RX1 31 (4503599627370496), Cond.constantDouble RX1 33 (1), Cond.methodLink RX1 35 yX1_ofNormal, Cond.instanceMethod yX1_ofNormal, Cond.selects RX1 yX1_ofNormal yX1_ofNormal, Cond.code yX1_ofNormal cX1_ofNormal 9 (some .long), Cond.constantDouble RX1 38 (4841369599423283200), Cond.constantLong RX1 40 (4503599627370496), Cond.methodLink RL 236 yX3_digest, Cond.instanceMethod yX3_digest, Cond.selects RX3 yX3_digest yX3_digest, Cond.code yX3_digest cX3_digest 5 (some .long), Cond.constantLong RX3 115 (1643), Cond.constantLong RX3 117 (31), Cond.methodLink RX3 119 yJxe99ae_doubleToLongBits_ccdee]
def wsL_law0_r27 : List Cond := [Cond.static yJxe99ae_doubleToLongBits_ccdee, Cond.initialized RJxe99ae, Cond.code yJxe99ae_doubleToLongBits_ccdee cJxe99ae_doubleToLongBits_ccdee 2 (some .long), Cond.methodLink RJxe99ae 134 ⟨"java/lang/Double", "doubleToRawLongBits", "(D)J"⟩, Cond.native ⟨"java/lang/Double", "doubleToRawLongBits", "(D)J"⟩, Cond.static ⟨"java/lang/Double", "doubleToRawLongBits", "(D)J"⟩, Cond.initialized "java/lang/Double", Cond.constantLong RJxe99ae 137 (9221120237041090560), Cond.methodLink RJxe99ae 122 yJxe99ae_isNaN_b9ae7, Cond.static yJxe99ae_isNaN_b9ae7, Cond.code yJxe99ae_isNaN_b9ae7 cJxe99ae_isNaN_b9ae7 2 (some .boolean)]
def wsL_law0 : List Cond := (wsL_law0_r1 ++ (wsL_law0_r2 ++ (wsL_law0_r3 ++ (wsL_law0_r4 ++ (wsL_law0_r5 ++ (wsL_law0_r6 ++ (wsL_law0_r7 ++ (wsL_law0_r8 ++ (wsL_law0_r9 ++ (wsL_law0_r10 ++ (wsL_law0_r11 ++ (wsL_law0_r12 ++ (wsL_law0_r13 ++ (wsL_law0_r14 ++ (wsL_law0_r15 ++ (wsL_law0_r16 ++ (wsL_law0_r17 ++ (wsL_law0_r18 ++ (wsL_law0_r19 ++ (wsL_law0_r20 ++ (wsL_law0_r21 ++ (wsL_law0_r22 ++ (wsL_law0_r23 ++ (wsL_law0_r24 ++ (wsL_law0_r25 ++ (wsL_law0_r26 ++ wsL_law0_r27)))))))))))))))))))))))))) ++ wsX20 ++ wsX30 ++ wsX10 ++ wsX00 ++ ([] : List Cond)
def wsL_law : List Cond := wsL_law0 ++ (vx_atS RX2 41 "java/lang/IllegalArgumentException" ["java/lang/RuntimeException", "java/lang/Exception"]).filter goodWord ++ (vx_atS RX2 163 "java/lang/IllegalStateException" ["java/lang/RuntimeException", "java/lang/Exception"]).filter goodWord ++ (vx_atS RX2 143 "java/lang/IndexOutOfBoundsException" ["java/lang/RuntimeException", "java/lang/Exception"]).filter goodWord
end
section
set_option maxRecDepth 20000 in
theorem wsL_law_in0_r1 : ∀ w ∈ wsL_law0_r1, w ∈ lw_tbl := fun w h => (goodIn_p wsL_law0_r1 [37, 40] (by decide +kernel) (by decide +kernel) w h).1
set_option maxRecDepth 20000 in
theorem wsL_law_in0_r2 : ∀ w ∈ wsL_law0_r2, w ∈ lw_tbl := fun w h => (goodIn_p wsL_law0_r2 [47, 578] (by decide +kernel) (by decide +kernel) w h).1
set_option maxRecDepth 20000 in
theorem wsL_law_in0_r3 : ∀ w ∈ wsL_law0_r3, w ∈ lw_tbl := fun w h => (goodIn_p wsL_law0_r3 [197, 200, 219, 222, 227] (by decide +kernel) (by decide +kernel) w h).1
set_option maxRecDepth 20000 in
theorem wsL_law_in0_r4 : ∀ w ∈ wsL_law0_r4, w ∈ lw_tbl := fun w h => (goodIn_p wsL_law0_r4 [247, 253, 275, 612, 615] (by decide +kernel) (by decide +kernel) w h).1
set_option maxRecDepth 20000 in
theorem wsL_law_in0_r5 : ∀ w ∈ wsL_law0_r5, w ∈ lw_tbl := fun w h => (goodIn_p wsL_law0_r5 [619, 622, 608, 75, 626] (by decide +kernel) (by decide +kernel) w h).1
set_option maxRecDepth 20000 in
theorem wsL_law_in0_r6 : ∀ w ∈ wsL_law0_r6, w ∈ lw_tbl := fun w h => (goodIn_p wsL_law0_r6 [283, 92, 630, 634, 290] (by decide +kernel) (by decide +kernel) w h).1
set_option maxRecDepth 20000 in
theorem wsL_law_in0_r7 : ∀ w ∈ wsL_law0_r7, w ∈ lw_tbl := fun w h => (goodIn_p wsL_law0_r7 [293, 297, 638, 642, 646] (by decide +kernel) (by decide +kernel) w h).1
set_option maxRecDepth 20000 in
theorem wsL_law_in0_r8 : ∀ w ∈ wsL_law0_r8, w ∈ lw_tbl := fun w h => (goodIn_p wsL_law0_r8 [304, 308, 311, 314, 318, 650] (by decide +kernel) (by decide +kernel) w h).1
set_option maxRecDepth 20000 in
theorem wsL_law_in0_r9 : ∀ w ∈ wsL_law0_r9, w ∈ lw_tbl := fun w h => (goodIn_p wsL_law0_r9 [654, 658, 661, 325, 665] (by decide +kernel) (by decide +kernel) w h).1
set_option maxRecDepth 20000 in
theorem wsL_law_in0_r10 : ∀ w ∈ wsL_law0_r10, w ∈ lw_tbl := fun w h => (goodIn_p wsL_law0_r10 [332, 669, 339, 673, 346] (by decide +kernel) (by decide +kernel) w h).1
set_option maxRecDepth 20000 in
theorem wsL_law_in0_r11 : ∀ w ∈ wsL_law0_r11, w ∈ lw_tbl := fun w h => (goodIn_p wsL_law0_r11 [677, 353, 681, 360] (by decide +kernel) (by decide +kernel) w h).1
set_option maxRecDepth 20000 in
theorem wsL_law_in0_r12 : ∀ w ∈ wsL_law0_r12, w ∈ lw_tbl := fun w h => (goodIn_p wsL_law0_r12 [364, 368, 371, 374, 685, 688] (by decide +kernel) (by decide +kernel) w h).1
set_option maxRecDepth 20000 in
theorem wsL_law_in0_r13 : ∀ w ∈ wsL_law0_r13, w ∈ lw_tbl := fun w h => (goodIn_p wsL_law0_r13 [383, 387, 391, 692, 696] (by decide +kernel) (by decide +kernel) w h).1
set_option maxRecDepth 20000 in
theorem wsL_law_in0_r14 : ∀ w ∈ wsL_law0_r14, w ∈ lw_tbl := fun w h => (goodIn_p wsL_law0_r14 [398, 700, 405, 409, 413] (by decide +kernel) (by decide +kernel) w h).1
set_option maxRecDepth 20000 in
theorem wsL_law_in0_r15 : ∀ w ∈ wsL_law0_r15, w ∈ lw_tbl := fun w h => (goodIn_p wsL_law0_r15 [417, 704, 708, 424, 712] (by decide +kernel) (by decide +kernel) w h).1
set_option maxRecDepth 20000 in
theorem wsL_law_in0_r16 : ∀ w ∈ wsL_law0_r16, w ∈ lw_tbl := fun w h => (goodIn_p wsL_law0_r16 [431, 716, 438, 721] (by decide +kernel) (by decide +kernel) w h).1
set_option maxRecDepth 20000 in
theorem wsL_law_in0_r17 : ∀ w ∈ wsL_law0_r17, w ∈ lw_tbl := fun w h => (goodIn_p wsL_law0_r17 [445, 725, 452, 729, 459] (by decide +kernel) (by decide +kernel) w h).1
set_option maxRecDepth 20000 in
theorem wsL_law_in0_r18 : ∀ w ∈ wsL_law0_r18, w ∈ lw_tbl := fun w h => (goodIn_p wsL_law0_r18 [462, 465, 470, 733, 478] (by decide +kernel) (by decide +kernel) w h).1
set_option maxRecDepth 20000 in
theorem wsL_law_in0_r19 : ∀ w ∈ wsL_law0_r19, w ∈ lw_tbl := fun w h => (goodIn_p wsL_law0_r19 [737, 485, 488, 492, 741] (by decide +kernel) (by decide +kernel) w h).1
set_option maxRecDepth 20000 in
theorem wsL_law_in0_r20 : ∀ w ∈ wsL_law0_r20, w ∈ lw_tbl := fun w h => (goodIn_p wsL_law0_r20 [499, 502, 505, 509] (by decide +kernel) (by decide +kernel) w h).1
set_option maxRecDepth 20000 in
theorem wsL_law_in0_r21 : ∀ w ∈ wsL_law0_r21, w ∈ lw_tbl := fun w h => (goodIn_p wsL_law0_r21 [753, 520, 524, 528, 177] (by decide +kernel) (by decide +kernel) w h).1
set_option maxRecDepth 20000 in
theorem wsL_law_in0_r22 : ∀ w ∈ wsL_law0_r22, w ∈ lw_tbl := fun w h => (goodIn_p wsL_law0_r22 [757, 536, 540, 761] (by decide +kernel) (by decide +kernel) w h).1
set_option maxRecDepth 20000 in
theorem wsL_law_in0_r23 : ∀ w ∈ wsL_law0_r23, w ∈ lw_tbl := fun w h => (goodIn_p wsL_law0_r23 [79, 766, 548, 770, 556] (by decide +kernel) (by decide +kernel) w h).1
set_option maxRecDepth 20000 in
theorem wsL_law_in0_r24 : ∀ w ∈ wsL_law0_r24, w ∈ lw_tbl := fun w h => (goodIn_p wsL_law0_r24 [559, 774, 777, 566, 781] (by decide +kernel) (by decide +kernel) w h).1
set_option maxRecDepth 20000 in
theorem wsL_law_in0_r25 : ∀ w ∈ wsL_law0_r25, w ∈ lw_tbl := fun w h => (goodIn_p wsL_law0_r25 [573, 785, 83, 87, 164] (by decide +kernel) (by decide +kernel) w h).1
set_option maxRecDepth 20000 in
theorem wsL_law_in0_r26 : ∀ w ∈ wsL_law0_r26, w ∈ lw_tbl := fun w h => (goodIn_p wsL_law0_r26 [168, 174, 186, 789] (by decide +kernel) (by decide +kernel) w h).1
set_option maxRecDepth 20000 in
theorem wsL_law_in0_r27 : ∀ w ∈ wsL_law0_r27, w ∈ lw_tbl := fun w h => (goodIn_p wsL_law0_r27 [794, 797] (by decide +kernel) (by decide +kernel) w h).1
theorem wsL_law_in0_X20 : ∀ w ∈ wsX20, w ∈ lw_tbl := by decide +kernel
theorem wsL_law_in0_X30 : ∀ w ∈ wsX30, w ∈ lw_tbl := by decide +kernel
theorem wsL_law_in0_X10 : ∀ w ∈ wsX10, w ∈ lw_tbl := by decide +kernel
theorem wsL_law_in0_X00 : ∀ w ∈ wsX00, w ∈ lw_tbl := by decide +kernel
theorem wsL_law_in0 : ∀ w ∈ wsL_law0, w ∈ lw_tbl := by
  unfold wsL_law0
  exact (List.forall_mem_append.mpr ⟨(List.forall_mem_append.mpr ⟨(List.forall_mem_append.mpr ⟨(List.forall_mem_append.mpr ⟨(List.forall_mem_append.mpr ⟨(List.forall_mem_append.mpr ⟨wsL_law_in0_r1, (List.forall_mem_append.mpr ⟨wsL_law_in0_r2, (List.forall_mem_append.mpr ⟨wsL_law_in0_r3, (List.forall_mem_append.mpr ⟨wsL_law_in0_r4, (List.forall_mem_append.mpr ⟨wsL_law_in0_r5, (List.forall_mem_append.mpr ⟨wsL_law_in0_r6, (List.forall_mem_append.mpr ⟨wsL_law_in0_r7, (List.forall_mem_append.mpr ⟨wsL_law_in0_r8, (List.forall_mem_append.mpr ⟨wsL_law_in0_r9, (List.forall_mem_append.mpr ⟨wsL_law_in0_r10, (List.forall_mem_append.mpr ⟨wsL_law_in0_r11, (List.forall_mem_append.mpr ⟨wsL_law_in0_r12, (List.forall_mem_append.mpr ⟨wsL_law_in0_r13, (List.forall_mem_append.mpr ⟨wsL_law_in0_r14, (List.forall_mem_append.mpr ⟨wsL_law_in0_r15, (List.forall_mem_append.mpr ⟨wsL_law_in0_r16, (List.forall_mem_append.mpr ⟨wsL_law_in0_r17, (List.forall_mem_append.mpr ⟨wsL_law_in0_r18, (List.forall_mem_append.mpr ⟨wsL_law_in0_r19, (List.forall_mem_append.mpr ⟨wsL_law_in0_r20, (List.forall_mem_append.mpr ⟨wsL_law_in0_r21, (List.forall_mem_append.mpr ⟨wsL_law_in0_r22, (List.forall_mem_append.mpr ⟨wsL_law_in0_r23, (List.forall_mem_append.mpr ⟨wsL_law_in0_r24, (List.forall_mem_append.mpr ⟨wsL_law_in0_r25, (List.forall_mem_append.mpr ⟨wsL_law_in0_r26, wsL_law_in0_r27⟩)⟩)⟩)⟩)⟩)⟩)⟩)⟩)⟩)⟩)⟩)⟩)⟩)⟩)⟩)⟩)⟩)⟩)⟩)⟩)⟩)⟩)⟩)⟩)⟩)⟩), wsL_law_in0_X20⟩), wsL_law_in0_X30⟩), wsL_law_in0_X10⟩), wsL_law_in0_X00⟩), fun _ h => absurd h List.not_mem_nil⟩)
theorem wsL_law_x0 : ∀ w ∈ (vx_atS RX2 41 "java/lang/IllegalArgumentException" ["java/lang/RuntimeException", "java/lang/Exception"]).filter goodWord, w ∈ lw_tbl := by decide +kernel
theorem wsL_law_x1 : ∀ w ∈ (vx_atS RX2 163 "java/lang/IllegalStateException" ["java/lang/RuntimeException", "java/lang/Exception"]).filter goodWord, w ∈ lw_tbl := by decide +kernel
theorem wsL_law_x2 : ∀ w ∈ (vx_atS RX2 143 "java/lang/IndexOutOfBoundsException" ["java/lang/RuntimeException", "java/lang/Exception"]).filter goodWord, w ∈ lw_tbl := by decide +kernel
theorem wsL_law_in : ∀ w ∈ wsL_law, w ∈ lw_tbl := fun w h => (List.mem_append.mp h).elim (fun h => (List.mem_append.mp h).elim (fun h => (List.mem_append.mp h).elim (fun h => wsL_law_in0 w h) (fun h => wsL_law_x0 w h)) (fun h => wsL_law_x1 w h)) (fun h => wsL_law_x2 w h)
theorem inlX0 : ∀ w ∈ wsX00, w ∈ wsL_law := fun _ h => List.mem_append_left _ (List.mem_append_left _ (List.mem_append_left _ (List.mem_append_left _ (List.mem_append_right _ h))))
theorem inX0 : ∀ w ∈ wsX00, w ∈ lw_tbl := fun w h => wsL_law_in w (inlX0 w h)
theorem inlX1 : ∀ w ∈ wsX10, w ∈ wsL_law := fun _ h => List.mem_append_left _ (List.mem_append_left _ (List.mem_append_left _ (List.mem_append_left _ (List.mem_append_left _ (List.mem_append_right _ h)))))
theorem inX1 : ∀ w ∈ wsX10, w ∈ lw_tbl := fun w h => wsL_law_in w (inlX1 w h)
theorem inlX2 : ∀ w ∈ wsX20, w ∈ wsL_law := fun _ h => List.mem_append_left _ (List.mem_append_left _ (List.mem_append_left _ (List.mem_append_left _ (List.mem_append_left _ (List.mem_append_left _ (List.mem_append_left _ (List.mem_append_right _ h)))))))
theorem inX2 : ∀ w ∈ wsX20, w ∈ lw_tbl := fun w h => wsL_law_in w (inlX2 w h)
theorem inlX3 : ∀ w ∈ wsX30, w ∈ wsL_law := fun _ h => List.mem_append_left _ (List.mem_append_left _ (List.mem_append_left _ (List.mem_append_left _ (List.mem_append_left _ (List.mem_append_left _ (List.mem_append_right _ h))))))
theorem inX3 : ∀ w ∈ wsX30, w ∈ lw_tbl := fun w h => wsL_law_in w (inlX3 w h)
theorem inJxe99ae : ∀ w ∈ wsJxe99ae0, w ∈ lw_tbl := by decide +kernel
theorem inJ0 : ∀ w ∈ wsJ00, w ∈ lw_tbl := by decide +kernel
theorem inJ10 : ∀ w ∈ wsJ100, w ∈ lw_tbl := by decide +kernel
end
section
set_option maxRecDepth 20000 in
theorem ggX0_init_X2_holdsCells : GoodIn wsX0_init wsX2_holdsCells := goodIn_r _ [12] (by decide +kernel) (by decide +kernel)
set_option maxRecDepth 20000 in
theorem gX0_init_X2_holdsCells_n9 : GoodIn wsX0_init (wsX2_holdsCells) := ggX0_init_X2_holdsCells
set_option maxRecDepth 20000 in
theorem ggX0_init_X2_isLength : GoodIn wsX0_init wsX2_isLength := goodIn_r _ [14] (by decide +kernel) (by decide +kernel)
set_option maxRecDepth 20000 in
theorem gX0_init_X2_isLength_n13 : GoodIn wsX0_init (wsX2_isLength) := ggX0_init_X2_isLength
set_option maxRecDepth 20000 in
theorem ggX0_init_X2_isFloating : GoodIn wsX0_init wsX2_isFloating := goodIn_r _ [16] (by decide +kernel) (by decide +kernel)
set_option maxRecDepth 20000 in
theorem gX0_init_X2_isFloating_n25 : GoodIn wsX0_init (wsX2_isFloating) := ggX0_init_X2_isFloating
theorem dX0_init_0 : decode cX0_init 0 = .ok (.aload_n 0, 1) := by decide +kernel
theorem dX0_init_1 : decode cX0_init 1 = .ok (.invokespecial 3, 3) := by decide +kernel
theorem dX0_init_4 : decode cX0_init 4 = .ok (.iload_n 1, 1) := by decide +kernel
theorem dX0_init_5 : decode cX0_init 5 = .ok (.invokestatic 9, 3) := by decide +kernel
theorem dX0_init_8 : decode cX0_init 8 = .ok (.ifCond .eq 14, 3) := by decide +kernel
theorem dX0_init_11 : decode cX0_init 11 = .ok (.iload_n 2, 1) := by decide +kernel
theorem dX0_init_12 : decode cX0_init 12 = .ok (.invokestatic 13, 3) := by decide +kernel
theorem dX0_init_15 : decode cX0_init 15 = .ok (.ifCond .eq 7, 3) := by decide +kernel
theorem dX0_init_18 : decode cX0_init 18 = .ok (.iload_n 2, 1) := by decide +kernel
theorem dX0_init_19 : decode cX0_init 19 = .ok (.goto 4, 3) := by decide +kernel
theorem dX0_init_22 : decode cX0_init 22 = .ok (.iconst 0, 1) := by decide +kernel
theorem dX0_init_23 : decode cX0_init 23 = .ok (.istore_n 3, 1) := by decide +kernel
theorem dX0_init_24 : decode cX0_init 24 = .ok (.aload_n 0, 1) := by decide +kernel
theorem dX0_init_25 : decode cX0_init 25 = .ok (.iload_n 1, 1) := by decide +kernel
theorem dX0_init_26 : decode cX0_init 26 = .ok (.putfield 16, 3) := by decide +kernel
theorem dX0_init_29 : decode cX0_init 29 = .ok (.aload_n 0, 1) := by decide +kernel
theorem dX0_init_30 : decode cX0_init 30 = .ok (.iload_n 1, 1) := by decide +kernel
theorem dX0_init_31 : decode cX0_init 31 = .ok (.invokestatic 9, 3) := by decide +kernel
theorem dX0_init_34 : decode cX0_init 34 = .ok (.ifCond .eq 7, 3) := by decide +kernel
theorem dX0_init_37 : decode cX0_init 37 = .ok (.iload_n 3, 1) := by decide +kernel
theorem dX0_init_38 : decode cX0_init 38 = .ok (.goto 4, 3) := by decide +kernel
theorem dX0_init_41 : decode cX0_init 41 = .ok (.iconst (-1), 1) := by decide +kernel
theorem dX0_init_42 : decode cX0_init 42 = .ok (.putfield 22, 3) := by decide +kernel
theorem dX0_init_45 : decode cX0_init 45 = .ok (.aload_n 0, 1) := by decide +kernel
theorem dX0_init_46 : decode cX0_init 46 = .ok (.iload_n 1, 1) := by decide +kernel
theorem dX0_init_47 : decode cX0_init 47 = .ok (.invokestatic 25, 3) := by decide +kernel
theorem dX0_init_50 : decode cX0_init 50 = .ok (.ifCond .eq 7, 3) := by decide +kernel
theorem dX0_init_53 : decode cX0_init 53 = .ok (.iconst 0, 1) := by decide +kernel
theorem dX0_init_54 : decode cX0_init 54 = .ok (.goto 4, 3) := by decide +kernel
theorem dX0_init_57 : decode cX0_init 57 = .ok (.iload_n 3, 1) := by decide +kernel
theorem dX0_init_58 : decode cX0_init 58 = .ok (.newarray .long, 2) := by decide +kernel
theorem dX0_init_60 : decode cX0_init 60 = .ok (.putfield 28, 3) := by decide +kernel
theorem dX0_init_63 : decode cX0_init 63 = .ok (.aload_n 0, 1) := by decide +kernel
theorem dX0_init_64 : decode cX0_init 64 = .ok (.iload_n 1, 1) := by decide +kernel
theorem dX0_init_65 : decode cX0_init 65 = .ok (.invokestatic 25, 3) := by decide +kernel
theorem dX0_init_68 : decode cX0_init 68 = .ok (.ifCond .eq 7, 3) := by decide +kernel
theorem dX0_init_71 : decode cX0_init 71 = .ok (.iload_n 3, 1) := by decide +kernel
theorem dX0_init_72 : decode cX0_init 72 = .ok (.goto 4, 3) := by decide +kernel
theorem dX0_init_75 : decode cX0_init 75 = .ok (.iconst 0, 1) := by decide +kernel
theorem dX0_init_76 : decode cX0_init 76 = .ok (.newarray .double, 2) := by decide +kernel
theorem dX0_init_78 : decode cX0_init 78 = .ok (.putfield 32, 3) := by decide +kernel
theorem dX0_init_81 : decode cX0_init 81 = .ok (.return_, 1) := by decide +kernel
theorem dX0_wholeAt_0 : decode cX0_wholeAt 0 = .ok (.iload_n 1, 1) := by decide +kernel
theorem dX0_wholeAt_1 : decode cX0_wholeAt 1 = .ok (.ifCond .lt 21, 3) := by decide +kernel
theorem dX0_wholeAt_4 : decode cX0_wholeAt 4 = .ok (.iload_n 1, 1) := by decide +kernel
theorem dX0_wholeAt_5 : decode cX0_wholeAt 5 = .ok (.aload_n 0, 1) := by decide +kernel
theorem dX0_wholeAt_6 : decode cX0_wholeAt 6 = .ok (.getfield 28, 3) := by decide +kernel
theorem dX0_wholeAt_9 : decode cX0_wholeAt 9 = .ok (.arraylength, 1) := by decide +kernel
theorem dX0_wholeAt_10 : decode cX0_wholeAt 10 = .ok (.if_icmp .ge 12, 3) := by decide +kernel
theorem dX0_wholeAt_13 : decode cX0_wholeAt 13 = .ok (.aload_n 0, 1) := by decide +kernel
theorem dX0_wholeAt_14 : decode cX0_wholeAt 14 = .ok (.getfield 28, 3) := by decide +kernel
theorem dX0_wholeAt_17 : decode cX0_wholeAt 17 = .ok (.iload_n 1, 1) := by decide +kernel
theorem dX0_wholeAt_18 : decode cX0_wholeAt 18 = .ok (.laload, 1) := by decide +kernel
theorem dX0_wholeAt_19 : decode cX0_wholeAt 19 = .ok (.goto 4, 3) := by decide +kernel
theorem dX0_wholeAt_22 : decode cX0_wholeAt 22 = .ok (.lconst 0, 1) := by decide +kernel
theorem dX0_wholeAt_23 : decode cX0_wholeAt 23 = .ok (.lreturn, 1) := by decide +kernel
theorem dX0_realAt_0 : decode cX0_realAt 0 = .ok (.iload_n 1, 1) := by decide +kernel
theorem dX0_realAt_1 : decode cX0_realAt 1 = .ok (.ifCond .lt 21, 3) := by decide +kernel
theorem dX0_realAt_4 : decode cX0_realAt 4 = .ok (.iload_n 1, 1) := by decide +kernel
theorem dX0_realAt_5 : decode cX0_realAt 5 = .ok (.aload_n 0, 1) := by decide +kernel
theorem dX0_realAt_6 : decode cX0_realAt 6 = .ok (.getfield 32, 3) := by decide +kernel
theorem dX0_realAt_9 : decode cX0_realAt 9 = .ok (.arraylength, 1) := by decide +kernel
theorem dX0_realAt_10 : decode cX0_realAt 10 = .ok (.if_icmp .ge 12, 3) := by decide +kernel
theorem dX0_realAt_13 : decode cX0_realAt 13 = .ok (.aload_n 0, 1) := by decide +kernel
theorem dX0_realAt_14 : decode cX0_realAt 14 = .ok (.getfield 32, 3) := by decide +kernel
theorem dX0_realAt_17 : decode cX0_realAt 17 = .ok (.iload_n 1, 1) := by decide +kernel
theorem dX0_realAt_18 : decode cX0_realAt 18 = .ok (.daload, 1) := by decide +kernel
theorem dX0_realAt_19 : decode cX0_realAt 19 = .ok (.goto 4, 3) := by decide +kernel
theorem dX0_realAt_22 : decode cX0_realAt 22 = .ok (.dconst 0, 1) := by decide +kernel
theorem dX0_realAt_23 : decode cX0_realAt 23 = .ok (.dreturn, 1) := by decide +kernel
set_option maxRecDepth 20000 in
theorem ggX0_doubleAt_X2_isFloating : GoodIn wsX0_doubleAt wsX2_isFloating := goodIn_r _ [4] (by decide +kernel) (by decide +kernel)
set_option maxRecDepth 20000 in
theorem gX0_doubleAt_X2_isFloating_n25 : GoodIn wsX0_doubleAt (wsX2_isFloating) := ggX0_doubleAt_X2_isFloating
set_option maxRecDepth 20000 in
theorem ggX0_doubleAt_X0_realAt : GoodIn wsX0_doubleAt wsX0_realAt := goodIn_r _ [9, 10, 16, 17, 18, 19] (by decide +kernel) (by decide +kernel)
set_option maxRecDepth 20000 in
theorem gX0_doubleAt_X0_realAt : GoodIn wsX0_doubleAt (wsV RX0 36 RX0 yX0_realAt wsX0_realAt) := goodIn_app (goodIn_of _ (by decide +kernel)) ggX0_doubleAt_X0_realAt
set_option maxRecDepth 20000 in
theorem ggX0_doubleAt_X0_wholeAt : GoodIn wsX0_doubleAt wsX0_wholeAt := goodIn_r _ [14, 15, 16, 17, 18, 19] (by decide +kernel) (by decide +kernel)
set_option maxRecDepth 20000 in
theorem gX0_doubleAt_X0_wholeAt : GoodIn wsX0_doubleAt (wsV RX0 40 RX0 yX0_wholeAt wsX0_wholeAt) := goodIn_app (goodIn_of _ (by decide +kernel)) ggX0_doubleAt_X0_wholeAt
theorem dX0_doubleAt_0 : decode cX0_doubleAt 0 = .ok (.aload_n 0, 1) := by decide +kernel
theorem dX0_doubleAt_1 : decode cX0_doubleAt 1 = .ok (.getfield 16, 3) := by decide +kernel
theorem dX0_doubleAt_4 : decode cX0_doubleAt 4 = .ok (.invokestatic 25, 3) := by decide +kernel
theorem dX0_doubleAt_7 : decode cX0_doubleAt 7 = .ok (.ifCond .eq 11, 3) := by decide +kernel
theorem dX0_doubleAt_10 : decode cX0_doubleAt 10 = .ok (.aload_n 0, 1) := by decide +kernel
theorem dX0_doubleAt_11 : decode cX0_doubleAt 11 = .ok (.iload_n 1, 1) := by decide +kernel
theorem dX0_doubleAt_12 : decode cX0_doubleAt 12 = .ok (.invokevirtual 36, 3) := by decide +kernel
theorem dX0_doubleAt_15 : decode cX0_doubleAt 15 = .ok (.goto 9, 3) := by decide +kernel
theorem dX0_doubleAt_18 : decode cX0_doubleAt 18 = .ok (.aload_n 0, 1) := by decide +kernel
theorem dX0_doubleAt_19 : decode cX0_doubleAt 19 = .ok (.iload_n 1, 1) := by decide +kernel
theorem dX0_doubleAt_20 : decode cX0_doubleAt 20 = .ok (.invokevirtual 40, 3) := by decide +kernel
theorem dX0_doubleAt_23 : decode cX0_doubleAt 23 = .ok (.l2d, 1) := by decide +kernel
theorem dX0_doubleAt_24 : decode cX0_doubleAt 24 = .ok (.dreturn, 1) := by decide +kernel
set_option maxRecDepth 20000 in
theorem ggX0_floatAt_X2_isFloating : GoodIn wsX0_floatAt wsX2_isFloating := goodIn_r _ [4] (by decide +kernel) (by decide +kernel)
set_option maxRecDepth 20000 in
theorem gX0_floatAt_X2_isFloating_n25 : GoodIn wsX0_floatAt (wsX2_isFloating) := ggX0_floatAt_X2_isFloating
set_option maxRecDepth 20000 in
theorem ggX0_floatAt_X0_realAt : GoodIn wsX0_floatAt wsX0_realAt := goodIn_r _ [9, 10, 22, 23, 24, 25] (by decide +kernel) (by decide +kernel)
set_option maxRecDepth 20000 in
theorem gX0_floatAt_X0_realAt : GoodIn wsX0_floatAt (wsV RX0 36 RX0 yX0_realAt wsX0_realAt) := goodIn_app (goodIn_of _ (by decide +kernel)) ggX0_floatAt_X0_realAt
set_option maxRecDepth 20000 in
theorem ggX0_floatAt_X2_floatOf : GoodIn wsX0_floatAt wsX2_floatOf := goodIn_r _ [12, 13, 14, 3, 15, 16] (by decide +kernel) (by decide +kernel)
set_option maxRecDepth 20000 in
theorem gX0_floatAt_X2_floatOf_n44 : GoodIn wsX0_floatAt (wsX2_floatOf) := ggX0_floatAt_X2_floatOf
set_option maxRecDepth 20000 in
theorem ggX0_floatAt_X0_wholeAt : GoodIn wsX0_floatAt wsX0_wholeAt := goodIn_r _ [20, 21, 22, 23, 24, 25] (by decide +kernel) (by decide +kernel)
set_option maxRecDepth 20000 in
theorem gX0_floatAt_X0_wholeAt : GoodIn wsX0_floatAt (wsV RX0 40 RX0 yX0_wholeAt wsX0_wholeAt) := goodIn_app (goodIn_of _ (by decide +kernel)) ggX0_floatAt_X0_wholeAt
theorem dX0_floatAt_0 : decode cX0_floatAt 0 = .ok (.aload_n 0, 1) := by decide +kernel
theorem dX0_floatAt_1 : decode cX0_floatAt 1 = .ok (.getfield 16, 3) := by decide +kernel
theorem dX0_floatAt_4 : decode cX0_floatAt 4 = .ok (.invokestatic 25, 3) := by decide +kernel
theorem dX0_floatAt_7 : decode cX0_floatAt 7 = .ok (.ifCond .eq 14, 3) := by decide +kernel
theorem dX0_floatAt_10 : decode cX0_floatAt 10 = .ok (.aload_n 0, 1) := by decide +kernel
theorem dX0_floatAt_11 : decode cX0_floatAt 11 = .ok (.iload_n 1, 1) := by decide +kernel
theorem dX0_floatAt_12 : decode cX0_floatAt 12 = .ok (.invokevirtual 36, 3) := by decide +kernel
theorem dX0_floatAt_15 : decode cX0_floatAt 15 = .ok (.invokestatic 44, 3) := by decide +kernel
theorem dX0_floatAt_18 : decode cX0_floatAt 18 = .ok (.goto 9, 3) := by decide +kernel
theorem dX0_floatAt_21 : decode cX0_floatAt 21 = .ok (.aload_n 0, 1) := by decide +kernel
theorem dX0_floatAt_22 : decode cX0_floatAt 22 = .ok (.iload_n 1, 1) := by decide +kernel
theorem dX0_floatAt_23 : decode cX0_floatAt 23 = .ok (.invokevirtual 40, 3) := by decide +kernel
theorem dX0_floatAt_26 : decode cX0_floatAt 26 = .ok (.l2f, 1) := by decide +kernel
theorem dX0_floatAt_27 : decode cX0_floatAt 27 = .ok (.freturn, 1) := by decide +kernel
set_option maxRecDepth 20000 in
theorem ggX0_putWhole_X0_putReal : GoodIn wsX0_putWhole wsX0_putReal := goodIn_r _ [7, 8, 9, 10, 11, 12] (by decide +kernel) (by decide +kernel)
set_option maxRecDepth 20000 in
theorem gX0_putWhole_X0_putReal : GoodIn wsX0_putWhole (wsV RX0 48 RX0 yX0_putReal wsX0_putReal) := goodIn_app (goodIn_of _ (by decide +kernel)) ggX0_putWhole_X0_putReal
theorem dX0_putWhole_0 : decode cX0_putWhole 0 = .ok (.aload_n 0, 1) := by decide +kernel
theorem dX0_putWhole_1 : decode cX0_putWhole 1 = .ok (.getfield 16, 3) := by decide +kernel
theorem dX0_putWhole_4 : decode cX0_putWhole 4 = .ok (.bipush 7, 2) := by decide +kernel
theorem dX0_putWhole_6 : decode cX0_putWhole 6 = .ok (.if_icmp .ne 14, 3) := by decide +kernel
theorem dX0_putWhole_9 : decode cX0_putWhole 9 = .ok (.aload_n 0, 1) := by decide +kernel
theorem dX0_putWhole_10 : decode cX0_putWhole 10 = .ok (.iload_n 1, 1) := by decide +kernel
theorem dX0_putWhole_11 : decode cX0_putWhole 11 = .ok (.lload_n 2, 1) := by decide +kernel
theorem dX0_putWhole_12 : decode cX0_putWhole 12 = .ok (.l2f, 1) := by decide +kernel
theorem dX0_putWhole_13 : decode cX0_putWhole 13 = .ok (.f2d, 1) := by decide +kernel
theorem dX0_putWhole_14 : decode cX0_putWhole 14 = .ok (.invokevirtual 48, 3) := by decide +kernel
theorem dX0_putWhole_17 : decode cX0_putWhole 17 = .ok (.goto 42, 3) := by decide +kernel
theorem dX0_putWhole_20 : decode cX0_putWhole 20 = .ok (.aload_n 0, 1) := by decide +kernel
theorem dX0_putWhole_21 : decode cX0_putWhole 21 = .ok (.getfield 16, 3) := by decide +kernel
theorem dX0_putWhole_24 : decode cX0_putWhole 24 = .ok (.bipush 8, 2) := by decide +kernel
theorem dX0_putWhole_26 : decode cX0_putWhole 26 = .ok (.if_icmp .ne 13, 3) := by decide +kernel
theorem dX0_putWhole_29 : decode cX0_putWhole 29 = .ok (.aload_n 0, 1) := by decide +kernel
theorem dX0_putWhole_30 : decode cX0_putWhole 30 = .ok (.iload_n 1, 1) := by decide +kernel
theorem dX0_putWhole_31 : decode cX0_putWhole 31 = .ok (.lload_n 2, 1) := by decide +kernel
theorem dX0_putWhole_32 : decode cX0_putWhole 32 = .ok (.l2d, 1) := by decide +kernel
theorem dX0_putWhole_33 : decode cX0_putWhole 33 = .ok (.invokevirtual 48, 3) := by decide +kernel
theorem dX0_putWhole_36 : decode cX0_putWhole 36 = .ok (.goto 23, 3) := by decide +kernel
theorem dX0_putWhole_39 : decode cX0_putWhole 39 = .ok (.iload_n 1, 1) := by decide +kernel
theorem dX0_putWhole_40 : decode cX0_putWhole 40 = .ok (.ifCond .lt 19, 3) := by decide +kernel
theorem dX0_putWhole_43 : decode cX0_putWhole 43 = .ok (.iload_n 1, 1) := by decide +kernel
theorem dX0_putWhole_44 : decode cX0_putWhole 44 = .ok (.aload_n 0, 1) := by decide +kernel
theorem dX0_putWhole_45 : decode cX0_putWhole 45 = .ok (.getfield 28, 3) := by decide +kernel
theorem dX0_putWhole_48 : decode cX0_putWhole 48 = .ok (.arraylength, 1) := by decide +kernel
theorem dX0_putWhole_49 : decode cX0_putWhole 49 = .ok (.if_icmp .ge 10, 3) := by decide +kernel
theorem dX0_putWhole_52 : decode cX0_putWhole 52 = .ok (.aload_n 0, 1) := by decide +kernel
theorem dX0_putWhole_53 : decode cX0_putWhole 53 = .ok (.getfield 28, 3) := by decide +kernel
theorem dX0_putWhole_56 : decode cX0_putWhole 56 = .ok (.iload_n 1, 1) := by decide +kernel
theorem dX0_putWhole_57 : decode cX0_putWhole 57 = .ok (.lload_n 2, 1) := by decide +kernel
theorem dX0_putWhole_58 : decode cX0_putWhole 58 = .ok (.lastore, 1) := by decide +kernel
theorem dX0_putWhole_59 : decode cX0_putWhole 59 = .ok (.return_, 1) := by decide +kernel
theorem dX0_putReal_0 : decode cX0_putReal 0 = .ok (.iload_n 1, 1) := by decide +kernel
theorem dX0_putReal_1 : decode cX0_putReal 1 = .ok (.ifCond .lt 19, 3) := by decide +kernel
theorem dX0_putReal_4 : decode cX0_putReal 4 = .ok (.iload_n 1, 1) := by decide +kernel
theorem dX0_putReal_5 : decode cX0_putReal 5 = .ok (.aload_n 0, 1) := by decide +kernel
theorem dX0_putReal_6 : decode cX0_putReal 6 = .ok (.getfield 32, 3) := by decide +kernel
theorem dX0_putReal_9 : decode cX0_putReal 9 = .ok (.arraylength, 1) := by decide +kernel
theorem dX0_putReal_10 : decode cX0_putReal 10 = .ok (.if_icmp .ge 10, 3) := by decide +kernel
theorem dX0_putReal_13 : decode cX0_putReal 13 = .ok (.aload_n 0, 1) := by decide +kernel
theorem dX0_putReal_14 : decode cX0_putReal 14 = .ok (.getfield 32, 3) := by decide +kernel
theorem dX0_putReal_17 : decode cX0_putReal 17 = .ok (.iload_n 1, 1) := by decide +kernel
theorem dX0_putReal_18 : decode cX0_putReal 18 = .ok (.dload_n 2, 1) := by decide +kernel
theorem dX0_putReal_19 : decode cX0_putReal 19 = .ok (.dastore, 1) := by decide +kernel
theorem dX0_putReal_20 : decode cX0_putReal 20 = .ok (.return_, 1) := by decide +kernel
set_option maxRecDepth 20000 in
theorem ggX0_takeCells_X2_isPart : GoodIn wsX0_takeCells wsX2_isPart := goodIn_r _ [9] (by decide +kernel) (by decide +kernel)
set_option maxRecDepth 20000 in
theorem gX0_takeCells_X2_isPart_n52 : GoodIn wsX0_takeCells (wsX2_isPart) := ggX0_takeCells_X2_isPart
theorem dX0_takeCells_0 : decode cX0_takeCells 0 = .ok (.iload_n 2, 1) := by decide +kernel
theorem dX0_takeCells_1 : decode cX0_takeCells 1 = .ok (.iload 4, 2) := by decide +kernel
theorem dX0_takeCells_3 : decode cX0_takeCells 3 = .ok (.aload_n 1, 1) := by decide +kernel
theorem dX0_takeCells_4 : decode cX0_takeCells 4 = .ok (.getfield 28, 3) := by decide +kernel
theorem dX0_takeCells_7 : decode cX0_takeCells 7 = .ok (.arraylength, 1) := by decide +kernel
theorem dX0_takeCells_8 : decode cX0_takeCells 8 = .ok (.invokestatic 52, 3) := by decide +kernel
theorem dX0_takeCells_11 : decode cX0_takeCells 11 = .ok (.ifCond .eq 32, 3) := by decide +kernel
theorem dX0_takeCells_14 : decode cX0_takeCells 14 = .ok (.iload_n 3, 1) := by decide +kernel
theorem dX0_takeCells_15 : decode cX0_takeCells 15 = .ok (.iload 4, 2) := by decide +kernel
theorem dX0_takeCells_17 : decode cX0_takeCells 17 = .ok (.aload_n 0, 1) := by decide +kernel
theorem dX0_takeCells_18 : decode cX0_takeCells 18 = .ok (.getfield 28, 3) := by decide +kernel
theorem dX0_takeCells_21 : decode cX0_takeCells 21 = .ok (.arraylength, 1) := by decide +kernel
theorem dX0_takeCells_22 : decode cX0_takeCells 22 = .ok (.invokestatic 52, 3) := by decide +kernel
theorem dX0_takeCells_25 : decode cX0_takeCells 25 = .ok (.ifCond .eq 18, 3) := by decide +kernel
theorem dX0_takeCells_28 : decode cX0_takeCells 28 = .ok (.aload_n 1, 1) := by decide +kernel
theorem dX0_takeCells_29 : decode cX0_takeCells 29 = .ok (.getfield 28, 3) := by decide +kernel
theorem dX0_takeCells_32 : decode cX0_takeCells 32 = .ok (.iload_n 2, 1) := by decide +kernel
theorem dX0_takeCells_33 : decode cX0_takeCells 33 = .ok (.aload_n 0, 1) := by decide +kernel
theorem dX0_takeCells_34 : decode cX0_takeCells 34 = .ok (.getfield 28, 3) := by decide +kernel
theorem dX0_takeCells_37 : decode cX0_takeCells 37 = .ok (.iload_n 3, 1) := by decide +kernel
theorem dX0_takeCells_38 : decode cX0_takeCells 38 = .ok (.iload 4, 2) := by decide +kernel
theorem dX0_takeCells_40 : decode cX0_takeCells 40 = .ok (.invokestatic 56, 3) := by decide +kernel
theorem dX0_takeCells_43 : decode cX0_takeCells 43 = .ok (.iload_n 2, 1) := by decide +kernel
theorem dX0_takeCells_44 : decode cX0_takeCells 44 = .ok (.iload 4, 2) := by decide +kernel
theorem dX0_takeCells_46 : decode cX0_takeCells 46 = .ok (.aload_n 1, 1) := by decide +kernel
theorem dX0_takeCells_47 : decode cX0_takeCells 47 = .ok (.getfield 32, 3) := by decide +kernel
theorem dX0_takeCells_50 : decode cX0_takeCells 50 = .ok (.arraylength, 1) := by decide +kernel
theorem dX0_takeCells_51 : decode cX0_takeCells 51 = .ok (.invokestatic 52, 3) := by decide +kernel
theorem dX0_takeCells_54 : decode cX0_takeCells 54 = .ok (.ifCond .eq 32, 3) := by decide +kernel
theorem dX0_takeCells_57 : decode cX0_takeCells 57 = .ok (.iload_n 3, 1) := by decide +kernel
theorem dX0_takeCells_58 : decode cX0_takeCells 58 = .ok (.iload 4, 2) := by decide +kernel
theorem dX0_takeCells_60 : decode cX0_takeCells 60 = .ok (.aload_n 0, 1) := by decide +kernel
theorem dX0_takeCells_61 : decode cX0_takeCells 61 = .ok (.getfield 32, 3) := by decide +kernel
theorem dX0_takeCells_64 : decode cX0_takeCells 64 = .ok (.arraylength, 1) := by decide +kernel
theorem dX0_takeCells_65 : decode cX0_takeCells 65 = .ok (.invokestatic 52, 3) := by decide +kernel
theorem dX0_takeCells_68 : decode cX0_takeCells 68 = .ok (.ifCond .eq 18, 3) := by decide +kernel
theorem dX0_takeCells_71 : decode cX0_takeCells 71 = .ok (.aload_n 1, 1) := by decide +kernel
theorem dX0_takeCells_72 : decode cX0_takeCells 72 = .ok (.getfield 32, 3) := by decide +kernel
theorem dX0_takeCells_75 : decode cX0_takeCells 75 = .ok (.iload_n 2, 1) := by decide +kernel
theorem dX0_takeCells_76 : decode cX0_takeCells 76 = .ok (.aload_n 0, 1) := by decide +kernel
theorem dX0_takeCells_77 : decode cX0_takeCells 77 = .ok (.getfield 32, 3) := by decide +kernel
theorem dX0_takeCells_80 : decode cX0_takeCells 80 = .ok (.iload_n 3, 1) := by decide +kernel
theorem dX0_takeCells_81 : decode cX0_takeCells 81 = .ok (.iload 4, 2) := by decide +kernel
theorem dX0_takeCells_83 : decode cX0_takeCells 83 = .ok (.invokestatic 56, 3) := by decide +kernel
theorem dX0_takeCells_86 : decode cX0_takeCells 86 = .ok (.return_, 1) := by decide +kernel
set_option maxRecDepth 20000 in
theorem ggX0_takeWidened_X2_isFloating : GoodIn wsX0_takeWidened wsX2_isFloating := goodIn_r _ [5] (by decide +kernel) (by decide +kernel)
set_option maxRecDepth 20000 in
theorem gX0_takeWidened_X2_isFloating_n25 : GoodIn wsX0_takeWidened (wsX2_isFloating) := ggX0_takeWidened_X2_isFloating
set_option maxRecDepth 20000 in
theorem ggX0_takeWidened_X0_realAt : GoodIn wsX0_takeWidened wsX0_realAt := goodIn_r _ [10, 11, 25, 26, 27, 28] (by decide +kernel) (by decide +kernel)
set_option maxRecDepth 20000 in
theorem gX0_takeWidened_X0_realAt : GoodIn wsX0_takeWidened (wsV RX0 36 RX0 yX0_realAt wsX0_realAt) := goodIn_app (goodIn_of _ (by decide +kernel)) ggX0_takeWidened_X0_realAt
set_option maxRecDepth 20000 in
theorem ggX0_takeWidened_X0_putReal : GoodIn wsX0_takeWidened wsX0_putReal := goodIn_r _ [15, 11, 25, 26, 27, 28] (by decide +kernel) (by decide +kernel)
set_option maxRecDepth 20000 in
theorem gX0_takeWidened_X0_putReal : GoodIn wsX0_takeWidened (wsV RX0 48 RX0 yX0_putReal wsX0_putReal) := goodIn_app (goodIn_of _ (by decide +kernel)) ggX0_takeWidened_X0_putReal
set_option maxRecDepth 20000 in
theorem ggX0_takeWidened_X0_wholeAt : GoodIn wsX0_takeWidened wsX0_wholeAt := goodIn_r _ [19, 20, 25, 26, 27, 28] (by decide +kernel) (by decide +kernel)
set_option maxRecDepth 20000 in
theorem gX0_takeWidened_X0_wholeAt : GoodIn wsX0_takeWidened (wsV RX0 40 RX0 yX0_wholeAt wsX0_wholeAt) := goodIn_app (goodIn_of _ (by decide +kernel)) ggX0_takeWidened_X0_wholeAt
set_option maxRecDepth 20000 in
theorem ggX0_takeWidened_X0_putWhole : GoodIn wsX0_takeWidened wsX0_putWhole := goodIn_r _ [24, 2, 20, 12, 13, 14, 9, 15, 11, 25, 26, 27, 28] (by decide +kernel) (by decide +kernel)
set_option maxRecDepth 20000 in
theorem gX0_takeWidened_X0_putWhole : GoodIn wsX0_takeWidened (wsV RX0 62 RX0 yX0_putWhole wsX0_putWhole) := goodIn_app (goodIn_of _ (by decide +kernel)) ggX0_takeWidened_X0_putWhole
theorem dX0_takeWidened_0 : decode cX0_takeWidened 0 = .ok (.iconst 0, 1) := by decide +kernel
theorem dX0_takeWidened_1 : decode cX0_takeWidened 1 = .ok (.istore_n 2, 1) := by decide +kernel
theorem dX0_takeWidened_2 : decode cX0_takeWidened 2 = .ok (.iload_n 2, 1) := by decide +kernel
theorem dX0_takeWidened_3 : decode cX0_takeWidened 3 = .ok (.aload_n 1, 1) := by decide +kernel
theorem dX0_takeWidened_4 : decode cX0_takeWidened 4 = .ok (.getfield 22, 3) := by decide +kernel
theorem dX0_takeWidened_7 : decode cX0_takeWidened 7 = .ok (.if_icmp .ge 42, 3) := by decide +kernel
theorem dX0_takeWidened_10 : decode cX0_takeWidened 10 = .ok (.aload_n 1, 1) := by decide +kernel
theorem dX0_takeWidened_11 : decode cX0_takeWidened 11 = .ok (.getfield 16, 3) := by decide +kernel
theorem dX0_takeWidened_14 : decode cX0_takeWidened 14 = .ok (.invokestatic 25, 3) := by decide +kernel
theorem dX0_takeWidened_17 : decode cX0_takeWidened 17 = .ok (.ifCond .eq 16, 3) := by decide +kernel
theorem dX0_takeWidened_20 : decode cX0_takeWidened 20 = .ok (.aload_n 0, 1) := by decide +kernel
theorem dX0_takeWidened_21 : decode cX0_takeWidened 21 = .ok (.iload_n 2, 1) := by decide +kernel
theorem dX0_takeWidened_22 : decode cX0_takeWidened 22 = .ok (.aload_n 1, 1) := by decide +kernel
theorem dX0_takeWidened_23 : decode cX0_takeWidened 23 = .ok (.iload_n 2, 1) := by decide +kernel
theorem dX0_takeWidened_24 : decode cX0_takeWidened 24 = .ok (.invokevirtual 36, 3) := by decide +kernel
theorem dX0_takeWidened_27 : decode cX0_takeWidened 27 = .ok (.invokevirtual 48, 3) := by decide +kernel
theorem dX0_takeWidened_30 : decode cX0_takeWidened 30 = .ok (.goto 13, 3) := by decide +kernel
theorem dX0_takeWidened_33 : decode cX0_takeWidened 33 = .ok (.aload_n 0, 1) := by decide +kernel
theorem dX0_takeWidened_34 : decode cX0_takeWidened 34 = .ok (.iload_n 2, 1) := by decide +kernel
theorem dX0_takeWidened_35 : decode cX0_takeWidened 35 = .ok (.aload_n 1, 1) := by decide +kernel
theorem dX0_takeWidened_36 : decode cX0_takeWidened 36 = .ok (.iload_n 2, 1) := by decide +kernel
theorem dX0_takeWidened_37 : decode cX0_takeWidened 37 = .ok (.invokevirtual 40, 3) := by decide +kernel
theorem dX0_takeWidened_40 : decode cX0_takeWidened 40 = .ok (.invokevirtual 62, 3) := by decide +kernel
theorem dX0_takeWidened_43 : decode cX0_takeWidened 43 = .ok (.iinc 2 1, 3) := by decide +kernel
theorem dX0_takeWidened_46 : decode cX0_takeWidened 46 = .ok (.goto (-44), 3) := by decide +kernel
theorem dX0_takeWidened_49 : decode cX0_takeWidened 49 = .ok (.return_, 1) := by decide +kernel
set_option maxRecDepth 20000 in
theorem ggX0_sum_X0_doubleAt : GoodIn wsX0_sum wsX0_doubleAt := goodIn_r _ [6, 7, 8, 9, 10, 11, 12, 13, 5, 14, 15, 16, 17, 18, 19, 20, 32, 33, 34, 35] (by decide +kernel) (by decide +kernel)
set_option maxRecDepth 20000 in
theorem gX0_sum_X0_doubleAt : GoodIn wsX0_sum (wsV RX0 66 RX0 yX0_doubleAt wsX0_doubleAt) := goodIn_app (goodIn_of _ (by decide +kernel)) ggX0_sum_X0_doubleAt
set_option maxRecDepth 20000 in
theorem ggX0_sum_X2_sumOf : GoodIn wsX0_sum wsX2_sumOf := goodIn_r _ [22, 23, 24, 9, 25, 26, 27, 28, 29, 30, 31] (by decide +kernel) (by decide +kernel)
set_option maxRecDepth 20000 in
theorem gX0_sum_X2_sumOf_n69 : GoodIn wsX0_sum (wsX2_sumOf) := ggX0_sum_X2_sumOf
theorem dX0_sum_0 : decode cX0_sum 0 = .ok (.dconst 0, 1) := by decide +kernel
theorem dX0_sum_1 : decode cX0_sum 1 = .ok (.dstore_n 1, 1) := by decide +kernel
theorem dX0_sum_2 : decode cX0_sum 2 = .ok (.iconst 0, 1) := by decide +kernel
theorem dX0_sum_3 : decode cX0_sum 3 = .ok (.istore_n 3, 1) := by decide +kernel
theorem dX0_sum_4 : decode cX0_sum 4 = .ok (.iload_n 3, 1) := by decide +kernel
theorem dX0_sum_5 : decode cX0_sum 5 = .ok (.aload_n 0, 1) := by decide +kernel
theorem dX0_sum_6 : decode cX0_sum 6 = .ok (.getfield 22, 3) := by decide +kernel
theorem dX0_sum_9 : decode cX0_sum 9 = .ok (.if_icmp .ge 19, 3) := by decide +kernel
theorem dX0_sum_12 : decode cX0_sum 12 = .ok (.dload_n 1, 1) := by decide +kernel
theorem dX0_sum_13 : decode cX0_sum 13 = .ok (.aload_n 0, 1) := by decide +kernel
theorem dX0_sum_14 : decode cX0_sum 14 = .ok (.iload_n 3, 1) := by decide +kernel
theorem dX0_sum_15 : decode cX0_sum 15 = .ok (.invokevirtual 66, 3) := by decide +kernel
theorem dX0_sum_18 : decode cX0_sum 18 = .ok (.invokestatic 69, 3) := by decide +kernel
theorem dX0_sum_21 : decode cX0_sum 21 = .ok (.dstore_n 1, 1) := by decide +kernel
theorem dX0_sum_22 : decode cX0_sum 22 = .ok (.iinc 3 1, 3) := by decide +kernel
theorem dX0_sum_25 : decode cX0_sum 25 = .ok (.goto (-21), 3) := by decide +kernel
theorem dX0_sum_28 : decode cX0_sum 28 = .ok (.dload_n 1, 1) := by decide +kernel
theorem dX0_sum_29 : decode cX0_sum 29 = .ok (.dreturn, 1) := by decide +kernel
theorem dX1_init_0 : decode cX1_init 0 = .ok (.aload_n 0, 1) := by decide +kernel
theorem dX1_init_1 : decode cX1_init 1 = .ok (.invokespecial 1, 3) := by decide +kernel
theorem dX1_init_4 : decode cX1_init 4 = .ok (.aload_n 0, 1) := by decide +kernel
theorem dX1_init_5 : decode cX1_init 5 = .ok (.bipush 10, 2) := by decide +kernel
theorem dX1_init_7 : decode cX1_init 7 = .ok (.newarray .double, 2) := by decide +kernel
theorem dX1_init_9 : decode cX1_init 9 = .ok (.putfield 9, 3) := by decide +kernel
theorem dX1_init_12 : decode cX1_init 12 = .ok (.ldc2_w 13, 3) := by decide +kernel
theorem dX1_init_15 : decode cX1_init 15 = .ok (.dstore_n 1, 1) := by decide +kernel
theorem dX1_init_16 : decode cX1_init 16 = .ok (.iconst 0, 1) := by decide +kernel
theorem dX1_init_17 : decode cX1_init 17 = .ok (.istore_n 3, 1) := by decide +kernel
theorem dX1_init_18 : decode cX1_init 18 = .ok (.iload_n 3, 1) := by decide +kernel
theorem dX1_init_19 : decode cX1_init 19 = .ok (.aload_n 0, 1) := by decide +kernel
theorem dX1_init_20 : decode cX1_init 20 = .ok (.getfield 9, 3) := by decide +kernel
theorem dX1_init_23 : decode cX1_init 23 = .ok (.arraylength, 1) := by decide +kernel
theorem dX1_init_24 : decode cX1_init 24 = .ok (.if_icmp .ge 20, 3) := by decide +kernel
theorem dX1_init_27 : decode cX1_init 27 = .ok (.aload_n 0, 1) := by decide +kernel
theorem dX1_init_28 : decode cX1_init 28 = .ok (.getfield 9, 3) := by decide +kernel
theorem dX1_init_31 : decode cX1_init 31 = .ok (.iload_n 3, 1) := by decide +kernel
theorem dX1_init_32 : decode cX1_init 32 = .ok (.dload_n 1, 1) := by decide +kernel
theorem dX1_init_33 : decode cX1_init 33 = .ok (.dastore, 1) := by decide +kernel
theorem dX1_init_34 : decode cX1_init 34 = .ok (.dload_n 1, 1) := by decide +kernel
theorem dX1_init_35 : decode cX1_init 35 = .ok (.dload_n 1, 1) := by decide +kernel
theorem dX1_init_36 : decode cX1_init 36 = .ok (.dmul, 1) := by decide +kernel
theorem dX1_init_37 : decode cX1_init 37 = .ok (.dstore_n 1, 1) := by decide +kernel
theorem dX1_init_38 : decode cX1_init 38 = .ok (.iinc 3 1, 3) := by decide +kernel
theorem dX1_init_41 : decode cX1_init 41 = .ok (.goto (-23), 3) := by decide +kernel
theorem dX1_init_44 : decode cX1_init 44 = .ok (.return_, 1) := by decide +kernel
set_option maxRecDepth 20000 in
theorem ggX1_of_X1_ofPositive : GoodIn wsX1_of wsX1_ofPositive := goodIn_r _ [7, 8, 9, 10, 11, 12, 13, 14, 15, 16, 17, 18, 6, 19, 20, 21, 22, 23, 24] (by decide +kernel) (by decide +kernel)
set_option maxRecDepth 20000 in
theorem gX1_of_X1_ofPositive : GoodIn wsX1_of (wsV RX1 19 RX1 yX1_ofPositive wsX1_ofPositive) := goodIn_app (goodIn_of _ (by decide +kernel)) ggX1_of_X1_ofPositive
theorem dX1_of_0 : decode cX1_of 0 = .ok (.dload_n 1, 1) := by decide +kernel
theorem dX1_of_1 : decode cX1_of 1 = .ok (.dload_n 1, 1) := by decide +kernel
theorem dX1_of_2 : decode cX1_of 2 = .ok (.dcmp .l, 1) := by decide +kernel
theorem dX1_of_3 : decode cX1_of 3 = .ok (.ifCond .eq 7, 3) := by decide +kernel
theorem dX1_of_6 : decode cX1_of 6 = .ok (.ldc2_w 15, 3) := by decide +kernel
theorem dX1_of_9 : decode cX1_of 9 = .ok (.lreturn, 1) := by decide +kernel
theorem dX1_of_10 : decode cX1_of 10 = .ok (.dload_n 1, 1) := by decide +kernel
theorem dX1_of_11 : decode cX1_of 11 = .ok (.dconst 0, 1) := by decide +kernel
theorem dX1_of_12 : decode cX1_of 12 = .ok (.dcmp .l, 1) := by decide +kernel
theorem dX1_of_13 : decode cX1_of 13 = .ok (.ifCond .ne 19, 3) := by decide +kernel
theorem dX1_of_16 : decode cX1_of 16 = .ok (.dconst 1, 1) := by decide +kernel
theorem dX1_of_17 : decode cX1_of 17 = .ok (.dload_n 1, 1) := by decide +kernel
theorem dX1_of_18 : decode cX1_of 18 = .ok (.ddiv, 1) := by decide +kernel
theorem dX1_of_19 : decode cX1_of 19 = .ok (.dconst 0, 1) := by decide +kernel
theorem dX1_of_20 : decode cX1_of 20 = .ok (.dcmp .g, 1) := by decide +kernel
theorem dX1_of_21 : decode cX1_of 21 = .ok (.ifCond .ge 9, 3) := by decide +kernel
theorem dX1_of_24 : decode cX1_of 24 = .ok (.ldc2_w 17, 3) := by decide +kernel
theorem dX1_of_27 : decode cX1_of 27 = .ok (.goto 4, 3) := by decide +kernel
theorem dX1_of_30 : decode cX1_of 30 = .ok (.lconst 0, 1) := by decide +kernel
theorem dX1_of_31 : decode cX1_of 31 = .ok (.lreturn, 1) := by decide +kernel
theorem dX1_of_32 : decode cX1_of 32 = .ok (.dload_n 1, 1) := by decide +kernel
theorem dX1_of_33 : decode cX1_of 33 = .ok (.dconst 0, 1) := by decide +kernel
theorem dX1_of_34 : decode cX1_of 34 = .ok (.dcmp .g, 1) := by decide +kernel
theorem dX1_of_35 : decode cX1_of 35 = .ok (.ifCond .ge 16, 3) := by decide +kernel
theorem dX1_of_38 : decode cX1_of 38 = .ok (.ldc2_w 17, 3) := by decide +kernel
theorem dX1_of_41 : decode cX1_of 41 = .ok (.aload_n 0, 1) := by decide +kernel
theorem dX1_of_42 : decode cX1_of 42 = .ok (.dload_n 1, 1) := by decide +kernel
theorem dX1_of_43 : decode cX1_of 43 = .ok (.dneg, 1) := by decide +kernel
theorem dX1_of_44 : decode cX1_of 44 = .ok (.invokevirtual 19, 3) := by decide +kernel
theorem dX1_of_47 : decode cX1_of 47 = .ok (.lor, 1) := by decide +kernel
theorem dX1_of_48 : decode cX1_of 48 = .ok (.goto 8, 3) := by decide +kernel
theorem dX1_of_51 : decode cX1_of 51 = .ok (.aload_n 0, 1) := by decide +kernel
theorem dX1_of_52 : decode cX1_of 52 = .ok (.dload_n 1, 1) := by decide +kernel
theorem dX1_of_53 : decode cX1_of 53 = .ok (.invokevirtual 19, 3) := by decide +kernel
theorem dX1_of_56 : decode cX1_of 56 = .ok (.lreturn, 1) := by decide +kernel
set_option maxRecDepth 20000 in
theorem ggX1_ofPositive_X2_isInfinite : GoodIn wsX1_ofPositive wsX2_isInfinite := goodIn_r _ [6, 7, 8] (by decide +kernel) (by decide +kernel)
set_option maxRecDepth 20000 in
theorem gX1_ofPositive_X2_isInfinite_n23 : GoodIn wsX1_ofPositive (wsX2_isInfinite) := ggX1_ofPositive_X2_isInfinite
set_option maxRecDepth 20000 in
theorem ggX1_ofPositive_X1_ofNormal : GoodIn wsX1_ofPositive wsX1_ofNormal := goodIn_r _ [13, 14, 15, 16, 17, 18] (by decide +kernel) (by decide +kernel)
set_option maxRecDepth 20000 in
theorem gX1_ofPositive_X1_ofNormal : GoodIn wsX1_ofPositive (wsV RX1 35 RX1 yX1_ofNormal wsX1_ofNormal) := goodIn_app (goodIn_of _ (by decide +kernel)) ggX1_ofPositive_X1_ofNormal
theorem dX1_ofPositive_0 : decode cX1_ofPositive 0 = .ok (.dload_n 1, 1) := by decide +kernel
theorem dX1_ofPositive_1 : decode cX1_ofPositive 1 = .ok (.invokestatic 23, 3) := by decide +kernel
theorem dX1_ofPositive_4 : decode cX1_ofPositive 4 = .ok (.ifCond .eq 7, 3) := by decide +kernel
theorem dX1_ofPositive_7 : decode cX1_ofPositive 7 = .ok (.ldc2_w 29, 3) := by decide +kernel
theorem dX1_ofPositive_10 : decode cX1_ofPositive 10 = .ok (.lreturn, 1) := by decide +kernel
theorem dX1_ofPositive_11 : decode cX1_ofPositive 11 = .ok (.dload_n 1, 1) := by decide +kernel
theorem dX1_ofPositive_12 : decode cX1_ofPositive 12 = .ok (.ldc2_w 31, 3) := by decide +kernel
theorem dX1_ofPositive_15 : decode cX1_ofPositive 15 = .ok (.dcmp .g, 1) := by decide +kernel
theorem dX1_ofPositive_16 : decode cX1_ofPositive 16 = .ok (.ifCond .ge 7, 3) := by decide +kernel
theorem dX1_ofPositive_19 : decode cX1_ofPositive 19 = .ok (.iconst 1, 1) := by decide +kernel
theorem dX1_ofPositive_20 : decode cX1_ofPositive 20 = .ok (.goto 4, 3) := by decide +kernel
theorem dX1_ofPositive_23 : decode cX1_ofPositive 23 = .ok (.iconst 0, 1) := by decide +kernel
theorem dX1_ofPositive_24 : decode cX1_ofPositive 24 = .ok (.istore_n 3, 1) := by decide +kernel
theorem dX1_ofPositive_25 : decode cX1_ofPositive 25 = .ok (.iload_n 3, 1) := by decide +kernel
theorem dX1_ofPositive_26 : decode cX1_ofPositive 26 = .ok (.ifCond .eq 12, 3) := by decide +kernel
theorem dX1_ofPositive_29 : decode cX1_ofPositive 29 = .ok (.dload_n 1, 1) := by decide +kernel
theorem dX1_ofPositive_30 : decode cX1_ofPositive 30 = .ok (.ldc2_w 33, 3) := by decide +kernel
theorem dX1_ofPositive_33 : decode cX1_ofPositive 33 = .ok (.ddiv, 1) := by decide +kernel
theorem dX1_ofPositive_34 : decode cX1_ofPositive 34 = .ok (.d2l, 1) := by decide +kernel
theorem dX1_ofPositive_35 : decode cX1_ofPositive 35 = .ok (.goto 8, 3) := by decide +kernel
theorem dX1_ofPositive_38 : decode cX1_ofPositive 38 = .ok (.aload_n 0, 1) := by decide +kernel
theorem dX1_ofPositive_39 : decode cX1_ofPositive 39 = .ok (.dload_n 1, 1) := by decide +kernel
theorem dX1_ofPositive_40 : decode cX1_ofPositive 40 = .ok (.invokevirtual 35, 3) := by decide +kernel
theorem dX1_ofPositive_43 : decode cX1_ofPositive 43 = .ok (.lreturn, 1) := by decide +kernel
theorem dX1_ofNormal_0 : decode cX1_ofNormal 0 = .ok (.dload_n 1, 1) := by decide +kernel
theorem dX1_ofNormal_1 : decode cX1_ofNormal 1 = .ok (.dstore_n 3, 1) := by decide +kernel
theorem dX1_ofNormal_2 : decode cX1_ofNormal 2 = .ok (.iconst 0, 1) := by decide +kernel
theorem dX1_ofNormal_3 : decode cX1_ofNormal 3 = .ok (.istore 5, 2) := by decide +kernel
theorem dX1_ofNormal_5 : decode cX1_ofNormal 5 = .ok (.aload_n 0, 1) := by decide +kernel
theorem dX1_ofNormal_6 : decode cX1_ofNormal 6 = .ok (.getfield 9, 3) := by decide +kernel
theorem dX1_ofNormal_9 : decode cX1_ofNormal 9 = .ok (.arraylength, 1) := by decide +kernel
theorem dX1_ofNormal_10 : decode cX1_ofNormal 10 = .ok (.iconst 1, 1) := by decide +kernel
theorem dX1_ofNormal_11 : decode cX1_ofNormal 11 = .ok (.isub, 1) := by decide +kernel
theorem dX1_ofNormal_12 : decode cX1_ofNormal 12 = .ok (.istore 6, 2) := by decide +kernel
theorem dX1_ofNormal_14 : decode cX1_ofNormal 14 = .ok (.iload 6, 2) := by decide +kernel
theorem dX1_ofNormal_16 : decode cX1_ofNormal 16 = .ok (.ifCond .lt 67, 3) := by decide +kernel
theorem dX1_ofNormal_19 : decode cX1_ofNormal 19 = .ok (.aload_n 0, 1) := by decide +kernel
theorem dX1_ofNormal_20 : decode cX1_ofNormal 20 = .ok (.getfield 9, 3) := by decide +kernel
theorem dX1_ofNormal_23 : decode cX1_ofNormal 23 = .ok (.iload 6, 2) := by decide +kernel
theorem dX1_ofNormal_25 : decode cX1_ofNormal 25 = .ok (.daload, 1) := by decide +kernel
theorem dX1_ofNormal_26 : decode cX1_ofNormal 26 = .ok (.dstore 7, 2) := by decide +kernel
theorem dX1_ofNormal_28 : decode cX1_ofNormal 28 = .ok (.dload_n 3, 1) := by decide +kernel
theorem dX1_ofNormal_29 : decode cX1_ofNormal 29 = .ok (.dload 7, 2) := by decide +kernel
theorem dX1_ofNormal_31 : decode cX1_ofNormal 31 = .ok (.dcmp .l, 1) := by decide +kernel
theorem dX1_ofNormal_32 : decode cX1_ofNormal 32 = .ok (.ifCond .lt 20, 3) := by decide +kernel
theorem dX1_ofNormal_35 : decode cX1_ofNormal 35 = .ok (.dload_n 3, 1) := by decide +kernel
theorem dX1_ofNormal_36 : decode cX1_ofNormal 36 = .ok (.dload 7, 2) := by decide +kernel
theorem dX1_ofNormal_38 : decode cX1_ofNormal 38 = .ok (.ddiv, 1) := by decide +kernel
theorem dX1_ofNormal_39 : decode cX1_ofNormal 39 = .ok (.dstore_n 3, 1) := by decide +kernel
theorem dX1_ofNormal_40 : decode cX1_ofNormal 40 = .ok (.iload 5, 2) := by decide +kernel
theorem dX1_ofNormal_42 : decode cX1_ofNormal 42 = .ok (.iconst 1, 1) := by decide +kernel
theorem dX1_ofNormal_43 : decode cX1_ofNormal 43 = .ok (.iload 6, 2) := by decide +kernel
theorem dX1_ofNormal_45 : decode cX1_ofNormal 45 = .ok (.ishl, 1) := by decide +kernel
theorem dX1_ofNormal_46 : decode cX1_ofNormal 46 = .ok (.iadd, 1) := by decide +kernel
theorem dX1_ofNormal_47 : decode cX1_ofNormal 47 = .ok (.istore 5, 2) := by decide +kernel
theorem dX1_ofNormal_49 : decode cX1_ofNormal 49 = .ok (.goto 28, 3) := by decide +kernel
theorem dX1_ofNormal_52 : decode cX1_ofNormal 52 = .ok (.dload_n 3, 1) := by decide +kernel
theorem dX1_ofNormal_53 : decode cX1_ofNormal 53 = .ok (.dload 7, 2) := by decide +kernel
theorem dX1_ofNormal_55 : decode cX1_ofNormal 55 = .ok (.dmul, 1) := by decide +kernel
theorem dX1_ofNormal_56 : decode cX1_ofNormal 56 = .ok (.ldc2_w 13, 3) := by decide +kernel
theorem dX1_ofNormal_59 : decode cX1_ofNormal 59 = .ok (.dcmp .g, 1) := by decide +kernel
theorem dX1_ofNormal_60 : decode cX1_ofNormal 60 = .ok (.ifCond .ge 17, 3) := by decide +kernel
theorem dX1_ofNormal_63 : decode cX1_ofNormal 63 = .ok (.dload_n 3, 1) := by decide +kernel
theorem dX1_ofNormal_64 : decode cX1_ofNormal 64 = .ok (.dload 7, 2) := by decide +kernel
theorem dX1_ofNormal_66 : decode cX1_ofNormal 66 = .ok (.dmul, 1) := by decide +kernel
theorem dX1_ofNormal_67 : decode cX1_ofNormal 67 = .ok (.dstore_n 3, 1) := by decide +kernel
theorem dX1_ofNormal_68 : decode cX1_ofNormal 68 = .ok (.iload 5, 2) := by decide +kernel
theorem dX1_ofNormal_70 : decode cX1_ofNormal 70 = .ok (.iconst 1, 1) := by decide +kernel
theorem dX1_ofNormal_71 : decode cX1_ofNormal 71 = .ok (.iload 6, 2) := by decide +kernel
theorem dX1_ofNormal_73 : decode cX1_ofNormal 73 = .ok (.ishl, 1) := by decide +kernel
theorem dX1_ofNormal_74 : decode cX1_ofNormal 74 = .ok (.isub, 1) := by decide +kernel
theorem dX1_ofNormal_75 : decode cX1_ofNormal 75 = .ok (.istore 5, 2) := by decide +kernel
theorem dX1_ofNormal_77 : decode cX1_ofNormal 77 = .ok (.iinc 6 (-1), 3) := by decide +kernel
theorem dX1_ofNormal_80 : decode cX1_ofNormal 80 = .ok (.goto (-66), 3) := by decide +kernel
theorem dX1_ofNormal_83 : decode cX1_ofNormal 83 = .ok (.dload_n 3, 1) := by decide +kernel
theorem dX1_ofNormal_84 : decode cX1_ofNormal 84 = .ok (.ldc2_w 38, 3) := by decide +kernel
theorem dX1_ofNormal_87 : decode cX1_ofNormal 87 = .ok (.dmul, 1) := by decide +kernel
theorem dX1_ofNormal_88 : decode cX1_ofNormal 88 = .ok (.d2l, 1) := by decide +kernel
theorem dX1_ofNormal_89 : decode cX1_ofNormal 89 = .ok (.ldc2_w 40, 3) := by decide +kernel
theorem dX1_ofNormal_92 : decode cX1_ofNormal 92 = .ok (.lsub, 1) := by decide +kernel
theorem dX1_ofNormal_93 : decode cX1_ofNormal 93 = .ok (.lstore 6, 2) := by decide +kernel
theorem dX1_ofNormal_95 : decode cX1_ofNormal 95 = .ok (.iload 5, 2) := by decide +kernel
theorem dX1_ofNormal_97 : decode cX1_ofNormal 97 = .ok (.sipush 1023, 3) := by decide +kernel
theorem dX1_ofNormal_100 : decode cX1_ofNormal 100 = .ok (.iadd, 1) := by decide +kernel
theorem dX1_ofNormal_101 : decode cX1_ofNormal 101 = .ok (.i2l, 1) := by decide +kernel
theorem dX1_ofNormal_102 : decode cX1_ofNormal 102 = .ok (.bipush 52, 2) := by decide +kernel
theorem dX1_ofNormal_104 : decode cX1_ofNormal 104 = .ok (.lshl, 1) := by decide +kernel
theorem dX1_ofNormal_105 : decode cX1_ofNormal 105 = .ok (.lload 6, 2) := by decide +kernel
theorem dX1_ofNormal_107 : decode cX1_ofNormal 107 = .ok (.ladd, 1) := by decide +kernel
theorem dX1_ofNormal_108 : decode cX1_ofNormal 108 = .ok (.lreturn, 1) := by decide +kernel
set_option maxRecDepth 20000 in
theorem ggX2_init_X1_init : GoodIn wsX2_init wsX1_init := goodIn_r _ [16, 17, 2, 3, 18, 19, 20, 26] (by decide +kernel) (by decide +kernel)
set_option maxRecDepth 20000 in
theorem gX2_init_X1_init : GoodIn wsX2_init (wsX1_init) := ggX2_init_X1_init
theorem dX2_init_0 : decode cX2_init 0 = .ok (.aload_n 0, 1) := by decide +kernel
theorem dX2_init_1 : decode cX2_init 1 = .ok (.invokespecial 1, 3) := by decide +kernel
theorem dX2_init_4 : decode cX2_init 4 = .ok (.aload_n 0, 1) := by decide +kernel
theorem dX2_init_5 : decode cX2_init 5 = .ok (.bipush 60, 2) := by decide +kernel
theorem dX2_init_7 : decode cX2_init 7 = .ok (.anewarray 9, 3) := by decide +kernel
theorem dX2_init_10 : decode cX2_init 10 = .ok (.putfield 11, 3) := by decide +kernel
theorem dX2_init_13 : decode cX2_init 13 = .ok (.aload_n 0, 1) := by decide +kernel
theorem dX2_init_14 : decode cX2_init 14 = .ok (.bipush 6, 2) := by decide +kernel
theorem dX2_init_16 : decode cX2_init 16 = .ok (.newarray .int, 2) := by decide +kernel
theorem dX2_init_18 : decode cX2_init 18 = .ok (.putfield 15, 3) := by decide +kernel
theorem dX2_init_21 : decode cX2_init 21 = .ok (.aload_n 0, 1) := by decide +kernel
theorem dX2_init_22 : decode cX2_init 22 = .ok (.new 19, 3) := by decide +kernel
theorem dX2_init_25 : decode cX2_init 25 = .ok (.dup, 1) := by decide +kernel
theorem dX2_init_26 : decode cX2_init 26 = .ok (.invokespecial 21, 3) := by decide +kernel
theorem dX2_init_29 : decode cX2_init 29 = .ok (.putfield 22, 3) := by decide +kernel
theorem dX2_init_32 : decode cX2_init 32 = .ok (.aload_n 0, 1) := by decide +kernel
theorem dX2_init_33 : decode cX2_init 33 = .ok (.iconst 0, 1) := by decide +kernel
theorem dX2_init_34 : decode cX2_init 34 = .ok (.putfield 26, 3) := by decide +kernel
theorem dX2_init_37 : decode cX2_init 37 = .ok (.aload_n 0, 1) := by decide +kernel
theorem dX2_init_38 : decode cX2_init 38 = .ok (.iconst 0, 1) := by decide +kernel
theorem dX2_init_39 : decode cX2_init 39 = .ok (.putfield 30, 3) := by decide +kernel
theorem dX2_init_42 : decode cX2_init 42 = .ok (.return_, 1) := by decide +kernel
set_option maxRecDepth 20000 in
theorem ggX2_create_X2_isKind : GoodIn wsX2_create wsX2_isKind := goodIn_r _ [9] (by decide +kernel) (by decide +kernel)
set_option maxRecDepth 20000 in
theorem gX2_create_X2_isKind : GoodIn wsX2_create (va_wsS RX2 33 yX2_isKind wsX2_isKind) := goodIn_app (goodIn_of _ (by decide +kernel)) ggX2_create_X2_isKind
set_option maxRecDepth 20000 in
theorem ggX2_create_X2_holdsCells : GoodIn wsX2_create wsX2_holdsCells := goodIn_r _ [12] (by decide +kernel) (by decide +kernel)
set_option maxRecDepth 20000 in
theorem gX2_create_X2_holdsCells : GoodIn wsX2_create (va_wsS RX2 44 yX2_holdsCells wsX2_holdsCells) := goodIn_app (goodIn_of _ (by decide +kernel)) ggX2_create_X2_holdsCells
set_option maxRecDepth 20000 in
theorem ggX2_create_X2_isLength : GoodIn wsX2_create wsX2_isLength := goodIn_r _ [15] (by decide +kernel) (by decide +kernel)
set_option maxRecDepth 20000 in
theorem gX2_create_X2_isLength : GoodIn wsX2_create (va_wsS RX2 47 yX2_isLength wsX2_isLength) := goodIn_app (goodIn_of _ (by decide +kernel)) ggX2_create_X2_isLength
set_option maxRecDepth 20000 in
theorem ggX2_create_X2_refuseWhenFull : GoodIn wsX2_create wsX2_refuseWhenFull := goodIn_ca (goodIn_r _ [19, 20, 21, 22, 23, 46, 47, 48, 49, 50] (by decide +kernel) (by decide +kernel)) (goodIn_sub (fun _ h => List.mem_cons_of_mem _ (List.mem_append_right _ h)) (by decide +kernel))
set_option maxRecDepth 20000 in
theorem gX2_create_X2_refuseWhenFull : GoodIn wsX2_create (wsV RX2 52 RX2 yX2_refuseWhenFull wsX2_refuseWhenFull) := goodIn_app (goodIn_of _ (by decide +kernel)) ggX2_create_X2_refuseWhenFull
set_option maxRecDepth 20000 in
theorem ggX2_create_X0_init : GoodIn wsX2_create wsX0_init := goodIn_r _ [26, 27, 28, 29, 30, 31, 32, 33, 34, 35, 11, 8, 12, 14, 15, 36, 37, 42, 43, 44, 45] (by decide +kernel) (by decide +kernel)
set_option maxRecDepth 20000 in
theorem gX2_create_X0_init : GoodIn wsX2_create (wsX0_init) := ggX2_create_X0_init
set_option maxRecDepth 20000 in
theorem ggX2_create_X2_addColumn : GoodIn wsX2_create wsX2_addColumn := goodIn_r _ [41, 22, 23, 46, 47, 48, 49, 50] (by decide +kernel) (by decide +kernel)
set_option maxRecDepth 20000 in
theorem gX2_create_X2_addColumn : GoodIn wsX2_create (wsV RX2 58 RX2 yX2_addColumn wsX2_addColumn) := goodIn_app (goodIn_of _ (by decide +kernel)) ggX2_create_X2_addColumn
theorem dX2_create_0 : decode cX2_create 0 = .ok (.iload_n 1, 1) := by decide +kernel
theorem dX2_create_1 : decode cX2_create 1 = .ok (.invokestatic 33, 3) := by decide +kernel
theorem dX2_create_4 : decode cX2_create 4 = .ok (.ifCond .ne 13, 3) := by decide +kernel
theorem dX2_create_7 : decode cX2_create 7 = .ok (.new 37, 3) := by decide +kernel
theorem dX2_create_10 : decode cX2_create 10 = .ok (.dup, 1) := by decide +kernel
theorem dX2_create_11 : decode cX2_create 11 = .ok (.ldc 39, 2) := by decide +kernel
theorem dX2_create_13 : decode cX2_create 13 = .ok (.invokespecial 41, 3) := by decide +kernel
theorem dX2_create_16 : decode cX2_create 16 = .ok (.athrow, 1) := by decide +kernel
theorem dX2_create_17 : decode cX2_create 17 = .ok (.iload_n 1, 1) := by decide +kernel
theorem dX2_create_18 : decode cX2_create 18 = .ok (.invokestatic 44, 3) := by decide +kernel
theorem dX2_create_21 : decode cX2_create 21 = .ok (.ifCond .eq 20, 3) := by decide +kernel
theorem dX2_create_24 : decode cX2_create 24 = .ok (.iload_n 2, 1) := by decide +kernel
theorem dX2_create_25 : decode cX2_create 25 = .ok (.invokestatic 47, 3) := by decide +kernel
theorem dX2_create_28 : decode cX2_create 28 = .ok (.ifCond .ne 13, 3) := by decide +kernel
theorem dX2_create_31 : decode cX2_create 31 = .ok (.new 37, 3) := by decide +kernel
theorem dX2_create_34 : decode cX2_create 34 = .ok (.dup, 1) := by decide +kernel
theorem dX2_create_35 : decode cX2_create 35 = .ok (.ldc 50, 2) := by decide +kernel
theorem dX2_create_37 : decode cX2_create 37 = .ok (.invokespecial 41, 3) := by decide +kernel
theorem dX2_create_40 : decode cX2_create 40 = .ok (.athrow, 1) := by decide +kernel
theorem dX2_create_41 : decode cX2_create 41 = .ok (.aload_n 0, 1) := by decide +kernel
theorem dX2_create_42 : decode cX2_create 42 = .ok (.invokevirtual 52, 3) := by decide +kernel
theorem dX2_create_45 : decode cX2_create 45 = .ok (.aload_n 0, 1) := by decide +kernel
theorem dX2_create_46 : decode cX2_create 46 = .ok (.new 9, 3) := by decide +kernel
theorem dX2_create_49 : decode cX2_create 49 = .ok (.dup, 1) := by decide +kernel
theorem dX2_create_50 : decode cX2_create 50 = .ok (.iload_n 1, 1) := by decide +kernel
theorem dX2_create_51 : decode cX2_create 51 = .ok (.iload_n 2, 1) := by decide +kernel
theorem dX2_create_52 : decode cX2_create 52 = .ok (.invokespecial 55, 3) := by decide +kernel
theorem dX2_create_55 : decode cX2_create 55 = .ok (.invokevirtual 58, 3) := by decide +kernel
theorem dX2_create_58 : decode cX2_create 58 = .ok (.ireturn, 1) := by decide +kernel
theorem dX2_columnCount_0 : decode cX2_columnCount 0 = .ok (.aload_n 0, 1) := by decide +kernel
theorem dX2_columnCount_1 : decode cX2_columnCount 1 = .ok (.getfield 26, 3) := by decide +kernel
theorem dX2_columnCount_4 : decode cX2_columnCount 4 = .ok (.ireturn, 1) := by decide +kernel
set_option maxRecDepth 20000 in
theorem ggX2_kind_X2_columnAt : GoodIn wsX2_kind wsX2_columnAt := goodIn_ca (goodIn_r _ [6, 7, 8, 9, 14, 15, 16, 17, 18] (by decide +kernel) (by decide +kernel)) (goodIn_sub (fun _ h => List.mem_cons_of_mem _ (List.mem_append_right _ h)) (by decide +kernel))
set_option maxRecDepth 20000 in
theorem gX2_kind_X2_columnAt : GoodIn wsX2_kind (wsV RX2 62 RX2 yX2_columnAt wsX2_columnAt) := goodIn_app (goodIn_of _ (by decide +kernel)) ggX2_kind_X2_columnAt
theorem dX2_kind_0 : decode cX2_kind 0 = .ok (.aload_n 0, 1) := by decide +kernel
theorem dX2_kind_1 : decode cX2_kind 1 = .ok (.iload_n 1, 1) := by decide +kernel
theorem dX2_kind_2 : decode cX2_kind 2 = .ok (.invokevirtual 62, 3) := by decide +kernel
theorem dX2_kind_5 : decode cX2_kind 5 = .ok (.getfield 66, 3) := by decide +kernel
theorem dX2_kind_8 : decode cX2_kind 8 = .ok (.ireturn, 1) := by decide +kernel
set_option maxRecDepth 20000 in
theorem ggX2_length_X2_columnAt : GoodIn wsX2_length wsX2_columnAt := goodIn_ca (goodIn_r _ [6, 7, 8, 9, 24, 25, 26, 27, 28] (by decide +kernel) (by decide +kernel)) (goodIn_sub (fun _ h => List.mem_cons_of_mem _ (List.mem_append_right _ h)) (by decide +kernel))
set_option maxRecDepth 20000 in
theorem gX2_length_X2_columnAt : GoodIn wsX2_length (wsV RX2 62 RX2 yX2_columnAt wsX2_columnAt) := goodIn_app (goodIn_of _ (by decide +kernel)) ggX2_length_X2_columnAt
set_option maxRecDepth 20000 in
theorem ggX2_length_X2_codeOfColumn : GoodIn wsX2_length wsX2_codeOfColumn := goodIn_r _ [12, 13, 20, 21, 22, 23] (by decide +kernel) (by decide +kernel)
set_option maxRecDepth 20000 in
theorem gX2_length_X2_codeOfColumn : GoodIn wsX2_length (va_wsS RX2 69 yX2_codeOfColumn wsX2_codeOfColumn) := goodIn_app (goodIn_of _ (by decide +kernel)) ggX2_length_X2_codeOfColumn
set_option maxRecDepth 20000 in
theorem ggX2_length_X2_note : GoodIn wsX2_length wsX2_note := goodIn_r _ [17, 18, 19, 24, 25, 26, 27, 28] (by decide +kernel) (by decide +kernel)
set_option maxRecDepth 20000 in
theorem gX2_length_X2_note : GoodIn wsX2_length (wsV RX2 72 RX2 yX2_note wsX2_note) := goodIn_app (goodIn_of _ (by decide +kernel)) ggX2_length_X2_note
theorem dX2_length_0 : decode cX2_length 0 = .ok (.aload_n 0, 1) := by decide +kernel
theorem dX2_length_1 : decode cX2_length 1 = .ok (.iload_n 1, 1) := by decide +kernel
theorem dX2_length_2 : decode cX2_length 2 = .ok (.invokevirtual 62, 3) := by decide +kernel
theorem dX2_length_5 : decode cX2_length 5 = .ok (.astore_n 2, 1) := by decide +kernel
theorem dX2_length_6 : decode cX2_length 6 = .ok (.aload_n 0, 1) := by decide +kernel
theorem dX2_length_7 : decode cX2_length 7 = .ok (.aload_n 2, 1) := by decide +kernel
theorem dX2_length_8 : decode cX2_length 8 = .ok (.invokestatic 69, 3) := by decide +kernel
theorem dX2_length_11 : decode cX2_length 11 = .ok (.invokevirtual 72, 3) := by decide +kernel
theorem dX2_length_14 : decode cX2_length 14 = .ok (.pop, 1) := by decide +kernel
theorem dX2_length_15 : decode cX2_length 15 = .ok (.aload_n 2, 1) := by decide +kernel
theorem dX2_length_16 : decode cX2_length 16 = .ok (.getfield 76, 3) := by decide +kernel
theorem dX2_length_19 : decode cX2_length 19 = .ok (.ireturn, 1) := by decide +kernel
set_option maxRecDepth 20000 in
theorem ggX2_readBoolean_X2_columnAt : GoodIn wsX2_readBoolean wsX2_columnAt := goodIn_ca (goodIn_r _ [5, 6, 7, 8, 39, 40, 41, 42, 43] (by decide +kernel) (by decide +kernel)) (goodIn_sub (fun _ h => List.mem_cons_of_mem _ (List.mem_append_right _ h)) (by decide +kernel))
set_option maxRecDepth 20000 in
theorem gX2_readBoolean_X2_columnAt : GoodIn wsX2_readBoolean (wsV RX2 62 RX2 yX2_columnAt wsX2_columnAt) := goodIn_app (goodIn_of _ (by decide +kernel)) ggX2_readBoolean_X2_columnAt
set_option maxRecDepth 20000 in
theorem ggX2_readBoolean_X2_readWhole : GoodIn wsX2_readBoolean wsX2_readWhole := goodIn_r _ [12, 13, 14, 15, 4, 16, 17, 18, 19, 20, 21, 22, 23, 24, 25, 26, 27, 28, 29, 30, 31, 32, 33, 34, 35, 36, 37, 38, 44, 45, 46, 47, 39, 40, 41, 42, 43] (by decide +kernel) (by decide +kernel)
set_option maxRecDepth 20000 in
theorem gX2_readBoolean_X2_readWhole : GoodIn wsX2_readBoolean (wsV RX2 79 RX2 yX2_readWhole wsX2_readWhole) := goodIn_app (goodIn_of _ (by decide +kernel)) ggX2_readBoolean_X2_readWhole
theorem dX2_readBoolean_0 : decode cX2_readBoolean 0 = .ok (.aload_n 0, 1) := by decide +kernel
theorem dX2_readBoolean_1 : decode cX2_readBoolean 1 = .ok (.aload_n 0, 1) := by decide +kernel
theorem dX2_readBoolean_2 : decode cX2_readBoolean 2 = .ok (.iload_n 1, 1) := by decide +kernel
theorem dX2_readBoolean_3 : decode cX2_readBoolean 3 = .ok (.invokevirtual 62, 3) := by decide +kernel
theorem dX2_readBoolean_6 : decode cX2_readBoolean 6 = .ok (.iload_n 2, 1) := by decide +kernel
theorem dX2_readBoolean_7 : decode cX2_readBoolean 7 = .ok (.iconst 1, 1) := by decide +kernel
theorem dX2_readBoolean_8 : decode cX2_readBoolean 8 = .ok (.invokevirtual 79, 3) := by decide +kernel
theorem dX2_readBoolean_11 : decode cX2_readBoolean 11 = .ok (.lconst 0, 1) := by decide +kernel
theorem dX2_readBoolean_12 : decode cX2_readBoolean 12 = .ok (.lcmp, 1) := by decide +kernel
theorem dX2_readBoolean_13 : decode cX2_readBoolean 13 = .ok (.ifCond .eq 7, 3) := by decide +kernel
theorem dX2_readBoolean_16 : decode cX2_readBoolean 16 = .ok (.iconst 1, 1) := by decide +kernel
theorem dX2_readBoolean_17 : decode cX2_readBoolean 17 = .ok (.goto 4, 3) := by decide +kernel
theorem dX2_readBoolean_20 : decode cX2_readBoolean 20 = .ok (.iconst 0, 1) := by decide +kernel
theorem dX2_readBoolean_21 : decode cX2_readBoolean 21 = .ok (.ireturn, 1) := by decide +kernel
set_option maxRecDepth 20000 in
theorem ggX2_readByte_X2_columnAt : GoodIn wsX2_readByte wsX2_columnAt := goodIn_ca (goodIn_r _ [5, 6, 7, 8, 39, 40, 41, 42, 43] (by decide +kernel) (by decide +kernel)) (goodIn_sub (fun _ h => List.mem_cons_of_mem _ (List.mem_append_right _ h)) (by decide +kernel))
set_option maxRecDepth 20000 in
theorem gX2_readByte_X2_columnAt : GoodIn wsX2_readByte (wsV RX2 62 RX2 yX2_columnAt wsX2_columnAt) := goodIn_app (goodIn_of _ (by decide +kernel)) ggX2_readByte_X2_columnAt
set_option maxRecDepth 20000 in
theorem ggX2_readByte_X2_readWhole : GoodIn wsX2_readByte wsX2_readWhole := goodIn_r _ [12, 13, 14, 15, 4, 16, 17, 18, 19, 20, 21, 22, 23, 24, 25, 26, 27, 28, 29, 30, 31, 32, 33, 34, 35, 36, 37, 38, 44, 45, 46, 47, 39, 40, 41, 42, 43] (by decide +kernel) (by decide +kernel)
set_option maxRecDepth 20000 in
theorem gX2_readByte_X2_readWhole : GoodIn wsX2_readByte (wsV RX2 79 RX2 yX2_readWhole wsX2_readWhole) := goodIn_app (goodIn_of _ (by decide +kernel)) ggX2_readByte_X2_readWhole
theorem dX2_readByte_0 : decode cX2_readByte 0 = .ok (.aload_n 0, 1) := by decide +kernel
theorem dX2_readByte_1 : decode cX2_readByte 1 = .ok (.aload_n 0, 1) := by decide +kernel
theorem dX2_readByte_2 : decode cX2_readByte 2 = .ok (.iload_n 1, 1) := by decide +kernel
theorem dX2_readByte_3 : decode cX2_readByte 3 = .ok (.invokevirtual 62, 3) := by decide +kernel
theorem dX2_readByte_6 : decode cX2_readByte 6 = .ok (.iload_n 2, 1) := by decide +kernel
theorem dX2_readByte_7 : decode cX2_readByte 7 = .ok (.iconst 2, 1) := by decide +kernel
theorem dX2_readByte_8 : decode cX2_readByte 8 = .ok (.invokevirtual 79, 3) := by decide +kernel
theorem dX2_readByte_11 : decode cX2_readByte 11 = .ok (.l2i, 1) := by decide +kernel
theorem dX2_readByte_12 : decode cX2_readByte 12 = .ok (.ireturn, 1) := by decide +kernel
set_option maxRecDepth 20000 in
theorem ggX2_readChar_X2_columnAt : GoodIn wsX2_readChar wsX2_columnAt := goodIn_ca (goodIn_r _ [5, 6, 7, 8, 39, 40, 41, 42, 43] (by decide +kernel) (by decide +kernel)) (goodIn_sub (fun _ h => List.mem_cons_of_mem _ (List.mem_append_right _ h)) (by decide +kernel))
set_option maxRecDepth 20000 in
theorem gX2_readChar_X2_columnAt : GoodIn wsX2_readChar (wsV RX2 62 RX2 yX2_columnAt wsX2_columnAt) := goodIn_app (goodIn_of _ (by decide +kernel)) ggX2_readChar_X2_columnAt
set_option maxRecDepth 20000 in
theorem ggX2_readChar_X2_readWhole : GoodIn wsX2_readChar wsX2_readWhole := goodIn_r _ [12, 13, 14, 15, 4, 16, 17, 18, 19, 20, 21, 22, 23, 24, 25, 26, 27, 28, 29, 30, 31, 32, 33, 34, 35, 36, 37, 38, 44, 45, 46, 47, 39, 40, 41, 42, 43] (by decide +kernel) (by decide +kernel)
set_option maxRecDepth 20000 in
theorem gX2_readChar_X2_readWhole : GoodIn wsX2_readChar (wsV RX2 79 RX2 yX2_readWhole wsX2_readWhole) := goodIn_app (goodIn_of _ (by decide +kernel)) ggX2_readChar_X2_readWhole
theorem dX2_readChar_0 : decode cX2_readChar 0 = .ok (.aload_n 0, 1) := by decide +kernel
theorem dX2_readChar_1 : decode cX2_readChar 1 = .ok (.aload_n 0, 1) := by decide +kernel
theorem dX2_readChar_2 : decode cX2_readChar 2 = .ok (.iload_n 1, 1) := by decide +kernel
theorem dX2_readChar_3 : decode cX2_readChar 3 = .ok (.invokevirtual 62, 3) := by decide +kernel
theorem dX2_readChar_6 : decode cX2_readChar 6 = .ok (.iload_n 2, 1) := by decide +kernel
theorem dX2_readChar_7 : decode cX2_readChar 7 = .ok (.iconst 3, 1) := by decide +kernel
theorem dX2_readChar_8 : decode cX2_readChar 8 = .ok (.invokevirtual 79, 3) := by decide +kernel
theorem dX2_readChar_11 : decode cX2_readChar 11 = .ok (.l2i, 1) := by decide +kernel
theorem dX2_readChar_12 : decode cX2_readChar 12 = .ok (.ireturn, 1) := by decide +kernel
set_option maxRecDepth 20000 in
theorem ggX2_readShort_X2_columnAt : GoodIn wsX2_readShort wsX2_columnAt := goodIn_ca (goodIn_r _ [5, 6, 7, 8, 39, 40, 41, 42, 43] (by decide +kernel) (by decide +kernel)) (goodIn_sub (fun _ h => List.mem_cons_of_mem _ (List.mem_append_right _ h)) (by decide +kernel))
set_option maxRecDepth 20000 in
theorem gX2_readShort_X2_columnAt : GoodIn wsX2_readShort (wsV RX2 62 RX2 yX2_columnAt wsX2_columnAt) := goodIn_app (goodIn_of _ (by decide +kernel)) ggX2_readShort_X2_columnAt
set_option maxRecDepth 20000 in
theorem ggX2_readShort_X2_readWhole : GoodIn wsX2_readShort wsX2_readWhole := goodIn_r _ [12, 13, 14, 15, 4, 16, 17, 18, 19, 20, 21, 22, 23, 24, 25, 26, 27, 28, 29, 30, 31, 32, 33, 34, 35, 36, 37, 38, 44, 45, 46, 47, 39, 40, 41, 42, 43] (by decide +kernel) (by decide +kernel)
set_option maxRecDepth 20000 in
theorem gX2_readShort_X2_readWhole : GoodIn wsX2_readShort (wsV RX2 79 RX2 yX2_readWhole wsX2_readWhole) := goodIn_app (goodIn_of _ (by decide +kernel)) ggX2_readShort_X2_readWhole
theorem dX2_readShort_0 : decode cX2_readShort 0 = .ok (.aload_n 0, 1) := by decide +kernel
theorem dX2_readShort_1 : decode cX2_readShort 1 = .ok (.aload_n 0, 1) := by decide +kernel
theorem dX2_readShort_2 : decode cX2_readShort 2 = .ok (.iload_n 1, 1) := by decide +kernel
theorem dX2_readShort_3 : decode cX2_readShort 3 = .ok (.invokevirtual 62, 3) := by decide +kernel
theorem dX2_readShort_6 : decode cX2_readShort 6 = .ok (.iload_n 2, 1) := by decide +kernel
theorem dX2_readShort_7 : decode cX2_readShort 7 = .ok (.iconst 4, 1) := by decide +kernel
theorem dX2_readShort_8 : decode cX2_readShort 8 = .ok (.invokevirtual 79, 3) := by decide +kernel
theorem dX2_readShort_11 : decode cX2_readShort 11 = .ok (.l2i, 1) := by decide +kernel
theorem dX2_readShort_12 : decode cX2_readShort 12 = .ok (.ireturn, 1) := by decide +kernel
set_option maxRecDepth 20000 in
theorem ggX2_readInt_X2_columnAt : GoodIn wsX2_readInt wsX2_columnAt := goodIn_ca (goodIn_r _ [5, 6, 7, 8, 39, 40, 41, 42, 43] (by decide +kernel) (by decide +kernel)) (goodIn_sub (fun _ h => List.mem_cons_of_mem _ (List.mem_append_right _ h)) (by decide +kernel))
set_option maxRecDepth 20000 in
theorem gX2_readInt_X2_columnAt : GoodIn wsX2_readInt (wsV RX2 62 RX2 yX2_columnAt wsX2_columnAt) := goodIn_app (goodIn_of _ (by decide +kernel)) ggX2_readInt_X2_columnAt
set_option maxRecDepth 20000 in
theorem ggX2_readInt_X2_readWhole : GoodIn wsX2_readInt wsX2_readWhole := goodIn_r _ [12, 13, 14, 15, 4, 16, 17, 18, 19, 20, 21, 22, 23, 24, 25, 26, 27, 28, 29, 30, 31, 32, 33, 34, 35, 36, 37, 38, 44, 45, 46, 47, 39, 40, 41, 42, 43] (by decide +kernel) (by decide +kernel)
set_option maxRecDepth 20000 in
theorem gX2_readInt_X2_readWhole : GoodIn wsX2_readInt (wsV RX2 79 RX2 yX2_readWhole wsX2_readWhole) := goodIn_app (goodIn_of _ (by decide +kernel)) ggX2_readInt_X2_readWhole
theorem dX2_readInt_0 : decode cX2_readInt 0 = .ok (.aload_n 0, 1) := by decide +kernel
theorem dX2_readInt_1 : decode cX2_readInt 1 = .ok (.aload_n 0, 1) := by decide +kernel
theorem dX2_readInt_2 : decode cX2_readInt 2 = .ok (.iload_n 1, 1) := by decide +kernel
theorem dX2_readInt_3 : decode cX2_readInt 3 = .ok (.invokevirtual 62, 3) := by decide +kernel
theorem dX2_readInt_6 : decode cX2_readInt 6 = .ok (.iload_n 2, 1) := by decide +kernel
theorem dX2_readInt_7 : decode cX2_readInt 7 = .ok (.iconst 5, 1) := by decide +kernel
theorem dX2_readInt_8 : decode cX2_readInt 8 = .ok (.invokevirtual 79, 3) := by decide +kernel
theorem dX2_readInt_11 : decode cX2_readInt 11 = .ok (.l2i, 1) := by decide +kernel
theorem dX2_readInt_12 : decode cX2_readInt 12 = .ok (.ireturn, 1) := by decide +kernel
set_option maxRecDepth 20000 in
theorem ggX2_readLong_X2_columnAt : GoodIn wsX2_readLong wsX2_columnAt := goodIn_ca (goodIn_r _ [5, 6, 7, 8, 39, 40, 41, 42, 43] (by decide +kernel) (by decide +kernel)) (goodIn_sub (fun _ h => List.mem_cons_of_mem _ (List.mem_append_right _ h)) (by decide +kernel))
set_option maxRecDepth 20000 in
theorem gX2_readLong_X2_columnAt : GoodIn wsX2_readLong (wsV RX2 62 RX2 yX2_columnAt wsX2_columnAt) := goodIn_app (goodIn_of _ (by decide +kernel)) ggX2_readLong_X2_columnAt
set_option maxRecDepth 20000 in
theorem ggX2_readLong_X2_readWhole : GoodIn wsX2_readLong wsX2_readWhole := goodIn_r _ [12, 13, 14, 15, 4, 16, 17, 18, 19, 20, 21, 22, 23, 24, 25, 26, 27, 28, 29, 30, 31, 32, 33, 34, 35, 36, 37, 38, 44, 45, 46, 47, 39, 40, 41, 42, 43] (by decide +kernel) (by decide +kernel)
set_option maxRecDepth 20000 in
theorem gX2_readLong_X2_readWhole : GoodIn wsX2_readLong (wsV RX2 79 RX2 yX2_readWhole wsX2_readWhole) := goodIn_app (goodIn_of _ (by decide +kernel)) ggX2_readLong_X2_readWhole
theorem dX2_readLong_0 : decode cX2_readLong 0 = .ok (.aload_n 0, 1) := by decide +kernel
theorem dX2_readLong_1 : decode cX2_readLong 1 = .ok (.aload_n 0, 1) := by decide +kernel
theorem dX2_readLong_2 : decode cX2_readLong 2 = .ok (.iload_n 1, 1) := by decide +kernel
theorem dX2_readLong_3 : decode cX2_readLong 3 = .ok (.invokevirtual 62, 3) := by decide +kernel
theorem dX2_readLong_6 : decode cX2_readLong 6 = .ok (.iload_n 2, 1) := by decide +kernel
theorem dX2_readLong_7 : decode cX2_readLong 7 = .ok (.bipush 6, 2) := by decide +kernel
theorem dX2_readLong_9 : decode cX2_readLong 9 = .ok (.invokevirtual 79, 3) := by decide +kernel
theorem dX2_readLong_12 : decode cX2_readLong 12 = .ok (.lreturn, 1) := by decide +kernel
set_option maxRecDepth 20000 in
theorem ggX2_readFloat_X2_columnAt : GoodIn wsX2_readFloat wsX2_columnAt := goodIn_ca (goodIn_r _ [6, 7, 8, 9, 57, 58, 59, 60, 61] (by decide +kernel) (by decide +kernel)) (goodIn_sub (fun _ h => List.mem_cons_of_mem _ (List.mem_append_right _ h)) (by decide +kernel))
set_option maxRecDepth 20000 in
theorem gX2_readFloat_X2_columnAt : GoodIn wsX2_readFloat (wsV RX2 62 RX2 yX2_columnAt wsX2_columnAt) := goodIn_app (goodIn_of _ (by decide +kernel)) ggX2_readFloat_X2_columnAt
set_option maxRecDepth 20000 in
theorem ggX2_readFloat_X2_codeOfCell : GoodIn wsX2_readFloat wsX2_codeOfCell := goodIn_r _ [12, 13, 14, 15, 5, 16, 1, 17, 18, 19, 20, 21, 22, 53, 54, 55, 56] (by decide +kernel) (by decide +kernel)
set_option maxRecDepth 20000 in
theorem gX2_readFloat_X2_codeOfCell : GoodIn wsX2_readFloat (va_wsS RX2 83 yX2_codeOfCell wsX2_codeOfCell) := goodIn_app (goodIn_of _ (by decide +kernel)) ggX2_readFloat_X2_codeOfCell
set_option maxRecDepth 20000 in
theorem ggX2_readFloat_X2_note : GoodIn wsX2_readFloat wsX2_note := goodIn_r _ [26, 27, 28, 57, 58, 59, 60, 61] (by decide +kernel) (by decide +kernel)
set_option maxRecDepth 20000 in
theorem gX2_readFloat_X2_note : GoodIn wsX2_readFloat (wsV RX2 72 RX2 yX2_note wsX2_note) := goodIn_app (goodIn_of _ (by decide +kernel)) ggX2_readFloat_X2_note
set_option maxRecDepth 20000 in
theorem ggX2_readFloat_X0_floatAt : GoodIn wsX2_readFloat wsX0_floatAt := goodIn_r _ [33, 34, 35, 5, 36, 37, 38, 39, 32, 40, 41, 42, 43, 44, 45, 46, 47, 48, 49, 50, 51, 52, 53, 54, 55, 56] (by decide +kernel) (by decide +kernel)
set_option maxRecDepth 20000 in
theorem gX2_readFloat_X0_floatAt : GoodIn wsX2_readFloat (wsV RX2 87 RX0 yX0_floatAt wsX0_floatAt) := goodIn_app (goodIn_of _ (by decide +kernel)) ggX2_readFloat_X0_floatAt
theorem dX2_readFloat_0 : decode cX2_readFloat 0 = .ok (.aload_n 0, 1) := by decide +kernel
theorem dX2_readFloat_1 : decode cX2_readFloat 1 = .ok (.iload_n 1, 1) := by decide +kernel
theorem dX2_readFloat_2 : decode cX2_readFloat 2 = .ok (.invokevirtual 62, 3) := by decide +kernel
theorem dX2_readFloat_5 : decode cX2_readFloat 5 = .ok (.astore_n 3, 1) := by decide +kernel
theorem dX2_readFloat_6 : decode cX2_readFloat 6 = .ok (.aload_n 0, 1) := by decide +kernel
theorem dX2_readFloat_7 : decode cX2_readFloat 7 = .ok (.aload_n 3, 1) := by decide +kernel
theorem dX2_readFloat_8 : decode cX2_readFloat 8 = .ok (.iload_n 2, 1) := by decide +kernel
theorem dX2_readFloat_9 : decode cX2_readFloat 9 = .ok (.aload_n 3, 1) := by decide +kernel
theorem dX2_readFloat_10 : decode cX2_readFloat 10 = .ok (.getfield 66, 3) := by decide +kernel
theorem dX2_readFloat_13 : decode cX2_readFloat 13 = .ok (.bipush 7, 2) := by decide +kernel
theorem dX2_readFloat_15 : decode cX2_readFloat 15 = .ok (.invokestatic 83, 3) := by decide +kernel
theorem dX2_readFloat_18 : decode cX2_readFloat 18 = .ok (.invokevirtual 72, 3) := by decide +kernel
theorem dX2_readFloat_21 : decode cX2_readFloat 21 = .ok (.istore 4, 2) := by decide +kernel
theorem dX2_readFloat_23 : decode cX2_readFloat 23 = .ok (.iload 4, 2) := by decide +kernel
theorem dX2_readFloat_25 : decode cX2_readFloat 25 = .ok (.ifCond .ne 11, 3) := by decide +kernel
theorem dX2_readFloat_28 : decode cX2_readFloat 28 = .ok (.aload_n 3, 1) := by decide +kernel
theorem dX2_readFloat_29 : decode cX2_readFloat 29 = .ok (.iload_n 2, 1) := by decide +kernel
theorem dX2_readFloat_30 : decode cX2_readFloat 30 = .ok (.invokevirtual 87, 3) := by decide +kernel
theorem dX2_readFloat_33 : decode cX2_readFloat 33 = .ok (.goto 4, 3) := by decide +kernel
theorem dX2_readFloat_36 : decode cX2_readFloat 36 = .ok (.fconst 0, 1) := by decide +kernel
theorem dX2_readFloat_37 : decode cX2_readFloat 37 = .ok (.freturn, 1) := by decide +kernel
set_option maxRecDepth 20000 in
theorem ggX2_readDouble_X2_columnAt : GoodIn wsX2_readDouble wsX2_columnAt := goodIn_ca (goodIn_r _ [5, 6, 7, 8, 51, 52, 53, 54, 55] (by decide +kernel) (by decide +kernel)) (goodIn_sub (fun _ h => List.mem_cons_of_mem _ (List.mem_append_right _ h)) (by decide +kernel))
set_option maxRecDepth 20000 in
theorem gX2_readDouble_X2_columnAt : GoodIn wsX2_readDouble (wsV RX2 62 RX2 yX2_columnAt wsX2_columnAt) := goodIn_app (goodIn_of _ (by decide +kernel)) ggX2_readDouble_X2_columnAt
set_option maxRecDepth 20000 in
theorem ggX2_readDouble_X2_readReal : GoodIn wsX2_readDouble wsX2_readReal := goodIn_r _ [12, 13, 14, 15, 4, 16, 17, 18, 19, 20, 21, 22, 23, 24, 25, 26, 27, 28, 29, 30, 31, 32, 33, 34, 35, 36, 37, 38, 39, 40, 41, 42, 43, 44, 45, 46, 47, 48, 49, 50, 56, 57, 58, 59, 51, 52, 53, 54, 55] (by decide +kernel) (by decide +kernel)
set_option maxRecDepth 20000 in
theorem gX2_readDouble_X2_readReal : GoodIn wsX2_readDouble (wsV RX2 91 RX2 yX2_readReal wsX2_readReal) := goodIn_app (goodIn_of _ (by decide +kernel)) ggX2_readDouble_X2_readReal
theorem dX2_readDouble_0 : decode cX2_readDouble 0 = .ok (.aload_n 0, 1) := by decide +kernel
theorem dX2_readDouble_1 : decode cX2_readDouble 1 = .ok (.aload_n 0, 1) := by decide +kernel
theorem dX2_readDouble_2 : decode cX2_readDouble 2 = .ok (.iload_n 1, 1) := by decide +kernel
theorem dX2_readDouble_3 : decode cX2_readDouble 3 = .ok (.invokevirtual 62, 3) := by decide +kernel
theorem dX2_readDouble_6 : decode cX2_readDouble 6 = .ok (.iload_n 2, 1) := by decide +kernel
theorem dX2_readDouble_7 : decode cX2_readDouble 7 = .ok (.bipush 8, 2) := by decide +kernel
theorem dX2_readDouble_9 : decode cX2_readDouble 9 = .ok (.invokevirtual 91, 3) := by decide +kernel
theorem dX2_readDouble_12 : decode cX2_readDouble 12 = .ok (.dreturn, 1) := by decide +kernel
set_option maxRecDepth 20000 in
theorem ggX2_readAny_X2_columnAt : GoodIn wsX2_readAny wsX2_columnAt := goodIn_ca (goodIn_r _ [6, 7, 8, 9, 55, 56, 57, 58, 59] (by decide +kernel) (by decide +kernel)) (goodIn_sub (fun _ h => List.mem_cons_of_mem _ (List.mem_append_right _ h)) (by decide +kernel))
set_option maxRecDepth 20000 in
theorem gX2_readAny_X2_columnAt : GoodIn wsX2_readAny (wsV RX2 62 RX2 yX2_columnAt wsX2_columnAt) := goodIn_app (goodIn_of _ (by decide +kernel)) ggX2_readAny_X2_columnAt
set_option maxRecDepth 20000 in
theorem ggX2_readAny_X2_readReal : GoodIn wsX2_readAny wsX2_readReal := goodIn_r _ [13, 1, 14, 15, 5, 16, 17, 18, 19, 20, 21, 22, 23, 24, 25, 26, 27, 28, 29, 30, 31, 32, 33, 34, 35, 36, 37, 38, 39, 40, 41, 42, 43, 44, 45, 46, 47, 48, 49, 50, 51, 52, 53, 54, 55, 56, 57, 58, 59] (by decide +kernel) (by decide +kernel)
set_option maxRecDepth 20000 in
theorem gX2_readAny_X2_readReal : GoodIn wsX2_readAny (wsV RX2 91 RX2 yX2_readReal wsX2_readReal) := goodIn_app (goodIn_of _ (by decide +kernel)) ggX2_readAny_X2_readReal
theorem dX2_readAny_0 : decode cX2_readAny 0 = .ok (.aload_n 0, 1) := by decide +kernel
theorem dX2_readAny_1 : decode cX2_readAny 1 = .ok (.iload_n 1, 1) := by decide +kernel
theorem dX2_readAny_2 : decode cX2_readAny 2 = .ok (.invokevirtual 62, 3) := by decide +kernel
theorem dX2_readAny_5 : decode cX2_readAny 5 = .ok (.astore_n 3, 1) := by decide +kernel
theorem dX2_readAny_6 : decode cX2_readAny 6 = .ok (.aload_n 0, 1) := by decide +kernel
theorem dX2_readAny_7 : decode cX2_readAny 7 = .ok (.aload_n 3, 1) := by decide +kernel
theorem dX2_readAny_8 : decode cX2_readAny 8 = .ok (.iload_n 2, 1) := by decide +kernel
theorem dX2_readAny_9 : decode cX2_readAny 9 = .ok (.aload_n 3, 1) := by decide +kernel
theorem dX2_readAny_10 : decode cX2_readAny 10 = .ok (.getfield 66, 3) := by decide +kernel
theorem dX2_readAny_13 : decode cX2_readAny 13 = .ok (.invokevirtual 91, 3) := by decide +kernel
theorem dX2_readAny_16 : decode cX2_readAny 16 = .ok (.dreturn, 1) := by decide +kernel
set_option maxRecDepth 20000 in
theorem ggX2_writeBoolean_X2_columnAt : GoodIn wsX2_writeBoolean wsX2_columnAt := goodIn_ca (goodIn_r _ [5, 6, 7, 8, 45, 46, 47, 48, 49] (by decide +kernel) (by decide +kernel)) (goodIn_sub (fun _ h => List.mem_cons_of_mem _ (List.mem_append_right _ h)) (by decide +kernel))
set_option maxRecDepth 20000 in
theorem gX2_writeBoolean_X2_columnAt : GoodIn wsX2_writeBoolean (wsV RX2 62 RX2 yX2_columnAt wsX2_columnAt) := goodIn_app (goodIn_of _ (by decide +kernel)) ggX2_writeBoolean_X2_columnAt
set_option maxRecDepth 20000 in
theorem ggX2_writeBoolean_X2_writeWhole : GoodIn wsX2_writeBoolean wsX2_writeWhole := goodIn_r _ [12, 13, 14, 15, 4, 16, 17, 18, 19, 20, 21, 22, 23, 24, 25, 26, 27, 28, 29, 30, 31, 32, 33, 34, 35, 36, 37, 38, 39, 40, 41, 42, 43, 44, 50, 51, 52, 53, 45, 46, 47, 48, 49] (by decide +kernel) (by decide +kernel)
set_option maxRecDepth 20000 in
theorem gX2_writeBoolean_X2_writeWhole : GoodIn wsX2_writeBoolean (wsV RX2 95 RX2 yX2_writeWhole wsX2_writeWhole) := goodIn_app (goodIn_of _ (by decide +kernel)) ggX2_writeBoolean_X2_writeWhole
theorem dX2_writeBoolean_0 : decode cX2_writeBoolean 0 = .ok (.aload_n 0, 1) := by decide +kernel
theorem dX2_writeBoolean_1 : decode cX2_writeBoolean 1 = .ok (.aload_n 0, 1) := by decide +kernel
theorem dX2_writeBoolean_2 : decode cX2_writeBoolean 2 = .ok (.iload_n 1, 1) := by decide +kernel
theorem dX2_writeBoolean_3 : decode cX2_writeBoolean 3 = .ok (.invokevirtual 62, 3) := by decide +kernel
theorem dX2_writeBoolean_6 : decode cX2_writeBoolean 6 = .ok (.iload_n 2, 1) := by decide +kernel
theorem dX2_writeBoolean_7 : decode cX2_writeBoolean 7 = .ok (.iconst 1, 1) := by decide +kernel
theorem dX2_writeBoolean_8 : decode cX2_writeBoolean 8 = .ok (.iload_n 3, 1) := by decide +kernel
theorem dX2_writeBoolean_9 : decode cX2_writeBoolean 9 = .ok (.ifCond .eq 7, 3) := by decide +kernel
theorem dX2_writeBoolean_12 : decode cX2_writeBoolean 12 = .ok (.lconst 1, 1) := by decide +kernel
theorem dX2_writeBoolean_13 : decode cX2_writeBoolean 13 = .ok (.goto 4, 3) := by decide +kernel
theorem dX2_writeBoolean_16 : decode cX2_writeBoolean 16 = .ok (.lconst 0, 1) := by decide +kernel
theorem dX2_writeBoolean_17 : decode cX2_writeBoolean 17 = .ok (.invokevirtual 95, 3) := by decide +kernel
theorem dX2_writeBoolean_20 : decode cX2_writeBoolean 20 = .ok (.ireturn, 1) := by decide +kernel
set_option maxRecDepth 20000 in
theorem ggX2_writeByte_X2_columnAt : GoodIn wsX2_writeByte wsX2_columnAt := goodIn_ca (goodIn_r _ [5, 6, 7, 8, 45, 46, 47, 48, 49] (by decide +kernel) (by decide +kernel)) (goodIn_sub (fun _ h => List.mem_cons_of_mem _ (List.mem_append_right _ h)) (by decide +kernel))
set_option maxRecDepth 20000 in
theorem gX2_writeByte_X2_columnAt : GoodIn wsX2_writeByte (wsV RX2 62 RX2 yX2_columnAt wsX2_columnAt) := goodIn_app (goodIn_of _ (by decide +kernel)) ggX2_writeByte_X2_columnAt
set_option maxRecDepth 20000 in
theorem ggX2_writeByte_X2_writeWhole : GoodIn wsX2_writeByte wsX2_writeWhole := goodIn_r _ [12, 13, 14, 15, 4, 16, 17, 18, 19, 20, 21, 22, 23, 24, 25, 26, 27, 28, 29, 30, 31, 32, 33, 34, 35, 36, 37, 38, 39, 40, 41, 42, 43, 44, 50, 51, 52, 53, 45, 46, 47, 48, 49] (by decide +kernel) (by decide +kernel)
set_option maxRecDepth 20000 in
theorem gX2_writeByte_X2_writeWhole : GoodIn wsX2_writeByte (wsV RX2 95 RX2 yX2_writeWhole wsX2_writeWhole) := goodIn_app (goodIn_of _ (by decide +kernel)) ggX2_writeByte_X2_writeWhole
theorem dX2_writeByte_0 : decode cX2_writeByte 0 = .ok (.aload_n 0, 1) := by decide +kernel
theorem dX2_writeByte_1 : decode cX2_writeByte 1 = .ok (.aload_n 0, 1) := by decide +kernel
theorem dX2_writeByte_2 : decode cX2_writeByte 2 = .ok (.iload_n 1, 1) := by decide +kernel
theorem dX2_writeByte_3 : decode cX2_writeByte 3 = .ok (.invokevirtual 62, 3) := by decide +kernel
theorem dX2_writeByte_6 : decode cX2_writeByte 6 = .ok (.iload_n 2, 1) := by decide +kernel
theorem dX2_writeByte_7 : decode cX2_writeByte 7 = .ok (.iconst 2, 1) := by decide +kernel
theorem dX2_writeByte_8 : decode cX2_writeByte 8 = .ok (.iload_n 3, 1) := by decide +kernel
theorem dX2_writeByte_9 : decode cX2_writeByte 9 = .ok (.i2b, 1) := by decide +kernel
theorem dX2_writeByte_10 : decode cX2_writeByte 10 = .ok (.i2l, 1) := by decide +kernel
theorem dX2_writeByte_11 : decode cX2_writeByte 11 = .ok (.invokevirtual 95, 3) := by decide +kernel
theorem dX2_writeByte_14 : decode cX2_writeByte 14 = .ok (.ireturn, 1) := by decide +kernel
set_option maxRecDepth 20000 in
theorem ggX2_writeChar_X2_columnAt : GoodIn wsX2_writeChar wsX2_columnAt := goodIn_ca (goodIn_r _ [5, 6, 7, 8, 45, 46, 47, 48, 49] (by decide +kernel) (by decide +kernel)) (goodIn_sub (fun _ h => List.mem_cons_of_mem _ (List.mem_append_right _ h)) (by decide +kernel))
set_option maxRecDepth 20000 in
theorem gX2_writeChar_X2_columnAt : GoodIn wsX2_writeChar (wsV RX2 62 RX2 yX2_columnAt wsX2_columnAt) := goodIn_app (goodIn_of _ (by decide +kernel)) ggX2_writeChar_X2_columnAt
set_option maxRecDepth 20000 in
theorem ggX2_writeChar_X2_writeWhole : GoodIn wsX2_writeChar wsX2_writeWhole := goodIn_r _ [12, 13, 14, 15, 4, 16, 17, 18, 19, 20, 21, 22, 23, 24, 25, 26, 27, 28, 29, 30, 31, 32, 33, 34, 35, 36, 37, 38, 39, 40, 41, 42, 43, 44, 50, 51, 52, 53, 45, 46, 47, 48, 49] (by decide +kernel) (by decide +kernel)
set_option maxRecDepth 20000 in
theorem gX2_writeChar_X2_writeWhole : GoodIn wsX2_writeChar (wsV RX2 95 RX2 yX2_writeWhole wsX2_writeWhole) := goodIn_app (goodIn_of _ (by decide +kernel)) ggX2_writeChar_X2_writeWhole
theorem dX2_writeChar_0 : decode cX2_writeChar 0 = .ok (.aload_n 0, 1) := by decide +kernel
theorem dX2_writeChar_1 : decode cX2_writeChar 1 = .ok (.aload_n 0, 1) := by decide +kernel
theorem dX2_writeChar_2 : decode cX2_writeChar 2 = .ok (.iload_n 1, 1) := by decide +kernel
theorem dX2_writeChar_3 : decode cX2_writeChar 3 = .ok (.invokevirtual 62, 3) := by decide +kernel
theorem dX2_writeChar_6 : decode cX2_writeChar 6 = .ok (.iload_n 2, 1) := by decide +kernel
theorem dX2_writeChar_7 : decode cX2_writeChar 7 = .ok (.iconst 3, 1) := by decide +kernel
theorem dX2_writeChar_8 : decode cX2_writeChar 8 = .ok (.iload_n 3, 1) := by decide +kernel
theorem dX2_writeChar_9 : decode cX2_writeChar 9 = .ok (.i2c, 1) := by decide +kernel
theorem dX2_writeChar_10 : decode cX2_writeChar 10 = .ok (.i2l, 1) := by decide +kernel
theorem dX2_writeChar_11 : decode cX2_writeChar 11 = .ok (.invokevirtual 95, 3) := by decide +kernel
theorem dX2_writeChar_14 : decode cX2_writeChar 14 = .ok (.ireturn, 1) := by decide +kernel
set_option maxRecDepth 20000 in
theorem ggX2_writeShort_X2_columnAt : GoodIn wsX2_writeShort wsX2_columnAt := goodIn_ca (goodIn_r _ [5, 6, 7, 8, 45, 46, 47, 48, 49] (by decide +kernel) (by decide +kernel)) (goodIn_sub (fun _ h => List.mem_cons_of_mem _ (List.mem_append_right _ h)) (by decide +kernel))
set_option maxRecDepth 20000 in
theorem gX2_writeShort_X2_columnAt : GoodIn wsX2_writeShort (wsV RX2 62 RX2 yX2_columnAt wsX2_columnAt) := goodIn_app (goodIn_of _ (by decide +kernel)) ggX2_writeShort_X2_columnAt
set_option maxRecDepth 20000 in
theorem ggX2_writeShort_X2_writeWhole : GoodIn wsX2_writeShort wsX2_writeWhole := goodIn_r _ [12, 13, 14, 15, 4, 16, 17, 18, 19, 20, 21, 22, 23, 24, 25, 26, 27, 28, 29, 30, 31, 32, 33, 34, 35, 36, 37, 38, 39, 40, 41, 42, 43, 44, 50, 51, 52, 53, 45, 46, 47, 48, 49] (by decide +kernel) (by decide +kernel)
set_option maxRecDepth 20000 in
theorem gX2_writeShort_X2_writeWhole : GoodIn wsX2_writeShort (wsV RX2 95 RX2 yX2_writeWhole wsX2_writeWhole) := goodIn_app (goodIn_of _ (by decide +kernel)) ggX2_writeShort_X2_writeWhole
theorem dX2_writeShort_0 : decode cX2_writeShort 0 = .ok (.aload_n 0, 1) := by decide +kernel
theorem dX2_writeShort_1 : decode cX2_writeShort 1 = .ok (.aload_n 0, 1) := by decide +kernel
theorem dX2_writeShort_2 : decode cX2_writeShort 2 = .ok (.iload_n 1, 1) := by decide +kernel
theorem dX2_writeShort_3 : decode cX2_writeShort 3 = .ok (.invokevirtual 62, 3) := by decide +kernel
theorem dX2_writeShort_6 : decode cX2_writeShort 6 = .ok (.iload_n 2, 1) := by decide +kernel
theorem dX2_writeShort_7 : decode cX2_writeShort 7 = .ok (.iconst 4, 1) := by decide +kernel
theorem dX2_writeShort_8 : decode cX2_writeShort 8 = .ok (.iload_n 3, 1) := by decide +kernel
theorem dX2_writeShort_9 : decode cX2_writeShort 9 = .ok (.i2s, 1) := by decide +kernel
theorem dX2_writeShort_10 : decode cX2_writeShort 10 = .ok (.i2l, 1) := by decide +kernel
theorem dX2_writeShort_11 : decode cX2_writeShort 11 = .ok (.invokevirtual 95, 3) := by decide +kernel
theorem dX2_writeShort_14 : decode cX2_writeShort 14 = .ok (.ireturn, 1) := by decide +kernel
set_option maxRecDepth 20000 in
theorem ggX2_writeInt_X2_columnAt : GoodIn wsX2_writeInt wsX2_columnAt := goodIn_ca (goodIn_r _ [5, 6, 7, 8, 45, 46, 47, 48, 49] (by decide +kernel) (by decide +kernel)) (goodIn_sub (fun _ h => List.mem_cons_of_mem _ (List.mem_append_right _ h)) (by decide +kernel))
set_option maxRecDepth 20000 in
theorem gX2_writeInt_X2_columnAt : GoodIn wsX2_writeInt (wsV RX2 62 RX2 yX2_columnAt wsX2_columnAt) := goodIn_app (goodIn_of _ (by decide +kernel)) ggX2_writeInt_X2_columnAt
set_option maxRecDepth 20000 in
theorem ggX2_writeInt_X2_writeWhole : GoodIn wsX2_writeInt wsX2_writeWhole := goodIn_r _ [12, 13, 14, 15, 4, 16, 17, 18, 19, 20, 21, 22, 23, 24, 25, 26, 27, 28, 29, 30, 31, 32, 33, 34, 35, 36, 37, 38, 39, 40, 41, 42, 43, 44, 50, 51, 52, 53, 45, 46, 47, 48, 49] (by decide +kernel) (by decide +kernel)
set_option maxRecDepth 20000 in
theorem gX2_writeInt_X2_writeWhole : GoodIn wsX2_writeInt (wsV RX2 95 RX2 yX2_writeWhole wsX2_writeWhole) := goodIn_app (goodIn_of _ (by decide +kernel)) ggX2_writeInt_X2_writeWhole
theorem dX2_writeInt_0 : decode cX2_writeInt 0 = .ok (.aload_n 0, 1) := by decide +kernel
theorem dX2_writeInt_1 : decode cX2_writeInt 1 = .ok (.aload_n 0, 1) := by decide +kernel
theorem dX2_writeInt_2 : decode cX2_writeInt 2 = .ok (.iload_n 1, 1) := by decide +kernel
theorem dX2_writeInt_3 : decode cX2_writeInt 3 = .ok (.invokevirtual 62, 3) := by decide +kernel
theorem dX2_writeInt_6 : decode cX2_writeInt 6 = .ok (.iload_n 2, 1) := by decide +kernel
theorem dX2_writeInt_7 : decode cX2_writeInt 7 = .ok (.iconst 5, 1) := by decide +kernel
theorem dX2_writeInt_8 : decode cX2_writeInt 8 = .ok (.iload_n 3, 1) := by decide +kernel
theorem dX2_writeInt_9 : decode cX2_writeInt 9 = .ok (.i2l, 1) := by decide +kernel
theorem dX2_writeInt_10 : decode cX2_writeInt 10 = .ok (.invokevirtual 95, 3) := by decide +kernel
theorem dX2_writeInt_13 : decode cX2_writeInt 13 = .ok (.ireturn, 1) := by decide +kernel
set_option maxRecDepth 20000 in
theorem ggX2_writeLong_X2_columnAt : GoodIn wsX2_writeLong wsX2_columnAt := goodIn_ca (goodIn_r _ [5, 6, 7, 8, 45, 46, 47, 48, 49] (by decide +kernel) (by decide +kernel)) (goodIn_sub (fun _ h => List.mem_cons_of_mem _ (List.mem_append_right _ h)) (by decide +kernel))
set_option maxRecDepth 20000 in
theorem gX2_writeLong_X2_columnAt : GoodIn wsX2_writeLong (wsV RX2 62 RX2 yX2_columnAt wsX2_columnAt) := goodIn_app (goodIn_of _ (by decide +kernel)) ggX2_writeLong_X2_columnAt
set_option maxRecDepth 20000 in
theorem ggX2_writeLong_X2_writeWhole : GoodIn wsX2_writeLong wsX2_writeWhole := goodIn_r _ [12, 13, 14, 15, 4, 16, 17, 18, 19, 20, 21, 22, 23, 24, 25, 26, 27, 28, 29, 30, 31, 32, 33, 34, 35, 36, 37, 38, 39, 40, 41, 42, 43, 44, 50, 51, 52, 53, 45, 46, 47, 48, 49] (by decide +kernel) (by decide +kernel)
set_option maxRecDepth 20000 in
theorem gX2_writeLong_X2_writeWhole : GoodIn wsX2_writeLong (wsV RX2 95 RX2 yX2_writeWhole wsX2_writeWhole) := goodIn_app (goodIn_of _ (by decide +kernel)) ggX2_writeLong_X2_writeWhole
theorem dX2_writeLong_0 : decode cX2_writeLong 0 = .ok (.aload_n 0, 1) := by decide +kernel
theorem dX2_writeLong_1 : decode cX2_writeLong 1 = .ok (.aload_n 0, 1) := by decide +kernel
theorem dX2_writeLong_2 : decode cX2_writeLong 2 = .ok (.iload_n 1, 1) := by decide +kernel
theorem dX2_writeLong_3 : decode cX2_writeLong 3 = .ok (.invokevirtual 62, 3) := by decide +kernel
theorem dX2_writeLong_6 : decode cX2_writeLong 6 = .ok (.iload_n 2, 1) := by decide +kernel
theorem dX2_writeLong_7 : decode cX2_writeLong 7 = .ok (.bipush 6, 2) := by decide +kernel
theorem dX2_writeLong_9 : decode cX2_writeLong 9 = .ok (.lload_n 3, 1) := by decide +kernel
theorem dX2_writeLong_10 : decode cX2_writeLong 10 = .ok (.invokevirtual 95, 3) := by decide +kernel
theorem dX2_writeLong_13 : decode cX2_writeLong 13 = .ok (.ireturn, 1) := by decide +kernel
set_option maxRecDepth 20000 in
theorem ggX2_writeFloat_X2_columnAt : GoodIn wsX2_writeFloat wsX2_columnAt := goodIn_ca (goodIn_r _ [5, 6, 7, 8, 46, 47, 48, 49, 50] (by decide +kernel) (by decide +kernel)) (goodIn_sub (fun _ h => List.mem_cons_of_mem _ (List.mem_append_right _ h)) (by decide +kernel))
set_option maxRecDepth 20000 in
theorem gX2_writeFloat_X2_columnAt : GoodIn wsX2_writeFloat (wsV RX2 62 RX2 yX2_columnAt wsX2_columnAt) := goodIn_app (goodIn_of _ (by decide +kernel)) ggX2_writeFloat_X2_columnAt
set_option maxRecDepth 20000 in
theorem ggX2_writeFloat_X2_doubleOf : GoodIn wsX2_writeFloat wsX2_doubleOf := goodIn_r _ [11, 12, 13, 4, 14, 15] (by decide +kernel) (by decide +kernel)
set_option maxRecDepth 20000 in
theorem gX2_writeFloat_X2_doubleOf : GoodIn wsX2_writeFloat (va_wsS RX2 99 yX2_doubleOf wsX2_doubleOf) := goodIn_app (goodIn_of _ (by decide +kernel)) ggX2_writeFloat_X2_doubleOf
set_option maxRecDepth 20000 in
theorem ggX2_writeFloat_X2_writeReal : GoodIn wsX2_writeFloat wsX2_writeReal := goodIn_r _ [19, 20, 21, 22, 4, 23, 24, 25, 26, 27, 28, 29, 30, 31, 32, 33, 34, 35, 36, 37, 38, 39, 40, 41, 42, 43, 44, 45, 51, 52, 53, 54, 46, 47, 48, 49, 50] (by decide +kernel) (by decide +kernel)
set_option maxRecDepth 20000 in
theorem gX2_writeFloat_X2_writeReal : GoodIn wsX2_writeFloat (wsV RX2 103 RX2 yX2_writeReal wsX2_writeReal) := goodIn_app (goodIn_of _ (by decide +kernel)) ggX2_writeFloat_X2_writeReal
theorem dX2_writeFloat_0 : decode cX2_writeFloat 0 = .ok (.aload_n 0, 1) := by decide +kernel
theorem dX2_writeFloat_1 : decode cX2_writeFloat 1 = .ok (.aload_n 0, 1) := by decide +kernel
theorem dX2_writeFloat_2 : decode cX2_writeFloat 2 = .ok (.iload_n 1, 1) := by decide +kernel
theorem dX2_writeFloat_3 : decode cX2_writeFloat 3 = .ok (.invokevirtual 62, 3) := by decide +kernel
theorem dX2_writeFloat_6 : decode cX2_writeFloat 6 = .ok (.iload_n 2, 1) := by decide +kernel
theorem dX2_writeFloat_7 : decode cX2_writeFloat 7 = .ok (.bipush 7, 2) := by decide +kernel
theorem dX2_writeFloat_9 : decode cX2_writeFloat 9 = .ok (.fload_n 3, 1) := by decide +kernel
theorem dX2_writeFloat_10 : decode cX2_writeFloat 10 = .ok (.invokestatic 99, 3) := by decide +kernel
theorem dX2_writeFloat_13 : decode cX2_writeFloat 13 = .ok (.invokevirtual 103, 3) := by decide +kernel
theorem dX2_writeFloat_16 : decode cX2_writeFloat 16 = .ok (.ireturn, 1) := by decide +kernel
set_option maxRecDepth 20000 in
theorem ggX2_writeDouble_X2_columnAt : GoodIn wsX2_writeDouble wsX2_columnAt := goodIn_ca (goodIn_r _ [5, 6, 7, 8, 39, 40, 41, 42, 43] (by decide +kernel) (by decide +kernel)) (goodIn_sub (fun _ h => List.mem_cons_of_mem _ (List.mem_append_right _ h)) (by decide +kernel))
set_option maxRecDepth 20000 in
theorem gX2_writeDouble_X2_columnAt : GoodIn wsX2_writeDouble (wsV RX2 62 RX2 yX2_columnAt wsX2_columnAt) := goodIn_app (goodIn_of _ (by decide +kernel)) ggX2_writeDouble_X2_columnAt
set_option maxRecDepth 20000 in
theorem ggX2_writeDouble_X2_writeReal : GoodIn wsX2_writeDouble wsX2_writeReal := goodIn_r _ [12, 13, 14, 15, 4, 16, 17, 18, 19, 20, 21, 22, 23, 24, 25, 26, 27, 28, 29, 30, 31, 32, 33, 34, 35, 36, 37, 38, 44, 45, 46, 47, 39, 40, 41, 42, 43] (by decide +kernel) (by decide +kernel)
set_option maxRecDepth 20000 in
theorem gX2_writeDouble_X2_writeReal : GoodIn wsX2_writeDouble (wsV RX2 103 RX2 yX2_writeReal wsX2_writeReal) := goodIn_app (goodIn_of _ (by decide +kernel)) ggX2_writeDouble_X2_writeReal
theorem dX2_writeDouble_0 : decode cX2_writeDouble 0 = .ok (.aload_n 0, 1) := by decide +kernel
theorem dX2_writeDouble_1 : decode cX2_writeDouble 1 = .ok (.aload_n 0, 1) := by decide +kernel
theorem dX2_writeDouble_2 : decode cX2_writeDouble 2 = .ok (.iload_n 1, 1) := by decide +kernel
theorem dX2_writeDouble_3 : decode cX2_writeDouble 3 = .ok (.invokevirtual 62, 3) := by decide +kernel
theorem dX2_writeDouble_6 : decode cX2_writeDouble 6 = .ok (.iload_n 2, 1) := by decide +kernel
theorem dX2_writeDouble_7 : decode cX2_writeDouble 7 = .ok (.bipush 8, 2) := by decide +kernel
theorem dX2_writeDouble_9 : decode cX2_writeDouble 9 = .ok (.dload_n 3, 1) := by decide +kernel
theorem dX2_writeDouble_10 : decode cX2_writeDouble 10 = .ok (.invokevirtual 103, 3) := by decide +kernel
theorem dX2_writeDouble_13 : decode cX2_writeDouble 13 = .ok (.ireturn, 1) := by decide +kernel
set_option maxRecDepth 20000 in
theorem ggX2_writeAny_X2_columnAt : GoodIn wsX2_writeAny wsX2_columnAt := goodIn_ca (goodIn_r _ [5, 6, 7, 8, 58, 59, 60, 61, 62] (by decide +kernel) (by decide +kernel)) (goodIn_sub (fun _ h => List.mem_cons_of_mem _ (List.mem_append_left _ (List.mem_append_right _ h))) (by decide +kernel))
set_option maxRecDepth 20000 in
theorem gX2_writeAny_X2_columnAt : GoodIn wsX2_writeAny (wsV RX2 62 RX2 yX2_columnAt wsX2_columnAt) := goodIn_app (goodIn_of _ (by decide +kernel)) ggX2_writeAny_X2_columnAt
set_option maxRecDepth 20000 in
theorem ggX2_writeAny_X2_refuseWithoutCells : GoodIn wsX2_writeAny wsX2_refuseWithoutCells := goodIn_ca (goodIn_r _ [11, 12, 13, 14, 15, 4, 16] (by decide +kernel) (by decide +kernel)) (goodIn_sub (fun _ h => List.mem_cons_of_mem _ (List.mem_append_right _ h)) (by decide +kernel))
set_option maxRecDepth 20000 in
theorem gX2_writeAny_X2_refuseWithoutCells : GoodIn wsX2_writeAny (va_wsS RX2 107 yX2_refuseWithoutCells wsX2_refuseWithoutCells) := goodIn_app (goodIn_of _ (by decide +kernel)) ggX2_writeAny_X2_refuseWithoutCells
set_option maxRecDepth 20000 in
theorem ggX2_writeAny_X2_writeReal : GoodIn wsX2_writeAny wsX2_writeReal := goodIn_r _ [20, 21, 22, 23, 4, 24, 25, 26, 27, 28, 29, 30, 31, 14, 15, 16, 32, 33, 34, 35, 36, 37, 38, 39, 40, 41, 42, 43, 63, 64, 65, 66, 58, 59, 60, 61, 62] (by decide +kernel) (by decide +kernel)
set_option maxRecDepth 20000 in
theorem gX2_writeAny_X2_writeReal : GoodIn wsX2_writeAny (wsV RX2 103 RX2 yX2_writeReal wsX2_writeReal) := goodIn_app (goodIn_of _ (by decide +kernel)) ggX2_writeAny_X2_writeReal
set_option maxRecDepth 20000 in
theorem ggX2_writeAny_X2_wholeMadeFrom : GoodIn wsX2_writeAny wsX2_wholeMadeFrom := goodIn_r _ [46] (by decide +kernel) (by decide +kernel)
set_option maxRecDepth 20000 in
theorem gX2_writeAny_X2_wholeMadeFrom : GoodIn wsX2_writeAny (va_wsS RX2 111 yX2_wholeMadeFrom wsX2_wholeMadeFrom) := goodIn_app (goodIn_of _ (by decide +kernel)) ggX2_writeAny_X2_wholeMadeFrom
set_option maxRecDepth 20000 in
theorem ggX2_writeAny_X2_writeWhole : GoodIn wsX2_writeAny wsX2_writeWhole := goodIn_r _ [50, 21, 22, 23, 4, 24, 25, 26, 27, 28, 29, 30, 31, 14, 15, 16, 32, 33, 34, 35, 36, 37, 51, 52, 53, 41, 54, 55, 56, 57, 39, 40, 42, 43, 63, 64, 65, 66, 58, 59, 60, 61, 62] (by decide +kernel) (by decide +kernel)
set_option maxRecDepth 20000 in
theorem gX2_writeAny_X2_writeWhole : GoodIn wsX2_writeAny (wsV RX2 95 RX2 yX2_writeWhole wsX2_writeWhole) := goodIn_app (goodIn_of _ (by decide +kernel)) ggX2_writeAny_X2_writeWhole
theorem dX2_writeAny_0 : decode cX2_writeAny 0 = .ok (.aload_n 0, 1) := by decide +kernel
theorem dX2_writeAny_1 : decode cX2_writeAny 1 = .ok (.iload_n 1, 1) := by decide +kernel
theorem dX2_writeAny_2 : decode cX2_writeAny 2 = .ok (.invokevirtual 62, 3) := by decide +kernel
theorem dX2_writeAny_5 : decode cX2_writeAny 5 = .ok (.astore 5, 2) := by decide +kernel
theorem dX2_writeAny_7 : decode cX2_writeAny 7 = .ok (.iload_n 3, 1) := by decide +kernel
theorem dX2_writeAny_8 : decode cX2_writeAny 8 = .ok (.invokestatic 107, 3) := by decide +kernel
theorem dX2_writeAny_11 : decode cX2_writeAny 11 = .ok (.iload_n 3, 1) := by decide +kernel
theorem dX2_writeAny_12 : decode cX2_writeAny 12 = .ok (.bipush 7, 2) := by decide +kernel
theorem dX2_writeAny_14 : decode cX2_writeAny 14 = .ok (.if_icmp .ne 16, 3) := by decide +kernel
theorem dX2_writeAny_17 : decode cX2_writeAny 17 = .ok (.aload_n 0, 1) := by decide +kernel
theorem dX2_writeAny_18 : decode cX2_writeAny 18 = .ok (.aload 5, 2) := by decide +kernel
theorem dX2_writeAny_20 : decode cX2_writeAny 20 = .ok (.iload_n 2, 1) := by decide +kernel
theorem dX2_writeAny_21 : decode cX2_writeAny 21 = .ok (.iload_n 3, 1) := by decide +kernel
theorem dX2_writeAny_22 : decode cX2_writeAny 22 = .ok (.iload 4, 2) := by decide +kernel
theorem dX2_writeAny_24 : decode cX2_writeAny 24 = .ok (.i2f, 1) := by decide +kernel
theorem dX2_writeAny_25 : decode cX2_writeAny 25 = .ok (.f2d, 1) := by decide +kernel
theorem dX2_writeAny_26 : decode cX2_writeAny 26 = .ok (.invokevirtual 103, 3) := by decide +kernel
theorem dX2_writeAny_29 : decode cX2_writeAny 29 = .ok (.ireturn, 1) := by decide +kernel
theorem dX2_writeAny_30 : decode cX2_writeAny 30 = .ok (.iload_n 3, 1) := by decide +kernel
theorem dX2_writeAny_31 : decode cX2_writeAny 31 = .ok (.bipush 8, 2) := by decide +kernel
theorem dX2_writeAny_33 : decode cX2_writeAny 33 = .ok (.if_icmp .ne 15, 3) := by decide +kernel
theorem dX2_writeAny_36 : decode cX2_writeAny 36 = .ok (.aload_n 0, 1) := by decide +kernel
theorem dX2_writeAny_37 : decode cX2_writeAny 37 = .ok (.aload 5, 2) := by decide +kernel
theorem dX2_writeAny_39 : decode cX2_writeAny 39 = .ok (.iload_n 2, 1) := by decide +kernel
theorem dX2_writeAny_40 : decode cX2_writeAny 40 = .ok (.iload_n 3, 1) := by decide +kernel
theorem dX2_writeAny_41 : decode cX2_writeAny 41 = .ok (.iload 4, 2) := by decide +kernel
theorem dX2_writeAny_43 : decode cX2_writeAny 43 = .ok (.i2d, 1) := by decide +kernel
theorem dX2_writeAny_44 : decode cX2_writeAny 44 = .ok (.invokevirtual 103, 3) := by decide +kernel
theorem dX2_writeAny_47 : decode cX2_writeAny 47 = .ok (.ireturn, 1) := by decide +kernel
theorem dX2_writeAny_48 : decode cX2_writeAny 48 = .ok (.aload_n 0, 1) := by decide +kernel
theorem dX2_writeAny_49 : decode cX2_writeAny 49 = .ok (.aload 5, 2) := by decide +kernel
theorem dX2_writeAny_51 : decode cX2_writeAny 51 = .ok (.iload_n 2, 1) := by decide +kernel
theorem dX2_writeAny_52 : decode cX2_writeAny 52 = .ok (.iload_n 3, 1) := by decide +kernel
theorem dX2_writeAny_53 : decode cX2_writeAny 53 = .ok (.iload 4, 2) := by decide +kernel
theorem dX2_writeAny_55 : decode cX2_writeAny 55 = .ok (.iload_n 3, 1) := by decide +kernel
theorem dX2_writeAny_56 : decode cX2_writeAny 56 = .ok (.invokestatic 111, 3) := by decide +kernel
theorem dX2_writeAny_59 : decode cX2_writeAny 59 = .ok (.invokevirtual 95, 3) := by decide +kernel
theorem dX2_writeAny_62 : decode cX2_writeAny 62 = .ok (.ireturn, 1) := by decide +kernel
set_option maxRecDepth 20000 in
theorem ggX2_copy_X2_columnAt : GoodIn wsX2_copy wsX2_columnAt := goodIn_ca (goodIn_r _ [6, 7, 8, 9, 38, 39, 40, 41, 42] (by decide +kernel) (by decide +kernel)) (goodIn_sub (fun _ h => List.mem_cons_of_mem _ (List.mem_append_right _ h)) (by decide +kernel))
set_option maxRecDepth 20000 in
theorem gX2_copy_X2_columnAt : GoodIn wsX2_copy (wsV RX2 62 RX2 yX2_columnAt wsX2_columnAt) := goodIn_app (goodIn_of _ (by decide +kernel)) ggX2_copy_X2_columnAt
set_option maxRecDepth 20000 in
theorem ggX2_copy_X2_codeOfKinds : GoodIn wsX2_copy wsX2_codeOfKinds := goodIn_r _ [12, 13, 34, 35, 36, 37] (by decide +kernel) (by decide +kernel)
set_option maxRecDepth 20000 in
theorem gX2_copy_X2_codeOfKinds : GoodIn wsX2_copy (va_wsS RX2 115 yX2_codeOfKinds wsX2_codeOfKinds) := goodIn_app (goodIn_of _ (by decide +kernel)) ggX2_copy_X2_codeOfKinds
set_option maxRecDepth 20000 in
theorem ggX2_copy_X2_isPart : GoodIn wsX2_copy wsX2_isPart := goodIn_r _ [16] (by decide +kernel) (by decide +kernel)
set_option maxRecDepth 20000 in
theorem gX2_copy_X2_isPart : GoodIn wsX2_copy (va_wsS RX2 119 yX2_isPart wsX2_isPart) := goodIn_app (goodIn_of _ (by decide +kernel)) ggX2_copy_X2_isPart
set_option maxRecDepth 20000 in
theorem ggX2_copy_X0_takeCells : GoodIn wsX2_copy wsX0_takeCells := goodIn_r _ [21, 22, 23, 24, 25, 26, 27, 15, 5, 16, 34, 35, 36, 37] (by decide +kernel) (by decide +kernel)
set_option maxRecDepth 20000 in
theorem gX2_copy_X0_takeCells : GoodIn wsX2_copy (wsV RX2 123 RX0 yX0_takeCells wsX0_takeCells) := goodIn_app (goodIn_of _ (by decide +kernel)) ggX2_copy_X0_takeCells
set_option maxRecDepth 20000 in
theorem ggX2_copy_X2_note : GoodIn wsX2_copy wsX2_note := goodIn_r _ [31, 32, 33, 38, 39, 40, 41, 42] (by decide +kernel) (by decide +kernel)
set_option maxRecDepth 20000 in
theorem gX2_copy_X2_note : GoodIn wsX2_copy (wsV RX2 72 RX2 yX2_note wsX2_note) := goodIn_app (goodIn_of _ (by decide +kernel)) ggX2_copy_X2_note
theorem dX2_copy_0 : decode cX2_copy 0 = .ok (.aload_n 0, 1) := by decide +kernel
theorem dX2_copy_1 : decode cX2_copy 1 = .ok (.iload_n 1, 1) := by decide +kernel
theorem dX2_copy_2 : decode cX2_copy 2 = .ok (.invokevirtual 62, 3) := by decide +kernel
theorem dX2_copy_5 : decode cX2_copy 5 = .ok (.astore 6, 2) := by decide +kernel
theorem dX2_copy_7 : decode cX2_copy 7 = .ok (.aload_n 0, 1) := by decide +kernel
theorem dX2_copy_8 : decode cX2_copy 8 = .ok (.iload_n 3, 1) := by decide +kernel
theorem dX2_copy_9 : decode cX2_copy 9 = .ok (.invokevirtual 62, 3) := by decide +kernel
theorem dX2_copy_12 : decode cX2_copy 12 = .ok (.astore 7, 2) := by decide +kernel
theorem dX2_copy_14 : decode cX2_copy 14 = .ok (.aload 6, 2) := by decide +kernel
theorem dX2_copy_16 : decode cX2_copy 16 = .ok (.aload 7, 2) := by decide +kernel
theorem dX2_copy_18 : decode cX2_copy 18 = .ok (.invokestatic 115, 3) := by decide +kernel
theorem dX2_copy_21 : decode cX2_copy 21 = .ok (.istore 8, 2) := by decide +kernel
theorem dX2_copy_23 : decode cX2_copy 23 = .ok (.iload 8, 2) := by decide +kernel
theorem dX2_copy_25 : decode cX2_copy 25 = .ok (.ifCond .ne 35, 3) := by decide +kernel
theorem dX2_copy_28 : decode cX2_copy 28 = .ok (.iload_n 2, 1) := by decide +kernel
theorem dX2_copy_29 : decode cX2_copy 29 = .ok (.iload 5, 2) := by decide +kernel
theorem dX2_copy_31 : decode cX2_copy 31 = .ok (.aload 6, 2) := by decide +kernel
theorem dX2_copy_33 : decode cX2_copy 33 = .ok (.getfield 76, 3) := by decide +kernel
theorem dX2_copy_36 : decode cX2_copy 36 = .ok (.invokestatic 119, 3) := by decide +kernel
theorem dX2_copy_39 : decode cX2_copy 39 = .ok (.ifCond .eq 18, 3) := by decide +kernel
theorem dX2_copy_42 : decode cX2_copy 42 = .ok (.iload 4, 2) := by decide +kernel
theorem dX2_copy_44 : decode cX2_copy 44 = .ok (.iload 5, 2) := by decide +kernel
theorem dX2_copy_46 : decode cX2_copy 46 = .ok (.aload 7, 2) := by decide +kernel
theorem dX2_copy_48 : decode cX2_copy 48 = .ok (.getfield 76, 3) := by decide +kernel
theorem dX2_copy_51 : decode cX2_copy 51 = .ok (.invokestatic 119, 3) := by decide +kernel
theorem dX2_copy_54 : decode cX2_copy 54 = .ok (.ifCond .ne 6, 3) := by decide +kernel
theorem dX2_copy_57 : decode cX2_copy 57 = .ok (.iconst 3, 1) := by decide +kernel
theorem dX2_copy_58 : decode cX2_copy 58 = .ok (.istore 8, 2) := by decide +kernel
theorem dX2_copy_60 : decode cX2_copy 60 = .ok (.iload 8, 2) := by decide +kernel
theorem dX2_copy_62 : decode cX2_copy 62 = .ok (.ifCond .ne 15, 3) := by decide +kernel
theorem dX2_copy_65 : decode cX2_copy 65 = .ok (.aload 7, 2) := by decide +kernel
theorem dX2_copy_67 : decode cX2_copy 67 = .ok (.aload 6, 2) := by decide +kernel
theorem dX2_copy_69 : decode cX2_copy 69 = .ok (.iload_n 2, 1) := by decide +kernel
theorem dX2_copy_70 : decode cX2_copy 70 = .ok (.iload 4, 2) := by decide +kernel
theorem dX2_copy_72 : decode cX2_copy 72 = .ok (.iload 5, 2) := by decide +kernel
theorem dX2_copy_74 : decode cX2_copy 74 = .ok (.invokevirtual 123, 3) := by decide +kernel
theorem dX2_copy_77 : decode cX2_copy 77 = .ok (.aload_n 0, 1) := by decide +kernel
theorem dX2_copy_78 : decode cX2_copy 78 = .ok (.iload 8, 2) := by decide +kernel
theorem dX2_copy_80 : decode cX2_copy 80 = .ok (.invokevirtual 72, 3) := by decide +kernel
theorem dX2_copy_83 : decode cX2_copy 83 = .ok (.ireturn, 1) := by decide +kernel
set_option maxRecDepth 20000 in
theorem ggX2_total_X2_columnAt : GoodIn wsX2_total wsX2_columnAt := goodIn_ca (goodIn_r _ [5, 6, 7, 8, 53, 54, 55, 56, 57] (by decide +kernel) (by decide +kernel)) (goodIn_sub (fun _ h => List.mem_cons_of_mem _ (List.mem_append_right _ h)) (by decide +kernel))
set_option maxRecDepth 20000 in
theorem gX2_total_X2_columnAt : GoodIn wsX2_total (wsV RX2 62 RX2 yX2_columnAt wsX2_columnAt) := goodIn_app (goodIn_of _ (by decide +kernel)) ggX2_total_X2_columnAt
set_option maxRecDepth 20000 in
theorem ggX2_total_X2_codeOfColumn : GoodIn wsX2_total wsX2_codeOfColumn := goodIn_r _ [11, 12, 58, 59, 60, 61] (by decide +kernel) (by decide +kernel)
set_option maxRecDepth 20000 in
theorem gX2_total_X2_codeOfColumn : GoodIn wsX2_total (va_wsS RX2 69 yX2_codeOfColumn wsX2_codeOfColumn) := goodIn_app (goodIn_of _ (by decide +kernel)) ggX2_total_X2_codeOfColumn
set_option maxRecDepth 20000 in
theorem ggX2_total_X2_note : GoodIn wsX2_total wsX2_note := goodIn_r _ [16, 17, 18, 53, 54, 55, 56, 57] (by decide +kernel) (by decide +kernel)
set_option maxRecDepth 20000 in
theorem gX2_total_X2_note : GoodIn wsX2_total (wsV RX2 72 RX2 yX2_note wsX2_note) := goodIn_app (goodIn_of _ (by decide +kernel)) ggX2_total_X2_note
set_option maxRecDepth 20000 in
theorem ggX2_total_X0_sum : GoodIn wsX2_total wsX0_sum := goodIn_r _ [23, 24, 25, 26, 27, 22, 28, 29, 30, 4, 31, 32, 33, 34, 35, 36, 37, 38, 39, 40, 41, 42, 43, 44, 45, 46, 47, 48, 49, 50, 51, 52, 58, 59, 60, 61] (by decide +kernel) (by decide +kernel)
set_option maxRecDepth 20000 in
theorem gX2_total_X0_sum : GoodIn wsX2_total (wsV RX2 127 RX0 yX0_sum wsX0_sum) := goodIn_app (goodIn_of _ (by decide +kernel)) ggX2_total_X0_sum
theorem dX2_total_0 : decode cX2_total 0 = .ok (.aload_n 0, 1) := by decide +kernel
theorem dX2_total_1 : decode cX2_total 1 = .ok (.iload_n 1, 1) := by decide +kernel
theorem dX2_total_2 : decode cX2_total 2 = .ok (.invokevirtual 62, 3) := by decide +kernel
theorem dX2_total_5 : decode cX2_total 5 = .ok (.astore_n 2, 1) := by decide +kernel
theorem dX2_total_6 : decode cX2_total 6 = .ok (.aload_n 0, 1) := by decide +kernel
theorem dX2_total_7 : decode cX2_total 7 = .ok (.aload_n 2, 1) := by decide +kernel
theorem dX2_total_8 : decode cX2_total 8 = .ok (.invokestatic 69, 3) := by decide +kernel
theorem dX2_total_11 : decode cX2_total 11 = .ok (.invokevirtual 72, 3) := by decide +kernel
theorem dX2_total_14 : decode cX2_total 14 = .ok (.istore_n 3, 1) := by decide +kernel
theorem dX2_total_15 : decode cX2_total 15 = .ok (.iload_n 3, 1) := by decide +kernel
theorem dX2_total_16 : decode cX2_total 16 = .ok (.ifCond .ne 10, 3) := by decide +kernel
theorem dX2_total_19 : decode cX2_total 19 = .ok (.aload_n 2, 1) := by decide +kernel
theorem dX2_total_20 : decode cX2_total 20 = .ok (.invokevirtual 127, 3) := by decide +kernel
theorem dX2_total_23 : decode cX2_total 23 = .ok (.goto 4, 3) := by decide +kernel
theorem dX2_total_26 : decode cX2_total 26 = .ok (.dconst 0, 1) := by decide +kernel
theorem dX2_total_27 : decode cX2_total 27 = .ok (.dreturn, 1) := by decide +kernel
set_option maxRecDepth 20000 in
theorem ggX2_widened_X2_columnAt : GoodIn wsX2_widened wsX2_columnAt := goodIn_ca (goodIn_r _ [10, 11, 12, 13, 85, 86, 87, 88, 89] (by decide +kernel) (by decide +kernel)) (goodIn_sub (fun _ h => List.mem_cons_of_mem _ (List.mem_append_left _ (List.mem_append_left _ (List.mem_append_right _ h)))) (by decide +kernel))
set_option maxRecDepth 20000 in
theorem gX2_widened_X2_columnAt : GoodIn wsX2_widened (wsV RX2 62 RX2 yX2_columnAt wsX2_columnAt) := goodIn_app (goodIn_of _ (by decide +kernel)) ggX2_widened_X2_columnAt
set_option maxRecDepth 20000 in
theorem ggX2_widened_X2_refuseWithoutCells : GoodIn wsX2_widened wsX2_refuseWithoutCells := goodIn_ca (goodIn_r _ [16, 17, 18, 19, 20, 9, 21] (by decide +kernel) (by decide +kernel)) (goodIn_sub (fun _ h => List.mem_cons_of_mem _ (List.mem_append_left _ (List.mem_append_right _ h))) (by decide +kernel))
set_option maxRecDepth 20000 in
theorem gX2_widened_X2_refuseWithoutCells : GoodIn wsX2_widened (va_wsS RX2 107 yX2_refuseWithoutCells wsX2_refuseWithoutCells) := goodIn_app (goodIn_of _ (by decide +kernel)) ggX2_widened_X2_refuseWithoutCells
set_option maxRecDepth 20000 in
theorem ggX2_widened_X2_refuseWhenFull : GoodIn wsX2_widened wsX2_refuseWhenFull := goodIn_ca (goodIn_r _ [25, 26, 27, 28, 13, 85, 86, 87, 88, 89] (by decide +kernel) (by decide +kernel)) (goodIn_sub (fun _ h => List.mem_cons_of_mem _ (List.mem_append_right _ h)) (by decide +kernel))
set_option maxRecDepth 20000 in
theorem gX2_widened_X2_refuseWhenFull : GoodIn wsX2_widened (wsV RX2 52 RX2 yX2_refuseWhenFull wsX2_refuseWhenFull) := goodIn_app (goodIn_of _ (by decide +kernel)) ggX2_widened_X2_refuseWhenFull
set_option maxRecDepth 20000 in
theorem ggX2_widened_X2_codeOfColumn : GoodIn wsX2_widened wsX2_codeOfColumn := goodIn_r _ [31, 1, 81, 82, 83, 84] (by decide +kernel) (by decide +kernel)
set_option maxRecDepth 20000 in
theorem gX2_widened_X2_codeOfColumn : GoodIn wsX2_widened (va_wsS RX2 69 yX2_codeOfColumn wsX2_codeOfColumn) := goodIn_app (goodIn_of _ (by decide +kernel)) ggX2_widened_X2_codeOfColumn
set_option maxRecDepth 20000 in
theorem ggX2_widened_X2_widens : GoodIn wsX2_widened wsX2_widens := goodIn_r _ [34, 19, 20, 9, 21] (by decide +kernel) (by decide +kernel)
set_option maxRecDepth 20000 in
theorem gX2_widened_X2_widens : GoodIn wsX2_widened (va_wsS RX2 131 yX2_widens wsX2_widens) := goodIn_app (goodIn_of _ (by decide +kernel)) ggX2_widened_X2_widens
set_option maxRecDepth 20000 in
theorem ggX2_widened_X2_note : GoodIn wsX2_widened wsX2_note := goodIn_r _ [38, 39, 40, 85, 86, 87, 88, 89] (by decide +kernel) (by decide +kernel)
set_option maxRecDepth 20000 in
theorem gX2_widened_X2_note : GoodIn wsX2_widened (wsV RX2 72 RX2 yX2_note wsX2_note) := goodIn_app (goodIn_of _ (by decide +kernel)) ggX2_widened_X2_note
set_option maxRecDepth 20000 in
theorem ggX2_widened_X0_init : GoodIn wsX2_widened wsX0_init := goodIn_r _ [43, 44, 45, 46, 47, 48, 49, 50, 51, 52, 20, 9, 21, 53, 54, 55, 56, 81, 82, 83, 84] (by decide +kernel) (by decide +kernel)
set_option maxRecDepth 20000 in
theorem gX2_widened_X0_init : GoodIn wsX2_widened (wsX0_init) := ggX2_widened_X0_init
set_option maxRecDepth 20000 in
theorem ggX2_widened_X0_takeWidened : GoodIn wsX2_widened wsX0_takeWidened := goodIn_r _ [60, 48, 47, 55, 9, 56, 61, 62, 63, 4, 64, 52, 65, 66, 67, 68, 69, 70, 71, 72, 50, 73, 74, 75, 76, 81, 82, 83, 84] (by decide +kernel) (by decide +kernel)
set_option maxRecDepth 20000 in
theorem gX2_widened_X0_takeWidened : GoodIn wsX2_widened (wsV RX2 135 RX0 yX0_takeWidened wsX0_takeWidened) := goodIn_app (goodIn_of _ (by decide +kernel)) ggX2_widened_X0_takeWidened
set_option maxRecDepth 20000 in
theorem ggX2_widened_X2_addColumn : GoodIn wsX2_widened wsX2_addColumn := goodIn_r _ [80, 28, 13, 85, 86, 87, 88, 89] (by decide +kernel) (by decide +kernel)
set_option maxRecDepth 20000 in
theorem gX2_widened_X2_addColumn : GoodIn wsX2_widened (wsV RX2 58 RX2 yX2_addColumn wsX2_addColumn) := goodIn_app (goodIn_of _ (by decide +kernel)) ggX2_widened_X2_addColumn
theorem dX2_widened_0 : decode cX2_widened 0 = .ok (.aload_n 0, 1) := by decide +kernel
theorem dX2_widened_1 : decode cX2_widened 1 = .ok (.iload_n 1, 1) := by decide +kernel
theorem dX2_widened_2 : decode cX2_widened 2 = .ok (.invokevirtual 62, 3) := by decide +kernel
theorem dX2_widened_5 : decode cX2_widened 5 = .ok (.astore_n 3, 1) := by decide +kernel
theorem dX2_widened_6 : decode cX2_widened 6 = .ok (.iload_n 2, 1) := by decide +kernel
theorem dX2_widened_7 : decode cX2_widened 7 = .ok (.invokestatic 107, 3) := by decide +kernel
theorem dX2_widened_10 : decode cX2_widened 10 = .ok (.aload_n 0, 1) := by decide +kernel
theorem dX2_widened_11 : decode cX2_widened 11 = .ok (.invokevirtual 52, 3) := by decide +kernel
theorem dX2_widened_14 : decode cX2_widened 14 = .ok (.aload_n 3, 1) := by decide +kernel
theorem dX2_widened_15 : decode cX2_widened 15 = .ok (.invokestatic 69, 3) := by decide +kernel
theorem dX2_widened_18 : decode cX2_widened 18 = .ok (.istore 4, 2) := by decide +kernel
theorem dX2_widened_20 : decode cX2_widened 20 = .ok (.iload 4, 2) := by decide +kernel
theorem dX2_widened_22 : decode cX2_widened 22 = .ok (.ifCond .ne 17, 3) := by decide +kernel
theorem dX2_widened_25 : decode cX2_widened 25 = .ok (.aload_n 3, 1) := by decide +kernel
theorem dX2_widened_26 : decode cX2_widened 26 = .ok (.getfield 66, 3) := by decide +kernel
theorem dX2_widened_29 : decode cX2_widened 29 = .ok (.iload_n 2, 1) := by decide +kernel
theorem dX2_widened_30 : decode cX2_widened 30 = .ok (.invokestatic 131, 3) := by decide +kernel
theorem dX2_widened_33 : decode cX2_widened 33 = .ok (.ifCond .ne 6, 3) := by decide +kernel
theorem dX2_widened_36 : decode cX2_widened 36 = .ok (.iconst 4, 1) := by decide +kernel
theorem dX2_widened_37 : decode cX2_widened 37 = .ok (.istore 4, 2) := by decide +kernel
theorem dX2_widened_39 : decode cX2_widened 39 = .ok (.aload_n 0, 1) := by decide +kernel
theorem dX2_widened_40 : decode cX2_widened 40 = .ok (.iload 4, 2) := by decide +kernel
theorem dX2_widened_42 : decode cX2_widened 42 = .ok (.invokevirtual 72, 3) := by decide +kernel
theorem dX2_widened_45 : decode cX2_widened 45 = .ok (.ifCond .eq 5, 3) := by decide +kernel
theorem dX2_widened_48 : decode cX2_widened 48 = .ok (.iconst (-1), 1) := by decide +kernel
theorem dX2_widened_49 : decode cX2_widened 49 = .ok (.ireturn, 1) := by decide +kernel
theorem dX2_widened_50 : decode cX2_widened 50 = .ok (.new 9, 3) := by decide +kernel
theorem dX2_widened_53 : decode cX2_widened 53 = .ok (.dup, 1) := by decide +kernel
theorem dX2_widened_54 : decode cX2_widened 54 = .ok (.iload_n 2, 1) := by decide +kernel
theorem dX2_widened_55 : decode cX2_widened 55 = .ok (.aload_n 3, 1) := by decide +kernel
theorem dX2_widened_56 : decode cX2_widened 56 = .ok (.getfield 76, 3) := by decide +kernel
theorem dX2_widened_59 : decode cX2_widened 59 = .ok (.invokespecial 55, 3) := by decide +kernel
theorem dX2_widened_62 : decode cX2_widened 62 = .ok (.astore 5, 2) := by decide +kernel
theorem dX2_widened_64 : decode cX2_widened 64 = .ok (.aload 5, 2) := by decide +kernel
theorem dX2_widened_66 : decode cX2_widened 66 = .ok (.aload_n 3, 1) := by decide +kernel
theorem dX2_widened_67 : decode cX2_widened 67 = .ok (.invokevirtual 135, 3) := by decide +kernel
theorem dX2_widened_70 : decode cX2_widened 70 = .ok (.aload_n 0, 1) := by decide +kernel
theorem dX2_widened_71 : decode cX2_widened 71 = .ok (.aload 5, 2) := by decide +kernel
theorem dX2_widened_73 : decode cX2_widened 73 = .ok (.invokevirtual 58, 3) := by decide +kernel
theorem dX2_widened_76 : decode cX2_widened 76 = .ok (.ireturn, 1) := by decide +kernel
theorem dX2_code_0 : decode cX2_code 0 = .ok (.aload_n 0, 1) := by decide +kernel
theorem dX2_code_1 : decode cX2_code 1 = .ok (.getfield 30, 3) := by decide +kernel
theorem dX2_code_4 : decode cX2_code 4 = .ok (.ireturn, 1) := by decide +kernel
theorem dX2_count_0 : decode cX2_count 0 = .ok (.iload_n 1, 1) := by decide +kernel
theorem dX2_count_1 : decode cX2_count 1 = .ok (.ifCond .lt 12, 3) := by decide +kernel
theorem dX2_count_4 : decode cX2_count 4 = .ok (.iload_n 1, 1) := by decide +kernel
theorem dX2_count_5 : decode cX2_count 5 = .ok (.aload_n 0, 1) := by decide +kernel
theorem dX2_count_6 : decode cX2_count 6 = .ok (.getfield 15, 3) := by decide +kernel
theorem dX2_count_9 : decode cX2_count 9 = .ok (.arraylength, 1) := by decide +kernel
theorem dX2_count_10 : decode cX2_count 10 = .ok (.if_icmp .lt 13, 3) := by decide +kernel
theorem dX2_count_13 : decode cX2_count 13 = .ok (.new 139, 3) := by decide +kernel
theorem dX2_count_16 : decode cX2_count 16 = .ok (.dup, 1) := by decide +kernel
theorem dX2_count_17 : decode cX2_count 17 = .ok (.ldc 141, 2) := by decide +kernel
theorem dX2_count_19 : decode cX2_count 19 = .ok (.invokespecial 143, 3) := by decide +kernel
theorem dX2_count_22 : decode cX2_count 22 = .ok (.athrow, 1) := by decide +kernel
theorem dX2_count_23 : decode cX2_count 23 = .ok (.aload_n 0, 1) := by decide +kernel
theorem dX2_count_24 : decode cX2_count 24 = .ok (.getfield 15, 3) := by decide +kernel
theorem dX2_count_27 : decode cX2_count 27 = .ok (.iload_n 1, 1) := by decide +kernel
theorem dX2_count_28 : decode cX2_count 28 = .ok (.iaload, 1) := by decide +kernel
theorem dX2_count_29 : decode cX2_count 29 = .ok (.ireturn, 1) := by decide +kernel
set_option maxRecDepth 20000 in
theorem ggX2_hasCells_X2_refuseNoKind : GoodIn wsX2_hasCells wsX2_refuseNoKind := goodIn_ca (goodIn_r _ [4, 5, 6, 7, 8, 3, 9] (by decide +kernel) (by decide +kernel)) (goodIn_sub (fun _ h => List.mem_cons_of_mem _ (List.mem_append_right _ h)) (by decide +kernel))
set_option maxRecDepth 20000 in
theorem gX2_hasCells_X2_refuseNoKind : GoodIn wsX2_hasCells (va_wsS RX2 144 yX2_refuseNoKind wsX2_refuseNoKind) := goodIn_app (goodIn_of _ (by decide +kernel)) ggX2_hasCells_X2_refuseNoKind
set_option maxRecDepth 20000 in
theorem ggX2_hasCells_X2_holdsCells : GoodIn wsX2_hasCells wsX2_holdsCells := goodIn_r _ [12] (by decide +kernel) (by decide +kernel)
set_option maxRecDepth 20000 in
theorem gX2_hasCells_X2_holdsCells : GoodIn wsX2_hasCells (va_wsS RX2 44 yX2_holdsCells wsX2_holdsCells) := goodIn_app (goodIn_of _ (by decide +kernel)) ggX2_hasCells_X2_holdsCells
theorem dX2_hasCells_0 : decode cX2_hasCells 0 = .ok (.iload_n 1, 1) := by decide +kernel
theorem dX2_hasCells_1 : decode cX2_hasCells 1 = .ok (.invokestatic 144, 3) := by decide +kernel
theorem dX2_hasCells_4 : decode cX2_hasCells 4 = .ok (.iload_n 1, 1) := by decide +kernel
theorem dX2_hasCells_5 : decode cX2_hasCells 5 = .ok (.invokestatic 44, 3) := by decide +kernel
theorem dX2_hasCells_8 : decode cX2_hasCells 8 = .ok (.ireturn, 1) := by decide +kernel
set_option maxRecDepth 20000 in
theorem ggX2_isNumber_X2_refuseNoKind : GoodIn wsX2_isNumber wsX2_refuseNoKind := goodIn_ca (goodIn_r _ [4, 5, 6, 7, 8, 3, 9] (by decide +kernel) (by decide +kernel)) (goodIn_sub (fun _ h => List.mem_cons_of_mem _ (List.mem_append_right _ h)) (by decide +kernel))
set_option maxRecDepth 20000 in
theorem gX2_isNumber_X2_refuseNoKind : GoodIn wsX2_isNumber (va_wsS RX2 144 yX2_refuseNoKind wsX2_refuseNoKind) := goodIn_app (goodIn_of _ (by decide +kernel)) ggX2_isNumber_X2_refuseNoKind
theorem dX2_isNumber_0 : decode cX2_isNumber 0 = .ok (.iload_n 1, 1) := by decide +kernel
theorem dX2_isNumber_1 : decode cX2_isNumber 1 = .ok (.invokestatic 144, 3) := by decide +kernel
theorem dX2_isNumber_4 : decode cX2_isNumber 4 = .ok (.iload_n 1, 1) := by decide +kernel
theorem dX2_isNumber_5 : decode cX2_isNumber 5 = .ok (.iconst 2, 1) := by decide +kernel
theorem dX2_isNumber_6 : decode cX2_isNumber 6 = .ok (.if_icmp .eq 14, 3) := by decide +kernel
theorem dX2_isNumber_9 : decode cX2_isNumber 9 = .ok (.iload_n 1, 1) := by decide +kernel
theorem dX2_isNumber_10 : decode cX2_isNumber 10 = .ok (.iconst 4, 1) := by decide +kernel
theorem dX2_isNumber_11 : decode cX2_isNumber 11 = .ok (.if_icmp .lt 13, 3) := by decide +kernel
theorem dX2_isNumber_14 : decode cX2_isNumber 14 = .ok (.iload_n 1, 1) := by decide +kernel
theorem dX2_isNumber_15 : decode cX2_isNumber 15 = .ok (.bipush 8, 2) := by decide +kernel
theorem dX2_isNumber_17 : decode cX2_isNumber 17 = .ok (.if_icmp .gt 7, 3) := by decide +kernel
theorem dX2_isNumber_20 : decode cX2_isNumber 20 = .ok (.iconst 1, 1) := by decide +kernel
theorem dX2_isNumber_21 : decode cX2_isNumber 21 = .ok (.goto 4, 3) := by decide +kernel
theorem dX2_isNumber_24 : decode cX2_isNumber 24 = .ok (.iconst 0, 1) := by decide +kernel
theorem dX2_isNumber_25 : decode cX2_isNumber 25 = .ok (.ireturn, 1) := by decide +kernel
set_option maxRecDepth 20000 in
theorem ggX2_canWiden_X2_refuseNoKind : GoodIn wsX2_canWiden wsX2_refuseNoKind := goodIn_ca (goodIn_r _ [4, 5, 6, 7, 8, 3, 9] (by decide +kernel) (by decide +kernel)) (goodIn_sub (fun _ h => List.mem_cons_of_mem _ (List.mem_append_right _ h)) (by decide +kernel))
set_option maxRecDepth 20000 in
theorem gX2_canWiden_X2_refuseNoKind : GoodIn wsX2_canWiden (va_wsS RX2 144 yX2_refuseNoKind wsX2_refuseNoKind) := goodIn_app (goodIn_of _ (by decide +kernel)) ggX2_canWiden_X2_refuseNoKind
set_option maxRecDepth 20000 in
theorem ggX2_canWiden_X2_widens : GoodIn wsX2_canWiden wsX2_widens := goodIn_r _ [12, 13, 14, 3, 15] (by decide +kernel) (by decide +kernel)
set_option maxRecDepth 20000 in
theorem gX2_canWiden_X2_widens : GoodIn wsX2_canWiden (va_wsS RX2 131 yX2_widens wsX2_widens) := goodIn_app (goodIn_of _ (by decide +kernel)) ggX2_canWiden_X2_widens
theorem dX2_canWiden_0 : decode cX2_canWiden 0 = .ok (.iload_n 1, 1) := by decide +kernel
theorem dX2_canWiden_1 : decode cX2_canWiden 1 = .ok (.invokestatic 144, 3) := by decide +kernel
theorem dX2_canWiden_4 : decode cX2_canWiden 4 = .ok (.iload_n 2, 1) := by decide +kernel
theorem dX2_canWiden_5 : decode cX2_canWiden 5 = .ok (.invokestatic 144, 3) := by decide +kernel
theorem dX2_canWiden_8 : decode cX2_canWiden 8 = .ok (.iload_n 1, 1) := by decide +kernel
theorem dX2_canWiden_9 : decode cX2_canWiden 9 = .ok (.iload_n 2, 1) := by decide +kernel
theorem dX2_canWiden_10 : decode cX2_canWiden 10 = .ok (.invokestatic 131, 3) := by decide +kernel
theorem dX2_canWiden_13 : decode cX2_canWiden 13 = .ok (.ireturn, 1) := by decide +kernel
set_option maxRecDepth 20000 in
theorem ggX2_digest_X2_mixed : GoodIn wsX2_digest wsX2_mixed := goodIn_r _ [7, 8] (by decide +kernel) (by decide +kernel)
set_option maxRecDepth 20000 in
theorem gX2_digest_X2_mixed : GoodIn wsX2_digest (va_wsS RX2 149 yX2_mixed wsX2_mixed) := goodIn_app (goodIn_of _ (by decide +kernel)) ggX2_digest_X2_mixed
set_option maxRecDepth 20000 in
theorem ggX2_digest_X2_columnAt : GoodIn wsX2_digest wsX2_columnAt := goodIn_ca (goodIn_r _ [12, 13, 14, 15, 51, 52, 53, 54, 55] (by decide +kernel) (by decide +kernel)) (goodIn_sub (fun _ h => List.mem_cons_of_mem _ (List.mem_append_right _ h)) (by decide +kernel))
set_option maxRecDepth 20000 in
theorem gX2_digest_X2_columnAt : GoodIn wsX2_digest (wsV RX2 62 RX2 yX2_columnAt wsX2_columnAt) := goodIn_app (goodIn_of _ (by decide +kernel)) ggX2_digest_X2_columnAt
set_option maxRecDepth 20000 in
theorem ggX2_digest_X2_mixedColumn : GoodIn wsX2_digest wsX2_mixedColumn := goodIn_r _ [19, 20, 21, 22, 23, 24, 4, 5, 6, 7, 8, 25, 26, 27, 28, 29, 30, 31, 32, 33, 34, 35, 36, 37, 38, 39, 40, 41, 42, 43, 44, 45, 46, 47, 48, 49, 50, 56, 57, 58, 59, 51, 52, 53, 54, 55, 60] (by decide +kernel) (by decide +kernel)
set_option maxRecDepth 20000 in
theorem gX2_digest_X2_mixedColumn : GoodIn wsX2_digest (wsV RX2 153 RX2 yX2_mixedColumn wsX2_mixedColumn) := goodIn_app (goodIn_of _ (by decide +kernel)) ggX2_digest_X2_mixedColumn
theorem dX2_digest_0 : decode cX2_digest 0 = .ok (.ldc2_w 147, 3) := by decide +kernel
theorem dX2_digest_3 : decode cX2_digest 3 = .ok (.aload_n 0, 1) := by decide +kernel
theorem dX2_digest_4 : decode cX2_digest 4 = .ok (.getfield 26, 3) := by decide +kernel
theorem dX2_digest_7 : decode cX2_digest 7 = .ok (.i2l, 1) := by decide +kernel
theorem dX2_digest_8 : decode cX2_digest 8 = .ok (.invokestatic 149, 3) := by decide +kernel
theorem dX2_digest_11 : decode cX2_digest 11 = .ok (.lstore_n 1, 1) := by decide +kernel
theorem dX2_digest_12 : decode cX2_digest 12 = .ok (.iconst 0, 1) := by decide +kernel
theorem dX2_digest_13 : decode cX2_digest 13 = .ok (.istore_n 3, 1) := by decide +kernel
theorem dX2_digest_14 : decode cX2_digest 14 = .ok (.iload_n 3, 1) := by decide +kernel
theorem dX2_digest_15 : decode cX2_digest 15 = .ok (.aload_n 0, 1) := by decide +kernel
theorem dX2_digest_16 : decode cX2_digest 16 = .ok (.getfield 26, 3) := by decide +kernel
theorem dX2_digest_19 : decode cX2_digest 19 = .ok (.if_icmp .ge 20, 3) := by decide +kernel
theorem dX2_digest_22 : decode cX2_digest 22 = .ok (.aload_n 0, 1) := by decide +kernel
theorem dX2_digest_23 : decode cX2_digest 23 = .ok (.lload_n 1, 1) := by decide +kernel
theorem dX2_digest_24 : decode cX2_digest 24 = .ok (.aload_n 0, 1) := by decide +kernel
theorem dX2_digest_25 : decode cX2_digest 25 = .ok (.iload_n 3, 1) := by decide +kernel
theorem dX2_digest_26 : decode cX2_digest 26 = .ok (.invokevirtual 62, 3) := by decide +kernel
theorem dX2_digest_29 : decode cX2_digest 29 = .ok (.invokevirtual 153, 3) := by decide +kernel
theorem dX2_digest_32 : decode cX2_digest 32 = .ok (.lstore_n 1, 1) := by decide +kernel
theorem dX2_digest_33 : decode cX2_digest 33 = .ok (.iinc 3 1, 3) := by decide +kernel
theorem dX2_digest_36 : decode cX2_digest 36 = .ok (.goto (-22), 3) := by decide +kernel
theorem dX2_digest_39 : decode cX2_digest 39 = .ok (.aload_n 0, 1) := by decide +kernel
theorem dX2_digest_40 : decode cX2_digest 40 = .ok (.getfield 15, 3) := by decide +kernel
theorem dX2_digest_43 : decode cX2_digest 43 = .ok (.astore_n 3, 1) := by decide +kernel
theorem dX2_digest_44 : decode cX2_digest 44 = .ok (.aload_n 3, 1) := by decide +kernel
theorem dX2_digest_45 : decode cX2_digest 45 = .ok (.arraylength, 1) := by decide +kernel
theorem dX2_digest_46 : decode cX2_digest 46 = .ok (.istore 4, 2) := by decide +kernel
theorem dX2_digest_48 : decode cX2_digest 48 = .ok (.iconst 0, 1) := by decide +kernel
theorem dX2_digest_49 : decode cX2_digest 49 = .ok (.istore 5, 2) := by decide +kernel
theorem dX2_digest_51 : decode cX2_digest 51 = .ok (.iload 5, 2) := by decide +kernel
theorem dX2_digest_53 : decode cX2_digest 53 = .ok (.iload 4, 2) := by decide +kernel
theorem dX2_digest_55 : decode cX2_digest 55 = .ok (.if_icmp .ge 23, 3) := by decide +kernel
theorem dX2_digest_58 : decode cX2_digest 58 = .ok (.aload_n 3, 1) := by decide +kernel
theorem dX2_digest_59 : decode cX2_digest 59 = .ok (.iload 5, 2) := by decide +kernel
theorem dX2_digest_61 : decode cX2_digest 61 = .ok (.iaload, 1) := by decide +kernel
theorem dX2_digest_62 : decode cX2_digest 62 = .ok (.istore 6, 2) := by decide +kernel
theorem dX2_digest_64 : decode cX2_digest 64 = .ok (.lload_n 1, 1) := by decide +kernel
theorem dX2_digest_65 : decode cX2_digest 65 = .ok (.iload 6, 2) := by decide +kernel
theorem dX2_digest_67 : decode cX2_digest 67 = .ok (.i2l, 1) := by decide +kernel
theorem dX2_digest_68 : decode cX2_digest 68 = .ok (.invokestatic 149, 3) := by decide +kernel
theorem dX2_digest_71 : decode cX2_digest 71 = .ok (.lstore_n 1, 1) := by decide +kernel
theorem dX2_digest_72 : decode cX2_digest 72 = .ok (.iinc 5 1, 3) := by decide +kernel
theorem dX2_digest_75 : decode cX2_digest 75 = .ok (.goto (-24), 3) := by decide +kernel
theorem dX2_digest_78 : decode cX2_digest 78 = .ok (.lload_n 1, 1) := by decide +kernel
theorem dX2_digest_79 : decode cX2_digest 79 = .ok (.lreturn, 1) := by decide +kernel
theorem dX2_isKind_0 : decode cX2_isKind 0 = .ok (.iload_n 0, 1) := by decide +kernel
theorem dX2_isKind_1 : decode cX2_isKind 1 = .ok (.ifCond .lt 13, 3) := by decide +kernel
theorem dX2_isKind_4 : decode cX2_isKind 4 = .ok (.iload_n 0, 1) := by decide +kernel
theorem dX2_isKind_5 : decode cX2_isKind 5 = .ok (.bipush 9, 2) := by decide +kernel
theorem dX2_isKind_7 : decode cX2_isKind 7 = .ok (.if_icmp .gt 7, 3) := by decide +kernel
theorem dX2_isKind_10 : decode cX2_isKind 10 = .ok (.iconst 1, 1) := by decide +kernel
theorem dX2_isKind_11 : decode cX2_isKind 11 = .ok (.goto 4, 3) := by decide +kernel
theorem dX2_isKind_14 : decode cX2_isKind 14 = .ok (.iconst 0, 1) := by decide +kernel
theorem dX2_isKind_15 : decode cX2_isKind 15 = .ok (.ireturn, 1) := by decide +kernel
theorem dX2_holdsCells_0 : decode cX2_holdsCells 0 = .ok (.iload_n 0, 1) := by decide +kernel
theorem dX2_holdsCells_1 : decode cX2_holdsCells 1 = .ok (.iconst 1, 1) := by decide +kernel
theorem dX2_holdsCells_2 : decode cX2_holdsCells 2 = .ok (.if_icmp .lt 13, 3) := by decide +kernel
theorem dX2_holdsCells_5 : decode cX2_holdsCells 5 = .ok (.iload_n 0, 1) := by decide +kernel
theorem dX2_holdsCells_6 : decode cX2_holdsCells 6 = .ok (.bipush 8, 2) := by decide +kernel
theorem dX2_holdsCells_8 : decode cX2_holdsCells 8 = .ok (.if_icmp .gt 7, 3) := by decide +kernel
theorem dX2_holdsCells_11 : decode cX2_holdsCells 11 = .ok (.iconst 1, 1) := by decide +kernel
theorem dX2_holdsCells_12 : decode cX2_holdsCells 12 = .ok (.goto 4, 3) := by decide +kernel
theorem dX2_holdsCells_15 : decode cX2_holdsCells 15 = .ok (.iconst 0, 1) := by decide +kernel
theorem dX2_holdsCells_16 : decode cX2_holdsCells 16 = .ok (.ireturn, 1) := by decide +kernel
theorem dX2_isLength_0 : decode cX2_isLength 0 = .ok (.iload_n 0, 1) := by decide +kernel
theorem dX2_isLength_1 : decode cX2_isLength 1 = .ok (.ifCond .lt 13, 3) := by decide +kernel
theorem dX2_isLength_4 : decode cX2_isLength 4 = .ok (.iload_n 0, 1) := by decide +kernel
theorem dX2_isLength_5 : decode cX2_isLength 5 = .ok (.bipush 40, 2) := by decide +kernel
theorem dX2_isLength_7 : decode cX2_isLength 7 = .ok (.if_icmp .gt 7, 3) := by decide +kernel
theorem dX2_isLength_10 : decode cX2_isLength 10 = .ok (.iconst 1, 1) := by decide +kernel
theorem dX2_isLength_11 : decode cX2_isLength 11 = .ok (.goto 4, 3) := by decide +kernel
theorem dX2_isLength_14 : decode cX2_isLength 14 = .ok (.iconst 0, 1) := by decide +kernel
theorem dX2_isLength_15 : decode cX2_isLength 15 = .ok (.ireturn, 1) := by decide +kernel
theorem dX2_isFloating_0 : decode cX2_isFloating 0 = .ok (.iload_n 0, 1) := by decide +kernel
theorem dX2_isFloating_1 : decode cX2_isFloating 1 = .ok (.bipush 7, 2) := by decide +kernel
theorem dX2_isFloating_3 : decode cX2_isFloating 3 = .ok (.if_icmp .eq 9, 3) := by decide +kernel
theorem dX2_isFloating_6 : decode cX2_isFloating 6 = .ok (.iload_n 0, 1) := by decide +kernel
theorem dX2_isFloating_7 : decode cX2_isFloating 7 = .ok (.bipush 8, 2) := by decide +kernel
theorem dX2_isFloating_9 : decode cX2_isFloating 9 = .ok (.if_icmp .ne 7, 3) := by decide +kernel
theorem dX2_isFloating_12 : decode cX2_isFloating 12 = .ok (.iconst 1, 1) := by decide +kernel
theorem dX2_isFloating_13 : decode cX2_isFloating 13 = .ok (.goto 4, 3) := by decide +kernel
theorem dX2_isFloating_16 : decode cX2_isFloating 16 = .ok (.iconst 0, 1) := by decide +kernel
theorem dX2_isFloating_17 : decode cX2_isFloating 17 = .ok (.ireturn, 1) := by decide +kernel
set_option maxRecDepth 20000 in
theorem ggX2_widens_X2_holdsCells : GoodIn wsX2_widens wsX2_holdsCells := goodIn_r _ [4] (by decide +kernel) (by decide +kernel)
set_option maxRecDepth 20000 in
theorem gX2_widens_X2_holdsCells : GoodIn wsX2_widens (va_wsS RX2 44 yX2_holdsCells wsX2_holdsCells) := goodIn_app (goodIn_of _ (by decide +kernel)) ggX2_widens_X2_holdsCells
theorem dX2_widens_0 : decode cX2_widens 0 = .ok (.iload_n 0, 1) := by decide +kernel
theorem dX2_widens_1 : decode cX2_widens 1 = .ok (.invokestatic 44, 3) := by decide +kernel
theorem dX2_widens_4 : decode cX2_widens 4 = .ok (.ifCond .eq 10, 3) := by decide +kernel
theorem dX2_widens_7 : decode cX2_widens 7 = .ok (.iload_n 1, 1) := by decide +kernel
theorem dX2_widens_8 : decode cX2_widens 8 = .ok (.invokestatic 44, 3) := by decide +kernel
theorem dX2_widens_11 : decode cX2_widens 11 = .ok (.ifCond .ne 5, 3) := by decide +kernel
theorem dX2_widens_14 : decode cX2_widens 14 = .ok (.iconst 0, 1) := by decide +kernel
theorem dX2_widens_15 : decode cX2_widens 15 = .ok (.ireturn, 1) := by decide +kernel
theorem dX2_widens_16 : decode cX2_widens 16 = .ok (.iload_n 0, 1) := by decide +kernel
theorem dX2_widens_17 : decode cX2_widens 17 = .ok (.iload_n 1, 1) := by decide +kernel
theorem dX2_widens_18 : decode cX2_widens 18 = .ok (.if_icmp .ne 5, 3) := by decide +kernel
theorem dX2_widens_21 : decode cX2_widens 21 = .ok (.iconst 1, 1) := by decide +kernel
theorem dX2_widens_22 : decode cX2_widens 22 = .ok (.ireturn, 1) := by decide +kernel
theorem dX2_widens_23 : decode cX2_widens 23 = .ok (.iload_n 0, 1) := by decide +kernel
theorem dX2_widens_24 : decode cX2_widens 24 = .ok (.iconst 1, 1) := by decide +kernel
theorem dX2_widens_25 : decode cX2_widens 25 = .ok (.if_icmp .eq 8, 3) := by decide +kernel
theorem dX2_widens_28 : decode cX2_widens 28 = .ok (.iload_n 1, 1) := by decide +kernel
theorem dX2_widens_29 : decode cX2_widens 29 = .ok (.iconst 3, 1) := by decide +kernel
theorem dX2_widens_30 : decode cX2_widens 30 = .ok (.if_icmp .ne 5, 3) := by decide +kernel
theorem dX2_widens_33 : decode cX2_widens 33 = .ok (.iconst 0, 1) := by decide +kernel
theorem dX2_widens_34 : decode cX2_widens 34 = .ok (.ireturn, 1) := by decide +kernel
theorem dX2_widens_35 : decode cX2_widens 35 = .ok (.iload_n 0, 1) := by decide +kernel
theorem dX2_widens_36 : decode cX2_widens 36 = .ok (.iconst 3, 1) := by decide +kernel
theorem dX2_widens_37 : decode cX2_widens 37 = .ok (.if_icmp .ne 16, 3) := by decide +kernel
theorem dX2_widens_40 : decode cX2_widens 40 = .ok (.iload_n 1, 1) := by decide +kernel
theorem dX2_widens_41 : decode cX2_widens 41 = .ok (.iconst 5, 1) := by decide +kernel
theorem dX2_widens_42 : decode cX2_widens 42 = .ok (.if_icmp .lt 7, 3) := by decide +kernel
theorem dX2_widens_45 : decode cX2_widens 45 = .ok (.iconst 1, 1) := by decide +kernel
theorem dX2_widens_46 : decode cX2_widens 46 = .ok (.goto 17, 3) := by decide +kernel
theorem dX2_widens_49 : decode cX2_widens 49 = .ok (.iconst 0, 1) := by decide +kernel
theorem dX2_widens_50 : decode cX2_widens 50 = .ok (.goto 13, 3) := by decide +kernel
theorem dX2_widens_53 : decode cX2_widens 53 = .ok (.iload_n 0, 1) := by decide +kernel
theorem dX2_widens_54 : decode cX2_widens 54 = .ok (.iload_n 1, 1) := by decide +kernel
theorem dX2_widens_55 : decode cX2_widens 55 = .ok (.if_icmp .ge 7, 3) := by decide +kernel
theorem dX2_widens_58 : decode cX2_widens 58 = .ok (.iconst 1, 1) := by decide +kernel
theorem dX2_widens_59 : decode cX2_widens 59 = .ok (.goto 4, 3) := by decide +kernel
theorem dX2_widens_62 : decode cX2_widens 62 = .ok (.iconst 0, 1) := by decide +kernel
theorem dX2_widens_63 : decode cX2_widens 63 = .ok (.ireturn, 1) := by decide +kernel
theorem dX2_isPart_0 : decode cX2_isPart 0 = .ok (.iload_n 0, 1) := by decide +kernel
theorem dX2_isPart_1 : decode cX2_isPart 1 = .ok (.ifCond .lt 18, 3) := by decide +kernel
theorem dX2_isPart_4 : decode cX2_isPart 4 = .ok (.iload_n 1, 1) := by decide +kernel
theorem dX2_isPart_5 : decode cX2_isPart 5 = .ok (.ifCond .lt 14, 3) := by decide +kernel
theorem dX2_isPart_8 : decode cX2_isPart 8 = .ok (.iload_n 0, 1) := by decide +kernel
theorem dX2_isPart_9 : decode cX2_isPart 9 = .ok (.iload_n 2, 1) := by decide +kernel
theorem dX2_isPart_10 : decode cX2_isPart 10 = .ok (.iload_n 1, 1) := by decide +kernel
theorem dX2_isPart_11 : decode cX2_isPart 11 = .ok (.isub, 1) := by decide +kernel
theorem dX2_isPart_12 : decode cX2_isPart 12 = .ok (.if_icmp .gt 7, 3) := by decide +kernel
theorem dX2_isPart_15 : decode cX2_isPart 15 = .ok (.iconst 1, 1) := by decide +kernel
theorem dX2_isPart_16 : decode cX2_isPart 16 = .ok (.goto 4, 3) := by decide +kernel
theorem dX2_isPart_19 : decode cX2_isPart 19 = .ok (.iconst 0, 1) := by decide +kernel
theorem dX2_isPart_20 : decode cX2_isPart 20 = .ok (.ireturn, 1) := by decide +kernel
set_option maxRecDepth 20000 in
theorem ggX2_refuseNoKind_X2_isKind : GoodIn wsX2_refuseNoKind wsX2_isKind := goodIn_r _ [6] (by decide +kernel) (by decide +kernel)
set_option maxRecDepth 20000 in
theorem gX2_refuseNoKind_X2_isKind : GoodIn wsX2_refuseNoKind (va_wsS RX2 33 yX2_isKind wsX2_isKind) := goodIn_app (goodIn_of _ (by decide +kernel)) ggX2_refuseNoKind_X2_isKind
theorem dX2_refuseNoKind_0 : decode cX2_refuseNoKind 0 = .ok (.iload_n 0, 1) := by decide +kernel
theorem dX2_refuseNoKind_1 : decode cX2_refuseNoKind 1 = .ok (.invokestatic 33, 3) := by decide +kernel
theorem dX2_refuseNoKind_4 : decode cX2_refuseNoKind 4 = .ok (.ifCond .ne 13, 3) := by decide +kernel
theorem dX2_refuseNoKind_7 : decode cX2_refuseNoKind 7 = .ok (.new 139, 3) := by decide +kernel
theorem dX2_refuseNoKind_10 : decode cX2_refuseNoKind 10 = .ok (.dup, 1) := by decide +kernel
theorem dX2_refuseNoKind_11 : decode cX2_refuseNoKind 11 = .ok (.ldc 39, 2) := by decide +kernel
theorem dX2_refuseNoKind_13 : decode cX2_refuseNoKind 13 = .ok (.invokespecial 143, 3) := by decide +kernel
theorem dX2_refuseNoKind_16 : decode cX2_refuseNoKind 16 = .ok (.athrow, 1) := by decide +kernel
theorem dX2_refuseNoKind_17 : decode cX2_refuseNoKind 17 = .ok (.return_, 1) := by decide +kernel
set_option maxRecDepth 20000 in
theorem ggX2_refuseWithoutCells_X2_holdsCells : GoodIn wsX2_refuseWithoutCells wsX2_holdsCells := goodIn_r _ [6] (by decide +kernel) (by decide +kernel)
set_option maxRecDepth 20000 in
theorem gX2_refuseWithoutCells_X2_holdsCells : GoodIn wsX2_refuseWithoutCells (va_wsS RX2 44 yX2_holdsCells wsX2_holdsCells) := goodIn_app (goodIn_of _ (by decide +kernel)) ggX2_refuseWithoutCells_X2_holdsCells
theorem dX2_refuseWithoutCells_0 : decode cX2_refuseWithoutCells 0 = .ok (.iload_n 0, 1) := by decide +kernel
theorem dX2_refuseWithoutCells_1 : decode cX2_refuseWithoutCells 1 = .ok (.invokestatic 44, 3) := by decide +kernel
theorem dX2_refuseWithoutCells_4 : decode cX2_refuseWithoutCells 4 = .ok (.ifCond .ne 13, 3) := by decide +kernel
theorem dX2_refuseWithoutCells_7 : decode cX2_refuseWithoutCells 7 = .ok (.new 37, 3) := by decide +kernel
theorem dX2_refuseWithoutCells_10 : decode cX2_refuseWithoutCells 10 = .ok (.dup, 1) := by decide +kernel
theorem dX2_refuseWithoutCells_11 : decode cX2_refuseWithoutCells 11 = .ok (.ldc 157, 2) := by decide +kernel
theorem dX2_refuseWithoutCells_13 : decode cX2_refuseWithoutCells 13 = .ok (.invokespecial 41, 3) := by decide +kernel
theorem dX2_refuseWithoutCells_16 : decode cX2_refuseWithoutCells 16 = .ok (.athrow, 1) := by decide +kernel
theorem dX2_refuseWithoutCells_17 : decode cX2_refuseWithoutCells 17 = .ok (.return_, 1) := by decide +kernel
theorem dX2_refuseWhenFull_0 : decode cX2_refuseWhenFull 0 = .ok (.aload_n 0, 1) := by decide +kernel
theorem dX2_refuseWhenFull_1 : decode cX2_refuseWhenFull 1 = .ok (.getfield 26, 3) := by decide +kernel
theorem dX2_refuseWhenFull_4 : decode cX2_refuseWhenFull 4 = .ok (.aload_n 0, 1) := by decide +kernel
theorem dX2_refuseWhenFull_5 : decode cX2_refuseWhenFull 5 = .ok (.getfield 11, 3) := by decide +kernel
theorem dX2_refuseWhenFull_8 : decode cX2_refuseWhenFull 8 = .ok (.arraylength, 1) := by decide +kernel
theorem dX2_refuseWhenFull_9 : decode cX2_refuseWhenFull 9 = .ok (.if_icmp .lt 13, 3) := by decide +kernel
theorem dX2_refuseWhenFull_12 : decode cX2_refuseWhenFull 12 = .ok (.new 159, 3) := by decide +kernel
theorem dX2_refuseWhenFull_15 : decode cX2_refuseWhenFull 15 = .ok (.dup, 1) := by decide +kernel
theorem dX2_refuseWhenFull_16 : decode cX2_refuseWhenFull 16 = .ok (.ldc 161, 2) := by decide +kernel
theorem dX2_refuseWhenFull_18 : decode cX2_refuseWhenFull 18 = .ok (.invokespecial 163, 3) := by decide +kernel
theorem dX2_refuseWhenFull_21 : decode cX2_refuseWhenFull 21 = .ok (.athrow, 1) := by decide +kernel
theorem dX2_refuseWhenFull_22 : decode cX2_refuseWhenFull 22 = .ok (.return_, 1) := by decide +kernel
theorem dX2_columnAt_0 : decode cX2_columnAt 0 = .ok (.iload_n 1, 1) := by decide +kernel
theorem dX2_columnAt_1 : decode cX2_columnAt 1 = .ok (.ifCond .lt 21, 3) := by decide +kernel
theorem dX2_columnAt_4 : decode cX2_columnAt 4 = .ok (.iload_n 1, 1) := by decide +kernel
theorem dX2_columnAt_5 : decode cX2_columnAt 5 = .ok (.aload_n 0, 1) := by decide +kernel
theorem dX2_columnAt_6 : decode cX2_columnAt 6 = .ok (.getfield 11, 3) := by decide +kernel
theorem dX2_columnAt_9 : decode cX2_columnAt 9 = .ok (.arraylength, 1) := by decide +kernel
theorem dX2_columnAt_10 : decode cX2_columnAt 10 = .ok (.if_icmp .ge 12, 3) := by decide +kernel
theorem dX2_columnAt_13 : decode cX2_columnAt 13 = .ok (.aload_n 0, 1) := by decide +kernel
theorem dX2_columnAt_14 : decode cX2_columnAt 14 = .ok (.getfield 11, 3) := by decide +kernel
theorem dX2_columnAt_17 : decode cX2_columnAt 17 = .ok (.iload_n 1, 1) := by decide +kernel
theorem dX2_columnAt_18 : decode cX2_columnAt 18 = .ok (.aaload, 1) := by decide +kernel
theorem dX2_columnAt_19 : decode cX2_columnAt 19 = .ok (.goto 4, 3) := by decide +kernel
theorem dX2_columnAt_22 : decode cX2_columnAt 22 = .ok (.aconst_null, 1) := by decide +kernel
theorem dX2_columnAt_23 : decode cX2_columnAt 23 = .ok (.astore_n 2, 1) := by decide +kernel
theorem dX2_columnAt_24 : decode cX2_columnAt 24 = .ok (.aload_n 2, 1) := by decide +kernel
theorem dX2_columnAt_25 : decode cX2_columnAt 25 = .ok (.ifnonnull 13, 3) := by decide +kernel
theorem dX2_columnAt_28 : decode cX2_columnAt 28 = .ok (.new 139, 3) := by decide +kernel
theorem dX2_columnAt_31 : decode cX2_columnAt 31 = .ok (.dup, 1) := by decide +kernel
theorem dX2_columnAt_32 : decode cX2_columnAt 32 = .ok (.ldc 164, 2) := by decide +kernel
theorem dX2_columnAt_34 : decode cX2_columnAt 34 = .ok (.invokespecial 143, 3) := by decide +kernel
theorem dX2_columnAt_37 : decode cX2_columnAt 37 = .ok (.athrow, 1) := by decide +kernel
theorem dX2_columnAt_38 : decode cX2_columnAt 38 = .ok (.aload_n 2, 1) := by decide +kernel
theorem dX2_columnAt_39 : decode cX2_columnAt 39 = .ok (.areturn, 1) := by decide +kernel
theorem dX2_addColumn_0 : decode cX2_addColumn 0 = .ok (.aload_n 0, 1) := by decide +kernel
theorem dX2_addColumn_1 : decode cX2_addColumn 1 = .ok (.getfield 26, 3) := by decide +kernel
theorem dX2_addColumn_4 : decode cX2_addColumn 4 = .ok (.istore_n 2, 1) := by decide +kernel
theorem dX2_addColumn_5 : decode cX2_addColumn 5 = .ok (.iload_n 2, 1) := by decide +kernel
theorem dX2_addColumn_6 : decode cX2_addColumn 6 = .ok (.ifCond .lt 26, 3) := by decide +kernel
theorem dX2_addColumn_9 : decode cX2_addColumn 9 = .ok (.iload_n 2, 1) := by decide +kernel
theorem dX2_addColumn_10 : decode cX2_addColumn 10 = .ok (.aload_n 0, 1) := by decide +kernel
theorem dX2_addColumn_11 : decode cX2_addColumn 11 = .ok (.getfield 11, 3) := by decide +kernel
theorem dX2_addColumn_14 : decode cX2_addColumn 14 = .ok (.arraylength, 1) := by decide +kernel
theorem dX2_addColumn_15 : decode cX2_addColumn 15 = .ok (.if_icmp .ge 17, 3) := by decide +kernel
theorem dX2_addColumn_18 : decode cX2_addColumn 18 = .ok (.aload_n 0, 1) := by decide +kernel
theorem dX2_addColumn_19 : decode cX2_addColumn 19 = .ok (.getfield 11, 3) := by decide +kernel
theorem dX2_addColumn_22 : decode cX2_addColumn 22 = .ok (.iload_n 2, 1) := by decide +kernel
theorem dX2_addColumn_23 : decode cX2_addColumn 23 = .ok (.aload_n 1, 1) := by decide +kernel
theorem dX2_addColumn_24 : decode cX2_addColumn 24 = .ok (.aastore, 1) := by decide +kernel
theorem dX2_addColumn_25 : decode cX2_addColumn 25 = .ok (.aload_n 0, 1) := by decide +kernel
theorem dX2_addColumn_26 : decode cX2_addColumn 26 = .ok (.iload_n 2, 1) := by decide +kernel
theorem dX2_addColumn_27 : decode cX2_addColumn 27 = .ok (.iconst 1, 1) := by decide +kernel
theorem dX2_addColumn_28 : decode cX2_addColumn 28 = .ok (.iadd, 1) := by decide +kernel
theorem dX2_addColumn_29 : decode cX2_addColumn 29 = .ok (.putfield 26, 3) := by decide +kernel
theorem dX2_addColumn_32 : decode cX2_addColumn 32 = .ok (.iload_n 2, 1) := by decide +kernel
theorem dX2_addColumn_33 : decode cX2_addColumn 33 = .ok (.ireturn, 1) := by decide +kernel
theorem dX2_note_0 : decode cX2_note 0 = .ok (.iload_n 1, 1) := by decide +kernel
theorem dX2_note_1 : decode cX2_note 1 = .ok (.ifCond .lt 22, 3) := by decide +kernel
theorem dX2_note_4 : decode cX2_note 4 = .ok (.iload_n 1, 1) := by decide +kernel
theorem dX2_note_5 : decode cX2_note 5 = .ok (.aload_n 0, 1) := by decide +kernel
theorem dX2_note_6 : decode cX2_note 6 = .ok (.getfield 15, 3) := by decide +kernel
theorem dX2_note_9 : decode cX2_note 9 = .ok (.arraylength, 1) := by decide +kernel
theorem dX2_note_10 : decode cX2_note 10 = .ok (.if_icmp .ge 13, 3) := by decide +kernel
theorem dX2_note_13 : decode cX2_note 13 = .ok (.aload_n 0, 1) := by decide +kernel
theorem dX2_note_14 : decode cX2_note 14 = .ok (.getfield 15, 3) := by decide +kernel
theorem dX2_note_17 : decode cX2_note 17 = .ok (.iload_n 1, 1) := by decide +kernel
theorem dX2_note_18 : decode cX2_note 18 = .ok (.dup2, 1) := by decide +kernel
theorem dX2_note_19 : decode cX2_note 19 = .ok (.iaload, 1) := by decide +kernel
theorem dX2_note_20 : decode cX2_note 20 = .ok (.iconst 1, 1) := by decide +kernel
theorem dX2_note_21 : decode cX2_note 21 = .ok (.iadd, 1) := by decide +kernel
theorem dX2_note_22 : decode cX2_note 22 = .ok (.iastore, 1) := by decide +kernel
theorem dX2_note_23 : decode cX2_note 23 = .ok (.aload_n 0, 1) := by decide +kernel
theorem dX2_note_24 : decode cX2_note 24 = .ok (.iload_n 1, 1) := by decide +kernel
theorem dX2_note_25 : decode cX2_note 25 = .ok (.putfield 30, 3) := by decide +kernel
theorem dX2_note_28 : decode cX2_note 28 = .ok (.iload_n 1, 1) := by decide +kernel
theorem dX2_note_29 : decode cX2_note 29 = .ok (.ireturn, 1) := by decide +kernel
theorem dX2_codeOfColumn_0 : decode cX2_codeOfColumn 0 = .ok (.aload_n 0, 1) := by decide +kernel
theorem dX2_codeOfColumn_1 : decode cX2_codeOfColumn 1 = .ok (.getfield 66, 3) := by decide +kernel
theorem dX2_codeOfColumn_4 : decode cX2_codeOfColumn 4 = .ok (.ifCond .ne 5, 3) := by decide +kernel
theorem dX2_codeOfColumn_7 : decode cX2_codeOfColumn 7 = .ok (.iconst 1, 1) := by decide +kernel
theorem dX2_codeOfColumn_8 : decode cX2_codeOfColumn 8 = .ok (.ireturn, 1) := by decide +kernel
theorem dX2_codeOfColumn_9 : decode cX2_codeOfColumn 9 = .ok (.aload_n 0, 1) := by decide +kernel
theorem dX2_codeOfColumn_10 : decode cX2_codeOfColumn 10 = .ok (.getfield 66, 3) := by decide +kernel
theorem dX2_codeOfColumn_13 : decode cX2_codeOfColumn 13 = .ok (.bipush 9, 2) := by decide +kernel
theorem dX2_codeOfColumn_15 : decode cX2_codeOfColumn 15 = .ok (.if_icmp .ne 7, 3) := by decide +kernel
theorem dX2_codeOfColumn_18 : decode cX2_codeOfColumn 18 = .ok (.iconst 2, 1) := by decide +kernel
theorem dX2_codeOfColumn_19 : decode cX2_codeOfColumn 19 = .ok (.goto 4, 3) := by decide +kernel
theorem dX2_codeOfColumn_22 : decode cX2_codeOfColumn 22 = .ok (.iconst 0, 1) := by decide +kernel
theorem dX2_codeOfColumn_23 : decode cX2_codeOfColumn 23 = .ok (.ireturn, 1) := by decide +kernel
set_option maxRecDepth 20000 in
theorem ggX2_codeOfCell_X2_codeOfColumn : GoodIn wsX2_codeOfCell wsX2_codeOfColumn := goodIn_r _ [5, 6, 13, 14, 15, 16] (by decide +kernel) (by decide +kernel)
set_option maxRecDepth 20000 in
theorem gX2_codeOfCell_X2_codeOfColumn : GoodIn wsX2_codeOfCell (va_wsS RX2 69 yX2_codeOfColumn wsX2_codeOfColumn) := goodIn_app (goodIn_of _ (by decide +kernel)) ggX2_codeOfCell_X2_codeOfColumn
set_option maxRecDepth 20000 in
theorem ggX2_codeOfCell_X2_widens : GoodIn wsX2_codeOfCell wsX2_widens := goodIn_r _ [9, 10, 11, 4, 12] (by decide +kernel) (by decide +kernel)
set_option maxRecDepth 20000 in
theorem gX2_codeOfCell_X2_widens : GoodIn wsX2_codeOfCell (va_wsS RX2 131 yX2_widens wsX2_widens) := goodIn_app (goodIn_of _ (by decide +kernel)) ggX2_codeOfCell_X2_widens
theorem dX2_codeOfCell_0 : decode cX2_codeOfCell 0 = .ok (.aload_n 0, 1) := by decide +kernel
theorem dX2_codeOfCell_1 : decode cX2_codeOfCell 1 = .ok (.invokestatic 69, 3) := by decide +kernel
theorem dX2_codeOfCell_4 : decode cX2_codeOfCell 4 = .ok (.istore 4, 2) := by decide +kernel
theorem dX2_codeOfCell_6 : decode cX2_codeOfCell 6 = .ok (.iload 4, 2) := by decide +kernel
theorem dX2_codeOfCell_8 : decode cX2_codeOfCell 8 = .ok (.ifCond .eq 6, 3) := by decide +kernel
theorem dX2_codeOfCell_11 : decode cX2_codeOfCell 11 = .ok (.iload 4, 2) := by decide +kernel
theorem dX2_codeOfCell_13 : decode cX2_codeOfCell 13 = .ok (.ireturn, 1) := by decide +kernel
theorem dX2_codeOfCell_14 : decode cX2_codeOfCell 14 = .ok (.iload_n 1, 1) := by decide +kernel
theorem dX2_codeOfCell_15 : decode cX2_codeOfCell 15 = .ok (.ifCond .lt 11, 3) := by decide +kernel
theorem dX2_codeOfCell_18 : decode cX2_codeOfCell 18 = .ok (.iload_n 1, 1) := by decide +kernel
theorem dX2_codeOfCell_19 : decode cX2_codeOfCell 19 = .ok (.aload_n 0, 1) := by decide +kernel
theorem dX2_codeOfCell_20 : decode cX2_codeOfCell 20 = .ok (.getfield 76, 3) := by decide +kernel
theorem dX2_codeOfCell_23 : decode cX2_codeOfCell 23 = .ok (.if_icmp .lt 5, 3) := by decide +kernel
theorem dX2_codeOfCell_26 : decode cX2_codeOfCell 26 = .ok (.iconst 3, 1) := by decide +kernel
theorem dX2_codeOfCell_27 : decode cX2_codeOfCell 27 = .ok (.ireturn, 1) := by decide +kernel
theorem dX2_codeOfCell_28 : decode cX2_codeOfCell 28 = .ok (.iload_n 2, 1) := by decide +kernel
theorem dX2_codeOfCell_29 : decode cX2_codeOfCell 29 = .ok (.iload_n 3, 1) := by decide +kernel
theorem dX2_codeOfCell_30 : decode cX2_codeOfCell 30 = .ok (.invokestatic 131, 3) := by decide +kernel
theorem dX2_codeOfCell_33 : decode cX2_codeOfCell 33 = .ok (.ifCond .eq 7, 3) := by decide +kernel
theorem dX2_codeOfCell_36 : decode cX2_codeOfCell 36 = .ok (.iconst 0, 1) := by decide +kernel
theorem dX2_codeOfCell_37 : decode cX2_codeOfCell 37 = .ok (.goto 4, 3) := by decide +kernel
theorem dX2_codeOfCell_40 : decode cX2_codeOfCell 40 = .ok (.iconst 4, 1) := by decide +kernel
theorem dX2_codeOfCell_41 : decode cX2_codeOfCell 41 = .ok (.ireturn, 1) := by decide +kernel
theorem dX2_codeOfKinds_0 : decode cX2_codeOfKinds 0 = .ok (.aload_n 0, 1) := by decide +kernel
theorem dX2_codeOfKinds_1 : decode cX2_codeOfKinds 1 = .ok (.getfield 66, 3) := by decide +kernel
theorem dX2_codeOfKinds_4 : decode cX2_codeOfKinds 4 = .ok (.ifCond .eq 10, 3) := by decide +kernel
theorem dX2_codeOfKinds_7 : decode cX2_codeOfKinds 7 = .ok (.aload_n 1, 1) := by decide +kernel
theorem dX2_codeOfKinds_8 : decode cX2_codeOfKinds 8 = .ok (.getfield 66, 3) := by decide +kernel
theorem dX2_codeOfKinds_11 : decode cX2_codeOfKinds 11 = .ok (.ifCond .ne 5, 3) := by decide +kernel
theorem dX2_codeOfKinds_14 : decode cX2_codeOfKinds 14 = .ok (.iconst 1, 1) := by decide +kernel
theorem dX2_codeOfKinds_15 : decode cX2_codeOfKinds 15 = .ok (.ireturn, 1) := by decide +kernel
theorem dX2_codeOfKinds_16 : decode cX2_codeOfKinds 16 = .ok (.aload_n 0, 1) := by decide +kernel
theorem dX2_codeOfKinds_17 : decode cX2_codeOfKinds 17 = .ok (.getfield 66, 3) := by decide +kernel
theorem dX2_codeOfKinds_20 : decode cX2_codeOfKinds 20 = .ok (.aload_n 1, 1) := by decide +kernel
theorem dX2_codeOfKinds_21 : decode cX2_codeOfKinds 21 = .ok (.getfield 66, 3) := by decide +kernel
theorem dX2_codeOfKinds_24 : decode cX2_codeOfKinds 24 = .ok (.if_icmp .ne 16, 3) := by decide +kernel
theorem dX2_codeOfKinds_27 : decode cX2_codeOfKinds 27 = .ok (.aload_n 0, 1) := by decide +kernel
theorem dX2_codeOfKinds_28 : decode cX2_codeOfKinds 28 = .ok (.getfield 66, 3) := by decide +kernel
theorem dX2_codeOfKinds_31 : decode cX2_codeOfKinds 31 = .ok (.bipush 9, 2) := by decide +kernel
theorem dX2_codeOfKinds_33 : decode cX2_codeOfKinds 33 = .ok (.if_icmp .eq 7, 3) := by decide +kernel
theorem dX2_codeOfKinds_36 : decode cX2_codeOfKinds 36 = .ok (.iconst 1, 1) := by decide +kernel
theorem dX2_codeOfKinds_37 : decode cX2_codeOfKinds 37 = .ok (.goto 4, 3) := by decide +kernel
theorem dX2_codeOfKinds_40 : decode cX2_codeOfKinds 40 = .ok (.iconst 0, 1) := by decide +kernel
theorem dX2_codeOfKinds_41 : decode cX2_codeOfKinds 41 = .ok (.istore_n 2, 1) := by decide +kernel
theorem dX2_codeOfKinds_42 : decode cX2_codeOfKinds 42 = .ok (.iload_n 2, 1) := by decide +kernel
theorem dX2_codeOfKinds_43 : decode cX2_codeOfKinds 43 = .ok (.ifCond .eq 7, 3) := by decide +kernel
theorem dX2_codeOfKinds_46 : decode cX2_codeOfKinds 46 = .ok (.iconst 0, 1) := by decide +kernel
theorem dX2_codeOfKinds_47 : decode cX2_codeOfKinds 47 = .ok (.goto 4, 3) := by decide +kernel
theorem dX2_codeOfKinds_50 : decode cX2_codeOfKinds 50 = .ok (.iconst 5, 1) := by decide +kernel
theorem dX2_codeOfKinds_51 : decode cX2_codeOfKinds 51 = .ok (.ireturn, 1) := by decide +kernel
set_option maxRecDepth 20000 in
theorem ggX2_readWhole_X2_codeOfCell : GoodIn wsX2_readWhole wsX2_codeOfCell := goodIn_r _ [5, 6, 7, 8, 4, 9, 1, 10, 11, 12, 13, 14, 15, 28, 29, 30, 31] (by decide +kernel) (by decide +kernel)
set_option maxRecDepth 20000 in
theorem gX2_readWhole_X2_codeOfCell : GoodIn wsX2_readWhole (va_wsS RX2 83 yX2_codeOfCell wsX2_codeOfCell) := goodIn_app (goodIn_of _ (by decide +kernel)) ggX2_readWhole_X2_codeOfCell
set_option maxRecDepth 20000 in
theorem ggX2_readWhole_X2_note : GoodIn wsX2_readWhole wsX2_note := goodIn_r _ [19, 20, 21, 32, 33, 34, 35, 36] (by decide +kernel) (by decide +kernel)
set_option maxRecDepth 20000 in
theorem gX2_readWhole_X2_note : GoodIn wsX2_readWhole (wsV RX2 72 RX2 yX2_note wsX2_note) := goodIn_app (goodIn_of _ (by decide +kernel)) ggX2_readWhole_X2_note
set_option maxRecDepth 20000 in
theorem ggX2_readWhole_X0_wholeAt : GoodIn wsX2_readWhole wsX0_wholeAt := goodIn_r _ [26, 27, 28, 29, 30, 31] (by decide +kernel) (by decide +kernel)
set_option maxRecDepth 20000 in
theorem gX2_readWhole_X0_wholeAt : GoodIn wsX2_readWhole (wsV RX2 166 RX0 yX0_wholeAt wsX0_wholeAt) := goodIn_app (goodIn_of _ (by decide +kernel)) ggX2_readWhole_X0_wholeAt
theorem dX2_readWhole_0 : decode cX2_readWhole 0 = .ok (.aload_n 0, 1) := by decide +kernel
theorem dX2_readWhole_1 : decode cX2_readWhole 1 = .ok (.aload_n 1, 1) := by decide +kernel
theorem dX2_readWhole_2 : decode cX2_readWhole 2 = .ok (.iload_n 2, 1) := by decide +kernel
theorem dX2_readWhole_3 : decode cX2_readWhole 3 = .ok (.aload_n 1, 1) := by decide +kernel
theorem dX2_readWhole_4 : decode cX2_readWhole 4 = .ok (.getfield 66, 3) := by decide +kernel
theorem dX2_readWhole_7 : decode cX2_readWhole 7 = .ok (.iload_n 3, 1) := by decide +kernel
theorem dX2_readWhole_8 : decode cX2_readWhole 8 = .ok (.invokestatic 83, 3) := by decide +kernel
theorem dX2_readWhole_11 : decode cX2_readWhole 11 = .ok (.invokevirtual 72, 3) := by decide +kernel
theorem dX2_readWhole_14 : decode cX2_readWhole 14 = .ok (.istore 4, 2) := by decide +kernel
theorem dX2_readWhole_16 : decode cX2_readWhole 16 = .ok (.iload 4, 2) := by decide +kernel
theorem dX2_readWhole_18 : decode cX2_readWhole 18 = .ok (.ifCond .ne 11, 3) := by decide +kernel
theorem dX2_readWhole_21 : decode cX2_readWhole 21 = .ok (.aload_n 1, 1) := by decide +kernel
theorem dX2_readWhole_22 : decode cX2_readWhole 22 = .ok (.iload_n 2, 1) := by decide +kernel
theorem dX2_readWhole_23 : decode cX2_readWhole 23 = .ok (.invokevirtual 166, 3) := by decide +kernel
theorem dX2_readWhole_26 : decode cX2_readWhole 26 = .ok (.goto 4, 3) := by decide +kernel
theorem dX2_readWhole_29 : decode cX2_readWhole 29 = .ok (.lconst 0, 1) := by decide +kernel
theorem dX2_readWhole_30 : decode cX2_readWhole 30 = .ok (.lreturn, 1) := by decide +kernel
set_option maxRecDepth 20000 in
theorem ggX2_readReal_X2_codeOfCell : GoodIn wsX2_readReal wsX2_codeOfCell := goodIn_r _ [5, 6, 7, 8, 4, 9, 1, 10, 11, 12, 13, 14, 15, 40, 41, 42, 43] (by decide +kernel) (by decide +kernel)
set_option maxRecDepth 20000 in
theorem gX2_readReal_X2_codeOfCell : GoodIn wsX2_readReal (va_wsS RX2 83 yX2_codeOfCell wsX2_codeOfCell) := goodIn_app (goodIn_of _ (by decide +kernel)) ggX2_readReal_X2_codeOfCell
set_option maxRecDepth 20000 in
theorem ggX2_readReal_X2_note : GoodIn wsX2_readReal wsX2_note := goodIn_r _ [19, 20, 21, 44, 45, 46, 47, 48] (by decide +kernel) (by decide +kernel)
set_option maxRecDepth 20000 in
theorem gX2_readReal_X2_note : GoodIn wsX2_readReal (wsV RX2 72 RX2 yX2_note wsX2_note) := goodIn_app (goodIn_of _ (by decide +kernel)) ggX2_readReal_X2_note
set_option maxRecDepth 20000 in
theorem ggX2_readReal_X0_doubleAt : GoodIn wsX2_readReal wsX0_doubleAt := goodIn_r _ [26, 27, 28, 4, 29, 30, 31, 32, 25, 33, 34, 35, 36, 37, 38, 39, 40, 41, 42, 43] (by decide +kernel) (by decide +kernel)
set_option maxRecDepth 20000 in
theorem gX2_readReal_X0_doubleAt : GoodIn wsX2_readReal (wsV RX2 170 RX0 yX0_doubleAt wsX0_doubleAt) := goodIn_app (goodIn_of _ (by decide +kernel)) ggX2_readReal_X0_doubleAt
theorem dX2_readReal_0 : decode cX2_readReal 0 = .ok (.aload_n 0, 1) := by decide +kernel
theorem dX2_readReal_1 : decode cX2_readReal 1 = .ok (.aload_n 1, 1) := by decide +kernel
theorem dX2_readReal_2 : decode cX2_readReal 2 = .ok (.iload_n 2, 1) := by decide +kernel
theorem dX2_readReal_3 : decode cX2_readReal 3 = .ok (.aload_n 1, 1) := by decide +kernel
theorem dX2_readReal_4 : decode cX2_readReal 4 = .ok (.getfield 66, 3) := by decide +kernel
theorem dX2_readReal_7 : decode cX2_readReal 7 = .ok (.iload_n 3, 1) := by decide +kernel
theorem dX2_readReal_8 : decode cX2_readReal 8 = .ok (.invokestatic 83, 3) := by decide +kernel
theorem dX2_readReal_11 : decode cX2_readReal 11 = .ok (.invokevirtual 72, 3) := by decide +kernel
theorem dX2_readReal_14 : decode cX2_readReal 14 = .ok (.istore 4, 2) := by decide +kernel
theorem dX2_readReal_16 : decode cX2_readReal 16 = .ok (.iload 4, 2) := by decide +kernel
theorem dX2_readReal_18 : decode cX2_readReal 18 = .ok (.ifCond .ne 11, 3) := by decide +kernel
theorem dX2_readReal_21 : decode cX2_readReal 21 = .ok (.aload_n 1, 1) := by decide +kernel
theorem dX2_readReal_22 : decode cX2_readReal 22 = .ok (.iload_n 2, 1) := by decide +kernel
theorem dX2_readReal_23 : decode cX2_readReal 23 = .ok (.invokevirtual 170, 3) := by decide +kernel
theorem dX2_readReal_26 : decode cX2_readReal 26 = .ok (.goto 4, 3) := by decide +kernel
theorem dX2_readReal_29 : decode cX2_readReal 29 = .ok (.dconst 0, 1) := by decide +kernel
theorem dX2_readReal_30 : decode cX2_readReal 30 = .ok (.dreturn, 1) := by decide +kernel
set_option maxRecDepth 20000 in
theorem ggX2_writeWhole_X2_codeOfCell : GoodIn wsX2_writeWhole wsX2_codeOfCell := goodIn_r _ [5, 6, 7, 8, 4, 9, 1, 10, 11, 12, 13, 14, 15, 34, 35, 36, 37] (by decide +kernel) (by decide +kernel)
set_option maxRecDepth 20000 in
theorem gX2_writeWhole_X2_codeOfCell : GoodIn wsX2_writeWhole (va_wsS RX2 83 yX2_codeOfCell wsX2_codeOfCell) := goodIn_app (goodIn_of _ (by decide +kernel)) ggX2_writeWhole_X2_codeOfCell
set_option maxRecDepth 20000 in
theorem ggX2_writeWhole_X2_note : GoodIn wsX2_writeWhole wsX2_note := goodIn_r _ [19, 20, 21, 38, 39, 40, 41, 42] (by decide +kernel) (by decide +kernel)
set_option maxRecDepth 20000 in
theorem gX2_writeWhole_X2_note : GoodIn wsX2_writeWhole (wsV RX2 72 RX2 yX2_note wsX2_note) := goodIn_app (goodIn_of _ (by decide +kernel)) ggX2_writeWhole_X2_note
set_option maxRecDepth 20000 in
theorem ggX2_writeWhole_X0_putWhole : GoodIn wsX2_writeWhole wsX0_putWhole := goodIn_r _ [26, 27, 28, 29, 30, 31, 25, 32, 33, 34, 35, 36, 37] (by decide +kernel) (by decide +kernel)
set_option maxRecDepth 20000 in
theorem gX2_writeWhole_X0_putWhole : GoodIn wsX2_writeWhole (wsV RX2 174 RX0 yX0_putWhole wsX0_putWhole) := goodIn_app (goodIn_of _ (by decide +kernel)) ggX2_writeWhole_X0_putWhole
theorem dX2_writeWhole_0 : decode cX2_writeWhole 0 = .ok (.aload_n 0, 1) := by decide +kernel
theorem dX2_writeWhole_1 : decode cX2_writeWhole 1 = .ok (.aload_n 1, 1) := by decide +kernel
theorem dX2_writeWhole_2 : decode cX2_writeWhole 2 = .ok (.iload_n 2, 1) := by decide +kernel
theorem dX2_writeWhole_3 : decode cX2_writeWhole 3 = .ok (.iload_n 3, 1) := by decide +kernel
theorem dX2_writeWhole_4 : decode cX2_writeWhole 4 = .ok (.aload_n 1, 1) := by decide +kernel
theorem dX2_writeWhole_5 : decode cX2_writeWhole 5 = .ok (.getfield 66, 3) := by decide +kernel
theorem dX2_writeWhole_8 : decode cX2_writeWhole 8 = .ok (.invokestatic 83, 3) := by decide +kernel
theorem dX2_writeWhole_11 : decode cX2_writeWhole 11 = .ok (.invokevirtual 72, 3) := by decide +kernel
theorem dX2_writeWhole_14 : decode cX2_writeWhole 14 = .ok (.istore 6, 2) := by decide +kernel
theorem dX2_writeWhole_16 : decode cX2_writeWhole 16 = .ok (.iload 6, 2) := by decide +kernel
theorem dX2_writeWhole_18 : decode cX2_writeWhole 18 = .ok (.ifCond .ne 10, 3) := by decide +kernel
theorem dX2_writeWhole_21 : decode cX2_writeWhole 21 = .ok (.aload_n 1, 1) := by decide +kernel
theorem dX2_writeWhole_22 : decode cX2_writeWhole 22 = .ok (.iload_n 2, 1) := by decide +kernel
theorem dX2_writeWhole_23 : decode cX2_writeWhole 23 = .ok (.lload 4, 2) := by decide +kernel
theorem dX2_writeWhole_25 : decode cX2_writeWhole 25 = .ok (.invokevirtual 174, 3) := by decide +kernel
theorem dX2_writeWhole_28 : decode cX2_writeWhole 28 = .ok (.iload 6, 2) := by decide +kernel
theorem dX2_writeWhole_30 : decode cX2_writeWhole 30 = .ok (.ireturn, 1) := by decide +kernel
set_option maxRecDepth 20000 in
theorem ggX2_writeReal_X2_codeOfCell : GoodIn wsX2_writeReal wsX2_codeOfCell := goodIn_r _ [5, 6, 7, 8, 4, 9, 1, 10, 11, 12, 13, 14, 15, 28, 29, 30, 31] (by decide +kernel) (by decide +kernel)
set_option maxRecDepth 20000 in
theorem gX2_writeReal_X2_codeOfCell : GoodIn wsX2_writeReal (va_wsS RX2 83 yX2_codeOfCell wsX2_codeOfCell) := goodIn_app (goodIn_of _ (by decide +kernel)) ggX2_writeReal_X2_codeOfCell
set_option maxRecDepth 20000 in
theorem ggX2_writeReal_X2_note : GoodIn wsX2_writeReal wsX2_note := goodIn_r _ [19, 20, 21, 32, 33, 34, 35, 36] (by decide +kernel) (by decide +kernel)
set_option maxRecDepth 20000 in
theorem gX2_writeReal_X2_note : GoodIn wsX2_writeReal (wsV RX2 72 RX2 yX2_note wsX2_note) := goodIn_app (goodIn_of _ (by decide +kernel)) ggX2_writeReal_X2_note
set_option maxRecDepth 20000 in
theorem ggX2_writeReal_X0_putReal : GoodIn wsX2_writeReal wsX0_putReal := goodIn_r _ [26, 27, 28, 29, 30, 31] (by decide +kernel) (by decide +kernel)
set_option maxRecDepth 20000 in
theorem gX2_writeReal_X0_putReal : GoodIn wsX2_writeReal (wsV RX2 178 RX0 yX0_putReal wsX0_putReal) := goodIn_app (goodIn_of _ (by decide +kernel)) ggX2_writeReal_X0_putReal
theorem dX2_writeReal_0 : decode cX2_writeReal 0 = .ok (.aload_n 0, 1) := by decide +kernel
theorem dX2_writeReal_1 : decode cX2_writeReal 1 = .ok (.aload_n 1, 1) := by decide +kernel
theorem dX2_writeReal_2 : decode cX2_writeReal 2 = .ok (.iload_n 2, 1) := by decide +kernel
theorem dX2_writeReal_3 : decode cX2_writeReal 3 = .ok (.iload_n 3, 1) := by decide +kernel
theorem dX2_writeReal_4 : decode cX2_writeReal 4 = .ok (.aload_n 1, 1) := by decide +kernel
theorem dX2_writeReal_5 : decode cX2_writeReal 5 = .ok (.getfield 66, 3) := by decide +kernel
theorem dX2_writeReal_8 : decode cX2_writeReal 8 = .ok (.invokestatic 83, 3) := by decide +kernel
theorem dX2_writeReal_11 : decode cX2_writeReal 11 = .ok (.invokevirtual 72, 3) := by decide +kernel
theorem dX2_writeReal_14 : decode cX2_writeReal 14 = .ok (.istore 6, 2) := by decide +kernel
theorem dX2_writeReal_16 : decode cX2_writeReal 16 = .ok (.iload 6, 2) := by decide +kernel
theorem dX2_writeReal_18 : decode cX2_writeReal 18 = .ok (.ifCond .ne 10, 3) := by decide +kernel
theorem dX2_writeReal_21 : decode cX2_writeReal 21 = .ok (.aload_n 1, 1) := by decide +kernel
theorem dX2_writeReal_22 : decode cX2_writeReal 22 = .ok (.iload_n 2, 1) := by decide +kernel
theorem dX2_writeReal_23 : decode cX2_writeReal 23 = .ok (.dload 4, 2) := by decide +kernel
theorem dX2_writeReal_25 : decode cX2_writeReal 25 = .ok (.invokevirtual 178, 3) := by decide +kernel
theorem dX2_writeReal_28 : decode cX2_writeReal 28 = .ok (.iload 6, 2) := by decide +kernel
theorem dX2_writeReal_30 : decode cX2_writeReal 30 = .ok (.ireturn, 1) := by decide +kernel
theorem dX2_wholeMadeFrom_0 : decode cX2_wholeMadeFrom 0 = .ok (.iload_n 1, 1) := by decide +kernel
theorem dX2_wholeMadeFrom_1 : decode cX2_wholeMadeFrom 1 = .ok (.tableswitch 53 1 4 #[31, 41, 45, 49], 31) := by decide +kernel
theorem dX2_wholeMadeFrom_32 : decode cX2_wholeMadeFrom 32 = .ok (.iload_n 0, 1) := by decide +kernel
theorem dX2_wholeMadeFrom_33 : decode cX2_wholeMadeFrom 33 = .ok (.ifCond .eq 7, 3) := by decide +kernel
theorem dX2_wholeMadeFrom_36 : decode cX2_wholeMadeFrom 36 = .ok (.lconst 1, 1) := by decide +kernel
theorem dX2_wholeMadeFrom_37 : decode cX2_wholeMadeFrom 37 = .ok (.goto 4, 3) := by decide +kernel
theorem dX2_wholeMadeFrom_40 : decode cX2_wholeMadeFrom 40 = .ok (.lconst 0, 1) := by decide +kernel
theorem dX2_wholeMadeFrom_41 : decode cX2_wholeMadeFrom 41 = .ok (.lreturn, 1) := by decide +kernel
theorem dX2_wholeMadeFrom_42 : decode cX2_wholeMadeFrom 42 = .ok (.iload_n 0, 1) := by decide +kernel
theorem dX2_wholeMadeFrom_43 : decode cX2_wholeMadeFrom 43 = .ok (.i2b, 1) := by decide +kernel
theorem dX2_wholeMadeFrom_44 : decode cX2_wholeMadeFrom 44 = .ok (.i2l, 1) := by decide +kernel
theorem dX2_wholeMadeFrom_45 : decode cX2_wholeMadeFrom 45 = .ok (.lreturn, 1) := by decide +kernel
theorem dX2_wholeMadeFrom_46 : decode cX2_wholeMadeFrom 46 = .ok (.iload_n 0, 1) := by decide +kernel
theorem dX2_wholeMadeFrom_47 : decode cX2_wholeMadeFrom 47 = .ok (.i2c, 1) := by decide +kernel
theorem dX2_wholeMadeFrom_48 : decode cX2_wholeMadeFrom 48 = .ok (.i2l, 1) := by decide +kernel
theorem dX2_wholeMadeFrom_49 : decode cX2_wholeMadeFrom 49 = .ok (.lreturn, 1) := by decide +kernel
theorem dX2_wholeMadeFrom_50 : decode cX2_wholeMadeFrom 50 = .ok (.iload_n 0, 1) := by decide +kernel
theorem dX2_wholeMadeFrom_51 : decode cX2_wholeMadeFrom 51 = .ok (.i2s, 1) := by decide +kernel
theorem dX2_wholeMadeFrom_52 : decode cX2_wholeMadeFrom 52 = .ok (.i2l, 1) := by decide +kernel
theorem dX2_wholeMadeFrom_53 : decode cX2_wholeMadeFrom 53 = .ok (.lreturn, 1) := by decide +kernel
theorem dX2_wholeMadeFrom_54 : decode cX2_wholeMadeFrom 54 = .ok (.iload_n 0, 1) := by decide +kernel
theorem dX2_wholeMadeFrom_55 : decode cX2_wholeMadeFrom 55 = .ok (.i2l, 1) := by decide +kernel
theorem dX2_wholeMadeFrom_56 : decode cX2_wholeMadeFrom 56 = .ok (.lreturn, 1) := by decide +kernel
theorem dX2_noNumber_0 : decode cX2_noNumber 0 = .ok (.ldc2_w 182, 3) := by decide +kernel
theorem dX2_noNumber_3 : decode cX2_noNumber 3 = .ok (.dreturn, 1) := by decide +kernel
theorem dX2_noFloatNumber_0 : decode cX2_noFloatNumber 0 = .ok (.ldc 184, 2) := by decide +kernel
theorem dX2_noFloatNumber_2 : decode cX2_noFloatNumber 2 = .ok (.freturn, 1) := by decide +kernel
set_option maxRecDepth 20000 in
theorem ggX2_doubleOf_X2_noNumber : GoodIn wsX2_doubleOf wsX2_noNumber := goodIn_r _ [4, 5] (by decide +kernel) (by decide +kernel)
set_option maxRecDepth 20000 in
theorem gX2_doubleOf_X2_noNumber : GoodIn wsX2_doubleOf (va_wsS RX2 185 yX2_noNumber wsX2_noNumber) := goodIn_app (goodIn_of _ (by decide +kernel)) ggX2_doubleOf_X2_noNumber
theorem dX2_doubleOf_0 : decode cX2_doubleOf 0 = .ok (.fload_n 0, 1) := by decide +kernel
theorem dX2_doubleOf_1 : decode cX2_doubleOf 1 = .ok (.fload_n 0, 1) := by decide +kernel
theorem dX2_doubleOf_2 : decode cX2_doubleOf 2 = .ok (.fcmp .l, 1) := by decide +kernel
theorem dX2_doubleOf_3 : decode cX2_doubleOf 3 = .ok (.ifCond .eq 9, 3) := by decide +kernel
theorem dX2_doubleOf_6 : decode cX2_doubleOf 6 = .ok (.invokestatic 185, 3) := by decide +kernel
theorem dX2_doubleOf_9 : decode cX2_doubleOf 9 = .ok (.goto 5, 3) := by decide +kernel
theorem dX2_doubleOf_12 : decode cX2_doubleOf 12 = .ok (.fload_n 0, 1) := by decide +kernel
theorem dX2_doubleOf_13 : decode cX2_doubleOf 13 = .ok (.f2d, 1) := by decide +kernel
theorem dX2_doubleOf_14 : decode cX2_doubleOf 14 = .ok (.dreturn, 1) := by decide +kernel
set_option maxRecDepth 20000 in
theorem ggX2_floatOf_X2_noFloatNumber : GoodIn wsX2_floatOf wsX2_noFloatNumber := goodIn_r _ [4, 5] (by decide +kernel) (by decide +kernel)
set_option maxRecDepth 20000 in
theorem gX2_floatOf_X2_noFloatNumber : GoodIn wsX2_floatOf (va_wsS RX2 188 yX2_noFloatNumber wsX2_noFloatNumber) := goodIn_app (goodIn_of _ (by decide +kernel)) ggX2_floatOf_X2_noFloatNumber
theorem dX2_floatOf_0 : decode cX2_floatOf 0 = .ok (.dload_n 0, 1) := by decide +kernel
theorem dX2_floatOf_1 : decode cX2_floatOf 1 = .ok (.dload_n 0, 1) := by decide +kernel
theorem dX2_floatOf_2 : decode cX2_floatOf 2 = .ok (.dcmp .l, 1) := by decide +kernel
theorem dX2_floatOf_3 : decode cX2_floatOf 3 = .ok (.ifCond .eq 9, 3) := by decide +kernel
theorem dX2_floatOf_6 : decode cX2_floatOf 6 = .ok (.invokestatic 188, 3) := by decide +kernel
theorem dX2_floatOf_9 : decode cX2_floatOf 9 = .ok (.goto 5, 3) := by decide +kernel
theorem dX2_floatOf_12 : decode cX2_floatOf 12 = .ok (.dload_n 0, 1) := by decide +kernel
theorem dX2_floatOf_13 : decode cX2_floatOf 13 = .ok (.d2f, 1) := by decide +kernel
theorem dX2_floatOf_14 : decode cX2_floatOf 14 = .ok (.freturn, 1) := by decide +kernel
theorem dX2_isInfinite_0 : decode cX2_isInfinite 0 = .ok (.dload_n 0, 1) := by decide +kernel
theorem dX2_isInfinite_1 : decode cX2_isInfinite 1 = .ok (.ldc2_w 192, 3) := by decide +kernel
theorem dX2_isInfinite_4 : decode cX2_isInfinite 4 = .ok (.dcmp .l, 1) := by decide +kernel
theorem dX2_isInfinite_5 : decode cX2_isInfinite 5 = .ok (.ifCond .gt 11, 3) := by decide +kernel
theorem dX2_isInfinite_8 : decode cX2_isInfinite 8 = .ok (.dload_n 0, 1) := by decide +kernel
theorem dX2_isInfinite_9 : decode cX2_isInfinite 9 = .ok (.ldc2_w 194, 3) := by decide +kernel
theorem dX2_isInfinite_12 : decode cX2_isInfinite 12 = .ok (.dcmp .g, 1) := by decide +kernel
theorem dX2_isInfinite_13 : decode cX2_isInfinite 13 = .ok (.ifCond .ge 7, 3) := by decide +kernel
theorem dX2_isInfinite_16 : decode cX2_isInfinite 16 = .ok (.iconst 1, 1) := by decide +kernel
theorem dX2_isInfinite_17 : decode cX2_isInfinite 17 = .ok (.goto 4, 3) := by decide +kernel
theorem dX2_isInfinite_20 : decode cX2_isInfinite 20 = .ok (.iconst 0, 1) := by decide +kernel
theorem dX2_isInfinite_21 : decode cX2_isInfinite 21 = .ok (.ireturn, 1) := by decide +kernel
set_option maxRecDepth 20000 in
theorem ggX2_sumOf_X2_isInfinite : GoodIn wsX2_sumOf wsX2_isInfinite := goodIn_r _ [4, 5, 6] (by decide +kernel) (by decide +kernel)
set_option maxRecDepth 20000 in
theorem gX2_sumOf_X2_isInfinite : GoodIn wsX2_sumOf (va_wsS RX2 196 yX2_isInfinite wsX2_isInfinite) := goodIn_app (goodIn_of _ (by decide +kernel)) ggX2_sumOf_X2_isInfinite
set_option maxRecDepth 20000 in
theorem ggX2_sumOf_X2_noNumber : GoodIn wsX2_sumOf wsX2_noNumber := goodIn_r _ [9, 10] (by decide +kernel) (by decide +kernel)
set_option maxRecDepth 20000 in
theorem gX2_sumOf_X2_noNumber : GoodIn wsX2_sumOf (va_wsS RX2 185 yX2_noNumber wsX2_noNumber) := goodIn_app (goodIn_of _ (by decide +kernel)) ggX2_sumOf_X2_noNumber
theorem dX2_sumOf_0 : decode cX2_sumOf 0 = .ok (.dload_n 0, 1) := by decide +kernel
theorem dX2_sumOf_1 : decode cX2_sumOf 1 = .ok (.dload_n 0, 1) := by decide +kernel
theorem dX2_sumOf_2 : decode cX2_sumOf 2 = .ok (.dcmp .l, 1) := by decide +kernel
theorem dX2_sumOf_3 : decode cX2_sumOf 3 = .ok (.ifCond .ne 23, 3) := by decide +kernel
theorem dX2_sumOf_6 : decode cX2_sumOf 6 = .ok (.dload_n 2, 1) := by decide +kernel
theorem dX2_sumOf_7 : decode cX2_sumOf 7 = .ok (.dload_n 2, 1) := by decide +kernel
theorem dX2_sumOf_8 : decode cX2_sumOf 8 = .ok (.dcmp .l, 1) := by decide +kernel
theorem dX2_sumOf_9 : decode cX2_sumOf 9 = .ok (.ifCond .ne 17, 3) := by decide +kernel
theorem dX2_sumOf_12 : decode cX2_sumOf 12 = .ok (.dload_n 0, 1) := by decide +kernel
theorem dX2_sumOf_13 : decode cX2_sumOf 13 = .ok (.invokestatic 196, 3) := by decide +kernel
theorem dX2_sumOf_16 : decode cX2_sumOf 16 = .ok (.ifCond .eq 14, 3) := by decide +kernel
theorem dX2_sumOf_19 : decode cX2_sumOf 19 = .ok (.dload_n 0, 1) := by decide +kernel
theorem dX2_sumOf_20 : decode cX2_sumOf 20 = .ok (.dload_n 2, 1) := by decide +kernel
theorem dX2_sumOf_21 : decode cX2_sumOf 21 = .ok (.dneg, 1) := by decide +kernel
theorem dX2_sumOf_22 : decode cX2_sumOf 22 = .ok (.dcmp .l, 1) := by decide +kernel
theorem dX2_sumOf_23 : decode cX2_sumOf 23 = .ok (.ifCond .ne 7, 3) := by decide +kernel
theorem dX2_sumOf_26 : decode cX2_sumOf 26 = .ok (.invokestatic 185, 3) := by decide +kernel
theorem dX2_sumOf_29 : decode cX2_sumOf 29 = .ok (.dreturn, 1) := by decide +kernel
theorem dX2_sumOf_30 : decode cX2_sumOf 30 = .ok (.dload_n 0, 1) := by decide +kernel
theorem dX2_sumOf_31 : decode cX2_sumOf 31 = .ok (.dload_n 2, 1) := by decide +kernel
theorem dX2_sumOf_32 : decode cX2_sumOf 32 = .ok (.dadd, 1) := by decide +kernel
theorem dX2_sumOf_33 : decode cX2_sumOf 33 = .ok (.dreturn, 1) := by decide +kernel
theorem dX2_mixed_0 : decode cX2_mixed 0 = .ok (.lload_n 0, 1) := by decide +kernel
theorem dX2_mixed_1 : decode cX2_mixed 1 = .ok (.ldc2_w 200, 3) := by decide +kernel
theorem dX2_mixed_4 : decode cX2_mixed 4 = .ok (.lmul, 1) := by decide +kernel
theorem dX2_mixed_5 : decode cX2_mixed 5 = .ok (.lload_n 2, 1) := by decide +kernel
theorem dX2_mixed_6 : decode cX2_mixed 6 = .ok (.ladd, 1) := by decide +kernel
theorem dX2_mixed_7 : decode cX2_mixed 7 = .ok (.lreturn, 1) := by decide +kernel
set_option maxRecDepth 20000 in
theorem ggX2_mixedColumn_X2_mixed : GoodIn wsX2_mixedColumn wsX2_mixed := goodIn_r _ [9, 10] (by decide +kernel) (by decide +kernel)
set_option maxRecDepth 20000 in
theorem gX2_mixedColumn_X2_mixed : GoodIn wsX2_mixedColumn (va_wsS RX2 149 yX2_mixed wsX2_mixed) := goodIn_app (goodIn_of _ (by decide +kernel)) ggX2_mixedColumn_X2_mixed
set_option maxRecDepth 20000 in
theorem ggX2_mixedColumn_X1_of : GoodIn wsX2_mixedColumn wsX1_of := goodIn_r _ [15, 16, 17, 18, 19, 20, 14, 21, 22, 23, 24, 25, 8, 26, 27, 28, 29, 30, 31, 32, 33, 34, 35, 36, 46] (by decide +kernel) (by decide +kernel)
set_option maxRecDepth 20000 in
theorem gX2_mixedColumn_X1_of : GoodIn wsX2_mixedColumn (wsV RX2 210 RX1 yX1_of wsX1_of) := goodIn_app (goodIn_of _ (by decide +kernel)) ggX2_mixedColumn_X1_of
theorem dX2_mixedColumn_0 : decode cX2_mixedColumn 0 = .ok (.lload_n 1, 1) := by decide +kernel
theorem dX2_mixedColumn_1 : decode cX2_mixedColumn 1 = .ok (.aload_n 3, 1) := by decide +kernel
theorem dX2_mixedColumn_2 : decode cX2_mixedColumn 2 = .ok (.getfield 66, 3) := by decide +kernel
theorem dX2_mixedColumn_5 : decode cX2_mixedColumn 5 = .ok (.i2l, 1) := by decide +kernel
theorem dX2_mixedColumn_6 : decode cX2_mixedColumn 6 = .ok (.invokestatic 149, 3) := by decide +kernel
theorem dX2_mixedColumn_9 : decode cX2_mixedColumn 9 = .ok (.aload_n 3, 1) := by decide +kernel
theorem dX2_mixedColumn_10 : decode cX2_mixedColumn 10 = .ok (.getfield 76, 3) := by decide +kernel
theorem dX2_mixedColumn_13 : decode cX2_mixedColumn 13 = .ok (.i2l, 1) := by decide +kernel
theorem dX2_mixedColumn_14 : decode cX2_mixedColumn 14 = .ok (.invokestatic 149, 3) := by decide +kernel
theorem dX2_mixedColumn_17 : decode cX2_mixedColumn 17 = .ok (.lstore 4, 2) := by decide +kernel
theorem dX2_mixedColumn_19 : decode cX2_mixedColumn 19 = .ok (.aload_n 3, 1) := by decide +kernel
theorem dX2_mixedColumn_20 : decode cX2_mixedColumn 20 = .ok (.getfield 202, 3) := by decide +kernel
theorem dX2_mixedColumn_23 : decode cX2_mixedColumn 23 = .ok (.astore 6, 2) := by decide +kernel
theorem dX2_mixedColumn_25 : decode cX2_mixedColumn 25 = .ok (.aload 6, 2) := by decide +kernel
theorem dX2_mixedColumn_27 : decode cX2_mixedColumn 27 = .ok (.arraylength, 1) := by decide +kernel
theorem dX2_mixedColumn_28 : decode cX2_mixedColumn 28 = .ok (.istore 7, 2) := by decide +kernel
theorem dX2_mixedColumn_30 : decode cX2_mixedColumn 30 = .ok (.iconst 0, 1) := by decide +kernel
theorem dX2_mixedColumn_31 : decode cX2_mixedColumn 31 = .ok (.istore 8, 2) := by decide +kernel
theorem dX2_mixedColumn_33 : decode cX2_mixedColumn 33 = .ok (.iload 8, 2) := by decide +kernel
theorem dX2_mixedColumn_35 : decode cX2_mixedColumn 35 = .ok (.iload 7, 2) := by decide +kernel
theorem dX2_mixedColumn_37 : decode cX2_mixedColumn 37 = .ok (.if_icmp .ge 25, 3) := by decide +kernel
theorem dX2_mixedColumn_40 : decode cX2_mixedColumn 40 = .ok (.aload 6, 2) := by decide +kernel
theorem dX2_mixedColumn_42 : decode cX2_mixedColumn 42 = .ok (.iload 8, 2) := by decide +kernel
theorem dX2_mixedColumn_44 : decode cX2_mixedColumn 44 = .ok (.laload, 1) := by decide +kernel
theorem dX2_mixedColumn_45 : decode cX2_mixedColumn 45 = .ok (.lstore 9, 2) := by decide +kernel
theorem dX2_mixedColumn_47 : decode cX2_mixedColumn 47 = .ok (.lload 4, 2) := by decide +kernel
theorem dX2_mixedColumn_49 : decode cX2_mixedColumn 49 = .ok (.lload 9, 2) := by decide +kernel
theorem dX2_mixedColumn_51 : decode cX2_mixedColumn 51 = .ok (.invokestatic 149, 3) := by decide +kernel
theorem dX2_mixedColumn_54 : decode cX2_mixedColumn 54 = .ok (.lstore 4, 2) := by decide +kernel
theorem dX2_mixedColumn_56 : decode cX2_mixedColumn 56 = .ok (.iinc 8 1, 3) := by decide +kernel
theorem dX2_mixedColumn_59 : decode cX2_mixedColumn 59 = .ok (.goto (-26), 3) := by decide +kernel
theorem dX2_mixedColumn_62 : decode cX2_mixedColumn 62 = .ok (.aload_n 3, 1) := by decide +kernel
theorem dX2_mixedColumn_63 : decode cX2_mixedColumn 63 = .ok (.getfield 206, 3) := by decide +kernel
theorem dX2_mixedColumn_66 : decode cX2_mixedColumn 66 = .ok (.astore 6, 2) := by decide +kernel
theorem dX2_mixedColumn_68 : decode cX2_mixedColumn 68 = .ok (.aload 6, 2) := by decide +kernel
theorem dX2_mixedColumn_70 : decode cX2_mixedColumn 70 = .ok (.arraylength, 1) := by decide +kernel
theorem dX2_mixedColumn_71 : decode cX2_mixedColumn 71 = .ok (.istore 7, 2) := by decide +kernel
theorem dX2_mixedColumn_73 : decode cX2_mixedColumn 73 = .ok (.iconst 0, 1) := by decide +kernel
theorem dX2_mixedColumn_74 : decode cX2_mixedColumn 74 = .ok (.istore 8, 2) := by decide +kernel
theorem dX2_mixedColumn_76 : decode cX2_mixedColumn 76 = .ok (.iload 8, 2) := by decide +kernel
theorem dX2_mixedColumn_78 : decode cX2_mixedColumn 78 = .ok (.iload 7, 2) := by decide +kernel
theorem dX2_mixedColumn_80 : decode cX2_mixedColumn 80 = .ok (.if_icmp .ge 32, 3) := by decide +kernel
theorem dX2_mixedColumn_83 : decode cX2_mixedColumn 83 = .ok (.aload 6, 2) := by decide +kernel
theorem dX2_mixedColumn_85 : decode cX2_mixedColumn 85 = .ok (.iload 8, 2) := by decide +kernel
theorem dX2_mixedColumn_87 : decode cX2_mixedColumn 87 = .ok (.daload, 1) := by decide +kernel
theorem dX2_mixedColumn_88 : decode cX2_mixedColumn 88 = .ok (.dstore 9, 2) := by decide +kernel
theorem dX2_mixedColumn_90 : decode cX2_mixedColumn 90 = .ok (.lload 4, 2) := by decide +kernel
theorem dX2_mixedColumn_92 : decode cX2_mixedColumn 92 = .ok (.aload_n 0, 1) := by decide +kernel
theorem dX2_mixedColumn_93 : decode cX2_mixedColumn 93 = .ok (.getfield 22, 3) := by decide +kernel
theorem dX2_mixedColumn_96 : decode cX2_mixedColumn 96 = .ok (.dload 9, 2) := by decide +kernel
theorem dX2_mixedColumn_98 : decode cX2_mixedColumn 98 = .ok (.invokevirtual 210, 3) := by decide +kernel
theorem dX2_mixedColumn_101 : decode cX2_mixedColumn 101 = .ok (.invokestatic 149, 3) := by decide +kernel
theorem dX2_mixedColumn_104 : decode cX2_mixedColumn 104 = .ok (.lstore 4, 2) := by decide +kernel
theorem dX2_mixedColumn_106 : decode cX2_mixedColumn 106 = .ok (.iinc 8 1, 3) := by decide +kernel
theorem dX2_mixedColumn_109 : decode cX2_mixedColumn 109 = .ok (.goto (-33), 3) := by decide +kernel
theorem dX2_mixedColumn_112 : decode cX2_mixedColumn 112 = .ok (.lload 4, 2) := by decide +kernel
theorem dX2_mixedColumn_114 : decode cX2_mixedColumn 114 = .ok (.lreturn, 1) := by decide +kernel
end
section
theorem dX3_init_0 : decode cX3_init 0 = .ok (.aload_n 0, 1) := by decide +kernel
theorem dX3_init_1 : decode cX3_init 1 = .ok (.invokespecial 1, 3) := by decide +kernel
theorem dX3_init_4 : decode cX3_init 4 = .ok (.aload_n 0, 1) := by decide +kernel
theorem dX3_init_5 : decode cX3_init 5 = .ok (.bipush 60, 2) := by decide +kernel
theorem dX3_init_7 : decode cX3_init 7 = .ok (.newarray .int, 2) := by decide +kernel
theorem dX3_init_9 : decode cX3_init 9 = .ok (.putfield 9, 3) := by decide +kernel
theorem dX3_init_12 : decode cX3_init 12 = .ok (.aload_n 0, 1) := by decide +kernel
theorem dX3_init_13 : decode cX3_init 13 = .ok (.bipush 60, 2) := by decide +kernel
theorem dX3_init_15 : decode cX3_init 15 = .ok (.newarray .int, 2) := by decide +kernel
theorem dX3_init_17 : decode cX3_init 17 = .ok (.putfield 13, 3) := by decide +kernel
theorem dX3_init_20 : decode cX3_init 20 = .ok (.aload_n 0, 1) := by decide +kernel
theorem dX3_init_21 : decode cX3_init 21 = .ok (.sipush 2400, 3) := by decide +kernel
theorem dX3_init_24 : decode cX3_init 24 = .ok (.newarray .long, 2) := by decide +kernel
theorem dX3_init_26 : decode cX3_init 26 = .ok (.putfield 16, 3) := by decide +kernel
theorem dX3_init_29 : decode cX3_init 29 = .ok (.aload_n 0, 1) := by decide +kernel
theorem dX3_init_30 : decode cX3_init 30 = .ok (.sipush 2400, 3) := by decide +kernel
theorem dX3_init_33 : decode cX3_init 33 = .ok (.newarray .double, 2) := by decide +kernel
theorem dX3_init_35 : decode cX3_init 35 = .ok (.putfield 20, 3) := by decide +kernel
theorem dX3_init_38 : decode cX3_init 38 = .ok (.aload_n 0, 1) := by decide +kernel
theorem dX3_init_39 : decode cX3_init 39 = .ok (.bipush 6, 2) := by decide +kernel
theorem dX3_init_41 : decode cX3_init 41 = .ok (.newarray .int, 2) := by decide +kernel
theorem dX3_init_43 : decode cX3_init 43 = .ok (.putfield 24, 3) := by decide +kernel
theorem dX3_init_46 : decode cX3_init 46 = .ok (.return_, 1) := by decide +kernel
theorem dX3_thrown_0 : decode cX3_thrown 0 = .ok (.aload_n 0, 1) := by decide +kernel
theorem dX3_thrown_1 : decode cX3_thrown 1 = .ok (.getfield 27, 3) := by decide +kernel
theorem dX3_thrown_4 : decode cX3_thrown 4 = .ok (.ireturn, 1) := by decide +kernel
theorem dX3_fail_0 : decode cX3_fail 0 = .ok (.aload_n 0, 1) := by decide +kernel
theorem dX3_fail_1 : decode cX3_fail 1 = .ok (.iload_n 1, 1) := by decide +kernel
theorem dX3_fail_2 : decode cX3_fail 2 = .ok (.putfield 27, 3) := by decide +kernel
theorem dX3_fail_5 : decode cX3_fail 5 = .ok (.iconst 0, 1) := by decide +kernel
theorem dX3_fail_6 : decode cX3_fail 6 = .ok (.ireturn, 1) := by decide +kernel
theorem dX3_isColumn_0 : decode cX3_isColumn 0 = .ok (.iload_n 1, 1) := by decide +kernel
theorem dX3_isColumn_1 : decode cX3_isColumn 1 = .ok (.ifCond .lt 15, 3) := by decide +kernel
theorem dX3_isColumn_4 : decode cX3_isColumn 4 = .ok (.iload_n 1, 1) := by decide +kernel
theorem dX3_isColumn_5 : decode cX3_isColumn 5 = .ok (.aload_n 0, 1) := by decide +kernel
theorem dX3_isColumn_6 : decode cX3_isColumn 6 = .ok (.getfield 31, 3) := by decide +kernel
theorem dX3_isColumn_9 : decode cX3_isColumn 9 = .ok (.if_icmp .ge 7, 3) := by decide +kernel
theorem dX3_isColumn_12 : decode cX3_isColumn 12 = .ok (.iconst 1, 1) := by decide +kernel
theorem dX3_isColumn_13 : decode cX3_isColumn 13 = .ok (.goto 4, 3) := by decide +kernel
theorem dX3_isColumn_16 : decode cX3_isColumn 16 = .ok (.iconst 0, 1) := by decide +kernel
theorem dX3_isColumn_17 : decode cX3_isColumn 17 = .ok (.ireturn, 1) := by decide +kernel
theorem dX3_isReal_0 : decode cX3_isReal 0 = .ok (.iload_n 0, 1) := by decide +kernel
theorem dX3_isReal_1 : decode cX3_isReal 1 = .ok (.bipush 7, 2) := by decide +kernel
theorem dX3_isReal_3 : decode cX3_isReal 3 = .ok (.if_icmp .lt 7, 3) := by decide +kernel
theorem dX3_isReal_6 : decode cX3_isReal 6 = .ok (.iconst 1, 1) := by decide +kernel
theorem dX3_isReal_7 : decode cX3_isReal 7 = .ok (.goto 4, 3) := by decide +kernel
theorem dX3_isReal_10 : decode cX3_isReal 10 = .ok (.iconst 0, 1) := by decide +kernel
theorem dX3_isReal_11 : decode cX3_isReal 11 = .ok (.ireturn, 1) := by decide +kernel
theorem dX3_has_0 : decode cX3_has 0 = .ok (.iload_n 0, 1) := by decide +kernel
theorem dX3_has_1 : decode cX3_has 1 = .ok (.ifCond .le 13, 3) := by decide +kernel
theorem dX3_has_4 : decode cX3_has 4 = .ok (.iload_n 0, 1) := by decide +kernel
theorem dX3_has_5 : decode cX3_has 5 = .ok (.bipush 9, 2) := by decide +kernel
theorem dX3_has_7 : decode cX3_has 7 = .ok (.if_icmp .ge 7, 3) := by decide +kernel
theorem dX3_has_10 : decode cX3_has 10 = .ok (.iconst 1, 1) := by decide +kernel
theorem dX3_has_11 : decode cX3_has 11 = .ok (.goto 4, 3) := by decide +kernel
theorem dX3_has_14 : decode cX3_has 14 = .ok (.iconst 0, 1) := by decide +kernel
theorem dX3_has_15 : decode cX3_has 15 = .ok (.ireturn, 1) := by decide +kernel
set_option maxRecDepth 20000 in
theorem ggX3_widens_X3_has : GoodIn wsX3_widens wsX3_has := goodIn_r _ [4] (by decide +kernel) (by decide +kernel)
set_option maxRecDepth 20000 in
theorem gX3_widens_X3_has : GoodIn wsX3_widens (va_wsS RX3 34 yX3_has wsX3_has) := goodIn_app (goodIn_of _ (by decide +kernel)) ggX3_widens_X3_has
theorem dX3_widens_0 : decode cX3_widens 0 = .ok (.iload_n 0, 1) := by decide +kernel
theorem dX3_widens_1 : decode cX3_widens 1 = .ok (.invokestatic 34, 3) := by decide +kernel
theorem dX3_widens_4 : decode cX3_widens 4 = .ok (.ifCond .eq 10, 3) := by decide +kernel
theorem dX3_widens_7 : decode cX3_widens 7 = .ok (.iload_n 1, 1) := by decide +kernel
theorem dX3_widens_8 : decode cX3_widens 8 = .ok (.invokestatic 34, 3) := by decide +kernel
theorem dX3_widens_11 : decode cX3_widens 11 = .ok (.ifCond .ne 5, 3) := by decide +kernel
theorem dX3_widens_14 : decode cX3_widens 14 = .ok (.iconst 0, 1) := by decide +kernel
theorem dX3_widens_15 : decode cX3_widens 15 = .ok (.ireturn, 1) := by decide +kernel
theorem dX3_widens_16 : decode cX3_widens 16 = .ok (.iload_n 0, 1) := by decide +kernel
theorem dX3_widens_17 : decode cX3_widens 17 = .ok (.iload_n 1, 1) := by decide +kernel
theorem dX3_widens_18 : decode cX3_widens 18 = .ok (.if_icmp .ne 5, 3) := by decide +kernel
theorem dX3_widens_21 : decode cX3_widens 21 = .ok (.iconst 1, 1) := by decide +kernel
theorem dX3_widens_22 : decode cX3_widens 22 = .ok (.ireturn, 1) := by decide +kernel
theorem dX3_widens_23 : decode cX3_widens 23 = .ok (.iload_n 0, 1) := by decide +kernel
theorem dX3_widens_24 : decode cX3_widens 24 = .ok (.iconst 1, 1) := by decide +kernel
theorem dX3_widens_25 : decode cX3_widens 25 = .ok (.if_icmp .eq 13, 3) := by decide +kernel
theorem dX3_widens_28 : decode cX3_widens 28 = .ok (.iload_n 1, 1) := by decide +kernel
theorem dX3_widens_29 : decode cX3_widens 29 = .ok (.iconst 1, 1) := by decide +kernel
theorem dX3_widens_30 : decode cX3_widens 30 = .ok (.if_icmp .eq 8, 3) := by decide +kernel
theorem dX3_widens_33 : decode cX3_widens 33 = .ok (.iload_n 1, 1) := by decide +kernel
theorem dX3_widens_34 : decode cX3_widens 34 = .ok (.iconst 3, 1) := by decide +kernel
theorem dX3_widens_35 : decode cX3_widens 35 = .ok (.if_icmp .ne 5, 3) := by decide +kernel
theorem dX3_widens_38 : decode cX3_widens 38 = .ok (.iconst 0, 1) := by decide +kernel
theorem dX3_widens_39 : decode cX3_widens 39 = .ok (.ireturn, 1) := by decide +kernel
theorem dX3_widens_40 : decode cX3_widens 40 = .ok (.iload_n 0, 1) := by decide +kernel
theorem dX3_widens_41 : decode cX3_widens 41 = .ok (.iconst 3, 1) := by decide +kernel
theorem dX3_widens_42 : decode cX3_widens 42 = .ok (.if_icmp .ne 16, 3) := by decide +kernel
theorem dX3_widens_45 : decode cX3_widens 45 = .ok (.iload_n 1, 1) := by decide +kernel
theorem dX3_widens_46 : decode cX3_widens 46 = .ok (.iconst 5, 1) := by decide +kernel
theorem dX3_widens_47 : decode cX3_widens 47 = .ok (.if_icmp .lt 7, 3) := by decide +kernel
theorem dX3_widens_50 : decode cX3_widens 50 = .ok (.iconst 1, 1) := by decide +kernel
theorem dX3_widens_51 : decode cX3_widens 51 = .ok (.goto 17, 3) := by decide +kernel
theorem dX3_widens_54 : decode cX3_widens 54 = .ok (.iconst 0, 1) := by decide +kernel
theorem dX3_widens_55 : decode cX3_widens 55 = .ok (.goto 13, 3) := by decide +kernel
theorem dX3_widens_58 : decode cX3_widens 58 = .ok (.iload_n 0, 1) := by decide +kernel
theorem dX3_widens_59 : decode cX3_widens 59 = .ok (.iload_n 1, 1) := by decide +kernel
theorem dX3_widens_60 : decode cX3_widens 60 = .ok (.if_icmp .ge 7, 3) := by decide +kernel
theorem dX3_widens_63 : decode cX3_widens 63 = .ok (.iconst 1, 1) := by decide +kernel
theorem dX3_widens_64 : decode cX3_widens 64 = .ok (.goto 4, 3) := by decide +kernel
theorem dX3_widens_67 : decode cX3_widens 67 = .ok (.iconst 0, 1) := by decide +kernel
theorem dX3_widens_68 : decode cX3_widens 68 = .ok (.ireturn, 1) := by decide +kernel
theorem dX3_note_0 : decode cX3_note 0 = .ok (.aload_n 0, 1) := by decide +kernel
theorem dX3_note_1 : decode cX3_note 1 = .ok (.iload_n 1, 1) := by decide +kernel
theorem dX3_note_2 : decode cX3_note 2 = .ok (.putfield 38, 3) := by decide +kernel
theorem dX3_note_5 : decode cX3_note 5 = .ok (.aload_n 0, 1) := by decide +kernel
theorem dX3_note_6 : decode cX3_note 6 = .ok (.getfield 24, 3) := by decide +kernel
theorem dX3_note_9 : decode cX3_note 9 = .ok (.iload_n 1, 1) := by decide +kernel
theorem dX3_note_10 : decode cX3_note 10 = .ok (.dup2, 1) := by decide +kernel
theorem dX3_note_11 : decode cX3_note 11 = .ok (.iaload, 1) := by decide +kernel
theorem dX3_note_12 : decode cX3_note 12 = .ok (.iconst 1, 1) := by decide +kernel
theorem dX3_note_13 : decode cX3_note 13 = .ok (.iadd, 1) := by decide +kernel
theorem dX3_note_14 : decode cX3_note 14 = .ok (.iastore, 1) := by decide +kernel
theorem dX3_note_15 : decode cX3_note 15 = .ok (.iload_n 1, 1) := by decide +kernel
theorem dX3_note_16 : decode cX3_note 16 = .ok (.ifCond .ne 7, 3) := by decide +kernel
theorem dX3_note_19 : decode cX3_note 19 = .ok (.iconst 1, 1) := by decide +kernel
theorem dX3_note_20 : decode cX3_note 20 = .ok (.goto 4, 3) := by decide +kernel
theorem dX3_note_23 : decode cX3_note 23 = .ok (.iconst 0, 1) := by decide +kernel
theorem dX3_note_24 : decode cX3_note 24 = .ok (.ireturn, 1) := by decide +kernel
theorem dX3_codeOf_0 : decode cX3_codeOf 0 = .ok (.aload_n 0, 1) := by decide +kernel
theorem dX3_codeOf_1 : decode cX3_codeOf 1 = .ok (.getfield 9, 3) := by decide +kernel
theorem dX3_codeOf_4 : decode cX3_codeOf 4 = .ok (.iload_n 1, 1) := by decide +kernel
theorem dX3_codeOf_5 : decode cX3_codeOf 5 = .ok (.iaload, 1) := by decide +kernel
theorem dX3_codeOf_6 : decode cX3_codeOf 6 = .ok (.ifCond .ne 7, 3) := by decide +kernel
theorem dX3_codeOf_9 : decode cX3_codeOf 9 = .ok (.iconst 1, 1) := by decide +kernel
theorem dX3_codeOf_10 : decode cX3_codeOf 10 = .ok (.goto 19, 3) := by decide +kernel
theorem dX3_codeOf_13 : decode cX3_codeOf 13 = .ok (.aload_n 0, 1) := by decide +kernel
theorem dX3_codeOf_14 : decode cX3_codeOf 14 = .ok (.getfield 9, 3) := by decide +kernel
theorem dX3_codeOf_17 : decode cX3_codeOf 17 = .ok (.iload_n 1, 1) := by decide +kernel
theorem dX3_codeOf_18 : decode cX3_codeOf 18 = .ok (.iaload, 1) := by decide +kernel
theorem dX3_codeOf_19 : decode cX3_codeOf 19 = .ok (.bipush 9, 2) := by decide +kernel
theorem dX3_codeOf_21 : decode cX3_codeOf 21 = .ok (.if_icmp .ne 7, 3) := by decide +kernel
theorem dX3_codeOf_24 : decode cX3_codeOf 24 = .ok (.iconst 2, 1) := by decide +kernel
theorem dX3_codeOf_25 : decode cX3_codeOf 25 = .ok (.goto 4, 3) := by decide +kernel
theorem dX3_codeOf_28 : decode cX3_codeOf 28 = .ok (.iconst 0, 1) := by decide +kernel
theorem dX3_codeOf_29 : decode cX3_codeOf 29 = .ok (.ireturn, 1) := by decide +kernel
set_option maxRecDepth 20000 in
theorem ggX3_codeOf__X3_codeOf : GoodIn wsX3_codeOf_ wsX3_codeOf := goodIn_r _ [6, 7, 8, 9, 10, 11, 12, 13, 14, 15] (by decide +kernel) (by decide +kernel)
set_option maxRecDepth 20000 in
theorem gX3_codeOf__X3_codeOf : GoodIn wsX3_codeOf_ (wsV RX3 41 RX3 yX3_codeOf wsX3_codeOf) := goodIn_app (goodIn_of _ (by decide +kernel)) ggX3_codeOf__X3_codeOf
theorem dX3_codeOf__0 : decode cX3_codeOf_ 0 = .ok (.aload_n 0, 1) := by decide +kernel
theorem dX3_codeOf__1 : decode cX3_codeOf_ 1 = .ok (.iload_n 1, 1) := by decide +kernel
theorem dX3_codeOf__2 : decode cX3_codeOf_ 2 = .ok (.invokevirtual 41, 3) := by decide +kernel
theorem dX3_codeOf__5 : decode cX3_codeOf_ 5 = .ok (.ifCond .eq 11, 3) := by decide +kernel
theorem dX3_codeOf__8 : decode cX3_codeOf_ 8 = .ok (.aload_n 0, 1) := by decide +kernel
theorem dX3_codeOf__9 : decode cX3_codeOf_ 9 = .ok (.iload_n 1, 1) := by decide +kernel
theorem dX3_codeOf__10 : decode cX3_codeOf_ 10 = .ok (.invokevirtual 41, 3) := by decide +kernel
theorem dX3_codeOf__13 : decode cX3_codeOf_ 13 = .ok (.goto 22, 3) := by decide +kernel
theorem dX3_codeOf__16 : decode cX3_codeOf_ 16 = .ok (.iload_n 2, 1) := by decide +kernel
theorem dX3_codeOf__17 : decode cX3_codeOf_ 17 = .ok (.ifCond .lt 13, 3) := by decide +kernel
theorem dX3_codeOf__20 : decode cX3_codeOf_ 20 = .ok (.iload_n 2, 1) := by decide +kernel
theorem dX3_codeOf__21 : decode cX3_codeOf_ 21 = .ok (.aload_n 0, 1) := by decide +kernel
theorem dX3_codeOf__22 : decode cX3_codeOf_ 22 = .ok (.getfield 13, 3) := by decide +kernel
theorem dX3_codeOf__25 : decode cX3_codeOf_ 25 = .ok (.iload_n 1, 1) := by decide +kernel
theorem dX3_codeOf__26 : decode cX3_codeOf_ 26 = .ok (.iaload, 1) := by decide +kernel
theorem dX3_codeOf__27 : decode cX3_codeOf_ 27 = .ok (.if_icmp .lt 7, 3) := by decide +kernel
theorem dX3_codeOf__30 : decode cX3_codeOf_ 30 = .ok (.iconst 3, 1) := by decide +kernel
theorem dX3_codeOf__31 : decode cX3_codeOf_ 31 = .ok (.goto 4, 3) := by decide +kernel
theorem dX3_codeOf__34 : decode cX3_codeOf_ 34 = .ok (.iconst 0, 1) := by decide +kernel
theorem dX3_codeOf__35 : decode cX3_codeOf_ 35 = .ok (.ireturn, 1) := by decide +kernel
theorem dX3_at_0 : decode cX3_at 0 = .ok (.bipush 40, 2) := by decide +kernel
theorem dX3_at_2 : decode cX3_at 2 = .ok (.iload_n 0, 1) := by decide +kernel
theorem dX3_at_3 : decode cX3_at 3 = .ok (.imul, 1) := by decide +kernel
theorem dX3_at_4 : decode cX3_at 4 = .ok (.iload_n 1, 1) := by decide +kernel
theorem dX3_at_5 : decode cX3_at 5 = .ok (.iadd, 1) := by decide +kernel
theorem dX3_at_6 : decode cX3_at 6 = .ok (.ireturn, 1) := by decide +kernel
set_option maxRecDepth 20000 in
theorem ggX3_create_X3_has : GoodIn wsX3_create wsX3_has := goodIn_r _ [10] (by decide +kernel) (by decide +kernel)
set_option maxRecDepth 20000 in
theorem gX3_create_X3_has : GoodIn wsX3_create (va_wsS RX3 34 yX3_has wsX3_has) := goodIn_app (goodIn_of _ (by decide +kernel)) ggX3_create_X3_has
set_option maxRecDepth 20000 in
theorem ggX3_create_X3_fail : GoodIn wsX3_create wsX3_fail := goodIn_r _ [14, 1, 18, 19, 20, 21, 22, 23, 24, 25] (by decide +kernel) (by decide +kernel)
set_option maxRecDepth 20000 in
theorem gX3_create_X3_fail : GoodIn wsX3_create (wsV RX3 45 RX3 yX3_fail wsX3_fail) := goodIn_app (goodIn_of _ (by decide +kernel)) ggX3_create_X3_fail
set_option maxRecDepth 20000 in
theorem ggX3_create_X3_at : GoodIn wsX3_create wsX3_at := goodIn_r _ [17] (by decide +kernel) (by decide +kernel)
set_option maxRecDepth 20000 in
theorem gX3_create_X3_at : GoodIn wsX3_create (va_wsS RX3 48 yX3_at wsX3_at) := goodIn_app (goodIn_of _ (by decide +kernel)) ggX3_create_X3_at
theorem dX3_create_0 : decode cX3_create 0 = .ok (.aload_n 0, 1) := by decide +kernel
theorem dX3_create_1 : decode cX3_create 1 = .ok (.iconst 0, 1) := by decide +kernel
theorem dX3_create_2 : decode cX3_create 2 = .ok (.putfield 27, 3) := by decide +kernel
theorem dX3_create_5 : decode cX3_create 5 = .ok (.iload_n 1, 1) := by decide +kernel
theorem dX3_create_6 : decode cX3_create 6 = .ok (.ifCond .lt 26, 3) := by decide +kernel
theorem dX3_create_9 : decode cX3_create 9 = .ok (.iload_n 1, 1) := by decide +kernel
theorem dX3_create_10 : decode cX3_create 10 = .ok (.bipush 9, 2) := by decide +kernel
theorem dX3_create_12 : decode cX3_create 12 = .ok (.if_icmp .gt 20, 3) := by decide +kernel
theorem dX3_create_15 : decode cX3_create 15 = .ok (.iload_n 1, 1) := by decide +kernel
theorem dX3_create_16 : decode cX3_create 16 = .ok (.invokestatic 34, 3) := by decide +kernel
theorem dX3_create_19 : decode cX3_create 19 = .ok (.ifCond .eq 19, 3) := by decide +kernel
theorem dX3_create_22 : decode cX3_create 22 = .ok (.iload_n 2, 1) := by decide +kernel
theorem dX3_create_23 : decode cX3_create 23 = .ok (.ifCond .lt 9, 3) := by decide +kernel
theorem dX3_create_26 : decode cX3_create 26 = .ok (.iload_n 2, 1) := by decide +kernel
theorem dX3_create_27 : decode cX3_create 27 = .ok (.bipush 40, 2) := by decide +kernel
theorem dX3_create_29 : decode cX3_create 29 = .ok (.if_icmp .le 9, 3) := by decide +kernel
theorem dX3_create_32 : decode cX3_create 32 = .ok (.aload_n 0, 1) := by decide +kernel
theorem dX3_create_33 : decode cX3_create 33 = .ok (.iconst 1, 1) := by decide +kernel
theorem dX3_create_34 : decode cX3_create 34 = .ok (.invokevirtual 45, 3) := by decide +kernel
theorem dX3_create_37 : decode cX3_create 37 = .ok (.ireturn, 1) := by decide +kernel
theorem dX3_create_38 : decode cX3_create 38 = .ok (.aload_n 0, 1) := by decide +kernel
theorem dX3_create_39 : decode cX3_create 39 = .ok (.getfield 31, 3) := by decide +kernel
theorem dX3_create_42 : decode cX3_create 42 = .ok (.bipush 60, 2) := by decide +kernel
theorem dX3_create_44 : decode cX3_create 44 = .ok (.if_icmp .ne 9, 3) := by decide +kernel
theorem dX3_create_47 : decode cX3_create 47 = .ok (.aload_n 0, 1) := by decide +kernel
theorem dX3_create_48 : decode cX3_create 48 = .ok (.iconst 2, 1) := by decide +kernel
theorem dX3_create_49 : decode cX3_create 49 = .ok (.invokevirtual 45, 3) := by decide +kernel
theorem dX3_create_52 : decode cX3_create 52 = .ok (.ireturn, 1) := by decide +kernel
theorem dX3_create_53 : decode cX3_create 53 = .ok (.aload_n 0, 1) := by decide +kernel
theorem dX3_create_54 : decode cX3_create 54 = .ok (.getfield 9, 3) := by decide +kernel
theorem dX3_create_57 : decode cX3_create 57 = .ok (.aload_n 0, 1) := by decide +kernel
theorem dX3_create_58 : decode cX3_create 58 = .ok (.getfield 31, 3) := by decide +kernel
theorem dX3_create_61 : decode cX3_create 61 = .ok (.iload_n 1, 1) := by decide +kernel
theorem dX3_create_62 : decode cX3_create 62 = .ok (.iastore, 1) := by decide +kernel
theorem dX3_create_63 : decode cX3_create 63 = .ok (.aload_n 0, 1) := by decide +kernel
theorem dX3_create_64 : decode cX3_create 64 = .ok (.getfield 13, 3) := by decide +kernel
theorem dX3_create_67 : decode cX3_create 67 = .ok (.aload_n 0, 1) := by decide +kernel
theorem dX3_create_68 : decode cX3_create 68 = .ok (.getfield 31, 3) := by decide +kernel
theorem dX3_create_71 : decode cX3_create 71 = .ok (.iload_n 1, 1) := by decide +kernel
theorem dX3_create_72 : decode cX3_create 72 = .ok (.invokestatic 34, 3) := by decide +kernel
theorem dX3_create_75 : decode cX3_create 75 = .ok (.ifCond .eq 7, 3) := by decide +kernel
theorem dX3_create_78 : decode cX3_create 78 = .ok (.iload_n 2, 1) := by decide +kernel
theorem dX3_create_79 : decode cX3_create 79 = .ok (.goto 4, 3) := by decide +kernel
theorem dX3_create_82 : decode cX3_create 82 = .ok (.iconst 0, 1) := by decide +kernel
theorem dX3_create_83 : decode cX3_create 83 = .ok (.iastore, 1) := by decide +kernel
theorem dX3_create_84 : decode cX3_create 84 = .ok (.iconst 0, 1) := by decide +kernel
theorem dX3_create_85 : decode cX3_create 85 = .ok (.istore_n 3, 1) := by decide +kernel
theorem dX3_create_86 : decode cX3_create 86 = .ok (.iload_n 3, 1) := by decide +kernel
theorem dX3_create_87 : decode cX3_create 87 = .ok (.bipush 40, 2) := by decide +kernel
theorem dX3_create_89 : decode cX3_create 89 = .ok (.if_icmp .ge 37, 3) := by decide +kernel
theorem dX3_create_92 : decode cX3_create 92 = .ok (.aload_n 0, 1) := by decide +kernel
theorem dX3_create_93 : decode cX3_create 93 = .ok (.getfield 16, 3) := by decide +kernel
theorem dX3_create_96 : decode cX3_create 96 = .ok (.aload_n 0, 1) := by decide +kernel
theorem dX3_create_97 : decode cX3_create 97 = .ok (.getfield 31, 3) := by decide +kernel
theorem dX3_create_100 : decode cX3_create 100 = .ok (.iload_n 3, 1) := by decide +kernel
theorem dX3_create_101 : decode cX3_create 101 = .ok (.invokestatic 48, 3) := by decide +kernel
theorem dX3_create_104 : decode cX3_create 104 = .ok (.lconst 0, 1) := by decide +kernel
theorem dX3_create_105 : decode cX3_create 105 = .ok (.lastore, 1) := by decide +kernel
theorem dX3_create_106 : decode cX3_create 106 = .ok (.aload_n 0, 1) := by decide +kernel
theorem dX3_create_107 : decode cX3_create 107 = .ok (.getfield 20, 3) := by decide +kernel
theorem dX3_create_110 : decode cX3_create 110 = .ok (.aload_n 0, 1) := by decide +kernel
theorem dX3_create_111 : decode cX3_create 111 = .ok (.getfield 31, 3) := by decide +kernel
theorem dX3_create_114 : decode cX3_create 114 = .ok (.iload_n 3, 1) := by decide +kernel
theorem dX3_create_115 : decode cX3_create 115 = .ok (.invokestatic 48, 3) := by decide +kernel
theorem dX3_create_118 : decode cX3_create 118 = .ok (.dconst 0, 1) := by decide +kernel
theorem dX3_create_119 : decode cX3_create 119 = .ok (.dastore, 1) := by decide +kernel
theorem dX3_create_120 : decode cX3_create 120 = .ok (.iinc 3 1, 3) := by decide +kernel
theorem dX3_create_123 : decode cX3_create 123 = .ok (.goto (-37), 3) := by decide +kernel
theorem dX3_create_126 : decode cX3_create 126 = .ok (.aload_n 0, 1) := by decide +kernel
theorem dX3_create_127 : decode cX3_create 127 = .ok (.dup, 1) := by decide +kernel
theorem dX3_create_128 : decode cX3_create 128 = .ok (.getfield 31, 3) := by decide +kernel
theorem dX3_create_131 : decode cX3_create 131 = .ok (.iconst 1, 1) := by decide +kernel
theorem dX3_create_132 : decode cX3_create 132 = .ok (.iadd, 1) := by decide +kernel
theorem dX3_create_133 : decode cX3_create 133 = .ok (.putfield 31, 3) := by decide +kernel
theorem dX3_create_136 : decode cX3_create 136 = .ok (.aload_n 0, 1) := by decide +kernel
theorem dX3_create_137 : decode cX3_create 137 = .ok (.getfield 31, 3) := by decide +kernel
theorem dX3_create_140 : decode cX3_create 140 = .ok (.iconst 1, 1) := by decide +kernel
theorem dX3_create_141 : decode cX3_create 141 = .ok (.isub, 1) := by decide +kernel
theorem dX3_create_142 : decode cX3_create 142 = .ok (.ireturn, 1) := by decide +kernel
theorem dX3_columnCount_0 : decode cX3_columnCount 0 = .ok (.aload_n 0, 1) := by decide +kernel
theorem dX3_columnCount_1 : decode cX3_columnCount 1 = .ok (.iconst 0, 1) := by decide +kernel
theorem dX3_columnCount_2 : decode cX3_columnCount 2 = .ok (.putfield 27, 3) := by decide +kernel
theorem dX3_columnCount_5 : decode cX3_columnCount 5 = .ok (.aload_n 0, 1) := by decide +kernel
theorem dX3_columnCount_6 : decode cX3_columnCount 6 = .ok (.getfield 31, 3) := by decide +kernel
theorem dX3_columnCount_9 : decode cX3_columnCount 9 = .ok (.ireturn, 1) := by decide +kernel
set_option maxRecDepth 20000 in
theorem ggX3_kind_X3_isColumn : GoodIn wsX3_kind wsX3_isColumn := goodIn_r _ [7, 8, 13, 14, 15, 16, 17, 18, 19, 20] (by decide +kernel) (by decide +kernel)
set_option maxRecDepth 20000 in
theorem gX3_kind_X3_isColumn : GoodIn wsX3_kind (wsV RX3 52 RX3 yX3_isColumn wsX3_isColumn) := goodIn_app (goodIn_of _ (by decide +kernel)) ggX3_kind_X3_isColumn
set_option maxRecDepth 20000 in
theorem ggX3_kind_X3_fail : GoodIn wsX3_kind wsX3_fail := goodIn_r _ [12, 1, 13, 14, 15, 16, 17, 18, 19, 20] (by decide +kernel) (by decide +kernel)
set_option maxRecDepth 20000 in
theorem gX3_kind_X3_fail : GoodIn wsX3_kind (wsV RX3 45 RX3 yX3_fail wsX3_fail) := goodIn_app (goodIn_of _ (by decide +kernel)) ggX3_kind_X3_fail
theorem dX3_kind_0 : decode cX3_kind 0 = .ok (.aload_n 0, 1) := by decide +kernel
theorem dX3_kind_1 : decode cX3_kind 1 = .ok (.iconst 0, 1) := by decide +kernel
theorem dX3_kind_2 : decode cX3_kind 2 = .ok (.putfield 27, 3) := by decide +kernel
theorem dX3_kind_5 : decode cX3_kind 5 = .ok (.aload_n 0, 1) := by decide +kernel
theorem dX3_kind_6 : decode cX3_kind 6 = .ok (.iload_n 1, 1) := by decide +kernel
theorem dX3_kind_7 : decode cX3_kind 7 = .ok (.invokevirtual 52, 3) := by decide +kernel
theorem dX3_kind_10 : decode cX3_kind 10 = .ok (.ifCond .eq 12, 3) := by decide +kernel
theorem dX3_kind_13 : decode cX3_kind 13 = .ok (.aload_n 0, 1) := by decide +kernel
theorem dX3_kind_14 : decode cX3_kind 14 = .ok (.getfield 9, 3) := by decide +kernel
theorem dX3_kind_17 : decode cX3_kind 17 = .ok (.iload_n 1, 1) := by decide +kernel
theorem dX3_kind_18 : decode cX3_kind 18 = .ok (.iaload, 1) := by decide +kernel
theorem dX3_kind_19 : decode cX3_kind 19 = .ok (.goto 8, 3) := by decide +kernel
theorem dX3_kind_22 : decode cX3_kind 22 = .ok (.aload_n 0, 1) := by decide +kernel
theorem dX3_kind_23 : decode cX3_kind 23 = .ok (.iconst 1, 1) := by decide +kernel
theorem dX3_kind_24 : decode cX3_kind 24 = .ok (.invokevirtual 45, 3) := by decide +kernel
theorem dX3_kind_27 : decode cX3_kind 27 = .ok (.ireturn, 1) := by decide +kernel
set_option maxRecDepth 20000 in
theorem ggX3_length_X3_isColumn : GoodIn wsX3_length wsX3_isColumn := goodIn_r _ [7, 8, 24, 25, 26, 27, 28, 29, 30, 31] (by decide +kernel) (by decide +kernel)
set_option maxRecDepth 20000 in
theorem gX3_length_X3_isColumn : GoodIn wsX3_length (wsV RX3 52 RX3 yX3_isColumn wsX3_isColumn) := goodIn_app (goodIn_of _ (by decide +kernel)) ggX3_length_X3_isColumn
set_option maxRecDepth 20000 in
theorem ggX3_length_X3_fail : GoodIn wsX3_length wsX3_fail := goodIn_r _ [12, 1, 24, 25, 26, 27, 28, 29, 30, 31] (by decide +kernel) (by decide +kernel)
set_option maxRecDepth 20000 in
theorem gX3_length_X3_fail : GoodIn wsX3_length (wsV RX3 45 RX3 yX3_fail wsX3_fail) := goodIn_app (goodIn_of _ (by decide +kernel)) ggX3_length_X3_fail
set_option maxRecDepth 20000 in
theorem ggX3_length_X3_codeOf : GoodIn wsX3_length wsX3_codeOf := goodIn_r _ [16, 17, 24, 25, 26, 27, 28, 29, 30, 31] (by decide +kernel) (by decide +kernel)
set_option maxRecDepth 20000 in
theorem gX3_length_X3_codeOf : GoodIn wsX3_length (wsV RX3 41 RX3 yX3_codeOf wsX3_codeOf) := goodIn_app (goodIn_of _ (by decide +kernel)) ggX3_length_X3_codeOf
set_option maxRecDepth 20000 in
theorem ggX3_length_X3_note : GoodIn wsX3_length wsX3_note := goodIn_r _ [21, 22, 23, 24, 25, 26, 27, 28, 29, 30, 31] (by decide +kernel) (by decide +kernel)
set_option maxRecDepth 20000 in
theorem gX3_length_X3_note : GoodIn wsX3_length (wsV RX3 55 RX3 yX3_note wsX3_note) := goodIn_app (goodIn_of _ (by decide +kernel)) ggX3_length_X3_note
theorem dX3_length_0 : decode cX3_length 0 = .ok (.aload_n 0, 1) := by decide +kernel
theorem dX3_length_1 : decode cX3_length 1 = .ok (.iconst 0, 1) := by decide +kernel
theorem dX3_length_2 : decode cX3_length 2 = .ok (.putfield 27, 3) := by decide +kernel
theorem dX3_length_5 : decode cX3_length 5 = .ok (.aload_n 0, 1) := by decide +kernel
theorem dX3_length_6 : decode cX3_length 6 = .ok (.iload_n 1, 1) := by decide +kernel
theorem dX3_length_7 : decode cX3_length 7 = .ok (.invokevirtual 52, 3) := by decide +kernel
theorem dX3_length_10 : decode cX3_length 10 = .ok (.ifCond .ne 9, 3) := by decide +kernel
theorem dX3_length_13 : decode cX3_length 13 = .ok (.aload_n 0, 1) := by decide +kernel
theorem dX3_length_14 : decode cX3_length 14 = .ok (.iconst 1, 1) := by decide +kernel
theorem dX3_length_15 : decode cX3_length 15 = .ok (.invokevirtual 45, 3) := by decide +kernel
theorem dX3_length_18 : decode cX3_length 18 = .ok (.ireturn, 1) := by decide +kernel
theorem dX3_length_19 : decode cX3_length 19 = .ok (.aload_n 0, 1) := by decide +kernel
theorem dX3_length_20 : decode cX3_length 20 = .ok (.aload_n 0, 1) := by decide +kernel
theorem dX3_length_21 : decode cX3_length 21 = .ok (.iload_n 1, 1) := by decide +kernel
theorem dX3_length_22 : decode cX3_length 22 = .ok (.invokevirtual 41, 3) := by decide +kernel
theorem dX3_length_25 : decode cX3_length 25 = .ok (.invokevirtual 55, 3) := by decide +kernel
theorem dX3_length_28 : decode cX3_length 28 = .ok (.ifCond .eq 12, 3) := by decide +kernel
theorem dX3_length_31 : decode cX3_length 31 = .ok (.aload_n 0, 1) := by decide +kernel
theorem dX3_length_32 : decode cX3_length 32 = .ok (.getfield 13, 3) := by decide +kernel
theorem dX3_length_35 : decode cX3_length 35 = .ok (.iload_n 1, 1) := by decide +kernel
theorem dX3_length_36 : decode cX3_length 36 = .ok (.iaload, 1) := by decide +kernel
theorem dX3_length_37 : decode cX3_length 37 = .ok (.goto 4, 3) := by decide +kernel
theorem dX3_length_40 : decode cX3_length 40 = .ok (.iconst (-1), 1) := by decide +kernel
theorem dX3_length_41 : decode cX3_length 41 = .ok (.ireturn, 1) := by decide +kernel
set_option maxRecDepth 20000 in
theorem ggX3_reads_X3_isColumn : GoodIn wsX3_reads wsX3_isColumn := goodIn_r _ [7, 8, 30, 31, 32, 33, 34, 35, 36, 37] (by decide +kernel) (by decide +kernel)
set_option maxRecDepth 20000 in
theorem gX3_reads_X3_isColumn : GoodIn wsX3_reads (wsV RX3 52 RX3 yX3_isColumn wsX3_isColumn) := goodIn_app (goodIn_of _ (by decide +kernel)) ggX3_reads_X3_isColumn
set_option maxRecDepth 20000 in
theorem ggX3_reads_X3_codeOf_ : GoodIn wsX3_reads wsX3_codeOf_ := goodIn_r _ [12, 13, 14, 15, 16, 6, 17, 2, 30, 31, 32, 33, 34, 35, 36, 37] (by decide +kernel) (by decide +kernel)
set_option maxRecDepth 20000 in
theorem gX3_reads_X3_codeOf_ : GoodIn wsX3_reads (wsV RX3 58 RX3 yX3_codeOf_ wsX3_codeOf_) := goodIn_app (goodIn_of _ (by decide +kernel)) ggX3_reads_X3_codeOf_
set_option maxRecDepth 20000 in
theorem ggX3_reads_X3_widens : GoodIn wsX3_reads wsX3_widens := goodIn_r _ [20, 21, 22, 6, 23] (by decide +kernel) (by decide +kernel)
set_option maxRecDepth 20000 in
theorem gX3_reads_X3_widens : GoodIn wsX3_reads (va_wsS RX3 60 yX3_widens wsX3_widens) := goodIn_app (goodIn_of _ (by decide +kernel)) ggX3_reads_X3_widens
set_option maxRecDepth 20000 in
theorem ggX3_reads_X3_note : GoodIn wsX3_reads wsX3_note := goodIn_r _ [27, 28, 29, 30, 31, 32, 33, 34, 35, 36, 37] (by decide +kernel) (by decide +kernel)
set_option maxRecDepth 20000 in
theorem gX3_reads_X3_note : GoodIn wsX3_reads (wsV RX3 55 RX3 yX3_note wsX3_note) := goodIn_app (goodIn_of _ (by decide +kernel)) ggX3_reads_X3_note
theorem dX3_reads_0 : decode cX3_reads 0 = .ok (.aload_n 0, 1) := by decide +kernel
theorem dX3_reads_1 : decode cX3_reads 1 = .ok (.aload_n 0, 1) := by decide +kernel
theorem dX3_reads_2 : decode cX3_reads 2 = .ok (.iload_n 1, 1) := by decide +kernel
theorem dX3_reads_3 : decode cX3_reads 3 = .ok (.invokevirtual 52, 3) := by decide +kernel
theorem dX3_reads_6 : decode cX3_reads 6 = .ok (.ifCond .eq 7, 3) := by decide +kernel
theorem dX3_reads_9 : decode cX3_reads 9 = .ok (.iconst 0, 1) := by decide +kernel
theorem dX3_reads_10 : decode cX3_reads 10 = .ok (.goto 4, 3) := by decide +kernel
theorem dX3_reads_13 : decode cX3_reads 13 = .ok (.iconst 1, 1) := by decide +kernel
theorem dX3_reads_14 : decode cX3_reads 14 = .ok (.putfield 27, 3) := by decide +kernel
theorem dX3_reads_17 : decode cX3_reads 17 = .ok (.aload_n 0, 1) := by decide +kernel
theorem dX3_reads_18 : decode cX3_reads 18 = .ok (.getfield 27, 3) := by decide +kernel
theorem dX3_reads_21 : decode cX3_reads 21 = .ok (.ifCond .eq 5, 3) := by decide +kernel
theorem dX3_reads_24 : decode cX3_reads 24 = .ok (.iconst 0, 1) := by decide +kernel
theorem dX3_reads_25 : decode cX3_reads 25 = .ok (.ireturn, 1) := by decide +kernel
theorem dX3_reads_26 : decode cX3_reads 26 = .ok (.aload_n 0, 1) := by decide +kernel
theorem dX3_reads_27 : decode cX3_reads 27 = .ok (.iload_n 1, 1) := by decide +kernel
theorem dX3_reads_28 : decode cX3_reads 28 = .ok (.iload_n 2, 1) := by decide +kernel
theorem dX3_reads_29 : decode cX3_reads 29 = .ok (.invokevirtual 58, 3) := by decide +kernel
theorem dX3_reads_32 : decode cX3_reads 32 = .ok (.istore 4, 2) := by decide +kernel
theorem dX3_reads_34 : decode cX3_reads 34 = .ok (.aload_n 0, 1) := by decide +kernel
theorem dX3_reads_35 : decode cX3_reads 35 = .ok (.iload 4, 2) := by decide +kernel
theorem dX3_reads_37 : decode cX3_reads 37 = .ok (.ifCond .ne 20, 3) := by decide +kernel
theorem dX3_reads_40 : decode cX3_reads 40 = .ok (.aload_n 0, 1) := by decide +kernel
theorem dX3_reads_41 : decode cX3_reads 41 = .ok (.getfield 9, 3) := by decide +kernel
theorem dX3_reads_44 : decode cX3_reads 44 = .ok (.iload_n 1, 1) := by decide +kernel
theorem dX3_reads_45 : decode cX3_reads 45 = .ok (.iaload, 1) := by decide +kernel
theorem dX3_reads_46 : decode cX3_reads 46 = .ok (.iload_n 3, 1) := by decide +kernel
theorem dX3_reads_47 : decode cX3_reads 47 = .ok (.invokestatic 60, 3) := by decide +kernel
theorem dX3_reads_50 : decode cX3_reads 50 = .ok (.ifCond .ne 7, 3) := by decide +kernel
theorem dX3_reads_53 : decode cX3_reads 53 = .ok (.iconst 4, 1) := by decide +kernel
theorem dX3_reads_54 : decode cX3_reads 54 = .ok (.goto 5, 3) := by decide +kernel
theorem dX3_reads_57 : decode cX3_reads 57 = .ok (.iload 4, 2) := by decide +kernel
theorem dX3_reads_59 : decode cX3_reads 59 = .ok (.invokevirtual 55, 3) := by decide +kernel
theorem dX3_reads_62 : decode cX3_reads 62 = .ok (.ireturn, 1) := by decide +kernel
set_option maxRecDepth 20000 in
theorem ggX3_readBoolean_X3_reads : GoodIn wsX3_readBoolean wsX3_reads := goodIn_r _ [6, 7, 8, 9, 10, 11, 5, 12, 13, 14, 15, 16, 17, 18, 19, 20, 21, 22, 23, 24, 25, 26, 27, 28, 29, 30, 31, 32, 33, 34, 38, 39, 40, 41, 42, 43, 44, 45] (by decide +kernel) (by decide +kernel)
set_option maxRecDepth 20000 in
theorem gX3_readBoolean_X3_reads : GoodIn wsX3_readBoolean (wsV RX3 64 RX3 yX3_reads wsX3_reads) := goodIn_app (goodIn_of _ (by decide +kernel)) ggX3_readBoolean_X3_reads
set_option maxRecDepth 20000 in
theorem ggX3_readBoolean_X3_at : GoodIn wsX3_readBoolean wsX3_at := goodIn_r _ [37] (by decide +kernel) (by decide +kernel)
set_option maxRecDepth 20000 in
theorem gX3_readBoolean_X3_at : GoodIn wsX3_readBoolean (va_wsS RX3 48 yX3_at wsX3_at) := goodIn_app (goodIn_of _ (by decide +kernel)) ggX3_readBoolean_X3_at
theorem dX3_readBoolean_0 : decode cX3_readBoolean 0 = .ok (.aload_n 0, 1) := by decide +kernel
theorem dX3_readBoolean_1 : decode cX3_readBoolean 1 = .ok (.iload_n 1, 1) := by decide +kernel
theorem dX3_readBoolean_2 : decode cX3_readBoolean 2 = .ok (.iload_n 2, 1) := by decide +kernel
theorem dX3_readBoolean_3 : decode cX3_readBoolean 3 = .ok (.iconst 1, 1) := by decide +kernel
theorem dX3_readBoolean_4 : decode cX3_readBoolean 4 = .ok (.invokevirtual 64, 3) := by decide +kernel
theorem dX3_readBoolean_7 : decode cX3_readBoolean 7 = .ok (.ifCond .eq 22, 3) := by decide +kernel
theorem dX3_readBoolean_10 : decode cX3_readBoolean 10 = .ok (.aload_n 0, 1) := by decide +kernel
theorem dX3_readBoolean_11 : decode cX3_readBoolean 11 = .ok (.getfield 16, 3) := by decide +kernel
theorem dX3_readBoolean_14 : decode cX3_readBoolean 14 = .ok (.iload_n 1, 1) := by decide +kernel
theorem dX3_readBoolean_15 : decode cX3_readBoolean 15 = .ok (.iload_n 2, 1) := by decide +kernel
theorem dX3_readBoolean_16 : decode cX3_readBoolean 16 = .ok (.invokestatic 48, 3) := by decide +kernel
theorem dX3_readBoolean_19 : decode cX3_readBoolean 19 = .ok (.laload, 1) := by decide +kernel
theorem dX3_readBoolean_20 : decode cX3_readBoolean 20 = .ok (.lconst 1, 1) := by decide +kernel
theorem dX3_readBoolean_21 : decode cX3_readBoolean 21 = .ok (.lcmp, 1) := by decide +kernel
theorem dX3_readBoolean_22 : decode cX3_readBoolean 22 = .ok (.ifCond .ne 7, 3) := by decide +kernel
theorem dX3_readBoolean_25 : decode cX3_readBoolean 25 = .ok (.iconst 1, 1) := by decide +kernel
theorem dX3_readBoolean_26 : decode cX3_readBoolean 26 = .ok (.goto 4, 3) := by decide +kernel
theorem dX3_readBoolean_29 : decode cX3_readBoolean 29 = .ok (.iconst 0, 1) := by decide +kernel
theorem dX3_readBoolean_30 : decode cX3_readBoolean 30 = .ok (.ireturn, 1) := by decide +kernel
set_option maxRecDepth 20000 in
theorem ggX3_readByte_X3_reads : GoodIn wsX3_readByte wsX3_reads := goodIn_r _ [6, 7, 8, 9, 10, 11, 5, 12, 13, 14, 15, 16, 17, 18, 19, 20, 21, 22, 23, 24, 25, 26, 27, 28, 29, 30, 31, 32, 33, 34, 38, 39, 40, 41, 42, 43, 44, 45] (by decide +kernel) (by decide +kernel)
set_option maxRecDepth 20000 in
theorem gX3_readByte_X3_reads : GoodIn wsX3_readByte (wsV RX3 64 RX3 yX3_reads wsX3_reads) := goodIn_app (goodIn_of _ (by decide +kernel)) ggX3_readByte_X3_reads
set_option maxRecDepth 20000 in
theorem ggX3_readByte_X3_at : GoodIn wsX3_readByte wsX3_at := goodIn_r _ [37] (by decide +kernel) (by decide +kernel)
set_option maxRecDepth 20000 in
theorem gX3_readByte_X3_at : GoodIn wsX3_readByte (va_wsS RX3 48 yX3_at wsX3_at) := goodIn_app (goodIn_of _ (by decide +kernel)) ggX3_readByte_X3_at
theorem dX3_readByte_0 : decode cX3_readByte 0 = .ok (.aload_n 0, 1) := by decide +kernel
theorem dX3_readByte_1 : decode cX3_readByte 1 = .ok (.iload_n 1, 1) := by decide +kernel
theorem dX3_readByte_2 : decode cX3_readByte 2 = .ok (.iload_n 2, 1) := by decide +kernel
theorem dX3_readByte_3 : decode cX3_readByte 3 = .ok (.iconst 2, 1) := by decide +kernel
theorem dX3_readByte_4 : decode cX3_readByte 4 = .ok (.invokevirtual 64, 3) := by decide +kernel
theorem dX3_readByte_7 : decode cX3_readByte 7 = .ok (.ifCond .eq 17, 3) := by decide +kernel
theorem dX3_readByte_10 : decode cX3_readByte 10 = .ok (.aload_n 0, 1) := by decide +kernel
theorem dX3_readByte_11 : decode cX3_readByte 11 = .ok (.getfield 16, 3) := by decide +kernel
theorem dX3_readByte_14 : decode cX3_readByte 14 = .ok (.iload_n 1, 1) := by decide +kernel
theorem dX3_readByte_15 : decode cX3_readByte 15 = .ok (.iload_n 2, 1) := by decide +kernel
theorem dX3_readByte_16 : decode cX3_readByte 16 = .ok (.invokestatic 48, 3) := by decide +kernel
theorem dX3_readByte_19 : decode cX3_readByte 19 = .ok (.laload, 1) := by decide +kernel
theorem dX3_readByte_20 : decode cX3_readByte 20 = .ok (.l2i, 1) := by decide +kernel
theorem dX3_readByte_21 : decode cX3_readByte 21 = .ok (.goto 4, 3) := by decide +kernel
theorem dX3_readByte_24 : decode cX3_readByte 24 = .ok (.iconst 0, 1) := by decide +kernel
theorem dX3_readByte_25 : decode cX3_readByte 25 = .ok (.ireturn, 1) := by decide +kernel
set_option maxRecDepth 20000 in
theorem ggX3_readChar_X3_reads : GoodIn wsX3_readChar wsX3_reads := goodIn_r _ [6, 7, 8, 9, 10, 11, 5, 12, 13, 14, 15, 16, 17, 18, 19, 20, 21, 22, 23, 24, 25, 26, 27, 28, 29, 30, 31, 32, 33, 34, 38, 39, 40, 41, 42, 43, 44, 45] (by decide +kernel) (by decide +kernel)
set_option maxRecDepth 20000 in
theorem gX3_readChar_X3_reads : GoodIn wsX3_readChar (wsV RX3 64 RX3 yX3_reads wsX3_reads) := goodIn_app (goodIn_of _ (by decide +kernel)) ggX3_readChar_X3_reads
set_option maxRecDepth 20000 in
theorem ggX3_readChar_X3_at : GoodIn wsX3_readChar wsX3_at := goodIn_r _ [37] (by decide +kernel) (by decide +kernel)
set_option maxRecDepth 20000 in
theorem gX3_readChar_X3_at : GoodIn wsX3_readChar (va_wsS RX3 48 yX3_at wsX3_at) := goodIn_app (goodIn_of _ (by decide +kernel)) ggX3_readChar_X3_at
theorem dX3_readChar_0 : decode cX3_readChar 0 = .ok (.aload_n 0, 1) := by decide +kernel
theorem dX3_readChar_1 : decode cX3_readChar 1 = .ok (.iload_n 1, 1) := by decide +kernel
theorem dX3_readChar_2 : decode cX3_readChar 2 = .ok (.iload_n 2, 1) := by decide +kernel
theorem dX3_readChar_3 : decode cX3_readChar 3 = .ok (.iconst 3, 1) := by decide +kernel
theorem dX3_readChar_4 : decode cX3_readChar 4 = .ok (.invokevirtual 64, 3) := by decide +kernel
theorem dX3_readChar_7 : decode cX3_readChar 7 = .ok (.ifCond .eq 17, 3) := by decide +kernel
theorem dX3_readChar_10 : decode cX3_readChar 10 = .ok (.aload_n 0, 1) := by decide +kernel
theorem dX3_readChar_11 : decode cX3_readChar 11 = .ok (.getfield 16, 3) := by decide +kernel
theorem dX3_readChar_14 : decode cX3_readChar 14 = .ok (.iload_n 1, 1) := by decide +kernel
theorem dX3_readChar_15 : decode cX3_readChar 15 = .ok (.iload_n 2, 1) := by decide +kernel
theorem dX3_readChar_16 : decode cX3_readChar 16 = .ok (.invokestatic 48, 3) := by decide +kernel
theorem dX3_readChar_19 : decode cX3_readChar 19 = .ok (.laload, 1) := by decide +kernel
theorem dX3_readChar_20 : decode cX3_readChar 20 = .ok (.l2i, 1) := by decide +kernel
theorem dX3_readChar_21 : decode cX3_readChar 21 = .ok (.goto 4, 3) := by decide +kernel
theorem dX3_readChar_24 : decode cX3_readChar 24 = .ok (.iconst 0, 1) := by decide +kernel
theorem dX3_readChar_25 : decode cX3_readChar 25 = .ok (.ireturn, 1) := by decide +kernel
set_option maxRecDepth 20000 in
theorem ggX3_readShort_X3_reads : GoodIn wsX3_readShort wsX3_reads := goodIn_r _ [6, 7, 8, 9, 10, 11, 5, 12, 13, 14, 15, 16, 17, 18, 19, 20, 21, 22, 23, 24, 25, 26, 27, 28, 29, 30, 31, 32, 33, 34, 38, 39, 40, 41, 42, 43, 44, 45] (by decide +kernel) (by decide +kernel)
set_option maxRecDepth 20000 in
theorem gX3_readShort_X3_reads : GoodIn wsX3_readShort (wsV RX3 64 RX3 yX3_reads wsX3_reads) := goodIn_app (goodIn_of _ (by decide +kernel)) ggX3_readShort_X3_reads
set_option maxRecDepth 20000 in
theorem ggX3_readShort_X3_at : GoodIn wsX3_readShort wsX3_at := goodIn_r _ [37] (by decide +kernel) (by decide +kernel)
set_option maxRecDepth 20000 in
theorem gX3_readShort_X3_at : GoodIn wsX3_readShort (va_wsS RX3 48 yX3_at wsX3_at) := goodIn_app (goodIn_of _ (by decide +kernel)) ggX3_readShort_X3_at
theorem dX3_readShort_0 : decode cX3_readShort 0 = .ok (.aload_n 0, 1) := by decide +kernel
theorem dX3_readShort_1 : decode cX3_readShort 1 = .ok (.iload_n 1, 1) := by decide +kernel
theorem dX3_readShort_2 : decode cX3_readShort 2 = .ok (.iload_n 2, 1) := by decide +kernel
theorem dX3_readShort_3 : decode cX3_readShort 3 = .ok (.iconst 4, 1) := by decide +kernel
theorem dX3_readShort_4 : decode cX3_readShort 4 = .ok (.invokevirtual 64, 3) := by decide +kernel
theorem dX3_readShort_7 : decode cX3_readShort 7 = .ok (.ifCond .eq 17, 3) := by decide +kernel
theorem dX3_readShort_10 : decode cX3_readShort 10 = .ok (.aload_n 0, 1) := by decide +kernel
theorem dX3_readShort_11 : decode cX3_readShort 11 = .ok (.getfield 16, 3) := by decide +kernel
theorem dX3_readShort_14 : decode cX3_readShort 14 = .ok (.iload_n 1, 1) := by decide +kernel
theorem dX3_readShort_15 : decode cX3_readShort 15 = .ok (.iload_n 2, 1) := by decide +kernel
theorem dX3_readShort_16 : decode cX3_readShort 16 = .ok (.invokestatic 48, 3) := by decide +kernel
theorem dX3_readShort_19 : decode cX3_readShort 19 = .ok (.laload, 1) := by decide +kernel
theorem dX3_readShort_20 : decode cX3_readShort 20 = .ok (.l2i, 1) := by decide +kernel
theorem dX3_readShort_21 : decode cX3_readShort 21 = .ok (.goto 4, 3) := by decide +kernel
theorem dX3_readShort_24 : decode cX3_readShort 24 = .ok (.iconst 0, 1) := by decide +kernel
theorem dX3_readShort_25 : decode cX3_readShort 25 = .ok (.ireturn, 1) := by decide +kernel
set_option maxRecDepth 20000 in
theorem ggX3_readInt_X3_reads : GoodIn wsX3_readInt wsX3_reads := goodIn_r _ [6, 7, 8, 9, 10, 11, 5, 12, 13, 14, 15, 16, 17, 18, 19, 20, 21, 22, 23, 24, 25, 26, 27, 28, 29, 30, 31, 32, 33, 34, 38, 39, 40, 41, 42, 43, 44, 45] (by decide +kernel) (by decide +kernel)
set_option maxRecDepth 20000 in
theorem gX3_readInt_X3_reads : GoodIn wsX3_readInt (wsV RX3 64 RX3 yX3_reads wsX3_reads) := goodIn_app (goodIn_of _ (by decide +kernel)) ggX3_readInt_X3_reads
set_option maxRecDepth 20000 in
theorem ggX3_readInt_X3_at : GoodIn wsX3_readInt wsX3_at := goodIn_r _ [37] (by decide +kernel) (by decide +kernel)
set_option maxRecDepth 20000 in
theorem gX3_readInt_X3_at : GoodIn wsX3_readInt (va_wsS RX3 48 yX3_at wsX3_at) := goodIn_app (goodIn_of _ (by decide +kernel)) ggX3_readInt_X3_at
theorem dX3_readInt_0 : decode cX3_readInt 0 = .ok (.aload_n 0, 1) := by decide +kernel
theorem dX3_readInt_1 : decode cX3_readInt 1 = .ok (.iload_n 1, 1) := by decide +kernel
theorem dX3_readInt_2 : decode cX3_readInt 2 = .ok (.iload_n 2, 1) := by decide +kernel
theorem dX3_readInt_3 : decode cX3_readInt 3 = .ok (.iconst 5, 1) := by decide +kernel
theorem dX3_readInt_4 : decode cX3_readInt 4 = .ok (.invokevirtual 64, 3) := by decide +kernel
theorem dX3_readInt_7 : decode cX3_readInt 7 = .ok (.ifCond .eq 17, 3) := by decide +kernel
theorem dX3_readInt_10 : decode cX3_readInt 10 = .ok (.aload_n 0, 1) := by decide +kernel
theorem dX3_readInt_11 : decode cX3_readInt 11 = .ok (.getfield 16, 3) := by decide +kernel
theorem dX3_readInt_14 : decode cX3_readInt 14 = .ok (.iload_n 1, 1) := by decide +kernel
theorem dX3_readInt_15 : decode cX3_readInt 15 = .ok (.iload_n 2, 1) := by decide +kernel
theorem dX3_readInt_16 : decode cX3_readInt 16 = .ok (.invokestatic 48, 3) := by decide +kernel
theorem dX3_readInt_19 : decode cX3_readInt 19 = .ok (.laload, 1) := by decide +kernel
theorem dX3_readInt_20 : decode cX3_readInt 20 = .ok (.l2i, 1) := by decide +kernel
theorem dX3_readInt_21 : decode cX3_readInt 21 = .ok (.goto 4, 3) := by decide +kernel
theorem dX3_readInt_24 : decode cX3_readInt 24 = .ok (.iconst 0, 1) := by decide +kernel
theorem dX3_readInt_25 : decode cX3_readInt 25 = .ok (.ireturn, 1) := by decide +kernel
set_option maxRecDepth 20000 in
theorem ggX3_readLong_X3_reads : GoodIn wsX3_readLong wsX3_reads := goodIn_r _ [6, 7, 8, 9, 10, 11, 5, 12, 13, 14, 15, 16, 17, 18, 19, 20, 21, 22, 23, 24, 25, 26, 27, 28, 29, 30, 31, 32, 33, 34, 38, 39, 40, 41, 42, 43, 44, 45] (by decide +kernel) (by decide +kernel)
set_option maxRecDepth 20000 in
theorem gX3_readLong_X3_reads : GoodIn wsX3_readLong (wsV RX3 64 RX3 yX3_reads wsX3_reads) := goodIn_app (goodIn_of _ (by decide +kernel)) ggX3_readLong_X3_reads
set_option maxRecDepth 20000 in
theorem ggX3_readLong_X3_at : GoodIn wsX3_readLong wsX3_at := goodIn_r _ [37] (by decide +kernel) (by decide +kernel)
set_option maxRecDepth 20000 in
theorem gX3_readLong_X3_at : GoodIn wsX3_readLong (va_wsS RX3 48 yX3_at wsX3_at) := goodIn_app (goodIn_of _ (by decide +kernel)) ggX3_readLong_X3_at
theorem dX3_readLong_0 : decode cX3_readLong 0 = .ok (.aload_n 0, 1) := by decide +kernel
theorem dX3_readLong_1 : decode cX3_readLong 1 = .ok (.iload_n 1, 1) := by decide +kernel
theorem dX3_readLong_2 : decode cX3_readLong 2 = .ok (.iload_n 2, 1) := by decide +kernel
theorem dX3_readLong_3 : decode cX3_readLong 3 = .ok (.bipush 6, 2) := by decide +kernel
theorem dX3_readLong_5 : decode cX3_readLong 5 = .ok (.invokevirtual 64, 3) := by decide +kernel
theorem dX3_readLong_8 : decode cX3_readLong 8 = .ok (.ifCond .eq 16, 3) := by decide +kernel
theorem dX3_readLong_11 : decode cX3_readLong 11 = .ok (.aload_n 0, 1) := by decide +kernel
theorem dX3_readLong_12 : decode cX3_readLong 12 = .ok (.getfield 16, 3) := by decide +kernel
theorem dX3_readLong_15 : decode cX3_readLong 15 = .ok (.iload_n 1, 1) := by decide +kernel
theorem dX3_readLong_16 : decode cX3_readLong 16 = .ok (.iload_n 2, 1) := by decide +kernel
theorem dX3_readLong_17 : decode cX3_readLong 17 = .ok (.invokestatic 48, 3) := by decide +kernel
theorem dX3_readLong_20 : decode cX3_readLong 20 = .ok (.laload, 1) := by decide +kernel
theorem dX3_readLong_21 : decode cX3_readLong 21 = .ok (.goto 4, 3) := by decide +kernel
theorem dX3_readLong_24 : decode cX3_readLong 24 = .ok (.lconst 0, 1) := by decide +kernel
theorem dX3_readLong_25 : decode cX3_readLong 25 = .ok (.lreturn, 1) := by decide +kernel
set_option maxRecDepth 20000 in
theorem ggX3_readFloat_X3_reads : GoodIn wsX3_readFloat wsX3_reads := goodIn_r _ [8, 9, 1, 10, 11, 12, 7, 13, 14, 15, 16, 17, 18, 19, 20, 21, 22, 23, 24, 25, 26, 27, 28, 29, 30, 31, 32, 33, 34, 35, 42, 43, 44, 45, 46, 47, 48, 49] (by decide +kernel) (by decide +kernel)
set_option maxRecDepth 20000 in
theorem gX3_readFloat_X3_reads : GoodIn wsX3_readFloat (wsV RX3 64 RX3 yX3_reads wsX3_reads) := goodIn_app (goodIn_of _ (by decide +kernel)) ggX3_readFloat_X3_reads
set_option maxRecDepth 20000 in
theorem ggX3_readFloat_X3_isReal : GoodIn wsX3_readFloat wsX3_isReal := goodIn_r _ [38] (by decide +kernel) (by decide +kernel)
set_option maxRecDepth 20000 in
theorem gX3_readFloat_X3_isReal : GoodIn wsX3_readFloat (va_wsS RX3 68 yX3_isReal wsX3_isReal) := goodIn_app (goodIn_of _ (by decide +kernel)) ggX3_readFloat_X3_isReal
set_option maxRecDepth 20000 in
theorem ggX3_readFloat_X3_at : GoodIn wsX3_readFloat wsX3_at := goodIn_r _ [41] (by decide +kernel) (by decide +kernel)
set_option maxRecDepth 20000 in
theorem gX3_readFloat_X3_at : GoodIn wsX3_readFloat (va_wsS RX3 48 yX3_at wsX3_at) := goodIn_app (goodIn_of _ (by decide +kernel)) ggX3_readFloat_X3_at
theorem dX3_readFloat_0 : decode cX3_readFloat 0 = .ok (.aload_n 0, 1) := by decide +kernel
theorem dX3_readFloat_1 : decode cX3_readFloat 1 = .ok (.iload_n 1, 1) := by decide +kernel
theorem dX3_readFloat_2 : decode cX3_readFloat 2 = .ok (.iload_n 2, 1) := by decide +kernel
theorem dX3_readFloat_3 : decode cX3_readFloat 3 = .ok (.bipush 7, 2) := by decide +kernel
theorem dX3_readFloat_5 : decode cX3_readFloat 5 = .ok (.invokevirtual 64, 3) := by decide +kernel
theorem dX3_readFloat_8 : decode cX3_readFloat 8 = .ok (.ifCond .ne 7, 3) := by decide +kernel
theorem dX3_readFloat_11 : decode cX3_readFloat 11 = .ok (.fconst 0, 1) := by decide +kernel
theorem dX3_readFloat_12 : decode cX3_readFloat 12 = .ok (.goto 40, 3) := by decide +kernel
theorem dX3_readFloat_15 : decode cX3_readFloat 15 = .ok (.aload_n 0, 1) := by decide +kernel
theorem dX3_readFloat_16 : decode cX3_readFloat 16 = .ok (.getfield 9, 3) := by decide +kernel
theorem dX3_readFloat_19 : decode cX3_readFloat 19 = .ok (.iload_n 1, 1) := by decide +kernel
theorem dX3_readFloat_20 : decode cX3_readFloat 20 = .ok (.iaload, 1) := by decide +kernel
theorem dX3_readFloat_21 : decode cX3_readFloat 21 = .ok (.invokestatic 68, 3) := by decide +kernel
theorem dX3_readFloat_24 : decode cX3_readFloat 24 = .ok (.ifCond .eq 17, 3) := by decide +kernel
theorem dX3_readFloat_27 : decode cX3_readFloat 27 = .ok (.aload_n 0, 1) := by decide +kernel
theorem dX3_readFloat_28 : decode cX3_readFloat 28 = .ok (.getfield 20, 3) := by decide +kernel
theorem dX3_readFloat_31 : decode cX3_readFloat 31 = .ok (.iload_n 1, 1) := by decide +kernel
theorem dX3_readFloat_32 : decode cX3_readFloat 32 = .ok (.iload_n 2, 1) := by decide +kernel
theorem dX3_readFloat_33 : decode cX3_readFloat 33 = .ok (.invokestatic 48, 3) := by decide +kernel
theorem dX3_readFloat_36 : decode cX3_readFloat 36 = .ok (.daload, 1) := by decide +kernel
theorem dX3_readFloat_37 : decode cX3_readFloat 37 = .ok (.d2f, 1) := by decide +kernel
theorem dX3_readFloat_38 : decode cX3_readFloat 38 = .ok (.goto 14, 3) := by decide +kernel
theorem dX3_readFloat_41 : decode cX3_readFloat 41 = .ok (.aload_n 0, 1) := by decide +kernel
theorem dX3_readFloat_42 : decode cX3_readFloat 42 = .ok (.getfield 16, 3) := by decide +kernel
theorem dX3_readFloat_45 : decode cX3_readFloat 45 = .ok (.iload_n 1, 1) := by decide +kernel
theorem dX3_readFloat_46 : decode cX3_readFloat 46 = .ok (.iload_n 2, 1) := by decide +kernel
theorem dX3_readFloat_47 : decode cX3_readFloat 47 = .ok (.invokestatic 48, 3) := by decide +kernel
theorem dX3_readFloat_50 : decode cX3_readFloat 50 = .ok (.laload, 1) := by decide +kernel
theorem dX3_readFloat_51 : decode cX3_readFloat 51 = .ok (.l2f, 1) := by decide +kernel
theorem dX3_readFloat_52 : decode cX3_readFloat 52 = .ok (.freturn, 1) := by decide +kernel
set_option maxRecDepth 20000 in
theorem ggX3_asDouble_X3_isReal : GoodIn wsX3_asDouble wsX3_isReal := goodIn_r _ [7] (by decide +kernel) (by decide +kernel)
set_option maxRecDepth 20000 in
theorem gX3_asDouble_X3_isReal : GoodIn wsX3_asDouble (va_wsS RX3 68 yX3_isReal wsX3_isReal) := goodIn_app (goodIn_of _ (by decide +kernel)) ggX3_asDouble_X3_isReal
set_option maxRecDepth 20000 in
theorem ggX3_asDouble_X3_at : GoodIn wsX3_asDouble wsX3_at := goodIn_r _ [10] (by decide +kernel) (by decide +kernel)
set_option maxRecDepth 20000 in
theorem gX3_asDouble_X3_at : GoodIn wsX3_asDouble (va_wsS RX3 48 yX3_at wsX3_at) := goodIn_app (goodIn_of _ (by decide +kernel)) ggX3_asDouble_X3_at
theorem dX3_asDouble_0 : decode cX3_asDouble 0 = .ok (.aload_n 0, 1) := by decide +kernel
theorem dX3_asDouble_1 : decode cX3_asDouble 1 = .ok (.getfield 9, 3) := by decide +kernel
theorem dX3_asDouble_4 : decode cX3_asDouble 4 = .ok (.iload_n 1, 1) := by decide +kernel
theorem dX3_asDouble_5 : decode cX3_asDouble 5 = .ok (.iaload, 1) := by decide +kernel
theorem dX3_asDouble_6 : decode cX3_asDouble 6 = .ok (.invokestatic 68, 3) := by decide +kernel
theorem dX3_asDouble_9 : decode cX3_asDouble 9 = .ok (.ifCond .eq 16, 3) := by decide +kernel
theorem dX3_asDouble_12 : decode cX3_asDouble 12 = .ok (.aload_n 0, 1) := by decide +kernel
theorem dX3_asDouble_13 : decode cX3_asDouble 13 = .ok (.getfield 20, 3) := by decide +kernel
theorem dX3_asDouble_16 : decode cX3_asDouble 16 = .ok (.iload_n 1, 1) := by decide +kernel
theorem dX3_asDouble_17 : decode cX3_asDouble 17 = .ok (.iload_n 2, 1) := by decide +kernel
theorem dX3_asDouble_18 : decode cX3_asDouble 18 = .ok (.invokestatic 48, 3) := by decide +kernel
theorem dX3_asDouble_21 : decode cX3_asDouble 21 = .ok (.daload, 1) := by decide +kernel
theorem dX3_asDouble_22 : decode cX3_asDouble 22 = .ok (.goto 14, 3) := by decide +kernel
theorem dX3_asDouble_25 : decode cX3_asDouble 25 = .ok (.aload_n 0, 1) := by decide +kernel
theorem dX3_asDouble_26 : decode cX3_asDouble 26 = .ok (.getfield 16, 3) := by decide +kernel
theorem dX3_asDouble_29 : decode cX3_asDouble 29 = .ok (.iload_n 1, 1) := by decide +kernel
theorem dX3_asDouble_30 : decode cX3_asDouble 30 = .ok (.iload_n 2, 1) := by decide +kernel
theorem dX3_asDouble_31 : decode cX3_asDouble 31 = .ok (.invokestatic 48, 3) := by decide +kernel
theorem dX3_asDouble_34 : decode cX3_asDouble 34 = .ok (.laload, 1) := by decide +kernel
theorem dX3_asDouble_35 : decode cX3_asDouble 35 = .ok (.l2d, 1) := by decide +kernel
theorem dX3_asDouble_36 : decode cX3_asDouble 36 = .ok (.dreturn, 1) := by decide +kernel
set_option maxRecDepth 20000 in
theorem ggX3_readDouble_X3_reads : GoodIn wsX3_readDouble wsX3_reads := goodIn_r _ [5, 6, 7, 8, 9, 10, 4, 11, 12, 13, 14, 15, 16, 17, 18, 19, 20, 21, 22, 23, 24, 25, 26, 27, 28, 29, 30, 31, 32, 33, 46, 47, 48, 49, 50, 51, 52, 53] (by decide +kernel) (by decide +kernel)
set_option maxRecDepth 20000 in
theorem gX3_readDouble_X3_reads : GoodIn wsX3_readDouble (wsV RX3 64 RX3 yX3_reads wsX3_reads) := goodIn_app (goodIn_of _ (by decide +kernel)) ggX3_readDouble_X3_reads
set_option maxRecDepth 20000 in
theorem ggX3_readDouble_X3_asDouble : GoodIn wsX3_readDouble wsX3_asDouble := goodIn_r _ [37, 7, 38, 39, 40, 41, 4, 42, 43, 44, 45, 46, 47, 48, 49, 50, 51, 52, 53] (by decide +kernel) (by decide +kernel)
set_option maxRecDepth 20000 in
theorem gX3_readDouble_X3_asDouble : GoodIn wsX3_readDouble (wsV RX3 71 RX3 yX3_asDouble wsX3_asDouble) := goodIn_app (goodIn_of _ (by decide +kernel)) ggX3_readDouble_X3_asDouble
theorem dX3_readDouble_0 : decode cX3_readDouble 0 = .ok (.aload_n 0, 1) := by decide +kernel
theorem dX3_readDouble_1 : decode cX3_readDouble 1 = .ok (.iload_n 1, 1) := by decide +kernel
theorem dX3_readDouble_2 : decode cX3_readDouble 2 = .ok (.iload_n 2, 1) := by decide +kernel
theorem dX3_readDouble_3 : decode cX3_readDouble 3 = .ok (.bipush 8, 2) := by decide +kernel
theorem dX3_readDouble_5 : decode cX3_readDouble 5 = .ok (.invokevirtual 64, 3) := by decide +kernel
theorem dX3_readDouble_8 : decode cX3_readDouble 8 = .ok (.ifCond .eq 12, 3) := by decide +kernel
theorem dX3_readDouble_11 : decode cX3_readDouble 11 = .ok (.aload_n 0, 1) := by decide +kernel
theorem dX3_readDouble_12 : decode cX3_readDouble 12 = .ok (.iload_n 1, 1) := by decide +kernel
theorem dX3_readDouble_13 : decode cX3_readDouble 13 = .ok (.iload_n 2, 1) := by decide +kernel
theorem dX3_readDouble_14 : decode cX3_readDouble 14 = .ok (.invokevirtual 71, 3) := by decide +kernel
theorem dX3_readDouble_17 : decode cX3_readDouble 17 = .ok (.goto 4, 3) := by decide +kernel
theorem dX3_readDouble_20 : decode cX3_readDouble 20 = .ok (.dconst 0, 1) := by decide +kernel
theorem dX3_readDouble_21 : decode cX3_readDouble 21 = .ok (.dreturn, 1) := by decide +kernel
set_option maxRecDepth 20000 in
theorem ggX3_readAny_X3_isColumn : GoodIn wsX3_readAny wsX3_isColumn := goodIn_r _ [6, 7, 36, 37, 38, 39, 40, 41, 42, 43] (by decide +kernel) (by decide +kernel)
set_option maxRecDepth 20000 in
theorem gX3_readAny_X3_isColumn : GoodIn wsX3_readAny (wsV RX3 52 RX3 yX3_isColumn wsX3_isColumn) := goodIn_app (goodIn_of _ (by decide +kernel)) ggX3_readAny_X3_isColumn
set_option maxRecDepth 20000 in
theorem ggX3_readAny_X3_codeOf_ : GoodIn wsX3_readAny wsX3_codeOf_ := goodIn_r _ [11, 12, 13, 14, 15, 5, 16, 17, 36, 37, 38, 39, 40, 41, 42, 43] (by decide +kernel) (by decide +kernel)
set_option maxRecDepth 20000 in
theorem gX3_readAny_X3_codeOf_ : GoodIn wsX3_readAny (wsV RX3 58 RX3 yX3_codeOf_ wsX3_codeOf_) := goodIn_app (goodIn_of _ (by decide +kernel)) ggX3_readAny_X3_codeOf_
set_option maxRecDepth 20000 in
theorem ggX3_readAny_X3_note : GoodIn wsX3_readAny wsX3_note := goodIn_r _ [21, 22, 23, 36, 37, 38, 39, 40, 41, 42, 43] (by decide +kernel) (by decide +kernel)
set_option maxRecDepth 20000 in
theorem gX3_readAny_X3_note : GoodIn wsX3_readAny (wsV RX3 55 RX3 yX3_note wsX3_note) := goodIn_app (goodIn_of _ (by decide +kernel)) ggX3_readAny_X3_note
set_option maxRecDepth 20000 in
theorem ggX3_readAny_X3_asDouble : GoodIn wsX3_readAny wsX3_asDouble := goodIn_r _ [27, 17, 28, 29, 30, 31, 5, 32, 33, 34, 35, 36, 37, 38, 39, 40, 41, 42, 43] (by decide +kernel) (by decide +kernel)
set_option maxRecDepth 20000 in
theorem gX3_readAny_X3_asDouble : GoodIn wsX3_readAny (wsV RX3 71 RX3 yX3_asDouble wsX3_asDouble) := goodIn_app (goodIn_of _ (by decide +kernel)) ggX3_readAny_X3_asDouble
theorem dX3_readAny_0 : decode cX3_readAny 0 = .ok (.aload_n 0, 1) := by decide +kernel
theorem dX3_readAny_1 : decode cX3_readAny 1 = .ok (.aload_n 0, 1) := by decide +kernel
theorem dX3_readAny_2 : decode cX3_readAny 2 = .ok (.iload_n 1, 1) := by decide +kernel
theorem dX3_readAny_3 : decode cX3_readAny 3 = .ok (.invokevirtual 52, 3) := by decide +kernel
theorem dX3_readAny_6 : decode cX3_readAny 6 = .ok (.ifCond .eq 7, 3) := by decide +kernel
theorem dX3_readAny_9 : decode cX3_readAny 9 = .ok (.iconst 0, 1) := by decide +kernel
theorem dX3_readAny_10 : decode cX3_readAny 10 = .ok (.goto 4, 3) := by decide +kernel
theorem dX3_readAny_13 : decode cX3_readAny 13 = .ok (.iconst 1, 1) := by decide +kernel
theorem dX3_readAny_14 : decode cX3_readAny 14 = .ok (.putfield 27, 3) := by decide +kernel
theorem dX3_readAny_17 : decode cX3_readAny 17 = .ok (.aload_n 0, 1) := by decide +kernel
theorem dX3_readAny_18 : decode cX3_readAny 18 = .ok (.getfield 27, 3) := by decide +kernel
theorem dX3_readAny_21 : decode cX3_readAny 21 = .ok (.ifCond .ne 25, 3) := by decide +kernel
theorem dX3_readAny_24 : decode cX3_readAny 24 = .ok (.aload_n 0, 1) := by decide +kernel
theorem dX3_readAny_25 : decode cX3_readAny 25 = .ok (.aload_n 0, 1) := by decide +kernel
theorem dX3_readAny_26 : decode cX3_readAny 26 = .ok (.iload_n 1, 1) := by decide +kernel
theorem dX3_readAny_27 : decode cX3_readAny 27 = .ok (.iload_n 2, 1) := by decide +kernel
theorem dX3_readAny_28 : decode cX3_readAny 28 = .ok (.invokevirtual 58, 3) := by decide +kernel
theorem dX3_readAny_31 : decode cX3_readAny 31 = .ok (.invokevirtual 55, 3) := by decide +kernel
theorem dX3_readAny_34 : decode cX3_readAny 34 = .ok (.ifCond .eq 12, 3) := by decide +kernel
theorem dX3_readAny_37 : decode cX3_readAny 37 = .ok (.aload_n 0, 1) := by decide +kernel
theorem dX3_readAny_38 : decode cX3_readAny 38 = .ok (.iload_n 1, 1) := by decide +kernel
theorem dX3_readAny_39 : decode cX3_readAny 39 = .ok (.iload_n 2, 1) := by decide +kernel
theorem dX3_readAny_40 : decode cX3_readAny 40 = .ok (.invokevirtual 71, 3) := by decide +kernel
theorem dX3_readAny_43 : decode cX3_readAny 43 = .ok (.goto 4, 3) := by decide +kernel
theorem dX3_readAny_46 : decode cX3_readAny 46 = .ok (.dconst 0, 1) := by decide +kernel
theorem dX3_readAny_47 : decode cX3_readAny 47 = .ok (.dreturn, 1) := by decide +kernel
set_option maxRecDepth 20000 in
theorem ggX3_write_X3_isColumn : GoodIn wsX3_write wsX3_isColumn := goodIn_r _ [10, 11, 38, 39, 40, 41, 42, 43, 44, 45] (by decide +kernel) (by decide +kernel)
set_option maxRecDepth 20000 in
theorem gX3_write_X3_isColumn : GoodIn wsX3_write (wsV RX3 52 RX3 yX3_isColumn wsX3_isColumn) := goodIn_app (goodIn_of _ (by decide +kernel)) ggX3_write_X3_isColumn
set_option maxRecDepth 20000 in
theorem ggX3_write_X3_codeOf_ : GoodIn wsX3_write wsX3_codeOf_ := goodIn_r _ [15, 16, 17, 18, 19, 9, 20, 2, 38, 39, 40, 41, 42, 43, 44, 45] (by decide +kernel) (by decide +kernel)
set_option maxRecDepth 20000 in
theorem gX3_write_X3_codeOf_ : GoodIn wsX3_write (wsV RX3 58 RX3 yX3_codeOf_ wsX3_codeOf_) := goodIn_app (goodIn_of _ (by decide +kernel)) ggX3_write_X3_codeOf_
set_option maxRecDepth 20000 in
theorem ggX3_write_X3_widens : GoodIn wsX3_write wsX3_widens := goodIn_r _ [23, 24, 25, 9, 26] (by decide +kernel) (by decide +kernel)
set_option maxRecDepth 20000 in
theorem gX3_write_X3_widens : GoodIn wsX3_write (va_wsS RX3 60 yX3_widens wsX3_widens) := goodIn_app (goodIn_of _ (by decide +kernel)) ggX3_write_X3_widens
set_option maxRecDepth 20000 in
theorem ggX3_write_X3_note : GoodIn wsX3_write wsX3_note := goodIn_r _ [30, 3, 31, 38, 39, 40, 41, 42, 43, 44, 45] (by decide +kernel) (by decide +kernel)
set_option maxRecDepth 20000 in
theorem gX3_write_X3_note : GoodIn wsX3_write (wsV RX3 55 RX3 yX3_note wsX3_note) := goodIn_app (goodIn_of _ (by decide +kernel)) ggX3_write_X3_note
set_option maxRecDepth 20000 in
theorem ggX3_write_X3_isReal : GoodIn wsX3_write wsX3_isReal := goodIn_r _ [34] (by decide +kernel) (by decide +kernel)
set_option maxRecDepth 20000 in
theorem gX3_write_X3_isReal : GoodIn wsX3_write (va_wsS RX3 68 yX3_isReal wsX3_isReal) := goodIn_app (goodIn_of _ (by decide +kernel)) ggX3_write_X3_isReal
set_option maxRecDepth 20000 in
theorem ggX3_write_X3_at : GoodIn wsX3_write wsX3_at := goodIn_r _ [37] (by decide +kernel) (by decide +kernel)
set_option maxRecDepth 20000 in
theorem gX3_write_X3_at : GoodIn wsX3_write (va_wsS RX3 48 yX3_at wsX3_at) := goodIn_app (goodIn_of _ (by decide +kernel)) ggX3_write_X3_at
theorem dX3_write_0 : decode cX3_write 0 = .ok (.aload_n 0, 1) := by decide +kernel
theorem dX3_write_1 : decode cX3_write 1 = .ok (.aload_n 0, 1) := by decide +kernel
theorem dX3_write_2 : decode cX3_write 2 = .ok (.iload_n 1, 1) := by decide +kernel
theorem dX3_write_3 : decode cX3_write 3 = .ok (.invokevirtual 52, 3) := by decide +kernel
theorem dX3_write_6 : decode cX3_write 6 = .ok (.ifCond .eq 7, 3) := by decide +kernel
theorem dX3_write_9 : decode cX3_write 9 = .ok (.iconst 0, 1) := by decide +kernel
theorem dX3_write_10 : decode cX3_write 10 = .ok (.goto 4, 3) := by decide +kernel
theorem dX3_write_13 : decode cX3_write 13 = .ok (.iconst 1, 1) := by decide +kernel
theorem dX3_write_14 : decode cX3_write 14 = .ok (.putfield 27, 3) := by decide +kernel
theorem dX3_write_17 : decode cX3_write 17 = .ok (.aload_n 0, 1) := by decide +kernel
theorem dX3_write_18 : decode cX3_write 18 = .ok (.getfield 27, 3) := by decide +kernel
theorem dX3_write_21 : decode cX3_write 21 = .ok (.ifCond .eq 5, 3) := by decide +kernel
theorem dX3_write_24 : decode cX3_write 24 = .ok (.iconst 0, 1) := by decide +kernel
theorem dX3_write_25 : decode cX3_write 25 = .ok (.ireturn, 1) := by decide +kernel
theorem dX3_write_26 : decode cX3_write 26 = .ok (.aload_n 0, 1) := by decide +kernel
theorem dX3_write_27 : decode cX3_write 27 = .ok (.iload_n 1, 1) := by decide +kernel
theorem dX3_write_28 : decode cX3_write 28 = .ok (.iload_n 2, 1) := by decide +kernel
theorem dX3_write_29 : decode cX3_write 29 = .ok (.invokevirtual 58, 3) := by decide +kernel
theorem dX3_write_32 : decode cX3_write 32 = .ok (.istore 8, 2) := by decide +kernel
theorem dX3_write_34 : decode cX3_write 34 = .ok (.aload_n 0, 1) := by decide +kernel
theorem dX3_write_35 : decode cX3_write 35 = .ok (.iload 8, 2) := by decide +kernel
theorem dX3_write_37 : decode cX3_write 37 = .ok (.ifCond .ne 20, 3) := by decide +kernel
theorem dX3_write_40 : decode cX3_write 40 = .ok (.iload_n 3, 1) := by decide +kernel
theorem dX3_write_41 : decode cX3_write 41 = .ok (.aload_n 0, 1) := by decide +kernel
theorem dX3_write_42 : decode cX3_write 42 = .ok (.getfield 9, 3) := by decide +kernel
theorem dX3_write_45 : decode cX3_write 45 = .ok (.iload_n 1, 1) := by decide +kernel
theorem dX3_write_46 : decode cX3_write 46 = .ok (.iaload, 1) := by decide +kernel
theorem dX3_write_47 : decode cX3_write 47 = .ok (.invokestatic 60, 3) := by decide +kernel
theorem dX3_write_50 : decode cX3_write 50 = .ok (.ifCond .ne 7, 3) := by decide +kernel
theorem dX3_write_53 : decode cX3_write 53 = .ok (.iconst 4, 1) := by decide +kernel
theorem dX3_write_54 : decode cX3_write 54 = .ok (.goto 5, 3) := by decide +kernel
theorem dX3_write_57 : decode cX3_write 57 = .ok (.iload 8, 2) := by decide +kernel
theorem dX3_write_59 : decode cX3_write 59 = .ok (.invokevirtual 55, 3) := by decide +kernel
theorem dX3_write_62 : decode cX3_write 62 = .ok (.ifCond .ne 8, 3) := by decide +kernel
theorem dX3_write_65 : decode cX3_write 65 = .ok (.aload_n 0, 1) := by decide +kernel
theorem dX3_write_66 : decode cX3_write 66 = .ok (.getfield 38, 3) := by decide +kernel
theorem dX3_write_69 : decode cX3_write 69 = .ok (.ireturn, 1) := by decide +kernel
theorem dX3_write_70 : decode cX3_write 70 = .ok (.aload_n 0, 1) := by decide +kernel
theorem dX3_write_71 : decode cX3_write 71 = .ok (.getfield 9, 3) := by decide +kernel
theorem dX3_write_74 : decode cX3_write 74 = .ok (.iload_n 1, 1) := by decide +kernel
theorem dX3_write_75 : decode cX3_write 75 = .ok (.iaload, 1) := by decide +kernel
theorem dX3_write_76 : decode cX3_write 76 = .ok (.invokestatic 68, 3) := by decide +kernel
theorem dX3_write_79 : decode cX3_write 79 = .ok (.ifCond .ne 18, 3) := by decide +kernel
theorem dX3_write_82 : decode cX3_write 82 = .ok (.aload_n 0, 1) := by decide +kernel
theorem dX3_write_83 : decode cX3_write 83 = .ok (.getfield 16, 3) := by decide +kernel
theorem dX3_write_86 : decode cX3_write 86 = .ok (.iload_n 1, 1) := by decide +kernel
theorem dX3_write_87 : decode cX3_write 87 = .ok (.iload_n 2, 1) := by decide +kernel
theorem dX3_write_88 : decode cX3_write 88 = .ok (.invokestatic 48, 3) := by decide +kernel
theorem dX3_write_91 : decode cX3_write 91 = .ok (.lload 4, 2) := by decide +kernel
theorem dX3_write_93 : decode cX3_write 93 = .ok (.lastore, 1) := by decide +kernel
theorem dX3_write_94 : decode cX3_write 94 = .ok (.goto 56, 3) := by decide +kernel
theorem dX3_write_97 : decode cX3_write 97 = .ok (.iload_n 3, 1) := by decide +kernel
theorem dX3_write_98 : decode cX3_write 98 = .ok (.invokestatic 68, 3) := by decide +kernel
theorem dX3_write_101 : decode cX3_write 101 = .ok (.ifCond .eq 18, 3) := by decide +kernel
theorem dX3_write_104 : decode cX3_write 104 = .ok (.aload_n 0, 1) := by decide +kernel
theorem dX3_write_105 : decode cX3_write 105 = .ok (.getfield 20, 3) := by decide +kernel
theorem dX3_write_108 : decode cX3_write 108 = .ok (.iload_n 1, 1) := by decide +kernel
theorem dX3_write_109 : decode cX3_write 109 = .ok (.iload_n 2, 1) := by decide +kernel
theorem dX3_write_110 : decode cX3_write 110 = .ok (.invokestatic 48, 3) := by decide +kernel
theorem dX3_write_113 : decode cX3_write 113 = .ok (.dload 6, 2) := by decide +kernel
theorem dX3_write_115 : decode cX3_write 115 = .ok (.dastore, 1) := by decide +kernel
theorem dX3_write_116 : decode cX3_write 116 = .ok (.goto 34, 3) := by decide +kernel
theorem dX3_write_119 : decode cX3_write 119 = .ok (.aload_n 0, 1) := by decide +kernel
theorem dX3_write_120 : decode cX3_write 120 = .ok (.getfield 20, 3) := by decide +kernel
theorem dX3_write_123 : decode cX3_write 123 = .ok (.iload_n 1, 1) := by decide +kernel
theorem dX3_write_124 : decode cX3_write 124 = .ok (.iload_n 2, 1) := by decide +kernel
theorem dX3_write_125 : decode cX3_write 125 = .ok (.invokestatic 48, 3) := by decide +kernel
theorem dX3_write_128 : decode cX3_write 128 = .ok (.aload_n 0, 1) := by decide +kernel
theorem dX3_write_129 : decode cX3_write 129 = .ok (.getfield 9, 3) := by decide +kernel
theorem dX3_write_132 : decode cX3_write 132 = .ok (.iload_n 1, 1) := by decide +kernel
theorem dX3_write_133 : decode cX3_write 133 = .ok (.iaload, 1) := by decide +kernel
theorem dX3_write_134 : decode cX3_write 134 = .ok (.bipush 7, 2) := by decide +kernel
theorem dX3_write_136 : decode cX3_write 136 = .ok (.if_icmp .ne 10, 3) := by decide +kernel
theorem dX3_write_139 : decode cX3_write 139 = .ok (.lload 4, 2) := by decide +kernel
theorem dX3_write_141 : decode cX3_write 141 = .ok (.l2f, 1) := by decide +kernel
theorem dX3_write_142 : decode cX3_write 142 = .ok (.f2d, 1) := by decide +kernel
theorem dX3_write_143 : decode cX3_write 143 = .ok (.goto 6, 3) := by decide +kernel
theorem dX3_write_146 : decode cX3_write 146 = .ok (.lload 4, 2) := by decide +kernel
theorem dX3_write_148 : decode cX3_write 148 = .ok (.l2d, 1) := by decide +kernel
theorem dX3_write_149 : decode cX3_write 149 = .ok (.dastore, 1) := by decide +kernel
theorem dX3_write_150 : decode cX3_write 150 = .ok (.aload_n 0, 1) := by decide +kernel
theorem dX3_write_151 : decode cX3_write 151 = .ok (.getfield 38, 3) := by decide +kernel
theorem dX3_write_154 : decode cX3_write 154 = .ok (.ireturn, 1) := by decide +kernel
set_option maxRecDepth 20000 in
theorem ggX3_writeBoolean_X3_write : GoodIn wsX3_writeBoolean wsX3_write := goodIn_r _ [5, 6, 7, 8, 9, 10, 11, 12, 13, 4, 14, 15, 16, 17, 18, 19, 20, 21, 22, 23, 24, 25, 26, 27, 28, 29, 30, 31, 32, 33, 34, 35, 36, 37, 38, 39, 40, 41, 42, 43, 44, 45, 46, 47, 48, 49] (by decide +kernel) (by decide +kernel)
set_option maxRecDepth 20000 in
theorem gX3_writeBoolean_X3_write : GoodIn wsX3_writeBoolean (wsV RX3 75 RX3 yX3_write wsX3_write) := goodIn_app (goodIn_of _ (by decide +kernel)) ggX3_writeBoolean_X3_write
theorem dX3_writeBoolean_0 : decode cX3_writeBoolean 0 = .ok (.aload_n 0, 1) := by decide +kernel
theorem dX3_writeBoolean_1 : decode cX3_writeBoolean 1 = .ok (.iload_n 1, 1) := by decide +kernel
theorem dX3_writeBoolean_2 : decode cX3_writeBoolean 2 = .ok (.iload_n 2, 1) := by decide +kernel
theorem dX3_writeBoolean_3 : decode cX3_writeBoolean 3 = .ok (.iconst 1, 1) := by decide +kernel
theorem dX3_writeBoolean_4 : decode cX3_writeBoolean 4 = .ok (.iload_n 3, 1) := by decide +kernel
theorem dX3_writeBoolean_5 : decode cX3_writeBoolean 5 = .ok (.ifCond .eq 7, 3) := by decide +kernel
theorem dX3_writeBoolean_8 : decode cX3_writeBoolean 8 = .ok (.lconst 1, 1) := by decide +kernel
theorem dX3_writeBoolean_9 : decode cX3_writeBoolean 9 = .ok (.goto 4, 3) := by decide +kernel
theorem dX3_writeBoolean_12 : decode cX3_writeBoolean 12 = .ok (.lconst 0, 1) := by decide +kernel
theorem dX3_writeBoolean_13 : decode cX3_writeBoolean 13 = .ok (.dconst 0, 1) := by decide +kernel
theorem dX3_writeBoolean_14 : decode cX3_writeBoolean 14 = .ok (.invokevirtual 75, 3) := by decide +kernel
theorem dX3_writeBoolean_17 : decode cX3_writeBoolean 17 = .ok (.ireturn, 1) := by decide +kernel
set_option maxRecDepth 20000 in
theorem ggX3_writeByte_X3_write : GoodIn wsX3_writeByte wsX3_write := goodIn_r _ [5, 6, 7, 8, 9, 10, 11, 12, 13, 4, 14, 15, 16, 17, 18, 19, 20, 21, 22, 23, 24, 25, 26, 27, 28, 29, 30, 31, 32, 33, 34, 35, 36, 37, 38, 39, 40, 41, 42, 43, 44, 45, 46, 47, 48, 49] (by decide +kernel) (by decide +kernel)
set_option maxRecDepth 20000 in
theorem gX3_writeByte_X3_write : GoodIn wsX3_writeByte (wsV RX3 75 RX3 yX3_write wsX3_write) := goodIn_app (goodIn_of _ (by decide +kernel)) ggX3_writeByte_X3_write
theorem dX3_writeByte_0 : decode cX3_writeByte 0 = .ok (.aload_n 0, 1) := by decide +kernel
theorem dX3_writeByte_1 : decode cX3_writeByte 1 = .ok (.iload_n 1, 1) := by decide +kernel
theorem dX3_writeByte_2 : decode cX3_writeByte 2 = .ok (.iload_n 2, 1) := by decide +kernel
theorem dX3_writeByte_3 : decode cX3_writeByte 3 = .ok (.iconst 2, 1) := by decide +kernel
theorem dX3_writeByte_4 : decode cX3_writeByte 4 = .ok (.iload_n 3, 1) := by decide +kernel
theorem dX3_writeByte_5 : decode cX3_writeByte 5 = .ok (.bipush 24, 2) := by decide +kernel
theorem dX3_writeByte_7 : decode cX3_writeByte 7 = .ok (.ishl, 1) := by decide +kernel
theorem dX3_writeByte_8 : decode cX3_writeByte 8 = .ok (.bipush 24, 2) := by decide +kernel
theorem dX3_writeByte_10 : decode cX3_writeByte 10 = .ok (.ishr, 1) := by decide +kernel
theorem dX3_writeByte_11 : decode cX3_writeByte 11 = .ok (.i2l, 1) := by decide +kernel
theorem dX3_writeByte_12 : decode cX3_writeByte 12 = .ok (.dconst 0, 1) := by decide +kernel
theorem dX3_writeByte_13 : decode cX3_writeByte 13 = .ok (.invokevirtual 75, 3) := by decide +kernel
theorem dX3_writeByte_16 : decode cX3_writeByte 16 = .ok (.ireturn, 1) := by decide +kernel
set_option maxRecDepth 20000 in
theorem ggX3_writeChar_X3_write : GoodIn wsX3_writeChar wsX3_write := goodIn_r _ [6, 7, 8, 9, 10, 11, 12, 13, 14, 5, 15, 16, 17, 18, 19, 20, 21, 22, 23, 24, 25, 26, 27, 28, 29, 30, 31, 32, 33, 34, 35, 36, 37, 38, 39, 40, 41, 42, 43, 44, 45, 46, 47, 48, 49, 50] (by decide +kernel) (by decide +kernel)
set_option maxRecDepth 20000 in
theorem gX3_writeChar_X3_write : GoodIn wsX3_writeChar (wsV RX3 75 RX3 yX3_write wsX3_write) := goodIn_app (goodIn_of _ (by decide +kernel)) ggX3_writeChar_X3_write
theorem dX3_writeChar_0 : decode cX3_writeChar 0 = .ok (.aload_n 0, 1) := by decide +kernel
theorem dX3_writeChar_1 : decode cX3_writeChar 1 = .ok (.iload_n 1, 1) := by decide +kernel
theorem dX3_writeChar_2 : decode cX3_writeChar 2 = .ok (.iload_n 2, 1) := by decide +kernel
theorem dX3_writeChar_3 : decode cX3_writeChar 3 = .ok (.iconst 3, 1) := by decide +kernel
theorem dX3_writeChar_4 : decode cX3_writeChar 4 = .ok (.iload_n 3, 1) := by decide +kernel
theorem dX3_writeChar_5 : decode cX3_writeChar 5 = .ok (.ldc 79, 2) := by decide +kernel
theorem dX3_writeChar_7 : decode cX3_writeChar 7 = .ok (.iand, 1) := by decide +kernel
theorem dX3_writeChar_8 : decode cX3_writeChar 8 = .ok (.i2l, 1) := by decide +kernel
theorem dX3_writeChar_9 : decode cX3_writeChar 9 = .ok (.dconst 0, 1) := by decide +kernel
theorem dX3_writeChar_10 : decode cX3_writeChar 10 = .ok (.invokevirtual 75, 3) := by decide +kernel
theorem dX3_writeChar_13 : decode cX3_writeChar 13 = .ok (.ireturn, 1) := by decide +kernel
set_option maxRecDepth 20000 in
theorem ggX3_writeShort_X3_write : GoodIn wsX3_writeShort wsX3_write := goodIn_r _ [5, 6, 7, 8, 9, 10, 11, 12, 13, 4, 14, 15, 16, 17, 18, 19, 20, 21, 22, 23, 24, 25, 26, 27, 28, 29, 30, 31, 32, 33, 34, 35, 36, 37, 38, 39, 40, 41, 42, 43, 44, 45, 46, 47, 48, 49] (by decide +kernel) (by decide +kernel)
set_option maxRecDepth 20000 in
theorem gX3_writeShort_X3_write : GoodIn wsX3_writeShort (wsV RX3 75 RX3 yX3_write wsX3_write) := goodIn_app (goodIn_of _ (by decide +kernel)) ggX3_writeShort_X3_write
theorem dX3_writeShort_0 : decode cX3_writeShort 0 = .ok (.aload_n 0, 1) := by decide +kernel
theorem dX3_writeShort_1 : decode cX3_writeShort 1 = .ok (.iload_n 1, 1) := by decide +kernel
theorem dX3_writeShort_2 : decode cX3_writeShort 2 = .ok (.iload_n 2, 1) := by decide +kernel
theorem dX3_writeShort_3 : decode cX3_writeShort 3 = .ok (.iconst 4, 1) := by decide +kernel
theorem dX3_writeShort_4 : decode cX3_writeShort 4 = .ok (.iload_n 3, 1) := by decide +kernel
theorem dX3_writeShort_5 : decode cX3_writeShort 5 = .ok (.bipush 16, 2) := by decide +kernel
theorem dX3_writeShort_7 : decode cX3_writeShort 7 = .ok (.ishl, 1) := by decide +kernel
theorem dX3_writeShort_8 : decode cX3_writeShort 8 = .ok (.bipush 16, 2) := by decide +kernel
theorem dX3_writeShort_10 : decode cX3_writeShort 10 = .ok (.ishr, 1) := by decide +kernel
theorem dX3_writeShort_11 : decode cX3_writeShort 11 = .ok (.i2l, 1) := by decide +kernel
theorem dX3_writeShort_12 : decode cX3_writeShort 12 = .ok (.dconst 0, 1) := by decide +kernel
theorem dX3_writeShort_13 : decode cX3_writeShort 13 = .ok (.invokevirtual 75, 3) := by decide +kernel
theorem dX3_writeShort_16 : decode cX3_writeShort 16 = .ok (.ireturn, 1) := by decide +kernel
set_option maxRecDepth 20000 in
theorem ggX3_writeInt_X3_write : GoodIn wsX3_writeInt wsX3_write := goodIn_r _ [5, 6, 7, 8, 9, 10, 11, 12, 13, 4, 14, 15, 16, 17, 18, 19, 20, 21, 22, 23, 24, 25, 26, 27, 28, 29, 30, 31, 32, 33, 34, 35, 36, 37, 38, 39, 40, 41, 42, 43, 44, 45, 46, 47, 48, 49] (by decide +kernel) (by decide +kernel)
set_option maxRecDepth 20000 in
theorem gX3_writeInt_X3_write : GoodIn wsX3_writeInt (wsV RX3 75 RX3 yX3_write wsX3_write) := goodIn_app (goodIn_of _ (by decide +kernel)) ggX3_writeInt_X3_write
theorem dX3_writeInt_0 : decode cX3_writeInt 0 = .ok (.aload_n 0, 1) := by decide +kernel
theorem dX3_writeInt_1 : decode cX3_writeInt 1 = .ok (.iload_n 1, 1) := by decide +kernel
theorem dX3_writeInt_2 : decode cX3_writeInt 2 = .ok (.iload_n 2, 1) := by decide +kernel
theorem dX3_writeInt_3 : decode cX3_writeInt 3 = .ok (.iconst 5, 1) := by decide +kernel
theorem dX3_writeInt_4 : decode cX3_writeInt 4 = .ok (.iload_n 3, 1) := by decide +kernel
theorem dX3_writeInt_5 : decode cX3_writeInt 5 = .ok (.i2l, 1) := by decide +kernel
theorem dX3_writeInt_6 : decode cX3_writeInt 6 = .ok (.dconst 0, 1) := by decide +kernel
theorem dX3_writeInt_7 : decode cX3_writeInt 7 = .ok (.invokevirtual 75, 3) := by decide +kernel
theorem dX3_writeInt_10 : decode cX3_writeInt 10 = .ok (.ireturn, 1) := by decide +kernel
set_option maxRecDepth 20000 in
theorem ggX3_writeLong_X3_write : GoodIn wsX3_writeLong wsX3_write := goodIn_r _ [5, 6, 7, 8, 9, 10, 11, 12, 13, 4, 14, 15, 16, 17, 18, 19, 20, 21, 22, 23, 24, 25, 26, 27, 28, 29, 30, 31, 32, 33, 34, 35, 36, 37, 38, 39, 40, 41, 42, 43, 44, 45, 46, 47, 48, 49] (by decide +kernel) (by decide +kernel)
set_option maxRecDepth 20000 in
theorem gX3_writeLong_X3_write : GoodIn wsX3_writeLong (wsV RX3 75 RX3 yX3_write wsX3_write) := goodIn_app (goodIn_of _ (by decide +kernel)) ggX3_writeLong_X3_write
theorem dX3_writeLong_0 : decode cX3_writeLong 0 = .ok (.aload_n 0, 1) := by decide +kernel
theorem dX3_writeLong_1 : decode cX3_writeLong 1 = .ok (.iload_n 1, 1) := by decide +kernel
theorem dX3_writeLong_2 : decode cX3_writeLong 2 = .ok (.iload_n 2, 1) := by decide +kernel
theorem dX3_writeLong_3 : decode cX3_writeLong 3 = .ok (.bipush 6, 2) := by decide +kernel
theorem dX3_writeLong_5 : decode cX3_writeLong 5 = .ok (.lload_n 3, 1) := by decide +kernel
theorem dX3_writeLong_6 : decode cX3_writeLong 6 = .ok (.dconst 0, 1) := by decide +kernel
theorem dX3_writeLong_7 : decode cX3_writeLong 7 = .ok (.invokevirtual 75, 3) := by decide +kernel
theorem dX3_writeLong_10 : decode cX3_writeLong 10 = .ok (.ireturn, 1) := by decide +kernel
set_option maxRecDepth 20000 in
theorem ggX3_writeFloat_X3_write : GoodIn wsX3_writeFloat wsX3_write := goodIn_r _ [5, 6, 7, 8, 9, 10, 11, 12, 13, 4, 14, 15, 16, 17, 18, 19, 20, 21, 22, 23, 24, 25, 26, 27, 28, 29, 30, 31, 32, 33, 34, 35, 36, 37, 38, 39, 40, 41, 42, 43, 44, 45, 46, 47, 48, 49] (by decide +kernel) (by decide +kernel)
set_option maxRecDepth 20000 in
theorem gX3_writeFloat_X3_write : GoodIn wsX3_writeFloat (wsV RX3 75 RX3 yX3_write wsX3_write) := goodIn_app (goodIn_of _ (by decide +kernel)) ggX3_writeFloat_X3_write
theorem dX3_writeFloat_0 : decode cX3_writeFloat 0 = .ok (.aload_n 0, 1) := by decide +kernel
theorem dX3_writeFloat_1 : decode cX3_writeFloat 1 = .ok (.iload_n 1, 1) := by decide +kernel
theorem dX3_writeFloat_2 : decode cX3_writeFloat 2 = .ok (.iload_n 2, 1) := by decide +kernel
theorem dX3_writeFloat_3 : decode cX3_writeFloat 3 = .ok (.bipush 7, 2) := by decide +kernel
theorem dX3_writeFloat_5 : decode cX3_writeFloat 5 = .ok (.lconst 0, 1) := by decide +kernel
theorem dX3_writeFloat_6 : decode cX3_writeFloat 6 = .ok (.fload_n 3, 1) := by decide +kernel
theorem dX3_writeFloat_7 : decode cX3_writeFloat 7 = .ok (.f2d, 1) := by decide +kernel
theorem dX3_writeFloat_8 : decode cX3_writeFloat 8 = .ok (.invokevirtual 75, 3) := by decide +kernel
theorem dX3_writeFloat_11 : decode cX3_writeFloat 11 = .ok (.ireturn, 1) := by decide +kernel
set_option maxRecDepth 20000 in
theorem ggX3_writeDouble_X3_write : GoodIn wsX3_writeDouble wsX3_write := goodIn_r _ [5, 6, 7, 8, 9, 10, 11, 12, 13, 4, 14, 15, 16, 17, 18, 19, 20, 21, 22, 23, 24, 25, 26, 27, 28, 29, 30, 31, 32, 33, 34, 35, 36, 37, 38, 39, 40, 41, 42, 43, 44, 45, 46, 47, 48, 49] (by decide +kernel) (by decide +kernel)
set_option maxRecDepth 20000 in
theorem gX3_writeDouble_X3_write : GoodIn wsX3_writeDouble (wsV RX3 75 RX3 yX3_write wsX3_write) := goodIn_app (goodIn_of _ (by decide +kernel)) ggX3_writeDouble_X3_write
theorem dX3_writeDouble_0 : decode cX3_writeDouble 0 = .ok (.aload_n 0, 1) := by decide +kernel
theorem dX3_writeDouble_1 : decode cX3_writeDouble 1 = .ok (.iload_n 1, 1) := by decide +kernel
theorem dX3_writeDouble_2 : decode cX3_writeDouble 2 = .ok (.iload_n 2, 1) := by decide +kernel
theorem dX3_writeDouble_3 : decode cX3_writeDouble 3 = .ok (.bipush 8, 2) := by decide +kernel
theorem dX3_writeDouble_5 : decode cX3_writeDouble 5 = .ok (.lconst 0, 1) := by decide +kernel
theorem dX3_writeDouble_6 : decode cX3_writeDouble 6 = .ok (.dload_n 3, 1) := by decide +kernel
theorem dX3_writeDouble_7 : decode cX3_writeDouble 7 = .ok (.invokevirtual 75, 3) := by decide +kernel
theorem dX3_writeDouble_10 : decode cX3_writeDouble 10 = .ok (.ireturn, 1) := by decide +kernel
set_option maxRecDepth 20000 in
theorem ggX3_writeAny_X3_isColumn : GoodIn wsX3_writeAny wsX3_isColumn := goodIn_r _ [6, 7, 79, 80, 81, 82, 83, 84, 85, 86] (by decide +kernel) (by decide +kernel)
set_option maxRecDepth 20000 in
theorem gX3_writeAny_X3_isColumn : GoodIn wsX3_writeAny (wsV RX3 52 RX3 yX3_isColumn wsX3_isColumn) := goodIn_app (goodIn_of _ (by decide +kernel)) ggX3_writeAny_X3_isColumn
set_option maxRecDepth 20000 in
theorem ggX3_writeAny_X3_fail : GoodIn wsX3_writeAny wsX3_fail := goodIn_r _ [11, 1, 79, 80, 81, 82, 83, 84, 85, 86] (by decide +kernel) (by decide +kernel)
set_option maxRecDepth 20000 in
theorem gX3_writeAny_X3_fail : GoodIn wsX3_writeAny (wsV RX3 45 RX3 yX3_fail wsX3_fail) := goodIn_app (goodIn_of _ (by decide +kernel)) ggX3_writeAny_X3_fail
set_option maxRecDepth 20000 in
theorem ggX3_writeAny_X3_writeBoolean : GoodIn wsX3_writeAny wsX3_writeBoolean := goodIn_r _ [15, 16, 17, 18, 5, 19, 1, 20, 21, 22, 23, 2, 3, 4, 6, 7, 24, 25, 26, 27, 28, 29, 30, 31, 32, 33, 34, 35, 36, 37, 38, 39, 40, 41, 42, 43, 44, 45, 46, 47, 48, 49, 79, 80, 81, 82, 83, 84, 85, 86] (by decide +kernel) (by decide +kernel)
set_option maxRecDepth 20000 in
theorem gX3_writeAny_X3_writeBoolean : GoodIn wsX3_writeAny (wsV RX3 80 RX3 yX3_writeBoolean wsX3_writeBoolean) := goodIn_app (goodIn_of _ (by decide +kernel)) ggX3_writeAny_X3_writeBoolean
set_option maxRecDepth 20000 in
theorem ggX3_writeAny_X3_writeByte : GoodIn wsX3_writeAny wsX3_writeByte := goodIn_r _ [53, 16, 17, 18, 5, 19, 1, 20, 21, 22, 23, 2, 3, 4, 6, 7, 24, 25, 26, 27, 28, 29, 30, 31, 32, 33, 34, 35, 36, 37, 38, 39, 40, 41, 42, 43, 44, 45, 46, 47, 48, 49, 79, 80, 81, 82, 83, 84, 85, 86] (by decide +kernel) (by decide +kernel)
set_option maxRecDepth 20000 in
theorem gX3_writeAny_X3_writeByte : GoodIn wsX3_writeAny (wsV RX3 84 RX3 yX3_writeByte wsX3_writeByte) := goodIn_app (goodIn_of _ (by decide +kernel)) ggX3_writeAny_X3_writeByte
set_option maxRecDepth 20000 in
theorem ggX3_writeAny_X3_writeChar : GoodIn wsX3_writeAny wsX3_writeChar := goodIn_r _ [57, 58, 16, 17, 18, 5, 19, 1, 20, 21, 22, 23, 2, 3, 4, 6, 7, 24, 25, 26, 27, 28, 29, 30, 31, 32, 33, 34, 35, 36, 37, 38, 39, 40, 41, 42, 43, 44, 45, 46, 47, 48, 49, 79, 80, 81, 82, 83, 84, 85, 86] (by decide +kernel) (by decide +kernel)
set_option maxRecDepth 20000 in
theorem gX3_writeAny_X3_writeChar : GoodIn wsX3_writeAny (wsV RX3 88 RX3 yX3_writeChar wsX3_writeChar) := goodIn_app (goodIn_of _ (by decide +kernel)) ggX3_writeAny_X3_writeChar
set_option maxRecDepth 20000 in
theorem ggX3_writeAny_X3_writeShort : GoodIn wsX3_writeAny wsX3_writeShort := goodIn_r _ [62, 16, 17, 18, 5, 19, 1, 20, 21, 22, 23, 2, 3, 4, 6, 7, 24, 25, 26, 27, 28, 29, 30, 31, 32, 33, 34, 35, 36, 37, 38, 39, 40, 41, 42, 43, 44, 45, 46, 47, 48, 49, 79, 80, 81, 82, 83, 84, 85, 86] (by decide +kernel) (by decide +kernel)
set_option maxRecDepth 20000 in
theorem gX3_writeAny_X3_writeShort : GoodIn wsX3_writeAny (wsV RX3 91 RX3 yX3_writeShort wsX3_writeShort) := goodIn_app (goodIn_of _ (by decide +kernel)) ggX3_writeAny_X3_writeShort
set_option maxRecDepth 20000 in
theorem ggX3_writeAny_X3_writeInt : GoodIn wsX3_writeAny wsX3_writeInt := goodIn_r _ [66, 16, 17, 18, 5, 19, 1, 20, 21, 22, 23, 2, 3, 4, 6, 7, 24, 25, 26, 27, 28, 29, 30, 31, 32, 33, 34, 35, 36, 37, 38, 39, 40, 41, 42, 43, 44, 45, 46, 47, 48, 49, 79, 80, 81, 82, 83, 84, 85, 86] (by decide +kernel) (by decide +kernel)
set_option maxRecDepth 20000 in
theorem gX3_writeAny_X3_writeInt : GoodIn wsX3_writeAny (wsV RX3 94 RX3 yX3_writeInt wsX3_writeInt) := goodIn_app (goodIn_of _ (by decide +kernel)) ggX3_writeAny_X3_writeInt
set_option maxRecDepth 20000 in
theorem ggX3_writeAny_X3_writeLong : GoodIn wsX3_writeAny wsX3_writeLong := goodIn_r _ [70, 16, 17, 18, 5, 19, 1, 20, 21, 22, 23, 2, 3, 4, 6, 7, 24, 25, 26, 27, 28, 29, 30, 31, 32, 33, 34, 35, 36, 37, 38, 39, 40, 41, 42, 43, 44, 45, 46, 47, 48, 49, 79, 80, 81, 82, 83, 84, 85, 86] (by decide +kernel) (by decide +kernel)
set_option maxRecDepth 20000 in
theorem gX3_writeAny_X3_writeLong : GoodIn wsX3_writeAny (wsV RX3 97 RX3 yX3_writeLong wsX3_writeLong) := goodIn_app (goodIn_of _ (by decide +kernel)) ggX3_writeAny_X3_writeLong
set_option maxRecDepth 20000 in
theorem ggX3_writeAny_X3_writeFloat : GoodIn wsX3_writeAny wsX3_writeFloat := goodIn_r _ [74, 16, 17, 18, 5, 19, 1, 20, 21, 22, 23, 2, 3, 4, 6, 7, 24, 25, 26, 27, 28, 29, 30, 31, 32, 33, 34, 35, 36, 37, 38, 39, 40, 41, 42, 43, 44, 45, 46, 47, 48, 49, 79, 80, 81, 82, 83, 84, 85, 86] (by decide +kernel) (by decide +kernel)
set_option maxRecDepth 20000 in
theorem gX3_writeAny_X3_writeFloat : GoodIn wsX3_writeAny (wsV RX3 101 RX3 yX3_writeFloat wsX3_writeFloat) := goodIn_app (goodIn_of _ (by decide +kernel)) ggX3_writeAny_X3_writeFloat
set_option maxRecDepth 20000 in
theorem ggX3_writeAny_X3_writeDouble : GoodIn wsX3_writeAny wsX3_writeDouble := goodIn_r _ [78, 16, 17, 18, 5, 19, 1, 20, 21, 22, 23, 2, 3, 4, 6, 7, 24, 25, 26, 27, 28, 29, 30, 31, 32, 33, 34, 35, 36, 37, 38, 39, 40, 41, 42, 43, 44, 45, 46, 47, 48, 49, 79, 80, 81, 82, 83, 84, 85, 86] (by decide +kernel) (by decide +kernel)
set_option maxRecDepth 20000 in
theorem gX3_writeAny_X3_writeDouble : GoodIn wsX3_writeAny (wsV RX3 105 RX3 yX3_writeDouble wsX3_writeDouble) := goodIn_app (goodIn_of _ (by decide +kernel)) ggX3_writeAny_X3_writeDouble
theorem dX3_writeAny_0 : decode cX3_writeAny 0 = .ok (.aload_n 0, 1) := by decide +kernel
theorem dX3_writeAny_1 : decode cX3_writeAny 1 = .ok (.iconst 0, 1) := by decide +kernel
theorem dX3_writeAny_2 : decode cX3_writeAny 2 = .ok (.putfield 27, 3) := by decide +kernel
theorem dX3_writeAny_5 : decode cX3_writeAny 5 = .ok (.aload_n 0, 1) := by decide +kernel
theorem dX3_writeAny_6 : decode cX3_writeAny 6 = .ok (.iload_n 1, 1) := by decide +kernel
theorem dX3_writeAny_7 : decode cX3_writeAny 7 = .ok (.invokevirtual 52, 3) := by decide +kernel
theorem dX3_writeAny_10 : decode cX3_writeAny 10 = .ok (.ifCond .ne 9, 3) := by decide +kernel
theorem dX3_writeAny_13 : decode cX3_writeAny 13 = .ok (.aload_n 0, 1) := by decide +kernel
theorem dX3_writeAny_14 : decode cX3_writeAny 14 = .ok (.iconst 1, 1) := by decide +kernel
theorem dX3_writeAny_15 : decode cX3_writeAny 15 = .ok (.invokevirtual 45, 3) := by decide +kernel
theorem dX3_writeAny_18 : decode cX3_writeAny 18 = .ok (.ireturn, 1) := by decide +kernel
theorem dX3_writeAny_19 : decode cX3_writeAny 19 = .ok (.iload_n 3, 1) := by decide +kernel
theorem dX3_writeAny_20 : decode cX3_writeAny 20 = .ok (.tableswitch 131 1 8 #[48, 65, 74, 83, 92, 101, 111, 121], 48) := by decide +kernel
theorem dX3_writeAny_68 : decode cX3_writeAny 68 = .ok (.aload_n 0, 1) := by decide +kernel
theorem dX3_writeAny_69 : decode cX3_writeAny 69 = .ok (.iload_n 1, 1) := by decide +kernel
theorem dX3_writeAny_70 : decode cX3_writeAny 70 = .ok (.iload_n 2, 1) := by decide +kernel
theorem dX3_writeAny_71 : decode cX3_writeAny 71 = .ok (.iload 4, 2) := by decide +kernel
theorem dX3_writeAny_73 : decode cX3_writeAny 73 = .ok (.ifCond .eq 7, 3) := by decide +kernel
theorem dX3_writeAny_76 : decode cX3_writeAny 76 = .ok (.iconst 1, 1) := by decide +kernel
theorem dX3_writeAny_77 : decode cX3_writeAny 77 = .ok (.goto 4, 3) := by decide +kernel
theorem dX3_writeAny_80 : decode cX3_writeAny 80 = .ok (.iconst 0, 1) := by decide +kernel
theorem dX3_writeAny_81 : decode cX3_writeAny 81 = .ok (.invokevirtual 80, 3) := by decide +kernel
theorem dX3_writeAny_84 : decode cX3_writeAny 84 = .ok (.ireturn, 1) := by decide +kernel
theorem dX3_writeAny_85 : decode cX3_writeAny 85 = .ok (.aload_n 0, 1) := by decide +kernel
theorem dX3_writeAny_86 : decode cX3_writeAny 86 = .ok (.iload_n 1, 1) := by decide +kernel
theorem dX3_writeAny_87 : decode cX3_writeAny 87 = .ok (.iload_n 2, 1) := by decide +kernel
theorem dX3_writeAny_88 : decode cX3_writeAny 88 = .ok (.iload 4, 2) := by decide +kernel
theorem dX3_writeAny_90 : decode cX3_writeAny 90 = .ok (.invokevirtual 84, 3) := by decide +kernel
theorem dX3_writeAny_93 : decode cX3_writeAny 93 = .ok (.ireturn, 1) := by decide +kernel
theorem dX3_writeAny_94 : decode cX3_writeAny 94 = .ok (.aload_n 0, 1) := by decide +kernel
theorem dX3_writeAny_95 : decode cX3_writeAny 95 = .ok (.iload_n 1, 1) := by decide +kernel
theorem dX3_writeAny_96 : decode cX3_writeAny 96 = .ok (.iload_n 2, 1) := by decide +kernel
theorem dX3_writeAny_97 : decode cX3_writeAny 97 = .ok (.iload 4, 2) := by decide +kernel
theorem dX3_writeAny_99 : decode cX3_writeAny 99 = .ok (.invokevirtual 88, 3) := by decide +kernel
theorem dX3_writeAny_102 : decode cX3_writeAny 102 = .ok (.ireturn, 1) := by decide +kernel
theorem dX3_writeAny_103 : decode cX3_writeAny 103 = .ok (.aload_n 0, 1) := by decide +kernel
theorem dX3_writeAny_104 : decode cX3_writeAny 104 = .ok (.iload_n 1, 1) := by decide +kernel
theorem dX3_writeAny_105 : decode cX3_writeAny 105 = .ok (.iload_n 2, 1) := by decide +kernel
theorem dX3_writeAny_106 : decode cX3_writeAny 106 = .ok (.iload 4, 2) := by decide +kernel
theorem dX3_writeAny_108 : decode cX3_writeAny 108 = .ok (.invokevirtual 91, 3) := by decide +kernel
theorem dX3_writeAny_111 : decode cX3_writeAny 111 = .ok (.ireturn, 1) := by decide +kernel
theorem dX3_writeAny_112 : decode cX3_writeAny 112 = .ok (.aload_n 0, 1) := by decide +kernel
theorem dX3_writeAny_113 : decode cX3_writeAny 113 = .ok (.iload_n 1, 1) := by decide +kernel
theorem dX3_writeAny_114 : decode cX3_writeAny 114 = .ok (.iload_n 2, 1) := by decide +kernel
theorem dX3_writeAny_115 : decode cX3_writeAny 115 = .ok (.iload 4, 2) := by decide +kernel
theorem dX3_writeAny_117 : decode cX3_writeAny 117 = .ok (.invokevirtual 94, 3) := by decide +kernel
theorem dX3_writeAny_120 : decode cX3_writeAny 120 = .ok (.ireturn, 1) := by decide +kernel
theorem dX3_writeAny_121 : decode cX3_writeAny 121 = .ok (.aload_n 0, 1) := by decide +kernel
theorem dX3_writeAny_122 : decode cX3_writeAny 122 = .ok (.iload_n 1, 1) := by decide +kernel
theorem dX3_writeAny_123 : decode cX3_writeAny 123 = .ok (.iload_n 2, 1) := by decide +kernel
theorem dX3_writeAny_124 : decode cX3_writeAny 124 = .ok (.iload 4, 2) := by decide +kernel
theorem dX3_writeAny_126 : decode cX3_writeAny 126 = .ok (.i2l, 1) := by decide +kernel
theorem dX3_writeAny_127 : decode cX3_writeAny 127 = .ok (.invokevirtual 97, 3) := by decide +kernel
theorem dX3_writeAny_130 : decode cX3_writeAny 130 = .ok (.ireturn, 1) := by decide +kernel
theorem dX3_writeAny_131 : decode cX3_writeAny 131 = .ok (.aload_n 0, 1) := by decide +kernel
theorem dX3_writeAny_132 : decode cX3_writeAny 132 = .ok (.iload_n 1, 1) := by decide +kernel
theorem dX3_writeAny_133 : decode cX3_writeAny 133 = .ok (.iload_n 2, 1) := by decide +kernel
theorem dX3_writeAny_134 : decode cX3_writeAny 134 = .ok (.iload 4, 2) := by decide +kernel
theorem dX3_writeAny_136 : decode cX3_writeAny 136 = .ok (.i2f, 1) := by decide +kernel
theorem dX3_writeAny_137 : decode cX3_writeAny 137 = .ok (.invokevirtual 101, 3) := by decide +kernel
theorem dX3_writeAny_140 : decode cX3_writeAny 140 = .ok (.ireturn, 1) := by decide +kernel
theorem dX3_writeAny_141 : decode cX3_writeAny 141 = .ok (.aload_n 0, 1) := by decide +kernel
theorem dX3_writeAny_142 : decode cX3_writeAny 142 = .ok (.iload_n 1, 1) := by decide +kernel
theorem dX3_writeAny_143 : decode cX3_writeAny 143 = .ok (.iload_n 2, 1) := by decide +kernel
theorem dX3_writeAny_144 : decode cX3_writeAny 144 = .ok (.iload 4, 2) := by decide +kernel
theorem dX3_writeAny_146 : decode cX3_writeAny 146 = .ok (.i2d, 1) := by decide +kernel
theorem dX3_writeAny_147 : decode cX3_writeAny 147 = .ok (.invokevirtual 105, 3) := by decide +kernel
theorem dX3_writeAny_150 : decode cX3_writeAny 150 = .ok (.ireturn, 1) := by decide +kernel
theorem dX3_writeAny_151 : decode cX3_writeAny 151 = .ok (.aload_n 0, 1) := by decide +kernel
theorem dX3_writeAny_152 : decode cX3_writeAny 152 = .ok (.iconst 2, 1) := by decide +kernel
theorem dX3_writeAny_153 : decode cX3_writeAny 153 = .ok (.invokevirtual 45, 3) := by decide +kernel
theorem dX3_writeAny_156 : decode cX3_writeAny 156 = .ok (.ireturn, 1) := by decide +kernel
set_option maxRecDepth 20000 in
theorem ggX3_copy_X3_isColumn : GoodIn wsX3_copy wsX3_isColumn := goodIn_r _ [11, 12, 25, 26, 27, 28, 29, 30, 31, 32] (by decide +kernel) (by decide +kernel)
set_option maxRecDepth 20000 in
theorem gX3_copy_X3_isColumn : GoodIn wsX3_copy (wsV RX3 52 RX3 yX3_isColumn wsX3_isColumn) := goodIn_app (goodIn_of _ (by decide +kernel)) ggX3_copy_X3_isColumn
set_option maxRecDepth 20000 in
theorem ggX3_copy_X3_fail : GoodIn wsX3_copy wsX3_fail := goodIn_r _ [16, 1, 25, 26, 27, 28, 29, 30, 31, 32] (by decide +kernel) (by decide +kernel)
set_option maxRecDepth 20000 in
theorem gX3_copy_X3_fail : GoodIn wsX3_copy (wsV RX3 45 RX3 yX3_fail wsX3_fail) := goodIn_app (goodIn_of _ (by decide +kernel)) ggX3_copy_X3_fail
set_option maxRecDepth 20000 in
theorem ggX3_copy_X3_note : GoodIn wsX3_copy wsX3_note := goodIn_r _ [20, 4, 21, 25, 26, 27, 28, 29, 30, 31, 32] (by decide +kernel) (by decide +kernel)
set_option maxRecDepth 20000 in
theorem gX3_copy_X3_note : GoodIn wsX3_copy (wsV RX3 55 RX3 yX3_note wsX3_note) := goodIn_app (goodIn_of _ (by decide +kernel)) ggX3_copy_X3_note
set_option maxRecDepth 20000 in
theorem ggX3_copy_X3_at : GoodIn wsX3_copy wsX3_at := goodIn_r _ [24] (by decide +kernel) (by decide +kernel)
set_option maxRecDepth 20000 in
theorem gX3_copy_X3_at : GoodIn wsX3_copy (va_wsS RX3 48 yX3_at wsX3_at) := goodIn_app (goodIn_of _ (by decide +kernel)) ggX3_copy_X3_at
theorem dX3_copy_0 : decode cX3_copy 0 = .ok (.aload_n 0, 1) := by decide +kernel
theorem dX3_copy_1 : decode cX3_copy 1 = .ok (.iconst 0, 1) := by decide +kernel
theorem dX3_copy_2 : decode cX3_copy 2 = .ok (.putfield 27, 3) := by decide +kernel
theorem dX3_copy_5 : decode cX3_copy 5 = .ok (.aload_n 0, 1) := by decide +kernel
theorem dX3_copy_6 : decode cX3_copy 6 = .ok (.iload_n 1, 1) := by decide +kernel
theorem dX3_copy_7 : decode cX3_copy 7 = .ok (.invokevirtual 52, 3) := by decide +kernel
theorem dX3_copy_10 : decode cX3_copy 10 = .ok (.ifCond .eq 11, 3) := by decide +kernel
theorem dX3_copy_13 : decode cX3_copy 13 = .ok (.aload_n 0, 1) := by decide +kernel
theorem dX3_copy_14 : decode cX3_copy 14 = .ok (.iload_n 3, 1) := by decide +kernel
theorem dX3_copy_15 : decode cX3_copy 15 = .ok (.invokevirtual 52, 3) := by decide +kernel
theorem dX3_copy_18 : decode cX3_copy 18 = .ok (.ifCond .ne 9, 3) := by decide +kernel
theorem dX3_copy_21 : decode cX3_copy 21 = .ok (.aload_n 0, 1) := by decide +kernel
theorem dX3_copy_22 : decode cX3_copy 22 = .ok (.iconst 1, 1) := by decide +kernel
theorem dX3_copy_23 : decode cX3_copy 23 = .ok (.invokevirtual 45, 3) := by decide +kernel
theorem dX3_copy_26 : decode cX3_copy 26 = .ok (.ireturn, 1) := by decide +kernel
theorem dX3_copy_27 : decode cX3_copy 27 = .ok (.aload_n 0, 1) := by decide +kernel
theorem dX3_copy_28 : decode cX3_copy 28 = .ok (.getfield 9, 3) := by decide +kernel
theorem dX3_copy_31 : decode cX3_copy 31 = .ok (.iload_n 1, 1) := by decide +kernel
theorem dX3_copy_32 : decode cX3_copy 32 = .ok (.iaload, 1) := by decide +kernel
theorem dX3_copy_33 : decode cX3_copy 33 = .ok (.ifCond .eq 12, 3) := by decide +kernel
theorem dX3_copy_36 : decode cX3_copy 36 = .ok (.aload_n 0, 1) := by decide +kernel
theorem dX3_copy_37 : decode cX3_copy 37 = .ok (.getfield 9, 3) := by decide +kernel
theorem dX3_copy_40 : decode cX3_copy 40 = .ok (.iload_n 3, 1) := by decide +kernel
theorem dX3_copy_41 : decode cX3_copy 41 = .ok (.iaload, 1) := by decide +kernel
theorem dX3_copy_42 : decode cX3_copy 42 = .ok (.ifCond .ne 7, 3) := by decide +kernel
theorem dX3_copy_45 : decode cX3_copy 45 = .ok (.iconst 1, 1) := by decide +kernel
theorem dX3_copy_46 : decode cX3_copy 46 = .ok (.goto 4, 3) := by decide +kernel
theorem dX3_copy_49 : decode cX3_copy 49 = .ok (.iconst 0, 1) := by decide +kernel
theorem dX3_copy_50 : decode cX3_copy 50 = .ok (.istore 6, 2) := by decide +kernel
theorem dX3_copy_52 : decode cX3_copy 52 = .ok (.aload_n 0, 1) := by decide +kernel
theorem dX3_copy_53 : decode cX3_copy 53 = .ok (.getfield 9, 3) := by decide +kernel
theorem dX3_copy_56 : decode cX3_copy 56 = .ok (.iload_n 1, 1) := by decide +kernel
theorem dX3_copy_57 : decode cX3_copy 57 = .ok (.iaload, 1) := by decide +kernel
theorem dX3_copy_58 : decode cX3_copy 58 = .ok (.aload_n 0, 1) := by decide +kernel
theorem dX3_copy_59 : decode cX3_copy 59 = .ok (.getfield 9, 3) := by decide +kernel
theorem dX3_copy_62 : decode cX3_copy 62 = .ok (.iload_n 3, 1) := by decide +kernel
theorem dX3_copy_63 : decode cX3_copy 63 = .ok (.iaload, 1) := by decide +kernel
theorem dX3_copy_64 : decode cX3_copy 64 = .ok (.if_icmp .ne 18, 3) := by decide +kernel
theorem dX3_copy_67 : decode cX3_copy 67 = .ok (.aload_n 0, 1) := by decide +kernel
theorem dX3_copy_68 : decode cX3_copy 68 = .ok (.getfield 9, 3) := by decide +kernel
theorem dX3_copy_71 : decode cX3_copy 71 = .ok (.iload_n 1, 1) := by decide +kernel
theorem dX3_copy_72 : decode cX3_copy 72 = .ok (.iaload, 1) := by decide +kernel
theorem dX3_copy_73 : decode cX3_copy 73 = .ok (.bipush 9, 2) := by decide +kernel
theorem dX3_copy_75 : decode cX3_copy 75 = .ok (.if_icmp .eq 7, 3) := by decide +kernel
theorem dX3_copy_78 : decode cX3_copy 78 = .ok (.iconst 1, 1) := by decide +kernel
theorem dX3_copy_79 : decode cX3_copy 79 = .ok (.goto 4, 3) := by decide +kernel
theorem dX3_copy_82 : decode cX3_copy 82 = .ok (.iconst 0, 1) := by decide +kernel
theorem dX3_copy_83 : decode cX3_copy 83 = .ok (.istore 7, 2) := by decide +kernel
theorem dX3_copy_85 : decode cX3_copy 85 = .ok (.iload_n 2, 1) := by decide +kernel
theorem dX3_copy_86 : decode cX3_copy 86 = .ok (.ifCond .lt 52, 3) := by decide +kernel
theorem dX3_copy_89 : decode cX3_copy 89 = .ok (.iload 4, 2) := by decide +kernel
theorem dX3_copy_91 : decode cX3_copy 91 = .ok (.ifCond .lt 47, 3) := by decide +kernel
theorem dX3_copy_94 : decode cX3_copy 94 = .ok (.iload 5, 2) := by decide +kernel
theorem dX3_copy_96 : decode cX3_copy 96 = .ok (.ifCond .lt 42, 3) := by decide +kernel
theorem dX3_copy_99 : decode cX3_copy 99 = .ok (.iload_n 2, 1) := by decide +kernel
theorem dX3_copy_100 : decode cX3_copy 100 = .ok (.i2l, 1) := by decide +kernel
theorem dX3_copy_101 : decode cX3_copy 101 = .ok (.iload 5, 2) := by decide +kernel
theorem dX3_copy_103 : decode cX3_copy 103 = .ok (.i2l, 1) := by decide +kernel
theorem dX3_copy_104 : decode cX3_copy 104 = .ok (.ladd, 1) := by decide +kernel
theorem dX3_copy_105 : decode cX3_copy 105 = .ok (.aload_n 0, 1) := by decide +kernel
theorem dX3_copy_106 : decode cX3_copy 106 = .ok (.getfield 13, 3) := by decide +kernel
theorem dX3_copy_109 : decode cX3_copy 109 = .ok (.iload_n 1, 1) := by decide +kernel
theorem dX3_copy_110 : decode cX3_copy 110 = .ok (.iaload, 1) := by decide +kernel
theorem dX3_copy_111 : decode cX3_copy 111 = .ok (.i2l, 1) := by decide +kernel
theorem dX3_copy_112 : decode cX3_copy 112 = .ok (.lcmp, 1) := by decide +kernel
theorem dX3_copy_113 : decode cX3_copy 113 = .ok (.ifCond .gt 25, 3) := by decide +kernel
theorem dX3_copy_116 : decode cX3_copy 116 = .ok (.iload 4, 2) := by decide +kernel
theorem dX3_copy_118 : decode cX3_copy 118 = .ok (.i2l, 1) := by decide +kernel
theorem dX3_copy_119 : decode cX3_copy 119 = .ok (.iload 5, 2) := by decide +kernel
theorem dX3_copy_121 : decode cX3_copy 121 = .ok (.i2l, 1) := by decide +kernel
theorem dX3_copy_122 : decode cX3_copy 122 = .ok (.ladd, 1) := by decide +kernel
theorem dX3_copy_123 : decode cX3_copy 123 = .ok (.aload_n 0, 1) := by decide +kernel
theorem dX3_copy_124 : decode cX3_copy 124 = .ok (.getfield 13, 3) := by decide +kernel
theorem dX3_copy_127 : decode cX3_copy 127 = .ok (.iload_n 3, 1) := by decide +kernel
theorem dX3_copy_128 : decode cX3_copy 128 = .ok (.iaload, 1) := by decide +kernel
theorem dX3_copy_129 : decode cX3_copy 129 = .ok (.i2l, 1) := by decide +kernel
theorem dX3_copy_130 : decode cX3_copy 130 = .ok (.lcmp, 1) := by decide +kernel
theorem dX3_copy_131 : decode cX3_copy 131 = .ok (.ifCond .gt 7, 3) := by decide +kernel
theorem dX3_copy_134 : decode cX3_copy 134 = .ok (.iconst 1, 1) := by decide +kernel
theorem dX3_copy_135 : decode cX3_copy 135 = .ok (.goto 4, 3) := by decide +kernel
theorem dX3_copy_138 : decode cX3_copy 138 = .ok (.iconst 0, 1) := by decide +kernel
theorem dX3_copy_139 : decode cX3_copy 139 = .ok (.istore 8, 2) := by decide +kernel
theorem dX3_copy_141 : decode cX3_copy 141 = .ok (.aload_n 0, 1) := by decide +kernel
theorem dX3_copy_142 : decode cX3_copy 142 = .ok (.iload 6, 2) := by decide +kernel
theorem dX3_copy_144 : decode cX3_copy 144 = .ok (.ifCond .eq 7, 3) := by decide +kernel
theorem dX3_copy_147 : decode cX3_copy 147 = .ok (.iconst 1, 1) := by decide +kernel
theorem dX3_copy_148 : decode cX3_copy 148 = .ok (.goto 22, 3) := by decide +kernel
theorem dX3_copy_151 : decode cX3_copy 151 = .ok (.iload 7, 2) := by decide +kernel
theorem dX3_copy_153 : decode cX3_copy 153 = .ok (.ifCond .ne 7, 3) := by decide +kernel
theorem dX3_copy_156 : decode cX3_copy 156 = .ok (.iconst 5, 1) := by decide +kernel
theorem dX3_copy_157 : decode cX3_copy 157 = .ok (.goto 13, 3) := by decide +kernel
theorem dX3_copy_160 : decode cX3_copy 160 = .ok (.iload 8, 2) := by decide +kernel
theorem dX3_copy_162 : decode cX3_copy 162 = .ok (.ifCond .ne 7, 3) := by decide +kernel
theorem dX3_copy_165 : decode cX3_copy 165 = .ok (.iconst 3, 1) := by decide +kernel
theorem dX3_copy_166 : decode cX3_copy 166 = .ok (.goto 4, 3) := by decide +kernel
theorem dX3_copy_169 : decode cX3_copy 169 = .ok (.iconst 0, 1) := by decide +kernel
theorem dX3_copy_170 : decode cX3_copy 170 = .ok (.invokevirtual 55, 3) := by decide +kernel
theorem dX3_copy_173 : decode cX3_copy 173 = .ok (.ifCond .ne 8, 3) := by decide +kernel
theorem dX3_copy_176 : decode cX3_copy 176 = .ok (.aload_n 0, 1) := by decide +kernel
theorem dX3_copy_177 : decode cX3_copy 177 = .ok (.getfield 38, 3) := by decide +kernel
theorem dX3_copy_180 : decode cX3_copy 180 = .ok (.ireturn, 1) := by decide +kernel
theorem dX3_copy_181 : decode cX3_copy 181 = .ok (.iload_n 2, 1) := by decide +kernel
theorem dX3_copy_182 : decode cX3_copy 182 = .ok (.iload 4, 2) := by decide +kernel
theorem dX3_copy_184 : decode cX3_copy 184 = .ok (.if_icmp .ge 7, 3) := by decide +kernel
theorem dX3_copy_187 : decode cX3_copy 187 = .ok (.iconst 1, 1) := by decide +kernel
theorem dX3_copy_188 : decode cX3_copy 188 = .ok (.goto 4, 3) := by decide +kernel
theorem dX3_copy_191 : decode cX3_copy 191 = .ok (.iconst 0, 1) := by decide +kernel
theorem dX3_copy_192 : decode cX3_copy 192 = .ok (.istore 9, 2) := by decide +kernel
theorem dX3_copy_194 : decode cX3_copy 194 = .ok (.iconst 0, 1) := by decide +kernel
theorem dX3_copy_195 : decode cX3_copy 195 = .ok (.istore 10, 2) := by decide +kernel
theorem dX3_copy_197 : decode cX3_copy 197 = .ok (.iload 10, 2) := by decide +kernel
theorem dX3_copy_199 : decode cX3_copy 199 = .ok (.iload 5, 2) := by decide +kernel
theorem dX3_copy_201 : decode cX3_copy 201 = .ok (.if_icmp .ge 82, 3) := by decide +kernel
theorem dX3_copy_204 : decode cX3_copy 204 = .ok (.iload 9, 2) := by decide +kernel
theorem dX3_copy_206 : decode cX3_copy 206 = .ok (.ifCond .eq 13, 3) := by decide +kernel
theorem dX3_copy_209 : decode cX3_copy 209 = .ok (.iload 5, 2) := by decide +kernel
theorem dX3_copy_211 : decode cX3_copy 211 = .ok (.iconst 1, 1) := by decide +kernel
theorem dX3_copy_212 : decode cX3_copy 212 = .ok (.isub, 1) := by decide +kernel
theorem dX3_copy_213 : decode cX3_copy 213 = .ok (.iload 10, 2) := by decide +kernel
theorem dX3_copy_215 : decode cX3_copy 215 = .ok (.isub, 1) := by decide +kernel
theorem dX3_copy_216 : decode cX3_copy 216 = .ok (.goto 5, 3) := by decide +kernel
theorem dX3_copy_219 : decode cX3_copy 219 = .ok (.iload 10, 2) := by decide +kernel
theorem dX3_copy_221 : decode cX3_copy 221 = .ok (.istore 11, 2) := by decide +kernel
theorem dX3_copy_223 : decode cX3_copy 223 = .ok (.aload_n 0, 1) := by decide +kernel
theorem dX3_copy_224 : decode cX3_copy 224 = .ok (.getfield 16, 3) := by decide +kernel
theorem dX3_copy_227 : decode cX3_copy 227 = .ok (.iload_n 3, 1) := by decide +kernel
theorem dX3_copy_228 : decode cX3_copy 228 = .ok (.iload 4, 2) := by decide +kernel
theorem dX3_copy_230 : decode cX3_copy 230 = .ok (.iload 11, 2) := by decide +kernel
theorem dX3_copy_232 : decode cX3_copy 232 = .ok (.iadd, 1) := by decide +kernel
theorem dX3_copy_233 : decode cX3_copy 233 = .ok (.invokestatic 48, 3) := by decide +kernel
theorem dX3_copy_236 : decode cX3_copy 236 = .ok (.aload_n 0, 1) := by decide +kernel
theorem dX3_copy_237 : decode cX3_copy 237 = .ok (.getfield 16, 3) := by decide +kernel
theorem dX3_copy_240 : decode cX3_copy 240 = .ok (.iload_n 1, 1) := by decide +kernel
theorem dX3_copy_241 : decode cX3_copy 241 = .ok (.iload_n 2, 1) := by decide +kernel
theorem dX3_copy_242 : decode cX3_copy 242 = .ok (.iload 11, 2) := by decide +kernel
theorem dX3_copy_244 : decode cX3_copy 244 = .ok (.iadd, 1) := by decide +kernel
theorem dX3_copy_245 : decode cX3_copy 245 = .ok (.invokestatic 48, 3) := by decide +kernel
theorem dX3_copy_248 : decode cX3_copy 248 = .ok (.laload, 1) := by decide +kernel
theorem dX3_copy_249 : decode cX3_copy 249 = .ok (.lastore, 1) := by decide +kernel
theorem dX3_copy_250 : decode cX3_copy 250 = .ok (.aload_n 0, 1) := by decide +kernel
theorem dX3_copy_251 : decode cX3_copy 251 = .ok (.getfield 20, 3) := by decide +kernel
theorem dX3_copy_254 : decode cX3_copy 254 = .ok (.iload_n 3, 1) := by decide +kernel
theorem dX3_copy_255 : decode cX3_copy 255 = .ok (.iload 4, 2) := by decide +kernel
theorem dX3_copy_257 : decode cX3_copy 257 = .ok (.iload 11, 2) := by decide +kernel
theorem dX3_copy_259 : decode cX3_copy 259 = .ok (.iadd, 1) := by decide +kernel
theorem dX3_copy_260 : decode cX3_copy 260 = .ok (.invokestatic 48, 3) := by decide +kernel
theorem dX3_copy_263 : decode cX3_copy 263 = .ok (.aload_n 0, 1) := by decide +kernel
theorem dX3_copy_264 : decode cX3_copy 264 = .ok (.getfield 20, 3) := by decide +kernel
theorem dX3_copy_267 : decode cX3_copy 267 = .ok (.iload_n 1, 1) := by decide +kernel
theorem dX3_copy_268 : decode cX3_copy 268 = .ok (.iload_n 2, 1) := by decide +kernel
theorem dX3_copy_269 : decode cX3_copy 269 = .ok (.iload 11, 2) := by decide +kernel
theorem dX3_copy_271 : decode cX3_copy 271 = .ok (.iadd, 1) := by decide +kernel
theorem dX3_copy_272 : decode cX3_copy 272 = .ok (.invokestatic 48, 3) := by decide +kernel
theorem dX3_copy_275 : decode cX3_copy 275 = .ok (.daload, 1) := by decide +kernel
theorem dX3_copy_276 : decode cX3_copy 276 = .ok (.dastore, 1) := by decide +kernel
theorem dX3_copy_277 : decode cX3_copy 277 = .ok (.iinc 10 1, 3) := by decide +kernel
theorem dX3_copy_280 : decode cX3_copy 280 = .ok (.goto (-83), 3) := by decide +kernel
theorem dX3_copy_283 : decode cX3_copy 283 = .ok (.aload_n 0, 1) := by decide +kernel
theorem dX3_copy_284 : decode cX3_copy 284 = .ok (.getfield 38, 3) := by decide +kernel
theorem dX3_copy_287 : decode cX3_copy 287 = .ok (.ireturn, 1) := by decide +kernel
set_option maxRecDepth 20000 in
theorem ggX3_total_X3_isColumn : GoodIn wsX3_total wsX3_isColumn := goodIn_r _ [7, 8, 32, 33, 34, 35, 36, 37, 38, 39] (by decide +kernel) (by decide +kernel)
set_option maxRecDepth 20000 in
theorem gX3_total_X3_isColumn : GoodIn wsX3_total (wsV RX3 52 RX3 yX3_isColumn wsX3_isColumn) := goodIn_app (goodIn_of _ (by decide +kernel)) ggX3_total_X3_isColumn
set_option maxRecDepth 20000 in
theorem ggX3_total_X3_codeOf : GoodIn wsX3_total wsX3_codeOf := goodIn_r _ [12, 13, 32, 33, 34, 35, 36, 37, 38, 39] (by decide +kernel) (by decide +kernel)
set_option maxRecDepth 20000 in
theorem gX3_total_X3_codeOf : GoodIn wsX3_total (wsV RX3 41 RX3 yX3_codeOf wsX3_codeOf) := goodIn_app (goodIn_of _ (by decide +kernel)) ggX3_total_X3_codeOf
set_option maxRecDepth 20000 in
theorem ggX3_total_X3_note : GoodIn wsX3_total wsX3_note := goodIn_r _ [17, 18, 19, 32, 33, 34, 35, 36, 37, 38, 39] (by decide +kernel) (by decide +kernel)
set_option maxRecDepth 20000 in
theorem gX3_total_X3_note : GoodIn wsX3_total (wsV RX3 55 RX3 yX3_note wsX3_note) := goodIn_app (goodIn_of _ (by decide +kernel)) ggX3_total_X3_note
set_option maxRecDepth 20000 in
theorem ggX3_total_X3_asDouble : GoodIn wsX3_total wsX3_asDouble := goodIn_r _ [23, 13, 24, 25, 26, 27, 6, 28, 29, 30, 31, 32, 33, 34, 35, 36, 37, 38, 39] (by decide +kernel) (by decide +kernel)
set_option maxRecDepth 20000 in
theorem gX3_total_X3_asDouble : GoodIn wsX3_total (wsV RX3 71 RX3 yX3_asDouble wsX3_asDouble) := goodIn_app (goodIn_of _ (by decide +kernel)) ggX3_total_X3_asDouble
theorem dX3_total_0 : decode cX3_total 0 = .ok (.aload_n 0, 1) := by decide +kernel
theorem dX3_total_1 : decode cX3_total 1 = .ok (.aload_n 0, 1) := by decide +kernel
theorem dX3_total_2 : decode cX3_total 2 = .ok (.iload_n 1, 1) := by decide +kernel
theorem dX3_total_3 : decode cX3_total 3 = .ok (.invokevirtual 52, 3) := by decide +kernel
theorem dX3_total_6 : decode cX3_total 6 = .ok (.ifCond .eq 7, 3) := by decide +kernel
theorem dX3_total_9 : decode cX3_total 9 = .ok (.iconst 0, 1) := by decide +kernel
theorem dX3_total_10 : decode cX3_total 10 = .ok (.goto 4, 3) := by decide +kernel
theorem dX3_total_13 : decode cX3_total 13 = .ok (.iconst 1, 1) := by decide +kernel
theorem dX3_total_14 : decode cX3_total 14 = .ok (.putfield 27, 3) := by decide +kernel
theorem dX3_total_17 : decode cX3_total 17 = .ok (.aload_n 0, 1) := by decide +kernel
theorem dX3_total_18 : decode cX3_total 18 = .ok (.getfield 27, 3) := by decide +kernel
theorem dX3_total_21 : decode cX3_total 21 = .ok (.ifCond .ne 15, 3) := by decide +kernel
theorem dX3_total_24 : decode cX3_total 24 = .ok (.aload_n 0, 1) := by decide +kernel
theorem dX3_total_25 : decode cX3_total 25 = .ok (.aload_n 0, 1) := by decide +kernel
theorem dX3_total_26 : decode cX3_total 26 = .ok (.iload_n 1, 1) := by decide +kernel
theorem dX3_total_27 : decode cX3_total 27 = .ok (.invokevirtual 41, 3) := by decide +kernel
theorem dX3_total_30 : decode cX3_total 30 = .ok (.invokevirtual 55, 3) := by decide +kernel
theorem dX3_total_33 : decode cX3_total 33 = .ok (.ifCond .ne 5, 3) := by decide +kernel
theorem dX3_total_36 : decode cX3_total 36 = .ok (.dconst 0, 1) := by decide +kernel
theorem dX3_total_37 : decode cX3_total 37 = .ok (.dreturn, 1) := by decide +kernel
theorem dX3_total_38 : decode cX3_total 38 = .ok (.dconst 0, 1) := by decide +kernel
theorem dX3_total_39 : decode cX3_total 39 = .ok (.dstore_n 2, 1) := by decide +kernel
theorem dX3_total_40 : decode cX3_total 40 = .ok (.iconst 0, 1) := by decide +kernel
theorem dX3_total_41 : decode cX3_total 41 = .ok (.istore 4, 2) := by decide +kernel
theorem dX3_total_43 : decode cX3_total 43 = .ok (.iload 4, 2) := by decide +kernel
theorem dX3_total_45 : decode cX3_total 45 = .ok (.aload_n 0, 1) := by decide +kernel
theorem dX3_total_46 : decode cX3_total 46 = .ok (.getfield 13, 3) := by decide +kernel
theorem dX3_total_49 : decode cX3_total 49 = .ok (.iload_n 1, 1) := by decide +kernel
theorem dX3_total_50 : decode cX3_total 50 = .ok (.iaload, 1) := by decide +kernel
theorem dX3_total_51 : decode cX3_total 51 = .ok (.if_icmp .ge 19, 3) := by decide +kernel
theorem dX3_total_54 : decode cX3_total 54 = .ok (.dload_n 2, 1) := by decide +kernel
theorem dX3_total_55 : decode cX3_total 55 = .ok (.aload_n 0, 1) := by decide +kernel
theorem dX3_total_56 : decode cX3_total 56 = .ok (.iload_n 1, 1) := by decide +kernel
theorem dX3_total_57 : decode cX3_total 57 = .ok (.iload 4, 2) := by decide +kernel
theorem dX3_total_59 : decode cX3_total 59 = .ok (.invokevirtual 71, 3) := by decide +kernel
theorem dX3_total_62 : decode cX3_total 62 = .ok (.dadd, 1) := by decide +kernel
theorem dX3_total_63 : decode cX3_total 63 = .ok (.dstore_n 2, 1) := by decide +kernel
theorem dX3_total_64 : decode cX3_total 64 = .ok (.iinc 4 1, 3) := by decide +kernel
theorem dX3_total_67 : decode cX3_total 67 = .ok (.goto (-24), 3) := by decide +kernel
theorem dX3_total_70 : decode cX3_total 70 = .ok (.dload_n 2, 1) := by decide +kernel
theorem dX3_total_71 : decode cX3_total 71 = .ok (.dreturn, 1) := by decide +kernel
set_option maxRecDepth 20000 in
theorem ggX3_widened_X3_isColumn : GoodIn wsX3_widened wsX3_isColumn := goodIn_r _ [11, 2, 42, 43, 44, 45, 46, 47, 48, 49] (by decide +kernel) (by decide +kernel)
set_option maxRecDepth 20000 in
theorem gX3_widened_X3_isColumn : GoodIn wsX3_widened (wsV RX3 52 RX3 yX3_isColumn wsX3_isColumn) := goodIn_app (goodIn_of _ (by decide +kernel)) ggX3_widened_X3_isColumn
set_option maxRecDepth 20000 in
theorem ggX3_widened_X3_fail : GoodIn wsX3_widened wsX3_fail := goodIn_r _ [15, 1, 42, 43, 44, 45, 46, 47, 48, 49] (by decide +kernel) (by decide +kernel)
set_option maxRecDepth 20000 in
theorem gX3_widened_X3_fail : GoodIn wsX3_widened (wsV RX3 45 RX3 yX3_fail wsX3_fail) := goodIn_app (goodIn_of _ (by decide +kernel)) ggX3_widened_X3_fail
set_option maxRecDepth 20000 in
theorem ggX3_widened_X3_has : GoodIn wsX3_widened wsX3_has := goodIn_r _ [18] (by decide +kernel) (by decide +kernel)
set_option maxRecDepth 20000 in
theorem gX3_widened_X3_has : GoodIn wsX3_widened (va_wsS RX3 34 yX3_has wsX3_has) := goodIn_app (goodIn_of _ (by decide +kernel)) ggX3_widened_X3_has
set_option maxRecDepth 20000 in
theorem ggX3_widened_X3_codeOf : GoodIn wsX3_widened wsX3_codeOf := goodIn_r _ [22, 3, 42, 43, 44, 45, 46, 47, 48, 49] (by decide +kernel) (by decide +kernel)
set_option maxRecDepth 20000 in
theorem gX3_widened_X3_codeOf : GoodIn wsX3_widened (wsV RX3 41 RX3 yX3_codeOf wsX3_codeOf) := goodIn_app (goodIn_of _ (by decide +kernel)) ggX3_widened_X3_codeOf
set_option maxRecDepth 20000 in
theorem ggX3_widened_X3_widens : GoodIn wsX3_widened wsX3_widens := goodIn_r _ [25, 16, 17, 10, 18] (by decide +kernel) (by decide +kernel)
set_option maxRecDepth 20000 in
theorem gX3_widened_X3_widens : GoodIn wsX3_widened (va_wsS RX3 60 yX3_widens wsX3_widens) := goodIn_app (goodIn_of _ (by decide +kernel)) ggX3_widened_X3_widens
set_option maxRecDepth 20000 in
theorem ggX3_widened_X3_note : GoodIn wsX3_widened wsX3_note := goodIn_r _ [29, 30, 31, 42, 43, 44, 45, 46, 47, 48, 49] (by decide +kernel) (by decide +kernel)
set_option maxRecDepth 20000 in
theorem gX3_widened_X3_note : GoodIn wsX3_widened (wsV RX3 55 RX3 yX3_note wsX3_note) := goodIn_app (goodIn_of _ (by decide +kernel)) ggX3_widened_X3_note
set_option maxRecDepth 20000 in
theorem ggX3_widened_X3_create : GoodIn wsX3_widened wsX3_create := goodIn_r _ [35, 1, 2, 3, 4, 5, 6, 16, 17, 10, 18, 12, 13, 14, 15, 36, 37, 38, 42, 43, 44, 45, 46, 47, 48, 49] (by decide +kernel) (by decide +kernel)
set_option maxRecDepth 20000 in
theorem gX3_widened_X3_create : GoodIn wsX3_widened (wsV RX3 109 RX3 yX3_create wsX3_create) := goodIn_app (goodIn_of _ (by decide +kernel)) ggX3_widened_X3_create
set_option maxRecDepth 20000 in
theorem ggX3_widened_X3_at : GoodIn wsX3_widened wsX3_at := goodIn_r _ [38] (by decide +kernel) (by decide +kernel)
set_option maxRecDepth 20000 in
theorem gX3_widened_X3_at : GoodIn wsX3_widened (va_wsS RX3 48 yX3_at wsX3_at) := goodIn_app (goodIn_of _ (by decide +kernel)) ggX3_widened_X3_at
set_option maxRecDepth 20000 in
theorem ggX3_widened_X3_isReal : GoodIn wsX3_widened wsX3_isReal := goodIn_r _ [41] (by decide +kernel) (by decide +kernel)
set_option maxRecDepth 20000 in
theorem gX3_widened_X3_isReal : GoodIn wsX3_widened (va_wsS RX3 68 yX3_isReal wsX3_isReal) := goodIn_app (goodIn_of _ (by decide +kernel)) ggX3_widened_X3_isReal
theorem dX3_widened_0 : decode cX3_widened 0 = .ok (.aload_n 0, 1) := by decide +kernel
theorem dX3_widened_1 : decode cX3_widened 1 = .ok (.iconst 0, 1) := by decide +kernel
theorem dX3_widened_2 : decode cX3_widened 2 = .ok (.putfield 27, 3) := by decide +kernel
theorem dX3_widened_5 : decode cX3_widened 5 = .ok (.aload_n 0, 1) := by decide +kernel
theorem dX3_widened_6 : decode cX3_widened 6 = .ok (.iload_n 1, 1) := by decide +kernel
theorem dX3_widened_7 : decode cX3_widened 7 = .ok (.invokevirtual 52, 3) := by decide +kernel
theorem dX3_widened_10 : decode cX3_widened 10 = .ok (.ifCond .ne 9, 3) := by decide +kernel
theorem dX3_widened_13 : decode cX3_widened 13 = .ok (.aload_n 0, 1) := by decide +kernel
theorem dX3_widened_14 : decode cX3_widened 14 = .ok (.iconst 1, 1) := by decide +kernel
theorem dX3_widened_15 : decode cX3_widened 15 = .ok (.invokevirtual 45, 3) := by decide +kernel
theorem dX3_widened_18 : decode cX3_widened 18 = .ok (.ireturn, 1) := by decide +kernel
theorem dX3_widened_19 : decode cX3_widened 19 = .ok (.iload_n 2, 1) := by decide +kernel
theorem dX3_widened_20 : decode cX3_widened 20 = .ok (.invokestatic 34, 3) := by decide +kernel
theorem dX3_widened_23 : decode cX3_widened 23 = .ok (.ifCond .ne 9, 3) := by decide +kernel
theorem dX3_widened_26 : decode cX3_widened 26 = .ok (.aload_n 0, 1) := by decide +kernel
theorem dX3_widened_27 : decode cX3_widened 27 = .ok (.iconst 2, 1) := by decide +kernel
theorem dX3_widened_28 : decode cX3_widened 28 = .ok (.invokevirtual 45, 3) := by decide +kernel
theorem dX3_widened_31 : decode cX3_widened 31 = .ok (.ireturn, 1) := by decide +kernel
theorem dX3_widened_32 : decode cX3_widened 32 = .ok (.aload_n 0, 1) := by decide +kernel
theorem dX3_widened_33 : decode cX3_widened 33 = .ok (.getfield 31, 3) := by decide +kernel
theorem dX3_widened_36 : decode cX3_widened 36 = .ok (.bipush 60, 2) := by decide +kernel
theorem dX3_widened_38 : decode cX3_widened 38 = .ok (.if_icmp .ne 9, 3) := by decide +kernel
theorem dX3_widened_41 : decode cX3_widened 41 = .ok (.aload_n 0, 1) := by decide +kernel
theorem dX3_widened_42 : decode cX3_widened 42 = .ok (.iconst 3, 1) := by decide +kernel
theorem dX3_widened_43 : decode cX3_widened 43 = .ok (.invokevirtual 45, 3) := by decide +kernel
theorem dX3_widened_46 : decode cX3_widened 46 = .ok (.ireturn, 1) := by decide +kernel
theorem dX3_widened_47 : decode cX3_widened 47 = .ok (.aload_n 0, 1) := by decide +kernel
theorem dX3_widened_48 : decode cX3_widened 48 = .ok (.iload_n 1, 1) := by decide +kernel
theorem dX3_widened_49 : decode cX3_widened 49 = .ok (.invokevirtual 41, 3) := by decide +kernel
theorem dX3_widened_52 : decode cX3_widened 52 = .ok (.istore_n 3, 1) := by decide +kernel
theorem dX3_widened_53 : decode cX3_widened 53 = .ok (.aload_n 0, 1) := by decide +kernel
theorem dX3_widened_54 : decode cX3_widened 54 = .ok (.iload_n 3, 1) := by decide +kernel
theorem dX3_widened_55 : decode cX3_widened 55 = .ok (.ifCond .ne 20, 3) := by decide +kernel
theorem dX3_widened_58 : decode cX3_widened 58 = .ok (.aload_n 0, 1) := by decide +kernel
theorem dX3_widened_59 : decode cX3_widened 59 = .ok (.getfield 9, 3) := by decide +kernel
theorem dX3_widened_62 : decode cX3_widened 62 = .ok (.iload_n 1, 1) := by decide +kernel
theorem dX3_widened_63 : decode cX3_widened 63 = .ok (.iaload, 1) := by decide +kernel
theorem dX3_widened_64 : decode cX3_widened 64 = .ok (.iload_n 2, 1) := by decide +kernel
theorem dX3_widened_65 : decode cX3_widened 65 = .ok (.invokestatic 60, 3) := by decide +kernel
theorem dX3_widened_68 : decode cX3_widened 68 = .ok (.ifCond .ne 7, 3) := by decide +kernel
theorem dX3_widened_71 : decode cX3_widened 71 = .ok (.iconst 4, 1) := by decide +kernel
theorem dX3_widened_72 : decode cX3_widened 72 = .ok (.goto 4, 3) := by decide +kernel
theorem dX3_widened_75 : decode cX3_widened 75 = .ok (.iload_n 3, 1) := by decide +kernel
theorem dX3_widened_76 : decode cX3_widened 76 = .ok (.invokevirtual 55, 3) := by decide +kernel
theorem dX3_widened_79 : decode cX3_widened 79 = .ok (.ifCond .ne 5, 3) := by decide +kernel
theorem dX3_widened_82 : decode cX3_widened 82 = .ok (.iconst (-1), 1) := by decide +kernel
theorem dX3_widened_83 : decode cX3_widened 83 = .ok (.ireturn, 1) := by decide +kernel
theorem dX3_widened_84 : decode cX3_widened 84 = .ok (.aload_n 0, 1) := by decide +kernel
theorem dX3_widened_85 : decode cX3_widened 85 = .ok (.iload_n 2, 1) := by decide +kernel
theorem dX3_widened_86 : decode cX3_widened 86 = .ok (.aload_n 0, 1) := by decide +kernel
theorem dX3_widened_87 : decode cX3_widened 87 = .ok (.getfield 13, 3) := by decide +kernel
theorem dX3_widened_90 : decode cX3_widened 90 = .ok (.iload_n 1, 1) := by decide +kernel
theorem dX3_widened_91 : decode cX3_widened 91 = .ok (.iaload, 1) := by decide +kernel
theorem dX3_widened_92 : decode cX3_widened 92 = .ok (.invokevirtual 109, 3) := by decide +kernel
theorem dX3_widened_95 : decode cX3_widened 95 = .ok (.istore 4, 2) := by decide +kernel
theorem dX3_widened_97 : decode cX3_widened 97 = .ok (.iconst 0, 1) := by decide +kernel
theorem dX3_widened_98 : decode cX3_widened 98 = .ok (.istore 5, 2) := by decide +kernel
theorem dX3_widened_100 : decode cX3_widened 100 = .ok (.iload 5, 2) := by decide +kernel
theorem dX3_widened_102 : decode cX3_widened 102 = .ok (.aload_n 0, 1) := by decide +kernel
theorem dX3_widened_103 : decode cX3_widened 103 = .ok (.getfield 13, 3) := by decide +kernel
theorem dX3_widened_106 : decode cX3_widened 106 = .ok (.iload_n 1, 1) := by decide +kernel
theorem dX3_widened_107 : decode cX3_widened 107 = .ok (.iaload, 1) := by decide +kernel
theorem dX3_widened_108 : decode cX3_widened 108 = .ok (.if_icmp .ge 115, 3) := by decide +kernel
theorem dX3_widened_111 : decode cX3_widened 111 = .ok (.aload_n 0, 1) := by decide +kernel
theorem dX3_widened_112 : decode cX3_widened 112 = .ok (.getfield 16, 3) := by decide +kernel
theorem dX3_widened_115 : decode cX3_widened 115 = .ok (.iload 4, 2) := by decide +kernel
theorem dX3_widened_117 : decode cX3_widened 117 = .ok (.iload 5, 2) := by decide +kernel
theorem dX3_widened_119 : decode cX3_widened 119 = .ok (.invokestatic 48, 3) := by decide +kernel
theorem dX3_widened_122 : decode cX3_widened 122 = .ok (.aload_n 0, 1) := by decide +kernel
theorem dX3_widened_123 : decode cX3_widened 123 = .ok (.getfield 16, 3) := by decide +kernel
theorem dX3_widened_126 : decode cX3_widened 126 = .ok (.iload_n 1, 1) := by decide +kernel
theorem dX3_widened_127 : decode cX3_widened 127 = .ok (.iload 5, 2) := by decide +kernel
theorem dX3_widened_129 : decode cX3_widened 129 = .ok (.invokestatic 48, 3) := by decide +kernel
theorem dX3_widened_132 : decode cX3_widened 132 = .ok (.laload, 1) := by decide +kernel
theorem dX3_widened_133 : decode cX3_widened 133 = .ok (.lastore, 1) := by decide +kernel
theorem dX3_widened_134 : decode cX3_widened 134 = .ok (.aload_n 0, 1) := by decide +kernel
theorem dX3_widened_135 : decode cX3_widened 135 = .ok (.getfield 20, 3) := by decide +kernel
theorem dX3_widened_138 : decode cX3_widened 138 = .ok (.iload 4, 2) := by decide +kernel
theorem dX3_widened_140 : decode cX3_widened 140 = .ok (.iload 5, 2) := by decide +kernel
theorem dX3_widened_142 : decode cX3_widened 142 = .ok (.invokestatic 48, 3) := by decide +kernel
theorem dX3_widened_145 : decode cX3_widened 145 = .ok (.iload_n 2, 1) := by decide +kernel
theorem dX3_widened_146 : decode cX3_widened 146 = .ok (.invokestatic 68, 3) := by decide +kernel
theorem dX3_widened_149 : decode cX3_widened 149 = .ok (.ifCond .ne 7, 3) := by decide +kernel
theorem dX3_widened_152 : decode cX3_widened 152 = .ok (.dconst 0, 1) := by decide +kernel
theorem dX3_widened_153 : decode cX3_widened 153 = .ok (.goto 63, 3) := by decide +kernel
theorem dX3_widened_156 : decode cX3_widened 156 = .ok (.aload_n 0, 1) := by decide +kernel
theorem dX3_widened_157 : decode cX3_widened 157 = .ok (.getfield 9, 3) := by decide +kernel
theorem dX3_widened_160 : decode cX3_widened 160 = .ok (.iload_n 1, 1) := by decide +kernel
theorem dX3_widened_161 : decode cX3_widened 161 = .ok (.iaload, 1) := by decide +kernel
theorem dX3_widened_162 : decode cX3_widened 162 = .ok (.invokestatic 68, 3) := by decide +kernel
theorem dX3_widened_165 : decode cX3_widened 165 = .ok (.ifCond .eq 17, 3) := by decide +kernel
theorem dX3_widened_168 : decode cX3_widened 168 = .ok (.aload_n 0, 1) := by decide +kernel
theorem dX3_widened_169 : decode cX3_widened 169 = .ok (.getfield 20, 3) := by decide +kernel
theorem dX3_widened_172 : decode cX3_widened 172 = .ok (.iload_n 1, 1) := by decide +kernel
theorem dX3_widened_173 : decode cX3_widened 173 = .ok (.iload 5, 2) := by decide +kernel
theorem dX3_widened_175 : decode cX3_widened 175 = .ok (.invokestatic 48, 3) := by decide +kernel
theorem dX3_widened_178 : decode cX3_widened 178 = .ok (.daload, 1) := by decide +kernel
theorem dX3_widened_179 : decode cX3_widened 179 = .ok (.goto 37, 3) := by decide +kernel
theorem dX3_widened_182 : decode cX3_widened 182 = .ok (.iload_n 2, 1) := by decide +kernel
theorem dX3_widened_183 : decode cX3_widened 183 = .ok (.bipush 7, 2) := by decide +kernel
theorem dX3_widened_185 : decode cX3_widened 185 = .ok (.if_icmp .ne 19, 3) := by decide +kernel
theorem dX3_widened_188 : decode cX3_widened 188 = .ok (.aload_n 0, 1) := by decide +kernel
theorem dX3_widened_189 : decode cX3_widened 189 = .ok (.getfield 16, 3) := by decide +kernel
theorem dX3_widened_192 : decode cX3_widened 192 = .ok (.iload_n 1, 1) := by decide +kernel
theorem dX3_widened_193 : decode cX3_widened 193 = .ok (.iload 5, 2) := by decide +kernel
theorem dX3_widened_195 : decode cX3_widened 195 = .ok (.invokestatic 48, 3) := by decide +kernel
theorem dX3_widened_198 : decode cX3_widened 198 = .ok (.laload, 1) := by decide +kernel
theorem dX3_widened_199 : decode cX3_widened 199 = .ok (.l2f, 1) := by decide +kernel
theorem dX3_widened_200 : decode cX3_widened 200 = .ok (.f2d, 1) := by decide +kernel
theorem dX3_widened_201 : decode cX3_widened 201 = .ok (.goto 15, 3) := by decide +kernel
theorem dX3_widened_204 : decode cX3_widened 204 = .ok (.aload_n 0, 1) := by decide +kernel
theorem dX3_widened_205 : decode cX3_widened 205 = .ok (.getfield 16, 3) := by decide +kernel
theorem dX3_widened_208 : decode cX3_widened 208 = .ok (.iload_n 1, 1) := by decide +kernel
theorem dX3_widened_209 : decode cX3_widened 209 = .ok (.iload 5, 2) := by decide +kernel
theorem dX3_widened_211 : decode cX3_widened 211 = .ok (.invokestatic 48, 3) := by decide +kernel
theorem dX3_widened_214 : decode cX3_widened 214 = .ok (.laload, 1) := by decide +kernel
theorem dX3_widened_215 : decode cX3_widened 215 = .ok (.l2d, 1) := by decide +kernel
theorem dX3_widened_216 : decode cX3_widened 216 = .ok (.dastore, 1) := by decide +kernel
theorem dX3_widened_217 : decode cX3_widened 217 = .ok (.iinc 5 1, 3) := by decide +kernel
theorem dX3_widened_220 : decode cX3_widened 220 = .ok (.goto (-120), 3) := by decide +kernel
theorem dX3_widened_223 : decode cX3_widened 223 = .ok (.iload 4, 2) := by decide +kernel
theorem dX3_widened_225 : decode cX3_widened 225 = .ok (.ireturn, 1) := by decide +kernel
theorem dX3_code_0 : decode cX3_code 0 = .ok (.aload_n 0, 1) := by decide +kernel
theorem dX3_code_1 : decode cX3_code 1 = .ok (.iconst 0, 1) := by decide +kernel
theorem dX3_code_2 : decode cX3_code 2 = .ok (.putfield 27, 3) := by decide +kernel
theorem dX3_code_5 : decode cX3_code 5 = .ok (.aload_n 0, 1) := by decide +kernel
theorem dX3_code_6 : decode cX3_code 6 = .ok (.getfield 38, 3) := by decide +kernel
theorem dX3_code_9 : decode cX3_code 9 = .ok (.ireturn, 1) := by decide +kernel
set_option maxRecDepth 20000 in
theorem ggX3_count_X3_fail : GoodIn wsX3_count wsX3_fail := goodIn_r _ [7, 1, 8, 9, 10, 11, 12, 13, 14, 15] (by decide +kernel) (by decide +kernel)
set_option maxRecDepth 20000 in
theorem gX3_count_X3_fail : GoodIn wsX3_count (wsV RX3 45 RX3 yX3_fail wsX3_fail) := goodIn_app (goodIn_of _ (by decide +kernel)) ggX3_count_X3_fail
theorem dX3_count_0 : decode cX3_count 0 = .ok (.aload_n 0, 1) := by decide +kernel
theorem dX3_count_1 : decode cX3_count 1 = .ok (.iconst 0, 1) := by decide +kernel
theorem dX3_count_2 : decode cX3_count 2 = .ok (.putfield 27, 3) := by decide +kernel
theorem dX3_count_5 : decode cX3_count 5 = .ok (.iload_n 1, 1) := by decide +kernel
theorem dX3_count_6 : decode cX3_count 6 = .ok (.ifCond .lt 17, 3) := by decide +kernel
theorem dX3_count_9 : decode cX3_count 9 = .ok (.iload_n 1, 1) := by decide +kernel
theorem dX3_count_10 : decode cX3_count 10 = .ok (.iconst 5, 1) := by decide +kernel
theorem dX3_count_11 : decode cX3_count 11 = .ok (.if_icmp .gt 12, 3) := by decide +kernel
theorem dX3_count_14 : decode cX3_count 14 = .ok (.aload_n 0, 1) := by decide +kernel
theorem dX3_count_15 : decode cX3_count 15 = .ok (.getfield 24, 3) := by decide +kernel
theorem dX3_count_18 : decode cX3_count 18 = .ok (.iload_n 1, 1) := by decide +kernel
theorem dX3_count_19 : decode cX3_count 19 = .ok (.iaload, 1) := by decide +kernel
theorem dX3_count_20 : decode cX3_count 20 = .ok (.goto 8, 3) := by decide +kernel
theorem dX3_count_23 : decode cX3_count 23 = .ok (.aload_n 0, 1) := by decide +kernel
theorem dX3_count_24 : decode cX3_count 24 = .ok (.iconst 1, 1) := by decide +kernel
theorem dX3_count_25 : decode cX3_count 25 = .ok (.invokevirtual 45, 3) := by decide +kernel
theorem dX3_count_28 : decode cX3_count 28 = .ok (.ireturn, 1) := by decide +kernel
theorem dX3_isKind_0 : decode cX3_isKind 0 = .ok (.iload_n 0, 1) := by decide +kernel
theorem dX3_isKind_1 : decode cX3_isKind 1 = .ok (.ifCond .lt 13, 3) := by decide +kernel
theorem dX3_isKind_4 : decode cX3_isKind 4 = .ok (.iload_n 0, 1) := by decide +kernel
theorem dX3_isKind_5 : decode cX3_isKind 5 = .ok (.bipush 10, 2) := by decide +kernel
theorem dX3_isKind_7 : decode cX3_isKind 7 = .ok (.if_icmp .ge 7, 3) := by decide +kernel
theorem dX3_isKind_10 : decode cX3_isKind 10 = .ok (.iconst 1, 1) := by decide +kernel
theorem dX3_isKind_11 : decode cX3_isKind 11 = .ok (.goto 4, 3) := by decide +kernel
theorem dX3_isKind_14 : decode cX3_isKind 14 = .ok (.iconst 0, 1) := by decide +kernel
theorem dX3_isKind_15 : decode cX3_isKind 15 = .ok (.ireturn, 1) := by decide +kernel
set_option maxRecDepth 20000 in
theorem ggX3_hasCells_X3_isKind : GoodIn wsX3_hasCells wsX3_isKind := goodIn_r _ [5] (by decide +kernel) (by decide +kernel)
set_option maxRecDepth 20000 in
theorem gX3_hasCells_X3_isKind : GoodIn wsX3_hasCells (va_wsS RX3 112 yX3_isKind wsX3_isKind) := goodIn_app (goodIn_of _ (by decide +kernel)) ggX3_hasCells_X3_isKind
set_option maxRecDepth 20000 in
theorem ggX3_hasCells_X3_has : GoodIn wsX3_hasCells wsX3_has := goodIn_r _ [8] (by decide +kernel) (by decide +kernel)
set_option maxRecDepth 20000 in
theorem gX3_hasCells_X3_has : GoodIn wsX3_hasCells (va_wsS RX3 34 yX3_has wsX3_has) := goodIn_app (goodIn_of _ (by decide +kernel)) ggX3_hasCells_X3_has
theorem dX3_hasCells_0 : decode cX3_hasCells 0 = .ok (.aload_n 0, 1) := by decide +kernel
theorem dX3_hasCells_1 : decode cX3_hasCells 1 = .ok (.iload_n 1, 1) := by decide +kernel
theorem dX3_hasCells_2 : decode cX3_hasCells 2 = .ok (.invokestatic 112, 3) := by decide +kernel
theorem dX3_hasCells_5 : decode cX3_hasCells 5 = .ok (.ifCond .eq 7, 3) := by decide +kernel
theorem dX3_hasCells_8 : decode cX3_hasCells 8 = .ok (.iconst 0, 1) := by decide +kernel
theorem dX3_hasCells_9 : decode cX3_hasCells 9 = .ok (.goto 4, 3) := by decide +kernel
theorem dX3_hasCells_12 : decode cX3_hasCells 12 = .ok (.iconst 1, 1) := by decide +kernel
theorem dX3_hasCells_13 : decode cX3_hasCells 13 = .ok (.putfield 27, 3) := by decide +kernel
theorem dX3_hasCells_16 : decode cX3_hasCells 16 = .ok (.aload_n 0, 1) := by decide +kernel
theorem dX3_hasCells_17 : decode cX3_hasCells 17 = .ok (.getfield 27, 3) := by decide +kernel
theorem dX3_hasCells_20 : decode cX3_hasCells 20 = .ok (.ifCond .ne 14, 3) := by decide +kernel
theorem dX3_hasCells_23 : decode cX3_hasCells 23 = .ok (.iload_n 1, 1) := by decide +kernel
theorem dX3_hasCells_24 : decode cX3_hasCells 24 = .ok (.invokestatic 34, 3) := by decide +kernel
theorem dX3_hasCells_27 : decode cX3_hasCells 27 = .ok (.ifCond .eq 7, 3) := by decide +kernel
theorem dX3_hasCells_30 : decode cX3_hasCells 30 = .ok (.iconst 1, 1) := by decide +kernel
theorem dX3_hasCells_31 : decode cX3_hasCells 31 = .ok (.goto 4, 3) := by decide +kernel
theorem dX3_hasCells_34 : decode cX3_hasCells 34 = .ok (.iconst 0, 1) := by decide +kernel
theorem dX3_hasCells_35 : decode cX3_hasCells 35 = .ok (.ireturn, 1) := by decide +kernel
set_option maxRecDepth 20000 in
theorem ggX3_isNumber_X3_isKind : GoodIn wsX3_isNumber wsX3_isKind := goodIn_r _ [5] (by decide +kernel) (by decide +kernel)
set_option maxRecDepth 20000 in
theorem gX3_isNumber_X3_isKind : GoodIn wsX3_isNumber (va_wsS RX3 112 yX3_isKind wsX3_isKind) := goodIn_app (goodIn_of _ (by decide +kernel)) ggX3_isNumber_X3_isKind
set_option maxRecDepth 20000 in
theorem ggX3_isNumber_X3_has : GoodIn wsX3_isNumber wsX3_has := goodIn_r _ [8] (by decide +kernel) (by decide +kernel)
set_option maxRecDepth 20000 in
theorem gX3_isNumber_X3_has : GoodIn wsX3_isNumber (va_wsS RX3 34 yX3_has wsX3_has) := goodIn_app (goodIn_of _ (by decide +kernel)) ggX3_isNumber_X3_has
theorem dX3_isNumber_0 : decode cX3_isNumber 0 = .ok (.aload_n 0, 1) := by decide +kernel
theorem dX3_isNumber_1 : decode cX3_isNumber 1 = .ok (.iload_n 1, 1) := by decide +kernel
theorem dX3_isNumber_2 : decode cX3_isNumber 2 = .ok (.invokestatic 112, 3) := by decide +kernel
theorem dX3_isNumber_5 : decode cX3_isNumber 5 = .ok (.ifCond .eq 7, 3) := by decide +kernel
theorem dX3_isNumber_8 : decode cX3_isNumber 8 = .ok (.iconst 0, 1) := by decide +kernel
theorem dX3_isNumber_9 : decode cX3_isNumber 9 = .ok (.goto 4, 3) := by decide +kernel
theorem dX3_isNumber_12 : decode cX3_isNumber 12 = .ok (.iconst 1, 1) := by decide +kernel
theorem dX3_isNumber_13 : decode cX3_isNumber 13 = .ok (.putfield 27, 3) := by decide +kernel
theorem dX3_isNumber_16 : decode cX3_isNumber 16 = .ok (.aload_n 0, 1) := by decide +kernel
theorem dX3_isNumber_17 : decode cX3_isNumber 17 = .ok (.getfield 27, 3) := by decide +kernel
theorem dX3_isNumber_20 : decode cX3_isNumber 20 = .ok (.ifCond .ne 24, 3) := by decide +kernel
theorem dX3_isNumber_23 : decode cX3_isNumber 23 = .ok (.iload_n 1, 1) := by decide +kernel
theorem dX3_isNumber_24 : decode cX3_isNumber 24 = .ok (.invokestatic 34, 3) := by decide +kernel
theorem dX3_isNumber_27 : decode cX3_isNumber 27 = .ok (.ifCond .eq 17, 3) := by decide +kernel
theorem dX3_isNumber_30 : decode cX3_isNumber 30 = .ok (.iload_n 1, 1) := by decide +kernel
theorem dX3_isNumber_31 : decode cX3_isNumber 31 = .ok (.iconst 1, 1) := by decide +kernel
theorem dX3_isNumber_32 : decode cX3_isNumber 32 = .ok (.if_icmp .eq 12, 3) := by decide +kernel
theorem dX3_isNumber_35 : decode cX3_isNumber 35 = .ok (.iload_n 1, 1) := by decide +kernel
theorem dX3_isNumber_36 : decode cX3_isNumber 36 = .ok (.iconst 3, 1) := by decide +kernel
theorem dX3_isNumber_37 : decode cX3_isNumber 37 = .ok (.if_icmp .eq 7, 3) := by decide +kernel
theorem dX3_isNumber_40 : decode cX3_isNumber 40 = .ok (.iconst 1, 1) := by decide +kernel
theorem dX3_isNumber_41 : decode cX3_isNumber 41 = .ok (.goto 4, 3) := by decide +kernel
theorem dX3_isNumber_44 : decode cX3_isNumber 44 = .ok (.iconst 0, 1) := by decide +kernel
theorem dX3_isNumber_45 : decode cX3_isNumber 45 = .ok (.ireturn, 1) := by decide +kernel
set_option maxRecDepth 20000 in
theorem ggX3_canWiden_X3_isKind : GoodIn wsX3_canWiden wsX3_isKind := goodIn_r _ [5] (by decide +kernel) (by decide +kernel)
set_option maxRecDepth 20000 in
theorem gX3_canWiden_X3_isKind : GoodIn wsX3_canWiden (va_wsS RX3 112 yX3_isKind wsX3_isKind) := goodIn_app (goodIn_of _ (by decide +kernel)) ggX3_canWiden_X3_isKind
set_option maxRecDepth 20000 in
theorem ggX3_canWiden_X3_widens : GoodIn wsX3_canWiden wsX3_widens := goodIn_r _ [8, 9, 10, 4, 11] (by decide +kernel) (by decide +kernel)
set_option maxRecDepth 20000 in
theorem gX3_canWiden_X3_widens : GoodIn wsX3_canWiden (va_wsS RX3 60 yX3_widens wsX3_widens) := goodIn_app (goodIn_of _ (by decide +kernel)) ggX3_canWiden_X3_widens
theorem dX3_canWiden_0 : decode cX3_canWiden 0 = .ok (.aload_n 0, 1) := by decide +kernel
theorem dX3_canWiden_1 : decode cX3_canWiden 1 = .ok (.iload_n 1, 1) := by decide +kernel
theorem dX3_canWiden_2 : decode cX3_canWiden 2 = .ok (.invokestatic 112, 3) := by decide +kernel
theorem dX3_canWiden_5 : decode cX3_canWiden 5 = .ok (.ifCond .eq 14, 3) := by decide +kernel
theorem dX3_canWiden_8 : decode cX3_canWiden 8 = .ok (.iload_n 2, 1) := by decide +kernel
theorem dX3_canWiden_9 : decode cX3_canWiden 9 = .ok (.invokestatic 112, 3) := by decide +kernel
theorem dX3_canWiden_12 : decode cX3_canWiden 12 = .ok (.ifCond .eq 7, 3) := by decide +kernel
theorem dX3_canWiden_15 : decode cX3_canWiden 15 = .ok (.iconst 0, 1) := by decide +kernel
theorem dX3_canWiden_16 : decode cX3_canWiden 16 = .ok (.goto 4, 3) := by decide +kernel
theorem dX3_canWiden_19 : decode cX3_canWiden 19 = .ok (.iconst 1, 1) := by decide +kernel
theorem dX3_canWiden_20 : decode cX3_canWiden 20 = .ok (.putfield 27, 3) := by decide +kernel
theorem dX3_canWiden_23 : decode cX3_canWiden 23 = .ok (.aload_n 0, 1) := by decide +kernel
theorem dX3_canWiden_24 : decode cX3_canWiden 24 = .ok (.getfield 27, 3) := by decide +kernel
theorem dX3_canWiden_27 : decode cX3_canWiden 27 = .ok (.ifCond .ne 15, 3) := by decide +kernel
theorem dX3_canWiden_30 : decode cX3_canWiden 30 = .ok (.iload_n 1, 1) := by decide +kernel
theorem dX3_canWiden_31 : decode cX3_canWiden 31 = .ok (.iload_n 2, 1) := by decide +kernel
theorem dX3_canWiden_32 : decode cX3_canWiden 32 = .ok (.invokestatic 60, 3) := by decide +kernel
theorem dX3_canWiden_35 : decode cX3_canWiden 35 = .ok (.ifCond .eq 7, 3) := by decide +kernel
theorem dX3_canWiden_38 : decode cX3_canWiden 38 = .ok (.iconst 1, 1) := by decide +kernel
theorem dX3_canWiden_39 : decode cX3_canWiden 39 = .ok (.goto 4, 3) := by decide +kernel
theorem dX3_canWiden_42 : decode cX3_canWiden 42 = .ok (.iconst 0, 1) := by decide +kernel
theorem dX3_canWiden_43 : decode cX3_canWiden 43 = .ok (.ireturn, 1) := by decide +kernel
set_option maxRecDepth 20000 in
theorem ggX3_digest_X3_has : GoodIn wsX3_digest wsX3_has := goodIn_r _ [13] (by decide +kernel) (by decide +kernel)
set_option maxRecDepth 20000 in
theorem gX3_digest_X3_has : GoodIn wsX3_digest (va_wsS RX3 34 yX3_has wsX3_has) := goodIn_app (goodIn_of _ (by decide +kernel)) ggX3_digest_X3_has
set_option maxRecDepth 20000 in
theorem ggX3_digest_X3_isReal : GoodIn wsX3_digest wsX3_isReal := goodIn_r _ [16] (by decide +kernel) (by decide +kernel)
set_option maxRecDepth 20000 in
theorem gX3_digest_X3_isReal : GoodIn wsX3_digest (va_wsS RX3 68 yX3_isReal wsX3_isReal) := goodIn_app (goodIn_of _ (by decide +kernel)) ggX3_digest_X3_isReal
set_option maxRecDepth 20000 in
theorem ggX3_digest_X3_at : GoodIn wsX3_digest wsX3_at := goodIn_r _ [19] (by decide +kernel) (by decide +kernel)
set_option maxRecDepth 20000 in
theorem gX3_digest_X3_at : GoodIn wsX3_digest (va_wsS RX3 48 yX3_at wsX3_at) := goodIn_app (goodIn_of _ (by decide +kernel)) ggX3_digest_X3_at
set_option maxRecDepth 20000 in
theorem ggX3_digest_Jxe99ae_doubleToLongBits_ccdee : GoodIn wsX3_digest wsJxe99ae_doubleToLongBits_ccdee := goodIn_r _ [23, 24, 25, 26, 27, 28, 29, 30, 22, 31] (by decide +kernel) (by decide +kernel)
set_option maxRecDepth 20000 in
theorem gX3_digest_Jxe99ae_doubleToLongBits_ccdee : GoodIn wsX3_digest (va_wsS RX3 119 yJxe99ae_doubleToLongBits_ccdee wsJxe99ae_doubleToLongBits_ccdee) := goodIn_app (goodIn_of _ (by decide +kernel)) ggX3_digest_Jxe99ae_doubleToLongBits_ccdee
theorem dX3_digest_0 : decode cX3_digest 0 = .ok (.aload_n 0, 1) := by decide +kernel
theorem dX3_digest_1 : decode cX3_digest 1 = .ok (.iconst 0, 1) := by decide +kernel
theorem dX3_digest_2 : decode cX3_digest 2 = .ok (.putfield 27, 3) := by decide +kernel
theorem dX3_digest_5 : decode cX3_digest 5 = .ok (.ldc2_w 115, 3) := by decide +kernel
theorem dX3_digest_8 : decode cX3_digest 8 = .ok (.aload_n 0, 1) := by decide +kernel
theorem dX3_digest_9 : decode cX3_digest 9 = .ok (.getfield 31, 3) := by decide +kernel
theorem dX3_digest_12 : decode cX3_digest 12 = .ok (.i2l, 1) := by decide +kernel
theorem dX3_digest_13 : decode cX3_digest 13 = .ok (.ladd, 1) := by decide +kernel
theorem dX3_digest_14 : decode cX3_digest 14 = .ok (.lstore_n 1, 1) := by decide +kernel
theorem dX3_digest_15 : decode cX3_digest 15 = .ok (.iconst 0, 1) := by decide +kernel
theorem dX3_digest_16 : decode cX3_digest 16 = .ok (.istore_n 3, 1) := by decide +kernel
theorem dX3_digest_17 : decode cX3_digest 17 = .ok (.iload_n 3, 1) := by decide +kernel
theorem dX3_digest_18 : decode cX3_digest 18 = .ok (.aload_n 0, 1) := by decide +kernel
theorem dX3_digest_19 : decode cX3_digest 19 = .ok (.getfield 31, 3) := by decide +kernel
theorem dX3_digest_22 : decode cX3_digest 22 = .ok (.if_icmp .ge 118, 3) := by decide +kernel
theorem dX3_digest_25 : decode cX3_digest 25 = .ok (.lload_n 1, 1) := by decide +kernel
theorem dX3_digest_26 : decode cX3_digest 26 = .ok (.ldc2_w 117, 3) := by decide +kernel
theorem dX3_digest_29 : decode cX3_digest 29 = .ok (.lmul, 1) := by decide +kernel
theorem dX3_digest_30 : decode cX3_digest 30 = .ok (.aload_n 0, 1) := by decide +kernel
theorem dX3_digest_31 : decode cX3_digest 31 = .ok (.getfield 9, 3) := by decide +kernel
theorem dX3_digest_34 : decode cX3_digest 34 = .ok (.iload_n 3, 1) := by decide +kernel
theorem dX3_digest_35 : decode cX3_digest 35 = .ok (.iaload, 1) := by decide +kernel
theorem dX3_digest_36 : decode cX3_digest 36 = .ok (.i2l, 1) := by decide +kernel
theorem dX3_digest_37 : decode cX3_digest 37 = .ok (.ladd, 1) := by decide +kernel
theorem dX3_digest_38 : decode cX3_digest 38 = .ok (.ldc2_w 117, 3) := by decide +kernel
theorem dX3_digest_41 : decode cX3_digest 41 = .ok (.lmul, 1) := by decide +kernel
theorem dX3_digest_42 : decode cX3_digest 42 = .ok (.aload_n 0, 1) := by decide +kernel
theorem dX3_digest_43 : decode cX3_digest 43 = .ok (.getfield 9, 3) := by decide +kernel
theorem dX3_digest_46 : decode cX3_digest 46 = .ok (.iload_n 3, 1) := by decide +kernel
theorem dX3_digest_47 : decode cX3_digest 47 = .ok (.iaload, 1) := by decide +kernel
theorem dX3_digest_48 : decode cX3_digest 48 = .ok (.invokestatic 34, 3) := by decide +kernel
theorem dX3_digest_51 : decode cX3_digest 51 = .ok (.ifCond .eq 12, 3) := by decide +kernel
theorem dX3_digest_54 : decode cX3_digest 54 = .ok (.aload_n 0, 1) := by decide +kernel
theorem dX3_digest_55 : decode cX3_digest 55 = .ok (.getfield 13, 3) := by decide +kernel
theorem dX3_digest_58 : decode cX3_digest 58 = .ok (.iload_n 3, 1) := by decide +kernel
theorem dX3_digest_59 : decode cX3_digest 59 = .ok (.iaload, 1) := by decide +kernel
theorem dX3_digest_60 : decode cX3_digest 60 = .ok (.goto 4, 3) := by decide +kernel
theorem dX3_digest_63 : decode cX3_digest 63 = .ok (.iconst (-1), 1) := by decide +kernel
theorem dX3_digest_64 : decode cX3_digest 64 = .ok (.i2l, 1) := by decide +kernel
theorem dX3_digest_65 : decode cX3_digest 65 = .ok (.ladd, 1) := by decide +kernel
theorem dX3_digest_66 : decode cX3_digest 66 = .ok (.lstore_n 1, 1) := by decide +kernel
theorem dX3_digest_67 : decode cX3_digest 67 = .ok (.iconst 0, 1) := by decide +kernel
theorem dX3_digest_68 : decode cX3_digest 68 = .ok (.istore 4, 2) := by decide +kernel
theorem dX3_digest_70 : decode cX3_digest 70 = .ok (.iload 4, 2) := by decide +kernel
theorem dX3_digest_72 : decode cX3_digest 72 = .ok (.aload_n 0, 1) := by decide +kernel
theorem dX3_digest_73 : decode cX3_digest 73 = .ok (.getfield 13, 3) := by decide +kernel
theorem dX3_digest_76 : decode cX3_digest 76 = .ok (.iload_n 3, 1) := by decide +kernel
theorem dX3_digest_77 : decode cX3_digest 77 = .ok (.iaload, 1) := by decide +kernel
theorem dX3_digest_78 : decode cX3_digest 78 = .ok (.if_icmp .ge 56, 3) := by decide +kernel
theorem dX3_digest_81 : decode cX3_digest 81 = .ok (.lload_n 1, 1) := by decide +kernel
theorem dX3_digest_82 : decode cX3_digest 82 = .ok (.ldc2_w 117, 3) := by decide +kernel
theorem dX3_digest_85 : decode cX3_digest 85 = .ok (.lmul, 1) := by decide +kernel
theorem dX3_digest_86 : decode cX3_digest 86 = .ok (.aload_n 0, 1) := by decide +kernel
theorem dX3_digest_87 : decode cX3_digest 87 = .ok (.getfield 9, 3) := by decide +kernel
theorem dX3_digest_90 : decode cX3_digest 90 = .ok (.iload_n 3, 1) := by decide +kernel
theorem dX3_digest_91 : decode cX3_digest 91 = .ok (.iaload, 1) := by decide +kernel
theorem dX3_digest_92 : decode cX3_digest 92 = .ok (.invokestatic 68, 3) := by decide +kernel
theorem dX3_digest_95 : decode cX3_digest 95 = .ok (.ifCond .eq 20, 3) := by decide +kernel
theorem dX3_digest_98 : decode cX3_digest 98 = .ok (.aload_n 0, 1) := by decide +kernel
theorem dX3_digest_99 : decode cX3_digest 99 = .ok (.getfield 20, 3) := by decide +kernel
theorem dX3_digest_102 : decode cX3_digest 102 = .ok (.iload_n 3, 1) := by decide +kernel
theorem dX3_digest_103 : decode cX3_digest 103 = .ok (.iload 4, 2) := by decide +kernel
theorem dX3_digest_105 : decode cX3_digest 105 = .ok (.invokestatic 48, 3) := by decide +kernel
theorem dX3_digest_108 : decode cX3_digest 108 = .ok (.daload, 1) := by decide +kernel
theorem dX3_digest_109 : decode cX3_digest 109 = .ok (.invokestatic 119, 3) := by decide +kernel
theorem dX3_digest_112 : decode cX3_digest 112 = .ok (.goto 14, 3) := by decide +kernel
theorem dX3_digest_115 : decode cX3_digest 115 = .ok (.aload_n 0, 1) := by decide +kernel
theorem dX3_digest_116 : decode cX3_digest 116 = .ok (.getfield 16, 3) := by decide +kernel
theorem dX3_digest_119 : decode cX3_digest 119 = .ok (.iload_n 3, 1) := by decide +kernel
theorem dX3_digest_120 : decode cX3_digest 120 = .ok (.iload 4, 2) := by decide +kernel
theorem dX3_digest_122 : decode cX3_digest 122 = .ok (.invokestatic 48, 3) := by decide +kernel
theorem dX3_digest_125 : decode cX3_digest 125 = .ok (.laload, 1) := by decide +kernel
theorem dX3_digest_126 : decode cX3_digest 126 = .ok (.ladd, 1) := by decide +kernel
theorem dX3_digest_127 : decode cX3_digest 127 = .ok (.lstore_n 1, 1) := by decide +kernel
theorem dX3_digest_128 : decode cX3_digest 128 = .ok (.iinc 4 1, 3) := by decide +kernel
theorem dX3_digest_131 : decode cX3_digest 131 = .ok (.goto (-61), 3) := by decide +kernel
theorem dX3_digest_134 : decode cX3_digest 134 = .ok (.iinc 3 1, 3) := by decide +kernel
theorem dX3_digest_137 : decode cX3_digest 137 = .ok (.goto (-120), 3) := by decide +kernel
theorem dX3_digest_140 : decode cX3_digest 140 = .ok (.iconst 0, 1) := by decide +kernel
theorem dX3_digest_141 : decode cX3_digest 141 = .ok (.istore_n 3, 1) := by decide +kernel
theorem dX3_digest_142 : decode cX3_digest 142 = .ok (.iload_n 3, 1) := by decide +kernel
theorem dX3_digest_143 : decode cX3_digest 143 = .ok (.aload_n 0, 1) := by decide +kernel
theorem dX3_digest_144 : decode cX3_digest 144 = .ok (.getfield 24, 3) := by decide +kernel
theorem dX3_digest_147 : decode cX3_digest 147 = .ok (.arraylength, 1) := by decide +kernel
theorem dX3_digest_148 : decode cX3_digest 148 = .ok (.if_icmp .ge 23, 3) := by decide +kernel
theorem dX3_digest_151 : decode cX3_digest 151 = .ok (.lload_n 1, 1) := by decide +kernel
theorem dX3_digest_152 : decode cX3_digest 152 = .ok (.ldc2_w 117, 3) := by decide +kernel
theorem dX3_digest_155 : decode cX3_digest 155 = .ok (.lmul, 1) := by decide +kernel
theorem dX3_digest_156 : decode cX3_digest 156 = .ok (.aload_n 0, 1) := by decide +kernel
theorem dX3_digest_157 : decode cX3_digest 157 = .ok (.getfield 24, 3) := by decide +kernel
theorem dX3_digest_160 : decode cX3_digest 160 = .ok (.iload_n 3, 1) := by decide +kernel
theorem dX3_digest_161 : decode cX3_digest 161 = .ok (.iaload, 1) := by decide +kernel
theorem dX3_digest_162 : decode cX3_digest 162 = .ok (.i2l, 1) := by decide +kernel
theorem dX3_digest_163 : decode cX3_digest 163 = .ok (.ladd, 1) := by decide +kernel
theorem dX3_digest_164 : decode cX3_digest 164 = .ok (.lstore_n 1, 1) := by decide +kernel
theorem dX3_digest_165 : decode cX3_digest 165 = .ok (.iinc 3 1, 3) := by decide +kernel
theorem dX3_digest_168 : decode cX3_digest 168 = .ok (.goto (-26), 3) := by decide +kernel
theorem dX3_digest_171 : decode cX3_digest 171 = .ok (.lload_n 1, 1) := by decide +kernel
theorem dX3_digest_172 : decode cX3_digest 172 = .ok (.lreturn, 1) := by decide +kernel
theorem dJxe99ae_isNaN_b9ae7_0 : decode cJxe99ae_isNaN_b9ae7 0 = .ok (.dload_n 0, 1) := by decide +kernel
theorem dJxe99ae_isNaN_b9ae7_1 : decode cJxe99ae_isNaN_b9ae7 1 = .ok (.dload_n 0, 1) := by decide +kernel
theorem dJxe99ae_isNaN_b9ae7_2 : decode cJxe99ae_isNaN_b9ae7 2 = .ok (.dcmp .l, 1) := by decide +kernel
theorem dJxe99ae_isNaN_b9ae7_3 : decode cJxe99ae_isNaN_b9ae7 3 = .ok (.ifCond .eq 7, 3) := by decide +kernel
theorem dJxe99ae_isNaN_b9ae7_6 : decode cJxe99ae_isNaN_b9ae7 6 = .ok (.iconst 1, 1) := by decide +kernel
theorem dJxe99ae_isNaN_b9ae7_7 : decode cJxe99ae_isNaN_b9ae7 7 = .ok (.goto 4, 3) := by decide +kernel
theorem dJxe99ae_isNaN_b9ae7_10 : decode cJxe99ae_isNaN_b9ae7 10 = .ok (.iconst 0, 1) := by decide +kernel
theorem dJxe99ae_isNaN_b9ae7_11 : decode cJxe99ae_isNaN_b9ae7 11 = .ok (.ireturn, 1) := by decide +kernel
set_option maxRecDepth 20000 in
theorem ggJxe99ae_doubleToLongBits_ccdee_Jxe99ae_isNaN_b9ae7 : GoodIn wsJxe99ae_doubleToLongBits_ccdee wsJxe99ae_isNaN_b9ae7 := goodIn_r _ [9] (by decide +kernel) (by decide +kernel)
set_option maxRecDepth 20000 in
theorem gJxe99ae_doubleToLongBits_ccdee_Jxe99ae_isNaN_b9ae7 : GoodIn wsJxe99ae_doubleToLongBits_ccdee (va_wsS RJxe99ae 122 yJxe99ae_isNaN_b9ae7 wsJxe99ae_isNaN_b9ae7) := goodIn_app (goodIn_of _ (by decide +kernel)) ggJxe99ae_doubleToLongBits_ccdee_Jxe99ae_isNaN_b9ae7
theorem dJxe99ae_doubleToLongBits_ccdee_0 : decode cJxe99ae_doubleToLongBits_ccdee 0 = .ok (.dload_n 0, 1) := by decide +kernel
theorem dJxe99ae_doubleToLongBits_ccdee_1 : decode cJxe99ae_doubleToLongBits_ccdee 1 = .ok (.invokestatic 122, 3) := by decide +kernel
theorem dJxe99ae_doubleToLongBits_ccdee_4 : decode cJxe99ae_doubleToLongBits_ccdee 4 = .ok (.ifCond .ne 8, 3) := by decide +kernel
theorem dJxe99ae_doubleToLongBits_ccdee_7 : decode cJxe99ae_doubleToLongBits_ccdee 7 = .ok (.dload_n 0, 1) := by decide +kernel
theorem dJxe99ae_doubleToLongBits_ccdee_8 : decode cJxe99ae_doubleToLongBits_ccdee 8 = .ok (.invokestatic 134, 3) := by decide +kernel
theorem dJxe99ae_doubleToLongBits_ccdee_11 : decode cJxe99ae_doubleToLongBits_ccdee 11 = .ok (.lreturn, 1) := by decide +kernel
theorem dJxe99ae_doubleToLongBits_ccdee_12 : decode cJxe99ae_doubleToLongBits_ccdee 12 = .ok (.ldc2_w 137, 3) := by decide +kernel
theorem dJxe99ae_doubleToLongBits_ccdee_15 : decode cJxe99ae_doubleToLongBits_ccdee 15 = .ok (.lreturn, 1) := by decide +kernel
end
section
set_option maxRecDepth 20000 in
theorem ggL_create_X2_create : GoodIn wsL_create wsX2_create := goodIn_ca (goodIn_ca (goodIn_r _ [7, 8, 9, 10, 11, 12, 13, 14, 6, 15, 16, 17, 18, 19, 20, 21, 22, 23, 24, 25, 26, 27, 28, 29, 30, 31, 32, 33, 34, 35, 36, 37, 38, 39, 40, 41, 42, 43, 44, 45, 46, 47, 48, 49, 50, 51, 52, 53, 54, 55, 56] (by decide +kernel) (by decide +kernel)) (goodIn_sub (fun _ h => List.mem_cons_of_mem _ (List.mem_append_left _ (List.mem_append_right _ h))) (by decide +kernel))) (goodIn_sub (fun _ h => List.mem_cons_of_mem _ (List.mem_append_right _ h)) (by decide +kernel))
set_option maxRecDepth 20000 in
theorem gL_create_X2_create : GoodIn wsL_create (wsV RL 7 RX2 yX2_create wsX2_create) := goodIn_app (goodIn_of _ (by decide +kernel)) ggL_create_X2_create
theorem dL_create_0 : decode cL_create 0 = .ok (.aload_n 3, 1) := by decide +kernel
theorem dL_create_1 : decode cL_create 1 = .ok (.iconst 0, 1) := by decide +kernel
theorem dL_create_2 : decode cL_create 2 = .ok (.aload_n 0, 1) := by decide +kernel
theorem dL_create_3 : decode cL_create 3 = .ok (.iload_n 1, 1) := by decide +kernel
theorem dL_create_4 : decode cL_create 4 = .ok (.iload_n 2, 1) := by decide +kernel
theorem dL_create_5 : decode cL_create 5 = .ok (.invokevirtual 7, 3) := by decide +kernel
theorem dL_create_8 : decode cL_create 8 = .ok (.i2l, 1) := by decide +kernel
theorem dL_create_9 : decode cL_create 9 = .ok (.lastore, 1) := by decide +kernel
theorem dL_create_10 : decode cL_create 10 = .ok (.goto 11, 3) := by decide +kernel
theorem dL_create_13 : decode cL_create 13 = .ok (.astore 4, 2) := by decide +kernel
theorem dL_create_15 : decode cL_create 15 = .ok (.iconst 1, 1) := by decide +kernel
theorem dL_create_16 : decode cL_create 16 = .ok (.ireturn, 1) := by decide +kernel
theorem dL_create_17 : decode cL_create 17 = .ok (.astore 4, 2) := by decide +kernel
theorem dL_create_19 : decode cL_create 19 = .ok (.iconst 2, 1) := by decide +kernel
theorem dL_create_20 : decode cL_create 20 = .ok (.ireturn, 1) := by decide +kernel
theorem dL_create_21 : decode cL_create 21 = .ok (.iconst 0, 1) := by decide +kernel
theorem dL_create_22 : decode cL_create 22 = .ok (.ireturn, 1) := by decide +kernel
set_option maxRecDepth 20000 in
theorem ggL_kind_X2_kind : GoodIn wsL_kind wsX2_kind := goodIn_ca (goodIn_r _ [6, 7, 8, 9, 10, 5, 11, 12, 13, 14, 15, 16, 17, 18, 19, 20, 21, 22, 23] (by decide +kernel) (by decide +kernel)) (goodIn_sub (fun _ h => List.mem_cons_of_mem _ (List.mem_append_right _ h)) (by decide +kernel))
set_option maxRecDepth 20000 in
theorem gL_kind_X2_kind : GoodIn wsL_kind (wsV RL 17 RX2 yX2_kind wsX2_kind) := goodIn_app (goodIn_of _ (by decide +kernel)) ggL_kind_X2_kind
theorem dL_kind_0 : decode cL_kind 0 = .ok (.aload_n 2, 1) := by decide +kernel
theorem dL_kind_1 : decode cL_kind 1 = .ok (.iconst 0, 1) := by decide +kernel
theorem dL_kind_2 : decode cL_kind 2 = .ok (.aload_n 0, 1) := by decide +kernel
theorem dL_kind_3 : decode cL_kind 3 = .ok (.iload_n 1, 1) := by decide +kernel
theorem dL_kind_4 : decode cL_kind 4 = .ok (.invokevirtual 17, 3) := by decide +kernel
theorem dL_kind_7 : decode cL_kind 7 = .ok (.i2l, 1) := by decide +kernel
theorem dL_kind_8 : decode cL_kind 8 = .ok (.lastore, 1) := by decide +kernel
theorem dL_kind_9 : decode cL_kind 9 = .ok (.goto 6, 3) := by decide +kernel
theorem dL_kind_12 : decode cL_kind 12 = .ok (.astore_n 3, 1) := by decide +kernel
theorem dL_kind_13 : decode cL_kind 13 = .ok (.iconst 1, 1) := by decide +kernel
theorem dL_kind_14 : decode cL_kind 14 = .ok (.ireturn, 1) := by decide +kernel
theorem dL_kind_15 : decode cL_kind 15 = .ok (.iconst 0, 1) := by decide +kernel
theorem dL_kind_16 : decode cL_kind 16 = .ok (.ireturn, 1) := by decide +kernel
set_option maxRecDepth 20000 in
theorem ggL_length_X2_length : GoodIn wsL_length wsX2_length := goodIn_ca (goodIn_r _ [6, 7, 8, 9, 10, 5, 11, 12, 13, 14, 15, 16, 17, 18, 19, 20, 21, 22, 23, 24, 25, 26, 27, 28, 29, 30, 31, 32, 33] (by decide +kernel) (by decide +kernel)) (goodIn_sub (fun _ h => List.mem_cons_of_mem _ (List.mem_append_right _ h)) (by decide +kernel))
set_option maxRecDepth 20000 in
theorem gL_length_X2_length : GoodIn wsL_length (wsV RL 23 RX2 yX2_length wsX2_length) := goodIn_app (goodIn_of _ (by decide +kernel)) ggL_length_X2_length
theorem dL_length_0 : decode cL_length 0 = .ok (.aload_n 2, 1) := by decide +kernel
theorem dL_length_1 : decode cL_length 1 = .ok (.iconst 0, 1) := by decide +kernel
theorem dL_length_2 : decode cL_length 2 = .ok (.aload_n 0, 1) := by decide +kernel
theorem dL_length_3 : decode cL_length 3 = .ok (.iload_n 1, 1) := by decide +kernel
theorem dL_length_4 : decode cL_length 4 = .ok (.invokevirtual 23, 3) := by decide +kernel
theorem dL_length_7 : decode cL_length 7 = .ok (.i2l, 1) := by decide +kernel
theorem dL_length_8 : decode cL_length 8 = .ok (.lastore, 1) := by decide +kernel
theorem dL_length_9 : decode cL_length 9 = .ok (.goto 6, 3) := by decide +kernel
theorem dL_length_12 : decode cL_length 12 = .ok (.astore_n 3, 1) := by decide +kernel
theorem dL_length_13 : decode cL_length 13 = .ok (.iconst 1, 1) := by decide +kernel
theorem dL_length_14 : decode cL_length 14 = .ok (.ireturn, 1) := by decide +kernel
theorem dL_length_15 : decode cL_length 15 = .ok (.iconst 0, 1) := by decide +kernel
theorem dL_length_16 : decode cL_length 16 = .ok (.ireturn, 1) := by decide +kernel
set_option maxRecDepth 20000 in
theorem ggL_readBoolean_X2_readBoolean : GoodIn wsL_readBoolean wsX2_readBoolean := goodIn_ca (goodIn_r _ [6, 7, 8, 9, 5, 10, 11, 12, 13, 14, 15, 16, 17, 18, 19, 20, 21, 22, 23, 24, 25, 26, 27, 28, 29, 30, 31, 32, 33, 34, 35, 36, 37, 38, 39, 40, 41, 42, 43, 44, 45, 46, 47, 48, 49, 50, 51, 52] (by decide +kernel) (by decide +kernel)) (goodIn_sub (fun _ h => List.mem_cons_of_mem _ (List.mem_append_right _ h)) (by decide +kernel))
set_option maxRecDepth 20000 in
theorem gL_readBoolean_X2_readBoolean : GoodIn wsL_readBoolean (wsV RL 26 RX2 yX2_readBoolean wsX2_readBoolean) := goodIn_app (goodIn_of _ (by decide +kernel)) ggL_readBoolean_X2_readBoolean
theorem dL_readBoolean_0 : decode cL_readBoolean 0 = .ok (.aload_n 3, 1) := by decide +kernel
theorem dL_readBoolean_1 : decode cL_readBoolean 1 = .ok (.iconst 0, 1) := by decide +kernel
theorem dL_readBoolean_2 : decode cL_readBoolean 2 = .ok (.aload_n 0, 1) := by decide +kernel
theorem dL_readBoolean_3 : decode cL_readBoolean 3 = .ok (.iload_n 1, 1) := by decide +kernel
theorem dL_readBoolean_4 : decode cL_readBoolean 4 = .ok (.iload_n 2, 1) := by decide +kernel
theorem dL_readBoolean_5 : decode cL_readBoolean 5 = .ok (.invokevirtual 26, 3) := by decide +kernel
theorem dL_readBoolean_8 : decode cL_readBoolean 8 = .ok (.ifCond .eq 7, 3) := by decide +kernel
theorem dL_readBoolean_11 : decode cL_readBoolean 11 = .ok (.lconst 1, 1) := by decide +kernel
theorem dL_readBoolean_12 : decode cL_readBoolean 12 = .ok (.goto 4, 3) := by decide +kernel
theorem dL_readBoolean_15 : decode cL_readBoolean 15 = .ok (.lconst 0, 1) := by decide +kernel
theorem dL_readBoolean_16 : decode cL_readBoolean 16 = .ok (.lastore, 1) := by decide +kernel
theorem dL_readBoolean_17 : decode cL_readBoolean 17 = .ok (.goto 7, 3) := by decide +kernel
theorem dL_readBoolean_20 : decode cL_readBoolean 20 = .ok (.astore 4, 2) := by decide +kernel
theorem dL_readBoolean_22 : decode cL_readBoolean 22 = .ok (.iconst 1, 1) := by decide +kernel
theorem dL_readBoolean_23 : decode cL_readBoolean 23 = .ok (.ireturn, 1) := by decide +kernel
theorem dL_readBoolean_24 : decode cL_readBoolean 24 = .ok (.iconst 0, 1) := by decide +kernel
theorem dL_readBoolean_25 : decode cL_readBoolean 25 = .ok (.ireturn, 1) := by decide +kernel
set_option maxRecDepth 20000 in
theorem ggL_readByte_X2_readByte : GoodIn wsL_readByte wsX2_readByte := goodIn_ca (goodIn_r _ [6, 7, 8, 9, 5, 10, 11, 12, 13, 14, 15, 16, 17, 18, 19, 20, 21, 22, 23, 24, 25, 26, 27, 28, 29, 30, 31, 32, 33, 34, 35, 36, 37, 38, 39, 40, 41, 42, 43, 44, 45, 46, 47, 48, 49, 50, 51, 52] (by decide +kernel) (by decide +kernel)) (goodIn_sub (fun _ h => List.mem_cons_of_mem _ (List.mem_append_right _ h)) (by decide +kernel))
set_option maxRecDepth 20000 in
theorem gL_readByte_X2_readByte : GoodIn wsL_readByte (wsV RL 30 RX2 yX2_readByte wsX2_readByte) := goodIn_app (goodIn_of _ (by decide +kernel)) ggL_readByte_X2_readByte
theorem dL_readByte_0 : decode cL_readByte 0 = .ok (.aload_n 3, 1) := by decide +kernel
theorem dL_readByte_1 : decode cL_readByte 1 = .ok (.iconst 0, 1) := by decide +kernel
theorem dL_readByte_2 : decode cL_readByte 2 = .ok (.aload_n 0, 1) := by decide +kernel
theorem dL_readByte_3 : decode cL_readByte 3 = .ok (.iload_n 1, 1) := by decide +kernel
theorem dL_readByte_4 : decode cL_readByte 4 = .ok (.iload_n 2, 1) := by decide +kernel
theorem dL_readByte_5 : decode cL_readByte 5 = .ok (.invokevirtual 30, 3) := by decide +kernel
theorem dL_readByte_8 : decode cL_readByte 8 = .ok (.i2l, 1) := by decide +kernel
theorem dL_readByte_9 : decode cL_readByte 9 = .ok (.lastore, 1) := by decide +kernel
theorem dL_readByte_10 : decode cL_readByte 10 = .ok (.goto 7, 3) := by decide +kernel
theorem dL_readByte_13 : decode cL_readByte 13 = .ok (.astore 4, 2) := by decide +kernel
theorem dL_readByte_15 : decode cL_readByte 15 = .ok (.iconst 1, 1) := by decide +kernel
theorem dL_readByte_16 : decode cL_readByte 16 = .ok (.ireturn, 1) := by decide +kernel
theorem dL_readByte_17 : decode cL_readByte 17 = .ok (.iconst 0, 1) := by decide +kernel
theorem dL_readByte_18 : decode cL_readByte 18 = .ok (.ireturn, 1) := by decide +kernel
set_option maxRecDepth 20000 in
theorem ggL_readChar_X2_readChar : GoodIn wsL_readChar wsX2_readChar := goodIn_ca (goodIn_r _ [6, 7, 8, 9, 5, 10, 11, 12, 13, 14, 15, 16, 17, 18, 19, 20, 21, 22, 23, 24, 25, 26, 27, 28, 29, 30, 31, 32, 33, 34, 35, 36, 37, 38, 39, 40, 41, 42, 43, 44, 45, 46, 47, 48, 49, 50, 51, 52] (by decide +kernel) (by decide +kernel)) (goodIn_sub (fun _ h => List.mem_cons_of_mem _ (List.mem_append_right _ h)) (by decide +kernel))
set_option maxRecDepth 20000 in
theorem gL_readChar_X2_readChar : GoodIn wsL_readChar (wsV RL 33 RX2 yX2_readChar wsX2_readChar) := goodIn_app (goodIn_of _ (by decide +kernel)) ggL_readChar_X2_readChar
theorem dL_readChar_0 : decode cL_readChar 0 = .ok (.aload_n 3, 1) := by decide +kernel
theorem dL_readChar_1 : decode cL_readChar 1 = .ok (.iconst 0, 1) := by decide +kernel
theorem dL_readChar_2 : decode cL_readChar 2 = .ok (.aload_n 0, 1) := by decide +kernel
theorem dL_readChar_3 : decode cL_readChar 3 = .ok (.iload_n 1, 1) := by decide +kernel
theorem dL_readChar_4 : decode cL_readChar 4 = .ok (.iload_n 2, 1) := by decide +kernel
theorem dL_readChar_5 : decode cL_readChar 5 = .ok (.invokevirtual 33, 3) := by decide +kernel
theorem dL_readChar_8 : decode cL_readChar 8 = .ok (.i2l, 1) := by decide +kernel
theorem dL_readChar_9 : decode cL_readChar 9 = .ok (.lastore, 1) := by decide +kernel
theorem dL_readChar_10 : decode cL_readChar 10 = .ok (.goto 7, 3) := by decide +kernel
theorem dL_readChar_13 : decode cL_readChar 13 = .ok (.astore 4, 2) := by decide +kernel
theorem dL_readChar_15 : decode cL_readChar 15 = .ok (.iconst 1, 1) := by decide +kernel
theorem dL_readChar_16 : decode cL_readChar 16 = .ok (.ireturn, 1) := by decide +kernel
theorem dL_readChar_17 : decode cL_readChar 17 = .ok (.iconst 0, 1) := by decide +kernel
theorem dL_readChar_18 : decode cL_readChar 18 = .ok (.ireturn, 1) := by decide +kernel
set_option maxRecDepth 20000 in
theorem ggL_readShort_X2_readShort : GoodIn wsL_readShort wsX2_readShort := goodIn_ca (goodIn_r _ [6, 7, 8, 9, 5, 10, 11, 12, 13, 14, 15, 16, 17, 18, 19, 20, 21, 22, 23, 24, 25, 26, 27, 28, 29, 30, 31, 32, 33, 34, 35, 36, 37, 38, 39, 40, 41, 42, 43, 44, 45, 46, 47, 48, 49, 50, 51, 52] (by decide +kernel) (by decide +kernel)) (goodIn_sub (fun _ h => List.mem_cons_of_mem _ (List.mem_append_right _ h)) (by decide +kernel))
set_option maxRecDepth 20000 in
theorem gL_readShort_X2_readShort : GoodIn wsL_readShort (wsV RL 36 RX2 yX2_readShort wsX2_readShort) := goodIn_app (goodIn_of _ (by decide +kernel)) ggL_readShort_X2_readShort
theorem dL_readShort_0 : decode cL_readShort 0 = .ok (.aload_n 3, 1) := by decide +kernel
theorem dL_readShort_1 : decode cL_readShort 1 = .ok (.iconst 0, 1) := by decide +kernel
theorem dL_readShort_2 : decode cL_readShort 2 = .ok (.aload_n 0, 1) := by decide +kernel
theorem dL_readShort_3 : decode cL_readShort 3 = .ok (.iload_n 1, 1) := by decide +kernel
theorem dL_readShort_4 : decode cL_readShort 4 = .ok (.iload_n 2, 1) := by decide +kernel
theorem dL_readShort_5 : decode cL_readShort 5 = .ok (.invokevirtual 36, 3) := by decide +kernel
theorem dL_readShort_8 : decode cL_readShort 8 = .ok (.i2l, 1) := by decide +kernel
theorem dL_readShort_9 : decode cL_readShort 9 = .ok (.lastore, 1) := by decide +kernel
theorem dL_readShort_10 : decode cL_readShort 10 = .ok (.goto 7, 3) := by decide +kernel
theorem dL_readShort_13 : decode cL_readShort 13 = .ok (.astore 4, 2) := by decide +kernel
theorem dL_readShort_15 : decode cL_readShort 15 = .ok (.iconst 1, 1) := by decide +kernel
theorem dL_readShort_16 : decode cL_readShort 16 = .ok (.ireturn, 1) := by decide +kernel
theorem dL_readShort_17 : decode cL_readShort 17 = .ok (.iconst 0, 1) := by decide +kernel
theorem dL_readShort_18 : decode cL_readShort 18 = .ok (.ireturn, 1) := by decide +kernel
set_option maxRecDepth 20000 in
theorem ggL_readInt_X2_readInt : GoodIn wsL_readInt wsX2_readInt := goodIn_ca (goodIn_r _ [6, 7, 8, 9, 5, 10, 11, 12, 13, 14, 15, 16, 17, 18, 19, 20, 21, 22, 23, 24, 25, 26, 27, 28, 29, 30, 31, 32, 33, 34, 35, 36, 37, 38, 39, 40, 41, 42, 43, 44, 45, 46, 47, 48, 49, 50, 51, 52] (by decide +kernel) (by decide +kernel)) (goodIn_sub (fun _ h => List.mem_cons_of_mem _ (List.mem_append_right _ h)) (by decide +kernel))
set_option maxRecDepth 20000 in
theorem gL_readInt_X2_readInt : GoodIn wsL_readInt (wsV RL 39 RX2 yX2_readInt wsX2_readInt) := goodIn_app (goodIn_of _ (by decide +kernel)) ggL_readInt_X2_readInt
theorem dL_readInt_0 : decode cL_readInt 0 = .ok (.aload_n 3, 1) := by decide +kernel
theorem dL_readInt_1 : decode cL_readInt 1 = .ok (.iconst 0, 1) := by decide +kernel
theorem dL_readInt_2 : decode cL_readInt 2 = .ok (.aload_n 0, 1) := by decide +kernel
theorem dL_readInt_3 : decode cL_readInt 3 = .ok (.iload_n 1, 1) := by decide +kernel
theorem dL_readInt_4 : decode cL_readInt 4 = .ok (.iload_n 2, 1) := by decide +kernel
theorem dL_readInt_5 : decode cL_readInt 5 = .ok (.invokevirtual 39, 3) := by decide +kernel
theorem dL_readInt_8 : decode cL_readInt 8 = .ok (.i2l, 1) := by decide +kernel
theorem dL_readInt_9 : decode cL_readInt 9 = .ok (.lastore, 1) := by decide +kernel
theorem dL_readInt_10 : decode cL_readInt 10 = .ok (.goto 7, 3) := by decide +kernel
theorem dL_readInt_13 : decode cL_readInt 13 = .ok (.astore 4, 2) := by decide +kernel
theorem dL_readInt_15 : decode cL_readInt 15 = .ok (.iconst 1, 1) := by decide +kernel
theorem dL_readInt_16 : decode cL_readInt 16 = .ok (.ireturn, 1) := by decide +kernel
theorem dL_readInt_17 : decode cL_readInt 17 = .ok (.iconst 0, 1) := by decide +kernel
theorem dL_readInt_18 : decode cL_readInt 18 = .ok (.ireturn, 1) := by decide +kernel
set_option maxRecDepth 20000 in
theorem ggL_readLong_X2_readLong : GoodIn wsL_readLong wsX2_readLong := goodIn_ca (goodIn_r _ [6, 7, 8, 9, 5, 10, 11, 12, 13, 14, 15, 16, 17, 18, 19, 20, 21, 22, 23, 24, 25, 26, 27, 28, 29, 30, 31, 32, 33, 34, 35, 36, 37, 38, 39, 40, 41, 42, 43, 44, 45, 46, 47, 48, 49, 50, 51, 52] (by decide +kernel) (by decide +kernel)) (goodIn_sub (fun _ h => List.mem_cons_of_mem _ (List.mem_append_right _ h)) (by decide +kernel))
set_option maxRecDepth 20000 in
theorem gL_readLong_X2_readLong : GoodIn wsL_readLong (wsV RL 42 RX2 yX2_readLong wsX2_readLong) := goodIn_app (goodIn_of _ (by decide +kernel)) ggL_readLong_X2_readLong
theorem dL_readLong_0 : decode cL_readLong 0 = .ok (.aload_n 3, 1) := by decide +kernel
theorem dL_readLong_1 : decode cL_readLong 1 = .ok (.iconst 0, 1) := by decide +kernel
theorem dL_readLong_2 : decode cL_readLong 2 = .ok (.aload_n 0, 1) := by decide +kernel
theorem dL_readLong_3 : decode cL_readLong 3 = .ok (.iload_n 1, 1) := by decide +kernel
theorem dL_readLong_4 : decode cL_readLong 4 = .ok (.iload_n 2, 1) := by decide +kernel
theorem dL_readLong_5 : decode cL_readLong 5 = .ok (.invokevirtual 42, 3) := by decide +kernel
theorem dL_readLong_8 : decode cL_readLong 8 = .ok (.lastore, 1) := by decide +kernel
theorem dL_readLong_9 : decode cL_readLong 9 = .ok (.goto 7, 3) := by decide +kernel
theorem dL_readLong_12 : decode cL_readLong 12 = .ok (.astore 4, 2) := by decide +kernel
theorem dL_readLong_14 : decode cL_readLong 14 = .ok (.iconst 1, 1) := by decide +kernel
theorem dL_readLong_15 : decode cL_readLong 15 = .ok (.ireturn, 1) := by decide +kernel
theorem dL_readLong_16 : decode cL_readLong 16 = .ok (.iconst 0, 1) := by decide +kernel
theorem dL_readLong_17 : decode cL_readLong 17 = .ok (.ireturn, 1) := by decide +kernel
set_option maxRecDepth 20000 in
theorem ggL_readFloat_X2_readFloat : GoodIn wsL_readFloat wsX2_readFloat := goodIn_ca (goodIn_r _ [6, 7, 8, 9, 10, 5, 11, 12, 13, 14, 15, 16, 17, 18, 19, 20, 21, 22, 23, 24, 25, 26, 27, 28, 29, 30, 31, 32, 33, 34, 35, 36, 37, 38, 39, 40, 41, 42, 43, 44, 45, 46, 47, 48, 49, 50, 51, 52, 53, 54, 55, 56, 57, 58, 59, 60, 61, 62, 63, 64, 65, 66] (by decide +kernel) (by decide +kernel)) (goodIn_sub (fun _ h => List.mem_cons_of_mem _ (List.mem_append_right _ h)) (by decide +kernel))
set_option maxRecDepth 20000 in
theorem gL_readFloat_X2_readFloat : GoodIn wsL_readFloat (wsV RL 46 RX2 yX2_readFloat wsX2_readFloat) := goodIn_app (goodIn_of _ (by decide +kernel)) ggL_readFloat_X2_readFloat
theorem dL_readFloat_0 : decode cL_readFloat 0 = .ok (.aload_n 3, 1) := by decide +kernel
theorem dL_readFloat_1 : decode cL_readFloat 1 = .ok (.iconst 0, 1) := by decide +kernel
theorem dL_readFloat_2 : decode cL_readFloat 2 = .ok (.aload_n 0, 1) := by decide +kernel
theorem dL_readFloat_3 : decode cL_readFloat 3 = .ok (.iload_n 1, 1) := by decide +kernel
theorem dL_readFloat_4 : decode cL_readFloat 4 = .ok (.iload_n 2, 1) := by decide +kernel
theorem dL_readFloat_5 : decode cL_readFloat 5 = .ok (.invokevirtual 46, 3) := by decide +kernel
theorem dL_readFloat_8 : decode cL_readFloat 8 = .ok (.f2d, 1) := by decide +kernel
theorem dL_readFloat_9 : decode cL_readFloat 9 = .ok (.dastore, 1) := by decide +kernel
theorem dL_readFloat_10 : decode cL_readFloat 10 = .ok (.goto 7, 3) := by decide +kernel
theorem dL_readFloat_13 : decode cL_readFloat 13 = .ok (.astore 4, 2) := by decide +kernel
theorem dL_readFloat_15 : decode cL_readFloat 15 = .ok (.iconst 1, 1) := by decide +kernel
theorem dL_readFloat_16 : decode cL_readFloat 16 = .ok (.ireturn, 1) := by decide +kernel
theorem dL_readFloat_17 : decode cL_readFloat 17 = .ok (.iconst 0, 1) := by decide +kernel
theorem dL_readFloat_18 : decode cL_readFloat 18 = .ok (.ireturn, 1) := by decide +kernel
set_option maxRecDepth 20000 in
theorem ggL_readDouble_X2_readDouble : GoodIn wsL_readDouble wsX2_readDouble := goodIn_ca (goodIn_r _ [6, 7, 8, 9, 5, 10, 11, 12, 13, 14, 15, 16, 17, 18, 19, 20, 21, 22, 23, 24, 25, 26, 27, 28, 29, 30, 31, 32, 33, 34, 35, 36, 37, 38, 39, 40, 41, 42, 43, 44, 45, 46, 47, 48, 49, 50, 51, 52, 53, 54, 55, 56, 57, 58, 59, 60, 61, 62, 63, 64] (by decide +kernel) (by decide +kernel)) (goodIn_sub (fun _ h => List.mem_cons_of_mem _ (List.mem_append_right _ h)) (by decide +kernel))
set_option maxRecDepth 20000 in
theorem gL_readDouble_X2_readDouble : GoodIn wsL_readDouble (wsV RL 50 RX2 yX2_readDouble wsX2_readDouble) := goodIn_app (goodIn_of _ (by decide +kernel)) ggL_readDouble_X2_readDouble
theorem dL_readDouble_0 : decode cL_readDouble 0 = .ok (.aload_n 3, 1) := by decide +kernel
theorem dL_readDouble_1 : decode cL_readDouble 1 = .ok (.iconst 0, 1) := by decide +kernel
theorem dL_readDouble_2 : decode cL_readDouble 2 = .ok (.aload_n 0, 1) := by decide +kernel
theorem dL_readDouble_3 : decode cL_readDouble 3 = .ok (.iload_n 1, 1) := by decide +kernel
theorem dL_readDouble_4 : decode cL_readDouble 4 = .ok (.iload_n 2, 1) := by decide +kernel
theorem dL_readDouble_5 : decode cL_readDouble 5 = .ok (.invokevirtual 50, 3) := by decide +kernel
theorem dL_readDouble_8 : decode cL_readDouble 8 = .ok (.dastore, 1) := by decide +kernel
theorem dL_readDouble_9 : decode cL_readDouble 9 = .ok (.goto 7, 3) := by decide +kernel
theorem dL_readDouble_12 : decode cL_readDouble 12 = .ok (.astore 4, 2) := by decide +kernel
theorem dL_readDouble_14 : decode cL_readDouble 14 = .ok (.iconst 1, 1) := by decide +kernel
theorem dL_readDouble_15 : decode cL_readDouble 15 = .ok (.ireturn, 1) := by decide +kernel
theorem dL_readDouble_16 : decode cL_readDouble 16 = .ok (.iconst 0, 1) := by decide +kernel
theorem dL_readDouble_17 : decode cL_readDouble 17 = .ok (.ireturn, 1) := by decide +kernel
set_option maxRecDepth 20000 in
theorem ggL_readAny_X2_readAny : GoodIn wsL_readAny wsX2_readAny := goodIn_ca (goodIn_r _ [6, 7, 8, 9, 10, 5, 11, 12, 13, 14, 15, 16, 17, 18, 19, 20, 21, 22, 23, 24, 25, 26, 27, 28, 29, 30, 31, 32, 33, 34, 35, 36, 37, 38, 39, 40, 41, 42, 43, 44, 45, 46, 47, 48, 49, 50, 51, 52, 53, 54, 55, 56, 57, 58, 59, 60, 61, 62, 63, 64] (by decide +kernel) (by decide +kernel)) (goodIn_sub (fun _ h => List.mem_cons_of_mem _ (List.mem_append_right _ h)) (by decide +kernel))
set_option maxRecDepth 20000 in
theorem gL_readAny_X2_readAny : GoodIn wsL_readAny (wsV RL 54 RX2 yX2_readAny wsX2_readAny) := goodIn_app (goodIn_of _ (by decide +kernel)) ggL_readAny_X2_readAny
theorem dL_readAny_0 : decode cL_readAny 0 = .ok (.aload_n 3, 1) := by decide +kernel
theorem dL_readAny_1 : decode cL_readAny 1 = .ok (.iconst 0, 1) := by decide +kernel
theorem dL_readAny_2 : decode cL_readAny 2 = .ok (.aload_n 0, 1) := by decide +kernel
theorem dL_readAny_3 : decode cL_readAny 3 = .ok (.iload_n 1, 1) := by decide +kernel
theorem dL_readAny_4 : decode cL_readAny 4 = .ok (.iload_n 2, 1) := by decide +kernel
theorem dL_readAny_5 : decode cL_readAny 5 = .ok (.invokevirtual 54, 3) := by decide +kernel
theorem dL_readAny_8 : decode cL_readAny 8 = .ok (.dastore, 1) := by decide +kernel
theorem dL_readAny_9 : decode cL_readAny 9 = .ok (.goto 7, 3) := by decide +kernel
theorem dL_readAny_12 : decode cL_readAny 12 = .ok (.astore 4, 2) := by decide +kernel
theorem dL_readAny_14 : decode cL_readAny 14 = .ok (.iconst 1, 1) := by decide +kernel
theorem dL_readAny_15 : decode cL_readAny 15 = .ok (.ireturn, 1) := by decide +kernel
theorem dL_readAny_16 : decode cL_readAny 16 = .ok (.iconst 0, 1) := by decide +kernel
theorem dL_readAny_17 : decode cL_readAny 17 = .ok (.ireturn, 1) := by decide +kernel
set_option maxRecDepth 20000 in
theorem ggL_writeBoolean_X2_writeBoolean : GoodIn wsL_writeBoolean wsX2_writeBoolean := goodIn_ca (goodIn_r _ [6, 7, 8, 9, 5, 10, 11, 12, 13, 14, 15, 16, 17, 18, 19, 20, 21, 22, 23, 24, 25, 26, 27, 28, 29, 30, 31, 32, 33, 34, 35, 36, 37, 38, 39, 40, 41, 42, 43, 44, 45, 46, 47, 48, 49, 50, 51, 52, 53, 54, 55, 56, 57, 58] (by decide +kernel) (by decide +kernel)) (goodIn_sub (fun _ h => List.mem_cons_of_mem _ (List.mem_append_right _ h)) (by decide +kernel))
set_option maxRecDepth 20000 in
theorem gL_writeBoolean_X2_writeBoolean : GoodIn wsL_writeBoolean (wsV RL 57 RX2 yX2_writeBoolean wsX2_writeBoolean) := goodIn_app (goodIn_of _ (by decide +kernel)) ggL_writeBoolean_X2_writeBoolean
theorem dL_writeBoolean_0 : decode cL_writeBoolean 0 = .ok (.aload 4, 2) := by decide +kernel
theorem dL_writeBoolean_2 : decode cL_writeBoolean 2 = .ok (.iconst 0, 1) := by decide +kernel
theorem dL_writeBoolean_3 : decode cL_writeBoolean 3 = .ok (.aload_n 0, 1) := by decide +kernel
theorem dL_writeBoolean_4 : decode cL_writeBoolean 4 = .ok (.iload_n 1, 1) := by decide +kernel
theorem dL_writeBoolean_5 : decode cL_writeBoolean 5 = .ok (.iload_n 2, 1) := by decide +kernel
theorem dL_writeBoolean_6 : decode cL_writeBoolean 6 = .ok (.iload_n 3, 1) := by decide +kernel
theorem dL_writeBoolean_7 : decode cL_writeBoolean 7 = .ok (.invokevirtual 57, 3) := by decide +kernel
theorem dL_writeBoolean_10 : decode cL_writeBoolean 10 = .ok (.i2l, 1) := by decide +kernel
theorem dL_writeBoolean_11 : decode cL_writeBoolean 11 = .ok (.lastore, 1) := by decide +kernel
theorem dL_writeBoolean_12 : decode cL_writeBoolean 12 = .ok (.goto 7, 3) := by decide +kernel
theorem dL_writeBoolean_15 : decode cL_writeBoolean 15 = .ok (.astore 5, 2) := by decide +kernel
theorem dL_writeBoolean_17 : decode cL_writeBoolean 17 = .ok (.iconst 1, 1) := by decide +kernel
theorem dL_writeBoolean_18 : decode cL_writeBoolean 18 = .ok (.ireturn, 1) := by decide +kernel
theorem dL_writeBoolean_19 : decode cL_writeBoolean 19 = .ok (.iconst 0, 1) := by decide +kernel
theorem dL_writeBoolean_20 : decode cL_writeBoolean 20 = .ok (.ireturn, 1) := by decide +kernel
set_option maxRecDepth 20000 in
theorem ggL_writeByte_X2_writeByte : GoodIn wsL_writeByte wsX2_writeByte := goodIn_ca (goodIn_r _ [6, 7, 8, 9, 5, 10, 11, 12, 13, 14, 15, 16, 17, 18, 19, 20, 21, 22, 23, 24, 25, 26, 27, 28, 29, 30, 31, 32, 33, 34, 35, 36, 37, 38, 39, 40, 41, 42, 43, 44, 45, 46, 47, 48, 49, 50, 51, 52, 53, 54, 55, 56, 57, 58] (by decide +kernel) (by decide +kernel)) (goodIn_sub (fun _ h => List.mem_cons_of_mem _ (List.mem_append_right _ h)) (by decide +kernel))
set_option maxRecDepth 20000 in
theorem gL_writeByte_X2_writeByte : GoodIn wsL_writeByte (wsV RL 61 RX2 yX2_writeByte wsX2_writeByte) := goodIn_app (goodIn_of _ (by decide +kernel)) ggL_writeByte_X2_writeByte
theorem dL_writeByte_0 : decode cL_writeByte 0 = .ok (.aload 4, 2) := by decide +kernel
theorem dL_writeByte_2 : decode cL_writeByte 2 = .ok (.iconst 0, 1) := by decide +kernel
theorem dL_writeByte_3 : decode cL_writeByte 3 = .ok (.aload_n 0, 1) := by decide +kernel
theorem dL_writeByte_4 : decode cL_writeByte 4 = .ok (.iload_n 1, 1) := by decide +kernel
theorem dL_writeByte_5 : decode cL_writeByte 5 = .ok (.iload_n 2, 1) := by decide +kernel
theorem dL_writeByte_6 : decode cL_writeByte 6 = .ok (.iload_n 3, 1) := by decide +kernel
theorem dL_writeByte_7 : decode cL_writeByte 7 = .ok (.invokevirtual 61, 3) := by decide +kernel
theorem dL_writeByte_10 : decode cL_writeByte 10 = .ok (.i2l, 1) := by decide +kernel
theorem dL_writeByte_11 : decode cL_writeByte 11 = .ok (.lastore, 1) := by decide +kernel
theorem dL_writeByte_12 : decode cL_writeByte 12 = .ok (.goto 7, 3) := by decide +kernel
theorem dL_writeByte_15 : decode cL_writeByte 15 = .ok (.astore 5, 2) := by decide +kernel
theorem dL_writeByte_17 : decode cL_writeByte 17 = .ok (.iconst 1, 1) := by decide +kernel
theorem dL_writeByte_18 : decode cL_writeByte 18 = .ok (.ireturn, 1) := by decide +kernel
theorem dL_writeByte_19 : decode cL_writeByte 19 = .ok (.iconst 0, 1) := by decide +kernel
theorem dL_writeByte_20 : decode cL_writeByte 20 = .ok (.ireturn, 1) := by decide +kernel
set_option maxRecDepth 20000 in
theorem ggL_writeChar_X2_writeChar : GoodIn wsL_writeChar wsX2_writeChar := goodIn_ca (goodIn_r _ [6, 7, 8, 9, 5, 10, 11, 12, 13, 14, 15, 16, 17, 18, 19, 20, 21, 22, 23, 24, 25, 26, 27, 28, 29, 30, 31, 32, 33, 34, 35, 36, 37, 38, 39, 40, 41, 42, 43, 44, 45, 46, 47, 48, 49, 50, 51, 52, 53, 54, 55, 56, 57, 58] (by decide +kernel) (by decide +kernel)) (goodIn_sub (fun _ h => List.mem_cons_of_mem _ (List.mem_append_right _ h)) (by decide +kernel))
set_option maxRecDepth 20000 in
theorem gL_writeChar_X2_writeChar : GoodIn wsL_writeChar (wsV RL 65 RX2 yX2_writeChar wsX2_writeChar) := goodIn_app (goodIn_of _ (by decide +kernel)) ggL_writeChar_X2_writeChar
theorem dL_writeChar_0 : decode cL_writeChar 0 = .ok (.aload 4, 2) := by decide +kernel
theorem dL_writeChar_2 : decode cL_writeChar 2 = .ok (.iconst 0, 1) := by decide +kernel
theorem dL_writeChar_3 : decode cL_writeChar 3 = .ok (.aload_n 0, 1) := by decide +kernel
theorem dL_writeChar_4 : decode cL_writeChar 4 = .ok (.iload_n 1, 1) := by decide +kernel
theorem dL_writeChar_5 : decode cL_writeChar 5 = .ok (.iload_n 2, 1) := by decide +kernel
theorem dL_writeChar_6 : decode cL_writeChar 6 = .ok (.iload_n 3, 1) := by decide +kernel
theorem dL_writeChar_7 : decode cL_writeChar 7 = .ok (.invokevirtual 65, 3) := by decide +kernel
theorem dL_writeChar_10 : decode cL_writeChar 10 = .ok (.i2l, 1) := by decide +kernel
theorem dL_writeChar_11 : decode cL_writeChar 11 = .ok (.lastore, 1) := by decide +kernel
theorem dL_writeChar_12 : decode cL_writeChar 12 = .ok (.goto 7, 3) := by decide +kernel
theorem dL_writeChar_15 : decode cL_writeChar 15 = .ok (.astore 5, 2) := by decide +kernel
theorem dL_writeChar_17 : decode cL_writeChar 17 = .ok (.iconst 1, 1) := by decide +kernel
theorem dL_writeChar_18 : decode cL_writeChar 18 = .ok (.ireturn, 1) := by decide +kernel
theorem dL_writeChar_19 : decode cL_writeChar 19 = .ok (.iconst 0, 1) := by decide +kernel
theorem dL_writeChar_20 : decode cL_writeChar 20 = .ok (.ireturn, 1) := by decide +kernel
set_option maxRecDepth 20000 in
theorem ggL_writeShort_X2_writeShort : GoodIn wsL_writeShort wsX2_writeShort := goodIn_ca (goodIn_r _ [6, 7, 8, 9, 5, 10, 11, 12, 13, 14, 15, 16, 17, 18, 19, 20, 21, 22, 23, 24, 25, 26, 27, 28, 29, 30, 31, 32, 33, 34, 35, 36, 37, 38, 39, 40, 41, 42, 43, 44, 45, 46, 47, 48, 49, 50, 51, 52, 53, 54, 55, 56, 57, 58] (by decide +kernel) (by decide +kernel)) (goodIn_sub (fun _ h => List.mem_cons_of_mem _ (List.mem_append_right _ h)) (by decide +kernel))
set_option maxRecDepth 20000 in
theorem gL_writeShort_X2_writeShort : GoodIn wsL_writeShort (wsV RL 68 RX2 yX2_writeShort wsX2_writeShort) := goodIn_app (goodIn_of _ (by decide +kernel)) ggL_writeShort_X2_writeShort
theorem dL_writeShort_0 : decode cL_writeShort 0 = .ok (.aload 4, 2) := by decide +kernel
theorem dL_writeShort_2 : decode cL_writeShort 2 = .ok (.iconst 0, 1) := by decide +kernel
theorem dL_writeShort_3 : decode cL_writeShort 3 = .ok (.aload_n 0, 1) := by decide +kernel
theorem dL_writeShort_4 : decode cL_writeShort 4 = .ok (.iload_n 1, 1) := by decide +kernel
theorem dL_writeShort_5 : decode cL_writeShort 5 = .ok (.iload_n 2, 1) := by decide +kernel
theorem dL_writeShort_6 : decode cL_writeShort 6 = .ok (.iload_n 3, 1) := by decide +kernel
theorem dL_writeShort_7 : decode cL_writeShort 7 = .ok (.invokevirtual 68, 3) := by decide +kernel
theorem dL_writeShort_10 : decode cL_writeShort 10 = .ok (.i2l, 1) := by decide +kernel
theorem dL_writeShort_11 : decode cL_writeShort 11 = .ok (.lastore, 1) := by decide +kernel
theorem dL_writeShort_12 : decode cL_writeShort 12 = .ok (.goto 7, 3) := by decide +kernel
theorem dL_writeShort_15 : decode cL_writeShort 15 = .ok (.astore 5, 2) := by decide +kernel
theorem dL_writeShort_17 : decode cL_writeShort 17 = .ok (.iconst 1, 1) := by decide +kernel
theorem dL_writeShort_18 : decode cL_writeShort 18 = .ok (.ireturn, 1) := by decide +kernel
theorem dL_writeShort_19 : decode cL_writeShort 19 = .ok (.iconst 0, 1) := by decide +kernel
theorem dL_writeShort_20 : decode cL_writeShort 20 = .ok (.ireturn, 1) := by decide +kernel
set_option maxRecDepth 20000 in
theorem ggL_writeInt_X2_writeInt : GoodIn wsL_writeInt wsX2_writeInt := goodIn_ca (goodIn_r _ [6, 7, 8, 9, 5, 10, 11, 12, 13, 14, 15, 16, 17, 18, 19, 20, 21, 22, 23, 24, 25, 26, 27, 28, 29, 30, 31, 32, 33, 34, 35, 36, 37, 38, 39, 40, 41, 42, 43, 44, 45, 46, 47, 48, 49, 50, 51, 52, 53, 54, 55, 56, 57, 58] (by decide +kernel) (by decide +kernel)) (goodIn_sub (fun _ h => List.mem_cons_of_mem _ (List.mem_append_right _ h)) (by decide +kernel))
set_option maxRecDepth 20000 in
theorem gL_writeInt_X2_writeInt : GoodIn wsL_writeInt (wsV RL 71 RX2 yX2_writeInt wsX2_writeInt) := goodIn_app (goodIn_of _ (by decide +kernel)) ggL_writeInt_X2_writeInt
theorem dL_writeInt_0 : decode cL_writeInt 0 = .ok (.aload 4, 2) := by decide +kernel
theorem dL_writeInt_2 : decode cL_writeInt 2 = .ok (.iconst 0, 1) := by decide +kernel
theorem dL_writeInt_3 : decode cL_writeInt 3 = .ok (.aload_n 0, 1) := by decide +kernel
theorem dL_writeInt_4 : decode cL_writeInt 4 = .ok (.iload_n 1, 1) := by decide +kernel
theorem dL_writeInt_5 : decode cL_writeInt 5 = .ok (.iload_n 2, 1) := by decide +kernel
theorem dL_writeInt_6 : decode cL_writeInt 6 = .ok (.iload_n 3, 1) := by decide +kernel
theorem dL_writeInt_7 : decode cL_writeInt 7 = .ok (.invokevirtual 71, 3) := by decide +kernel
theorem dL_writeInt_10 : decode cL_writeInt 10 = .ok (.i2l, 1) := by decide +kernel
theorem dL_writeInt_11 : decode cL_writeInt 11 = .ok (.lastore, 1) := by decide +kernel
theorem dL_writeInt_12 : decode cL_writeInt 12 = .ok (.goto 7, 3) := by decide +kernel
theorem dL_writeInt_15 : decode cL_writeInt 15 = .ok (.astore 5, 2) := by decide +kernel
theorem dL_writeInt_17 : decode cL_writeInt 17 = .ok (.iconst 1, 1) := by decide +kernel
theorem dL_writeInt_18 : decode cL_writeInt 18 = .ok (.ireturn, 1) := by decide +kernel
theorem dL_writeInt_19 : decode cL_writeInt 19 = .ok (.iconst 0, 1) := by decide +kernel
theorem dL_writeInt_20 : decode cL_writeInt 20 = .ok (.ireturn, 1) := by decide +kernel
set_option maxRecDepth 20000 in
theorem ggL_writeLong_X2_writeLong : GoodIn wsL_writeLong wsX2_writeLong := goodIn_ca (goodIn_r _ [6, 7, 8, 9, 5, 10, 11, 12, 13, 14, 15, 16, 17, 18, 19, 20, 21, 22, 23, 24, 25, 26, 27, 28, 29, 30, 31, 32, 33, 34, 35, 36, 37, 38, 39, 40, 41, 42, 43, 44, 45, 46, 47, 48, 49, 50, 51, 52, 53, 54, 55, 56, 57, 58] (by decide +kernel) (by decide +kernel)) (goodIn_sub (fun _ h => List.mem_cons_of_mem _ (List.mem_append_right _ h)) (by decide +kernel))
set_option maxRecDepth 20000 in
theorem gL_writeLong_X2_writeLong : GoodIn wsL_writeLong (wsV RL 74 RX2 yX2_writeLong wsX2_writeLong) := goodIn_app (goodIn_of _ (by decide +kernel)) ggL_writeLong_X2_writeLong
theorem dL_writeLong_0 : decode cL_writeLong 0 = .ok (.aload 5, 2) := by decide +kernel
theorem dL_writeLong_2 : decode cL_writeLong 2 = .ok (.iconst 0, 1) := by decide +kernel
theorem dL_writeLong_3 : decode cL_writeLong 3 = .ok (.aload_n 0, 1) := by decide +kernel
theorem dL_writeLong_4 : decode cL_writeLong 4 = .ok (.iload_n 1, 1) := by decide +kernel
theorem dL_writeLong_5 : decode cL_writeLong 5 = .ok (.iload_n 2, 1) := by decide +kernel
theorem dL_writeLong_6 : decode cL_writeLong 6 = .ok (.lload_n 3, 1) := by decide +kernel
theorem dL_writeLong_7 : decode cL_writeLong 7 = .ok (.invokevirtual 74, 3) := by decide +kernel
theorem dL_writeLong_10 : decode cL_writeLong 10 = .ok (.i2l, 1) := by decide +kernel
theorem dL_writeLong_11 : decode cL_writeLong 11 = .ok (.lastore, 1) := by decide +kernel
theorem dL_writeLong_12 : decode cL_writeLong 12 = .ok (.goto 7, 3) := by decide +kernel
theorem dL_writeLong_15 : decode cL_writeLong 15 = .ok (.astore 6, 2) := by decide +kernel
theorem dL_writeLong_17 : decode cL_writeLong 17 = .ok (.iconst 1, 1) := by decide +kernel
theorem dL_writeLong_18 : decode cL_writeLong 18 = .ok (.ireturn, 1) := by decide +kernel
theorem dL_writeLong_19 : decode cL_writeLong 19 = .ok (.iconst 0, 1) := by decide +kernel
theorem dL_writeLong_20 : decode cL_writeLong 20 = .ok (.ireturn, 1) := by decide +kernel
set_option maxRecDepth 20000 in
theorem ggL_writeFloat_X2_writeFloat : GoodIn wsL_writeFloat wsX2_writeFloat := goodIn_ca (goodIn_r _ [6, 7, 8, 9, 5, 10, 11, 12, 13, 14, 15, 16, 17, 18, 19, 20, 21, 22, 23, 24, 25, 26, 27, 28, 29, 30, 31, 32, 33, 34, 35, 36, 37, 38, 39, 40, 41, 42, 43, 44, 45, 46, 47, 48, 49, 50, 51, 52, 53, 54, 55, 56, 57, 58, 59] (by decide +kernel) (by decide +kernel)) (goodIn_sub (fun _ h => List.mem_cons_of_mem _ (List.mem_append_right _ h)) (by decide +kernel))
set_option maxRecDepth 20000 in
theorem gL_writeFloat_X2_writeFloat : GoodIn wsL_writeFloat (wsV RL 78 RX2 yX2_writeFloat wsX2_writeFloat) := goodIn_app (goodIn_of _ (by decide +kernel)) ggL_writeFloat_X2_writeFloat
theorem dL_writeFloat_0 : decode cL_writeFloat 0 = .ok (.aload 4, 2) := by decide +kernel
theorem dL_writeFloat_2 : decode cL_writeFloat 2 = .ok (.iconst 0, 1) := by decide +kernel
theorem dL_writeFloat_3 : decode cL_writeFloat 3 = .ok (.aload_n 0, 1) := by decide +kernel
theorem dL_writeFloat_4 : decode cL_writeFloat 4 = .ok (.iload_n 1, 1) := by decide +kernel
theorem dL_writeFloat_5 : decode cL_writeFloat 5 = .ok (.iload_n 2, 1) := by decide +kernel
theorem dL_writeFloat_6 : decode cL_writeFloat 6 = .ok (.fload_n 3, 1) := by decide +kernel
theorem dL_writeFloat_7 : decode cL_writeFloat 7 = .ok (.invokevirtual 78, 3) := by decide +kernel
theorem dL_writeFloat_10 : decode cL_writeFloat 10 = .ok (.i2l, 1) := by decide +kernel
theorem dL_writeFloat_11 : decode cL_writeFloat 11 = .ok (.lastore, 1) := by decide +kernel
theorem dL_writeFloat_12 : decode cL_writeFloat 12 = .ok (.goto 7, 3) := by decide +kernel
theorem dL_writeFloat_15 : decode cL_writeFloat 15 = .ok (.astore 5, 2) := by decide +kernel
theorem dL_writeFloat_17 : decode cL_writeFloat 17 = .ok (.iconst 1, 1) := by decide +kernel
theorem dL_writeFloat_18 : decode cL_writeFloat 18 = .ok (.ireturn, 1) := by decide +kernel
theorem dL_writeFloat_19 : decode cL_writeFloat 19 = .ok (.iconst 0, 1) := by decide +kernel
theorem dL_writeFloat_20 : decode cL_writeFloat 20 = .ok (.ireturn, 1) := by decide +kernel
set_option maxRecDepth 20000 in
theorem ggL_writeDouble_X2_writeDouble : GoodIn wsL_writeDouble wsX2_writeDouble := goodIn_ca (goodIn_r _ [6, 7, 8, 9, 5, 10, 11, 12, 13, 14, 15, 16, 17, 18, 19, 20, 21, 22, 23, 24, 25, 26, 27, 28, 29, 30, 31, 32, 33, 34, 35, 36, 37, 38, 39, 40, 41, 42, 43, 44, 45, 46, 47, 48, 49, 50, 51, 52] (by decide +kernel) (by decide +kernel)) (goodIn_sub (fun _ h => List.mem_cons_of_mem _ (List.mem_append_right _ h)) (by decide +kernel))
set_option maxRecDepth 20000 in
theorem gL_writeDouble_X2_writeDouble : GoodIn wsL_writeDouble (wsV RL 82 RX2 yX2_writeDouble wsX2_writeDouble) := goodIn_app (goodIn_of _ (by decide +kernel)) ggL_writeDouble_X2_writeDouble
theorem dL_writeDouble_0 : decode cL_writeDouble 0 = .ok (.aload 5, 2) := by decide +kernel
theorem dL_writeDouble_2 : decode cL_writeDouble 2 = .ok (.iconst 0, 1) := by decide +kernel
theorem dL_writeDouble_3 : decode cL_writeDouble 3 = .ok (.aload_n 0, 1) := by decide +kernel
theorem dL_writeDouble_4 : decode cL_writeDouble 4 = .ok (.iload_n 1, 1) := by decide +kernel
theorem dL_writeDouble_5 : decode cL_writeDouble 5 = .ok (.iload_n 2, 1) := by decide +kernel
theorem dL_writeDouble_6 : decode cL_writeDouble 6 = .ok (.dload_n 3, 1) := by decide +kernel
theorem dL_writeDouble_7 : decode cL_writeDouble 7 = .ok (.invokevirtual 82, 3) := by decide +kernel
theorem dL_writeDouble_10 : decode cL_writeDouble 10 = .ok (.i2l, 1) := by decide +kernel
theorem dL_writeDouble_11 : decode cL_writeDouble 11 = .ok (.lastore, 1) := by decide +kernel
theorem dL_writeDouble_12 : decode cL_writeDouble 12 = .ok (.goto 7, 3) := by decide +kernel
theorem dL_writeDouble_15 : decode cL_writeDouble 15 = .ok (.astore 6, 2) := by decide +kernel
theorem dL_writeDouble_17 : decode cL_writeDouble 17 = .ok (.iconst 1, 1) := by decide +kernel
theorem dL_writeDouble_18 : decode cL_writeDouble 18 = .ok (.ireturn, 1) := by decide +kernel
theorem dL_writeDouble_19 : decode cL_writeDouble 19 = .ok (.iconst 0, 1) := by decide +kernel
theorem dL_writeDouble_20 : decode cL_writeDouble 20 = .ok (.ireturn, 1) := by decide +kernel
set_option maxRecDepth 20000 in
theorem ggL_writeAny_X2_writeAny : GoodIn wsL_writeAny wsX2_writeAny := goodIn_ca (goodIn_ca (goodIn_r _ [7, 8, 9, 10, 6, 11, 12, 13, 14, 15, 16, 17, 18, 19, 20, 21, 22, 23, 24, 25, 26, 27, 28, 29, 30, 31, 32, 33, 34, 35, 36, 37, 38, 39, 40, 41, 42, 43, 44, 45, 46, 47, 48, 49, 50, 51, 52, 53, 54, 55, 56, 57, 58, 59, 60, 61, 62, 63, 64, 65, 66, 67, 68, 69, 70, 71, 72] (by decide +kernel) (by decide +kernel)) (goodIn_sub (fun _ h => List.mem_cons_of_mem _ (List.mem_append_left _ (List.mem_append_right _ h))) (by decide +kernel))) (goodIn_sub (fun _ h => List.mem_cons_of_mem _ (List.mem_append_right _ h)) (by decide +kernel))
set_option maxRecDepth 20000 in
theorem gL_writeAny_X2_writeAny : GoodIn wsL_writeAny (wsV RL 86 RX2 yX2_writeAny wsX2_writeAny) := goodIn_app (goodIn_of _ (by decide +kernel)) ggL_writeAny_X2_writeAny
theorem dL_writeAny_0 : decode cL_writeAny 0 = .ok (.aload 5, 2) := by decide +kernel
theorem dL_writeAny_2 : decode cL_writeAny 2 = .ok (.iconst 0, 1) := by decide +kernel
theorem dL_writeAny_3 : decode cL_writeAny 3 = .ok (.aload_n 0, 1) := by decide +kernel
theorem dL_writeAny_4 : decode cL_writeAny 4 = .ok (.iload_n 1, 1) := by decide +kernel
theorem dL_writeAny_5 : decode cL_writeAny 5 = .ok (.iload_n 2, 1) := by decide +kernel
theorem dL_writeAny_6 : decode cL_writeAny 6 = .ok (.iload_n 3, 1) := by decide +kernel
theorem dL_writeAny_7 : decode cL_writeAny 7 = .ok (.iload 4, 2) := by decide +kernel
theorem dL_writeAny_9 : decode cL_writeAny 9 = .ok (.invokevirtual 86, 3) := by decide +kernel
theorem dL_writeAny_12 : decode cL_writeAny 12 = .ok (.i2l, 1) := by decide +kernel
theorem dL_writeAny_13 : decode cL_writeAny 13 = .ok (.lastore, 1) := by decide +kernel
theorem dL_writeAny_14 : decode cL_writeAny 14 = .ok (.goto 11, 3) := by decide +kernel
theorem dL_writeAny_17 : decode cL_writeAny 17 = .ok (.astore 6, 2) := by decide +kernel
theorem dL_writeAny_19 : decode cL_writeAny 19 = .ok (.iconst 1, 1) := by decide +kernel
theorem dL_writeAny_20 : decode cL_writeAny 20 = .ok (.ireturn, 1) := by decide +kernel
theorem dL_writeAny_21 : decode cL_writeAny 21 = .ok (.astore 6, 2) := by decide +kernel
theorem dL_writeAny_23 : decode cL_writeAny 23 = .ok (.iconst 2, 1) := by decide +kernel
theorem dL_writeAny_24 : decode cL_writeAny 24 = .ok (.ireturn, 1) := by decide +kernel
theorem dL_writeAny_25 : decode cL_writeAny 25 = .ok (.iconst 0, 1) := by decide +kernel
theorem dL_writeAny_26 : decode cL_writeAny 26 = .ok (.ireturn, 1) := by decide +kernel
set_option maxRecDepth 20000 in
theorem ggL_copy_X2_copy : GoodIn wsL_copy wsX2_copy := goodIn_ca (goodIn_r _ [6, 7, 8, 9, 10, 5, 11, 12, 13, 14, 15, 16, 17, 18, 19, 20, 21, 22, 23, 24, 25, 26, 27, 28, 29, 30, 31, 32, 33, 34, 35, 36, 37, 38, 39, 40, 41, 42, 43, 44, 45, 46, 47] (by decide +kernel) (by decide +kernel)) (goodIn_sub (fun _ h => List.mem_cons_of_mem _ (List.mem_append_right _ h)) (by decide +kernel))
set_option maxRecDepth 20000 in
theorem gL_copy_X2_copy : GoodIn wsL_copy (wsV RL 90 RX2 yX2_copy wsX2_copy) := goodIn_app (goodIn_of _ (by decide +kernel)) ggL_copy_X2_copy
theorem dL_copy_0 : decode cL_copy 0 = .ok (.aload 6, 2) := by decide +kernel
theorem dL_copy_2 : decode cL_copy 2 = .ok (.iconst 0, 1) := by decide +kernel
theorem dL_copy_3 : decode cL_copy 3 = .ok (.aload_n 0, 1) := by decide +kernel
theorem dL_copy_4 : decode cL_copy 4 = .ok (.iload_n 1, 1) := by decide +kernel
theorem dL_copy_5 : decode cL_copy 5 = .ok (.iload_n 2, 1) := by decide +kernel
theorem dL_copy_6 : decode cL_copy 6 = .ok (.iload_n 3, 1) := by decide +kernel
theorem dL_copy_7 : decode cL_copy 7 = .ok (.iload 4, 2) := by decide +kernel
theorem dL_copy_9 : decode cL_copy 9 = .ok (.iload 5, 2) := by decide +kernel
theorem dL_copy_11 : decode cL_copy 11 = .ok (.invokevirtual 90, 3) := by decide +kernel
theorem dL_copy_14 : decode cL_copy 14 = .ok (.i2l, 1) := by decide +kernel
theorem dL_copy_15 : decode cL_copy 15 = .ok (.lastore, 1) := by decide +kernel
theorem dL_copy_16 : decode cL_copy 16 = .ok (.goto 7, 3) := by decide +kernel
theorem dL_copy_19 : decode cL_copy 19 = .ok (.astore 7, 2) := by decide +kernel
theorem dL_copy_21 : decode cL_copy 21 = .ok (.iconst 1, 1) := by decide +kernel
theorem dL_copy_22 : decode cL_copy 22 = .ok (.ireturn, 1) := by decide +kernel
theorem dL_copy_23 : decode cL_copy 23 = .ok (.iconst 0, 1) := by decide +kernel
theorem dL_copy_24 : decode cL_copy 24 = .ok (.ireturn, 1) := by decide +kernel
set_option maxRecDepth 20000 in
theorem ggL_total_X2_total : GoodIn wsL_total wsX2_total := goodIn_ca (goodIn_r _ [6, 7, 8, 9, 5, 10, 11, 12, 13, 14, 15, 16, 17, 18, 19, 20, 21, 22, 23, 24, 25, 26, 27, 28, 29, 30, 31, 32, 33, 34, 35, 36, 37, 38, 39, 40, 41, 42, 43, 44, 45, 46, 47, 48, 49, 50, 51, 52, 53, 54, 55, 56, 57, 58, 59, 60, 61, 62, 63, 64, 65, 66] (by decide +kernel) (by decide +kernel)) (goodIn_sub (fun _ h => List.mem_cons_of_mem _ (List.mem_append_right _ h)) (by decide +kernel))
set_option maxRecDepth 20000 in
theorem gL_total_X2_total : GoodIn wsL_total (wsV RL 94 RX2 yX2_total wsX2_total) := goodIn_app (goodIn_of _ (by decide +kernel)) ggL_total_X2_total
theorem dL_total_0 : decode cL_total 0 = .ok (.aload_n 2, 1) := by decide +kernel
theorem dL_total_1 : decode cL_total 1 = .ok (.iconst 0, 1) := by decide +kernel
theorem dL_total_2 : decode cL_total 2 = .ok (.aload_n 0, 1) := by decide +kernel
theorem dL_total_3 : decode cL_total 3 = .ok (.iload_n 1, 1) := by decide +kernel
theorem dL_total_4 : decode cL_total 4 = .ok (.invokevirtual 94, 3) := by decide +kernel
theorem dL_total_7 : decode cL_total 7 = .ok (.dastore, 1) := by decide +kernel
theorem dL_total_8 : decode cL_total 8 = .ok (.goto 6, 3) := by decide +kernel
theorem dL_total_11 : decode cL_total 11 = .ok (.astore_n 3, 1) := by decide +kernel
theorem dL_total_12 : decode cL_total 12 = .ok (.iconst 1, 1) := by decide +kernel
theorem dL_total_13 : decode cL_total 13 = .ok (.ireturn, 1) := by decide +kernel
theorem dL_total_14 : decode cL_total 14 = .ok (.iconst 0, 1) := by decide +kernel
theorem dL_total_15 : decode cL_total 15 = .ok (.ireturn, 1) := by decide +kernel
set_option maxRecDepth 20000 in
theorem ggL_widened_X2_widened : GoodIn wsL_widened wsX2_widened := goodIn_ca (goodIn_ca (goodIn_ca (goodIn_r _ [8, 9, 10, 11, 12, 13, 14, 15, 16, 7, 17, 18, 19, 20, 21, 22, 23, 24, 25, 26, 27, 28, 29, 30, 31, 32, 33, 34, 35, 36, 37, 38, 39, 40, 41, 42, 43, 44, 45, 46, 47, 48, 49, 50, 51, 52, 53, 54, 55, 56, 57, 58, 59, 60, 61, 62, 63, 64, 65, 66, 67, 68, 69, 70, 71, 72, 73, 74, 75, 76, 77, 78, 79, 80, 81, 82, 83, 84, 85, 86, 87, 88, 89, 90, 91, 92, 93, 94, 95, 96] (by decide +kernel) (by decide +kernel)) (goodIn_sub (fun _ h => List.mem_cons_of_mem _ (List.mem_append_left _ (List.mem_append_left _ (List.mem_append_right _ h)))) (by decide +kernel))) (goodIn_sub (fun _ h => List.mem_cons_of_mem _ (List.mem_append_left _ (List.mem_append_right _ h))) (by decide +kernel))) (goodIn_sub (fun _ h => List.mem_cons_of_mem _ (List.mem_append_right _ h)) (by decide +kernel))
set_option maxRecDepth 20000 in
theorem gL_widened_X2_widened : GoodIn wsL_widened (wsV RL 98 RX2 yX2_widened wsX2_widened) := goodIn_app (goodIn_of _ (by decide +kernel)) ggL_widened_X2_widened
theorem dL_widened_0 : decode cL_widened 0 = .ok (.aload_n 3, 1) := by decide +kernel
theorem dL_widened_1 : decode cL_widened 1 = .ok (.iconst 0, 1) := by decide +kernel
theorem dL_widened_2 : decode cL_widened 2 = .ok (.aload_n 0, 1) := by decide +kernel
theorem dL_widened_3 : decode cL_widened 3 = .ok (.iload_n 1, 1) := by decide +kernel
theorem dL_widened_4 : decode cL_widened 4 = .ok (.iload_n 2, 1) := by decide +kernel
theorem dL_widened_5 : decode cL_widened 5 = .ok (.invokevirtual 98, 3) := by decide +kernel
theorem dL_widened_8 : decode cL_widened 8 = .ok (.i2l, 1) := by decide +kernel
theorem dL_widened_9 : decode cL_widened 9 = .ok (.lastore, 1) := by decide +kernel
theorem dL_widened_10 : decode cL_widened 10 = .ok (.goto 15, 3) := by decide +kernel
theorem dL_widened_13 : decode cL_widened 13 = .ok (.astore 4, 2) := by decide +kernel
theorem dL_widened_15 : decode cL_widened 15 = .ok (.iconst 1, 1) := by decide +kernel
theorem dL_widened_16 : decode cL_widened 16 = .ok (.ireturn, 1) := by decide +kernel
theorem dL_widened_17 : decode cL_widened 17 = .ok (.astore 4, 2) := by decide +kernel
theorem dL_widened_19 : decode cL_widened 19 = .ok (.iconst 2, 1) := by decide +kernel
theorem dL_widened_20 : decode cL_widened 20 = .ok (.ireturn, 1) := by decide +kernel
theorem dL_widened_21 : decode cL_widened 21 = .ok (.astore 4, 2) := by decide +kernel
theorem dL_widened_23 : decode cL_widened 23 = .ok (.iconst 3, 1) := by decide +kernel
theorem dL_widened_24 : decode cL_widened 24 = .ok (.ireturn, 1) := by decide +kernel
theorem dL_widened_25 : decode cL_widened 25 = .ok (.iconst 0, 1) := by decide +kernel
theorem dL_widened_26 : decode cL_widened 26 = .ok (.ireturn, 1) := by decide +kernel
set_option maxRecDepth 20000 in
theorem ggL_count_X2_count : GoodIn wsL_count wsX2_count := goodIn_ca (goodIn_r _ [6, 7, 8, 9, 10, 11, 12, 13, 14] (by decide +kernel) (by decide +kernel)) (goodIn_sub (fun _ h => List.mem_cons_of_mem _ (List.mem_append_right _ h)) (by decide +kernel))
set_option maxRecDepth 20000 in
theorem gL_count_X2_count : GoodIn wsL_count (wsV RL 101 RX2 yX2_count wsX2_count) := goodIn_app (goodIn_of _ (by decide +kernel)) ggL_count_X2_count
theorem dL_count_0 : decode cL_count 0 = .ok (.aload_n 2, 1) := by decide +kernel
theorem dL_count_1 : decode cL_count 1 = .ok (.iconst 0, 1) := by decide +kernel
theorem dL_count_2 : decode cL_count 2 = .ok (.aload_n 0, 1) := by decide +kernel
theorem dL_count_3 : decode cL_count 3 = .ok (.iload_n 1, 1) := by decide +kernel
theorem dL_count_4 : decode cL_count 4 = .ok (.invokevirtual 101, 3) := by decide +kernel
theorem dL_count_7 : decode cL_count 7 = .ok (.i2l, 1) := by decide +kernel
theorem dL_count_8 : decode cL_count 8 = .ok (.lastore, 1) := by decide +kernel
theorem dL_count_9 : decode cL_count 9 = .ok (.goto 6, 3) := by decide +kernel
theorem dL_count_12 : decode cL_count 12 = .ok (.astore_n 3, 1) := by decide +kernel
theorem dL_count_13 : decode cL_count 13 = .ok (.iconst 1, 1) := by decide +kernel
theorem dL_count_14 : decode cL_count 14 = .ok (.ireturn, 1) := by decide +kernel
theorem dL_count_15 : decode cL_count 15 = .ok (.iconst 0, 1) := by decide +kernel
theorem dL_count_16 : decode cL_count 16 = .ok (.ireturn, 1) := by decide +kernel
set_option maxRecDepth 20000 in
theorem ggL_hasCells_X2_hasCells : GoodIn wsL_hasCells wsX2_hasCells := goodIn_ca (goodIn_r _ [6, 7, 8, 5, 9, 10, 11, 12, 13, 14, 15, 16, 17] (by decide +kernel) (by decide +kernel)) (goodIn_sub (fun _ h => List.mem_cons_of_mem _ (List.mem_append_right _ h)) (by decide +kernel))
set_option maxRecDepth 20000 in
theorem gL_hasCells_X2_hasCells : GoodIn wsL_hasCells (wsV RL 104 RX2 yX2_hasCells wsX2_hasCells) := goodIn_app (goodIn_of _ (by decide +kernel)) ggL_hasCells_X2_hasCells
theorem dL_hasCells_0 : decode cL_hasCells 0 = .ok (.aload_n 2, 1) := by decide +kernel
theorem dL_hasCells_1 : decode cL_hasCells 1 = .ok (.iconst 0, 1) := by decide +kernel
theorem dL_hasCells_2 : decode cL_hasCells 2 = .ok (.aload_n 0, 1) := by decide +kernel
theorem dL_hasCells_3 : decode cL_hasCells 3 = .ok (.iload_n 1, 1) := by decide +kernel
theorem dL_hasCells_4 : decode cL_hasCells 4 = .ok (.invokevirtual 104, 3) := by decide +kernel
theorem dL_hasCells_7 : decode cL_hasCells 7 = .ok (.ifCond .eq 7, 3) := by decide +kernel
theorem dL_hasCells_10 : decode cL_hasCells 10 = .ok (.lconst 1, 1) := by decide +kernel
theorem dL_hasCells_11 : decode cL_hasCells 11 = .ok (.goto 4, 3) := by decide +kernel
theorem dL_hasCells_14 : decode cL_hasCells 14 = .ok (.lconst 0, 1) := by decide +kernel
theorem dL_hasCells_15 : decode cL_hasCells 15 = .ok (.lastore, 1) := by decide +kernel
theorem dL_hasCells_16 : decode cL_hasCells 16 = .ok (.goto 6, 3) := by decide +kernel
theorem dL_hasCells_19 : decode cL_hasCells 19 = .ok (.astore_n 3, 1) := by decide +kernel
theorem dL_hasCells_20 : decode cL_hasCells 20 = .ok (.iconst 1, 1) := by decide +kernel
theorem dL_hasCells_21 : decode cL_hasCells 21 = .ok (.ireturn, 1) := by decide +kernel
theorem dL_hasCells_22 : decode cL_hasCells 22 = .ok (.iconst 0, 1) := by decide +kernel
theorem dL_hasCells_23 : decode cL_hasCells 23 = .ok (.ireturn, 1) := by decide +kernel
set_option maxRecDepth 20000 in
theorem ggL_isNumber_X2_isNumber : GoodIn wsL_isNumber wsX2_isNumber := goodIn_ca (goodIn_r _ [6, 7, 8, 5, 9, 10, 11, 12, 13, 14] (by decide +kernel) (by decide +kernel)) (goodIn_sub (fun _ h => List.mem_cons_of_mem _ (List.mem_append_right _ h)) (by decide +kernel))
set_option maxRecDepth 20000 in
theorem gL_isNumber_X2_isNumber : GoodIn wsL_isNumber (wsV RL 108 RX2 yX2_isNumber wsX2_isNumber) := goodIn_app (goodIn_of _ (by decide +kernel)) ggL_isNumber_X2_isNumber
theorem dL_isNumber_0 : decode cL_isNumber 0 = .ok (.aload_n 2, 1) := by decide +kernel
theorem dL_isNumber_1 : decode cL_isNumber 1 = .ok (.iconst 0, 1) := by decide +kernel
theorem dL_isNumber_2 : decode cL_isNumber 2 = .ok (.aload_n 0, 1) := by decide +kernel
theorem dL_isNumber_3 : decode cL_isNumber 3 = .ok (.iload_n 1, 1) := by decide +kernel
theorem dL_isNumber_4 : decode cL_isNumber 4 = .ok (.invokevirtual 108, 3) := by decide +kernel
theorem dL_isNumber_7 : decode cL_isNumber 7 = .ok (.ifCond .eq 7, 3) := by decide +kernel
theorem dL_isNumber_10 : decode cL_isNumber 10 = .ok (.lconst 1, 1) := by decide +kernel
theorem dL_isNumber_11 : decode cL_isNumber 11 = .ok (.goto 4, 3) := by decide +kernel
theorem dL_isNumber_14 : decode cL_isNumber 14 = .ok (.lconst 0, 1) := by decide +kernel
theorem dL_isNumber_15 : decode cL_isNumber 15 = .ok (.lastore, 1) := by decide +kernel
theorem dL_isNumber_16 : decode cL_isNumber 16 = .ok (.goto 6, 3) := by decide +kernel
theorem dL_isNumber_19 : decode cL_isNumber 19 = .ok (.astore_n 3, 1) := by decide +kernel
theorem dL_isNumber_20 : decode cL_isNumber 20 = .ok (.iconst 1, 1) := by decide +kernel
theorem dL_isNumber_21 : decode cL_isNumber 21 = .ok (.ireturn, 1) := by decide +kernel
theorem dL_isNumber_22 : decode cL_isNumber 22 = .ok (.iconst 0, 1) := by decide +kernel
theorem dL_isNumber_23 : decode cL_isNumber 23 = .ok (.ireturn, 1) := by decide +kernel
set_option maxRecDepth 20000 in
theorem ggL_canWiden_X2_canWiden : GoodIn wsL_canWiden wsX2_canWiden := goodIn_ca (goodIn_r _ [6, 7, 8, 5, 9, 10, 11, 12, 13, 14, 15, 16, 17, 18, 19, 20] (by decide +kernel) (by decide +kernel)) (goodIn_sub (fun _ h => List.mem_cons_of_mem _ (List.mem_append_right _ h)) (by decide +kernel))
set_option maxRecDepth 20000 in
theorem gL_canWiden_X2_canWiden : GoodIn wsL_canWiden (wsV RL 111 RX2 yX2_canWiden wsX2_canWiden) := goodIn_app (goodIn_of _ (by decide +kernel)) ggL_canWiden_X2_canWiden
theorem dL_canWiden_0 : decode cL_canWiden 0 = .ok (.aload_n 3, 1) := by decide +kernel
theorem dL_canWiden_1 : decode cL_canWiden 1 = .ok (.iconst 0, 1) := by decide +kernel
theorem dL_canWiden_2 : decode cL_canWiden 2 = .ok (.aload_n 0, 1) := by decide +kernel
theorem dL_canWiden_3 : decode cL_canWiden 3 = .ok (.iload_n 1, 1) := by decide +kernel
theorem dL_canWiden_4 : decode cL_canWiden 4 = .ok (.iload_n 2, 1) := by decide +kernel
theorem dL_canWiden_5 : decode cL_canWiden 5 = .ok (.invokevirtual 111, 3) := by decide +kernel
theorem dL_canWiden_8 : decode cL_canWiden 8 = .ok (.ifCond .eq 7, 3) := by decide +kernel
theorem dL_canWiden_11 : decode cL_canWiden 11 = .ok (.lconst 1, 1) := by decide +kernel
theorem dL_canWiden_12 : decode cL_canWiden 12 = .ok (.goto 4, 3) := by decide +kernel
theorem dL_canWiden_15 : decode cL_canWiden 15 = .ok (.lconst 0, 1) := by decide +kernel
theorem dL_canWiden_16 : decode cL_canWiden 16 = .ok (.lastore, 1) := by decide +kernel
theorem dL_canWiden_17 : decode cL_canWiden 17 = .ok (.goto 7, 3) := by decide +kernel
theorem dL_canWiden_20 : decode cL_canWiden 20 = .ok (.astore 4, 2) := by decide +kernel
theorem dL_canWiden_22 : decode cL_canWiden 22 = .ok (.iconst 1, 1) := by decide +kernel
theorem dL_canWiden_23 : decode cL_canWiden 23 = .ok (.ireturn, 1) := by decide +kernel
theorem dL_canWiden_24 : decode cL_canWiden 24 = .ok (.iconst 0, 1) := by decide +kernel
theorem dL_canWiden_25 : decode cL_canWiden 25 = .ok (.ireturn, 1) := by decide +kernel
set_option maxRecDepth 20000 in
theorem ggL_law_X2_init : GoodIn wsL_law wsX2_init := goodIn_r _ [13, 14, 15, 16, 17, 18, 19, 20, 21, 22, 23, 24, 25, 26, 27, 28, 29, 30, 7, 31, 32, 635, 636, 637, 638, 639, 648] (by decide +kernel) (by decide +kernel)
set_option maxRecDepth 20000 in
theorem gL_law_X2_init : GoodIn wsL_law (wsX2_init) := ggL_law_X2_init
set_option maxRecDepth 20000 in
theorem ggL_law_X3_init : GoodIn wsL_law wsX3_init := goodIn_r _ [35, 36, 15, 16, 19, 37, 38, 6, 39, 7, 40, 41, 640, 641, 642, 643, 644, 645, 646, 647] (by decide +kernel) (by decide +kernel)
set_option maxRecDepth 20000 in
theorem gL_law_X3_init : GoodIn wsL_law (wsX3_init) := ggL_law_X3_init
set_option maxRecDepth 20000 in
theorem ggL_law_L_create : GoodIn wsL_law wsL_create := goodIn_ca (goodIn_ca (goodIn_r _ [45, 46, 47, 48, 49, 50, 2, 51, 52, 53, 17, 54, 55, 56, 57, 58, 59, 60, 61, 62, 63, 64, 65, 66, 67, 68, 69, 70, 25, 18, 71, 72, 73, 74, 15, 16, 75, 76, 6, 77, 7, 78, 79, 80, 81, 82, 83, 84, 649, 650, 651, 652, 635, 636, 637, 638, 639] (by decide +kernel) (by decide +kernel)) (goodIn_sub (fun _ h => List.mem_append_left _ (List.mem_append_left _ (List.mem_append_right _ h))) (by decide +kernel))) (goodIn_sub (fun _ h => List.mem_append_left _ (List.mem_append_right _ h)) (by decide +kernel))
set_option maxRecDepth 20000 in
theorem gL_law_L_create : GoodIn wsL_law (va_wsS RL 118 yL_create wsL_create) := goodIn_app (goodIn_of _ (by decide +kernel)) ggL_law_L_create
set_option maxRecDepth 20000 in
theorem ggL_law_X3_create : GoodIn wsL_law wsX3_create := goodIn_r _ [88, 89, 90, 37, 38, 39, 40, 91, 92, 5, 93, 94, 95, 96, 97, 98, 99, 100, 640, 641, 642, 643, 644, 645, 646, 647] (by decide +kernel) (by decide +kernel)
set_option maxRecDepth 20000 in
theorem gL_law_X3_create : GoodIn wsL_law (wsV RL 123 RX3 yX3_create wsX3_create) := goodIn_app (goodIn_of _ (by decide +kernel)) ggL_law_X3_create
set_option maxRecDepth 20000 in
theorem ggL_law_X3_thrown : GoodIn wsL_law wsX3_thrown := goodIn_r _ [104, 89, 640, 641, 642, 643, 644, 645, 646, 647] (by decide +kernel) (by decide +kernel)
set_option maxRecDepth 20000 in
theorem gL_law_X3_thrown : GoodIn wsL_law (wsV RL 124 RX3 yX3_thrown wsX3_thrown) := goodIn_app (goodIn_of _ (by decide +kernel)) ggL_law_X3_thrown
set_option maxRecDepth 20000 in
theorem ggL_law_X2_columnCount : GoodIn wsL_law wsX2_columnCount := goodIn_r _ [108, 25, 635, 636, 637, 638, 639] (by decide +kernel) (by decide +kernel)
set_option maxRecDepth 20000 in
theorem gL_law_X2_columnCount : GoodIn wsL_law (wsV RL 128 RX2 yX2_columnCount wsX2_columnCount) := goodIn_app (goodIn_of _ (by decide +kernel)) ggL_law_X2_columnCount
set_option maxRecDepth 20000 in
theorem ggL_law_X3_columnCount : GoodIn wsL_law wsX3_columnCount := goodIn_r _ [112, 89, 90, 640, 641, 642, 643, 644, 645, 646, 647] (by decide +kernel) (by decide +kernel)
set_option maxRecDepth 20000 in
theorem gL_law_X3_columnCount : GoodIn wsL_law (wsV RL 131 RX3 yX3_columnCount wsX3_columnCount) := goodIn_app (goodIn_of _ (by decide +kernel)) ggL_law_X3_columnCount
set_option maxRecDepth 20000 in
theorem ggL_law_L_kind : GoodIn wsL_law wsL_kind := goodIn_ca (goodIn_r _ [115, 116, 117, 118, 119, 2, 120, 121, 122, 123, 124, 125, 126, 127, 18, 649, 650, 651, 652, 635, 636, 637, 638, 639] (by decide +kernel) (by decide +kernel)) (goodIn_sub (fun _ h => List.mem_append_right _ h) (by decide +kernel))
set_option maxRecDepth 20000 in
theorem gL_law_L_kind : GoodIn wsL_law (va_wsS RL 132 yL_kind wsL_kind) := goodIn_app (goodIn_of _ (by decide +kernel)) ggL_law_L_kind
set_option maxRecDepth 20000 in
theorem ggL_law_X3_kind : GoodIn wsL_law wsX3_kind := goodIn_r _ [131, 89, 37, 132, 133, 134, 5, 135, 90, 94, 95, 96, 97, 640, 641, 642, 643, 644, 645, 646, 647] (by decide +kernel) (by decide +kernel)
set_option maxRecDepth 20000 in
theorem gL_law_X3_kind : GoodIn wsL_law (wsV RL 135 RX3 yX3_kind wsX3_kind) := goodIn_app (goodIn_of _ (by decide +kernel)) ggL_law_X3_kind
set_option maxRecDepth 20000 in
theorem ggL_law_L_length : GoodIn wsL_law wsL_length := goodIn_ca (goodIn_r _ [138, 116, 139, 140, 141, 2, 142, 143, 122, 123, 124, 125, 126, 127, 18, 144, 145, 146, 121, 147, 148, 149, 150, 20, 26, 649, 650, 651, 652, 635, 636, 637, 638, 639] (by decide +kernel) (by decide +kernel)) (goodIn_sub (fun _ h => List.mem_append_right _ h) (by decide +kernel))
set_option maxRecDepth 20000 in
theorem gL_law_L_length : GoodIn wsL_law (va_wsS RL 136 yL_length wsL_length) := goodIn_app (goodIn_of _ (by decide +kernel)) ggL_law_L_length
set_option maxRecDepth 20000 in
theorem ggL_law_X3_length : GoodIn wsL_law wsX3_length := goodIn_r _ [154, 89, 38, 132, 133, 134, 5, 135, 90, 94, 95, 96, 97, 155, 156, 157, 158, 37, 159, 160, 161, 162, 163, 41, 640, 641, 642, 643, 644, 645, 646, 647] (by decide +kernel) (by decide +kernel)
set_option maxRecDepth 20000 in
theorem gL_law_X3_length : GoodIn wsL_law (wsV RL 138 RX3 yX3_length wsX3_length) := goodIn_app (goodIn_of _ (by decide +kernel)) ggL_law_X3_length
set_option maxRecDepth 20000 in
theorem ggL_law_L_readBoolean : GoodIn wsL_law wsL_readBoolean := goodIn_ca (goodIn_r _ [166, 116, 167, 168, 169, 2, 170, 122, 123, 124, 125, 126, 127, 18, 171, 172, 173, 174, 121, 175, 176, 177, 143, 144, 145, 146, 178, 179, 180, 59, 60, 61, 147, 148, 149, 150, 20, 26, 181, 182, 183, 55, 184, 77, 635, 636, 637, 638, 639, 649, 650, 651, 652] (by decide +kernel) (by decide +kernel)) (goodIn_sub (fun _ h => List.mem_append_right _ h) (by decide +kernel))
set_option maxRecDepth 20000 in
theorem gL_law_L_readBoolean : GoodIn wsL_law (va_wsS RL 139 yL_readBoolean wsL_readBoolean) := goodIn_app (goodIn_of _ (by decide +kernel)) ggL_law_L_readBoolean
set_option maxRecDepth 20000 in
theorem ggL_law_X3_readBoolean : GoodIn wsL_law wsX3_readBoolean := goodIn_r _ [188, 39, 189, 190, 191, 5, 192, 89, 37, 132, 133, 134, 135, 90, 193, 194, 195, 196, 38, 155, 156, 157, 158, 197, 198, 199, 91, 92, 93, 159, 160, 161, 162, 163, 41, 98, 99, 100, 640, 641, 642, 643, 644, 645, 646, 647] (by decide +kernel) (by decide +kernel)
set_option maxRecDepth 20000 in
theorem gL_law_X3_readBoolean : GoodIn wsL_law (wsV RL 141 RX3 yX3_readBoolean wsX3_readBoolean) := goodIn_app (goodIn_of _ (by decide +kernel)) ggL_law_X3_readBoolean
set_option maxRecDepth 20000 in
theorem ggL_law_L_readByte : GoodIn wsL_law wsL_readByte := goodIn_ca (goodIn_r _ [202, 116, 203, 204, 205, 2, 206, 122, 123, 124, 125, 126, 127, 18, 171, 172, 173, 174, 121, 175, 176, 177, 143, 144, 145, 146, 178, 179, 180, 59, 60, 61, 147, 148, 149, 150, 20, 26, 181, 182, 183, 55, 184, 77, 635, 636, 637, 638, 639, 649, 650, 651, 652] (by decide +kernel) (by decide +kernel)) (goodIn_sub (fun _ h => List.mem_append_right _ h) (by decide +kernel))
set_option maxRecDepth 20000 in
theorem gL_law_L_readByte : GoodIn wsL_law (va_wsS RL 142 yL_readByte wsL_readByte) := goodIn_app (goodIn_of _ (by decide +kernel)) ggL_law_L_readByte
set_option maxRecDepth 20000 in
theorem ggL_law_X3_readByte : GoodIn wsL_law wsX3_readByte := goodIn_r _ [210, 39, 189, 190, 191, 5, 192, 89, 37, 132, 133, 134, 135, 90, 193, 194, 195, 196, 38, 155, 156, 157, 158, 197, 198, 199, 91, 92, 93, 159, 160, 161, 162, 163, 41, 98, 99, 100, 640, 641, 642, 643, 644, 645, 646, 647] (by decide +kernel) (by decide +kernel)
set_option maxRecDepth 20000 in
theorem gL_law_X3_readByte : GoodIn wsL_law (wsV RL 144 RX3 yX3_readByte wsX3_readByte) := goodIn_app (goodIn_of _ (by decide +kernel)) ggL_law_X3_readByte
set_option maxRecDepth 20000 in
theorem ggL_law_L_readChar : GoodIn wsL_law wsL_readChar := goodIn_ca (goodIn_r _ [213, 116, 214, 215, 216, 2, 217, 122, 123, 124, 125, 126, 127, 18, 171, 172, 173, 174, 121, 175, 176, 177, 143, 144, 145, 146, 178, 179, 180, 59, 60, 61, 147, 148, 149, 150, 20, 26, 181, 182, 183, 55, 184, 77, 635, 636, 637, 638, 639, 649, 650, 651, 652] (by decide +kernel) (by decide +kernel)) (goodIn_sub (fun _ h => List.mem_append_right _ h) (by decide +kernel))
set_option maxRecDepth 20000 in
theorem gL_law_L_readChar : GoodIn wsL_law (va_wsS RL 145 yL_readChar wsL_readChar) := goodIn_app (goodIn_of _ (by decide +kernel)) ggL_law_L_readChar
set_option maxRecDepth 20000 in
theorem ggL_law_X3_readChar : GoodIn wsL_law wsX3_readChar := goodIn_r _ [221, 39, 189, 190, 191, 5, 192, 89, 37, 132, 133, 134, 135, 90, 193, 194, 195, 196, 38, 155, 156, 157, 158, 197, 198, 199, 91, 92, 93, 159, 160, 161, 162, 163, 41, 98, 99, 100, 640, 641, 642, 643, 644, 645, 646, 647] (by decide +kernel) (by decide +kernel)
set_option maxRecDepth 20000 in
theorem gL_law_X3_readChar : GoodIn wsL_law (wsV RL 147 RX3 yX3_readChar wsX3_readChar) := goodIn_app (goodIn_of _ (by decide +kernel)) ggL_law_X3_readChar
set_option maxRecDepth 20000 in
theorem ggL_law_L_readShort : GoodIn wsL_law wsL_readShort := goodIn_ca (goodIn_r _ [224, 116, 225, 226, 227, 2, 228, 122, 123, 124, 125, 126, 127, 18, 171, 172, 173, 174, 121, 175, 176, 177, 143, 144, 145, 146, 178, 179, 180, 59, 60, 61, 147, 148, 149, 150, 20, 26, 181, 182, 183, 55, 184, 77, 635, 636, 637, 638, 639, 649, 650, 651, 652] (by decide +kernel) (by decide +kernel)) (goodIn_sub (fun _ h => List.mem_append_right _ h) (by decide +kernel))
set_option maxRecDepth 20000 in
theorem gL_law_L_readShort : GoodIn wsL_law (va_wsS RL 148 yL_readShort wsL_readShort) := goodIn_app (goodIn_of _ (by decide +kernel)) ggL_law_L_readShort
set_option maxRecDepth 20000 in
theorem ggL_law_X3_readShort : GoodIn wsL_law wsX3_readShort := goodIn_r _ [232, 39, 189, 190, 191, 5, 192, 89, 37, 132, 133, 134, 135, 90, 193, 194, 195, 196, 38, 155, 156, 157, 158, 197, 198, 199, 91, 92, 93, 159, 160, 161, 162, 163, 41, 98, 99, 100, 640, 641, 642, 643, 644, 645, 646, 647] (by decide +kernel) (by decide +kernel)
set_option maxRecDepth 20000 in
theorem gL_law_X3_readShort : GoodIn wsL_law (wsV RL 150 RX3 yX3_readShort wsX3_readShort) := goodIn_app (goodIn_of _ (by decide +kernel)) ggL_law_X3_readShort
set_option maxRecDepth 20000 in
theorem ggL_law_L_readInt : GoodIn wsL_law wsL_readInt := goodIn_ca (goodIn_r _ [235, 116, 236, 237, 238, 2, 239, 122, 123, 124, 125, 126, 127, 18, 171, 172, 173, 174, 121, 175, 176, 177, 143, 144, 145, 146, 178, 179, 180, 59, 60, 61, 147, 148, 149, 150, 20, 26, 181, 182, 183, 55, 184, 77, 635, 636, 637, 638, 639, 649, 650, 651, 652] (by decide +kernel) (by decide +kernel)) (goodIn_sub (fun _ h => List.mem_append_right _ h) (by decide +kernel))
set_option maxRecDepth 20000 in
theorem gL_law_L_readInt : GoodIn wsL_law (va_wsS RL 151 yL_readInt wsL_readInt) := goodIn_app (goodIn_of _ (by decide +kernel)) ggL_law_L_readInt
set_option maxRecDepth 20000 in
theorem ggL_law_X3_readInt : GoodIn wsL_law wsX3_readInt := goodIn_r _ [243, 39, 189, 190, 191, 5, 192, 89, 37, 132, 133, 134, 135, 90, 193, 194, 195, 196, 38, 155, 156, 157, 158, 197, 198, 199, 91, 92, 93, 159, 160, 161, 162, 163, 41, 98, 99, 100, 640, 641, 642, 643, 644, 645, 646, 647] (by decide +kernel) (by decide +kernel)
set_option maxRecDepth 20000 in
theorem gL_law_X3_readInt : GoodIn wsL_law (wsV RL 153 RX3 yX3_readInt wsX3_readInt) := goodIn_app (goodIn_of _ (by decide +kernel)) ggL_law_X3_readInt
set_option maxRecDepth 20000 in
theorem ggL_law_L_readLong : GoodIn wsL_law wsL_readLong := goodIn_ca (goodIn_r _ [246, 116, 247, 248, 249, 2, 250, 122, 123, 124, 125, 126, 127, 18, 171, 172, 173, 174, 121, 175, 176, 177, 143, 144, 145, 146, 178, 179, 180, 59, 60, 61, 147, 148, 149, 150, 20, 26, 181, 182, 183, 55, 184, 77, 635, 636, 637, 638, 639, 649, 650, 651, 652] (by decide +kernel) (by decide +kernel)) (goodIn_sub (fun _ h => List.mem_append_right _ h) (by decide +kernel))
set_option maxRecDepth 20000 in
theorem gL_law_L_readLong : GoodIn wsL_law (va_wsS RL 154 yL_readLong wsL_readLong) := goodIn_app (goodIn_of _ (by decide +kernel)) ggL_law_L_readLong
set_option maxRecDepth 20000 in
theorem ggL_law_X3_readLong : GoodIn wsL_law wsX3_readLong := goodIn_r _ [254, 39, 189, 190, 191, 5, 192, 89, 37, 132, 133, 134, 135, 90, 193, 194, 195, 196, 38, 155, 156, 157, 158, 197, 198, 199, 91, 92, 93, 159, 160, 161, 162, 163, 41, 98, 99, 100, 640, 641, 642, 643, 644, 645, 646, 647] (by decide +kernel) (by decide +kernel)
set_option maxRecDepth 20000 in
theorem gL_law_X3_readLong : GoodIn wsL_law (wsV RL 156 RX3 yX3_readLong wsX3_readLong) := goodIn_app (goodIn_of _ (by decide +kernel)) ggL_law_X3_readLong
set_option maxRecDepth 20000 in
theorem ggL_law_L_readFloat : GoodIn wsL_law wsL_readFloat := goodIn_ca (goodIn_r _ [257, 116, 258, 259, 260, 2, 261, 121, 122, 123, 124, 125, 126, 127, 18, 175, 176, 177, 143, 144, 145, 146, 178, 179, 180, 59, 60, 61, 147, 148, 149, 150, 20, 26, 262, 263, 264, 55, 265, 75, 79, 80, 266, 267, 268, 269, 78, 270, 271, 272, 273, 274, 275, 276, 182, 183, 184, 77, 649, 650, 651, 652, 635, 636, 637, 638, 639] (by decide +kernel) (by decide +kernel)) (goodIn_sub (fun _ h => List.mem_append_right _ h) (by decide +kernel))
set_option maxRecDepth 20000 in
theorem gL_law_L_readFloat : GoodIn wsL_law (va_wsS RL 157 yL_readFloat wsL_readFloat) := goodIn_app (goodIn_of _ (by decide +kernel)) ggL_law_L_readFloat
set_option maxRecDepth 20000 in
theorem ggL_law_X3_readFloat : GoodIn wsL_law wsX3_readFloat := goodIn_r _ [280, 37, 40, 39, 189, 190, 191, 5, 192, 89, 132, 133, 134, 135, 90, 193, 194, 195, 196, 38, 155, 156, 157, 158, 197, 198, 199, 91, 92, 93, 159, 160, 161, 162, 163, 41, 281, 282, 283, 98, 99, 100, 640, 641, 642, 643, 644, 645, 646, 647] (by decide +kernel) (by decide +kernel)
set_option maxRecDepth 20000 in
theorem gL_law_X3_readFloat : GoodIn wsL_law (wsV RL 160 RX3 yX3_readFloat wsX3_readFloat) := goodIn_app (goodIn_of _ (by decide +kernel)) ggL_law_X3_readFloat
set_option maxRecDepth 20000 in
theorem ggL_law_L_readDouble : GoodIn wsL_law wsL_readDouble := goodIn_ca (goodIn_r _ [286, 116, 287, 288, 289, 2, 290, 122, 123, 124, 125, 126, 127, 18, 291, 292, 293, 294, 121, 175, 176, 177, 143, 144, 145, 146, 178, 179, 180, 59, 60, 61, 147, 148, 149, 150, 20, 26, 295, 296, 297, 55, 298, 75, 79, 80, 266, 267, 268, 269, 78, 276, 182, 183, 184, 77, 635, 636, 637, 638, 639, 649, 650, 651, 652] (by decide +kernel) (by decide +kernel)) (goodIn_sub (fun _ h => List.mem_append_right _ h) (by decide +kernel))
set_option maxRecDepth 20000 in
theorem gL_law_L_readDouble : GoodIn wsL_law (va_wsS RL 161 yL_readDouble wsL_readDouble) := goodIn_app (goodIn_of _ (by decide +kernel)) ggL_law_L_readDouble
set_option maxRecDepth 20000 in
theorem ggL_law_X3_readDouble : GoodIn wsL_law wsX3_readDouble := goodIn_r _ [302, 189, 190, 191, 5, 192, 89, 37, 132, 133, 134, 135, 90, 193, 194, 195, 196, 38, 155, 156, 157, 158, 197, 198, 199, 91, 92, 93, 159, 160, 161, 162, 163, 41, 303, 304, 305, 306, 40, 39, 281, 282, 283, 98, 99, 100, 640, 641, 642, 643, 644, 645, 646, 647] (by decide +kernel) (by decide +kernel)
set_option maxRecDepth 20000 in
theorem gL_law_X3_readDouble : GoodIn wsL_law (wsV RL 163 RX3 yX3_readDouble wsX3_readDouble) := goodIn_app (goodIn_of _ (by decide +kernel)) ggL_law_X3_readDouble
set_option maxRecDepth 20000 in
theorem ggL_law_L_readAny : GoodIn wsL_law wsL_readAny := goodIn_ca (goodIn_r _ [309, 116, 310, 311, 312, 2, 313, 121, 122, 123, 124, 125, 126, 127, 18, 291, 292, 293, 294, 175, 176, 177, 143, 144, 145, 146, 178, 179, 180, 59, 60, 61, 147, 148, 149, 150, 20, 26, 295, 296, 297, 55, 298, 75, 79, 80, 266, 267, 268, 269, 78, 276, 182, 183, 184, 77, 649, 650, 651, 652, 635, 636, 637, 638, 639] (by decide +kernel) (by decide +kernel)) (goodIn_sub (fun _ h => List.mem_append_right _ h) (by decide +kernel))
set_option maxRecDepth 20000 in
theorem gL_law_L_readAny : GoodIn wsL_law (va_wsS RL 164 yL_readAny wsL_readAny) := goodIn_app (goodIn_of _ (by decide +kernel)) ggL_law_L_readAny
set_option maxRecDepth 20000 in
theorem ggL_law_X3_readAny : GoodIn wsL_law wsX3_readAny := goodIn_r _ [317, 89, 132, 133, 134, 5, 135, 90, 193, 194, 195, 196, 38, 155, 156, 157, 158, 37, 159, 160, 161, 162, 163, 41, 303, 304, 305, 306, 40, 39, 281, 282, 283, 98, 99, 100, 640, 641, 642, 643, 644, 645, 646, 647] (by decide +kernel) (by decide +kernel)
set_option maxRecDepth 20000 in
theorem gL_law_X3_readAny : GoodIn wsL_law (wsV RL 166 RX3 yX3_readAny wsX3_readAny) := goodIn_app (goodIn_of _ (by decide +kernel)) ggL_law_X3_readAny
set_option maxRecDepth 20000 in
theorem ggL_law_L_writeBoolean : GoodIn wsL_law wsL_writeBoolean := goodIn_ca (goodIn_r _ [320, 116, 321, 322, 323, 2, 324, 122, 123, 124, 125, 126, 127, 18, 325, 326, 327, 328, 121, 175, 176, 177, 143, 144, 145, 146, 178, 179, 180, 59, 60, 61, 147, 148, 149, 150, 20, 26, 329, 330, 331, 55, 332, 75, 77, 333, 334, 335, 336, 78, 635, 636, 637, 638, 639, 649, 650, 651, 652] (by decide +kernel) (by decide +kernel)) (goodIn_sub (fun _ h => List.mem_append_right _ h) (by decide +kernel))
set_option maxRecDepth 20000 in
theorem gL_law_L_writeBoolean : GoodIn wsL_law (va_wsS RL 167 yL_writeBoolean wsL_writeBoolean) := goodIn_app (goodIn_of _ (by decide +kernel)) ggL_law_L_writeBoolean
set_option maxRecDepth 20000 in
theorem ggL_law_X3_writeBoolean : GoodIn wsL_law wsX3_writeBoolean := goodIn_r _ [340, 341, 342, 343, 5, 344, 89, 37, 163, 39, 40, 132, 133, 134, 135, 90, 193, 194, 195, 196, 38, 155, 156, 157, 158, 197, 198, 199, 91, 92, 93, 159, 160, 161, 162, 41, 281, 282, 283, 98, 99, 100, 640, 641, 642, 643, 644, 645, 646, 647] (by decide +kernel) (by decide +kernel)
set_option maxRecDepth 20000 in
theorem gL_law_X3_writeBoolean : GoodIn wsL_law (wsV RL 170 RX3 yX3_writeBoolean wsX3_writeBoolean) := goodIn_app (goodIn_of _ (by decide +kernel)) ggL_law_X3_writeBoolean
set_option maxRecDepth 20000 in
theorem ggL_law_L_writeByte : GoodIn wsL_law wsL_writeByte := goodIn_ca (goodIn_r _ [347, 116, 348, 349, 350, 2, 351, 122, 123, 124, 125, 126, 127, 18, 325, 326, 327, 328, 121, 175, 176, 177, 143, 144, 145, 146, 178, 179, 180, 59, 60, 61, 147, 148, 149, 150, 20, 26, 329, 330, 331, 55, 332, 75, 77, 333, 334, 335, 336, 78, 635, 636, 637, 638, 639, 649, 650, 651, 652] (by decide +kernel) (by decide +kernel)) (goodIn_sub (fun _ h => List.mem_append_right _ h) (by decide +kernel))
set_option maxRecDepth 20000 in
theorem gL_law_L_writeByte : GoodIn wsL_law (va_wsS RL 171 yL_writeByte wsL_writeByte) := goodIn_app (goodIn_of _ (by decide +kernel)) ggL_law_L_writeByte
set_option maxRecDepth 20000 in
theorem ggL_law_X3_writeByte : GoodIn wsL_law wsX3_writeByte := goodIn_r _ [355, 341, 342, 343, 5, 344, 89, 37, 163, 39, 40, 132, 133, 134, 135, 90, 193, 194, 195, 196, 38, 155, 156, 157, 158, 197, 198, 199, 91, 92, 93, 159, 160, 161, 162, 41, 281, 282, 283, 98, 99, 100, 640, 641, 642, 643, 644, 645, 646, 647] (by decide +kernel) (by decide +kernel)
set_option maxRecDepth 20000 in
theorem gL_law_X3_writeByte : GoodIn wsL_law (wsV RL 174 RX3 yX3_writeByte wsX3_writeByte) := goodIn_app (goodIn_of _ (by decide +kernel)) ggL_law_X3_writeByte
set_option maxRecDepth 20000 in
theorem ggL_law_L_writeChar : GoodIn wsL_law wsL_writeChar := goodIn_ca (goodIn_r _ [358, 116, 359, 360, 361, 2, 362, 122, 123, 124, 125, 126, 127, 18, 325, 326, 327, 328, 121, 175, 176, 177, 143, 144, 145, 146, 178, 179, 180, 59, 60, 61, 147, 148, 149, 150, 20, 26, 329, 330, 331, 55, 332, 75, 77, 333, 334, 335, 336, 78, 635, 636, 637, 638, 639, 649, 650, 651, 652] (by decide +kernel) (by decide +kernel)) (goodIn_sub (fun _ h => List.mem_append_right _ h) (by decide +kernel))
set_option maxRecDepth 20000 in
theorem gL_law_L_writeChar : GoodIn wsL_law (va_wsS RL 175 yL_writeChar wsL_writeChar) := goodIn_app (goodIn_of _ (by decide +kernel)) ggL_law_L_writeChar
set_option maxRecDepth 20000 in
theorem ggL_law_X3_writeChar : GoodIn wsL_law wsX3_writeChar := goodIn_r _ [366, 367, 341, 342, 343, 5, 344, 89, 37, 163, 39, 40, 132, 133, 134, 135, 90, 193, 194, 195, 196, 38, 155, 156, 157, 158, 197, 198, 199, 91, 92, 93, 159, 160, 161, 162, 41, 281, 282, 283, 98, 99, 100, 640, 641, 642, 643, 644, 645, 646, 647] (by decide +kernel) (by decide +kernel)
set_option maxRecDepth 20000 in
theorem gL_law_X3_writeChar : GoodIn wsL_law (wsV RL 177 RX3 yX3_writeChar wsX3_writeChar) := goodIn_app (goodIn_of _ (by decide +kernel)) ggL_law_X3_writeChar
set_option maxRecDepth 20000 in
theorem ggL_law_L_writeShort : GoodIn wsL_law wsL_writeShort := goodIn_ca (goodIn_r _ [370, 116, 371, 372, 373, 2, 374, 122, 123, 124, 125, 126, 127, 18, 325, 326, 327, 328, 121, 175, 176, 177, 143, 144, 145, 146, 178, 179, 180, 59, 60, 61, 147, 148, 149, 150, 20, 26, 329, 330, 331, 55, 332, 75, 77, 333, 334, 335, 336, 78, 635, 636, 637, 638, 639, 649, 650, 651, 652] (by decide +kernel) (by decide +kernel)) (goodIn_sub (fun _ h => List.mem_append_right _ h) (by decide +kernel))
set_option maxRecDepth 20000 in
theorem gL_law_L_writeShort : GoodIn wsL_law (va_wsS RL 178 yL_writeShort wsL_writeShort) := goodIn_app (goodIn_of _ (by decide +kernel)) ggL_law_L_writeShort
set_option maxRecDepth 20000 in
theorem ggL_law_X3_writeShort : GoodIn wsL_law wsX3_writeShort := goodIn_r _ [378, 341, 342, 343, 5, 344, 89, 37, 163, 39, 40, 132, 133, 134, 135, 90, 193, 194, 195, 196, 38, 155, 156, 157, 158, 197, 198, 199, 91, 92, 93, 159, 160, 161, 162, 41, 281, 282, 283, 98, 99, 100, 640, 641, 642, 643, 644, 645, 646, 647] (by decide +kernel) (by decide +kernel)
set_option maxRecDepth 20000 in
theorem gL_law_X3_writeShort : GoodIn wsL_law (wsV RL 180 RX3 yX3_writeShort wsX3_writeShort) := goodIn_app (goodIn_of _ (by decide +kernel)) ggL_law_X3_writeShort
set_option maxRecDepth 20000 in
theorem ggL_law_L_writeInt : GoodIn wsL_law wsL_writeInt := goodIn_ca (goodIn_r _ [381, 116, 382, 383, 384, 2, 385, 122, 123, 124, 125, 126, 127, 18, 325, 326, 327, 328, 121, 175, 176, 177, 143, 144, 145, 146, 178, 179, 180, 59, 60, 61, 147, 148, 149, 150, 20, 26, 329, 330, 331, 55, 332, 75, 77, 333, 334, 335, 336, 78, 635, 636, 637, 638, 639, 649, 650, 651, 652] (by decide +kernel) (by decide +kernel)) (goodIn_sub (fun _ h => List.mem_append_right _ h) (by decide +kernel))
set_option maxRecDepth 20000 in
theorem gL_law_L_writeInt : GoodIn wsL_law (va_wsS RL 181 yL_writeInt wsL_writeInt) := goodIn_app (goodIn_of _ (by decide +kernel)) ggL_law_L_writeInt
set_option maxRecDepth 20000 in
theorem ggL_law_X3_writeInt : GoodIn wsL_law wsX3_writeInt := goodIn_r _ [389, 341, 342, 343, 5, 344, 89, 37, 163, 39, 40, 132, 133, 134, 135, 90, 193, 194, 195, 196, 38, 155, 156, 157, 158, 197, 198, 199, 91, 92, 93, 159, 160, 161, 162, 41, 281, 282, 283, 98, 99, 100, 640, 641, 642, 643, 644, 645, 646, 647] (by decide +kernel) (by decide +kernel)
set_option maxRecDepth 20000 in
theorem gL_law_X3_writeInt : GoodIn wsL_law (wsV RL 183 RX3 yX3_writeInt wsX3_writeInt) := goodIn_app (goodIn_of _ (by decide +kernel)) ggL_law_X3_writeInt
set_option maxRecDepth 20000 in
theorem ggL_law_L_writeLong : GoodIn wsL_law wsL_writeLong := goodIn_ca (goodIn_r _ [392, 116, 393, 394, 395, 2, 396, 122, 123, 124, 125, 126, 127, 18, 325, 326, 327, 328, 121, 175, 176, 177, 143, 144, 145, 146, 178, 179, 180, 59, 60, 61, 147, 148, 149, 150, 20, 26, 329, 330, 331, 55, 332, 75, 77, 333, 334, 335, 336, 78, 635, 636, 637, 638, 639, 649, 650, 651, 652] (by decide +kernel) (by decide +kernel)) (goodIn_sub (fun _ h => List.mem_append_right _ h) (by decide +kernel))
set_option maxRecDepth 20000 in
theorem gL_law_L_writeLong : GoodIn wsL_law (va_wsS RL 186 yL_writeLong wsL_writeLong) := goodIn_app (goodIn_of _ (by decide +kernel)) ggL_law_L_writeLong
set_option maxRecDepth 20000 in
theorem ggL_law_X3_writeLong : GoodIn wsL_law wsX3_writeLong := goodIn_r _ [400, 341, 342, 343, 5, 344, 89, 37, 163, 39, 40, 132, 133, 134, 135, 90, 193, 194, 195, 196, 38, 155, 156, 157, 158, 197, 198, 199, 91, 92, 93, 159, 160, 161, 162, 41, 281, 282, 283, 98, 99, 100, 640, 641, 642, 643, 644, 645, 646, 647] (by decide +kernel) (by decide +kernel)
set_option maxRecDepth 20000 in
theorem gL_law_X3_writeLong : GoodIn wsL_law (wsV RL 189 RX3 yX3_writeLong wsX3_writeLong) := goodIn_app (goodIn_of _ (by decide +kernel)) ggL_law_X3_writeLong
set_option maxRecDepth 20000 in
theorem ggL_law_L_writeFloat : GoodIn wsL_law wsL_writeFloat := goodIn_ca (goodIn_r _ [403, 116, 404, 405, 406, 2, 407, 122, 123, 124, 125, 126, 127, 18, 408, 409, 410, 411, 412, 413, 414, 415, 416, 417, 418, 121, 175, 176, 177, 143, 144, 145, 146, 178, 179, 180, 59, 60, 61, 147, 148, 149, 150, 20, 26, 419, 334, 335, 55, 336, 78, 635, 636, 637, 638, 639, 649, 650, 651, 652] (by decide +kernel) (by decide +kernel)) (goodIn_sub (fun _ h => List.mem_append_right _ h) (by decide +kernel))
set_option maxRecDepth 20000 in
theorem gL_law_L_writeFloat : GoodIn wsL_law (va_wsS RL 191 yL_writeFloat wsL_writeFloat) := goodIn_app (goodIn_of _ (by decide +kernel)) ggL_law_L_writeFloat
set_option maxRecDepth 20000 in
theorem ggL_law_X3_writeFloat : GoodIn wsL_law wsX3_writeFloat := goodIn_r _ [423, 341, 342, 343, 5, 344, 89, 37, 163, 39, 40, 132, 133, 134, 135, 90, 193, 194, 195, 196, 38, 155, 156, 157, 158, 197, 198, 199, 91, 92, 93, 159, 160, 161, 162, 41, 281, 282, 283, 98, 99, 100, 640, 641, 642, 643, 644, 645, 646, 647] (by decide +kernel) (by decide +kernel)
set_option maxRecDepth 20000 in
theorem gL_law_X3_writeFloat : GoodIn wsL_law (wsV RL 194 RX3 yX3_writeFloat wsX3_writeFloat) := goodIn_app (goodIn_of _ (by decide +kernel)) ggL_law_X3_writeFloat
set_option maxRecDepth 20000 in
theorem ggL_law_L_writeDouble : GoodIn wsL_law wsL_writeDouble := goodIn_ca (goodIn_r _ [426, 116, 427, 428, 429, 2, 430, 122, 123, 124, 125, 126, 127, 18, 415, 416, 417, 418, 121, 175, 176, 177, 143, 144, 145, 146, 178, 179, 180, 59, 60, 61, 147, 148, 149, 150, 20, 26, 419, 334, 335, 55, 336, 78, 635, 636, 637, 638, 639, 649, 650, 651, 652] (by decide +kernel) (by decide +kernel)) (goodIn_sub (fun _ h => List.mem_append_right _ h) (by decide +kernel))
set_option maxRecDepth 20000 in
theorem gL_law_L_writeDouble : GoodIn wsL_law (va_wsS RL 197 yL_writeDouble wsL_writeDouble) := goodIn_app (goodIn_of _ (by decide +kernel)) ggL_law_L_writeDouble
set_option maxRecDepth 20000 in
theorem ggL_law_X3_writeDouble : GoodIn wsL_law wsX3_writeDouble := goodIn_r _ [434, 341, 342, 343, 5, 344, 89, 37, 163, 39, 40, 132, 133, 134, 135, 90, 193, 194, 195, 196, 38, 155, 156, 157, 158, 197, 198, 199, 91, 92, 93, 159, 160, 161, 162, 41, 281, 282, 283, 98, 99, 100, 640, 641, 642, 643, 644, 645, 646, 647] (by decide +kernel) (by decide +kernel)
set_option maxRecDepth 20000 in
theorem gL_law_X3_writeDouble : GoodIn wsL_law (wsV RL 200 RX3 yX3_writeDouble wsX3_writeDouble) := goodIn_app (goodIn_of _ (by decide +kernel)) ggL_law_X3_writeDouble
set_option maxRecDepth 20000 in
theorem ggL_law_L_writeAny : GoodIn wsL_law wsL_writeAny := goodIn_ca (goodIn_ca (goodIn_r _ [437, 116, 46, 438, 439, 440, 2, 441, 122, 123, 124, 125, 126, 127, 18, 442, 443, 444, 52, 53, 59, 60, 61, 415, 416, 417, 418, 121, 175, 176, 177, 143, 144, 145, 146, 178, 179, 180, 147, 148, 149, 150, 20, 26, 419, 334, 335, 55, 336, 78, 445, 446, 447, 325, 326, 327, 328, 329, 330, 331, 332, 75, 77, 333, 635, 636, 637, 638, 639, 649, 650, 651, 652] (by decide +kernel) (by decide +kernel)) (goodIn_sub (fun _ h => List.mem_append_right _ h) (by decide +kernel))) (goodIn_sub (fun _ h => List.mem_append_left _ (List.mem_append_left _ (List.mem_append_right _ h))) (by decide +kernel))
set_option maxRecDepth 20000 in
theorem gL_law_L_writeAny : GoodIn wsL_law (va_wsS RL 201 yL_writeAny wsL_writeAny) := goodIn_app (goodIn_of _ (by decide +kernel)) ggL_law_L_writeAny
set_option maxRecDepth 20000 in
theorem ggL_law_X3_writeAny : GoodIn wsL_law wsX3_writeAny := goodIn_r _ [451, 89, 132, 133, 134, 5, 135, 90, 94, 95, 96, 97, 452, 338, 339, 340, 341, 342, 343, 344, 37, 163, 39, 40, 193, 194, 195, 196, 38, 155, 156, 157, 158, 197, 198, 199, 91, 92, 93, 159, 160, 161, 162, 41, 281, 282, 283, 98, 99, 100, 453, 353, 354, 355, 454, 364, 365, 366, 367, 455, 376, 377, 378, 456, 387, 388, 389, 457, 398, 399, 400, 458, 421, 422, 423, 459, 432, 433, 434, 640, 641, 642, 643, 644, 645, 646, 647] (by decide +kernel) (by decide +kernel)
set_option maxRecDepth 20000 in
theorem gL_law_X3_writeAny : GoodIn wsL_law (wsV RL 204 RX3 yX3_writeAny wsX3_writeAny) := goodIn_app (goodIn_of _ (by decide +kernel)) ggL_law_X3_writeAny
set_option maxRecDepth 20000 in
theorem ggL_law_L_copy : GoodIn wsL_law wsL_copy := goodIn_ca (goodIn_r _ [462, 116, 463, 464, 465, 2, 466, 143, 122, 123, 124, 125, 126, 127, 18, 467, 468, 469, 121, 470, 471, 472, 473, 474, 475, 55, 476, 77, 477, 478, 479, 480, 78, 147, 148, 149, 150, 20, 26, 649, 650, 651, 652, 635, 636, 637, 638, 639] (by decide +kernel) (by decide +kernel)) (goodIn_sub (fun _ h => List.mem_append_right _ h) (by decide +kernel))
set_option maxRecDepth 20000 in
theorem gL_law_L_copy : GoodIn wsL_law (va_wsS RL 205 yL_copy wsL_copy) := goodIn_app (goodIn_of _ (by decide +kernel)) ggL_law_L_copy
set_option maxRecDepth 20000 in
theorem ggL_law_X3_copy : GoodIn wsL_law wsX3_copy := goodIn_r _ [484, 89, 37, 38, 163, 39, 40, 132, 133, 134, 5, 135, 90, 94, 95, 96, 97, 159, 160, 161, 162, 41, 98, 99, 100, 640, 641, 642, 643, 644, 645, 646, 647] (by decide +kernel) (by decide +kernel)
set_option maxRecDepth 20000 in
theorem gL_law_X3_copy : GoodIn wsL_law (wsV RL 208 RX3 yX3_copy wsX3_copy) := goodIn_app (goodIn_of _ (by decide +kernel)) ggL_law_X3_copy
set_option maxRecDepth 20000 in
theorem ggL_law_L_total : GoodIn wsL_law wsL_total := goodIn_ca (goodIn_r _ [487, 116, 488, 489, 490, 2, 491, 122, 123, 124, 125, 126, 127, 18, 144, 145, 146, 121, 147, 148, 149, 150, 20, 26, 492, 493, 494, 55, 495, 76, 496, 296, 297, 298, 75, 79, 80, 266, 267, 268, 269, 78, 276, 182, 183, 184, 77, 497, 498, 499, 500, 501, 502, 503, 411, 412, 413, 414, 635, 636, 637, 638, 639, 649, 650, 651, 652] (by decide +kernel) (by decide +kernel)) (goodIn_sub (fun _ h => List.mem_append_right _ h) (by decide +kernel))
set_option maxRecDepth 20000 in
theorem gL_law_L_total : GoodIn wsL_law (va_wsS RL 209 yL_total wsL_total) := goodIn_app (goodIn_of _ (by decide +kernel)) ggL_law_L_total
set_option maxRecDepth 20000 in
theorem ggL_law_X3_total : GoodIn wsL_law wsX3_total := goodIn_r _ [507, 89, 38, 132, 133, 134, 5, 135, 90, 155, 156, 157, 158, 37, 159, 160, 161, 162, 163, 41, 303, 304, 305, 306, 40, 39, 281, 282, 283, 98, 99, 100, 640, 641, 642, 643, 644, 645, 646, 647] (by decide +kernel) (by decide +kernel)
set_option maxRecDepth 20000 in
theorem gL_law_X3_total : GoodIn wsL_law (wsV RL 212 RX3 yX3_total wsX3_total) := goodIn_app (goodIn_of _ (by decide +kernel)) ggL_law_X3_total
set_option maxRecDepth 20000 in
theorem ggL_law_L_widened : GoodIn wsL_law wsL_widened := goodIn_ca (goodIn_ca (goodIn_ca (goodIn_r _ [510, 116, 46, 47, 511, 512, 513, 2, 514, 121, 17, 54, 55, 143, 122, 123, 124, 125, 126, 127, 18, 442, 443, 444, 52, 53, 59, 60, 61, 65, 66, 67, 68, 69, 70, 25, 144, 145, 146, 178, 179, 180, 147, 148, 149, 150, 20, 26, 71, 72, 73, 74, 15, 16, 75, 76, 6, 77, 7, 78, 63, 64, 79, 80, 515, 516, 517, 518, 266, 267, 268, 269, 333, 334, 335, 336, 276, 182, 183, 184, 519, 330, 331, 332, 81, 82, 83, 84, 649, 650, 651, 652, 635, 636, 637, 638, 639] (by decide +kernel) (by decide +kernel)) (goodIn_sub (fun _ h => List.mem_append_right _ h) (by decide +kernel))) (goodIn_sub (fun _ h => List.mem_append_left _ (List.mem_append_left _ (List.mem_append_right _ h))) (by decide +kernel))) (goodIn_sub (fun _ h => List.mem_append_left _ (List.mem_append_right _ h)) (by decide +kernel))
set_option maxRecDepth 20000 in
theorem gL_law_L_widened : GoodIn wsL_law (va_wsS RL 213 yL_widened wsL_widened) := goodIn_app (goodIn_of _ (by decide +kernel)) ggL_law_L_widened
set_option maxRecDepth 20000 in
theorem ggL_law_X3_widened : GoodIn wsL_law wsX3_widened := goodIn_r _ [523, 89, 90, 37, 38, 39, 40, 132, 133, 134, 5, 135, 94, 95, 96, 97, 91, 92, 93, 155, 156, 157, 158, 197, 198, 199, 159, 160, 161, 162, 163, 41, 524, 86, 87, 88, 98, 99, 100, 281, 282, 283, 640, 641, 642, 643, 644, 645, 646, 647] (by decide +kernel) (by decide +kernel)
set_option maxRecDepth 20000 in
theorem gL_law_X3_widened : GoodIn wsL_law (wsV RL 215 RX3 yX3_widened wsX3_widened) := goodIn_app (goodIn_of _ (by decide +kernel)) ggL_law_X3_widened
set_option maxRecDepth 20000 in
theorem ggL_law_X2_code : GoodIn wsL_law wsX2_code := goodIn_r _ [528, 26, 635, 636, 637, 638, 639] (by decide +kernel) (by decide +kernel)
set_option maxRecDepth 20000 in
theorem gL_law_X2_code : GoodIn wsL_law (wsV RL 216 RX2 yX2_code wsX2_code) := goodIn_app (goodIn_of _ (by decide +kernel)) ggL_law_X2_code
set_option maxRecDepth 20000 in
theorem ggL_law_X3_code : GoodIn wsL_law wsX3_code := goodIn_r _ [532, 89, 163, 640, 641, 642, 643, 644, 645, 646, 647] (by decide +kernel) (by decide +kernel)
set_option maxRecDepth 20000 in
theorem gL_law_X3_code : GoodIn wsL_law (wsV RL 219 RX3 yX3_code wsX3_code) := goodIn_app (goodIn_of _ (by decide +kernel)) ggL_law_X3_code
set_option maxRecDepth 20000 in
theorem ggL_law_L_count : GoodIn wsL_law wsL_count := goodIn_ca (goodIn_r _ [535, 116, 536, 537, 538, 2, 539, 126, 127, 20, 635, 636, 637, 638, 639] (by decide +kernel) (by decide +kernel)) (goodIn_sub (fun _ h => List.mem_append_right _ h) (by decide +kernel))
set_option maxRecDepth 20000 in
theorem gL_law_L_count : GoodIn wsL_law (va_wsS RL 220 yL_count wsL_count) := goodIn_app (goodIn_of _ (by decide +kernel)) ggL_law_L_count
set_option maxRecDepth 20000 in
theorem ggL_law_X3_count : GoodIn wsL_law wsX3_count := goodIn_r _ [543, 89, 41, 94, 95, 96, 5, 97, 640, 641, 642, 643, 644, 645, 646, 647] (by decide +kernel) (by decide +kernel)
set_option maxRecDepth 20000 in
theorem gL_law_X3_count : GoodIn wsL_law (wsV RL 222 RX3 yX3_count wsX3_count) := goodIn_app (goodIn_of _ (by decide +kernel)) ggL_law_X3_count
set_option maxRecDepth 20000 in
theorem ggL_law_L_hasCells : GoodIn wsL_law wsL_hasCells := goodIn_ca (goodIn_r _ [546, 116, 547, 548, 549, 2, 550, 551, 552, 553, 126, 127, 56, 57, 58, 59, 60, 61] (by decide +kernel) (by decide +kernel)) (goodIn_sub (fun _ h => List.mem_append_right _ h) (by decide +kernel))
set_option maxRecDepth 20000 in
theorem gL_law_L_hasCells : GoodIn wsL_law (va_wsS RL 223 yL_hasCells wsL_hasCells) := goodIn_app (goodIn_of _ (by decide +kernel)) ggL_law_L_hasCells
set_option maxRecDepth 20000 in
theorem ggL_law_X3_hasCells : GoodIn wsL_law wsX3_hasCells := goodIn_r _ [557, 89, 558, 559, 5, 560, 91, 92, 93, 640, 641, 642, 643, 644, 645, 646, 647] (by decide +kernel) (by decide +kernel)
set_option maxRecDepth 20000 in
theorem gL_law_X3_hasCells : GoodIn wsL_law (wsV RL 225 RX3 yX3_hasCells wsX3_hasCells) := goodIn_app (goodIn_of _ (by decide +kernel)) ggL_law_X3_hasCells
set_option maxRecDepth 20000 in
theorem ggL_law_L_isNumber : GoodIn wsL_law wsL_isNumber := goodIn_ca (goodIn_r _ [563, 116, 564, 565, 566, 2, 567, 551, 552, 553, 126, 127, 56, 57, 58] (by decide +kernel) (by decide +kernel)) (goodIn_sub (fun _ h => List.mem_append_right _ h) (by decide +kernel))
set_option maxRecDepth 20000 in
theorem gL_law_L_isNumber : GoodIn wsL_law (va_wsS RL 226 yL_isNumber wsL_isNumber) := goodIn_app (goodIn_of _ (by decide +kernel)) ggL_law_L_isNumber
set_option maxRecDepth 20000 in
theorem ggL_law_X3_isNumber : GoodIn wsL_law wsX3_isNumber := goodIn_r _ [571, 89, 558, 559, 5, 560, 91, 92, 93, 640, 641, 642, 643, 644, 645, 646, 647] (by decide +kernel) (by decide +kernel)
set_option maxRecDepth 20000 in
theorem gL_law_X3_isNumber : GoodIn wsL_law (wsV RL 228 RX3 yX3_isNumber wsX3_isNumber) := goodIn_app (goodIn_of _ (by decide +kernel)) ggL_law_X3_isNumber
set_option maxRecDepth 20000 in
theorem ggL_law_L_canWiden : GoodIn wsL_law wsL_canWiden := goodIn_ca (goodIn_r _ [574, 116, 575, 576, 577, 2, 578, 551, 552, 553, 126, 127, 56, 57, 58, 178, 179, 180, 59, 60, 61] (by decide +kernel) (by decide +kernel)) (goodIn_sub (fun _ h => List.mem_append_right _ h) (by decide +kernel))
set_option maxRecDepth 20000 in
theorem gL_law_L_canWiden : GoodIn wsL_law (va_wsS RL 229 yL_canWiden wsL_canWiden) := goodIn_app (goodIn_of _ (by decide +kernel)) ggL_law_L_canWiden
set_option maxRecDepth 20000 in
theorem ggL_law_X3_canWiden : GoodIn wsL_law wsX3_canWiden := goodIn_r _ [582, 89, 558, 559, 5, 560, 197, 198, 199, 91, 92, 93, 640, 641, 642, 643, 644, 645, 646, 647] (by decide +kernel) (by decide +kernel)
set_option maxRecDepth 20000 in
theorem gL_law_X3_canWiden : GoodIn wsL_law (wsV RL 231 RX3 yX3_canWiden wsX3_canWiden) := goodIn_app (goodIn_of _ (by decide +kernel)) ggL_law_X3_canWiden
set_option maxRecDepth 20000 in
theorem ggL_law_X2_digest : GoodIn wsL_law wsX2_digest := goodIn_ca (goodIn_r _ [586, 587, 25, 20, 588, 589, 2, 590, 591, 122, 123, 124, 125, 126, 127, 18, 592, 593, 594, 595, 121, 143, 596, 597, 24, 598, 599, 600, 23, 601, 602, 603, 604, 605, 606, 607, 608, 609, 610, 500, 501, 502, 503, 611, 612, 613, 614, 31, 32, 615, 616, 635, 636, 637, 638, 639, 649, 650, 651, 652, 648] (by decide +kernel) (by decide +kernel)) (goodIn_sub (fun _ h => List.mem_append_right _ h) (by decide +kernel))
set_option maxRecDepth 20000 in
theorem gL_law_X2_digest : GoodIn wsL_law (wsV RL 232 RX2 yX2_digest wsX2_digest) := goodIn_app (goodIn_of _ (by decide +kernel)) ggL_law_X2_digest
set_option maxRecDepth 20000 in
theorem ggL_law_X3_digest : GoodIn wsL_law wsX3_digest := goodIn_r _ [620, 89, 621, 90, 622, 37, 38, 40, 39, 41, 91, 92, 5, 93, 281, 282, 283, 98, 99, 100, 623, 624, 625, 626, 627, 628, 629, 630, 631, 632, 633, 634, 640, 641, 642, 643, 644, 645, 646, 647] (by decide +kernel) (by decide +kernel)
set_option maxRecDepth 20000 in
theorem gL_law_X3_digest : GoodIn wsL_law (wsV RL 236 RX3 yX3_digest wsX3_digest) := goodIn_app (goodIn_of _ (by decide +kernel)) ggL_law_X3_digest
theorem dL_law_0 : decode cL_law 0 = .ok (.new 8, 3) := by decide +kernel
theorem dL_law_3 : decode cL_law 3 = .ok (.dup, 1) := by decide +kernel
theorem dL_law_4 : decode cL_law 4 = .ok (.invokespecial 114, 3) := by decide +kernel
theorem dL_law_7 : decode cL_law 7 = .ok (.astore_n 1, 1) := by decide +kernel
theorem dL_law_8 : decode cL_law 8 = .ok (.new 115, 3) := by decide +kernel
theorem dL_law_11 : decode cL_law 11 = .ok (.dup, 1) := by decide +kernel
theorem dL_law_12 : decode cL_law 12 = .ok (.invokespecial 117, 3) := by decide +kernel
theorem dL_law_15 : decode cL_law 15 = .ok (.astore_n 2, 1) := by decide +kernel
theorem dL_law_16 : decode cL_law 16 = .ok (.iconst 1, 1) := by decide +kernel
theorem dL_law_17 : decode cL_law 17 = .ok (.newarray .long, 2) := by decide +kernel
theorem dL_law_19 : decode cL_law 19 = .ok (.astore_n 3, 1) := by decide +kernel
theorem dL_law_20 : decode cL_law 20 = .ok (.iconst 1, 1) := by decide +kernel
theorem dL_law_21 : decode cL_law 21 = .ok (.newarray .double, 2) := by decide +kernel
theorem dL_law_23 : decode cL_law 23 = .ok (.astore 4, 2) := by decide +kernel
theorem dL_law_25 : decode cL_law 25 = .ok (.iconst 0, 1) := by decide +kernel
theorem dL_law_26 : decode cL_law 26 = .ok (.istore 5, 2) := by decide +kernel
theorem dL_law_28 : decode cL_law 28 = .ok (.iload 5, 2) := by decide +kernel
theorem dL_law_30 : decode cL_law 30 = .ok (.aload_n 0, 1) := by decide +kernel
theorem dL_law_31 : decode cL_law 31 = .ok (.arraylength, 1) := by decide +kernel
theorem dL_law_32 : decode cL_law 32 = .ok (.bipush 6, 2) := by decide +kernel
theorem dL_law_34 : decode cL_law 34 = .ok (.isub, 1) := by decide +kernel
theorem dL_law_35 : decode cL_law 35 = .ok (.if_icmp .gt 2361, 3) := by decide +kernel
theorem dL_law_38 : decode cL_law 38 = .ok (.aload_n 0, 1) := by decide +kernel
theorem dL_law_39 : decode cL_law 39 = .ok (.iload 5, 2) := by decide +kernel
theorem dL_law_41 : decode cL_law 41 = .ok (.iaload, 1) := by decide +kernel
theorem dL_law_42 : decode cL_law 42 = .ok (.bipush 31, 2) := by decide +kernel
theorem dL_law_44 : decode cL_law 44 = .ok (.iand, 1) := by decide +kernel
theorem dL_law_45 : decode cL_law 45 = .ok (.tableswitch 2345 0 30 #[139, 207, 220, 276, 332, 407, 475, 543, 611, 679, 746, 836, 925, 1014, 1110, 1190, 1270, 1350, 1430, 1542, 1630, 1720, 1812, 1916, 1993, 2061, 2074, 2130, 2193, 2256, 2331], 139) := by decide +kernel
theorem dL_law_184 : decode cL_law 184 = .ok (.aload_n 1, 1) := by decide +kernel
theorem dL_law_185 : decode cL_law 185 = .ok (.aload_n 0, 1) := by decide +kernel
theorem dL_law_186 : decode cL_law 186 = .ok (.iload 5, 2) := by decide +kernel
theorem dL_law_188 : decode cL_law 188 = .ok (.iconst 1, 1) := by decide +kernel
theorem dL_law_189 : decode cL_law 189 = .ok (.iadd, 1) := by decide +kernel
theorem dL_law_190 : decode cL_law 190 = .ok (.iaload, 1) := by decide +kernel
theorem dL_law_191 : decode cL_law 191 = .ok (.aload_n 0, 1) := by decide +kernel
theorem dL_law_192 : decode cL_law 192 = .ok (.iload 5, 2) := by decide +kernel
theorem dL_law_194 : decode cL_law 194 = .ok (.iconst 2, 1) := by decide +kernel
theorem dL_law_195 : decode cL_law 195 = .ok (.iadd, 1) := by decide +kernel
theorem dL_law_196 : decode cL_law 196 = .ok (.iaload, 1) := by decide +kernel
theorem dL_law_197 : decode cL_law 197 = .ok (.aload_n 3, 1) := by decide +kernel
theorem dL_law_198 : decode cL_law 198 = .ok (.invokestatic 118, 3) := by decide +kernel
theorem dL_law_201 : decode cL_law 201 = .ok (.istore 6, 2) := by decide +kernel
theorem dL_law_203 : decode cL_law 203 = .ok (.aload_n 2, 1) := by decide +kernel
theorem dL_law_204 : decode cL_law 204 = .ok (.aload_n 0, 1) := by decide +kernel
theorem dL_law_205 : decode cL_law 205 = .ok (.iload 5, 2) := by decide +kernel
theorem dL_law_207 : decode cL_law 207 = .ok (.iconst 1, 1) := by decide +kernel
theorem dL_law_208 : decode cL_law 208 = .ok (.iadd, 1) := by decide +kernel
theorem dL_law_209 : decode cL_law 209 = .ok (.iaload, 1) := by decide +kernel
theorem dL_law_210 : decode cL_law 210 = .ok (.aload_n 0, 1) := by decide +kernel
theorem dL_law_211 : decode cL_law 211 = .ok (.iload 5, 2) := by decide +kernel
theorem dL_law_213 : decode cL_law 213 = .ok (.iconst 2, 1) := by decide +kernel
theorem dL_law_214 : decode cL_law 214 = .ok (.iadd, 1) := by decide +kernel
theorem dL_law_215 : decode cL_law 215 = .ok (.iaload, 1) := by decide +kernel
theorem dL_law_216 : decode cL_law 216 = .ok (.invokevirtual 123, 3) := by decide +kernel
theorem dL_law_219 : decode cL_law 219 = .ok (.istore 7, 2) := by decide +kernel
theorem dL_law_221 : decode cL_law 221 = .ok (.aload_n 2, 1) := by decide +kernel
theorem dL_law_222 : decode cL_law 222 = .ok (.invokevirtual 124, 3) := by decide +kernel
theorem dL_law_225 : decode cL_law 225 = .ok (.iload 6, 2) := by decide +kernel
theorem dL_law_227 : decode cL_law 227 = .ok (.if_icmp .eq 5, 3) := by decide +kernel
theorem dL_law_230 : decode cL_law 230 = .ok (.iconst 0, 1) := by decide +kernel
theorem dL_law_231 : decode cL_law 231 = .ok (.ireturn, 1) := by decide +kernel
theorem dL_law_232 : decode cL_law 232 = .ok (.iload 6, 2) := by decide +kernel
theorem dL_law_234 : decode cL_law 234 = .ok (.ifCond .ne 15, 3) := by decide +kernel
theorem dL_law_237 : decode cL_law 237 = .ok (.aload_n 3, 1) := by decide +kernel
theorem dL_law_238 : decode cL_law 238 = .ok (.iconst 0, 1) := by decide +kernel
theorem dL_law_239 : decode cL_law 239 = .ok (.laload, 1) := by decide +kernel
theorem dL_law_240 : decode cL_law 240 = .ok (.iload 7, 2) := by decide +kernel
theorem dL_law_242 : decode cL_law 242 = .ok (.i2l, 1) := by decide +kernel
theorem dL_law_243 : decode cL_law 243 = .ok (.lcmp, 1) := by decide +kernel
theorem dL_law_244 : decode cL_law 244 = .ok (.ifCond .eq 5, 3) := by decide +kernel
theorem dL_law_247 : decode cL_law 247 = .ok (.iconst 0, 1) := by decide +kernel
theorem dL_law_248 : decode cL_law 248 = .ok (.ireturn, 1) := by decide +kernel
theorem dL_law_249 : decode cL_law 249 = .ok (.goto 2141, 3) := by decide +kernel
theorem dL_law_252 : decode cL_law 252 = .ok (.aload_n 1, 1) := by decide +kernel
theorem dL_law_253 : decode cL_law 253 = .ok (.invokevirtual 128, 3) := by decide +kernel
theorem dL_law_256 : decode cL_law 256 = .ok (.aload_n 2, 1) := by decide +kernel
theorem dL_law_257 : decode cL_law 257 = .ok (.invokevirtual 131, 3) := by decide +kernel
theorem dL_law_260 : decode cL_law 260 = .ok (.if_icmp .eq 2130, 3) := by decide +kernel
theorem dL_law_263 : decode cL_law 263 = .ok (.iconst 0, 1) := by decide +kernel
theorem dL_law_264 : decode cL_law 264 = .ok (.ireturn, 1) := by decide +kernel
theorem dL_law_265 : decode cL_law 265 = .ok (.aload_n 1, 1) := by decide +kernel
theorem dL_law_266 : decode cL_law 266 = .ok (.aload_n 0, 1) := by decide +kernel
theorem dL_law_267 : decode cL_law 267 = .ok (.iload 5, 2) := by decide +kernel
theorem dL_law_269 : decode cL_law 269 = .ok (.iconst 1, 1) := by decide +kernel
theorem dL_law_270 : decode cL_law 270 = .ok (.iadd, 1) := by decide +kernel
theorem dL_law_271 : decode cL_law 271 = .ok (.iaload, 1) := by decide +kernel
theorem dL_law_272 : decode cL_law 272 = .ok (.aload_n 3, 1) := by decide +kernel
theorem dL_law_273 : decode cL_law 273 = .ok (.invokestatic 132, 3) := by decide +kernel
theorem dL_law_276 : decode cL_law 276 = .ok (.istore 6, 2) := by decide +kernel
theorem dL_law_278 : decode cL_law 278 = .ok (.aload_n 2, 1) := by decide +kernel
theorem dL_law_279 : decode cL_law 279 = .ok (.aload_n 0, 1) := by decide +kernel
theorem dL_law_280 : decode cL_law 280 = .ok (.iload 5, 2) := by decide +kernel
theorem dL_law_282 : decode cL_law 282 = .ok (.iconst 1, 1) := by decide +kernel
theorem dL_law_283 : decode cL_law 283 = .ok (.iadd, 1) := by decide +kernel
theorem dL_law_284 : decode cL_law 284 = .ok (.iaload, 1) := by decide +kernel
theorem dL_law_285 : decode cL_law 285 = .ok (.invokevirtual 135, 3) := by decide +kernel
theorem dL_law_288 : decode cL_law 288 = .ok (.istore 7, 2) := by decide +kernel
theorem dL_law_290 : decode cL_law 290 = .ok (.aload_n 2, 1) := by decide +kernel
theorem dL_law_291 : decode cL_law 291 = .ok (.invokevirtual 124, 3) := by decide +kernel
theorem dL_law_294 : decode cL_law 294 = .ok (.iload 6, 2) := by decide +kernel
theorem dL_law_296 : decode cL_law 296 = .ok (.if_icmp .eq 5, 3) := by decide +kernel
theorem dL_law_299 : decode cL_law 299 = .ok (.iconst 0, 1) := by decide +kernel
theorem dL_law_300 : decode cL_law 300 = .ok (.ireturn, 1) := by decide +kernel
theorem dL_law_301 : decode cL_law 301 = .ok (.iload 6, 2) := by decide +kernel
theorem dL_law_303 : decode cL_law 303 = .ok (.ifCond .ne 15, 3) := by decide +kernel
theorem dL_law_306 : decode cL_law 306 = .ok (.aload_n 3, 1) := by decide +kernel
theorem dL_law_307 : decode cL_law 307 = .ok (.iconst 0, 1) := by decide +kernel
theorem dL_law_308 : decode cL_law 308 = .ok (.laload, 1) := by decide +kernel
theorem dL_law_309 : decode cL_law 309 = .ok (.iload 7, 2) := by decide +kernel
theorem dL_law_311 : decode cL_law 311 = .ok (.i2l, 1) := by decide +kernel
theorem dL_law_312 : decode cL_law 312 = .ok (.lcmp, 1) := by decide +kernel
theorem dL_law_313 : decode cL_law 313 = .ok (.ifCond .eq 5, 3) := by decide +kernel
theorem dL_law_316 : decode cL_law 316 = .ok (.iconst 0, 1) := by decide +kernel
theorem dL_law_317 : decode cL_law 317 = .ok (.ireturn, 1) := by decide +kernel
theorem dL_law_318 : decode cL_law 318 = .ok (.goto 2072, 3) := by decide +kernel
theorem dL_law_321 : decode cL_law 321 = .ok (.aload_n 1, 1) := by decide +kernel
theorem dL_law_322 : decode cL_law 322 = .ok (.aload_n 0, 1) := by decide +kernel
theorem dL_law_323 : decode cL_law 323 = .ok (.iload 5, 2) := by decide +kernel
theorem dL_law_325 : decode cL_law 325 = .ok (.iconst 1, 1) := by decide +kernel
theorem dL_law_326 : decode cL_law 326 = .ok (.iadd, 1) := by decide +kernel
theorem dL_law_327 : decode cL_law 327 = .ok (.iaload, 1) := by decide +kernel
theorem dL_law_328 : decode cL_law 328 = .ok (.aload_n 3, 1) := by decide +kernel
theorem dL_law_329 : decode cL_law 329 = .ok (.invokestatic 136, 3) := by decide +kernel
theorem dL_law_332 : decode cL_law 332 = .ok (.istore 6, 2) := by decide +kernel
theorem dL_law_334 : decode cL_law 334 = .ok (.aload_n 2, 1) := by decide +kernel
theorem dL_law_335 : decode cL_law 335 = .ok (.aload_n 0, 1) := by decide +kernel
theorem dL_law_336 : decode cL_law 336 = .ok (.iload 5, 2) := by decide +kernel
theorem dL_law_338 : decode cL_law 338 = .ok (.iconst 1, 1) := by decide +kernel
theorem dL_law_339 : decode cL_law 339 = .ok (.iadd, 1) := by decide +kernel
theorem dL_law_340 : decode cL_law 340 = .ok (.iaload, 1) := by decide +kernel
theorem dL_law_341 : decode cL_law 341 = .ok (.invokevirtual 138, 3) := by decide +kernel
theorem dL_law_344 : decode cL_law 344 = .ok (.istore 7, 2) := by decide +kernel
theorem dL_law_346 : decode cL_law 346 = .ok (.aload_n 2, 1) := by decide +kernel
theorem dL_law_347 : decode cL_law 347 = .ok (.invokevirtual 124, 3) := by decide +kernel
theorem dL_law_350 : decode cL_law 350 = .ok (.iload 6, 2) := by decide +kernel
theorem dL_law_352 : decode cL_law 352 = .ok (.if_icmp .eq 5, 3) := by decide +kernel
theorem dL_law_355 : decode cL_law 355 = .ok (.iconst 0, 1) := by decide +kernel
theorem dL_law_356 : decode cL_law 356 = .ok (.ireturn, 1) := by decide +kernel
theorem dL_law_357 : decode cL_law 357 = .ok (.iload 6, 2) := by decide +kernel
theorem dL_law_359 : decode cL_law 359 = .ok (.ifCond .ne 15, 3) := by decide +kernel
theorem dL_law_362 : decode cL_law 362 = .ok (.aload_n 3, 1) := by decide +kernel
theorem dL_law_363 : decode cL_law 363 = .ok (.iconst 0, 1) := by decide +kernel
theorem dL_law_364 : decode cL_law 364 = .ok (.laload, 1) := by decide +kernel
theorem dL_law_365 : decode cL_law 365 = .ok (.iload 7, 2) := by decide +kernel
theorem dL_law_367 : decode cL_law 367 = .ok (.i2l, 1) := by decide +kernel
theorem dL_law_368 : decode cL_law 368 = .ok (.lcmp, 1) := by decide +kernel
theorem dL_law_369 : decode cL_law 369 = .ok (.ifCond .eq 5, 3) := by decide +kernel
theorem dL_law_372 : decode cL_law 372 = .ok (.iconst 0, 1) := by decide +kernel
theorem dL_law_373 : decode cL_law 373 = .ok (.ireturn, 1) := by decide +kernel
theorem dL_law_374 : decode cL_law 374 = .ok (.goto 2016, 3) := by decide +kernel
theorem dL_law_377 : decode cL_law 377 = .ok (.aload_n 1, 1) := by decide +kernel
theorem dL_law_378 : decode cL_law 378 = .ok (.aload_n 0, 1) := by decide +kernel
theorem dL_law_379 : decode cL_law 379 = .ok (.iload 5, 2) := by decide +kernel
theorem dL_law_381 : decode cL_law 381 = .ok (.iconst 1, 1) := by decide +kernel
theorem dL_law_382 : decode cL_law 382 = .ok (.iadd, 1) := by decide +kernel
theorem dL_law_383 : decode cL_law 383 = .ok (.iaload, 1) := by decide +kernel
theorem dL_law_384 : decode cL_law 384 = .ok (.aload_n 0, 1) := by decide +kernel
theorem dL_law_385 : decode cL_law 385 = .ok (.iload 5, 2) := by decide +kernel
theorem dL_law_387 : decode cL_law 387 = .ok (.iconst 2, 1) := by decide +kernel
theorem dL_law_388 : decode cL_law 388 = .ok (.iadd, 1) := by decide +kernel
theorem dL_law_389 : decode cL_law 389 = .ok (.iaload, 1) := by decide +kernel
theorem dL_law_390 : decode cL_law 390 = .ok (.aload_n 3, 1) := by decide +kernel
theorem dL_law_391 : decode cL_law 391 = .ok (.invokestatic 139, 3) := by decide +kernel
theorem dL_law_394 : decode cL_law 394 = .ok (.istore 6, 2) := by decide +kernel
theorem dL_law_396 : decode cL_law 396 = .ok (.aload_n 2, 1) := by decide +kernel
theorem dL_law_397 : decode cL_law 397 = .ok (.aload_n 0, 1) := by decide +kernel
theorem dL_law_398 : decode cL_law 398 = .ok (.iload 5, 2) := by decide +kernel
theorem dL_law_400 : decode cL_law 400 = .ok (.iconst 1, 1) := by decide +kernel
theorem dL_law_401 : decode cL_law 401 = .ok (.iadd, 1) := by decide +kernel
theorem dL_law_402 : decode cL_law 402 = .ok (.iaload, 1) := by decide +kernel
theorem dL_law_403 : decode cL_law 403 = .ok (.aload_n 0, 1) := by decide +kernel
theorem dL_law_404 : decode cL_law 404 = .ok (.iload 5, 2) := by decide +kernel
theorem dL_law_406 : decode cL_law 406 = .ok (.iconst 2, 1) := by decide +kernel
theorem dL_law_407 : decode cL_law 407 = .ok (.iadd, 1) := by decide +kernel
theorem dL_law_408 : decode cL_law 408 = .ok (.iaload, 1) := by decide +kernel
theorem dL_law_409 : decode cL_law 409 = .ok (.invokevirtual 141, 3) := by decide +kernel
theorem dL_law_412 : decode cL_law 412 = .ok (.istore 7, 2) := by decide +kernel
theorem dL_law_414 : decode cL_law 414 = .ok (.aload_n 2, 1) := by decide +kernel
theorem dL_law_415 : decode cL_law 415 = .ok (.invokevirtual 124, 3) := by decide +kernel
theorem dL_law_418 : decode cL_law 418 = .ok (.iload 6, 2) := by decide +kernel
theorem dL_law_420 : decode cL_law 420 = .ok (.if_icmp .eq 5, 3) := by decide +kernel
theorem dL_law_423 : decode cL_law 423 = .ok (.iconst 0, 1) := by decide +kernel
theorem dL_law_424 : decode cL_law 424 = .ok (.ireturn, 1) := by decide +kernel
theorem dL_law_425 : decode cL_law 425 = .ok (.iload 6, 2) := by decide +kernel
theorem dL_law_427 : decode cL_law 427 = .ok (.ifCond .ne 22, 3) := by decide +kernel
theorem dL_law_430 : decode cL_law 430 = .ok (.aload_n 3, 1) := by decide +kernel
theorem dL_law_431 : decode cL_law 431 = .ok (.iconst 0, 1) := by decide +kernel
theorem dL_law_432 : decode cL_law 432 = .ok (.laload, 1) := by decide +kernel
theorem dL_law_433 : decode cL_law 433 = .ok (.iload 7, 2) := by decide +kernel
theorem dL_law_435 : decode cL_law 435 = .ok (.ifCond .eq 7, 3) := by decide +kernel
theorem dL_law_438 : decode cL_law 438 = .ok (.lconst 1, 1) := by decide +kernel
theorem dL_law_439 : decode cL_law 439 = .ok (.goto 4, 3) := by decide +kernel
theorem dL_law_442 : decode cL_law 442 = .ok (.lconst 0, 1) := by decide +kernel
theorem dL_law_443 : decode cL_law 443 = .ok (.lcmp, 1) := by decide +kernel
theorem dL_law_444 : decode cL_law 444 = .ok (.ifCond .eq 5, 3) := by decide +kernel
theorem dL_law_447 : decode cL_law 447 = .ok (.iconst 0, 1) := by decide +kernel
theorem dL_law_448 : decode cL_law 448 = .ok (.ireturn, 1) := by decide +kernel
theorem dL_law_449 : decode cL_law 449 = .ok (.goto 1941, 3) := by decide +kernel
theorem dL_law_452 : decode cL_law 452 = .ok (.aload_n 1, 1) := by decide +kernel
theorem dL_law_453 : decode cL_law 453 = .ok (.aload_n 0, 1) := by decide +kernel
theorem dL_law_454 : decode cL_law 454 = .ok (.iload 5, 2) := by decide +kernel
theorem dL_law_456 : decode cL_law 456 = .ok (.iconst 1, 1) := by decide +kernel
theorem dL_law_457 : decode cL_law 457 = .ok (.iadd, 1) := by decide +kernel
theorem dL_law_458 : decode cL_law 458 = .ok (.iaload, 1) := by decide +kernel
theorem dL_law_459 : decode cL_law 459 = .ok (.aload_n 0, 1) := by decide +kernel
theorem dL_law_460 : decode cL_law 460 = .ok (.iload 5, 2) := by decide +kernel
theorem dL_law_462 : decode cL_law 462 = .ok (.iconst 2, 1) := by decide +kernel
theorem dL_law_463 : decode cL_law 463 = .ok (.iadd, 1) := by decide +kernel
theorem dL_law_464 : decode cL_law 464 = .ok (.iaload, 1) := by decide +kernel
theorem dL_law_465 : decode cL_law 465 = .ok (.aload_n 3, 1) := by decide +kernel
theorem dL_law_466 : decode cL_law 466 = .ok (.invokestatic 142, 3) := by decide +kernel
theorem dL_law_469 : decode cL_law 469 = .ok (.istore 6, 2) := by decide +kernel
theorem dL_law_471 : decode cL_law 471 = .ok (.aload_n 2, 1) := by decide +kernel
theorem dL_law_472 : decode cL_law 472 = .ok (.aload_n 0, 1) := by decide +kernel
theorem dL_law_473 : decode cL_law 473 = .ok (.iload 5, 2) := by decide +kernel
theorem dL_law_475 : decode cL_law 475 = .ok (.iconst 1, 1) := by decide +kernel
theorem dL_law_476 : decode cL_law 476 = .ok (.iadd, 1) := by decide +kernel
theorem dL_law_477 : decode cL_law 477 = .ok (.iaload, 1) := by decide +kernel
theorem dL_law_478 : decode cL_law 478 = .ok (.aload_n 0, 1) := by decide +kernel
theorem dL_law_479 : decode cL_law 479 = .ok (.iload 5, 2) := by decide +kernel
theorem dL_law_481 : decode cL_law 481 = .ok (.iconst 2, 1) := by decide +kernel
theorem dL_law_482 : decode cL_law 482 = .ok (.iadd, 1) := by decide +kernel
theorem dL_law_483 : decode cL_law 483 = .ok (.iaload, 1) := by decide +kernel
theorem dL_law_484 : decode cL_law 484 = .ok (.invokevirtual 144, 3) := by decide +kernel
theorem dL_law_487 : decode cL_law 487 = .ok (.istore 7, 2) := by decide +kernel
theorem dL_law_489 : decode cL_law 489 = .ok (.aload_n 2, 1) := by decide +kernel
theorem dL_law_490 : decode cL_law 490 = .ok (.invokevirtual 124, 3) := by decide +kernel
theorem dL_law_493 : decode cL_law 493 = .ok (.iload 6, 2) := by decide +kernel
theorem dL_law_495 : decode cL_law 495 = .ok (.if_icmp .eq 5, 3) := by decide +kernel
theorem dL_law_498 : decode cL_law 498 = .ok (.iconst 0, 1) := by decide +kernel
theorem dL_law_499 : decode cL_law 499 = .ok (.ireturn, 1) := by decide +kernel
theorem dL_law_500 : decode cL_law 500 = .ok (.iload 6, 2) := by decide +kernel
theorem dL_law_502 : decode cL_law 502 = .ok (.ifCond .ne 15, 3) := by decide +kernel
theorem dL_law_505 : decode cL_law 505 = .ok (.aload_n 3, 1) := by decide +kernel
theorem dL_law_506 : decode cL_law 506 = .ok (.iconst 0, 1) := by decide +kernel
theorem dL_law_507 : decode cL_law 507 = .ok (.laload, 1) := by decide +kernel
theorem dL_law_508 : decode cL_law 508 = .ok (.iload 7, 2) := by decide +kernel
theorem dL_law_510 : decode cL_law 510 = .ok (.i2l, 1) := by decide +kernel
theorem dL_law_511 : decode cL_law 511 = .ok (.lcmp, 1) := by decide +kernel
theorem dL_law_512 : decode cL_law 512 = .ok (.ifCond .eq 5, 3) := by decide +kernel
theorem dL_law_515 : decode cL_law 515 = .ok (.iconst 0, 1) := by decide +kernel
theorem dL_law_516 : decode cL_law 516 = .ok (.ireturn, 1) := by decide +kernel
theorem dL_law_517 : decode cL_law 517 = .ok (.goto 1873, 3) := by decide +kernel
theorem dL_law_520 : decode cL_law 520 = .ok (.aload_n 1, 1) := by decide +kernel
theorem dL_law_521 : decode cL_law 521 = .ok (.aload_n 0, 1) := by decide +kernel
theorem dL_law_522 : decode cL_law 522 = .ok (.iload 5, 2) := by decide +kernel
theorem dL_law_524 : decode cL_law 524 = .ok (.iconst 1, 1) := by decide +kernel
theorem dL_law_525 : decode cL_law 525 = .ok (.iadd, 1) := by decide +kernel
theorem dL_law_526 : decode cL_law 526 = .ok (.iaload, 1) := by decide +kernel
theorem dL_law_527 : decode cL_law 527 = .ok (.aload_n 0, 1) := by decide +kernel
theorem dL_law_528 : decode cL_law 528 = .ok (.iload 5, 2) := by decide +kernel
theorem dL_law_530 : decode cL_law 530 = .ok (.iconst 2, 1) := by decide +kernel
theorem dL_law_531 : decode cL_law 531 = .ok (.iadd, 1) := by decide +kernel
theorem dL_law_532 : decode cL_law 532 = .ok (.iaload, 1) := by decide +kernel
theorem dL_law_533 : decode cL_law 533 = .ok (.aload_n 3, 1) := by decide +kernel
theorem dL_law_534 : decode cL_law 534 = .ok (.invokestatic 145, 3) := by decide +kernel
theorem dL_law_537 : decode cL_law 537 = .ok (.istore 6, 2) := by decide +kernel
theorem dL_law_539 : decode cL_law 539 = .ok (.aload_n 2, 1) := by decide +kernel
theorem dL_law_540 : decode cL_law 540 = .ok (.aload_n 0, 1) := by decide +kernel
theorem dL_law_541 : decode cL_law 541 = .ok (.iload 5, 2) := by decide +kernel
theorem dL_law_543 : decode cL_law 543 = .ok (.iconst 1, 1) := by decide +kernel
theorem dL_law_544 : decode cL_law 544 = .ok (.iadd, 1) := by decide +kernel
theorem dL_law_545 : decode cL_law 545 = .ok (.iaload, 1) := by decide +kernel
theorem dL_law_546 : decode cL_law 546 = .ok (.aload_n 0, 1) := by decide +kernel
theorem dL_law_547 : decode cL_law 547 = .ok (.iload 5, 2) := by decide +kernel
theorem dL_law_549 : decode cL_law 549 = .ok (.iconst 2, 1) := by decide +kernel
theorem dL_law_550 : decode cL_law 550 = .ok (.iadd, 1) := by decide +kernel
theorem dL_law_551 : decode cL_law 551 = .ok (.iaload, 1) := by decide +kernel
theorem dL_law_552 : decode cL_law 552 = .ok (.invokevirtual 147, 3) := by decide +kernel
theorem dL_law_555 : decode cL_law 555 = .ok (.istore 7, 2) := by decide +kernel
theorem dL_law_557 : decode cL_law 557 = .ok (.aload_n 2, 1) := by decide +kernel
theorem dL_law_558 : decode cL_law 558 = .ok (.invokevirtual 124, 3) := by decide +kernel
theorem dL_law_561 : decode cL_law 561 = .ok (.iload 6, 2) := by decide +kernel
theorem dL_law_563 : decode cL_law 563 = .ok (.if_icmp .eq 5, 3) := by decide +kernel
theorem dL_law_566 : decode cL_law 566 = .ok (.iconst 0, 1) := by decide +kernel
theorem dL_law_567 : decode cL_law 567 = .ok (.ireturn, 1) := by decide +kernel
theorem dL_law_568 : decode cL_law 568 = .ok (.iload 6, 2) := by decide +kernel
theorem dL_law_570 : decode cL_law 570 = .ok (.ifCond .ne 15, 3) := by decide +kernel
theorem dL_law_573 : decode cL_law 573 = .ok (.aload_n 3, 1) := by decide +kernel
theorem dL_law_574 : decode cL_law 574 = .ok (.iconst 0, 1) := by decide +kernel
theorem dL_law_575 : decode cL_law 575 = .ok (.laload, 1) := by decide +kernel
theorem dL_law_576 : decode cL_law 576 = .ok (.iload 7, 2) := by decide +kernel
theorem dL_law_578 : decode cL_law 578 = .ok (.i2l, 1) := by decide +kernel
theorem dL_law_579 : decode cL_law 579 = .ok (.lcmp, 1) := by decide +kernel
theorem dL_law_580 : decode cL_law 580 = .ok (.ifCond .eq 5, 3) := by decide +kernel
theorem dL_law_583 : decode cL_law 583 = .ok (.iconst 0, 1) := by decide +kernel
theorem dL_law_584 : decode cL_law 584 = .ok (.ireturn, 1) := by decide +kernel
theorem dL_law_585 : decode cL_law 585 = .ok (.goto 1805, 3) := by decide +kernel
theorem dL_law_588 : decode cL_law 588 = .ok (.aload_n 1, 1) := by decide +kernel
theorem dL_law_589 : decode cL_law 589 = .ok (.aload_n 0, 1) := by decide +kernel
theorem dL_law_590 : decode cL_law 590 = .ok (.iload 5, 2) := by decide +kernel
theorem dL_law_592 : decode cL_law 592 = .ok (.iconst 1, 1) := by decide +kernel
theorem dL_law_593 : decode cL_law 593 = .ok (.iadd, 1) := by decide +kernel
theorem dL_law_594 : decode cL_law 594 = .ok (.iaload, 1) := by decide +kernel
theorem dL_law_595 : decode cL_law 595 = .ok (.aload_n 0, 1) := by decide +kernel
theorem dL_law_596 : decode cL_law 596 = .ok (.iload 5, 2) := by decide +kernel
theorem dL_law_598 : decode cL_law 598 = .ok (.iconst 2, 1) := by decide +kernel
theorem dL_law_599 : decode cL_law 599 = .ok (.iadd, 1) := by decide +kernel
theorem dL_law_600 : decode cL_law 600 = .ok (.iaload, 1) := by decide +kernel
theorem dL_law_601 : decode cL_law 601 = .ok (.aload_n 3, 1) := by decide +kernel
theorem dL_law_602 : decode cL_law 602 = .ok (.invokestatic 148, 3) := by decide +kernel
theorem dL_law_605 : decode cL_law 605 = .ok (.istore 6, 2) := by decide +kernel
theorem dL_law_607 : decode cL_law 607 = .ok (.aload_n 2, 1) := by decide +kernel
theorem dL_law_608 : decode cL_law 608 = .ok (.aload_n 0, 1) := by decide +kernel
theorem dL_law_609 : decode cL_law 609 = .ok (.iload 5, 2) := by decide +kernel
theorem dL_law_611 : decode cL_law 611 = .ok (.iconst 1, 1) := by decide +kernel
theorem dL_law_612 : decode cL_law 612 = .ok (.iadd, 1) := by decide +kernel
theorem dL_law_613 : decode cL_law 613 = .ok (.iaload, 1) := by decide +kernel
theorem dL_law_614 : decode cL_law 614 = .ok (.aload_n 0, 1) := by decide +kernel
theorem dL_law_615 : decode cL_law 615 = .ok (.iload 5, 2) := by decide +kernel
theorem dL_law_617 : decode cL_law 617 = .ok (.iconst 2, 1) := by decide +kernel
theorem dL_law_618 : decode cL_law 618 = .ok (.iadd, 1) := by decide +kernel
theorem dL_law_619 : decode cL_law 619 = .ok (.iaload, 1) := by decide +kernel
theorem dL_law_620 : decode cL_law 620 = .ok (.invokevirtual 150, 3) := by decide +kernel
theorem dL_law_623 : decode cL_law 623 = .ok (.istore 7, 2) := by decide +kernel
theorem dL_law_625 : decode cL_law 625 = .ok (.aload_n 2, 1) := by decide +kernel
theorem dL_law_626 : decode cL_law 626 = .ok (.invokevirtual 124, 3) := by decide +kernel
theorem dL_law_629 : decode cL_law 629 = .ok (.iload 6, 2) := by decide +kernel
theorem dL_law_631 : decode cL_law 631 = .ok (.if_icmp .eq 5, 3) := by decide +kernel
theorem dL_law_634 : decode cL_law 634 = .ok (.iconst 0, 1) := by decide +kernel
theorem dL_law_635 : decode cL_law 635 = .ok (.ireturn, 1) := by decide +kernel
theorem dL_law_636 : decode cL_law 636 = .ok (.iload 6, 2) := by decide +kernel
theorem dL_law_638 : decode cL_law 638 = .ok (.ifCond .ne 15, 3) := by decide +kernel
theorem dL_law_641 : decode cL_law 641 = .ok (.aload_n 3, 1) := by decide +kernel
theorem dL_law_642 : decode cL_law 642 = .ok (.iconst 0, 1) := by decide +kernel
theorem dL_law_643 : decode cL_law 643 = .ok (.laload, 1) := by decide +kernel
theorem dL_law_644 : decode cL_law 644 = .ok (.iload 7, 2) := by decide +kernel
theorem dL_law_646 : decode cL_law 646 = .ok (.i2l, 1) := by decide +kernel
theorem dL_law_647 : decode cL_law 647 = .ok (.lcmp, 1) := by decide +kernel
theorem dL_law_648 : decode cL_law 648 = .ok (.ifCond .eq 5, 3) := by decide +kernel
theorem dL_law_651 : decode cL_law 651 = .ok (.iconst 0, 1) := by decide +kernel
theorem dL_law_652 : decode cL_law 652 = .ok (.ireturn, 1) := by decide +kernel
theorem dL_law_653 : decode cL_law 653 = .ok (.goto 1737, 3) := by decide +kernel
theorem dL_law_656 : decode cL_law 656 = .ok (.aload_n 1, 1) := by decide +kernel
theorem dL_law_657 : decode cL_law 657 = .ok (.aload_n 0, 1) := by decide +kernel
theorem dL_law_658 : decode cL_law 658 = .ok (.iload 5, 2) := by decide +kernel
theorem dL_law_660 : decode cL_law 660 = .ok (.iconst 1, 1) := by decide +kernel
theorem dL_law_661 : decode cL_law 661 = .ok (.iadd, 1) := by decide +kernel
theorem dL_law_662 : decode cL_law 662 = .ok (.iaload, 1) := by decide +kernel
theorem dL_law_663 : decode cL_law 663 = .ok (.aload_n 0, 1) := by decide +kernel
theorem dL_law_664 : decode cL_law 664 = .ok (.iload 5, 2) := by decide +kernel
theorem dL_law_666 : decode cL_law 666 = .ok (.iconst 2, 1) := by decide +kernel
theorem dL_law_667 : decode cL_law 667 = .ok (.iadd, 1) := by decide +kernel
theorem dL_law_668 : decode cL_law 668 = .ok (.iaload, 1) := by decide +kernel
theorem dL_law_669 : decode cL_law 669 = .ok (.aload_n 3, 1) := by decide +kernel
theorem dL_law_670 : decode cL_law 670 = .ok (.invokestatic 151, 3) := by decide +kernel
theorem dL_law_673 : decode cL_law 673 = .ok (.istore 6, 2) := by decide +kernel
theorem dL_law_675 : decode cL_law 675 = .ok (.aload_n 2, 1) := by decide +kernel
theorem dL_law_676 : decode cL_law 676 = .ok (.aload_n 0, 1) := by decide +kernel
theorem dL_law_677 : decode cL_law 677 = .ok (.iload 5, 2) := by decide +kernel
theorem dL_law_679 : decode cL_law 679 = .ok (.iconst 1, 1) := by decide +kernel
theorem dL_law_680 : decode cL_law 680 = .ok (.iadd, 1) := by decide +kernel
theorem dL_law_681 : decode cL_law 681 = .ok (.iaload, 1) := by decide +kernel
theorem dL_law_682 : decode cL_law 682 = .ok (.aload_n 0, 1) := by decide +kernel
theorem dL_law_683 : decode cL_law 683 = .ok (.iload 5, 2) := by decide +kernel
theorem dL_law_685 : decode cL_law 685 = .ok (.iconst 2, 1) := by decide +kernel
theorem dL_law_686 : decode cL_law 686 = .ok (.iadd, 1) := by decide +kernel
theorem dL_law_687 : decode cL_law 687 = .ok (.iaload, 1) := by decide +kernel
theorem dL_law_688 : decode cL_law 688 = .ok (.invokevirtual 153, 3) := by decide +kernel
theorem dL_law_691 : decode cL_law 691 = .ok (.istore 7, 2) := by decide +kernel
theorem dL_law_693 : decode cL_law 693 = .ok (.aload_n 2, 1) := by decide +kernel
theorem dL_law_694 : decode cL_law 694 = .ok (.invokevirtual 124, 3) := by decide +kernel
theorem dL_law_697 : decode cL_law 697 = .ok (.iload 6, 2) := by decide +kernel
theorem dL_law_699 : decode cL_law 699 = .ok (.if_icmp .eq 5, 3) := by decide +kernel
theorem dL_law_702 : decode cL_law 702 = .ok (.iconst 0, 1) := by decide +kernel
theorem dL_law_703 : decode cL_law 703 = .ok (.ireturn, 1) := by decide +kernel
theorem dL_law_704 : decode cL_law 704 = .ok (.iload 6, 2) := by decide +kernel
theorem dL_law_706 : decode cL_law 706 = .ok (.ifCond .ne 15, 3) := by decide +kernel
theorem dL_law_709 : decode cL_law 709 = .ok (.aload_n 3, 1) := by decide +kernel
theorem dL_law_710 : decode cL_law 710 = .ok (.iconst 0, 1) := by decide +kernel
theorem dL_law_711 : decode cL_law 711 = .ok (.laload, 1) := by decide +kernel
theorem dL_law_712 : decode cL_law 712 = .ok (.iload 7, 2) := by decide +kernel
theorem dL_law_714 : decode cL_law 714 = .ok (.i2l, 1) := by decide +kernel
theorem dL_law_715 : decode cL_law 715 = .ok (.lcmp, 1) := by decide +kernel
theorem dL_law_716 : decode cL_law 716 = .ok (.ifCond .eq 5, 3) := by decide +kernel
theorem dL_law_719 : decode cL_law 719 = .ok (.iconst 0, 1) := by decide +kernel
theorem dL_law_720 : decode cL_law 720 = .ok (.ireturn, 1) := by decide +kernel
theorem dL_law_721 : decode cL_law 721 = .ok (.goto 1669, 3) := by decide +kernel
theorem dL_law_724 : decode cL_law 724 = .ok (.aload_n 1, 1) := by decide +kernel
theorem dL_law_725 : decode cL_law 725 = .ok (.aload_n 0, 1) := by decide +kernel
theorem dL_law_726 : decode cL_law 726 = .ok (.iload 5, 2) := by decide +kernel
theorem dL_law_728 : decode cL_law 728 = .ok (.iconst 1, 1) := by decide +kernel
theorem dL_law_729 : decode cL_law 729 = .ok (.iadd, 1) := by decide +kernel
theorem dL_law_730 : decode cL_law 730 = .ok (.iaload, 1) := by decide +kernel
theorem dL_law_731 : decode cL_law 731 = .ok (.aload_n 0, 1) := by decide +kernel
theorem dL_law_732 : decode cL_law 732 = .ok (.iload 5, 2) := by decide +kernel
theorem dL_law_734 : decode cL_law 734 = .ok (.iconst 2, 1) := by decide +kernel
theorem dL_law_735 : decode cL_law 735 = .ok (.iadd, 1) := by decide +kernel
theorem dL_law_736 : decode cL_law 736 = .ok (.iaload, 1) := by decide +kernel
theorem dL_law_737 : decode cL_law 737 = .ok (.aload_n 3, 1) := by decide +kernel
theorem dL_law_738 : decode cL_law 738 = .ok (.invokestatic 154, 3) := by decide +kernel
theorem dL_law_741 : decode cL_law 741 = .ok (.istore 6, 2) := by decide +kernel
theorem dL_law_743 : decode cL_law 743 = .ok (.aload_n 2, 1) := by decide +kernel
theorem dL_law_744 : decode cL_law 744 = .ok (.aload_n 0, 1) := by decide +kernel
theorem dL_law_745 : decode cL_law 745 = .ok (.iload 5, 2) := by decide +kernel
theorem dL_law_747 : decode cL_law 747 = .ok (.iconst 1, 1) := by decide +kernel
theorem dL_law_748 : decode cL_law 748 = .ok (.iadd, 1) := by decide +kernel
theorem dL_law_749 : decode cL_law 749 = .ok (.iaload, 1) := by decide +kernel
theorem dL_law_750 : decode cL_law 750 = .ok (.aload_n 0, 1) := by decide +kernel
theorem dL_law_751 : decode cL_law 751 = .ok (.iload 5, 2) := by decide +kernel
theorem dL_law_753 : decode cL_law 753 = .ok (.iconst 2, 1) := by decide +kernel
theorem dL_law_754 : decode cL_law 754 = .ok (.iadd, 1) := by decide +kernel
theorem dL_law_755 : decode cL_law 755 = .ok (.iaload, 1) := by decide +kernel
theorem dL_law_756 : decode cL_law 756 = .ok (.invokevirtual 156, 3) := by decide +kernel
theorem dL_law_759 : decode cL_law 759 = .ok (.lstore 7, 2) := by decide +kernel
theorem dL_law_761 : decode cL_law 761 = .ok (.aload_n 2, 1) := by decide +kernel
theorem dL_law_762 : decode cL_law 762 = .ok (.invokevirtual 124, 3) := by decide +kernel
theorem dL_law_765 : decode cL_law 765 = .ok (.iload 6, 2) := by decide +kernel
theorem dL_law_767 : decode cL_law 767 = .ok (.if_icmp .eq 5, 3) := by decide +kernel
theorem dL_law_770 : decode cL_law 770 = .ok (.iconst 0, 1) := by decide +kernel
theorem dL_law_771 : decode cL_law 771 = .ok (.ireturn, 1) := by decide +kernel
theorem dL_law_772 : decode cL_law 772 = .ok (.iload 6, 2) := by decide +kernel
theorem dL_law_774 : decode cL_law 774 = .ok (.ifCond .ne 14, 3) := by decide +kernel
theorem dL_law_777 : decode cL_law 777 = .ok (.aload_n 3, 1) := by decide +kernel
theorem dL_law_778 : decode cL_law 778 = .ok (.iconst 0, 1) := by decide +kernel
theorem dL_law_779 : decode cL_law 779 = .ok (.laload, 1) := by decide +kernel
theorem dL_law_780 : decode cL_law 780 = .ok (.lload 7, 2) := by decide +kernel
theorem dL_law_782 : decode cL_law 782 = .ok (.lcmp, 1) := by decide +kernel
theorem dL_law_783 : decode cL_law 783 = .ok (.ifCond .eq 5, 3) := by decide +kernel
theorem dL_law_786 : decode cL_law 786 = .ok (.iconst 0, 1) := by decide +kernel
theorem dL_law_787 : decode cL_law 787 = .ok (.ireturn, 1) := by decide +kernel
theorem dL_law_788 : decode cL_law 788 = .ok (.goto 1602, 3) := by decide +kernel
theorem dL_law_791 : decode cL_law 791 = .ok (.aload_n 1, 1) := by decide +kernel
theorem dL_law_792 : decode cL_law 792 = .ok (.aload_n 0, 1) := by decide +kernel
theorem dL_law_793 : decode cL_law 793 = .ok (.iload 5, 2) := by decide +kernel
theorem dL_law_795 : decode cL_law 795 = .ok (.iconst 1, 1) := by decide +kernel
theorem dL_law_796 : decode cL_law 796 = .ok (.iadd, 1) := by decide +kernel
theorem dL_law_797 : decode cL_law 797 = .ok (.iaload, 1) := by decide +kernel
theorem dL_law_798 : decode cL_law 798 = .ok (.aload_n 0, 1) := by decide +kernel
theorem dL_law_799 : decode cL_law 799 = .ok (.iload 5, 2) := by decide +kernel
theorem dL_law_801 : decode cL_law 801 = .ok (.iconst 2, 1) := by decide +kernel
theorem dL_law_802 : decode cL_law 802 = .ok (.iadd, 1) := by decide +kernel
theorem dL_law_803 : decode cL_law 803 = .ok (.iaload, 1) := by decide +kernel
theorem dL_law_804 : decode cL_law 804 = .ok (.aload 4, 2) := by decide +kernel
theorem dL_law_806 : decode cL_law 806 = .ok (.invokestatic 157, 3) := by decide +kernel
theorem dL_law_809 : decode cL_law 809 = .ok (.istore 6, 2) := by decide +kernel
theorem dL_law_811 : decode cL_law 811 = .ok (.aload_n 2, 1) := by decide +kernel
theorem dL_law_812 : decode cL_law 812 = .ok (.aload_n 0, 1) := by decide +kernel
theorem dL_law_813 : decode cL_law 813 = .ok (.iload 5, 2) := by decide +kernel
theorem dL_law_815 : decode cL_law 815 = .ok (.iconst 1, 1) := by decide +kernel
theorem dL_law_816 : decode cL_law 816 = .ok (.iadd, 1) := by decide +kernel
theorem dL_law_817 : decode cL_law 817 = .ok (.iaload, 1) := by decide +kernel
theorem dL_law_818 : decode cL_law 818 = .ok (.aload_n 0, 1) := by decide +kernel
theorem dL_law_819 : decode cL_law 819 = .ok (.iload 5, 2) := by decide +kernel
theorem dL_law_821 : decode cL_law 821 = .ok (.iconst 2, 1) := by decide +kernel
theorem dL_law_822 : decode cL_law 822 = .ok (.iadd, 1) := by decide +kernel
theorem dL_law_823 : decode cL_law 823 = .ok (.iaload, 1) := by decide +kernel
theorem dL_law_824 : decode cL_law 824 = .ok (.invokevirtual 160, 3) := by decide +kernel
theorem dL_law_827 : decode cL_law 827 = .ok (.fstore 7, 2) := by decide +kernel
theorem dL_law_829 : decode cL_law 829 = .ok (.aload_n 2, 1) := by decide +kernel
theorem dL_law_830 : decode cL_law 830 = .ok (.invokevirtual 124, 3) := by decide +kernel
theorem dL_law_833 : decode cL_law 833 = .ok (.iload 6, 2) := by decide +kernel
theorem dL_law_835 : decode cL_law 835 = .ok (.if_icmp .eq 5, 3) := by decide +kernel
theorem dL_law_838 : decode cL_law 838 = .ok (.iconst 0, 1) := by decide +kernel
theorem dL_law_839 : decode cL_law 839 = .ok (.ireturn, 1) := by decide +kernel
theorem dL_law_840 : decode cL_law 840 = .ok (.iload 6, 2) := by decide +kernel
theorem dL_law_842 : decode cL_law 842 = .ok (.ifCond .ne 36, 3) := by decide +kernel
theorem dL_law_845 : decode cL_law 845 = .ok (.aload 4, 2) := by decide +kernel
theorem dL_law_847 : decode cL_law 847 = .ok (.iconst 0, 1) := by decide +kernel
theorem dL_law_848 : decode cL_law 848 = .ok (.daload, 1) := by decide +kernel
theorem dL_law_849 : decode cL_law 849 = .ok (.fload 7, 2) := by decide +kernel
theorem dL_law_851 : decode cL_law 851 = .ok (.f2d, 1) := by decide +kernel
theorem dL_law_852 : decode cL_law 852 = .ok (.dcmp .l, 1) := by decide +kernel
theorem dL_law_853 : decode cL_law 853 = .ok (.ifCond .eq 25, 3) := by decide +kernel
theorem dL_law_856 : decode cL_law 856 = .ok (.aload 4, 2) := by decide +kernel
theorem dL_law_858 : decode cL_law 858 = .ok (.iconst 0, 1) := by decide +kernel
theorem dL_law_859 : decode cL_law 859 = .ok (.daload, 1) := by decide +kernel
theorem dL_law_860 : decode cL_law 860 = .ok (.aload 4, 2) := by decide +kernel
theorem dL_law_862 : decode cL_law 862 = .ok (.iconst 0, 1) := by decide +kernel
theorem dL_law_863 : decode cL_law 863 = .ok (.daload, 1) := by decide +kernel
theorem dL_law_864 : decode cL_law 864 = .ok (.dcmp .l, 1) := by decide +kernel
theorem dL_law_865 : decode cL_law 865 = .ok (.ifCond .eq 11, 3) := by decide +kernel
theorem dL_law_868 : decode cL_law 868 = .ok (.fload 7, 2) := by decide +kernel
theorem dL_law_870 : decode cL_law 870 = .ok (.fload 7, 2) := by decide +kernel
theorem dL_law_872 : decode cL_law 872 = .ok (.fcmp .l, 1) := by decide +kernel
theorem dL_law_873 : decode cL_law 873 = .ok (.ifCond .ne 5, 3) := by decide +kernel
theorem dL_law_876 : decode cL_law 876 = .ok (.iconst 0, 1) := by decide +kernel
theorem dL_law_877 : decode cL_law 877 = .ok (.ireturn, 1) := by decide +kernel
theorem dL_law_878 : decode cL_law 878 = .ok (.goto 1512, 3) := by decide +kernel
theorem dL_law_881 : decode cL_law 881 = .ok (.aload_n 1, 1) := by decide +kernel
theorem dL_law_882 : decode cL_law 882 = .ok (.aload_n 0, 1) := by decide +kernel
theorem dL_law_883 : decode cL_law 883 = .ok (.iload 5, 2) := by decide +kernel
theorem dL_law_885 : decode cL_law 885 = .ok (.iconst 1, 1) := by decide +kernel
theorem dL_law_886 : decode cL_law 886 = .ok (.iadd, 1) := by decide +kernel
theorem dL_law_887 : decode cL_law 887 = .ok (.iaload, 1) := by decide +kernel
theorem dL_law_888 : decode cL_law 888 = .ok (.aload_n 0, 1) := by decide +kernel
theorem dL_law_889 : decode cL_law 889 = .ok (.iload 5, 2) := by decide +kernel
theorem dL_law_891 : decode cL_law 891 = .ok (.iconst 2, 1) := by decide +kernel
theorem dL_law_892 : decode cL_law 892 = .ok (.iadd, 1) := by decide +kernel
theorem dL_law_893 : decode cL_law 893 = .ok (.iaload, 1) := by decide +kernel
theorem dL_law_894 : decode cL_law 894 = .ok (.aload 4, 2) := by decide +kernel
theorem dL_law_896 : decode cL_law 896 = .ok (.invokestatic 161, 3) := by decide +kernel
theorem dL_law_899 : decode cL_law 899 = .ok (.istore 6, 2) := by decide +kernel
theorem dL_law_901 : decode cL_law 901 = .ok (.aload_n 2, 1) := by decide +kernel
theorem dL_law_902 : decode cL_law 902 = .ok (.aload_n 0, 1) := by decide +kernel
theorem dL_law_903 : decode cL_law 903 = .ok (.iload 5, 2) := by decide +kernel
theorem dL_law_905 : decode cL_law 905 = .ok (.iconst 1, 1) := by decide +kernel
theorem dL_law_906 : decode cL_law 906 = .ok (.iadd, 1) := by decide +kernel
theorem dL_law_907 : decode cL_law 907 = .ok (.iaload, 1) := by decide +kernel
theorem dL_law_908 : decode cL_law 908 = .ok (.aload_n 0, 1) := by decide +kernel
theorem dL_law_909 : decode cL_law 909 = .ok (.iload 5, 2) := by decide +kernel
theorem dL_law_911 : decode cL_law 911 = .ok (.iconst 2, 1) := by decide +kernel
theorem dL_law_912 : decode cL_law 912 = .ok (.iadd, 1) := by decide +kernel
theorem dL_law_913 : decode cL_law 913 = .ok (.iaload, 1) := by decide +kernel
theorem dL_law_914 : decode cL_law 914 = .ok (.invokevirtual 163, 3) := by decide +kernel
theorem dL_law_917 : decode cL_law 917 = .ok (.dstore 7, 2) := by decide +kernel
theorem dL_law_919 : decode cL_law 919 = .ok (.aload_n 2, 1) := by decide +kernel
theorem dL_law_920 : decode cL_law 920 = .ok (.invokevirtual 124, 3) := by decide +kernel
theorem dL_law_923 : decode cL_law 923 = .ok (.iload 6, 2) := by decide +kernel
theorem dL_law_925 : decode cL_law 925 = .ok (.if_icmp .eq 5, 3) := by decide +kernel
theorem dL_law_928 : decode cL_law 928 = .ok (.iconst 0, 1) := by decide +kernel
theorem dL_law_929 : decode cL_law 929 = .ok (.ireturn, 1) := by decide +kernel
theorem dL_law_930 : decode cL_law 930 = .ok (.iload 6, 2) := by decide +kernel
theorem dL_law_932 : decode cL_law 932 = .ok (.ifCond .ne 35, 3) := by decide +kernel
theorem dL_law_935 : decode cL_law 935 = .ok (.aload 4, 2) := by decide +kernel
theorem dL_law_937 : decode cL_law 937 = .ok (.iconst 0, 1) := by decide +kernel
theorem dL_law_938 : decode cL_law 938 = .ok (.daload, 1) := by decide +kernel
theorem dL_law_939 : decode cL_law 939 = .ok (.dload 7, 2) := by decide +kernel
theorem dL_law_941 : decode cL_law 941 = .ok (.dcmp .l, 1) := by decide +kernel
theorem dL_law_942 : decode cL_law 942 = .ok (.ifCond .eq 25, 3) := by decide +kernel
theorem dL_law_945 : decode cL_law 945 = .ok (.aload 4, 2) := by decide +kernel
theorem dL_law_947 : decode cL_law 947 = .ok (.iconst 0, 1) := by decide +kernel
theorem dL_law_948 : decode cL_law 948 = .ok (.daload, 1) := by decide +kernel
theorem dL_law_949 : decode cL_law 949 = .ok (.aload 4, 2) := by decide +kernel
theorem dL_law_951 : decode cL_law 951 = .ok (.iconst 0, 1) := by decide +kernel
theorem dL_law_952 : decode cL_law 952 = .ok (.daload, 1) := by decide +kernel
theorem dL_law_953 : decode cL_law 953 = .ok (.dcmp .l, 1) := by decide +kernel
theorem dL_law_954 : decode cL_law 954 = .ok (.ifCond .eq 11, 3) := by decide +kernel
theorem dL_law_957 : decode cL_law 957 = .ok (.dload 7, 2) := by decide +kernel
theorem dL_law_959 : decode cL_law 959 = .ok (.dload 7, 2) := by decide +kernel
theorem dL_law_961 : decode cL_law 961 = .ok (.dcmp .l, 1) := by decide +kernel
theorem dL_law_962 : decode cL_law 962 = .ok (.ifCond .ne 5, 3) := by decide +kernel
theorem dL_law_965 : decode cL_law 965 = .ok (.iconst 0, 1) := by decide +kernel
theorem dL_law_966 : decode cL_law 966 = .ok (.ireturn, 1) := by decide +kernel
theorem dL_law_967 : decode cL_law 967 = .ok (.goto 1423, 3) := by decide +kernel
theorem dL_law_970 : decode cL_law 970 = .ok (.aload_n 1, 1) := by decide +kernel
theorem dL_law_971 : decode cL_law 971 = .ok (.aload_n 0, 1) := by decide +kernel
theorem dL_law_972 : decode cL_law 972 = .ok (.iload 5, 2) := by decide +kernel
theorem dL_law_974 : decode cL_law 974 = .ok (.iconst 1, 1) := by decide +kernel
theorem dL_law_975 : decode cL_law 975 = .ok (.iadd, 1) := by decide +kernel
theorem dL_law_976 : decode cL_law 976 = .ok (.iaload, 1) := by decide +kernel
theorem dL_law_977 : decode cL_law 977 = .ok (.aload_n 0, 1) := by decide +kernel
theorem dL_law_978 : decode cL_law 978 = .ok (.iload 5, 2) := by decide +kernel
theorem dL_law_980 : decode cL_law 980 = .ok (.iconst 2, 1) := by decide +kernel
theorem dL_law_981 : decode cL_law 981 = .ok (.iadd, 1) := by decide +kernel
theorem dL_law_982 : decode cL_law 982 = .ok (.iaload, 1) := by decide +kernel
theorem dL_law_983 : decode cL_law 983 = .ok (.aload 4, 2) := by decide +kernel
theorem dL_law_985 : decode cL_law 985 = .ok (.invokestatic 164, 3) := by decide +kernel
theorem dL_law_988 : decode cL_law 988 = .ok (.istore 6, 2) := by decide +kernel
theorem dL_law_990 : decode cL_law 990 = .ok (.aload_n 2, 1) := by decide +kernel
theorem dL_law_991 : decode cL_law 991 = .ok (.aload_n 0, 1) := by decide +kernel
theorem dL_law_992 : decode cL_law 992 = .ok (.iload 5, 2) := by decide +kernel
theorem dL_law_994 : decode cL_law 994 = .ok (.iconst 1, 1) := by decide +kernel
theorem dL_law_995 : decode cL_law 995 = .ok (.iadd, 1) := by decide +kernel
theorem dL_law_996 : decode cL_law 996 = .ok (.iaload, 1) := by decide +kernel
theorem dL_law_997 : decode cL_law 997 = .ok (.aload_n 0, 1) := by decide +kernel
theorem dL_law_998 : decode cL_law 998 = .ok (.iload 5, 2) := by decide +kernel
theorem dL_law_1000 : decode cL_law 1000 = .ok (.iconst 2, 1) := by decide +kernel
theorem dL_law_1001 : decode cL_law 1001 = .ok (.iadd, 1) := by decide +kernel
theorem dL_law_1002 : decode cL_law 1002 = .ok (.iaload, 1) := by decide +kernel
theorem dL_law_1003 : decode cL_law 1003 = .ok (.invokevirtual 166, 3) := by decide +kernel
theorem dL_law_1006 : decode cL_law 1006 = .ok (.dstore 7, 2) := by decide +kernel
theorem dL_law_1008 : decode cL_law 1008 = .ok (.aload_n 2, 1) := by decide +kernel
theorem dL_law_1009 : decode cL_law 1009 = .ok (.invokevirtual 124, 3) := by decide +kernel
theorem dL_law_1012 : decode cL_law 1012 = .ok (.iload 6, 2) := by decide +kernel
theorem dL_law_1014 : decode cL_law 1014 = .ok (.if_icmp .eq 5, 3) := by decide +kernel
theorem dL_law_1017 : decode cL_law 1017 = .ok (.iconst 0, 1) := by decide +kernel
theorem dL_law_1018 : decode cL_law 1018 = .ok (.ireturn, 1) := by decide +kernel
theorem dL_law_1019 : decode cL_law 1019 = .ok (.iload 6, 2) := by decide +kernel
theorem dL_law_1021 : decode cL_law 1021 = .ok (.ifCond .ne 35, 3) := by decide +kernel
theorem dL_law_1024 : decode cL_law 1024 = .ok (.aload 4, 2) := by decide +kernel
theorem dL_law_1026 : decode cL_law 1026 = .ok (.iconst 0, 1) := by decide +kernel
theorem dL_law_1027 : decode cL_law 1027 = .ok (.daload, 1) := by decide +kernel
theorem dL_law_1028 : decode cL_law 1028 = .ok (.dload 7, 2) := by decide +kernel
theorem dL_law_1030 : decode cL_law 1030 = .ok (.dcmp .l, 1) := by decide +kernel
theorem dL_law_1031 : decode cL_law 1031 = .ok (.ifCond .eq 25, 3) := by decide +kernel
theorem dL_law_1034 : decode cL_law 1034 = .ok (.aload 4, 2) := by decide +kernel
theorem dL_law_1036 : decode cL_law 1036 = .ok (.iconst 0, 1) := by decide +kernel
theorem dL_law_1037 : decode cL_law 1037 = .ok (.daload, 1) := by decide +kernel
theorem dL_law_1038 : decode cL_law 1038 = .ok (.aload 4, 2) := by decide +kernel
theorem dL_law_1040 : decode cL_law 1040 = .ok (.iconst 0, 1) := by decide +kernel
theorem dL_law_1041 : decode cL_law 1041 = .ok (.daload, 1) := by decide +kernel
theorem dL_law_1042 : decode cL_law 1042 = .ok (.dcmp .l, 1) := by decide +kernel
theorem dL_law_1043 : decode cL_law 1043 = .ok (.ifCond .eq 11, 3) := by decide +kernel
theorem dL_law_1046 : decode cL_law 1046 = .ok (.dload 7, 2) := by decide +kernel
theorem dL_law_1048 : decode cL_law 1048 = .ok (.dload 7, 2) := by decide +kernel
theorem dL_law_1050 : decode cL_law 1050 = .ok (.dcmp .l, 1) := by decide +kernel
theorem dL_law_1051 : decode cL_law 1051 = .ok (.ifCond .ne 5, 3) := by decide +kernel
theorem dL_law_1054 : decode cL_law 1054 = .ok (.iconst 0, 1) := by decide +kernel
theorem dL_law_1055 : decode cL_law 1055 = .ok (.ireturn, 1) := by decide +kernel
theorem dL_law_1056 : decode cL_law 1056 = .ok (.goto 1334, 3) := by decide +kernel
theorem dL_law_1059 : decode cL_law 1059 = .ok (.aload_n 1, 1) := by decide +kernel
theorem dL_law_1060 : decode cL_law 1060 = .ok (.aload_n 0, 1) := by decide +kernel
theorem dL_law_1061 : decode cL_law 1061 = .ok (.iload 5, 2) := by decide +kernel
theorem dL_law_1063 : decode cL_law 1063 = .ok (.iconst 1, 1) := by decide +kernel
theorem dL_law_1064 : decode cL_law 1064 = .ok (.iadd, 1) := by decide +kernel
theorem dL_law_1065 : decode cL_law 1065 = .ok (.iaload, 1) := by decide +kernel
theorem dL_law_1066 : decode cL_law 1066 = .ok (.aload_n 0, 1) := by decide +kernel
theorem dL_law_1067 : decode cL_law 1067 = .ok (.iload 5, 2) := by decide +kernel
theorem dL_law_1069 : decode cL_law 1069 = .ok (.iconst 2, 1) := by decide +kernel
theorem dL_law_1070 : decode cL_law 1070 = .ok (.iadd, 1) := by decide +kernel
theorem dL_law_1071 : decode cL_law 1071 = .ok (.iaload, 1) := by decide +kernel
theorem dL_law_1072 : decode cL_law 1072 = .ok (.aload_n 0, 1) := by decide +kernel
theorem dL_law_1073 : decode cL_law 1073 = .ok (.iload 5, 2) := by decide +kernel
theorem dL_law_1075 : decode cL_law 1075 = .ok (.iconst 3, 1) := by decide +kernel
theorem dL_law_1076 : decode cL_law 1076 = .ok (.iadd, 1) := by decide +kernel
theorem dL_law_1077 : decode cL_law 1077 = .ok (.iaload, 1) := by decide +kernel
theorem dL_law_1078 : decode cL_law 1078 = .ok (.ifCond .eq 7, 3) := by decide +kernel
theorem dL_law_1081 : decode cL_law 1081 = .ok (.iconst 1, 1) := by decide +kernel
theorem dL_law_1082 : decode cL_law 1082 = .ok (.goto 4, 3) := by decide +kernel
theorem dL_law_1085 : decode cL_law 1085 = .ok (.iconst 0, 1) := by decide +kernel
theorem dL_law_1086 : decode cL_law 1086 = .ok (.aload_n 3, 1) := by decide +kernel
theorem dL_law_1087 : decode cL_law 1087 = .ok (.invokestatic 167, 3) := by decide +kernel
theorem dL_law_1090 : decode cL_law 1090 = .ok (.istore 6, 2) := by decide +kernel
theorem dL_law_1092 : decode cL_law 1092 = .ok (.aload_n 2, 1) := by decide +kernel
theorem dL_law_1093 : decode cL_law 1093 = .ok (.aload_n 0, 1) := by decide +kernel
theorem dL_law_1094 : decode cL_law 1094 = .ok (.iload 5, 2) := by decide +kernel
theorem dL_law_1096 : decode cL_law 1096 = .ok (.iconst 1, 1) := by decide +kernel
theorem dL_law_1097 : decode cL_law 1097 = .ok (.iadd, 1) := by decide +kernel
theorem dL_law_1098 : decode cL_law 1098 = .ok (.iaload, 1) := by decide +kernel
theorem dL_law_1099 : decode cL_law 1099 = .ok (.aload_n 0, 1) := by decide +kernel
theorem dL_law_1100 : decode cL_law 1100 = .ok (.iload 5, 2) := by decide +kernel
theorem dL_law_1102 : decode cL_law 1102 = .ok (.iconst 2, 1) := by decide +kernel
theorem dL_law_1103 : decode cL_law 1103 = .ok (.iadd, 1) := by decide +kernel
theorem dL_law_1104 : decode cL_law 1104 = .ok (.iaload, 1) := by decide +kernel
theorem dL_law_1105 : decode cL_law 1105 = .ok (.aload_n 0, 1) := by decide +kernel
theorem dL_law_1106 : decode cL_law 1106 = .ok (.iload 5, 2) := by decide +kernel
theorem dL_law_1108 : decode cL_law 1108 = .ok (.iconst 3, 1) := by decide +kernel
theorem dL_law_1109 : decode cL_law 1109 = .ok (.iadd, 1) := by decide +kernel
theorem dL_law_1110 : decode cL_law 1110 = .ok (.iaload, 1) := by decide +kernel
theorem dL_law_1111 : decode cL_law 1111 = .ok (.ifCond .eq 7, 3) := by decide +kernel
theorem dL_law_1114 : decode cL_law 1114 = .ok (.iconst 1, 1) := by decide +kernel
theorem dL_law_1115 : decode cL_law 1115 = .ok (.goto 4, 3) := by decide +kernel
theorem dL_law_1118 : decode cL_law 1118 = .ok (.iconst 0, 1) := by decide +kernel
theorem dL_law_1119 : decode cL_law 1119 = .ok (.invokevirtual 170, 3) := by decide +kernel
theorem dL_law_1122 : decode cL_law 1122 = .ok (.istore 7, 2) := by decide +kernel
theorem dL_law_1124 : decode cL_law 1124 = .ok (.aload_n 2, 1) := by decide +kernel
theorem dL_law_1125 : decode cL_law 1125 = .ok (.invokevirtual 124, 3) := by decide +kernel
theorem dL_law_1128 : decode cL_law 1128 = .ok (.iload 6, 2) := by decide +kernel
theorem dL_law_1130 : decode cL_law 1130 = .ok (.if_icmp .eq 5, 3) := by decide +kernel
theorem dL_law_1133 : decode cL_law 1133 = .ok (.iconst 0, 1) := by decide +kernel
theorem dL_law_1134 : decode cL_law 1134 = .ok (.ireturn, 1) := by decide +kernel
theorem dL_law_1135 : decode cL_law 1135 = .ok (.iload 6, 2) := by decide +kernel
theorem dL_law_1137 : decode cL_law 1137 = .ok (.ifCond .ne 15, 3) := by decide +kernel
theorem dL_law_1140 : decode cL_law 1140 = .ok (.aload_n 3, 1) := by decide +kernel
theorem dL_law_1141 : decode cL_law 1141 = .ok (.iconst 0, 1) := by decide +kernel
theorem dL_law_1142 : decode cL_law 1142 = .ok (.laload, 1) := by decide +kernel
theorem dL_law_1143 : decode cL_law 1143 = .ok (.iload 7, 2) := by decide +kernel
theorem dL_law_1145 : decode cL_law 1145 = .ok (.i2l, 1) := by decide +kernel
theorem dL_law_1146 : decode cL_law 1146 = .ok (.lcmp, 1) := by decide +kernel
theorem dL_law_1147 : decode cL_law 1147 = .ok (.ifCond .eq 5, 3) := by decide +kernel
theorem dL_law_1150 : decode cL_law 1150 = .ok (.iconst 0, 1) := by decide +kernel
theorem dL_law_1151 : decode cL_law 1151 = .ok (.ireturn, 1) := by decide +kernel
theorem dL_law_1152 : decode cL_law 1152 = .ok (.goto 1238, 3) := by decide +kernel
theorem dL_law_1155 : decode cL_law 1155 = .ok (.aload_n 1, 1) := by decide +kernel
theorem dL_law_1156 : decode cL_law 1156 = .ok (.aload_n 0, 1) := by decide +kernel
theorem dL_law_1157 : decode cL_law 1157 = .ok (.iload 5, 2) := by decide +kernel
theorem dL_law_1159 : decode cL_law 1159 = .ok (.iconst 1, 1) := by decide +kernel
theorem dL_law_1160 : decode cL_law 1160 = .ok (.iadd, 1) := by decide +kernel
theorem dL_law_1161 : decode cL_law 1161 = .ok (.iaload, 1) := by decide +kernel
theorem dL_law_1162 : decode cL_law 1162 = .ok (.aload_n 0, 1) := by decide +kernel
theorem dL_law_1163 : decode cL_law 1163 = .ok (.iload 5, 2) := by decide +kernel
theorem dL_law_1165 : decode cL_law 1165 = .ok (.iconst 2, 1) := by decide +kernel
theorem dL_law_1166 : decode cL_law 1166 = .ok (.iadd, 1) := by decide +kernel
theorem dL_law_1167 : decode cL_law 1167 = .ok (.iaload, 1) := by decide +kernel
theorem dL_law_1168 : decode cL_law 1168 = .ok (.aload_n 0, 1) := by decide +kernel
theorem dL_law_1169 : decode cL_law 1169 = .ok (.iload 5, 2) := by decide +kernel
theorem dL_law_1171 : decode cL_law 1171 = .ok (.iconst 3, 1) := by decide +kernel
theorem dL_law_1172 : decode cL_law 1172 = .ok (.iadd, 1) := by decide +kernel
theorem dL_law_1173 : decode cL_law 1173 = .ok (.iaload, 1) := by decide +kernel
theorem dL_law_1174 : decode cL_law 1174 = .ok (.aload_n 3, 1) := by decide +kernel
theorem dL_law_1175 : decode cL_law 1175 = .ok (.invokestatic 171, 3) := by decide +kernel
theorem dL_law_1178 : decode cL_law 1178 = .ok (.istore 6, 2) := by decide +kernel
theorem dL_law_1180 : decode cL_law 1180 = .ok (.aload_n 2, 1) := by decide +kernel
theorem dL_law_1181 : decode cL_law 1181 = .ok (.aload_n 0, 1) := by decide +kernel
theorem dL_law_1182 : decode cL_law 1182 = .ok (.iload 5, 2) := by decide +kernel
theorem dL_law_1184 : decode cL_law 1184 = .ok (.iconst 1, 1) := by decide +kernel
theorem dL_law_1185 : decode cL_law 1185 = .ok (.iadd, 1) := by decide +kernel
theorem dL_law_1186 : decode cL_law 1186 = .ok (.iaload, 1) := by decide +kernel
theorem dL_law_1187 : decode cL_law 1187 = .ok (.aload_n 0, 1) := by decide +kernel
theorem dL_law_1188 : decode cL_law 1188 = .ok (.iload 5, 2) := by decide +kernel
theorem dL_law_1190 : decode cL_law 1190 = .ok (.iconst 2, 1) := by decide +kernel
theorem dL_law_1191 : decode cL_law 1191 = .ok (.iadd, 1) := by decide +kernel
theorem dL_law_1192 : decode cL_law 1192 = .ok (.iaload, 1) := by decide +kernel
theorem dL_law_1193 : decode cL_law 1193 = .ok (.aload_n 0, 1) := by decide +kernel
theorem dL_law_1194 : decode cL_law 1194 = .ok (.iload 5, 2) := by decide +kernel
theorem dL_law_1196 : decode cL_law 1196 = .ok (.iconst 3, 1) := by decide +kernel
theorem dL_law_1197 : decode cL_law 1197 = .ok (.iadd, 1) := by decide +kernel
theorem dL_law_1198 : decode cL_law 1198 = .ok (.iaload, 1) := by decide +kernel
theorem dL_law_1199 : decode cL_law 1199 = .ok (.invokevirtual 174, 3) := by decide +kernel
theorem dL_law_1202 : decode cL_law 1202 = .ok (.istore 7, 2) := by decide +kernel
theorem dL_law_1204 : decode cL_law 1204 = .ok (.aload_n 2, 1) := by decide +kernel
theorem dL_law_1205 : decode cL_law 1205 = .ok (.invokevirtual 124, 3) := by decide +kernel
theorem dL_law_1208 : decode cL_law 1208 = .ok (.iload 6, 2) := by decide +kernel
theorem dL_law_1210 : decode cL_law 1210 = .ok (.if_icmp .eq 5, 3) := by decide +kernel
theorem dL_law_1213 : decode cL_law 1213 = .ok (.iconst 0, 1) := by decide +kernel
theorem dL_law_1214 : decode cL_law 1214 = .ok (.ireturn, 1) := by decide +kernel
theorem dL_law_1215 : decode cL_law 1215 = .ok (.iload 6, 2) := by decide +kernel
theorem dL_law_1217 : decode cL_law 1217 = .ok (.ifCond .ne 15, 3) := by decide +kernel
theorem dL_law_1220 : decode cL_law 1220 = .ok (.aload_n 3, 1) := by decide +kernel
theorem dL_law_1221 : decode cL_law 1221 = .ok (.iconst 0, 1) := by decide +kernel
theorem dL_law_1222 : decode cL_law 1222 = .ok (.laload, 1) := by decide +kernel
theorem dL_law_1223 : decode cL_law 1223 = .ok (.iload 7, 2) := by decide +kernel
theorem dL_law_1225 : decode cL_law 1225 = .ok (.i2l, 1) := by decide +kernel
theorem dL_law_1226 : decode cL_law 1226 = .ok (.lcmp, 1) := by decide +kernel
theorem dL_law_1227 : decode cL_law 1227 = .ok (.ifCond .eq 5, 3) := by decide +kernel
theorem dL_law_1230 : decode cL_law 1230 = .ok (.iconst 0, 1) := by decide +kernel
theorem dL_law_1231 : decode cL_law 1231 = .ok (.ireturn, 1) := by decide +kernel
theorem dL_law_1232 : decode cL_law 1232 = .ok (.goto 1158, 3) := by decide +kernel
theorem dL_law_1235 : decode cL_law 1235 = .ok (.aload_n 1, 1) := by decide +kernel
theorem dL_law_1236 : decode cL_law 1236 = .ok (.aload_n 0, 1) := by decide +kernel
theorem dL_law_1237 : decode cL_law 1237 = .ok (.iload 5, 2) := by decide +kernel
theorem dL_law_1239 : decode cL_law 1239 = .ok (.iconst 1, 1) := by decide +kernel
theorem dL_law_1240 : decode cL_law 1240 = .ok (.iadd, 1) := by decide +kernel
theorem dL_law_1241 : decode cL_law 1241 = .ok (.iaload, 1) := by decide +kernel
theorem dL_law_1242 : decode cL_law 1242 = .ok (.aload_n 0, 1) := by decide +kernel
theorem dL_law_1243 : decode cL_law 1243 = .ok (.iload 5, 2) := by decide +kernel
theorem dL_law_1245 : decode cL_law 1245 = .ok (.iconst 2, 1) := by decide +kernel
theorem dL_law_1246 : decode cL_law 1246 = .ok (.iadd, 1) := by decide +kernel
theorem dL_law_1247 : decode cL_law 1247 = .ok (.iaload, 1) := by decide +kernel
theorem dL_law_1248 : decode cL_law 1248 = .ok (.aload_n 0, 1) := by decide +kernel
theorem dL_law_1249 : decode cL_law 1249 = .ok (.iload 5, 2) := by decide +kernel
theorem dL_law_1251 : decode cL_law 1251 = .ok (.iconst 3, 1) := by decide +kernel
theorem dL_law_1252 : decode cL_law 1252 = .ok (.iadd, 1) := by decide +kernel
theorem dL_law_1253 : decode cL_law 1253 = .ok (.iaload, 1) := by decide +kernel
theorem dL_law_1254 : decode cL_law 1254 = .ok (.aload_n 3, 1) := by decide +kernel
theorem dL_law_1255 : decode cL_law 1255 = .ok (.invokestatic 175, 3) := by decide +kernel
theorem dL_law_1258 : decode cL_law 1258 = .ok (.istore 6, 2) := by decide +kernel
theorem dL_law_1260 : decode cL_law 1260 = .ok (.aload_n 2, 1) := by decide +kernel
theorem dL_law_1261 : decode cL_law 1261 = .ok (.aload_n 0, 1) := by decide +kernel
theorem dL_law_1262 : decode cL_law 1262 = .ok (.iload 5, 2) := by decide +kernel
theorem dL_law_1264 : decode cL_law 1264 = .ok (.iconst 1, 1) := by decide +kernel
theorem dL_law_1265 : decode cL_law 1265 = .ok (.iadd, 1) := by decide +kernel
theorem dL_law_1266 : decode cL_law 1266 = .ok (.iaload, 1) := by decide +kernel
theorem dL_law_1267 : decode cL_law 1267 = .ok (.aload_n 0, 1) := by decide +kernel
theorem dL_law_1268 : decode cL_law 1268 = .ok (.iload 5, 2) := by decide +kernel
theorem dL_law_1270 : decode cL_law 1270 = .ok (.iconst 2, 1) := by decide +kernel
theorem dL_law_1271 : decode cL_law 1271 = .ok (.iadd, 1) := by decide +kernel
theorem dL_law_1272 : decode cL_law 1272 = .ok (.iaload, 1) := by decide +kernel
theorem dL_law_1273 : decode cL_law 1273 = .ok (.aload_n 0, 1) := by decide +kernel
theorem dL_law_1274 : decode cL_law 1274 = .ok (.iload 5, 2) := by decide +kernel
theorem dL_law_1276 : decode cL_law 1276 = .ok (.iconst 3, 1) := by decide +kernel
theorem dL_law_1277 : decode cL_law 1277 = .ok (.iadd, 1) := by decide +kernel
theorem dL_law_1278 : decode cL_law 1278 = .ok (.iaload, 1) := by decide +kernel
theorem dL_law_1279 : decode cL_law 1279 = .ok (.invokevirtual 177, 3) := by decide +kernel
theorem dL_law_1282 : decode cL_law 1282 = .ok (.istore 7, 2) := by decide +kernel
theorem dL_law_1284 : decode cL_law 1284 = .ok (.aload_n 2, 1) := by decide +kernel
theorem dL_law_1285 : decode cL_law 1285 = .ok (.invokevirtual 124, 3) := by decide +kernel
theorem dL_law_1288 : decode cL_law 1288 = .ok (.iload 6, 2) := by decide +kernel
theorem dL_law_1290 : decode cL_law 1290 = .ok (.if_icmp .eq 5, 3) := by decide +kernel
theorem dL_law_1293 : decode cL_law 1293 = .ok (.iconst 0, 1) := by decide +kernel
theorem dL_law_1294 : decode cL_law 1294 = .ok (.ireturn, 1) := by decide +kernel
theorem dL_law_1295 : decode cL_law 1295 = .ok (.iload 6, 2) := by decide +kernel
theorem dL_law_1297 : decode cL_law 1297 = .ok (.ifCond .ne 15, 3) := by decide +kernel
theorem dL_law_1300 : decode cL_law 1300 = .ok (.aload_n 3, 1) := by decide +kernel
theorem dL_law_1301 : decode cL_law 1301 = .ok (.iconst 0, 1) := by decide +kernel
theorem dL_law_1302 : decode cL_law 1302 = .ok (.laload, 1) := by decide +kernel
theorem dL_law_1303 : decode cL_law 1303 = .ok (.iload 7, 2) := by decide +kernel
theorem dL_law_1305 : decode cL_law 1305 = .ok (.i2l, 1) := by decide +kernel
theorem dL_law_1306 : decode cL_law 1306 = .ok (.lcmp, 1) := by decide +kernel
theorem dL_law_1307 : decode cL_law 1307 = .ok (.ifCond .eq 5, 3) := by decide +kernel
theorem dL_law_1310 : decode cL_law 1310 = .ok (.iconst 0, 1) := by decide +kernel
theorem dL_law_1311 : decode cL_law 1311 = .ok (.ireturn, 1) := by decide +kernel
theorem dL_law_1312 : decode cL_law 1312 = .ok (.goto 1078, 3) := by decide +kernel
theorem dL_law_1315 : decode cL_law 1315 = .ok (.aload_n 1, 1) := by decide +kernel
theorem dL_law_1316 : decode cL_law 1316 = .ok (.aload_n 0, 1) := by decide +kernel
theorem dL_law_1317 : decode cL_law 1317 = .ok (.iload 5, 2) := by decide +kernel
theorem dL_law_1319 : decode cL_law 1319 = .ok (.iconst 1, 1) := by decide +kernel
theorem dL_law_1320 : decode cL_law 1320 = .ok (.iadd, 1) := by decide +kernel
theorem dL_law_1321 : decode cL_law 1321 = .ok (.iaload, 1) := by decide +kernel
theorem dL_law_1322 : decode cL_law 1322 = .ok (.aload_n 0, 1) := by decide +kernel
theorem dL_law_1323 : decode cL_law 1323 = .ok (.iload 5, 2) := by decide +kernel
theorem dL_law_1325 : decode cL_law 1325 = .ok (.iconst 2, 1) := by decide +kernel
theorem dL_law_1326 : decode cL_law 1326 = .ok (.iadd, 1) := by decide +kernel
theorem dL_law_1327 : decode cL_law 1327 = .ok (.iaload, 1) := by decide +kernel
theorem dL_law_1328 : decode cL_law 1328 = .ok (.aload_n 0, 1) := by decide +kernel
theorem dL_law_1329 : decode cL_law 1329 = .ok (.iload 5, 2) := by decide +kernel
theorem dL_law_1331 : decode cL_law 1331 = .ok (.iconst 3, 1) := by decide +kernel
theorem dL_law_1332 : decode cL_law 1332 = .ok (.iadd, 1) := by decide +kernel
theorem dL_law_1333 : decode cL_law 1333 = .ok (.iaload, 1) := by decide +kernel
theorem dL_law_1334 : decode cL_law 1334 = .ok (.aload_n 3, 1) := by decide +kernel
theorem dL_law_1335 : decode cL_law 1335 = .ok (.invokestatic 178, 3) := by decide +kernel
theorem dL_law_1338 : decode cL_law 1338 = .ok (.istore 6, 2) := by decide +kernel
theorem dL_law_1340 : decode cL_law 1340 = .ok (.aload_n 2, 1) := by decide +kernel
theorem dL_law_1341 : decode cL_law 1341 = .ok (.aload_n 0, 1) := by decide +kernel
theorem dL_law_1342 : decode cL_law 1342 = .ok (.iload 5, 2) := by decide +kernel
theorem dL_law_1344 : decode cL_law 1344 = .ok (.iconst 1, 1) := by decide +kernel
theorem dL_law_1345 : decode cL_law 1345 = .ok (.iadd, 1) := by decide +kernel
theorem dL_law_1346 : decode cL_law 1346 = .ok (.iaload, 1) := by decide +kernel
theorem dL_law_1347 : decode cL_law 1347 = .ok (.aload_n 0, 1) := by decide +kernel
theorem dL_law_1348 : decode cL_law 1348 = .ok (.iload 5, 2) := by decide +kernel
theorem dL_law_1350 : decode cL_law 1350 = .ok (.iconst 2, 1) := by decide +kernel
theorem dL_law_1351 : decode cL_law 1351 = .ok (.iadd, 1) := by decide +kernel
theorem dL_law_1352 : decode cL_law 1352 = .ok (.iaload, 1) := by decide +kernel
theorem dL_law_1353 : decode cL_law 1353 = .ok (.aload_n 0, 1) := by decide +kernel
theorem dL_law_1354 : decode cL_law 1354 = .ok (.iload 5, 2) := by decide +kernel
theorem dL_law_1356 : decode cL_law 1356 = .ok (.iconst 3, 1) := by decide +kernel
theorem dL_law_1357 : decode cL_law 1357 = .ok (.iadd, 1) := by decide +kernel
theorem dL_law_1358 : decode cL_law 1358 = .ok (.iaload, 1) := by decide +kernel
theorem dL_law_1359 : decode cL_law 1359 = .ok (.invokevirtual 180, 3) := by decide +kernel
theorem dL_law_1362 : decode cL_law 1362 = .ok (.istore 7, 2) := by decide +kernel
theorem dL_law_1364 : decode cL_law 1364 = .ok (.aload_n 2, 1) := by decide +kernel
theorem dL_law_1365 : decode cL_law 1365 = .ok (.invokevirtual 124, 3) := by decide +kernel
theorem dL_law_1368 : decode cL_law 1368 = .ok (.iload 6, 2) := by decide +kernel
theorem dL_law_1370 : decode cL_law 1370 = .ok (.if_icmp .eq 5, 3) := by decide +kernel
theorem dL_law_1373 : decode cL_law 1373 = .ok (.iconst 0, 1) := by decide +kernel
theorem dL_law_1374 : decode cL_law 1374 = .ok (.ireturn, 1) := by decide +kernel
theorem dL_law_1375 : decode cL_law 1375 = .ok (.iload 6, 2) := by decide +kernel
theorem dL_law_1377 : decode cL_law 1377 = .ok (.ifCond .ne 15, 3) := by decide +kernel
theorem dL_law_1380 : decode cL_law 1380 = .ok (.aload_n 3, 1) := by decide +kernel
theorem dL_law_1381 : decode cL_law 1381 = .ok (.iconst 0, 1) := by decide +kernel
theorem dL_law_1382 : decode cL_law 1382 = .ok (.laload, 1) := by decide +kernel
theorem dL_law_1383 : decode cL_law 1383 = .ok (.iload 7, 2) := by decide +kernel
theorem dL_law_1385 : decode cL_law 1385 = .ok (.i2l, 1) := by decide +kernel
theorem dL_law_1386 : decode cL_law 1386 = .ok (.lcmp, 1) := by decide +kernel
theorem dL_law_1387 : decode cL_law 1387 = .ok (.ifCond .eq 5, 3) := by decide +kernel
theorem dL_law_1390 : decode cL_law 1390 = .ok (.iconst 0, 1) := by decide +kernel
theorem dL_law_1391 : decode cL_law 1391 = .ok (.ireturn, 1) := by decide +kernel
theorem dL_law_1392 : decode cL_law 1392 = .ok (.goto 998, 3) := by decide +kernel
theorem dL_law_1395 : decode cL_law 1395 = .ok (.aload_n 1, 1) := by decide +kernel
theorem dL_law_1396 : decode cL_law 1396 = .ok (.aload_n 0, 1) := by decide +kernel
theorem dL_law_1397 : decode cL_law 1397 = .ok (.iload 5, 2) := by decide +kernel
theorem dL_law_1399 : decode cL_law 1399 = .ok (.iconst 1, 1) := by decide +kernel
theorem dL_law_1400 : decode cL_law 1400 = .ok (.iadd, 1) := by decide +kernel
theorem dL_law_1401 : decode cL_law 1401 = .ok (.iaload, 1) := by decide +kernel
theorem dL_law_1402 : decode cL_law 1402 = .ok (.aload_n 0, 1) := by decide +kernel
theorem dL_law_1403 : decode cL_law 1403 = .ok (.iload 5, 2) := by decide +kernel
theorem dL_law_1405 : decode cL_law 1405 = .ok (.iconst 2, 1) := by decide +kernel
theorem dL_law_1406 : decode cL_law 1406 = .ok (.iadd, 1) := by decide +kernel
theorem dL_law_1407 : decode cL_law 1407 = .ok (.iaload, 1) := by decide +kernel
theorem dL_law_1408 : decode cL_law 1408 = .ok (.aload_n 0, 1) := by decide +kernel
theorem dL_law_1409 : decode cL_law 1409 = .ok (.iload 5, 2) := by decide +kernel
theorem dL_law_1411 : decode cL_law 1411 = .ok (.iconst 3, 1) := by decide +kernel
theorem dL_law_1412 : decode cL_law 1412 = .ok (.iadd, 1) := by decide +kernel
theorem dL_law_1413 : decode cL_law 1413 = .ok (.iaload, 1) := by decide +kernel
theorem dL_law_1414 : decode cL_law 1414 = .ok (.aload_n 3, 1) := by decide +kernel
theorem dL_law_1415 : decode cL_law 1415 = .ok (.invokestatic 181, 3) := by decide +kernel
theorem dL_law_1418 : decode cL_law 1418 = .ok (.istore 6, 2) := by decide +kernel
theorem dL_law_1420 : decode cL_law 1420 = .ok (.aload_n 2, 1) := by decide +kernel
theorem dL_law_1421 : decode cL_law 1421 = .ok (.aload_n 0, 1) := by decide +kernel
theorem dL_law_1422 : decode cL_law 1422 = .ok (.iload 5, 2) := by decide +kernel
theorem dL_law_1424 : decode cL_law 1424 = .ok (.iconst 1, 1) := by decide +kernel
theorem dL_law_1425 : decode cL_law 1425 = .ok (.iadd, 1) := by decide +kernel
theorem dL_law_1426 : decode cL_law 1426 = .ok (.iaload, 1) := by decide +kernel
theorem dL_law_1427 : decode cL_law 1427 = .ok (.aload_n 0, 1) := by decide +kernel
theorem dL_law_1428 : decode cL_law 1428 = .ok (.iload 5, 2) := by decide +kernel
theorem dL_law_1430 : decode cL_law 1430 = .ok (.iconst 2, 1) := by decide +kernel
theorem dL_law_1431 : decode cL_law 1431 = .ok (.iadd, 1) := by decide +kernel
theorem dL_law_1432 : decode cL_law 1432 = .ok (.iaload, 1) := by decide +kernel
theorem dL_law_1433 : decode cL_law 1433 = .ok (.aload_n 0, 1) := by decide +kernel
theorem dL_law_1434 : decode cL_law 1434 = .ok (.iload 5, 2) := by decide +kernel
theorem dL_law_1436 : decode cL_law 1436 = .ok (.iconst 3, 1) := by decide +kernel
theorem dL_law_1437 : decode cL_law 1437 = .ok (.iadd, 1) := by decide +kernel
theorem dL_law_1438 : decode cL_law 1438 = .ok (.iaload, 1) := by decide +kernel
theorem dL_law_1439 : decode cL_law 1439 = .ok (.invokevirtual 183, 3) := by decide +kernel
theorem dL_law_1442 : decode cL_law 1442 = .ok (.istore 7, 2) := by decide +kernel
theorem dL_law_1444 : decode cL_law 1444 = .ok (.aload_n 2, 1) := by decide +kernel
theorem dL_law_1445 : decode cL_law 1445 = .ok (.invokevirtual 124, 3) := by decide +kernel
theorem dL_law_1448 : decode cL_law 1448 = .ok (.iload 6, 2) := by decide +kernel
theorem dL_law_1450 : decode cL_law 1450 = .ok (.if_icmp .eq 5, 3) := by decide +kernel
theorem dL_law_1453 : decode cL_law 1453 = .ok (.iconst 0, 1) := by decide +kernel
theorem dL_law_1454 : decode cL_law 1454 = .ok (.ireturn, 1) := by decide +kernel
theorem dL_law_1455 : decode cL_law 1455 = .ok (.iload 6, 2) := by decide +kernel
theorem dL_law_1457 : decode cL_law 1457 = .ok (.ifCond .ne 15, 3) := by decide +kernel
theorem dL_law_1460 : decode cL_law 1460 = .ok (.aload_n 3, 1) := by decide +kernel
theorem dL_law_1461 : decode cL_law 1461 = .ok (.iconst 0, 1) := by decide +kernel
theorem dL_law_1462 : decode cL_law 1462 = .ok (.laload, 1) := by decide +kernel
theorem dL_law_1463 : decode cL_law 1463 = .ok (.iload 7, 2) := by decide +kernel
theorem dL_law_1465 : decode cL_law 1465 = .ok (.i2l, 1) := by decide +kernel
theorem dL_law_1466 : decode cL_law 1466 = .ok (.lcmp, 1) := by decide +kernel
theorem dL_law_1467 : decode cL_law 1467 = .ok (.ifCond .eq 5, 3) := by decide +kernel
theorem dL_law_1470 : decode cL_law 1470 = .ok (.iconst 0, 1) := by decide +kernel
theorem dL_law_1471 : decode cL_law 1471 = .ok (.ireturn, 1) := by decide +kernel
theorem dL_law_1472 : decode cL_law 1472 = .ok (.goto 918, 3) := by decide +kernel
theorem dL_law_1475 : decode cL_law 1475 = .ok (.aload_n 1, 1) := by decide +kernel
theorem dL_law_1476 : decode cL_law 1476 = .ok (.aload_n 0, 1) := by decide +kernel
theorem dL_law_1477 : decode cL_law 1477 = .ok (.iload 5, 2) := by decide +kernel
theorem dL_law_1479 : decode cL_law 1479 = .ok (.iconst 1, 1) := by decide +kernel
theorem dL_law_1480 : decode cL_law 1480 = .ok (.iadd, 1) := by decide +kernel
theorem dL_law_1481 : decode cL_law 1481 = .ok (.iaload, 1) := by decide +kernel
theorem dL_law_1482 : decode cL_law 1482 = .ok (.aload_n 0, 1) := by decide +kernel
theorem dL_law_1483 : decode cL_law 1483 = .ok (.iload 5, 2) := by decide +kernel
theorem dL_law_1485 : decode cL_law 1485 = .ok (.iconst 2, 1) := by decide +kernel
theorem dL_law_1486 : decode cL_law 1486 = .ok (.iadd, 1) := by decide +kernel
theorem dL_law_1487 : decode cL_law 1487 = .ok (.iaload, 1) := by decide +kernel
theorem dL_law_1488 : decode cL_law 1488 = .ok (.aload_n 0, 1) := by decide +kernel
theorem dL_law_1489 : decode cL_law 1489 = .ok (.iload 5, 2) := by decide +kernel
theorem dL_law_1491 : decode cL_law 1491 = .ok (.iconst 3, 1) := by decide +kernel
theorem dL_law_1492 : decode cL_law 1492 = .ok (.iadd, 1) := by decide +kernel
theorem dL_law_1493 : decode cL_law 1493 = .ok (.iaload, 1) := by decide +kernel
theorem dL_law_1494 : decode cL_law 1494 = .ok (.i2l, 1) := by decide +kernel
theorem dL_law_1495 : decode cL_law 1495 = .ok (.bipush 32, 2) := by decide +kernel
theorem dL_law_1497 : decode cL_law 1497 = .ok (.lshl, 1) := by decide +kernel
theorem dL_law_1498 : decode cL_law 1498 = .ok (.aload_n 0, 1) := by decide +kernel
theorem dL_law_1499 : decode cL_law 1499 = .ok (.iload 5, 2) := by decide +kernel
theorem dL_law_1501 : decode cL_law 1501 = .ok (.iconst 4, 1) := by decide +kernel
theorem dL_law_1502 : decode cL_law 1502 = .ok (.iadd, 1) := by decide +kernel
theorem dL_law_1503 : decode cL_law 1503 = .ok (.iaload, 1) := by decide +kernel
theorem dL_law_1504 : decode cL_law 1504 = .ok (.i2l, 1) := by decide +kernel
theorem dL_law_1505 : decode cL_law 1505 = .ok (.ldc2_w 184, 3) := by decide +kernel
theorem dL_law_1508 : decode cL_law 1508 = .ok (.land, 1) := by decide +kernel
theorem dL_law_1509 : decode cL_law 1509 = .ok (.lor, 1) := by decide +kernel
theorem dL_law_1510 : decode cL_law 1510 = .ok (.aload_n 3, 1) := by decide +kernel
theorem dL_law_1511 : decode cL_law 1511 = .ok (.invokestatic 186, 3) := by decide +kernel
theorem dL_law_1514 : decode cL_law 1514 = .ok (.istore 6, 2) := by decide +kernel
theorem dL_law_1516 : decode cL_law 1516 = .ok (.aload_n 2, 1) := by decide +kernel
theorem dL_law_1517 : decode cL_law 1517 = .ok (.aload_n 0, 1) := by decide +kernel
theorem dL_law_1518 : decode cL_law 1518 = .ok (.iload 5, 2) := by decide +kernel
theorem dL_law_1520 : decode cL_law 1520 = .ok (.iconst 1, 1) := by decide +kernel
theorem dL_law_1521 : decode cL_law 1521 = .ok (.iadd, 1) := by decide +kernel
theorem dL_law_1522 : decode cL_law 1522 = .ok (.iaload, 1) := by decide +kernel
theorem dL_law_1523 : decode cL_law 1523 = .ok (.aload_n 0, 1) := by decide +kernel
theorem dL_law_1524 : decode cL_law 1524 = .ok (.iload 5, 2) := by decide +kernel
theorem dL_law_1526 : decode cL_law 1526 = .ok (.iconst 2, 1) := by decide +kernel
theorem dL_law_1527 : decode cL_law 1527 = .ok (.iadd, 1) := by decide +kernel
theorem dL_law_1528 : decode cL_law 1528 = .ok (.iaload, 1) := by decide +kernel
theorem dL_law_1529 : decode cL_law 1529 = .ok (.aload_n 0, 1) := by decide +kernel
theorem dL_law_1530 : decode cL_law 1530 = .ok (.iload 5, 2) := by decide +kernel
theorem dL_law_1532 : decode cL_law 1532 = .ok (.iconst 3, 1) := by decide +kernel
theorem dL_law_1533 : decode cL_law 1533 = .ok (.iadd, 1) := by decide +kernel
theorem dL_law_1534 : decode cL_law 1534 = .ok (.iaload, 1) := by decide +kernel
theorem dL_law_1535 : decode cL_law 1535 = .ok (.i2l, 1) := by decide +kernel
theorem dL_law_1536 : decode cL_law 1536 = .ok (.bipush 32, 2) := by decide +kernel
theorem dL_law_1538 : decode cL_law 1538 = .ok (.lshl, 1) := by decide +kernel
theorem dL_law_1539 : decode cL_law 1539 = .ok (.aload_n 0, 1) := by decide +kernel
theorem dL_law_1540 : decode cL_law 1540 = .ok (.iload 5, 2) := by decide +kernel
theorem dL_law_1542 : decode cL_law 1542 = .ok (.iconst 4, 1) := by decide +kernel
theorem dL_law_1543 : decode cL_law 1543 = .ok (.iadd, 1) := by decide +kernel
theorem dL_law_1544 : decode cL_law 1544 = .ok (.iaload, 1) := by decide +kernel
theorem dL_law_1545 : decode cL_law 1545 = .ok (.i2l, 1) := by decide +kernel
theorem dL_law_1546 : decode cL_law 1546 = .ok (.ldc2_w 184, 3) := by decide +kernel
theorem dL_law_1549 : decode cL_law 1549 = .ok (.land, 1) := by decide +kernel
theorem dL_law_1550 : decode cL_law 1550 = .ok (.lor, 1) := by decide +kernel
theorem dL_law_1551 : decode cL_law 1551 = .ok (.invokevirtual 189, 3) := by decide +kernel
theorem dL_law_1554 : decode cL_law 1554 = .ok (.istore 7, 2) := by decide +kernel
theorem dL_law_1556 : decode cL_law 1556 = .ok (.aload_n 2, 1) := by decide +kernel
theorem dL_law_1557 : decode cL_law 1557 = .ok (.invokevirtual 124, 3) := by decide +kernel
theorem dL_law_1560 : decode cL_law 1560 = .ok (.iload 6, 2) := by decide +kernel
theorem dL_law_1562 : decode cL_law 1562 = .ok (.if_icmp .eq 5, 3) := by decide +kernel
theorem dL_law_1565 : decode cL_law 1565 = .ok (.iconst 0, 1) := by decide +kernel
theorem dL_law_1566 : decode cL_law 1566 = .ok (.ireturn, 1) := by decide +kernel
theorem dL_law_1567 : decode cL_law 1567 = .ok (.iload 6, 2) := by decide +kernel
theorem dL_law_1569 : decode cL_law 1569 = .ok (.ifCond .ne 15, 3) := by decide +kernel
theorem dL_law_1572 : decode cL_law 1572 = .ok (.aload_n 3, 1) := by decide +kernel
theorem dL_law_1573 : decode cL_law 1573 = .ok (.iconst 0, 1) := by decide +kernel
theorem dL_law_1574 : decode cL_law 1574 = .ok (.laload, 1) := by decide +kernel
theorem dL_law_1575 : decode cL_law 1575 = .ok (.iload 7, 2) := by decide +kernel
theorem dL_law_1577 : decode cL_law 1577 = .ok (.i2l, 1) := by decide +kernel
theorem dL_law_1578 : decode cL_law 1578 = .ok (.lcmp, 1) := by decide +kernel
theorem dL_law_1579 : decode cL_law 1579 = .ok (.ifCond .eq 5, 3) := by decide +kernel
theorem dL_law_1582 : decode cL_law 1582 = .ok (.iconst 0, 1) := by decide +kernel
theorem dL_law_1583 : decode cL_law 1583 = .ok (.ireturn, 1) := by decide +kernel
theorem dL_law_1584 : decode cL_law 1584 = .ok (.goto 806, 3) := by decide +kernel
theorem dL_law_1587 : decode cL_law 1587 = .ok (.aload_n 1, 1) := by decide +kernel
theorem dL_law_1588 : decode cL_law 1588 = .ok (.aload_n 0, 1) := by decide +kernel
theorem dL_law_1589 : decode cL_law 1589 = .ok (.iload 5, 2) := by decide +kernel
theorem dL_law_1591 : decode cL_law 1591 = .ok (.iconst 1, 1) := by decide +kernel
theorem dL_law_1592 : decode cL_law 1592 = .ok (.iadd, 1) := by decide +kernel
theorem dL_law_1593 : decode cL_law 1593 = .ok (.iaload, 1) := by decide +kernel
theorem dL_law_1594 : decode cL_law 1594 = .ok (.aload_n 0, 1) := by decide +kernel
theorem dL_law_1595 : decode cL_law 1595 = .ok (.iload 5, 2) := by decide +kernel
theorem dL_law_1597 : decode cL_law 1597 = .ok (.iconst 2, 1) := by decide +kernel
theorem dL_law_1598 : decode cL_law 1598 = .ok (.iadd, 1) := by decide +kernel
theorem dL_law_1599 : decode cL_law 1599 = .ok (.iaload, 1) := by decide +kernel
theorem dL_law_1600 : decode cL_law 1600 = .ok (.aload_n 0, 1) := by decide +kernel
theorem dL_law_1601 : decode cL_law 1601 = .ok (.iload 5, 2) := by decide +kernel
theorem dL_law_1603 : decode cL_law 1603 = .ok (.iconst 3, 1) := by decide +kernel
theorem dL_law_1604 : decode cL_law 1604 = .ok (.iadd, 1) := by decide +kernel
theorem dL_law_1605 : decode cL_law 1605 = .ok (.iaload, 1) := by decide +kernel
theorem dL_law_1606 : decode cL_law 1606 = .ok (.i2f, 1) := by decide +kernel
theorem dL_law_1607 : decode cL_law 1607 = .ok (.ldc 190, 2) := by decide +kernel
theorem dL_law_1609 : decode cL_law 1609 = .ok (.fmul, 1) := by decide +kernel
theorem dL_law_1610 : decode cL_law 1610 = .ok (.aload_n 3, 1) := by decide +kernel
theorem dL_law_1611 : decode cL_law 1611 = .ok (.invokestatic 191, 3) := by decide +kernel
theorem dL_law_1614 : decode cL_law 1614 = .ok (.istore 6, 2) := by decide +kernel
theorem dL_law_1616 : decode cL_law 1616 = .ok (.aload_n 2, 1) := by decide +kernel
theorem dL_law_1617 : decode cL_law 1617 = .ok (.aload_n 0, 1) := by decide +kernel
theorem dL_law_1618 : decode cL_law 1618 = .ok (.iload 5, 2) := by decide +kernel
theorem dL_law_1620 : decode cL_law 1620 = .ok (.iconst 1, 1) := by decide +kernel
theorem dL_law_1621 : decode cL_law 1621 = .ok (.iadd, 1) := by decide +kernel
theorem dL_law_1622 : decode cL_law 1622 = .ok (.iaload, 1) := by decide +kernel
theorem dL_law_1623 : decode cL_law 1623 = .ok (.aload_n 0, 1) := by decide +kernel
theorem dL_law_1624 : decode cL_law 1624 = .ok (.iload 5, 2) := by decide +kernel
theorem dL_law_1626 : decode cL_law 1626 = .ok (.iconst 2, 1) := by decide +kernel
theorem dL_law_1627 : decode cL_law 1627 = .ok (.iadd, 1) := by decide +kernel
theorem dL_law_1628 : decode cL_law 1628 = .ok (.iaload, 1) := by decide +kernel
theorem dL_law_1629 : decode cL_law 1629 = .ok (.aload_n 0, 1) := by decide +kernel
theorem dL_law_1630 : decode cL_law 1630 = .ok (.iload 5, 2) := by decide +kernel
theorem dL_law_1632 : decode cL_law 1632 = .ok (.iconst 3, 1) := by decide +kernel
theorem dL_law_1633 : decode cL_law 1633 = .ok (.iadd, 1) := by decide +kernel
theorem dL_law_1634 : decode cL_law 1634 = .ok (.iaload, 1) := by decide +kernel
theorem dL_law_1635 : decode cL_law 1635 = .ok (.i2f, 1) := by decide +kernel
theorem dL_law_1636 : decode cL_law 1636 = .ok (.ldc 190, 2) := by decide +kernel
theorem dL_law_1638 : decode cL_law 1638 = .ok (.fmul, 1) := by decide +kernel
theorem dL_law_1639 : decode cL_law 1639 = .ok (.invokevirtual 194, 3) := by decide +kernel
theorem dL_law_1642 : decode cL_law 1642 = .ok (.istore 7, 2) := by decide +kernel
theorem dL_law_1644 : decode cL_law 1644 = .ok (.aload_n 2, 1) := by decide +kernel
theorem dL_law_1645 : decode cL_law 1645 = .ok (.invokevirtual 124, 3) := by decide +kernel
theorem dL_law_1648 : decode cL_law 1648 = .ok (.iload 6, 2) := by decide +kernel
theorem dL_law_1650 : decode cL_law 1650 = .ok (.if_icmp .eq 5, 3) := by decide +kernel
theorem dL_law_1653 : decode cL_law 1653 = .ok (.iconst 0, 1) := by decide +kernel
theorem dL_law_1654 : decode cL_law 1654 = .ok (.ireturn, 1) := by decide +kernel
theorem dL_law_1655 : decode cL_law 1655 = .ok (.iload 6, 2) := by decide +kernel
theorem dL_law_1657 : decode cL_law 1657 = .ok (.ifCond .ne 15, 3) := by decide +kernel
theorem dL_law_1660 : decode cL_law 1660 = .ok (.aload_n 3, 1) := by decide +kernel
theorem dL_law_1661 : decode cL_law 1661 = .ok (.iconst 0, 1) := by decide +kernel
theorem dL_law_1662 : decode cL_law 1662 = .ok (.laload, 1) := by decide +kernel
theorem dL_law_1663 : decode cL_law 1663 = .ok (.iload 7, 2) := by decide +kernel
theorem dL_law_1665 : decode cL_law 1665 = .ok (.i2l, 1) := by decide +kernel
theorem dL_law_1666 : decode cL_law 1666 = .ok (.lcmp, 1) := by decide +kernel
theorem dL_law_1667 : decode cL_law 1667 = .ok (.ifCond .eq 5, 3) := by decide +kernel
theorem dL_law_1670 : decode cL_law 1670 = .ok (.iconst 0, 1) := by decide +kernel
theorem dL_law_1671 : decode cL_law 1671 = .ok (.ireturn, 1) := by decide +kernel
theorem dL_law_1672 : decode cL_law 1672 = .ok (.goto 718, 3) := by decide +kernel
theorem dL_law_1675 : decode cL_law 1675 = .ok (.aload_n 1, 1) := by decide +kernel
theorem dL_law_1676 : decode cL_law 1676 = .ok (.aload_n 0, 1) := by decide +kernel
theorem dL_law_1677 : decode cL_law 1677 = .ok (.iload 5, 2) := by decide +kernel
theorem dL_law_1679 : decode cL_law 1679 = .ok (.iconst 1, 1) := by decide +kernel
theorem dL_law_1680 : decode cL_law 1680 = .ok (.iadd, 1) := by decide +kernel
theorem dL_law_1681 : decode cL_law 1681 = .ok (.iaload, 1) := by decide +kernel
theorem dL_law_1682 : decode cL_law 1682 = .ok (.aload_n 0, 1) := by decide +kernel
theorem dL_law_1683 : decode cL_law 1683 = .ok (.iload 5, 2) := by decide +kernel
theorem dL_law_1685 : decode cL_law 1685 = .ok (.iconst 2, 1) := by decide +kernel
theorem dL_law_1686 : decode cL_law 1686 = .ok (.iadd, 1) := by decide +kernel
theorem dL_law_1687 : decode cL_law 1687 = .ok (.iaload, 1) := by decide +kernel
theorem dL_law_1688 : decode cL_law 1688 = .ok (.aload_n 0, 1) := by decide +kernel
theorem dL_law_1689 : decode cL_law 1689 = .ok (.iload 5, 2) := by decide +kernel
theorem dL_law_1691 : decode cL_law 1691 = .ok (.iconst 3, 1) := by decide +kernel
theorem dL_law_1692 : decode cL_law 1692 = .ok (.iadd, 1) := by decide +kernel
theorem dL_law_1693 : decode cL_law 1693 = .ok (.iaload, 1) := by decide +kernel
theorem dL_law_1694 : decode cL_law 1694 = .ok (.i2d, 1) := by decide +kernel
theorem dL_law_1695 : decode cL_law 1695 = .ok (.ldc2_w 195, 3) := by decide +kernel
theorem dL_law_1698 : decode cL_law 1698 = .ok (.dmul, 1) := by decide +kernel
theorem dL_law_1699 : decode cL_law 1699 = .ok (.aload_n 3, 1) := by decide +kernel
theorem dL_law_1700 : decode cL_law 1700 = .ok (.invokestatic 197, 3) := by decide +kernel
theorem dL_law_1703 : decode cL_law 1703 = .ok (.istore 6, 2) := by decide +kernel
theorem dL_law_1705 : decode cL_law 1705 = .ok (.aload_n 2, 1) := by decide +kernel
theorem dL_law_1706 : decode cL_law 1706 = .ok (.aload_n 0, 1) := by decide +kernel
theorem dL_law_1707 : decode cL_law 1707 = .ok (.iload 5, 2) := by decide +kernel
theorem dL_law_1709 : decode cL_law 1709 = .ok (.iconst 1, 1) := by decide +kernel
theorem dL_law_1710 : decode cL_law 1710 = .ok (.iadd, 1) := by decide +kernel
theorem dL_law_1711 : decode cL_law 1711 = .ok (.iaload, 1) := by decide +kernel
theorem dL_law_1712 : decode cL_law 1712 = .ok (.aload_n 0, 1) := by decide +kernel
theorem dL_law_1713 : decode cL_law 1713 = .ok (.iload 5, 2) := by decide +kernel
theorem dL_law_1715 : decode cL_law 1715 = .ok (.iconst 2, 1) := by decide +kernel
theorem dL_law_1716 : decode cL_law 1716 = .ok (.iadd, 1) := by decide +kernel
theorem dL_law_1717 : decode cL_law 1717 = .ok (.iaload, 1) := by decide +kernel
theorem dL_law_1718 : decode cL_law 1718 = .ok (.aload_n 0, 1) := by decide +kernel
theorem dL_law_1719 : decode cL_law 1719 = .ok (.iload 5, 2) := by decide +kernel
theorem dL_law_1721 : decode cL_law 1721 = .ok (.iconst 3, 1) := by decide +kernel
theorem dL_law_1722 : decode cL_law 1722 = .ok (.iadd, 1) := by decide +kernel
theorem dL_law_1723 : decode cL_law 1723 = .ok (.iaload, 1) := by decide +kernel
theorem dL_law_1724 : decode cL_law 1724 = .ok (.i2d, 1) := by decide +kernel
theorem dL_law_1725 : decode cL_law 1725 = .ok (.ldc2_w 195, 3) := by decide +kernel
theorem dL_law_1728 : decode cL_law 1728 = .ok (.dmul, 1) := by decide +kernel
theorem dL_law_1729 : decode cL_law 1729 = .ok (.invokevirtual 200, 3) := by decide +kernel
theorem dL_law_1732 : decode cL_law 1732 = .ok (.istore 7, 2) := by decide +kernel
theorem dL_law_1734 : decode cL_law 1734 = .ok (.aload_n 2, 1) := by decide +kernel
theorem dL_law_1735 : decode cL_law 1735 = .ok (.invokevirtual 124, 3) := by decide +kernel
theorem dL_law_1738 : decode cL_law 1738 = .ok (.iload 6, 2) := by decide +kernel
theorem dL_law_1740 : decode cL_law 1740 = .ok (.if_icmp .eq 5, 3) := by decide +kernel
theorem dL_law_1743 : decode cL_law 1743 = .ok (.iconst 0, 1) := by decide +kernel
theorem dL_law_1744 : decode cL_law 1744 = .ok (.ireturn, 1) := by decide +kernel
theorem dL_law_1745 : decode cL_law 1745 = .ok (.iload 6, 2) := by decide +kernel
theorem dL_law_1747 : decode cL_law 1747 = .ok (.ifCond .ne 15, 3) := by decide +kernel
theorem dL_law_1750 : decode cL_law 1750 = .ok (.aload_n 3, 1) := by decide +kernel
theorem dL_law_1751 : decode cL_law 1751 = .ok (.iconst 0, 1) := by decide +kernel
theorem dL_law_1752 : decode cL_law 1752 = .ok (.laload, 1) := by decide +kernel
theorem dL_law_1753 : decode cL_law 1753 = .ok (.iload 7, 2) := by decide +kernel
theorem dL_law_1755 : decode cL_law 1755 = .ok (.i2l, 1) := by decide +kernel
theorem dL_law_1756 : decode cL_law 1756 = .ok (.lcmp, 1) := by decide +kernel
theorem dL_law_1757 : decode cL_law 1757 = .ok (.ifCond .eq 5, 3) := by decide +kernel
theorem dL_law_1760 : decode cL_law 1760 = .ok (.iconst 0, 1) := by decide +kernel
theorem dL_law_1761 : decode cL_law 1761 = .ok (.ireturn, 1) := by decide +kernel
theorem dL_law_1762 : decode cL_law 1762 = .ok (.goto 628, 3) := by decide +kernel
theorem dL_law_1765 : decode cL_law 1765 = .ok (.aload_n 1, 1) := by decide +kernel
theorem dL_law_1766 : decode cL_law 1766 = .ok (.aload_n 0, 1) := by decide +kernel
theorem dL_law_1767 : decode cL_law 1767 = .ok (.iload 5, 2) := by decide +kernel
theorem dL_law_1769 : decode cL_law 1769 = .ok (.iconst 1, 1) := by decide +kernel
theorem dL_law_1770 : decode cL_law 1770 = .ok (.iadd, 1) := by decide +kernel
theorem dL_law_1771 : decode cL_law 1771 = .ok (.iaload, 1) := by decide +kernel
theorem dL_law_1772 : decode cL_law 1772 = .ok (.aload_n 0, 1) := by decide +kernel
theorem dL_law_1773 : decode cL_law 1773 = .ok (.iload 5, 2) := by decide +kernel
theorem dL_law_1775 : decode cL_law 1775 = .ok (.iconst 2, 1) := by decide +kernel
theorem dL_law_1776 : decode cL_law 1776 = .ok (.iadd, 1) := by decide +kernel
theorem dL_law_1777 : decode cL_law 1777 = .ok (.iaload, 1) := by decide +kernel
theorem dL_law_1778 : decode cL_law 1778 = .ok (.aload_n 0, 1) := by decide +kernel
theorem dL_law_1779 : decode cL_law 1779 = .ok (.iload 5, 2) := by decide +kernel
theorem dL_law_1781 : decode cL_law 1781 = .ok (.iconst 3, 1) := by decide +kernel
theorem dL_law_1782 : decode cL_law 1782 = .ok (.iadd, 1) := by decide +kernel
theorem dL_law_1783 : decode cL_law 1783 = .ok (.iaload, 1) := by decide +kernel
theorem dL_law_1784 : decode cL_law 1784 = .ok (.aload_n 0, 1) := by decide +kernel
theorem dL_law_1785 : decode cL_law 1785 = .ok (.iload 5, 2) := by decide +kernel
theorem dL_law_1787 : decode cL_law 1787 = .ok (.iconst 4, 1) := by decide +kernel
theorem dL_law_1788 : decode cL_law 1788 = .ok (.iadd, 1) := by decide +kernel
theorem dL_law_1789 : decode cL_law 1789 = .ok (.iaload, 1) := by decide +kernel
theorem dL_law_1790 : decode cL_law 1790 = .ok (.aload_n 3, 1) := by decide +kernel
theorem dL_law_1791 : decode cL_law 1791 = .ok (.invokestatic 201, 3) := by decide +kernel
theorem dL_law_1794 : decode cL_law 1794 = .ok (.istore 6, 2) := by decide +kernel
theorem dL_law_1796 : decode cL_law 1796 = .ok (.aload_n 2, 1) := by decide +kernel
theorem dL_law_1797 : decode cL_law 1797 = .ok (.aload_n 0, 1) := by decide +kernel
theorem dL_law_1798 : decode cL_law 1798 = .ok (.iload 5, 2) := by decide +kernel
theorem dL_law_1800 : decode cL_law 1800 = .ok (.iconst 1, 1) := by decide +kernel
theorem dL_law_1801 : decode cL_law 1801 = .ok (.iadd, 1) := by decide +kernel
theorem dL_law_1802 : decode cL_law 1802 = .ok (.iaload, 1) := by decide +kernel
theorem dL_law_1803 : decode cL_law 1803 = .ok (.aload_n 0, 1) := by decide +kernel
theorem dL_law_1804 : decode cL_law 1804 = .ok (.iload 5, 2) := by decide +kernel
theorem dL_law_1806 : decode cL_law 1806 = .ok (.iconst 2, 1) := by decide +kernel
theorem dL_law_1807 : decode cL_law 1807 = .ok (.iadd, 1) := by decide +kernel
theorem dL_law_1808 : decode cL_law 1808 = .ok (.iaload, 1) := by decide +kernel
theorem dL_law_1809 : decode cL_law 1809 = .ok (.aload_n 0, 1) := by decide +kernel
theorem dL_law_1810 : decode cL_law 1810 = .ok (.iload 5, 2) := by decide +kernel
theorem dL_law_1812 : decode cL_law 1812 = .ok (.iconst 3, 1) := by decide +kernel
theorem dL_law_1813 : decode cL_law 1813 = .ok (.iadd, 1) := by decide +kernel
theorem dL_law_1814 : decode cL_law 1814 = .ok (.iaload, 1) := by decide +kernel
theorem dL_law_1815 : decode cL_law 1815 = .ok (.aload_n 0, 1) := by decide +kernel
theorem dL_law_1816 : decode cL_law 1816 = .ok (.iload 5, 2) := by decide +kernel
theorem dL_law_1818 : decode cL_law 1818 = .ok (.iconst 4, 1) := by decide +kernel
theorem dL_law_1819 : decode cL_law 1819 = .ok (.iadd, 1) := by decide +kernel
theorem dL_law_1820 : decode cL_law 1820 = .ok (.iaload, 1) := by decide +kernel
theorem dL_law_1821 : decode cL_law 1821 = .ok (.invokevirtual 204, 3) := by decide +kernel
theorem dL_law_1824 : decode cL_law 1824 = .ok (.istore 7, 2) := by decide +kernel
theorem dL_law_1826 : decode cL_law 1826 = .ok (.aload_n 2, 1) := by decide +kernel
theorem dL_law_1827 : decode cL_law 1827 = .ok (.invokevirtual 124, 3) := by decide +kernel
theorem dL_law_1830 : decode cL_law 1830 = .ok (.iload 6, 2) := by decide +kernel
theorem dL_law_1832 : decode cL_law 1832 = .ok (.if_icmp .eq 5, 3) := by decide +kernel
theorem dL_law_1835 : decode cL_law 1835 = .ok (.iconst 0, 1) := by decide +kernel
theorem dL_law_1836 : decode cL_law 1836 = .ok (.ireturn, 1) := by decide +kernel
theorem dL_law_1837 : decode cL_law 1837 = .ok (.iload 6, 2) := by decide +kernel
theorem dL_law_1839 : decode cL_law 1839 = .ok (.ifCond .ne 15, 3) := by decide +kernel
theorem dL_law_1842 : decode cL_law 1842 = .ok (.aload_n 3, 1) := by decide +kernel
theorem dL_law_1843 : decode cL_law 1843 = .ok (.iconst 0, 1) := by decide +kernel
theorem dL_law_1844 : decode cL_law 1844 = .ok (.laload, 1) := by decide +kernel
theorem dL_law_1845 : decode cL_law 1845 = .ok (.iload 7, 2) := by decide +kernel
theorem dL_law_1847 : decode cL_law 1847 = .ok (.i2l, 1) := by decide +kernel
theorem dL_law_1848 : decode cL_law 1848 = .ok (.lcmp, 1) := by decide +kernel
theorem dL_law_1849 : decode cL_law 1849 = .ok (.ifCond .eq 5, 3) := by decide +kernel
theorem dL_law_1852 : decode cL_law 1852 = .ok (.iconst 0, 1) := by decide +kernel
theorem dL_law_1853 : decode cL_law 1853 = .ok (.ireturn, 1) := by decide +kernel
theorem dL_law_1854 : decode cL_law 1854 = .ok (.goto 536, 3) := by decide +kernel
theorem dL_law_1857 : decode cL_law 1857 = .ok (.aload_n 1, 1) := by decide +kernel
theorem dL_law_1858 : decode cL_law 1858 = .ok (.aload_n 0, 1) := by decide +kernel
theorem dL_law_1859 : decode cL_law 1859 = .ok (.iload 5, 2) := by decide +kernel
theorem dL_law_1861 : decode cL_law 1861 = .ok (.iconst 1, 1) := by decide +kernel
theorem dL_law_1862 : decode cL_law 1862 = .ok (.iadd, 1) := by decide +kernel
theorem dL_law_1863 : decode cL_law 1863 = .ok (.iaload, 1) := by decide +kernel
theorem dL_law_1864 : decode cL_law 1864 = .ok (.aload_n 0, 1) := by decide +kernel
theorem dL_law_1865 : decode cL_law 1865 = .ok (.iload 5, 2) := by decide +kernel
theorem dL_law_1867 : decode cL_law 1867 = .ok (.iconst 2, 1) := by decide +kernel
theorem dL_law_1868 : decode cL_law 1868 = .ok (.iadd, 1) := by decide +kernel
theorem dL_law_1869 : decode cL_law 1869 = .ok (.iaload, 1) := by decide +kernel
theorem dL_law_1870 : decode cL_law 1870 = .ok (.aload_n 0, 1) := by decide +kernel
theorem dL_law_1871 : decode cL_law 1871 = .ok (.iload 5, 2) := by decide +kernel
theorem dL_law_1873 : decode cL_law 1873 = .ok (.iconst 3, 1) := by decide +kernel
theorem dL_law_1874 : decode cL_law 1874 = .ok (.iadd, 1) := by decide +kernel
theorem dL_law_1875 : decode cL_law 1875 = .ok (.iaload, 1) := by decide +kernel
theorem dL_law_1876 : decode cL_law 1876 = .ok (.aload_n 0, 1) := by decide +kernel
theorem dL_law_1877 : decode cL_law 1877 = .ok (.iload 5, 2) := by decide +kernel
theorem dL_law_1879 : decode cL_law 1879 = .ok (.iconst 4, 1) := by decide +kernel
theorem dL_law_1880 : decode cL_law 1880 = .ok (.iadd, 1) := by decide +kernel
theorem dL_law_1881 : decode cL_law 1881 = .ok (.iaload, 1) := by decide +kernel
theorem dL_law_1882 : decode cL_law 1882 = .ok (.aload_n 0, 1) := by decide +kernel
theorem dL_law_1883 : decode cL_law 1883 = .ok (.iload 5, 2) := by decide +kernel
theorem dL_law_1885 : decode cL_law 1885 = .ok (.iconst 5, 1) := by decide +kernel
theorem dL_law_1886 : decode cL_law 1886 = .ok (.iadd, 1) := by decide +kernel
theorem dL_law_1887 : decode cL_law 1887 = .ok (.iaload, 1) := by decide +kernel
theorem dL_law_1888 : decode cL_law 1888 = .ok (.aload_n 3, 1) := by decide +kernel
theorem dL_law_1889 : decode cL_law 1889 = .ok (.invokestatic 205, 3) := by decide +kernel
theorem dL_law_1892 : decode cL_law 1892 = .ok (.istore 6, 2) := by decide +kernel
theorem dL_law_1894 : decode cL_law 1894 = .ok (.aload_n 2, 1) := by decide +kernel
theorem dL_law_1895 : decode cL_law 1895 = .ok (.aload_n 0, 1) := by decide +kernel
theorem dL_law_1896 : decode cL_law 1896 = .ok (.iload 5, 2) := by decide +kernel
theorem dL_law_1898 : decode cL_law 1898 = .ok (.iconst 1, 1) := by decide +kernel
theorem dL_law_1899 : decode cL_law 1899 = .ok (.iadd, 1) := by decide +kernel
theorem dL_law_1900 : decode cL_law 1900 = .ok (.iaload, 1) := by decide +kernel
theorem dL_law_1901 : decode cL_law 1901 = .ok (.aload_n 0, 1) := by decide +kernel
theorem dL_law_1902 : decode cL_law 1902 = .ok (.iload 5, 2) := by decide +kernel
theorem dL_law_1904 : decode cL_law 1904 = .ok (.iconst 2, 1) := by decide +kernel
theorem dL_law_1905 : decode cL_law 1905 = .ok (.iadd, 1) := by decide +kernel
theorem dL_law_1906 : decode cL_law 1906 = .ok (.iaload, 1) := by decide +kernel
theorem dL_law_1907 : decode cL_law 1907 = .ok (.aload_n 0, 1) := by decide +kernel
theorem dL_law_1908 : decode cL_law 1908 = .ok (.iload 5, 2) := by decide +kernel
theorem dL_law_1910 : decode cL_law 1910 = .ok (.iconst 3, 1) := by decide +kernel
theorem dL_law_1911 : decode cL_law 1911 = .ok (.iadd, 1) := by decide +kernel
theorem dL_law_1912 : decode cL_law 1912 = .ok (.iaload, 1) := by decide +kernel
theorem dL_law_1913 : decode cL_law 1913 = .ok (.aload_n 0, 1) := by decide +kernel
theorem dL_law_1914 : decode cL_law 1914 = .ok (.iload 5, 2) := by decide +kernel
theorem dL_law_1916 : decode cL_law 1916 = .ok (.iconst 4, 1) := by decide +kernel
theorem dL_law_1917 : decode cL_law 1917 = .ok (.iadd, 1) := by decide +kernel
theorem dL_law_1918 : decode cL_law 1918 = .ok (.iaload, 1) := by decide +kernel
theorem dL_law_1919 : decode cL_law 1919 = .ok (.aload_n 0, 1) := by decide +kernel
theorem dL_law_1920 : decode cL_law 1920 = .ok (.iload 5, 2) := by decide +kernel
theorem dL_law_1922 : decode cL_law 1922 = .ok (.iconst 5, 1) := by decide +kernel
theorem dL_law_1923 : decode cL_law 1923 = .ok (.iadd, 1) := by decide +kernel
theorem dL_law_1924 : decode cL_law 1924 = .ok (.iaload, 1) := by decide +kernel
theorem dL_law_1925 : decode cL_law 1925 = .ok (.invokevirtual 208, 3) := by decide +kernel
theorem dL_law_1928 : decode cL_law 1928 = .ok (.istore 7, 2) := by decide +kernel
theorem dL_law_1930 : decode cL_law 1930 = .ok (.aload_n 2, 1) := by decide +kernel
theorem dL_law_1931 : decode cL_law 1931 = .ok (.invokevirtual 124, 3) := by decide +kernel
theorem dL_law_1934 : decode cL_law 1934 = .ok (.iload 6, 2) := by decide +kernel
theorem dL_law_1936 : decode cL_law 1936 = .ok (.if_icmp .eq 5, 3) := by decide +kernel
theorem dL_law_1939 : decode cL_law 1939 = .ok (.iconst 0, 1) := by decide +kernel
theorem dL_law_1940 : decode cL_law 1940 = .ok (.ireturn, 1) := by decide +kernel
theorem dL_law_1941 : decode cL_law 1941 = .ok (.iload 6, 2) := by decide +kernel
theorem dL_law_1943 : decode cL_law 1943 = .ok (.ifCond .ne 15, 3) := by decide +kernel
theorem dL_law_1946 : decode cL_law 1946 = .ok (.aload_n 3, 1) := by decide +kernel
theorem dL_law_1947 : decode cL_law 1947 = .ok (.iconst 0, 1) := by decide +kernel
theorem dL_law_1948 : decode cL_law 1948 = .ok (.laload, 1) := by decide +kernel
theorem dL_law_1949 : decode cL_law 1949 = .ok (.iload 7, 2) := by decide +kernel
theorem dL_law_1951 : decode cL_law 1951 = .ok (.i2l, 1) := by decide +kernel
theorem dL_law_1952 : decode cL_law 1952 = .ok (.lcmp, 1) := by decide +kernel
theorem dL_law_1953 : decode cL_law 1953 = .ok (.ifCond .eq 5, 3) := by decide +kernel
theorem dL_law_1956 : decode cL_law 1956 = .ok (.iconst 0, 1) := by decide +kernel
theorem dL_law_1957 : decode cL_law 1957 = .ok (.ireturn, 1) := by decide +kernel
theorem dL_law_1958 : decode cL_law 1958 = .ok (.goto 432, 3) := by decide +kernel
theorem dL_law_1961 : decode cL_law 1961 = .ok (.aload_n 1, 1) := by decide +kernel
theorem dL_law_1962 : decode cL_law 1962 = .ok (.aload_n 0, 1) := by decide +kernel
theorem dL_law_1963 : decode cL_law 1963 = .ok (.iload 5, 2) := by decide +kernel
theorem dL_law_1965 : decode cL_law 1965 = .ok (.iconst 1, 1) := by decide +kernel
theorem dL_law_1966 : decode cL_law 1966 = .ok (.iadd, 1) := by decide +kernel
theorem dL_law_1967 : decode cL_law 1967 = .ok (.iaload, 1) := by decide +kernel
theorem dL_law_1968 : decode cL_law 1968 = .ok (.aload 4, 2) := by decide +kernel
theorem dL_law_1970 : decode cL_law 1970 = .ok (.invokestatic 209, 3) := by decide +kernel
theorem dL_law_1973 : decode cL_law 1973 = .ok (.istore 6, 2) := by decide +kernel
theorem dL_law_1975 : decode cL_law 1975 = .ok (.aload_n 2, 1) := by decide +kernel
theorem dL_law_1976 : decode cL_law 1976 = .ok (.aload_n 0, 1) := by decide +kernel
theorem dL_law_1977 : decode cL_law 1977 = .ok (.iload 5, 2) := by decide +kernel
theorem dL_law_1979 : decode cL_law 1979 = .ok (.iconst 1, 1) := by decide +kernel
theorem dL_law_1980 : decode cL_law 1980 = .ok (.iadd, 1) := by decide +kernel
theorem dL_law_1981 : decode cL_law 1981 = .ok (.iaload, 1) := by decide +kernel
theorem dL_law_1982 : decode cL_law 1982 = .ok (.invokevirtual 212, 3) := by decide +kernel
theorem dL_law_1985 : decode cL_law 1985 = .ok (.dstore 7, 2) := by decide +kernel
theorem dL_law_1987 : decode cL_law 1987 = .ok (.aload_n 2, 1) := by decide +kernel
theorem dL_law_1988 : decode cL_law 1988 = .ok (.invokevirtual 124, 3) := by decide +kernel
theorem dL_law_1991 : decode cL_law 1991 = .ok (.iload 6, 2) := by decide +kernel
theorem dL_law_1993 : decode cL_law 1993 = .ok (.if_icmp .eq 5, 3) := by decide +kernel
theorem dL_law_1996 : decode cL_law 1996 = .ok (.iconst 0, 1) := by decide +kernel
theorem dL_law_1997 : decode cL_law 1997 = .ok (.ireturn, 1) := by decide +kernel
theorem dL_law_1998 : decode cL_law 1998 = .ok (.iload 6, 2) := by decide +kernel
theorem dL_law_2000 : decode cL_law 2000 = .ok (.ifCond .ne 35, 3) := by decide +kernel
theorem dL_law_2003 : decode cL_law 2003 = .ok (.aload 4, 2) := by decide +kernel
theorem dL_law_2005 : decode cL_law 2005 = .ok (.iconst 0, 1) := by decide +kernel
theorem dL_law_2006 : decode cL_law 2006 = .ok (.daload, 1) := by decide +kernel
theorem dL_law_2007 : decode cL_law 2007 = .ok (.dload 7, 2) := by decide +kernel
theorem dL_law_2009 : decode cL_law 2009 = .ok (.dcmp .l, 1) := by decide +kernel
theorem dL_law_2010 : decode cL_law 2010 = .ok (.ifCond .eq 25, 3) := by decide +kernel
theorem dL_law_2013 : decode cL_law 2013 = .ok (.aload 4, 2) := by decide +kernel
theorem dL_law_2015 : decode cL_law 2015 = .ok (.iconst 0, 1) := by decide +kernel
theorem dL_law_2016 : decode cL_law 2016 = .ok (.daload, 1) := by decide +kernel
theorem dL_law_2017 : decode cL_law 2017 = .ok (.aload 4, 2) := by decide +kernel
theorem dL_law_2019 : decode cL_law 2019 = .ok (.iconst 0, 1) := by decide +kernel
theorem dL_law_2020 : decode cL_law 2020 = .ok (.daload, 1) := by decide +kernel
theorem dL_law_2021 : decode cL_law 2021 = .ok (.dcmp .l, 1) := by decide +kernel
theorem dL_law_2022 : decode cL_law 2022 = .ok (.ifCond .eq 11, 3) := by decide +kernel
theorem dL_law_2025 : decode cL_law 2025 = .ok (.dload 7, 2) := by decide +kernel
theorem dL_law_2027 : decode cL_law 2027 = .ok (.dload 7, 2) := by decide +kernel
theorem dL_law_2029 : decode cL_law 2029 = .ok (.dcmp .l, 1) := by decide +kernel
theorem dL_law_2030 : decode cL_law 2030 = .ok (.ifCond .ne 5, 3) := by decide +kernel
theorem dL_law_2033 : decode cL_law 2033 = .ok (.iconst 0, 1) := by decide +kernel
theorem dL_law_2034 : decode cL_law 2034 = .ok (.ireturn, 1) := by decide +kernel
theorem dL_law_2035 : decode cL_law 2035 = .ok (.goto 355, 3) := by decide +kernel
theorem dL_law_2038 : decode cL_law 2038 = .ok (.aload_n 1, 1) := by decide +kernel
theorem dL_law_2039 : decode cL_law 2039 = .ok (.aload_n 0, 1) := by decide +kernel
theorem dL_law_2040 : decode cL_law 2040 = .ok (.iload 5, 2) := by decide +kernel
theorem dL_law_2042 : decode cL_law 2042 = .ok (.iconst 1, 1) := by decide +kernel
theorem dL_law_2043 : decode cL_law 2043 = .ok (.iadd, 1) := by decide +kernel
theorem dL_law_2044 : decode cL_law 2044 = .ok (.iaload, 1) := by decide +kernel
theorem dL_law_2045 : decode cL_law 2045 = .ok (.aload_n 0, 1) := by decide +kernel
theorem dL_law_2046 : decode cL_law 2046 = .ok (.iload 5, 2) := by decide +kernel
theorem dL_law_2048 : decode cL_law 2048 = .ok (.iconst 2, 1) := by decide +kernel
theorem dL_law_2049 : decode cL_law 2049 = .ok (.iadd, 1) := by decide +kernel
theorem dL_law_2050 : decode cL_law 2050 = .ok (.iaload, 1) := by decide +kernel
theorem dL_law_2051 : decode cL_law 2051 = .ok (.aload_n 3, 1) := by decide +kernel
theorem dL_law_2052 : decode cL_law 2052 = .ok (.invokestatic 213, 3) := by decide +kernel
theorem dL_law_2055 : decode cL_law 2055 = .ok (.istore 6, 2) := by decide +kernel
theorem dL_law_2057 : decode cL_law 2057 = .ok (.aload_n 2, 1) := by decide +kernel
theorem dL_law_2058 : decode cL_law 2058 = .ok (.aload_n 0, 1) := by decide +kernel
theorem dL_law_2059 : decode cL_law 2059 = .ok (.iload 5, 2) := by decide +kernel
theorem dL_law_2061 : decode cL_law 2061 = .ok (.iconst 1, 1) := by decide +kernel
theorem dL_law_2062 : decode cL_law 2062 = .ok (.iadd, 1) := by decide +kernel
theorem dL_law_2063 : decode cL_law 2063 = .ok (.iaload, 1) := by decide +kernel
theorem dL_law_2064 : decode cL_law 2064 = .ok (.aload_n 0, 1) := by decide +kernel
theorem dL_law_2065 : decode cL_law 2065 = .ok (.iload 5, 2) := by decide +kernel
theorem dL_law_2067 : decode cL_law 2067 = .ok (.iconst 2, 1) := by decide +kernel
theorem dL_law_2068 : decode cL_law 2068 = .ok (.iadd, 1) := by decide +kernel
theorem dL_law_2069 : decode cL_law 2069 = .ok (.iaload, 1) := by decide +kernel
theorem dL_law_2070 : decode cL_law 2070 = .ok (.invokevirtual 215, 3) := by decide +kernel
theorem dL_law_2073 : decode cL_law 2073 = .ok (.istore 7, 2) := by decide +kernel
theorem dL_law_2075 : decode cL_law 2075 = .ok (.aload_n 2, 1) := by decide +kernel
theorem dL_law_2076 : decode cL_law 2076 = .ok (.invokevirtual 124, 3) := by decide +kernel
theorem dL_law_2079 : decode cL_law 2079 = .ok (.iload 6, 2) := by decide +kernel
theorem dL_law_2081 : decode cL_law 2081 = .ok (.if_icmp .eq 5, 3) := by decide +kernel
theorem dL_law_2084 : decode cL_law 2084 = .ok (.iconst 0, 1) := by decide +kernel
theorem dL_law_2085 : decode cL_law 2085 = .ok (.ireturn, 1) := by decide +kernel
theorem dL_law_2086 : decode cL_law 2086 = .ok (.iload 6, 2) := by decide +kernel
theorem dL_law_2088 : decode cL_law 2088 = .ok (.ifCond .ne 15, 3) := by decide +kernel
theorem dL_law_2091 : decode cL_law 2091 = .ok (.aload_n 3, 1) := by decide +kernel
theorem dL_law_2092 : decode cL_law 2092 = .ok (.iconst 0, 1) := by decide +kernel
theorem dL_law_2093 : decode cL_law 2093 = .ok (.laload, 1) := by decide +kernel
theorem dL_law_2094 : decode cL_law 2094 = .ok (.iload 7, 2) := by decide +kernel
theorem dL_law_2096 : decode cL_law 2096 = .ok (.i2l, 1) := by decide +kernel
theorem dL_law_2097 : decode cL_law 2097 = .ok (.lcmp, 1) := by decide +kernel
theorem dL_law_2098 : decode cL_law 2098 = .ok (.ifCond .eq 5, 3) := by decide +kernel
theorem dL_law_2101 : decode cL_law 2101 = .ok (.iconst 0, 1) := by decide +kernel
theorem dL_law_2102 : decode cL_law 2102 = .ok (.ireturn, 1) := by decide +kernel
theorem dL_law_2103 : decode cL_law 2103 = .ok (.goto 287, 3) := by decide +kernel
theorem dL_law_2106 : decode cL_law 2106 = .ok (.aload_n 1, 1) := by decide +kernel
theorem dL_law_2107 : decode cL_law 2107 = .ok (.invokevirtual 216, 3) := by decide +kernel
theorem dL_law_2110 : decode cL_law 2110 = .ok (.aload_n 2, 1) := by decide +kernel
theorem dL_law_2111 : decode cL_law 2111 = .ok (.invokevirtual 219, 3) := by decide +kernel
theorem dL_law_2114 : decode cL_law 2114 = .ok (.if_icmp .eq 276, 3) := by decide +kernel
theorem dL_law_2117 : decode cL_law 2117 = .ok (.iconst 0, 1) := by decide +kernel
theorem dL_law_2118 : decode cL_law 2118 = .ok (.ireturn, 1) := by decide +kernel
theorem dL_law_2119 : decode cL_law 2119 = .ok (.aload_n 1, 1) := by decide +kernel
theorem dL_law_2120 : decode cL_law 2120 = .ok (.aload_n 0, 1) := by decide +kernel
theorem dL_law_2121 : decode cL_law 2121 = .ok (.iload 5, 2) := by decide +kernel
theorem dL_law_2123 : decode cL_law 2123 = .ok (.iconst 1, 1) := by decide +kernel
theorem dL_law_2124 : decode cL_law 2124 = .ok (.iadd, 1) := by decide +kernel
theorem dL_law_2125 : decode cL_law 2125 = .ok (.iaload, 1) := by decide +kernel
theorem dL_law_2126 : decode cL_law 2126 = .ok (.aload_n 3, 1) := by decide +kernel
theorem dL_law_2127 : decode cL_law 2127 = .ok (.invokestatic 220, 3) := by decide +kernel
theorem dL_law_2130 : decode cL_law 2130 = .ok (.istore 6, 2) := by decide +kernel
theorem dL_law_2132 : decode cL_law 2132 = .ok (.aload_n 2, 1) := by decide +kernel
theorem dL_law_2133 : decode cL_law 2133 = .ok (.aload_n 0, 1) := by decide +kernel
theorem dL_law_2134 : decode cL_law 2134 = .ok (.iload 5, 2) := by decide +kernel
theorem dL_law_2136 : decode cL_law 2136 = .ok (.iconst 1, 1) := by decide +kernel
theorem dL_law_2137 : decode cL_law 2137 = .ok (.iadd, 1) := by decide +kernel
theorem dL_law_2138 : decode cL_law 2138 = .ok (.iaload, 1) := by decide +kernel
theorem dL_law_2139 : decode cL_law 2139 = .ok (.invokevirtual 222, 3) := by decide +kernel
theorem dL_law_2142 : decode cL_law 2142 = .ok (.istore 7, 2) := by decide +kernel
theorem dL_law_2144 : decode cL_law 2144 = .ok (.aload_n 2, 1) := by decide +kernel
theorem dL_law_2145 : decode cL_law 2145 = .ok (.invokevirtual 124, 3) := by decide +kernel
theorem dL_law_2148 : decode cL_law 2148 = .ok (.iload 6, 2) := by decide +kernel
theorem dL_law_2150 : decode cL_law 2150 = .ok (.if_icmp .eq 5, 3) := by decide +kernel
theorem dL_law_2153 : decode cL_law 2153 = .ok (.iconst 0, 1) := by decide +kernel
theorem dL_law_2154 : decode cL_law 2154 = .ok (.ireturn, 1) := by decide +kernel
theorem dL_law_2155 : decode cL_law 2155 = .ok (.iload 6, 2) := by decide +kernel
theorem dL_law_2157 : decode cL_law 2157 = .ok (.ifCond .ne 15, 3) := by decide +kernel
theorem dL_law_2160 : decode cL_law 2160 = .ok (.aload_n 3, 1) := by decide +kernel
theorem dL_law_2161 : decode cL_law 2161 = .ok (.iconst 0, 1) := by decide +kernel
theorem dL_law_2162 : decode cL_law 2162 = .ok (.laload, 1) := by decide +kernel
theorem dL_law_2163 : decode cL_law 2163 = .ok (.iload 7, 2) := by decide +kernel
theorem dL_law_2165 : decode cL_law 2165 = .ok (.i2l, 1) := by decide +kernel
theorem dL_law_2166 : decode cL_law 2166 = .ok (.lcmp, 1) := by decide +kernel
theorem dL_law_2167 : decode cL_law 2167 = .ok (.ifCond .eq 5, 3) := by decide +kernel
theorem dL_law_2170 : decode cL_law 2170 = .ok (.iconst 0, 1) := by decide +kernel
theorem dL_law_2171 : decode cL_law 2171 = .ok (.ireturn, 1) := by decide +kernel
theorem dL_law_2172 : decode cL_law 2172 = .ok (.goto 218, 3) := by decide +kernel
theorem dL_law_2175 : decode cL_law 2175 = .ok (.aload_n 1, 1) := by decide +kernel
theorem dL_law_2176 : decode cL_law 2176 = .ok (.aload_n 0, 1) := by decide +kernel
theorem dL_law_2177 : decode cL_law 2177 = .ok (.iload 5, 2) := by decide +kernel
theorem dL_law_2179 : decode cL_law 2179 = .ok (.iconst 1, 1) := by decide +kernel
theorem dL_law_2180 : decode cL_law 2180 = .ok (.iadd, 1) := by decide +kernel
theorem dL_law_2181 : decode cL_law 2181 = .ok (.iaload, 1) := by decide +kernel
theorem dL_law_2182 : decode cL_law 2182 = .ok (.aload_n 3, 1) := by decide +kernel
theorem dL_law_2183 : decode cL_law 2183 = .ok (.invokestatic 223, 3) := by decide +kernel
theorem dL_law_2186 : decode cL_law 2186 = .ok (.istore 6, 2) := by decide +kernel
theorem dL_law_2188 : decode cL_law 2188 = .ok (.aload_n 2, 1) := by decide +kernel
theorem dL_law_2189 : decode cL_law 2189 = .ok (.aload_n 0, 1) := by decide +kernel
theorem dL_law_2190 : decode cL_law 2190 = .ok (.iload 5, 2) := by decide +kernel
theorem dL_law_2192 : decode cL_law 2192 = .ok (.iconst 1, 1) := by decide +kernel
theorem dL_law_2193 : decode cL_law 2193 = .ok (.iadd, 1) := by decide +kernel
theorem dL_law_2194 : decode cL_law 2194 = .ok (.iaload, 1) := by decide +kernel
theorem dL_law_2195 : decode cL_law 2195 = .ok (.invokevirtual 225, 3) := by decide +kernel
theorem dL_law_2198 : decode cL_law 2198 = .ok (.istore 7, 2) := by decide +kernel
theorem dL_law_2200 : decode cL_law 2200 = .ok (.aload_n 2, 1) := by decide +kernel
theorem dL_law_2201 : decode cL_law 2201 = .ok (.invokevirtual 124, 3) := by decide +kernel
theorem dL_law_2204 : decode cL_law 2204 = .ok (.iload 6, 2) := by decide +kernel
theorem dL_law_2206 : decode cL_law 2206 = .ok (.if_icmp .eq 5, 3) := by decide +kernel
theorem dL_law_2209 : decode cL_law 2209 = .ok (.iconst 0, 1) := by decide +kernel
theorem dL_law_2210 : decode cL_law 2210 = .ok (.ireturn, 1) := by decide +kernel
theorem dL_law_2211 : decode cL_law 2211 = .ok (.iload 6, 2) := by decide +kernel
theorem dL_law_2213 : decode cL_law 2213 = .ok (.ifCond .ne 22, 3) := by decide +kernel
theorem dL_law_2216 : decode cL_law 2216 = .ok (.aload_n 3, 1) := by decide +kernel
theorem dL_law_2217 : decode cL_law 2217 = .ok (.iconst 0, 1) := by decide +kernel
theorem dL_law_2218 : decode cL_law 2218 = .ok (.laload, 1) := by decide +kernel
theorem dL_law_2219 : decode cL_law 2219 = .ok (.iload 7, 2) := by decide +kernel
theorem dL_law_2221 : decode cL_law 2221 = .ok (.ifCond .eq 7, 3) := by decide +kernel
theorem dL_law_2224 : decode cL_law 2224 = .ok (.lconst 1, 1) := by decide +kernel
theorem dL_law_2225 : decode cL_law 2225 = .ok (.goto 4, 3) := by decide +kernel
theorem dL_law_2228 : decode cL_law 2228 = .ok (.lconst 0, 1) := by decide +kernel
theorem dL_law_2229 : decode cL_law 2229 = .ok (.lcmp, 1) := by decide +kernel
theorem dL_law_2230 : decode cL_law 2230 = .ok (.ifCond .eq 5, 3) := by decide +kernel
theorem dL_law_2233 : decode cL_law 2233 = .ok (.iconst 0, 1) := by decide +kernel
theorem dL_law_2234 : decode cL_law 2234 = .ok (.ireturn, 1) := by decide +kernel
theorem dL_law_2235 : decode cL_law 2235 = .ok (.goto 155, 3) := by decide +kernel
theorem dL_law_2238 : decode cL_law 2238 = .ok (.aload_n 1, 1) := by decide +kernel
theorem dL_law_2239 : decode cL_law 2239 = .ok (.aload_n 0, 1) := by decide +kernel
theorem dL_law_2240 : decode cL_law 2240 = .ok (.iload 5, 2) := by decide +kernel
theorem dL_law_2242 : decode cL_law 2242 = .ok (.iconst 1, 1) := by decide +kernel
theorem dL_law_2243 : decode cL_law 2243 = .ok (.iadd, 1) := by decide +kernel
theorem dL_law_2244 : decode cL_law 2244 = .ok (.iaload, 1) := by decide +kernel
theorem dL_law_2245 : decode cL_law 2245 = .ok (.aload_n 3, 1) := by decide +kernel
theorem dL_law_2246 : decode cL_law 2246 = .ok (.invokestatic 226, 3) := by decide +kernel
theorem dL_law_2249 : decode cL_law 2249 = .ok (.istore 6, 2) := by decide +kernel
theorem dL_law_2251 : decode cL_law 2251 = .ok (.aload_n 2, 1) := by decide +kernel
theorem dL_law_2252 : decode cL_law 2252 = .ok (.aload_n 0, 1) := by decide +kernel
theorem dL_law_2253 : decode cL_law 2253 = .ok (.iload 5, 2) := by decide +kernel
theorem dL_law_2255 : decode cL_law 2255 = .ok (.iconst 1, 1) := by decide +kernel
theorem dL_law_2256 : decode cL_law 2256 = .ok (.iadd, 1) := by decide +kernel
theorem dL_law_2257 : decode cL_law 2257 = .ok (.iaload, 1) := by decide +kernel
theorem dL_law_2258 : decode cL_law 2258 = .ok (.invokevirtual 228, 3) := by decide +kernel
theorem dL_law_2261 : decode cL_law 2261 = .ok (.istore 7, 2) := by decide +kernel
theorem dL_law_2263 : decode cL_law 2263 = .ok (.aload_n 2, 1) := by decide +kernel
theorem dL_law_2264 : decode cL_law 2264 = .ok (.invokevirtual 124, 3) := by decide +kernel
theorem dL_law_2267 : decode cL_law 2267 = .ok (.iload 6, 2) := by decide +kernel
theorem dL_law_2269 : decode cL_law 2269 = .ok (.if_icmp .eq 5, 3) := by decide +kernel
theorem dL_law_2272 : decode cL_law 2272 = .ok (.iconst 0, 1) := by decide +kernel
theorem dL_law_2273 : decode cL_law 2273 = .ok (.ireturn, 1) := by decide +kernel
theorem dL_law_2274 : decode cL_law 2274 = .ok (.iload 6, 2) := by decide +kernel
theorem dL_law_2276 : decode cL_law 2276 = .ok (.ifCond .ne 22, 3) := by decide +kernel
theorem dL_law_2279 : decode cL_law 2279 = .ok (.aload_n 3, 1) := by decide +kernel
theorem dL_law_2280 : decode cL_law 2280 = .ok (.iconst 0, 1) := by decide +kernel
theorem dL_law_2281 : decode cL_law 2281 = .ok (.laload, 1) := by decide +kernel
theorem dL_law_2282 : decode cL_law 2282 = .ok (.iload 7, 2) := by decide +kernel
theorem dL_law_2284 : decode cL_law 2284 = .ok (.ifCond .eq 7, 3) := by decide +kernel
theorem dL_law_2287 : decode cL_law 2287 = .ok (.lconst 1, 1) := by decide +kernel
theorem dL_law_2288 : decode cL_law 2288 = .ok (.goto 4, 3) := by decide +kernel
theorem dL_law_2291 : decode cL_law 2291 = .ok (.lconst 0, 1) := by decide +kernel
theorem dL_law_2292 : decode cL_law 2292 = .ok (.lcmp, 1) := by decide +kernel
theorem dL_law_2293 : decode cL_law 2293 = .ok (.ifCond .eq 5, 3) := by decide +kernel
theorem dL_law_2296 : decode cL_law 2296 = .ok (.iconst 0, 1) := by decide +kernel
theorem dL_law_2297 : decode cL_law 2297 = .ok (.ireturn, 1) := by decide +kernel
theorem dL_law_2298 : decode cL_law 2298 = .ok (.goto 92, 3) := by decide +kernel
theorem dL_law_2301 : decode cL_law 2301 = .ok (.aload_n 1, 1) := by decide +kernel
theorem dL_law_2302 : decode cL_law 2302 = .ok (.aload_n 0, 1) := by decide +kernel
theorem dL_law_2303 : decode cL_law 2303 = .ok (.iload 5, 2) := by decide +kernel
theorem dL_law_2305 : decode cL_law 2305 = .ok (.iconst 1, 1) := by decide +kernel
theorem dL_law_2306 : decode cL_law 2306 = .ok (.iadd, 1) := by decide +kernel
theorem dL_law_2307 : decode cL_law 2307 = .ok (.iaload, 1) := by decide +kernel
theorem dL_law_2308 : decode cL_law 2308 = .ok (.aload_n 0, 1) := by decide +kernel
theorem dL_law_2309 : decode cL_law 2309 = .ok (.iload 5, 2) := by decide +kernel
theorem dL_law_2311 : decode cL_law 2311 = .ok (.iconst 2, 1) := by decide +kernel
theorem dL_law_2312 : decode cL_law 2312 = .ok (.iadd, 1) := by decide +kernel
theorem dL_law_2313 : decode cL_law 2313 = .ok (.iaload, 1) := by decide +kernel
theorem dL_law_2314 : decode cL_law 2314 = .ok (.aload_n 3, 1) := by decide +kernel
theorem dL_law_2315 : decode cL_law 2315 = .ok (.invokestatic 229, 3) := by decide +kernel
theorem dL_law_2318 : decode cL_law 2318 = .ok (.istore 6, 2) := by decide +kernel
theorem dL_law_2320 : decode cL_law 2320 = .ok (.aload_n 2, 1) := by decide +kernel
theorem dL_law_2321 : decode cL_law 2321 = .ok (.aload_n 0, 1) := by decide +kernel
theorem dL_law_2322 : decode cL_law 2322 = .ok (.iload 5, 2) := by decide +kernel
theorem dL_law_2324 : decode cL_law 2324 = .ok (.iconst 1, 1) := by decide +kernel
theorem dL_law_2325 : decode cL_law 2325 = .ok (.iadd, 1) := by decide +kernel
theorem dL_law_2326 : decode cL_law 2326 = .ok (.iaload, 1) := by decide +kernel
theorem dL_law_2327 : decode cL_law 2327 = .ok (.aload_n 0, 1) := by decide +kernel
theorem dL_law_2328 : decode cL_law 2328 = .ok (.iload 5, 2) := by decide +kernel
theorem dL_law_2330 : decode cL_law 2330 = .ok (.iconst 2, 1) := by decide +kernel
theorem dL_law_2331 : decode cL_law 2331 = .ok (.iadd, 1) := by decide +kernel
theorem dL_law_2332 : decode cL_law 2332 = .ok (.iaload, 1) := by decide +kernel
theorem dL_law_2333 : decode cL_law 2333 = .ok (.invokevirtual 231, 3) := by decide +kernel
theorem dL_law_2336 : decode cL_law 2336 = .ok (.istore 7, 2) := by decide +kernel
theorem dL_law_2338 : decode cL_law 2338 = .ok (.aload_n 2, 1) := by decide +kernel
theorem dL_law_2339 : decode cL_law 2339 = .ok (.invokevirtual 124, 3) := by decide +kernel
theorem dL_law_2342 : decode cL_law 2342 = .ok (.iload 6, 2) := by decide +kernel
theorem dL_law_2344 : decode cL_law 2344 = .ok (.if_icmp .eq 5, 3) := by decide +kernel
theorem dL_law_2347 : decode cL_law 2347 = .ok (.iconst 0, 1) := by decide +kernel
theorem dL_law_2348 : decode cL_law 2348 = .ok (.ireturn, 1) := by decide +kernel
theorem dL_law_2349 : decode cL_law 2349 = .ok (.iload 6, 2) := by decide +kernel
theorem dL_law_2351 : decode cL_law 2351 = .ok (.ifCond .ne 22, 3) := by decide +kernel
theorem dL_law_2354 : decode cL_law 2354 = .ok (.aload_n 3, 1) := by decide +kernel
theorem dL_law_2355 : decode cL_law 2355 = .ok (.iconst 0, 1) := by decide +kernel
theorem dL_law_2356 : decode cL_law 2356 = .ok (.laload, 1) := by decide +kernel
theorem dL_law_2357 : decode cL_law 2357 = .ok (.iload 7, 2) := by decide +kernel
theorem dL_law_2359 : decode cL_law 2359 = .ok (.ifCond .eq 7, 3) := by decide +kernel
theorem dL_law_2362 : decode cL_law 2362 = .ok (.lconst 1, 1) := by decide +kernel
theorem dL_law_2363 : decode cL_law 2363 = .ok (.goto 4, 3) := by decide +kernel
theorem dL_law_2366 : decode cL_law 2366 = .ok (.lconst 0, 1) := by decide +kernel
theorem dL_law_2367 : decode cL_law 2367 = .ok (.lcmp, 1) := by decide +kernel
theorem dL_law_2368 : decode cL_law 2368 = .ok (.ifCond .eq 5, 3) := by decide +kernel
theorem dL_law_2371 : decode cL_law 2371 = .ok (.iconst 0, 1) := by decide +kernel
theorem dL_law_2372 : decode cL_law 2372 = .ok (.ireturn, 1) := by decide +kernel
theorem dL_law_2373 : decode cL_law 2373 = .ok (.goto 17, 3) := by decide +kernel
theorem dL_law_2376 : decode cL_law 2376 = .ok (.aload_n 1, 1) := by decide +kernel
theorem dL_law_2377 : decode cL_law 2377 = .ok (.invokevirtual 232, 3) := by decide +kernel
theorem dL_law_2380 : decode cL_law 2380 = .ok (.aload_n 2, 1) := by decide +kernel
theorem dL_law_2381 : decode cL_law 2381 = .ok (.invokevirtual 236, 3) := by decide +kernel
theorem dL_law_2384 : decode cL_law 2384 = .ok (.lcmp, 1) := by decide +kernel
theorem dL_law_2385 : decode cL_law 2385 = .ok (.ifCond .eq 5, 3) := by decide +kernel
theorem dL_law_2388 : decode cL_law 2388 = .ok (.iconst 0, 1) := by decide +kernel
theorem dL_law_2389 : decode cL_law 2389 = .ok (.ireturn, 1) := by decide +kernel
theorem dL_law_2390 : decode cL_law 2390 = .ok (.iinc 5 6, 3) := by decide +kernel
theorem dL_law_2393 : decode cL_law 2393 = .ok (.goto (-2365), 3) := by decide +kernel
theorem dL_law_2396 : decode cL_law 2396 = .ok (.iconst 1, 1) := by decide +kernel
theorem dL_law_2397 : decode cL_law 2397 = .ok (.ireturn, 1) := by decide +kernel
abbrev vwCl : List vw_C := [(RX0, TX0, 4), (RX1, TX1, 1), (RX2, TX2, 5), (RX3, TX3, 8)]
end
section
/-! FLOATS: which words are no NaN, the guarded sum, the bits of a double found by arithmetic -/
theorem tf_n64 (a : UInt64) : vf_n64 a ↔ FP.Core.dIsNaN a = false := by
  have h := FP.Core.isNaN_bits a
  unfold vf_n64
  rw [UInt64.le_iff_toNat_le, UInt64.toNat_and]
  have h1 : (0x7fffffffffffffff : UInt64).toNat = 2 ^ 63 - 1 := by decide
  have h2 : (0x7ff0000000000000 : UInt64).toNat = 9218868437227405312 := by decide
  rw [h1, h2, Nat.and_two_pow_sub_one_eq_mod]
  cases hz : FP.Core.dIsNaN a
  · rw [hz] at h
    have : ¬ 9218868437227405312 < a.toNat % 2 ^ 63 := fun q => by have := h.mpr q; cases this
    simp only [iff_true]
    omega
  · have := h.mp hz
    constructor
    · intro q; omega
    · intro q; cases q
theorem tf_n32 (a : UInt32) : vf_n32 a ↔ FP.Core.fIsNaN a = false := by
  have h := FP.Core.isNaN_bits32 a
  unfold vf_n32
  rw [UInt32.le_iff_toNat_le, UInt32.toNat_and]
  have h1 : (0x7fffffff : UInt32).toNat = 2 ^ 31 - 1 := by decide
  have h2 : (0x7f800000 : UInt32).toNat = 2139095040 := by decide
  rw [h1, h2, Nat.and_two_pow_sub_one_eq_mod]
  cases hz : FP.Core.fIsNaN a
  · rw [hz] at h
    have : ¬ 2139095040 < a.toNat % 2 ^ 31 := fun q => by have := h.mpr q; cases this
    simp only [iff_true]
    omega
  · have := h.mp hz
    constructor
    · intro q; omega
    · intro q; cases q
theorem tf_isNaN (a : UInt64) : isNaN64 a = FP.Core.dIsNaN a := by
  have h1 := isNaN64_not (b := a)
  have h2 := tf_n64 a
  unfold vf_n64 at h2
  cases hz : FP.Core.dIsNaN a
  · have h3 := h2.mpr hz
    cases hy : isNaN64 a
    · rfl
    · exact absurd h3 (h1.mp hy)
  · cases hy : isNaN64 a
    · have : ¬ (a &&& 0x7fffffffffffffff ≤ 0x7ff0000000000000) := fun q => by have := h2.mp q; rw [hz] at this; cases this
      exact absurd (h1.mpr this) (by rw [hy]; decide)
    · rfl
theorem tf_alike (x y : UInt64) : alike64 x y = true ↔ x = y ∨ (FP.Core.dIsNaN x = true ∧ FP.Core.dIsNaN y = true) := by
  simp [alike64, tf_isNaN]
def tf_canon (r : UInt64) : UInt64 := if FP.Core.dIsNaN r = true then 9221120237041090560 else r
def tf_sum (v : Nat → UInt64) : Nat → UInt64
  | 0 => 0
  | k + 1 => tf_canon (FP.dadd (tf_sum v k) (v k))
theorem tf_step {x y v r : UInt64} (h : alike64 x y = true) (hr : alike64 r (FP.dadd x v) = true) : alike64 r (tf_canon (FP.dadd y v)) = true := by
  have hn : FP.Core.dIsNaN 9221120237041090560 = true := by decide +kernel
  rw [tf_alike] at h hr ⊢
  by_cases hz : FP.Core.dIsNaN (FP.dadd y v) = true
  · right
    unfold tf_canon
    rw [if_pos hz]
    refine ⟨?_, hn⟩
    have hx : FP.Core.dIsNaN (FP.dadd x v) = true := by
      rcases h with h | ⟨h1, -⟩
      · rw [h]; exact hz
      · exact (FP.Core.dadd_nan_iff x v).mpr (Or.inl ((FP.Core.dIsNaN_iff x).mp h1))
    rcases hr with h2 | ⟨h2, -⟩
    · rw [h2]; exact hx
    · exact h2
  · have hf : FP.Core.dIsNaN (FP.dadd y v) = false := by simpa using hz
    have hy : FP.Core.dIsNaN y = false := (FP.Core.dadd_in hf).1
    rcases h with h | ⟨-, h1⟩
    · subst h
      unfold tf_canon
      rw [if_neg hz]
      exact hr
    · rw [hy] at h1; cases h1
/-- what the class answers and what the model answers are one number, or both are none -/
theorem tf_canon_n (r : UInt64) : alike64 r (tf_canon r) = true := by
  have hn : FP.Core.dIsNaN 9221120237041090560 = true := by decide +kernel
  rw [tf_alike]
  unfold tf_canon
  by_cases h : FP.Core.dIsNaN r = true
  · rw [if_pos h]; exact Or.inr ⟨h, hn⟩
  · rw [if_neg h]; exact Or.inl rfl
def tf_inf (v : UInt64) : Bool := decide (v.toNat % 2 ^ 63 = 9218868437227405312)
theorem tf_inf_gt {v : UInt64} (h : FP.Core.dIsNaN v = false) : FP.dcmp v 9218868437227405311 = some .gt ↔ v.toNat = 9218868437227405312 := by
  have hv := (FP.Core.notNaN_iff v).mp h
  have hm : FP.Core.val64 9218868437227405311 ≠ .nan := by rw [FP.Core.ne_nan]; decide
  have hb := (FP.Core.ne_nan v).mp hv
  have hl := v.toNat_lt
  rw [show FP.dcmp v 9218868437227405311 = FP.Core.dcmp v 9218868437227405311 from rfl, FP.Core.dcmp_gt_key hv hm]
  have e1 : FP.Core.dkey 9218868437227405311 = 9218868437227405311 := by decide
  rw [e1]
  unfold FP.Core.dkey
  split <;> omega
theorem tf_inf_lt {v : UInt64} (h : FP.Core.dIsNaN v = false) : FP.dcmp v 18442240474082181119 = some .lt ↔ v.toNat = 9218868437227405312 + 9223372036854775808 := by
  have hv := (FP.Core.notNaN_iff v).mp h
  have hm : FP.Core.val64 18442240474082181119 ≠ .nan := by rw [FP.Core.ne_nan]; decide
  have hb := (FP.Core.ne_nan v).mp hv
  have hl := v.toNat_lt
  rw [show FP.dcmp v 18442240474082181119 = FP.Core.dcmp v 18442240474082181119 from rfl, FP.Core.dcmp_lt_key hv hm]
  have e1 : FP.Core.dkey 18442240474082181119 = -9218868437227405311 := by decide
  rw [e1]
  unfold FP.Core.dkey
  split <;> omega
theorem tf_infV {v : UInt64} : tf_inf v = true ↔ ∃ s, FP.Core.val64 v = .inf s := by
  have hl := v.toNat_lt
  have p1 : FP.Core.val64 9218868437227405312 = .inf false := by decide +kernel
  have p2 : FP.Core.val64 18442240474082181120 = .inf true := by decide +kernel
  unfold tf_inf
  rw [decide_eq_true_eq]
  constructor
  · intro h
    by_cases hc : v.toNat < 2 ^ 63
    · have : v = 9218868437227405312 := UInt64.toNat_inj.mp (by show v.toNat = 9218868437227405312; omega)
      exact ⟨false, by rw [this]; exact p1⟩
    · have : v = 18442240474082181120 := UInt64.toNat_inj.mp (by show v.toNat = 18442240474082181120; omega)
      exact ⟨true, by rw [this]; exact p2⟩
  · rintro ⟨s, h⟩
    cases s
    · have : v = 9218868437227405312 := FP.Core.val64_inj (by rw [h]; simp) (h.trans p1.symm)
      rw [this]; decide
    · have : v = 18442240474082181120 := FP.Core.val64_inj (by rw [h]; simp) (h.trans p2.symm)
      rw [this]; decide
theorem tf_inf_or {v : UInt64} (h : FP.Core.dIsNaN v = false) : tf_inf v = true ↔ (FP.dcmp v 9218868437227405311 = some .gt ∨ FP.dcmp v 18442240474082181119 = some .lt) := by
  have hl := v.toNat_lt
  rw [tf_inf_gt h, tf_inf_lt h]
  unfold tf_inf
  rw [decide_eq_true_eq]
  omega
theorem tf_dcmp_none (a b : UInt64) : FP.dcmp a b = none ↔ FP.Core.dIsNaN a = true ∨ FP.Core.dIsNaN b = true := by
  constructor
  · intro h
    by_cases ha : FP.Core.dIsNaN a = true
    · exact Or.inl ha
    · by_cases hb : FP.Core.dIsNaN b = true
      · exact Or.inr hb
      · obtain ⟨o, ho⟩ := FP.Core.dcmp_of_notNaN (a := a) (b := b) (by simpa using ha) (by simpa using hb)
        rw [show FP.dcmp a b = FP.Core.dcmp a b from rfl, ho] at h
        cases h
  · intro h
    cases hc : FP.dcmp a b with
    | none => rfl
    | some o =>
      have := FP.Core.dcmp_notNaN (a := a) (b := b) hc
      rcases h with h | h
      · rw [h] at this; cases this.1
      · rw [h] at this; cases this.2
theorem tf_dcmp_self (a : UInt64) : FP.Core.dIsNaN a = false → FP.dcmp a a = some .eq := fun h => FP.Core.dcmp_refl h
theorem tf_sumc {a b : UInt64} (ha : FP.Core.dIsNaN a = false) (hb : FP.Core.dIsNaN b = false) : (tf_inf a = true ∧ FP.dcmp a (FP.dneg b) = some .eq) ↔ FP.Core.dIsNaN (FP.dadd a b) = true := by
  have hva := (FP.Core.notNaN_iff a).mp ha
  have hvb := (FP.Core.notNaN_iff b).mp hb
  have hn : FP.Core.dIsNaN (FP.dneg b) = false := (FP.dneg_nan b).trans hb
  have hvn := (FP.Core.notNaN_iff _).mp hn
  rw [show FP.dadd a b = FP.Core.dadd a b from rfl, FP.Core.dadd_nan_iff, tf_infV]
  constructor
  · rintro ⟨⟨s, hs⟩, hc⟩
    refine Or.inr (Or.inr ⟨s, hs, ?_⟩)
    have hz : ¬ FP.Core.DZero a := fun q => q.ne_inf s hs
    have hc2 : FP.Core.dcmp (FP.dneg b) a = some .eq := by
      rw [FP.Core.dcmp_eq_key hvn hva]
      exact ((FP.Core.dcmp_eq_key hva hvn).mp hc).symm
    have e := FP.Core.eq_bits hz hc2
    have h2 := FP.val64_dneg b
    rw [e, hs] at h2
    cases hb2 : FP.Core.val64 b with
    | nan => exact absurd hb2 hvb
    | inf t => rw [hb2] at h2; simp only [FP.Core.negate, FP.Core.Datum.inf.injEq] at h2; rw [h2]; simp
    | fin t c q => rw [hb2] at h2; simp [FP.Core.negate] at h2
  · rintro (h | h | ⟨s, h1, h2⟩)
    · exact absurd h hva
    · exact absurd h hvb
    · refine ⟨⟨s, h1⟩, ?_⟩
      have h3 := FP.val64_dneg b
      rw [h2] at h3
      simp only [FP.Core.negate, Bool.not_not] at h3
      have e : a = FP.dneg b := FP.Core.val64_inj hva (h1.trans h3.symm)
      rw [← e]
      exact tf_dcmp_self a ha
theorem tf_quot {f : FP.Core.Fmt} {s t : Bool} {c d : Nat} {q r : Int} (hd : d ≠ 0) : FP.Core.quotient f (.fin s c q) (.fin t d r) = FP.Core.roundRatio f (s != t) c d (q - r) := by
  simp [FP.Core.quotient, hd]
/-- the positive normal double with exponent field e and fraction t -/
def tf_N (e t : Nat) : UInt64 := UInt64.ofNat (e * 4503599627370496 + t)
theorem tf_Nn {e t : Nat} (h2 : e ≤ 2047) (ht : t < 4503599627370496) : (tf_N e t).toNat = e * 4503599627370496 + t := by
  unfold tf_N
  exact UInt64.toNat_ofNat_of_lt' (by show _ < 18446744073709551616; omega)
theorem tf_val {e t : Nat} (h1 : 1 ≤ e) (h2 : e ≤ 2046) (ht : t < 4503599627370496) : FP.Core.val64 (tf_N e t) = .fin false (4503599627370496 + t) ((e : Int) - 1075) := by
  have hx : FP.Core.b64.exps = 2048 := by decide
  have htl : FP.Core.b64.tails = 4503599627370496 := by decide
  have hn : (tf_N e t).toNat = FP.Core.assemble FP.Core.b64 false e t := by
    rw [tf_Nn (by omega) ht]
    unfold FP.Core.assemble
    rw [htl]
    simp
  unfold FP.Core.val64
  rw [hn, FP.Core.decode_assemble _ _ _ _ (by rw [hx]; omega) (by rw [htl]; exact ht), if_neg (by rw [hx]; omega), if_neg (by omega), htl, FP.Core.qmin_b64]
  congr 1
  omega
theorem tf_Nnan {e t : Nat} (h2 : e ≤ 2046) (ht : t < 4503599627370496) : vf_n64 (tf_N e t) := by
  rw [tf_n64, FP.Core.notNaN_iff, FP.Core.ne_nan, tf_Nn (by omega) ht]
  omega
theorem tf_fits {e t : Nat} (h1 : 1 ≤ e) (h2 : e ≤ 2046) (ht : t < 4503599627370496) : FP.Core.fits FP.Core.b64 (.fin false (4503599627370496 + t) ((e : Int) - 1075)) := by
  have h := FP.Core.val64_fits (tf_N e t)
  rw [tf_val h1 h2 ht] at h
  exact h
theorem tf_mul {e t k : Nat} (h1 : 1 ≤ e) (h2 : e + k ≤ 2046) (hk : k ≤ 1023) (ht : t < 4503599627370496) : FP.dmul (tf_N e t) (tf_N (1023 + k) 0) = tf_N (e + k) t := by
  have e2 : FP.Core.val64 (FP.dmul (tf_N e t) (tf_N (1023 + k) 0)) = .fin false (4503599627370496 + t) (((e + k : Nat) : Int) - 1075) := by
    rw [show FP.dmul (tf_N e t) (tf_N (1023 + k) 0) = FP.Core.dmul (tf_N e t) (tf_N (1023 + k) 0) from rfl, FP.Core.val64_dmul, tf_val h1 (by omega) ht, tf_val (by omega) (by omega) (by omega)]
    show FP.Core.roundRatio FP.Core.b64 false ((4503599627370496 + t) * (4503599627370496 + 0)) 1 (((e : Int) - 1075) + (((1023 + k : Nat) : Int) - 1075)) = _
    refine FP.Core.roundRatio_exact FP.Core.good_b64 (by decide) (tf_fits (by omega) h2 ht) ?_
    have a1 : (((e : Int) - 1075) + (((1023 + k : Nat) : Int) - 1075) - (((e + k : Nat) : Int) - 1075)).toNat = 0 := by omega
    have a2 : ((((e + k : Nat) : Int) - 1075) - (((e : Int) - 1075) + (((1023 + k : Nat) : Int) - 1075))).toNat = 52 := by omega
    rw [a1, a2]
    simp
  exact FP.Core.val64_inj (by rw [e2]; simp) (e2.trans (tf_val (by omega) h2 ht).symm)
theorem tf_div {e t k : Nat} (h1 : k + 1 ≤ e) (h2 : e ≤ 2046) (hk : k ≤ 1023) (ht : t < 4503599627370496) : FP.ddiv (tf_N e t) (tf_N (1023 + k) 0) = tf_N (e - k) t := by
  have e2 : FP.Core.val64 (FP.ddiv (tf_N e t) (tf_N (1023 + k) 0)) = .fin false (4503599627370496 + t) (((e - k : Nat) : Int) - 1075) := by
    rw [show FP.ddiv (tf_N e t) (tf_N (1023 + k) 0) = FP.Core.ddiv (tf_N e t) (tf_N (1023 + k) 0) from rfl, FP.Core.val64_ddiv, tf_val (by omega) (by omega) ht, tf_val (by omega) (by omega) (by omega)]
    rw [tf_quot (by decide)]
    refine FP.Core.roundRatio_exact FP.Core.good_b64 (by decide) (tf_fits (by omega) (by omega) ht) ?_
    have a1 : (((e : Int) - 1075) - (((1023 + k : Nat) : Int) - 1075) - (((e - k : Nat) : Int) - 1075)).toNat = 52 := by omega
    have a2 : ((((e - k : Nat) : Int) - 1075) - (((e : Int) - 1075) - (((1023 + k : Nat) : Int) - 1075))).toNat = 0 := by omega
    rw [a1, a2]
    simp
  exact FP.Core.val64_inj (by rw [e2]; simp) (e2.trans (tf_val (by omega) (by omega) ht).symm)
/-- a positive whole double of at most 53 digits is its own number -/
theorem tf_d2l {a : UInt64} {n c : Nat} {q : Int} (hv : FP.Core.val64 a = .fin false c q) (hq : -1074 ≤ q) (hc : c * 2 ^ (q + 1074).toNat = n * 2 ^ 1074) (hn : n < 9007199254740992) : (FP.d2l a).toInt = n := by
  rw [show FP.d2l a = FP.Core.d2l a from rfl, FP.Core.d2l_val (by rw [hv]; simp), hv]
  have hz : FP.Core.zmag FP.Core.b64 (.fin false c q) = n * 2 ^ 1074 := by
    show c * 2 ^ (q - FP.Core.b64.qmin).toNat = _
    rw [FP.Core.qmin_b64, show q - (-1074) = q + 1074 from by omega]
    exact hc
  have ho : FP.Core.one64 = 2 ^ 1074 := rfl
  rw [hz, ho, Nat.mul_div_cancel _ (Nat.two_pow_pos 1074)]
  show max (-2 ^ 63) (min (2 ^ 63 - 1) (n : Int)) = (n : Int)
  omega
theorem tf_d2lN {t : Nat} (ht : t < 4503599627370496) : (FP.d2l (tf_N 1075 t)).toInt = ((4503599627370496 + t : Nat) : Int) := by
  refine tf_d2l (c := 4503599627370496 + t) (q := 0) ?_ (by decide) ?_ (by omega)
  · rw [tf_val (by decide) (by decide) ht]; rfl
  · rw [show ((0 : Int) + 1074).toNat = 1074 from rfl]
theorem tf_sub {t : Nat} (h0 : 0 < t) (ht : t < 4503599627370496) : (FP.d2l (FP.ddiv (tf_N 0 t) 1)).toInt = t ∧ vf_n64 (FP.ddiv (tf_N 0 t) 1) := by
  have hx : FP.Core.b64.exps = 2048 := by decide
  have htl : FP.Core.b64.tails = 4503599627370496 := by decide
  have hn : (tf_N 0 t).toNat = FP.Core.assemble FP.Core.b64 false 0 t := by
    rw [tf_Nn (by omega) ht]
    unfold FP.Core.assemble
    rw [htl]
    simp
  have hv : FP.Core.val64 (tf_N 0 t) = .fin false t (-1074) := by
    unfold FP.Core.val64
    rw [hn, FP.Core.decode_assemble _ _ _ _ (by rw [hx]; omega) (by rw [htl]; exact ht), if_neg (by rw [hx]; omega), if_pos rfl, FP.Core.qmin_b64]
  have h1 : FP.Core.val64 1 = .fin false 1 (-1074) := by decide +kernel
  have hl1 : 2 ^ t.log2 ≤ t := (Nat.le_log2 (by omega)).mp (Nat.le_refl _)
  have hl2 : t < 2 ^ (t.log2 + 1) := (Nat.log2_lt (by omega)).mp (Nat.lt_succ_self _)
  have hL : t.log2 < 52 := (Nat.log2_lt (by omega)).mpr (by omega)
  obtain ⟨L, hLe⟩ : ∃ L, L = t.log2 := ⟨_, rfl⟩
  rw [← hLe] at hl1 hl2 hL
  have hp : 2 ^ L * 2 ^ (52 - L) = 4503599627370496 := by
    rw [← Nat.pow_add, show L + (52 - L) = 52 from by omega]
  have hp2 : 2 ^ (L + 1) * 2 ^ (52 - L) = 9007199254740992 := by
    rw [← Nat.pow_add, show L + 1 + (52 - L) = 53 from by omega]
  have hpos : 0 < 2 ^ (52 - L) := Nat.two_pow_pos _
  have g1 : 4503599627370496 ≤ t * 2 ^ (52 - L) := by rw [← hp]; exact Nat.mul_le_mul_right _ hl1
  have g2 : t * 2 ^ (52 - L) < 9007199254740992 := by rw [← hp2]; exact Nat.mul_lt_mul_of_pos_right hl2 hpos
  have e2 : FP.Core.val64 (FP.ddiv (tf_N 0 t) 1) = .fin false (t * 2 ^ (52 - L)) ((L : Int) - 52) := by
    rw [show FP.ddiv (tf_N 0 t) 1 = FP.Core.ddiv (tf_N 0 t) 1 from rfl, FP.Core.val64_ddiv, hv, h1]
    rw [tf_quot (by decide)]
    refine FP.Core.roundRatio_exact FP.Core.good_b64 (by decide) ⟨by show _ < 9007199254740992; exact g2, by rw [FP.Core.qmin_b64]; omega, by show _ ≤ (971 : Int); omega, Or.inr (by rw [htl]; exact g1)⟩ ?_
    have a1 : ((-1074 : Int) - (-1074) - ((L : Int) - 52)).toNat = 52 - L := by omega
    have a2 : (((L : Int) - 52) - ((-1074 : Int) - (-1074))).toNat = 0 := by omega
    rw [a1, a2]
    simp
  refine ⟨tf_d2l e2 (by omega) ?_ (by omega), ?_⟩
  · have a3 : ((L : Int) - 52 + 1074).toNat = L + 1022 := by omega
    rw [a3, Nat.mul_assoc, ← Nat.pow_add, show 52 - L + (L + 1022) = 1074 from by omega]
  · rw [tf_n64, FP.Core.notNaN_iff, e2]; simp
theorem tf_toI {n : Nat} (h : n < 9223372036854775808) : (UInt64.ofNat n).toInt64.toInt = n := by
  have h1 : (UInt64.ofNat n).toNat = n := UInt64.toNat_ofNat_of_lt' (by show _ < 18446744073709551616; omega)
  have h2 : (UInt64.ofNat n).toInt64.toBitVec.toNat = n := h1
  show (UInt64.ofNat n).toInt64.toBitVec.toInt = n
  rw [BitVec.toInt_eq_toNat_of_lt (by rw [h2]; omega), h2]
theorem tf_lNI {n : Nat} (h : n < 9223372036854775808) : (lN n).toInt = n := pk_lT h
/-- the positive normal double's bits put together -/
theorem tf_put {e t : Nat} (h2 : e ≤ 2046) (ht : t < 4503599627370496) : ((nI e).toInt64 <<< ((52 : Int32).toInt64 &&& 63)) + lN t = (tf_N e t).toInt64 := by
  rw [nI_l (by omega)]
  have hs : lN e <<< ((52 : Int32).toInt64 &&& 63) = lN (e * 4503599627370496) := by
    have hk : ((52 : Int32).toInt64 &&& 63) = (52 : Int64) := by decide
    rw [hk]
    apply Int64.toBitVec_inj.mp
    apply BitVec.eq_of_toNat_eq
    have hb : (lN e <<< (52 : Int64)).toBitVec = (lN e).toBitVec <<< 52 := by
      rw [Int64.toBitVec_shiftLeft]; rfl
    have hc : (lN e).toBitVec.toNat = e := by
      show (BitVec.ofNat 64 e).toNat = e
      rw [BitVec.toNat_ofNat]; omega
    have hd : (lN (e * 4503599627370496)).toBitVec.toNat = e * 4503599627370496 := by
      show (BitVec.ofNat 64 (e * 4503599627370496)).toNat = _
      rw [BitVec.toNat_ofNat]; omega
    rw [hb, hd, BitVec.toNat_shiftLeft, hc, Nat.shiftLeft_eq]
    omega
  rw [hs, lN_add]
  apply Int64.toInt_inj.mp
  unfold tf_N
  rw [tf_toI (by omega), tf_lNI (by omega)]
theorem tf_of_bits {x : UInt64} (h : x.toNat < 9218868437227405312) : ∃ e t, e ≤ 2046 ∧ t < 4503599627370496 ∧ x = tf_N e t := by
  refine ⟨x.toNat / 4503599627370496, x.toNat % 4503599627370496, by omega, Nat.mod_lt _ (by decide), ?_⟩
  unfold tf_N
  rw [Nat.div_add_mod']
  exact UInt64.toNat_inj.mp (UInt64.toNat_ofNat_of_lt' x.toNat_lt).symm
/-- comparisons of positive doubles are comparisons of their bits -/
theorem tf_cmp_lt {a b : UInt64} (ha : a.toNat ≤ 9218868437227405312) (hb : b.toNat ≤ 9218868437227405312) : (FP.dcmp a b = some .lt ↔ a.toNat < b.toNat) ∧ FP.dcmp a b ≠ none := by
  have na : FP.Core.val64 a ≠ .nan := by rw [FP.Core.ne_nan]; omega
  have nb : FP.Core.val64 b ≠ .nan := by rw [FP.Core.ne_nan]; omega
  refine ⟨(FP.Core.mono_bits na nb (by omega) (by omega)).1, ?_⟩
  rw [show FP.dcmp a b = FP.Core.dcmp a b from rfl, FP.Core.dcmp_key na nb]
  simp
theorem tf_cl (o : Option Ordering) : Op.cmpValue o .l < 0 ↔ o = some .lt ∨ o = none := by
  rcases o with _ | (_ | _ | _) <;> decide
theorem tf_cl0 (o : Option Ordering) : Op.cmpValue o .l = 0 ↔ o = some .eq := by
  rcases o with _ | (_ | _ | _) <;> decide
theorem tf_clgt (o : Option Ordering) : 0 < Op.cmpValue o .l ↔ o = some .gt := by
  rcases o with _ | (_ | _ | _) <;> decide
theorem tf_cg (o : Option Ordering) : 0 ≤ Op.cmpValue o .g ↔ o ≠ some .lt := by
  rcases o with _ | (_ | _ | _) <;> decide
theorem tf_i2d (x : Int32) : FP.Core.dIsNaN (FP.i2d x) = false := (FP.Core.i2d_fin x).notNaN
theorem tf_l2d (x : Int64) : FP.Core.dIsNaN (FP.l2d x) = false := (FP.Core.l2d_fin x).notNaN
theorem tf_i2f (x : Int32) : FP.Core.fIsNaN (FP.i2f x) = false := (FP.Core.i2f_fin x).notNaN
theorem tf_l2f (x : Int64) : FP.Core.fIsNaN (FP.l2f x) = false := (FP.Core.l2f_fin x).notNaN
theorem tf_f2d {x : UInt32} (h : FP.Core.fIsNaN x = false) : FP.Core.dIsNaN (FP.f2d x) = false := (FP.f2d_nan x).trans h
theorem tf_d2f {x : UInt64} (h : FP.Core.dIsNaN x = false) : FP.Core.fIsNaN (FP.d2f x) = false := (FP.d2f_nan x).trans h
theorem tf_fmul (x : Int32) : FP.Core.fIsNaN (FP.fmul (FP.i2f x) 1040187392) = false :=
  FP.Core.fmul_out (FP.Core.i2f_fin x) ((FP.Core.fin_bits32 _).mpr (by decide))
theorem tf_dmul (x : Int32) : FP.Core.dIsNaN (FP.dmul (FP.i2d x) 4593671619917905920) = false :=
  FP.Core.dmul_out (FP.Core.i2d_fin x) ((FP.Core.fin_bits _).mpr (by decide))
end
section
/-! PURE METHODS: what each answers, of its arguments alone -/
def tb (b : Bool) : Int32 := if b = true then 1 else 0
theorem tb_0 (b : Bool) : tb b = 0 ↔ b = false := by cases b <;> decide
theorem tb_t {b : Bool} (h : b = true) : tb b = 1 := by rw [h]; rfl
theorem tb_f {b : Bool} (h : b = false) : tb b = 0 := by rw [h]; rfl
theorem tb_n (b : Bool) : narrow .boolean (.int (tb b)) = .int (tb b) := by cases b <;> rfl
def kIs (k : Int32) : Bool := !decide (k < 0) && !decide (9 < k)
def kHas (k : Int32) : Bool := !decide (k < 1) && !decide (8 < k)
def kLen (k : Int32) : Bool := !decide (k < 0) && !decide (40 < k)
def kFl (k : Int32) : Bool := decide (k = 7) || decide (k = 8)
def kReal (k : Int32) : Bool := !decide (k < 7)
def kWid (a b : Int32) : Bool := if kHas a = false then false else if kHas b = false then false else if a = b then true else if a = 1 then false else if b = 3 then false else if a = 3 then !decide (b < 5) else decide (a < b)
def kPart (f m n : Int32) : Bool := !decide (f < 0) && !decide (m < 0) && !decide (n - m < f)
def kMade (v k : Int32) : Int64 := if k = 1 then (if v = 0 then 0 else 1) else if k = 2 then v.toInt8.toInt32.toInt64 else if k = 3 then (v.toUInt32 % 65536).toInt32.toInt64 else if k = 4 then v.toInt16.toInt32.toInt64 else v.toInt64
theorem tc_sw4 {x : Int32} (h1 : ¬ x = 1) (h2 : ¬ x = 2) (h3 : ¬ x = 3) (h4 : ¬ x = 4) : x.toInt < 1 ∨ 4 < x.toInt := by
  simp only [← Int32.toInt_inj] at h1 h2 h3 h4
  have e1 : (1 : Int32).toInt = 1 := rfl
  have e2 : (2 : Int32).toInt = 2 := rfl
  have e3 : (3 : Int32).toInt = 3 := rfl
  have e4 : (4 : Int32).toInt = 4 := rfl
  omega
theorem tc_sw8 {x : Int32} (h1 : ¬ x = 1) (h2 : ¬ x = 2) (h3 : ¬ x = 3) (h4 : ¬ x = 4) (h5 : ¬ x = 5) (h6 : ¬ x = 6) (h7 : ¬ x = 7) (h8 : ¬ x = 8) : x.toInt < 1 ∨ 8 < x.toInt := by
  simp only [← Int32.toInt_inj] at h1 h2 h3 h4 h5 h6 h7 h8
  have e1 : (1 : Int32).toInt = 1 := rfl
  have e2 : (2 : Int32).toInt = 2 := rfl
  have e3 : (3 : Int32).toInt = 3 := rfl
  have e4 : (4 : Int32).toInt = 4 := rfl
  have e5 : (5 : Int32).toInt = 5 := rfl
  have e6 : (6 : Int32).toInt = 6 := rfl
  have e7 : (7 : Int32).toInt = 7 := rfl
  have e8 : (8 : Int32).toInt = 8 := rfl
  omega
theorem kHas_iff (k : Int32) : kHas k = true ↔ 1 ≤ k.toInt ∧ k.toInt ≤ 8 := by
  have e1 : (1 : Int32).toInt = 1 := rfl
  have e8 : (8 : Int32).toInt = 8 := rfl
  simp only [kHas, Bool.and_eq_true, Bool.not_eq_true', decide_eq_false_iff_not, Int32.lt_iff_toInt_lt, e1, e8]
  omega
theorem kIs_iff (k : Int32) : kIs k = true ↔ 0 ≤ k.toInt ∧ k.toInt ≤ 9 := by
  have e1 : (0 : Int32).toInt = 0 := rfl
  have e8 : (9 : Int32).toInt = 9 := rfl
  simp only [kIs, Bool.and_eq_true, Bool.not_eq_true', decide_eq_false_iff_not, Int32.lt_iff_toInt_lt, e1, e8]
  omega
theorem kLen_iff (k : Int32) : kLen k = true ↔ 0 ≤ k.toInt ∧ k.toInt ≤ 40 := by
  have e1 : (0 : Int32).toInt = 0 := rfl
  have e8 : (40 : Int32).toInt = 40 := rfl
  simp only [kLen, Bool.and_eq_true, Bool.not_eq_true', decide_eq_false_iff_not, Int32.lt_iff_toInt_lt, e1, e8]
  omega
theorem kWid_e1 {a b : Int32} (h1 : kHas a = false) : kWid a b = false := by unfold kWid; rw [if_pos h1]
theorem kWid_e2 {a b : Int32} (h1 : kHas a = true) (h2 : kHas b = false) : kWid a b = false := by unfold kWid; rw [if_neg (by rw [h1]; decide), if_pos h2]
theorem kWid_e3 {a b : Int32} (h1 : kHas a = true) (h2 : kHas b = true) (h3 : a = b) : kWid a b = true := by unfold kWid; rw [if_neg (by rw [h1]; decide), if_neg (by rw [h2]; decide), if_pos h3]
theorem kWid_e4 {a b : Int32} (h1 : kHas a = true) (h2 : kHas b = true) (h3 : ¬ a = b) (h4 : a = 1) : kWid a b = false := by unfold kWid; rw [if_neg (by rw [h1]; decide), if_neg (by rw [h2]; decide), if_neg h3, if_pos h4]
theorem kWid_e5 {a b : Int32} (h1 : kHas a = true) (h2 : kHas b = true) (h3 : ¬ a = b) (h4 : ¬ a = 1) (h5 : b = 3) : kWid a b = false := by unfold kWid; rw [if_neg (by rw [h1]; decide), if_neg (by rw [h2]; decide), if_neg h3, if_neg h4, if_pos h5]
theorem kWid_e6 {a b : Int32} (h1 : kHas a = true) (h2 : kHas b = true) (h3 : ¬ a = b) (h4 : ¬ a = 1) (h5 : ¬ b = 3) (h6 : a = 3) : kWid a b = !decide (b < 5) := by unfold kWid; rw [if_neg (by rw [h1]; decide), if_neg (by rw [h2]; decide), if_neg h3, if_neg h4, if_neg h5, if_pos h6]
theorem kWid_e7 {a b : Int32} (h1 : kHas a = true) (h2 : kHas b = true) (h3 : ¬ a = b) (h4 : ¬ a = 1) (h5 : ¬ b = 3) (h6 : ¬ a = 3) : kWid a b = decide (a < b) := by unfold kWid; rw [if_neg (by rw [h1]; decide), if_neg (by rw [h2]; decide), if_neg h3, if_neg h4, if_neg h5, if_neg h6]
theorem kWid_b1 {a b : Int32} (h1 : kHas a = true) (h2 : kHas b = true) (h3 : ¬ a = b) (h4 : ¬ a = 1) (h5 : b = 1) : kWid a b = false := by
  subst h5
  by_cases h6 : a = 3
  · rw [kWid_e6 h1 h2 h3 h4 (by decide) h6]; decide
  · rw [kWid_e7 h1 h2 h3 h4 (by decide) h6]
    have g := (kHas_iff a).mp h1
    have e1 : (1 : Int32).toInt = 1 := rfl
    refine decide_eq_false ?_
    rw [Int32.lt_iff_toInt_lt, e1]
    omega
theorem tc_bf {b : Bool} {p : Prop} (h : b = true ↔ p) (hp : ¬ p) : b = false := by
  cases hb : b
  · rfl
  · exact absurd (h.mp hb) hp
theorem tb_1 (b : Bool) : ¬ tb b = 0 ↔ b = true := by cases b <;> decide
theorem tf_self {a : UInt64} (h : Op.cmpValue (FP.dcmp a a) .l = 0) : FP.Core.dIsNaN a = false := (FP.Core.dcmp_notNaN (a := a) (b := a) ((tf_cl0 _).mp h)).1
theorem tf_selfN {a : UInt64} (h : ¬ Op.cmpValue (FP.dcmp a a) .l = 0) : FP.Core.dIsNaN a = true := by
  cases hz : FP.Core.dIsNaN a
  · exact absurd ((tf_cl0 _).mpr (tf_dcmp_self a hz)) h
  · rfl
theorem tf_cyes {r : UInt64} (h : FP.Core.dIsNaN r = true) : tf_canon r = 9221120237041090560 := by unfold tf_canon; rw [if_pos h]
theorem tf_cno {r : UInt64} (h : FP.Core.dIsNaN r = false) : tf_canon r = r := by unfold tf_canon; rw [if_neg (by rw [h]; decide)]
section TCR
variable {p : Program} {l : Launch} {e : Env} {R : Room} {s : State} {m : MethodId} {args : Array Value} {below : List Frame} {meth : Method} {c : Code} {H : Heap} {locs : List Loc} {cells slots mc ms : Nat} {g : JFrame} {rest : List Value} {Qa : State → Outcome → State → Prop} {free : Addr → Prop}
theorem tc_CR (h : va_Run p l e R s m args below meth c H locs cells slots mc ms g rest Qa free) : CallRun p l e R s m args below meth c H locs cells slots mc ms g rest Qa free := fun T hT X => by
  obtain ⟨v, st₀, t, T', L, h0, X', hL, e1, -, hq, st⟩ := h T hT X
  exact ⟨v, st₀, t, T', L, h0, X', hL, e1, hq, st⟩
end TCR
set_option maxHeartbeats 4000000 in
set_option maxRecDepth 100000 in
theorem kX2_isKind (l : Launch) (k : Int32) : Met l yX2_isKind wsX2_isKind ({ frames := 0, cells := 0, slots := 0, locals := 0 }) (va_Pc [.int k] (fun _ => True)) (vp_Si (fun r => r = tb (kIs k))) 0 0 (fun _ => False) := by
  refine Met.ofW (cc := cX2_isKind) (maxL := 1) (ret := (some .boolean)) (by decide) rfl ?_
  intro p e s m args below meth c s₁ B hml hv
  obtain ⟨rfl, -⟩ := hv
  have hx := B.exec
  have hb := B.bytes
  have hr := B.returns
  have hts := atoms_spec (ws := wsX2_isKind) B.pre
  have hown : s.vm.findClass RX2 = some m.cls := findClass_of_methodNamed B.named
  have hlocks := B.notSynchronized
  have hl := lv_entry ([.int k]) (n := 1) (Nat.le_of_ble_eq_true rfl)
  rw [lg_entry_eq]
  generalize (lg_sl ([.int k]) ++ List.replicate (1 - (lg_sl ([.int k])).length) Slot.unset).toArray = ls at hl ⊢
  have hl : lv_has ls 1 [(0, .int k)] := hl
  refine lv_iload_n hx hb dX2_isKind_0 rfl (lv_at hl 0 rfl) ?_
  refine lv_if_lt (tgt := 14) hx hb dX2_isKind_1 (by decide) (fun c_1 => ?_) (fun c_1 => ?_)
  · refine lv_iconst (v := 0) hx hb dX2_isKind_14 (by decide) ?_
    exact W.zret (ty := .boolean) (v := 0) hx hb hr rfl (fun t ht hW => ⟨0, rfl, by simp [tb, kIs, c_1], ht⟩) (fun q hq => absurd hq List.not_mem_nil) dX2_isKind_15
  · refine lv_iload_n hx hb dX2_isKind_4 rfl (lv_at hl 0 rfl) ?_
    refine lv_bipush (v := 9) hx hb dX2_isKind_5 (by decide) ?_
    refine lv_icmp_gt (tgt := 14) hx hb dX2_isKind_7 (by decide) (fun c_2 => ?_) (fun c_2 => ?_)
    · refine lv_iconst (v := 0) hx hb dX2_isKind_14 (by decide) ?_
      exact W.zret (ty := .boolean) (v := 0) hx hb hr rfl (fun t ht hW => ⟨0, rfl, by simp [tb, kIs, c_1, c_2], ht⟩) (fun q hq => absurd hq List.not_mem_nil) dX2_isKind_15
    · refine lv_iconst (v := 1) hx hb dX2_isKind_10 (by decide) ?_
      refine lv_goto (tgt := 15) hx hb dX2_isKind_11 (by decide) ?_
      exact W.zret (ty := .boolean) (v := 1) hx hb hr rfl (fun t ht hW => ⟨1, rfl, by simp [tb, kIs, c_1, c_2], ht⟩) (fun q hq => absurd hq List.not_mem_nil) dX2_isKind_15
set_option maxHeartbeats 4000000 in
set_option maxRecDepth 100000 in
theorem kX2_holdsCells (l : Launch) (k : Int32) : Met l yX2_holdsCells wsX2_holdsCells ({ frames := 0, cells := 0, slots := 0, locals := 0 }) (va_Pc [.int k] (fun _ => True)) (vp_Si (fun r => r = tb (kHas k))) 0 0 (fun _ => False) := by
  refine Met.ofW (cc := cX2_holdsCells) (maxL := 1) (ret := (some .boolean)) (by decide) rfl ?_
  intro p e s m args below meth c s₁ B hml hv
  obtain ⟨rfl, -⟩ := hv
  have hx := B.exec
  have hb := B.bytes
  have hr := B.returns
  have hts := atoms_spec (ws := wsX2_holdsCells) B.pre
  have hown : s.vm.findClass RX2 = some m.cls := findClass_of_methodNamed B.named
  have hlocks := B.notSynchronized
  have hl := lv_entry ([.int k]) (n := 1) (Nat.le_of_ble_eq_true rfl)
  rw [lg_entry_eq]
  generalize (lg_sl ([.int k]) ++ List.replicate (1 - (lg_sl ([.int k])).length) Slot.unset).toArray = ls at hl ⊢
  have hl : lv_has ls 1 [(0, .int k)] := hl
  refine lv_iload_n hx hb dX2_holdsCells_0 rfl (lv_at hl 0 rfl) ?_
  refine lv_iconst (v := 1) hx hb dX2_holdsCells_1 (by decide) ?_
  refine lv_icmp_lt (tgt := 15) hx hb dX2_holdsCells_2 (by decide) (fun c_1 => ?_) (fun c_1 => ?_)
  · refine lv_iconst (v := 0) hx hb dX2_holdsCells_15 (by decide) ?_
    exact W.zret (ty := .boolean) (v := 0) hx hb hr rfl (fun t ht hW => ⟨0, rfl, by simp [tb, kHas, c_1], ht⟩) (fun q hq => absurd hq List.not_mem_nil) dX2_holdsCells_16
  · refine lv_iload_n hx hb dX2_holdsCells_5 rfl (lv_at hl 0 rfl) ?_
    refine lv_bipush (v := 8) hx hb dX2_holdsCells_6 (by decide) ?_
    refine lv_icmp_gt (tgt := 15) hx hb dX2_holdsCells_8 (by decide) (fun c_2 => ?_) (fun c_2 => ?_)
    · refine lv_iconst (v := 0) hx hb dX2_holdsCells_15 (by decide) ?_
      exact W.zret (ty := .boolean) (v := 0) hx hb hr rfl (fun t ht hW => ⟨0, rfl, by simp [tb, kHas, c_1, c_2], ht⟩) (fun q hq => absurd hq List.not_mem_nil) dX2_holdsCells_16
    · refine lv_iconst (v := 1) hx hb dX2_holdsCells_11 (by decide) ?_
      refine lv_goto (tgt := 16) hx hb dX2_holdsCells_12 (by decide) ?_
      exact W.zret (ty := .boolean) (v := 1) hx hb hr rfl (fun t ht hW => ⟨1, rfl, by simp [tb, kHas, c_1, c_2], ht⟩) (fun q hq => absurd hq List.not_mem_nil) dX2_holdsCells_16
set_option maxHeartbeats 4000000 in
set_option maxRecDepth 100000 in
theorem kX2_isLength (l : Launch) (k : Int32) : Met l yX2_isLength wsX2_isLength ({ frames := 0, cells := 0, slots := 0, locals := 0 }) (va_Pc [.int k] (fun _ => True)) (vp_Si (fun r => r = tb (kLen k))) 0 0 (fun _ => False) := by
  refine Met.ofW (cc := cX2_isLength) (maxL := 1) (ret := (some .boolean)) (by decide) rfl ?_
  intro p e s m args below meth c s₁ B hml hv
  obtain ⟨rfl, -⟩ := hv
  have hx := B.exec
  have hb := B.bytes
  have hr := B.returns
  have hts := atoms_spec (ws := wsX2_isLength) B.pre
  have hown : s.vm.findClass RX2 = some m.cls := findClass_of_methodNamed B.named
  have hlocks := B.notSynchronized
  have hl := lv_entry ([.int k]) (n := 1) (Nat.le_of_ble_eq_true rfl)
  rw [lg_entry_eq]
  generalize (lg_sl ([.int k]) ++ List.replicate (1 - (lg_sl ([.int k])).length) Slot.unset).toArray = ls at hl ⊢
  have hl : lv_has ls 1 [(0, .int k)] := hl
  refine lv_iload_n hx hb dX2_isLength_0 rfl (lv_at hl 0 rfl) ?_
  refine lv_if_lt (tgt := 14) hx hb dX2_isLength_1 (by decide) (fun c_1 => ?_) (fun c_1 => ?_)
  · refine lv_iconst (v := 0) hx hb dX2_isLength_14 (by decide) ?_
    exact W.zret (ty := .boolean) (v := 0) hx hb hr rfl (fun t ht hW => ⟨0, rfl, by simp [tb, kLen, c_1], ht⟩) (fun q hq => absurd hq List.not_mem_nil) dX2_isLength_15
  · refine lv_iload_n hx hb dX2_isLength_4 rfl (lv_at hl 0 rfl) ?_
    refine lv_bipush (v := 40) hx hb dX2_isLength_5 (by decide) ?_
    refine lv_icmp_gt (tgt := 14) hx hb dX2_isLength_7 (by decide) (fun c_2 => ?_) (fun c_2 => ?_)
    · refine lv_iconst (v := 0) hx hb dX2_isLength_14 (by decide) ?_
      exact W.zret (ty := .boolean) (v := 0) hx hb hr rfl (fun t ht hW => ⟨0, rfl, by simp [tb, kLen, c_1, c_2], ht⟩) (fun q hq => absurd hq List.not_mem_nil) dX2_isLength_15
    · refine lv_iconst (v := 1) hx hb dX2_isLength_10 (by decide) ?_
      refine lv_goto (tgt := 15) hx hb dX2_isLength_11 (by decide) ?_
      exact W.zret (ty := .boolean) (v := 1) hx hb hr rfl (fun t ht hW => ⟨1, rfl, by simp [tb, kLen, c_1, c_2], ht⟩) (fun q hq => absurd hq List.not_mem_nil) dX2_isLength_15
set_option maxHeartbeats 4000000 in
set_option maxRecDepth 100000 in
theorem kX2_isFloating (l : Launch) (k : Int32) : Met l yX2_isFloating wsX2_isFloating ({ frames := 0, cells := 0, slots := 0, locals := 0 }) (va_Pc [.int k] (fun _ => True)) (vp_Si (fun r => r = tb (kFl k))) 0 0 (fun _ => False) := by
  refine Met.ofW (cc := cX2_isFloating) (maxL := 1) (ret := (some .boolean)) (by decide) rfl ?_
  intro p e s m args below meth c s₁ B hml hv
  obtain ⟨rfl, -⟩ := hv
  have hx := B.exec
  have hb := B.bytes
  have hr := B.returns
  have hts := atoms_spec (ws := wsX2_isFloating) B.pre
  have hown : s.vm.findClass RX2 = some m.cls := findClass_of_methodNamed B.named
  have hlocks := B.notSynchronized
  have hl := lv_entry ([.int k]) (n := 1) (Nat.le_of_ble_eq_true rfl)
  rw [lg_entry_eq]
  generalize (lg_sl ([.int k]) ++ List.replicate (1 - (lg_sl ([.int k])).length) Slot.unset).toArray = ls at hl ⊢
  have hl : lv_has ls 1 [(0, .int k)] := hl
  refine lv_iload_n hx hb dX2_isFloating_0 rfl (lv_at hl 0 rfl) ?_
  refine lv_bipush (v := 7) hx hb dX2_isFloating_1 (by decide) ?_
  refine lv_icmp_eq (tgt := 12) hx hb dX2_isFloating_3 (by decide) (fun c_1 => ?_) (fun c_1 => ?_)
  · refine lv_iconst (v := 1) hx hb dX2_isFloating_12 (by decide) ?_
    refine lv_goto (tgt := 17) hx hb dX2_isFloating_13 (by decide) ?_
    exact W.zret (ty := .boolean) (v := 1) hx hb hr rfl (fun t ht hW => ⟨1, rfl, by simp [tb, kFl, c_1], ht⟩) (fun q hq => absurd hq List.not_mem_nil) dX2_isFloating_17
  · refine lv_iload_n hx hb dX2_isFloating_6 rfl (lv_at hl 0 rfl) ?_
    refine lv_bipush (v := 8) hx hb dX2_isFloating_7 (by decide) ?_
    refine lv_icmp_ne (tgt := 16) hx hb dX2_isFloating_9 (by decide) (fun c_2 => ?_) (fun c_2 => ?_)
    · refine lv_iconst (v := 0) hx hb dX2_isFloating_16 (by decide) ?_
      exact W.zret (ty := .boolean) (v := 0) hx hb hr rfl (fun t ht hW => ⟨0, rfl, by simp [tb, kFl, c_1, c_2], ht⟩) (fun q hq => absurd hq List.not_mem_nil) dX2_isFloating_17
    · refine lv_iconst (v := 1) hx hb dX2_isFloating_12 (by decide) ?_
      refine lv_goto (tgt := 17) hx hb dX2_isFloating_13 (by decide) ?_
      exact W.zret (ty := .boolean) (v := 1) hx hb hr rfl (fun t ht hW => ⟨1, rfl, by simp [tb, kFl, c_1, c_2], ht⟩) (fun q hq => absurd hq List.not_mem_nil) dX2_isFloating_17
set_option maxHeartbeats 4000000 in
set_option maxRecDepth 100000 in
theorem kX2_widens (l : Launch) (a : Int32) (b : Int32) : Met l yX2_widens wsX2_widens ({ frames := 1, cells := 0, slots := 0, locals := 20 }) (va_Pc [.int a, .int b] (fun _ => True)) (vp_Si (fun r => r = tb (kWid a b))) 0 0 (fun _ => False) := by
  refine Met.ofW (cc := cX2_widens) (maxL := 2) (ret := (some .boolean)) (by decide) rfl ?_
  intro p e s m args below meth c s₁ B hml hv
  obtain ⟨rfl, -⟩ := hv
  have hx := B.exec
  have hb := B.bytes
  have hr := B.returns
  have hts := atoms_spec (ws := wsX2_widens) B.pre
  have hown : s.vm.findClass RX2 = some m.cls := findClass_of_methodNamed B.named
  have hlocks := B.notSynchronized
  have hl := lv_entry ([.int a, .int b]) (n := 2) (Nat.le_of_ble_eq_true rfl)
  rw [lg_entry_eq]
  generalize (lg_sl ([.int a, .int b]) ++ List.replicate (2 - (lg_sl ([.int a, .int b])).length) Slot.unset).toArray = ls at hl ⊢
  have hl : lv_has ls 2 [(0, .int a), (1, .int b)] := hl
  refine lv_iload_n hx hb dX2_widens_0 rfl (lv_at hl 0 rfl) ?_
  refine vp_callSi (W.runS (As := [.int a]) (rest := []) ⟨hx, hb, hml, hown, hts⟩ (kX2_holdsCells l a) (va_cwS 1 hts gX2_widens_X2_holdsCells rfl rfl rfl (by decide +kernel) ⟨Nat.le_of_ble_eq_true rfl, Nat.le_of_ble_eq_true rfl⟩) ⟨fun a U g mk q => q, fun U hU hW => ⟨rfl, trivial⟩⟩ rfl rfl hl.1 rfl (lv_room (Nat.le_of_ble_eq_true rfl)) dX2_widens_1 ⟨Nat.zero_le _, Nat.zero_le _⟩) (fun r_1 hr_1 => ?_)
  subst hr_1
  refine lv_if_eq (tgt := 14) hx hb dX2_widens_4 (by decide) (fun c_2 => ?_) (fun c_2 => ?_)
  · refine lv_iconst (v := 0) hx hb dX2_widens_14 (by decide) ?_
    exact W.zret (ty := .boolean) (v := 0) hx hb hr rfl (fun t ht hW => ⟨0, rfl, (tb_f (kWid_e1 ((tb_0 _).mp c_2))).symm, ht⟩) (fun q hq => absurd hq List.not_mem_nil) dX2_widens_15
  · refine lv_iload_n hx hb dX2_widens_7 rfl (lv_at hl 1 rfl) ?_
    refine vp_callSi (W.runS (As := [.int b]) (rest := []) ⟨hx, hb, hml, hown, hts⟩ (kX2_holdsCells l b) (va_cwS 1 hts gX2_widens_X2_holdsCells rfl rfl rfl (by decide +kernel) ⟨Nat.le_of_ble_eq_true rfl, Nat.le_of_ble_eq_true rfl⟩) ⟨fun a U g mk q => q, fun U hU hW => ⟨rfl, trivial⟩⟩ rfl rfl hl.1 rfl (lv_room (Nat.le_of_ble_eq_true rfl)) dX2_widens_8 ⟨Nat.zero_le _, Nat.zero_le _⟩) (fun r_3 hr_3 => ?_)
    subst hr_3
    refine lv_if_ne (tgt := 16) hx hb dX2_widens_11 (by decide) (fun c_4 => ?_) (fun c_4 => ?_)
    · refine lv_iload_n hx hb dX2_widens_16 rfl (lv_at hl 0 rfl) ?_
      refine lv_iload_n hx hb dX2_widens_17 rfl (lv_at hl 1 rfl) ?_
      refine lv_icmp_ne (tgt := 23) hx hb dX2_widens_18 (by decide) (fun c_5 => ?_) (fun c_5 => ?_)
      · refine lv_iload_n hx hb dX2_widens_23 rfl (lv_at hl 0 rfl) ?_
        refine lv_iconst (v := 1) hx hb dX2_widens_24 (by decide) ?_
        refine lv_icmp_eq (tgt := 33) hx hb dX2_widens_25 (by decide) (fun c_6 => ?_) (fun c_6 => ?_)
        · refine lv_iconst (v := 0) hx hb dX2_widens_33 (by decide) ?_
          exact W.zret (ty := .boolean) (v := 0) hx hb hr rfl (fun t ht hW => ⟨0, rfl, (tb_f (kWid_e4 ((tb_1 _).mp c_2) ((tb_1 _).mp c_4) c_5 c_6)).symm, ht⟩) (fun q hq => absurd hq List.not_mem_nil) dX2_widens_34
        · refine lv_iload_n hx hb dX2_widens_28 rfl (lv_at hl 1 rfl) ?_
          refine lv_iconst (v := 3) hx hb dX2_widens_29 (by decide) ?_
          refine lv_icmp_ne (tgt := 35) hx hb dX2_widens_30 (by decide) (fun c_7 => ?_) (fun c_7 => ?_)
          · refine lv_iload_n hx hb dX2_widens_35 rfl (lv_at hl 0 rfl) ?_
            refine lv_iconst (v := 3) hx hb dX2_widens_36 (by decide) ?_
            refine lv_icmp_ne (tgt := 53) hx hb dX2_widens_37 (by decide) (fun c_8 => ?_) (fun c_8 => ?_)
            · refine lv_iload_n hx hb dX2_widens_53 rfl (lv_at hl 0 rfl) ?_
              refine lv_iload_n hx hb dX2_widens_54 rfl (lv_at hl 1 rfl) ?_
              refine lv_icmp_ge (tgt := 62) hx hb dX2_widens_55 (by decide) (fun c_9 => ?_) (fun c_9 => ?_)
              · refine lv_iconst (v := 0) hx hb dX2_widens_62 (by decide) ?_
                exact W.zret (ty := .boolean) (v := 0) hx hb hr rfl (fun t ht hW => ⟨0, rfl, (tb_f ((kWid_e7 ((tb_1 _).mp c_2) ((tb_1 _).mp c_4) c_5 c_6 c_7 c_8).trans (decide_eq_false (Int32.not_lt.mpr c_9)))).symm, ht⟩) (fun q hq => absurd hq List.not_mem_nil) dX2_widens_63
              · refine lv_iconst (v := 1) hx hb dX2_widens_58 (by decide) ?_
                refine lv_goto (tgt := 63) hx hb dX2_widens_59 (by decide) ?_
                exact W.zret (ty := .boolean) (v := 1) hx hb hr rfl (fun t ht hW => ⟨1, rfl, (tb_t ((kWid_e7 ((tb_1 _).mp c_2) ((tb_1 _).mp c_4) c_5 c_6 c_7 c_8).trans (decide_eq_true (Int32.not_le.mp c_9)))).symm, ht⟩) (fun q hq => absurd hq List.not_mem_nil) dX2_widens_63
            · refine lv_iload_n hx hb dX2_widens_40 rfl (lv_at hl 1 rfl) ?_
              refine lv_iconst (v := 5) hx hb dX2_widens_41 (by decide) ?_
              refine lv_icmp_lt (tgt := 49) hx hb dX2_widens_42 (by decide) (fun c_10 => ?_) (fun c_10 => ?_)
              · refine lv_iconst (v := 0) hx hb dX2_widens_49 (by decide) ?_
                refine lv_goto (tgt := 63) hx hb dX2_widens_50 (by decide) ?_
                exact W.zret (ty := .boolean) (v := 0) hx hb hr rfl (fun t ht hW => ⟨0, rfl, (tb_f ((kWid_e6 ((tb_1 _).mp c_2) ((tb_1 _).mp c_4) c_5 c_6 c_7 c_8).trans (by rw [decide_eq_true (c_10)]; rfl))).symm, ht⟩) (fun q hq => absurd hq List.not_mem_nil) dX2_widens_63
              · refine lv_iconst (v := 1) hx hb dX2_widens_45 (by decide) ?_
                refine lv_goto (tgt := 63) hx hb dX2_widens_46 (by decide) ?_
                exact W.zret (ty := .boolean) (v := 1) hx hb hr rfl (fun t ht hW => ⟨1, rfl, (tb_t ((kWid_e6 ((tb_1 _).mp c_2) ((tb_1 _).mp c_4) c_5 c_6 c_7 c_8).trans (by rw [decide_eq_false (c_10)]; rfl))).symm, ht⟩) (fun q hq => absurd hq List.not_mem_nil) dX2_widens_63
          · refine lv_iconst (v := 0) hx hb dX2_widens_33 (by decide) ?_
            exact W.zret (ty := .boolean) (v := 0) hx hb hr rfl (fun t ht hW => ⟨0, rfl, (tb_f (kWid_e5 ((tb_1 _).mp c_2) ((tb_1 _).mp c_4) c_5 c_6 c_7)).symm, ht⟩) (fun q hq => absurd hq List.not_mem_nil) dX2_widens_34
      · refine lv_iconst (v := 1) hx hb dX2_widens_21 (by decide) ?_
        exact W.zret (ty := .boolean) (v := 1) hx hb hr rfl (fun t ht hW => ⟨1, rfl, (tb_t (kWid_e3 ((tb_1 _).mp c_2) ((tb_1 _).mp c_4) c_5)).symm, ht⟩) (fun q hq => absurd hq List.not_mem_nil) dX2_widens_22
    · refine lv_iconst (v := 0) hx hb dX2_widens_14 (by decide) ?_
      exact W.zret (ty := .boolean) (v := 0) hx hb hr rfl (fun t ht hW => ⟨0, rfl, (tb_f (kWid_e2 ((tb_1 _).mp c_2) ((tb_0 _).mp c_4))).symm, ht⟩) (fun q hq => absurd hq List.not_mem_nil) dX2_widens_15
set_option maxHeartbeats 4000000 in
set_option maxRecDepth 100000 in
theorem kX2_isPart (l : Launch) (f : Int32) (mm : Int32) (n : Int32) : Met l yX2_isPart wsX2_isPart ({ frames := 0, cells := 0, slots := 0, locals := 0 }) (va_Pc [.int f, .int mm, .int n] (fun _ => True)) (vp_Si (fun r => r = tb (kPart f mm n))) 0 0 (fun _ => False) := by
  refine Met.ofW (cc := cX2_isPart) (maxL := 3) (ret := (some .boolean)) (by decide) rfl ?_
  intro p e s m args below meth c s₁ B hml hv
  obtain ⟨rfl, -⟩ := hv
  have hx := B.exec
  have hb := B.bytes
  have hr := B.returns
  have hts := atoms_spec (ws := wsX2_isPart) B.pre
  have hown : s.vm.findClass RX2 = some m.cls := findClass_of_methodNamed B.named
  have hlocks := B.notSynchronized
  have hl := lv_entry ([.int f, .int mm, .int n]) (n := 3) (Nat.le_of_ble_eq_true rfl)
  rw [lg_entry_eq]
  generalize (lg_sl ([.int f, .int mm, .int n]) ++ List.replicate (3 - (lg_sl ([.int f, .int mm, .int n])).length) Slot.unset).toArray = ls at hl ⊢
  have hl : lv_has ls 3 [(0, .int f), (1, .int mm), (2, .int n)] := hl
  refine lv_iload_n hx hb dX2_isPart_0 rfl (lv_at hl 0 rfl) ?_
  refine lv_if_lt (tgt := 19) hx hb dX2_isPart_1 (by decide) (fun c_1 => ?_) (fun c_1 => ?_)
  · refine lv_iconst (v := 0) hx hb dX2_isPart_19 (by decide) ?_
    exact W.zret (ty := .boolean) (v := 0) hx hb hr rfl (fun t ht hW => ⟨0, rfl, by simp [tb, kPart, c_1], ht⟩) (fun q hq => absurd hq List.not_mem_nil) dX2_isPart_20
  · refine lv_iload_n hx hb dX2_isPart_4 rfl (lv_at hl 1 rfl) ?_
    refine lv_if_lt (tgt := 19) hx hb dX2_isPart_5 (by decide) (fun c_2 => ?_) (fun c_2 => ?_)
    · refine lv_iconst (v := 0) hx hb dX2_isPart_19 (by decide) ?_
      exact W.zret (ty := .boolean) (v := 0) hx hb hr rfl (fun t ht hW => ⟨0, rfl, by simp [tb, kPart, c_1, c_2], ht⟩) (fun q hq => absurd hq List.not_mem_nil) dX2_isPart_20
    · refine lv_iload_n hx hb dX2_isPart_8 rfl (lv_at hl 0 rfl) ?_
      refine lv_iload_n hx hb dX2_isPart_9 rfl (lv_at hl 2 rfl) ?_
      refine lv_iload_n hx hb dX2_isPart_10 rfl (lv_at hl 1 rfl) ?_
      refine lv_isub hx hb dX2_isPart_11 ?_
      refine lv_icmp_gt (tgt := 19) hx hb dX2_isPart_12 (by decide) (fun c_3 => ?_) (fun c_3 => ?_)
      · refine lv_iconst (v := 0) hx hb dX2_isPart_19 (by decide) ?_
        exact W.zret (ty := .boolean) (v := 0) hx hb hr rfl (fun t ht hW => ⟨0, rfl, by simp [tb, kPart, c_1, c_2, c_3], ht⟩) (fun q hq => absurd hq List.not_mem_nil) dX2_isPart_20
      · refine lv_iconst (v := 1) hx hb dX2_isPart_15 (by decide) ?_
        refine lv_goto (tgt := 20) hx hb dX2_isPart_16 (by decide) ?_
        exact W.zret (ty := .boolean) (v := 1) hx hb hr rfl (fun t ht hW => ⟨1, rfl, by simp [tb, kPart, c_1, c_2, c_3], ht⟩) (fun q hq => absurd hq List.not_mem_nil) dX2_isPart_20
set_option maxHeartbeats 4000000 in
set_option maxRecDepth 100000 in
theorem kX2_wholeMadeFrom (l : Launch) (v : Int32) (k : Int32) : Met l yX2_wholeMadeFrom wsX2_wholeMadeFrom ({ frames := 0, cells := 0, slots := 0, locals := 0 }) (va_Pc [.int v, .int k] (fun _ => True)) (vp_Sl (fun r => r = kMade v k)) 0 0 (fun _ => False) := by
  refine Met.ofW (cc := cX2_wholeMadeFrom) (maxL := 2) (ret := (some .long)) (by decide) rfl ?_
  intro p e s m args below meth c s₁ B hml hv
  obtain ⟨rfl, -⟩ := hv
  have hx := B.exec
  have hb := B.bytes
  have hr := B.returns
  have hts := atoms_spec (ws := wsX2_wholeMadeFrom) B.pre
  have hown : s.vm.findClass RX2 = some m.cls := findClass_of_methodNamed B.named
  have hlocks := B.notSynchronized
  have hl := lv_entry ([.int v, .int k]) (n := 2) (Nat.le_of_ble_eq_true rfl)
  rw [lg_entry_eq]
  generalize (lg_sl ([.int v, .int k]) ++ List.replicate (2 - (lg_sl ([.int v, .int k])).length) Slot.unset).toArray = ls at hl ⊢
  have hl : lv_has ls 2 [(0, .int v), (1, .int k)] := hl
  refine lv_iload_n hx hb dX2_wholeMadeFrom_0 rfl (lv_at hl 1 rfl) ?_
  rcases Decidable.em (k = 1) with c_1 | c_1
  · refine lv_tableIn (tgt := 32) hx hb dX2_wholeMadeFrom_1 (by rw [c_1]; decide) (by rw [c_1]; decide) (by rw [c_1]; rfl) (by decide) ?_
    refine lv_iload_n hx hb dX2_wholeMadeFrom_32 rfl (lv_at hl 0 rfl) ?_
    refine lv_if_eq (tgt := 40) hx hb dX2_wholeMadeFrom_33 (by decide) (fun c_2 => ?_) (fun c_2 => ?_)
    · refine lv_lconst (v := 0) hx hb dX2_wholeMadeFrom_40 (by decide) ?_
      exact W.lret (v := 0) hx hb hr (fun t ht hW => ⟨0, rfl, by simp [kMade, c_1, c_2], ht⟩) (fun q hq => absurd hq List.not_mem_nil) dX2_wholeMadeFrom_41
    · refine lv_lconst (v := 1) hx hb dX2_wholeMadeFrom_36 (by decide) ?_
      refine lv_goto (tgt := 41) hx hb dX2_wholeMadeFrom_37 (by decide) ?_
      exact W.lret (v := 1) hx hb hr (fun t ht hW => ⟨1, rfl, by simp [kMade, c_1, c_2], ht⟩) (fun q hq => absurd hq List.not_mem_nil) dX2_wholeMadeFrom_41
  rcases Decidable.em (k = 2) with c_3 | c_3
  · refine lv_tableIn (tgt := 42) hx hb dX2_wholeMadeFrom_1 (by rw [c_3]; decide) (by rw [c_3]; decide) (by rw [c_3]; rfl) (by decide) ?_
    refine lv_iload_n hx hb dX2_wholeMadeFrom_42 rfl (lv_at hl 0 rfl) ?_
    refine lv_i2b (v := v.toInt8.toInt32) hx hb dX2_wholeMadeFrom_43 rfl ?_
    refine lv_i2l (v := v.toInt8.toInt32.toInt64) hx hb dX2_wholeMadeFrom_44 rfl ?_
    exact W.lret (v := v.toInt8.toInt32.toInt64) hx hb hr (fun t ht hW => ⟨v.toInt8.toInt32.toInt64, rfl, by simp [kMade, c_1, c_3], ht⟩) (fun q hq => absurd hq List.not_mem_nil) dX2_wholeMadeFrom_45
  rcases Decidable.em (k = 3) with c_4 | c_4
  · refine lv_tableIn (tgt := 46) hx hb dX2_wholeMadeFrom_1 (by rw [c_4]; decide) (by rw [c_4]; decide) (by rw [c_4]; rfl) (by decide) ?_
    refine lv_iload_n hx hb dX2_wholeMadeFrom_46 rfl (lv_at hl 0 rfl) ?_
    refine lv_i2c (v := (v.toUInt32 % 65536).toInt32) hx hb dX2_wholeMadeFrom_47 rfl ?_
    refine lv_i2l (v := ((v.toUInt32 % 65536).toInt32).toInt64) hx hb dX2_wholeMadeFrom_48 rfl ?_
    exact W.lret (v := ((v.toUInt32 % 65536).toInt32).toInt64) hx hb hr (fun t ht hW => ⟨((v.toUInt32 % 65536).toInt32).toInt64, rfl, by simp [kMade, c_1, c_3, c_4], ht⟩) (fun q hq => absurd hq List.not_mem_nil) dX2_wholeMadeFrom_49
  rcases Decidable.em (k = 4) with c_5 | c_5
  · refine lv_tableIn (tgt := 50) hx hb dX2_wholeMadeFrom_1 (by rw [c_5]; decide) (by rw [c_5]; decide) (by rw [c_5]; rfl) (by decide) ?_
    refine lv_iload_n hx hb dX2_wholeMadeFrom_50 rfl (lv_at hl 0 rfl) ?_
    refine lv_i2s (v := v.toInt16.toInt32) hx hb dX2_wholeMadeFrom_51 rfl ?_
    refine lv_i2l (v := v.toInt16.toInt32.toInt64) hx hb dX2_wholeMadeFrom_52 rfl ?_
    exact W.lret (v := v.toInt16.toInt32.toInt64) hx hb hr (fun t ht hW => ⟨v.toInt16.toInt32.toInt64, rfl, by simp [kMade, c_1, c_3, c_4, c_5], ht⟩) (fun q hq => absurd hq List.not_mem_nil) dX2_wholeMadeFrom_53
  refine lv_tableOut (tgt := 54) hx hb dX2_wholeMadeFrom_1 (tc_sw4 c_1 c_3 c_4 c_5) (by decide) ?_
  refine lv_iload_n hx hb dX2_wholeMadeFrom_54 rfl (lv_at hl 0 rfl) ?_
  refine lv_i2l (v := v.toInt64) hx hb dX2_wholeMadeFrom_55 rfl ?_
  exact W.lret (v := v.toInt64) hx hb hr (fun t ht hW => ⟨v.toInt64, rfl, by simp [kMade, c_1, c_3, c_4, c_5], ht⟩) (fun q hq => absurd hq List.not_mem_nil) dX2_wholeMadeFrom_56
set_option maxHeartbeats 4000000 in
set_option maxRecDepth 100000 in
theorem kX2_noNumber (l : Launch)  : Met l yX2_noNumber wsX2_noNumber ({ frames := 0, cells := 0, slots := 0, locals := 0 }) (va_Pc [] (fun _ => True)) (vp_Sd (fun r => r = (9221120237041090560 : UInt64))) 0 0 (fun _ => False) := by
  refine Met.ofW (cc := cX2_noNumber) (maxL := 0) (ret := (some .double)) (by decide) rfl ?_
  intro p e s m args below meth c s₁ B hml hv
  obtain ⟨rfl, -⟩ := hv
  have hx := B.exec
  have hb := B.bytes
  have hr := B.returns
  have hts := atoms_spec (ws := wsX2_noNumber) B.pre
  have hown : s.vm.findClass RX2 = some m.cls := findClass_of_methodNamed B.named
  have hlocks := B.notSynchronized
  have hl := lv_entry ([]) (n := 0) (Nat.le_of_ble_eq_true rfl)
  rw [lg_entry_eq]
  generalize (lg_sl ([]) ++ List.replicate (0 - (lg_sl ([])).length) Slot.unset).toArray = ls at hl ⊢
  have hl : lv_has ls 0 [] := hl
  refine lv_ldc2d (v := 9221120237041090560) hx hb hown (hts (.constantDouble RX2 182 (9221120237041090560)) (by decide +kernel)) dX2_noNumber_0 ?_
  exact W.dret (v := 9221120237041090560) hx hb hr (fun t ht hW => ⟨9221120237041090560, rfl, rfl, ht⟩) (fun q hq => absurd hq List.not_mem_nil) dX2_noNumber_3
set_option maxHeartbeats 4000000 in
set_option maxRecDepth 100000 in
theorem kX2_noFloatNumber (l : Launch)  : Met l yX2_noFloatNumber wsX2_noFloatNumber ({ frames := 0, cells := 0, slots := 0, locals := 0 }) (va_Pc [] (fun _ => True)) (vp_Sf (fun r => r = (2143289344 : UInt32))) 0 0 (fun _ => False) := by
  refine Met.ofW (cc := cX2_noFloatNumber) (maxL := 0) (ret := (some .float)) (by decide) rfl ?_
  intro p e s m args below meth c s₁ B hml hv
  obtain ⟨rfl, -⟩ := hv
  have hx := B.exec
  have hb := B.bytes
  have hr := B.returns
  have hts := atoms_spec (ws := wsX2_noFloatNumber) B.pre
  have hown : s.vm.findClass RX2 = some m.cls := findClass_of_methodNamed B.named
  have hlocks := B.notSynchronized
  have hl := lv_entry ([]) (n := 0) (Nat.le_of_ble_eq_true rfl)
  rw [lg_entry_eq]
  generalize (lg_sl ([]) ++ List.replicate (0 - (lg_sl ([])).length) Slot.unset).toArray = ls at hl ⊢
  have hl : lv_has ls 0 [] := hl
  refine lv_ldcf (v := 2143289344) hx hb hown (hts (.constantFloat RX2 184 (2143289344)) (by decide +kernel)) dX2_noFloatNumber_0 ?_
  exact W.fret (v := 2143289344) hx hb hr (fun t ht hW => ⟨2143289344, rfl, rfl, ht⟩) (fun q hq => absurd hq List.not_mem_nil) dX2_noFloatNumber_2
set_option maxHeartbeats 4000000 in
set_option maxRecDepth 100000 in
theorem kX2_doubleOf (l : Launch) (v : UInt32) (hn : FP.Core.fIsNaN v = false) : Met l yX2_doubleOf wsX2_doubleOf ({ frames := 0, cells := 0, slots := 0, locals := 0 }) (va_Pc [.float v] (fun _ => True)) (vp_Sd (fun r => r = FP.f2d v)) 0 0 (fun _ => False) := by
  refine Met.ofW (cc := cX2_doubleOf) (maxL := 1) (ret := (some .double)) (by decide) rfl ?_
  intro p e s m args below meth c s₁ B hml hv
  obtain ⟨rfl, -⟩ := hv
  have hx := B.exec
  have hb := B.bytes
  have hr := B.returns
  have hts := atoms_spec (ws := wsX2_doubleOf) B.pre
  have hown : s.vm.findClass RX2 = some m.cls := findClass_of_methodNamed B.named
  have hlocks := B.notSynchronized
  have hl := lv_entry ([.float v]) (n := 1) (Nat.le_of_ble_eq_true rfl)
  rw [lg_entry_eq]
  generalize (lg_sl ([.float v]) ++ List.replicate (1 - (lg_sl ([.float v])).length) Slot.unset).toArray = ls at hl ⊢
  have hl : lv_has ls 1 [(0, .float v)] := hl
  refine lv_fload_n hx hb dX2_doubleOf_0 rfl (lv_at hl 0 rfl) ?_
  refine lv_fload_n hx hb dX2_doubleOf_1 rfl (lv_at hl 0 rfl) ?_
  refine lv_fcmp hx hb dX2_doubleOf_2 ?_
  refine lv_if_eq (tgt := 12) hx hb dX2_doubleOf_3 (by decide) (fun _ => ?_) (fun q => absurd ((tf_cl0 _).mpr (FP.Core.fcmp_refl hn)) q)
  refine lv_fload_n hx hb dX2_doubleOf_12 rfl (lv_at hl 0 rfl) ?_
  refine lv_f2d hx hb dX2_doubleOf_13 ((tf_n64 _).mpr (tf_f2d hn)) ?_
  exact W.dret (v := (FP.f2d v)) hx hb hr (fun t ht hW => ⟨(FP.f2d v), rfl, rfl, ht⟩) (fun q hq => absurd hq List.not_mem_nil) dX2_doubleOf_14
set_option maxHeartbeats 4000000 in
set_option maxRecDepth 100000 in
theorem kX2_floatOf (l : Launch) (v : UInt64) (hn : FP.Core.dIsNaN v = false) : Met l yX2_floatOf wsX2_floatOf ({ frames := 0, cells := 0, slots := 0, locals := 0 }) (va_Pc [.double v] (fun _ => True)) (vp_Sf (fun r => r = FP.d2f v)) 0 0 (fun _ => False) := by
  refine Met.ofW (cc := cX2_floatOf) (maxL := 2) (ret := (some .float)) (by decide) rfl ?_
  intro p e s m args below meth c s₁ B hml hv
  obtain ⟨rfl, -⟩ := hv
  have hx := B.exec
  have hb := B.bytes
  have hr := B.returns
  have hts := atoms_spec (ws := wsX2_floatOf) B.pre
  have hown : s.vm.findClass RX2 = some m.cls := findClass_of_methodNamed B.named
  have hlocks := B.notSynchronized
  have hl := lv_entry ([.double v]) (n := 2) (Nat.le_of_ble_eq_true rfl)
  rw [lg_entry_eq]
  generalize (lg_sl ([.double v]) ++ List.replicate (2 - (lg_sl ([.double v])).length) Slot.unset).toArray = ls at hl ⊢
  have hl : lv_has ls 2 [(0, .double v)] := hl
  refine lv_dload_n hx hb dX2_floatOf_0 rfl (lv_at hl 0 rfl) ?_
  refine lv_dload_n hx hb dX2_floatOf_1 rfl (lv_at hl 0 rfl) ?_
  refine lv_dcmp hx hb dX2_floatOf_2 ?_
  refine lv_if_eq (tgt := 12) hx hb dX2_floatOf_3 (by decide) (fun _ => ?_) (fun q => absurd ((tf_cl0 _).mpr (tf_dcmp_self v hn)) q)
  refine lv_dload_n hx hb dX2_floatOf_12 rfl (lv_at hl 0 rfl) ?_
  refine lv_d2f hx hb dX2_floatOf_13 ((tf_n32 _).mpr (tf_d2f hn)) ?_
  exact W.fret (v := (FP.d2f v)) hx hb hr (fun t ht hW => ⟨(FP.d2f v), rfl, rfl, ht⟩) (fun q hq => absurd hq List.not_mem_nil) dX2_floatOf_14
set_option maxHeartbeats 4000000 in
set_option maxRecDepth 100000 in
theorem kX2_isInfinite (l : Launch) (v : UInt64) (hn : FP.Core.dIsNaN v = false) : Met l yX2_isInfinite wsX2_isInfinite ({ frames := 0, cells := 0, slots := 0, locals := 0 }) (va_Pc [.double v] (fun _ => True)) (vp_Si (fun r => r = tb (tf_inf v))) 0 0 (fun _ => False) := by
  refine Met.ofW (cc := cX2_isInfinite) (maxL := 2) (ret := (some .boolean)) (by decide) rfl ?_
  intro p e s m args below meth c s₁ B hml hv
  obtain ⟨rfl, -⟩ := hv
  have hx := B.exec
  have hb := B.bytes
  have hr := B.returns
  have hts := atoms_spec (ws := wsX2_isInfinite) B.pre
  have hown : s.vm.findClass RX2 = some m.cls := findClass_of_methodNamed B.named
  have hlocks := B.notSynchronized
  have hl := lv_entry ([.double v]) (n := 2) (Nat.le_of_ble_eq_true rfl)
  rw [lg_entry_eq]
  generalize (lg_sl ([.double v]) ++ List.replicate (2 - (lg_sl ([.double v])).length) Slot.unset).toArray = ls at hl ⊢
  have hl : lv_has ls 2 [(0, .double v)] := hl
  refine lv_dload_n hx hb dX2_isInfinite_0 rfl (lv_at hl 0 rfl) ?_
  refine lv_ldc2d (v := 9218868437227405311) hx hb hown (hts (.constantDouble RX2 192 (9218868437227405311)) (by decide +kernel)) dX2_isInfinite_1 ?_
  refine lv_dcmp hx hb dX2_isInfinite_4 ?_
  refine lv_if_gt (tgt := 16) hx hb dX2_isInfinite_5 (by decide) (fun c_1 => ?_) (fun c_1 => ?_)
  · refine lv_iconst (v := 1) hx hb dX2_isInfinite_16 (by decide) ?_
    refine lv_goto (tgt := 21) hx hb dX2_isInfinite_17 (by decide) ?_
    exact W.zret (ty := .boolean) (v := 1) hx hb hr rfl (fun t ht hW => ⟨1, rfl, (tb_t ((tf_inf_or hn).mpr (Or.inl ((tf_clgt _).mp c_1)))).symm, ht⟩) (fun q hq => absurd hq List.not_mem_nil) dX2_isInfinite_21
  · refine lv_dload_n hx hb dX2_isInfinite_8 rfl (lv_at hl 0 rfl) ?_
    refine lv_ldc2d (v := 18442240474082181119) hx hb hown (hts (.constantDouble RX2 194 (18442240474082181119)) (by decide +kernel)) dX2_isInfinite_9 ?_
    refine lv_dcmp hx hb dX2_isInfinite_12 ?_
    refine lv_if_ge (tgt := 20) hx hb dX2_isInfinite_13 (by decide) (fun c_2 => ?_) (fun c_2 => ?_)
    · refine lv_iconst (v := 0) hx hb dX2_isInfinite_20 (by decide) ?_
      exact W.zret (ty := .boolean) (v := 0) hx hb hr rfl (fun t ht hW => ⟨0, rfl, (tb_f (tc_bf (tf_inf_or hn) (fun q => q.elim (fun q => c_1 ((tf_clgt _).mpr q)) (fun q => ((tf_cg _).mp c_2) q)))).symm, ht⟩) (fun q hq => absurd hq List.not_mem_nil) dX2_isInfinite_21
    · refine lv_iconst (v := 1) hx hb dX2_isInfinite_16 (by decide) ?_
      refine lv_goto (tgt := 21) hx hb dX2_isInfinite_17 (by decide) ?_
      exact W.zret (ty := .boolean) (v := 1) hx hb hr rfl (fun t ht hW => ⟨1, rfl, (tb_t ((tf_inf_or hn).mpr (Or.inr (Classical.byContradiction fun q => c_2 ((tf_cg _).mpr q))))).symm, ht⟩) (fun q hq => absurd hq List.not_mem_nil) dX2_isInfinite_21
set_option maxHeartbeats 4000000 in
set_option maxRecDepth 100000 in
theorem kX2_sumOf (l : Launch) (a : UInt64) (b : UInt64) : Met l yX2_sumOf wsX2_sumOf ({ frames := 1, cells := 0, slots := 0, locals := 21 }) (va_Pc [.double a, .double b] (fun _ => True)) (vp_Sd (fun r => r = tf_canon (FP.dadd a b))) 0 0 (fun _ => False) := by
  refine Met.ofW (cc := cX2_sumOf) (maxL := 4) (ret := (some .double)) (by decide) rfl ?_
  intro p e s m args below meth c s₁ B hml hv
  obtain ⟨rfl, -⟩ := hv
  have hx := B.exec
  have hb := B.bytes
  have hr := B.returns
  have hts := atoms_spec (ws := wsX2_sumOf) B.pre
  have hown : s.vm.findClass RX2 = some m.cls := findClass_of_methodNamed B.named
  have hlocks := B.notSynchronized
  have hl := lv_entry ([.double a, .double b]) (n := 4) (Nat.le_of_ble_eq_true rfl)
  rw [lg_entry_eq]
  generalize (lg_sl ([.double a, .double b]) ++ List.replicate (4 - (lg_sl ([.double a, .double b])).length) Slot.unset).toArray = ls at hl ⊢
  have hl : lv_has ls 4 [(0, .double a), (2, .double b)] := hl
  refine lv_dload_n hx hb dX2_sumOf_0 rfl (lv_at hl 0 rfl) ?_
  refine lv_dload_n hx hb dX2_sumOf_1 rfl (lv_at hl 0 rfl) ?_
  refine lv_dcmp hx hb dX2_sumOf_2 ?_
  refine lv_if_ne (tgt := 26) hx hb dX2_sumOf_3 (by decide) (fun c_1 => ?_) (fun c_1 => ?_)
  · refine vp_callSd (W.runS (As := []) (rest := []) ⟨hx, hb, hml, hown, hts⟩ (kX2_noNumber l) (va_cwS 0 hts gX2_sumOf_X2_noNumber rfl rfl rfl (by decide +kernel) ⟨Nat.le_of_ble_eq_true rfl, Nat.le_of_ble_eq_true rfl⟩) ⟨fun a U g mk q => q, fun U hU hW => ⟨rfl, trivial⟩⟩ rfl rfl hl.1 rfl (lv_room (Nat.le_of_ble_eq_true rfl)) dX2_sumOf_26 ⟨Nat.zero_le _, Nat.zero_le _⟩) (fun r_2 hr_2 => ?_)
    subst hr_2
    exact W.dret (v := (9221120237041090560 : UInt64)) hx hb hr (fun t ht hW => ⟨(9221120237041090560 : UInt64), rfl, (tf_cyes ((FP.Core.dadd_nan_iff a b).mpr (Or.inl ((FP.Core.dIsNaN_iff a).mp (tf_selfN c_1))))).symm, ht⟩) (fun q hq => absurd hq List.not_mem_nil) dX2_sumOf_29
  · refine lv_dload_n hx hb dX2_sumOf_6 rfl (lv_at hl 1 rfl) ?_
    refine lv_dload_n hx hb dX2_sumOf_7 rfl (lv_at hl 1 rfl) ?_
    refine lv_dcmp hx hb dX2_sumOf_8 ?_
    refine lv_if_ne (tgt := 26) hx hb dX2_sumOf_9 (by decide) (fun c_3 => ?_) (fun c_3 => ?_)
    · refine vp_callSd (W.runS (As := []) (rest := []) ⟨hx, hb, hml, hown, hts⟩ (kX2_noNumber l) (va_cwS 0 hts gX2_sumOf_X2_noNumber rfl rfl rfl (by decide +kernel) ⟨Nat.le_of_ble_eq_true rfl, Nat.le_of_ble_eq_true rfl⟩) ⟨fun a U g mk q => q, fun U hU hW => ⟨rfl, trivial⟩⟩ rfl rfl hl.1 rfl (lv_room (Nat.le_of_ble_eq_true rfl)) dX2_sumOf_26 ⟨Nat.zero_le _, Nat.zero_le _⟩) (fun r_4 hr_4 => ?_)
      subst hr_4
      exact W.dret (v := (9221120237041090560 : UInt64)) hx hb hr (fun t ht hW => ⟨(9221120237041090560 : UInt64), rfl, (tf_cyes ((FP.Core.dadd_nan_iff a b).mpr (Or.inr (Or.inl ((FP.Core.dIsNaN_iff b).mp (tf_selfN c_3)))))).symm, ht⟩) (fun q hq => absurd hq List.not_mem_nil) dX2_sumOf_29
    · refine lv_dload_n hx hb dX2_sumOf_12 rfl (lv_at hl 0 rfl) ?_
      refine vp_callSi (W.runS (As := [.double a]) (rest := []) ⟨hx, hb, hml, hown, hts⟩ (kX2_isInfinite l a (tf_self c_1)) (va_cwS 1 hts gX2_sumOf_X2_isInfinite rfl rfl rfl (by decide +kernel) ⟨Nat.le_of_ble_eq_true rfl, Nat.le_of_ble_eq_true rfl⟩) ⟨fun a U g mk q => q, fun U hU hW => ⟨rfl, trivial⟩⟩ rfl rfl hl.1 rfl (lv_room (Nat.le_of_ble_eq_true rfl)) dX2_sumOf_13 ⟨Nat.zero_le _, Nat.zero_le _⟩) (fun r_5 hr_5 => ?_)
      subst hr_5
      refine lv_if_eq (tgt := 30) hx hb dX2_sumOf_16 (by decide) (fun c_6 => ?_) (fun c_6 => ?_)
      · refine lv_dload_n hx hb dX2_sumOf_30 rfl (lv_at hl 0 rfl) ?_
        refine lv_dload_n hx hb dX2_sumOf_31 rfl (lv_at hl 1 rfl) ?_
        refine lv_dadd hx hb dX2_sumOf_32 ((tf_n64 _).mpr (tc_bf (tf_sumc (tf_self c_1) (tf_self c_3)).symm (fun q => absurd q.1 (by rw [(tb_0 _).mp c_6]; decide)))) ?_
        exact W.dret (v := (FP.dadd a b)) hx hb hr (fun t ht hW => ⟨(FP.dadd a b), rfl, (tf_cno ((tc_bf (tf_sumc (tf_self c_1) (tf_self c_3)).symm (fun q => absurd q.1 (by rw [(tb_0 _).mp c_6]; decide))))).symm, ht⟩) (fun q hq => absurd hq List.not_mem_nil) dX2_sumOf_33
      · refine lv_dload_n hx hb dX2_sumOf_19 rfl (lv_at hl 0 rfl) ?_
        refine lv_dload_n hx hb dX2_sumOf_20 rfl (lv_at hl 1 rfl) ?_
        refine lv_dneg hx hb dX2_sumOf_21 ?_
        refine lv_dcmp hx hb dX2_sumOf_22 ?_
        refine lv_if_ne (tgt := 30) hx hb dX2_sumOf_23 (by decide) (fun c_7 => ?_) (fun c_7 => ?_)
        · refine lv_dload_n hx hb dX2_sumOf_30 rfl (lv_at hl 0 rfl) ?_
          refine lv_dload_n hx hb dX2_sumOf_31 rfl (lv_at hl 1 rfl) ?_
          refine lv_dadd hx hb dX2_sumOf_32 ((tf_n64 _).mpr (tc_bf (tf_sumc (tf_self c_1) (tf_self c_3)).symm (fun q => c_7 ((tf_cl0 _).mpr q.2)))) ?_
          exact W.dret (v := (FP.dadd a b)) hx hb hr (fun t ht hW => ⟨(FP.dadd a b), rfl, (tf_cno ((tc_bf (tf_sumc (tf_self c_1) (tf_self c_3)).symm (fun q => c_7 ((tf_cl0 _).mpr q.2))))).symm, ht⟩) (fun q hq => absurd hq List.not_mem_nil) dX2_sumOf_33
        · refine vp_callSd (W.runS (As := []) (rest := []) ⟨hx, hb, hml, hown, hts⟩ (kX2_noNumber l) (va_cwS 0 hts gX2_sumOf_X2_noNumber rfl rfl rfl (by decide +kernel) ⟨Nat.le_of_ble_eq_true rfl, Nat.le_of_ble_eq_true rfl⟩) ⟨fun a U g mk q => q, fun U hU hW => ⟨rfl, trivial⟩⟩ rfl rfl hl.1 rfl (lv_room (Nat.le_of_ble_eq_true rfl)) dX2_sumOf_26 ⟨Nat.zero_le _, Nat.zero_le _⟩) (fun r_8 hr_8 => ?_)
          subst hr_8
          exact W.dret (v := (9221120237041090560 : UInt64)) hx hb hr (fun t ht hW => ⟨(9221120237041090560 : UInt64), rfl, (tf_cyes ((tf_sumc (tf_self c_1) (tf_self c_3)).mp ⟨(tb_1 _).mp c_6, (tf_cl0 _).mp c_7⟩)).symm, ht⟩) (fun q hq => absurd hq List.not_mem_nil) dX2_sumOf_29
set_option maxHeartbeats 4000000 in
set_option maxRecDepth 100000 in
theorem kX2_mixed (l : Launch) (a : Int64) (b : Int64) : Met l yX2_mixed wsX2_mixed ({ frames := 0, cells := 0, slots := 0, locals := 0 }) (va_Pc [.long a, .long b] (fun _ => True)) (vp_Sl (fun r => r = (a * 31 + b))) 0 0 (fun _ => False) := by
  refine Met.ofW (cc := cX2_mixed) (maxL := 4) (ret := (some .long)) (by decide) rfl ?_
  intro p e s m args below meth c s₁ B hml hv
  obtain ⟨rfl, -⟩ := hv
  have hx := B.exec
  have hb := B.bytes
  have hr := B.returns
  have hts := atoms_spec (ws := wsX2_mixed) B.pre
  have hown : s.vm.findClass RX2 = some m.cls := findClass_of_methodNamed B.named
  have hlocks := B.notSynchronized
  have hl := lv_entry ([.long a, .long b]) (n := 4) (Nat.le_of_ble_eq_true rfl)
  rw [lg_entry_eq]
  generalize (lg_sl ([.long a, .long b]) ++ List.replicate (4 - (lg_sl ([.long a, .long b])).length) Slot.unset).toArray = ls at hl ⊢
  have hl : lv_has ls 4 [(0, .long a), (2, .long b)] := hl
  refine lv_lload_n hx hb dX2_mixed_0 rfl (lv_at hl 0 rfl) ?_
  refine lv_ldc2 (v := 31) hx hb hown (hts (.constantLong RX2 200 (31)) (by decide +kernel)) dX2_mixed_1 ?_
  refine lv_lmul hx hb dX2_mixed_4 ?_
  refine lv_lload_n hx hb dX2_mixed_5 rfl (lv_at hl 1 rfl) ?_
  refine lv_ladd hx hb dX2_mixed_6 ?_
  exact W.lret (v := ((a * 31) + b)) hx hb hr (fun t ht hW => ⟨((a * 31) + b), rfl, rfl, ht⟩) (fun q hq => absurd hq List.not_mem_nil) dX2_mixed_7
set_option maxHeartbeats 4000000 in
set_option maxRecDepth 100000 in
theorem kX3_isReal (l : Launch) (k : Int32) : Met l yX3_isReal wsX3_isReal ({ frames := 0, cells := 0, slots := 0, locals := 0 }) (va_Pc [.int k] (fun _ => True)) (vp_Si (fun r => r = tb (kReal k))) 0 0 (fun _ => False) := by
  refine Met.ofW (cc := cX3_isReal) (maxL := 1) (ret := (some .boolean)) (by decide) rfl ?_
  intro p e s m args below meth c s₁ B hml hv
  obtain ⟨rfl, -⟩ := hv
  have hx := B.exec
  have hb := B.bytes
  have hr := B.returns
  have hts := atoms_spec (ws := wsX3_isReal) B.pre
  have hown : s.vm.findClass RX3 = some m.cls := findClass_of_methodNamed B.named
  have hlocks := B.notSynchronized
  have hl := lv_entry ([.int k]) (n := 1) (Nat.le_of_ble_eq_true rfl)
  rw [lg_entry_eq]
  generalize (lg_sl ([.int k]) ++ List.replicate (1 - (lg_sl ([.int k])).length) Slot.unset).toArray = ls at hl ⊢
  have hl : lv_has ls 1 [(0, .int k)] := hl
  refine lv_iload_n hx hb dX3_isReal_0 rfl (lv_at hl 0 rfl) ?_
  refine lv_bipush (v := 7) hx hb dX3_isReal_1 (by decide) ?_
  refine lv_icmp_lt (tgt := 10) hx hb dX3_isReal_3 (by decide) (fun c_1 => ?_) (fun c_1 => ?_)
  · refine lv_iconst (v := 0) hx hb dX3_isReal_10 (by decide) ?_
    exact W.zret (ty := .boolean) (v := 0) hx hb hr rfl (fun t ht hW => ⟨0, rfl, by simp [tb, kReal, c_1], ht⟩) (fun q hq => absurd hq List.not_mem_nil) dX3_isReal_11
  · refine lv_iconst (v := 1) hx hb dX3_isReal_6 (by decide) ?_
    refine lv_goto (tgt := 11) hx hb dX3_isReal_7 (by decide) ?_
    exact W.zret (ty := .boolean) (v := 1) hx hb hr rfl (fun t ht hW => ⟨1, rfl, by simp [tb, kReal, c_1], ht⟩) (fun q hq => absurd hq List.not_mem_nil) dX3_isReal_11
set_option maxHeartbeats 4000000 in
set_option maxRecDepth 100000 in
theorem kX3_has (l : Launch) (k : Int32) : Met l yX3_has wsX3_has ({ frames := 0, cells := 0, slots := 0, locals := 0 }) (va_Pc [.int k] (fun _ => True)) (vp_Si (fun r => r = tb (kHas k))) 0 0 (fun _ => False) := by
  refine Met.ofW (cc := cX3_has) (maxL := 1) (ret := (some .boolean)) (by decide) rfl ?_
  intro p e s m args below meth c s₁ B hml hv
  obtain ⟨rfl, -⟩ := hv
  have hx := B.exec
  have hb := B.bytes
  have hr := B.returns
  have hts := atoms_spec (ws := wsX3_has) B.pre
  have hown : s.vm.findClass RX3 = some m.cls := findClass_of_methodNamed B.named
  have hlocks := B.notSynchronized
  have hl := lv_entry ([.int k]) (n := 1) (Nat.le_of_ble_eq_true rfl)
  rw [lg_entry_eq]
  generalize (lg_sl ([.int k]) ++ List.replicate (1 - (lg_sl ([.int k])).length) Slot.unset).toArray = ls at hl ⊢
  have hl : lv_has ls 1 [(0, .int k)] := hl
  refine lv_iload_n hx hb dX3_has_0 rfl (lv_at hl 0 rfl) ?_
  refine lv_if_le (tgt := 14) hx hb dX3_has_1 (by decide) (fun c_1 => ?_) (fun c_1 => ?_)
  · refine lv_iconst (v := 0) hx hb dX3_has_14 (by decide) ?_
    exact W.zret (ty := .boolean) (v := 0) hx hb hr rfl (fun t ht hW => ⟨0, rfl, by
      have l0 : (0 : Int32).toInt = 0 := rfl
      have l1 : (1 : Int32).toInt = 1 := rfl
      have l3 : (3 : Int32).toInt = 3 := rfl
      have l5 : (5 : Int32).toInt = 5 := rfl
      have l7 : (7 : Int32).toInt = 7 := rfl
      have l8 : (8 : Int32).toInt = 8 := rfl
      have l9 : (9 : Int32).toInt = 9 := rfl
      have l10 : (10 : Int32).toInt = 10 := rfl
      simp only [Int32.lt_iff_toInt_lt, Int32.le_iff_toInt_le, ← Int32.toInt_inj] at c_1
      exact (tb_f (tc_bf (kHas_iff k) (by omega))).symm, ht⟩) (fun q hq => absurd hq List.not_mem_nil) dX3_has_15
  · refine lv_iload_n hx hb dX3_has_4 rfl (lv_at hl 0 rfl) ?_
    refine lv_bipush (v := 9) hx hb dX3_has_5 (by decide) ?_
    refine lv_icmp_ge (tgt := 14) hx hb dX3_has_7 (by decide) (fun c_2 => ?_) (fun c_2 => ?_)
    · refine lv_iconst (v := 0) hx hb dX3_has_14 (by decide) ?_
      exact W.zret (ty := .boolean) (v := 0) hx hb hr rfl (fun t ht hW => ⟨0, rfl, by
      have l0 : (0 : Int32).toInt = 0 := rfl
      have l1 : (1 : Int32).toInt = 1 := rfl
      have l3 : (3 : Int32).toInt = 3 := rfl
      have l5 : (5 : Int32).toInt = 5 := rfl
      have l7 : (7 : Int32).toInt = 7 := rfl
      have l8 : (8 : Int32).toInt = 8 := rfl
      have l9 : (9 : Int32).toInt = 9 := rfl
      have l10 : (10 : Int32).toInt = 10 := rfl
      simp only [Int32.lt_iff_toInt_lt, Int32.le_iff_toInt_le, ← Int32.toInt_inj] at c_1 c_2
      exact (tb_f (tc_bf (kHas_iff k) (by omega))).symm, ht⟩) (fun q hq => absurd hq List.not_mem_nil) dX3_has_15
    · refine lv_iconst (v := 1) hx hb dX3_has_10 (by decide) ?_
      refine lv_goto (tgt := 15) hx hb dX3_has_11 (by decide) ?_
      exact W.zret (ty := .boolean) (v := 1) hx hb hr rfl (fun t ht hW => ⟨1, rfl, by
      have l0 : (0 : Int32).toInt = 0 := rfl
      have l1 : (1 : Int32).toInt = 1 := rfl
      have l3 : (3 : Int32).toInt = 3 := rfl
      have l5 : (5 : Int32).toInt = 5 := rfl
      have l7 : (7 : Int32).toInt = 7 := rfl
      have l8 : (8 : Int32).toInt = 8 := rfl
      have l9 : (9 : Int32).toInt = 9 := rfl
      have l10 : (10 : Int32).toInt = 10 := rfl
      simp only [Int32.lt_iff_toInt_lt, Int32.le_iff_toInt_le, ← Int32.toInt_inj] at c_1 c_2
      exact (tb_t ((kHas_iff k).mpr (by omega))).symm, ht⟩) (fun q hq => absurd hq List.not_mem_nil) dX3_has_15
set_option maxHeartbeats 4000000 in
set_option maxRecDepth 100000 in
theorem kX3_widens (l : Launch) (a : Int32) (b : Int32) : Met l yX3_widens wsX3_widens ({ frames := 1, cells := 0, slots := 0, locals := 20 }) (va_Pc [.int a, .int b] (fun _ => True)) (vp_Si (fun r => r = tb (kWid a b))) 0 0 (fun _ => False) := by
  refine Met.ofW (cc := cX3_widens) (maxL := 2) (ret := (some .boolean)) (by decide) rfl ?_
  intro p e s m args below meth c s₁ B hml hv
  obtain ⟨rfl, -⟩ := hv
  have hx := B.exec
  have hb := B.bytes
  have hr := B.returns
  have hts := atoms_spec (ws := wsX3_widens) B.pre
  have hown : s.vm.findClass RX3 = some m.cls := findClass_of_methodNamed B.named
  have hlocks := B.notSynchronized
  have hl := lv_entry ([.int a, .int b]) (n := 2) (Nat.le_of_ble_eq_true rfl)
  rw [lg_entry_eq]
  generalize (lg_sl ([.int a, .int b]) ++ List.replicate (2 - (lg_sl ([.int a, .int b])).length) Slot.unset).toArray = ls at hl ⊢
  have hl : lv_has ls 2 [(0, .int a), (1, .int b)] := hl
  refine lv_iload_n hx hb dX3_widens_0 rfl (lv_at hl 0 rfl) ?_
  refine vp_callSi (W.runS (As := [.int a]) (rest := []) ⟨hx, hb, hml, hown, hts⟩ (kX3_has l a) (va_cwS 1 hts gX3_widens_X3_has rfl rfl rfl (by decide +kernel) ⟨Nat.le_of_ble_eq_true rfl, Nat.le_of_ble_eq_true rfl⟩) ⟨fun a U g mk q => q, fun U hU hW => ⟨rfl, trivial⟩⟩ rfl rfl hl.1 rfl (lv_room (Nat.le_of_ble_eq_true rfl)) dX3_widens_1 ⟨Nat.zero_le _, Nat.zero_le _⟩) (fun r_1 hr_1 => ?_)
  subst hr_1
  refine lv_if_eq (tgt := 14) hx hb dX3_widens_4 (by decide) (fun c_2 => ?_) (fun c_2 => ?_)
  · refine lv_iconst (v := 0) hx hb dX3_widens_14 (by decide) ?_
    exact W.zret (ty := .boolean) (v := 0) hx hb hr rfl (fun t ht hW => ⟨0, rfl, (tb_f (kWid_e1 ((tb_0 _).mp c_2))).symm, ht⟩) (fun q hq => absurd hq List.not_mem_nil) dX3_widens_15
  · refine lv_iload_n hx hb dX3_widens_7 rfl (lv_at hl 1 rfl) ?_
    refine vp_callSi (W.runS (As := [.int b]) (rest := []) ⟨hx, hb, hml, hown, hts⟩ (kX3_has l b) (va_cwS 1 hts gX3_widens_X3_has rfl rfl rfl (by decide +kernel) ⟨Nat.le_of_ble_eq_true rfl, Nat.le_of_ble_eq_true rfl⟩) ⟨fun a U g mk q => q, fun U hU hW => ⟨rfl, trivial⟩⟩ rfl rfl hl.1 rfl (lv_room (Nat.le_of_ble_eq_true rfl)) dX3_widens_8 ⟨Nat.zero_le _, Nat.zero_le _⟩) (fun r_3 hr_3 => ?_)
    subst hr_3
    refine lv_if_ne (tgt := 16) hx hb dX3_widens_11 (by decide) (fun c_4 => ?_) (fun c_4 => ?_)
    · refine lv_iload_n hx hb dX3_widens_16 rfl (lv_at hl 0 rfl) ?_
      refine lv_iload_n hx hb dX3_widens_17 rfl (lv_at hl 1 rfl) ?_
      refine lv_icmp_ne (tgt := 23) hx hb dX3_widens_18 (by decide) (fun c_5 => ?_) (fun c_5 => ?_)
      · refine lv_iload_n hx hb dX3_widens_23 rfl (lv_at hl 0 rfl) ?_
        refine lv_iconst (v := 1) hx hb dX3_widens_24 (by decide) ?_
        refine lv_icmp_eq (tgt := 38) hx hb dX3_widens_25 (by decide) (fun c_6 => ?_) (fun c_6 => ?_)
        · refine lv_iconst (v := 0) hx hb dX3_widens_38 (by decide) ?_
          exact W.zret (ty := .boolean) (v := 0) hx hb hr rfl (fun t ht hW => ⟨0, rfl, (tb_f (kWid_e4 ((tb_1 _).mp c_2) ((tb_1 _).mp c_4) c_5 c_6)).symm, ht⟩) (fun q hq => absurd hq List.not_mem_nil) dX3_widens_39
        · refine lv_iload_n hx hb dX3_widens_28 rfl (lv_at hl 1 rfl) ?_
          refine lv_iconst (v := 1) hx hb dX3_widens_29 (by decide) ?_
          refine lv_icmp_eq (tgt := 38) hx hb dX3_widens_30 (by decide) (fun c_7 => ?_) (fun c_7 => ?_)
          · refine lv_iconst (v := 0) hx hb dX3_widens_38 (by decide) ?_
            exact W.zret (ty := .boolean) (v := 0) hx hb hr rfl (fun t ht hW => ⟨0, rfl, (tb_f (kWid_b1 ((tb_1 _).mp c_2) ((tb_1 _).mp c_4) c_5 c_6 c_7)).symm, ht⟩) (fun q hq => absurd hq List.not_mem_nil) dX3_widens_39
          · refine lv_iload_n hx hb dX3_widens_33 rfl (lv_at hl 1 rfl) ?_
            refine lv_iconst (v := 3) hx hb dX3_widens_34 (by decide) ?_
            refine lv_icmp_ne (tgt := 40) hx hb dX3_widens_35 (by decide) (fun c_8 => ?_) (fun c_8 => ?_)
            · refine lv_iload_n hx hb dX3_widens_40 rfl (lv_at hl 0 rfl) ?_
              refine lv_iconst (v := 3) hx hb dX3_widens_41 (by decide) ?_
              refine lv_icmp_ne (tgt := 58) hx hb dX3_widens_42 (by decide) (fun c_9 => ?_) (fun c_9 => ?_)
              · refine lv_iload_n hx hb dX3_widens_58 rfl (lv_at hl 0 rfl) ?_
                refine lv_iload_n hx hb dX3_widens_59 rfl (lv_at hl 1 rfl) ?_
                refine lv_icmp_ge (tgt := 67) hx hb dX3_widens_60 (by decide) (fun c_10 => ?_) (fun c_10 => ?_)
                · refine lv_iconst (v := 0) hx hb dX3_widens_67 (by decide) ?_
                  exact W.zret (ty := .boolean) (v := 0) hx hb hr rfl (fun t ht hW => ⟨0, rfl, (tb_f ((kWid_e7 ((tb_1 _).mp c_2) ((tb_1 _).mp c_4) c_5 c_6 c_8 c_9).trans (decide_eq_false (Int32.not_lt.mpr c_10)))).symm, ht⟩) (fun q hq => absurd hq List.not_mem_nil) dX3_widens_68
                · refine lv_iconst (v := 1) hx hb dX3_widens_63 (by decide) ?_
                  refine lv_goto (tgt := 68) hx hb dX3_widens_64 (by decide) ?_
                  exact W.zret (ty := .boolean) (v := 1) hx hb hr rfl (fun t ht hW => ⟨1, rfl, (tb_t ((kWid_e7 ((tb_1 _).mp c_2) ((tb_1 _).mp c_4) c_5 c_6 c_8 c_9).trans (decide_eq_true (Int32.not_le.mp c_10)))).symm, ht⟩) (fun q hq => absurd hq List.not_mem_nil) dX3_widens_68
              · refine lv_iload_n hx hb dX3_widens_45 rfl (lv_at hl 1 rfl) ?_
                refine lv_iconst (v := 5) hx hb dX3_widens_46 (by decide) ?_
                refine lv_icmp_lt (tgt := 54) hx hb dX3_widens_47 (by decide) (fun c_11 => ?_) (fun c_11 => ?_)
                · refine lv_iconst (v := 0) hx hb dX3_widens_54 (by decide) ?_
                  refine lv_goto (tgt := 68) hx hb dX3_widens_55 (by decide) ?_
                  exact W.zret (ty := .boolean) (v := 0) hx hb hr rfl (fun t ht hW => ⟨0, rfl, (tb_f ((kWid_e6 ((tb_1 _).mp c_2) ((tb_1 _).mp c_4) c_5 c_6 c_8 c_9).trans (by rw [decide_eq_true (c_11)]; rfl))).symm, ht⟩) (fun q hq => absurd hq List.not_mem_nil) dX3_widens_68
                · refine lv_iconst (v := 1) hx hb dX3_widens_50 (by decide) ?_
                  refine lv_goto (tgt := 68) hx hb dX3_widens_51 (by decide) ?_
                  exact W.zret (ty := .boolean) (v := 1) hx hb hr rfl (fun t ht hW => ⟨1, rfl, (tb_t ((kWid_e6 ((tb_1 _).mp c_2) ((tb_1 _).mp c_4) c_5 c_6 c_8 c_9).trans (by rw [decide_eq_false (c_11)]; rfl))).symm, ht⟩) (fun q hq => absurd hq List.not_mem_nil) dX3_widens_68
            · refine lv_iconst (v := 0) hx hb dX3_widens_38 (by decide) ?_
              exact W.zret (ty := .boolean) (v := 0) hx hb hr rfl (fun t ht hW => ⟨0, rfl, (tb_f (kWid_e5 ((tb_1 _).mp c_2) ((tb_1 _).mp c_4) c_5 c_6 c_8)).symm, ht⟩) (fun q hq => absurd hq List.not_mem_nil) dX3_widens_39
      · refine lv_iconst (v := 1) hx hb dX3_widens_21 (by decide) ?_
        exact W.zret (ty := .boolean) (v := 1) hx hb hr rfl (fun t ht hW => ⟨1, rfl, (tb_t (kWid_e3 ((tb_1 _).mp c_2) ((tb_1 _).mp c_4) c_5)).symm, ht⟩) (fun q hq => absurd hq List.not_mem_nil) dX3_widens_22
    · refine lv_iconst (v := 0) hx hb dX3_widens_14 (by decide) ?_
      exact W.zret (ty := .boolean) (v := 0) hx hb hr rfl (fun t ht hW => ⟨0, rfl, (tb_f (kWid_e2 ((tb_1 _).mp c_2) ((tb_0 _).mp c_4))).symm, ht⟩) (fun q hq => absurd hq List.not_mem_nil) dX3_widens_15
set_option maxHeartbeats 4000000 in
set_option maxRecDepth 100000 in
theorem kX3_at (l : Launch) (x : Int32) (i : Int32) : Met l yX3_at wsX3_at ({ frames := 0, cells := 0, slots := 0, locals := 0 }) (va_Pc [.int x, .int i] (fun _ => True)) (vp_Si (fun r => r = ((40 : Int32) * x + i))) 0 0 (fun _ => False) := by
  refine Met.ofW (cc := cX3_at) (maxL := 2) (ret := (some .int)) (by decide) rfl ?_
  intro p e s m args below meth c s₁ B hml hv
  obtain ⟨rfl, -⟩ := hv
  have hx := B.exec
  have hb := B.bytes
  have hr := B.returns
  have hts := atoms_spec (ws := wsX3_at) B.pre
  have hown : s.vm.findClass RX3 = some m.cls := findClass_of_methodNamed B.named
  have hlocks := B.notSynchronized
  have hl := lv_entry ([.int x, .int i]) (n := 2) (Nat.le_of_ble_eq_true rfl)
  rw [lg_entry_eq]
  generalize (lg_sl ([.int x, .int i]) ++ List.replicate (2 - (lg_sl ([.int x, .int i])).length) Slot.unset).toArray = ls at hl ⊢
  have hl : lv_has ls 2 [(0, .int x), (1, .int i)] := hl
  refine lv_bipush (v := 40) hx hb dX3_at_0 (by decide) ?_
  refine lv_iload_n hx hb dX3_at_2 rfl (lv_at hl 0 rfl) ?_
  refine lv_imul hx hb dX3_at_3 ?_
  refine lv_iload_n hx hb dX3_at_4 rfl (lv_at hl 1 rfl) ?_
  refine lv_iadd hx hb dX3_at_5 ?_
  exact W.iret (v := ((40 * x) + i)) hx hb hr (fun t ht hW => ⟨((40 * x) + i), rfl, rfl, ht⟩) (fun q hq => absurd hq List.not_mem_nil) dX3_at_6
set_option maxHeartbeats 4000000 in
set_option maxRecDepth 100000 in
theorem kX3_isKind (l : Launch) (k : Int32) : Met l yX3_isKind wsX3_isKind ({ frames := 0, cells := 0, slots := 0, locals := 0 }) (va_Pc [.int k] (fun _ => True)) (vp_Si (fun r => r = tb (kIs k))) 0 0 (fun _ => False) := by
  refine Met.ofW (cc := cX3_isKind) (maxL := 1) (ret := (some .boolean)) (by decide) rfl ?_
  intro p e s m args below meth c s₁ B hml hv
  obtain ⟨rfl, -⟩ := hv
  have hx := B.exec
  have hb := B.bytes
  have hr := B.returns
  have hts := atoms_spec (ws := wsX3_isKind) B.pre
  have hown : s.vm.findClass RX3 = some m.cls := findClass_of_methodNamed B.named
  have hlocks := B.notSynchronized
  have hl := lv_entry ([.int k]) (n := 1) (Nat.le_of_ble_eq_true rfl)
  rw [lg_entry_eq]
  generalize (lg_sl ([.int k]) ++ List.replicate (1 - (lg_sl ([.int k])).length) Slot.unset).toArray = ls at hl ⊢
  have hl : lv_has ls 1 [(0, .int k)] := hl
  refine lv_iload_n hx hb dX3_isKind_0 rfl (lv_at hl 0 rfl) ?_
  refine lv_if_lt (tgt := 14) hx hb dX3_isKind_1 (by decide) (fun c_1 => ?_) (fun c_1 => ?_)
  · refine lv_iconst (v := 0) hx hb dX3_isKind_14 (by decide) ?_
    exact W.zret (ty := .boolean) (v := 0) hx hb hr rfl (fun t ht hW => ⟨0, rfl, by
      have l0 : (0 : Int32).toInt = 0 := rfl
      have l1 : (1 : Int32).toInt = 1 := rfl
      have l3 : (3 : Int32).toInt = 3 := rfl
      have l5 : (5 : Int32).toInt = 5 := rfl
      have l7 : (7 : Int32).toInt = 7 := rfl
      have l8 : (8 : Int32).toInt = 8 := rfl
      have l9 : (9 : Int32).toInt = 9 := rfl
      have l10 : (10 : Int32).toInt = 10 := rfl
      simp only [Int32.lt_iff_toInt_lt, Int32.le_iff_toInt_le, ← Int32.toInt_inj] at c_1
      exact (tb_f (tc_bf (kIs_iff k) (by omega))).symm, ht⟩) (fun q hq => absurd hq List.not_mem_nil) dX3_isKind_15
  · refine lv_iload_n hx hb dX3_isKind_4 rfl (lv_at hl 0 rfl) ?_
    refine lv_bipush (v := 10) hx hb dX3_isKind_5 (by decide) ?_
    refine lv_icmp_ge (tgt := 14) hx hb dX3_isKind_7 (by decide) (fun c_2 => ?_) (fun c_2 => ?_)
    · refine lv_iconst (v := 0) hx hb dX3_isKind_14 (by decide) ?_
      exact W.zret (ty := .boolean) (v := 0) hx hb hr rfl (fun t ht hW => ⟨0, rfl, by
      have l0 : (0 : Int32).toInt = 0 := rfl
      have l1 : (1 : Int32).toInt = 1 := rfl
      have l3 : (3 : Int32).toInt = 3 := rfl
      have l5 : (5 : Int32).toInt = 5 := rfl
      have l7 : (7 : Int32).toInt = 7 := rfl
      have l8 : (8 : Int32).toInt = 8 := rfl
      have l9 : (9 : Int32).toInt = 9 := rfl
      have l10 : (10 : Int32).toInt = 10 := rfl
      simp only [Int32.lt_iff_toInt_lt, Int32.le_iff_toInt_le, ← Int32.toInt_inj] at c_1 c_2
      exact (tb_f (tc_bf (kIs_iff k) (by omega))).symm, ht⟩) (fun q hq => absurd hq List.not_mem_nil) dX3_isKind_15
    · refine lv_iconst (v := 1) hx hb dX3_isKind_10 (by decide) ?_
      refine lv_goto (tgt := 15) hx hb dX3_isKind_11 (by decide) ?_
      exact W.zret (ty := .boolean) (v := 1) hx hb hr rfl (fun t ht hW => ⟨1, rfl, by
      have l0 : (0 : Int32).toInt = 0 := rfl
      have l1 : (1 : Int32).toInt = 1 := rfl
      have l3 : (3 : Int32).toInt = 3 := rfl
      have l5 : (5 : Int32).toInt = 5 := rfl
      have l7 : (7 : Int32).toInt = 7 := rfl
      have l8 : (8 : Int32).toInt = 8 := rfl
      have l9 : (9 : Int32).toInt = 9 := rfl
      have l10 : (10 : Int32).toInt = 10 := rfl
      simp only [Int32.lt_iff_toInt_lt, Int32.le_iff_toInt_le, ← Int32.toInt_inj] at c_1 c_2
      exact (tb_t ((kIs_iff k).mpr (by omega))).symm, ht⟩) (fun q hq => absurd hq List.not_mem_nil) dX3_isKind_15
end
