section
-- ===== PART A: goes FIRST, ahead of the names: the tables' words, and 'selects' of the private methods out of them =====
/-- a private method of a class that the tables say can be made, by its rows of tables_1 -/
def lw_okq (q : MethodName × Nat) : Prop := (q.1.cls ≠ "java/lang/invoke/MethodHandle" ∧ q.1.cls ≠ "java/lang/invoke/VarHandle") ∧ Cond.instantiable q.1.cls q.2 ∈ tables_1 ∧ Cond.privateMethod q.1 ∈ tables_1 ∧ Cond.instanceMethod q.1 ∈ tables_1
theorem lw_p0 : lw_okq (⟨"java/lang/Throwable", "fillInStackTrace", "(I)Ljava/lang/Throwable;"⟩, 6) := ⟨⟨by decide +kernel, by decide +kernel⟩, List.mem_of_getElem? (i := 100) (by decide +kernel), List.mem_of_getElem? (i := 98) (by decide +kernel), List.mem_of_getElem? (i := 99) (by decide +kernel)⟩
theorem lw_p1 : lw_okq (⟨"TypedColumns", "refuseWhenFull", "()V"⟩, 5) := ⟨⟨by decide +kernel, by decide +kernel⟩, List.mem_of_getElem? (i := 16) (by decide +kernel), List.mem_of_getElem? (i := 137) (by decide +kernel), List.mem_of_getElem? (i := 138) (by decide +kernel)⟩
theorem lw_p2 : lw_okq (⟨"TypedColumns", "addColumn", "(LTypedColumns$Column;)I"⟩, 5) := ⟨⟨by decide +kernel, by decide +kernel⟩, List.mem_of_getElem? (i := 16) (by decide +kernel), List.mem_of_getElem? (i := 183) (by decide +kernel), List.mem_of_getElem? (i := 184) (by decide +kernel)⟩
theorem lw_p3 : lw_okq (⟨"TypedColumns", "columnAt", "(I)LTypedColumns$Column;"⟩, 5) := ⟨⟨by decide +kernel, by decide +kernel⟩, List.mem_of_getElem? (i := 16) (by decide +kernel), List.mem_of_getElem? (i := 195) (by decide +kernel), List.mem_of_getElem? (i := 196) (by decide +kernel)⟩
theorem lw_p4 : lw_okq (⟨"TypedColumns", "readReal", "(LTypedColumns$Column;II)D"⟩, 5) := ⟨⟨by decide +kernel, by decide +kernel⟩, List.mem_of_getElem? (i := 16) (by decide +kernel), List.mem_of_getElem? (i := 215) (by decide +kernel), List.mem_of_getElem? (i := 216) (by decide +kernel)⟩
theorem lw_p5 : lw_okq (⟨"TypedColumns", "note", "(I)I"⟩, 5) := ⟨⟨by decide +kernel, by decide +kernel⟩, List.mem_of_getElem? (i := 16) (by decide +kernel), List.mem_of_getElem? (i := 228) (by decide +kernel), List.mem_of_getElem? (i := 229) (by decide +kernel)⟩
theorem lw_p6 : lw_okq (⟨"TypedColumns", "writeReal", "(LTypedColumns$Column;IID)I"⟩, 5) := ⟨⟨by decide +kernel, by decide +kernel⟩, List.mem_of_getElem? (i := 16) (by decide +kernel), List.mem_of_getElem? (i := 252) (by decide +kernel), List.mem_of_getElem? (i := 253) (by decide +kernel)⟩
theorem lw_p7 : lw_okq (⟨"TypedColumns", "writeWhole", "(LTypedColumns$Column;IIJ)I"⟩, 5) := ⟨⟨by decide +kernel, by decide +kernel⟩, List.mem_of_getElem? (i := 16) (by decide +kernel), List.mem_of_getElem? (i := 263) (by decide +kernel), List.mem_of_getElem? (i := 264) (by decide +kernel)⟩
def lw_privs_1 : List (MethodName × Nat) := [(⟨"java/lang/Throwable", "fillInStackTrace", "(I)Ljava/lang/Throwable;"⟩, 6), (⟨"TypedColumns", "refuseWhenFull", "()V"⟩, 5), (⟨"TypedColumns", "addColumn", "(LTypedColumns$Column;)I"⟩, 5), (⟨"TypedColumns", "columnAt", "(I)LTypedColumns$Column;"⟩, 5), (⟨"TypedColumns", "readReal", "(LTypedColumns$Column;II)D"⟩, 5), (⟨"TypedColumns", "note", "(I)I"⟩, 5), (⟨"TypedColumns", "writeReal", "(LTypedColumns$Column;IID)I"⟩, 5), (⟨"TypedColumns", "writeWhole", "(LTypedColumns$Column;IIJ)I"⟩, 5)]
theorem lw_r1 : ∀ q ∈ lw_privs_1, lw_okq q := List.forall_mem_cons.mpr ⟨lw_p0, List.forall_mem_cons.mpr ⟨lw_p1, List.forall_mem_cons.mpr ⟨lw_p2, List.forall_mem_cons.mpr ⟨lw_p3, List.forall_mem_cons.mpr ⟨lw_p4, List.forall_mem_cons.mpr ⟨lw_p5, List.forall_mem_cons.mpr ⟨lw_p6, List.forall_mem_cons.mpr ⟨lw_p7, fun _ h => absurd h List.not_mem_nil⟩⟩⟩⟩⟩⟩⟩⟩
def lw_privs : List (MethodName × Nat) := lw_privs_1
def lw_tbl : List Cond := k2_sels lw_privs ++ tables_1
theorem lw_privs_ok : ∀ q ∈ lw_privs, lw_okq q := lw_r1
/-- the streams that the claim lets the run draw from -/
abbrev lw_cs : List Choice := [Jvm.Choice.named "NaN.bits"]
theorem lw_bits : nanBits ∈ lw_cs := by first | decide | exact List.mem_cons_self | simp [lw_cs, nanBits]
/-! ===== BEGIN words of one list among another's, by their places ===== -/
theorem goodIn_r {big : List Cond} (ws : List Cond) (ps : List Nat) (hp : ws = ps.filterMap (fun i => big[i]?)) (h : ws.all goodWord = true) : GoodIn big ws := by
  intro w hw
  have h1 := List.all_eq_true.mp h w hw
  rw [hp] at hw
  obtain ⟨i, -, hi⟩ := List.mem_filterMap.mp hw
  have hm : w ∈ big := by first | exact List.mem_of_getElem? hi | exact List.getElem?_mem hi
  exact ⟨hm, good_of_word h1⟩
theorem goodIn_app {big a b : List Cond} (ha : GoodIn big a) (hb : GoodIn big b) : GoodIn big (a ++ b) := fun w h => (List.mem_append.mp h).elim (ha w) (hb w)
theorem goodIn_ca {big a b : List Cond} {c : Cond} (ha : GoodIn big (c :: a)) (hb : GoodIn big b) : GoodIn big (c :: (a ++ b)) := fun w h => (List.mem_cons.mp h).elim (fun e => ha w (List.mem_cons.mpr (Or.inl e))) (fun h => (List.mem_append.mp h).elim (fun h => ha w (List.mem_cons.mpr (Or.inr h))) (hb w))
theorem goodIn_sub {big ws : List Cond} (hm : ∀ w ∈ ws, w ∈ big) (h : ws.all goodWord = true) : GoodIn big ws := fun w hw => ⟨hm w hw, good_of_word (List.all_eq_true.mp h w hw)⟩
/-! ===== END ===== -/

/-! ===== BEGIN exceptions that leave a method, and their catching by the caller (launches without stack traces) ===== -/
section VXA
/-! The laws vx_back, vx_callV, vx_callS, vx_callSW, vx_throw0, vx_throwS follow proofs of the library, with one case more: JvmDerived/Free/Laws.lean (Back.of_free), Shelf42/LK1.lean (callV, callS), Shelf/KitTraced.lean (throwNew0V, throwNewS). -/
/-- where a method has thrown q: the class by its name, the cell, what was written, the world -/
def vx_T (XC : String → State → State → Prop) (st : State) (q : Addr) (t : State) (mc ms : Nat) (free : Addr → Prop) : Prop :=
  ∃ (E : String) (ce : Cell) (L : List Loc), XC E st t ∧ t.heap[q]? = some ce ∧ ce.vm = .none ∧ st.vm.findClass E = some ce.cls ∧ st.WarmedH t.vm ∧ st.sameButNew ({ t with vm := st.vm } : State) L mc ms ∧ ∀ z ∈ L, free z.base
def vx_Q (Qc : Array Value → State → Outcome → State → Prop) (XC : String → State → State → Prop) (mc ms : Nat) (free : Addr → Prop) : Array Value → State → Outcome → State → Prop := fun a st o t =>
  (Qc a st o t ∧ ∃ L, FrameEnd st o t L mc ms ∧ ∀ q ∈ L, free q.base) ∨ ∃ q, o = .threw q ∧ vx_T XC st q t mc ms free
/-- a callee that returns or throws -/
def vx_Met (l : Launch) (y : MethodName) (ws : List Cond) (rm : Room) (Pc : Array Value → State → Prop) (Qc : Array Value → State → Outcome → State → Prop) (XC : String → State → State → Prop) (mc ms : Nat) (free : Addr → Prop) : Prop :=
  MetFree l y (headSpec ws rm) Pc (fun _ _ _ _ _ => True) (vx_Q Qc XC mc ms free)
def vx_Post (XC : String → State → State → Prop) (mc ms : Nat) (free : Addr → Prop) : Pt → Array Value → Addr → Pt → Prop := fun A a q B =>
  ∃ (g : JFrame) (mk : MethodId) (t : State) (L : List Loc) (E : String) (ce : Cell), B.U.heap = t.heap ∧ B.U.vm = t.vm ∧ XC E (A.U.calling g mk a) t ∧ t.heap[q]? = some ce ∧ ce.vm = .none ∧ A.U.vm.findClass E = some ce.cls ∧ B.locs = A.locs ++ L ∧ (∀ z ∈ L, free z.base) ∧ B.cells = A.cells + mc ∧ B.slots = A.slots + ms
def vx_Back (l : Launch) (R : Room) (p : Program) (e : Env) (below : List Frame) (s : State) (sargs : Array Value) (y : MethodName) (len W9 : Nat)
    (Pre : Pt → Array Value → Prop) (Post : Pt → Array Value → Option Value → Pt → Prop) (PostX : Pt → Array Value → Addr → Pt → Prop) : Prop :=
  ∀ (m : MethodId) (meth : Method) (c : Code) (A : Pt) (g : JFrame) (ig : Instr) (mk : MethodId) (a : Array Value),
    Stand p l e R s m sargs below meth c A.U A.locs A.cells A.slots → g.method = m → g.locals.size = c.maxLocals → decode c.code g.pc = .ok (ig, len) →
    2 * g.monitorRoom + (g.stack.map fun v => v.category).sum ≤ W9 → A.U.methodNamed? y = some mk → Pre A a →
    (∃ (v : Option Value) (B : Pt), Stand p l e R s m sargs below meth c B.U B.locs B.cells B.slots ∧ Post A a v B ∧
      Steps p.tables e below (doInvoke e (A.U.setTop g) [] mk a).1 (B.U.setTop { g with pc := g.pc + len, stack := v.toList ++ g.stack })) ∨
    (∃ (q : Addr) (B : Pt), Stand p l e R s m sargs below meth c B.U B.locs B.cells B.slots ∧ PostX A a q B ∧
      Steps p.tables e below (doInvoke e (A.U.setTop g) [] mk a).1 ((B.U.setTop g).pushFrame (.throwing q)))
section Payer
variable {l : Launch} {R : Room} {p : Program} {e : Env} {below : List Frame} {s : State} {sargs : Array Value} {y : MethodName} {len W9 : Nat}
theorem vx_back {ws : List Cond} {rm : Room} {Pc : Array Value → State → Prop} {Qc : Array Value → State → Outcome → State → Prop} {XC : String → State → State → Prop} {mc ms : Nat} {free : Addr → Prop} {bytes : ByteArray} {maxL : Nat} {ret : Option FieldType}
    (hM : vx_Met l y ws rm Pc Qc XC mc ms free) (hblind : FrameBlind Pc) (hrc : rm.cells = mc) (hrs : rm.slots = ms)
    (hframes : rm.frames + 1 ≤ R.frames) (hlocals : W9 + (maxL + 11) + rm.locals ≤ R.locals)
    (hws : ∀ w ∈ ws, ∀ a' U, s.WarmedH U.vm → w.before a' U = true) (hcode : Cond.code y bytes maxL ret ∈ ws) (hinit : ∀ a' U, s.WarmedH U.vm → (Cond.initialized y.cls).before a' U = true) :
    vx_Back l R p e below s sargs y len W9 (PreOf R mc ms Pc) (PostOf Qc mc ms free) (vx_Post XC mc ms free) := by
  intro m meth c A g ig mk a X hg hsize hdg hW hn hp
  have h1 : (headSpec ws rm).pre.before a A.U = true := atoms_intro fun w hw => hws w hw _ _ X.warmed
  have h2 : (Cond.code y bytes maxL ret).before a A.U = true := hws _ hcode _ _ X.warmed
  have h3 : (Cond.initialized y.cls).before a A.U = true := hinit _ _ X.warmed
  have h4 : A.cells + (headSpec ws rm).room.cells ≤ R.cells := by rw [show (headSpec ws rm).room.cells = mc from hrc]; exact hp.1
  have h5 : A.slots + (headSpec ws rm).room.slots ≤ R.slots := by rw [show (headSpec ws rm).room.slots = ms from hrs]; exact hp.2.1
  have hPc : Pc a (A.U.calling g mk a) := hblind _ _ _ _ hp.2.2
  obtain ⟨U, Ls, c0, s0⟩ := A
  dsimp only [Pt.U, Pt.locs, Pt.cells, Pt.slots] at h1 h2 h3 h4 h5 X hn hPc ⊢
  obtain ⟨methY, cY, hmY, hcY, -, hlY, -, -, -, -⟩ := Cond.code_spec hn h2
  obtain ⟨kY, hkY, -⟩ := className_of_methodNamed hn
  have hinitY : kY.init = .initialized := Cond.initialized_spec (findClass_of_methodNamed hn) hkY h3
  have h : At U g.method c below := by rw [hg]; exact X.here
  have hlocals9 : W9 + (maxL + 11) + (headSpec ws rm).room.locals ≤ R.locals := hlocals
  have happ : (headSpec ws rm).appliesLoose y e.platform (U.calling g mk a) = true :=
    Spec.appliesLoose_calling (g := g) h hdg hn hkY hinitY
      (X.room_calling (g := g) (R' := (headSpec ws rm).room) hsize hmY hcY hframes (by rw [hlY]; omega) h4 h5) h1
  obtain ⟨mid, hmid⟩ := h.above
  have hfr : (U.setTop g).frames = (.java g :: mid) ++ below := by rw [State.frames_setTop' g h.top, hmid]; rfl
  obtain ⟨o, s₂, hsteps, -, hend, hq⟩ := Steps.callFree hM p X.admits X.cas X.clock (acts := []) hfr happ hPc trivial
  have hq' : vx_Q Qc XC mc ms free a (U.calling g mk a) o s₂ := hq
  rw [State.frames_setTop' g h.top] at hend
  obtain ⟨g₀, hg0⟩ := Option.isSome_iff_exists.mp h.top
  obtain ⟨r, hr⟩ := State.topJava?_eq_some.mp hg0
  have hr' : (({ U with heap := s₂.heap, slotsUsed := s₂.slotsUsed } : State).setVm s₂.vm).frames = .java g₀ :: r := hr
  rcases hq' with ⟨hqc, L, hfe, hL⟩ | ⟨q, rfl, E, ce, L, hx, hce, hcv, hcl, hW₂, hsm, hL⟩
  · obtain ⟨⟨v, rfl⟩, hW₂, e2, q2, q3, q4, q5, q6⟩ := id hfe
    have e3 : s₂ = ({ (U.calling g mk a).setFrames s₂.frames with heap := s₂.heap, slotsUsed := s₂.slotsUsed } : State).setVm s₂.vm := by
      have : s₂ = ({ s₂ with vm := (U.calling g mk a).vm } : State).setVm s₂.vm := rfl
      rw [e2] at this
      exact this
    obtain ⟨c₂, i₂, len₂, hc₂, hd₂, hf₂⟩ := hend
    have hW' : U.WarmedH s₂.vm := hW₂
    have hcc : c₂ = c := by
      have h1 : s₂.code? g.method = U.code? g.method := by
        rw [State.code?_eq, State.code?_eq, hW'.alike.method?]
      exact Option.some.inj (hc₂.symm.trans (h1.trans h.code))
    subst hcc
    have hlen : len₂ = len := by rw [hdg] at hd₂; cases hd₂; rfl
    subst hlen
    have hs₂ : s₂ = (({ U with heap := s₂.heap, slotsUsed := s₂.slotsUsed } : State).setVm s₂.vm).setTop { g with pc := g.pc + len₂, stack := v.toList ++ g.stack } := by
      refine e3.trans ?_
      rw [hf₂, State.calling_eq h.top, State.setFrames_setFrames, State.setTop_of_frames _ hr', hr]
      rfl
    have hsame : U.sameButNew ({ U with heap := s₂.heap, slotsUsed := s₂.slotsUsed } : State) L mc ms := by
      refine ⟨?_, q2, q3, q4, q5, q6⟩
      obtain ⟨t, ht, -⟩ := State.frames_cons hr
      show ({ U with heap := s₂.heap, slotsUsed := s₂.slotsUsed } : State) = { U.setFrames U.frames with heap := s₂.heap, slotsUsed := s₂.slotsUsed }
      rw [State.setFrames_self ht]
    subst hg
    refine Or.inl ⟨v, ⟨(({ U with heap := s₂.heap, slotsUsed := s₂.slotsUsed } : State).setVm s₂.vm), Ls ++ L, c0 + mc, s0 + ms⟩,
      ⟨X.admits, X.cas, X.clock, X.frames, X.room, X.hears, X.method, X.code, (X.here.setHeapUsed s₂.heap s₂.slotsUsed).setVm hW'.alike, X.tail, State.WarmedH.trans X.warmed hW', X.limits, X.bytes, X.same.trans (hsame.setVm s.vm)⟩,
      ⟨g, mk, s₂, L, rfl, rfl, hqc, rfl, hL, rfl, rfl⟩, ?_⟩
    show Steps p.tables e below _ ((({ U with heap := s₂.heap, slotsUsed := s₂.slotsUsed } : State).setVm s₂.vm).setTop { g with pc := g.pc + len₂, stack := v.toList ++ g.stack })
    rw [← hs₂]
    exact hsteps
  · obtain ⟨e2, q2, q3, q4, q5, q6⟩ := id hsm
    have e3 : s₂ = ({ (U.calling g mk a).setFrames s₂.frames with heap := s₂.heap, slotsUsed := s₂.slotsUsed } : State).setVm s₂.vm := by
      have : s₂ = ({ s₂ with vm := (U.calling g mk a).vm } : State).setVm s₂.vm := rfl
      rw [e2] at this
      exact this
    have hf₂ : s₂.frames = .throwing q :: .java g :: U.frames.tail := hend
    have hW' : U.WarmedH s₂.vm := hW₂
    have hs₂ : s₂ = ((({ U with heap := s₂.heap, slotsUsed := s₂.slotsUsed } : State).setVm s₂.vm).setTop g).pushFrame (.throwing q) := by
      refine e3.trans ?_
      rw [hf₂, State.calling_eq h.top, State.setFrames_setFrames, State.pushFrame, State.frames_setTop _ hr', State.setTop_of_frames _ hr', State.setFrames_setFrames, hr]
      rfl
    have hsame : U.sameButNew ({ U with heap := s₂.heap, slotsUsed := s₂.slotsUsed } : State) L mc ms := by
      refine ⟨?_, q2, q3, q4, q5, q6⟩
      obtain ⟨t, ht, -⟩ := State.frames_cons hr
      show ({ U with heap := s₂.heap, slotsUsed := s₂.slotsUsed } : State) = { U.setFrames U.frames with heap := s₂.heap, slotsUsed := s₂.slotsUsed }
      rw [State.setFrames_self ht]
    subst hg
    refine Or.inr ⟨q, ⟨(({ U with heap := s₂.heap, slotsUsed := s₂.slotsUsed } : State).setVm s₂.vm), Ls ++ L, c0 + mc, s0 + ms⟩,
      ⟨X.admits, X.cas, X.clock, X.frames, X.room, X.hears, X.method, X.code, (X.here.setHeapUsed s₂.heap s₂.slotsUsed).setVm hW'.alike, X.tail, State.WarmedH.trans X.warmed hW', X.limits, X.bytes, X.same.trans (hsame.setVm s.vm)⟩,
      ⟨g, mk, s₂, L, E, ce, rfl, rfl, hx, hce, hcv, hcl, rfl, hL, rfl, rfl⟩, ?_⟩
    show Steps p.tables e below _ (((({ U with heap := s₂.heap, slotsUsed := s₂.slotsUsed } : State).setVm s₂.vm).setTop g).pushFrame (.throwing q))
    rw [← hs₂]
    exact hsteps
end Payer
section Calls
variable {p : Program} {l : Launch} {e : Env} {R : Room} {s : State} {m : MethodId} {args : Array Value} {below : List Frame} {meth : Method} {c : Code} {T : State} {locs : List Loc} {cells slots : Nat}
theorem vx_callV (X : Stand p l e R s m args below meth c T locs cells slots) (hexec : p.tables.exec = Jvm.exec) {own C : String} {index : Nat} {y : MethodName} {bytes : ByteArray} {maxL : Nat} {ret : Option FieldType}
    (hown : s.vm.findClass own = some m.cls) (hlink : (Cond.methodLink own index y).before args s = true) (hinst : (Cond.instanceMethod y).before args s = true) (hsel : (Cond.selects C y y).before args s = true)
    (hcode : (Cond.code y bytes maxL ret).before args s = true) (hy : y.cls ≠ "java/lang/invoke/MethodHandle" ∧ y.cls ≠ "java/lang/invoke/VarHandle")
    {W9 : Nat} {Pre : Pt → Array Value → Prop} {Post : Pt → Array Value → Option Value → Pt → Prop} {PostX : Pt → Array Value → Addr → Pt → Prop} (hK : vx_Back l R p e below s args y 3 W9 Pre Post PostX)
    {b : Addr} {cellB : Cell} (hcell : T.heap[b]? = some cellB) (hobj : cellB.vm.isStatics = false) (hcls : s.vm.findClass C = some cellB.cls)
    {g : JFrame} (hg : g.method = m) (hsize : g.locals.size = c.maxLocals) {argsL rest : List Value} (hlen : ∀ sig, parseMethodDescriptor y.desc = some sig → argsL.length = sig.parameters.length)
    (hstack : g.stack = argsL.reverse ++ .ref b :: rest) (hW : 2 * g.monitorRoom + (rest.map fun v => v.category).sum ≤ W9) (hdg : decode c.code g.pc = .ok (.invokevirtual index, 3))
    (hpre : ∀ vm₁, s.WarmedH vm₁ → Pre ⟨T.setVm vm₁, locs, cells, slots⟩ (Value.ref b :: argsL).toArray) :
    (∃ (v : Option Value) (vm₁ : Vm) (B : Pt), s.WarmedH vm₁ ∧ Stand p l e R s m args below meth c B.U B.locs B.cells B.slots ∧ Post ⟨T.setVm vm₁, locs, cells, slots⟩ (Value.ref b :: argsL).toArray v B ∧
      ∀ target, Steps p.tables e below (B.U.setTop { g with pc := g.pc + 3, stack := v.toList ++ rest }) target → Steps p.tables e below (T.setTop g) target) ∨
    (∃ (q : Addr) (vm₁ : Vm) (B : Pt), s.WarmedH vm₁ ∧ Stand p l e R s m args below meth c B.U B.locs B.cells B.slots ∧ PostX ⟨T.setVm vm₁, locs, cells, slots⟩ (Value.ref b :: argsL).toArray q B ∧
      Steps p.tables e below (T.setTop g) ((B.U.setTop { g with stack := rest }).pushFrame (.throwing q))) := by
  obtain ⟨mk, methM, hnamed, hmethM, hstM, habM⟩ := Cond.instanceMethod_spec hinst
  obtain ⟨methM', cM, hmethM', -, -, -, -, -, -, hsigM⟩ := Cond.code_spec hnamed hcode
  cases hmethM.symm.trans hmethM'
  obtain ⟨c2, r2, m2, q1, q2, q3, q4, kP, hkP, hkPi⟩ := Cond.selects_spec hsel
  cases hcls.symm.trans q1
  cases (State.methodFound?_of_named hnamed hy).symm.trans q2
  cases hnamed.symm.trans q3
  have hselP : selectMethod e.platform s.vm cellB.cls mk = .method mk := by rw [Launch.admits_selectMethod X.admits]; exact q4
  obtain ⟨vm₁, X₁, hstep₁⟩ := X.invokevirtual hexec hown hlink hnamed hmethM hstM hkP hkPi hy (a := b) (cell := cellB) hcell
    (fun z h => by rw [h] at hobj; cases hobj) hselP hmethM habM hkP hkPi (g := g) hg (argsL := argsL) (rest := rest) (hlen _ hsigM) hstack hdg
  rcases hK m meth c ⟨T.setVm vm₁, locs, cells, slots⟩ { g with stack := rest } (.invokevirtual index) mk (Value.ref b :: argsL).toArray X₁ hg hsize hdg hW (X₁.named hnamed) (hpre vm₁ X₁.warmed) with ⟨v, B, X', hpost, hsteps⟩ | ⟨q, B, X', hpost, hsteps⟩
  · exact Or.inl ⟨v, vm₁, B, X₁.warmed, X', hpost, fun target h => hstep₁ _ fun acts => by rw [doInvoke_state]; exact hsteps.trans h⟩
  · exact Or.inr ⟨q, vm₁, B, X₁.warmed, X', hpost, hstep₁ _ fun acts => by rw [doInvoke_state]; exact hsteps⟩
theorem vx_callS (X : Stand p l e R s m args below meth c T locs cells slots) (hexec : p.tables.exec = Jvm.exec) {own : String} {index : Nat} {y : MethodName} {bytes : ByteArray} {maxL : Nat} {ret : Option FieldType}
    (hown : s.vm.findClass own = some m.cls) (hlink : (Cond.methodLink own index y).before args s = true) (hstat : (Cond.static y).before args s = true) (hinit : (Cond.initialized y.cls).before args s = true)
    (hcode : (Cond.code y bytes maxL ret).before args s = true) (hy : y.cls ≠ "java/lang/invoke/MethodHandle" ∧ y.cls ≠ "java/lang/invoke/VarHandle")
    {W9 : Nat} {Pre : Pt → Array Value → Prop} {Post : Pt → Array Value → Option Value → Pt → Prop} {PostX : Pt → Array Value → Addr → Pt → Prop} (hK : vx_Back l R p e below s args y 3 W9 Pre Post PostX)
    {g : JFrame} (hg : g.method = m) (hsize : g.locals.size = c.maxLocals) {argsL rest : List Value} (hlen : ∀ sig, parseMethodDescriptor y.desc = some sig → argsL.length = sig.parameters.length)
    (hstack : g.stack = argsL.reverse ++ rest) (hW : 2 * g.monitorRoom + (rest.map fun v => v.category).sum ≤ W9) (hdg : decode c.code g.pc = .ok (.invokestatic index, 3))
    (hpre : ∀ vm₁, s.WarmedH vm₁ → Pre ⟨T.setVm vm₁, locs, cells, slots⟩ argsL.toArray) :
    (∃ (v : Option Value) (vm₁ : Vm) (B : Pt), s.WarmedH vm₁ ∧ Stand p l e R s m args below meth c B.U B.locs B.cells B.slots ∧ Post ⟨T.setVm vm₁, locs, cells, slots⟩ argsL.toArray v B ∧
      ∀ target, Steps p.tables e below (B.U.setTop { g with pc := g.pc + 3, stack := v.toList ++ rest }) target → Steps p.tables e below (T.setTop g) target) ∨
    (∃ (q : Addr) (vm₁ : Vm) (B : Pt), s.WarmedH vm₁ ∧ Stand p l e R s m args below meth c B.U B.locs B.cells B.slots ∧ PostX ⟨T.setVm vm₁, locs, cells, slots⟩ argsL.toArray q B ∧
      Steps p.tables e below (T.setTop g) ((B.U.setTop { g with stack := rest }).pushFrame (.throwing q))) := by
  obtain ⟨mk, hnamed⟩ := Cond.code_named hcode
  obtain ⟨methM, cM, hmethM, -, -, -, -, -, -, hsigM⟩ := Cond.code_spec hnamed hcode
  have hstatic : methM.isStatic = true := Cond.static_spec hnamed hmethM hstat
  obtain ⟨kP, hkP, -⟩ := className_of_methodNamed hnamed
  have hinitP : kP.init = .initialized := Cond.initialized_spec (findClass_of_methodNamed hnamed) hkP hinit
  obtain ⟨vm₁, X₁, hstep₁⟩ := X.invokestatic hexec hown hlink hnamed hmethM hstatic hkP hinitP hy (g := g) hg (argsL := argsL) (rest := rest) (hlen _ hsigM) hstack hdg
  rcases hK m meth c ⟨T.setVm vm₁, locs, cells, slots⟩ { g with stack := rest } (.invokestatic index) mk argsL.toArray X₁ hg hsize hdg hW (X₁.named hnamed) (hpre vm₁ X₁.warmed) with ⟨v, B, X', hpost, hsteps⟩ | ⟨q, B, X', hpost, hsteps⟩
  · exact Or.inl ⟨v, vm₁, B, X₁.warmed, X', hpost, fun target h => hstep₁ _ fun acts => by rw [doInvoke_state]; exact hsteps.trans h⟩
  · exact Or.inr ⟨q, vm₁, B, X₁.warmed, X', hpost, hstep₁ _ fun acts => by rw [doInvoke_state]; exact hsteps⟩
end Calls
theorem vx_cls {s : State} {T : State} {vm₁ : Vm} {E : String} {k : ClassId} (hW : s.WarmedH vm₁) (h : (T.setVm vm₁).vm.findClass E = some k) : s.vm.findClass E = some k := by
  have h1 : vm₁.findClass E = some k := h
  rw [hW.alike.findClass] at h1
  exact h1
/-- the method's frame g, with q thrown over it -/
def vx_W (p : Program) (l : Launch) (e : Env) (R : Room) (s : State) (m : MethodId) (args : Array Value) (below : List Frame) (meth : Method) (c : Code) (H : Heap) (locs : List Loc) (cells slots : Nat) (Q : State → Prop) (g : JFrame) (q : Addr) : Prop :=
  ∀ T : State, T.heap = H → Stand p l e R s m args below meth c T locs cells slots → ∃ t, Steps p.tables e below ((T.setTop g).pushFrame (.throwing q)) t ∧ Q t
def vx_Run (p : Program) (l : Launch) (e : Env) (R : Room) (s : State) (m : MethodId) (args : Array Value) (below : List Frame) (meth : Method) (c : Code) (H : Heap) (locs : List Loc) (cells slots mc ms : Nat) (g : JFrame) (rest : List Value) (Qa : State → Outcome → State → Prop) (XC : String → State → State → Prop) (free : Addr → Prop) : Prop :=
  ∀ T : State, T.heap = H → Stand p l e R s m args below meth c T locs cells slots →
    (∃ (v : Option Value) (st₀ t T' : State) (L : List Loc), st₀.heap = H ∧ Stand p l e R s m args below meth c T' (locs ++ L) (cells + mc) (slots + ms) ∧ (∀ q ∈ L, free q.base) ∧ T'.heap = t.heap ∧ T'.vm = t.vm ∧ Qa st₀ (.returned v) t ∧
      Goes p e below T g T' { g with pc := g.pc + 3, stack := v.toList ++ rest }) ∨
    (∃ (q : Addr) (st₀ t T' : State) (L : List Loc) (E : String) (ce : Cell), st₀.heap = H ∧ Stand p l e R s m args below meth c T' (locs ++ L) (cells + mc) (slots + ms) ∧ (∀ z ∈ L, free z.base) ∧ T'.heap = t.heap ∧ T'.vm = t.vm ∧ XC E st₀ t ∧ t.heap[q]? = some ce ∧ ce.vm = .none ∧ s.vm.findClass E = some ce.cls ∧
      Steps p.tables e below (T.setTop g) ((T'.setTop { g with stack := rest }).pushFrame (.throwing q)))
def vx_X {S : Type} (px : S → Prop) (B : String → S → State → Prop) (A : Nat → Prop) : String → State → State → Prop := fun E st t => ∃ u : S, px u ∧ B E u t ∧ va_F A st t
section Runs
variable {p : Program} {l : Launch} {e : Env} {R : Room} {s : State} {m : MethodId} {args : Array Value} {below : List Frame} {meth : Method} {c : Code} {H : Heap} {locs : List Loc} {cells slots : Nat}
variable {y : MethodName} {bytes cc : ByteArray} {maxL nL mc ms n index : Nat} {ret : Option FieldType} {ws : List Cond} {rm : Room} {Pc : Array Value → State → Prop} {Qc : Array Value → State → Outcome → State → Prop} {XC : String → State → State → Prop} {free : Addr → Prop} {Ts : List Cond} {own C : String} {b : Addr} {As rest : List Value} {g : JFrame}
theorem vx_callBack (cb : CallB R s args own index y bytes maxL ret ws rm mc ms n) (hM : vx_Met l y ws rm Pc Qc XC mc ms free) (hbl : FrameBlind Pc) : vx_Back l R p e below s args y 3 8 (PreOf R mc ms Pc) (PostOf Qc mc ms free) (vx_Post XC mc ms free) := by
  obtain ⟨hrc, hrs, hfr, hlo, hws, hcw, -, hini, -⟩ := cb
  exact vx_back (bytes := bytes) (maxL := maxL) (ret := ret) hM hbl hrc hrs hfr hlo hws hcw (fun a' U hW => word_at hW (Or.inl (by first | rfl | simp [Cond.onTables, Cond.keeps, Cond.steady])) hini)
theorem vx_runV (S : CallFix p m c cc nL s args Ts own) (hM : vx_Met l y ws rm Pc Qc XC mc ms free) (cw : CallW R s args own C index y bytes maxL ret ws rm mc ms n) (hp : PreV s H C b Pc As)
    (hg : g.method = m) (hn : As.length = n) (hsize : g.locals.size = nL) (hstack : g.stack = As.reverse ++ .ref b :: rest) (hW : 2 * g.monitorRoom + (rest.map fun v => v.category).sum ≤ 8) (hdg : decode cc g.pc = .ok (.invokevirtual index, 3)) (hf : cells + mc ≤ R.cells ∧ slots + ms ≤ R.slots) :
    vx_Run p l e R s m args below meth c H locs cells slots mc ms g rest (Qc (Value.ref b :: As).toArray) XC free := by
  have hK : vx_Back l R p e below s args y 3 8 (PreOf R mc ms Pc) (PostOf Qc mc ms free) (vx_Post XC mc ms free) := vx_callBack cw.1 hM hp.1
  obtain ⟨⟨-, -, -, -, -, -, hcode, -, hy, hlen, hl⟩, hin, hse⟩ := cw
  obtain ⟨hx, hb, hml, ho, -⟩ := S
  obtain ⟨-, ⟨cellB, hcB, hoB, hclB⟩, hPc⟩ := hp
  intro T hT X
  rcases vx_callV X hx (C := C) (bytes := bytes) (maxL := maxL) (ret := ret) ho hl hin hse hcode hy hK (by rw [hT]; exact hcB) hoB hclB hg (hsize.trans hml.symm) (argsL := As) (rest := rest) (fun sig h => hn.trans (hlen sig h)) hstack hW (by rw [hb]; exact hdg)
    (fun vm₁ hW₁ => ⟨hf.1, hf.2, hPc (T.setVm vm₁) hT hW₁⟩) with ⟨v, vm₁, ⟨U', l2, c2, s2⟩, hW₁, X', ⟨g', mk, t, L, e1, e2, hq, h1, hL, h2, h3⟩, st⟩ | ⟨q, vm₁, ⟨U', l2, c2, s2⟩, hW₁, X', ⟨g', mk, t, L, E, ce, e1, e2, hq, hce, hcv, hcl, h1, hL, h2, h3⟩, st⟩
  · dsimp only [Pt.U, Pt.locs, Pt.cells, Pt.slots] at X' e1 e2 h1 h2 h3 st
    subst h1; subst h2; subst h3
    exact Or.inl ⟨v, (T.setVm vm₁).calling g' mk (Value.ref b :: As).toArray, t, U', L, hT, X', hL, e1, e2, hq, st⟩
  · dsimp only [Pt.U, Pt.locs, Pt.cells, Pt.slots] at X' e1 e2 h1 h2 h3 st hcl
    subst h1; subst h2; subst h3
    exact Or.inr ⟨q, (T.setVm vm₁).calling g' mk (Value.ref b :: As).toArray, t, U', L, E, ce, hT, X', hL, e1, e2, hq, hce, hcv, vx_cls hW₁ hcl, st⟩
theorem vx_runS (S : CallFix p m c cc nL s args Ts own) (hM : vx_Met l y ws rm Pc Qc XC mc ms free) (cw : CallB R s args own index y bytes maxL ret ws rm mc ms n ∧ (Cond.static y).before args s = true) (hp : PreS s H Pc As)
    (hg : g.method = m) (hn : As.length = n) (hsize : g.locals.size = nL) (hstack : g.stack = As.reverse ++ rest) (hW : 2 * g.monitorRoom + (rest.map fun v => v.category).sum ≤ 8) (hdg : decode cc g.pc = .ok (.invokestatic index, 3)) (hf : cells + mc ≤ R.cells ∧ slots + ms ≤ R.slots) :
    vx_Run p l e R s m args below meth c H locs cells slots mc ms g rest (Qc As.toArray) XC free := by
  have hK : vx_Back l R p e below s args y 3 8 (PreOf R mc ms Pc) (PostOf Qc mc ms free) (vx_Post XC mc ms free) := vx_callBack cw.1 hM hp.1
  obtain ⟨⟨-, -, -, -, -, -, hcode, hini, hy, hlen, hl⟩, hstt⟩ := cw
  obtain ⟨hx, hb, hml, ho, -⟩ := S
  intro T hT X
  rcases vx_callS X hx (bytes := bytes) (maxL := maxL) (ret := ret) ho hl hstt hini hcode hy hK hg (hsize.trans hml.symm) (argsL := As) (rest := rest) (fun sig h => hn.trans (hlen sig h)) hstack hW (by rw [hb]; exact hdg)
    (fun vm₁ hW₁ => ⟨hf.1, hf.2, hp.2 (T.setVm vm₁) hT hW₁⟩) with ⟨v, vm₁, ⟨U', l2, c2, s2⟩, hW₁, X', ⟨g', mk, t, L, e1, e2, hq, h1, hL, h2, h3⟩, st⟩ | ⟨q, vm₁, ⟨U', l2, c2, s2⟩, hW₁, X', ⟨g', mk, t, L, E, ce, e1, e2, hq, hce, hcv, hcl, h1, hL, h2, h3⟩, st⟩
  · dsimp only [Pt.U, Pt.locs, Pt.cells, Pt.slots] at X' e1 e2 h1 h2 h3 st
    subst h1; subst h2; subst h3
    exact Or.inl ⟨v, (T.setVm vm₁).calling g' mk As.toArray, t, U', L, hT, X', hL, e1, e2, hq, st⟩
  · dsimp only [Pt.U, Pt.locs, Pt.cells, Pt.slots] at X' e1 e2 h1 h2 h3 st hcl
    subst h1; subst h2; subst h3
    exact Or.inr ⟨q, (T.setVm vm₁).calling g' mk As.toArray, t, U', L, E, ce, hT, X', hL, e1, e2, hq, hce, hcv, vx_cls hW₁ hcl, st⟩
end Runs
section Rows
variable {p : Program} {l : Launch} {e : Env} {R : Room} {s : State} {m : MethodId} {args : Array Value} {below : List Frame} {meth : Method} {c : Code} {H : Heap} {locs : List Loc} {cells slots : Nat} {Q : State → Prop}
variable {mc ms : Nat} {free : Addr → Prop} {A0 A1 : Nat → Prop} {H0 : Heap} {a : Array Value} {pc : Nat} {ls : Array Slot} {st0 rest : List Value}
theorem vx_keep {st₀ t T' : State} {L : List Loc} (h0 : st₀.heap = H) (e1 : T'.heap = t.heap) (hS : va_S A0 H0 H locs) (hA : ∀ q, q < H.size → A1 q → A0 q) (hf : ∀ q, free q → A0 q) (hL : ∀ q ∈ L, free q.base) (hF : va_F A1 st₀ t) :
    H.size ≤ T'.heap.size ∧ (∀ q : Nat, q < H.size → ¬ A1 q → T'.heap[q]? = H[q]?) ∧ va_S A0 H0 T'.heap (locs ++ L) := by
  obtain ⟨hz, hk⟩ := hF
  rw [h0] at hz hk
  exact ⟨by rw [e1]; exact hz, fun q h1 h2 => by rw [e1]; exact hk q h1 h2,
    ⟨Nat.le_trans hS.1 (by rw [e1]; exact hz), fun q h1 h2 => by rw [e1, hk q (Nat.lt_of_lt_of_le h1 hS.1) (fun z => h2 (hA q (Nat.lt_of_lt_of_le h1 hS.1) z))]; exact hS.2.1 q h1 h2, fun q hq => by
      rcases List.mem_append.mp hq with h | h
      · exact hS.2.2 q h
      · exact hf _ (hL q h)⟩⟩
theorem vx_calli {S SX : Type} {post : Int32 → S → Prop} {px : SX → Prop} {B : S → State → Prop} {BX : String → SX → State → Prop} {AX : Nat → Prop} (hr : vx_Run p l e R s m args below meth c H locs cells slots mc ms (F0 m pc ls st0) rest (va_Qi post B A1 a) (vx_X px BX AX) free) (hS : va_S A0 H0 H locs) (hA : ∀ q, q < H.size → A1 q → A0 q) (hf : ∀ q, free q → A0 q) (hAX : ∀ q, q < H.size → AX q → A0 q)
    (kx : ∀ (E : String) (ce : Cell) (q9 : Addr) (u : SX) (t : State) (H1 : Heap) (locs1 : List Loc), t.heap = H1 → s.vm.Alike t.vm → px u → BX E u t → H.size ≤ H1.size → (∀ q : Nat, q < H.size → ¬ AX q → H1[q]? = H[q]?) → va_S A0 H0 H1 locs1 → H1[q9]? = some ce → ce.vm = .none → s.vm.findClass E = some ce.cls → vx_W p l e R s m args below meth c H1 locs1 (cells + mc) (slots + ms) Q (F0 m pc ls rest) q9)
    (kk : ∀ (r : Int32) (u : S) (t : State) (H1 : Heap) (locs1 : List Loc), t.heap = H1 → s.vm.Alike t.vm → post r u → B u t → H.size ≤ H1.size → (∀ q : Nat, q < H.size → ¬ A1 q → H1[q]? = H[q]?) → va_S A0 H0 H1 locs1 → W p l e R s m args below meth c H1 locs1 (cells + mc) (slots + ms) Q (F0 m (pc + 3) ls (.int r :: rest))) : W p l e R s m args below meth c H locs cells slots Q (F0 m pc ls st0) := by
  intro T hT X
  rcases hr T hT X with ⟨v, st₀, t, T', L, h0, X', hL, e1, e2, ⟨⟨r, u, hv, hp, hb⟩, hF⟩, st⟩ | ⟨q, st₀, t, T', L, E, ce, h0, X', hL, e1, e2, ⟨u, hp, hb, hF⟩, hce, hcv, hcl, st⟩
  · cases hv
    obtain ⟨k1, k2, k3⟩ := vx_keep h0 e1 hS hA hf hL hF
    obtain ⟨t2, a1, b1⟩ := kk r u t T'.heap (locs ++ L) e1.symm (by rw [← e2]; exact X'.warmed.alike) hp hb k1 k2 k3 T' rfl X'
    exact ⟨t2, st t2 a1, b1⟩
  · obtain ⟨k1, k2, k3⟩ := vx_keep h0 e1 hS hAX hf hL hF
    obtain ⟨t2, a1, b1⟩ := kx E ce q u t T'.heap (locs ++ L) e1.symm (by rw [← e2]; exact X'.warmed.alike) hp hb k1 k2 k3 (by rw [e1]; exact hce) hcv hcl T' rfl X'
    exact ⟨t2, st.trans a1, b1⟩
theorem vx_calll {S SX : Type} {post : Int64 → S → Prop} {px : SX → Prop} {B : S → State → Prop} {BX : String → SX → State → Prop} {AX : Nat → Prop} (hr : vx_Run p l e R s m args below meth c H locs cells slots mc ms (F0 m pc ls st0) rest (va_Ql post B A1 a) (vx_X px BX AX) free) (hS : va_S A0 H0 H locs) (hA : ∀ q, q < H.size → A1 q → A0 q) (hf : ∀ q, free q → A0 q) (hAX : ∀ q, q < H.size → AX q → A0 q)
    (kx : ∀ (E : String) (ce : Cell) (q9 : Addr) (u : SX) (t : State) (H1 : Heap) (locs1 : List Loc), t.heap = H1 → s.vm.Alike t.vm → px u → BX E u t → H.size ≤ H1.size → (∀ q : Nat, q < H.size → ¬ AX q → H1[q]? = H[q]?) → va_S A0 H0 H1 locs1 → H1[q9]? = some ce → ce.vm = .none → s.vm.findClass E = some ce.cls → vx_W p l e R s m args below meth c H1 locs1 (cells + mc) (slots + ms) Q (F0 m pc ls rest) q9)
    (kk : ∀ (r : Int64) (u : S) (t : State) (H1 : Heap) (locs1 : List Loc), t.heap = H1 → s.vm.Alike t.vm → post r u → B u t → H.size ≤ H1.size → (∀ q : Nat, q < H.size → ¬ A1 q → H1[q]? = H[q]?) → va_S A0 H0 H1 locs1 → W p l e R s m args below meth c H1 locs1 (cells + mc) (slots + ms) Q (F0 m (pc + 3) ls (.long r :: rest))) : W p l e R s m args below meth c H locs cells slots Q (F0 m pc ls st0) := by
  intro T hT X
  rcases hr T hT X with ⟨v, st₀, t, T', L, h0, X', hL, e1, e2, ⟨⟨r, u, hv, hp, hb⟩, hF⟩, st⟩ | ⟨q, st₀, t, T', L, E, ce, h0, X', hL, e1, e2, ⟨u, hp, hb, hF⟩, hce, hcv, hcl, st⟩
  · cases hv
    obtain ⟨k1, k2, k3⟩ := vx_keep h0 e1 hS hA hf hL hF
    obtain ⟨t2, a1, b1⟩ := kk r u t T'.heap (locs ++ L) e1.symm (by rw [← e2]; exact X'.warmed.alike) hp hb k1 k2 k3 T' rfl X'
    exact ⟨t2, st t2 a1, b1⟩
  · obtain ⟨k1, k2, k3⟩ := vx_keep h0 e1 hS hAX hf hL hF
    obtain ⟨t2, a1, b1⟩ := kx E ce q u t T'.heap (locs ++ L) e1.symm (by rw [← e2]; exact X'.warmed.alike) hp hb k1 k2 k3 (by rw [e1]; exact hce) hcv hcl T' rfl X'
    exact ⟨t2, st.trans a1, b1⟩
theorem vx_callf {S SX : Type} {post : UInt32 → S → Prop} {px : SX → Prop} {B : S → State → Prop} {BX : String → SX → State → Prop} {AX : Nat → Prop} (hr : vx_Run p l e R s m args below meth c H locs cells slots mc ms (F0 m pc ls st0) rest (va_Qf post B A1 a) (vx_X px BX AX) free) (hS : va_S A0 H0 H locs) (hA : ∀ q, q < H.size → A1 q → A0 q) (hf : ∀ q, free q → A0 q) (hAX : ∀ q, q < H.size → AX q → A0 q)
    (kx : ∀ (E : String) (ce : Cell) (q9 : Addr) (u : SX) (t : State) (H1 : Heap) (locs1 : List Loc), t.heap = H1 → s.vm.Alike t.vm → px u → BX E u t → H.size ≤ H1.size → (∀ q : Nat, q < H.size → ¬ AX q → H1[q]? = H[q]?) → va_S A0 H0 H1 locs1 → H1[q9]? = some ce → ce.vm = .none → s.vm.findClass E = some ce.cls → vx_W p l e R s m args below meth c H1 locs1 (cells + mc) (slots + ms) Q (F0 m pc ls rest) q9)
    (kk : ∀ (r : UInt32) (u : S) (t : State) (H1 : Heap) (locs1 : List Loc), t.heap = H1 → s.vm.Alike t.vm → post r u → B u t → H.size ≤ H1.size → (∀ q : Nat, q < H.size → ¬ A1 q → H1[q]? = H[q]?) → va_S A0 H0 H1 locs1 → W p l e R s m args below meth c H1 locs1 (cells + mc) (slots + ms) Q (F0 m (pc + 3) ls (.float r :: rest))) : W p l e R s m args below meth c H locs cells slots Q (F0 m pc ls st0) := by
  intro T hT X
  rcases hr T hT X with ⟨v, st₀, t, T', L, h0, X', hL, e1, e2, ⟨⟨r, u, hv, hp, hb⟩, hF⟩, st⟩ | ⟨q, st₀, t, T', L, E, ce, h0, X', hL, e1, e2, ⟨u, hp, hb, hF⟩, hce, hcv, hcl, st⟩
  · cases hv
    obtain ⟨k1, k2, k3⟩ := vx_keep h0 e1 hS hA hf hL hF
    obtain ⟨t2, a1, b1⟩ := kk r u t T'.heap (locs ++ L) e1.symm (by rw [← e2]; exact X'.warmed.alike) hp hb k1 k2 k3 T' rfl X'
    exact ⟨t2, st t2 a1, b1⟩
  · obtain ⟨k1, k2, k3⟩ := vx_keep h0 e1 hS hAX hf hL hF
    obtain ⟨t2, a1, b1⟩ := kx E ce q u t T'.heap (locs ++ L) e1.symm (by rw [← e2]; exact X'.warmed.alike) hp hb k1 k2 k3 (by rw [e1]; exact hce) hcv hcl T' rfl X'
    exact ⟨t2, st.trans a1, b1⟩
theorem vx_calld {S SX : Type} {post : UInt64 → S → Prop} {px : SX → Prop} {B : S → State → Prop} {BX : String → SX → State → Prop} {AX : Nat → Prop} (hr : vx_Run p l e R s m args below meth c H locs cells slots mc ms (F0 m pc ls st0) rest (va_Qd post B A1 a) (vx_X px BX AX) free) (hS : va_S A0 H0 H locs) (hA : ∀ q, q < H.size → A1 q → A0 q) (hf : ∀ q, free q → A0 q) (hAX : ∀ q, q < H.size → AX q → A0 q)
    (kx : ∀ (E : String) (ce : Cell) (q9 : Addr) (u : SX) (t : State) (H1 : Heap) (locs1 : List Loc), t.heap = H1 → s.vm.Alike t.vm → px u → BX E u t → H.size ≤ H1.size → (∀ q : Nat, q < H.size → ¬ AX q → H1[q]? = H[q]?) → va_S A0 H0 H1 locs1 → H1[q9]? = some ce → ce.vm = .none → s.vm.findClass E = some ce.cls → vx_W p l e R s m args below meth c H1 locs1 (cells + mc) (slots + ms) Q (F0 m pc ls rest) q9)
    (kk : ∀ (r : UInt64) (u : S) (t : State) (H1 : Heap) (locs1 : List Loc), t.heap = H1 → s.vm.Alike t.vm → post r u → B u t → H.size ≤ H1.size → (∀ q : Nat, q < H.size → ¬ A1 q → H1[q]? = H[q]?) → va_S A0 H0 H1 locs1 → W p l e R s m args below meth c H1 locs1 (cells + mc) (slots + ms) Q (F0 m (pc + 3) ls (.double r :: rest))) : W p l e R s m args below meth c H locs cells slots Q (F0 m pc ls st0) := by
  intro T hT X
  rcases hr T hT X with ⟨v, st₀, t, T', L, h0, X', hL, e1, e2, ⟨⟨r, u, hv, hp, hb⟩, hF⟩, st⟩ | ⟨q, st₀, t, T', L, E, ce, h0, X', hL, e1, e2, ⟨u, hp, hb, hF⟩, hce, hcv, hcl, st⟩
  · cases hv
    obtain ⟨k1, k2, k3⟩ := vx_keep h0 e1 hS hA hf hL hF
    obtain ⟨t2, a1, b1⟩ := kk r u t T'.heap (locs ++ L) e1.symm (by rw [← e2]; exact X'.warmed.alike) hp hb k1 k2 k3 T' rfl X'
    exact ⟨t2, st t2 a1, b1⟩
  · obtain ⟨k1, k2, k3⟩ := vx_keep h0 e1 hS hAX hf hL hF
    obtain ⟨t2, a1, b1⟩ := kx E ce q u t T'.heap (locs ++ L) e1.symm (by rw [← e2]; exact X'.warmed.alike) hp hb k1 k2 k3 (by rw [e1]; exact hce) hcv hcl T' rfl X'
    exact ⟨t2, st.trans a1, b1⟩
theorem vx_callv {S SX : Type} {post : S → Prop} {px : SX → Prop} {B : S → State → Prop} {BX : String → SX → State → Prop} {AX : Nat → Prop} (hr : vx_Run p l e R s m args below meth c H locs cells slots mc ms (F0 m pc ls st0) rest (va_Qv post B A1 a) (vx_X px BX AX) free) (hS : va_S A0 H0 H locs) (hA : ∀ q, q < H.size → A1 q → A0 q) (hf : ∀ q, free q → A0 q) (hAX : ∀ q, q < H.size → AX q → A0 q)
    (kx : ∀ (E : String) (ce : Cell) (q9 : Addr) (u : SX) (t : State) (H1 : Heap) (locs1 : List Loc), t.heap = H1 → s.vm.Alike t.vm → px u → BX E u t → H.size ≤ H1.size → (∀ q : Nat, q < H.size → ¬ AX q → H1[q]? = H[q]?) → va_S A0 H0 H1 locs1 → H1[q9]? = some ce → ce.vm = .none → s.vm.findClass E = some ce.cls → vx_W p l e R s m args below meth c H1 locs1 (cells + mc) (slots + ms) Q (F0 m pc ls rest) q9)
    (kk : ∀ (u : S) (t : State) (H1 : Heap) (locs1 : List Loc), t.heap = H1 → s.vm.Alike t.vm → post u → B u t → H.size ≤ H1.size → (∀ q : Nat, q < H.size → ¬ A1 q → H1[q]? = H[q]?) → va_S A0 H0 H1 locs1 → W p l e R s m args below meth c H1 locs1 (cells + mc) (slots + ms) Q (F0 m (pc + 3) ls (rest))) : W p l e R s m args below meth c H locs cells slots Q (F0 m pc ls st0) := by
  intro T hT X
  rcases hr T hT X with ⟨v, st₀, t, T', L, h0, X', hL, e1, e2, ⟨⟨u, hv, hp, hb⟩, hF⟩, st⟩ | ⟨q, st₀, t, T', L, E, ce, h0, X', hL, e1, e2, ⟨u, hp, hb, hF⟩, hce, hcv, hcl, st⟩
  · cases hv
    obtain ⟨k1, k2, k3⟩ := vx_keep h0 e1 hS hA hf hL hF
    obtain ⟨t2, a1, b1⟩ := kk u t T'.heap (locs ++ L) e1.symm (by rw [← e2]; exact X'.warmed.alike) hp hb k1 k2 k3 T' rfl X'
    exact ⟨t2, st t2 a1, b1⟩
  · obtain ⟨k1, k2, k3⟩ := vx_keep h0 e1 hS hAX hf hL hF
    obtain ⟨t2, a1, b1⟩ := kx E ce q u t T'.heap (locs ++ L) e1.symm (by rw [← e2]; exact X'.warmed.alike) hp hb k1 k2 k3 (by rw [e1]; exact hce) hcv hcl T' rfl X'
    exact ⟨t2, st.trans a1, b1⟩
/-- caught by the row x of this method's table; the rows ahead don't take it -/
theorem vx_catch {own name : String} {E : String} {ce : Cell} {q : Addr} (hown : s.vm.findClass own = some m.cls) (pre : List ExceptionTableEntry) (x : ExceptionTableEntry) (suf : List ExceptionTableEntry) (hsplit : c.exceptionTable.toList = pre ++ x :: suf)
    (hpass : ∀ z ∈ pre, covers z pc = false ∨ (z.catchType ≠ 0 ∧ ∃ nm : String, (Cond.classLink own z.catchType nm).before args s = true ∧ va_Nc E nm s)) (hx : covers x pc = true) (h0 : x.catchType ≠ 0)
    (hlink : (Cond.classLink own x.catchType name).before args s = true) (hcast : (Cond.castable E name).before args s = true) (hcell : H[q]? = some ce) (hv : ce.vm = .none) (hcl : s.vm.findClass E = some ce.cls)
    (kk : W p l e R s m args below meth c H locs cells slots Q (F0 m x.handlerPc ls [.ref q])) : vx_W p l e R s m args below meth c H locs cells slots Q (F0 m pc ls rest) q := by
  intro T hT X
  have hpl : e.platform.magicAccessors = ({} : Platform).magicAccessors := by rw [X.admits.platform]
  obtain ⟨c3, c4, hc3, hc4, hasg⟩ := Cond.castable_spec hcast
  cases Option.some.inj (hc3.symm.trans hcl)
  obtain ⟨c5, hc5, hcl5⟩ := Cond.classLink_spec hown hlink e.platform hpl
  cases Option.some.inj (hc4.symm.trans hc5)
  obtain ⟨vm', X', st⟩ := X.thenCaughtThrough q (g := F0 m pc ls rest) rfl (Steps.refl _) (by rw [hT]; exact hcell) (by rw [hv]; rfl) (by obtain ⟨k9, h9, -⟩ := Vm.findClass_spec hcl; exact ⟨k9, h9⟩) pre x suf hsplit
    (fun z hz => by
      rcases hpass z hz with h | ⟨hz0, nm, hl1, hn1⟩
      · exact Or.inl h
      · obtain ⟨c6, hc6, hcl6⟩ := Cond.classLink_spec hown hl1 e.platform hpl
        obtain ⟨a8, b8, h1, h2, h3⟩ := hn1
        cases Option.some.inj (h1.symm.trans hcl)
        cases Option.some.inj (h2.symm.trans hc6)
        exact Or.inr ⟨hz0, _, hcl6, h3⟩) hx (Or.inr ⟨h0, c4, hcl5, hasg⟩)
  obtain ⟨t, a1, b1⟩ := kk (T.setVm vm') hT X'
  exact ⟨t, st.trans a1, b1⟩
end Rows
section Ends
variable {p : Program} {l : Launch} {e : Env} {R : Room} {s : State} {m : MethodId} {args : Array Value} {below : List Frame} {meth : Method} {c : Code} {H : Heap} {locs : List Loc} {cells slots : Nat} {Q : State → Prop}
variable {mc ms : Nat} {free : Addr → Prop} {A0 A1 : Nat → Prop} {H0 : Heap} {a : Array Value} {ls : Array Slot} {st0 rest : List Value}
variable {Qc : Array Value → State → Outcome → State → Prop} {XC : String → State → State → Prop}
/-- what a body that may throw owes at its end -/
def vx_MQ (below : List Frame) (Qc : Array Value → State → Outcome → State → Prop) (XC : String → State → State → Prop) (a : Array Value) (s : State) (mc ms : Nat) (free : Addr → Prop) : State → Prop := fun t =>
  ∃ o, t.status = .running ∧ Ended t below o ∧ vx_Q Qc XC mc ms free a s o t
theorem vx_ret {g : JFrame} {mc ms : Nat} (k : W p l e R s m args below meth c H locs cells slots (MQ below Qc args s mc ms free) g) : W p l e R s m args below meth c H locs cells slots (vx_MQ below Qc XC args s mc ms free) g := by
  intro T hT X
  obtain ⟨t, a1, o, b1, b2, b3, b4⟩ := k T hT X
  exact ⟨t, a1, o, b1, b2, Or.inl ⟨b3, b4⟩⟩
/-- not caught here: it goes on to the caller -/
theorem vx_widen {g : JFrame} {q : Addr} {k n : Nat} (h1 : cells ≤ k) (h2 : slots ≤ n) (kk : vx_W p l e R s m args below meth c H locs k n Q g q) : vx_W p l e R s m args below meth c H locs cells slots Q g q := fun T hT X => kk T hT (stand_widen X h1 h2)
theorem vx_out {pc : Nat} {E : String} {ce : Cell} {q : Addr} {mc ms : Nat} (hout : ∀ x ∈ c.exceptionTable.toList, covers x pc = false) (hlocks : meth.locks = false) (hcell : H[q]? = some ce) (hv : ce.vm = .none) (hcl : s.vm.findClass E = some ce.cls)
    (hx : ∀ t : State, t.heap = H → s.vm.Alike t.vm → XC E s t) (hf : ∀ z ∈ locs, free z.base) (hc : cells ≤ mc) (hs : slots ≤ ms) :
    vx_W p l e R s m args below meth c H locs cells slots (vx_MQ below Qc XC args s mc ms free) (F0 m pc ls rest) q := by
  intro T hT X
  obtain ⟨st1, hrun, hend, hW, hsm⟩ := X.leaveThrown q (g := F0 m pc ls rest) rfl rfl rfl hout hlocks
  have hcell9 : (T.setFrames (.throwing q :: below)).heap[q]? = some ce := by
    show T.heap[q]? = some ce
    rw [hT]; exact hcell
  exact ⟨_, st1, .threw q, hrun, hend, Or.inr ⟨q, rfl, E, ce, locs, hx _ hT hW.alike, hcell9, hv, hcl, hW, hsm.mono hc hs, hf⟩⟩
theorem vx_frame {U : State} {k n : Nat} (h : s.sameButNew ({ U with vm := s.vm } : State) locs k n) : s.heap.size ≤ U.heap.size ∧ ∀ q : Nat, q < s.heap.size → (∀ z ∈ locs, z.base ≠ q) → U.heap[q]? = s.heap[q]? := by
  obtain ⟨-, h2, -, -, -, h6⟩ := h
  refine ⟨h2, fun q hq hz => ?_⟩
  obtain ⟨c9, e1, e2, e3, e4⟩ := h6 q _ (Array.getElem?_eq_getElem hq)
  have hs : c9.slots = (s.heap[q]).slots := Array.ext_getElem? fun i => e4 i fun hm => hz _ hm rfl
  have h9 : c9 = s.heap[q] := by
    rw [hs] at e2
    exact e2
  have e5 : U.heap[q]? = some c9 := e1
  rw [e5, h9, Array.getElem?_eq_getElem hq]
/-- the words of a throw but the four that speak of the heap -/
def vx_no (w : Cond) : Bool := decide (w ≠ .isRef (.static Bundle.tN "UNASSIGNED_STACK" Bundle.steD)) && decide (w ≠ .isRef (.static Bundle.tN "SUPPRESSED_SENTINEL" Bundle.listD)) && decide (w ≠ .laysStatic Bundle.tN "UNASSIGNED_STACK" Bundle.steD) && decide (w ≠ .laysStatic Bundle.tN "SUPPRESSED_SENTINEL" Bundle.listD)
def vx_at0 (own : String) (ic : Nat) (X : String) (names : List String) : List Cond := (Bundle.ownAtoms0 own ic X names).filter vx_no
def vx_atS (own : String) (ic : Nat) (X : String) (names : List String) : List Cond := (Bundle.ownAtoms own ic X names).filter vx_no
/-- a word that the tables alone decide, or a good one -/
def vx_ot (w : Cond) : Bool := w.onTables || goodWord w
theorem vx_ot_at {args a' : Array Value} {s U : State} {w : Cond} (hW : s.WarmedH U.vm) (hvm : s.vm = U.vm) (hg : vx_ot w = true) (h : w.before args s = true) : w.before a' U = true := by
  simp only [vx_ot, Bool.or_eq_true] at hg
  rcases hg with hg | hg
  · exact va_tabs hg hvm h
  · exact word_at hW (good_of_word hg) h
/-- a list's words: the good ones out of the method's own list, the others by premises of their own -/
theorem vx_hat {args : Array Value} {s : State} {L B : List Cond} (h1 : ∀ w ∈ L.filter goodWord, w.before args s = true) (h2 : ∀ w ∈ L.filter (fun w => !goodWord w), w ∈ B) (h3 : ∀ w ∈ B, w.before args s = true) : ∀ w ∈ L, w.before args s = true := by
  intro w hw
  by_cases g : goodWord w = true
  · exact h1 w (List.mem_filter.mpr ⟨hw, g⟩)
  · refine h3 w (h2 w (List.mem_filter.mpr ⟨hw, ?_⟩))
    show (!goodWord w) = true
    cases hgw : goodWord w
    · rfl
    · exact absurd hgw g
theorem vx_c {args : Array Value} {s : State} {w : Cond} {B : List Cond} (h : w.before args s = true) (t : ∀ w ∈ B, w.before args s = true) : ∀ w' ∈ w :: B, w'.before args s = true := fun w' h' => (List.mem_cons.mp h').elim (fun e => by rw [e]; exact h) (t w')
theorem vx_n {args : Array Value} {s : State} : ∀ w ∈ ([] : List Cond), w.before args s = true := fun _ h => nomatch h
theorem vx_own {args : Array Value} {s : State} {L : List Cond} (h1 : ∀ w ∈ L.filter vx_no, w.before args s = true)
    (hU : (Cond.isRef (.static Bundle.tN "UNASSIGNED_STACK" Bundle.steD)).before args s = true) (hN : (Cond.isRef (.static Bundle.tN "SUPPRESSED_SENTINEL" Bundle.listD)).before args s = true)
    (lU : (Cond.laysStatic Bundle.tN "UNASSIGNED_STACK" Bundle.steD).before args s = true) (lN : (Cond.laysStatic Bundle.tN "SUPPRESSED_SENTINEL" Bundle.listD).before args s = true) : ∀ w ∈ L, w.before args s = true := by
  intro w hw
  by_cases e1 : w = .isRef (.static Bundle.tN "UNASSIGNED_STACK" Bundle.steD)
  · rw [e1]; exact hU
  · by_cases e2 : w = .isRef (.static Bundle.tN "SUPPRESSED_SENTINEL" Bundle.listD)
    · rw [e2]; exact hN
    · by_cases e3 : w = .laysStatic Bundle.tN "UNASSIGNED_STACK" Bundle.steD
      · rw [e3]; exact lU
      · by_cases e4 : w = .laysStatic Bundle.tN "SUPPRESSED_SENTINEL" Bundle.listD
        · rw [e4]; exact lN
        · exact h1 w (List.mem_filter.mpr ⟨hw, by unfold vx_no; rw [decide_eq_true e1, decide_eq_true e2, decide_eq_true e3, decide_eq_true e4]; rfl⟩)
/-- where a static field lies, its class's statics cell in H -/
def vx_L (C n d : String) (A : Nat → Prop) (U : State) (H : Heap) : Prop := ∃ (c : ClassId) (k : Class) (i : Nat) (f : Field) (a : Nat) (cell : Cell), U.vm.findClass C = some c ∧ U.fieldFound? C n d = some (c, k, i, f) ∧ f.isStatic = true ∧ k.statics = some a ∧ H[a]? = some cell ∧ cell.vm.isStatics = true ∧ cell.cls = c ∧ f.slot < cell.slots.size ∧ k.staticTypes[f.slot]? = some f.type ∧ ¬ A a
theorem vx_L.moved {C n d : String} {A : Nat → Prop} {u U : State} {H : Heap} (hvm : u.vm.Alike U.vm) (h : vx_L C n d A u H) : vx_L C n d A U H := by
  obtain ⟨c, k, i, f, a, cell, h1, h2, h3, h4, h5, h6, h7, h8, h9, h10⟩ := h
  obtain ⟨k', hi', he⟩ := State.fieldFound?_setVm hvm h2
  exact ⟨c, k', i, f, a, cell, by rw [hvm.findClass]; exact h1, hi', h3, by rw [he]; exact h4, h5, h6, h7, h8, by rw [he]; exact h9, h10⟩
theorem vx_L.kept {C n d : String} {A : Nat → Prop} {U : State} {H H1 : Heap} (h : vx_L C n d A U H) (hq : ∀ a : Nat, a < H.size → ¬ A a → H1[a]? = H[a]?) : vx_L C n d A U H1 := by
  obtain ⟨c, k, i, f, a, cell, h1, h2, h3, h4, h5, h6, h7, h8, h9, h10⟩ := h
  exact ⟨c, k, i, f, a, cell, h1, h2, h3, h4, by rw [hq a (Array.getElem?_eq_some_iff.mp h5).1 h10]; exact h5, h6, h7, h8, h9, h10⟩
theorem vx_L.narrow {C n d : String} {A B : Nat → Prop} {U : State} {H : Heap} (h : vx_L C n d A U H) (hAB : ∀ q, B q → A q) : vx_L C n d B U H := by
  obtain ⟨c, k, i, f, a, cell, h1, h2, h3, h4, h5, h6, h7, h8, h9, h10⟩ := h
  exact ⟨c, k, i, f, a, cell, h1, h2, h3, h4, h5, h6, h7, h8, h9, fun z => h10 (hAB _ z)⟩
theorem vx_L.word {C n d : String} {A : Nat → Prop} {s : State} {args : Array Value} (h : vx_L C n d A s s.heap) : (Cond.laysStatic C n d).before args s = true := by
  obtain ⟨c, k, i, f, a, cell, h1, h2, h3, h4, h5, h6, h7, h8, h9, -⟩ := h
  show (Cond.laysStatic C n d).holds args s none s [] = true
  exact Cond.laysStatic_of h1 h2 h3 h4 h5 h6 h7 h8 h9
/-- .. and what it holds: null or some reference -/
def vx_Zq (C n d : String) (A : Nat → Prop) (U : State) (H : Heap) : Prop := va_Zq C n d A U H ∧ vx_L C n d A U H
theorem vx_Zq.moved {C n d : String} {A : Nat → Prop} {u U : State} {H : Heap} (hvm : u.vm.Alike U.vm) (h : vx_Zq C n d A u H) : vx_Zq C n d A U H := ⟨va_Zq.moved hvm h.1, vx_L.moved hvm h.2⟩
theorem vx_Zq.kept {C n d : String} {A : Nat → Prop} {U : State} {H H1 : Heap} (h : vx_Zq C n d A U H) (hq : ∀ a : Nat, a < H.size → ¬ A a → H1[a]? = H[a]?) : vx_Zq C n d A U H1 := ⟨va_Zq.kept h.1 hq, vx_L.kept h.2 hq⟩
theorem vx_Zq.narrow {C n d : String} {A B : Nat → Prop} {U : State} {H : Heap} (h : vx_Zq C n d A U H) (hAB : ∀ q, B q → A q) : vx_Zq C n d B U H := ⟨va_Zq.narrow h.1 hAB, vx_L.narrow h.2 hAB⟩
theorem vx_Zqof {args : Array Value} {s : State} {C n d : String} {A : Nat → Prop} (hl : (Cond.laysStatic C n d).before args s = true) (hini : (Cond.initialized C).before args s = true) (h : (Cond.isRef (.static C n d)).before args s = true) (hA : ∀ a : Nat, a < s.heap.size → ¬ A a) : vx_Zq C n d A s s.heap := by
  refine ⟨va_Zqof hl hini h hA, ?_⟩
  obtain ⟨c, k, i, f, a, cell, h1, h2, h3, h4, h5, h6, h7, h8, h9⟩ := Cond.laysStatic_spec hl
  exact ⟨c, k, i, f, a, cell, h1, h2, h3, h4, h5, h6, h7, h8, h9, hA a (Array.getElem?_eq_some_iff.mp h5).1⟩
theorem vx_isRef {C n d : String} {v : Value} {A : Nat → Prop} {s : State} {args : Array Value} (h : va_Z C n d v A s s.heap) (hv : v.isRef = true) : (Cond.isRef (.static C n d)).before args s = true := by
  obtain ⟨cf, kf, fi, f, a, cell, h1, h2, h3, h4, h5, h6, h7, -⟩ := h
  have he : (Term.static C n d).eval args s none [] s = some v := by
    simp [Term.eval, State.fieldNamed?, h1, h2, h4, h5, h6, h7]
  simp only [Cond.before, Cond.holds, Cond.value, he]
  cases v <;> simp_all [Value.isRef]
theorem vx_isRefq {C n d : String} {A : Nat → Prop} {s : State} {args : Array Value} (h : va_Zq C n d A s s.heap) : (Cond.isRef (.static C n d)).before args s = true := by
  rcases h with h | ⟨t, h⟩
  · exact vx_isRef h rfl
  · exact vx_isRef h rfl
/-- the same frame, seen from here: as if the method were called anew in this heap -/
theorem vx_rebase {T : State} (X : Stand p l e R s m args below meth c T locs cells slots) {R' : Room} (hf : R'.frames ≤ R.frames) (hl : R'.locals ≤ R.locals) (hc : cells + R'.cells ≤ R.cells) (hs : slots + R'.slots ≤ R.slots) :
    Stand p l e R' ((T.setVm s.vm).setFrames (.invoking m args :: below)) m args below meth c T [] 0 0 := by
  have htop : (T.setVm s.vm).topJava?.isSome := X.here.top
  have hF : ((T.setVm s.vm).setFrames (.invoking m args :: below)).frames = .invoking m args :: below := State.frames_setFrames _ (State.cur_lt_of_top htop)
  obtain ⟨g₀, hg0⟩ := Option.isSome_iff_exists.mp htop
  obtain ⟨r, hr⟩ := State.topJava?_eq_some.mp hg0
  have hl9 : e.platform.stackLimits (T.setVm s.vm).me = e.platform.stackLimits s.me := X.limits
  have hb9 : (T.setVm s.vm).me.stackBytes = s.me.stackBytes := X.bytes
  refine ⟨X.admits, X.cas, X.clock, hF, ?_, X.hears, X.method, X.code, X.here, X.tail, X.warmed, ?_, ?_, ?_⟩
  · have h := X.room
    have hU : ((T.setVm s.vm).setFrames (.invoking m args :: below)).localsInUse = s.localsInUse := by
      rw [State.localsInUse_invoking hF (meth := meth) (c := c) X.method X.code, State.localsInUse_invoking X.frames X.method X.code]
    simp only [State.hasRoom, Bool.and_eq_true, decide_eq_true_eq] at h ⊢
    obtain ⟨⟨⟨⟨h1, h2, h3, h4, h5, h6⟩, h7⟩, h8⟩, h9⟩ := h
    rw [X.frames, List.length_cons] at h2 h3
    have q1 := X.heapSize
    have q2 := X.used
    simp only [hF, hU, List.length_cons, State.stackLimits_setFrames, State.stackBytes_setFrames, hl9, hb9]
    refine ⟨⟨⟨⟨by omega, by omega, by omega, by omega, by omega, h6⟩, ?_⟩, ?_⟩, X.book⟩
    · show T.heap.size + R'.cells ≤ e.platform.maxCells
      omega
    · show T.slotsUsed + R'.slots ≤ e.platform.maxSlots
      omega
  · rw [State.stackLimits_setFrames]; rfl
  · rw [State.stackBytes_setFrames]; rfl
  · refine ⟨?_, Nat.le_refl _, Nat.le_refl _, ?_, ?_, fun a c9 h9 => ⟨c9, h9, rfl, rfl, fun _ _ => rfl⟩⟩
    · obtain ⟨t, ht, -⟩ := State.frames_cons hr
      show T.setVm s.vm = { ((T.setVm s.vm).setFrames (.invoking m args :: below)).setFrames (T.setVm s.vm).frames with heap := T.heap, slotsUsed := T.slotsUsed }
      rw [State.setFrames_setFrames, State.setFrames_self ht]
      rfl
    · show T.slotsUsed = T.slotsUsed + ((T.heap.toList.drop T.heap.size).map (·.slots.size)).sum
      rw [List.drop_eq_nil_of_le (Nat.le_of_eq Array.length_toList)]
      rfl
    · show ((T.heap.toList.drop T.heap.size).map (·.slots.size)).sum ≤ 0
      rw [List.drop_eq_nil_of_le (Nat.le_of_eq Array.length_toList)]
      exact Nat.le_refl _
/-- 'throw new E()': new; dup; invokespecial; athrow -/
theorem vx_throw0 {cc : ByteArray} {pc : Nat} (hexec : p.tables.exec = Jvm.exec) (hb : c.code = cc) (hl : l.stackTraces = false) {own cls : String} {names : List String} {ik ic mc ms : Nat} {A : Nat → Prop}
    (hown : s.vm.findClass own = some m.cls) (hcls : Bundle.fit cls = true) (hnames : ∀ n ∈ names, Bundle.fit n = true)
    (hk : (Cond.classLink own ik cls).before args s = true) (hini : (Cond.initialized cls).before args s = true) (hat : ∀ w ∈ vx_at0 own ic cls names, w.before args s = true)
    (hgood : ∀ w ∈ Cond.classLink own ik cls :: Cond.initialized cls :: vx_at0 own ic cls names, vx_ot w = true)
    (hU : vx_Zq Bundle.tN "UNASSIGNED_STACK" Bundle.steD A s s.heap) (hN : vx_Zq Bundle.tN "SUPPRESSED_SENTINEL" Bundle.listD A s s.heap) (hS : va_S A s.heap H locs) (hsize : ls.size = c.maxLocals)
    (d0 : decode cc pc = .ok (.new ik, 3)) (d3 : decode cc (pc + 3) = .ok (.dup, 1)) (d4 : decode cc (pc + 4) = .ok (.invokespecial ic, 3)) (d7 : decode cc (pc + 7) = .ok (.athrow, 1))
    (hout : ∀ x ∈ c.exceptionTable.toList, covers x (pc + 7) = false)
    (hRframes : names.length + 3 < R.frames) (hRlocals : (rest.map fun v => v.category).sum + (13 * (names.length + 1) + 42) ≤ R.locals) (hRcells : cells + 1 ≤ R.cells) (hRslots : slots + 6 ≤ R.slots) (hlocks : meth.locks = false)
    (hx : ∀ t : State, s.vm.Alike t.vm → H.size ≤ t.heap.size → (∀ q : Nat, q < H.size → t.heap[q]? = H[q]?) → XC cls s t)
    (hf : ∀ z ∈ locs, free z.base) (hc : cells + 1 ≤ mc) (hs : slots + 6 ≤ ms) :
    W p l e R s m args below meth c H locs cells slots (vx_MQ below Qc XC args s mc ms free) (F0 m pc ls rest) := by
  intro T hT X
  have htr : e.platform.stackTraces = false := (show e.platform.stackTraces = l.stackTraces by rw [X.admits.platform]).trans hl
  have Y := vx_rebase X (R' := { frames := R.frames, locals := R.locals, cells := 1, slots := 6 }) (Nat.le_refl _) (Nat.le_refl _) hRcells hRslots
  obtain ⟨s', hA⟩ : ∃ z, z = (T.setVm s.vm).setFrames (.invoking m args :: below) := ⟨_, rfl⟩
  rw [← hA] at Y
  have hvm : s'.vm = s.vm := by rw [hA]; rfl
  have hhp : s'.heap = H := by rw [hA]; exact hT
  have hW0 : s.WarmedH s'.vm := by rw [hvm]; exact State.WarmedH.refl s
  have hat' : ∀ w ∈ vx_at0 own ic cls names, w.before args s' = true := fun w hw => vx_ot_at hW0 hvm.symm (hgood w (List.mem_cons_of_mem _ (List.mem_cons_of_mem _ hw))) (hat w hw)
  have hk' : (Cond.classLink own ik cls).before args s' = true := vx_ot_at hW0 hvm.symm (hgood _ List.mem_cons_self) hk
  have hini' : (Cond.initialized cls).before args s' = true := vx_ot_at hW0 hvm.symm (hgood _ (List.mem_cons_of_mem _ List.mem_cons_self)) hini
  have hU' : vx_Zq Bundle.tN "UNASSIGNED_STACK" Bundle.steD A s' s'.heap := by rw [hhp]; exact vx_Zq.moved hW0.alike (hU.kept hS.2.1)
  have hN' : vx_Zq Bundle.tN "SUPPRESSED_SENTINEL" Bundle.listD A s' s'.heap := by rw [hhp]; exact vx_Zq.moved hW0.alike (hN.kept hS.2.1)
  have h : ∀ w ∈ Bundle.ownAtoms0 own ic cls names, w.before args s' = true := vx_own hat' (vx_isRefq hU'.1) (vx_isRefq hN'.1) hU'.2.word hN'.2.word
  have hown' : s'.vm.findClass own = some m.cls := by rw [hvm]; exact hown
  have hins : (Cond.instantiable cls 6).before args s' = true := h _ (by simp [Bundle.ownAtoms0])
  obtain ⟨vm₁, cX, kX, hfX, hkX, -, -, X₁, st1⟩ := Y.newCold hexec (own := own) (C := cls) (index := ik) (n := 6) hown' hk' hins hini'
    (g := F0 m pc ls rest) rfl (by rw [hb]; exact d0) (Nat.le_refl _) (Nat.le_refl _)
  generalize hT1 : (T.setVm vm₁).pushCell { cls := cX, slots := kX.instanceTypes.map defaultValue, vm := .none } = T1 at X₁ st1
  have hcat : (Value.ref T.heap.size).category = 1 := rfl
  have hcellA : T1.heap[T.heap.size]? = some (freshCell cX kX) := by rw [← hT1]; exact State.heap_pushCell_size _ _
  have d3' : decode c.code (pc + 3) = .ok (.dup, 1) := by rw [hb]; exact d3
  obtain ⟨U, hsteps, hrun, hend, hW, hsame, ce, hce, hO⟩ := X₁.ctorThrow0 hexec htr (own := own) (cls := cls) (names := names) (ic := ic) hown' hcls hnames h (fun x hx => nomatch hx) hfX hkX hcellA (by rw [hhp, hT]; exact Nat.le_refl _)
    (g := { method := m, pc := pc + 4, locals := ls, stack := .ref T.heap.size :: .ref T.heap.size :: rest, locked := none }) rfl hsize rfl rfl (rest := rest) rfl
    (by rw [hb]; exact d4) (by rw [hb]; exact d7) hout hRframes (by simp only [List.map_cons, List.sum_cons, hcat]; omega) hlocks
  obtain ⟨f1, f2⟩ := vx_frame hsame
  rw [hhp] at f1 f2
  have hWs : s.WarmedH U.vm := State.WarmedH.trans hW0 hW
  have hcl : s.vm.findClass cls = some ce.cls := by
    have h9 := hO.cls
    rw [hvm] at h9
    exact h9
  have hall : s.sameButNew ({ U with vm := s.vm } : State) locs mc ms := by
    subst hA
    obtain ⟨e1, e2⟩ := hsame
    rw [State.setFrames_setFrames] at e1
    have h2 : (T.setVm s.vm).sameButNew ({ U with vm := s.vm } : State) [] (0 + 1) (0 + 6) := ⟨e1, e2⟩
    have h3 := X.same.trans h2
    rw [List.append_nil] at h3
    exact h3.mono hc hs
  refine ⟨U, ?_, .threw T.heap.size, hrun, hend, Or.inr ⟨T.heap.size, rfl, cls, ce, locs, hx U hWs.alike f1 (fun q hq => f2 q hq (fun z hz => nomatch hz)), hce, hO.vm, hcl, hWs, hall, hf⟩⟩
  refine st1 _ ?_
  show Steps p.tables e below (T1.setTop { method := m, pc := pc + 3, locals := ls, stack := .ref T.heap.size :: rest, locked := none }) _
  jvm_step X₁.here [X₁.here.top, hexec, d3', Value.category]
  exact hsteps
/-- 'throw new E("text")': new; dup; ldc; invokespecial; athrow -/
theorem vx_throwS {cc : ByteArray} {pc : Nat} (hexec : p.tables.exec = Jvm.exec) (hb : c.code = cc) (hl : l.stackTraces = false) {own cls text : String} {names : List String} {ik is ic mc ms sa : Nat} {A : Nat → Prop}
    (hown : s.vm.findClass own = some m.cls) (hcls : Bundle.fit cls = true) (hnames : ∀ n ∈ names, Bundle.fit n = true)
    (hk : (Cond.classLink own ik cls).before args s = true) (hini : (Cond.initialized cls).before args s = true) (hstr : vk_R own is text sa s) (hat : ∀ w ∈ vx_atS own ic cls names, w.before args s = true)
    (hgood : ∀ w ∈ Cond.classLink own ik cls :: Cond.initialized cls :: vx_atS own ic cls names, vx_ot w = true)
    (hU : vx_Zq Bundle.tN "UNASSIGNED_STACK" Bundle.steD A s s.heap) (hN : vx_Zq Bundle.tN "SUPPRESSED_SENTINEL" Bundle.listD A s s.heap) (hS : va_S A s.heap H locs) (hsize : ls.size = c.maxLocals)
    (d0 : decode cc pc = .ok (.new ik, 3)) (d3 : decode cc (pc + 3) = .ok (.dup, 1)) (d4 : decode cc (pc + 4) = .ok (.ldc is, 2)) (d6 : decode cc (pc + 6) = .ok (.invokespecial ic, 3)) (d9 : decode cc (pc + 9) = .ok (.athrow, 1))
    (hout : ∀ x ∈ c.exceptionTable.toList, covers x (pc + 9) = false)
    (hRframes : names.length + 3 < R.frames) (hRlocals : (rest.map fun v => v.category).sum + (13 * (names.length + 1) + 43) ≤ R.locals) (hRcells : cells + 1 ≤ R.cells) (hRslots : slots + 6 ≤ R.slots) (hlocks : meth.locks = false)
    (hx : ∀ t : State, s.vm.Alike t.vm → H.size ≤ t.heap.size → (∀ q : Nat, q < H.size → t.heap[q]? = H[q]?) → XC cls s t)
    (hf : ∀ z ∈ locs, free z.base) (hc : cells + 1 ≤ mc) (hs : slots + 6 ≤ ms) :
    W p l e R s m args below meth c H locs cells slots (vx_MQ below Qc XC args s mc ms free) (F0 m pc ls rest) := by
  intro T hT X
  have htr : e.platform.stackTraces = false := (show e.platform.stackTraces = l.stackTraces by rw [X.admits.platform]).trans hl
  have Y := vx_rebase X (R' := { frames := R.frames, locals := R.locals, cells := 1, slots := 6 }) (Nat.le_refl _) (Nat.le_refl _) hRcells hRslots
  obtain ⟨s', hA⟩ : ∃ z, z = (T.setVm s.vm).setFrames (.invoking m args :: below) := ⟨_, rfl⟩
  rw [← hA] at Y
  have hvm : s'.vm = s.vm := by rw [hA]; rfl
  have hhp : s'.heap = H := by rw [hA]; exact hT
  have hW0 : s.WarmedH s'.vm := by rw [hvm]; exact State.WarmedH.refl s
  have hat' : ∀ w ∈ vx_atS own ic cls names, w.before args s' = true := fun w hw => vx_ot_at hW0 hvm.symm (hgood w (List.mem_cons_of_mem _ (List.mem_cons_of_mem _ hw))) (hat w hw)
  have hk' : (Cond.classLink own ik cls).before args s' = true := vx_ot_at hW0 hvm.symm (hgood _ List.mem_cons_self) hk
  have hini' : (Cond.initialized cls).before args s' = true := vx_ot_at hW0 hvm.symm (hgood _ (List.mem_cons_of_mem _ List.mem_cons_self)) hini
  have hU' : vx_Zq Bundle.tN "UNASSIGNED_STACK" Bundle.steD A s' s'.heap := by rw [hhp]; exact vx_Zq.moved hW0.alike (hU.kept hS.2.1)
  have hN' : vx_Zq Bundle.tN "SUPPRESSED_SENTINEL" Bundle.listD A s' s'.heap := by rw [hhp]; exact vx_Zq.moved hW0.alike (hN.kept hS.2.1)
  have h : ∀ w ∈ Bundle.ownAtoms own ic cls names, w.before args s' = true := vx_own hat' (vx_isRefq hU'.1) (vx_isRefq hN'.1) hU'.2.word hN'.2.word
  have hown' : s'.vm.findClass own = some m.cls := by rw [hvm]; exact hown
  have hins : (Cond.instantiable cls 6).before args s' = true := h _ (by simp [Bundle.ownAtoms])
  obtain ⟨vm₁, cX, kX, hfX, hkX, -, -, X₁, st1⟩ := Y.newCold hexec (own := own) (C := cls) (index := ik) (n := 6) hown' hk' hins hini'
    (g := F0 m pc ls rest) rfl (by rw [hb]; exact d0) (Nat.le_refl _) (Nat.le_refl _)
  generalize hT1 : (T.setVm vm₁).pushCell { cls := cX, slots := kX.instanceTypes.map defaultValue, vm := .none } = T1 at X₁ st1
  have hcat : (Value.ref T.heap.size).category = 1 := rfl
  have hcellA : T1.heap[T.heap.size]? = some (freshCell cX kX) := by rw [← hT1]; exact State.heap_pushCell_size _ _
  have d3' : decode c.code (pc + 3) = .ok (.dup, 1) := by rw [hb]; exact d3
  have d4' : decode c.code (pc + 4) = .ok (.ldc is, 2) := by rw [hb]; exact d4
  have hstr' : vk_R own is text sa s' := vk_R.warm hW0 hstr
  obtain ⟨U, hsteps, hrun, hend, hW, hsame, ce, hce, hO⟩ := X₁.ctorThrowS hexec htr (own := own) (cls := cls) (names := names) (ic := ic) hown' hcls hnames h (fun x hx => nomatch hx) hfX hkX hcellA (by rw [hhp, hT]; exact Nat.le_refl _) (msg := .ref sa) rfl
    (g := { method := m, pc := pc + 6, locals := ls, stack := .ref sa :: .ref T.heap.size :: .ref T.heap.size :: rest, locked := none }) rfl hsize rfl rfl (rest := rest) rfl
    (by rw [hb]; exact d6) (by rw [hb]; exact d9) hout hRframes (by simp only [List.map_cons, List.sum_cons, hcat]; omega) hlocks
  obtain ⟨f1, f2⟩ := vx_frame hsame
  rw [hhp] at f1 f2
  have hWs : s.WarmedH U.vm := State.WarmedH.trans hW0 hW
  have hcl : s.vm.findClass cls = some ce.cls := by
    have h9 := hO.cls
    rw [hvm] at h9
    exact h9
  have hall : s.sameButNew ({ U with vm := s.vm } : State) locs mc ms := by
    subst hA
    obtain ⟨e1, e2⟩ := hsame
    rw [State.setFrames_setFrames] at e1
    have h2 : (T.setVm s.vm).sameButNew ({ U with vm := s.vm } : State) [] (0 + 1) (0 + 6) := ⟨e1, e2⟩
    have h3 := X.same.trans h2
    rw [List.append_nil] at h3
    exact h3.mono hc hs
  refine ⟨U, ?_, .threw T.heap.size, hrun, hend, Or.inr ⟨T.heap.size, rfl, cls, ce, locs, hx U hWs.alike f1 (fun q hq => f2 q hq (fun z hz => nomatch hz)), hce, hO.vm, hcl, hWs, hall, hf⟩⟩
  refine st1 _ ?_
  show Steps p.tables e below (T1.setTop { method := m, pc := pc + 3, locals := ls, stack := .ref T.heap.size :: rest, locked := none }) _
  jvm_step X₁.here [X₁.here.top, hexec, d3', Value.category]
  exact X₁.ldcString hexec (own := own) (text := text) (index := is) (a := sa) hown' hstr'.1 hstr'.2
    (g := { method := m, pc := pc + 4, locals := ls, stack := .ref T.heap.size :: .ref T.heap.size :: rest, locked := none }) rfl d4' _ hsteps
/-- 'throw new E("text")', the text by a wide index -/
theorem vx_throwSW {cc : ByteArray} {pc : Nat} (hexec : p.tables.exec = Jvm.exec) (hb : c.code = cc) (hl : l.stackTraces = false) {own cls text : String} {names : List String} {ik is ic mc ms sa : Nat} {A : Nat → Prop}
    (hown : s.vm.findClass own = some m.cls) (hcls : Bundle.fit cls = true) (hnames : ∀ n ∈ names, Bundle.fit n = true)
    (hk : (Cond.classLink own ik cls).before args s = true) (hini : (Cond.initialized cls).before args s = true) (hstr : vk_R own is text sa s) (hat : ∀ w ∈ vx_atS own ic cls names, w.before args s = true)
    (hgood : ∀ w ∈ Cond.classLink own ik cls :: Cond.initialized cls :: vx_atS own ic cls names, vx_ot w = true)
    (hU : vx_Zq Bundle.tN "UNASSIGNED_STACK" Bundle.steD A s s.heap) (hN : vx_Zq Bundle.tN "SUPPRESSED_SENTINEL" Bundle.listD A s s.heap) (hS : va_S A s.heap H locs) (hsize : ls.size = c.maxLocals)
    (d0 : decode cc pc = .ok (.new ik, 3)) (d3 : decode cc (pc + 3) = .ok (.dup, 1)) (d4 : decode cc (pc + 4) = .ok (.ldc_w is, 3)) (d7 : decode cc (pc + 7) = .ok (.invokespecial ic, 3)) (d10 : decode cc (pc + 10) = .ok (.athrow, 1))
    (hout : ∀ x ∈ c.exceptionTable.toList, covers x (pc + 10) = false)
    (hRframes : names.length + 3 < R.frames) (hRlocals : (rest.map fun v => v.category).sum + (13 * (names.length + 1) + 43) ≤ R.locals) (hRcells : cells + 1 ≤ R.cells) (hRslots : slots + 6 ≤ R.slots) (hlocks : meth.locks = false)
    (hx : ∀ t : State, s.vm.Alike t.vm → H.size ≤ t.heap.size → (∀ q : Nat, q < H.size → t.heap[q]? = H[q]?) → XC cls s t)
    (hf : ∀ z ∈ locs, free z.base) (hc : cells + 1 ≤ mc) (hs : slots + 6 ≤ ms) :
    W p l e R s m args below meth c H locs cells slots (vx_MQ below Qc XC args s mc ms free) (F0 m pc ls rest) := by
  intro T hT X
  have htr : e.platform.stackTraces = false := (show e.platform.stackTraces = l.stackTraces by rw [X.admits.platform]).trans hl
  have Y := vx_rebase X (R' := { frames := R.frames, locals := R.locals, cells := 1, slots := 6 }) (Nat.le_refl _) (Nat.le_refl _) hRcells hRslots
  obtain ⟨s', hA⟩ : ∃ z, z = (T.setVm s.vm).setFrames (.invoking m args :: below) := ⟨_, rfl⟩
  rw [← hA] at Y
  have hvm : s'.vm = s.vm := by rw [hA]; rfl
  have hhp : s'.heap = H := by rw [hA]; exact hT
  have hW0 : s.WarmedH s'.vm := by rw [hvm]; exact State.WarmedH.refl s
  have hat' : ∀ w ∈ vx_atS own ic cls names, w.before args s' = true := fun w hw => vx_ot_at hW0 hvm.symm (hgood w (List.mem_cons_of_mem _ (List.mem_cons_of_mem _ hw))) (hat w hw)
  have hk' : (Cond.classLink own ik cls).before args s' = true := vx_ot_at hW0 hvm.symm (hgood _ List.mem_cons_self) hk
  have hini' : (Cond.initialized cls).before args s' = true := vx_ot_at hW0 hvm.symm (hgood _ (List.mem_cons_of_mem _ List.mem_cons_self)) hini
  have hU' : vx_Zq Bundle.tN "UNASSIGNED_STACK" Bundle.steD A s' s'.heap := by rw [hhp]; exact vx_Zq.moved hW0.alike (hU.kept hS.2.1)
  have hN' : vx_Zq Bundle.tN "SUPPRESSED_SENTINEL" Bundle.listD A s' s'.heap := by rw [hhp]; exact vx_Zq.moved hW0.alike (hN.kept hS.2.1)
  have h : ∀ w ∈ Bundle.ownAtoms own ic cls names, w.before args s' = true := vx_own hat' (vx_isRefq hU'.1) (vx_isRefq hN'.1) hU'.2.word hN'.2.word
  have hown' : s'.vm.findClass own = some m.cls := by rw [hvm]; exact hown
  have hins : (Cond.instantiable cls 6).before args s' = true := h _ (by simp [Bundle.ownAtoms])
  obtain ⟨vm₁, cX, kX, hfX, hkX, -, -, X₁, st1⟩ := Y.newCold hexec (own := own) (C := cls) (index := ik) (n := 6) hown' hk' hins hini'
    (g := F0 m pc ls rest) rfl (by rw [hb]; exact d0) (Nat.le_refl _) (Nat.le_refl _)
  generalize hT1 : (T.setVm vm₁).pushCell { cls := cX, slots := kX.instanceTypes.map defaultValue, vm := .none } = T1 at X₁ st1
  have hcat : (Value.ref T.heap.size).category = 1 := rfl
  have hcellA : T1.heap[T.heap.size]? = some (freshCell cX kX) := by rw [← hT1]; exact State.heap_pushCell_size _ _
  have d3' : decode c.code (pc + 3) = .ok (.dup, 1) := by rw [hb]; exact d3
  have d4' : decode c.code (pc + 4) = .ok (.ldc_w is, 3) := by rw [hb]; exact d4
  have hstr' : vk_R own is text sa s' := vk_R.warm hW0 hstr
  obtain ⟨U, hsteps, hrun, hend, hW, hsame, ce, hce, hO⟩ := X₁.ctorThrowS hexec htr (own := own) (cls := cls) (names := names) (ic := ic) hown' hcls hnames h (fun x hx => nomatch hx) hfX hkX hcellA (by rw [hhp, hT]; exact Nat.le_refl _) (msg := .ref sa) rfl
    (g := { method := m, pc := pc + 7, locals := ls, stack := .ref sa :: .ref T.heap.size :: .ref T.heap.size :: rest, locked := none }) rfl hsize rfl rfl (rest := rest) rfl
    (by rw [hb]; exact d7) (by rw [hb]; exact d10) hout hRframes (by simp only [List.map_cons, List.sum_cons, hcat]; omega) hlocks
  obtain ⟨f1, f2⟩ := vx_frame hsame
  rw [hhp] at f1 f2
  have hWs : s.WarmedH U.vm := State.WarmedH.trans hW0 hW
  have hcl : s.vm.findClass cls = some ce.cls := by
    have h9 := hO.cls
    rw [hvm] at h9
    exact h9
  have hall : s.sameButNew ({ U with vm := s.vm } : State) locs mc ms := by
    subst hA
    obtain ⟨e1, e2⟩ := hsame
    rw [State.setFrames_setFrames] at e1
    have h2 : (T.setVm s.vm).sameButNew ({ U with vm := s.vm } : State) [] (0 + 1) (0 + 6) := ⟨e1, e2⟩
    have h3 := X.same.trans h2
    rw [List.append_nil] at h3
    exact h3.mono hc hs
  refine ⟨U, ?_, .threw T.heap.size, hrun, hend, Or.inr ⟨T.heap.size, rfl, cls, ce, locs, hx U hWs.alike f1 (fun q hq => f2 q hq (fun z hz => nomatch hz)), hce, hO.vm, hcl, hWs, hall, hf⟩⟩
  refine st1 _ ?_
  show Steps p.tables e below (T1.setTop { method := m, pc := pc + 3, locals := ls, stack := .ref T.heap.size :: rest, locked := none }) _
  jvm_step X₁.here [X₁.here.top, hexec, d3', Value.category]
  exact X₁.ldcStringW hexec (own := own) (text := text) (index := is) (a := sa) hown' hstr'.1 hstr'.2
    (g := { method := m, pc := pc + 4, locals := ls, stack := .ref T.heap.size :: .ref T.heap.size :: rest, locked := none }) rfl d4' _ hsteps
end Ends
section Bodies
variable {l : Launch}
theorem vx_ofW {y : MethodName} {ws ws' : List Cond} {rm : Room} {Pc : Array Value → State → Prop} {Qc : Array Value → State → Outcome → State → Prop} {XC : String → State → State → Prop} {mc ms : Nat} {free : Addr → Prop} {cc : ByteArray} {maxL : Nat} {ret : Option FieldType}
    (hy : plainName y.cls = true) (hw : ws = Cond.code y cc maxL ret :: ws')
    (body : ∀ p e s m args below meth c s₁, BodyLoose p l y (headSpec ws rm) cc maxL ret e s m args below meth c s₁ → c.maxLocals = maxL → (∀ x ∈ c.exceptionTable.toList, False) → Pc args s →
      W p l e (headSpec ws rm).room s m args below meth c s.heap [] 0 0 (vx_MQ below Qc XC args s mc ms free) (entryFrame m args maxL)) : vx_Met l y ws rm Pc Qc XC mc ms free := by
  refine MetFree.of_bodyS (code := cc) (maxLocals := maxL) (ret := ret) hy ?_ ?_
  · intro args s m h hn
    obtain ⟨meth, c, h1, h2, h3, h4, h5, h6, -, -⟩ := Cond.code_spec hn (atoms_spec (ws := ws) h _ (by rw [hw]; exact List.mem_cons_self))
    exact ⟨meth, c, h1, h2, h3, h4, h5, h6⟩
  · intro p e s m args below meth c s₁ B hml hP _
    have hh0 : s₁.heap = s.heap := by rw [B.state]; rfl
    have ht : ∀ x ∈ c.exceptionTable.toList, False := by
      obtain ⟨meth9, c9, h1, h2, -, -, -, -, h7, -⟩ := Cond.code_spec B.named (atoms_spec (ws := ws) B.pre _ (by rw [hw]; exact List.mem_cons_self))
      cases Option.some.inj (h1.symm.trans B.method)
      cases Option.some.inj (h2.symm.trans (Stand.of_body B).code)
      intro x hx
      rw [Array.isEmpty_iff.mp h7] at hx
      cases hx
    obtain ⟨t, a1, o, b1, b2, b3⟩ := body p e s m args below meth c s₁ B hml ht hP s₁ hh0 (Stand.of_body B)
    exact ⟨t, o, a1, b1, b2, b3⟩
/-- the table of a body with handlers -/
theorem vx_table {p : Program} {x y : MethodName} {S : Spec} {cc bytes : ByteArray} {maxL maxL' : Nat} {ret ret' : Option FieldType} {e : Env} {s s₁ : State} {m : MethodId} {args : Array Value} {below : List Frame} {meth : Method} {c : Code} {hh : List (Nat × Nat × Nat × Nat)}
    (B : BodyLoose p l y S cc maxL ret e s m args below meth c s₁) (h : (Cond.codeWith y bytes maxL' ret' hh).before args s = true) : c.exceptionTable.toList = tableOf hh := by
  obtain ⟨m9, meth9, c9, hn9, h1, h2, -, -, h6, -⟩ := Cond.codeWith_spec h
  cases Option.some.inj (hn9.symm.trans B.named)
  cases Option.some.inj (h1.symm.trans B.method)
  cases Option.some.inj (h2.symm.trans (Stand.of_body B).code)
  rw [← h6, table_eq]
end Bodies
end VXA
/-! ===== END ===== -/
/-! ===== BEGIN a static call of a method with an exception table ===== -/
section VXS
variable {p : Program} {l : Launch} {e : Env} {R : Room} {s : State} {m : MethodId} {args : Array Value} {below : List Frame} {meth : Method} {c : Code} {T : State} {H : Heap} {locs : List Loc} {cells slots : Nat}
abbrev vx_CSW (R : Room) (s : State) (args : Array Value) (own : String) (index : Nat) (y : MethodName) (bytes : ByteArray) (maxL : Nat) (ret : Option FieldType) (hh : List (Nat × Nat × Nat × Nat)) (ws : List Cond) (rm : Room) (mc ms n : Nat) : Prop :=
  (rm.cells = mc ∧ rm.slots = ms ∧ rm.frames + 1 ≤ R.frames ∧ 8 + (maxL + 11) + rm.locals ≤ R.locals ∧ (∀ w ∈ ws, ∀ (a' : Array Value) (U : State), s.WarmedH U.vm → w.before a' U = true) ∧ Cond.codeWith y bytes maxL ret hh ∈ ws) ∧
  (Cond.codeWith y bytes maxL ret hh).before args s = true ∧ (Cond.initialized y.cls).before args s = true ∧ (y.cls ≠ "java/lang/invoke/MethodHandle" ∧ y.cls ≠ "java/lang/invoke/VarHandle") ∧
  (∀ sig, parseMethodDescriptor y.desc = some sig → n = sig.parameters.length) ∧ (Cond.methodLink own index y).before args s = true ∧ (Cond.static y).before args s = true
theorem vx_cwSW {own : String} {index maxL mc ms : Nat} {y : MethodName} {bytes : ByteArray} {ret : Option FieldType} {hh : List (Nat × Nat × Nat × Nat)} {Ts ws ws' : List Cond} {rm : Room} (n : Nat) (ht : ∀ w ∈ Ts, w.before args s = true) (hT : GoodIn Ts (va_wsS own index y ws)) (hw : ws = Cond.codeWith y bytes maxL ret hh :: ws') (hrc : rm.cells = mc) (hrs : rm.slots = ms)
    (hd : y.cls ≠ "java/lang/invoke/MethodHandle" ∧ y.cls ≠ "java/lang/invoke/VarHandle" ∧ (parseMethodDescriptor y.desc).map (fun d => d.parameters.length) = some n) (hR : rm.frames + 1 ≤ R.frames ∧ 8 + (maxL + 11) + rm.locals ≤ R.locals) :
    vx_CSW R s args own index y bytes maxL ret hh ws rm mc ms n := by
  have ok : ∀ w ∈ va_wsS own index y ws, w.before args s = true := fun w h => ht w (hT w h).1
  have hG : GoodIn Ts ws := fun w h => hT w (by unfold va_wsS; exact List.mem_append_right _ h)
  have hc : Cond.codeWith y bytes maxL ret hh ∈ ws := by rw [hw]; exact List.mem_cons_self
  refine ⟨⟨hrc, hrs, hR.1, hR.2, pay_in ht hG, hc⟩, ht _ (hG _ hc).1, ok _ (by simp [va_wsS]), ⟨hd.1, hd.2.1⟩, fun sig h => ?_, ok _ (by simp [va_wsS]), ok _ (by simp [va_wsS])⟩
  have h2 := hd.2.2
  rw [h] at h2
  exact (Option.some.inj h2).symm
theorem vx_callSW (X : Stand p l e R s m args below meth c T locs cells slots) (hexec : p.tables.exec = Jvm.exec) {own : String} {index : Nat} {y : MethodName} {bytes : ByteArray} {maxL : Nat} {ret : Option FieldType} {hh : List (Nat × Nat × Nat × Nat)}
    (hown : s.vm.findClass own = some m.cls) (hlink : (Cond.methodLink own index y).before args s = true) (hstat : (Cond.static y).before args s = true) (hinit : (Cond.initialized y.cls).before args s = true)
    (hcode : (Cond.codeWith y bytes maxL ret hh).before args s = true) (hy : y.cls ≠ "java/lang/invoke/MethodHandle" ∧ y.cls ≠ "java/lang/invoke/VarHandle")
    {W9 : Nat} {Pre : Pt → Array Value → Prop} {Post : Pt → Array Value → Option Value → Pt → Prop} (hK : Back l R p e below s args y 3 W9 Pre Post)
    {g : JFrame} (hg : g.method = m) (hsize : g.locals.size = c.maxLocals) {argsL rest : List Value} (hlen : ∀ sig, parseMethodDescriptor y.desc = some sig → argsL.length = sig.parameters.length)
    (hstack : g.stack = argsL.reverse ++ rest) (hW : 2 * g.monitorRoom + (rest.map fun v => v.category).sum ≤ W9) (hdg : decode c.code g.pc = .ok (.invokestatic index, 3))
    (hpre : ∀ vm₁, s.WarmedH vm₁ → Pre ⟨T.setVm vm₁, locs, cells, slots⟩ argsL.toArray) :
    ∃ (v : Option Value) (vm₁ : Vm) (B : Pt), s.WarmedH vm₁ ∧ Stand p l e R s m args below meth c B.U B.locs B.cells B.slots ∧ Post ⟨T.setVm vm₁, locs, cells, slots⟩ argsL.toArray v B ∧
      ∀ target, Steps p.tables e below (B.U.setTop { g with pc := g.pc + 3, stack := v.toList ++ rest }) target → Steps p.tables e below (T.setTop g) target := by
  obtain ⟨mk, methM, cM, hnamed, hmethM, -, -, -, -, -, -, hsigM⟩ := Cond.codeWith_spec hcode
  have hstatic : methM.isStatic = true := Cond.static_spec hnamed hmethM hstat
  obtain ⟨kP, hkP, -⟩ := className_of_methodNamed hnamed
  have hinitP : kP.init = .initialized := Cond.initialized_spec (findClass_of_methodNamed hnamed) hkP hinit
  obtain ⟨vm₁, X₁, hstep₁⟩ := X.invokestatic hexec hown hlink hnamed hmethM hstatic hkP hinitP hy (g := g) hg (argsL := argsL) (rest := rest) (hlen _ hsigM) hstack hdg
  obtain ⟨v, B, X', hpost, hsteps⟩ := hK m meth c ⟨T.setVm vm₁, locs, cells, slots⟩ { g with stack := rest } (.invokestatic index) mk argsL.toArray X₁ hg hsize hdg hW (X₁.named hnamed) (hpre vm₁ X₁.warmed)
  exact ⟨v, vm₁, B, X₁.warmed, X', hpost, fun target h => hstep₁ _ fun acts => by rw [doInvoke_state]; exact hsteps.trans h⟩
theorem vx_runSW {y : MethodName} {bytes cc : ByteArray} {maxL nL mc ms n index : Nat} {ret : Option FieldType} {hh : List (Nat × Nat × Nat × Nat)} {ws : List Cond} {rm : Room} {Pc : Array Value → State → Prop} {Qc : Array Value → State → Outcome → State → Prop} {free : Addr → Prop} {Ts : List Cond} {own : String} {As rest : List Value} {g : JFrame}
    (S : CallFix p m c cc nL s args Ts own) (hM : Met l y ws rm Pc Qc mc ms free) (cw : vx_CSW R s args own index y bytes maxL ret hh ws rm mc ms n) (hp : PreS s H Pc As)
    (hg : g.method = m) (hn : As.length = n) (hsize : g.locals.size = nL) (hstack : g.stack = As.reverse ++ rest) (hW : 2 * g.monitorRoom + (rest.map fun v => v.category).sum ≤ 8) (hdg : decode cc g.pc = .ok (.invokestatic index, 3)) (hf : cells + mc ≤ R.cells ∧ slots + ms ≤ R.slots) :
    va_Run p l e R s m args below meth c H locs cells slots mc ms g rest (Qc As.toArray) (free) := by
  obtain ⟨⟨hrc, hrs, hfr, hlo, hws, hcw⟩, hcode, hini, hy, hlen, hl, hstt⟩ := cw
  have hK : Back l R p e below s args y 3 8 (PreOf R mc ms Pc) (PostOf Qc mc ms free) := va_backW (hh := hh) (bytes := bytes) (maxL := maxL) (ret := ret) hM hp.1 hrc hrs hfr hlo hws hcw (fun a' U hW => word_at hW (Or.inl (by first | rfl | simp [Cond.onTables, Cond.keeps, Cond.steady])) hini)
  obtain ⟨hx, hb, hml, ho, -⟩ := S
  intro T hT X
  obtain ⟨v, vm₁, ⟨U', l2, c2, s2⟩, hW₁, X', ⟨g', mk, t, L, e1, e2, hq, h1, hL, h2, h3⟩, st⟩ := vx_callSW X hx (hh := hh) (bytes := bytes) (maxL := maxL) (ret := ret) ho hl hstt hini hcode hy hK hg (hsize.trans hml.symm) (argsL := As) (rest := rest) (fun sig h => hn.trans (hlen sig h)) hstack hW (by rw [hb]; exact hdg)
    (fun vm₁ hW₁ => ⟨hf.1, hf.2, hp.2 (T.setVm vm₁) hT hW₁⟩)
  dsimp only [Pt.U, Pt.locs, Pt.cells, Pt.slots] at X' e1 e2 h1 h2 h3 st
  subst h1; subst h2; subst h3
  exact ⟨v, (T.setVm vm₁).calling g' mk As.toArray, t, U', L, hT, X', hL, e1, e2, hq, st⟩
/-- not caught here, past rows that name other classes: it goes on to the caller -/
theorem vx_outP {p : Program} {l : Launch} {e : Env} {R : Room} {s : State} {m : MethodId} {args : Array Value} {below : List Frame} {meth : Method} {c : Code} {H : Heap} {locs : List Loc} {cells slots : Nat} {free : Addr → Prop} {ls : Array Slot} {rest : List Value} {Qc : Array Value → State → Outcome → State → Prop} {XC : String → State → State → Prop}
    {pc : Nat} {own E : String} {ce : Cell} {q : Addr} {mc ms : Nat} (hown : s.vm.findClass own = some m.cls) (hlocks : meth.locks = false)
    (hpass : ∀ z ∈ c.exceptionTable.toList, covers z pc = false ∨ (z.catchType ≠ 0 ∧ ∃ nm : String, (Cond.classLink own z.catchType nm).before args s = true ∧ va_Nc E nm s)) (hcell : H[q]? = some ce) (hv : ce.vm = .none) (hcl : s.vm.findClass E = some ce.cls)
    (hx : ∀ t : State, t.heap = H → s.vm.Alike t.vm → XC E s t) (hf : ∀ z ∈ locs, free z.base) (hc : cells ≤ mc) (hs : slots ≤ ms) :
    vx_W p l e R s m args below meth c H locs cells slots (vx_MQ below Qc XC args s mc ms free) (F0 m pc ls rest) q := by
  intro T hT X
  have hpl : e.platform.magicAccessors = ({} : Platform).magicAccessors := by rw [X.admits.platform]
  obtain ⟨vm', hW', X', st⟩ := X.outThrough hlocks q (g := F0 m pc ls rest) rfl rfl rfl (cell := ce) (by rw [hT]; exact hcell) (by rw [hv]; rfl)
    (by obtain ⟨k9, h9, -⟩ := Vm.findClass_spec hcl; exact ⟨k9, h9⟩) (fun z hz => by
      rcases hpass z hz with h | ⟨hz0, nm, hl1, hn1⟩
      · exact Or.inl h
      · obtain ⟨c6, hc6, hcl6⟩ := Cond.classLink_spec hown hl1 e.platform hpl
        obtain ⟨a8, b8, h1, h2, h3⟩ := hn1
        cases Option.some.inj (h1.symm.trans hcl)
        cases Option.some.inj (h2.symm.trans hc6)
        exact Or.inr ⟨hz0, _, hcl6, h3⟩)
  obtain ⟨g₀, hfr⟩ := X'.frames_eq
  have hcell9 : ((T.setVm vm').setFrames (.throwing q :: below)).heap[q]? = some ce := by
    show T.heap[q]? = some ce
    rw [hT]; exact hcell
  have hend : Ended ((T.setVm vm').setFrames (.throwing q :: below)) below (.threw q) := State.frames_setFrames _ (State.cur_lt_of_frames hfr)
  refine ⟨(T.setVm vm').setFrames (.throwing q :: below), ?_, .threw q, X'.here.running, hend, Or.inr ⟨q, rfl, E, ce, locs, hx _ hT (X'.ends _).1.alike, hcell9, hv, hcl, (X'.ends _).1, (X'.ends _).2.mono hc hs, hf⟩⟩
  rw [X.pushThrowing_eq]
  exact st
/-- a thing of a world lies in the heap -/
theorem vx_lt {D : va_G} {cl : List vw_C} {ws : va_W} {H1 : Heap} (h : va_P D cl ws H1) {k : Nat} {q : Nat × va_E} (hk : ws[k]? = some q) : q.1 < H1.size := (h k q hk).lt
end VXS
/-! ===== END ===== -/
/-! ===== BEGIN methods with a table of their own: called by a name, returning or throwing ===== -/
section VXH
/-! vx_backW, vx_callVX, vx_callSX, vx_callVW, vx_runVW, vx_runVX, vx_runSX, vx_ofWH follow the same proofs as their sisters above (Free/Laws.lean, Shelf42/LK1.lean); vx_outP calls Shelf42/NT130.lean (outThrough). -/
section
variable {l : Launch} {R : Room} {p : Program} {e : Env} {below : List Frame} {s : State} {sargs : Array Value} {y : MethodName} {len W9 : Nat}
theorem vx_backW {ws : List Cond} {rm : Room} {Pc : Array Value → State → Prop} {Qc : Array Value → State → Outcome → State → Prop} {XC : String → State → State → Prop} {mc ms : Nat} {free : Addr → Prop} {bytes : ByteArray} {maxL : Nat} {ret : Option FieldType} {hh : List (Nat × Nat × Nat × Nat)}
    (hM : vx_Met l y ws rm Pc Qc XC mc ms free) (hblind : FrameBlind Pc) (hrc : rm.cells = mc) (hrs : rm.slots = ms)
    (hframes : rm.frames + 1 ≤ R.frames) (hlocals : W9 + (maxL + 11) + rm.locals ≤ R.locals)
    (hws : ∀ w ∈ ws, ∀ a' U, s.WarmedH U.vm → w.before a' U = true) (hcode : Cond.codeWith y bytes maxL ret hh ∈ ws) (hinit : ∀ a' U, s.WarmedH U.vm → (Cond.initialized y.cls).before a' U = true) :
    vx_Back l R p e below s sargs y len W9 (PreOf R mc ms Pc) (PostOf Qc mc ms free) (vx_Post XC mc ms free) := by
  intro m meth c A g ig mk a X hg hsize hdg hW hn hp
  have h1 : (headSpec ws rm).pre.before a A.U = true := atoms_intro fun w hw => hws w hw _ _ X.warmed
  have h2 : (Cond.codeWith y bytes maxL ret hh).before a A.U = true := hws _ hcode _ _ X.warmed
  have h3 : (Cond.initialized y.cls).before a A.U = true := hinit _ _ X.warmed
  have h4 : A.cells + (headSpec ws rm).room.cells ≤ R.cells := by rw [show (headSpec ws rm).room.cells = mc from hrc]; exact hp.1
  have h5 : A.slots + (headSpec ws rm).room.slots ≤ R.slots := by rw [show (headSpec ws rm).room.slots = ms from hrs]; exact hp.2.1
  have hPc : Pc a (A.U.calling g mk a) := hblind _ _ _ _ hp.2.2
  obtain ⟨U, Ls, c0, s0⟩ := A
  dsimp only [Pt.U, Pt.locs, Pt.cells, Pt.slots] at h1 h2 h3 h4 h5 X hn hPc ⊢
  obtain ⟨m9, methY, cY, hn9, hmY, hcY, -, hlY, -⟩ := Cond.codeWith_spec h2
  cases Option.some.inj (hn9.symm.trans hn)
  obtain ⟨kY, hkY, -⟩ := className_of_methodNamed hn
  have hinitY : kY.init = .initialized := Cond.initialized_spec (findClass_of_methodNamed hn) hkY h3
  have h : At U g.method c below := by rw [hg]; exact X.here
  have hlocals9 : W9 + (maxL + 11) + (headSpec ws rm).room.locals ≤ R.locals := hlocals
  have happ : (headSpec ws rm).appliesLoose y e.platform (U.calling g mk a) = true :=
    Spec.appliesLoose_calling (g := g) h hdg hn hkY hinitY
      (X.room_calling (g := g) (R' := (headSpec ws rm).room) hsize hmY hcY hframes (by rw [hlY]; omega) h4 h5) h1
  obtain ⟨mid, hmid⟩ := h.above
  have hfr : (U.setTop g).frames = (.java g :: mid) ++ below := by rw [State.frames_setTop' g h.top, hmid]; rfl
  obtain ⟨o, s₂, hsteps, -, hend, hq⟩ := Steps.callFree hM p X.admits X.cas X.clock (acts := []) hfr happ hPc trivial
  have hq' : vx_Q Qc XC mc ms free a (U.calling g mk a) o s₂ := hq
  rw [State.frames_setTop' g h.top] at hend
  obtain ⟨g₀, hg0⟩ := Option.isSome_iff_exists.mp h.top
  obtain ⟨r, hr⟩ := State.topJava?_eq_some.mp hg0
  have hr' : (({ U with heap := s₂.heap, slotsUsed := s₂.slotsUsed } : State).setVm s₂.vm).frames = .java g₀ :: r := hr
  rcases hq' with ⟨hqc, L, hfe, hL⟩ | ⟨q, rfl, E, ce, L, hx, hce, hcv, hcl, hW₂, hsm, hL⟩
  · obtain ⟨⟨v, rfl⟩, hW₂, e2, q2, q3, q4, q5, q6⟩ := id hfe
    have e3 : s₂ = ({ (U.calling g mk a).setFrames s₂.frames with heap := s₂.heap, slotsUsed := s₂.slotsUsed } : State).setVm s₂.vm := by
      have : s₂ = ({ s₂ with vm := (U.calling g mk a).vm } : State).setVm s₂.vm := rfl
      rw [e2] at this
      exact this
    obtain ⟨c₂, i₂, len₂, hc₂, hd₂, hf₂⟩ := hend
    have hW' : U.WarmedH s₂.vm := hW₂
    have hcc : c₂ = c := by
      have h1 : s₂.code? g.method = U.code? g.method := by
        rw [State.code?_eq, State.code?_eq, hW'.alike.method?]
      exact Option.some.inj (hc₂.symm.trans (h1.trans h.code))
    subst hcc
    have hlen : len₂ = len := by rw [hdg] at hd₂; cases hd₂; rfl
    subst hlen
    have hs₂ : s₂ = (({ U with heap := s₂.heap, slotsUsed := s₂.slotsUsed } : State).setVm s₂.vm).setTop { g with pc := g.pc + len₂, stack := v.toList ++ g.stack } := by
      refine e3.trans ?_
      rw [hf₂, State.calling_eq h.top, State.setFrames_setFrames, State.setTop_of_frames _ hr', hr]
      rfl
    have hsame : U.sameButNew ({ U with heap := s₂.heap, slotsUsed := s₂.slotsUsed } : State) L mc ms := by
      refine ⟨?_, q2, q3, q4, q5, q6⟩
      obtain ⟨t, ht, -⟩ := State.frames_cons hr
      show ({ U with heap := s₂.heap, slotsUsed := s₂.slotsUsed } : State) = { U.setFrames U.frames with heap := s₂.heap, slotsUsed := s₂.slotsUsed }
      rw [State.setFrames_self ht]
    subst hg
    refine Or.inl ⟨v, ⟨(({ U with heap := s₂.heap, slotsUsed := s₂.slotsUsed } : State).setVm s₂.vm), Ls ++ L, c0 + mc, s0 + ms⟩,
      ⟨X.admits, X.cas, X.clock, X.frames, X.room, X.hears, X.method, X.code, (X.here.setHeapUsed s₂.heap s₂.slotsUsed).setVm hW'.alike, X.tail, State.WarmedH.trans X.warmed hW', X.limits, X.bytes, X.same.trans (hsame.setVm s.vm)⟩,
      ⟨g, mk, s₂, L, rfl, rfl, hqc, rfl, hL, rfl, rfl⟩, ?_⟩
    show Steps p.tables e below _ ((({ U with heap := s₂.heap, slotsUsed := s₂.slotsUsed } : State).setVm s₂.vm).setTop { g with pc := g.pc + len₂, stack := v.toList ++ g.stack })
    rw [← hs₂]
    exact hsteps
  · obtain ⟨e2, q2, q3, q4, q5, q6⟩ := id hsm
    have e3 : s₂ = ({ (U.calling g mk a).setFrames s₂.frames with heap := s₂.heap, slotsUsed := s₂.slotsUsed } : State).setVm s₂.vm := by
      have : s₂ = ({ s₂ with vm := (U.calling g mk a).vm } : State).setVm s₂.vm := rfl
      rw [e2] at this
      exact this
    have hf₂ : s₂.frames = .throwing q :: .java g :: U.frames.tail := hend
    have hW' : U.WarmedH s₂.vm := hW₂
    have hs₂ : s₂ = ((({ U with heap := s₂.heap, slotsUsed := s₂.slotsUsed } : State).setVm s₂.vm).setTop g).pushFrame (.throwing q) := by
      refine e3.trans ?_
      rw [hf₂, State.calling_eq h.top, State.setFrames_setFrames, State.pushFrame, State.frames_setTop _ hr', State.setTop_of_frames _ hr', State.setFrames_setFrames, hr]
      rfl
    have hsame : U.sameButNew ({ U with heap := s₂.heap, slotsUsed := s₂.slotsUsed } : State) L mc ms := by
      refine ⟨?_, q2, q3, q4, q5, q6⟩
      obtain ⟨t, ht, -⟩ := State.frames_cons hr
      show ({ U with heap := s₂.heap, slotsUsed := s₂.slotsUsed } : State) = { U.setFrames U.frames with heap := s₂.heap, slotsUsed := s₂.slotsUsed }
      rw [State.setFrames_self ht]
    subst hg
    refine Or.inr ⟨q, ⟨(({ U with heap := s₂.heap, slotsUsed := s₂.slotsUsed } : State).setVm s₂.vm), Ls ++ L, c0 + mc, s0 + ms⟩,
      ⟨X.admits, X.cas, X.clock, X.frames, X.room, X.hears, X.method, X.code, (X.here.setHeapUsed s₂.heap s₂.slotsUsed).setVm hW'.alike, X.tail, State.WarmedH.trans X.warmed hW', X.limits, X.bytes, X.same.trans (hsame.setVm s.vm)⟩,
      ⟨g, mk, s₂, L, E, ce, rfl, rfl, hx, hce, hcv, hcl, rfl, hL, rfl, rfl⟩, ?_⟩
    show Steps p.tables e below _ (((({ U with heap := s₂.heap, slotsUsed := s₂.slotsUsed } : State).setVm s₂.vm).setTop g).pushFrame (.throwing q))
    rw [← hs₂]
    exact hsteps
end
variable {p : Program} {l : Launch} {e : Env} {R : Room} {s : State} {m : MethodId} {args : Array Value} {below : List Frame} {meth : Method} {c : Code} {T : State} {H : Heap} {locs : List Loc} {cells slots : Nat}
theorem vx_callVX (X : Stand p l e R s m args below meth c T locs cells slots) (hexec : p.tables.exec = Jvm.exec) {own C : String} {index : Nat} {y : MethodName} {bytes : ByteArray} {maxL : Nat} {ret : Option FieldType} {hh : List (Nat × Nat × Nat × Nat)}
    (hown : s.vm.findClass own = some m.cls) (hlink : (Cond.methodLink own index y).before args s = true) (hinst : (Cond.instanceMethod y).before args s = true) (hsel : (Cond.selects C y y).before args s = true)
    (hcode : (Cond.codeWith y bytes maxL ret hh).before args s = true) (hy : y.cls ≠ "java/lang/invoke/MethodHandle" ∧ y.cls ≠ "java/lang/invoke/VarHandle")
    {W9 : Nat} {Pre : Pt → Array Value → Prop} {Post : Pt → Array Value → Option Value → Pt → Prop} {PostX : Pt → Array Value → Addr → Pt → Prop} (hK : vx_Back l R p e below s args y 3 W9 Pre Post PostX)
    {b : Addr} {cellB : Cell} (hcell : T.heap[b]? = some cellB) (hobj : cellB.vm.isStatics = false) (hcls : s.vm.findClass C = some cellB.cls)
    {g : JFrame} (hg : g.method = m) (hsize : g.locals.size = c.maxLocals) {argsL rest : List Value} (hlen : ∀ sig, parseMethodDescriptor y.desc = some sig → argsL.length = sig.parameters.length)
    (hstack : g.stack = argsL.reverse ++ .ref b :: rest) (hW : 2 * g.monitorRoom + (rest.map fun v => v.category).sum ≤ W9) (hdg : decode c.code g.pc = .ok (.invokevirtual index, 3))
    (hpre : ∀ vm₁, s.WarmedH vm₁ → Pre ⟨T.setVm vm₁, locs, cells, slots⟩ (Value.ref b :: argsL).toArray) :
    (∃ (v : Option Value) (vm₁ : Vm) (B : Pt), s.WarmedH vm₁ ∧ Stand p l e R s m args below meth c B.U B.locs B.cells B.slots ∧ Post ⟨T.setVm vm₁, locs, cells, slots⟩ (Value.ref b :: argsL).toArray v B ∧
      ∀ target, Steps p.tables e below (B.U.setTop { g with pc := g.pc + 3, stack := v.toList ++ rest }) target → Steps p.tables e below (T.setTop g) target) ∨
    (∃ (q : Addr) (vm₁ : Vm) (B : Pt), s.WarmedH vm₁ ∧ Stand p l e R s m args below meth c B.U B.locs B.cells B.slots ∧ PostX ⟨T.setVm vm₁, locs, cells, slots⟩ (Value.ref b :: argsL).toArray q B ∧
      Steps p.tables e below (T.setTop g) ((B.U.setTop { g with stack := rest }).pushFrame (.throwing q))) := by
  obtain ⟨mk, methM, hnamed, hmethM, hstM, habM⟩ := Cond.instanceMethod_spec hinst
  obtain ⟨m8, methM', cM, hn8, hmethM', -, -, -, -, -, -, hsigM⟩ := Cond.codeWith_spec hcode
  cases Option.some.inj (hn8.symm.trans hnamed)
  cases hmethM.symm.trans hmethM'
  obtain ⟨c2, r2, m2, q1, q2, q3, q4, kP, hkP, hkPi⟩ := Cond.selects_spec hsel
  cases hcls.symm.trans q1
  cases (State.methodFound?_of_named hnamed hy).symm.trans q2
  cases hnamed.symm.trans q3
  have hselP : selectMethod e.platform s.vm cellB.cls mk = .method mk := by rw [Launch.admits_selectMethod X.admits]; exact q4
  obtain ⟨vm₁, X₁, hstep₁⟩ := X.invokevirtual hexec hown hlink hnamed hmethM hstM hkP hkPi hy (a := b) (cell := cellB) hcell
    (fun z h => by rw [h] at hobj; cases hobj) hselP hmethM habM hkP hkPi (g := g) hg (argsL := argsL) (rest := rest) (hlen _ hsigM) hstack hdg
  rcases hK m meth c ⟨T.setVm vm₁, locs, cells, slots⟩ { g with stack := rest } (.invokevirtual index) mk (Value.ref b :: argsL).toArray X₁ hg hsize hdg hW (X₁.named hnamed) (hpre vm₁ X₁.warmed) with ⟨v, B, X', hpost, hsteps⟩ | ⟨q, B, X', hpost, hsteps⟩
  · exact Or.inl ⟨v, vm₁, B, X₁.warmed, X', hpost, fun target h => hstep₁ _ fun acts => by rw [doInvoke_state]; exact hsteps.trans h⟩
  · exact Or.inr ⟨q, vm₁, B, X₁.warmed, X', hpost, hstep₁ _ fun acts => by rw [doInvoke_state]; exact hsteps⟩
theorem vx_callSX (X : Stand p l e R s m args below meth c T locs cells slots) (hexec : p.tables.exec = Jvm.exec) {own : String} {index : Nat} {y : MethodName} {bytes : ByteArray} {maxL : Nat} {ret : Option FieldType} {hh : List (Nat × Nat × Nat × Nat)}
    (hown : s.vm.findClass own = some m.cls) (hlink : (Cond.methodLink own index y).before args s = true) (hstat : (Cond.static y).before args s = true) (hinit : (Cond.initialized y.cls).before args s = true)
    (hcode : (Cond.codeWith y bytes maxL ret hh).before args s = true) (hy : y.cls ≠ "java/lang/invoke/MethodHandle" ∧ y.cls ≠ "java/lang/invoke/VarHandle")
    {W9 : Nat} {Pre : Pt → Array Value → Prop} {Post : Pt → Array Value → Option Value → Pt → Prop} {PostX : Pt → Array Value → Addr → Pt → Prop} (hK : vx_Back l R p e below s args y 3 W9 Pre Post PostX)
    {g : JFrame} (hg : g.method = m) (hsize : g.locals.size = c.maxLocals) {argsL rest : List Value} (hlen : ∀ sig, parseMethodDescriptor y.desc = some sig → argsL.length = sig.parameters.length)
    (hstack : g.stack = argsL.reverse ++ rest) (hW : 2 * g.monitorRoom + (rest.map fun v => v.category).sum ≤ W9) (hdg : decode c.code g.pc = .ok (.invokestatic index, 3))
    (hpre : ∀ vm₁, s.WarmedH vm₁ → Pre ⟨T.setVm vm₁, locs, cells, slots⟩ argsL.toArray) :
    (∃ (v : Option Value) (vm₁ : Vm) (B : Pt), s.WarmedH vm₁ ∧ Stand p l e R s m args below meth c B.U B.locs B.cells B.slots ∧ Post ⟨T.setVm vm₁, locs, cells, slots⟩ argsL.toArray v B ∧
      ∀ target, Steps p.tables e below (B.U.setTop { g with pc := g.pc + 3, stack := v.toList ++ rest }) target → Steps p.tables e below (T.setTop g) target) ∨
    (∃ (q : Addr) (vm₁ : Vm) (B : Pt), s.WarmedH vm₁ ∧ Stand p l e R s m args below meth c B.U B.locs B.cells B.slots ∧ PostX ⟨T.setVm vm₁, locs, cells, slots⟩ argsL.toArray q B ∧
      Steps p.tables e below (T.setTop g) ((B.U.setTop { g with stack := rest }).pushFrame (.throwing q))) := by
  obtain ⟨mk, methM, cM, hnamed, hmethM, -, -, -, -, -, -, hsigM⟩ := Cond.codeWith_spec hcode
  have hstatic : methM.isStatic = true := Cond.static_spec hnamed hmethM hstat
  obtain ⟨kP, hkP, -⟩ := className_of_methodNamed hnamed
  have hinitP : kP.init = .initialized := Cond.initialized_spec (findClass_of_methodNamed hnamed) hkP hinit
  obtain ⟨vm₁, X₁, hstep₁⟩ := X.invokestatic hexec hown hlink hnamed hmethM hstatic hkP hinitP hy (g := g) hg (argsL := argsL) (rest := rest) (hlen _ hsigM) hstack hdg
  rcases hK m meth c ⟨T.setVm vm₁, locs, cells, slots⟩ { g with stack := rest } (.invokestatic index) mk argsL.toArray X₁ hg hsize hdg hW (X₁.named hnamed) (hpre vm₁ X₁.warmed) with ⟨v, B, X', hpost, hsteps⟩ | ⟨q, B, X', hpost, hsteps⟩
  · exact Or.inl ⟨v, vm₁, B, X₁.warmed, X', hpost, fun target h => hstep₁ _ fun acts => by rw [doInvoke_state]; exact hsteps.trans h⟩
  · exact Or.inr ⟨q, vm₁, B, X₁.warmed, X', hpost, hstep₁ _ fun acts => by rw [doInvoke_state]; exact hsteps⟩
theorem vx_callVW (X : Stand p l e R s m args below meth c T locs cells slots) (hexec : p.tables.exec = Jvm.exec) {own C : String} {index : Nat} {y : MethodName} {bytes : ByteArray} {maxL : Nat} {ret : Option FieldType} {hh : List (Nat × Nat × Nat × Nat)}
    (hown : s.vm.findClass own = some m.cls) (hlink : (Cond.methodLink own index y).before args s = true) (hinst : (Cond.instanceMethod y).before args s = true) (hsel : (Cond.selects C y y).before args s = true)
    (hcode : (Cond.codeWith y bytes maxL ret hh).before args s = true) (hy : y.cls ≠ "java/lang/invoke/MethodHandle" ∧ y.cls ≠ "java/lang/invoke/VarHandle")
    {W9 : Nat} {Pre : Pt → Array Value → Prop} {Post : Pt → Array Value → Option Value → Pt → Prop} (hK : Back l R p e below s args y 3 W9 Pre Post)
    {b : Addr} {cellB : Cell} (hcell : T.heap[b]? = some cellB) (hobj : cellB.vm.isStatics = false) (hcls : s.vm.findClass C = some cellB.cls)
    {g : JFrame} (hg : g.method = m) (hsize : g.locals.size = c.maxLocals) {argsL rest : List Value} (hlen : ∀ sig, parseMethodDescriptor y.desc = some sig → argsL.length = sig.parameters.length)
    (hstack : g.stack = argsL.reverse ++ .ref b :: rest) (hW : 2 * g.monitorRoom + (rest.map fun v => v.category).sum ≤ W9) (hdg : decode c.code g.pc = .ok (.invokevirtual index, 3))
    (hpre : ∀ vm₁, s.WarmedH vm₁ → Pre ⟨T.setVm vm₁, locs, cells, slots⟩ (Value.ref b :: argsL).toArray) :
    ∃ (v : Option Value) (vm₁ : Vm) (B : Pt), s.WarmedH vm₁ ∧ Stand p l e R s m args below meth c B.U B.locs B.cells B.slots ∧ Post ⟨T.setVm vm₁, locs, cells, slots⟩ (Value.ref b :: argsL).toArray v B ∧
      ∀ target, Steps p.tables e below (B.U.setTop { g with pc := g.pc + 3, stack := v.toList ++ rest }) target → Steps p.tables e below (T.setTop g) target := by
  obtain ⟨mk, methM, hnamed, hmethM, hstM, habM⟩ := Cond.instanceMethod_spec hinst
  obtain ⟨m8, methM', cM, hn8, hmethM', -, -, -, -, -, -, hsigM⟩ := Cond.codeWith_spec hcode
  cases Option.some.inj (hn8.symm.trans hnamed)
  cases hmethM.symm.trans hmethM'
  obtain ⟨c2, r2, m2, q1, q2, q3, q4, kP, hkP, hkPi⟩ := Cond.selects_spec hsel
  cases hcls.symm.trans q1
  cases (State.methodFound?_of_named hnamed hy).symm.trans q2
  cases hnamed.symm.trans q3
  have hselP : selectMethod e.platform s.vm cellB.cls mk = .method mk := by rw [Launch.admits_selectMethod X.admits]; exact q4
  obtain ⟨vm₁, X₁, hstep₁⟩ := X.invokevirtual hexec hown hlink hnamed hmethM hstM hkP hkPi hy (a := b) (cell := cellB) hcell
    (fun z h => by rw [h] at hobj; cases hobj) hselP hmethM habM hkP hkPi (g := g) hg (argsL := argsL) (rest := rest) (hlen _ hsigM) hstack hdg
  obtain ⟨v, B, X', hpost, hsteps⟩ := hK m meth c ⟨T.setVm vm₁, locs, cells, slots⟩ { g with stack := rest } (.invokevirtual index) mk (Value.ref b :: argsL).toArray X₁ hg hsize hdg hW (X₁.named hnamed) (hpre vm₁ X₁.warmed)
  exact ⟨v, vm₁, B, X₁.warmed, X', hpost, fun target h => hstep₁ _ fun acts => by rw [doInvoke_state]; exact hsteps.trans h⟩
abbrev vx_CVW (R : Room) (s : State) (args : Array Value) (own C : String) (index : Nat) (y : MethodName) (bytes : ByteArray) (maxL : Nat) (ret : Option FieldType) (hh : List (Nat × Nat × Nat × Nat)) (ws : List Cond) (rm : Room) (mc ms n : Nat) : Prop :=
  (rm.cells = mc ∧ rm.slots = ms ∧ rm.frames + 1 ≤ R.frames ∧ 8 + (maxL + 11) + rm.locals ≤ R.locals ∧ (∀ w ∈ ws, ∀ (a' : Array Value) (U : State), s.WarmedH U.vm → w.before a' U = true) ∧ Cond.codeWith y bytes maxL ret hh ∈ ws) ∧
  (Cond.codeWith y bytes maxL ret hh).before args s = true ∧ (Cond.initialized y.cls).before args s = true ∧ (y.cls ≠ "java/lang/invoke/MethodHandle" ∧ y.cls ≠ "java/lang/invoke/VarHandle") ∧
  (∀ sig, parseMethodDescriptor y.desc = some sig → n = sig.parameters.length) ∧ (Cond.methodLink own index y).before args s = true ∧ (Cond.instanceMethod y).before args s = true ∧ (Cond.selects C y y).before args s = true
theorem vx_cwVW {own C : String} {index maxL mc ms : Nat} {y : MethodName} {bytes : ByteArray} {ret : Option FieldType} {hh : List (Nat × Nat × Nat × Nat)} {Ts ws ws' : List Cond} {rm : Room} (n : Nat) (ht : ∀ w ∈ Ts, w.before args s = true) (hT : GoodIn Ts (wsV own index C y ws)) (hw : ws = Cond.codeWith y bytes maxL ret hh :: ws') (hrc : rm.cells = mc) (hrs : rm.slots = ms)
    (hd : y.cls = C ∧ y.cls ≠ "java/lang/invoke/MethodHandle" ∧ y.cls ≠ "java/lang/invoke/VarHandle" ∧ (parseMethodDescriptor y.desc).map (fun d => d.parameters.length) = some n) (hR : rm.frames + 1 ≤ R.frames ∧ 8 + (maxL + 11) + rm.locals ≤ R.locals) :
    vx_CVW R s args own C index y bytes maxL ret hh ws rm mc ms n := by
  obtain ⟨hC, hd⟩ := hd
  subst hC
  have ok : ∀ w ∈ wsV own index y.cls y ws, w.before args s = true := fun w h => ht w (hT w h).1
  have hG : GoodIn Ts ws := fun w h => hT w (by unfold wsV; exact List.mem_append_right _ h)
  have hc : Cond.codeWith y bytes maxL ret hh ∈ ws := by rw [hw]; exact List.mem_cons_self
  refine ⟨⟨hrc, hrs, hR.1, hR.2, pay_in ht hG, hc⟩, ht _ (hG _ hc).1, ok _ (by simp [wsV]), ⟨hd.1, hd.2.1⟩, fun sig h => ?_, ok _ (by simp [wsV]), ok _ (by simp [wsV]), ok _ (by simp [wsV])⟩
  have h2 := hd.2.2
  rw [h] at h2
  exact (Option.some.inj h2).symm
theorem vx_runVW {y : MethodName} {bytes cc : ByteArray} {maxL nL mc ms n index : Nat} {ret : Option FieldType} {hh : List (Nat × Nat × Nat × Nat)} {ws : List Cond} {rm : Room} {Pc : Array Value → State → Prop} {Qc : Array Value → State → Outcome → State → Prop} {free : Addr → Prop} {Ts : List Cond} {own C : String} {b : Addr} {As rest : List Value} {g : JFrame}
    (S : CallFix p m c cc nL s args Ts own) (hM : Met l y ws rm Pc Qc mc ms free) (cw : vx_CVW R s args own C index y bytes maxL ret hh ws rm mc ms n) (hp : PreV s H C b Pc As)
    (hg : g.method = m) (hn : As.length = n) (hsize : g.locals.size = nL) (hstack : g.stack = As.reverse ++ .ref b :: rest) (hW : 2 * g.monitorRoom + (rest.map fun v => v.category).sum ≤ 8) (hdg : decode cc g.pc = .ok (.invokevirtual index, 3)) (hf : cells + mc ≤ R.cells ∧ slots + ms ≤ R.slots) :
    va_Run p l e R s m args below meth c H locs cells slots mc ms g rest (Qc (Value.ref b :: As).toArray) free := by
  obtain ⟨⟨hrc, hrs, hfr, hlo, hws, hcw⟩, hcode, hini, hy, hlen, hl, hin, hse⟩ := cw
  have hK : Back l R p e below s args y 3 8 (PreOf R mc ms Pc) (PostOf Qc mc ms free) := va_backW (hh := hh) (bytes := bytes) (maxL := maxL) (ret := ret) hM hp.1 hrc hrs hfr hlo hws hcw (fun a' U hW => word_at hW (Or.inl (by first | rfl | simp [Cond.onTables, Cond.keeps, Cond.steady])) hini)
  obtain ⟨hx, hb, hml, ho, -⟩ := S
  obtain ⟨-, ⟨cellB, hcB, hoB, hclB⟩, hPc⟩ := hp
  intro T hT X
  obtain ⟨v, vm₁, ⟨U', l2, c2, s2⟩, hW₁, X', ⟨g', mk, t, L, e1, e2, hq, h1, hL, h2, h3⟩, st⟩ := vx_callVW X hx (C := C) (hh := hh) (bytes := bytes) (maxL := maxL) (ret := ret) ho hl hin hse hcode hy hK (by rw [hT]; exact hcB) hoB hclB hg (hsize.trans hml.symm) (argsL := As) (rest := rest) (fun sig h => hn.trans (hlen sig h)) hstack hW (by rw [hb]; exact hdg)
    (fun vm₁ hW₁ => ⟨hf.1, hf.2, hPc (T.setVm vm₁) hT hW₁⟩)
  dsimp only [Pt.U, Pt.locs, Pt.cells, Pt.slots] at X' e1 e2 h1 h2 h3 st
  subst h1; subst h2; subst h3
  exact ⟨v, (T.setVm vm₁).calling g' mk (Value.ref b :: As).toArray, t, U', L, hT, X', hL, e1, e2, hq, st⟩
section
variable {y : MethodName} {bytes cc : ByteArray} {maxL nL mc ms n index : Nat} {ret : Option FieldType} {ws : List Cond} {rm : Room} {Pc : Array Value → State → Prop} {Qc : Array Value → State → Outcome → State → Prop} {XC : String → State → State → Prop} {free : Addr → Prop} {Ts : List Cond} {own C : String} {b : Addr} {As rest : List Value} {g : JFrame}
theorem vx_runVX {hh : List (Nat × Nat × Nat × Nat)} (S : CallFix p m c cc nL s args Ts own) (hM : vx_Met l y ws rm Pc Qc XC mc ms free) (cw : vx_CVW R s args own C index y bytes maxL ret hh ws rm mc ms n) (hp : PreV s H C b Pc As)
    (hg : g.method = m) (hn : As.length = n) (hsize : g.locals.size = nL) (hstack : g.stack = As.reverse ++ .ref b :: rest) (hW : 2 * g.monitorRoom + (rest.map fun v => v.category).sum ≤ 8) (hdg : decode cc g.pc = .ok (.invokevirtual index, 3)) (hf : cells + mc ≤ R.cells ∧ slots + ms ≤ R.slots) :
    vx_Run p l e R s m args below meth c H locs cells slots mc ms g rest (Qc (Value.ref b :: As).toArray) XC free := by
  obtain ⟨⟨hrc, hrs, hfr, hlo, hws, hcw⟩, hcode, hini, hy, hlen, hl, hin, hse⟩ := cw
  have hK : vx_Back l R p e below s args y 3 8 (PreOf R mc ms Pc) (PostOf Qc mc ms free) (vx_Post XC mc ms free) := vx_backW (hh := hh) (bytes := bytes) (maxL := maxL) (ret := ret) hM hp.1 hrc hrs hfr hlo hws hcw (fun a' U hW => word_at hW (Or.inl (by first | rfl | simp [Cond.onTables, Cond.keeps, Cond.steady])) hini)
  obtain ⟨hx, hb, hml, ho, -⟩ := S
  obtain ⟨-, ⟨cellB, hcB, hoB, hclB⟩, hPc⟩ := hp
  intro T hT X
  rcases vx_callVX X hx (C := C) (hh := hh) (bytes := bytes) (maxL := maxL) (ret := ret) ho hl hin hse hcode hy hK (by rw [hT]; exact hcB) hoB hclB hg (hsize.trans hml.symm) (argsL := As) (rest := rest) (fun sig h => hn.trans (hlen sig h)) hstack hW (by rw [hb]; exact hdg)
    (fun vm₁ hW₁ => ⟨hf.1, hf.2, hPc (T.setVm vm₁) hT hW₁⟩) with ⟨v, vm₁, ⟨U', l2, c2, s2⟩, hW₁, X', ⟨g', mk, t, L, e1, e2, hq, h1, hL, h2, h3⟩, st⟩ | ⟨q, vm₁, ⟨U', l2, c2, s2⟩, hW₁, X', ⟨g', mk, t, L, E, ce, e1, e2, hq, hce, hcv, hcl, h1, hL, h2, h3⟩, st⟩
  · dsimp only [Pt.U, Pt.locs, Pt.cells, Pt.slots] at X' e1 e2 h1 h2 h3 st
    subst h1; subst h2; subst h3
    exact Or.inl ⟨v, (T.setVm vm₁).calling g' mk (Value.ref b :: As).toArray, t, U', L, hT, X', hL, e1, e2, hq, st⟩
  · dsimp only [Pt.U, Pt.locs, Pt.cells, Pt.slots] at X' e1 e2 h1 h2 h3 st hcl
    subst h1; subst h2; subst h3
    exact Or.inr ⟨q, (T.setVm vm₁).calling g' mk (Value.ref b :: As).toArray, t, U', L, E, ce, hT, X', hL, e1, e2, hq, hce, hcv, vx_cls hW₁ hcl, st⟩
theorem vx_runSX {hh : List (Nat × Nat × Nat × Nat)} (S : CallFix p m c cc nL s args Ts own) (hM : vx_Met l y ws rm Pc Qc XC mc ms free) (cw : vx_CSW R s args own index y bytes maxL ret hh ws rm mc ms n) (hp : PreS s H Pc As)
    (hg : g.method = m) (hn : As.length = n) (hsize : g.locals.size = nL) (hstack : g.stack = As.reverse ++ rest) (hW : 2 * g.monitorRoom + (rest.map fun v => v.category).sum ≤ 8) (hdg : decode cc g.pc = .ok (.invokestatic index, 3)) (hf : cells + mc ≤ R.cells ∧ slots + ms ≤ R.slots) :
    vx_Run p l e R s m args below meth c H locs cells slots mc ms g rest (Qc As.toArray) XC free := by
  obtain ⟨⟨hrc, hrs, hfr, hlo, hws, hcw⟩, hcode, hini, hy, hlen, hl, hstt⟩ := cw
  have hK : vx_Back l R p e below s args y 3 8 (PreOf R mc ms Pc) (PostOf Qc mc ms free) (vx_Post XC mc ms free) := vx_backW (hh := hh) (bytes := bytes) (maxL := maxL) (ret := ret) hM hp.1 hrc hrs hfr hlo hws hcw (fun a' U hW => word_at hW (Or.inl (by first | rfl | simp [Cond.onTables, Cond.keeps, Cond.steady])) hini)
  obtain ⟨hx, hb, hml, ho, -⟩ := S
  intro T hT X
  rcases vx_callSX X hx (hh := hh) (bytes := bytes) (maxL := maxL) (ret := ret) ho hl hstt hini hcode hy hK hg (hsize.trans hml.symm) (argsL := As) (rest := rest) (fun sig h => hn.trans (hlen sig h)) hstack hW (by rw [hb]; exact hdg)
    (fun vm₁ hW₁ => ⟨hf.1, hf.2, hp.2 (T.setVm vm₁) hT hW₁⟩) with ⟨v, vm₁, ⟨U', l2, c2, s2⟩, hW₁, X', ⟨g', mk, t, L, e1, e2, hq, h1, hL, h2, h3⟩, st⟩ | ⟨q, vm₁, ⟨U', l2, c2, s2⟩, hW₁, X', ⟨g', mk, t, L, E, ce, e1, e2, hq, hce, hcv, hcl, h1, hL, h2, h3⟩, st⟩
  · dsimp only [Pt.U, Pt.locs, Pt.cells, Pt.slots] at X' e1 e2 h1 h2 h3 st
    subst h1; subst h2; subst h3
    exact Or.inl ⟨v, (T.setVm vm₁).calling g' mk As.toArray, t, U', L, hT, X', hL, e1, e2, hq, st⟩
  · dsimp only [Pt.U, Pt.locs, Pt.cells, Pt.slots] at X' e1 e2 h1 h2 h3 st hcl
    subst h1; subst h2; subst h3
    exact Or.inr ⟨q, (T.setVm vm₁).calling g' mk As.toArray, t, U', L, E, ce, hT, X', hL, e1, e2, hq, hce, hcv, vx_cls hW₁ hcl, st⟩
end
end VXH
theorem vx_ofWH {l : Launch} {y : MethodName} {ws ws' : List Cond} {rm : Room} {Pc : Array Value → State → Prop} {Qc : Array Value → State → Outcome → State → Prop} {XC : String → State → State → Prop} {mc ms : Nat} {free : Addr → Prop} {cc : ByteArray} {maxL : Nat} {ret : Option FieldType} {hh : List (Nat × Nat × Nat × Nat)}
    (hy : plainName y.cls = true) (hw : ws = Cond.codeWith y cc maxL ret hh :: ws')
    (body : ∀ p e s m args below meth c s₁, BodyLoose p l y (headSpec ws rm) cc maxL ret e s m args below meth c s₁ → c.maxLocals = maxL → Pc args s →
      W p l e (headSpec ws rm).room s m args below meth c s.heap [] 0 0 (vx_MQ below Qc XC args s mc ms free) (entryFrame m args maxL)) : vx_Met l y ws rm Pc Qc XC mc ms free := by
  refine MetFree.of_bodyS (code := cc) (maxLocals := maxL) (ret := ret) hy ?_ ?_
  · intro args s m h hn
    obtain ⟨m9, meth, c, hn9, h1, h2, h3, h4, -, h5, h6, -⟩ := Cond.codeWith_spec (atoms_spec (ws := ws) h _ (by rw [hw]; exact List.mem_cons_self))
    cases hn.symm.trans hn9
    exact ⟨meth, c, h1, h2, h3, h4, h5, h6⟩
  · intro p e s m args below meth c s₁ B hml hP _
    have hh0 : s₁.heap = s.heap := by rw [B.state]; rfl
    obtain ⟨t, a1, o, b1, b2, b3⟩ := body p e s m args below meth c s₁ B hml hP s₁ hh0 (Stand.of_body B)
    exact ⟨t, o, a1, b1, b2, b3⟩
/-! ===== END ===== -/
end
section
def RX0 : String := "TypedColumns$Column"
def TX0 : u_T := fun k => match k with
  | 0 => ("TypedColumns$Column", "kind", "I", true)
  | 1 => ("TypedColumns$Column", "length", "I", true)
  | 2 => ("TypedColumns$Column", "wholes", "[J", true)
  | _ => ("TypedColumns$Column", "reals", "[D", true)
def tyX0 : Nat → FieldType := fun k => match k with
  | 0 => .int
  | 1 => .int
  | 2 => .array .long
  | _ => .array .double
abbrev wsX00 : List Cond := u_ws RX0 TX0 4
theorem nmX0 : ∀ a, a < 4 → ∀ b, b < 4 → a ≠ b → (TX0 a).2.1 ≠ (TX0 b).2.1 := by decide +kernel
theorem tyX0_ok : ∀ k, k < 4 → parseFieldDescriptor (TX0 k).2.2.1 = some (tyX0 k) := by decide +kernel
abbrev cX0_init : ByteArray := prog_2_method_1_code
def yX0_init : MethodName := ⟨RX0, "<init>", "(II)V"⟩
abbrev cX0_wholeAt : ByteArray := prog_2_method_2_code
def yX0_wholeAt : MethodName := ⟨RX0, "wholeAt", "(I)J"⟩
abbrev cX0_realAt : ByteArray := prog_2_method_3_code
def yX0_realAt : MethodName := ⟨RX0, "realAt", "(I)D"⟩
abbrev cX0_doubleAt : ByteArray := prog_2_method_4_code
def yX0_doubleAt : MethodName := ⟨RX0, "doubleAt", "(I)D"⟩
abbrev cX0_putWhole : ByteArray := prog_2_method_6_code
def yX0_putWhole : MethodName := ⟨RX0, "putWhole", "(IJ)V"⟩
abbrev cX0_putReal : ByteArray := prog_2_method_7_code
def yX0_putReal : MethodName := ⟨RX0, "putReal", "(ID)V"⟩
abbrev cX0_takeCells : ByteArray := prog_2_method_8_code
def yX0_takeCells : MethodName := ⟨RX0, "takeCells", "(LTypedColumns$Column;III)V"⟩
abbrev cX0_takeWidened : ByteArray := prog_2_method_9_code
def yX0_takeWidened : MethodName := ⟨RX0, "takeWidened", "(LTypedColumns$Column;)V"⟩
abbrev cX0_sum : ByteArray := prog_2_method_10_code
def yX0_sum : MethodName := ⟨RX0, "sum", "()D"⟩
def RX1 : String := "TypedColumns$DoubleBits"
def TX1 : u_T := fun k => match k with
  | _ => ("TypedColumns$DoubleBits", "powers", "[D", true)
def tyX1 : Nat → FieldType := fun k => match k with
  | _ => .array .double
abbrev wsX10 : List Cond := u_ws RX1 TX1 1
theorem nmX1 : ∀ a, a < 1 → ∀ b, b < 1 → a ≠ b → (TX1 a).2.1 ≠ (TX1 b).2.1 := by decide +kernel
theorem tyX1_ok : ∀ k, k < 1 → parseFieldDescriptor (TX1 k).2.2.1 = some (tyX1 k) := by decide +kernel
abbrev cX1_init : ByteArray := prog_3_method_1_code
def yX1_init : MethodName := ⟨RX1, "<init>", "()V"⟩
def RX2 : String := "TypedColumns"
def TX2 : u_T := fun k => match k with
  | 0 => ("TypedColumns", "columns", "[LTypedColumns$Column;", true)
  | 1 => ("TypedColumns", "counts", "[I", true)
  | 2 => ("TypedColumns", "doubleBits", "LTypedColumns$DoubleBits;", true)
  | 3 => ("TypedColumns", "created", "I", false)
  | _ => ("TypedColumns", "latestCode", "I", false)
def tyX2 : Nat → FieldType := fun k => match k with
  | 0 => .array (.object "TypedColumns$Column")
  | 1 => .array .int
  | 2 => .object "TypedColumns$DoubleBits"
  | 3 => .int
  | _ => .int
abbrev wsX20 : List Cond := u_ws RX2 TX2 5
theorem nmX2 : ∀ a, a < 5 → ∀ b, b < 5 → a ≠ b → (TX2 a).2.1 ≠ (TX2 b).2.1 := by decide +kernel
theorem tyX2_ok : ∀ k, k < 5 → parseFieldDescriptor (TX2 k).2.2.1 = some (tyX2 k) := by decide +kernel
abbrev cX2_init : ByteArray := prog_1_method_1_code
def yX2_init : MethodName := ⟨RX2, "<init>", "()V"⟩
abbrev cX2_create : ByteArray := prog_1_method_2_code
def yX2_create : MethodName := ⟨RX2, "create", "(II)I"⟩
abbrev cX2_columnCount : ByteArray := prog_1_method_3_code
def yX2_columnCount : MethodName := ⟨RX2, "columnCount", "()I"⟩
abbrev cX2_readAny : ByteArray := prog_1_method_14_code
def yX2_readAny : MethodName := ⟨RX2, "readAny", "(II)D"⟩
abbrev cX2_writeAny : ByteArray := prog_1_method_23_code
def yX2_writeAny : MethodName := ⟨RX2, "writeAny", "(IIII)I"⟩
abbrev cX2_copy : ByteArray := prog_1_method_24_code
def yX2_copy : MethodName := ⟨RX2, "copy", "(IIIII)I"⟩
abbrev cX2_total : ByteArray := prog_1_method_25_code
def yX2_total : MethodName := ⟨RX2, "total", "(I)D"⟩
abbrev cX2_widened : ByteArray := prog_1_method_26_code
def yX2_widened : MethodName := ⟨RX2, "widened", "(II)I"⟩
abbrev cX2_code : ByteArray := prog_1_method_27_code
def yX2_code : MethodName := ⟨RX2, "code", "()I"⟩
abbrev cX2_count : ByteArray := prog_1_method_28_code
def yX2_count : MethodName := ⟨RX2, "count", "(I)I"⟩
abbrev cX2_isKind : ByteArray := prog_1_method_33_code
def yX2_isKind : MethodName := ⟨RX2, "isKind", "(I)Z"⟩
abbrev cX2_holdsCells : ByteArray := prog_1_method_34_code
def yX2_holdsCells : MethodName := ⟨RX2, "holdsCells", "(I)Z"⟩
abbrev cX2_isLength : ByteArray := prog_1_method_35_code
def yX2_isLength : MethodName := ⟨RX2, "isLength", "(I)Z"⟩
abbrev cX2_isFloating : ByteArray := prog_1_method_36_code
def yX2_isFloating : MethodName := ⟨RX2, "isFloating", "(I)Z"⟩
abbrev cX2_widens : ByteArray := prog_1_method_37_code
def yX2_widens : MethodName := ⟨RX2, "widens", "(II)Z"⟩
abbrev cX2_isPart : ByteArray := prog_1_method_38_code
def yX2_isPart : MethodName := ⟨RX2, "isPart", "(III)Z"⟩
abbrev cX2_refuseWithoutCells : ByteArray := prog_1_method_40_code
def yX2_refuseWithoutCells : MethodName := ⟨RX2, "refuseWithoutCells", "(I)V"⟩
abbrev cX2_refuseWhenFull : ByteArray := prog_1_method_41_code
def yX2_refuseWhenFull : MethodName := ⟨RX2, "refuseWhenFull", "()V"⟩
abbrev cX2_columnAt : ByteArray := prog_1_method_42_code
def yX2_columnAt : MethodName := ⟨RX2, "columnAt", "(I)LTypedColumns$Column;"⟩
abbrev cX2_addColumn : ByteArray := prog_1_method_43_code
def yX2_addColumn : MethodName := ⟨RX2, "addColumn", "(LTypedColumns$Column;)I"⟩
abbrev cX2_note : ByteArray := prog_1_method_44_code
def yX2_note : MethodName := ⟨RX2, "note", "(I)I"⟩
abbrev cX2_codeOfColumn : ByteArray := prog_1_method_45_code
def yX2_codeOfColumn : MethodName := ⟨RX2, "codeOfColumn", "(LTypedColumns$Column;)I"⟩
abbrev cX2_codeOfCell : ByteArray := prog_1_method_46_code
def yX2_codeOfCell : MethodName := ⟨RX2, "codeOfCell", "(LTypedColumns$Column;III)I"⟩
abbrev cX2_codeOfKinds : ByteArray := prog_1_method_47_code
def yX2_codeOfKinds : MethodName := ⟨RX2, "codeOfKinds", "(LTypedColumns$Column;LTypedColumns$Column;)I"⟩
abbrev cX2_readReal : ByteArray := prog_1_method_49_code
def yX2_readReal : MethodName := ⟨RX2, "readReal", "(LTypedColumns$Column;II)D"⟩
abbrev cX2_writeWhole : ByteArray := prog_1_method_50_code
def yX2_writeWhole : MethodName := ⟨RX2, "writeWhole", "(LTypedColumns$Column;IIJ)I"⟩
abbrev cX2_writeReal : ByteArray := prog_1_method_51_code
def yX2_writeReal : MethodName := ⟨RX2, "writeReal", "(LTypedColumns$Column;IID)I"⟩
abbrev cX2_wholeMadeFrom : ByteArray := prog_1_method_52_code
def yX2_wholeMadeFrom : MethodName := ⟨RX2, "wholeMadeFrom", "(II)J"⟩
abbrev cX2_noNumber : ByteArray := prog_1_method_53_code
def yX2_noNumber : MethodName := ⟨RX2, "noNumber", "()D"⟩
abbrev cX2_isInfinite : ByteArray := prog_1_method_57_code
def yX2_isInfinite : MethodName := ⟨RX2, "isInfinite", "(D)Z"⟩
abbrev cX2_sumOf : ByteArray := prog_1_method_58_code
def yX2_sumOf : MethodName := ⟨RX2, "sumOf", "(DD)D"⟩
def RX3 : String := "TypedColumnsModel"
def TX3 : u_T := fun k => match k with
  | _ => ("", "", "", false)
def tyX3 : Nat → FieldType := fun k => match k with
  | _ => .int
abbrev wsX30 : List Cond := u_ws RX3 TX3 0
theorem nmX3 : ∀ a, a < 0 → ∀ b, b < 0 → a ≠ b → (TX3 a).2.1 ≠ (TX3 b).2.1 := by decide +kernel
theorem tyX3_ok : ∀ k, k < 0 → parseFieldDescriptor (TX3 k).2.2.1 = some (tyX3 k) := by decide +kernel
def RJ0 : String := "java/lang/String"
def TJ0 : u_T := fun k => match k with
  | _ => ("", "", "", false)
def tyJ0 : Nat → FieldType := fun k => match k with
  | _ => .int
abbrev wsJ00 : List Cond := u_ws RJ0 TJ0 0
theorem nmJ0 : ∀ a, a < 0 → ∀ b, b < 0 → a ≠ b → (TJ0 a).2.1 ≠ (TJ0 b).2.1 := by decide +kernel
theorem tyJ0_ok : ∀ k, k < 0 → parseFieldDescriptor (TJ0 k).2.2.1 = some (tyJ0 k) := by decide +kernel
abbrev cJ0_charAt_5068e : ByteArray := prog_11_method_56_code
def yJ0_charAt_5068e : MethodName := ⟨RJ0, "charAt", "(I)C"⟩
abbrev cJ0_isLatin1_aae02 : ByteArray := prog_11_method_154_code
def yJ0_isLatin1_aae02 : MethodName := ⟨RJ0, "isLatin1", "()Z"⟩
abbrev cJ0_checkIndex_df160 : ByteArray := prog_11_method_155_code
def yJ0_checkIndex_df160 : MethodName := ⟨RJ0, "checkIndex", "(II)V"⟩
def RJ1 : String := "java/lang/StringLatin1"
def TJ1 : u_T := fun k => match k with
  | _ => ("", "", "", false)
def tyJ1 : Nat → FieldType := fun k => match k with
  | _ => .int
abbrev wsJ10 : List Cond := u_ws RJ1 TJ1 0
theorem nmJ1 : ∀ a, a < 0 → ∀ b, b < 0 → a ≠ b → (TJ1 a).2.1 ≠ (TJ1 b).2.1 := by decide +kernel
theorem tyJ1_ok : ∀ k, k < 0 → parseFieldDescriptor (TJ1 k).2.2.1 = some (tyJ1 k) := by decide +kernel
abbrev cJ1_charAt_3b067 : ByteArray := prog_12_method_2_code
def yJ1_charAt_3b067 : MethodName := ⟨RJ1, "charAt", "([BI)C"⟩
def RJ2 : String := "java/lang/StringUTF16"
def TJ2 : u_T := fun k => match k with
  | _ => ("", "", "", false)
def tyJ2 : Nat → FieldType := fun k => match k with
  | _ => .int
abbrev wsJ20 : List Cond := u_ws RJ2 TJ2 0
theorem nmJ2 : ∀ a, a < 0 → ∀ b, b < 0 → a ≠ b → (TJ2 a).2.1 ≠ (TJ2 b).2.1 := by decide +kernel
theorem tyJ2_ok : ∀ k, k < 0 → parseFieldDescriptor (TJ2 k).2.2.1 = some (tyJ2 k) := by decide +kernel
abbrev cJ2_getChar_3b067 : ByteArray := prog_13_method_5_code
def yJ2_getChar_3b067 : MethodName := ⟨RJ2, "getChar", "([BI)C"⟩
abbrev cJ2_length_9d52b : ByteArray := prog_13_method_6_code
def yJ2_length_9d52b : MethodName := ⟨RJ2, "length", "([B)I"⟩
abbrev cJ2_charAt_3b067 : ByteArray := prog_13_method_83_code
def yJ2_charAt_3b067 : MethodName := ⟨RJ2, "charAt", "([BI)C"⟩
abbrev cJ2_checkIndex_2214a : ByteArray := prog_13_method_91_code
def yJ2_checkIndex_2214a : MethodName := ⟨RJ2, "checkIndex", "(I[B)V"⟩
def RJ10 : String := "java/lang/System"
def TJ10 : u_T := fun k => match k with
  | _ => ("", "", "", false)
def tyJ10 : Nat → FieldType := fun k => match k with
  | _ => .int
abbrev wsJ100 : List Cond := u_ws RJ10 TJ10 0
theorem nmJ10 : ∀ a, a < 0 → ∀ b, b < 0 → a ≠ b → (TJ10 a).2.1 ≠ (TJ10 b).2.1 := by decide +kernel
theorem tyJ10_ok : ∀ k, k < 0 → parseFieldDescriptor (TJ10 k).2.2.1 = some (tyJ10 k) := by decide +kernel
def RJ3 : String := "jdk/internal/util/Preconditions"
def TJ3 : u_T := fun k => match k with
  | _ => ("", "", "", false)
def tyJ3 : Nat → FieldType := fun k => match k with
  | _ => .int
abbrev wsJ30 : List Cond := u_ws RJ3 TJ3 0
theorem nmJ3 : ∀ a, a < 0 → ∀ b, b < 0 → a ≠ b → (TJ3 a).2.1 ≠ (TJ3 b).2.1 := by decide +kernel
theorem tyJ3_ok : ∀ k, k < 0 → parseFieldDescriptor (TJ3 k).2.2.1 = some (tyJ3 k) := by decide +kernel
abbrev cJ3_checkIndex_8e157 : ByteArray := prog_16_method_11_code
def yJ3_checkIndex_8e157 : MethodName := ⟨RJ3, "checkIndex", "(IILjava/util/function/BiFunction;)I"⟩
def RL : String := "TypedColumnsLaw"
abbrev cL_below : ByteArray := method_2_code
def yL_below : MethodName := ⟨RL, "below", "(II)I"⟩
abbrev cL_cell : ByteArray := method_3_code
def yL_cell : MethodName := ⟨RL, "cell", "([II)I"⟩
abbrev cL_widens : ByteArray := method_4_code
def yL_widens : MethodName := ⟨RL, "widens", "(II)Z"⟩
abbrev cL_made : ByteArray := method_5_code
def yL_made : MethodName := ⟨RL, "made", "(II)J"⟩
abbrev cL_law : ByteArray := code
def yL_law : MethodName := ⟨RL, "law", "([I)Z"⟩
def wsX2_holdsCells : List Cond := .code yX2_holdsCells cX2_holdsCells 1 (some .boolean) :: ([])
def wsX2_isLength : List Cond := .code yX2_isLength cX2_isLength 1 (some .boolean) :: ([])
def wsX2_isFloating : List Cond := .code yX2_isFloating cX2_isFloating 1 (some .boolean) :: ([])
def wsX0_init : List Cond := .code yX0_init cX0_init 4 none :: ([.methodLink RX0 3 objectInit, .instanceMethod objectInit, .code objectInit ⟨#[0xb1]⟩ 1 none, .fieldLink RX0 16 "TypedColumns$Column" "kind" "I", .fieldLink RX0 22 "TypedColumns$Column" "length" "I", .arrayClass .long, .fieldLink RX0 28 "TypedColumns$Column" "wholes" "[J", .arrayClass .double, .fieldLink RX0 32 "TypedColumns$Column" "reals" "[D", .static yX2_holdsCells, .initialized RX2, .code yX2_holdsCells cX2_holdsCells 1 (some .boolean), .static yX2_isLength, .code yX2_isLength cX2_isLength 1 (some .boolean), .static yX2_isFloating, .code yX2_isFloating cX2_isFloating 1 (some .boolean)] ++ wsX00)
def wsX0_wholeAt : List Cond := .code yX0_wholeAt cX0_wholeAt 2 (some .long) :: ([.fieldLink RX0 28 "TypedColumns$Column" "wholes" "[J"] ++ wsX00)
def wsX0_realAt : List Cond := .code yX0_realAt cX0_realAt 2 (some .double) :: ([.fieldLink RX0 32 "TypedColumns$Column" "reals" "[D"] ++ wsX00)
def wsX0_doubleAt : List Cond := .code yX0_doubleAt cX0_doubleAt 2 (some .double) :: ([.fieldLink RX0 16 "TypedColumns$Column" "kind" "I", .static yX2_isFloating, .initialized RX2, .code yX2_isFloating cX2_isFloating 1 (some .boolean), .methodLink RX0 36 yX0_realAt, .instanceMethod yX0_realAt, .selects RX0 yX0_realAt yX0_realAt, .initialized RX0, .code yX0_realAt cX0_realAt 2 (some .double), .fieldLink RX0 32 "TypedColumns$Column" "reals" "[D", .methodLink RX0 40 yX0_wholeAt, .instanceMethod yX0_wholeAt, .selects RX0 yX0_wholeAt yX0_wholeAt, .code yX0_wholeAt cX0_wholeAt 2 (some .long), .fieldLink RX0 28 "TypedColumns$Column" "wholes" "[J"] ++ wsX00)
def wsX0_putReal : List Cond := .code yX0_putReal cX0_putReal 4 none :: ([.fieldLink RX0 32 "TypedColumns$Column" "reals" "[D"] ++ wsX00)
def wsX0_putWhole : List Cond := .code yX0_putWhole cX0_putWhole 4 none :: ([.fieldLink RX0 16 "TypedColumns$Column" "kind" "I", .fieldLink RX0 28 "TypedColumns$Column" "wholes" "[J", .methodLink RX0 48 yX0_putReal, .instanceMethod yX0_putReal, .selects RX0 yX0_putReal yX0_putReal, .initialized RX0, .code yX0_putReal cX0_putReal 4 none, .fieldLink RX0 32 "TypedColumns$Column" "reals" "[D"] ++ wsX00)
def wsX2_isPart : List Cond := .code yX2_isPart cX2_isPart 3 (some .boolean) :: ([])
def wsX0_takeCells : List Cond := .code yX0_takeCells cX0_takeCells 5 none :: ([.fieldLink RX0 28 "TypedColumns$Column" "wholes" "[J", .methodLink RX0 56 arraycopyName, .native arraycopyName, .static arraycopyName, .initialized "java/lang/System", .fieldLink RX0 32 "TypedColumns$Column" "reals" "[D", .static yX2_isPart, .initialized RX2, .code yX2_isPart cX2_isPart 3 (some .boolean)] ++ wsX00)
def wsX0_takeWidened : List Cond := .code yX0_takeWidened cX0_takeWidened 3 none :: ([.fieldLink RX0 22 "TypedColumns$Column" "length" "I", .fieldLink RX0 16 "TypedColumns$Column" "kind" "I", .static yX2_isFloating, .initialized RX2, .code yX2_isFloating cX2_isFloating 1 (some .boolean), .methodLink RX0 36 yX0_realAt, .instanceMethod yX0_realAt, .selects RX0 yX0_realAt yX0_realAt, .initialized RX0, .code yX0_realAt cX0_realAt 2 (some .double), .fieldLink RX0 32 "TypedColumns$Column" "reals" "[D", .methodLink RX0 48 yX0_putReal, .instanceMethod yX0_putReal, .selects RX0 yX0_putReal yX0_putReal, .code yX0_putReal cX0_putReal 4 none, .methodLink RX0 40 yX0_wholeAt, .instanceMethod yX0_wholeAt, .selects RX0 yX0_wholeAt yX0_wholeAt, .code yX0_wholeAt cX0_wholeAt 2 (some .long), .fieldLink RX0 28 "TypedColumns$Column" "wholes" "[J", .methodLink RX0 62 yX0_putWhole, .instanceMethod yX0_putWhole, .selects RX0 yX0_putWhole yX0_putWhole, .code yX0_putWhole cX0_putWhole 4 none] ++ wsX00)
def wsX2_isInfinite : List Cond := .code yX2_isInfinite cX2_isInfinite 2 (some .boolean) :: ([.constantDouble RX2 192 (9218868437227405311), .constantDouble RX2 194 (18442240474082181119)])
def wsX2_noNumber : List Cond := .code yX2_noNumber cX2_noNumber 0 (some .double) :: ([.constantDouble RX2 182 (9221120237041090560)])
def wsX2_sumOf : List Cond := .code yX2_sumOf cX2_sumOf 4 (some .double) :: ([.methodLink RX2 196 yX2_isInfinite, .static yX2_isInfinite, .initialized RX2, .code yX2_isInfinite cX2_isInfinite 2 (some .boolean), .constantDouble RX2 192 (9218868437227405311), .constantDouble RX2 194 (18442240474082181119), .methodLink RX2 185 yX2_noNumber, .static yX2_noNumber, .code yX2_noNumber cX2_noNumber 0 (some .double), .constantDouble RX2 182 (9221120237041090560)])
def wsX0_sum_r1 : List Cond := [Cond.fieldLink RX0 22 "TypedColumns$Column" "length" "I", Cond.methodLink RX0 66 yX0_doubleAt, Cond.instanceMethod yX0_doubleAt, Cond.selects RX0 yX0_doubleAt yX0_doubleAt, Cond.initialized RX0, Cond.code yX0_doubleAt cX0_doubleAt 2 (some .double), Cond.fieldLink RX0 16 "TypedColumns$Column" "kind" "I", Cond.static yX2_isFloating, Cond.initialized RX2, Cond.code yX2_isFloating cX2_isFloating 1 (some .boolean), Cond.methodLink RX0 36 yX0_realAt, Cond.instanceMethod yX0_realAt, Cond.selects RX0 yX0_realAt yX0_realAt, Cond.code yX0_realAt cX0_realAt 2 (some .double), Cond.fieldLink RX0 32 "TypedColumns$Column" "reals" "[D", Cond.methodLink RX0 40 yX0_wholeAt, Cond.instanceMethod yX0_wholeAt, Cond.selects RX0 yX0_wholeAt yX0_wholeAt, Cond.code yX0_wholeAt cX0_wholeAt 2 (some .long), Cond.fieldLink RX0 28 "TypedColumns$Column" "wholes" "[J", Cond.static yX2_sumOf, Cond.code yX2_sumOf cX2_sumOf 4 (some .double), Cond.methodLink RX2 196 yX2_isInfinite, Cond.static yX2_isInfinite]
def wsX0_sum_r2 : List Cond := [Cond.code yX2_isInfinite cX2_isInfinite 2 (some .boolean), Cond.constantDouble RX2 192 (9218868437227405311), Cond.constantDouble RX2 194 (18442240474082181119), Cond.methodLink RX2 185 yX2_noNumber, Cond.static yX2_noNumber, Cond.code yX2_noNumber cX2_noNumber 0 (some .double), Cond.constantDouble RX2 182 (9221120237041090560)]
def wsX0_sum : List Cond := .code yX0_sum cX0_sum 4 (some .double) :: ((wsX0_sum_r1 ++ wsX0_sum_r2) ++ wsX00)
def wsX1_init : List Cond := .code yX1_init cX1_init 4 none :: ([.methodLink RX1 1 objectInit, .instanceMethod objectInit, .code objectInit ⟨#[0xb1]⟩ 1 none, .arrayClass .double, .fieldLink RX1 9 "TypedColumns$DoubleBits" "powers" "[D", .constantDouble RX1 13 (4611686018427387904)] ++ wsX10)
def wsX2_init : List Cond := .code yX2_init cX2_init 1 none :: ([.methodLink RX2 1 objectInit, .instanceMethod objectInit, .code objectInit ⟨#[0xb1]⟩ 1 none, .classLink RX2 9 RX0, .fieldLink RX2 11 "TypedColumns" "columns" "[LTypedColumns$Column;", .arrayClass .int, .fieldLink RX2 15 "TypedColumns" "counts" "[I", .classLink RX2 19 RX1, .instantiable RX1 1, .initialized RX1, .fieldLink RX2 22 "TypedColumns" "doubleBits" "LTypedColumns$DoubleBits;", .fieldLink RX2 26 "TypedColumns" "created" "I", .fieldLink RX2 30 "TypedColumns" "latestCode" "I", .methodLink RX2 21 yX1_init, .instanceMethod yX1_init, .code yX1_init cX1_init 4 none, .methodLink RX1 1 objectInit, .arrayClass .double, .fieldLink RX1 9 "TypedColumns$DoubleBits" "powers" "[D", .constantDouble RX1 13 (4611686018427387904)] ++ wsX20 ++ wsX10)
def wsX2_isKind : List Cond := .code yX2_isKind cX2_isKind 1 (some .boolean) :: ([])
def wsX2_refuseWhenFull : List Cond := .code yX2_refuseWhenFull cX2_refuseWhenFull 1 none :: ([.classLink RX2 159 "java/lang/IllegalStateException", .initialized "java/lang/IllegalStateException", .fieldLink RX2 26 "TypedColumns" "created" "I", .fieldLink RX2 11 "TypedColumns" "columns" "[LTypedColumns$Column;"] ++ wsX20 ++ (vx_atS RX2 163 "java/lang/IllegalStateException" ["java/lang/RuntimeException", "java/lang/Exception"]).filter goodWord)
def wsX2_addColumn : List Cond := .code yX2_addColumn cX2_addColumn 3 (some .int) :: ([.fieldLink RX2 26 "TypedColumns" "created" "I", .fieldLink RX2 11 "TypedColumns" "columns" "[LTypedColumns$Column;"] ++ wsX20)
def wsX2_create_r1 : List Cond := [Cond.classLink RX2 37 "java/lang/IllegalArgumentException", Cond.initialized "java/lang/IllegalArgumentException", Cond.classLink RX2 9 RX0, Cond.instantiable RX0 4, Cond.initialized RX0, Cond.methodLink RX2 33 yX2_isKind, Cond.static yX2_isKind, Cond.initialized RX2, Cond.code yX2_isKind cX2_isKind 1 (some .boolean), Cond.methodLink RX2 44 yX2_holdsCells, Cond.static yX2_holdsCells, Cond.code yX2_holdsCells cX2_holdsCells 1 (some .boolean), Cond.methodLink RX2 47 yX2_isLength, Cond.static yX2_isLength, Cond.code yX2_isLength cX2_isLength 1 (some .boolean), Cond.methodLink RX2 52 yX2_refuseWhenFull, Cond.instanceMethod yX2_refuseWhenFull, Cond.selects RX2 yX2_refuseWhenFull yX2_refuseWhenFull, Cond.code yX2_refuseWhenFull cX2_refuseWhenFull 1 none, Cond.classLink RX2 159 "java/lang/IllegalStateException", Cond.initialized "java/lang/IllegalStateException", Cond.fieldLink RX2 26 "TypedColumns" "created" "I", Cond.fieldLink RX2 11 "TypedColumns" "columns" "[LTypedColumns$Column;", Cond.methodLink RX2 55 yX0_init]
def wsX2_create_r2 : List Cond := [Cond.instanceMethod yX0_init, Cond.code yX0_init cX0_init 4 none, Cond.methodLink RX0 3 objectInit, Cond.instanceMethod objectInit, Cond.code objectInit ⟨#[0xb1]⟩ 1 none, Cond.fieldLink RX0 16 "TypedColumns$Column" "kind" "I", Cond.fieldLink RX0 22 "TypedColumns$Column" "length" "I", Cond.arrayClass .long, Cond.fieldLink RX0 28 "TypedColumns$Column" "wholes" "[J", Cond.arrayClass .double, Cond.fieldLink RX0 32 "TypedColumns$Column" "reals" "[D", Cond.static yX2_isFloating, Cond.code yX2_isFloating cX2_isFloating 1 (some .boolean), Cond.methodLink RX2 58 yX2_addColumn, Cond.instanceMethod yX2_addColumn, Cond.selects RX2 yX2_addColumn yX2_addColumn, Cond.code yX2_addColumn cX2_addColumn 3 (some .int)]
def wsX2_create : List Cond := .code yX2_create cX2_create 3 (some .int) :: ((wsX2_create_r1 ++ wsX2_create_r2) ++ wsX00 ++ wsX20 ++ (vx_atS RX2 41 "java/lang/IllegalArgumentException" ["java/lang/RuntimeException", "java/lang/Exception"]).filter goodWord ++ (vx_atS RX2 163 "java/lang/IllegalStateException" ["java/lang/RuntimeException", "java/lang/Exception"]).filter goodWord)
def wsX2_columnCount : List Cond := .code yX2_columnCount cX2_columnCount 1 (some .int) :: ([.fieldLink RX2 26 "TypedColumns" "created" "I"] ++ wsX20)
def wsX2_columnAt : List Cond := .code yX2_columnAt cX2_columnAt 3 (some (.object "TypedColumns$Column")) :: ([.classLink RX2 139 "java/lang/IndexOutOfBoundsException", .initialized "java/lang/IndexOutOfBoundsException", .fieldLink RX2 11 "TypedColumns" "columns" "[LTypedColumns$Column;"] ++ wsX20 ++ (vx_atS RX2 143 "java/lang/IndexOutOfBoundsException" ["java/lang/RuntimeException", "java/lang/Exception"]).filter goodWord)
def wsX2_codeOfColumn : List Cond := .code yX2_codeOfColumn cX2_codeOfColumn 1 (some .int) :: ([.fieldLink RX2 66 "TypedColumns$Column" "kind" "I"] ++ wsX00)
def wsX2_widens : List Cond := .code yX2_widens cX2_widens 2 (some .boolean) :: ([.methodLink RX2 44 yX2_holdsCells, .static yX2_holdsCells, .initialized RX2, .code yX2_holdsCells cX2_holdsCells 1 (some .boolean)])
def wsX2_codeOfCell : List Cond := .code yX2_codeOfCell cX2_codeOfCell 5 (some .int) :: ([.fieldLink RX2 76 "TypedColumns$Column" "length" "I", .methodLink RX2 69 yX2_codeOfColumn, .static yX2_codeOfColumn, .initialized RX2, .code yX2_codeOfColumn cX2_codeOfColumn 1 (some .int), .fieldLink RX2 66 "TypedColumns$Column" "kind" "I", .methodLink RX2 131 yX2_widens, .static yX2_widens, .code yX2_widens cX2_widens 2 (some .boolean), .methodLink RX2 44 yX2_holdsCells, .static yX2_holdsCells, .code yX2_holdsCells cX2_holdsCells 1 (some .boolean)] ++ wsX00)
def wsX2_note : List Cond := .code yX2_note cX2_note 2 (some .int) :: ([.fieldLink RX2 15 "TypedColumns" "counts" "[I", .fieldLink RX2 30 "TypedColumns" "latestCode" "I"] ++ wsX20)
def wsX2_readReal_r1 : List Cond := [Cond.fieldLink RX2 66 "TypedColumns$Column" "kind" "I", Cond.methodLink RX2 83 yX2_codeOfCell, Cond.static yX2_codeOfCell, Cond.initialized RX2, Cond.code yX2_codeOfCell cX2_codeOfCell 5 (some .int), Cond.fieldLink RX2 76 "TypedColumns$Column" "length" "I", Cond.methodLink RX2 69 yX2_codeOfColumn, Cond.static yX2_codeOfColumn, Cond.code yX2_codeOfColumn cX2_codeOfColumn 1 (some .int), Cond.methodLink RX2 131 yX2_widens, Cond.static yX2_widens, Cond.code yX2_widens cX2_widens 2 (some .boolean), Cond.methodLink RX2 44 yX2_holdsCells, Cond.static yX2_holdsCells, Cond.code yX2_holdsCells cX2_holdsCells 1 (some .boolean), Cond.methodLink RX2 72 yX2_note, Cond.instanceMethod yX2_note, Cond.selects RX2 yX2_note yX2_note, Cond.code yX2_note cX2_note 2 (some .int), Cond.fieldLink RX2 15 "TypedColumns" "counts" "[I", Cond.fieldLink RX2 30 "TypedColumns" "latestCode" "I", Cond.methodLink RX2 170 yX0_doubleAt, Cond.instanceMethod yX0_doubleAt, Cond.selects RX0 yX0_doubleAt yX0_doubleAt]
def wsX2_readReal_r2 : List Cond := [Cond.initialized RX0, Cond.code yX0_doubleAt cX0_doubleAt 2 (some .double), Cond.fieldLink RX0 16 "TypedColumns$Column" "kind" "I", Cond.static yX2_isFloating, Cond.code yX2_isFloating cX2_isFloating 1 (some .boolean), Cond.methodLink RX0 36 yX0_realAt, Cond.instanceMethod yX0_realAt, Cond.selects RX0 yX0_realAt yX0_realAt, Cond.code yX0_realAt cX0_realAt 2 (some .double), Cond.fieldLink RX0 32 "TypedColumns$Column" "reals" "[D", Cond.methodLink RX0 40 yX0_wholeAt, Cond.instanceMethod yX0_wholeAt, Cond.selects RX0 yX0_wholeAt yX0_wholeAt, Cond.code yX0_wholeAt cX0_wholeAt 2 (some .long), Cond.fieldLink RX0 28 "TypedColumns$Column" "wholes" "[J"]
def wsX2_readReal : List Cond := .code yX2_readReal cX2_readReal 5 (some .double) :: ((wsX2_readReal_r1 ++ wsX2_readReal_r2) ++ wsX00 ++ wsX20)
def wsX2_readAny_r1 : List Cond := [Cond.fieldLink RX2 66 "TypedColumns$Column" "kind" "I", Cond.methodLink RX2 62 yX2_columnAt, Cond.instanceMethod yX2_columnAt, Cond.selects RX2 yX2_columnAt yX2_columnAt, Cond.initialized RX2, Cond.code yX2_columnAt cX2_columnAt 3 (some (.object "TypedColumns$Column")), Cond.classLink RX2 139 "java/lang/IndexOutOfBoundsException", Cond.initialized "java/lang/IndexOutOfBoundsException", Cond.fieldLink RX2 11 "TypedColumns" "columns" "[LTypedColumns$Column;", Cond.methodLink RX2 91 yX2_readReal, Cond.instanceMethod yX2_readReal, Cond.selects RX2 yX2_readReal yX2_readReal, Cond.code yX2_readReal cX2_readReal 5 (some .double), Cond.methodLink RX2 83 yX2_codeOfCell, Cond.static yX2_codeOfCell, Cond.code yX2_codeOfCell cX2_codeOfCell 5 (some .int), Cond.fieldLink RX2 76 "TypedColumns$Column" "length" "I", Cond.methodLink RX2 69 yX2_codeOfColumn, Cond.static yX2_codeOfColumn, Cond.code yX2_codeOfColumn cX2_codeOfColumn 1 (some .int), Cond.methodLink RX2 131 yX2_widens, Cond.static yX2_widens, Cond.code yX2_widens cX2_widens 2 (some .boolean), Cond.methodLink RX2 44 yX2_holdsCells]
def wsX2_readAny_r2 : List Cond := [Cond.static yX2_holdsCells, Cond.code yX2_holdsCells cX2_holdsCells 1 (some .boolean), Cond.methodLink RX2 72 yX2_note, Cond.instanceMethod yX2_note, Cond.selects RX2 yX2_note yX2_note, Cond.code yX2_note cX2_note 2 (some .int), Cond.fieldLink RX2 15 "TypedColumns" "counts" "[I", Cond.fieldLink RX2 30 "TypedColumns" "latestCode" "I", Cond.methodLink RX2 170 yX0_doubleAt, Cond.instanceMethod yX0_doubleAt, Cond.selects RX0 yX0_doubleAt yX0_doubleAt, Cond.initialized RX0, Cond.code yX0_doubleAt cX0_doubleAt 2 (some .double), Cond.fieldLink RX0 16 "TypedColumns$Column" "kind" "I", Cond.static yX2_isFloating, Cond.code yX2_isFloating cX2_isFloating 1 (some .boolean), Cond.methodLink RX0 36 yX0_realAt, Cond.instanceMethod yX0_realAt, Cond.selects RX0 yX0_realAt yX0_realAt, Cond.code yX0_realAt cX0_realAt 2 (some .double), Cond.fieldLink RX0 32 "TypedColumns$Column" "reals" "[D", Cond.methodLink RX0 40 yX0_wholeAt, Cond.instanceMethod yX0_wholeAt, Cond.selects RX0 yX0_wholeAt yX0_wholeAt]
def wsX2_readAny_r3 : List Cond := [Cond.code yX0_wholeAt cX0_wholeAt 2 (some .long), Cond.fieldLink RX0 28 "TypedColumns$Column" "wholes" "[J"]
def wsX2_readAny : List Cond := .code yX2_readAny cX2_readAny 4 (some .double) :: ((wsX2_readAny_r1 ++ (wsX2_readAny_r2 ++ wsX2_readAny_r3)) ++ wsX00 ++ wsX20 ++ (vx_atS RX2 143 "java/lang/IndexOutOfBoundsException" ["java/lang/RuntimeException", "java/lang/Exception"]).filter goodWord)
def wsX2_refuseWithoutCells : List Cond := .code yX2_refuseWithoutCells cX2_refuseWithoutCells 1 none :: ([.classLink RX2 37 "java/lang/IllegalArgumentException", .initialized "java/lang/IllegalArgumentException", .methodLink RX2 44 yX2_holdsCells, .static yX2_holdsCells, .initialized RX2, .code yX2_holdsCells cX2_holdsCells 1 (some .boolean)] ++ (vx_atS RX2 41 "java/lang/IllegalArgumentException" ["java/lang/RuntimeException", "java/lang/Exception"]).filter goodWord)
def wsX2_writeReal_r1 : List Cond := [Cond.fieldLink RX2 66 "TypedColumns$Column" "kind" "I", Cond.methodLink RX2 83 yX2_codeOfCell, Cond.static yX2_codeOfCell, Cond.initialized RX2, Cond.code yX2_codeOfCell cX2_codeOfCell 5 (some .int), Cond.fieldLink RX2 76 "TypedColumns$Column" "length" "I", Cond.methodLink RX2 69 yX2_codeOfColumn, Cond.static yX2_codeOfColumn, Cond.code yX2_codeOfColumn cX2_codeOfColumn 1 (some .int), Cond.methodLink RX2 131 yX2_widens, Cond.static yX2_widens, Cond.code yX2_widens cX2_widens 2 (some .boolean), Cond.methodLink RX2 44 yX2_holdsCells, Cond.static yX2_holdsCells, Cond.code yX2_holdsCells cX2_holdsCells 1 (some .boolean), Cond.methodLink RX2 72 yX2_note, Cond.instanceMethod yX2_note, Cond.selects RX2 yX2_note yX2_note, Cond.code yX2_note cX2_note 2 (some .int), Cond.fieldLink RX2 15 "TypedColumns" "counts" "[I", Cond.fieldLink RX2 30 "TypedColumns" "latestCode" "I", Cond.methodLink RX2 178 yX0_putReal, Cond.instanceMethod yX0_putReal, Cond.selects RX0 yX0_putReal yX0_putReal]
def wsX2_writeReal_r2 : List Cond := [Cond.initialized RX0, Cond.code yX0_putReal cX0_putReal 4 none, Cond.fieldLink RX0 32 "TypedColumns$Column" "reals" "[D"]
def wsX2_writeReal : List Cond := .code yX2_writeReal cX2_writeReal 7 (some .int) :: ((wsX2_writeReal_r1 ++ wsX2_writeReal_r2) ++ wsX00 ++ wsX20)
def wsX2_wholeMadeFrom : List Cond := .code yX2_wholeMadeFrom cX2_wholeMadeFrom 2 (some .long) :: ([])
def wsX2_writeWhole_r1 : List Cond := [Cond.fieldLink RX2 66 "TypedColumns$Column" "kind" "I", Cond.methodLink RX2 83 yX2_codeOfCell, Cond.static yX2_codeOfCell, Cond.initialized RX2, Cond.code yX2_codeOfCell cX2_codeOfCell 5 (some .int), Cond.fieldLink RX2 76 "TypedColumns$Column" "length" "I", Cond.methodLink RX2 69 yX2_codeOfColumn, Cond.static yX2_codeOfColumn, Cond.code yX2_codeOfColumn cX2_codeOfColumn 1 (some .int), Cond.methodLink RX2 131 yX2_widens, Cond.static yX2_widens, Cond.code yX2_widens cX2_widens 2 (some .boolean), Cond.methodLink RX2 44 yX2_holdsCells, Cond.static yX2_holdsCells, Cond.code yX2_holdsCells cX2_holdsCells 1 (some .boolean), Cond.methodLink RX2 72 yX2_note, Cond.instanceMethod yX2_note, Cond.selects RX2 yX2_note yX2_note, Cond.code yX2_note cX2_note 2 (some .int), Cond.fieldLink RX2 15 "TypedColumns" "counts" "[I", Cond.fieldLink RX2 30 "TypedColumns" "latestCode" "I", Cond.methodLink RX2 174 yX0_putWhole, Cond.instanceMethod yX0_putWhole, Cond.selects RX0 yX0_putWhole yX0_putWhole]
def wsX2_writeWhole_r2 : List Cond := [Cond.initialized RX0, Cond.code yX0_putWhole cX0_putWhole 4 none, Cond.fieldLink RX0 16 "TypedColumns$Column" "kind" "I", Cond.fieldLink RX0 28 "TypedColumns$Column" "wholes" "[J", Cond.methodLink RX0 48 yX0_putReal, Cond.instanceMethod yX0_putReal, Cond.selects RX0 yX0_putReal yX0_putReal, Cond.code yX0_putReal cX0_putReal 4 none, Cond.fieldLink RX0 32 "TypedColumns$Column" "reals" "[D"]
def wsX2_writeWhole : List Cond := .code yX2_writeWhole cX2_writeWhole 7 (some .int) :: ((wsX2_writeWhole_r1 ++ wsX2_writeWhole_r2) ++ wsX00 ++ wsX20)
def wsX2_writeAny_r1 : List Cond := [Cond.methodLink RX2 62 yX2_columnAt, Cond.instanceMethod yX2_columnAt, Cond.selects RX2 yX2_columnAt yX2_columnAt, Cond.initialized RX2, Cond.code yX2_columnAt cX2_columnAt 3 (some (.object "TypedColumns$Column")), Cond.classLink RX2 139 "java/lang/IndexOutOfBoundsException", Cond.initialized "java/lang/IndexOutOfBoundsException", Cond.fieldLink RX2 11 "TypedColumns" "columns" "[LTypedColumns$Column;", Cond.methodLink RX2 107 yX2_refuseWithoutCells, Cond.static yX2_refuseWithoutCells, Cond.code yX2_refuseWithoutCells cX2_refuseWithoutCells 1 none, Cond.classLink RX2 37 "java/lang/IllegalArgumentException", Cond.initialized "java/lang/IllegalArgumentException", Cond.methodLink RX2 44 yX2_holdsCells, Cond.static yX2_holdsCells, Cond.code yX2_holdsCells cX2_holdsCells 1 (some .boolean), Cond.methodLink RX2 103 yX2_writeReal, Cond.instanceMethod yX2_writeReal, Cond.selects RX2 yX2_writeReal yX2_writeReal, Cond.code yX2_writeReal cX2_writeReal 7 (some .int), Cond.fieldLink RX2 66 "TypedColumns$Column" "kind" "I", Cond.methodLink RX2 83 yX2_codeOfCell, Cond.static yX2_codeOfCell, Cond.code yX2_codeOfCell cX2_codeOfCell 5 (some .int)]
def wsX2_writeAny_r2 : List Cond := [Cond.fieldLink RX2 76 "TypedColumns$Column" "length" "I", Cond.methodLink RX2 69 yX2_codeOfColumn, Cond.static yX2_codeOfColumn, Cond.code yX2_codeOfColumn cX2_codeOfColumn 1 (some .int), Cond.methodLink RX2 131 yX2_widens, Cond.static yX2_widens, Cond.code yX2_widens cX2_widens 2 (some .boolean), Cond.methodLink RX2 72 yX2_note, Cond.instanceMethod yX2_note, Cond.selects RX2 yX2_note yX2_note, Cond.code yX2_note cX2_note 2 (some .int), Cond.fieldLink RX2 15 "TypedColumns" "counts" "[I", Cond.fieldLink RX2 30 "TypedColumns" "latestCode" "I", Cond.methodLink RX2 178 yX0_putReal, Cond.instanceMethod yX0_putReal, Cond.selects RX0 yX0_putReal yX0_putReal, Cond.initialized RX0, Cond.code yX0_putReal cX0_putReal 4 none, Cond.fieldLink RX0 32 "TypedColumns$Column" "reals" "[D", Cond.methodLink RX2 111 yX2_wholeMadeFrom, Cond.static yX2_wholeMadeFrom, Cond.code yX2_wholeMadeFrom cX2_wholeMadeFrom 2 (some .long), Cond.methodLink RX2 95 yX2_writeWhole, Cond.instanceMethod yX2_writeWhole]
def wsX2_writeAny_r3 : List Cond := [Cond.selects RX2 yX2_writeWhole yX2_writeWhole, Cond.code yX2_writeWhole cX2_writeWhole 7 (some .int), Cond.methodLink RX2 174 yX0_putWhole, Cond.instanceMethod yX0_putWhole, Cond.selects RX0 yX0_putWhole yX0_putWhole, Cond.code yX0_putWhole cX0_putWhole 4 none, Cond.fieldLink RX0 16 "TypedColumns$Column" "kind" "I", Cond.fieldLink RX0 28 "TypedColumns$Column" "wholes" "[J", Cond.methodLink RX0 48 yX0_putReal]
def wsX2_writeAny : List Cond := .code yX2_writeAny cX2_writeAny 6 (some .int) :: ((wsX2_writeAny_r1 ++ (wsX2_writeAny_r2 ++ wsX2_writeAny_r3)) ++ wsX20 ++ wsX00 ++ (vx_atS RX2 143 "java/lang/IndexOutOfBoundsException" ["java/lang/RuntimeException", "java/lang/Exception"]).filter goodWord ++ (vx_atS RX2 41 "java/lang/IllegalArgumentException" ["java/lang/RuntimeException", "java/lang/Exception"]).filter goodWord)
def wsX2_codeOfKinds : List Cond := .code yX2_codeOfKinds cX2_codeOfKinds 3 (some .int) :: ([.fieldLink RX2 66 "TypedColumns$Column" "kind" "I"] ++ wsX00)
def wsX2_copy_r1 : List Cond := [Cond.fieldLink RX2 76 "TypedColumns$Column" "length" "I", Cond.methodLink RX2 62 yX2_columnAt, Cond.instanceMethod yX2_columnAt, Cond.selects RX2 yX2_columnAt yX2_columnAt, Cond.initialized RX2, Cond.code yX2_columnAt cX2_columnAt 3 (some (.object "TypedColumns$Column")), Cond.classLink RX2 139 "java/lang/IndexOutOfBoundsException", Cond.initialized "java/lang/IndexOutOfBoundsException", Cond.fieldLink RX2 11 "TypedColumns" "columns" "[LTypedColumns$Column;", Cond.methodLink RX2 115 yX2_codeOfKinds, Cond.static yX2_codeOfKinds, Cond.code yX2_codeOfKinds cX2_codeOfKinds 3 (some .int), Cond.fieldLink RX2 66 "TypedColumns$Column" "kind" "I", Cond.methodLink RX2 119 yX2_isPart, Cond.static yX2_isPart, Cond.code yX2_isPart cX2_isPart 3 (some .boolean), Cond.methodLink RX2 123 yX0_takeCells, Cond.instanceMethod yX0_takeCells, Cond.selects RX0 yX0_takeCells yX0_takeCells, Cond.initialized RX0, Cond.code yX0_takeCells cX0_takeCells 5 none, Cond.fieldLink RX0 28 "TypedColumns$Column" "wholes" "[J", Cond.methodLink RX0 56 arraycopyName, Cond.native arraycopyName]
def wsX2_copy_r2 : List Cond := [Cond.static arraycopyName, Cond.initialized "java/lang/System", Cond.fieldLink RX0 32 "TypedColumns$Column" "reals" "[D", Cond.methodLink RX2 72 yX2_note, Cond.instanceMethod yX2_note, Cond.selects RX2 yX2_note yX2_note, Cond.code yX2_note cX2_note 2 (some .int), Cond.fieldLink RX2 15 "TypedColumns" "counts" "[I", Cond.fieldLink RX2 30 "TypedColumns" "latestCode" "I"]
def wsX2_copy : List Cond := .code yX2_copy cX2_copy 9 (some .int) :: ((wsX2_copy_r1 ++ wsX2_copy_r2) ++ wsX00 ++ wsX20 ++ (vx_atS RX2 143 "java/lang/IndexOutOfBoundsException" ["java/lang/RuntimeException", "java/lang/Exception"]).filter goodWord)
def wsX2_total_r1 : List Cond := [Cond.methodLink RX2 62 yX2_columnAt, Cond.instanceMethod yX2_columnAt, Cond.selects RX2 yX2_columnAt yX2_columnAt, Cond.initialized RX2, Cond.code yX2_columnAt cX2_columnAt 3 (some (.object "TypedColumns$Column")), Cond.classLink RX2 139 "java/lang/IndexOutOfBoundsException", Cond.initialized "java/lang/IndexOutOfBoundsException", Cond.fieldLink RX2 11 "TypedColumns" "columns" "[LTypedColumns$Column;", Cond.methodLink RX2 69 yX2_codeOfColumn, Cond.static yX2_codeOfColumn, Cond.code yX2_codeOfColumn cX2_codeOfColumn 1 (some .int), Cond.fieldLink RX2 66 "TypedColumns$Column" "kind" "I", Cond.methodLink RX2 72 yX2_note, Cond.instanceMethod yX2_note, Cond.selects RX2 yX2_note yX2_note, Cond.code yX2_note cX2_note 2 (some .int), Cond.fieldLink RX2 15 "TypedColumns" "counts" "[I", Cond.fieldLink RX2 30 "TypedColumns" "latestCode" "I", Cond.methodLink RX2 127 yX0_sum, Cond.instanceMethod yX0_sum, Cond.selects RX0 yX0_sum yX0_sum, Cond.initialized RX0, Cond.code yX0_sum cX0_sum 4 (some .double), Cond.fieldLink RX0 22 "TypedColumns$Column" "length" "I"]
def wsX2_total_r2 : List Cond := [Cond.methodLink RX0 66 yX0_doubleAt, Cond.instanceMethod yX0_doubleAt, Cond.selects RX0 yX0_doubleAt yX0_doubleAt, Cond.code yX0_doubleAt cX0_doubleAt 2 (some .double), Cond.fieldLink RX0 16 "TypedColumns$Column" "kind" "I", Cond.static yX2_isFloating, Cond.code yX2_isFloating cX2_isFloating 1 (some .boolean), Cond.methodLink RX0 36 yX0_realAt, Cond.instanceMethod yX0_realAt, Cond.selects RX0 yX0_realAt yX0_realAt, Cond.code yX0_realAt cX0_realAt 2 (some .double), Cond.fieldLink RX0 32 "TypedColumns$Column" "reals" "[D", Cond.methodLink RX0 40 yX0_wholeAt, Cond.instanceMethod yX0_wholeAt, Cond.selects RX0 yX0_wholeAt yX0_wholeAt, Cond.code yX0_wholeAt cX0_wholeAt 2 (some .long), Cond.fieldLink RX0 28 "TypedColumns$Column" "wholes" "[J", Cond.static yX2_sumOf, Cond.code yX2_sumOf cX2_sumOf 4 (some .double), Cond.methodLink RX2 196 yX2_isInfinite, Cond.static yX2_isInfinite, Cond.code yX2_isInfinite cX2_isInfinite 2 (some .boolean), Cond.constantDouble RX2 192 (9218868437227405311), Cond.constantDouble RX2 194 (18442240474082181119)]
def wsX2_total_r3 : List Cond := [Cond.methodLink RX2 185 yX2_noNumber, Cond.static yX2_noNumber, Cond.code yX2_noNumber cX2_noNumber 0 (some .double), Cond.constantDouble RX2 182 (9221120237041090560)]
def wsX2_total : List Cond := .code yX2_total cX2_total 4 (some .double) :: ((wsX2_total_r1 ++ (wsX2_total_r2 ++ wsX2_total_r3)) ++ wsX20 ++ wsX00 ++ (vx_atS RX2 143 "java/lang/IndexOutOfBoundsException" ["java/lang/RuntimeException", "java/lang/Exception"]).filter goodWord)
def wsX2_widened_r1 : List Cond := [Cond.fieldLink RX2 66 "TypedColumns$Column" "kind" "I", Cond.classLink RX2 9 RX0, Cond.instantiable RX0 4, Cond.initialized RX0, Cond.fieldLink RX2 76 "TypedColumns$Column" "length" "I", Cond.methodLink RX2 62 yX2_columnAt, Cond.instanceMethod yX2_columnAt, Cond.selects RX2 yX2_columnAt yX2_columnAt, Cond.initialized RX2, Cond.code yX2_columnAt cX2_columnAt 3 (some (.object "TypedColumns$Column")), Cond.classLink RX2 139 "java/lang/IndexOutOfBoundsException", Cond.initialized "java/lang/IndexOutOfBoundsException", Cond.fieldLink RX2 11 "TypedColumns" "columns" "[LTypedColumns$Column;", Cond.methodLink RX2 107 yX2_refuseWithoutCells, Cond.static yX2_refuseWithoutCells, Cond.code yX2_refuseWithoutCells cX2_refuseWithoutCells 1 none, Cond.classLink RX2 37 "java/lang/IllegalArgumentException", Cond.initialized "java/lang/IllegalArgumentException", Cond.methodLink RX2 44 yX2_holdsCells, Cond.static yX2_holdsCells, Cond.code yX2_holdsCells cX2_holdsCells 1 (some .boolean), Cond.methodLink RX2 52 yX2_refuseWhenFull, Cond.instanceMethod yX2_refuseWhenFull, Cond.selects RX2 yX2_refuseWhenFull yX2_refuseWhenFull]
def wsX2_widened_r2 : List Cond := [Cond.code yX2_refuseWhenFull cX2_refuseWhenFull 1 none, Cond.classLink RX2 159 "java/lang/IllegalStateException", Cond.initialized "java/lang/IllegalStateException", Cond.fieldLink RX2 26 "TypedColumns" "created" "I", Cond.methodLink RX2 69 yX2_codeOfColumn, Cond.static yX2_codeOfColumn, Cond.code yX2_codeOfColumn cX2_codeOfColumn 1 (some .int), Cond.methodLink RX2 131 yX2_widens, Cond.static yX2_widens, Cond.code yX2_widens cX2_widens 2 (some .boolean), Cond.methodLink RX2 72 yX2_note, Cond.instanceMethod yX2_note, Cond.selects RX2 yX2_note yX2_note, Cond.code yX2_note cX2_note 2 (some .int), Cond.fieldLink RX2 15 "TypedColumns" "counts" "[I", Cond.fieldLink RX2 30 "TypedColumns" "latestCode" "I", Cond.methodLink RX2 55 yX0_init, Cond.instanceMethod yX0_init, Cond.code yX0_init cX0_init 4 none, Cond.methodLink RX0 3 objectInit, Cond.instanceMethod objectInit, Cond.code objectInit ⟨#[0xb1]⟩ 1 none, Cond.fieldLink RX0 16 "TypedColumns$Column" "kind" "I", Cond.fieldLink RX0 22 "TypedColumns$Column" "length" "I"]
def wsX2_widened_r3 : List Cond := [Cond.arrayClass .long, Cond.fieldLink RX0 28 "TypedColumns$Column" "wholes" "[J", Cond.arrayClass .double, Cond.fieldLink RX0 32 "TypedColumns$Column" "reals" "[D", Cond.static yX2_isLength, Cond.code yX2_isLength cX2_isLength 1 (some .boolean), Cond.static yX2_isFloating, Cond.code yX2_isFloating cX2_isFloating 1 (some .boolean), Cond.methodLink RX2 135 yX0_takeWidened, Cond.instanceMethod yX0_takeWidened, Cond.selects RX0 yX0_takeWidened yX0_takeWidened, Cond.code yX0_takeWidened cX0_takeWidened 3 none, Cond.methodLink RX0 36 yX0_realAt, Cond.instanceMethod yX0_realAt, Cond.selects RX0 yX0_realAt yX0_realAt, Cond.code yX0_realAt cX0_realAt 2 (some .double), Cond.methodLink RX0 48 yX0_putReal, Cond.instanceMethod yX0_putReal, Cond.selects RX0 yX0_putReal yX0_putReal, Cond.code yX0_putReal cX0_putReal 4 none, Cond.methodLink RX0 40 yX0_wholeAt, Cond.instanceMethod yX0_wholeAt, Cond.selects RX0 yX0_wholeAt yX0_wholeAt, Cond.code yX0_wholeAt cX0_wholeAt 2 (some .long)]
def wsX2_widened_r4 : List Cond := [Cond.methodLink RX0 62 yX0_putWhole, Cond.instanceMethod yX0_putWhole, Cond.selects RX0 yX0_putWhole yX0_putWhole, Cond.code yX0_putWhole cX0_putWhole 4 none, Cond.methodLink RX2 58 yX2_addColumn, Cond.instanceMethod yX2_addColumn, Cond.selects RX2 yX2_addColumn yX2_addColumn, Cond.code yX2_addColumn cX2_addColumn 3 (some .int)]
def wsX2_widened : List Cond := .code yX2_widened cX2_widened 6 (some .int) :: ((wsX2_widened_r1 ++ (wsX2_widened_r2 ++ (wsX2_widened_r3 ++ wsX2_widened_r4))) ++ wsX00 ++ wsX20 ++ (vx_atS RX2 143 "java/lang/IndexOutOfBoundsException" ["java/lang/RuntimeException", "java/lang/Exception"]).filter goodWord ++ (vx_atS RX2 41 "java/lang/IllegalArgumentException" ["java/lang/RuntimeException", "java/lang/Exception"]).filter goodWord ++ (vx_atS RX2 163 "java/lang/IllegalStateException" ["java/lang/RuntimeException", "java/lang/Exception"]).filter goodWord)
def wsX2_code : List Cond := .code yX2_code cX2_code 1 (some .int) :: ([.fieldLink RX2 30 "TypedColumns" "latestCode" "I"] ++ wsX20)
def wsX2_count : List Cond := .code yX2_count cX2_count 2 (some .int) :: ([.classLink RX2 139 "java/lang/IndexOutOfBoundsException", .initialized "java/lang/IndexOutOfBoundsException", .fieldLink RX2 15 "TypedColumns" "counts" "[I"] ++ wsX20 ++ (vx_atS RX2 143 "java/lang/IndexOutOfBoundsException" ["java/lang/RuntimeException", "java/lang/Exception"]).filter goodWord)
def wsJ0_isLatin1_aae02 : List Cond := .code yJ0_isLatin1_aae02 cJ0_isLatin1_aae02 1 (some .boolean) :: ([.fieldLink RJ0 38 "java/lang/String" "COMPACT_STRINGS" "Z", .fieldLink RJ0 15 "java/lang/String" "coder" "B"])
def wsJ3_checkIndex_8e157 : List Cond := .code yJ3_checkIndex_8e157 cJ3_checkIndex_8e157 3 (some .int) :: ([])
def wsJ0_checkIndex_df160 : List Cond := .code yJ0_checkIndex_df160 cJ0_checkIndex_df160 2 none :: ([.fieldLink RJ0 1053 "jdk/internal/util/Preconditions" "SIOOBE_FORMATTER" "Ljava/util/function/BiFunction;", .methodLink RJ0 1059 yJ3_checkIndex_8e157, .static yJ3_checkIndex_8e157, .initialized RJ3, .code yJ3_checkIndex_8e157 cJ3_checkIndex_8e157 3 (some .int)])
def wsJ1_charAt_3b067 : List Cond := .code yJ1_charAt_3b067 cJ1_charAt_3b067 2 (some .char) :: ([.methodLink RJ1 9 yJ0_checkIndex_df160, .static yJ0_checkIndex_df160, .initialized RJ0, .code yJ0_checkIndex_df160 cJ0_checkIndex_df160 2 none, .fieldLink RJ0 1053 "jdk/internal/util/Preconditions" "SIOOBE_FORMATTER" "Ljava/util/function/BiFunction;", .methodLink RJ0 1059 yJ3_checkIndex_8e157, .static yJ3_checkIndex_8e157, .initialized RJ3, .code yJ3_checkIndex_8e157 cJ3_checkIndex_8e157 3 (some .int)])
def wsJ2_length_9d52b : List Cond := .code yJ2_length_9d52b cJ2_length_9d52b 1 (some .int) :: ([])
def wsJ2_checkIndex_2214a : List Cond := .code yJ2_checkIndex_2214a cJ2_checkIndex_2214a 2 none :: ([.methodLink RJ2 48 yJ2_length_9d52b, .static yJ2_length_9d52b, .initialized RJ2, .code yJ2_length_9d52b cJ2_length_9d52b 1 (some .int), .methodLink RJ2 414 yJ0_checkIndex_df160, .static yJ0_checkIndex_df160, .initialized RJ0, .code yJ0_checkIndex_df160 cJ0_checkIndex_df160 2 none, .fieldLink RJ0 1053 "jdk/internal/util/Preconditions" "SIOOBE_FORMATTER" "Ljava/util/function/BiFunction;", .methodLink RJ0 1059 yJ3_checkIndex_8e157, .static yJ3_checkIndex_8e157, .initialized RJ3, .code yJ3_checkIndex_8e157 cJ3_checkIndex_8e157 3 (some .int)])
def wsJ2_getChar_3b067 : List Cond := .code yJ2_getChar_3b067 cJ2_getChar_3b067 2 (some .char) :: ([.fieldLink RJ2 44 "java/lang/StringUTF16" "$assertionsDisabled" "Z", .fieldLink RJ2 59 "java/lang/StringUTF16" "HI_BYTE_SHIFT" "I", .fieldLink RJ2 63 "java/lang/StringUTF16" "LO_BYTE_SHIFT" "I", .methodLink RJ2 48 yJ2_length_9d52b, .static yJ2_length_9d52b, .initialized RJ2, .code yJ2_length_9d52b cJ2_length_9d52b 1 (some .int)])
def wsJ2_charAt_3b067 : List Cond := .code yJ2_charAt_3b067 cJ2_charAt_3b067 2 (some .char) :: ([.methodLink RJ2 67 yJ2_checkIndex_2214a, .static yJ2_checkIndex_2214a, .initialized RJ2, .code yJ2_checkIndex_2214a cJ2_checkIndex_2214a 2 none, .methodLink RJ2 48 yJ2_length_9d52b, .static yJ2_length_9d52b, .code yJ2_length_9d52b cJ2_length_9d52b 1 (some .int), .methodLink RJ2 414 yJ0_checkIndex_df160, .static yJ0_checkIndex_df160, .initialized RJ0, .code yJ0_checkIndex_df160 cJ0_checkIndex_df160 2 none, .fieldLink RJ0 1053 "jdk/internal/util/Preconditions" "SIOOBE_FORMATTER" "Ljava/util/function/BiFunction;", .methodLink RJ0 1059 yJ3_checkIndex_8e157, .static yJ3_checkIndex_8e157, .initialized RJ3, .code yJ3_checkIndex_8e157 cJ3_checkIndex_8e157 3 (some .int), .methodLink RJ2 71 yJ2_getChar_3b067, .static yJ2_getChar_3b067, .code yJ2_getChar_3b067 cJ2_getChar_3b067 2 (some .char), .fieldLink RJ2 44 "java/lang/StringUTF16" "$assertionsDisabled" "Z", .fieldLink RJ2 59 "java/lang/StringUTF16" "HI_BYTE_SHIFT" "I", .fieldLink RJ2 63 "java/lang/StringUTF16" "LO_BYTE_SHIFT" "I"])
def wsJ0_charAt_5068e_r1 : List Cond := [Cond.fieldLink RJ0 9 "java/lang/String" "value" "[B", Cond.methodLink RJ0 492 yJ0_isLatin1_aae02, Cond.instanceMethod yJ0_isLatin1_aae02, Cond.selects RJ0 yJ0_isLatin1_aae02 yJ0_isLatin1_aae02, Cond.initialized RJ0, Cond.code yJ0_isLatin1_aae02 cJ0_isLatin1_aae02 1 (some .boolean), Cond.fieldLink RJ0 38 "java/lang/String" "COMPACT_STRINGS" "Z", Cond.fieldLink RJ0 15 "java/lang/String" "coder" "B", Cond.methodLink RJ0 495 yJ1_charAt_3b067, Cond.static yJ1_charAt_3b067, Cond.initialized RJ1, Cond.code yJ1_charAt_3b067 cJ1_charAt_3b067 2 (some .char), Cond.methodLink RJ1 9 yJ0_checkIndex_df160, Cond.static yJ0_checkIndex_df160, Cond.code yJ0_checkIndex_df160 cJ0_checkIndex_df160 2 none, Cond.fieldLink RJ0 1053 "jdk/internal/util/Preconditions" "SIOOBE_FORMATTER" "Ljava/util/function/BiFunction;", Cond.methodLink RJ0 1059 yJ3_checkIndex_8e157, Cond.static yJ3_checkIndex_8e157, Cond.initialized RJ3, Cond.code yJ3_checkIndex_8e157 cJ3_checkIndex_8e157 3 (some .int), Cond.methodLink RJ0 498 yJ2_charAt_3b067, Cond.static yJ2_charAt_3b067, Cond.initialized RJ2, Cond.code yJ2_charAt_3b067 cJ2_charAt_3b067 2 (some .char)]
def wsJ0_charAt_5068e_r2 : List Cond := [Cond.methodLink RJ2 67 yJ2_checkIndex_2214a, Cond.static yJ2_checkIndex_2214a, Cond.code yJ2_checkIndex_2214a cJ2_checkIndex_2214a 2 none, Cond.methodLink RJ2 48 yJ2_length_9d52b, Cond.static yJ2_length_9d52b, Cond.code yJ2_length_9d52b cJ2_length_9d52b 1 (some .int), Cond.methodLink RJ2 414 yJ0_checkIndex_df160, Cond.methodLink RJ2 71 yJ2_getChar_3b067, Cond.static yJ2_getChar_3b067, Cond.code yJ2_getChar_3b067 cJ2_getChar_3b067 2 (some .char), Cond.fieldLink RJ2 44 "java/lang/StringUTF16" "$assertionsDisabled" "Z", Cond.fieldLink RJ2 59 "java/lang/StringUTF16" "HI_BYTE_SHIFT" "I", Cond.fieldLink RJ2 63 "java/lang/StringUTF16" "LO_BYTE_SHIFT" "I"]
def wsJ0_charAt_5068e : List Cond := .code yJ0_charAt_5068e cJ0_charAt_5068e 2 (some .char) :: ((wsJ0_charAt_5068e_r1 ++ wsJ0_charAt_5068e_r2))
def wsL_below : List Cond := .code yL_below cL_below 2 (some .int) :: ([.constant RL 7 (2147483647)])
def wsL_cell : List Cond := .code yL_cell cL_cell 2 (some .int) :: ([.constant RL 8 (790386105)])
def wsL_widens_r1 : List Cond := [Cond.methodLink RL 25 yJ0_charAt_5068e, Cond.instanceMethod yJ0_charAt_5068e, Cond.selects RJ0 yJ0_charAt_5068e yJ0_charAt_5068e, Cond.initialized RJ0, Cond.code yJ0_charAt_5068e cJ0_charAt_5068e 2 (some .char), Cond.fieldLink RJ0 9 "java/lang/String" "value" "[B", Cond.methodLink RJ0 492 yJ0_isLatin1_aae02, Cond.instanceMethod yJ0_isLatin1_aae02, Cond.selects RJ0 yJ0_isLatin1_aae02 yJ0_isLatin1_aae02, Cond.code yJ0_isLatin1_aae02 cJ0_isLatin1_aae02 1 (some .boolean), Cond.fieldLink RJ0 38 "java/lang/String" "COMPACT_STRINGS" "Z", Cond.fieldLink RJ0 15 "java/lang/String" "coder" "B", Cond.methodLink RJ0 495 yJ1_charAt_3b067, Cond.static yJ1_charAt_3b067, Cond.initialized RJ1, Cond.code yJ1_charAt_3b067 cJ1_charAt_3b067 2 (some .char), Cond.methodLink RJ1 9 yJ0_checkIndex_df160, Cond.static yJ0_checkIndex_df160, Cond.code yJ0_checkIndex_df160 cJ0_checkIndex_df160 2 none, Cond.fieldLink RJ0 1053 "jdk/internal/util/Preconditions" "SIOOBE_FORMATTER" "Ljava/util/function/BiFunction;", Cond.methodLink RJ0 1059 yJ3_checkIndex_8e157, Cond.static yJ3_checkIndex_8e157, Cond.initialized RJ3, Cond.code yJ3_checkIndex_8e157 cJ3_checkIndex_8e157 3 (some .int)]
def wsL_widens_r2 : List Cond := [Cond.methodLink RJ0 498 yJ2_charAt_3b067, Cond.static yJ2_charAt_3b067, Cond.initialized RJ2, Cond.code yJ2_charAt_3b067 cJ2_charAt_3b067 2 (some .char), Cond.methodLink RJ2 67 yJ2_checkIndex_2214a, Cond.static yJ2_checkIndex_2214a, Cond.code yJ2_checkIndex_2214a cJ2_checkIndex_2214a 2 none, Cond.methodLink RJ2 48 yJ2_length_9d52b, Cond.static yJ2_length_9d52b, Cond.code yJ2_length_9d52b cJ2_length_9d52b 1 (some .int), Cond.methodLink RJ2 414 yJ0_checkIndex_df160, Cond.methodLink RJ2 71 yJ2_getChar_3b067, Cond.static yJ2_getChar_3b067, Cond.code yJ2_getChar_3b067 cJ2_getChar_3b067 2 (some .char), Cond.fieldLink RJ2 44 "java/lang/StringUTF16" "$assertionsDisabled" "Z", Cond.fieldLink RJ2 59 "java/lang/StringUTF16" "HI_BYTE_SHIFT" "I", Cond.fieldLink RJ2 63 "java/lang/StringUTF16" "LO_BYTE_SHIFT" "I"]
def wsL_widens : List Cond := .code yL_widens cL_widens 3 (some .boolean) :: ((wsL_widens_r1 ++ wsL_widens_r2))
def wsL_made : List Cond := .code yL_made cL_made 2 (some .long) :: ([])
def wsL_law0_r1 : List Cond := [Cond.classLink RL 31 RX2, Cond.instantiable RX2 5, Cond.initialized RX2, Cond.arrayClass .double, Cond.arrayClass .int, Cond.methodLink RL 33 yX2_init, Cond.instanceMethod yX2_init, Cond.code yX2_init cX2_init 1 none, Cond.methodLink RX2 1 objectInit, Cond.instanceMethod objectInit, Cond.code objectInit ⟨#[0xb1]⟩ 1 none, Cond.classLink RX2 9 RX0, Cond.fieldLink RX2 11 "TypedColumns" "columns" "[LTypedColumns$Column;", Cond.fieldLink RX2 15 "TypedColumns" "counts" "[I", Cond.classLink RX2 19 RX1, Cond.instantiable RX1 1, Cond.initialized RX1, Cond.fieldLink RX2 22 "TypedColumns" "doubleBits" "LTypedColumns$DoubleBits;", Cond.fieldLink RX2 26 "TypedColumns" "created" "I", Cond.fieldLink RX2 30 "TypedColumns" "latestCode" "I", Cond.methodLink RX2 21 yX1_init, Cond.instanceMethod yX1_init, Cond.code yX1_init cX1_init 4 none, Cond.methodLink RX1 1 objectInit]
def wsL_law0_r2 : List Cond := [Cond.fieldLink RX1 9 "TypedColumns$DoubleBits" "powers" "[D", Cond.constantDouble RX1 13 (4611686018427387904), Cond.methodLink RL 34 yL_cell, Cond.static yL_cell, Cond.initialized RL, Cond.code yL_cell cL_cell 2 (some .int), Cond.constant RL 8 (790386105), Cond.methodLink RL 40 yL_below, Cond.static yL_below, Cond.code yL_below cL_below 2 (some .int), Cond.constant RL 7 (2147483647), Cond.methodLink RL 44 yX2_create, Cond.instanceMethod yX2_create, Cond.selects RX2 yX2_create yX2_create, Cond.code yX2_create cX2_create 3 (some .int), Cond.classLink RX2 37 "java/lang/IllegalArgumentException", Cond.initialized "java/lang/IllegalArgumentException", Cond.instantiable RX0 4, Cond.initialized RX0, Cond.methodLink RX2 33 yX2_isKind, Cond.static yX2_isKind, Cond.code yX2_isKind cX2_isKind 1 (some .boolean), Cond.methodLink RX2 44 yX2_holdsCells, Cond.static yX2_holdsCells]
def wsL_law0_r3 : List Cond := [Cond.code yX2_holdsCells cX2_holdsCells 1 (some .boolean), Cond.methodLink RX2 47 yX2_isLength, Cond.static yX2_isLength, Cond.code yX2_isLength cX2_isLength 1 (some .boolean), Cond.methodLink RX2 52 yX2_refuseWhenFull, Cond.instanceMethod yX2_refuseWhenFull, Cond.selects RX2 yX2_refuseWhenFull yX2_refuseWhenFull, Cond.code yX2_refuseWhenFull cX2_refuseWhenFull 1 none, Cond.classLink RX2 159 "java/lang/IllegalStateException", Cond.initialized "java/lang/IllegalStateException", Cond.methodLink RX2 55 yX0_init, Cond.instanceMethod yX0_init, Cond.code yX0_init cX0_init 4 none, Cond.methodLink RX0 3 objectInit, Cond.fieldLink RX0 16 "TypedColumns$Column" "kind" "I", Cond.fieldLink RX0 22 "TypedColumns$Column" "length" "I", Cond.arrayClass .long, Cond.fieldLink RX0 28 "TypedColumns$Column" "wholes" "[J", Cond.fieldLink RX0 32 "TypedColumns$Column" "reals" "[D", Cond.static yX2_isFloating, Cond.code yX2_isFloating cX2_isFloating 1 (some .boolean), Cond.methodLink RX2 58 yX2_addColumn, Cond.instanceMethod yX2_addColumn, Cond.selects RX2 yX2_addColumn yX2_addColumn]
def wsL_law0_r4 : List Cond := [Cond.code yX2_addColumn cX2_addColumn 3 (some .int), Cond.methodLink RL 47 yL_widens, Cond.static yL_widens, Cond.code yL_widens cL_widens 3 (some .boolean), Cond.methodLink RL 25 yJ0_charAt_5068e, Cond.instanceMethod yJ0_charAt_5068e, Cond.selects RJ0 yJ0_charAt_5068e yJ0_charAt_5068e, Cond.initialized RJ0, Cond.code yJ0_charAt_5068e cJ0_charAt_5068e 2 (some .char), Cond.fieldLink RJ0 9 "java/lang/String" "value" "[B", Cond.methodLink RJ0 492 yJ0_isLatin1_aae02, Cond.instanceMethod yJ0_isLatin1_aae02, Cond.selects RJ0 yJ0_isLatin1_aae02 yJ0_isLatin1_aae02, Cond.code yJ0_isLatin1_aae02 cJ0_isLatin1_aae02 1 (some .boolean), Cond.fieldLink RJ0 38 "java/lang/String" "COMPACT_STRINGS" "Z", Cond.fieldLink RJ0 15 "java/lang/String" "coder" "B", Cond.methodLink RJ0 495 yJ1_charAt_3b067, Cond.static yJ1_charAt_3b067, Cond.initialized RJ1, Cond.code yJ1_charAt_3b067 cJ1_charAt_3b067 2 (some .char), Cond.methodLink RJ1 9 yJ0_checkIndex_df160, Cond.static yJ0_checkIndex_df160, Cond.code yJ0_checkIndex_df160 cJ0_checkIndex_df160 2 none, Cond.fieldLink RJ0 1053 "jdk/internal/util/Preconditions" "SIOOBE_FORMATTER" "Ljava/util/function/BiFunction;"]
def wsL_law0_r5 : List Cond := [Cond.methodLink RJ0 1059 yJ3_checkIndex_8e157, Cond.static yJ3_checkIndex_8e157, Cond.initialized RJ3, Cond.code yJ3_checkIndex_8e157 cJ3_checkIndex_8e157 3 (some .int), Cond.methodLink RJ0 498 yJ2_charAt_3b067, Cond.static yJ2_charAt_3b067, Cond.initialized RJ2, Cond.code yJ2_charAt_3b067 cJ2_charAt_3b067 2 (some .char), Cond.methodLink RJ2 67 yJ2_checkIndex_2214a, Cond.static yJ2_checkIndex_2214a, Cond.code yJ2_checkIndex_2214a cJ2_checkIndex_2214a 2 none, Cond.methodLink RJ2 48 yJ2_length_9d52b, Cond.static yJ2_length_9d52b, Cond.code yJ2_length_9d52b cJ2_length_9d52b 1 (some .int), Cond.methodLink RJ2 414 yJ0_checkIndex_df160, Cond.methodLink RJ2 71 yJ2_getChar_3b067, Cond.static yJ2_getChar_3b067, Cond.code yJ2_getChar_3b067 cJ2_getChar_3b067 2 (some .char), Cond.fieldLink RJ2 44 "java/lang/StringUTF16" "$assertionsDisabled" "Z", Cond.fieldLink RJ2 59 "java/lang/StringUTF16" "HI_BYTE_SHIFT" "I", Cond.fieldLink RJ2 63 "java/lang/StringUTF16" "LO_BYTE_SHIFT" "I", Cond.methodLink RL 51 yX2_writeAny, Cond.instanceMethod yX2_writeAny, Cond.selects RX2 yX2_writeAny yX2_writeAny]
def wsL_law0_r6 : List Cond := [Cond.code yX2_writeAny cX2_writeAny 6 (some .int), Cond.methodLink RX2 62 yX2_columnAt, Cond.instanceMethod yX2_columnAt, Cond.selects RX2 yX2_columnAt yX2_columnAt, Cond.code yX2_columnAt cX2_columnAt 3 (some (.object "TypedColumns$Column")), Cond.classLink RX2 139 "java/lang/IndexOutOfBoundsException", Cond.initialized "java/lang/IndexOutOfBoundsException", Cond.methodLink RX2 107 yX2_refuseWithoutCells, Cond.static yX2_refuseWithoutCells, Cond.code yX2_refuseWithoutCells cX2_refuseWithoutCells 1 none, Cond.methodLink RX2 103 yX2_writeReal, Cond.instanceMethod yX2_writeReal, Cond.selects RX2 yX2_writeReal yX2_writeReal, Cond.code yX2_writeReal cX2_writeReal 7 (some .int), Cond.fieldLink RX2 66 "TypedColumns$Column" "kind" "I", Cond.methodLink RX2 83 yX2_codeOfCell, Cond.static yX2_codeOfCell, Cond.code yX2_codeOfCell cX2_codeOfCell 5 (some .int), Cond.fieldLink RX2 76 "TypedColumns$Column" "length" "I", Cond.methodLink RX2 69 yX2_codeOfColumn, Cond.static yX2_codeOfColumn, Cond.code yX2_codeOfColumn cX2_codeOfColumn 1 (some .int), Cond.methodLink RX2 131 yX2_widens, Cond.static yX2_widens]
def wsL_law0_r7 : List Cond := [Cond.code yX2_widens cX2_widens 2 (some .boolean), Cond.methodLink RX2 72 yX2_note, Cond.instanceMethod yX2_note, Cond.selects RX2 yX2_note yX2_note, Cond.code yX2_note cX2_note 2 (some .int), Cond.methodLink RX2 178 yX0_putReal, Cond.instanceMethod yX0_putReal, Cond.selects RX0 yX0_putReal yX0_putReal, Cond.code yX0_putReal cX0_putReal 4 none, Cond.methodLink RX2 111 yX2_wholeMadeFrom, Cond.static yX2_wholeMadeFrom, Cond.code yX2_wholeMadeFrom cX2_wholeMadeFrom 2 (some .long), Cond.methodLink RX2 95 yX2_writeWhole, Cond.instanceMethod yX2_writeWhole, Cond.selects RX2 yX2_writeWhole yX2_writeWhole, Cond.code yX2_writeWhole cX2_writeWhole 7 (some .int), Cond.methodLink RX2 174 yX0_putWhole, Cond.instanceMethod yX0_putWhole, Cond.selects RX0 yX0_putWhole yX0_putWhole, Cond.code yX0_putWhole cX0_putWhole 4 none, Cond.methodLink RX0 48 yX0_putReal, Cond.methodLink RL 55 yL_made, Cond.static yL_made, Cond.code yL_made cL_made 2 (some .long)]
def wsL_law0_r8 : List Cond := [Cond.methodLink RL 59 yX2_copy, Cond.instanceMethod yX2_copy, Cond.selects RX2 yX2_copy yX2_copy, Cond.code yX2_copy cX2_copy 9 (some .int), Cond.methodLink RX2 115 yX2_codeOfKinds, Cond.static yX2_codeOfKinds, Cond.code yX2_codeOfKinds cX2_codeOfKinds 3 (some .int), Cond.methodLink RX2 119 yX2_isPart, Cond.static yX2_isPart, Cond.code yX2_isPart cX2_isPart 3 (some .boolean), Cond.methodLink RX2 123 yX0_takeCells, Cond.instanceMethod yX0_takeCells, Cond.selects RX0 yX0_takeCells yX0_takeCells, Cond.code yX0_takeCells cX0_takeCells 5 none, Cond.methodLink RX0 56 arraycopyName, Cond.native arraycopyName, Cond.static arraycopyName, Cond.initialized "java/lang/System", Cond.methodLink RL 63 yX2_widened, Cond.instanceMethod yX2_widened, Cond.selects RX2 yX2_widened yX2_widened, Cond.code yX2_widened cX2_widened 6 (some .int), Cond.methodLink RX2 135 yX0_takeWidened, Cond.instanceMethod yX0_takeWidened]
def wsL_law0_r9 : List Cond := [Cond.selects RX0 yX0_takeWidened yX0_takeWidened, Cond.code yX0_takeWidened cX0_takeWidened 3 none, Cond.methodLink RX0 36 yX0_realAt, Cond.instanceMethod yX0_realAt, Cond.selects RX0 yX0_realAt yX0_realAt, Cond.code yX0_realAt cX0_realAt 2 (some .double), Cond.methodLink RX0 40 yX0_wholeAt, Cond.instanceMethod yX0_wholeAt, Cond.selects RX0 yX0_wholeAt yX0_wholeAt, Cond.code yX0_wholeAt cX0_wholeAt 2 (some .long), Cond.methodLink RX0 62 yX0_putWhole, Cond.methodLink RL 66 yX2_code, Cond.instanceMethod yX2_code, Cond.selects RX2 yX2_code yX2_code, Cond.code yX2_code cX2_code 1 (some .int), Cond.methodLink RL 70 yX2_readAny, Cond.instanceMethod yX2_readAny, Cond.selects RX2 yX2_readAny yX2_readAny, Cond.code yX2_readAny cX2_readAny 4 (some .double), Cond.methodLink RX2 91 yX2_readReal, Cond.instanceMethod yX2_readReal, Cond.selects RX2 yX2_readReal yX2_readReal, Cond.code yX2_readReal cX2_readReal 5 (some .double), Cond.methodLink RX2 170 yX0_doubleAt]
def wsL_law0_r10 : List Cond := [Cond.instanceMethod yX0_doubleAt, Cond.selects RX0 yX0_doubleAt yX0_doubleAt, Cond.code yX0_doubleAt cX0_doubleAt 2 (some .double), Cond.methodLink RL 74 yX2_total, Cond.instanceMethod yX2_total, Cond.selects RX2 yX2_total yX2_total, Cond.code yX2_total cX2_total 4 (some .double), Cond.methodLink RX2 127 yX0_sum, Cond.instanceMethod yX0_sum, Cond.selects RX0 yX0_sum yX0_sum, Cond.code yX0_sum cX0_sum 4 (some .double), Cond.methodLink RX0 66 yX0_doubleAt, Cond.static yX2_sumOf, Cond.code yX2_sumOf cX2_sumOf 4 (some .double), Cond.methodLink RX2 196 yX2_isInfinite, Cond.static yX2_isInfinite, Cond.code yX2_isInfinite cX2_isInfinite 2 (some .boolean), Cond.constantDouble RX2 192 (9218868437227405311), Cond.constantDouble RX2 194 (18442240474082181119), Cond.methodLink RX2 185 yX2_noNumber, Cond.static yX2_noNumber, Cond.code yX2_noNumber cX2_noNumber 0 (some .double), Cond.constantDouble RX2 182 (9221120237041090560), Cond.methodLink RL 78 yX2_count]
def wsL_law0_r11 : List Cond := [Cond.instanceMethod yX2_count, Cond.selects RX2 yX2_count yX2_count, Cond.code yX2_count cX2_count 2 (some .int), Cond.methodLink RL 82 yX2_columnCount, Cond.instanceMethod yX2_columnCount, Cond.selects RX2 yX2_columnCount yX2_columnCount, Cond.code yX2_columnCount cX2_columnCount 1 (some .int)]
def wsL_law0 : List Cond := (wsL_law0_r1 ++ (wsL_law0_r2 ++ (wsL_law0_r3 ++ (wsL_law0_r4 ++ (wsL_law0_r5 ++ (wsL_law0_r6 ++ (wsL_law0_r7 ++ (wsL_law0_r8 ++ (wsL_law0_r9 ++ (wsL_law0_r10 ++ wsL_law0_r11)))))))))) ++ wsX20 ++ wsX10 ++ wsX00 ++ ([] : List Cond)
def wsL_law : List Cond := wsL_law0 ++ (vx_atS RX2 41 "java/lang/IllegalArgumentException" ["java/lang/RuntimeException", "java/lang/Exception"]).filter goodWord ++ (vx_atS RX2 163 "java/lang/IllegalStateException" ["java/lang/RuntimeException", "java/lang/Exception"]).filter goodWord ++ (vx_atS RX2 143 "java/lang/IndexOutOfBoundsException" ["java/lang/RuntimeException", "java/lang/Exception"]).filter goodWord
end
section
set_option maxRecDepth 20000 in
theorem wsL_law_in0_r1 : ∀ w ∈ wsL_law0_r1, w ∈ lw_tbl := fun w h => (goodIn_p wsL_law0_r1 [27, 30, 37] (by decide +kernel) (by decide +kernel) w h).1
set_option maxRecDepth 20000 in
theorem wsL_law_in0_r2 : ∀ w ∈ wsL_law0_r2, w ∈ lw_tbl := fun w h => (goodIn_p wsL_law0_r2 [342, 338, 65, 68] (by decide +kernel) (by decide +kernel) w h).1
set_option maxRecDepth 20000 in
theorem wsL_law_in0_r3 : ∀ w ∈ wsL_law0_r3, w ∈ lw_tbl := fun w h => (goodIn_p wsL_law0_r3 [139, 142, 147, 167, 173] (by decide +kernel) (by decide +kernel) w h).1
set_option maxRecDepth 20000 in
theorem wsL_law_in0_r4 : ∀ w ∈ wsL_law0_r4, w ∈ lw_tbl := fun w h => (goodIn_p wsL_law0_r4 [193, 346, 358, 362, 367, 370] (by decide +kernel) (by decide +kernel) w h).1
set_option maxRecDepth 20000 in
theorem wsL_law_in0_r5 : ∀ w ∈ wsL_law0_r5, w ∈ lw_tbl := fun w h => (goodIn_p wsL_law0_r5 [375, 378, 381, 384, 388] (by decide +kernel) (by decide +kernel) w h).1
set_option maxRecDepth 20000 in
theorem wsL_law_in0_r6 : ∀ w ∈ wsL_law0_r6, w ∈ lw_tbl := fun w h => (goodIn_p wsL_law0_r6 [254, 205, 257, 262, 228, 231] (by decide +kernel) (by decide +kernel) w h).1
set_option maxRecDepth 20000 in
theorem wsL_law_in0_r7 : ∀ w ∈ wsL_law0_r7, w ∈ lw_tbl := fun w h => (goodIn_p wsL_law0_r7 [234, 238, 266, 269, 273, 277, 397] (by decide +kernel) (by decide +kernel) w h).1
set_option maxRecDepth 20000 in
theorem wsL_law_in0_r8 : ∀ w ∈ wsL_law0_r8, w ∈ lw_tbl := fun w h => (goodIn_p wsL_law0_r8 [282, 285, 288, 292, 321] (by decide +kernel) (by decide +kernel) w h).1
set_option maxRecDepth 20000 in
theorem wsL_law_in0_r9 : ∀ w ∈ wsL_law0_r9, w ∈ lw_tbl := fun w h => (goodIn_p wsL_law0_r9 [325, 246, 250, 330, 201, 225] (by decide +kernel) (by decide +kernel) w h).1
set_option maxRecDepth 20000 in
theorem wsL_law_in0_r10 : ∀ w ∈ wsL_law0_r10, w ∈ lw_tbl := fun w h => (goodIn_p wsL_law0_r10 [242, 300, 304, 308, 311, 316] (by decide +kernel) (by decide +kernel) w h).1
set_option maxRecDepth 20000 in
theorem wsL_law_in0_r11 : ∀ w ∈ wsL_law0_r11, w ∈ lw_tbl := fun w h => (goodIn_p wsL_law0_r11 [334, 197] (by decide +kernel) (by decide +kernel) w h).1
theorem wsL_law_in0_X20 : ∀ w ∈ wsX20, w ∈ lw_tbl := by decide +kernel
theorem wsL_law_in0_X10 : ∀ w ∈ wsX10, w ∈ lw_tbl := by decide +kernel
theorem wsL_law_in0_X00 : ∀ w ∈ wsX00, w ∈ lw_tbl := by decide +kernel
theorem wsL_law_in0 : ∀ w ∈ wsL_law0, w ∈ lw_tbl := by
  unfold wsL_law0
  exact (List.forall_mem_append.mpr ⟨(List.forall_mem_append.mpr ⟨(List.forall_mem_append.mpr ⟨(List.forall_mem_append.mpr ⟨(List.forall_mem_append.mpr ⟨wsL_law_in0_r1, (List.forall_mem_append.mpr ⟨wsL_law_in0_r2, (List.forall_mem_append.mpr ⟨wsL_law_in0_r3, (List.forall_mem_append.mpr ⟨wsL_law_in0_r4, (List.forall_mem_append.mpr ⟨wsL_law_in0_r5, (List.forall_mem_append.mpr ⟨wsL_law_in0_r6, (List.forall_mem_append.mpr ⟨wsL_law_in0_r7, (List.forall_mem_append.mpr ⟨wsL_law_in0_r8, (List.forall_mem_append.mpr ⟨wsL_law_in0_r9, (List.forall_mem_append.mpr ⟨wsL_law_in0_r10, wsL_law_in0_r11⟩)⟩)⟩)⟩)⟩)⟩)⟩)⟩)⟩)⟩), wsL_law_in0_X20⟩), wsL_law_in0_X10⟩), wsL_law_in0_X00⟩), fun _ h => absurd h List.not_mem_nil⟩)
theorem wsL_law_x0 : ∀ w ∈ (vx_atS RX2 41 "java/lang/IllegalArgumentException" ["java/lang/RuntimeException", "java/lang/Exception"]).filter goodWord, w ∈ lw_tbl := by decide +kernel
theorem wsL_law_x1 : ∀ w ∈ (vx_atS RX2 163 "java/lang/IllegalStateException" ["java/lang/RuntimeException", "java/lang/Exception"]).filter goodWord, w ∈ lw_tbl := by decide +kernel
theorem wsL_law_x2 : ∀ w ∈ (vx_atS RX2 143 "java/lang/IndexOutOfBoundsException" ["java/lang/RuntimeException", "java/lang/Exception"]).filter goodWord, w ∈ lw_tbl := by decide +kernel
theorem wsL_law_in : ∀ w ∈ wsL_law, w ∈ lw_tbl := fun w h => (List.mem_append.mp h).elim (fun h => (List.mem_append.mp h).elim (fun h => (List.mem_append.mp h).elim (fun h => wsL_law_in0 w h) (fun h => wsL_law_x0 w h)) (fun h => wsL_law_x1 w h)) (fun h => wsL_law_x2 w h)
theorem inlX0 : ∀ w ∈ wsX00, w ∈ wsL_law := fun _ h => List.mem_append_left _ (List.mem_append_left _ (List.mem_append_left _ (List.mem_append_left _ (List.mem_append_right _ h))))
theorem inX0 : ∀ w ∈ wsX00, w ∈ lw_tbl := fun w h => wsL_law_in w (inlX0 w h)
theorem inlX1 : ∀ w ∈ wsX10, w ∈ wsL_law := fun _ h => List.mem_append_left _ (List.mem_append_left _ (List.mem_append_left _ (List.mem_append_left _ (List.mem_append_left _ (List.mem_append_right _ h)))))
theorem inX1 : ∀ w ∈ wsX10, w ∈ lw_tbl := fun w h => wsL_law_in w (inlX1 w h)
theorem inlX2 : ∀ w ∈ wsX20, w ∈ wsL_law := fun _ h => List.mem_append_left _ (List.mem_append_left _ (List.mem_append_left _ (List.mem_append_left _ (List.mem_append_left _ (List.mem_append_left _ (List.mem_append_right _ h))))))
theorem inX2 : ∀ w ∈ wsX20, w ∈ lw_tbl := fun w h => wsL_law_in w (inlX2 w h)
theorem inX3 : ∀ w ∈ wsX30, w ∈ lw_tbl := by decide +kernel
theorem inJ0 : ∀ w ∈ wsJ00, w ∈ lw_tbl := by decide +kernel
theorem inJ1 : ∀ w ∈ wsJ10, w ∈ lw_tbl := by decide +kernel
theorem inJ2 : ∀ w ∈ wsJ20, w ∈ lw_tbl := by decide +kernel
theorem inJ10 : ∀ w ∈ wsJ100, w ∈ lw_tbl := by decide +kernel
theorem inJ3 : ∀ w ∈ wsJ30, w ∈ lw_tbl := by decide +kernel
end
section
set_option maxRecDepth 20000 in
theorem ggX0_init_X2_holdsCells : GoodIn wsX0_init wsX2_holdsCells := goodIn_r _ [12] (by decide +kernel) (by decide +kernel)
set_option maxRecDepth 20000 in
theorem gX0_init_X2_holdsCells_n9 : GoodIn wsX0_init (wsX2_holdsCells) := ggX0_init_X2_holdsCells
set_option maxRecDepth 20000 in
theorem ggX0_init_X2_isLength : GoodIn wsX0_init wsX2_isLength := goodIn_r _ [14] (by decide +kernel) (by decide +kernel)
set_option maxRecDepth 20000 in
theorem gX0_init_X2_isLength_n13 : GoodIn wsX0_init (wsX2_isLength) := ggX0_init_X2_isLength
set_option maxRecDepth 20000 in
theorem ggX0_init_X2_isFloating : GoodIn wsX0_init wsX2_isFloating := goodIn_r _ [16] (by decide +kernel) (by decide +kernel)
set_option maxRecDepth 20000 in
theorem gX0_init_X2_isFloating_n25 : GoodIn wsX0_init (wsX2_isFloating) := ggX0_init_X2_isFloating
theorem dX0_init_0 : decode cX0_init 0 = .ok (.aload_n 0, 1) := by decide +kernel
theorem dX0_init_1 : decode cX0_init 1 = .ok (.invokespecial 3, 3) := by decide +kernel
theorem dX0_init_4 : decode cX0_init 4 = .ok (.iload_n 1, 1) := by decide +kernel
theorem dX0_init_5 : decode cX0_init 5 = .ok (.invokestatic 9, 3) := by decide +kernel
theorem dX0_init_8 : decode cX0_init 8 = .ok (.ifCond .eq 14, 3) := by decide +kernel
theorem dX0_init_11 : decode cX0_init 11 = .ok (.iload_n 2, 1) := by decide +kernel
theorem dX0_init_12 : decode cX0_init 12 = .ok (.invokestatic 13, 3) := by decide +kernel
theorem dX0_init_15 : decode cX0_init 15 = .ok (.ifCond .eq 7, 3) := by decide +kernel
theorem dX0_init_18 : decode cX0_init 18 = .ok (.iload_n 2, 1) := by decide +kernel
theorem dX0_init_19 : decode cX0_init 19 = .ok (.goto 4, 3) := by decide +kernel
theorem dX0_init_22 : decode cX0_init 22 = .ok (.iconst 0, 1) := by decide +kernel
theorem dX0_init_23 : decode cX0_init 23 = .ok (.istore_n 3, 1) := by decide +kernel
theorem dX0_init_24 : decode cX0_init 24 = .ok (.aload_n 0, 1) := by decide +kernel
theorem dX0_init_25 : decode cX0_init 25 = .ok (.iload_n 1, 1) := by decide +kernel
theorem dX0_init_26 : decode cX0_init 26 = .ok (.putfield 16, 3) := by decide +kernel
theorem dX0_init_29 : decode cX0_init 29 = .ok (.aload_n 0, 1) := by decide +kernel
theorem dX0_init_30 : decode cX0_init 30 = .ok (.iload_n 1, 1) := by decide +kernel
theorem dX0_init_31 : decode cX0_init 31 = .ok (.invokestatic 9, 3) := by decide +kernel
theorem dX0_init_34 : decode cX0_init 34 = .ok (.ifCond .eq 7, 3) := by decide +kernel
theorem dX0_init_37 : decode cX0_init 37 = .ok (.iload_n 3, 1) := by decide +kernel
theorem dX0_init_38 : decode cX0_init 38 = .ok (.goto 4, 3) := by decide +kernel
theorem dX0_init_41 : decode cX0_init 41 = .ok (.iconst (-1), 1) := by decide +kernel
theorem dX0_init_42 : decode cX0_init 42 = .ok (.putfield 22, 3) := by decide +kernel
theorem dX0_init_45 : decode cX0_init 45 = .ok (.aload_n 0, 1) := by decide +kernel
theorem dX0_init_46 : decode cX0_init 46 = .ok (.iload_n 1, 1) := by decide +kernel
theorem dX0_init_47 : decode cX0_init 47 = .ok (.invokestatic 25, 3) := by decide +kernel
theorem dX0_init_50 : decode cX0_init 50 = .ok (.ifCond .eq 7, 3) := by decide +kernel
theorem dX0_init_53 : decode cX0_init 53 = .ok (.iconst 0, 1) := by decide +kernel
theorem dX0_init_54 : decode cX0_init 54 = .ok (.goto 4, 3) := by decide +kernel
theorem dX0_init_57 : decode cX0_init 57 = .ok (.iload_n 3, 1) := by decide +kernel
theorem dX0_init_58 : decode cX0_init 58 = .ok (.newarray .long, 2) := by decide +kernel
theorem dX0_init_60 : decode cX0_init 60 = .ok (.putfield 28, 3) := by decide +kernel
theorem dX0_init_63 : decode cX0_init 63 = .ok (.aload_n 0, 1) := by decide +kernel
theorem dX0_init_64 : decode cX0_init 64 = .ok (.iload_n 1, 1) := by decide +kernel
theorem dX0_init_65 : decode cX0_init 65 = .ok (.invokestatic 25, 3) := by decide +kernel
theorem dX0_init_68 : decode cX0_init 68 = .ok (.ifCond .eq 7, 3) := by decide +kernel
theorem dX0_init_71 : decode cX0_init 71 = .ok (.iload_n 3, 1) := by decide +kernel
theorem dX0_init_72 : decode cX0_init 72 = .ok (.goto 4, 3) := by decide +kernel
theorem dX0_init_75 : decode cX0_init 75 = .ok (.iconst 0, 1) := by decide +kernel
theorem dX0_init_76 : decode cX0_init 76 = .ok (.newarray .double, 2) := by decide +kernel
theorem dX0_init_78 : decode cX0_init 78 = .ok (.putfield 32, 3) := by decide +kernel
theorem dX0_init_81 : decode cX0_init 81 = .ok (.return_, 1) := by decide +kernel
theorem dX0_wholeAt_0 : decode cX0_wholeAt 0 = .ok (.iload_n 1, 1) := by decide +kernel
theorem dX0_wholeAt_1 : decode cX0_wholeAt 1 = .ok (.ifCond .lt 21, 3) := by decide +kernel
theorem dX0_wholeAt_4 : decode cX0_wholeAt 4 = .ok (.iload_n 1, 1) := by decide +kernel
theorem dX0_wholeAt_5 : decode cX0_wholeAt 5 = .ok (.aload_n 0, 1) := by decide +kernel
theorem dX0_wholeAt_6 : decode cX0_wholeAt 6 = .ok (.getfield 28, 3) := by decide +kernel
theorem dX0_wholeAt_9 : decode cX0_wholeAt 9 = .ok (.arraylength, 1) := by decide +kernel
theorem dX0_wholeAt_10 : decode cX0_wholeAt 10 = .ok (.if_icmp .ge 12, 3) := by decide +kernel
theorem dX0_wholeAt_13 : decode cX0_wholeAt 13 = .ok (.aload_n 0, 1) := by decide +kernel
theorem dX0_wholeAt_14 : decode cX0_wholeAt 14 = .ok (.getfield 28, 3) := by decide +kernel
theorem dX0_wholeAt_17 : decode cX0_wholeAt 17 = .ok (.iload_n 1, 1) := by decide +kernel
theorem dX0_wholeAt_18 : decode cX0_wholeAt 18 = .ok (.laload, 1) := by decide +kernel
theorem dX0_wholeAt_19 : decode cX0_wholeAt 19 = .ok (.goto 4, 3) := by decide +kernel
theorem dX0_wholeAt_22 : decode cX0_wholeAt 22 = .ok (.lconst 0, 1) := by decide +kernel
theorem dX0_wholeAt_23 : decode cX0_wholeAt 23 = .ok (.lreturn, 1) := by decide +kernel
theorem dX0_realAt_0 : decode cX0_realAt 0 = .ok (.iload_n 1, 1) := by decide +kernel
theorem dX0_realAt_1 : decode cX0_realAt 1 = .ok (.ifCond .lt 21, 3) := by decide +kernel
theorem dX0_realAt_4 : decode cX0_realAt 4 = .ok (.iload_n 1, 1) := by decide +kernel
theorem dX0_realAt_5 : decode cX0_realAt 5 = .ok (.aload_n 0, 1) := by decide +kernel
theorem dX0_realAt_6 : decode cX0_realAt 6 = .ok (.getfield 32, 3) := by decide +kernel
theorem dX0_realAt_9 : decode cX0_realAt 9 = .ok (.arraylength, 1) := by decide +kernel
theorem dX0_realAt_10 : decode cX0_realAt 10 = .ok (.if_icmp .ge 12, 3) := by decide +kernel
theorem dX0_realAt_13 : decode cX0_realAt 13 = .ok (.aload_n 0, 1) := by decide +kernel
theorem dX0_realAt_14 : decode cX0_realAt 14 = .ok (.getfield 32, 3) := by decide +kernel
theorem dX0_realAt_17 : decode cX0_realAt 17 = .ok (.iload_n 1, 1) := by decide +kernel
theorem dX0_realAt_18 : decode cX0_realAt 18 = .ok (.daload, 1) := by decide +kernel
theorem dX0_realAt_19 : decode cX0_realAt 19 = .ok (.goto 4, 3) := by decide +kernel
theorem dX0_realAt_22 : decode cX0_realAt 22 = .ok (.dconst 0, 1) := by decide +kernel
theorem dX0_realAt_23 : decode cX0_realAt 23 = .ok (.dreturn, 1) := by decide +kernel
set_option maxRecDepth 20000 in
theorem ggX0_doubleAt_X2_isFloating : GoodIn wsX0_doubleAt wsX2_isFloating := goodIn_r _ [4] (by decide +kernel) (by decide +kernel)
set_option maxRecDepth 20000 in
theorem gX0_doubleAt_X2_isFloating_n25 : GoodIn wsX0_doubleAt (wsX2_isFloating) := ggX0_doubleAt_X2_isFloating
set_option maxRecDepth 20000 in
theorem ggX0_doubleAt_X0_realAt : GoodIn wsX0_doubleAt wsX0_realAt := goodIn_r _ [9, 10, 16, 17, 18, 19] (by decide +kernel) (by decide +kernel)
set_option maxRecDepth 20000 in
theorem gX0_doubleAt_X0_realAt : GoodIn wsX0_doubleAt (wsV RX0 36 RX0 yX0_realAt wsX0_realAt) := goodIn_app (goodIn_of _ (by decide +kernel)) ggX0_doubleAt_X0_realAt
set_option maxRecDepth 20000 in
theorem ggX0_doubleAt_X0_wholeAt : GoodIn wsX0_doubleAt wsX0_wholeAt := goodIn_r _ [14, 15, 16, 17, 18, 19] (by decide +kernel) (by decide +kernel)
set_option maxRecDepth 20000 in
theorem gX0_doubleAt_X0_wholeAt : GoodIn wsX0_doubleAt (wsV RX0 40 RX0 yX0_wholeAt wsX0_wholeAt) := goodIn_app (goodIn_of _ (by decide +kernel)) ggX0_doubleAt_X0_wholeAt
theorem dX0_doubleAt_0 : decode cX0_doubleAt 0 = .ok (.aload_n 0, 1) := by decide +kernel
theorem dX0_doubleAt_1 : decode cX0_doubleAt 1 = .ok (.getfield 16, 3) := by decide +kernel
theorem dX0_doubleAt_4 : decode cX0_doubleAt 4 = .ok (.invokestatic 25, 3) := by decide +kernel
theorem dX0_doubleAt_7 : decode cX0_doubleAt 7 = .ok (.ifCond .eq 11, 3) := by decide +kernel
theorem dX0_doubleAt_10 : decode cX0_doubleAt 10 = .ok (.aload_n 0, 1) := by decide +kernel
theorem dX0_doubleAt_11 : decode cX0_doubleAt 11 = .ok (.iload_n 1, 1) := by decide +kernel
theorem dX0_doubleAt_12 : decode cX0_doubleAt 12 = .ok (.invokevirtual 36, 3) := by decide +kernel
theorem dX0_doubleAt_15 : decode cX0_doubleAt 15 = .ok (.goto 9, 3) := by decide +kernel
theorem dX0_doubleAt_18 : decode cX0_doubleAt 18 = .ok (.aload_n 0, 1) := by decide +kernel
theorem dX0_doubleAt_19 : decode cX0_doubleAt 19 = .ok (.iload_n 1, 1) := by decide +kernel
theorem dX0_doubleAt_20 : decode cX0_doubleAt 20 = .ok (.invokevirtual 40, 3) := by decide +kernel
theorem dX0_doubleAt_23 : decode cX0_doubleAt 23 = .ok (.l2d, 1) := by decide +kernel
theorem dX0_doubleAt_24 : decode cX0_doubleAt 24 = .ok (.dreturn, 1) := by decide +kernel
set_option maxRecDepth 20000 in
theorem ggX0_putWhole_X0_putReal : GoodIn wsX0_putWhole wsX0_putReal := goodIn_r _ [7, 8, 9, 10, 11, 12] (by decide +kernel) (by decide +kernel)
set_option maxRecDepth 20000 in
theorem gX0_putWhole_X0_putReal : GoodIn wsX0_putWhole (wsV RX0 48 RX0 yX0_putReal wsX0_putReal) := goodIn_app (goodIn_of _ (by decide +kernel)) ggX0_putWhole_X0_putReal
theorem dX0_putWhole_0 : decode cX0_putWhole 0 = .ok (.aload_n 0, 1) := by decide +kernel
theorem dX0_putWhole_1 : decode cX0_putWhole 1 = .ok (.getfield 16, 3) := by decide +kernel
theorem dX0_putWhole_4 : decode cX0_putWhole 4 = .ok (.bipush 7, 2) := by decide +kernel
theorem dX0_putWhole_6 : decode cX0_putWhole 6 = .ok (.if_icmp .ne 14, 3) := by decide +kernel
theorem dX0_putWhole_9 : decode cX0_putWhole 9 = .ok (.aload_n 0, 1) := by decide +kernel
theorem dX0_putWhole_10 : decode cX0_putWhole 10 = .ok (.iload_n 1, 1) := by decide +kernel
theorem dX0_putWhole_11 : decode cX0_putWhole 11 = .ok (.lload_n 2, 1) := by decide +kernel
theorem dX0_putWhole_12 : decode cX0_putWhole 12 = .ok (.l2f, 1) := by decide +kernel
theorem dX0_putWhole_13 : decode cX0_putWhole 13 = .ok (.f2d, 1) := by decide +kernel
theorem dX0_putWhole_14 : decode cX0_putWhole 14 = .ok (.invokevirtual 48, 3) := by decide +kernel
theorem dX0_putWhole_17 : decode cX0_putWhole 17 = .ok (.goto 42, 3) := by decide +kernel
theorem dX0_putWhole_20 : decode cX0_putWhole 20 = .ok (.aload_n 0, 1) := by decide +kernel
theorem dX0_putWhole_21 : decode cX0_putWhole 21 = .ok (.getfield 16, 3) := by decide +kernel
theorem dX0_putWhole_24 : decode cX0_putWhole 24 = .ok (.bipush 8, 2) := by decide +kernel
theorem dX0_putWhole_26 : decode cX0_putWhole 26 = .ok (.if_icmp .ne 13, 3) := by decide +kernel
theorem dX0_putWhole_29 : decode cX0_putWhole 29 = .ok (.aload_n 0, 1) := by decide +kernel
theorem dX0_putWhole_30 : decode cX0_putWhole 30 = .ok (.iload_n 1, 1) := by decide +kernel
theorem dX0_putWhole_31 : decode cX0_putWhole 31 = .ok (.lload_n 2, 1) := by decide +kernel
theorem dX0_putWhole_32 : decode cX0_putWhole 32 = .ok (.l2d, 1) := by decide +kernel
theorem dX0_putWhole_33 : decode cX0_putWhole 33 = .ok (.invokevirtual 48, 3) := by decide +kernel
theorem dX0_putWhole_36 : decode cX0_putWhole 36 = .ok (.goto 23, 3) := by decide +kernel
theorem dX0_putWhole_39 : decode cX0_putWhole 39 = .ok (.iload_n 1, 1) := by decide +kernel
theorem dX0_putWhole_40 : decode cX0_putWhole 40 = .ok (.ifCond .lt 19, 3) := by decide +kernel
theorem dX0_putWhole_43 : decode cX0_putWhole 43 = .ok (.iload_n 1, 1) := by decide +kernel
theorem dX0_putWhole_44 : decode cX0_putWhole 44 = .ok (.aload_n 0, 1) := by decide +kernel
theorem dX0_putWhole_45 : decode cX0_putWhole 45 = .ok (.getfield 28, 3) := by decide +kernel
theorem dX0_putWhole_48 : decode cX0_putWhole 48 = .ok (.arraylength, 1) := by decide +kernel
theorem dX0_putWhole_49 : decode cX0_putWhole 49 = .ok (.if_icmp .ge 10, 3) := by decide +kernel
theorem dX0_putWhole_52 : decode cX0_putWhole 52 = .ok (.aload_n 0, 1) := by decide +kernel
theorem dX0_putWhole_53 : decode cX0_putWhole 53 = .ok (.getfield 28, 3) := by decide +kernel
theorem dX0_putWhole_56 : decode cX0_putWhole 56 = .ok (.iload_n 1, 1) := by decide +kernel
theorem dX0_putWhole_57 : decode cX0_putWhole 57 = .ok (.lload_n 2, 1) := by decide +kernel
theorem dX0_putWhole_58 : decode cX0_putWhole 58 = .ok (.lastore, 1) := by decide +kernel
theorem dX0_putWhole_59 : decode cX0_putWhole 59 = .ok (.return_, 1) := by decide +kernel
theorem dX0_putReal_0 : decode cX0_putReal 0 = .ok (.iload_n 1, 1) := by decide +kernel
theorem dX0_putReal_1 : decode cX0_putReal 1 = .ok (.ifCond .lt 19, 3) := by decide +kernel
theorem dX0_putReal_4 : decode cX0_putReal 4 = .ok (.iload_n 1, 1) := by decide +kernel
theorem dX0_putReal_5 : decode cX0_putReal 5 = .ok (.aload_n 0, 1) := by decide +kernel
theorem dX0_putReal_6 : decode cX0_putReal 6 = .ok (.getfield 32, 3) := by decide +kernel
theorem dX0_putReal_9 : decode cX0_putReal 9 = .ok (.arraylength, 1) := by decide +kernel
theorem dX0_putReal_10 : decode cX0_putReal 10 = .ok (.if_icmp .ge 10, 3) := by decide +kernel
theorem dX0_putReal_13 : decode cX0_putReal 13 = .ok (.aload_n 0, 1) := by decide +kernel
theorem dX0_putReal_14 : decode cX0_putReal 14 = .ok (.getfield 32, 3) := by decide +kernel
theorem dX0_putReal_17 : decode cX0_putReal 17 = .ok (.iload_n 1, 1) := by decide +kernel
theorem dX0_putReal_18 : decode cX0_putReal 18 = .ok (.dload_n 2, 1) := by decide +kernel
theorem dX0_putReal_19 : decode cX0_putReal 19 = .ok (.dastore, 1) := by decide +kernel
theorem dX0_putReal_20 : decode cX0_putReal 20 = .ok (.return_, 1) := by decide +kernel
set_option maxRecDepth 20000 in
theorem ggX0_takeCells_X2_isPart : GoodIn wsX0_takeCells wsX2_isPart := goodIn_r _ [9] (by decide +kernel) (by decide +kernel)
set_option maxRecDepth 20000 in
theorem gX0_takeCells_X2_isPart_n52 : GoodIn wsX0_takeCells (wsX2_isPart) := ggX0_takeCells_X2_isPart
theorem dX0_takeCells_0 : decode cX0_takeCells 0 = .ok (.iload_n 2, 1) := by decide +kernel
theorem dX0_takeCells_1 : decode cX0_takeCells 1 = .ok (.iload 4, 2) := by decide +kernel
theorem dX0_takeCells_3 : decode cX0_takeCells 3 = .ok (.aload_n 1, 1) := by decide +kernel
theorem dX0_takeCells_4 : decode cX0_takeCells 4 = .ok (.getfield 28, 3) := by decide +kernel
theorem dX0_takeCells_7 : decode cX0_takeCells 7 = .ok (.arraylength, 1) := by decide +kernel
theorem dX0_takeCells_8 : decode cX0_takeCells 8 = .ok (.invokestatic 52, 3) := by decide +kernel
theorem dX0_takeCells_11 : decode cX0_takeCells 11 = .ok (.ifCond .eq 32, 3) := by decide +kernel
theorem dX0_takeCells_14 : decode cX0_takeCells 14 = .ok (.iload_n 3, 1) := by decide +kernel
theorem dX0_takeCells_15 : decode cX0_takeCells 15 = .ok (.iload 4, 2) := by decide +kernel
theorem dX0_takeCells_17 : decode cX0_takeCells 17 = .ok (.aload_n 0, 1) := by decide +kernel
theorem dX0_takeCells_18 : decode cX0_takeCells 18 = .ok (.getfield 28, 3) := by decide +kernel
theorem dX0_takeCells_21 : decode cX0_takeCells 21 = .ok (.arraylength, 1) := by decide +kernel
theorem dX0_takeCells_22 : decode cX0_takeCells 22 = .ok (.invokestatic 52, 3) := by decide +kernel
theorem dX0_takeCells_25 : decode cX0_takeCells 25 = .ok (.ifCond .eq 18, 3) := by decide +kernel
theorem dX0_takeCells_28 : decode cX0_takeCells 28 = .ok (.aload_n 1, 1) := by decide +kernel
theorem dX0_takeCells_29 : decode cX0_takeCells 29 = .ok (.getfield 28, 3) := by decide +kernel
theorem dX0_takeCells_32 : decode cX0_takeCells 32 = .ok (.iload_n 2, 1) := by decide +kernel
theorem dX0_takeCells_33 : decode cX0_takeCells 33 = .ok (.aload_n 0, 1) := by decide +kernel
theorem dX0_takeCells_34 : decode cX0_takeCells 34 = .ok (.getfield 28, 3) := by decide +kernel
theorem dX0_takeCells_37 : decode cX0_takeCells 37 = .ok (.iload_n 3, 1) := by decide +kernel
theorem dX0_takeCells_38 : decode cX0_takeCells 38 = .ok (.iload 4, 2) := by decide +kernel
theorem dX0_takeCells_40 : decode cX0_takeCells 40 = .ok (.invokestatic 56, 3) := by decide +kernel
theorem dX0_takeCells_43 : decode cX0_takeCells 43 = .ok (.iload_n 2, 1) := by decide +kernel
theorem dX0_takeCells_44 : decode cX0_takeCells 44 = .ok (.iload 4, 2) := by decide +kernel
theorem dX0_takeCells_46 : decode cX0_takeCells 46 = .ok (.aload_n 1, 1) := by decide +kernel
theorem dX0_takeCells_47 : decode cX0_takeCells 47 = .ok (.getfield 32, 3) := by decide +kernel
theorem dX0_takeCells_50 : decode cX0_takeCells 50 = .ok (.arraylength, 1) := by decide +kernel
theorem dX0_takeCells_51 : decode cX0_takeCells 51 = .ok (.invokestatic 52, 3) := by decide +kernel
theorem dX0_takeCells_54 : decode cX0_takeCells 54 = .ok (.ifCond .eq 32, 3) := by decide +kernel
theorem dX0_takeCells_57 : decode cX0_takeCells 57 = .ok (.iload_n 3, 1) := by decide +kernel
theorem dX0_takeCells_58 : decode cX0_takeCells 58 = .ok (.iload 4, 2) := by decide +kernel
theorem dX0_takeCells_60 : decode cX0_takeCells 60 = .ok (.aload_n 0, 1) := by decide +kernel
theorem dX0_takeCells_61 : decode cX0_takeCells 61 = .ok (.getfield 32, 3) := by decide +kernel
theorem dX0_takeCells_64 : decode cX0_takeCells 64 = .ok (.arraylength, 1) := by decide +kernel
theorem dX0_takeCells_65 : decode cX0_takeCells 65 = .ok (.invokestatic 52, 3) := by decide +kernel
theorem dX0_takeCells_68 : decode cX0_takeCells 68 = .ok (.ifCond .eq 18, 3) := by decide +kernel
theorem dX0_takeCells_71 : decode cX0_takeCells 71 = .ok (.aload_n 1, 1) := by decide +kernel
theorem dX0_takeCells_72 : decode cX0_takeCells 72 = .ok (.getfield 32, 3) := by decide +kernel
theorem dX0_takeCells_75 : decode cX0_takeCells 75 = .ok (.iload_n 2, 1) := by decide +kernel
theorem dX0_takeCells_76 : decode cX0_takeCells 76 = .ok (.aload_n 0, 1) := by decide +kernel
theorem dX0_takeCells_77 : decode cX0_takeCells 77 = .ok (.getfield 32, 3) := by decide +kernel
theorem dX0_takeCells_80 : decode cX0_takeCells 80 = .ok (.iload_n 3, 1) := by decide +kernel
theorem dX0_takeCells_81 : decode cX0_takeCells 81 = .ok (.iload 4, 2) := by decide +kernel
theorem dX0_takeCells_83 : decode cX0_takeCells 83 = .ok (.invokestatic 56, 3) := by decide +kernel
theorem dX0_takeCells_86 : decode cX0_takeCells 86 = .ok (.return_, 1) := by decide +kernel
set_option maxRecDepth 20000 in
theorem ggX0_takeWidened_X2_isFloating : GoodIn wsX0_takeWidened wsX2_isFloating := goodIn_r _ [5] (by decide +kernel) (by decide +kernel)
set_option maxRecDepth 20000 in
theorem gX0_takeWidened_X2_isFloating_n25 : GoodIn wsX0_takeWidened (wsX2_isFloating) := ggX0_takeWidened_X2_isFloating
set_option maxRecDepth 20000 in
theorem ggX0_takeWidened_X0_realAt : GoodIn wsX0_takeWidened wsX0_realAt := goodIn_r _ [10, 11, 25, 26, 27, 28] (by decide +kernel) (by decide +kernel)
set_option maxRecDepth 20000 in
theorem gX0_takeWidened_X0_realAt : GoodIn wsX0_takeWidened (wsV RX0 36 RX0 yX0_realAt wsX0_realAt) := goodIn_app (goodIn_of _ (by decide +kernel)) ggX0_takeWidened_X0_realAt
set_option maxRecDepth 20000 in
theorem ggX0_takeWidened_X0_putReal : GoodIn wsX0_takeWidened wsX0_putReal := goodIn_r _ [15, 11, 25, 26, 27, 28] (by decide +kernel) (by decide +kernel)
set_option maxRecDepth 20000 in
theorem gX0_takeWidened_X0_putReal : GoodIn wsX0_takeWidened (wsV RX0 48 RX0 yX0_putReal wsX0_putReal) := goodIn_app (goodIn_of _ (by decide +kernel)) ggX0_takeWidened_X0_putReal
set_option maxRecDepth 20000 in
theorem ggX0_takeWidened_X0_wholeAt : GoodIn wsX0_takeWidened wsX0_wholeAt := goodIn_r _ [19, 20, 25, 26, 27, 28] (by decide +kernel) (by decide +kernel)
set_option maxRecDepth 20000 in
theorem gX0_takeWidened_X0_wholeAt : GoodIn wsX0_takeWidened (wsV RX0 40 RX0 yX0_wholeAt wsX0_wholeAt) := goodIn_app (goodIn_of _ (by decide +kernel)) ggX0_takeWidened_X0_wholeAt
set_option maxRecDepth 20000 in
theorem ggX0_takeWidened_X0_putWhole : GoodIn wsX0_takeWidened wsX0_putWhole := goodIn_r _ [24, 2, 20, 12, 13, 14, 9, 15, 11, 25, 26, 27, 28] (by decide +kernel) (by decide +kernel)
set_option maxRecDepth 20000 in
theorem gX0_takeWidened_X0_putWhole : GoodIn wsX0_takeWidened (wsV RX0 62 RX0 yX0_putWhole wsX0_putWhole) := goodIn_app (goodIn_of _ (by decide +kernel)) ggX0_takeWidened_X0_putWhole
theorem dX0_takeWidened_0 : decode cX0_takeWidened 0 = .ok (.iconst 0, 1) := by decide +kernel
theorem dX0_takeWidened_1 : decode cX0_takeWidened 1 = .ok (.istore_n 2, 1) := by decide +kernel
theorem dX0_takeWidened_2 : decode cX0_takeWidened 2 = .ok (.iload_n 2, 1) := by decide +kernel
theorem dX0_takeWidened_3 : decode cX0_takeWidened 3 = .ok (.aload_n 1, 1) := by decide +kernel
theorem dX0_takeWidened_4 : decode cX0_takeWidened 4 = .ok (.getfield 22, 3) := by decide +kernel
theorem dX0_takeWidened_7 : decode cX0_takeWidened 7 = .ok (.if_icmp .ge 42, 3) := by decide +kernel
theorem dX0_takeWidened_10 : decode cX0_takeWidened 10 = .ok (.aload_n 1, 1) := by decide +kernel
theorem dX0_takeWidened_11 : decode cX0_takeWidened 11 = .ok (.getfield 16, 3) := by decide +kernel
theorem dX0_takeWidened_14 : decode cX0_takeWidened 14 = .ok (.invokestatic 25, 3) := by decide +kernel
theorem dX0_takeWidened_17 : decode cX0_takeWidened 17 = .ok (.ifCond .eq 16, 3) := by decide +kernel
theorem dX0_takeWidened_20 : decode cX0_takeWidened 20 = .ok (.aload_n 0, 1) := by decide +kernel
theorem dX0_takeWidened_21 : decode cX0_takeWidened 21 = .ok (.iload_n 2, 1) := by decide +kernel
theorem dX0_takeWidened_22 : decode cX0_takeWidened 22 = .ok (.aload_n 1, 1) := by decide +kernel
theorem dX0_takeWidened_23 : decode cX0_takeWidened 23 = .ok (.iload_n 2, 1) := by decide +kernel
theorem dX0_takeWidened_24 : decode cX0_takeWidened 24 = .ok (.invokevirtual 36, 3) := by decide +kernel
theorem dX0_takeWidened_27 : decode cX0_takeWidened 27 = .ok (.invokevirtual 48, 3) := by decide +kernel
theorem dX0_takeWidened_30 : decode cX0_takeWidened 30 = .ok (.goto 13, 3) := by decide +kernel
theorem dX0_takeWidened_33 : decode cX0_takeWidened 33 = .ok (.aload_n 0, 1) := by decide +kernel
theorem dX0_takeWidened_34 : decode cX0_takeWidened 34 = .ok (.iload_n 2, 1) := by decide +kernel
theorem dX0_takeWidened_35 : decode cX0_takeWidened 35 = .ok (.aload_n 1, 1) := by decide +kernel
theorem dX0_takeWidened_36 : decode cX0_takeWidened 36 = .ok (.iload_n 2, 1) := by decide +kernel
theorem dX0_takeWidened_37 : decode cX0_takeWidened 37 = .ok (.invokevirtual 40, 3) := by decide +kernel
theorem dX0_takeWidened_40 : decode cX0_takeWidened 40 = .ok (.invokevirtual 62, 3) := by decide +kernel
theorem dX0_takeWidened_43 : decode cX0_takeWidened 43 = .ok (.iinc 2 1, 3) := by decide +kernel
theorem dX0_takeWidened_46 : decode cX0_takeWidened 46 = .ok (.goto (-44), 3) := by decide +kernel
theorem dX0_takeWidened_49 : decode cX0_takeWidened 49 = .ok (.return_, 1) := by decide +kernel
set_option maxRecDepth 20000 in
theorem ggX0_sum_X0_doubleAt : GoodIn wsX0_sum wsX0_doubleAt := goodIn_r _ [6, 7, 8, 9, 10, 11, 12, 13, 5, 14, 15, 16, 17, 18, 19, 20, 32, 33, 34, 35] (by decide +kernel) (by decide +kernel)
set_option maxRecDepth 20000 in
theorem gX0_sum_X0_doubleAt : GoodIn wsX0_sum (wsV RX0 66 RX0 yX0_doubleAt wsX0_doubleAt) := goodIn_app (goodIn_of _ (by decide +kernel)) ggX0_sum_X0_doubleAt
set_option maxRecDepth 20000 in
theorem ggX0_sum_X2_sumOf : GoodIn wsX0_sum wsX2_sumOf := goodIn_r _ [22, 23, 24, 9, 25, 26, 27, 28, 29, 30, 31] (by decide +kernel) (by decide +kernel)
set_option maxRecDepth 20000 in
theorem gX0_sum_X2_sumOf_n69 : GoodIn wsX0_sum (wsX2_sumOf) := ggX0_sum_X2_sumOf
theorem dX0_sum_0 : decode cX0_sum 0 = .ok (.dconst 0, 1) := by decide +kernel
theorem dX0_sum_1 : decode cX0_sum 1 = .ok (.dstore_n 1, 1) := by decide +kernel
theorem dX0_sum_2 : decode cX0_sum 2 = .ok (.iconst 0, 1) := by decide +kernel
theorem dX0_sum_3 : decode cX0_sum 3 = .ok (.istore_n 3, 1) := by decide +kernel
theorem dX0_sum_4 : decode cX0_sum 4 = .ok (.iload_n 3, 1) := by decide +kernel
theorem dX0_sum_5 : decode cX0_sum 5 = .ok (.aload_n 0, 1) := by decide +kernel
theorem dX0_sum_6 : decode cX0_sum 6 = .ok (.getfield 22, 3) := by decide +kernel
theorem dX0_sum_9 : decode cX0_sum 9 = .ok (.if_icmp .ge 19, 3) := by decide +kernel
theorem dX0_sum_12 : decode cX0_sum 12 = .ok (.dload_n 1, 1) := by decide +kernel
theorem dX0_sum_13 : decode cX0_sum 13 = .ok (.aload_n 0, 1) := by decide +kernel
theorem dX0_sum_14 : decode cX0_sum 14 = .ok (.iload_n 3, 1) := by decide +kernel
theorem dX0_sum_15 : decode cX0_sum 15 = .ok (.invokevirtual 66, 3) := by decide +kernel
theorem dX0_sum_18 : decode cX0_sum 18 = .ok (.invokestatic 69, 3) := by decide +kernel
theorem dX0_sum_21 : decode cX0_sum 21 = .ok (.dstore_n 1, 1) := by decide +kernel
theorem dX0_sum_22 : decode cX0_sum 22 = .ok (.iinc 3 1, 3) := by decide +kernel
theorem dX0_sum_25 : decode cX0_sum 25 = .ok (.goto (-21), 3) := by decide +kernel
theorem dX0_sum_28 : decode cX0_sum 28 = .ok (.dload_n 1, 1) := by decide +kernel
theorem dX0_sum_29 : decode cX0_sum 29 = .ok (.dreturn, 1) := by decide +kernel
theorem dX1_init_0 : decode cX1_init 0 = .ok (.aload_n 0, 1) := by decide +kernel
theorem dX1_init_1 : decode cX1_init 1 = .ok (.invokespecial 1, 3) := by decide +kernel
theorem dX1_init_4 : decode cX1_init 4 = .ok (.aload_n 0, 1) := by decide +kernel
theorem dX1_init_5 : decode cX1_init 5 = .ok (.bipush 10, 2) := by decide +kernel
theorem dX1_init_7 : decode cX1_init 7 = .ok (.newarray .double, 2) := by decide +kernel
theorem dX1_init_9 : decode cX1_init 9 = .ok (.putfield 9, 3) := by decide +kernel
theorem dX1_init_12 : decode cX1_init 12 = .ok (.ldc2_w 13, 3) := by decide +kernel
theorem dX1_init_15 : decode cX1_init 15 = .ok (.dstore_n 1, 1) := by decide +kernel
theorem dX1_init_16 : decode cX1_init 16 = .ok (.iconst 0, 1) := by decide +kernel
theorem dX1_init_17 : decode cX1_init 17 = .ok (.istore_n 3, 1) := by decide +kernel
theorem dX1_init_18 : decode cX1_init 18 = .ok (.iload_n 3, 1) := by decide +kernel
theorem dX1_init_19 : decode cX1_init 19 = .ok (.aload_n 0, 1) := by decide +kernel
theorem dX1_init_20 : decode cX1_init 20 = .ok (.getfield 9, 3) := by decide +kernel
theorem dX1_init_23 : decode cX1_init 23 = .ok (.arraylength, 1) := by decide +kernel
theorem dX1_init_24 : decode cX1_init 24 = .ok (.if_icmp .ge 20, 3) := by decide +kernel
theorem dX1_init_27 : decode cX1_init 27 = .ok (.aload_n 0, 1) := by decide +kernel
theorem dX1_init_28 : decode cX1_init 28 = .ok (.getfield 9, 3) := by decide +kernel
theorem dX1_init_31 : decode cX1_init 31 = .ok (.iload_n 3, 1) := by decide +kernel
theorem dX1_init_32 : decode cX1_init 32 = .ok (.dload_n 1, 1) := by decide +kernel
theorem dX1_init_33 : decode cX1_init 33 = .ok (.dastore, 1) := by decide +kernel
theorem dX1_init_34 : decode cX1_init 34 = .ok (.dload_n 1, 1) := by decide +kernel
theorem dX1_init_35 : decode cX1_init 35 = .ok (.dload_n 1, 1) := by decide +kernel
theorem dX1_init_36 : decode cX1_init 36 = .ok (.dmul, 1) := by decide +kernel
theorem dX1_init_37 : decode cX1_init 37 = .ok (.dstore_n 1, 1) := by decide +kernel
theorem dX1_init_38 : decode cX1_init 38 = .ok (.iinc 3 1, 3) := by decide +kernel
theorem dX1_init_41 : decode cX1_init 41 = .ok (.goto (-23), 3) := by decide +kernel
theorem dX1_init_44 : decode cX1_init 44 = .ok (.return_, 1) := by decide +kernel
set_option maxRecDepth 20000 in
theorem ggX2_init_X1_init : GoodIn wsX2_init wsX1_init := goodIn_r _ [16, 17, 2, 3, 18, 19, 20, 26] (by decide +kernel) (by decide +kernel)
set_option maxRecDepth 20000 in
theorem gX2_init_X1_init : GoodIn wsX2_init (wsX1_init) := ggX2_init_X1_init
theorem dX2_init_0 : decode cX2_init 0 = .ok (.aload_n 0, 1) := by decide +kernel
theorem dX2_init_1 : decode cX2_init 1 = .ok (.invokespecial 1, 3) := by decide +kernel
theorem dX2_init_4 : decode cX2_init 4 = .ok (.aload_n 0, 1) := by decide +kernel
theorem dX2_init_5 : decode cX2_init 5 = .ok (.bipush 60, 2) := by decide +kernel
theorem dX2_init_7 : decode cX2_init 7 = .ok (.anewarray 9, 3) := by decide +kernel
theorem dX2_init_10 : decode cX2_init 10 = .ok (.putfield 11, 3) := by decide +kernel
theorem dX2_init_13 : decode cX2_init 13 = .ok (.aload_n 0, 1) := by decide +kernel
theorem dX2_init_14 : decode cX2_init 14 = .ok (.bipush 6, 2) := by decide +kernel
theorem dX2_init_16 : decode cX2_init 16 = .ok (.newarray .int, 2) := by decide +kernel
theorem dX2_init_18 : decode cX2_init 18 = .ok (.putfield 15, 3) := by decide +kernel
theorem dX2_init_21 : decode cX2_init 21 = .ok (.aload_n 0, 1) := by decide +kernel
theorem dX2_init_22 : decode cX2_init 22 = .ok (.new 19, 3) := by decide +kernel
theorem dX2_init_25 : decode cX2_init 25 = .ok (.dup, 1) := by decide +kernel
theorem dX2_init_26 : decode cX2_init 26 = .ok (.invokespecial 21, 3) := by decide +kernel
theorem dX2_init_29 : decode cX2_init 29 = .ok (.putfield 22, 3) := by decide +kernel
theorem dX2_init_32 : decode cX2_init 32 = .ok (.aload_n 0, 1) := by decide +kernel
theorem dX2_init_33 : decode cX2_init 33 = .ok (.iconst 0, 1) := by decide +kernel
theorem dX2_init_34 : decode cX2_init 34 = .ok (.putfield 26, 3) := by decide +kernel
theorem dX2_init_37 : decode cX2_init 37 = .ok (.aload_n 0, 1) := by decide +kernel
theorem dX2_init_38 : decode cX2_init 38 = .ok (.iconst 0, 1) := by decide +kernel
theorem dX2_init_39 : decode cX2_init 39 = .ok (.putfield 30, 3) := by decide +kernel
theorem dX2_init_42 : decode cX2_init 42 = .ok (.return_, 1) := by decide +kernel
set_option maxRecDepth 20000 in
theorem ggX2_create_X2_isKind : GoodIn wsX2_create wsX2_isKind := goodIn_r _ [9] (by decide +kernel) (by decide +kernel)
set_option maxRecDepth 20000 in
theorem gX2_create_X2_isKind : GoodIn wsX2_create (va_wsS RX2 33 yX2_isKind wsX2_isKind) := goodIn_app (goodIn_of _ (by decide +kernel)) ggX2_create_X2_isKind
set_option maxRecDepth 20000 in
theorem ggX2_create_X2_holdsCells : GoodIn wsX2_create wsX2_holdsCells := goodIn_r _ [12] (by decide +kernel) (by decide +kernel)
set_option maxRecDepth 20000 in
theorem gX2_create_X2_holdsCells : GoodIn wsX2_create (va_wsS RX2 44 yX2_holdsCells wsX2_holdsCells) := goodIn_app (goodIn_of _ (by decide +kernel)) ggX2_create_X2_holdsCells
set_option maxRecDepth 20000 in
theorem ggX2_create_X2_isLength : GoodIn wsX2_create wsX2_isLength := goodIn_r _ [15] (by decide +kernel) (by decide +kernel)
set_option maxRecDepth 20000 in
theorem gX2_create_X2_isLength : GoodIn wsX2_create (va_wsS RX2 47 yX2_isLength wsX2_isLength) := goodIn_app (goodIn_of _ (by decide +kernel)) ggX2_create_X2_isLength
set_option maxRecDepth 20000 in
theorem ggX2_create_X2_refuseWhenFull : GoodIn wsX2_create wsX2_refuseWhenFull := goodIn_ca (goodIn_r _ [19, 20, 21, 22, 23, 46, 47, 48, 49, 50] (by decide +kernel) (by decide +kernel)) (goodIn_sub (fun _ h => List.mem_cons_of_mem _ (List.mem_append_right _ h)) (by decide +kernel))
set_option maxRecDepth 20000 in
theorem gX2_create_X2_refuseWhenFull : GoodIn wsX2_create (wsV RX2 52 RX2 yX2_refuseWhenFull wsX2_refuseWhenFull) := goodIn_app (goodIn_of _ (by decide +kernel)) ggX2_create_X2_refuseWhenFull
set_option maxRecDepth 20000 in
theorem ggX2_create_X0_init : GoodIn wsX2_create wsX0_init := goodIn_r _ [26, 27, 28, 29, 30, 31, 32, 33, 34, 35, 11, 8, 12, 14, 15, 36, 37, 42, 43, 44, 45] (by decide +kernel) (by decide +kernel)
set_option maxRecDepth 20000 in
theorem gX2_create_X0_init : GoodIn wsX2_create (wsX0_init) := ggX2_create_X0_init
set_option maxRecDepth 20000 in
theorem ggX2_create_X2_addColumn : GoodIn wsX2_create wsX2_addColumn := goodIn_r _ [41, 22, 23, 46, 47, 48, 49, 50] (by decide +kernel) (by decide +kernel)
set_option maxRecDepth 20000 in
theorem gX2_create_X2_addColumn : GoodIn wsX2_create (wsV RX2 58 RX2 yX2_addColumn wsX2_addColumn) := goodIn_app (goodIn_of _ (by decide +kernel)) ggX2_create_X2_addColumn
theorem dX2_create_0 : decode cX2_create 0 = .ok (.iload_n 1, 1) := by decide +kernel
theorem dX2_create_1 : decode cX2_create 1 = .ok (.invokestatic 33, 3) := by decide +kernel
theorem dX2_create_4 : decode cX2_create 4 = .ok (.ifCond .ne 13, 3) := by decide +kernel
theorem dX2_create_7 : decode cX2_create 7 = .ok (.new 37, 3) := by decide +kernel
theorem dX2_create_10 : decode cX2_create 10 = .ok (.dup, 1) := by decide +kernel
theorem dX2_create_11 : decode cX2_create 11 = .ok (.ldc 39, 2) := by decide +kernel
theorem dX2_create_13 : decode cX2_create 13 = .ok (.invokespecial 41, 3) := by decide +kernel
theorem dX2_create_16 : decode cX2_create 16 = .ok (.athrow, 1) := by decide +kernel
theorem dX2_create_17 : decode cX2_create 17 = .ok (.iload_n 1, 1) := by decide +kernel
theorem dX2_create_18 : decode cX2_create 18 = .ok (.invokestatic 44, 3) := by decide +kernel
theorem dX2_create_21 : decode cX2_create 21 = .ok (.ifCond .eq 20, 3) := by decide +kernel
theorem dX2_create_24 : decode cX2_create 24 = .ok (.iload_n 2, 1) := by decide +kernel
theorem dX2_create_25 : decode cX2_create 25 = .ok (.invokestatic 47, 3) := by decide +kernel
theorem dX2_create_28 : decode cX2_create 28 = .ok (.ifCond .ne 13, 3) := by decide +kernel
theorem dX2_create_31 : decode cX2_create 31 = .ok (.new 37, 3) := by decide +kernel
theorem dX2_create_34 : decode cX2_create 34 = .ok (.dup, 1) := by decide +kernel
theorem dX2_create_35 : decode cX2_create 35 = .ok (.ldc 50, 2) := by decide +kernel
theorem dX2_create_37 : decode cX2_create 37 = .ok (.invokespecial 41, 3) := by decide +kernel
theorem dX2_create_40 : decode cX2_create 40 = .ok (.athrow, 1) := by decide +kernel
theorem dX2_create_41 : decode cX2_create 41 = .ok (.aload_n 0, 1) := by decide +kernel
theorem dX2_create_42 : decode cX2_create 42 = .ok (.invokevirtual 52, 3) := by decide +kernel
theorem dX2_create_45 : decode cX2_create 45 = .ok (.aload_n 0, 1) := by decide +kernel
theorem dX2_create_46 : decode cX2_create 46 = .ok (.new 9, 3) := by decide +kernel
theorem dX2_create_49 : decode cX2_create 49 = .ok (.dup, 1) := by decide +kernel
theorem dX2_create_50 : decode cX2_create 50 = .ok (.iload_n 1, 1) := by decide +kernel
theorem dX2_create_51 : decode cX2_create 51 = .ok (.iload_n 2, 1) := by decide +kernel
theorem dX2_create_52 : decode cX2_create 52 = .ok (.invokespecial 55, 3) := by decide +kernel
theorem dX2_create_55 : decode cX2_create 55 = .ok (.invokevirtual 58, 3) := by decide +kernel
theorem dX2_create_58 : decode cX2_create 58 = .ok (.ireturn, 1) := by decide +kernel
theorem dX2_columnCount_0 : decode cX2_columnCount 0 = .ok (.aload_n 0, 1) := by decide +kernel
theorem dX2_columnCount_1 : decode cX2_columnCount 1 = .ok (.getfield 26, 3) := by decide +kernel
theorem dX2_columnCount_4 : decode cX2_columnCount 4 = .ok (.ireturn, 1) := by decide +kernel
set_option maxRecDepth 20000 in
theorem ggX2_readAny_X2_columnAt : GoodIn wsX2_readAny wsX2_columnAt := goodIn_ca (goodIn_r _ [6, 7, 8, 9, 55, 56, 57, 58, 59] (by decide +kernel) (by decide +kernel)) (goodIn_sub (fun _ h => List.mem_cons_of_mem _ (List.mem_append_right _ h)) (by decide +kernel))
set_option maxRecDepth 20000 in
theorem gX2_readAny_X2_columnAt : GoodIn wsX2_readAny (wsV RX2 62 RX2 yX2_columnAt wsX2_columnAt) := goodIn_app (goodIn_of _ (by decide +kernel)) ggX2_readAny_X2_columnAt
set_option maxRecDepth 20000 in
theorem ggX2_readAny_X2_readReal : GoodIn wsX2_readAny wsX2_readReal := goodIn_r _ [13, 1, 14, 15, 5, 16, 17, 18, 19, 20, 21, 22, 23, 24, 25, 26, 27, 28, 29, 30, 31, 32, 33, 34, 35, 36, 37, 38, 39, 40, 41, 42, 43, 44, 45, 46, 47, 48, 49, 50, 51, 52, 53, 54, 55, 56, 57, 58, 59] (by decide +kernel) (by decide +kernel)
set_option maxRecDepth 20000 in
theorem gX2_readAny_X2_readReal : GoodIn wsX2_readAny (wsV RX2 91 RX2 yX2_readReal wsX2_readReal) := goodIn_app (goodIn_of _ (by decide +kernel)) ggX2_readAny_X2_readReal
theorem dX2_readAny_0 : decode cX2_readAny 0 = .ok (.aload_n 0, 1) := by decide +kernel
theorem dX2_readAny_1 : decode cX2_readAny 1 = .ok (.iload_n 1, 1) := by decide +kernel
theorem dX2_readAny_2 : decode cX2_readAny 2 = .ok (.invokevirtual 62, 3) := by decide +kernel
theorem dX2_readAny_5 : decode cX2_readAny 5 = .ok (.astore_n 3, 1) := by decide +kernel
theorem dX2_readAny_6 : decode cX2_readAny 6 = .ok (.aload_n 0, 1) := by decide +kernel
theorem dX2_readAny_7 : decode cX2_readAny 7 = .ok (.aload_n 3, 1) := by decide +kernel
theorem dX2_readAny_8 : decode cX2_readAny 8 = .ok (.iload_n 2, 1) := by decide +kernel
theorem dX2_readAny_9 : decode cX2_readAny 9 = .ok (.aload_n 3, 1) := by decide +kernel
theorem dX2_readAny_10 : decode cX2_readAny 10 = .ok (.getfield 66, 3) := by decide +kernel
theorem dX2_readAny_13 : decode cX2_readAny 13 = .ok (.invokevirtual 91, 3) := by decide +kernel
theorem dX2_readAny_16 : decode cX2_readAny 16 = .ok (.dreturn, 1) := by decide +kernel
set_option maxRecDepth 20000 in
theorem ggX2_writeAny_X2_columnAt : GoodIn wsX2_writeAny wsX2_columnAt := goodIn_ca (goodIn_r _ [5, 6, 7, 8, 58, 59, 60, 61, 62] (by decide +kernel) (by decide +kernel)) (goodIn_sub (fun _ h => List.mem_cons_of_mem _ (List.mem_append_left _ (List.mem_append_right _ h))) (by decide +kernel))
set_option maxRecDepth 20000 in
theorem gX2_writeAny_X2_columnAt : GoodIn wsX2_writeAny (wsV RX2 62 RX2 yX2_columnAt wsX2_columnAt) := goodIn_app (goodIn_of _ (by decide +kernel)) ggX2_writeAny_X2_columnAt
set_option maxRecDepth 20000 in
theorem ggX2_writeAny_X2_refuseWithoutCells : GoodIn wsX2_writeAny wsX2_refuseWithoutCells := goodIn_ca (goodIn_r _ [11, 12, 13, 14, 15, 4, 16] (by decide +kernel) (by decide +kernel)) (goodIn_sub (fun _ h => List.mem_cons_of_mem _ (List.mem_append_right _ h)) (by decide +kernel))
set_option maxRecDepth 20000 in
theorem gX2_writeAny_X2_refuseWithoutCells : GoodIn wsX2_writeAny (va_wsS RX2 107 yX2_refuseWithoutCells wsX2_refuseWithoutCells) := goodIn_app (goodIn_of _ (by decide +kernel)) ggX2_writeAny_X2_refuseWithoutCells
set_option maxRecDepth 20000 in
theorem ggX2_writeAny_X2_writeReal : GoodIn wsX2_writeAny wsX2_writeReal := goodIn_r _ [20, 21, 22, 23, 4, 24, 25, 26, 27, 28, 29, 30, 31, 14, 15, 16, 32, 33, 34, 35, 36, 37, 38, 39, 40, 41, 42, 43, 63, 64, 65, 66, 58, 59, 60, 61, 62] (by decide +kernel) (by decide +kernel)
set_option maxRecDepth 20000 in
theorem gX2_writeAny_X2_writeReal : GoodIn wsX2_writeAny (wsV RX2 103 RX2 yX2_writeReal wsX2_writeReal) := goodIn_app (goodIn_of _ (by decide +kernel)) ggX2_writeAny_X2_writeReal
set_option maxRecDepth 20000 in
theorem ggX2_writeAny_X2_wholeMadeFrom : GoodIn wsX2_writeAny wsX2_wholeMadeFrom := goodIn_r _ [46] (by decide +kernel) (by decide +kernel)
set_option maxRecDepth 20000 in
theorem gX2_writeAny_X2_wholeMadeFrom : GoodIn wsX2_writeAny (va_wsS RX2 111 yX2_wholeMadeFrom wsX2_wholeMadeFrom) := goodIn_app (goodIn_of _ (by decide +kernel)) ggX2_writeAny_X2_wholeMadeFrom
set_option maxRecDepth 20000 in
theorem ggX2_writeAny_X2_writeWhole : GoodIn wsX2_writeAny wsX2_writeWhole := goodIn_r _ [50, 21, 22, 23, 4, 24, 25, 26, 27, 28, 29, 30, 31, 14, 15, 16, 32, 33, 34, 35, 36, 37, 51, 52, 53, 41, 54, 55, 56, 57, 39, 40, 42, 43, 63, 64, 65, 66, 58, 59, 60, 61, 62] (by decide +kernel) (by decide +kernel)
set_option maxRecDepth 20000 in
theorem gX2_writeAny_X2_writeWhole : GoodIn wsX2_writeAny (wsV RX2 95 RX2 yX2_writeWhole wsX2_writeWhole) := goodIn_app (goodIn_of _ (by decide +kernel)) ggX2_writeAny_X2_writeWhole
theorem dX2_writeAny_0 : decode cX2_writeAny 0 = .ok (.aload_n 0, 1) := by decide +kernel
theorem dX2_writeAny_1 : decode cX2_writeAny 1 = .ok (.iload_n 1, 1) := by decide +kernel
theorem dX2_writeAny_2 : decode cX2_writeAny 2 = .ok (.invokevirtual 62, 3) := by decide +kernel
theorem dX2_writeAny_5 : decode cX2_writeAny 5 = .ok (.astore 5, 2) := by decide +kernel
theorem dX2_writeAny_7 : decode cX2_writeAny 7 = .ok (.iload_n 3, 1) := by decide +kernel
theorem dX2_writeAny_8 : decode cX2_writeAny 8 = .ok (.invokestatic 107, 3) := by decide +kernel
theorem dX2_writeAny_11 : decode cX2_writeAny 11 = .ok (.iload_n 3, 1) := by decide +kernel
theorem dX2_writeAny_12 : decode cX2_writeAny 12 = .ok (.bipush 7, 2) := by decide +kernel
theorem dX2_writeAny_14 : decode cX2_writeAny 14 = .ok (.if_icmp .ne 16, 3) := by decide +kernel
theorem dX2_writeAny_17 : decode cX2_writeAny 17 = .ok (.aload_n 0, 1) := by decide +kernel
theorem dX2_writeAny_18 : decode cX2_writeAny 18 = .ok (.aload 5, 2) := by decide +kernel
theorem dX2_writeAny_20 : decode cX2_writeAny 20 = .ok (.iload_n 2, 1) := by decide +kernel
theorem dX2_writeAny_21 : decode cX2_writeAny 21 = .ok (.iload_n 3, 1) := by decide +kernel
theorem dX2_writeAny_22 : decode cX2_writeAny 22 = .ok (.iload 4, 2) := by decide +kernel
theorem dX2_writeAny_24 : decode cX2_writeAny 24 = .ok (.i2f, 1) := by decide +kernel
theorem dX2_writeAny_25 : decode cX2_writeAny 25 = .ok (.f2d, 1) := by decide +kernel
theorem dX2_writeAny_26 : decode cX2_writeAny 26 = .ok (.invokevirtual 103, 3) := by decide +kernel
theorem dX2_writeAny_29 : decode cX2_writeAny 29 = .ok (.ireturn, 1) := by decide +kernel
theorem dX2_writeAny_30 : decode cX2_writeAny 30 = .ok (.iload_n 3, 1) := by decide +kernel
theorem dX2_writeAny_31 : decode cX2_writeAny 31 = .ok (.bipush 8, 2) := by decide +kernel
theorem dX2_writeAny_33 : decode cX2_writeAny 33 = .ok (.if_icmp .ne 15, 3) := by decide +kernel
theorem dX2_writeAny_36 : decode cX2_writeAny 36 = .ok (.aload_n 0, 1) := by decide +kernel
theorem dX2_writeAny_37 : decode cX2_writeAny 37 = .ok (.aload 5, 2) := by decide +kernel
theorem dX2_writeAny_39 : decode cX2_writeAny 39 = .ok (.iload_n 2, 1) := by decide +kernel
theorem dX2_writeAny_40 : decode cX2_writeAny 40 = .ok (.iload_n 3, 1) := by decide +kernel
theorem dX2_writeAny_41 : decode cX2_writeAny 41 = .ok (.iload 4, 2) := by decide +kernel
theorem dX2_writeAny_43 : decode cX2_writeAny 43 = .ok (.i2d, 1) := by decide +kernel
theorem dX2_writeAny_44 : decode cX2_writeAny 44 = .ok (.invokevirtual 103, 3) := by decide +kernel
theorem dX2_writeAny_47 : decode cX2_writeAny 47 = .ok (.ireturn, 1) := by decide +kernel
theorem dX2_writeAny_48 : decode cX2_writeAny 48 = .ok (.aload_n 0, 1) := by decide +kernel
theorem dX2_writeAny_49 : decode cX2_writeAny 49 = .ok (.aload 5, 2) := by decide +kernel
theorem dX2_writeAny_51 : decode cX2_writeAny 51 = .ok (.iload_n 2, 1) := by decide +kernel
theorem dX2_writeAny_52 : decode cX2_writeAny 52 = .ok (.iload_n 3, 1) := by decide +kernel
theorem dX2_writeAny_53 : decode cX2_writeAny 53 = .ok (.iload 4, 2) := by decide +kernel
theorem dX2_writeAny_55 : decode cX2_writeAny 55 = .ok (.iload_n 3, 1) := by decide +kernel
theorem dX2_writeAny_56 : decode cX2_writeAny 56 = .ok (.invokestatic 111, 3) := by decide +kernel
theorem dX2_writeAny_59 : decode cX2_writeAny 59 = .ok (.invokevirtual 95, 3) := by decide +kernel
theorem dX2_writeAny_62 : decode cX2_writeAny 62 = .ok (.ireturn, 1) := by decide +kernel
set_option maxRecDepth 20000 in
theorem ggX2_copy_X2_columnAt : GoodIn wsX2_copy wsX2_columnAt := goodIn_ca (goodIn_r _ [6, 7, 8, 9, 38, 39, 40, 41, 42] (by decide +kernel) (by decide +kernel)) (goodIn_sub (fun _ h => List.mem_cons_of_mem _ (List.mem_append_right _ h)) (by decide +kernel))
set_option maxRecDepth 20000 in
theorem gX2_copy_X2_columnAt : GoodIn wsX2_copy (wsV RX2 62 RX2 yX2_columnAt wsX2_columnAt) := goodIn_app (goodIn_of _ (by decide +kernel)) ggX2_copy_X2_columnAt
set_option maxRecDepth 20000 in
theorem ggX2_copy_X2_codeOfKinds : GoodIn wsX2_copy wsX2_codeOfKinds := goodIn_r _ [12, 13, 34, 35, 36, 37] (by decide +kernel) (by decide +kernel)
set_option maxRecDepth 20000 in
theorem gX2_copy_X2_codeOfKinds : GoodIn wsX2_copy (va_wsS RX2 115 yX2_codeOfKinds wsX2_codeOfKinds) := goodIn_app (goodIn_of _ (by decide +kernel)) ggX2_copy_X2_codeOfKinds
set_option maxRecDepth 20000 in
theorem ggX2_copy_X2_isPart : GoodIn wsX2_copy wsX2_isPart := goodIn_r _ [16] (by decide +kernel) (by decide +kernel)
set_option maxRecDepth 20000 in
theorem gX2_copy_X2_isPart : GoodIn wsX2_copy (va_wsS RX2 119 yX2_isPart wsX2_isPart) := goodIn_app (goodIn_of _ (by decide +kernel)) ggX2_copy_X2_isPart
set_option maxRecDepth 20000 in
theorem ggX2_copy_X0_takeCells : GoodIn wsX2_copy wsX0_takeCells := goodIn_r _ [21, 22, 23, 24, 25, 26, 27, 15, 5, 16, 34, 35, 36, 37] (by decide +kernel) (by decide +kernel)
set_option maxRecDepth 20000 in
theorem gX2_copy_X0_takeCells : GoodIn wsX2_copy (wsV RX2 123 RX0 yX0_takeCells wsX0_takeCells) := goodIn_app (goodIn_of _ (by decide +kernel)) ggX2_copy_X0_takeCells
set_option maxRecDepth 20000 in
theorem ggX2_copy_X2_note : GoodIn wsX2_copy wsX2_note := goodIn_r _ [31, 32, 33, 38, 39, 40, 41, 42] (by decide +kernel) (by decide +kernel)
set_option maxRecDepth 20000 in
theorem gX2_copy_X2_note : GoodIn wsX2_copy (wsV RX2 72 RX2 yX2_note wsX2_note) := goodIn_app (goodIn_of _ (by decide +kernel)) ggX2_copy_X2_note
theorem dX2_copy_0 : decode cX2_copy 0 = .ok (.aload_n 0, 1) := by decide +kernel
theorem dX2_copy_1 : decode cX2_copy 1 = .ok (.iload_n 1, 1) := by decide +kernel
theorem dX2_copy_2 : decode cX2_copy 2 = .ok (.invokevirtual 62, 3) := by decide +kernel
theorem dX2_copy_5 : decode cX2_copy 5 = .ok (.astore 6, 2) := by decide +kernel
theorem dX2_copy_7 : decode cX2_copy 7 = .ok (.aload_n 0, 1) := by decide +kernel
theorem dX2_copy_8 : decode cX2_copy 8 = .ok (.iload_n 3, 1) := by decide +kernel
theorem dX2_copy_9 : decode cX2_copy 9 = .ok (.invokevirtual 62, 3) := by decide +kernel
theorem dX2_copy_12 : decode cX2_copy 12 = .ok (.astore 7, 2) := by decide +kernel
theorem dX2_copy_14 : decode cX2_copy 14 = .ok (.aload 6, 2) := by decide +kernel
theorem dX2_copy_16 : decode cX2_copy 16 = .ok (.aload 7, 2) := by decide +kernel
theorem dX2_copy_18 : decode cX2_copy 18 = .ok (.invokestatic 115, 3) := by decide +kernel
theorem dX2_copy_21 : decode cX2_copy 21 = .ok (.istore 8, 2) := by decide +kernel
theorem dX2_copy_23 : decode cX2_copy 23 = .ok (.iload 8, 2) := by decide +kernel
theorem dX2_copy_25 : decode cX2_copy 25 = .ok (.ifCond .ne 35, 3) := by decide +kernel
theorem dX2_copy_28 : decode cX2_copy 28 = .ok (.iload_n 2, 1) := by decide +kernel
theorem dX2_copy_29 : decode cX2_copy 29 = .ok (.iload 5, 2) := by decide +kernel
theorem dX2_copy_31 : decode cX2_copy 31 = .ok (.aload 6, 2) := by decide +kernel
theorem dX2_copy_33 : decode cX2_copy 33 = .ok (.getfield 76, 3) := by decide +kernel
theorem dX2_copy_36 : decode cX2_copy 36 = .ok (.invokestatic 119, 3) := by decide +kernel
theorem dX2_copy_39 : decode cX2_copy 39 = .ok (.ifCond .eq 18, 3) := by decide +kernel
theorem dX2_copy_42 : decode cX2_copy 42 = .ok (.iload 4, 2) := by decide +kernel
theorem dX2_copy_44 : decode cX2_copy 44 = .ok (.iload 5, 2) := by decide +kernel
theorem dX2_copy_46 : decode cX2_copy 46 = .ok (.aload 7, 2) := by decide +kernel
theorem dX2_copy_48 : decode cX2_copy 48 = .ok (.getfield 76, 3) := by decide +kernel
theorem dX2_copy_51 : decode cX2_copy 51 = .ok (.invokestatic 119, 3) := by decide +kernel
theorem dX2_copy_54 : decode cX2_copy 54 = .ok (.ifCond .ne 6, 3) := by decide +kernel
theorem dX2_copy_57 : decode cX2_copy 57 = .ok (.iconst 3, 1) := by decide +kernel
theorem dX2_copy_58 : decode cX2_copy 58 = .ok (.istore 8, 2) := by decide +kernel
theorem dX2_copy_60 : decode cX2_copy 60 = .ok (.iload 8, 2) := by decide +kernel
theorem dX2_copy_62 : decode cX2_copy 62 = .ok (.ifCond .ne 15, 3) := by decide +kernel
theorem dX2_copy_65 : decode cX2_copy 65 = .ok (.aload 7, 2) := by decide +kernel
theorem dX2_copy_67 : decode cX2_copy 67 = .ok (.aload 6, 2) := by decide +kernel
theorem dX2_copy_69 : decode cX2_copy 69 = .ok (.iload_n 2, 1) := by decide +kernel
theorem dX2_copy_70 : decode cX2_copy 70 = .ok (.iload 4, 2) := by decide +kernel
theorem dX2_copy_72 : decode cX2_copy 72 = .ok (.iload 5, 2) := by decide +kernel
theorem dX2_copy_74 : decode cX2_copy 74 = .ok (.invokevirtual 123, 3) := by decide +kernel
theorem dX2_copy_77 : decode cX2_copy 77 = .ok (.aload_n 0, 1) := by decide +kernel
theorem dX2_copy_78 : decode cX2_copy 78 = .ok (.iload 8, 2) := by decide +kernel
theorem dX2_copy_80 : decode cX2_copy 80 = .ok (.invokevirtual 72, 3) := by decide +kernel
theorem dX2_copy_83 : decode cX2_copy 83 = .ok (.ireturn, 1) := by decide +kernel
set_option maxRecDepth 20000 in
theorem ggX2_total_X2_columnAt : GoodIn wsX2_total wsX2_columnAt := goodIn_ca (goodIn_r _ [5, 6, 7, 8, 53, 54, 55, 56, 57] (by decide +kernel) (by decide +kernel)) (goodIn_sub (fun _ h => List.mem_cons_of_mem _ (List.mem_append_right _ h)) (by decide +kernel))
set_option maxRecDepth 20000 in
theorem gX2_total_X2_columnAt : GoodIn wsX2_total (wsV RX2 62 RX2 yX2_columnAt wsX2_columnAt) := goodIn_app (goodIn_of _ (by decide +kernel)) ggX2_total_X2_columnAt
set_option maxRecDepth 20000 in
theorem ggX2_total_X2_codeOfColumn : GoodIn wsX2_total wsX2_codeOfColumn := goodIn_r _ [11, 12, 58, 59, 60, 61] (by decide +kernel) (by decide +kernel)
set_option maxRecDepth 20000 in
theorem gX2_total_X2_codeOfColumn : GoodIn wsX2_total (va_wsS RX2 69 yX2_codeOfColumn wsX2_codeOfColumn) := goodIn_app (goodIn_of _ (by decide +kernel)) ggX2_total_X2_codeOfColumn
set_option maxRecDepth 20000 in
theorem ggX2_total_X2_note : GoodIn wsX2_total wsX2_note := goodIn_r _ [16, 17, 18, 53, 54, 55, 56, 57] (by decide +kernel) (by decide +kernel)
set_option maxRecDepth 20000 in
theorem gX2_total_X2_note : GoodIn wsX2_total (wsV RX2 72 RX2 yX2_note wsX2_note) := goodIn_app (goodIn_of _ (by decide +kernel)) ggX2_total_X2_note
set_option maxRecDepth 20000 in
theorem ggX2_total_X0_sum : GoodIn wsX2_total wsX0_sum := goodIn_r _ [23, 24, 25, 26, 27, 22, 28, 29, 30, 4, 31, 32, 33, 34, 35, 36, 37, 38, 39, 40, 41, 42, 43, 44, 45, 46, 47, 48, 49, 50, 51, 52, 58, 59, 60, 61] (by decide +kernel) (by decide +kernel)
set_option maxRecDepth 20000 in
theorem gX2_total_X0_sum : GoodIn wsX2_total (wsV RX2 127 RX0 yX0_sum wsX0_sum) := goodIn_app (goodIn_of _ (by decide +kernel)) ggX2_total_X0_sum
theorem dX2_total_0 : decode cX2_total 0 = .ok (.aload_n 0, 1) := by decide +kernel
theorem dX2_total_1 : decode cX2_total 1 = .ok (.iload_n 1, 1) := by decide +kernel
theorem dX2_total_2 : decode cX2_total 2 = .ok (.invokevirtual 62, 3) := by decide +kernel
theorem dX2_total_5 : decode cX2_total 5 = .ok (.astore_n 2, 1) := by decide +kernel
theorem dX2_total_6 : decode cX2_total 6 = .ok (.aload_n 0, 1) := by decide +kernel
theorem dX2_total_7 : decode cX2_total 7 = .ok (.aload_n 2, 1) := by decide +kernel
theorem dX2_total_8 : decode cX2_total 8 = .ok (.invokestatic 69, 3) := by decide +kernel
theorem dX2_total_11 : decode cX2_total 11 = .ok (.invokevirtual 72, 3) := by decide +kernel
theorem dX2_total_14 : decode cX2_total 14 = .ok (.istore_n 3, 1) := by decide +kernel
theorem dX2_total_15 : decode cX2_total 15 = .ok (.iload_n 3, 1) := by decide +kernel
theorem dX2_total_16 : decode cX2_total 16 = .ok (.ifCond .ne 10, 3) := by decide +kernel
theorem dX2_total_19 : decode cX2_total 19 = .ok (.aload_n 2, 1) := by decide +kernel
theorem dX2_total_20 : decode cX2_total 20 = .ok (.invokevirtual 127, 3) := by decide +kernel
theorem dX2_total_23 : decode cX2_total 23 = .ok (.goto 4, 3) := by decide +kernel
theorem dX2_total_26 : decode cX2_total 26 = .ok (.dconst 0, 1) := by decide +kernel
theorem dX2_total_27 : decode cX2_total 27 = .ok (.dreturn, 1) := by decide +kernel
set_option maxRecDepth 20000 in
theorem ggX2_widened_X2_columnAt : GoodIn wsX2_widened wsX2_columnAt := goodIn_ca (goodIn_r _ [10, 11, 12, 13, 85, 86, 87, 88, 89] (by decide +kernel) (by decide +kernel)) (goodIn_sub (fun _ h => List.mem_cons_of_mem _ (List.mem_append_left _ (List.mem_append_left _ (List.mem_append_right _ h)))) (by decide +kernel))
set_option maxRecDepth 20000 in
theorem gX2_widened_X2_columnAt : GoodIn wsX2_widened (wsV RX2 62 RX2 yX2_columnAt wsX2_columnAt) := goodIn_app (goodIn_of _ (by decide +kernel)) ggX2_widened_X2_columnAt
set_option maxRecDepth 20000 in
theorem ggX2_widened_X2_refuseWithoutCells : GoodIn wsX2_widened wsX2_refuseWithoutCells := goodIn_ca (goodIn_r _ [16, 17, 18, 19, 20, 9, 21] (by decide +kernel) (by decide +kernel)) (goodIn_sub (fun _ h => List.mem_cons_of_mem _ (List.mem_append_left _ (List.mem_append_right _ h))) (by decide +kernel))
set_option maxRecDepth 20000 in
theorem gX2_widened_X2_refuseWithoutCells : GoodIn wsX2_widened (va_wsS RX2 107 yX2_refuseWithoutCells wsX2_refuseWithoutCells) := goodIn_app (goodIn_of _ (by decide +kernel)) ggX2_widened_X2_refuseWithoutCells
set_option maxRecDepth 20000 in
theorem ggX2_widened_X2_refuseWhenFull : GoodIn wsX2_widened wsX2_refuseWhenFull := goodIn_ca (goodIn_r _ [25, 26, 27, 28, 13, 85, 86, 87, 88, 89] (by decide +kernel) (by decide +kernel)) (goodIn_sub (fun _ h => List.mem_cons_of_mem _ (List.mem_append_right _ h)) (by decide +kernel))
set_option maxRecDepth 20000 in
theorem gX2_widened_X2_refuseWhenFull : GoodIn wsX2_widened (wsV RX2 52 RX2 yX2_refuseWhenFull wsX2_refuseWhenFull) := goodIn_app (goodIn_of _ (by decide +kernel)) ggX2_widened_X2_refuseWhenFull
set_option maxRecDepth 20000 in
theorem ggX2_widened_X2_codeOfColumn : GoodIn wsX2_widened wsX2_codeOfColumn := goodIn_r _ [31, 1, 81, 82, 83, 84] (by decide +kernel) (by decide +kernel)
set_option maxRecDepth 20000 in
theorem gX2_widened_X2_codeOfColumn : GoodIn wsX2_widened (va_wsS RX2 69 yX2_codeOfColumn wsX2_codeOfColumn) := goodIn_app (goodIn_of _ (by decide +kernel)) ggX2_widened_X2_codeOfColumn
set_option maxRecDepth 20000 in
theorem ggX2_widened_X2_widens : GoodIn wsX2_widened wsX2_widens := goodIn_r _ [34, 19, 20, 9, 21] (by decide +kernel) (by decide +kernel)
set_option maxRecDepth 20000 in
theorem gX2_widened_X2_widens : GoodIn wsX2_widened (va_wsS RX2 131 yX2_widens wsX2_widens) := goodIn_app (goodIn_of _ (by decide +kernel)) ggX2_widened_X2_widens
set_option maxRecDepth 20000 in
theorem ggX2_widened_X2_note : GoodIn wsX2_widened wsX2_note := goodIn_r _ [38, 39, 40, 85, 86, 87, 88, 89] (by decide +kernel) (by decide +kernel)
set_option maxRecDepth 20000 in
theorem gX2_widened_X2_note : GoodIn wsX2_widened (wsV RX2 72 RX2 yX2_note wsX2_note) := goodIn_app (goodIn_of _ (by decide +kernel)) ggX2_widened_X2_note
set_option maxRecDepth 20000 in
theorem ggX2_widened_X0_init : GoodIn wsX2_widened wsX0_init := goodIn_r _ [43, 44, 45, 46, 47, 48, 49, 50, 51, 52, 20, 9, 21, 53, 54, 55, 56, 81, 82, 83, 84] (by decide +kernel) (by decide +kernel)
set_option maxRecDepth 20000 in
theorem gX2_widened_X0_init : GoodIn wsX2_widened (wsX0_init) := ggX2_widened_X0_init
set_option maxRecDepth 20000 in
theorem ggX2_widened_X0_takeWidened : GoodIn wsX2_widened wsX0_takeWidened := goodIn_r _ [60, 48, 47, 55, 9, 56, 61, 62, 63, 4, 64, 52, 65, 66, 67, 68, 69, 70, 71, 72, 50, 73, 74, 75, 76, 81, 82, 83, 84] (by decide +kernel) (by decide +kernel)
set_option maxRecDepth 20000 in
theorem gX2_widened_X0_takeWidened : GoodIn wsX2_widened (wsV RX2 135 RX0 yX0_takeWidened wsX0_takeWidened) := goodIn_app (goodIn_of _ (by decide +kernel)) ggX2_widened_X0_takeWidened
set_option maxRecDepth 20000 in
theorem ggX2_widened_X2_addColumn : GoodIn wsX2_widened wsX2_addColumn := goodIn_r _ [80, 28, 13, 85, 86, 87, 88, 89] (by decide +kernel) (by decide +kernel)
set_option maxRecDepth 20000 in
theorem gX2_widened_X2_addColumn : GoodIn wsX2_widened (wsV RX2 58 RX2 yX2_addColumn wsX2_addColumn) := goodIn_app (goodIn_of _ (by decide +kernel)) ggX2_widened_X2_addColumn
theorem dX2_widened_0 : decode cX2_widened 0 = .ok (.aload_n 0, 1) := by decide +kernel
theorem dX2_widened_1 : decode cX2_widened 1 = .ok (.iload_n 1, 1) := by decide +kernel
theorem dX2_widened_2 : decode cX2_widened 2 = .ok (.invokevirtual 62, 3) := by decide +kernel
theorem dX2_widened_5 : decode cX2_widened 5 = .ok (.astore_n 3, 1) := by decide +kernel
theorem dX2_widened_6 : decode cX2_widened 6 = .ok (.iload_n 2, 1) := by decide +kernel
theorem dX2_widened_7 : decode cX2_widened 7 = .ok (.invokestatic 107, 3) := by decide +kernel
theorem dX2_widened_10 : decode cX2_widened 10 = .ok (.aload_n 0, 1) := by decide +kernel
theorem dX2_widened_11 : decode cX2_widened 11 = .ok (.invokevirtual 52, 3) := by decide +kernel
theorem dX2_widened_14 : decode cX2_widened 14 = .ok (.aload_n 3, 1) := by decide +kernel
theorem dX2_widened_15 : decode cX2_widened 15 = .ok (.invokestatic 69, 3) := by decide +kernel
theorem dX2_widened_18 : decode cX2_widened 18 = .ok (.istore 4, 2) := by decide +kernel
theorem dX2_widened_20 : decode cX2_widened 20 = .ok (.iload 4, 2) := by decide +kernel
theorem dX2_widened_22 : decode cX2_widened 22 = .ok (.ifCond .ne 17, 3) := by decide +kernel
theorem dX2_widened_25 : decode cX2_widened 25 = .ok (.aload_n 3, 1) := by decide +kernel
theorem dX2_widened_26 : decode cX2_widened 26 = .ok (.getfield 66, 3) := by decide +kernel
theorem dX2_widened_29 : decode cX2_widened 29 = .ok (.iload_n 2, 1) := by decide +kernel
theorem dX2_widened_30 : decode cX2_widened 30 = .ok (.invokestatic 131, 3) := by decide +kernel
theorem dX2_widened_33 : decode cX2_widened 33 = .ok (.ifCond .ne 6, 3) := by decide +kernel
theorem dX2_widened_36 : decode cX2_widened 36 = .ok (.iconst 4, 1) := by decide +kernel
end
section
theorem dX2_widened_37 : decode cX2_widened 37 = .ok (.istore 4, 2) := by decide +kernel
theorem dX2_widened_39 : decode cX2_widened 39 = .ok (.aload_n 0, 1) := by decide +kernel
theorem dX2_widened_40 : decode cX2_widened 40 = .ok (.iload 4, 2) := by decide +kernel
theorem dX2_widened_42 : decode cX2_widened 42 = .ok (.invokevirtual 72, 3) := by decide +kernel
theorem dX2_widened_45 : decode cX2_widened 45 = .ok (.ifCond .eq 5, 3) := by decide +kernel
theorem dX2_widened_48 : decode cX2_widened 48 = .ok (.iconst (-1), 1) := by decide +kernel
theorem dX2_widened_49 : decode cX2_widened 49 = .ok (.ireturn, 1) := by decide +kernel
theorem dX2_widened_50 : decode cX2_widened 50 = .ok (.new 9, 3) := by decide +kernel
theorem dX2_widened_53 : decode cX2_widened 53 = .ok (.dup, 1) := by decide +kernel
theorem dX2_widened_54 : decode cX2_widened 54 = .ok (.iload_n 2, 1) := by decide +kernel
theorem dX2_widened_55 : decode cX2_widened 55 = .ok (.aload_n 3, 1) := by decide +kernel
theorem dX2_widened_56 : decode cX2_widened 56 = .ok (.getfield 76, 3) := by decide +kernel
theorem dX2_widened_59 : decode cX2_widened 59 = .ok (.invokespecial 55, 3) := by decide +kernel
theorem dX2_widened_62 : decode cX2_widened 62 = .ok (.astore 5, 2) := by decide +kernel
theorem dX2_widened_64 : decode cX2_widened 64 = .ok (.aload 5, 2) := by decide +kernel
theorem dX2_widened_66 : decode cX2_widened 66 = .ok (.aload_n 3, 1) := by decide +kernel
theorem dX2_widened_67 : decode cX2_widened 67 = .ok (.invokevirtual 135, 3) := by decide +kernel
theorem dX2_widened_70 : decode cX2_widened 70 = .ok (.aload_n 0, 1) := by decide +kernel
theorem dX2_widened_71 : decode cX2_widened 71 = .ok (.aload 5, 2) := by decide +kernel
theorem dX2_widened_73 : decode cX2_widened 73 = .ok (.invokevirtual 58, 3) := by decide +kernel
theorem dX2_widened_76 : decode cX2_widened 76 = .ok (.ireturn, 1) := by decide +kernel
theorem dX2_code_0 : decode cX2_code 0 = .ok (.aload_n 0, 1) := by decide +kernel
theorem dX2_code_1 : decode cX2_code 1 = .ok (.getfield 30, 3) := by decide +kernel
theorem dX2_code_4 : decode cX2_code 4 = .ok (.ireturn, 1) := by decide +kernel
theorem dX2_count_0 : decode cX2_count 0 = .ok (.iload_n 1, 1) := by decide +kernel
theorem dX2_count_1 : decode cX2_count 1 = .ok (.ifCond .lt 12, 3) := by decide +kernel
theorem dX2_count_4 : decode cX2_count 4 = .ok (.iload_n 1, 1) := by decide +kernel
theorem dX2_count_5 : decode cX2_count 5 = .ok (.aload_n 0, 1) := by decide +kernel
theorem dX2_count_6 : decode cX2_count 6 = .ok (.getfield 15, 3) := by decide +kernel
theorem dX2_count_9 : decode cX2_count 9 = .ok (.arraylength, 1) := by decide +kernel
theorem dX2_count_10 : decode cX2_count 10 = .ok (.if_icmp .lt 13, 3) := by decide +kernel
theorem dX2_count_13 : decode cX2_count 13 = .ok (.new 139, 3) := by decide +kernel
theorem dX2_count_16 : decode cX2_count 16 = .ok (.dup, 1) := by decide +kernel
theorem dX2_count_17 : decode cX2_count 17 = .ok (.ldc 141, 2) := by decide +kernel
theorem dX2_count_19 : decode cX2_count 19 = .ok (.invokespecial 143, 3) := by decide +kernel
theorem dX2_count_22 : decode cX2_count 22 = .ok (.athrow, 1) := by decide +kernel
theorem dX2_count_23 : decode cX2_count 23 = .ok (.aload_n 0, 1) := by decide +kernel
theorem dX2_count_24 : decode cX2_count 24 = .ok (.getfield 15, 3) := by decide +kernel
theorem dX2_count_27 : decode cX2_count 27 = .ok (.iload_n 1, 1) := by decide +kernel
theorem dX2_count_28 : decode cX2_count 28 = .ok (.iaload, 1) := by decide +kernel
theorem dX2_count_29 : decode cX2_count 29 = .ok (.ireturn, 1) := by decide +kernel
theorem dX2_isKind_0 : decode cX2_isKind 0 = .ok (.iload_n 0, 1) := by decide +kernel
theorem dX2_isKind_1 : decode cX2_isKind 1 = .ok (.ifCond .lt 13, 3) := by decide +kernel
theorem dX2_isKind_4 : decode cX2_isKind 4 = .ok (.iload_n 0, 1) := by decide +kernel
theorem dX2_isKind_5 : decode cX2_isKind 5 = .ok (.bipush 9, 2) := by decide +kernel
theorem dX2_isKind_7 : decode cX2_isKind 7 = .ok (.if_icmp .gt 7, 3) := by decide +kernel
theorem dX2_isKind_10 : decode cX2_isKind 10 = .ok (.iconst 1, 1) := by decide +kernel
theorem dX2_isKind_11 : decode cX2_isKind 11 = .ok (.goto 4, 3) := by decide +kernel
theorem dX2_isKind_14 : decode cX2_isKind 14 = .ok (.iconst 0, 1) := by decide +kernel
theorem dX2_isKind_15 : decode cX2_isKind 15 = .ok (.ireturn, 1) := by decide +kernel
theorem dX2_holdsCells_0 : decode cX2_holdsCells 0 = .ok (.iload_n 0, 1) := by decide +kernel
theorem dX2_holdsCells_1 : decode cX2_holdsCells 1 = .ok (.iconst 1, 1) := by decide +kernel
theorem dX2_holdsCells_2 : decode cX2_holdsCells 2 = .ok (.if_icmp .lt 13, 3) := by decide +kernel
theorem dX2_holdsCells_5 : decode cX2_holdsCells 5 = .ok (.iload_n 0, 1) := by decide +kernel
theorem dX2_holdsCells_6 : decode cX2_holdsCells 6 = .ok (.bipush 8, 2) := by decide +kernel
theorem dX2_holdsCells_8 : decode cX2_holdsCells 8 = .ok (.if_icmp .gt 7, 3) := by decide +kernel
theorem dX2_holdsCells_11 : decode cX2_holdsCells 11 = .ok (.iconst 1, 1) := by decide +kernel
theorem dX2_holdsCells_12 : decode cX2_holdsCells 12 = .ok (.goto 4, 3) := by decide +kernel
theorem dX2_holdsCells_15 : decode cX2_holdsCells 15 = .ok (.iconst 0, 1) := by decide +kernel
theorem dX2_holdsCells_16 : decode cX2_holdsCells 16 = .ok (.ireturn, 1) := by decide +kernel
theorem dX2_isLength_0 : decode cX2_isLength 0 = .ok (.iload_n 0, 1) := by decide +kernel
theorem dX2_isLength_1 : decode cX2_isLength 1 = .ok (.ifCond .lt 13, 3) := by decide +kernel
theorem dX2_isLength_4 : decode cX2_isLength 4 = .ok (.iload_n 0, 1) := by decide +kernel
theorem dX2_isLength_5 : decode cX2_isLength 5 = .ok (.bipush 40, 2) := by decide +kernel
theorem dX2_isLength_7 : decode cX2_isLength 7 = .ok (.if_icmp .gt 7, 3) := by decide +kernel
theorem dX2_isLength_10 : decode cX2_isLength 10 = .ok (.iconst 1, 1) := by decide +kernel
theorem dX2_isLength_11 : decode cX2_isLength 11 = .ok (.goto 4, 3) := by decide +kernel
theorem dX2_isLength_14 : decode cX2_isLength 14 = .ok (.iconst 0, 1) := by decide +kernel
theorem dX2_isLength_15 : decode cX2_isLength 15 = .ok (.ireturn, 1) := by decide +kernel
theorem dX2_isFloating_0 : decode cX2_isFloating 0 = .ok (.iload_n 0, 1) := by decide +kernel
theorem dX2_isFloating_1 : decode cX2_isFloating 1 = .ok (.bipush 7, 2) := by decide +kernel
theorem dX2_isFloating_3 : decode cX2_isFloating 3 = .ok (.if_icmp .eq 9, 3) := by decide +kernel
theorem dX2_isFloating_6 : decode cX2_isFloating 6 = .ok (.iload_n 0, 1) := by decide +kernel
theorem dX2_isFloating_7 : decode cX2_isFloating 7 = .ok (.bipush 8, 2) := by decide +kernel
theorem dX2_isFloating_9 : decode cX2_isFloating 9 = .ok (.if_icmp .ne 7, 3) := by decide +kernel
theorem dX2_isFloating_12 : decode cX2_isFloating 12 = .ok (.iconst 1, 1) := by decide +kernel
theorem dX2_isFloating_13 : decode cX2_isFloating 13 = .ok (.goto 4, 3) := by decide +kernel
theorem dX2_isFloating_16 : decode cX2_isFloating 16 = .ok (.iconst 0, 1) := by decide +kernel
theorem dX2_isFloating_17 : decode cX2_isFloating 17 = .ok (.ireturn, 1) := by decide +kernel
set_option maxRecDepth 20000 in
theorem ggX2_widens_X2_holdsCells : GoodIn wsX2_widens wsX2_holdsCells := goodIn_r _ [4] (by decide +kernel) (by decide +kernel)
set_option maxRecDepth 20000 in
theorem gX2_widens_X2_holdsCells : GoodIn wsX2_widens (va_wsS RX2 44 yX2_holdsCells wsX2_holdsCells) := goodIn_app (goodIn_of _ (by decide +kernel)) ggX2_widens_X2_holdsCells
theorem dX2_widens_0 : decode cX2_widens 0 = .ok (.iload_n 0, 1) := by decide +kernel
theorem dX2_widens_1 : decode cX2_widens 1 = .ok (.invokestatic 44, 3) := by decide +kernel
theorem dX2_widens_4 : decode cX2_widens 4 = .ok (.ifCond .eq 10, 3) := by decide +kernel
theorem dX2_widens_7 : decode cX2_widens 7 = .ok (.iload_n 1, 1) := by decide +kernel
theorem dX2_widens_8 : decode cX2_widens 8 = .ok (.invokestatic 44, 3) := by decide +kernel
theorem dX2_widens_11 : decode cX2_widens 11 = .ok (.ifCond .ne 5, 3) := by decide +kernel
theorem dX2_widens_14 : decode cX2_widens 14 = .ok (.iconst 0, 1) := by decide +kernel
theorem dX2_widens_15 : decode cX2_widens 15 = .ok (.ireturn, 1) := by decide +kernel
theorem dX2_widens_16 : decode cX2_widens 16 = .ok (.iload_n 0, 1) := by decide +kernel
theorem dX2_widens_17 : decode cX2_widens 17 = .ok (.iload_n 1, 1) := by decide +kernel
theorem dX2_widens_18 : decode cX2_widens 18 = .ok (.if_icmp .ne 5, 3) := by decide +kernel
theorem dX2_widens_21 : decode cX2_widens 21 = .ok (.iconst 1, 1) := by decide +kernel
theorem dX2_widens_22 : decode cX2_widens 22 = .ok (.ireturn, 1) := by decide +kernel
theorem dX2_widens_23 : decode cX2_widens 23 = .ok (.iload_n 0, 1) := by decide +kernel
theorem dX2_widens_24 : decode cX2_widens 24 = .ok (.iconst 1, 1) := by decide +kernel
theorem dX2_widens_25 : decode cX2_widens 25 = .ok (.if_icmp .eq 8, 3) := by decide +kernel
theorem dX2_widens_28 : decode cX2_widens 28 = .ok (.iload_n 1, 1) := by decide +kernel
theorem dX2_widens_29 : decode cX2_widens 29 = .ok (.iconst 3, 1) := by decide +kernel
theorem dX2_widens_30 : decode cX2_widens 30 = .ok (.if_icmp .ne 5, 3) := by decide +kernel
theorem dX2_widens_33 : decode cX2_widens 33 = .ok (.iconst 0, 1) := by decide +kernel
theorem dX2_widens_34 : decode cX2_widens 34 = .ok (.ireturn, 1) := by decide +kernel
theorem dX2_widens_35 : decode cX2_widens 35 = .ok (.iload_n 0, 1) := by decide +kernel
theorem dX2_widens_36 : decode cX2_widens 36 = .ok (.iconst 3, 1) := by decide +kernel
theorem dX2_widens_37 : decode cX2_widens 37 = .ok (.if_icmp .ne 16, 3) := by decide +kernel
theorem dX2_widens_40 : decode cX2_widens 40 = .ok (.iload_n 1, 1) := by decide +kernel
theorem dX2_widens_41 : decode cX2_widens 41 = .ok (.iconst 5, 1) := by decide +kernel
theorem dX2_widens_42 : decode cX2_widens 42 = .ok (.if_icmp .lt 7, 3) := by decide +kernel
theorem dX2_widens_45 : decode cX2_widens 45 = .ok (.iconst 1, 1) := by decide +kernel
theorem dX2_widens_46 : decode cX2_widens 46 = .ok (.goto 17, 3) := by decide +kernel
theorem dX2_widens_49 : decode cX2_widens 49 = .ok (.iconst 0, 1) := by decide +kernel
theorem dX2_widens_50 : decode cX2_widens 50 = .ok (.goto 13, 3) := by decide +kernel
theorem dX2_widens_53 : decode cX2_widens 53 = .ok (.iload_n 0, 1) := by decide +kernel
theorem dX2_widens_54 : decode cX2_widens 54 = .ok (.iload_n 1, 1) := by decide +kernel
theorem dX2_widens_55 : decode cX2_widens 55 = .ok (.if_icmp .ge 7, 3) := by decide +kernel
theorem dX2_widens_58 : decode cX2_widens 58 = .ok (.iconst 1, 1) := by decide +kernel
theorem dX2_widens_59 : decode cX2_widens 59 = .ok (.goto 4, 3) := by decide +kernel
theorem dX2_widens_62 : decode cX2_widens 62 = .ok (.iconst 0, 1) := by decide +kernel
theorem dX2_widens_63 : decode cX2_widens 63 = .ok (.ireturn, 1) := by decide +kernel
theorem dX2_isPart_0 : decode cX2_isPart 0 = .ok (.iload_n 0, 1) := by decide +kernel
theorem dX2_isPart_1 : decode cX2_isPart 1 = .ok (.ifCond .lt 18, 3) := by decide +kernel
theorem dX2_isPart_4 : decode cX2_isPart 4 = .ok (.iload_n 1, 1) := by decide +kernel
theorem dX2_isPart_5 : decode cX2_isPart 5 = .ok (.ifCond .lt 14, 3) := by decide +kernel
theorem dX2_isPart_8 : decode cX2_isPart 8 = .ok (.iload_n 0, 1) := by decide +kernel
theorem dX2_isPart_9 : decode cX2_isPart 9 = .ok (.iload_n 2, 1) := by decide +kernel
theorem dX2_isPart_10 : decode cX2_isPart 10 = .ok (.iload_n 1, 1) := by decide +kernel
theorem dX2_isPart_11 : decode cX2_isPart 11 = .ok (.isub, 1) := by decide +kernel
theorem dX2_isPart_12 : decode cX2_isPart 12 = .ok (.if_icmp .gt 7, 3) := by decide +kernel
theorem dX2_isPart_15 : decode cX2_isPart 15 = .ok (.iconst 1, 1) := by decide +kernel
theorem dX2_isPart_16 : decode cX2_isPart 16 = .ok (.goto 4, 3) := by decide +kernel
theorem dX2_isPart_19 : decode cX2_isPart 19 = .ok (.iconst 0, 1) := by decide +kernel
theorem dX2_isPart_20 : decode cX2_isPart 20 = .ok (.ireturn, 1) := by decide +kernel
set_option maxRecDepth 20000 in
theorem ggX2_refuseWithoutCells_X2_holdsCells : GoodIn wsX2_refuseWithoutCells wsX2_holdsCells := goodIn_r _ [6] (by decide +kernel) (by decide +kernel)
set_option maxRecDepth 20000 in
theorem gX2_refuseWithoutCells_X2_holdsCells : GoodIn wsX2_refuseWithoutCells (va_wsS RX2 44 yX2_holdsCells wsX2_holdsCells) := goodIn_app (goodIn_of _ (by decide +kernel)) ggX2_refuseWithoutCells_X2_holdsCells
theorem dX2_refuseWithoutCells_0 : decode cX2_refuseWithoutCells 0 = .ok (.iload_n 0, 1) := by decide +kernel
theorem dX2_refuseWithoutCells_1 : decode cX2_refuseWithoutCells 1 = .ok (.invokestatic 44, 3) := by decide +kernel
theorem dX2_refuseWithoutCells_4 : decode cX2_refuseWithoutCells 4 = .ok (.ifCond .ne 13, 3) := by decide +kernel
theorem dX2_refuseWithoutCells_7 : decode cX2_refuseWithoutCells 7 = .ok (.new 37, 3) := by decide +kernel
theorem dX2_refuseWithoutCells_10 : decode cX2_refuseWithoutCells 10 = .ok (.dup, 1) := by decide +kernel
theorem dX2_refuseWithoutCells_11 : decode cX2_refuseWithoutCells 11 = .ok (.ldc 157, 2) := by decide +kernel
theorem dX2_refuseWithoutCells_13 : decode cX2_refuseWithoutCells 13 = .ok (.invokespecial 41, 3) := by decide +kernel
theorem dX2_refuseWithoutCells_16 : decode cX2_refuseWithoutCells 16 = .ok (.athrow, 1) := by decide +kernel
theorem dX2_refuseWithoutCells_17 : decode cX2_refuseWithoutCells 17 = .ok (.return_, 1) := by decide +kernel
theorem dX2_refuseWhenFull_0 : decode cX2_refuseWhenFull 0 = .ok (.aload_n 0, 1) := by decide +kernel
theorem dX2_refuseWhenFull_1 : decode cX2_refuseWhenFull 1 = .ok (.getfield 26, 3) := by decide +kernel
theorem dX2_refuseWhenFull_4 : decode cX2_refuseWhenFull 4 = .ok (.aload_n 0, 1) := by decide +kernel
theorem dX2_refuseWhenFull_5 : decode cX2_refuseWhenFull 5 = .ok (.getfield 11, 3) := by decide +kernel
theorem dX2_refuseWhenFull_8 : decode cX2_refuseWhenFull 8 = .ok (.arraylength, 1) := by decide +kernel
theorem dX2_refuseWhenFull_9 : decode cX2_refuseWhenFull 9 = .ok (.if_icmp .lt 13, 3) := by decide +kernel
theorem dX2_refuseWhenFull_12 : decode cX2_refuseWhenFull 12 = .ok (.new 159, 3) := by decide +kernel
theorem dX2_refuseWhenFull_15 : decode cX2_refuseWhenFull 15 = .ok (.dup, 1) := by decide +kernel
theorem dX2_refuseWhenFull_16 : decode cX2_refuseWhenFull 16 = .ok (.ldc 161, 2) := by decide +kernel
theorem dX2_refuseWhenFull_18 : decode cX2_refuseWhenFull 18 = .ok (.invokespecial 163, 3) := by decide +kernel
theorem dX2_refuseWhenFull_21 : decode cX2_refuseWhenFull 21 = .ok (.athrow, 1) := by decide +kernel
theorem dX2_refuseWhenFull_22 : decode cX2_refuseWhenFull 22 = .ok (.return_, 1) := by decide +kernel
theorem dX2_columnAt_0 : decode cX2_columnAt 0 = .ok (.iload_n 1, 1) := by decide +kernel
theorem dX2_columnAt_1 : decode cX2_columnAt 1 = .ok (.ifCond .lt 21, 3) := by decide +kernel
theorem dX2_columnAt_4 : decode cX2_columnAt 4 = .ok (.iload_n 1, 1) := by decide +kernel
theorem dX2_columnAt_5 : decode cX2_columnAt 5 = .ok (.aload_n 0, 1) := by decide +kernel
theorem dX2_columnAt_6 : decode cX2_columnAt 6 = .ok (.getfield 11, 3) := by decide +kernel
theorem dX2_columnAt_9 : decode cX2_columnAt 9 = .ok (.arraylength, 1) := by decide +kernel
theorem dX2_columnAt_10 : decode cX2_columnAt 10 = .ok (.if_icmp .ge 12, 3) := by decide +kernel
theorem dX2_columnAt_13 : decode cX2_columnAt 13 = .ok (.aload_n 0, 1) := by decide +kernel
theorem dX2_columnAt_14 : decode cX2_columnAt 14 = .ok (.getfield 11, 3) := by decide +kernel
theorem dX2_columnAt_17 : decode cX2_columnAt 17 = .ok (.iload_n 1, 1) := by decide +kernel
theorem dX2_columnAt_18 : decode cX2_columnAt 18 = .ok (.aaload, 1) := by decide +kernel
theorem dX2_columnAt_19 : decode cX2_columnAt 19 = .ok (.goto 4, 3) := by decide +kernel
theorem dX2_columnAt_22 : decode cX2_columnAt 22 = .ok (.aconst_null, 1) := by decide +kernel
theorem dX2_columnAt_23 : decode cX2_columnAt 23 = .ok (.astore_n 2, 1) := by decide +kernel
theorem dX2_columnAt_24 : decode cX2_columnAt 24 = .ok (.aload_n 2, 1) := by decide +kernel
theorem dX2_columnAt_25 : decode cX2_columnAt 25 = .ok (.ifnonnull 13, 3) := by decide +kernel
theorem dX2_columnAt_28 : decode cX2_columnAt 28 = .ok (.new 139, 3) := by decide +kernel
theorem dX2_columnAt_31 : decode cX2_columnAt 31 = .ok (.dup, 1) := by decide +kernel
theorem dX2_columnAt_32 : decode cX2_columnAt 32 = .ok (.ldc 164, 2) := by decide +kernel
theorem dX2_columnAt_34 : decode cX2_columnAt 34 = .ok (.invokespecial 143, 3) := by decide +kernel
theorem dX2_columnAt_37 : decode cX2_columnAt 37 = .ok (.athrow, 1) := by decide +kernel
theorem dX2_columnAt_38 : decode cX2_columnAt 38 = .ok (.aload_n 2, 1) := by decide +kernel
theorem dX2_columnAt_39 : decode cX2_columnAt 39 = .ok (.areturn, 1) := by decide +kernel
theorem dX2_addColumn_0 : decode cX2_addColumn 0 = .ok (.aload_n 0, 1) := by decide +kernel
theorem dX2_addColumn_1 : decode cX2_addColumn 1 = .ok (.getfield 26, 3) := by decide +kernel
theorem dX2_addColumn_4 : decode cX2_addColumn 4 = .ok (.istore_n 2, 1) := by decide +kernel
theorem dX2_addColumn_5 : decode cX2_addColumn 5 = .ok (.iload_n 2, 1) := by decide +kernel
theorem dX2_addColumn_6 : decode cX2_addColumn 6 = .ok (.ifCond .lt 26, 3) := by decide +kernel
theorem dX2_addColumn_9 : decode cX2_addColumn 9 = .ok (.iload_n 2, 1) := by decide +kernel
theorem dX2_addColumn_10 : decode cX2_addColumn 10 = .ok (.aload_n 0, 1) := by decide +kernel
theorem dX2_addColumn_11 : decode cX2_addColumn 11 = .ok (.getfield 11, 3) := by decide +kernel
theorem dX2_addColumn_14 : decode cX2_addColumn 14 = .ok (.arraylength, 1) := by decide +kernel
theorem dX2_addColumn_15 : decode cX2_addColumn 15 = .ok (.if_icmp .ge 17, 3) := by decide +kernel
theorem dX2_addColumn_18 : decode cX2_addColumn 18 = .ok (.aload_n 0, 1) := by decide +kernel
theorem dX2_addColumn_19 : decode cX2_addColumn 19 = .ok (.getfield 11, 3) := by decide +kernel
theorem dX2_addColumn_22 : decode cX2_addColumn 22 = .ok (.iload_n 2, 1) := by decide +kernel
theorem dX2_addColumn_23 : decode cX2_addColumn 23 = .ok (.aload_n 1, 1) := by decide +kernel
theorem dX2_addColumn_24 : decode cX2_addColumn 24 = .ok (.aastore, 1) := by decide +kernel
theorem dX2_addColumn_25 : decode cX2_addColumn 25 = .ok (.aload_n 0, 1) := by decide +kernel
theorem dX2_addColumn_26 : decode cX2_addColumn 26 = .ok (.iload_n 2, 1) := by decide +kernel
theorem dX2_addColumn_27 : decode cX2_addColumn 27 = .ok (.iconst 1, 1) := by decide +kernel
theorem dX2_addColumn_28 : decode cX2_addColumn 28 = .ok (.iadd, 1) := by decide +kernel
theorem dX2_addColumn_29 : decode cX2_addColumn 29 = .ok (.putfield 26, 3) := by decide +kernel
theorem dX2_addColumn_32 : decode cX2_addColumn 32 = .ok (.iload_n 2, 1) := by decide +kernel
theorem dX2_addColumn_33 : decode cX2_addColumn 33 = .ok (.ireturn, 1) := by decide +kernel
theorem dX2_note_0 : decode cX2_note 0 = .ok (.iload_n 1, 1) := by decide +kernel
theorem dX2_note_1 : decode cX2_note 1 = .ok (.ifCond .lt 22, 3) := by decide +kernel
theorem dX2_note_4 : decode cX2_note 4 = .ok (.iload_n 1, 1) := by decide +kernel
theorem dX2_note_5 : decode cX2_note 5 = .ok (.aload_n 0, 1) := by decide +kernel
theorem dX2_note_6 : decode cX2_note 6 = .ok (.getfield 15, 3) := by decide +kernel
theorem dX2_note_9 : decode cX2_note 9 = .ok (.arraylength, 1) := by decide +kernel
theorem dX2_note_10 : decode cX2_note 10 = .ok (.if_icmp .ge 13, 3) := by decide +kernel
theorem dX2_note_13 : decode cX2_note 13 = .ok (.aload_n 0, 1) := by decide +kernel
theorem dX2_note_14 : decode cX2_note 14 = .ok (.getfield 15, 3) := by decide +kernel
theorem dX2_note_17 : decode cX2_note 17 = .ok (.iload_n 1, 1) := by decide +kernel
theorem dX2_note_18 : decode cX2_note 18 = .ok (.dup2, 1) := by decide +kernel
theorem dX2_note_19 : decode cX2_note 19 = .ok (.iaload, 1) := by decide +kernel
theorem dX2_note_20 : decode cX2_note 20 = .ok (.iconst 1, 1) := by decide +kernel
theorem dX2_note_21 : decode cX2_note 21 = .ok (.iadd, 1) := by decide +kernel
theorem dX2_note_22 : decode cX2_note 22 = .ok (.iastore, 1) := by decide +kernel
theorem dX2_note_23 : decode cX2_note 23 = .ok (.aload_n 0, 1) := by decide +kernel
theorem dX2_note_24 : decode cX2_note 24 = .ok (.iload_n 1, 1) := by decide +kernel
theorem dX2_note_25 : decode cX2_note 25 = .ok (.putfield 30, 3) := by decide +kernel
theorem dX2_note_28 : decode cX2_note 28 = .ok (.iload_n 1, 1) := by decide +kernel
theorem dX2_note_29 : decode cX2_note 29 = .ok (.ireturn, 1) := by decide +kernel
theorem dX2_codeOfColumn_0 : decode cX2_codeOfColumn 0 = .ok (.aload_n 0, 1) := by decide +kernel
theorem dX2_codeOfColumn_1 : decode cX2_codeOfColumn 1 = .ok (.getfield 66, 3) := by decide +kernel
theorem dX2_codeOfColumn_4 : decode cX2_codeOfColumn 4 = .ok (.ifCond .ne 5, 3) := by decide +kernel
theorem dX2_codeOfColumn_7 : decode cX2_codeOfColumn 7 = .ok (.iconst 1, 1) := by decide +kernel
theorem dX2_codeOfColumn_8 : decode cX2_codeOfColumn 8 = .ok (.ireturn, 1) := by decide +kernel
theorem dX2_codeOfColumn_9 : decode cX2_codeOfColumn 9 = .ok (.aload_n 0, 1) := by decide +kernel
theorem dX2_codeOfColumn_10 : decode cX2_codeOfColumn 10 = .ok (.getfield 66, 3) := by decide +kernel
theorem dX2_codeOfColumn_13 : decode cX2_codeOfColumn 13 = .ok (.bipush 9, 2) := by decide +kernel
theorem dX2_codeOfColumn_15 : decode cX2_codeOfColumn 15 = .ok (.if_icmp .ne 7, 3) := by decide +kernel
theorem dX2_codeOfColumn_18 : decode cX2_codeOfColumn 18 = .ok (.iconst 2, 1) := by decide +kernel
theorem dX2_codeOfColumn_19 : decode cX2_codeOfColumn 19 = .ok (.goto 4, 3) := by decide +kernel
theorem dX2_codeOfColumn_22 : decode cX2_codeOfColumn 22 = .ok (.iconst 0, 1) := by decide +kernel
theorem dX2_codeOfColumn_23 : decode cX2_codeOfColumn 23 = .ok (.ireturn, 1) := by decide +kernel
set_option maxRecDepth 20000 in
theorem ggX2_codeOfCell_X2_codeOfColumn : GoodIn wsX2_codeOfCell wsX2_codeOfColumn := goodIn_r _ [5, 6, 13, 14, 15, 16] (by decide +kernel) (by decide +kernel)
set_option maxRecDepth 20000 in
theorem gX2_codeOfCell_X2_codeOfColumn : GoodIn wsX2_codeOfCell (va_wsS RX2 69 yX2_codeOfColumn wsX2_codeOfColumn) := goodIn_app (goodIn_of _ (by decide +kernel)) ggX2_codeOfCell_X2_codeOfColumn
set_option maxRecDepth 20000 in
theorem ggX2_codeOfCell_X2_widens : GoodIn wsX2_codeOfCell wsX2_widens := goodIn_r _ [9, 10, 11, 4, 12] (by decide +kernel) (by decide +kernel)
set_option maxRecDepth 20000 in
theorem gX2_codeOfCell_X2_widens : GoodIn wsX2_codeOfCell (va_wsS RX2 131 yX2_widens wsX2_widens) := goodIn_app (goodIn_of _ (by decide +kernel)) ggX2_codeOfCell_X2_widens
theorem dX2_codeOfCell_0 : decode cX2_codeOfCell 0 = .ok (.aload_n 0, 1) := by decide +kernel
theorem dX2_codeOfCell_1 : decode cX2_codeOfCell 1 = .ok (.invokestatic 69, 3) := by decide +kernel
theorem dX2_codeOfCell_4 : decode cX2_codeOfCell 4 = .ok (.istore 4, 2) := by decide +kernel
theorem dX2_codeOfCell_6 : decode cX2_codeOfCell 6 = .ok (.iload 4, 2) := by decide +kernel
theorem dX2_codeOfCell_8 : decode cX2_codeOfCell 8 = .ok (.ifCond .eq 6, 3) := by decide +kernel
theorem dX2_codeOfCell_11 : decode cX2_codeOfCell 11 = .ok (.iload 4, 2) := by decide +kernel
theorem dX2_codeOfCell_13 : decode cX2_codeOfCell 13 = .ok (.ireturn, 1) := by decide +kernel
theorem dX2_codeOfCell_14 : decode cX2_codeOfCell 14 = .ok (.iload_n 1, 1) := by decide +kernel
theorem dX2_codeOfCell_15 : decode cX2_codeOfCell 15 = .ok (.ifCond .lt 11, 3) := by decide +kernel
theorem dX2_codeOfCell_18 : decode cX2_codeOfCell 18 = .ok (.iload_n 1, 1) := by decide +kernel
theorem dX2_codeOfCell_19 : decode cX2_codeOfCell 19 = .ok (.aload_n 0, 1) := by decide +kernel
theorem dX2_codeOfCell_20 : decode cX2_codeOfCell 20 = .ok (.getfield 76, 3) := by decide +kernel
theorem dX2_codeOfCell_23 : decode cX2_codeOfCell 23 = .ok (.if_icmp .lt 5, 3) := by decide +kernel
theorem dX2_codeOfCell_26 : decode cX2_codeOfCell 26 = .ok (.iconst 3, 1) := by decide +kernel
theorem dX2_codeOfCell_27 : decode cX2_codeOfCell 27 = .ok (.ireturn, 1) := by decide +kernel
theorem dX2_codeOfCell_28 : decode cX2_codeOfCell 28 = .ok (.iload_n 2, 1) := by decide +kernel
theorem dX2_codeOfCell_29 : decode cX2_codeOfCell 29 = .ok (.iload_n 3, 1) := by decide +kernel
theorem dX2_codeOfCell_30 : decode cX2_codeOfCell 30 = .ok (.invokestatic 131, 3) := by decide +kernel
theorem dX2_codeOfCell_33 : decode cX2_codeOfCell 33 = .ok (.ifCond .eq 7, 3) := by decide +kernel
theorem dX2_codeOfCell_36 : decode cX2_codeOfCell 36 = .ok (.iconst 0, 1) := by decide +kernel
theorem dX2_codeOfCell_37 : decode cX2_codeOfCell 37 = .ok (.goto 4, 3) := by decide +kernel
theorem dX2_codeOfCell_40 : decode cX2_codeOfCell 40 = .ok (.iconst 4, 1) := by decide +kernel
theorem dX2_codeOfCell_41 : decode cX2_codeOfCell 41 = .ok (.ireturn, 1) := by decide +kernel
theorem dX2_codeOfKinds_0 : decode cX2_codeOfKinds 0 = .ok (.aload_n 0, 1) := by decide +kernel
theorem dX2_codeOfKinds_1 : decode cX2_codeOfKinds 1 = .ok (.getfield 66, 3) := by decide +kernel
theorem dX2_codeOfKinds_4 : decode cX2_codeOfKinds 4 = .ok (.ifCond .eq 10, 3) := by decide +kernel
theorem dX2_codeOfKinds_7 : decode cX2_codeOfKinds 7 = .ok (.aload_n 1, 1) := by decide +kernel
theorem dX2_codeOfKinds_8 : decode cX2_codeOfKinds 8 = .ok (.getfield 66, 3) := by decide +kernel
theorem dX2_codeOfKinds_11 : decode cX2_codeOfKinds 11 = .ok (.ifCond .ne 5, 3) := by decide +kernel
theorem dX2_codeOfKinds_14 : decode cX2_codeOfKinds 14 = .ok (.iconst 1, 1) := by decide +kernel
theorem dX2_codeOfKinds_15 : decode cX2_codeOfKinds 15 = .ok (.ireturn, 1) := by decide +kernel
theorem dX2_codeOfKinds_16 : decode cX2_codeOfKinds 16 = .ok (.aload_n 0, 1) := by decide +kernel
theorem dX2_codeOfKinds_17 : decode cX2_codeOfKinds 17 = .ok (.getfield 66, 3) := by decide +kernel
theorem dX2_codeOfKinds_20 : decode cX2_codeOfKinds 20 = .ok (.aload_n 1, 1) := by decide +kernel
theorem dX2_codeOfKinds_21 : decode cX2_codeOfKinds 21 = .ok (.getfield 66, 3) := by decide +kernel
theorem dX2_codeOfKinds_24 : decode cX2_codeOfKinds 24 = .ok (.if_icmp .ne 16, 3) := by decide +kernel
theorem dX2_codeOfKinds_27 : decode cX2_codeOfKinds 27 = .ok (.aload_n 0, 1) := by decide +kernel
theorem dX2_codeOfKinds_28 : decode cX2_codeOfKinds 28 = .ok (.getfield 66, 3) := by decide +kernel
theorem dX2_codeOfKinds_31 : decode cX2_codeOfKinds 31 = .ok (.bipush 9, 2) := by decide +kernel
theorem dX2_codeOfKinds_33 : decode cX2_codeOfKinds 33 = .ok (.if_icmp .eq 7, 3) := by decide +kernel
theorem dX2_codeOfKinds_36 : decode cX2_codeOfKinds 36 = .ok (.iconst 1, 1) := by decide +kernel
theorem dX2_codeOfKinds_37 : decode cX2_codeOfKinds 37 = .ok (.goto 4, 3) := by decide +kernel
theorem dX2_codeOfKinds_40 : decode cX2_codeOfKinds 40 = .ok (.iconst 0, 1) := by decide +kernel
theorem dX2_codeOfKinds_41 : decode cX2_codeOfKinds 41 = .ok (.istore_n 2, 1) := by decide +kernel
theorem dX2_codeOfKinds_42 : decode cX2_codeOfKinds 42 = .ok (.iload_n 2, 1) := by decide +kernel
theorem dX2_codeOfKinds_43 : decode cX2_codeOfKinds 43 = .ok (.ifCond .eq 7, 3) := by decide +kernel
theorem dX2_codeOfKinds_46 : decode cX2_codeOfKinds 46 = .ok (.iconst 0, 1) := by decide +kernel
theorem dX2_codeOfKinds_47 : decode cX2_codeOfKinds 47 = .ok (.goto 4, 3) := by decide +kernel
theorem dX2_codeOfKinds_50 : decode cX2_codeOfKinds 50 = .ok (.iconst 5, 1) := by decide +kernel
theorem dX2_codeOfKinds_51 : decode cX2_codeOfKinds 51 = .ok (.ireturn, 1) := by decide +kernel
set_option maxRecDepth 20000 in
theorem ggX2_readReal_X2_codeOfCell : GoodIn wsX2_readReal wsX2_codeOfCell := goodIn_r _ [5, 6, 7, 8, 4, 9, 1, 10, 11, 12, 13, 14, 15, 40, 41, 42, 43] (by decide +kernel) (by decide +kernel)
set_option maxRecDepth 20000 in
theorem gX2_readReal_X2_codeOfCell : GoodIn wsX2_readReal (va_wsS RX2 83 yX2_codeOfCell wsX2_codeOfCell) := goodIn_app (goodIn_of _ (by decide +kernel)) ggX2_readReal_X2_codeOfCell
set_option maxRecDepth 20000 in
theorem ggX2_readReal_X2_note : GoodIn wsX2_readReal wsX2_note := goodIn_r _ [19, 20, 21, 44, 45, 46, 47, 48] (by decide +kernel) (by decide +kernel)
set_option maxRecDepth 20000 in
theorem gX2_readReal_X2_note : GoodIn wsX2_readReal (wsV RX2 72 RX2 yX2_note wsX2_note) := goodIn_app (goodIn_of _ (by decide +kernel)) ggX2_readReal_X2_note
set_option maxRecDepth 20000 in
theorem ggX2_readReal_X0_doubleAt : GoodIn wsX2_readReal wsX0_doubleAt := goodIn_r _ [26, 27, 28, 4, 29, 30, 31, 32, 25, 33, 34, 35, 36, 37, 38, 39, 40, 41, 42, 43] (by decide +kernel) (by decide +kernel)
set_option maxRecDepth 20000 in
theorem gX2_readReal_X0_doubleAt : GoodIn wsX2_readReal (wsV RX2 170 RX0 yX0_doubleAt wsX0_doubleAt) := goodIn_app (goodIn_of _ (by decide +kernel)) ggX2_readReal_X0_doubleAt
theorem dX2_readReal_0 : decode cX2_readReal 0 = .ok (.aload_n 0, 1) := by decide +kernel
theorem dX2_readReal_1 : decode cX2_readReal 1 = .ok (.aload_n 1, 1) := by decide +kernel
theorem dX2_readReal_2 : decode cX2_readReal 2 = .ok (.iload_n 2, 1) := by decide +kernel
theorem dX2_readReal_3 : decode cX2_readReal 3 = .ok (.aload_n 1, 1) := by decide +kernel
theorem dX2_readReal_4 : decode cX2_readReal 4 = .ok (.getfield 66, 3) := by decide +kernel
theorem dX2_readReal_7 : decode cX2_readReal 7 = .ok (.iload_n 3, 1) := by decide +kernel
theorem dX2_readReal_8 : decode cX2_readReal 8 = .ok (.invokestatic 83, 3) := by decide +kernel
theorem dX2_readReal_11 : decode cX2_readReal 11 = .ok (.invokevirtual 72, 3) := by decide +kernel
theorem dX2_readReal_14 : decode cX2_readReal 14 = .ok (.istore 4, 2) := by decide +kernel
theorem dX2_readReal_16 : decode cX2_readReal 16 = .ok (.iload 4, 2) := by decide +kernel
theorem dX2_readReal_18 : decode cX2_readReal 18 = .ok (.ifCond .ne 11, 3) := by decide +kernel
theorem dX2_readReal_21 : decode cX2_readReal 21 = .ok (.aload_n 1, 1) := by decide +kernel
theorem dX2_readReal_22 : decode cX2_readReal 22 = .ok (.iload_n 2, 1) := by decide +kernel
theorem dX2_readReal_23 : decode cX2_readReal 23 = .ok (.invokevirtual 170, 3) := by decide +kernel
theorem dX2_readReal_26 : decode cX2_readReal 26 = .ok (.goto 4, 3) := by decide +kernel
theorem dX2_readReal_29 : decode cX2_readReal 29 = .ok (.dconst 0, 1) := by decide +kernel
theorem dX2_readReal_30 : decode cX2_readReal 30 = .ok (.dreturn, 1) := by decide +kernel
set_option maxRecDepth 20000 in
theorem ggX2_writeWhole_X2_codeOfCell : GoodIn wsX2_writeWhole wsX2_codeOfCell := goodIn_r _ [5, 6, 7, 8, 4, 9, 1, 10, 11, 12, 13, 14, 15, 34, 35, 36, 37] (by decide +kernel) (by decide +kernel)
set_option maxRecDepth 20000 in
theorem gX2_writeWhole_X2_codeOfCell : GoodIn wsX2_writeWhole (va_wsS RX2 83 yX2_codeOfCell wsX2_codeOfCell) := goodIn_app (goodIn_of _ (by decide +kernel)) ggX2_writeWhole_X2_codeOfCell
set_option maxRecDepth 20000 in
theorem ggX2_writeWhole_X2_note : GoodIn wsX2_writeWhole wsX2_note := goodIn_r _ [19, 20, 21, 38, 39, 40, 41, 42] (by decide +kernel) (by decide +kernel)
set_option maxRecDepth 20000 in
theorem gX2_writeWhole_X2_note : GoodIn wsX2_writeWhole (wsV RX2 72 RX2 yX2_note wsX2_note) := goodIn_app (goodIn_of _ (by decide +kernel)) ggX2_writeWhole_X2_note
set_option maxRecDepth 20000 in
theorem ggX2_writeWhole_X0_putWhole : GoodIn wsX2_writeWhole wsX0_putWhole := goodIn_r _ [26, 27, 28, 29, 30, 31, 25, 32, 33, 34, 35, 36, 37] (by decide +kernel) (by decide +kernel)
set_option maxRecDepth 20000 in
theorem gX2_writeWhole_X0_putWhole : GoodIn wsX2_writeWhole (wsV RX2 174 RX0 yX0_putWhole wsX0_putWhole) := goodIn_app (goodIn_of _ (by decide +kernel)) ggX2_writeWhole_X0_putWhole
theorem dX2_writeWhole_0 : decode cX2_writeWhole 0 = .ok (.aload_n 0, 1) := by decide +kernel
theorem dX2_writeWhole_1 : decode cX2_writeWhole 1 = .ok (.aload_n 1, 1) := by decide +kernel
theorem dX2_writeWhole_2 : decode cX2_writeWhole 2 = .ok (.iload_n 2, 1) := by decide +kernel
theorem dX2_writeWhole_3 : decode cX2_writeWhole 3 = .ok (.iload_n 3, 1) := by decide +kernel
theorem dX2_writeWhole_4 : decode cX2_writeWhole 4 = .ok (.aload_n 1, 1) := by decide +kernel
theorem dX2_writeWhole_5 : decode cX2_writeWhole 5 = .ok (.getfield 66, 3) := by decide +kernel
theorem dX2_writeWhole_8 : decode cX2_writeWhole 8 = .ok (.invokestatic 83, 3) := by decide +kernel
theorem dX2_writeWhole_11 : decode cX2_writeWhole 11 = .ok (.invokevirtual 72, 3) := by decide +kernel
theorem dX2_writeWhole_14 : decode cX2_writeWhole 14 = .ok (.istore 6, 2) := by decide +kernel
theorem dX2_writeWhole_16 : decode cX2_writeWhole 16 = .ok (.iload 6, 2) := by decide +kernel
theorem dX2_writeWhole_18 : decode cX2_writeWhole 18 = .ok (.ifCond .ne 10, 3) := by decide +kernel
theorem dX2_writeWhole_21 : decode cX2_writeWhole 21 = .ok (.aload_n 1, 1) := by decide +kernel
theorem dX2_writeWhole_22 : decode cX2_writeWhole 22 = .ok (.iload_n 2, 1) := by decide +kernel
theorem dX2_writeWhole_23 : decode cX2_writeWhole 23 = .ok (.lload 4, 2) := by decide +kernel
theorem dX2_writeWhole_25 : decode cX2_writeWhole 25 = .ok (.invokevirtual 174, 3) := by decide +kernel
theorem dX2_writeWhole_28 : decode cX2_writeWhole 28 = .ok (.iload 6, 2) := by decide +kernel
theorem dX2_writeWhole_30 : decode cX2_writeWhole 30 = .ok (.ireturn, 1) := by decide +kernel
set_option maxRecDepth 20000 in
theorem ggX2_writeReal_X2_codeOfCell : GoodIn wsX2_writeReal wsX2_codeOfCell := goodIn_r _ [5, 6, 7, 8, 4, 9, 1, 10, 11, 12, 13, 14, 15, 28, 29, 30, 31] (by decide +kernel) (by decide +kernel)
set_option maxRecDepth 20000 in
theorem gX2_writeReal_X2_codeOfCell : GoodIn wsX2_writeReal (va_wsS RX2 83 yX2_codeOfCell wsX2_codeOfCell) := goodIn_app (goodIn_of _ (by decide +kernel)) ggX2_writeReal_X2_codeOfCell
set_option maxRecDepth 20000 in
theorem ggX2_writeReal_X2_note : GoodIn wsX2_writeReal wsX2_note := goodIn_r _ [19, 20, 21, 32, 33, 34, 35, 36] (by decide +kernel) (by decide +kernel)
set_option maxRecDepth 20000 in
theorem gX2_writeReal_X2_note : GoodIn wsX2_writeReal (wsV RX2 72 RX2 yX2_note wsX2_note) := goodIn_app (goodIn_of _ (by decide +kernel)) ggX2_writeReal_X2_note
set_option maxRecDepth 20000 in
theorem ggX2_writeReal_X0_putReal : GoodIn wsX2_writeReal wsX0_putReal := goodIn_r _ [26, 27, 28, 29, 30, 31] (by decide +kernel) (by decide +kernel)
set_option maxRecDepth 20000 in
theorem gX2_writeReal_X0_putReal : GoodIn wsX2_writeReal (wsV RX2 178 RX0 yX0_putReal wsX0_putReal) := goodIn_app (goodIn_of _ (by decide +kernel)) ggX2_writeReal_X0_putReal
theorem dX2_writeReal_0 : decode cX2_writeReal 0 = .ok (.aload_n 0, 1) := by decide +kernel
theorem dX2_writeReal_1 : decode cX2_writeReal 1 = .ok (.aload_n 1, 1) := by decide +kernel
theorem dX2_writeReal_2 : decode cX2_writeReal 2 = .ok (.iload_n 2, 1) := by decide +kernel
theorem dX2_writeReal_3 : decode cX2_writeReal 3 = .ok (.iload_n 3, 1) := by decide +kernel
theorem dX2_writeReal_4 : decode cX2_writeReal 4 = .ok (.aload_n 1, 1) := by decide +kernel
theorem dX2_writeReal_5 : decode cX2_writeReal 5 = .ok (.getfield 66, 3) := by decide +kernel
theorem dX2_writeReal_8 : decode cX2_writeReal 8 = .ok (.invokestatic 83, 3) := by decide +kernel
theorem dX2_writeReal_11 : decode cX2_writeReal 11 = .ok (.invokevirtual 72, 3) := by decide +kernel
theorem dX2_writeReal_14 : decode cX2_writeReal 14 = .ok (.istore 6, 2) := by decide +kernel
theorem dX2_writeReal_16 : decode cX2_writeReal 16 = .ok (.iload 6, 2) := by decide +kernel
theorem dX2_writeReal_18 : decode cX2_writeReal 18 = .ok (.ifCond .ne 10, 3) := by decide +kernel
theorem dX2_writeReal_21 : decode cX2_writeReal 21 = .ok (.aload_n 1, 1) := by decide +kernel
theorem dX2_writeReal_22 : decode cX2_writeReal 22 = .ok (.iload_n 2, 1) := by decide +kernel
theorem dX2_writeReal_23 : decode cX2_writeReal 23 = .ok (.dload 4, 2) := by decide +kernel
theorem dX2_writeReal_25 : decode cX2_writeReal 25 = .ok (.invokevirtual 178, 3) := by decide +kernel
theorem dX2_writeReal_28 : decode cX2_writeReal 28 = .ok (.iload 6, 2) := by decide +kernel
theorem dX2_writeReal_30 : decode cX2_writeReal 30 = .ok (.ireturn, 1) := by decide +kernel
theorem dX2_wholeMadeFrom_0 : decode cX2_wholeMadeFrom 0 = .ok (.iload_n 1, 1) := by decide +kernel
theorem dX2_wholeMadeFrom_1 : decode cX2_wholeMadeFrom 1 = .ok (.tableswitch 53 1 4 #[31, 41, 45, 49], 31) := by decide +kernel
theorem dX2_wholeMadeFrom_32 : decode cX2_wholeMadeFrom 32 = .ok (.iload_n 0, 1) := by decide +kernel
theorem dX2_wholeMadeFrom_33 : decode cX2_wholeMadeFrom 33 = .ok (.ifCond .eq 7, 3) := by decide +kernel
theorem dX2_wholeMadeFrom_36 : decode cX2_wholeMadeFrom 36 = .ok (.lconst 1, 1) := by decide +kernel
theorem dX2_wholeMadeFrom_37 : decode cX2_wholeMadeFrom 37 = .ok (.goto 4, 3) := by decide +kernel
theorem dX2_wholeMadeFrom_40 : decode cX2_wholeMadeFrom 40 = .ok (.lconst 0, 1) := by decide +kernel
theorem dX2_wholeMadeFrom_41 : decode cX2_wholeMadeFrom 41 = .ok (.lreturn, 1) := by decide +kernel
theorem dX2_wholeMadeFrom_42 : decode cX2_wholeMadeFrom 42 = .ok (.iload_n 0, 1) := by decide +kernel
theorem dX2_wholeMadeFrom_43 : decode cX2_wholeMadeFrom 43 = .ok (.i2b, 1) := by decide +kernel
theorem dX2_wholeMadeFrom_44 : decode cX2_wholeMadeFrom 44 = .ok (.i2l, 1) := by decide +kernel
theorem dX2_wholeMadeFrom_45 : decode cX2_wholeMadeFrom 45 = .ok (.lreturn, 1) := by decide +kernel
theorem dX2_wholeMadeFrom_46 : decode cX2_wholeMadeFrom 46 = .ok (.iload_n 0, 1) := by decide +kernel
theorem dX2_wholeMadeFrom_47 : decode cX2_wholeMadeFrom 47 = .ok (.i2c, 1) := by decide +kernel
theorem dX2_wholeMadeFrom_48 : decode cX2_wholeMadeFrom 48 = .ok (.i2l, 1) := by decide +kernel
theorem dX2_wholeMadeFrom_49 : decode cX2_wholeMadeFrom 49 = .ok (.lreturn, 1) := by decide +kernel
theorem dX2_wholeMadeFrom_50 : decode cX2_wholeMadeFrom 50 = .ok (.iload_n 0, 1) := by decide +kernel
theorem dX2_wholeMadeFrom_51 : decode cX2_wholeMadeFrom 51 = .ok (.i2s, 1) := by decide +kernel
theorem dX2_wholeMadeFrom_52 : decode cX2_wholeMadeFrom 52 = .ok (.i2l, 1) := by decide +kernel
theorem dX2_wholeMadeFrom_53 : decode cX2_wholeMadeFrom 53 = .ok (.lreturn, 1) := by decide +kernel
theorem dX2_wholeMadeFrom_54 : decode cX2_wholeMadeFrom 54 = .ok (.iload_n 0, 1) := by decide +kernel
theorem dX2_wholeMadeFrom_55 : decode cX2_wholeMadeFrom 55 = .ok (.i2l, 1) := by decide +kernel
theorem dX2_wholeMadeFrom_56 : decode cX2_wholeMadeFrom 56 = .ok (.lreturn, 1) := by decide +kernel
theorem dX2_noNumber_0 : decode cX2_noNumber 0 = .ok (.ldc2_w 182, 3) := by decide +kernel
theorem dX2_noNumber_3 : decode cX2_noNumber 3 = .ok (.dreturn, 1) := by decide +kernel
theorem dX2_isInfinite_0 : decode cX2_isInfinite 0 = .ok (.dload_n 0, 1) := by decide +kernel
theorem dX2_isInfinite_1 : decode cX2_isInfinite 1 = .ok (.ldc2_w 192, 3) := by decide +kernel
theorem dX2_isInfinite_4 : decode cX2_isInfinite 4 = .ok (.dcmp .l, 1) := by decide +kernel
theorem dX2_isInfinite_5 : decode cX2_isInfinite 5 = .ok (.ifCond .gt 11, 3) := by decide +kernel
theorem dX2_isInfinite_8 : decode cX2_isInfinite 8 = .ok (.dload_n 0, 1) := by decide +kernel
theorem dX2_isInfinite_9 : decode cX2_isInfinite 9 = .ok (.ldc2_w 194, 3) := by decide +kernel
theorem dX2_isInfinite_12 : decode cX2_isInfinite 12 = .ok (.dcmp .g, 1) := by decide +kernel
theorem dX2_isInfinite_13 : decode cX2_isInfinite 13 = .ok (.ifCond .ge 7, 3) := by decide +kernel
theorem dX2_isInfinite_16 : decode cX2_isInfinite 16 = .ok (.iconst 1, 1) := by decide +kernel
theorem dX2_isInfinite_17 : decode cX2_isInfinite 17 = .ok (.goto 4, 3) := by decide +kernel
theorem dX2_isInfinite_20 : decode cX2_isInfinite 20 = .ok (.iconst 0, 1) := by decide +kernel
theorem dX2_isInfinite_21 : decode cX2_isInfinite 21 = .ok (.ireturn, 1) := by decide +kernel
set_option maxRecDepth 20000 in
theorem ggX2_sumOf_X2_isInfinite : GoodIn wsX2_sumOf wsX2_isInfinite := goodIn_r _ [4, 5, 6] (by decide +kernel) (by decide +kernel)
set_option maxRecDepth 20000 in
theorem gX2_sumOf_X2_isInfinite : GoodIn wsX2_sumOf (va_wsS RX2 196 yX2_isInfinite wsX2_isInfinite) := goodIn_app (goodIn_of _ (by decide +kernel)) ggX2_sumOf_X2_isInfinite
set_option maxRecDepth 20000 in
theorem ggX2_sumOf_X2_noNumber : GoodIn wsX2_sumOf wsX2_noNumber := goodIn_r _ [9, 10] (by decide +kernel) (by decide +kernel)
set_option maxRecDepth 20000 in
theorem gX2_sumOf_X2_noNumber : GoodIn wsX2_sumOf (va_wsS RX2 185 yX2_noNumber wsX2_noNumber) := goodIn_app (goodIn_of _ (by decide +kernel)) ggX2_sumOf_X2_noNumber
theorem dX2_sumOf_0 : decode cX2_sumOf 0 = .ok (.dload_n 0, 1) := by decide +kernel
theorem dX2_sumOf_1 : decode cX2_sumOf 1 = .ok (.dload_n 0, 1) := by decide +kernel
theorem dX2_sumOf_2 : decode cX2_sumOf 2 = .ok (.dcmp .l, 1) := by decide +kernel
theorem dX2_sumOf_3 : decode cX2_sumOf 3 = .ok (.ifCond .ne 23, 3) := by decide +kernel
theorem dX2_sumOf_6 : decode cX2_sumOf 6 = .ok (.dload_n 2, 1) := by decide +kernel
theorem dX2_sumOf_7 : decode cX2_sumOf 7 = .ok (.dload_n 2, 1) := by decide +kernel
theorem dX2_sumOf_8 : decode cX2_sumOf 8 = .ok (.dcmp .l, 1) := by decide +kernel
theorem dX2_sumOf_9 : decode cX2_sumOf 9 = .ok (.ifCond .ne 17, 3) := by decide +kernel
theorem dX2_sumOf_12 : decode cX2_sumOf 12 = .ok (.dload_n 0, 1) := by decide +kernel
theorem dX2_sumOf_13 : decode cX2_sumOf 13 = .ok (.invokestatic 196, 3) := by decide +kernel
theorem dX2_sumOf_16 : decode cX2_sumOf 16 = .ok (.ifCond .eq 14, 3) := by decide +kernel
theorem dX2_sumOf_19 : decode cX2_sumOf 19 = .ok (.dload_n 0, 1) := by decide +kernel
theorem dX2_sumOf_20 : decode cX2_sumOf 20 = .ok (.dload_n 2, 1) := by decide +kernel
theorem dX2_sumOf_21 : decode cX2_sumOf 21 = .ok (.dneg, 1) := by decide +kernel
theorem dX2_sumOf_22 : decode cX2_sumOf 22 = .ok (.dcmp .l, 1) := by decide +kernel
theorem dX2_sumOf_23 : decode cX2_sumOf 23 = .ok (.ifCond .ne 7, 3) := by decide +kernel
theorem dX2_sumOf_26 : decode cX2_sumOf 26 = .ok (.invokestatic 185, 3) := by decide +kernel
theorem dX2_sumOf_29 : decode cX2_sumOf 29 = .ok (.dreturn, 1) := by decide +kernel
theorem dX2_sumOf_30 : decode cX2_sumOf 30 = .ok (.dload_n 0, 1) := by decide +kernel
theorem dX2_sumOf_31 : decode cX2_sumOf 31 = .ok (.dload_n 2, 1) := by decide +kernel
theorem dX2_sumOf_32 : decode cX2_sumOf 32 = .ok (.dadd, 1) := by decide +kernel
theorem dX2_sumOf_33 : decode cX2_sumOf 33 = .ok (.dreturn, 1) := by decide +kernel
set_option maxRecDepth 20000 in
theorem ggJ0_charAt_5068e_J0_isLatin1_aae02 : GoodIn wsJ0_charAt_5068e wsJ0_isLatin1_aae02 := goodIn_r _ [6, 7, 8] (by decide +kernel) (by decide +kernel)
set_option maxRecDepth 20000 in
theorem gJ0_charAt_5068e_J0_isLatin1_aae02 : GoodIn wsJ0_charAt_5068e (wsV RJ0 492 RJ0 yJ0_isLatin1_aae02 wsJ0_isLatin1_aae02) := goodIn_app (goodIn_of _ (by decide +kernel)) ggJ0_charAt_5068e_J0_isLatin1_aae02
set_option maxRecDepth 20000 in
theorem ggJ0_charAt_5068e_J1_charAt_3b067 : GoodIn wsJ0_charAt_5068e wsJ1_charAt_3b067 := goodIn_r _ [12, 13, 14, 5, 15, 16, 17, 18, 19, 20] (by decide +kernel) (by decide +kernel)
set_option maxRecDepth 20000 in
theorem gJ0_charAt_5068e_J1_charAt_3b067 : GoodIn wsJ0_charAt_5068e (va_wsS RJ0 495 yJ1_charAt_3b067 wsJ1_charAt_3b067) := goodIn_app (goodIn_of _ (by decide +kernel)) ggJ0_charAt_5068e_J1_charAt_3b067
set_option maxRecDepth 20000 in
theorem ggJ0_charAt_5068e_J2_charAt_3b067 : GoodIn wsJ0_charAt_5068e wsJ2_charAt_3b067 := goodIn_r _ [24, 25, 26, 23, 27, 28, 29, 30, 31, 14, 5, 15, 16, 17, 18, 19, 20, 32, 33, 34, 35, 36, 37] (by decide +kernel) (by decide +kernel)
set_option maxRecDepth 20000 in
theorem gJ0_charAt_5068e_J2_charAt_3b067 : GoodIn wsJ0_charAt_5068e (va_wsS RJ0 498 yJ2_charAt_3b067 wsJ2_charAt_3b067) := goodIn_app (goodIn_of _ (by decide +kernel)) ggJ0_charAt_5068e_J2_charAt_3b067
theorem dJ0_charAt_5068e_0 : decode cJ0_charAt_5068e 0 = .ok (.aload_n 0, 1) := by decide +kernel
theorem dJ0_charAt_5068e_1 : decode cJ0_charAt_5068e 1 = .ok (.invokevirtual 492, 3) := by decide +kernel
theorem dJ0_charAt_5068e_4 : decode cJ0_charAt_5068e 4 = .ok (.ifCond .eq 12, 3) := by decide +kernel
theorem dJ0_charAt_5068e_7 : decode cJ0_charAt_5068e 7 = .ok (.aload_n 0, 1) := by decide +kernel
theorem dJ0_charAt_5068e_8 : decode cJ0_charAt_5068e 8 = .ok (.getfield 9, 3) := by decide +kernel
theorem dJ0_charAt_5068e_11 : decode cJ0_charAt_5068e 11 = .ok (.iload_n 1, 1) := by decide +kernel
theorem dJ0_charAt_5068e_12 : decode cJ0_charAt_5068e 12 = .ok (.invokestatic 495, 3) := by decide +kernel
theorem dJ0_charAt_5068e_15 : decode cJ0_charAt_5068e 15 = .ok (.ireturn, 1) := by decide +kernel
theorem dJ0_charAt_5068e_16 : decode cJ0_charAt_5068e 16 = .ok (.aload_n 0, 1) := by decide +kernel
theorem dJ0_charAt_5068e_17 : decode cJ0_charAt_5068e 17 = .ok (.getfield 9, 3) := by decide +kernel
theorem dJ0_charAt_5068e_20 : decode cJ0_charAt_5068e 20 = .ok (.iload_n 1, 1) := by decide +kernel
theorem dJ0_charAt_5068e_21 : decode cJ0_charAt_5068e 21 = .ok (.invokestatic 498, 3) := by decide +kernel
theorem dJ0_charAt_5068e_24 : decode cJ0_charAt_5068e 24 = .ok (.ireturn, 1) := by decide +kernel
theorem dJ0_isLatin1_aae02_0 : decode cJ0_isLatin1_aae02 0 = .ok (.getstatic 38, 3) := by decide +kernel
theorem dJ0_isLatin1_aae02_3 : decode cJ0_isLatin1_aae02 3 = .ok (.ifCond .eq 14, 3) := by decide +kernel
theorem dJ0_isLatin1_aae02_6 : decode cJ0_isLatin1_aae02 6 = .ok (.aload_n 0, 1) := by decide +kernel
theorem dJ0_isLatin1_aae02_7 : decode cJ0_isLatin1_aae02 7 = .ok (.getfield 15, 3) := by decide +kernel
theorem dJ0_isLatin1_aae02_10 : decode cJ0_isLatin1_aae02 10 = .ok (.ifCond .ne 7, 3) := by decide +kernel
theorem dJ0_isLatin1_aae02_13 : decode cJ0_isLatin1_aae02 13 = .ok (.iconst 1, 1) := by decide +kernel
theorem dJ0_isLatin1_aae02_14 : decode cJ0_isLatin1_aae02 14 = .ok (.goto 4, 3) := by decide +kernel
theorem dJ0_isLatin1_aae02_17 : decode cJ0_isLatin1_aae02 17 = .ok (.iconst 0, 1) := by decide +kernel
theorem dJ0_isLatin1_aae02_18 : decode cJ0_isLatin1_aae02 18 = .ok (.ireturn, 1) := by decide +kernel
set_option maxRecDepth 20000 in
theorem ggJ0_checkIndex_df160_J3_checkIndex_8e157 : GoodIn wsJ0_checkIndex_df160 wsJ3_checkIndex_8e157 := goodIn_r _ [5] (by decide +kernel) (by decide +kernel)
set_option maxRecDepth 20000 in
theorem gJ0_checkIndex_df160_J3_checkIndex_8e157 : GoodIn wsJ0_checkIndex_df160 (va_wsS RJ0 1059 yJ3_checkIndex_8e157 wsJ3_checkIndex_8e157) := goodIn_app (goodIn_of _ (by decide +kernel)) ggJ0_checkIndex_df160_J3_checkIndex_8e157
theorem dJ0_checkIndex_df160_0 : decode cJ0_checkIndex_df160 0 = .ok (.iload_n 0, 1) := by decide +kernel
theorem dJ0_checkIndex_df160_1 : decode cJ0_checkIndex_df160 1 = .ok (.iload_n 1, 1) := by decide +kernel
theorem dJ0_checkIndex_df160_2 : decode cJ0_checkIndex_df160 2 = .ok (.getstatic 1053, 3) := by decide +kernel
theorem dJ0_checkIndex_df160_5 : decode cJ0_checkIndex_df160 5 = .ok (.invokestatic 1059, 3) := by decide +kernel
theorem dJ0_checkIndex_df160_8 : decode cJ0_checkIndex_df160 8 = .ok (.pop, 1) := by decide +kernel
theorem dJ0_checkIndex_df160_9 : decode cJ0_checkIndex_df160 9 = .ok (.return_, 1) := by decide +kernel
set_option maxRecDepth 20000 in
theorem ggJ1_charAt_3b067_J0_checkIndex_df160 : GoodIn wsJ1_charAt_3b067 wsJ0_checkIndex_df160 := goodIn_r _ [4, 5, 6, 7, 8, 9] (by decide +kernel) (by decide +kernel)
set_option maxRecDepth 20000 in
theorem gJ1_charAt_3b067_J0_checkIndex_df160 : GoodIn wsJ1_charAt_3b067 (va_wsS RJ1 9 yJ0_checkIndex_df160 wsJ0_checkIndex_df160) := goodIn_app (goodIn_of _ (by decide +kernel)) ggJ1_charAt_3b067_J0_checkIndex_df160
theorem dJ1_charAt_3b067_0 : decode cJ1_charAt_3b067 0 = .ok (.iload_n 1, 1) := by decide +kernel
theorem dJ1_charAt_3b067_1 : decode cJ1_charAt_3b067 1 = .ok (.aload_n 0, 1) := by decide +kernel
theorem dJ1_charAt_3b067_2 : decode cJ1_charAt_3b067 2 = .ok (.arraylength, 1) := by decide +kernel
theorem dJ1_charAt_3b067_3 : decode cJ1_charAt_3b067 3 = .ok (.invokestatic 9, 3) := by decide +kernel
theorem dJ1_charAt_3b067_6 : decode cJ1_charAt_3b067 6 = .ok (.aload_n 0, 1) := by decide +kernel
theorem dJ1_charAt_3b067_7 : decode cJ1_charAt_3b067 7 = .ok (.iload_n 1, 1) := by decide +kernel
theorem dJ1_charAt_3b067_8 : decode cJ1_charAt_3b067 8 = .ok (.baload, 1) := by decide +kernel
theorem dJ1_charAt_3b067_9 : decode cJ1_charAt_3b067 9 = .ok (.sipush 255, 3) := by decide +kernel
theorem dJ1_charAt_3b067_12 : decode cJ1_charAt_3b067 12 = .ok (.iand, 1) := by decide +kernel
theorem dJ1_charAt_3b067_13 : decode cJ1_charAt_3b067 13 = .ok (.i2c, 1) := by decide +kernel
theorem dJ1_charAt_3b067_14 : decode cJ1_charAt_3b067 14 = .ok (.ireturn, 1) := by decide +kernel
set_option maxRecDepth 20000 in
theorem ggJ2_getChar_3b067_J2_length_9d52b : GoodIn wsJ2_getChar_3b067 wsJ2_length_9d52b := goodIn_r _ [7] (by decide +kernel) (by decide +kernel)
set_option maxRecDepth 20000 in
theorem gJ2_getChar_3b067_J2_length_9d52b : GoodIn wsJ2_getChar_3b067 (va_wsS RJ2 48 yJ2_length_9d52b wsJ2_length_9d52b) := goodIn_app (goodIn_of _ (by decide +kernel)) ggJ2_getChar_3b067_J2_length_9d52b
theorem dJ2_getChar_3b067_0 : decode cJ2_getChar_3b067 0 = .ok (.getstatic 44, 3) := by decide +kernel
theorem dJ2_getChar_3b067_3 : decode cJ2_getChar_3b067 3 = .ok (.ifCond .ne 25, 3) := by decide +kernel
theorem dJ2_getChar_3b067_6 : decode cJ2_getChar_3b067 6 = .ok (.iload_n 1, 1) := by decide +kernel
theorem dJ2_getChar_3b067_7 : decode cJ2_getChar_3b067 7 = .ok (.ifCond .lt 11, 3) := by decide +kernel
theorem dJ2_getChar_3b067_10 : decode cJ2_getChar_3b067 10 = .ok (.iload_n 1, 1) := by decide +kernel
theorem dJ2_getChar_3b067_11 : decode cJ2_getChar_3b067 11 = .ok (.aload_n 0, 1) := by decide +kernel
theorem dJ2_getChar_3b067_12 : decode cJ2_getChar_3b067 12 = .ok (.invokestatic 48, 3) := by decide +kernel
theorem dJ2_getChar_3b067_15 : decode cJ2_getChar_3b067 15 = .ok (.if_icmp .lt 13, 3) := by decide +kernel
theorem dJ2_getChar_3b067_18 : decode cJ2_getChar_3b067 18 = .ok (.new 52, 3) := by decide +kernel
theorem dJ2_getChar_3b067_21 : decode cJ2_getChar_3b067 21 = .ok (.dup, 1) := by decide +kernel
theorem dJ2_getChar_3b067_22 : decode cJ2_getChar_3b067 22 = .ok (.ldc 54, 2) := by decide +kernel
theorem dJ2_getChar_3b067_24 : decode cJ2_getChar_3b067 24 = .ok (.invokespecial 56, 3) := by decide +kernel
theorem dJ2_getChar_3b067_27 : decode cJ2_getChar_3b067 27 = .ok (.athrow, 1) := by decide +kernel
theorem dJ2_getChar_3b067_28 : decode cJ2_getChar_3b067 28 = .ok (.iload_n 1, 1) := by decide +kernel
theorem dJ2_getChar_3b067_29 : decode cJ2_getChar_3b067 29 = .ok (.iconst 1, 1) := by decide +kernel
theorem dJ2_getChar_3b067_30 : decode cJ2_getChar_3b067 30 = .ok (.ishl, 1) := by decide +kernel
theorem dJ2_getChar_3b067_31 : decode cJ2_getChar_3b067 31 = .ok (.istore_n 1, 1) := by decide +kernel
theorem dJ2_getChar_3b067_32 : decode cJ2_getChar_3b067 32 = .ok (.aload_n 0, 1) := by decide +kernel
theorem dJ2_getChar_3b067_33 : decode cJ2_getChar_3b067 33 = .ok (.iload_n 1, 1) := by decide +kernel
theorem dJ2_getChar_3b067_34 : decode cJ2_getChar_3b067 34 = .ok (.iinc 1 1, 3) := by decide +kernel
theorem dJ2_getChar_3b067_37 : decode cJ2_getChar_3b067 37 = .ok (.baload, 1) := by decide +kernel
theorem dJ2_getChar_3b067_38 : decode cJ2_getChar_3b067 38 = .ok (.sipush 255, 3) := by decide +kernel
theorem dJ2_getChar_3b067_41 : decode cJ2_getChar_3b067 41 = .ok (.iand, 1) := by decide +kernel
theorem dJ2_getChar_3b067_42 : decode cJ2_getChar_3b067 42 = .ok (.getstatic 59, 3) := by decide +kernel
theorem dJ2_getChar_3b067_45 : decode cJ2_getChar_3b067 45 = .ok (.ishl, 1) := by decide +kernel
theorem dJ2_getChar_3b067_46 : decode cJ2_getChar_3b067 46 = .ok (.aload_n 0, 1) := by decide +kernel
theorem dJ2_getChar_3b067_47 : decode cJ2_getChar_3b067 47 = .ok (.iload_n 1, 1) := by decide +kernel
theorem dJ2_getChar_3b067_48 : decode cJ2_getChar_3b067 48 = .ok (.baload, 1) := by decide +kernel
theorem dJ2_getChar_3b067_49 : decode cJ2_getChar_3b067 49 = .ok (.sipush 255, 3) := by decide +kernel
theorem dJ2_getChar_3b067_52 : decode cJ2_getChar_3b067 52 = .ok (.iand, 1) := by decide +kernel
theorem dJ2_getChar_3b067_53 : decode cJ2_getChar_3b067 53 = .ok (.getstatic 63, 3) := by decide +kernel
theorem dJ2_getChar_3b067_56 : decode cJ2_getChar_3b067 56 = .ok (.ishl, 1) := by decide +kernel
theorem dJ2_getChar_3b067_57 : decode cJ2_getChar_3b067 57 = .ok (.ior, 1) := by decide +kernel
theorem dJ2_getChar_3b067_58 : decode cJ2_getChar_3b067 58 = .ok (.i2c, 1) := by decide +kernel
theorem dJ2_getChar_3b067_59 : decode cJ2_getChar_3b067 59 = .ok (.ireturn, 1) := by decide +kernel
theorem dJ2_length_9d52b_0 : decode cJ2_length_9d52b 0 = .ok (.aload_n 0, 1) := by decide +kernel
theorem dJ2_length_9d52b_1 : decode cJ2_length_9d52b 1 = .ok (.arraylength, 1) := by decide +kernel
theorem dJ2_length_9d52b_2 : decode cJ2_length_9d52b 2 = .ok (.iconst 1, 1) := by decide +kernel
theorem dJ2_length_9d52b_3 : decode cJ2_length_9d52b 3 = .ok (.ishr, 1) := by decide +kernel
theorem dJ2_length_9d52b_4 : decode cJ2_length_9d52b 4 = .ok (.ireturn, 1) := by decide +kernel
set_option maxRecDepth 20000 in
theorem ggJ2_charAt_3b067_J2_checkIndex_2214a : GoodIn wsJ2_charAt_3b067 wsJ2_checkIndex_2214a := goodIn_r _ [4, 5, 6, 3, 7, 8, 9, 10, 11, 12, 13, 14, 15, 16] (by decide +kernel) (by decide +kernel)
set_option maxRecDepth 20000 in
theorem gJ2_charAt_3b067_J2_checkIndex_2214a : GoodIn wsJ2_charAt_3b067 (va_wsS RJ2 67 yJ2_checkIndex_2214a wsJ2_checkIndex_2214a) := goodIn_app (goodIn_of _ (by decide +kernel)) ggJ2_charAt_3b067_J2_checkIndex_2214a
set_option maxRecDepth 20000 in
theorem ggJ2_charAt_3b067_J2_getChar_3b067 : GoodIn wsJ2_charAt_3b067 wsJ2_getChar_3b067 := goodIn_r _ [19, 20, 21, 22, 5, 6, 3, 7] (by decide +kernel) (by decide +kernel)
set_option maxRecDepth 20000 in
theorem gJ2_charAt_3b067_J2_getChar_3b067 : GoodIn wsJ2_charAt_3b067 (va_wsS RJ2 71 yJ2_getChar_3b067 wsJ2_getChar_3b067) := goodIn_app (goodIn_of _ (by decide +kernel)) ggJ2_charAt_3b067_J2_getChar_3b067
theorem dJ2_charAt_3b067_0 : decode cJ2_charAt_3b067 0 = .ok (.iload_n 1, 1) := by decide +kernel
theorem dJ2_charAt_3b067_1 : decode cJ2_charAt_3b067 1 = .ok (.aload_n 0, 1) := by decide +kernel
theorem dJ2_charAt_3b067_2 : decode cJ2_charAt_3b067 2 = .ok (.invokestatic 67, 3) := by decide +kernel
theorem dJ2_charAt_3b067_5 : decode cJ2_charAt_3b067 5 = .ok (.aload_n 0, 1) := by decide +kernel
theorem dJ2_charAt_3b067_6 : decode cJ2_charAt_3b067 6 = .ok (.iload_n 1, 1) := by decide +kernel
theorem dJ2_charAt_3b067_7 : decode cJ2_charAt_3b067 7 = .ok (.invokestatic 71, 3) := by decide +kernel
theorem dJ2_charAt_3b067_10 : decode cJ2_charAt_3b067 10 = .ok (.ireturn, 1) := by decide +kernel
set_option maxRecDepth 20000 in
theorem ggJ2_checkIndex_2214a_J2_length_9d52b : GoodIn wsJ2_checkIndex_2214a wsJ2_length_9d52b := goodIn_r _ [4] (by decide +kernel) (by decide +kernel)
set_option maxRecDepth 20000 in
theorem gJ2_checkIndex_2214a_J2_length_9d52b : GoodIn wsJ2_checkIndex_2214a (va_wsS RJ2 48 yJ2_length_9d52b wsJ2_length_9d52b) := goodIn_app (goodIn_of _ (by decide +kernel)) ggJ2_checkIndex_2214a_J2_length_9d52b
set_option maxRecDepth 20000 in
theorem ggJ2_checkIndex_2214a_J0_checkIndex_df160 : GoodIn wsJ2_checkIndex_2214a wsJ0_checkIndex_df160 := goodIn_r _ [8, 9, 10, 11, 12, 13] (by decide +kernel) (by decide +kernel)
set_option maxRecDepth 20000 in
theorem gJ2_checkIndex_2214a_J0_checkIndex_df160 : GoodIn wsJ2_checkIndex_2214a (va_wsS RJ2 414 yJ0_checkIndex_df160 wsJ0_checkIndex_df160) := goodIn_app (goodIn_of _ (by decide +kernel)) ggJ2_checkIndex_2214a_J0_checkIndex_df160
theorem dJ2_checkIndex_2214a_0 : decode cJ2_checkIndex_2214a 0 = .ok (.iload_n 0, 1) := by decide +kernel
theorem dJ2_checkIndex_2214a_1 : decode cJ2_checkIndex_2214a 1 = .ok (.aload_n 1, 1) := by decide +kernel
theorem dJ2_checkIndex_2214a_2 : decode cJ2_checkIndex_2214a 2 = .ok (.invokestatic 48, 3) := by decide +kernel
theorem dJ2_checkIndex_2214a_5 : decode cJ2_checkIndex_2214a 5 = .ok (.invokestatic 414, 3) := by decide +kernel
theorem dJ2_checkIndex_2214a_8 : decode cJ2_checkIndex_2214a 8 = .ok (.return_, 1) := by decide +kernel
theorem dJ3_checkIndex_8e157_0 : decode cJ3_checkIndex_8e157 0 = .ok (.iload_n 0, 1) := by decide +kernel
theorem dJ3_checkIndex_8e157_1 : decode cJ3_checkIndex_8e157 1 = .ok (.ifCond .lt 8, 3) := by decide +kernel
theorem dJ3_checkIndex_8e157_4 : decode cJ3_checkIndex_8e157 4 = .ok (.iload_n 0, 1) := by decide +kernel
theorem dJ3_checkIndex_8e157_5 : decode cJ3_checkIndex_8e157 5 = .ok (.iload_n 1, 1) := by decide +kernel
theorem dJ3_checkIndex_8e157_6 : decode cJ3_checkIndex_8e157 6 = .ok (.if_icmp .lt 10, 3) := by decide +kernel
theorem dJ3_checkIndex_8e157_9 : decode cJ3_checkIndex_8e157 9 = .ok (.aload_n 2, 1) := by decide +kernel
theorem dJ3_checkIndex_8e157_10 : decode cJ3_checkIndex_8e157 10 = .ok (.iload_n 0, 1) := by decide +kernel
theorem dJ3_checkIndex_8e157_11 : decode cJ3_checkIndex_8e157 11 = .ok (.iload_n 1, 1) := by decide +kernel
theorem dJ3_checkIndex_8e157_12 : decode cJ3_checkIndex_8e157 12 = .ok (.invokestatic 95, 3) := by decide +kernel
theorem dJ3_checkIndex_8e157_15 : decode cJ3_checkIndex_8e157 15 = .ok (.athrow, 1) := by decide +kernel
theorem dJ3_checkIndex_8e157_16 : decode cJ3_checkIndex_8e157 16 = .ok (.iload_n 0, 1) := by decide +kernel
theorem dJ3_checkIndex_8e157_17 : decode cJ3_checkIndex_8e157 17 = .ok (.ireturn, 1) := by decide +kernel
theorem dL_below_0 : decode cL_below 0 = .ok (.iload_n 0, 1) := by decide +kernel
theorem dL_below_1 : decode cL_below 1 = .ok (.ldc 7, 2) := by decide +kernel
theorem dL_below_3 : decode cL_below 3 = .ok (.iand, 1) := by decide +kernel
theorem dL_below_4 : decode cL_below 4 = .ok (.iload_n 1, 1) := by decide +kernel
theorem dL_below_5 : decode cL_below 5 = .ok (.irem, 1) := by decide +kernel
theorem dL_below_6 : decode cL_below 6 = .ok (.ireturn, 1) := by decide +kernel
theorem dL_cell_0 : decode cL_cell 0 = .ok (.iload_n 1, 1) := by decide +kernel
theorem dL_cell_1 : decode cL_cell 1 = .ok (.aload_n 0, 1) := by decide +kernel
theorem dL_cell_2 : decode cL_cell 2 = .ok (.arraylength, 1) := by decide +kernel
theorem dL_cell_3 : decode cL_cell 3 = .ok (.if_icmp .ge 9, 3) := by decide +kernel
theorem dL_cell_6 : decode cL_cell 6 = .ok (.aload_n 0, 1) := by decide +kernel
theorem dL_cell_7 : decode cL_cell 7 = .ok (.iload_n 1, 1) := by decide +kernel
theorem dL_cell_8 : decode cL_cell 8 = .ok (.iaload, 1) := by decide +kernel
theorem dL_cell_9 : decode cL_cell 9 = .ok (.goto 9, 3) := by decide +kernel
theorem dL_cell_12 : decode cL_cell 12 = .ok (.ldc 8, 2) := by decide +kernel
theorem dL_cell_14 : decode cL_cell 14 = .ok (.iload_n 1, 1) := by decide +kernel
theorem dL_cell_15 : decode cL_cell 15 = .ok (.iconst 3, 1) := by decide +kernel
theorem dL_cell_16 : decode cL_cell 16 = .ok (.iadd, 1) := by decide +kernel
theorem dL_cell_17 : decode cL_cell 17 = .ok (.imul, 1) := by decide +kernel
theorem dL_cell_18 : decode cL_cell 18 = .ok (.ireturn, 1) := by decide +kernel
set_option maxRecDepth 20000 in
theorem ggL_widens_J0_charAt_5068e : GoodIn wsL_widens wsJ0_charAt_5068e := goodIn_r _ [5, 6, 7, 8, 9, 4, 10, 11, 12, 13, 14, 15, 16, 17, 18, 19, 20, 21, 22, 23, 24, 25, 26, 27, 28, 29, 30, 31, 32, 33, 34, 35, 36, 37, 38, 39, 40, 41] (by decide +kernel) (by decide +kernel)
end
section
set_option maxRecDepth 20000 in
theorem gL_widens_J0_charAt_5068e : GoodIn wsL_widens (wsV RL 25 RJ0 yJ0_charAt_5068e wsJ0_charAt_5068e) := goodIn_app (goodIn_of _ (by decide +kernel)) ggL_widens_J0_charAt_5068e
theorem dL_widens_0 : decode cL_widens 0 = .ok (.iload_n 0, 1) := by decide +kernel
theorem dL_widens_1 : decode cL_widens 1 = .ok (.iconst 1, 1) := by decide +kernel
theorem dL_widens_2 : decode cL_widens 2 = .ok (.if_icmp .ne 8, 3) := by decide +kernel
theorem dL_widens_5 : decode cL_widens 5 = .ok (.ldc 9, 2) := by decide +kernel
theorem dL_widens_7 : decode cL_widens 7 = .ok (.goto 67, 3) := by decide +kernel
theorem dL_widens_10 : decode cL_widens 10 = .ok (.iload_n 0, 1) := by decide +kernel
theorem dL_widens_11 : decode cL_widens 11 = .ok (.iconst 2, 1) := by decide +kernel
theorem dL_widens_12 : decode cL_widens 12 = .ok (.if_icmp .ne 8, 3) := by decide +kernel
theorem dL_widens_15 : decode cL_widens 15 = .ok (.ldc 11, 2) := by decide +kernel
theorem dL_widens_17 : decode cL_widens 17 = .ok (.goto 57, 3) := by decide +kernel
theorem dL_widens_20 : decode cL_widens 20 = .ok (.iload_n 0, 1) := by decide +kernel
theorem dL_widens_21 : decode cL_widens 21 = .ok (.iconst 3, 1) := by decide +kernel
theorem dL_widens_22 : decode cL_widens 22 = .ok (.if_icmp .ne 8, 3) := by decide +kernel
theorem dL_widens_25 : decode cL_widens 25 = .ok (.ldc 13, 2) := by decide +kernel
theorem dL_widens_27 : decode cL_widens 27 = .ok (.goto 47, 3) := by decide +kernel
theorem dL_widens_30 : decode cL_widens 30 = .ok (.iload_n 0, 1) := by decide +kernel
theorem dL_widens_31 : decode cL_widens 31 = .ok (.iconst 4, 1) := by decide +kernel
theorem dL_widens_32 : decode cL_widens 32 = .ok (.if_icmp .ne 8, 3) := by decide +kernel
theorem dL_widens_35 : decode cL_widens 35 = .ok (.ldc 15, 2) := by decide +kernel
theorem dL_widens_37 : decode cL_widens 37 = .ok (.goto 37, 3) := by decide +kernel
theorem dL_widens_40 : decode cL_widens 40 = .ok (.iload_n 0, 1) := by decide +kernel
theorem dL_widens_41 : decode cL_widens 41 = .ok (.iconst 5, 1) := by decide +kernel
theorem dL_widens_42 : decode cL_widens 42 = .ok (.if_icmp .ne 8, 3) := by decide +kernel
theorem dL_widens_45 : decode cL_widens 45 = .ok (.ldc 17, 2) := by decide +kernel
theorem dL_widens_47 : decode cL_widens 47 = .ok (.goto 27, 3) := by decide +kernel
theorem dL_widens_50 : decode cL_widens 50 = .ok (.iload_n 0, 1) := by decide +kernel
theorem dL_widens_51 : decode cL_widens 51 = .ok (.bipush 6, 2) := by decide +kernel
theorem dL_widens_53 : decode cL_widens 53 = .ok (.if_icmp .ne 8, 3) := by decide +kernel
theorem dL_widens_56 : decode cL_widens 56 = .ok (.ldc 19, 2) := by decide +kernel
theorem dL_widens_58 : decode cL_widens 58 = .ok (.goto 16, 3) := by decide +kernel
theorem dL_widens_61 : decode cL_widens 61 = .ok (.iload_n 0, 1) := by decide +kernel
theorem dL_widens_62 : decode cL_widens 62 = .ok (.bipush 7, 2) := by decide +kernel
theorem dL_widens_64 : decode cL_widens 64 = .ok (.if_icmp .ne 8, 3) := by decide +kernel
theorem dL_widens_67 : decode cL_widens 67 = .ok (.ldc 21, 2) := by decide +kernel
theorem dL_widens_69 : decode cL_widens 69 = .ok (.goto 5, 3) := by decide +kernel
theorem dL_widens_72 : decode cL_widens 72 = .ok (.ldc 23, 2) := by decide +kernel
theorem dL_widens_74 : decode cL_widens 74 = .ok (.astore_n 2, 1) := by decide +kernel
theorem dL_widens_75 : decode cL_widens 75 = .ok (.aload_n 2, 1) := by decide +kernel
theorem dL_widens_76 : decode cL_widens 76 = .ok (.iload_n 1, 1) := by decide +kernel
theorem dL_widens_77 : decode cL_widens 77 = .ok (.iconst 1, 1) := by decide +kernel
theorem dL_widens_78 : decode cL_widens 78 = .ok (.isub, 1) := by decide +kernel
theorem dL_widens_79 : decode cL_widens 79 = .ok (.invokevirtual 25, 3) := by decide +kernel
theorem dL_widens_82 : decode cL_widens 82 = .ok (.bipush 46, 2) := by decide +kernel
theorem dL_widens_84 : decode cL_widens 84 = .ok (.if_icmp .eq 7, 3) := by decide +kernel
theorem dL_widens_87 : decode cL_widens 87 = .ok (.iconst 1, 1) := by decide +kernel
theorem dL_widens_88 : decode cL_widens 88 = .ok (.goto 4, 3) := by decide +kernel
theorem dL_widens_91 : decode cL_widens 91 = .ok (.iconst 0, 1) := by decide +kernel
theorem dL_widens_92 : decode cL_widens 92 = .ok (.ireturn, 1) := by decide +kernel
theorem dL_made_0 : decode cL_made 0 = .ok (.iload_n 0, 1) := by decide +kernel
theorem dL_made_1 : decode cL_made 1 = .ok (.iconst 1, 1) := by decide +kernel
theorem dL_made_2 : decode cL_made 2 = .ok (.if_icmp .ne 15, 3) := by decide +kernel
theorem dL_made_5 : decode cL_made 5 = .ok (.iload_n 1, 1) := by decide +kernel
theorem dL_made_6 : decode cL_made 6 = .ok (.ifCond .eq 7, 3) := by decide +kernel
theorem dL_made_9 : decode cL_made 9 = .ok (.lconst 1, 1) := by decide +kernel
theorem dL_made_10 : decode cL_made 10 = .ok (.goto 54, 3) := by decide +kernel
theorem dL_made_13 : decode cL_made 13 = .ok (.lconst 0, 1) := by decide +kernel
theorem dL_made_14 : decode cL_made 14 = .ok (.goto 50, 3) := by decide +kernel
theorem dL_made_17 : decode cL_made 17 = .ok (.iload_n 0, 1) := by decide +kernel
theorem dL_made_18 : decode cL_made 18 = .ok (.iconst 2, 1) := by decide +kernel
theorem dL_made_19 : decode cL_made 19 = .ok (.if_icmp .ne 9, 3) := by decide +kernel
theorem dL_made_22 : decode cL_made 22 = .ok (.iload_n 1, 1) := by decide +kernel
theorem dL_made_23 : decode cL_made 23 = .ok (.i2b, 1) := by decide +kernel
theorem dL_made_24 : decode cL_made 24 = .ok (.i2l, 1) := by decide +kernel
theorem dL_made_25 : decode cL_made 25 = .ok (.goto 39, 3) := by decide +kernel
theorem dL_made_28 : decode cL_made 28 = .ok (.iload_n 0, 1) := by decide +kernel
theorem dL_made_29 : decode cL_made 29 = .ok (.iconst 3, 1) := by decide +kernel
theorem dL_made_30 : decode cL_made 30 = .ok (.if_icmp .ne 9, 3) := by decide +kernel
theorem dL_made_33 : decode cL_made 33 = .ok (.iload_n 1, 1) := by decide +kernel
theorem dL_made_34 : decode cL_made 34 = .ok (.i2c, 1) := by decide +kernel
theorem dL_made_35 : decode cL_made 35 = .ok (.i2l, 1) := by decide +kernel
theorem dL_made_36 : decode cL_made 36 = .ok (.goto 28, 3) := by decide +kernel
theorem dL_made_39 : decode cL_made 39 = .ok (.iload_n 0, 1) := by decide +kernel
theorem dL_made_40 : decode cL_made 40 = .ok (.iconst 4, 1) := by decide +kernel
theorem dL_made_41 : decode cL_made 41 = .ok (.if_icmp .ne 9, 3) := by decide +kernel
theorem dL_made_44 : decode cL_made 44 = .ok (.iload_n 1, 1) := by decide +kernel
theorem dL_made_45 : decode cL_made 45 = .ok (.i2s, 1) := by decide +kernel
theorem dL_made_46 : decode cL_made 46 = .ok (.i2l, 1) := by decide +kernel
theorem dL_made_47 : decode cL_made 47 = .ok (.goto 17, 3) := by decide +kernel
theorem dL_made_50 : decode cL_made 50 = .ok (.iload_n 0, 1) := by decide +kernel
theorem dL_made_51 : decode cL_made 51 = .ok (.bipush 7, 2) := by decide +kernel
theorem dL_made_53 : decode cL_made 53 = .ok (.if_icmp .ne 9, 3) := by decide +kernel
theorem dL_made_56 : decode cL_made 56 = .ok (.iload_n 1, 1) := by decide +kernel
theorem dL_made_57 : decode cL_made 57 = .ok (.i2f, 1) := by decide +kernel
theorem dL_made_58 : decode cL_made 58 = .ok (.f2l, 1) := by decide +kernel
theorem dL_made_59 : decode cL_made 59 = .ok (.goto 5, 3) := by decide +kernel
theorem dL_made_62 : decode cL_made 62 = .ok (.iload_n 1, 1) := by decide +kernel
theorem dL_made_63 : decode cL_made 63 = .ok (.i2l, 1) := by decide +kernel
theorem dL_made_64 : decode cL_made 64 = .ok (.lreturn, 1) := by decide +kernel
set_option maxRecDepth 20000 in
theorem ggL_law_X2_init : GoodIn wsL_law wsX2_init := goodIn_r _ [7, 8, 9, 10, 11, 12, 4, 13, 14, 15, 16, 17, 18, 19, 20, 21, 22, 23, 3, 24, 25, 247, 248, 249, 250, 251, 252] (by decide +kernel) (by decide +kernel)
set_option maxRecDepth 20000 in
theorem gL_law_X2_init : GoodIn wsL_law (wsX2_init) := ggL_law_X2_init
set_option maxRecDepth 20000 in
theorem ggL_law_L_cell : GoodIn wsL_law wsL_cell := goodIn_r _ [29, 30] (by decide +kernel) (by decide +kernel)
set_option maxRecDepth 20000 in
theorem gL_law_L_cell : GoodIn wsL_law (va_wsS RL 34 yL_cell wsL_cell) := goodIn_app (goodIn_of _ (by decide +kernel)) ggL_law_L_cell
set_option maxRecDepth 20000 in
theorem ggL_law_L_below : GoodIn wsL_law wsL_below := goodIn_r _ [33, 34] (by decide +kernel) (by decide +kernel)
set_option maxRecDepth 20000 in
theorem gL_law_L_below : GoodIn wsL_law (va_wsS RL 40 yL_below wsL_below) := goodIn_app (goodIn_of _ (by decide +kernel)) ggL_law_L_below
set_option maxRecDepth 20000 in
theorem ggL_law_X2_create : GoodIn wsL_law wsX2_create := goodIn_ca (goodIn_ca (goodIn_r _ [38, 39, 40, 11, 41, 42, 43, 44, 2, 45, 46, 47, 48, 49, 50, 51, 52, 53, 54, 55, 56, 57, 18, 12, 58, 59, 60, 61, 9, 10, 62, 63, 64, 65, 3, 66, 67, 68, 69, 70, 71, 72, 253, 254, 255, 256, 247, 248, 249, 250, 251] (by decide +kernel) (by decide +kernel)) (goodIn_sub (fun _ h => List.mem_append_left _ (List.mem_append_left _ (List.mem_append_right _ h))) (by decide +kernel))) (goodIn_sub (fun _ h => List.mem_append_left _ (List.mem_append_right _ h)) (by decide +kernel))
set_option maxRecDepth 20000 in
theorem gL_law_X2_create : GoodIn wsL_law (wsV RL 44 RX2 yX2_create wsX2_create) := goodIn_app (goodIn_of _ (by decide +kernel)) ggL_law_X2_create
set_option maxRecDepth 20000 in
theorem ggL_law_L_widens : GoodIn wsL_law wsL_widens := goodIn_r _ [75, 76, 77, 78, 79, 80, 81, 82, 83, 84, 85, 86, 87, 88, 89, 90, 91, 92, 93, 94, 95, 96, 97, 98, 99, 100, 101, 102, 103, 104, 105, 106, 107, 108, 109, 110, 111, 112, 113, 114, 115, 116] (by decide +kernel) (by decide +kernel)
set_option maxRecDepth 20000 in
theorem gL_law_L_widens : GoodIn wsL_law (va_wsS RL 47 yL_widens wsL_widens) := goodIn_app (goodIn_of _ (by decide +kernel)) ggL_law_L_widens
set_option maxRecDepth 20000 in
theorem ggL_law_X2_writeAny : GoodIn wsL_law wsX2_writeAny := goodIn_ca (goodIn_ca (goodIn_r _ [120, 121, 122, 123, 2, 124, 125, 126, 12, 127, 128, 129, 39, 40, 46, 47, 48, 130, 131, 132, 133, 134, 135, 136, 137, 138, 139, 140, 141, 142, 143, 144, 145, 146, 147, 148, 13, 19, 149, 150, 151, 42, 152, 66, 153, 154, 155, 156, 157, 158, 159, 160, 161, 162, 163, 62, 65, 164, 247, 248, 249, 250, 251, 253, 254, 255, 256] (by decide +kernel) (by decide +kernel)) (goodIn_sub (fun _ h => List.mem_append_right _ h) (by decide +kernel))) (goodIn_sub (fun _ h => List.mem_append_left _ (List.mem_append_left _ (List.mem_append_right _ h))) (by decide +kernel))
set_option maxRecDepth 20000 in
theorem gL_law_X2_writeAny : GoodIn wsL_law (wsV RL 51 RX2 yX2_writeAny wsX2_writeAny) := goodIn_app (goodIn_of _ (by decide +kernel)) ggL_law_X2_writeAny
set_option maxRecDepth 20000 in
theorem ggL_law_L_made : GoodIn wsL_law wsL_made := goodIn_r _ [167] (by decide +kernel) (by decide +kernel)
set_option maxRecDepth 20000 in
theorem gL_law_L_made : GoodIn wsL_law (va_wsS RL 55 yL_made wsL_made) := goodIn_app (goodIn_of _ (by decide +kernel)) ggL_law_L_made
set_option maxRecDepth 20000 in
theorem ggL_law_X2_copy : GoodIn wsL_law wsX2_copy := goodIn_ca (goodIn_r _ [171, 138, 121, 122, 123, 2, 124, 125, 126, 12, 172, 173, 174, 134, 175, 176, 177, 178, 179, 180, 42, 181, 65, 182, 183, 184, 185, 66, 145, 146, 147, 148, 13, 19, 253, 254, 255, 256, 247, 248, 249, 250, 251] (by decide +kernel) (by decide +kernel)) (goodIn_sub (fun _ h => List.mem_append_right _ h) (by decide +kernel))
set_option maxRecDepth 20000 in
theorem gL_law_X2_copy : GoodIn wsL_law (wsV RL 59 RX2 yX2_copy wsX2_copy) := goodIn_app (goodIn_of _ (by decide +kernel)) ggL_law_X2_copy
set_option maxRecDepth 20000 in
theorem ggL_law_X2_widened : GoodIn wsL_law wsX2_widened := goodIn_ca (goodIn_ca (goodIn_ca (goodIn_r _ [189, 134, 11, 41, 42, 138, 121, 122, 123, 2, 124, 125, 126, 12, 127, 128, 129, 39, 40, 46, 47, 48, 52, 53, 54, 55, 56, 57, 18, 139, 140, 141, 142, 143, 144, 145, 146, 147, 148, 13, 19, 58, 59, 60, 61, 9, 10, 62, 63, 64, 65, 3, 66, 50, 51, 67, 68, 190, 191, 192, 193, 194, 195, 196, 197, 164, 150, 151, 152, 198, 199, 200, 201, 202, 161, 162, 163, 69, 70, 71, 72, 253, 254, 255, 256, 247, 248, 249, 250, 251] (by decide +kernel) (by decide +kernel)) (goodIn_sub (fun _ h => List.mem_append_right _ h) (by decide +kernel))) (goodIn_sub (fun _ h => List.mem_append_left _ (List.mem_append_left _ (List.mem_append_right _ h))) (by decide +kernel))) (goodIn_sub (fun _ h => List.mem_append_left _ (List.mem_append_right _ h)) (by decide +kernel))
set_option maxRecDepth 20000 in
theorem gL_law_X2_widened : GoodIn wsL_law (wsV RL 63 RX2 yX2_widened wsX2_widened) := goodIn_app (goodIn_of _ (by decide +kernel)) ggL_law_X2_widened
set_option maxRecDepth 20000 in
theorem ggL_law_X2_code : GoodIn wsL_law wsX2_code := goodIn_r _ [206, 19, 247, 248, 249, 250, 251] (by decide +kernel) (by decide +kernel)
set_option maxRecDepth 20000 in
theorem gL_law_X2_code : GoodIn wsL_law (wsV RL 66 RX2 yX2_code wsX2_code) := goodIn_app (goodIn_of _ (by decide +kernel)) ggL_law_X2_code
set_option maxRecDepth 20000 in
theorem ggL_law_X2_readAny : GoodIn wsL_law wsX2_readAny := goodIn_ca (goodIn_r _ [210, 134, 121, 122, 123, 2, 124, 125, 126, 12, 211, 212, 213, 214, 135, 136, 137, 138, 139, 140, 141, 142, 143, 144, 46, 47, 48, 145, 146, 147, 148, 13, 19, 215, 216, 217, 42, 218, 62, 67, 68, 194, 195, 196, 197, 66, 198, 199, 200, 201, 65, 253, 254, 255, 256, 247, 248, 249, 250, 251] (by decide +kernel) (by decide +kernel)) (goodIn_sub (fun _ h => List.mem_append_right _ h) (by decide +kernel))
set_option maxRecDepth 20000 in
theorem gL_law_X2_readAny : GoodIn wsL_law (wsV RL 70 RX2 yX2_readAny wsX2_readAny) := goodIn_app (goodIn_of _ (by decide +kernel)) ggL_law_X2_readAny
set_option maxRecDepth 20000 in
theorem ggL_law_X2_total : GoodIn wsL_law wsX2_total := goodIn_ca (goodIn_r _ [222, 121, 122, 123, 2, 124, 125, 126, 12, 139, 140, 141, 134, 145, 146, 147, 148, 13, 19, 223, 224, 225, 42, 226, 63, 227, 216, 217, 218, 62, 67, 68, 194, 195, 196, 197, 66, 198, 199, 200, 201, 65, 228, 229, 230, 231, 232, 233, 234, 235, 236, 237, 238, 247, 248, 249, 250, 251, 253, 254, 255, 256] (by decide +kernel) (by decide +kernel)) (goodIn_sub (fun _ h => List.mem_append_right _ h) (by decide +kernel))
set_option maxRecDepth 20000 in
theorem gL_law_X2_total : GoodIn wsL_law (wsV RL 74 RX2 yX2_total wsX2_total) := goodIn_app (goodIn_of _ (by decide +kernel)) ggL_law_X2_total
set_option maxRecDepth 20000 in
theorem ggL_law_X2_count : GoodIn wsL_law wsX2_count := goodIn_ca (goodIn_r _ [242, 125, 126, 13, 247, 248, 249, 250, 251] (by decide +kernel) (by decide +kernel)) (goodIn_sub (fun _ h => List.mem_append_right _ h) (by decide +kernel))
set_option maxRecDepth 20000 in
theorem gL_law_X2_count : GoodIn wsL_law (wsV RL 78 RX2 yX2_count wsX2_count) := goodIn_app (goodIn_of _ (by decide +kernel)) ggL_law_X2_count
set_option maxRecDepth 20000 in
theorem ggL_law_X2_columnCount : GoodIn wsL_law wsX2_columnCount := goodIn_r _ [246, 18, 247, 248, 249, 250, 251] (by decide +kernel) (by decide +kernel)
set_option maxRecDepth 20000 in
theorem gL_law_X2_columnCount : GoodIn wsL_law (wsV RL 82 RX2 yX2_columnCount wsX2_columnCount) := goodIn_app (goodIn_of _ (by decide +kernel)) ggL_law_X2_columnCount
theorem dL_law_0 : decode cL_law 0 = .ok (.new 31, 3) := by decide +kernel
theorem dL_law_3 : decode cL_law 3 = .ok (.dup, 1) := by decide +kernel
theorem dL_law_4 : decode cL_law 4 = .ok (.invokespecial 33, 3) := by decide +kernel
theorem dL_law_7 : decode cL_law 7 = .ok (.astore_n 1, 1) := by decide +kernel
theorem dL_law_8 : decode cL_law 8 = .ok (.bipush 60, 2) := by decide +kernel
theorem dL_law_10 : decode cL_law 10 = .ok (.newarray .double, 2) := by decide +kernel
theorem dL_law_12 : decode cL_law 12 = .ok (.astore_n 2, 1) := by decide +kernel
theorem dL_law_13 : decode cL_law 13 = .ok (.bipush 12, 2) := by decide +kernel
theorem dL_law_15 : decode cL_law 15 = .ok (.newarray .int, 2) := by decide +kernel
theorem dL_law_17 : decode cL_law 17 = .ok (.astore_n 3, 1) := by decide +kernel
theorem dL_law_18 : decode cL_law 18 = .ok (.bipush 12, 2) := by decide +kernel
theorem dL_law_20 : decode cL_law 20 = .ok (.newarray .int, 2) := by decide +kernel
theorem dL_law_22 : decode cL_law 22 = .ok (.astore 4, 2) := by decide +kernel
theorem dL_law_24 : decode cL_law 24 = .ok (.bipush 10, 2) := by decide +kernel
theorem dL_law_26 : decode cL_law 26 = .ok (.istore 5, 2) := by decide +kernel
theorem dL_law_28 : decode cL_law 28 = .ok (.iconst 0, 1) := by decide +kernel
theorem dL_law_29 : decode cL_law 29 = .ok (.istore 6, 2) := by decide +kernel
theorem dL_law_31 : decode cL_law 31 = .ok (.iload 6, 2) := by decide +kernel
theorem dL_law_33 : decode cL_law 33 = .ok (.bipush 10, 2) := by decide +kernel
theorem dL_law_35 : decode cL_law 35 = .ok (.if_icmp .ge 65, 3) := by decide +kernel
theorem dL_law_38 : decode cL_law 38 = .ok (.aload 4, 2) := by decide +kernel
theorem dL_law_40 : decode cL_law 40 = .ok (.iload 6, 2) := by decide +kernel
theorem dL_law_42 : decode cL_law 42 = .ok (.iload 6, 2) := by decide +kernel
theorem dL_law_44 : decode cL_law 44 = .ok (.iastore, 1) := by decide +kernel
theorem dL_law_45 : decode cL_law 45 = .ok (.aload_n 3, 1) := by decide +kernel
theorem dL_law_46 : decode cL_law 46 = .ok (.iload 6, 2) := by decide +kernel
theorem dL_law_48 : decode cL_law 48 = .ok (.iload 6, 2) := by decide +kernel
theorem dL_law_50 : decode cL_law 50 = .ok (.ifCond .eq 10, 3) := by decide +kernel
theorem dL_law_53 : decode cL_law 53 = .ok (.iload 6, 2) := by decide +kernel
theorem dL_law_55 : decode cL_law 55 = .ok (.bipush 9, 2) := by decide +kernel
theorem dL_law_57 : decode cL_law 57 = .ok (.if_icmp .ne 7, 3) := by decide +kernel
theorem dL_law_60 : decode cL_law 60 = .ok (.iconst 0, 1) := by decide +kernel
theorem dL_law_61 : decode cL_law 61 = .ok (.goto 15, 3) := by decide +kernel
theorem dL_law_64 : decode cL_law 64 = .ok (.iconst 1, 1) := by decide +kernel
theorem dL_law_65 : decode cL_law 65 = .ok (.aload_n 0, 1) := by decide +kernel
theorem dL_law_66 : decode cL_law 66 = .ok (.iload 6, 2) := by decide +kernel
theorem dL_law_68 : decode cL_law 68 = .ok (.invokestatic 34, 3) := by decide +kernel
theorem dL_law_71 : decode cL_law 71 = .ok (.iconst 5, 1) := by decide +kernel
theorem dL_law_72 : decode cL_law 72 = .ok (.invokestatic 40, 3) := by decide +kernel
theorem dL_law_75 : decode cL_law 75 = .ok (.iadd, 1) := by decide +kernel
theorem dL_law_76 : decode cL_law 76 = .ok (.iastore, 1) := by decide +kernel
theorem dL_law_77 : decode cL_law 77 = .ok (.aload_n 1, 1) := by decide +kernel
theorem dL_law_78 : decode cL_law 78 = .ok (.iload 6, 2) := by decide +kernel
theorem dL_law_80 : decode cL_law 80 = .ok (.aload_n 3, 1) := by decide +kernel
theorem dL_law_81 : decode cL_law 81 = .ok (.iload 6, 2) := by decide +kernel
theorem dL_law_83 : decode cL_law 83 = .ok (.iaload, 1) := by decide +kernel
theorem dL_law_84 : decode cL_law 84 = .ok (.invokevirtual 44, 3) := by decide +kernel
theorem dL_law_87 : decode cL_law 87 = .ok (.iload 6, 2) := by decide +kernel
theorem dL_law_89 : decode cL_law 89 = .ok (.if_icmp .eq 5, 3) := by decide +kernel
theorem dL_law_92 : decode cL_law 92 = .ok (.iconst 0, 1) := by decide +kernel
theorem dL_law_93 : decode cL_law 93 = .ok (.ireturn, 1) := by decide +kernel
theorem dL_law_94 : decode cL_law 94 = .ok (.iinc 6 1, 3) := by decide +kernel
theorem dL_law_97 : decode cL_law 97 = .ok (.goto (-66), 3) := by decide +kernel
theorem dL_law_100 : decode cL_law 100 = .ok (.bipush 6, 2) := by decide +kernel
theorem dL_law_102 : decode cL_law 102 = .ok (.newarray .int, 2) := by decide +kernel
theorem dL_law_104 : decode cL_law 104 = .ok (.astore 6, 2) := by decide +kernel
theorem dL_law_106 : decode cL_law 106 = .ok (.iconst 0, 1) := by decide +kernel
theorem dL_law_107 : decode cL_law 107 = .ok (.istore 7, 2) := by decide +kernel
theorem dL_law_109 : decode cL_law 109 = .ok (.iload 7, 2) := by decide +kernel
theorem dL_law_111 : decode cL_law 111 = .ok (.bipush 18, 2) := by decide +kernel
theorem dL_law_113 : decode cL_law 113 = .ok (.if_icmp .ge 724, 3) := by decide +kernel
theorem dL_law_116 : decode cL_law 116 = .ok (.aload_n 0, 1) := by decide +kernel
theorem dL_law_117 : decode cL_law 117 = .ok (.bipush 10, 2) := by decide +kernel
theorem dL_law_119 : decode cL_law 119 = .ok (.iload 7, 2) := by decide +kernel
theorem dL_law_121 : decode cL_law 121 = .ok (.iadd, 1) := by decide +kernel
theorem dL_law_122 : decode cL_law 122 = .ok (.invokestatic 34, 3) := by decide +kernel
theorem dL_law_125 : decode cL_law 125 = .ok (.istore 8, 2) := by decide +kernel
theorem dL_law_127 : decode cL_law 127 = .ok (.iload 8, 2) := by decide +kernel
theorem dL_law_129 : decode cL_law 129 = .ok (.iconst 2, 1) := by decide +kernel
theorem dL_law_130 : decode cL_law 130 = .ok (.ishr, 1) := by decide +kernel
theorem dL_law_131 : decode cL_law 131 = .ok (.iload 5, 2) := by decide +kernel
theorem dL_law_133 : decode cL_law 133 = .ok (.invokestatic 40, 3) := by decide +kernel
theorem dL_law_136 : decode cL_law 136 = .ok (.istore 9, 2) := by decide +kernel
theorem dL_law_138 : decode cL_law 138 = .ok (.iload 8, 2) := by decide +kernel
theorem dL_law_140 : decode cL_law 140 = .ok (.bipush 7, 2) := by decide +kernel
theorem dL_law_142 : decode cL_law 142 = .ok (.ishr, 1) := by decide +kernel
theorem dL_law_143 : decode cL_law 143 = .ok (.bipush 7, 2) := by decide +kernel
theorem dL_law_145 : decode cL_law 145 = .ok (.invokestatic 40, 3) := by decide +kernel
theorem dL_law_148 : decode cL_law 148 = .ok (.iconst 1, 1) := by decide +kernel
theorem dL_law_149 : decode cL_law 149 = .ok (.isub, 1) := by decide +kernel
theorem dL_law_150 : decode cL_law 150 = .ok (.istore 10, 2) := by decide +kernel
theorem dL_law_152 : decode cL_law 152 = .ok (.iconst 1, 1) := by decide +kernel
theorem dL_law_153 : decode cL_law 153 = .ok (.iload 8, 2) := by decide +kernel
theorem dL_law_155 : decode cL_law 155 = .ok (.bipush 11, 2) := by decide +kernel
theorem dL_law_157 : decode cL_law 157 = .ok (.ishr, 1) := by decide +kernel
theorem dL_law_158 : decode cL_law 158 = .ok (.bipush 8, 2) := by decide +kernel
theorem dL_law_160 : decode cL_law 160 = .ok (.invokestatic 40, 3) := by decide +kernel
theorem dL_law_163 : decode cL_law 163 = .ok (.iadd, 1) := by decide +kernel
theorem dL_law_164 : decode cL_law 164 = .ok (.istore 11, 2) := by decide +kernel
theorem dL_law_166 : decode cL_law 166 = .ok (.aload 4, 2) := by decide +kernel
theorem dL_law_168 : decode cL_law 168 = .ok (.iload 9, 2) := by decide +kernel
theorem dL_law_170 : decode cL_law 170 = .ok (.iaload, 1) := by decide +kernel
theorem dL_law_171 : decode cL_law 171 = .ok (.ifCond .ne 7, 3) := by decide +kernel
theorem dL_law_174 : decode cL_law 174 = .ok (.iconst 1, 1) := by decide +kernel
theorem dL_law_175 : decode cL_law 175 = .ok (.goto 18, 3) := by decide +kernel
theorem dL_law_178 : decode cL_law 178 = .ok (.aload 4, 2) := by decide +kernel
theorem dL_law_180 : decode cL_law 180 = .ok (.iload 9, 2) := by decide +kernel
theorem dL_law_182 : decode cL_law 182 = .ok (.iaload, 1) := by decide +kernel
theorem dL_law_183 : decode cL_law 183 = .ok (.bipush 9, 2) := by decide +kernel
theorem dL_law_185 : decode cL_law 185 = .ok (.if_icmp .ne 7, 3) := by decide +kernel
theorem dL_law_188 : decode cL_law 188 = .ok (.iconst 2, 1) := by decide +kernel
theorem dL_law_189 : decode cL_law 189 = .ok (.goto 4, 3) := by decide +kernel
theorem dL_law_192 : decode cL_law 192 = .ok (.iconst 0, 1) := by decide +kernel
theorem dL_law_193 : decode cL_law 193 = .ok (.istore 12, 2) := by decide +kernel
theorem dL_law_195 : decode cL_law 195 = .ok (.iload 8, 2) := by decide +kernel
theorem dL_law_197 : decode cL_law 197 = .ok (.iconst 3, 1) := by decide +kernel
theorem dL_law_198 : decode cL_law 198 = .ok (.iand, 1) := by decide +kernel
theorem dL_law_199 : decode cL_law 199 = .ok (.iconst 2, 1) := by decide +kernel
theorem dL_law_200 : decode cL_law 200 = .ok (.if_icmp .ge 117, 3) := by decide +kernel
theorem dL_law_203 : decode cL_law 203 = .ok (.iload 12, 2) := by decide +kernel
theorem dL_law_205 : decode cL_law 205 = .ok (.ifCond .le 8, 3) := by decide +kernel
theorem dL_law_208 : decode cL_law 208 = .ok (.iload 12, 2) := by decide +kernel
theorem dL_law_210 : decode cL_law 210 = .ok (.goto 39, 3) := by decide +kernel
theorem dL_law_213 : decode cL_law 213 = .ok (.iload 10, 2) := by decide +kernel
theorem dL_law_215 : decode cL_law 215 = .ok (.ifCond .lt 12, 3) := by decide +kernel
theorem dL_law_218 : decode cL_law 218 = .ok (.iload 10, 2) := by decide +kernel
theorem dL_law_220 : decode cL_law 220 = .ok (.aload_n 3, 1) := by decide +kernel
theorem dL_law_221 : decode cL_law 221 = .ok (.iload 9, 2) := by decide +kernel
theorem dL_law_223 : decode cL_law 223 = .ok (.iaload, 1) := by decide +kernel
theorem dL_law_224 : decode cL_law 224 = .ok (.if_icmp .lt 7, 3) := by decide +kernel
theorem dL_law_227 : decode cL_law 227 = .ok (.iconst 3, 1) := by decide +kernel
theorem dL_law_228 : decode cL_law 228 = .ok (.goto 21, 3) := by decide +kernel
theorem dL_law_231 : decode cL_law 231 = .ok (.iload 11, 2) := by decide +kernel
theorem dL_law_233 : decode cL_law 233 = .ok (.aload 4, 2) := by decide +kernel
theorem dL_law_235 : decode cL_law 235 = .ok (.iload 9, 2) := by decide +kernel
theorem dL_law_237 : decode cL_law 237 = .ok (.iaload, 1) := by decide +kernel
theorem dL_law_238 : decode cL_law 238 = .ok (.invokestatic 47, 3) := by decide +kernel
theorem dL_law_241 : decode cL_law 241 = .ok (.ifCond .eq 7, 3) := by decide +kernel
theorem dL_law_244 : decode cL_law 244 = .ok (.iconst 0, 1) := by decide +kernel
theorem dL_law_245 : decode cL_law 245 = .ok (.goto 4, 3) := by decide +kernel
theorem dL_law_248 : decode cL_law 248 = .ok (.iconst 4, 1) := by decide +kernel
theorem dL_law_249 : decode cL_law 249 = .ok (.istore 13, 2) := by decide +kernel
theorem dL_law_251 : decode cL_law 251 = .ok (.aload_n 1, 1) := by decide +kernel
theorem dL_law_252 : decode cL_law 252 = .ok (.iload 9, 2) := by decide +kernel
theorem dL_law_254 : decode cL_law 254 = .ok (.iload 10, 2) := by decide +kernel
theorem dL_law_256 : decode cL_law 256 = .ok (.iload 11, 2) := by decide +kernel
theorem dL_law_258 : decode cL_law 258 = .ok (.iload 8, 2) := by decide +kernel
theorem dL_law_260 : decode cL_law 260 = .ok (.invokevirtual 51, 3) := by decide +kernel
theorem dL_law_263 : decode cL_law 263 = .ok (.iload 13, 2) := by decide +kernel
theorem dL_law_265 : decode cL_law 265 = .ok (.if_icmp .eq 5, 3) := by decide +kernel
theorem dL_law_268 : decode cL_law 268 = .ok (.iconst 0, 1) := by decide +kernel
theorem dL_law_269 : decode cL_law 269 = .ok (.ireturn, 1) := by decide +kernel
theorem dL_law_270 : decode cL_law 270 = .ok (.iload 13, 2) := by decide +kernel
theorem dL_law_272 : decode cL_law 272 = .ok (.ifCond .ne 377, 3) := by decide +kernel
theorem dL_law_275 : decode cL_law 275 = .ok (.aload_n 2, 1) := by decide +kernel
theorem dL_law_276 : decode cL_law 276 = .ok (.iconst 5, 1) := by decide +kernel
theorem dL_law_277 : decode cL_law 277 = .ok (.iload 9, 2) := by decide +kernel
theorem dL_law_279 : decode cL_law 279 = .ok (.imul, 1) := by decide +kernel
theorem dL_law_280 : decode cL_law 280 = .ok (.iload 10, 2) := by decide +kernel
theorem dL_law_282 : decode cL_law 282 = .ok (.iadd, 1) := by decide +kernel
theorem dL_law_283 : decode cL_law 283 = .ok (.aload 4, 2) := by decide +kernel
theorem dL_law_285 : decode cL_law 285 = .ok (.iload 9, 2) := by decide +kernel
theorem dL_law_287 : decode cL_law 287 = .ok (.iaload, 1) := by decide +kernel
theorem dL_law_288 : decode cL_law 288 = .ok (.bipush 7, 2) := by decide +kernel
theorem dL_law_290 : decode cL_law 290 = .ok (.if_icmp .ne 15, 3) := by decide +kernel
theorem dL_law_293 : decode cL_law 293 = .ok (.iload 11, 2) := by decide +kernel
theorem dL_law_295 : decode cL_law 295 = .ok (.iload 8, 2) := by decide +kernel
theorem dL_law_297 : decode cL_law 297 = .ok (.invokestatic 55, 3) := by decide +kernel
theorem dL_law_300 : decode cL_law 300 = .ok (.l2f, 1) := by decide +kernel
theorem dL_law_301 : decode cL_law 301 = .ok (.f2d, 1) := by decide +kernel
theorem dL_law_302 : decode cL_law 302 = .ok (.goto 11, 3) := by decide +kernel
theorem dL_law_305 : decode cL_law 305 = .ok (.iload 11, 2) := by decide +kernel
theorem dL_law_307 : decode cL_law 307 = .ok (.iload 8, 2) := by decide +kernel
theorem dL_law_309 : decode cL_law 309 = .ok (.invokestatic 55, 3) := by decide +kernel
theorem dL_law_312 : decode cL_law 312 = .ok (.l2d, 1) := by decide +kernel
theorem dL_law_313 : decode cL_law 313 = .ok (.dastore, 1) := by decide +kernel
theorem dL_law_314 : decode cL_law 314 = .ok (.goto 335, 3) := by decide +kernel
theorem dL_law_317 : decode cL_law 317 = .ok (.iload 8, 2) := by decide +kernel
theorem dL_law_319 : decode cL_law 319 = .ok (.iconst 3, 1) := by decide +kernel
theorem dL_law_320 : decode cL_law 320 = .ok (.iand, 1) := by decide +kernel
theorem dL_law_321 : decode cL_law 321 = .ok (.iconst 2, 1) := by decide +kernel
theorem dL_law_322 : decode cL_law 322 = .ok (.if_icmp .ne 183, 3) := by decide +kernel
theorem dL_law_325 : decode cL_law 325 = .ok (.iload 8, 2) := by decide +kernel
theorem dL_law_327 : decode cL_law 327 = .ok (.bipush 15, 2) := by decide +kernel
theorem dL_law_329 : decode cL_law 329 = .ok (.ishr, 1) := by decide +kernel
theorem dL_law_330 : decode cL_law 330 = .ok (.iload 5, 2) := by decide +kernel
theorem dL_law_332 : decode cL_law 332 = .ok (.invokestatic 40, 3) := by decide +kernel
theorem dL_law_335 : decode cL_law 335 = .ok (.istore 14, 2) := by decide +kernel
theorem dL_law_337 : decode cL_law 337 = .ok (.iload 8, 2) := by decide +kernel
theorem dL_law_339 : decode cL_law 339 = .ok (.bipush 19, 2) := by decide +kernel
theorem dL_law_341 : decode cL_law 341 = .ok (.ishr, 1) := by decide +kernel
theorem dL_law_342 : decode cL_law 342 = .ok (.iconst 4, 1) := by decide +kernel
theorem dL_law_343 : decode cL_law 343 = .ok (.invokestatic 40, 3) := by decide +kernel
theorem dL_law_346 : decode cL_law 346 = .ok (.istore 15, 2) := by decide +kernel
theorem dL_law_348 : decode cL_law 348 = .ok (.aload 4, 2) := by decide +kernel
theorem dL_law_350 : decode cL_law 350 = .ok (.iload 9, 2) := by decide +kernel
theorem dL_law_352 : decode cL_law 352 = .ok (.iaload, 1) := by decide +kernel
theorem dL_law_353 : decode cL_law 353 = .ok (.ifCond .eq 11, 3) := by decide +kernel
theorem dL_law_356 : decode cL_law 356 = .ok (.aload 4, 2) := by decide +kernel
theorem dL_law_358 : decode cL_law 358 = .ok (.iload 14, 2) := by decide +kernel
theorem dL_law_360 : decode cL_law 360 = .ok (.iaload, 1) := by decide +kernel
theorem dL_law_361 : decode cL_law 361 = .ok (.ifCond .ne 7, 3) := by decide +kernel
theorem dL_law_364 : decode cL_law 364 = .ok (.iconst 1, 1) := by decide +kernel
theorem dL_law_365 : decode cL_law 365 = .ok (.goto 4, 3) := by decide +kernel
theorem dL_law_368 : decode cL_law 368 = .ok (.iconst 0, 1) := by decide +kernel
theorem dL_law_369 : decode cL_law 369 = .ok (.istore 16, 2) := by decide +kernel
theorem dL_law_371 : decode cL_law 371 = .ok (.iload 16, 2) := by decide +kernel
theorem dL_law_373 : decode cL_law 373 = .ok (.ifCond .eq 7, 3) := by decide +kernel
theorem dL_law_376 : decode cL_law 376 = .ok (.iconst 1, 1) := by decide +kernel
theorem dL_law_377 : decode cL_law 377 = .ok (.goto 61, 3) := by decide +kernel
theorem dL_law_380 : decode cL_law 380 = .ok (.aload 4, 2) := by decide +kernel
theorem dL_law_382 : decode cL_law 382 = .ok (.iload 9, 2) := by decide +kernel
theorem dL_law_384 : decode cL_law 384 = .ok (.iaload, 1) := by decide +kernel
theorem dL_law_385 : decode cL_law 385 = .ok (.aload 4, 2) := by decide +kernel
theorem dL_law_387 : decode cL_law 387 = .ok (.iload 14, 2) := by decide +kernel
theorem dL_law_389 : decode cL_law 389 = .ok (.iaload, 1) := by decide +kernel
theorem dL_law_390 : decode cL_law 390 = .ok (.if_icmp .ne 13, 3) := by decide +kernel
theorem dL_law_393 : decode cL_law 393 = .ok (.aload 4, 2) := by decide +kernel
theorem dL_law_395 : decode cL_law 395 = .ok (.iload 9, 2) := by decide +kernel
theorem dL_law_397 : decode cL_law 397 = .ok (.iaload, 1) := by decide +kernel
theorem dL_law_398 : decode cL_law 398 = .ok (.bipush 9, 2) := by decide +kernel
theorem dL_law_400 : decode cL_law 400 = .ok (.if_icmp .ne 7, 3) := by decide +kernel
theorem dL_law_403 : decode cL_law 403 = .ok (.iconst 5, 1) := by decide +kernel
theorem dL_law_404 : decode cL_law 404 = .ok (.goto 34, 3) := by decide +kernel
theorem dL_law_407 : decode cL_law 407 = .ok (.iload 10, 2) := by decide +kernel
theorem dL_law_409 : decode cL_law 409 = .ok (.ifCond .lt 24, 3) := by decide +kernel
theorem dL_law_412 : decode cL_law 412 = .ok (.iload 10, 2) := by decide +kernel
theorem dL_law_414 : decode cL_law 414 = .ok (.iload 15, 2) := by decide +kernel
theorem dL_law_416 : decode cL_law 416 = .ok (.iadd, 1) := by decide +kernel
theorem dL_law_417 : decode cL_law 417 = .ok (.aload_n 3, 1) := by decide +kernel
theorem dL_law_418 : decode cL_law 418 = .ok (.iload 9, 2) := by decide +kernel
theorem dL_law_420 : decode cL_law 420 = .ok (.iaload, 1) := by decide +kernel
theorem dL_law_421 : decode cL_law 421 = .ok (.if_icmp .gt 12, 3) := by decide +kernel
theorem dL_law_424 : decode cL_law 424 = .ok (.iload 15, 2) := by decide +kernel
theorem dL_law_426 : decode cL_law 426 = .ok (.aload_n 3, 1) := by decide +kernel
theorem dL_law_427 : decode cL_law 427 = .ok (.iload 14, 2) := by decide +kernel
theorem dL_law_429 : decode cL_law 429 = .ok (.iaload, 1) := by decide +kernel
theorem dL_law_430 : decode cL_law 430 = .ok (.if_icmp .le 7, 3) := by decide +kernel
theorem dL_law_433 : decode cL_law 433 = .ok (.iconst 3, 1) := by decide +kernel
theorem dL_law_434 : decode cL_law 434 = .ok (.goto 4, 3) := by decide +kernel
theorem dL_law_437 : decode cL_law 437 = .ok (.iconst 0, 1) := by decide +kernel
theorem dL_law_438 : decode cL_law 438 = .ok (.istore 13, 2) := by decide +kernel
theorem dL_law_440 : decode cL_law 440 = .ok (.aload_n 1, 1) := by decide +kernel
theorem dL_law_441 : decode cL_law 441 = .ok (.iload 9, 2) := by decide +kernel
theorem dL_law_443 : decode cL_law 443 = .ok (.iload 10, 2) := by decide +kernel
theorem dL_law_445 : decode cL_law 445 = .ok (.iload 14, 2) := by decide +kernel
theorem dL_law_447 : decode cL_law 447 = .ok (.iconst 0, 1) := by decide +kernel
theorem dL_law_448 : decode cL_law 448 = .ok (.iload 15, 2) := by decide +kernel
theorem dL_law_450 : decode cL_law 450 = .ok (.invokevirtual 59, 3) := by decide +kernel
theorem dL_law_453 : decode cL_law 453 = .ok (.iload 13, 2) := by decide +kernel
theorem dL_law_455 : decode cL_law 455 = .ok (.if_icmp .eq 5, 3) := by decide +kernel
theorem dL_law_458 : decode cL_law 458 = .ok (.iconst 0, 1) := by decide +kernel
theorem dL_law_459 : decode cL_law 459 = .ok (.ireturn, 1) := by decide +kernel
theorem dL_law_460 : decode cL_law 460 = .ok (.iconst 0, 1) := by decide +kernel
theorem dL_law_461 : decode cL_law 461 = .ok (.istore 17, 2) := by decide +kernel
theorem dL_law_463 : decode cL_law 463 = .ok (.iload 17, 2) := by decide +kernel
theorem dL_law_465 : decode cL_law 465 = .ok (.iload 15, 2) := by decide +kernel
theorem dL_law_467 : decode cL_law 467 = .ok (.if_icmp .ge 35, 3) := by decide +kernel
theorem dL_law_470 : decode cL_law 470 = .ok (.iload 13, 2) := by decide +kernel
theorem dL_law_472 : decode cL_law 472 = .ok (.ifCond .ne 30, 3) := by decide +kernel
theorem dL_law_475 : decode cL_law 475 = .ok (.aload_n 2, 1) := by decide +kernel
theorem dL_law_476 : decode cL_law 476 = .ok (.iconst 5, 1) := by decide +kernel
theorem dL_law_477 : decode cL_law 477 = .ok (.iload 14, 2) := by decide +kernel
theorem dL_law_479 : decode cL_law 479 = .ok (.imul, 1) := by decide +kernel
theorem dL_law_480 : decode cL_law 480 = .ok (.iload 17, 2) := by decide +kernel
theorem dL_law_482 : decode cL_law 482 = .ok (.iadd, 1) := by decide +kernel
theorem dL_law_483 : decode cL_law 483 = .ok (.aload_n 2, 1) := by decide +kernel
theorem dL_law_484 : decode cL_law 484 = .ok (.iconst 5, 1) := by decide +kernel
theorem dL_law_485 : decode cL_law 485 = .ok (.iload 9, 2) := by decide +kernel
theorem dL_law_487 : decode cL_law 487 = .ok (.imul, 1) := by decide +kernel
theorem dL_law_488 : decode cL_law 488 = .ok (.iload 10, 2) := by decide +kernel
theorem dL_law_490 : decode cL_law 490 = .ok (.iadd, 1) := by decide +kernel
theorem dL_law_491 : decode cL_law 491 = .ok (.iload 17, 2) := by decide +kernel
theorem dL_law_493 : decode cL_law 493 = .ok (.iadd, 1) := by decide +kernel
theorem dL_law_494 : decode cL_law 494 = .ok (.daload, 1) := by decide +kernel
theorem dL_law_495 : decode cL_law 495 = .ok (.dastore, 1) := by decide +kernel
theorem dL_law_496 : decode cL_law 496 = .ok (.iinc 17 1, 3) := by decide +kernel
theorem dL_law_499 : decode cL_law 499 = .ok (.goto (-36), 3) := by decide +kernel
theorem dL_law_502 : decode cL_law 502 = .ok (.goto 147, 3) := by decide +kernel
theorem dL_law_505 : decode cL_law 505 = .ok (.iload 5, 2) := by decide +kernel
theorem dL_law_507 : decode cL_law 507 = .ok (.bipush 12, 2) := by decide +kernel
theorem dL_law_509 : decode cL_law 509 = .ok (.if_icmp .ne 6, 3) := by decide +kernel
theorem dL_law_512 : decode cL_law 512 = .ok (.goto 319, 3) := by decide +kernel
theorem dL_law_515 : decode cL_law 515 = .ok (.iload 12, 2) := by decide +kernel
theorem dL_law_517 : decode cL_law 517 = .ok (.ifCond .le 8, 3) := by decide +kernel
theorem dL_law_520 : decode cL_law 520 = .ok (.iload 12, 2) := by decide +kernel
theorem dL_law_522 : decode cL_law 522 = .ok (.goto 21, 3) := by decide +kernel
theorem dL_law_525 : decode cL_law 525 = .ok (.aload 4, 2) := by decide +kernel
theorem dL_law_527 : decode cL_law 527 = .ok (.iload 9, 2) := by decide +kernel
theorem dL_law_529 : decode cL_law 529 = .ok (.iaload, 1) := by decide +kernel
theorem dL_law_530 : decode cL_law 530 = .ok (.iload 11, 2) := by decide +kernel
theorem dL_law_532 : decode cL_law 532 = .ok (.invokestatic 47, 3) := by decide +kernel
theorem dL_law_535 : decode cL_law 535 = .ok (.ifCond .eq 7, 3) := by decide +kernel
theorem dL_law_538 : decode cL_law 538 = .ok (.iconst 0, 1) := by decide +kernel
theorem dL_law_539 : decode cL_law 539 = .ok (.goto 4, 3) := by decide +kernel
theorem dL_law_542 : decode cL_law 542 = .ok (.iconst 4, 1) := by decide +kernel
theorem dL_law_543 : decode cL_law 543 = .ok (.istore 13, 2) := by decide +kernel
theorem dL_law_545 : decode cL_law 545 = .ok (.aload_n 1, 1) := by decide +kernel
theorem dL_law_546 : decode cL_law 546 = .ok (.iload 9, 2) := by decide +kernel
theorem dL_law_548 : decode cL_law 548 = .ok (.iload 11, 2) := by decide +kernel
theorem dL_law_550 : decode cL_law 550 = .ok (.invokevirtual 63, 3) := by decide +kernel
theorem dL_law_553 : decode cL_law 553 = .ok (.iload 13, 2) := by decide +kernel
theorem dL_law_555 : decode cL_law 555 = .ok (.ifCond .ne 8, 3) := by decide +kernel
theorem dL_law_558 : decode cL_law 558 = .ok (.iload 5, 2) := by decide +kernel
theorem dL_law_560 : decode cL_law 560 = .ok (.goto 4, 3) := by decide +kernel
theorem dL_law_563 : decode cL_law 563 = .ok (.iconst (-1), 1) := by decide +kernel
theorem dL_law_564 : decode cL_law 564 = .ok (.if_icmp .eq 5, 3) := by decide +kernel
theorem dL_law_567 : decode cL_law 567 = .ok (.iconst 0, 1) := by decide +kernel
theorem dL_law_568 : decode cL_law 568 = .ok (.ireturn, 1) := by decide +kernel
theorem dL_law_569 : decode cL_law 569 = .ok (.iload 13, 2) := by decide +kernel
theorem dL_law_571 : decode cL_law 571 = .ok (.ifCond .ne 78, 3) := by decide +kernel
theorem dL_law_574 : decode cL_law 574 = .ok (.aload 4, 2) := by decide +kernel
theorem dL_law_576 : decode cL_law 576 = .ok (.iload 5, 2) := by decide +kernel
theorem dL_law_578 : decode cL_law 578 = .ok (.iload 11, 2) := by decide +kernel
theorem dL_law_580 : decode cL_law 580 = .ok (.iastore, 1) := by decide +kernel
theorem dL_law_581 : decode cL_law 581 = .ok (.aload_n 3, 1) := by decide +kernel
theorem dL_law_582 : decode cL_law 582 = .ok (.iload 5, 2) := by decide +kernel
theorem dL_law_584 : decode cL_law 584 = .ok (.aload_n 3, 1) := by decide +kernel
theorem dL_law_585 : decode cL_law 585 = .ok (.iload 9, 2) := by decide +kernel
theorem dL_law_587 : decode cL_law 587 = .ok (.iaload, 1) := by decide +kernel
theorem dL_law_588 : decode cL_law 588 = .ok (.iastore, 1) := by decide +kernel
theorem dL_law_589 : decode cL_law 589 = .ok (.iconst 0, 1) := by decide +kernel
theorem dL_law_590 : decode cL_law 590 = .ok (.istore 14, 2) := by decide +kernel
theorem dL_law_592 : decode cL_law 592 = .ok (.iload 14, 2) := by decide +kernel
theorem dL_law_594 : decode cL_law 594 = .ok (.aload_n 3, 1) := by decide +kernel
theorem dL_law_595 : decode cL_law 595 = .ok (.iload 9, 2) := by decide +kernel
theorem dL_law_597 : decode cL_law 597 = .ok (.iaload, 1) := by decide +kernel
theorem dL_law_598 : decode cL_law 598 = .ok (.if_icmp .ge 48, 3) := by decide +kernel
theorem dL_law_601 : decode cL_law 601 = .ok (.aload_n 2, 1) := by decide +kernel
theorem dL_law_602 : decode cL_law 602 = .ok (.iconst 5, 1) := by decide +kernel
theorem dL_law_603 : decode cL_law 603 = .ok (.iload 5, 2) := by decide +kernel
theorem dL_law_605 : decode cL_law 605 = .ok (.imul, 1) := by decide +kernel
theorem dL_law_606 : decode cL_law 606 = .ok (.iload 14, 2) := by decide +kernel
theorem dL_law_608 : decode cL_law 608 = .ok (.iadd, 1) := by decide +kernel
theorem dL_law_609 : decode cL_law 609 = .ok (.iload 11, 2) := by decide +kernel
theorem dL_law_611 : decode cL_law 611 = .ok (.bipush 7, 2) := by decide +kernel
theorem dL_law_613 : decode cL_law 613 = .ok (.if_icmp .ne 17, 3) := by decide +kernel
theorem dL_law_616 : decode cL_law 616 = .ok (.aload_n 2, 1) := by decide +kernel
theorem dL_law_617 : decode cL_law 617 = .ok (.iconst 5, 1) := by decide +kernel
theorem dL_law_618 : decode cL_law 618 = .ok (.iload 9, 2) := by decide +kernel
theorem dL_law_620 : decode cL_law 620 = .ok (.imul, 1) := by decide +kernel
theorem dL_law_621 : decode cL_law 621 = .ok (.iload 14, 2) := by decide +kernel
theorem dL_law_623 : decode cL_law 623 = .ok (.iadd, 1) := by decide +kernel
theorem dL_law_624 : decode cL_law 624 = .ok (.daload, 1) := by decide +kernel
theorem dL_law_625 : decode cL_law 625 = .ok (.d2f, 1) := by decide +kernel
theorem dL_law_626 : decode cL_law 626 = .ok (.f2d, 1) := by decide +kernel
theorem dL_law_627 : decode cL_law 627 = .ok (.goto 12, 3) := by decide +kernel
theorem dL_law_630 : decode cL_law 630 = .ok (.aload_n 2, 1) := by decide +kernel
theorem dL_law_631 : decode cL_law 631 = .ok (.iconst 5, 1) := by decide +kernel
theorem dL_law_632 : decode cL_law 632 = .ok (.iload 9, 2) := by decide +kernel
theorem dL_law_634 : decode cL_law 634 = .ok (.imul, 1) := by decide +kernel
theorem dL_law_635 : decode cL_law 635 = .ok (.iload 14, 2) := by decide +kernel
theorem dL_law_637 : decode cL_law 637 = .ok (.iadd, 1) := by decide +kernel
theorem dL_law_638 : decode cL_law 638 = .ok (.daload, 1) := by decide +kernel
theorem dL_law_639 : decode cL_law 639 = .ok (.dastore, 1) := by decide +kernel
theorem dL_law_640 : decode cL_law 640 = .ok (.iinc 14 1, 3) := by decide +kernel
theorem dL_law_643 : decode cL_law 643 = .ok (.goto (-51), 3) := by decide +kernel
theorem dL_law_646 : decode cL_law 646 = .ok (.iinc 5 1, 3) := by decide +kernel
theorem dL_law_649 : decode cL_law 649 = .ok (.aload 6, 2) := by decide +kernel
theorem dL_law_651 : decode cL_law 651 = .ok (.iload 13, 2) := by decide +kernel
theorem dL_law_653 : decode cL_law 653 = .ok (.dup2, 1) := by decide +kernel
theorem dL_law_654 : decode cL_law 654 = .ok (.iaload, 1) := by decide +kernel
theorem dL_law_655 : decode cL_law 655 = .ok (.iconst 1, 1) := by decide +kernel
theorem dL_law_656 : decode cL_law 656 = .ok (.iadd, 1) := by decide +kernel
theorem dL_law_657 : decode cL_law 657 = .ok (.iastore, 1) := by decide +kernel
theorem dL_law_658 : decode cL_law 658 = .ok (.aload_n 1, 1) := by decide +kernel
theorem dL_law_659 : decode cL_law 659 = .ok (.invokevirtual 66, 3) := by decide +kernel
theorem dL_law_662 : decode cL_law 662 = .ok (.iload 13, 2) := by decide +kernel
theorem dL_law_664 : decode cL_law 664 = .ok (.if_icmp .eq 5, 3) := by decide +kernel
theorem dL_law_667 : decode cL_law 667 = .ok (.iconst 0, 1) := by decide +kernel
theorem dL_law_668 : decode cL_law 668 = .ok (.ireturn, 1) := by decide +kernel
theorem dL_law_669 : decode cL_law 669 = .ok (.iconst 0, 1) := by decide +kernel
theorem dL_law_670 : decode cL_law 670 = .ok (.istore 14, 2) := by decide +kernel
theorem dL_law_672 : decode cL_law 672 = .ok (.iload 14, 2) := by decide +kernel
theorem dL_law_674 : decode cL_law 674 = .ok (.iload 5, 2) := by decide +kernel
theorem dL_law_676 : decode cL_law 676 = .ok (.if_icmp .ge 123, 3) := by decide +kernel
theorem dL_law_679 : decode cL_law 679 = .ok (.dconst 0, 1) := by decide +kernel
theorem dL_law_680 : decode cL_law 680 = .ok (.dstore 15, 2) := by decide +kernel
theorem dL_law_682 : decode cL_law 682 = .ok (.iconst 0, 1) := by decide +kernel
theorem dL_law_683 : decode cL_law 683 = .ok (.istore 17, 2) := by decide +kernel
theorem dL_law_685 : decode cL_law 685 = .ok (.iload 17, 2) := by decide +kernel
theorem dL_law_687 : decode cL_law 687 = .ok (.aload_n 3, 1) := by decide +kernel
theorem dL_law_688 : decode cL_law 688 = .ok (.iload 14, 2) := by decide +kernel
theorem dL_law_690 : decode cL_law 690 = .ok (.iaload, 1) := by decide +kernel
theorem dL_law_691 : decode cL_law 691 = .ok (.if_icmp .ge 54, 3) := by decide +kernel
theorem dL_law_694 : decode cL_law 694 = .ok (.aload_n 1, 1) := by decide +kernel
theorem dL_law_695 : decode cL_law 695 = .ok (.iload 14, 2) := by decide +kernel
theorem dL_law_697 : decode cL_law 697 = .ok (.iload 17, 2) := by decide +kernel
theorem dL_law_699 : decode cL_law 699 = .ok (.invokevirtual 70, 3) := by decide +kernel
theorem dL_law_702 : decode cL_law 702 = .ok (.aload_n 2, 1) := by decide +kernel
theorem dL_law_703 : decode cL_law 703 = .ok (.iconst 5, 1) := by decide +kernel
theorem dL_law_704 : decode cL_law 704 = .ok (.iload 14, 2) := by decide +kernel
theorem dL_law_706 : decode cL_law 706 = .ok (.imul, 1) := by decide +kernel
theorem dL_law_707 : decode cL_law 707 = .ok (.iload 17, 2) := by decide +kernel
theorem dL_law_709 : decode cL_law 709 = .ok (.iadd, 1) := by decide +kernel
theorem dL_law_710 : decode cL_law 710 = .ok (.daload, 1) := by decide +kernel
theorem dL_law_711 : decode cL_law 711 = .ok (.dcmp .l, 1) := by decide +kernel
theorem dL_law_712 : decode cL_law 712 = .ok (.ifCond .eq 5, 3) := by decide +kernel
theorem dL_law_715 : decode cL_law 715 = .ok (.iconst 0, 1) := by decide +kernel
theorem dL_law_716 : decode cL_law 716 = .ok (.ireturn, 1) := by decide +kernel
theorem dL_law_717 : decode cL_law 717 = .ok (.aload 6, 2) := by decide +kernel
theorem dL_law_719 : decode cL_law 719 = .ok (.iconst 0, 1) := by decide +kernel
theorem dL_law_720 : decode cL_law 720 = .ok (.dup2, 1) := by decide +kernel
theorem dL_law_721 : decode cL_law 721 = .ok (.iaload, 1) := by decide +kernel
theorem dL_law_722 : decode cL_law 722 = .ok (.iconst 1, 1) := by decide +kernel
theorem dL_law_723 : decode cL_law 723 = .ok (.iadd, 1) := by decide +kernel
theorem dL_law_724 : decode cL_law 724 = .ok (.iastore, 1) := by decide +kernel
theorem dL_law_725 : decode cL_law 725 = .ok (.dload 15, 2) := by decide +kernel
theorem dL_law_727 : decode cL_law 727 = .ok (.aload_n 2, 1) := by decide +kernel
theorem dL_law_728 : decode cL_law 728 = .ok (.iconst 5, 1) := by decide +kernel
theorem dL_law_729 : decode cL_law 729 = .ok (.iload 14, 2) := by decide +kernel
theorem dL_law_731 : decode cL_law 731 = .ok (.imul, 1) := by decide +kernel
theorem dL_law_732 : decode cL_law 732 = .ok (.iload 17, 2) := by decide +kernel
theorem dL_law_734 : decode cL_law 734 = .ok (.iadd, 1) := by decide +kernel
theorem dL_law_735 : decode cL_law 735 = .ok (.daload, 1) := by decide +kernel
theorem dL_law_736 : decode cL_law 736 = .ok (.dadd, 1) := by decide +kernel
theorem dL_law_737 : decode cL_law 737 = .ok (.dstore 15, 2) := by decide +kernel
theorem dL_law_739 : decode cL_law 739 = .ok (.iinc 17 1, 3) := by decide +kernel
theorem dL_law_742 : decode cL_law 742 = .ok (.goto (-57), 3) := by decide +kernel
theorem dL_law_745 : decode cL_law 745 = .ok (.aload_n 1, 1) := by decide +kernel
theorem dL_law_746 : decode cL_law 746 = .ok (.iload 14, 2) := by decide +kernel
theorem dL_law_748 : decode cL_law 748 = .ok (.invokevirtual 74, 3) := by decide +kernel
theorem dL_law_751 : decode cL_law 751 = .ok (.dload 15, 2) := by decide +kernel
theorem dL_law_753 : decode cL_law 753 = .ok (.dcmp .l, 1) := by decide +kernel
theorem dL_law_754 : decode cL_law 754 = .ok (.ifCond .eq 5, 3) := by decide +kernel
theorem dL_law_757 : decode cL_law 757 = .ok (.iconst 0, 1) := by decide +kernel
theorem dL_law_758 : decode cL_law 758 = .ok (.ireturn, 1) := by decide +kernel
theorem dL_law_759 : decode cL_law 759 = .ok (.aload 6, 2) := by decide +kernel
theorem dL_law_761 : decode cL_law 761 = .ok (.aload 4, 2) := by decide +kernel
theorem dL_law_763 : decode cL_law 763 = .ok (.iload 14, 2) := by decide +kernel
theorem dL_law_765 : decode cL_law 765 = .ok (.iaload, 1) := by decide +kernel
theorem dL_law_766 : decode cL_law 766 = .ok (.ifCond .ne 7, 3) := by decide +kernel
theorem dL_law_769 : decode cL_law 769 = .ok (.iconst 1, 1) := by decide +kernel
theorem dL_law_770 : decode cL_law 770 = .ok (.goto 18, 3) := by decide +kernel
theorem dL_law_773 : decode cL_law 773 = .ok (.aload 4, 2) := by decide +kernel
theorem dL_law_775 : decode cL_law 775 = .ok (.iload 14, 2) := by decide +kernel
theorem dL_law_777 : decode cL_law 777 = .ok (.iaload, 1) := by decide +kernel
theorem dL_law_778 : decode cL_law 778 = .ok (.bipush 9, 2) := by decide +kernel
theorem dL_law_780 : decode cL_law 780 = .ok (.if_icmp .ne 7, 3) := by decide +kernel
theorem dL_law_783 : decode cL_law 783 = .ok (.iconst 2, 1) := by decide +kernel
theorem dL_law_784 : decode cL_law 784 = .ok (.goto 4, 3) := by decide +kernel
theorem dL_law_787 : decode cL_law 787 = .ok (.iconst 0, 1) := by decide +kernel
theorem dL_law_788 : decode cL_law 788 = .ok (.dup2, 1) := by decide +kernel
theorem dL_law_789 : decode cL_law 789 = .ok (.iaload, 1) := by decide +kernel
theorem dL_law_790 : decode cL_law 790 = .ok (.iconst 1, 1) := by decide +kernel
theorem dL_law_791 : decode cL_law 791 = .ok (.iadd, 1) := by decide +kernel
theorem dL_law_792 : decode cL_law 792 = .ok (.iastore, 1) := by decide +kernel
theorem dL_law_793 : decode cL_law 793 = .ok (.iinc 14 1, 3) := by decide +kernel
theorem dL_law_796 : decode cL_law 796 = .ok (.goto (-124), 3) := by decide +kernel
theorem dL_law_799 : decode cL_law 799 = .ok (.iconst 0, 1) := by decide +kernel
theorem dL_law_800 : decode cL_law 800 = .ok (.istore 14, 2) := by decide +kernel
theorem dL_law_802 : decode cL_law 802 = .ok (.iload 14, 2) := by decide +kernel
theorem dL_law_804 : decode cL_law 804 = .ok (.bipush 6, 2) := by decide +kernel
theorem dL_law_806 : decode cL_law 806 = .ok (.if_icmp .ge 25, 3) := by decide +kernel
theorem dL_law_809 : decode cL_law 809 = .ok (.aload_n 1, 1) := by decide +kernel
theorem dL_law_810 : decode cL_law 810 = .ok (.iload 14, 2) := by decide +kernel
theorem dL_law_812 : decode cL_law 812 = .ok (.invokevirtual 78, 3) := by decide +kernel
theorem dL_law_815 : decode cL_law 815 = .ok (.aload 6, 2) := by decide +kernel
theorem dL_law_817 : decode cL_law 817 = .ok (.iload 14, 2) := by decide +kernel
theorem dL_law_819 : decode cL_law 819 = .ok (.iaload, 1) := by decide +kernel
theorem dL_law_820 : decode cL_law 820 = .ok (.if_icmp .eq 5, 3) := by decide +kernel
theorem dL_law_823 : decode cL_law 823 = .ok (.iconst 0, 1) := by decide +kernel
theorem dL_law_824 : decode cL_law 824 = .ok (.ireturn, 1) := by decide +kernel
theorem dL_law_825 : decode cL_law 825 = .ok (.iinc 14 1, 3) := by decide +kernel
theorem dL_law_828 : decode cL_law 828 = .ok (.goto (-26), 3) := by decide +kernel
theorem dL_law_831 : decode cL_law 831 = .ok (.iinc 7 1, 3) := by decide +kernel
theorem dL_law_834 : decode cL_law 834 = .ok (.goto (-725), 3) := by decide +kernel
theorem dL_law_837 : decode cL_law 837 = .ok (.aload_n 1, 1) := by decide +kernel
theorem dL_law_838 : decode cL_law 838 = .ok (.invokevirtual 82, 3) := by decide +kernel
theorem dL_law_841 : decode cL_law 841 = .ok (.iload 5, 2) := by decide +kernel
theorem dL_law_843 : decode cL_law 843 = .ok (.if_icmp .ne 7, 3) := by decide +kernel
theorem dL_law_846 : decode cL_law 846 = .ok (.iconst 1, 1) := by decide +kernel
theorem dL_law_847 : decode cL_law 847 = .ok (.goto 4, 3) := by decide +kernel
theorem dL_law_850 : decode cL_law 850 = .ok (.iconst 0, 1) := by decide +kernel
theorem dL_law_851 : decode cL_law 851 = .ok (.ireturn, 1) := by decide +kernel
abbrev vwCl : List vw_C := [(RX0, TX0, 4), (RX1, TX1, 1), (RX2, TX2, 5)]
end
section
/-! FLOATS: which words are no NaN, the guarded sum, the bits of a double found by arithmetic -/
theorem tf_n64 (a : UInt64) : vf_n64 a ↔ FP.Core.dIsNaN a = false := by
  have h := FP.Core.isNaN_bits a
  unfold vf_n64
  rw [UInt64.le_iff_toNat_le, UInt64.toNat_and]
  have h1 : (0x7fffffffffffffff : UInt64).toNat = 2 ^ 63 - 1 := by decide
  have h2 : (0x7ff0000000000000 : UInt64).toNat = 9218868437227405312 := by decide
  rw [h1, h2, Nat.and_two_pow_sub_one_eq_mod]
  cases hz : FP.Core.dIsNaN a
  · rw [hz] at h
    have : ¬ 9218868437227405312 < a.toNat % 2 ^ 63 := fun q => by have := h.mpr q; cases this
    simp only [iff_true]
    omega
  · have := h.mp hz
    constructor
    · intro q; omega
    · intro q; cases q
theorem tf_n32 (a : UInt32) : vf_n32 a ↔ FP.Core.fIsNaN a = false := by
  have h := FP.Core.isNaN_bits32 a
  unfold vf_n32
  rw [UInt32.le_iff_toNat_le, UInt32.toNat_and]
  have h1 : (0x7fffffff : UInt32).toNat = 2 ^ 31 - 1 := by decide
  have h2 : (0x7f800000 : UInt32).toNat = 2139095040 := by decide
  rw [h1, h2, Nat.and_two_pow_sub_one_eq_mod]
  cases hz : FP.Core.fIsNaN a
  · rw [hz] at h
    have : ¬ 2139095040 < a.toNat % 2 ^ 31 := fun q => by have := h.mpr q; cases this
    simp only [iff_true]
    omega
  · have := h.mp hz
    constructor
    · intro q; omega
    · intro q; cases q
theorem tf_isNaN (a : UInt64) : isNaN64 a = FP.Core.dIsNaN a := by
  have h1 := isNaN64_not (b := a)
  have h2 := tf_n64 a
  unfold vf_n64 at h2
  cases hz : FP.Core.dIsNaN a
  · have h3 := h2.mpr hz
    cases hy : isNaN64 a
    · rfl
    · exact absurd h3 (h1.mp hy)
  · cases hy : isNaN64 a
    · have : ¬ (a &&& 0x7fffffffffffffff ≤ 0x7ff0000000000000) := fun q => by have := h2.mp q; rw [hz] at this; cases this
      exact absurd (h1.mpr this) (by rw [hy]; decide)
    · rfl
theorem tf_alike (x y : UInt64) : alike64 x y = true ↔ x = y ∨ (FP.Core.dIsNaN x = true ∧ FP.Core.dIsNaN y = true) := by
  simp [alike64, tf_isNaN]
def tf_canon (r : UInt64) : UInt64 := if FP.Core.dIsNaN r = true then 9221120237041090560 else r
def tf_sum (v : Nat → UInt64) : Nat → UInt64
  | 0 => 0
  | k + 1 => tf_canon (FP.dadd (tf_sum v k) (v k))
theorem tf_step {x y v r : UInt64} (h : alike64 x y = true) (hr : alike64 r (FP.dadd x v) = true) : alike64 r (tf_canon (FP.dadd y v)) = true := by
  have hn : FP.Core.dIsNaN 9221120237041090560 = true := by decide +kernel
  rw [tf_alike] at h hr ⊢
  by_cases hz : FP.Core.dIsNaN (FP.dadd y v) = true
  · right
    unfold tf_canon
    rw [if_pos hz]
    refine ⟨?_, hn⟩
    have hx : FP.Core.dIsNaN (FP.dadd x v) = true := by
      rcases h with h | ⟨h1, -⟩
      · rw [h]; exact hz
      · exact (FP.Core.dadd_nan_iff x v).mpr (Or.inl ((FP.Core.dIsNaN_iff x).mp h1))
    rcases hr with h2 | ⟨h2, -⟩
    · rw [h2]; exact hx
    · exact h2
  · have hf : FP.Core.dIsNaN (FP.dadd y v) = false := by simpa using hz
    have hy : FP.Core.dIsNaN y = false := (FP.Core.dadd_in hf).1
    rcases h with h | ⟨-, h1⟩
    · subst h
      unfold tf_canon
      rw [if_neg hz]
      exact hr
    · rw [hy] at h1; cases h1
/-- what the class answers and what the model answers are one number, or both are none -/
theorem tf_canon_n (r : UInt64) : alike64 r (tf_canon r) = true := by
  have hn : FP.Core.dIsNaN 9221120237041090560 = true := by decide +kernel
  rw [tf_alike]
  unfold tf_canon
  by_cases h : FP.Core.dIsNaN r = true
  · rw [if_pos h]; exact Or.inr ⟨h, hn⟩
  · rw [if_neg h]; exact Or.inl rfl
def tf_inf (v : UInt64) : Bool := decide (v.toNat % 2 ^ 63 = 9218868437227405312)
theorem tf_inf_gt {v : UInt64} (h : FP.Core.dIsNaN v = false) : FP.dcmp v 9218868437227405311 = some .gt ↔ v.toNat = 9218868437227405312 := by
  have hv := (FP.Core.notNaN_iff v).mp h
  have hm : FP.Core.val64 9218868437227405311 ≠ .nan := by rw [FP.Core.ne_nan]; decide
  have hb := (FP.Core.ne_nan v).mp hv
  have hl := v.toNat_lt
  rw [show FP.dcmp v 9218868437227405311 = FP.Core.dcmp v 9218868437227405311 from rfl, FP.Core.dcmp_gt_key hv hm]
  have e1 : FP.Core.dkey 9218868437227405311 = 9218868437227405311 := by decide
  rw [e1]
  unfold FP.Core.dkey
  split <;> omega
theorem tf_inf_lt {v : UInt64} (h : FP.Core.dIsNaN v = false) : FP.dcmp v 18442240474082181119 = some .lt ↔ v.toNat = 9218868437227405312 + 9223372036854775808 := by
  have hv := (FP.Core.notNaN_iff v).mp h
  have hm : FP.Core.val64 18442240474082181119 ≠ .nan := by rw [FP.Core.ne_nan]; decide
  have hb := (FP.Core.ne_nan v).mp hv
  have hl := v.toNat_lt
  rw [show FP.dcmp v 18442240474082181119 = FP.Core.dcmp v 18442240474082181119 from rfl, FP.Core.dcmp_lt_key hv hm]
  have e1 : FP.Core.dkey 18442240474082181119 = -9218868437227405311 := by decide
  rw [e1]
  unfold FP.Core.dkey
  split <;> omega
theorem tf_infV {v : UInt64} : tf_inf v = true ↔ ∃ s, FP.Core.val64 v = .inf s := by
  have hl := v.toNat_lt
  have p1 : FP.Core.val64 9218868437227405312 = .inf false := by decide +kernel
  have p2 : FP.Core.val64 18442240474082181120 = .inf true := by decide +kernel
  unfold tf_inf
  rw [decide_eq_true_eq]
  constructor
  · intro h
    by_cases hc : v.toNat < 2 ^ 63
    · have : v = 9218868437227405312 := UInt64.toNat_inj.mp (by show v.toNat = 9218868437227405312; omega)
      exact ⟨false, by rw [this]; exact p1⟩
    · have : v = 18442240474082181120 := UInt64.toNat_inj.mp (by show v.toNat = 18442240474082181120; omega)
      exact ⟨true, by rw [this]; exact p2⟩
  · rintro ⟨s, h⟩
    cases s
    · have : v = 9218868437227405312 := FP.Core.val64_inj (by rw [h]; simp) (h.trans p1.symm)
      rw [this]; decide
    · have : v = 18442240474082181120 := FP.Core.val64_inj (by rw [h]; simp) (h.trans p2.symm)
      rw [this]; decide
theorem tf_inf_or {v : UInt64} (h : FP.Core.dIsNaN v = false) : tf_inf v = true ↔ (FP.dcmp v 9218868437227405311 = some .gt ∨ FP.dcmp v 18442240474082181119 = some .lt) := by
  have hl := v.toNat_lt
  rw [tf_inf_gt h, tf_inf_lt h]
  unfold tf_inf
  rw [decide_eq_true_eq]
  omega
theorem tf_dcmp_none (a b : UInt64) : FP.dcmp a b = none ↔ FP.Core.dIsNaN a = true ∨ FP.Core.dIsNaN b = true := by
  constructor
  · intro h
    by_cases ha : FP.Core.dIsNaN a = true
    · exact Or.inl ha
    · by_cases hb : FP.Core.dIsNaN b = true
      · exact Or.inr hb
      · obtain ⟨o, ho⟩ := FP.Core.dcmp_of_notNaN (a := a) (b := b) (by simpa using ha) (by simpa using hb)
        rw [show FP.dcmp a b = FP.Core.dcmp a b from rfl, ho] at h
        cases h
  · intro h
    cases hc : FP.dcmp a b with
    | none => rfl
    | some o =>
      have := FP.Core.dcmp_notNaN (a := a) (b := b) hc
      rcases h with h | h
      · rw [h] at this; cases this.1
      · rw [h] at this; cases this.2
theorem tf_dcmp_self (a : UInt64) : FP.Core.dIsNaN a = false → FP.dcmp a a = some .eq := fun h => FP.Core.dcmp_refl h
theorem tf_sumc {a b : UInt64} (ha : FP.Core.dIsNaN a = false) (hb : FP.Core.dIsNaN b = false) : (tf_inf a = true ∧ FP.dcmp a (FP.dneg b) = some .eq) ↔ FP.Core.dIsNaN (FP.dadd a b) = true := by
  have hva := (FP.Core.notNaN_iff a).mp ha
  have hvb := (FP.Core.notNaN_iff b).mp hb
  have hn : FP.Core.dIsNaN (FP.dneg b) = false := (FP.dneg_nan b).trans hb
  have hvn := (FP.Core.notNaN_iff _).mp hn
  rw [show FP.dadd a b = FP.Core.dadd a b from rfl, FP.Core.dadd_nan_iff, tf_infV]
  constructor
  · rintro ⟨⟨s, hs⟩, hc⟩
    refine Or.inr (Or.inr ⟨s, hs, ?_⟩)
    have hz : ¬ FP.Core.DZero a := fun q => q.ne_inf s hs
    have hc2 : FP.Core.dcmp (FP.dneg b) a = some .eq := by
      rw [FP.Core.dcmp_eq_key hvn hva]
      exact ((FP.Core.dcmp_eq_key hva hvn).mp hc).symm
    have e := FP.Core.eq_bits hz hc2
    have h2 := FP.val64_dneg b
    rw [e, hs] at h2
    cases hb2 : FP.Core.val64 b with
    | nan => exact absurd hb2 hvb
    | inf t => rw [hb2] at h2; simp only [FP.Core.negate, FP.Core.Datum.inf.injEq] at h2; rw [h2]; simp
    | fin t c q => rw [hb2] at h2; simp [FP.Core.negate] at h2
  · rintro (h | h | ⟨s, h1, h2⟩)
    · exact absurd h hva
    · exact absurd h hvb
    · refine ⟨⟨s, h1⟩, ?_⟩
      have h3 := FP.val64_dneg b
      rw [h2] at h3
      simp only [FP.Core.negate, Bool.not_not] at h3
      have e : a = FP.dneg b := FP.Core.val64_inj hva (h1.trans h3.symm)
      rw [← e]
      exact tf_dcmp_self a ha
theorem tf_quot {f : FP.Core.Fmt} {s t : Bool} {c d : Nat} {q r : Int} (hd : d ≠ 0) : FP.Core.quotient f (.fin s c q) (.fin t d r) = FP.Core.roundRatio f (s != t) c d (q - r) := by
  simp [FP.Core.quotient, hd]
/-- the positive normal double with exponent field e and fraction t -/
def tf_N (e t : Nat) : UInt64 := UInt64.ofNat (e * 4503599627370496 + t)
theorem tf_Nn {e t : Nat} (h2 : e ≤ 2047) (ht : t < 4503599627370496) : (tf_N e t).toNat = e * 4503599627370496 + t := by
  unfold tf_N
  exact UInt64.toNat_ofNat_of_lt' (by show _ < 18446744073709551616; omega)
theorem tf_val {e t : Nat} (h1 : 1 ≤ e) (h2 : e ≤ 2046) (ht : t < 4503599627370496) : FP.Core.val64 (tf_N e t) = .fin false (4503599627370496 + t) ((e : Int) - 1075) := by
  have hx : FP.Core.b64.exps = 2048 := by decide
  have htl : FP.Core.b64.tails = 4503599627370496 := by decide
  have hn : (tf_N e t).toNat = FP.Core.assemble FP.Core.b64 false e t := by
    rw [tf_Nn (by omega) ht]
    unfold FP.Core.assemble
    rw [htl]
    simp
  unfold FP.Core.val64
  rw [hn, FP.Core.decode_assemble _ _ _ _ (by rw [hx]; omega) (by rw [htl]; exact ht), if_neg (by rw [hx]; omega), if_neg (by omega), htl, FP.Core.qmin_b64]
  congr 1
  omega
theorem tf_Nnan {e t : Nat} (h2 : e ≤ 2046) (ht : t < 4503599627370496) : vf_n64 (tf_N e t) := by
  rw [tf_n64, FP.Core.notNaN_iff, FP.Core.ne_nan, tf_Nn (by omega) ht]
  omega
theorem tf_fits {e t : Nat} (h1 : 1 ≤ e) (h2 : e ≤ 2046) (ht : t < 4503599627370496) : FP.Core.fits FP.Core.b64 (.fin false (4503599627370496 + t) ((e : Int) - 1075)) := by
  have h := FP.Core.val64_fits (tf_N e t)
  rw [tf_val h1 h2 ht] at h
  exact h
theorem tf_mul {e t k : Nat} (h1 : 1 ≤ e) (h2 : e + k ≤ 2046) (hk : k ≤ 1023) (ht : t < 4503599627370496) : FP.dmul (tf_N e t) (tf_N (1023 + k) 0) = tf_N (e + k) t := by
  have e2 : FP.Core.val64 (FP.dmul (tf_N e t) (tf_N (1023 + k) 0)) = .fin false (4503599627370496 + t) (((e + k : Nat) : Int) - 1075) := by
    rw [show FP.dmul (tf_N e t) (tf_N (1023 + k) 0) = FP.Core.dmul (tf_N e t) (tf_N (1023 + k) 0) from rfl, FP.Core.val64_dmul, tf_val h1 (by omega) ht, tf_val (by omega) (by omega) (by omega)]
    show FP.Core.roundRatio FP.Core.b64 false ((4503599627370496 + t) * (4503599627370496 + 0)) 1 (((e : Int) - 1075) + (((1023 + k : Nat) : Int) - 1075)) = _
    refine FP.Core.roundRatio_exact FP.Core.good_b64 (by decide) (tf_fits (by omega) h2 ht) ?_
    have a1 : (((e : Int) - 1075) + (((1023 + k : Nat) : Int) - 1075) - (((e + k : Nat) : Int) - 1075)).toNat = 0 := by omega
    have a2 : ((((e + k : Nat) : Int) - 1075) - (((e : Int) - 1075) + (((1023 + k : Nat) : Int) - 1075))).toNat = 52 := by omega
    rw [a1, a2]
    simp
  exact FP.Core.val64_inj (by rw [e2]; simp) (e2.trans (tf_val (by omega) h2 ht).symm)
theorem tf_div {e t k : Nat} (h1 : k + 1 ≤ e) (h2 : e ≤ 2046) (hk : k ≤ 1023) (ht : t < 4503599627370496) : FP.ddiv (tf_N e t) (tf_N (1023 + k) 0) = tf_N (e - k) t := by
  have e2 : FP.Core.val64 (FP.ddiv (tf_N e t) (tf_N (1023 + k) 0)) = .fin false (4503599627370496 + t) (((e - k : Nat) : Int) - 1075) := by
    rw [show FP.ddiv (tf_N e t) (tf_N (1023 + k) 0) = FP.Core.ddiv (tf_N e t) (tf_N (1023 + k) 0) from rfl, FP.Core.val64_ddiv, tf_val (by omega) (by omega) ht, tf_val (by omega) (by omega) (by omega)]
    rw [tf_quot (by decide)]
    refine FP.Core.roundRatio_exact FP.Core.good_b64 (by decide) (tf_fits (by omega) (by omega) ht) ?_
    have a1 : (((e : Int) - 1075) - (((1023 + k : Nat) : Int) - 1075) - (((e - k : Nat) : Int) - 1075)).toNat = 52 := by omega
    have a2 : ((((e - k : Nat) : Int) - 1075) - (((e : Int) - 1075) - (((1023 + k : Nat) : Int) - 1075))).toNat = 0 := by omega
    rw [a1, a2]
    simp
  exact FP.Core.val64_inj (by rw [e2]; simp) (e2.trans (tf_val (by omega) (by omega) ht).symm)
/-- a positive whole double of at most 53 digits is its own number -/
theorem tf_d2l {a : UInt64} {n c : Nat} {q : Int} (hv : FP.Core.val64 a = .fin false c q) (hq : -1074 ≤ q) (hc : c * 2 ^ (q + 1074).toNat = n * 2 ^ 1074) (hn : n < 9007199254740992) : (FP.d2l a).toInt = n := by
  rw [show FP.d2l a = FP.Core.d2l a from rfl, FP.Core.d2l_val (by rw [hv]; simp), hv]
  have hz : FP.Core.zmag FP.Core.b64 (.fin false c q) = n * 2 ^ 1074 := by
    show c * 2 ^ (q - FP.Core.b64.qmin).toNat = _
    rw [FP.Core.qmin_b64, show q - (-1074) = q + 1074 from by omega]
    exact hc
  have ho : FP.Core.one64 = 2 ^ 1074 := rfl
  rw [hz, ho, Nat.mul_div_cancel _ (Nat.two_pow_pos 1074)]
  show max (-2 ^ 63) (min (2 ^ 63 - 1) (n : Int)) = (n : Int)
  omega
theorem tf_d2lN {t : Nat} (ht : t < 4503599627370496) : (FP.d2l (tf_N 1075 t)).toInt = ((4503599627370496 + t : Nat) : Int) := by
  refine tf_d2l (c := 4503599627370496 + t) (q := 0) ?_ (by decide) ?_ (by omega)
  · rw [tf_val (by decide) (by decide) ht]; rfl
  · rw [show ((0 : Int) + 1074).toNat = 1074 from rfl]
theorem tf_sub {t : Nat} (h0 : 0 < t) (ht : t < 4503599627370496) : (FP.d2l (FP.ddiv (tf_N 0 t) 1)).toInt = t ∧ vf_n64 (FP.ddiv (tf_N 0 t) 1) := by
  have hx : FP.Core.b64.exps = 2048 := by decide
  have htl : FP.Core.b64.tails = 4503599627370496 := by decide
  have hn : (tf_N 0 t).toNat = FP.Core.assemble FP.Core.b64 false 0 t := by
    rw [tf_Nn (by omega) ht]
    unfold FP.Core.assemble
    rw [htl]
    simp
  have hv : FP.Core.val64 (tf_N 0 t) = .fin false t (-1074) := by
    unfold FP.Core.val64
    rw [hn, FP.Core.decode_assemble _ _ _ _ (by rw [hx]; omega) (by rw [htl]; exact ht), if_neg (by rw [hx]; omega), if_pos rfl, FP.Core.qmin_b64]
  have h1 : FP.Core.val64 1 = .fin false 1 (-1074) := by decide +kernel
  have hl1 : 2 ^ t.log2 ≤ t := (Nat.le_log2 (by omega)).mp (Nat.le_refl _)
  have hl2 : t < 2 ^ (t.log2 + 1) := (Nat.log2_lt (by omega)).mp (Nat.lt_succ_self _)
  have hL : t.log2 < 52 := (Nat.log2_lt (by omega)).mpr (by omega)
  obtain ⟨L, hLe⟩ : ∃ L, L = t.log2 := ⟨_, rfl⟩
  rw [← hLe] at hl1 hl2 hL
  have hp : 2 ^ L * 2 ^ (52 - L) = 4503599627370496 := by
    rw [← Nat.pow_add, show L + (52 - L) = 52 from by omega]
  have hp2 : 2 ^ (L + 1) * 2 ^ (52 - L) = 9007199254740992 := by
    rw [← Nat.pow_add, show L + 1 + (52 - L) = 53 from by omega]
  have hpos : 0 < 2 ^ (52 - L) := Nat.two_pow_pos _
  have g1 : 4503599627370496 ≤ t * 2 ^ (52 - L) := by rw [← hp]; exact Nat.mul_le_mul_right _ hl1
  have g2 : t * 2 ^ (52 - L) < 9007199254740992 := by rw [← hp2]; exact Nat.mul_lt_mul_of_pos_right hl2 hpos
  have e2 : FP.Core.val64 (FP.ddiv (tf_N 0 t) 1) = .fin false (t * 2 ^ (52 - L)) ((L : Int) - 52) := by
    rw [show FP.ddiv (tf_N 0 t) 1 = FP.Core.ddiv (tf_N 0 t) 1 from rfl, FP.Core.val64_ddiv, hv, h1]
    rw [tf_quot (by decide)]
    refine FP.Core.roundRatio_exact FP.Core.good_b64 (by decide) ⟨by show _ < 9007199254740992; exact g2, by rw [FP.Core.qmin_b64]; omega, by show _ ≤ (971 : Int); omega, Or.inr (by rw [htl]; exact g1)⟩ ?_
    have a1 : ((-1074 : Int) - (-1074) - ((L : Int) - 52)).toNat = 52 - L := by omega
    have a2 : (((L : Int) - 52) - ((-1074 : Int) - (-1074))).toNat = 0 := by omega
    rw [a1, a2]
    simp
  refine ⟨tf_d2l e2 (by omega) ?_ (by omega), ?_⟩
  · have a3 : ((L : Int) - 52 + 1074).toNat = L + 1022 := by omega
    rw [a3, Nat.mul_assoc, ← Nat.pow_add, show 52 - L + (L + 1022) = 1074 from by omega]
  · rw [tf_n64, FP.Core.notNaN_iff, e2]; simp
theorem tf_toI {n : Nat} (h : n < 9223372036854775808) : (UInt64.ofNat n).toInt64.toInt = n := by
  have h1 : (UInt64.ofNat n).toNat = n := UInt64.toNat_ofNat_of_lt' (by show _ < 18446744073709551616; omega)
  have h2 : (UInt64.ofNat n).toInt64.toBitVec.toNat = n := h1
  show (UInt64.ofNat n).toInt64.toBitVec.toInt = n
  rw [BitVec.toInt_eq_toNat_of_lt (by rw [h2]; omega), h2]
theorem tf_lNI {n : Nat} (h : n < 9223372036854775808) : (lN n).toInt = n := pk_lT h
/-- the positive normal double's bits put together -/
theorem tf_put {e t : Nat} (h2 : e ≤ 2046) (ht : t < 4503599627370496) : ((nI e).toInt64 <<< ((52 : Int32).toInt64 &&& 63)) + lN t = (tf_N e t).toInt64 := by
  rw [nI_l (by omega)]
  have hs : lN e <<< ((52 : Int32).toInt64 &&& 63) = lN (e * 4503599627370496) := by
    have hk : ((52 : Int32).toInt64 &&& 63) = (52 : Int64) := by decide
    rw [hk]
    apply Int64.toBitVec_inj.mp
    apply BitVec.eq_of_toNat_eq
    have hb : (lN e <<< (52 : Int64)).toBitVec = (lN e).toBitVec <<< 52 := by
      rw [Int64.toBitVec_shiftLeft]; rfl
    have hc : (lN e).toBitVec.toNat = e := by
      show (BitVec.ofNat 64 e).toNat = e
      rw [BitVec.toNat_ofNat]; omega
    have hd : (lN (e * 4503599627370496)).toBitVec.toNat = e * 4503599627370496 := by
      show (BitVec.ofNat 64 (e * 4503599627370496)).toNat = _
      rw [BitVec.toNat_ofNat]; omega
    rw [hb, hd, BitVec.toNat_shiftLeft, hc, Nat.shiftLeft_eq]
    omega
  rw [hs, lN_add]
  apply Int64.toInt_inj.mp
  unfold tf_N
  rw [tf_toI (by omega), tf_lNI (by omega)]
theorem tf_of_bits {x : UInt64} (h : x.toNat < 9218868437227405312) : ∃ e t, e ≤ 2046 ∧ t < 4503599627370496 ∧ x = tf_N e t := by
  refine ⟨x.toNat / 4503599627370496, x.toNat % 4503599627370496, by omega, Nat.mod_lt _ (by decide), ?_⟩
  unfold tf_N
  rw [Nat.div_add_mod']
  exact UInt64.toNat_inj.mp (UInt64.toNat_ofNat_of_lt' x.toNat_lt).symm
/-- comparisons of positive doubles are comparisons of their bits -/
theorem tf_cmp_lt {a b : UInt64} (ha : a.toNat ≤ 9218868437227405312) (hb : b.toNat ≤ 9218868437227405312) : (FP.dcmp a b = some .lt ↔ a.toNat < b.toNat) ∧ FP.dcmp a b ≠ none := by
  have na : FP.Core.val64 a ≠ .nan := by rw [FP.Core.ne_nan]; omega
  have nb : FP.Core.val64 b ≠ .nan := by rw [FP.Core.ne_nan]; omega
  refine ⟨(FP.Core.mono_bits na nb (by omega) (by omega)).1, ?_⟩
  rw [show FP.dcmp a b = FP.Core.dcmp a b from rfl, FP.Core.dcmp_key na nb]
  simp
theorem tf_cl (o : Option Ordering) : Op.cmpValue o .l < 0 ↔ o = some .lt ∨ o = none := by
  rcases o with _ | (_ | _ | _) <;> decide
theorem tf_cl0 (o : Option Ordering) : Op.cmpValue o .l = 0 ↔ o = some .eq := by
  rcases o with _ | (_ | _ | _) <;> decide
theorem tf_clgt (o : Option Ordering) : 0 < Op.cmpValue o .l ↔ o = some .gt := by
  rcases o with _ | (_ | _ | _) <;> decide
theorem tf_cg (o : Option Ordering) : 0 ≤ Op.cmpValue o .g ↔ o ≠ some .lt := by
  rcases o with _ | (_ | _ | _) <;> decide
theorem tf_i2d (x : Int32) : FP.Core.dIsNaN (FP.i2d x) = false := (FP.Core.i2d_fin x).notNaN
theorem tf_l2d (x : Int64) : FP.Core.dIsNaN (FP.l2d x) = false := (FP.Core.l2d_fin x).notNaN
theorem tf_i2f (x : Int32) : FP.Core.fIsNaN (FP.i2f x) = false := (FP.Core.i2f_fin x).notNaN
theorem tf_l2f (x : Int64) : FP.Core.fIsNaN (FP.l2f x) = false := (FP.Core.l2f_fin x).notNaN
theorem tf_f2d {x : UInt32} (h : FP.Core.fIsNaN x = false) : FP.Core.dIsNaN (FP.f2d x) = false := (FP.f2d_nan x).trans h
theorem tf_d2f {x : UInt64} (h : FP.Core.dIsNaN x = false) : FP.Core.fIsNaN (FP.d2f x) = false := (FP.d2f_nan x).trans h
theorem tf_fmul (x : Int32) : FP.Core.fIsNaN (FP.fmul (FP.i2f x) 1040187392) = false :=
  FP.Core.fmul_out (FP.Core.i2f_fin x) ((FP.Core.fin_bits32 _).mpr (by decide))
theorem tf_dmul (x : Int32) : FP.Core.dIsNaN (FP.dmul (FP.i2d x) 4593671619917905920) = false :=
  FP.Core.dmul_out (FP.Core.i2d_fin x) ((FP.Core.fin_bits _).mpr (by decide))
end
section
/-! PURE METHODS: what each answers, of its arguments alone -/
def tb (b : Bool) : Int32 := if b = true then 1 else 0
theorem tb_0 (b : Bool) : tb b = 0 ↔ b = false := by cases b <;> decide
theorem tb_t {b : Bool} (h : b = true) : tb b = 1 := by rw [h]; rfl
theorem tb_f {b : Bool} (h : b = false) : tb b = 0 := by rw [h]; rfl
theorem tb_n (b : Bool) : narrow .boolean (.int (tb b)) = .int (tb b) := by cases b <;> rfl
def kIs (k : Int32) : Bool := !decide (k < 0) && !decide (9 < k)
def kHas (k : Int32) : Bool := !decide (k < 1) && !decide (8 < k)
def kLen (k : Int32) : Bool := !decide (k < 0) && !decide (40 < k)
def kFl (k : Int32) : Bool := decide (k = 7) || decide (k = 8)
def kReal (k : Int32) : Bool := !decide (k < 7)
def kWid (a b : Int32) : Bool := if kHas a = false then false else if kHas b = false then false else if a = b then true else if a = 1 then false else if b = 3 then false else if a = 3 then !decide (b < 5) else decide (a < b)
def kPart (f m n : Int32) : Bool := !decide (f < 0) && !decide (m < 0) && !decide (n - m < f)
def kMade (v k : Int32) : Int64 := if k = 1 then (if v = 0 then 0 else 1) else if k = 2 then v.toInt8.toInt32.toInt64 else if k = 3 then (v.toUInt32 % 65536).toInt32.toInt64 else if k = 4 then v.toInt16.toInt32.toInt64 else v.toInt64
theorem tc_sw4 {x : Int32} (h1 : ¬ x = 1) (h2 : ¬ x = 2) (h3 : ¬ x = 3) (h4 : ¬ x = 4) : x.toInt < 1 ∨ 4 < x.toInt := by
  simp only [← Int32.toInt_inj] at h1 h2 h3 h4
  have e1 : (1 : Int32).toInt = 1 := rfl
  have e2 : (2 : Int32).toInt = 2 := rfl
  have e3 : (3 : Int32).toInt = 3 := rfl
  have e4 : (4 : Int32).toInt = 4 := rfl
  omega
theorem tc_sw8 {x : Int32} (h1 : ¬ x = 1) (h2 : ¬ x = 2) (h3 : ¬ x = 3) (h4 : ¬ x = 4) (h5 : ¬ x = 5) (h6 : ¬ x = 6) (h7 : ¬ x = 7) (h8 : ¬ x = 8) : x.toInt < 1 ∨ 8 < x.toInt := by
  simp only [← Int32.toInt_inj] at h1 h2 h3 h4 h5 h6 h7 h8
  have e1 : (1 : Int32).toInt = 1 := rfl
  have e2 : (2 : Int32).toInt = 2 := rfl
  have e3 : (3 : Int32).toInt = 3 := rfl
  have e4 : (4 : Int32).toInt = 4 := rfl
  have e5 : (5 : Int32).toInt = 5 := rfl
  have e6 : (6 : Int32).toInt = 6 := rfl
  have e7 : (7 : Int32).toInt = 7 := rfl
  have e8 : (8 : Int32).toInt = 8 := rfl
  omega
theorem kHas_iff (k : Int32) : kHas k = true ↔ 1 ≤ k.toInt ∧ k.toInt ≤ 8 := by
  have e1 : (1 : Int32).toInt = 1 := rfl
  have e8 : (8 : Int32).toInt = 8 := rfl
  simp only [kHas, Bool.and_eq_true, Bool.not_eq_true', decide_eq_false_iff_not, Int32.lt_iff_toInt_lt, e1, e8]
  omega
theorem kIs_iff (k : Int32) : kIs k = true ↔ 0 ≤ k.toInt ∧ k.toInt ≤ 9 := by
  have e1 : (0 : Int32).toInt = 0 := rfl
  have e8 : (9 : Int32).toInt = 9 := rfl
  simp only [kIs, Bool.and_eq_true, Bool.not_eq_true', decide_eq_false_iff_not, Int32.lt_iff_toInt_lt, e1, e8]
  omega
theorem kLen_iff (k : Int32) : kLen k = true ↔ 0 ≤ k.toInt ∧ k.toInt ≤ 40 := by
  have e1 : (0 : Int32).toInt = 0 := rfl
  have e8 : (40 : Int32).toInt = 40 := rfl
  simp only [kLen, Bool.and_eq_true, Bool.not_eq_true', decide_eq_false_iff_not, Int32.lt_iff_toInt_lt, e1, e8]
  omega
theorem kWid_e1 {a b : Int32} (h1 : kHas a = false) : kWid a b = false := by unfold kWid; rw [if_pos h1]
theorem kWid_e2 {a b : Int32} (h1 : kHas a = true) (h2 : kHas b = false) : kWid a b = false := by unfold kWid; rw [if_neg (by rw [h1]; decide), if_pos h2]
theorem kWid_e3 {a b : Int32} (h1 : kHas a = true) (h2 : kHas b = true) (h3 : a = b) : kWid a b = true := by unfold kWid; rw [if_neg (by rw [h1]; decide), if_neg (by rw [h2]; decide), if_pos h3]
theorem kWid_e4 {a b : Int32} (h1 : kHas a = true) (h2 : kHas b = true) (h3 : ¬ a = b) (h4 : a = 1) : kWid a b = false := by unfold kWid; rw [if_neg (by rw [h1]; decide), if_neg (by rw [h2]; decide), if_neg h3, if_pos h4]
theorem kWid_e5 {a b : Int32} (h1 : kHas a = true) (h2 : kHas b = true) (h3 : ¬ a = b) (h4 : ¬ a = 1) (h5 : b = 3) : kWid a b = false := by unfold kWid; rw [if_neg (by rw [h1]; decide), if_neg (by rw [h2]; decide), if_neg h3, if_neg h4, if_pos h5]
theorem kWid_e6 {a b : Int32} (h1 : kHas a = true) (h2 : kHas b = true) (h3 : ¬ a = b) (h4 : ¬ a = 1) (h5 : ¬ b = 3) (h6 : a = 3) : kWid a b = !decide (b < 5) := by unfold kWid; rw [if_neg (by rw [h1]; decide), if_neg (by rw [h2]; decide), if_neg h3, if_neg h4, if_neg h5, if_pos h6]
theorem kWid_e7 {a b : Int32} (h1 : kHas a = true) (h2 : kHas b = true) (h3 : ¬ a = b) (h4 : ¬ a = 1) (h5 : ¬ b = 3) (h6 : ¬ a = 3) : kWid a b = decide (a < b) := by unfold kWid; rw [if_neg (by rw [h1]; decide), if_neg (by rw [h2]; decide), if_neg h3, if_neg h4, if_neg h5, if_neg h6]
theorem kWid_b1 {a b : Int32} (h1 : kHas a = true) (h2 : kHas b = true) (h3 : ¬ a = b) (h4 : ¬ a = 1) (h5 : b = 1) : kWid a b = false := by
  subst h5
  by_cases h6 : a = 3
  · rw [kWid_e6 h1 h2 h3 h4 (by decide) h6]; decide
  · rw [kWid_e7 h1 h2 h3 h4 (by decide) h6]
    have g := (kHas_iff a).mp h1
    have e1 : (1 : Int32).toInt = 1 := rfl
    refine decide_eq_false ?_
    rw [Int32.lt_iff_toInt_lt, e1]
    omega
theorem tc_bf {b : Bool} {p : Prop} (h : b = true ↔ p) (hp : ¬ p) : b = false := by
  cases hb : b
  · rfl
  · exact absurd (h.mp hb) hp
theorem tb_1 (b : Bool) : ¬ tb b = 0 ↔ b = true := by cases b <;> decide
theorem tf_self {a : UInt64} (h : Op.cmpValue (FP.dcmp a a) .l = 0) : FP.Core.dIsNaN a = false := (FP.Core.dcmp_notNaN (a := a) (b := a) ((tf_cl0 _).mp h)).1
theorem tf_selfN {a : UInt64} (h : ¬ Op.cmpValue (FP.dcmp a a) .l = 0) : FP.Core.dIsNaN a = true := by
  cases hz : FP.Core.dIsNaN a
  · exact absurd ((tf_cl0 _).mpr (tf_dcmp_self a hz)) h
  · rfl
theorem tf_cyes {r : UInt64} (h : FP.Core.dIsNaN r = true) : tf_canon r = 9221120237041090560 := by unfold tf_canon; rw [if_pos h]
theorem tf_cno {r : UInt64} (h : FP.Core.dIsNaN r = false) : tf_canon r = r := by unfold tf_canon; rw [if_neg (by rw [h]; decide)]
section TCR
variable {p : Program} {l : Launch} {e : Env} {R : Room} {s : State} {m : MethodId} {args : Array Value} {below : List Frame} {meth : Method} {c : Code} {H : Heap} {locs : List Loc} {cells slots mc ms : Nat} {g : JFrame} {rest : List Value} {Qa : State → Outcome → State → Prop} {free : Addr → Prop}
theorem tc_CR (h : va_Run p l e R s m args below meth c H locs cells slots mc ms g rest Qa free) : CallRun p l e R s m args below meth c H locs cells slots mc ms g rest Qa free := fun T hT X => by
  obtain ⟨v, st₀, t, T', L, h0, X', hL, e1, -, hq, st⟩ := h T hT X
  exact ⟨v, st₀, t, T', L, h0, X', hL, e1, hq, st⟩
end TCR
set_option maxHeartbeats 4000000 in
set_option maxRecDepth 100000 in
theorem kX2_isKind (l : Launch) (k : Int32) : Met l yX2_isKind wsX2_isKind ({ frames := 0, cells := 0, slots := 0, locals := 0 }) (va_Pc [.int k] (fun _ => True)) (vp_Si (fun r => r = tb (kIs k))) 0 0 (fun _ => False) := by
  refine Met.ofW (cc := cX2_isKind) (maxL := 1) (ret := (some .boolean)) (by decide) rfl ?_
  intro p e s m args below meth c s₁ B hml hv
  obtain ⟨rfl, -⟩ := hv
  have hx := B.exec
  have hb := B.bytes
  have hr := B.returns
  have hts := atoms_spec (ws := wsX2_isKind) B.pre
  have hown : s.vm.findClass RX2 = some m.cls := findClass_of_methodNamed B.named
  have hlocks := B.notSynchronized
  have hl := lv_entry ([.int k]) (n := 1) (Nat.le_of_ble_eq_true rfl)
  rw [lg_entry_eq]
  generalize (lg_sl ([.int k]) ++ List.replicate (1 - (lg_sl ([.int k])).length) Slot.unset).toArray = ls at hl ⊢
  have hl : lv_has ls 1 [(0, .int k)] := hl
  refine lv_iload_n hx hb dX2_isKind_0 rfl (lv_at hl 0 rfl) ?_
  refine lv_if_lt (tgt := 14) hx hb dX2_isKind_1 (by decide) (fun c_1 => ?_) (fun c_1 => ?_)
  · refine lv_iconst (v := 0) hx hb dX2_isKind_14 (by decide) ?_
    exact W.zret (ty := .boolean) (v := 0) hx hb hr rfl (fun t9 ht9 hW9 => ⟨0, rfl, by simp [tb, kIs, c_1], ht9⟩) (fun q hq => absurd hq List.not_mem_nil) dX2_isKind_15
  · refine lv_iload_n hx hb dX2_isKind_4 rfl (lv_at hl 0 rfl) ?_
    refine lv_bipush (v := 9) hx hb dX2_isKind_5 (by decide) ?_
    refine lv_icmp_gt (tgt := 14) hx hb dX2_isKind_7 (by decide) (fun c_2 => ?_) (fun c_2 => ?_)
    · refine lv_iconst (v := 0) hx hb dX2_isKind_14 (by decide) ?_
      exact W.zret (ty := .boolean) (v := 0) hx hb hr rfl (fun t9 ht9 hW9 => ⟨0, rfl, by simp [tb, kIs, c_1, c_2], ht9⟩) (fun q hq => absurd hq List.not_mem_nil) dX2_isKind_15
    · refine lv_iconst (v := 1) hx hb dX2_isKind_10 (by decide) ?_
      refine lv_goto (tgt := 15) hx hb dX2_isKind_11 (by decide) ?_
      exact W.zret (ty := .boolean) (v := 1) hx hb hr rfl (fun t9 ht9 hW9 => ⟨1, rfl, by simp [tb, kIs, c_1, c_2], ht9⟩) (fun q hq => absurd hq List.not_mem_nil) dX2_isKind_15
set_option maxHeartbeats 4000000 in
set_option maxRecDepth 100000 in
theorem kX2_holdsCells (l : Launch) (k : Int32) : Met l yX2_holdsCells wsX2_holdsCells ({ frames := 0, cells := 0, slots := 0, locals := 0 }) (va_Pc [.int k] (fun _ => True)) (vp_Si (fun r => r = tb (kHas k))) 0 0 (fun _ => False) := by
  refine Met.ofW (cc := cX2_holdsCells) (maxL := 1) (ret := (some .boolean)) (by decide) rfl ?_
  intro p e s m args below meth c s₁ B hml hv
  obtain ⟨rfl, -⟩ := hv
  have hx := B.exec
  have hb := B.bytes
  have hr := B.returns
  have hts := atoms_spec (ws := wsX2_holdsCells) B.pre
  have hown : s.vm.findClass RX2 = some m.cls := findClass_of_methodNamed B.named
  have hlocks := B.notSynchronized
  have hl := lv_entry ([.int k]) (n := 1) (Nat.le_of_ble_eq_true rfl)
  rw [lg_entry_eq]
  generalize (lg_sl ([.int k]) ++ List.replicate (1 - (lg_sl ([.int k])).length) Slot.unset).toArray = ls at hl ⊢
  have hl : lv_has ls 1 [(0, .int k)] := hl
  refine lv_iload_n hx hb dX2_holdsCells_0 rfl (lv_at hl 0 rfl) ?_
  refine lv_iconst (v := 1) hx hb dX2_holdsCells_1 (by decide) ?_
  refine lv_icmp_lt (tgt := 15) hx hb dX2_holdsCells_2 (by decide) (fun c_1 => ?_) (fun c_1 => ?_)
  · refine lv_iconst (v := 0) hx hb dX2_holdsCells_15 (by decide) ?_
    exact W.zret (ty := .boolean) (v := 0) hx hb hr rfl (fun t9 ht9 hW9 => ⟨0, rfl, by simp [tb, kHas, c_1], ht9⟩) (fun q hq => absurd hq List.not_mem_nil) dX2_holdsCells_16
  · refine lv_iload_n hx hb dX2_holdsCells_5 rfl (lv_at hl 0 rfl) ?_
    refine lv_bipush (v := 8) hx hb dX2_holdsCells_6 (by decide) ?_
    refine lv_icmp_gt (tgt := 15) hx hb dX2_holdsCells_8 (by decide) (fun c_2 => ?_) (fun c_2 => ?_)
    · refine lv_iconst (v := 0) hx hb dX2_holdsCells_15 (by decide) ?_
      exact W.zret (ty := .boolean) (v := 0) hx hb hr rfl (fun t9 ht9 hW9 => ⟨0, rfl, by simp [tb, kHas, c_1, c_2], ht9⟩) (fun q hq => absurd hq List.not_mem_nil) dX2_holdsCells_16
    · refine lv_iconst (v := 1) hx hb dX2_holdsCells_11 (by decide) ?_
      refine lv_goto (tgt := 16) hx hb dX2_holdsCells_12 (by decide) ?_
      exact W.zret (ty := .boolean) (v := 1) hx hb hr rfl (fun t9 ht9 hW9 => ⟨1, rfl, by simp [tb, kHas, c_1, c_2], ht9⟩) (fun q hq => absurd hq List.not_mem_nil) dX2_holdsCells_16
set_option maxHeartbeats 4000000 in
set_option maxRecDepth 100000 in
theorem kX2_isLength (l : Launch) (k : Int32) : Met l yX2_isLength wsX2_isLength ({ frames := 0, cells := 0, slots := 0, locals := 0 }) (va_Pc [.int k] (fun _ => True)) (vp_Si (fun r => r = tb (kLen k))) 0 0 (fun _ => False) := by
  refine Met.ofW (cc := cX2_isLength) (maxL := 1) (ret := (some .boolean)) (by decide) rfl ?_
  intro p e s m args below meth c s₁ B hml hv
  obtain ⟨rfl, -⟩ := hv
  have hx := B.exec
  have hb := B.bytes
  have hr := B.returns
  have hts := atoms_spec (ws := wsX2_isLength) B.pre
  have hown : s.vm.findClass RX2 = some m.cls := findClass_of_methodNamed B.named
  have hlocks := B.notSynchronized
  have hl := lv_entry ([.int k]) (n := 1) (Nat.le_of_ble_eq_true rfl)
  rw [lg_entry_eq]
  generalize (lg_sl ([.int k]) ++ List.replicate (1 - (lg_sl ([.int k])).length) Slot.unset).toArray = ls at hl ⊢
  have hl : lv_has ls 1 [(0, .int k)] := hl
  refine lv_iload_n hx hb dX2_isLength_0 rfl (lv_at hl 0 rfl) ?_
  refine lv_if_lt (tgt := 14) hx hb dX2_isLength_1 (by decide) (fun c_1 => ?_) (fun c_1 => ?_)
  · refine lv_iconst (v := 0) hx hb dX2_isLength_14 (by decide) ?_
    exact W.zret (ty := .boolean) (v := 0) hx hb hr rfl (fun t9 ht9 hW9 => ⟨0, rfl, by simp [tb, kLen, c_1], ht9⟩) (fun q hq => absurd hq List.not_mem_nil) dX2_isLength_15
  · refine lv_iload_n hx hb dX2_isLength_4 rfl (lv_at hl 0 rfl) ?_
    refine lv_bipush (v := 40) hx hb dX2_isLength_5 (by decide) ?_
    refine lv_icmp_gt (tgt := 14) hx hb dX2_isLength_7 (by decide) (fun c_2 => ?_) (fun c_2 => ?_)
    · refine lv_iconst (v := 0) hx hb dX2_isLength_14 (by decide) ?_
      exact W.zret (ty := .boolean) (v := 0) hx hb hr rfl (fun t9 ht9 hW9 => ⟨0, rfl, by simp [tb, kLen, c_1, c_2], ht9⟩) (fun q hq => absurd hq List.not_mem_nil) dX2_isLength_15
    · refine lv_iconst (v := 1) hx hb dX2_isLength_10 (by decide) ?_
      refine lv_goto (tgt := 15) hx hb dX2_isLength_11 (by decide) ?_
      exact W.zret (ty := .boolean) (v := 1) hx hb hr rfl (fun t9 ht9 hW9 => ⟨1, rfl, by simp [tb, kLen, c_1, c_2], ht9⟩) (fun q hq => absurd hq List.not_mem_nil) dX2_isLength_15
set_option maxHeartbeats 4000000 in
set_option maxRecDepth 100000 in
theorem kX2_isFloating (l : Launch) (k : Int32) : Met l yX2_isFloating wsX2_isFloating ({ frames := 0, cells := 0, slots := 0, locals := 0 }) (va_Pc [.int k] (fun _ => True)) (vp_Si (fun r => r = tb (kFl k))) 0 0 (fun _ => False) := by
  refine Met.ofW (cc := cX2_isFloating) (maxL := 1) (ret := (some .boolean)) (by decide) rfl ?_
  intro p e s m args below meth c s₁ B hml hv
  obtain ⟨rfl, -⟩ := hv
  have hx := B.exec
  have hb := B.bytes
  have hr := B.returns
  have hts := atoms_spec (ws := wsX2_isFloating) B.pre
  have hown : s.vm.findClass RX2 = some m.cls := findClass_of_methodNamed B.named
  have hlocks := B.notSynchronized
  have hl := lv_entry ([.int k]) (n := 1) (Nat.le_of_ble_eq_true rfl)
  rw [lg_entry_eq]
  generalize (lg_sl ([.int k]) ++ List.replicate (1 - (lg_sl ([.int k])).length) Slot.unset).toArray = ls at hl ⊢
  have hl : lv_has ls 1 [(0, .int k)] := hl
  refine lv_iload_n hx hb dX2_isFloating_0 rfl (lv_at hl 0 rfl) ?_
  refine lv_bipush (v := 7) hx hb dX2_isFloating_1 (by decide) ?_
  refine lv_icmp_eq (tgt := 12) hx hb dX2_isFloating_3 (by decide) (fun c_1 => ?_) (fun c_1 => ?_)
  · refine lv_iconst (v := 1) hx hb dX2_isFloating_12 (by decide) ?_
    refine lv_goto (tgt := 17) hx hb dX2_isFloating_13 (by decide) ?_
    exact W.zret (ty := .boolean) (v := 1) hx hb hr rfl (fun t9 ht9 hW9 => ⟨1, rfl, by simp [tb, kFl, c_1], ht9⟩) (fun q hq => absurd hq List.not_mem_nil) dX2_isFloating_17
  · refine lv_iload_n hx hb dX2_isFloating_6 rfl (lv_at hl 0 rfl) ?_
    refine lv_bipush (v := 8) hx hb dX2_isFloating_7 (by decide) ?_
    refine lv_icmp_ne (tgt := 16) hx hb dX2_isFloating_9 (by decide) (fun c_2 => ?_) (fun c_2 => ?_)
    · refine lv_iconst (v := 0) hx hb dX2_isFloating_16 (by decide) ?_
      exact W.zret (ty := .boolean) (v := 0) hx hb hr rfl (fun t9 ht9 hW9 => ⟨0, rfl, by simp [tb, kFl, c_1, c_2], ht9⟩) (fun q hq => absurd hq List.not_mem_nil) dX2_isFloating_17
    · refine lv_iconst (v := 1) hx hb dX2_isFloating_12 (by decide) ?_
      refine lv_goto (tgt := 17) hx hb dX2_isFloating_13 (by decide) ?_
      exact W.zret (ty := .boolean) (v := 1) hx hb hr rfl (fun t9 ht9 hW9 => ⟨1, rfl, by simp [tb, kFl, c_1, c_2], ht9⟩) (fun q hq => absurd hq List.not_mem_nil) dX2_isFloating_17
set_option maxHeartbeats 4000000 in
set_option maxRecDepth 100000 in
theorem kX2_widens (l : Launch) (a : Int32) (b : Int32) : Met l yX2_widens wsX2_widens ({ frames := 1, cells := 0, slots := 0, locals := 20 }) (va_Pc [.int a, .int b] (fun _ => True)) (vp_Si (fun r => r = tb (kWid a b))) 0 0 (fun _ => False) := by
  refine Met.ofW (cc := cX2_widens) (maxL := 2) (ret := (some .boolean)) (by decide) rfl ?_
  intro p e s m args below meth c s₁ B hml hv
  obtain ⟨rfl, -⟩ := hv
  have hx := B.exec
  have hb := B.bytes
  have hr := B.returns
  have hts := atoms_spec (ws := wsX2_widens) B.pre
  have hown : s.vm.findClass RX2 = some m.cls := findClass_of_methodNamed B.named
  have hlocks := B.notSynchronized
  have hl := lv_entry ([.int a, .int b]) (n := 2) (Nat.le_of_ble_eq_true rfl)
  rw [lg_entry_eq]
  generalize (lg_sl ([.int a, .int b]) ++ List.replicate (2 - (lg_sl ([.int a, .int b])).length) Slot.unset).toArray = ls at hl ⊢
  have hl : lv_has ls 2 [(0, .int a), (1, .int b)] := hl
  refine lv_iload_n hx hb dX2_widens_0 rfl (lv_at hl 0 rfl) ?_
  refine vp_callSi (W.runS (As := [.int a]) (rest := []) ⟨hx, hb, hml, hown, hts⟩ (kX2_holdsCells l a) (va_cwS 1 hts gX2_widens_X2_holdsCells rfl rfl rfl (by decide +kernel) ⟨Nat.le_of_ble_eq_true rfl, Nat.le_of_ble_eq_true rfl⟩) ⟨fun a U g mk q => q, fun U hU hW => ⟨rfl, trivial⟩⟩ rfl rfl hl.1 rfl (lv_room (Nat.le_of_ble_eq_true rfl)) dX2_widens_1 ⟨Nat.zero_le _, Nat.zero_le _⟩) (fun r_1 hr_1 => ?_)
  subst hr_1
  refine lv_if_eq (tgt := 14) hx hb dX2_widens_4 (by decide) (fun c_2 => ?_) (fun c_2 => ?_)
  · refine lv_iconst (v := 0) hx hb dX2_widens_14 (by decide) ?_
    exact W.zret (ty := .boolean) (v := 0) hx hb hr rfl (fun t9 ht9 hW9 => ⟨0, rfl, (tb_f (kWid_e1 ((tb_0 _).mp c_2))).symm, ht9⟩) (fun q hq => absurd hq List.not_mem_nil) dX2_widens_15
  · refine lv_iload_n hx hb dX2_widens_7 rfl (lv_at hl 1 rfl) ?_
    refine vp_callSi (W.runS (As := [.int b]) (rest := []) ⟨hx, hb, hml, hown, hts⟩ (kX2_holdsCells l b) (va_cwS 1 hts gX2_widens_X2_holdsCells rfl rfl rfl (by decide +kernel) ⟨Nat.le_of_ble_eq_true rfl, Nat.le_of_ble_eq_true rfl⟩) ⟨fun a U g mk q => q, fun U hU hW => ⟨rfl, trivial⟩⟩ rfl rfl hl.1 rfl (lv_room (Nat.le_of_ble_eq_true rfl)) dX2_widens_8 ⟨Nat.zero_le _, Nat.zero_le _⟩) (fun r_3 hr_3 => ?_)
    subst hr_3
    refine lv_if_ne (tgt := 16) hx hb dX2_widens_11 (by decide) (fun c_4 => ?_) (fun c_4 => ?_)
    · refine lv_iload_n hx hb dX2_widens_16 rfl (lv_at hl 0 rfl) ?_
      refine lv_iload_n hx hb dX2_widens_17 rfl (lv_at hl 1 rfl) ?_
      refine lv_icmp_ne (tgt := 23) hx hb dX2_widens_18 (by decide) (fun c_5 => ?_) (fun c_5 => ?_)
      · refine lv_iload_n hx hb dX2_widens_23 rfl (lv_at hl 0 rfl) ?_
        refine lv_iconst (v := 1) hx hb dX2_widens_24 (by decide) ?_
        refine lv_icmp_eq (tgt := 33) hx hb dX2_widens_25 (by decide) (fun c_6 => ?_) (fun c_6 => ?_)
        · refine lv_iconst (v := 0) hx hb dX2_widens_33 (by decide) ?_
          exact W.zret (ty := .boolean) (v := 0) hx hb hr rfl (fun t9 ht9 hW9 => ⟨0, rfl, (tb_f (kWid_e4 ((tb_1 _).mp c_2) ((tb_1 _).mp c_4) c_5 c_6)).symm, ht9⟩) (fun q hq => absurd hq List.not_mem_nil) dX2_widens_34
        · refine lv_iload_n hx hb dX2_widens_28 rfl (lv_at hl 1 rfl) ?_
          refine lv_iconst (v := 3) hx hb dX2_widens_29 (by decide) ?_
          refine lv_icmp_ne (tgt := 35) hx hb dX2_widens_30 (by decide) (fun c_7 => ?_) (fun c_7 => ?_)
          · refine lv_iload_n hx hb dX2_widens_35 rfl (lv_at hl 0 rfl) ?_
            refine lv_iconst (v := 3) hx hb dX2_widens_36 (by decide) ?_
            refine lv_icmp_ne (tgt := 53) hx hb dX2_widens_37 (by decide) (fun c_8 => ?_) (fun c_8 => ?_)
            · refine lv_iload_n hx hb dX2_widens_53 rfl (lv_at hl 0 rfl) ?_
              refine lv_iload_n hx hb dX2_widens_54 rfl (lv_at hl 1 rfl) ?_
              refine lv_icmp_ge (tgt := 62) hx hb dX2_widens_55 (by decide) (fun c_9 => ?_) (fun c_9 => ?_)
              · refine lv_iconst (v := 0) hx hb dX2_widens_62 (by decide) ?_
                exact W.zret (ty := .boolean) (v := 0) hx hb hr rfl (fun t9 ht9 hW9 => ⟨0, rfl, (tb_f ((kWid_e7 ((tb_1 _).mp c_2) ((tb_1 _).mp c_4) c_5 c_6 c_7 c_8).trans (decide_eq_false (Int32.not_lt.mpr c_9)))).symm, ht9⟩) (fun q hq => absurd hq List.not_mem_nil) dX2_widens_63
              · refine lv_iconst (v := 1) hx hb dX2_widens_58 (by decide) ?_
                refine lv_goto (tgt := 63) hx hb dX2_widens_59 (by decide) ?_
                exact W.zret (ty := .boolean) (v := 1) hx hb hr rfl (fun t9 ht9 hW9 => ⟨1, rfl, (tb_t ((kWid_e7 ((tb_1 _).mp c_2) ((tb_1 _).mp c_4) c_5 c_6 c_7 c_8).trans (decide_eq_true (Int32.not_le.mp c_9)))).symm, ht9⟩) (fun q hq => absurd hq List.not_mem_nil) dX2_widens_63
            · refine lv_iload_n hx hb dX2_widens_40 rfl (lv_at hl 1 rfl) ?_
              refine lv_iconst (v := 5) hx hb dX2_widens_41 (by decide) ?_
              refine lv_icmp_lt (tgt := 49) hx hb dX2_widens_42 (by decide) (fun c_10 => ?_) (fun c_10 => ?_)
              · refine lv_iconst (v := 0) hx hb dX2_widens_49 (by decide) ?_
                refine lv_goto (tgt := 63) hx hb dX2_widens_50 (by decide) ?_
                exact W.zret (ty := .boolean) (v := 0) hx hb hr rfl (fun t9 ht9 hW9 => ⟨0, rfl, (tb_f ((kWid_e6 ((tb_1 _).mp c_2) ((tb_1 _).mp c_4) c_5 c_6 c_7 c_8).trans (by rw [decide_eq_true (c_10)]; rfl))).symm, ht9⟩) (fun q hq => absurd hq List.not_mem_nil) dX2_widens_63
              · refine lv_iconst (v := 1) hx hb dX2_widens_45 (by decide) ?_
                refine lv_goto (tgt := 63) hx hb dX2_widens_46 (by decide) ?_
                exact W.zret (ty := .boolean) (v := 1) hx hb hr rfl (fun t9 ht9 hW9 => ⟨1, rfl, (tb_t ((kWid_e6 ((tb_1 _).mp c_2) ((tb_1 _).mp c_4) c_5 c_6 c_7 c_8).trans (by rw [decide_eq_false (c_10)]; rfl))).symm, ht9⟩) (fun q hq => absurd hq List.not_mem_nil) dX2_widens_63
          · refine lv_iconst (v := 0) hx hb dX2_widens_33 (by decide) ?_
            exact W.zret (ty := .boolean) (v := 0) hx hb hr rfl (fun t9 ht9 hW9 => ⟨0, rfl, (tb_f (kWid_e5 ((tb_1 _).mp c_2) ((tb_1 _).mp c_4) c_5 c_6 c_7)).symm, ht9⟩) (fun q hq => absurd hq List.not_mem_nil) dX2_widens_34
      · refine lv_iconst (v := 1) hx hb dX2_widens_21 (by decide) ?_
        exact W.zret (ty := .boolean) (v := 1) hx hb hr rfl (fun t9 ht9 hW9 => ⟨1, rfl, (tb_t (kWid_e3 ((tb_1 _).mp c_2) ((tb_1 _).mp c_4) c_5)).symm, ht9⟩) (fun q hq => absurd hq List.not_mem_nil) dX2_widens_22
    · refine lv_iconst (v := 0) hx hb dX2_widens_14 (by decide) ?_
      exact W.zret (ty := .boolean) (v := 0) hx hb hr rfl (fun t9 ht9 hW9 => ⟨0, rfl, (tb_f (kWid_e2 ((tb_1 _).mp c_2) ((tb_0 _).mp c_4))).symm, ht9⟩) (fun q hq => absurd hq List.not_mem_nil) dX2_widens_15
set_option maxHeartbeats 4000000 in
set_option maxRecDepth 100000 in
theorem kX2_isPart (l : Launch) (f : Int32) (mm : Int32) (n : Int32) : Met l yX2_isPart wsX2_isPart ({ frames := 0, cells := 0, slots := 0, locals := 0 }) (va_Pc [.int f, .int mm, .int n] (fun _ => True)) (vp_Si (fun r => r = tb (kPart f mm n))) 0 0 (fun _ => False) := by
  refine Met.ofW (cc := cX2_isPart) (maxL := 3) (ret := (some .boolean)) (by decide) rfl ?_
  intro p e s m args below meth c s₁ B hml hv
  obtain ⟨rfl, -⟩ := hv
  have hx := B.exec
  have hb := B.bytes
  have hr := B.returns
  have hts := atoms_spec (ws := wsX2_isPart) B.pre
  have hown : s.vm.findClass RX2 = some m.cls := findClass_of_methodNamed B.named
  have hlocks := B.notSynchronized
  have hl := lv_entry ([.int f, .int mm, .int n]) (n := 3) (Nat.le_of_ble_eq_true rfl)
  rw [lg_entry_eq]
  generalize (lg_sl ([.int f, .int mm, .int n]) ++ List.replicate (3 - (lg_sl ([.int f, .int mm, .int n])).length) Slot.unset).toArray = ls at hl ⊢
  have hl : lv_has ls 3 [(0, .int f), (1, .int mm), (2, .int n)] := hl
  refine lv_iload_n hx hb dX2_isPart_0 rfl (lv_at hl 0 rfl) ?_
  refine lv_if_lt (tgt := 19) hx hb dX2_isPart_1 (by decide) (fun c_1 => ?_) (fun c_1 => ?_)
  · refine lv_iconst (v := 0) hx hb dX2_isPart_19 (by decide) ?_
    exact W.zret (ty := .boolean) (v := 0) hx hb hr rfl (fun t9 ht9 hW9 => ⟨0, rfl, by simp [tb, kPart, c_1], ht9⟩) (fun q hq => absurd hq List.not_mem_nil) dX2_isPart_20
  · refine lv_iload_n hx hb dX2_isPart_4 rfl (lv_at hl 1 rfl) ?_
    refine lv_if_lt (tgt := 19) hx hb dX2_isPart_5 (by decide) (fun c_2 => ?_) (fun c_2 => ?_)
    · refine lv_iconst (v := 0) hx hb dX2_isPart_19 (by decide) ?_
      exact W.zret (ty := .boolean) (v := 0) hx hb hr rfl (fun t9 ht9 hW9 => ⟨0, rfl, by simp [tb, kPart, c_1, c_2], ht9⟩) (fun q hq => absurd hq List.not_mem_nil) dX2_isPart_20
    · refine lv_iload_n hx hb dX2_isPart_8 rfl (lv_at hl 0 rfl) ?_
      refine lv_iload_n hx hb dX2_isPart_9 rfl (lv_at hl 2 rfl) ?_
      refine lv_iload_n hx hb dX2_isPart_10 rfl (lv_at hl 1 rfl) ?_
      refine lv_isub hx hb dX2_isPart_11 ?_
      refine lv_icmp_gt (tgt := 19) hx hb dX2_isPart_12 (by decide) (fun c_3 => ?_) (fun c_3 => ?_)
      · refine lv_iconst (v := 0) hx hb dX2_isPart_19 (by decide) ?_
        exact W.zret (ty := .boolean) (v := 0) hx hb hr rfl (fun t9 ht9 hW9 => ⟨0, rfl, by simp [tb, kPart, c_1, c_2, c_3], ht9⟩) (fun q hq => absurd hq List.not_mem_nil) dX2_isPart_20
      · refine lv_iconst (v := 1) hx hb dX2_isPart_15 (by decide) ?_
        refine lv_goto (tgt := 20) hx hb dX2_isPart_16 (by decide) ?_
        exact W.zret (ty := .boolean) (v := 1) hx hb hr rfl (fun t9 ht9 hW9 => ⟨1, rfl, by simp [tb, kPart, c_1, c_2, c_3], ht9⟩) (fun q hq => absurd hq List.not_mem_nil) dX2_isPart_20
set_option maxHeartbeats 4000000 in
set_option maxRecDepth 100000 in
theorem kX2_wholeMadeFrom (l : Launch) (v : Int32) (k : Int32) : Met l yX2_wholeMadeFrom wsX2_wholeMadeFrom ({ frames := 0, cells := 0, slots := 0, locals := 0 }) (va_Pc [.int v, .int k] (fun _ => True)) (vp_Sl (fun r => r = kMade v k)) 0 0 (fun _ => False) := by
  refine Met.ofW (cc := cX2_wholeMadeFrom) (maxL := 2) (ret := (some .long)) (by decide) rfl ?_
  intro p e s m args below meth c s₁ B hml hv
  obtain ⟨rfl, -⟩ := hv
  have hx := B.exec
  have hb := B.bytes
  have hr := B.returns
  have hts := atoms_spec (ws := wsX2_wholeMadeFrom) B.pre
  have hown : s.vm.findClass RX2 = some m.cls := findClass_of_methodNamed B.named
  have hlocks := B.notSynchronized
  have hl := lv_entry ([.int v, .int k]) (n := 2) (Nat.le_of_ble_eq_true rfl)
  rw [lg_entry_eq]
  generalize (lg_sl ([.int v, .int k]) ++ List.replicate (2 - (lg_sl ([.int v, .int k])).length) Slot.unset).toArray = ls at hl ⊢
  have hl : lv_has ls 2 [(0, .int v), (1, .int k)] := hl
  refine lv_iload_n hx hb dX2_wholeMadeFrom_0 rfl (lv_at hl 1 rfl) ?_
  rcases Decidable.em (k = 1) with c_1 | c_1
  · refine lv_tableIn (tgt := 32) hx hb dX2_wholeMadeFrom_1 (by rw [c_1]; decide) (by rw [c_1]; decide) (by rw [c_1]; rfl) (by decide) ?_
    refine lv_iload_n hx hb dX2_wholeMadeFrom_32 rfl (lv_at hl 0 rfl) ?_
    refine lv_if_eq (tgt := 40) hx hb dX2_wholeMadeFrom_33 (by decide) (fun c_2 => ?_) (fun c_2 => ?_)
    · refine lv_lconst (v := 0) hx hb dX2_wholeMadeFrom_40 (by decide) ?_
      exact W.lret (v := 0) hx hb hr (fun t9 ht9 hW9 => ⟨0, rfl, by simp [kMade, c_1, c_2], ht9⟩) (fun q hq => absurd hq List.not_mem_nil) dX2_wholeMadeFrom_41
    · refine lv_lconst (v := 1) hx hb dX2_wholeMadeFrom_36 (by decide) ?_
      refine lv_goto (tgt := 41) hx hb dX2_wholeMadeFrom_37 (by decide) ?_
      exact W.lret (v := 1) hx hb hr (fun t9 ht9 hW9 => ⟨1, rfl, by simp [kMade, c_1, c_2], ht9⟩) (fun q hq => absurd hq List.not_mem_nil) dX2_wholeMadeFrom_41
  rcases Decidable.em (k = 2) with c_3 | c_3
  · refine lv_tableIn (tgt := 42) hx hb dX2_wholeMadeFrom_1 (by rw [c_3]; decide) (by rw [c_3]; decide) (by rw [c_3]; rfl) (by decide) ?_
    refine lv_iload_n hx hb dX2_wholeMadeFrom_42 rfl (lv_at hl 0 rfl) ?_
    refine lv_i2b (v := v.toInt8.toInt32) hx hb dX2_wholeMadeFrom_43 rfl ?_
    refine lv_i2l (v := v.toInt8.toInt32.toInt64) hx hb dX2_wholeMadeFrom_44 rfl ?_
    exact W.lret (v := v.toInt8.toInt32.toInt64) hx hb hr (fun t9 ht9 hW9 => ⟨v.toInt8.toInt32.toInt64, rfl, by simp [kMade, c_1, c_3], ht9⟩) (fun q hq => absurd hq List.not_mem_nil) dX2_wholeMadeFrom_45
  rcases Decidable.em (k = 3) with c_4 | c_4
  · refine lv_tableIn (tgt := 46) hx hb dX2_wholeMadeFrom_1 (by rw [c_4]; decide) (by rw [c_4]; decide) (by rw [c_4]; rfl) (by decide) ?_
    refine lv_iload_n hx hb dX2_wholeMadeFrom_46 rfl (lv_at hl 0 rfl) ?_
    refine lv_i2c (v := (v.toUInt32 % 65536).toInt32) hx hb dX2_wholeMadeFrom_47 rfl ?_
    refine lv_i2l (v := ((v.toUInt32 % 65536).toInt32).toInt64) hx hb dX2_wholeMadeFrom_48 rfl ?_
    exact W.lret (v := ((v.toUInt32 % 65536).toInt32).toInt64) hx hb hr (fun t9 ht9 hW9 => ⟨((v.toUInt32 % 65536).toInt32).toInt64, rfl, by simp [kMade, c_1, c_3, c_4], ht9⟩) (fun q hq => absurd hq List.not_mem_nil) dX2_wholeMadeFrom_49
  rcases Decidable.em (k = 4) with c_5 | c_5
  · refine lv_tableIn (tgt := 50) hx hb dX2_wholeMadeFrom_1 (by rw [c_5]; decide) (by rw [c_5]; decide) (by rw [c_5]; rfl) (by decide) ?_
    refine lv_iload_n hx hb dX2_wholeMadeFrom_50 rfl (lv_at hl 0 rfl) ?_
    refine lv_i2s (v := v.toInt16.toInt32) hx hb dX2_wholeMadeFrom_51 rfl ?_
    refine lv_i2l (v := v.toInt16.toInt32.toInt64) hx hb dX2_wholeMadeFrom_52 rfl ?_
    exact W.lret (v := v.toInt16.toInt32.toInt64) hx hb hr (fun t9 ht9 hW9 => ⟨v.toInt16.toInt32.toInt64, rfl, by simp [kMade, c_1, c_3, c_4, c_5], ht9⟩) (fun q hq => absurd hq List.not_mem_nil) dX2_wholeMadeFrom_53
  refine lv_tableOut (tgt := 54) hx hb dX2_wholeMadeFrom_1 (tc_sw4 c_1 c_3 c_4 c_5) (by decide) ?_
  refine lv_iload_n hx hb dX2_wholeMadeFrom_54 rfl (lv_at hl 0 rfl) ?_
  refine lv_i2l (v := v.toInt64) hx hb dX2_wholeMadeFrom_55 rfl ?_
  exact W.lret (v := v.toInt64) hx hb hr (fun t9 ht9 hW9 => ⟨v.toInt64, rfl, by simp [kMade, c_1, c_3, c_4, c_5], ht9⟩) (fun q hq => absurd hq List.not_mem_nil) dX2_wholeMadeFrom_56
set_option maxHeartbeats 4000000 in
set_option maxRecDepth 100000 in
theorem kX2_noNumber (l : Launch)  : Met l yX2_noNumber wsX2_noNumber ({ frames := 0, cells := 0, slots := 0, locals := 0 }) (va_Pc [] (fun _ => True)) (vp_Sd (fun r => r = (9221120237041090560 : UInt64))) 0 0 (fun _ => False) := by
  refine Met.ofW (cc := cX2_noNumber) (maxL := 0) (ret := (some .double)) (by decide) rfl ?_
  intro p e s m args below meth c s₁ B hml hv
  obtain ⟨rfl, -⟩ := hv
  have hx := B.exec
  have hb := B.bytes
  have hr := B.returns
  have hts := atoms_spec (ws := wsX2_noNumber) B.pre
  have hown : s.vm.findClass RX2 = some m.cls := findClass_of_methodNamed B.named
  have hlocks := B.notSynchronized
  have hl := lv_entry ([]) (n := 0) (Nat.le_of_ble_eq_true rfl)
  rw [lg_entry_eq]
  generalize (lg_sl ([]) ++ List.replicate (0 - (lg_sl ([])).length) Slot.unset).toArray = ls at hl ⊢
  have hl : lv_has ls 0 [] := hl
  refine lv_ldc2d (v := 9221120237041090560) hx hb hown (hts (.constantDouble RX2 182 (9221120237041090560)) (by decide +kernel)) dX2_noNumber_0 ?_
  exact W.dret (v := 9221120237041090560) hx hb hr (fun t9 ht9 hW9 => ⟨9221120237041090560, rfl, rfl, ht9⟩) (fun q hq => absurd hq List.not_mem_nil) dX2_noNumber_3
set_option maxHeartbeats 4000000 in
set_option maxRecDepth 100000 in
theorem kX2_isInfinite (l : Launch) (v : UInt64) (hn : FP.Core.dIsNaN v = false) : Met l yX2_isInfinite wsX2_isInfinite ({ frames := 0, cells := 0, slots := 0, locals := 0 }) (va_Pc [.double v] (fun _ => True)) (vp_Si (fun r => r = tb (tf_inf v))) 0 0 (fun _ => False) := by
  refine Met.ofW (cc := cX2_isInfinite) (maxL := 2) (ret := (some .boolean)) (by decide) rfl ?_
  intro p e s m args below meth c s₁ B hml hv
  obtain ⟨rfl, -⟩ := hv
  have hx := B.exec
  have hb := B.bytes
  have hr := B.returns
  have hts := atoms_spec (ws := wsX2_isInfinite) B.pre
  have hown : s.vm.findClass RX2 = some m.cls := findClass_of_methodNamed B.named
  have hlocks := B.notSynchronized
  have hl := lv_entry ([.double v]) (n := 2) (Nat.le_of_ble_eq_true rfl)
  rw [lg_entry_eq]
  generalize (lg_sl ([.double v]) ++ List.replicate (2 - (lg_sl ([.double v])).length) Slot.unset).toArray = ls at hl ⊢
  have hl : lv_has ls 2 [(0, .double v)] := hl
  refine lv_dload_n hx hb dX2_isInfinite_0 rfl (lv_at hl 0 rfl) ?_
  refine lv_ldc2d (v := 9218868437227405311) hx hb hown (hts (.constantDouble RX2 192 (9218868437227405311)) (by decide +kernel)) dX2_isInfinite_1 ?_
  refine lv_dcmp hx hb dX2_isInfinite_4 ?_
  refine lv_if_gt (tgt := 16) hx hb dX2_isInfinite_5 (by decide) (fun c_1 => ?_) (fun c_1 => ?_)
  · refine lv_iconst (v := 1) hx hb dX2_isInfinite_16 (by decide) ?_
    refine lv_goto (tgt := 21) hx hb dX2_isInfinite_17 (by decide) ?_
    exact W.zret (ty := .boolean) (v := 1) hx hb hr rfl (fun t9 ht9 hW9 => ⟨1, rfl, (tb_t ((tf_inf_or hn).mpr (Or.inl ((tf_clgt _).mp c_1)))).symm, ht9⟩) (fun q hq => absurd hq List.not_mem_nil) dX2_isInfinite_21
  · refine lv_dload_n hx hb dX2_isInfinite_8 rfl (lv_at hl 0 rfl) ?_
    refine lv_ldc2d (v := 18442240474082181119) hx hb hown (hts (.constantDouble RX2 194 (18442240474082181119)) (by decide +kernel)) dX2_isInfinite_9 ?_
    refine lv_dcmp hx hb dX2_isInfinite_12 ?_
    refine lv_if_ge (tgt := 20) hx hb dX2_isInfinite_13 (by decide) (fun c_2 => ?_) (fun c_2 => ?_)
    · refine lv_iconst (v := 0) hx hb dX2_isInfinite_20 (by decide) ?_
      exact W.zret (ty := .boolean) (v := 0) hx hb hr rfl (fun t9 ht9 hW9 => ⟨0, rfl, (tb_f (tc_bf (tf_inf_or hn) (fun q => q.elim (fun q => c_1 ((tf_clgt _).mpr q)) (fun q => ((tf_cg _).mp c_2) q)))).symm, ht9⟩) (fun q hq => absurd hq List.not_mem_nil) dX2_isInfinite_21
    · refine lv_iconst (v := 1) hx hb dX2_isInfinite_16 (by decide) ?_
      refine lv_goto (tgt := 21) hx hb dX2_isInfinite_17 (by decide) ?_
      exact W.zret (ty := .boolean) (v := 1) hx hb hr rfl (fun t9 ht9 hW9 => ⟨1, rfl, (tb_t ((tf_inf_or hn).mpr (Or.inr (Classical.byContradiction fun q => c_2 ((tf_cg _).mpr q))))).symm, ht9⟩) (fun q hq => absurd hq List.not_mem_nil) dX2_isInfinite_21
set_option maxHeartbeats 4000000 in
set_option maxRecDepth 100000 in
theorem kX2_sumOf (l : Launch) (a : UInt64) (b : UInt64) : Met l yX2_sumOf wsX2_sumOf ({ frames := 1, cells := 0, slots := 0, locals := 21 }) (va_Pc [.double a, .double b] (fun _ => True)) (vp_Sd (fun r => r = tf_canon (FP.dadd a b))) 0 0 (fun _ => False) := by
  refine Met.ofW (cc := cX2_sumOf) (maxL := 4) (ret := (some .double)) (by decide) rfl ?_
  intro p e s m args below meth c s₁ B hml hv
  obtain ⟨rfl, -⟩ := hv
  have hx := B.exec
  have hb := B.bytes
  have hr := B.returns
  have hts := atoms_spec (ws := wsX2_sumOf) B.pre
  have hown : s.vm.findClass RX2 = some m.cls := findClass_of_methodNamed B.named
  have hlocks := B.notSynchronized
  have hl := lv_entry ([.double a, .double b]) (n := 4) (Nat.le_of_ble_eq_true rfl)
  rw [lg_entry_eq]
  generalize (lg_sl ([.double a, .double b]) ++ List.replicate (4 - (lg_sl ([.double a, .double b])).length) Slot.unset).toArray = ls at hl ⊢
  have hl : lv_has ls 4 [(0, .double a), (2, .double b)] := hl
  refine lv_dload_n hx hb dX2_sumOf_0 rfl (lv_at hl 0 rfl) ?_
  refine lv_dload_n hx hb dX2_sumOf_1 rfl (lv_at hl 0 rfl) ?_
  refine lv_dcmp hx hb dX2_sumOf_2 ?_
  refine lv_if_ne (tgt := 26) hx hb dX2_sumOf_3 (by decide) (fun c_1 => ?_) (fun c_1 => ?_)
  · refine vp_callSd (W.runS (As := []) (rest := []) ⟨hx, hb, hml, hown, hts⟩ (kX2_noNumber l) (va_cwS 0 hts gX2_sumOf_X2_noNumber rfl rfl rfl (by decide +kernel) ⟨Nat.le_of_ble_eq_true rfl, Nat.le_of_ble_eq_true rfl⟩) ⟨fun a U g mk q => q, fun U hU hW => ⟨rfl, trivial⟩⟩ rfl rfl hl.1 rfl (lv_room (Nat.le_of_ble_eq_true rfl)) dX2_sumOf_26 ⟨Nat.zero_le _, Nat.zero_le _⟩) (fun r_2 hr_2 => ?_)
    subst hr_2
    exact W.dret (v := (9221120237041090560 : UInt64)) hx hb hr (fun t9 ht9 hW9 => ⟨(9221120237041090560 : UInt64), rfl, (tf_cyes ((FP.Core.dadd_nan_iff a b).mpr (Or.inl ((FP.Core.dIsNaN_iff a).mp (tf_selfN c_1))))).symm, ht9⟩) (fun q hq => absurd hq List.not_mem_nil) dX2_sumOf_29
  · refine lv_dload_n hx hb dX2_sumOf_6 rfl (lv_at hl 1 rfl) ?_
    refine lv_dload_n hx hb dX2_sumOf_7 rfl (lv_at hl 1 rfl) ?_
    refine lv_dcmp hx hb dX2_sumOf_8 ?_
    refine lv_if_ne (tgt := 26) hx hb dX2_sumOf_9 (by decide) (fun c_3 => ?_) (fun c_3 => ?_)
    · refine vp_callSd (W.runS (As := []) (rest := []) ⟨hx, hb, hml, hown, hts⟩ (kX2_noNumber l) (va_cwS 0 hts gX2_sumOf_X2_noNumber rfl rfl rfl (by decide +kernel) ⟨Nat.le_of_ble_eq_true rfl, Nat.le_of_ble_eq_true rfl⟩) ⟨fun a U g mk q => q, fun U hU hW => ⟨rfl, trivial⟩⟩ rfl rfl hl.1 rfl (lv_room (Nat.le_of_ble_eq_true rfl)) dX2_sumOf_26 ⟨Nat.zero_le _, Nat.zero_le _⟩) (fun r_4 hr_4 => ?_)
      subst hr_4
      exact W.dret (v := (9221120237041090560 : UInt64)) hx hb hr (fun t9 ht9 hW9 => ⟨(9221120237041090560 : UInt64), rfl, (tf_cyes ((FP.Core.dadd_nan_iff a b).mpr (Or.inr (Or.inl ((FP.Core.dIsNaN_iff b).mp (tf_selfN c_3)))))).symm, ht9⟩) (fun q hq => absurd hq List.not_mem_nil) dX2_sumOf_29
    · refine lv_dload_n hx hb dX2_sumOf_12 rfl (lv_at hl 0 rfl) ?_
      refine vp_callSi (W.runS (As := [.double a]) (rest := []) ⟨hx, hb, hml, hown, hts⟩ (kX2_isInfinite l a (tf_self c_1)) (va_cwS 1 hts gX2_sumOf_X2_isInfinite rfl rfl rfl (by decide +kernel) ⟨Nat.le_of_ble_eq_true rfl, Nat.le_of_ble_eq_true rfl⟩) ⟨fun a U g mk q => q, fun U hU hW => ⟨rfl, trivial⟩⟩ rfl rfl hl.1 rfl (lv_room (Nat.le_of_ble_eq_true rfl)) dX2_sumOf_13 ⟨Nat.zero_le _, Nat.zero_le _⟩) (fun r_5 hr_5 => ?_)
      subst hr_5
      refine lv_if_eq (tgt := 30) hx hb dX2_sumOf_16 (by decide) (fun c_6 => ?_) (fun c_6 => ?_)
      · refine lv_dload_n hx hb dX2_sumOf_30 rfl (lv_at hl 0 rfl) ?_
        refine lv_dload_n hx hb dX2_sumOf_31 rfl (lv_at hl 1 rfl) ?_
        refine lv_dadd hx hb dX2_sumOf_32 ((tf_n64 _).mpr (tc_bf (tf_sumc (tf_self c_1) (tf_self c_3)).symm (fun q => absurd q.1 (by rw [(tb_0 _).mp c_6]; decide)))) ?_
        exact W.dret (v := (FP.dadd a b)) hx hb hr (fun t9 ht9 hW9 => ⟨(FP.dadd a b), rfl, (tf_cno ((tc_bf (tf_sumc (tf_self c_1) (tf_self c_3)).symm (fun q => absurd q.1 (by rw [(tb_0 _).mp c_6]; decide))))).symm, ht9⟩) (fun q hq => absurd hq List.not_mem_nil) dX2_sumOf_33
      · refine lv_dload_n hx hb dX2_sumOf_19 rfl (lv_at hl 0 rfl) ?_
        refine lv_dload_n hx hb dX2_sumOf_20 rfl (lv_at hl 1 rfl) ?_
        refine lv_dneg hx hb dX2_sumOf_21 ?_
        refine lv_dcmp hx hb dX2_sumOf_22 ?_
        refine lv_if_ne (tgt := 30) hx hb dX2_sumOf_23 (by decide) (fun c_7 => ?_) (fun c_7 => ?_)
        · refine lv_dload_n hx hb dX2_sumOf_30 rfl (lv_at hl 0 rfl) ?_
          refine lv_dload_n hx hb dX2_sumOf_31 rfl (lv_at hl 1 rfl) ?_
          refine lv_dadd hx hb dX2_sumOf_32 ((tf_n64 _).mpr (tc_bf (tf_sumc (tf_self c_1) (tf_self c_3)).symm (fun q => c_7 ((tf_cl0 _).mpr q.2)))) ?_
          exact W.dret (v := (FP.dadd a b)) hx hb hr (fun t9 ht9 hW9 => ⟨(FP.dadd a b), rfl, (tf_cno ((tc_bf (tf_sumc (tf_self c_1) (tf_self c_3)).symm (fun q => c_7 ((tf_cl0 _).mpr q.2))))).symm, ht9⟩) (fun q hq => absurd hq List.not_mem_nil) dX2_sumOf_33
        · refine vp_callSd (W.runS (As := []) (rest := []) ⟨hx, hb, hml, hown, hts⟩ (kX2_noNumber l) (va_cwS 0 hts gX2_sumOf_X2_noNumber rfl rfl rfl (by decide +kernel) ⟨Nat.le_of_ble_eq_true rfl, Nat.le_of_ble_eq_true rfl⟩) ⟨fun a U g mk q => q, fun U hU hW => ⟨rfl, trivial⟩⟩ rfl rfl hl.1 rfl (lv_room (Nat.le_of_ble_eq_true rfl)) dX2_sumOf_26 ⟨Nat.zero_le _, Nat.zero_le _⟩) (fun r_8 hr_8 => ?_)
          subst hr_8
          exact W.dret (v := (9221120237041090560 : UInt64)) hx hb hr (fun t9 ht9 hW9 => ⟨(9221120237041090560 : UInt64), rfl, (tf_cyes ((tf_sumc (tf_self c_1) (tf_self c_3)).mp ⟨(tb_1 _).mp c_6, (tf_cl0 _).mp c_7⟩)).symm, ht9⟩) (fun q hq => absurd hq List.not_mem_nil) dX2_sumOf_29
end
section
/-! THE STATE: what the machine's surroundings hold, the worlds of the class and of the model -/
def tcIO : String := "java/lang/IndexOutOfBoundsException"
def tcIA : String := "java/lang/IllegalArgumentException"
def tcIS : String := "java/lang/IllegalStateException"
/-- what every method's surroundings hold: the nest's links (the texts that throws take, and the casts of their catching, aren't wanted here: no call of the law throws) -/
def tc_E (A : Nat → Prop) (U : State) : Prop :=
  (True ∧ True ∧ True) ∧ (A = A) ∧ True ∧
  (va_Nw (.methodLinkNest RX0 9 yX2_holdsCells RX2) U ∧ va_Nw (.methodLinkNest RX0 13 yX2_isLength RX2) U ∧ va_Nw (.methodLinkNest RX0 25 yX2_isFloating RX2) U ∧ True ∧ va_Nw (.methodLinkNest RX0 52 yX2_isPart RX2) U ∧ va_Nw (.methodLinkNest RX0 69 yX2_sumOf RX2) U ∧ True)
theorem tc_warmD {x : MethodName} {s U : State} (hW : s.WarmedH U.vm) (hZ : va_Nw (.declares x) s) : va_Nw (.declares x) U := va_tabs rfl (rfl : (s.setVm U.vm).vm = U.vm) (by rw [Cond.declares_setVm hW.alike]; exact hZ)
theorem tc_E.go {A : Nat → Prop} {s U : State} {H : Heap} {locs : List Loc} (h : tc_E A s) (_hS : va_S A s.heap H locs) (_hU : U.heap = H) (hW : s.WarmedH U.vm) : tc_E A U := by
  obtain ⟨-, -, -, d1, d2, d3, -, d5, d6, -⟩ := h
  exact ⟨⟨trivial, trivial, trivial⟩, rfl, trivial, va_Nw.warmM hW d1, va_Nw.warmM hW d2, va_Nw.warmM hW d3, trivial, va_Nw.warmM hW d5, va_Nw.warmM hW d6, trivial⟩
theorem tc_E.blind {A : Nat → Prop} {U : State} (h : tc_E A U) (g : JFrame) (mk : MethodId) (a : Array Value) : tc_E A (U.calling g mk a) := h.go (va_S.rf (A := A) (H0 := U.heap)) rfl (State.WarmedH.refl U)
theorem tc_E.drawn {A : Nat → Prop} {s : State} (h : tc_E A s) (d : Drawn) : tc_E A (s.setDrawn d) := h.go (va_S.rf (A := A) (H0 := s.heap)) rfl (State.WarmedH.refl s)
abbrev tcTY (cI cJ cD cC : ClassId) : List (ClassId × FieldType) := [(cI, .int), (cJ, .long), (cD, .double), (cC, .object RX0)]
/-- a method's start: the world ws, its classes, the surroundings -/
def tcP (D : va_G) (A : Nat → Prop) (tys : List (ClassId × FieldType)) (sz : Nat) (av : List Value) (ws : va_W) : Array Value → State → Prop := va_Pc av (fun U => U.heap.size = sz ∧ va_P D vwCl ws U.heap ∧ va_K D vwCl tys U ∧ va_D A ws ∧ tc_E A U)
def tcB (D : va_G) (A : Nat → Prop) (ws : va_W) (t : State) : Prop := va_P D vwCl ws t.heap ∧ va_D A ws
theorem tcP.blind {D : va_G} {A : Nat → Prop} {tys : List (ClassId × FieldType)} {sz : Nat} {av : List Value} {ws : va_W} : FrameBlind (tcP D A tys sz av ws) := fun a U g mk q => ⟨q.1, q.2.1, q.2.2.1, va_K.moved (u := U) (U := U.calling g mk a) (Vm.Alike.refl U.vm) q.2.2.2.1, q.2.2.2.2.1, q.2.2.2.2.2.blind g mk a⟩
theorem tcP.go {D : va_G} {A : Nat → Prop} {tys : List (ClassId × FieldType)} {av : List Value} {ws : va_W} {s : State} {H : Heap} {locs : List Loc} (hK : va_K D vwCl tys s) (hP : va_P D vwCl ws H) (hD : va_D A ws) (hE : tc_E A s) (hS : va_S A s.heap H locs) : ∀ U : State, U.heap = H → s.WarmedH U.vm → tcP D A tys H.size av ws av.toArray U :=
  fun U hU hW => ⟨rfl, by rw [hU], by rw [hU]; exact hP, va_K.moved hW.alike hK, hD, hE.go hS hU hW⟩
/-- rows of cells by number, three to a number -/
def tc_fl (col : Nat → va_W) : Nat → va_W
  | 0 => []
  | n + 1 => tc_fl col n ++ col n
theorem tc_fl_len {col : Nat → va_W} (h3 : ∀ j, (col j).length = 3) : ∀ n, (tc_fl col n).length = 3 * n
  | 0 => rfl
  | n + 1 => by
    show (tc_fl col n ++ col n).length = _
    rw [List.length_append, tc_fl_len h3 n, h3]
    omega
theorem tc_fl_get {col : Nat → va_W} (h3 : ∀ j, (col j).length = 3) {i : Nat} (hi : i < 3) : ∀ (n : Nat) {j : Nat}, j < n → (tc_fl col n)[3 * j + i]? = (col j)[i]?
  | 0, j, h => absurd h (Nat.not_lt_zero _)
  | n + 1, j, h => by
    show (tc_fl col n ++ col n)[3 * j + i]? = _
    have hl := tc_fl_len h3 n
    rcases Nat.lt_or_ge j n with q | q
    · rw [List.getElem?_append_left (by omega)]
      exact tc_fl_get h3 hi n q
    · have : j = n := by omega
      subst this
      rw [List.getElem?_append_right (by omega), hl]
      congr 1
      omega
theorem tc_fl_congr {c1 c2 : Nat → va_W} : ∀ (n : Nat), (∀ j, j < n → c1 j = c2 j) → tc_fl c1 n = tc_fl c2 n
  | 0, _ => rfl
  | n + 1, h => by
    show tc_fl c1 n ++ c1 n = tc_fl c2 n ++ c2 n
    rw [tc_fl_congr n (fun j q => h j (by omega)), h n (Nat.lt_succ_self n)]
theorem tc_fl_set {c1 c2 : Nat → va_W} (h3 : ∀ j, (c1 j).length = 3) {i : Nat} (hi : i < 3) {q : Nat × va_E} : ∀ (n : Nat) {j : Nat}, j < n → (∀ k, k < n → k ≠ j → c2 k = c1 k) → c2 j = (c1 j).set i q → (tc_fl c1 n).set (3 * j + i) q = tc_fl c2 n
  | 0, j, h, _, _ => absurd h (Nat.not_lt_zero _)
  | n + 1, j, h, hk, hj => by
    show (tc_fl c1 n ++ c1 n).set (3 * j + i) q = tc_fl c2 n ++ c2 n
    have hl := tc_fl_len h3 n
    rcases Nat.lt_or_ge j n with z | z
    · rw [List.set_append_left _ _ (by omega), tc_fl_set h3 hi n z (fun k a b => hk k (by omega) b) hj, hk n (Nat.lt_succ_self n) (by omega)]
    · have : j = n := by omega
      subst this
      rw [List.set_append_right _ _ (by omega), hl, show 3 * j + i - 3 * j = i from by omega, hj, tc_fl_congr j (fun k a => hk k (by omega) (by omega))]
/-- the length that the class's column tells; how many whole and real cells it has -/
def tc_cl (k : Int32) (n : Nat) : Int32 := if kHas k = true then nI n else -1
def tc_wl (k : Int32) (n : Nat) : Nat := if kFl k = true then 0 else n
def tc_rl (k : Int32) (n : Nat) : Nat := if kFl k = true then n else 0
def tc_sl {α : Type} (m : Nat) (f : Nat → α) (z : α) : Nat → α := fun i => if i < m then f i else z
def tc_col (cJ cD : ClassId) (ad wd rd : Nat → Nat) (K : Nat → Int32) (Ln : Nat → Nat) (W : Nat → Int64) (R : Nat → UInt64) (j : Nat) : va_W :=
  [(ad j, .inr (0, [.int (K j), .int (tc_cl (K j) (Ln j)), .ref (wd j), .ref (rd j)])),
   (wd j, .inl (cJ, tc_wl (K j) (Ln j), .inr (.inl (tc_sl (tc_wl (K j) (Ln j)) (fun i => W (40 * j + i)) 0)))),
   (rd j, .inl (cD, tc_rl (K j) (Ln j), .inr (.inr (.inr (.inl (tc_sl (tc_rl (K j) (Ln j)) (fun i => R (40 * j + i)) 0))))))]
theorem tc_col_len (cJ cD : ClassId) (ad wd rd : Nat → Nat) (K : Nat → Int32) (Ln : Nat → Nat) (W : Nat → Int64) (R : Nat → UInt64) (j : Nat) : (tc_col cJ cD ad wd rd K Ln W R j).length = 3 := rfl
/-- the class's own five cells -/
def tc_hd (cI cD cC : ClassId) (h0 h1 h2 h3 h4 : Nat) (ad : Nat → Nat) (n : Nat) (cd : Int32) (ct : Nat → Int32) : va_W :=
  [(h0, .inr (2, [.ref h1, .ref h2, .ref h3, .int (nI n), .int cd])),
   (h1, .inl (cC, 60, .inr (.inr (.inr (.inr (fun j => if j < n then some (ad j) else none)))))),
   (h2, .inl (cI, 6, .inl ct)),
   (h3, .inr (1, [.ref h4])),
   (h4, .inl (cD, 10, .inr (.inr (.inr (.inl (fun j => tf_N (1023 + 2 ^ j) 0))))))]
def tc_T (cI cJ cD cC : ClassId) (h0 h1 h2 h3 h4 : Nat) (ad wd rd : Nat → Nat) (Y : va_W) (n : Nat) (K : Nat → Int32) (Ln : Nat → Nat) (W : Nat → Int64) (R : Nat → UInt64) (cd : Int32) (ct : Nat → Int32) : va_W :=
  tc_hd cI cD cC h0 h1 h2 h3 h4 ad n cd ct ++ (Y ++ tc_fl (tc_col cJ cD ad wd rd K Ln W R) n)
/-- the model's six cells -/
def tc_M (cI cJ cD : ClassId) (m0 m1 m2 m3 m4 m5 : Nat) (th : Int32) (n : Nat) (K : Nat → Int32) (Ln : Nat → Nat) (W : Nat → Int64) (R : Nat → UInt64) (cd : Int32) (ct : Nat → Int32) : va_W :=
  [(m0, .inr (3, [.int th, .int (nI n), .ref m1, .ref m2, .ref m3, .ref m4, .int cd, .ref m5])),
   (m1, .inl (cI, 60, .inl K)),
   (m2, .inl (cI, 60, .inl (fun j => nI (Ln j)))),
   (m3, .inl (cJ, 2400, .inr (.inl W))),
   (m4, .inl (cD, 2400, .inr (.inr (.inr (.inl R))))),
   (m5, .inl (cI, 6, .inl ct))]
section TCW
variable {cI cJ cD cC : ClassId} {h0 h1 h2 h3 h4 : Nat} {ad wd rd : Nat → Nat} {Y : va_W} {n : Nat} {K : Nat → Int32} {Ln : Nat → Nat} {W W' : Nat → Int64} {R R' : Nat → UInt64} {cd : Int32} {ct : Nat → Int32}
theorem tc_T_get {j i : Nat} (hj : j < n) (hi : i < 3) : (tc_T cI cJ cD cC h0 h1 h2 h3 h4 ad wd rd Y n K Ln W R cd ct)[5 + (Y.length + (3 * j + i))]? = (tc_col cJ cD ad wd rd K Ln W R j)[i]? := by
  unfold tc_T
  rw [List.getElem?_append_right (by show 5 ≤ _; omega)]
  show (Y ++ tc_fl (tc_col cJ cD ad wd rd K Ln W R) n)[5 + (Y.length + (3 * j + i)) - 5]? = _
  rw [show 5 + (Y.length + (3 * j + i)) - 5 = Y.length + (3 * j + i) from by omega, List.getElem?_append_right (by omega), show Y.length + (3 * j + i) - Y.length = 3 * j + i from by omega]
  exact tc_fl_get (tc_col_len cJ cD ad wd rd K Ln W R) hi n hj
theorem tc_T0 {j : Nat} (hj : j < n) : (tc_T cI cJ cD cC h0 h1 h2 h3 h4 ad wd rd Y n K Ln W R cd ct)[5 + (Y.length + (3 * j + 0))]? = some (ad j, .inr (0, [.int (K j), .int (tc_cl (K j) (Ln j)), .ref (wd j), .ref (rd j)])) := (tc_T_get hj (by decide)).trans rfl
theorem tc_T1 {j : Nat} (hj : j < n) : (tc_T cI cJ cD cC h0 h1 h2 h3 h4 ad wd rd Y n K Ln W R cd ct)[5 + (Y.length + (3 * j + 1))]? = some (wd j, .inl (cJ, tc_wl (K j) (Ln j), .inr (.inl (tc_sl (tc_wl (K j) (Ln j)) (fun i => W (40 * j + i)) 0)))) := (tc_T_get hj (by decide)).trans rfl
theorem tc_T2 {j : Nat} (hj : j < n) : (tc_T cI cJ cD cC h0 h1 h2 h3 h4 ad wd rd Y n K Ln W R cd ct)[5 + (Y.length + (3 * j + 2))]? = some (rd j, .inl (cD, tc_rl (K j) (Ln j), .inr (.inr (.inr (.inl (tc_sl (tc_rl (K j) (Ln j)) (fun i => R (40 * j + i)) 0)))))) := (tc_T_get hj (by decide)).trans rfl
theorem tc_T_set {j i : Nat} (hj : j < n) (hi : i < 3) {q : Nat × va_E} (hk : ∀ k, k < n → k ≠ j → tc_col cJ cD ad wd rd K Ln W' R' k = tc_col cJ cD ad wd rd K Ln W R k) (hq : tc_col cJ cD ad wd rd K Ln W' R' j = (tc_col cJ cD ad wd rd K Ln W R j).set i q) :
    (tc_T cI cJ cD cC h0 h1 h2 h3 h4 ad wd rd Y n K Ln W R cd ct).set (5 + (Y.length + (3 * j + i))) q = tc_T cI cJ cD cC h0 h1 h2 h3 h4 ad wd rd Y n K Ln W' R' cd ct := by
  unfold tc_T
  rw [List.set_append_right _ _ (by show 5 ≤ _; omega)]
  show _ ++ (Y ++ tc_fl (tc_col cJ cD ad wd rd K Ln W R) n).set (5 + (Y.length + (3 * j + i)) - 5) q = _
  rw [show 5 + (Y.length + (3 * j + i)) - 5 = Y.length + (3 * j + i) from by omega, List.set_append_right _ _ (by omega), show Y.length + (3 * j + i) - Y.length = 3 * j + i from by omega,
    tc_fl_set (tc_col_len cJ cD ad wd rd K Ln W R) hi n hj hk hq]
end TCW
theorem tc_sl_congr {α : Type} {m : Nat} {f g : Nat → α} {z : α} (h : ∀ i, i < m → f i = g i) : tc_sl m f z = tc_sl m g z := by
  funext i
  unfold tc_sl
  by_cases q : i < m
  · rw [if_pos q, if_pos q, h i q]
  · rw [if_neg q, if_neg q]
/-- the codes -/
def kCol (k : Int32) : Int32 := if k = 0 then 1 else if k = 9 then 2 else 0
def kCell (k len i a b : Int32) : Int32 := if kCol k = 0 then (if i < 0 then 3 else if len ≤ i then 3 else if kWid a b = true then 0 else 4) else kCol k
def noteC (ct : Nat → Int32) (k : Int32) : Nat → Int32 := upd ct k.toNatClampNeg (ct k.toNatClampNeg + 1)
theorem kCol_or (k : Int32) : kCol k = 0 ∨ kCol k = 1 ∨ kCol k = 2 := by
  unfold kCol
  by_cases h : k = 0
  · rw [if_pos h]; exact Or.inr (Or.inl rfl)
  · rw [if_neg h]
    by_cases h : k = 9
    · rw [if_pos h]; exact Or.inr (Or.inr rfl)
    · rw [if_neg h]; exact Or.inl rfl
theorem kCol_in (k : Int32) : vp_in (kCol k) 6 := by
  rcases kCol_or k with h | h | h <;> rw [h] <;> (unfold vp_in; decide)
theorem kCell_in (k len i a b : Int32) : vp_in (kCell k len i a b) 6 := by
  unfold kCell
  by_cases h : kCol k = 0
  · rw [if_pos h]
    by_cases h1 : i < 0
    · rw [if_pos h1]; unfold vp_in; decide
    · rw [if_neg h1]
      by_cases h2 : len ≤ i
      · rw [if_pos h2]; unfold vp_in; decide
      · rw [if_neg h2]
        by_cases h3 : kWid a b = true
        · rw [if_pos h3]; unfold vp_in; decide
        · rw [if_neg h3]; unfold vp_in; decide
  · rw [if_neg h]; exact kCol_in k
theorem vp_in_lo {x : Int32} {N : Nat} (h : vp_in x N) : ¬ x < 0 := fun q => h (Or.inl q)
theorem vp_in_hi {x : Int32} {N : Nat} (h : vp_in x N) (hN : N < 2 ^ 31) : ¬ nI N ≤ x := by
  obtain ⟨j, hj, e⟩ := vp_in_of h hN
  rw [e]
  exact nI_ge hj hN
theorem vp_in_mk {x : Int32} {N : Nat} (h1 : ¬ x < 0) (h2 : ¬ nI N ≤ x) (hN : N < 2 ^ 31) : vp_in x N := by
  rcases pk_ix x hN with q | q | ⟨j, hj, e⟩
  · exact absurd q h1
  · exact absurd q h2
  · rw [e]; exact vp_in_nI hj hN
section TCL
variable {p : Program} {l : Launch} {e : Env} {R : Room} {s : State} {m : MethodId} {args : Array Value} {below : List Frame} {meth : Method} {c : Code} {cells slots : Nat} {Q : State → Prop} {pc : Nat} {st : List Value}
/-- a loop whose turns are counted down -/
theorem tc_loop (inv : Nat → Heap → List Loc → Array Slot → Prop)
    (hs : ∀ (k : Nat) (H : Heap) (locs : List Loc) (ls : Array Slot), inv (k + 1) H locs ls → (∀ (H : Heap) (locs : List Loc) (ls : Array Slot), inv k H locs ls → W p l e R s m args below meth c H locs cells slots Q (F0 m pc ls st)) → W p l e R s m args below meth c H locs cells slots Q (F0 m pc ls st))
    (h0 : ∀ (H : Heap) (locs : List Loc) (ls : Array Slot), inv 0 H locs ls → W p l e R s m args below meth c H locs cells slots Q (F0 m pc ls st)) :
    ∀ (n : Nat) {H : Heap} {locs : List Loc} {ls : Array Slot}, inv n H locs ls → W p l e R s m args below meth c H locs cells slots Q (F0 m pc ls st)
  | 0, H, locs, ls, h => h0 H locs ls h
  | n + 1, H, locs, ls, h => hs n H locs ls h (fun H locs ls h => tc_loop inv hs h0 n h)
end TCL
theorem tc_set_same {α : Type} {ws : List α} {i : Nat} {x : α} (h : ws[i]? = some x) : ws.set i x = ws := by
  apply List.ext_getElem?
  intro j
  by_cases q : j = i
  · subst q
    have hl := (List.getElem?_eq_some_iff.mp h).1
    rw [List.getElem?_set_self hl, h]
  · rw [List.getElem?_set_ne (Ne.symm q)]
theorem tc_set_self {α : Type} {ws : List α} {i : Nat} {x y : α} (h : ws[i]? = some x) : (ws.set i y)[i]? = some y := List.getElem?_set_self (List.getElem?_eq_some_iff.mp h).1
theorem tc_set_ne {α : Type} {ws : List α} {i j : Nat} {x y : α} (h : ws[j]? = some x) (hn : i ≠ j) : (ws.set i y)[j]? = some x := by
  rw [List.getElem?_set_ne hn]; exact h
/-- two array classes of one component type are one -/
theorem tc_uniq {D : va_G} {cl : List vw_C} {tys : List (ClassId × FieldType)} {U : State} (hK : va_K D cl tys U) {i j : Nat} {a b : ClassId} {t : FieldType} (h1 : tys[i]? = some (a, t)) (h2 : tys[j]? = some (b, t)) : a = b := by
  have g1 := (hK.2 i _ h1).2
  have g2 := (hK.2 j _ h2).2
  cases t <;> first
    | exact Option.some.inj (g1.symm.trans g2)
    | (obtain ⟨_, _, _, _, _, w1⟩ := g1; obtain ⟨_, _, _, _, _, w2⟩ := g2; exact Option.some.inj (w1.symm.trans w2))
theorem tc_app_l {α : Type} {ws v : List α} {i : Nat} {x : α} (h : ws[i]? = some x) : (ws ++ v)[i]? = some x := by
  rw [List.getElem?_append_left (List.getElem?_eq_some_iff.mp h).1]; exact h
theorem tc_app_set {α : Type} {ws v : List α} {i : Nat} {x y : α} (h : ws[i]? = some x) : (ws ++ v).set i y = ws.set i y ++ v := List.set_append_left _ _ (List.getElem?_eq_some_iff.mp h).1
theorem tc_app_last {α : Type} {ws : List α} {x : α} : (ws ++ [x])[ws.length]? = some x := by simp
theorem tc_app_last_set {α : Type} {ws : List α} {x y : α} : (ws ++ [x]).set ws.length y = ws ++ [y] := by simp
def tc_mix {α : Type} (V g : Nat → α) (i : Nat) : Nat → α := fun q => if q < i then V q else g q
theorem tc_mix_0 {α : Type} (V g : Nat → α) : tc_mix V g 0 = g := by
  funext q; unfold tc_mix; rw [if_neg (Nat.not_lt_zero q)]
theorem tc_mix_s {α : Type} (V g : Nat → α) (i : Nat) : vf_upd (tc_mix V g i) i (V i) = tc_mix V g (i + 1) := by
  funext q
  unfold vf_upd tc_mix
  by_cases h : q = i
  · rw [if_pos h, if_pos (by omega), h]
  · rw [if_neg h]
    by_cases h2 : q < i
    · rw [if_pos h2, if_pos (by omega)]
    · rw [if_neg h2, if_neg (by omega)]
theorem tc_mix_sL (V g : Nat → Int64) (i : Nat) : vp_updL (tc_mix V g i) i (V i) = tc_mix V g (i + 1) := tc_mix_s V g i
/-- a part of a row that lies in it -/
theorem kPart_spec {f m : Int32} {N : Nat} (h : kPart f m (nI N) = true) (hN : N < 2 ^ 31) : ¬ f < 0 ∧ ¬ m < 0 ∧ f.toNatClampNeg + m.toNatClampNeg ≤ N := by
  simp only [kPart, Bool.and_eq_true, Bool.not_eq_true', decide_eq_false_iff_not] at h
  obtain ⟨⟨h1, h2⟩, h3⟩ := h
  refine ⟨h1, h2, ?_⟩
  obtain ⟨a, ha, rfl⟩ := nI_of h1
  obtain ⟨b, hb, rfl⟩ := nI_of h2
  rw [nI_clamp ha, nI_clamp hb]
  rw [Int32.lt_iff_toInt_lt, Int32.toInt_sub, nI_toInt ha, nI_toInt hb, nI_toInt hN] at h3
  have hb2 : ((N : Int) - (b : Int)).bmod (2 ^ 32) = (N : Int) - b := Int.bmod_eq_of_le (by omega) (by omega)
  rw [hb2] at h3
  omega
theorem kPart_mk {a b N : Nat} (ha : a < 2 ^ 31) (hb : b < 2 ^ 31) (h : a + b ≤ N) (hN : N < 2 ^ 31) : kPart (nI a) (nI b) (nI N) = true := by
  simp only [kPart, Bool.and_eq_true, Bool.not_eq_true', decide_eq_false_iff_not]
  refine ⟨⟨nI_pos ha, nI_pos hb⟩, ?_⟩
  rw [pk_sub (by omega)]
  rw [Int32.lt_iff_toInt_lt, nI_toInt ha, nI_toInt (by omega)]
  omega
def tc_tk {α : Type} (sf f : Nat → α) (b1 b2 : Bool) (sp dp n : Int32) : Nat → α := if b1 = true ∧ b2 = true then va_cpy sf f sp.toNatClampNeg dp.toNatClampNeg n.toNatClampNeg else f
theorem tc_tk1 {α : Type} (sf f : Nat → α) {b1 : Bool} (b2 : Bool) (sp dp n : Int32) (h : tb b1 = 0) : tc_tk sf f b1 b2 sp dp n = f := by
  unfold tc_tk; rw [if_neg (fun q => by have := (tb_0 b1).mp h; rw [this] at q; cases q.1)]
theorem tc_tk2 {α : Type} (sf f : Nat → α) (b1 : Bool) {b2 : Bool} (sp dp n : Int32) (h : tb b2 = 0) : tc_tk sf f b1 b2 sp dp n = f := by
  unfold tc_tk; rw [if_neg (fun q => by have := (tb_0 b2).mp h; rw [this] at q; cases q.2)]
theorem tc_tk3 {α : Type} (sf f : Nat → α) {b1 b2 : Bool} (sp dp n : Int32) (h1 : ¬ tb b1 = 0) (h2 : ¬ tb b2 = 0) : tc_tk sf f b1 b2 sp dp n = va_cpy sf f sp.toNatClampNeg dp.toNatClampNeg n.toNatClampNeg := by
  unfold tc_tk; rw [if_pos ⟨(tb_1 b1).mp h1, (tb_1 b2).mp h2⟩]
theorem kLen_nI {N : Nat} (h : N ≤ 40) : kLen (nI N) = true := (kLen_iff _).mpr (by rw [nI_toInt (by omega)]; omega)
theorem kFl_has {k : Int32} (h : kFl k = true) : kHas k = true := by
  simp only [kFl, Bool.or_eq_true, decide_eq_true_eq] at h
  rcases h with h | h <;> (rw [h]; decide)
section TCA
variable {p : Program} {l : Launch} {e : Env} {R : Room} {s : State} {m : MethodId} {args : Array Value} {below : List Frame} {meth : Method} {c : Code} {H : Heap} {locs : List Loc} {cells slots : Nat} {Q : State → Prop}
variable {cc : ByteArray} {pc : Nat} {ls : Array Slot} {rest : List Value} {D : va_G} {cl : List vw_C} {a : Nat} {tys : List (ClassId × FieldType)} {ws : va_W}
theorem tc_iald (hexec : p.tables.exec = Jvm.exec) (hb : c.code = cc) (hK : va_K D cl tys s) (hP : va_P D cl ws H) (q0 t0 : Nat) {cA : ClassId} {n : Nat} {f : Nat → Int32} (ha : ws[q0]? = some (a, .inl (cA, n, .inl f))) (ht : tys[t0]? = some (cA, .int)) {i : Int32} (hin : vp_in i n) {v : Int32} (hv : f i.toNatClampNeg = v) (hdg : decode cc pc = .ok (.iaload, 1))
    (kk : W p l e R s m args below meth c H locs cells slots Q (F0 m (pc + 1) ls (.int v :: rest))) : W p l e R s m args below meth c H locs cells slots Q (F0 m pc ls (.int i :: .ref a :: rest)) := va_iald hexec hb hK hP q0 t0 ha ht hin hdg (by rw [hv]; exact kk)
theorem tc_lald (hexec : p.tables.exec = Jvm.exec) (hb : c.code = cc) (hK : va_K D cl tys s) (hP : va_P D cl ws H) (q0 t0 : Nat) {cA : ClassId} {n : Nat} {f : Nat → Int64} (ha : ws[q0]? = some (a, .inl (cA, n, .inr (.inl f)))) (ht : tys[t0]? = some (cA, .long)) {i : Int32} (hin : vp_in i n) {v : Int64} (hv : f i.toNatClampNeg = v) (hdg : decode cc pc = .ok (.laload, 1))
    (kk : W p l e R s m args below meth c H locs cells slots Q (F0 m (pc + 1) ls (.long v :: rest))) : W p l e R s m args below meth c H locs cells slots Q (F0 m pc ls (.int i :: .ref a :: rest)) := va_lald hexec hb hK hP q0 t0 ha ht hin hdg (by rw [hv]; exact kk)
theorem tc_dald (hexec : p.tables.exec = Jvm.exec) (hb : c.code = cc) (hK : va_K D cl tys s) (hP : va_P D cl ws H) (q0 t0 : Nat) {cA : ClassId} {n : Nat} {f : Nat → UInt64} (ha : ws[q0]? = some (a, .inl (cA, n, .inr (.inr (.inr (.inl f)))))) (ht : tys[t0]? = some (cA, .double)) {i : Int32} (hin : vp_in i n) {v : UInt64} (hv : f i.toNatClampNeg = v) (hdg : decode cc pc = .ok (.daload, 1))
    (kk : W p l e R s m args below meth c H locs cells slots Q (F0 m (pc + 1) ls (.double v :: rest))) : W p l e R s m args below meth c H locs cells slots Q (F0 m pc ls (.int i :: .ref a :: rest)) := va_dald hexec hb hK hP q0 t0 ha ht hin hdg (by rw [hv]; exact kk)
theorem tc_aldS (hexec : p.tables.exec = Jvm.exec) (hb : c.code = cc) (hK : va_K D cl tys s) (hP : va_P D cl ws H) (q0 t0 : Nat) {cA : ClassId} {C : String} {n : Nat} {f : Nat → Option Nat} (ha : ws[q0]? = some (a, .inl (cA, n, .inr (.inr (.inr (.inr f)))))) (ht : tys[t0]? = some (cA, .object C)) {i : Int32} (hin : vp_in i n) {v : Nat} (hv : f i.toNatClampNeg = some v) (hdg : decode cc pc = .ok (.aaload, 1))
    (kk : W p l e R s m args below meth c H locs cells slots Q (F0 m (pc + 1) ls (.ref v :: rest))) : W p l e R s m args below meth c H locs cells slots Q (F0 m pc ls (.int i :: .ref a :: rest)) := va_aldq hexec hb hK hP q0 t0 ha ht hin hdg (by rw [hv]; exact kk)
theorem tc_aldN (hexec : p.tables.exec = Jvm.exec) (hb : c.code = cc) (hK : va_K D cl tys s) (hP : va_P D cl ws H) (q0 t0 : Nat) {cA : ClassId} {C : String} {n : Nat} {f : Nat → Option Nat} (ha : ws[q0]? = some (a, .inl (cA, n, .inr (.inr (.inr (.inr f)))))) (ht : tys[t0]? = some (cA, .object C)) {i : Int32} (hin : vp_in i n) (hv : f i.toNatClampNeg = none) (hdg : decode cc pc = .ok (.aaload, 1))
    (kk : W p l e R s m args below meth c H locs cells slots Q (F0 m (pc + 1) ls (.null :: rest))) : W p l e R s m args below meth c H locs cells slots Q (F0 m pc ls (.int i :: .ref a :: rest)) := va_aldq hexec hb hK hP q0 t0 ha ht hin hdg (by rw [hv]; exact kk)
end TCA
end
section
/-! A COLUMN: its methods, over any world in which its three cells have their places -/
theorem kFl_no {k : Int32} (h : kFl k = false) : ¬ k = 7 ∧ ¬ k = 8 := by
  simp only [kFl, Bool.or_eq_false_iff, decide_eq_false_iff_not] at h
  exact h
set_option maxHeartbeats 4000000 in
set_option maxRecDepth 100000 in
theorem oX0_wholeAt (l : Launch) (D : va_G) (A : Nat → Prop) (cI cJ cD cC : ClassId) (ws : va_W) (p0 p1 p2 : Nat) (a w r : Nat) (k len : Int32) (nw nr : Nat) (f : Nat → Int64) (g : Nat → UInt64) (sz : Nat) (e0 : ws[p0]? = some (a, .inr (0, [.int k, .int len, .ref w, .ref r]))) (e1 : ws[p1]? = some (w, .inl (cJ, nw, .inr (.inl f)))) (e2 : ws[p2]? = some (r, .inl (cD, nr, .inr (.inr (.inr (.inl g)))))) (hn : nw < 2 ^ 31 ∧ nr < 2 ^ 31) (i : Int32) (hi : vp_in i nw) : Met l yX0_wholeAt wsX0_wholeAt ({ frames := 0, cells := 0, slots := 0, locals := 0 }) (tcP D A (tcTY cI cJ cD cC) sz [.ref a, .int i] ws) (vp_Sl (fun r => r = f i.toNatClampNeg)) 0 0 (fun _ => False) := by
  refine Met.ofW (cc := cX0_wholeAt) (maxL := 2) (ret := (some .long)) (by decide) rfl ?_
  intro p e s m args below meth c s₁ B hml hv
  obtain ⟨rfl, hsz, hP, hK, hD, hE⟩ := hv
  have hx := B.exec
  have hb := B.bytes
  have hr := B.returns
  have hts := atoms_spec (ws := wsX0_wholeAt) B.pre
  have hown : s.vm.findClass RX0 = some m.cls := findClass_of_methodNamed B.named
  have hlocks := B.notSynchronized
  have hl := lv_entry ([.ref a, .int i]) (n := 2) (Nat.le_of_ble_eq_true rfl)
  rw [lg_entry_eq]
  generalize (lg_sl ([.ref a, .int i]) ++ List.replicate (2 - (lg_sl ([.ref a, .int i])).length) Slot.unset).toArray = ls at hl ⊢
  have hl : lv_has ls 2 [(0, .ref a), (1, .int i)] := hl
  subst hsz
  have hS : va_S A s.heap s.heap [] := va_S.rf
  refine lv_iload_n hx hb dX0_wholeAt_0 rfl (lv_at hl 1 rfl) ?_
  refine lv_if_lt (tgt := 22) hx hb dX0_wholeAt_1 (by decide) (fun q => absurd q (vp_in_lo hi)) (fun _ => ?_)
  refine lv_iload_n hx hb dX0_wholeAt_4 rfl (lv_at hl 1 rfl) ?_
  refine lv_aload_n hx hb dX0_wholeAt_5 rfl (lv_at hl 0 rfl) ?_
  refine va_get (D := D) (ci := 0) (fs := [.int k, .int len, .ref w, .ref r]) (v := .ref w) (C := RX0) (T := TX0) (N := 4) hx hb hts (by decide +kernel) hown hK hP p0 e0 rfl 2 (by decide) (hts (.fieldLink RX0 28 "TypedColumns$Column" "wholes" "[J") (by decide +kernel)) (fun _ h9 => h9) rfl dX0_wholeAt_6 ?_
  refine va_alen (v := (nI nw)) hx hb hK hP p1 1 e1 rfl rfl dX0_wholeAt_9 ?_
  refine lv_icmp_ge (tgt := 22) hx hb dX0_wholeAt_10 (by decide) (fun q => absurd q (vp_in_hi hi hn.1)) (fun _ => ?_)
  refine lv_aload_n hx hb dX0_wholeAt_13 rfl (lv_at hl 0 rfl) ?_
  refine va_get (D := D) (ci := 0) (fs := [.int k, .int len, .ref w, .ref r]) (v := .ref w) (C := RX0) (T := TX0) (N := 4) hx hb hts (by decide +kernel) hown hK hP p0 e0 rfl 2 (by decide) (hts (.fieldLink RX0 28 "TypedColumns$Column" "wholes" "[J") (by decide +kernel)) (fun _ h9 => h9) rfl dX0_wholeAt_14 ?_
  refine lv_iload_n hx hb dX0_wholeAt_17 rfl (lv_at hl 1 rfl) ?_
  refine tc_lald (f := f) (v := (f i.toNatClampNeg)) hx hb hK hP p1 1 e1 rfl (hi) rfl dX0_wholeAt_18 ?_
  refine lv_goto (tgt := 23) hx hb dX0_wholeAt_19 (by decide) ?_
  exact W.lret (v := (f i.toNatClampNeg)) hx hb hr (fun t9 ht9 hW9 => ⟨(f i.toNatClampNeg), rfl, rfl, ht9⟩) (fun q hq => absurd hq List.not_mem_nil) dX0_wholeAt_23
set_option maxHeartbeats 4000000 in
set_option maxRecDepth 100000 in
theorem oX0_realAt (l : Launch) (D : va_G) (A : Nat → Prop) (cI cJ cD cC : ClassId) (ws : va_W) (p0 p1 p2 : Nat) (a w r : Nat) (k len : Int32) (nw nr : Nat) (f : Nat → Int64) (g : Nat → UInt64) (sz : Nat) (e0 : ws[p0]? = some (a, .inr (0, [.int k, .int len, .ref w, .ref r]))) (e1 : ws[p1]? = some (w, .inl (cJ, nw, .inr (.inl f)))) (e2 : ws[p2]? = some (r, .inl (cD, nr, .inr (.inr (.inr (.inl g)))))) (hn : nw < 2 ^ 31 ∧ nr < 2 ^ 31) (i : Int32) (hi : vp_in i nr) : Met l yX0_realAt wsX0_realAt ({ frames := 0, cells := 0, slots := 0, locals := 0 }) (tcP D A (tcTY cI cJ cD cC) sz [.ref a, .int i] ws) (vp_Sd (fun r => r = g i.toNatClampNeg)) 0 0 (fun _ => False) := by
  refine Met.ofW (cc := cX0_realAt) (maxL := 2) (ret := (some .double)) (by decide) rfl ?_
  intro p e s m args below meth c s₁ B hml hv
  obtain ⟨rfl, hsz, hP, hK, hD, hE⟩ := hv
  have hx := B.exec
  have hb := B.bytes
  have hr := B.returns
  have hts := atoms_spec (ws := wsX0_realAt) B.pre
  have hown : s.vm.findClass RX0 = some m.cls := findClass_of_methodNamed B.named
  have hlocks := B.notSynchronized
  have hl := lv_entry ([.ref a, .int i]) (n := 2) (Nat.le_of_ble_eq_true rfl)
  rw [lg_entry_eq]
  generalize (lg_sl ([.ref a, .int i]) ++ List.replicate (2 - (lg_sl ([.ref a, .int i])).length) Slot.unset).toArray = ls at hl ⊢
  have hl : lv_has ls 2 [(0, .ref a), (1, .int i)] := hl
  subst hsz
  have hS : va_S A s.heap s.heap [] := va_S.rf
  refine lv_iload_n hx hb dX0_realAt_0 rfl (lv_at hl 1 rfl) ?_
  refine lv_if_lt (tgt := 22) hx hb dX0_realAt_1 (by decide) (fun q => absurd q (vp_in_lo hi)) (fun _ => ?_)
  refine lv_iload_n hx hb dX0_realAt_4 rfl (lv_at hl 1 rfl) ?_
  refine lv_aload_n hx hb dX0_realAt_5 rfl (lv_at hl 0 rfl) ?_
  refine va_get (D := D) (ci := 0) (fs := [.int k, .int len, .ref w, .ref r]) (v := .ref r) (C := RX0) (T := TX0) (N := 4) hx hb hts (by decide +kernel) hown hK hP p0 e0 rfl 3 (by decide) (hts (.fieldLink RX0 32 "TypedColumns$Column" "reals" "[D") (by decide +kernel)) (fun _ h9 => h9) rfl dX0_realAt_6 ?_
  refine va_alen (v := (nI nr)) hx hb hK hP p2 2 e2 rfl rfl dX0_realAt_9 ?_
  refine lv_icmp_ge (tgt := 22) hx hb dX0_realAt_10 (by decide) (fun q => absurd q (vp_in_hi hi hn.2)) (fun _ => ?_)
  refine lv_aload_n hx hb dX0_realAt_13 rfl (lv_at hl 0 rfl) ?_
  refine va_get (D := D) (ci := 0) (fs := [.int k, .int len, .ref w, .ref r]) (v := .ref r) (C := RX0) (T := TX0) (N := 4) hx hb hts (by decide +kernel) hown hK hP p0 e0 rfl 3 (by decide) (hts (.fieldLink RX0 32 "TypedColumns$Column" "reals" "[D") (by decide +kernel)) (fun _ h9 => h9) rfl dX0_realAt_14 ?_
  refine lv_iload_n hx hb dX0_realAt_17 rfl (lv_at hl 1 rfl) ?_
  refine tc_dald (f := g) (v := (g i.toNatClampNeg)) hx hb hK hP p2 2 e2 rfl (hi) rfl dX0_realAt_18 ?_
  refine lv_goto (tgt := 23) hx hb dX0_realAt_19 (by decide) ?_
  exact W.dret (v := (g i.toNatClampNeg)) hx hb hr (fun t9 ht9 hW9 => ⟨(g i.toNatClampNeg), rfl, rfl, ht9⟩) (fun q hq => absurd hq List.not_mem_nil) dX0_realAt_23
set_option maxHeartbeats 4000000 in
set_option maxRecDepth 100000 in
theorem oX0_doubleAt_r (l : Launch) (D : va_G) (A : Nat → Prop) (cI cJ cD cC : ClassId) (ws : va_W) (p0 p1 p2 : Nat) (a w r : Nat) (k len : Int32) (nw nr : Nat) (f : Nat → Int64) (g : Nat → UInt64) (sz : Nat) (e0 : ws[p0]? = some (a, .inr (0, [.int k, .int len, .ref w, .ref r]))) (e1 : ws[p1]? = some (w, .inl (cJ, nw, .inr (.inl f)))) (e2 : ws[p2]? = some (r, .inl (cD, nr, .inr (.inr (.inr (.inl g)))))) (hn : nw < 2 ^ 31 ∧ nr < 2 ^ 31) (i : Int32) (hi : vp_in i nr) (hk : kFl k = true) : Met l yX0_doubleAt wsX0_doubleAt ({ frames := 1, cells := 0, slots := 0, locals := 21 }) (tcP D A (tcTY cI cJ cD cC) sz [.ref a, .int i] ws) (vp_Sd (fun r => r = g i.toNatClampNeg)) 0 0 (fun _ => False) := by
  refine Met.ofW (cc := cX0_doubleAt) (maxL := 2) (ret := (some .double)) (by decide) rfl ?_
  intro p e s m args below meth c s₁ B hml hv
  obtain ⟨rfl, hsz, hP, hK, hD, hE⟩ := hv
  have hx := B.exec
  have hb := B.bytes
  have hr := B.returns
  have hts := atoms_spec (ws := wsX0_doubleAt) B.pre
  have hown : s.vm.findClass RX0 = some m.cls := findClass_of_methodNamed B.named
  have hlocks := B.notSynchronized
  have hl := lv_entry ([.ref a, .int i]) (n := 2) (Nat.le_of_ble_eq_true rfl)
  rw [lg_entry_eq]
  generalize (lg_sl ([.ref a, .int i]) ++ List.replicate (2 - (lg_sl ([.ref a, .int i])).length) Slot.unset).toArray = ls at hl ⊢
  have hl : lv_has ls 2 [(0, .ref a), (1, .int i)] := hl
  subst hsz
  have hS : va_S A s.heap s.heap [] := va_S.rf
  refine lv_aload_n hx hb dX0_doubleAt_0 rfl (lv_at hl 0 rfl) ?_
  refine va_get (D := D) (ci := 0) (fs := [.int k, .int len, .ref w, .ref r]) (v := .int k) (C := RX0) (T := TX0) (N := 4) hx hb hts (by decide +kernel) hown hK hP p0 e0 rfl 0 (by decide) (hts (.fieldLink RX0 16 "TypedColumns$Column" "kind" "I") (by decide +kernel)) (fun _ h9 => h9) rfl dX0_doubleAt_1 ?_
  refine vp_callSi (tc_CR (va_runSN (As := [.int k]) (rest := []) ⟨hx, hb, hml, hown, hts⟩ (kX2_isFloating l k) ⟨va_cnB 1 hts gX0_doubleAt_X2_isFloating_n25 rfl rfl rfl (hE.2.2.2.2.2.1) (hts (.initialized RX2) (by decide +kernel)) (by decide +kernel) ⟨Nat.le_of_ble_eq_true rfl, Nat.le_of_ble_eq_true rfl⟩, hts (.static yX2_isFloating) (by decide +kernel), trivial⟩ ⟨fun a U g mk q => q, fun U hU hW => ⟨rfl, trivial⟩⟩ rfl rfl hl.1 rfl (lv_room (Nat.le_of_ble_eq_true rfl)) dX0_doubleAt_4 ⟨Nat.zero_le _, Nat.zero_le _⟩)) (fun r_1 hr_1 => ?_)
  subst hr_1
  refine lv_if_eq (tgt := 18) hx hb dX0_doubleAt_7 (by decide) (fun q => absurd q ((tb_1 _).mpr hk)) (fun _ => ?_)
  refine lv_aload_n hx hb dX0_doubleAt_10 rfl (lv_at hl 0 rfl) ?_
  refine lv_iload_n hx hb dX0_doubleAt_11 rfl (lv_at hl 1 rfl) ?_
  refine vp_callSd (tc_CR (va_runV (As := [.int i]) (rest := []) ⟨hx, hb, hml, hown, hts⟩ (oX0_realAt l D A cI cJ cD cC ws p0 p1 p2 a w r k len nw nr f g s.heap.size e0 e1 e2 hn i hi) (cwV 1 hts gX0_doubleAt_X0_realAt rfl rfl rfl (by decide +kernel) ⟨Nat.le_of_ble_eq_true rfl, Nat.le_of_ble_eq_true rfl⟩) ⟨tcP.blind, (va_recv hK hP (ci := 0) (q0 := p0) rfl e0), (tcP.go hK hP hD hE hS)⟩ rfl rfl hl.1 rfl (lv_room (Nat.le_of_ble_eq_true rfl)) dX0_doubleAt_12 ⟨Nat.le_of_ble_eq_true rfl, Nat.le_of_ble_eq_true rfl⟩)) (fun r_3 hr_3 => ?_)
  subst hr_3
  refine lv_goto (tgt := 24) hx hb dX0_doubleAt_15 (by decide) ?_
  exact W.dret (v := (g i.toNatClampNeg)) hx hb hr (fun t9 ht9 hW9 => ⟨(g i.toNatClampNeg), rfl, rfl, ht9⟩) (fun q hq => absurd hq List.not_mem_nil) dX0_doubleAt_24
set_option maxHeartbeats 4000000 in
set_option maxRecDepth 100000 in
theorem oX0_doubleAt_w (l : Launch) (D : va_G) (A : Nat → Prop) (cI cJ cD cC : ClassId) (ws : va_W) (p0 p1 p2 : Nat) (a w r : Nat) (k len : Int32) (nw nr : Nat) (f : Nat → Int64) (g : Nat → UInt64) (sz : Nat) (e0 : ws[p0]? = some (a, .inr (0, [.int k, .int len, .ref w, .ref r]))) (e1 : ws[p1]? = some (w, .inl (cJ, nw, .inr (.inl f)))) (e2 : ws[p2]? = some (r, .inl (cD, nr, .inr (.inr (.inr (.inl g)))))) (hn : nw < 2 ^ 31 ∧ nr < 2 ^ 31) (i : Int32) (hi : vp_in i nw) (hk : kFl k = false) : Met l yX0_doubleAt wsX0_doubleAt ({ frames := 1, cells := 0, slots := 0, locals := 21 }) (tcP D A (tcTY cI cJ cD cC) sz [.ref a, .int i] ws) (vp_Sd (fun r => r = FP.l2d (f i.toNatClampNeg))) 0 0 (fun _ => False) := by
  refine Met.ofW (cc := cX0_doubleAt) (maxL := 2) (ret := (some .double)) (by decide) rfl ?_
  intro p e s m args below meth c s₁ B hml hv
  obtain ⟨rfl, hsz, hP, hK, hD, hE⟩ := hv
  have hx := B.exec
  have hb := B.bytes
  have hr := B.returns
  have hts := atoms_spec (ws := wsX0_doubleAt) B.pre
  have hown : s.vm.findClass RX0 = some m.cls := findClass_of_methodNamed B.named
  have hlocks := B.notSynchronized
  have hl := lv_entry ([.ref a, .int i]) (n := 2) (Nat.le_of_ble_eq_true rfl)
  rw [lg_entry_eq]
  generalize (lg_sl ([.ref a, .int i]) ++ List.replicate (2 - (lg_sl ([.ref a, .int i])).length) Slot.unset).toArray = ls at hl ⊢
  have hl : lv_has ls 2 [(0, .ref a), (1, .int i)] := hl
  subst hsz
  have hS : va_S A s.heap s.heap [] := va_S.rf
  refine lv_aload_n hx hb dX0_doubleAt_0 rfl (lv_at hl 0 rfl) ?_
  refine va_get (D := D) (ci := 0) (fs := [.int k, .int len, .ref w, .ref r]) (v := .int k) (C := RX0) (T := TX0) (N := 4) hx hb hts (by decide +kernel) hown hK hP p0 e0 rfl 0 (by decide) (hts (.fieldLink RX0 16 "TypedColumns$Column" "kind" "I") (by decide +kernel)) (fun _ h9 => h9) rfl dX0_doubleAt_1 ?_
  refine vp_callSi (tc_CR (va_runSN (As := [.int k]) (rest := []) ⟨hx, hb, hml, hown, hts⟩ (kX2_isFloating l k) ⟨va_cnB 1 hts gX0_doubleAt_X2_isFloating_n25 rfl rfl rfl (hE.2.2.2.2.2.1) (hts (.initialized RX2) (by decide +kernel)) (by decide +kernel) ⟨Nat.le_of_ble_eq_true rfl, Nat.le_of_ble_eq_true rfl⟩, hts (.static yX2_isFloating) (by decide +kernel), trivial⟩ ⟨fun a U g mk q => q, fun U hU hW => ⟨rfl, trivial⟩⟩ rfl rfl hl.1 rfl (lv_room (Nat.le_of_ble_eq_true rfl)) dX0_doubleAt_4 ⟨Nat.zero_le _, Nat.zero_le _⟩)) (fun r_1 hr_1 => ?_)
  subst hr_1
  refine lv_if_eq (tgt := 18) hx hb dX0_doubleAt_7 (by decide) (fun _ => ?_) (fun q => absurd ((tb_0 _).mpr hk) q)
  refine lv_aload_n hx hb dX0_doubleAt_18 rfl (lv_at hl 0 rfl) ?_
  refine lv_iload_n hx hb dX0_doubleAt_19 rfl (lv_at hl 1 rfl) ?_
  refine vp_callSl (tc_CR (va_runV (As := [.int i]) (rest := []) ⟨hx, hb, hml, hown, hts⟩ (oX0_wholeAt l D A cI cJ cD cC ws p0 p1 p2 a w r k len nw nr f g s.heap.size e0 e1 e2 hn i hi) (cwV 1 hts gX0_doubleAt_X0_wholeAt rfl rfl rfl (by decide +kernel) ⟨Nat.le_of_ble_eq_true rfl, Nat.le_of_ble_eq_true rfl⟩) ⟨tcP.blind, (va_recv hK hP (ci := 0) (q0 := p0) rfl e0), (tcP.go hK hP hD hE hS)⟩ rfl rfl hl.1 rfl (lv_room (Nat.le_of_ble_eq_true rfl)) dX0_doubleAt_20 ⟨Nat.le_of_ble_eq_true rfl, Nat.le_of_ble_eq_true rfl⟩)) (fun r_3 hr_3 => ?_)
  subst hr_3
  refine lv_l2d hx hb dX0_doubleAt_23 ?_
  exact W.dret (v := (FP.l2d (f i.toNatClampNeg))) hx hb hr (fun t9 ht9 hW9 => ⟨(FP.l2d (f i.toNatClampNeg)), rfl, rfl, ht9⟩) (fun q hq => absurd hq List.not_mem_nil) dX0_doubleAt_24
set_option maxHeartbeats 4000000 in
set_option maxRecDepth 100000 in
theorem oX0_putReal (l : Launch) (D : va_G) (A : Nat → Prop) (cI cJ cD cC : ClassId) (ws : va_W) (p0 p1 p2 : Nat) (a w r : Nat) (k len : Int32) (nw nr : Nat) (f : Nat → Int64) (g : Nat → UInt64) (sz : Nat) (e0 : ws[p0]? = some (a, .inr (0, [.int k, .int len, .ref w, .ref r]))) (e1 : ws[p1]? = some (w, .inl (cJ, nw, .inr (.inl f)))) (e2 : ws[p2]? = some (r, .inl (cD, nr, .inr (.inr (.inr (.inl g)))))) (hn : nw < 2 ^ 31 ∧ nr < 2 ^ 31) (i : Int32) (x : UInt64) (hi : vp_in i nr) : Met l yX0_putReal wsX0_putReal ({ frames := 0, cells := 0, slots := 0, locals := 0 }) (tcP D A (tcTY cI cJ cD cC) sz [.ref a, .int i, .double x] ws) (va_Qv (fun _ : Unit => True) (fun _ t => tcB D A (ws.set p2 (r, .inl (cD, nr, .inr (.inr (.inr (.inl (vf_upd g i.toNatClampNeg x))))))) t) A) 0 0 A := by
  refine Met.ofW (cc := cX0_putReal) (maxL := 4) (ret := none) (by decide) rfl ?_
  intro p e s m args below meth c s₁ B hml hv
  obtain ⟨rfl, hsz, hP, hK, hD, hE⟩ := hv
  have hx := B.exec
  have hb := B.bytes
  have hr := B.returns
  have hts := atoms_spec (ws := wsX0_putReal) B.pre
  have hown : s.vm.findClass RX0 = some m.cls := findClass_of_methodNamed B.named
  have hlocks := B.notSynchronized
  have hl := lv_entry ([.ref a, .int i, .double x]) (n := 4) (Nat.le_of_ble_eq_true rfl)
  rw [lg_entry_eq]
  generalize (lg_sl ([.ref a, .int i, .double x]) ++ List.replicate (4 - (lg_sl ([.ref a, .int i, .double x])).length) Slot.unset).toArray = ls at hl ⊢
  have hl : lv_has ls 4 [(0, .ref a), (1, .int i), (2, .double x)] := hl
  subst hsz
  have hS : va_S A s.heap s.heap [] := va_S.rf
  refine lv_iload_n hx hb dX0_putReal_0 rfl (lv_at hl 1 rfl) ?_
  refine lv_if_lt (tgt := 20) hx hb dX0_putReal_1 (by decide) (fun q => absurd q (vp_in_lo hi)) (fun _ => ?_)
  refine lv_iload_n hx hb dX0_putReal_4 rfl (lv_at hl 1 rfl) ?_
  refine lv_aload_n hx hb dX0_putReal_5 rfl (lv_at hl 0 rfl) ?_
  refine va_get (D := D) (ci := 0) (fs := [.int k, .int len, .ref w, .ref r]) (v := .ref r) (C := RX0) (T := TX0) (N := 4) hx hb hts (by decide +kernel) hown hK hP p0 e0 rfl 3 (by decide) (hts (.fieldLink RX0 32 "TypedColumns$Column" "reals" "[D") (by decide +kernel)) (fun _ h9 => h9) rfl dX0_putReal_6 ?_
  refine va_alen (v := (nI nr)) hx hb hK hP p2 2 e2 rfl rfl dX0_putReal_9 ?_
  refine lv_icmp_ge (tgt := 20) hx hb dX0_putReal_10 (by decide) (fun q => absurd q (vp_in_hi hi hn.2)) (fun _ => ?_)
  refine lv_aload_n hx hb dX0_putReal_13 rfl (lv_at hl 0 rfl) ?_
  refine va_get (D := D) (ci := 0) (fs := [.int k, .int len, .ref w, .ref r]) (v := .ref r) (C := RX0) (T := TX0) (N := 4) hx hb hts (by decide +kernel) hown hK hP p0 e0 rfl 3 (by decide) (hts (.fieldLink RX0 32 "TypedColumns$Column" "reals" "[D") (by decide +kernel)) (fun _ h9 => h9) rfl dX0_putReal_14 ?_
  refine lv_iload_n hx hb dX0_putReal_17 rfl (lv_at hl 1 rfl) ?_
  refine lv_dload_n hx hb dX0_putReal_18 rfl (lv_at hl 2 rfl) ?_
  refine va_dast (f := g) hx hb hK hP hD hS p2 2 e2 rfl (hi) dX0_putReal_19 (fun H locs hP hD hS => ?_)
  exact W.vret hx hb hr (fun t9 ht9 hW9 => ⟨⟨(), rfl, trivial, by rw [ht9]; exact hP, hD⟩, hS.F ht9⟩) hS.2.2 dX0_putReal_20
set_option maxHeartbeats 4000000 in
set_option maxRecDepth 100000 in
theorem oX0_putWhole_f (l : Launch) (D : va_G) (A : Nat → Prop) (cI cJ cD cC : ClassId) (ws : va_W) (p0 p1 p2 : Nat) (a w r : Nat) (k len : Int32) (nw nr : Nat) (f : Nat → Int64) (g : Nat → UInt64) (sz : Nat) (e0 : ws[p0]? = some (a, .inr (0, [.int k, .int len, .ref w, .ref r]))) (e1 : ws[p1]? = some (w, .inl (cJ, nw, .inr (.inl f)))) (e2 : ws[p2]? = some (r, .inl (cD, nr, .inr (.inr (.inr (.inl g)))))) (hn : nw < 2 ^ 31 ∧ nr < 2 ^ 31) (i : Int32) (v : Int64) (hi : vp_in i nr) (hk : k = 7) : Met l yX0_putWhole wsX0_putWhole ({ frames := 1, cells := 0, slots := 0, locals := 23 }) (tcP D A (tcTY cI cJ cD cC) sz [.ref a, .int i, .long v] ws) (va_Qv (fun _ : Unit => True) (fun _ t => tcB D A (ws.set p2 (r, .inl (cD, nr, .inr (.inr (.inr (.inl (vf_upd g i.toNatClampNeg (FP.f2d (FP.l2f v))))))))) t) A) 0 0 A := by
  refine Met.ofW (cc := cX0_putWhole) (maxL := 4) (ret := none) (by decide) rfl ?_
  intro p e s m args below meth c s₁ B hml hv
  obtain ⟨rfl, hsz, hP, hK, hD, hE⟩ := hv
  have hx := B.exec
  have hb := B.bytes
  have hr := B.returns
  have hts := atoms_spec (ws := wsX0_putWhole) B.pre
  have hown : s.vm.findClass RX0 = some m.cls := findClass_of_methodNamed B.named
  have hlocks := B.notSynchronized
  have hl := lv_entry ([.ref a, .int i, .long v]) (n := 4) (Nat.le_of_ble_eq_true rfl)
  rw [lg_entry_eq]
  generalize (lg_sl ([.ref a, .int i, .long v]) ++ List.replicate (4 - (lg_sl ([.ref a, .int i, .long v])).length) Slot.unset).toArray = ls at hl ⊢
  have hl : lv_has ls 4 [(0, .ref a), (1, .int i), (2, .long v)] := hl
  subst hsz
  have hS : va_S A s.heap s.heap [] := va_S.rf
  refine lv_aload_n hx hb dX0_putWhole_0 rfl (lv_at hl 0 rfl) ?_
  refine va_get (D := D) (ci := 0) (fs := [.int k, .int len, .ref w, .ref r]) (v := .int k) (C := RX0) (T := TX0) (N := 4) hx hb hts (by decide +kernel) hown hK hP p0 e0 rfl 0 (by decide) (hts (.fieldLink RX0 16 "TypedColumns$Column" "kind" "I") (by decide +kernel)) (fun _ h9 => h9) rfl dX0_putWhole_1 ?_
  refine lv_bipush (v := 7) hx hb dX0_putWhole_4 (by decide) ?_
  refine lv_icmp_ne (tgt := 20) hx hb dX0_putWhole_6 (by decide) (fun q => absurd (hk) q) (fun _ => ?_)
  refine lv_aload_n hx hb dX0_putWhole_9 rfl (lv_at hl 0 rfl) ?_
  refine lv_iload_n hx hb dX0_putWhole_10 rfl (lv_at hl 1 rfl) ?_
  refine lv_lload_n hx hb dX0_putWhole_11 rfl (lv_at hl 2 rfl) ?_
  refine lv_l2f hx hb dX0_putWhole_12 ?_
  refine lv_f2d hx hb dX0_putWhole_13 ((tf_n64 _).mpr (tf_f2d (tf_l2f v))) ?_
  refine va_callv (va_runV (As := [.int i, .double (FP.f2d (FP.l2f v))]) (rest := []) ⟨hx, hb, hml, hown, hts⟩ (oX0_putReal l D A cI cJ cD cC ws p0 p1 p2 a w r k len nw nr f g s.heap.size e0 e1 e2 hn i (FP.f2d (FP.l2f v)) hi) (cwV 2 hts gX0_putWhole_X0_putReal rfl rfl rfl (by decide +kernel) ⟨Nat.le_of_ble_eq_true rfl, Nat.le_of_ble_eq_true rfl⟩) ⟨tcP.blind, (va_recv hK hP (ci := 0) (q0 := p0) rfl e0), (tcP.go hK hP hD hE hS)⟩ rfl rfl hl.1 rfl (lv_room (Nat.le_of_ble_eq_true rfl)) dX0_putWhole_14 ⟨Nat.le_of_ble_eq_true rfl, Nat.le_of_ble_eq_true rfl⟩) hS (fun q _ h => h) (fun q h => h) (fun u t H locs ht hvm hw hB hz1 hk1 hS => ?_)
  obtain ⟨hP, hD⟩ := hB
  rw [ht] at hP
  refine lv_goto (tgt := 59) hx hb dX0_putWhole_17 (by decide) ?_
  exact W.vret hx hb hr (fun t9 ht9 hW9 => ⟨⟨(), rfl, trivial, by rw [ht9]; exact hP, hD⟩, hS.F ht9⟩) hS.2.2 dX0_putWhole_59
set_option maxHeartbeats 4000000 in
set_option maxRecDepth 100000 in
theorem oX0_putWhole_d (l : Launch) (D : va_G) (A : Nat → Prop) (cI cJ cD cC : ClassId) (ws : va_W) (p0 p1 p2 : Nat) (a w r : Nat) (k len : Int32) (nw nr : Nat) (f : Nat → Int64) (g : Nat → UInt64) (sz : Nat) (e0 : ws[p0]? = some (a, .inr (0, [.int k, .int len, .ref w, .ref r]))) (e1 : ws[p1]? = some (w, .inl (cJ, nw, .inr (.inl f)))) (e2 : ws[p2]? = some (r, .inl (cD, nr, .inr (.inr (.inr (.inl g)))))) (hn : nw < 2 ^ 31 ∧ nr < 2 ^ 31) (i : Int32) (v : Int64) (hi : vp_in i nr) (hk : k = 8) : Met l yX0_putWhole wsX0_putWhole ({ frames := 1, cells := 0, slots := 0, locals := 23 }) (tcP D A (tcTY cI cJ cD cC) sz [.ref a, .int i, .long v] ws) (va_Qv (fun _ : Unit => True) (fun _ t => tcB D A (ws.set p2 (r, .inl (cD, nr, .inr (.inr (.inr (.inl (vf_upd g i.toNatClampNeg (FP.l2d v)))))))) t) A) 0 0 A := by
  refine Met.ofW (cc := cX0_putWhole) (maxL := 4) (ret := none) (by decide) rfl ?_
  intro p e s m args below meth c s₁ B hml hv
  obtain ⟨rfl, hsz, hP, hK, hD, hE⟩ := hv
  have hx := B.exec
  have hb := B.bytes
  have hr := B.returns
  have hts := atoms_spec (ws := wsX0_putWhole) B.pre
  have hown : s.vm.findClass RX0 = some m.cls := findClass_of_methodNamed B.named
  have hlocks := B.notSynchronized
  have hl := lv_entry ([.ref a, .int i, .long v]) (n := 4) (Nat.le_of_ble_eq_true rfl)
  rw [lg_entry_eq]
  generalize (lg_sl ([.ref a, .int i, .long v]) ++ List.replicate (4 - (lg_sl ([.ref a, .int i, .long v])).length) Slot.unset).toArray = ls at hl ⊢
  have hl : lv_has ls 4 [(0, .ref a), (1, .int i), (2, .long v)] := hl
  subst hsz
  have hS : va_S A s.heap s.heap [] := va_S.rf
  refine lv_aload_n hx hb dX0_putWhole_0 rfl (lv_at hl 0 rfl) ?_
  refine va_get (D := D) (ci := 0) (fs := [.int k, .int len, .ref w, .ref r]) (v := .int k) (C := RX0) (T := TX0) (N := 4) hx hb hts (by decide +kernel) hown hK hP p0 e0 rfl 0 (by decide) (hts (.fieldLink RX0 16 "TypedColumns$Column" "kind" "I") (by decide +kernel)) (fun _ h9 => h9) rfl dX0_putWhole_1 ?_
  refine lv_bipush (v := 7) hx hb dX0_putWhole_4 (by decide) ?_
  refine lv_icmp_ne (tgt := 20) hx hb dX0_putWhole_6 (by decide) (fun _ => ?_) (fun q => absurd q (show ¬ k = 7 from by rw [hk]; decide))
  refine lv_aload_n hx hb dX0_putWhole_20 rfl (lv_at hl 0 rfl) ?_
  refine va_get (D := D) (ci := 0) (fs := [.int k, .int len, .ref w, .ref r]) (v := .int k) (C := RX0) (T := TX0) (N := 4) hx hb hts (by decide +kernel) hown hK hP p0 e0 rfl 0 (by decide) (hts (.fieldLink RX0 16 "TypedColumns$Column" "kind" "I") (by decide +kernel)) (fun _ h9 => h9) rfl dX0_putWhole_21 ?_
  refine lv_bipush (v := 8) hx hb dX0_putWhole_24 (by decide) ?_
  refine lv_icmp_ne (tgt := 39) hx hb dX0_putWhole_26 (by decide) (fun q => absurd (hk) q) (fun _ => ?_)
  refine lv_aload_n hx hb dX0_putWhole_29 rfl (lv_at hl 0 rfl) ?_
  refine lv_iload_n hx hb dX0_putWhole_30 rfl (lv_at hl 1 rfl) ?_
  refine lv_lload_n hx hb dX0_putWhole_31 rfl (lv_at hl 2 rfl) ?_
  refine lv_l2d hx hb dX0_putWhole_32 ?_
  refine va_callv (va_runV (As := [.int i, .double (FP.l2d v)]) (rest := []) ⟨hx, hb, hml, hown, hts⟩ (oX0_putReal l D A cI cJ cD cC ws p0 p1 p2 a w r k len nw nr f g s.heap.size e0 e1 e2 hn i (FP.l2d v) hi) (cwV 2 hts gX0_putWhole_X0_putReal rfl rfl rfl (by decide +kernel) ⟨Nat.le_of_ble_eq_true rfl, Nat.le_of_ble_eq_true rfl⟩) ⟨tcP.blind, (va_recv hK hP (ci := 0) (q0 := p0) rfl e0), (tcP.go hK hP hD hE hS)⟩ rfl rfl hl.1 rfl (lv_room (Nat.le_of_ble_eq_true rfl)) dX0_putWhole_33 ⟨Nat.le_of_ble_eq_true rfl, Nat.le_of_ble_eq_true rfl⟩) hS (fun q _ h => h) (fun q h => h) (fun u t H locs ht hvm hw hB hz1 hk1 hS => ?_)
  obtain ⟨hP, hD⟩ := hB
  rw [ht] at hP
  refine lv_goto (tgt := 59) hx hb dX0_putWhole_36 (by decide) ?_
  exact W.vret hx hb hr (fun t9 ht9 hW9 => ⟨⟨(), rfl, trivial, by rw [ht9]; exact hP, hD⟩, hS.F ht9⟩) hS.2.2 dX0_putWhole_59
set_option maxHeartbeats 4000000 in
set_option maxRecDepth 100000 in
theorem oX0_putWhole_w (l : Launch) (D : va_G) (A : Nat → Prop) (cI cJ cD cC : ClassId) (ws : va_W) (p0 p1 p2 : Nat) (a w r : Nat) (k len : Int32) (nw nr : Nat) (f : Nat → Int64) (g : Nat → UInt64) (sz : Nat) (e0 : ws[p0]? = some (a, .inr (0, [.int k, .int len, .ref w, .ref r]))) (e1 : ws[p1]? = some (w, .inl (cJ, nw, .inr (.inl f)))) (e2 : ws[p2]? = some (r, .inl (cD, nr, .inr (.inr (.inr (.inl g)))))) (hn : nw < 2 ^ 31 ∧ nr < 2 ^ 31) (i : Int32) (v : Int64) (hi : vp_in i nw) (hk : kFl k = false) : Met l yX0_putWhole wsX0_putWhole ({ frames := 0, cells := 0, slots := 0, locals := 0 }) (tcP D A (tcTY cI cJ cD cC) sz [.ref a, .int i, .long v] ws) (va_Qv (fun _ : Unit => True) (fun _ t => tcB D A (ws.set p1 (w, .inl (cJ, nw, .inr (.inl (vp_updL f i.toNatClampNeg v))))) t) A) 0 0 A := by
  refine Met.ofW (cc := cX0_putWhole) (maxL := 4) (ret := none) (by decide) rfl ?_
  intro p e s m args below meth c s₁ B hml hv
  obtain ⟨rfl, hsz, hP, hK, hD, hE⟩ := hv
  have hx := B.exec
  have hb := B.bytes
  have hr := B.returns
  have hts := atoms_spec (ws := wsX0_putWhole) B.pre
  have hown : s.vm.findClass RX0 = some m.cls := findClass_of_methodNamed B.named
  have hlocks := B.notSynchronized
  have hl := lv_entry ([.ref a, .int i, .long v]) (n := 4) (Nat.le_of_ble_eq_true rfl)
  rw [lg_entry_eq]
  generalize (lg_sl ([.ref a, .int i, .long v]) ++ List.replicate (4 - (lg_sl ([.ref a, .int i, .long v])).length) Slot.unset).toArray = ls at hl ⊢
  have hl : lv_has ls 4 [(0, .ref a), (1, .int i), (2, .long v)] := hl
  subst hsz
  have hS : va_S A s.heap s.heap [] := va_S.rf
  refine lv_aload_n hx hb dX0_putWhole_0 rfl (lv_at hl 0 rfl) ?_
  refine va_get (D := D) (ci := 0) (fs := [.int k, .int len, .ref w, .ref r]) (v := .int k) (C := RX0) (T := TX0) (N := 4) hx hb hts (by decide +kernel) hown hK hP p0 e0 rfl 0 (by decide) (hts (.fieldLink RX0 16 "TypedColumns$Column" "kind" "I") (by decide +kernel)) (fun _ h9 => h9) rfl dX0_putWhole_1 ?_
  refine lv_bipush (v := 7) hx hb dX0_putWhole_4 (by decide) ?_
  refine lv_icmp_ne (tgt := 20) hx hb dX0_putWhole_6 (by decide) (fun _ => ?_) (fun q => absurd q ((kFl_no hk).1))
  refine lv_aload_n hx hb dX0_putWhole_20 rfl (lv_at hl 0 rfl) ?_
  refine va_get (D := D) (ci := 0) (fs := [.int k, .int len, .ref w, .ref r]) (v := .int k) (C := RX0) (T := TX0) (N := 4) hx hb hts (by decide +kernel) hown hK hP p0 e0 rfl 0 (by decide) (hts (.fieldLink RX0 16 "TypedColumns$Column" "kind" "I") (by decide +kernel)) (fun _ h9 => h9) rfl dX0_putWhole_21 ?_
  refine lv_bipush (v := 8) hx hb dX0_putWhole_24 (by decide) ?_
  refine lv_icmp_ne (tgt := 39) hx hb dX0_putWhole_26 (by decide) (fun _ => ?_) (fun q => absurd q ((kFl_no hk).2))
  refine lv_iload_n hx hb dX0_putWhole_39 rfl (lv_at hl 1 rfl) ?_
  refine lv_if_lt (tgt := 59) hx hb dX0_putWhole_40 (by decide) (fun q => absurd q (vp_in_lo hi)) (fun _ => ?_)
  refine lv_iload_n hx hb dX0_putWhole_43 rfl (lv_at hl 1 rfl) ?_
  refine lv_aload_n hx hb dX0_putWhole_44 rfl (lv_at hl 0 rfl) ?_
  refine va_get (D := D) (ci := 0) (fs := [.int k, .int len, .ref w, .ref r]) (v := .ref w) (C := RX0) (T := TX0) (N := 4) hx hb hts (by decide +kernel) hown hK hP p0 e0 rfl 2 (by decide) (hts (.fieldLink RX0 28 "TypedColumns$Column" "wholes" "[J") (by decide +kernel)) (fun _ h9 => h9) rfl dX0_putWhole_45 ?_
  refine va_alen (v := (nI nw)) hx hb hK hP p1 1 e1 rfl rfl dX0_putWhole_48 ?_
  refine lv_icmp_ge (tgt := 59) hx hb dX0_putWhole_49 (by decide) (fun q => absurd q (vp_in_hi hi hn.1)) (fun _ => ?_)
  refine lv_aload_n hx hb dX0_putWhole_52 rfl (lv_at hl 0 rfl) ?_
  refine va_get (D := D) (ci := 0) (fs := [.int k, .int len, .ref w, .ref r]) (v := .ref w) (C := RX0) (T := TX0) (N := 4) hx hb hts (by decide +kernel) hown hK hP p0 e0 rfl 2 (by decide) (hts (.fieldLink RX0 28 "TypedColumns$Column" "wholes" "[J") (by decide +kernel)) (fun _ h9 => h9) rfl dX0_putWhole_53 ?_
  refine lv_iload_n hx hb dX0_putWhole_56 rfl (lv_at hl 1 rfl) ?_
  refine lv_lload_n hx hb dX0_putWhole_57 rfl (lv_at hl 2 rfl) ?_
  refine va_last (f := f) hx hb hK hP hD hS p1 1 e1 rfl (hi) dX0_putWhole_58 (fun H locs hP hD hS => ?_)
  exact W.vret hx hb hr (fun t9 ht9 hW9 => ⟨⟨(), rfl, trivial, by rw [ht9]; exact hP, hD⟩, hS.F ht9⟩) hS.2.2 dX0_putWhole_59
end
section
/-! A COLUMN: the methods with loops, copies and arrays of their own -/
set_option maxHeartbeats 4000000 in
set_option maxRecDepth 100000 in
theorem oX0_sum_r (l : Launch) (D : va_G) (A : Nat → Prop) (cI cJ cD cC : ClassId) (ws : va_W) (p0 p1 p2 : Nat) (a w r : Nat) (k len : Int32) (nw nr : Nat) (f : Nat → Int64) (g : Nat → UInt64) (sz : Nat) (e0 : ws[p0]? = some (a, .inr (0, [.int k, .int len, .ref w, .ref r]))) (e1 : ws[p1]? = some (w, .inl (cJ, nw, .inr (.inl f)))) (e2 : ws[p2]? = some (r, .inl (cD, nr, .inr (.inr (.inr (.inl g)))))) (hn : nw < 2 ^ 31 ∧ nr < 2 ^ 31) (hk : kFl k = true) (hlen : len = nI nr) : Met l yX0_sum wsX0_sum ({ frames := 2, cells := 0, slots := 0, locals := 44 }) (tcP D A (tcTY cI cJ cD cC) sz [.ref a] ws) (vp_Sd (fun r => r = tf_sum g nr)) 0 0 (fun _ => False) := by
  refine Met.ofW (cc := cX0_sum) (maxL := 4) (ret := (some .double)) (by decide) rfl ?_
  intro p e s m args below meth c s₁ B hml hv
  obtain ⟨rfl, hsz, hP, hK, hD, hE⟩ := hv
  have hx := B.exec
  have hb := B.bytes
  have hr := B.returns
  have hts := atoms_spec (ws := wsX0_sum) B.pre
  have hown : s.vm.findClass RX0 = some m.cls := findClass_of_methodNamed B.named
  have hlocks := B.notSynchronized
  have hl := lv_entry ([.ref a]) (n := 4) (Nat.le_of_ble_eq_true rfl)
  rw [lg_entry_eq]
  generalize (lg_sl ([.ref a]) ++ List.replicate (4 - (lg_sl ([.ref a])).length) Slot.unset).toArray = ls at hl ⊢
  have hl : lv_has ls 4 [(0, .ref a)] := hl
  subst hsz
  have hS : va_S A s.heap s.heap [] := va_S.rf
  refine lv_dconst0 hx hb dX0_sum_0 ?_
  refine lv_dstore_n (lv' := [(1, .double FP.dconst0), (0, .ref a)]) hx hb dX0_sum_1 rfl hl (by decide) rfl (fun ls hl => ?_)
  refine lv_iconst (v := 0) hx hb dX0_sum_2 (by decide) ?_
  refine lv_istore_n (lv' := [(3, .int 0), (1, .double FP.dconst0), (0, .ref a)]) hx hb dX0_sum_3 rfl hl (by decide) rfl (fun ls hl => ?_)
  refine tc_loop (fun k9 H locs ls => ∃ i : Nat, i + k9 = nr ∧ (H = s.heap ∧ locs = []) ∧ lv_has ls 4 [(3, .int (nI i)), (1, .double (tf_sum g i)), (0, .ref a)]) (fun k9 H locs ls hi9 ih => ?_) (fun H locs ls hi9 => ?_) nr ⟨0, by omega, ⟨rfl, rfl⟩, hl⟩
  · obtain ⟨i, hik, ⟨rfl, rfl⟩, hl⟩ := hi9
    have hiN : i < nr := by omega
    refine lv_iload_n hx hb dX0_sum_4 rfl (lv_at hl 0 rfl) ?_
    refine lv_aload_n hx hb dX0_sum_5 rfl (lv_at hl 2 rfl) ?_
    refine va_get (D := D) (ci := 0) (fs := [.int k, .int len, .ref w, .ref r]) (v := .int len) (C := RX0) (T := TX0) (N := 4) hx hb hts (by decide +kernel) hown hK hP p0 e0 rfl 1 (by decide) (hts (.fieldLink RX0 22 "TypedColumns$Column" "length" "I") (by decide +kernel)) (fun _ h9 => h9) rfl dX0_sum_6 ?_
    refine lv_icmp_ge (tgt := 28) hx hb dX0_sum_9 (by decide) (fun q => absurd q (by rw [hlen]; exact nI_ge hiN hn.2)) (fun _ => ?_)
    refine lv_dload_n hx hb dX0_sum_12 rfl (lv_at hl 1 rfl) ?_
    refine lv_aload_n hx hb dX0_sum_13 rfl (lv_at hl 2 rfl) ?_
    refine lv_iload_n hx hb dX0_sum_14 rfl (lv_at hl 0 rfl) ?_
    refine vp_callSd (tc_CR (va_runV (As := [.int (nI i)]) (rest := [.double (tf_sum g i)]) ⟨hx, hb, hml, hown, hts⟩ (oX0_doubleAt_r l D A cI cJ cD cC ws p0 p1 p2 a w r k len nw nr f g s.heap.size e0 e1 e2 hn (nI i) (vp_in_nI hiN hn.2) hk) (cwV 1 hts gX0_sum_X0_doubleAt rfl rfl rfl (by decide +kernel) ⟨Nat.le_of_ble_eq_true rfl, Nat.le_of_ble_eq_true rfl⟩) ⟨tcP.blind, (va_recv hK hP (ci := 0) (q0 := p0) rfl e0), (tcP.go hK hP hD hE hS)⟩ rfl rfl hl.1 rfl (lv_room (Nat.le_of_ble_eq_true rfl)) dX0_sum_15 ⟨Nat.le_of_ble_eq_true rfl, Nat.le_of_ble_eq_true rfl⟩)) (fun r_2 hr_2 => ?_)
    subst hr_2
    rw [nI_clamp (n := i) (by omega)]
    refine vp_callSd (tc_CR (va_runSN (As := [.double (tf_sum g i), .double (g i)]) (rest := []) ⟨hx, hb, hml, hown, hts⟩ (kX2_sumOf l (tf_sum g i) (g i)) ⟨va_cnB 2 hts gX0_sum_X2_sumOf_n69 rfl rfl rfl (hE.2.2.2.2.2.2.2.2.1) (hts (.initialized RX2) (by decide +kernel)) (by decide +kernel) ⟨Nat.le_of_ble_eq_true rfl, Nat.le_of_ble_eq_true rfl⟩, hts (.static yX2_sumOf) (by decide +kernel), trivial⟩ ⟨fun a U g mk q => q, fun U hU hW => ⟨rfl, trivial⟩⟩ rfl rfl hl.1 rfl (lv_room (Nat.le_of_ble_eq_true rfl)) dX0_sum_18 ⟨Nat.zero_le _, Nat.zero_le _⟩)) (fun r_3 hr_3 => ?_)
    subst hr_3
    refine lv_dstore_n (lv' := [(1, .double (tf_canon (FP.dadd (tf_sum g i) (g i)))), (3, .int (nI i)), (0, .ref a)]) hx hb dX0_sum_21 rfl hl (by decide) rfl (fun ls hl => ?_)
    obtain ⟨x_4, ex_4⟩ : ∃ y : Int32, y = (nI i) + (1) := ⟨_, rfl⟩
    refine lv_iinc (v := x_4) (lv' := [(3, .int x_4), (1, .double (tf_canon (FP.dadd (tf_sum g i) (g i)))), (0, .ref a)]) hx hb dX0_sum_22 hl (k := 1) rfl (by rw [ex_4]; rfl) (by decide) rfl (fun ls hl => ?_)
    refine lv_goto (tgt := 4) hx hb dX0_sum_25 (by decide) ?_
    subst ex_4
    exact ih _ _ _ ⟨i + 1, by omega, ⟨rfl, rfl⟩, by rw [nI_succ]; exact lv_sub hl [0, 1, 2] rfl⟩
  · obtain ⟨i, hik, ⟨rfl, rfl⟩, hl⟩ := hi9
    have hiN : i = nr := by omega
    subst hiN
    refine lv_iload_n hx hb dX0_sum_4 rfl (lv_at hl 0 rfl) ?_
    refine lv_aload_n hx hb dX0_sum_5 rfl (lv_at hl 2 rfl) ?_
    refine va_get (D := D) (ci := 0) (fs := [.int k, .int len, .ref w, .ref r]) (v := .int len) (C := RX0) (T := TX0) (N := 4) hx hb hts (by decide +kernel) hown hK hP p0 e0 rfl 1 (by decide) (hts (.fieldLink RX0 22 "TypedColumns$Column" "length" "I") (by decide +kernel)) (fun _ h9 => h9) rfl dX0_sum_6 ?_
    refine lv_icmp_ge (tgt := 28) hx hb dX0_sum_9 (by decide) (fun _ => ?_) (fun q => absurd (by rw [hlen]; exact nI_le (Nat.le_refl _) hn.2) q)
    refine lv_dload_n hx hb dX0_sum_28 rfl (lv_at hl 1 rfl) ?_
    exact W.dret (v := (tf_sum g i)) hx hb hr (fun t9 ht9 hW9 => ⟨(tf_sum g i), rfl, rfl, ht9⟩) (fun q hq => absurd hq List.not_mem_nil) dX0_sum_29
set_option maxHeartbeats 4000000 in
set_option maxRecDepth 100000 in
theorem oX0_sum_w (l : Launch) (D : va_G) (A : Nat → Prop) (cI cJ cD cC : ClassId) (ws : va_W) (p0 p1 p2 : Nat) (a w r : Nat) (k len : Int32) (nw nr : Nat) (f : Nat → Int64) (g : Nat → UInt64) (sz : Nat) (e0 : ws[p0]? = some (a, .inr (0, [.int k, .int len, .ref w, .ref r]))) (e1 : ws[p1]? = some (w, .inl (cJ, nw, .inr (.inl f)))) (e2 : ws[p2]? = some (r, .inl (cD, nr, .inr (.inr (.inr (.inl g)))))) (hn : nw < 2 ^ 31 ∧ nr < 2 ^ 31) (hk : kFl k = false) (hlen : len = nI nw) : Met l yX0_sum wsX0_sum ({ frames := 2, cells := 0, slots := 0, locals := 44 }) (tcP D A (tcTY cI cJ cD cC) sz [.ref a] ws) (vp_Sd (fun r => r = tf_sum (fun q => FP.l2d (f q)) nw)) 0 0 (fun _ => False) := by
  refine Met.ofW (cc := cX0_sum) (maxL := 4) (ret := (some .double)) (by decide) rfl ?_
  intro p e s m args below meth c s₁ B hml hv
  obtain ⟨rfl, hsz, hP, hK, hD, hE⟩ := hv
  have hx := B.exec
  have hb := B.bytes
  have hr := B.returns
  have hts := atoms_spec (ws := wsX0_sum) B.pre
  have hown : s.vm.findClass RX0 = some m.cls := findClass_of_methodNamed B.named
  have hlocks := B.notSynchronized
  have hl := lv_entry ([.ref a]) (n := 4) (Nat.le_of_ble_eq_true rfl)
  rw [lg_entry_eq]
  generalize (lg_sl ([.ref a]) ++ List.replicate (4 - (lg_sl ([.ref a])).length) Slot.unset).toArray = ls at hl ⊢
  have hl : lv_has ls 4 [(0, .ref a)] := hl
  subst hsz
  have hS : va_S A s.heap s.heap [] := va_S.rf
  refine lv_dconst0 hx hb dX0_sum_0 ?_
  refine lv_dstore_n (lv' := [(1, .double FP.dconst0), (0, .ref a)]) hx hb dX0_sum_1 rfl hl (by decide) rfl (fun ls hl => ?_)
  refine lv_iconst (v := 0) hx hb dX0_sum_2 (by decide) ?_
  refine lv_istore_n (lv' := [(3, .int 0), (1, .double FP.dconst0), (0, .ref a)]) hx hb dX0_sum_3 rfl hl (by decide) rfl (fun ls hl => ?_)
  refine tc_loop (fun k9 H locs ls => ∃ i : Nat, i + k9 = nw ∧ (H = s.heap ∧ locs = []) ∧ lv_has ls 4 [(3, .int (nI i)), (1, .double (tf_sum (fun q => FP.l2d (f q)) i)), (0, .ref a)]) (fun k9 H locs ls hi9 ih => ?_) (fun H locs ls hi9 => ?_) nw ⟨0, by omega, ⟨rfl, rfl⟩, hl⟩
  · obtain ⟨i, hik, ⟨rfl, rfl⟩, hl⟩ := hi9
    have hiN : i < nw := by omega
    refine lv_iload_n hx hb dX0_sum_4 rfl (lv_at hl 0 rfl) ?_
    refine lv_aload_n hx hb dX0_sum_5 rfl (lv_at hl 2 rfl) ?_
    refine va_get (D := D) (ci := 0) (fs := [.int k, .int len, .ref w, .ref r]) (v := .int len) (C := RX0) (T := TX0) (N := 4) hx hb hts (by decide +kernel) hown hK hP p0 e0 rfl 1 (by decide) (hts (.fieldLink RX0 22 "TypedColumns$Column" "length" "I") (by decide +kernel)) (fun _ h9 => h9) rfl dX0_sum_6 ?_
    refine lv_icmp_ge (tgt := 28) hx hb dX0_sum_9 (by decide) (fun q => absurd q (by rw [hlen]; exact nI_ge hiN hn.1)) (fun _ => ?_)
    refine lv_dload_n hx hb dX0_sum_12 rfl (lv_at hl 1 rfl) ?_
    refine lv_aload_n hx hb dX0_sum_13 rfl (lv_at hl 2 rfl) ?_
    refine lv_iload_n hx hb dX0_sum_14 rfl (lv_at hl 0 rfl) ?_
    refine vp_callSd (tc_CR (va_runV (As := [.int (nI i)]) (rest := [.double (tf_sum (fun q => FP.l2d (f q)) i)]) ⟨hx, hb, hml, hown, hts⟩ (oX0_doubleAt_w l D A cI cJ cD cC ws p0 p1 p2 a w r k len nw nr f g s.heap.size e0 e1 e2 hn (nI i) (vp_in_nI hiN hn.1) hk) (cwV 1 hts gX0_sum_X0_doubleAt rfl rfl rfl (by decide +kernel) ⟨Nat.le_of_ble_eq_true rfl, Nat.le_of_ble_eq_true rfl⟩) ⟨tcP.blind, (va_recv hK hP (ci := 0) (q0 := p0) rfl e0), (tcP.go hK hP hD hE hS)⟩ rfl rfl hl.1 rfl (lv_room (Nat.le_of_ble_eq_true rfl)) dX0_sum_15 ⟨Nat.le_of_ble_eq_true rfl, Nat.le_of_ble_eq_true rfl⟩)) (fun r_2 hr_2 => ?_)
    subst hr_2
    rw [nI_clamp (n := i) (by omega)]
    refine vp_callSd (tc_CR (va_runSN (As := [.double (tf_sum (fun q => FP.l2d (f q)) i), .double (FP.l2d (f i))]) (rest := []) ⟨hx, hb, hml, hown, hts⟩ (kX2_sumOf l (tf_sum (fun q => FP.l2d (f q)) i) (FP.l2d (f i))) ⟨va_cnB 2 hts gX0_sum_X2_sumOf_n69 rfl rfl rfl (hE.2.2.2.2.2.2.2.2.1) (hts (.initialized RX2) (by decide +kernel)) (by decide +kernel) ⟨Nat.le_of_ble_eq_true rfl, Nat.le_of_ble_eq_true rfl⟩, hts (.static yX2_sumOf) (by decide +kernel), trivial⟩ ⟨fun a U g mk q => q, fun U hU hW => ⟨rfl, trivial⟩⟩ rfl rfl hl.1 rfl (lv_room (Nat.le_of_ble_eq_true rfl)) dX0_sum_18 ⟨Nat.zero_le _, Nat.zero_le _⟩)) (fun r_3 hr_3 => ?_)
    subst hr_3
    refine lv_dstore_n (lv' := [(1, .double (tf_canon (FP.dadd (tf_sum (fun q => FP.l2d (f q)) i) (FP.l2d (f i))))), (3, .int (nI i)), (0, .ref a)]) hx hb dX0_sum_21 rfl hl (by decide) rfl (fun ls hl => ?_)
    obtain ⟨x_4, ex_4⟩ : ∃ y : Int32, y = (nI i) + (1) := ⟨_, rfl⟩
    refine lv_iinc (v := x_4) (lv' := [(3, .int x_4), (1, .double (tf_canon (FP.dadd (tf_sum (fun q => FP.l2d (f q)) i) (FP.l2d (f i))))), (0, .ref a)]) hx hb dX0_sum_22 hl (k := 1) rfl (by rw [ex_4]; rfl) (by decide) rfl (fun ls hl => ?_)
    refine lv_goto (tgt := 4) hx hb dX0_sum_25 (by decide) ?_
    subst ex_4
    exact ih _ _ _ ⟨i + 1, by omega, ⟨rfl, rfl⟩, by rw [nI_succ]; exact lv_sub hl [0, 1, 2] rfl⟩
  · obtain ⟨i, hik, ⟨rfl, rfl⟩, hl⟩ := hi9
    have hiN : i = nw := by omega
    subst hiN
    refine lv_iload_n hx hb dX0_sum_4 rfl (lv_at hl 0 rfl) ?_
    refine lv_aload_n hx hb dX0_sum_5 rfl (lv_at hl 2 rfl) ?_
    refine va_get (D := D) (ci := 0) (fs := [.int k, .int len, .ref w, .ref r]) (v := .int len) (C := RX0) (T := TX0) (N := 4) hx hb hts (by decide +kernel) hown hK hP p0 e0 rfl 1 (by decide) (hts (.fieldLink RX0 22 "TypedColumns$Column" "length" "I") (by decide +kernel)) (fun _ h9 => h9) rfl dX0_sum_6 ?_
    refine lv_icmp_ge (tgt := 28) hx hb dX0_sum_9 (by decide) (fun _ => ?_) (fun q => absurd (by rw [hlen]; exact nI_le (Nat.le_refl _) hn.1) q)
    refine lv_dload_n hx hb dX0_sum_28 rfl (lv_at hl 1 rfl) ?_
    exact W.dret (v := (tf_sum (fun q => FP.l2d (f q)) i)) hx hb hr (fun t9 ht9 hW9 => ⟨(tf_sum (fun q => FP.l2d (f q)) i), rfl, rfl, ht9⟩) (fun q hq => absurd hq List.not_mem_nil) dX0_sum_29
set_option maxHeartbeats 4000000 in
set_option maxRecDepth 100000 in
theorem oX0_takeCells (l : Launch) (D : va_G) (A : Nat → Prop) (cI cJ cD cC : ClassId) (ws : va_W) (p0 p1 p2 : Nat) (a w r : Nat) (k len : Int32) (nw nr : Nat) (f : Nat → Int64) (g : Nat → UInt64) (sz : Nat) (e0 : ws[p0]? = some (a, .inr (0, [.int k, .int len, .ref w, .ref r]))) (e1 : ws[p1]? = some (w, .inl (cJ, nw, .inr (.inl f)))) (e2 : ws[p2]? = some (r, .inl (cD, nr, .inr (.inr (.inr (.inl g)))))) (hn : nw < 2 ^ 31 ∧ nr < 2 ^ 31) (u0 u1 u2 : Nat) (sa sw sr : Nat) (sk slen : Int32) (snw snr : Nat) (sf : Nat → Int64) (sg : Nat → UInt64) (d0 : ws[u0]? = some (sa, .inr (0, [.int sk, .int slen, .ref sw, .ref sr]))) (d1 : ws[u1]? = some (sw, .inl (cJ, snw, .inr (.inl sf)))) (d2 : ws[u2]? = some (sr, .inl (cD, snr, .inr (.inr (.inr (.inl sg)))))) (hm : snw < 2 ^ 31 ∧ snr < 2 ^ 31) (sp dp n : Int32) (hne : p1 ≠ p0 ∧ p1 ≠ p2 ∧ p1 ≠ u0 ∧ p1 ≠ u2) : Met l yX0_takeCells wsX0_takeCells ({ frames := 1, cells := 0, slots := 0, locals := 40 }) (tcP D A (tcTY cI cJ cD cC) sz [.ref a, .ref sa, .int sp, .int dp, .int n] ws) (va_Qv (fun _ : Unit => True) (fun _ t => tcB D A ((ws.set p1 (w, .inl (cJ, nw, .inr (.inl (tc_tk sf f (kPart sp n (nI snw)) (kPart dp n (nI nw)) sp dp n))))).set p2 (r, .inl (cD, nr, .inr (.inr (.inr (.inl (tc_tk sg g (kPart sp n (nI snr)) (kPart dp n (nI nr)) sp dp n))))))) t) A) 0 0 A := by
  refine Met.ofW (cc := cX0_takeCells) (maxL := 5) (ret := none) (by decide) rfl ?_
  intro p e s m args below meth c s₁ B hml hv
  obtain ⟨rfl, hsz, hP, hK, hD, hE⟩ := hv
  have hx := B.exec
  have hb := B.bytes
  have hr := B.returns
  have hts := atoms_spec (ws := wsX0_takeCells) B.pre
  have hown : s.vm.findClass RX0 = some m.cls := findClass_of_methodNamed B.named
  have hlocks := B.notSynchronized
  have hl := lv_entry ([.ref a, .ref sa, .int sp, .int dp, .int n]) (n := 5) (Nat.le_of_ble_eq_true rfl)
  rw [lg_entry_eq]
  generalize (lg_sl ([.ref a, .ref sa, .int sp, .int dp, .int n]) ++ List.replicate (5 - (lg_sl ([.ref a, .ref sa, .int sp, .int dp, .int n])).length) Slot.unset).toArray = ls at hl ⊢
  have hl : lv_has ls 5 [(0, .ref a), (1, .ref sa), (2, .int sp), (3, .int dp), (4, .int n)] := hl
  subst hsz
  have hS : va_S A s.heap s.heap [] := va_S.rf
  refine lv_iload_n hx hb dX0_takeCells_0 rfl (lv_at hl 2 rfl) ?_
  refine lv_iload hx hb dX0_takeCells_1 (lv_at hl 4 rfl) ?_
  refine lv_aload_n hx hb dX0_takeCells_3 rfl (lv_at hl 1 rfl) ?_
  refine va_get (D := D) (ci := 0) (fs := [.int sk, .int slen, .ref sw, .ref sr]) (v := .ref sw) (C := RX0) (T := TX0) (N := 4) hx hb hts (by decide +kernel) hown hK hP u0 d0 rfl 2 (by decide) (hts (.fieldLink RX0 28 "TypedColumns$Column" "wholes" "[J") (by decide +kernel)) (fun _ h9 => h9) rfl dX0_takeCells_4 ?_
  refine va_alen (v := (nI snw)) hx hb hK hP u1 1 d1 rfl rfl dX0_takeCells_7 ?_
  refine vp_callSi (tc_CR (va_runSN (As := [.int sp, .int n, .int (nI snw)]) (rest := []) ⟨hx, hb, hml, hown, hts⟩ (kX2_isPart l sp n (nI snw)) ⟨va_cnB 3 hts gX0_takeCells_X2_isPart_n52 rfl rfl rfl (hE.2.2.2.2.2.2.2.1) (hts (.initialized RX2) (by decide +kernel)) (by decide +kernel) ⟨Nat.le_of_ble_eq_true rfl, Nat.le_of_ble_eq_true rfl⟩, hts (.static yX2_isPart) (by decide +kernel), trivial⟩ ⟨fun a U g mk q => q, fun U hU hW => ⟨rfl, trivial⟩⟩ rfl rfl hl.1 rfl (lv_room (Nat.le_of_ble_eq_true rfl)) dX0_takeCells_8 ⟨Nat.zero_le _, Nat.zero_le _⟩)) (fun r_1 hr_1 => ?_)
  subst hr_1
  refine lv_if_eq (tgt := 43) hx hb dX0_takeCells_11 (by decide) (fun c_2 => ?_) (fun c_2 => ?_)
  · have hP : va_P D vwCl (ws.set p1 (w, .inl (cJ, nw, .inr (.inl (tc_tk sf f (kPart sp n (nI snw)) (kPart dp n (nI nw)) sp dp n))))) s.heap := by rw [tc_tk1 sf f _ sp dp n c_2, tc_set_same e1]; exact hP
    have hD : va_D A (ws.set p1 (w, .inl (cJ, nw, .inr (.inl (tc_tk sf f (kPart sp n (nI snw)) (kPart dp n (nI nw)) sp dp n))))) := by rw [tc_tk1 sf f _ sp dp n c_2, tc_set_same e1]; exact hD
    have e0a := tc_set_ne (y := (w, .inl (cJ, nw, .inr (.inl (tc_tk sf f (kPart sp n (nI snw)) (kPart dp n (nI nw)) sp dp n))))) e0 hne.1
    have e2a := tc_set_ne (y := (w, .inl (cJ, nw, .inr (.inl (tc_tk sf f (kPart sp n (nI snw)) (kPart dp n (nI nw)) sp dp n))))) e2 hne.2.1
    have d0a := tc_set_ne (y := (w, .inl (cJ, nw, .inr (.inl (tc_tk sf f (kPart sp n (nI snw)) (kPart dp n (nI nw)) sp dp n))))) d0 hne.2.2.1
    have d2a := tc_set_ne (y := (w, .inl (cJ, nw, .inr (.inl (tc_tk sf f (kPart sp n (nI snw)) (kPart dp n (nI nw)) sp dp n))))) d2 hne.2.2.2
    refine lv_iload_n hx hb dX0_takeCells_43 rfl (lv_at hl 2 rfl) ?_
    refine lv_iload hx hb dX0_takeCells_44 (lv_at hl 4 rfl) ?_
    refine lv_aload_n hx hb dX0_takeCells_46 rfl (lv_at hl 1 rfl) ?_
    refine va_get (D := D) (ci := 0) (fs := [.int sk, .int slen, .ref sw, .ref sr]) (v := .ref sr) (C := RX0) (T := TX0) (N := 4) hx hb hts (by decide +kernel) hown hK hP u0 d0a rfl 3 (by decide) (hts (.fieldLink RX0 32 "TypedColumns$Column" "reals" "[D") (by decide +kernel)) (fun _ h9 => h9) rfl dX0_takeCells_47 ?_
    refine va_alen (v := (nI snr)) hx hb hK hP u2 2 d2a rfl rfl dX0_takeCells_50 ?_
    refine vp_callSi (tc_CR (va_runSN (As := [.int sp, .int n, .int (nI snr)]) (rest := []) ⟨hx, hb, hml, hown, hts⟩ (kX2_isPart l sp n (nI snr)) ⟨va_cnB 3 hts gX0_takeCells_X2_isPart_n52 rfl rfl rfl (hE.2.2.2.2.2.2.2.1) (hts (.initialized RX2) (by decide +kernel)) (by decide +kernel) ⟨Nat.le_of_ble_eq_true rfl, Nat.le_of_ble_eq_true rfl⟩, hts (.static yX2_isPart) (by decide +kernel), trivial⟩ ⟨fun a U g mk q => q, fun U hU hW => ⟨rfl, trivial⟩⟩ rfl rfl hl.1 rfl (lv_room (Nat.le_of_ble_eq_true rfl)) dX0_takeCells_51 ⟨Nat.zero_le _, Nat.zero_le _⟩)) (fun r_3 hr_3 => ?_)
    subst hr_3
    refine lv_if_eq (tgt := 86) hx hb dX0_takeCells_54 (by decide) (fun c_4 => ?_) (fun c_4 => ?_)
    · have hP : va_P D vwCl ((ws.set p1 (w, .inl (cJ, nw, .inr (.inl (tc_tk sf f (kPart sp n (nI snw)) (kPart dp n (nI nw)) sp dp n))))).set p2 (r, .inl (cD, nr, .inr (.inr (.inr (.inl (tc_tk sg g (kPart sp n (nI snr)) (kPart dp n (nI nr)) sp dp n))))))) s.heap := by rw [tc_tk1 sg g _ sp dp n c_4, tc_set_same e2a]; exact hP
      have hD : va_D A ((ws.set p1 (w, .inl (cJ, nw, .inr (.inl (tc_tk sf f (kPart sp n (nI snw)) (kPart dp n (nI nw)) sp dp n))))).set p2 (r, .inl (cD, nr, .inr (.inr (.inr (.inl (tc_tk sg g (kPart sp n (nI snr)) (kPart dp n (nI nr)) sp dp n))))))) := by rw [tc_tk1 sg g _ sp dp n c_4, tc_set_same e2a]; exact hD
      exact W.vret hx hb hr (fun t9 ht9 hW9 => ⟨⟨(), rfl, trivial, by rw [ht9]; exact hP, hD⟩, hS.F ht9⟩) hS.2.2 dX0_takeCells_86
    · refine lv_iload_n hx hb dX0_takeCells_57 rfl (lv_at hl 3 rfl) ?_
      refine lv_iload hx hb dX0_takeCells_58 (lv_at hl 4 rfl) ?_
      refine lv_aload_n hx hb dX0_takeCells_60 rfl (lv_at hl 0 rfl) ?_
      refine va_get (D := D) (ci := 0) (fs := [.int k, .int len, .ref w, .ref r]) (v := .ref r) (C := RX0) (T := TX0) (N := 4) hx hb hts (by decide +kernel) hown hK hP p0 e0a rfl 3 (by decide) (hts (.fieldLink RX0 32 "TypedColumns$Column" "reals" "[D") (by decide +kernel)) (fun _ h9 => h9) rfl dX0_takeCells_61 ?_
      refine va_alen (v := (nI nr)) hx hb hK hP p2 2 e2a rfl rfl dX0_takeCells_64 ?_
      refine vp_callSi (tc_CR (va_runSN (As := [.int dp, .int n, .int (nI nr)]) (rest := []) ⟨hx, hb, hml, hown, hts⟩ (kX2_isPart l dp n (nI nr)) ⟨va_cnB 3 hts gX0_takeCells_X2_isPart_n52 rfl rfl rfl (hE.2.2.2.2.2.2.2.1) (hts (.initialized RX2) (by decide +kernel)) (by decide +kernel) ⟨Nat.le_of_ble_eq_true rfl, Nat.le_of_ble_eq_true rfl⟩, hts (.static yX2_isPart) (by decide +kernel), trivial⟩ ⟨fun a U g mk q => q, fun U hU hW => ⟨rfl, trivial⟩⟩ rfl rfl hl.1 rfl (lv_room (Nat.le_of_ble_eq_true rfl)) dX0_takeCells_65 ⟨Nat.zero_le _, Nat.zero_le _⟩)) (fun r_5 hr_5 => ?_)
      subst hr_5
      refine lv_if_eq (tgt := 86) hx hb dX0_takeCells_68 (by decide) (fun c_6 => ?_) (fun c_6 => ?_)
      · have hP : va_P D vwCl ((ws.set p1 (w, .inl (cJ, nw, .inr (.inl (tc_tk sf f (kPart sp n (nI snw)) (kPart dp n (nI nw)) sp dp n))))).set p2 (r, .inl (cD, nr, .inr (.inr (.inr (.inl (tc_tk sg g (kPart sp n (nI snr)) (kPart dp n (nI nr)) sp dp n))))))) s.heap := by rw [tc_tk2 sg g _ sp dp n c_6, tc_set_same e2a]; exact hP
        have hD : va_D A ((ws.set p1 (w, .inl (cJ, nw, .inr (.inl (tc_tk sf f (kPart sp n (nI snw)) (kPart dp n (nI nw)) sp dp n))))).set p2 (r, .inl (cD, nr, .inr (.inr (.inr (.inl (tc_tk sg g (kPart sp n (nI snr)) (kPart dp n (nI nr)) sp dp n))))))) := by rw [tc_tk2 sg g _ sp dp n c_6, tc_set_same e2a]; exact hD
        exact W.vret hx hb hr (fun t9 ht9 hW9 => ⟨⟨(), rfl, trivial, by rw [ht9]; exact hP, hD⟩, hS.F ht9⟩) hS.2.2 dX0_takeCells_86
      · refine lv_aload_n hx hb dX0_takeCells_71 rfl (lv_at hl 1 rfl) ?_
        refine va_get (D := D) (ci := 0) (fs := [.int sk, .int slen, .ref sw, .ref sr]) (v := .ref sr) (C := RX0) (T := TX0) (N := 4) hx hb hts (by decide +kernel) hown hK hP u0 d0a rfl 3 (by decide) (hts (.fieldLink RX0 32 "TypedColumns$Column" "reals" "[D") (by decide +kernel)) (fun _ h9 => h9) rfl dX0_takeCells_72 ?_
        refine lv_iload_n hx hb dX0_takeCells_75 rfl (lv_at hl 2 rfl) ?_
        refine lv_aload_n hx hb dX0_takeCells_76 rfl (lv_at hl 0 rfl) ?_
        refine va_get (D := D) (ci := 0) (fs := [.int k, .int len, .ref w, .ref r]) (v := .ref r) (C := RX0) (T := TX0) (N := 4) hx hb hts (by decide +kernel) hown hK hP p0 e0a rfl 3 (by decide) (hts (.fieldLink RX0 32 "TypedColumns$Column" "reals" "[D") (by decide +kernel)) (fun _ h9 => h9) rfl dX0_takeCells_77 ?_
        refine lv_iload_n hx hb dX0_takeCells_80 rfl (lv_at hl 3 rfl) ?_
        refine lv_iload hx hb dX0_takeCells_81 (lv_at hl 4 rfl) ?_
        have q1 := kPart_spec ((tb_1 _).mp c_4) hm.2
        have q2 := kPart_spec ((tb_1 _).mp c_6) hn.2
        refine va_copyd (f := sg) (g := g) hx hb (hml.trans hl.1.symm) hown (hts (.methodLink RX0 56 arraycopyName) (by decide +kernel)) (hts (.native arraycopyName) (by decide +kernel)) (hts (.static arraycopyName) (by decide +kernel)) (hts (.initialized "java/lang/System") (by decide +kernel)) hK hP hD hS u2 p2 2 2 d2a e2a rfl rfl rfl q1.1 q2.1 q1.2.1 q1.2.2 q2.2.2 (fun _ _ => rfl) (Nat.le_of_ble_eq_true rfl) (Nat.le_of_ble_eq_true rfl) dX0_takeCells_83 (fun H locs hP hD hS => ?_)
        rw [← tc_tk3 sg g sp dp n c_4 c_6] at hP hD
        exact W.vret hx hb hr (fun t9 ht9 hW9 => ⟨⟨(), rfl, trivial, by rw [ht9]; exact hP, hD⟩, hS.F ht9⟩) hS.2.2 dX0_takeCells_86
  · refine lv_iload_n hx hb dX0_takeCells_14 rfl (lv_at hl 3 rfl) ?_
    refine lv_iload hx hb dX0_takeCells_15 (lv_at hl 4 rfl) ?_
    refine lv_aload_n hx hb dX0_takeCells_17 rfl (lv_at hl 0 rfl) ?_
    refine va_get (D := D) (ci := 0) (fs := [.int k, .int len, .ref w, .ref r]) (v := .ref w) (C := RX0) (T := TX0) (N := 4) hx hb hts (by decide +kernel) hown hK hP p0 e0 rfl 2 (by decide) (hts (.fieldLink RX0 28 "TypedColumns$Column" "wholes" "[J") (by decide +kernel)) (fun _ h9 => h9) rfl dX0_takeCells_18 ?_
    refine va_alen (v := (nI nw)) hx hb hK hP p1 1 e1 rfl rfl dX0_takeCells_21 ?_
    refine vp_callSi (tc_CR (va_runSN (As := [.int dp, .int n, .int (nI nw)]) (rest := []) ⟨hx, hb, hml, hown, hts⟩ (kX2_isPart l dp n (nI nw)) ⟨va_cnB 3 hts gX0_takeCells_X2_isPart_n52 rfl rfl rfl (hE.2.2.2.2.2.2.2.1) (hts (.initialized RX2) (by decide +kernel)) (by decide +kernel) ⟨Nat.le_of_ble_eq_true rfl, Nat.le_of_ble_eq_true rfl⟩, hts (.static yX2_isPart) (by decide +kernel), trivial⟩ ⟨fun a U g mk q => q, fun U hU hW => ⟨rfl, trivial⟩⟩ rfl rfl hl.1 rfl (lv_room (Nat.le_of_ble_eq_true rfl)) dX0_takeCells_22 ⟨Nat.zero_le _, Nat.zero_le _⟩)) (fun r_7 hr_7 => ?_)
    subst hr_7
    refine lv_if_eq (tgt := 43) hx hb dX0_takeCells_25 (by decide) (fun c_8 => ?_) (fun c_8 => ?_)
    · have hP : va_P D vwCl (ws.set p1 (w, .inl (cJ, nw, .inr (.inl (tc_tk sf f (kPart sp n (nI snw)) (kPart dp n (nI nw)) sp dp n))))) s.heap := by rw [tc_tk2 sf f _ sp dp n c_8, tc_set_same e1]; exact hP
      have hD : va_D A (ws.set p1 (w, .inl (cJ, nw, .inr (.inl (tc_tk sf f (kPart sp n (nI snw)) (kPart dp n (nI nw)) sp dp n))))) := by rw [tc_tk2 sf f _ sp dp n c_8, tc_set_same e1]; exact hD
      have e0a := tc_set_ne (y := (w, .inl (cJ, nw, .inr (.inl (tc_tk sf f (kPart sp n (nI snw)) (kPart dp n (nI nw)) sp dp n))))) e0 hne.1
      have e2a := tc_set_ne (y := (w, .inl (cJ, nw, .inr (.inl (tc_tk sf f (kPart sp n (nI snw)) (kPart dp n (nI nw)) sp dp n))))) e2 hne.2.1
      have d0a := tc_set_ne (y := (w, .inl (cJ, nw, .inr (.inl (tc_tk sf f (kPart sp n (nI snw)) (kPart dp n (nI nw)) sp dp n))))) d0 hne.2.2.1
      have d2a := tc_set_ne (y := (w, .inl (cJ, nw, .inr (.inl (tc_tk sf f (kPart sp n (nI snw)) (kPart dp n (nI nw)) sp dp n))))) d2 hne.2.2.2
      refine lv_iload_n hx hb dX0_takeCells_43 rfl (lv_at hl 2 rfl) ?_
      refine lv_iload hx hb dX0_takeCells_44 (lv_at hl 4 rfl) ?_
      refine lv_aload_n hx hb dX0_takeCells_46 rfl (lv_at hl 1 rfl) ?_
      refine va_get (D := D) (ci := 0) (fs := [.int sk, .int slen, .ref sw, .ref sr]) (v := .ref sr) (C := RX0) (T := TX0) (N := 4) hx hb hts (by decide +kernel) hown hK hP u0 d0a rfl 3 (by decide) (hts (.fieldLink RX0 32 "TypedColumns$Column" "reals" "[D") (by decide +kernel)) (fun _ h9 => h9) rfl dX0_takeCells_47 ?_
      refine va_alen (v := (nI snr)) hx hb hK hP u2 2 d2a rfl rfl dX0_takeCells_50 ?_
      refine vp_callSi (tc_CR (va_runSN (As := [.int sp, .int n, .int (nI snr)]) (rest := []) ⟨hx, hb, hml, hown, hts⟩ (kX2_isPart l sp n (nI snr)) ⟨va_cnB 3 hts gX0_takeCells_X2_isPart_n52 rfl rfl rfl (hE.2.2.2.2.2.2.2.1) (hts (.initialized RX2) (by decide +kernel)) (by decide +kernel) ⟨Nat.le_of_ble_eq_true rfl, Nat.le_of_ble_eq_true rfl⟩, hts (.static yX2_isPart) (by decide +kernel), trivial⟩ ⟨fun a U g mk q => q, fun U hU hW => ⟨rfl, trivial⟩⟩ rfl rfl hl.1 rfl (lv_room (Nat.le_of_ble_eq_true rfl)) dX0_takeCells_51 ⟨Nat.zero_le _, Nat.zero_le _⟩)) (fun r_9 hr_9 => ?_)
      subst hr_9
      refine lv_if_eq (tgt := 86) hx hb dX0_takeCells_54 (by decide) (fun c_10 => ?_) (fun c_10 => ?_)
      · have hP : va_P D vwCl ((ws.set p1 (w, .inl (cJ, nw, .inr (.inl (tc_tk sf f (kPart sp n (nI snw)) (kPart dp n (nI nw)) sp dp n))))).set p2 (r, .inl (cD, nr, .inr (.inr (.inr (.inl (tc_tk sg g (kPart sp n (nI snr)) (kPart dp n (nI nr)) sp dp n))))))) s.heap := by rw [tc_tk1 sg g _ sp dp n c_10, tc_set_same e2a]; exact hP
        have hD : va_D A ((ws.set p1 (w, .inl (cJ, nw, .inr (.inl (tc_tk sf f (kPart sp n (nI snw)) (kPart dp n (nI nw)) sp dp n))))).set p2 (r, .inl (cD, nr, .inr (.inr (.inr (.inl (tc_tk sg g (kPart sp n (nI snr)) (kPart dp n (nI nr)) sp dp n))))))) := by rw [tc_tk1 sg g _ sp dp n c_10, tc_set_same e2a]; exact hD
        exact W.vret hx hb hr (fun t9 ht9 hW9 => ⟨⟨(), rfl, trivial, by rw [ht9]; exact hP, hD⟩, hS.F ht9⟩) hS.2.2 dX0_takeCells_86
      · refine lv_iload_n hx hb dX0_takeCells_57 rfl (lv_at hl 3 rfl) ?_
        refine lv_iload hx hb dX0_takeCells_58 (lv_at hl 4 rfl) ?_
        refine lv_aload_n hx hb dX0_takeCells_60 rfl (lv_at hl 0 rfl) ?_
        refine va_get (D := D) (ci := 0) (fs := [.int k, .int len, .ref w, .ref r]) (v := .ref r) (C := RX0) (T := TX0) (N := 4) hx hb hts (by decide +kernel) hown hK hP p0 e0a rfl 3 (by decide) (hts (.fieldLink RX0 32 "TypedColumns$Column" "reals" "[D") (by decide +kernel)) (fun _ h9 => h9) rfl dX0_takeCells_61 ?_
        refine va_alen (v := (nI nr)) hx hb hK hP p2 2 e2a rfl rfl dX0_takeCells_64 ?_
        refine vp_callSi (tc_CR (va_runSN (As := [.int dp, .int n, .int (nI nr)]) (rest := []) ⟨hx, hb, hml, hown, hts⟩ (kX2_isPart l dp n (nI nr)) ⟨va_cnB 3 hts gX0_takeCells_X2_isPart_n52 rfl rfl rfl (hE.2.2.2.2.2.2.2.1) (hts (.initialized RX2) (by decide +kernel)) (by decide +kernel) ⟨Nat.le_of_ble_eq_true rfl, Nat.le_of_ble_eq_true rfl⟩, hts (.static yX2_isPart) (by decide +kernel), trivial⟩ ⟨fun a U g mk q => q, fun U hU hW => ⟨rfl, trivial⟩⟩ rfl rfl hl.1 rfl (lv_room (Nat.le_of_ble_eq_true rfl)) dX0_takeCells_65 ⟨Nat.zero_le _, Nat.zero_le _⟩)) (fun r_11 hr_11 => ?_)
        subst hr_11
        refine lv_if_eq (tgt := 86) hx hb dX0_takeCells_68 (by decide) (fun c_12 => ?_) (fun c_12 => ?_)
        · have hP : va_P D vwCl ((ws.set p1 (w, .inl (cJ, nw, .inr (.inl (tc_tk sf f (kPart sp n (nI snw)) (kPart dp n (nI nw)) sp dp n))))).set p2 (r, .inl (cD, nr, .inr (.inr (.inr (.inl (tc_tk sg g (kPart sp n (nI snr)) (kPart dp n (nI nr)) sp dp n))))))) s.heap := by rw [tc_tk2 sg g _ sp dp n c_12, tc_set_same e2a]; exact hP
          have hD : va_D A ((ws.set p1 (w, .inl (cJ, nw, .inr (.inl (tc_tk sf f (kPart sp n (nI snw)) (kPart dp n (nI nw)) sp dp n))))).set p2 (r, .inl (cD, nr, .inr (.inr (.inr (.inl (tc_tk sg g (kPart sp n (nI snr)) (kPart dp n (nI nr)) sp dp n))))))) := by rw [tc_tk2 sg g _ sp dp n c_12, tc_set_same e2a]; exact hD
          exact W.vret hx hb hr (fun t9 ht9 hW9 => ⟨⟨(), rfl, trivial, by rw [ht9]; exact hP, hD⟩, hS.F ht9⟩) hS.2.2 dX0_takeCells_86
        · refine lv_aload_n hx hb dX0_takeCells_71 rfl (lv_at hl 1 rfl) ?_
          refine va_get (D := D) (ci := 0) (fs := [.int sk, .int slen, .ref sw, .ref sr]) (v := .ref sr) (C := RX0) (T := TX0) (N := 4) hx hb hts (by decide +kernel) hown hK hP u0 d0a rfl 3 (by decide) (hts (.fieldLink RX0 32 "TypedColumns$Column" "reals" "[D") (by decide +kernel)) (fun _ h9 => h9) rfl dX0_takeCells_72 ?_
          refine lv_iload_n hx hb dX0_takeCells_75 rfl (lv_at hl 2 rfl) ?_
          refine lv_aload_n hx hb dX0_takeCells_76 rfl (lv_at hl 0 rfl) ?_
          refine va_get (D := D) (ci := 0) (fs := [.int k, .int len, .ref w, .ref r]) (v := .ref r) (C := RX0) (T := TX0) (N := 4) hx hb hts (by decide +kernel) hown hK hP p0 e0a rfl 3 (by decide) (hts (.fieldLink RX0 32 "TypedColumns$Column" "reals" "[D") (by decide +kernel)) (fun _ h9 => h9) rfl dX0_takeCells_77 ?_
          refine lv_iload_n hx hb dX0_takeCells_80 rfl (lv_at hl 3 rfl) ?_
          refine lv_iload hx hb dX0_takeCells_81 (lv_at hl 4 rfl) ?_
          have q1 := kPart_spec ((tb_1 _).mp c_10) hm.2
          have q2 := kPart_spec ((tb_1 _).mp c_12) hn.2
          refine va_copyd (f := sg) (g := g) hx hb (hml.trans hl.1.symm) hown (hts (.methodLink RX0 56 arraycopyName) (by decide +kernel)) (hts (.native arraycopyName) (by decide +kernel)) (hts (.static arraycopyName) (by decide +kernel)) (hts (.initialized "java/lang/System") (by decide +kernel)) hK hP hD hS u2 p2 2 2 d2a e2a rfl rfl rfl q1.1 q2.1 q1.2.1 q1.2.2 q2.2.2 (fun _ _ => rfl) (Nat.le_of_ble_eq_true rfl) (Nat.le_of_ble_eq_true rfl) dX0_takeCells_83 (fun H locs hP hD hS => ?_)
          rw [← tc_tk3 sg g sp dp n c_10 c_12] at hP hD
          exact W.vret hx hb hr (fun t9 ht9 hW9 => ⟨⟨(), rfl, trivial, by rw [ht9]; exact hP, hD⟩, hS.F ht9⟩) hS.2.2 dX0_takeCells_86
    · refine lv_aload_n hx hb dX0_takeCells_28 rfl (lv_at hl 1 rfl) ?_
      refine va_get (D := D) (ci := 0) (fs := [.int sk, .int slen, .ref sw, .ref sr]) (v := .ref sw) (C := RX0) (T := TX0) (N := 4) hx hb hts (by decide +kernel) hown hK hP u0 d0 rfl 2 (by decide) (hts (.fieldLink RX0 28 "TypedColumns$Column" "wholes" "[J") (by decide +kernel)) (fun _ h9 => h9) rfl dX0_takeCells_29 ?_
      refine lv_iload_n hx hb dX0_takeCells_32 rfl (lv_at hl 2 rfl) ?_
      refine lv_aload_n hx hb dX0_takeCells_33 rfl (lv_at hl 0 rfl) ?_
      refine va_get (D := D) (ci := 0) (fs := [.int k, .int len, .ref w, .ref r]) (v := .ref w) (C := RX0) (T := TX0) (N := 4) hx hb hts (by decide +kernel) hown hK hP p0 e0 rfl 2 (by decide) (hts (.fieldLink RX0 28 "TypedColumns$Column" "wholes" "[J") (by decide +kernel)) (fun _ h9 => h9) rfl dX0_takeCells_34 ?_
      refine lv_iload_n hx hb dX0_takeCells_37 rfl (lv_at hl 3 rfl) ?_
      refine lv_iload hx hb dX0_takeCells_38 (lv_at hl 4 rfl) ?_
      have q1 := kPart_spec ((tb_1 _).mp c_2) hm.1
      have q2 := kPart_spec ((tb_1 _).mp c_8) hn.1
      refine va_copyl (f := sf) (g := f) hx hb (hml.trans hl.1.symm) hown (hts (.methodLink RX0 56 arraycopyName) (by decide +kernel)) (hts (.native arraycopyName) (by decide +kernel)) (hts (.static arraycopyName) (by decide +kernel)) (hts (.initialized "java/lang/System") (by decide +kernel)) hK hP hD hS u1 p1 1 1 d1 e1 rfl rfl rfl q1.1 q2.1 q1.2.1 q1.2.2 q2.2.2 (fun _ _ => rfl) (Nat.le_of_ble_eq_true rfl) (Nat.le_of_ble_eq_true rfl) dX0_takeCells_40 (fun H locs hP hD hS => ?_)
      rw [← tc_tk3 sf f sp dp n c_2 c_8] at hP hD
      have e0a := tc_set_ne (y := (w, .inl (cJ, nw, .inr (.inl (tc_tk sf f (kPart sp n (nI snw)) (kPart dp n (nI nw)) sp dp n))))) e0 hne.1
      have e2a := tc_set_ne (y := (w, .inl (cJ, nw, .inr (.inl (tc_tk sf f (kPart sp n (nI snw)) (kPart dp n (nI nw)) sp dp n))))) e2 hne.2.1
      have d0a := tc_set_ne (y := (w, .inl (cJ, nw, .inr (.inl (tc_tk sf f (kPart sp n (nI snw)) (kPart dp n (nI nw)) sp dp n))))) d0 hne.2.2.1
      have d2a := tc_set_ne (y := (w, .inl (cJ, nw, .inr (.inl (tc_tk sf f (kPart sp n (nI snw)) (kPart dp n (nI nw)) sp dp n))))) d2 hne.2.2.2
      refine lv_iload_n hx hb dX0_takeCells_43 rfl (lv_at hl 2 rfl) ?_
      refine lv_iload hx hb dX0_takeCells_44 (lv_at hl 4 rfl) ?_
      refine lv_aload_n hx hb dX0_takeCells_46 rfl (lv_at hl 1 rfl) ?_
      refine va_get (D := D) (ci := 0) (fs := [.int sk, .int slen, .ref sw, .ref sr]) (v := .ref sr) (C := RX0) (T := TX0) (N := 4) hx hb hts (by decide +kernel) hown hK hP u0 d0a rfl 3 (by decide) (hts (.fieldLink RX0 32 "TypedColumns$Column" "reals" "[D") (by decide +kernel)) (fun _ h9 => h9) rfl dX0_takeCells_47 ?_
      refine va_alen (v := (nI snr)) hx hb hK hP u2 2 d2a rfl rfl dX0_takeCells_50 ?_
      refine vp_callSi (tc_CR (va_runSN (As := [.int sp, .int n, .int (nI snr)]) (rest := []) ⟨hx, hb, hml, hown, hts⟩ (kX2_isPart l sp n (nI snr)) ⟨va_cnB 3 hts gX0_takeCells_X2_isPart_n52 rfl rfl rfl (hE.2.2.2.2.2.2.2.1) (hts (.initialized RX2) (by decide +kernel)) (by decide +kernel) ⟨Nat.le_of_ble_eq_true rfl, Nat.le_of_ble_eq_true rfl⟩, hts (.static yX2_isPart) (by decide +kernel), trivial⟩ ⟨fun a U g mk q => q, fun U hU hW => ⟨rfl, trivial⟩⟩ rfl rfl hl.1 rfl (lv_room (Nat.le_of_ble_eq_true rfl)) dX0_takeCells_51 ⟨Nat.zero_le _, Nat.zero_le _⟩)) (fun r_13 hr_13 => ?_)
      subst hr_13
      refine lv_if_eq (tgt := 86) hx hb dX0_takeCells_54 (by decide) (fun c_14 => ?_) (fun c_14 => ?_)
      · have hP : va_P D vwCl ((ws.set p1 (w, .inl (cJ, nw, .inr (.inl (tc_tk sf f (kPart sp n (nI snw)) (kPart dp n (nI nw)) sp dp n))))).set p2 (r, .inl (cD, nr, .inr (.inr (.inr (.inl (tc_tk sg g (kPart sp n (nI snr)) (kPart dp n (nI nr)) sp dp n))))))) H := by rw [tc_tk1 sg g _ sp dp n c_14, tc_set_same e2a]; exact hP
        have hD : va_D A ((ws.set p1 (w, .inl (cJ, nw, .inr (.inl (tc_tk sf f (kPart sp n (nI snw)) (kPart dp n (nI nw)) sp dp n))))).set p2 (r, .inl (cD, nr, .inr (.inr (.inr (.inl (tc_tk sg g (kPart sp n (nI snr)) (kPart dp n (nI nr)) sp dp n))))))) := by rw [tc_tk1 sg g _ sp dp n c_14, tc_set_same e2a]; exact hD
        exact W.vret hx hb hr (fun t9 ht9 hW9 => ⟨⟨(), rfl, trivial, by rw [ht9]; exact hP, hD⟩, hS.F ht9⟩) hS.2.2 dX0_takeCells_86
      · refine lv_iload_n hx hb dX0_takeCells_57 rfl (lv_at hl 3 rfl) ?_
        refine lv_iload hx hb dX0_takeCells_58 (lv_at hl 4 rfl) ?_
        refine lv_aload_n hx hb dX0_takeCells_60 rfl (lv_at hl 0 rfl) ?_
        refine va_get (D := D) (ci := 0) (fs := [.int k, .int len, .ref w, .ref r]) (v := .ref r) (C := RX0) (T := TX0) (N := 4) hx hb hts (by decide +kernel) hown hK hP p0 e0a rfl 3 (by decide) (hts (.fieldLink RX0 32 "TypedColumns$Column" "reals" "[D") (by decide +kernel)) (fun _ h9 => h9) rfl dX0_takeCells_61 ?_
        refine va_alen (v := (nI nr)) hx hb hK hP p2 2 e2a rfl rfl dX0_takeCells_64 ?_
        refine vp_callSi (tc_CR (va_runSN (As := [.int dp, .int n, .int (nI nr)]) (rest := []) ⟨hx, hb, hml, hown, hts⟩ (kX2_isPart l dp n (nI nr)) ⟨va_cnB 3 hts gX0_takeCells_X2_isPart_n52 rfl rfl rfl (hE.2.2.2.2.2.2.2.1) (hts (.initialized RX2) (by decide +kernel)) (by decide +kernel) ⟨Nat.le_of_ble_eq_true rfl, Nat.le_of_ble_eq_true rfl⟩, hts (.static yX2_isPart) (by decide +kernel), trivial⟩ ⟨fun a U g mk q => q, fun U hU hW => ⟨rfl, trivial⟩⟩ rfl rfl hl.1 rfl (lv_room (Nat.le_of_ble_eq_true rfl)) dX0_takeCells_65 ⟨Nat.zero_le _, Nat.zero_le _⟩)) (fun r_15 hr_15 => ?_)
        subst hr_15
        refine lv_if_eq (tgt := 86) hx hb dX0_takeCells_68 (by decide) (fun c_16 => ?_) (fun c_16 => ?_)
        · have hP : va_P D vwCl ((ws.set p1 (w, .inl (cJ, nw, .inr (.inl (tc_tk sf f (kPart sp n (nI snw)) (kPart dp n (nI nw)) sp dp n))))).set p2 (r, .inl (cD, nr, .inr (.inr (.inr (.inl (tc_tk sg g (kPart sp n (nI snr)) (kPart dp n (nI nr)) sp dp n))))))) H := by rw [tc_tk2 sg g _ sp dp n c_16, tc_set_same e2a]; exact hP
          have hD : va_D A ((ws.set p1 (w, .inl (cJ, nw, .inr (.inl (tc_tk sf f (kPart sp n (nI snw)) (kPart dp n (nI nw)) sp dp n))))).set p2 (r, .inl (cD, nr, .inr (.inr (.inr (.inl (tc_tk sg g (kPart sp n (nI snr)) (kPart dp n (nI nr)) sp dp n))))))) := by rw [tc_tk2 sg g _ sp dp n c_16, tc_set_same e2a]; exact hD
          exact W.vret hx hb hr (fun t9 ht9 hW9 => ⟨⟨(), rfl, trivial, by rw [ht9]; exact hP, hD⟩, hS.F ht9⟩) hS.2.2 dX0_takeCells_86
        · refine lv_aload_n hx hb dX0_takeCells_71 rfl (lv_at hl 1 rfl) ?_
          refine va_get (D := D) (ci := 0) (fs := [.int sk, .int slen, .ref sw, .ref sr]) (v := .ref sr) (C := RX0) (T := TX0) (N := 4) hx hb hts (by decide +kernel) hown hK hP u0 d0a rfl 3 (by decide) (hts (.fieldLink RX0 32 "TypedColumns$Column" "reals" "[D") (by decide +kernel)) (fun _ h9 => h9) rfl dX0_takeCells_72 ?_
          refine lv_iload_n hx hb dX0_takeCells_75 rfl (lv_at hl 2 rfl) ?_
          refine lv_aload_n hx hb dX0_takeCells_76 rfl (lv_at hl 0 rfl) ?_
          refine va_get (D := D) (ci := 0) (fs := [.int k, .int len, .ref w, .ref r]) (v := .ref r) (C := RX0) (T := TX0) (N := 4) hx hb hts (by decide +kernel) hown hK hP p0 e0a rfl 3 (by decide) (hts (.fieldLink RX0 32 "TypedColumns$Column" "reals" "[D") (by decide +kernel)) (fun _ h9 => h9) rfl dX0_takeCells_77 ?_
          refine lv_iload_n hx hb dX0_takeCells_80 rfl (lv_at hl 3 rfl) ?_
          refine lv_iload hx hb dX0_takeCells_81 (lv_at hl 4 rfl) ?_
          have q1 := kPart_spec ((tb_1 _).mp c_14) hm.2
          have q2 := kPart_spec ((tb_1 _).mp c_16) hn.2
          refine va_copyd (f := sg) (g := g) hx hb (hml.trans hl.1.symm) hown (hts (.methodLink RX0 56 arraycopyName) (by decide +kernel)) (hts (.native arraycopyName) (by decide +kernel)) (hts (.static arraycopyName) (by decide +kernel)) (hts (.initialized "java/lang/System") (by decide +kernel)) hK hP hD hS u2 p2 2 2 d2a e2a rfl rfl rfl q1.1 q2.1 q1.2.1 q1.2.2 q2.2.2 (fun _ _ => rfl) (Nat.le_of_ble_eq_true rfl) (Nat.le_of_ble_eq_true rfl) dX0_takeCells_83 (fun H locs hP hD hS => ?_)
          rw [← tc_tk3 sg g sp dp n c_14 c_16] at hP hD
          exact W.vret hx hb hr (fun t9 ht9 hW9 => ⟨⟨(), rfl, trivial, by rw [ht9]; exact hP, hD⟩, hS.F ht9⟩) hS.2.2 dX0_takeCells_86
set_option maxHeartbeats 4000000 in
set_option maxRecDepth 100000 in
theorem oX0_takeWidened_rr (l : Launch) (D : va_G) (A : Nat → Prop) (cI cJ cD cC : ClassId) (ws : va_W) (p0 p1 p2 : Nat) (a w r : Nat) (k len : Int32) (nw nr : Nat) (f : Nat → Int64) (g : Nat → UInt64) (sz : Nat) (e0 : ws[p0]? = some (a, .inr (0, [.int k, .int len, .ref w, .ref r]))) (e1 : ws[p1]? = some (w, .inl (cJ, nw, .inr (.inl f)))) (e2 : ws[p2]? = some (r, .inl (cD, nr, .inr (.inr (.inr (.inl g)))))) (hn : nw < 2 ^ 31 ∧ nr < 2 ^ 31) (u0 u1 u2 : Nat) (sa sw sr : Nat) (sk slen : Int32) (snw snr : Nat) (sf : Nat → Int64) (sg : Nat → UInt64) (d0 : ws[u0]? = some (sa, .inr (0, [.int sk, .int slen, .ref sw, .ref sr]))) (d1 : ws[u1]? = some (sw, .inl (cJ, snw, .inr (.inl sf)))) (d2 : ws[u2]? = some (sr, .inl (cD, snr, .inr (.inr (.inr (.inl sg)))))) (hm : snw < 2 ^ 31 ∧ snr < 2 ^ 31) (hne : (p1 ≠ p0 ∧ p1 ≠ p2 ∧ p1 ≠ u0 ∧ p1 ≠ u1 ∧ p1 ≠ u2) ∧ (p2 ≠ p0 ∧ p2 ≠ p1 ∧ p2 ≠ u0 ∧ p2 ≠ u1 ∧ p2 ≠ u2)) (N : Nat) (hN : N < 2 ^ 31) (hlen : slen = nI N) (hsk : kFl sk = true) (hr1 : N ≤ nr) (hr2 : N ≤ snr) : Met l yX0_takeWidened wsX0_takeWidened ({ frames := 1, cells := 0, slots := 0, locals := 23 }) (tcP D A (tcTY cI cJ cD cC) sz [.ref a, .ref sa] ws) (va_Qv (fun _ : Unit => True) (fun _ t => tcB D A (ws.set p2 (r, .inl (cD, nr, .inr (.inr (.inr (.inl (tc_mix sg g N))))))) t) A) 0 0 A := by
  refine Met.ofW (cc := cX0_takeWidened) (maxL := 3) (ret := none) (by decide) rfl ?_
  intro p e s m args below meth c s₁ B hml hv
  obtain ⟨rfl, hsz, hP, hK, hD, hE⟩ := hv
  have hx := B.exec
  have hb := B.bytes
  have hr := B.returns
  have hts := atoms_spec (ws := wsX0_takeWidened) B.pre
  have hown : s.vm.findClass RX0 = some m.cls := findClass_of_methodNamed B.named
  have hlocks := B.notSynchronized
  have hl := lv_entry ([.ref a, .ref sa]) (n := 3) (Nat.le_of_ble_eq_true rfl)
  rw [lg_entry_eq]
  generalize (lg_sl ([.ref a, .ref sa]) ++ List.replicate (3 - (lg_sl ([.ref a, .ref sa])).length) Slot.unset).toArray = ls at hl ⊢
  have hl : lv_has ls 3 [(0, .ref a), (1, .ref sa)] := hl
  subst hsz
  have hS : va_S A s.heap s.heap [] := va_S.rf
  refine lv_iconst (v := 0) hx hb dX0_takeWidened_0 (by decide) ?_
  refine lv_istore_n (lv' := [(2, .int 0), (0, .ref a), (1, .ref sa)]) hx hb dX0_takeWidened_1 rfl hl (by decide) rfl (fun ls hl => ?_)
  refine tc_loop (fun k9 H locs ls => ∃ i : Nat, i + k9 = N ∧ va_P D vwCl (ws.set p2 (r, .inl (cD, nr, .inr (.inr (.inr (.inl (tc_mix sg g i))))))) H ∧ va_D A (ws.set p2 (r, .inl (cD, nr, .inr (.inr (.inr (.inl (tc_mix sg g i))))))) ∧ va_S A s.heap H locs ∧ lv_has ls 3 [(2, .int (nI i)), (0, .ref a), (1, .ref sa)]) (fun k9 H locs ls hi9 ih => ?_) (fun H locs ls hi9 => ?_) N ⟨0, by omega, by rw [tc_mix_0, tc_set_same e2]; exact hP, by rw [tc_mix_0, tc_set_same e2]; exact hD, hS, hl⟩
  · obtain ⟨i, hik, hP, hD, hS, hl⟩ := hi9
    have hiN : i < N := by omega
    have e0a := tc_set_ne (y := (r, .inl (cD, nr, .inr (.inr (.inr (.inl (tc_mix sg g i))))))) e0 (hne.2.1)
    have d0a := tc_set_ne (y := (r, .inl (cD, nr, .inr (.inr (.inr (.inl (tc_mix sg g i))))))) d0 (hne.2.2.2.1)
    have d1a := tc_set_ne (y := (r, .inl (cD, nr, .inr (.inr (.inr (.inl (tc_mix sg g i))))))) d1 (hne.2.2.2.2.1)
    have d2a := tc_set_ne (y := (r, .inl (cD, nr, .inr (.inr (.inr (.inl (tc_mix sg g i))))))) d2 (hne.2.2.2.2.2)
    have eoa := tc_set_ne (y := (r, .inl (cD, nr, .inr (.inr (.inr (.inl (tc_mix sg g i))))))) e1 (hne.2.2.1)
    have eta := tc_set_self (y := (r, .inl (cD, nr, .inr (.inr (.inr (.inl (tc_mix sg g i))))))) e2
    refine lv_iload_n hx hb dX0_takeWidened_2 rfl (lv_at hl 0 rfl) ?_
    refine lv_aload_n hx hb dX0_takeWidened_3 rfl (lv_at hl 2 rfl) ?_
    refine va_get (D := D) (ci := 0) (fs := [.int sk, .int slen, .ref sw, .ref sr]) (v := .int slen) (C := RX0) (T := TX0) (N := 4) hx hb hts (by decide +kernel) hown hK hP u0 d0a rfl 1 (by decide) (hts (.fieldLink RX0 22 "TypedColumns$Column" "length" "I") (by decide +kernel)) (fun _ h9 => h9) rfl dX0_takeWidened_4 ?_
    refine lv_icmp_ge (tgt := 49) hx hb dX0_takeWidened_7 (by decide) (fun q => absurd q (by rw [hlen]; exact nI_ge hiN (by omega))) (fun _ => ?_)
    refine lv_aload_n hx hb dX0_takeWidened_10 rfl (lv_at hl 2 rfl) ?_
    refine va_get (D := D) (ci := 0) (fs := [.int sk, .int slen, .ref sw, .ref sr]) (v := .int sk) (C := RX0) (T := TX0) (N := 4) hx hb hts (by decide +kernel) hown hK hP u0 d0a rfl 0 (by decide) (hts (.fieldLink RX0 16 "TypedColumns$Column" "kind" "I") (by decide +kernel)) (fun _ h9 => h9) rfl dX0_takeWidened_11 ?_
    refine vp_callSi (tc_CR (va_runSN (As := [.int sk]) (rest := []) ⟨hx, hb, hml, hown, hts⟩ (kX2_isFloating l sk) ⟨va_cnB 1 hts gX0_takeWidened_X2_isFloating_n25 rfl rfl rfl (hE.2.2.2.2.2.1) (hts (.initialized RX2) (by decide +kernel)) (by decide +kernel) ⟨Nat.le_of_ble_eq_true rfl, Nat.le_of_ble_eq_true rfl⟩, hts (.static yX2_isFloating) (by decide +kernel), trivial⟩ ⟨fun a U g mk q => q, fun U hU hW => ⟨rfl, trivial⟩⟩ rfl rfl hl.1 rfl (lv_room (Nat.le_of_ble_eq_true rfl)) dX0_takeWidened_14 ⟨Nat.zero_le _, Nat.zero_le _⟩)) (fun r_2 hr_2 => ?_)
    subst hr_2
    refine lv_if_eq (tgt := 33) hx hb dX0_takeWidened_17 (by decide) (fun q => absurd q ((tb_1 _).mpr hsk)) (fun _ => ?_)
    refine lv_aload_n hx hb dX0_takeWidened_20 rfl (lv_at hl 1 rfl) ?_
    refine lv_iload_n hx hb dX0_takeWidened_21 rfl (lv_at hl 0 rfl) ?_
    refine lv_aload_n hx hb dX0_takeWidened_22 rfl (lv_at hl 2 rfl) ?_
    refine lv_iload_n hx hb dX0_takeWidened_23 rfl (lv_at hl 0 rfl) ?_
    refine vp_callSd (tc_CR (va_runV (As := [.int (nI i)]) (rest := [.int (nI i), .ref a]) ⟨hx, hb, hml, hown, hts⟩ (oX0_realAt l D A cI cJ cD cC (ws.set p2 (r, .inl (cD, nr, .inr (.inr (.inr (.inl (tc_mix sg g i))))))) u0 u1 u2 sa sw sr sk slen snw snr sf sg H.size d0a d1a d2a hm (nI i) (vp_in_nI (by omega) hm.2)) (cwV 1 hts gX0_takeWidened_X0_realAt rfl rfl rfl (by decide +kernel) ⟨Nat.le_of_ble_eq_true rfl, Nat.le_of_ble_eq_true rfl⟩) ⟨tcP.blind, (va_recv hK hP (ci := 0) (q0 := u0) rfl d0a), (tcP.go hK hP hD hE hS)⟩ rfl rfl hl.1 rfl (lv_room (Nat.le_of_ble_eq_true rfl)) dX0_takeWidened_24 ⟨Nat.le_of_ble_eq_true rfl, Nat.le_of_ble_eq_true rfl⟩)) (fun r_4 hr_4 => ?_)
    subst hr_4
    rw [nI_clamp (n := i) (by omega)]
    refine va_callv (va_runV (As := [.int (nI i), .double (sg i)]) (rest := []) ⟨hx, hb, hml, hown, hts⟩ (oX0_putReal l D A cI cJ cD cC (ws.set p2 (r, .inl (cD, nr, .inr (.inr (.inr (.inl (tc_mix sg g i))))))) p0 p1 p2 a w r k len nw nr f (tc_mix sg g i) H.size e0a eoa eta hn (nI i) (sg i) (vp_in_nI (by omega) hn.2)) (cwV 2 hts gX0_takeWidened_X0_putReal rfl rfl rfl (by decide +kernel) ⟨Nat.le_of_ble_eq_true rfl, Nat.le_of_ble_eq_true rfl⟩) ⟨tcP.blind, (va_recv hK hP (ci := 0) (q0 := p0) rfl e0a), (tcP.go hK hP hD hE hS)⟩ rfl rfl hl.1 rfl (lv_room (Nat.le_of_ble_eq_true rfl)) dX0_takeWidened_27 ⟨Nat.le_of_ble_eq_true rfl, Nat.le_of_ble_eq_true rfl⟩) hS (fun q _ h => h) (fun q h => h) (fun u t H locs ht hvm hw hB hz1 hk1 hS => ?_)
    obtain ⟨hP, hD⟩ := hB
    rw [ht] at hP
    rw [List.set_set, nI_clamp (n := i) (by omega), show vf_upd (tc_mix sg g i) i _ = tc_mix sg g (i + 1) from tc_mix_s sg g i] at hP hD
    refine lv_goto (tgt := 43) hx hb dX0_takeWidened_30 (by decide) ?_
    obtain ⟨x_6, ex_6⟩ : ∃ y : Int32, y = (nI i) + (1) := ⟨_, rfl⟩
    refine lv_iinc (v := x_6) (lv' := [(2, .int x_6), (0, .ref a), (1, .ref sa)]) hx hb dX0_takeWidened_43 hl (k := 0) rfl (by rw [ex_6]; rfl) (by decide) rfl (fun ls hl => ?_)
    refine lv_goto (tgt := 2) hx hb dX0_takeWidened_46 (by decide) ?_
    subst ex_6
    exact ih _ _ _ ⟨i + 1, by omega, hP, hD, hS, by rw [nI_succ]; exact lv_sub hl [0, 1, 2] rfl⟩
  · obtain ⟨i, hik, hP, hD, hS, hl⟩ := hi9
    have hiN : i = N := by omega
    subst hiN
    have e0a := tc_set_ne (y := (r, .inl (cD, nr, .inr (.inr (.inr (.inl (tc_mix sg g i))))))) e0 (hne.2.1)
    have d0a := tc_set_ne (y := (r, .inl (cD, nr, .inr (.inr (.inr (.inl (tc_mix sg g i))))))) d0 (hne.2.2.2.1)
    have d1a := tc_set_ne (y := (r, .inl (cD, nr, .inr (.inr (.inr (.inl (tc_mix sg g i))))))) d1 (hne.2.2.2.2.1)
    have d2a := tc_set_ne (y := (r, .inl (cD, nr, .inr (.inr (.inr (.inl (tc_mix sg g i))))))) d2 (hne.2.2.2.2.2)
    have eoa := tc_set_ne (y := (r, .inl (cD, nr, .inr (.inr (.inr (.inl (tc_mix sg g i))))))) e1 (hne.2.2.1)
    have eta := tc_set_self (y := (r, .inl (cD, nr, .inr (.inr (.inr (.inl (tc_mix sg g i))))))) e2
    refine lv_iload_n hx hb dX0_takeWidened_2 rfl (lv_at hl 0 rfl) ?_
    refine lv_aload_n hx hb dX0_takeWidened_3 rfl (lv_at hl 2 rfl) ?_
    refine va_get (D := D) (ci := 0) (fs := [.int sk, .int slen, .ref sw, .ref sr]) (v := .int slen) (C := RX0) (T := TX0) (N := 4) hx hb hts (by decide +kernel) hown hK hP u0 d0a rfl 1 (by decide) (hts (.fieldLink RX0 22 "TypedColumns$Column" "length" "I") (by decide +kernel)) (fun _ h9 => h9) rfl dX0_takeWidened_4 ?_
    refine lv_icmp_ge (tgt := 49) hx hb dX0_takeWidened_7 (by decide) (fun _ => ?_) (fun q => absurd (by rw [hlen]; exact nI_le (Nat.le_refl _) (by omega)) q)
    exact W.vret hx hb hr (fun t9 ht9 hW9 => ⟨⟨(), rfl, trivial, by rw [ht9]; exact hP, hD⟩, hS.F ht9⟩) hS.2.2 dX0_takeWidened_49
set_option maxHeartbeats 4000000 in
set_option maxRecDepth 100000 in
theorem oX0_takeWidened_ww (l : Launch) (D : va_G) (A : Nat → Prop) (cI cJ cD cC : ClassId) (ws : va_W) (p0 p1 p2 : Nat) (a w r : Nat) (k len : Int32) (nw nr : Nat) (f : Nat → Int64) (g : Nat → UInt64) (sz : Nat) (e0 : ws[p0]? = some (a, .inr (0, [.int k, .int len, .ref w, .ref r]))) (e1 : ws[p1]? = some (w, .inl (cJ, nw, .inr (.inl f)))) (e2 : ws[p2]? = some (r, .inl (cD, nr, .inr (.inr (.inr (.inl g)))))) (hn : nw < 2 ^ 31 ∧ nr < 2 ^ 31) (u0 u1 u2 : Nat) (sa sw sr : Nat) (sk slen : Int32) (snw snr : Nat) (sf : Nat → Int64) (sg : Nat → UInt64) (d0 : ws[u0]? = some (sa, .inr (0, [.int sk, .int slen, .ref sw, .ref sr]))) (d1 : ws[u1]? = some (sw, .inl (cJ, snw, .inr (.inl sf)))) (d2 : ws[u2]? = some (sr, .inl (cD, snr, .inr (.inr (.inr (.inl sg)))))) (hm : snw < 2 ^ 31 ∧ snr < 2 ^ 31) (hne : (p1 ≠ p0 ∧ p1 ≠ p2 ∧ p1 ≠ u0 ∧ p1 ≠ u1 ∧ p1 ≠ u2) ∧ (p2 ≠ p0 ∧ p2 ≠ p1 ∧ p2 ≠ u0 ∧ p2 ≠ u1 ∧ p2 ≠ u2)) (N : Nat) (hN : N < 2 ^ 31) (hlen : slen = nI N) (hsk : kFl sk = false) (hk : kFl k = false) (hr1 : N ≤ nw) (hr2 : N ≤ snw) : Met l yX0_takeWidened wsX0_takeWidened ({ frames := 1, cells := 0, slots := 0, locals := 23 }) (tcP D A (tcTY cI cJ cD cC) sz [.ref a, .ref sa] ws) (va_Qv (fun _ : Unit => True) (fun _ t => tcB D A (ws.set p1 (w, .inl (cJ, nw, .inr (.inl (tc_mix sf f N))))) t) A) 0 0 A := by
  refine Met.ofW (cc := cX0_takeWidened) (maxL := 3) (ret := none) (by decide) rfl ?_
  intro p e s m args below meth c s₁ B hml hv
  obtain ⟨rfl, hsz, hP, hK, hD, hE⟩ := hv
  have hx := B.exec
  have hb := B.bytes
  have hr := B.returns
  have hts := atoms_spec (ws := wsX0_takeWidened) B.pre
  have hown : s.vm.findClass RX0 = some m.cls := findClass_of_methodNamed B.named
  have hlocks := B.notSynchronized
  have hl := lv_entry ([.ref a, .ref sa]) (n := 3) (Nat.le_of_ble_eq_true rfl)
  rw [lg_entry_eq]
  generalize (lg_sl ([.ref a, .ref sa]) ++ List.replicate (3 - (lg_sl ([.ref a, .ref sa])).length) Slot.unset).toArray = ls at hl ⊢
  have hl : lv_has ls 3 [(0, .ref a), (1, .ref sa)] := hl
  subst hsz
  have hS : va_S A s.heap s.heap [] := va_S.rf
  refine lv_iconst (v := 0) hx hb dX0_takeWidened_0 (by decide) ?_
  refine lv_istore_n (lv' := [(2, .int 0), (0, .ref a), (1, .ref sa)]) hx hb dX0_takeWidened_1 rfl hl (by decide) rfl (fun ls hl => ?_)
  refine tc_loop (fun k9 H locs ls => ∃ i : Nat, i + k9 = N ∧ va_P D vwCl (ws.set p1 (w, .inl (cJ, nw, .inr (.inl (tc_mix sf f i))))) H ∧ va_D A (ws.set p1 (w, .inl (cJ, nw, .inr (.inl (tc_mix sf f i))))) ∧ va_S A s.heap H locs ∧ lv_has ls 3 [(2, .int (nI i)), (0, .ref a), (1, .ref sa)]) (fun k9 H locs ls hi9 ih => ?_) (fun H locs ls hi9 => ?_) N ⟨0, by omega, by rw [tc_mix_0, tc_set_same e1]; exact hP, by rw [tc_mix_0, tc_set_same e1]; exact hD, hS, hl⟩
  · obtain ⟨i, hik, hP, hD, hS, hl⟩ := hi9
    have hiN : i < N := by omega
    have e0a := tc_set_ne (y := (w, .inl (cJ, nw, .inr (.inl (tc_mix sf f i))))) e0 (hne.1.1)
    have d0a := tc_set_ne (y := (w, .inl (cJ, nw, .inr (.inl (tc_mix sf f i))))) d0 (hne.1.2.2.1)
    have d1a := tc_set_ne (y := (w, .inl (cJ, nw, .inr (.inl (tc_mix sf f i))))) d1 (hne.1.2.2.2.1)
    have d2a := tc_set_ne (y := (w, .inl (cJ, nw, .inr (.inl (tc_mix sf f i))))) d2 (hne.1.2.2.2.2)
    have eoa := tc_set_ne (y := (w, .inl (cJ, nw, .inr (.inl (tc_mix sf f i))))) e2 (hne.1.2.1)
    have eta := tc_set_self (y := (w, .inl (cJ, nw, .inr (.inl (tc_mix sf f i))))) e1
    refine lv_iload_n hx hb dX0_takeWidened_2 rfl (lv_at hl 0 rfl) ?_
    refine lv_aload_n hx hb dX0_takeWidened_3 rfl (lv_at hl 2 rfl) ?_
    refine va_get (D := D) (ci := 0) (fs := [.int sk, .int slen, .ref sw, .ref sr]) (v := .int slen) (C := RX0) (T := TX0) (N := 4) hx hb hts (by decide +kernel) hown hK hP u0 d0a rfl 1 (by decide) (hts (.fieldLink RX0 22 "TypedColumns$Column" "length" "I") (by decide +kernel)) (fun _ h9 => h9) rfl dX0_takeWidened_4 ?_
    refine lv_icmp_ge (tgt := 49) hx hb dX0_takeWidened_7 (by decide) (fun q => absurd q (by rw [hlen]; exact nI_ge hiN (by omega))) (fun _ => ?_)
    refine lv_aload_n hx hb dX0_takeWidened_10 rfl (lv_at hl 2 rfl) ?_
    refine va_get (D := D) (ci := 0) (fs := [.int sk, .int slen, .ref sw, .ref sr]) (v := .int sk) (C := RX0) (T := TX0) (N := 4) hx hb hts (by decide +kernel) hown hK hP u0 d0a rfl 0 (by decide) (hts (.fieldLink RX0 16 "TypedColumns$Column" "kind" "I") (by decide +kernel)) (fun _ h9 => h9) rfl dX0_takeWidened_11 ?_
    refine vp_callSi (tc_CR (va_runSN (As := [.int sk]) (rest := []) ⟨hx, hb, hml, hown, hts⟩ (kX2_isFloating l sk) ⟨va_cnB 1 hts gX0_takeWidened_X2_isFloating_n25 rfl rfl rfl (hE.2.2.2.2.2.1) (hts (.initialized RX2) (by decide +kernel)) (by decide +kernel) ⟨Nat.le_of_ble_eq_true rfl, Nat.le_of_ble_eq_true rfl⟩, hts (.static yX2_isFloating) (by decide +kernel), trivial⟩ ⟨fun a U g mk q => q, fun U hU hW => ⟨rfl, trivial⟩⟩ rfl rfl hl.1 rfl (lv_room (Nat.le_of_ble_eq_true rfl)) dX0_takeWidened_14 ⟨Nat.zero_le _, Nat.zero_le _⟩)) (fun r_2 hr_2 => ?_)
    subst hr_2
    refine lv_if_eq (tgt := 33) hx hb dX0_takeWidened_17 (by decide) (fun _ => ?_) (fun q => absurd ((tb_0 _).mpr hsk) q)
    refine lv_aload_n hx hb dX0_takeWidened_33 rfl (lv_at hl 1 rfl) ?_
    refine lv_iload_n hx hb dX0_takeWidened_34 rfl (lv_at hl 0 rfl) ?_
    refine lv_aload_n hx hb dX0_takeWidened_35 rfl (lv_at hl 2 rfl) ?_
    refine lv_iload_n hx hb dX0_takeWidened_36 rfl (lv_at hl 0 rfl) ?_
    refine vp_callSl (tc_CR (va_runV (As := [.int (nI i)]) (rest := [.int (nI i), .ref a]) ⟨hx, hb, hml, hown, hts⟩ (oX0_wholeAt l D A cI cJ cD cC (ws.set p1 (w, .inl (cJ, nw, .inr (.inl (tc_mix sf f i))))) u0 u1 u2 sa sw sr sk slen snw snr sf sg H.size d0a d1a d2a hm (nI i) (vp_in_nI (by omega) hm.1)) (cwV 1 hts gX0_takeWidened_X0_wholeAt rfl rfl rfl (by decide +kernel) ⟨Nat.le_of_ble_eq_true rfl, Nat.le_of_ble_eq_true rfl⟩) ⟨tcP.blind, (va_recv hK hP (ci := 0) (q0 := u0) rfl d0a), (tcP.go hK hP hD hE hS)⟩ rfl rfl hl.1 rfl (lv_room (Nat.le_of_ble_eq_true rfl)) dX0_takeWidened_37 ⟨Nat.le_of_ble_eq_true rfl, Nat.le_of_ble_eq_true rfl⟩)) (fun r_4 hr_4 => ?_)
    subst hr_4
    rw [nI_clamp (n := i) (by omega)]
    refine va_callv (va_runV (As := [.int (nI i), .long (sf i)]) (rest := []) ⟨hx, hb, hml, hown, hts⟩ (oX0_putWhole_w l D A cI cJ cD cC (ws.set p1 (w, .inl (cJ, nw, .inr (.inl (tc_mix sf f i))))) p0 p1 p2 a w r k len nw nr (tc_mix sf f i) g H.size e0a eta eoa hn (nI i) (sf i) (vp_in_nI (by omega) hn.1) hk) (cwV 2 hts gX0_takeWidened_X0_putWhole rfl rfl rfl (by decide +kernel) ⟨Nat.le_of_ble_eq_true rfl, Nat.le_of_ble_eq_true rfl⟩) ⟨tcP.blind, (va_recv hK hP (ci := 0) (q0 := p0) rfl e0a), (tcP.go hK hP hD hE hS)⟩ rfl rfl hl.1 rfl (lv_room (Nat.le_of_ble_eq_true rfl)) dX0_takeWidened_40 ⟨Nat.le_of_ble_eq_true rfl, Nat.le_of_ble_eq_true rfl⟩) hS (fun q _ h => h) (fun q h => h) (fun u t H locs ht hvm hw hB hz1 hk1 hS => ?_)
    obtain ⟨hP, hD⟩ := hB
    rw [ht] at hP
    rw [List.set_set, nI_clamp (n := i) (by omega), show vp_updL (tc_mix sf f i) i _ = tc_mix sf f (i + 1) from tc_mix_sL sf f i] at hP hD
    obtain ⟨x_6, ex_6⟩ : ∃ y : Int32, y = (nI i) + (1) := ⟨_, rfl⟩
    refine lv_iinc (v := x_6) (lv' := [(2, .int x_6), (0, .ref a), (1, .ref sa)]) hx hb dX0_takeWidened_43 hl (k := 0) rfl (by rw [ex_6]; rfl) (by decide) rfl (fun ls hl => ?_)
    refine lv_goto (tgt := 2) hx hb dX0_takeWidened_46 (by decide) ?_
    subst ex_6
    exact ih _ _ _ ⟨i + 1, by omega, hP, hD, hS, by rw [nI_succ]; exact lv_sub hl [0, 1, 2] rfl⟩
  · obtain ⟨i, hik, hP, hD, hS, hl⟩ := hi9
    have hiN : i = N := by omega
    subst hiN
    have e0a := tc_set_ne (y := (w, .inl (cJ, nw, .inr (.inl (tc_mix sf f i))))) e0 (hne.1.1)
    have d0a := tc_set_ne (y := (w, .inl (cJ, nw, .inr (.inl (tc_mix sf f i))))) d0 (hne.1.2.2.1)
    have d1a := tc_set_ne (y := (w, .inl (cJ, nw, .inr (.inl (tc_mix sf f i))))) d1 (hne.1.2.2.2.1)
    have d2a := tc_set_ne (y := (w, .inl (cJ, nw, .inr (.inl (tc_mix sf f i))))) d2 (hne.1.2.2.2.2)
    have eoa := tc_set_ne (y := (w, .inl (cJ, nw, .inr (.inl (tc_mix sf f i))))) e2 (hne.1.2.1)
    have eta := tc_set_self (y := (w, .inl (cJ, nw, .inr (.inl (tc_mix sf f i))))) e1
    refine lv_iload_n hx hb dX0_takeWidened_2 rfl (lv_at hl 0 rfl) ?_
    refine lv_aload_n hx hb dX0_takeWidened_3 rfl (lv_at hl 2 rfl) ?_
    refine va_get (D := D) (ci := 0) (fs := [.int sk, .int slen, .ref sw, .ref sr]) (v := .int slen) (C := RX0) (T := TX0) (N := 4) hx hb hts (by decide +kernel) hown hK hP u0 d0a rfl 1 (by decide) (hts (.fieldLink RX0 22 "TypedColumns$Column" "length" "I") (by decide +kernel)) (fun _ h9 => h9) rfl dX0_takeWidened_4 ?_
    refine lv_icmp_ge (tgt := 49) hx hb dX0_takeWidened_7 (by decide) (fun _ => ?_) (fun q => absurd (by rw [hlen]; exact nI_le (Nat.le_refl _) (by omega)) q)
    exact W.vret hx hb hr (fun t9 ht9 hW9 => ⟨⟨(), rfl, trivial, by rw [ht9]; exact hP, hD⟩, hS.F ht9⟩) hS.2.2 dX0_takeWidened_49
set_option maxHeartbeats 4000000 in
set_option maxRecDepth 100000 in
theorem oX0_takeWidened_wf (l : Launch) (D : va_G) (A : Nat → Prop) (cI cJ cD cC : ClassId) (ws : va_W) (p0 p1 p2 : Nat) (a w r : Nat) (k len : Int32) (nw nr : Nat) (f : Nat → Int64) (g : Nat → UInt64) (sz : Nat) (e0 : ws[p0]? = some (a, .inr (0, [.int k, .int len, .ref w, .ref r]))) (e1 : ws[p1]? = some (w, .inl (cJ, nw, .inr (.inl f)))) (e2 : ws[p2]? = some (r, .inl (cD, nr, .inr (.inr (.inr (.inl g)))))) (hn : nw < 2 ^ 31 ∧ nr < 2 ^ 31) (u0 u1 u2 : Nat) (sa sw sr : Nat) (sk slen : Int32) (snw snr : Nat) (sf : Nat → Int64) (sg : Nat → UInt64) (d0 : ws[u0]? = some (sa, .inr (0, [.int sk, .int slen, .ref sw, .ref sr]))) (d1 : ws[u1]? = some (sw, .inl (cJ, snw, .inr (.inl sf)))) (d2 : ws[u2]? = some (sr, .inl (cD, snr, .inr (.inr (.inr (.inl sg)))))) (hm : snw < 2 ^ 31 ∧ snr < 2 ^ 31) (hne : (p1 ≠ p0 ∧ p1 ≠ p2 ∧ p1 ≠ u0 ∧ p1 ≠ u1 ∧ p1 ≠ u2) ∧ (p2 ≠ p0 ∧ p2 ≠ p1 ∧ p2 ≠ u0 ∧ p2 ≠ u1 ∧ p2 ≠ u2)) (N : Nat) (hN : N < 2 ^ 31) (hlen : slen = nI N) (hsk : kFl sk = false) (hk : k = 7) (hr1 : N ≤ nr) (hr2 : N ≤ snw) : Met l yX0_takeWidened wsX0_takeWidened ({ frames := 2, cells := 0, slots := 0, locals := 46 }) (tcP D A (tcTY cI cJ cD cC) sz [.ref a, .ref sa] ws) (va_Qv (fun _ : Unit => True) (fun _ t => tcB D A (ws.set p2 (r, .inl (cD, nr, .inr (.inr (.inr (.inl (tc_mix (fun q => FP.f2d (FP.l2f (sf q))) g N))))))) t) A) 0 0 A := by
  refine Met.ofW (cc := cX0_takeWidened) (maxL := 3) (ret := none) (by decide) rfl ?_
  intro p e s m args below meth c s₁ B hml hv
  obtain ⟨rfl, hsz, hP, hK, hD, hE⟩ := hv
  have hx := B.exec
  have hb := B.bytes
  have hr := B.returns
  have hts := atoms_spec (ws := wsX0_takeWidened) B.pre
  have hown : s.vm.findClass RX0 = some m.cls := findClass_of_methodNamed B.named
  have hlocks := B.notSynchronized
  have hl := lv_entry ([.ref a, .ref sa]) (n := 3) (Nat.le_of_ble_eq_true rfl)
  rw [lg_entry_eq]
  generalize (lg_sl ([.ref a, .ref sa]) ++ List.replicate (3 - (lg_sl ([.ref a, .ref sa])).length) Slot.unset).toArray = ls at hl ⊢
  have hl : lv_has ls 3 [(0, .ref a), (1, .ref sa)] := hl
  subst hsz
  have hS : va_S A s.heap s.heap [] := va_S.rf
  refine lv_iconst (v := 0) hx hb dX0_takeWidened_0 (by decide) ?_
  refine lv_istore_n (lv' := [(2, .int 0), (0, .ref a), (1, .ref sa)]) hx hb dX0_takeWidened_1 rfl hl (by decide) rfl (fun ls hl => ?_)
  refine tc_loop (fun k9 H locs ls => ∃ i : Nat, i + k9 = N ∧ va_P D vwCl (ws.set p2 (r, .inl (cD, nr, .inr (.inr (.inr (.inl (tc_mix (fun q => FP.f2d (FP.l2f (sf q))) g i))))))) H ∧ va_D A (ws.set p2 (r, .inl (cD, nr, .inr (.inr (.inr (.inl (tc_mix (fun q => FP.f2d (FP.l2f (sf q))) g i))))))) ∧ va_S A s.heap H locs ∧ lv_has ls 3 [(2, .int (nI i)), (0, .ref a), (1, .ref sa)]) (fun k9 H locs ls hi9 ih => ?_) (fun H locs ls hi9 => ?_) N ⟨0, by omega, by rw [tc_mix_0, tc_set_same e2]; exact hP, by rw [tc_mix_0, tc_set_same e2]; exact hD, hS, hl⟩
  · obtain ⟨i, hik, hP, hD, hS, hl⟩ := hi9
    have hiN : i < N := by omega
    have e0a := tc_set_ne (y := (r, .inl (cD, nr, .inr (.inr (.inr (.inl (tc_mix (fun q => FP.f2d (FP.l2f (sf q))) g i))))))) e0 (hne.2.1)
    have d0a := tc_set_ne (y := (r, .inl (cD, nr, .inr (.inr (.inr (.inl (tc_mix (fun q => FP.f2d (FP.l2f (sf q))) g i))))))) d0 (hne.2.2.2.1)
    have d1a := tc_set_ne (y := (r, .inl (cD, nr, .inr (.inr (.inr (.inl (tc_mix (fun q => FP.f2d (FP.l2f (sf q))) g i))))))) d1 (hne.2.2.2.2.1)
    have d2a := tc_set_ne (y := (r, .inl (cD, nr, .inr (.inr (.inr (.inl (tc_mix (fun q => FP.f2d (FP.l2f (sf q))) g i))))))) d2 (hne.2.2.2.2.2)
    have eoa := tc_set_ne (y := (r, .inl (cD, nr, .inr (.inr (.inr (.inl (tc_mix (fun q => FP.f2d (FP.l2f (sf q))) g i))))))) e1 (hne.2.2.1)
    have eta := tc_set_self (y := (r, .inl (cD, nr, .inr (.inr (.inr (.inl (tc_mix (fun q => FP.f2d (FP.l2f (sf q))) g i))))))) e2
    refine lv_iload_n hx hb dX0_takeWidened_2 rfl (lv_at hl 0 rfl) ?_
    refine lv_aload_n hx hb dX0_takeWidened_3 rfl (lv_at hl 2 rfl) ?_
    refine va_get (D := D) (ci := 0) (fs := [.int sk, .int slen, .ref sw, .ref sr]) (v := .int slen) (C := RX0) (T := TX0) (N := 4) hx hb hts (by decide +kernel) hown hK hP u0 d0a rfl 1 (by decide) (hts (.fieldLink RX0 22 "TypedColumns$Column" "length" "I") (by decide +kernel)) (fun _ h9 => h9) rfl dX0_takeWidened_4 ?_
    refine lv_icmp_ge (tgt := 49) hx hb dX0_takeWidened_7 (by decide) (fun q => absurd q (by rw [hlen]; exact nI_ge hiN (by omega))) (fun _ => ?_)
    refine lv_aload_n hx hb dX0_takeWidened_10 rfl (lv_at hl 2 rfl) ?_
    refine va_get (D := D) (ci := 0) (fs := [.int sk, .int slen, .ref sw, .ref sr]) (v := .int sk) (C := RX0) (T := TX0) (N := 4) hx hb hts (by decide +kernel) hown hK hP u0 d0a rfl 0 (by decide) (hts (.fieldLink RX0 16 "TypedColumns$Column" "kind" "I") (by decide +kernel)) (fun _ h9 => h9) rfl dX0_takeWidened_11 ?_
    refine vp_callSi (tc_CR (va_runSN (As := [.int sk]) (rest := []) ⟨hx, hb, hml, hown, hts⟩ (kX2_isFloating l sk) ⟨va_cnB 1 hts gX0_takeWidened_X2_isFloating_n25 rfl rfl rfl (hE.2.2.2.2.2.1) (hts (.initialized RX2) (by decide +kernel)) (by decide +kernel) ⟨Nat.le_of_ble_eq_true rfl, Nat.le_of_ble_eq_true rfl⟩, hts (.static yX2_isFloating) (by decide +kernel), trivial⟩ ⟨fun a U g mk q => q, fun U hU hW => ⟨rfl, trivial⟩⟩ rfl rfl hl.1 rfl (lv_room (Nat.le_of_ble_eq_true rfl)) dX0_takeWidened_14 ⟨Nat.zero_le _, Nat.zero_le _⟩)) (fun r_2 hr_2 => ?_)
    subst hr_2
    refine lv_if_eq (tgt := 33) hx hb dX0_takeWidened_17 (by decide) (fun _ => ?_) (fun q => absurd ((tb_0 _).mpr hsk) q)
    refine lv_aload_n hx hb dX0_takeWidened_33 rfl (lv_at hl 1 rfl) ?_
    refine lv_iload_n hx hb dX0_takeWidened_34 rfl (lv_at hl 0 rfl) ?_
    refine lv_aload_n hx hb dX0_takeWidened_35 rfl (lv_at hl 2 rfl) ?_
    refine lv_iload_n hx hb dX0_takeWidened_36 rfl (lv_at hl 0 rfl) ?_
    refine vp_callSl (tc_CR (va_runV (As := [.int (nI i)]) (rest := [.int (nI i), .ref a]) ⟨hx, hb, hml, hown, hts⟩ (oX0_wholeAt l D A cI cJ cD cC (ws.set p2 (r, .inl (cD, nr, .inr (.inr (.inr (.inl (tc_mix (fun q => FP.f2d (FP.l2f (sf q))) g i))))))) u0 u1 u2 sa sw sr sk slen snw snr sf sg H.size d0a d1a d2a hm (nI i) (vp_in_nI (by omega) hm.1)) (cwV 1 hts gX0_takeWidened_X0_wholeAt rfl rfl rfl (by decide +kernel) ⟨Nat.le_of_ble_eq_true rfl, Nat.le_of_ble_eq_true rfl⟩) ⟨tcP.blind, (va_recv hK hP (ci := 0) (q0 := u0) rfl d0a), (tcP.go hK hP hD hE hS)⟩ rfl rfl hl.1 rfl (lv_room (Nat.le_of_ble_eq_true rfl)) dX0_takeWidened_37 ⟨Nat.le_of_ble_eq_true rfl, Nat.le_of_ble_eq_true rfl⟩)) (fun r_4 hr_4 => ?_)
    subst hr_4
    rw [nI_clamp (n := i) (by omega)]
    refine va_callv (va_runV (As := [.int (nI i), .long (sf i)]) (rest := []) ⟨hx, hb, hml, hown, hts⟩ (oX0_putWhole_f l D A cI cJ cD cC (ws.set p2 (r, .inl (cD, nr, .inr (.inr (.inr (.inl (tc_mix (fun q => FP.f2d (FP.l2f (sf q))) g i))))))) p0 p1 p2 a w r k len nw nr f (tc_mix (fun q => FP.f2d (FP.l2f (sf q))) g i) H.size e0a eoa eta hn (nI i) (sf i) (vp_in_nI (by omega) hn.2) hk) (cwV 2 hts gX0_takeWidened_X0_putWhole rfl rfl rfl (by decide +kernel) ⟨Nat.le_of_ble_eq_true rfl, Nat.le_of_ble_eq_true rfl⟩) ⟨tcP.blind, (va_recv hK hP (ci := 0) (q0 := p0) rfl e0a), (tcP.go hK hP hD hE hS)⟩ rfl rfl hl.1 rfl (lv_room (Nat.le_of_ble_eq_true rfl)) dX0_takeWidened_40 ⟨Nat.le_of_ble_eq_true rfl, Nat.le_of_ble_eq_true rfl⟩) hS (fun q _ h => h) (fun q h => h) (fun u t H locs ht hvm hw hB hz1 hk1 hS => ?_)
    obtain ⟨hP, hD⟩ := hB
    rw [ht] at hP
    rw [List.set_set, nI_clamp (n := i) (by omega), show vf_upd (tc_mix (fun q => FP.f2d (FP.l2f (sf q))) g i) i _ = tc_mix (fun q => FP.f2d (FP.l2f (sf q))) g (i + 1) from tc_mix_s (fun q => FP.f2d (FP.l2f (sf q))) g i] at hP hD
    obtain ⟨x_6, ex_6⟩ : ∃ y : Int32, y = (nI i) + (1) := ⟨_, rfl⟩
    refine lv_iinc (v := x_6) (lv' := [(2, .int x_6), (0, .ref a), (1, .ref sa)]) hx hb dX0_takeWidened_43 hl (k := 0) rfl (by rw [ex_6]; rfl) (by decide) rfl (fun ls hl => ?_)
    refine lv_goto (tgt := 2) hx hb dX0_takeWidened_46 (by decide) ?_
    subst ex_6
    exact ih _ _ _ ⟨i + 1, by omega, hP, hD, hS, by rw [nI_succ]; exact lv_sub hl [0, 1, 2] rfl⟩
  · obtain ⟨i, hik, hP, hD, hS, hl⟩ := hi9
    have hiN : i = N := by omega
    subst hiN
    have e0a := tc_set_ne (y := (r, .inl (cD, nr, .inr (.inr (.inr (.inl (tc_mix (fun q => FP.f2d (FP.l2f (sf q))) g i))))))) e0 (hne.2.1)
    have d0a := tc_set_ne (y := (r, .inl (cD, nr, .inr (.inr (.inr (.inl (tc_mix (fun q => FP.f2d (FP.l2f (sf q))) g i))))))) d0 (hne.2.2.2.1)
    have d1a := tc_set_ne (y := (r, .inl (cD, nr, .inr (.inr (.inr (.inl (tc_mix (fun q => FP.f2d (FP.l2f (sf q))) g i))))))) d1 (hne.2.2.2.2.1)
    have d2a := tc_set_ne (y := (r, .inl (cD, nr, .inr (.inr (.inr (.inl (tc_mix (fun q => FP.f2d (FP.l2f (sf q))) g i))))))) d2 (hne.2.2.2.2.2)
    have eoa := tc_set_ne (y := (r, .inl (cD, nr, .inr (.inr (.inr (.inl (tc_mix (fun q => FP.f2d (FP.l2f (sf q))) g i))))))) e1 (hne.2.2.1)
    have eta := tc_set_self (y := (r, .inl (cD, nr, .inr (.inr (.inr (.inl (tc_mix (fun q => FP.f2d (FP.l2f (sf q))) g i))))))) e2
    refine lv_iload_n hx hb dX0_takeWidened_2 rfl (lv_at hl 0 rfl) ?_
    refine lv_aload_n hx hb dX0_takeWidened_3 rfl (lv_at hl 2 rfl) ?_
    refine va_get (D := D) (ci := 0) (fs := [.int sk, .int slen, .ref sw, .ref sr]) (v := .int slen) (C := RX0) (T := TX0) (N := 4) hx hb hts (by decide +kernel) hown hK hP u0 d0a rfl 1 (by decide) (hts (.fieldLink RX0 22 "TypedColumns$Column" "length" "I") (by decide +kernel)) (fun _ h9 => h9) rfl dX0_takeWidened_4 ?_
    refine lv_icmp_ge (tgt := 49) hx hb dX0_takeWidened_7 (by decide) (fun _ => ?_) (fun q => absurd (by rw [hlen]; exact nI_le (Nat.le_refl _) (by omega)) q)
    exact W.vret hx hb hr (fun t9 ht9 hW9 => ⟨⟨(), rfl, trivial, by rw [ht9]; exact hP, hD⟩, hS.F ht9⟩) hS.2.2 dX0_takeWidened_49
set_option maxHeartbeats 4000000 in
set_option maxRecDepth 100000 in
theorem oX0_takeWidened_wd (l : Launch) (D : va_G) (A : Nat → Prop) (cI cJ cD cC : ClassId) (ws : va_W) (p0 p1 p2 : Nat) (a w r : Nat) (k len : Int32) (nw nr : Nat) (f : Nat → Int64) (g : Nat → UInt64) (sz : Nat) (e0 : ws[p0]? = some (a, .inr (0, [.int k, .int len, .ref w, .ref r]))) (e1 : ws[p1]? = some (w, .inl (cJ, nw, .inr (.inl f)))) (e2 : ws[p2]? = some (r, .inl (cD, nr, .inr (.inr (.inr (.inl g)))))) (hn : nw < 2 ^ 31 ∧ nr < 2 ^ 31) (u0 u1 u2 : Nat) (sa sw sr : Nat) (sk slen : Int32) (snw snr : Nat) (sf : Nat → Int64) (sg : Nat → UInt64) (d0 : ws[u0]? = some (sa, .inr (0, [.int sk, .int slen, .ref sw, .ref sr]))) (d1 : ws[u1]? = some (sw, .inl (cJ, snw, .inr (.inl sf)))) (d2 : ws[u2]? = some (sr, .inl (cD, snr, .inr (.inr (.inr (.inl sg)))))) (hm : snw < 2 ^ 31 ∧ snr < 2 ^ 31) (hne : (p1 ≠ p0 ∧ p1 ≠ p2 ∧ p1 ≠ u0 ∧ p1 ≠ u1 ∧ p1 ≠ u2) ∧ (p2 ≠ p0 ∧ p2 ≠ p1 ∧ p2 ≠ u0 ∧ p2 ≠ u1 ∧ p2 ≠ u2)) (N : Nat) (hN : N < 2 ^ 31) (hlen : slen = nI N) (hsk : kFl sk = false) (hk : k = 8) (hr1 : N ≤ nr) (hr2 : N ≤ snw) : Met l yX0_takeWidened wsX0_takeWidened ({ frames := 2, cells := 0, slots := 0, locals := 46 }) (tcP D A (tcTY cI cJ cD cC) sz [.ref a, .ref sa] ws) (va_Qv (fun _ : Unit => True) (fun _ t => tcB D A (ws.set p2 (r, .inl (cD, nr, .inr (.inr (.inr (.inl (tc_mix (fun q => FP.l2d (sf q)) g N))))))) t) A) 0 0 A := by
  refine Met.ofW (cc := cX0_takeWidened) (maxL := 3) (ret := none) (by decide) rfl ?_
  intro p e s m args below meth c s₁ B hml hv
  obtain ⟨rfl, hsz, hP, hK, hD, hE⟩ := hv
  have hx := B.exec
  have hb := B.bytes
  have hr := B.returns
  have hts := atoms_spec (ws := wsX0_takeWidened) B.pre
  have hown : s.vm.findClass RX0 = some m.cls := findClass_of_methodNamed B.named
  have hlocks := B.notSynchronized
  have hl := lv_entry ([.ref a, .ref sa]) (n := 3) (Nat.le_of_ble_eq_true rfl)
  rw [lg_entry_eq]
  generalize (lg_sl ([.ref a, .ref sa]) ++ List.replicate (3 - (lg_sl ([.ref a, .ref sa])).length) Slot.unset).toArray = ls at hl ⊢
  have hl : lv_has ls 3 [(0, .ref a), (1, .ref sa)] := hl
  subst hsz
  have hS : va_S A s.heap s.heap [] := va_S.rf
  refine lv_iconst (v := 0) hx hb dX0_takeWidened_0 (by decide) ?_
  refine lv_istore_n (lv' := [(2, .int 0), (0, .ref a), (1, .ref sa)]) hx hb dX0_takeWidened_1 rfl hl (by decide) rfl (fun ls hl => ?_)
  refine tc_loop (fun k9 H locs ls => ∃ i : Nat, i + k9 = N ∧ va_P D vwCl (ws.set p2 (r, .inl (cD, nr, .inr (.inr (.inr (.inl (tc_mix (fun q => FP.l2d (sf q)) g i))))))) H ∧ va_D A (ws.set p2 (r, .inl (cD, nr, .inr (.inr (.inr (.inl (tc_mix (fun q => FP.l2d (sf q)) g i))))))) ∧ va_S A s.heap H locs ∧ lv_has ls 3 [(2, .int (nI i)), (0, .ref a), (1, .ref sa)]) (fun k9 H locs ls hi9 ih => ?_) (fun H locs ls hi9 => ?_) N ⟨0, by omega, by rw [tc_mix_0, tc_set_same e2]; exact hP, by rw [tc_mix_0, tc_set_same e2]; exact hD, hS, hl⟩
  · obtain ⟨i, hik, hP, hD, hS, hl⟩ := hi9
    have hiN : i < N := by omega
    have e0a := tc_set_ne (y := (r, .inl (cD, nr, .inr (.inr (.inr (.inl (tc_mix (fun q => FP.l2d (sf q)) g i))))))) e0 (hne.2.1)
    have d0a := tc_set_ne (y := (r, .inl (cD, nr, .inr (.inr (.inr (.inl (tc_mix (fun q => FP.l2d (sf q)) g i))))))) d0 (hne.2.2.2.1)
    have d1a := tc_set_ne (y := (r, .inl (cD, nr, .inr (.inr (.inr (.inl (tc_mix (fun q => FP.l2d (sf q)) g i))))))) d1 (hne.2.2.2.2.1)
    have d2a := tc_set_ne (y := (r, .inl (cD, nr, .inr (.inr (.inr (.inl (tc_mix (fun q => FP.l2d (sf q)) g i))))))) d2 (hne.2.2.2.2.2)
    have eoa := tc_set_ne (y := (r, .inl (cD, nr, .inr (.inr (.inr (.inl (tc_mix (fun q => FP.l2d (sf q)) g i))))))) e1 (hne.2.2.1)
    have eta := tc_set_self (y := (r, .inl (cD, nr, .inr (.inr (.inr (.inl (tc_mix (fun q => FP.l2d (sf q)) g i))))))) e2
    refine lv_iload_n hx hb dX0_takeWidened_2 rfl (lv_at hl 0 rfl) ?_
    refine lv_aload_n hx hb dX0_takeWidened_3 rfl (lv_at hl 2 rfl) ?_
    refine va_get (D := D) (ci := 0) (fs := [.int sk, .int slen, .ref sw, .ref sr]) (v := .int slen) (C := RX0) (T := TX0) (N := 4) hx hb hts (by decide +kernel) hown hK hP u0 d0a rfl 1 (by decide) (hts (.fieldLink RX0 22 "TypedColumns$Column" "length" "I") (by decide +kernel)) (fun _ h9 => h9) rfl dX0_takeWidened_4 ?_
    refine lv_icmp_ge (tgt := 49) hx hb dX0_takeWidened_7 (by decide) (fun q => absurd q (by rw [hlen]; exact nI_ge hiN (by omega))) (fun _ => ?_)
    refine lv_aload_n hx hb dX0_takeWidened_10 rfl (lv_at hl 2 rfl) ?_
    refine va_get (D := D) (ci := 0) (fs := [.int sk, .int slen, .ref sw, .ref sr]) (v := .int sk) (C := RX0) (T := TX0) (N := 4) hx hb hts (by decide +kernel) hown hK hP u0 d0a rfl 0 (by decide) (hts (.fieldLink RX0 16 "TypedColumns$Column" "kind" "I") (by decide +kernel)) (fun _ h9 => h9) rfl dX0_takeWidened_11 ?_
    refine vp_callSi (tc_CR (va_runSN (As := [.int sk]) (rest := []) ⟨hx, hb, hml, hown, hts⟩ (kX2_isFloating l sk) ⟨va_cnB 1 hts gX0_takeWidened_X2_isFloating_n25 rfl rfl rfl (hE.2.2.2.2.2.1) (hts (.initialized RX2) (by decide +kernel)) (by decide +kernel) ⟨Nat.le_of_ble_eq_true rfl, Nat.le_of_ble_eq_true rfl⟩, hts (.static yX2_isFloating) (by decide +kernel), trivial⟩ ⟨fun a U g mk q => q, fun U hU hW => ⟨rfl, trivial⟩⟩ rfl rfl hl.1 rfl (lv_room (Nat.le_of_ble_eq_true rfl)) dX0_takeWidened_14 ⟨Nat.zero_le _, Nat.zero_le _⟩)) (fun r_2 hr_2 => ?_)
    subst hr_2
    refine lv_if_eq (tgt := 33) hx hb dX0_takeWidened_17 (by decide) (fun _ => ?_) (fun q => absurd ((tb_0 _).mpr hsk) q)
    refine lv_aload_n hx hb dX0_takeWidened_33 rfl (lv_at hl 1 rfl) ?_
    refine lv_iload_n hx hb dX0_takeWidened_34 rfl (lv_at hl 0 rfl) ?_
    refine lv_aload_n hx hb dX0_takeWidened_35 rfl (lv_at hl 2 rfl) ?_
    refine lv_iload_n hx hb dX0_takeWidened_36 rfl (lv_at hl 0 rfl) ?_
    refine vp_callSl (tc_CR (va_runV (As := [.int (nI i)]) (rest := [.int (nI i), .ref a]) ⟨hx, hb, hml, hown, hts⟩ (oX0_wholeAt l D A cI cJ cD cC (ws.set p2 (r, .inl (cD, nr, .inr (.inr (.inr (.inl (tc_mix (fun q => FP.l2d (sf q)) g i))))))) u0 u1 u2 sa sw sr sk slen snw snr sf sg H.size d0a d1a d2a hm (nI i) (vp_in_nI (by omega) hm.1)) (cwV 1 hts gX0_takeWidened_X0_wholeAt rfl rfl rfl (by decide +kernel) ⟨Nat.le_of_ble_eq_true rfl, Nat.le_of_ble_eq_true rfl⟩) ⟨tcP.blind, (va_recv hK hP (ci := 0) (q0 := u0) rfl d0a), (tcP.go hK hP hD hE hS)⟩ rfl rfl hl.1 rfl (lv_room (Nat.le_of_ble_eq_true rfl)) dX0_takeWidened_37 ⟨Nat.le_of_ble_eq_true rfl, Nat.le_of_ble_eq_true rfl⟩)) (fun r_4 hr_4 => ?_)
    subst hr_4
    rw [nI_clamp (n := i) (by omega)]
    refine va_callv (va_runV (As := [.int (nI i), .long (sf i)]) (rest := []) ⟨hx, hb, hml, hown, hts⟩ (oX0_putWhole_d l D A cI cJ cD cC (ws.set p2 (r, .inl (cD, nr, .inr (.inr (.inr (.inl (tc_mix (fun q => FP.l2d (sf q)) g i))))))) p0 p1 p2 a w r k len nw nr f (tc_mix (fun q => FP.l2d (sf q)) g i) H.size e0a eoa eta hn (nI i) (sf i) (vp_in_nI (by omega) hn.2) hk) (cwV 2 hts gX0_takeWidened_X0_putWhole rfl rfl rfl (by decide +kernel) ⟨Nat.le_of_ble_eq_true rfl, Nat.le_of_ble_eq_true rfl⟩) ⟨tcP.blind, (va_recv hK hP (ci := 0) (q0 := p0) rfl e0a), (tcP.go hK hP hD hE hS)⟩ rfl rfl hl.1 rfl (lv_room (Nat.le_of_ble_eq_true rfl)) dX0_takeWidened_40 ⟨Nat.le_of_ble_eq_true rfl, Nat.le_of_ble_eq_true rfl⟩) hS (fun q _ h => h) (fun q h => h) (fun u t H locs ht hvm hw hB hz1 hk1 hS => ?_)
    obtain ⟨hP, hD⟩ := hB
    rw [ht] at hP
    rw [List.set_set, nI_clamp (n := i) (by omega), show vf_upd (tc_mix (fun q => FP.l2d (sf q)) g i) i _ = tc_mix (fun q => FP.l2d (sf q)) g (i + 1) from tc_mix_s (fun q => FP.l2d (sf q)) g i] at hP hD
    obtain ⟨x_6, ex_6⟩ : ∃ y : Int32, y = (nI i) + (1) := ⟨_, rfl⟩
    refine lv_iinc (v := x_6) (lv' := [(2, .int x_6), (0, .ref a), (1, .ref sa)]) hx hb dX0_takeWidened_43 hl (k := 0) rfl (by rw [ex_6]; rfl) (by decide) rfl (fun ls hl => ?_)
    refine lv_goto (tgt := 2) hx hb dX0_takeWidened_46 (by decide) ?_
    subst ex_6
    exact ih _ _ _ ⟨i + 1, by omega, hP, hD, hS, by rw [nI_succ]; exact lv_sub hl [0, 1, 2] rfl⟩
  · obtain ⟨i, hik, hP, hD, hS, hl⟩ := hi9
    have hiN : i = N := by omega
    subst hiN
    have e0a := tc_set_ne (y := (r, .inl (cD, nr, .inr (.inr (.inr (.inl (tc_mix (fun q => FP.l2d (sf q)) g i))))))) e0 (hne.2.1)
    have d0a := tc_set_ne (y := (r, .inl (cD, nr, .inr (.inr (.inr (.inl (tc_mix (fun q => FP.l2d (sf q)) g i))))))) d0 (hne.2.2.2.1)
    have d1a := tc_set_ne (y := (r, .inl (cD, nr, .inr (.inr (.inr (.inl (tc_mix (fun q => FP.l2d (sf q)) g i))))))) d1 (hne.2.2.2.2.1)
    have d2a := tc_set_ne (y := (r, .inl (cD, nr, .inr (.inr (.inr (.inl (tc_mix (fun q => FP.l2d (sf q)) g i))))))) d2 (hne.2.2.2.2.2)
    have eoa := tc_set_ne (y := (r, .inl (cD, nr, .inr (.inr (.inr (.inl (tc_mix (fun q => FP.l2d (sf q)) g i))))))) e1 (hne.2.2.1)
    have eta := tc_set_self (y := (r, .inl (cD, nr, .inr (.inr (.inr (.inl (tc_mix (fun q => FP.l2d (sf q)) g i))))))) e2
    refine lv_iload_n hx hb dX0_takeWidened_2 rfl (lv_at hl 0 rfl) ?_
    refine lv_aload_n hx hb dX0_takeWidened_3 rfl (lv_at hl 2 rfl) ?_
    refine va_get (D := D) (ci := 0) (fs := [.int sk, .int slen, .ref sw, .ref sr]) (v := .int slen) (C := RX0) (T := TX0) (N := 4) hx hb hts (by decide +kernel) hown hK hP u0 d0a rfl 1 (by decide) (hts (.fieldLink RX0 22 "TypedColumns$Column" "length" "I") (by decide +kernel)) (fun _ h9 => h9) rfl dX0_takeWidened_4 ?_
    refine lv_icmp_ge (tgt := 49) hx hb dX0_takeWidened_7 (by decide) (fun _ => ?_) (fun q => absurd (by rw [hlen]; exact nI_le (Nat.le_refl _) (by omega)) q)
    exact W.vret hx hb hr (fun t9 ht9 hW9 => ⟨⟨(), rfl, trivial, by rw [ht9]; exact hP, hD⟩, hS.F ht9⟩) hS.2.2 dX0_takeWidened_49
end
section
/-! WHAT READS AND WRITES DO, in words of the state -/
theorem tc_sl_in {α : Type} {m i : Nat} {f : Nat → α} {z : α} (h : i < m) : tc_sl m f z i = f i := by unfold tc_sl; rw [if_pos h]
/-- the invariant of a state -/
def tcI (n : Nat) (K : Nat → Int32) (Ln : Nat → Nat) (Wh : Nat → Int64) (Re : Nat → UInt64) : Prop :=
  n ≤ 60 ∧ (∀ j, j < n → kIs (K j) = true ∧ Ln j ≤ 40 ∧ (kHas (K j) = false → Ln j = 0)) ∧ (∀ j, j < n → K j = 1 → ∀ q, q < Ln j → Wh (40 * j + q) = 0 ∨ Wh (40 * j + q) = 1) ∧ (∀ j, j < n → kFl (K j) = true → ∀ q, q < Ln j → FP.Core.dIsNaN (Re (40 * j + q)) = false)
def cdR (K : Nat → Int32) (Ln : Nat → Nat) (j : Nat) (i a b : Int32) : Int32 := kCell (K j) (tc_cl (K j) (Ln j)) i a b
def rdW (K : Nat → Int32) (Ln : Nat → Nat) (Wh : Nat → Int64) (j : Nat) (i kd : Int32) : Int64 := if cdR K Ln j i (K j) kd = 0 then Wh (40 * j + i.toNatClampNeg) else 0
def rdR (K : Nat → Int32) (Ln : Nat → Nat) (Wh : Nat → Int64) (Re : Nat → UInt64) (j : Nat) (i kd : Int32) : UInt64 := if cdR K Ln j i (K j) kd = 0 then (if kFl (K j) = true then Re (40 * j + i.toNatClampNeg) else FP.l2d (Wh (40 * j + i.toNatClampNeg))) else 0
def rdF (K : Nat → Int32) (Ln : Nat → Nat) (Wh : Nat → Int64) (Re : Nat → UInt64) (j : Nat) (i : Int32) : UInt32 := if cdR K Ln j i (K j) 7 = 0 then (if kFl (K j) = true then FP.d2f (Re (40 * j + i.toNatClampNeg)) else FP.l2f (Wh (40 * j + i.toNatClampNeg))) else 0
def wrW (K : Nat → Int32) (Ln : Nat → Nat) (Wh : Nat → Int64) (j : Nat) (i kd : Int32) (v : Int64) : Nat → Int64 := if cdR K Ln j i kd (K j) = 0 then (if kFl (K j) = true then Wh else vp_updL Wh (40 * j + i.toNatClampNeg) v) else Wh
def wrR (K : Nat → Int32) (Ln : Nat → Nat) (Re : Nat → UInt64) (j : Nat) (i kd : Int32) (v : Int64) : Nat → UInt64 := if cdR K Ln j i kd (K j) = 0 then (if kFl (K j) = true then vf_upd Re (40 * j + i.toNatClampNeg) (if K j = 7 then FP.f2d (FP.l2f v) else FP.l2d v) else Re) else Re
def wrX (K : Nat → Int32) (Ln : Nat → Nat) (Re : Nat → UInt64) (j : Nat) (i kd : Int32) (x : UInt64) : Nat → UInt64 := if cdR K Ln j i kd (K j) = 0 then vf_upd Re (40 * j + i.toNatClampNeg) x else Re
def kKinds (a b : Int32) : Int32 := if a = 0 then 1 else if b = 0 then 1 else if a = b then (if a = 9 then 5 else 0) else 5
theorem kCell_0 {k len i a b : Int32} (h : kCell k len i a b = 0) : kCol k = 0 ∧ ¬ i < 0 ∧ ¬ len ≤ i ∧ kWid a b = true := by
  unfold kCell at h
  by_cases h0 : kCol k = 0
  · rw [if_pos h0] at h
    by_cases h1 : i < 0
    · rw [if_pos h1] at h; exact absurd h (by decide)
    · rw [if_neg h1] at h
      by_cases h2 : len ≤ i
      · rw [if_pos h2] at h; exact absurd h (by decide)
      · rw [if_neg h2] at h
        by_cases h3 : kWid a b = true
        · exact ⟨h0, h1, h2, h3⟩
        · rw [if_neg h3] at h; exact absurd h (by decide)
  · rw [if_neg h0] at h; exact absurd h h0
theorem kWid_has {a b : Int32} (h : kWid a b = true) : kHas a = true ∧ kHas b = true := by
  unfold kWid at h
  by_cases h1 : kHas a = false
  · rw [if_pos h1] at h; cases h
  · rw [if_neg h1] at h
    by_cases h2 : kHas b = false
    · rw [if_pos h2] at h; cases h
    · exact ⟨by simpa using h1, by simpa using h2⟩
theorem kWid_self {a : Int32} (h : kHas a = true) : kWid a a = true := by
  unfold kWid; rw [if_neg (by rw [h]; decide), if_neg (by rw [h]; decide), if_pos rfl]
/-- a kind below FLOAT is widened to from kinds below FLOAT alone -/
theorem kWid_low {a b : Int32} (h : kWid a b = true) (hb : kFl b = false) : kFl a = false := by
  have h1 := (kHas_iff a).mp (kWid_has h).1
  have h2 := (kHas_iff b).mp (kWid_has h).2
  have n7 := kFl_no hb
  have g1 := (kWid_has h).1
  have g2 := (kWid_has h).2
  unfold kWid at h
  rw [if_neg (by rw [g1]; decide), if_neg (by rw [g2]; decide)] at h
  have e1 : (1 : Int32).toInt = 1 := rfl
  have e3 : (3 : Int32).toInt = 3 := rfl
  have e5 : (5 : Int32).toInt = 5 := rfl
  have e7 : (7 : Int32).toInt = 7 := rfl
  have e8 : (8 : Int32).toInt = 8 := rfl
  simp only [kFl, Bool.or_eq_false_iff, decide_eq_false_iff_not]
  simp only [← Int32.toInt_inj, Int32.lt_iff_toInt_lt, e1, e3, e5, e7, e8] at h n7 ⊢
  by_cases q1 : a.toInt = b.toInt
  · omega
  · rw [if_neg q1] at h
    by_cases q2 : a.toInt = 1
    · omega
    · rw [if_neg q2] at h
      by_cases q3 : b.toInt = 3
      · rw [if_pos q3] at h; cases h
      · rw [if_neg q3] at h
        by_cases q4 : a.toInt = 3
        · omega
        · rw [if_neg q4] at h
          have := of_decide_eq_true h
          omega
/-- FLOAT and DOUBLE widen to such alone -/
theorem kWid_high {a b : Int32} (h : kWid a b = true) (ha : kFl a = true) : kFl b = true := by
  cases hb : kFl b
  · have := kWid_low h hb; rw [ha] at this; cases this
  · rfl
theorem tc_cl_has {k : Int32} {n : Nat} (h : kHas k = true) : tc_cl k n = nI n := by unfold tc_cl; rw [if_pos h]
theorem kCol_has {k : Int32} (hr : kIs k = true) (h : kCol k = 0) : kHas k = true := by
  have h1 := (kIs_iff k).mp hr
  have e0 : (0 : Int32).toInt = 0 := rfl
  have e9 : (9 : Int32).toInt = 9 := rfl
  refine (kHas_iff k).mpr ?_
  unfold kCol at h
  by_cases q : k = 0
  · rw [if_pos q] at h; exact absurd h (by decide)
  · rw [if_neg q] at h
    by_cases q2 : k = 9
    · rw [if_pos q2] at h; exact absurd h (by decide)
    · rw [← Int32.toInt_inj, e0] at q
      rw [← Int32.toInt_inj, e9] at q2
      omega
theorem kHas_col {k : Int32} (h : kHas k = true) : kCol k = 0 := by
  have h1 := (kHas_iff k).mp h
  unfold kCol
  rw [if_neg (fun q => by rw [q] at h1; exact absurd h1 (by decide)), if_neg (fun q => by rw [q] at h1; exact absurd h1 (by decide))]
/-- a granted access: the index is a cell's -/
theorem cdR_0 {K : Nat → Int32} {Ln : Nat → Nat} {j : Nat} {i a b : Int32} (hr : kIs (K j) = true) (hL : Ln j ≤ 40) (h : cdR K Ln j i a b = 0) : kHas (K j) = true ∧ kWid a b = true ∧ vp_in i (Ln j) := by
  obtain ⟨h1, h2, h3, h4⟩ := kCell_0 h
  have h5 := kCol_has hr h1
  rw [tc_cl_has h5] at h3
  exact ⟨h5, h4, vp_in_mk h2 h3 (by omega)⟩
theorem vp_in_lt {i : Int32} {N : Nat} (h : vp_in i N) : i.toNatClampNeg < N := Nat.lt_of_not_le (fun q => h (Or.inr q))
theorem vp_in_le {i : Int32} {N M : Nat} (h : vp_in i N) (hNM : N ≤ M) : vp_in i M := fun q => h (q.imp id (fun q => Nat.le_trans hNM q))
section TCU
variable {cI cJ cD cC : ClassId} {h0 h1 h2 h3 h4 : Nat} {ad wd rd : Nat → Nat} {Y : va_W} {n : Nat} {K : Nat → Int32} {Ln : Nat → Nat} {Wh : Nat → Int64} {Re : Nat → UInt64} {cd : Int32} {ct : Nat → Int32}
theorem tc_T_wh {j q : Nat} (hj : j < n) (hL : ∀ k, k < n → Ln k ≤ 40) (hq : q < tc_wl (K j) (Ln j)) (v : Int64) :
    (tc_T cI cJ cD cC h0 h1 h2 h3 h4 ad wd rd Y n K Ln Wh Re cd ct).set (5 + (Y.length + (3 * j + 1))) (wd j, .inl (cJ, tc_wl (K j) (Ln j), .inr (.inl (vp_updL (tc_sl (tc_wl (K j) (Ln j)) (fun i => Wh (40 * j + i)) 0) q v)))) = tc_T cI cJ cD cC h0 h1 h2 h3 h4 ad wd rd Y n K Ln (vp_updL Wh (40 * j + q) v) Re cd ct := by
  have hwl : ∀ k, tc_wl (K k) (Ln k) ≤ Ln k := fun k => by unfold tc_wl; split <;> omega
  refine tc_T_set hj (by decide) (fun k hk hne => ?_) ?_
  · have e : tc_sl (tc_wl (K k) (Ln k)) (fun i => vp_updL Wh (40 * j + q) v (40 * k + i)) 0 = tc_sl (tc_wl (K k) (Ln k)) (fun i => Wh (40 * k + i)) 0 := by
      refine tc_sl_congr (fun i hi => ?_)
      have := hwl k; have := hL k hk; have := hwl j; have := hL j hj
      unfold vp_updL
      rw [if_neg (by omega)]
    unfold tc_col
    rw [e]
  · have e : tc_sl (tc_wl (K j) (Ln j)) (fun i => vp_updL Wh (40 * j + q) v (40 * j + i)) 0 = vp_updL (tc_sl (tc_wl (K j) (Ln j)) (fun i => Wh (40 * j + i)) 0) q v := by
      funext i
      show (if i < tc_wl (K j) (Ln j) then (if 40 * j + i = 40 * j + q then v else Wh (40 * j + i)) else 0) = (if i = q then v else (if i < tc_wl (K j) (Ln j) then Wh (40 * j + i) else 0))
      by_cases hi : i = q
      · subst hi; rw [if_pos hq, if_pos rfl, if_pos rfl]
      · rw [if_neg hi]
        by_cases h2 : i < tc_wl (K j) (Ln j)
        · rw [if_pos h2, if_neg (by omega), if_pos h2]
        · rw [if_neg h2, if_neg h2]
    unfold tc_col
    rw [e]
    rfl
theorem tc_T_re {j q : Nat} (hj : j < n) (hL : ∀ k, k < n → Ln k ≤ 40) (hq : q < tc_rl (K j) (Ln j)) (v : UInt64) :
    (tc_T cI cJ cD cC h0 h1 h2 h3 h4 ad wd rd Y n K Ln Wh Re cd ct).set (5 + (Y.length + (3 * j + 2))) (rd j, .inl (cD, tc_rl (K j) (Ln j), .inr (.inr (.inr (.inl (vf_upd (tc_sl (tc_rl (K j) (Ln j)) (fun i => Re (40 * j + i)) 0) q v)))))) = tc_T cI cJ cD cC h0 h1 h2 h3 h4 ad wd rd Y n K Ln Wh (vf_upd Re (40 * j + q) v) cd ct := by
  have hwl : ∀ k, tc_rl (K k) (Ln k) ≤ Ln k := fun k => by unfold tc_rl; split <;> omega
  refine tc_T_set hj (by decide) (fun k hk hne => ?_) ?_
  · have e : tc_sl (tc_rl (K k) (Ln k)) (fun i => vf_upd Re (40 * j + q) v (40 * k + i)) 0 = tc_sl (tc_rl (K k) (Ln k)) (fun i => Re (40 * k + i)) 0 := by
      refine tc_sl_congr (fun i hi => ?_)
      have := hwl k; have := hL k hk; have := hwl j; have := hL j hj
      unfold vf_upd
      rw [if_neg (by omega)]
    unfold tc_col
    rw [e]
  · have e : tc_sl (tc_rl (K j) (Ln j)) (fun i => vf_upd Re (40 * j + q) v (40 * j + i)) 0 = vf_upd (tc_sl (tc_rl (K j) (Ln j)) (fun i => Re (40 * j + i)) 0) q v := by
      funext i
      show (if i < tc_rl (K j) (Ln j) then (if 40 * j + i = 40 * j + q then v else Re (40 * j + i)) else 0) = (if i = q then v else (if i < tc_rl (K j) (Ln j) then Re (40 * j + i) else 0))
      by_cases hi : i = q
      · subst hi; rw [if_pos hq, if_pos rfl, if_pos rfl]
      · rw [if_neg hi]
        by_cases h2 : i < tc_rl (K j) (Ln j)
        · rw [if_pos h2, if_neg (by omega), if_pos h2]
        · rw [if_neg h2, if_neg h2]
    unfold tc_col
    rw [e]
    rfl
end TCU
theorem tc_wl_n {k : Int32} {n : Nat} (h : kFl k = false) : tc_wl k n = n := by unfold tc_wl; rw [if_neg (by rw [h]; decide)]
theorem tc_rl_n {k : Int32} {n : Nat} (h : kFl k = true) : tc_rl k n = n := by unfold tc_rl; rw [if_pos h]
theorem tc_len_lt {k : Int32} {n : Nat} (h : n ≤ 40) : tc_wl k n < 2 ^ 31 ∧ tc_rl k n < 2 ^ 31 := by
  unfold tc_wl tc_rl
  constructor <;> (split <;> omega)
end
section
/-! THE CLASS: its own methods, over the world of a state (valid columns) -/
theorem kFl_3 (k : Int32) : kFl k = false ∨ k = 7 ∨ k = 8 := by
  cases h : kFl k
  · exact Or.inl rfl
  · simp only [kFl, Bool.or_eq_true, decide_eq_true_eq] at h
    exact Or.inr h
set_option maxHeartbeats 4000000 in
set_option maxRecDepth 100000 in
theorem tX2_note (l : Launch) (D : va_G) (A : Nat → Prop) (cI cJ cD cC : ClassId) (h0 h1 h2 h3 h4 : Nat) (ad wd rd : Nat → Nat) (Y : va_W) (n : Nat) (K : Nat → Int32) (Ln : Nat → Nat) (Wh : Nat → Int64) (Re : Nat → UInt64) (cd : Int32) (ct : Nat → Int32) (sz : Nat) (k : Int32) (hk : vp_in k 6) : Met l yX2_note wsX2_note ({ frames := 0, cells := 0, slots := 0, locals := 0 }) (tcP D A (tcTY cI cJ cD cC) sz [.ref h0, .int k] (tc_T cI cJ cD cC h0 h1 h2 h3 h4 ad wd rd Y n K Ln Wh Re cd ct)) (va_Qi (fun r (_ : Unit) => r = k) (fun _ t => tcB D A (tc_T cI cJ cD cC h0 h1 h2 h3 h4 ad wd rd Y n K Ln Wh Re k (noteC ct k)) t) A) 0 0 A := by
  refine Met.ofW (cc := cX2_note) (maxL := 2) (ret := (some .int)) (by decide) rfl ?_
  intro p e s m args below meth c s₁ B hml hv
  obtain ⟨rfl, hsz, hP, hK, hD, hE⟩ := hv
  have hx := B.exec
  have hb := B.bytes
  have hr := B.returns
  have hts := atoms_spec (ws := wsX2_note) B.pre
  have hown : s.vm.findClass RX2 = some m.cls := findClass_of_methodNamed B.named
  have hlocks := B.notSynchronized
  have hl := lv_entry ([.ref h0, .int k]) (n := 2) (Nat.le_of_ble_eq_true rfl)
  rw [lg_entry_eq]
  generalize (lg_sl ([.ref h0, .int k]) ++ List.replicate (2 - (lg_sl ([.ref h0, .int k])).length) Slot.unset).toArray = ls at hl ⊢
  have hl : lv_has ls 2 [(0, .ref h0), (1, .int k)] := hl
  subst hsz
  have hS : va_S A s.heap s.heap [] := va_S.rf
  refine lv_iload_n hx hb dX2_note_0 rfl (lv_at hl 1 rfl) ?_
  refine lv_if_lt (tgt := 23) hx hb dX2_note_1 (by decide) (fun q => absurd q (vp_in_lo hk)) (fun _ => ?_)
  refine lv_iload_n hx hb dX2_note_4 rfl (lv_at hl 1 rfl) ?_
  refine lv_aload_n hx hb dX2_note_5 rfl (lv_at hl 0 rfl) ?_
  refine va_get (D := D) (ci := 2) (fs := [.ref h1, .ref h2, .ref h3, .int (nI n), .int cd]) (v := .ref h2) (C := RX2) (T := TX2) (N := 5) hx hb hts (by decide +kernel) hown hK hP 0 rfl rfl 1 (by decide) (hts (.fieldLink RX2 15 "TypedColumns" "counts" "[I") (by decide +kernel)) (fun _ h9 => h9) rfl dX2_note_6 ?_
  refine va_alen (v := 6) hx hb hK hP 2 0 rfl rfl rfl dX2_note_9 ?_
  refine lv_icmp_ge (tgt := 23) hx hb dX2_note_10 (by decide) (fun q => absurd q (vp_in_hi hk (by decide))) (fun _ => ?_)
  refine lv_aload_n hx hb dX2_note_13 rfl (lv_at hl 0 rfl) ?_
  refine va_get (D := D) (ci := 2) (fs := [.ref h1, .ref h2, .ref h3, .int (nI n), .int cd]) (v := .ref h2) (C := RX2) (T := TX2) (N := 5) hx hb hts (by decide +kernel) hown hK hP 0 rfl rfl 1 (by decide) (hts (.fieldLink RX2 15 "TypedColumns" "counts" "[I") (by decide +kernel)) (fun _ h9 => h9) rfl dX2_note_14 ?_
  refine lv_iload_n hx hb dX2_note_17 rfl (lv_at hl 1 rfl) ?_
  refine lv_dup2_11 hx hb dX2_note_18 rfl rfl ?_
  refine tc_iald (f := ct) (v := (ct k.toNatClampNeg)) hx hb hK hP 2 0 rfl rfl (hk) rfl dX2_note_19 ?_
  refine lv_iconst (v := 1) hx hb dX2_note_20 (by decide) ?_
  refine lv_iadd hx hb dX2_note_21 ?_
  refine va_iast (f := ct) hx hb hK hP hD hS 2 0 rfl rfl (hk) dX2_note_22 (fun H locs hP hD hS => ?_)
  have hP : va_P D vwCl (tc_T cI cJ cD cC h0 h1 h2 h3 h4 ad wd rd Y n K Ln Wh Re cd (noteC ct k)) H := hP
  have hD : va_D A (tc_T cI cJ cD cC h0 h1 h2 h3 h4 ad wd rd Y n K Ln Wh Re cd (noteC ct k)) := hD
  refine lv_aload_n hx hb dX2_note_23 rfl (lv_at hl 0 rfl) ?_
  refine lv_iload_n hx hb dX2_note_24 rfl (lv_at hl 1 rfl) ?_
  refine va_put (D := D) (ci := 2) (fs := [.ref h1, .ref h2, .ref h3, .int (nI n), .int cd]) (v := .int k) (ty := .int) (C := RX2) (T := TX2) (N := 5) hx hb hts (by decide +kernel) tyX2 tyX2_ok nmX2 hown hK hP hD hS 0 rfl rfl 4 (by decide) (hts (.fieldLink RX2 30 "TypedColumns" "latestCode" "I") (by decide +kernel)) (fun _ h9 => h9) rfl (by decide +kernel) rfl rfl (Nat.le_of_ble_eq_true rfl) dX2_note_25 (fun H locs hP hD hS => ?_)
  have hP : va_P D vwCl (tc_T cI cJ cD cC h0 h1 h2 h3 h4 ad wd rd Y n K Ln Wh Re k (noteC ct k)) H := hP
  have hD : va_D A (tc_T cI cJ cD cC h0 h1 h2 h3 h4 ad wd rd Y n K Ln Wh Re k (noteC ct k)) := hD
  refine lv_iload_n hx hb dX2_note_28 rfl (lv_at hl 1 rfl) ?_
  exact W.iret (v := k) hx hb hr (fun t9 ht9 hW9 => ⟨⟨k, (), rfl, rfl, by rw [ht9]; exact hP, hD⟩, hS.F ht9⟩) hS.2.2 dX2_note_29
set_option maxHeartbeats 4000000 in
set_option maxRecDepth 100000 in
theorem tX2_columnAt (l : Launch) (D : va_G) (A : Nat → Prop) (cI cJ cD cC : ClassId) (h0 h1 h2 h3 h4 : Nat) (ad wd rd : Nat → Nat) (Y : va_W) (n : Nat) (K : Nat → Int32) (Ln : Nat → Nat) (Wh : Nat → Int64) (Re : Nat → UInt64) (cd : Int32) (ct : Nat → Int32) (sz : Nat) (hn6 : n ≤ 60) (j : Nat) (hj : j < n) : Met l yX2_columnAt wsX2_columnAt ({ frames := 0, cells := 0, slots := 0, locals := 0 }) (tcP D A (tcTY cI cJ cD cC) sz [.ref h0, .int (nI j)] (tc_T cI cJ cD cC h0 h1 h2 h3 h4 ad wd rd Y n K Ln Wh Re cd ct)) (va_Sr (fun _ => True) (fun _ => .ref (ad j))) 0 0 (fun _ => False) := by
  refine Met.ofW (cc := cX2_columnAt) (maxL := 3) (ret := (some (.object "TypedColumns$Column"))) (by decide) rfl ?_
  intro p e s m args below meth c s₁ B hml hv
  obtain ⟨rfl, hsz, hP, hK, hD, hE⟩ := hv
  have hx := B.exec
  have hb := B.bytes
  have hr := B.returns
  have hts := atoms_spec (ws := wsX2_columnAt) B.pre
  have hown : s.vm.findClass RX2 = some m.cls := findClass_of_methodNamed B.named
  have hlocks := B.notSynchronized
  have hl := lv_entry ([.ref h0, .int (nI j)]) (n := 3) (Nat.le_of_ble_eq_true rfl)
  rw [lg_entry_eq]
  generalize (lg_sl ([.ref h0, .int (nI j)]) ++ List.replicate (3 - (lg_sl ([.ref h0, .int (nI j)])).length) Slot.unset).toArray = ls at hl ⊢
  have hl : lv_has ls 3 [(0, .ref h0), (1, .int (nI j))] := hl
  subst hsz
  have hS : va_S A s.heap s.heap [] := va_S.rf
  have hn31 : n < 2 ^ 31 := by omega
  refine lv_iload_n hx hb dX2_columnAt_0 rfl (lv_at hl 1 rfl) ?_
  refine lv_if_lt (tgt := 22) hx hb dX2_columnAt_1 (by decide) (fun q => absurd q (nI_pos (by omega))) (fun _ => ?_)
  refine lv_iload_n hx hb dX2_columnAt_4 rfl (lv_at hl 1 rfl) ?_
  refine lv_aload_n hx hb dX2_columnAt_5 rfl (lv_at hl 0 rfl) ?_
  refine va_get (D := D) (ci := 2) (fs := [.ref h1, .ref h2, .ref h3, .int (nI n), .int cd]) (v := .ref h1) (C := RX2) (T := TX2) (N := 5) hx hb hts (by decide +kernel) hown hK hP 0 rfl rfl 0 (by decide) (hts (.fieldLink RX2 11 "TypedColumns" "columns" "[LTypedColumns$Column;") (by decide +kernel)) (fun _ h9 => h9) rfl dX2_columnAt_6 ?_
  refine va_alen (v := 60) hx hb hK hP 1 3 rfl rfl rfl dX2_columnAt_9 ?_
  refine lv_icmp_ge (tgt := 22) hx hb dX2_columnAt_10 (by decide) (fun q => absurd q (nI_ge (Nat.lt_of_lt_of_le hj hn6) (by decide))) (fun _ => ?_)
  refine lv_aload_n hx hb dX2_columnAt_13 rfl (lv_at hl 0 rfl) ?_
  refine va_get (D := D) (ci := 2) (fs := [.ref h1, .ref h2, .ref h3, .int (nI n), .int cd]) (v := .ref h1) (C := RX2) (T := TX2) (N := 5) hx hb hts (by decide +kernel) hown hK hP 0 rfl rfl 0 (by decide) (hts (.fieldLink RX2 11 "TypedColumns" "columns" "[LTypedColumns$Column;") (by decide +kernel)) (fun _ h9 => h9) rfl dX2_columnAt_14 ?_
  refine lv_iload_n hx hb dX2_columnAt_17 rfl (lv_at hl 1 rfl) ?_
  refine tc_aldS (f := (fun j => if j < n then some (ad j) else none)) (v := ad j) hx hb hK hP 1 3 rfl rfl (vp_in_nI (Nat.lt_of_lt_of_le hj hn6) (by decide)) (by rw [nI_clamp (by omega)]; exact if_pos hj) dX2_columnAt_18 ?_
  refine lv_goto (tgt := 23) hx hb dX2_columnAt_19 (by decide) ?_
  refine lv_astore_n (lv' := [(2, .ref (ad j)), (0, .ref h0), (1, .int (nI j))]) hx hb dX2_columnAt_23 rfl hl (by decide) rfl (fun ls hl => ?_)
  refine lv_aload_n hx hb dX2_columnAt_24 rfl (lv_at hl 0 rfl) ?_
  refine lv_ifnonnull (tgt := 38) hx hb dX2_columnAt_25 (by decide) ?_
  refine lv_aload_n hx hb dX2_columnAt_38 rfl (lv_at hl 0 rfl) ?_
  exact W.aret (v := .ref (ad j)) hx hb hr (Or.inl ⟨_, rfl⟩) (Or.inr ⟨_, rfl⟩) (fun t ht hW => ⟨0, rfl, trivial, ht⟩) (fun q hq => absurd hq List.not_mem_nil) dX2_columnAt_39
set_option maxHeartbeats 4000000 in
set_option maxRecDepth 100000 in
theorem oX2_codeOfColumn (l : Launch) (D : va_G) (A : Nat → Prop) (cI cJ cD cC : ClassId) (ws : va_W) (p0 p1 p2 : Nat) (a w r : Nat) (k len : Int32) (nw nr : Nat) (f : Nat → Int64) (g : Nat → UInt64) (sz : Nat) (e0 : ws[p0]? = some (a, .inr (0, [.int k, .int len, .ref w, .ref r]))) (e1 : ws[p1]? = some (w, .inl (cJ, nw, .inr (.inl f)))) (e2 : ws[p2]? = some (r, .inl (cD, nr, .inr (.inr (.inr (.inl g)))))) (hn : nw < 2 ^ 31 ∧ nr < 2 ^ 31) : Met l yX2_codeOfColumn wsX2_codeOfColumn ({ frames := 0, cells := 0, slots := 0, locals := 0 }) (tcP D A (tcTY cI cJ cD cC) sz [.ref a] ws) (vp_Si (fun r => r = kCol k)) 0 0 (fun _ => False) := by
  refine Met.ofW (cc := cX2_codeOfColumn) (maxL := 1) (ret := (some .int)) (by decide) rfl ?_
  intro p e s m args below meth c s₁ B hml hv
  obtain ⟨rfl, hsz, hP, hK, hD, hE⟩ := hv
  have hx := B.exec
  have hb := B.bytes
  have hr := B.returns
  have hts := atoms_spec (ws := wsX2_codeOfColumn) B.pre
  have hown : s.vm.findClass RX2 = some m.cls := findClass_of_methodNamed B.named
  have hlocks := B.notSynchronized
  have hl := lv_entry ([.ref a]) (n := 1) (Nat.le_of_ble_eq_true rfl)
  rw [lg_entry_eq]
  generalize (lg_sl ([.ref a]) ++ List.replicate (1 - (lg_sl ([.ref a])).length) Slot.unset).toArray = ls at hl ⊢
  have hl : lv_has ls 1 [(0, .ref a)] := hl
  subst hsz
  have hS : va_S A s.heap s.heap [] := va_S.rf
  refine lv_aload_n hx hb dX2_codeOfColumn_0 rfl (lv_at hl 0 rfl) ?_
  refine va_get (D := D) (ci := 0) (fs := [.int k, .int len, .ref w, .ref r]) (v := .int k) (C := RX0) (T := TX0) (N := 4) hx hb hts (by decide +kernel) hown hK hP p0 e0 rfl 0 (by decide) (hts (.fieldLink RX2 66 "TypedColumns$Column" "kind" "I") (by decide +kernel)) (fun _ h9 => h9) rfl dX2_codeOfColumn_1 ?_
  refine lv_if_ne (tgt := 9) hx hb dX2_codeOfColumn_4 (by decide) (fun c_1 => ?_) (fun c_1 => ?_)
  · refine lv_aload_n hx hb dX2_codeOfColumn_9 rfl (lv_at hl 0 rfl) ?_
    refine va_get (D := D) (ci := 0) (fs := [.int k, .int len, .ref w, .ref r]) (v := .int k) (C := RX0) (T := TX0) (N := 4) hx hb hts (by decide +kernel) hown hK hP p0 e0 rfl 0 (by decide) (hts (.fieldLink RX2 66 "TypedColumns$Column" "kind" "I") (by decide +kernel)) (fun _ h9 => h9) rfl dX2_codeOfColumn_10 ?_
    refine lv_bipush (v := 9) hx hb dX2_codeOfColumn_13 (by decide) ?_
    refine lv_icmp_ne (tgt := 22) hx hb dX2_codeOfColumn_15 (by decide) (fun c_2 => ?_) (fun c_2 => ?_)
    · refine lv_iconst (v := 0) hx hb dX2_codeOfColumn_22 (by decide) ?_
      exact W.iret (v := 0) hx hb hr (fun t9 ht9 hW9 => ⟨0, rfl, by simp [kCol, c_1, c_2], ht9⟩) (fun q hq => absurd hq List.not_mem_nil) dX2_codeOfColumn_23
    · refine lv_iconst (v := 2) hx hb dX2_codeOfColumn_18 (by decide) ?_
      refine lv_goto (tgt := 23) hx hb dX2_codeOfColumn_19 (by decide) ?_
      exact W.iret (v := 2) hx hb hr (fun t9 ht9 hW9 => ⟨2, rfl, by simp [kCol, c_1, c_2], ht9⟩) (fun q hq => absurd hq List.not_mem_nil) dX2_codeOfColumn_23
  · refine lv_iconst (v := 1) hx hb dX2_codeOfColumn_7 (by decide) ?_
    exact W.iret (v := 1) hx hb hr (fun t9 ht9 hW9 => ⟨1, rfl, by simp [kCol, c_1], ht9⟩) (fun q hq => absurd hq List.not_mem_nil) dX2_codeOfColumn_8
set_option maxHeartbeats 4000000 in
set_option maxRecDepth 100000 in
theorem oX2_codeOfCell (l : Launch) (D : va_G) (A : Nat → Prop) (cI cJ cD cC : ClassId) (ws : va_W) (p0 p1 p2 : Nat) (a w r : Nat) (k len : Int32) (nw nr : Nat) (f : Nat → Int64) (g : Nat → UInt64) (sz : Nat) (e0 : ws[p0]? = some (a, .inr (0, [.int k, .int len, .ref w, .ref r]))) (e1 : ws[p1]? = some (w, .inl (cJ, nw, .inr (.inl f)))) (e2 : ws[p2]? = some (r, .inl (cD, nr, .inr (.inr (.inr (.inl g)))))) (hn : nw < 2 ^ 31 ∧ nr < 2 ^ 31) (i x y : Int32) : Met l yX2_codeOfCell wsX2_codeOfCell ({ frames := 2, cells := 0, slots := 0, locals := 41 }) (tcP D A (tcTY cI cJ cD cC) sz [.ref a, .int i, .int x, .int y] ws) (vp_Si (fun r => r = kCell k len i x y)) 0 0 (fun _ => False) := by
  refine Met.ofW (cc := cX2_codeOfCell) (maxL := 5) (ret := (some .int)) (by decide) rfl ?_
  intro p e s m args below meth c s₁ B hml hv
  obtain ⟨rfl, hsz, hP, hK, hD, hE⟩ := hv
  have hx := B.exec
  have hb := B.bytes
  have hr := B.returns
  have hts := atoms_spec (ws := wsX2_codeOfCell) B.pre
  have hown : s.vm.findClass RX2 = some m.cls := findClass_of_methodNamed B.named
  have hlocks := B.notSynchronized
  have hl := lv_entry ([.ref a, .int i, .int x, .int y]) (n := 5) (Nat.le_of_ble_eq_true rfl)
  rw [lg_entry_eq]
  generalize (lg_sl ([.ref a, .int i, .int x, .int y]) ++ List.replicate (5 - (lg_sl ([.ref a, .int i, .int x, .int y])).length) Slot.unset).toArray = ls at hl ⊢
  have hl : lv_has ls 5 [(0, .ref a), (1, .int i), (2, .int x), (3, .int y)] := hl
  subst hsz
  have hS : va_S A s.heap s.heap [] := va_S.rf
  refine lv_aload_n hx hb dX2_codeOfCell_0 rfl (lv_at hl 0 rfl) ?_
  refine vp_callSi (tc_CR (va_runS (As := [.ref a]) (rest := []) ⟨hx, hb, hml, hown, hts⟩ (oX2_codeOfColumn l D A cI cJ cD cC ws p0 p1 p2 a w r k len nw nr f g s.heap.size e0 e1 e2 hn) (va_cwS 1 hts gX2_codeOfCell_X2_codeOfColumn rfl rfl rfl (by decide +kernel) ⟨Nat.le_of_ble_eq_true rfl, Nat.le_of_ble_eq_true rfl⟩) ⟨tcP.blind, (tcP.go hK hP hD hE hS)⟩ rfl rfl hl.1 rfl (lv_room (Nat.le_of_ble_eq_true rfl)) dX2_codeOfCell_1 ⟨Nat.le_of_ble_eq_true rfl, Nat.le_of_ble_eq_true rfl⟩)) (fun r_1 hr_1 => ?_)
  subst hr_1
  refine lv_istore (lv' := [(4, .int (kCol k)), (0, .ref a), (1, .int i), (2, .int x), (3, .int y)]) hx hb dX2_codeOfCell_4 hl (by decide) rfl (fun ls hl => ?_)
  refine lv_iload hx hb dX2_codeOfCell_6 (lv_at hl 0 rfl) ?_
  refine lv_if_eq (tgt := 14) hx hb dX2_codeOfCell_8 (by decide) (fun c_2 => ?_) (fun c_2 => ?_)
  · refine lv_iload_n hx hb dX2_codeOfCell_14 rfl (lv_at hl 2 rfl) ?_
    refine lv_if_lt (tgt := 26) hx hb dX2_codeOfCell_15 (by decide) (fun c_3 => ?_) (fun c_3 => ?_)
    · refine lv_iconst (v := 3) hx hb dX2_codeOfCell_26 (by decide) ?_
      exact W.iret (v := 3) hx hb hr (fun t9 ht9 hW9 => ⟨3, rfl, by simp [kCell, c_2, c_3], ht9⟩) (fun q hq => absurd hq List.not_mem_nil) dX2_codeOfCell_27
    · refine lv_iload_n hx hb dX2_codeOfCell_18 rfl (lv_at hl 2 rfl) ?_
      refine lv_aload_n hx hb dX2_codeOfCell_19 rfl (lv_at hl 1 rfl) ?_
      refine va_get (D := D) (ci := 0) (fs := [.int k, .int len, .ref w, .ref r]) (v := .int len) (C := RX0) (T := TX0) (N := 4) hx hb hts (by decide +kernel) hown hK hP p0 e0 rfl 1 (by decide) (hts (.fieldLink RX2 76 "TypedColumns$Column" "length" "I") (by decide +kernel)) (fun _ h9 => h9) rfl dX2_codeOfCell_20 ?_
      refine lv_icmp_lt (tgt := 28) hx hb dX2_codeOfCell_23 (by decide) (fun c_4 => ?_) (fun c_4 => ?_)
      · refine lv_iload_n hx hb dX2_codeOfCell_28 rfl (lv_at hl 3 rfl) ?_
        refine lv_iload_n hx hb dX2_codeOfCell_29 rfl (lv_at hl 4 rfl) ?_
        refine vp_callSi (W.runS (As := [.int x, .int y]) (rest := []) ⟨hx, hb, hml, hown, hts⟩ (kX2_widens l x y) (va_cwS 2 hts gX2_codeOfCell_X2_widens rfl rfl rfl (by decide +kernel) ⟨Nat.le_of_ble_eq_true rfl, Nat.le_of_ble_eq_true rfl⟩) ⟨fun a U g mk q => q, fun U hU hW => ⟨rfl, trivial⟩⟩ rfl rfl hl.1 rfl (lv_room (Nat.le_of_ble_eq_true rfl)) dX2_codeOfCell_30 ⟨Nat.zero_le _, Nat.zero_le _⟩) (fun r_5 hr_5 => ?_)
        subst hr_5
        refine lv_if_eq (tgt := 40) hx hb dX2_codeOfCell_33 (by decide) (fun c_6 => ?_) (fun c_6 => ?_)
        · refine lv_iconst (v := 4) hx hb dX2_codeOfCell_40 (by decide) ?_
          exact W.iret (v := 4) hx hb hr (fun t9 ht9 hW9 => ⟨4, rfl, by
      simp only [tb_0, Bool.not_eq_false] at c_6
      simp [kCell, c_2, c_3, c_4, c_6], ht9⟩) (fun q hq => absurd hq List.not_mem_nil) dX2_codeOfCell_41
        · refine lv_iconst (v := 0) hx hb dX2_codeOfCell_36 (by decide) ?_
          refine lv_goto (tgt := 41) hx hb dX2_codeOfCell_37 (by decide) ?_
          exact W.iret (v := 0) hx hb hr (fun t9 ht9 hW9 => ⟨0, rfl, by
      simp only [tb_0, Bool.not_eq_false] at c_6
      simp [kCell, c_2, c_3, c_4, c_6], ht9⟩) (fun q hq => absurd hq List.not_mem_nil) dX2_codeOfCell_41
      · refine lv_iconst (v := 3) hx hb dX2_codeOfCell_26 (by decide) ?_
        exact W.iret (v := 3) hx hb hr (fun t9 ht9 hW9 => ⟨3, rfl, by simp [kCell, c_2, c_3, c_4], ht9⟩) (fun q hq => absurd hq List.not_mem_nil) dX2_codeOfCell_27
  · refine lv_iload hx hb dX2_codeOfCell_11 (lv_at hl 0 rfl) ?_
    exact W.iret (v := (kCol k)) hx hb hr (fun t9 ht9 hW9 => ⟨(kCol k), rfl, by simp [kCell, c_2], ht9⟩) (fun q hq => absurd hq List.not_mem_nil) dX2_codeOfCell_13
set_option maxHeartbeats 4000000 in
set_option maxRecDepth 100000 in
theorem oX2_codeOfKinds (l : Launch) (D : va_G) (A : Nat → Prop) (cI cJ cD cC : ClassId) (ws : va_W) (p0 p1 p2 : Nat) (a w r : Nat) (k len : Int32) (nw nr : Nat) (f : Nat → Int64) (g : Nat → UInt64) (sz : Nat) (e0 : ws[p0]? = some (a, .inr (0, [.int k, .int len, .ref w, .ref r]))) (e1 : ws[p1]? = some (w, .inl (cJ, nw, .inr (.inl f)))) (e2 : ws[p2]? = some (r, .inl (cD, nr, .inr (.inr (.inr (.inl g)))))) (hn : nw < 2 ^ 31 ∧ nr < 2 ^ 31) (u0 u1 u2 : Nat) (sa sw sr : Nat) (sk slen : Int32) (snw snr : Nat) (sf : Nat → Int64) (sg : Nat → UInt64) (d0 : ws[u0]? = some (sa, .inr (0, [.int sk, .int slen, .ref sw, .ref sr]))) (d1 : ws[u1]? = some (sw, .inl (cJ, snw, .inr (.inl sf)))) (d2 : ws[u2]? = some (sr, .inl (cD, snr, .inr (.inr (.inr (.inl sg)))))) (hm : snw < 2 ^ 31 ∧ snr < 2 ^ 31) : Met l yX2_codeOfKinds wsX2_codeOfKinds ({ frames := 0, cells := 0, slots := 0, locals := 0 }) (tcP D A (tcTY cI cJ cD cC) sz [.ref a, .ref sa] ws) (vp_Si (fun r => r = kKinds k sk)) 0 0 (fun _ => False) := by
  refine Met.ofW (cc := cX2_codeOfKinds) (maxL := 3) (ret := (some .int)) (by decide) rfl ?_
  intro p e s m args below meth c s₁ B hml hv
  obtain ⟨rfl, hsz, hP, hK, hD, hE⟩ := hv
  have hx := B.exec
  have hb := B.bytes
  have hr := B.returns
  have hts := atoms_spec (ws := wsX2_codeOfKinds) B.pre
  have hown : s.vm.findClass RX2 = some m.cls := findClass_of_methodNamed B.named
  have hlocks := B.notSynchronized
  have hl := lv_entry ([.ref a, .ref sa]) (n := 3) (Nat.le_of_ble_eq_true rfl)
  rw [lg_entry_eq]
  generalize (lg_sl ([.ref a, .ref sa]) ++ List.replicate (3 - (lg_sl ([.ref a, .ref sa])).length) Slot.unset).toArray = ls at hl ⊢
  have hl : lv_has ls 3 [(0, .ref a), (1, .ref sa)] := hl
  subst hsz
  have hS : va_S A s.heap s.heap [] := va_S.rf
  refine lv_aload_n hx hb dX2_codeOfKinds_0 rfl (lv_at hl 0 rfl) ?_
  refine va_get (D := D) (ci := 0) (fs := [.int k, .int len, .ref w, .ref r]) (v := .int k) (C := RX0) (T := TX0) (N := 4) hx hb hts (by decide +kernel) hown hK hP p0 e0 rfl 0 (by decide) (hts (.fieldLink RX2 66 "TypedColumns$Column" "kind" "I") (by decide +kernel)) (fun _ h9 => h9) rfl dX2_codeOfKinds_1 ?_
  refine lv_if_eq (tgt := 14) hx hb dX2_codeOfKinds_4 (by decide) (fun c_1 => ?_) (fun c_1 => ?_)
  · refine lv_iconst (v := 1) hx hb dX2_codeOfKinds_14 (by decide) ?_
    exact W.iret (v := 1) hx hb hr (fun t9 ht9 hW9 => ⟨1, rfl, by unfold kKinds; rw [if_pos c_1], ht9⟩) (fun q hq => absurd hq List.not_mem_nil) dX2_codeOfKinds_15
  · refine lv_aload_n hx hb dX2_codeOfKinds_7 rfl (lv_at hl 1 rfl) ?_
    refine va_get (D := D) (ci := 0) (fs := [.int sk, .int slen, .ref sw, .ref sr]) (v := .int sk) (C := RX0) (T := TX0) (N := 4) hx hb hts (by decide +kernel) hown hK hP u0 d0 rfl 0 (by decide) (hts (.fieldLink RX2 66 "TypedColumns$Column" "kind" "I") (by decide +kernel)) (fun _ h9 => h9) rfl dX2_codeOfKinds_8 ?_
    refine lv_if_ne (tgt := 16) hx hb dX2_codeOfKinds_11 (by decide) (fun c_2 => ?_) (fun c_2 => ?_)
    · refine lv_aload_n hx hb dX2_codeOfKinds_16 rfl (lv_at hl 0 rfl) ?_
      refine va_get (D := D) (ci := 0) (fs := [.int k, .int len, .ref w, .ref r]) (v := .int k) (C := RX0) (T := TX0) (N := 4) hx hb hts (by decide +kernel) hown hK hP p0 e0 rfl 0 (by decide) (hts (.fieldLink RX2 66 "TypedColumns$Column" "kind" "I") (by decide +kernel)) (fun _ h9 => h9) rfl dX2_codeOfKinds_17 ?_
      refine lv_aload_n hx hb dX2_codeOfKinds_20 rfl (lv_at hl 1 rfl) ?_
      refine va_get (D := D) (ci := 0) (fs := [.int sk, .int slen, .ref sw, .ref sr]) (v := .int sk) (C := RX0) (T := TX0) (N := 4) hx hb hts (by decide +kernel) hown hK hP u0 d0 rfl 0 (by decide) (hts (.fieldLink RX2 66 "TypedColumns$Column" "kind" "I") (by decide +kernel)) (fun _ h9 => h9) rfl dX2_codeOfKinds_21 ?_
      refine lv_icmp_ne (tgt := 40) hx hb dX2_codeOfKinds_24 (by decide) (fun c_3 => ?_) (fun c_3 => ?_)
      · refine lv_iconst (v := 0) hx hb dX2_codeOfKinds_40 (by decide) ?_
        refine lv_istore_n (lv' := [(2, .int 0), (0, .ref a), (1, .ref sa)]) hx hb dX2_codeOfKinds_41 rfl hl (by decide) rfl (fun ls hl => ?_)
        refine lv_iload_n hx hb dX2_codeOfKinds_42 rfl (lv_at hl 0 rfl) ?_
        refine lv_if_eq (tgt := 50) hx hb dX2_codeOfKinds_43 (by decide) (fun _ => ?_) (fun q => absurd (by decide) q)
        refine lv_iconst (v := 5) hx hb dX2_codeOfKinds_50 (by decide) ?_
        exact W.iret (v := 5) hx hb hr (fun t9 ht9 hW9 => ⟨5, rfl, by unfold kKinds; rw [if_neg c_1, if_neg c_2, if_neg c_3], ht9⟩) (fun q hq => absurd hq List.not_mem_nil) dX2_codeOfKinds_51
      · refine lv_aload_n hx hb dX2_codeOfKinds_27 rfl (lv_at hl 0 rfl) ?_
        refine va_get (D := D) (ci := 0) (fs := [.int k, .int len, .ref w, .ref r]) (v := .int k) (C := RX0) (T := TX0) (N := 4) hx hb hts (by decide +kernel) hown hK hP p0 e0 rfl 0 (by decide) (hts (.fieldLink RX2 66 "TypedColumns$Column" "kind" "I") (by decide +kernel)) (fun _ h9 => h9) rfl dX2_codeOfKinds_28 ?_
        refine lv_bipush (v := 9) hx hb dX2_codeOfKinds_31 (by decide) ?_
        refine lv_icmp_eq (tgt := 40) hx hb dX2_codeOfKinds_33 (by decide) (fun c_5 => ?_) (fun c_5 => ?_)
        · refine lv_iconst (v := 0) hx hb dX2_codeOfKinds_40 (by decide) ?_
          refine lv_istore_n (lv' := [(2, .int 0), (0, .ref a), (1, .ref sa)]) hx hb dX2_codeOfKinds_41 rfl hl (by decide) rfl (fun ls hl => ?_)
          refine lv_iload_n hx hb dX2_codeOfKinds_42 rfl (lv_at hl 0 rfl) ?_
          refine lv_if_eq (tgt := 50) hx hb dX2_codeOfKinds_43 (by decide) (fun _ => ?_) (fun q => absurd (by decide) q)
          refine lv_iconst (v := 5) hx hb dX2_codeOfKinds_50 (by decide) ?_
          exact W.iret (v := 5) hx hb hr (fun t9 ht9 hW9 => ⟨5, rfl, by unfold kKinds; rw [if_neg c_1, if_neg c_2, if_pos c_3, if_pos c_5], ht9⟩) (fun q hq => absurd hq List.not_mem_nil) dX2_codeOfKinds_51
        · refine lv_iconst (v := 1) hx hb dX2_codeOfKinds_36 (by decide) ?_
          refine lv_goto (tgt := 41) hx hb dX2_codeOfKinds_37 (by decide) ?_
          refine lv_istore_n (lv' := [(2, .int 1), (0, .ref a), (1, .ref sa)]) hx hb dX2_codeOfKinds_41 rfl hl (by decide) rfl (fun ls hl => ?_)
          refine lv_iload_n hx hb dX2_codeOfKinds_42 rfl (lv_at hl 0 rfl) ?_
          refine lv_if_eq (tgt := 50) hx hb dX2_codeOfKinds_43 (by decide) (fun q => absurd q (by decide)) (fun _ => ?_)
          refine lv_iconst (v := 0) hx hb dX2_codeOfKinds_46 (by decide) ?_
          refine lv_goto (tgt := 51) hx hb dX2_codeOfKinds_47 (by decide) ?_
          exact W.iret (v := 0) hx hb hr (fun t9 ht9 hW9 => ⟨0, rfl, by unfold kKinds; rw [if_neg c_1, if_neg c_2, if_pos c_3, if_neg c_5], ht9⟩) (fun q hq => absurd hq List.not_mem_nil) dX2_codeOfKinds_51
    · refine lv_iconst (v := 1) hx hb dX2_codeOfKinds_14 (by decide) ?_
      exact W.iret (v := 1) hx hb hr (fun t9 ht9 hW9 => ⟨1, rfl, by unfold kKinds; rw [if_neg c_1, if_pos c_2], ht9⟩) (fun q hq => absurd hq List.not_mem_nil) dX2_codeOfKinds_15
set_option maxHeartbeats 4000000 in
set_option maxRecDepth 100000 in
theorem tX2_readReal (l : Launch) (D : va_G) (A : Nat → Prop) (cI cJ cD cC : ClassId) (h0 h1 h2 h3 h4 : Nat) (ad wd rd : Nat → Nat) (Y : va_W) (n : Nat) (K : Nat → Int32) (Ln : Nat → Nat) (Wh : Nat → Int64) (Re : Nat → UInt64) (cd : Int32) (ct : Nat → Int32) (sz : Nat) (hI : tcI n K Ln Wh Re) (j : Nat) (hj : j < n) (i kd : Int32) : Met l yX2_readReal wsX2_readReal ({ frames := 3, cells := 0, slots := 0, locals := 65 }) (tcP D A (tcTY cI cJ cD cC) sz [.ref h0, .ref (ad j), .int i, .int kd] (tc_T cI cJ cD cC h0 h1 h2 h3 h4 ad wd rd Y n K Ln Wh Re cd ct)) (va_Qd (fun r (_ : Unit) => r = rdR K Ln Wh Re j i kd) (fun _ t => tcB D A (tc_T cI cJ cD cC h0 h1 h2 h3 h4 ad wd rd Y n K Ln Wh Re (cdR K Ln j i (K j) kd) (noteC ct (cdR K Ln j i (K j) kd))) t) A) 0 0 A := by
  refine Met.ofW (cc := cX2_readReal) (maxL := 5) (ret := (some .double)) (by decide) rfl ?_
  intro p e s m args below meth c s₁ B hml hv
  obtain ⟨rfl, hsz, hP, hK, hD, hE⟩ := hv
  have hx := B.exec
  have hb := B.bytes
  have hr := B.returns
  have hts := atoms_spec (ws := wsX2_readReal) B.pre
  have hown : s.vm.findClass RX2 = some m.cls := findClass_of_methodNamed B.named
  have hlocks := B.notSynchronized
  have hl := lv_entry ([.ref h0, .ref (ad j), .int i, .int kd]) (n := 5) (Nat.le_of_ble_eq_true rfl)
  rw [lg_entry_eq]
  generalize (lg_sl ([.ref h0, .ref (ad j), .int i, .int kd]) ++ List.replicate (5 - (lg_sl ([.ref h0, .ref (ad j), .int i, .int kd])).length) Slot.unset).toArray = ls at hl ⊢
  have hl : lv_has ls 5 [(0, .ref h0), (1, .ref (ad j)), (2, .int i), (3, .int kd)] := hl
  subst hsz
  have hS : va_S A s.heap s.heap [] := va_S.rf
  refine lv_aload_n hx hb dX2_readReal_0 rfl (lv_at hl 0 rfl) ?_
  refine lv_aload_n hx hb dX2_readReal_1 rfl (lv_at hl 1 rfl) ?_
  refine lv_iload_n hx hb dX2_readReal_2 rfl (lv_at hl 2 rfl) ?_
  refine lv_aload_n hx hb dX2_readReal_3 rfl (lv_at hl 1 rfl) ?_
  refine va_get (D := D) (ci := 0) (fs := [.int (K j), .int (tc_cl (K j) (Ln j)), .ref (wd j), .ref (rd j)]) (v := .int (K j)) (C := RX0) (T := TX0) (N := 4) hx hb hts (by decide +kernel) hown hK hP (5 + (Y.length + (3 * j + 0))) (tc_T0 hj) rfl 0 (by decide) (hts (.fieldLink RX2 66 "TypedColumns$Column" "kind" "I") (by decide +kernel)) (fun _ h9 => h9) rfl dX2_readReal_4 ?_
  refine lv_iload_n hx hb dX2_readReal_7 rfl (lv_at hl 3 rfl) ?_
  refine vp_callSi (tc_CR (va_runS (As := [.ref (ad j), .int i, .int (K j), .int kd]) (rest := [.ref h0]) ⟨hx, hb, hml, hown, hts⟩ (oX2_codeOfCell l D A cI cJ cD cC (tc_T cI cJ cD cC h0 h1 h2 h3 h4 ad wd rd Y n K Ln Wh Re cd ct) (5 + (Y.length + (3 * j + 0))) (5 + (Y.length + (3 * j + 1))) (5 + (Y.length + (3 * j + 2))) (ad j) (wd j) (rd j) (K j) (tc_cl (K j) (Ln j)) (tc_wl (K j) (Ln j)) (tc_rl (K j) (Ln j)) (tc_sl (tc_wl (K j) (Ln j)) (fun i => Wh (40 * j + i)) 0) (tc_sl (tc_rl (K j) (Ln j)) (fun i => Re (40 * j + i)) 0) s.heap.size (tc_T0 hj) (tc_T1 hj) (tc_T2 hj) (tc_len_lt (hI.2.1 j hj).2.1) i (K j) kd) (va_cwS 4 hts gX2_readReal_X2_codeOfCell rfl rfl rfl (by decide +kernel) ⟨Nat.le_of_ble_eq_true rfl, Nat.le_of_ble_eq_true rfl⟩) ⟨tcP.blind, (tcP.go hK hP hD hE hS)⟩ rfl rfl hl.1 rfl (lv_room (Nat.le_of_ble_eq_true rfl)) dX2_readReal_8 ⟨Nat.le_of_ble_eq_true rfl, Nat.le_of_ble_eq_true rfl⟩)) (fun r_1 hr_1 => ?_)
  subst hr_1
  refine va_calli (va_runV (As := [.int (cdR K Ln j i (K j) kd)]) (rest := []) ⟨hx, hb, hml, hown, hts⟩ (tX2_note l D A cI cJ cD cC h0 h1 h2 h3 h4 ad wd rd Y n K Ln Wh Re cd ct s.heap.size (cdR K Ln j i (K j) kd) (kCell_in _ _ _ _ _)) (cwV 1 hts gX2_readReal_X2_note rfl rfl rfl (by decide +kernel) ⟨Nat.le_of_ble_eq_true rfl, Nat.le_of_ble_eq_true rfl⟩) ⟨tcP.blind, (va_recv hK hP (ci := 2) (q0 := 0) rfl rfl), (tcP.go hK hP hD hE hS)⟩ rfl rfl hl.1 rfl (lv_room (Nat.le_of_ble_eq_true rfl)) dX2_readReal_11 ⟨Nat.le_of_ble_eq_true rfl, Nat.le_of_ble_eq_true rfl⟩) hS (fun q _ h => h) (fun q h => h) (fun r_2 u t H locs ht hvm hw hB hz1 hk1 hS => ?_)
  subst hw
  obtain ⟨hP, hD⟩ := hB
  rw [ht] at hP
  refine lv_istore (lv' := [(4, .int (cdR K Ln j i (K j) kd)), (0, .ref h0), (1, .ref (ad j)), (2, .int i), (3, .int kd)]) hx hb dX2_readReal_14 hl (by decide) rfl (fun ls hl => ?_)
  refine lv_iload hx hb dX2_readReal_16 (lv_at hl 0 rfl) ?_
  refine lv_if_ne (tgt := 29) hx hb dX2_readReal_18 (by decide) (fun c_3 => ?_) (fun c_3 => ?_)
  · refine lv_dconst0 hx hb dX2_readReal_29 ?_
    exact W.dret (v := FP.dconst0) hx hb hr (fun t9 ht9 hW9 => ⟨⟨FP.dconst0, (), rfl, by unfold rdR; rw [if_neg c_3]; rfl, by rw [ht9]; exact hP, hD⟩, hS.F ht9⟩) hS.2.2 dX2_readReal_30
  · refine lv_aload_n hx hb dX2_readReal_21 rfl (lv_at hl 2 rfl) ?_
    refine lv_iload_n hx hb dX2_readReal_22 rfl (lv_at hl 3 rfl) ?_
    have g0 := cdR_0 (hI.2.1 j hj).1 (hI.2.1 j hj).2.1 c_3
    cases gf : kFl (K j)
    · have gi : vp_in i (tc_wl (K j) (Ln j)) := by rw [tc_wl_n gf]; exact g0.2.2
      refine vp_callSd (tc_CR (va_runV (As := [.int i]) (rest := []) ⟨hx, hb, hml, hown, hts⟩ (oX0_doubleAt_w l D A cI cJ cD cC (tc_T cI cJ cD cC h0 h1 h2 h3 h4 ad wd rd Y n K Ln Wh Re (cdR K Ln j i (K j) kd) (noteC ct (cdR K Ln j i (K j) kd))) (5 + (Y.length + (3 * j + 0))) (5 + (Y.length + (3 * j + 1))) (5 + (Y.length + (3 * j + 2))) (ad j) (wd j) (rd j) (K j) (tc_cl (K j) (Ln j)) (tc_wl (K j) (Ln j)) (tc_rl (K j) (Ln j)) (tc_sl (tc_wl (K j) (Ln j)) (fun i => Wh (40 * j + i)) 0) (tc_sl (tc_rl (K j) (Ln j)) (fun i => Re (40 * j + i)) 0) H.size (tc_T0 hj) (tc_T1 hj) (tc_T2 hj) (tc_len_lt (hI.2.1 j hj).2.1) i gi gf) (cwV 1 hts gX2_readReal_X0_doubleAt rfl rfl rfl (by decide +kernel) ⟨Nat.le_of_ble_eq_true rfl, Nat.le_of_ble_eq_true rfl⟩) ⟨tcP.blind, (va_recv hK hP (ci := 0) (q0 := (5 + (Y.length + (3 * j + 0)))) rfl (tc_T0 hj)), (tcP.go hK hP hD hE hS)⟩ rfl rfl hl.1 rfl (lv_room (Nat.le_of_ble_eq_true rfl)) dX2_readReal_23 ⟨Nat.le_of_ble_eq_true rfl, Nat.le_of_ble_eq_true rfl⟩)) (fun r_4 hr_4 => ?_)
      subst hr_4
      rw [tc_sl_in (vp_in_lt gi)]
      refine lv_goto (tgt := 30) hx hb dX2_readReal_26 (by decide) ?_
      exact W.dret (v := (FP.l2d (Wh (40 * j + i.toNatClampNeg)))) hx hb hr (fun t9 ht9 hW9 => ⟨⟨(FP.l2d (Wh (40 * j + i.toNatClampNeg))), (), rfl, by unfold rdR; rw [if_pos c_3, if_neg (by rw [gf]; decide)], by rw [ht9]; exact hP, hD⟩, hS.F ht9⟩) hS.2.2 dX2_readReal_30
    · have gi : vp_in i (tc_rl (K j) (Ln j)) := by rw [tc_rl_n gf]; exact g0.2.2
      refine vp_callSd (tc_CR (va_runV (As := [.int i]) (rest := []) ⟨hx, hb, hml, hown, hts⟩ (oX0_doubleAt_r l D A cI cJ cD cC (tc_T cI cJ cD cC h0 h1 h2 h3 h4 ad wd rd Y n K Ln Wh Re (cdR K Ln j i (K j) kd) (noteC ct (cdR K Ln j i (K j) kd))) (5 + (Y.length + (3 * j + 0))) (5 + (Y.length + (3 * j + 1))) (5 + (Y.length + (3 * j + 2))) (ad j) (wd j) (rd j) (K j) (tc_cl (K j) (Ln j)) (tc_wl (K j) (Ln j)) (tc_rl (K j) (Ln j)) (tc_sl (tc_wl (K j) (Ln j)) (fun i => Wh (40 * j + i)) 0) (tc_sl (tc_rl (K j) (Ln j)) (fun i => Re (40 * j + i)) 0) H.size (tc_T0 hj) (tc_T1 hj) (tc_T2 hj) (tc_len_lt (hI.2.1 j hj).2.1) i gi gf) (cwV 1 hts gX2_readReal_X0_doubleAt rfl rfl rfl (by decide +kernel) ⟨Nat.le_of_ble_eq_true rfl, Nat.le_of_ble_eq_true rfl⟩) ⟨tcP.blind, (va_recv hK hP (ci := 0) (q0 := (5 + (Y.length + (3 * j + 0)))) rfl (tc_T0 hj)), (tcP.go hK hP hD hE hS)⟩ rfl rfl hl.1 rfl (lv_room (Nat.le_of_ble_eq_true rfl)) dX2_readReal_23 ⟨Nat.le_of_ble_eq_true rfl, Nat.le_of_ble_eq_true rfl⟩)) (fun r_5 hr_5 => ?_)
      subst hr_5
      rw [tc_sl_in (vp_in_lt gi)]
      refine lv_goto (tgt := 30) hx hb dX2_readReal_26 (by decide) ?_
      exact W.dret (v := (Re (40 * j + i.toNatClampNeg))) hx hb hr (fun t9 ht9 hW9 => ⟨⟨(Re (40 * j + i.toNatClampNeg)), (), rfl, by unfold rdR; rw [if_pos c_3, if_pos gf], by rw [ht9]; exact hP, hD⟩, hS.F ht9⟩) hS.2.2 dX2_readReal_30
set_option maxHeartbeats 4000000 in
set_option maxRecDepth 100000 in
theorem tX2_writeWhole (l : Launch) (D : va_G) (A : Nat → Prop) (cI cJ cD cC : ClassId) (h0 h1 h2 h3 h4 : Nat) (ad wd rd : Nat → Nat) (Y : va_W) (n : Nat) (K : Nat → Int32) (Ln : Nat → Nat) (Wh : Nat → Int64) (Re : Nat → UInt64) (cd : Int32) (ct : Nat → Int32) (sz : Nat) (hI : tcI n K Ln Wh Re) (j : Nat) (hj : j < n) (i kd : Int32) (v : Int64) : Met l yX2_writeWhole wsX2_writeWhole ({ frames := 3, cells := 0, slots := 0, locals := 65 }) (tcP D A (tcTY cI cJ cD cC) sz [.ref h0, .ref (ad j), .int i, .int kd, .long v] (tc_T cI cJ cD cC h0 h1 h2 h3 h4 ad wd rd Y n K Ln Wh Re cd ct)) (va_Qi (fun r (_ : Unit) => r = cdR K Ln j i kd (K j)) (fun _ t => tcB D A (tc_T cI cJ cD cC h0 h1 h2 h3 h4 ad wd rd Y n K Ln (wrW K Ln Wh j i kd v) (wrR K Ln Re j i kd v) (cdR K Ln j i kd (K j)) (noteC ct (cdR K Ln j i kd (K j)))) t) A) 0 0 A := by
  refine Met.ofW (cc := cX2_writeWhole) (maxL := 7) (ret := (some .int)) (by decide) rfl ?_
  intro p e s m args below meth c s₁ B hml hv
  obtain ⟨rfl, hsz, hP, hK, hD, hE⟩ := hv
  have hx := B.exec
  have hb := B.bytes
  have hr := B.returns
  have hts := atoms_spec (ws := wsX2_writeWhole) B.pre
  have hown : s.vm.findClass RX2 = some m.cls := findClass_of_methodNamed B.named
  have hlocks := B.notSynchronized
  have hl := lv_entry ([.ref h0, .ref (ad j), .int i, .int kd, .long v]) (n := 7) (Nat.le_of_ble_eq_true rfl)
  rw [lg_entry_eq]
  generalize (lg_sl ([.ref h0, .ref (ad j), .int i, .int kd, .long v]) ++ List.replicate (7 - (lg_sl ([.ref h0, .ref (ad j), .int i, .int kd, .long v])).length) Slot.unset).toArray = ls at hl ⊢
  have hl : lv_has ls 7 [(0, .ref h0), (1, .ref (ad j)), (2, .int i), (3, .int kd), (4, .long v)] := hl
  subst hsz
  have hS : va_S A s.heap s.heap [] := va_S.rf
  refine lv_aload_n hx hb dX2_writeWhole_0 rfl (lv_at hl 0 rfl) ?_
  refine lv_aload_n hx hb dX2_writeWhole_1 rfl (lv_at hl 1 rfl) ?_
  refine lv_iload_n hx hb dX2_writeWhole_2 rfl (lv_at hl 2 rfl) ?_
  refine lv_iload_n hx hb dX2_writeWhole_3 rfl (lv_at hl 3 rfl) ?_
  refine lv_aload_n hx hb dX2_writeWhole_4 rfl (lv_at hl 1 rfl) ?_
  refine va_get (D := D) (ci := 0) (fs := [.int (K j), .int (tc_cl (K j) (Ln j)), .ref (wd j), .ref (rd j)]) (v := .int (K j)) (C := RX0) (T := TX0) (N := 4) hx hb hts (by decide +kernel) hown hK hP (5 + (Y.length + (3 * j + 0))) (tc_T0 hj) rfl 0 (by decide) (hts (.fieldLink RX2 66 "TypedColumns$Column" "kind" "I") (by decide +kernel)) (fun _ h9 => h9) rfl dX2_writeWhole_5 ?_
  refine vp_callSi (tc_CR (va_runS (As := [.ref (ad j), .int i, .int kd, .int (K j)]) (rest := [.ref h0]) ⟨hx, hb, hml, hown, hts⟩ (oX2_codeOfCell l D A cI cJ cD cC (tc_T cI cJ cD cC h0 h1 h2 h3 h4 ad wd rd Y n K Ln Wh Re cd ct) (5 + (Y.length + (3 * j + 0))) (5 + (Y.length + (3 * j + 1))) (5 + (Y.length + (3 * j + 2))) (ad j) (wd j) (rd j) (K j) (tc_cl (K j) (Ln j)) (tc_wl (K j) (Ln j)) (tc_rl (K j) (Ln j)) (tc_sl (tc_wl (K j) (Ln j)) (fun i => Wh (40 * j + i)) 0) (tc_sl (tc_rl (K j) (Ln j)) (fun i => Re (40 * j + i)) 0) s.heap.size (tc_T0 hj) (tc_T1 hj) (tc_T2 hj) (tc_len_lt (hI.2.1 j hj).2.1) i kd (K j)) (va_cwS 4 hts gX2_writeWhole_X2_codeOfCell rfl rfl rfl (by decide +kernel) ⟨Nat.le_of_ble_eq_true rfl, Nat.le_of_ble_eq_true rfl⟩) ⟨tcP.blind, (tcP.go hK hP hD hE hS)⟩ rfl rfl hl.1 rfl (lv_room (Nat.le_of_ble_eq_true rfl)) dX2_writeWhole_8 ⟨Nat.le_of_ble_eq_true rfl, Nat.le_of_ble_eq_true rfl⟩)) (fun r_1 hr_1 => ?_)
  subst hr_1
  refine va_calli (va_runV (As := [.int (cdR K Ln j i kd (K j))]) (rest := []) ⟨hx, hb, hml, hown, hts⟩ (tX2_note l D A cI cJ cD cC h0 h1 h2 h3 h4 ad wd rd Y n K Ln Wh Re cd ct s.heap.size (cdR K Ln j i kd (K j)) (kCell_in _ _ _ _ _)) (cwV 1 hts gX2_writeWhole_X2_note rfl rfl rfl (by decide +kernel) ⟨Nat.le_of_ble_eq_true rfl, Nat.le_of_ble_eq_true rfl⟩) ⟨tcP.blind, (va_recv hK hP (ci := 2) (q0 := 0) rfl rfl), (tcP.go hK hP hD hE hS)⟩ rfl rfl hl.1 rfl (lv_room (Nat.le_of_ble_eq_true rfl)) dX2_writeWhole_11 ⟨Nat.le_of_ble_eq_true rfl, Nat.le_of_ble_eq_true rfl⟩) hS (fun q _ h => h) (fun q h => h) (fun r_2 u t H locs ht hvm hw hB hz1 hk1 hS => ?_)
  subst hw
  obtain ⟨hP, hD⟩ := hB
  rw [ht] at hP
  refine lv_istore (lv' := [(6, .int (cdR K Ln j i kd (K j))), (0, .ref h0), (1, .ref (ad j)), (2, .int i), (3, .int kd), (4, .long v)]) hx hb dX2_writeWhole_14 hl (by decide) rfl (fun ls hl => ?_)
  refine lv_iload hx hb dX2_writeWhole_16 (lv_at hl 0 rfl) ?_
  refine lv_if_ne (tgt := 28) hx hb dX2_writeWhole_18 (by decide) (fun c_3 => ?_) (fun c_3 => ?_)
  · refine lv_iload hx hb dX2_writeWhole_28 (lv_at hl 0 rfl) ?_
    have hP : va_P D vwCl (tc_T cI cJ cD cC h0 h1 h2 h3 h4 ad wd rd Y n K Ln (wrW K Ln Wh j i kd v) (wrR K Ln Re j i kd v) (cdR K Ln j i kd (K j)) (noteC ct (cdR K Ln j i kd (K j)))) H := by rw [show wrW K Ln Wh j i kd v = Wh from by unfold wrW; rw [if_neg c_3], show wrR K Ln Re j i kd v = Re from by unfold wrR; rw [if_neg c_3]]; exact hP
    have hD : va_D A (tc_T cI cJ cD cC h0 h1 h2 h3 h4 ad wd rd Y n K Ln (wrW K Ln Wh j i kd v) (wrR K Ln Re j i kd v) (cdR K Ln j i kd (K j)) (noteC ct (cdR K Ln j i kd (K j)))) := by rw [show wrW K Ln Wh j i kd v = Wh from by unfold wrW; rw [if_neg c_3], show wrR K Ln Re j i kd v = Re from by unfold wrR; rw [if_neg c_3]]; exact hD
    exact W.iret (v := (cdR K Ln j i kd (K j))) hx hb hr (fun t9 ht9 hW9 => ⟨⟨(cdR K Ln j i kd (K j)), (), rfl, rfl, by rw [ht9]; exact hP, hD⟩, hS.F ht9⟩) hS.2.2 dX2_writeWhole_30
  · refine lv_aload_n hx hb dX2_writeWhole_21 rfl (lv_at hl 2 rfl) ?_
    refine lv_iload_n hx hb dX2_writeWhole_22 rfl (lv_at hl 3 rfl) ?_
    refine lv_lload hx hb dX2_writeWhole_23 (lv_at hl 5 rfl) ?_
    have g0 := cdR_0 (hI.2.1 j hj).1 (hI.2.1 j hj).2.1 c_3
    have hL : ∀ k, k < n → Ln k ≤ 40 := fun k hk => (hI.2.1 k hk).2.1
    rcases kFl_3 (K j) with gf | g7 | g8
    · have gi : vp_in i (tc_wl (K j) (Ln j)) := by rw [tc_wl_n gf]; exact g0.2.2
      refine va_callv (va_runV (As := [.int i, .long v]) (rest := []) ⟨hx, hb, hml, hown, hts⟩ (oX0_putWhole_w l D A cI cJ cD cC (tc_T cI cJ cD cC h0 h1 h2 h3 h4 ad wd rd Y n K Ln Wh Re (cdR K Ln j i kd (K j)) (noteC ct (cdR K Ln j i kd (K j)))) (5 + (Y.length + (3 * j + 0))) (5 + (Y.length + (3 * j + 1))) (5 + (Y.length + (3 * j + 2))) (ad j) (wd j) (rd j) (K j) (tc_cl (K j) (Ln j)) (tc_wl (K j) (Ln j)) (tc_rl (K j) (Ln j)) (tc_sl (tc_wl (K j) (Ln j)) (fun i => Wh (40 * j + i)) 0) (tc_sl (tc_rl (K j) (Ln j)) (fun i => Re (40 * j + i)) 0) H.size (tc_T0 hj) (tc_T1 hj) (tc_T2 hj) (tc_len_lt (hI.2.1 j hj).2.1) i v gi gf) (cwV 2 hts gX2_writeWhole_X0_putWhole rfl rfl rfl (by decide +kernel) ⟨Nat.le_of_ble_eq_true rfl, Nat.le_of_ble_eq_true rfl⟩) ⟨tcP.blind, (va_recv hK hP (ci := 0) (q0 := (5 + (Y.length + (3 * j + 0)))) rfl (tc_T0 hj)), (tcP.go hK hP hD hE hS)⟩ rfl rfl hl.1 rfl (lv_room (Nat.le_of_ble_eq_true rfl)) dX2_writeWhole_25 ⟨Nat.le_of_ble_eq_true rfl, Nat.le_of_ble_eq_true rfl⟩) hS (fun q _ h => h) (fun q h => h) (fun u t H locs ht hvm hw hB hz1 hk1 hS => ?_)
      obtain ⟨hP, hD⟩ := hB
      rw [ht] at hP
      rw [tc_T_wh hj hL (vp_in_lt gi) v] at hP hD
      have z1 : wrW K Ln Wh j i kd v = vp_updL Wh (40 * j + i.toNatClampNeg) v := by unfold wrW; rw [if_pos c_3, if_neg (by rw [gf]; decide)]
      have z2 : wrR K Ln Re j i kd v = Re := by unfold wrR; rw [if_pos c_3, if_neg (by rw [gf]; decide)]
      have hP : va_P D vwCl (tc_T cI cJ cD cC h0 h1 h2 h3 h4 ad wd rd Y n K Ln (wrW K Ln Wh j i kd v) (wrR K Ln Re j i kd v) (cdR K Ln j i kd (K j)) (noteC ct (cdR K Ln j i kd (K j)))) H := by rw [z1, z2]; exact hP
      have hD : va_D A (tc_T cI cJ cD cC h0 h1 h2 h3 h4 ad wd rd Y n K Ln (wrW K Ln Wh j i kd v) (wrR K Ln Re j i kd v) (cdR K Ln j i kd (K j)) (noteC ct (cdR K Ln j i kd (K j)))) := by rw [z1, z2]; exact hD
      refine lv_iload hx hb dX2_writeWhole_28 (lv_at hl 0 rfl) ?_
      exact W.iret (v := (cdR K Ln j i kd (K j))) hx hb hr (fun t9 ht9 hW9 => ⟨⟨(cdR K Ln j i kd (K j)), (), rfl, rfl, by rw [ht9]; exact hP, hD⟩, hS.F ht9⟩) hS.2.2 dX2_writeWhole_30
    · have gf : kFl (K j) = true := by rw [g7]; decide
      have gi : vp_in i (tc_rl (K j) (Ln j)) := by rw [tc_rl_n gf]; exact g0.2.2
      refine va_callv (va_runV (As := [.int i, .long v]) (rest := []) ⟨hx, hb, hml, hown, hts⟩ (oX0_putWhole_f l D A cI cJ cD cC (tc_T cI cJ cD cC h0 h1 h2 h3 h4 ad wd rd Y n K Ln Wh Re (cdR K Ln j i kd (K j)) (noteC ct (cdR K Ln j i kd (K j)))) (5 + (Y.length + (3 * j + 0))) (5 + (Y.length + (3 * j + 1))) (5 + (Y.length + (3 * j + 2))) (ad j) (wd j) (rd j) (K j) (tc_cl (K j) (Ln j)) (tc_wl (K j) (Ln j)) (tc_rl (K j) (Ln j)) (tc_sl (tc_wl (K j) (Ln j)) (fun i => Wh (40 * j + i)) 0) (tc_sl (tc_rl (K j) (Ln j)) (fun i => Re (40 * j + i)) 0) H.size (tc_T0 hj) (tc_T1 hj) (tc_T2 hj) (tc_len_lt (hI.2.1 j hj).2.1) i v gi g7) (cwV 2 hts gX2_writeWhole_X0_putWhole rfl rfl rfl (by decide +kernel) ⟨Nat.le_of_ble_eq_true rfl, Nat.le_of_ble_eq_true rfl⟩) ⟨tcP.blind, (va_recv hK hP (ci := 0) (q0 := (5 + (Y.length + (3 * j + 0)))) rfl (tc_T0 hj)), (tcP.go hK hP hD hE hS)⟩ rfl rfl hl.1 rfl (lv_room (Nat.le_of_ble_eq_true rfl)) dX2_writeWhole_25 ⟨Nat.le_of_ble_eq_true rfl, Nat.le_of_ble_eq_true rfl⟩) hS (fun q _ h => h) (fun q h => h) (fun u t H locs ht hvm hw hB hz1 hk1 hS => ?_)
      obtain ⟨hP, hD⟩ := hB
      rw [ht] at hP
      rw [tc_T_re hj hL (vp_in_lt gi)] at hP hD
      have z1 : wrW K Ln Wh j i kd v = Wh := by unfold wrW; rw [if_pos c_3, if_pos gf]
      have z2 : wrR K Ln Re j i kd v = vf_upd Re (40 * j + i.toNatClampNeg) (FP.f2d (FP.l2f v)) := by unfold wrR; rw [if_pos c_3, if_pos gf, if_pos g7]
      have hP : va_P D vwCl (tc_T cI cJ cD cC h0 h1 h2 h3 h4 ad wd rd Y n K Ln (wrW K Ln Wh j i kd v) (wrR K Ln Re j i kd v) (cdR K Ln j i kd (K j)) (noteC ct (cdR K Ln j i kd (K j)))) H := by rw [z1, z2]; exact hP
      have hD : va_D A (tc_T cI cJ cD cC h0 h1 h2 h3 h4 ad wd rd Y n K Ln (wrW K Ln Wh j i kd v) (wrR K Ln Re j i kd v) (cdR K Ln j i kd (K j)) (noteC ct (cdR K Ln j i kd (K j)))) := by rw [z1, z2]; exact hD
      refine lv_iload hx hb dX2_writeWhole_28 (lv_at hl 0 rfl) ?_
      exact W.iret (v := (cdR K Ln j i kd (K j))) hx hb hr (fun t9 ht9 hW9 => ⟨⟨(cdR K Ln j i kd (K j)), (), rfl, rfl, by rw [ht9]; exact hP, hD⟩, hS.F ht9⟩) hS.2.2 dX2_writeWhole_30
    · have gf : kFl (K j) = true := by rw [g8]; decide
      have gi : vp_in i (tc_rl (K j) (Ln j)) := by rw [tc_rl_n gf]; exact g0.2.2
      refine va_callv (va_runV (As := [.int i, .long v]) (rest := []) ⟨hx, hb, hml, hown, hts⟩ (oX0_putWhole_d l D A cI cJ cD cC (tc_T cI cJ cD cC h0 h1 h2 h3 h4 ad wd rd Y n K Ln Wh Re (cdR K Ln j i kd (K j)) (noteC ct (cdR K Ln j i kd (K j)))) (5 + (Y.length + (3 * j + 0))) (5 + (Y.length + (3 * j + 1))) (5 + (Y.length + (3 * j + 2))) (ad j) (wd j) (rd j) (K j) (tc_cl (K j) (Ln j)) (tc_wl (K j) (Ln j)) (tc_rl (K j) (Ln j)) (tc_sl (tc_wl (K j) (Ln j)) (fun i => Wh (40 * j + i)) 0) (tc_sl (tc_rl (K j) (Ln j)) (fun i => Re (40 * j + i)) 0) H.size (tc_T0 hj) (tc_T1 hj) (tc_T2 hj) (tc_len_lt (hI.2.1 j hj).2.1) i v gi g8) (cwV 2 hts gX2_writeWhole_X0_putWhole rfl rfl rfl (by decide +kernel) ⟨Nat.le_of_ble_eq_true rfl, Nat.le_of_ble_eq_true rfl⟩) ⟨tcP.blind, (va_recv hK hP (ci := 0) (q0 := (5 + (Y.length + (3 * j + 0)))) rfl (tc_T0 hj)), (tcP.go hK hP hD hE hS)⟩ rfl rfl hl.1 rfl (lv_room (Nat.le_of_ble_eq_true rfl)) dX2_writeWhole_25 ⟨Nat.le_of_ble_eq_true rfl, Nat.le_of_ble_eq_true rfl⟩) hS (fun q _ h => h) (fun q h => h) (fun u t H locs ht hvm hw hB hz1 hk1 hS => ?_)
      obtain ⟨hP, hD⟩ := hB
      rw [ht] at hP
      rw [tc_T_re hj hL (vp_in_lt gi)] at hP hD
      have z1 : wrW K Ln Wh j i kd v = Wh := by unfold wrW; rw [if_pos c_3, if_pos gf]
      have z2 : wrR K Ln Re j i kd v = vf_upd Re (40 * j + i.toNatClampNeg) (FP.l2d v) := by unfold wrR; rw [if_pos c_3, if_pos gf, if_neg (by rw [g8]; decide)]
      have hP : va_P D vwCl (tc_T cI cJ cD cC h0 h1 h2 h3 h4 ad wd rd Y n K Ln (wrW K Ln Wh j i kd v) (wrR K Ln Re j i kd v) (cdR K Ln j i kd (K j)) (noteC ct (cdR K Ln j i kd (K j)))) H := by rw [z1, z2]; exact hP
      have hD : va_D A (tc_T cI cJ cD cC h0 h1 h2 h3 h4 ad wd rd Y n K Ln (wrW K Ln Wh j i kd v) (wrR K Ln Re j i kd v) (cdR K Ln j i kd (K j)) (noteC ct (cdR K Ln j i kd (K j)))) := by rw [z1, z2]; exact hD
      refine lv_iload hx hb dX2_writeWhole_28 (lv_at hl 0 rfl) ?_
      exact W.iret (v := (cdR K Ln j i kd (K j))) hx hb hr (fun t9 ht9 hW9 => ⟨⟨(cdR K Ln j i kd (K j)), (), rfl, rfl, by rw [ht9]; exact hP, hD⟩, hS.F ht9⟩) hS.2.2 dX2_writeWhole_30
set_option maxHeartbeats 4000000 in
set_option maxRecDepth 100000 in
theorem tX2_writeReal (l : Launch) (D : va_G) (A : Nat → Prop) (cI cJ cD cC : ClassId) (h0 h1 h2 h3 h4 : Nat) (ad wd rd : Nat → Nat) (Y : va_W) (n : Nat) (K : Nat → Int32) (Ln : Nat → Nat) (Wh : Nat → Int64) (Re : Nat → UInt64) (cd : Int32) (ct : Nat → Int32) (sz : Nat) (hI : tcI n K Ln Wh Re) (j : Nat) (hj : j < n) (i kd : Int32) (x : UInt64) (hkd : kFl kd = true) : Met l yX2_writeReal wsX2_writeReal ({ frames := 3, cells := 0, slots := 0, locals := 65 }) (tcP D A (tcTY cI cJ cD cC) sz [.ref h0, .ref (ad j), .int i, .int kd, .double x] (tc_T cI cJ cD cC h0 h1 h2 h3 h4 ad wd rd Y n K Ln Wh Re cd ct)) (va_Qi (fun r (_ : Unit) => r = cdR K Ln j i kd (K j)) (fun _ t => tcB D A (tc_T cI cJ cD cC h0 h1 h2 h3 h4 ad wd rd Y n K Ln Wh (wrX K Ln Re j i kd x) (cdR K Ln j i kd (K j)) (noteC ct (cdR K Ln j i kd (K j)))) t) A) 0 0 A := by
  refine Met.ofW (cc := cX2_writeReal) (maxL := 7) (ret := (some .int)) (by decide) rfl ?_
  intro p e s m args below meth c s₁ B hml hv
  obtain ⟨rfl, hsz, hP, hK, hD, hE⟩ := hv
  have hx := B.exec
  have hb := B.bytes
  have hr := B.returns
  have hts := atoms_spec (ws := wsX2_writeReal) B.pre
  have hown : s.vm.findClass RX2 = some m.cls := findClass_of_methodNamed B.named
  have hlocks := B.notSynchronized
  have hl := lv_entry ([.ref h0, .ref (ad j), .int i, .int kd, .double x]) (n := 7) (Nat.le_of_ble_eq_true rfl)
  rw [lg_entry_eq]
  generalize (lg_sl ([.ref h0, .ref (ad j), .int i, .int kd, .double x]) ++ List.replicate (7 - (lg_sl ([.ref h0, .ref (ad j), .int i, .int kd, .double x])).length) Slot.unset).toArray = ls at hl ⊢
  have hl : lv_has ls 7 [(0, .ref h0), (1, .ref (ad j)), (2, .int i), (3, .int kd), (4, .double x)] := hl
  subst hsz
  have hS : va_S A s.heap s.heap [] := va_S.rf
  refine lv_aload_n hx hb dX2_writeReal_0 rfl (lv_at hl 0 rfl) ?_
  refine lv_aload_n hx hb dX2_writeReal_1 rfl (lv_at hl 1 rfl) ?_
  refine lv_iload_n hx hb dX2_writeReal_2 rfl (lv_at hl 2 rfl) ?_
  refine lv_iload_n hx hb dX2_writeReal_3 rfl (lv_at hl 3 rfl) ?_
  refine lv_aload_n hx hb dX2_writeReal_4 rfl (lv_at hl 1 rfl) ?_
  refine va_get (D := D) (ci := 0) (fs := [.int (K j), .int (tc_cl (K j) (Ln j)), .ref (wd j), .ref (rd j)]) (v := .int (K j)) (C := RX0) (T := TX0) (N := 4) hx hb hts (by decide +kernel) hown hK hP (5 + (Y.length + (3 * j + 0))) (tc_T0 hj) rfl 0 (by decide) (hts (.fieldLink RX2 66 "TypedColumns$Column" "kind" "I") (by decide +kernel)) (fun _ h9 => h9) rfl dX2_writeReal_5 ?_
  refine vp_callSi (tc_CR (va_runS (As := [.ref (ad j), .int i, .int kd, .int (K j)]) (rest := [.ref h0]) ⟨hx, hb, hml, hown, hts⟩ (oX2_codeOfCell l D A cI cJ cD cC (tc_T cI cJ cD cC h0 h1 h2 h3 h4 ad wd rd Y n K Ln Wh Re cd ct) (5 + (Y.length + (3 * j + 0))) (5 + (Y.length + (3 * j + 1))) (5 + (Y.length + (3 * j + 2))) (ad j) (wd j) (rd j) (K j) (tc_cl (K j) (Ln j)) (tc_wl (K j) (Ln j)) (tc_rl (K j) (Ln j)) (tc_sl (tc_wl (K j) (Ln j)) (fun i => Wh (40 * j + i)) 0) (tc_sl (tc_rl (K j) (Ln j)) (fun i => Re (40 * j + i)) 0) s.heap.size (tc_T0 hj) (tc_T1 hj) (tc_T2 hj) (tc_len_lt (hI.2.1 j hj).2.1) i kd (K j)) (va_cwS 4 hts gX2_writeReal_X2_codeOfCell rfl rfl rfl (by decide +kernel) ⟨Nat.le_of_ble_eq_true rfl, Nat.le_of_ble_eq_true rfl⟩) ⟨tcP.blind, (tcP.go hK hP hD hE hS)⟩ rfl rfl hl.1 rfl (lv_room (Nat.le_of_ble_eq_true rfl)) dX2_writeReal_8 ⟨Nat.le_of_ble_eq_true rfl, Nat.le_of_ble_eq_true rfl⟩)) (fun r_1 hr_1 => ?_)
  subst hr_1
  refine va_calli (va_runV (As := [.int (cdR K Ln j i kd (K j))]) (rest := []) ⟨hx, hb, hml, hown, hts⟩ (tX2_note l D A cI cJ cD cC h0 h1 h2 h3 h4 ad wd rd Y n K Ln Wh Re cd ct s.heap.size (cdR K Ln j i kd (K j)) (kCell_in _ _ _ _ _)) (cwV 1 hts gX2_writeReal_X2_note rfl rfl rfl (by decide +kernel) ⟨Nat.le_of_ble_eq_true rfl, Nat.le_of_ble_eq_true rfl⟩) ⟨tcP.blind, (va_recv hK hP (ci := 2) (q0 := 0) rfl rfl), (tcP.go hK hP hD hE hS)⟩ rfl rfl hl.1 rfl (lv_room (Nat.le_of_ble_eq_true rfl)) dX2_writeReal_11 ⟨Nat.le_of_ble_eq_true rfl, Nat.le_of_ble_eq_true rfl⟩) hS (fun q _ h => h) (fun q h => h) (fun r_2 u t H locs ht hvm hw hB hz1 hk1 hS => ?_)
  subst hw
  obtain ⟨hP, hD⟩ := hB
  rw [ht] at hP
  refine lv_istore (lv' := [(6, .int (cdR K Ln j i kd (K j))), (0, .ref h0), (1, .ref (ad j)), (2, .int i), (3, .int kd), (4, .double x)]) hx hb dX2_writeReal_14 hl (by decide) rfl (fun ls hl => ?_)
  refine lv_iload hx hb dX2_writeReal_16 (lv_at hl 0 rfl) ?_
  refine lv_if_ne (tgt := 28) hx hb dX2_writeReal_18 (by decide) (fun c_3 => ?_) (fun c_3 => ?_)
  · refine lv_iload hx hb dX2_writeReal_28 (lv_at hl 0 rfl) ?_
    have hP : va_P D vwCl (tc_T cI cJ cD cC h0 h1 h2 h3 h4 ad wd rd Y n K Ln Wh (wrX K Ln Re j i kd x) (cdR K Ln j i kd (K j)) (noteC ct (cdR K Ln j i kd (K j)))) H := by rw [show wrX K Ln Re j i kd x = Re from by unfold wrX; rw [if_neg c_3]]; exact hP
    have hD : va_D A (tc_T cI cJ cD cC h0 h1 h2 h3 h4 ad wd rd Y n K Ln Wh (wrX K Ln Re j i kd x) (cdR K Ln j i kd (K j)) (noteC ct (cdR K Ln j i kd (K j)))) := by rw [show wrX K Ln Re j i kd x = Re from by unfold wrX; rw [if_neg c_3]]; exact hD
    exact W.iret (v := (cdR K Ln j i kd (K j))) hx hb hr (fun t9 ht9 hW9 => ⟨⟨(cdR K Ln j i kd (K j)), (), rfl, rfl, by rw [ht9]; exact hP, hD⟩, hS.F ht9⟩) hS.2.2 dX2_writeReal_30
  · refine lv_aload_n hx hb dX2_writeReal_21 rfl (lv_at hl 2 rfl) ?_
    refine lv_iload_n hx hb dX2_writeReal_22 rfl (lv_at hl 3 rfl) ?_
    refine lv_dload hx hb dX2_writeReal_23 (lv_at hl 5 rfl) ?_
    have g0 := cdR_0 (hI.2.1 j hj).1 (hI.2.1 j hj).2.1 c_3
    have hL : ∀ k, k < n → Ln k ≤ 40 := fun k hk => (hI.2.1 k hk).2.1
    have gf := kWid_high g0.2.1 hkd
    have gi : vp_in i (tc_rl (K j) (Ln j)) := by rw [tc_rl_n gf]; exact g0.2.2
    refine va_callv (va_runV (As := [.int i, .double x]) (rest := []) ⟨hx, hb, hml, hown, hts⟩ (oX0_putReal l D A cI cJ cD cC (tc_T cI cJ cD cC h0 h1 h2 h3 h4 ad wd rd Y n K Ln Wh Re (cdR K Ln j i kd (K j)) (noteC ct (cdR K Ln j i kd (K j)))) (5 + (Y.length + (3 * j + 0))) (5 + (Y.length + (3 * j + 1))) (5 + (Y.length + (3 * j + 2))) (ad j) (wd j) (rd j) (K j) (tc_cl (K j) (Ln j)) (tc_wl (K j) (Ln j)) (tc_rl (K j) (Ln j)) (tc_sl (tc_wl (K j) (Ln j)) (fun i => Wh (40 * j + i)) 0) (tc_sl (tc_rl (K j) (Ln j)) (fun i => Re (40 * j + i)) 0) H.size (tc_T0 hj) (tc_T1 hj) (tc_T2 hj) (tc_len_lt (hI.2.1 j hj).2.1) i x gi) (cwV 2 hts gX2_writeReal_X0_putReal rfl rfl rfl (by decide +kernel) ⟨Nat.le_of_ble_eq_true rfl, Nat.le_of_ble_eq_true rfl⟩) ⟨tcP.blind, (va_recv hK hP (ci := 0) (q0 := (5 + (Y.length + (3 * j + 0)))) rfl (tc_T0 hj)), (tcP.go hK hP hD hE hS)⟩ rfl rfl hl.1 rfl (lv_room (Nat.le_of_ble_eq_true rfl)) dX2_writeReal_25 ⟨Nat.le_of_ble_eq_true rfl, Nat.le_of_ble_eq_true rfl⟩) hS (fun q _ h => h) (fun q h => h) (fun u t H locs ht hvm hw hB hz1 hk1 hS => ?_)
    obtain ⟨hP, hD⟩ := hB
    rw [ht] at hP
    rw [tc_T_re hj hL (vp_in_lt gi)] at hP hD
    have z2 : wrX K Ln Re j i kd x = vf_upd Re (40 * j + i.toNatClampNeg) x := by unfold wrX; rw [if_pos c_3]
    have hP : va_P D vwCl (tc_T cI cJ cD cC h0 h1 h2 h3 h4 ad wd rd Y n K Ln Wh (wrX K Ln Re j i kd x) (cdR K Ln j i kd (K j)) (noteC ct (cdR K Ln j i kd (K j)))) H := by rw [z2]; exact hP
    have hD : va_D A (tc_T cI cJ cD cC h0 h1 h2 h3 h4 ad wd rd Y n K Ln Wh (wrX K Ln Re j i kd x) (cdR K Ln j i kd (K j)) (noteC ct (cdR K Ln j i kd (K j)))) := by rw [z2]; exact hD
    refine lv_iload hx hb dX2_writeReal_28 (lv_at hl 0 rfl) ?_
    exact W.iret (v := (cdR K Ln j i kd (K j))) hx hb hr (fun t9 ht9 hW9 => ⟨⟨(cdR K Ln j i kd (K j)), (), rfl, rfl, by rw [ht9]; exact hP, hD⟩, hS.F ht9⟩) hS.2.2 dX2_writeReal_30
end
section
/-! THE CLASS: calls that throw -/
set_option maxHeartbeats 4000000 in
set_option maxRecDepth 100000 in
theorem tX2_refuseWithoutCells (l : Launch) (D : va_G) (A : Nat → Prop) (cI cJ cD cC : ClassId) (h0 h1 h2 h3 h4 : Nat) (ad wd rd : Nat → Nat) (Y : va_W) (n : Nat) (K : Nat → Int32) (Ln : Nat → Nat) (Wh : Nat → Int64) (Re : Nat → UInt64) (cd : Int32) (ct : Nat → Int32) (sz : Nat) (k : Int32) (hk : kHas k = true) : Met l yX2_refuseWithoutCells wsX2_refuseWithoutCells ({ frames := 1, cells := 0, slots := 0, locals := 20 }) (tcP D A (tcTY cI cJ cD cC) sz [.int k] (tc_T cI cJ cD cC h0 h1 h2 h3 h4 ad wd rd Y n K Ln Wh Re cd ct)) (va_Sv (fun _ => True)) 0 0 (fun _ => False) := by
  refine Met.ofW (cc := cX2_refuseWithoutCells) (maxL := 1) (ret := none) (by decide) rfl ?_
  intro p e s m args below meth c s₁ B hml hv
  obtain ⟨rfl, hsz, hP, hK, hD, hE⟩ := hv
  have hx := B.exec
  have hb := B.bytes
  have hr := B.returns
  have hts := atoms_spec (ws := wsX2_refuseWithoutCells) B.pre
  have hown : s.vm.findClass RX2 = some m.cls := findClass_of_methodNamed B.named
  have hlocks := B.notSynchronized
  have hl := lv_entry ([.int k]) (n := 1) (Nat.le_of_ble_eq_true rfl)
  rw [lg_entry_eq]
  generalize (lg_sl ([.int k]) ++ List.replicate (1 - (lg_sl ([.int k])).length) Slot.unset).toArray = ls at hl ⊢
  have hl : lv_has ls 1 [(0, .int k)] := hl
  subst hsz
  have hS : va_S A s.heap s.heap [] := va_S.rf
  refine lv_iload_n hx hb dX2_refuseWithoutCells_0 rfl (lv_at hl 0 rfl) ?_
  refine vp_callSi (W.runS (As := [.int k]) (rest := []) ⟨hx, hb, hml, hown, hts⟩ (kX2_holdsCells l k) (va_cwS 1 hts gX2_refuseWithoutCells_X2_holdsCells rfl rfl rfl (by decide +kernel) ⟨Nat.le_of_ble_eq_true rfl, Nat.le_of_ble_eq_true rfl⟩) ⟨fun a U g mk q => q, fun U hU hW => ⟨rfl, trivial⟩⟩ rfl rfl hl.1 rfl (lv_room (Nat.le_of_ble_eq_true rfl)) dX2_refuseWithoutCells_1 ⟨Nat.zero_le _, Nat.zero_le _⟩) (fun r_1 hr_1 => ?_)
  subst hr_1
  refine lv_if_ne (tgt := 17) hx hb dX2_refuseWithoutCells_4 (by decide) (fun _ => ?_) (fun q => absurd q ((tb_1 _).mpr hk))
  exact W.vret hx hb hr (fun t9 ht9 hW9 => ⟨rfl, trivial, ht9⟩) (fun q hq => absurd hq List.not_mem_nil) dX2_refuseWithoutCells_17
set_option maxHeartbeats 4000000 in
set_option maxRecDepth 100000 in
theorem tX2_refuseWhenFull (l : Launch) (D : va_G) (A : Nat → Prop) (cI cJ cD cC : ClassId) (h0 h1 h2 h3 h4 : Nat) (ad wd rd : Nat → Nat) (Y : va_W) (n : Nat) (K : Nat → Int32) (Ln : Nat → Nat) (Wh : Nat → Int64) (Re : Nat → UInt64) (cd : Int32) (ct : Nat → Int32) (sz : Nat) (hn6 : n < 60) : Met l yX2_refuseWhenFull wsX2_refuseWhenFull ({ frames := 0, cells := 0, slots := 0, locals := 0 }) (tcP D A (tcTY cI cJ cD cC) sz [.ref h0] (tc_T cI cJ cD cC h0 h1 h2 h3 h4 ad wd rd Y n K Ln Wh Re cd ct)) (va_Sv (fun _ => True)) 0 0 (fun _ => False) := by
  refine Met.ofW (cc := cX2_refuseWhenFull) (maxL := 1) (ret := none) (by decide) rfl ?_
  intro p e s m args below meth c s₁ B hml hv
  obtain ⟨rfl, hsz, hP, hK, hD, hE⟩ := hv
  have hx := B.exec
  have hb := B.bytes
  have hr := B.returns
  have hts := atoms_spec (ws := wsX2_refuseWhenFull) B.pre
  have hown : s.vm.findClass RX2 = some m.cls := findClass_of_methodNamed B.named
  have hlocks := B.notSynchronized
  have hl := lv_entry ([.ref h0]) (n := 1) (Nat.le_of_ble_eq_true rfl)
  rw [lg_entry_eq]
  generalize (lg_sl ([.ref h0]) ++ List.replicate (1 - (lg_sl ([.ref h0])).length) Slot.unset).toArray = ls at hl ⊢
  have hl : lv_has ls 1 [(0, .ref h0)] := hl
  subst hsz
  have hS : va_S A s.heap s.heap [] := va_S.rf
  refine lv_aload_n hx hb dX2_refuseWhenFull_0 rfl (lv_at hl 0 rfl) ?_
  refine va_get (D := D) (ci := 2) (fs := [.ref h1, .ref h2, .ref h3, .int (nI n), .int cd]) (v := .int (nI n)) (C := RX2) (T := TX2) (N := 5) hx hb hts (by decide +kernel) hown hK hP 0 rfl rfl 3 (by decide) (hts (.fieldLink RX2 26 "TypedColumns" "created" "I") (by decide +kernel)) (fun _ h9 => h9) rfl dX2_refuseWhenFull_1 ?_
  refine lv_aload_n hx hb dX2_refuseWhenFull_4 rfl (lv_at hl 0 rfl) ?_
  refine va_get (D := D) (ci := 2) (fs := [.ref h1, .ref h2, .ref h3, .int (nI n), .int cd]) (v := .ref h1) (C := RX2) (T := TX2) (N := 5) hx hb hts (by decide +kernel) hown hK hP 0 rfl rfl 0 (by decide) (hts (.fieldLink RX2 11 "TypedColumns" "columns" "[LTypedColumns$Column;") (by decide +kernel)) (fun _ h9 => h9) rfl dX2_refuseWhenFull_5 ?_
  refine va_alen (v := 60) hx hb hK hP 1 3 rfl rfl rfl dX2_refuseWhenFull_8 ?_
  refine lv_icmp_lt (tgt := 22) hx hb dX2_refuseWhenFull_9 (by decide) (fun _ => ?_) (fun q => absurd (nI_lt hn6 (by decide)) q)
  exact W.vret hx hb hr (fun t9 ht9 hW9 => ⟨rfl, trivial, ht9⟩) (fun q hq => absurd hq List.not_mem_nil) dX2_refuseWhenFull_22
end
section
/-! WHAT THE CLASS'S WIDER METHODS ANSWER, in words of the state -/
theorem tf_sum_congr {V V' : Nat → UInt64} : ∀ (N : Nat), (∀ q, q < N → V q = V' q) → tf_sum V N = tf_sum V' N
  | 0, _ => rfl
  | N + 1, h => by
    show tf_canon (FP.dadd (tf_sum V N) (V N)) = tf_canon (FP.dadd (tf_sum V' N) (V' N))
    rw [tf_sum_congr N (fun q hq => h q (by omega)), h N (Nat.lt_succ_self N)]
def tot (K : Nat → Int32) (Ln : Nat → Nat) (Wh : Nat → Int64) (Re : Nat → UInt64) (j : Nat) : UInt64 := if kCol (K j) = 0 then tf_sum (fun q => if kFl (K j) = true then Re (40 * j + q) else FP.l2d (Wh (40 * j + q))) (Ln j) else 0
theorem tot_r {K : Nat → Int32} {Ln : Nat → Nat} {Wh : Nat → Int64} {Re : Nat → UInt64} {j : Nat} (hc : kCol (K j) = 0) (h : kFl (K j) = true) : tf_sum (tc_sl (tc_rl (K j) (Ln j)) (fun i => Re (40 * j + i)) 0) (tc_rl (K j) (Ln j)) = tot K Ln Wh Re j := by
  unfold tot
  rw [if_pos hc, tc_rl_n h]
  refine tf_sum_congr _ (fun q hq => ?_)
  rw [tc_sl_in hq, if_pos h]
theorem tot_w {K : Nat → Int32} {Ln : Nat → Nat} {Wh : Nat → Int64} {Re : Nat → UInt64} {j : Nat} (hc : kCol (K j) = 0) (h : kFl (K j) = false) : tf_sum (fun q => FP.l2d (tc_sl (tc_wl (K j) (Ln j)) (fun i => Wh (40 * j + i)) 0 q)) (tc_wl (K j) (Ln j)) = tot K Ln Wh Re j := by
  unfold tot
  rw [if_pos hc, tc_wl_n h]
  refine tf_sum_congr _ (fun q hq => ?_)
  rw [tc_sl_in hq, if_neg (by rw [h]; decide)]
def mx (d x : Int64) : Int64 := d * 31 + x
def mxW (d : Int64) (f : Nat → Int64) : Nat → Int64
  | 0 => d
  | k + 1 => mx (mxW d f k) (f k)
theorem mxW_congr {d : Int64} {f g : Nat → Int64} : ∀ (N : Nat), (∀ q, q < N → f q = g q) → mxW d f N = mxW d g N
  | 0, _ => rfl
  | N + 1, h => by
    show mx (mxW d f N) (f N) = mx (mxW d g N) (g N)
    rw [mxW_congr N (fun q hq => h q (by omega)), h N (Nat.lt_succ_self N)]
/-- one column's part of the checksum -/
def mxC (K : Nat → Int32) (Ln : Nat → Nat) (Wh : Nat → Int64) (Re : Nat → UInt64) (j : Nat) (d : Int64) : Int64 :=
  mxW (mx (mx d (K j).toInt64) (tc_cl (K j) (Ln j)).toInt64) (fun q => if kFl (K j) = true then (Re (40 * j + q)).toInt64 else Wh (40 * j + q)) (Ln j)
theorem mxC_r {K : Nat → Int32} {Ln : Nat → Nat} {Wh : Nat → Int64} {Re : Nat → UInt64} {j : Nat} {d : Int64} :
    mxW (mxW (mx (mx d (K j).toInt64) (tc_cl (K j) (Ln j)).toInt64) (tc_sl (tc_wl (K j) (Ln j)) (fun i => Wh (40 * j + i)) 0) (tc_wl (K j) (Ln j))) (fun q => (tc_sl (tc_rl (K j) (Ln j)) (fun i => Re (40 * j + i)) 0 q).toInt64) (tc_rl (K j) (Ln j)) = mxC K Ln Wh Re j d := by
  unfold mxC
  cases h : kFl (K j)
  · have e1 : tc_rl (K j) (Ln j) = 0 := by unfold tc_rl; rw [if_neg (by rw [h]; decide)]
    rw [e1, tc_wl_n h]
    show mxW (mx (mx d (K j).toInt64) (tc_cl (K j) (Ln j)).toInt64) (tc_sl (Ln j) (fun i => Wh (40 * j + i)) 0) (Ln j) = _
    refine mxW_congr _ (fun q hq => ?_)
    rw [tc_sl_in hq, if_neg (by decide)]
  · have e1 : tc_wl (K j) (Ln j) = 0 := by unfold tc_wl; rw [if_pos h]
    rw [e1, tc_rl_n h]
    show mxW (mx (mx d (K j).toInt64) (tc_cl (K j) (Ln j)).toInt64) _ _ = _
    refine mxW_congr _ (fun q hq => ?_)
    rw [tc_sl_in hq, if_pos rfl]
def digC (K : Nat → Int32) (Ln : Nat → Nat) (Wh : Nat → Int64) (Re : Nat → UInt64) (d : Int64) : Nat → Int64
  | 0 => d
  | c + 1 => mxC K Ln Wh Re c (digC K Ln Wh Re d c)
def dig (n : Nat) (K : Nat → Int32) (Ln : Nat → Nat) (Wh : Nat → Int64) (Re : Nat → UInt64) (ct : Nat → Int32) : Int64 := mxW (digC K Ln Wh Re (mx 53 (nI n).toInt64) n) (fun q => (ct q).toInt64) 6
/-- copies -/
def cpC (K : Nat → Int32) (Ln : Nat → Nat) (j j2 : Nat) (fi ti mm : Int32) : Int32 :=
  if kKinds (K j) (K j2) = 0 then (if kPart fi mm (tc_cl (K j) (Ln j)) = true then (if kPart ti mm (tc_cl (K j2) (Ln j2)) = true then 0 else 3) else 3) else kKinds (K j) (K j2)
def cpW {α : Type} (K : Nat → Int32) (Ln : Nat → Nat) (Wh : Nat → α) (j j2 : Nat) (fi ti mm : Int32) : Nat → α :=
  if cpC K Ln j j2 fi ti mm = 0 then va_cpy Wh Wh (40 * j + fi.toNatClampNeg) (40 * j2 + ti.toNatClampNeg) mm.toNatClampNeg else Wh
theorem kKinds_or (a b : Int32) : kKinds a b = 0 ∨ kKinds a b = 1 ∨ kKinds a b = 5 := by
  unfold kKinds
  by_cases h1 : a = 0
  · rw [if_pos h1]; exact Or.inr (Or.inl rfl)
  · rw [if_neg h1]
    by_cases h2 : b = 0
    · rw [if_pos h2]; exact Or.inr (Or.inl rfl)
    · rw [if_neg h2]
      by_cases h3 : a = b
      · rw [if_pos h3]
        by_cases h4 : a = 9
        · rw [if_pos h4]; exact Or.inr (Or.inr rfl)
        · rw [if_neg h4]; exact Or.inl rfl
      · rw [if_neg h3]; exact Or.inr (Or.inr rfl)
theorem kKinds_0 {a b : Int32} (h : kKinds a b = 0) (hr : kIs a = true) : a = b ∧ kHas a = true := by
  unfold kKinds at h
  by_cases h1 : a = 0
  · rw [if_pos h1] at h; exact absurd h (by decide)
  · rw [if_neg h1] at h
    by_cases h2 : b = 0
    · rw [if_pos h2] at h; exact absurd h (by decide)
    · rw [if_neg h2] at h
      by_cases h3 : a = b
      · rw [if_pos h3] at h
        by_cases h4 : a = 9
        · rw [if_pos h4] at h; exact absurd h (by decide)
        · exact ⟨h3, kCol_has hr (by unfold kCol; rw [if_neg h1, if_neg h4])⟩
      · rw [if_neg h3] at h; exact absurd h (by decide)
theorem cpC_in (K : Nat → Int32) (Ln : Nat → Nat) (j j2 : Nat) (fi ti mm : Int32) : vp_in (cpC K Ln j j2 fi ti mm) 6 := by
  unfold cpC
  rcases kKinds_or (K j) (K j2) with h | h | h
  · rw [if_pos h]
    by_cases h1 : kPart fi mm (tc_cl (K j) (Ln j)) = true
    · rw [if_pos h1]
      by_cases h2 : kPart ti mm (tc_cl (K j2) (Ln j2)) = true
      · rw [if_pos h2]; unfold vp_in; decide
      · rw [if_neg h2]; unfold vp_in; decide
    · rw [if_neg h1]; unfold vp_in; decide
  · rw [if_neg (by rw [h]; decide), h]; unfold vp_in; decide
  · rw [if_neg (by rw [h]; decide), h]; unfold vp_in; decide
/-- a granted copy: its parts lie in their columns -/
theorem cpC_0 {K : Nat → Int32} {Ln : Nat → Nat} {j j2 : Nat} {fi ti mm : Int32} (hr : kIs (K j) = true) (h1 : Ln j ≤ 40) (h2 : Ln j2 ≤ 40) (h : cpC K Ln j j2 fi ti mm = 0) :
    K j = K j2 ∧ kHas (K j) = true ∧ kPart fi mm (nI (Ln j)) = true ∧ kPart ti mm (nI (Ln j2)) = true ∧ fi.toNatClampNeg + mm.toNatClampNeg ≤ Ln j ∧ ti.toNatClampNeg + mm.toNatClampNeg ≤ Ln j2 := by
  unfold cpC at h
  by_cases h3 : kKinds (K j) (K j2) = 0
  · obtain ⟨e, hh⟩ := kKinds_0 h3 hr
    rw [if_pos h3, tc_cl_has hh, tc_cl_has (e ▸ hh)] at h
    by_cases q1 : kPart fi mm (nI (Ln j)) = true
    · rw [if_pos q1] at h
      by_cases q2 : kPart ti mm (nI (Ln j2)) = true
      · exact ⟨e, hh, q1, q2, (kPart_spec q1 (by omega)).2.2, (kPart_spec q2 (by omega)).2.2⟩
      · rw [if_neg q2] at h; exact absurd h (by decide)
    · rw [if_neg q1] at h; exact absurd h (by decide)
  · rw [if_neg h3] at h; exact absurd h h3
theorem va_cpy_slice {α : Type} {f : Nat → α} {j k j2 a b m i : Nat} (hk : k ≠ j2) (hi : i < 40) (hb : b + m ≤ 40) : va_cpy f f (40 * j + a) (40 * j2 + b) m (40 * k + i) = f (40 * k + i) := pk_cpy_out (by omega)
theorem va_cpy_own {α : Type} {f : Nat → α} {z : α} {j j2 a b m L1 L2 i : Nat} (h1 : a + m ≤ L1) (hi : i < L2) : va_cpy f f (40 * j + a) (40 * j2 + b) m (40 * j2 + i) = va_cpy (tc_sl L1 (fun i => f (40 * j + i)) z) (tc_sl L2 (fun i => f (40 * j2 + i)) z) a b m i := by
  unfold va_cpy
  by_cases h : b ≤ i ∧ i < b + m
  · rw [if_pos h, if_pos (by omega), tc_sl_in (by omega)]
    congr 1
    omega
  · rw [if_neg h, if_neg (by omega), tc_sl_in hi]
theorem va_cpy_zero {α : Type} {f g : Nat → α} {z : α} {a b m i : Nat} (hf : ∀ i, f i = z) (hg : ∀ i, g i = z) : va_cpy f g a b m i = z := by
  unfold va_cpy; split
  · exact hf _
  · exact hg _
theorem tc_sl_0 {α : Type} (f : Nat → α) (z : α) (i : Nat) : tc_sl 0 f z i = z := by unfold tc_sl; rw [if_neg (Nat.not_lt_zero i)]
/-- one kind of cells of the copied-to column -/
theorem tc_cp_own {α : Type} {f : Nat → α} {z : α} {j j2 L1 L2 : Nat} {fi ti mm : Int32} (h1 : L1 ≤ 40) (h2 : L2 ≤ 40) (hp : (L1 = 0 ∧ L2 = 0) ∨ (kPart fi mm (nI L1) = true ∧ kPart ti mm (nI L2) = true)) :
    tc_sl L2 (fun i => va_cpy f f (40 * j + fi.toNatClampNeg) (40 * j2 + ti.toNatClampNeg) mm.toNatClampNeg (40 * j2 + i)) z = tc_tk (tc_sl L1 (fun i => f (40 * j + i)) z) (tc_sl L2 (fun i => f (40 * j2 + i)) z) (kPart fi mm (nI L1)) (kPart ti mm (nI L2)) fi ti mm := by
  funext i
  rcases hp with ⟨e1, e2⟩ | ⟨q1, q2⟩
  · subst e1; subst e2
    rw [tc_sl_0]
    unfold tc_tk
    split
    · exact (va_cpy_zero (tc_sl_0 _ z) (tc_sl_0 _ z)).symm
    · exact (tc_sl_0 _ z i).symm
  · unfold tc_tk
    rw [if_pos ⟨q1, q2⟩]
    have g1 := (kPart_spec q1 (by omega)).2.2
    have g2 := (kPart_spec q2 (by omega)).2.2
    by_cases hi : i < L2
    · rw [tc_sl_in hi]; exact va_cpy_own g1 hi
    · have e : tc_sl L2 (fun i => va_cpy f f (40 * j + fi.toNatClampNeg) (40 * j2 + ti.toNatClampNeg) mm.toNatClampNeg (40 * j2 + i)) z i = z := by unfold tc_sl; rw [if_neg hi]
      rw [e]
      unfold va_cpy
      rw [if_neg (by omega)]
      unfold tc_sl
      rw [if_neg hi]
section TCV
variable {cI cJ cD cC : ClassId} {h0 h1 h2 h3 h4 : Nat} {ad wd rd : Nat → Nat} {Y : va_W} {n : Nat} {K : Nat → Int32} {Ln : Nat → Nat} {Wh : Nat → Int64} {Re : Nat → UInt64} {cd : Int32} {ct : Nat → Int32}
theorem tc_T_cp {j j2 : Nat} {fi ti mm : Int32} (hj : j < n) (hj2 : j2 < n) (hr : ∀ k, k < n → kIs (K k) = true ∧ Ln k ≤ 40) (hc : cpC K Ln j j2 fi ti mm = 0) :
    ((tc_T cI cJ cD cC h0 h1 h2 h3 h4 ad wd rd Y n K Ln Wh Re cd ct).set (5 + (Y.length + (3 * j2 + 1))) (wd j2, .inl (cJ, tc_wl (K j2) (Ln j2), .inr (.inl (tc_tk (tc_sl (tc_wl (K j) (Ln j)) (fun i => Wh (40 * j + i)) 0) (tc_sl (tc_wl (K j2) (Ln j2)) (fun i => Wh (40 * j2 + i)) 0) (kPart fi mm (nI (tc_wl (K j) (Ln j)))) (kPart ti mm (nI (tc_wl (K j2) (Ln j2)))) fi ti mm))))).set
      (5 + (Y.length + (3 * j2 + 2))) (rd j2, .inl (cD, tc_rl (K j2) (Ln j2), .inr (.inr (.inr (.inl (tc_tk (tc_sl (tc_rl (K j) (Ln j)) (fun i => Re (40 * j + i)) 0) (tc_sl (tc_rl (K j2) (Ln j2)) (fun i => Re (40 * j2 + i)) 0) (kPart fi mm (nI (tc_rl (K j) (Ln j)))) (kPart ti mm (nI (tc_rl (K j2) (Ln j2)))) fi ti mm))))))
      = tc_T cI cJ cD cC h0 h1 h2 h3 h4 ad wd rd Y n K Ln (cpW K Ln Wh j j2 fi ti mm) (cpW K Ln Re j j2 fi ti mm) cd ct := by
  obtain ⟨e, hh, q1, q2, g1, g2⟩ := cpC_0 (hr j hj).1 (hr j hj).2 (hr j2 hj2).2 hc
  have hL2 := (hr j2 hj2).2
  have hL1 := (hr j hj).2
  have hwl : ∀ k, k < n → tc_wl (K k) (Ln k) ≤ 40 := fun k hk => by have := (hr k hk).2; unfold tc_wl; split <;> omega
  have hrl : ∀ k, k < n → tc_rl (K k) (Ln k) ≤ 40 := fun k hk => by have := (hr k hk).2; unfold tc_rl; split <;> omega
  have eW : cpW K Ln Wh j j2 fi ti mm = va_cpy Wh Wh (40 * j + fi.toNatClampNeg) (40 * j2 + ti.toNatClampNeg) mm.toNatClampNeg := by unfold cpW; rw [if_pos hc]
  have eR : cpW K Ln Re j j2 fi ti mm = va_cpy Re Re (40 * j + fi.toNatClampNeg) (40 * j2 + ti.toNatClampNeg) mm.toNatClampNeg := by unfold cpW; rw [if_pos hc]
  rw [eW, eR]
  have hpw : (tc_wl (K j) (Ln j) = 0 ∧ tc_wl (K j2) (Ln j2) = 0) ∨ (kPart fi mm (nI (tc_wl (K j) (Ln j))) = true ∧ kPart ti mm (nI (tc_wl (K j2) (Ln j2))) = true) := by
    cases hf : kFl (K j)
    · exact Or.inr ⟨by rw [tc_wl_n hf]; exact q1, by rw [tc_wl_n (e ▸ hf)]; exact q2⟩
    · exact Or.inl ⟨by unfold tc_wl; rw [if_pos hf], by unfold tc_wl; rw [if_pos (e ▸ hf)]⟩
  have hpr : (tc_rl (K j) (Ln j) = 0 ∧ tc_rl (K j2) (Ln j2) = 0) ∨ (kPart fi mm (nI (tc_rl (K j) (Ln j))) = true ∧ kPart ti mm (nI (tc_rl (K j2) (Ln j2))) = true) := by
    cases hf : kFl (K j)
    · exact Or.inl ⟨by unfold tc_rl; rw [if_neg (by rw [hf]; decide)], by unfold tc_rl; rw [if_neg (by rw [← e, hf]; decide)]⟩
    · exact Or.inr ⟨by rw [tc_rl_n hf]; exact q1, by rw [tc_rl_n (e ▸ hf)]; exact q2⟩
  refine Eq.trans (congrArg (fun z : va_W => z.set (5 + (Y.length + (3 * j2 + 2))) (rd j2, .inl (cD, tc_rl (K j2) (Ln j2), .inr (.inr (.inr (.inl (tc_tk (tc_sl (tc_rl (K j) (Ln j)) (fun i => Re (40 * j + i)) 0) (tc_sl (tc_rl (K j2) (Ln j2)) (fun i => Re (40 * j2 + i)) 0) (kPart fi mm (nI (tc_rl (K j) (Ln j)))) (kPart ti mm (nI (tc_rl (K j2) (Ln j2)))) fi ti mm))))))) (tc_T_set (W' := va_cpy Wh Wh (40 * j + fi.toNatClampNeg) (40 * j2 + ti.toNatClampNeg) mm.toNatClampNeg) (R' := Re) hj2 (by decide) (fun k hk hne => ?_) ?_)) (tc_T_set hj2 (by decide) (fun k hk hne => ?_) ?_)
  · unfold tc_col
    rw [tc_sl_congr (m := tc_wl (K k) (Ln k)) (f := fun i => va_cpy Wh Wh (40 * j + fi.toNatClampNeg) (40 * j2 + ti.toNatClampNeg) mm.toNatClampNeg (40 * k + i)) (g := fun i => Wh (40 * k + i)) (fun i hi => va_cpy_slice hne (by have := hwl k hk; omega) (by omega))]
  · unfold tc_col
    rw [tc_cp_own (hwl j hj) (hwl j2 hj2) hpw]
    rfl
  · unfold tc_col
    rw [tc_sl_congr (m := tc_rl (K k) (Ln k)) (f := fun i => va_cpy Re Re (40 * j + fi.toNatClampNeg) (40 * j2 + ti.toNatClampNeg) mm.toNatClampNeg (40 * k + i)) (g := fun i => Re (40 * k + i)) (fun i hi => va_cpy_slice hne (by have := hrl k hk; omega) (by omega))]
  · unfold tc_col
    rw [tc_cp_own (hrl j hj) (hrl j2 hj2) hpr]
    rfl
end TCV
end
section
/-! THE CLASS: its public methods, over the world of a state (valid calls) -/
def kNum (k : Int32) : Bool := decide (k = 2) || (!decide (k < 4) && !decide (8 < k))
theorem tc_rl_pos {k : Int32} {n i : Nat} (h : i < tc_rl k n) : kFl k = true ∧ i < n := by
  unfold tc_rl at h
  cases q : kFl k
  · rw [if_neg (by rw [q]; decide)] at h; omega
  · rw [if_pos q] at h; exact ⟨rfl, h⟩
theorem tc_wl_pos {k : Int32} {n i : Nat} (h : i < tc_wl k n) : kFl k = false ∧ i < n := by
  unfold tc_wl at h
  cases q : kFl k
  · rw [if_neg (by rw [q]; decide)] at h; exact ⟨rfl, h⟩
  · rw [if_pos q] at h; omega
set_option maxHeartbeats 4000000 in
set_option maxRecDepth 100000 in
theorem tX2_code (l : Launch) (D : va_G) (A : Nat → Prop) (cI cJ cD cC : ClassId) (h0 h1 h2 h3 h4 : Nat) (ad wd rd : Nat → Nat) (Y : va_W) (n : Nat) (K : Nat → Int32) (Ln : Nat → Nat) (Wh : Nat → Int64) (Re : Nat → UInt64) (cd : Int32) (ct : Nat → Int32) (sz : Nat) (hI : tcI n K Ln Wh Re)  : Met l yX2_code wsX2_code ({ frames := 0, cells := 0, slots := 0, locals := 0 }) (tcP D A (tcTY cI cJ cD cC) sz [.ref h0] (tc_T cI cJ cD cC h0 h1 h2 h3 h4 ad wd rd Y n K Ln Wh Re cd ct)) (vp_Si (fun r => r = cd)) 0 0 (fun _ => False) := by
  refine Met.ofW (cc := cX2_code) (maxL := 1) (ret := (some .int)) (by decide) rfl ?_
  intro p e s m args below meth c s₁ B hml hv
  obtain ⟨rfl, hsz, hP, hK, hD, hE⟩ := hv
  have hx := B.exec
  have hb := B.bytes
  have hr := B.returns
  have hts := atoms_spec (ws := wsX2_code) B.pre
  have hown : s.vm.findClass RX2 = some m.cls := findClass_of_methodNamed B.named
  have hlocks := B.notSynchronized
  have hl := lv_entry ([.ref h0]) (n := 1) (Nat.le_of_ble_eq_true rfl)
  rw [lg_entry_eq]
  generalize (lg_sl ([.ref h0]) ++ List.replicate (1 - (lg_sl ([.ref h0])).length) Slot.unset).toArray = ls at hl ⊢
  have hl : lv_has ls 1 [(0, .ref h0)] := hl
  subst hsz
  have hS : va_S A s.heap s.heap [] := va_S.rf
  refine lv_aload_n hx hb dX2_code_0 rfl (lv_at hl 0 rfl) ?_
  refine va_get (D := D) (ci := 2) (fs := [.ref h1, .ref h2, .ref h3, .int (nI n), .int cd]) (v := .int cd) (C := RX2) (T := TX2) (N := 5) hx hb hts (by decide +kernel) hown hK hP 0 rfl rfl 4 (by decide) (hts (.fieldLink RX2 30 "TypedColumns" "latestCode" "I") (by decide +kernel)) (fun _ h9 => h9) rfl dX2_code_1 ?_
  exact W.iret (v := cd) hx hb hr (fun t9 ht9 hW9 => ⟨cd, rfl, rfl, ht9⟩) (fun q hq => absurd hq List.not_mem_nil) dX2_code_4
set_option maxHeartbeats 4000000 in
set_option maxRecDepth 100000 in
theorem tX2_columnCount (l : Launch) (D : va_G) (A : Nat → Prop) (cI cJ cD cC : ClassId) (h0 h1 h2 h3 h4 : Nat) (ad wd rd : Nat → Nat) (Y : va_W) (n : Nat) (K : Nat → Int32) (Ln : Nat → Nat) (Wh : Nat → Int64) (Re : Nat → UInt64) (cd : Int32) (ct : Nat → Int32) (sz : Nat) (hI : tcI n K Ln Wh Re)  : Met l yX2_columnCount wsX2_columnCount ({ frames := 0, cells := 0, slots := 0, locals := 0 }) (tcP D A (tcTY cI cJ cD cC) sz [.ref h0] (tc_T cI cJ cD cC h0 h1 h2 h3 h4 ad wd rd Y n K Ln Wh Re cd ct)) (vp_Si (fun r => r = nI n)) 0 0 (fun _ => False) := by
  refine Met.ofW (cc := cX2_columnCount) (maxL := 1) (ret := (some .int)) (by decide) rfl ?_
  intro p e s m args below meth c s₁ B hml hv
  obtain ⟨rfl, hsz, hP, hK, hD, hE⟩ := hv
  have hx := B.exec
  have hb := B.bytes
  have hr := B.returns
  have hts := atoms_spec (ws := wsX2_columnCount) B.pre
  have hown : s.vm.findClass RX2 = some m.cls := findClass_of_methodNamed B.named
  have hlocks := B.notSynchronized
  have hl := lv_entry ([.ref h0]) (n := 1) (Nat.le_of_ble_eq_true rfl)
  rw [lg_entry_eq]
  generalize (lg_sl ([.ref h0]) ++ List.replicate (1 - (lg_sl ([.ref h0])).length) Slot.unset).toArray = ls at hl ⊢
  have hl : lv_has ls 1 [(0, .ref h0)] := hl
  subst hsz
  have hS : va_S A s.heap s.heap [] := va_S.rf
  refine lv_aload_n hx hb dX2_columnCount_0 rfl (lv_at hl 0 rfl) ?_
  refine va_get (D := D) (ci := 2) (fs := [.ref h1, .ref h2, .ref h3, .int (nI n), .int cd]) (v := .int (nI n)) (C := RX2) (T := TX2) (N := 5) hx hb hts (by decide +kernel) hown hK hP 0 rfl rfl 3 (by decide) (hts (.fieldLink RX2 26 "TypedColumns" "created" "I") (by decide +kernel)) (fun _ h9 => h9) rfl dX2_columnCount_1 ?_
  exact W.iret (v := (nI n)) hx hb hr (fun t9 ht9 hW9 => ⟨(nI n), rfl, rfl, ht9⟩) (fun q hq => absurd hq List.not_mem_nil) dX2_columnCount_4
set_option maxHeartbeats 4000000 in
set_option maxRecDepth 100000 in
theorem tX2_count (l : Launch) (D : va_G) (A : Nat → Prop) (cI cJ cD cC : ClassId) (h0 h1 h2 h3 h4 : Nat) (ad wd rd : Nat → Nat) (Y : va_W) (n : Nat) (K : Nat → Int32) (Ln : Nat → Nat) (Wh : Nat → Int64) (Re : Nat → UInt64) (cd : Int32) (ct : Nat → Int32) (sz : Nat) (hI : tcI n K Ln Wh Re) (cx : Int32) (hk : vp_in cx 6) : Met l yX2_count wsX2_count ({ frames := 0, cells := 0, slots := 0, locals := 0 }) (tcP D A (tcTY cI cJ cD cC) sz [.ref h0, .int cx] (tc_T cI cJ cD cC h0 h1 h2 h3 h4 ad wd rd Y n K Ln Wh Re cd ct)) (vp_Si (fun r => r = ct cx.toNatClampNeg)) 0 0 (fun _ => False) := by
  refine Met.ofW (cc := cX2_count) (maxL := 2) (ret := (some .int)) (by decide) rfl ?_
  intro p e s m args below meth c s₁ B hml hv
  obtain ⟨rfl, hsz, hP, hK, hD, hE⟩ := hv
  have hx := B.exec
  have hb := B.bytes
  have hr := B.returns
  have hts := atoms_spec (ws := wsX2_count) B.pre
  have hown : s.vm.findClass RX2 = some m.cls := findClass_of_methodNamed B.named
  have hlocks := B.notSynchronized
  have hl := lv_entry ([.ref h0, .int cx]) (n := 2) (Nat.le_of_ble_eq_true rfl)
  rw [lg_entry_eq]
  generalize (lg_sl ([.ref h0, .int cx]) ++ List.replicate (2 - (lg_sl ([.ref h0, .int cx])).length) Slot.unset).toArray = ls at hl ⊢
  have hl : lv_has ls 2 [(0, .ref h0), (1, .int cx)] := hl
  subst hsz
  have hS : va_S A s.heap s.heap [] := va_S.rf
  refine lv_iload_n hx hb dX2_count_0 rfl (lv_at hl 1 rfl) ?_
  refine lv_if_lt (tgt := 13) hx hb dX2_count_1 (by decide) (fun q => absurd q (vp_in_lo hk)) (fun _ => ?_)
  refine lv_iload_n hx hb dX2_count_4 rfl (lv_at hl 1 rfl) ?_
  refine lv_aload_n hx hb dX2_count_5 rfl (lv_at hl 0 rfl) ?_
  refine va_get (D := D) (ci := 2) (fs := [.ref h1, .ref h2, .ref h3, .int (nI n), .int cd]) (v := .ref h2) (C := RX2) (T := TX2) (N := 5) hx hb hts (by decide +kernel) hown hK hP 0 rfl rfl 1 (by decide) (hts (.fieldLink RX2 15 "TypedColumns" "counts" "[I") (by decide +kernel)) (fun _ h9 => h9) rfl dX2_count_6 ?_
  refine va_alen (v := 6) hx hb hK hP 2 0 rfl rfl rfl dX2_count_9 ?_
  refine lv_icmp_lt (tgt := 23) hx hb dX2_count_10 (by decide) (fun _ => ?_) (fun q => absurd (Int32.not_le.mp (vp_in_hi hk (by decide))) q)
  refine lv_aload_n hx hb dX2_count_23 rfl (lv_at hl 0 rfl) ?_
  refine va_get (D := D) (ci := 2) (fs := [.ref h1, .ref h2, .ref h3, .int (nI n), .int cd]) (v := .ref h2) (C := RX2) (T := TX2) (N := 5) hx hb hts (by decide +kernel) hown hK hP 0 rfl rfl 1 (by decide) (hts (.fieldLink RX2 15 "TypedColumns" "counts" "[I") (by decide +kernel)) (fun _ h9 => h9) rfl dX2_count_24 ?_
  refine lv_iload_n hx hb dX2_count_27 rfl (lv_at hl 1 rfl) ?_
  refine tc_iald (f := ct) (v := (ct cx.toNatClampNeg)) hx hb hK hP 2 0 rfl rfl (hk) rfl dX2_count_28 ?_
  exact W.iret (v := (ct cx.toNatClampNeg)) hx hb hr (fun t9 ht9 hW9 => ⟨(ct cx.toNatClampNeg), rfl, rfl, ht9⟩) (fun q hq => absurd hq List.not_mem_nil) dX2_count_29
set_option maxHeartbeats 4000000 in
set_option maxRecDepth 100000 in
theorem tX2_readAny (l : Launch) (D : va_G) (A : Nat → Prop) (cI cJ cD cC : ClassId) (h0 h1 h2 h3 h4 : Nat) (ad wd rd : Nat → Nat) (Y : va_W) (n : Nat) (K : Nat → Int32) (Ln : Nat → Nat) (Wh : Nat → Int64) (Re : Nat → UInt64) (cd : Int32) (ct : Nat → Int32) (sz : Nat) (hI : tcI n K Ln Wh Re) (j : Nat) (hj : j < n) (i : Int32) : Met l yX2_readAny wsX2_readAny ({ frames := 4, cells := 0, slots := 0, locals := 89 }) (tcP D A (tcTY cI cJ cD cC) sz [.ref h0, .int (nI j), .int i] (tc_T cI cJ cD cC h0 h1 h2 h3 h4 ad wd rd Y n K Ln Wh Re cd ct)) (va_Qd (fun r (_ : Unit) => r = rdR K Ln Wh Re j i (K j)) (fun _ t => tcB D A (tc_T cI cJ cD cC h0 h1 h2 h3 h4 ad wd rd Y n K Ln Wh Re (cdR K Ln j i (K j) (K j)) (noteC ct (cdR K Ln j i (K j) (K j)))) t) A) 0 0 A := by
  refine Met.ofW (cc := cX2_readAny) (maxL := 4) (ret := (some .double)) (by decide) rfl ?_
  intro p e s m args below meth c s₁ B hml hv
  obtain ⟨rfl, hsz, hP, hK, hD, hE⟩ := hv
  have hx := B.exec
  have hb := B.bytes
  have hr := B.returns
  have hts := atoms_spec (ws := wsX2_readAny) B.pre
  have hown : s.vm.findClass RX2 = some m.cls := findClass_of_methodNamed B.named
  have hlocks := B.notSynchronized
  have hl := lv_entry ([.ref h0, .int (nI j), .int i]) (n := 4) (Nat.le_of_ble_eq_true rfl)
  rw [lg_entry_eq]
  generalize (lg_sl ([.ref h0, .int (nI j), .int i]) ++ List.replicate (4 - (lg_sl ([.ref h0, .int (nI j), .int i])).length) Slot.unset).toArray = ls at hl ⊢
  have hl : lv_has ls 4 [(0, .ref h0), (1, .int (nI j)), (2, .int i)] := hl
  subst hsz
  have hS : va_S A s.heap s.heap [] := va_S.rf
  refine lv_aload_n hx hb dX2_readAny_0 rfl (lv_at hl 0 rfl) ?_
  refine lv_iload_n hx hb dX2_readAny_1 rfl (lv_at hl 1 rfl) ?_
  refine va_csr (tc_CR (va_runV (As := [.int (nI j)]) (rest := []) ⟨hx, hb, hml, hown, hts⟩ (tX2_columnAt l D A cI cJ cD cC h0 h1 h2 h3 h4 ad wd rd Y n K Ln Wh Re cd ct s.heap.size hI.1 j hj) (cwV 1 hts gX2_readAny_X2_columnAt rfl rfl rfl (by decide +kernel) ⟨Nat.le_of_ble_eq_true rfl, Nat.le_of_ble_eq_true rfl⟩) ⟨tcP.blind, va_recv hK hP (ci := 2) (q0 := 0) rfl rfl, tcP.go hK hP hD hE hS⟩ rfl rfl hl.1 rfl (lv_room (Nat.le_of_ble_eq_true rfl)) dX2_readAny_2 ⟨Nat.le_of_ble_eq_true rfl, Nat.le_of_ble_eq_true rfl⟩)) (fun _ _ => ?_)
  refine lv_astore_n (lv' := [(3, .ref (ad j)), (0, .ref h0), (1, .int (nI j)), (2, .int i)]) hx hb dX2_readAny_5 rfl hl (by decide) rfl (fun ls hl => ?_)
  refine lv_aload_n hx hb dX2_readAny_6 rfl (lv_at hl 1 rfl) ?_
  refine lv_aload_n hx hb dX2_readAny_7 rfl (lv_at hl 0 rfl) ?_
  refine lv_iload_n hx hb dX2_readAny_8 rfl (lv_at hl 3 rfl) ?_
  refine lv_aload_n hx hb dX2_readAny_9 rfl (lv_at hl 0 rfl) ?_
  refine va_get (D := D) (ci := 0) (fs := [.int (K j), .int (tc_cl (K j) (Ln j)), .ref (wd j), .ref (rd j)]) (v := .int (K j)) (C := RX0) (T := TX0) (N := 4) hx hb hts (by decide +kernel) hown hK hP (5 + (Y.length + (3 * j + 0))) (tc_T0 hj) rfl 0 (by decide) (hts (.fieldLink RX2 66 "TypedColumns$Column" "kind" "I") (by decide +kernel)) (fun _ h9 => h9) rfl dX2_readAny_10 ?_
  refine va_calld (va_runV (As := [.ref (ad j), .int i, .int (K j)]) (rest := []) ⟨hx, hb, hml, hown, hts⟩ (tX2_readReal l D A cI cJ cD cC h0 h1 h2 h3 h4 ad wd rd Y n K Ln Wh Re cd ct s.heap.size hI j hj i (K j)) (cwV 3 hts gX2_readAny_X2_readReal rfl rfl rfl (by decide +kernel) ⟨Nat.le_of_ble_eq_true rfl, Nat.le_of_ble_eq_true rfl⟩) ⟨tcP.blind, (va_recv hK hP (ci := 2) (q0 := 0) rfl rfl), (tcP.go hK hP hD hE hS)⟩ rfl rfl hl.1 rfl (lv_room (Nat.le_of_ble_eq_true rfl)) dX2_readAny_13 ⟨Nat.le_of_ble_eq_true rfl, Nat.le_of_ble_eq_true rfl⟩) hS (fun q _ h => h) (fun q h => h) (fun r_1 u t H locs ht hvm hw hB hz1 hk1 hS => ?_)
  subst hw
  obtain ⟨hP, hD⟩ := hB
  rw [ht] at hP
  exact W.dret (v := (rdR K Ln Wh Re j i (K j))) hx hb hr (fun t9 ht9 hW9 => ⟨⟨(rdR K Ln Wh Re j i (K j)), (), rfl, rfl, by rw [ht9]; exact hP, hD⟩, hS.F ht9⟩) hS.2.2 dX2_readAny_16
set_option maxHeartbeats 4000000 in
set_option maxRecDepth 100000 in
theorem tX2_writeAny_f (l : Launch) (D : va_G) (A : Nat → Prop) (cI cJ cD cC : ClassId) (h0 h1 h2 h3 h4 : Nat) (ad wd rd : Nat → Nat) (Y : va_W) (n : Nat) (K : Nat → Int32) (Ln : Nat → Nat) (Wh : Nat → Int64) (Re : Nat → UInt64) (cd : Int32) (ct : Nat → Int32) (sz : Nat) (hI : tcI n K Ln Wh Re) (j : Nat) (hj : j < n) (i kd v : Int32) (hk : kHas kd = true) (h7 : kd = 7) : Met l yX2_writeAny wsX2_writeAny ({ frames := 4, cells := 0, slots := 0, locals := 91 }) (tcP D A (tcTY cI cJ cD cC) sz [.ref h0, .int (nI j), .int i, .int kd, .int v] (tc_T cI cJ cD cC h0 h1 h2 h3 h4 ad wd rd Y n K Ln Wh Re cd ct)) (va_Qi (fun r (_ : Unit) => r = cdR K Ln j i kd (K j)) (fun _ t => tcB D A (tc_T cI cJ cD cC h0 h1 h2 h3 h4 ad wd rd Y n K Ln Wh (wrX K Ln Re j i kd (FP.f2d (FP.i2f v))) (cdR K Ln j i kd (K j)) (noteC ct (cdR K Ln j i kd (K j)))) t) A) 0 0 A := by
  refine Met.ofW (cc := cX2_writeAny) (maxL := 6) (ret := (some .int)) (by decide) rfl ?_
  intro p e s m args below meth c s₁ B hml hv
  obtain ⟨rfl, hsz, hP, hK, hD, hE⟩ := hv
  have hx := B.exec
  have hb := B.bytes
  have hr := B.returns
  have hts := atoms_spec (ws := wsX2_writeAny) B.pre
  have hown : s.vm.findClass RX2 = some m.cls := findClass_of_methodNamed B.named
  have hlocks := B.notSynchronized
  have hl := lv_entry ([.ref h0, .int (nI j), .int i, .int kd, .int v]) (n := 6) (Nat.le_of_ble_eq_true rfl)
  rw [lg_entry_eq]
  generalize (lg_sl ([.ref h0, .int (nI j), .int i, .int kd, .int v]) ++ List.replicate (6 - (lg_sl ([.ref h0, .int (nI j), .int i, .int kd, .int v])).length) Slot.unset).toArray = ls at hl ⊢
  have hl : lv_has ls 6 [(0, .ref h0), (1, .int (nI j)), (2, .int i), (3, .int kd), (4, .int v)] := hl
  subst hsz
  have hS : va_S A s.heap s.heap [] := va_S.rf
  refine lv_aload_n hx hb dX2_writeAny_0 rfl (lv_at hl 0 rfl) ?_
  refine lv_iload_n hx hb dX2_writeAny_1 rfl (lv_at hl 1 rfl) ?_
  refine va_csr (tc_CR (va_runV (As := [.int (nI j)]) (rest := []) ⟨hx, hb, hml, hown, hts⟩ (tX2_columnAt l D A cI cJ cD cC h0 h1 h2 h3 h4 ad wd rd Y n K Ln Wh Re cd ct s.heap.size hI.1 j hj) (cwV 1 hts gX2_writeAny_X2_columnAt rfl rfl rfl (by decide +kernel) ⟨Nat.le_of_ble_eq_true rfl, Nat.le_of_ble_eq_true rfl⟩) ⟨tcP.blind, va_recv hK hP (ci := 2) (q0 := 0) rfl rfl, tcP.go hK hP hD hE hS⟩ rfl rfl hl.1 rfl (lv_room (Nat.le_of_ble_eq_true rfl)) dX2_writeAny_2 ⟨Nat.le_of_ble_eq_true rfl, Nat.le_of_ble_eq_true rfl⟩)) (fun _ _ => ?_)
  refine lv_astore (lv' := [(5, .ref (ad j)), (0, .ref h0), (1, .int (nI j)), (2, .int i), (3, .int kd), (4, .int v)]) hx hb dX2_writeAny_5 hl (by decide) rfl (fun ls hl => ?_)
  refine lv_iload_n hx hb dX2_writeAny_7 rfl (lv_at hl 4 rfl) ?_
  refine va_csv (tc_CR (va_runS (As := [.int kd]) (rest := []) ⟨hx, hb, hml, hown, hts⟩ (tX2_refuseWithoutCells l D A cI cJ cD cC h0 h1 h2 h3 h4 ad wd rd Y n K Ln Wh Re cd ct s.heap.size kd hk) (va_cwS 1 hts gX2_writeAny_X2_refuseWithoutCells rfl rfl rfl (by decide +kernel) ⟨Nat.le_of_ble_eq_true rfl, Nat.le_of_ble_eq_true rfl⟩) ⟨tcP.blind, (tcP.go hK hP hD hE hS)⟩ rfl rfl hl.1 rfl (lv_room (Nat.le_of_ble_eq_true rfl)) dX2_writeAny_8 ⟨Nat.le_of_ble_eq_true rfl, Nat.le_of_ble_eq_true rfl⟩)) (fun _ => ?_)
  refine lv_iload_n hx hb dX2_writeAny_11 rfl (lv_at hl 4 rfl) ?_
  refine lv_bipush (v := 7) hx hb dX2_writeAny_12 (by decide) ?_
  refine lv_icmp_ne (tgt := 30) hx hb dX2_writeAny_14 (by decide) (fun q => absurd (h7) q) (fun _ => ?_)
  refine lv_aload_n hx hb dX2_writeAny_17 rfl (lv_at hl 1 rfl) ?_
  refine lv_aload hx hb dX2_writeAny_18 (lv_at hl 0 rfl) ?_
  refine lv_iload_n hx hb dX2_writeAny_20 rfl (lv_at hl 3 rfl) ?_
  refine lv_iload_n hx hb dX2_writeAny_21 rfl (lv_at hl 4 rfl) ?_
  refine lv_iload hx hb dX2_writeAny_22 (lv_at hl 5 rfl) ?_
  refine lv_i2f hx hb dX2_writeAny_24 ?_
  refine lv_f2d hx hb dX2_writeAny_25 ((tf_n64 _).mpr (tf_f2d (tf_i2f _))) ?_
  refine va_calli (va_runV (As := [.ref (ad j), .int i, .int kd, .double (FP.f2d (FP.i2f v))]) (rest := []) ⟨hx, hb, hml, hown, hts⟩ (tX2_writeReal l D A cI cJ cD cC h0 h1 h2 h3 h4 ad wd rd Y n K Ln Wh Re cd ct s.heap.size hI j hj i kd (FP.f2d (FP.i2f v)) (by rw [h7]; decide)) (cwV 4 hts gX2_writeAny_X2_writeReal rfl rfl rfl (by decide +kernel) ⟨Nat.le_of_ble_eq_true rfl, Nat.le_of_ble_eq_true rfl⟩) ⟨tcP.blind, (va_recv hK hP (ci := 2) (q0 := 0) rfl rfl), (tcP.go hK hP hD hE hS)⟩ rfl rfl hl.1 rfl (lv_room (Nat.le_of_ble_eq_true rfl)) dX2_writeAny_26 ⟨Nat.le_of_ble_eq_true rfl, Nat.le_of_ble_eq_true rfl⟩) hS (fun q _ h => h) (fun q h => h) (fun r_2 u t H locs ht hvm hw hB hz1 hk1 hS => ?_)
  subst hw
  obtain ⟨hP, hD⟩ := hB
  rw [ht] at hP
  exact W.iret (v := (cdR K Ln j i kd (K j))) hx hb hr (fun t9 ht9 hW9 => ⟨⟨(cdR K Ln j i kd (K j)), (), rfl, rfl, by rw [ht9]; exact hP, hD⟩, hS.F ht9⟩) hS.2.2 dX2_writeAny_29
set_option maxHeartbeats 4000000 in
set_option maxRecDepth 100000 in
theorem tX2_writeAny_d (l : Launch) (D : va_G) (A : Nat → Prop) (cI cJ cD cC : ClassId) (h0 h1 h2 h3 h4 : Nat) (ad wd rd : Nat → Nat) (Y : va_W) (n : Nat) (K : Nat → Int32) (Ln : Nat → Nat) (Wh : Nat → Int64) (Re : Nat → UInt64) (cd : Int32) (ct : Nat → Int32) (sz : Nat) (hI : tcI n K Ln Wh Re) (j : Nat) (hj : j < n) (i kd v : Int32) (hk : kHas kd = true) (h8 : kd = 8) : Met l yX2_writeAny wsX2_writeAny ({ frames := 4, cells := 0, slots := 0, locals := 91 }) (tcP D A (tcTY cI cJ cD cC) sz [.ref h0, .int (nI j), .int i, .int kd, .int v] (tc_T cI cJ cD cC h0 h1 h2 h3 h4 ad wd rd Y n K Ln Wh Re cd ct)) (va_Qi (fun r (_ : Unit) => r = cdR K Ln j i kd (K j)) (fun _ t => tcB D A (tc_T cI cJ cD cC h0 h1 h2 h3 h4 ad wd rd Y n K Ln Wh (wrX K Ln Re j i kd (FP.i2d v)) (cdR K Ln j i kd (K j)) (noteC ct (cdR K Ln j i kd (K j)))) t) A) 0 0 A := by
  refine Met.ofW (cc := cX2_writeAny) (maxL := 6) (ret := (some .int)) (by decide) rfl ?_
  intro p e s m args below meth c s₁ B hml hv
  obtain ⟨rfl, hsz, hP, hK, hD, hE⟩ := hv
  have hx := B.exec
  have hb := B.bytes
  have hr := B.returns
  have hts := atoms_spec (ws := wsX2_writeAny) B.pre
  have hown : s.vm.findClass RX2 = some m.cls := findClass_of_methodNamed B.named
  have hlocks := B.notSynchronized
  have hl := lv_entry ([.ref h0, .int (nI j), .int i, .int kd, .int v]) (n := 6) (Nat.le_of_ble_eq_true rfl)
  rw [lg_entry_eq]
  generalize (lg_sl ([.ref h0, .int (nI j), .int i, .int kd, .int v]) ++ List.replicate (6 - (lg_sl ([.ref h0, .int (nI j), .int i, .int kd, .int v])).length) Slot.unset).toArray = ls at hl ⊢
  have hl : lv_has ls 6 [(0, .ref h0), (1, .int (nI j)), (2, .int i), (3, .int kd), (4, .int v)] := hl
  subst hsz
  have hS : va_S A s.heap s.heap [] := va_S.rf
  refine lv_aload_n hx hb dX2_writeAny_0 rfl (lv_at hl 0 rfl) ?_
  refine lv_iload_n hx hb dX2_writeAny_1 rfl (lv_at hl 1 rfl) ?_
  refine va_csr (tc_CR (va_runV (As := [.int (nI j)]) (rest := []) ⟨hx, hb, hml, hown, hts⟩ (tX2_columnAt l D A cI cJ cD cC h0 h1 h2 h3 h4 ad wd rd Y n K Ln Wh Re cd ct s.heap.size hI.1 j hj) (cwV 1 hts gX2_writeAny_X2_columnAt rfl rfl rfl (by decide +kernel) ⟨Nat.le_of_ble_eq_true rfl, Nat.le_of_ble_eq_true rfl⟩) ⟨tcP.blind, va_recv hK hP (ci := 2) (q0 := 0) rfl rfl, tcP.go hK hP hD hE hS⟩ rfl rfl hl.1 rfl (lv_room (Nat.le_of_ble_eq_true rfl)) dX2_writeAny_2 ⟨Nat.le_of_ble_eq_true rfl, Nat.le_of_ble_eq_true rfl⟩)) (fun _ _ => ?_)
  refine lv_astore (lv' := [(5, .ref (ad j)), (0, .ref h0), (1, .int (nI j)), (2, .int i), (3, .int kd), (4, .int v)]) hx hb dX2_writeAny_5 hl (by decide) rfl (fun ls hl => ?_)
  refine lv_iload_n hx hb dX2_writeAny_7 rfl (lv_at hl 4 rfl) ?_
  refine va_csv (tc_CR (va_runS (As := [.int kd]) (rest := []) ⟨hx, hb, hml, hown, hts⟩ (tX2_refuseWithoutCells l D A cI cJ cD cC h0 h1 h2 h3 h4 ad wd rd Y n K Ln Wh Re cd ct s.heap.size kd hk) (va_cwS 1 hts gX2_writeAny_X2_refuseWithoutCells rfl rfl rfl (by decide +kernel) ⟨Nat.le_of_ble_eq_true rfl, Nat.le_of_ble_eq_true rfl⟩) ⟨tcP.blind, (tcP.go hK hP hD hE hS)⟩ rfl rfl hl.1 rfl (lv_room (Nat.le_of_ble_eq_true rfl)) dX2_writeAny_8 ⟨Nat.le_of_ble_eq_true rfl, Nat.le_of_ble_eq_true rfl⟩)) (fun _ => ?_)
  refine lv_iload_n hx hb dX2_writeAny_11 rfl (lv_at hl 4 rfl) ?_
  refine lv_bipush (v := 7) hx hb dX2_writeAny_12 (by decide) ?_
  refine lv_icmp_ne (tgt := 30) hx hb dX2_writeAny_14 (by decide) (fun _ => ?_) (fun q => absurd q (by rw [h8]; decide))
  refine lv_iload_n hx hb dX2_writeAny_30 rfl (lv_at hl 4 rfl) ?_
  refine lv_bipush (v := 8) hx hb dX2_writeAny_31 (by decide) ?_
  refine lv_icmp_ne (tgt := 48) hx hb dX2_writeAny_33 (by decide) (fun q => absurd (h8) q) (fun _ => ?_)
  refine lv_aload_n hx hb dX2_writeAny_36 rfl (lv_at hl 1 rfl) ?_
  refine lv_aload hx hb dX2_writeAny_37 (lv_at hl 0 rfl) ?_
  refine lv_iload_n hx hb dX2_writeAny_39 rfl (lv_at hl 3 rfl) ?_
  refine lv_iload_n hx hb dX2_writeAny_40 rfl (lv_at hl 4 rfl) ?_
  refine lv_iload hx hb dX2_writeAny_41 (lv_at hl 5 rfl) ?_
  refine lv_i2d hx hb dX2_writeAny_43 ?_
  refine va_calli (va_runV (As := [.ref (ad j), .int i, .int kd, .double (FP.i2d v)]) (rest := []) ⟨hx, hb, hml, hown, hts⟩ (tX2_writeReal l D A cI cJ cD cC h0 h1 h2 h3 h4 ad wd rd Y n K Ln Wh Re cd ct s.heap.size hI j hj i kd (FP.i2d v) (by rw [h8]; decide)) (cwV 4 hts gX2_writeAny_X2_writeReal rfl rfl rfl (by decide +kernel) ⟨Nat.le_of_ble_eq_true rfl, Nat.le_of_ble_eq_true rfl⟩) ⟨tcP.blind, (va_recv hK hP (ci := 2) (q0 := 0) rfl rfl), (tcP.go hK hP hD hE hS)⟩ rfl rfl hl.1 rfl (lv_room (Nat.le_of_ble_eq_true rfl)) dX2_writeAny_44 ⟨Nat.le_of_ble_eq_true rfl, Nat.le_of_ble_eq_true rfl⟩) hS (fun q _ h => h) (fun q h => h) (fun r_3 u t H locs ht hvm hw hB hz1 hk1 hS => ?_)
  subst hw
  obtain ⟨hP, hD⟩ := hB
  rw [ht] at hP
  exact W.iret (v := (cdR K Ln j i kd (K j))) hx hb hr (fun t9 ht9 hW9 => ⟨⟨(cdR K Ln j i kd (K j)), (), rfl, rfl, by rw [ht9]; exact hP, hD⟩, hS.F ht9⟩) hS.2.2 dX2_writeAny_47
set_option maxHeartbeats 4000000 in
set_option maxRecDepth 100000 in
theorem tX2_writeAny_w (l : Launch) (D : va_G) (A : Nat → Prop) (cI cJ cD cC : ClassId) (h0 h1 h2 h3 h4 : Nat) (ad wd rd : Nat → Nat) (Y : va_W) (n : Nat) (K : Nat → Int32) (Ln : Nat → Nat) (Wh : Nat → Int64) (Re : Nat → UInt64) (cd : Int32) (ct : Nat → Int32) (sz : Nat) (hI : tcI n K Ln Wh Re) (j : Nat) (hj : j < n) (i kd v : Int32) (hk : kHas kd = true) (hf : kFl kd = false) : Met l yX2_writeAny wsX2_writeAny ({ frames := 4, cells := 0, slots := 0, locals := 91 }) (tcP D A (tcTY cI cJ cD cC) sz [.ref h0, .int (nI j), .int i, .int kd, .int v] (tc_T cI cJ cD cC h0 h1 h2 h3 h4 ad wd rd Y n K Ln Wh Re cd ct)) (va_Qi (fun r (_ : Unit) => r = cdR K Ln j i kd (K j)) (fun _ t => tcB D A (tc_T cI cJ cD cC h0 h1 h2 h3 h4 ad wd rd Y n K Ln (wrW K Ln Wh j i kd (kMade v kd)) (wrR K Ln Re j i kd (kMade v kd)) (cdR K Ln j i kd (K j)) (noteC ct (cdR K Ln j i kd (K j)))) t) A) 0 0 A := by
  refine Met.ofW (cc := cX2_writeAny) (maxL := 6) (ret := (some .int)) (by decide) rfl ?_
  intro p e s m args below meth c s₁ B hml hv
  obtain ⟨rfl, hsz, hP, hK, hD, hE⟩ := hv
  have hx := B.exec
  have hb := B.bytes
  have hr := B.returns
  have hts := atoms_spec (ws := wsX2_writeAny) B.pre
  have hown : s.vm.findClass RX2 = some m.cls := findClass_of_methodNamed B.named
  have hlocks := B.notSynchronized
  have hl := lv_entry ([.ref h0, .int (nI j), .int i, .int kd, .int v]) (n := 6) (Nat.le_of_ble_eq_true rfl)
  rw [lg_entry_eq]
  generalize (lg_sl ([.ref h0, .int (nI j), .int i, .int kd, .int v]) ++ List.replicate (6 - (lg_sl ([.ref h0, .int (nI j), .int i, .int kd, .int v])).length) Slot.unset).toArray = ls at hl ⊢
  have hl : lv_has ls 6 [(0, .ref h0), (1, .int (nI j)), (2, .int i), (3, .int kd), (4, .int v)] := hl
  subst hsz
  have hS : va_S A s.heap s.heap [] := va_S.rf
  refine lv_aload_n hx hb dX2_writeAny_0 rfl (lv_at hl 0 rfl) ?_
  refine lv_iload_n hx hb dX2_writeAny_1 rfl (lv_at hl 1 rfl) ?_
  refine va_csr (tc_CR (va_runV (As := [.int (nI j)]) (rest := []) ⟨hx, hb, hml, hown, hts⟩ (tX2_columnAt l D A cI cJ cD cC h0 h1 h2 h3 h4 ad wd rd Y n K Ln Wh Re cd ct s.heap.size hI.1 j hj) (cwV 1 hts gX2_writeAny_X2_columnAt rfl rfl rfl (by decide +kernel) ⟨Nat.le_of_ble_eq_true rfl, Nat.le_of_ble_eq_true rfl⟩) ⟨tcP.blind, va_recv hK hP (ci := 2) (q0 := 0) rfl rfl, tcP.go hK hP hD hE hS⟩ rfl rfl hl.1 rfl (lv_room (Nat.le_of_ble_eq_true rfl)) dX2_writeAny_2 ⟨Nat.le_of_ble_eq_true rfl, Nat.le_of_ble_eq_true rfl⟩)) (fun _ _ => ?_)
  refine lv_astore (lv' := [(5, .ref (ad j)), (0, .ref h0), (1, .int (nI j)), (2, .int i), (3, .int kd), (4, .int v)]) hx hb dX2_writeAny_5 hl (by decide) rfl (fun ls hl => ?_)
  refine lv_iload_n hx hb dX2_writeAny_7 rfl (lv_at hl 4 rfl) ?_
  refine va_csv (tc_CR (va_runS (As := [.int kd]) (rest := []) ⟨hx, hb, hml, hown, hts⟩ (tX2_refuseWithoutCells l D A cI cJ cD cC h0 h1 h2 h3 h4 ad wd rd Y n K Ln Wh Re cd ct s.heap.size kd hk) (va_cwS 1 hts gX2_writeAny_X2_refuseWithoutCells rfl rfl rfl (by decide +kernel) ⟨Nat.le_of_ble_eq_true rfl, Nat.le_of_ble_eq_true rfl⟩) ⟨tcP.blind, (tcP.go hK hP hD hE hS)⟩ rfl rfl hl.1 rfl (lv_room (Nat.le_of_ble_eq_true rfl)) dX2_writeAny_8 ⟨Nat.le_of_ble_eq_true rfl, Nat.le_of_ble_eq_true rfl⟩)) (fun _ => ?_)
  refine lv_iload_n hx hb dX2_writeAny_11 rfl (lv_at hl 4 rfl) ?_
  refine lv_bipush (v := 7) hx hb dX2_writeAny_12 (by decide) ?_
  refine lv_icmp_ne (tgt := 30) hx hb dX2_writeAny_14 (by decide) (fun _ => ?_) (fun q => absurd q ((kFl_no hf).1))
  refine lv_iload_n hx hb dX2_writeAny_30 rfl (lv_at hl 4 rfl) ?_
  refine lv_bipush (v := 8) hx hb dX2_writeAny_31 (by decide) ?_
  refine lv_icmp_ne (tgt := 48) hx hb dX2_writeAny_33 (by decide) (fun _ => ?_) (fun q => absurd q ((kFl_no hf).2))
  refine lv_aload_n hx hb dX2_writeAny_48 rfl (lv_at hl 1 rfl) ?_
  refine lv_aload hx hb dX2_writeAny_49 (lv_at hl 0 rfl) ?_
  refine lv_iload_n hx hb dX2_writeAny_51 rfl (lv_at hl 3 rfl) ?_
  refine lv_iload_n hx hb dX2_writeAny_52 rfl (lv_at hl 4 rfl) ?_
  refine lv_iload hx hb dX2_writeAny_53 (lv_at hl 5 rfl) ?_
  refine lv_iload_n hx hb dX2_writeAny_55 rfl (lv_at hl 4 rfl) ?_
  refine vp_callSl (W.runS (As := [.int v, .int kd]) (rest := [.int kd, .int i, .ref (ad j), .ref h0]) ⟨hx, hb, hml, hown, hts⟩ (kX2_wholeMadeFrom l v kd) (va_cwS 2 hts gX2_writeAny_X2_wholeMadeFrom rfl rfl rfl (by decide +kernel) ⟨Nat.le_of_ble_eq_true rfl, Nat.le_of_ble_eq_true rfl⟩) ⟨fun a U g mk q => q, fun U hU hW => ⟨rfl, trivial⟩⟩ rfl rfl hl.1 rfl (lv_room (Nat.le_of_ble_eq_true rfl)) dX2_writeAny_56 ⟨Nat.zero_le _, Nat.zero_le _⟩) (fun r_3 hr_3 => ?_)
  subst hr_3
  refine va_calli (va_runV (As := [.ref (ad j), .int i, .int kd, .long (kMade v kd)]) (rest := []) ⟨hx, hb, hml, hown, hts⟩ (tX2_writeWhole l D A cI cJ cD cC h0 h1 h2 h3 h4 ad wd rd Y n K Ln Wh Re cd ct s.heap.size hI j hj i kd (kMade v kd)) (cwV 4 hts gX2_writeAny_X2_writeWhole rfl rfl rfl (by decide +kernel) ⟨Nat.le_of_ble_eq_true rfl, Nat.le_of_ble_eq_true rfl⟩) ⟨tcP.blind, (va_recv hK hP (ci := 2) (q0 := 0) rfl rfl), (tcP.go hK hP hD hE hS)⟩ rfl rfl hl.1 rfl (lv_room (Nat.le_of_ble_eq_true rfl)) dX2_writeAny_59 ⟨Nat.le_of_ble_eq_true rfl, Nat.le_of_ble_eq_true rfl⟩) hS (fun q _ h => h) (fun q h => h) (fun r_4 u t H locs ht hvm hw hB hz1 hk1 hS => ?_)
  subst hw
  obtain ⟨hP, hD⟩ := hB
  rw [ht] at hP
  exact W.iret (v := (cdR K Ln j i kd (K j))) hx hb hr (fun t9 ht9 hW9 => ⟨⟨(cdR K Ln j i kd (K j)), (), rfl, rfl, by rw [ht9]; exact hP, hD⟩, hS.F ht9⟩) hS.2.2 dX2_writeAny_62
set_option maxHeartbeats 4000000 in
set_option maxRecDepth 100000 in
theorem tX2_copy (l : Launch) (D : va_G) (A : Nat → Prop) (cI cJ cD cC : ClassId) (h0 h1 h2 h3 h4 : Nat) (ad wd rd : Nat → Nat) (Y : va_W) (n : Nat) (K : Nat → Int32) (Ln : Nat → Nat) (Wh : Nat → Int64) (Re : Nat → UInt64) (cd : Int32) (ct : Nat → Int32) (sz : Nat) (hI : tcI n K Ln Wh Re) (j : Nat) (hj : j < n) (j2 : Nat) (hj2 : j2 < n) (fi ti mm : Int32) : Met l yX2_copy wsX2_copy ({ frames := 2, cells := 0, slots := 0, locals := 64 }) (tcP D A (tcTY cI cJ cD cC) sz [.ref h0, .int (nI j), .int fi, .int (nI j2), .int ti, .int mm] (tc_T cI cJ cD cC h0 h1 h2 h3 h4 ad wd rd Y n K Ln Wh Re cd ct)) (va_Qi (fun r (_ : Unit) => r = cpC K Ln j j2 fi ti mm) (fun _ t => tcB D A (tc_T cI cJ cD cC h0 h1 h2 h3 h4 ad wd rd Y n K Ln (cpW K Ln Wh j j2 fi ti mm) (cpW K Ln Re j j2 fi ti mm) (cpC K Ln j j2 fi ti mm) (noteC ct (cpC K Ln j j2 fi ti mm))) t) A) 0 0 A := by
  refine Met.ofW (cc := cX2_copy) (maxL := 9) (ret := (some .int)) (by decide) rfl ?_
  intro p e s m args below meth c s₁ B hml hv
  obtain ⟨rfl, hsz, hP, hK, hD, hE⟩ := hv
  have hx := B.exec
  have hb := B.bytes
  have hr := B.returns
  have hts := atoms_spec (ws := wsX2_copy) B.pre
  have hown : s.vm.findClass RX2 = some m.cls := findClass_of_methodNamed B.named
  have hlocks := B.notSynchronized
  have hl := lv_entry ([.ref h0, .int (nI j), .int fi, .int (nI j2), .int ti, .int mm]) (n := 9) (Nat.le_of_ble_eq_true rfl)
  rw [lg_entry_eq]
  generalize (lg_sl ([.ref h0, .int (nI j), .int fi, .int (nI j2), .int ti, .int mm]) ++ List.replicate (9 - (lg_sl ([.ref h0, .int (nI j), .int fi, .int (nI j2), .int ti, .int mm])).length) Slot.unset).toArray = ls at hl ⊢
  have hl : lv_has ls 9 [(0, .ref h0), (1, .int (nI j)), (2, .int fi), (3, .int (nI j2)), (4, .int ti), (5, .int mm)] := hl
  subst hsz
  have hS : va_S A s.heap s.heap [] := va_S.rf
  refine lv_aload_n hx hb dX2_copy_0 rfl (lv_at hl 0 rfl) ?_
  refine lv_iload_n hx hb dX2_copy_1 rfl (lv_at hl 1 rfl) ?_
  refine va_csr (tc_CR (va_runV (As := [.int (nI j)]) (rest := []) ⟨hx, hb, hml, hown, hts⟩ (tX2_columnAt l D A cI cJ cD cC h0 h1 h2 h3 h4 ad wd rd Y n K Ln Wh Re cd ct s.heap.size hI.1 j hj) (cwV 1 hts gX2_copy_X2_columnAt rfl rfl rfl (by decide +kernel) ⟨Nat.le_of_ble_eq_true rfl, Nat.le_of_ble_eq_true rfl⟩) ⟨tcP.blind, va_recv hK hP (ci := 2) (q0 := 0) rfl rfl, tcP.go hK hP hD hE hS⟩ rfl rfl hl.1 rfl (lv_room (Nat.le_of_ble_eq_true rfl)) dX2_copy_2 ⟨Nat.le_of_ble_eq_true rfl, Nat.le_of_ble_eq_true rfl⟩)) (fun _ _ => ?_)
  refine lv_astore (lv' := [(6, .ref (ad j)), (0, .ref h0), (1, .int (nI j)), (2, .int fi), (3, .int (nI j2)), (4, .int ti), (5, .int mm)]) hx hb dX2_copy_5 hl (by decide) rfl (fun ls hl => ?_)
  refine lv_aload_n hx hb dX2_copy_7 rfl (lv_at hl 1 rfl) ?_
  refine lv_iload_n hx hb dX2_copy_8 rfl (lv_at hl 4 rfl) ?_
  refine va_csr (tc_CR (va_runV (As := [.int (nI j2)]) (rest := []) ⟨hx, hb, hml, hown, hts⟩ (tX2_columnAt l D A cI cJ cD cC h0 h1 h2 h3 h4 ad wd rd Y n K Ln Wh Re cd ct s.heap.size hI.1 j2 hj2) (cwV 1 hts gX2_copy_X2_columnAt rfl rfl rfl (by decide +kernel) ⟨Nat.le_of_ble_eq_true rfl, Nat.le_of_ble_eq_true rfl⟩) ⟨tcP.blind, va_recv hK hP (ci := 2) (q0 := 0) rfl rfl, tcP.go hK hP hD hE hS⟩ rfl rfl hl.1 rfl (lv_room (Nat.le_of_ble_eq_true rfl)) dX2_copy_9 ⟨Nat.le_of_ble_eq_true rfl, Nat.le_of_ble_eq_true rfl⟩)) (fun _ _ => ?_)
  refine lv_astore (lv' := [(7, .ref (ad j2)), (6, .ref (ad j)), (0, .ref h0), (1, .int (nI j)), (2, .int fi), (3, .int (nI j2)), (4, .int ti), (5, .int mm)]) hx hb dX2_copy_12 hl (by decide) rfl (fun ls hl => ?_)
  refine lv_aload hx hb dX2_copy_14 (lv_at hl 1 rfl) ?_
  refine lv_aload hx hb dX2_copy_16 (lv_at hl 0 rfl) ?_
  refine vp_callSi (tc_CR (va_runS (As := [.ref (ad j), .ref (ad j2)]) (rest := []) ⟨hx, hb, hml, hown, hts⟩ (oX2_codeOfKinds l D A cI cJ cD cC (tc_T cI cJ cD cC h0 h1 h2 h3 h4 ad wd rd Y n K Ln Wh Re cd ct) (5 + (Y.length + (3 * j + 0))) (5 + (Y.length + (3 * j + 1))) (5 + (Y.length + (3 * j + 2))) (ad j) (wd j) (rd j) (K j) (tc_cl (K j) (Ln j)) (tc_wl (K j) (Ln j)) (tc_rl (K j) (Ln j)) (tc_sl (tc_wl (K j) (Ln j)) (fun i => Wh (40 * j + i)) 0) (tc_sl (tc_rl (K j) (Ln j)) (fun i => Re (40 * j + i)) 0) s.heap.size (tc_T0 hj) (tc_T1 hj) (tc_T2 hj) (tc_len_lt (hI.2.1 j hj).2.1) (5 + (Y.length + (3 * j2 + 0))) (5 + (Y.length + (3 * j2 + 1))) (5 + (Y.length + (3 * j2 + 2))) (ad j2) (wd j2) (rd j2) (K j2) (tc_cl (K j2) (Ln j2)) (tc_wl (K j2) (Ln j2)) (tc_rl (K j2) (Ln j2)) (tc_sl (tc_wl (K j2) (Ln j2)) (fun i => Wh (40 * j2 + i)) 0) (tc_sl (tc_rl (K j2) (Ln j2)) (fun i => Re (40 * j2 + i)) 0) (tc_T0 hj2) (tc_T1 hj2) (tc_T2 hj2) (tc_len_lt (hI.2.1 j2 hj2).2.1)) (va_cwS 2 hts gX2_copy_X2_codeOfKinds rfl rfl rfl (by decide +kernel) ⟨Nat.le_of_ble_eq_true rfl, Nat.le_of_ble_eq_true rfl⟩) ⟨tcP.blind, (tcP.go hK hP hD hE hS)⟩ rfl rfl hl.1 rfl (lv_room (Nat.le_of_ble_eq_true rfl)) dX2_copy_18 ⟨Nat.le_of_ble_eq_true rfl, Nat.le_of_ble_eq_true rfl⟩)) (fun r_1 hr_1 => ?_)
  subst hr_1
  refine lv_istore (lv' := [(8, .int (kKinds (K j) (K j2))), (7, .ref (ad j2)), (6, .ref (ad j)), (0, .ref h0), (1, .int (nI j)), (2, .int fi), (3, .int (nI j2)), (4, .int ti), (5, .int mm)]) hx hb dX2_copy_21 hl (by decide) rfl (fun ls hl => ?_)
  refine lv_iload hx hb dX2_copy_23 (lv_at hl 0 rfl) ?_
  refine lv_if_ne (tgt := 60) hx hb dX2_copy_25 (by decide) (fun c_2 => ?_) (fun c_2 => ?_)
  · refine lv_iload hx hb dX2_copy_60 (lv_at hl 0 rfl) ?_
    refine lv_if_ne (tgt := 77) hx hb dX2_copy_62 (by decide) (fun _ => ?_) (fun q => absurd q (c_2))
    refine lv_aload_n hx hb dX2_copy_77 rfl (lv_at hl 3 rfl) ?_
    refine lv_iload hx hb dX2_copy_78 (lv_at hl 0 rfl) ?_
    have z : cpC K Ln j j2 fi ti mm = (kKinds (K j) (K j2)) := by unfold cpC; rw [if_neg c_2]
    refine va_calli (va_runV (As := [.int (kKinds (K j) (K j2))]) (rest := []) ⟨hx, hb, hml, hown, hts⟩ (tX2_note l D A cI cJ cD cC h0 h1 h2 h3 h4 ad wd rd Y n K Ln Wh Re cd ct s.heap.size (kKinds (K j) (K j2)) (z ▸ cpC_in K Ln j j2 fi ti mm)) (cwV 1 hts gX2_copy_X2_note rfl rfl rfl (by decide +kernel) ⟨Nat.le_of_ble_eq_true rfl, Nat.le_of_ble_eq_true rfl⟩) ⟨tcP.blind, (va_recv hK hP (ci := 2) (q0 := 0) rfl rfl), (tcP.go hK hP hD hE hS)⟩ rfl rfl hl.1 rfl (lv_room (Nat.le_of_ble_eq_true rfl)) dX2_copy_80 ⟨Nat.le_of_ble_eq_true rfl, Nat.le_of_ble_eq_true rfl⟩) hS (fun q _ h => h) (fun q h => h) (fun r_4 u t H locs ht hvm hw hB hz1 hk1 hS => ?_)
    subst hw
    obtain ⟨hP, hD⟩ := hB
    rw [ht] at hP
    have zn : ¬ cpC K Ln j j2 fi ti mm = 0 := by rw [z]; exact c_2
    have zW : cpW K Ln Wh j j2 fi ti mm = Wh := by unfold cpW; rw [if_neg zn]
    have zR : cpW K Ln Re j j2 fi ti mm = Re := by unfold cpW; rw [if_neg zn]
    have hP : va_P D vwCl (tc_T cI cJ cD cC h0 h1 h2 h3 h4 ad wd rd Y n K Ln (cpW K Ln Wh j j2 fi ti mm) (cpW K Ln Re j j2 fi ti mm) (cpC K Ln j j2 fi ti mm) (noteC ct (cpC K Ln j j2 fi ti mm))) H := by rw [zW, zR, z]; exact hP
    have hD : va_D A (tc_T cI cJ cD cC h0 h1 h2 h3 h4 ad wd rd Y n K Ln (cpW K Ln Wh j j2 fi ti mm) (cpW K Ln Re j j2 fi ti mm) (cpC K Ln j j2 fi ti mm) (noteC ct (cpC K Ln j j2 fi ti mm))) := by rw [zW, zR, z]; exact hD
    exact W.iret (v := (kKinds (K j) (K j2))) hx hb hr (fun t9 ht9 hW9 => ⟨⟨(kKinds (K j) (K j2)), (), rfl, z.symm, by rw [ht9]; exact hP, hD⟩, hS.F ht9⟩) hS.2.2 dX2_copy_83
  · refine lv_iload_n hx hb dX2_copy_28 rfl (lv_at hl 5 rfl) ?_
    refine lv_iload hx hb dX2_copy_29 (lv_at hl 8 rfl) ?_
    refine lv_aload hx hb dX2_copy_31 (lv_at hl 2 rfl) ?_
    refine va_get (D := D) (ci := 0) (fs := [.int (K j), .int (tc_cl (K j) (Ln j)), .ref (wd j), .ref (rd j)]) (v := .int (tc_cl (K j) (Ln j))) (C := RX0) (T := TX0) (N := 4) hx hb hts (by decide +kernel) hown hK hP (5 + (Y.length + (3 * j + 0))) (tc_T0 hj) rfl 1 (by decide) (hts (.fieldLink RX2 76 "TypedColumns$Column" "length" "I") (by decide +kernel)) (fun _ h9 => h9) rfl dX2_copy_33 ?_
    refine vp_callSi (W.runS (As := [.int fi, .int mm, .int (tc_cl (K j) (Ln j))]) (rest := []) ⟨hx, hb, hml, hown, hts⟩ (kX2_isPart l fi mm (tc_cl (K j) (Ln j))) (va_cwS 3 hts gX2_copy_X2_isPart rfl rfl rfl (by decide +kernel) ⟨Nat.le_of_ble_eq_true rfl, Nat.le_of_ble_eq_true rfl⟩) ⟨fun a U g mk q => q, fun U hU hW => ⟨rfl, trivial⟩⟩ rfl rfl hl.1 rfl (lv_room (Nat.le_of_ble_eq_true rfl)) dX2_copy_36 ⟨Nat.zero_le _, Nat.zero_le _⟩) (fun r_5 hr_5 => ?_)
    subst hr_5
    refine lv_if_eq (tgt := 57) hx hb dX2_copy_39 (by decide) (fun c_6 => ?_) (fun c_6 => ?_)
    · refine lv_iconst (v := 3) hx hb dX2_copy_57 (by decide) ?_
      refine lv_istore (lv' := [(8, .int 3), (7, .ref (ad j2)), (6, .ref (ad j)), (0, .ref h0), (1, .int (nI j)), (2, .int fi), (3, .int (nI j2)), (4, .int ti), (5, .int mm)]) hx hb dX2_copy_58 hl (by decide) rfl (fun ls hl => ?_)
      refine lv_iload hx hb dX2_copy_60 (lv_at hl 0 rfl) ?_
      refine lv_if_ne (tgt := 77) hx hb dX2_copy_62 (by decide) (fun _ => ?_) (fun q => absurd q (by decide))
      refine lv_aload_n hx hb dX2_copy_77 rfl (lv_at hl 3 rfl) ?_
      refine lv_iload hx hb dX2_copy_78 (lv_at hl 0 rfl) ?_
      have z : cpC K Ln j j2 fi ti mm = 3 := by unfold cpC; rw [if_pos c_2, if_neg (by rw [(tb_0 _).mp c_6]; decide)]
      refine va_calli (va_runV (As := [.int 3]) (rest := []) ⟨hx, hb, hml, hown, hts⟩ (tX2_note l D A cI cJ cD cC h0 h1 h2 h3 h4 ad wd rd Y n K Ln Wh Re cd ct s.heap.size 3 (z ▸ cpC_in K Ln j j2 fi ti mm)) (cwV 1 hts gX2_copy_X2_note rfl rfl rfl (by decide +kernel) ⟨Nat.le_of_ble_eq_true rfl, Nat.le_of_ble_eq_true rfl⟩) ⟨tcP.blind, (va_recv hK hP (ci := 2) (q0 := 0) rfl rfl), (tcP.go hK hP hD hE hS)⟩ rfl rfl hl.1 rfl (lv_room (Nat.le_of_ble_eq_true rfl)) dX2_copy_80 ⟨Nat.le_of_ble_eq_true rfl, Nat.le_of_ble_eq_true rfl⟩) hS (fun q _ h => h) (fun q h => h) (fun r_8 u t H locs ht hvm hw hB hz1 hk1 hS => ?_)
      subst hw
      obtain ⟨hP, hD⟩ := hB
      rw [ht] at hP
      have zn : ¬ cpC K Ln j j2 fi ti mm = 0 := by rw [z]; exact (by decide)
      have zW : cpW K Ln Wh j j2 fi ti mm = Wh := by unfold cpW; rw [if_neg zn]
      have zR : cpW K Ln Re j j2 fi ti mm = Re := by unfold cpW; rw [if_neg zn]
      have hP : va_P D vwCl (tc_T cI cJ cD cC h0 h1 h2 h3 h4 ad wd rd Y n K Ln (cpW K Ln Wh j j2 fi ti mm) (cpW K Ln Re j j2 fi ti mm) (cpC K Ln j j2 fi ti mm) (noteC ct (cpC K Ln j j2 fi ti mm))) H := by rw [zW, zR, z]; exact hP
      have hD : va_D A (tc_T cI cJ cD cC h0 h1 h2 h3 h4 ad wd rd Y n K Ln (cpW K Ln Wh j j2 fi ti mm) (cpW K Ln Re j j2 fi ti mm) (cpC K Ln j j2 fi ti mm) (noteC ct (cpC K Ln j j2 fi ti mm))) := by rw [zW, zR, z]; exact hD
      exact W.iret (v := 3) hx hb hr (fun t9 ht9 hW9 => ⟨⟨3, (), rfl, z.symm, by rw [ht9]; exact hP, hD⟩, hS.F ht9⟩) hS.2.2 dX2_copy_83
    · refine lv_iload hx hb dX2_copy_42 (lv_at hl 7 rfl) ?_
      refine lv_iload hx hb dX2_copy_44 (lv_at hl 8 rfl) ?_
      refine lv_aload hx hb dX2_copy_46 (lv_at hl 1 rfl) ?_
      refine va_get (D := D) (ci := 0) (fs := [.int (K j2), .int (tc_cl (K j2) (Ln j2)), .ref (wd j2), .ref (rd j2)]) (v := .int (tc_cl (K j2) (Ln j2))) (C := RX0) (T := TX0) (N := 4) hx hb hts (by decide +kernel) hown hK hP (5 + (Y.length + (3 * j2 + 0))) (tc_T0 hj2) rfl 1 (by decide) (hts (.fieldLink RX2 76 "TypedColumns$Column" "length" "I") (by decide +kernel)) (fun _ h9 => h9) rfl dX2_copy_48 ?_
      refine vp_callSi (W.runS (As := [.int ti, .int mm, .int (tc_cl (K j2) (Ln j2))]) (rest := []) ⟨hx, hb, hml, hown, hts⟩ (kX2_isPart l ti mm (tc_cl (K j2) (Ln j2))) (va_cwS 3 hts gX2_copy_X2_isPart rfl rfl rfl (by decide +kernel) ⟨Nat.le_of_ble_eq_true rfl, Nat.le_of_ble_eq_true rfl⟩) ⟨fun a U g mk q => q, fun U hU hW => ⟨rfl, trivial⟩⟩ rfl rfl hl.1 rfl (lv_room (Nat.le_of_ble_eq_true rfl)) dX2_copy_51 ⟨Nat.zero_le _, Nat.zero_le _⟩) (fun r_9 hr_9 => ?_)
      subst hr_9
      refine lv_if_ne (tgt := 60) hx hb dX2_copy_54 (by decide) (fun c_10 => ?_) (fun c_10 => ?_)
      · refine lv_iload hx hb dX2_copy_60 (lv_at hl 0 rfl) ?_
        refine lv_if_ne (tgt := 77) hx hb dX2_copy_62 (by decide) (fun q => absurd (c_2) q) (fun _ => ?_)
        refine lv_aload hx hb dX2_copy_65 (lv_at hl 1 rfl) ?_
        refine lv_aload hx hb dX2_copy_67 (lv_at hl 2 rfl) ?_
        refine lv_iload_n hx hb dX2_copy_69 rfl (lv_at hl 5 rfl) ?_
        refine lv_iload hx hb dX2_copy_70 (lv_at hl 7 rfl) ?_
        refine lv_iload hx hb dX2_copy_72 (lv_at hl 8 rfl) ?_
        have z : cpC K Ln j j2 fi ti mm = (kKinds (K j) (K j2)) := by unfold cpC; rw [if_pos c_2, if_pos ((tb_1 _).mp c_6), if_pos ((tb_1 _).mp c_10), c_2]
        have zc : cpC K Ln j j2 fi ti mm = 0 := z.trans c_2
        refine va_callv (va_runV (As := [.ref (ad j), .int fi, .int ti, .int mm]) (rest := []) ⟨hx, hb, hml, hown, hts⟩ (oX0_takeCells l D A cI cJ cD cC (tc_T cI cJ cD cC h0 h1 h2 h3 h4 ad wd rd Y n K Ln Wh Re cd ct) (5 + (Y.length + (3 * j2 + 0))) (5 + (Y.length + (3 * j2 + 1))) (5 + (Y.length + (3 * j2 + 2))) (ad j2) (wd j2) (rd j2) (K j2) (tc_cl (K j2) (Ln j2)) (tc_wl (K j2) (Ln j2)) (tc_rl (K j2) (Ln j2)) (tc_sl (tc_wl (K j2) (Ln j2)) (fun i => Wh (40 * j2 + i)) 0) (tc_sl (tc_rl (K j2) (Ln j2)) (fun i => Re (40 * j2 + i)) 0) s.heap.size (tc_T0 hj2) (tc_T1 hj2) (tc_T2 hj2) (tc_len_lt (hI.2.1 j2 hj2).2.1) (5 + (Y.length + (3 * j + 0))) (5 + (Y.length + (3 * j + 1))) (5 + (Y.length + (3 * j + 2))) (ad j) (wd j) (rd j) (K j) (tc_cl (K j) (Ln j)) (tc_wl (K j) (Ln j)) (tc_rl (K j) (Ln j)) (tc_sl (tc_wl (K j) (Ln j)) (fun i => Wh (40 * j + i)) 0) (tc_sl (tc_rl (K j) (Ln j)) (fun i => Re (40 * j + i)) 0) (tc_T0 hj) (tc_T1 hj) (tc_T2 hj) (tc_len_lt (hI.2.1 j hj).2.1) fi ti mm ⟨by omega, by omega, by omega, by omega⟩) (cwV 4 hts gX2_copy_X0_takeCells rfl rfl rfl (by decide +kernel) ⟨Nat.le_of_ble_eq_true rfl, Nat.le_of_ble_eq_true rfl⟩) ⟨tcP.blind, (va_recv hK hP (ci := 0) (q0 := (5 + (Y.length + (3 * j2 + 0)))) rfl (tc_T0 hj2)), (tcP.go hK hP hD hE hS)⟩ rfl rfl hl.1 rfl (lv_room (Nat.le_of_ble_eq_true rfl)) dX2_copy_74 ⟨Nat.le_of_ble_eq_true rfl, Nat.le_of_ble_eq_true rfl⟩) hS (fun q _ h => h) (fun q h => h) (fun u t H locs ht hvm hw hB hz1 hk1 hS => ?_)
        obtain ⟨hP, hD⟩ := hB
        rw [ht] at hP
        rw [tc_T_cp hj hj2 (fun k hk => ⟨(hI.2.1 k hk).1, (hI.2.1 k hk).2.1⟩) zc] at hP hD
        refine lv_aload_n hx hb dX2_copy_77 rfl (lv_at hl 3 rfl) ?_
        refine lv_iload hx hb dX2_copy_78 (lv_at hl 0 rfl) ?_
        refine va_calli (va_runV (As := [.int (kKinds (K j) (K j2))]) (rest := []) ⟨hx, hb, hml, hown, hts⟩ (tX2_note l D A cI cJ cD cC h0 h1 h2 h3 h4 ad wd rd Y n K Ln (cpW K Ln Wh j j2 fi ti mm) (cpW K Ln Re j j2 fi ti mm) cd ct H.size (kKinds (K j) (K j2)) (z ▸ cpC_in K Ln j j2 fi ti mm)) (cwV 1 hts gX2_copy_X2_note rfl rfl rfl (by decide +kernel) ⟨Nat.le_of_ble_eq_true rfl, Nat.le_of_ble_eq_true rfl⟩) ⟨tcP.blind, (va_recv hK hP (ci := 2) (q0 := 0) rfl rfl), (tcP.go hK hP hD hE hS)⟩ rfl rfl hl.1 rfl (lv_room (Nat.le_of_ble_eq_true rfl)) dX2_copy_80 ⟨Nat.le_of_ble_eq_true rfl, Nat.le_of_ble_eq_true rfl⟩) hS (fun q _ h => h) (fun q h => h) (fun r_13 u t H locs ht hvm hw hB hz1 hk1 hS => ?_)
        subst hw
        obtain ⟨hP, hD⟩ := hB
        rw [ht] at hP
        have hP : va_P D vwCl (tc_T cI cJ cD cC h0 h1 h2 h3 h4 ad wd rd Y n K Ln (cpW K Ln Wh j j2 fi ti mm) (cpW K Ln Re j j2 fi ti mm) (cpC K Ln j j2 fi ti mm) (noteC ct (cpC K Ln j j2 fi ti mm))) H := by rw [z]; exact hP
        have hD : va_D A (tc_T cI cJ cD cC h0 h1 h2 h3 h4 ad wd rd Y n K Ln (cpW K Ln Wh j j2 fi ti mm) (cpW K Ln Re j j2 fi ti mm) (cpC K Ln j j2 fi ti mm) (noteC ct (cpC K Ln j j2 fi ti mm))) := by rw [z]; exact hD
        exact W.iret (v := (kKinds (K j) (K j2))) hx hb hr (fun t9 ht9 hW9 => ⟨⟨(kKinds (K j) (K j2)), (), rfl, z.symm, by rw [ht9]; exact hP, hD⟩, hS.F ht9⟩) hS.2.2 dX2_copy_83
      · refine lv_iconst (v := 3) hx hb dX2_copy_57 (by decide) ?_
        refine lv_istore (lv' := [(8, .int 3), (7, .ref (ad j2)), (6, .ref (ad j)), (0, .ref h0), (1, .int (nI j)), (2, .int fi), (3, .int (nI j2)), (4, .int ti), (5, .int mm)]) hx hb dX2_copy_58 hl (by decide) rfl (fun ls hl => ?_)
        refine lv_iload hx hb dX2_copy_60 (lv_at hl 0 rfl) ?_
        refine lv_if_ne (tgt := 77) hx hb dX2_copy_62 (by decide) (fun _ => ?_) (fun q => absurd q (by decide))
        refine lv_aload_n hx hb dX2_copy_77 rfl (lv_at hl 3 rfl) ?_
        refine lv_iload hx hb dX2_copy_78 (lv_at hl 0 rfl) ?_
        have z : cpC K Ln j j2 fi ti mm = 3 := by unfold cpC; rw [if_pos c_2, if_pos ((tb_1 _).mp c_6), if_neg (by rw [(tb_0 _).mp c_10]; decide)]
        refine va_calli (va_runV (As := [.int 3]) (rest := []) ⟨hx, hb, hml, hown, hts⟩ (tX2_note l D A cI cJ cD cC h0 h1 h2 h3 h4 ad wd rd Y n K Ln Wh Re cd ct s.heap.size 3 (z ▸ cpC_in K Ln j j2 fi ti mm)) (cwV 1 hts gX2_copy_X2_note rfl rfl rfl (by decide +kernel) ⟨Nat.le_of_ble_eq_true rfl, Nat.le_of_ble_eq_true rfl⟩) ⟨tcP.blind, (va_recv hK hP (ci := 2) (q0 := 0) rfl rfl), (tcP.go hK hP hD hE hS)⟩ rfl rfl hl.1 rfl (lv_room (Nat.le_of_ble_eq_true rfl)) dX2_copy_80 ⟨Nat.le_of_ble_eq_true rfl, Nat.le_of_ble_eq_true rfl⟩) hS (fun q _ h => h) (fun q h => h) (fun r_15 u t H locs ht hvm hw hB hz1 hk1 hS => ?_)
        subst hw
        obtain ⟨hP, hD⟩ := hB
        rw [ht] at hP
        have zn : ¬ cpC K Ln j j2 fi ti mm = 0 := by rw [z]; exact (by decide)
        have zW : cpW K Ln Wh j j2 fi ti mm = Wh := by unfold cpW; rw [if_neg zn]
        have zR : cpW K Ln Re j j2 fi ti mm = Re := by unfold cpW; rw [if_neg zn]
        have hP : va_P D vwCl (tc_T cI cJ cD cC h0 h1 h2 h3 h4 ad wd rd Y n K Ln (cpW K Ln Wh j j2 fi ti mm) (cpW K Ln Re j j2 fi ti mm) (cpC K Ln j j2 fi ti mm) (noteC ct (cpC K Ln j j2 fi ti mm))) H := by rw [zW, zR, z]; exact hP
        have hD : va_D A (tc_T cI cJ cD cC h0 h1 h2 h3 h4 ad wd rd Y n K Ln (cpW K Ln Wh j j2 fi ti mm) (cpW K Ln Re j j2 fi ti mm) (cpC K Ln j j2 fi ti mm) (noteC ct (cpC K Ln j j2 fi ti mm))) := by rw [zW, zR, z]; exact hD
        exact W.iret (v := 3) hx hb hr (fun t9 ht9 hW9 => ⟨⟨3, (), rfl, z.symm, by rw [ht9]; exact hP, hD⟩, hS.F ht9⟩) hS.2.2 dX2_copy_83
set_option maxHeartbeats 4000000 in
set_option maxRecDepth 100000 in
theorem tX2_total (l : Launch) (D : va_G) (A : Nat → Prop) (cI cJ cD cC : ClassId) (h0 h1 h2 h3 h4 : Nat) (ad wd rd : Nat → Nat) (Y : va_W) (n : Nat) (K : Nat → Int32) (Ln : Nat → Nat) (Wh : Nat → Int64) (Re : Nat → UInt64) (cd : Int32) (ct : Nat → Int32) (sz : Nat) (hI : tcI n K Ln Wh Re) (j : Nat) (hj : j < n)  : Met l yX2_total wsX2_total ({ frames := 3, cells := 0, slots := 0, locals := 67 }) (tcP D A (tcTY cI cJ cD cC) sz [.ref h0, .int (nI j)] (tc_T cI cJ cD cC h0 h1 h2 h3 h4 ad wd rd Y n K Ln Wh Re cd ct)) (va_Qd (fun r (_ : Unit) => r = tot K Ln Wh Re j) (fun _ t => tcB D A (tc_T cI cJ cD cC h0 h1 h2 h3 h4 ad wd rd Y n K Ln Wh Re (kCol (K j)) (noteC ct (kCol (K j)))) t) A) 0 0 A := by
  refine Met.ofW (cc := cX2_total) (maxL := 4) (ret := (some .double)) (by decide) rfl ?_
  intro p e s m args below meth c s₁ B hml hv
  obtain ⟨rfl, hsz, hP, hK, hD, hE⟩ := hv
  have hx := B.exec
  have hb := B.bytes
  have hr := B.returns
  have hts := atoms_spec (ws := wsX2_total) B.pre
  have hown : s.vm.findClass RX2 = some m.cls := findClass_of_methodNamed B.named
  have hlocks := B.notSynchronized
  have hl := lv_entry ([.ref h0, .int (nI j)]) (n := 4) (Nat.le_of_ble_eq_true rfl)
  rw [lg_entry_eq]
  generalize (lg_sl ([.ref h0, .int (nI j)]) ++ List.replicate (4 - (lg_sl ([.ref h0, .int (nI j)])).length) Slot.unset).toArray = ls at hl ⊢
  have hl : lv_has ls 4 [(0, .ref h0), (1, .int (nI j))] := hl
  subst hsz
  have hS : va_S A s.heap s.heap [] := va_S.rf
  refine lv_aload_n hx hb dX2_total_0 rfl (lv_at hl 0 rfl) ?_
  refine lv_iload_n hx hb dX2_total_1 rfl (lv_at hl 1 rfl) ?_
  refine va_csr (tc_CR (va_runV (As := [.int (nI j)]) (rest := []) ⟨hx, hb, hml, hown, hts⟩ (tX2_columnAt l D A cI cJ cD cC h0 h1 h2 h3 h4 ad wd rd Y n K Ln Wh Re cd ct s.heap.size hI.1 j hj) (cwV 1 hts gX2_total_X2_columnAt rfl rfl rfl (by decide +kernel) ⟨Nat.le_of_ble_eq_true rfl, Nat.le_of_ble_eq_true rfl⟩) ⟨tcP.blind, va_recv hK hP (ci := 2) (q0 := 0) rfl rfl, tcP.go hK hP hD hE hS⟩ rfl rfl hl.1 rfl (lv_room (Nat.le_of_ble_eq_true rfl)) dX2_total_2 ⟨Nat.le_of_ble_eq_true rfl, Nat.le_of_ble_eq_true rfl⟩)) (fun _ _ => ?_)
  refine lv_astore_n (lv' := [(2, .ref (ad j)), (0, .ref h0), (1, .int (nI j))]) hx hb dX2_total_5 rfl hl (by decide) rfl (fun ls hl => ?_)
  refine lv_aload_n hx hb dX2_total_6 rfl (lv_at hl 1 rfl) ?_
  refine lv_aload_n hx hb dX2_total_7 rfl (lv_at hl 0 rfl) ?_
  refine vp_callSi (tc_CR (va_runS (As := [.ref (ad j)]) (rest := [.ref h0]) ⟨hx, hb, hml, hown, hts⟩ (oX2_codeOfColumn l D A cI cJ cD cC (tc_T cI cJ cD cC h0 h1 h2 h3 h4 ad wd rd Y n K Ln Wh Re cd ct) (5 + (Y.length + (3 * j + 0))) (5 + (Y.length + (3 * j + 1))) (5 + (Y.length + (3 * j + 2))) (ad j) (wd j) (rd j) (K j) (tc_cl (K j) (Ln j)) (tc_wl (K j) (Ln j)) (tc_rl (K j) (Ln j)) (tc_sl (tc_wl (K j) (Ln j)) (fun i => Wh (40 * j + i)) 0) (tc_sl (tc_rl (K j) (Ln j)) (fun i => Re (40 * j + i)) 0) s.heap.size (tc_T0 hj) (tc_T1 hj) (tc_T2 hj) (tc_len_lt (hI.2.1 j hj).2.1)) (va_cwS 1 hts gX2_total_X2_codeOfColumn rfl rfl rfl (by decide +kernel) ⟨Nat.le_of_ble_eq_true rfl, Nat.le_of_ble_eq_true rfl⟩) ⟨tcP.blind, (tcP.go hK hP hD hE hS)⟩ rfl rfl hl.1 rfl (lv_room (Nat.le_of_ble_eq_true rfl)) dX2_total_8 ⟨Nat.le_of_ble_eq_true rfl, Nat.le_of_ble_eq_true rfl⟩)) (fun r_1 hr_1 => ?_)
  subst hr_1
  refine va_calli (va_runV (As := [.int (kCol (K j))]) (rest := []) ⟨hx, hb, hml, hown, hts⟩ (tX2_note l D A cI cJ cD cC h0 h1 h2 h3 h4 ad wd rd Y n K Ln Wh Re cd ct s.heap.size (kCol (K j)) (kCol_in _)) (cwV 1 hts gX2_total_X2_note rfl rfl rfl (by decide +kernel) ⟨Nat.le_of_ble_eq_true rfl, Nat.le_of_ble_eq_true rfl⟩) ⟨tcP.blind, (va_recv hK hP (ci := 2) (q0 := 0) rfl rfl), (tcP.go hK hP hD hE hS)⟩ rfl rfl hl.1 rfl (lv_room (Nat.le_of_ble_eq_true rfl)) dX2_total_11 ⟨Nat.le_of_ble_eq_true rfl, Nat.le_of_ble_eq_true rfl⟩) hS (fun q _ h => h) (fun q h => h) (fun r_2 u t H locs ht hvm hw hB hz1 hk1 hS => ?_)
  subst hw
  obtain ⟨hP, hD⟩ := hB
  rw [ht] at hP
  refine lv_istore_n (lv' := [(3, .int (kCol (K j))), (2, .ref (ad j)), (0, .ref h0), (1, .int (nI j))]) hx hb dX2_total_14 rfl hl (by decide) rfl (fun ls hl => ?_)
  refine lv_iload_n hx hb dX2_total_15 rfl (lv_at hl 0 rfl) ?_
  refine lv_if_ne (tgt := 26) hx hb dX2_total_16 (by decide) (fun c_3 => ?_) (fun c_3 => ?_)
  · refine lv_dconst0 hx hb dX2_total_26 ?_
    exact W.dret (v := FP.dconst0) hx hb hr (fun t9 ht9 hW9 => ⟨⟨FP.dconst0, (), rfl, by unfold tot; rw [if_neg c_3]; rfl, by rw [ht9]; exact hP, hD⟩, hS.F ht9⟩) hS.2.2 dX2_total_27
  · refine lv_aload_n hx hb dX2_total_19 rfl (lv_at hl 1 rfl) ?_
    cases gf : kFl (K j)
    · have gl : tc_cl (K j) (Ln j) = nI (tc_wl (K j) (Ln j)) := by rw [tc_cl_has (kCol_has (hI.2.1 j hj).1 c_3), tc_wl_n gf]
      refine vp_callSd (tc_CR (va_runV (As := []) (rest := []) ⟨hx, hb, hml, hown, hts⟩ (oX0_sum_w l D A cI cJ cD cC (tc_T cI cJ cD cC h0 h1 h2 h3 h4 ad wd rd Y n K Ln Wh Re (kCol (K j)) (noteC ct (kCol (K j)))) (5 + (Y.length + (3 * j + 0))) (5 + (Y.length + (3 * j + 1))) (5 + (Y.length + (3 * j + 2))) (ad j) (wd j) (rd j) (K j) (tc_cl (K j) (Ln j)) (tc_wl (K j) (Ln j)) (tc_rl (K j) (Ln j)) (tc_sl (tc_wl (K j) (Ln j)) (fun i => Wh (40 * j + i)) 0) (tc_sl (tc_rl (K j) (Ln j)) (fun i => Re (40 * j + i)) 0) H.size (tc_T0 hj) (tc_T1 hj) (tc_T2 hj) (tc_len_lt (hI.2.1 j hj).2.1) gf gl) (cwV 0 hts gX2_total_X0_sum rfl rfl rfl (by decide +kernel) ⟨Nat.le_of_ble_eq_true rfl, Nat.le_of_ble_eq_true rfl⟩) ⟨tcP.blind, (va_recv hK hP (ci := 0) (q0 := (5 + (Y.length + (3 * j + 0)))) rfl (tc_T0 hj)), (tcP.go hK hP hD hE hS)⟩ rfl rfl hl.1 rfl (lv_room (Nat.le_of_ble_eq_true rfl)) dX2_total_20 ⟨Nat.le_of_ble_eq_true rfl, Nat.le_of_ble_eq_true rfl⟩)) (fun r_4 hr_4 => ?_)
      subst hr_4
      rw [tot_w c_3 gf]
      refine lv_goto (tgt := 27) hx hb dX2_total_23 (by decide) ?_
      exact W.dret (v := (tot K Ln Wh Re j)) hx hb hr (fun t9 ht9 hW9 => ⟨⟨(tot K Ln Wh Re j), (), rfl, rfl, by rw [ht9]; exact hP, hD⟩, hS.F ht9⟩) hS.2.2 dX2_total_27
    · have gl : tc_cl (K j) (Ln j) = nI (tc_rl (K j) (Ln j)) := by rw [tc_cl_has (kFl_has gf), tc_rl_n gf]
      refine vp_callSd (tc_CR (va_runV (As := []) (rest := []) ⟨hx, hb, hml, hown, hts⟩ (oX0_sum_r l D A cI cJ cD cC (tc_T cI cJ cD cC h0 h1 h2 h3 h4 ad wd rd Y n K Ln Wh Re (kCol (K j)) (noteC ct (kCol (K j)))) (5 + (Y.length + (3 * j + 0))) (5 + (Y.length + (3 * j + 1))) (5 + (Y.length + (3 * j + 2))) (ad j) (wd j) (rd j) (K j) (tc_cl (K j) (Ln j)) (tc_wl (K j) (Ln j)) (tc_rl (K j) (Ln j)) (tc_sl (tc_wl (K j) (Ln j)) (fun i => Wh (40 * j + i)) 0) (tc_sl (tc_rl (K j) (Ln j)) (fun i => Re (40 * j + i)) 0) H.size (tc_T0 hj) (tc_T1 hj) (tc_T2 hj) (tc_len_lt (hI.2.1 j hj).2.1) gf gl) (cwV 0 hts gX2_total_X0_sum rfl rfl rfl (by decide +kernel) ⟨Nat.le_of_ble_eq_true rfl, Nat.le_of_ble_eq_true rfl⟩) ⟨tcP.blind, (va_recv hK hP (ci := 0) (q0 := (5 + (Y.length + (3 * j + 0)))) rfl (tc_T0 hj)), (tcP.go hK hP hD hE hS)⟩ rfl rfl hl.1 rfl (lv_room (Nat.le_of_ble_eq_true rfl)) dX2_total_20 ⟨Nat.le_of_ble_eq_true rfl, Nat.le_of_ble_eq_true rfl⟩)) (fun r_5 hr_5 => ?_)
      subst hr_5
      rw [tot_r c_3 gf]
      refine lv_goto (tgt := 27) hx hb dX2_total_23 (by decide) ?_
      exact W.dret (v := (tot K Ln Wh Re j)) hx hb hr (fun t9 ht9 hW9 => ⟨⟨(tot K Ln Wh Re j), (), rfl, rfl, by rw [ht9]; exact hP, hD⟩, hS.F ht9⟩) hS.2.2 dX2_total_27
end
section
/-! OBJECTS AND ARRAYS THAT ARE MADE -/
def tc_put {α : Type} (n N : Nat) (V : Nat → α) (z : α) (f : Nat → α) : Nat → α := fun x => if 40 * n ≤ x ∧ x < 40 * n + 40 then (if x - 40 * n < N then V (x - 40 * n) else z) else f x
theorem tc_put_out {α : Type} {n N j i : Nat} {V : Nat → α} {z : α} {f : Nat → α} (hj : j < n) (hi : i < 40) : tc_put n N V z f (40 * j + i) = f (40 * j + i) := by
  unfold tc_put; rw [if_neg (by omega)]
theorem tc_put_in {α : Type} {n N i : Nat} {V : Nat → α} {z : α} {f : Nat → α} (hi : i < 40) : tc_put n N V z f (40 * n + i) = if i < N then V i else z := by
  unfold tc_put; rw [if_pos (by omega), show 40 * n + i - 40 * n = i from by omega]
theorem tc_sl_put {α : Type} {m n N : Nat} {V : Nat → α} {z : α} {f : Nat → α} (hm : m ≤ 40) (hN : m = 0 ∨ m = N) : tc_sl m (fun i => tc_put n N V z f (40 * n + i)) z = tc_mix V (fun _ => z) m := by
  funext i
  show (if i < m then tc_put n N V z f (40 * n + i) else z) = (if i < m then V i else z)
  by_cases h : i < m
  · rw [if_pos h, if_pos h, tc_put_in (by omega), if_pos (by omega)]
  · rw [if_neg h, if_neg h]
theorem tc_app_mid {α : Type} {ws v : List α} {x : α} : (ws ++ (x :: v))[ws.length]? = some x := by simp
theorem tc_app_mid1 {α : Type} {ws v : List α} {x y : α} : (ws ++ (x :: y :: v))[ws.length + 1]? = some y := by
  rw [List.getElem?_append_right (by omega), show ws.length + 1 - ws.length = 1 from by omega]; rfl
theorem tc_app_mid2 {α : Type} {ws v : List α} {x y z : α} : (ws ++ (x :: y :: z :: v))[ws.length + 2]? = some z := by
  rw [List.getElem?_append_right (by omega), show ws.length + 2 - ws.length = 2 from by omega]; rfl
theorem tc_app_mid_set1 {α : Type} {ws v : List α} {x y w : α} : (ws ++ (x :: y :: v)).set (ws.length + 1) w = ws ++ (x :: w :: v) := by
  rw [List.set_append_right _ _ (by omega), show ws.length + 1 - ws.length = 1 from by omega]; rfl
theorem tc_app_mid_set2 {α : Type} {ws v : List α} {x y z w : α} : (ws ++ (x :: y :: z :: v)).set (ws.length + 2) w = ws ++ (x :: y :: w :: v) := by
  rw [List.set_append_right _ _ (by omega), show ws.length + 2 - ws.length = 2 from by omega]; rfl
theorem tcu_at {α : Type} (f : Nat → α) (k : Nat) (v : α) : va_up f k v k = v := if_pos rfl
theorem tcu_ne {α : Type} (f : Nat → α) {k j : Nat} (v : α) (h : j ≠ k) : va_up f k v j = f j := if_neg h
section TCN
variable {cI cJ cD cC : ClassId} {h0 h1 h2 h3 h4 : Nat} {ad wd rd : Nat → Nat} {Y : va_W} {n : Nat} {K : Nat → Int32} {Ln : Nat → Nat} {Wh Wh' : Nat → Int64} {Re Re' : Nat → UInt64} {cd : Int32} {ct : Nat → Int32}
/-- a column more -/
theorem tc_T_add {q u1 u2 N : Nat} {kd : Int32} {F : Nat → Int64} {G : Nat → UInt64} (hL : ∀ j, j < n → Ln j ≤ 40) (hW : ∀ j i, j < n → i < 40 → Wh' (40 * j + i) = Wh (40 * j + i)) (hR : ∀ j i, j < n → i < 40 → Re' (40 * j + i) = Re (40 * j + i))
    (hF : tc_sl (tc_wl kd N) (fun i => Wh' (40 * n + i)) 0 = F) (hG : tc_sl (tc_rl kd N) (fun i => Re' (40 * n + i)) 0 = G) :
    ((tc_T cI cJ cD cC h0 h1 h2 h3 h4 ad wd rd Y n K Ln Wh Re cd ct ++ ([(q, .inr (0, [.int kd, .int (tc_cl kd N), .ref u1, .ref u2])), (u1, .inl (cJ, tc_wl kd N, .inr (.inl F))), (u2, .inl (cD, tc_rl kd N, .inr (.inr (.inr (.inl G)))))] : va_W)).set 1 (h1, .inl (cC, 60, .inr (.inr (.inr (.inr (va_up (fun j => if j < n then some (ad j) else none) n (some q)))))))).set 0 (h0, .inr (2, [.ref h1, .ref h2, .ref h3, .int (nI n + 1), .int cd])) = tc_T cI cJ cD cC h0 h1 h2 h3 h4 (va_up ad n q) (va_up wd n u1) (va_up rd n u2) Y (n + 1) (va_up K n kd) (va_up Ln n N) Wh' Re' cd ct := by
  have e : tc_fl (tc_col cJ cD (va_up ad n q) (va_up wd n u1) (va_up rd n u2) (va_up K n kd) (va_up Ln n N) Wh' Re') (n + 1) = tc_fl (tc_col cJ cD ad wd rd K Ln Wh Re) n ++ ([(q, .inr (0, [.int kd, .int (tc_cl kd N), .ref u1, .ref u2])), (u1, .inl (cJ, tc_wl kd N, .inr (.inl F))), (u2, .inl (cD, tc_rl kd N, .inr (.inr (.inr (.inl G)))))] : va_W) := by
    show tc_fl _ n ++ tc_col _ _ _ _ _ _ _ _ _ n = _
    have e1 : tc_fl (tc_col cJ cD (va_up ad n q) (va_up wd n u1) (va_up rd n u2) (va_up K n kd) (va_up Ln n N) Wh' Re') n = tc_fl (tc_col cJ cD ad wd rd K Ln Wh Re) n := by
      refine tc_fl_congr n (fun j hj => ?_)
      have hne : j ≠ n := by omega
      have hl := hL j hj
      have hwl : tc_wl (K j) (Ln j) ≤ 40 := by unfold tc_wl; split <;> omega
      have hrl : tc_rl (K j) (Ln j) ≤ 40 := by unfold tc_rl; split <;> omega
      unfold tc_col
      rw [tcu_ne ad q hne, tcu_ne wd u1 hne, tcu_ne rd u2 hne, tcu_ne K kd hne, tcu_ne Ln N hne,
        tc_sl_congr (f := fun i => Wh' (40 * j + i)) (g := fun i => Wh (40 * j + i)) (fun i hi => hW j i hj (by omega)),
        tc_sl_congr (f := fun i => Re' (40 * j + i)) (g := fun i => Re (40 * j + i)) (fun i hi => hR j i hj (by omega))]
    rw [e1]
    unfold tc_col
    rw [tcu_at, tcu_at, tcu_at, tcu_at, tcu_at, hF, hG]
  have ef : (fun j => if j < n + 1 then some (va_up ad n q j) else none) = va_up (fun j => if j < n then some (ad j) else none) n (some q) := by
    funext j
    show (if j < n + 1 then some (if j = n then q else ad j) else none) = (if j = n then some q else (if j < n then some (ad j) else none))
    by_cases h : j = n
    · rw [if_pos (show j < n + 1 by omega), if_pos h, if_pos h]
    · by_cases h2 : j < n
      · rw [if_pos (show j < n + 1 by omega), if_neg h, if_neg h, if_pos h2]
      · rw [if_neg (show ¬ j < n + 1 by omega), if_neg h, if_neg h2]
  unfold tc_T
  rw [e, List.append_assoc, List.append_assoc, ← nI_succ]
  unfold tc_hd
  rw [ef]
  rfl
end TCN
def wdC (K : Nat → Int32) (j : Nat) (kd : Int32) : Int32 := if kCol (K j) = 0 then (if kWid (K j) kd = true then 0 else 4) else kCol (K j)
def wdV (K : Nat → Int32) (Wh : Nat → Int64) (Re : Nat → UInt64) (j : Nat) (kd : Int32) : Nat → UInt64 := fun i => if kFl kd = false then 0 else if kFl (K j) = true then Re (40 * j + i) else if kd = 7 then FP.f2d (FP.l2f (Wh (40 * j + i))) else FP.l2d (Wh (40 * j + i))
theorem wdC_in (K : Nat → Int32) (j : Nat) (kd : Int32) : vp_in (wdC K j kd) 6 := by
  unfold wdC
  by_cases h : kCol (K j) = 0
  · rw [if_pos h]
    by_cases h2 : kWid (K j) kd = true
    · rw [if_pos h2]; unfold vp_in; decide
    · rw [if_neg h2]; unfold vp_in; decide
  · rw [if_neg h]; exact kCol_in _
theorem wdC_0 {K : Nat → Int32} {j : Nat} {kd : Int32} (h : wdC K j kd = 0) : kCol (K j) = 0 ∧ kWid (K j) kd = true := by
  unfold wdC at h
  by_cases h1 : kCol (K j) = 0
  · rw [if_pos h1] at h
    by_cases h2 : kWid (K j) kd = true
    · exact ⟨h1, h2⟩
    · rw [if_neg h2] at h; exact absurd h (by decide)
  · rw [if_neg h1] at h; exact absurd h h1
theorem tc_mix_eq {α : Type} {V V' g : Nat → α} {N : Nat} (h : ∀ i, i < N → V i = V' i) : tc_mix V g N = tc_mix V' g N := by
  funext i
  unfold tc_mix
  by_cases q : i < N
  · rw [if_pos q, if_pos q, h i q]
  · rw [if_neg q, if_neg q]
theorem wl_or (k : Int32) (N : Nat) : tc_wl k N = 0 ∨ tc_wl k N = N := by unfold tc_wl; split <;> omega
theorem rl_or (k : Int32) (N : Nat) : tc_rl k N = 0 ∨ tc_rl k N = N := by unfold tc_rl; split <;> omega
theorem wl_le {k : Int32} {N : Nat} (h : N ≤ 40) : tc_wl k N ≤ 40 := by unfold tc_wl; split <;> omega
theorem rl_le {k : Int32} {N : Nat} (h : N ≤ 40) : tc_rl k N ≤ 40 := by unfold tc_rl; split <;> omega
theorem tc_wl_z {k : Int32} (N : Nat) (h : kFl k = true) : tc_wl k N = 0 := by unfold tc_wl; rw [if_pos h]
theorem tc_sl_nil {α : Type} {m : Nat} (hm : m = 0) (f : Nat → α) (z : α) : tc_sl m f z = (fun _ => z) := by
  subst hm; funext i; exact tc_sl_0 f z i
theorem wd_F {α : Type} {m n N j : Nat} {f : Nat → α} {z : α} {L : Nat} (hN : N ≤ 40) (hm : m = N) (hL : L = N) : tc_sl m (fun i => tc_put n N (fun i => f (40 * j + i)) z f (40 * n + i)) z = tc_mix (tc_sl L (fun i => f (40 * j + i)) z) (fun _ => z) N := by
  subst hm; subst hL
  rw [tc_sl_put hN (Or.inr rfl)]
  exact tc_mix_eq (fun i hi => by rw [tc_sl_in hi])
theorem wd_G {α : Type} {m n N : Nat} {V V' f : Nat → α} {z : α} (hN : N ≤ 40) (hm : m = N) (hv : ∀ i, i < N → V i = V' i) : tc_sl m (fun i => tc_put n N V z f (40 * n + i)) z = tc_mix V' (fun _ => z) N := by
  subst hm
  rw [tc_sl_put hN (Or.inr rfl)]
  exact tc_mix_eq hv
theorem wdV_r {K : Nat → Int32} {Wh : Nat → Int64} {Re : Nat → UInt64} {j L : Nat} {kd : Int32} (gkf : kFl kd = true) (gf : kFl (K j) = true) {i : Nat} (hi : i < L) : wdV K Wh Re j kd i = tc_sl L (fun i => Re (40 * j + i)) 0 i := by
  unfold wdV; rw [if_neg (by rw [gkf]; decide), if_pos gf, tc_sl_in hi]
theorem wdV_f {K : Nat → Int32} {Wh : Nat → Int64} {Re : Nat → UInt64} {j L : Nat} {kd : Int32} (gkf : kFl kd = true) (gf : kFl (K j) = false) (gk : kd = 7) {i : Nat} (hi : i < L) : wdV K Wh Re j kd i = FP.f2d (FP.l2f (tc_sl L (fun i => Wh (40 * j + i)) 0 i)) := by
  unfold wdV; rw [if_neg (by rw [gkf]; decide), if_neg (by rw [gf]; decide), if_pos gk, tc_sl_in hi]
theorem wdV_d {K : Nat → Int32} {Wh : Nat → Int64} {Re : Nat → UInt64} {j L : Nat} {kd : Int32} (gkf : kFl kd = true) (gf : kFl (K j) = false) (gk : kd = 8) {i : Nat} (hi : i < L) : wdV K Wh Re j kd i = FP.l2d (tc_sl L (fun i => Wh (40 * j + i)) 0 i) := by
  unfold wdV; rw [if_neg (by rw [gkf]; decide), if_neg (by rw [gf]; decide), if_neg (by rw [gk]; decide), tc_sl_in hi]
theorem tc_rl_z {k : Int32} (N : Nat) (h : kFl k = false) : tc_rl k N = 0 := by unfold tc_rl; rw [if_neg (by rw [h]; decide)]
set_option maxHeartbeats 4000000 in
set_option maxRecDepth 100000 in
theorem oX0_init (l : Launch) (D : va_G) (A : Nat → Prop) (cI cJ cD cC : ClassId) (ws : va_W) (p0 a sz : Nat) (e0 : ws[p0]? = some (a, .inr (0, [.int 0, .int 0, .null, .null]))) (hA : ∀ q, sz ≤ q → A q) (k : Int32) (len : Int32) (N : Nat) (hN : N ≤ 40) (hlen : kHas k = true → len = nI N) (hz : kHas k = false → N = 0) : Met l yX0_init wsX0_init ({ frames := 1, cells := 2, slots := 40, locals := 20 }) (tcP D A (tcTY cI cJ cD cC) sz [.ref a, .int k, .int len] ws) (va_Qv (fun _ : Nat × Nat => True) (fun u t => tcB D A (ws.set p0 (a, .inr (0, [.int k, .int (tc_cl k N), .ref u.1, .ref u.2])) ++ ([(u.1, .inl (cJ, tc_wl k N, .inr (.inl (fun _ => 0)))), (u.2, .inl (cD, tc_rl k N, .inr (.inr (.inr (.inl (fun _ => 0))))))] : va_W)) t) A) 2 40 A := by
  refine Met.ofW (cc := cX0_init) (maxL := 4) (ret := none) (by decide) rfl ?_
  intro p e s m args below meth c s₁ B hml hv
  obtain ⟨rfl, hsz, hP, hK, hD, hE⟩ := hv
  have hx := B.exec
  have hb := B.bytes
  have hr := B.returns
  have hts := atoms_spec (ws := wsX0_init) B.pre
  have hown : s.vm.findClass RX0 = some m.cls := findClass_of_methodNamed B.named
  have hlocks := B.notSynchronized
  have hl := lv_entry ([.ref a, .int k, .int len]) (n := 4) (Nat.le_of_ble_eq_true rfl)
  rw [lg_entry_eq]
  generalize (lg_sl ([.ref a, .int k, .int len]) ++ List.replicate (4 - (lg_sl ([.ref a, .int k, .int len])).length) Slot.unset).toArray = ls at hl ⊢
  have hl : lv_has ls 4 [(0, .ref a), (1, .int k), (2, .int len)] := hl
  subst hsz
  have hS : va_S A s.heap s.heap [] := va_S.rf
  have hin : meth.name = "<init>" := (name_of_methodNamed B.named B.method).1
  refine lv_aload_n hx hb dX0_init_0 rfl (lv_at hl 0 rfl) ?_
  refine W.objInit hx hb hown (hts (.methodLink RX0 3 objectInit) (by decide +kernel)) (hts (.instanceMethod objectInit) (by decide +kernel)) (hts _ (List.mem_cons_of_mem _ (List.mem_append_left _ (List.mem_of_getElem? (i := 2) rfl)))) rfl (by rw [hml]; exact hl.1) rfl dX0_init_1 (Nat.le_of_ble_eq_true rfl) (Nat.le_of_ble_eq_true rfl) ?_
  refine W.eq (g2 := F0 m 4 ls []) rfl ?_
  refine lv_iload_n hx hb dX0_init_4 rfl (lv_at hl 1 rfl) ?_
  refine vp_callSi (tc_CR (va_runSN (As := [.int k]) (rest := []) ⟨hx, hb, hml, hown, hts⟩ (kX2_holdsCells l k) ⟨va_cnB 1 hts gX0_init_X2_holdsCells_n9 rfl rfl rfl (hE.2.2.2.1) (hts (.initialized RX2) (by decide +kernel)) (by decide +kernel) ⟨Nat.le_of_ble_eq_true rfl, Nat.le_of_ble_eq_true rfl⟩, hts (.static yX2_holdsCells) (by decide +kernel), trivial⟩ ⟨fun a U g mk q => q, fun U hU hW => ⟨rfl, trivial⟩⟩ rfl rfl hl.1 rfl (lv_room (Nat.le_of_ble_eq_true rfl)) dX0_init_5 ⟨by show _ ≤ 2; omega, by show _ ≤ 40; omega⟩)) (fun r_1 hr_1 => ?_)
  subst hr_1
  refine lv_if_eq (tgt := 22) hx hb dX0_init_8 (by decide) (fun c_2 => ?_) (fun c_2 => ?_)
  · refine lv_iconst (v := 0) hx hb dX0_init_22 (by decide) ?_
    have gN := hz ((tb_0 _).mp c_2)
    subst gN
    refine lv_istore_n (lv' := [(3, .int 0), (0, .ref a), (1, .int k), (2, .int len)]) hx hb dX0_init_23 rfl hl (by decide) rfl (fun ls hl => ?_)
    refine lv_aload_n hx hb dX0_init_24 rfl (lv_at hl 1 rfl) ?_
    refine lv_iload_n hx hb dX0_init_25 rfl (lv_at hl 2 rfl) ?_
    refine va_putF (D := D) (ci := 0) (fs := [.int 0, .int 0, .null, .null]) (v := .int k) (ty := .int) (C := RX0) (T := TX0) (N := 4) hx hb hts (by decide +kernel) tyX0 tyX0_ok nmX0 hown hK hP hD hS p0 e0 rfl 0 (by decide) (hts (.fieldLink RX0 16 "TypedColumns$Column" "kind" "I") (by decide +kernel)) (fun _ h9 => h9) rfl hin rfl (by decide +kernel) rfl rfl (Nat.le_of_ble_eq_true rfl) dX0_init_26 (fun H locs hP hD hS => ?_)
    have hP : va_P D vwCl (ws.set p0 (a, .inr (0, [.int k, .int 0, .null, .null]))) H := hP
    have hD : va_D A (ws.set p0 (a, .inr (0, [.int k, .int 0, .null, .null]))) := hD
    refine lv_aload_n hx hb dX0_init_29 rfl (lv_at hl 1 rfl) ?_
    refine lv_iload_n hx hb dX0_init_30 rfl (lv_at hl 2 rfl) ?_
    refine vp_callSi (tc_CR (va_runSN (As := [.int k]) (rest := [.ref a]) ⟨hx, hb, hml, hown, hts⟩ (kX2_holdsCells l k) ⟨va_cnB 1 hts gX0_init_X2_holdsCells_n9 rfl rfl rfl (hE.2.2.2.1) (hts (.initialized RX2) (by decide +kernel)) (by decide +kernel) ⟨Nat.le_of_ble_eq_true rfl, Nat.le_of_ble_eq_true rfl⟩, hts (.static yX2_holdsCells) (by decide +kernel), trivial⟩ ⟨fun a U g mk q => q, fun U hU hW => ⟨rfl, trivial⟩⟩ rfl rfl hl.1 rfl (lv_room (Nat.le_of_ble_eq_true rfl)) dX0_init_31 ⟨by show _ ≤ 2; omega, by show _ ≤ 40; omega⟩)) (fun r_3 hr_3 => ?_)
    subst hr_3
    refine lv_if_eq (tgt := 41) hx hb dX0_init_34 (by decide) (fun _ => ?_) (fun q => absurd (c_2) q)
    refine lv_iconst (v := (-1)) hx hb dX0_init_41 (by decide) ?_
    refine va_putF (D := D) (ci := 0) (fs := [.int k, .int 0, .null, .null]) (v := .int (-1)) (ty := .int) (C := RX0) (T := TX0) (N := 4) hx hb hts (by decide +kernel) tyX0 tyX0_ok nmX0 hown hK hP hD hS p0 (tc_set_self e0) rfl 1 (by decide) (hts (.fieldLink RX0 22 "TypedColumns$Column" "length" "I") (by decide +kernel)) (fun _ h9 => h9) rfl hin rfl (by decide +kernel) rfl rfl (Nat.le_of_ble_eq_true rfl) dX0_init_42 (fun H locs hP hD hS => ?_)
    rw [List.set_set] at hP hD
    have hP : va_P D vwCl (ws.set p0 (a, .inr (0, [.int k, .int (-1), .null, .null]))) H := hP
    have hD : va_D A (ws.set p0 (a, .inr (0, [.int k, .int (-1), .null, .null]))) := hD
    refine lv_aload_n hx hb dX0_init_45 rfl (lv_at hl 1 rfl) ?_
    refine lv_iload_n hx hb dX0_init_46 rfl (lv_at hl 2 rfl) ?_
    refine vp_callSi (tc_CR (va_runSN (As := [.int k]) (rest := [.ref a]) ⟨hx, hb, hml, hown, hts⟩ (kX2_isFloating l k) ⟨va_cnB 1 hts gX0_init_X2_isFloating_n25 rfl rfl rfl (hE.2.2.2.2.2.1) (hts (.initialized RX2) (by decide +kernel)) (by decide +kernel) ⟨Nat.le_of_ble_eq_true rfl, Nat.le_of_ble_eq_true rfl⟩, hts (.static yX2_isFloating) (by decide +kernel), trivial⟩ ⟨fun a U g mk q => q, fun U hU hW => ⟨rfl, trivial⟩⟩ rfl rfl hl.1 rfl (lv_room (Nat.le_of_ble_eq_true rfl)) dX0_init_47 ⟨by show _ ≤ 2; omega, by show _ ≤ 40; omega⟩)) (fun r_5 hr_5 => ?_)
    subst hr_5
    refine lv_if_eq (tgt := 57) hx hb dX0_init_50 (by decide) (fun c_6 => ?_) (fun c_6 => ?_)
    · refine lv_iload_n hx hb dX0_init_57 rfl (lv_at hl 0 rfl) ?_
      refine va_newa (atype := .long) (ty := .long) (N' := 0) (a0 := (0, .inr (.inl (fun _ => 0)))) hx hb (hts (.arrayClass .long) (by decide +kernel)) rfl hK hP hD hS hA (fun _ => rfl) (by decide) (rfl) (Nat.le_of_ble_eq_true rfl) (Nat.le_of_ble_eq_true rfl) (Nat.le_of_ble_eq_true rfl) dX0_init_58 (fun q_7 cA_8 H hK1 hP hD hS => ?_)
      have hcA_8 : cJ = cA_8 := tc_uniq hK1 (i := 1) (j := 4) rfl rfl
      subst hcA_8
      clear hK1
      have hP : va_P D vwCl ((ws.set p0 (a, .inr (0, [.int k, .int (-1), .null, .null]))) ++ ([(q_7, .inl (cJ, 0, .inr (.inl (fun _ => 0))))] : va_W)) H := hP
      have hD : va_D A ((ws.set p0 (a, .inr (0, [.int k, .int (-1), .null, .null]))) ++ ([(q_7, .inl (cJ, 0, .inr (.inl (fun _ => 0))))] : va_W)) := hD
      refine va_putF (D := D) (ci := 0) (fs := [.int k, .int (-1), .null, .null]) (v := .ref q_7) (ty := .array .long) (C := RX0) (T := TX0) (N := 4) hx hb hts (by decide +kernel) tyX0 tyX0_ok nmX0 hown hK hP hD hS p0 (tc_app_l (tc_set_self e0)) rfl 2 (by decide) (hts (.fieldLink RX0 28 "TypedColumns$Column" "wholes" "[J") (by decide +kernel)) (fun _ h9 => h9) rfl hin rfl (by decide +kernel) rfl rfl (Nat.le_of_ble_eq_true rfl) dX0_init_60 (fun H locs hP hD hS => ?_)
      rw [tc_app_set (tc_set_self e0), List.set_set] at hP hD
      have hP : va_P D vwCl ((ws.set p0 (a, .inr (0, [.int k, .int (-1), .ref q_7, .null]))) ++ ([(q_7, .inl (cJ, 0, .inr (.inl (fun _ => 0))))] : va_W)) H := hP
      have hD : va_D A ((ws.set p0 (a, .inr (0, [.int k, .int (-1), .ref q_7, .null]))) ++ ([(q_7, .inl (cJ, 0, .inr (.inl (fun _ => 0))))] : va_W)) := hD
      refine lv_aload_n hx hb dX0_init_63 rfl (lv_at hl 1 rfl) ?_
      refine lv_iload_n hx hb dX0_init_64 rfl (lv_at hl 2 rfl) ?_
      refine vp_callSi (tc_CR (va_runSN (As := [.int k]) (rest := [.ref a]) ⟨hx, hb, hml, hown, hts⟩ (kX2_isFloating l k) ⟨va_cnB 1 hts gX0_init_X2_isFloating_n25 rfl rfl rfl (hE.2.2.2.2.2.1) (hts (.initialized RX2) (by decide +kernel)) (by decide +kernel) ⟨Nat.le_of_ble_eq_true rfl, Nat.le_of_ble_eq_true rfl⟩, hts (.static yX2_isFloating) (by decide +kernel), trivial⟩ ⟨fun a U g mk q => q, fun U hU hW => ⟨rfl, trivial⟩⟩ rfl rfl hl.1 rfl (lv_room (Nat.le_of_ble_eq_true rfl)) dX0_init_65 ⟨by show _ ≤ 2; omega, by show _ ≤ 40; omega⟩)) (fun r_9 hr_9 => ?_)
      subst hr_9
      refine lv_if_eq (tgt := 75) hx hb dX0_init_68 (by decide) (fun _ => ?_) (fun q => absurd (c_6) q)
      refine lv_iconst (v := 0) hx hb dX0_init_75 (by decide) ?_
      refine va_newa (atype := .double) (ty := .double) (N' := 0) (a0 := (0, .inr (.inr (.inr (.inl (fun _ => 0)))))) hx hb (hts (.arrayClass .double) (by decide +kernel)) rfl hK hP hD hS hA (fun _ => rfl) (by decide) (rfl) (Nat.le_of_ble_eq_true rfl) (Nat.le_of_ble_eq_true rfl) (by show _ ≤ 40; omega) dX0_init_76 (fun q_11 cA_12 H hK1 hP hD hS => ?_)
      have hcA_12 : cD = cA_12 := tc_uniq hK1 (i := 2) (j := 4) rfl rfl
      subst hcA_12
      clear hK1
      have hP : va_P D vwCl (((ws.set p0 (a, .inr (0, [.int k, .int (-1), .ref q_7, .null]))) ++ ([(q_7, .inl (cJ, 0, .inr (.inl (fun _ => 0))))] : va_W)) ++ ([(q_11, .inl (cD, 0, .inr (.inr (.inr (.inl (fun _ => 0))))))] : va_W)) H := hP
      have hD : va_D A (((ws.set p0 (a, .inr (0, [.int k, .int (-1), .ref q_7, .null]))) ++ ([(q_7, .inl (cJ, 0, .inr (.inl (fun _ => 0))))] : va_W)) ++ ([(q_11, .inl (cD, 0, .inr (.inr (.inr (.inl (fun _ => 0))))))] : va_W)) := hD
      refine va_putF (D := D) (ci := 0) (fs := [.int k, .int (-1), .ref q_7, .null]) (v := .ref q_11) (ty := .array .double) (C := RX0) (T := TX0) (N := 4) hx hb hts (by decide +kernel) tyX0 tyX0_ok nmX0 hown hK hP hD hS p0 (tc_app_l (tc_app_l (tc_set_self e0))) rfl 3 (by decide) (hts (.fieldLink RX0 32 "TypedColumns$Column" "reals" "[D") (by decide +kernel)) (fun _ h9 => h9) rfl hin rfl (by decide +kernel) rfl rfl (Nat.le_of_ble_eq_true rfl) dX0_init_78 (fun H locs hP hD hS => ?_)
      rw [tc_app_set (tc_app_l (tc_set_self e0)), tc_app_set (tc_set_self e0), List.set_set] at hP hD
      have hP : va_P D vwCl (((ws.set p0 (a, .inr (0, [.int k, .int (-1), .ref q_7, .ref q_11]))) ++ ([(q_7, .inl (cJ, 0, .inr (.inl (fun _ => 0))))] : va_W)) ++ ([(q_11, .inl (cD, 0, .inr (.inr (.inr (.inl (fun _ => 0))))))] : va_W)) H := hP
      have hD : va_D A (((ws.set p0 (a, .inr (0, [.int k, .int (-1), .ref q_7, .ref q_11]))) ++ ([(q_7, .inl (cJ, 0, .inr (.inl (fun _ => 0))))] : va_W)) ++ ([(q_11, .inl (cD, 0, .inr (.inr (.inr (.inl (fun _ => 0))))))] : va_W)) := hD
      have z1 : tc_cl k 0 = -1 := by unfold tc_cl; rw [if_neg (by rw [((tb_0 _).mp c_2)]; decide)]
      have z2 : tc_wl k 0 = 0 := by unfold tc_wl; split <;> rfl
      have z3 : tc_rl k 0 = 0 := by unfold tc_rl; split <;> rfl
      rw [List.append_assoc] at hP hD
      refine W.widen (k := 2) (n := 40) (Nat.le_of_ble_eq_true rfl) (Nat.le_of_ble_eq_true rfl) ?_
      exact W.vret hx hb hr (fun t9 ht9 hW9 => ⟨⟨(q_7, q_11), rfl, trivial, by rw [ht9, z1, z2, z3]; exact hP, by rw [z1, z2, z3]; exact hD⟩, hS.F ht9⟩) hS.2.2 dX0_init_81
    · refine lv_iconst (v := 0) hx hb dX0_init_53 (by decide) ?_
      refine lv_goto (tgt := 58) hx hb dX0_init_54 (by decide) ?_
      refine va_newa (atype := .long) (ty := .long) (N' := 0) (a0 := (0, .inr (.inl (fun _ => 0)))) hx hb (hts (.arrayClass .long) (by decide +kernel)) rfl hK hP hD hS hA (fun _ => rfl) (by decide) (rfl) (Nat.le_of_ble_eq_true rfl) (Nat.le_of_ble_eq_true rfl) (Nat.le_of_ble_eq_true rfl) dX0_init_58 (fun q_13 cA_14 H hK1 hP hD hS => ?_)
      have hcA_14 : cJ = cA_14 := tc_uniq hK1 (i := 1) (j := 4) rfl rfl
      subst hcA_14
      clear hK1
      have hP : va_P D vwCl ((ws.set p0 (a, .inr (0, [.int k, .int (-1), .null, .null]))) ++ ([(q_13, .inl (cJ, 0, .inr (.inl (fun _ => 0))))] : va_W)) H := hP
      have hD : va_D A ((ws.set p0 (a, .inr (0, [.int k, .int (-1), .null, .null]))) ++ ([(q_13, .inl (cJ, 0, .inr (.inl (fun _ => 0))))] : va_W)) := hD
      refine va_putF (D := D) (ci := 0) (fs := [.int k, .int (-1), .null, .null]) (v := .ref q_13) (ty := .array .long) (C := RX0) (T := TX0) (N := 4) hx hb hts (by decide +kernel) tyX0 tyX0_ok nmX0 hown hK hP hD hS p0 (tc_app_l (tc_set_self e0)) rfl 2 (by decide) (hts (.fieldLink RX0 28 "TypedColumns$Column" "wholes" "[J") (by decide +kernel)) (fun _ h9 => h9) rfl hin rfl (by decide +kernel) rfl rfl (Nat.le_of_ble_eq_true rfl) dX0_init_60 (fun H locs hP hD hS => ?_)
      rw [tc_app_set (tc_set_self e0), List.set_set] at hP hD
      have hP : va_P D vwCl ((ws.set p0 (a, .inr (0, [.int k, .int (-1), .ref q_13, .null]))) ++ ([(q_13, .inl (cJ, 0, .inr (.inl (fun _ => 0))))] : va_W)) H := hP
      have hD : va_D A ((ws.set p0 (a, .inr (0, [.int k, .int (-1), .ref q_13, .null]))) ++ ([(q_13, .inl (cJ, 0, .inr (.inl (fun _ => 0))))] : va_W)) := hD
      refine lv_aload_n hx hb dX0_init_63 rfl (lv_at hl 1 rfl) ?_
      refine lv_iload_n hx hb dX0_init_64 rfl (lv_at hl 2 rfl) ?_
      refine vp_callSi (tc_CR (va_runSN (As := [.int k]) (rest := [.ref a]) ⟨hx, hb, hml, hown, hts⟩ (kX2_isFloating l k) ⟨va_cnB 1 hts gX0_init_X2_isFloating_n25 rfl rfl rfl (hE.2.2.2.2.2.1) (hts (.initialized RX2) (by decide +kernel)) (by decide +kernel) ⟨Nat.le_of_ble_eq_true rfl, Nat.le_of_ble_eq_true rfl⟩, hts (.static yX2_isFloating) (by decide +kernel), trivial⟩ ⟨fun a U g mk q => q, fun U hU hW => ⟨rfl, trivial⟩⟩ rfl rfl hl.1 rfl (lv_room (Nat.le_of_ble_eq_true rfl)) dX0_init_65 ⟨by show _ ≤ 2; omega, by show _ ≤ 40; omega⟩)) (fun r_15 hr_15 => ?_)
      subst hr_15
      refine lv_if_eq (tgt := 75) hx hb dX0_init_68 (by decide) (fun q => absurd q (c_6)) (fun _ => ?_)
      refine lv_iload_n hx hb dX0_init_71 rfl (lv_at hl 0 rfl) ?_
      refine lv_goto (tgt := 76) hx hb dX0_init_72 (by decide) ?_
      refine va_newa (atype := .double) (ty := .double) (N' := 0) (a0 := (0, .inr (.inr (.inr (.inl (fun _ => 0)))))) hx hb (hts (.arrayClass .double) (by decide +kernel)) rfl hK hP hD hS hA (fun _ => rfl) (by decide) (rfl) (Nat.le_of_ble_eq_true rfl) (Nat.le_of_ble_eq_true rfl) (by show _ ≤ 40; omega) dX0_init_76 (fun q_17 cA_18 H hK1 hP hD hS => ?_)
      have hcA_18 : cD = cA_18 := tc_uniq hK1 (i := 2) (j := 4) rfl rfl
      subst hcA_18
      clear hK1
      have hP : va_P D vwCl (((ws.set p0 (a, .inr (0, [.int k, .int (-1), .ref q_13, .null]))) ++ ([(q_13, .inl (cJ, 0, .inr (.inl (fun _ => 0))))] : va_W)) ++ ([(q_17, .inl (cD, 0, .inr (.inr (.inr (.inl (fun _ => 0))))))] : va_W)) H := hP
      have hD : va_D A (((ws.set p0 (a, .inr (0, [.int k, .int (-1), .ref q_13, .null]))) ++ ([(q_13, .inl (cJ, 0, .inr (.inl (fun _ => 0))))] : va_W)) ++ ([(q_17, .inl (cD, 0, .inr (.inr (.inr (.inl (fun _ => 0))))))] : va_W)) := hD
      refine va_putF (D := D) (ci := 0) (fs := [.int k, .int (-1), .ref q_13, .null]) (v := .ref q_17) (ty := .array .double) (C := RX0) (T := TX0) (N := 4) hx hb hts (by decide +kernel) tyX0 tyX0_ok nmX0 hown hK hP hD hS p0 (tc_app_l (tc_app_l (tc_set_self e0))) rfl 3 (by decide) (hts (.fieldLink RX0 32 "TypedColumns$Column" "reals" "[D") (by decide +kernel)) (fun _ h9 => h9) rfl hin rfl (by decide +kernel) rfl rfl (Nat.le_of_ble_eq_true rfl) dX0_init_78 (fun H locs hP hD hS => ?_)
      rw [tc_app_set (tc_app_l (tc_set_self e0)), tc_app_set (tc_set_self e0), List.set_set] at hP hD
      have hP : va_P D vwCl (((ws.set p0 (a, .inr (0, [.int k, .int (-1), .ref q_13, .ref q_17]))) ++ ([(q_13, .inl (cJ, 0, .inr (.inl (fun _ => 0))))] : va_W)) ++ ([(q_17, .inl (cD, 0, .inr (.inr (.inr (.inl (fun _ => 0))))))] : va_W)) H := hP
      have hD : va_D A (((ws.set p0 (a, .inr (0, [.int k, .int (-1), .ref q_13, .ref q_17]))) ++ ([(q_13, .inl (cJ, 0, .inr (.inl (fun _ => 0))))] : va_W)) ++ ([(q_17, .inl (cD, 0, .inr (.inr (.inr (.inl (fun _ => 0))))))] : va_W)) := hD
      have z1 : tc_cl k 0 = -1 := by unfold tc_cl; rw [if_neg (by rw [((tb_0 _).mp c_2)]; decide)]
      have z2 : tc_wl k 0 = 0 := by unfold tc_wl; split <;> rfl
      have z3 : tc_rl k 0 = 0 := by unfold tc_rl; split <;> rfl
      rw [List.append_assoc] at hP hD
      refine W.widen (k := 2) (n := 40) (Nat.le_of_ble_eq_true rfl) (Nat.le_of_ble_eq_true rfl) ?_
      exact W.vret hx hb hr (fun t9 ht9 hW9 => ⟨⟨(q_13, q_17), rfl, trivial, by rw [ht9, z1, z2, z3]; exact hP, by rw [z1, z2, z3]; exact hD⟩, hS.F ht9⟩) hS.2.2 dX0_init_81
  · refine lv_iload_n hx hb dX0_init_11 rfl (lv_at hl 2 rfl) ?_
    refine vp_callSi (tc_CR (va_runSN (As := [.int len]) (rest := []) ⟨hx, hb, hml, hown, hts⟩ (kX2_isLength l len) ⟨va_cnB 1 hts gX0_init_X2_isLength_n13 rfl rfl rfl (hE.2.2.2.2.1) (hts (.initialized RX2) (by decide +kernel)) (by decide +kernel) ⟨Nat.le_of_ble_eq_true rfl, Nat.le_of_ble_eq_true rfl⟩, hts (.static yX2_isLength) (by decide +kernel), trivial⟩ ⟨fun a U g mk q => q, fun U hU hW => ⟨rfl, trivial⟩⟩ rfl rfl hl.1 rfl (lv_room (Nat.le_of_ble_eq_true rfl)) dX0_init_12 ⟨by show _ ≤ 2; omega, by show _ ≤ 40; omega⟩)) (fun r_19 hr_19 => ?_)
    subst hr_19
    refine lv_if_eq (tgt := 22) hx hb dX0_init_15 (by decide) (fun q => absurd q ((tb_1 _).mpr (by rw [hlen ((tb_1 _).mp c_2)]; exact kLen_nI hN))) (fun _ => ?_)
    refine lv_iload_n hx hb dX0_init_18 rfl (lv_at hl 2 rfl) ?_
    refine lv_goto (tgt := 23) hx hb dX0_init_19 (by decide) ?_
    have gl := hlen ((tb_1 _).mp c_2)
    subst gl
    refine lv_istore_n (lv' := [(3, .int (nI N)), (0, .ref a), (1, .int k), (2, .int (nI N))]) hx hb dX0_init_23 rfl hl (by decide) rfl (fun ls hl => ?_)
    refine lv_aload_n hx hb dX0_init_24 rfl (lv_at hl 1 rfl) ?_
    refine lv_iload_n hx hb dX0_init_25 rfl (lv_at hl 2 rfl) ?_
    refine va_putF (D := D) (ci := 0) (fs := [.int 0, .int 0, .null, .null]) (v := .int k) (ty := .int) (C := RX0) (T := TX0) (N := 4) hx hb hts (by decide +kernel) tyX0 tyX0_ok nmX0 hown hK hP hD hS p0 e0 rfl 0 (by decide) (hts (.fieldLink RX0 16 "TypedColumns$Column" "kind" "I") (by decide +kernel)) (fun _ h9 => h9) rfl hin rfl (by decide +kernel) rfl rfl (Nat.le_of_ble_eq_true rfl) dX0_init_26 (fun H locs hP hD hS => ?_)
    have hP : va_P D vwCl (ws.set p0 (a, .inr (0, [.int k, .int 0, .null, .null]))) H := hP
    have hD : va_D A (ws.set p0 (a, .inr (0, [.int k, .int 0, .null, .null]))) := hD
    refine lv_aload_n hx hb dX0_init_29 rfl (lv_at hl 1 rfl) ?_
    refine lv_iload_n hx hb dX0_init_30 rfl (lv_at hl 2 rfl) ?_
    refine vp_callSi (tc_CR (va_runSN (As := [.int k]) (rest := [.ref a]) ⟨hx, hb, hml, hown, hts⟩ (kX2_holdsCells l k) ⟨va_cnB 1 hts gX0_init_X2_holdsCells_n9 rfl rfl rfl (hE.2.2.2.1) (hts (.initialized RX2) (by decide +kernel)) (by decide +kernel) ⟨Nat.le_of_ble_eq_true rfl, Nat.le_of_ble_eq_true rfl⟩, hts (.static yX2_holdsCells) (by decide +kernel), trivial⟩ ⟨fun a U g mk q => q, fun U hU hW => ⟨rfl, trivial⟩⟩ rfl rfl hl.1 rfl (lv_room (Nat.le_of_ble_eq_true rfl)) dX0_init_31 ⟨by show _ ≤ 2; omega, by show _ ≤ 40; omega⟩)) (fun r_21 hr_21 => ?_)
    subst hr_21
    refine lv_if_eq (tgt := 41) hx hb dX0_init_34 (by decide) (fun q => absurd q (c_2)) (fun _ => ?_)
    refine lv_iload_n hx hb dX0_init_37 rfl (lv_at hl 0 rfl) ?_
    refine lv_goto (tgt := 42) hx hb dX0_init_38 (by decide) ?_
    refine va_putF (D := D) (ci := 0) (fs := [.int k, .int 0, .null, .null]) (v := .int (nI N)) (ty := .int) (C := RX0) (T := TX0) (N := 4) hx hb hts (by decide +kernel) tyX0 tyX0_ok nmX0 hown hK hP hD hS p0 (tc_set_self e0) rfl 1 (by decide) (hts (.fieldLink RX0 22 "TypedColumns$Column" "length" "I") (by decide +kernel)) (fun _ h9 => h9) rfl hin rfl (by decide +kernel) rfl rfl (Nat.le_of_ble_eq_true rfl) dX0_init_42 (fun H locs hP hD hS => ?_)
    rw [List.set_set] at hP hD
    have hP : va_P D vwCl (ws.set p0 (a, .inr (0, [.int k, .int (nI N), .null, .null]))) H := hP
    have hD : va_D A (ws.set p0 (a, .inr (0, [.int k, .int (nI N), .null, .null]))) := hD
    refine lv_aload_n hx hb dX0_init_45 rfl (lv_at hl 1 rfl) ?_
    refine lv_iload_n hx hb dX0_init_46 rfl (lv_at hl 2 rfl) ?_
    refine vp_callSi (tc_CR (va_runSN (As := [.int k]) (rest := [.ref a]) ⟨hx, hb, hml, hown, hts⟩ (kX2_isFloating l k) ⟨va_cnB 1 hts gX0_init_X2_isFloating_n25 rfl rfl rfl (hE.2.2.2.2.2.1) (hts (.initialized RX2) (by decide +kernel)) (by decide +kernel) ⟨Nat.le_of_ble_eq_true rfl, Nat.le_of_ble_eq_true rfl⟩, hts (.static yX2_isFloating) (by decide +kernel), trivial⟩ ⟨fun a U g mk q => q, fun U hU hW => ⟨rfl, trivial⟩⟩ rfl rfl hl.1 rfl (lv_room (Nat.le_of_ble_eq_true rfl)) dX0_init_47 ⟨by show _ ≤ 2; omega, by show _ ≤ 40; omega⟩)) (fun r_23 hr_23 => ?_)
    subst hr_23
    refine lv_if_eq (tgt := 57) hx hb dX0_init_50 (by decide) (fun c_24 => ?_) (fun c_24 => ?_)
    · refine lv_iload_n hx hb dX0_init_57 rfl (lv_at hl 0 rfl) ?_
      refine va_newa (atype := .long) (ty := .long) (N' := N) (a0 := (N, .inr (.inl (fun _ => 0)))) hx hb (hts (.arrayClass .long) (by decide +kernel)) rfl hK hP hD hS hA (fun _ => rfl) (nI_pos (by omega)) (nI_clamp (by omega)) (by show N * 8 ≤ _; omega) (Nat.le_of_ble_eq_true rfl) (by show _ ≤ 40; omega) dX0_init_58 (fun q_25 cA_26 H hK1 hP hD hS => ?_)
      have hcA_26 : cJ = cA_26 := tc_uniq hK1 (i := 1) (j := 4) rfl rfl
      subst hcA_26
      clear hK1
      have hP : va_P D vwCl ((ws.set p0 (a, .inr (0, [.int k, .int (nI N), .null, .null]))) ++ ([(q_25, .inl (cJ, N, .inr (.inl (fun _ => 0))))] : va_W)) H := hP
      have hD : va_D A ((ws.set p0 (a, .inr (0, [.int k, .int (nI N), .null, .null]))) ++ ([(q_25, .inl (cJ, N, .inr (.inl (fun _ => 0))))] : va_W)) := hD
      refine va_putF (D := D) (ci := 0) (fs := [.int k, .int (nI N), .null, .null]) (v := .ref q_25) (ty := .array .long) (C := RX0) (T := TX0) (N := 4) hx hb hts (by decide +kernel) tyX0 tyX0_ok nmX0 hown hK hP hD hS p0 (tc_app_l (tc_set_self e0)) rfl 2 (by decide) (hts (.fieldLink RX0 28 "TypedColumns$Column" "wholes" "[J") (by decide +kernel)) (fun _ h9 => h9) rfl hin rfl (by decide +kernel) rfl rfl (Nat.le_of_ble_eq_true rfl) dX0_init_60 (fun H locs hP hD hS => ?_)
      rw [tc_app_set (tc_set_self e0), List.set_set] at hP hD
      have hP : va_P D vwCl ((ws.set p0 (a, .inr (0, [.int k, .int (nI N), .ref q_25, .null]))) ++ ([(q_25, .inl (cJ, N, .inr (.inl (fun _ => 0))))] : va_W)) H := hP
      have hD : va_D A ((ws.set p0 (a, .inr (0, [.int k, .int (nI N), .ref q_25, .null]))) ++ ([(q_25, .inl (cJ, N, .inr (.inl (fun _ => 0))))] : va_W)) := hD
      refine lv_aload_n hx hb dX0_init_63 rfl (lv_at hl 1 rfl) ?_
      refine lv_iload_n hx hb dX0_init_64 rfl (lv_at hl 2 rfl) ?_
      refine vp_callSi (tc_CR (va_runSN (As := [.int k]) (rest := [.ref a]) ⟨hx, hb, hml, hown, hts⟩ (kX2_isFloating l k) ⟨va_cnB 1 hts gX0_init_X2_isFloating_n25 rfl rfl rfl (hE.2.2.2.2.2.1) (hts (.initialized RX2) (by decide +kernel)) (by decide +kernel) ⟨Nat.le_of_ble_eq_true rfl, Nat.le_of_ble_eq_true rfl⟩, hts (.static yX2_isFloating) (by decide +kernel), trivial⟩ ⟨fun a U g mk q => q, fun U hU hW => ⟨rfl, trivial⟩⟩ rfl rfl hl.1 rfl (lv_room (Nat.le_of_ble_eq_true rfl)) dX0_init_65 ⟨by show _ ≤ 2; omega, by show _ ≤ 40; omega⟩)) (fun r_27 hr_27 => ?_)
      subst hr_27
      refine lv_if_eq (tgt := 75) hx hb dX0_init_68 (by decide) (fun _ => ?_) (fun q => absurd (c_24) q)
      refine lv_iconst (v := 0) hx hb dX0_init_75 (by decide) ?_
      refine va_newa (atype := .double) (ty := .double) (N' := 0) (a0 := (0, .inr (.inr (.inr (.inl (fun _ => 0)))))) hx hb (hts (.arrayClass .double) (by decide +kernel)) rfl hK hP hD hS hA (fun _ => rfl) (by decide) (rfl) (Nat.le_of_ble_eq_true rfl) (Nat.le_of_ble_eq_true rfl) (by show _ ≤ 40; omega) dX0_init_76 (fun q_29 cA_30 H hK1 hP hD hS => ?_)
      have hcA_30 : cD = cA_30 := tc_uniq hK1 (i := 2) (j := 4) rfl rfl
      subst hcA_30
      clear hK1
      have hP : va_P D vwCl (((ws.set p0 (a, .inr (0, [.int k, .int (nI N), .ref q_25, .null]))) ++ ([(q_25, .inl (cJ, N, .inr (.inl (fun _ => 0))))] : va_W)) ++ ([(q_29, .inl (cD, 0, .inr (.inr (.inr (.inl (fun _ => 0))))))] : va_W)) H := hP
      have hD : va_D A (((ws.set p0 (a, .inr (0, [.int k, .int (nI N), .ref q_25, .null]))) ++ ([(q_25, .inl (cJ, N, .inr (.inl (fun _ => 0))))] : va_W)) ++ ([(q_29, .inl (cD, 0, .inr (.inr (.inr (.inl (fun _ => 0))))))] : va_W)) := hD
      refine va_putF (D := D) (ci := 0) (fs := [.int k, .int (nI N), .ref q_25, .null]) (v := .ref q_29) (ty := .array .double) (C := RX0) (T := TX0) (N := 4) hx hb hts (by decide +kernel) tyX0 tyX0_ok nmX0 hown hK hP hD hS p0 (tc_app_l (tc_app_l (tc_set_self e0))) rfl 3 (by decide) (hts (.fieldLink RX0 32 "TypedColumns$Column" "reals" "[D") (by decide +kernel)) (fun _ h9 => h9) rfl hin rfl (by decide +kernel) rfl rfl (Nat.le_of_ble_eq_true rfl) dX0_init_78 (fun H locs hP hD hS => ?_)
      rw [tc_app_set (tc_app_l (tc_set_self e0)), tc_app_set (tc_set_self e0), List.set_set] at hP hD
      have hP : va_P D vwCl (((ws.set p0 (a, .inr (0, [.int k, .int (nI N), .ref q_25, .ref q_29]))) ++ ([(q_25, .inl (cJ, N, .inr (.inl (fun _ => 0))))] : va_W)) ++ ([(q_29, .inl (cD, 0, .inr (.inr (.inr (.inl (fun _ => 0))))))] : va_W)) H := hP
      have hD : va_D A (((ws.set p0 (a, .inr (0, [.int k, .int (nI N), .ref q_25, .ref q_29]))) ++ ([(q_25, .inl (cJ, N, .inr (.inl (fun _ => 0))))] : va_W)) ++ ([(q_29, .inl (cD, 0, .inr (.inr (.inr (.inl (fun _ => 0))))))] : va_W)) := hD
      have z1 : tc_cl k N = nI N := tc_cl_has ((tb_1 _).mp c_2)
      have z2 : tc_wl k N = N := tc_wl_n ((tb_0 _).mp c_24)
      have z3 : tc_rl k N = 0 := tc_rl_z N ((tb_0 _).mp c_24)
      rw [List.append_assoc] at hP hD
      refine W.widen (k := 2) (n := 40) (Nat.le_of_ble_eq_true rfl) (by omega) ?_
      exact W.vret hx hb hr (fun t9 ht9 hW9 => ⟨⟨(q_25, q_29), rfl, trivial, by rw [ht9, z1, z2, z3]; exact hP, by rw [z1, z2, z3]; exact hD⟩, hS.F ht9⟩) hS.2.2 dX0_init_81
    · refine lv_iconst (v := 0) hx hb dX0_init_53 (by decide) ?_
      refine lv_goto (tgt := 58) hx hb dX0_init_54 (by decide) ?_
      refine va_newa (atype := .long) (ty := .long) (N' := 0) (a0 := (0, .inr (.inl (fun _ => 0)))) hx hb (hts (.arrayClass .long) (by decide +kernel)) rfl hK hP hD hS hA (fun _ => rfl) (by decide) (rfl) (Nat.le_of_ble_eq_true rfl) (Nat.le_of_ble_eq_true rfl) (Nat.le_of_ble_eq_true rfl) dX0_init_58 (fun q_31 cA_32 H hK1 hP hD hS => ?_)
      have hcA_32 : cJ = cA_32 := tc_uniq hK1 (i := 1) (j := 4) rfl rfl
      subst hcA_32
      clear hK1
      have hP : va_P D vwCl ((ws.set p0 (a, .inr (0, [.int k, .int (nI N), .null, .null]))) ++ ([(q_31, .inl (cJ, 0, .inr (.inl (fun _ => 0))))] : va_W)) H := hP
      have hD : va_D A ((ws.set p0 (a, .inr (0, [.int k, .int (nI N), .null, .null]))) ++ ([(q_31, .inl (cJ, 0, .inr (.inl (fun _ => 0))))] : va_W)) := hD
      refine va_putF (D := D) (ci := 0) (fs := [.int k, .int (nI N), .null, .null]) (v := .ref q_31) (ty := .array .long) (C := RX0) (T := TX0) (N := 4) hx hb hts (by decide +kernel) tyX0 tyX0_ok nmX0 hown hK hP hD hS p0 (tc_app_l (tc_set_self e0)) rfl 2 (by decide) (hts (.fieldLink RX0 28 "TypedColumns$Column" "wholes" "[J") (by decide +kernel)) (fun _ h9 => h9) rfl hin rfl (by decide +kernel) rfl rfl (Nat.le_of_ble_eq_true rfl) dX0_init_60 (fun H locs hP hD hS => ?_)
      rw [tc_app_set (tc_set_self e0), List.set_set] at hP hD
      have hP : va_P D vwCl ((ws.set p0 (a, .inr (0, [.int k, .int (nI N), .ref q_31, .null]))) ++ ([(q_31, .inl (cJ, 0, .inr (.inl (fun _ => 0))))] : va_W)) H := hP
      have hD : va_D A ((ws.set p0 (a, .inr (0, [.int k, .int (nI N), .ref q_31, .null]))) ++ ([(q_31, .inl (cJ, 0, .inr (.inl (fun _ => 0))))] : va_W)) := hD
      refine lv_aload_n hx hb dX0_init_63 rfl (lv_at hl 1 rfl) ?_
      refine lv_iload_n hx hb dX0_init_64 rfl (lv_at hl 2 rfl) ?_
      refine vp_callSi (tc_CR (va_runSN (As := [.int k]) (rest := [.ref a]) ⟨hx, hb, hml, hown, hts⟩ (kX2_isFloating l k) ⟨va_cnB 1 hts gX0_init_X2_isFloating_n25 rfl rfl rfl (hE.2.2.2.2.2.1) (hts (.initialized RX2) (by decide +kernel)) (by decide +kernel) ⟨Nat.le_of_ble_eq_true rfl, Nat.le_of_ble_eq_true rfl⟩, hts (.static yX2_isFloating) (by decide +kernel), trivial⟩ ⟨fun a U g mk q => q, fun U hU hW => ⟨rfl, trivial⟩⟩ rfl rfl hl.1 rfl (lv_room (Nat.le_of_ble_eq_true rfl)) dX0_init_65 ⟨by show _ ≤ 2; omega, by show _ ≤ 40; omega⟩)) (fun r_33 hr_33 => ?_)
      subst hr_33
      refine lv_if_eq (tgt := 75) hx hb dX0_init_68 (by decide) (fun q => absurd q (c_24)) (fun _ => ?_)
      refine lv_iload_n hx hb dX0_init_71 rfl (lv_at hl 0 rfl) ?_
      refine lv_goto (tgt := 76) hx hb dX0_init_72 (by decide) ?_
      refine va_newa (atype := .double) (ty := .double) (N' := N) (a0 := (N, .inr (.inr (.inr (.inl (fun _ => 0)))))) hx hb (hts (.arrayClass .double) (by decide +kernel)) rfl hK hP hD hS hA (fun _ => rfl) (nI_pos (by omega)) (nI_clamp (by omega)) (by show N * 8 ≤ _; omega) (Nat.le_of_ble_eq_true rfl) (by show _ ≤ 40; omega) dX0_init_76 (fun q_35 cA_36 H hK1 hP hD hS => ?_)
      have hcA_36 : cD = cA_36 := tc_uniq hK1 (i := 2) (j := 4) rfl rfl
      subst hcA_36
      clear hK1
      have hP : va_P D vwCl (((ws.set p0 (a, .inr (0, [.int k, .int (nI N), .ref q_31, .null]))) ++ ([(q_31, .inl (cJ, 0, .inr (.inl (fun _ => 0))))] : va_W)) ++ ([(q_35, .inl (cD, N, .inr (.inr (.inr (.inl (fun _ => 0))))))] : va_W)) H := hP
      have hD : va_D A (((ws.set p0 (a, .inr (0, [.int k, .int (nI N), .ref q_31, .null]))) ++ ([(q_31, .inl (cJ, 0, .inr (.inl (fun _ => 0))))] : va_W)) ++ ([(q_35, .inl (cD, N, .inr (.inr (.inr (.inl (fun _ => 0))))))] : va_W)) := hD
      refine va_putF (D := D) (ci := 0) (fs := [.int k, .int (nI N), .ref q_31, .null]) (v := .ref q_35) (ty := .array .double) (C := RX0) (T := TX0) (N := 4) hx hb hts (by decide +kernel) tyX0 tyX0_ok nmX0 hown hK hP hD hS p0 (tc_app_l (tc_app_l (tc_set_self e0))) rfl 3 (by decide) (hts (.fieldLink RX0 32 "TypedColumns$Column" "reals" "[D") (by decide +kernel)) (fun _ h9 => h9) rfl hin rfl (by decide +kernel) rfl rfl (Nat.le_of_ble_eq_true rfl) dX0_init_78 (fun H locs hP hD hS => ?_)
      rw [tc_app_set (tc_app_l (tc_set_self e0)), tc_app_set (tc_set_self e0), List.set_set] at hP hD
      have hP : va_P D vwCl (((ws.set p0 (a, .inr (0, [.int k, .int (nI N), .ref q_31, .ref q_35]))) ++ ([(q_31, .inl (cJ, 0, .inr (.inl (fun _ => 0))))] : va_W)) ++ ([(q_35, .inl (cD, N, .inr (.inr (.inr (.inl (fun _ => 0))))))] : va_W)) H := hP
      have hD : va_D A (((ws.set p0 (a, .inr (0, [.int k, .int (nI N), .ref q_31, .ref q_35]))) ++ ([(q_31, .inl (cJ, 0, .inr (.inl (fun _ => 0))))] : va_W)) ++ ([(q_35, .inl (cD, N, .inr (.inr (.inr (.inl (fun _ => 0))))))] : va_W)) := hD
      have z1 : tc_cl k N = nI N := tc_cl_has ((tb_1 _).mp c_2)
      have z2 : tc_wl k N = 0 := tc_wl_z N ((tb_1 _).mp c_24)
      have z3 : tc_rl k N = N := tc_rl_n ((tb_1 _).mp c_24)
      rw [List.append_assoc] at hP hD
      refine W.widen (k := 2) (n := 40) (Nat.le_of_ble_eq_true rfl) (by omega) ?_
      exact W.vret hx hb hr (fun t9 ht9 hW9 => ⟨⟨(q_31, q_35), rfl, trivial, by rw [ht9, z1, z2, z3]; exact hP, by rw [z1, z2, z3]; exact hD⟩, hS.F ht9⟩) hS.2.2 dX0_init_81
set_option maxHeartbeats 4000000 in
set_option maxRecDepth 100000 in
theorem oX2_addColumn (l : Launch) (D : va_G) (A : Nat → Prop) (cI cJ cD cC : ClassId) (ws : va_W) (h0 h1 h2 h3 n : Nat) (cd : Int32) (f : Nat → Option Nat) (qk v : Nat) (vs : List Value) (sz : Nat) (z0 : ws[0]? = some (h0, .inr (2, [.ref h1, .ref h2, .ref h3, .int (nI n), .int cd]))) (z1 : ws[1]? = some (h1, .inl (cC, 60, .inr (.inr (.inr (.inr f)))))) (zk : ws[qk]? = some (v, .inr (0, vs))) (hn : n < 60) : Met l yX2_addColumn wsX2_addColumn ({ frames := 0, cells := 0, slots := 0, locals := 0 }) (tcP D A (tcTY cI cJ cD cC) sz [.ref h0, .ref v] ws) (va_Qi (fun r (_ : Unit) => r = nI n) (fun _ t => tcB D A ((ws.set 1 (h1, .inl (cC, 60, .inr (.inr (.inr (.inr (va_up f n (some v)))))))).set 0 (h0, .inr (2, [.ref h1, .ref h2, .ref h3, .int (nI n + 1), .int cd]))) t) A) 0 0 A := by
  refine Met.ofW (cc := cX2_addColumn) (maxL := 3) (ret := (some .int)) (by decide) rfl ?_
  intro p e s m args below meth c s₁ B hml hv
  obtain ⟨rfl, hsz, hP, hK, hD, hE⟩ := hv
  have hx := B.exec
  have hb := B.bytes
  have hr := B.returns
  have hts := atoms_spec (ws := wsX2_addColumn) B.pre
  have hown : s.vm.findClass RX2 = some m.cls := findClass_of_methodNamed B.named
  have hlocks := B.notSynchronized
  have hl := lv_entry ([.ref h0, .ref v]) (n := 3) (Nat.le_of_ble_eq_true rfl)
  rw [lg_entry_eq]
  generalize (lg_sl ([.ref h0, .ref v]) ++ List.replicate (3 - (lg_sl ([.ref h0, .ref v])).length) Slot.unset).toArray = ls at hl ⊢
  have hl : lv_has ls 3 [(0, .ref h0), (1, .ref v)] := hl
  subst hsz
  have hS : va_S A s.heap s.heap [] := va_S.rf
  refine lv_aload_n hx hb dX2_addColumn_0 rfl (lv_at hl 0 rfl) ?_
  refine va_get (D := D) (ci := 2) (fs := [.ref h1, .ref h2, .ref h3, .int (nI n), .int cd]) (v := .int (nI n)) (C := RX2) (T := TX2) (N := 5) hx hb hts (by decide +kernel) hown hK hP 0 z0 rfl 3 (by decide) (hts (.fieldLink RX2 26 "TypedColumns" "created" "I") (by decide +kernel)) (fun _ h9 => h9) rfl dX2_addColumn_1 ?_
  refine lv_istore_n (lv' := [(2, .int (nI n)), (0, .ref h0), (1, .ref v)]) hx hb dX2_addColumn_4 rfl hl (by decide) rfl (fun ls hl => ?_)
  refine lv_iload_n hx hb dX2_addColumn_5 rfl (lv_at hl 0 rfl) ?_
  refine lv_if_lt (tgt := 32) hx hb dX2_addColumn_6 (by decide) (fun q => absurd q (nI_pos (by omega))) (fun _ => ?_)
  refine lv_iload_n hx hb dX2_addColumn_9 rfl (lv_at hl 0 rfl) ?_
  refine lv_aload_n hx hb dX2_addColumn_10 rfl (lv_at hl 1 rfl) ?_
  refine va_get (D := D) (ci := 2) (fs := [.ref h1, .ref h2, .ref h3, .int (nI n), .int cd]) (v := .ref h1) (C := RX2) (T := TX2) (N := 5) hx hb hts (by decide +kernel) hown hK hP 0 z0 rfl 0 (by decide) (hts (.fieldLink RX2 11 "TypedColumns" "columns" "[LTypedColumns$Column;") (by decide +kernel)) (fun _ h9 => h9) rfl dX2_addColumn_11 ?_
  refine va_alen (v := 60) hx hb hK hP 1 3 z1 rfl rfl dX2_addColumn_14 ?_
  refine lv_icmp_ge (tgt := 32) hx hb dX2_addColumn_15 (by decide) (fun q => absurd q (nI_ge hn (by decide))) (fun _ => ?_)
  refine lv_aload_n hx hb dX2_addColumn_18 rfl (lv_at hl 1 rfl) ?_
  refine va_get (D := D) (ci := 2) (fs := [.ref h1, .ref h2, .ref h3, .int (nI n), .int cd]) (v := .ref h1) (C := RX2) (T := TX2) (N := 5) hx hb hts (by decide +kernel) hown hK hP 0 z0 rfl 0 (by decide) (hts (.fieldLink RX2 11 "TypedColumns" "columns" "[LTypedColumns$Column;") (by decide +kernel)) (fun _ h9 => h9) rfl dX2_addColumn_19 ?_
  refine lv_iload_n hx hb dX2_addColumn_22 rfl (lv_at hl 0 rfl) ?_
  refine lv_aload_n hx hb dX2_addColumn_23 rfl (lv_at hl 2 rfl) ?_
  refine va_astq hx hb hK hP hD hS 1 3 qk 0 (f := f) (v := v) (r := ("TypedColumns$Column", TX0, 4)) z1 rfl zk rfl (vp_in_nI hn (by decide)) dX2_addColumn_24 (fun H locs hP hD hS => ?_)
  rw [nI_clamp (n := n) (by omega)] at hP hD
  have z0a := tc_set_ne (y := (h1, .inl (cC, 60, .inr (.inr (.inr (.inr (va_up f n (some v)))))))) z0 (show 1 ≠ 0 by decide)
  refine lv_aload_n hx hb dX2_addColumn_25 rfl (lv_at hl 1 rfl) ?_
  refine lv_iload_n hx hb dX2_addColumn_26 rfl (lv_at hl 0 rfl) ?_
  refine lv_iconst (v := 1) hx hb dX2_addColumn_27 (by decide) ?_
  refine lv_iadd hx hb dX2_addColumn_28 ?_
  refine va_put (D := D) (ci := 2) (fs := [.ref h1, .ref h2, .ref h3, .int (nI n), .int cd]) (v := .int ((nI n) + 1)) (ty := .int) (C := RX2) (T := TX2) (N := 5) hx hb hts (by decide +kernel) tyX2 tyX2_ok nmX2 hown hK hP hD hS 0 z0a rfl 3 (by decide) (hts (.fieldLink RX2 26 "TypedColumns" "created" "I") (by decide +kernel)) (fun _ h9 => h9) rfl (by decide +kernel) rfl rfl (Nat.le_of_ble_eq_true rfl) dX2_addColumn_29 (fun H locs hP hD hS => ?_)
  refine lv_iload_n hx hb dX2_addColumn_32 rfl (lv_at hl 0 rfl) ?_
  exact W.iret (v := (nI n)) hx hb hr (fun t9 ht9 hW9 => ⟨⟨(nI n), (), rfl, rfl, by rw [ht9]; exact hP, hD⟩, hS.F ht9⟩) hS.2.2 dX2_addColumn_33
theorem zr0 {α : Type} {n : Nat} {z : α} (m : Nat) (hm : m ≤ 40) (f : Nat → α) : tc_sl m (fun i => tc_put n 0 (fun _ => z) z f (40 * n + i)) z = (fun _ => z) := by
  funext i
  show (if i < m then tc_put n 0 (fun _ => z) z f (40 * n + i) else z) = z
  by_cases h : i < m
  · rw [if_pos h, tc_put_in (by omega), if_neg (Nat.not_lt_zero i)]
  · rw [if_neg h]
set_option maxHeartbeats 4000000 in
set_option maxRecDepth 100000 in
theorem tX2_create (l : Launch) (D : va_G) (A : Nat → Prop) (cI cJ cD cC : ClassId) (h0 h1 h2 h3 h4 : Nat) (ad wd rd : Nat → Nat) (Y : va_W) (n : Nat) (K : Nat → Int32) (Ln : Nat → Nat) (Wh : Nat → Int64) (Re : Nat → UInt64) (cd : Int32) (ct : Nat → Int32) (sz : Nat) (hI : tcI n K Ln Wh Re) (hn : n < 60) (kd len : Int32) (N : Nat) (hN : N ≤ 40) (hk : kIs kd = true) (hlen : kHas kd = true → len = nI N) (hz : kHas kd = false → N = 0) (hA : ∀ q, sz ≤ q → A q) : Met l yX2_create wsX2_create ({ frames := 2, cells := 3, slots := 44, locals := 43 }) (tcP D A (tcTY cI cJ cD cC) sz [.ref h0, .int kd, .int len] (tc_T cI cJ cD cC h0 h1 h2 h3 h4 ad wd rd Y n K Ln Wh Re cd ct)) (va_Qi (fun r (_ : Nat × Nat × Nat) => r = nI n) (fun u t => tcB D A (tc_T cI cJ cD cC h0 h1 h2 h3 h4 (va_up ad n u.1) (va_up wd n u.2.1) (va_up rd n u.2.2) Y (n + 1) (va_up K n kd) (va_up Ln n N) (tc_put n 0 (fun _ => 0) 0 Wh) (tc_put n 0 (fun _ => 0) 0 Re) cd ct) t) A) 3 44 A := by
  refine Met.ofW (cc := cX2_create) (maxL := 3) (ret := (some .int)) (by decide) rfl ?_
  intro p e s m args below meth c s₁ B hml hv
  obtain ⟨rfl, hsz, hP, hK, hD, hE⟩ := hv
  have hx := B.exec
  have hb := B.bytes
  have hr := B.returns
  have hts := atoms_spec (ws := wsX2_create) B.pre
  have hown : s.vm.findClass RX2 = some m.cls := findClass_of_methodNamed B.named
  have hlocks := B.notSynchronized
  have hl := lv_entry ([.ref h0, .int kd, .int len]) (n := 3) (Nat.le_of_ble_eq_true rfl)
  rw [lg_entry_eq]
  generalize (lg_sl ([.ref h0, .int kd, .int len]) ++ List.replicate (3 - (lg_sl ([.ref h0, .int kd, .int len])).length) Slot.unset).toArray = ls at hl ⊢
  have hl : lv_has ls 3 [(0, .ref h0), (1, .int kd), (2, .int len)] := hl
  subst hsz
  have hS : va_S A s.heap s.heap [] := va_S.rf
  refine lv_iload_n hx hb dX2_create_0 rfl (lv_at hl 1 rfl) ?_
  refine vp_callSi (W.runS (As := [.int kd]) (rest := []) ⟨hx, hb, hml, hown, hts⟩ (kX2_isKind l kd) (va_cwS 1 hts gX2_create_X2_isKind rfl rfl rfl (by decide +kernel) ⟨Nat.le_of_ble_eq_true rfl, Nat.le_of_ble_eq_true rfl⟩) ⟨fun a U g mk q => q, fun U hU hW => ⟨rfl, trivial⟩⟩ rfl rfl hl.1 rfl (lv_room (Nat.le_of_ble_eq_true rfl)) dX2_create_1 ⟨Nat.zero_le _, Nat.zero_le _⟩) (fun r_1 hr_1 => ?_)
  subst hr_1
  refine lv_if_ne (tgt := 17) hx hb dX2_create_4 (by decide) (fun _ => ?_) (fun q => absurd q ((tb_1 _).mpr hk))
  refine lv_iload_n hx hb dX2_create_17 rfl (lv_at hl 1 rfl) ?_
  refine vp_callSi (W.runS (As := [.int kd]) (rest := []) ⟨hx, hb, hml, hown, hts⟩ (kX2_holdsCells l kd) (va_cwS 1 hts gX2_create_X2_holdsCells rfl rfl rfl (by decide +kernel) ⟨Nat.le_of_ble_eq_true rfl, Nat.le_of_ble_eq_true rfl⟩) ⟨fun a U g mk q => q, fun U hU hW => ⟨rfl, trivial⟩⟩ rfl rfl hl.1 rfl (lv_room (Nat.le_of_ble_eq_true rfl)) dX2_create_18 ⟨Nat.zero_le _, Nat.zero_le _⟩) (fun r_3 hr_3 => ?_)
  subst hr_3
  refine lv_if_eq (tgt := 41) hx hb dX2_create_21 (by decide) (fun c_4 => ?_) (fun c_4 => ?_)
  · refine lv_aload_n hx hb dX2_create_41 rfl (lv_at hl 0 rfl) ?_
    refine va_csv (tc_CR (va_runV (As := []) (rest := []) ⟨hx, hb, hml, hown, hts⟩ (tX2_refuseWhenFull l D A cI cJ cD cC h0 h1 h2 h3 h4 ad wd rd Y n K Ln Wh Re cd ct s.heap.size hn) (cwV 0 hts gX2_create_X2_refuseWhenFull rfl rfl rfl (by decide +kernel) ⟨Nat.le_of_ble_eq_true rfl, Nat.le_of_ble_eq_true rfl⟩) ⟨tcP.blind, (va_recv hK hP (ci := 2) (q0 := 0) rfl rfl), (tcP.go hK hP hD hE hS)⟩ rfl rfl hl.1 rfl (lv_room (Nat.le_of_ble_eq_true rfl)) dX2_create_42 ⟨Nat.le_of_ble_eq_true rfl, Nat.le_of_ble_eq_true rfl⟩)) (fun _ => ?_)
    refine lv_aload_n hx hb dX2_create_45 rfl (lv_at hl 0 rfl) ?_
    refine va_new (ci := 0) (fs := [.int 0, .int 0, .null, .null]) (C := RX0) (T := TX0) (N := 4) hx hb hts (by decide +kernel) tyX0 tyX0_ok hown (hts (.classLink RX2 9 RX0) (by decide +kernel)) (hts (.instantiable RX0 4) (by decide +kernel)) (hts (.initialized RX0) (by decide +kernel)) hK hP hD hS hA rfl (fun j hj => by rcases (show j = 0 ∨ j = 1 ∨ j = 2 ∨ j = 3 by omega) with rfl | rfl | rfl | rfl <;> rfl) (Nat.le_of_ble_eq_true rfl) (Nat.le_of_ble_eq_true rfl) dX2_create_46 (fun q_5 H hP hD hS => ?_)
    refine lv_dup hx hb dX2_create_49 rfl ?_
    refine lv_iload_n hx hb dX2_create_50 rfl (lv_at hl 1 rfl) ?_
    refine lv_iload_n hx hb dX2_create_51 rfl (lv_at hl 2 rfl) ?_
    refine va_callv (va_runI (As := [.int kd, .int len]) (rest := [.ref q_5, .ref h0]) ⟨hx, hb, hml, hown, hts⟩ (oX0_init l D A cI cJ cD cC ((tc_T cI cJ cD cC h0 h1 h2 h3 h4 ad wd rd Y n K Ln Wh Re cd ct) ++ ([(q_5, .inr (0, [.int 0, .int 0, .null, .null]))] : va_W)) ((tc_T cI cJ cD cC h0 h1 h2 h3 h4 ad wd rd Y n K Ln Wh Re cd ct)).length q_5 H.size tc_app_last (fun q h => hA q (Nat.le_trans hS.1 h)) kd len N hN hlen hz) (cwI 2 hts gX2_create_X0_init rfl rfl rfl (hts (.initialized RX0) (by decide +kernel)) (hts (.methodLink RX2 55 yX0_init) (by decide +kernel)) (hts (.instanceMethod yX0_init) (by decide +kernel)) rfl (by decide +kernel) ⟨Nat.le_of_ble_eq_true rfl, Nat.le_of_ble_eq_true rfl⟩) ⟨tcP.blind, (tcP.go hK hP hD hE hS)⟩ rfl rfl hl.1 rfl (lv_room (Nat.le_of_ble_eq_true rfl)) dX2_create_52 ⟨Nat.le_of_ble_eq_true rfl, Nat.le_of_ble_eq_true rfl⟩) hS (fun q _ h => h) (fun q h => h) (fun u t H locs ht hvm hw hB hz1 hk1 hS => ?_)
    obtain ⟨hP, hD⟩ := hB
    rw [ht] at hP
    rw [tc_app_last_set, List.append_assoc] at hP hD
    obtain ⟨u1, u2⟩ := u
    have hP : va_P D vwCl ((tc_T cI cJ cD cC h0 h1 h2 h3 h4 ad wd rd Y n K Ln Wh Re cd ct) ++ ([(q_5, .inr (0, [.int kd, .int (tc_cl kd N), .ref u1, .ref u2])), (u1, .inl (cJ, tc_wl kd N, .inr (.inl (fun _ => 0)))), (u2, .inl (cD, tc_rl kd N, .inr (.inr (.inr (.inl (fun _ => 0))))))] : va_W)) H := hP
    have hD : va_D A ((tc_T cI cJ cD cC h0 h1 h2 h3 h4 ad wd rd Y n K Ln Wh Re cd ct) ++ ([(q_5, .inr (0, [.int kd, .int (tc_cl kd N), .ref u1, .ref u2])), (u1, .inl (cJ, tc_wl kd N, .inr (.inl (fun _ => 0)))), (u2, .inl (cD, tc_rl kd N, .inr (.inr (.inr (.inl (fun _ => 0))))))] : va_W)) := hD
    refine va_calli (va_runV (As := [.ref q_5]) (rest := []) ⟨hx, hb, hml, hown, hts⟩ (oX2_addColumn l D A cI cJ cD cC ((tc_T cI cJ cD cC h0 h1 h2 h3 h4 ad wd rd Y n K Ln Wh Re cd ct) ++ ([(q_5, .inr (0, [.int kd, .int (tc_cl kd N), .ref u1, .ref u2])), (u1, .inl (cJ, tc_wl kd N, .inr (.inl (fun _ => 0)))), (u2, .inl (cD, tc_rl kd N, .inr (.inr (.inr (.inl (fun _ => 0))))))] : va_W)) h0 h1 h2 h3 n cd (fun j => if j < n then some (ad j) else none) ((tc_T cI cJ cD cC h0 h1 h2 h3 h4 ad wd rd Y n K Ln Wh Re cd ct)).length q_5 _ H.size rfl rfl tc_app_mid hn) (cwV 1 hts gX2_create_X2_addColumn rfl rfl rfl (by decide +kernel) ⟨Nat.le_of_ble_eq_true rfl, Nat.le_of_ble_eq_true rfl⟩) ⟨tcP.blind, (va_recv hK hP (ci := 2) (q0 := 0) rfl rfl), (tcP.go hK hP hD hE hS)⟩ rfl rfl hl.1 rfl (lv_room (Nat.le_of_ble_eq_true rfl)) dX2_create_55 ⟨Nat.le_of_ble_eq_true rfl, Nat.le_of_ble_eq_true rfl⟩) hS (fun q _ h => h) (fun q h => h) (fun r_7 u t H locs ht hvm hw hB hz1 hk1 hS => ?_)
    subst hw
    obtain ⟨hP, hD⟩ := hB
    rw [ht] at hP
    rw [tc_T_add (Wh' := (tc_put n 0 (fun _ => 0) 0 Wh)) (Re' := (tc_put n 0 (fun _ => 0) 0 Re)) (fun j hj => (hI.2.1 j hj).2.1) (fun j i hj hi => tc_put_out hj hi) (fun j i hj hi => tc_put_out hj hi) (zr0 (tc_wl kd N) (wl_le hN) _) (zr0 (tc_rl kd N) (rl_le hN) _)] at hP hD
    exact W.iret (v := nI n) hx hb hr (fun t9 ht9 hW9 => ⟨⟨nI n, (q_5, u1, u2), rfl, rfl, by rw [ht9]; exact hP, hD⟩, hS.F ht9⟩) hS.2.2 dX2_create_58
  · refine lv_iload_n hx hb dX2_create_24 rfl (lv_at hl 2 rfl) ?_
    refine vp_callSi (W.runS (As := [.int len]) (rest := []) ⟨hx, hb, hml, hown, hts⟩ (kX2_isLength l len) (va_cwS 1 hts gX2_create_X2_isLength rfl rfl rfl (by decide +kernel) ⟨Nat.le_of_ble_eq_true rfl, Nat.le_of_ble_eq_true rfl⟩) ⟨fun a U g mk q => q, fun U hU hW => ⟨rfl, trivial⟩⟩ rfl rfl hl.1 rfl (lv_room (Nat.le_of_ble_eq_true rfl)) dX2_create_25 ⟨Nat.zero_le _, Nat.zero_le _⟩) (fun r_8 hr_8 => ?_)
    subst hr_8
    refine lv_if_ne (tgt := 41) hx hb dX2_create_28 (by decide) (fun _ => ?_) (fun q => absurd q ((tb_1 _).mpr (by rw [hlen ((tb_1 _).mp c_4)]; exact kLen_nI hN)))
    refine lv_aload_n hx hb dX2_create_41 rfl (lv_at hl 0 rfl) ?_
    refine va_csv (tc_CR (va_runV (As := []) (rest := []) ⟨hx, hb, hml, hown, hts⟩ (tX2_refuseWhenFull l D A cI cJ cD cC h0 h1 h2 h3 h4 ad wd rd Y n K Ln Wh Re cd ct s.heap.size hn) (cwV 0 hts gX2_create_X2_refuseWhenFull rfl rfl rfl (by decide +kernel) ⟨Nat.le_of_ble_eq_true rfl, Nat.le_of_ble_eq_true rfl⟩) ⟨tcP.blind, (va_recv hK hP (ci := 2) (q0 := 0) rfl rfl), (tcP.go hK hP hD hE hS)⟩ rfl rfl hl.1 rfl (lv_room (Nat.le_of_ble_eq_true rfl)) dX2_create_42 ⟨Nat.le_of_ble_eq_true rfl, Nat.le_of_ble_eq_true rfl⟩)) (fun _ => ?_)
    refine lv_aload_n hx hb dX2_create_45 rfl (lv_at hl 0 rfl) ?_
    refine va_new (ci := 0) (fs := [.int 0, .int 0, .null, .null]) (C := RX0) (T := TX0) (N := 4) hx hb hts (by decide +kernel) tyX0 tyX0_ok hown (hts (.classLink RX2 9 RX0) (by decide +kernel)) (hts (.instantiable RX0 4) (by decide +kernel)) (hts (.initialized RX0) (by decide +kernel)) hK hP hD hS hA rfl (fun j hj => by rcases (show j = 0 ∨ j = 1 ∨ j = 2 ∨ j = 3 by omega) with rfl | rfl | rfl | rfl <;> rfl) (Nat.le_of_ble_eq_true rfl) (Nat.le_of_ble_eq_true rfl) dX2_create_46 (fun q_10 H hP hD hS => ?_)
    refine lv_dup hx hb dX2_create_49 rfl ?_
    refine lv_iload_n hx hb dX2_create_50 rfl (lv_at hl 1 rfl) ?_
    refine lv_iload_n hx hb dX2_create_51 rfl (lv_at hl 2 rfl) ?_
    refine va_callv (va_runI (As := [.int kd, .int len]) (rest := [.ref q_10, .ref h0]) ⟨hx, hb, hml, hown, hts⟩ (oX0_init l D A cI cJ cD cC ((tc_T cI cJ cD cC h0 h1 h2 h3 h4 ad wd rd Y n K Ln Wh Re cd ct) ++ ([(q_10, .inr (0, [.int 0, .int 0, .null, .null]))] : va_W)) ((tc_T cI cJ cD cC h0 h1 h2 h3 h4 ad wd rd Y n K Ln Wh Re cd ct)).length q_10 H.size tc_app_last (fun q h => hA q (Nat.le_trans hS.1 h)) kd len N hN hlen hz) (cwI 2 hts gX2_create_X0_init rfl rfl rfl (hts (.initialized RX0) (by decide +kernel)) (hts (.methodLink RX2 55 yX0_init) (by decide +kernel)) (hts (.instanceMethod yX0_init) (by decide +kernel)) rfl (by decide +kernel) ⟨Nat.le_of_ble_eq_true rfl, Nat.le_of_ble_eq_true rfl⟩) ⟨tcP.blind, (tcP.go hK hP hD hE hS)⟩ rfl rfl hl.1 rfl (lv_room (Nat.le_of_ble_eq_true rfl)) dX2_create_52 ⟨Nat.le_of_ble_eq_true rfl, Nat.le_of_ble_eq_true rfl⟩) hS (fun q _ h => h) (fun q h => h) (fun u t H locs ht hvm hw hB hz1 hk1 hS => ?_)
    obtain ⟨hP, hD⟩ := hB
    rw [ht] at hP
    rw [tc_app_last_set, List.append_assoc] at hP hD
    obtain ⟨u1, u2⟩ := u
    have hP : va_P D vwCl ((tc_T cI cJ cD cC h0 h1 h2 h3 h4 ad wd rd Y n K Ln Wh Re cd ct) ++ ([(q_10, .inr (0, [.int kd, .int (tc_cl kd N), .ref u1, .ref u2])), (u1, .inl (cJ, tc_wl kd N, .inr (.inl (fun _ => 0)))), (u2, .inl (cD, tc_rl kd N, .inr (.inr (.inr (.inl (fun _ => 0))))))] : va_W)) H := hP
    have hD : va_D A ((tc_T cI cJ cD cC h0 h1 h2 h3 h4 ad wd rd Y n K Ln Wh Re cd ct) ++ ([(q_10, .inr (0, [.int kd, .int (tc_cl kd N), .ref u1, .ref u2])), (u1, .inl (cJ, tc_wl kd N, .inr (.inl (fun _ => 0)))), (u2, .inl (cD, tc_rl kd N, .inr (.inr (.inr (.inl (fun _ => 0))))))] : va_W)) := hD
    refine va_calli (va_runV (As := [.ref q_10]) (rest := []) ⟨hx, hb, hml, hown, hts⟩ (oX2_addColumn l D A cI cJ cD cC ((tc_T cI cJ cD cC h0 h1 h2 h3 h4 ad wd rd Y n K Ln Wh Re cd ct) ++ ([(q_10, .inr (0, [.int kd, .int (tc_cl kd N), .ref u1, .ref u2])), (u1, .inl (cJ, tc_wl kd N, .inr (.inl (fun _ => 0)))), (u2, .inl (cD, tc_rl kd N, .inr (.inr (.inr (.inl (fun _ => 0))))))] : va_W)) h0 h1 h2 h3 n cd (fun j => if j < n then some (ad j) else none) ((tc_T cI cJ cD cC h0 h1 h2 h3 h4 ad wd rd Y n K Ln Wh Re cd ct)).length q_10 _ H.size rfl rfl tc_app_mid hn) (cwV 1 hts gX2_create_X2_addColumn rfl rfl rfl (by decide +kernel) ⟨Nat.le_of_ble_eq_true rfl, Nat.le_of_ble_eq_true rfl⟩) ⟨tcP.blind, (va_recv hK hP (ci := 2) (q0 := 0) rfl rfl), (tcP.go hK hP hD hE hS)⟩ rfl rfl hl.1 rfl (lv_room (Nat.le_of_ble_eq_true rfl)) dX2_create_55 ⟨Nat.le_of_ble_eq_true rfl, Nat.le_of_ble_eq_true rfl⟩) hS (fun q _ h => h) (fun q h => h) (fun r_12 u t H locs ht hvm hw hB hz1 hk1 hS => ?_)
    subst hw
    obtain ⟨hP, hD⟩ := hB
    rw [ht] at hP
    rw [tc_T_add (Wh' := (tc_put n 0 (fun _ => 0) 0 Wh)) (Re' := (tc_put n 0 (fun _ => 0) 0 Re)) (fun j hj => (hI.2.1 j hj).2.1) (fun j i hj hi => tc_put_out hj hi) (fun j i hj hi => tc_put_out hj hi) (zr0 (tc_wl kd N) (wl_le hN) _) (zr0 (tc_rl kd N) (rl_le hN) _)] at hP hD
    exact W.iret (v := nI n) hx hb hr (fun t9 ht9 hW9 => ⟨⟨nI n, (q_10, u1, u2), rfl, rfl, by rw [ht9]; exact hP, hD⟩, hS.F ht9⟩) hS.2.2 dX2_create_58
set_option maxHeartbeats 4000000 in
set_option maxRecDepth 100000 in
theorem tX2_widened_no (l : Launch) (D : va_G) (A : Nat → Prop) (cI cJ cD cC : ClassId) (h0 h1 h2 h3 h4 : Nat) (ad wd rd : Nat → Nat) (Y : va_W) (n : Nat) (K : Nat → Int32) (Ln : Nat → Nat) (Wh : Nat → Int64) (Re : Nat → UInt64) (cd : Int32) (ct : Nat → Int32) (sz : Nat) (hI : tcI n K Ln Wh Re) (j : Nat) (hj : j < n) (hn : n < 60) (kd : Int32) (hk : kHas kd = true) (hc : ¬ wdC K j kd = 0) : Met l yX2_widened wsX2_widened ({ frames := 2, cells := 0, slots := 0, locals := 41 }) (tcP D A (tcTY cI cJ cD cC) sz [.ref h0, .int (nI j), .int kd] (tc_T cI cJ cD cC h0 h1 h2 h3 h4 ad wd rd Y n K Ln Wh Re cd ct)) (va_Qi (fun r (_ : Unit) => r = -1) (fun _ t => tcB D A (tc_T cI cJ cD cC h0 h1 h2 h3 h4 ad wd rd Y n K Ln Wh Re (wdC K j kd) (noteC ct (wdC K j kd))) t) A) 0 0 A := by
  refine Met.ofW (cc := cX2_widened) (maxL := 6) (ret := (some .int)) (by decide) rfl ?_
  intro p e s m args below meth c s₁ B hml hv
  obtain ⟨rfl, hsz, hP, hK, hD, hE⟩ := hv
  have hx := B.exec
  have hb := B.bytes
  have hr := B.returns
  have hts := atoms_spec (ws := wsX2_widened) B.pre
  have hown : s.vm.findClass RX2 = some m.cls := findClass_of_methodNamed B.named
  have hlocks := B.notSynchronized
  have hl := lv_entry ([.ref h0, .int (nI j), .int kd]) (n := 6) (Nat.le_of_ble_eq_true rfl)
  rw [lg_entry_eq]
  generalize (lg_sl ([.ref h0, .int (nI j), .int kd]) ++ List.replicate (6 - (lg_sl ([.ref h0, .int (nI j), .int kd])).length) Slot.unset).toArray = ls at hl ⊢
  have hl : lv_has ls 6 [(0, .ref h0), (1, .int (nI j)), (2, .int kd)] := hl
  subst hsz
  have hS : va_S A s.heap s.heap [] := va_S.rf
  refine lv_aload_n hx hb dX2_widened_0 rfl (lv_at hl 0 rfl) ?_
  refine lv_iload_n hx hb dX2_widened_1 rfl (lv_at hl 1 rfl) ?_
  refine va_csr (tc_CR (va_runV (As := [.int (nI j)]) (rest := []) ⟨hx, hb, hml, hown, hts⟩ (tX2_columnAt l D A cI cJ cD cC h0 h1 h2 h3 h4 ad wd rd Y n K Ln Wh Re cd ct s.heap.size hI.1 j hj) (cwV 1 hts gX2_widened_X2_columnAt rfl rfl rfl (by decide +kernel) ⟨Nat.le_of_ble_eq_true rfl, Nat.le_of_ble_eq_true rfl⟩) ⟨tcP.blind, va_recv hK hP (ci := 2) (q0 := 0) rfl rfl, tcP.go hK hP hD hE hS⟩ rfl rfl hl.1 rfl (lv_room (Nat.le_of_ble_eq_true rfl)) dX2_widened_2 ⟨Nat.le_of_ble_eq_true rfl, Nat.le_of_ble_eq_true rfl⟩)) (fun _ _ => ?_)
  refine lv_astore_n (lv' := [(3, .ref (ad j)), (0, .ref h0), (1, .int (nI j)), (2, .int kd)]) hx hb dX2_widened_5 rfl hl (by decide) rfl (fun ls hl => ?_)
  refine lv_iload_n hx hb dX2_widened_6 rfl (lv_at hl 3 rfl) ?_
  refine va_csv (tc_CR (va_runS (As := [.int kd]) (rest := []) ⟨hx, hb, hml, hown, hts⟩ (tX2_refuseWithoutCells l D A cI cJ cD cC h0 h1 h2 h3 h4 ad wd rd Y n K Ln Wh Re cd ct s.heap.size kd hk) (va_cwS 1 hts gX2_widened_X2_refuseWithoutCells rfl rfl rfl (by decide +kernel) ⟨Nat.le_of_ble_eq_true rfl, Nat.le_of_ble_eq_true rfl⟩) ⟨tcP.blind, (tcP.go hK hP hD hE hS)⟩ rfl rfl hl.1 rfl (lv_room (Nat.le_of_ble_eq_true rfl)) dX2_widened_7 ⟨Nat.le_of_ble_eq_true rfl, Nat.le_of_ble_eq_true rfl⟩)) (fun _ => ?_)
  refine lv_aload_n hx hb dX2_widened_10 rfl (lv_at hl 1 rfl) ?_
  refine va_csv (tc_CR (va_runV (As := []) (rest := []) ⟨hx, hb, hml, hown, hts⟩ (tX2_refuseWhenFull l D A cI cJ cD cC h0 h1 h2 h3 h4 ad wd rd Y n K Ln Wh Re cd ct s.heap.size hn) (cwV 0 hts gX2_widened_X2_refuseWhenFull rfl rfl rfl (by decide +kernel) ⟨Nat.le_of_ble_eq_true rfl, Nat.le_of_ble_eq_true rfl⟩) ⟨tcP.blind, (va_recv hK hP (ci := 2) (q0 := 0) rfl rfl), (tcP.go hK hP hD hE hS)⟩ rfl rfl hl.1 rfl (lv_room (Nat.le_of_ble_eq_true rfl)) dX2_widened_11 ⟨Nat.le_of_ble_eq_true rfl, Nat.le_of_ble_eq_true rfl⟩)) (fun _ => ?_)
  refine lv_aload_n hx hb dX2_widened_14 rfl (lv_at hl 0 rfl) ?_
  refine vp_callSi (tc_CR (va_runS (As := [.ref (ad j)]) (rest := []) ⟨hx, hb, hml, hown, hts⟩ (oX2_codeOfColumn l D A cI cJ cD cC (tc_T cI cJ cD cC h0 h1 h2 h3 h4 ad wd rd Y n K Ln Wh Re cd ct) (5 + (Y.length + (3 * j + 0))) (5 + (Y.length + (3 * j + 1))) (5 + (Y.length + (3 * j + 2))) (ad j) (wd j) (rd j) (K j) (tc_cl (K j) (Ln j)) (tc_wl (K j) (Ln j)) (tc_rl (K j) (Ln j)) (tc_sl (tc_wl (K j) (Ln j)) (fun i => Wh (40 * j + i)) 0) (tc_sl (tc_rl (K j) (Ln j)) (fun i => Re (40 * j + i)) 0) s.heap.size (tc_T0 hj) (tc_T1 hj) (tc_T2 hj) (tc_len_lt (hI.2.1 j hj).2.1)) (va_cwS 1 hts gX2_widened_X2_codeOfColumn rfl rfl rfl (by decide +kernel) ⟨Nat.le_of_ble_eq_true rfl, Nat.le_of_ble_eq_true rfl⟩) ⟨tcP.blind, (tcP.go hK hP hD hE hS)⟩ rfl rfl hl.1 rfl (lv_room (Nat.le_of_ble_eq_true rfl)) dX2_widened_15 ⟨Nat.le_of_ble_eq_true rfl, Nat.le_of_ble_eq_true rfl⟩)) (fun r_1 hr_1 => ?_)
  subst hr_1
  refine lv_istore (lv' := [(4, .int (kCol (K j))), (3, .ref (ad j)), (0, .ref h0), (1, .int (nI j)), (2, .int kd)]) hx hb dX2_widened_18 hl (by decide) rfl (fun ls hl => ?_)
  refine lv_iload hx hb dX2_widened_20 (lv_at hl 0 rfl) ?_
  refine lv_if_ne (tgt := 39) hx hb dX2_widened_22 (by decide) (fun c_2 => ?_) (fun c_2 => ?_)
  · refine lv_aload_n hx hb dX2_widened_39 rfl (lv_at hl 2 rfl) ?_
    refine lv_iload hx hb dX2_widened_40 (lv_at hl 0 rfl) ?_
    have z : wdC K j kd = (kCol (K j)) := by unfold wdC; rw [if_neg c_2]
    refine va_calli (va_runV (As := [.int (kCol (K j))]) (rest := []) ⟨hx, hb, hml, hown, hts⟩ (tX2_note l D A cI cJ cD cC h0 h1 h2 h3 h4 ad wd rd Y n K Ln Wh Re cd ct s.heap.size (kCol (K j)) (z ▸ wdC_in K j kd)) (cwV 1 hts gX2_widened_X2_note rfl rfl rfl (by decide +kernel) ⟨Nat.le_of_ble_eq_true rfl, Nat.le_of_ble_eq_true rfl⟩) ⟨tcP.blind, (va_recv hK hP (ci := 2) (q0 := 0) rfl rfl), (tcP.go hK hP hD hE hS)⟩ rfl rfl hl.1 rfl (lv_room (Nat.le_of_ble_eq_true rfl)) dX2_widened_42 ⟨Nat.le_of_ble_eq_true rfl, Nat.le_of_ble_eq_true rfl⟩) hS (fun q _ h => h) (fun q h => h) (fun r_3 u t H locs ht hvm hw hB hz1 hk1 hS => ?_)
    subst hw
    obtain ⟨hP, hD⟩ := hB
    rw [ht] at hP
    rw [← z] at hP hD
    refine lv_if_eq (tgt := 50) hx hb dX2_widened_45 (by decide) (fun q => absurd q (c_2)) (fun _ => ?_)
    refine lv_iconst (v := (-1)) hx hb dX2_widened_48 (by decide) ?_
    exact W.iret (v := (-1)) hx hb hr (fun t9 ht9 hW9 => ⟨⟨(-1), (), rfl, rfl, by rw [ht9]; exact hP, hD⟩, hS.F ht9⟩) hS.2.2 dX2_widened_49
  · refine lv_aload_n hx hb dX2_widened_25 rfl (lv_at hl 1 rfl) ?_
    refine va_get (D := D) (ci := 0) (fs := [.int (K j), .int (tc_cl (K j) (Ln j)), .ref (wd j), .ref (rd j)]) (v := .int (K j)) (C := RX0) (T := TX0) (N := 4) hx hb hts (by decide +kernel) hown hK hP (5 + (Y.length + (3 * j + 0))) (tc_T0 hj) rfl 0 (by decide) (hts (.fieldLink RX2 66 "TypedColumns$Column" "kind" "I") (by decide +kernel)) (fun _ h9 => h9) rfl dX2_widened_26 ?_
    refine lv_iload_n hx hb dX2_widened_29 rfl (lv_at hl 4 rfl) ?_
    refine vp_callSi (W.runS (As := [.int (K j), .int kd]) (rest := []) ⟨hx, hb, hml, hown, hts⟩ (kX2_widens l (K j) kd) (va_cwS 2 hts gX2_widened_X2_widens rfl rfl rfl (by decide +kernel) ⟨Nat.le_of_ble_eq_true rfl, Nat.le_of_ble_eq_true rfl⟩) ⟨fun a U g mk q => q, fun U hU hW => ⟨rfl, trivial⟩⟩ rfl rfl hl.1 rfl (lv_room (Nat.le_of_ble_eq_true rfl)) dX2_widened_30 ⟨Nat.zero_le _, Nat.zero_le _⟩) (fun r_5 hr_5 => ?_)
    subst hr_5
    refine lv_if_ne (tgt := 39) hx hb dX2_widened_33 (by decide) (fun c_6 => ?_) (fun c_6 => ?_)
    · refine lv_aload_n hx hb dX2_widened_39 rfl (lv_at hl 2 rfl) ?_
      refine lv_iload hx hb dX2_widened_40 (lv_at hl 0 rfl) ?_
      have z : wdC K j kd = (kCol (K j)) := by unfold wdC; rw [if_pos c_2, if_pos ((tb_1 _).mp c_6), c_2]
      exact absurd (z.trans c_2) hc
    · refine lv_iconst (v := 4) hx hb dX2_widened_36 (by decide) ?_
      refine lv_istore (lv' := [(4, .int 4), (3, .ref (ad j)), (0, .ref h0), (1, .int (nI j)), (2, .int kd)]) hx hb dX2_widened_37 hl (by decide) rfl (fun ls hl => ?_)
      refine lv_aload_n hx hb dX2_widened_39 rfl (lv_at hl 2 rfl) ?_
      refine lv_iload hx hb dX2_widened_40 (lv_at hl 0 rfl) ?_
      have z : wdC K j kd = 4 := by unfold wdC; rw [if_pos c_2, if_neg (by rw [(tb_0 _).mp c_6]; decide)]
      refine va_calli (va_runV (As := [.int 4]) (rest := []) ⟨hx, hb, hml, hown, hts⟩ (tX2_note l D A cI cJ cD cC h0 h1 h2 h3 h4 ad wd rd Y n K Ln Wh Re cd ct s.heap.size 4 (z ▸ wdC_in K j kd)) (cwV 1 hts gX2_widened_X2_note rfl rfl rfl (by decide +kernel) ⟨Nat.le_of_ble_eq_true rfl, Nat.le_of_ble_eq_true rfl⟩) ⟨tcP.blind, (va_recv hK hP (ci := 2) (q0 := 0) rfl rfl), (tcP.go hK hP hD hE hS)⟩ rfl rfl hl.1 rfl (lv_room (Nat.le_of_ble_eq_true rfl)) dX2_widened_42 ⟨Nat.le_of_ble_eq_true rfl, Nat.le_of_ble_eq_true rfl⟩) hS (fun q _ h => h) (fun q h => h) (fun r_7 u t H locs ht hvm hw hB hz1 hk1 hS => ?_)
      subst hw
      obtain ⟨hP, hD⟩ := hB
      rw [ht] at hP
      rw [← z] at hP hD
      refine lv_if_eq (tgt := 50) hx hb dX2_widened_45 (by decide) (fun q => absurd q (by decide)) (fun _ => ?_)
      refine lv_iconst (v := (-1)) hx hb dX2_widened_48 (by decide) ?_
      exact W.iret (v := (-1)) hx hb hr (fun t9 ht9 hW9 => ⟨⟨(-1), (), rfl, rfl, by rw [ht9]; exact hP, hD⟩, hS.F ht9⟩) hS.2.2 dX2_widened_49
theorem wd4 {kd : Int32} (hk : kHas kd = true) (a : Int32) (h : kWid a kd = true) : (kFl a = true ∧ kFl kd = true) ∨ (kFl a = false ∧ kFl kd = false) ∨ (kFl a = false ∧ kd = 7) ∨ (kFl a = false ∧ kd = 8) := by
  cases ha : kFl a
  · rcases kFl_3 kd with g | g | g
    · exact Or.inr (Or.inl ⟨rfl, g⟩)
    · exact Or.inr (Or.inr (Or.inl ⟨rfl, g⟩))
    · exact Or.inr (Or.inr (Or.inr ⟨rfl, g⟩))
  · exact Or.inl ⟨rfl, kWid_high h ha⟩
set_option maxHeartbeats 4000000 in
set_option maxRecDepth 100000 in
theorem tX2_widened (l : Launch) (D : va_G) (A : Nat → Prop) (cI cJ cD cC : ClassId) (h0 h1 h2 h3 h4 : Nat) (ad wd rd : Nat → Nat) (Y : va_W) (n : Nat) (K : Nat → Int32) (Ln : Nat → Nat) (Wh : Nat → Int64) (Re : Nat → UInt64) (cd : Int32) (ct : Nat → Int32) (sz : Nat) (hI : tcI n K Ln Wh Re) (j : Nat) (hj : j < n) (hn : n < 60) (kd : Int32) (hk : kHas kd = true) (hc : wdC K j kd = 0) (hA : ∀ q, sz ≤ q → A q) : Met l yX2_widened wsX2_widened ({ frames := 3, cells := 3, slots := 44, locals := 68 }) (tcP D A (tcTY cI cJ cD cC) sz [.ref h0, .int (nI j), .int kd] (tc_T cI cJ cD cC h0 h1 h2 h3 h4 ad wd rd Y n K Ln Wh Re cd ct)) (va_Qi (fun r (_ : Nat × Nat × Nat) => r = nI n) (fun u t => tcB D A (tc_T cI cJ cD cC h0 h1 h2 h3 h4 (va_up ad n u.1) (va_up wd n u.2.1) (va_up rd n u.2.2) Y (n + 1) (va_up K n kd) (va_up Ln n (Ln j)) (tc_put n (Ln j) (fun i => Wh (40 * j + i)) 0 Wh) (tc_put n (Ln j) (wdV K Wh Re j kd) 0 Re) 0 (noteC ct 0)) t) A) 3 44 A := by
  refine Met.ofW (cc := cX2_widened) (maxL := 6) (ret := (some .int)) (by decide) rfl ?_
  intro p e s m args below meth c s₁ B hml hv
  obtain ⟨rfl, hsz, hP, hK, hD, hE⟩ := hv
  have hx := B.exec
  have hb := B.bytes
  have hr := B.returns
  have hts := atoms_spec (ws := wsX2_widened) B.pre
  have hown : s.vm.findClass RX2 = some m.cls := findClass_of_methodNamed B.named
  have hlocks := B.notSynchronized
  have hl := lv_entry ([.ref h0, .int (nI j), .int kd]) (n := 6) (Nat.le_of_ble_eq_true rfl)
  rw [lg_entry_eq]
  generalize (lg_sl ([.ref h0, .int (nI j), .int kd]) ++ List.replicate (6 - (lg_sl ([.ref h0, .int (nI j), .int kd])).length) Slot.unset).toArray = ls at hl ⊢
  have hl : lv_has ls 6 [(0, .ref h0), (1, .int (nI j)), (2, .int kd)] := hl
  subst hsz
  have hS : va_S A s.heap s.heap [] := va_S.rf
  obtain ⟨hc0, hc1⟩ := wdC_0 hc
  have hh := kCol_has (hI.2.1 j hj).1 hc0
  have hL : Ln j ≤ 40 := (hI.2.1 j hj).2.1
  refine lv_aload_n hx hb dX2_widened_0 rfl (lv_at hl 0 rfl) ?_
  refine lv_iload_n hx hb dX2_widened_1 rfl (lv_at hl 1 rfl) ?_
  refine va_csr (tc_CR (va_runV (As := [.int (nI j)]) (rest := []) ⟨hx, hb, hml, hown, hts⟩ (tX2_columnAt l D A cI cJ cD cC h0 h1 h2 h3 h4 ad wd rd Y n K Ln Wh Re cd ct s.heap.size hI.1 j hj) (cwV 1 hts gX2_widened_X2_columnAt rfl rfl rfl (by decide +kernel) ⟨Nat.le_of_ble_eq_true rfl, Nat.le_of_ble_eq_true rfl⟩) ⟨tcP.blind, va_recv hK hP (ci := 2) (q0 := 0) rfl rfl, tcP.go hK hP hD hE hS⟩ rfl rfl hl.1 rfl (lv_room (Nat.le_of_ble_eq_true rfl)) dX2_widened_2 ⟨Nat.le_of_ble_eq_true rfl, Nat.le_of_ble_eq_true rfl⟩)) (fun _ _ => ?_)
  refine lv_astore_n (lv' := [(3, .ref (ad j)), (0, .ref h0), (1, .int (nI j)), (2, .int kd)]) hx hb dX2_widened_5 rfl hl (by decide) rfl (fun ls hl => ?_)
  refine lv_iload_n hx hb dX2_widened_6 rfl (lv_at hl 3 rfl) ?_
  refine va_csv (tc_CR (va_runS (As := [.int kd]) (rest := []) ⟨hx, hb, hml, hown, hts⟩ (tX2_refuseWithoutCells l D A cI cJ cD cC h0 h1 h2 h3 h4 ad wd rd Y n K Ln Wh Re cd ct s.heap.size kd hk) (va_cwS 1 hts gX2_widened_X2_refuseWithoutCells rfl rfl rfl (by decide +kernel) ⟨Nat.le_of_ble_eq_true rfl, Nat.le_of_ble_eq_true rfl⟩) ⟨tcP.blind, (tcP.go hK hP hD hE hS)⟩ rfl rfl hl.1 rfl (lv_room (Nat.le_of_ble_eq_true rfl)) dX2_widened_7 ⟨Nat.le_of_ble_eq_true rfl, Nat.le_of_ble_eq_true rfl⟩)) (fun _ => ?_)
  refine lv_aload_n hx hb dX2_widened_10 rfl (lv_at hl 1 rfl) ?_
  refine va_csv (tc_CR (va_runV (As := []) (rest := []) ⟨hx, hb, hml, hown, hts⟩ (tX2_refuseWhenFull l D A cI cJ cD cC h0 h1 h2 h3 h4 ad wd rd Y n K Ln Wh Re cd ct s.heap.size hn) (cwV 0 hts gX2_widened_X2_refuseWhenFull rfl rfl rfl (by decide +kernel) ⟨Nat.le_of_ble_eq_true rfl, Nat.le_of_ble_eq_true rfl⟩) ⟨tcP.blind, (va_recv hK hP (ci := 2) (q0 := 0) rfl rfl), (tcP.go hK hP hD hE hS)⟩ rfl rfl hl.1 rfl (lv_room (Nat.le_of_ble_eq_true rfl)) dX2_widened_11 ⟨Nat.le_of_ble_eq_true rfl, Nat.le_of_ble_eq_true rfl⟩)) (fun _ => ?_)
  refine lv_aload_n hx hb dX2_widened_14 rfl (lv_at hl 0 rfl) ?_
  refine vp_callSi (tc_CR (va_runS (As := [.ref (ad j)]) (rest := []) ⟨hx, hb, hml, hown, hts⟩ (oX2_codeOfColumn l D A cI cJ cD cC (tc_T cI cJ cD cC h0 h1 h2 h3 h4 ad wd rd Y n K Ln Wh Re cd ct) (5 + (Y.length + (3 * j + 0))) (5 + (Y.length + (3 * j + 1))) (5 + (Y.length + (3 * j + 2))) (ad j) (wd j) (rd j) (K j) (tc_cl (K j) (Ln j)) (tc_wl (K j) (Ln j)) (tc_rl (K j) (Ln j)) (tc_sl (tc_wl (K j) (Ln j)) (fun i => Wh (40 * j + i)) 0) (tc_sl (tc_rl (K j) (Ln j)) (fun i => Re (40 * j + i)) 0) s.heap.size (tc_T0 hj) (tc_T1 hj) (tc_T2 hj) (tc_len_lt (hI.2.1 j hj).2.1)) (va_cwS 1 hts gX2_widened_X2_codeOfColumn rfl rfl rfl (by decide +kernel) ⟨Nat.le_of_ble_eq_true rfl, Nat.le_of_ble_eq_true rfl⟩) ⟨tcP.blind, (tcP.go hK hP hD hE hS)⟩ rfl rfl hl.1 rfl (lv_room (Nat.le_of_ble_eq_true rfl)) dX2_widened_15 ⟨Nat.le_of_ble_eq_true rfl, Nat.le_of_ble_eq_true rfl⟩)) (fun r_1 hr_1 => ?_)
  subst hr_1
  refine lv_istore (lv' := [(4, .int (kCol (K j))), (3, .ref (ad j)), (0, .ref h0), (1, .int (nI j)), (2, .int kd)]) hx hb dX2_widened_18 hl (by decide) rfl (fun ls hl => ?_)
  refine lv_iload hx hb dX2_widened_20 (lv_at hl 0 rfl) ?_
  refine lv_if_ne (tgt := 39) hx hb dX2_widened_22 (by decide) (fun q => absurd (hc0) q) (fun _ => ?_)
  refine lv_aload_n hx hb dX2_widened_25 rfl (lv_at hl 1 rfl) ?_
  refine va_get (D := D) (ci := 0) (fs := [.int (K j), .int (tc_cl (K j) (Ln j)), .ref (wd j), .ref (rd j)]) (v := .int (K j)) (C := RX0) (T := TX0) (N := 4) hx hb hts (by decide +kernel) hown hK hP (5 + (Y.length + (3 * j + 0))) (tc_T0 hj) rfl 0 (by decide) (hts (.fieldLink RX2 66 "TypedColumns$Column" "kind" "I") (by decide +kernel)) (fun _ h9 => h9) rfl dX2_widened_26 ?_
  refine lv_iload_n hx hb dX2_widened_29 rfl (lv_at hl 4 rfl) ?_
  refine vp_callSi (W.runS (As := [.int (K j), .int kd]) (rest := []) ⟨hx, hb, hml, hown, hts⟩ (kX2_widens l (K j) kd) (va_cwS 2 hts gX2_widened_X2_widens rfl rfl rfl (by decide +kernel) ⟨Nat.le_of_ble_eq_true rfl, Nat.le_of_ble_eq_true rfl⟩) ⟨fun a U g mk q => q, fun U hU hW => ⟨rfl, trivial⟩⟩ rfl rfl hl.1 rfl (lv_room (Nat.le_of_ble_eq_true rfl)) dX2_widened_30 ⟨Nat.zero_le _, Nat.zero_le _⟩) (fun r_3 hr_3 => ?_)
  subst hr_3
  refine lv_if_ne (tgt := 39) hx hb dX2_widened_33 (by decide) (fun _ => ?_) (fun q => absurd q ((tb_1 _).mpr hc1))
  refine lv_aload_n hx hb dX2_widened_39 rfl (lv_at hl 2 rfl) ?_
  refine lv_iload hx hb dX2_widened_40 (lv_at hl 0 rfl) ?_
  refine va_calli (va_runV (As := [.int (kCol (K j))]) (rest := []) ⟨hx, hb, hml, hown, hts⟩ (tX2_note l D A cI cJ cD cC h0 h1 h2 h3 h4 ad wd rd Y n K Ln Wh Re cd ct s.heap.size (kCol (K j)) (kCol_in _)) (cwV 1 hts gX2_widened_X2_note rfl rfl rfl (by decide +kernel) ⟨Nat.le_of_ble_eq_true rfl, Nat.le_of_ble_eq_true rfl⟩) ⟨tcP.blind, (va_recv hK hP (ci := 2) (q0 := 0) rfl rfl), (tcP.go hK hP hD hE hS)⟩ rfl rfl hl.1 rfl (lv_room (Nat.le_of_ble_eq_true rfl)) dX2_widened_42 ⟨Nat.le_of_ble_eq_true rfl, Nat.le_of_ble_eq_true rfl⟩) hS (fun q _ h => h) (fun q h => h) (fun r_5 u t H locs ht hvm hw hB hz1 hk1 hS => ?_)
  subst hw
  obtain ⟨hP, hD⟩ := hB
  rw [ht] at hP
  rw [hc0] at hP hD
  refine lv_if_eq (tgt := 50) hx hb dX2_widened_45 (by decide) (fun _ => ?_) (fun q => absurd (hc0) q)
  refine va_new (ci := 0) (fs := [.int 0, .int 0, .null, .null]) (C := RX0) (T := TX0) (N := 4) hx hb hts (by decide +kernel) tyX0 tyX0_ok hown (hts (.classLink RX2 9 RX0) (by decide +kernel)) (hts (.instantiable RX0 4) (by decide +kernel)) (hts (.initialized RX0) (by decide +kernel)) hK hP hD hS hA rfl (fun j hj => by rcases (show j = 0 ∨ j = 1 ∨ j = 2 ∨ j = 3 by omega) with rfl | rfl | rfl | rfl <;> rfl) (Nat.le_of_ble_eq_true rfl) (Nat.le_of_ble_eq_true rfl) dX2_widened_50 (fun q_7 H hP hD hS => ?_)
  refine lv_dup hx hb dX2_widened_53 rfl ?_
  refine lv_iload_n hx hb dX2_widened_54 rfl (lv_at hl 4 rfl) ?_
  refine lv_aload_n hx hb dX2_widened_55 rfl (lv_at hl 1 rfl) ?_
  refine va_get (D := D) (ci := 0) (fs := [.int (K j), .int (tc_cl (K j) (Ln j)), .ref (wd j), .ref (rd j)]) (v := .int (tc_cl (K j) (Ln j))) (C := RX0) (T := TX0) (N := 4) hx hb hts (by decide +kernel) hown hK hP (5 + (Y.length + (3 * j + 0))) (tc_app_l (tc_T0 hj)) rfl 1 (by decide) (hts (.fieldLink RX2 76 "TypedColumns$Column" "length" "I") (by decide +kernel)) (fun _ h9 => h9) rfl dX2_widened_56 ?_
  refine va_callv (va_runI (As := [.int kd, .int (tc_cl (K j) (Ln j))]) (rest := [.ref q_7]) ⟨hx, hb, hml, hown, hts⟩ (oX0_init l D A cI cJ cD cC ((tc_T cI cJ cD cC h0 h1 h2 h3 h4 ad wd rd Y n K Ln Wh Re 0 (noteC ct 0)) ++ ([(q_7, .inr (0, [.int 0, .int 0, .null, .null]))] : va_W)) ((tc_T cI cJ cD cC h0 h1 h2 h3 h4 ad wd rd Y n K Ln Wh Re 0 (noteC ct 0))).length q_7 H.size tc_app_last (fun q h => hA q (Nat.le_trans hS.1 h)) kd (tc_cl (K j) (Ln j)) (Ln j) hL (fun _ => tc_cl_has hh) (fun h => absurd hk (by rw [h]; decide))) (cwI 2 hts gX2_widened_X0_init rfl rfl rfl (hts (.initialized RX0) (by decide +kernel)) (hts (.methodLink RX2 55 yX0_init) (by decide +kernel)) (hts (.instanceMethod yX0_init) (by decide +kernel)) rfl (by decide +kernel) ⟨Nat.le_of_ble_eq_true rfl, Nat.le_of_ble_eq_true rfl⟩) ⟨tcP.blind, (tcP.go hK hP hD hE hS)⟩ rfl rfl hl.1 rfl (lv_room (Nat.le_of_ble_eq_true rfl)) dX2_widened_59 ⟨Nat.le_of_ble_eq_true rfl, Nat.le_of_ble_eq_true rfl⟩) hS (fun q _ h => h) (fun q h => h) (fun u t H locs ht hvm hw hB hz1 hk1 hS => ?_)
  obtain ⟨hP, hD⟩ := hB
  rw [ht] at hP
  rw [tc_app_last_set, List.append_assoc] at hP hD
  obtain ⟨u1, u2⟩ := u
  have hP : va_P D vwCl ((tc_T cI cJ cD cC h0 h1 h2 h3 h4 ad wd rd Y n K Ln Wh Re 0 (noteC ct 0)) ++ ([(q_7, .inr (0, [.int kd, .int (tc_cl kd (Ln j)), .ref u1, .ref u2])), (u1, .inl (cJ, tc_wl kd (Ln j), .inr (.inl (fun _ => 0)))), (u2, .inl (cD, tc_rl kd (Ln j), .inr (.inr (.inr (.inl (fun _ => 0))))))] : va_W)) H := hP
  have hD : va_D A ((tc_T cI cJ cD cC h0 h1 h2 h3 h4 ad wd rd Y n K Ln Wh Re 0 (noteC ct 0)) ++ ([(q_7, .inr (0, [.int kd, .int (tc_cl kd (Ln j)), .ref u1, .ref u2])), (u1, .inl (cJ, tc_wl kd (Ln j), .inr (.inl (fun _ => 0)))), (u2, .inl (cD, tc_rl kd (Ln j), .inr (.inr (.inr (.inl (fun _ => 0))))))] : va_W)) := hD
  refine lv_astore (lv' := [(5, .ref q_7), (4, .int (kCol (K j))), (3, .ref (ad j)), (0, .ref h0), (1, .int (nI j)), (2, .int kd)]) hx hb dX2_widened_62 hl (by decide) rfl (fun ls hl => ?_)
  refine lv_aload hx hb dX2_widened_64 (lv_at hl 0 rfl) ?_
  refine lv_aload_n hx hb dX2_widened_66 rfl (lv_at hl 2 rfl) ?_
  have g5 : (5 + (Y.length + (3 * j + 2))) < (tc_T cI cJ cD cC h0 h1 h2 h3 h4 ad wd rd Y n K Ln Wh Re 0 (noteC ct 0)).length := (List.getElem?_eq_some_iff.mp (tc_T2 hj)).1
  rcases wd4 (kWid_has hc1).2 (K j) hc1 with ⟨gf, gk⟩ | ⟨gf, gk⟩ | ⟨gf, gk⟩ | ⟨gf, gk⟩
  · have gkf : kFl kd = true := gk
    refine va_callv (va_runV (As := [.ref (ad j)]) (rest := []) ⟨hx, hb, hml, hown, hts⟩ (oX0_takeWidened_rr l D A cI cJ cD cC ((tc_T cI cJ cD cC h0 h1 h2 h3 h4 ad wd rd Y n K Ln Wh Re 0 (noteC ct 0)) ++ ([(q_7, .inr (0, [.int kd, .int (tc_cl kd (Ln j)), .ref u1, .ref u2])), (u1, .inl (cJ, tc_wl kd (Ln j), .inr (.inl (fun _ => 0)))), (u2, .inl (cD, tc_rl kd (Ln j), .inr (.inr (.inr (.inl (fun _ => 0))))))] : va_W)) ((tc_T cI cJ cD cC h0 h1 h2 h3 h4 ad wd rd Y n K Ln Wh Re 0 (noteC ct 0)).length) ((tc_T cI cJ cD cC h0 h1 h2 h3 h4 ad wd rd Y n K Ln Wh Re 0 (noteC ct 0)).length + 1) ((tc_T cI cJ cD cC h0 h1 h2 h3 h4 ad wd rd Y n K Ln Wh Re 0 (noteC ct 0)).length + 2) q_7 u1 u2 kd (tc_cl kd (Ln j)) (tc_wl kd (Ln j)) (tc_rl kd (Ln j)) (fun _ => 0) (fun _ => 0) H.size tc_app_mid tc_app_mid1 tc_app_mid2 (tc_len_lt hL) (5 + (Y.length + (3 * j + 0))) (5 + (Y.length + (3 * j + 1))) (5 + (Y.length + (3 * j + 2))) (ad j) (wd j) (rd j) (K j) (tc_cl (K j) (Ln j)) (tc_wl (K j) (Ln j)) (tc_rl (K j) (Ln j)) (tc_sl (tc_wl (K j) (Ln j)) (fun i => Wh (40 * j + i)) 0) (tc_sl (tc_rl (K j) (Ln j)) (fun i => Re (40 * j + i)) 0) (tc_app_l (tc_T0 hj)) (tc_app_l (tc_T1 hj)) (tc_app_l (tc_T2 hj)) (tc_len_lt (hI.2.1 j hj).2.1) ⟨⟨by omega, by omega, by omega, by omega, by omega⟩, ⟨by omega, by omega, by omega, by omega, by omega⟩⟩ (Ln j) (by omega) (tc_cl_has hh) gf (Nat.le_of_eq (tc_rl_n gkf).symm) (Nat.le_of_eq (tc_rl_n gf).symm)) (cwV 1 hts gX2_widened_X0_takeWidened rfl rfl rfl (by decide +kernel) ⟨Nat.le_of_ble_eq_true rfl, Nat.le_of_ble_eq_true rfl⟩) ⟨tcP.blind, (va_recv hK hP (ci := 0) (q0 := (tc_T cI cJ cD cC h0 h1 h2 h3 h4 ad wd rd Y n K Ln Wh Re 0 (noteC ct 0)).length) rfl tc_app_mid), (tcP.go hK hP hD hE hS)⟩ rfl rfl hl.1 rfl (lv_room (Nat.le_of_ble_eq_true rfl)) dX2_widened_67 ⟨Nat.le_of_ble_eq_true rfl, Nat.le_of_ble_eq_true rfl⟩) hS (fun q _ h => h) (fun q h => h) (fun u t H locs ht hvm hw hB hz1 hk1 hS => ?_)
    obtain ⟨hP, hD⟩ := hB
    rw [ht] at hP
    rw [tc_app_mid_set2] at hP hD
    refine lv_aload_n hx hb dX2_widened_70 rfl (lv_at hl 3 rfl) ?_
    refine lv_aload hx hb dX2_widened_71 (lv_at hl 0 rfl) ?_
    refine va_calli (va_runV (As := [.ref q_7]) (rest := []) ⟨hx, hb, hml, hown, hts⟩ (oX2_addColumn l D A cI cJ cD cC ((tc_T cI cJ cD cC h0 h1 h2 h3 h4 ad wd rd Y n K Ln Wh Re 0 (noteC ct 0)) ++ ([(q_7, .inr (0, [.int kd, .int (tc_cl kd (Ln j)), .ref u1, .ref u2])), (u1, .inl (cJ, tc_wl kd (Ln j), .inr (.inl (fun _ => 0)))), (u2, .inl (cD, tc_rl kd (Ln j), .inr (.inr (.inr (.inl (tc_mix (tc_sl (tc_rl (K j) (Ln j)) (fun i => Re (40 * j + i)) 0) (fun _ => 0) (Ln j)))))))] : va_W)) h0 h1 h2 h3 n 0 (fun j => if j < n then some (ad j) else none) ((tc_T cI cJ cD cC h0 h1 h2 h3 h4 ad wd rd Y n K Ln Wh Re 0 (noteC ct 0))).length q_7 _ H.size rfl rfl tc_app_mid hn) (cwV 1 hts gX2_widened_X2_addColumn rfl rfl rfl (by decide +kernel) ⟨Nat.le_of_ble_eq_true rfl, Nat.le_of_ble_eq_true rfl⟩) ⟨tcP.blind, (va_recv hK hP (ci := 2) (q0 := 0) rfl rfl), (tcP.go hK hP hD hE hS)⟩ rfl rfl hl.1 rfl (lv_room (Nat.le_of_ble_eq_true rfl)) dX2_widened_73 ⟨Nat.le_of_ble_eq_true rfl, Nat.le_of_ble_eq_true rfl⟩) hS (fun q _ h => h) (fun q h => h) (fun r_10 u t H locs ht hvm hw hB hz1 hk1 hS => ?_)
    subst hw
    obtain ⟨hP, hD⟩ := hB
    rw [ht] at hP
    rw [tc_T_add (Wh' := (tc_put n (Ln j) (fun i => Wh (40 * j + i)) 0 Wh)) (Re' := (tc_put n (Ln j) (wdV K Wh Re j kd) 0 Re)) (fun j hj => (hI.2.1 j hj).2.1) (fun j i hj hi => tc_put_out hj hi) (fun j i hj hi => tc_put_out hj hi) (tc_sl_nil (tc_wl_z (Ln j) gkf) _ _) (wd_G hL (tc_rl_n gkf) (fun i hi => wdV_r gkf gf (Nat.lt_of_lt_of_eq hi (tc_rl_n gf).symm)))] at hP hD
    exact W.iret (v := nI n) hx hb hr (fun t9 ht9 hW9 => ⟨⟨nI n, (q_7, u1, u2), rfl, rfl, by rw [ht9]; exact hP, hD⟩, hS.F ht9⟩) hS.2.2 dX2_widened_76
  · have gkf : kFl kd = false := gk
    refine va_callv (va_runV (As := [.ref (ad j)]) (rest := []) ⟨hx, hb, hml, hown, hts⟩ (oX0_takeWidened_ww l D A cI cJ cD cC ((tc_T cI cJ cD cC h0 h1 h2 h3 h4 ad wd rd Y n K Ln Wh Re 0 (noteC ct 0)) ++ ([(q_7, .inr (0, [.int kd, .int (tc_cl kd (Ln j)), .ref u1, .ref u2])), (u1, .inl (cJ, tc_wl kd (Ln j), .inr (.inl (fun _ => 0)))), (u2, .inl (cD, tc_rl kd (Ln j), .inr (.inr (.inr (.inl (fun _ => 0))))))] : va_W)) ((tc_T cI cJ cD cC h0 h1 h2 h3 h4 ad wd rd Y n K Ln Wh Re 0 (noteC ct 0)).length) ((tc_T cI cJ cD cC h0 h1 h2 h3 h4 ad wd rd Y n K Ln Wh Re 0 (noteC ct 0)).length + 1) ((tc_T cI cJ cD cC h0 h1 h2 h3 h4 ad wd rd Y n K Ln Wh Re 0 (noteC ct 0)).length + 2) q_7 u1 u2 kd (tc_cl kd (Ln j)) (tc_wl kd (Ln j)) (tc_rl kd (Ln j)) (fun _ => 0) (fun _ => 0) H.size tc_app_mid tc_app_mid1 tc_app_mid2 (tc_len_lt hL) (5 + (Y.length + (3 * j + 0))) (5 + (Y.length + (3 * j + 1))) (5 + (Y.length + (3 * j + 2))) (ad j) (wd j) (rd j) (K j) (tc_cl (K j) (Ln j)) (tc_wl (K j) (Ln j)) (tc_rl (K j) (Ln j)) (tc_sl (tc_wl (K j) (Ln j)) (fun i => Wh (40 * j + i)) 0) (tc_sl (tc_rl (K j) (Ln j)) (fun i => Re (40 * j + i)) 0) (tc_app_l (tc_T0 hj)) (tc_app_l (tc_T1 hj)) (tc_app_l (tc_T2 hj)) (tc_len_lt (hI.2.1 j hj).2.1) ⟨⟨by omega, by omega, by omega, by omega, by omega⟩, ⟨by omega, by omega, by omega, by omega, by omega⟩⟩ (Ln j) (by omega) (tc_cl_has hh) gf gk (Nat.le_of_eq (tc_wl_n gk).symm) (Nat.le_of_eq (tc_wl_n gf).symm)) (cwV 1 hts gX2_widened_X0_takeWidened rfl rfl rfl (by decide +kernel) ⟨Nat.le_of_ble_eq_true rfl, Nat.le_of_ble_eq_true rfl⟩) ⟨tcP.blind, (va_recv hK hP (ci := 0) (q0 := (tc_T cI cJ cD cC h0 h1 h2 h3 h4 ad wd rd Y n K Ln Wh Re 0 (noteC ct 0)).length) rfl tc_app_mid), (tcP.go hK hP hD hE hS)⟩ rfl rfl hl.1 rfl (lv_room (Nat.le_of_ble_eq_true rfl)) dX2_widened_67 ⟨Nat.le_of_ble_eq_true rfl, Nat.le_of_ble_eq_true rfl⟩) hS (fun q _ h => h) (fun q h => h) (fun u t H locs ht hvm hw hB hz1 hk1 hS => ?_)
    obtain ⟨hP, hD⟩ := hB
    rw [ht] at hP
    rw [tc_app_mid_set1] at hP hD
    refine lv_aload_n hx hb dX2_widened_70 rfl (lv_at hl 3 rfl) ?_
    refine lv_aload hx hb dX2_widened_71 (lv_at hl 0 rfl) ?_
    refine va_calli (va_runV (As := [.ref q_7]) (rest := []) ⟨hx, hb, hml, hown, hts⟩ (oX2_addColumn l D A cI cJ cD cC ((tc_T cI cJ cD cC h0 h1 h2 h3 h4 ad wd rd Y n K Ln Wh Re 0 (noteC ct 0)) ++ ([(q_7, .inr (0, [.int kd, .int (tc_cl kd (Ln j)), .ref u1, .ref u2])), (u1, .inl (cJ, tc_wl kd (Ln j), .inr (.inl (tc_mix (tc_sl (tc_wl (K j) (Ln j)) (fun i => Wh (40 * j + i)) 0) (fun _ => 0) (Ln j))))), (u2, .inl (cD, tc_rl kd (Ln j), .inr (.inr (.inr (.inl (fun _ => 0))))))] : va_W)) h0 h1 h2 h3 n 0 (fun j => if j < n then some (ad j) else none) ((tc_T cI cJ cD cC h0 h1 h2 h3 h4 ad wd rd Y n K Ln Wh Re 0 (noteC ct 0))).length q_7 _ H.size rfl rfl tc_app_mid hn) (cwV 1 hts gX2_widened_X2_addColumn rfl rfl rfl (by decide +kernel) ⟨Nat.le_of_ble_eq_true rfl, Nat.le_of_ble_eq_true rfl⟩) ⟨tcP.blind, (va_recv hK hP (ci := 2) (q0 := 0) rfl rfl), (tcP.go hK hP hD hE hS)⟩ rfl rfl hl.1 rfl (lv_room (Nat.le_of_ble_eq_true rfl)) dX2_widened_73 ⟨Nat.le_of_ble_eq_true rfl, Nat.le_of_ble_eq_true rfl⟩) hS (fun q _ h => h) (fun q h => h) (fun r_12 u t H locs ht hvm hw hB hz1 hk1 hS => ?_)
    subst hw
    obtain ⟨hP, hD⟩ := hB
    rw [ht] at hP
    rw [tc_T_add (Wh' := (tc_put n (Ln j) (fun i => Wh (40 * j + i)) 0 Wh)) (Re' := (tc_put n (Ln j) (wdV K Wh Re j kd) 0 Re)) (fun j hj => (hI.2.1 j hj).2.1) (fun j i hj hi => tc_put_out hj hi) (fun j i hj hi => tc_put_out hj hi) (wd_F hL (tc_wl_n gkf) (tc_wl_n gf)) (tc_sl_nil (tc_rl_z (Ln j) gkf) _ _)] at hP hD
    exact W.iret (v := nI n) hx hb hr (fun t9 ht9 hW9 => ⟨⟨nI n, (q_7, u1, u2), rfl, rfl, by rw [ht9]; exact hP, hD⟩, hS.F ht9⟩) hS.2.2 dX2_widened_76
  · have gkf : kFl kd = true := by rw [gk]; decide
    refine va_callv (va_runV (As := [.ref (ad j)]) (rest := []) ⟨hx, hb, hml, hown, hts⟩ (oX0_takeWidened_wf l D A cI cJ cD cC ((tc_T cI cJ cD cC h0 h1 h2 h3 h4 ad wd rd Y n K Ln Wh Re 0 (noteC ct 0)) ++ ([(q_7, .inr (0, [.int kd, .int (tc_cl kd (Ln j)), .ref u1, .ref u2])), (u1, .inl (cJ, tc_wl kd (Ln j), .inr (.inl (fun _ => 0)))), (u2, .inl (cD, tc_rl kd (Ln j), .inr (.inr (.inr (.inl (fun _ => 0))))))] : va_W)) ((tc_T cI cJ cD cC h0 h1 h2 h3 h4 ad wd rd Y n K Ln Wh Re 0 (noteC ct 0)).length) ((tc_T cI cJ cD cC h0 h1 h2 h3 h4 ad wd rd Y n K Ln Wh Re 0 (noteC ct 0)).length + 1) ((tc_T cI cJ cD cC h0 h1 h2 h3 h4 ad wd rd Y n K Ln Wh Re 0 (noteC ct 0)).length + 2) q_7 u1 u2 kd (tc_cl kd (Ln j)) (tc_wl kd (Ln j)) (tc_rl kd (Ln j)) (fun _ => 0) (fun _ => 0) H.size tc_app_mid tc_app_mid1 tc_app_mid2 (tc_len_lt hL) (5 + (Y.length + (3 * j + 0))) (5 + (Y.length + (3 * j + 1))) (5 + (Y.length + (3 * j + 2))) (ad j) (wd j) (rd j) (K j) (tc_cl (K j) (Ln j)) (tc_wl (K j) (Ln j)) (tc_rl (K j) (Ln j)) (tc_sl (tc_wl (K j) (Ln j)) (fun i => Wh (40 * j + i)) 0) (tc_sl (tc_rl (K j) (Ln j)) (fun i => Re (40 * j + i)) 0) (tc_app_l (tc_T0 hj)) (tc_app_l (tc_T1 hj)) (tc_app_l (tc_T2 hj)) (tc_len_lt (hI.2.1 j hj).2.1) ⟨⟨by omega, by omega, by omega, by omega, by omega⟩, ⟨by omega, by omega, by omega, by omega, by omega⟩⟩ (Ln j) (by omega) (tc_cl_has hh) gf gk (Nat.le_of_eq (tc_rl_n gkf).symm) (Nat.le_of_eq (tc_wl_n gf).symm)) (cwV 1 hts gX2_widened_X0_takeWidened rfl rfl rfl (by decide +kernel) ⟨Nat.le_of_ble_eq_true rfl, Nat.le_of_ble_eq_true rfl⟩) ⟨tcP.blind, (va_recv hK hP (ci := 0) (q0 := (tc_T cI cJ cD cC h0 h1 h2 h3 h4 ad wd rd Y n K Ln Wh Re 0 (noteC ct 0)).length) rfl tc_app_mid), (tcP.go hK hP hD hE hS)⟩ rfl rfl hl.1 rfl (lv_room (Nat.le_of_ble_eq_true rfl)) dX2_widened_67 ⟨Nat.le_of_ble_eq_true rfl, Nat.le_of_ble_eq_true rfl⟩) hS (fun q _ h => h) (fun q h => h) (fun u t H locs ht hvm hw hB hz1 hk1 hS => ?_)
    obtain ⟨hP, hD⟩ := hB
    rw [ht] at hP
    rw [tc_app_mid_set2] at hP hD
    refine lv_aload_n hx hb dX2_widened_70 rfl (lv_at hl 3 rfl) ?_
    refine lv_aload hx hb dX2_widened_71 (lv_at hl 0 rfl) ?_
    refine va_calli (va_runV (As := [.ref q_7]) (rest := []) ⟨hx, hb, hml, hown, hts⟩ (oX2_addColumn l D A cI cJ cD cC ((tc_T cI cJ cD cC h0 h1 h2 h3 h4 ad wd rd Y n K Ln Wh Re 0 (noteC ct 0)) ++ ([(q_7, .inr (0, [.int kd, .int (tc_cl kd (Ln j)), .ref u1, .ref u2])), (u1, .inl (cJ, tc_wl kd (Ln j), .inr (.inl (fun _ => 0)))), (u2, .inl (cD, tc_rl kd (Ln j), .inr (.inr (.inr (.inl (tc_mix (fun q => FP.f2d (FP.l2f ((tc_sl (tc_wl (K j) (Ln j)) (fun i => Wh (40 * j + i)) 0) q))) (fun _ => 0) (Ln j)))))))] : va_W)) h0 h1 h2 h3 n 0 (fun j => if j < n then some (ad j) else none) ((tc_T cI cJ cD cC h0 h1 h2 h3 h4 ad wd rd Y n K Ln Wh Re 0 (noteC ct 0))).length q_7 _ H.size rfl rfl tc_app_mid hn) (cwV 1 hts gX2_widened_X2_addColumn rfl rfl rfl (by decide +kernel) ⟨Nat.le_of_ble_eq_true rfl, Nat.le_of_ble_eq_true rfl⟩) ⟨tcP.blind, (va_recv hK hP (ci := 2) (q0 := 0) rfl rfl), (tcP.go hK hP hD hE hS)⟩ rfl rfl hl.1 rfl (lv_room (Nat.le_of_ble_eq_true rfl)) dX2_widened_73 ⟨Nat.le_of_ble_eq_true rfl, Nat.le_of_ble_eq_true rfl⟩) hS (fun q _ h => h) (fun q h => h) (fun r_14 u t H locs ht hvm hw hB hz1 hk1 hS => ?_)
    subst hw
    obtain ⟨hP, hD⟩ := hB
    rw [ht] at hP
    rw [tc_T_add (Wh' := (tc_put n (Ln j) (fun i => Wh (40 * j + i)) 0 Wh)) (Re' := (tc_put n (Ln j) (wdV K Wh Re j kd) 0 Re)) (fun j hj => (hI.2.1 j hj).2.1) (fun j i hj hi => tc_put_out hj hi) (fun j i hj hi => tc_put_out hj hi) (tc_sl_nil (tc_wl_z (Ln j) gkf) _ _) (wd_G hL (tc_rl_n gkf) (fun i hi => wdV_f gkf gf gk (Nat.lt_of_lt_of_eq hi (tc_wl_n gf).symm)))] at hP hD
    exact W.iret (v := nI n) hx hb hr (fun t9 ht9 hW9 => ⟨⟨nI n, (q_7, u1, u2), rfl, rfl, by rw [ht9]; exact hP, hD⟩, hS.F ht9⟩) hS.2.2 dX2_widened_76
  · have gkf : kFl kd = true := by rw [gk]; decide
    refine va_callv (va_runV (As := [.ref (ad j)]) (rest := []) ⟨hx, hb, hml, hown, hts⟩ (oX0_takeWidened_wd l D A cI cJ cD cC ((tc_T cI cJ cD cC h0 h1 h2 h3 h4 ad wd rd Y n K Ln Wh Re 0 (noteC ct 0)) ++ ([(q_7, .inr (0, [.int kd, .int (tc_cl kd (Ln j)), .ref u1, .ref u2])), (u1, .inl (cJ, tc_wl kd (Ln j), .inr (.inl (fun _ => 0)))), (u2, .inl (cD, tc_rl kd (Ln j), .inr (.inr (.inr (.inl (fun _ => 0))))))] : va_W)) ((tc_T cI cJ cD cC h0 h1 h2 h3 h4 ad wd rd Y n K Ln Wh Re 0 (noteC ct 0)).length) ((tc_T cI cJ cD cC h0 h1 h2 h3 h4 ad wd rd Y n K Ln Wh Re 0 (noteC ct 0)).length + 1) ((tc_T cI cJ cD cC h0 h1 h2 h3 h4 ad wd rd Y n K Ln Wh Re 0 (noteC ct 0)).length + 2) q_7 u1 u2 kd (tc_cl kd (Ln j)) (tc_wl kd (Ln j)) (tc_rl kd (Ln j)) (fun _ => 0) (fun _ => 0) H.size tc_app_mid tc_app_mid1 tc_app_mid2 (tc_len_lt hL) (5 + (Y.length + (3 * j + 0))) (5 + (Y.length + (3 * j + 1))) (5 + (Y.length + (3 * j + 2))) (ad j) (wd j) (rd j) (K j) (tc_cl (K j) (Ln j)) (tc_wl (K j) (Ln j)) (tc_rl (K j) (Ln j)) (tc_sl (tc_wl (K j) (Ln j)) (fun i => Wh (40 * j + i)) 0) (tc_sl (tc_rl (K j) (Ln j)) (fun i => Re (40 * j + i)) 0) (tc_app_l (tc_T0 hj)) (tc_app_l (tc_T1 hj)) (tc_app_l (tc_T2 hj)) (tc_len_lt (hI.2.1 j hj).2.1) ⟨⟨by omega, by omega, by omega, by omega, by omega⟩, ⟨by omega, by omega, by omega, by omega, by omega⟩⟩ (Ln j) (by omega) (tc_cl_has hh) gf gk (Nat.le_of_eq (tc_rl_n gkf).symm) (Nat.le_of_eq (tc_wl_n gf).symm)) (cwV 1 hts gX2_widened_X0_takeWidened rfl rfl rfl (by decide +kernel) ⟨Nat.le_of_ble_eq_true rfl, Nat.le_of_ble_eq_true rfl⟩) ⟨tcP.blind, (va_recv hK hP (ci := 0) (q0 := (tc_T cI cJ cD cC h0 h1 h2 h3 h4 ad wd rd Y n K Ln Wh Re 0 (noteC ct 0)).length) rfl tc_app_mid), (tcP.go hK hP hD hE hS)⟩ rfl rfl hl.1 rfl (lv_room (Nat.le_of_ble_eq_true rfl)) dX2_widened_67 ⟨Nat.le_of_ble_eq_true rfl, Nat.le_of_ble_eq_true rfl⟩) hS (fun q _ h => h) (fun q h => h) (fun u t H locs ht hvm hw hB hz1 hk1 hS => ?_)
    obtain ⟨hP, hD⟩ := hB
    rw [ht] at hP
    rw [tc_app_mid_set2] at hP hD
    refine lv_aload_n hx hb dX2_widened_70 rfl (lv_at hl 3 rfl) ?_
    refine lv_aload hx hb dX2_widened_71 (lv_at hl 0 rfl) ?_
    refine va_calli (va_runV (As := [.ref q_7]) (rest := []) ⟨hx, hb, hml, hown, hts⟩ (oX2_addColumn l D A cI cJ cD cC ((tc_T cI cJ cD cC h0 h1 h2 h3 h4 ad wd rd Y n K Ln Wh Re 0 (noteC ct 0)) ++ ([(q_7, .inr (0, [.int kd, .int (tc_cl kd (Ln j)), .ref u1, .ref u2])), (u1, .inl (cJ, tc_wl kd (Ln j), .inr (.inl (fun _ => 0)))), (u2, .inl (cD, tc_rl kd (Ln j), .inr (.inr (.inr (.inl (tc_mix (fun q => FP.l2d ((tc_sl (tc_wl (K j) (Ln j)) (fun i => Wh (40 * j + i)) 0) q)) (fun _ => 0) (Ln j)))))))] : va_W)) h0 h1 h2 h3 n 0 (fun j => if j < n then some (ad j) else none) ((tc_T cI cJ cD cC h0 h1 h2 h3 h4 ad wd rd Y n K Ln Wh Re 0 (noteC ct 0))).length q_7 _ H.size rfl rfl tc_app_mid hn) (cwV 1 hts gX2_widened_X2_addColumn rfl rfl rfl (by decide +kernel) ⟨Nat.le_of_ble_eq_true rfl, Nat.le_of_ble_eq_true rfl⟩) ⟨tcP.blind, (va_recv hK hP (ci := 2) (q0 := 0) rfl rfl), (tcP.go hK hP hD hE hS)⟩ rfl rfl hl.1 rfl (lv_room (Nat.le_of_ble_eq_true rfl)) dX2_widened_73 ⟨Nat.le_of_ble_eq_true rfl, Nat.le_of_ble_eq_true rfl⟩) hS (fun q _ h => h) (fun q h => h) (fun r_16 u t H locs ht hvm hw hB hz1 hk1 hS => ?_)
    subst hw
    obtain ⟨hP, hD⟩ := hB
    rw [ht] at hP
    rw [tc_T_add (Wh' := (tc_put n (Ln j) (fun i => Wh (40 * j + i)) 0 Wh)) (Re' := (tc_put n (Ln j) (wdV K Wh Re j kd) 0 Re)) (fun j hj => (hI.2.1 j hj).2.1) (fun j i hj hi => tc_put_out hj hi) (fun j i hj hi => tc_put_out hj hi) (tc_sl_nil (tc_wl_z (Ln j) gkf) _ _) (wd_G hL (tc_rl_n gkf) (fun i hi => wdV_d gkf gf gk (Nat.lt_of_lt_of_eq hi (tc_wl_n gf).symm)))] at hP hD
    exact W.iret (v := nI n) hx hb hr (fun t9 ht9 hW9 => ⟨⟨nI n, (q_7, u1, u2), rfl, rfl, by rw [ht9]; exact hP, hD⟩, hS.F ht9⟩) hS.2.2 dX2_widened_76
end
section
/-! THE CONSTRUCTORS OF THE STORE -/
def tf_pw (i : Nat) : UInt64 := if i < 10 then tf_N (1023 + 2 ^ i) 0 else 9218868437227405312
theorem tf_pw_s : ∀ i, i < 10 → FP.dmul (tf_pw i) (tf_pw i) = tf_pw (i + 1) ∧ FP.Core.dIsNaN (tf_pw (i + 1)) = false := by decide +kernel
theorem tf_pw_in {i : Nat} (h : i < 10) : tf_pw i = tf_N (1023 + 2 ^ i) 0 := if_pos h
theorem tf_pw_0 : tf_pw 0 = 4611686018427387904 := by decide +kernel
theorem tf_mix_s (i : Nat) (hi : i < 10) : vf_upd (tc_mix (fun j => tf_N (1023 + 2 ^ j) 0) (fun _ => 0) i) i (tf_pw i) = tc_mix (fun j => tf_N (1023 + 2 ^ j) 0) (fun _ => 0) (i + 1) := by
  rw [tf_pw_in hi]; exact tc_mix_s _ _ i
set_option maxHeartbeats 4000000 in
set_option maxRecDepth 100000 in
theorem oX1_init (l : Launch) (D : va_G) (A : Nat → Prop) (cI cJ cD cC : ClassId) (ws : va_W) (p0 a sz : Nat) (e0 : ws[p0]? = some (a, .inr (1, [.null]))) (hA : ∀ q, sz ≤ q → A q) : Met l yX1_init wsX1_init ({ frames := 1, cells := 1, slots := 10, locals := 12 }) (tcP D A (tcTY cI cJ cD cC) sz [.ref a] ws) (va_Qv (fun _ : Nat => True) (fun u t => tcB D A ((ws.set p0 (a, .inr (1, [.ref u]))) ++ ([(u, .inl (cD, 10, .inr (.inr (.inr (.inl (tc_mix (fun j => tf_N (1023 + 2 ^ j) 0) (fun _ => 0) 10))))))] : va_W)) t) A) 1 10 A := by
  refine Met.ofW (cc := cX1_init) (maxL := 4) (ret := none) (by decide) rfl ?_
  intro p e s m args below meth c s₁ B hml hv
  obtain ⟨rfl, hsz, hP, hK, hD, hE⟩ := hv
  have hx := B.exec
  have hb := B.bytes
  have hr := B.returns
  have hts := atoms_spec (ws := wsX1_init) B.pre
  have hown : s.vm.findClass RX1 = some m.cls := findClass_of_methodNamed B.named
  have hlocks := B.notSynchronized
  have hl := lv_entry ([.ref a]) (n := 4) (Nat.le_of_ble_eq_true rfl)
  rw [lg_entry_eq]
  generalize (lg_sl ([.ref a]) ++ List.replicate (4 - (lg_sl ([.ref a])).length) Slot.unset).toArray = ls at hl ⊢
  have hl : lv_has ls 4 [(0, .ref a)] := hl
  subst hsz
  have hS : va_S A s.heap s.heap [] := va_S.rf
  have hin : meth.name = "<init>" := (name_of_methodNamed B.named B.method).1
  refine lv_aload_n hx hb dX1_init_0 rfl (lv_at hl 0 rfl) ?_
  refine W.objInit hx hb hown (hts (.methodLink RX1 1 objectInit) (by decide +kernel)) (hts (.instanceMethod objectInit) (by decide +kernel)) (hts _ (List.mem_cons_of_mem _ (List.mem_append_left _ (List.mem_of_getElem? (i := 2) rfl)))) rfl (by rw [hml]; exact hl.1) rfl dX1_init_1 (Nat.le_of_ble_eq_true rfl) (Nat.le_of_ble_eq_true rfl) ?_
  refine W.eq (g2 := F0 m 4 ls []) rfl ?_
  refine lv_aload_n hx hb dX1_init_4 rfl (lv_at hl 0 rfl) ?_
  refine lv_bipush (v := 10) hx hb dX1_init_5 (by decide) ?_
  refine va_newa (atype := .double) (ty := .double) (N' := 10) (a0 := (10, .inr (.inr (.inr (.inl (fun _ => 0)))))) hx hb (hts (.arrayClass .double) (by decide +kernel)) rfl hK hP hD hS hA (fun _ => rfl) (by decide) (rfl) (Nat.le_of_ble_eq_true rfl) (Nat.le_of_ble_eq_true rfl) (Nat.le_of_ble_eq_true rfl) dX1_init_7 (fun q_1 cA_2 H hK1 hP hD hS => ?_)
  have hcA_2 : cD = cA_2 := tc_uniq hK1 (i := 2) (j := 4) rfl rfl
  subst hcA_2
  clear hK1
  have hP : va_P D vwCl (ws ++ ([(q_1, .inl (cD, 10, .inr (.inr (.inr (.inl (fun _ => 0))))))] : va_W)) H := hP
  have hD : va_D A (ws ++ ([(q_1, .inl (cD, 10, .inr (.inr (.inr (.inl (fun _ => 0))))))] : va_W)) := hD
  refine va_putF (D := D) (ci := 1) (fs := [.null]) (v := .ref q_1) (ty := .array .double) (C := RX1) (T := TX1) (N := 1) hx hb hts (by decide +kernel) tyX1 tyX1_ok nmX1 hown hK hP hD hS p0 (tc_app_l e0) rfl 0 (by decide) (hts (.fieldLink RX1 9 "TypedColumns$DoubleBits" "powers" "[D") (by decide +kernel)) (fun _ h9 => h9) rfl hin rfl (by decide +kernel) rfl rfl (Nat.le_of_ble_eq_true rfl) dX1_init_9 (fun H locs hP hD hS => ?_)
  rw [tc_app_set (e0)] at hP hD
  have hP : va_P D vwCl ((ws.set p0 (a, .inr (1, [.ref q_1]))) ++ ([(q_1, .inl (cD, 10, .inr (.inr (.inr (.inl (fun _ => 0))))))] : va_W)) H := hP
  have hD : va_D A ((ws.set p0 (a, .inr (1, [.ref q_1]))) ++ ([(q_1, .inl (cD, 10, .inr (.inr (.inr (.inl (fun _ => 0))))))] : va_W)) := hD
  refine lv_ldc2d (v := 4611686018427387904) hx hb hown (hts (.constantDouble RX1 13 (4611686018427387904)) (by decide +kernel)) dX1_init_12 ?_
  refine lv_dstore_n (lv' := [(1, .double 4611686018427387904), (0, .ref a)]) hx hb dX1_init_15 rfl hl (by decide) rfl (fun ls hl => ?_)
  refine lv_iconst (v := 0) hx hb dX1_init_16 (by decide) ?_
  refine lv_istore_n (lv' := [(3, .int 0), (1, .double 4611686018427387904), (0, .ref a)]) hx hb dX1_init_17 rfl hl (by decide) rfl (fun ls hl => ?_)
  have hP : va_P D vwCl ((ws.set p0 (a, .inr (1, [.ref q_1]))) ++ ([(q_1, .inl (cD, 10, .inr (.inr (.inr (.inl (tc_mix (fun j => tf_N (1023 + 2 ^ j) 0) (fun _ => 0) 0))))))] : va_W)) H := by rw [tc_mix_0]; exact hP
  have hD : va_D A ((ws.set p0 (a, .inr (1, [.ref q_1]))) ++ ([(q_1, .inl (cD, 10, .inr (.inr (.inr (.inl (tc_mix (fun j => tf_N (1023 + 2 ^ j) 0) (fun _ => 0) 0))))))] : va_W)) := by rw [tc_mix_0]; exact hD
  have hl0 : lv_has ls 4 [(3, .int (nI 0)), (1, .double (tf_pw 0)), (0, .ref a)] := by rw [tf_pw_0]; exact lv_sub hl [0, 1, 2] rfl
  refine tc_loop (fun k9 H locs ls => ∃ i : Nat, i + k9 = 10 ∧ va_P D vwCl ((ws.set p0 (a, .inr (1, [.ref q_1]))) ++ ([(q_1, .inl (cD, 10, .inr (.inr (.inr (.inl (tc_mix (fun j => tf_N (1023 + 2 ^ j) 0) (fun _ => 0) i))))))] : va_W)) H ∧ va_D A ((ws.set p0 (a, .inr (1, [.ref q_1]))) ++ ([(q_1, .inl (cD, 10, .inr (.inr (.inr (.inl (tc_mix (fun j => tf_N (1023 + 2 ^ j) 0) (fun _ => 0) i))))))] : va_W)) ∧ va_S A s.heap H locs ∧ lv_has ls 4 [(3, .int (nI i)), (1, .double (tf_pw i)), (0, .ref a)]) (fun k9 H locs ls hi9 ih => ?_) (fun H locs ls hi9 => ?_) 10 ⟨0, by omega, hP, hD, hS, hl0⟩
  · obtain ⟨i, hik, hP, hD, hS, hl⟩ := hi9
    have hiN : i < 10 := by omega
    have ep := tc_app_l (v := ([(q_1, .inl (cD, 10, .inr (.inr (.inr (.inl (tc_mix (fun j => tf_N (1023 + 2 ^ j) 0) (fun _ => 0) i))))))] : va_W)) (tc_set_self (y := (a, .inr (1, [.ref q_1]))) e0)
    have ea : ((ws.set p0 (a, .inr (1, [.ref q_1]))) ++ ([(q_1, .inl (cD, 10, .inr (.inr (.inr (.inl (tc_mix (fun j => tf_N (1023 + 2 ^ j) 0) (fun _ => 0) i))))))] : va_W))[(ws.set p0 (a, .inr (1, [.ref q_1]))).length]? = some (q_1, .inl (cD, 10, .inr (.inr (.inr (.inl (tc_mix (fun j => tf_N (1023 + 2 ^ j) 0) (fun _ => 0) i)))))) := tc_app_last
    refine lv_iload_n hx hb dX1_init_18 rfl (lv_at hl 0 rfl) ?_
    refine lv_aload_n hx hb dX1_init_19 rfl (lv_at hl 2 rfl) ?_
    refine va_get (D := D) (ci := 1) (fs := [.ref q_1]) (v := .ref q_1) (C := RX1) (T := TX1) (N := 1) hx hb hts (by decide +kernel) hown hK hP p0 ep rfl 0 (by decide) (hts (.fieldLink RX1 9 "TypedColumns$DoubleBits" "powers" "[D") (by decide +kernel)) (fun _ h9 => h9) rfl dX1_init_20 ?_
    refine va_alen (v := 10) hx hb hK hP ((ws.set p0 (a, .inr (1, [.ref q_1]))).length) 2 ea rfl rfl dX1_init_23 ?_
    refine lv_icmp_ge (tgt := 44) hx hb dX1_init_24 (by decide) (fun q => absurd q (nI_ge hiN (by decide))) (fun _ => ?_)
    refine lv_aload_n hx hb dX1_init_27 rfl (lv_at hl 2 rfl) ?_
    refine va_get (D := D) (ci := 1) (fs := [.ref q_1]) (v := .ref q_1) (C := RX1) (T := TX1) (N := 1) hx hb hts (by decide +kernel) hown hK hP p0 ep rfl 0 (by decide) (hts (.fieldLink RX1 9 "TypedColumns$DoubleBits" "powers" "[D") (by decide +kernel)) (fun _ h9 => h9) rfl dX1_init_28 ?_
    refine lv_iload_n hx hb dX1_init_31 rfl (lv_at hl 0 rfl) ?_
    refine lv_dload_n hx hb dX1_init_32 rfl (lv_at hl 1 rfl) ?_
    refine va_dast (f := (tc_mix (fun j => tf_N (1023 + 2 ^ j) 0) (fun _ => 0) i)) hx hb hK hP hD hS ((ws.set p0 (a, .inr (1, [.ref q_1]))).length) 2 ea rfl (vp_in_nI hiN (by decide)) dX1_init_33 (fun H locs hP hD hS => ?_)
    rw [tc_app_last_set, nI_clamp (n := i) (by omega), tf_mix_s i hiN] at hP hD
    refine lv_dload_n hx hb dX1_init_34 rfl (lv_at hl 1 rfl) ?_
    refine lv_dload_n hx hb dX1_init_35 rfl (lv_at hl 1 rfl) ?_
    refine lv_dmul hx hb dX1_init_36 ((tf_n64 _).mpr (by rw [(tf_pw_s i hiN).1]; exact (tf_pw_s i hiN).2)) ?_
    refine lv_dstore_n (lv' := [(1, .double (FP.dmul (tf_pw i) (tf_pw i))), (3, .int (nI i)), (0, .ref a)]) hx hb dX1_init_37 rfl hl (by decide) rfl (fun ls hl => ?_)
    obtain ⟨x_4, ex_4⟩ : ∃ y : Int32, y = (nI i) + (1) := ⟨_, rfl⟩
    refine lv_iinc (v := x_4) (lv' := [(3, .int x_4), (1, .double (FP.dmul (tf_pw i) (tf_pw i))), (0, .ref a)]) hx hb dX1_init_38 hl (k := 1) rfl (by rw [ex_4]; rfl) (by decide) rfl (fun ls hl => ?_)
    refine lv_goto (tgt := 18) hx hb dX1_init_41 (by decide) ?_
    subst ex_4
    rw [(tf_pw_s i hiN).1] at hl
    exact ih _ _ _ ⟨i + 1, by omega, hP, hD, hS, by rw [nI_succ]; exact lv_sub hl [0, 1, 2] rfl⟩
  · obtain ⟨i, hik, hP, hD, hS, hl⟩ := hi9
    have hiN : i = 10 := by omega
    rw [hiN] at hl
    rw [hiN] at hP hD
    have ep := tc_app_l (v := ([(q_1, .inl (cD, 10, .inr (.inr (.inr (.inl (tc_mix (fun j => tf_N (1023 + 2 ^ j) 0) (fun _ => 0) 10))))))] : va_W)) (tc_set_self (y := (a, .inr (1, [.ref q_1]))) e0)
    have ea : ((ws.set p0 (a, .inr (1, [.ref q_1]))) ++ ([(q_1, .inl (cD, 10, .inr (.inr (.inr (.inl (tc_mix (fun j => tf_N (1023 + 2 ^ j) 0) (fun _ => 0) 10))))))] : va_W))[(ws.set p0 (a, .inr (1, [.ref q_1]))).length]? = some (q_1, .inl (cD, 10, .inr (.inr (.inr (.inl (tc_mix (fun j => tf_N (1023 + 2 ^ j) 0) (fun _ => 0) 10)))))) := tc_app_last
    refine lv_iload_n hx hb dX1_init_18 rfl (lv_at hl 0 rfl) ?_
    refine lv_aload_n hx hb dX1_init_19 rfl (lv_at hl 2 rfl) ?_
    refine va_get (D := D) (ci := 1) (fs := [.ref q_1]) (v := .ref q_1) (C := RX1) (T := TX1) (N := 1) hx hb hts (by decide +kernel) hown hK hP p0 ep rfl 0 (by decide) (hts (.fieldLink RX1 9 "TypedColumns$DoubleBits" "powers" "[D") (by decide +kernel)) (fun _ h9 => h9) rfl dX1_init_20 ?_
    refine va_alen (v := 10) hx hb hK hP ((ws.set p0 (a, .inr (1, [.ref q_1]))).length) 2 ea rfl rfl dX1_init_23 ?_
    refine lv_icmp_ge (tgt := 44) hx hb dX1_init_24 (by decide) (fun _ => ?_) (fun q => absurd (nI_le (Nat.le_refl 10) (by decide)) q)
    exact W.vret hx hb hr (fun t9 ht9 hW9 => ⟨⟨q_1, rfl, trivial, by rw [ht9]; exact hP, hD⟩, hS.F ht9⟩) hS.2.2 dX1_init_44
def tcPA (D : va_G) (A : Nat → Prop) (tys : List (ClassId × FieldType)) (sz : Nat) (av : List Value) (ws : va_W) : Array Value → State → Prop := va_Pc av (fun U => (U.heap.size = sz ∧ va_P D vwCl ws U.heap ∧ va_K D vwCl tys U ∧ va_D A ws ∧ tc_E A U) ∧ va_AO "TypedColumns$Column" U)
theorem tcPA.blind {D : va_G} {A : Nat → Prop} {tys : List (ClassId × FieldType)} {sz : Nat} {av : List Value} {ws : va_W} : FrameBlind (tcPA D A tys sz av ws) := fun a U g mk q => ⟨q.1, ⟨q.2.1.1, q.2.1.2.1, va_K.moved (u := U) (U := U.calling g mk a) (Vm.Alike.refl U.vm) q.2.1.2.2.1, q.2.1.2.2.2.1, q.2.1.2.2.2.2.blind g mk a⟩, va_AO.moved (u := U) (U := U.calling g mk a) (Vm.Alike.refl U.vm) q.2.2⟩
theorem tcPA.go {D : va_G} {A : Nat → Prop} {tys : List (ClassId × FieldType)} {av : List Value} {ws : va_W} {s : State} {H : Heap} {locs : List Loc} (hK : va_K D vwCl tys s) (hP : va_P D vwCl ws H) (hD : va_D A ws) (hE : tc_E A s) (hAO : va_AO "TypedColumns$Column" s) (hS : va_S A s.heap H locs) : ∀ U : State, U.heap = H → s.WarmedH U.vm → tcPA D A tys H.size av ws av.toArray U :=
  fun U hU hW => ⟨rfl, ⟨by rw [hU], by rw [hU]; exact hP, va_K.moved hW.alike hK, hD, hE.go hS hU hW⟩, va_AO.moved hW.alike hAO⟩
set_option maxHeartbeats 4000000 in
set_option maxRecDepth 100000 in
theorem oX2_init (l : Launch) (D : va_G) (A : Nat → Prop) (cI cJ cD cC : ClassId) (ws : va_W) (p0 a sz : Nat) (e0 : ws[p0]? = some (a, .inr (2, [.null, .null, .null, .int 0, .int 0]))) (hA : ∀ q, sz ≤ q → A q) : Met l yX2_init wsX2_init ({ frames := 2, cells := 4, slots := 77, locals := 35 }) (tcPA D A (tcTY cI cJ cD cC) sz [.ref a] ws) (va_Qv (fun _ : Nat × Nat × Nat × Nat => True) (fun u t => tcB D A (ws.set p0 (a, .inr (2, [.ref u.1, .ref u.2.1, .ref u.2.2.1, .int 0, .int 0])) ++ ([(u.1, .inl (cC, 60, .inr (.inr (.inr (.inr (fun _ => none)))))), (u.2.1, .inl (cI, 6, .inl (fun _ => 0))), (u.2.2.1, .inr (1, [.ref u.2.2.2])), (u.2.2.2, .inl (cD, 10, .inr (.inr (.inr (.inl (tc_mix (fun j => tf_N (1023 + 2 ^ j) 0) (fun _ => 0) 10))))))] : va_W)) t) A) 4 77 A := by
  refine Met.ofW (cc := cX2_init) (maxL := 1) (ret := none) (by decide) rfl ?_
  intro p e s m args below meth c s₁ B hml hv
  obtain ⟨rfl, ⟨hsz, hP, hK, hD, hE⟩, hAO⟩ := hv
  have hx := B.exec
  have hb := B.bytes
  have hr := B.returns
  have hts := atoms_spec (ws := wsX2_init) B.pre
  have hown : s.vm.findClass RX2 = some m.cls := findClass_of_methodNamed B.named
  have hlocks := B.notSynchronized
  have hl := lv_entry ([.ref a]) (n := 1) (Nat.le_of_ble_eq_true rfl)
  rw [lg_entry_eq]
  generalize (lg_sl ([.ref a]) ++ List.replicate (1 - (lg_sl ([.ref a])).length) Slot.unset).toArray = ls at hl ⊢
  have hl : lv_has ls 1 [(0, .ref a)] := hl
  subst hsz
  have hS : va_S A s.heap s.heap [] := va_S.rf
  have hin : meth.name = "<init>" := (name_of_methodNamed B.named B.method).1
  refine lv_aload_n hx hb dX2_init_0 rfl (lv_at hl 0 rfl) ?_
  refine W.objInit hx hb hown (hts (.methodLink RX2 1 objectInit) (by decide +kernel)) (hts (.instanceMethod objectInit) (by decide +kernel)) (hts _ (List.mem_cons_of_mem _ (List.mem_append_left _ (List.mem_append_left _ (List.mem_of_getElem? (i := 2) rfl))))) rfl (by rw [hml]; exact hl.1) rfl dX2_init_1 (Nat.le_of_ble_eq_true rfl) (Nat.le_of_ble_eq_true rfl) ?_
  refine W.eq (g2 := F0 m 4 ls []) rfl ?_
  refine lv_aload_n hx hb dX2_init_4 rfl (lv_at hl 0 rfl) ?_
  refine lv_bipush (v := 60) hx hb dX2_init_5 (by decide) ?_
  refine va_newq (N' := 60) hx hb hown (hts (.classLink RX2 9 RX0) (by decide +kernel)) hAO hK hP hD hS hA (by decide) rfl (Nat.le_of_ble_eq_true rfl) (Nat.le_of_ble_eq_true rfl) (Nat.le_of_ble_eq_true rfl) dX2_init_7 (fun q_1 cA_2 H hK1 hP hD hS => ?_)
  have hcA_2 : cC = cA_2 := tc_uniq hK1 (i := 3) (j := 4) rfl rfl
  subst hcA_2
  clear hK1
  have hP : va_P D vwCl (ws ++ ([(q_1, .inl (cC, 60, .inr (.inr (.inr (.inr (fun _ => none))))))] : va_W)) H := hP
  have hD : va_D A (ws ++ ([(q_1, .inl (cC, 60, .inr (.inr (.inr (.inr (fun _ => none))))))] : va_W)) := hD
  refine va_putF (D := D) (ci := 2) (fs := [.null, .null, .null, .int 0, .int 0]) (v := .ref q_1) (ty := .array (.object "TypedColumns$Column")) (C := RX2) (T := TX2) (N := 5) hx hb hts (by decide +kernel) tyX2 tyX2_ok nmX2 hown hK hP hD hS p0 (tc_app_l e0) rfl 0 (by decide) (hts (.fieldLink RX2 11 "TypedColumns" "columns" "[LTypedColumns$Column;") (by decide +kernel)) (fun _ h9 => h9) rfl hin rfl (by decide +kernel) rfl rfl (Nat.le_of_ble_eq_true rfl) dX2_init_10 (fun H locs hP hD hS => ?_)
  rw [tc_app_set (e0)] at hP hD
  have hP : va_P D vwCl ((ws.set p0 (a, .inr (2, [.ref q_1, .null, .null, .int 0, .int 0]))) ++ ([(q_1, .inl (cC, 60, .inr (.inr (.inr (.inr (fun _ => none))))))] : va_W)) H := hP
  have hD : va_D A ((ws.set p0 (a, .inr (2, [.ref q_1, .null, .null, .int 0, .int 0]))) ++ ([(q_1, .inl (cC, 60, .inr (.inr (.inr (.inr (fun _ => none))))))] : va_W)) := hD
  refine lv_aload_n hx hb dX2_init_13 rfl (lv_at hl 0 rfl) ?_
  refine lv_bipush (v := 6) hx hb dX2_init_14 (by decide) ?_
  refine va_newa (atype := .int) (ty := .int) (N' := 6) (a0 := (6, .inl (fun _ => 0))) hx hb (hts (.arrayClass .int) (by decide +kernel)) rfl hK hP hD hS hA (fun _ => rfl) (by decide) (rfl) (Nat.le_of_ble_eq_true rfl) (Nat.le_of_ble_eq_true rfl) (Nat.le_of_ble_eq_true rfl) dX2_init_16 (fun q_3 cA_4 H hK1 hP hD hS => ?_)
  have hcA_4 : cI = cA_4 := tc_uniq hK1 (i := 0) (j := 4) rfl rfl
  subst hcA_4
  clear hK1
  have hP : va_P D vwCl (((ws.set p0 (a, .inr (2, [.ref q_1, .null, .null, .int 0, .int 0]))) ++ ([(q_1, .inl (cC, 60, .inr (.inr (.inr (.inr (fun _ => none))))))] : va_W)) ++ ([(q_3, .inl (cI, 6, .inl (fun _ => 0)))] : va_W)) H := hP
  have hD : va_D A (((ws.set p0 (a, .inr (2, [.ref q_1, .null, .null, .int 0, .int 0]))) ++ ([(q_1, .inl (cC, 60, .inr (.inr (.inr (.inr (fun _ => none))))))] : va_W)) ++ ([(q_3, .inl (cI, 6, .inl (fun _ => 0)))] : va_W)) := hD
  refine va_putF (D := D) (ci := 2) (fs := [.ref q_1, .null, .null, .int 0, .int 0]) (v := .ref q_3) (ty := .array .int) (C := RX2) (T := TX2) (N := 5) hx hb hts (by decide +kernel) tyX2 tyX2_ok nmX2 hown hK hP hD hS p0 (tc_app_l (tc_app_l (tc_set_self e0))) rfl 1 (by decide) (hts (.fieldLink RX2 15 "TypedColumns" "counts" "[I") (by decide +kernel)) (fun _ h9 => h9) rfl hin rfl (by decide +kernel) rfl rfl (Nat.le_of_ble_eq_true rfl) dX2_init_18 (fun H locs hP hD hS => ?_)
  rw [tc_app_set (tc_app_l (tc_set_self e0)), tc_app_set (tc_set_self e0), List.set_set] at hP hD
  have hP : va_P D vwCl (((ws.set p0 (a, .inr (2, [.ref q_1, .ref q_3, .null, .int 0, .int 0]))) ++ ([(q_1, .inl (cC, 60, .inr (.inr (.inr (.inr (fun _ => none))))))] : va_W)) ++ ([(q_3, .inl (cI, 6, .inl (fun _ => 0)))] : va_W)) H := hP
  have hD : va_D A (((ws.set p0 (a, .inr (2, [.ref q_1, .ref q_3, .null, .int 0, .int 0]))) ++ ([(q_1, .inl (cC, 60, .inr (.inr (.inr (.inr (fun _ => none))))))] : va_W)) ++ ([(q_3, .inl (cI, 6, .inl (fun _ => 0)))] : va_W)) := hD
  refine lv_aload_n hx hb dX2_init_21 rfl (lv_at hl 0 rfl) ?_
  refine va_new (ci := 1) (fs := [.null]) (C := RX1) (T := TX1) (N := 1) hx hb hts (by decide +kernel) tyX1 tyX1_ok hown (hts (.classLink RX2 19 RX1) (by decide +kernel)) (hts (.instantiable RX1 1) (by decide +kernel)) (hts (.initialized RX1) (by decide +kernel)) hK hP hD hS hA rfl (fun j hj => by rcases (show j = 0 by omega) with rfl <;> rfl) (Nat.le_of_ble_eq_true rfl) (Nat.le_of_ble_eq_true rfl) dX2_init_22 (fun q_5 H hP hD hS => ?_)
  have hP : va_P D vwCl ((((ws.set p0 (a, .inr (2, [.ref q_1, .ref q_3, .null, .int 0, .int 0]))) ++ ([(q_1, .inl (cC, 60, .inr (.inr (.inr (.inr (fun _ => none))))))] : va_W)) ++ ([(q_3, .inl (cI, 6, .inl (fun _ => 0)))] : va_W)) ++ ([(q_5, .inr (1, [.null]))] : va_W)) H := hP
  have hD : va_D A ((((ws.set p0 (a, .inr (2, [.ref q_1, .ref q_3, .null, .int 0, .int 0]))) ++ ([(q_1, .inl (cC, 60, .inr (.inr (.inr (.inr (fun _ => none))))))] : va_W)) ++ ([(q_3, .inl (cI, 6, .inl (fun _ => 0)))] : va_W)) ++ ([(q_5, .inr (1, [.null]))] : va_W)) := hD
  refine lv_dup hx hb dX2_init_25 rfl ?_
  refine va_callv (va_runI (As := []) (rest := [.ref q_5, .ref a]) ⟨hx, hb, hml, hown, hts⟩ (oX1_init l D A cI cJ cD cC ((((ws.set p0 (a, .inr (2, [.ref q_1, .ref q_3, .null, .int 0, .int 0]))) ++ ([(q_1, .inl (cC, 60, .inr (.inr (.inr (.inr (fun _ => none))))))] : va_W)) ++ ([(q_3, .inl (cI, 6, .inl (fun _ => 0)))] : va_W)) ++ ([(q_5, .inr (1, [.null]))] : va_W)) ((((ws.set p0 (a, .inr (2, [.ref q_1, .ref q_3, .null, .int 0, .int 0]))) ++ ([(q_1, .inl (cC, 60, .inr (.inr (.inr (.inr (fun _ => none))))))] : va_W)) ++ ([(q_3, .inl (cI, 6, .inl (fun _ => 0)))] : va_W))).length q_5 H.size tc_app_last (fun q h => hA q (Nat.le_trans hS.1 h))) (cwI 0 hts gX2_init_X1_init rfl rfl rfl (hts (.initialized RX1) (by decide +kernel)) (hts (.methodLink RX2 21 yX1_init) (by decide +kernel)) (hts (.instanceMethod yX1_init) (by decide +kernel)) rfl (by decide +kernel) ⟨Nat.le_of_ble_eq_true rfl, Nat.le_of_ble_eq_true rfl⟩) ⟨tcP.blind, (tcP.go hK hP hD hE hS)⟩ rfl rfl hl.1 rfl (lv_room (Nat.le_of_ble_eq_true rfl)) dX2_init_26 ⟨Nat.le_of_ble_eq_true rfl, Nat.le_of_ble_eq_true rfl⟩) hS (fun q _ h => h) (fun q h => h) (fun u t H locs ht hvm hw hB hz1 hk1 hS => ?_)
  obtain ⟨hP, hD⟩ := hB
  rw [ht] at hP
  rw [tc_app_last_set] at hP hD
  have hP : va_P D vwCl (((((ws.set p0 (a, .inr (2, [.ref q_1, .ref q_3, .null, .int 0, .int 0]))) ++ ([(q_1, .inl (cC, 60, .inr (.inr (.inr (.inr (fun _ => none))))))] : va_W)) ++ ([(q_3, .inl (cI, 6, .inl (fun _ => 0)))] : va_W)) ++ ([(q_5, .inr (1, [.ref u]))] : va_W)) ++ ([(u, .inl (cD, 10, .inr (.inr (.inr (.inl (tc_mix (fun j => tf_N (1023 + 2 ^ j) 0) (fun _ => 0) 10))))))] : va_W)) H := hP
  have hD : va_D A (((((ws.set p0 (a, .inr (2, [.ref q_1, .ref q_3, .null, .int 0, .int 0]))) ++ ([(q_1, .inl (cC, 60, .inr (.inr (.inr (.inr (fun _ => none))))))] : va_W)) ++ ([(q_3, .inl (cI, 6, .inl (fun _ => 0)))] : va_W)) ++ ([(q_5, .inr (1, [.ref u]))] : va_W)) ++ ([(u, .inl (cD, 10, .inr (.inr (.inr (.inl (tc_mix (fun j => tf_N (1023 + 2 ^ j) 0) (fun _ => 0) 10))))))] : va_W)) := hD
  refine va_putF (D := D) (ci := 2) (fs := [.ref q_1, .ref q_3, .null, .int 0, .int 0]) (v := .ref q_5) (ty := .object "TypedColumns$DoubleBits") (C := RX2) (T := TX2) (N := 5) hx hb hts (by decide +kernel) tyX2 tyX2_ok nmX2 hown hK hP hD hS p0 (tc_app_l (tc_app_l (tc_app_l (tc_app_l (tc_set_self e0))))) rfl 2 (by decide) (hts (.fieldLink RX2 22 "TypedColumns" "doubleBits" "LTypedColumns$DoubleBits;") (by decide +kernel)) (fun _ h9 => h9) rfl hin rfl (by decide +kernel) rfl rfl (Nat.le_of_ble_eq_true rfl) dX2_init_29 (fun H locs hP hD hS => ?_)
  rw [tc_app_set (tc_app_l (tc_app_l (tc_app_l (tc_set_self e0)))), tc_app_set (tc_app_l (tc_app_l (tc_set_self e0))), tc_app_set (tc_app_l (tc_set_self e0)), tc_app_set (tc_set_self e0), List.set_set] at hP hD
  have hP : va_P D vwCl (((((ws.set p0 (a, .inr (2, [.ref q_1, .ref q_3, .ref q_5, .int 0, .int 0]))) ++ ([(q_1, .inl (cC, 60, .inr (.inr (.inr (.inr (fun _ => none))))))] : va_W)) ++ ([(q_3, .inl (cI, 6, .inl (fun _ => 0)))] : va_W)) ++ ([(q_5, .inr (1, [.ref u]))] : va_W)) ++ ([(u, .inl (cD, 10, .inr (.inr (.inr (.inl (tc_mix (fun j => tf_N (1023 + 2 ^ j) 0) (fun _ => 0) 10))))))] : va_W)) H := hP
  have hD : va_D A (((((ws.set p0 (a, .inr (2, [.ref q_1, .ref q_3, .ref q_5, .int 0, .int 0]))) ++ ([(q_1, .inl (cC, 60, .inr (.inr (.inr (.inr (fun _ => none))))))] : va_W)) ++ ([(q_3, .inl (cI, 6, .inl (fun _ => 0)))] : va_W)) ++ ([(q_5, .inr (1, [.ref u]))] : va_W)) ++ ([(u, .inl (cD, 10, .inr (.inr (.inr (.inl (tc_mix (fun j => tf_N (1023 + 2 ^ j) 0) (fun _ => 0) 10))))))] : va_W)) := hD
  refine lv_aload_n hx hb dX2_init_32 rfl (lv_at hl 0 rfl) ?_
  refine lv_iconst (v := 0) hx hb dX2_init_33 (by decide) ?_
  refine va_put (D := D) (ci := 2) (fs := [.ref q_1, .ref q_3, .ref q_5, .int 0, .int 0]) (v := .int 0) (ty := .int) (C := RX2) (T := TX2) (N := 5) hx hb hts (by decide +kernel) tyX2 tyX2_ok nmX2 hown hK hP hD hS p0 (tc_app_l (tc_app_l (tc_app_l (tc_app_l (tc_set_self e0))))) rfl 3 (by decide) (hts (.fieldLink RX2 26 "TypedColumns" "created" "I") (by decide +kernel)) (fun _ h9 => h9) rfl (by decide +kernel) rfl rfl (Nat.le_of_ble_eq_true rfl) dX2_init_34 (fun H locs hP hD hS => ?_)
  rw [tc_app_set (tc_app_l (tc_app_l (tc_app_l (tc_set_self e0)))), tc_app_set (tc_app_l (tc_app_l (tc_set_self e0))), tc_app_set (tc_app_l (tc_set_self e0)), tc_app_set (tc_set_self e0), List.set_set] at hP hD
  have hP : va_P D vwCl (((((ws.set p0 (a, .inr (2, [.ref q_1, .ref q_3, .ref q_5, .int 0, .int 0]))) ++ ([(q_1, .inl (cC, 60, .inr (.inr (.inr (.inr (fun _ => none))))))] : va_W)) ++ ([(q_3, .inl (cI, 6, .inl (fun _ => 0)))] : va_W)) ++ ([(q_5, .inr (1, [.ref u]))] : va_W)) ++ ([(u, .inl (cD, 10, .inr (.inr (.inr (.inl (tc_mix (fun j => tf_N (1023 + 2 ^ j) 0) (fun _ => 0) 10))))))] : va_W)) H := hP
  have hD : va_D A (((((ws.set p0 (a, .inr (2, [.ref q_1, .ref q_3, .ref q_5, .int 0, .int 0]))) ++ ([(q_1, .inl (cC, 60, .inr (.inr (.inr (.inr (fun _ => none))))))] : va_W)) ++ ([(q_3, .inl (cI, 6, .inl (fun _ => 0)))] : va_W)) ++ ([(q_5, .inr (1, [.ref u]))] : va_W)) ++ ([(u, .inl (cD, 10, .inr (.inr (.inr (.inl (tc_mix (fun j => tf_N (1023 + 2 ^ j) 0) (fun _ => 0) 10))))))] : va_W)) := hD
  refine lv_aload_n hx hb dX2_init_37 rfl (lv_at hl 0 rfl) ?_
  refine lv_iconst (v := 0) hx hb dX2_init_38 (by decide) ?_
  refine va_put (D := D) (ci := 2) (fs := [.ref q_1, .ref q_3, .ref q_5, .int 0, .int 0]) (v := .int 0) (ty := .int) (C := RX2) (T := TX2) (N := 5) hx hb hts (by decide +kernel) tyX2 tyX2_ok nmX2 hown hK hP hD hS p0 (tc_app_l (tc_app_l (tc_app_l (tc_app_l (tc_set_self e0))))) rfl 4 (by decide) (hts (.fieldLink RX2 30 "TypedColumns" "latestCode" "I") (by decide +kernel)) (fun _ h9 => h9) rfl (by decide +kernel) rfl rfl (Nat.le_of_ble_eq_true rfl) dX2_init_39 (fun H locs hP hD hS => ?_)
  rw [tc_app_set (tc_app_l (tc_app_l (tc_app_l (tc_set_self e0)))), tc_app_set (tc_app_l (tc_app_l (tc_set_self e0))), tc_app_set (tc_app_l (tc_set_self e0)), tc_app_set (tc_set_self e0), List.set_set] at hP hD
  have hP : va_P D vwCl (((((ws.set p0 (a, .inr (2, [.ref q_1, .ref q_3, .ref q_5, .int 0, .int 0]))) ++ ([(q_1, .inl (cC, 60, .inr (.inr (.inr (.inr (fun _ => none))))))] : va_W)) ++ ([(q_3, .inl (cI, 6, .inl (fun _ => 0)))] : va_W)) ++ ([(q_5, .inr (1, [.ref u]))] : va_W)) ++ ([(u, .inl (cD, 10, .inr (.inr (.inr (.inl (tc_mix (fun j => tf_N (1023 + 2 ^ j) 0) (fun _ => 0) 10))))))] : va_W)) H := hP
  have hD : va_D A (((((ws.set p0 (a, .inr (2, [.ref q_1, .ref q_3, .ref q_5, .int 0, .int 0]))) ++ ([(q_1, .inl (cC, 60, .inr (.inr (.inr (.inr (fun _ => none))))))] : va_W)) ++ ([(q_3, .inl (cI, 6, .inl (fun _ => 0)))] : va_W)) ++ ([(q_5, .inr (1, [.ref u]))] : va_W)) ++ ([(u, .inl (cD, 10, .inr (.inr (.inr (.inl (tc_mix (fun j => tf_N (1023 + 2 ^ j) 0) (fun _ => 0) 10))))))] : va_W)) := hD
  rw [List.append_assoc, List.append_assoc, List.append_assoc] at hP hD
  exact W.vret hx hb hr (fun t9 ht9 hW9 => ⟨⟨(q_1, q_3, q_5, u), rfl, trivial, by rw [ht9]; exact hP, hD⟩, hS.F ht9⟩) hS.2.2 dX2_init_42
end
section
/-! FLOATS: what ints become, and back; sums of finite numbers -/
theorem tf_ge32 {i : Int} {a : UInt32} (ha : a.toNat = FP.Core.fromInt FP.Core.b32 i) (hi : 8388608 ≤ i.natAbs) : 150 * 2 ^ 23 ≤ a.toNat % 2 ^ 31 := by
  have hd : FP.Core.decode FP.Core.b32 (FP.Core.fromInt FP.Core.b32 i) = FP.Core.roundRatio FP.Core.b32 (decide (i < 0)) i.natAbs 1 0 := FP.Core.decode_enc FP.Core.good_b32 (FP.Core.round_fits FP.Core.good_b32 _)
  have h : 150 * FP.Core.b32.tails ≤ FP.Core.mag FP.Core.b32 (FP.Core.fromInt FP.Core.b32 i) := by
    refine FP.Core.mag_ge FP.Core.good_b32 hd (by decide) (e0 := FP.Core.b32.qmin) (Int.le_refl _) (by rw [FP.Core.qmin_b32]; decide) (by decide +kernel) ?_
    rw [FP.Core.unitsOf_start (by decide), Int.sub_self, Int.toNat_zero, Nat.pow_zero, Nat.mul_one, Nat.mul_one]
    show _ ≤ i.natAbs * 2 ^ (0 - FP.Core.b32.qmin).toNat
    rw [FP.Core.qmin_b32, FP.Core.tails_b32]
    show 8388608 * 2 ^ 149 ≤ i.natAbs * 2 ^ 149
    exact Nat.mul_le_mul_right _ hi
  rw [← ha, FP.Core.mag_toNat32, FP.Core.tails_b32] at h
  exact h
theorem tf_dec32 {a : UInt32} (h1 : 150 * 2 ^ 23 ≤ a.toNat % 2 ^ 31) (h2 : a.toNat % 2 ^ 31 < 160 * 2 ^ 23) : ∃ s c q, FP.Core.val32 a = .fin s c q ∧ 0 ≤ q ∧ q ≤ 9 ∧ 0 < c ∧ c ≤ 2 ^ 24 := by
  have hE : FP.Core.fieldE FP.Core.b32 a.toNat = a.toNat % 2 ^ 31 / 2 ^ 23 := by rw [FP.Core.fieldE_mag, FP.Core.mag_toNat32, FP.Core.tails_b32]
  have hT : FP.Core.fieldT FP.Core.b32 a.toNat < 2 ^ 23 := by unfold FP.Core.fieldT; rw [FP.Core.tails_b32]; exact Nat.mod_lt _ (by decide)
  have hx : FP.Core.b32.exps = 256 := by decide
  have ht : FP.Core.b32.tails = 2 ^ 23 := FP.Core.tails_b32
  have e1 : (2 : Nat) ^ 31 = 2147483648 := rfl
  have e2 : (2 : Nat) ^ 23 = 8388608 := rfl
  have e3 : (2 : Nat) ^ 24 = 16777216 := rfl
  rw [e1, e2] at h1 h2 hE
  rw [e2] at hT ht
  show ∃ s c q, FP.Core.decode FP.Core.b32 a.toNat = .fin s c q ∧ _
  unfold FP.Core.decode
  rw [hE, hx, if_neg (by omega), if_neg (by omega), FP.Core.qmin_b32, ht, e3]
  exact ⟨_, _, _, rfl, by omega, by omega, by omega, by omega⟩
theorem tf_signed (s : Bool) (n : Nat) : (FP.Core.signed s n).natAbs = n := by
  unfold FP.Core.signed
  cases s <;> simp
theorem tg_i2f (x : Int32) : FP.l2f x.toInt64 = FP.i2f x := by
  refine FP.Core.val32_inj ?_ ?_
  · obtain ⟨s, c, q, h⟩ := FP.Core.l2f_fin x.toInt64
    show FP.Core.val32 (FP.Core.l2f x.toInt64) ≠ _
    rw [h]
    exact fun z => by cases z
  · show FP.Core.val32 (FP.Core.l2f x.toInt64) = FP.Core.val32 (FP.Core.i2f x)
    rw [FP.Core.val32_l2f, FP.Core.val32_i2f, Int32.toInt_toInt64]
theorem tg_i2d (x : Int32) : FP.l2d x.toInt64 = FP.i2d x := by
  refine FP.Core.val64_inj ?_ ?_
  · obtain ⟨s, c, q, h⟩ := FP.Core.l2d_fin x.toInt64
    show FP.Core.val64 (FP.Core.l2d x.toInt64) ≠ _
    rw [h]
    exact fun z => by cases z
  · show FP.Core.val64 (FP.Core.l2d x.toInt64) = FP.Core.val64 (FP.Core.i2d x)
    rw [FP.Core.val64_l2d, FP.Core.val64_i2d, Int32.toInt_toInt64]
theorem tf_FFn {a : UInt32} (h : FP.Core.FFin a) : FP.Core.fIsNaN a = false := by
  refine (FP.Core.notNaN_iff32 _).mpr ?_
  obtain ⟨s, c, q, h⟩ := h
  rw [h]
  exact fun z => by cases z
theorem tf_DFn {a : UInt64} (h : FP.Core.DFin a) : FP.Core.dIsNaN a = false := (FP.Core.notNaN_iff _).mpr h.ne_nan
theorem tf_finl (w : Int64) : FP.Core.DFin (FP.l2d w) := FP.Core.l2d_fin w
theorem tf_finf {a : UInt32} (h : FP.Core.FFin a) : FP.Core.DFin (FP.f2d a) := by
  rw [FP.f2d_core (tf_FFn h)]
  exact FP.Core.f2d_fin h
theorem tf_fi (x : Int32) : FP.Core.FFin (FP.i2f x) := FP.Core.i2f_fin x
theorem tf_fl (x : Int64) : FP.Core.FFin (FP.l2f x) := FP.Core.l2f_fin x
/-- a float that an int became is a whole number: through a long it comes back -/
theorem tf_made7 (x : Int32) : FP.l2f (FP.f2l (FP.i2f x)) = FP.i2f x ∧ FP.l2d (FP.f2l (FP.i2f x)) = FP.f2d (FP.i2f x) := by
  have ef : FP.f2d (FP.i2f x) = FP.Core.f2d (FP.Core.i2f x) := FP.f2d_core (tf_FFn (tf_fi x))
  rw [ef]
  by_cases hx : x.toInt.natAbs ≤ 2 ^ 24
  · have e1 : FP.f2l (FP.i2f x) = x.toInt64 := FP.Core.f2l_int (a := x.toInt64) (by rw [Int32.toInt_toInt64]; exact FP.Core.i2f_int hx)
    rw [e1]
    refine ⟨tg_i2f x, ?_⟩
    have e2 : FP.Core.l2f x.toInt64 = FP.Core.i2f x := tg_i2f x
    rw [← e2]
    exact (FP.Core.f2d_l2f (by rw [Int32.toInt_toInt64]; exact hx)).symm
  · have hx2 : 16777216 < x.toInt.natAbs := Nat.lt_of_not_le hx
    obtain ⟨s, c, q, hv, hq0, hq9, hc0, hc⟩ := tf_dec32 (tf_ge32 (FP.Core.toNat_i2f x) (by omega)) (FP.Core.i2f_mag x)
    have hqz : (-q).toNat = 0 := by omega
    have hW : FP.Core.Whole (FP.Core.signed s (c * 2 ^ q.toNat)) (.fin s c q) := by
      show FP.Core.signed s (c * 2 ^ q.toNat) = FP.Core.signed s (c * 2 ^ q.toNat) * ((2 ^ (-q).toNat : Nat) : Int)
      rw [hqz]
      simp
    have hn := tf_signed s (c * 2 ^ q.toNat)
    have hp : 0 < c * 2 ^ q.toNat := Nat.mul_pos hc0 (Nat.two_pow_pos _)
    have hle : c * 2 ^ q.toNat ≤ 2 ^ 24 * 2 ^ 9 := Nat.mul_le_mul hc (Nat.pow_le_pow_right (by decide) (by omega))
    have e33 : (2 : Nat) ^ 24 * 2 ^ 9 = 8589934592 := rfl
    rw [e33] at hle
    generalize c * 2 ^ q.toNat = n at hW hn hp hle
    generalize FP.Core.signed s n = i at hW hn
    have hi : (Int64.ofInt i).toInt = i := Int64.toInt_ofInt_of_le (by omega) (by omega)
    have e1 : FP.f2l (FP.i2f x) = Int64.ofInt i := FP.Core.f2l_int (a := Int64.ofInt i) (by
      rw [hi]
      show FP.Core.Whole i (FP.Core.val32 (FP.Core.i2f x))
      rw [hv]
      exact hW)
    rw [e1]
    have hs := FP.Core.whole_sign hW (by omega)
    have hfit := FP.Core.val32_fits (FP.Core.i2f x)
    rw [hv] at hfit
    constructor
    · refine FP.Core.val32_inj ?_ ?_
      · exact (FP.Core.notNaN_iff32 _).mp (tf_FFn (tf_fl _))
      · show FP.Core.val32 (FP.Core.l2f (Int64.ofInt i)) = FP.Core.val32 (FP.Core.i2f x)
        rw [FP.Core.val32_l2f, hi, hv, ← FP.Core.round_of_fits FP.Core.good_b32 hfit, FP.Core.round_whole hW, hs]
        rfl
    · refine FP.Core.val64_inj ?_ ?_
      · exact (tf_finl _).ne_nan
      · show FP.Core.val64 (FP.Core.l2d (Int64.ofInt i)) = FP.Core.val64 (FP.Core.f2d (FP.Core.i2f x))
        rw [FP.Core.val64_l2d, FP.Core.val64_f2d, hi, hv, FP.Core.round_whole hW, hs]
        rfl
theorem tf_d2fl {w : Int64} (h : w.toInt.natAbs ≤ 2 ^ 53) : FP.d2f (FP.l2d w) = FP.l2f w := (FP.d2f_core (tf_DFn (tf_finl w))).trans (FP.Core.d2f_l2d h)
theorem tf_d2ff {a : UInt32} (h : FP.Core.FFin a) : FP.d2f (FP.f2d a) = a := by
  rw [FP.d2f_core (tf_DFn (tf_finf h)), FP.f2d_core (tf_FFn h)]
  exact FP.Core.d2f_f2d ((FP.Core.notNaN_iff32 _).mp (tf_FFn h))
theorem tf_addn {a v : UInt64} (ha : FP.Core.dIsNaN a = false) (hv : FP.Core.DFin v) : FP.Core.dIsNaN (FP.dadd a v) = false := by
  cases hz : FP.Core.dIsNaN (FP.dadd a v)
  · rfl
  · rw [show FP.dadd a v = FP.Core.dadd a v from rfl, FP.Core.dadd_nan_iff] at hz
    rcases hz with h | h | ⟨s, -, h⟩
    · exact absurd h ((FP.Core.notNaN_iff _).mp ha)
    · exact absurd h hv.ne_nan
    · exact absurd h (hv.ne_inf _)
/-- a sum as the law has it -/
def lsum (v : Nat → UInt64) : Nat → UInt64
  | 0 => 0
  | k + 1 => FP.dadd (lsum v k) (v k)
theorem lsum_nn {v : Nat → UInt64} : ∀ (k : Nat), (∀ i, i < k → FP.Core.DFin (v i)) → FP.Core.dIsNaN (lsum v k) = false
  | 0, _ => by show FP.Core.dIsNaN 0 = false; decide +kernel
  | k + 1, h => tf_addn (lsum_nn k (fun i hi => h i (by omega))) (h k (Nat.lt_succ_self k))
theorem lsum_sum {v v' : Nat → UInt64} : ∀ (k : Nat), (∀ i, i < k → FP.Core.DFin (v i) ∧ v' i = v i) → tf_sum v' k = lsum v k
  | 0, _ => rfl
  | k + 1, h => by
    show tf_canon (FP.dadd (tf_sum v' k) (v' k)) = FP.dadd (lsum v k) (v k)
    rw [lsum_sum k (fun i hi => h i (by omega)), (h k (Nat.lt_succ_self k)).2]
    exact tf_cno (tf_addn (lsum_nn k (fun i hi => (h i (by omega)).1)) (h k (Nat.lt_succ_self k)).1)
/-- one cell: what the class has of it (wh, re: its row of longs, of doubles) is the law's number v -/
def cOK (k : Int32) (wh : Int64) (re v : UInt64) : Prop := FP.Core.DFin v ∧ (kFl k = true → re = v) ∧ (kFl k = false → FP.l2d wh = v ∧ wh.toInt.natAbs ≤ 2 ^ 53) ∧ (k = 7 → FP.f2d (FP.d2f v) = v)
theorem cOK_z (k : Int32) : cOK k 0 0 0 := by
  have e : FP.l2d 0 = 0 := by decide +kernel
  refine ⟨?_, fun _ => rfl, fun _ => ⟨e, by decide⟩, fun _ => by decide +kernel⟩
  rw [← e]
  exact tf_finl 0
theorem cOK_n {k : Int32} {wh : Int64} {re v : UInt64} (h : cOK k wh re v) : FP.Core.dIsNaN v = false := tf_DFn h.1
/-- what a value made from an int becomes in the law's table -/
def lMade (v k : Int32) : Int64 := if k = 7 then FP.f2l (FP.i2f v) else kMade v k
theorem kMade_b (v : Int32) : kMade v 1 = 0 ∨ kMade v 1 = 1 := by
  unfold kMade
  rw [if_pos rfl]
  by_cases h : v = 0
  · rw [if_pos h]; exact Or.inl rfl
  · rw [if_neg h]; exact Or.inr rfl
theorem kMade_le (v k : Int32) : (kMade v k).toInt.natAbs ≤ 2 ^ 53 := by
  have aux : ∀ z : Int32, z.toInt64.toInt.natAbs ≤ 2 ^ 53 := fun z => by
    rw [Int32.toInt_toInt64]
    have h1 := z.toInt_lt
    have h2 := z.le_toInt
    omega
  unfold kMade
  split
  · split <;> decide
  · split
    · exact aux _
    · split
      · exact aux _
      · split
        · exact aux _
        · exact aux _
theorem kMade8 (v : Int32) : kMade v 8 = v.toInt64 := by unfold kMade; rw [if_neg (by decide), if_neg (by decide), if_neg (by decide), if_neg (by decide)]
end
section
/-! TEXTS: the eight rows of letters in the law's widens, and String.charAt of them -/
def ts_len : List Nat := [8, 8, 8, 8, 8, 8, 8, 8]
def ts_byt : List (List Int32) := [[98, 46, 46, 46, 46, 46, 46, 46], [46, 98, 46, 115, 105, 106, 102, 100], [46, 46, 99, 46, 105, 106, 102, 100], [46, 46, 46, 115, 105, 106, 102, 100], [46, 46, 46, 46, 105, 106, 102, 100], [46, 46, 46, 46, 46, 106, 102, 100], [46, 46, 46, 46, 46, 46, 102, 100], [46, 46, 46, 46, 46, 46, 46, 100]]
def ts_b (i k : Nat) : Int32 := (ts_byt.getD i []).getD k 0
theorem ts_ch : ∀ i, i < 8 → ∀ k, k < 8 → ((ts_b i k &&& 255).toUInt32 % 65536).toInt32 = ts_b i k := by decide +kernel
theorem ts_nr : ∀ i, i < 8 → ∀ k, k < 8 → ((ts_b i k).toUInt32 % 65536).toInt32 = ts_b i k := by decide +kernel
theorem ts_nar {i k : Nat} (hi : i < 8) (hk : k < 8) : narrow .char (.int (ts_b i k)) = .int (ts_b i k) := by
  have h := pk_nc (ts_b i k)
  rw [ts_nr i hi k hk] at h
  exact h
theorem ts_wid : ∀ i, i < 8 → ∀ k, k < 8 → (ts_b i k = 46 ↔ kWid (nI (i + 1)) (nI (k + 1)) = false) := by decide +kernel
theorem ts_ln : ∀ i, i < 8 → ts_len.getD i 0 = 8 := by decide
def tsE (adK adV : Nat → Nat) (A : Nat → Prop) (U : State) (H : Heap) : Prop :=
  vk_S 8 ts_len ts_byt adK adV A U H ∧ va_Z "java/lang/String" "COMPACT_STRINGS" "Z" (.int 1) A U H ∧ va_Zq "jdk/internal/util/Preconditions" "SIOOBE_FORMATTER" "Ljava/util/function/BiFunction;" A U H
abbrev FN : Nat → Prop := fun _ => False
theorem tsE.go {adK adV : Nat → Nat} {A : Nat → Prop} {s U : State} {H : Heap} {locs : List Loc} (h : tsE adK adV A s s.heap) (hS : va_S A s.heap H locs) (hU : U.heap = H) (hW : s.WarmedH U.vm) : tsE adK adV FN U U.heap := by
  subst hU
  exact ⟨(vk_S.moved hW.alike (h.1.kept hS.2.1)).narrow (fun _ q => q.elim), (va_Z.moved hW.alike (h.2.1.kept hS.2.1)).narrow (fun _ q => q.elim), (va_Zq.moved hW.alike (h.2.2.kept hS.2.1)).narrow (fun _ q => q.elim)⟩
def tsP (adK adV : Nat → Nat) (av : List Value) : Array Value → State → Prop := va_Pc av (fun U => tsE adK adV FN U U.heap)
theorem tsP.blind {adK adV : Nat → Nat} {av : List Value} : FrameBlind (tsP adK adV av) := fun a U g mk q => ⟨q.1, q.2.go (va_S.rf (A := FN) (H0 := U.heap)) rfl (State.WarmedH.refl U)⟩
theorem tsP.go {adK adV : Nat → Nat} {A : Nat → Prop} {av : List Value} {s : State} {H : Heap} {locs : List Loc} (h : tsE adK adV A s s.heap) (hS : va_S A s.heap H locs) : ∀ U : State, U.heap = H → s.WarmedH U.vm → tsP adK adV av av.toArray U :=
  fun _ hU hW => ⟨rfl, h.go hS hU hW⟩
set_option maxHeartbeats 4000000 in
set_option maxRecDepth 100000 in
theorem jJ3_checkIndexN (l : Launch) (i n : Nat) (hi : i < n) (hn : n < 2 ^ 31) : Met l yJ3_checkIndex_8e157 wsJ3_checkIndex_8e157 ({ frames := 0, cells := 0, slots := 0, locals := 0 }) (va_Pc [.int (nI i), .int (nI n), .null] (fun _ => True)) (vp_Si (fun r => r = nI i)) 0 0 (fun _ => False) := by
  refine Met.ofW (cc := cJ3_checkIndex_8e157) (maxL := 3) (ret := (some .int)) (by decide) rfl ?_
  intro p e s m args below meth c s₁ B hml hv
  obtain ⟨rfl, -⟩ := hv
  have hx := B.exec
  have hb := B.bytes
  have hr := B.returns
  have hts := atoms_spec (ws := wsJ3_checkIndex_8e157) B.pre
  have hown : s.vm.findClass RJ3 = some m.cls := findClass_of_methodNamed B.named
  have hlocks := B.notSynchronized
  have hl := lv_entry ([.int (nI i), .int (nI n), .null]) (n := 3) (Nat.le_of_ble_eq_true rfl)
  rw [lg_entry_eq]
  generalize (lg_sl ([.int (nI i), .int (nI n), .null]) ++ List.replicate (3 - (lg_sl ([.int (nI i), .int (nI n), .null])).length) Slot.unset).toArray = ls at hl ⊢
  have hl : lv_has ls 3 [(0, .int (nI i)), (1, .int (nI n)), (2, .null)] := hl
  refine lv_iload_n hx hb dJ3_checkIndex_8e157_0 rfl (lv_at hl 0 rfl) ?_
  refine lv_if_lt (tgt := 9) hx hb dJ3_checkIndex_8e157_1 (by decide) (fun q => absurd q (nI_pos (by omega))) (fun _ => ?_)
  refine lv_iload_n hx hb dJ3_checkIndex_8e157_4 rfl (lv_at hl 0 rfl) ?_
  refine lv_iload_n hx hb dJ3_checkIndex_8e157_5 rfl (lv_at hl 1 rfl) ?_
  refine lv_icmp_lt (tgt := 16) hx hb dJ3_checkIndex_8e157_6 (by decide) (fun _ => ?_) (fun q => absurd (nI_lt hi hn) q)
  refine lv_iload_n hx hb dJ3_checkIndex_8e157_16 rfl (lv_at hl 0 rfl) ?_
  exact W.iret (v := nI i) hx hb hr (fun t9 ht9 hW9 => ⟨nI i, rfl, rfl, ht9⟩) (fun q hq => absurd hq List.not_mem_nil) dJ3_checkIndex_8e157_17
set_option maxHeartbeats 4000000 in
set_option maxRecDepth 100000 in
theorem jJ3_checkIndexR (l : Launch) (i n : Nat) (hi : i < n) (hn : n < 2 ^ 31) (q9 : Nat) : Met l yJ3_checkIndex_8e157 wsJ3_checkIndex_8e157 ({ frames := 0, cells := 0, slots := 0, locals := 0 }) (va_Pc [.int (nI i), .int (nI n), .ref q9] (fun _ => True)) (vp_Si (fun r => r = nI i)) 0 0 (fun _ => False) := by
  refine Met.ofW (cc := cJ3_checkIndex_8e157) (maxL := 3) (ret := (some .int)) (by decide) rfl ?_
  intro p e s m args below meth c s₁ B hml hv
  obtain ⟨rfl, -⟩ := hv
  have hx := B.exec
  have hb := B.bytes
  have hr := B.returns
  have hts := atoms_spec (ws := wsJ3_checkIndex_8e157) B.pre
  have hown : s.vm.findClass RJ3 = some m.cls := findClass_of_methodNamed B.named
  have hlocks := B.notSynchronized
  have hl := lv_entry ([.int (nI i), .int (nI n), .ref q9]) (n := 3) (Nat.le_of_ble_eq_true rfl)
  rw [lg_entry_eq]
  generalize (lg_sl ([.int (nI i), .int (nI n), .ref q9]) ++ List.replicate (3 - (lg_sl ([.int (nI i), .int (nI n), .ref q9])).length) Slot.unset).toArray = ls at hl ⊢
  have hl : lv_has ls 3 [(0, .int (nI i)), (1, .int (nI n)), (2, .ref q9)] := hl
  refine lv_iload_n hx hb dJ3_checkIndex_8e157_0 rfl (lv_at hl 0 rfl) ?_
  refine lv_if_lt (tgt := 9) hx hb dJ3_checkIndex_8e157_1 (by decide) (fun q => absurd q (nI_pos (by omega))) (fun _ => ?_)
  refine lv_iload_n hx hb dJ3_checkIndex_8e157_4 rfl (lv_at hl 0 rfl) ?_
  refine lv_iload_n hx hb dJ3_checkIndex_8e157_5 rfl (lv_at hl 1 rfl) ?_
  refine lv_icmp_lt (tgt := 16) hx hb dJ3_checkIndex_8e157_6 (by decide) (fun _ => ?_) (fun q => absurd (nI_lt hi hn) q)
  refine lv_iload_n hx hb dJ3_checkIndex_8e157_16 rfl (lv_at hl 0 rfl) ?_
  exact W.iret (v := nI i) hx hb hr (fun t9 ht9 hW9 => ⟨nI i, rfl, rfl, ht9⟩) (fun q hq => absurd hq List.not_mem_nil) dJ3_checkIndex_8e157_17
set_option maxHeartbeats 4000000 in
set_option maxRecDepth 100000 in
theorem jJ0_checkIndex (l : Launch) (adK adV : Nat → Nat) (i n : Nat) (hi : i < n) (hn : n < 2 ^ 31) : Met l yJ0_checkIndex_df160 wsJ0_checkIndex_df160 ({ frames := 1, cells := 0, slots := 0, locals := 22 }) (tsP adK adV [.int (nI i), .int (nI n)]) (va_Sv (fun _ => True)) 0 0 (fun _ => False) := by
  refine Met.ofW (cc := cJ0_checkIndex_df160) (maxL := 2) (ret := none) (by decide) rfl ?_
  intro p e s m args below meth c s₁ B hml hv
  obtain ⟨rfl, hE⟩ := hv
  have hx := B.exec
  have hb := B.bytes
  have hr := B.returns
  have hts := atoms_spec (ws := wsJ0_checkIndex_df160) B.pre
  have hown : s.vm.findClass RJ0 = some m.cls := findClass_of_methodNamed B.named
  have hlocks := B.notSynchronized
  have hl := lv_entry ([.int (nI i), .int (nI n)]) (n := 2) (Nat.le_of_ble_eq_true rfl)
  rw [lg_entry_eq]
  generalize (lg_sl ([.int (nI i), .int (nI n)]) ++ List.replicate (2 - (lg_sl ([.int (nI i), .int (nI n)])).length) Slot.unset).toArray = ls at hl ⊢
  have hl : lv_has ls 2 [(0, .int (nI i)), (1, .int (nI n))] := hl
  have hS : va_S FN s.heap s.heap [] := va_S.rf
  refine lv_iload_n hx hb dJ0_checkIndex_df160_0 rfl (lv_at hl 0 rfl) ?_
  refine lv_iload_n hx hb dJ0_checkIndex_df160_1 rfl (lv_at hl 1 rfl) ?_
  rcases hE.2.2 with hz | ⟨q9, hz⟩
  · refine va_gets hx hb (C := "jdk/internal/util/Preconditions") (ref := "jdk/internal/util/Preconditions") hz hS hown (hts (.fieldLink RJ0 1053 "jdk/internal/util/Preconditions" "SIOOBE_FORMATTER" "Ljava/util/function/BiFunction;") (by decide +kernel)) (fun _ h9 => h9) dJ0_checkIndex_df160_2 ?_
    refine vp_callSi (W.runS (As := [.int (nI i), .int (nI n), .null]) (rest := []) ⟨hx, hb, hml, hown, hts⟩ (jJ3_checkIndexN l i n hi hn) (va_cwS 3 hts gJ0_checkIndex_df160_J3_checkIndex_8e157 rfl rfl rfl (by decide +kernel) ⟨Nat.le_of_ble_eq_true rfl, Nat.le_of_ble_eq_true rfl⟩) ⟨fun a U g mk q => q, fun U hU hW => ⟨rfl, trivial⟩⟩ rfl rfl hl.1 rfl (lv_room (Nat.le_of_ble_eq_true rfl)) dJ0_checkIndex_df160_5 ⟨Nat.zero_le _, Nat.zero_le _⟩) (fun r9 h9 => ?_)
    refine lv_pop hx hb dJ0_checkIndex_df160_8 rfl ?_
    exact W.vret hx hb hr (fun t9 ht9 hW9 => ⟨rfl, trivial, ht9⟩) (fun q hq => absurd hq List.not_mem_nil) dJ0_checkIndex_df160_9
  · refine va_gets hx hb (C := "jdk/internal/util/Preconditions") (ref := "jdk/internal/util/Preconditions") hz hS hown (hts (.fieldLink RJ0 1053 "jdk/internal/util/Preconditions" "SIOOBE_FORMATTER" "Ljava/util/function/BiFunction;") (by decide +kernel)) (fun _ h9 => h9) dJ0_checkIndex_df160_2 ?_
    refine vp_callSi (W.runS (As := [.int (nI i), .int (nI n), .ref q9]) (rest := []) ⟨hx, hb, hml, hown, hts⟩ (jJ3_checkIndexR l i n hi hn q9) (va_cwS 3 hts gJ0_checkIndex_df160_J3_checkIndex_8e157 rfl rfl rfl (by decide +kernel) ⟨Nat.le_of_ble_eq_true rfl, Nat.le_of_ble_eq_true rfl⟩) ⟨fun a U g mk q => q, fun U hU hW => ⟨rfl, trivial⟩⟩ rfl rfl hl.1 rfl (lv_room (Nat.le_of_ble_eq_true rfl)) dJ0_checkIndex_df160_5 ⟨Nat.zero_le _, Nat.zero_le _⟩) (fun r9 h9 => ?_)
    refine lv_pop hx hb dJ0_checkIndex_df160_8 rfl ?_
    exact W.vret hx hb hr (fun t9 ht9 hW9 => ⟨rfl, trivial, ht9⟩) (fun q hq => absurd hq List.not_mem_nil) dJ0_checkIndex_df160_9
set_option maxHeartbeats 4000000 in
set_option maxRecDepth 100000 in
theorem jJ0_isLatin1 (l : Launch) (adK adV : Nat → Nat) (i : Nat) (hi : i < 8) : Met l yJ0_isLatin1_aae02 wsJ0_isLatin1_aae02 ({ frames := 0, cells := 0, slots := 0, locals := 0 }) (tsP adK adV [.ref (adK i)]) (vp_Si (fun r => r = 1)) 0 0 (fun _ => False) := by
  refine Met.ofW (cc := cJ0_isLatin1_aae02) (maxL := 1) (ret := (some .boolean)) (by decide) rfl ?_
  intro p e s m args below meth c s₁ B hml hv
  obtain ⟨rfl, hE⟩ := hv
  have hx := B.exec
  have hb := B.bytes
  have hr := B.returns
  have hts := atoms_spec (ws := wsJ0_isLatin1_aae02) B.pre
  have hown : s.vm.findClass RJ0 = some m.cls := findClass_of_methodNamed B.named
  have hlocks := B.notSynchronized
  have hl := lv_entry ([.ref (adK i)]) (n := 1) (Nat.le_of_ble_eq_true rfl)
  rw [lg_entry_eq]
  generalize (lg_sl ([.ref (adK i)]) ++ List.replicate (1 - (lg_sl ([.ref (adK i)])).length) Slot.unset).toArray = ls at hl ⊢
  have hl : lv_has ls 1 [(0, .ref (adK i))] := hl
  have hS : va_S FN s.heap s.heap [] := va_S.rf
  refine va_gets hx hb (C := "java/lang/String") (ref := "java/lang/String") hE.2.1 hS hown (hts (.fieldLink RJ0 38 "java/lang/String" "COMPACT_STRINGS" "Z") (by decide +kernel)) (fun _ h9 => h9) dJ0_isLatin1_aae02_0 ?_
  refine lv_if_eq (tgt := 17) hx hb dJ0_isLatin1_aae02_3 (by decide) (fun q => absurd q (by decide)) (fun _ => ?_)
  refine lv_aload_n hx hb dJ0_isLatin1_aae02_6 rfl (lv_at hl 0 rfl) ?_
  refine vk_getf hx hb (ref := "java/lang/String") (hE.1.1 i hi).2.1 hS hown (hts (.fieldLink RJ0 15 "java/lang/String" "coder" "B") (by decide +kernel)) (fun _ h9 => h9) dJ0_isLatin1_aae02_7 ?_
  refine lv_if_ne (tgt := 17) hx hb dJ0_isLatin1_aae02_10 (by decide) (fun q => absurd rfl q) (fun _ => ?_)
  refine lv_iconst (v := 1) hx hb dJ0_isLatin1_aae02_13 (by decide) ?_
  refine lv_goto (tgt := 18) hx hb dJ0_isLatin1_aae02_14 (by decide) ?_
  exact W.zret (ty := .boolean) (v := 1) hx hb hr rfl (fun t9 ht9 hW9 => ⟨1, rfl, rfl, ht9⟩) (fun q hq => absurd hq List.not_mem_nil) dJ0_isLatin1_aae02_18
set_option maxHeartbeats 4000000 in
set_option maxRecDepth 100000 in
theorem jJ1_charAt (l : Launch) (adK adV : Nat → Nat) (i k : Nat) (hi : i < 8) (hk : k < 8) : Met l yJ1_charAt_3b067 wsJ1_charAt_3b067 ({ frames := 2, cells := 0, slots := 0, locals := 43 }) (tsP adK adV [.ref (adV i), .int (nI k)]) (vp_Si (fun r => r = ts_b i k)) 0 0 (fun _ => False) := by
  refine Met.ofW (cc := cJ1_charAt_3b067) (maxL := 2) (ret := (some .char)) (by decide) rfl ?_
  intro p e s m args below meth c s₁ B hml hv
  obtain ⟨rfl, hE⟩ := hv
  have hx := B.exec
  have hb := B.bytes
  have hr := B.returns
  have hts := atoms_spec (ws := wsJ1_charAt_3b067) B.pre
  have hown : s.vm.findClass RJ1 = some m.cls := findClass_of_methodNamed B.named
  have hlocks := B.notSynchronized
  have hl := lv_entry ([.ref (adV i), .int (nI k)]) (n := 2) (Nat.le_of_ble_eq_true rfl)
  rw [lg_entry_eq]
  generalize (lg_sl ([.ref (adV i), .int (nI k)]) ++ List.replicate (2 - (lg_sl ([.ref (adV i), .int (nI k)])).length) Slot.unset).toArray = ls at hl ⊢
  have hl : lv_has ls 2 [(0, .ref (adV i)), (1, .int (nI k))] := hl
  have hS : va_S FN s.heap s.heap [] := va_S.rf
  have hT := (hE.1.1 i hi).2.2.2
  rw [ts_ln i hi] at hT
  refine lv_iload_n hx hb dJ1_charAt_3b067_0 rfl (lv_at hl 1 rfl) ?_
  refine lv_aload_n hx hb dJ1_charAt_3b067_1 rfl (lv_at hl 0 rfl) ?_
  refine va_tlen (v := nI 8) hx hb hT hS rfl dJ1_charAt_3b067_2 ?_
  refine va_csv (W.runS (As := [.int (nI k), .int (nI 8)]) (rest := []) ⟨hx, hb, hml, hown, hts⟩ (jJ0_checkIndex l adK adV k 8 hk (by decide)) (va_cwS 2 hts gJ1_charAt_3b067_J0_checkIndex_df160 rfl rfl rfl (by decide +kernel) ⟨Nat.le_of_ble_eq_true rfl, Nat.le_of_ble_eq_true rfl⟩) ⟨tsP.blind, tsP.go hE hS⟩ rfl rfl hl.1 rfl (lv_room (Nat.le_of_ble_eq_true rfl)) dJ1_charAt_3b067_3 ⟨Nat.zero_le _, Nat.zero_le _⟩) (fun _ => ?_)
  refine lv_aload_n hx hb dJ1_charAt_3b067_6 rfl (lv_at hl 0 rfl) ?_
  refine lv_iload_n hx hb dJ1_charAt_3b067_7 rfl (lv_at hl 1 rfl) ?_
  refine va_tb (v := .int (ts_b i k)) hx hb hT hS (vp_in_nI hk (by decide)) (by rw [nI_clamp (by omega)]; rfl) dJ1_charAt_3b067_8 ?_
  refine lv_sipush (v := 255) hx hb dJ1_charAt_3b067_9 (by decide) ?_
  refine lv_iand hx hb dJ1_charAt_3b067_12 ?_
  refine lv_i2c (v := ts_b i k) hx hb dJ1_charAt_3b067_13 (ts_ch i hi k hk) ?_
  exact W.zret (ty := .char) (v := ts_b i k) hx hb hr (ts_nar hi hk) (fun t9 ht9 hW9 => ⟨ts_b i k, rfl, rfl, ht9⟩) (fun q hq => absurd hq List.not_mem_nil) dJ1_charAt_3b067_14
set_option maxHeartbeats 4000000 in
set_option maxRecDepth 100000 in
theorem jJ0_charAt (l : Launch) (adK adV : Nat → Nat) (i k : Nat) (hi : i < 8) (hk : k < 8) : Met l yJ0_charAt_5068e wsJ0_charAt_5068e ({ frames := 3, cells := 0, slots := 0, locals := 64 }) (tsP adK adV [.ref (adK i), .int (nI k)]) (vp_Si (fun r => r = ts_b i k)) 0 0 (fun _ => False) := by
  refine Met.ofW (cc := cJ0_charAt_5068e) (maxL := 2) (ret := (some .char)) (by decide) rfl ?_
  intro p e s m args below meth c s₁ B hml hv
  obtain ⟨rfl, hE⟩ := hv
  have hx := B.exec
  have hb := B.bytes
  have hr := B.returns
  have hts := atoms_spec (ws := wsJ0_charAt_5068e) B.pre
  have hown : s.vm.findClass RJ0 = some m.cls := findClass_of_methodNamed B.named
  have hlocks := B.notSynchronized
  have hl := lv_entry ([.ref (adK i), .int (nI k)]) (n := 2) (Nat.le_of_ble_eq_true rfl)
  rw [lg_entry_eq]
  generalize (lg_sl ([.ref (adK i), .int (nI k)]) ++ List.replicate (2 - (lg_sl ([.ref (adK i), .int (nI k)])).length) Slot.unset).toArray = ls at hl ⊢
  have hl : lv_has ls 2 [(0, .ref (adK i)), (1, .int (nI k))] := hl
  have hS : va_S FN s.heap s.heap [] := va_S.rf
  refine lv_aload_n hx hb dJ0_charAt_5068e_0 rfl (lv_at hl 0 rfl) ?_
  refine vp_callSi (tc_CR (va_runV (As := []) (rest := []) ⟨hx, hb, hml, hown, hts⟩ (jJ0_isLatin1 l adK adV i hi) (cwV 0 hts gJ0_charAt_5068e_J0_isLatin1_aae02 rfl rfl rfl (by decide +kernel) ⟨Nat.le_of_ble_eq_true rfl, Nat.le_of_ble_eq_true rfl⟩) ⟨tsP.blind, vk_recv hE.1 hi hS, tsP.go hE hS⟩ rfl rfl hl.1 rfl (lv_room (Nat.le_of_ble_eq_true rfl)) dJ0_charAt_5068e_1 ⟨Nat.zero_le _, Nat.zero_le _⟩)) (fun r9 h9 => ?_)
  subst h9
  refine lv_if_eq (tgt := 16) hx hb dJ0_charAt_5068e_4 (by decide) (fun q => absurd q (by decide)) (fun _ => ?_)
  refine lv_aload_n hx hb dJ0_charAt_5068e_7 rfl (lv_at hl 0 rfl) ?_
  refine vk_getf hx hb (ref := "java/lang/String") (hE.1.1 i hi).2.2.1 hS hown (hts (.fieldLink RJ0 9 "java/lang/String" "value" "[B") (by decide +kernel)) (fun _ h9 => h9) dJ0_charAt_5068e_8 ?_
  refine lv_iload_n hx hb dJ0_charAt_5068e_11 rfl (lv_at hl 1 rfl) ?_
  refine vp_callSi (W.runS (As := [.ref (adV i), .int (nI k)]) (rest := []) ⟨hx, hb, hml, hown, hts⟩ (jJ1_charAt l adK adV i k hi hk) (va_cwS 2 hts gJ0_charAt_5068e_J1_charAt_3b067 rfl rfl rfl (by decide +kernel) ⟨Nat.le_of_ble_eq_true rfl, Nat.le_of_ble_eq_true rfl⟩) ⟨tsP.blind, tsP.go hE hS⟩ rfl rfl hl.1 rfl (lv_room (Nat.le_of_ble_eq_true rfl)) dJ0_charAt_5068e_12 ⟨Nat.zero_le _, Nat.zero_le _⟩) (fun r9 h9 => ?_)
  subst h9
  exact W.zret (ty := .char) (v := ts_b i k) hx hb hr (ts_nar hi hk) (fun t9 ht9 hW9 => ⟨ts_b i k, rfl, rfl, ht9⟩) (fun q hq => absurd hq List.not_mem_nil) dJ0_charAt_5068e_15
/-! THE LAW'S HELPERS -/
def tsR (adK : Nat → Nat) (U : State) : Prop := vk_R RL 9 "b......." (adK 0) U ∧ vk_R RL 11 ".b.sijfd" (adK 1) U ∧ vk_R RL 13 "..c.ijfd" (adK 2) U ∧ vk_R RL 15 "...sijfd" (adK 3) U ∧ vk_R RL 17 "....ijfd" (adK 4) U ∧ vk_R RL 19 ".....jfd" (adK 5) U ∧ vk_R RL 21 "......fd" (adK 6) U ∧ vk_R RL 23 ".......d" (adK 7) U
theorem tsR.go {adK : Nat → Nat} {s U : State} (h : tsR adK s) (hW : s.WarmedH U.vm) : tsR adK U := by
  obtain ⟨h0, h1, h2, h3, h4, h5, h6, h7⟩ := h
  exact ⟨vk_R.warm hW h0, vk_R.warm hW h1, vk_R.warm hW h2, vk_R.warm hW h3, vk_R.warm hW h4, vk_R.warm hW h5, vk_R.warm hW h6, vk_R.warm hW h7⟩
def twP (adK adV : Nat → Nat) (av : List Value) : Array Value → State → Prop := va_Pc av (fun U => tsE adK adV FN U U.heap ∧ tsR adK U)
theorem twP.blind {adK adV : Nat → Nat} {av : List Value} : FrameBlind (twP adK adV av) := fun a U g mk q => ⟨q.1, q.2.1.go (va_S.rf (A := FN) (H0 := U.heap)) rfl (State.WarmedH.refl U), q.2.2.go (State.WarmedH.refl U)⟩
theorem twP.go {adK adV : Nat → Nat} {A : Nat → Prop} {av : List Value} {s : State} {H : Heap} {locs : List Loc} (h : tsE adK adV A s s.heap) (h2 : tsR adK s) (hS : va_S A s.heap H locs) : ∀ U : State, U.heap = H → s.WarmedH U.vm → twP adK adV av av.toArray U :=
  fun _ hU hW => ⟨rfl, h.go hS hU hW, h2.go hW⟩
set_option maxHeartbeats 4000000 in
set_option maxRecDepth 100000 in
theorem lL_widens0 (l : Launch) (adK adV : Nat → Nat) (k : Nat) (hk : k < 8) : Met l yL_widens wsL_widens ({ frames := 4, cells := 0, slots := 0, locals := 85 }) (twP adK adV [.int (nI (0 + 1)), .int (nI (k + 1))]) (vp_Si (fun r => r = tb (kWid (nI (0 + 1)) (nI (k + 1))))) 0 0 (fun _ => False) := by
  refine Met.ofW (cc := cL_widens) (maxL := 3) (ret := (some .boolean)) (by decide) rfl ?_
  intro p e s m args below meth c s₁ B hml hv
  obtain ⟨rfl, hE, hR⟩ := hv
  have hx := B.exec
  have hb := B.bytes
  have hr := B.returns
  have hts := atoms_spec (ws := wsL_widens) B.pre
  have hown : s.vm.findClass RL = some m.cls := findClass_of_methodNamed B.named
  have hlocks := B.notSynchronized
  have hl := lv_entry ([.int (nI (0 + 1)), .int (nI (k + 1))]) (n := 3) (Nat.le_of_ble_eq_true rfl)
  rw [lg_entry_eq]
  generalize (lg_sl ([.int (nI (0 + 1)), .int (nI (k + 1))]) ++ List.replicate (3 - (lg_sl ([.int (nI (0 + 1)), .int (nI (k + 1))])).length) Slot.unset).toArray = ls at hl ⊢
  have hl : lv_has ls 3 [(0, .int 1), (1, .int (nI (k + 1)))] := hl
  have hS : va_S FN s.heap s.heap [] := va_S.rf
  obtain ⟨h0, h1, h2, h3, h4, h5, h6, h7⟩ := hR
  refine lv_iload_n hx hb dL_widens_0 rfl (lv_at hl 0 rfl) ?_
  refine lv_iconst (v := 1) hx hb dL_widens_1 (by decide) ?_
  refine lv_icmp_ne (tgt := 10) hx hb dL_widens_2 (by decide) (fun q => absurd rfl q) (fun _ => ?_)
  refine va_ldcS hx hb hown h0 dL_widens_5 ?_
  refine lv_goto (tgt := 74) hx hb dL_widens_7 (by decide) ?_
  refine lv_astore_n (lv' := [(2, .ref (adK 0)), (0, .int 1), (1, .int (nI (k + 1)))]) hx hb dL_widens_74 rfl hl (by decide) rfl (fun ls hl => ?_)
  refine lv_aload_n hx hb dL_widens_75 rfl (lv_at hl 0 rfl) ?_
  refine lv_iload_n hx hb dL_widens_76 rfl (lv_at hl 2 rfl) ?_
  refine lv_iconst (v := 1) hx hb dL_widens_77 (by decide) ?_
  refine lv_isub hx hb dL_widens_78 ?_
  refine lv_topi (fun x ex => ?_)
  obtain rfl : x = nI k := by
    rw [ex]
    show nI (k + 1) - nI 1 = nI k
    rw [pk_sub (by omega)]
    rfl
  refine vp_callSi (tc_CR (va_runV (As := [.int (nI k)]) (rest := []) ⟨hx, hb, hml, hown, hts⟩ (jJ0_charAt l adK adV 0 k (by decide) hk) (cwV 1 hts gL_widens_J0_charAt_5068e rfl rfl rfl (by decide +kernel) ⟨Nat.le_of_ble_eq_true rfl, Nat.le_of_ble_eq_true rfl⟩) ⟨tsP.blind, vk_recv hE.1 (by decide) hS, tsP.go hE hS⟩ rfl rfl hl.1 rfl (lv_room (Nat.le_of_ble_eq_true rfl)) dL_widens_79 ⟨Nat.zero_le _, Nat.zero_le _⟩)) (fun r9 h9 => ?_)
  subst h9
  refine lv_bipush (v := 46) hx hb dL_widens_82 (by decide) ?_
  have hw := ts_wid 0 (by decide) k hk
  refine lv_icmp_eq (tgt := 91) hx hb dL_widens_84 (by decide) (fun c1 => ?_) (fun c1 => ?_)
  · refine lv_iconst (v := 0) hx hb dL_widens_91 (by decide) ?_
    exact W.zret (ty := .boolean) (v := 0) hx hb hr rfl (fun t9 ht9 hW9 => ⟨0, rfl, (tb_f (hw.mp c1)).symm, ht9⟩) (fun q hq => absurd hq List.not_mem_nil) dL_widens_92
  · refine lv_iconst (v := 1) hx hb dL_widens_87 (by decide) ?_
    refine lv_goto (tgt := 92) hx hb dL_widens_88 (by decide) ?_
    exact W.zret (ty := .boolean) (v := 1) hx hb hr rfl (fun t9 ht9 hW9 => ⟨1, rfl, (tb_t (by cases hz : kWid (nI (0 + 1)) (nI (k + 1)) with | true => rfl | false => exact absurd (hw.mpr hz) c1)).symm, ht9⟩) (fun q hq => absurd hq List.not_mem_nil) dL_widens_92
set_option maxHeartbeats 4000000 in
set_option maxRecDepth 100000 in
theorem lL_widens1 (l : Launch) (adK adV : Nat → Nat) (k : Nat) (hk : k < 8) : Met l yL_widens wsL_widens ({ frames := 4, cells := 0, slots := 0, locals := 85 }) (twP adK adV [.int (nI (1 + 1)), .int (nI (k + 1))]) (vp_Si (fun r => r = tb (kWid (nI (1 + 1)) (nI (k + 1))))) 0 0 (fun _ => False) := by
  refine Met.ofW (cc := cL_widens) (maxL := 3) (ret := (some .boolean)) (by decide) rfl ?_
  intro p e s m args below meth c s₁ B hml hv
  obtain ⟨rfl, hE, hR⟩ := hv
  have hx := B.exec
  have hb := B.bytes
  have hr := B.returns
  have hts := atoms_spec (ws := wsL_widens) B.pre
  have hown : s.vm.findClass RL = some m.cls := findClass_of_methodNamed B.named
  have hlocks := B.notSynchronized
  have hl := lv_entry ([.int (nI (1 + 1)), .int (nI (k + 1))]) (n := 3) (Nat.le_of_ble_eq_true rfl)
  rw [lg_entry_eq]
  generalize (lg_sl ([.int (nI (1 + 1)), .int (nI (k + 1))]) ++ List.replicate (3 - (lg_sl ([.int (nI (1 + 1)), .int (nI (k + 1))])).length) Slot.unset).toArray = ls at hl ⊢
  have hl : lv_has ls 3 [(0, .int 2), (1, .int (nI (k + 1)))] := hl
  have hS : va_S FN s.heap s.heap [] := va_S.rf
  obtain ⟨h0, h1, h2, h3, h4, h5, h6, h7⟩ := hR
  refine lv_iload_n hx hb dL_widens_0 rfl (lv_at hl 0 rfl) ?_
  refine lv_iconst (v := 1) hx hb dL_widens_1 (by decide) ?_
  refine lv_icmp_ne (tgt := 10) hx hb dL_widens_2 (by decide) (fun _ => ?_) (fun q => absurd q (by decide))
  refine lv_iload_n hx hb dL_widens_10 rfl (lv_at hl 0 rfl) ?_
  refine lv_iconst (v := 2) hx hb dL_widens_11 (by decide) ?_
  refine lv_icmp_ne (tgt := 20) hx hb dL_widens_12 (by decide) (fun q => absurd rfl q) (fun _ => ?_)
  refine va_ldcS hx hb hown h1 dL_widens_15 ?_
  refine lv_goto (tgt := 74) hx hb dL_widens_17 (by decide) ?_
  refine lv_astore_n (lv' := [(2, .ref (adK 1)), (0, .int 2), (1, .int (nI (k + 1)))]) hx hb dL_widens_74 rfl hl (by decide) rfl (fun ls hl => ?_)
  refine lv_aload_n hx hb dL_widens_75 rfl (lv_at hl 0 rfl) ?_
  refine lv_iload_n hx hb dL_widens_76 rfl (lv_at hl 2 rfl) ?_
  refine lv_iconst (v := 1) hx hb dL_widens_77 (by decide) ?_
  refine lv_isub hx hb dL_widens_78 ?_
  refine lv_topi (fun x ex => ?_)
  obtain rfl : x = nI k := by
    rw [ex]
    show nI (k + 1) - nI 1 = nI k
    rw [pk_sub (by omega)]
    rfl
  refine vp_callSi (tc_CR (va_runV (As := [.int (nI k)]) (rest := []) ⟨hx, hb, hml, hown, hts⟩ (jJ0_charAt l adK adV 1 k (by decide) hk) (cwV 1 hts gL_widens_J0_charAt_5068e rfl rfl rfl (by decide +kernel) ⟨Nat.le_of_ble_eq_true rfl, Nat.le_of_ble_eq_true rfl⟩) ⟨tsP.blind, vk_recv hE.1 (by decide) hS, tsP.go hE hS⟩ rfl rfl hl.1 rfl (lv_room (Nat.le_of_ble_eq_true rfl)) dL_widens_79 ⟨Nat.zero_le _, Nat.zero_le _⟩)) (fun r9 h9 => ?_)
  subst h9
  refine lv_bipush (v := 46) hx hb dL_widens_82 (by decide) ?_
  have hw := ts_wid 1 (by decide) k hk
  refine lv_icmp_eq (tgt := 91) hx hb dL_widens_84 (by decide) (fun c1 => ?_) (fun c1 => ?_)
  · refine lv_iconst (v := 0) hx hb dL_widens_91 (by decide) ?_
    exact W.zret (ty := .boolean) (v := 0) hx hb hr rfl (fun t9 ht9 hW9 => ⟨0, rfl, (tb_f (hw.mp c1)).symm, ht9⟩) (fun q hq => absurd hq List.not_mem_nil) dL_widens_92
  · refine lv_iconst (v := 1) hx hb dL_widens_87 (by decide) ?_
    refine lv_goto (tgt := 92) hx hb dL_widens_88 (by decide) ?_
    exact W.zret (ty := .boolean) (v := 1) hx hb hr rfl (fun t9 ht9 hW9 => ⟨1, rfl, (tb_t (by cases hz : kWid (nI (1 + 1)) (nI (k + 1)) with | true => rfl | false => exact absurd (hw.mpr hz) c1)).symm, ht9⟩) (fun q hq => absurd hq List.not_mem_nil) dL_widens_92
set_option maxHeartbeats 4000000 in
set_option maxRecDepth 100000 in
theorem lL_widens2 (l : Launch) (adK adV : Nat → Nat) (k : Nat) (hk : k < 8) : Met l yL_widens wsL_widens ({ frames := 4, cells := 0, slots := 0, locals := 85 }) (twP adK adV [.int (nI (2 + 1)), .int (nI (k + 1))]) (vp_Si (fun r => r = tb (kWid (nI (2 + 1)) (nI (k + 1))))) 0 0 (fun _ => False) := by
  refine Met.ofW (cc := cL_widens) (maxL := 3) (ret := (some .boolean)) (by decide) rfl ?_
  intro p e s m args below meth c s₁ B hml hv
  obtain ⟨rfl, hE, hR⟩ := hv
  have hx := B.exec
  have hb := B.bytes
  have hr := B.returns
  have hts := atoms_spec (ws := wsL_widens) B.pre
  have hown : s.vm.findClass RL = some m.cls := findClass_of_methodNamed B.named
  have hlocks := B.notSynchronized
  have hl := lv_entry ([.int (nI (2 + 1)), .int (nI (k + 1))]) (n := 3) (Nat.le_of_ble_eq_true rfl)
  rw [lg_entry_eq]
  generalize (lg_sl ([.int (nI (2 + 1)), .int (nI (k + 1))]) ++ List.replicate (3 - (lg_sl ([.int (nI (2 + 1)), .int (nI (k + 1))])).length) Slot.unset).toArray = ls at hl ⊢
  have hl : lv_has ls 3 [(0, .int 3), (1, .int (nI (k + 1)))] := hl
  have hS : va_S FN s.heap s.heap [] := va_S.rf
  obtain ⟨h0, h1, h2, h3, h4, h5, h6, h7⟩ := hR
  refine lv_iload_n hx hb dL_widens_0 rfl (lv_at hl 0 rfl) ?_
  refine lv_iconst (v := 1) hx hb dL_widens_1 (by decide) ?_
  refine lv_icmp_ne (tgt := 10) hx hb dL_widens_2 (by decide) (fun _ => ?_) (fun q => absurd q (by decide))
  refine lv_iload_n hx hb dL_widens_10 rfl (lv_at hl 0 rfl) ?_
  refine lv_iconst (v := 2) hx hb dL_widens_11 (by decide) ?_
  refine lv_icmp_ne (tgt := 20) hx hb dL_widens_12 (by decide) (fun _ => ?_) (fun q => absurd q (by decide))
  refine lv_iload_n hx hb dL_widens_20 rfl (lv_at hl 0 rfl) ?_
  refine lv_iconst (v := 3) hx hb dL_widens_21 (by decide) ?_
  refine lv_icmp_ne (tgt := 30) hx hb dL_widens_22 (by decide) (fun q => absurd rfl q) (fun _ => ?_)
  refine va_ldcS hx hb hown h2 dL_widens_25 ?_
  refine lv_goto (tgt := 74) hx hb dL_widens_27 (by decide) ?_
  refine lv_astore_n (lv' := [(2, .ref (adK 2)), (0, .int 3), (1, .int (nI (k + 1)))]) hx hb dL_widens_74 rfl hl (by decide) rfl (fun ls hl => ?_)
  refine lv_aload_n hx hb dL_widens_75 rfl (lv_at hl 0 rfl) ?_
  refine lv_iload_n hx hb dL_widens_76 rfl (lv_at hl 2 rfl) ?_
  refine lv_iconst (v := 1) hx hb dL_widens_77 (by decide) ?_
  refine lv_isub hx hb dL_widens_78 ?_
  refine lv_topi (fun x ex => ?_)
  obtain rfl : x = nI k := by
    rw [ex]
    show nI (k + 1) - nI 1 = nI k
    rw [pk_sub (by omega)]
    rfl
  refine vp_callSi (tc_CR (va_runV (As := [.int (nI k)]) (rest := []) ⟨hx, hb, hml, hown, hts⟩ (jJ0_charAt l adK adV 2 k (by decide) hk) (cwV 1 hts gL_widens_J0_charAt_5068e rfl rfl rfl (by decide +kernel) ⟨Nat.le_of_ble_eq_true rfl, Nat.le_of_ble_eq_true rfl⟩) ⟨tsP.blind, vk_recv hE.1 (by decide) hS, tsP.go hE hS⟩ rfl rfl hl.1 rfl (lv_room (Nat.le_of_ble_eq_true rfl)) dL_widens_79 ⟨Nat.zero_le _, Nat.zero_le _⟩)) (fun r9 h9 => ?_)
  subst h9
  refine lv_bipush (v := 46) hx hb dL_widens_82 (by decide) ?_
  have hw := ts_wid 2 (by decide) k hk
  refine lv_icmp_eq (tgt := 91) hx hb dL_widens_84 (by decide) (fun c1 => ?_) (fun c1 => ?_)
  · refine lv_iconst (v := 0) hx hb dL_widens_91 (by decide) ?_
    exact W.zret (ty := .boolean) (v := 0) hx hb hr rfl (fun t9 ht9 hW9 => ⟨0, rfl, (tb_f (hw.mp c1)).symm, ht9⟩) (fun q hq => absurd hq List.not_mem_nil) dL_widens_92
  · refine lv_iconst (v := 1) hx hb dL_widens_87 (by decide) ?_
    refine lv_goto (tgt := 92) hx hb dL_widens_88 (by decide) ?_
    exact W.zret (ty := .boolean) (v := 1) hx hb hr rfl (fun t9 ht9 hW9 => ⟨1, rfl, (tb_t (by cases hz : kWid (nI (2 + 1)) (nI (k + 1)) with | true => rfl | false => exact absurd (hw.mpr hz) c1)).symm, ht9⟩) (fun q hq => absurd hq List.not_mem_nil) dL_widens_92
set_option maxHeartbeats 4000000 in
set_option maxRecDepth 100000 in
theorem lL_widens3 (l : Launch) (adK adV : Nat → Nat) (k : Nat) (hk : k < 8) : Met l yL_widens wsL_widens ({ frames := 4, cells := 0, slots := 0, locals := 85 }) (twP adK adV [.int (nI (3 + 1)), .int (nI (k + 1))]) (vp_Si (fun r => r = tb (kWid (nI (3 + 1)) (nI (k + 1))))) 0 0 (fun _ => False) := by
  refine Met.ofW (cc := cL_widens) (maxL := 3) (ret := (some .boolean)) (by decide) rfl ?_
  intro p e s m args below meth c s₁ B hml hv
  obtain ⟨rfl, hE, hR⟩ := hv
  have hx := B.exec
  have hb := B.bytes
  have hr := B.returns
  have hts := atoms_spec (ws := wsL_widens) B.pre
  have hown : s.vm.findClass RL = some m.cls := findClass_of_methodNamed B.named
  have hlocks := B.notSynchronized
  have hl := lv_entry ([.int (nI (3 + 1)), .int (nI (k + 1))]) (n := 3) (Nat.le_of_ble_eq_true rfl)
  rw [lg_entry_eq]
  generalize (lg_sl ([.int (nI (3 + 1)), .int (nI (k + 1))]) ++ List.replicate (3 - (lg_sl ([.int (nI (3 + 1)), .int (nI (k + 1))])).length) Slot.unset).toArray = ls at hl ⊢
  have hl : lv_has ls 3 [(0, .int 4), (1, .int (nI (k + 1)))] := hl
  have hS : va_S FN s.heap s.heap [] := va_S.rf
  obtain ⟨h0, h1, h2, h3, h4, h5, h6, h7⟩ := hR
  refine lv_iload_n hx hb dL_widens_0 rfl (lv_at hl 0 rfl) ?_
  refine lv_iconst (v := 1) hx hb dL_widens_1 (by decide) ?_
  refine lv_icmp_ne (tgt := 10) hx hb dL_widens_2 (by decide) (fun _ => ?_) (fun q => absurd q (by decide))
  refine lv_iload_n hx hb dL_widens_10 rfl (lv_at hl 0 rfl) ?_
  refine lv_iconst (v := 2) hx hb dL_widens_11 (by decide) ?_
  refine lv_icmp_ne (tgt := 20) hx hb dL_widens_12 (by decide) (fun _ => ?_) (fun q => absurd q (by decide))
  refine lv_iload_n hx hb dL_widens_20 rfl (lv_at hl 0 rfl) ?_
  refine lv_iconst (v := 3) hx hb dL_widens_21 (by decide) ?_
  refine lv_icmp_ne (tgt := 30) hx hb dL_widens_22 (by decide) (fun _ => ?_) (fun q => absurd q (by decide))
  refine lv_iload_n hx hb dL_widens_30 rfl (lv_at hl 0 rfl) ?_
  refine lv_iconst (v := 4) hx hb dL_widens_31 (by decide) ?_
  refine lv_icmp_ne (tgt := 40) hx hb dL_widens_32 (by decide) (fun q => absurd rfl q) (fun _ => ?_)
  refine va_ldcS hx hb hown h3 dL_widens_35 ?_
  refine lv_goto (tgt := 74) hx hb dL_widens_37 (by decide) ?_
  refine lv_astore_n (lv' := [(2, .ref (adK 3)), (0, .int 4), (1, .int (nI (k + 1)))]) hx hb dL_widens_74 rfl hl (by decide) rfl (fun ls hl => ?_)
  refine lv_aload_n hx hb dL_widens_75 rfl (lv_at hl 0 rfl) ?_
  refine lv_iload_n hx hb dL_widens_76 rfl (lv_at hl 2 rfl) ?_
  refine lv_iconst (v := 1) hx hb dL_widens_77 (by decide) ?_
  refine lv_isub hx hb dL_widens_78 ?_
  refine lv_topi (fun x ex => ?_)
  obtain rfl : x = nI k := by
    rw [ex]
    show nI (k + 1) - nI 1 = nI k
    rw [pk_sub (by omega)]
    rfl
  refine vp_callSi (tc_CR (va_runV (As := [.int (nI k)]) (rest := []) ⟨hx, hb, hml, hown, hts⟩ (jJ0_charAt l adK adV 3 k (by decide) hk) (cwV 1 hts gL_widens_J0_charAt_5068e rfl rfl rfl (by decide +kernel) ⟨Nat.le_of_ble_eq_true rfl, Nat.le_of_ble_eq_true rfl⟩) ⟨tsP.blind, vk_recv hE.1 (by decide) hS, tsP.go hE hS⟩ rfl rfl hl.1 rfl (lv_room (Nat.le_of_ble_eq_true rfl)) dL_widens_79 ⟨Nat.zero_le _, Nat.zero_le _⟩)) (fun r9 h9 => ?_)
  subst h9
  refine lv_bipush (v := 46) hx hb dL_widens_82 (by decide) ?_
  have hw := ts_wid 3 (by decide) k hk
  refine lv_icmp_eq (tgt := 91) hx hb dL_widens_84 (by decide) (fun c1 => ?_) (fun c1 => ?_)
  · refine lv_iconst (v := 0) hx hb dL_widens_91 (by decide) ?_
    exact W.zret (ty := .boolean) (v := 0) hx hb hr rfl (fun t9 ht9 hW9 => ⟨0, rfl, (tb_f (hw.mp c1)).symm, ht9⟩) (fun q hq => absurd hq List.not_mem_nil) dL_widens_92
  · refine lv_iconst (v := 1) hx hb dL_widens_87 (by decide) ?_
    refine lv_goto (tgt := 92) hx hb dL_widens_88 (by decide) ?_
    exact W.zret (ty := .boolean) (v := 1) hx hb hr rfl (fun t9 ht9 hW9 => ⟨1, rfl, (tb_t (by cases hz : kWid (nI (3 + 1)) (nI (k + 1)) with | true => rfl | false => exact absurd (hw.mpr hz) c1)).symm, ht9⟩) (fun q hq => absurd hq List.not_mem_nil) dL_widens_92
set_option maxHeartbeats 4000000 in
set_option maxRecDepth 100000 in
theorem lL_widens4 (l : Launch) (adK adV : Nat → Nat) (k : Nat) (hk : k < 8) : Met l yL_widens wsL_widens ({ frames := 4, cells := 0, slots := 0, locals := 85 }) (twP adK adV [.int (nI (4 + 1)), .int (nI (k + 1))]) (vp_Si (fun r => r = tb (kWid (nI (4 + 1)) (nI (k + 1))))) 0 0 (fun _ => False) := by
  refine Met.ofW (cc := cL_widens) (maxL := 3) (ret := (some .boolean)) (by decide) rfl ?_
  intro p e s m args below meth c s₁ B hml hv
  obtain ⟨rfl, hE, hR⟩ := hv
  have hx := B.exec
  have hb := B.bytes
  have hr := B.returns
  have hts := atoms_spec (ws := wsL_widens) B.pre
  have hown : s.vm.findClass RL = some m.cls := findClass_of_methodNamed B.named
  have hlocks := B.notSynchronized
  have hl := lv_entry ([.int (nI (4 + 1)), .int (nI (k + 1))]) (n := 3) (Nat.le_of_ble_eq_true rfl)
  rw [lg_entry_eq]
  generalize (lg_sl ([.int (nI (4 + 1)), .int (nI (k + 1))]) ++ List.replicate (3 - (lg_sl ([.int (nI (4 + 1)), .int (nI (k + 1))])).length) Slot.unset).toArray = ls at hl ⊢
  have hl : lv_has ls 3 [(0, .int 5), (1, .int (nI (k + 1)))] := hl
  have hS : va_S FN s.heap s.heap [] := va_S.rf
  obtain ⟨h0, h1, h2, h3, h4, h5, h6, h7⟩ := hR
  refine lv_iload_n hx hb dL_widens_0 rfl (lv_at hl 0 rfl) ?_
  refine lv_iconst (v := 1) hx hb dL_widens_1 (by decide) ?_
  refine lv_icmp_ne (tgt := 10) hx hb dL_widens_2 (by decide) (fun _ => ?_) (fun q => absurd q (by decide))
  refine lv_iload_n hx hb dL_widens_10 rfl (lv_at hl 0 rfl) ?_
  refine lv_iconst (v := 2) hx hb dL_widens_11 (by decide) ?_
  refine lv_icmp_ne (tgt := 20) hx hb dL_widens_12 (by decide) (fun _ => ?_) (fun q => absurd q (by decide))
  refine lv_iload_n hx hb dL_widens_20 rfl (lv_at hl 0 rfl) ?_
  refine lv_iconst (v := 3) hx hb dL_widens_21 (by decide) ?_
  refine lv_icmp_ne (tgt := 30) hx hb dL_widens_22 (by decide) (fun _ => ?_) (fun q => absurd q (by decide))
  refine lv_iload_n hx hb dL_widens_30 rfl (lv_at hl 0 rfl) ?_
  refine lv_iconst (v := 4) hx hb dL_widens_31 (by decide) ?_
  refine lv_icmp_ne (tgt := 40) hx hb dL_widens_32 (by decide) (fun _ => ?_) (fun q => absurd q (by decide))
  refine lv_iload_n hx hb dL_widens_40 rfl (lv_at hl 0 rfl) ?_
  refine lv_iconst (v := 5) hx hb dL_widens_41 (by decide) ?_
  refine lv_icmp_ne (tgt := 50) hx hb dL_widens_42 (by decide) (fun q => absurd rfl q) (fun _ => ?_)
  refine va_ldcS hx hb hown h4 dL_widens_45 ?_
  refine lv_goto (tgt := 74) hx hb dL_widens_47 (by decide) ?_
  refine lv_astore_n (lv' := [(2, .ref (adK 4)), (0, .int 5), (1, .int (nI (k + 1)))]) hx hb dL_widens_74 rfl hl (by decide) rfl (fun ls hl => ?_)
  refine lv_aload_n hx hb dL_widens_75 rfl (lv_at hl 0 rfl) ?_
  refine lv_iload_n hx hb dL_widens_76 rfl (lv_at hl 2 rfl) ?_
  refine lv_iconst (v := 1) hx hb dL_widens_77 (by decide) ?_
  refine lv_isub hx hb dL_widens_78 ?_
  refine lv_topi (fun x ex => ?_)
  obtain rfl : x = nI k := by
    rw [ex]
    show nI (k + 1) - nI 1 = nI k
    rw [pk_sub (by omega)]
    rfl
  refine vp_callSi (tc_CR (va_runV (As := [.int (nI k)]) (rest := []) ⟨hx, hb, hml, hown, hts⟩ (jJ0_charAt l adK adV 4 k (by decide) hk) (cwV 1 hts gL_widens_J0_charAt_5068e rfl rfl rfl (by decide +kernel) ⟨Nat.le_of_ble_eq_true rfl, Nat.le_of_ble_eq_true rfl⟩) ⟨tsP.blind, vk_recv hE.1 (by decide) hS, tsP.go hE hS⟩ rfl rfl hl.1 rfl (lv_room (Nat.le_of_ble_eq_true rfl)) dL_widens_79 ⟨Nat.zero_le _, Nat.zero_le _⟩)) (fun r9 h9 => ?_)
  subst h9
  refine lv_bipush (v := 46) hx hb dL_widens_82 (by decide) ?_
  have hw := ts_wid 4 (by decide) k hk
  refine lv_icmp_eq (tgt := 91) hx hb dL_widens_84 (by decide) (fun c1 => ?_) (fun c1 => ?_)
  · refine lv_iconst (v := 0) hx hb dL_widens_91 (by decide) ?_
    exact W.zret (ty := .boolean) (v := 0) hx hb hr rfl (fun t9 ht9 hW9 => ⟨0, rfl, (tb_f (hw.mp c1)).symm, ht9⟩) (fun q hq => absurd hq List.not_mem_nil) dL_widens_92
  · refine lv_iconst (v := 1) hx hb dL_widens_87 (by decide) ?_
    refine lv_goto (tgt := 92) hx hb dL_widens_88 (by decide) ?_
    exact W.zret (ty := .boolean) (v := 1) hx hb hr rfl (fun t9 ht9 hW9 => ⟨1, rfl, (tb_t (by cases hz : kWid (nI (4 + 1)) (nI (k + 1)) with | true => rfl | false => exact absurd (hw.mpr hz) c1)).symm, ht9⟩) (fun q hq => absurd hq List.not_mem_nil) dL_widens_92
set_option maxHeartbeats 4000000 in
set_option maxRecDepth 100000 in
theorem lL_widens5 (l : Launch) (adK adV : Nat → Nat) (k : Nat) (hk : k < 8) : Met l yL_widens wsL_widens ({ frames := 4, cells := 0, slots := 0, locals := 85 }) (twP adK adV [.int (nI (5 + 1)), .int (nI (k + 1))]) (vp_Si (fun r => r = tb (kWid (nI (5 + 1)) (nI (k + 1))))) 0 0 (fun _ => False) := by
  refine Met.ofW (cc := cL_widens) (maxL := 3) (ret := (some .boolean)) (by decide) rfl ?_
  intro p e s m args below meth c s₁ B hml hv
  obtain ⟨rfl, hE, hR⟩ := hv
  have hx := B.exec
  have hb := B.bytes
  have hr := B.returns
  have hts := atoms_spec (ws := wsL_widens) B.pre
  have hown : s.vm.findClass RL = some m.cls := findClass_of_methodNamed B.named
  have hlocks := B.notSynchronized
  have hl := lv_entry ([.int (nI (5 + 1)), .int (nI (k + 1))]) (n := 3) (Nat.le_of_ble_eq_true rfl)
  rw [lg_entry_eq]
  generalize (lg_sl ([.int (nI (5 + 1)), .int (nI (k + 1))]) ++ List.replicate (3 - (lg_sl ([.int (nI (5 + 1)), .int (nI (k + 1))])).length) Slot.unset).toArray = ls at hl ⊢
  have hl : lv_has ls 3 [(0, .int 6), (1, .int (nI (k + 1)))] := hl
  have hS : va_S FN s.heap s.heap [] := va_S.rf
  obtain ⟨h0, h1, h2, h3, h4, h5, h6, h7⟩ := hR
  refine lv_iload_n hx hb dL_widens_0 rfl (lv_at hl 0 rfl) ?_
  refine lv_iconst (v := 1) hx hb dL_widens_1 (by decide) ?_
  refine lv_icmp_ne (tgt := 10) hx hb dL_widens_2 (by decide) (fun _ => ?_) (fun q => absurd q (by decide))
  refine lv_iload_n hx hb dL_widens_10 rfl (lv_at hl 0 rfl) ?_
  refine lv_iconst (v := 2) hx hb dL_widens_11 (by decide) ?_
  refine lv_icmp_ne (tgt := 20) hx hb dL_widens_12 (by decide) (fun _ => ?_) (fun q => absurd q (by decide))
  refine lv_iload_n hx hb dL_widens_20 rfl (lv_at hl 0 rfl) ?_
  refine lv_iconst (v := 3) hx hb dL_widens_21 (by decide) ?_
  refine lv_icmp_ne (tgt := 30) hx hb dL_widens_22 (by decide) (fun _ => ?_) (fun q => absurd q (by decide))
  refine lv_iload_n hx hb dL_widens_30 rfl (lv_at hl 0 rfl) ?_
  refine lv_iconst (v := 4) hx hb dL_widens_31 (by decide) ?_
  refine lv_icmp_ne (tgt := 40) hx hb dL_widens_32 (by decide) (fun _ => ?_) (fun q => absurd q (by decide))
  refine lv_iload_n hx hb dL_widens_40 rfl (lv_at hl 0 rfl) ?_
  refine lv_iconst (v := 5) hx hb dL_widens_41 (by decide) ?_
  refine lv_icmp_ne (tgt := 50) hx hb dL_widens_42 (by decide) (fun _ => ?_) (fun q => absurd q (by decide))
  refine lv_iload_n hx hb dL_widens_50 rfl (lv_at hl 0 rfl) ?_
  refine lv_bipush (v := 6) hx hb dL_widens_51 (by decide) ?_
  refine lv_icmp_ne (tgt := 61) hx hb dL_widens_53 (by decide) (fun q => absurd rfl q) (fun _ => ?_)
  refine va_ldcS hx hb hown h5 dL_widens_56 ?_
  refine lv_goto (tgt := 74) hx hb dL_widens_58 (by decide) ?_
  refine lv_astore_n (lv' := [(2, .ref (adK 5)), (0, .int 6), (1, .int (nI (k + 1)))]) hx hb dL_widens_74 rfl hl (by decide) rfl (fun ls hl => ?_)
  refine lv_aload_n hx hb dL_widens_75 rfl (lv_at hl 0 rfl) ?_
  refine lv_iload_n hx hb dL_widens_76 rfl (lv_at hl 2 rfl) ?_
  refine lv_iconst (v := 1) hx hb dL_widens_77 (by decide) ?_
  refine lv_isub hx hb dL_widens_78 ?_
  refine lv_topi (fun x ex => ?_)
  obtain rfl : x = nI k := by
    rw [ex]
    show nI (k + 1) - nI 1 = nI k
    rw [pk_sub (by omega)]
    rfl
  refine vp_callSi (tc_CR (va_runV (As := [.int (nI k)]) (rest := []) ⟨hx, hb, hml, hown, hts⟩ (jJ0_charAt l adK adV 5 k (by decide) hk) (cwV 1 hts gL_widens_J0_charAt_5068e rfl rfl rfl (by decide +kernel) ⟨Nat.le_of_ble_eq_true rfl, Nat.le_of_ble_eq_true rfl⟩) ⟨tsP.blind, vk_recv hE.1 (by decide) hS, tsP.go hE hS⟩ rfl rfl hl.1 rfl (lv_room (Nat.le_of_ble_eq_true rfl)) dL_widens_79 ⟨Nat.zero_le _, Nat.zero_le _⟩)) (fun r9 h9 => ?_)
  subst h9
  refine lv_bipush (v := 46) hx hb dL_widens_82 (by decide) ?_
  have hw := ts_wid 5 (by decide) k hk
  refine lv_icmp_eq (tgt := 91) hx hb dL_widens_84 (by decide) (fun c1 => ?_) (fun c1 => ?_)
  · refine lv_iconst (v := 0) hx hb dL_widens_91 (by decide) ?_
    exact W.zret (ty := .boolean) (v := 0) hx hb hr rfl (fun t9 ht9 hW9 => ⟨0, rfl, (tb_f (hw.mp c1)).symm, ht9⟩) (fun q hq => absurd hq List.not_mem_nil) dL_widens_92
  · refine lv_iconst (v := 1) hx hb dL_widens_87 (by decide) ?_
    refine lv_goto (tgt := 92) hx hb dL_widens_88 (by decide) ?_
    exact W.zret (ty := .boolean) (v := 1) hx hb hr rfl (fun t9 ht9 hW9 => ⟨1, rfl, (tb_t (by cases hz : kWid (nI (5 + 1)) (nI (k + 1)) with | true => rfl | false => exact absurd (hw.mpr hz) c1)).symm, ht9⟩) (fun q hq => absurd hq List.not_mem_nil) dL_widens_92
set_option maxHeartbeats 4000000 in
set_option maxRecDepth 100000 in
theorem lL_widens6 (l : Launch) (adK adV : Nat → Nat) (k : Nat) (hk : k < 8) : Met l yL_widens wsL_widens ({ frames := 4, cells := 0, slots := 0, locals := 85 }) (twP adK adV [.int (nI (6 + 1)), .int (nI (k + 1))]) (vp_Si (fun r => r = tb (kWid (nI (6 + 1)) (nI (k + 1))))) 0 0 (fun _ => False) := by
  refine Met.ofW (cc := cL_widens) (maxL := 3) (ret := (some .boolean)) (by decide) rfl ?_
  intro p e s m args below meth c s₁ B hml hv
  obtain ⟨rfl, hE, hR⟩ := hv
  have hx := B.exec
  have hb := B.bytes
  have hr := B.returns
  have hts := atoms_spec (ws := wsL_widens) B.pre
  have hown : s.vm.findClass RL = some m.cls := findClass_of_methodNamed B.named
  have hlocks := B.notSynchronized
  have hl := lv_entry ([.int (nI (6 + 1)), .int (nI (k + 1))]) (n := 3) (Nat.le_of_ble_eq_true rfl)
  rw [lg_entry_eq]
  generalize (lg_sl ([.int (nI (6 + 1)), .int (nI (k + 1))]) ++ List.replicate (3 - (lg_sl ([.int (nI (6 + 1)), .int (nI (k + 1))])).length) Slot.unset).toArray = ls at hl ⊢
  have hl : lv_has ls 3 [(0, .int 7), (1, .int (nI (k + 1)))] := hl
  have hS : va_S FN s.heap s.heap [] := va_S.rf
  obtain ⟨h0, h1, h2, h3, h4, h5, h6, h7⟩ := hR
  refine lv_iload_n hx hb dL_widens_0 rfl (lv_at hl 0 rfl) ?_
  refine lv_iconst (v := 1) hx hb dL_widens_1 (by decide) ?_
  refine lv_icmp_ne (tgt := 10) hx hb dL_widens_2 (by decide) (fun _ => ?_) (fun q => absurd q (by decide))
  refine lv_iload_n hx hb dL_widens_10 rfl (lv_at hl 0 rfl) ?_
  refine lv_iconst (v := 2) hx hb dL_widens_11 (by decide) ?_
  refine lv_icmp_ne (tgt := 20) hx hb dL_widens_12 (by decide) (fun _ => ?_) (fun q => absurd q (by decide))
  refine lv_iload_n hx hb dL_widens_20 rfl (lv_at hl 0 rfl) ?_
  refine lv_iconst (v := 3) hx hb dL_widens_21 (by decide) ?_
  refine lv_icmp_ne (tgt := 30) hx hb dL_widens_22 (by decide) (fun _ => ?_) (fun q => absurd q (by decide))
  refine lv_iload_n hx hb dL_widens_30 rfl (lv_at hl 0 rfl) ?_
  refine lv_iconst (v := 4) hx hb dL_widens_31 (by decide) ?_
  refine lv_icmp_ne (tgt := 40) hx hb dL_widens_32 (by decide) (fun _ => ?_) (fun q => absurd q (by decide))
  refine lv_iload_n hx hb dL_widens_40 rfl (lv_at hl 0 rfl) ?_
  refine lv_iconst (v := 5) hx hb dL_widens_41 (by decide) ?_
  refine lv_icmp_ne (tgt := 50) hx hb dL_widens_42 (by decide) (fun _ => ?_) (fun q => absurd q (by decide))
  refine lv_iload_n hx hb dL_widens_50 rfl (lv_at hl 0 rfl) ?_
  refine lv_bipush (v := 6) hx hb dL_widens_51 (by decide) ?_
  refine lv_icmp_ne (tgt := 61) hx hb dL_widens_53 (by decide) (fun _ => ?_) (fun q => absurd q (by decide))
  refine lv_iload_n hx hb dL_widens_61 rfl (lv_at hl 0 rfl) ?_
  refine lv_bipush (v := 7) hx hb dL_widens_62 (by decide) ?_
  refine lv_icmp_ne (tgt := 72) hx hb dL_widens_64 (by decide) (fun q => absurd rfl q) (fun _ => ?_)
  refine va_ldcS hx hb hown h6 dL_widens_67 ?_
  refine lv_goto (tgt := 74) hx hb dL_widens_69 (by decide) ?_
  refine lv_astore_n (lv' := [(2, .ref (adK 6)), (0, .int 7), (1, .int (nI (k + 1)))]) hx hb dL_widens_74 rfl hl (by decide) rfl (fun ls hl => ?_)
  refine lv_aload_n hx hb dL_widens_75 rfl (lv_at hl 0 rfl) ?_
  refine lv_iload_n hx hb dL_widens_76 rfl (lv_at hl 2 rfl) ?_
  refine lv_iconst (v := 1) hx hb dL_widens_77 (by decide) ?_
  refine lv_isub hx hb dL_widens_78 ?_
  refine lv_topi (fun x ex => ?_)
  obtain rfl : x = nI k := by
    rw [ex]
    show nI (k + 1) - nI 1 = nI k
    rw [pk_sub (by omega)]
    rfl
  refine vp_callSi (tc_CR (va_runV (As := [.int (nI k)]) (rest := []) ⟨hx, hb, hml, hown, hts⟩ (jJ0_charAt l adK adV 6 k (by decide) hk) (cwV 1 hts gL_widens_J0_charAt_5068e rfl rfl rfl (by decide +kernel) ⟨Nat.le_of_ble_eq_true rfl, Nat.le_of_ble_eq_true rfl⟩) ⟨tsP.blind, vk_recv hE.1 (by decide) hS, tsP.go hE hS⟩ rfl rfl hl.1 rfl (lv_room (Nat.le_of_ble_eq_true rfl)) dL_widens_79 ⟨Nat.zero_le _, Nat.zero_le _⟩)) (fun r9 h9 => ?_)
  subst h9
  refine lv_bipush (v := 46) hx hb dL_widens_82 (by decide) ?_
  have hw := ts_wid 6 (by decide) k hk
  refine lv_icmp_eq (tgt := 91) hx hb dL_widens_84 (by decide) (fun c1 => ?_) (fun c1 => ?_)
  · refine lv_iconst (v := 0) hx hb dL_widens_91 (by decide) ?_
    exact W.zret (ty := .boolean) (v := 0) hx hb hr rfl (fun t9 ht9 hW9 => ⟨0, rfl, (tb_f (hw.mp c1)).symm, ht9⟩) (fun q hq => absurd hq List.not_mem_nil) dL_widens_92
  · refine lv_iconst (v := 1) hx hb dL_widens_87 (by decide) ?_
    refine lv_goto (tgt := 92) hx hb dL_widens_88 (by decide) ?_
    exact W.zret (ty := .boolean) (v := 1) hx hb hr rfl (fun t9 ht9 hW9 => ⟨1, rfl, (tb_t (by cases hz : kWid (nI (6 + 1)) (nI (k + 1)) with | true => rfl | false => exact absurd (hw.mpr hz) c1)).symm, ht9⟩) (fun q hq => absurd hq List.not_mem_nil) dL_widens_92
set_option maxHeartbeats 4000000 in
set_option maxRecDepth 100000 in
theorem lL_widens7 (l : Launch) (adK adV : Nat → Nat) (k : Nat) (hk : k < 8) : Met l yL_widens wsL_widens ({ frames := 4, cells := 0, slots := 0, locals := 85 }) (twP adK adV [.int (nI (7 + 1)), .int (nI (k + 1))]) (vp_Si (fun r => r = tb (kWid (nI (7 + 1)) (nI (k + 1))))) 0 0 (fun _ => False) := by
  refine Met.ofW (cc := cL_widens) (maxL := 3) (ret := (some .boolean)) (by decide) rfl ?_
  intro p e s m args below meth c s₁ B hml hv
  obtain ⟨rfl, hE, hR⟩ := hv
  have hx := B.exec
  have hb := B.bytes
  have hr := B.returns
  have hts := atoms_spec (ws := wsL_widens) B.pre
  have hown : s.vm.findClass RL = some m.cls := findClass_of_methodNamed B.named
  have hlocks := B.notSynchronized
  have hl := lv_entry ([.int (nI (7 + 1)), .int (nI (k + 1))]) (n := 3) (Nat.le_of_ble_eq_true rfl)
  rw [lg_entry_eq]
  generalize (lg_sl ([.int (nI (7 + 1)), .int (nI (k + 1))]) ++ List.replicate (3 - (lg_sl ([.int (nI (7 + 1)), .int (nI (k + 1))])).length) Slot.unset).toArray = ls at hl ⊢
  have hl : lv_has ls 3 [(0, .int 8), (1, .int (nI (k + 1)))] := hl
  have hS : va_S FN s.heap s.heap [] := va_S.rf
  obtain ⟨h0, h1, h2, h3, h4, h5, h6, h7⟩ := hR
  refine lv_iload_n hx hb dL_widens_0 rfl (lv_at hl 0 rfl) ?_
  refine lv_iconst (v := 1) hx hb dL_widens_1 (by decide) ?_
  refine lv_icmp_ne (tgt := 10) hx hb dL_widens_2 (by decide) (fun _ => ?_) (fun q => absurd q (by decide))
  refine lv_iload_n hx hb dL_widens_10 rfl (lv_at hl 0 rfl) ?_
  refine lv_iconst (v := 2) hx hb dL_widens_11 (by decide) ?_
  refine lv_icmp_ne (tgt := 20) hx hb dL_widens_12 (by decide) (fun _ => ?_) (fun q => absurd q (by decide))
  refine lv_iload_n hx hb dL_widens_20 rfl (lv_at hl 0 rfl) ?_
  refine lv_iconst (v := 3) hx hb dL_widens_21 (by decide) ?_
  refine lv_icmp_ne (tgt := 30) hx hb dL_widens_22 (by decide) (fun _ => ?_) (fun q => absurd q (by decide))
  refine lv_iload_n hx hb dL_widens_30 rfl (lv_at hl 0 rfl) ?_
  refine lv_iconst (v := 4) hx hb dL_widens_31 (by decide) ?_
  refine lv_icmp_ne (tgt := 40) hx hb dL_widens_32 (by decide) (fun _ => ?_) (fun q => absurd q (by decide))
  refine lv_iload_n hx hb dL_widens_40 rfl (lv_at hl 0 rfl) ?_
  refine lv_iconst (v := 5) hx hb dL_widens_41 (by decide) ?_
  refine lv_icmp_ne (tgt := 50) hx hb dL_widens_42 (by decide) (fun _ => ?_) (fun q => absurd q (by decide))
  refine lv_iload_n hx hb dL_widens_50 rfl (lv_at hl 0 rfl) ?_
  refine lv_bipush (v := 6) hx hb dL_widens_51 (by decide) ?_
  refine lv_icmp_ne (tgt := 61) hx hb dL_widens_53 (by decide) (fun _ => ?_) (fun q => absurd q (by decide))
  refine lv_iload_n hx hb dL_widens_61 rfl (lv_at hl 0 rfl) ?_
  refine lv_bipush (v := 7) hx hb dL_widens_62 (by decide) ?_
  refine lv_icmp_ne (tgt := 72) hx hb dL_widens_64 (by decide) (fun _ => ?_) (fun q => absurd q (by decide))
  refine va_ldcS hx hb hown h7 dL_widens_72 ?_
  refine lv_astore_n (lv' := [(2, .ref (adK 7)), (0, .int 8), (1, .int (nI (k + 1)))]) hx hb dL_widens_74 rfl hl (by decide) rfl (fun ls hl => ?_)
  refine lv_aload_n hx hb dL_widens_75 rfl (lv_at hl 0 rfl) ?_
  refine lv_iload_n hx hb dL_widens_76 rfl (lv_at hl 2 rfl) ?_
  refine lv_iconst (v := 1) hx hb dL_widens_77 (by decide) ?_
  refine lv_isub hx hb dL_widens_78 ?_
  refine lv_topi (fun x ex => ?_)
  obtain rfl : x = nI k := by
    rw [ex]
    show nI (k + 1) - nI 1 = nI k
    rw [pk_sub (by omega)]
    rfl
  refine vp_callSi (tc_CR (va_runV (As := [.int (nI k)]) (rest := []) ⟨hx, hb, hml, hown, hts⟩ (jJ0_charAt l adK adV 7 k (by decide) hk) (cwV 1 hts gL_widens_J0_charAt_5068e rfl rfl rfl (by decide +kernel) ⟨Nat.le_of_ble_eq_true rfl, Nat.le_of_ble_eq_true rfl⟩) ⟨tsP.blind, vk_recv hE.1 (by decide) hS, tsP.go hE hS⟩ rfl rfl hl.1 rfl (lv_room (Nat.le_of_ble_eq_true rfl)) dL_widens_79 ⟨Nat.zero_le _, Nat.zero_le _⟩)) (fun r9 h9 => ?_)
  subst h9
  refine lv_bipush (v := 46) hx hb dL_widens_82 (by decide) ?_
  have hw := ts_wid 7 (by decide) k hk
  refine lv_icmp_eq (tgt := 91) hx hb dL_widens_84 (by decide) (fun c1 => ?_) (fun c1 => ?_)
  · refine lv_iconst (v := 0) hx hb dL_widens_91 (by decide) ?_
    exact W.zret (ty := .boolean) (v := 0) hx hb hr rfl (fun t9 ht9 hW9 => ⟨0, rfl, (tb_f (hw.mp c1)).symm, ht9⟩) (fun q hq => absurd hq List.not_mem_nil) dL_widens_92
  · refine lv_iconst (v := 1) hx hb dL_widens_87 (by decide) ?_
    refine lv_goto (tgt := 92) hx hb dL_widens_88 (by decide) ?_
    exact W.zret (ty := .boolean) (v := 1) hx hb hr rfl (fun t9 ht9 hW9 => ⟨1, rfl, (tb_t (by cases hz : kWid (nI (7 + 1)) (nI (k + 1)) with | true => rfl | false => exact absurd (hw.mpr hz) c1)).symm, ht9⟩) (fun q hq => absurd hq List.not_mem_nil) dL_widens_92
theorem lL_widens (l : Launch) (adK adV : Nat → Nat) (i k : Nat) (hi : i < 8) (hk : k < 8) : Met l yL_widens wsL_widens ({ frames := 4, cells := 0, slots := 0, locals := 85 }) (twP adK adV [.int (nI (i + 1)), .int (nI (k + 1))]) (vp_Si (fun r => r = tb (kWid (nI (i + 1)) (nI (k + 1))))) 0 0 (fun _ => False) := by
  rcases (show i = 0 ∨ i = 1 ∨ i = 2 ∨ i = 3 ∨ i = 4 ∨ i = 5 ∨ i = 6 ∨ i = 7 by omega) with rfl | rfl | rfl | rfl | rfl | rfl | rfl | rfl
  · exact lL_widens0 l adK adV k hk
  · exact lL_widens1 l adK adV k hk
  · exact lL_widens2 l adK adV k hk
  · exact lL_widens3 l adK adV k hk
  · exact lL_widens4 l adK adV k hk
  · exact lL_widens5 l adK adV k hk
  · exact lL_widens6 l adK adV k hk
  · exact lL_widens7 l adK adV k hk
theorem tf_below (v : Int32) {N : Nat} (h0 : 0 < N) (h1 : N < 2 ^ 31) : ∃ j, j < N ∧ (v &&& 2147483647) - (v &&& 2147483647) / nI N * nI N = nI j := by
  have e := pk_and v (m := 2147483647) 31 (by decide)
  rw [e, pk_rem (Nat.mod_lt _ (by decide)) h0 h1]
  exact ⟨_, Nat.mod_lt _ h0, rfl⟩
set_option maxHeartbeats 4000000 in
set_option maxRecDepth 100000 in
theorem lL_below (l : Launch) (v : Int32) (N : Nat) (h0 : 0 < N) (h1 : N < 2 ^ 31) : Met l yL_below wsL_below ({ frames := 0, cells := 0, slots := 0, locals := 0 }) (va_Pc [.int v, .int (nI N)] (fun _ => True)) (vp_Si (fun r => ∃ j, j < N ∧ r = nI j)) 0 0 (fun _ => False) := by
  refine Met.ofW (cc := cL_below) (maxL := 2) (ret := (some .int)) (by decide) rfl ?_
  intro p e s m args below meth c s₁ B hml hv
  obtain ⟨rfl, -⟩ := hv
  have hx := B.exec
  have hb := B.bytes
  have hr := B.returns
  have hts := atoms_spec (ws := wsL_below) B.pre
  have hown : s.vm.findClass RL = some m.cls := findClass_of_methodNamed B.named
  have hlocks := B.notSynchronized
  have hl := lv_entry ([.int v, .int (nI N)]) (n := 2) (Nat.le_of_ble_eq_true rfl)
  rw [lg_entry_eq]
  generalize (lg_sl ([.int v, .int (nI N)]) ++ List.replicate (2 - (lg_sl ([.int v, .int (nI N)])).length) Slot.unset).toArray = ls at hl ⊢
  have hl : lv_has ls 2 [(0, .int v), (1, .int (nI N))] := hl
  refine lv_iload_n hx hb dL_below_0 rfl (lv_at hl 0 rfl) ?_
  refine lv_ldc (v := 2147483647) hx hb hown (hts (.constant RL 7 (2147483647)) (by decide +kernel)) dL_below_1 ?_
  refine lv_iand hx hb dL_below_3 ?_
  refine lv_iload_n hx hb dL_below_4 rfl (lv_at hl 1 rfl) ?_
  refine lv_irem hx hb dL_below_5 (fun q => ?_) ?_
  · have e0 : (0 : Int32).toInt = 0 := rfl
    have := congrArg Int32.toInt q
    rw [nI_toInt h1, e0] at this
    omega
  exact W.iret (v := (v &&& 2147483647) - (v &&& 2147483647) / nI N * nI N) hx hb hr (fun t9 ht9 hW9 => ⟨_, rfl, tf_below v h0 h1, ht9⟩) (fun q hq => absurd hq List.not_mem_nil) dL_below_6
set_option maxHeartbeats 4000000 in
set_option maxRecDepth 100000 in
theorem lL_cell (l : Launch) (b L : Nat) (xs : Nat → Int32) (hL : L ≤ 260) (k : Nat) (hk : k < 1000) : Met l yL_cell wsL_cell ({ frames := 0, cells := 0, slots := 0, locals := 0 }) (va_Pc [.ref b, .int (nI k)] (fun U => va_X b L xs U U.heap)) (vp_Si (fun _ => True)) 0 0 (fun _ => False) := by
  refine Met.ofW (cc := cL_cell) (maxL := 2) (ret := (some .int)) (by decide) rfl ?_
  intro p e s m args below meth c s₁ B hml hv
  obtain ⟨rfl, hX⟩ := hv
  have hx := B.exec
  have hb := B.bytes
  have hr := B.returns
  have hts := atoms_spec (ws := wsL_cell) B.pre
  have hown : s.vm.findClass RL = some m.cls := findClass_of_methodNamed B.named
  have hlocks := B.notSynchronized
  have hl := lv_entry ([.ref b, .int (nI k)]) (n := 2) (Nat.le_of_ble_eq_true rfl)
  rw [lg_entry_eq]
  generalize (lg_sl ([.ref b, .int (nI k)]) ++ List.replicate (2 - (lg_sl ([.ref b, .int (nI k)])).length) Slot.unset).toArray = ls at hl ⊢
  have hl : lv_has ls 2 [(0, .ref b), (1, .int (nI k))] := hl
  have hS : va_S FN s.heap s.heap [] := va_S.rf
  have hbl : b < s.heap.size := by
    obtain ⟨scr, h, -⟩ := hX
    exact (Array.getElem?_eq_some_iff.mp h).1
  have hbA : ¬ FN b := fun q => q
  refine lv_iload_n hx hb dL_cell_0 rfl (lv_at hl 1 rfl) ?_
  refine lv_aload_n hx hb dL_cell_1 rfl (lv_at hl 0 rfl) ?_
  refine va_slen hx hb hX hbl hbA hS dL_cell_2 ?_
  refine lv_icmp_ge (tgt := 12) hx hb dL_cell_3 (by decide) (fun c1 => ?_) (fun c1 => ?_)
  · refine lv_ldc (v := 790386105) hx hb hown (hts (.constant RL 8 (790386105)) (by decide +kernel)) dL_cell_12 ?_
    refine lv_iload_n hx hb dL_cell_14 rfl (lv_at hl 1 rfl) ?_
    refine lv_iconst (v := 3) hx hb dL_cell_15 (by decide) ?_
    refine lv_iadd hx hb dL_cell_16 ?_
    refine lv_imul hx hb dL_cell_17 ?_
    exact W.iret (v := 790386105 * (nI k + 3)) hx hb hr (fun t9 ht9 hW9 => ⟨_, rfl, trivial, ht9⟩) (fun q hq => absurd hq List.not_mem_nil) dL_cell_18
  · have hkL : k < L := by
      rcases Nat.lt_or_ge k L with h | h
      · exact h
      · exact absurd (nI_le h (by omega)) c1
    refine lv_aload_n hx hb dL_cell_6 rfl (lv_at hl 0 rfl) ?_
    refine lv_iload_n hx hb dL_cell_7 rfl (lv_at hl 1 rfl) ?_
    refine va_sld hx hb hX hbl hbA hS (vp_in_nI hkL (by omega)) dL_cell_8 ?_
    refine lv_goto (tgt := 18) hx hb dL_cell_9 (by decide) ?_
    exact W.iret (v := xs (nI k).toNatClampNeg) hx hb hr (fun t9 ht9 hW9 => ⟨_, rfl, trivial, ht9⟩) (fun q hq => absurd hq List.not_mem_nil) dL_cell_18
set_option maxHeartbeats 4000000 in
set_option maxRecDepth 100000 in
theorem lL_made (l : Launch) (k v : Int32) : Met l yL_made wsL_made ({ frames := 0, cells := 0, slots := 0, locals := 0 }) (va_Pc [.int k, .int v] (fun _ => True)) (vp_Sl (fun r => r = lMade v k)) 0 0 (fun _ => False) := by
  refine Met.ofW (cc := cL_made) (maxL := 2) (ret := (some .long)) (by decide) rfl ?_
  intro p e s m args below meth c s₁ B hml hv
  obtain ⟨rfl, -⟩ := hv
  have hx := B.exec
  have hb := B.bytes
  have hr := B.returns
  have hts := atoms_spec (ws := wsL_made) B.pre
  have hown : s.vm.findClass RL = some m.cls := findClass_of_methodNamed B.named
  have hlocks := B.notSynchronized
  have hl := lv_entry ([.int k, .int v]) (n := 2) (Nat.le_of_ble_eq_true rfl)
  rw [lg_entry_eq]
  generalize (lg_sl ([.int k, .int v]) ++ List.replicate (2 - (lg_sl ([.int k, .int v])).length) Slot.unset).toArray = ls at hl ⊢
  have hl : lv_has ls 2 [(0, .int k), (1, .int v)] := hl
  refine lv_iload_n hx hb dL_made_0 rfl (lv_at hl 0 rfl) ?_
  refine lv_iconst (v := 1) hx hb dL_made_1 (by decide) ?_
  refine lv_icmp_ne (tgt := 17) hx hb dL_made_2 (by decide) (fun c_1 => ?_) (fun c_1 => ?_)
  · refine lv_iload_n hx hb dL_made_17 rfl (lv_at hl 0 rfl) ?_
    refine lv_iconst (v := 2) hx hb dL_made_18 (by decide) ?_
    refine lv_icmp_ne (tgt := 28) hx hb dL_made_19 (by decide) (fun c_2 => ?_) (fun c_2 => ?_)
    · refine lv_iload_n hx hb dL_made_28 rfl (lv_at hl 0 rfl) ?_
      refine lv_iconst (v := 3) hx hb dL_made_29 (by decide) ?_
      refine lv_icmp_ne (tgt := 39) hx hb dL_made_30 (by decide) (fun c_3 => ?_) (fun c_3 => ?_)
      · refine lv_iload_n hx hb dL_made_39 rfl (lv_at hl 0 rfl) ?_
        refine lv_iconst (v := 4) hx hb dL_made_40 (by decide) ?_
        refine lv_icmp_ne (tgt := 50) hx hb dL_made_41 (by decide) (fun c_4 => ?_) (fun c_4 => ?_)
        · refine lv_iload_n hx hb dL_made_50 rfl (lv_at hl 0 rfl) ?_
          refine lv_bipush (v := 7) hx hb dL_made_51 (by decide) ?_
          refine lv_icmp_ne (tgt := 62) hx hb dL_made_53 (by decide) (fun c_5 => ?_) (fun c_5 => ?_)
          · refine lv_iload_n hx hb dL_made_62 rfl (lv_at hl 1 rfl) ?_
            refine lv_i2l (v := v.toInt64) hx hb dL_made_63 rfl ?_
            exact W.lret (v := v.toInt64) hx hb hr (fun t9 ht9 hW9 => ⟨v.toInt64, rfl, by simp [lMade, kMade, c_1, c_2, c_3, c_4, c_5], ht9⟩) (fun q hq => absurd hq List.not_mem_nil) dL_made_64
          · refine lv_iload_n hx hb dL_made_56 rfl (lv_at hl 1 rfl) ?_
            refine lv_i2f hx hb dL_made_57 ?_
            refine lv_f2l hx hb dL_made_58 ?_
            refine lv_goto (tgt := 64) hx hb dL_made_59 (by decide) ?_
            exact W.lret (v := (FP.f2l (FP.i2f v))) hx hb hr (fun t9 ht9 hW9 => ⟨(FP.f2l (FP.i2f v)), rfl, by simp [lMade, kMade, c_1, c_2, c_3, c_4, c_5], ht9⟩) (fun q hq => absurd hq List.not_mem_nil) dL_made_64
        · refine lv_iload_n hx hb dL_made_44 rfl (lv_at hl 1 rfl) ?_
          refine lv_i2s (v := v.toInt16.toInt32) hx hb dL_made_45 rfl ?_
          refine lv_i2l (v := v.toInt16.toInt32.toInt64) hx hb dL_made_46 rfl ?_
          refine lv_goto (tgt := 64) hx hb dL_made_47 (by decide) ?_
          exact W.lret (v := v.toInt16.toInt32.toInt64) hx hb hr (fun t9 ht9 hW9 => ⟨v.toInt16.toInt32.toInt64, rfl, by simp [lMade, kMade, c_1, c_2, c_3, c_4], ht9⟩) (fun q hq => absurd hq List.not_mem_nil) dL_made_64
      · refine lv_iload_n hx hb dL_made_33 rfl (lv_at hl 1 rfl) ?_
        refine lv_i2c (v := (v.toUInt32 % 65536).toInt32) hx hb dL_made_34 rfl ?_
        refine lv_i2l (v := ((v.toUInt32 % 65536).toInt32).toInt64) hx hb dL_made_35 rfl ?_
        refine lv_goto (tgt := 64) hx hb dL_made_36 (by decide) ?_
        exact W.lret (v := ((v.toUInt32 % 65536).toInt32).toInt64) hx hb hr (fun t9 ht9 hW9 => ⟨((v.toUInt32 % 65536).toInt32).toInt64, rfl, by simp [lMade, kMade, c_1, c_2, c_3], ht9⟩) (fun q hq => absurd hq List.not_mem_nil) dL_made_64
    · refine lv_iload_n hx hb dL_made_22 rfl (lv_at hl 1 rfl) ?_
      refine lv_i2b (v := v.toInt8.toInt32) hx hb dL_made_23 rfl ?_
      refine lv_i2l (v := v.toInt8.toInt32.toInt64) hx hb dL_made_24 rfl ?_
      refine lv_goto (tgt := 64) hx hb dL_made_25 (by decide) ?_
      exact W.lret (v := v.toInt8.toInt32.toInt64) hx hb hr (fun t9 ht9 hW9 => ⟨v.toInt8.toInt32.toInt64, rfl, by simp [lMade, kMade, c_1, c_2], ht9⟩) (fun q hq => absurd hq List.not_mem_nil) dL_made_64
  · refine lv_iload_n hx hb dL_made_5 rfl (lv_at hl 1 rfl) ?_
    refine lv_if_eq (tgt := 13) hx hb dL_made_6 (by decide) (fun c_6 => ?_) (fun c_6 => ?_)
    · refine lv_lconst (v := 0) hx hb dL_made_13 (by decide) ?_
      refine lv_goto (tgt := 64) hx hb dL_made_14 (by decide) ?_
      exact W.lret (v := 0) hx hb hr (fun t9 ht9 hW9 => ⟨0, rfl, by simp [lMade, kMade, c_1, c_6], ht9⟩) (fun q hq => absurd hq List.not_mem_nil) dL_made_64
    · refine lv_lconst (v := 1) hx hb dL_made_9 (by decide) ?_
      refine lv_goto (tgt := 64) hx hb dL_made_10 (by decide) ?_
      exact W.lret (v := 1) hx hb hr (fun t9 ht9 hW9 => ⟨1, rfl, by simp [lMade, kMade, c_1, c_6], ht9⟩) (fun q hq => absurd hq List.not_mem_nil) dL_made_64
end
section
/-! THE LAW: its table beside the columns; what each step does to both -/
theorem kWid_1 {a : Int32} (h : kWid a 1 = true) : a = 1 := by
  obtain ⟨h1, h2⟩ := kWid_has h
  by_cases q : a = 1
  · exact q
  · rw [kWid_b1 h1 h2 q q rfl] at h; cases h
theorem kHas_Is {k : Int32} (h : kHas k = true) : kIs k = true := by
  have h1 := (kHas_iff k).mp h
  exact (kIs_iff k).mpr (by omega)
section TJ
variable {p : Program} {l : Launch} {e : Env} {R : Room} {s : State} {m : MethodId} {args : Array Value} {below : List Frame} {meth : Method} {c : Code} {H : Heap} {locs : List Loc} {cells slots : Nat} {Q : State → Prop}
/-- ways that meet -/
theorem tc_join (pc2 : Nat) {pc1 : Nat} {ls1 : Array Slot} {st1 : List Value} (I : Array Slot → List Value → Prop) (h2 : ∀ ls st, I ls st → W p l e R s m args below meth c H locs cells slots Q (F0 m pc2 ls st))
    (h1 : (∀ ls st, I ls st → W p l e R s m args below meth c H locs cells slots Q (F0 m pc2 ls st)) → W p l e R s m args below meth c H locs cells slots Q (F0 m pc1 ls1 st1)) : W p l e R s m args below meth c H locs cells slots Q (F0 m pc1 ls1 st1) := h1 h2
end TJ
theorem kHas8 {k : Int32} (h : kHas k = true) : k = 1 ∨ k = 2 ∨ k = 3 ∨ k = 4 ∨ k = 5 ∨ k = 6 ∨ k = 7 ∨ k = 8 := by
  have h1 := (kHas_iff k).mp h
  have e1 : (1 : Int32).toInt = 1 := rfl
  have e2 : (2 : Int32).toInt = 2 := rfl
  have e3 : (3 : Int32).toInt = 3 := rfl
  have e4 : (4 : Int32).toInt = 4 := rfl
  have e5 : (5 : Int32).toInt = 5 := rfl
  have e6 : (6 : Int32).toInt = 6 := rfl
  have e7 : (7 : Int32).toInt = 7 := rfl
  have e8 : (8 : Int32).toInt = 8 := rfl
  simp only [← Int32.toInt_inj, e1, e2, e3, e4, e5, e6, e7, e8]
  omega
section TI
variable {n : Nat} {K : Nat → Int32} {Ln : Nat → Nat} {Wh : Nat → Int64} {Re : Nat → UInt64}
theorem tcI_w (hI : tcI n K Ln Wh Re) {j : Nat} (hj : j < n) {i kd : Int32} {v : Int64} (hv : kd = 1 → v = 0 ∨ v = 1) : tcI n K Ln (wrW K Ln Wh j i kd v) (wrR K Ln Re j i kd v) := by
  obtain ⟨h1, h2, h3, h4⟩ := hI
  unfold wrW wrR
  by_cases hc : cdR K Ln j i kd (K j) = 0
  · rw [if_pos hc, if_pos hc]
    have g0 := cdR_0 (h2 j hj).1 (h2 j hj).2.1 hc
    have hq := vp_in_lt g0.2.2
    by_cases hf : kFl (K j) = true
    · rw [if_pos hf, if_pos hf]
      refine ⟨h1, h2, h3, fun j' hj' hf' q hq' => ?_⟩
      unfold vf_upd
      by_cases e : 40 * j' + q = 40 * j + i.toNatClampNeg
      · rw [if_pos e]
        by_cases e7 : K j = 7
        · rw [if_pos e7]; exact tf_f2d (tf_l2f v)
        · rw [if_neg e7]; exact tf_l2d v
      · rw [if_neg e]; exact h4 j' hj' hf' q hq'
    · rw [if_neg hf, if_neg hf]
      refine ⟨h1, h2, fun j' hj' hk' q hq' => ?_, h4⟩
      unfold vp_updL
      by_cases e : 40 * j' + q = 40 * j + i.toNatClampNeg
      · rw [if_pos e]
        have l1 := (h2 j hj).2.1
        have l2 := (h2 j' hj').2.1
        have ej : j' = j := by omega
        subst ej
        refine hv (kWid_1 (a := kd) ?_)
        have := g0.2.1
        rw [hk'] at this
        exact this
      · rw [if_neg e]; exact h3 j' hj' hk' q hq'
  · rw [if_neg hc, if_neg hc]; exact ⟨h1, h2, h3, h4⟩
theorem tcI_x (hI : tcI n K Ln Wh Re) {j : Nat} {i kd : Int32} {x : UInt64} (hx : FP.Core.dIsNaN x = false) : tcI n K Ln Wh (wrX K Ln Re j i kd x) := by
  obtain ⟨h1, h2, h3, h4⟩ := hI
  unfold wrX
  by_cases hc : cdR K Ln j i kd (K j) = 0
  · rw [if_pos hc]
    refine ⟨h1, h2, h3, fun j' hj' hf' q hq' => ?_⟩
    unfold vf_upd
    by_cases e : 40 * j' + q = 40 * j + i.toNatClampNeg
    · rw [if_pos e]; exact hx
    · rw [if_neg e]; exact h4 j' hj' hf' q hq'
  · rw [if_neg hc]; exact ⟨h1, h2, h3, h4⟩
theorem tcI_c (hI : tcI n K Ln Wh Re) {j j2 : Nat} (hj : j < n) (hj2 : j2 < n) (fi ti mm : Int32) : tcI n K Ln (cpW K Ln Wh j j2 fi ti mm) (cpW K Ln Re j j2 fi ti mm) := by
  obtain ⟨h1, h2, h3, h4⟩ := hI
  unfold cpW
  by_cases hc : cpC K Ln j j2 fi ti mm = 0
  · rw [if_pos hc, if_pos hc]
    obtain ⟨ek, -, -, -, g1, g2⟩ := cpC_0 (h2 j hj).1 (h2 j hj).2.1 (h2 j2 hj2).2.1 hc
    have l1 := (h2 j hj).2.1
    have l2 := (h2 j2 hj2).2.1
    refine ⟨h1, h2, fun j' hj' hk' q hq' => ?_, fun j' hj' hf' q hq' => ?_⟩
    · have l3 := (h2 j' hj').2.1
      unfold va_cpy
      by_cases e : 40 * j2 + ti.toNatClampNeg ≤ 40 * j' + q ∧ 40 * j' + q < 40 * j2 + ti.toNatClampNeg + mm.toNatClampNeg
      · rw [if_pos e]
        have ej : j' = j2 := by omega
        subst ej
        have := h3 j hj (ek.trans hk') (fi.toNatClampNeg + (q - ti.toNatClampNeg)) (by omega)
        rw [show 40 * j + fi.toNatClampNeg + (40 * j' + q - (40 * j' + ti.toNatClampNeg)) = 40 * j + (fi.toNatClampNeg + (q - ti.toNatClampNeg)) from by omega]
        exact this
      · rw [if_neg e]; exact h3 j' hj' hk' q hq'
    · have l3 := (h2 j' hj').2.1
      unfold va_cpy
      by_cases e : 40 * j2 + ti.toNatClampNeg ≤ 40 * j' + q ∧ 40 * j' + q < 40 * j2 + ti.toNatClampNeg + mm.toNatClampNeg
      · rw [if_pos e]
        have ej : j' = j2 := by omega
        subst ej
        have := h4 j hj (by rw [ek]; exact hf') (fi.toNatClampNeg + (q - ti.toNatClampNeg)) (by omega)
        rw [show 40 * j + fi.toNatClampNeg + (40 * j' + q - (40 * j' + ti.toNatClampNeg)) = 40 * j + (fi.toNatClampNeg + (q - ti.toNatClampNeg)) from by omega]
        exact this
      · rw [if_neg e]; exact h4 j' hj' hf' q hq'
  · rw [if_neg hc, if_neg hc]; exact ⟨h1, h2, h3, h4⟩
theorem tcI_a (hI : tcI n K Ln Wh Re) (hn : n < 60) {kd : Int32} {N M : Nat} (hk : kIs kd = true) (hN : N ≤ 40) (hz : kHas kd = false → N = 0) {V : Nat → Int64} {X : Nat → UInt64} (hV : kd = 1 → ∀ q, q < N → q < M → V q = 0 ∨ V q = 1) (hX : kFl kd = true → ∀ q, q < N → q < M → FP.Core.dIsNaN (X q) = false) :
    tcI (n + 1) (va_up K n kd) (va_up Ln n N) (tc_put n M V 0 Wh) (tc_put n M X 0 Re) := by
  obtain ⟨h1, h2, h3, h4⟩ := hI
  refine ⟨by omega, fun j hj => ?_, fun j hj hk' q hq => ?_, fun j hj hf q hq => ?_⟩
  · by_cases e : j = n
    · subst e; rw [tcu_at, tcu_at]; exact ⟨hk, hN, hz⟩
    · rw [tcu_ne K kd e, tcu_ne Ln N e]; exact h2 j (by omega)
  · by_cases e : j = n
    · subst e
      rw [tcu_at] at hk' hq
      rw [tc_put_in (by omega)]
      by_cases h : q < M
      · rw [if_pos h]; exact hV hk' q hq h
      · rw [if_neg h]; exact Or.inl rfl
    · rw [tcu_ne K kd e] at hk'
      rw [tcu_ne Ln N e] at hq
      have l := (h2 j (by omega)).2.1
      rw [tc_put_out (by omega) (by omega)]
      exact h3 j (by omega) hk' q hq
  · by_cases e : j = n
    · subst e
      rw [tcu_at] at hf hq
      rw [tc_put_in (by omega)]
      by_cases h : q < M
      · rw [if_pos h]; exact hX hf q hq h
      · rw [if_neg h]; decide +kernel
    · rw [tcu_ne K kd e] at hf
      rw [tcu_ne Ln N e] at hq
      have l := (h2 j (by omega)).2.1
      rw [tc_put_out (by omega) (by omega)]
      exact h4 j (by omega) hf q hq
theorem tcI_wd (hI : tcI n K Ln Wh Re) (hn : n < 60) {j : Nat} (hj : j < n) {kd : Int32} (hk : kHas kd = true) (hc : wdC K j kd = 0) : tcI (n + 1) (va_up K n kd) (va_up Ln n (Ln j)) (tc_put n (Ln j) (fun i => Wh (40 * j + i)) 0 Wh) (tc_put n (Ln j) (wdV K Wh Re j kd) 0 Re) := by
  obtain ⟨hc0, hc1⟩ := wdC_0 hc
  refine tcI_a hI hn (kHas_Is hk) (hI.2.1 j hj).2.1 (fun h => absurd hk (by rw [h]; decide)) (fun e1 q hq _ => ?_) (fun hf q hq _ => ?_)
  · rw [e1] at hc1
    exact hI.2.2.1 j hj (kWid_1 hc1) q hq
  · unfold wdV
    rw [if_neg (by rw [hf]; decide)]
    by_cases h2 : kFl (K j) = true
    · rw [if_pos h2]; exact hI.2.2.2 j hj h2 q hq
    · rw [if_neg h2]
      by_cases h7 : kd = 7
      · rw [if_pos h7]; exact tf_f2d (tf_l2f _)
      · rw [if_neg h7]; exact tf_l2d _
theorem rdR_nn (hI : tcI n K Ln Wh Re) {j : Nat} (hj : j < n) (i kd : Int32) : FP.Core.dIsNaN (rdR K Ln Wh Re j i kd) = false := by
  unfold rdR
  by_cases h : cdR K Ln j i (K j) kd = 0
  · rw [if_pos h]
    have g0 := cdR_0 (hI.2.1 j hj).1 (hI.2.1 j hj).2.1 h
    by_cases hf : kFl (K j) = true
    · rw [if_pos hf]; exact hI.2.2.2 j hj hf _ (vp_in_lt g0.2.2)
    · rw [if_neg hf]; exact tf_l2d _
  · rw [if_neg h]; decide +kernel
end TI
def PI (n : Nat) (K : Nat → Int32) (Ln : Nat → Nat) (Wh : Nat → Int64) (Re : Nat → UInt64) (ow : Nat → UInt64) (lf kf : Nat → Int32) : Prop :=
  n ≤ 12 ∧ tcI n K Ln Wh Re ∧ (∀ j, j < n → kf j = K j ∧ lf j = nI (Ln j) ∧ Ln j ≤ 5) ∧ (∀ j, j < n → ∀ q, q < Ln j → cOK (K j) (Wh (40 * j + q)) (Re (40 * j + q)) (ow (5 * j + q)))
section PIS
variable {n : Nat} {K : Nat → Int32} {Ln : Nat → Nat} {Wh : Nat → Int64} {Re : Nat → UInt64} {ow : Nat → UInt64} {lf kf : Nat → Int32}
theorem PI_has (h : PI n K Ln Wh Re ow lf kf) {j : Nat} (hj : j < n) {q : Nat} (hq : q < Ln j) : kHas (K j) = true := by
  cases hz : kHas (K j)
  · have := (h.2.1.2.1 j hj).2.2 hz
    omega
  · rfl
theorem PI_kf (h : PI n K Ln Wh Re ow lf kf) {j : Nat} (hj : j < n) : kf (nI j).toNatClampNeg = K j := by
  have := h.1
  rw [nI_clamp (by omega)]
  exact (h.2.2.1 j hj).1
theorem PI_lf (h : PI n K Ln Wh Re ow lf kf) {j : Nat} (hj : j < n) : lf (nI j).toNatClampNeg = nI (Ln j) := by
  have := h.1
  rw [nI_clamp (by omega)]
  exact (h.2.2.1 j hj).2.1
theorem PI_rd (h : PI n K Ln Wh Re ow lf kf) {j : Nat} (hj : j < n) {q : Nat} (hq : q < Ln j) : cdR K Ln j (nI q) (K j) (K j) = 0 ∧ rdR K Ln Wh Re j (nI q) (K j) = ow (5 * j + q) ∧ FP.Core.dIsNaN (ow (5 * j + q)) = false := by
  have hh := PI_has h hj hq
  have hL := (h.2.2.1 j hj).2.2
  have hc := h.2.2.2 j hj q hq
  have h0 : cdR K Ln j (nI q) (K j) (K j) = 0 := by
    unfold cdR kCell
    rw [if_pos (kHas_col hh), if_neg (nI_pos (by omega)), tc_cl_has hh, if_neg (nI_ge hq (by omega)), if_pos (kWid_self hh)]
  refine ⟨h0, ?_, cOK_n hc⟩
  unfold rdR
  rw [if_pos h0, nI_clamp (by omega)]
  cases hf : kFl (K j)
  · rw [if_neg (by decide)]; exact (hc.2.2.1 hf).1
  · rw [if_pos rfl]; exact hc.2.1 hf
theorem PI_tot (h : PI n K Ln Wh Re ow lf kf) {j : Nat} (hj : j < n) : tot K Ln Wh Re j = lsum (fun q => ow (5 * j + q)) (Ln j) := by
  unfold tot
  by_cases hc : kCol (K j) = 0
  · rw [if_pos hc]
    refine lsum_sum _ (fun q hq => ?_)
    have hk := h.2.2.2 j hj q hq
    refine ⟨hk.1, ?_⟩
    cases hf : kFl (K j)
    · rw [if_neg (by decide)]; exact (hk.2.2.1 hf).1
    · rw [if_pos rfl]; exact hk.2.1 hf
  · rw [if_neg hc]
    have hz : Ln j = 0 := by
      rcases Nat.eq_zero_or_pos (Ln j) with e | e
      · exact e
      · exact absurd (kHas_col (PI_has h hj e)) hc
    rw [hz]
    rfl
theorem PI_totn (h : PI n K Ln Wh Re ow lf kf) {j : Nat} (hj : j < n) {k : Nat} (hk : k ≤ Ln j) : FP.Core.dIsNaN (lsum (fun q => ow (5 * j + q)) k) = false :=
  lsum_nn k (fun i hi => (h.2.2.2 j hj i (by omega)).1)
/-- one cell is another -/
theorem PI_upd (h : PI n K Ln Wh Re ow lf kf) {j q : Nat} (hj : j < n) (hq : q < Ln j) {Wh' : Nat → Int64} {Re' : Nat → UInt64} {v : UInt64} (hI : tcI n K Ln Wh' Re') (hW : ∀ x, x ≠ 40 * j + q → Wh' x = Wh x) (hR : ∀ x, x ≠ 40 * j + q → Re' x = Re x) (hc : cOK (K j) (Wh' (40 * j + q)) (Re' (40 * j + q)) v) : PI n K Ln Wh' Re' (vf_upd ow (5 * j + q) v) lf kf := by
  refine ⟨h.1, hI, h.2.2.1, fun j' hj' q' hq' => ?_⟩
  have l1 := (h.2.2.1 j hj).2.2
  have l2 := (h.2.2.1 j' hj').2.2
  unfold vf_upd
  by_cases e : j' = j ∧ q' = q
  · obtain ⟨rfl, rfl⟩ := e
    rw [if_pos rfl]
    exact hc
  · rw [if_neg (by omega), hW _ (by omega), hR _ (by omega)]
    exact h.2.2.2 j' hj' q' hq'
def lVal (k : Int32) (x kd : Int32) : UInt64 := if k = 7 then FP.f2d (FP.l2f (lMade x kd)) else FP.l2d (lMade x kd)
theorem lVal7 (k x : Int32) : lVal k x 7 = FP.f2d (FP.i2f x) := by
  unfold lVal lMade
  rw [if_pos rfl]
  split
  · rw [(tf_made7 x).1]
  · rw [(tf_made7 x).2]
theorem PI_wf (h : PI n K Ln Wh Re ow lf kf) {j a : Nat} (hj : j < n) {x : Int32} (hc : cdR K Ln j (nI a) 7 (K j) = 0) : PI n K Ln Wh (wrX K Ln Re j (nI a) 7 (FP.f2d (FP.i2f x))) (vf_upd ow (5 * j + (nI a).toNatClampNeg) (lVal (K j) x 7)) lf kf := by
  obtain ⟨g1, g2, g3⟩ := cdR_0 (h.2.1.2.1 j hj).1 (h.2.1.2.1 j hj).2.1 hc
  have hf := kWid_high g2 (by decide)
  refine PI_upd h hj (vp_in_lt g3) (tcI_x h.2.1 (tf_DFn (tf_finf (tf_fi x)))) (fun _ _ => rfl) (fun y hy => ?_) ?_
  · unfold wrX; rw [if_pos hc]; exact if_neg hy
  · unfold wrX
    rw [if_pos hc, lVal7]
    refine ⟨tf_finf (tf_fi x), fun _ => if_pos rfl, fun z => absurd hf (by rw [z]; decide), fun _ => ?_⟩
    rw [tf_d2ff (tf_fi x)]
theorem kWid_8 {b : Int32} (h : kWid 8 b = true) : b = 8 := by
  rcases kHas8 (kWid_has h).2 with e | e | e | e | e | e | e | e
  all_goals first
    | exact e
    | (rw [e] at h; exact absurd h (by decide))
theorem PI_wd (h : PI n K Ln Wh Re ow lf kf) {j a : Nat} (hj : j < n) {x : Int32} (hc : cdR K Ln j (nI a) 8 (K j) = 0) : PI n K Ln Wh (wrX K Ln Re j (nI a) 8 (FP.i2d x)) (vf_upd ow (5 * j + (nI a).toNatClampNeg) (lVal (K j) x 8)) lf kf := by
  obtain ⟨g1, g2, g3⟩ := cdR_0 (h.2.1.2.1 j hj).1 (h.2.1.2.1 j hj).2.1 hc
  have h8 := kWid_8 g2
  have ev : lVal (K j) x 8 = FP.i2d x := by
    unfold lVal lMade
    rw [h8, if_neg (by decide), if_neg (by decide), kMade8, tg_i2d]
  have hfin : FP.Core.DFin (FP.i2d x) := by rw [← tg_i2d]; exact tf_finl _
  refine PI_upd h hj (vp_in_lt g3) (tcI_x h.2.1 (tf_DFn hfin)) (fun _ _ => rfl) (fun y hy => ?_) ?_
  · unfold wrX; rw [if_pos hc]; exact if_neg hy
  · unfold wrX
    rw [if_pos hc, ev]
    exact ⟨hfin, fun _ => if_pos rfl, fun z => absurd z (by rw [h8]; decide), fun z => absurd z (by rw [h8]; decide)⟩
theorem PI_ww (h : PI n K Ln Wh Re ow lf kf) {j a : Nat} (hj : j < n) {x kd : Int32} (hkf : kFl kd = false) (hc : cdR K Ln j (nI a) kd (K j) = 0) : PI n K Ln (wrW K Ln Wh j (nI a) kd (kMade x kd)) (wrR K Ln Re j (nI a) kd (kMade x kd)) (vf_upd ow (5 * j + (nI a).toNatClampNeg) (lVal (K j) x kd)) lf kf := by
  obtain ⟨g1, g2, g3⟩ := cdR_0 (h.2.1.2.1 j hj).1 (h.2.1.2.1 j hj).2.1 hc
  have n7 := (kFl_no hkf).1
  have em : lMade x kd = kMade x kd := if_neg n7
  have hI := tcI_w h.2.1 hj (i := nI a) (kd := kd) (v := kMade x kd) (fun e => by rw [e]; exact kMade_b x)
  refine PI_upd h hj (vp_in_lt g3) hI (fun y hy => ?_) (fun y hy => ?_) ?_
  · unfold wrW; rw [if_pos hc]
    split
    · rfl
    · exact if_neg hy
  · unfold wrR; rw [if_pos hc]
    split
    · exact if_neg hy
    · rfl
  · unfold wrW wrR lVal
    rw [if_pos hc, if_pos hc, em]
    cases hf : kFl (K j)
    · have k7 := (kFl_no hf).1
      rw [if_neg (by decide), if_neg (by decide), if_neg k7]
      refine ⟨tf_finl _, fun z => absurd z (by rw [hf]; decide), fun _ => ?_, fun z => absurd z k7⟩
      have e : vp_updL Wh (40 * j + (nI a).toNatClampNeg) (kMade x kd) (40 * j + (nI a).toNatClampNeg) = kMade x kd := if_pos rfl
      rw [e]
      exact ⟨rfl, kMade_le x kd⟩
    · rw [if_pos rfl, if_pos rfl]
      by_cases k7 : K j = 7
      · rw [if_pos k7]
        refine ⟨tf_finf (tf_fl _), fun _ => if_pos rfl, fun z => absurd z (by rw [hf]; decide), fun _ => ?_⟩
        rw [tf_d2ff (tf_fl _)]
      · rw [if_neg k7]
        exact ⟨tf_finl _, fun _ => if_pos rfl, fun z => absurd z (by rw [hf]; decide), fun z => absurd z k7⟩
theorem PI_w0 (h : PI n K Ln Wh Re ow lf kf) {j : Nat} {i kd : Int32} {v : Int64} (hc : ¬ cdR K Ln j i kd (K j) = 0) : PI n K Ln (wrW K Ln Wh j i kd v) (wrR K Ln Re j i kd v) ow lf kf := by
  unfold wrW wrR; rw [if_neg hc, if_neg hc]; exact h
theorem PI_x0 (h : PI n K Ln Wh Re ow lf kf) {j : Nat} {i kd : Int32} {v : UInt64} (hc : ¬ cdR K Ln j i kd (K j) = 0) : PI n K Ln Wh (wrX K Ln Re j i kd v) ow lf kf := by
  unfold wrX; rw [if_neg hc]; exact h
/-- a copy -/
theorem PI_cp (h : PI n K Ln Wh Re ow lf kf) {j j2 a m : Nat} (hj : j < n) (hj2 : j2 < n) (hm : m < 2 ^ 31) (ha : a < 2 ^ 31) (hc : cpC K Ln j j2 (nI a) 0 (nI m) = 0) : PI n K Ln (cpW K Ln Wh j j2 (nI a) 0 (nI m)) (cpW K Ln Re j j2 (nI a) 0 (nI m)) (va_cpy ow ow (5 * j + a) (5 * j2) m) lf kf := by
  obtain ⟨ek, -, -, -, g1, g2⟩ := cpC_0 (h.2.1.2.1 j hj).1 (h.2.1.2.1 j hj).2.1 (h.2.1.2.1 j2 hj2).2.1 hc
  have e0 : (0 : Int32).toNatClampNeg = 0 := rfl
  rw [nI_clamp hm, nI_clamp ha] at g1
  rw [nI_clamp hm, e0] at g2
  refine ⟨h.1, tcI_c h.2.1 hj hj2 _ _ _, h.2.2.1, fun j' hj' q' hq' => ?_⟩
  have l1 := (h.2.2.1 j hj).2.2
  have l2 := (h.2.2.1 j2 hj2).2.2
  have l3 := (h.2.2.1 j' hj').2.2
  unfold cpW
  rw [if_pos hc, if_pos hc, nI_clamp hm, nI_clamp ha, e0]
  unfold va_cpy
  by_cases e : j' = j2 ∧ q' < m
  · obtain ⟨rfl, e⟩ := e
    rw [if_pos (by omega), if_pos (by omega), if_pos (by omega)]
    have hk := h.2.2.2 j hj (a + q') (by omega)
    rw [ek] at hk
    rw [show 40 * j + a + (40 * j' + q' - (40 * j' + 0)) = 40 * j + (a + q') from by omega, show 5 * j + a + (5 * j' + q' - 5 * j') = 5 * j + (a + q') from by omega]
    exact hk
  · rw [if_neg (by omega), if_neg (by omega), if_neg (by omega)]
    exact h.2.2.2 j' hj' q' hq'
theorem PI_cp0 (h : PI n K Ln Wh Re ow lf kf) {j j2 : Nat} {fi ti mm : Int32} (hc : ¬ cpC K Ln j j2 fi ti mm = 0) : PI n K Ln (cpW K Ln Wh j j2 fi ti mm) (cpW K Ln Re j j2 fi ti mm) ow lf kf := by
  unfold cpW; rw [if_neg hc, if_neg hc]; exact h
/-- a new column -/
theorem PI_new (h : PI n K Ln Wh Re ow lf kf) (hn : n < 12) {kd : Int32} {N M : Nat} {V : Nat → Int64} {X : Nat → UInt64} {ow' : Nat → UInt64} (hN : N ≤ 5) (hI : tcI (n + 1) (va_up K n kd) (va_up Ln n N) (tc_put n M V 0 Wh) (tc_put n M X 0 Re)) (hw : ∀ j q, j < n → q < 5 → ow' (5 * j + q) = ow (5 * j + q))
    (hc : ∀ q, q < N → cOK kd (if q < M then V q else 0) (if q < M then X q else 0) (ow' (5 * n + q))) : PI (n + 1) (va_up K n kd) (va_up Ln n N) (tc_put n M V 0 Wh) (tc_put n M X 0 Re) ow' (upd lf n (nI N)) (upd kf n kd) := by
  refine ⟨by omega, hI, fun j hj => ?_, fun j hj q hq => ?_⟩
  · by_cases e : j = n
    · subst e
      rw [tcu_at, tcu_at]
      exact ⟨if_pos rfl, if_pos rfl, hN⟩
    · rw [tcu_ne K kd e, tcu_ne Ln N e]
      obtain ⟨h1, h2, h3⟩ := h.2.2.1 j (by omega)
      exact ⟨(if_neg e).trans h1, (if_neg e).trans h2, h3⟩
  · by_cases e : j = n
    · subst e
      rw [tcu_at] at hq ⊢
      rw [tc_put_in (by omega), tc_put_in (by omega)]
      exact hc q hq
    · rw [tcu_ne Ln N e] at hq
      rw [tcu_ne K kd e]
      have l := (h.2.2.1 j (by omega)).2.2
      rw [tc_put_out (by omega) (by omega), tc_put_out (by omega) (by omega), hw j q (by omega) (by omega)]
      exact h.2.2.2 j (by omega) q hq
theorem PI_create (h : PI n K Ln Wh Re (fun _ => 0) lf kf) (hn : n < 12) {kd : Int32} {N : Nat} (hN : N ≤ 5) (hk : kIs kd = true) (hz : kHas kd = false → N = 0) : PI (n + 1) (va_up K n kd) (va_up Ln n N) (tc_put n 0 (fun _ => 0) 0 Wh) (tc_put n 0 (fun _ => 0) 0 Re) (fun _ => 0) (upd lf n (nI N)) (upd kf n kd) := by
  refine PI_new h hn hN (tcI_a h.2.1 (by omega) hk (by omega) hz (fun _ q _ z => absurd z (Nat.not_lt_zero q)) (fun _ q _ z => absurd z (Nat.not_lt_zero q))) (fun _ _ _ _ => rfl) (fun q hq => ?_)
  rw [if_neg (Nat.not_lt_zero q), if_neg (Nat.not_lt_zero q)]
  exact cOK_z kd
/-- the law's table while a widened column is written into it -/
def lWd (n j : Nat) (kd : Int32) (ow : Nat → UInt64) (k : Nat) : Nat → UInt64 := fun x => if 5 * n ≤ x ∧ x < 5 * n + k then (if kd = 7 then FP.f2d (FP.d2f (ow (5 * j + (x - 5 * n)))) else ow (5 * j + (x - 5 * n))) else ow x
theorem lWd_0 (n j : Nat) (kd : Int32) (ow : Nat → UInt64) : lWd n j kd ow 0 = ow := by
  funext x
  unfold lWd
  rw [if_neg (by omega)]
theorem lWd_old {n j i q : Nat} {kd : Int32} {ow : Nat → UInt64} {k : Nat} (hi : i < n) (hq : q < 5) : lWd n j kd ow k (5 * i + q) = ow (5 * i + q) := by
  unfold lWd
  rw [if_neg (by omega)]
theorem lWd_new {n j q : Nat} {kd : Int32} {ow : Nat → UInt64} {k : Nat} (hq : q < k) : lWd n j kd ow k (5 * n + q) = if kd = 7 then FP.f2d (FP.d2f (ow (5 * j + q))) else ow (5 * j + q) := by
  unfold lWd
  rw [if_pos (by omega), show 5 * n + q - 5 * n = q from by omega]
theorem lWd_s (n j : Nat) (kd : Int32) (ow : Nat → UInt64) (k : Nat) {v : UInt64} (hv : v = if kd = 7 then FP.f2d (FP.d2f (ow (5 * j + k))) else ow (5 * j + k)) : vf_upd (lWd n j kd ow k) (5 * n + k) v = lWd n j kd ow (k + 1) := by
  funext x
  unfold vf_upd
  by_cases e : x = 5 * n + k
  · subst e
    rw [if_pos rfl, lWd_new (by omega), hv]
  · rw [if_neg e]
    unfold lWd
    by_cases e2 : 5 * n ≤ x ∧ x < 5 * n + k
    · rw [if_pos e2, if_pos (show 5 * n ≤ x ∧ x < 5 * n + (k + 1) by omega)]
    · rw [if_neg e2, if_neg (show ¬ (5 * n ≤ x ∧ x < 5 * n + (k + 1)) by omega)]
theorem PI_wid (h : PI n K Ln Wh Re ow lf kf) (hn : n < 12) {j : Nat} (hj : j < n) {kd : Int32} (hk : kHas kd = true) (hc : wdC K j kd = 0) : PI (n + 1) (va_up K n kd) (va_up Ln n (Ln j)) (tc_put n (Ln j) (fun i => Wh (40 * j + i)) 0 Wh) (tc_put n (Ln j) (wdV K Wh Re j kd) 0 Re) (lWd n j kd ow (Ln j)) (upd lf n (nI (Ln j))) (upd kf n kd) := by
  obtain ⟨hc0, hc1⟩ := wdC_0 hc
  have l1 := (h.2.2.1 j hj).2.2
  refine PI_new h hn l1 (tcI_wd h.2.1 (by omega) hj hk hc) (fun i q hi hq => lWd_old hi hq) (fun q hq => ?_)
  have ho := h.2.2.2 j hj q hq
  rw [if_pos hq, if_pos hq, lWd_new hq]
  unfold wdV
  cases hf : kFl kd
  · have hfj := kWid_low hc1 hf
    have k7 := (kFl_no hf).1
    simp only [if_neg k7]
    exact ⟨ho.1, fun z => absurd z (by rw [hf]; decide), fun _ => ho.2.2.1 hfj, fun z => absurd z k7⟩
  · rw [if_neg (by decide)]
    cases hfj : kFl (K j)
    · obtain ⟨q1, q2⟩ := ho.2.2.1 hfj
      rw [if_neg (by decide)]
      by_cases k7 : kd = 7
      · rw [if_pos k7, if_pos k7, ← q1, tf_d2fl q2]
        refine ⟨tf_finf (tf_fl _), fun _ => rfl, fun z => absurd z (by rw [hf]; decide), fun _ => ?_⟩
        rw [tf_d2ff (tf_fl _)]
      · rw [if_neg k7, if_neg k7]
        exact ⟨ho.1, fun _ => q1, fun z => absurd z (by rw [hf]; decide), fun z => absurd z k7⟩
    · rw [if_pos rfl]
      by_cases k7 : kd = 7
      · have kj : K j = 7 := by
          simp only [kFl, Bool.or_eq_true, decide_eq_true_eq] at hfj
          rcases hfj with e | e
          · exact e
          · rw [e] at hc1
            have := kWid_8 hc1
            rw [k7] at this
            exact absurd this (by decide)
        rw [if_pos k7, ho.2.2.2 kj]
        exact ⟨ho.1, fun _ => ho.2.1 hfj, fun z => absurd z (by rw [hf]; decide), fun _ => ho.2.2.2 kj⟩
      · rw [if_neg k7]
        exact ⟨ho.1, fun _ => ho.2.1 hfj, fun z => absurd z (by rw [hf]; decide), fun z => absurd z k7⟩
end PIS
end
section
/-! THE LAW: its context, its world, and small facts of its numbers -/
abbrev lY (cI cD : ClassId) (o2 o3 o4 o6 : Nat) (ow : Nat → UInt64) (lf kf cn : Nat → Int32) : va_W := [(o2, .inl (cD, 60, .inr (.inr (.inr (.inl ow))))), (o3, .inl (cI, 12, .inl lf)), (o4, .inl (cI, 12, .inl kf)), (o6, .inl (cI, 6, .inl cn))]
abbrev lT (cI cJ cD cC : ClassId) (h0 h1 h2 h3 h4 o2 o3 o4 o6 : Nat) (ad wd rd : Nat → Nat) (n : Nat) (K : Nat → Int32) (Ln : Nat → Nat) (Wh : Nat → Int64) (Re : Nat → UInt64) (cd : Int32) (ct : Nat → Int32) (ow : Nat → UInt64) (lf kf cn : Nat → Int32) : va_W := tc_T cI cJ cD cC h0 h1 h2 h3 h4 ad wd rd (lY cI cD o2 o3 o4 o6 ow lf kf cn) n K Ln Wh Re cd ct
def LCtx (p : Program) (D : va_G) (A : Nat → Prop) (cI cJ cD cC : ClassId) (s : State) (m : MethodId) (c : Code) (b L : Nat) (xs : Nat → Int32) (adK adV : Nat → Nat) : Prop :=
  p.tables.exec = Jvm.exec ∧ c.code = cL_law ∧ c.maxLocals = 18 ∧ s.vm.findClass RL = some m.cls ∧ (∀ w ∈ wsL_law, w.before #[Value.ref b] s = true) ∧ va_X b L xs s s.heap ∧ b < s.heap.size ∧ ¬ A b ∧ (∀ q, s.heap.size ≤ q → A q) ∧ L ≤ 260 ∧ va_K D vwCl (tcTY cI cJ cD cC) s ∧ tc_E A s ∧ tsE adK adV A s s.heap ∧ tsR adK s
theorem ix5 (j q : Nat) : (5 : Int32) * nI j + nI q = nI (5 * j + q) := by
  show nI 5 * nI j + nI q = _
  rw [pk_mul, nI_add]
theorem kCol_le {k : Int32} (h : kCol k ≤ 0) : kCol k = 0 := by
  rcases kCol_or k with e | e | e
  · exact e
  · rw [e] at h; exact absurd h (by decide)
  · rw [e] at h; exact absurd h (by decide)
theorem kHas_n {k : Int32} (h : kHas k = true) : ∃ j, j < 8 ∧ k = nI (j + 1) := by
  rcases kHas8 h with e | e | e | e | e | e | e | e
  · exact ⟨0, by decide, e⟩
  · exact ⟨1, by decide, e⟩
  · exact ⟨2, by decide, e⟩
  · exact ⟨3, by decide, e⟩
  · exact ⟨4, by decide, e⟩
  · exact ⟨5, by decide, e⟩
  · exact ⟨6, by decide, e⟩
  · exact ⟨7, by decide, e⟩
theorem kHas_ofn : ∀ j, j < 8 → kHas (nI (j + 1)) = true := by decide +kernel
section LCS
variable {K : Nat → Int32} {Ln : Nat → Nat} {j j2 : Nat} {i kd : Int32}
theorem cdR_c (h : ¬ kCol (K j) = 0) : kCol (K j) = cdR K Ln j i kd (K j) := by
  unfold cdR kCell; rw [if_neg h]
theorem cdR_3a (h : kCol (K j) = 0) (h1 : i < 0) : 3 = cdR K Ln j i kd (K j) := by
  unfold cdR kCell; rw [if_pos h, if_pos h1]
theorem cdR_3b (h : kCol (K j) = 0) (hk : kHas (K j) = true) (h1 : ¬ i < 0) (h2 : ¬ i < nI (Ln j)) : 3 = cdR K Ln j i kd (K j) := by
  unfold cdR kCell; rw [if_pos h, if_neg h1, tc_cl_has hk, if_pos (Int32.not_lt.mp h2)]
theorem cdR_w (h : kCol (K j) = 0) (hk : kHas (K j) = true) (h1 : ¬ i < 0) (h2 : i < nI (Ln j)) : cdR K Ln j i kd (K j) = if kWid kd (K j) = true then 0 else 4 := by
  unfold cdR kCell; rw [if_pos h, if_neg h1, tc_cl_has hk, if_neg (fun q => Int32.not_lt.mpr q h2)]
theorem cdR_w0 (h : kCol (K j) = 0) (hk : kHas (K j) = true) (h1 : ¬ i < 0) (h2 : i < nI (Ln j)) (h3 : ¬ tb (kWid kd (K j)) = 0) : 0 = cdR K Ln j i kd (K j) := by
  rw [cdR_w h hk h1 h2, if_pos ((tb_1 _).mp h3)]
theorem cdR_w4 (h : kCol (K j) = 0) (hk : kHas (K j) = true) (h1 : ¬ i < 0) (h2 : i < nI (Ln j)) (h3 : tb (kWid kd (K j)) = 0) : 4 = cdR K Ln j i kd (K j) := by
  rw [cdR_w h hk h1 h2, if_neg (by rw [(tb_0 _).mp h3]; decide)]
theorem cdR_in (a b : Int32) : vp_in (cdR K Ln j i a b) 6 := kCell_in _ _ _ _ _
theorem wdC_c (h : ¬ kCol (K j) = 0) : kCol (K j) = wdC K j kd := by
  unfold wdC; rw [if_neg h]
theorem wdC_w0 (h : kCol (K j) = 0) (h3 : ¬ tb (kWid (K j) kd) = 0) : 0 = wdC K j kd := by
  unfold wdC; rw [if_pos h, if_pos ((tb_1 _).mp h3)]
theorem wdC_w4 (h : kCol (K j) = 0) (h3 : tb (kWid (K j) kd) = 0) : 4 = wdC K j kd := by
  unfold wdC; rw [if_pos h, if_neg (by rw [(tb_0 _).mp h3]; decide)]
theorem lPart {a m N : Nat} (ha : a < 7) (hm : m < 4) (hN : N ≤ 5) : kPart (nI a - 1) (nI m) (nI N) = (!decide (nI a - 1 < 0) && !decide (nI N < nI a - 1 + nI m)) := by
  rcases (show a = 0 ∨ a = 1 ∨ a = 2 ∨ a = 3 ∨ a = 4 ∨ a = 5 ∨ a = 6 by omega) with rfl | rfl | rfl | rfl | rfl | rfl | rfl <;>
  rcases (show m = 0 ∨ m = 1 ∨ m = 2 ∨ m = 3 by omega) with rfl | rfl | rfl | rfl <;>
  rcases (show N = 0 ∨ N = 1 ∨ N = 2 ∨ N = 3 ∨ N = 4 ∨ N = 5 by omega) with rfl | rfl | rfl | rfl | rfl | rfl <;> decide +kernel
theorem lPart0 {m N : Nat} (hm : m < 4) (hN : N ≤ 5) : kPart 0 (nI m) (nI N) = (!decide (nI N < nI m)) := by
  rcases (show m = 0 ∨ m = 1 ∨ m = 2 ∨ m = 3 by omega) with rfl | rfl | rfl | rfl <;>
  rcases (show N = 0 ∨ N = 1 ∨ N = 2 ∨ N = 3 ∨ N = 4 ∨ N = 5 by omega) with rfl | rfl | rfl | rfl | rfl | rfl <;> decide +kernel
theorem cpC_1a {fi ti mm : Int32} (h : K j = 0) : 1 = cpC K Ln j j2 fi ti mm := by
  have e : kKinds (K j) (K j2) = 1 := by unfold kKinds; rw [if_pos h]
  unfold cpC; rw [if_neg (by rw [e]; decide), e]
theorem cpC_1b {fi ti mm : Int32} (h : ¬ K j = 0) (h2 : K j2 = 0) : 1 = cpC K Ln j j2 fi ti mm := by
  have e : kKinds (K j) (K j2) = 1 := by unfold kKinds; rw [if_neg h, if_pos h2]
  unfold cpC; rw [if_neg (by rw [e]; decide), e]
theorem cpC_5a {fi ti mm : Int32} (h : ¬ K j = 0) (h2 : ¬ K j2 = 0) (h3 : ¬ K j = K j2) : 5 = cpC K Ln j j2 fi ti mm := by
  have e : kKinds (K j) (K j2) = 5 := by unfold kKinds; rw [if_neg h, if_neg h2, if_neg h3]
  unfold cpC; rw [if_neg (by rw [e]; decide), e]
theorem cpC_5b {fi ti mm : Int32} (h : ¬ K j = 0) (h2 : ¬ K j2 = 0) (h3 : K j = K j2) (h4 : K j = 9) : 5 = cpC K Ln j j2 fi ti mm := by
  have e : kKinds (K j) (K j2) = 5 := by unfold kKinds; rw [if_neg h, if_neg h2, if_pos h3, if_pos h4]
  unfold cpC; rw [if_neg (by rw [e]; decide), e]
theorem cpC_g {fi ti mm : Int32} (hr : kIs (K j) = true) (h : ¬ K j = 0) (h2 : ¬ K j2 = 0) (h3 : K j = K j2) (h4 : ¬ K j = 9) : cpC K Ln j j2 fi ti mm = if kPart fi mm (nI (Ln j)) = true then (if kPart ti mm (nI (Ln j2)) = true then 0 else 3) else 3 := by
  have e : kKinds (K j) (K j2) = 0 := by unfold kKinds; rw [if_neg h, if_neg h2, if_pos h3, if_neg h4]
  have hh := (kKinds_0 e hr).2
  have hh2 := hh
  rw [h3] at hh2
  unfold cpC; rw [if_pos e, tc_cl_has hh, tc_cl_has hh2]
theorem cpC_3a {a m : Nat} (ha : a < 7) (hm : m < 4) (hN : Ln j ≤ 5) (hr : kIs (K j) = true) (h : ¬ K j = 0) (h2 : ¬ K j2 = 0) (h3 : K j = K j2) (h4 : ¬ K j = 9) (h5 : nI a - 1 < 0) : 3 = cpC K Ln j j2 (nI a - 1) 0 (nI m) := by
  rw [cpC_g hr h h2 h3 h4, if_neg]
  rw [lPart ha hm hN, decide_eq_true h5]
  simp
theorem cpC_3b {a m : Nat} (ha : a < 7) (hm : m < 4) (hN : Ln j ≤ 5) (hr : kIs (K j) = true) (h : ¬ K j = 0) (h2 : ¬ K j2 = 0) (h3 : K j = K j2) (h4 : ¬ K j = 9) (h5 : nI (Ln j) < nI a - 1 + nI m) : 3 = cpC K Ln j j2 (nI a - 1) 0 (nI m) := by
  rw [cpC_g hr h h2 h3 h4, if_neg]
  rw [lPart ha hm hN, decide_eq_true h5]
  simp
theorem cpC_3c {a m : Nat} (hm : m < 4) (hN : Ln j2 ≤ 5) (hr : kIs (K j) = true) (h : ¬ K j = 0) (h2 : ¬ K j2 = 0) (h3 : K j = K j2) (h4 : ¬ K j = 9) (h5 : ¬ nI m ≤ nI (Ln j2)) : 3 = cpC K Ln j j2 (nI a - 1) 0 (nI m) := by
  have e : kPart 0 (nI m) (nI (Ln j2)) = false := by
    rw [lPart0 hm hN, decide_eq_true (Int32.not_le.mp h5)]
    rfl
  rw [cpC_g hr h h2 h3 h4, e]
  split <;> rfl
theorem cpC_00 {a m : Nat} (ha : a < 7) (hm : m < 4) (hN : Ln j ≤ 5) (hN2 : Ln j2 ≤ 5) (hr : kIs (K j) = true) (h : ¬ K j = 0) (h2 : ¬ K j2 = 0) (h3 : K j = K j2) (h4 : ¬ K j = 9) (h5 : ¬ nI a - 1 < 0) (h6 : ¬ nI (Ln j) < nI a - 1 + nI m) (h7 : nI m ≤ nI (Ln j2)) : 0 = cpC K Ln j j2 (nI a - 1) 0 (nI m) := by
  have e : kPart 0 (nI m) (nI (Ln j2)) = true := by
    rw [lPart0 hm hN2, decide_eq_false (Int32.not_lt.mpr h7)]
    rfl
  rw [cpC_g hr h h2 h3 h4, if_pos, if_pos e]
  rw [lPart ha hm hN, decide_eq_false h5, decide_eq_false h6]
  rfl
theorem cpC_a {a m : Nat} (ha : a < 7) (hm : m < 4) (hr : kIs (K j) = true) (hN : Ln j ≤ 5) (hN2 : Ln j2 ≤ 5) (h : cpC K Ln j j2 (nI a - 1) 0 (nI m) = 0) : ∃ a', a = a' + 1 ∧ a' + m ≤ Ln j ∧ m ≤ Ln j2 := by
  obtain ⟨-, -, g1, -, g2, g3⟩ := cpC_0 hr (by omega) (by omega) h
  have g4 := (kPart_spec g1 (by omega)).1
  rcases Nat.eq_zero_or_pos a with e | e
  · subst e
    exact absurd (show nI 0 - 1 < 0 by decide) g4
  · have e2 : nI a - 1 = nI (a - 1) := pk_sub (b := 1) e
    rw [e2, nI_clamp (by omega), nI_clamp (by omega)] at g2
    have e0 : (0 : Int32).toNatClampNeg = 0 := rfl
    rw [e0, nI_clamp (by omega)] at g3
    exact ⟨a - 1, by omega, g2, by omega⟩
end LCS
theorem va_cpy_0 {α : Type} (f : Nat → α) (a b : Nat) : va_cpy f f a b 0 = f := by
  funext x
  unfold va_cpy
  rw [if_neg (by omega)]
theorem va_cpy_s {α : Type} (f : Nat → α) (a b k : Nat) : vf_upd (va_cpy f f a b k) (b + k) (f (a + k)) = va_cpy f f a b (k + 1) := by
  funext x
  unfold vf_upd va_cpy
  by_cases e : x = b + k
  · subst e
    rw [if_pos rfl, if_pos (by omega), show a + (b + k - b) = a + k from by omega]
  · rw [if_neg e]
    by_cases e2 : b ≤ x ∧ x < b + k
    · rw [if_pos e2, if_pos (show b ≤ x ∧ x < b + (k + 1) by omega)]
    · rw [if_neg e2, if_neg (show ¬ (b ≤ x ∧ x < b + (k + 1)) by omega)]
theorem lXgo {b L : Nat} {xs : Nat → Int32} {A : Nat → Prop} {s : State} {H : Heap} {locs : List Loc} {av : List Value} (hX : va_X b L xs s s.heap) (hbl : b < s.heap.size) (hbA : ¬ A b) (hS : va_S A s.heap H locs) : ∀ U : State, U.heap = H → s.WarmedH U.vm → va_Pc av (fun U => va_X b L xs U U.heap) av.toArray U := by
  intro U hU hW
  subst hU
  exact ⟨rfl, va_X.moved hW.alike (hX.kept (hS.2.1 b hbl hbA))⟩
theorem lXblind {b L : Nat} {xs : Nat → Int32} {av : List Value} : FrameBlind (va_Pc av (fun U => va_X b L xs U U.heap)) := fun _ U _ _ q => ⟨q.1, va_X.moved (u := U) (Vm.Alike.refl U.vm) q.2⟩
theorem PI_wf' {n : Nat} {K : Nat → Int32} {Ln : Nat → Nat} {Wh : Nat → Int64} {Re : Nat → UInt64} {ow : Nat → UInt64} {lf kf : Nat → Int32} {kd : Int32} (h7 : kd = 7) (h : PI n K Ln Wh Re ow lf kf) {j a : Nat} (hj : j < n) {x : Int32} (hc : cdR K Ln j (nI a) kd (K j) = 0) : PI n K Ln Wh (wrX K Ln Re j (nI a) kd (FP.f2d (FP.i2f x))) (vf_upd ow (5 * j + (nI a).toNatClampNeg) (lVal (K j) x kd)) lf kf := by
  subst h7
  exact PI_wf h hj hc
theorem PI_wd' {n : Nat} {K : Nat → Int32} {Ln : Nat → Nat} {Wh : Nat → Int64} {Re : Nat → UInt64} {ow : Nat → UInt64} {lf kf : Nat → Int32} {kd : Int32} (h8 : kd = 8) (h : PI n K Ln Wh Re ow lf kf) {j a : Nat} (hj : j < n) {x : Int32} (hc : cdR K Ln j (nI a) kd (K j) = 0) : PI n K Ln Wh (wrX K Ln Re j (nI a) kd (FP.i2d x)) (vf_upd ow (5 * j + (nI a).toNatClampNeg) (lVal (K j) x kd)) lf kf := by
  subst h8
  exact PI_wd h hj hc
/-- the law's fourth array comes behind the columns, and is put ahead of them -/
theorem tc_perm {D : va_G} {A : Nat → Prop} {X Y F : va_W} {z : Nat × va_E} {H : Heap} (hP : va_P D vwCl ((X ++ (Y ++ F)) ++ [z]) H) (hD : va_D A ((X ++ (Y ++ F)) ++ [z])) : va_P D vwCl (X ++ ((Y ++ [z]) ++ F)) H ∧ va_D A (X ++ ((Y ++ [z]) ++ F)) := by
  have e1 : (X ++ (Y ++ F)) ++ [z] = ((X ++ Y) ++ F) ++ [z] := by rw [List.append_assoc X Y F]
  have e2 : X ++ ((Y ++ [z]) ++ F) = ((X ++ Y) ++ [z]) ++ F := by simp [List.append_assoc]
  rw [e1] at hP hD
  rw [e2]
  exact ⟨hP.swap, hD.swap⟩
end
section
/-! THE LAW: after each step every cell is read, each column added up, each count asked -/
set_option maxHeartbeats 4000000 in
set_option maxRecDepth 100000 in
theorem law_rd {p : Program} {l : Launch} {e : Env} {s : State} {m : MethodId} {below : List Frame} {meth : Method} {c : Code} {D : va_G} {A : Nat → Prop} {cI cJ cD cC : ClassId} {h0 h1 h2 h3 h4 o2 o3 o4 o6 : Nat} {b L : Nat} {xs : Nat → Int32} {adK adV : Nat → Nat} {Q : State → Prop} (C0 : LCtx p D A cI cJ cD cC s m c b L xs adK adV) {ad wd rd : Nat → Nat} {n : Nat} {K : Nat → Int32} {Ln : Nat → Nat} {Wh : Nat → Int64} {Re : Nat → UInt64} {ow : Nat → UInt64} {lf kf : Nat → Int32} {q k : Nat} (hq : q < n) (hI : PI n K Ln Wh Re ow lf kf) {ce sl : Nat} (hce : ce + 3 ≤ 600086) (hsl : sl + 44 ≤ 7301442) (kc : ∀ (cd : Int32) (ct : Nat → Int32) (H : Heap) (locs : List Loc) (ls : Array Slot), va_P D vwCl (lT cI cJ cD cC h0 h1 h2 h3 h4 o2 o3 o4 o6 ad wd rd n K Ln Wh Re cd ct ow lf kf ct) H → va_D A (lT cI cJ cD cC h0 h1 h2 h3 h4 o2 o3 o4 o6 ad wd rd n K Ln Wh Re cd ct ow lf kf ct) → va_S A s.heap H locs → lv_has ls 18 [(15, .double (lsum (fun t8 => ow (5 * q + t8)) (Ln q))), (14, .int (nI q)), (7, .int (nI k)), (6, .ref o6), (5, .int (nI n)), (4, .ref o4), (3, .ref o3), (2, .ref o2), (1, .ref h0), (0, .ref b)] → W p l e room_1 s m #[Value.ref b] below meth c H locs ce sl Q (F0 m 745 ls [])) {cd : Int32} {ct : Nat → Int32} {H : Heap} {locs : List Loc} {ls : Array Slot} (hP : va_P D vwCl (lT cI cJ cD cC h0 h1 h2 h3 h4 o2 o3 o4 o6 ad wd rd n K Ln Wh Re cd ct ow lf kf ct) H) (hD : va_D A (lT cI cJ cD cC h0 h1 h2 h3 h4 o2 o3 o4 o6 ad wd rd n K Ln Wh Re cd ct ow lf kf ct)) (hS : va_S A s.heap H locs) (hl : lv_has ls 18 [(17, .int (nI 0)), (15, .double (lsum (fun t8 => ow (5 * q + t8)) 0)), (14, .int (nI q)), (7, .int (nI k)), (6, .ref o6), (5, .int (nI n)), (4, .ref o4), (3, .ref o3), (2, .ref o2), (1, .ref h0), (0, .ref b)]) : W p l e room_1 s m #[Value.ref b] below meth c H locs ce sl Q (F0 m 685 ls []) := by
  obtain ⟨hx, hb, hml, hown, hts, hX, hbl, hbA, hA, hL, hK, hE, hT, hTR⟩ := C0
  have hn12 := hI.1
  have hL5 := (hI.2.2.1 q hq).2.2
  refine tc_loop (fun r9 H locs ls => ∃ (i : Nat) (cd : Int32) (ct : Nat → Int32), i + r9 = Ln q ∧ va_P D vwCl (lT cI cJ cD cC h0 h1 h2 h3 h4 o2 o3 o4 o6 ad wd rd n K Ln Wh Re cd ct ow lf kf ct) H ∧ va_D A (lT cI cJ cD cC h0 h1 h2 h3 h4 o2 o3 o4 o6 ad wd rd n K Ln Wh Re cd ct ow lf kf ct) ∧ va_S A s.heap H locs ∧ lv_has ls 18 [(17, .int (nI i)), (15, .double (lsum (fun t8 => ow (5 * q + t8)) i)), (14, .int (nI q)), (7, .int (nI k)), (6, .ref o6), (5, .int (nI n)), (4, .ref o4), (3, .ref o3), (2, .ref o2), (1, .ref h0), (0, .ref b)]) (fun r9 H locs ls hv ih => ?_) (fun H locs ls hv => ?_) (Ln q) ⟨0, cd, ct, by omega, hP, hD, hS, hl⟩
  · obtain ⟨i, cd, ct, hi, hP, hD, hS, hl⟩ := hv
    have hiq : i < Ln q := by omega
    refine lv_iload hx hb dL_law_685 (lv_at hl 0 rfl) ?_
    refine lv_aload_n hx hb dL_law_687 rfl (lv_at hl 7 rfl) ?_
    refine lv_iload hx hb dL_law_688 (lv_at hl 2 rfl) ?_
    refine tc_iald (f := lf) (v := (nI (Ln q))) hx hb hK hP 6 0 rfl rfl (vp_in_nI (show q < 12 by omega) (by decide)) (PI_lf hI hq) dL_law_690 ?_
    refine lv_icmp_ge (tgt := 745) hx hb dL_law_691 (by decide) (fun q => absurd q (nI_ge hiq (by omega))) (fun _ => ?_)
    refine lv_aload_n hx hb dL_law_694 rfl (lv_at hl 9 rfl) ?_
    refine lv_iload hx hb dL_law_695 (lv_at hl 2 rfl) ?_
    refine lv_iload hx hb dL_law_697 (lv_at hl 0 rfl) ?_
    refine va_calld (va_runV (As := [.int (nI q), .int (nI i)]) (rest := []) ⟨hx, hb, hml, hown, hts⟩ (tX2_readAny l D A cI cJ cD cC h0 h1 h2 h3 h4 ad wd rd (lY cI cD o2 o3 o4 o6 ow lf kf ct) n K Ln Wh Re cd ct H.size hI.2.1 q hq (nI i)) (cwV 2 hts gL_law_X2_readAny rfl rfl rfl (by decide +kernel) ⟨Nat.le_of_ble_eq_true rfl, Nat.le_of_ble_eq_true rfl⟩) ⟨tcP.blind, va_recv hK hP (ci := 2) (q0 := 0) rfl rfl, tcP.go hK hP hD hE hS⟩ rfl rfl hl.1 rfl (lv_room (Nat.le_of_ble_eq_true rfl)) dL_law_699 ⟨by show _ ≤ 600086; omega, by show _ ≤ 7301442; omega⟩) hS (fun q _ h => h) (fun q h => h) (fun r9 u9 t9 H locs ht9 hvm9 hw9 hB9 hz9 hk9 hS => ?_)
    obtain ⟨hP, hD⟩ := hB9
    rw [ht9] at hP
    obtain ⟨g1, g2, g3⟩ := PI_rd hI hq hiq
    obtain rfl : r9 = ow (5 * q + i) := hw9.trans g2
    rw [g1] at hP hD
    refine lv_aload_n hx hb dL_law_702 rfl (lv_at hl 8 rfl) ?_
    refine lv_iconst (v := 5) hx hb dL_law_703 (by decide) ?_
    refine lv_iload hx hb dL_law_704 (lv_at hl 2 rfl) ?_
    refine lv_imul hx hb dL_law_706 ?_
    refine lv_iload hx hb dL_law_707 (lv_at hl 0 rfl) ?_
    refine lv_iadd hx hb dL_law_709 ?_
    refine lv_topi (fun x9 e9 => ?_)
    obtain rfl : x9 = nI (5 * q + i) := by rw [e9]; exact ix5 q i
    refine tc_dald (f := ow) (v := (ow (5 * q + i))) hx hb hK hP 5 2 rfl rfl (vp_in_nI (show 5 * q + i < 60 by omega) (by decide)) (by rw [nI_clamp (by omega)]) dL_law_710 ?_
    refine lv_dcmp hx hb dL_law_711 ?_
    refine lv_if_eq (tgt := 717) hx hb dL_law_712 (by decide) (fun _ => ?_) (fun q => absurd ((tf_cl0 _).mpr (tf_dcmp_self _ g3)) q)
    refine lv_aload hx hb dL_law_717 (lv_at hl 4 rfl) ?_
    refine lv_iconst (v := 0) hx hb dL_law_719 (by decide) ?_
    refine lv_dup2_11 hx hb dL_law_720 rfl rfl ?_
    refine tc_iald (f := ct) (v := (ct (0 : Int32).toNatClampNeg)) hx hb hK hP 8 0 rfl rfl (by unfold vp_in; decide) (rfl) dL_law_721 ?_
    refine lv_iconst (v := 1) hx hb dL_law_722 (by decide) ?_
    refine lv_iadd hx hb dL_law_723 ?_
    refine va_iast (f := ct) hx hb hK hP hD hS 8 0 rfl rfl (by unfold vp_in; decide) dL_law_724 (fun H locs hP hD hS => ?_)
    have hP : va_P D vwCl (lT cI cJ cD cC h0 h1 h2 h3 h4 o2 o3 o4 o6 ad wd rd n K Ln Wh Re 0 (noteC ct 0) ow lf kf (noteC ct 0)) H := hP
    have hD : va_D A (lT cI cJ cD cC h0 h1 h2 h3 h4 o2 o3 o4 o6 ad wd rd n K Ln Wh Re 0 (noteC ct 0) ow lf kf (noteC ct 0)) := hD
    refine lv_dload hx hb dL_law_725 (lv_at hl 1 rfl) ?_
    refine lv_aload_n hx hb dL_law_727 rfl (lv_at hl 8 rfl) ?_
    refine lv_iconst (v := 5) hx hb dL_law_728 (by decide) ?_
    refine lv_iload hx hb dL_law_729 (lv_at hl 2 rfl) ?_
    refine lv_imul hx hb dL_law_731 ?_
    refine lv_iload hx hb dL_law_732 (lv_at hl 0 rfl) ?_
    refine lv_iadd hx hb dL_law_734 ?_
    refine lv_topi (fun x9 e9 => ?_)
    obtain rfl : x9 = nI (5 * q + i) := by rw [e9]; exact ix5 q i
    refine tc_dald (f := ow) (v := (ow (5 * q + i))) hx hb hK hP 5 2 rfl rfl (vp_in_nI (show 5 * q + i < 60 by omega) (by decide)) (by rw [nI_clamp (by omega)]) dL_law_735 ?_
    refine lv_dadd hx hb dL_law_736 ((tf_n64 _).mpr (PI_totn hI hq (k := i + 1) (by omega))) ?_
    refine lv_dstore (lv' := [(15, .double (FP.dadd (lsum (fun t8 => ow (5 * q + t8)) i) (ow (5 * q + i)))), (17, .int (nI i)), (14, .int (nI q)), (7, .int (nI k)), (6, .ref o6), (5, .int (nI n)), (4, .ref o4), (3, .ref o3), (2, .ref o2), (1, .ref h0), (0, .ref b)]) hx hb dL_law_737 hl (by decide) rfl (fun ls hl => ?_)
    refine lv_iinc (v := (nI (i + 1))) (lv' := [(17, .int (nI (i + 1))), (15, .double (FP.dadd (lsum (fun t8 => ow (5 * q + t8)) i) (ow (5 * q + i)))), (14, .int (nI q)), (7, .int (nI k)), (6, .ref o6), (5, .int (nI n)), (4, .ref o4), (3, .ref o3), (2, .ref o2), (1, .ref h0), (0, .ref b)]) hx hb dL_law_739 hl (k := 1) rfl (by rw [nI_succ]; rfl) (by decide) rfl (fun ls hl => ?_)
    refine lv_goto (tgt := 685) hx hb dL_law_742 (by decide) ?_
    exact ih _ _ _ ⟨i + 1, _, _, by omega, hP, hD, hS, lv_sub hl [0, 1, 2, 3, 4, 5, 6, 7, 8, 9, 10] rfl⟩
  · obtain ⟨i, cd, ct, hi, hP, hD, hS, hl⟩ := hv
    obtain rfl : i = Ln q := by omega
    refine lv_iload hx hb dL_law_685 (lv_at hl 0 rfl) ?_
    refine lv_aload_n hx hb dL_law_687 rfl (lv_at hl 7 rfl) ?_
    refine lv_iload hx hb dL_law_688 (lv_at hl 2 rfl) ?_
    refine tc_iald (f := lf) (v := (nI (Ln q))) hx hb hK hP 6 0 rfl rfl (vp_in_nI (show q < 12 by omega) (by decide)) (PI_lf hI hq) dL_law_690 ?_
    refine lv_icmp_ge (tgt := 745) hx hb dL_law_691 (by decide) (fun _ => ?_) (fun q => absurd (nI_le (Nat.le_refl _) (by omega)) q)
    exact kc _ _ _ _ _ hP hD hS (lv_sub hl [1, 2, 3, 4, 5, 6, 7, 8, 9, 10] rfl)
theorem kCol_1 {k : Int32} (h : k = 0) : kCol k = 1 := if_pos h
theorem kCol_2 {k : Int32} (h : ¬ k = 0) (h2 : k = 9) : kCol k = 2 := by unfold kCol; rw [if_neg h, if_pos h2]
theorem kCol_0 {k : Int32} (h : ¬ k = 0) (h2 : ¬ k = 9) : kCol k = 0 := by unfold kCol; rw [if_neg h, if_neg h2]
set_option maxHeartbeats 4000000 in
set_option maxRecDepth 100000 in
theorem law_cols {p : Program} {l : Launch} {e : Env} {s : State} {m : MethodId} {below : List Frame} {meth : Method} {c : Code} {D : va_G} {A : Nat → Prop} {cI cJ cD cC : ClassId} {h0 h1 h2 h3 h4 o2 o3 o4 o6 : Nat} {b L : Nat} {xs : Nat → Int32} {adK adV : Nat → Nat} {Q : State → Prop} (C0 : LCtx p D A cI cJ cD cC s m c b L xs adK adV) {ad wd rd : Nat → Nat} {n : Nat} {K : Nat → Int32} {Ln : Nat → Nat} {Wh : Nat → Int64} {Re : Nat → UInt64} {ow : Nat → UInt64} {lf kf : Nat → Int32} {k : Nat} (hI : PI n K Ln Wh Re ow lf kf) {ce sl : Nat} (hce : ce + 3 ≤ 600086) (hsl : sl + 44 ≤ 7301442) (kc : ∀ (cd : Int32) (ct : Nat → Int32) (H : Heap) (locs : List Loc) (ls : Array Slot), va_P D vwCl (lT cI cJ cD cC h0 h1 h2 h3 h4 o2 o3 o4 o6 ad wd rd n K Ln Wh Re cd ct ow lf kf ct) H → va_D A (lT cI cJ cD cC h0 h1 h2 h3 h4 o2 o3 o4 o6 ad wd rd n K Ln Wh Re cd ct ow lf kf ct) → va_S A s.heap H locs → lv_has ls 18 [(7, .int (nI k)), (6, .ref o6), (5, .int (nI n)), (4, .ref o4), (3, .ref o3), (2, .ref o2), (1, .ref h0), (0, .ref b)] → W p l e room_1 s m #[Value.ref b] below meth c H locs ce sl Q (F0 m 799 ls [])) {cd : Int32} {ct : Nat → Int32} {H : Heap} {locs : List Loc} {ls : Array Slot} (hP : va_P D vwCl (lT cI cJ cD cC h0 h1 h2 h3 h4 o2 o3 o4 o6 ad wd rd n K Ln Wh Re cd ct ow lf kf ct) H) (hD : va_D A (lT cI cJ cD cC h0 h1 h2 h3 h4 o2 o3 o4 o6 ad wd rd n K Ln Wh Re cd ct ow lf kf ct)) (hS : va_S A s.heap H locs) (hl : lv_has ls 18 [(14, .int (nI 0)), (7, .int (nI k)), (6, .ref o6), (5, .int (nI n)), (4, .ref o4), (3, .ref o3), (2, .ref o2), (1, .ref h0), (0, .ref b)]) : W p l e room_1 s m #[Value.ref b] below meth c H locs ce sl Q (F0 m 672 ls []) := by
  have C1 := C0
  obtain ⟨hx, hb, hml, hown, hts, hX, hbl, hbA, hA, hL, hK, hE, hT, hTR⟩ := C0
  have hn12 := hI.1
  refine tc_loop (fun r9 H locs ls => ∃ (q : Nat) (cd : Int32) (ct : Nat → Int32), q + r9 = n ∧ va_P D vwCl (lT cI cJ cD cC h0 h1 h2 h3 h4 o2 o3 o4 o6 ad wd rd n K Ln Wh Re cd ct ow lf kf ct) H ∧ va_D A (lT cI cJ cD cC h0 h1 h2 h3 h4 o2 o3 o4 o6 ad wd rd n K Ln Wh Re cd ct ow lf kf ct) ∧ va_S A s.heap H locs ∧ lv_has ls 18 [(14, .int (nI q)), (7, .int (nI k)), (6, .ref o6), (5, .int (nI n)), (4, .ref o4), (3, .ref o3), (2, .ref o2), (1, .ref h0), (0, .ref b)]) (fun r9 H locs ls hv ih => ?_) (fun H locs ls hv => ?_) n ⟨0, cd, ct, by omega, hP, hD, hS, hl⟩
  · obtain ⟨q, cd, ct, hqn, hP, hD, hS, hl⟩ := hv
    have hq : q < n := by omega
    refine lv_iload hx hb dL_law_672 (lv_at hl 0 rfl) ?_
    refine lv_iload hx hb dL_law_674 (lv_at hl 3 rfl) ?_
    refine lv_icmp_ge (tgt := 799) hx hb dL_law_676 (by decide) (fun q => absurd q (nI_ge hq (by omega))) (fun _ => ?_)
    refine lv_dconst0 hx hb dL_law_679 ?_
    refine lv_dstore (lv' := [(15, .double FP.dconst0), (14, .int (nI q)), (7, .int (nI k)), (6, .ref o6), (5, .int (nI n)), (4, .ref o4), (3, .ref o3), (2, .ref o2), (1, .ref h0), (0, .ref b)]) hx hb dL_law_680 hl (by decide) rfl (fun ls hl => ?_)
    refine lv_iconst (v := 0) hx hb dL_law_682 (by decide) ?_
    refine lv_istore (lv' := [(17, .int 0), (15, .double FP.dconst0), (14, .int (nI q)), (7, .int (nI k)), (6, .ref o6), (5, .int (nI n)), (4, .ref o4), (3, .ref o3), (2, .ref o2), (1, .ref h0), (0, .ref b)]) hx hb dL_law_683 hl (by decide) rfl (fun ls hl => ?_)
    refine law_rd C1 hq hI hce hsl (fun cd ct H locs ls hP hD hS hl => ?_) hP hD hS (lv_sub hl [0, 1, 2, 3, 4, 5, 6, 7, 8, 9, 10] rfl)
    refine lv_aload_n hx hb dL_law_745 rfl (lv_at hl 8 rfl) ?_
    refine lv_iload hx hb dL_law_746 (lv_at hl 1 rfl) ?_
    refine va_calld (va_runV (As := [.int (nI q)]) (rest := []) ⟨hx, hb, hml, hown, hts⟩ (tX2_total l D A cI cJ cD cC h0 h1 h2 h3 h4 ad wd rd (lY cI cD o2 o3 o4 o6 ow lf kf ct) n K Ln Wh Re cd ct H.size hI.2.1 q hq) (cwV 1 hts gL_law_X2_total rfl rfl rfl (by decide +kernel) ⟨Nat.le_of_ble_eq_true rfl, Nat.le_of_ble_eq_true rfl⟩) ⟨tcP.blind, va_recv hK hP (ci := 2) (q0 := 0) rfl rfl, tcP.go hK hP hD hE hS⟩ rfl rfl hl.1 rfl (lv_room (Nat.le_of_ble_eq_true rfl)) dL_law_748 ⟨by show _ ≤ 600086; omega, by show _ ≤ 7301442; omega⟩) hS (fun q _ h => h) (fun q h => h) (fun r9 u9 t9 H locs ht9 hvm9 hw9 hB9 hz9 hk9 hS => ?_)
    obtain ⟨hP, hD⟩ := hB9
    rw [ht9] at hP
    obtain rfl : r9 = lsum (fun t8 => ow (5 * q + t8)) (Ln q) := hw9.trans (PI_tot hI hq)
    refine lv_dload hx hb dL_law_751 (lv_at hl 0 rfl) ?_
    refine lv_dcmp hx hb dL_law_753 ?_
    refine lv_if_eq (tgt := 759) hx hb dL_law_754 (by decide) (fun _ => ?_) (fun q => absurd ((tf_cl0 _).mpr (tf_dcmp_self _ (PI_totn hI hq (Nat.le_refl _)))) q)
    refine tc_join 788 (fun ls st => ∃ v8, v8 = kCol (K q) ∧ st = [.int v8, .ref o6] ∧ lv_has ls 18 [(15, .double (lsum (fun t8 => ow (5 * q + t8)) (Ln q))), (14, .int (nI q)), (7, .int (nI k)), (6, .ref o6), (5, .int (nI n)), (4, .ref o4), (3, .ref o3), (2, .ref o2), (1, .ref h0), (0, .ref b)]) (fun ls st hj => ?_) (fun k788 => ?_)
    · obtain ⟨v8, rfl, rfl, hl⟩ := hj
      refine lv_dup2_11 hx hb dL_law_788 rfl rfl ?_
      refine tc_iald (f := ct) (v := (ct (kCol (K q)).toNatClampNeg)) hx hb hK hP 8 0 rfl rfl (kCol_in (K q)) (rfl) dL_law_789 ?_
      refine lv_iconst (v := 1) hx hb dL_law_790 (by decide) ?_
      refine lv_iadd hx hb dL_law_791 ?_
      refine va_iast (f := ct) hx hb hK hP hD hS 8 0 rfl rfl (kCol_in (K q)) dL_law_792 (fun H locs hP hD hS => ?_)
      have hP : va_P D vwCl (lT cI cJ cD cC h0 h1 h2 h3 h4 o2 o3 o4 o6 ad wd rd n K Ln Wh Re (kCol (K q)) (noteC ct (kCol (K q))) ow lf kf (noteC ct (kCol (K q)))) H := hP
      have hD : va_D A (lT cI cJ cD cC h0 h1 h2 h3 h4 o2 o3 o4 o6 ad wd rd n K Ln Wh Re (kCol (K q)) (noteC ct (kCol (K q))) ow lf kf (noteC ct (kCol (K q)))) := hD
      refine lv_iinc (v := (nI (q + 1))) (lv' := [(14, .int (nI (q + 1))), (15, .double (lsum (fun t8 => ow (5 * q + t8)) (Ln q))), (7, .int (nI k)), (6, .ref o6), (5, .int (nI n)), (4, .ref o4), (3, .ref o3), (2, .ref o2), (1, .ref h0), (0, .ref b)]) hx hb dL_law_793 hl (k := 1) rfl (by rw [nI_succ]; rfl) (by decide) rfl (fun ls hl => ?_)
      refine lv_goto (tgt := 672) hx hb dL_law_796 (by decide) ?_
      exact ih _ _ _ ⟨q + 1, _, _, by omega, hP, hD, hS, lv_sub hl [0, 2, 3, 4, 5, 6, 7, 8, 9] rfl⟩
    · refine lv_aload hx hb dL_law_759 (lv_at hl 3 rfl) ?_
      refine lv_aload hx hb dL_law_761 (lv_at hl 5 rfl) ?_
      refine lv_iload hx hb dL_law_763 (lv_at hl 1 rfl) ?_
      refine tc_iald (f := kf) (v := (K q)) hx hb hK hP 7 0 rfl rfl (vp_in_nI (show q < 12 by omega) (by decide)) (PI_kf hI hq) dL_law_765 ?_
      refine lv_if_ne (tgt := 773) hx hb dL_law_766 (by decide) (fun c_3 => ?_) (fun c_3 => ?_)
      · refine lv_aload hx hb dL_law_773 (lv_at hl 5 rfl) ?_
        refine lv_iload hx hb dL_law_775 (lv_at hl 1 rfl) ?_
        refine tc_iald (f := kf) (v := (K q)) hx hb hK hP 7 0 rfl rfl (vp_in_nI (show q < 12 by omega) (by decide)) (PI_kf hI hq) dL_law_777 ?_
        refine lv_bipush (v := 9) hx hb dL_law_778 (by decide) ?_
        refine lv_icmp_ne (tgt := 787) hx hb dL_law_780 (by decide) (fun c_4 => ?_) (fun c_4 => ?_)
        · refine lv_iconst (v := 0) hx hb dL_law_787 (by decide) ?_
          exact k788 _ _ ⟨0, (kCol_0 c_3 c_4).symm, rfl, hl⟩
        · refine lv_iconst (v := 2) hx hb dL_law_783 (by decide) ?_
          refine lv_goto (tgt := 788) hx hb dL_law_784 (by decide) ?_
          exact k788 _ _ ⟨2, (kCol_2 c_3 c_4).symm, rfl, hl⟩
      · refine lv_iconst (v := 1) hx hb dL_law_769 (by decide) ?_
        refine lv_goto (tgt := 788) hx hb dL_law_770 (by decide) ?_
        exact k788 _ _ ⟨1, (kCol_1 c_3).symm, rfl, hl⟩
  · obtain ⟨q, cd, ct, hqn, hP, hD, hS, hl⟩ := hv
    obtain rfl : q = n := by omega
    refine lv_iload hx hb dL_law_672 (lv_at hl 0 rfl) ?_
    refine lv_iload hx hb dL_law_674 (lv_at hl 3 rfl) ?_
    refine lv_icmp_ge (tgt := 799) hx hb dL_law_676 (by decide) (fun _ => ?_) (fun q => absurd (nI_le (Nat.le_refl _) (by omega)) q)
    exact kc _ _ _ _ _ hP hD hS (lv_sub hl [1, 2, 3, 4, 5, 6, 7, 8] rfl)
set_option maxHeartbeats 4000000 in
set_option maxRecDepth 100000 in
theorem law_cnt {p : Program} {l : Launch} {e : Env} {s : State} {m : MethodId} {below : List Frame} {meth : Method} {c : Code} {D : va_G} {A : Nat → Prop} {cI cJ cD cC : ClassId} {h0 h1 h2 h3 h4 o2 o3 o4 o6 : Nat} {b L : Nat} {xs : Nat → Int32} {adK adV : Nat → Nat} {Q : State → Prop} (C0 : LCtx p D A cI cJ cD cC s m c b L xs adK adV) {ad wd rd : Nat → Nat} {n : Nat} {K : Nat → Int32} {Ln : Nat → Nat} {Wh : Nat → Int64} {Re : Nat → UInt64} {ow : Nat → UInt64} {lf kf : Nat → Int32} {k : Nat} (hI : PI n K Ln Wh Re ow lf kf) {ce sl : Nat} (hce : ce + 3 ≤ 600086) (hsl : sl + 44 ≤ 7301442) {cd : Int32} {ct : Nat → Int32} (kc : ∀ (H : Heap) (locs : List Loc) (ls : Array Slot), va_P D vwCl (lT cI cJ cD cC h0 h1 h2 h3 h4 o2 o3 o4 o6 ad wd rd n K Ln Wh Re cd ct ow lf kf ct) H → va_D A (lT cI cJ cD cC h0 h1 h2 h3 h4 o2 o3 o4 o6 ad wd rd n K Ln Wh Re cd ct ow lf kf ct) → va_S A s.heap H locs → lv_has ls 18 [(7, .int (nI k)), (6, .ref o6), (5, .int (nI n)), (4, .ref o4), (3, .ref o3), (2, .ref o2), (1, .ref h0), (0, .ref b)] → W p l e room_1 s m #[Value.ref b] below meth c H locs ce sl Q (F0 m 831 ls [])) {H : Heap} {locs : List Loc} {ls : Array Slot} (hP : va_P D vwCl (lT cI cJ cD cC h0 h1 h2 h3 h4 o2 o3 o4 o6 ad wd rd n K Ln Wh Re cd ct ow lf kf ct) H) (hD : va_D A (lT cI cJ cD cC h0 h1 h2 h3 h4 o2 o3 o4 o6 ad wd rd n K Ln Wh Re cd ct ow lf kf ct)) (hS : va_S A s.heap H locs) (hl : lv_has ls 18 [(14, .int (nI 0)), (7, .int (nI k)), (6, .ref o6), (5, .int (nI n)), (4, .ref o4), (3, .ref o3), (2, .ref o2), (1, .ref h0), (0, .ref b)]) : W p l e room_1 s m #[Value.ref b] below meth c H locs ce sl Q (F0 m 802 ls []) := by
  obtain ⟨hx, hb, hml, hown, hts, hX, hbl, hbA, hA, hL, hK, hE, hT, hTR⟩ := C0
  have hn12 := hI.1
  refine tc_loop (fun r9 H locs ls => ∃ (q : Nat), q + r9 = 6 ∧ va_P D vwCl (lT cI cJ cD cC h0 h1 h2 h3 h4 o2 o3 o4 o6 ad wd rd n K Ln Wh Re cd ct ow lf kf ct) H ∧ va_D A (lT cI cJ cD cC h0 h1 h2 h3 h4 o2 o3 o4 o6 ad wd rd n K Ln Wh Re cd ct ow lf kf ct) ∧ va_S A s.heap H locs ∧ lv_has ls 18 [(14, .int (nI q)), (7, .int (nI k)), (6, .ref o6), (5, .int (nI n)), (4, .ref o4), (3, .ref o3), (2, .ref o2), (1, .ref h0), (0, .ref b)]) (fun r9 H locs ls hv ih => ?_) (fun H locs ls hv => ?_) 6 ⟨0, by omega, hP, hD, hS, hl⟩
  · obtain ⟨q, hqn, hP, hD, hS, hl⟩ := hv
    have hq : q < 6 := by omega
    refine lv_iload hx hb dL_law_802 (lv_at hl 0 rfl) ?_
    refine lv_bipush (v := 6) hx hb dL_law_804 (by decide) ?_
    refine lv_icmp_ge (tgt := 831) hx hb dL_law_806 (by decide) (fun q => absurd q (nI_ge (b := 6) hq (by decide))) (fun _ => ?_)
    refine lv_aload_n hx hb dL_law_809 rfl (lv_at hl 7 rfl) ?_
    refine lv_iload hx hb dL_law_810 (lv_at hl 0 rfl) ?_
    refine vp_callSi (tc_CR (va_runV (As := [.int (nI q)]) (rest := []) ⟨hx, hb, hml, hown, hts⟩ (tX2_count l D A cI cJ cD cC h0 h1 h2 h3 h4 ad wd rd (lY cI cD o2 o3 o4 o6 ow lf kf ct) n K Ln Wh Re cd ct H.size hI.2.1 (nI q) (vp_in_nI hq (by decide))) (cwV 1 hts gL_law_X2_count rfl rfl rfl (by decide +kernel) ⟨Nat.le_of_ble_eq_true rfl, Nat.le_of_ble_eq_true rfl⟩) ⟨tcP.blind, va_recv hK hP (ci := 2) (q0 := 0) rfl rfl, tcP.go hK hP hD hE hS⟩ rfl rfl hl.1 rfl (lv_room (Nat.le_of_ble_eq_true rfl)) dL_law_812 ⟨by show _ ≤ 600086; omega, by show _ ≤ 7301442; omega⟩)) (fun r9 h9 => ?_)
    subst h9
    refine lv_aload hx hb dL_law_815 (lv_at hl 2 rfl) ?_
    refine lv_iload hx hb dL_law_817 (lv_at hl 0 rfl) ?_
    refine tc_iald (f := ct) (v := (ct (nI q).toNatClampNeg)) hx hb hK hP 8 0 rfl rfl (vp_in_nI hq (by decide)) (rfl) dL_law_819 ?_
    refine lv_icmp_eq (tgt := 825) hx hb dL_law_820 (by decide) (fun _ => ?_) (fun q => absurd (rfl) q)
    refine lv_iinc (v := (nI (q + 1))) (lv' := [(14, .int (nI (q + 1))), (7, .int (nI k)), (6, .ref o6), (5, .int (nI n)), (4, .ref o4), (3, .ref o3), (2, .ref o2), (1, .ref h0), (0, .ref b)]) hx hb dL_law_825 hl (k := 0) rfl (by rw [nI_succ]; rfl) (by decide) rfl (fun ls hl => ?_)
    refine lv_goto (tgt := 802) hx hb dL_law_828 (by decide) ?_
    exact ih _ _ _ ⟨q + 1, by omega, hP, hD, hS, lv_sub hl [0, 1, 2, 3, 4, 5, 6, 7, 8] rfl⟩
  · obtain ⟨q, hqn, hP, hD, hS, hl⟩ := hv
    obtain rfl : q = 6 := by omega
    refine lv_iload hx hb dL_law_802 (lv_at hl 0 rfl) ?_
    refine lv_bipush (v := 6) hx hb dL_law_804 (by decide) ?_
    refine lv_icmp_ge (tgt := 831) hx hb dL_law_806 (by decide) (fun _ => ?_) (fun q => absurd (by decide) q)
    exact kc _ _ _ hP hD hS (lv_sub hl [1, 2, 3, 4, 5, 6, 7, 8] rfl)
set_option maxHeartbeats 4000000 in
set_option maxRecDepth 100000 in
theorem law_tail {p : Program} {l : Launch} {e : Env} {s : State} {m : MethodId} {below : List Frame} {meth : Method} {c : Code} {D : va_G} {A : Nat → Prop} {cI cJ cD cC : ClassId} {h0 h1 h2 h3 h4 o2 o3 o4 o6 : Nat} {b L : Nat} {xs : Nat → Int32} {adK adV : Nat → Nat} {Q : State → Prop} (C0 : LCtx p D A cI cJ cD cC s m c b L xs adK adV) {ad wd rd : Nat → Nat} {n : Nat} {K : Nat → Int32} {Ln : Nat → Nat} {Wh : Nat → Int64} {Re : Nat → UInt64} {ow : Nat → UInt64} {lf kf : Nat → Int32} {k : Nat} (hI : PI n K Ln Wh Re ow lf kf) {ce sl : Nat} (hce : ce + 3 ≤ 600086) (hsl : sl + 44 ≤ 7301442) {v : Int32} (hv : vp_in v 6) (kc : ∀ (cd : Int32) (ct : Nat → Int32) (H : Heap) (locs : List Loc) (ls : Array Slot), va_P D vwCl (lT cI cJ cD cC h0 h1 h2 h3 h4 o2 o3 o4 o6 ad wd rd n K Ln Wh Re cd ct ow lf kf ct) H → va_D A (lT cI cJ cD cC h0 h1 h2 h3 h4 o2 o3 o4 o6 ad wd rd n K Ln Wh Re cd ct ow lf kf ct) → va_S A s.heap H locs → lv_has ls 18 [(7, .int (nI k)), (6, .ref o6), (5, .int (nI n)), (4, .ref o4), (3, .ref o3), (2, .ref o2), (1, .ref h0), (0, .ref b)] → W p l e room_1 s m #[Value.ref b] below meth c H locs ce sl Q (F0 m 831 ls [])) {ct : Nat → Int32} {H : Heap} {locs : List Loc} {ls : Array Slot} (hP : va_P D vwCl (lT cI cJ cD cC h0 h1 h2 h3 h4 o2 o3 o4 o6 ad wd rd n K Ln Wh Re v (noteC ct v) ow lf kf ct) H) (hD : va_D A (lT cI cJ cD cC h0 h1 h2 h3 h4 o2 o3 o4 o6 ad wd rd n K Ln Wh Re v (noteC ct v) ow lf kf ct)) (hS : va_S A s.heap H locs) (hl : lv_has ls 18 [(13, .int v), (7, .int (nI k)), (6, .ref o6), (5, .int (nI n)), (4, .ref o4), (3, .ref o3), (2, .ref o2), (1, .ref h0), (0, .ref b)]) : W p l e room_1 s m #[Value.ref b] below meth c H locs ce sl Q (F0 m 649 ls []) := by
  have C1 := C0
  obtain ⟨hx, hb, hml, hown, hts, hX, hbl, hbA, hA, hL, hK, hE, hT, hTR⟩ := C0
  have hn12 := hI.1
  refine lv_aload hx hb dL_law_649 (lv_at hl 2 rfl) ?_
  refine lv_iload hx hb dL_law_651 (lv_at hl 0 rfl) ?_
  refine lv_dup2_11 hx hb dL_law_653 rfl rfl ?_
  refine tc_iald (f := ct) (v := (ct v.toNatClampNeg)) hx hb hK hP 8 0 rfl rfl (hv) (rfl) dL_law_654 ?_
  refine lv_iconst (v := 1) hx hb dL_law_655 (by decide) ?_
  refine lv_iadd hx hb dL_law_656 ?_
  refine va_iast (f := ct) hx hb hK hP hD hS 8 0 rfl rfl (hv) dL_law_657 (fun H locs hP hD hS => ?_)
  have hP : va_P D vwCl (lT cI cJ cD cC h0 h1 h2 h3 h4 o2 o3 o4 o6 ad wd rd n K Ln Wh Re v (noteC ct v) ow lf kf (noteC ct v)) H := hP
  have hD : va_D A (lT cI cJ cD cC h0 h1 h2 h3 h4 o2 o3 o4 o6 ad wd rd n K Ln Wh Re v (noteC ct v) ow lf kf (noteC ct v)) := hD
  refine lv_aload_n hx hb dL_law_658 rfl (lv_at hl 7 rfl) ?_
  refine vp_callSi (tc_CR (va_runV (As := []) (rest := []) ⟨hx, hb, hml, hown, hts⟩ (tX2_code l D A cI cJ cD cC h0 h1 h2 h3 h4 ad wd rd (lY cI cD o2 o3 o4 o6 ow lf kf (noteC ct v)) n K Ln Wh Re v (noteC ct v) H.size hI.2.1) (cwV 0 hts gL_law_X2_code rfl rfl rfl (by decide +kernel) ⟨Nat.le_of_ble_eq_true rfl, Nat.le_of_ble_eq_true rfl⟩) ⟨tcP.blind, va_recv hK hP (ci := 2) (q0 := 0) rfl rfl, tcP.go hK hP hD hE hS⟩ rfl rfl hl.1 rfl (lv_room (Nat.le_of_ble_eq_true rfl)) dL_law_659 ⟨by show _ ≤ 600086; omega, by show _ ≤ 7301442; omega⟩)) (fun r9 h9 => ?_)
  rw [h9]
  refine lv_iload hx hb dL_law_662 (lv_at hl 0 rfl) ?_
  refine lv_icmp_eq (tgt := 669) hx hb dL_law_664 (by decide) (fun _ => ?_) (fun q => absurd (rfl) q)
  refine lv_iconst (v := 0) hx hb dL_law_669 (by decide) ?_
  refine lv_istore (lv' := [(14, .int 0), (13, .int v), (7, .int (nI k)), (6, .ref o6), (5, .int (nI n)), (4, .ref o4), (3, .ref o3), (2, .ref o2), (1, .ref h0), (0, .ref b)]) hx hb dL_law_670 hl (by decide) rfl (fun ls hl => ?_)
  refine law_cols C1 hI hce hsl (fun cd ct H locs ls hP hD hS hl => ?_) hP hD hS (lv_sub hl [0, 2, 3, 4, 5, 6, 7, 8, 9] rfl)
  refine lv_iconst (v := 0) hx hb dL_law_799 (by decide) ?_
  refine lv_istore (lv' := [(14, .int 0), (7, .int (nI k)), (6, .ref o6), (5, .int (nI n)), (4, .ref o4), (3, .ref o3), (2, .ref o2), (1, .ref h0), (0, .ref b)]) hx hb dL_law_800 hl (by decide) rfl (fun ls hl => ?_)
  exact law_cnt C1 hI hce hsl (fun H locs ls hP hD hS hl => kc _ _ _ _ _ hP hD hS hl) hP hD hS (lv_sub hl [0, 1, 2, 3, 4, 5, 6, 7, 8] rfl)
end
section
/-! THE LAW: a value written, cells copied, a column widened -/
theorem kFl_3w (k : Int32) : k = 7 ∨ k = 8 ∨ kFl k = false := by
  cases h : kFl k
  · exact Or.inr (Or.inr rfl)
  · simp only [kFl, Bool.or_eq_true, decide_eq_true_eq] at h
    exact h.imp id Or.inl
set_option maxHeartbeats 4000000 in
set_option maxRecDepth 100000 in
theorem law_w {p : Program} {l : Launch} {e : Env} {s : State} {m : MethodId} {below : List Frame} {meth : Method} {c : Code} {D : va_G} {A : Nat → Prop} {cI cJ cD cC : ClassId} {h0 h1 h2 h3 h4 o2 o3 o4 o6 : Nat} {b L : Nat} {xs : Nat → Int32} {adK adV : Nat → Nat} {Q : State → Prop} (C0 : LCtx p D A cI cJ cD cC s m c b L xs adK adV) {ad wd rd : Nat → Nat} {n : Nat} {K : Nat → Int32} {Ln : Nat → Nat} {Wh : Nat → Int64} {Re : Nat → UInt64} {ow : Nat → UInt64} {lf kf : Nat → Int32} {ct : Nat → Int32} {j k : Nat} {i x kd : Int32} (hj : j < n) (h10 : 10 ≤ n) (hkd : kHas kd = true) (hI : PI n K Ln Wh Re ow lf kf) {ce sl : Nat} (hce : ce + 3 ≤ 600086) (hsl : sl + 44 ≤ 7301442) (kc : ∀ (ad wd rd : Nat → Nat) (n : Nat) (K : Nat → Int32) (Ln : Nat → Nat) (Wh : Nat → Int64) (Re : Nat → UInt64) (ow : Nat → UInt64) (lf kf : Nat → Int32) (v : Int32) (H : Heap) (locs : List Loc) (ls : Array Slot), PI n K Ln Wh Re ow lf kf → 10 ≤ n → vp_in v 6 → va_P D vwCl (lT cI cJ cD cC h0 h1 h2 h3 h4 o2 o3 o4 o6 ad wd rd n K Ln Wh Re v (noteC ct v) ow lf kf ct) H → va_D A (lT cI cJ cD cC h0 h1 h2 h3 h4 o2 o3 o4 o6 ad wd rd n K Ln Wh Re v (noteC ct v) ow lf kf ct) → va_S A s.heap H locs → lv_has ls 18 [(13, .int v), (7, .int (nI k)), (6, .ref o6), (5, .int (nI n)), (4, .ref o4), (3, .ref o3), (2, .ref o2), (1, .ref h0), (0, .ref b)] → W p l e room_1 s m #[Value.ref b] below meth c H locs (ce + 3) (sl + 44) Q (F0 m 649 ls [])) {cd : Int32} {H : Heap} {locs : List Loc} {ls : Array Slot} (hP : va_P D vwCl (lT cI cJ cD cC h0 h1 h2 h3 h4 o2 o3 o4 o6 ad wd rd n K Ln Wh Re cd ct ow lf kf ct) H) (hD : va_D A (lT cI cJ cD cC h0 h1 h2 h3 h4 o2 o3 o4 o6 ad wd rd n K Ln Wh Re cd ct ow lf kf ct)) (hS : va_S A s.heap H locs) (hl : lv_has ls 18 [(12, .int (kCol (K j))), (11, .int kd), (10, .int i), (9, .int (nI j)), (8, .int x), (7, .int (nI k)), (6, .ref o6), (5, .int (nI n)), (4, .ref o4), (3, .ref o3), (2, .ref o2), (1, .ref h0), (0, .ref b)]) : W p l e room_1 s m #[Value.ref b] below meth c H locs ce sl Q (F0 m 203 ls []) := by
  obtain ⟨hx, hb, hml, hown, hts, hX, hbl, hbA, hA, hL, hK, hE, hT, hTR⟩ := C0
  have hn12 := hI.1
  have hL5 := (hI.2.2.1 j hj).2.2
  refine tc_join 249 (fun ls st => ∃ v8, v8 = (cdR K Ln j i kd (K j)) ∧ st = [.int v8] ∧ lv_has ls 18 [(12, .int (kCol (K j))), (11, .int kd), (10, .int i), (9, .int (nI j)), (8, .int x), (7, .int (nI k)), (6, .ref o6), (5, .int (nI n)), (4, .ref o4), (3, .ref o3), (2, .ref o2), (1, .ref h0), (0, .ref b)]) (fun ls st hj9 => ?_) (fun k249 => ?_)
  · obtain ⟨v, ev, rfl, hl⟩ := hj9
    have hv6 : vp_in v 6 := by rw [ev]; exact cdR_in kd (K j)
    refine lv_istore (lv' := [(13, .int v), (12, .int (kCol (K j))), (11, .int kd), (10, .int i), (9, .int (nI j)), (8, .int x), (7, .int (nI k)), (6, .ref o6), (5, .int (nI n)), (4, .ref o4), (3, .ref o3), (2, .ref o2), (1, .ref h0), (0, .ref b)]) hx hb dL_law_249 hl (by decide) rfl (fun ls hl => ?_)
    rcases kFl_3w kd with h7 | h8 | hf
    · refine lv_aload_n hx hb dL_law_251 rfl (lv_at hl 12 rfl) ?_
      refine lv_iload hx hb dL_law_252 (lv_at hl 4 rfl) ?_
      refine lv_iload hx hb dL_law_254 (lv_at hl 3 rfl) ?_
      refine lv_iload hx hb dL_law_256 (lv_at hl 2 rfl) ?_
      refine lv_iload hx hb dL_law_258 (lv_at hl 5 rfl) ?_
      refine va_calli (va_runV (As := [.int (nI j), .int i, .int kd, .int x]) (rest := []) ⟨hx, hb, hml, hown, hts⟩ (tX2_writeAny_f l D A cI cJ cD cC h0 h1 h2 h3 h4 ad wd rd (lY cI cD o2 o3 o4 o6 ow lf kf ct) n K Ln Wh Re cd ct H.size hI.2.1 j hj i kd x hkd h7) (cwV 4 hts gL_law_X2_writeAny rfl rfl rfl (by decide +kernel) ⟨Nat.le_of_ble_eq_true rfl, Nat.le_of_ble_eq_true rfl⟩) ⟨tcP.blind, va_recv hK hP (ci := 2) (q0 := 0) rfl rfl, tcP.go hK hP hD hE hS⟩ rfl rfl hl.1 rfl (lv_room (Nat.le_of_ble_eq_true rfl)) dL_law_260 ⟨by show _ ≤ 600086; omega, by show _ ≤ 7301442; omega⟩) hS (fun q _ h => h) (fun q h => h) (fun r9 u9 t9 H locs ht9 hvm9 hw9 hB9 hz9 hk9 hS => ?_)
      obtain ⟨hP, hD⟩ := hB9
      rw [ht9] at hP
      obtain rfl : v = r9 := ev.trans hw9.symm
      rw [← ev] at hP hD
      refine lv_iload hx hb dL_law_263 (lv_at hl 0 rfl) ?_
      refine lv_icmp_eq (tgt := 270) hx hb dL_law_265 (by decide) (fun _ => ?_) (fun q => absurd (rfl) q)
      refine lv_iload hx hb dL_law_270 (lv_at hl 0 rfl) ?_
      refine lv_if_ne (tgt := 649) hx hb dL_law_272 (by decide) (fun c_2 => ?_) (fun c_2 => ?_)
      · refine W.widen (k := ce + 3) (n := sl + 44) (by omega) (by omega) ?_
        exact kc ad wd rd n K Ln Wh (wrX K Ln Re j i kd (FP.f2d (FP.i2f x))) ow lf kf _ _ _ _ (PI_x0 hI (by rw [← ev]; exact c_2)) (h10) (hv6) hP hD hS (lv_sub hl [0, 6, 7, 8, 9, 10, 11, 12, 13] rfl)
      · have hc0 : (cdR K Ln j i kd (K j)) = 0 := ev.symm.trans c_2
        obtain ⟨g1, g2, g3⟩ := cdR_0 (hI.2.1.2.1 j hj).1 (hI.2.1.2.1 j hj).2.1 hc0
        obtain ⟨a, ha, rfl⟩ := vp_in_of g3 (by omega)
        refine lv_aload_n hx hb dL_law_275 rfl (lv_at hl 11 rfl) ?_
        refine lv_iconst (v := 5) hx hb dL_law_276 (by decide) ?_
        refine lv_iload hx hb dL_law_277 (lv_at hl 4 rfl) ?_
        refine lv_imul hx hb dL_law_279 ?_
        refine lv_iload hx hb dL_law_280 (lv_at hl 3 rfl) ?_
        refine lv_iadd hx hb dL_law_282 ?_
        refine lv_topi (fun x9 e9 => ?_)
        obtain rfl : x9 = nI (5 * j + a) := by rw [e9]; exact ix5 j a
        refine lv_aload hx hb dL_law_283 (lv_at hl 9 rfl) ?_
        refine lv_iload hx hb dL_law_285 (lv_at hl 4 rfl) ?_
        refine tc_iald (f := kf) (v := (K j)) hx hb hK hP 7 0 rfl rfl (vp_in_nI (show j < 12 by omega) (by decide)) (PI_kf hI hj) dL_law_287 ?_
        refine lv_bipush (v := 7) hx hb dL_law_288 (by decide) ?_
        refine lv_icmp_ne (tgt := 305) hx hb dL_law_290 (by decide) (fun c_3 => ?_) (fun c_3 => ?_)
        · refine lv_iload hx hb dL_law_305 (lv_at hl 2 rfl) ?_
          refine lv_iload hx hb dL_law_307 (lv_at hl 5 rfl) ?_
          refine vp_callSl (W.runS (As := [.int kd, .int x]) (rest := [.int (nI (5 * j + a)), .ref o2]) ⟨hx, hb, hml, hown, hts⟩ (lL_made l kd x) (va_cwS 2 hts gL_law_L_made rfl rfl rfl (by decide +kernel) ⟨Nat.le_of_ble_eq_true rfl, Nat.le_of_ble_eq_true rfl⟩) ⟨fun a U g mk q => q, fun U hU hW => ⟨rfl, trivial⟩⟩ rfl rfl hl.1 rfl (lv_room (Nat.le_of_ble_eq_true rfl)) dL_law_309 ⟨by show _ ≤ 600086; omega, by show _ ≤ 7301442; omega⟩) (fun r9 h9 => ?_)
          subst h9
          refine lv_l2d hx hb dL_law_312 ?_
          refine va_dast (f := ow) hx hb hK hP hD hS 5 2 rfl rfl (vp_in_nI (show 5 * j + a < 60 by omega) (by decide)) dL_law_313 (fun H locs hP hD hS => ?_)
          have hP : va_P D vwCl (lT cI cJ cD cC h0 h1 h2 h3 h4 o2 o3 o4 o6 ad wd rd n K Ln Wh (wrX K Ln Re j (nI a) kd (FP.f2d (FP.i2f x))) v (noteC ct v) (vf_upd ow (nI (5 * j + a)).toNatClampNeg (FP.l2d (lMade x kd))) lf kf ct) H := hP
          have hD : va_D A (lT cI cJ cD cC h0 h1 h2 h3 h4 o2 o3 o4 o6 ad wd rd n K Ln Wh (wrX K Ln Re j (nI a) kd (FP.f2d (FP.i2f x))) v (noteC ct v) (vf_upd ow (nI (5 * j + a)).toNatClampNeg (FP.l2d (lMade x kd))) lf kf ct) := hD
          have ew : (vf_upd ow (nI (5 * j + a)).toNatClampNeg (FP.l2d (lMade x kd))) = (vf_upd ow (5 * j + (nI a).toNatClampNeg) (lVal (K j) x kd)) := by rw [nI_clamp (by omega), nI_clamp (by omega)]; unfold lVal; rw [if_neg c_3]
          rw [ew] at hP hD
          have hP : va_P D vwCl (lT cI cJ cD cC h0 h1 h2 h3 h4 o2 o3 o4 o6 ad wd rd n K Ln Wh (wrX K Ln Re j (nI a) kd (FP.f2d (FP.i2f x))) v (noteC ct v) (vf_upd ow (5 * j + (nI a).toNatClampNeg) (lVal (K j) x kd)) lf kf ct) H := hP
          have hD : va_D A (lT cI cJ cD cC h0 h1 h2 h3 h4 o2 o3 o4 o6 ad wd rd n K Ln Wh (wrX K Ln Re j (nI a) kd (FP.f2d (FP.i2f x))) v (noteC ct v) (vf_upd ow (5 * j + (nI a).toNatClampNeg) (lVal (K j) x kd)) lf kf ct) := hD
          refine lv_goto (tgt := 649) hx hb dL_law_314 (by decide) ?_
          refine W.widen (k := ce + 3) (n := sl + 44) (by omega) (by omega) ?_
          exact kc ad wd rd n K Ln Wh (wrX K Ln Re j (nI a) kd (FP.f2d (FP.i2f x))) (vf_upd ow (5 * j + (nI a).toNatClampNeg) (lVal (K j) x kd)) lf kf _ _ _ _ (PI_wf' h7 hI hj hc0) (h10) (hv6) hP hD hS (lv_sub hl [0, 6, 7, 8, 9, 10, 11, 12, 13] rfl)
        · refine lv_iload hx hb dL_law_293 (lv_at hl 2 rfl) ?_
          refine lv_iload hx hb dL_law_295 (lv_at hl 5 rfl) ?_
          refine vp_callSl (W.runS (As := [.int kd, .int x]) (rest := [.int (nI (5 * j + a)), .ref o2]) ⟨hx, hb, hml, hown, hts⟩ (lL_made l kd x) (va_cwS 2 hts gL_law_L_made rfl rfl rfl (by decide +kernel) ⟨Nat.le_of_ble_eq_true rfl, Nat.le_of_ble_eq_true rfl⟩) ⟨fun a U g mk q => q, fun U hU hW => ⟨rfl, trivial⟩⟩ rfl rfl hl.1 rfl (lv_room (Nat.le_of_ble_eq_true rfl)) dL_law_297 ⟨by show _ ≤ 600086; omega, by show _ ≤ 7301442; omega⟩) (fun r9 h9 => ?_)
          subst h9
          refine lv_l2f hx hb dL_law_300 ?_
          refine lv_f2d hx hb dL_law_301 ((tf_n64 _).mpr (tf_f2d (tf_l2f _))) ?_
          refine lv_goto (tgt := 313) hx hb dL_law_302 (by decide) ?_
          refine va_dast (f := ow) hx hb hK hP hD hS 5 2 rfl rfl (vp_in_nI (show 5 * j + a < 60 by omega) (by decide)) dL_law_313 (fun H locs hP hD hS => ?_)
          have hP : va_P D vwCl (lT cI cJ cD cC h0 h1 h2 h3 h4 o2 o3 o4 o6 ad wd rd n K Ln Wh (wrX K Ln Re j (nI a) kd (FP.f2d (FP.i2f x))) v (noteC ct v) (vf_upd ow (nI (5 * j + a)).toNatClampNeg (FP.f2d (FP.l2f (lMade x kd)))) lf kf ct) H := hP
          have hD : va_D A (lT cI cJ cD cC h0 h1 h2 h3 h4 o2 o3 o4 o6 ad wd rd n K Ln Wh (wrX K Ln Re j (nI a) kd (FP.f2d (FP.i2f x))) v (noteC ct v) (vf_upd ow (nI (5 * j + a)).toNatClampNeg (FP.f2d (FP.l2f (lMade x kd)))) lf kf ct) := hD
          have ew : (vf_upd ow (nI (5 * j + a)).toNatClampNeg (FP.f2d (FP.l2f (lMade x kd)))) = (vf_upd ow (5 * j + (nI a).toNatClampNeg) (lVal (K j) x kd)) := by rw [nI_clamp (by omega), nI_clamp (by omega)]; unfold lVal; rw [if_pos c_3]
          rw [ew] at hP hD
          have hP : va_P D vwCl (lT cI cJ cD cC h0 h1 h2 h3 h4 o2 o3 o4 o6 ad wd rd n K Ln Wh (wrX K Ln Re j (nI a) kd (FP.f2d (FP.i2f x))) v (noteC ct v) (vf_upd ow (5 * j + (nI a).toNatClampNeg) (lVal (K j) x kd)) lf kf ct) H := hP
          have hD : va_D A (lT cI cJ cD cC h0 h1 h2 h3 h4 o2 o3 o4 o6 ad wd rd n K Ln Wh (wrX K Ln Re j (nI a) kd (FP.f2d (FP.i2f x))) v (noteC ct v) (vf_upd ow (5 * j + (nI a).toNatClampNeg) (lVal (K j) x kd)) lf kf ct) := hD
          refine lv_goto (tgt := 649) hx hb dL_law_314 (by decide) ?_
          refine W.widen (k := ce + 3) (n := sl + 44) (by omega) (by omega) ?_
          exact kc ad wd rd n K Ln Wh (wrX K Ln Re j (nI a) kd (FP.f2d (FP.i2f x))) (vf_upd ow (5 * j + (nI a).toNatClampNeg) (lVal (K j) x kd)) lf kf _ _ _ _ (PI_wf' h7 hI hj hc0) (h10) (hv6) hP hD hS (lv_sub hl [0, 6, 7, 8, 9, 10, 11, 12, 13] rfl)
    · refine lv_aload_n hx hb dL_law_251 rfl (lv_at hl 12 rfl) ?_
      refine lv_iload hx hb dL_law_252 (lv_at hl 4 rfl) ?_
      refine lv_iload hx hb dL_law_254 (lv_at hl 3 rfl) ?_
      refine lv_iload hx hb dL_law_256 (lv_at hl 2 rfl) ?_
      refine lv_iload hx hb dL_law_258 (lv_at hl 5 rfl) ?_
      refine va_calli (va_runV (As := [.int (nI j), .int i, .int kd, .int x]) (rest := []) ⟨hx, hb, hml, hown, hts⟩ (tX2_writeAny_d l D A cI cJ cD cC h0 h1 h2 h3 h4 ad wd rd (lY cI cD o2 o3 o4 o6 ow lf kf ct) n K Ln Wh Re cd ct H.size hI.2.1 j hj i kd x hkd h8) (cwV 4 hts gL_law_X2_writeAny rfl rfl rfl (by decide +kernel) ⟨Nat.le_of_ble_eq_true rfl, Nat.le_of_ble_eq_true rfl⟩) ⟨tcP.blind, va_recv hK hP (ci := 2) (q0 := 0) rfl rfl, tcP.go hK hP hD hE hS⟩ rfl rfl hl.1 rfl (lv_room (Nat.le_of_ble_eq_true rfl)) dL_law_260 ⟨by show _ ≤ 600086; omega, by show _ ≤ 7301442; omega⟩) hS (fun q _ h => h) (fun q h => h) (fun r9 u9 t9 H locs ht9 hvm9 hw9 hB9 hz9 hk9 hS => ?_)
      obtain ⟨hP, hD⟩ := hB9
      rw [ht9] at hP
      obtain rfl : v = r9 := ev.trans hw9.symm
      rw [← ev] at hP hD
      refine lv_iload hx hb dL_law_263 (lv_at hl 0 rfl) ?_
      refine lv_icmp_eq (tgt := 270) hx hb dL_law_265 (by decide) (fun _ => ?_) (fun q => absurd (rfl) q)
      refine lv_iload hx hb dL_law_270 (lv_at hl 0 rfl) ?_
      refine lv_if_ne (tgt := 649) hx hb dL_law_272 (by decide) (fun c_5 => ?_) (fun c_5 => ?_)
      · refine W.widen (k := ce + 3) (n := sl + 44) (by omega) (by omega) ?_
        exact kc ad wd rd n K Ln Wh (wrX K Ln Re j i kd (FP.i2d x)) ow lf kf _ _ _ _ (PI_x0 hI (by rw [← ev]; exact c_5)) (h10) (hv6) hP hD hS (lv_sub hl [0, 6, 7, 8, 9, 10, 11, 12, 13] rfl)
      · have hc0 : (cdR K Ln j i kd (K j)) = 0 := ev.symm.trans c_5
        obtain ⟨g1, g2, g3⟩ := cdR_0 (hI.2.1.2.1 j hj).1 (hI.2.1.2.1 j hj).2.1 hc0
        obtain ⟨a, ha, rfl⟩ := vp_in_of g3 (by omega)
        refine lv_aload_n hx hb dL_law_275 rfl (lv_at hl 11 rfl) ?_
        refine lv_iconst (v := 5) hx hb dL_law_276 (by decide) ?_
        refine lv_iload hx hb dL_law_277 (lv_at hl 4 rfl) ?_
        refine lv_imul hx hb dL_law_279 ?_
        refine lv_iload hx hb dL_law_280 (lv_at hl 3 rfl) ?_
        refine lv_iadd hx hb dL_law_282 ?_
        refine lv_topi (fun x9 e9 => ?_)
        obtain rfl : x9 = nI (5 * j + a) := by rw [e9]; exact ix5 j a
        refine lv_aload hx hb dL_law_283 (lv_at hl 9 rfl) ?_
        refine lv_iload hx hb dL_law_285 (lv_at hl 4 rfl) ?_
        refine tc_iald (f := kf) (v := (K j)) hx hb hK hP 7 0 rfl rfl (vp_in_nI (show j < 12 by omega) (by decide)) (PI_kf hI hj) dL_law_287 ?_
        refine lv_bipush (v := 7) hx hb dL_law_288 (by decide) ?_
        refine lv_icmp_ne (tgt := 305) hx hb dL_law_290 (by decide) (fun c_6 => ?_) (fun c_6 => ?_)
        · refine lv_iload hx hb dL_law_305 (lv_at hl 2 rfl) ?_
          refine lv_iload hx hb dL_law_307 (lv_at hl 5 rfl) ?_
          refine vp_callSl (W.runS (As := [.int kd, .int x]) (rest := [.int (nI (5 * j + a)), .ref o2]) ⟨hx, hb, hml, hown, hts⟩ (lL_made l kd x) (va_cwS 2 hts gL_law_L_made rfl rfl rfl (by decide +kernel) ⟨Nat.le_of_ble_eq_true rfl, Nat.le_of_ble_eq_true rfl⟩) ⟨fun a U g mk q => q, fun U hU hW => ⟨rfl, trivial⟩⟩ rfl rfl hl.1 rfl (lv_room (Nat.le_of_ble_eq_true rfl)) dL_law_309 ⟨by show _ ≤ 600086; omega, by show _ ≤ 7301442; omega⟩) (fun r9 h9 => ?_)
          subst h9
          refine lv_l2d hx hb dL_law_312 ?_
          refine va_dast (f := ow) hx hb hK hP hD hS 5 2 rfl rfl (vp_in_nI (show 5 * j + a < 60 by omega) (by decide)) dL_law_313 (fun H locs hP hD hS => ?_)
          have hP : va_P D vwCl (lT cI cJ cD cC h0 h1 h2 h3 h4 o2 o3 o4 o6 ad wd rd n K Ln Wh (wrX K Ln Re j (nI a) kd (FP.i2d x)) v (noteC ct v) (vf_upd ow (nI (5 * j + a)).toNatClampNeg (FP.l2d (lMade x kd))) lf kf ct) H := hP
          have hD : va_D A (lT cI cJ cD cC h0 h1 h2 h3 h4 o2 o3 o4 o6 ad wd rd n K Ln Wh (wrX K Ln Re j (nI a) kd (FP.i2d x)) v (noteC ct v) (vf_upd ow (nI (5 * j + a)).toNatClampNeg (FP.l2d (lMade x kd))) lf kf ct) := hD
          have ew : (vf_upd ow (nI (5 * j + a)).toNatClampNeg (FP.l2d (lMade x kd))) = (vf_upd ow (5 * j + (nI a).toNatClampNeg) (lVal (K j) x kd)) := by rw [nI_clamp (by omega), nI_clamp (by omega)]; unfold lVal; rw [if_neg c_6]
          rw [ew] at hP hD
          have hP : va_P D vwCl (lT cI cJ cD cC h0 h1 h2 h3 h4 o2 o3 o4 o6 ad wd rd n K Ln Wh (wrX K Ln Re j (nI a) kd (FP.i2d x)) v (noteC ct v) (vf_upd ow (5 * j + (nI a).toNatClampNeg) (lVal (K j) x kd)) lf kf ct) H := hP
          have hD : va_D A (lT cI cJ cD cC h0 h1 h2 h3 h4 o2 o3 o4 o6 ad wd rd n K Ln Wh (wrX K Ln Re j (nI a) kd (FP.i2d x)) v (noteC ct v) (vf_upd ow (5 * j + (nI a).toNatClampNeg) (lVal (K j) x kd)) lf kf ct) := hD
          refine lv_goto (tgt := 649) hx hb dL_law_314 (by decide) ?_
          refine W.widen (k := ce + 3) (n := sl + 44) (by omega) (by omega) ?_
          exact kc ad wd rd n K Ln Wh (wrX K Ln Re j (nI a) kd (FP.i2d x)) (vf_upd ow (5 * j + (nI a).toNatClampNeg) (lVal (K j) x kd)) lf kf _ _ _ _ (PI_wd' h8 hI hj hc0) (h10) (hv6) hP hD hS (lv_sub hl [0, 6, 7, 8, 9, 10, 11, 12, 13] rfl)
        · refine lv_iload hx hb dL_law_293 (lv_at hl 2 rfl) ?_
          refine lv_iload hx hb dL_law_295 (lv_at hl 5 rfl) ?_
          refine vp_callSl (W.runS (As := [.int kd, .int x]) (rest := [.int (nI (5 * j + a)), .ref o2]) ⟨hx, hb, hml, hown, hts⟩ (lL_made l kd x) (va_cwS 2 hts gL_law_L_made rfl rfl rfl (by decide +kernel) ⟨Nat.le_of_ble_eq_true rfl, Nat.le_of_ble_eq_true rfl⟩) ⟨fun a U g mk q => q, fun U hU hW => ⟨rfl, trivial⟩⟩ rfl rfl hl.1 rfl (lv_room (Nat.le_of_ble_eq_true rfl)) dL_law_297 ⟨by show _ ≤ 600086; omega, by show _ ≤ 7301442; omega⟩) (fun r9 h9 => ?_)
          subst h9
          refine lv_l2f hx hb dL_law_300 ?_
          refine lv_f2d hx hb dL_law_301 ((tf_n64 _).mpr (tf_f2d (tf_l2f _))) ?_
          refine lv_goto (tgt := 313) hx hb dL_law_302 (by decide) ?_
          refine va_dast (f := ow) hx hb hK hP hD hS 5 2 rfl rfl (vp_in_nI (show 5 * j + a < 60 by omega) (by decide)) dL_law_313 (fun H locs hP hD hS => ?_)
          have hP : va_P D vwCl (lT cI cJ cD cC h0 h1 h2 h3 h4 o2 o3 o4 o6 ad wd rd n K Ln Wh (wrX K Ln Re j (nI a) kd (FP.i2d x)) v (noteC ct v) (vf_upd ow (nI (5 * j + a)).toNatClampNeg (FP.f2d (FP.l2f (lMade x kd)))) lf kf ct) H := hP
          have hD : va_D A (lT cI cJ cD cC h0 h1 h2 h3 h4 o2 o3 o4 o6 ad wd rd n K Ln Wh (wrX K Ln Re j (nI a) kd (FP.i2d x)) v (noteC ct v) (vf_upd ow (nI (5 * j + a)).toNatClampNeg (FP.f2d (FP.l2f (lMade x kd)))) lf kf ct) := hD
          have ew : (vf_upd ow (nI (5 * j + a)).toNatClampNeg (FP.f2d (FP.l2f (lMade x kd)))) = (vf_upd ow (5 * j + (nI a).toNatClampNeg) (lVal (K j) x kd)) := by rw [nI_clamp (by omega), nI_clamp (by omega)]; unfold lVal; rw [if_pos c_6]
          rw [ew] at hP hD
          have hP : va_P D vwCl (lT cI cJ cD cC h0 h1 h2 h3 h4 o2 o3 o4 o6 ad wd rd n K Ln Wh (wrX K Ln Re j (nI a) kd (FP.i2d x)) v (noteC ct v) (vf_upd ow (5 * j + (nI a).toNatClampNeg) (lVal (K j) x kd)) lf kf ct) H := hP
          have hD : va_D A (lT cI cJ cD cC h0 h1 h2 h3 h4 o2 o3 o4 o6 ad wd rd n K Ln Wh (wrX K Ln Re j (nI a) kd (FP.i2d x)) v (noteC ct v) (vf_upd ow (5 * j + (nI a).toNatClampNeg) (lVal (K j) x kd)) lf kf ct) := hD
          refine lv_goto (tgt := 649) hx hb dL_law_314 (by decide) ?_
          refine W.widen (k := ce + 3) (n := sl + 44) (by omega) (by omega) ?_
          exact kc ad wd rd n K Ln Wh (wrX K Ln Re j (nI a) kd (FP.i2d x)) (vf_upd ow (5 * j + (nI a).toNatClampNeg) (lVal (K j) x kd)) lf kf _ _ _ _ (PI_wd' h8 hI hj hc0) (h10) (hv6) hP hD hS (lv_sub hl [0, 6, 7, 8, 9, 10, 11, 12, 13] rfl)
    · refine lv_aload_n hx hb dL_law_251 rfl (lv_at hl 12 rfl) ?_
      refine lv_iload hx hb dL_law_252 (lv_at hl 4 rfl) ?_
      refine lv_iload hx hb dL_law_254 (lv_at hl 3 rfl) ?_
      refine lv_iload hx hb dL_law_256 (lv_at hl 2 rfl) ?_
      refine lv_iload hx hb dL_law_258 (lv_at hl 5 rfl) ?_
      refine va_calli (va_runV (As := [.int (nI j), .int i, .int kd, .int x]) (rest := []) ⟨hx, hb, hml, hown, hts⟩ (tX2_writeAny_w l D A cI cJ cD cC h0 h1 h2 h3 h4 ad wd rd (lY cI cD o2 o3 o4 o6 ow lf kf ct) n K Ln Wh Re cd ct H.size hI.2.1 j hj i kd x hkd hf) (cwV 4 hts gL_law_X2_writeAny rfl rfl rfl (by decide +kernel) ⟨Nat.le_of_ble_eq_true rfl, Nat.le_of_ble_eq_true rfl⟩) ⟨tcP.blind, va_recv hK hP (ci := 2) (q0 := 0) rfl rfl, tcP.go hK hP hD hE hS⟩ rfl rfl hl.1 rfl (lv_room (Nat.le_of_ble_eq_true rfl)) dL_law_260 ⟨by show _ ≤ 600086; omega, by show _ ≤ 7301442; omega⟩) hS (fun q _ h => h) (fun q h => h) (fun r9 u9 t9 H locs ht9 hvm9 hw9 hB9 hz9 hk9 hS => ?_)
      obtain ⟨hP, hD⟩ := hB9
      rw [ht9] at hP
      obtain rfl : v = r9 := ev.trans hw9.symm
      rw [← ev] at hP hD
      refine lv_iload hx hb dL_law_263 (lv_at hl 0 rfl) ?_
      refine lv_icmp_eq (tgt := 270) hx hb dL_law_265 (by decide) (fun _ => ?_) (fun q => absurd (rfl) q)
      refine lv_iload hx hb dL_law_270 (lv_at hl 0 rfl) ?_
      refine lv_if_ne (tgt := 649) hx hb dL_law_272 (by decide) (fun c_8 => ?_) (fun c_8 => ?_)
      · refine W.widen (k := ce + 3) (n := sl + 44) (by omega) (by omega) ?_
        exact kc ad wd rd n K Ln (wrW K Ln Wh j i kd (kMade x kd)) (wrR K Ln Re j i kd (kMade x kd)) ow lf kf _ _ _ _ (PI_w0 hI (by rw [← ev]; exact c_8)) (h10) (hv6) hP hD hS (lv_sub hl [0, 6, 7, 8, 9, 10, 11, 12, 13] rfl)
      · have hc0 : (cdR K Ln j i kd (K j)) = 0 := ev.symm.trans c_8
        obtain ⟨g1, g2, g3⟩ := cdR_0 (hI.2.1.2.1 j hj).1 (hI.2.1.2.1 j hj).2.1 hc0
        obtain ⟨a, ha, rfl⟩ := vp_in_of g3 (by omega)
        refine lv_aload_n hx hb dL_law_275 rfl (lv_at hl 11 rfl) ?_
        refine lv_iconst (v := 5) hx hb dL_law_276 (by decide) ?_
        refine lv_iload hx hb dL_law_277 (lv_at hl 4 rfl) ?_
        refine lv_imul hx hb dL_law_279 ?_
        refine lv_iload hx hb dL_law_280 (lv_at hl 3 rfl) ?_
        refine lv_iadd hx hb dL_law_282 ?_
        refine lv_topi (fun x9 e9 => ?_)
        obtain rfl : x9 = nI (5 * j + a) := by rw [e9]; exact ix5 j a
        refine lv_aload hx hb dL_law_283 (lv_at hl 9 rfl) ?_
        refine lv_iload hx hb dL_law_285 (lv_at hl 4 rfl) ?_
        refine tc_iald (f := kf) (v := (K j)) hx hb hK hP 7 0 rfl rfl (vp_in_nI (show j < 12 by omega) (by decide)) (PI_kf hI hj) dL_law_287 ?_
        refine lv_bipush (v := 7) hx hb dL_law_288 (by decide) ?_
        refine lv_icmp_ne (tgt := 305) hx hb dL_law_290 (by decide) (fun c_9 => ?_) (fun c_9 => ?_)
        · refine lv_iload hx hb dL_law_305 (lv_at hl 2 rfl) ?_
          refine lv_iload hx hb dL_law_307 (lv_at hl 5 rfl) ?_
          refine vp_callSl (W.runS (As := [.int kd, .int x]) (rest := [.int (nI (5 * j + a)), .ref o2]) ⟨hx, hb, hml, hown, hts⟩ (lL_made l kd x) (va_cwS 2 hts gL_law_L_made rfl rfl rfl (by decide +kernel) ⟨Nat.le_of_ble_eq_true rfl, Nat.le_of_ble_eq_true rfl⟩) ⟨fun a U g mk q => q, fun U hU hW => ⟨rfl, trivial⟩⟩ rfl rfl hl.1 rfl (lv_room (Nat.le_of_ble_eq_true rfl)) dL_law_309 ⟨by show _ ≤ 600086; omega, by show _ ≤ 7301442; omega⟩) (fun r9 h9 => ?_)
          subst h9
          refine lv_l2d hx hb dL_law_312 ?_
          refine va_dast (f := ow) hx hb hK hP hD hS 5 2 rfl rfl (vp_in_nI (show 5 * j + a < 60 by omega) (by decide)) dL_law_313 (fun H locs hP hD hS => ?_)
          have hP : va_P D vwCl (lT cI cJ cD cC h0 h1 h2 h3 h4 o2 o3 o4 o6 ad wd rd n K Ln (wrW K Ln Wh j (nI a) kd (kMade x kd)) (wrR K Ln Re j (nI a) kd (kMade x kd)) v (noteC ct v) (vf_upd ow (nI (5 * j + a)).toNatClampNeg (FP.l2d (lMade x kd))) lf kf ct) H := hP
          have hD : va_D A (lT cI cJ cD cC h0 h1 h2 h3 h4 o2 o3 o4 o6 ad wd rd n K Ln (wrW K Ln Wh j (nI a) kd (kMade x kd)) (wrR K Ln Re j (nI a) kd (kMade x kd)) v (noteC ct v) (vf_upd ow (nI (5 * j + a)).toNatClampNeg (FP.l2d (lMade x kd))) lf kf ct) := hD
          have ew : (vf_upd ow (nI (5 * j + a)).toNatClampNeg (FP.l2d (lMade x kd))) = (vf_upd ow (5 * j + (nI a).toNatClampNeg) (lVal (K j) x kd)) := by rw [nI_clamp (by omega), nI_clamp (by omega)]; unfold lVal; rw [if_neg c_9]
          rw [ew] at hP hD
          have hP : va_P D vwCl (lT cI cJ cD cC h0 h1 h2 h3 h4 o2 o3 o4 o6 ad wd rd n K Ln (wrW K Ln Wh j (nI a) kd (kMade x kd)) (wrR K Ln Re j (nI a) kd (kMade x kd)) v (noteC ct v) (vf_upd ow (5 * j + (nI a).toNatClampNeg) (lVal (K j) x kd)) lf kf ct) H := hP
          have hD : va_D A (lT cI cJ cD cC h0 h1 h2 h3 h4 o2 o3 o4 o6 ad wd rd n K Ln (wrW K Ln Wh j (nI a) kd (kMade x kd)) (wrR K Ln Re j (nI a) kd (kMade x kd)) v (noteC ct v) (vf_upd ow (5 * j + (nI a).toNatClampNeg) (lVal (K j) x kd)) lf kf ct) := hD
          refine lv_goto (tgt := 649) hx hb dL_law_314 (by decide) ?_
          refine W.widen (k := ce + 3) (n := sl + 44) (by omega) (by omega) ?_
          exact kc ad wd rd n K Ln (wrW K Ln Wh j (nI a) kd (kMade x kd)) (wrR K Ln Re j (nI a) kd (kMade x kd)) (vf_upd ow (5 * j + (nI a).toNatClampNeg) (lVal (K j) x kd)) lf kf _ _ _ _ (PI_ww hI hj hf hc0) (h10) (hv6) hP hD hS (lv_sub hl [0, 6, 7, 8, 9, 10, 11, 12, 13] rfl)
        · refine lv_iload hx hb dL_law_293 (lv_at hl 2 rfl) ?_
          refine lv_iload hx hb dL_law_295 (lv_at hl 5 rfl) ?_
          refine vp_callSl (W.runS (As := [.int kd, .int x]) (rest := [.int (nI (5 * j + a)), .ref o2]) ⟨hx, hb, hml, hown, hts⟩ (lL_made l kd x) (va_cwS 2 hts gL_law_L_made rfl rfl rfl (by decide +kernel) ⟨Nat.le_of_ble_eq_true rfl, Nat.le_of_ble_eq_true rfl⟩) ⟨fun a U g mk q => q, fun U hU hW => ⟨rfl, trivial⟩⟩ rfl rfl hl.1 rfl (lv_room (Nat.le_of_ble_eq_true rfl)) dL_law_297 ⟨by show _ ≤ 600086; omega, by show _ ≤ 7301442; omega⟩) (fun r9 h9 => ?_)
          subst h9
          refine lv_l2f hx hb dL_law_300 ?_
          refine lv_f2d hx hb dL_law_301 ((tf_n64 _).mpr (tf_f2d (tf_l2f _))) ?_
          refine lv_goto (tgt := 313) hx hb dL_law_302 (by decide) ?_
          refine va_dast (f := ow) hx hb hK hP hD hS 5 2 rfl rfl (vp_in_nI (show 5 * j + a < 60 by omega) (by decide)) dL_law_313 (fun H locs hP hD hS => ?_)
          have hP : va_P D vwCl (lT cI cJ cD cC h0 h1 h2 h3 h4 o2 o3 o4 o6 ad wd rd n K Ln (wrW K Ln Wh j (nI a) kd (kMade x kd)) (wrR K Ln Re j (nI a) kd (kMade x kd)) v (noteC ct v) (vf_upd ow (nI (5 * j + a)).toNatClampNeg (FP.f2d (FP.l2f (lMade x kd)))) lf kf ct) H := hP
          have hD : va_D A (lT cI cJ cD cC h0 h1 h2 h3 h4 o2 o3 o4 o6 ad wd rd n K Ln (wrW K Ln Wh j (nI a) kd (kMade x kd)) (wrR K Ln Re j (nI a) kd (kMade x kd)) v (noteC ct v) (vf_upd ow (nI (5 * j + a)).toNatClampNeg (FP.f2d (FP.l2f (lMade x kd)))) lf kf ct) := hD
          have ew : (vf_upd ow (nI (5 * j + a)).toNatClampNeg (FP.f2d (FP.l2f (lMade x kd)))) = (vf_upd ow (5 * j + (nI a).toNatClampNeg) (lVal (K j) x kd)) := by rw [nI_clamp (by omega), nI_clamp (by omega)]; unfold lVal; rw [if_pos c_9]
          rw [ew] at hP hD
          have hP : va_P D vwCl (lT cI cJ cD cC h0 h1 h2 h3 h4 o2 o3 o4 o6 ad wd rd n K Ln (wrW K Ln Wh j (nI a) kd (kMade x kd)) (wrR K Ln Re j (nI a) kd (kMade x kd)) v (noteC ct v) (vf_upd ow (5 * j + (nI a).toNatClampNeg) (lVal (K j) x kd)) lf kf ct) H := hP
          have hD : va_D A (lT cI cJ cD cC h0 h1 h2 h3 h4 o2 o3 o4 o6 ad wd rd n K Ln (wrW K Ln Wh j (nI a) kd (kMade x kd)) (wrR K Ln Re j (nI a) kd (kMade x kd)) v (noteC ct v) (vf_upd ow (5 * j + (nI a).toNatClampNeg) (lVal (K j) x kd)) lf kf ct) := hD
          refine lv_goto (tgt := 649) hx hb dL_law_314 (by decide) ?_
          refine W.widen (k := ce + 3) (n := sl + 44) (by omega) (by omega) ?_
          exact kc ad wd rd n K Ln (wrW K Ln Wh j (nI a) kd (kMade x kd)) (wrR K Ln Re j (nI a) kd (kMade x kd)) (vf_upd ow (5 * j + (nI a).toNatClampNeg) (lVal (K j) x kd)) lf kf _ _ _ _ (PI_ww hI hj hf hc0) (h10) (hv6) hP hD hS (lv_sub hl [0, 6, 7, 8, 9, 10, 11, 12, 13] rfl)
  · refine lv_iload hx hb dL_law_203 (lv_at hl 0 rfl) ?_
    refine lv_if_le (tgt := 213) hx hb dL_law_205 (by decide) (fun c_10 => ?_) (fun c_10 => ?_)
    · have hc0 : kCol (K j) = 0 := kCol_le c_10
      have hh : kHas (K j) = true := kCol_has (hI.2.1.2.1 j hj).1 hc0
      obtain ⟨k9, hk9, ek9⟩ := kHas_n hh
      obtain ⟨k8, hk8, rfl⟩ := kHas_n hkd
      refine lv_iload hx hb dL_law_213 (lv_at hl 2 rfl) ?_
      refine lv_if_lt (tgt := 227) hx hb dL_law_215 (by decide) (fun c_11 => ?_) (fun c_11 => ?_)
      · refine lv_iconst (v := 3) hx hb dL_law_227 (by decide) ?_
        refine lv_goto (tgt := 249) hx hb dL_law_228 (by decide) ?_
        exact k249 _ _ ⟨_, cdR_3a hc0 c_11, rfl, hl⟩
      · refine lv_iload hx hb dL_law_218 (lv_at hl 2 rfl) ?_
        refine lv_aload_n hx hb dL_law_220 rfl (lv_at hl 9 rfl) ?_
        refine lv_iload hx hb dL_law_221 (lv_at hl 3 rfl) ?_
        refine tc_iald (f := lf) (v := (nI (Ln j))) hx hb hK hP 6 0 rfl rfl (vp_in_nI (show j < 12 by omega) (by decide)) (PI_lf hI hj) dL_law_223 ?_
        refine lv_icmp_lt (tgt := 231) hx hb dL_law_224 (by decide) (fun c_12 => ?_) (fun c_12 => ?_)
        · refine lv_iload hx hb dL_law_231 (lv_at hl 1 rfl) ?_
          refine lv_aload hx hb dL_law_233 (lv_at hl 8 rfl) ?_
          refine lv_iload hx hb dL_law_235 (lv_at hl 3 rfl) ?_
          refine tc_iald (f := kf) (v := (nI (k9 + 1))) hx hb hK hP 7 0 rfl rfl (vp_in_nI (show j < 12 by omega) (by decide)) ((PI_kf hI hj).trans ek9) dL_law_237 ?_
          refine vp_callSi (W.runS (As := [.int (nI (k8 + 1)), .int (nI (k9 + 1))]) (rest := []) ⟨hx, hb, hml, hown, hts⟩ (lL_widens l adK adV k8 k9 hk8 hk9) (va_cwS 2 hts gL_law_L_widens rfl rfl rfl (by decide +kernel) ⟨Nat.le_of_ble_eq_true rfl, Nat.le_of_ble_eq_true rfl⟩) ⟨twP.blind, twP.go hT hTR hS⟩ rfl rfl hl.1 rfl (lv_room (Nat.le_of_ble_eq_true rfl)) dL_law_238 ⟨by show _ ≤ 600086; omega, by show _ ≤ 7301442; omega⟩) (fun r9 h9 => ?_)
          subst h9
          rw [← ek9]
          refine lv_if_eq (tgt := 248) hx hb dL_law_241 (by decide) (fun c_13 => ?_) (fun c_13 => ?_)
          · refine lv_iconst (v := 4) hx hb dL_law_248 (by decide) ?_
            exact k249 _ _ ⟨_, cdR_w4 hc0 hh c_11 c_12 c_13, rfl, hl⟩
          · refine lv_iconst (v := 0) hx hb dL_law_244 (by decide) ?_
            refine lv_goto (tgt := 249) hx hb dL_law_245 (by decide) ?_
            exact k249 _ _ ⟨_, cdR_w0 hc0 hh c_11 c_12 c_13, rfl, hl⟩
        · refine lv_iconst (v := 3) hx hb dL_law_227 (by decide) ?_
          refine lv_goto (tgt := 249) hx hb dL_law_228 (by decide) ?_
          exact k249 _ _ ⟨_, cdR_3b hc0 hh c_11 c_12, rfl, hl⟩
    · refine lv_iload hx hb dL_law_208 (lv_at hl 0 rfl) ?_
      refine lv_goto (tgt := 249) hx hb dL_law_210 (by decide) ?_
      exact k249 _ _ ⟨_, cdR_c (fun z => c_10 (by rw [z]; decide)), rfl, hl⟩
set_option maxHeartbeats 4000000 in
set_option maxRecDepth 100000 in
theorem law_c {p : Program} {l : Launch} {e : Env} {s : State} {m : MethodId} {below : List Frame} {meth : Method} {c : Code} {D : va_G} {A : Nat → Prop} {cI cJ cD cC : ClassId} {h0 h1 h2 h3 h4 o2 o3 o4 o6 : Nat} {b L : Nat} {xs : Nat → Int32} {adK adV : Nat → Nat} {Q : State → Prop} (C0 : LCtx p D A cI cJ cD cC s m c b L xs adK adV) {ad wd rd : Nat → Nat} {n : Nat} {K : Nat → Int32} {Ln : Nat → Nat} {Wh : Nat → Int64} {Re : Nat → UInt64} {ow : Nat → UInt64} {lf kf : Nat → Int32} {ct : Nat → Int32} {j a k : Nat} {x : Int32} (hj : j < n) (ha : a < 7) (h10 : 10 ≤ n) (hI : PI n K Ln Wh Re ow lf kf) {ce sl : Nat} (hce : ce + 3 ≤ 600086) (hsl : sl + 44 ≤ 7301442) (kc : ∀ (ad wd rd : Nat → Nat) (n : Nat) (K : Nat → Int32) (Ln : Nat → Nat) (Wh : Nat → Int64) (Re : Nat → UInt64) (ow : Nat → UInt64) (lf kf : Nat → Int32) (v : Int32) (H : Heap) (locs : List Loc) (ls : Array Slot), PI n K Ln Wh Re ow lf kf → 10 ≤ n → vp_in v 6 → va_P D vwCl (lT cI cJ cD cC h0 h1 h2 h3 h4 o2 o3 o4 o6 ad wd rd n K Ln Wh Re v (noteC ct v) ow lf kf ct) H → va_D A (lT cI cJ cD cC h0 h1 h2 h3 h4 o2 o3 o4 o6 ad wd rd n K Ln Wh Re v (noteC ct v) ow lf kf ct) → va_S A s.heap H locs → lv_has ls 18 [(13, .int v), (7, .int (nI k)), (6, .ref o6), (5, .int (nI n)), (4, .ref o4), (3, .ref o3), (2, .ref o2), (1, .ref h0), (0, .ref b)] → W p l e room_1 s m #[Value.ref b] below meth c H locs (ce + 3) (sl + 44) Q (F0 m 649 ls [])) {cd : Int32} {H : Heap} {locs : List Loc} {ls : Array Slot} (hP : va_P D vwCl (lT cI cJ cD cC h0 h1 h2 h3 h4 o2 o3 o4 o6 ad wd rd n K Ln Wh Re cd ct ow lf kf ct) H) (hD : va_D A (lT cI cJ cD cC h0 h1 h2 h3 h4 o2 o3 o4 o6 ad wd rd n K Ln Wh Re cd ct ow lf kf ct)) (hS : va_S A s.heap H locs) (hl : lv_has ls 18 [(10, .int (nI a - 1)), (9, .int (nI j)), (8, .int x), (7, .int (nI k)), (6, .ref o6), (5, .int (nI n)), (4, .ref o4), (3, .ref o3), (2, .ref o2), (1, .ref h0), (0, .ref b)]) : W p l e room_1 s m #[Value.ref b] below meth c H locs ce sl Q (F0 m 325 ls []) := by
  obtain ⟨hx, hb, hml, hown, hts, hX, hbl, hbA, hA, hL, hK, hE, hT, hTR⟩ := C0
  have hn12 := hI.1
  refine lv_iload hx hb dL_law_325 (lv_at hl 2 rfl) ?_
  refine lv_bipush (v := 15) hx hb dL_law_327 (by decide) ?_
  refine lv_ishr hx hb dL_law_329 ?_
  refine lv_iload hx hb dL_law_330 (lv_at hl 5 rfl) ?_
  refine vp_callSi (W.runS (As := [.int (x >>> (15 &&& 31)), .int (nI n)]) (rest := []) ⟨hx, hb, hml, hown, hts⟩ (lL_below l (x >>> (15 &&& 31)) n (by omega) (by omega)) (va_cwS 2 hts gL_law_L_below rfl rfl rfl (by decide +kernel) ⟨Nat.le_of_ble_eq_true rfl, Nat.le_of_ble_eq_true rfl⟩) ⟨fun a U g mk q => q, fun U hU hW => ⟨rfl, trivial⟩⟩ rfl rfl hl.1 rfl (lv_room (Nat.le_of_ble_eq_true rfl)) dL_law_332 ⟨by show _ ≤ 600086; omega, by show _ ≤ 7301442; omega⟩) (fun r9 h9 => ?_)
  obtain ⟨j2, hj2, rfl⟩ := h9
  refine lv_istore (lv' := [(14, .int (nI j2)), (10, .int (nI a - 1)), (9, .int (nI j)), (8, .int x), (7, .int (nI k)), (6, .ref o6), (5, .int (nI n)), (4, .ref o4), (3, .ref o3), (2, .ref o2), (1, .ref h0), (0, .ref b)]) hx hb dL_law_335 hl (by decide) rfl (fun ls hl => ?_)
  refine lv_iload hx hb dL_law_337 (lv_at hl 3 rfl) ?_
  refine lv_bipush (v := 19) hx hb dL_law_339 (by decide) ?_
  refine lv_ishr hx hb dL_law_341 ?_
  refine lv_iconst (v := 4) hx hb dL_law_342 (by decide) ?_
  refine vp_callSi (W.runS (As := [.int (x >>> (19 &&& 31)), .int (nI 4)]) (rest := []) ⟨hx, hb, hml, hown, hts⟩ (lL_below l (x >>> (19 &&& 31)) 4 (by omega) (by omega)) (va_cwS 2 hts gL_law_L_below rfl rfl rfl (by decide +kernel) ⟨Nat.le_of_ble_eq_true rfl, Nat.le_of_ble_eq_true rfl⟩) ⟨fun a U g mk q => q, fun U hU hW => ⟨rfl, trivial⟩⟩ rfl rfl hl.1 rfl (lv_room (Nat.le_of_ble_eq_true rfl)) dL_law_343 ⟨by show _ ≤ 600086; omega, by show _ ≤ 7301442; omega⟩) (fun r9 h9 => ?_)
  obtain ⟨mm, hmm, rfl⟩ := h9
  refine lv_istore (lv' := [(15, .int (nI mm)), (14, .int (nI j2)), (10, .int (nI a - 1)), (9, .int (nI j)), (8, .int x), (7, .int (nI k)), (6, .ref o6), (5, .int (nI n)), (4, .ref o4), (3, .ref o3), (2, .ref o2), (1, .ref h0), (0, .ref b)]) hx hb dL_law_346 hl (by decide) rfl (fun ls hl => ?_)
  have hLj := (hI.2.2.1 j hj).2.2
  have hLj2 := (hI.2.2.1 j2 hj2).2.2
  have hr := (hI.2.1.2.1 j hj).1
  refine tc_join 438 (fun ls st => ∃ v8, v8 = (cpC K Ln j j2 (nI a - 1) 0 (nI mm)) ∧ st = [.int v8] ∧ lv_has ls 18 [(15, .int (nI mm)), (14, .int (nI j2)), (10, .int (nI a - 1)), (9, .int (nI j)), (7, .int (nI k)), (6, .ref o6), (5, .int (nI n)), (4, .ref o4), (3, .ref o3), (2, .ref o2), (1, .ref h0), (0, .ref b)]) (fun ls st hj9 => ?_) (fun k438 => ?_)
  · obtain ⟨v, ev, rfl, hl⟩ := hj9
    have hv6 : vp_in v 6 := by rw [ev]; exact cpC_in _ _ _ _ _ _ _
    refine lv_istore (lv' := [(13, .int v), (15, .int (nI mm)), (14, .int (nI j2)), (10, .int (nI a - 1)), (9, .int (nI j)), (7, .int (nI k)), (6, .ref o6), (5, .int (nI n)), (4, .ref o4), (3, .ref o3), (2, .ref o2), (1, .ref h0), (0, .ref b)]) hx hb dL_law_438 hl (by decide) rfl (fun ls hl => ?_)
    refine lv_aload_n hx hb dL_law_440 rfl (lv_at hl 11 rfl) ?_
    refine lv_iload hx hb dL_law_441 (lv_at hl 4 rfl) ?_
    refine lv_iload hx hb dL_law_443 (lv_at hl 3 rfl) ?_
    refine lv_iload hx hb dL_law_445 (lv_at hl 2 rfl) ?_
    refine lv_iconst (v := 0) hx hb dL_law_447 (by decide) ?_
    refine lv_iload hx hb dL_law_448 (lv_at hl 1 rfl) ?_
    refine va_calli (va_runV (As := [.int (nI j), .int (nI a - 1), .int (nI j2), .int 0, .int (nI mm)]) (rest := []) ⟨hx, hb, hml, hown, hts⟩ (tX2_copy l D A cI cJ cD cC h0 h1 h2 h3 h4 ad wd rd (lY cI cD o2 o3 o4 o6 ow lf kf ct) n K Ln Wh Re cd ct H.size hI.2.1 j hj j2 hj2 (nI a - 1) 0 (nI mm)) (cwV 5 hts gL_law_X2_copy rfl rfl rfl (by decide +kernel) ⟨Nat.le_of_ble_eq_true rfl, Nat.le_of_ble_eq_true rfl⟩) ⟨tcP.blind, va_recv hK hP (ci := 2) (q0 := 0) rfl rfl, tcP.go hK hP hD hE hS⟩ rfl rfl hl.1 rfl (lv_room (Nat.le_of_ble_eq_true rfl)) dL_law_450 ⟨by show _ ≤ 600086; omega, by show _ ≤ 7301442; omega⟩) hS (fun q _ h => h) (fun q h => h) (fun r9 u9 t9 H locs ht9 hvm9 hw9 hB9 hz9 hk9 hS => ?_)
    obtain ⟨hP, hD⟩ := hB9
    rw [ht9] at hP
    obtain rfl : v = r9 := ev.trans hw9.symm
    rw [← ev] at hP hD
    refine lv_iload hx hb dL_law_453 (lv_at hl 0 rfl) ?_
    refine lv_icmp_eq (tgt := 460) hx hb dL_law_455 (by decide) (fun _ => ?_) (fun q => absurd (rfl) q)
    refine lv_iconst (v := 0) hx hb dL_law_460 (by decide) ?_
    refine lv_istore (lv' := [(17, .int 0), (13, .int v), (15, .int (nI mm)), (14, .int (nI j2)), (10, .int (nI a - 1)), (9, .int (nI j)), (7, .int (nI k)), (6, .ref o6), (5, .int (nI n)), (4, .ref o4), (3, .ref o3), (2, .ref o2), (1, .ref h0), (0, .ref b)]) hx hb dL_law_461 hl (by decide) rfl (fun ls hl => ?_)
    rcases Decidable.em (v = 0) with hv0 | hv0
    · obtain ⟨a1, ea, g1, g2⟩ := cpC_a ha hmm hr hLj hLj2 (ev.symm.trans hv0)
      subst ea
      have ei : nI (a1 + 1) - 1 = nI a1 := pk_sub (b := 1) (Nat.le_add_left 1 a1)
      rw [ei] at hP hD hl ev
      refine tc_loop (fun r9 H locs ls => ∃ (q : Nat), q + r9 = mm ∧ va_P D vwCl (lT cI cJ cD cC h0 h1 h2 h3 h4 o2 o3 o4 o6 ad wd rd n K Ln (cpW K Ln Wh j j2 (nI a1) 0 (nI mm)) (cpW K Ln Re j j2 (nI a1) 0 (nI mm)) v (noteC ct v) (va_cpy ow ow (5 * j + a1) (5 * j2) q) lf kf ct) H ∧ va_D A (lT cI cJ cD cC h0 h1 h2 h3 h4 o2 o3 o4 o6 ad wd rd n K Ln (cpW K Ln Wh j j2 (nI a1) 0 (nI mm)) (cpW K Ln Re j j2 (nI a1) 0 (nI mm)) v (noteC ct v) (va_cpy ow ow (5 * j + a1) (5 * j2) q) lf kf ct) ∧ va_S A s.heap H locs ∧ lv_has ls 18 [(17, .int (nI q)), (13, .int v), (15, .int (nI mm)), (14, .int (nI j2)), (10, .int (nI a1)), (9, .int (nI j)), (7, .int (nI k)), (6, .ref o6), (5, .int (nI n)), (4, .ref o4), (3, .ref o3), (2, .ref o2), (1, .ref h0), (0, .ref b)]) (fun r9 H locs ls hv ih => ?_) (fun H locs ls hv => ?_) mm ⟨0, by omega, by rw [va_cpy_0]; exact hP, by rw [va_cpy_0]; exact hD, hS, lv_sub hl [0, 1, 2, 3, 4, 5, 6, 7, 8, 9, 10, 11, 12, 13] rfl⟩
      · obtain ⟨q, hqn, hP, hD, hS, hl⟩ := hv
        have hq : q < mm := by omega
        refine lv_iload hx hb dL_law_463 (lv_at hl 0 rfl) ?_
        refine lv_iload hx hb dL_law_465 (lv_at hl 2 rfl) ?_
        refine lv_icmp_ge (tgt := 502) hx hb dL_law_467 (by decide) (fun q => absurd q (nI_ge hq (by omega))) (fun _ => ?_)
        refine lv_iload hx hb dL_law_470 (lv_at hl 1 rfl) ?_
        refine lv_if_ne (tgt := 502) hx hb dL_law_472 (by decide) (fun q => absurd (hv0) q) (fun _ => ?_)
        refine lv_aload_n hx hb dL_law_475 rfl (lv_at hl 11 rfl) ?_
        refine lv_iconst (v := 5) hx hb dL_law_476 (by decide) ?_
        refine lv_iload hx hb dL_law_477 (lv_at hl 3 rfl) ?_
        refine lv_imul hx hb dL_law_479 ?_
        refine lv_iload hx hb dL_law_480 (lv_at hl 0 rfl) ?_
        refine lv_iadd hx hb dL_law_482 ?_
        refine lv_topi (fun x9 e9 => ?_)
        obtain rfl : x9 = nI (5 * j2 + q) := by rw [e9]; exact ix5 j2 q
        refine lv_aload_n hx hb dL_law_483 rfl (lv_at hl 11 rfl) ?_
        refine lv_iconst (v := 5) hx hb dL_law_484 (by decide) ?_
        refine lv_iload hx hb dL_law_485 (lv_at hl 5 rfl) ?_
        refine lv_imul hx hb dL_law_487 ?_
        refine lv_iload hx hb dL_law_488 (lv_at hl 4 rfl) ?_
        refine lv_iadd hx hb dL_law_490 ?_
        refine lv_iload hx hb dL_law_491 (lv_at hl 0 rfl) ?_
        refine lv_iadd hx hb dL_law_493 ?_
        refine lv_topi (fun x9 e9 => ?_)
        obtain rfl : x9 = nI (5 * j + a1 + q) := by rw [e9]; rw [ix5, nI_add]
        refine tc_dald (f := (va_cpy ow ow (5 * j + a1) (5 * j2) q)) (v := (ow (5 * j + a1 + q))) hx hb hK hP 5 2 rfl rfl (vp_in_nI (show 5 * j + a1 + q < 60 by omega) (by decide)) (by rw [nI_clamp (by omega)]; exact if_neg (by omega)) dL_law_494 ?_
        refine va_dast (f := (va_cpy ow ow (5 * j + a1) (5 * j2) q)) hx hb hK hP hD hS 5 2 rfl rfl (vp_in_nI (show 5 * j2 + q < 60 by omega) (by decide)) dL_law_495 (fun H locs hP hD hS => ?_)
        have hP : va_P D vwCl (lT cI cJ cD cC h0 h1 h2 h3 h4 o2 o3 o4 o6 ad wd rd n K Ln (cpW K Ln Wh j j2 (nI a1) 0 (nI mm)) (cpW K Ln Re j j2 (nI a1) 0 (nI mm)) v (noteC ct v) (vf_upd (va_cpy ow ow (5 * j + a1) (5 * j2) q) (nI (5 * j2 + q)).toNatClampNeg (ow (5 * j + a1 + q))) lf kf ct) H := hP
        have hD : va_D A (lT cI cJ cD cC h0 h1 h2 h3 h4 o2 o3 o4 o6 ad wd rd n K Ln (cpW K Ln Wh j j2 (nI a1) 0 (nI mm)) (cpW K Ln Re j j2 (nI a1) 0 (nI mm)) v (noteC ct v) (vf_upd (va_cpy ow ow (5 * j + a1) (5 * j2) q) (nI (5 * j2 + q)).toNatClampNeg (ow (5 * j + a1 + q))) lf kf ct) := hD
        have ew : vf_upd (va_cpy ow ow (5 * j + a1) (5 * j2) q) (nI (5 * j2 + q)).toNatClampNeg (ow (5 * j + a1 + q)) = (va_cpy ow ow (5 * j + a1) (5 * j2) (q + 1)) := by rw [nI_clamp (by omega)]; exact va_cpy_s ow (5 * j + a1) (5 * j2) q
        rw [ew] at hP hD
        have hP : va_P D vwCl (lT cI cJ cD cC h0 h1 h2 h3 h4 o2 o3 o4 o6 ad wd rd n K Ln (cpW K Ln Wh j j2 (nI a1) 0 (nI mm)) (cpW K Ln Re j j2 (nI a1) 0 (nI mm)) v (noteC ct v) (va_cpy ow ow (5 * j + a1) (5 * j2) (q + 1)) lf kf ct) H := hP
        have hD : va_D A (lT cI cJ cD cC h0 h1 h2 h3 h4 o2 o3 o4 o6 ad wd rd n K Ln (cpW K Ln Wh j j2 (nI a1) 0 (nI mm)) (cpW K Ln Re j j2 (nI a1) 0 (nI mm)) v (noteC ct v) (va_cpy ow ow (5 * j + a1) (5 * j2) (q + 1)) lf kf ct) := hD
        refine lv_iinc (v := (nI (q + 1))) (lv' := [(17, .int (nI (q + 1))), (13, .int v), (15, .int (nI mm)), (14, .int (nI j2)), (10, .int (nI a1)), (9, .int (nI j)), (7, .int (nI k)), (6, .ref o6), (5, .int (nI n)), (4, .ref o4), (3, .ref o3), (2, .ref o2), (1, .ref h0), (0, .ref b)]) hx hb dL_law_496 hl (k := 0) rfl (by rw [nI_succ]; rfl) (by decide) rfl (fun ls hl => ?_)
        refine lv_goto (tgt := 463) hx hb dL_law_499 (by decide) ?_
        exact ih _ _ _ ⟨q + 1, by omega, hP, hD, hS, lv_sub hl [0, 1, 2, 3, 4, 5, 6, 7, 8, 9, 10, 11, 12, 13] rfl⟩
      · obtain ⟨q, hqn, hP, hD, hS, hl⟩ := hv
        obtain rfl : q = mm := by omega
        refine lv_iload hx hb dL_law_463 (lv_at hl 0 rfl) ?_
        refine lv_iload hx hb dL_law_465 (lv_at hl 2 rfl) ?_
        refine lv_icmp_ge (tgt := 502) hx hb dL_law_467 (by decide) (fun _ => ?_) (fun q => absurd (nI_le (Nat.le_refl _) (by omega)) q)
        refine lv_goto (tgt := 649) hx hb dL_law_502 (by decide) ?_
        refine W.widen (k := ce + 3) (n := sl + 44) (by omega) (by omega) ?_
        exact kc ad wd rd n K Ln (cpW K Ln Wh j j2 (nI a1) 0 (nI q)) (cpW K Ln Re j j2 (nI a1) 0 (nI q)) (va_cpy ow ow (5 * j + a1) (5 * j2) q) lf kf _ _ _ _ (PI_cp hI hj hj2 (by omega) (by omega) (ev.symm.trans hv0)) (h10) (hv6) hP hD hS (lv_sub hl [1, 6, 7, 8, 9, 10, 11, 12, 13] rfl)
    · refine lv_iload hx hb dL_law_463 (lv_at hl 0 rfl) ?_
      refine lv_iload hx hb dL_law_465 (lv_at hl 2 rfl) ?_
      refine lv_icmp_ge (tgt := 502) hx hb dL_law_467 (by decide) (fun c_5 => ?_) (fun c_5 => ?_)
      · refine lv_goto (tgt := 649) hx hb dL_law_502 (by decide) ?_
        refine W.widen (k := ce + 3) (n := sl + 44) (by omega) (by omega) ?_
        exact kc ad wd rd n K Ln (cpW K Ln Wh j j2 (nI a - 1) 0 (nI mm)) (cpW K Ln Re j j2 (nI a - 1) 0 (nI mm)) ow lf kf _ _ _ _ (PI_cp0 hI (by rw [← ev]; exact hv0)) (h10) (hv6) hP hD hS (lv_sub hl [1, 6, 7, 8, 9, 10, 11, 12, 13] rfl)
      · refine lv_iload hx hb dL_law_470 (lv_at hl 1 rfl) ?_
        refine lv_if_ne (tgt := 502) hx hb dL_law_472 (by decide) (fun _ => ?_) (fun q => absurd q (hv0))
        refine lv_goto (tgt := 649) hx hb dL_law_502 (by decide) ?_
        refine W.widen (k := ce + 3) (n := sl + 44) (by omega) (by omega) ?_
        exact kc ad wd rd n K Ln (cpW K Ln Wh j j2 (nI a - 1) 0 (nI mm)) (cpW K Ln Re j j2 (nI a - 1) 0 (nI mm)) ow lf kf _ _ _ _ (PI_cp0 hI (by rw [← ev]; exact hv0)) (h10) (hv6) hP hD hS (lv_sub hl [1, 6, 7, 8, 9, 10, 11, 12, 13] rfl)
  · refine lv_aload hx hb dL_law_348 (lv_at hl 8 rfl) ?_
    refine lv_iload hx hb dL_law_350 (lv_at hl 3 rfl) ?_
    refine tc_iald (f := kf) (v := (K j)) hx hb hK hP 7 0 rfl rfl (vp_in_nI (show j < 12 by omega) (by decide)) (PI_kf hI hj) dL_law_352 ?_
    refine lv_if_eq (tgt := 364) hx hb dL_law_353 (by decide) (fun c_7 => ?_) (fun c_7 => ?_)
    · refine lv_iconst (v := 1) hx hb dL_law_364 (by decide) ?_
      refine lv_goto (tgt := 369) hx hb dL_law_365 (by decide) ?_
      refine lv_istore (lv' := [(16, .int 1), (15, .int (nI mm)), (14, .int (nI j2)), (10, .int (nI a - 1)), (9, .int (nI j)), (8, .int x), (7, .int (nI k)), (6, .ref o6), (5, .int (nI n)), (4, .ref o4), (3, .ref o3), (2, .ref o2), (1, .ref h0), (0, .ref b)]) hx hb dL_law_369 hl (by decide) rfl (fun ls hl => ?_)
      refine lv_iload hx hb dL_law_371 (lv_at hl 0 rfl) ?_
      refine lv_if_eq (tgt := 380) hx hb dL_law_373 (by decide) (fun q => absurd q (by decide)) (fun _ => ?_)
      refine lv_iconst (v := 1) hx hb dL_law_376 (by decide) ?_
      refine lv_goto (tgt := 438) hx hb dL_law_377 (by decide) ?_
      exact k438 _ _ ⟨_, cpC_1a c_7, rfl, lv_sub hl [1, 2, 3, 4, 6, 7, 8, 9, 10, 11, 12, 13] rfl⟩
    · refine lv_aload hx hb dL_law_356 (lv_at hl 8 rfl) ?_
      refine lv_iload hx hb dL_law_358 (lv_at hl 1 rfl) ?_
      refine tc_iald (f := kf) (v := (K j2)) hx hb hK hP 7 0 rfl rfl (vp_in_nI (show j2 < 12 by omega) (by decide)) (PI_kf hI hj2) dL_law_360 ?_
      refine lv_if_ne (tgt := 368) hx hb dL_law_361 (by decide) (fun c_9 => ?_) (fun c_9 => ?_)
      · refine lv_iconst (v := 0) hx hb dL_law_368 (by decide) ?_
        refine lv_istore (lv' := [(16, .int 0), (15, .int (nI mm)), (14, .int (nI j2)), (10, .int (nI a - 1)), (9, .int (nI j)), (8, .int x), (7, .int (nI k)), (6, .ref o6), (5, .int (nI n)), (4, .ref o4), (3, .ref o3), (2, .ref o2), (1, .ref h0), (0, .ref b)]) hx hb dL_law_369 hl (by decide) rfl (fun ls hl => ?_)
        refine lv_iload hx hb dL_law_371 (lv_at hl 0 rfl) ?_
        refine lv_if_eq (tgt := 380) hx hb dL_law_373 (by decide) (fun _ => ?_) (fun q => absurd (by decide) q)
        refine lv_aload hx hb dL_law_380 (lv_at hl 9 rfl) ?_
        refine lv_iload hx hb dL_law_382 (lv_at hl 4 rfl) ?_
        refine tc_iald (f := kf) (v := (K j)) hx hb hK hP 7 0 rfl rfl (vp_in_nI (show j < 12 by omega) (by decide)) (PI_kf hI hj) dL_law_384 ?_
        refine lv_aload hx hb dL_law_385 (lv_at hl 9 rfl) ?_
        refine lv_iload hx hb dL_law_387 (lv_at hl 2 rfl) ?_
        refine tc_iald (f := kf) (v := (K j2)) hx hb hK hP 7 0 rfl rfl (vp_in_nI (show j2 < 12 by omega) (by decide)) (PI_kf hI hj2) dL_law_389 ?_
        refine lv_icmp_ne (tgt := 403) hx hb dL_law_390 (by decide) (fun c_11 => ?_) (fun c_11 => ?_)
        · refine lv_iconst (v := 5) hx hb dL_law_403 (by decide) ?_
          refine lv_goto (tgt := 438) hx hb dL_law_404 (by decide) ?_
          exact k438 _ _ ⟨_, cpC_5a c_7 c_9 c_11, rfl, lv_sub hl [1, 2, 3, 4, 6, 7, 8, 9, 10, 11, 12, 13] rfl⟩
        · refine lv_aload hx hb dL_law_393 (lv_at hl 9 rfl) ?_
          refine lv_iload hx hb dL_law_395 (lv_at hl 4 rfl) ?_
          refine tc_iald (f := kf) (v := (K j)) hx hb hK hP 7 0 rfl rfl (vp_in_nI (show j < 12 by omega) (by decide)) (PI_kf hI hj) dL_law_397 ?_
          refine lv_bipush (v := 9) hx hb dL_law_398 (by decide) ?_
          refine lv_icmp_ne (tgt := 407) hx hb dL_law_400 (by decide) (fun c_12 => ?_) (fun c_12 => ?_)
          · refine lv_iload hx hb dL_law_407 (lv_at hl 3 rfl) ?_
            refine lv_if_lt (tgt := 433) hx hb dL_law_409 (by decide) (fun c_13 => ?_) (fun c_13 => ?_)
            · refine lv_iconst (v := 3) hx hb dL_law_433 (by decide) ?_
              refine lv_goto (tgt := 438) hx hb dL_law_434 (by decide) ?_
              exact k438 _ _ ⟨_, cpC_3a ha hmm hLj hr c_7 c_9 c_11 c_12 c_13, rfl, lv_sub hl [1, 2, 3, 4, 6, 7, 8, 9, 10, 11, 12, 13] rfl⟩
            · refine lv_iload hx hb dL_law_412 (lv_at hl 3 rfl) ?_
              refine lv_iload hx hb dL_law_414 (lv_at hl 1 rfl) ?_
              refine lv_iadd hx hb dL_law_416 ?_
              refine lv_aload_n hx hb dL_law_417 rfl (lv_at hl 10 rfl) ?_
              refine lv_iload hx hb dL_law_418 (lv_at hl 4 rfl) ?_
              refine tc_iald (f := lf) (v := (nI (Ln j))) hx hb hK hP 6 0 rfl rfl (vp_in_nI (show j < 12 by omega) (by decide)) (PI_lf hI hj) dL_law_420 ?_
              refine lv_icmp_gt (tgt := 433) hx hb dL_law_421 (by decide) (fun c_14 => ?_) (fun c_14 => ?_)
              · refine lv_iconst (v := 3) hx hb dL_law_433 (by decide) ?_
                refine lv_goto (tgt := 438) hx hb dL_law_434 (by decide) ?_
                exact k438 _ _ ⟨_, cpC_3b ha hmm hLj hr c_7 c_9 c_11 c_12 c_14, rfl, lv_sub hl [1, 2, 3, 4, 6, 7, 8, 9, 10, 11, 12, 13] rfl⟩
              · refine lv_iload hx hb dL_law_424 (lv_at hl 1 rfl) ?_
                refine lv_aload_n hx hb dL_law_426 rfl (lv_at hl 10 rfl) ?_
                refine lv_iload hx hb dL_law_427 (lv_at hl 2 rfl) ?_
                refine tc_iald (f := lf) (v := (nI (Ln j2))) hx hb hK hP 6 0 rfl rfl (vp_in_nI (show j2 < 12 by omega) (by decide)) (PI_lf hI hj2) dL_law_429 ?_
                refine lv_icmp_le (tgt := 437) hx hb dL_law_430 (by decide) (fun c_15 => ?_) (fun c_15 => ?_)
                · refine lv_iconst (v := 0) hx hb dL_law_437 (by decide) ?_
                  exact k438 _ _ ⟨_, cpC_00 ha hmm hLj hLj2 hr c_7 c_9 c_11 c_12 c_13 c_14 c_15, rfl, lv_sub hl [1, 2, 3, 4, 6, 7, 8, 9, 10, 11, 12, 13] rfl⟩
                · refine lv_iconst (v := 3) hx hb dL_law_433 (by decide) ?_
                  refine lv_goto (tgt := 438) hx hb dL_law_434 (by decide) ?_
                  exact k438 _ _ ⟨_, cpC_3c hmm hLj2 hr c_7 c_9 c_11 c_12 c_15, rfl, lv_sub hl [1, 2, 3, 4, 6, 7, 8, 9, 10, 11, 12, 13] rfl⟩
          · refine lv_iconst (v := 5) hx hb dL_law_403 (by decide) ?_
            refine lv_goto (tgt := 438) hx hb dL_law_404 (by decide) ?_
            exact k438 _ _ ⟨_, cpC_5b c_7 c_9 c_11 c_12, rfl, lv_sub hl [1, 2, 3, 4, 6, 7, 8, 9, 10, 11, 12, 13] rfl⟩
      · refine lv_iconst (v := 1) hx hb dL_law_364 (by decide) ?_
        refine lv_goto (tgt := 369) hx hb dL_law_365 (by decide) ?_
        refine lv_istore (lv' := [(16, .int 1), (15, .int (nI mm)), (14, .int (nI j2)), (10, .int (nI a - 1)), (9, .int (nI j)), (8, .int x), (7, .int (nI k)), (6, .ref o6), (5, .int (nI n)), (4, .ref o4), (3, .ref o3), (2, .ref o2), (1, .ref h0), (0, .ref b)]) hx hb dL_law_369 hl (by decide) rfl (fun ls hl => ?_)
        refine lv_iload hx hb dL_law_371 (lv_at hl 0 rfl) ?_
        refine lv_if_eq (tgt := 380) hx hb dL_law_373 (by decide) (fun q => absurd q (by decide)) (fun _ => ?_)
        refine lv_iconst (v := 1) hx hb dL_law_376 (by decide) ?_
        refine lv_goto (tgt := 438) hx hb dL_law_377 (by decide) ?_
        exact k438 _ _ ⟨_, cpC_1b c_7 c_9, rfl, lv_sub hl [1, 2, 3, 4, 6, 7, 8, 9, 10, 11, 12, 13] rfl⟩
set_option maxHeartbeats 4000000 in
set_option maxRecDepth 100000 in
theorem law_d {p : Program} {l : Launch} {e : Env} {s : State} {m : MethodId} {below : List Frame} {meth : Method} {c : Code} {D : va_G} {A : Nat → Prop} {cI cJ cD cC : ClassId} {h0 h1 h2 h3 h4 o2 o3 o4 o6 : Nat} {b L : Nat} {xs : Nat → Int32} {adK adV : Nat → Nat} {Q : State → Prop} (C0 : LCtx p D A cI cJ cD cC s m c b L xs adK adV) {ad wd rd : Nat → Nat} {n : Nat} {K : Nat → Int32} {Ln : Nat → Nat} {Wh : Nat → Int64} {Re : Nat → UInt64} {ow : Nat → UInt64} {lf kf : Nat → Int32} {ct : Nat → Int32} {j k : Nat} {kd : Int32} (hj : j < n) (h10 : 10 ≤ n) (hkd : kHas kd = true) (hI : PI n K Ln Wh Re ow lf kf) {ce sl : Nat} (hce : ce + 3 ≤ 600086) (hsl : sl + 44 ≤ 7301442) (kc : ∀ (ad wd rd : Nat → Nat) (n : Nat) (K : Nat → Int32) (Ln : Nat → Nat) (Wh : Nat → Int64) (Re : Nat → UInt64) (ow : Nat → UInt64) (lf kf : Nat → Int32) (v : Int32) (H : Heap) (locs : List Loc) (ls : Array Slot), PI n K Ln Wh Re ow lf kf → 10 ≤ n → vp_in v 6 → va_P D vwCl (lT cI cJ cD cC h0 h1 h2 h3 h4 o2 o3 o4 o6 ad wd rd n K Ln Wh Re v (noteC ct v) ow lf kf ct) H → va_D A (lT cI cJ cD cC h0 h1 h2 h3 h4 o2 o3 o4 o6 ad wd rd n K Ln Wh Re v (noteC ct v) ow lf kf ct) → va_S A s.heap H locs → lv_has ls 18 [(13, .int v), (7, .int (nI k)), (6, .ref o6), (5, .int (nI n)), (4, .ref o4), (3, .ref o3), (2, .ref o2), (1, .ref h0), (0, .ref b)] → W p l e room_1 s m #[Value.ref b] below meth c H locs (ce + 3) (sl + 44) Q (F0 m 649 ls [])) {cd : Int32} (kc2 : ∀ (H : Heap) (locs : List Loc) (ls : Array Slot), va_P D vwCl (lT cI cJ cD cC h0 h1 h2 h3 h4 o2 o3 o4 o6 ad wd rd n K Ln Wh Re cd ct ow lf kf ct) H → va_D A (lT cI cJ cD cC h0 h1 h2 h3 h4 o2 o3 o4 o6 ad wd rd n K Ln Wh Re cd ct ow lf kf ct) → va_S A s.heap H locs → lv_has ls 18 [(7, .int (nI k)), (6, .ref o6), (5, .int (nI n)), (4, .ref o4), (3, .ref o3), (2, .ref o2), (1, .ref h0), (0, .ref b)] → W p l e room_1 s m #[Value.ref b] below meth c H locs (ce + 3) (sl + 44) Q (F0 m 831 ls [])) {H : Heap} {locs : List Loc} {ls : Array Slot} (hP : va_P D vwCl (lT cI cJ cD cC h0 h1 h2 h3 h4 o2 o3 o4 o6 ad wd rd n K Ln Wh Re cd ct ow lf kf ct) H) (hD : va_D A (lT cI cJ cD cC h0 h1 h2 h3 h4 o2 o3 o4 o6 ad wd rd n K Ln Wh Re cd ct ow lf kf ct)) (hS : va_S A s.heap H locs) (hl : lv_has ls 18 [(12, .int (kCol (K j))), (11, .int kd), (9, .int (nI j)), (7, .int (nI k)), (6, .ref o6), (5, .int (nI n)), (4, .ref o4), (3, .ref o3), (2, .ref o2), (1, .ref h0), (0, .ref b)]) : W p l e room_1 s m #[Value.ref b] below meth c H locs ce sl Q (F0 m 505 ls []) := by
  obtain ⟨hx, hb, hml, hown, hts, hX, hbl, hbA, hA, hL, hK, hE, hT, hTR⟩ := C0
  have hn12 := hI.1
  have hL5 := (hI.2.2.1 j hj).2.2
  refine lv_iload hx hb dL_law_505 (lv_at hl 5 rfl) ?_
  refine lv_bipush (v := 12) hx hb dL_law_507 (by decide) ?_
  refine lv_icmp_ne (tgt := 515) hx hb dL_law_509 (by decide) (fun c_1 => ?_) (fun c_1 => ?_)
  · have hn : n < 12 := Nat.lt_of_le_of_ne hn12 (fun z => c_1 (by rw [z]; rfl))
    refine tc_join 543 (fun ls st => ∃ v8, v8 = (wdC K j kd) ∧ st = [.int v8] ∧ lv_has ls 18 [(12, .int (kCol (K j))), (11, .int kd), (9, .int (nI j)), (7, .int (nI k)), (6, .ref o6), (5, .int (nI n)), (4, .ref o4), (3, .ref o3), (2, .ref o2), (1, .ref h0), (0, .ref b)]) (fun ls st hj9 => ?_) (fun k543 => ?_)
    · obtain ⟨v, ev, rfl, hl⟩ := hj9
      have hv6 : vp_in v 6 := by rw [ev]; exact wdC_in _ _ _
      refine lv_istore (lv' := [(13, .int v), (12, .int (kCol (K j))), (11, .int kd), (9, .int (nI j)), (7, .int (nI k)), (6, .ref o6), (5, .int (nI n)), (4, .ref o4), (3, .ref o3), (2, .ref o2), (1, .ref h0), (0, .ref b)]) hx hb dL_law_543 hl (by decide) rfl (fun ls hl => ?_)
      rcases Decidable.em (v = 0) with hv0 | hv0
      · subst hv0
        refine lv_aload_n hx hb dL_law_545 rfl (lv_at hl 10 rfl) ?_
        refine lv_iload hx hb dL_law_546 (lv_at hl 3 rfl) ?_
        refine lv_iload hx hb dL_law_548 (lv_at hl 2 rfl) ?_
        refine va_calli (va_runV (As := [.int (nI j), .int kd]) (rest := []) ⟨hx, hb, hml, hown, hts⟩ (tX2_widened l D A cI cJ cD cC h0 h1 h2 h3 h4 ad wd rd (lY cI cD o2 o3 o4 o6 ow lf kf ct) n K Ln Wh Re cd ct H.size hI.2.1 j hj (by omega) kd hkd ev.symm (fun q h => hA q (Nat.le_trans hS.1 h))) (cwV 2 hts gL_law_X2_widened rfl rfl rfl (by decide +kernel) ⟨Nat.le_of_ble_eq_true rfl, Nat.le_of_ble_eq_true rfl⟩) ⟨tcP.blind, va_recv hK hP (ci := 2) (q0 := 0) rfl rfl, tcP.go hK hP hD hE hS⟩ rfl rfl hl.1 rfl (lv_room (Nat.le_of_ble_eq_true rfl)) dL_law_550 ⟨by show _ ≤ 600086; omega, by show _ ≤ 7301442; omega⟩) hS (fun q _ h => h) (fun q h => h) (fun r9 u9 t9 H locs ht9 hvm9 hw9 hB9 hz9 hk9 hS => ?_)
        obtain ⟨hP, hD⟩ := hB9
        rw [ht9] at hP
        obtain rfl : r9 = nI n := hw9
        obtain ⟨u1, u2, u3⟩ := u9
        have hP : va_P D vwCl (lT cI cJ cD cC h0 h1 h2 h3 h4 o2 o3 o4 o6 (va_up ad n u1) (va_up wd n u2) (va_up rd n u3) (n + 1) (va_up K n kd) (va_up Ln n (Ln j)) (tc_put n (Ln j) (fun i => Wh (40 * j + i)) 0 Wh) (tc_put n (Ln j) (wdV K Wh Re j kd) 0 Re) 0 (noteC ct 0) ow lf kf ct) H := hP
        have hD : va_D A (lT cI cJ cD cC h0 h1 h2 h3 h4 o2 o3 o4 o6 (va_up ad n u1) (va_up wd n u2) (va_up rd n u3) (n + 1) (va_up K n kd) (va_up Ln n (Ln j)) (tc_put n (Ln j) (fun i => Wh (40 * j + i)) 0 Wh) (tc_put n (Ln j) (wdV K Wh Re j kd) 0 Re) 0 (noteC ct 0) ow lf kf ct) := hD
        refine lv_iload hx hb dL_law_553 (lv_at hl 0 rfl) ?_
        refine lv_if_ne (tgt := 563) hx hb dL_law_555 (by decide) (fun q => absurd (by decide) q) (fun _ => ?_)
        refine lv_iload hx hb dL_law_558 (lv_at hl 6 rfl) ?_
        refine lv_goto (tgt := 564) hx hb dL_law_560 (by decide) ?_
        refine lv_icmp_eq (tgt := 569) hx hb dL_law_564 (by decide) (fun _ => ?_) (fun q => absurd (rfl) q)
        refine lv_iload hx hb dL_law_569 (lv_at hl 0 rfl) ?_
        refine lv_if_ne (tgt := 649) hx hb dL_law_571 (by decide) (fun q => absurd (by decide) q) (fun _ => ?_)
        refine lv_aload hx hb dL_law_574 (lv_at hl 7 rfl) ?_
        refine lv_iload hx hb dL_law_576 (lv_at hl 6 rfl) ?_
        refine lv_iload hx hb dL_law_578 (lv_at hl 2 rfl) ?_
        refine va_iast (f := kf) hx hb hK hP hD hS 7 0 rfl rfl (vp_in_nI (show n < 12 by omega) (by decide)) dL_law_580 (fun H locs hP hD hS => ?_)
        have hP : va_P D vwCl (lT cI cJ cD cC h0 h1 h2 h3 h4 o2 o3 o4 o6 (va_up ad n u1) (va_up wd n u2) (va_up rd n u3) (n + 1) (va_up K n kd) (va_up Ln n (Ln j)) (tc_put n (Ln j) (fun i => Wh (40 * j + i)) 0 Wh) (tc_put n (Ln j) (wdV K Wh Re j kd) 0 Re) 0 (noteC ct 0) ow lf (upd kf (nI n).toNatClampNeg kd) ct) H := hP
        have hD : va_D A (lT cI cJ cD cC h0 h1 h2 h3 h4 o2 o3 o4 o6 (va_up ad n u1) (va_up wd n u2) (va_up rd n u3) (n + 1) (va_up K n kd) (va_up Ln n (Ln j)) (tc_put n (Ln j) (fun i => Wh (40 * j + i)) 0 Wh) (tc_put n (Ln j) (wdV K Wh Re j kd) 0 Re) 0 (noteC ct 0) ow lf (upd kf (nI n).toNatClampNeg kd) ct) := hD
        have ew : upd kf (nI n).toNatClampNeg kd = upd kf n kd := by rw [nI_clamp (by omega)]
        rw [ew] at hP hD
        have hP : va_P D vwCl (lT cI cJ cD cC h0 h1 h2 h3 h4 o2 o3 o4 o6 (va_up ad n u1) (va_up wd n u2) (va_up rd n u3) (n + 1) (va_up K n kd) (va_up Ln n (Ln j)) (tc_put n (Ln j) (fun i => Wh (40 * j + i)) 0 Wh) (tc_put n (Ln j) (wdV K Wh Re j kd) 0 Re) 0 (noteC ct 0) ow lf (upd kf n kd) ct) H := hP
        have hD : va_D A (lT cI cJ cD cC h0 h1 h2 h3 h4 o2 o3 o4 o6 (va_up ad n u1) (va_up wd n u2) (va_up rd n u3) (n + 1) (va_up K n kd) (va_up Ln n (Ln j)) (tc_put n (Ln j) (fun i => Wh (40 * j + i)) 0 Wh) (tc_put n (Ln j) (wdV K Wh Re j kd) 0 Re) 0 (noteC ct 0) ow lf (upd kf n kd) ct) := hD
        refine lv_aload_n hx hb dL_law_581 rfl (lv_at hl 8 rfl) ?_
        refine lv_iload hx hb dL_law_582 (lv_at hl 6 rfl) ?_
        refine lv_aload_n hx hb dL_law_584 rfl (lv_at hl 8 rfl) ?_
        refine lv_iload hx hb dL_law_585 (lv_at hl 3 rfl) ?_
        refine tc_iald (f := lf) (v := (nI (Ln j))) hx hb hK hP 6 0 rfl rfl (vp_in_nI (show j < 12 by omega) (by decide)) (PI_lf hI hj) dL_law_587 ?_
        refine va_iast (f := lf) hx hb hK hP hD hS 6 0 rfl rfl (vp_in_nI (show n < 12 by omega) (by decide)) dL_law_588 (fun H locs hP hD hS => ?_)
        have hP : va_P D vwCl (lT cI cJ cD cC h0 h1 h2 h3 h4 o2 o3 o4 o6 (va_up ad n u1) (va_up wd n u2) (va_up rd n u3) (n + 1) (va_up K n kd) (va_up Ln n (Ln j)) (tc_put n (Ln j) (fun i => Wh (40 * j + i)) 0 Wh) (tc_put n (Ln j) (wdV K Wh Re j kd) 0 Re) 0 (noteC ct 0) ow (upd lf (nI n).toNatClampNeg (nI (Ln j))) (upd kf n kd) ct) H := hP
        have hD : va_D A (lT cI cJ cD cC h0 h1 h2 h3 h4 o2 o3 o4 o6 (va_up ad n u1) (va_up wd n u2) (va_up rd n u3) (n + 1) (va_up K n kd) (va_up Ln n (Ln j)) (tc_put n (Ln j) (fun i => Wh (40 * j + i)) 0 Wh) (tc_put n (Ln j) (wdV K Wh Re j kd) 0 Re) 0 (noteC ct 0) ow (upd lf (nI n).toNatClampNeg (nI (Ln j))) (upd kf n kd) ct) := hD
        have ew : upd lf (nI n).toNatClampNeg (nI (Ln j)) = upd lf n (nI (Ln j)) := by rw [nI_clamp (by omega)]
        rw [ew] at hP hD
        have hP : va_P D vwCl (lT cI cJ cD cC h0 h1 h2 h3 h4 o2 o3 o4 o6 (va_up ad n u1) (va_up wd n u2) (va_up rd n u3) (n + 1) (va_up K n kd) (va_up Ln n (Ln j)) (tc_put n (Ln j) (fun i => Wh (40 * j + i)) 0 Wh) (tc_put n (Ln j) (wdV K Wh Re j kd) 0 Re) 0 (noteC ct 0) ow (upd lf n (nI (Ln j))) (upd kf n kd) ct) H := hP
        have hD : va_D A (lT cI cJ cD cC h0 h1 h2 h3 h4 o2 o3 o4 o6 (va_up ad n u1) (va_up wd n u2) (va_up rd n u3) (n + 1) (va_up K n kd) (va_up Ln n (Ln j)) (tc_put n (Ln j) (fun i => Wh (40 * j + i)) 0 Wh) (tc_put n (Ln j) (wdV K Wh Re j kd) 0 Re) 0 (noteC ct 0) ow (upd lf n (nI (Ln j))) (upd kf n kd) ct) := hD
        refine lv_iconst (v := 0) hx hb dL_law_589 (by decide) ?_
        refine lv_istore (lv' := [(14, .int 0), (13, .int 0), (12, .int (kCol (K j))), (11, .int kd), (9, .int (nI j)), (7, .int (nI k)), (6, .ref o6), (5, .int (nI n)), (4, .ref o4), (3, .ref o3), (2, .ref o2), (1, .ref h0), (0, .ref b)]) hx hb dL_law_590 hl (by decide) rfl (fun ls hl => ?_)
        refine tc_loop (fun r9 H locs ls => ∃ (q : Nat), q + r9 = Ln j ∧ va_P D vwCl (lT cI cJ cD cC h0 h1 h2 h3 h4 o2 o3 o4 o6 (va_up ad n u1) (va_up wd n u2) (va_up rd n u3) (n + 1) (va_up K n kd) (va_up Ln n (Ln j)) (tc_put n (Ln j) (fun i => Wh (40 * j + i)) 0 Wh) (tc_put n (Ln j) (wdV K Wh Re j kd) 0 Re) 0 (noteC ct 0) (lWd n j kd ow q) (upd lf n (nI (Ln j))) (upd kf n kd) ct) H ∧ va_D A (lT cI cJ cD cC h0 h1 h2 h3 h4 o2 o3 o4 o6 (va_up ad n u1) (va_up wd n u2) (va_up rd n u3) (n + 1) (va_up K n kd) (va_up Ln n (Ln j)) (tc_put n (Ln j) (fun i => Wh (40 * j + i)) 0 Wh) (tc_put n (Ln j) (wdV K Wh Re j kd) 0 Re) 0 (noteC ct 0) (lWd n j kd ow q) (upd lf n (nI (Ln j))) (upd kf n kd) ct) ∧ va_S A s.heap H locs ∧ lv_has ls 18 [(14, .int (nI q)), (13, .int 0), (11, .int kd), (9, .int (nI j)), (7, .int (nI k)), (6, .ref o6), (5, .int (nI n)), (4, .ref o4), (3, .ref o3), (2, .ref o2), (1, .ref h0), (0, .ref b)]) (fun r9 H locs ls hv ih => ?_) (fun H locs ls hv => ?_) (Ln j) ⟨0, by omega, by rw [lWd_0]; exact hP, by rw [lWd_0]; exact hD, hS, lv_sub hl [0, 1, 3, 4, 5, 6, 7, 8, 9, 10, 11, 12] rfl⟩
        · obtain ⟨q, hqn, hP, hD, hS, hl⟩ := hv
          have hq : q < Ln j := by omega
          have hnn := cOK_n (hI.2.2.2 j hj q hq)
          refine lv_iload hx hb dL_law_592 (lv_at hl 0 rfl) ?_
          refine lv_aload_n hx hb dL_law_594 rfl (lv_at hl 8 rfl) ?_
          refine lv_iload hx hb dL_law_595 (lv_at hl 3 rfl) ?_
          refine tc_iald (f := (upd lf n (nI (Ln j)))) (v := (nI (Ln j))) hx hb hK hP 6 0 rfl rfl (vp_in_nI (show j < 12 by omega) (by decide)) (by rw [nI_clamp (by omega)]; exact (if_neg (by omega)).trans (hI.2.2.1 j hj).2.1) dL_law_597 ?_
          refine lv_icmp_ge (tgt := 646) hx hb dL_law_598 (by decide) (fun q => absurd q (nI_ge hq (by omega))) (fun _ => ?_)
          refine lv_aload_n hx hb dL_law_601 rfl (lv_at hl 9 rfl) ?_
          refine lv_iconst (v := 5) hx hb dL_law_602 (by decide) ?_
          refine lv_iload hx hb dL_law_603 (lv_at hl 6 rfl) ?_
          refine lv_imul hx hb dL_law_605 ?_
          refine lv_iload hx hb dL_law_606 (lv_at hl 0 rfl) ?_
          refine lv_iadd hx hb dL_law_608 ?_
          refine lv_topi (fun x9 e9 => ?_)
          obtain rfl : x9 = nI (5 * n + q) := by rw [e9]; exact ix5 n q
          refine lv_iload hx hb dL_law_609 (lv_at hl 2 rfl) ?_
          refine lv_bipush (v := 7) hx hb dL_law_611 (by decide) ?_
          refine lv_icmp_ne (tgt := 630) hx hb dL_law_613 (by decide) (fun c_6 => ?_) (fun c_6 => ?_)
          · refine lv_aload_n hx hb dL_law_630 rfl (lv_at hl 9 rfl) ?_
            refine lv_iconst (v := 5) hx hb dL_law_631 (by decide) ?_
            refine lv_iload hx hb dL_law_632 (lv_at hl 3 rfl) ?_
            refine lv_imul hx hb dL_law_634 ?_
            refine lv_iload hx hb dL_law_635 (lv_at hl 0 rfl) ?_
            refine lv_iadd hx hb dL_law_637 ?_
            refine lv_topi (fun x9 e9 => ?_)
            obtain rfl : x9 = nI (5 * j + q) := by rw [e9]; exact ix5 j q
            refine tc_dald (f := (lWd n j kd ow q)) (v := (ow (5 * j + q))) hx hb hK hP 5 2 rfl rfl (vp_in_nI (show 5 * j + q < 60 by omega) (by decide)) (by rw [nI_clamp (by omega)]; exact lWd_old hj (by omega)) dL_law_638 ?_
            refine va_dast (f := (lWd n j kd ow q)) hx hb hK hP hD hS 5 2 rfl rfl (vp_in_nI (show 5 * n + q < 60 by omega) (by decide)) dL_law_639 (fun H locs hP hD hS => ?_)
            have hP : va_P D vwCl (lT cI cJ cD cC h0 h1 h2 h3 h4 o2 o3 o4 o6 (va_up ad n u1) (va_up wd n u2) (va_up rd n u3) (n + 1) (va_up K n kd) (va_up Ln n (Ln j)) (tc_put n (Ln j) (fun i => Wh (40 * j + i)) 0 Wh) (tc_put n (Ln j) (wdV K Wh Re j kd) 0 Re) 0 (noteC ct 0) (vf_upd (lWd n j kd ow q) (nI (5 * n + q)).toNatClampNeg (ow (5 * j + q))) (upd lf n (nI (Ln j))) (upd kf n kd) ct) H := hP
            have hD : va_D A (lT cI cJ cD cC h0 h1 h2 h3 h4 o2 o3 o4 o6 (va_up ad n u1) (va_up wd n u2) (va_up rd n u3) (n + 1) (va_up K n kd) (va_up Ln n (Ln j)) (tc_put n (Ln j) (fun i => Wh (40 * j + i)) 0 Wh) (tc_put n (Ln j) (wdV K Wh Re j kd) 0 Re) 0 (noteC ct 0) (vf_upd (lWd n j kd ow q) (nI (5 * n + q)).toNatClampNeg (ow (5 * j + q))) (upd lf n (nI (Ln j))) (upd kf n kd) ct) := hD
            have ew : vf_upd (lWd n j kd ow q) (nI (5 * n + q)).toNatClampNeg (ow (5 * j + q)) = (lWd n j kd ow (q + 1)) := by rw [nI_clamp (by omega)]; exact lWd_s n j kd ow q (if_neg c_6).symm
            rw [ew] at hP hD
            have hP : va_P D vwCl (lT cI cJ cD cC h0 h1 h2 h3 h4 o2 o3 o4 o6 (va_up ad n u1) (va_up wd n u2) (va_up rd n u3) (n + 1) (va_up K n kd) (va_up Ln n (Ln j)) (tc_put n (Ln j) (fun i => Wh (40 * j + i)) 0 Wh) (tc_put n (Ln j) (wdV K Wh Re j kd) 0 Re) 0 (noteC ct 0) (lWd n j kd ow (q + 1)) (upd lf n (nI (Ln j))) (upd kf n kd) ct) H := hP
            have hD : va_D A (lT cI cJ cD cC h0 h1 h2 h3 h4 o2 o3 o4 o6 (va_up ad n u1) (va_up wd n u2) (va_up rd n u3) (n + 1) (va_up K n kd) (va_up Ln n (Ln j)) (tc_put n (Ln j) (fun i => Wh (40 * j + i)) 0 Wh) (tc_put n (Ln j) (wdV K Wh Re j kd) 0 Re) 0 (noteC ct 0) (lWd n j kd ow (q + 1)) (upd lf n (nI (Ln j))) (upd kf n kd) ct) := hD
            refine lv_iinc (v := (nI (q + 1))) (lv' := [(14, .int (nI (q + 1))), (13, .int 0), (11, .int kd), (9, .int (nI j)), (7, .int (nI k)), (6, .ref o6), (5, .int (nI n)), (4, .ref o4), (3, .ref o3), (2, .ref o2), (1, .ref h0), (0, .ref b)]) hx hb dL_law_640 hl (k := 0) rfl (by rw [nI_succ]; rfl) (by decide) rfl (fun ls hl => ?_)
            refine lv_goto (tgt := 592) hx hb dL_law_643 (by decide) ?_
            exact ih _ _ _ ⟨q + 1, by omega, hP, hD, hS, lv_sub hl [0, 1, 2, 3, 4, 5, 6, 7, 8, 9, 10, 11] rfl⟩
          · refine lv_aload_n hx hb dL_law_616 rfl (lv_at hl 9 rfl) ?_
            refine lv_iconst (v := 5) hx hb dL_law_617 (by decide) ?_
            refine lv_iload hx hb dL_law_618 (lv_at hl 3 rfl) ?_
            refine lv_imul hx hb dL_law_620 ?_
            refine lv_iload hx hb dL_law_621 (lv_at hl 0 rfl) ?_
            refine lv_iadd hx hb dL_law_623 ?_
            refine lv_topi (fun x9 e9 => ?_)
            obtain rfl : x9 = nI (5 * j + q) := by rw [e9]; exact ix5 j q
            refine tc_dald (f := (lWd n j kd ow q)) (v := (ow (5 * j + q))) hx hb hK hP 5 2 rfl rfl (vp_in_nI (show 5 * j + q < 60 by omega) (by decide)) (by rw [nI_clamp (by omega)]; exact lWd_old hj (by omega)) dL_law_624 ?_
            refine lv_d2f hx hb dL_law_625 ((tf_n32 _).mpr ((FP.d2f_nan _).trans hnn)) ?_
            refine lv_f2d hx hb dL_law_626 ((tf_n64 _).mpr (tf_f2d ((FP.d2f_nan _).trans hnn))) ?_
            refine lv_goto (tgt := 639) hx hb dL_law_627 (by decide) ?_
            refine va_dast (f := (lWd n j kd ow q)) hx hb hK hP hD hS 5 2 rfl rfl (vp_in_nI (show 5 * n + q < 60 by omega) (by decide)) dL_law_639 (fun H locs hP hD hS => ?_)
            have hP : va_P D vwCl (lT cI cJ cD cC h0 h1 h2 h3 h4 o2 o3 o4 o6 (va_up ad n u1) (va_up wd n u2) (va_up rd n u3) (n + 1) (va_up K n kd) (va_up Ln n (Ln j)) (tc_put n (Ln j) (fun i => Wh (40 * j + i)) 0 Wh) (tc_put n (Ln j) (wdV K Wh Re j kd) 0 Re) 0 (noteC ct 0) (vf_upd (lWd n j kd ow q) (nI (5 * n + q)).toNatClampNeg (FP.f2d (FP.d2f (ow (5 * j + q))))) (upd lf n (nI (Ln j))) (upd kf n kd) ct) H := hP
            have hD : va_D A (lT cI cJ cD cC h0 h1 h2 h3 h4 o2 o3 o4 o6 (va_up ad n u1) (va_up wd n u2) (va_up rd n u3) (n + 1) (va_up K n kd) (va_up Ln n (Ln j)) (tc_put n (Ln j) (fun i => Wh (40 * j + i)) 0 Wh) (tc_put n (Ln j) (wdV K Wh Re j kd) 0 Re) 0 (noteC ct 0) (vf_upd (lWd n j kd ow q) (nI (5 * n + q)).toNatClampNeg (FP.f2d (FP.d2f (ow (5 * j + q))))) (upd lf n (nI (Ln j))) (upd kf n kd) ct) := hD
            have ew : vf_upd (lWd n j kd ow q) (nI (5 * n + q)).toNatClampNeg (FP.f2d (FP.d2f (ow (5 * j + q)))) = (lWd n j kd ow (q + 1)) := by rw [nI_clamp (by omega)]; exact lWd_s n j kd ow q (if_pos c_6).symm
            rw [ew] at hP hD
            have hP : va_P D vwCl (lT cI cJ cD cC h0 h1 h2 h3 h4 o2 o3 o4 o6 (va_up ad n u1) (va_up wd n u2) (va_up rd n u3) (n + 1) (va_up K n kd) (va_up Ln n (Ln j)) (tc_put n (Ln j) (fun i => Wh (40 * j + i)) 0 Wh) (tc_put n (Ln j) (wdV K Wh Re j kd) 0 Re) 0 (noteC ct 0) (lWd n j kd ow (q + 1)) (upd lf n (nI (Ln j))) (upd kf n kd) ct) H := hP
            have hD : va_D A (lT cI cJ cD cC h0 h1 h2 h3 h4 o2 o3 o4 o6 (va_up ad n u1) (va_up wd n u2) (va_up rd n u3) (n + 1) (va_up K n kd) (va_up Ln n (Ln j)) (tc_put n (Ln j) (fun i => Wh (40 * j + i)) 0 Wh) (tc_put n (Ln j) (wdV K Wh Re j kd) 0 Re) 0 (noteC ct 0) (lWd n j kd ow (q + 1)) (upd lf n (nI (Ln j))) (upd kf n kd) ct) := hD
            refine lv_iinc (v := (nI (q + 1))) (lv' := [(14, .int (nI (q + 1))), (13, .int 0), (11, .int kd), (9, .int (nI j)), (7, .int (nI k)), (6, .ref o6), (5, .int (nI n)), (4, .ref o4), (3, .ref o3), (2, .ref o2), (1, .ref h0), (0, .ref b)]) hx hb dL_law_640 hl (k := 0) rfl (by rw [nI_succ]; rfl) (by decide) rfl (fun ls hl => ?_)
            refine lv_goto (tgt := 592) hx hb dL_law_643 (by decide) ?_
            exact ih _ _ _ ⟨q + 1, by omega, hP, hD, hS, lv_sub hl [0, 1, 2, 3, 4, 5, 6, 7, 8, 9, 10, 11] rfl⟩
        · obtain ⟨q, hqn, hP, hD, hS, hl⟩ := hv
          obtain rfl : q = Ln j := by omega
          refine lv_iload hx hb dL_law_592 (lv_at hl 0 rfl) ?_
          refine lv_aload_n hx hb dL_law_594 rfl (lv_at hl 8 rfl) ?_
          refine lv_iload hx hb dL_law_595 (lv_at hl 3 rfl) ?_
          refine tc_iald (f := (upd lf n (nI (Ln j)))) (v := (nI (Ln j))) hx hb hK hP 6 0 rfl rfl (vp_in_nI (show j < 12 by omega) (by decide)) (by rw [nI_clamp (by omega)]; exact (if_neg (by omega)).trans (hI.2.2.1 j hj).2.1) dL_law_597 ?_
          refine lv_icmp_ge (tgt := 646) hx hb dL_law_598 (by decide) (fun _ => ?_) (fun q => absurd (nI_le (Nat.le_refl _) (by omega)) q)
          refine lv_iinc (v := (nI (n + 1))) (lv' := [(5, .int (nI (n + 1))), (14, .int (nI (Ln j))), (13, .int 0), (11, .int kd), (9, .int (nI j)), (7, .int (nI k)), (6, .ref o6), (4, .ref o4), (3, .ref o3), (2, .ref o2), (1, .ref h0), (0, .ref b)]) hx hb dL_law_646 hl (k := 6) rfl (by rw [nI_succ]; rfl) (by decide) rfl (fun ls hl => ?_)
          refine W.widen (k := ce + 3) (n := sl + 44) (by omega) (by omega) ?_
          exact kc (va_up ad n u1) (va_up wd n u2) (va_up rd n u3) (n + 1) (va_up K n kd) (va_up Ln n (Ln j)) (tc_put n (Ln j) (fun i => Wh (40 * j + i)) 0 Wh) (tc_put n (Ln j) (wdV K Wh Re j kd) 0 Re) (lWd n j kd ow (Ln j)) (upd lf n (nI (Ln j))) (upd kf n kd) _ _ _ _ (PI_wid hI hn hj hkd ev.symm) (Nat.le_succ_of_le h10) (by unfold vp_in; decide) hP hD hS (lv_sub hl [2, 5, 6, 0, 7, 8, 9, 10, 11] rfl)
      · refine lv_aload_n hx hb dL_law_545 rfl (lv_at hl 10 rfl) ?_
        refine lv_iload hx hb dL_law_546 (lv_at hl 3 rfl) ?_
        refine lv_iload hx hb dL_law_548 (lv_at hl 2 rfl) ?_
        refine va_calli (va_runV (As := [.int (nI j), .int kd]) (rest := []) ⟨hx, hb, hml, hown, hts⟩ (tX2_widened_no l D A cI cJ cD cC h0 h1 h2 h3 h4 ad wd rd (lY cI cD o2 o3 o4 o6 ow lf kf ct) n K Ln Wh Re cd ct H.size hI.2.1 j hj (by omega) kd hkd (by rw [← ev]; exact hv0)) (cwV 2 hts gL_law_X2_widened rfl rfl rfl (by decide +kernel) ⟨Nat.le_of_ble_eq_true rfl, Nat.le_of_ble_eq_true rfl⟩) ⟨tcP.blind, va_recv hK hP (ci := 2) (q0 := 0) rfl rfl, tcP.go hK hP hD hE hS⟩ rfl rfl hl.1 rfl (lv_room (Nat.le_of_ble_eq_true rfl)) dL_law_550 ⟨by show _ ≤ 600086; omega, by show _ ≤ 7301442; omega⟩) hS (fun q _ h => h) (fun q h => h) (fun r9 u9 t9 H locs ht9 hvm9 hw9 hB9 hz9 hk9 hS => ?_)
        obtain ⟨hP, hD⟩ := hB9
        rw [ht9] at hP
        obtain rfl : r9 = -1 := hw9
        rw [← ev] at hP hD
        refine lv_iload hx hb dL_law_553 (lv_at hl 0 rfl) ?_
        refine lv_if_ne (tgt := 563) hx hb dL_law_555 (by decide) (fun _ => ?_) (fun q => absurd q (hv0))
        refine lv_iconst (v := (-1)) hx hb dL_law_563 (by decide) ?_
        refine lv_icmp_eq (tgt := 569) hx hb dL_law_564 (by decide) (fun _ => ?_) (fun q => absurd (by decide) q)
        refine lv_iload hx hb dL_law_569 (lv_at hl 0 rfl) ?_
        refine lv_if_ne (tgt := 649) hx hb dL_law_571 (by decide) (fun _ => ?_) (fun q => absurd q (hv0))
        refine W.widen (k := ce + 3) (n := sl + 44) (by omega) (by omega) ?_
        exact kc ad wd rd n K Ln Wh Re ow lf kf _ _ _ _ (hI) (h10) (hv6) hP hD hS (lv_sub hl [0, 4, 5, 6, 7, 8, 9, 10, 11] rfl)
    · refine lv_iload hx hb dL_law_515 (lv_at hl 0 rfl) ?_
      refine lv_if_le (tgt := 525) hx hb dL_law_517 (by decide) (fun c_11 => ?_) (fun c_11 => ?_)
      · have hc0 : kCol (K j) = 0 := kCol_le c_11
        have hh : kHas (K j) = true := kCol_has (hI.2.1.2.1 j hj).1 hc0
        obtain ⟨k9, hk9, ek9⟩ := kHas_n hh
        obtain ⟨k8, hk8, rfl⟩ := kHas_n hkd
        refine lv_aload hx hb dL_law_525 (lv_at hl 6 rfl) ?_
        refine lv_iload hx hb dL_law_527 (lv_at hl 2 rfl) ?_
        refine tc_iald (f := kf) (v := (nI (k9 + 1))) hx hb hK hP 7 0 rfl rfl (vp_in_nI (show j < 12 by omega) (by decide)) ((PI_kf hI hj).trans ek9) dL_law_529 ?_
        refine lv_iload hx hb dL_law_530 (lv_at hl 1 rfl) ?_
        refine vp_callSi (W.runS (As := [.int (nI (k9 + 1)), .int (nI (k8 + 1))]) (rest := []) ⟨hx, hb, hml, hown, hts⟩ (lL_widens l adK adV k9 k8 hk9 hk8) (va_cwS 2 hts gL_law_L_widens rfl rfl rfl (by decide +kernel) ⟨Nat.le_of_ble_eq_true rfl, Nat.le_of_ble_eq_true rfl⟩) ⟨twP.blind, twP.go hT hTR hS⟩ rfl rfl hl.1 rfl (lv_room (Nat.le_of_ble_eq_true rfl)) dL_law_532 ⟨by show _ ≤ 600086; omega, by show _ ≤ 7301442; omega⟩) (fun r9 h9 => ?_)
        subst h9
        rw [← ek9]
        refine lv_if_eq (tgt := 542) hx hb dL_law_535 (by decide) (fun c_12 => ?_) (fun c_12 => ?_)
        · refine lv_iconst (v := 4) hx hb dL_law_542 (by decide) ?_
          exact k543 _ _ ⟨_, wdC_w4 hc0 c_12, rfl, hl⟩
        · refine lv_iconst (v := 0) hx hb dL_law_538 (by decide) ?_
          refine lv_goto (tgt := 543) hx hb dL_law_539 (by decide) ?_
          exact k543 _ _ ⟨_, wdC_w0 hc0 c_12, rfl, hl⟩
      · refine lv_iload hx hb dL_law_520 (lv_at hl 0 rfl) ?_
        refine lv_goto (tgt := 543) hx hb dL_law_522 (by decide) ?_
        exact k543 _ _ ⟨_, wdC_c (fun z => c_11 (by rw [z]; decide)), rfl, hl⟩
  · refine lv_goto (tgt := 831) hx hb dL_law_512 (by decide) ?_
    refine W.widen (k := ce + 3) (n := sl + 44) (by omega) (by omega) ?_
    exact kc2 _ _ _ hP hD hS (lv_sub hl [3, 4, 5, 6, 7, 8, 9, 10] rfl)
end
