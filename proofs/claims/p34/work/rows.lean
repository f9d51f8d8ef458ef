section
-- ===== PART A: goes FIRST, ahead of the names: the tables' words, and 'selects' of the private methods out of them =====
/-- a private method of a class that the tables say can be made, by its rows of tables_1 -/
def lw_okq (q : MethodName × Nat) : Prop := (q.1.cls ≠ "java/lang/invoke/MethodHandle" ∧ q.1.cls ≠ "java/lang/invoke/VarHandle") ∧ Cond.instantiable q.1.cls q.2 ∈ tables_1 ∧ Cond.privateMethod q.1 ∈ tables_1 ∧ Cond.instanceMethod q.1 ∈ tables_1
theorem lw_p0 : lw_okq (⟨"java/lang/Throwable", "fillInStackTrace", "(I)Ljava/lang/Throwable;"⟩, 6) := ⟨⟨by decide +kernel, by decide +kernel⟩, List.mem_of_getElem? (i := 100) (by decide +kernel), List.mem_of_getElem? (i := 98) (by decide +kernel), List.mem_of_getElem? (i := 99) (by decide +kernel)⟩
theorem lw_p1 : lw_okq (⟨"TypedColumns", "refuseWhenFull", "()V"⟩, 5) := ⟨⟨by decide +kernel, by decide +kernel⟩, List.mem_of_getElem? (i := 16) (by decide +kernel), List.mem_of_getElem? (i := 137) (by decide +kernel), List.mem_of_getElem? (i := 138) (by decide +kernel)⟩
theorem lw_p2 : lw_okq (⟨"TypedColumns", "addColumn", "(LTypedColumns$Column;)I"⟩, 5) := ⟨⟨by decide +kernel, by decide +kernel⟩, List.mem_of_getElem? (i := 16) (by decide +kernel), List.mem_of_getElem? (i := 183) (by decide +kernel), List.mem_of_getElem? (i := 184) (by decide +kernel)⟩
theorem lw_p3 : lw_okq (⟨"TypedColumns", "columnAt", "(I)LTypedColumns$Column;"⟩, 5) := ⟨⟨by decide +kernel, by decide +kernel⟩, List.mem_of_getElem? (i := 16) (by decide +kernel), List.mem_of_getElem? (i := 195) (by decide +kernel), List.mem_of_getElem? (i := 196) (by decide +kernel)⟩
theorem lw_p4 : lw_okq (⟨"TypedColumns", "readReal", "(LTypedColumns$Column;II)D"⟩, 5) := ⟨⟨by decide +kernel, by decide +kernel⟩, List.mem_of_getElem? (i := 16) (by decide +kernel), List.mem_of_getElem? (i := 215) (by decide +kernel), List.mem_of_getElem? (i := 216) (by decide +kernel)⟩
theorem lw_p5 : lw_okq (⟨"TypedColumns", "note", "(I)I"⟩, 5) := ⟨⟨by decide +kernel, by decide +kernel⟩, List.mem_of_getElem? (i := 16) (by decide +kernel), List.mem_of_getElem? (i := 228) (by decide +kernel), List.mem_of_getElem? (i := 229) (by decide +kernel)⟩
theorem lw_p6 : lw_okq (⟨"TypedColumns", "writeReal", "(LTypedColumns$Column;IID)I"⟩, 5) := ⟨⟨by decide +kernel, by decide +kernel⟩, List.mem_of_getElem? (i := 16) (by decide +kernel), List.mem_of_getElem? (i := 252) (by decide +kernel), List.mem_of_getElem? (i := 253) (by decide +kernel)⟩
theorem lw_p7 : lw_okq (⟨"TypedColumns", "writeWhole", "(LTypedColumns$Column;IIJ)I"⟩, 5) := ⟨⟨by decide +kernel, by decide +kernel⟩, List.mem_of_getElem? (i := 16) (by decide +kernel), List.mem_of_getElem? (i := 263) (by decide +kernel), List.mem_of_getElem? (i := 264) (by decide +kernel)⟩
def lw_privs_1 : List (MethodName × Nat) := [(⟨"java/lang/Throwable", "fillInStackTrace", "(I)Ljava/lang/Throwable;"⟩, 6), (⟨"TypedColumns", "refuseWhenFull", "()V"⟩, 5), (⟨"TypedColumns", "addColumn", "(LTypedColumns$Column;)I"⟩, 5), (⟨"TypedColumns", "columnAt", "(I)LTypedColumns$Column;"⟩, 5), (⟨"TypedColumns", "readReal", "(LTypedColumns$Column;II)D"⟩, 5), (⟨"TypedColumns", "note", "(I)I"⟩, 5), (⟨"TypedColumns", "writeReal", "(LTypedColumns$Column;IID)I"⟩, 5), (⟨"TypedColumns", "writeWhole", "(LTypedColumns$Column;IIJ)I"⟩, 5)]
theorem lw_r1 : ∀ q ∈ lw_privs_1, lw_okq q := List.forall_mem_cons.mpr ⟨lw_p0, List.forall_mem_cons.mpr ⟨lw_p1, List.forall_mem_cons.mpr ⟨lw_p2, List.forall_mem_cons.mpr ⟨lw_p3, List.forall_mem_cons.mpr ⟨lw_p4, List.forall_mem_cons.mpr ⟨lw_p5, List.forall_mem_cons.mpr ⟨lw_p6, List.forall_mem_cons.mpr ⟨lw_p7, fun _ h => absurd h List.not_mem_nil⟩⟩⟩⟩⟩⟩⟩⟩
def lw_privs : List (MethodName × Nat) := lw_privs_1
def lw_tbl : List Cond := k2_sels lw_privs ++ tables_1
theorem lw_privs_ok : ∀ q ∈ lw_privs, lw_okq q := lw_r1
/-- the streams that the claim lets the run draw from -/
abbrev lw_cs : List Choice := [Jvm.Choice.named "NaN.bits"]
theorem lw_bits : nanBits ∈ lw_cs := by first | decide | exact List.mem_cons_self | simp [lw_cs, nanBits]
/-! ===== BEGIN words of one list among another's, by their places ===== -/
theorem goodIn_r {big : List Cond} (ws : List Cond) (ps : List Nat) (hp : ws = ps.filterMap (fun i => big[i]?)) (h : ws.all goodWord = true) : GoodIn big ws := by
  intro w hw
  have h1 := List.all_eq_true.mp h w hw
  rw [hp] at hw
  obtain ⟨i, -, hi⟩ := List.mem_filterMap.mp hw
  have hm : w ∈ big := by first | exact List.mem_of_getElem? hi | exact List.getElem?_mem hi
  exact ⟨hm, good_of_word h1⟩
theorem goodIn_app {big a b : List Cond} (ha : GoodIn big a) (hb : GoodIn big b) : GoodIn big (a ++ b) := fun w h => (List.mem_append.mp h).elim (ha w) (hb w)
theorem goodIn_ca {big a b : List Cond} {c : Cond} (ha : GoodIn big (c :: a)) (hb : GoodIn big b) : GoodIn big (c :: (a ++ b)) := fun w h => (List.mem_cons.mp h).elim (fun e => ha w (List.mem_cons.mpr (Or.inl e))) (fun h => (List.mem_append.mp h).elim (fun h => ha w (List.mem_cons.mpr (Or.inr h))) (hb w))
theorem goodIn_sub {big ws : List Cond} (hm : ∀ w ∈ ws, w ∈ big) (h : ws.all goodWord = true) : GoodIn big ws := fun w hw => ⟨hm w hw, good_of_word (List.all_eq_true.mp h w hw)⟩
/-! ===== END ===== -/

/-! ===== BEGIN exceptions that leave a method, and their catching by the caller (launches without stack traces) ===== -/
section VXA
/-! The laws vx_back, vx_callV, vx_callS, vx_callSW, vx_throw0, vx_throwS follow proofs of the library, with one case more: JvmDerived/Free/Laws.lean (Back.of_free), Shelf42/LK1.lean (callV, callS), Shelf/KitTraced.lean (throwNew0V, throwNewS). -/
/-- where a method has thrown q: the class by its name, the cell, what was written, the world -/
def vx_T (XC : String → State → State → Prop) (st : State) (q : Addr) (t : State) (mc ms : Nat) (free : Addr → Prop) : Prop :=
  ∃ (E : String) (ce : Cell) (L : List Loc), XC E st t ∧ t.heap[q]? = some ce ∧ ce.vm = .none ∧ st.vm.findClass E = some ce.cls ∧ st.WarmedH t.vm ∧ st.sameButNew ({ t with vm := st.vm } : State) L mc ms ∧ ∀ z ∈ L, free z.base
def vx_Q (Qc : Array Value → State → Outcome → State → Prop) (XC : String → State → State → Prop) (mc ms : Nat) (free : Addr → Prop) : Array Value → State → Outcome → State → Prop := fun a st o t =>
  (Qc a st o t ∧ ∃ L, FrameEnd st o t L mc ms ∧ ∀ q ∈ L, free q.base) ∨ ∃ q, o = .threw q ∧ vx_T XC st q t mc ms free
/-- a callee that returns or throws -/
def vx_Met (l : Launch) (y : MethodName) (ws : List Cond) (rm : Room) (Pc : Array Value → State → Prop) (Qc : Array Value → State → Outcome → State → Prop) (XC : String → State → State → Prop) (mc ms : Nat) (free : Addr → Prop) : Prop :=
  MetFree l y (headSpec ws rm) Pc (fun _ _ _ _ _ => True) (vx_Q Qc XC mc ms free)
def vx_Post (XC : String → State → State → Prop) (mc ms : Nat) (free : Addr → Prop) : Pt → Array Value → Addr → Pt → Prop := fun A a q B =>
  ∃ (g : JFrame) (mk : MethodId) (t : State) (L : List Loc) (E : String) (ce : Cell), B.U.heap = t.heap ∧ B.U.vm = t.vm ∧ XC E (A.U.calling g mk a) t ∧ t.heap[q]? = some ce ∧ ce.vm = .none ∧ A.U.vm.findClass E = some ce.cls ∧ B.locs = A.locs ++ L ∧ (∀ z ∈ L, free z.base) ∧ B.cells = A.cells + mc ∧ B.slots = A.slots + ms
def vx_Back (l : Launch) (R : Room) (p : Program) (e : Env) (below : List Frame) (s : State) (sargs : Array Value) (y : MethodName) (len W9 : Nat)
    (Pre : Pt → Array Value → Prop) (Post : Pt → Array Value → Option Value → Pt → Prop) (PostX : Pt → Array Value → Addr → Pt → Prop) : Prop :=
  ∀ (m : MethodId) (meth : Method) (c : Code) (A : Pt) (g : JFrame) (ig : Instr) (mk : MethodId) (a : Array Value),
    Stand p l e R s m sargs below meth c A.U A.locs A.cells A.slots → g.method = m → g.locals.size = c.maxLocals → decode c.code g.pc = .ok (ig, len) →
    2 * g.monitorRoom + (g.stack.map fun v => v.category).sum ≤ W9 → A.U.methodNamed? y = some mk → Pre A a →
    (∃ (v : Option Value) (B : Pt), Stand p l e R s m sargs below meth c B.U B.locs B.cells B.slots ∧ Post A a v B ∧
      Steps p.tables e below (doInvoke e (A.U.setTop g) [] mk a).1 (B.U.setTop { g with pc := g.pc + len, stack := v.toList ++ g.stack })) ∨
    (∃ (q : Addr) (B : Pt), Stand p l e R s m sargs below meth c B.U B.locs B.cells B.slots ∧ PostX A a q B ∧
      Steps p.tables e below (doInvoke e (A.U.setTop g) [] mk a).1 ((B.U.setTop g).pushFrame (.throwing q)))
section Payer
variable {l : Launch} {R : Room} {p : Program} {e : Env} {below : List Frame} {s : State} {sargs : Array Value} {y : MethodName} {len W9 : Nat}
theorem vx_back {ws : List Cond} {rm : Room} {Pc : Array Value → State → Prop} {Qc : Array Value → State → Outcome → State → Prop} {XC : String → State → State → Prop} {mc ms : Nat} {free : Addr → Prop} {bytes : ByteArray} {maxL : Nat} {ret : Option FieldType}
    (hM : vx_Met l y ws rm Pc Qc XC mc ms free) (hblind : FrameBlind Pc) (hrc : rm.cells = mc) (hrs : rm.slots = ms)
    (hframes : rm.frames + 1 ≤ R.frames) (hlocals : W9 + (maxL + 11) + rm.locals ≤ R.locals)
    (hws : ∀ w ∈ ws, ∀ a' U, s.WarmedH U.vm → w.before a' U = true) (hcode : Cond.code y bytes maxL ret ∈ ws) (hinit : ∀ a' U, s.WarmedH U.vm → (Cond.initialized y.cls).before a' U = true) :
    vx_Back l R p e below s sargs y len W9 (PreOf R mc ms Pc) (PostOf Qc mc ms free) (vx_Post XC mc ms free) := by
  intro m meth c A g ig mk a X hg hsize hdg hW hn hp
  have h1 : (headSpec ws rm).pre.before a A.U = true := atoms_intro fun w hw => hws w hw _ _ X.warmed
  have h2 : (Cond.code y bytes maxL ret).before a A.U = true := hws _ hcode _ _ X.warmed
  have h3 : (Cond.initialized y.cls).before a A.U = true := hinit _ _ X.warmed
  have h4 : A.cells + (headSpec ws rm).room.cells ≤ R.cells := by rw [show (headSpec ws rm).room.cells = mc from hrc]; exact hp.1
  have h5 : A.slots + (headSpec ws rm).room.slots ≤ R.slots := by rw [show (headSpec ws rm).room.slots = ms from hrs]; exact hp.2.1
  have hPc : Pc a (A.U.calling g mk a) := hblind _ _ _ _ hp.2.2
  obtain ⟨U, Ls, c0, s0⟩ := A
  dsimp only [Pt.U, Pt.locs, Pt.cells, Pt.slots] at h1 h2 h3 h4 h5 X hn hPc ⊢
  obtain ⟨methY, cY, hmY, hcY, -, hlY, -, -, -, -⟩ := Cond.code_spec hn h2
  obtain ⟨kY, hkY, -⟩ := className_of_methodNamed hn
  have hinitY : kY.init = .initialized := Cond.initialized_spec (findClass_of_methodNamed hn) hkY h3
  have h : At U g.method c below := by rw [hg]; exact X.here
  have hlocals9 : W9 + (maxL + 11) + (headSpec ws rm).room.locals ≤ R.locals := hlocals
  have happ : (headSpec ws rm).appliesLoose y e.platform (U.calling g mk a) = true :=
    Spec.appliesLoose_calling (g := g) h hdg hn hkY hinitY
      (X.room_calling (g := g) (R' := (headSpec ws rm).room) hsize hmY hcY hframes (by rw [hlY]; omega) h4 h5) h1
  obtain ⟨mid, hmid⟩ := h.above
  have hfr : (U.setTop g).frames = (.java g :: mid) ++ below := by rw [State.frames_setTop' g h.top, hmid]; rfl
  obtain ⟨o, s₂, hsteps, -, hend, hq⟩ := Steps.callFree hM p X.admits X.cas X.clock (acts := []) hfr happ hPc trivial
  have hq' : vx_Q Qc XC mc ms free a (U.calling g mk a) o s₂ := hq
  rw [State.frames_setTop' g h.top] at hend
  obtain ⟨g₀, hg0⟩ := Option.isSome_iff_exists.mp h.top
  obtain ⟨r, hr⟩ := State.topJava?_eq_some.mp hg0
  have hr' : (({ U with heap := s₂.heap, slotsUsed := s₂.slotsUsed } : State).setVm s₂.vm).frames = .java g₀ :: r := hr
  rcases hq' with ⟨hqc, L, hfe, hL⟩ | ⟨q, rfl, E, ce, L, hx, hce, hcv, hcl, hW₂, hsm, hL⟩
  · obtain ⟨⟨v, rfl⟩, hW₂, e2, q2, q3, q4, q5, q6⟩ := id hfe
    have e3 : s₂ = ({ (U.calling g mk a).setFrames s₂.frames with heap := s₂.heap, slotsUsed := s₂.slotsUsed } : State).setVm s₂.vm := by
      have : s₂ = ({ s₂ with vm := (U.calling g mk a).vm } : State).setVm s₂.vm := rfl
      rw [e2] at this
      exact this
    obtain ⟨c₂, i₂, len₂, hc₂, hd₂, hf₂⟩ := hend
    have hW' : U.WarmedH s₂.vm := hW₂
    have hcc : c₂ = c := by
      have h1 : s₂.code? g.method = U.code? g.method := by
        rw [State.code?_eq, State.code?_eq, hW'.alike.method?]
      exact Option.some.inj (hc₂.symm.trans (h1.trans h.code))
    subst hcc
    have hlen : len₂ = len := by rw [hdg] at hd₂; cases hd₂; rfl
    subst hlen
    have hs₂ : s₂ = (({ U with heap := s₂.heap, slotsUsed := s₂.slotsUsed } : State).setVm s₂.vm).setTop { g with pc := g.pc + len₂, stack := v.toList ++ g.stack } := by
      refine e3.trans ?_
      rw [hf₂, State.calling_eq h.top, State.setFrames_setFrames, State.setTop_of_frames _ hr', hr]
      rfl
    have hsame : U.sameButNew ({ U with heap := s₂.heap, slotsUsed := s₂.slotsUsed } : State) L mc ms := by
      refine ⟨?_, q2, q3, q4, q5, q6⟩
      obtain ⟨t, ht, -⟩ := State.frames_cons hr
      show ({ U with heap := s₂.heap, slotsUsed := s₂.slotsUsed } : State) = { U.setFrames U.frames with heap := s₂.heap, slotsUsed := s₂.slotsUsed }
      rw [State.setFrames_self ht]
    subst hg
    refine Or.inl ⟨v, ⟨(({ U with heap := s₂.heap, slotsUsed := s₂.slotsUsed } : State).setVm s₂.vm), Ls ++ L, c0 + mc, s0 + ms⟩,
      ⟨X.admits, X.cas, X.clock, X.frames, X.room, X.hears, X.method, X.code, (X.here.setHeapUsed s₂.heap s₂.slotsUsed).setVm hW'.alike, X.tail, State.WarmedH.trans X.warmed hW', X.limits, X.bytes, X.same.trans (hsame.setVm s.vm)⟩,
      ⟨g, mk, s₂, L, rfl, rfl, hqc, rfl, hL, rfl, rfl⟩, ?_⟩
    show Steps p.tables e below _ ((({ U with heap := s₂.heap, slotsUsed := s₂.slotsUsed } : State).setVm s₂.vm).setTop { g with pc := g.pc + len₂, stack := v.toList ++ g.stack })
    rw [← hs₂]
    exact hsteps
  · obtain ⟨e2, q2, q3, q4, q5, q6⟩ := id hsm
    have e3 : s₂ = ({ (U.calling g mk a).setFrames s₂.frames with heap := s₂.heap, slotsUsed := s₂.slotsUsed } : State).setVm s₂.vm := by
      have : s₂ = ({ s₂ with vm := (U.calling g mk a).vm } : State).setVm s₂.vm := rfl
      rw [e2] at this
      exact this
    have hf₂ : s₂.frames = .throwing q :: .java g :: U.frames.tail := hend
    have hW' : U.WarmedH s₂.vm := hW₂
    have hs₂ : s₂ = ((({ U with heap := s₂.heap, slotsUsed := s₂.slotsUsed } : State).setVm s₂.vm).setTop g).pushFrame (.throwing q) := by
      refine e3.trans ?_
      rw [hf₂, State.calling_eq h.top, State.setFrames_setFrames, State.pushFrame, State.frames_setTop _ hr', State.setTop_of_frames _ hr', State.setFrames_setFrames, hr]
      rfl
    have hsame : U.sameButNew ({ U with heap := s₂.heap, slotsUsed := s₂.slotsUsed } : State) L mc ms := by
      refine ⟨?_, q2, q3, q4, q5, q6⟩
      obtain ⟨t, ht, -⟩ := State.frames_cons hr
      show ({ U with heap := s₂.heap, slotsUsed := s₂.slotsUsed } : State) = { U.setFrames U.frames with heap := s₂.heap, slotsUsed := s₂.slotsUsed }
      rw [State.setFrames_self ht]
    subst hg
    refine Or.inr ⟨q, ⟨(({ U with heap := s₂.heap, slotsUsed := s₂.slotsUsed } : State).setVm s₂.vm), Ls ++ L, c0 + mc, s0 + ms⟩,
      ⟨X.admits, X.cas, X.clock, X.frames, X.room, X.hears, X.method, X.code, (X.here.setHeapUsed s₂.heap s₂.slotsUsed).setVm hW'.alike, X.tail, State.WarmedH.trans X.warmed hW', X.limits, X.bytes, X.same.trans (hsame.setVm s.vm)⟩,
      ⟨g, mk, s₂, L, E, ce, rfl, rfl, hx, hce, hcv, hcl, rfl, hL, rfl, rfl⟩, ?_⟩
    show Steps p.tables e below _ (((({ U with heap := s₂.heap, slotsUsed := s₂.slotsUsed } : State).setVm s₂.vm).setTop g).pushFrame (.throwing q))
    rw [← hs₂]
    exact hsteps
end Payer
section Calls
variable {p : Program} {l : Launch} {e : Env} {R : Room} {s : State} {m : MethodId} {args : Array Value} {below : List Frame} {meth : Method} {c : Code} {T : State} {locs : List Loc} {cells slots : Nat}
theorem vx_callV (X : Stand p l e R s m args below meth c T locs cells slots) (hexec : p.tables.exec = Jvm.exec) {own C : String} {index : Nat} {y : MethodName} {bytes : ByteArray} {maxL : Nat} {ret : Option FieldType}
    (hown : s.vm.findClass own = some m.cls) (hlink : (Cond.methodLink own index y).before args s = true) (hinst : (Cond.instanceMethod y).before args s = true) (hsel : (Cond.selects C y y).before args s = true)
    (hcode : (Cond.code y bytes maxL ret).before args s = true) (hy : y.cls ≠ "java/lang/invoke/MethodHandle" ∧ y.cls ≠ "java/lang/invoke/VarHandle")
    {W9 : Nat} {Pre : Pt → Array Value → Prop} {Post : Pt → Array Value → Option Value → Pt → Prop} {PostX : Pt → Array Value → Addr → Pt → Prop} (hK : vx_Back l R p e below s args y 3 W9 Pre Post PostX)
    {b : Addr} {cellB : Cell} (hcell : T.heap[b]? = some cellB) (hobj : cellB.vm.isStatics = false) (hcls : s.vm.findClass C = some cellB.cls)
    {g : JFrame} (hg : g.method = m) (hsize : g.locals.size = c.maxLocals) {argsL rest : List Value} (hlen : ∀ sig, parseMethodDescriptor y.desc = some sig → argsL.length = sig.parameters.length)
    (hstack : g.stack = argsL.reverse ++ .ref b :: rest) (hW : 2 * g.monitorRoom + (rest.map fun v => v.category).sum ≤ W9) (hdg : decode c.code g.pc = .ok (.invokevirtual index, 3))
    (hpre : ∀ vm₁, s.WarmedH vm₁ → Pre ⟨T.setVm vm₁, locs, cells, slots⟩ (Value.ref b :: argsL).toArray) :
    (∃ (v : Option Value) (vm₁ : Vm) (B : Pt), s.WarmedH vm₁ ∧ Stand p l e R s m args below meth c B.U B.locs B.cells B.slots ∧ Post ⟨T.setVm vm₁, locs, cells, slots⟩ (Value.ref b :: argsL).toArray v B ∧
      ∀ target, Steps p.tables e below (B.U.setTop { g with pc := g.pc + 3, stack := v.toList ++ rest }) target → Steps p.tables e below (T.setTop g) target) ∨
    (∃ (q : Addr) (vm₁ : Vm) (B : Pt), s.WarmedH vm₁ ∧ Stand p l e R s m args below meth c B.U B.locs B.cells B.slots ∧ PostX ⟨T.setVm vm₁, locs, cells, slots⟩ (Value.ref b :: argsL).toArray q B ∧
      Steps p.tables e below (T.setTop g) ((B.U.setTop { g with stack := rest }).pushFrame (.throwing q))) := by
  obtain ⟨mk, methM, hnamed, hmethM, hstM, habM⟩ := Cond.instanceMethod_spec hinst
  obtain ⟨methM', cM, hmethM', -, -, -, -, -, -, hsigM⟩ := Cond.code_spec hnamed hcode
  cases hmethM.symm.trans hmethM'
  obtain ⟨c2, r2, m2, q1, q2, q3, q4, kP, hkP, hkPi⟩ := Cond.selects_spec hsel
  cases hcls.symm.trans q1
  cases (State.methodFound?_of_named hnamed hy).symm.trans q2
  cases hnamed.symm.trans q3
  have hselP : selectMethod e.platform s.vm cellB.cls mk = .method mk := by rw [Launch.admits_selectMethod X.admits]; exact q4
  obtain ⟨vm₁, X₁, hstep₁⟩ := X.invokevirtual hexec hown hlink hnamed hmethM hstM hkP hkPi hy (a := b) (cell := cellB) hcell
    (fun z h => by rw [h] at hobj; cases hobj) hselP hmethM habM hkP hkPi (g := g) hg (argsL := argsL) (rest := rest) (hlen _ hsigM) hstack hdg
  rcases hK m meth c ⟨T.setVm vm₁, locs, cells, slots⟩ { g with stack := rest } (.invokevirtual index) mk (Value.ref b :: argsL).toArray X₁ hg hsize hdg hW (X₁.named hnamed) (hpre vm₁ X₁.warmed) with ⟨v, B, X', hpost, hsteps⟩ | ⟨q, B, X', hpost, hsteps⟩
  · exact Or.inl ⟨v, vm₁, B, X₁.warmed, X', hpost, fun target h => hstep₁ _ fun acts => by rw [doInvoke_state]; exact hsteps.trans h⟩
  · exact Or.inr ⟨q, vm₁, B, X₁.warmed, X', hpost, hstep₁ _ fun acts => by rw [doInvoke_state]; exact hsteps⟩
theorem vx_callS (X : Stand p l e R s m args below meth c T locs cells slots) (hexec : p.tables.exec = Jvm.exec) {own : String} {index : Nat} {y : MethodName} {bytes : ByteArray} {maxL : Nat} {ret : Option FieldType}
    (hown : s.vm.findClass own = some m.cls) (hlink : (Cond.methodLink own index y).before args s = true) (hstat : (Cond.static y).before args s = true) (hinit : (Cond.initialized y.cls).before args s = true)
    (hcode : (Cond.code y bytes maxL ret).before args s = true) (hy : y.cls ≠ "java/lang/invoke/MethodHandle" ∧ y.cls ≠ "java/lang/invoke/VarHandle")
    {W9 : Nat} {Pre : Pt → Array Value → Prop} {Post : Pt → Array Value → Option Value → Pt → Prop} {PostX : Pt → Array Value → Addr → Pt → Prop} (hK : vx_Back l R p e below s args y 3 W9 Pre Post PostX)
    {g : JFrame} (hg : g.method = m) (hsize : g.locals.size = c.maxLocals) {argsL rest : List Value} (hlen : ∀ sig, parseMethodDescriptor y.desc = some sig → argsL.length = sig.parameters.length)
    (hstack : g.stack = argsL.reverse ++ rest) (hW : 2 * g.monitorRoom + (rest.map fun v => v.category).sum ≤ W9) (hdg : decode c.code g.pc = .ok (.invokestatic index, 3))
    (hpre : ∀ vm₁, s.WarmedH vm₁ → Pre ⟨T.setVm vm₁, locs, cells, slots⟩ argsL.toArray) :
    (∃ (v : Option Value) (vm₁ : Vm) (B : Pt), s.WarmedH vm₁ ∧ Stand p l e R s m args below meth c B.U B.locs B.cells B.slots ∧ Post ⟨T.setVm vm₁, locs, cells, slots⟩ argsL.toArray v B ∧
      ∀ target, Steps p.tables e below (B.U.setTop { g with pc := g.pc + 3, stack := v.toList ++ rest }) target → Steps p.tables e below (T.setTop g) target) ∨
    (∃ (q : Addr) (vm₁ : Vm) (B : Pt), s.WarmedH vm₁ ∧ Stand p l e R s m args below meth c B.U B.locs B.cells B.slots ∧ PostX ⟨T.setVm vm₁, locs, cells, slots⟩ argsL.toArray q B ∧
      Steps p.tables e below (T.setTop g) ((B.U.setTop { g with stack := rest }).pushFrame (.throwing q))) := by
  obtain ⟨mk, hnamed⟩ := Cond.code_named hcode
  obtain ⟨methM, cM, hmethM, -, -, -, -, -, -, hsigM⟩ := Cond.code_spec hnamed hcode
  have hstatic : methM.isStatic = true := Cond.static_spec hnamed hmethM hstat
  obtain ⟨kP, hkP, -⟩ := className_of_methodNamed hnamed
  have hinitP : kP.init = .initialized := Cond.initialized_spec (findClass_of_methodNamed hnamed) hkP hinit
  obtain ⟨vm₁, X₁, hstep₁⟩ := X.invokestatic hexec hown hlink hnamed hmethM hstatic hkP hinitP hy (g := g) hg (argsL := argsL) (rest := rest) (hlen _ hsigM) hstack hdg
  rcases hK m meth c ⟨T.setVm vm₁, locs, cells, slots⟩ { g with stack := rest } (.invokestatic index) mk argsL.toArray X₁ hg hsize hdg hW (X₁.named hnamed) (hpre vm₁ X₁.warmed) with ⟨v, B, X', hpost, hsteps⟩ | ⟨q, B, X', hpost, hsteps⟩
  · exact Or.inl ⟨v, vm₁, B, X₁.warmed, X', hpost, fun target h => hstep₁ _ fun acts => by rw [doInvoke_state]; exact hsteps.trans h⟩
  · exact Or.inr ⟨q, vm₁, B, X₁.warmed, X', hpost, hstep₁ _ fun acts => by rw [doInvoke_state]; exact hsteps⟩
end Calls
theorem vx_cls {s : State} {T : State} {vm₁ : Vm} {E : String} {k : ClassId} (hW : s.WarmedH vm₁) (h : (T.setVm vm₁).vm.findClass E = some k) : s.vm.findClass E = some k := by
  have h1 : vm₁.findClass E = some k := h
  rw [hW.alike.findClass] at h1
  exact h1
/-- the method's frame g, with q thrown over it -/
def vx_W (p : Program) (l : Launch) (e : Env) (R : Room) (s : State) (m : MethodId) (args : Array Value) (below : List Frame) (meth : Method) (c : Code) (H : Heap) (locs : List Loc) (cells slots : Nat) (Q : State → Prop) (g : JFrame) (q : Addr) : Prop :=
  ∀ T : State, T.heap = H → Stand p l e R s m args below meth c T locs cells slots → ∃ t, Steps p.tables e below ((T.setTop g).pushFrame (.throwing q)) t ∧ Q t
def vx_Run (p : Program) (l : Launch) (e : Env) (R : Room) (s : State) (m : MethodId) (args : Array Value) (below : List Frame) (meth : Method) (c : Code) (H : Heap) (locs : List Loc) (cells slots mc ms : Nat) (g : JFrame) (rest : List Value) (Qa : State → Outcome → State → Prop) (XC : String → State → State → Prop) (free : Addr → Prop) : Prop :=
  ∀ T : State, T.heap = H → Stand p l e R s m args below meth c T locs cells slots →
    (∃ (v : Option Value) (st₀ t T' : State) (L : List Loc), st₀.heap = H ∧ Stand p l e R s m args below meth c T' (locs ++ L) (cells + mc) (slots + ms) ∧ (∀ q ∈ L, free q.base) ∧ T'.heap = t.heap ∧ T'.vm = t.vm ∧ Qa st₀ (.returned v) t ∧
      Goes p e below T g T' { g with pc := g.pc + 3, stack := v.toList ++ rest }) ∨
    (∃ (q : Addr) (st₀ t T' : State) (L : List Loc) (E : String) (ce : Cell), st₀.heap = H ∧ Stand p l e R s m args below meth c T' (locs ++ L) (cells + mc) (slots + ms) ∧ (∀ z ∈ L, free z.base) ∧ T'.heap = t.heap ∧ T'.vm = t.vm ∧ XC E st₀ t ∧ t.heap[q]? = some ce ∧ ce.vm = .none ∧ s.vm.findClass E = some ce.cls ∧
      Steps p.tables e below (T.setTop g) ((T'.setTop { g with stack := rest }).pushFrame (.throwing q)))
def vx_X {S : Type} (px : S → Prop) (B : String → S → State → Prop) (A : Nat → Prop) : String → State → State → Prop := fun E st t => ∃ u : S, px u ∧ B E u t ∧ va_F A st t
section Runs
variable {p : Program} {l : Launch} {e : Env} {R : Room} {s : State} {m : MethodId} {args : Array Value} {below : List Frame} {meth : Method} {c : Code} {H : Heap} {locs : List Loc} {cells slots : Nat}
variable {y : MethodName} {bytes cc : ByteArray} {maxL nL mc ms n index : Nat} {ret : Option FieldType} {ws : List Cond} {rm : Room} {Pc : Array Value → State → Prop} {Qc : Array Value → State → Outcome → State → Prop} {XC : String → State → State → Prop} {free : Addr → Prop} {Ts : List Cond} {own C : String} {b : Addr} {As rest : List Value} {g : JFrame}
theorem vx_callBack (cb : CallB R s args own index y bytes maxL ret ws rm mc ms n) (hM : vx_Met l y ws rm Pc Qc XC mc ms free) (hbl : FrameBlind Pc) : vx_Back l R p e below s args y 3 8 (PreOf R mc ms Pc) (PostOf Qc mc ms free) (vx_Post XC mc ms free) := by
  obtain ⟨hrc, hrs, hfr, hlo, hws, hcw, -, hini, -⟩ := cb
  exact vx_back (bytes := bytes) (maxL := maxL) (ret := ret) hM hbl hrc hrs hfr hlo hws hcw (fun a' U hW => word_at hW (Or.inl (by first | rfl | simp [Cond.onTables, Cond.keeps, Cond.steady])) hini)
theorem vx_runV (S : CallFix p m c cc nL s args Ts own) (hM : vx_Met l y ws rm Pc Qc XC mc ms free) (cw : CallW R s args own C index y bytes maxL ret ws rm mc ms n) (hp : PreV s H C b Pc As)
    (hg : g.method = m) (hn : As.length = n) (hsize : g.locals.size = nL) (hstack : g.stack = As.reverse ++ .ref b :: rest) (hW : 2 * g.monitorRoom + (rest.map fun v => v.category).sum ≤ 8) (hdg : decode cc g.pc = .ok (.invokevirtual index, 3)) (hf : cells + mc ≤ R.cells ∧ slots + ms ≤ R.slots) :
    vx_Run p l e R s m args below meth c H locs cells slots mc ms g rest (Qc (Value.ref b :: As).toArray) XC free := by
  have hK : vx_Back l R p e below s args y 3 8 (PreOf R mc ms Pc) (PostOf Qc mc ms free) (vx_Post XC mc ms free) := vx_callBack cw.1 hM hp.1
  obtain ⟨⟨-, -, -, -, -, -, hcode, -, hy, hlen, hl⟩, hin, hse⟩ := cw
  obtain ⟨hx, hb, hml, ho, -⟩ := S
  obtain ⟨-, ⟨cellB, hcB, hoB, hclB⟩, hPc⟩ := hp
  intro T hT X
  rcases vx_callV X hx (C := C) (bytes := bytes) (maxL := maxL) (ret := ret) ho hl hin hse hcode hy hK (by rw [hT]; exact hcB) hoB hclB hg (hsize.trans hml.symm) (argsL := As) (rest := rest) (fun sig h => hn.trans (hlen sig h)) hstack hW (by rw [hb]; exact hdg)
    (fun vm₁ hW₁ => ⟨hf.1, hf.2, hPc (T.setVm vm₁) hT hW₁⟩) with ⟨v, vm₁, ⟨U', l2, c2, s2⟩, hW₁, X', ⟨g', mk, t, L, e1, e2, hq, h1, hL, h2, h3⟩, st⟩ | ⟨q, vm₁, ⟨U', l2, c2, s2⟩, hW₁, X', ⟨g', mk, t, L, E, ce, e1, e2, hq, hce, hcv, hcl, h1, hL, h2, h3⟩, st⟩
  · dsimp only [Pt.U, Pt.locs, Pt.cells, Pt.slots] at X' e1 e2 h1 h2 h3 st
    subst h1; subst h2; subst h3
    exact Or.inl ⟨v, (T.setVm vm₁).calling g' mk (Value.ref b :: As).toArray, t, U', L, hT, X', hL, e1, e2, hq, st⟩
  · dsimp only [Pt.U, Pt.locs, Pt.cells, Pt.slots] at X' e1 e2 h1 h2 h3 st hcl
    subst h1; subst h2; subst h3
    exact Or.inr ⟨q, (T.setVm vm₁).calling g' mk (Value.ref b :: As).toArray, t, U', L, E, ce, hT, X', hL, e1, e2, hq, hce, hcv, vx_cls hW₁ hcl, st⟩
theorem vx_runS (S : CallFix p m c cc nL s args Ts own) (hM : vx_Met l y ws rm Pc Qc XC mc ms free) (cw : CallB R s args own index y bytes maxL ret ws rm mc ms n ∧ (Cond.static y).before args s = true) (hp : PreS s H Pc As)
    (hg : g.method = m) (hn : As.length = n) (hsize : g.locals.size = nL) (hstack : g.stack = As.reverse ++ rest) (hW : 2 * g.monitorRoom + (rest.map fun v => v.category).sum ≤ 8) (hdg : decode cc g.pc = .ok (.invokestatic index, 3)) (hf : cells + mc ≤ R.cells ∧ slots + ms ≤ R.slots) :
    vx_Run p l e R s m args below meth c H locs cells slots mc ms g rest (Qc As.toArray) XC free := by
  have hK : vx_Back l R p e below s args y 3 8 (PreOf R mc ms Pc) (PostOf Qc mc ms free) (vx_Post XC mc ms free) := vx_callBack cw.1 hM hp.1
  obtain ⟨⟨-, -, -, -, -, -, hcode, hini, hy, hlen, hl⟩, hstt⟩ := cw
  obtain ⟨hx, hb, hml, ho, -⟩ := S
  intro T hT X
  rcases vx_callS X hx (bytes := bytes) (maxL := maxL) (ret := ret) ho hl hstt hini hcode hy hK hg (hsize.trans hml.symm) (argsL := As) (rest := rest) (fun sig h => hn.trans (hlen sig h)) hstack hW (by rw [hb]; exact hdg)
    (fun vm₁ hW₁ => ⟨hf.1, hf.2, hp.2 (T.setVm vm₁) hT hW₁⟩) with ⟨v, vm₁, ⟨U', l2, c2, s2⟩, hW₁, X', ⟨g', mk, t, L, e1, e2, hq, h1, hL, h2, h3⟩, st⟩ | ⟨q, vm₁, ⟨U', l2, c2, s2⟩, hW₁, X', ⟨g', mk, t, L, E, ce, e1, e2, hq, hce, hcv, hcl, h1, hL, h2, h3⟩, st⟩
  · dsimp only [Pt.U, Pt.locs, Pt.cells, Pt.slots] at X' e1 e2 h1 h2 h3 st
    subst h1; subst h2; subst h3
    exact Or.inl ⟨v, (T.setVm vm₁).calling g' mk As.toArray, t, U', L, hT, X', hL, e1, e2, hq, st⟩
  · dsimp only [Pt.U, Pt.locs, Pt.cells, Pt.slots] at X' e1 e2 h1 h2 h3 st hcl
    subst h1; subst h2; subst h3
    exact Or.inr ⟨q, (T.setVm vm₁).calling g' mk As.toArray, t, U', L, E, ce, hT, X', hL, e1, e2, hq, hce, hcv, vx_cls hW₁ hcl, st⟩
end Runs
section Rows
variable {p : Program} {l : Launch} {e : Env} {R : Room} {s : State} {m : MethodId} {args : Array Value} {below : List Frame} {meth : Method} {c : Code} {H : Heap} {locs : List Loc} {cells slots : Nat} {Q : State → Prop}
variable {mc ms : Nat} {free : Addr → Prop} {A0 A1 : Nat → Prop} {H0 : Heap} {a : Array Value} {pc : Nat} {ls : Array Slot} {st0 rest : List Value}
theorem vx_keep {st₀ t T' : State} {L : List Loc} (h0 : st₀.heap = H) (e1 : T'.heap = t.heap) (hS : va_S A0 H0 H locs) (hA : ∀ q, q < H.size → A1 q → A0 q) (hf : ∀ q, free q → A0 q) (hL : ∀ q ∈ L, free q.base) (hF : va_F A1 st₀ t) :
    H.size ≤ T'.heap.size ∧ (∀ q : Nat, q < H.size → ¬ A1 q → T'.heap[q]? = H[q]?) ∧ va_S A0 H0 T'.heap (locs ++ L) := by
  obtain ⟨hz, hk⟩ := hF
  rw [h0] at hz hk
  exact ⟨by rw [e1]; exact hz, fun q h1 h2 => by rw [e1]; exact hk q h1 h2,
    ⟨Nat.le_trans hS.1 (by rw [e1]; exact hz), fun q h1 h2 => by rw [e1, hk q (Nat.lt_of_lt_of_le h1 hS.1) (fun z => h2 (hA q (Nat.lt_of_lt_of_le h1 hS.1) z))]; exact hS.2.1 q h1 h2, fun q hq => by
      rcases List.mem_append.mp hq with h | h
      · exact hS.2.2 q h
      · exact hf _ (hL q h)⟩⟩
theorem vx_calli {S SX : Type} {post : Int32 → S → Prop} {px : SX → Prop} {B : S → State → Prop} {BX : String → SX → State → Prop} {AX : Nat → Prop} (hr : vx_Run p l e R s m args below meth c H locs cells slots mc ms (F0 m pc ls st0) rest (va_Qi post B A1 a) (vx_X px BX AX) free) (hS : va_S A0 H0 H locs) (hA : ∀ q, q < H.size → A1 q → A0 q) (hf : ∀ q, free q → A0 q) (hAX : ∀ q, q < H.size → AX q → A0 q)
    (kx : ∀ (E : String) (ce : Cell) (q9 : Addr) (u : SX) (t : State) (H1 : Heap) (locs1 : List Loc), t.heap = H1 → s.vm.Alike t.vm → px u → BX E u t → H.size ≤ H1.size → (∀ q : Nat, q < H.size → ¬ AX q → H1[q]? = H[q]?) → va_S A0 H0 H1 locs1 → H1[q9]? = some ce → ce.vm = .none → s.vm.findClass E = some ce.cls → vx_W p l e R s m args below meth c H1 locs1 (cells + mc) (slots + ms) Q (F0 m pc ls rest) q9)
    (kk : ∀ (r : Int32) (u : S) (t : State) (H1 : Heap) (locs1 : List Loc), t.heap = H1 → s.vm.Alike t.vm → post r u → B u t → H.size ≤ H1.size → (∀ q : Nat, q < H.size → ¬ A1 q → H1[q]? = H[q]?) → va_S A0 H0 H1 locs1 → W p l e R s m args below meth c H1 locs1 (cells + mc) (slots + ms) Q (F0 m (pc + 3) ls (.int r :: rest))) : W p l e R s m args below meth c H locs cells slots Q (F0 m pc ls st0) := by
  intro T hT X
  rcases hr T hT X with ⟨v, st₀, t, T', L, h0, X', hL, e1, e2, ⟨⟨r, u, hv, hp, hb⟩, hF⟩, st⟩ | ⟨q, st₀, t, T', L, E, ce, h0, X', hL, e1, e2, ⟨u, hp, hb, hF⟩, hce, hcv, hcl, st⟩
  · cases hv
    obtain ⟨k1, k2, k3⟩ := vx_keep h0 e1 hS hA hf hL hF
    obtain ⟨t2, a1, b1⟩ := kk r u t T'.heap (locs ++ L) e1.symm (by rw [← e2]; exact X'.warmed.alike) hp hb k1 k2 k3 T' rfl X'
    exact ⟨t2, st t2 a1, b1⟩
  · obtain ⟨k1, k2, k3⟩ := vx_keep h0 e1 hS hAX hf hL hF
    obtain ⟨t2, a1, b1⟩ := kx E ce q u t T'.heap (locs ++ L) e1.symm (by rw [← e2]; exact X'.warmed.alike) hp hb k1 k2 k3 (by rw [e1]; exact hce) hcv hcl T' rfl X'
    exact ⟨t2, st.trans a1, b1⟩
theorem vx_calll {S SX : Type} {post : Int64 → S → Prop} {px : SX → Prop} {B : S → State → Prop} {BX : String → SX → State → Prop} {AX : Nat → Prop} (hr : vx_Run p l e R s m args below meth c H locs cells slots mc ms (F0 m pc ls st0) rest (va_Ql post B A1 a) (vx_X px BX AX) free) (hS : va_S A0 H0 H locs) (hA : ∀ q, q < H.size → A1 q → A0 q) (hf : ∀ q, free q → A0 q) (hAX : ∀ q, q < H.size → AX q → A0 q)
    (kx : ∀ (E : String) (ce : Cell) (q9 : Addr) (u : SX) (t : State) (H1 : Heap) (locs1 : List Loc), t.heap = H1 → s.vm.Alike t.vm → px u → BX E u t → H.size ≤ H1.size → (∀ q : Nat, q < H.size → ¬ AX q → H1[q]? = H[q]?) → va_S A0 H0 H1 locs1 → H1[q9]? = some ce → ce.vm = .none → s.vm.findClass E = some ce.cls → vx_W p l e R s m args below meth c H1 locs1 (cells + mc) (slots + ms) Q (F0 m pc ls rest) q9)
    (kk : ∀ (r : Int64) (u : S) (t : State) (H1 : Heap) (locs1 : List Loc), t.heap = H1 → s.vm.Alike t.vm → post r u → B u t → H.size ≤ H1.size → (∀ q : Nat, q < H.size → ¬ A1 q → H1[q]? = H[q]?) → va_S A0 H0 H1 locs1 → W p l e R s m args below meth c H1 locs1 (cells + mc) (slots + ms) Q (F0 m (pc + 3) ls (.long r :: rest))) : W p l e R s m args below meth c H locs cells slots Q (F0 m pc ls st0) := by
  intro T hT X
  rcases hr T hT X with ⟨v, st₀, t, T', L, h0, X', hL, e1, e2, ⟨⟨r, u, hv, hp, hb⟩, hF⟩, st⟩ | ⟨q, st₀, t, T', L, E, ce, h0, X', hL, e1, e2, ⟨u, hp, hb, hF⟩, hce, hcv, hcl, st⟩
  · cases hv
    obtain ⟨k1, k2, k3⟩ := vx_keep h0 e1 hS hA hf hL hF
    obtain ⟨t2, a1, b1⟩ := kk r u t T'.heap (locs ++ L) e1.symm (by rw [← e2]; exact X'.warmed.alike) hp hb k1 k2 k3 T' rfl X'
    exact ⟨t2, st t2 a1, b1⟩
  · obtain ⟨k1, k2, k3⟩ := vx_keep h0 e1 hS hAX hf hL hF
    obtain ⟨t2, a1, b1⟩ := kx E ce q u t T'.heap (locs ++ L) e1.symm (by rw [← e2]; exact X'.warmed.alike) hp hb k1 k2 k3 (by rw [e1]; exact hce) hcv hcl T' rfl X'
    exact ⟨t2, st.trans a1, b1⟩
theorem vx_callf {S SX : Type} {post : UInt32 → S → Prop} {px : SX → Prop} {B : S → State → Prop} {BX : String → SX → State → Prop} {AX : Nat → Prop} (hr : vx_Run p l e R s m args below meth c H locs cells slots mc ms (F0 m pc ls st0) rest (va_Qf post B A1 a) (vx_X px BX AX) free) (hS : va_S A0 H0 H locs) (hA : ∀ q, q < H.size → A1 q → A0 q) (hf : ∀ q, free q → A0 q) (hAX : ∀ q, q < H.size → AX q → A0 q)
    (kx : ∀ (E : String) (ce : Cell) (q9 : Addr) (u : SX) (t : State) (H1 : Heap) (locs1 : List Loc), t.heap = H1 → s.vm.Alike t.vm → px u → BX E u t → H.size ≤ H1.size → (∀ q : Nat, q < H.size → ¬ AX q → H1[q]? = H[q]?) → va_S A0 H0 H1 locs1 → H1[q9]? = some ce → ce.vm = .none → s.vm.findClass E = some ce.cls → vx_W p l e R s m args below meth c H1 locs1 (cells + mc) (slots + ms) Q (F0 m pc ls rest) q9)
    (kk : ∀ (r : UInt32) (u : S) (t : State) (H1 : Heap) (locs1 : List Loc), t.heap = H1 → s.vm.Alike t.vm → post r u → B u t → H.size ≤ H1.size → (∀ q : Nat, q < H.size → ¬ A1 q → H1[q]? = H[q]?) → va_S A0 H0 H1 locs1 → W p l e R s m args below meth c H1 locs1 (cells + mc) (slots + ms) Q (F0 m (pc + 3) ls (.float r :: rest))) : W p l e R s m args below meth c H locs cells slots Q (F0 m pc ls st0) := by
  intro T hT X
  rcases hr T hT X with ⟨v, st₀, t, T', L, h0, X', hL, e1, e2, ⟨⟨r, u, hv, hp, hb⟩, hF⟩, st⟩ | ⟨q, st₀, t, T', L, E, ce, h0, X', hL, e1, e2, ⟨u, hp, hb, hF⟩, hce, hcv, hcl, st⟩
  · cases hv
    obtain ⟨k1, k2, k3⟩ := vx_keep h0 e1 hS hA hf hL hF
    obtain ⟨t2, a1, b1⟩ := kk r u t T'.heap (locs ++ L) e1.symm (by rw [← e2]; exact X'.warmed.alike) hp hb k1 k2 k3 T' rfl X'
    exact ⟨t2, st t2 a1, b1⟩
  · obtain ⟨k1, k2, k3⟩ := vx_keep h0 e1 hS hAX hf hL hF
    obtain ⟨t2, a1, b1⟩ := kx E ce q u t T'.heap (locs ++ L) e1.symm (by rw [← e2]; exact X'.warmed.alike) hp hb k1 k2 k3 (by rw [e1]; exact hce) hcv hcl T' rfl X'
    exact ⟨t2, st.trans a1, b1⟩
theorem vx_calld {S SX : Type} {post : UInt64 → S → Prop} {px : SX → Prop} {B : S → State → Prop} {BX : String → SX → State → Prop} {AX : Nat → Prop} (hr : vx_Run p l e R s m args below meth c H locs cells slots mc ms (F0 m pc ls st0) rest (va_Qd post B A1 a) (vx_X px BX AX) free) (hS : va_S A0 H0 H locs) (hA : ∀ q, q < H.size → A1 q → A0 q) (hf : ∀ q, free q → A0 q) (hAX : ∀ q, q < H.size → AX q → A0 q)
    (kx : ∀ (E : String) (ce : Cell) (q9 : Addr) (u : SX) (t : State) (H1 : Heap) (locs1 : List Loc), t.heap = H1 → s.vm.Alike t.vm → px u → BX E u t → H.size ≤ H1.size → (∀ q : Nat, q < H.size → ¬ AX q → H1[q]? = H[q]?) → va_S A0 H0 H1 locs1 → H1[q9]? = some ce → ce.vm = .none → s.vm.findClass E = some ce.cls → vx_W p l e R s m args below meth c H1 locs1 (cells + mc) (slots + ms) Q (F0 m pc ls rest) q9)
    (kk : ∀ (r : UInt64) (u : S) (t : State) (H1 : Heap) (locs1 : List Loc), t.heap = H1 → s.vm.Alike t.vm → post r u → B u t → H.size ≤ H1.size → (∀ q : Nat, q < H.size → ¬ A1 q → H1[q]? = H[q]?) → va_S A0 H0 H1 locs1 → W p l e R s m args below meth c H1 locs1 (cells + mc) (slots + ms) Q (F0 m (pc + 3) ls (.double r :: rest))) : W p l e R s m args below meth c H locs cells slots Q (F0 m pc ls st0) := by
  intro T hT X
  rcases hr T hT X with ⟨v, st₀, t, T', L, h0, X', hL, e1, e2, ⟨⟨r, u, hv, hp, hb⟩, hF⟩, st⟩ | ⟨q, st₀, t, T', L, E, ce, h0, X', hL, e1, e2, ⟨u, hp, hb, hF⟩, hce, hcv, hcl, st⟩
  · cases hv
    obtain ⟨k1, k2, k3⟩ := vx_keep h0 e1 hS hA hf hL hF
    obtain ⟨t2, a1, b1⟩ := kk r u t T'.heap (locs ++ L) e1.symm (by rw [← e2]; exact X'.warmed.alike) hp hb k1 k2 k3 T' rfl X'
    exact ⟨t2, st t2 a1, b1⟩
  · obtain ⟨k1, k2, k3⟩ := vx_keep h0 e1 hS hAX hf hL hF
    obtain ⟨t2, a1, b1⟩ := kx E ce q u t T'.heap (locs ++ L) e1.symm (by rw [← e2]; exact X'.warmed.alike) hp hb k1 k2 k3 (by rw [e1]; exact hce) hcv hcl T' rfl X'
    exact ⟨t2, st.trans a1, b1⟩
theorem vx_callv {S SX : Type} {post : S → Prop} {px : SX → Prop} {B : S → State → Prop} {BX : String → SX → State → Prop} {AX : Nat → Prop} (hr : vx_Run p l e R s m args below meth c H locs cells slots mc ms (F0 m pc ls st0) rest (va_Qv post B A1 a) (vx_X px BX AX) free) (hS : va_S A0 H0 H locs) (hA : ∀ q, q < H.size → A1 q → A0 q) (hf : ∀ q, free q → A0 q) (hAX : ∀ q, q < H.size → AX q → A0 q)
    (kx : ∀ (E : String) (ce : Cell) (q9 : Addr) (u : SX) (t : State) (H1 : Heap) (locs1 : List Loc), t.heap = H1 → s.vm.Alike t.vm → px u → BX E u t → H.size ≤ H1.size → (∀ q : Nat, q < H.size → ¬ AX q → H1[q]? = H[q]?) → va_S A0 H0 H1 locs1 → H1[q9]? = some ce → ce.vm = .none → s.vm.findClass E = some ce.cls → vx_W p l e R s m args below meth c H1 locs1 (cells + mc) (slots + ms) Q (F0 m pc ls rest) q9)
    (kk : ∀ (u : S) (t : State) (H1 : Heap) (locs1 : List Loc), t.heap = H1 → s.vm.Alike t.vm → post u → B u t → H.size ≤ H1.size → (∀ q : Nat, q < H.size → ¬ A1 q → H1[q]? = H[q]?) → va_S A0 H0 H1 locs1 → W p l e R s m args below meth c H1 locs1 (cells + mc) (slots + ms) Q (F0 m (pc + 3) ls (rest))) : W p l e R s m args below meth c H locs cells slots Q (F0 m pc ls st0) := by
  intro T hT X
  rcases hr T hT X with ⟨v, st₀, t, T', L, h0, X', hL, e1, e2, ⟨⟨u, hv, hp, hb⟩, hF⟩, st⟩ | ⟨q, st₀, t, T', L, E, ce, h0, X', hL, e1, e2, ⟨u, hp, hb, hF⟩, hce, hcv, hcl, st⟩
  · cases hv
    obtain ⟨k1, k2, k3⟩ := vx_keep h0 e1 hS hA hf hL hF
    obtain ⟨t2, a1, b1⟩ := kk u t T'.heap (locs ++ L) e1.symm (by rw [← e2]; exact X'.warmed.alike) hp hb k1 k2 k3 T' rfl X'
    exact ⟨t2, st t2 a1, b1⟩
  · obtain ⟨k1, k2, k3⟩ := vx_keep h0 e1 hS hAX hf hL hF
    obtain ⟨t2, a1, b1⟩ := kx E ce q u t T'.heap (locs ++ L) e1.symm (by rw [← e2]; exact X'.warmed.alike) hp hb k1 k2 k3 (by rw [e1]; exact hce) hcv hcl T' rfl X'
    exact ⟨t2, st.trans a1, b1⟩
/-- caught by the row x of this method's table; the rows ahead don't take it -/
theorem vx_catch {own name : String} {E : String} {ce : Cell} {q : Addr} (hown : s.vm.findClass own = some m.cls) (pre : List ExceptionTableEntry) (x : ExceptionTableEntry) (suf : List ExceptionTableEntry) (hsplit : c.exceptionTable.toList = pre ++ x :: suf)
    (hpass : ∀ z ∈ pre, covers z pc = false ∨ (z.catchType ≠ 0 ∧ ∃ nm : String, (Cond.classLink own z.catchType nm).before args s = true ∧ va_Nc E nm s)) (hx : covers x pc = true) (h0 : x.catchType ≠ 0)
    (hlink : (Cond.classLink own x.catchType name).before args s = true) (hcast : (Cond.castable E name).before args s = true) (hcell : H[q]? = some ce) (hv : ce.vm = .none) (hcl : s.vm.findClass E = some ce.cls)
    (kk : W p l e R s m args below meth c H locs cells slots Q (F0 m x.handlerPc ls [.ref q])) : vx_W p l e R s m args below meth c H locs cells slots Q (F0 m pc ls rest) q := by
  intro T hT X
  have hpl : e.platform.magicAccessors = ({} : Platform).magicAccessors := by rw [X.admits.platform]
  obtain ⟨c3, c4, hc3, hc4, hasg⟩ := Cond.castable_spec hcast
  cases Option.some.inj (hc3.symm.trans hcl)
  obtain ⟨c5, hc5, hcl5⟩ := Cond.classLink_spec hown hlink e.platform hpl
  cases Option.some.inj (hc4.symm.trans hc5)
  obtain ⟨vm', X', st⟩ := X.thenCaughtThrough q (g := F0 m pc ls rest) rfl (Steps.refl _) (by rw [hT]; exact hcell) (by rw [hv]; rfl) (by obtain ⟨k9, h9, -⟩ := Vm.findClass_spec hcl; exact ⟨k9, h9⟩) pre x suf hsplit
    (fun z hz => by
      rcases hpass z hz with h | ⟨hz0, nm, hl1, hn1⟩
      · exact Or.inl h
      · obtain ⟨c6, hc6, hcl6⟩ := Cond.classLink_spec hown hl1 e.platform hpl
        obtain ⟨a8, b8, h1, h2, h3⟩ := hn1
        cases Option.some.inj (h1.symm.trans hcl)
        cases Option.some.inj (h2.symm.trans hc6)
        exact Or.inr ⟨hz0, _, hcl6, h3⟩) hx (Or.inr ⟨h0, c4, hcl5, hasg⟩)
  obtain ⟨t, a1, b1⟩ := kk (T.setVm vm') hT X'
  exact ⟨t, st.trans a1, b1⟩
end Rows
section Ends
variable {p : Program} {l : Launch} {e : Env} {R : Room} {s : State} {m : MethodId} {args : Array Value} {below : List Frame} {meth : Method} {c : Code} {H : Heap} {locs : List Loc} {cells slots : Nat} {Q : State → Prop}
variable {mc ms : Nat} {free : Addr → Prop} {A0 A1 : Nat → Prop} {H0 : Heap} {a : Array Value} {ls : Array Slot} {st0 rest : List Value}
variable {Qc : Array Value → State → Outcome → State → Prop} {XC : String → State → State → Prop}
/-- what a body that may throw owes at its end -/
def vx_MQ (below : List Frame) (Qc : Array Value → State → Outcome → State → Prop) (XC : String → State → State → Prop) (a : Array Value) (s : State) (mc ms : Nat) (free : Addr → Prop) : State → Prop := fun t =>
  ∃ o, t.status = .running ∧ Ended t below o ∧ vx_Q Qc XC mc ms free a s o t
theorem vx_ret {g : JFrame} {mc ms : Nat} (k : W p l e R s m args below meth c H locs cells slots (MQ below Qc args s mc ms free) g) : W p l e R s m args below meth c H locs cells slots (vx_MQ below Qc XC args s mc ms free) g := by
  intro T hT X
  obtain ⟨t, a1, o, b1, b2, b3, b4⟩ := k T hT X
  exact ⟨t, a1, o, b1, b2, Or.inl ⟨b3, b4⟩⟩
/-- not caught here: it goes on to the caller -/
theorem vx_widen {g : JFrame} {q : Addr} {k n : Nat} (h1 : cells ≤ k) (h2 : slots ≤ n) (kk : vx_W p l e R s m args below meth c H locs k n Q g q) : vx_W p l e R s m args below meth c H locs cells slots Q g q := fun T hT X => kk T hT (stand_widen X h1 h2)
theorem vx_out {pc : Nat} {E : String} {ce : Cell} {q : Addr} {mc ms : Nat} (hout : ∀ x ∈ c.exceptionTable.toList, covers x pc = false) (hlocks : meth.locks = false) (hcell : H[q]? = some ce) (hv : ce.vm = .none) (hcl : s.vm.findClass E = some ce.cls)
    (hx : ∀ t : State, t.heap = H → s.vm.Alike t.vm → XC E s t) (hf : ∀ z ∈ locs, free z.base) (hc : cells ≤ mc) (hs : slots ≤ ms) :
    vx_W p l e R s m args below meth c H locs cells slots (vx_MQ below Qc XC args s mc ms free) (F0 m pc ls rest) q := by
  intro T hT X
  obtain ⟨st1, hrun, hend, hW, hsm⟩ := X.leaveThrown q (g := F0 m pc ls rest) rfl rfl rfl hout hlocks
  have hcell9 : (T.setFrames (.throwing q :: below)).heap[q]? = some ce := by
    show T.heap[q]? = some ce
    rw [hT]; exact hcell
  exact ⟨_, st1, .threw q, hrun, hend, Or.inr ⟨q, rfl, E, ce, locs, hx _ hT hW.alike, hcell9, hv, hcl, hW, hsm.mono hc hs, hf⟩⟩
theorem vx_frame {U : State} {k n : Nat} (h : s.sameButNew ({ U with vm := s.vm } : State) locs k n) : s.heap.size ≤ U.heap.size ∧ ∀ q : Nat, q < s.heap.size → (∀ z ∈ locs, z.base ≠ q) → U.heap[q]? = s.heap[q]? := by
  obtain ⟨-, h2, -, -, -, h6⟩ := h
  refine ⟨h2, fun q hq hz => ?_⟩
  obtain ⟨c9, e1, e2, e3, e4⟩ := h6 q _ (Array.getElem?_eq_getElem hq)
  have hs : c9.slots = (s.heap[q]).slots := Array.ext_getElem? fun i => e4 i fun hm => hz _ hm rfl
  have h9 : c9 = s.heap[q] := by
    rw [hs] at e2
    exact e2
  have e5 : U.heap[q]? = some c9 := e1
  rw [e5, h9, Array.getElem?_eq_getElem hq]
/-- the words of a throw but the four that speak of the heap -/
def vx_no (w : Cond) : Bool := decide (w ≠ .isRef (.static Bundle.tN "UNASSIGNED_STACK" Bundle.steD)) && decide (w ≠ .isRef (.static Bundle.tN "SUPPRESSED_SENTINEL" Bundle.listD)) && decide (w ≠ .laysStatic Bundle.tN "UNASSIGNED_STACK" Bundle.steD) && decide (w ≠ .laysStatic Bundle.tN "SUPPRESSED_SENTINEL" Bundle.listD)
def vx_at0 (own : String) (ic : Nat) (X : String) (names : List String) : List Cond := (Bundle.ownAtoms0 own ic X names).filter vx_no
def vx_atS (own : String) (ic : Nat) (X : String) (names : List String) : List Cond := (Bundle.ownAtoms own ic X names).filter vx_no
/-- a word that the tables alone decide, or a good one -/
def vx_ot (w : Cond) : Bool := w.onTables || goodWord w
theorem vx_ot_at {args a' : Array Value} {s U : State} {w : Cond} (hW : s.WarmedH U.vm) (hvm : s.vm = U.vm) (hg : vx_ot w = true) (h : w.before args s = true) : w.before a' U = true := by
  simp only [vx_ot, Bool.or_eq_true] at hg
  rcases hg with hg | hg
  · exact va_tabs hg hvm h
  · exact word_at hW (good_of_word hg) h
/-- a list's words: the good ones out of the method's own list, the others by premises of their own -/
theorem vx_hat {args : Array Value} {s : State} {L B : List Cond} (h1 : ∀ w ∈ L.filter goodWord, w.before args s = true) (h2 : ∀ w ∈ L.filter (fun w => !goodWord w), w ∈ B) (h3 : ∀ w ∈ B, w.before args s = true) : ∀ w ∈ L, w.before args s = true := by
  intro w hw
  by_cases g : goodWord w = true
  · exact h1 w (List.mem_filter.mpr ⟨hw, g⟩)
  · refine h3 w (h2 w (List.mem_filter.mpr ⟨hw, ?_⟩))
    show (!goodWord w) = true
    cases hgw : goodWord w
    · rfl
    · exact absurd hgw g
theorem vx_c {args : Array Value} {s : State} {w : Cond} {B : List Cond} (h : w.before args s = true) (t : ∀ w ∈ B, w.before args s = true) : ∀ w' ∈ w :: B, w'.before args s = true := fun w' h' => (List.mem_cons.mp h').elim (fun e => by rw [e]; exact h) (t w')
theorem vx_n {args : Array Value} {s : State} : ∀ w ∈ ([] : List Cond), w.before args s = true := fun _ h => nomatch h
theorem vx_own {args : Array Value} {s : State} {L : List Cond} (h1 : ∀ w ∈ L.filter vx_no, w.before args s = true)
    (hU : (Cond.isRef (.static Bundle.tN "UNASSIGNED_STACK" Bundle.steD)).before args s = true) (hN : (Cond.isRef (.static Bundle.tN "SUPPRESSED_SENTINEL" Bundle.listD)).before args s = true)
    (lU : (Cond.laysStatic Bundle.tN "UNASSIGNED_STACK" Bundle.steD).before args s = true) (lN : (Cond.laysStatic Bundle.tN "SUPPRESSED_SENTINEL" Bundle.listD).before args s = true) : ∀ w ∈ L, w.before args s = true := by
  intro w hw
  by_cases e1 : w = .isRef (.static Bundle.tN "UNASSIGNED_STACK" Bundle.steD)
  · rw [e1]; exact hU
  · by_cases e2 : w = .isRef (.static Bundle.tN "SUPPRESSED_SENTINEL" Bundle.listD)
    · rw [e2]; exact hN
    · by_cases e3 : w = .laysStatic Bundle.tN "UNASSIGNED_STACK" Bundle.steD
      · rw [e3]; exact lU
      · by_cases e4 : w = .laysStatic Bundle.tN "SUPPRESSED_SENTINEL" Bundle.listD
        · rw [e4]; exact lN
        · exact h1 w (List.mem_filter.mpr ⟨hw, by unfold vx_no; rw [decide_eq_true e1, decide_eq_true e2, decide_eq_true e3, decide_eq_true e4]; rfl⟩)
/-- where a static field lies, its class's statics cell in H -/
def vx_L (C n d : String) (A : Nat → Prop) (U : State) (H : Heap) : Prop := ∃ (c : ClassId) (k : Class) (i : Nat) (f : Field) (a : Nat) (cell : Cell), U.vm.findClass C = some c ∧ U.fieldFound? C n d = some (c, k, i, f) ∧ f.isStatic = true ∧ k.statics = some a ∧ H[a]? = some cell ∧ cell.vm.isStatics = true ∧ cell.cls = c ∧ f.slot < cell.slots.size ∧ k.staticTypes[f.slot]? = some f.type ∧ ¬ A a
theorem vx_L.moved {C n d : String} {A : Nat → Prop} {u U : State} {H : Heap} (hvm : u.vm.Alike U.vm) (h : vx_L C n d A u H) : vx_L C n d A U H := by
  obtain ⟨c, k, i, f, a, cell, h1, h2, h3, h4, h5, h6, h7, h8, h9, h10⟩ := h
  obtain ⟨k', hi', he⟩ := State.fieldFound?_setVm hvm h2
  exact ⟨c, k', i, f, a, cell, by rw [hvm.findClass]; exact h1, hi', h3, by rw [he]; exact h4, h5, h6, h7, h8, by rw [he]; exact h9, h10⟩
theorem vx_L.kept {C n d : String} {A : Nat → Prop} {U : State} {H H1 : Heap} (h : vx_L C n d A U H) (hq : ∀ a : Nat, a < H.size → ¬ A a → H1[a]? = H[a]?) : vx_L C n d A U H1 := by
  obtain ⟨c, k, i, f, a, cell, h1, h2, h3, h4, h5, h6, h7, h8, h9, h10⟩ := h
  exact ⟨c, k, i, f, a, cell, h1, h2, h3, h4, by rw [hq a (Array.getElem?_eq_some_iff.mp h5).1 h10]; exact h5, h6, h7, h8, h9, h10⟩
theorem vx_L.narrow {C n d : String} {A B : Nat → Prop} {U : State} {H : Heap} (h : vx_L C n d A U H) (hAB : ∀ q, B q → A q) : vx_L C n d B U H := by
  obtain ⟨c, k, i, f, a, cell, h1, h2, h3, h4, h5, h6, h7, h8, h9, h10⟩ := h
  exact ⟨c, k, i, f, a, cell, h1, h2, h3, h4, h5, h6, h7, h8, h9, fun z => h10 (hAB _ z)⟩
theorem vx_L.word {C n d : String} {A : Nat → Prop} {s : State} {args : Array Value} (h : vx_L C n d A s s.heap) : (Cond.laysStatic C n d).before args s = true := by
  obtain ⟨c, k, i, f, a, cell, h1, h2, h3, h4, h5, h6, h7, h8, h9, -⟩ := h
  show (Cond.laysStatic C n d).holds args s none s [] = true
  exact Cond.laysStatic_of h1 h2 h3 h4 h5 h6 h7 h8 h9
/-- .. and what it holds: null or some reference -/
def vx_Zq (C n d : String) (A : Nat → Prop) (U : State) (H : Heap) : Prop := va_Zq C n d A U H ∧ vx_L C n d A U H
theorem vx_Zq.moved {C n d : String} {A : Nat → Prop} {u U : State} {H : Heap} (hvm : u.vm.Alike U.vm) (h : vx_Zq C n d A u H) : vx_Zq C n d A U H := ⟨va_Zq.moved hvm h.1, vx_L.moved hvm h.2⟩
theorem vx_Zq.kept {C n d : String} {A : Nat → Prop} {U : State} {H H1 : Heap} (h : vx_Zq C n d A U H) (hq : ∀ a : Nat, a < H.size → ¬ A a → H1[a]? = H[a]?) : vx_Zq C n d A U H1 := ⟨va_Zq.kept h.1 hq, vx_L.kept h.2 hq⟩
theorem vx_Zq.narrow {C n d : String} {A B : Nat → Prop} {U : State} {H : Heap} (h : vx_Zq C n d A U H) (hAB : ∀ q, B q → A q) : vx_Zq C n d B U H := ⟨va_Zq.narrow h.1 hAB, vx_L.narrow h.2 hAB⟩
theorem vx_Zqof {args : Array Value} {s : State} {C n d : String} {A : Nat → Prop} (hl : (Cond.laysStatic C n d).before args s = true) (hini : (Cond.initialized C).before args s = true) (h : (Cond.isRef (.static C n d)).before args s = true) (hA : ∀ a : Nat, a < s.heap.size → ¬ A a) : vx_Zq C n d A s s.heap := by
  refine ⟨va_Zqof hl hini h hA, ?_⟩
  obtain ⟨c, k, i, f, a, cell, h1, h2, h3, h4, h5, h6, h7, h8, h9⟩ := Cond.laysStatic_spec hl
  exact ⟨c, k, i, f, a, cell, h1, h2, h3, h4, h5, h6, h7, h8, h9, hA a (Array.getElem?_eq_some_iff.mp h5).1⟩
theorem vx_isRef {C n d : String} {v : Value} {A : Nat → Prop} {s : State} {args : Array Value} (h : va_Z C n d v A s s.heap) (hv : v.isRef = true) : (Cond.isRef (.static C n d)).before args s = true := by
  obtain ⟨cf, kf, fi, f, a, cell, h1, h2, h3, h4, h5, h6, h7, -⟩ := h
  have he : (Term.static C n d).eval args s none [] s = some v := by
    simp [Term.eval, State.fieldNamed?, h1, h2, h4, h5, h6, h7]
  simp only [Cond.before, Cond.holds, Cond.value, he]
  cases v <;> simp_all [Value.isRef]
theorem vx_isRefq {C n d : String} {A : Nat → Prop} {s : State} {args : Array Value} (h : va_Zq C n d A s s.heap) : (Cond.isRef (.static C n d)).before args s = true := by
  rcases h with h | ⟨t, h⟩
  · exact vx_isRef h rfl
  · exact vx_isRef h rfl
/-- the same frame, seen from here: as if the method were called anew in this heap -/
theorem vx_rebase {T : State} (X : Stand p l e R s m args below meth c T locs cells slots) {R' : Room} (hf : R'.frames ≤ R.frames) (hl : R'.locals ≤ R.locals) (hc : cells + R'.cells ≤ R.cells) (hs : slots + R'.slots ≤ R.slots) :
    Stand p l e R' ((T.setVm s.vm).setFrames (.invoking m args :: below)) m args below meth c T [] 0 0 := by
  have htop : (T.setVm s.vm).topJava?.isSome := X.here.top
  have hF : ((T.setVm s.vm).setFrames (.invoking m args :: below)).frames = .invoking m args :: below := State.frames_setFrames _ (State.cur_lt_of_top htop)
  obtain ⟨g₀, hg0⟩ := Option.isSome_iff_exists.mp htop
  obtain ⟨r, hr⟩ := State.topJava?_eq_some.mp hg0
  have hl9 : e.platform.stackLimits (T.setVm s.vm).me = e.platform.stackLimits s.me := X.limits
  have hb9 : (T.setVm s.vm).me.stackBytes = s.me.stackBytes := X.bytes
  refine ⟨X.admits, X.cas, X.clock, hF, ?_, X.hears, X.method, X.code, X.here, X.tail, X.warmed, ?_, ?_, ?_⟩
  · have h := X.room
    have hU : ((T.setVm s.vm).setFrames (.invoking m args :: below)).localsInUse = s.localsInUse := by
      rw [State.localsInUse_invoking hF (meth := meth) (c := c) X.method X.code, State.localsInUse_invoking X.frames X.method X.code]
    simp only [State.hasRoom, Bool.and_eq_true, decide_eq_true_eq] at h ⊢
    obtain ⟨⟨⟨⟨h1, h2, h3, h4, h5, h6⟩, h7⟩, h8⟩, h9⟩ := h
    rw [X.frames, List.length_cons] at h2 h3
    have q1 := X.heapSize
    have q2 := X.used
    simp only [hF, hU, List.length_cons, State.stackLimits_setFrames, State.stackBytes_setFrames, hl9, hb9]
    refine ⟨⟨⟨⟨by omega, by omega, by omega, by omega, by omega, h6⟩, ?_⟩, ?_⟩, X.book⟩
    · show T.heap.size + R'.cells ≤ e.platform.maxCells
      omega
    · show T.slotsUsed + R'.slots ≤ e.platform.maxSlots
      omega
  · rw [State.stackLimits_setFrames]; rfl
  · rw [State.stackBytes_setFrames]; rfl
  · refine ⟨?_, Nat.le_refl _, Nat.le_refl _, ?_, ?_, fun a c9 h9 => ⟨c9, h9, rfl, rfl, fun _ _ => rfl⟩⟩
    · obtain ⟨t, ht, -⟩ := State.frames_cons hr
      show T.setVm s.vm = { ((T.setVm s.vm).setFrames (.invoking m args :: below)).setFrames (T.setVm s.vm).frames with heap := T.heap, slotsUsed := T.slotsUsed }
      rw [State.setFrames_setFrames, State.setFrames_self ht]
      rfl
    · show T.slotsUsed = T.slotsUsed + ((T.heap.toList.drop T.heap.size).map (·.slots.size)).sum
      rw [List.drop_eq_nil_of_le (Nat.le_of_eq Array.length_toList)]
      rfl
    · show ((T.heap.toList.drop T.heap.size).map (·.slots.size)).sum ≤ 0
      rw [List.drop_eq_nil_of_le (Nat.le_of_eq Array.length_toList)]
      exact Nat.le_refl _
/-- 'throw new E()': new; dup; invokespecial; athrow -/
theorem vx_throw0 {cc : ByteArray} {pc : Nat} (hexec : p.tables.exec = Jvm.exec) (hb : c.code = cc) (hl : l.stackTraces = false) {own cls : String} {names : List String} {ik ic mc ms : Nat} {A : Nat → Prop}
    (hown : s.vm.findClass own = some m.cls) (hcls : Bundle.fit cls = true) (hnames : ∀ n ∈ names, Bundle.fit n = true)
    (hk : (Cond.classLink own ik cls).before args s = true) (hini : (Cond.initialized cls).before args s = true) (hat : ∀ w ∈ vx_at0 own ic cls names, w.before args s = true)
    (hgood : ∀ w ∈ Cond.classLink own ik cls :: Cond.initialized cls :: vx_at0 own ic cls names, vx_ot w = true)
    (hU : vx_Zq Bundle.tN "UNASSIGNED_STACK" Bundle.steD A s s.heap) (hN : vx_Zq Bundle.tN "SUPPRESSED_SENTINEL" Bundle.listD A s s.heap) (hS : va_S A s.heap H locs) (hsize : ls.size = c.maxLocals)
    (d0 : decode cc pc = .ok (.new ik, 3)) (d3 : decode cc (pc + 3) = .ok (.dup, 1)) (d4 : decode cc (pc + 4) = .ok (.invokespecial ic, 3)) (d7 : decode cc (pc + 7) = .ok (.athrow, 1))
    (hout : ∀ x ∈ c.exceptionTable.toList, covers x (pc + 7) = false)
    (hRframes : names.length + 3 < R.frames) (hRlocals : (rest.map fun v => v.category).sum + (13 * (names.length + 1) + 42) ≤ R.locals) (hRcells : cells + 1 ≤ R.cells) (hRslots : slots + 6 ≤ R.slots) (hlocks : meth.locks = false)
    (hx : ∀ t : State, s.vm.Alike t.vm → H.size ≤ t.heap.size → (∀ q : Nat, q < H.size → t.heap[q]? = H[q]?) → XC cls s t)
    (hf : ∀ z ∈ locs, free z.base) (hc : cells + 1 ≤ mc) (hs : slots + 6 ≤ ms) :
    W p l e R s m args below meth c H locs cells slots (vx_MQ below Qc XC args s mc ms free) (F0 m pc ls rest) := by
  intro T hT X
  have htr : e.platform.stackTraces = false := (show e.platform.stackTraces = l.stackTraces by rw [X.admits.platform]).trans hl
  have Y := vx_rebase X (R' := { frames := R.frames, locals := R.locals, cells := 1, slots := 6 }) (Nat.le_refl _) (Nat.le_refl _) hRcells hRslots
  obtain ⟨s', hA⟩ : ∃ z, z = (T.setVm s.vm).setFrames (.invoking m args :: below) := ⟨_, rfl⟩
  rw [← hA] at Y
  have hvm : s'.vm = s.vm := by rw [hA]; rfl
  have hhp : s'.heap = H := by rw [hA]; exact hT
  have hW0 : s.WarmedH s'.vm := by rw [hvm]; exact State.WarmedH.refl s
  have hat' : ∀ w ∈ vx_at0 own ic cls names, w.before args s' = true := fun w hw => vx_ot_at hW0 hvm.symm (hgood w (List.mem_cons_of_mem _ (List.mem_cons_of_mem _ hw))) (hat w hw)
  have hk' : (Cond.classLink own ik cls).before args s' = true := vx_ot_at hW0 hvm.symm (hgood _ List.mem_cons_self) hk
  have hini' : (Cond.initialized cls).before args s' = true := vx_ot_at hW0 hvm.symm (hgood _ (List.mem_cons_of_mem _ List.mem_cons_self)) hini
  have hU' : vx_Zq Bundle.tN "UNASSIGNED_STACK" Bundle.steD A s' s'.heap := by rw [hhp]; exact vx_Zq.moved hW0.alike (hU.kept hS.2.1)
  have hN' : vx_Zq Bundle.tN "SUPPRESSED_SENTINEL" Bundle.listD A s' s'.heap := by rw [hhp]; exact vx_Zq.moved hW0.alike (hN.kept hS.2.1)
  have h : ∀ w ∈ Bundle.ownAtoms0 own ic cls names, w.before args s' = true := vx_own hat' (vx_isRefq hU'.1) (vx_isRefq hN'.1) hU'.2.word hN'.2.word
  have hown' : s'.vm.findClass own = some m.cls := by rw [hvm]; exact hown
  have hins : (Cond.instantiable cls 6).before args s' = true := h _ (by simp [Bundle.ownAtoms0])
  obtain ⟨vm₁, cX, kX, hfX, hkX, -, -, X₁, st1⟩ := Y.newCold hexec (own := own) (C := cls) (index := ik) (n := 6) hown' hk' hins hini'
    (g := F0 m pc ls rest) rfl (by rw [hb]; exact d0) (Nat.le_refl _) (Nat.le_refl _)
  generalize hT1 : (T.setVm vm₁).pushCell { cls := cX, slots := kX.instanceTypes.map defaultValue, vm := .none } = T1 at X₁ st1
  have hcat : (Value.ref T.heap.size).category = 1 := rfl
  have hcellA : T1.heap[T.heap.size]? = some (freshCell cX kX) := by rw [← hT1]; exact State.heap_pushCell_size _ _
  have d3' : decode c.code (pc + 3) = .ok (.dup, 1) := by rw [hb]; exact d3
  obtain ⟨U, hsteps, hrun, hend, hW, hsame, ce, hce, hO⟩ := X₁.ctorThrow0 hexec htr (own := own) (cls := cls) (names := names) (ic := ic) hown' hcls hnames h (fun x hx => nomatch hx) hfX hkX hcellA (by rw [hhp, hT]; exact Nat.le_refl _)
    (g := { method := m, pc := pc + 4, locals := ls, stack := .ref T.heap.size :: .ref T.heap.size :: rest, locked := none }) rfl hsize rfl rfl (rest := rest) rfl
    (by rw [hb]; exact d4) (by rw [hb]; exact d7) hout hRframes (by simp only [List.map_cons, List.sum_cons, hcat]; omega) hlocks
  obtain ⟨f1, f2⟩ := vx_frame hsame
  rw [hhp] at f1 f2
  have hWs : s.WarmedH U.vm := State.WarmedH.trans hW0 hW
  have hcl : s.vm.findClass cls = some ce.cls := by
    have h9 := hO.cls
    rw [hvm] at h9
    exact h9
  have hall : s.sameButNew ({ U with vm := s.vm } : State) locs mc ms := by
    subst hA
    obtain ⟨e1, e2⟩ := hsame
    rw [State.setFrames_setFrames] at e1
    have h2 : (T.setVm s.vm).sameButNew ({ U with vm := s.vm } : State) [] (0 + 1) (0 + 6) := ⟨e1, e2⟩
    have h3 := X.same.trans h2
    rw [List.append_nil] at h3
    exact h3.mono hc hs
  refine ⟨U, ?_, .threw T.heap.size, hrun, hend, Or.inr ⟨T.heap.size, rfl, cls, ce, locs, hx U hWs.alike f1 (fun q hq => f2 q hq (fun z hz => nomatch hz)), hce, hO.vm, hcl, hWs, hall, hf⟩⟩
  refine st1 _ ?_
  show Steps p.tables e below (T1.setTop { method := m, pc := pc + 3, locals := ls, stack := .ref T.heap.size :: rest, locked := none }) _
  jvm_step X₁.here [X₁.here.top, hexec, d3', Value.category]
  exact hsteps
/-- 'throw new E("text")': new; dup; ldc; invokespecial; athrow -/
theorem vx_throwS {cc : ByteArray} {pc : Nat} (hexec : p.tables.exec = Jvm.exec) (hb : c.code = cc) (hl : l.stackTraces = false) {own cls text : String} {names : List String} {ik is ic mc ms sa : Nat} {A : Nat → Prop}
    (hown : s.vm.findClass own = some m.cls) (hcls : Bundle.fit cls = true) (hnames : ∀ n ∈ names, Bundle.fit n = true)
    (hk : (Cond.classLink own ik cls).before args s = true) (hini : (Cond.initialized cls).before args s = true) (hstr : vk_R own is text sa s) (hat : ∀ w ∈ vx_atS own ic cls names, w.before args s = true)
    (hgood : ∀ w ∈ Cond.classLink own ik cls :: Cond.initialized cls :: vx_atS own ic cls names, vx_ot w = true)
    (hU : vx_Zq Bundle.tN "UNASSIGNED_STACK" Bundle.steD A s s.heap) (hN : vx_Zq Bundle.tN "SUPPRESSED_SENTINEL" Bundle.listD A s s.heap) (hS : va_S A s.heap H locs) (hsize : ls.size = c.maxLocals)
    (d0 : decode cc pc = .ok (.new ik, 3)) (d3 : decode cc (pc + 3) = .ok (.dup, 1)) (d4 : decode cc (pc + 4) = .ok (.ldc is, 2)) (d6 : decode cc (pc + 6) = .ok (.invokespecial ic, 3)) (d9 : decode cc (pc + 9) = .ok (.athrow, 1))
    (hout : ∀ x ∈ c.exceptionTable.toList, covers x (pc + 9) = false)
    (hRframes : names.length + 3 < R.frames) (hRlocals : (rest.map fun v => v.category).sum + (13 * (names.length + 1) + 43) ≤ R.locals) (hRcells : cells + 1 ≤ R.cells) (hRslots : slots + 6 ≤ R.slots) (hlocks : meth.locks = false)
    (hx : ∀ t : State, s.vm.Alike t.vm → H.size ≤ t.heap.size → (∀ q : Nat, q < H.size → t.heap[q]? = H[q]?) → XC cls s t)
    (hf : ∀ z ∈ locs, free z.base) (hc : cells + 1 ≤ mc) (hs : slots + 6 ≤ ms) :
    W p l e R s m args below meth c H locs cells slots (vx_MQ below Qc XC args s mc ms free) (F0 m pc ls rest) := by
  intro T hT X
  have htr : e.platform.stackTraces = false := (show e.platform.stackTraces = l.stackTraces by rw [X.admits.platform]).trans hl
  have Y := vx_rebase X (R' := { frames := R.frames, locals := R.locals, cells := 1, slots := 6 }) (Nat.le_refl _) (Nat.le_refl _) hRcells hRslots
  obtain ⟨s', hA⟩ : ∃ z, z = (T.setVm s.vm).setFrames (.invoking m args :: below) := ⟨_, rfl⟩
  rw [← hA] at Y
  have hvm : s'.vm = s.vm := by rw [hA]; rfl
  have hhp : s'.heap = H := by rw [hA]; exact hT
  have hW0 : s.WarmedH s'.vm := by rw [hvm]; exact State.WarmedH.refl s
  have hat' : ∀ w ∈ vx_atS own ic cls names, w.before args s' = true := fun w hw => vx_ot_at hW0 hvm.symm (hgood w (List.mem_cons_of_mem _ (List.mem_cons_of_mem _ hw))) (hat w hw)
  have hk' : (Cond.classLink own ik cls).before args s' = true := vx_ot_at hW0 hvm.symm (hgood _ List.mem_cons_self) hk
  have hini' : (Cond.initialized cls).before args s' = true := vx_ot_at hW0 hvm.symm (hgood _ (List.mem_cons_of_mem _ List.mem_cons_self)) hini
  have hU' : vx_Zq Bundle.tN "UNASSIGNED_STACK" Bundle.steD A s' s'.heap := by rw [hhp]; exact vx_Zq.moved hW0.alike (hU.kept hS.2.1)
  have hN' : vx_Zq Bundle.tN "SUPPRESSED_SENTINEL" Bundle.listD A s' s'.heap := by rw [hhp]; exact vx_Zq.moved hW0.alike (hN.kept hS.2.1)
  have h : ∀ w ∈ Bundle.ownAtoms own ic cls names, w.before args s' = true := vx_own hat' (vx_isRefq hU'.1) (vx_isRefq hN'.1) hU'.2.word hN'.2.word
  have hown' : s'.vm.findClass own = some m.cls := by rw [hvm]; exact hown
  have hins : (Cond.instantiable cls 6).before args s' = true := h _ (by simp [Bundle.ownAtoms])
  obtain ⟨vm₁, cX, kX, hfX, hkX, -, -, X₁, st1⟩ := Y.newCold hexec (own := own) (C := cls) (index := ik) (n := 6) hown' hk' hins hini'
    (g := F0 m pc ls rest) rfl (by rw [hb]; exact d0) (Nat.le_refl _) (Nat.le_refl _)
  generalize hT1 : (T.setVm vm₁).pushCell { cls := cX, slots := kX.instanceTypes.map defaultValue, vm := .none } = T1 at X₁ st1
  have hcat : (Value.ref T.heap.size).category = 1 := rfl
  have hcellA : T1.heap[T.heap.size]? = some (freshCell cX kX) := by rw [← hT1]; exact State.heap_pushCell_size _ _
  have d3' : decode c.code (pc + 3) = .ok (.dup, 1) := by rw [hb]; exact d3
  have d4' : decode c.code (pc + 4) = .ok (.ldc is, 2) := by rw [hb]; exact d4
  have hstr' : vk_R own is text sa s' := vk_R.warm hW0 hstr
  obtain ⟨U, hsteps, hrun, hend, hW, hsame, ce, hce, hO⟩ := X₁.ctorThrowS hexec htr (own := own) (cls := cls) (names := names) (ic := ic) hown' hcls hnames h (fun x hx => nomatch hx) hfX hkX hcellA (by rw [hhp, hT]; exact Nat.le_refl _) (msg := .ref sa) rfl
    (g := { method := m, pc := pc + 6, locals := ls, stack := .ref sa :: .ref T.heap.size :: .ref T.heap.size :: rest, locked := none }) rfl hsize rfl rfl (rest := rest) rfl
    (by rw [hb]; exact d6) (by rw [hb]; exact d9) hout hRframes (by simp only [List.map_cons, List.sum_cons, hcat]; omega) hlocks
  obtain ⟨f1, f2⟩ := vx_frame hsame
  rw [hhp] at f1 f2
  have hWs : s.WarmedH U.vm := State.WarmedH.trans hW0 hW
  have hcl : s.vm.findClass cls = some ce.cls := by
    have h9 := hO.cls
    rw [hvm] at h9
    exact h9
  have hall : s.sameButNew ({ U with vm := s.vm } : State) locs mc ms := by
    subst hA
    obtain ⟨e1, e2⟩ := hsame
    rw [State.setFrames_setFrames] at e1
    have h2 : (T.setVm s.vm).sameButNew ({ U with vm := s.vm } : State) [] (0 + 1) (0 + 6) := ⟨e1, e2⟩
    have h3 := X.same.trans h2
    rw [List.append_nil] at h3
    exact h3.mono hc hs
  refine ⟨U, ?_, .threw T.heap.size, hrun, hend, Or.inr ⟨T.heap.size, rfl, cls, ce, locs, hx U hWs.alike f1 (fun q hq => f2 q hq (fun z hz => nomatch hz)), hce, hO.vm, hcl, hWs, hall, hf⟩⟩
  refine st1 _ ?_
  show Steps p.tables e below (T1.setTop { method := m, pc := pc + 3, locals := ls, stack := .ref T.heap.size :: rest, locked := none }) _
  jvm_step X₁.here [X₁.here.top, hexec, d3', Value.category]
  exact X₁.ldcString hexec (own := own) (text := text) (index := is) (a := sa) hown' hstr'.1 hstr'.2
    (g := { method := m, pc := pc + 4, locals := ls, stack := .ref T.heap.size :: .ref T.heap.size :: rest, locked := none }) rfl d4' _ hsteps
/-- 'throw new E("text")', the text by a wide index -/
theorem vx_throwSW {cc : ByteArray} {pc : Nat} (hexec : p.tables.exec = Jvm.exec) (hb : c.code = cc) (hl : l.stackTraces = false) {own cls text : String} {names : List String} {ik is ic mc ms sa : Nat} {A : Nat → Prop}
    (hown : s.vm.findClass own = some m.cls) (hcls : Bundle.fit cls = true) (hnames : ∀ n ∈ names, Bundle.fit n = true)
    (hk : (Cond.classLink own ik cls).before args s = true) (hini : (Cond.initialized cls).before args s = true) (hstr : vk_R own is text sa s) (hat : ∀ w ∈ vx_atS own ic cls names, w.before args s = true)
    (hgood : ∀ w ∈ Cond.classLink own ik cls :: Cond.initialized cls :: vx_atS own ic cls names, vx_ot w = true)
    (hU : vx_Zq Bundle.tN "UNASSIGNED_STACK" Bundle.steD A s s.heap) (hN : vx_Zq Bundle.tN "SUPPRESSED_SENTINEL" Bundle.listD A s s.heap) (hS : va_S A s.heap H locs) (hsize : ls.size = c.maxLocals)
    (d0 : decode cc pc = .ok (.new ik, 3)) (d3 : decode cc (pc + 3) = .ok (.dup, 1)) (d4 : decode cc (pc + 4) = .ok (.ldc_w is, 3)) (d7 : decode cc (pc + 7) = .ok (.invokespecial ic, 3)) (d10 : decode cc (pc + 10) = .ok (.athrow, 1))
    (hout : ∀ x ∈ c.exceptionTable.toList, covers x (pc + 10) = false)
    (hRframes : names.length + 3 < R.frames) (hRlocals : (rest.map fun v => v.category).sum + (13 * (names.length + 1) + 43) ≤ R.locals) (hRcells : cells + 1 ≤ R.cells) (hRslots : slots + 6 ≤ R.slots) (hlocks : meth.locks = false)
    (hx : ∀ t : State, s.vm.Alike t.vm → H.size ≤ t.heap.size → (∀ q : Nat, q < H.size → t.heap[q]? = H[q]?) → XC cls s t)
    (hf : ∀ z ∈ locs, free z.base) (hc : cells + 1 ≤ mc) (hs : slots + 6 ≤ ms) :
    W p l e R s m args below meth c H locs cells slots (vx_MQ below Qc XC args s mc ms free) (F0 m pc ls rest) := by
  intro T hT X
  have htr : e.platform.stackTraces = false := (show e.platform.stackTraces = l.stackTraces by rw [X.admits.platform]).trans hl
  have Y := vx_rebase X (R' := { frames := R.frames, locals := R.locals, cells := 1, slots := 6 }) (Nat.le_refl _) (Nat.le_refl _) hRcells hRslots
  obtain ⟨s', hA⟩ : ∃ z, z = (T.setVm s.vm).setFrames (.invoking m args :: below) := ⟨_, rfl⟩
  rw [← hA] at Y
  have hvm : s'.vm = s.vm := by rw [hA]; rfl
  have hhp : s'.heap = H := by rw [hA]; exact hT
  have hW0 : s.WarmedH s'.vm := by rw [hvm]; exact State.WarmedH.refl s
  have hat' : ∀ w ∈ vx_atS own ic cls names, w.before args s' = true := fun w hw => vx_ot_at hW0 hvm.symm (hgood w (List.mem_cons_of_mem _ (List.mem_cons_of_mem _ hw))) (hat w hw)
  have hk' : (Cond.classLink own ik cls).before args s' = true := vx_ot_at hW0 hvm.symm (hgood _ List.mem_cons_self) hk
  have hini' : (Cond.initialized cls).before args s' = true := vx_ot_at hW0 hvm.symm (hgood _ (List.mem_cons_of_mem _ List.mem_cons_self)) hini
  have hU' : vx_Zq Bundle.tN "UNASSIGNED_STACK" Bundle.steD A s' s'.heap := by rw [hhp]; exact vx_Zq.moved hW0.alike (hU.kept hS.2.1)
  have hN' : vx_Zq Bundle.tN "SUPPRESSED_SENTINEL" Bundle.listD A s' s'.heap := by rw [hhp]; exact vx_Zq.moved hW0.alike (hN.kept hS.2.1)
  have h : ∀ w ∈ Bundle.ownAtoms own ic cls names, w.before args s' = true := vx_own hat' (vx_isRefq hU'.1) (vx_isRefq hN'.1) hU'.2.word hN'.2.word
  have hown' : s'.vm.findClass own = some m.cls := by rw [hvm]; exact hown
  have hins : (Cond.instantiable cls 6).before args s' = true := h _ (by simp [Bundle.ownAtoms])
  obtain ⟨vm₁, cX, kX, hfX, hkX, -, -, X₁, st1⟩ := Y.newCold hexec (own := own) (C := cls) (index := ik) (n := 6) hown' hk' hins hini'
    (g := F0 m pc ls rest) rfl (by rw [hb]; exact d0) (Nat.le_refl _) (Nat.le_refl _)
  generalize hT1 : (T.setVm vm₁).pushCell { cls := cX, slots := kX.instanceTypes.map defaultValue, vm := .none } = T1 at X₁ st1
  have hcat : (Value.ref T.heap.size).category = 1 := rfl
  have hcellA : T1.heap[T.heap.size]? = some (freshCell cX kX) := by rw [← hT1]; exact State.heap_pushCell_size _ _
  have d3' : decode c.code (pc + 3) = .ok (.dup, 1) := by rw [hb]; exact d3
  have d4' : decode c.code (pc + 4) = .ok (.ldc_w is, 3) := by rw [hb]; exact d4
  have hstr' : vk_R own is text sa s' := vk_R.warm hW0 hstr
  obtain ⟨U, hsteps, hrun, hend, hW, hsame, ce, hce, hO⟩ := X₁.ctorThrowS hexec htr (own := own) (cls := cls) (names := names) (ic := ic) hown' hcls hnames h (fun x hx => nomatch hx) hfX hkX hcellA (by rw [hhp, hT]; exact Nat.le_refl _) (msg := .ref sa) rfl
    (g := { method := m, pc := pc + 7, locals := ls, stack := .ref sa :: .ref T.heap.size :: .ref T.heap.size :: rest, locked := none }) rfl hsize rfl rfl (rest := rest) rfl
    (by rw [hb]; exact d7) (by rw [hb]; exact d10) hout hRframes (by simp only [List.map_cons, List.sum_cons, hcat]; omega) hlocks
  obtain ⟨f1, f2⟩ := vx_frame hsame
  rw [hhp] at f1 f2
  have hWs : s.WarmedH U.vm := State.WarmedH.trans hW0 hW
  have hcl : s.vm.findClass cls = some ce.cls := by
    have h9 := hO.cls
    rw [hvm] at h9
    exact h9
  have hall : s.sameButNew ({ U with vm := s.vm } : State) locs mc ms := by
    subst hA
    obtain ⟨e1, e2⟩ := hsame
    rw [State.setFrames_setFrames] at e1
    have h2 : (T.setVm s.vm).sameButNew ({ U with vm := s.vm } : State) [] (0 + 1) (0 + 6) := ⟨e1, e2⟩
    have h3 := X.same.trans h2
    rw [List.append_nil] at h3
    exact h3.mono hc hs
  refine ⟨U, ?_, .threw T.heap.size, hrun, hend, Or.inr ⟨T.heap.size, rfl, cls, ce, locs, hx U hWs.alike f1 (fun q hq => f2 q hq (fun z hz => nomatch hz)), hce, hO.vm, hcl, hWs, hall, hf⟩⟩
  refine st1 _ ?_
  show Steps p.tables e below (T1.setTop { method := m, pc := pc + 3, locals := ls, stack := .ref T.heap.size :: rest, locked := none }) _
  jvm_step X₁.here [X₁.here.top, hexec, d3', Value.category]
  exact X₁.ldcStringW hexec (own := own) (text := text) (index := is) (a := sa) hown' hstr'.1 hstr'.2
    (g := { method := m, pc := pc + 4, locals := ls, stack := .ref T.heap.size :: .ref T.heap.size :: rest, locked := none }) rfl d4' _ hsteps
end Ends
section Bodies
variable {l : Launch}
theorem vx_ofW {y : MethodName} {ws ws' : List Cond} {rm : Room} {Pc : Array Value → State → Prop} {Qc : Array Value → State → Outcome → State → Prop} {XC : String → State → State → Prop} {mc ms : Nat} {free : Addr → Prop} {cc : ByteArray} {maxL : Nat} {ret : Option FieldType}
    (hy : plainName y.cls = true) (hw : ws = Cond.code y cc maxL ret :: ws')
    (body : ∀ p e s m args below meth c s₁, BodyLoose p l y (headSpec ws rm) cc maxL ret e s m args below meth c s₁ → c.maxLocals = maxL → (∀ x ∈ c.exceptionTable.toList, False) → Pc args s →
      W p l e (headSpec ws rm).room s m args below meth c s.heap [] 0 0 (vx_MQ below Qc XC args s mc ms free) (entryFrame m args maxL)) : vx_Met l y ws rm Pc Qc XC mc ms free := by
  refine MetFree.of_bodyS (code := cc) (maxLocals := maxL) (ret := ret) hy ?_ ?_
  · intro args s m h hn
    obtain ⟨meth, c, h1, h2, h3, h4, h5, h6, -, -⟩ := Cond.code_spec hn (atoms_spec (ws := ws) h _ (by rw [hw]; exact List.mem_cons_self))
    exact ⟨meth, c, h1, h2, h3, h4, h5, h6⟩
  · intro p e s m args below meth c s₁ B hml hP _
    have hh0 : s₁.heap = s.heap := by rw [B.state]; rfl
    have ht : ∀ x ∈ c.exceptionTable.toList, False := by
      obtain ⟨meth9, c9, h1, h2, -, -, -, -, h7, -⟩ := Cond.code_spec B.named (atoms_spec (ws := ws) B.pre _ (by rw [hw]; exact List.mem_cons_self))
      cases Option.some.inj (h1.symm.trans B.method)
      cases Option.some.inj (h2.symm.trans (Stand.of_body B).code)
      intro x hx
      rw [Array.isEmpty_iff.mp h7] at hx
      cases hx
    obtain ⟨t, a1, o, b1, b2, b3⟩ := body p e s m args below meth c s₁ B hml ht hP s₁ hh0 (Stand.of_body B)
    exact ⟨t, o, a1, b1, b2, b3⟩
/-- the table of a body with handlers -/
theorem vx_table {p : Program} {x y : MethodName} {S : Spec} {cc bytes : ByteArray} {maxL maxL' : Nat} {ret ret' : Option FieldType} {e : Env} {s s₁ : State} {m : MethodId} {args : Array Value} {below : List Frame} {meth : Method} {c : Code} {hh : List (Nat × Nat × Nat × Nat)}
    (B : BodyLoose p l y S cc maxL ret e s m args below meth c s₁) (h : (Cond.codeWith y bytes maxL' ret' hh).before args s = true) : c.exceptionTable.toList = tableOf hh := by
  obtain ⟨m9, meth9, c9, hn9, h1, h2, -, -, h6, -⟩ := Cond.codeWith_spec h
  cases Option.some.inj (hn9.symm.trans B.named)
  cases Option.some.inj (h1.symm.trans B.method)
  cases Option.some.inj (h2.symm.trans (Stand.of_body B).code)
  rw [← h6, table_eq]
end Bodies
end VXA
/-! ===== END ===== -/
/-! ===== BEGIN a static call of a method with an exception table ===== -/
section VXS
variable {p : Program} {l : Launch} {e : Env} {R : Room} {s : State} {m : MethodId} {args : Array Value} {below : List Frame} {meth : Method} {c : Code} {T : State} {H : Heap} {locs : List Loc} {cells slots : Nat}
abbrev vx_CSW (R : Room) (s : State) (args : Array Value) (own : String) (index : Nat) (y : MethodName) (bytes : ByteArray) (maxL : Nat) (ret : Option FieldType) (hh : List (Nat × Nat × Nat × Nat)) (ws : List Cond) (rm : Room) (mc ms n : Nat) : Prop :=
  (rm.cells = mc ∧ rm.slots = ms ∧ rm.frames + 1 ≤ R.frames ∧ 8 + (maxL + 11) + rm.locals ≤ R.locals ∧ (∀ w ∈ ws, ∀ (a' : Array Value) (U : State), s.WarmedH U.vm → w.before a' U = true) ∧ Cond.codeWith y bytes maxL ret hh ∈ ws) ∧
  (Cond.codeWith y bytes maxL ret hh).before args s = true ∧ (Cond.initialized y.cls).before args s = true ∧ (y.cls ≠ "java/lang/invoke/MethodHandle" ∧ y.cls ≠ "java/lang/invoke/VarHandle") ∧
  (∀ sig, parseMethodDescriptor y.desc = some sig → n = sig.parameters.length) ∧ (Cond.methodLink own index y).before args s = true ∧ (Cond.static y).before args s = true
theorem vx_cwSW {own : String} {index maxL mc ms : Nat} {y : MethodName} {bytes : ByteArray} {ret : Option FieldType} {hh : List (Nat × Nat × Nat × Nat)} {Ts ws ws' : List Cond} {rm : Room} (n : Nat) (ht : ∀ w ∈ Ts, w.before args s = true) (hT : GoodIn Ts (va_wsS own index y ws)) (hw : ws = Cond.codeWith y bytes maxL ret hh :: ws') (hrc : rm.cells = mc) (hrs : rm.slots = ms)
    (hd : y.cls ≠ "java/lang/invoke/MethodHandle" ∧ y.cls ≠ "java/lang/invoke/VarHandle" ∧ (parseMethodDescriptor y.desc).map (fun d => d.parameters.length) = some n) (hR : rm.frames + 1 ≤ R.frames ∧ 8 + (maxL + 11) + rm.locals ≤ R.locals) :
    vx_CSW R s args own index y bytes maxL ret hh ws rm mc ms n := by
  have ok : ∀ w ∈ va_wsS own index y ws, w.before args s = true := fun w h => ht w (hT w h).1
  have hG : GoodIn Ts ws := fun w h => hT w (by unfold va_wsS; exact List.mem_append_right _ h)
  have hc : Cond.codeWith y bytes maxL ret hh ∈ ws := by rw [hw]; exact List.mem_cons_self
  refine ⟨⟨hrc, hrs, hR.1, hR.2, pay_in ht hG, hc⟩, ht _ (hG _ hc).1, ok _ (by simp [va_wsS]), ⟨hd.1, hd.2.1⟩, fun sig h => ?_, ok _ (by simp [va_wsS]), ok _ (by simp [va_wsS])⟩
  have h2 := hd.2.2
  rw [h] at h2
  exact (Option.some.inj h2).symm
theorem vx_callSW (X : Stand p l e R s m args below meth c T locs cells slots) (hexec : p.tables.exec = Jvm.exec) {own : String} {index : Nat} {y : MethodName} {bytes : ByteArray} {maxL : Nat} {ret : Option FieldType} {hh : List (Nat × Nat × Nat × Nat)}
    (hown : s.vm.findClass own = some m.cls) (hlink : (Cond.methodLink own index y).before args s = true) (hstat : (Cond.static y).before args s = true) (hinit : (Cond.initialized y.cls).before args s = true)
    (hcode : (Cond.codeWith y bytes maxL ret hh).before args s = true) (hy : y.cls ≠ "java/lang/invoke/MethodHandle" ∧ y.cls ≠ "java/lang/invoke/VarHandle")
    {W9 : Nat} {Pre : Pt → Array Value → Prop} {Post : Pt → Array Value → Option Value → Pt → Prop} (hK : Back l R p e below s args y 3 W9 Pre Post)
    {g : JFrame} (hg : g.method = m) (hsize : g.locals.size = c.maxLocals) {argsL rest : List Value} (hlen : ∀ sig, parseMethodDescriptor y.desc = some sig → argsL.length = sig.parameters.length)
    (hstack : g.stack = argsL.reverse ++ rest) (hW : 2 * g.monitorRoom + (rest.map fun v => v.category).sum ≤ W9) (hdg : decode c.code g.pc = .ok (.invokestatic index, 3))
    (hpre : ∀ vm₁, s.WarmedH vm₁ → Pre ⟨T.setVm vm₁, locs, cells, slots⟩ argsL.toArray) :
    ∃ (v : Option Value) (vm₁ : Vm) (B : Pt), s.WarmedH vm₁ ∧ Stand p l e R s m args below meth c B.U B.locs B.cells B.slots ∧ Post ⟨T.setVm vm₁, locs, cells, slots⟩ argsL.toArray v B ∧
      ∀ target, Steps p.tables e below (B.U.setTop { g with pc := g.pc + 3, stack := v.toList ++ rest }) target → Steps p.tables e below (T.setTop g) target := by
  obtain ⟨mk, methM, cM, hnamed, hmethM, -, -, -, -, -, -, hsigM⟩ := Cond.codeWith_spec hcode
  have hstatic : methM.isStatic = true := Cond.static_spec hnamed hmethM hstat
  obtain ⟨kP, hkP, -⟩ := className_of_methodNamed hnamed
  have hinitP : kP.init = .initialized := Cond.initialized_spec (findClass_of_methodNamed hnamed) hkP hinit
  obtain ⟨vm₁, X₁, hstep₁⟩ := X.invokestatic hexec hown hlink hnamed hmethM hstatic hkP hinitP hy (g := g) hg (argsL := argsL) (rest := rest) (hlen _ hsigM) hstack hdg
  obtain ⟨v, B, X', hpost, hsteps⟩ := hK m meth c ⟨T.setVm vm₁, locs, cells, slots⟩ { g with stack := rest } (.invokestatic index) mk argsL.toArray X₁ hg hsize hdg hW (X₁.named hnamed) (hpre vm₁ X₁.warmed)
  exact ⟨v, vm₁, B, X₁.warmed, X', hpost, fun target h => hstep₁ _ fun acts => by rw [doInvoke_state]; exact hsteps.trans h⟩
theorem vx_runSW {y : MethodName} {bytes cc : ByteArray} {maxL nL mc ms n index : Nat} {ret : Option FieldType} {hh : List (Nat × Nat × Nat × Nat)} {ws : List Cond} {rm : Room} {Pc : Array Value → State → Prop} {Qc : Array Value → State → Outcome → State → Prop} {free : Addr → Prop} {Ts : List Cond} {own : String} {As rest : List Value} {g : JFrame}
    (S : CallFix p m c cc nL s args Ts own) (hM : Met l y ws rm Pc Qc mc ms free) (cw : vx_CSW R s args own index y bytes maxL ret hh ws rm mc ms n) (hp : PreS s H Pc As)
    (hg : g.method = m) (hn : As.length = n) (hsize : g.locals.size = nL) (hstack : g.stack = As.reverse ++ rest) (hW : 2 * g.monitorRoom + (rest.map fun v => v.category).sum ≤ 8) (hdg : decode cc g.pc = .ok (.invokestatic index, 3)) (hf : cells + mc ≤ R.cells ∧ slots + ms ≤ R.slots) :
    va_Run p l e R s m args below meth c H locs cells slots mc ms g rest (Qc As.toArray) (free) := by
  obtain ⟨⟨hrc, hrs, hfr, hlo, hws, hcw⟩, hcode, hini, hy, hlen, hl, hstt⟩ := cw
  have hK : Back l R p e below s args y 3 8 (PreOf R mc ms Pc) (PostOf Qc mc ms free) := va_backW (hh := hh) (bytes := bytes) (maxL := maxL) (ret := ret) hM hp.1 hrc hrs hfr hlo hws hcw (fun a' U hW => word_at hW (Or.inl (by first | rfl | simp [Cond.onTables, Cond.keeps, Cond.steady])) hini)
  obtain ⟨hx, hb, hml, ho, -⟩ := S
  intro T hT X
  obtain ⟨v, vm₁, ⟨U', l2, c2, s2⟩, hW₁, X', ⟨g', mk, t, L, e1, e2, hq, h1, hL, h2, h3⟩, st⟩ := vx_callSW X hx (hh := hh) (bytes := bytes) (maxL := maxL) (ret := ret) ho hl hstt hini hcode hy hK hg (hsize.trans hml.symm) (argsL := As) (rest := rest) (fun sig h => hn.trans (hlen sig h)) hstack hW (by rw [hb]; exact hdg)
    (fun vm₁ hW₁ => ⟨hf.1, hf.2, hp.2 (T.setVm vm₁) hT hW₁⟩)
  dsimp only [Pt.U, Pt.locs, Pt.cells, Pt.slots] at X' e1 e2 h1 h2 h3 st
  subst h1; subst h2; subst h3
  exact ⟨v, (T.setVm vm₁).calling g' mk As.toArray, t, U', L, hT, X', hL, e1, e2, hq, st⟩
/-- not caught here, past rows that name other classes: it goes on to the caller -/
theorem vx_outP {p : Program} {l : Launch} {e : Env} {R : Room} {s : State} {m : MethodId} {args : Array Value} {below : List Frame} {meth : Method} {c : Code} {H : Heap} {locs : List Loc} {cells slots : Nat} {free : Addr → Prop} {ls : Array Slot} {rest : List Value} {Qc : Array Value → State → Outcome → State → Prop} {XC : String → State → State → Prop}
    {pc : Nat} {own E : String} {ce : Cell} {q : Addr} {mc ms : Nat} (hown : s.vm.findClass own = some m.cls) (hlocks : meth.locks = false)
    (hpass : ∀ z ∈ c.exceptionTable.toList, covers z pc = false ∨ (z.catchType ≠ 0 ∧ ∃ nm : String, (Cond.classLink own z.catchType nm).before args s = true ∧ va_Nc E nm s)) (hcell : H[q]? = some ce) (hv : ce.vm = .none) (hcl : s.vm.findClass E = some ce.cls)
    (hx : ∀ t : State, t.heap = H → s.vm.Alike t.vm → XC E s t) (hf : ∀ z ∈ locs, free z.base) (hc : cells ≤ mc) (hs : slots ≤ ms) :
    vx_W p l e R s m args below meth c H locs cells slots (vx_MQ below Qc XC args s mc ms free) (F0 m pc ls rest) q := by
  intro T hT X
  have hpl : e.platform.magicAccessors = ({} : Platform).magicAccessors := by rw [X.admits.platform]
  obtain ⟨vm', hW', X', st⟩ := X.outThrough hlocks q (g := F0 m pc ls rest) rfl rfl rfl (cell := ce) (by rw [hT]; exact hcell) (by rw [hv]; rfl)
    (by obtain ⟨k9, h9, -⟩ := Vm.findClass_spec hcl; exact ⟨k9, h9⟩) (fun z hz => by
      rcases hpass z hz with h | ⟨hz0, nm, hl1, hn1⟩
      · exact Or.inl h
      · obtain ⟨c6, hc6, hcl6⟩ := Cond.classLink_spec hown hl1 e.platform hpl
        obtain ⟨a8, b8, h1, h2, h3⟩ := hn1
        cases Option.some.inj (h1.symm.trans hcl)
        cases Option.some.inj (h2.symm.trans hc6)
        exact Or.inr ⟨hz0, _, hcl6, h3⟩)
  obtain ⟨g₀, hfr⟩ := X'.frames_eq
  have hcell9 : ((T.setVm vm').setFrames (.throwing q :: below)).heap[q]? = some ce := by
    show T.heap[q]? = some ce
    rw [hT]; exact hcell
  have hend : Ended ((T.setVm vm').setFrames (.throwing q :: below)) below (.threw q) := State.frames_setFrames _ (State.cur_lt_of_frames hfr)
  refine ⟨(T.setVm vm').setFrames (.throwing q :: below), ?_, .threw q, X'.here.running, hend, Or.inr ⟨q, rfl, E, ce, locs, hx _ hT (X'.ends _).1.alike, hcell9, hv, hcl, (X'.ends _).1, (X'.ends _).2.mono hc hs, hf⟩⟩
  rw [X.pushThrowing_eq]
  exact st
/-- a thing of a world lies in the heap -/
theorem vx_lt {D : va_G} {cl : List vw_C} {ws : va_W} {H1 : Heap} (h : va_P D cl ws H1) {k : Nat} {q : Nat × va_E} (hk : ws[k]? = some q) : q.1 < H1.size := (h k q hk).lt
end VXS
/-! ===== END ===== -/
/-! ===== BEGIN methods with a table of their own: called by a name, returning or throwing ===== -/
section VXH
/-! vx_backW, vx_callVX, vx_callSX, vx_callVW, vx_runVW, vx_runVX, vx_runSX, vx_ofWH follow the same proofs as their sisters above (Free/Laws.lean, Shelf42/LK1.lean); vx_outP calls Shelf42/NT130.lean (outThrough). -/
section
variable {l : Launch} {R : Room} {p : Program} {e : Env} {below : List Frame} {s : State} {sargs : Array Value} {y : MethodName} {len W9 : Nat}
theorem vx_backW {ws : List Cond} {rm : Room} {Pc : Array Value → State → Prop} {Qc : Array Value → State → Outcome → State → Prop} {XC : String → State → State → Prop} {mc ms : Nat} {free : Addr → Prop} {bytes : ByteArray} {maxL : Nat} {ret : Option FieldType} {hh : List (Nat × Nat × Nat × Nat)}
    (hM : vx_Met l y ws rm Pc Qc XC mc ms free) (hblind : FrameBlind Pc) (hrc : rm.cells = mc) (hrs : rm.slots = ms)
    (hframes : rm.frames + 1 ≤ R.frames) (hlocals : W9 + (maxL + 11) + rm.locals ≤ R.locals)
    (hws : ∀ w ∈ ws, ∀ a' U, s.WarmedH U.vm → w.before a' U = true) (hcode : Cond.codeWith y bytes maxL ret hh ∈ ws) (hinit : ∀ a' U, s.WarmedH U.vm → (Cond.initialized y.cls).before a' U = true) :
    vx_Back l R p e below s sargs y len W9 (PreOf R mc ms Pc) (PostOf Qc mc ms free) (vx_Post XC mc ms free) := by
  intro m meth c A g ig mk a X hg hsize hdg hW hn hp
  have h1 : (headSpec ws rm).pre.before a A.U = true := atoms_intro fun w hw => hws w hw _ _ X.warmed
  have h2 : (Cond.codeWith y bytes maxL ret hh).before a A.U = true := hws _ hcode _ _ X.warmed
  have h3 : (Cond.initialized y.cls).before a A.U = true := hinit _ _ X.warmed
  have h4 : A.cells + (headSpec ws rm).room.cells ≤ R.cells := by rw [show (headSpec ws rm).room.cells = mc from hrc]; exact hp.1
  have h5 : A.slots + (headSpec ws rm).room.slots ≤ R.slots := by rw [show (headSpec ws rm).room.slots = ms from hrs]; exact hp.2.1
  have hPc : Pc a (A.U.calling g mk a) := hblind _ _ _ _ hp.2.2
  obtain ⟨U, Ls, c0, s0⟩ := A
  dsimp only [Pt.U, Pt.locs, Pt.cells, Pt.slots] at h1 h2 h3 h4 h5 X hn hPc ⊢
  obtain ⟨m9, methY, cY, hn9, hmY, hcY, -, hlY, -⟩ := Cond.codeWith_spec h2
  cases Option.some.inj (hn9.symm.trans hn)
  obtain ⟨kY, hkY, -⟩ := className_of_methodNamed hn
  have hinitY : kY.init = .initialized := Cond.initialized_spec (findClass_of_methodNamed hn) hkY h3
  have h : At U g.method c below := by rw [hg]; exact X.here
  have hlocals9 : W9 + (maxL + 11) + (headSpec ws rm).room.locals ≤ R.locals := hlocals
  have happ : (headSpec ws rm).appliesLoose y e.platform (U.calling g mk a) = true :=
    Spec.appliesLoose_calling (g := g) h hdg hn hkY hinitY
      (X.room_calling (g := g) (R' := (headSpec ws rm).room) hsize hmY hcY hframes (by rw [hlY]; omega) h4 h5) h1
  obtain ⟨mid, hmid⟩ := h.above
  have hfr : (U.setTop g).frames = (.java g :: mid) ++ below := by rw [State.frames_setTop' g h.top, hmid]; rfl
  obtain ⟨o, s₂, hsteps, -, hend, hq⟩ := Steps.callFree hM p X.admits X.cas X.clock (acts := []) hfr happ hPc trivial
  have hq' : vx_Q Qc XC mc ms free a (U.calling g mk a) o s₂ := hq
  rw [State.frames_setTop' g h.top] at hend
  obtain ⟨g₀, hg0⟩ := Option.isSome_iff_exists.mp h.top
  obtain ⟨r, hr⟩ := State.topJava?_eq_some.mp hg0
  have hr' : (({ U with heap := s₂.heap, slotsUsed := s₂.slotsUsed } : State).setVm s₂.vm).frames = .java g₀ :: r := hr
  rcases hq' with ⟨hqc, L, hfe, hL⟩ | ⟨q, rfl, E, ce, L, hx, hce, hcv, hcl, hW₂, hsm, hL⟩
  · obtain ⟨⟨v, rfl⟩, hW₂, e2, q2, q3, q4, q5, q6⟩ := id hfe
    have e3 : s₂ = ({ (U.calling g mk a).setFrames s₂.frames with heap := s₂.heap, slotsUsed := s₂.slotsUsed } : State).setVm s₂.vm := by
      have : s₂ = ({ s₂ with vm := (U.calling g mk a).vm } : State).setVm s₂.vm := rfl
      rw [e2] at this
      exact this
    obtain ⟨c₂, i₂, len₂, hc₂, hd₂, hf₂⟩ := hend
    have hW' : U.WarmedH s₂.vm := hW₂
    have hcc : c₂ = c := by
      have h1 : s₂.code? g.method = U.code? g.method := by
        rw [State.code?_eq, State.code?_eq, hW'.alike.method?]
      exact Option.some.inj (hc₂.symm.trans (h1.trans h.code))
    subst hcc
    have hlen : len₂ = len := by rw [hdg] at hd₂; cases hd₂; rfl
    subst hlen
    have hs₂ : s₂ = (({ U with heap := s₂.heap, slotsUsed := s₂.slotsUsed } : State).setVm s₂.vm).setTop { g with pc := g.pc + len₂, stack := v.toList ++ g.stack } := by
      refine e3.trans ?_
      rw [hf₂, State.calling_eq h.top, State.setFrames_setFrames, State.setTop_of_frames _ hr', hr]
      rfl
    have hsame : U.sameButNew ({ U with heap := s₂.heap, slotsUsed := s₂.slotsUsed } : State) L mc ms := by
      refine ⟨?_, q2, q3, q4, q5, q6⟩
      obtain ⟨t, ht, -⟩ := State.frames_cons hr
      show ({ U with heap := s₂.heap, slotsUsed := s₂.slotsUsed } : State) = { U.setFrames U.frames with heap := s₂.heap, slotsUsed := s₂.slotsUsed }
      rw [State.setFrames_self ht]
    subst hg
    refine Or.inl ⟨v, ⟨(({ U with heap := s₂.heap, slotsUsed := s₂.slotsUsed } : State).setVm s₂.vm), Ls ++ L, c0 + mc, s0 + ms⟩,
      ⟨X.admits, X.cas, X.clock, X.frames, X.room, X.hears, X.method, X.code, (X.here.setHeapUsed s₂.heap s₂.slotsUsed).setVm hW'.alike, X.tail, State.WarmedH.trans X.warmed hW', X.limits, X.bytes, X.same.trans (hsame.setVm s.vm)⟩,
      ⟨g, mk, s₂, L, rfl, rfl, hqc, rfl, hL, rfl, rfl⟩, ?_⟩
    show Steps p.tables e below _ ((({ U with heap := s₂.heap, slotsUsed := s₂.slotsUsed } : State).setVm s₂.vm).setTop { g with pc := g.pc + len₂, stack := v.toList ++ g.stack })
    rw [← hs₂]
    exact hsteps
  · obtain ⟨e2, q2, q3, q4, q5, q6⟩ := id hsm
    have e3 : s₂ = ({ (U.calling g mk a).setFrames s₂.frames with heap := s₂.heap, slotsUsed := s₂.slotsUsed } : State).setVm s₂.vm := by
      have : s₂ = ({ s₂ with vm := (U.calling g mk a).vm } : State).setVm s₂.vm := rfl
      rw [e2] at this
      exact this
    have hf₂ : s₂.frames = .throwing q :: .java g :: U.frames.tail := hend
    have hW' : U.WarmedH s₂.vm := hW₂
    have hs₂ : s₂ = ((({ U with heap := s₂.heap, slotsUsed := s₂.slotsUsed } : State).setVm s₂.vm).setTop g).pushFrame (.throwing q) := by
      refine e3.trans ?_
      rw [hf₂, State.calling_eq h.top, State.setFrames_setFrames, State.pushFrame, State.frames_setTop _ hr', State.setTop_of_frames _ hr', State.setFrames_setFrames, hr]
      rfl
    have hsame : U.sameButNew ({ U with heap := s₂.heap, slotsUsed := s₂.slotsUsed } : State) L mc ms := by
      refine ⟨?_, q2, q3, q4, q5, q6⟩
      obtain ⟨t, ht, -⟩ := State.frames_cons hr
      show ({ U with heap := s₂.heap, slotsUsed := s₂.slotsUsed } : State) = { U.setFrames U.frames with heap := s₂.heap, slotsUsed := s₂.slotsUsed }
      rw [State.setFrames_self ht]
    subst hg
    refine Or.inr ⟨q, ⟨(({ U with heap := s₂.heap, slotsUsed := s₂.slotsUsed } : State).setVm s₂.vm), Ls ++ L, c0 + mc, s0 + ms⟩,
      ⟨X.admits, X.cas, X.clock, X.frames, X.room, X.hears, X.method, X.code, (X.here.setHeapUsed s₂.heap s₂.slotsUsed).setVm hW'.alike, X.tail, State.WarmedH.trans X.warmed hW', X.limits, X.bytes, X.same.trans (hsame.setVm s.vm)⟩,
      ⟨g, mk, s₂, L, E, ce, rfl, rfl, hx, hce, hcv, hcl, rfl, hL, rfl, rfl⟩, ?_⟩
    show Steps p.tables e below _ (((({ U with heap := s₂.heap, slotsUsed := s₂.slotsUsed } : State).setVm s₂.vm).setTop g).pushFrame (.throwing q))
    rw [← hs₂]
    exact hsteps
end
variable {p : Program} {l : Launch} {e : Env} {R : Room} {s : State} {m : MethodId} {args : Array Value} {below : List Frame} {meth : Method} {c : Code} {T : State} {H : Heap} {locs : List Loc} {cells slots : Nat}
theorem vx_callVX (X : Stand p l e R s m args below meth c T locs cells slots) (hexec : p.tables.exec = Jvm.exec) {own C : String} {index : Nat} {y : MethodName} {bytes : ByteArray} {maxL : Nat} {ret : Option FieldType} {hh : List (Nat × Nat × Nat × Nat)}
    (hown : s.vm.findClass own = some m.cls) (hlink : (Cond.methodLink own index y).before args s = true) (hinst : (Cond.instanceMethod y).before args s = true) (hsel : (Cond.selects C y y).before args s = true)
    (hcode : (Cond.codeWith y bytes maxL ret hh).before args s = true) (hy : y.cls ≠ "java/lang/invoke/MethodHandle" ∧ y.cls ≠ "java/lang/invoke/VarHandle")
    {W9 : Nat} {Pre : Pt → Array Value → Prop} {Post : Pt → Array Value → Option Value → Pt → Prop} {PostX : Pt → Array Value → Addr → Pt → Prop} (hK : vx_Back l R p e below s args y 3 W9 Pre Post PostX)
    {b : Addr} {cellB : Cell} (hcell : T.heap[b]? = some cellB) (hobj : cellB.vm.isStatics = false) (hcls : s.vm.findClass C = some cellB.cls)
    {g : JFrame} (hg : g.method = m) (hsize : g.locals.size = c.maxLocals) {argsL rest : List Value} (hlen : ∀ sig, parseMethodDescriptor y.desc = some sig → argsL.length = sig.parameters.length)
    (hstack : g.stack = argsL.reverse ++ .ref b :: rest) (hW : 2 * g.monitorRoom + (rest.map fun v => v.category).sum ≤ W9) (hdg : decode c.code g.pc = .ok (.invokevirtual index, 3))
    (hpre : ∀ vm₁, s.WarmedH vm₁ → Pre ⟨T.setVm vm₁, locs, cells, slots⟩ (Value.ref b :: argsL).toArray) :
    (∃ (v : Option Value) (vm₁ : Vm) (B : Pt), s.WarmedH vm₁ ∧ Stand p l e R s m args below meth c B.U B.locs B.cells B.slots ∧ Post ⟨T.setVm vm₁, locs, cells, slots⟩ (Value.ref b :: argsL).toArray v B ∧
      ∀ target, Steps p.tables e below (B.U.setTop { g with pc := g.pc + 3, stack := v.toList ++ rest }) target → Steps p.tables e below (T.setTop g) target) ∨
    (∃ (q : Addr) (vm₁ : Vm) (B : Pt), s.WarmedH vm₁ ∧ Stand p l e R s m args below meth c B.U B.locs B.cells B.slots ∧ PostX ⟨T.setVm vm₁, locs, cells, slots⟩ (Value.ref b :: argsL).toArray q B ∧
      Steps p.tables e below (T.setTop g) ((B.U.setTop { g with stack := rest }).pushFrame (.throwing q))) := by
  obtain ⟨mk, methM, hnamed, hmethM, hstM, habM⟩ := Cond.instanceMethod_spec hinst
  obtain ⟨m8, methM', cM, hn8, hmethM', -, -, -, -, -, -, hsigM⟩ := Cond.codeWith_spec hcode
  cases Option.some.inj (hn8.symm.trans hnamed)
  cases hmethM.symm.trans hmethM'
  obtain ⟨c2, r2, m2, q1, q2, q3, q4, kP, hkP, hkPi⟩ := Cond.selects_spec hsel
  cases hcls.symm.trans q1
  cases (State.methodFound?_of_named hnamed hy).symm.trans q2
  cases hnamed.symm.trans q3
  have hselP : selectMethod e.platform s.vm cellB.cls mk = .method mk := by rw [Launch.admits_selectMethod X.admits]; exact q4
  obtain ⟨vm₁, X₁, hstep₁⟩ := X.invokevirtual hexec hown hlink hnamed hmethM hstM hkP hkPi hy (a := b) (cell := cellB) hcell
    (fun z h => by rw [h] at hobj; cases hobj) hselP hmethM habM hkP hkPi (g := g) hg (argsL := argsL) (rest := rest) (hlen _ hsigM) hstack hdg
  rcases hK m meth c ⟨T.setVm vm₁, locs, cells, slots⟩ { g with stack := rest } (.invokevirtual index) mk (Value.ref b :: argsL).toArray X₁ hg hsize hdg hW (X₁.named hnamed) (hpre vm₁ X₁.warmed) with ⟨v, B, X', hpost, hsteps⟩ | ⟨q, B, X', hpost, hsteps⟩
  · exact Or.inl ⟨v, vm₁, B, X₁.warmed, X', hpost, fun target h => hstep₁ _ fun acts => by rw [doInvoke_state]; exact hsteps.trans h⟩
  · exact Or.inr ⟨q, vm₁, B, X₁.warmed, X', hpost, hstep₁ _ fun acts => by rw [doInvoke_state]; exact hsteps⟩
theorem vx_callSX (X : Stand p l e R s m args below meth c T locs cells slots) (hexec : p.tables.exec = Jvm.exec) {own : String} {index : Nat} {y : MethodName} {bytes : ByteArray} {maxL : Nat} {ret : Option FieldType} {hh : List (Nat × Nat × Nat × Nat)}
    (hown : s.vm.findClass own = some m.cls) (hlink : (Cond.methodLink own index y).before args s = true) (hstat : (Cond.static y).before args s = true) (hinit : (Cond.initialized y.cls).before args s = true)
    (hcode : (Cond.codeWith y bytes maxL ret hh).before args s = true) (hy : y.cls ≠ "java/lang/invoke/MethodHandle" ∧ y.cls ≠ "java/lang/invoke/VarHandle")
    {W9 : Nat} {Pre : Pt → Array Value → Prop} {Post : Pt → Array Value → Option Value → Pt → Prop} {PostX : Pt → Array Value → Addr → Pt → Prop} (hK : vx_Back l R p e below s args y 3 W9 Pre Post PostX)
    {g : JFrame} (hg : g.method = m) (hsize : g.locals.size = c.maxLocals) {argsL rest : List Value} (hlen : ∀ sig, parseMethodDescriptor y.desc = some sig → argsL.length = sig.parameters.length)
    (hstack : g.stack = argsL.reverse ++ rest) (hW : 2 * g.monitorRoom + (rest.map fun v => v.category).sum ≤ W9) (hdg : decode c.code g.pc = .ok (.invokestatic index, 3))
    (hpre : ∀ vm₁, s.WarmedH vm₁ → Pre ⟨T.setVm vm₁, locs, cells, slots⟩ argsL.toArray) :
    (∃ (v : Option Value) (vm₁ : Vm) (B : Pt), s.WarmedH vm₁ ∧ Stand p l e R s m args below meth c B.U B.locs B.cells B.slots ∧ Post ⟨T.setVm vm₁, locs, cells, slots⟩ argsL.toArray v B ∧
      ∀ target, Steps p.tables e below (B.U.setTop { g with pc := g.pc + 3, stack := v.toList ++ rest }) target → Steps p.tables e below (T.setTop g) target) ∨
    (∃ (q : Addr) (vm₁ : Vm) (B : Pt), s.WarmedH vm₁ ∧ Stand p l e R s m args below meth c B.U B.locs B.cells B.slots ∧ PostX ⟨T.setVm vm₁, locs, cells, slots⟩ argsL.toArray q B ∧
      Steps p.tables e below (T.setTop g) ((B.U.setTop { g with stack := rest }).pushFrame (.throwing q))) := by
  obtain ⟨mk, methM, cM, hnamed, hmethM, -, -, -, -, -, -, hsigM⟩ := Cond.codeWith_spec hcode
  have hstatic : methM.isStatic = true := Cond.static_spec hnamed hmethM hstat
  obtain ⟨kP, hkP, -⟩ := className_of_methodNamed hnamed
  have hinitP : kP.init = .initialized := Cond.initialized_spec (findClass_of_methodNamed hnamed) hkP hinit
  obtain ⟨vm₁, X₁, hstep₁⟩ := X.invokestatic hexec hown hlink hnamed hmethM hstatic hkP hinitP hy (g := g) hg (argsL := argsL) (rest := rest) (hlen _ hsigM) hstack hdg
  rcases hK m meth c ⟨T.setVm vm₁, locs, cells, slots⟩ { g with stack := rest } (.invokestatic index) mk argsL.toArray X₁ hg hsize hdg hW (X₁.named hnamed) (hpre vm₁ X₁.warmed) with ⟨v, B, X', hpost, hsteps⟩ | ⟨q, B, X', hpost, hsteps⟩
  · exact Or.inl ⟨v, vm₁, B, X₁.warmed, X', hpost, fun target h => hstep₁ _ fun acts => by rw [doInvoke_state]; exact hsteps.trans h⟩
  · exact Or.inr ⟨q, vm₁, B, X₁.warmed, X', hpost, hstep₁ _ fun acts => by rw [doInvoke_state]; exact hsteps⟩
theorem vx_callVW (X : Stand p l e R s m args below meth c T locs cells slots) (hexec : p.tables.exec = Jvm.exec) {own C : String} {index : Nat} {y : MethodName} {bytes : ByteArray} {maxL : Nat} {ret : Option FieldType} {hh : List (Nat × Nat × Nat × Nat)}
    (hown : s.vm.findClass own = some m.cls) (hlink : (Cond.methodLink own index y).before args s = true) (hinst : (Cond.instanceMethod y).before args s = true) (hsel : (Cond.selects C y y).before args s = true)
    (hcode : (Cond.codeWith y bytes maxL ret hh).before args s = true) (hy : y.cls ≠ "java/lang/invoke/MethodHandle" ∧ y.cls ≠ "java/lang/invoke/VarHandle")
    {W9 : Nat} {Pre : Pt → Array Value → Prop} {Post : Pt → Array Value → Option Value → Pt → Prop} (hK : Back l R p e below s args y 3 W9 Pre Post)
    {b : Addr} {cellB : Cell} (hcell : T.heap[b]? = some cellB) (hobj : cellB.vm.isStatics = false) (hcls : s.vm.findClass C = some cellB.cls)
    {g : JFrame} (hg : g.method = m) (hsize : g.locals.size = c.maxLocals) {argsL rest : List Value} (hlen : ∀ sig, parseMethodDescriptor y.desc = some sig → argsL.length = sig.parameters.length)
    (hstack : g.stack = argsL.reverse ++ .ref b :: rest) (hW : 2 * g.monitorRoom + (rest.map fun v => v.category).sum ≤ W9) (hdg : decode c.code g.pc = .ok (.invokevirtual index, 3))
    (hpre : ∀ vm₁, s.WarmedH vm₁ → Pre ⟨T.setVm vm₁, locs, cells, slots⟩ (Value.ref b :: argsL).toArray) :
    ∃ (v : Option Value) (vm₁ : Vm) (B : Pt), s.WarmedH vm₁ ∧ Stand p l e R s m args below meth c B.U B.locs B.cells B.slots ∧ Post ⟨T.setVm vm₁, locs, cells, slots⟩ (Value.ref b :: argsL).toArray v B ∧
      ∀ target, Steps p.tables e below (B.U.setTop { g with pc := g.pc + 3, stack := v.toList ++ rest }) target → Steps p.tables e below (T.setTop g) target := by
  obtain ⟨mk, methM, hnamed, hmethM, hstM, habM⟩ := Cond.instanceMethod_spec hinst
  obtain ⟨m8, methM', cM, hn8, hmethM', -, -, -, -, -, -, hsigM⟩ := Cond.codeWith_spec hcode
  cases Option.some.inj (hn8.symm.trans hnamed)
  cases hmethM.symm.trans hmethM'
  obtain ⟨c2, r2, m2, q1, q2, q3, q4, kP, hkP, hkPi⟩ := Cond.selects_spec hsel
  cases hcls.symm.trans q1
  cases (State.methodFound?_of_named hnamed hy).symm.trans q2
  cases hnamed.symm.trans q3
  have hselP : selectMethod e.platform s.vm cellB.cls mk = .method mk := by rw [Launch.admits_selectMethod X.admits]; exact q4
  obtain ⟨vm₁, X₁, hstep₁⟩ := X.invokevirtual hexec hown hlink hnamed hmethM hstM hkP hkPi hy (a := b) (cell := cellB) hcell
    (fun z h => by rw [h] at hobj; cases hobj) hselP hmethM habM hkP hkPi (g := g) hg (argsL := argsL) (rest := rest) (hlen _ hsigM) hstack hdg
  obtain ⟨v, B, X', hpost, hsteps⟩ := hK m meth c ⟨T.setVm vm₁, locs, cells, slots⟩ { g with stack := rest } (.invokevirtual index) mk (Value.ref b :: argsL).toArray X₁ hg hsize hdg hW (X₁.named hnamed) (hpre vm₁ X₁.warmed)
  exact ⟨v, vm₁, B, X₁.warmed, X', hpost, fun target h => hstep₁ _ fun acts => by rw [doInvoke_state]; exact hsteps.trans h⟩
abbrev vx_CVW (R : Room) (s : State) (args : Array Value) (own C : String) (index : Nat) (y : MethodName) (bytes : ByteArray) (maxL : Nat) (ret : Option FieldType) (hh : List (Nat × Nat × Nat × Nat)) (ws : List Cond) (rm : Room) (mc ms n : Nat) : Prop :=
  (rm.cells = mc ∧ rm.slots = ms ∧ rm.frames + 1 ≤ R.frames ∧ 8 + (maxL + 11) + rm.locals ≤ R.locals ∧ (∀ w ∈ ws, ∀ (a' : Array Value) (U : State), s.WarmedH U.vm → w.before a' U = true) ∧ Cond.codeWith y bytes maxL ret hh ∈ ws) ∧
  (Cond.codeWith y bytes maxL ret hh).before args s = true ∧ (Cond.initialized y.cls).before args s = true ∧ (y.cls ≠ "java/lang/invoke/MethodHandle" ∧ y.cls ≠ "java/lang/invoke/VarHandle") ∧
  (∀ sig, parseMethodDescriptor y.desc = some sig → n = sig.parameters.length) ∧ (Cond.methodLink own index y).before args s = true ∧ (Cond.instanceMethod y).before args s = true ∧ (Cond.selects C y y).before args s = true
theorem vx_cwVW {own C : String} {index maxL mc ms : Nat} {y : MethodName} {bytes : ByteArray} {ret : Option FieldType} {hh : List (Nat × Nat × Nat × Nat)} {Ts ws ws' : List Cond} {rm : Room} (n : Nat) (ht : ∀ w ∈ Ts, w.before args s = true) (hT : GoodIn Ts (wsV own index C y ws)) (hw : ws = Cond.codeWith y bytes maxL ret hh :: ws') (hrc : rm.cells = mc) (hrs : rm.slots = ms)
    (hd : y.cls = C ∧ y.cls ≠ "java/lang/invoke/MethodHandle" ∧ y.cls ≠ "java/lang/invoke/VarHandle" ∧ (parseMethodDescriptor y.desc).map (fun d => d.parameters.length) = some n) (hR : rm.frames + 1 ≤ R.frames ∧ 8 + (maxL + 11) + rm.locals ≤ R.locals) :
    vx_CVW R s args own C index y bytes maxL ret hh ws rm mc ms n := by
  obtain ⟨hC, hd⟩ := hd
  subst hC
  have ok : ∀ w ∈ wsV own index y.cls y ws, w.before args s = true := fun w h => ht w (hT w h).1
  have hG : GoodIn Ts ws := fun w h => hT w (by unfold wsV; exact List.mem_append_right _ h)
  have hc : Cond.codeWith y bytes maxL ret hh ∈ ws := by rw [hw]; exact List.mem_cons_self
  refine ⟨⟨hrc, hrs, hR.1, hR.2, pay_in ht hG, hc⟩, ht _ (hG _ hc).1, ok _ (by simp [wsV]), ⟨hd.1, hd.2.1⟩, fun sig h => ?_, ok _ (by simp [wsV]), ok _ (by simp [wsV]), ok _ (by simp [wsV])⟩
  have h2 := hd.2.2
  rw [h] at h2
  exact (Option.some.inj h2).symm
theorem vx_runVW {y : MethodName} {bytes cc : ByteArray} {maxL nL mc ms n index : Nat} {ret : Option FieldType} {hh : List (Nat × Nat × Nat × Nat)} {ws : List Cond} {rm : Room} {Pc : Array Value → State → Prop} {Qc : Array Value → State → Outcome → State → Prop} {free : Addr → Prop} {Ts : List Cond} {own C : String} {b : Addr} {As rest : List Value} {g : JFrame}
    (S : CallFix p m c cc nL s args Ts own) (hM : Met l y ws rm Pc Qc mc ms free) (cw : vx_CVW R s args own C index y bytes maxL ret hh ws rm mc ms n) (hp : PreV s H C b Pc As)
    (hg : g.method = m) (hn : As.length = n) (hsize : g.locals.size = nL) (hstack : g.stack = As.reverse ++ .ref b :: rest) (hW : 2 * g.monitorRoom + (rest.map fun v => v.category).sum ≤ 8) (hdg : decode cc g.pc = .ok (.invokevirtual index, 3)) (hf : cells + mc ≤ R.cells ∧ slots + ms ≤ R.slots) :
    va_Run p l e R s m args below meth c H locs cells slots mc ms g rest (Qc (Value.ref b :: As).toArray) free := by
  obtain ⟨⟨hrc, hrs, hfr, hlo, hws, hcw⟩, hcode, hini, hy, hlen, hl, hin, hse⟩ := cw
  have hK : Back l R p e below s args y 3 8 (PreOf R mc ms Pc) (PostOf Qc mc ms free) := va_backW (hh := hh) (bytes := bytes) (maxL := maxL) (ret := ret) hM hp.1 hrc hrs hfr hlo hws hcw (fun a' U hW => word_at hW (Or.inl (by first | rfl | simp [Cond.onTables, Cond.keeps, Cond.steady])) hini)
  obtain ⟨hx, hb, hml, ho, -⟩ := S
  obtain ⟨-, ⟨cellB, hcB, hoB, hclB⟩, hPc⟩ := hp
  intro T hT X
  obtain ⟨v, vm₁, ⟨U', l2, c2, s2⟩, hW₁, X', ⟨g', mk, t, L, e1, e2, hq, h1, hL, h2, h3⟩, st⟩ := vx_callVW X hx (C := C) (hh := hh) (bytes := bytes) (maxL := maxL) (ret := ret) ho hl hin hse hcode hy hK (by rw [hT]; exact hcB) hoB hclB hg (hsize.trans hml.symm) (argsL := As) (rest := rest) (fun sig h => hn.trans (hlen sig h)) hstack hW (by rw [hb]; exact hdg)
    (fun vm₁ hW₁ => ⟨hf.1, hf.2, hPc (T.setVm vm₁) hT hW₁⟩)
  dsimp only [Pt.U, Pt.locs, Pt.cells, Pt.slots] at X' e1 e2 h1 h2 h3 st
  subst h1; subst h2; subst h3
  exact ⟨v, (T.setVm vm₁).calling g' mk (Value.ref b :: As).toArray, t, U', L, hT, X', hL, e1, e2, hq, st⟩
section
variable {y : MethodName} {bytes cc : ByteArray} {maxL nL mc ms n index : Nat} {ret : Option FieldType} {ws : List Cond} {rm : Room} {Pc : Array Value → State → Prop} {Qc : Array Value → State → Outcome → State → Prop} {XC : String → State → State → Prop} {free : Addr → Prop} {Ts : List Cond} {own C : String} {b : Addr} {As rest : List Value} {g : JFrame}
theorem vx_runVX {hh : List (Nat × Nat × Nat × Nat)} (S : CallFix p m c cc nL s args Ts own) (hM : vx_Met l y ws rm Pc Qc XC mc ms free) (cw : vx_CVW R s args own C index y bytes maxL ret hh ws rm mc ms n) (hp : PreV s H C b Pc As)
    (hg : g.method = m) (hn : As.length = n) (hsize : g.locals.size = nL) (hstack : g.stack = As.reverse ++ .ref b :: rest) (hW : 2 * g.monitorRoom + (rest.map fun v => v.category).sum ≤ 8) (hdg : decode cc g.pc = .ok (.invokevirtual index, 3)) (hf : cells + mc ≤ R.cells ∧ slots + ms ≤ R.slots) :
    vx_Run p l e R s m args below meth c H locs cells slots mc ms g rest (Qc (Value.ref b :: As).toArray) XC free := by
  obtain ⟨⟨hrc, hrs, hfr, hlo, hws, hcw⟩, hcode, hini, hy, hlen, hl, hin, hse⟩ := cw
  have hK : vx_Back l R p e below s args y 3 8 (PreOf R mc ms Pc) (PostOf Qc mc ms free) (vx_Post XC mc ms free) := vx_backW (hh := hh) (bytes := bytes) (maxL := maxL) (ret := ret) hM hp.1 hrc hrs hfr hlo hws hcw (fun a' U hW => word_at hW (Or.inl (by first | rfl | simp [Cond.onTables, Cond.keeps, Cond.steady])) hini)
  obtain ⟨hx, hb, hml, ho, -⟩ := S
  obtain ⟨-, ⟨cellB, hcB, hoB, hclB⟩, hPc⟩ := hp
  intro T hT X
  rcases vx_callVX X hx (C := C) (hh := hh) (bytes := bytes) (maxL := maxL) (ret := ret) ho hl hin hse hcode hy hK (by rw [hT]; exact hcB) hoB hclB hg (hsize.trans hml.symm) (argsL := As) (rest := rest) (fun sig h => hn.trans (hlen sig h)) hstack hW (by rw [hb]; exact hdg)
    (fun vm₁ hW₁ => ⟨hf.1, hf.2, hPc (T.setVm vm₁) hT hW₁⟩) with ⟨v, vm₁, ⟨U', l2, c2, s2⟩, hW₁, X', ⟨g', mk, t, L, e1, e2, hq, h1, hL, h2, h3⟩, st⟩ | ⟨q, vm₁, ⟨U', l2, c2, s2⟩, hW₁, X', ⟨g', mk, t, L, E, ce, e1, e2, hq, hce, hcv, hcl, h1, hL, h2, h3⟩, st⟩
  · dsimp only [Pt.U, Pt.locs, Pt.cells, Pt.slots] at X' e1 e2 h1 h2 h3 st
    subst h1; subst h2; subst h3
    exact Or.inl ⟨v, (T.setVm vm₁).calling g' mk (Value.ref b :: As).toArray, t, U', L, hT, X', hL, e1, e2, hq, st⟩
  · dsimp only [Pt.U, Pt.locs, Pt.cells, Pt.slots] at X' e1 e2 h1 h2 h3 st hcl
    subst h1; subst h2; subst h3
    exact Or.inr ⟨q, (T.setVm vm₁).calling g' mk (Value.ref b :: As).toArray, t, U', L, E, ce, hT, X', hL, e1, e2, hq, hce, hcv, vx_cls hW₁ hcl, st⟩
theorem vx_runSX {hh : List (Nat × Nat × Nat × Nat)} (S : CallFix p m c cc nL s args Ts own) (hM : vx_Met l y ws rm Pc Qc XC mc ms free) (cw : vx_CSW R s args own index y bytes maxL ret hh ws rm mc ms n) (hp : PreS s H Pc As)
    (hg : g.method = m) (hn : As.length = n) (hsize : g.locals.size = nL) (hstack : g.stack = As.reverse ++ rest) (hW : 2 * g.monitorRoom + (rest.map fun v => v.category).sum ≤ 8) (hdg : decode cc g.pc = .ok (.invokestatic index, 3)) (hf : cells + mc ≤ R.cells ∧ slots + ms ≤ R.slots) :
    vx_Run p l e R s m args below meth c H locs cells slots mc ms g rest (Qc As.toArray) XC free := by
  obtain ⟨⟨hrc, hrs, hfr, hlo, hws, hcw⟩, hcode, hini, hy, hlen, hl, hstt⟩ := cw
  have hK : vx_Back l R p e below s args y 3 8 (PreOf R mc ms Pc) (PostOf Qc mc ms free) (vx_Post XC mc ms free) := vx_backW (hh := hh) (bytes := bytes) (maxL := maxL) (ret := ret) hM hp.1 hrc hrs hfr hlo hws hcw (fun a' U hW => word_at hW (Or.inl (by first | rfl | simp [Cond.onTables, Cond.keeps, Cond.steady])) hini)
  obtain ⟨hx, hb, hml, ho, -⟩ := S
  intro T hT X
  rcases vx_callSX X hx (hh := hh) (bytes := bytes) (maxL := maxL) (ret := ret) ho hl hstt hini hcode hy hK hg (hsize.trans hml.symm) (argsL := As) (rest := rest) (fun sig h => hn.trans (hlen sig h)) hstack hW (by rw [hb]; exact hdg)
    (fun vm₁ hW₁ => ⟨hf.1, hf.2, hp.2 (T.setVm vm₁) hT hW₁⟩) with ⟨v, vm₁, ⟨U', l2, c2, s2⟩, hW₁, X', ⟨g', mk, t, L, e1, e2, hq, h1, hL, h2, h3⟩, st⟩ | ⟨q, vm₁, ⟨U', l2, c2, s2⟩, hW₁, X', ⟨g', mk, t, L, E, ce, e1, e2, hq, hce, hcv, hcl, h1, hL, h2, h3⟩, st⟩
  · dsimp only [Pt.U, Pt.locs, Pt.cells, Pt.slots] at X' e1 e2 h1 h2 h3 st
    subst h1; subst h2; subst h3
    exact Or.inl ⟨v, (T.setVm vm₁).calling g' mk As.toArray, t, U', L, hT, X', hL, e1, e2, hq, st⟩
  · dsimp only [Pt.U, Pt.locs, Pt.cells, Pt.slots] at X' e1 e2 h1 h2 h3 st hcl
    subst h1; subst h2; subst h3
    exact Or.inr ⟨q, (T.setVm vm₁).calling g' mk As.toArray, t, U', L, E, ce, hT, X', hL, e1, e2, hq, hce, hcv, vx_cls hW₁ hcl, st⟩
end
end VXH
theorem vx_ofWH {l : Launch} {y : MethodName} {ws ws' : List Cond} {rm : Room} {Pc : Array Value → State → Prop} {Qc : Array Value → State → Outcome → State → Prop} {XC : String → State → State → Prop} {mc ms : Nat} {free : Addr → Prop} {cc : ByteArray} {maxL : Nat} {ret : Option FieldType} {hh : List (Nat × Nat × Nat × Nat)}
    (hy : plainName y.cls = true) (hw : ws = Cond.codeWith y cc maxL ret hh :: ws')
    (body : ∀ p e s m args below meth c s₁, BodyLoose p l y (headSpec ws rm) cc maxL ret e s m args below meth c s₁ → c.maxLocals = maxL → Pc args s →
      W p l e (headSpec ws rm).room s m args below meth c s.heap [] 0 0 (vx_MQ below Qc XC args s mc ms free) (entryFrame m args maxL)) : vx_Met l y ws rm Pc Qc XC mc ms free := by
  refine MetFree.of_bodyS (code := cc) (maxLocals := maxL) (ret := ret) hy ?_ ?_
  · intro args s m h hn
    obtain ⟨m9, meth, c, hn9, h1, h2, h3, h4, -, h5, h6, -⟩ := Cond.codeWith_spec (atoms_spec (ws := ws) h _ (by rw [hw]; exact List.mem_cons_self))
    cases hn.symm.trans hn9
    exact ⟨meth, c, h1, h2, h3, h4, h5, h6⟩
  · intro p e s m args below meth c s₁ B hml hP _
    have hh0 : s₁.heap = s.heap := by rw [B.state]; rfl
    obtain ⟨t, a1, o, b1, b2, b3⟩ := body p e s m args below meth c s₁ B hml hP s₁ hh0 (Stand.of_body B)
    exact ⟨t, o, a1, b1, b2, b3⟩
/-! ===== END ===== -/
end
section
def RX0 : String := "TypedColumns$Column"
def TX0 : u_T := fun k => match k with
  | 0 => ("TypedColumns$Column", "kind", "I", true)
  | 1 => ("TypedColumns$Column", "length", "I", true)
  | 2 => ("TypedColumns$Column", "wholes", "[J", true)
  | _ => ("TypedColumns$Column", "reals", "[D", true)
def tyX0 : Nat → FieldType := fun k => match k with
  | 0 => .int
  | 1 => .int
  | 2 => .array .long
  | _ => .array .double
abbrev wsX00 : List Cond := u_ws RX0 TX0 4
theorem nmX0 : ∀ a, a < 4 → ∀ b, b < 4 → a ≠ b → (TX0 a).2.1 ≠ (TX0 b).2.1 := by decide +kernel
theorem tyX0_ok : ∀ k, k < 4 → parseFieldDescriptor (TX0 k).2.2.1 = some (tyX0 k) := by decide +kernel
abbrev cX0_init : ByteArray := prog_2_method_1_code
def yX0_init : MethodName := ⟨RX0, "<init>", "(II)V"⟩
abbrev cX0_wholeAt : ByteArray := prog_2_method_2_code
def yX0_wholeAt : MethodName := ⟨RX0, "wholeAt", "(I)J"⟩
abbrev cX0_realAt : ByteArray := prog_2_method_3_code
def yX0_realAt : MethodName := ⟨RX0, "realAt", "(I)D"⟩
abbrev cX0_doubleAt : ByteArray := prog_2_method_4_code
def yX0_doubleAt : MethodName := ⟨RX0, "doubleAt", "(I)D"⟩
abbrev cX0_putWhole : ByteArray := prog_2_method_6_code
def yX0_putWhole : MethodName := ⟨RX0, "putWhole", "(IJ)V"⟩
abbrev cX0_putReal : ByteArray := prog_2_method_7_code
def yX0_putReal : MethodName := ⟨RX0, "putReal", "(ID)V"⟩
abbrev cX0_takeCells : ByteArray := prog_2_method_8_code
def yX0_takeCells : MethodName := ⟨RX0, "takeCells", "(LTypedColumns$Column;III)V"⟩
abbrev cX0_takeWidened : ByteArray := prog_2_method_9_code
def yX0_takeWidened : MethodName := ⟨RX0, "takeWidened", "(LTypedColumns$Column;)V"⟩
abbrev cX0_sum : ByteArray := prog_2_method_10_code
def yX0_sum : MethodName := ⟨RX0, "sum", "()D"⟩
def RX1 : String := "TypedColumns$DoubleBits"
def TX1 : u_T := fun k => match k with
  | _ => ("TypedColumns$DoubleBits", "powers", "[D", true)
def tyX1 : Nat → FieldType := fun k => match k with
  | _ => .array .double
abbrev wsX10 : List Cond := u_ws RX1 TX1 1
theorem nmX1 : ∀ a, a < 1 → ∀ b, b < 1 → a ≠ b → (TX1 a).2.1 ≠ (TX1 b).2.1 := by decide +kernel
theorem tyX1_ok : ∀ k, k < 1 → parseFieldDescriptor (TX1 k).2.2.1 = some (tyX1 k) := by decide +kernel
abbrev cX1_init : ByteArray := prog_3_method_1_code
def yX1_init : MethodName := ⟨RX1, "<init>", "()V"⟩
def RX2 : String := "TypedColumns"
def TX2 : u_T := fun k => match k with
  | 0 => ("TypedColumns", "columns", "[LTypedColumns$Column;", true)
  | 1 => ("TypedColumns", "counts", "[I", true)
  | 2 => ("TypedColumns", "doubleBits", "LTypedColumns$DoubleBits;", true)
  | 3 => ("TypedColumns", "created", "I", false)
  | _ => ("TypedColumns", "latestCode", "I", false)
def tyX2 : Nat → FieldType := fun k => match k with
  | 0 => .array (.object "TypedColumns$Column")
  | 1 => .array .int
  | 2 => .object "TypedColumns$DoubleBits"
  | 3 => .int
  | _ => .int
abbrev wsX20 : List Cond := u_ws RX2 TX2 5
theorem nmX2 : ∀ a, a < 5 → ∀ b, b < 5 → a ≠ b → (TX2 a).2.1 ≠ (TX2 b).2.1 := by decide +kernel
theorem tyX2_ok : ∀ k, k < 5 → parseFieldDescriptor (TX2 k).2.2.1 = some (tyX2 k) := by decide +kernel
abbrev cX2_init : ByteArray := prog_1_method_1_code
def yX2_init : MethodName := ⟨RX2, "<init>", "()V"⟩
abbrev cX2_create : ByteArray := prog_1_method_2_code
def yX2_create : MethodName := ⟨RX2, "create", "(II)I"⟩
abbrev cX2_columnCount : ByteArray := prog_1_method_3_code
def yX2_columnCount : MethodName := ⟨RX2, "columnCount", "()I"⟩
abbrev cX2_readAny : ByteArray := prog_1_method_14_code
def yX2_readAny : MethodName := ⟨RX2, "readAny", "(II)D"⟩
abbrev cX2_writeAny : ByteArray := prog_1_method_23_code
def yX2_writeAny : MethodName := ⟨RX2, "writeAny", "(IIII)I"⟩
abbrev cX2_copy : ByteArray := prog_1_method_24_code
def yX2_copy : MethodName := ⟨RX2, "copy", "(IIIII)I"⟩
abbrev cX2_total : ByteArray := prog_1_method_25_code
def yX2_total : MethodName := ⟨RX2, "total", "(I)D"⟩
abbrev cX2_widened : ByteArray := prog_1_method_26_code
def yX2_widened : MethodName := ⟨RX2, "widened", "(II)I"⟩
abbrev cX2_code : ByteArray := prog_1_method_27_code
def yX2_code : MethodName := ⟨RX2, "code", "()I"⟩
abbrev cX2_count : ByteArray := prog_1_method_28_code
def yX2_count : MethodName := ⟨RX2, "count", "(I)I"⟩
abbrev cX2_isKind : ByteArray := prog_1_method_33_code
def yX2_isKind : MethodName := ⟨RX2, "isKind", "(I)Z"⟩
abbrev cX2_holdsCells : ByteArray := prog_1_method_34_code
def yX2_holdsCells : MethodName := ⟨RX2, "holdsCells", "(I)Z"⟩
abbrev cX2_isLength : ByteArray := prog_1_method_35_code
def yX2_isLength : MethodName := ⟨RX2, "isLength", "(I)Z"⟩
abbrev cX2_isFloating : ByteArray := prog_1_method_36_code
def yX2_isFloating : MethodName := ⟨RX2, "isFloating", "(I)Z"⟩
abbrev cX2_widens : ByteArray := prog_1_method_37_code
def yX2_widens : MethodName := ⟨RX2, "widens", "(II)Z"⟩
abbrev cX2_isPart : ByteArray := prog_1_method_38_code
def yX2_isPart : MethodName := ⟨RX2, "isPart", "(III)Z"⟩
abbrev cX2_refuseWithoutCells : ByteArray := prog_1_method_40_code
def yX2_refuseWithoutCells : MethodName := ⟨RX2, "refuseWithoutCells", "(I)V"⟩
abbrev cX2_refuseWhenFull : ByteArray := prog_1_method_41_code
def yX2_refuseWhenFull : MethodName := ⟨RX2, "refuseWhenFull", "()V"⟩
abbrev cX2_columnAt : ByteArray := prog_1_method_42_code
def yX2_columnAt : MethodName := ⟨RX2, "columnAt", "(I)LTypedColumns$Column;"⟩
abbrev cX2_addColumn : ByteArray := prog_1_method_43_code
def yX2_addColumn : MethodName := ⟨RX2, "addColumn", "(LTypedColumns$Column;)I"⟩
abbrev cX2_note : ByteArray := prog_1_method_44_code
def yX2_note : MethodName := ⟨RX2, "note", "(I)I"⟩
abbrev cX2_codeOfColumn : ByteArray := prog_1_method_45_code
def yX2_codeOfColumn : MethodName := ⟨RX2, "codeOfColumn", "(LTypedColumns$Column;)I"⟩
abbrev cX2_codeOfCell : ByteArray := prog_1_method_46_code
def yX2_codeOfCell : MethodName := ⟨RX2, "codeOfCell", "(LTypedColumns$Column;III)I"⟩
abbrev cX2_codeOfKinds : ByteArray := prog_1_method_47_code
def yX2_codeOfKinds : MethodName := ⟨RX2, "codeOfKinds", "(LTypedColumns$Column;LTypedColumns$Column;)I"⟩
abbrev cX2_readReal : ByteArray := prog_1_method_49_code
def yX2_readReal : MethodName := ⟨RX2, "readReal", "(LTypedColumns$Column;II)D"⟩
abbrev cX2_writeWhole : ByteArray := prog_1_method_50_code
def yX2_writeWhole : MethodName := ⟨RX2, "writeWhole", "(LTypedColumns$Column;IIJ)I"⟩
abbrev cX2_writeReal : ByteArray := prog_1_method_51_code
def yX2_writeReal : MethodName := ⟨RX2, "writeReal", "(LTypedColumns$Column;IID)I"⟩
abbrev cX2_wholeMadeFrom : ByteArray := prog_1_method_52_code
def yX2_wholeMadeFrom : MethodName := ⟨RX2, "wholeMadeFrom", "(II)J"⟩
abbrev cX2_noNumber : ByteArray := prog_1_method_53_code
def yX2_noNumber : MethodName := ⟨RX2, "noNumber", "()D"⟩
abbrev cX2_isInfinite : ByteArray := prog_1_method_57_code
def yX2_isInfinite : MethodName := ⟨RX2, "isInfinite", "(D)Z"⟩
abbrev cX2_sumOf : ByteArray := prog_1_method_58_code
def yX2_sumOf : MethodName := ⟨RX2, "sumOf", "(DD)D"⟩
def RX3 : String := "TypedColumnsModel"
def TX3 : u_T := fun k => match k with
  | _ => ("", "", "", false)
def tyX3 : Nat → FieldType := fun k => match k with
  | _ => .int
abbrev wsX30 : List Cond := u_ws RX3 TX3 0
theorem nmX3 : ∀ a, a < 0 → ∀ b, b < 0 → a ≠ b → (TX3 a).2.1 ≠ (TX3 b).2.1 := by decide +kernel
theorem tyX3_ok : ∀ k, k < 0 → parseFieldDescriptor (TX3 k).2.2.1 = some (tyX3 k) := by decide +kernel
def RJ0 : String := "java/lang/String"
def TJ0 : u_T := fun k => match k with
  | _ => ("", "", "", false)
def tyJ0 : Nat → FieldType := fun k => match k with
  | _ => .int
abbrev wsJ00 : List Cond := u_ws RJ0 TJ0 0
theorem nmJ0 : ∀ a, a < 0 → ∀ b, b < 0 → a ≠ b → (TJ0 a).2.1 ≠ (TJ0 b).2.1 := by decide +kernel
theorem tyJ0_ok : ∀ k, k < 0 → parseFieldDescriptor (TJ0 k).2.2.1 = some (tyJ0 k) := by decide +kernel
abbrev cJ0_charAt_5068e : ByteArray := prog_11_method_56_code
def yJ0_charAt_5068e : MethodName := ⟨RJ0, "charAt", "(I)C"⟩
abbrev cJ0_isLatin1_aae02 : ByteArray := prog_11_method_154_code
def yJ0_isLatin1_aae02 : MethodName := ⟨RJ0, "isLatin1", "()Z"⟩
abbrev cJ0_checkIndex_df160 : ByteArray := prog_11_method_155_code
def yJ0_checkIndex_df160 : MethodName := ⟨RJ0, "checkIndex", "(II)V"⟩
def RJ1 : String := "java/lang/StringLatin1"
def TJ1 : u_T := fun k => match k with
  | _ => ("", "", "", false)
def tyJ1 : Nat → FieldType := fun k => match k with
  | _ => .int
abbrev wsJ10 : List Cond := u_ws RJ1 TJ1 0
theorem nmJ1 : ∀ a, a < 0 → ∀ b, b < 0 → a ≠ b → (TJ1 a).2.1 ≠ (TJ1 b).2.1 := by decide +kernel
theorem tyJ1_ok : ∀ k, k < 0 → parseFieldDescriptor (TJ1 k).2.2.1 = some (tyJ1 k) := by decide +kernel
abbrev cJ1_charAt_3b067 : ByteArray := prog_12_method_2_code
def yJ1_charAt_3b067 : MethodName := ⟨RJ1, "charAt", "([BI)C"⟩
def RJ2 : String := "java/lang/StringUTF16"
def TJ2 : u_T := fun k => match k with
  | _ => ("", "", "", false)
def tyJ2 : Nat → FieldType := fun k => match k with
  | _ => .int
abbrev wsJ20 : List Cond := u_ws RJ2 TJ2 0
theorem nmJ2 : ∀ a, a < 0 → ∀ b, b < 0 → a ≠ b → (TJ2 a).2.1 ≠ (TJ2 b).2.1 := by decide +kernel
theorem tyJ2_ok : ∀ k, k < 0 → parseFieldDescriptor (TJ2 k).2.2.1 = some (tyJ2 k) := by decide +kernel
abbrev cJ2_getChar_3b067 : ByteArray := prog_13_method_5_code
def yJ2_getChar_3b067 : MethodName := ⟨RJ2, "getChar", "([BI)C"⟩
abbrev cJ2_length_9d52b : ByteArray := prog_13_method_6_code
def yJ2_length_9d52b : MethodName := ⟨RJ2, "length", "([B)I"⟩
abbrev cJ2_charAt_3b067 : ByteArray := prog_13_method_83_code
def yJ2_charAt_3b067 : MethodName := ⟨RJ2, "charAt", "([BI)C"⟩
abbrev cJ2_checkIndex_2214a : ByteArray := prog_13_method_91_code
def yJ2_checkIndex_2214a : MethodName := ⟨RJ2, "checkIndex", "(I[B)V"⟩
def RJ10 : String := "java/lang/System"
def TJ10 : u_T := fun k => match k with
  | _ => ("", "", "", false)
def tyJ10 : Nat → FieldType := fun k => match k with
  | _ => .int
abbrev wsJ100 : List Cond := u_ws RJ10 TJ10 0
theorem nmJ10 : ∀ a, a < 0 → ∀ b, b < 0 → a ≠ b → (TJ10 a).2.1 ≠ (TJ10 b).2.1 := by decide +kernel
theorem tyJ10_ok : ∀ k, k < 0 → parseFieldDescriptor (TJ10 k).2.2.1 = some (tyJ10 k) := by decide +kernel
def RJ3 : String := "jdk/internal/util/Preconditions"
def TJ3 : u_T := fun k => match k with
  | _ => ("", "", "", false)
def tyJ3 : Nat → FieldType := fun k => match k with
  | _ => .int
abbrev wsJ30 : List Cond := u_ws RJ3 TJ3 0
theorem nmJ3 : ∀ a, a < 0 → ∀ b, b < 0 → a ≠ b → (TJ3 a).2.1 ≠ (TJ3 b).2.1 := by decide +kernel
theorem tyJ3_ok : ∀ k, k < 0 → parseFieldDescriptor (TJ3 k).2.2.1 = some (tyJ3 k) := by decide +kernel
abbrev cJ3_checkIndex_8e157 : ByteArray := prog_16_method_11_code
def yJ3_checkIndex_8e157 : MethodName := ⟨RJ3, "checkIndex", "(IILjava/util/function/BiFunction;)I"⟩
def RL : String := "TypedColumnsLaw"
abbrev cL_below : ByteArray := method_2_code
def yL_below : MethodName := ⟨RL, "below", "(II)I"⟩
abbrev cL_cell : ByteArray := method_3_code
def yL_cell : MethodName := ⟨RL, "cell", "([II)I"⟩
abbrev cL_widens : ByteArray := method_4_code
def yL_widens : MethodName := ⟨RL, "widens", "(II)Z"⟩
abbrev cL_made : ByteArray := method_5_code
def yL_made : MethodName := ⟨RL, "made", "(II)J"⟩
abbrev cL_law : ByteArray := code
def yL_law : MethodName := ⟨RL, "law", "([I)Z"⟩
def wsX2_holdsCells : List Cond := .code yX2_holdsCells cX2_holdsCells 1 (some .boolean) :: ([])
def wsX2_isLength : List Cond := .code yX2_isLength cX2_isLength 1 (some .boolean) :: ([])
def wsX2_isFloating : List Cond := .code yX2_isFloating cX2_isFloating 1 (some .boolean) :: ([])
def wsX0_init : List Cond := .code yX0_init cX0_init 4 none :: ([.methodLink RX0 3 objectInit, .instanceMethod objectInit, .code objectInit ⟨#[0xb1]⟩ 1 none, .fieldLink RX0 16 "TypedColumns$Column" "kind" "I", .fieldLink RX0 22 "TypedColumns$Column" "length" "I", .arrayClass .long, .fieldLink RX0 28 "TypedColumns$Column" "wholes" "[J", .arrayClass .double, .fieldLink RX0 32 "TypedColumns$Column" "reals" "[D", .static yX2_holdsCells, .initialized RX2, .code yX2_holdsCells cX2_holdsCells 1 (some .boolean), .static yX2_isLength, .code yX2_isLength cX2_isLength 1 (some .boolean), .static yX2_isFloating, .code yX2_isFloating cX2_isFloating 1 (some .boolean)] ++ wsX00)
def wsX0_wholeAt : List Cond := .code yX0_wholeAt cX0_wholeAt 2 (some .long) :: ([.fieldLink RX0 28 "TypedColumns$Column" "wholes" "[J"] ++ wsX00)
def wsX0_realAt : List Cond := .code yX0_realAt cX0_realAt 2 (some .double) :: ([.fieldLink RX0 32 "TypedColumns$Column" "reals" "[D"] ++ wsX00)
def wsX0_doubleAt : List Cond := .code yX0_doubleAt cX0_doubleAt 2 (some .double) :: ([.fieldLink RX0 16 "TypedColumns$Column" "kind" "I", .static yX2_isFloating, .initialized RX2, .code yX2_isFloating cX2_isFloating 1 (some .boolean), .methodLink RX0 36 yX0_realAt, .instanceMethod yX0_realAt, .selects RX0 yX0_realAt yX0_realAt, .initialized RX0, .code yX0_realAt cX0_realAt 2 (some .double), .fieldLink RX0 32 "TypedColumns$Column" "reals" "[D", .methodLink RX0 40 yX0_wholeAt, .instanceMethod yX0_wholeAt, .selects RX0 yX0_wholeAt yX0_wholeAt, .code yX0_wholeAt cX0_wholeAt 2 (some .long), .fieldLink RX0 28 "TypedColumns$Column" "wholes" "[J"] ++ wsX00)
def wsX0_putReal : List Cond := .code yX0_putReal cX0_putReal 4 none :: ([.fieldLink RX0 32 "TypedColumns$Column" "reals" "[D"] ++ wsX00)
def wsX0_putWhole : List Cond := .code yX0_putWhole cX0_putWhole 4 none :: ([.fieldLink RX0 16 "TypedColumns$Column" "kind" "I", .fieldLink RX0 28 "TypedColumns$Column" "wholes" "[J", .methodLink RX0 48 yX0_putReal, .instanceMethod yX0_putReal, .selects RX0 yX0_putReal yX0_putReal, .initialized RX0, .code yX0_putReal cX0_putReal 4 none, .fieldLink RX0 32 "TypedColumns$Column" "reals" "[D"] ++ wsX00)
def wsX2_isPart : List Cond := .code yX2_isPart cX2_isPart 3 (some .boolean) :: ([])
def wsX0_takeCells : List Cond := .code yX0_takeCells cX0_takeCells 5 none :: ([.fieldLink RX0 28 "TypedColumns$Column" "wholes" "[J", .methodLink RX0 56 arraycopyName, .native arraycopyName, .static arraycopyName, .initialized "java/lang/System", .fieldLink RX0 32 "TypedColumns$Column" "reals" "[D", .static yX2_isPart, .initialized RX2, .code yX2_isPart cX2_isPart 3 (some .boolean)] ++ wsX00)
def wsX0_takeWidened : List Cond := .code yX0_takeWidened cX0_takeWidened 3 none :: ([.fieldLink RX0 22 "TypedColumns$Column" "length" "I", .fieldLink RX0 16 "TypedColumns$Column" "kind" "I", .static yX2_isFloating, .initialized RX2, .code yX2_isFloating cX2_isFloating 1 (some .boolean), .methodLink RX0 36 yX0_realAt, .instanceMethod yX0_realAt, .selects RX0 yX0_realAt yX0_realAt, .initialized RX0, .code yX0_realAt cX0_realAt 2 (some .double), .fieldLink RX0 32 "TypedColumns$Column" "reals" "[D", .methodLink RX0 48 yX0_putReal, .instanceMethod yX0_putReal, .selects RX0 yX0_putReal yX0_putReal, .code yX0_putReal cX0_putReal 4 none, .methodLink RX0 40 yX0_wholeAt, .instanceMethod yX0_wholeAt, .selects RX0 yX0_wholeAt yX0_wholeAt, .code yX0_wholeAt cX0_wholeAt 2 (some .long), .fieldLink RX0 28 "TypedColumns$Column" "wholes" "[J", .methodLink RX0 62 yX0_putWhole, .instanceMethod yX0_putWhole, .selects RX0 yX0_putWhole yX0_putWhole, .code yX0_putWhole cX0_putWhole 4 none] ++ wsX00)
def wsX2_isInfinite : List Cond := .code yX2_isInfinite cX2_isInfinite 2 (some .boolean) :: ([.constantDouble RX2 192 (9218868437227405311), .constantDouble RX2 194 (18442240474082181119)])
def wsX2_noNumber : List Cond := .code yX2_noNumber cX2_noNumber 0 (some .double) :: ([.constantDouble RX2 182 (9221120237041090560)])
def wsX2_sumOf : List Cond := .code yX2_sumOf cX2_sumOf 4 (some .double) :: ([.methodLink RX2 196 yX2_isInfinite, .static yX2_isInfinite, .initialized RX2, .code yX2_isInfinite cX2_isInfinite 2 (some .boolean), .constantDouble RX2 192 (9218868437227405311), .constantDouble RX2 194 (18442240474082181119), .methodLink RX2 185 yX2_noNumber, .static yX2_noNumber, .code yX2_noNumber cX2_noNumber 0 (some .double), .constantDouble RX2 182 (9221120237041090560)])
def wsX0_sum_r1 : List Cond := [Cond.fieldLink RX0 22 "TypedColumns$Column" "length" "I", Cond.methodLink RX0 66 yX0_doubleAt, Cond.instanceMethod yX0_doubleAt, Cond.selects RX0 yX0_doubleAt yX0_doubleAt, Cond.initialized RX0, Cond.code yX0_doubleAt cX0_doubleAt 2 (some .double), Cond.fieldLink RX0 16 "TypedColumns$Column" "kind" "I", Cond.static yX2_isFloating, Cond.initialized RX2, Cond.code yX2_isFloating cX2_isFloating 1 (some .boolean), Cond.methodLink RX0 36 yX0_realAt, Cond.instanceMethod yX0_realAt, Cond.selects RX0 yX0_realAt yX0_realAt, Cond.code yX0_realAt cX0_realAt 2 (some .double), Cond.fieldLink RX0 32 "TypedColumns$Column" "reals" "[D", Cond.methodLink RX0 40 yX0_wholeAt, Cond.instanceMethod yX0_wholeAt, Cond.selects RX0 yX0_wholeAt yX0_wholeAt, Cond.code yX0_wholeAt cX0_wholeAt 2 (some .long), Cond.fieldLink RX0 28 "TypedColumns$Column" "wholes" "[J", Cond.static yX2_sumOf, Cond.code yX2_sumOf cX2_sumOf 4 (some .double), Cond.methodLink RX2 196 yX2_isInfinite, Cond.static yX2_isInfinite]
def wsX0_sum_r2 : List Cond := [Cond.code yX2_isInfinite cX2_isInfinite 2 (some .boolean), Cond.constantDouble RX2 192 (9218868437227405311), Cond.constantDouble RX2 194 (18442240474082181119), Cond.methodLink RX2 185 yX2_noNumber, Cond.static yX2_noNumber, Cond.code yX2_noNumber cX2_noNumber 0 (some .double), Cond.constantDouble RX2 182 (9221120237041090560)]
def wsX0_sum : List Cond := .code yX0_sum cX0_sum 4 (some .double) :: ((wsX0_sum_r1 ++ wsX0_sum_r2) ++ wsX00)
def wsX1_init : List Cond := .code yX1_init cX1_init 4 none :: ([.methodLink RX1 1 objectInit, .instanceMethod objectInit, .code objectInit ⟨#[0xb1]⟩ 1 none, .arrayClass .double, .fieldLink RX1 9 "TypedColumns$DoubleBits" "powers" "[D", .constantDouble RX1 13 (4611686018427387904)] ++ wsX10)
def wsX2_init : List Cond := .code yX2_init cX2_init 1 none :: ([.methodLink RX2 1 objectInit, .instanceMethod objectInit, .code objectInit ⟨#[0xb1]⟩ 1 none, .classLink RX2 9 RX0, .fieldLink RX2 11 "TypedColumns" "columns" "[LTypedColumns$Column;", .arrayClass .int, .fieldLink RX2 15 "TypedColumns" "counts" "[I", .classLink RX2 19 RX1, .instantiable RX1 1, .initialized RX1, .fieldLink RX2 22 "TypedColumns" "doubleBits" "LTypedColumns$DoubleBits;", .fieldLink RX2 26 "TypedColumns" "created" "I", .fieldLink RX2 30 "TypedColumns" "latestCode" "I", .methodLink RX2 21 yX1_init, .instanceMethod yX1_init, .code yX1_init cX1_init 4 none, .methodLink RX1 1 objectInit, .arrayClass .double, .fieldLink RX1 9 "TypedColumns$DoubleBits" "powers" "[D", .constantDouble RX1 13 (4611686018427387904)] ++ wsX20 ++ wsX10)
def wsX2_isKind : List Cond := .code yX2_isKind cX2_isKind 1 (some .boolean) :: ([])
def wsX2_refuseWhenFull : List Cond := .code yX2_refuseWhenFull cX2_refuseWhenFull 1 none :: ([.classLink RX2 159 "java/lang/IllegalStateException", .initialized "java/lang/IllegalStateException", .fieldLink RX2 26 "TypedColumns" "created" "I", .fieldLink RX2 11 "TypedColumns" "columns" "[LTypedColumns$Column;"] ++ wsX20 ++ (vx_atS RX2 163 "java/lang/IllegalStateException" ["java/lang/RuntimeException", "java/lang/Exception"]).filter goodWord)
def wsX2_addColumn : List Cond := .code yX2_addColumn cX2_addColumn 3 (some .int) :: ([.fieldLink RX2 26 "TypedColumns" "created" "I", .fieldLink RX2 11 "TypedColumns" "columns" "[LTypedColumns$Column;"] ++ wsX20)
def wsX2_create_r1 : List Cond := [Cond.classLink RX2 37 "java/lang/IllegalArgumentException", Cond.initialized "java/lang/IllegalArgumentException", Cond.classLink RX2 9 RX0, Cond.instantiable RX0 4, Cond.initialized RX0, Cond.methodLink RX2 33 yX2_isKind, Cond.static yX2_isKind, Cond.initialized RX2, Cond.code yX2_isKind cX2_isKind 1 (some .boolean), Cond.methodLink RX2 44 yX2_holdsCells, Cond.static yX2_holdsCells, Cond.code yX2_holdsCells cX2_holdsCells 1 (some .boolean), Cond.methodLink RX2 47 yX2_isLength, Cond.static yX2_isLength, Cond.code yX2_isLength cX2_isLength 1 (some .boolean), Cond.methodLink RX2 52 yX2_refuseWhenFull, Cond.instanceMethod yX2_refuseWhenFull, Cond.selects RX2 yX2_refuseWhenFull yX2_refuseWhenFull, Cond.code yX2_refuseWhenFull cX2_refuseWhenFull 1 none, Cond.classLink RX2 159 "java/lang/IllegalStateException", Cond.initialized "java/lang/IllegalStateException", Cond.fieldLink RX2 26 "TypedColumns" "created" "I", Cond.fieldLink RX2 11 "TypedColumns" "columns" "[LTypedColumns$Column;", Cond.methodLink RX2 55 yX0_init]
def wsX2_create_r2 : List Cond := [Cond.instanceMethod yX0_init, Cond.code yX0_init cX0_init 4 none, Cond.methodLink RX0 3 objectInit, Cond.instanceMethod objectInit, Cond.code objectInit ⟨#[0xb1]⟩ 1 none, Cond.fieldLink RX0 16 "TypedColumns$Column" "kind" "I", Cond.fieldLink RX0 22 "TypedColumns$Column" "length" "I", Cond.arrayClass .long, Cond.fieldLink RX0 28 "TypedColumns$Column" "wholes" "[J", Cond.arrayClass .double, Cond.fieldLink RX0 32 "TypedColumns$Column" "reals" "[D", Cond.static yX2_isFloating, Cond.code yX2_isFloating cX2_isFloating 1 (some .boolean), Cond.methodLink RX2 58 yX2_addColumn, Cond.instanceMethod yX2_addColumn, Cond.selects RX2 yX2_addColumn yX2_addColumn, Cond.code yX2_addColumn cX2_addColumn 3 (some .int)]
def wsX2_create : List Cond := .code yX2_create cX2_create 3 (some .int) :: ((wsX2_create_r1 ++ wsX2_create_r2) ++ wsX00 ++ wsX20 ++ (vx_atS RX2 41 "java/lang/IllegalArgumentException" ["java/lang/RuntimeException", "java/lang/Exception"]).filter goodWord ++ (vx_atS RX2 163 "java/lang/IllegalStateException" ["java/lang/RuntimeException", "java/lang/Exception"]).filter goodWord)
def wsX2_columnCount : List Cond := .code yX2_columnCount cX2_columnCount 1 (some .int) :: ([.fieldLink RX2 26 "TypedColumns" "created" "I"] ++ wsX20)
def wsX2_columnAt : List Cond := .code yX2_columnAt cX2_columnAt 3 (some (.object "TypedColumns$Column")) :: ([.classLink RX2 139 "java/lang/IndexOutOfBoundsException", .initialized "java/lang/IndexOutOfBoundsException", .fieldLink RX2 11 "TypedColumns" "columns" "[LTypedColumns$Column;"] ++ wsX20 ++ (vx_atS RX2 143 "java/lang/IndexOutOfBoundsException" ["java/lang/RuntimeException", "java/lang/Exception"]).filter goodWord)
def wsX2_codeOfColumn : List Cond := .code yX2_codeOfColumn cX2_codeOfColumn 1 (some .int) :: ([.fieldLink RX2 66 "TypedColumns$Column" "kind" "I"] ++ wsX00)
def wsX2_widens : List Cond := .code yX2_widens cX2_widens 2 (some .boolean) :: ([.methodLink RX2 44 yX2_holdsCells, .static yX2_holdsCells, .initialized RX2, .code yX2_holdsCells cX2_holdsCells 1 (some .boolean)])
def wsX2_codeOfCell : List Cond := .code yX2_codeOfCell cX2_codeOfCell 5 (some .int) :: ([.fieldLink RX2 76 "TypedColumns$Column" "length" "I", .methodLink RX2 69 yX2_codeOfColumn, .static yX2_codeOfColumn, .initialized RX2, .code yX2_codeOfColumn cX2_codeOfColumn 1 (some .int), .fieldLink RX2 66 "TypedColumns$Column" "kind" "I", .methodLink RX2 131 yX2_widens, .static yX2_widens, .code yX2_widens cX2_widens 2 (some .boolean), .methodLink RX2 44 yX2_holdsCells, .static yX2_holdsCells, .code yX2_holdsCells cX2_holdsCells 1 (some .boolean)] ++ wsX00)
def wsX2_note : List Cond := .code yX2_note cX2_note 2 (some .int) :: ([.fieldLink RX2 15 "TypedColumns" "counts" "[I", .fieldLink RX2 30 "TypedColumns" "latestCode" "I"] ++ wsX20)
def wsX2_readReal_r1 : List Cond := [Cond.fieldLink RX2 66 "TypedColumns$Column" "kind" "I", Cond.methodLink RX2 83 yX2_codeOfCell, Cond.static yX2_codeOfCell, Cond.initialized RX2, Cond.code yX2_codeOfCell cX2_codeOfCell 5 (some .int), Cond.fieldLink RX2 76 "TypedColumns$Column" "length" "I", Cond.methodLink RX2 69 yX2_codeOfColumn, Cond.static yX2_codeOfColumn, Cond.code yX2_codeOfColumn cX2_codeOfColumn 1 (some .int), Cond.methodLink RX2 131 yX2_widens, Cond.static yX2_widens, Cond.code yX2_widens cX2_widens 2 (some .boolean), Cond.methodLink RX2 44 yX2_holdsCells, Cond.static yX2_holdsCells, Cond.code yX2_holdsCells cX2_holdsCells 1 (some .boolean), Cond.methodLink RX2 72 yX2_note, Cond.instanceMethod yX2_note, Cond.selects RX2 yX2_note yX2_note, Cond.code yX2_note cX2_note 2 (some .int), Cond.fieldLink RX2 15 "TypedColumns" "counts" "[I", Cond.fieldLink RX2 30 "TypedColumns" "latestCode" "I", Cond.methodLink RX2 170 yX0_doubleAt, Cond.instanceMethod yX0_doubleAt, Cond.selects RX0 yX0_doubleAt yX0_doubleAt]
def wsX2_readReal_r2 : List Cond := [Cond.initialized RX0, Cond.code yX0_doubleAt cX0_doubleAt 2 (some .double), Cond.fieldLink RX0 16 "TypedColumns$Column" "kind" "I", Cond.static yX2_isFloating, Cond.code yX2_isFloating cX2_isFloating 1 (some .boolean), Cond.methodLink RX0 36 yX0_realAt, Cond.instanceMethod yX0_realAt, Cond.selects RX0 yX0_realAt yX0_realAt, Cond.code yX0_realAt cX0_realAt 2 (some .double), Cond.fieldLink RX0 32 "TypedColumns$Column" "reals" "[D", Cond.methodLink RX0 40 yX0_wholeAt, Cond.instanceMethod yX0_wholeAt, Cond.selects RX0 yX0_wholeAt yX0_wholeAt, Cond.code yX0_wholeAt cX0_wholeAt 2 (some .long), Cond.fieldLink RX0 28 "TypedColumns$Column" "wholes" "[J"]
def wsX2_readReal : List Cond := .code yX2_readReal cX2_readReal 5 (some .double) :: ((wsX2_readReal_r1 ++ wsX2_readReal_r2) ++ wsX00 ++ wsX20)
def wsX2_readAny_r1 : List Cond := [Cond.fieldLink RX2 66 "TypedColumns$Column" "kind" "I", Cond.methodLink RX2 62 yX2_columnAt, Cond.instanceMethod yX2_columnAt, Cond.selects RX2 yX2_columnAt yX2_columnAt, Cond.initialized RX2, Cond.code yX2_columnAt cX2_columnAt 3 (some (.object "TypedColumns$Column")), Cond.classLink RX2 139 "java/lang/IndexOutOfBoundsException", Cond.initialized "java/lang/IndexOutOfBoundsException", Cond.fieldLink RX2 11 "TypedColumns" "columns" "[LTypedColumns$Column;", Cond.methodLink RX2 91 yX2_readReal, Cond.instanceMethod yX2_readReal, Cond.selects RX2 yX2_readReal yX2_readReal, Cond.code yX2_readReal cX2_readReal 5 (some .double), Cond.methodLink RX2 83 yX2_codeOfCell, Cond.static yX2_codeOfCell, Cond.code yX2_codeOfCell cX2_codeOfCell 5 (some .int), Cond.fieldLink RX2 76 "TypedColumns$Column" "length" "I", Cond.methodLink RX2 69 yX2_codeOfColumn, Cond.static yX2_codeOfColumn, Cond.code yX2_codeOfColumn cX2_codeOfColumn 1 (some .int), Cond.methodLink RX2 131 yX2_widens, Cond.static yX2_widens, Cond.code yX2_widens cX2_widens 2 (some .boolean), Cond.methodLink RX2 44 yX2_holdsCells]
def wsX2_readAny_r2 : List Cond := [Cond.static yX2_holdsCells, Cond.code yX2_holdsCells cX2_holdsCells 1 (some .boolean), Cond.methodLink RX2 72 yX2_note, Cond.instanceMethod yX2_note, Cond.selects RX2 yX2_note yX2_note, Cond.code yX2_note cX2_note 2 (some .int), Cond.fieldLink RX2 15 "TypedColumns" "counts" "[I", Cond.fieldLink RX2 30 "TypedColumns" "latestCode" "I", Cond.methodLink RX2 170 yX0_doubleAt, Cond.instanceMethod yX0_doubleAt, Cond.selects RX0 yX0_doubleAt yX0_doubleAt, Cond.initialized RX0, Cond.code yX0_doubleAt cX0_doubleAt 2 (some .double), Cond.fieldLink RX0 16 "TypedColumns$Column" "kind" "I", Cond.static yX2_isFloating, Cond.code yX2_isFloating cX2_isFloating 1 (some .boolean), Cond.methodLink RX0 36 yX0_realAt, Cond.instanceMethod yX0_realAt, Cond.selects RX0 yX0_realAt yX0_realAt, Cond.code yX0_realAt cX0_realAt 2 (some .double), Cond.fieldLink RX0 32 "TypedColumns$Column" "reals" "[D", Cond.methodLink RX0 40 yX0_wholeAt, Cond.instanceMethod yX0_wholeAt, Cond.selects RX0 yX0_wholeAt yX0_wholeAt]
def wsX2_readAny_r3 : List Cond := [Cond.code yX0_wholeAt cX0_wholeAt 2 (some .long), Cond.fieldLink RX0 28 "TypedColumns$Column" "wholes" "[J"]
def wsX2_readAny : List Cond := .code yX2_readAny cX2_readAny 4 (some .double) :: ((wsX2_readAny_r1 ++ (wsX2_readAny_r2 ++ wsX2_readAny_r3)) ++ wsX00 ++ wsX20 ++ (vx_atS RX2 143 "java/lang/IndexOutOfBoundsException" ["java/lang/RuntimeException", "java/lang/Exception"]).filter goodWord)
def wsX2_refuseWithoutCells : List Cond := .code yX2_refuseWithoutCells cX2_refuseWithoutCells 1 none :: ([.classLink RX2 37 "java/lang/IllegalArgumentException", .initialized "java/lang/IllegalArgumentException", .methodLink RX2 44 yX2_holdsCells, .static yX2_holdsCells, .initialized RX2, .code yX2_holdsCells cX2_holdsCells 1 (some .boolean)] ++ (vx_atS RX2 41 "java/lang/IllegalArgumentException" ["java/lang/RuntimeException", "java/lang/Exception"]).filter goodWord)
def wsX2_writeReal_r1 : List Cond := [Cond.fieldLink RX2 66 "TypedColumns$Column" "kind" "I", Cond.methodLink RX2 83 yX2_codeOfCell, Cond.static yX2_codeOfCell, Cond.initialized RX2, Cond.code yX2_codeOfCell cX2_codeOfCell 5 (some .int), Cond.fieldLink RX2 76 "TypedColumns$Column" "length" "I", Cond.methodLink RX2 69 yX2_codeOfColumn, Cond.static yX2_codeOfColumn, Cond.code yX2_codeOfColumn cX2_codeOfColumn 1 (some .int), Cond.methodLink RX2 131 yX2_widens, Cond.static yX2_widens, Cond.code yX2_widens cX2_widens 2 (some .boolean), Cond.methodLink RX2 44 yX2_holdsCells, Cond.static yX2_holdsCells, Cond.code yX2_holdsCells cX2_holdsCells 1 (some .boolean), Cond.methodLink RX2 72 yX2_note, Cond.instanceMethod yX2_note, Cond.selects RX2 yX2_note yX2_note, Cond.code yX2_note cX2_note 2 (some .int), Cond.fieldLink RX2 15 "TypedColumns" "counts" "[I", Cond.fieldLink RX2 30 "TypedColumns" "latestCode" "I", Cond.methodLink RX2 178 yX0_putReal, Cond.instanceMethod yX0_putReal, Cond.selects RX0 yX0_putReal yX0_putReal]
def wsX2_writeReal_r2 : List Cond := [Cond.initialized RX0, Cond.code yX0_putReal cX0_putReal 4 none, Cond.fieldLink RX0 32 "TypedColumns$Column" "reals" "[D"]
def wsX2_writeReal : List Cond := .code yX2_writeReal cX2_writeReal 7 (some .int) :: ((wsX2_writeReal_r1 ++ wsX2_writeReal_r2) ++ wsX00 ++ wsX20)
def wsX2_wholeMadeFrom : List Cond := .code yX2_wholeMadeFrom cX2_wholeMadeFrom 2 (some .long) :: ([])
def wsX2_writeWhole_r1 : List Cond := [Cond.fieldLink RX2 66 "TypedColumns$Column" "kind" "I", Cond.methodLink RX2 83 yX2_codeOfCell, Cond.static yX2_codeOfCell, Cond.initialized RX2, Cond.code yX2_codeOfCell cX2_codeOfCell 5 (some .int), Cond.fieldLink RX2 76 "TypedColumns$Column" "length" "I", Cond.methodLink RX2 69 yX2_codeOfColumn, Cond.static yX2_codeOfColumn, Cond.code yX2_codeOfColumn cX2_codeOfColumn 1 (some .int), Cond.methodLink RX2 131 yX2_widens, Cond.static yX2_widens, Cond.code yX2_widens cX2_widens 2 (some .boolean), Cond.methodLink RX2 44 yX2_holdsCells, Cond.static yX2_holdsCells, Cond.code yX2_holdsCells cX2_holdsCells 1 (some .boolean), Cond.methodLink RX2 72 yX2_note, Cond.instanceMethod yX2_note, Cond.selects RX2 yX2_note yX2_note, Cond.code yX2_note cX2_note 2 (some .int), Cond.fieldLink RX2 15 "TypedColumns" "counts" "[I", Cond.fieldLink RX2 30 "TypedColumns" "latestCode" "I", Cond.methodLink RX2 174 yX0_putWhole, Cond.instanceMethod yX0_putWhole, Cond.selects RX0 yX0_putWhole yX0_putWhole]
def wsX2_writeWhole_r2 : List Cond := [Cond.initialized RX0, Cond.code yX0_putWhole cX0_putWhole 4 none, Cond.fieldLink RX0 16 "TypedColumns$Column" "kind" "I", Cond.fieldLink RX0 28 "TypedColumns$Column" "wholes" "[J", Cond.methodLink RX0 48 yX0_putReal, Cond.instanceMethod yX0_putReal, Cond.selects RX0 yX0_putReal yX0_putReal, Cond.code yX0_putReal cX0_putReal 4 none, Cond.fieldLink RX0 32 "TypedColumns$Column" "reals" "[D"]
def wsX2_writeWhole : List Cond := .code yX2_writeWhole cX2_writeWhole 7 (some .int) :: ((wsX2_writeWhole_r1 ++ wsX2_writeWhole_r2) ++ wsX00 ++ wsX20)
def wsX2_writeAny_r1 : List Cond := [Cond.methodLink RX2 62 yX2_columnAt, Cond.instanceMethod yX2_columnAt, Cond.selects RX2 yX2_columnAt yX2_columnAt, Cond.initialized RX2, Cond.code yX2_columnAt cX2_columnAt 3 (some (.object "TypedColumns$Column")), Cond.classLink RX2 139 "java/lang/IndexOutOfBoundsException", Cond.initialized "java/lang/IndexOutOfBoundsException", Cond.fieldLink RX2 11 "TypedColumns" "columns" "[LTypedColumns$Column;", Cond.methodLink RX2 107 yX2_refuseWithoutCells, Cond.static yX2_refuseWithoutCells, Cond.code yX2_refuseWithoutCells cX2_refuseWithoutCells 1 none, Cond.classLink RX2 37 "java/lang/IllegalArgumentException", Cond.initialized "java/lang/IllegalArgumentException", Cond.methodLink RX2 44 yX2_holdsCells, Cond.static yX2_holdsCells, Cond.code yX2_holdsCells cX2_holdsCells 1 (some .boolean), Cond.methodLink RX2 103 yX2_writeReal, Cond.instanceMethod yX2_writeReal, Cond.selects RX2 yX2_writeReal yX2_writeReal, Cond.code yX2_writeReal cX2_writeReal 7 (some .int), Cond.fieldLink RX2 66 "TypedColumns$Column" "kind" "I", Cond.methodLink RX2 83 yX2_codeOfCell, Cond.static yX2_codeOfCell, Cond.code yX2_codeOfCell cX2_codeOfCell 5 (some .int)]
def wsX2_writeAny_r2 : List Cond := [Cond.fieldLink RX2 76 "TypedColumns$Column" "length" "I", Cond.methodLink RX2 69 yX2_codeOfColumn, Cond.static yX2_codeOfColumn, Cond.code yX2_codeOfColumn cX2_codeOfColumn 1 (some .int), Cond.methodLink RX2 131 yX2_widens, Cond.static yX2_widens, Cond.code yX2_widens cX2_widens 2 (some .boolean), Cond.methodLink RX2 72 yX2_note, Cond.instanceMethod yX2_note, Cond.selects RX2 yX2_note yX2_note, Cond.code yX2_note cX2_note 2 (some .int), Cond.fieldLink RX2 15 "TypedColumns" "counts" "[I", Cond.fieldLink RX2 30 "TypedColumns" "latestCode" "I", Cond.methodLink RX2 178 yX0_putReal, Cond.instanceMethod yX0_putReal, Cond.selects RX0 yX0_putReal yX0_putReal, Cond.initialized RX0, Cond.code yX0_putReal cX0_putReal 4 none, Cond.fieldLink RX0 32 "TypedColumns$Column" "reals" "[D", Cond.methodLink RX2 111 yX2_wholeMadeFrom, Cond.static yX2_wholeMadeFrom, Cond.code yX2_wholeMadeFrom cX2_wholeMadeFrom 2 (some .long), Cond.methodLink RX2 95 yX2_writeWhole, Cond.instanceMethod yX2_writeWhole]
def wsX2_writeAny_r3 : List Cond := [Cond.selects RX2 yX2_writeWhole yX2_writeWhole, Cond.code yX2_writeWhole cX2_writeWhole 7 (some .int), Cond.methodLink RX2 174 yX0_putWhole, Cond.instanceMethod yX0_putWhole, Cond.selects RX0 yX0_putWhole yX0_putWhole, Cond.code yX0_putWhole cX0_putWhole 4 none, Cond.fieldLink RX0 16 "TypedColumns$Column" "kind" "I", Cond.fieldLink RX0 28 "TypedColumns$Column" "wholes" "[J", Cond.methodLink RX0 48 yX0_putReal]
def wsX2_writeAny : List Cond := .code yX2_writeAny cX2_writeAny 6 (some .int) :: ((wsX2_writeAny_r1 ++ (wsX2_writeAny_r2 ++ wsX2_writeAny_r3)) ++ wsX20 ++ wsX00 ++ (vx_atS RX2 143 "java/lang/IndexOutOfBoundsException" ["java/lang/RuntimeException", "java/lang/Exception"]).filter goodWord ++ (vx_atS RX2 41 "java/lang/IllegalArgumentException" ["java/lang/RuntimeException", "java/lang/Exception"]).filter goodWord)
def wsX2_codeOfKinds : List Cond := .code yX2_codeOfKinds cX2_codeOfKinds 3 (some .int) :: ([.fieldLink RX2 66 "TypedColumns$Column" "kind" "I"] ++ wsX00)
def wsX2_copy_r1 : List Cond := [Cond.fieldLink RX2 76 "TypedColumns$Column" "length" "I", Cond.methodLink RX2 62 yX2_columnAt, Cond.instanceMethod yX2_columnAt, Cond.selects RX2 yX2_columnAt yX2_columnAt, Cond.initialized RX2, Cond.code yX2_columnAt cX2_columnAt 3 (some (.object "TypedColumns$Column")), Cond.classLink RX2 139 "java/lang/IndexOutOfBoundsException", Cond.initialized "java/lang/IndexOutOfBoundsException", Cond.fieldLink RX2 11 "TypedColumns" "columns" "[LTypedColumns$Column;", Cond.methodLink RX2 115 yX2_codeOfKinds, Cond.static yX2_codeOfKinds, Cond.code yX2_codeOfKinds cX2_codeOfKinds 3 (some .int), Cond.fieldLink RX2 66 "TypedColumns$Column" "kind" "I", Cond.methodLink RX2 119 yX2_isPart, Cond.static yX2_isPart, Cond.code yX2_isPart cX2_isPart 3 (some .boolean), Cond.methodLink RX2 123 yX0_takeCells, Cond.instanceMethod yX0_takeCells, Cond.selects RX0 yX0_takeCells yX0_takeCells, Cond.initialized RX0, Cond.code yX0_takeCells cX0_takeCells 5 none, Cond.fieldLink RX0 28 "TypedColumns$Column" "wholes" "[J", Cond.methodLink RX0 56 arraycopyName, Cond.native arraycopyName]
def wsX2_copy_r2 : List Cond := [Cond.static arraycopyName, Cond.initialized "java/lang/System", Cond.fieldLink RX0 32 "TypedColumns$Column" "reals" "[D", Cond.methodLink RX2 72 yX2_note, Cond.instanceMethod yX2_note, Cond.selects RX2 yX2_note yX2_note, Cond.code yX2_note cX2_note 2 (some .int), Cond.fieldLink RX2 15 "TypedColumns" "counts" "[I", Cond.fieldLink RX2 30 "TypedColumns" "latestCode" "I"]
def wsX2_copy : List Cond := .code yX2_copy cX2_copy 9 (some .int) :: ((wsX2_copy_r1 ++ wsX2_copy_r2) ++ wsX00 ++ wsX20 ++ (vx_atS RX2 143 "java/lang/IndexOutOfBoundsException" ["java/lang/RuntimeException", "java/lang/Exception"]).filter goodWord)
def wsX2_total_r1 : List Cond := [Cond.methodLink RX2 62 yX2_columnAt, Cond.instanceMethod yX2_columnAt, Cond.selects RX2 yX2_columnAt yX2_columnAt, Cond.initialized RX2, Cond.code yX2_columnAt cX2_columnAt 3 (some (.object "TypedColumns$Column")), Cond.classLink RX2 139 "java/lang/IndexOutOfBoundsException", Cond.initialized "java/lang/IndexOutOfBoundsException", Cond.fieldLink RX2 11 "TypedColumns" "columns" "[LTypedColumns$Column;", Cond.methodLink RX2 69 yX2_codeOfColumn, Cond.static yX2_codeOfColumn, Cond.code yX2_codeOfColumn cX2_codeOfColumn 1 (some .int), Cond.fieldLink RX2 66 "TypedColumns$Column" "kind" "I", Cond.methodLink RX2 72 yX2_note, Cond.instanceMethod yX2_note, Cond.selects RX2 yX2_note yX2_note, Cond.code yX2_note cX2_note 2 (some .int), Cond.fieldLink RX2 15 "TypedColumns" "counts" "[I", Cond.fieldLink RX2 30 "TypedColumns" "latestCode" "I", Cond.methodLink RX2 127 yX0_sum, Cond.instanceMethod yX0_sum, Cond.selects RX0 yX0_sum yX0_sum, Cond.initialized RX0, Cond.code yX0_sum cX0_sum 4 (some .double), Cond.fieldLink RX0 22 "TypedColumns$Column" "length" "I"]
def wsX2_total_r2 : List Cond := [Cond.methodLink RX0 66 yX0_doubleAt, Cond.instanceMethod yX0_doubleAt, Cond.selects RX0 yX0_doubleAt yX0_doubleAt, Cond.code yX0_doubleAt cX0_doubleAt 2 (some .double), Cond.fieldLink RX0 16 "TypedColumns$Column" "kind" "I", Cond.static yX2_isFloating, Cond.code yX2_isFloating cX2_isFloating 1 (some .boolean), Cond.methodLink RX0 36 yX0_realAt, Cond.instanceMethod yX0_realAt, Cond.selects RX0 yX0_realAt yX0_realAt, Cond.code yX0_realAt cX0_realAt 2 (some .double), Cond.fieldLink RX0 32 "TypedColumns$Column" "reals" "[D", Cond.methodLink RX0 40 yX0_wholeAt, Cond.instanceMethod yX0_wholeAt, Cond.selects RX0 yX0_wholeAt yX0_wholeAt, Cond.code yX0_wholeAt cX0_wholeAt 2 (some .long), Cond.fieldLink RX0 28 "TypedColumns$Column" "wholes" "[J", Cond.static yX2_sumOf, Cond.code yX2_sumOf cX2_sumOf 4 (some .double), Cond.methodLink RX2 196 yX2_isInfinite, Cond.static yX2_isInfinite, Cond.code yX2_isInfinite cX2_isInfinite 2 (some .boolean), Cond.constantDouble RX2 192 (9218868437227405311), Cond.constantDouble RX2 194 (18442240474082181119)]
def wsX2_total_r3 : List Cond := [Cond.methodLink RX2 185 yX2_noNumber, Cond.static yX2_noNumber, Cond.code yX2_noNumber cX2_noNumber 0 (some .double), Cond.constantDouble RX2 182 (9221120237041090560)]
def wsX2_total : List Cond := .code yX2_total cX2_total 4 (some .double) :: ((wsX2_total_r1 ++ (wsX2_total_r2 ++ wsX2_total_r3)) ++ wsX20 ++ wsX00 ++ (vx_atS RX2 143 "java/lang/IndexOutOfBoundsException" ["java/lang/RuntimeException", "java/lang/Exception"]).filter goodWord)
def wsX2_widened_r1 : List Cond := [Cond.fieldLink RX2 66 "TypedColumns$Column" "kind" "I", Cond.classLink RX2 9 RX0, Cond.instantiable RX0 4, Cond.initialized RX0, Cond.fieldLink RX2 76 "TypedColumns$Column" "length" "I", Cond.methodLink RX2 62 yX2_columnAt, Cond.instanceMethod yX2_columnAt, Cond.selects RX2 yX2_columnAt yX2_columnAt, Cond.initialized RX2, Cond.code yX2_columnAt cX2_columnAt 3 (some (.object "TypedColumns$Column")), Cond.classLink RX2 139 "java/lang/IndexOutOfBoundsException", Cond.initialized "java/lang/IndexOutOfBoundsException", Cond.fieldLink RX2 11 "TypedColumns" "columns" "[LTypedColumns$Column;", Cond.methodLink RX2 107 yX2_refuseWithoutCells, Cond.static yX2_refuseWithoutCells, Cond.code yX2_refuseWithoutCells cX2_refuseWithoutCells 1 none, Cond.classLink RX2 37 "java/lang/IllegalArgumentException", Cond.initialized "java/lang/IllegalArgumentException", Cond.methodLink RX2 44 yX2_holdsCells, Cond.static yX2_holdsCells, Cond.code yX2_holdsCells cX2_holdsCells 1 (some .boolean), Cond.methodLink RX2 52 yX2_refuseWhenFull, Cond.instanceMethod yX2_refuseWhenFull, Cond.selects RX2 yX2_refuseWhenFull yX2_refuseWhenFull]
def wsX2_widened_r2 : List Cond := [Cond.code yX2_refuseWhenFull cX2_refuseWhenFull 1 none, Cond.classLink RX2 159 "java/lang/IllegalStateException", Cond.initialized "java/lang/IllegalStateException", Cond.fieldLink RX2 26 "TypedColumns" "created" "I", Cond.methodLink RX2 69 yX2_codeOfColumn, Cond.static yX2_codeOfColumn, Cond.code yX2_codeOfColumn cX2_codeOfColumn 1 (some .int), Cond.methodLink RX2 131 yX2_widens, Cond.static yX2_widens, Cond.code yX2_widens cX2_widens 2 (some .boolean), Cond.methodLink RX2 72 yX2_note, Cond.instanceMethod yX2_note, Cond.selects RX2 yX2_note yX2_note, Cond.code yX2_note cX2_note 2 (some .int), Cond.fieldLink RX2 15 "TypedColumns" "counts" "[I", Cond.fieldLink RX2 30 "TypedColumns" "latestCode" "I", Cond.methodLink RX2 55 yX0_init, Cond.instanceMethod yX0_init, Cond.code yX0_init cX0_init 4 none, Cond.methodLink RX0 3 objectInit, Cond.instanceMethod objectInit, Cond.code objectInit ⟨#[0xb1]⟩ 1 none, Cond.fieldLink RX0 16 "TypedColumns$Column" "kind" "I", Cond.fieldLink RX0 22 "TypedColumns$Column" "length" "I"]
def wsX2_widened_r3 : List Cond := [Cond.arrayClass .long, Cond.fieldLink RX0 28 "TypedColumns$Column" "wholes" "[J", Cond.arrayClass .double, Cond.fieldLink RX0 32 "TypedColumns$Column" "reals" "[D", Cond.static yX2_isLength, Cond.code yX2_isLength cX2_isLength 1 (some .boolean), Cond.static yX2_isFloating, Cond.code yX2_isFloating cX2_isFloating 1 (some .boolean), Cond.methodLink RX2 135 yX0_takeWidened, Cond.instanceMethod yX0_takeWidened, Cond.selects RX0 yX0_takeWidened yX0_takeWidened, Cond.code yX0_takeWidened cX0_takeWidened 3 none, Cond.methodLink RX0 36 yX0_realAt, Cond.instanceMethod yX0_realAt, Cond.selects RX0 yX0_realAt yX0_realAt, Cond.code yX0_realAt cX0_realAt 2 (some .double), Cond.methodLink RX0 48 yX0_putReal, Cond.instanceMethod yX0_putReal, Cond.selects RX0 yX0_putReal yX0_putReal, Cond.code yX0_putReal cX0_putReal 4 none, Cond.methodLink RX0 40 yX0_wholeAt, Cond.instanceMethod yX0_wholeAt, Cond.selects RX0 yX0_wholeAt yX0_wholeAt, Cond.code yX0_wholeAt cX0_wholeAt 2 (some .long)]
def wsX2_widened_r4 : List Cond := [Cond.methodLink RX0 62 yX0_putWhole, Cond.instanceMethod yX0_putWhole, Cond.selects RX0 yX0_putWhole yX0_putWhole, Cond.code yX0_putWhole cX0_putWhole 4 none, Cond.methodLink RX2 58 yX2_addColumn, Cond.instanceMethod yX2_addColumn, Cond.selects RX2 yX2_addColumn yX2_addColumn, Cond.code yX2_addColumn cX2_addColumn 3 (some .int)]
def wsX2_widened : List Cond := .code yX2_widened cX2_widened 6 (some .int) :: ((wsX2_widened_r1 ++ (wsX2_widened_r2 ++ (wsX2_widened_r3 ++ wsX2_widened_r4))) ++ wsX00 ++ wsX20 ++ (vx_atS RX2 143 "java/lang/IndexOutOfBoundsException" ["java/lang/RuntimeException", "java/lang/Exception"]).filter goodWord ++ (vx_atS RX2 41 "java/lang/IllegalArgumentException" ["java/lang/RuntimeException", "java/lang/Exception"]).filter goodWord ++ (vx_atS RX2 163 "java/lang/IllegalStateException" ["java/lang/RuntimeException", "java/lang/Exception"]).filter goodWord)
def wsX2_code : List Cond := .code yX2_code cX2_code 1 (some .int) :: ([.fieldLink RX2 30 "TypedColumns" "latestCode" "I"] ++ wsX20)
def wsX2_count : List Cond := .code yX2_count cX2_count 2 (some .int) :: ([.classLink RX2 139 "java/lang/IndexOutOfBoundsException", .initialized "java/lang/IndexOutOfBoundsException", .fieldLink RX2 15 "TypedColumns" "counts" "[I"] ++ wsX20 ++ (vx_atS RX2 143 "java/lang/IndexOutOfBoundsException" ["java/lang/RuntimeException", "java/lang/Exception"]).filter goodWord)
def wsJ0_isLatin1_aae02 : List Cond := .code yJ0_isLatin1_aae02 cJ0_isLatin1_aae02 1 (some .boolean) :: ([.fieldLink RJ0 38 "java/lang/String" "COMPACT_STRINGS" "Z", .fieldLink RJ0 15 "java/lang/String" "coder" "B"])
def wsJ3_checkIndex_8e157 : List Cond := .code yJ3_checkIndex_8e157 cJ3_checkIndex_8e157 3 (some .int) :: ([])
def wsJ0_checkIndex_df160 : List Cond := .code yJ0_checkIndex_df160 cJ0_checkIndex_df160 2 none :: ([.fieldLink RJ0 1053 "jdk/internal/util/Preconditions" "SIOOBE_FORMATTER" "Ljava/util/function/BiFunction;", .methodLink RJ0 1059 yJ3_checkIndex_8e157, .static yJ3_checkIndex_8e157, .initialized RJ3, .code yJ3_checkIndex_8e157 cJ3_checkIndex_8e157 3 (some .int)])
def wsJ1_charAt_3b067 : List Cond := .code yJ1_charAt_3b067 cJ1_charAt_3b067 2 (some .char) :: ([.methodLink RJ1 9 yJ0_checkIndex_df160, .static yJ0_checkIndex_df160, .initialized RJ0, .code yJ0_checkIndex_df160 cJ0_checkIndex_df160 2 none, .fieldLink RJ0 1053 "jdk/internal/util/Preconditions" "SIOOBE_FORMATTER" "Ljava/util/function/BiFunction;", .methodLink RJ0 1059 yJ3_checkIndex_8e157, .static yJ3_checkIndex_8e157, .initialized RJ3, .code yJ3_checkIndex_8e157 cJ3_checkIndex_8e157 3 (some .int)])
def wsJ2_length_9d52b : List Cond := .code yJ2_length_9d52b cJ2_length_9d52b 1 (some .int) :: ([])
def wsJ2_checkIndex_2214a : List Cond := .code yJ2_checkIndex_2214a cJ2_checkIndex_2214a 2 none :: ([.methodLink RJ2 48 yJ2_length_9d52b, .static yJ2_length_9d52b, .initialized RJ2, .code yJ2_length_9d52b cJ2_length_9d52b 1 (some .int), .methodLink RJ2 414 yJ0_checkIndex_df160, .static yJ0_checkIndex_df160, .initialized RJ0, .code yJ0_checkIndex_df160 cJ0_checkIndex_df160 2 none, .fieldLink RJ0 1053 "jdk/internal/util/Preconditions" "SIOOBE_FORMATTER" "Ljava/util/function/BiFunction;", .methodLink RJ0 1059 yJ3_checkIndex_8e157, .static yJ3_checkIndex_8e157, .initialized RJ3, .code yJ3_checkIndex_8e157 cJ3_checkIndex_8e157 3 (some .int)])
def wsJ2_getChar_3b067 : List Cond := .code yJ2_getChar_3b067 cJ2_getChar_3b067 2 (some .char) :: ([.fieldLink RJ2 44 "java/lang/StringUTF16" "$assertionsDisabled" "Z", .fieldLink RJ2 59 "java/lang/StringUTF16" "HI_BYTE_SHIFT" "I", .fieldLink RJ2 63 "java/lang/StringUTF16" "LO_BYTE_SHIFT" "I", .methodLink RJ2 48 yJ2_length_9d52b, .static yJ2_length_9d52b, .initialized RJ2, .code yJ2_length_9d52b cJ2_length_9d52b 1 (some .int)])
def wsJ2_charAt_3b067 : List Cond := .code yJ2_charAt_3b067 cJ2_charAt_3b067 2 (some .char) :: ([.methodLink RJ2 67 yJ2_checkIndex_2214a, .static yJ2_checkIndex_2214a, .initialized RJ2, .code yJ2_checkIndex_2214a cJ2_checkIndex_2214a 2 none, .methodLink RJ2 48 yJ2_length_9d52b, .static yJ2_length_9d52b, .code yJ2_length_9d52b cJ2_length_9d52b 1 (some .int), .methodLink RJ2 414 yJ0_checkIndex_df160, .static yJ0_checkIndex_df160, .initialized RJ0, .code yJ0_checkIndex_df160 cJ0_checkIndex_df160 2 none, .fieldLink RJ0 1053 "jdk/internal/util/Preconditions" "SIOOBE_FORMATTER" "Ljava/util/function/BiFunction;", .methodLink RJ0 1059 yJ3_checkIndex_8e157, .static yJ3_checkIndex_8e157, .initialized RJ3, .code yJ3_checkIndex_8e157 cJ3_checkIndex_8e157 3 (some .int), .methodLink RJ2 71 yJ2_getChar_3b067, .static yJ2_getChar_3b067, .code yJ2_getChar_3b067 cJ2_getChar_3b067 2 (some .char), .fieldLink RJ2 44 "java/lang/StringUTF16" "$assertionsDisabled" "Z", .fieldLink RJ2 59 "java/lang/StringUTF16" "HI_BYTE_SHIFT" "I", .fieldLink RJ2 63 "java/lang/StringUTF16" "LO_BYTE_SHIFT" "I"])
def wsJ0_charAt_5068e_r1 : List Cond := [Cond.fieldLink RJ0 9 "java/lang/String" "value" "[B", Cond.methodLink RJ0 492 yJ0_isLatin1_aae02, Cond.instanceMethod yJ0_isLatin1_aae02, Cond.selects RJ0 yJ0_isLatin1_aae02 yJ0_isLatin1_aae02, Cond.initialized RJ0, Cond.code yJ0_isLatin1_aae02 cJ0_isLatin1_aae02 1 (some .boolean), Cond.fieldLink RJ0 38 "java/lang/String" "COMPACT_STRINGS" "Z", Cond.fieldLink RJ0 15 "java/lang/String" "coder" "B", Cond.methodLink RJ0 495 yJ1_charAt_3b067, Cond.static yJ1_charAt_3b067, Cond.initialized RJ1, Cond.code yJ1_charAt_3b067 cJ1_charAt_3b067 2 (some .char), Cond.methodLink RJ1 9 yJ0_checkIndex_df160, Cond.static yJ0_checkIndex_df160, Cond.code yJ0_checkIndex_df160 cJ0_checkIndex_df160 2 none, Cond.fieldLink RJ0 1053 "jdk/internal/util/Preconditions" "SIOOBE_FORMATTER" "Ljava/util/function/BiFunction;", Cond.methodLink RJ0 1059 yJ3_checkIndex_8e157, Cond.static yJ3_checkIndex_8e157, Cond.initialized RJ3, Cond.code yJ3_checkIndex_8e157 cJ3_checkIndex_8e157 3 (some .int), Cond.methodLink RJ0 498 yJ2_charAt_3b067, Cond.static yJ2_charAt_3b067, Cond.initialized RJ2, Cond.code yJ2_charAt_3b067 cJ2_charAt_3b067 2 (some .char)]
def wsJ0_charAt_5068e_r2 : List Cond := [Cond.methodLink RJ2 67 yJ2_checkIndex_2214a, Cond.static yJ2_checkIndex_2214a, Cond.code yJ2_checkIndex_2214a cJ2_checkIndex_2214a 2 none, Cond.methodLink RJ2 48 yJ2_length_9d52b, Cond.static yJ2_length_9d52b, Cond.code yJ2_length_9d52b cJ2_length_9d52b 1 (some .int), Cond.methodLink RJ2 414 yJ0_checkIndex_df160, Cond.methodLink RJ2 71 yJ2_getChar_3b067, Cond.static yJ2_getChar_3b067, Cond.code yJ2_getChar_3b067 cJ2_getChar_3b067 2 (some .char), Cond.fieldLink RJ2 44 "java/lang/StringUTF16" "$assertionsDisabled" "Z", Cond.fieldLink RJ2 59 "java/lang/StringUTF16" "HI_BYTE_SHIFT" "I", Cond.fieldLink RJ2 63 "java/lang/StringUTF16" "LO_BYTE_SHIFT" "I"]
def wsJ0_charAt_5068e : List Cond := .code yJ0_charAt_5068e cJ0_charAt_5068e 2 (some .char) :: ((wsJ0_charAt_5068e_r1 ++ wsJ0_charAt_5068e_r2))
def wsL_below : List Cond := .code yL_below cL_below 2 (some .int) :: ([.constant RL 7 (2147483647)])
def wsL_cell : List Cond := .code yL_cell cL_cell 2 (some .int) :: ([.constant RL 8 (790386105)])
def wsL_widens_r1 : List Cond := [Cond.methodLink RL 25 yJ0_charAt_5068e, Cond.instanceMethod yJ0_charAt_5068e, Cond.selects RJ0 yJ0_charAt_5068e yJ0_charAt_5068e, Cond.initialized RJ0, Cond.code yJ0_charAt_5068e cJ0_charAt_5068e 2 (some .char), Cond.fieldLink RJ0 9 "java/lang/String" "value" "[B", Cond.methodLink RJ0 492 yJ0_isLatin1_aae02, Cond.instanceMethod yJ0_isLatin1_aae02, Cond.selects RJ0 yJ0_isLatin1_aae02 yJ0_isLatin1_aae02, Cond.code yJ0_isLatin1_aae02 cJ0_isLatin1_aae02 1 (some .boolean), Cond.fieldLink RJ0 38 "java/lang/String" "COMPACT_STRINGS" "Z", Cond.fieldLink RJ0 15 "java/lang/String" "coder" "B", Cond.methodLink RJ0 495 yJ1_charAt_3b067, Cond.static yJ1_charAt_3b067, Cond.initialized RJ1, Cond.code yJ1_charAt_3b067 cJ1_charAt_3b067 2 (some .char), Cond.methodLink RJ1 9 yJ0_checkIndex_df160, Cond.static yJ0_checkIndex_df160, Cond.code yJ0_checkIndex_df160 cJ0_checkIndex_df160 2 none, Cond.fieldLink RJ0 1053 "jdk/internal/util/Preconditions" "SIOOBE_FORMATTER" "Ljava/util/function/BiFunction;", Cond.methodLink RJ0 1059 yJ3_checkIndex_8e157, Cond.static yJ3_checkIndex_8e157, Cond.initialized RJ3, Cond.code yJ3_checkIndex_8e157 cJ3_checkIndex_8e157 3 (some .int)]
def wsL_widens_r2 : List Cond := [Cond.methodLink RJ0 498 yJ2_charAt_3b067, Cond.static yJ2_charAt_3b067, Cond.initialized RJ2, Cond.code yJ2_charAt_3b067 cJ2_charAt_3b067 2 (some .char), Cond.methodLink RJ2 67 yJ2_checkIndex_2214a, Cond.static yJ2_checkIndex_2214a, Cond.code yJ2_checkIndex_2214a cJ2_checkIndex_2214a 2 none, Cond.methodLink RJ2 48 yJ2_length_9d52b, Cond.static yJ2_length_9d52b, Cond.code yJ2_length_9d52b cJ2_length_9d52b 1 (some .int), Cond.methodLink RJ2 414 yJ0_checkIndex_df160, Cond.methodLink RJ2 71 yJ2_getChar_3b067, Cond.static yJ2_getChar_3b067, Cond.code yJ2_getChar_3b067 cJ2_getChar_3b067 2 (some .char), Cond.fieldLink RJ2 44 "java/lang/StringUTF16" "$assertionsDisabled" "Z", Cond.fieldLink RJ2 59 "java/lang/StringUTF16" "HI_BYTE_SHIFT" "I", Cond.fieldLink RJ2 63 "java/lang/StringUTF16" "LO_BYTE_SHIFT" "I"]
def wsL_widens : List Cond := .code yL_widens cL_widens 3 (some .boolean) :: ((wsL_widens_r1 ++ wsL_widens_r2))
def wsL_made : List Cond := .code yL_made cL_made 2 (some .long) :: ([])
def wsL_law0_r1 : List Cond := [Cond.classLink RL 31 RX2, Cond.instantiable RX2 5, Cond.initialized RX2, Cond.arrayClass .double, Cond.arrayClass .int, Cond.methodLink RL 33 yX2_init, Cond.instanceMethod yX2_init, Cond.code yX2_init cX2_init 1 none, Cond.methodLink RX2 1 objectInit, Cond.instanceMethod objectInit, Cond.code objectInit ⟨#[0xb1]⟩ 1 none, Cond.classLink RX2 9 RX0, Cond.fieldLink RX2 11 "TypedColumns" "columns" "[LTypedColumns$Column;", Cond.fieldLink RX2 15 "TypedColumns" "counts" "[I", Cond.classLink RX2 19 RX1, Cond.instantiable RX1 1, Cond.initialized RX1, Cond.fieldLink RX2 22 "TypedColumns" "doubleBits" "LTypedColumns$DoubleBits;", Cond.fieldLink RX2 26 "TypedColumns" "created" "I", Cond.fieldLink RX2 30 "TypedColumns" "latestCode" "I", Cond.methodLink RX2 21 yX1_init, Cond.instanceMethod yX1_init, Cond.code yX1_init cX1_init 4 none, Cond.methodLink RX1 1 objectInit]
def wsL_law0_r2 : List Cond := [Cond.fieldLink RX1 9 "TypedColumns$DoubleBits" "powers" "[D", Cond.constantDouble RX1 13 (4611686018427387904), Cond.methodLink RL 34 yL_cell, Cond.static yL_cell, Cond.initialized RL, Cond.code yL_cell cL_cell 2 (some .int), Cond.constant RL 8 (790386105), Cond.methodLink RL 40 yL_below, Cond.static yL_below, Cond.code yL_below cL_below 2 (some .int), Cond.constant RL 7 (2147483647), Cond.methodLink RL 44 yX2_create, Cond.instanceMethod yX2_create, Cond.selects RX2 yX2_create yX2_create, Cond.code yX2_create cX2_create 3 (some .int), Cond.classLink RX2 37 "java/lang/IllegalArgumentException", Cond.initialized "java/lang/IllegalArgumentException", Cond.instantiable RX0 4, Cond.initialized RX0, Cond.methodLink RX2 33 yX2_isKind, Cond.static yX2_isKind, Cond.code yX2_isKind cX2_isKind 1 (some .boolean), Cond.methodLink RX2 44 yX2_holdsCells, Cond.static yX2_holdsCells]
def wsL_law0_r3 : List Cond := [Cond.code yX2_holdsCells cX2_holdsCells 1 (some .boolean), Cond.methodLink RX2 47 yX2_isLength, Cond.static yX2_isLength, Cond.code yX2_isLength cX2_isLength 1 (some .boolean), Cond.methodLink RX2 52 yX2_refuseWhenFull, Cond.instanceMethod yX2_refuseWhenFull, Cond.selects RX2 yX2_refuseWhenFull yX2_refuseWhenFull, Cond.code yX2_refuseWhenFull cX2_refuseWhenFull 1 none, Cond.classLink RX2 159 "java/lang/IllegalStateException", Cond.initialized "java/lang/IllegalStateException", Cond.methodLink RX2 55 yX0_init, Cond.instanceMethod yX0_init, Cond.code yX0_init cX0_init 4 none, Cond.methodLink RX0 3 objectInit, Cond.fieldLink RX0 16 "TypedColumns$Column" "kind" "I", Cond.fieldLink RX0 22 "TypedColumns$Column" "length" "I", Cond.arrayClass .long, Cond.fieldLink RX0 28 "TypedColumns$Column" "wholes" "[J", Cond.fieldLink RX0 32 "TypedColumns$Column" "reals" "[D", Cond.static yX2_isFloating, Cond.code yX2_isFloating cX2_isFloating 1 (some .boolean), Cond.methodLink RX2 58 yX2_addColumn, Cond.instanceMethod yX2_addColumn, Cond.selects RX2 yX2_addColumn yX2_addColumn]
def wsL_law0_r4 : List Cond := [Cond.code yX2_addColumn cX2_addColumn 3 (some .int), Cond.methodLink RL 47 yL_widens, Cond.static yL_widens, Cond.code yL_widens cL_widens 3 (some .boolean), Cond.methodLink RL 25 yJ0_charAt_5068e, Cond.instanceMethod yJ0_charAt_5068e, Cond.selects RJ0 yJ0_charAt_5068e yJ0_charAt_5068e, Cond.initialized RJ0, Cond.code yJ0_charAt_5068e cJ0_charAt_5068e 2 (some .char), Cond.fieldLink RJ0 9 "java/lang/String" "value" "[B", Cond.methodLink RJ0 492 yJ0_isLatin1_aae02, Cond.instanceMethod yJ0_isLatin1_aae02, Cond.selects RJ0 yJ0_isLatin1_aae02 yJ0_isLatin1_aae02, Cond.code yJ0_isLatin1_aae02 cJ0_isLatin1_aae02 1 (some .boolean), Cond.fieldLink RJ0 38 "java/lang/String" "COMPACT_STRINGS" "Z", Cond.fieldLink RJ0 15 "java/lang/String" "coder" "B", Cond.methodLink RJ0 495 yJ1_charAt_3b067, Cond.static yJ1_charAt_3b067, Cond.initialized RJ1, Cond.code yJ1_charAt_3b067 cJ1_charAt_3b067 2 (some .char), Cond.methodLink RJ1 9 yJ0_checkIndex_df160, Cond.static yJ0_checkIndex_df160, Cond.code yJ0_checkIndex_df160 cJ0_checkIndex_df160 2 none, Cond.fieldLink RJ0 1053 "jdk/internal/util/Preconditions" "SIOOBE_FORMATTER" "Ljava/util/function/BiFunction;"]
def wsL_law0_r5 : List Cond := [Cond.methodLink RJ0 1059 yJ3_checkIndex_8e157, Cond.static yJ3_checkIndex_8e157, Cond.initialized RJ3, Cond.code yJ3_checkIndex_8e157 cJ3_checkIndex_8e157 3 (some .int), Cond.methodLink RJ0 498 yJ2_charAt_3b067, Cond.static yJ2_charAt_3b067, Cond.initialized RJ2, Cond.code yJ2_charAt_3b067 cJ2_charAt_3b067 2 (some .char), Cond.methodLink RJ2 67 yJ2_checkIndex_2214a, Cond.static yJ2_checkIndex_2214a, Cond.code yJ2_checkIndex_2214a cJ2_checkIndex_2214a 2 none, Cond.methodLink RJ2 48 yJ2_length_9d52b, Cond.static yJ2_length_9d52b, Cond.code yJ2_length_9d52b cJ2_length_9d52b 1 (some .int), Cond.methodLink RJ2 414 yJ0_checkIndex_df160, Cond.methodLink RJ2 71 yJ2_getChar_3b067, Cond.static yJ2_getChar_3b067, Cond.code yJ2_getChar_3b067 cJ2_getChar_3b067 2 (some .char), Cond.fieldLink RJ2 44 "java/lang/StringUTF16" "$assertionsDisabled" "Z", Cond.fieldLink RJ2 59 "java/lang/StringUTF16" "HI_BYTE_SHIFT" "I", Cond.fieldLink RJ2 63 "java/lang/StringUTF16" "LO_BYTE_SHIFT" "I", Cond.methodLink RL 51 yX2_writeAny, Cond.instanceMethod yX2_writeAny, Cond.selects RX2 yX2_writeAny yX2_writeAny]
def wsL_law0_r6 : List Cond := [Cond.code yX2_writeAny cX2_writeAny 6 (some .int), Cond.methodLink RX2 62 yX2_columnAt, Cond.instanceMethod yX2_columnAt, Cond.selects RX2 yX2_columnAt yX2_columnAt, Cond.code yX2_columnAt cX2_columnAt 3 (some (.object "TypedColumns$Column")), Cond.classLink RX2 139 "java/lang/IndexOutOfBoundsException", Cond.initialized "java/lang/IndexOutOfBoundsException", Cond.methodLink RX2 107 yX2_refuseWithoutCells, Cond.static yX2_refuseWithoutCells, Cond.code yX2_refuseWithoutCells cX2_refuseWithoutCells 1 none, Cond.methodLink RX2 103 yX2_writeReal, Cond.instanceMethod yX2_writeReal, Cond.selects RX2 yX2_writeReal yX2_writeReal, Cond.code yX2_writeReal cX2_writeReal 7 (some .int), Cond.fieldLink RX2 66 "TypedColumns$Column" "kind" "I", Cond.methodLink RX2 83 yX2_codeOfCell, Cond.static yX2_codeOfCell, Cond.code yX2_codeOfCell cX2_codeOfCell 5 (some .int), Cond.fieldLink RX2 76 "TypedColumns$Column" "length" "I", Cond.methodLink RX2 69 yX2_codeOfColumn, Cond.static yX2_codeOfColumn, Cond.code yX2_codeOfColumn cX2_codeOfColumn 1 (some .int), Cond.methodLink RX2 131 yX2_widens, Cond.static yX2_widens]
def wsL_law0_r7 : List Cond := [Cond.code yX2_widens cX2_widens 2 (some .boolean), Cond.methodLink RX2 72 yX2_note, Cond.instanceMethod yX2_note, Cond.selects RX2 yX2_note yX2_note, Cond.code yX2_note cX2_note 2 (some .int), Cond.methodLink RX2 178 yX0_putReal, Cond.instanceMethod yX0_putReal, Cond.selects RX0 yX0_putReal yX0_putReal, Cond.code yX0_putReal cX0_putReal 4 none, Cond.methodLink RX2 111 yX2_wholeMadeFrom, Cond.static yX2_wholeMadeFrom, Cond.code yX2_wholeMadeFrom cX2_wholeMadeFrom 2 (some .long), Cond.methodLink RX2 95 yX2_writeWhole, Cond.instanceMethod yX2_writeWhole, Cond.selects RX2 yX2_writeWhole yX2_writeWhole, Cond.code yX2_writeWhole cX2_writeWhole 7 (some .int), Cond.methodLink RX2 174 yX0_putWhole, Cond.instanceMethod yX0_putWhole, Cond.selects RX0 yX0_putWhole yX0_putWhole, Cond.code yX0_putWhole cX0_putWhole 4 none, Cond.methodLink RX0 48 yX0_putReal, Cond.methodLink RL 55 yL_made, Cond.static yL_made, Cond.code yL_made cL_made 2 (some .long)]
def wsL_law0_r8 : List Cond := [Cond.methodLink RL 59 yX2_copy, Cond.instanceMethod yX2_copy, Cond.selects RX2 yX2_copy yX2_copy, Cond.code yX2_copy cX2_copy 9 (some .int), Cond.methodLink RX2 115 yX2_codeOfKinds, Cond.static yX2_codeOfKinds, Cond.code yX2_codeOfKinds cX2_codeOfKinds 3 (some .int), Cond.methodLink RX2 119 yX2_isPart, Cond.static yX2_isPart, Cond.code yX2_isPart cX2_isPart 3 (some .boolean), Cond.methodLink RX2 123 yX0_takeCells, Cond.instanceMethod yX0_takeCells, Cond.selects RX0 yX0_takeCells yX0_takeCells, Cond.code yX0_takeCells cX0_takeCells 5 none, Cond.methodLink RX0 56 arraycopyName, Cond.native arraycopyName, Cond.static arraycopyName, Cond.initialized "java/lang/System", Cond.methodLink RL 63 yX2_widened, Cond.instanceMethod yX2_widened, Cond.selects RX2 yX2_widened yX2_widened, Cond.code yX2_widened cX2_widened 6 (some .int), Cond.methodLink RX2 135 yX0_takeWidened, Cond.instanceMethod yX0_takeWidened]
def wsL_law0_r9 : List Cond := [Cond.selects RX0 yX0_takeWidened yX0_takeWidened, Cond.code yX0_takeWidened cX0_takeWidened 3 none, Cond.methodLink RX0 36 yX0_realAt, Cond.instanceMethod yX0_realAt, Cond.selects RX0 yX0_realAt yX0_realAt, Cond.code yX0_realAt cX0_realAt 2 (some .double), Cond.methodLink RX0 40 yX0_wholeAt, Cond.instanceMethod yX0_wholeAt, Cond.selects RX0 yX0_wholeAt yX0_wholeAt, Cond.code yX0_wholeAt cX0_wholeAt 2 (some .long), Cond.methodLink RX0 62 yX0_putWhole, Cond.methodLink RL 66 yX2_code, Cond.instanceMethod yX2_code, Cond.selects RX2 yX2_code yX2_code, Cond.code yX2_code cX2_code 1 (some .int), Cond.methodLink RL 70 yX2_readAny, Cond.instanceMethod yX2_readAny, Cond.selects RX2 yX2_readAny yX2_readAny, Cond.code yX2_readAny cX2_readAny 4 (some .double), Cond.methodLink RX2 91 yX2_readReal, Cond.instanceMethod yX2_readReal, Cond.selects RX2 yX2_readReal yX2_readReal, Cond.code yX2_readReal cX2_readReal 5 (some .double), Cond.methodLink RX2 170 yX0_doubleAt]
def wsL_law0_r10 : List Cond := [Cond.instanceMethod yX0_doubleAt, Cond.selects RX0 yX0_doubleAt yX0_doubleAt, Cond.code yX0_doubleAt cX0_doubleAt 2 (some .double), Cond.methodLink RL 74 yX2_total, Cond.instanceMethod yX2_total, Cond.selects RX2 yX2_total yX2_total, Cond.code yX2_total cX2_total 4 (some .double), Cond.methodLink RX2 127 yX0_sum, Cond.instanceMethod yX0_sum, Cond.selects RX0 yX0_sum yX0_sum, Cond.code yX0_sum cX0_sum 4 (some .double), Cond.methodLink RX0 66 yX0_doubleAt, Cond.static yX2_sumOf, Cond.code yX2_sumOf cX2_sumOf 4 (some .double), Cond.methodLink RX2 196 yX2_isInfinite, Cond.static yX2_isInfinite, Cond.code yX2_isInfinite cX2_isInfinite 2 (some .boolean), Cond.constantDouble RX2 192 (9218868437227405311), Cond.constantDouble RX2 194 (18442240474082181119), Cond.methodLink RX2 185 yX2_noNumber, Cond.static yX2_noNumber, Cond.code yX2_noNumber cX2_noNumber 0 (some .double), Cond.constantDouble RX2 182 (9221120237041090560), Cond.methodLink RL 78 yX2_count]
def wsL_law0_r11 : List Cond := [Cond.instanceMethod yX2_count, Cond.selects RX2 yX2_count yX2_count, Cond.code yX2_count cX2_count 2 (some .int), Cond.methodLink RL 82 yX2_columnCount, Cond.instanceMethod yX2_columnCount, Cond.selects RX2 yX2_columnCount yX2_columnCount, Cond.code yX2_columnCount cX2_columnCount 1 (some .int)]
def wsL_law0 : List Cond := (wsL_law0_r1 ++ (wsL_law0_r2 ++ (wsL_law0_r3 ++ (wsL_law0_r4 ++ (wsL_law0_r5 ++ (wsL_law0_r6 ++ (wsL_law0_r7 ++ (wsL_law0_r8 ++ (wsL_law0_r9 ++ (wsL_law0_r10 ++ wsL_law0_r11)))))))))) ++ wsX20 ++ wsX10 ++ wsX00 ++ ([] : List Cond)
def wsL_law : List Cond := wsL_law0 ++ (vx_atS RX2 41 "java/lang/IllegalArgumentException" ["java/lang/RuntimeException", "java/lang/Exception"]).filter goodWord ++ (vx_atS RX2 163 "java/lang/IllegalStateException" ["java/lang/RuntimeException", "java/lang/Exception"]).filter goodWord ++ (vx_atS RX2 143 "java/lang/IndexOutOfBoundsException" ["java/lang/RuntimeException", "java/lang/Exception"]).filter goodWord
end
section
set_option maxRecDepth 20000 in
theorem wsL_law_in0_r1 : ∀ w ∈ wsL_law0_r1, w ∈ lw_tbl := fun w h => (goodIn_p wsL_law0_r1 [27, 30, 37] (by decide +kernel) (by decide +kernel) w h).1
set_option maxRecDepth 20000 in
theorem wsL_law_in0_r2 : ∀ w ∈ wsL_law0_r2, w ∈ lw_tbl := fun w h => (goodIn_p wsL_law0_r2 [342, 338, 65, 68] (by decide +kernel) (by decide +kernel) w h).1
set_option maxRecDepth 20000 in
theorem wsL_law_in0_r3 : ∀ w ∈ wsL_law0_r3, w ∈ lw_tbl := fun w h => (goodIn_p wsL_law0_r3 [139, 142, 147, 167, 173] (by decide +kernel) (by decide +kernel) w h).1
set_option maxRecDepth 20000 in
theorem wsL_law_in0_r4 : ∀ w ∈ wsL_law0_r4, w ∈ lw_tbl := fun w h => (goodIn_p wsL_law0_r4 [193, 346, 358, 362, 367, 370] (by decide +kernel) (by decide +kernel) w h).1
set_option maxRecDepth 20000 in
theorem wsL_law_in0_r5 : ∀ w ∈ wsL_law0_r5, w ∈ lw_tbl := fun w h => (goodIn_p wsL_law0_r5 [375, 378, 381, 384, 388] (by decide +kernel) (by decide +kernel) w h).1
set_option maxRecDepth 20000 in
theorem wsL_law_in0_r6 : ∀ w ∈ wsL_law0_r6, w ∈ lw_tbl := fun w h => (goodIn_p wsL_law0_r6 [254, 205, 257, 262, 228, 231] (by decide +kernel) (by decide +kernel) w h).1
set_option maxRecDepth 20000 in
theorem wsL_law_in0_r7 : ∀ w ∈ wsL_law0_r7, w ∈ lw_tbl := fun w h => (goodIn_p wsL_law0_r7 [234, 238, 266, 269, 273, 277, 397] (by decide +kernel) (by decide +kernel) w h).1
set_option maxRecDepth 20000 in
theorem wsL_law_in0_r8 : ∀ w ∈ wsL_law0_r8, w ∈ lw_tbl := fun w h => (goodIn_p wsL_law0_r8 [282, 285, 288, 292, 321] (by decide +kernel) (by decide +kernel) w h).1
set_option maxRecDepth 20000 in
theorem wsL_law_in0_r9 : ∀ w ∈ wsL_law0_r9, w ∈ lw_tbl := fun w h => (goodIn_p wsL_law0_r9 [325, 246, 250, 330, 201, 225] (by decide +kernel) (by decide +kernel) w h).1
set_option maxRecDepth 20000 in
theorem wsL_law_in0_r10 : ∀ w ∈ wsL_law0_r10, w ∈ lw_tbl := fun w h => (goodIn_p wsL_law0_r10 [242, 300, 304, 308, 311, 316] (by decide +kernel) (by decide +kernel) w h).1
set_option maxRecDepth 20000 in
theorem wsL_law_in0_r11 : ∀ w ∈ wsL_law0_r11, w ∈ lw_tbl := fun w h => (goodIn_p wsL_law0_r11 [334, 197] (by decide +kernel) (by decide +kernel) w h).1
theorem wsL_law_in0_L_law0_r11 : ∀ w ∈ wsL_law0_r11, w ∈ lw_tbl := by decide +kernel
theorem wsL_law_in0_X20 : ∀ w ∈ wsX20, w ∈ lw_tbl := by decide +kernel
theorem wsL_law_in0_X10 : ∀ w ∈ wsX10, w ∈ lw_tbl := by decide +kernel
theorem wsL_law_in0_X00 : ∀ w ∈ wsX00, w ∈ lw_tbl := by decide +kernel
theorem wsL_law_in0 : ∀ w ∈ wsL_law0, w ∈ lw_tbl := by
  unfold wsL_law0
  exact (List.forall_mem_append.mpr ⟨(List.forall_mem_append.mpr ⟨(List.forall_mem_append.mpr ⟨(List.forall_mem_append.mpr ⟨(List.forall_mem_append.mpr ⟨(List.forall_mem_append.mpr ⟨wsL_law_in0_r1, (List.forall_mem_append.mpr ⟨wsL_law_in0_r2, (List.forall_mem_append.mpr ⟨wsL_law_in0_r3, (List.forall_mem_append.mpr ⟨wsL_law_in0_r4, (List.forall_mem_append.mpr ⟨wsL_law_in0_r5, (List.forall_mem_append.mpr ⟨wsL_law_in0_r6, (List.forall_mem_append.mpr ⟨wsL_law_in0_r7, (List.forall_mem_append.mpr ⟨wsL_law_in0_r8, (List.forall_mem_append.mpr ⟨wsL_law_in0_r9, (List.forall_mem_append.mpr ⟨wsL_law_in0_r10, wsL_law_in0_r11⟩)⟩)⟩)⟩)⟩)⟩)⟩)⟩)⟩)⟩), wsL_law_in0_L_law0_r11⟩), wsL_law_in0_X20⟩), wsL_law_in0_X10⟩), wsL_law_in0_X00⟩), fun _ h => absurd h List.not_mem_nil⟩)
theorem wsL_law_x0 : ∀ w ∈ (vx_atS RX2 41 "java/lang/IllegalArgumentException" ["java/lang/RuntimeException", "java/lang/Exception"]).filter goodWord, w ∈ lw_tbl := by decide +kernel
theorem wsL_law_x1 : ∀ w ∈ (vx_atS RX2 163 "java/lang/IllegalStateException" ["java/lang/RuntimeException", "java/lang/Exception"]).filter goodWord, w ∈ lw_tbl := by decide +kernel
theorem wsL_law_x2 : ∀ w ∈ (vx_atS RX2 143 "java/lang/IndexOutOfBoundsException" ["java/lang/RuntimeException", "java/lang/Exception"]).filter goodWord, w ∈ lw_tbl := by decide +kernel
theorem wsL_law_in : ∀ w ∈ wsL_law, w ∈ lw_tbl := fun w h => (List.mem_append.mp h).elim (fun h => (List.mem_append.mp h).elim (fun h => (List.mem_append.mp h).elim (fun h => wsL_law_in0 w h) (fun h => wsL_law_x0 w h)) (fun h => wsL_law_x1 w h)) (fun h => wsL_law_x2 w h)
theorem inlX0 : ∀ w ∈ wsX00, w ∈ wsL_law := fun _ h => List.mem_append_left _ (List.mem_append_left _ (List.mem_append_left _ (List.mem_append_left _ (List.mem_append_right _ h))))
theorem inX0 : ∀ w ∈ wsX00, w ∈ lw_tbl := fun w h => wsL_law_in w (inlX0 w h)
theorem inlX1 : ∀ w ∈ wsX10, w ∈ wsL_law := fun _ h => List.mem_append_left _ (List.mem_append_left _ (List.mem_append_left _ (List.mem_append_left _ (List.mem_append_left _ (List.mem_append_right _ h)))))
theorem inX1 : ∀ w ∈ wsX10, w ∈ lw_tbl := fun w h => wsL_law_in w (inlX1 w h)
theorem inlX2 : ∀ w ∈ wsX20, w ∈ wsL_law := fun _ h => List.mem_append_left _ (List.mem_append_left _ (List.mem_append_left _ (List.mem_append_left _ (List.mem_append_left _ (List.mem_append_left _ (List.mem_append_right _ h))))))
theorem inX2 : ∀ w ∈ wsX20, w ∈ lw_tbl := fun w h => wsL_law_in w (inlX2 w h)
theorem inX3 : ∀ w ∈ wsX30, w ∈ lw_tbl := by decide +kernel
theorem inJ0 : ∀ w ∈ wsJ00, w ∈ lw_tbl := by decide +kernel
theorem inJ1 : ∀ w ∈ wsJ10, w ∈ lw_tbl := by decide +kernel
theorem inJ2 : ∀ w ∈ wsJ20, w ∈ lw_tbl := by decide +kernel
theorem inJ10 : ∀ w ∈ wsJ100, w ∈ lw_tbl := by decide +kernel
theorem inJ3 : ∀ w ∈ wsJ30, w ∈ lw_tbl := by decide +kernel
end
section
set_option maxRecDepth 20000 in
theorem ggX0_init_X2_holdsCells : GoodIn wsX0_init wsX2_holdsCells := goodIn_r _ [12] (by decide +kernel) (by decide +kernel)
set_option maxRecDepth 20000 in
theorem gX0_init_X2_holdsCells_n9 : GoodIn wsX0_init (wsX2_holdsCells) := ggX0_init_X2_holdsCells
set_option maxRecDepth 20000 in
theorem ggX0_init_X2_isLength : GoodIn wsX0_init wsX2_isLength := goodIn_r _ [14] (by decide +kernel) (by decide +kernel)
set_option maxRecDepth 20000 in
theorem gX0_init_X2_isLength_n13 : GoodIn wsX0_init (wsX2_isLength) := ggX0_init_X2_isLength
set_option maxRecDepth 20000 in
theorem ggX0_init_X2_isFloating : GoodIn wsX0_init wsX2_isFloating := goodIn_r _ [16] (by decide +kernel) (by decide +kernel)
set_option maxRecDepth 20000 in
theorem gX0_init_X2_isFloating_n25 : GoodIn wsX0_init (wsX2_isFloating) := ggX0_init_X2_isFloating
theorem dX0_init_0 : decode cX0_init 0 = .ok (.aload_n 0, 1) := by decide +kernel
theorem dX0_init_1 : decode cX0_init 1 = .ok (.invokespecial 3, 3) := by decide +kernel
theorem dX0_init_4 : decode cX0_init 4 = .ok (.iload_n 1, 1) := by decide +kernel
theorem dX0_init_5 : decode cX0_init 5 = .ok (.invokestatic 9, 3) := by decide +kernel
theorem dX0_init_8 : decode cX0_init 8 = .ok (.ifCond .eq 14, 3) := by decide +kernel
theorem dX0_init_11 : decode cX0_init 11 = .ok (.iload_n 2, 1) := by decide +kernel
theorem dX0_init_12 : decode cX0_init 12 = .ok (.invokestatic 13, 3) := by decide +kernel
theorem dX0_init_15 : decode cX0_init 15 = .ok (.ifCond .eq 7, 3) := by decide +kernel
theorem dX0_init_18 : decode cX0_init 18 = .ok (.iload_n 2, 1) := by decide +kernel
theorem dX0_init_19 : decode cX0_init 19 = .ok (.goto 4, 3) := by decide +kernel
theorem dX0_init_22 : decode cX0_init 22 = .ok (.iconst 0, 1) := by decide +kernel
theorem dX0_init_23 : decode cX0_init 23 = .ok (.istore_n 3, 1) := by decide +kernel
theorem dX0_init_24 : decode cX0_init 24 = .ok (.aload_n 0, 1) := by decide +kernel
theorem dX0_init_25 : decode cX0_init 25 = .ok (.iload_n 1, 1) := by decide +kernel
theorem dX0_init_26 : decode cX0_init 26 = .ok (.putfield 16, 3) := by decide +kernel
theorem dX0_init_29 : decode cX0_init 29 = .ok (.aload_n 0, 1) := by decide +kernel
theorem dX0_init_30 : decode cX0_init 30 = .ok (.iload_n 1, 1) := by decide +kernel
theorem dX0_init_31 : decode cX0_init 31 = .ok (.invokestatic 9, 3) := by decide +kernel
theorem dX0_init_34 : decode cX0_init 34 = .ok (.ifCond .eq 7, 3) := by decide +kernel
theorem dX0_init_37 : decode cX0_init 37 = .ok (.iload_n 3, 1) := by decide +kernel
theorem dX0_init_38 : decode cX0_init 38 = .ok (.goto 4, 3) := by decide +kernel
theorem dX0_init_41 : decode cX0_init 41 = .ok (.iconst (-1), 1) := by decide +kernel
theorem dX0_init_42 : decode cX0_init 42 = .ok (.putfield 22, 3) := by decide +kernel
theorem dX0_init_45 : decode cX0_init 45 = .ok (.aload_n 0, 1) := by decide +kernel
theorem dX0_init_46 : decode cX0_init 46 = .ok (.iload_n 1, 1) := by decide +kernel
theorem dX0_init_47 : decode cX0_init 47 = .ok (.invokestatic 25, 3) := by decide +kernel
theorem dX0_init_50 : decode cX0_init 50 = .ok (.ifCond .eq 7, 3) := by decide +kernel
theorem dX0_init_53 : decode cX0_init 53 = .ok (.iconst 0, 1) := by decide +kernel
theorem dX0_init_54 : decode cX0_init 54 = .ok (.goto 4, 3) := by decide +kernel
theorem dX0_init_57 : decode cX0_init 57 = .ok (.iload_n 3, 1) := by decide +kernel
theorem dX0_init_58 : decode cX0_init 58 = .ok (.newarray .long, 2) := by decide +kernel
theorem dX0_init_60 : decode cX0_init 60 = .ok (.putfield 28, 3) := by decide +kernel
theorem dX0_init_63 : decode cX0_init 63 = .ok (.aload_n 0, 1) := by decide +kernel
theorem dX0_init_64 : decode cX0_init 64 = .ok (.iload_n 1, 1) := by decide +kernel
theorem dX0_init_65 : decode cX0_init 65 = .ok (.invokestatic 25, 3) := by decide +kernel
theorem dX0_init_68 : decode cX0_init 68 = .ok (.ifCond .eq 7, 3) := by decide +kernel
theorem dX0_init_71 : decode cX0_init 71 = .ok (.iload_n 3, 1) := by decide +kernel
theorem dX0_init_72 : decode cX0_init 72 = .ok (.goto 4, 3) := by decide +kernel
theorem dX0_init_75 : decode cX0_init 75 = .ok (.iconst 0, 1) := by decide +kernel
theorem dX0_init_76 : decode cX0_init 76 = .ok (.newarray .double, 2) := by decide +kernel
theorem dX0_init_78 : decode cX0_init 78 = .ok (.putfield 32, 3) := by decide +kernel
theorem dX0_init_81 : decode cX0_init 81 = .ok (.return_, 1) := by decide +kernel
theorem dX0_wholeAt_0 : decode cX0_wholeAt 0 = .ok (.iload_n 1, 1) := by decide +kernel
theorem dX0_wholeAt_1 : decode cX0_wholeAt 1 = .ok (.ifCond .lt 21, 3) := by decide +kernel
theorem dX0_wholeAt_4 : decode cX0_wholeAt 4 = .ok (.iload_n 1, 1) := by decide +kernel
theorem dX0_wholeAt_5 : decode cX0_wholeAt 5 = .ok (.aload_n 0, 1) := by decide +kernel
theorem dX0_wholeAt_6 : decode cX0_wholeAt 6 = .ok (.getfield 28, 3) := by decide +kernel
theorem dX0_wholeAt_9 : decode cX0_wholeAt 9 = .ok (.arraylength, 1) := by decide +kernel
theorem dX0_wholeAt_10 : decode cX0_wholeAt 10 = .ok (.if_icmp .ge 12, 3) := by decide +kernel
theorem dX0_wholeAt_13 : decode cX0_wholeAt 13 = .ok (.aload_n 0, 1) := by decide +kernel
theorem dX0_wholeAt_14 : decode cX0_wholeAt 14 = .ok (.getfield 28, 3) := by decide +kernel
theorem dX0_wholeAt_17 : decode cX0_wholeAt 17 = .ok (.iload_n 1, 1) := by decide +kernel
theorem dX0_wholeAt_18 : decode cX0_wholeAt 18 = .ok (.laload, 1) := by decide +kernel
theorem dX0_wholeAt_19 : decode cX0_wholeAt 19 = .ok (.goto 4, 3) := by decide +kernel
theorem dX0_wholeAt_22 : decode cX0_wholeAt 22 = .ok (.lconst 0, 1) := by decide +kernel
theorem dX0_wholeAt_23 : decode cX0_wholeAt 23 = .ok (.lreturn, 1) := by decide +kernel
theorem dX0_realAt_0 : decode cX0_realAt 0 = .ok (.iload_n 1, 1) := by decide +kernel
theorem dX0_realAt_1 : decode cX0_realAt 1 = .ok (.ifCond .lt 21, 3) := by decide +kernel
theorem dX0_realAt_4 : decode cX0_realAt 4 = .ok (.iload_n 1, 1) := by decide +kernel
theorem dX0_realAt_5 : decode cX0_realAt 5 = .ok (.aload_n 0, 1) := by decide +kernel
theorem dX0_realAt_6 : decode cX0_realAt 6 = .ok (.getfield 32, 3) := by decide +kernel
theorem dX0_realAt_9 : decode cX0_realAt 9 = .ok (.arraylength, 1) := by decide +kernel
theorem dX0_realAt_10 : decode cX0_realAt 10 = .ok (.if_icmp .ge 12, 3) := by decide +kernel
theorem dX0_realAt_13 : decode cX0_realAt 13 = .ok (.aload_n 0, 1) := by decide +kernel
theorem dX0_realAt_14 : decode cX0_realAt 14 = .ok (.getfield 32, 3) := by decide +kernel
theorem dX0_realAt_17 : decode cX0_realAt 17 = .ok (.iload_n 1, 1) := by decide +kernel
theorem dX0_realAt_18 : decode cX0_realAt 18 = .ok (.daload, 1) := by decide +kernel
theorem dX0_realAt_19 : decode cX0_realAt 19 = .ok (.goto 4, 3) := by decide +kernel
theorem dX0_realAt_22 : decode cX0_realAt 22 = .ok (.dconst 0, 1) := by decide +kernel
theorem dX0_realAt_23 : decode cX0_realAt 23 = .ok (.dreturn, 1) := by decide +kernel
set_option maxRecDepth 20000 in
theorem ggX0_doubleAt_X2_isFloating : GoodIn wsX0_doubleAt wsX2_isFloating := goodIn_r _ [4] (by decide +kernel) (by decide +kernel)
set_option maxRecDepth 20000 in
theorem gX0_doubleAt_X2_isFloating_n25 : GoodIn wsX0_doubleAt (wsX2_isFloating) := ggX0_doubleAt_X2_isFloating
set_option maxRecDepth 20000 in
theorem ggX0_doubleAt_X0_realAt : GoodIn wsX0_doubleAt wsX0_realAt := goodIn_r _ [9, 10, 16, 17, 18, 19] (by decide +kernel) (by decide +kernel)
set_option maxRecDepth 20000 in
theorem gX0_doubleAt_X0_realAt : GoodIn wsX0_doubleAt (wsV RX0 36 RX0 yX0_realAt wsX0_realAt) := goodIn_app (goodIn_of _ (by decide +kernel)) ggX0_doubleAt_X0_realAt
set_option maxRecDepth 20000 in
theorem ggX0_doubleAt_X0_wholeAt : GoodIn wsX0_doubleAt wsX0_wholeAt := goodIn_r _ [14, 15, 16, 17, 18, 19] (by decide +kernel) (by decide +kernel)
set_option maxRecDepth 20000 in
theorem gX0_doubleAt_X0_wholeAt : GoodIn wsX0_doubleAt (wsV RX0 40 RX0 yX0_wholeAt wsX0_wholeAt) := goodIn_app (goodIn_of _ (by decide +kernel)) ggX0_doubleAt_X0_wholeAt
theorem dX0_doubleAt_0 : decode cX0_doubleAt 0 = .ok (.aload_n 0, 1) := by decide +kernel
theorem dX0_doubleAt_1 : decode cX0_doubleAt 1 = .ok (.getfield 16, 3) := by decide +kernel
theorem dX0_doubleAt_4 : decode cX0_doubleAt 4 = .ok (.invokestatic 25, 3) := by decide +kernel
theorem dX0_doubleAt_7 : decode cX0_doubleAt 7 = .ok (.ifCond .eq 11, 3) := by decide +kernel
theorem dX0_doubleAt_10 : decode cX0_doubleAt 10 = .ok (.aload_n 0, 1) := by decide +kernel
theorem dX0_doubleAt_11 : decode cX0_doubleAt 11 = .ok (.iload_n 1, 1) := by decide +kernel
theorem dX0_doubleAt_12 : decode cX0_doubleAt 12 = .ok (.invokevirtual 36, 3) := by decide +kernel
theorem dX0_doubleAt_15 : decode cX0_doubleAt 15 = .ok (.goto 9, 3) := by decide +kernel
theorem dX0_doubleAt_18 : decode cX0_doubleAt 18 = .ok (.aload_n 0, 1) := by decide +kernel
theorem dX0_doubleAt_19 : decode cX0_doubleAt 19 = .ok (.iload_n 1, 1) := by decide +kernel
theorem dX0_doubleAt_20 : decode cX0_doubleAt 20 = .ok (.invokevirtual 40, 3) := by decide +kernel
theorem dX0_doubleAt_23 : decode cX0_doubleAt 23 = .ok (.l2d, 1) := by decide +kernel
theorem dX0_doubleAt_24 : decode cX0_doubleAt 24 = .ok (.dreturn, 1) := by decide +kernel
set_option maxRecDepth 20000 in
theorem ggX0_putWhole_X0_putReal : GoodIn wsX0_putWhole wsX0_putReal := goodIn_r _ [7, 8, 9, 10, 11, 12] (by decide +kernel) (by decide +kernel)
set_option maxRecDepth 20000 in
theorem gX0_putWhole_X0_putReal : GoodIn wsX0_putWhole (wsV RX0 48 RX0 yX0_putReal wsX0_putReal) := goodIn_app (goodIn_of _ (by decide +kernel)) ggX0_putWhole_X0_putReal
theorem dX0_putWhole_0 : decode cX0_putWhole 0 = .ok (.aload_n 0, 1) := by decide +kernel
theorem dX0_putWhole_1 : decode cX0_putWhole 1 = .ok (.getfield 16, 3) := by decide +kernel
theorem dX0_putWhole_4 : decode cX0_putWhole 4 = .ok (.bipush 7, 2) := by decide +kernel
theorem dX0_putWhole_6 : decode cX0_putWhole 6 = .ok (.if_icmp .ne 14, 3) := by decide +kernel
theorem dX0_putWhole_9 : decode cX0_putWhole 9 = .ok (.aload_n 0, 1) := by decide +kernel
theorem dX0_putWhole_10 : decode cX0_putWhole 10 = .ok (.iload_n 1, 1) := by decide +kernel
theorem dX0_putWhole_11 : decode cX0_putWhole 11 = .ok (.lload_n 2, 1) := by decide +kernel
theorem dX0_putWhole_12 : decode cX0_putWhole 12 = .ok (.l2f, 1) := by decide +kernel
theorem dX0_putWhole_13 : decode cX0_putWhole 13 = .ok (.f2d, 1) := by decide +kernel
theorem dX0_putWhole_14 : decode cX0_putWhole 14 = .ok (.invokevirtual 48, 3) := by decide +kernel
theorem dX0_putWhole_17 : decode cX0_putWhole 17 = .ok (.goto 42, 3) := by decide +kernel
theorem dX0_putWhole_20 : decode cX0_putWhole 20 = .ok (.aload_n 0, 1) := by decide +kernel
theorem dX0_putWhole_21 : decode cX0_putWhole 21 = .ok (.getfield 16, 3) := by decide +kernel
theorem dX0_putWhole_24 : decode cX0_putWhole 24 = .ok (.bipush 8, 2) := by decide +kernel
theorem dX0_putWhole_26 : decode cX0_putWhole 26 = .ok (.if_icmp .ne 13, 3) := by decide +kernel
theorem dX0_putWhole_29 : decode cX0_putWhole 29 = .ok (.aload_n 0, 1) := by decide +kernel
theorem dX0_putWhole_30 : decode cX0_putWhole 30 = .ok (.iload_n 1, 1) := by decide +kernel
theorem dX0_putWhole_31 : decode cX0_putWhole 31 = .ok (.lload_n 2, 1) := by decide +kernel
theorem dX0_putWhole_32 : decode cX0_putWhole 32 = .ok (.l2d, 1) := by decide +kernel
theorem dX0_putWhole_33 : decode cX0_putWhole 33 = .ok (.invokevirtual 48, 3) := by decide +kernel
theorem dX0_putWhole_36 : decode cX0_putWhole 36 = .ok (.goto 23, 3) := by decide +kernel
theorem dX0_putWhole_39 : decode cX0_putWhole 39 = .ok (.iload_n 1, 1) := by decide +kernel
theorem dX0_putWhole_40 : decode cX0_putWhole 40 = .ok (.ifCond .lt 19, 3) := by decide +kernel
theorem dX0_putWhole_43 : decode cX0_putWhole 43 = .ok (.iload_n 1, 1) := by decide +kernel
theorem dX0_putWhole_44 : decode cX0_putWhole 44 = .ok (.aload_n 0, 1) := by decide +kernel
theorem dX0_putWhole_45 : decode cX0_putWhole 45 = .ok (.getfield 28, 3) := by decide +kernel
theorem dX0_putWhole_48 : decode cX0_putWhole 48 = .ok (.arraylength, 1) := by decide +kernel
theorem dX0_putWhole_49 : decode cX0_putWhole 49 = .ok (.if_icmp .ge 10, 3) := by decide +kernel
theorem dX0_putWhole_52 : decode cX0_putWhole 52 = .ok (.aload_n 0, 1) := by decide +kernel
theorem dX0_putWhole_53 : decode cX0_putWhole 53 = .ok (.getfield 28, 3) := by decide +kernel
theorem dX0_putWhole_56 : decode cX0_putWhole 56 = .ok (.iload_n 1, 1) := by decide +kernel
theorem dX0_putWhole_57 : decode cX0_putWhole 57 = .ok (.lload_n 2, 1) := by decide +kernel
theorem dX0_putWhole_58 : decode cX0_putWhole 58 = .ok (.lastore, 1) := by decide +kernel
theorem dX0_putWhole_59 : decode cX0_putWhole 59 = .ok (.return_, 1) := by decide +kernel
theorem dX0_putReal_0 : decode cX0_putReal 0 = .ok (.iload_n 1, 1) := by decide +kernel
theorem dX0_putReal_1 : decode cX0_putReal 1 = .ok (.ifCond .lt 19, 3) := by decide +kernel
theorem dX0_putReal_4 : decode cX0_putReal 4 = .ok (.iload_n 1, 1) := by decide +kernel
theorem dX0_putReal_5 : decode cX0_putReal 5 = .ok (.aload_n 0, 1) := by decide +kernel
theorem dX0_putReal_6 : decode cX0_putReal 6 = .ok (.getfield 32, 3) := by decide +kernel
theorem dX0_putReal_9 : decode cX0_putReal 9 = .ok (.arraylength, 1) := by decide +kernel
theorem dX0_putReal_10 : decode cX0_putReal 10 = .ok (.if_icmp .ge 10, 3) := by decide +kernel
theorem dX0_putReal_13 : decode cX0_putReal 13 = .ok (.aload_n 0, 1) := by decide +kernel
theorem dX0_putReal_14 : decode cX0_putReal 14 = .ok (.getfield 32, 3) := by decide +kernel
theorem dX0_putReal_17 : decode cX0_putReal 17 = .ok (.iload_n 1, 1) := by decide +kernel
theorem dX0_putReal_18 : decode cX0_putReal 18 = .ok (.dload_n 2, 1) := by decide +kernel
theorem dX0_putReal_19 : decode cX0_putReal 19 = .ok (.dastore, 1) := by decide +kernel
theorem dX0_putReal_20 : decode cX0_putReal 20 = .ok (.return_, 1) := by decide +kernel
set_option maxRecDepth 20000 in
theorem ggX0_takeCells_X2_isPart : GoodIn wsX0_takeCells wsX2_isPart := goodIn_r _ [9] (by decide +kernel) (by decide +kernel)
set_option maxRecDepth 20000 in
theorem gX0_takeCells_X2_isPart_n52 : GoodIn wsX0_takeCells (wsX2_isPart) := ggX0_takeCells_X2_isPart
theorem dX0_takeCells_0 : decode cX0_takeCells 0 = .ok (.iload_n 2, 1) := by decide +kernel
theorem dX0_takeCells_1 : decode cX0_takeCells 1 = .ok (.iload 4, 2) := by decide +kernel
theorem dX0_takeCells_3 : decode cX0_takeCells 3 = .ok (.aload_n 1, 1) := by decide +kernel
theorem dX0_takeCells_4 : decode cX0_takeCells 4 = .ok (.getfield 28, 3) := by decide +kernel
theorem dX0_takeCells_7 : decode cX0_takeCells 7 = .ok (.arraylength, 1) := by decide +kernel
theorem dX0_takeCells_8 : decode cX0_takeCells 8 = .ok (.invokestatic 52, 3) := by decide +kernel
theorem dX0_takeCells_11 : decode cX0_takeCells 11 = .ok (.ifCond .eq 32, 3) := by decide +kernel
theorem dX0_takeCells_14 : decode cX0_takeCells 14 = .ok (.iload_n 3, 1) := by decide +kernel
theorem dX0_takeCells_15 : decode cX0_takeCells 15 = .ok (.iload 4, 2) := by decide +kernel
theorem dX0_takeCells_17 : decode cX0_takeCells 17 = .ok (.aload_n 0, 1) := by decide +kernel
theorem dX0_takeCells_18 : decode cX0_takeCells 18 = .ok (.getfield 28, 3) := by decide +kernel
theorem dX0_takeCells_21 : decode cX0_takeCells 21 = .ok (.arraylength, 1) := by decide +kernel
theorem dX0_takeCells_22 : decode cX0_takeCells 22 = .ok (.invokestatic 52, 3) := by decide +kernel
theorem dX0_takeCells_25 : decode cX0_takeCells 25 = .ok (.ifCond .eq 18, 3) := by decide +kernel
theorem dX0_takeCells_28 : decode cX0_takeCells 28 = .ok (.aload_n 1, 1) := by decide +kernel
theorem dX0_takeCells_29 : decode cX0_takeCells 29 = .ok (.getfield 28, 3) := by decide +kernel
theorem dX0_takeCells_32 : decode cX0_takeCells 32 = .ok (.iload_n 2, 1) := by decide +kernel
theorem dX0_takeCells_33 : decode cX0_takeCells 33 = .ok (.aload_n 0, 1) := by decide +kernel
theorem dX0_takeCells_34 : decode cX0_takeCells 34 = .ok (.getfield 28, 3) := by decide +kernel
theorem dX0_takeCells_37 : decode cX0_takeCells 37 = .ok (.iload_n 3, 1) := by decide +kernel
theorem dX0_takeCells_38 : decode cX0_takeCells 38 = .ok (.iload 4, 2) := by decide +kernel
theorem dX0_takeCells_40 : decode cX0_takeCells 40 = .ok (.invokestatic 56, 3) := by decide +kernel
theorem dX0_takeCells_43 : decode cX0_takeCells 43 = .ok (.iload_n 2, 1) := by decide +kernel
theorem dX0_takeCells_44 : decode cX0_takeCells 44 = .ok (.iload 4, 2) := by decide +kernel
theorem dX0_takeCells_46 : decode cX0_takeCells 46 = .ok (.aload_n 1, 1) := by decide +kernel
theorem dX0_takeCells_47 : decode cX0_takeCells 47 = .ok (.getfield 32, 3) := by decide +kernel
theorem dX0_takeCells_50 : decode cX0_takeCells 50 = .ok (.arraylength, 1) := by decide +kernel
theorem dX0_takeCells_51 : decode cX0_takeCells 51 = .ok (.invokestatic 52, 3) := by decide +kernel
theorem dX0_takeCells_54 : decode cX0_takeCells 54 = .ok (.ifCond .eq 32, 3) := by decide +kernel
theorem dX0_takeCells_57 : decode cX0_takeCells 57 = .ok (.iload_n 3, 1) := by decide +kernel
theorem dX0_takeCells_58 : decode cX0_takeCells 58 = .ok (.iload 4, 2) := by decide +kernel
theorem dX0_takeCells_60 : decode cX0_takeCells 60 = .ok (.aload_n 0, 1) := by decide +kernel
theorem dX0_takeCells_61 : decode cX0_takeCells 61 = .ok (.getfield 32, 3) := by decide +kernel
theorem dX0_takeCells_64 : decode cX0_takeCells 64 = .ok (.arraylength, 1) := by decide +kernel
theorem dX0_takeCells_65 : decode cX0_takeCells 65 = .ok (.invokestatic 52, 3) := by decide +kernel
theorem dX0_takeCells_68 : decode cX0_takeCells 68 = .ok (.ifCond .eq 18, 3) := by decide +kernel
theorem dX0_takeCells_71 : decode cX0_takeCells 71 = .ok (.aload_n 1, 1) := by decide +kernel
theorem dX0_takeCells_72 : decode cX0_takeCells 72 = .ok (.getfield 32, 3) := by decide +kernel
theorem dX0_takeCells_75 : decode cX0_takeCells 75 = .ok (.iload_n 2, 1) := by decide +kernel
theorem dX0_takeCells_76 : decode cX0_takeCells 76 = .ok (.aload_n 0, 1) := by decide +kernel
theorem dX0_takeCells_77 : decode cX0_takeCells 77 = .ok (.getfield 32, 3) := by decide +kernel
theorem dX0_takeCells_80 : decode cX0_takeCells 80 = .ok (.iload_n 3, 1) := by decide +kernel
theorem dX0_takeCells_81 : decode cX0_takeCells 81 = .ok (.iload 4, 2) := by decide +kernel
theorem dX0_takeCells_83 : decode cX0_takeCells 83 = .ok (.invokestatic 56, 3) := by decide +kernel
theorem dX0_takeCells_86 : decode cX0_takeCells 86 = .ok (.return_, 1) := by decide +kernel
set_option maxRecDepth 20000 in
theorem ggX0_takeWidened_X2_isFloating : GoodIn wsX0_takeWidened wsX2_isFloating := goodIn_r _ [5] (by decide +kernel) (by decide +kernel)
set_option maxRecDepth 20000 in
theorem gX0_takeWidened_X2_isFloating_n25 : GoodIn wsX0_takeWidened (wsX2_isFloating) := ggX0_takeWidened_X2_isFloating
set_option maxRecDepth 20000 in
theorem ggX0_takeWidened_X0_realAt : GoodIn wsX0_takeWidened wsX0_realAt := goodIn_r _ [10, 11, 25, 26, 27, 28] (by decide +kernel) (by decide +kernel)
set_option maxRecDepth 20000 in
theorem gX0_takeWidened_X0_realAt : GoodIn wsX0_takeWidened (wsV RX0 36 RX0 yX0_realAt wsX0_realAt) := goodIn_app (goodIn_of _ (by decide +kernel)) ggX0_takeWidened_X0_realAt
set_option maxRecDepth 20000 in
theorem ggX0_takeWidened_X0_putReal : GoodIn wsX0_takeWidened wsX0_putReal := goodIn_r _ [15, 11, 25, 26, 27, 28] (by decide +kernel) (by decide +kernel)
set_option maxRecDepth 20000 in
theorem gX0_takeWidened_X0_putReal : GoodIn wsX0_takeWidened (wsV RX0 48 RX0 yX0_putReal wsX0_putReal) := goodIn_app (goodIn_of _ (by decide +kernel)) ggX0_takeWidened_X0_putReal
set_option maxRecDepth 20000 in
theorem ggX0_takeWidened_X0_wholeAt : GoodIn wsX0_takeWidened wsX0_wholeAt := goodIn_r _ [19, 20, 25, 26, 27, 28] (by decide +kernel) (by decide +kernel)
set_option maxRecDepth 20000 in
theorem gX0_takeWidened_X0_wholeAt : GoodIn wsX0_takeWidened (wsV RX0 40 RX0 yX0_wholeAt wsX0_wholeAt) := goodIn_app (goodIn_of _ (by decide +kernel)) ggX0_takeWidened_X0_wholeAt
set_option maxRecDepth 20000 in
theorem ggX0_takeWidened_X0_putWhole : GoodIn wsX0_takeWidened wsX0_putWhole := goodIn_r _ [24, 2, 20, 12, 13, 14, 9, 15, 11, 25, 26, 27, 28] (by decide +kernel) (by decide +kernel)
set_option maxRecDepth 20000 in
theorem gX0_takeWidened_X0_putWhole : GoodIn wsX0_takeWidened (wsV RX0 62 RX0 yX0_putWhole wsX0_putWhole) := goodIn_app (goodIn_of _ (by decide +kernel)) ggX0_takeWidened_X0_putWhole
theorem dX0_takeWidened_0 : decode cX0_takeWidened 0 = .ok (.iconst 0, 1) := by decide +kernel
theorem dX0_takeWidened_1 : decode cX0_takeWidened 1 = .ok (.istore_n 2, 1) := by decide +kernel
theorem dX0_takeWidened_2 : decode cX0_takeWidened 2 = .ok (.iload_n 2, 1) := by decide +kernel
theorem dX0_takeWidened_3 : decode cX0_takeWidened 3 = .ok (.aload_n 1, 1) := by decide +kernel
theorem dX0_takeWidened_4 : decode cX0_takeWidened 4 = .ok (.getfield 22, 3) := by decide +kernel
theorem dX0_takeWidened_7 : decode cX0_takeWidened 7 = .ok (.if_icmp .ge 42, 3) := by decide +kernel
theorem dX0_takeWidened_10 : decode cX0_takeWidened 10 = .ok (.aload_n 1, 1) := by decide +kernel
theorem dX0_takeWidened_11 : decode cX0_takeWidened 11 = .ok (.getfield 16, 3) := by decide +kernel
theorem dX0_takeWidened_14 : decode cX0_takeWidened 14 = .ok (.invokestatic 25, 3) := by decide +kernel
theorem dX0_takeWidened_17 : decode cX0_takeWidened 17 = .ok (.ifCond .eq 16, 3) := by decide +kernel
theorem dX0_takeWidened_20 : decode cX0_takeWidened 20 = .ok (.aload_n 0, 1) := by decide +kernel
theorem dX0_takeWidened_21 : decode cX0_takeWidened 21 = .ok (.iload_n 2, 1) := by decide +kernel
theorem dX0_takeWidened_22 : decode cX0_takeWidened 22 = .ok (.aload_n 1, 1) := by decide +kernel
theorem dX0_takeWidened_23 : decode cX0_takeWidened 23 = .ok (.iload_n 2, 1) := by decide +kernel
theorem dX0_takeWidened_24 : decode cX0_takeWidened 24 = .ok (.invokevirtual 36, 3) := by decide +kernel
theorem dX0_takeWidened_27 : decode cX0_takeWidened 27 = .ok (.invokevirtual 48, 3) := by decide +kernel
theorem dX0_takeWidened_30 : decode cX0_takeWidened 30 = .ok (.goto 13, 3) := by decide +kernel
theorem dX0_takeWidened_33 : decode cX0_takeWidened 33 = .ok (.aload_n 0, 1) := by decide +kernel
theorem dX0_takeWidened_34 : decode cX0_takeWidened 34 = .ok (.iload_n 2, 1) := by decide +kernel
theorem dX0_takeWidened_35 : decode cX0_takeWidened 35 = .ok (.aload_n 1, 1) := by decide +kernel
theorem dX0_takeWidened_36 : decode cX0_takeWidened 36 = .ok (.iload_n 2, 1) := by decide +kernel
theorem dX0_takeWidened_37 : decode cX0_takeWidened 37 = .ok (.invokevirtual 40, 3) := by decide +kernel
theorem dX0_takeWidened_40 : decode cX0_takeWidened 40 = .ok (.invokevirtual 62, 3) := by decide +kernel
theorem dX0_takeWidened_43 : decode cX0_takeWidened 43 = .ok (.iinc 2 1, 3) := by decide +kernel
theorem dX0_takeWidened_46 : decode cX0_takeWidened 46 = .ok (.goto (-44), 3) := by decide +kernel
theorem dX0_takeWidened_49 : decode cX0_takeWidened 49 = .ok (.return_, 1) := by decide +kernel
set_option maxRecDepth 20000 in
theorem ggX0_sum_X0_doubleAt : GoodIn wsX0_sum wsX0_doubleAt := goodIn_r _ [6, 7, 8, 9, 10, 11, 12, 13, 5, 14, 15, 16, 17, 18, 19, 20, 32, 33, 34, 35] (by decide +kernel) (by decide +kernel)
set_option maxRecDepth 20000 in
theorem gX0_sum_X0_doubleAt : GoodIn wsX0_sum (wsV RX0 66 RX0 yX0_doubleAt wsX0_doubleAt) := goodIn_app (goodIn_of _ (by decide +kernel)) ggX0_sum_X0_doubleAt
set_option maxRecDepth 20000 in
theorem ggX0_sum_X2_sumOf : GoodIn wsX0_sum wsX2_sumOf := goodIn_r _ [22, 23, 24, 9, 25, 26, 27, 28, 29, 30, 31] (by decide +kernel) (by decide +kernel)
set_option maxRecDepth 20000 in
theorem gX0_sum_X2_sumOf_n69 : GoodIn wsX0_sum (wsX2_sumOf) := ggX0_sum_X2_sumOf
theorem dX0_sum_0 : decode cX0_sum 0 = .ok (.dconst 0, 1) := by decide +kernel
theorem dX0_sum_1 : decode cX0_sum 1 = .ok (.dstore_n 1, 1) := by decide +kernel
theorem dX0_sum_2 : decode cX0_sum 2 = .ok (.iconst 0, 1) := by decide +kernel
theorem dX0_sum_3 : decode cX0_sum 3 = .ok (.istore_n 3, 1) := by decide +kernel
theorem dX0_sum_4 : decode cX0_sum 4 = .ok (.iload_n 3, 1) := by decide +kernel
theorem dX0_sum_5 : decode cX0_sum 5 = .ok (.aload_n 0, 1) := by decide +kernel
theorem dX0_sum_6 : decode cX0_sum 6 = .ok (.getfield 22, 3) := by decide +kernel
theorem dX0_sum_9 : decode cX0_sum 9 = .ok (.if_icmp .ge 19, 3) := by decide +kernel
theorem dX0_sum_12 : decode cX0_sum 12 = .ok (.dload_n 1, 1) := by decide +kernel
theorem dX0_sum_13 : decode cX0_sum 13 = .ok (.aload_n 0, 1) := by decide +kernel
theorem dX0_sum_14 : decode cX0_sum 14 = .ok (.iload_n 3, 1) := by decide +kernel
theorem dX0_sum_15 : decode cX0_sum 15 = .ok (.invokevirtual 66, 3) := by decide +kernel
theorem dX0_sum_18 : decode cX0_sum 18 = .ok (.invokestatic 69, 3) := by decide +kernel
theorem dX0_sum_21 : decode cX0_sum 21 = .ok (.dstore_n 1, 1) := by decide +kernel
theorem dX0_sum_22 : decode cX0_sum 22 = .ok (.iinc 3 1, 3) := by decide +kernel
theorem dX0_sum_25 : decode cX0_sum 25 = .ok (.goto (-21), 3) := by decide +kernel
theorem dX0_sum_28 : decode cX0_sum 28 = .ok (.dload_n 1, 1) := by decide +kernel
theorem dX0_sum_29 : decode cX0_sum 29 = .ok (.dreturn, 1) := by decide +kernel
theorem dX1_init_0 : decode cX1_init 0 = .ok (.aload_n 0, 1) := by decide +kernel
theorem dX1_init_1 : decode cX1_init 1 = .ok (.invokespecial 1, 3) := by decide +kernel
theorem dX1_init_4 : decode cX1_init 4 = .ok (.aload_n 0, 1) := by decide +kernel
theorem dX1_init_5 : decode cX1_init 5 = .ok (.bipush 10, 2) := by decide +kernel
theorem dX1_init_7 : decode cX1_init 7 = .ok (.newarray .double, 2) := by decide +kernel
theorem dX1_init_9 : decode cX1_init 9 = .ok (.putfield 9, 3) := by decide +kernel
theorem dX1_init_12 : decode cX1_init 12 = .ok (.ldc2_w 13, 3) := by decide +kernel
theorem dX1_init_15 : decode cX1_init 15 = .ok (.dstore_n 1, 1) := by decide +kernel
theorem dX1_init_16 : decode cX1_init 16 = .ok (.iconst 0, 1) := by decide +kernel
theorem dX1_init_17 : decode cX1_init 17 = .ok (.istore_n 3, 1) := by decide +kernel
theorem dX1_init_18 : decode cX1_init 18 = .ok (.iload_n 3, 1) := by decide +kernel
theorem dX1_init_19 : decode cX1_init 19 = .ok (.aload_n 0, 1) := by decide +kernel
theorem dX1_init_20 : decode cX1_init 20 = .ok (.getfield 9, 3) := by decide +kernel
theorem dX1_init_23 : decode cX1_init 23 = .ok (.arraylength, 1) := by decide +kernel
theorem dX1_init_24 : decode cX1_init 24 = .ok (.if_icmp .ge 20, 3) := by decide +kernel
theorem dX1_init_27 : decode cX1_init 27 = .ok (.aload_n 0, 1) := by decide +kernel
theorem dX1_init_28 : decode cX1_init 28 = .ok (.getfield 9, 3) := by decide +kernel
theorem dX1_init_31 : decode cX1_init 31 = .ok (.iload_n 3, 1) := by decide +kernel
theorem dX1_init_32 : decode cX1_init 32 = .ok (.dload_n 1, 1) := by decide +kernel
theorem dX1_init_33 : decode cX1_init 33 = .ok (.dastore, 1) := by decide +kernel
theorem dX1_init_34 : decode cX1_init 34 = .ok (.dload_n 1, 1) := by decide +kernel
theorem dX1_init_35 : decode cX1_init 35 = .ok (.dload_n 1, 1) := by decide +kernel
theorem dX1_init_36 : decode cX1_init 36 = .ok (.dmul, 1) := by decide +kernel
theorem dX1_init_37 : decode cX1_init 37 = .ok (.dstore_n 1, 1) := by decide +kernel
theorem dX1_init_38 : decode cX1_init 38 = .ok (.iinc 3 1, 3) := by decide +kernel
theorem dX1_init_41 : decode cX1_init 41 = .ok (.goto (-23), 3) := by decide +kernel
theorem dX1_init_44 : decode cX1_init 44 = .ok (.return_, 1) := by decide +kernel
set_option maxRecDepth 20000 in
theorem ggX2_init_X1_init : GoodIn wsX2_init wsX1_init := goodIn_r _ [16, 17, 2, 3, 18, 19, 20, 26] (by decide +kernel) (by decide +kernel)
set_option maxRecDepth 20000 in
theorem gX2_init_X1_init : GoodIn wsX2_init (wsX1_init) := ggX2_init_X1_init
theorem dX2_init_0 : decode cX2_init 0 = .ok (.aload_n 0, 1) := by decide +kernel
theorem dX2_init_1 : decode cX2_init 1 = .ok (.invokespecial 1, 3) := by decide +kernel
theorem dX2_init_4 : decode cX2_init 4 = .ok (.aload_n 0, 1) := by decide +kernel
theorem dX2_init_5 : decode cX2_init 5 = .ok (.bipush 60, 2) := by decide +kernel
theorem dX2_init_7 : decode cX2_init 7 = .ok (.anewarray 9, 3) := by decide +kernel
theorem dX2_init_10 : decode cX2_init 10 = .ok (.putfield 11, 3) := by decide +kernel
theorem dX2_init_13 : decode cX2_init 13 = .ok (.aload_n 0, 1) := by decide +kernel
theorem dX2_init_14 : decode cX2_init 14 = .ok (.bipush 6, 2) := by decide +kernel
theorem dX2_init_16 : decode cX2_init 16 = .ok (.newarray .int, 2) := by decide +kernel
theorem dX2_init_18 : decode cX2_init 18 = .ok (.putfield 15, 3) := by decide +kernel
theorem dX2_init_21 : decode cX2_init 21 = .ok (.aload_n 0, 1) := by decide +kernel
theorem dX2_init_22 : decode cX2_init 22 = .ok (.new 19, 3) := by decide +kernel
theorem dX2_init_25 : decode cX2_init 25 = .ok (.dup, 1) := by decide +kernel
theorem dX2_init_26 : decode cX2_init 26 = .ok (.invokespecial 21, 3) := by decide +kernel
theorem dX2_init_29 : decode cX2_init 29 = .ok (.putfield 22, 3) := by decide +kernel
theorem dX2_init_32 : decode cX2_init 32 = .ok (.aload_n 0, 1) := by decide +kernel
theorem dX2_init_33 : decode cX2_init 33 = .ok (.iconst 0, 1) := by decide +kernel
theorem dX2_init_34 : decode cX2_init 34 = .ok (.putfield 26, 3) := by decide +kernel
theorem dX2_init_37 : decode cX2_init 37 = .ok (.aload_n 0, 1) := by decide +kernel
theorem dX2_init_38 : decode cX2_init 38 = .ok (.iconst 0, 1) := by decide +kernel
theorem dX2_init_39 : decode cX2_init 39 = .ok (.putfield 30, 3) := by decide +kernel
theorem dX2_init_42 : decode cX2_init 42 = .ok (.return_, 1) := by decide +kernel
set_option maxRecDepth 20000 in
theorem ggX2_create_X2_isKind : GoodIn wsX2_create wsX2_isKind := goodIn_r _ [9] (by decide +kernel) (by decide +kernel)
set_option maxRecDepth 20000 in
theorem gX2_create_X2_isKind : GoodIn wsX2_create (va_wsS RX2 33 yX2_isKind wsX2_isKind) := goodIn_app (goodIn_of _ (by decide +kernel)) ggX2_create_X2_isKind
set_option maxRecDepth 20000 in
theorem ggX2_create_X2_holdsCells : GoodIn wsX2_create wsX2_holdsCells := goodIn_r _ [12] (by decide +kernel) (by decide +kernel)
set_option maxRecDepth 20000 in
theorem gX2_create_X2_holdsCells : GoodIn wsX2_create (va_wsS RX2 44 yX2_holdsCells wsX2_holdsCells) := goodIn_app (goodIn_of _ (by decide +kernel)) ggX2_create_X2_holdsCells
set_option maxRecDepth 20000 in
theorem ggX2_create_X2_isLength : GoodIn wsX2_create wsX2_isLength := goodIn_r _ [15] (by decide +kernel) (by decide +kernel)
set_option maxRecDepth 20000 in
theorem gX2_create_X2_isLength : GoodIn wsX2_create (va_wsS RX2 47 yX2_isLength wsX2_isLength) := goodIn_app (goodIn_of _ (by decide +kernel)) ggX2_create_X2_isLength
set_option maxRecDepth 20000 in
theorem ggX2_create_X2_refuseWhenFull : GoodIn wsX2_create wsX2_refuseWhenFull := goodIn_ca (goodIn_r _ [19, 20, 21, 22, 23, 46, 47, 48, 49, 50] (by decide +kernel) (by decide +kernel)) (goodIn_sub (fun _ h => List.mem_cons_of_mem _ (List.mem_append_right _ h)) (by decide +kernel))
set_option maxRecDepth 20000 in
theorem gX2_create_X2_refuseWhenFull : GoodIn wsX2_create (wsV RX2 52 RX2 yX2_refuseWhenFull wsX2_refuseWhenFull) := goodIn_app (goodIn_of _ (by decide +kernel)) ggX2_create_X2_refuseWhenFull
set_option maxRecDepth 20000 in
theorem ggX2_create_X0_init : GoodIn wsX2_create wsX0_init := goodIn_r _ [26, 27, 28, 29, 30, 31, 32, 33, 34, 35, 11, 8, 12, 14, 15, 36, 37, 42, 43, 44, 45] (by decide +kernel) (by decide +kernel)
set_option maxRecDepth 20000 in
theorem gX2_create_X0_init : GoodIn wsX2_create (wsX0_init) := ggX2_create_X0_init
set_option maxRecDepth 20000 in
theorem ggX2_create_X2_addColumn : GoodIn wsX2_create wsX2_addColumn := goodIn_r _ [41, 22, 23, 46, 47, 48, 49, 50] (by decide +kernel) (by decide +kernel)
set_option maxRecDepth 20000 in
theorem gX2_create_X2_addColumn : GoodIn wsX2_create (wsV RX2 58 RX2 yX2_addColumn wsX2_addColumn) := goodIn_app (goodIn_of _ (by decide +kernel)) ggX2_create_X2_addColumn
theorem dX2_create_0 : decode cX2_create 0 = .ok (.iload_n 1, 1) := by decide +kernel
theorem dX2_create_1 : decode cX2_create 1 = .ok (.invokestatic 33, 3) := by decide +kernel
theorem dX2_create_4 : decode cX2_create 4 = .ok (.ifCond .ne 13, 3) := by decide +kernel
theorem dX2_create_7 : decode cX2_create 7 = .ok (.new 37, 3) := by decide +kernel
theorem dX2_create_10 : decode cX2_create 10 = .ok (.dup, 1) := by decide +kernel
theorem dX2_create_11 : decode cX2_create 11 = .ok (.ldc 39, 2) := by decide +kernel
theorem dX2_create_13 : decode cX2_create 13 = .ok (.invokespecial 41, 3) := by decide +kernel
theorem dX2_create_16 : decode cX2_create 16 = .ok (.athrow, 1) := by decide +kernel
theorem dX2_create_17 : decode cX2_create 17 = .ok (.iload_n 1, 1) := by decide +kernel
theorem dX2_create_18 : decode cX2_create 18 = .ok (.invokestatic 44, 3) := by decide +kernel
theorem dX2_create_21 : decode cX2_create 21 = .ok (.ifCond .eq 20, 3) := by decide +kernel
theorem dX2_create_24 : decode cX2_create 24 = .ok (.iload_n 2, 1) := by decide +kernel
theorem dX2_create_25 : decode cX2_create 25 = .ok (.invokestatic 47, 3) := by decide +kernel
theorem dX2_create_28 : decode cX2_create 28 = .ok (.ifCond .ne 13, 3) := by decide +kernel
theorem dX2_create_31 : decode cX2_create 31 = .ok (.new 37, 3) := by decide +kernel
theorem dX2_create_34 : decode cX2_create 34 = .ok (.dup, 1) := by decide +kernel
theorem dX2_create_35 : decode cX2_create 35 = .ok (.ldc 50, 2) := by decide +kernel
theorem dX2_create_37 : decode cX2_create 37 = .ok (.invokespecial 41, 3) := by decide +kernel
theorem dX2_create_40 : decode cX2_create 40 = .ok (.athrow, 1) := by decide +kernel
theorem dX2_create_41 : decode cX2_create 41 = .ok (.aload_n 0, 1) := by decide +kernel
theorem dX2_create_42 : decode cX2_create 42 = .ok (.invokevirtual 52, 3) := by decide +kernel
theorem dX2_create_45 : decode cX2_create 45 = .ok (.aload_n 0, 1) := by decide +kernel
theorem dX2_create_46 : decode cX2_create 46 = .ok (.new 9, 3) := by decide +kernel
theorem dX2_create_49 : decode cX2_create 49 = .ok (.dup, 1) := by decide +kernel
theorem dX2_create_50 : decode cX2_create 50 = .ok (.iload_n 1, 1) := by decide +kernel
theorem dX2_create_51 : decode cX2_create 51 = .ok (.iload_n 2, 1) := by decide +kernel
theorem dX2_create_52 : decode cX2_create 52 = .ok (.invokespecial 55, 3) := by decide +kernel
theorem dX2_create_55 : decode cX2_create 55 = .ok (.invokevirtual 58, 3) := by decide +kernel
theorem dX2_create_58 : decode cX2_create 58 = .ok (.ireturn, 1) := by decide +kernel
theorem dX2_columnCount_0 : decode cX2_columnCount 0 = .ok (.aload_n 0, 1) := by decide +kernel
theorem dX2_columnCount_1 : decode cX2_columnCount 1 = .ok (.getfield 26, 3) := by decide +kernel
theorem dX2_columnCount_4 : decode cX2_columnCount 4 = .ok (.ireturn, 1) := by decide +kernel
set_option maxRecDepth 20000 in
theorem ggX2_readAny_X2_columnAt : GoodIn wsX2_readAny wsX2_columnAt := goodIn_ca (goodIn_r _ [6, 7, 8, 9, 55, 56, 57, 58, 59] (by decide +kernel) (by decide +kernel)) (goodIn_sub (fun _ h => List.mem_cons_of_mem _ (List.mem_append_right _ h)) (by decide +kernel))
set_option maxRecDepth 20000 in
theorem gX2_readAny_X2_columnAt : GoodIn wsX2_readAny (wsV RX2 62 RX2 yX2_columnAt wsX2_columnAt) := goodIn_app (goodIn_of _ (by decide +kernel)) ggX2_readAny_X2_columnAt
set_option maxRecDepth 20000 in
theorem ggX2_readAny_X2_readReal : GoodIn wsX2_readAny wsX2_readReal := goodIn_r _ [13, 1, 14, 15, 5, 16, 17, 18, 19, 20, 21, 22, 23, 24, 25, 26, 27, 28, 29, 30, 31, 32, 33, 34, 35, 36, 37, 38, 39, 40, 41, 42, 43, 44, 45, 46, 47, 48, 49, 50, 51, 52, 53, 54, 55, 56, 57, 58, 59] (by decide +kernel) (by decide +kernel)
set_option maxRecDepth 20000 in
theorem gX2_readAny_X2_readReal : GoodIn wsX2_readAny (wsV RX2 91 RX2 yX2_readReal wsX2_readReal) := goodIn_app (goodIn_of _ (by decide +kernel)) ggX2_readAny_X2_readReal
theorem dX2_readAny_0 : decode cX2_readAny 0 = .ok (.aload_n 0, 1) := by decide +kernel
theorem dX2_readAny_1 : decode cX2_readAny 1 = .ok (.iload_n 1, 1) := by decide +kernel
theorem dX2_readAny_2 : decode cX2_readAny 2 = .ok (.invokevirtual 62, 3) := by decide +kernel
theorem dX2_readAny_5 : decode cX2_readAny 5 = .ok (.astore_n 3, 1) := by decide +kernel
theorem dX2_readAny_6 : decode cX2_readAny 6 = .ok (.aload_n 0, 1) := by decide +kernel
theorem dX2_readAny_7 : decode cX2_readAny 7 = .ok (.aload_n 3, 1) := by decide +kernel
theorem dX2_readAny_8 : decode cX2_readAny 8 = .ok (.iload_n 2, 1) := by decide +kernel
theorem dX2_readAny_9 : decode cX2_readAny 9 = .ok (.aload_n 3, 1) := by decide +kernel
theorem dX2_readAny_10 : decode cX2_readAny 10 = .ok (.getfield 66, 3) := by decide +kernel
theorem dX2_readAny_13 : decode cX2_readAny 13 = .ok (.invokevirtual 91, 3) := by decide +kernel
theorem dX2_readAny_16 : decode cX2_readAny 16 = .ok (.dreturn, 1) := by decide +kernel
set_option maxRecDepth 20000 in
theorem ggX2_writeAny_X2_columnAt : GoodIn wsX2_writeAny wsX2_columnAt := goodIn_ca (goodIn_r _ [5, 6, 7, 8, 58, 59, 60, 61, 62] (by decide +kernel) (by decide +kernel)) (goodIn_sub (fun _ h => List.mem_cons_of_mem _ (List.mem_append_left _ (List.mem_append_right _ h))) (by decide +kernel))
set_option maxRecDepth 20000 in
theorem gX2_writeAny_X2_columnAt : GoodIn wsX2_writeAny (wsV RX2 62 RX2 yX2_columnAt wsX2_columnAt) := goodIn_app (goodIn_of _ (by decide +kernel)) ggX2_writeAny_X2_columnAt
set_option maxRecDepth 20000 in
theorem ggX2_writeAny_X2_refuseWithoutCells : GoodIn wsX2_writeAny wsX2_refuseWithoutCells := goodIn_ca (goodIn_r _ [11, 12, 13, 14, 15, 4, 16] (by decide +kernel) (by decide +kernel)) (goodIn_sub (fun _ h => List.mem_cons_of_mem _ (List.mem_append_right _ h)) (by decide +kernel))
set_option maxRecDepth 20000 in
theorem gX2_writeAny_X2_refuseWithoutCells : GoodIn wsX2_writeAny (va_wsS RX2 107 yX2_refuseWithoutCells wsX2_refuseWithoutCells) := goodIn_app (goodIn_of _ (by decide +kernel)) ggX2_writeAny_X2_refuseWithoutCells
set_option maxRecDepth 20000 in
theorem ggX2_writeAny_X2_writeReal : GoodIn wsX2_writeAny wsX2_writeReal := goodIn_r _ [20, 21, 22, 23, 4, 24, 25, 26, 27, 28, 29, 30, 31, 14, 15, 16, 32, 33, 34, 35, 36, 37, 38, 39, 40, 41, 42, 43, 63, 64, 65, 66, 58, 59, 60, 61, 62] (by decide +kernel) (by decide +kernel)
set_option maxRecDepth 20000 in
theorem gX2_writeAny_X2_writeReal : GoodIn wsX2_writeAny (wsV RX2 103 RX2 yX2_writeReal wsX2_writeReal) := goodIn_app (goodIn_of _ (by decide +kernel)) ggX2_writeAny_X2_writeReal
set_option maxRecDepth 20000 in
theorem ggX2_writeAny_X2_wholeMadeFrom : GoodIn wsX2_writeAny wsX2_wholeMadeFrom := goodIn_r _ [46] (by decide +kernel) (by decide +kernel)
set_option maxRecDepth 20000 in
theorem gX2_writeAny_X2_wholeMadeFrom : GoodIn wsX2_writeAny (va_wsS RX2 111 yX2_wholeMadeFrom wsX2_wholeMadeFrom) := goodIn_app (goodIn_of _ (by decide +kernel)) ggX2_writeAny_X2_wholeMadeFrom
set_option maxRecDepth 20000 in
theorem ggX2_writeAny_X2_writeWhole : GoodIn wsX2_writeAny wsX2_writeWhole := goodIn_r _ [50, 21, 22, 23, 4, 24, 25, 26, 27, 28, 29, 30, 31, 14, 15, 16, 32, 33, 34, 35, 36, 37, 51, 52, 53, 41, 54, 55, 56, 57, 39, 40, 42, 43, 63, 64, 65, 66, 58, 59, 60, 61, 62] (by decide +kernel) (by decide +kernel)
set_option maxRecDepth 20000 in
theorem gX2_writeAny_X2_writeWhole : GoodIn wsX2_writeAny (wsV RX2 95 RX2 yX2_writeWhole wsX2_writeWhole) := goodIn_app (goodIn_of _ (by decide +kernel)) ggX2_writeAny_X2_writeWhole
theorem dX2_writeAny_0 : decode cX2_writeAny 0 = .ok (.aload_n 0, 1) := by decide +kernel
theorem dX2_writeAny_1 : decode cX2_writeAny 1 = .ok (.iload_n 1, 1) := by decide +kernel
theorem dX2_writeAny_2 : decode cX2_writeAny 2 = .ok (.invokevirtual 62, 3) := by decide +kernel
theorem dX2_writeAny_5 : decode cX2_writeAny 5 = .ok (.astore 5, 2) := by decide +kernel
theorem dX2_writeAny_7 : decode cX2_writeAny 7 = .ok (.iload_n 3, 1) := by decide +kernel
theorem dX2_writeAny_8 : decode cX2_writeAny 8 = .ok (.invokestatic 107, 3) := by decide +kernel
theorem dX2_writeAny_11 : decode cX2_writeAny 11 = .ok (.iload_n 3, 1) := by decide +kernel
theorem dX2_writeAny_12 : decode cX2_writeAny 12 = .ok (.bipush 7, 2) := by decide +kernel
theorem dX2_writeAny_14 : decode cX2_writeAny 14 = .ok (.if_icmp .ne 16, 3) := by decide +kernel
theorem dX2_writeAny_17 : decode cX2_writeAny 17 = .ok (.aload_n 0, 1) := by decide +kernel
theorem dX2_writeAny_18 : decode cX2_writeAny 18 = .ok (.aload 5, 2) := by decide +kernel
theorem dX2_writeAny_20 : decode cX2_writeAny 20 = .ok (.iload_n 2, 1) := by decide +kernel
theorem dX2_writeAny_21 : decode cX2_writeAny 21 = .ok (.iload_n 3, 1) := by decide +kernel
theorem dX2_writeAny_22 : decode cX2_writeAny 22 = .ok (.iload 4, 2) := by decide +kernel
theorem dX2_writeAny_24 : decode cX2_writeAny 24 = .ok (.i2f, 1) := by decide +kernel
theorem dX2_writeAny_25 : decode cX2_writeAny 25 = .ok (.f2d, 1) := by decide +kernel
theorem dX2_writeAny_26 : decode cX2_writeAny 26 = .ok (.invokevirtual 103, 3) := by decide +kernel
theorem dX2_writeAny_29 : decode cX2_writeAny 29 = .ok (.ireturn, 1) := by decide +kernel
theorem dX2_writeAny_30 : decode cX2_writeAny 30 = .ok (.iload_n 3, 1) := by decide +kernel
theorem dX2_writeAny_31 : decode cX2_writeAny 31 = .ok (.bipush 8, 2) := by decide +kernel
theorem dX2_writeAny_33 : decode cX2_writeAny 33 = .ok (.if_icmp .ne 15, 3) := by decide +kernel
theorem dX2_writeAny_36 : decode cX2_writeAny 36 = .ok (.aload_n 0, 1) := by decide +kernel
theorem dX2_writeAny_37 : decode cX2_writeAny 37 = .ok (.aload 5, 2) := by decide +kernel
theorem dX2_writeAny_39 : decode cX2_writeAny 39 = .ok (.iload_n 2, 1) := by decide +kernel
theorem dX2_writeAny_40 : decode cX2_writeAny 40 = .ok (.iload_n 3, 1) := by decide +kernel
theorem dX2_writeAny_41 : decode cX2_writeAny 41 = .ok (.iload 4, 2) := by decide +kernel
theorem dX2_writeAny_43 : decode cX2_writeAny 43 = .ok (.i2d, 1) := by decide +kernel
theorem dX2_writeAny_44 : decode cX2_writeAny 44 = .ok (.invokevirtual 103, 3) := by decide +kernel
theorem dX2_writeAny_47 : decode cX2_writeAny 47 = .ok (.ireturn, 1) := by decide +kernel
theorem dX2_writeAny_48 : decode cX2_writeAny 48 = .ok (.aload_n 0, 1) := by decide +kernel
theorem dX2_writeAny_49 : decode cX2_writeAny 49 = .ok (.aload 5, 2) := by decide +kernel
theorem dX2_writeAny_51 : decode cX2_writeAny 51 = .ok (.iload_n 2, 1) := by decide +kernel
theorem dX2_writeAny_52 : decode cX2_writeAny 52 = .ok (.iload_n 3, 1) := by decide +kernel
theorem dX2_writeAny_53 : decode cX2_writeAny 53 = .ok (.iload 4, 2) := by decide +kernel
theorem dX2_writeAny_55 : decode cX2_writeAny 55 = .ok (.iload_n 3, 1) := by decide +kernel
theorem dX2_writeAny_56 : decode cX2_writeAny 56 = .ok (.invokestatic 111, 3) := by decide +kernel
theorem dX2_writeAny_59 : decode cX2_writeAny 59 = .ok (.invokevirtual 95, 3) := by decide +kernel
theorem dX2_writeAny_62 : decode cX2_writeAny 62 = .ok (.ireturn, 1) := by decide +kernel
set_option maxRecDepth 20000 in
theorem ggX2_copy_X2_columnAt : GoodIn wsX2_copy wsX2_columnAt := goodIn_ca (goodIn_r _ [6, 7, 8, 9, 38, 39, 40, 41, 42] (by decide +kernel) (by decide +kernel)) (goodIn_sub (fun _ h => List.mem_cons_of_mem _ (List.mem_append_right _ h)) (by decide +kernel))
set_option maxRecDepth 20000 in
theorem gX2_copy_X2_columnAt : GoodIn wsX2_copy (wsV RX2 62 RX2 yX2_columnAt wsX2_columnAt) := goodIn_app (goodIn_of _ (by decide +kernel)) ggX2_copy_X2_columnAt
set_option maxRecDepth 20000 in
theorem ggX2_copy_X2_codeOfKinds : GoodIn wsX2_copy wsX2_codeOfKinds := goodIn_r _ [12, 13, 34, 35, 36, 37] (by decide +kernel) (by decide +kernel)
set_option maxRecDepth 20000 in
theorem gX2_copy_X2_codeOfKinds : GoodIn wsX2_copy (va_wsS RX2 115 yX2_codeOfKinds wsX2_codeOfKinds) := goodIn_app (goodIn_of _ (by decide +kernel)) ggX2_copy_X2_codeOfKinds
set_option maxRecDepth 20000 in
theorem ggX2_copy_X2_isPart : GoodIn wsX2_copy wsX2_isPart := goodIn_r _ [16] (by decide +kernel) (by decide +kernel)
set_option maxRecDepth 20000 in
theorem gX2_copy_X2_isPart : GoodIn wsX2_copy (va_wsS RX2 119 yX2_isPart wsX2_isPart) := goodIn_app (goodIn_of _ (by decide +kernel)) ggX2_copy_X2_isPart
set_option maxRecDepth 20000 in
theorem ggX2_copy_X0_takeCells : GoodIn wsX2_copy wsX0_takeCells := goodIn_r _ [21, 22, 23, 24, 25, 26, 27, 15, 5, 16, 34, 35, 36, 37] (by decide +kernel) (by decide +kernel)
set_option maxRecDepth 20000 in
theorem gX2_copy_X0_takeCells : GoodIn wsX2_copy (wsV RX2 123 RX0 yX0_takeCells wsX0_takeCells) := goodIn_app (goodIn_of _ (by decide +kernel)) ggX2_copy_X0_takeCells
set_option maxRecDepth 20000 in
theorem ggX2_copy_X2_note : GoodIn wsX2_copy wsX2_note := goodIn_r _ [31, 32, 33, 38, 39, 40, 41, 42] (by decide +kernel) (by decide +kernel)
set_option maxRecDepth 20000 in
theorem gX2_copy_X2_note : GoodIn wsX2_copy (wsV RX2 72 RX2 yX2_note wsX2_note) := goodIn_app (goodIn_of _ (by decide +kernel)) ggX2_copy_X2_note
theorem dX2_copy_0 : decode cX2_copy 0 = .ok (.aload_n 0, 1) := by decide +kernel
theorem dX2_copy_1 : decode cX2_copy 1 = .ok (.iload_n 1, 1) := by decide +kernel
theorem dX2_copy_2 : decode cX2_copy 2 = .ok (.invokevirtual 62, 3) := by decide +kernel
theorem dX2_copy_5 : decode cX2_copy 5 = .ok (.astore 6, 2) := by decide +kernel
theorem dX2_copy_7 : decode cX2_copy 7 = .ok (.aload_n 0, 1) := by decide +kernel
theorem dX2_copy_8 : decode cX2_copy 8 = .ok (.iload_n 3, 1) := by decide +kernel
theorem dX2_copy_9 : decode cX2_copy 9 = .ok (.invokevirtual 62, 3) := by decide +kernel
theorem dX2_copy_12 : decode cX2_copy 12 = .ok (.astore 7, 2) := by decide +kernel
theorem dX2_copy_14 : decode cX2_copy 14 = .ok (.aload 6, 2) := by decide +kernel
theorem dX2_copy_16 : decode cX2_copy 16 = .ok (.aload 7, 2) := by decide +kernel
theorem dX2_copy_18 : decode cX2_copy 18 = .ok (.invokestatic 115, 3) := by decide +kernel
theorem dX2_copy_21 : decode cX2_copy 21 = .ok (.istore 8, 2) := by decide +kernel
theorem dX2_copy_23 : decode cX2_copy 23 = .ok (.iload 8, 2) := by decide +kernel
theorem dX2_copy_25 : decode cX2_copy 25 = .ok (.ifCond .ne 35, 3) := by decide +kernel
theorem dX2_copy_28 : decode cX2_copy 28 = .ok (.iload_n 2, 1) := by decide +kernel
theorem dX2_copy_29 : decode cX2_copy 29 = .ok (.iload 5, 2) := by decide +kernel
theorem dX2_copy_31 : decode cX2_copy 31 = .ok (.aload 6, 2) := by decide +kernel
theorem dX2_copy_33 : decode cX2_copy 33 = .ok (.getfield 76, 3) := by decide +kernel
theorem dX2_copy_36 : decode cX2_copy 36 = .ok (.invokestatic 119, 3) := by decide +kernel
theorem dX2_copy_39 : decode cX2_copy 39 = .ok (.ifCond .eq 18, 3) := by decide +kernel
theorem dX2_copy_42 : decode cX2_copy 42 = .ok (.iload 4, 2) := by decide +kernel
theorem dX2_copy_44 : decode cX2_copy 44 = .ok (.iload 5, 2) := by decide +kernel
theorem dX2_copy_46 : decode cX2_copy 46 = .ok (.aload 7, 2) := by decide +kernel
theorem dX2_copy_48 : decode cX2_copy 48 = .ok (.getfield 76, 3) := by decide +kernel
theorem dX2_copy_51 : decode cX2_copy 51 = .ok (.invokestatic 119, 3) := by decide +kernel
theorem dX2_copy_54 : decode cX2_copy 54 = .ok (.ifCond .ne 6, 3) := by decide +kernel
theorem dX2_copy_57 : decode cX2_copy 57 = .ok (.iconst 3, 1) := by decide +kernel
theorem dX2_copy_58 : decode cX2_copy 58 = .ok (.istore 8, 2) := by decide +kernel
theorem dX2_copy_60 : decode cX2_copy 60 = .ok (.iload 8, 2) := by decide +kernel
theorem dX2_copy_62 : decode cX2_copy 62 = .ok (.ifCond .ne 15, 3) := by decide +kernel
theorem dX2_copy_65 : decode cX2_copy 65 = .ok (.aload 7, 2) := by decide +kernel
theorem dX2_copy_67 : decode cX2_copy 67 = .ok (.aload 6, 2) := by decide +kernel
theorem dX2_copy_69 : decode cX2_copy 69 = .ok (.iload_n 2, 1) := by decide +kernel
theorem dX2_copy_70 : decode cX2_copy 70 = .ok (.iload 4, 2) := by decide +kernel
theorem dX2_copy_72 : decode cX2_copy 72 = .ok (.iload 5, 2) := by decide +kernel
theorem dX2_copy_74 : decode cX2_copy 74 = .ok (.invokevirtual 123, 3) := by decide +kernel
theorem dX2_copy_77 : decode cX2_copy 77 = .ok (.aload_n 0, 1) := by decide +kernel
theorem dX2_copy_78 : decode cX2_copy 78 = .ok (.iload 8, 2) := by decide +kernel
theorem dX2_copy_80 : decode cX2_copy 80 = .ok (.invokevirtual 72, 3) := by decide +kernel
theorem dX2_copy_83 : decode cX2_copy 83 = .ok (.ireturn, 1) := by decide +kernel
set_option maxRecDepth 20000 in
theorem ggX2_total_X2_columnAt : GoodIn wsX2_total wsX2_columnAt := goodIn_ca (goodIn_r _ [5, 6, 7, 8, 53, 54, 55, 56, 57] (by decide +kernel) (by decide +kernel)) (goodIn_sub (fun _ h => List.mem_cons_of_mem _ (List.mem_append_right _ h)) (by decide +kernel))
set_option maxRecDepth 20000 in
theorem gX2_total_X2_columnAt : GoodIn wsX2_total (wsV RX2 62 RX2 yX2_columnAt wsX2_columnAt) := goodIn_app (goodIn_of _ (by decide +kernel)) ggX2_total_X2_columnAt
set_option maxRecDepth 20000 in
theorem ggX2_total_X2_codeOfColumn : GoodIn wsX2_total wsX2_codeOfColumn := goodIn_r _ [11, 12, 58, 59, 60, 61] (by decide +kernel) (by decide +kernel)
set_option maxRecDepth 20000 in
theorem gX2_total_X2_codeOfColumn : GoodIn wsX2_total (va_wsS RX2 69 yX2_codeOfColumn wsX2_codeOfColumn) := goodIn_app (goodIn_of _ (by decide +kernel)) ggX2_total_X2_codeOfColumn
set_option maxRecDepth 20000 in
theorem ggX2_total_X2_note : GoodIn wsX2_total wsX2_note := goodIn_r _ [16, 17, 18, 53, 54, 55, 56, 57] (by decide +kernel) (by decide +kernel)
set_option maxRecDepth 20000 in
theorem gX2_total_X2_note : GoodIn wsX2_total (wsV RX2 72 RX2 yX2_note wsX2_note) := goodIn_app (goodIn_of _ (by decide +kernel)) ggX2_total_X2_note
set_option maxRecDepth 20000 in
theorem ggX2_total_X0_sum : GoodIn wsX2_total wsX0_sum := goodIn_r _ [23, 24, 25, 26, 27, 22, 28, 29, 30, 4, 31, 32, 33, 34, 35, 36, 37, 38, 39, 40, 41, 42, 43, 44, 45, 46, 47, 48, 49, 50, 51, 52, 58, 59, 60, 61] (by decide +kernel) (by decide +kernel)
set_option maxRecDepth 20000 in
theorem gX2_total_X0_sum : GoodIn wsX2_total (wsV RX2 127 RX0 yX0_sum wsX0_sum) := goodIn_app (goodIn_of _ (by decide +kernel)) ggX2_total_X0_sum
theorem dX2_total_0 : decode cX2_total 0 = .ok (.aload_n 0, 1) := by decide +kernel
theorem dX2_total_1 : decode cX2_total 1 = .ok (.iload_n 1, 1) := by decide +kernel
theorem dX2_total_2 : decode cX2_total 2 = .ok (.invokevirtual 62, 3) := by decide +kernel
theorem dX2_total_5 : decode cX2_total 5 = .ok (.astore_n 2, 1) := by decide +kernel
theorem dX2_total_6 : decode cX2_total 6 = .ok (.aload_n 0, 1) := by decide +kernel
theorem dX2_total_7 : decode cX2_total 7 = .ok (.aload_n 2, 1) := by decide +kernel
theorem dX2_total_8 : decode cX2_total 8 = .ok (.invokestatic 69, 3) := by decide +kernel
theorem dX2_total_11 : decode cX2_total 11 = .ok (.invokevirtual 72, 3) := by decide +kernel
theorem dX2_total_14 : decode cX2_total 14 = .ok (.istore_n 3, 1) := by decide +kernel
theorem dX2_total_15 : decode cX2_total 15 = .ok (.iload_n 3, 1) := by decide +kernel
theorem dX2_total_16 : decode cX2_total 16 = .ok (.ifCond .ne 10, 3) := by decide +kernel
theorem dX2_total_19 : decode cX2_total 19 = .ok (.aload_n 2, 1) := by decide +kernel
theorem dX2_total_20 : decode cX2_total 20 = .ok (.invokevirtual 127, 3) := by decide +kernel
theorem dX2_total_23 : decode cX2_total 23 = .ok (.goto 4, 3) := by decide +kernel
theorem dX2_total_26 : decode cX2_total 26 = .ok (.dconst 0, 1) := by decide +kernel
theorem dX2_total_27 : decode cX2_total 27 = .ok (.dreturn, 1) := by decide +kernel
set_option maxRecDepth 20000 in
theorem ggX2_widened_X2_columnAt : GoodIn wsX2_widened wsX2_columnAt := goodIn_ca (goodIn_r _ [10, 11, 12, 13, 85, 86, 87, 88, 89] (by decide +kernel) (by decide +kernel)) (goodIn_sub (fun _ h => List.mem_cons_of_mem _ (List.mem_append_left _ (List.mem_append_left _ (List.mem_append_right _ h)))) (by decide +kernel))
set_option maxRecDepth 20000 in
theorem gX2_widened_X2_columnAt : GoodIn wsX2_widened (wsV RX2 62 RX2 yX2_columnAt wsX2_columnAt) := goodIn_app (goodIn_of _ (by decide +kernel)) ggX2_widened_X2_columnAt
set_option maxRecDepth 20000 in
theorem ggX2_widened_X2_refuseWithoutCells : GoodIn wsX2_widened wsX2_refuseWithoutCells := goodIn_ca (goodIn_r _ [16, 17, 18, 19, 20, 9, 21] (by decide +kernel) (by decide +kernel)) (goodIn_sub (fun _ h => List.mem_cons_of_mem _ (List.mem_append_left _ (List.mem_append_right _ h))) (by decide +kernel))
set_option maxRecDepth 20000 in
theorem gX2_widened_X2_refuseWithoutCells : GoodIn wsX2_widened (va_wsS RX2 107 yX2_refuseWithoutCells wsX2_refuseWithoutCells) := goodIn_app (goodIn_of _ (by decide +kernel)) ggX2_widened_X2_refuseWithoutCells
set_option maxRecDepth 20000 in
theorem ggX2_widened_X2_refuseWhenFull : GoodIn wsX2_widened wsX2_refuseWhenFull := goodIn_ca (goodIn_r _ [25, 26, 27, 28, 13, 85, 86, 87, 88, 89] (by decide +kernel) (by decide +kernel)) (goodIn_sub (fun _ h => List.mem_cons_of_mem _ (List.mem_append_right _ h)) (by decide +kernel))
set_option maxRecDepth 20000 in
theorem gX2_widened_X2_refuseWhenFull : GoodIn wsX2_widened (wsV RX2 52 RX2 yX2_refuseWhenFull wsX2_refuseWhenFull) := goodIn_app (goodIn_of _ (by decide +kernel)) ggX2_widened_X2_refuseWhenFull
set_option maxRecDepth 20000 in
theorem ggX2_widened_X2_codeOfColumn : GoodIn wsX2_widened wsX2_codeOfColumn := goodIn_r _ [31, 1, 81, 82, 83, 84] (by decide +kernel) (by decide +kernel)
set_option maxRecDepth 20000 in
theorem gX2_widened_X2_codeOfColumn : GoodIn wsX2_widened (va_wsS RX2 69 yX2_codeOfColumn wsX2_codeOfColumn) := goodIn_app (goodIn_of _ (by decide +kernel)) ggX2_widened_X2_codeOfColumn
set_option maxRecDepth 20000 in
theorem ggX2_widened_X2_widens : GoodIn wsX2_widened wsX2_widens := goodIn_r _ [34, 19, 20, 9, 21] (by decide +kernel) (by decide +kernel)
set_option maxRecDepth 20000 in
theorem gX2_widened_X2_widens : GoodIn wsX2_widened (va_wsS RX2 131 yX2_widens wsX2_widens) := goodIn_app (goodIn_of _ (by decide +kernel)) ggX2_widened_X2_widens
set_option maxRecDepth 20000 in
theorem ggX2_widened_X2_note : GoodIn wsX2_widened wsX2_note := goodIn_r _ [38, 39, 40, 85, 86, 87, 88, 89] (by decide +kernel) (by decide +kernel)
set_option maxRecDepth 20000 in
theorem gX2_widened_X2_note : GoodIn wsX2_widened (wsV RX2 72 RX2 yX2_note wsX2_note) := goodIn_app (goodIn_of _ (by decide +kernel)) ggX2_widened_X2_note
set_option maxRecDepth 20000 in
theorem ggX2_widened_X0_init : GoodIn wsX2_widened wsX0_init := goodIn_r _ [43, 44, 45, 46, 47, 48, 49, 50, 51, 52, 20, 9, 21, 53, 54, 55, 56, 81, 82, 83, 84] (by decide +kernel) (by decide +kernel)
set_option maxRecDepth 20000 in
theorem gX2_widened_X0_init : GoodIn wsX2_widened (wsX0_init) := ggX2_widened_X0_init
set_option maxRecDepth 20000 in
theorem ggX2_widened_X0_takeWidened : GoodIn wsX2_widened wsX0_takeWidened := goodIn_r _ [60, 48, 47, 55, 9, 56, 61, 62, 63, 4, 64, 52, 65, 66, 67, 68, 69, 70, 71, 72, 50, 73, 74, 75, 76, 81, 82, 83, 84] (by decide +kernel) (by decide +kernel)
set_option maxRecDepth 20000 in
theorem gX2_widened_X0_takeWidened : GoodIn wsX2_widened (wsV RX2 135 RX0 yX0_takeWidened wsX0_takeWidened) := goodIn_app (goodIn_of _ (by decide +kernel)) ggX2_widened_X0_takeWidened
set_option maxRecDepth 20000 in
theorem ggX2_widened_X2_addColumn : GoodIn wsX2_widened wsX2_addColumn := goodIn_r _ [80, 28, 13, 85, 86, 87, 88, 89] (by decide +kernel) (by decide +kernel)
set_option maxRecDepth 20000 in
theorem gX2_widened_X2_addColumn : GoodIn wsX2_widened (wsV RX2 58 RX2 yX2_addColumn wsX2_addColumn) := goodIn_app (goodIn_of _ (by decide +kernel)) ggX2_widened_X2_addColumn
theorem dX2_widened_0 : decode cX2_widened 0 = .ok (.aload_n 0, 1) := by decide +kernel
theorem dX2_widened_1 : decode cX2_widened 1 = .ok (.iload_n 1, 1) := by decide +kernel
theorem dX2_widened_2 : decode cX2_widened 2 = .ok (.invokevirtual 62, 3) := by decide +kernel
theorem dX2_widened_5 : decode cX2_widened 5 = .ok (.astore_n 3, 1) := by decide +kernel
theorem dX2_widened_6 : decode cX2_widened 6 = .ok (.iload_n 2, 1) := by decide +kernel
theorem dX2_widened_7 : decode cX2_widened 7 = .ok (.invokestatic 107, 3) := by decide +kernel
theorem dX2_widened_10 : decode cX2_widened 10 = .ok (.aload_n 0, 1) := by decide +kernel
theorem dX2_widened_11 : decode cX2_widened 11 = .ok (.invokevirtual 52, 3) := by decide +kernel
theorem dX2_widened_14 : decode cX2_widened 14 = .ok (.aload_n 3, 1) := by decide +kernel
theorem dX2_widened_15 : decode cX2_widened 15 = .ok (.invokestatic 69, 3) := by decide +kernel
theorem dX2_widened_18 : decode cX2_widened 18 = .ok (.istore 4, 2) := by decide +kernel
theorem dX2_widened_20 : decode cX2_widened 20 = .ok (.iload 4, 2) := by decide +kernel
theorem dX2_widened_22 : decode cX2_widened 22 = .ok (.ifCond .ne 17, 3) := by decide +kernel
theorem dX2_widened_25 : decode cX2_widened 25 = .ok (.aload_n 3, 1) := by decide +kernel
theorem dX2_widened_26 : decode cX2_widened 26 = .ok (.getfield 66, 3) := by decide +kernel
theorem dX2_widened_29 : decode cX2_widened 29 = .ok (.iload_n 2, 1) := by decide +kernel
theorem dX2_widened_30 : decode cX2_widened 30 = .ok (.invokestatic 131, 3) := by decide +kernel
theorem dX2_widened_33 : decode cX2_widened 33 = .ok (.ifCond .ne 6, 3) := by decide +kernel
theorem dX2_widened_36 : decode cX2_widened 36 = .ok (.iconst 4, 1) := by decide +kernel
end
section
theorem dX2_widened_37 : decode cX2_widened 37 = .ok (.istore 4, 2) := by decide +kernel
theorem dX2_widened_39 : decode cX2_widened 39 = .ok (.aload_n 0, 1) := by decide +kernel
theorem dX2_widened_40 : decode cX2_widened 40 = .ok (.iload 4, 2) := by decide +kernel
theorem dX2_widened_42 : decode cX2_widened 42 = .ok (.invokevirtual 72, 3) := by decide +kernel
theorem dX2_widened_45 : decode cX2_widened 45 = .ok (.ifCond .eq 5, 3) := by decide +kernel
theorem dX2_widened_48 : decode cX2_widened 48 = .ok (.iconst (-1), 1) := by decide +kernel
theorem dX2_widened_49 : decode cX2_widened 49 = .ok (.ireturn, 1) := by decide +kernel
theorem dX2_widened_50 : decode cX2_widened 50 = .ok (.new 9, 3) := by decide +kernel
theorem dX2_widened_53 : decode cX2_widened 53 = .ok (.dup, 1) := by decide +kernel
theorem dX2_widened_54 : decode cX2_widened 54 = .ok (.iload_n 2, 1) := by decide +kernel
theorem dX2_widened_55 : decode cX2_widened 55 = .ok (.aload_n 3, 1) := by decide +kernel
theorem dX2_widened_56 : decode cX2_widened 56 = .ok (.getfield 76, 3) := by decide +kernel
theorem dX2_widened_59 : decode cX2_widened 59 = .ok (.invokespecial 55, 3) := by decide +kernel
theorem dX2_widened_62 : decode cX2_widened 62 = .ok (.astore 5, 2) := by decide +kernel
theorem dX2_widened_64 : decode cX2_widened 64 = .ok (.aload 5, 2) := by decide +kernel
theorem dX2_widened_66 : decode cX2_widened 66 = .ok (.aload_n 3, 1) := by decide +kernel
theorem dX2_widened_67 : decode cX2_widened 67 = .ok (.invokevirtual 135, 3) := by decide +kernel
theorem dX2_widened_70 : decode cX2_widened 70 = .ok (.aload_n 0, 1) := by decide +kernel
theorem dX2_widened_71 : decode cX2_widened 71 = .ok (.aload 5, 2) := by decide +kernel
theorem dX2_widened_73 : decode cX2_widened 73 = .ok (.invokevirtual 58, 3) := by decide +kernel
theorem dX2_widened_76 : decode cX2_widened 76 = .ok (.ireturn, 1) := by decide +kernel
theorem dX2_code_0 : decode cX2_code 0 = .ok (.aload_n 0, 1) := by decide +kernel
theorem dX2_code_1 : decode cX2_code 1 = .ok (.getfield 30, 3) := by decide +kernel
theorem dX2_code_4 : decode cX2_code 4 = .ok (.ireturn, 1) := by decide +kernel
theorem dX2_count_0 : decode cX2_count 0 = .ok (.iload_n 1, 1) := by decide +kernel
theorem dX2_count_1 : decode cX2_count 1 = .ok (.ifCond .lt 12, 3) := by decide +kernel
theorem dX2_count_4 : decode cX2_count 4 = .ok (.iload_n 1, 1) := by decide +kernel
theorem dX2_count_5 : decode cX2_count 5 = .ok (.aload_n 0, 1) := by decide +kernel
theorem dX2_count_6 : decode cX2_count 6 = .ok (.getfield 15, 3) := by decide +kernel
theorem dX2_count_9 : decode cX2_count 9 = .ok (.arraylength, 1) := by decide +kernel
theorem dX2_count_10 : decode cX2_count 10 = .ok (.if_icmp .lt 13, 3) := by decide +kernel
theorem dX2_count_13 : decode cX2_count 13 = .ok (.new 139, 3) := by decide +kernel
theorem dX2_count_16 : decode cX2_count 16 = .ok (.dup, 1) := by decide +kernel
theorem dX2_count_17 : decode cX2_count 17 = .ok (.ldc 141, 2) := by decide +kernel
theorem dX2_count_19 : decode cX2_count 19 = .ok (.invokespecial 143, 3) := by decide +kernel
theorem dX2_count_22 : decode cX2_count 22 = .ok (.athrow, 1) := by decide +kernel
theorem dX2_count_23 : decode cX2_count 23 = .ok (.aload_n 0, 1) := by decide +kernel
theorem dX2_count_24 : decode cX2_count 24 = .ok (.getfield 15, 3) := by decide +kernel
theorem dX2_count_27 : decode cX2_count 27 = .ok (.iload_n 1, 1) := by decide +kernel
theorem dX2_count_28 : decode cX2_count 28 = .ok (.iaload, 1) := by decide +kernel
theorem dX2_count_29 : decode cX2_count 29 = .ok (.ireturn, 1) := by decide +kernel
theorem dX2_isKind_0 : decode cX2_isKind 0 = .ok (.iload_n 0, 1) := by decide +kernel
theorem dX2_isKind_1 : decode cX2_isKind 1 = .ok (.ifCond .lt 13, 3) := by decide +kernel
theorem dX2_isKind_4 : decode cX2_isKind 4 = .ok (.iload_n 0, 1) := by decide +kernel
theorem dX2_isKind_5 : decode cX2_isKind 5 = .ok (.bipush 9, 2) := by decide +kernel
theorem dX2_isKind_7 : decode cX2_isKind 7 = .ok (.if_icmp .gt 7, 3) := by decide +kernel
theorem dX2_isKind_10 : decode cX2_isKind 10 = .ok (.iconst 1, 1) := by decide +kernel
theorem dX2_isKind_11 : decode cX2_isKind 11 = .ok (.goto 4, 3) := by decide +kernel
theorem dX2_isKind_14 : decode cX2_isKind 14 = .ok (.iconst 0, 1) := by decide +kernel
theorem dX2_isKind_15 : decode cX2_isKind 15 = .ok (.ireturn, 1) := by decide +kernel
theorem dX2_holdsCells_0 : decode cX2_holdsCells 0 = .ok (.iload_n 0, 1) := by decide +kernel
theorem dX2_holdsCells_1 : decode cX2_holdsCells 1 = .ok (.iconst 1, 1) := by decide +kernel
theorem dX2_holdsCells_2 : decode cX2_holdsCells 2 = .ok (.if_icmp .lt 13, 3) := by decide +kernel
theorem dX2_holdsCells_5 : decode cX2_holdsCells 5 = .ok (.iload_n 0, 1) := by decide +kernel
theorem dX2_holdsCells_6 : decode cX2_holdsCells 6 = .ok (.bipush 8, 2) := by decide +kernel
theorem dX2_holdsCells_8 : decode cX2_holdsCells 8 = .ok (.if_icmp .gt 7, 3) := by decide +kernel
theorem dX2_holdsCells_11 : decode cX2_holdsCells 11 = .ok (.iconst 1, 1) := by decide +kernel
theorem dX2_holdsCells_12 : decode cX2_holdsCells 12 = .ok (.goto 4, 3) := by decide +kernel
theorem dX2_holdsCells_15 : decode cX2_holdsCells 15 = .ok (.iconst 0, 1) := by decide +kernel
theorem dX2_holdsCells_16 : decode cX2_holdsCells 16 = .ok (.ireturn, 1) := by decide +kernel
theorem dX2_isLength_0 : decode cX2_isLength 0 = .ok (.iload_n 0, 1) := by decide +kernel
theorem dX2_isLength_1 : decode cX2_isLength 1 = .ok (.ifCond .lt 13, 3) := by decide +kernel
theorem dX2_isLength_4 : decode cX2_isLength 4 = .ok (.iload_n 0, 1) := by decide +kernel
theorem dX2_isLength_5 : decode cX2_isLength 5 = .ok (.bipush 40, 2) := by decide +kernel
theorem dX2_isLength_7 : decode cX2_isLength 7 = .ok (.if_icmp .gt 7, 3) := by decide +kernel
theorem dX2_isLength_10 : decode cX2_isLength 10 = .ok (.iconst 1, 1) := by decide +kernel
theorem dX2_isLength_11 : decode cX2_isLength 11 = .ok (.goto 4, 3) := by decide +kernel
theorem dX2_isLength_14 : decode cX2_isLength 14 = .ok (.iconst 0, 1) := by decide +kernel
theorem dX2_isLength_15 : decode cX2_isLength 15 = .ok (.ireturn, 1) := by decide +kernel
theorem dX2_isFloating_0 : decode cX2_isFloating 0 = .ok (.iload_n 0, 1) := by decide +kernel
theorem dX2_isFloating_1 : decode cX2_isFloating 1 = .ok (.bipush 7, 2) := by decide +kernel
theorem dX2_isFloating_3 : decode cX2_isFloating 3 = .ok (.if_icmp .eq 9, 3) := by decide +kernel
theorem dX2_isFloating_6 : decode cX2_isFloating 6 = .ok (.iload_n 0, 1) := by decide +kernel
theorem dX2_isFloating_7 : decode cX2_isFloating 7 = .ok (.bipush 8, 2) := by decide +kernel
theorem dX2_isFloating_9 : decode cX2_isFloating 9 = .ok (.if_icmp .ne 7, 3) := by decide +kernel
theorem dX2_isFloating_12 : decode cX2_isFloating 12 = .ok (.iconst 1, 1) := by decide +kernel
theorem dX2_isFloating_13 : decode cX2_isFloating 13 = .ok (.goto 4, 3) := by decide +kernel
theorem dX2_isFloating_16 : decode cX2_isFloating 16 = .ok (.iconst 0, 1) := by decide +kernel
theorem dX2_isFloating_17 : decode cX2_isFloating 17 = .ok (.ireturn, 1) := by decide +kernel
set_option maxRecDepth 20000 in
theorem ggX2_widens_X2_holdsCells : GoodIn wsX2_widens wsX2_holdsCells := goodIn_r _ [4] (by decide +kernel) (by decide +kernel)
set_option maxRecDepth 20000 in
theorem gX2_widens_X2_holdsCells : GoodIn wsX2_widens (va_wsS RX2 44 yX2_holdsCells wsX2_holdsCells) := goodIn_app (goodIn_of _ (by decide +kernel)) ggX2_widens_X2_holdsCells
theorem dX2_widens_0 : decode cX2_widens 0 = .ok (.iload_n 0, 1) := by decide +kernel
theorem dX2_widens_1 : decode cX2_widens 1 = .ok (.invokestatic 44, 3) := by decide +kernel
theorem dX2_widens_4 : decode cX2_widens 4 = .ok (.ifCond .eq 10, 3) := by decide +kernel
theorem dX2_widens_7 : decode cX2_widens 7 = .ok (.iload_n 1, 1) := by decide +kernel
theorem dX2_widens_8 : decode cX2_widens 8 = .ok (.invokestatic 44, 3) := by decide +kernel
theorem dX2_widens_11 : decode cX2_widens 11 = .ok (.ifCond .ne 5, 3) := by decide +kernel
theorem dX2_widens_14 : decode cX2_widens 14 = .ok (.iconst 0, 1) := by decide +kernel
theorem dX2_widens_15 : decode cX2_widens 15 = .ok (.ireturn, 1) := by decide +kernel
theorem dX2_widens_16 : decode cX2_widens 16 = .ok (.iload_n 0, 1) := by decide +kernel
theorem dX2_widens_17 : decode cX2_widens 17 = .ok (.iload_n 1, 1) := by decide +kernel
theorem dX2_widens_18 : decode cX2_widens 18 = .ok (.if_icmp .ne 5, 3) := by decide +kernel
theorem dX2_widens_21 : decode cX2_widens 21 = .ok (.iconst 1, 1) := by decide +kernel
theorem dX2_widens_22 : decode cX2_widens 22 = .ok (.ireturn, 1) := by decide +kernel
theorem dX2_widens_23 : decode cX2_widens 23 = .ok (.iload_n 0, 1) := by decide +kernel
theorem dX2_widens_24 : decode cX2_widens 24 = .ok (.iconst 1, 1) := by decide +kernel
theorem dX2_widens_25 : decode cX2_widens 25 = .ok (.if_icmp .eq 8, 3) := by decide +kernel
theorem dX2_widens_28 : decode cX2_widens 28 = .ok (.iload_n 1, 1) := by decide +kernel
theorem dX2_widens_29 : decode cX2_widens 29 = .ok (.iconst 3, 1) := by decide +kernel
theorem dX2_widens_30 : decode cX2_widens 30 = .ok (.if_icmp .ne 5, 3) := by decide +kernel
theorem dX2_widens_33 : decode cX2_widens 33 = .ok (.iconst 0, 1) := by decide +kernel
theorem dX2_widens_34 : decode cX2_widens 34 = .ok (.ireturn, 1) := by decide +kernel
theorem dX2_widens_35 : decode cX2_widens 35 = .ok (.iload_n 0, 1) := by decide +kernel
theorem dX2_widens_36 : decode cX2_widens 36 = .ok (.iconst 3, 1) := by decide +kernel
theorem dX2_widens_37 : decode cX2_widens 37 = .ok (.if_icmp .ne 16, 3) := by decide +kernel
theorem dX2_widens_40 : decode cX2_widens 40 = .ok (.iload_n 1, 1) := by decide +kernel
theorem dX2_widens_41 : decode cX2_widens 41 = .ok (.iconst 5, 1) := by decide +kernel
theorem dX2_widens_42 : decode cX2_widens 42 = .ok (.if_icmp .lt 7, 3) := by decide +kernel
theorem dX2_widens_45 : decode cX2_widens 45 = .ok (.iconst 1, 1) := by decide +kernel
theorem dX2_widens_46 : decode cX2_widens 46 = .ok (.goto 17, 3) := by decide +kernel
theorem dX2_widens_49 : decode cX2_widens 49 = .ok (.iconst 0, 1) := by decide +kernel
theorem dX2_widens_50 : decode cX2_widens 50 = .ok (.goto 13, 3) := by decide +kernel
theorem dX2_widens_53 : decode cX2_widens 53 = .ok (.iload_n 0, 1) := by decide +kernel
theorem dX2_widens_54 : decode cX2_widens 54 = .ok (.iload_n 1, 1) := by decide +kernel
theorem dX2_widens_55 : decode cX2_widens 55 = .ok (.if_icmp .ge 7, 3) := by decide +kernel
theorem dX2_widens_58 : decode cX2_widens 58 = .ok (.iconst 1, 1) := by decide +kernel
theorem dX2_widens_59 : decode cX2_widens 59 = .ok (.goto 4, 3) := by decide +kernel
theorem dX2_widens_62 : decode cX2_widens 62 = .ok (.iconst 0, 1) := by decide +kernel
theorem dX2_widens_63 : decode cX2_widens 63 = .ok (.ireturn, 1) := by decide +kernel
theorem dX2_isPart_0 : decode cX2_isPart 0 = .ok (.iload_n 0, 1) := by decide +kernel
theorem dX2_isPart_1 : decode cX2_isPart 1 = .ok (.ifCond .lt 18, 3) := by decide +kernel
theorem dX2_isPart_4 : decode cX2_isPart 4 = .ok (.iload_n 1, 1) := by decide +kernel
theorem dX2_isPart_5 : decode cX2_isPart 5 = .ok (.ifCond .lt 14, 3) := by decide +kernel
theorem dX2_isPart_8 : decode cX2_isPart 8 = .ok (.iload_n 0, 1) := by decide +kernel
theorem dX2_isPart_9 : decode cX2_isPart 9 = .ok (.iload_n 2, 1) := by decide +kernel
theorem dX2_isPart_10 : decode cX2_isPart 10 = .ok (.iload_n 1, 1) := by decide +kernel
theorem dX2_isPart_11 : decode cX2_isPart 11 = .ok (.isub, 1) := by decide +kernel
theorem dX2_isPart_12 : decode cX2_isPart 12 = .ok (.if_icmp .gt 7, 3) := by decide +kernel
theorem dX2_isPart_15 : decode cX2_isPart 15 = .ok (.iconst 1, 1) := by decide +kernel
theorem dX2_isPart_16 : decode cX2_isPart 16 = .ok (.goto 4, 3) := by decide +kernel
theorem dX2_isPart_19 : decode cX2_isPart 19 = .ok (.iconst 0, 1) := by decide +kernel
theorem dX2_isPart_20 : decode cX2_isPart 20 = .ok (.ireturn, 1) := by decide +kernel
set_option maxRecDepth 20000 in
theorem ggX2_refuseWithoutCells_X2_holdsCells : GoodIn wsX2_refuseWithoutCells wsX2_holdsCells := goodIn_r _ [6] (by decide +kernel) (by decide +kernel)
set_option maxRecDepth 20000 in
theorem gX2_refuseWithoutCells_X2_holdsCells : GoodIn wsX2_refuseWithoutCells (va_wsS RX2 44 yX2_holdsCells wsX2_holdsCells) := goodIn_app (goodIn_of _ (by decide +kernel)) ggX2_refuseWithoutCells_X2_holdsCells
theorem dX2_refuseWithoutCells_0 : decode cX2_refuseWithoutCells 0 = .ok (.iload_n 0, 1) := by decide +kernel
theorem dX2_refuseWithoutCells_1 : decode cX2_refuseWithoutCells 1 = .ok (.invokestatic 44, 3) := by decide +kernel
theorem dX2_refuseWithoutCells_4 : decode cX2_refuseWithoutCells 4 = .ok (.ifCond .ne 13, 3) := by decide +kernel
theorem dX2_refuseWithoutCells_7 : decode cX2_refuseWithoutCells 7 = .ok (.new 37, 3) := by decide +kernel
theorem dX2_refuseWithoutCells_10 : decode cX2_refuseWithoutCells 10 = .ok (.dup, 1) := by decide +kernel
theorem dX2_refuseWithoutCells_11 : decode cX2_refuseWithoutCells 11 = .ok (.ldc 157, 2) := by decide +kernel
theorem dX2_refuseWithoutCells_13 : decode cX2_refuseWithoutCells 13 = .ok (.invokespecial 41, 3) := by decide +kernel
theorem dX2_refuseWithoutCells_16 : decode cX2_refuseWithoutCells 16 = .ok (.athrow, 1) := by decide +kernel
theorem dX2_refuseWithoutCells_17 : decode cX2_refuseWithoutCells 17 = .ok (.return_, 1) := by decide +kernel
theorem dX2_refuseWhenFull_0 : decode cX2_refuseWhenFull 0 = .ok (.aload_n 0, 1) := by decide +kernel
theorem dX2_refuseWhenFull_1 : decode cX2_refuseWhenFull 1 = .ok (.getfield 26, 3) := by decide +kernel
theorem dX2_refuseWhenFull_4 : decode cX2_refuseWhenFull 4 = .ok (.aload_n 0, 1) := by decide +kernel
theorem dX2_refuseWhenFull_5 : decode cX2_refuseWhenFull 5 = .ok (.getfield 11, 3) := by decide +kernel
theorem dX2_refuseWhenFull_8 : decode cX2_refuseWhenFull 8 = .ok (.arraylength, 1) := by decide +kernel
theorem dX2_refuseWhenFull_9 : decode cX2_refuseWhenFull 9 = .ok (.if_icmp .lt 13, 3) := by decide +kernel
theorem dX2_refuseWhenFull_12 : decode cX2_refuseWhenFull 12 = .ok (.new 159, 3) := by decide +kernel
theorem dX2_refuseWhenFull_15 : decode cX2_refuseWhenFull 15 = .ok (.dup, 1) := by decide +kernel
theorem dX2_refuseWhenFull_16 : decode cX2_refuseWhenFull 16 = .ok (.ldc 161, 2) := by decide +kernel
theorem dX2_refuseWhenFull_18 : decode cX2_refuseWhenFull 18 = .ok (.invokespecial 163, 3) := by decide +kernel
theorem dX2_refuseWhenFull_21 : decode cX2_refuseWhenFull 21 = .ok (.athrow, 1) := by decide +kernel
theorem dX2_refuseWhenFull_22 : decode cX2_refuseWhenFull 22 = .ok (.return_, 1) := by decide +kernel
theorem dX2_columnAt_0 : decode cX2_columnAt 0 = .ok (.iload_n 1, 1) := by decide +kernel
theorem dX2_columnAt_1 : decode cX2_columnAt 1 = .ok (.ifCond .lt 21, 3) := by decide +kernel
theorem dX2_columnAt_4 : decode cX2_columnAt 4 = .ok (.iload_n 1, 1) := by decide +kernel
theorem dX2_columnAt_5 : decode cX2_columnAt 5 = .ok (.aload_n 0, 1) := by decide +kernel
theorem dX2_columnAt_6 : decode cX2_columnAt 6 = .ok (.getfield 11, 3) := by decide +kernel
theorem dX2_columnAt_9 : decode cX2_columnAt 9 = .ok (.arraylength, 1) := by decide +kernel
theorem dX2_columnAt_10 : decode cX2_columnAt 10 = .ok (.if_icmp .ge 12, 3) := by decide +kernel
theorem dX2_columnAt_13 : decode cX2_columnAt 13 = .ok (.aload_n 0, 1) := by decide +kernel
theorem dX2_columnAt_14 : decode cX2_columnAt 14 = .ok (.getfield 11, 3) := by decide +kernel
theorem dX2_columnAt_17 : decode cX2_columnAt 17 = .ok (.iload_n 1, 1) := by decide +kernel
theorem dX2_columnAt_18 : decode cX2_columnAt 18 = .ok (.aaload, 1) := by decide +kernel
theorem dX2_columnAt_19 : decode cX2_columnAt 19 = .ok (.goto 4, 3) := by decide +kernel
theorem dX2_columnAt_22 : decode cX2_columnAt 22 = .ok (.aconst_null, 1) := by decide +kernel
theorem dX2_columnAt_23 : decode cX2_columnAt 23 = .ok (.astore_n 2, 1) := by decide +kernel
theorem dX2_columnAt_24 : decode cX2_columnAt 24 = .ok (.aload_n 2, 1) := by decide +kernel
theorem dX2_columnAt_25 : decode cX2_columnAt 25 = .ok (.ifnonnull 13, 3) := by decide +kernel
theorem dX2_columnAt_28 : decode cX2_columnAt 28 = .ok (.new 139, 3) := by decide +kernel
theorem dX2_columnAt_31 : decode cX2_columnAt 31 = .ok (.dup, 1) := by decide +kernel
theorem dX2_columnAt_32 : decode cX2_columnAt 32 = .ok (.ldc 164, 2) := by decide +kernel
theorem dX2_columnAt_34 : decode cX2_columnAt 34 = .ok (.invokespecial 143, 3) := by decide +kernel
theorem dX2_columnAt_37 : decode cX2_columnAt 37 = .ok (.athrow, 1) := by decide +kernel
theorem dX2_columnAt_38 : decode cX2_columnAt 38 = .ok (.aload_n 2, 1) := by decide +kernel
theorem dX2_columnAt_39 : decode cX2_columnAt 39 = .ok (.areturn, 1) := by decide +kernel
theorem dX2_addColumn_0 : decode cX2_addColumn 0 = .ok (.aload_n 0, 1) := by decide +kernel
theorem dX2_addColumn_1 : decode cX2_addColumn 1 = .ok (.getfield 26, 3) := by decide +kernel
theorem dX2_addColumn_4 : decode cX2_addColumn 4 = .ok (.istore_n 2, 1) := by decide +kernel
theorem dX2_addColumn_5 : decode cX2_addColumn 5 = .ok (.iload_n 2, 1) := by decide +kernel
theorem dX2_addColumn_6 : decode cX2_addColumn 6 = .ok (.ifCond .lt 26, 3) := by decide +kernel
theorem dX2_addColumn_9 : decode cX2_addColumn 9 = .ok (.iload_n 2, 1) := by decide +kernel
theorem dX2_addColumn_10 : decode cX2_addColumn 10 = .ok (.aload_n 0, 1) := by decide +kernel
theorem dX2_addColumn_11 : decode cX2_addColumn 11 = .ok (.getfield 11, 3) := by decide +kernel
theorem dX2_addColumn_14 : decode cX2_addColumn 14 = .ok (.arraylength, 1) := by decide +kernel
theorem dX2_addColumn_15 : decode cX2_addColumn 15 = .ok (.if_icmp .ge 17, 3) := by decide +kernel
theorem dX2_addColumn_18 : decode cX2_addColumn 18 = .ok (.aload_n 0, 1) := by decide +kernel
theorem dX2_addColumn_19 : decode cX2_addColumn 19 = .ok (.getfield 11, 3) := by decide +kernel
theorem dX2_addColumn_22 : decode cX2_addColumn 22 = .ok (.iload_n 2, 1) := by decide +kernel
theorem dX2_addColumn_23 : decode cX2_addColumn 23 = .ok (.aload_n 1, 1) := by decide +kernel
theorem dX2_addColumn_24 : decode cX2_addColumn 24 = .ok (.aastore, 1) := by decide +kernel
theorem dX2_addColumn_25 : decode cX2_addColumn 25 = .ok (.aload_n 0, 1) := by decide +kernel
theorem dX2_addColumn_26 : decode cX2_addColumn 26 = .ok (.iload_n 2, 1) := by decide +kernel
theorem dX2_addColumn_27 : decode cX2_addColumn 27 = .ok (.iconst 1, 1) := by decide +kernel
theorem dX2_addColumn_28 : decode cX2_addColumn 28 = .ok (.iadd, 1) := by decide +kernel
theorem dX2_addColumn_29 : decode cX2_addColumn 29 = .ok (.putfield 26, 3) := by decide +kernel
theorem dX2_addColumn_32 : decode cX2_addColumn 32 = .ok (.iload_n 2, 1) := by decide +kernel
theorem dX2_addColumn_33 : decode cX2_addColumn 33 = .ok (.ireturn, 1) := by decide +kernel
theorem dX2_note_0 : decode cX2_note 0 = .ok (.iload_n 1, 1) := by decide +kernel
theorem dX2_note_1 : decode cX2_note 1 = .ok (.ifCond .lt 22, 3) := by decide +kernel
theorem dX2_note_4 : decode cX2_note 4 = .ok (.iload_n 1, 1) := by decide +kernel
theorem dX2_note_5 : decode cX2_note 5 = .ok (.aload_n 0, 1) := by decide +kernel
theorem dX2_note_6 : decode cX2_note 6 = .ok (.getfield 15, 3) := by decide +kernel
theorem dX2_note_9 : decode cX2_note 9 = .ok (.arraylength, 1) := by decide +kernel
theorem dX2_note_10 : decode cX2_note 10 = .ok (.if_icmp .ge 13, 3) := by decide +kernel
theorem dX2_note_13 : decode cX2_note 13 = .ok (.aload_n 0, 1) := by decide +kernel
theorem dX2_note_14 : decode cX2_note 14 = .ok (.getfield 15, 3) := by decide +kernel
theorem dX2_note_17 : decode cX2_note 17 = .ok (.iload_n 1, 1) := by decide +kernel
theorem dX2_note_18 : decode cX2_note 18 = .ok (.dup2, 1) := by decide +kernel
theorem dX2_note_19 : decode cX2_note 19 = .ok (.iaload, 1) := by decide +kernel
theorem dX2_note_20 : decode cX2_note 20 = .ok (.iconst 1, 1) := by decide +kernel
theorem dX2_note_21 : decode cX2_note 21 = .ok (.iadd, 1) := by decide +kernel
theorem dX2_note_22 : decode cX2_note 22 = .ok (.iastore, 1) := by decide +kernel
theorem dX2_note_23 : decode cX2_note 23 = .ok (.aload_n 0, 1) := by decide +kernel
theorem dX2_note_24 : decode cX2_note 24 = .ok (.iload_n 1, 1) := by decide +kernel
theorem dX2_note_25 : decode cX2_note 25 = .ok (.putfield 30, 3) := by decide +kernel
theorem dX2_note_28 : decode cX2_note 28 = .ok (.iload_n 1, 1) := by decide +kernel
theorem dX2_note_29 : decode cX2_note 29 = .ok (.ireturn, 1) := by decide +kernel
theorem dX2_codeOfColumn_0 : decode cX2_codeOfColumn 0 = .ok (.aload_n 0, 1) := by decide +kernel
theorem dX2_codeOfColumn_1 : decode cX2_codeOfColumn 1 = .ok (.getfield 66, 3) := by decide +kernel
theorem dX2_codeOfColumn_4 : decode cX2_codeOfColumn 4 = .ok (.ifCond .ne 5, 3) := by decide +kernel
theorem dX2_codeOfColumn_7 : decode cX2_codeOfColumn 7 = .ok (.iconst 1, 1) := by decide +kernel
theorem dX2_codeOfColumn_8 : decode cX2_codeOfColumn 8 = .ok (.ireturn, 1) := by decide +kernel
theorem dX2_codeOfColumn_9 : decode cX2_codeOfColumn 9 = .ok (.aload_n 0, 1) := by decide +kernel
theorem dX2_codeOfColumn_10 : decode cX2_codeOfColumn 10 = .ok (.getfield 66, 3) := by decide +kernel
theorem dX2_codeOfColumn_13 : decode cX2_codeOfColumn 13 = .ok (.bipush 9, 2) := by decide +kernel
theorem dX2_codeOfColumn_15 : decode cX2_codeOfColumn 15 = .ok (.if_icmp .ne 7, 3) := by decide +kernel
theorem dX2_codeOfColumn_18 : decode cX2_codeOfColumn 18 = .ok (.iconst 2, 1) := by decide +kernel
theorem dX2_codeOfColumn_19 : decode cX2_codeOfColumn 19 = .ok (.goto 4, 3) := by decide +kernel
theorem dX2_codeOfColumn_22 : decode cX2_codeOfColumn 22 = .ok (.iconst 0, 1) := by decide +kernel
theorem dX2_codeOfColumn_23 : decode cX2_codeOfColumn 23 = .ok (.ireturn, 1) := by decide +kernel
set_option maxRecDepth 20000 in
theorem ggX2_codeOfCell_X2_codeOfColumn : GoodIn wsX2_codeOfCell wsX2_codeOfColumn := goodIn_r _ [5, 6, 13, 14, 15, 16] (by decide +kernel) (by decide +kernel)
set_option maxRecDepth 20000 in
theorem gX2_codeOfCell_X2_codeOfColumn : GoodIn wsX2_codeOfCell (va_wsS RX2 69 yX2_codeOfColumn wsX2_codeOfColumn) := goodIn_app (goodIn_of _ (by decide +kernel)) ggX2_codeOfCell_X2_codeOfColumn
set_option maxRecDepth 20000 in
theorem ggX2_codeOfCell_X2_widens : GoodIn wsX2_codeOfCell wsX2_widens := goodIn_r _ [9, 10, 11, 4, 12] (by decide +kernel) (by decide +kernel)
set_option maxRecDepth 20000 in
theorem gX2_codeOfCell_X2_widens : GoodIn wsX2_codeOfCell (va_wsS RX2 131 yX2_widens wsX2_widens) := goodIn_app (goodIn_of _ (by decide +kernel)) ggX2_codeOfCell_X2_widens
theorem dX2_codeOfCell_0 : decode cX2_codeOfCell 0 = .ok (.aload_n 0, 1) := by decide +kernel
theorem dX2_codeOfCell_1 : decode cX2_codeOfCell 1 = .ok (.invokestatic 69, 3) := by decide +kernel
theorem dX2_codeOfCell_4 : decode cX2_codeOfCell 4 = .ok (.istore 4, 2) := by decide +kernel
theorem dX2_codeOfCell_6 : decode cX2_codeOfCell 6 = .ok (.iload 4, 2) := by decide +kernel
theorem dX2_codeOfCell_8 : decode cX2_codeOfCell 8 = .ok (.ifCond .eq 6, 3) := by decide +kernel
theorem dX2_codeOfCell_11 : decode cX2_codeOfCell 11 = .ok (.iload 4, 2) := by decide +kernel
theorem dX2_codeOfCell_13 : decode cX2_codeOfCell 13 = .ok (.ireturn, 1) := by decide +kernel
theorem dX2_codeOfCell_14 : decode cX2_codeOfCell 14 = .ok (.iload_n 1, 1) := by decide +kernel
theorem dX2_codeOfCell_15 : decode cX2_codeOfCell 15 = .ok (.ifCond .lt 11, 3) := by decide +kernel
theorem dX2_codeOfCell_18 : decode cX2_codeOfCell 18 = .ok (.iload_n 1, 1) := by decide +kernel
theorem dX2_codeOfCell_19 : decode cX2_codeOfCell 19 = .ok (.aload_n 0, 1) := by decide +kernel
theorem dX2_codeOfCell_20 : decode cX2_codeOfCell 20 = .ok (.getfield 76, 3) := by decide +kernel
theorem dX2_codeOfCell_23 : decode cX2_codeOfCell 23 = .ok (.if_icmp .lt 5, 3) := by decide +kernel
theorem dX2_codeOfCell_26 : decode cX2_codeOfCell 26 = .ok (.iconst 3, 1) := by decide +kernel
theorem dX2_codeOfCell_27 : decode cX2_codeOfCell 27 = .ok (.ireturn, 1) := by decide +kernel
theorem dX2_codeOfCell_28 : decode cX2_codeOfCell 28 = .ok (.iload_n 2, 1) := by decide +kernel
theorem dX2_codeOfCell_29 : decode cX2_codeOfCell 29 = .ok (.iload_n 3, 1) := by decide +kernel
theorem dX2_codeOfCell_30 : decode cX2_codeOfCell 30 = .ok (.invokestatic 131, 3) := by decide +kernel
theorem dX2_codeOfCell_33 : decode cX2_codeOfCell 33 = .ok (.ifCond .eq 7, 3) := by decide +kernel
theorem dX2_codeOfCell_36 : decode cX2_codeOfCell 36 = .ok (.iconst 0, 1) := by decide +kernel
theorem dX2_codeOfCell_37 : decode cX2_codeOfCell 37 = .ok (.goto 4, 3) := by decide +kernel
theorem dX2_codeOfCell_40 : decode cX2_codeOfCell 40 = .ok (.iconst 4, 1) := by decide +kernel
theorem dX2_codeOfCell_41 : decode cX2_codeOfCell 41 = .ok (.ireturn, 1) := by decide +kernel
theorem dX2_codeOfKinds_0 : decode cX2_codeOfKinds 0 = .ok (.aload_n 0, 1) := by decide +kernel
theorem dX2_codeOfKinds_1 : decode cX2_codeOfKinds 1 = .ok (.getfield 66, 3) := by decide +kernel
theorem dX2_codeOfKinds_4 : decode cX2_codeOfKinds 4 = .ok (.ifCond .eq 10, 3) := by decide +kernel
theorem dX2_codeOfKinds_7 : decode cX2_codeOfKinds 7 = .ok (.aload_n 1, 1) := by decide +kernel
theorem dX2_codeOfKinds_8 : decode cX2_codeOfKinds 8 = .ok (.getfield 66, 3) := by decide +kernel
theorem dX2_codeOfKinds_11 : decode cX2_codeOfKinds 11 = .ok (.ifCond .ne 5, 3) := by decide +kernel
theorem dX2_codeOfKinds_14 : decode cX2_codeOfKinds 14 = .ok (.iconst 1, 1) := by decide +kernel
theorem dX2_codeOfKinds_15 : decode cX2_codeOfKinds 15 = .ok (.ireturn, 1) := by decide +kernel
theorem dX2_codeOfKinds_16 : decode cX2_codeOfKinds 16 = .ok (.aload_n 0, 1) := by decide +kernel
theorem dX2_codeOfKinds_17 : decode cX2_codeOfKinds 17 = .ok (.getfield 66, 3) := by decide +kernel
theorem dX2_codeOfKinds_20 : decode cX2_codeOfKinds 20 = .ok (.aload_n 1, 1) := by decide +kernel
theorem dX2_codeOfKinds_21 : decode cX2_codeOfKinds 21 = .ok (.getfield 66, 3) := by decide +kernel
theorem dX2_codeOfKinds_24 : decode cX2_codeOfKinds 24 = .ok (.if_icmp .ne 16, 3) := by decide +kernel
theorem dX2_codeOfKinds_27 : decode cX2_codeOfKinds 27 = .ok (.aload_n 0, 1) := by decide +kernel
theorem dX2_codeOfKinds_28 : decode cX2_codeOfKinds 28 = .ok (.getfield 66, 3) := by decide +kernel
theorem dX2_codeOfKinds_31 : decode cX2_codeOfKinds 31 = .ok (.bipush 9, 2) := by decide +kernel
theorem dX2_codeOfKinds_33 : decode cX2_codeOfKinds 33 = .ok (.if_icmp .eq 7, 3) := by decide +kernel
theorem dX2_codeOfKinds_36 : decode cX2_codeOfKinds 36 = .ok (.iconst 1, 1) := by decide +kernel
theorem dX2_codeOfKinds_37 : decode cX2_codeOfKinds 37 = .ok (.goto 4, 3) := by decide +kernel
theorem dX2_codeOfKinds_40 : decode cX2_codeOfKinds 40 = .ok (.iconst 0, 1) := by decide +kernel
theorem dX2_codeOfKinds_41 : decode cX2_codeOfKinds 41 = .ok (.istore_n 2, 1) := by decide +kernel
theorem dX2_codeOfKinds_42 : decode cX2_codeOfKinds 42 = .ok (.iload_n 2, 1) := by decide +kernel
theorem dX2_codeOfKinds_43 : decode cX2_codeOfKinds 43 = .ok (.ifCond .eq 7, 3) := by decide +kernel
theorem dX2_codeOfKinds_46 : decode cX2_codeOfKinds 46 = .ok (.iconst 0, 1) := by decide +kernel
theorem dX2_codeOfKinds_47 : decode cX2_codeOfKinds 47 = .ok (.goto 4, 3) := by decide +kernel
theorem dX2_codeOfKinds_50 : decode cX2_codeOfKinds 50 = .ok (.iconst 5, 1) := by decide +kernel
theorem dX2_codeOfKinds_51 : decode cX2_codeOfKinds 51 = .ok (.ireturn, 1) := by decide +kernel
set_option maxRecDepth 20000 in
theorem ggX2_readReal_X2_codeOfCell : GoodIn wsX2_readReal wsX2_codeOfCell := goodIn_r _ [5, 6, 7, 8, 4, 9, 1, 10, 11, 12, 13, 14, 15, 40, 41, 42, 43] (by decide +kernel) (by decide +kernel)
set_option maxRecDepth 20000 in
theorem gX2_readReal_X2_codeOfCell : GoodIn wsX2_readReal (va_wsS RX2 83 yX2_codeOfCell wsX2_codeOfCell) := goodIn_app (goodIn_of _ (by decide +kernel)) ggX2_readReal_X2_codeOfCell
set_option maxRecDepth 20000 in
theorem ggX2_readReal_X2_note : GoodIn wsX2_readReal wsX2_note := goodIn_r _ [19, 20, 21, 44, 45, 46, 47, 48] (by decide +kernel) (by decide +kernel)
set_option maxRecDepth 20000 in
theorem gX2_readReal_X2_note : GoodIn wsX2_readReal (wsV RX2 72 RX2 yX2_note wsX2_note) := goodIn_app (goodIn_of _ (by decide +kernel)) ggX2_readReal_X2_note
set_option maxRecDepth 20000 in
theorem ggX2_readReal_X0_doubleAt : GoodIn wsX2_readReal wsX0_doubleAt := goodIn_r _ [26, 27, 28, 4, 29, 30, 31, 32, 25, 33, 34, 35, 36, 37, 38, 39, 40, 41, 42, 43] (by decide +kernel) (by decide +kernel)
set_option maxRecDepth 20000 in
theorem gX2_readReal_X0_doubleAt : GoodIn wsX2_readReal (wsV RX2 170 RX0 yX0_doubleAt wsX0_doubleAt) := goodIn_app (goodIn_of _ (by decide +kernel)) ggX2_readReal_X0_doubleAt
theorem dX2_readReal_0 : decode cX2_readReal 0 = .ok (.aload_n 0, 1) := by decide +kernel
theorem dX2_readReal_1 : decode cX2_readReal 1 = .ok (.aload_n 1, 1) := by decide +kernel
theorem dX2_readReal_2 : decode cX2_readReal 2 = .ok (.iload_n 2, 1) := by decide +kernel
theorem dX2_readReal_3 : decode cX2_readReal 3 = .ok (.aload_n 1, 1) := by decide +kernel
theorem dX2_readReal_4 : decode cX2_readReal 4 = .ok (.getfield 66, 3) := by decide +kernel
theorem dX2_readReal_7 : decode cX2_readReal 7 = .ok (.iload_n 3, 1) := by decide +kernel
theorem dX2_readReal_8 : decode cX2_readReal 8 = .ok (.invokestatic 83, 3) := by decide +kernel
theorem dX2_readReal_11 : decode cX2_readReal 11 = .ok (.invokevirtual 72, 3) := by decide +kernel
theorem dX2_readReal_14 : decode cX2_readReal 14 = .ok (.istore 4, 2) := by decide +kernel
theorem dX2_readReal_16 : decode cX2_readReal 16 = .ok (.iload 4, 2) := by decide +kernel
theorem dX2_readReal_18 : decode cX2_readReal 18 = .ok (.ifCond .ne 11, 3) := by decide +kernel
theorem dX2_readReal_21 : decode cX2_readReal 21 = .ok (.aload_n 1, 1) := by decide +kernel
theorem dX2_readReal_22 : decode cX2_readReal 22 = .ok (.iload_n 2, 1) := by decide +kernel
theorem dX2_readReal_23 : decode cX2_readReal 23 = .ok (.invokevirtual 170, 3) := by decide +kernel
theorem dX2_readReal_26 : decode cX2_readReal 26 = .ok (.goto 4, 3) := by decide +kernel
theorem dX2_readReal_29 : decode cX2_readReal 29 = .ok (.dconst 0, 1) := by decide +kernel
theorem dX2_readReal_30 : decode cX2_readReal 30 = .ok (.dreturn, 1) := by decide +kernel
set_option maxRecDepth 20000 in
theorem ggX2_writeWhole_X2_codeOfCell : GoodIn wsX2_writeWhole wsX2_codeOfCell := goodIn_r _ [5, 6, 7, 8, 4, 9, 1, 10, 11, 12, 13, 14, 15, 34, 35, 36, 37] (by decide +kernel) (by decide +kernel)
set_option maxRecDepth 20000 in
theorem gX2_writeWhole_X2_codeOfCell : GoodIn wsX2_writeWhole (va_wsS RX2 83 yX2_codeOfCell wsX2_codeOfCell) := goodIn_app (goodIn_of _ (by decide +kernel)) ggX2_writeWhole_X2_codeOfCell
set_option maxRecDepth 20000 in
theorem ggX2_writeWhole_X2_note : GoodIn wsX2_writeWhole wsX2_note := goodIn_r _ [19, 20, 21, 38, 39, 40, 41, 42] (by decide +kernel) (by decide +kernel)
set_option maxRecDepth 20000 in
theorem gX2_writeWhole_X2_note : GoodIn wsX2_writeWhole (wsV RX2 72 RX2 yX2_note wsX2_note) := goodIn_app (goodIn_of _ (by decide +kernel)) ggX2_writeWhole_X2_note
set_option maxRecDepth 20000 in
theorem ggX2_writeWhole_X0_putWhole : GoodIn wsX2_writeWhole wsX0_putWhole := goodIn_r _ [26, 27, 28, 29, 30, 31, 25, 32, 33, 34, 35, 36, 37] (by decide +kernel) (by decide +kernel)
set_option maxRecDepth 20000 in
theorem gX2_writeWhole_X0_putWhole : GoodIn wsX2_writeWhole (wsV RX2 174 RX0 yX0_putWhole wsX0_putWhole) := goodIn_app (goodIn_of _ (by decide +kernel)) ggX2_writeWhole_X0_putWhole
theorem dX2_writeWhole_0 : decode cX2_writeWhole 0 = .ok (.aload_n 0, 1) := by decide +kernel
theorem dX2_writeWhole_1 : decode cX2_writeWhole 1 = .ok (.aload_n 1, 1) := by decide +kernel
theorem dX2_writeWhole_2 : decode cX2_writeWhole 2 = .ok (.iload_n 2, 1) := by decide +kernel
theorem dX2_writeWhole_3 : decode cX2_writeWhole 3 = .ok (.iload_n 3, 1) := by decide +kernel
theorem dX2_writeWhole_4 : decode cX2_writeWhole 4 = .ok (.aload_n 1, 1) := by decide +kernel
theorem dX2_writeWhole_5 : decode cX2_writeWhole 5 = .ok (.getfield 66, 3) := by decide +kernel
theorem dX2_writeWhole_8 : decode cX2_writeWhole 8 = .ok (.invokestatic 83, 3) := by decide +kernel
theorem dX2_writeWhole_11 : decode cX2_writeWhole 11 = .ok (.invokevirtual 72, 3) := by decide +kernel
theorem dX2_writeWhole_14 : decode cX2_writeWhole 14 = .ok (.istore 6, 2) := by decide +kernel
theorem dX2_writeWhole_16 : decode cX2_writeWhole 16 = .ok (.iload 6, 2) := by decide +kernel
theorem dX2_writeWhole_18 : decode cX2_writeWhole 18 = .ok (.ifCond .ne 10, 3) := by decide +kernel
theorem dX2_writeWhole_21 : decode cX2_writeWhole 21 = .ok (.aload_n 1, 1) := by decide +kernel
theorem dX2_writeWhole_22 : decode cX2_writeWhole 22 = .ok (.iload_n 2, 1) := by decide +kernel
theorem dX2_writeWhole_23 : decode cX2_writeWhole 23 = .ok (.lload 4, 2) := by decide +kernel
theorem dX2_writeWhole_25 : decode cX2_writeWhole 25 = .ok (.invokevirtual 174, 3) := by decide +kernel
theorem dX2_writeWhole_28 : decode cX2_writeWhole 28 = .ok (.iload 6, 2) := by decide +kernel
theorem dX2_writeWhole_30 : decode cX2_writeWhole 30 = .ok (.ireturn, 1) := by decide +kernel
set_option maxRecDepth 20000 in
theorem ggX2_writeReal_X2_codeOfCell : GoodIn wsX2_writeReal wsX2_codeOfCell := goodIn_r _ [5, 6, 7, 8, 4, 9, 1, 10, 11, 12, 13, 14, 15, 28, 29, 30, 31] (by decide +kernel) (by decide +kernel)
set_option maxRecDepth 20000 in
theorem gX2_writeReal_X2_codeOfCell : GoodIn wsX2_writeReal (va_wsS RX2 83 yX2_codeOfCell wsX2_codeOfCell) := goodIn_app (goodIn_of _ (by decide +kernel)) ggX2_writeReal_X2_codeOfCell
set_option maxRecDepth 20000 in
theorem ggX2_writeReal_X2_note : GoodIn wsX2_writeReal wsX2_note := goodIn_r _ [19, 20, 21, 32, 33, 34, 35, 36] (by decide +kernel) (by decide +kernel)
set_option maxRecDepth 20000 in
theorem gX2_writeReal_X2_note : GoodIn wsX2_writeReal (wsV RX2 72 RX2 yX2_note wsX2_note) := goodIn_app (goodIn_of _ (by decide +kernel)) ggX2_writeReal_X2_note
set_option maxRecDepth 20000 in
theorem ggX2_writeReal_X0_putReal : GoodIn wsX2_writeReal wsX0_putReal := goodIn_r _ [26, 27, 28, 29, 30, 31] (by decide +kernel) (by decide +kernel)
set_option maxRecDepth 20000 in
theorem gX2_writeReal_X0_putReal : GoodIn wsX2_writeReal (wsV RX2 178 RX0 yX0_putReal wsX0_putReal) := goodIn_app (goodIn_of _ (by decide +kernel)) ggX2_writeReal_X0_putReal
theorem dX2_writeReal_0 : decode cX2_writeReal 0 = .ok (.aload_n 0, 1) := by decide +kernel
theorem dX2_writeReal_1 : decode cX2_writeReal 1 = .ok (.aload_n 1, 1) := by decide +kernel
theorem dX2_writeReal_2 : decode cX2_writeReal 2 = .ok (.iload_n 2, 1) := by decide +kernel
theorem dX2_writeReal_3 : decode cX2_writeReal 3 = .ok (.iload_n 3, 1) := by decide +kernel
theorem dX2_writeReal_4 : decode cX2_writeReal 4 = .ok (.aload_n 1, 1) := by decide +kernel
theorem dX2_writeReal_5 : decode cX2_writeReal 5 = .ok (.getfield 66, 3) := by decide +kernel
theorem dX2_writeReal_8 : decode cX2_writeReal 8 = .ok (.invokestatic 83, 3) := by decide +kernel
theorem dX2_writeReal_11 : decode cX2_writeReal 11 = .ok (.invokevirtual 72, 3) := by decide +kernel
theorem dX2_writeReal_14 : decode cX2_writeReal 14 = .ok (.istore 6, 2) := by decide +kernel
theorem dX2_writeReal_16 : decode cX2_writeReal 16 = .ok (.iload 6, 2) := by decide +kernel
theorem dX2_writeReal_18 : decode cX2_writeReal 18 = .ok (.ifCond .ne 10, 3) := by decide +kernel
theorem dX2_writeReal_21 : decode cX2_writeReal 21 = .ok (.aload_n 1, 1) := by decide +kernel
theorem dX2_writeReal_22 : decode cX2_writeReal 22 = .ok (.iload_n 2, 1) := by decide +kernel
theorem dX2_writeReal_23 : decode cX2_writeReal 23 = .ok (.dload 4, 2) := by decide +kernel
theorem dX2_writeReal_25 : decode cX2_writeReal 25 = .ok (.invokevirtual 178, 3) := by decide +kernel
theorem dX2_writeReal_28 : decode cX2_writeReal 28 = .ok (.iload 6, 2) := by decide +kernel
theorem dX2_writeReal_30 : decode cX2_writeReal 30 = .ok (.ireturn, 1) := by decide +kernel
theorem dX2_wholeMadeFrom_0 : decode cX2_wholeMadeFrom 0 = .ok (.iload_n 1, 1) := by decide +kernel
theorem dX2_wholeMadeFrom_1 : decode cX2_wholeMadeFrom 1 = .ok (.tableswitch 53 1 4 #[31, 41, 45, 49], 31) := by decide +kernel
theorem dX2_wholeMadeFrom_32 : decode cX2_wholeMadeFrom 32 = .ok (.iload_n 0, 1) := by decide +kernel
theorem dX2_wholeMadeFrom_33 : decode cX2_wholeMadeFrom 33 = .ok (.ifCond .eq 7, 3) := by decide +kernel
theorem dX2_wholeMadeFrom_36 : decode cX2_wholeMadeFrom 36 = .ok (.lconst 1, 1) := by decide +kernel
theorem dX2_wholeMadeFrom_37 : decode cX2_wholeMadeFrom 37 = .ok (.goto 4, 3) := by decide +kernel
theorem dX2_wholeMadeFrom_40 : decode cX2_wholeMadeFrom 40 = .ok (.lconst 0, 1) := by decide +kernel
theorem dX2_wholeMadeFrom_41 : decode cX2_wholeMadeFrom 41 = .ok (.lreturn, 1) := by decide +kernel
theorem dX2_wholeMadeFrom_42 : decode cX2_wholeMadeFrom 42 = .ok (.iload_n 0, 1) := by decide +kernel
theorem dX2_wholeMadeFrom_43 : decode cX2_wholeMadeFrom 43 = .ok (.i2b, 1) := by decide +kernel
theorem dX2_wholeMadeFrom_44 : decode cX2_wholeMadeFrom 44 = .ok (.i2l, 1) := by decide +kernel
theorem dX2_wholeMadeFrom_45 : decode cX2_wholeMadeFrom 45 = .ok (.lreturn, 1) := by decide +kernel
theorem dX2_wholeMadeFrom_46 : decode cX2_wholeMadeFrom 46 = .ok (.iload_n 0, 1) := by decide +kernel
theorem dX2_wholeMadeFrom_47 : decode cX2_wholeMadeFrom 47 = .ok (.i2c, 1) := by decide +kernel
theorem dX2_wholeMadeFrom_48 : decode cX2_wholeMadeFrom 48 = .ok (.i2l, 1) := by decide +kernel
theorem dX2_wholeMadeFrom_49 : decode cX2_wholeMadeFrom 49 = .ok (.lreturn, 1) := by decide +kernel
theorem dX2_wholeMadeFrom_50 : decode cX2_wholeMadeFrom 50 = .ok (.iload_n 0, 1) := by decide +kernel
theorem dX2_wholeMadeFrom_51 : decode cX2_wholeMadeFrom 51 = .ok (.i2s, 1) := by decide +kernel
theorem dX2_wholeMadeFrom_52 : decode cX2_wholeMadeFrom 52 = .ok (.i2l, 1) := by decide +kernel
theorem dX2_wholeMadeFrom_53 : decode cX2_wholeMadeFrom 53 = .ok (.lreturn, 1) := by decide +kernel
theorem dX2_wholeMadeFrom_54 : decode cX2_wholeMadeFrom 54 = .ok (.iload_n 0, 1) := by decide +kernel
theorem dX2_wholeMadeFrom_55 : decode cX2_wholeMadeFrom 55 = .ok (.i2l, 1) := by decide +kernel
theorem dX2_wholeMadeFrom_56 : decode cX2_wholeMadeFrom 56 = .ok (.lreturn, 1) := by decide +kernel
theorem dX2_noNumber_0 : decode cX2_noNumber 0 = .ok (.ldc2_w 182, 3) := by decide +kernel
theorem dX2_noNumber_3 : decode cX2_noNumber 3 = .ok (.dreturn, 1) := by decide +kernel
theorem dX2_isInfinite_0 : decode cX2_isInfinite 0 = .ok (.dload_n 0, 1) := by decide +kernel
theorem dX2_isInfinite_1 : decode cX2_isInfinite 1 = .ok (.ldc2_w 192, 3) := by decide +kernel
theorem dX2_isInfinite_4 : decode cX2_isInfinite 4 = .ok (.dcmp .l, 1) := by decide +kernel
theorem dX2_isInfinite_5 : decode cX2_isInfinite 5 = .ok (.ifCond .gt 11, 3) := by decide +kernel
theorem dX2_isInfinite_8 : decode cX2_isInfinite 8 = .ok (.dload_n 0, 1) := by decide +kernel
theorem dX2_isInfinite_9 : decode cX2_isInfinite 9 = .ok (.ldc2_w 194, 3) := by decide +kernel
theorem dX2_isInfinite_12 : decode cX2_isInfinite 12 = .ok (.dcmp .g, 1) := by decide +kernel
theorem dX2_isInfinite_13 : decode cX2_isInfinite 13 = .ok (.ifCond .ge 7, 3) := by decide +kernel
theorem dX2_isInfinite_16 : decode cX2_isInfinite 16 = .ok (.iconst 1, 1) := by decide +kernel
theorem dX2_isInfinite_17 : decode cX2_isInfinite 17 = .ok (.goto 4, 3) := by decide +kernel
theorem dX2_isInfinite_20 : decode cX2_isInfinite 20 = .ok (.iconst 0, 1) := by decide +kernel
theorem dX2_isInfinite_21 : decode cX2_isInfinite 21 = .ok (.ireturn, 1) := by decide +kernel
set_option maxRecDepth 20000 in
theorem ggX2_sumOf_X2_isInfinite : GoodIn wsX2_sumOf wsX2_isInfinite := goodIn_r _ [4, 5, 6] (by decide +kernel) (by decide +kernel)
set_option maxRecDepth 20000 in
theorem gX2_sumOf_X2_isInfinite : GoodIn wsX2_sumOf (va_wsS RX2 196 yX2_isInfinite wsX2_isInfinite) := goodIn_app (goodIn_of _ (by decide +kernel)) ggX2_sumOf_X2_isInfinite
set_option maxRecDepth 20000 in
theorem ggX2_sumOf_X2_noNumber : GoodIn wsX2_sumOf wsX2_noNumber := goodIn_r _ [9, 10] (by decide +kernel) (by decide +kernel)
set_option maxRecDepth 20000 in
theorem gX2_sumOf_X2_noNumber : GoodIn wsX2_sumOf (va_wsS RX2 185 yX2_noNumber wsX2_noNumber) := goodIn_app (goodIn_of _ (by decide +kernel)) ggX2_sumOf_X2_noNumber
theorem dX2_sumOf_0 : decode cX2_sumOf 0 = .ok (.dload_n 0, 1) := by decide +kernel
theorem dX2_sumOf_1 : decode cX2_sumOf 1 = .ok (.dload_n 0, 1) := by decide +kernel
theorem dX2_sumOf_2 : decode cX2_sumOf 2 = .ok (.dcmp .l, 1) := by decide +kernel
theorem dX2_sumOf_3 : decode cX2_sumOf 3 = .ok (.ifCond .ne 23, 3) := by decide +kernel
theorem dX2_sumOf_6 : decode cX2_sumOf 6 = .ok (.dload_n 2, 1) := by decide +kernel
theorem dX2_sumOf_7 : decode cX2_sumOf 7 = .ok (.dload_n 2, 1) := by decide +kernel
theorem dX2_sumOf_8 : decode cX2_sumOf 8 = .ok (.dcmp .l, 1) := by decide +kernel
theorem dX2_sumOf_9 : decode cX2_sumOf 9 = .ok (.ifCond .ne 17, 3) := by decide +kernel
theorem dX2_sumOf_12 : decode cX2_sumOf 12 = .ok (.dload_n 0, 1) := by decide +kernel
theorem dX2_sumOf_13 : decode cX2_sumOf 13 = .ok (.invokestatic 196, 3) := by decide +kernel
theorem dX2_sumOf_16 : decode cX2_sumOf 16 = .ok (.ifCond .eq 14, 3) := by decide +kernel
theorem dX2_sumOf_19 : decode cX2_sumOf 19 = .ok (.dload_n 0, 1) := by decide +kernel
theorem dX2_sumOf_20 : decode cX2_sumOf 20 = .ok (.dload_n 2, 1) := by decide +kernel
theorem dX2_sumOf_21 : decode cX2_sumOf 21 = .ok (.dneg, 1) := by decide +kernel
theorem dX2_sumOf_22 : decode cX2_sumOf 22 = .ok (.dcmp .l, 1) := by decide +kernel
theorem dX2_sumOf_23 : decode cX2_sumOf 23 = .ok (.ifCond .ne 7, 3) := by decide +kernel
theorem dX2_sumOf_26 : decode cX2_sumOf 26 = .ok (.invokestatic 185, 3) := by decide +kernel
theorem dX2_sumOf_29 : decode cX2_sumOf 29 = .ok (.dreturn, 1) := by decide +kernel
theorem dX2_sumOf_30 : decode cX2_sumOf 30 = .ok (.dload_n 0, 1) := by decide +kernel
theorem dX2_sumOf_31 : decode cX2_sumOf 31 = .ok (.dload_n 2, 1) := by decide +kernel
theorem dX2_sumOf_32 : decode cX2_sumOf 32 = .ok (.dadd, 1) := by decide +kernel
theorem dX2_sumOf_33 : decode cX2_sumOf 33 = .ok (.dreturn, 1) := by decide +kernel
set_option maxRecDepth 20000 in
theorem ggJ0_charAt_5068e_J0_isLatin1_aae02 : GoodIn wsJ0_charAt_5068e wsJ0_isLatin1_aae02 := goodIn_r _ [6, 7, 8] (by decide +kernel) (by decide +kernel)
set_option maxRecDepth 20000 in
theorem gJ0_charAt_5068e_J0_isLatin1_aae02 : GoodIn wsJ0_charAt_5068e (wsV RJ0 492 RJ0 yJ0_isLatin1_aae02 wsJ0_isLatin1_aae02) := goodIn_app (goodIn_of _ (by decide +kernel)) ggJ0_charAt_5068e_J0_isLatin1_aae02
set_option maxRecDepth 20000 in
theorem ggJ0_charAt_5068e_J1_charAt_3b067 : GoodIn wsJ0_charAt_5068e wsJ1_charAt_3b067 := goodIn_r _ [12, 13, 14, 5, 15, 16, 17, 18, 19, 20] (by decide +kernel) (by decide +kernel)
set_option maxRecDepth 20000 in
theorem gJ0_charAt_5068e_J1_charAt_3b067 : GoodIn wsJ0_charAt_5068e (va_wsS RJ0 495 yJ1_charAt_3b067 wsJ1_charAt_3b067) := goodIn_app (goodIn_of _ (by decide +kernel)) ggJ0_charAt_5068e_J1_charAt_3b067
set_option maxRecDepth 20000 in
theorem ggJ0_charAt_5068e_J2_charAt_3b067 : GoodIn wsJ0_charAt_5068e wsJ2_charAt_3b067 := goodIn_r _ [24, 25, 26, 23, 27, 28, 29, 30, 31, 14, 5, 15, 16, 17, 18, 19, 20, 32, 33, 34, 35, 36, 37] (by decide +kernel) (by decide +kernel)
set_option maxRecDepth 20000 in
theorem gJ0_charAt_5068e_J2_charAt_3b067 : GoodIn wsJ0_charAt_5068e (va_wsS RJ0 498 yJ2_charAt_3b067 wsJ2_charAt_3b067) := goodIn_app (goodIn_of _ (by decide +kernel)) ggJ0_charAt_5068e_J2_charAt_3b067
theorem dJ0_charAt_5068e_0 : decode cJ0_charAt_5068e 0 = .ok (.aload_n 0, 1) := by decide +kernel
theorem dJ0_charAt_5068e_1 : decode cJ0_charAt_5068e 1 = .ok (.invokevirtual 492, 3) := by decide +kernel
theorem dJ0_charAt_5068e_4 : decode cJ0_charAt_5068e 4 = .ok (.ifCond .eq 12, 3) := by decide +kernel
theorem dJ0_charAt_5068e_7 : decode cJ0_charAt_5068e 7 = .ok (.aload_n 0, 1) := by decide +kernel
theorem dJ0_charAt_5068e_8 : decode cJ0_charAt_5068e 8 = .ok (.getfield 9, 3) := by decide +kernel
theorem dJ0_charAt_5068e_11 : decode cJ0_charAt_5068e 11 = .ok (.iload_n 1, 1) := by decide +kernel
theorem dJ0_charAt_5068e_12 : decode cJ0_charAt_5068e 12 = .ok (.invokestatic 495, 3) := by decide +kernel
theorem dJ0_charAt_5068e_15 : decode cJ0_charAt_5068e 15 = .ok (.ireturn, 1) := by decide +kernel
theorem dJ0_charAt_5068e_16 : decode cJ0_charAt_5068e 16 = .ok (.aload_n 0, 1) := by decide +kernel
theorem dJ0_charAt_5068e_17 : decode cJ0_charAt_5068e 17 = .ok (.getfield 9, 3) := by decide +kernel
theorem dJ0_charAt_5068e_20 : decode cJ0_charAt_5068e 20 = .ok (.iload_n 1, 1) := by decide +kernel
theorem dJ0_charAt_5068e_21 : decode cJ0_charAt_5068e 21 = .ok (.invokestatic 498, 3) := by decide +kernel
theorem dJ0_charAt_5068e_24 : decode cJ0_charAt_5068e 24 = .ok (.ireturn, 1) := by decide +kernel
theorem dJ0_isLatin1_aae02_0 : decode cJ0_isLatin1_aae02 0 = .ok (.getstatic 38, 3) := by decide +kernel
theorem dJ0_isLatin1_aae02_3 : decode cJ0_isLatin1_aae02 3 = .ok (.ifCond .eq 14, 3) := by decide +kernel
theorem dJ0_isLatin1_aae02_6 : decode cJ0_isLatin1_aae02 6 = .ok (.aload_n 0, 1) := by decide +kernel
theorem dJ0_isLatin1_aae02_7 : decode cJ0_isLatin1_aae02 7 = .ok (.getfield 15, 3) := by decide +kernel
theorem dJ0_isLatin1_aae02_10 : decode cJ0_isLatin1_aae02 10 = .ok (.ifCond .ne 7, 3) := by decide +kernel
theorem dJ0_isLatin1_aae02_13 : decode cJ0_isLatin1_aae02 13 = .ok (.iconst 1, 1) := by decide +kernel
theorem dJ0_isLatin1_aae02_14 : decode cJ0_isLatin1_aae02 14 = .ok (.goto 4, 3) := by decide +kernel
theorem dJ0_isLatin1_aae02_17 : decode cJ0_isLatin1_aae02 17 = .ok (.iconst 0, 1) := by decide +kernel
theorem dJ0_isLatin1_aae02_18 : decode cJ0_isLatin1_aae02 18 = .ok (.ireturn, 1) := by decide +kernel
set_option maxRecDepth 20000 in
theorem ggJ0_checkIndex_df160_J3_checkIndex_8e157 : GoodIn wsJ0_checkIndex_df160 wsJ3_checkIndex_8e157 := goodIn_r _ [5] (by decide +kernel) (by decide +kernel)
set_option maxRecDepth 20000 in
theorem gJ0_checkIndex_df160_J3_checkIndex_8e157 : GoodIn wsJ0_checkIndex_df160 (va_wsS RJ0 1059 yJ3_checkIndex_8e157 wsJ3_checkIndex_8e157) := goodIn_app (goodIn_of _ (by decide +kernel)) ggJ0_checkIndex_df160_J3_checkIndex_8e157
theorem dJ0_checkIndex_df160_0 : decode cJ0_checkIndex_df160 0 = .ok (.iload_n 0, 1) := by decide +kernel
theorem dJ0_checkIndex_df160_1 : decode cJ0_checkIndex_df160 1 = .ok (.iload_n 1, 1) := by decide +kernel
theorem dJ0_checkIndex_df160_2 : decode cJ0_checkIndex_df160 2 = .ok (.getstatic 1053, 3) := by decide +kernel
theorem dJ0_checkIndex_df160_5 : decode cJ0_checkIndex_df160 5 = .ok (.invokestatic 1059, 3) := by decide +kernel
theorem dJ0_checkIndex_df160_8 : decode cJ0_checkIndex_df160 8 = .ok (.pop, 1) := by decide +kernel
theorem dJ0_checkIndex_df160_9 : decode cJ0_checkIndex_df160 9 = .ok (.return_, 1) := by decide +kernel
set_option maxRecDepth 20000 in
theorem ggJ1_charAt_3b067_J0_checkIndex_df160 : GoodIn wsJ1_charAt_3b067 wsJ0_checkIndex_df160 := goodIn_r _ [4, 5, 6, 7, 8, 9] (by decide +kernel) (by decide +kernel)
set_option maxRecDepth 20000 in
theorem gJ1_charAt_3b067_J0_checkIndex_df160 : GoodIn wsJ1_charAt_3b067 (va_wsS RJ1 9 yJ0_checkIndex_df160 wsJ0_checkIndex_df160) := goodIn_app (goodIn_of _ (by decide +kernel)) ggJ1_charAt_3b067_J0_checkIndex_df160
theorem dJ1_charAt_3b067_0 : decode cJ1_charAt_3b067 0 = .ok (.iload_n 1, 1) := by decide +kernel
theorem dJ1_charAt_3b067_1 : decode cJ1_charAt_3b067 1 = .ok (.aload_n 0, 1) := by decide +kernel
theorem dJ1_charAt_3b067_2 : decode cJ1_charAt_3b067 2 = .ok (.arraylength, 1) := by decide +kernel
theorem dJ1_charAt_3b067_3 : decode cJ1_charAt_3b067 3 = .ok (.invokestatic 9, 3) := by decide +kernel
theorem dJ1_charAt_3b067_6 : decode cJ1_charAt_3b067 6 = .ok (.aload_n 0, 1) := by decide +kernel
theorem dJ1_charAt_3b067_7 : decode cJ1_charAt_3b067 7 = .ok (.iload_n 1, 1) := by decide +kernel
theorem dJ1_charAt_3b067_8 : decode cJ1_charAt_3b067 8 = .ok (.baload, 1) := by decide +kernel
theorem dJ1_charAt_3b067_9 : decode cJ1_charAt_3b067 9 = .ok (.sipush 255, 3) := by decide +kernel
theorem dJ1_charAt_3b067_12 : decode cJ1_charAt_3b067 12 = .ok (.iand, 1) := by decide +kernel
theorem dJ1_charAt_3b067_13 : decode cJ1_charAt_3b067 13 = .ok (.i2c, 1) := by decide +kernel
theorem dJ1_charAt_3b067_14 : decode cJ1_charAt_3b067 14 = .ok (.ireturn, 1) := by decide +kernel
set_option maxRecDepth 20000 in
theorem ggJ2_getChar_3b067_J2_length_9d52b : GoodIn wsJ2_getChar_3b067 wsJ2_length_9d52b := goodIn_r _ [7] (by decide +kernel) (by decide +kernel)
set_option maxRecDepth 20000 in
theorem gJ2_getChar_3b067_J2_length_9d52b : GoodIn wsJ2_getChar_3b067 (va_wsS RJ2 48 yJ2_length_9d52b wsJ2_length_9d52b) := goodIn_app (goodIn_of _ (by decide +kernel)) ggJ2_getChar_3b067_J2_length_9d52b
theorem dJ2_getChar_3b067_0 : decode cJ2_getChar_3b067 0 = .ok (.getstatic 44, 3) := by decide +kernel
theorem dJ2_getChar_3b067_3 : decode cJ2_getChar_3b067 3 = .ok (.ifCond .ne 25, 3) := by decide +kernel
theorem dJ2_getChar_3b067_6 : decode cJ2_getChar_3b067 6 = .ok (.iload_n 1, 1) := by decide +kernel
theorem dJ2_getChar_3b067_7 : decode cJ2_getChar_3b067 7 = .ok (.ifCond .lt 11, 3) := by decide +kernel
theorem dJ2_getChar_3b067_10 : decode cJ2_getChar_3b067 10 = .ok (.iload_n 1, 1) := by decide +kernel
theorem dJ2_getChar_3b067_11 : decode cJ2_getChar_3b067 11 = .ok (.aload_n 0, 1) := by decide +kernel
theorem dJ2_getChar_3b067_12 : decode cJ2_getChar_3b067 12 = .ok (.invokestatic 48, 3) := by decide +kernel
theorem dJ2_getChar_3b067_15 : decode cJ2_getChar_3b067 15 = .ok (.if_icmp .lt 13, 3) := by decide +kernel
theorem dJ2_getChar_3b067_18 : decode cJ2_getChar_3b067 18 = .ok (.new 52, 3) := by decide +kernel
theorem dJ2_getChar_3b067_21 : decode cJ2_getChar_3b067 21 = .ok (.dup, 1) := by decide +kernel
theorem dJ2_getChar_3b067_22 : decode cJ2_getChar_3b067 22 = .ok (.ldc 54, 2) := by decide +kernel
theorem dJ2_getChar_3b067_24 : decode cJ2_getChar_3b067 24 = .ok (.invokespecial 56, 3) := by decide +kernel
theorem dJ2_getChar_3b067_27 : decode cJ2_getChar_3b067 27 = .ok (.athrow, 1) := by decide +kernel
theorem dJ2_getChar_3b067_28 : decode cJ2_getChar_3b067 28 = .ok (.iload_n 1, 1) := by decide +kernel
theorem dJ2_getChar_3b067_29 : decode cJ2_getChar_3b067 29 = .ok (.iconst 1, 1) := by decide +kernel
theorem dJ2_getChar_3b067_30 : decode cJ2_getChar_3b067 30 = .ok (.ishl, 1) := by decide +kernel
theorem dJ2_getChar_3b067_31 : decode cJ2_getChar_3b067 31 = .ok (.istore_n 1, 1) := by decide +kernel
theorem dJ2_getChar_3b067_32 : decode cJ2_getChar_3b067 32 = .ok (.aload_n 0, 1) := by decide +kernel
theorem dJ2_getChar_3b067_33 : decode cJ2_getChar_3b067 33 = .ok (.iload_n 1, 1) := by decide +kernel
theorem dJ2_getChar_3b067_34 : decode cJ2_getChar_3b067 34 = .ok (.iinc 1 1, 3) := by decide +kernel
theorem dJ2_getChar_3b067_37 : decode cJ2_getChar_3b067 37 = .ok (.baload, 1) := by decide +kernel
theorem dJ2_getChar_3b067_38 : decode cJ2_getChar_3b067 38 = .ok (.sipush 255, 3) := by decide +kernel
theorem dJ2_getChar_3b067_41 : decode cJ2_getChar_3b067 41 = .ok (.iand, 1) := by decide +kernel
theorem dJ2_getChar_3b067_42 : decode cJ2_getChar_3b067 42 = .ok (.getstatic 59, 3) := by decide +kernel
theorem dJ2_getChar_3b067_45 : decode cJ2_getChar_3b067 45 = .ok (.ishl, 1) := by decide +kernel
theorem dJ2_getChar_3b067_46 : decode cJ2_getChar_3b067 46 = .ok (.aload_n 0, 1) := by decide +kernel
theorem dJ2_getChar_3b067_47 : decode cJ2_getChar_3b067 47 = .ok (.iload_n 1, 1) := by decide +kernel
theorem dJ2_getChar_3b067_48 : decode cJ2_getChar_3b067 48 = .ok (.baload, 1) := by decide +kernel
theorem dJ2_getChar_3b067_49 : decode cJ2_getChar_3b067 49 = .ok (.sipush 255, 3) := by decide +kernel
theorem dJ2_getChar_3b067_52 : decode cJ2_getChar_3b067 52 = .ok (.iand, 1) := by decide +kernel
theorem dJ2_getChar_3b067_53 : decode cJ2_getChar_3b067 53 = .ok (.getstatic 63, 3) := by decide +kernel
theorem dJ2_getChar_3b067_56 : decode cJ2_getChar_3b067 56 = .ok (.ishl, 1) := by decide +kernel
theorem dJ2_getChar_3b067_57 : decode cJ2_getChar_3b067 57 = .ok (.ior, 1) := by decide +kernel
theorem dJ2_getChar_3b067_58 : decode cJ2_getChar_3b067 58 = .ok (.i2c, 1) := by decide +kernel
theorem dJ2_getChar_3b067_59 : decode cJ2_getChar_3b067 59 = .ok (.ireturn, 1) := by decide +kernel
theorem dJ2_length_9d52b_0 : decode cJ2_length_9d52b 0 = .ok (.aload_n 0, 1) := by decide +kernel
theorem dJ2_length_9d52b_1 : decode cJ2_length_9d52b 1 = .ok (.arraylength, 1) := by decide +kernel
theorem dJ2_length_9d52b_2 : decode cJ2_length_9d52b 2 = .ok (.iconst 1, 1) := by decide +kernel
theorem dJ2_length_9d52b_3 : decode cJ2_length_9d52b 3 = .ok (.ishr, 1) := by decide +kernel
theorem dJ2_length_9d52b_4 : decode cJ2_length_9d52b 4 = .ok (.ireturn, 1) := by decide +kernel
set_option maxRecDepth 20000 in
theorem ggJ2_charAt_3b067_J2_checkIndex_2214a : GoodIn wsJ2_charAt_3b067 wsJ2_checkIndex_2214a := goodIn_r _ [4, 5, 6, 3, 7, 8, 9, 10, 11, 12, 13, 14, 15, 16] (by decide +kernel) (by decide +kernel)
set_option maxRecDepth 20000 in
theorem gJ2_charAt_3b067_J2_checkIndex_2214a : GoodIn wsJ2_charAt_3b067 (va_wsS RJ2 67 yJ2_checkIndex_2214a wsJ2_checkIndex_2214a) := goodIn_app (goodIn_of _ (by decide +kernel)) ggJ2_charAt_3b067_J2_checkIndex_2214a
set_option maxRecDepth 20000 in
theorem ggJ2_charAt_3b067_J2_getChar_3b067 : GoodIn wsJ2_charAt_3b067 wsJ2_getChar_3b067 := goodIn_r _ [19, 20, 21, 22, 5, 6, 3, 7] (by decide +kernel) (by decide +kernel)
set_option maxRecDepth 20000 in
theorem gJ2_charAt_3b067_J2_getChar_3b067 : GoodIn wsJ2_charAt_3b067 (va_wsS RJ2 71 yJ2_getChar_3b067 wsJ2_getChar_3b067) := goodIn_app (goodIn_of _ (by decide +kernel)) ggJ2_charAt_3b067_J2_getChar_3b067
theorem dJ2_charAt_3b067_0 : decode cJ2_charAt_3b067 0 = .ok (.iload_n 1, 1) := by decide +kernel
theorem dJ2_charAt_3b067_1 : decode cJ2_charAt_3b067 1 = .ok (.aload_n 0, 1) := by decide +kernel
theorem dJ2_charAt_3b067_2 : decode cJ2_charAt_3b067 2 = .ok (.invokestatic 67, 3) := by decide +kernel
theorem dJ2_charAt_3b067_5 : decode cJ2_charAt_3b067 5 = .ok (.aload_n 0, 1) := by decide +kernel
theorem dJ2_charAt_3b067_6 : decode cJ2_charAt_3b067 6 = .ok (.iload_n 1, 1) := by decide +kernel
theorem dJ2_charAt_3b067_7 : decode cJ2_charAt_3b067 7 = .ok (.invokestatic 71, 3) := by decide +kernel
theorem dJ2_charAt_3b067_10 : decode cJ2_charAt_3b067 10 = .ok (.ireturn, 1) := by decide +kernel
set_option maxRecDepth 20000 in
theorem ggJ2_checkIndex_2214a_J2_length_9d52b : GoodIn wsJ2_checkIndex_2214a wsJ2_length_9d52b := goodIn_r _ [4] (by decide +kernel) (by decide +kernel)
set_option maxRecDepth 20000 in
theorem gJ2_checkIndex_2214a_J2_length_9d52b : GoodIn wsJ2_checkIndex_2214a (va_wsS RJ2 48 yJ2_length_9d52b wsJ2_length_9d52b) := goodIn_app (goodIn_of _ (by decide +kernel)) ggJ2_checkIndex_2214a_J2_length_9d52b
set_option maxRecDepth 20000 in
theorem ggJ2_checkIndex_2214a_J0_checkIndex_df160 : GoodIn wsJ2_checkIndex_2214a wsJ0_checkIndex_df160 := goodIn_r _ [8, 9, 10, 11, 12, 13] (by decide +kernel) (by decide +kernel)
set_option maxRecDepth 20000 in
theorem gJ2_checkIndex_2214a_J0_checkIndex_df160 : GoodIn wsJ2_checkIndex_2214a (va_wsS RJ2 414 yJ0_checkIndex_df160 wsJ0_checkIndex_df160) := goodIn_app (goodIn_of _ (by decide +kernel)) ggJ2_checkIndex_2214a_J0_checkIndex_df160
theorem dJ2_checkIndex_2214a_0 : decode cJ2_checkIndex_2214a 0 = .ok (.iload_n 0, 1) := by decide +kernel
theorem dJ2_checkIndex_2214a_1 : decode cJ2_checkIndex_2214a 1 = .ok (.aload_n 1, 1) := by decide +kernel
theorem dJ2_checkIndex_2214a_2 : decode cJ2_checkIndex_2214a 2 = .ok (.invokestatic 48, 3) := by decide +kernel
theorem dJ2_checkIndex_2214a_5 : decode cJ2_checkIndex_2214a 5 = .ok (.invokestatic 414, 3) := by decide +kernel
theorem dJ2_checkIndex_2214a_8 : decode cJ2_checkIndex_2214a 8 = .ok (.return_, 1) := by decide +kernel
theorem dJ3_checkIndex_8e157_0 : decode cJ3_checkIndex_8e157 0 = .ok (.iload_n 0, 1) := by decide +kernel
theorem dJ3_checkIndex_8e157_1 : decode cJ3_checkIndex_8e157 1 = .ok (.ifCond .lt 8, 3) := by decide +kernel
theorem dJ3_checkIndex_8e157_4 : decode cJ3_checkIndex_8e157 4 = .ok (.iload_n 0, 1) := by decide +kernel
theorem dJ3_checkIndex_8e157_5 : decode cJ3_checkIndex_8e157 5 = .ok (.iload_n 1, 1) := by decide +kernel
theorem dJ3_checkIndex_8e157_6 : decode cJ3_checkIndex_8e157 6 = .ok (.if_icmp .lt 10, 3) := by decide +kernel
theorem dJ3_checkIndex_8e157_9 : decode cJ3_checkIndex_8e157 9 = .ok (.aload_n 2, 1) := by decide +kernel
theorem dJ3_checkIndex_8e157_10 : decode cJ3_checkIndex_8e157 10 = .ok (.iload_n 0, 1) := by decide +kernel
theorem dJ3_checkIndex_8e157_11 : decode cJ3_checkIndex_8e157 11 = .ok (.iload_n 1, 1) := by decide +kernel
theorem dJ3_checkIndex_8e157_12 : decode cJ3_checkIndex_8e157 12 = .ok (.invokestatic 95, 3) := by decide +kernel
theorem dJ3_checkIndex_8e157_15 : decode cJ3_checkIndex_8e157 15 = .ok (.athrow, 1) := by decide +kernel
theorem dJ3_checkIndex_8e157_16 : decode cJ3_checkIndex_8e157 16 = .ok (.iload_n 0, 1) := by decide +kernel
theorem dJ3_checkIndex_8e157_17 : decode cJ3_checkIndex_8e157 17 = .ok (.ireturn, 1) := by decide +kernel
theorem dL_below_0 : decode cL_below 0 = .ok (.iload_n 0, 1) := by decide +kernel
theorem dL_below_1 : decode cL_below 1 = .ok (.ldc 7, 2) := by decide +kernel
theorem dL_below_3 : decode cL_below 3 = .ok (.iand, 1) := by decide +kernel
theorem dL_below_4 : decode cL_below 4 = .ok (.iload_n 1, 1) := by decide +kernel
theorem dL_below_5 : decode cL_below 5 = .ok (.irem, 1) := by decide +kernel
theorem dL_below_6 : decode cL_below 6 = .ok (.ireturn, 1) := by decide +kernel
theorem dL_cell_0 : decode cL_cell 0 = .ok (.iload_n 1, 1) := by decide +kernel
theorem dL_cell_1 : decode cL_cell 1 = .ok (.aload_n 0, 1) := by decide +kernel
theorem dL_cell_2 : decode cL_cell 2 = .ok (.arraylength, 1) := by decide +kernel
theorem dL_cell_3 : decode cL_cell 3 = .ok (.if_icmp .ge 9, 3) := by decide +kernel
theorem dL_cell_6 : decode cL_cell 6 = .ok (.aload_n 0, 1) := by decide +kernel
theorem dL_cell_7 : decode cL_cell 7 = .ok (.iload_n 1, 1) := by decide +kernel
theorem dL_cell_8 : decode cL_cell 8 = .ok (.iaload, 1) := by decide +kernel
theorem dL_cell_9 : decode cL_cell 9 = .ok (.goto 9, 3) := by decide +kernel
theorem dL_cell_12 : decode cL_cell 12 = .ok (.ldc 8, 2) := by decide +kernel
theorem dL_cell_14 : decode cL_cell 14 = .ok (.iload_n 1, 1) := by decide +kernel
theorem dL_cell_15 : decode cL_cell 15 = .ok (.iconst 3, 1) := by decide +kernel
theorem dL_cell_16 : decode cL_cell 16 = .ok (.iadd, 1) := by decide +kernel
theorem dL_cell_17 : decode cL_cell 17 = .ok (.imul, 1) := by decide +kernel
theorem dL_cell_18 : decode cL_cell 18 = .ok (.ireturn, 1) := by decide +kernel
set_option maxRecDepth 20000 in
theorem ggL_widens_J0_charAt_5068e : GoodIn wsL_widens wsJ0_charAt_5068e := goodIn_r _ [5, 6, 7, 8, 9, 4, 10, 11, 12, 13, 14, 15, 16, 17, 18, 19, 20, 21, 22, 23, 24, 25, 26, 27, 28, 29, 30, 31, 32, 33, 34, 35, 36, 37, 38, 39, 40, 41] (by decide +kernel) (by decide +kernel)
end
section
set_option maxRecDepth 20000 in
theorem gL_widens_J0_charAt_5068e : GoodIn wsL_widens (wsV RL 25 RJ0 yJ0_charAt_5068e wsJ0_charAt_5068e) := goodIn_app (goodIn_of _ (by decide +kernel)) ggL_widens_J0_charAt_5068e
theorem dL_widens_0 : decode cL_widens 0 = .ok (.iload_n 0, 1) := by decide +kernel
theorem dL_widens_1 : decode cL_widens 1 = .ok (.iconst 1, 1) := by decide +kernel
theorem dL_widens_2 : decode cL_widens 2 = .ok (.if_icmp .ne 8, 3) := by decide +kernel
theorem dL_widens_5 : decode cL_widens 5 = .ok (.ldc 9, 2) := by decide +kernel
theorem dL_widens_7 : decode cL_widens 7 = .ok (.goto 67, 3) := by decide +kernel
theorem dL_widens_10 : decode cL_widens 10 = .ok (.iload_n 0, 1) := by decide +kernel
theorem dL_widens_11 : decode cL_widens 11 = .ok (.iconst 2, 1) := by decide +kernel
theorem dL_widens_12 : decode cL_widens 12 = .ok (.if_icmp .ne 8, 3) := by decide +kernel
theorem dL_widens_15 : decode cL_widens 15 = .ok (.ldc 11, 2) := by decide +kernel
theorem dL_widens_17 : decode cL_widens 17 = .ok (.goto 57, 3) := by decide +kernel
theorem dL_widens_20 : decode cL_widens 20 = .ok (.iload_n 0, 1) := by decide +kernel
theorem dL_widens_21 : decode cL_widens 21 = .ok (.iconst 3, 1) := by decide +kernel
theorem dL_widens_22 : decode cL_widens 22 = .ok (.if_icmp .ne 8, 3) := by decide +kernel
theorem dL_widens_25 : decode cL_widens 25 = .ok (.ldc 13, 2) := by decide +kernel
theorem dL_widens_27 : decode cL_widens 27 = .ok (.goto 47, 3) := by decide +kernel
theorem dL_widens_30 : decode cL_widens 30 = .ok (.iload_n 0, 1) := by decide +kernel
theorem dL_widens_31 : decode cL_widens 31 = .ok (.iconst 4, 1) := by decide +kernel
theorem dL_widens_32 : decode cL_widens 32 = .ok (.if_icmp .ne 8, 3) := by decide +kernel
theorem dL_widens_35 : decode cL_widens 35 = .ok (.ldc 15, 2) := by decide +kernel
theorem dL_widens_37 : decode cL_widens 37 = .ok (.goto 37, 3) := by decide +kernel
theorem dL_widens_40 : decode cL_widens 40 = .ok (.iload_n 0, 1) := by decide +kernel
theorem dL_widens_41 : decode cL_widens 41 = .ok (.iconst 5, 1) := by decide +kernel
theorem dL_widens_42 : decode cL_widens 42 = .ok (.if_icmp .ne 8, 3) := by decide +kernel
theorem dL_widens_45 : decode cL_widens 45 = .ok (.ldc 17, 2) := by decide +kernel
theorem dL_widens_47 : decode cL_widens 47 = .ok (.goto 27, 3) := by decide +kernel
theorem dL_widens_50 : decode cL_widens 50 = .ok (.iload_n 0, 1) := by decide +kernel
theorem dL_widens_51 : decode cL_widens 51 = .ok (.bipush 6, 2) := by decide +kernel
theorem dL_widens_53 : decode cL_widens 53 = .ok (.if_icmp .ne 8, 3) := by decide +kernel
theorem dL_widens_56 : decode cL_widens 56 = .ok (.ldc 19, 2) := by decide +kernel
theorem dL_widens_58 : decode cL_widens 58 = .ok (.goto 16, 3) := by decide +kernel
theorem dL_widens_61 : decode cL_widens 61 = .ok (.iload_n 0, 1) := by decide +kernel
theorem dL_widens_62 : decode cL_widens 62 = .ok (.bipush 7, 2) := by decide +kernel
theorem dL_widens_64 : decode cL_widens 64 = .ok (.if_icmp .ne 8, 3) := by decide +kernel
theorem dL_widens_67 : decode cL_widens 67 = .ok (.ldc 21, 2) := by decide +kernel
theorem dL_widens_69 : decode cL_widens 69 = .ok (.goto 5, 3) := by decide +kernel
theorem dL_widens_72 : decode cL_widens 72 = .ok (.ldc 23, 2) := by decide +kernel
theorem dL_widens_74 : decode cL_widens 74 = .ok (.astore_n 2, 1) := by decide +kernel
theorem dL_widens_75 : decode cL_widens 75 = .ok (.aload_n 2, 1) := by decide +kernel
theorem dL_widens_76 : decode cL_widens 76 = .ok (.iload_n 1, 1) := by decide +kernel
theorem dL_widens_77 : decode cL_widens 77 = .ok (.iconst 1, 1) := by decide +kernel
theorem dL_widens_78 : decode cL_widens 78 = .ok (.isub, 1) := by decide +kernel
theorem dL_widens_79 : decode cL_widens 79 = .ok (.invokevirtual 25, 3) := by decide +kernel
theorem dL_widens_82 : decode cL_widens 82 = .ok (.bipush 46, 2) := by decide +kernel
theorem dL_widens_84 : decode cL_widens 84 = .ok (.if_icmp .eq 7, 3) := by decide +kernel
theorem dL_widens_87 : decode cL_widens 87 = .ok (.iconst 1, 1) := by decide +kernel
theorem dL_widens_88 : decode cL_widens 88 = .ok (.goto 4, 3) := by decide +kernel
theorem dL_widens_91 : decode cL_widens 91 = .ok (.iconst 0, 1) := by decide +kernel
theorem dL_widens_92 : decode cL_widens 92 = .ok (.ireturn, 1) := by decide +kernel
theorem dL_made_0 : decode cL_made 0 = .ok (.iload_n 0, 1) := by decide +kernel
theorem dL_made_1 : decode cL_made 1 = .ok (.iconst 1, 1) := by decide +kernel
theorem dL_made_2 : decode cL_made 2 = .ok (.if_icmp .ne 15, 3) := by decide +kernel
theorem dL_made_5 : decode cL_made 5 = .ok (.iload_n 1, 1) := by decide +kernel
theorem dL_made_6 : decode cL_made 6 = .ok (.ifCond .eq 7, 3) := by decide +kernel
theorem dL_made_9 : decode cL_made 9 = .ok (.lconst 1, 1) := by decide +kernel
theorem dL_made_10 : decode cL_made 10 = .ok (.goto 54, 3) := by decide +kernel
theorem dL_made_13 : decode cL_made 13 = .ok (.lconst 0, 1) := by decide +kernel
theorem dL_made_14 : decode cL_made 14 = .ok (.goto 50, 3) := by decide +kernel
theorem dL_made_17 : decode cL_made 17 = .ok (.iload_n 0, 1) := by decide +kernel
theorem dL_made_18 : decode cL_made 18 = .ok (.iconst 2, 1) := by decide +kernel
theorem dL_made_19 : decode cL_made 19 = .ok (.if_icmp .ne 9, 3) := by decide +kernel
theorem dL_made_22 : decode cL_made 22 = .ok (.iload_n 1, 1) := by decide +kernel
theorem dL_made_23 : decode cL_made 23 = .ok (.i2b, 1) := by decide +kernel
theorem dL_made_24 : decode cL_made 24 = .ok (.i2l, 1) := by decide +kernel
theorem dL_made_25 : decode cL_made 25 = .ok (.goto 39, 3) := by decide +kernel
theorem dL_made_28 : decode cL_made 28 = .ok (.iload_n 0, 1) := by decide +kernel
theorem dL_made_29 : decode cL_made 29 = .ok (.iconst 3, 1) := by decide +kernel
theorem dL_made_30 : decode cL_made 30 = .ok (.if_icmp .ne 9, 3) := by decide +kernel
theorem dL_made_33 : decode cL_made 33 = .ok (.iload_n 1, 1) := by decide +kernel
theorem dL_made_34 : decode cL_made 34 = .ok (.i2c, 1) := by decide +kernel
theorem dL_made_35 : decode cL_made 35 = .ok (.i2l, 1) := by decide +kernel
theorem dL_made_36 : decode cL_made 36 = .ok (.goto 28, 3) := by decide +kernel
theorem dL_made_39 : decode cL_made 39 = .ok (.iload_n 0, 1) := by decide +kernel
theorem dL_made_40 : decode cL_made 40 = .ok (.iconst 4, 1) := by decide +kernel
theorem dL_made_41 : decode cL_made 41 = .ok (.if_icmp .ne 9, 3) := by decide +kernel
theorem dL_made_44 : decode cL_made 44 = .ok (.iload_n 1, 1) := by decide +kernel
theorem dL_made_45 : decode cL_made 45 = .ok (.i2s, 1) := by decide +kernel
theorem dL_made_46 : decode cL_made 46 = .ok (.i2l, 1) := by decide +kernel
theorem dL_made_47 : decode cL_made 47 = .ok (.goto 17, 3) := by decide +kernel
theorem dL_made_50 : decode cL_made 50 = .ok (.iload_n 0, 1) := by decide +kernel
theorem dL_made_51 : decode cL_made 51 = .ok (.bipush 7, 2) := by decide +kernel
theorem dL_made_53 : decode cL_made 53 = .ok (.if_icmp .ne 9, 3) := by decide +kernel
theorem dL_made_56 : decode cL_made 56 = .ok (.iload_n 1, 1) := by decide +kernel
theorem dL_made_57 : decode cL_made 57 = .ok (.i2f, 1) := by decide +kernel
theorem dL_made_58 : decode cL_made 58 = .ok (.f2l, 1) := by decide +kernel
theorem dL_made_59 : decode cL_made 59 = .ok (.goto 5, 3) := by decide +kernel
theorem dL_made_62 : decode cL_made 62 = .ok (.iload_n 1, 1) := by decide +kernel
theorem dL_made_63 : decode cL_made 63 = .ok (.i2l, 1) := by decide +kernel
theorem dL_made_64 : decode cL_made 64 = .ok (.lreturn, 1) := by decide +kernel
set_option maxRecDepth 20000 in
theorem ggL_law_X2_init : GoodIn wsL_law wsX2_init := goodIn_r _ [7, 8, 9, 10, 11, 12, 4, 13, 14, 15, 16, 17, 18, 19, 20, 21, 22, 23, 3, 24, 25, 247, 248, 249, 250, 251, 252] (by decide +kernel) (by decide +kernel)
set_option maxRecDepth 20000 in
theorem gL_law_X2_init : GoodIn wsL_law (wsX2_init) := ggL_law_X2_init
set_option maxRecDepth 20000 in
theorem ggL_law_L_cell : GoodIn wsL_law wsL_cell := goodIn_r _ [29, 30] (by decide +kernel) (by decide +kernel)
set_option maxRecDepth 20000 in
theorem gL_law_L_cell : GoodIn wsL_law (va_wsS RL 34 yL_cell wsL_cell) := goodIn_app (goodIn_of _ (by decide +kernel)) ggL_law_L_cell
set_option maxRecDepth 20000 in
theorem ggL_law_L_below : GoodIn wsL_law wsL_below := goodIn_r _ [33, 34] (by decide +kernel) (by decide +kernel)
set_option maxRecDepth 20000 in
theorem gL_law_L_below : GoodIn wsL_law (va_wsS RL 40 yL_below wsL_below) := goodIn_app (goodIn_of _ (by decide +kernel)) ggL_law_L_below
set_option maxRecDepth 20000 in
theorem ggL_law_X2_create : GoodIn wsL_law wsX2_create := goodIn_ca (goodIn_ca (goodIn_r _ [38, 39, 40, 11, 41, 42, 43, 44, 2, 45, 46, 47, 48, 49, 50, 51, 52, 53, 54, 55, 56, 57, 18, 12, 58, 59, 60, 61, 9, 10, 62, 63, 64, 65, 3, 66, 67, 68, 69, 70, 71, 72, 253, 254, 255, 256, 247, 248, 249, 250, 251] (by decide +kernel) (by decide +kernel)) (goodIn_sub (fun _ h => List.mem_append_left _ (List.mem_append_left _ (List.mem_append_right _ h))) (by decide +kernel))) (goodIn_sub (fun _ h => List.mem_append_left _ (List.mem_append_right _ h)) (by decide +kernel))
set_option maxRecDepth 20000 in
theorem gL_law_X2_create : GoodIn wsL_law (wsV RL 44 RX2 yX2_create wsX2_create) := goodIn_app (goodIn_of _ (by decide +kernel)) ggL_law_X2_create
set_option maxRecDepth 20000 in
theorem ggL_law_L_widens : GoodIn wsL_law wsL_widens := goodIn_r _ [75, 76, 77, 78, 79, 80, 81, 82, 83, 84, 85, 86, 87, 88, 89, 90, 91, 92, 93, 94, 95, 96, 97, 98, 99, 100, 101, 102, 103, 104, 105, 106, 107, 108, 109, 110, 111, 112, 113, 114, 115, 116] (by decide +kernel) (by decide +kernel)
set_option maxRecDepth 20000 in
theorem gL_law_L_widens : GoodIn wsL_law (va_wsS RL 47 yL_widens wsL_widens) := goodIn_app (goodIn_of _ (by decide +kernel)) ggL_law_L_widens
set_option maxRecDepth 20000 in
theorem ggL_law_X2_writeAny : GoodIn wsL_law wsX2_writeAny := goodIn_ca (goodIn_ca (goodIn_r _ [120, 121, 122, 123, 2, 124, 125, 126, 12, 127, 128, 129, 39, 40, 46, 47, 48, 130, 131, 132, 133, 134, 135, 136, 137, 138, 139, 140, 141, 142, 143, 144, 145, 146, 147, 148, 13, 19, 149, 150, 151, 42, 152, 66, 153, 154, 155, 156, 157, 158, 159, 160, 161, 162, 163, 62, 65, 164, 247, 248, 249, 250, 251, 253, 254, 255, 256] (by decide +kernel) (by decide +kernel)) (goodIn_sub (fun _ h => List.mem_append_right _ h) (by decide +kernel))) (goodIn_sub (fun _ h => List.mem_append_left _ (List.mem_append_left _ (List.mem_append_right _ h))) (by decide +kernel))
set_option maxRecDepth 20000 in
theorem gL_law_X2_writeAny : GoodIn wsL_law (wsV RL 51 RX2 yX2_writeAny wsX2_writeAny) := goodIn_app (goodIn_of _ (by decide +kernel)) ggL_law_X2_writeAny
set_option maxRecDepth 20000 in
theorem ggL_law_L_made : GoodIn wsL_law wsL_made := goodIn_r _ [167] (by decide +kernel) (by decide +kernel)
set_option maxRecDepth 20000 in
theorem gL_law_L_made : GoodIn wsL_law (va_wsS RL 55 yL_made wsL_made) := goodIn_app (goodIn_of _ (by decide +kernel)) ggL_law_L_made
set_option maxRecDepth 20000 in
theorem ggL_law_X2_copy : GoodIn wsL_law wsX2_copy := goodIn_ca (goodIn_r _ [171, 138, 121, 122, 123, 2, 124, 125, 126, 12, 172, 173, 174, 134, 175, 176, 177, 178, 179, 180, 42, 181, 65, 182, 183, 184, 185, 66, 145, 146, 147, 148, 13, 19, 253, 254, 255, 256, 247, 248, 249, 250, 251] (by decide +kernel) (by decide +kernel)) (goodIn_sub (fun _ h => List.mem_append_right _ h) (by decide +kernel))
set_option maxRecDepth 20000 in
theorem gL_law_X2_copy : GoodIn wsL_law (wsV RL 59 RX2 yX2_copy wsX2_copy) := goodIn_app (goodIn_of _ (by decide +kernel)) ggL_law_X2_copy
set_option maxRecDepth 20000 in
theorem ggL_law_X2_widened : GoodIn wsL_law wsX2_widened := goodIn_ca (goodIn_ca (goodIn_ca (goodIn_r _ [189, 134, 11, 41, 42, 138, 121, 122, 123, 2, 124, 125, 126, 12, 127, 128, 129, 39, 40, 46, 47, 48, 52, 53, 54, 55, 56, 57, 18, 139, 140, 141, 142, 143, 144, 145, 146, 147, 148, 13, 19, 58, 59, 60, 61, 9, 10, 62, 63, 64, 65, 3, 66, 50, 51, 67, 68, 190, 191, 192, 193, 194, 195, 196, 197, 164, 150, 151, 152, 198, 199, 200, 201, 202, 161, 162, 163, 69, 70, 71, 72, 253, 254, 255, 256, 247, 248, 249, 250, 251] (by decide +kernel) (by decide +kernel)) (goodIn_sub (fun _ h => List.mem_append_right _ h) (by decide +kernel))) (goodIn_sub (fun _ h => List.mem_append_left _ (List.mem_append_left _ (List.mem_append_right _ h))) (by decide +kernel))) (goodIn_sub (fun _ h => List.mem_append_left _ (List.mem_append_right _ h)) (by decide +kernel))
set_option maxRecDepth 20000 in
theorem gL_law_X2_widened : GoodIn wsL_law (wsV RL 63 RX2 yX2_widened wsX2_widened) := goodIn_app (goodIn_of _ (by decide +kernel)) ggL_law_X2_widened
set_option maxRecDepth 20000 in
theorem ggL_law_X2_code : GoodIn wsL_law wsX2_code := goodIn_r _ [206, 19, 247, 248, 249, 250, 251] (by decide +kernel) (by decide +kernel)
set_option maxRecDepth 20000 in
theorem gL_law_X2_code : GoodIn wsL_law (wsV RL 66 RX2 yX2_code wsX2_code) := goodIn_app (goodIn_of _ (by decide +kernel)) ggL_law_X2_code
set_option maxRecDepth 20000 in
theorem ggL_law_X2_readAny : GoodIn wsL_law wsX2_readAny := goodIn_ca (goodIn_r _ [210, 134, 121, 122, 123, 2, 124, 125, 126, 12, 211, 212, 213, 214, 135, 136, 137, 138, 139, 140, 141, 142, 143, 144, 46, 47, 48, 145, 146, 147, 148, 13, 19, 215, 216, 217, 42, 218, 62, 67, 68, 194, 195, 196, 197, 66, 198, 199, 200, 201, 65, 253, 254, 255, 256, 247, 248, 249, 250, 251] (by decide +kernel) (by decide +kernel)) (goodIn_sub (fun _ h => List.mem_append_right _ h) (by decide +kernel))
set_option maxRecDepth 20000 in
theorem gL_law_X2_readAny : GoodIn wsL_law (wsV RL 70 RX2 yX2_readAny wsX2_readAny) := goodIn_app (goodIn_of _ (by decide +kernel)) ggL_law_X2_readAny
set_option maxRecDepth 20000 in
theorem ggL_law_X2_total : GoodIn wsL_law wsX2_total := goodIn_ca (goodIn_r _ [222, 121, 122, 123, 2, 124, 125, 126, 12, 139, 140, 141, 134, 145, 146, 147, 148, 13, 19, 223, 224, 225, 42, 226, 63, 227, 216, 217, 218, 62, 67, 68, 194, 195, 196, 197, 66, 198, 199, 200, 201, 65, 228, 229, 230, 231, 232, 233, 234, 235, 236, 237, 238, 247, 248, 249, 250, 251, 253, 254, 255, 256] (by decide +kernel) (by decide +kernel)) (goodIn_sub (fun _ h => List.mem_append_right _ h) (by decide +kernel))
set_option maxRecDepth 20000 in
theorem gL_law_X2_total : GoodIn wsL_law (wsV RL 74 RX2 yX2_total wsX2_total) := goodIn_app (goodIn_of _ (by decide +kernel)) ggL_law_X2_total
set_option maxRecDepth 20000 in
theorem ggL_law_X2_count : GoodIn wsL_law wsX2_count := goodIn_ca (goodIn_r _ [242, 125, 126, 13, 247, 248, 249, 250, 251] (by decide +kernel) (by decide +kernel)) (goodIn_sub (fun _ h => List.mem_append_right _ h) (by decide +kernel))
set_option maxRecDepth 20000 in
theorem gL_law_X2_count : GoodIn wsL_law (wsV RL 78 RX2 yX2_count wsX2_count) := goodIn_app (goodIn_of _ (by decide +kernel)) ggL_law_X2_count
set_option maxRecDepth 20000 in
theorem ggL_law_X2_columnCount : GoodIn wsL_law wsX2_columnCount := goodIn_r _ [246, 18, 247, 248, 249, 250, 251] (by decide +kernel) (by decide +kernel)
set_option maxRecDepth 20000 in
theorem gL_law_X2_columnCount : GoodIn wsL_law (wsV RL 82 RX2 yX2_columnCount wsX2_columnCount) := goodIn_app (goodIn_of _ (by decide +kernel)) ggL_law_X2_columnCount
theorem dL_law_0 : decode cL_law 0 = .ok (.new 31, 3) := by decide +kernel
theorem dL_law_3 : decode cL_law 3 = .ok (.dup, 1) := by decide +kernel
theorem dL_law_4 : decode cL_law 4 = .ok (.invokespecial 33, 3) := by decide +kernel
theorem dL_law_7 : decode cL_law 7 = .ok (.astore_n 1, 1) := by decide +kernel
theorem dL_law_8 : decode cL_law 8 = .ok (.bipush 60, 2) := by decide +kernel
theorem dL_law_10 : decode cL_law 10 = .ok (.newarray .double, 2) := by decide +kernel
theorem dL_law_12 : decode cL_law 12 = .ok (.astore_n 2, 1) := by decide +kernel
theorem dL_law_13 : decode cL_law 13 = .ok (.bipush 12, 2) := by decide +kernel
theorem dL_law_15 : decode cL_law 15 = .ok (.newarray .int, 2) := by decide +kernel
theorem dL_law_17 : decode cL_law 17 = .ok (.astore_n 3, 1) := by decide +kernel
theorem dL_law_18 : decode cL_law 18 = .ok (.bipush 12, 2) := by decide +kernel
theorem dL_law_20 : decode cL_law 20 = .ok (.newarray .int, 2) := by decide +kernel
theorem dL_law_22 : decode cL_law 22 = .ok (.astore 4, 2) := by decide +kernel
theorem dL_law_24 : decode cL_law 24 = .ok (.bipush 10, 2) := by decide +kernel
theorem dL_law_26 : decode cL_law 26 = .ok (.istore 5, 2) := by decide +kernel
theorem dL_law_28 : decode cL_law 28 = .ok (.iconst 0, 1) := by decide +kernel
theorem dL_law_29 : decode cL_law 29 = .ok (.istore 6, 2) := by decide +kernel
theorem dL_law_31 : decode cL_law 31 = .ok (.iload 6, 2) := by decide +kernel
theorem dL_law_33 : decode cL_law 33 = .ok (.bipush 10, 2) := by decide +kernel
theorem dL_law_35 : decode cL_law 35 = .ok (.if_icmp .ge 65, 3) := by decide +kernel
theorem dL_law_38 : decode cL_law 38 = .ok (.aload 4, 2) := by decide +kernel
theorem dL_law_40 : decode cL_law 40 = .ok (.iload 6, 2) := by decide +kernel
theorem dL_law_42 : decode cL_law 42 = .ok (.iload 6, 2) := by decide +kernel
theorem dL_law_44 : decode cL_law 44 = .ok (.iastore, 1) := by decide +kernel
theorem dL_law_45 : decode cL_law 45 = .ok (.aload_n 3, 1) := by decide +kernel
theorem dL_law_46 : decode cL_law 46 = .ok (.iload 6, 2) := by decide +kernel
theorem dL_law_48 : decode cL_law 48 = .ok (.iload 6, 2) := by decide +kernel
theorem dL_law_50 : decode cL_law 50 = .ok (.ifCond .eq 10, 3) := by decide +kernel
theorem dL_law_53 : decode cL_law 53 = .ok (.iload 6, 2) := by decide +kernel
theorem dL_law_55 : decode cL_law 55 = .ok (.bipush 9, 2) := by decide +kernel
theorem dL_law_57 : decode cL_law 57 = .ok (.if_icmp .ne 7, 3) := by decide +kernel
theorem dL_law_60 : decode cL_law 60 = .ok (.iconst 0, 1) := by decide +kernel
theorem dL_law_61 : decode cL_law 61 = .ok (.goto 15, 3) := by decide +kernel
theorem dL_law_64 : decode cL_law 64 = .ok (.iconst 1, 1) := by decide +kernel
theorem dL_law_65 : decode cL_law 65 = .ok (.aload_n 0, 1) := by decide +kernel
theorem dL_law_66 : decode cL_law 66 = .ok (.iload 6, 2) := by decide +kernel
theorem dL_law_68 : decode cL_law 68 = .ok (.invokestatic 34, 3) := by decide +kernel
theorem dL_law_71 : decode cL_law 71 = .ok (.iconst 5, 1) := by decide +kernel
theorem dL_law_72 : decode cL_law 72 = .ok (.invokestatic 40, 3) := by decide +kernel
theorem dL_law_75 : decode cL_law 75 = .ok (.iadd, 1) := by decide +kernel
theorem dL_law_76 : decode cL_law 76 = .ok (.iastore, 1) := by decide +kernel
theorem dL_law_77 : decode cL_law 77 = .ok (.aload_n 1, 1) := by decide +kernel
theorem dL_law_78 : decode cL_law 78 = .ok (.iload 6, 2) := by decide +kernel
theorem dL_law_80 : decode cL_law 80 = .ok (.aload_n 3, 1) := by decide +kernel
theorem dL_law_81 : decode cL_law 81 = .ok (.iload 6, 2) := by decide +kernel
theorem dL_law_83 : decode cL_law 83 = .ok (.iaload, 1) := by decide +kernel
theorem dL_law_84 : decode cL_law 84 = .ok (.invokevirtual 44, 3) := by decide +kernel
theorem dL_law_87 : decode cL_law 87 = .ok (.iload 6, 2) := by decide +kernel
theorem dL_law_89 : decode cL_law 89 = .ok (.if_icmp .eq 5, 3) := by decide +kernel
theorem dL_law_92 : decode cL_law 92 = .ok (.iconst 0, 1) := by decide +kernel
theorem dL_law_93 : decode cL_law 93 = .ok (.ireturn, 1) := by decide +kernel
theorem dL_law_94 : decode cL_law 94 = .ok (.iinc 6 1, 3) := by decide +kernel
theorem dL_law_97 : decode cL_law 97 = .ok (.goto (-66), 3) := by decide +kernel
theorem dL_law_100 : decode cL_law 100 = .ok (.bipush 6, 2) := by decide +kernel
theorem dL_law_102 : decode cL_law 102 = .ok (.newarray .int, 2) := by decide +kernel
theorem dL_law_104 : decode cL_law 104 = .ok (.astore 6, 2) := by decide +kernel
theorem dL_law_106 : decode cL_law 106 = .ok (.iconst 0, 1) := by decide +kernel
theorem dL_law_107 : decode cL_law 107 = .ok (.istore 7, 2) := by decide +kernel
theorem dL_law_109 : decode cL_law 109 = .ok (.iload 7, 2) := by decide +kernel
theorem dL_law_111 : decode cL_law 111 = .ok (.bipush 18, 2) := by decide +kernel
theorem dL_law_113 : decode cL_law 113 = .ok (.if_icmp .ge 724, 3) := by decide +kernel
theorem dL_law_116 : decode cL_law 116 = .ok (.aload_n 0, 1) := by decide +kernel
theorem dL_law_117 : decode cL_law 117 = .ok (.bipush 10, 2) := by decide +kernel
theorem dL_law_119 : decode cL_law 119 = .ok (.iload 7, 2) := by decide +kernel
theorem dL_law_121 : decode cL_law 121 = .ok (.iadd, 1) := by decide +kernel
theorem dL_law_122 : decode cL_law 122 = .ok (.invokestatic 34, 3) := by decide +kernel
theorem dL_law_125 : decode cL_law 125 = .ok (.istore 8, 2) := by decide +kernel
theorem dL_law_127 : decode cL_law 127 = .ok (.iload 8, 2) := by decide +kernel
theorem dL_law_129 : decode cL_law 129 = .ok (.iconst 2, 1) := by decide +kernel
theorem dL_law_130 : decode cL_law 130 = .ok (.ishr, 1) := by decide +kernel
theorem dL_law_131 : decode cL_law 131 = .ok (.iload 5, 2) := by decide +kernel
theorem dL_law_133 : decode cL_law 133 = .ok (.invokestatic 40, 3) := by decide +kernel
theorem dL_law_136 : decode cL_law 136 = .ok (.istore 9, 2) := by decide +kernel
theorem dL_law_138 : decode cL_law 138 = .ok (.iload 8, 2) := by decide +kernel
theorem dL_law_140 : decode cL_law 140 = .ok (.bipush 7, 2) := by decide +kernel
theorem dL_law_142 : decode cL_law 142 = .ok (.ishr, 1) := by decide +kernel
theorem dL_law_143 : decode cL_law 143 = .ok (.bipush 7, 2) := by decide +kernel
theorem dL_law_145 : decode cL_law 145 = .ok (.invokestatic 40, 3) := by decide +kernel
theorem dL_law_148 : decode cL_law 148 = .ok (.iconst 1, 1) := by decide +kernel
theorem dL_law_149 : decode cL_law 149 = .ok (.isub, 1) := by decide +kernel
theorem dL_law_150 : decode cL_law 150 = .ok (.istore 10, 2) := by decide +kernel
theorem dL_law_152 : decode cL_law 152 = .ok (.iconst 1, 1) := by decide +kernel
theorem dL_law_153 : decode cL_law 153 = .ok (.iload 8, 2) := by decide +kernel
theorem dL_law_155 : decode cL_law 155 = .ok (.bipush 11, 2) := by decide +kernel
theorem dL_law_157 : decode cL_law 157 = .ok (.ishr, 1) := by decide +kernel
theorem dL_law_158 : decode cL_law 158 = .ok (.bipush 8, 2) := by decide +kernel
theorem dL_law_160 : decode cL_law 160 = .ok (.invokestatic 40, 3) := by decide +kernel
theorem dL_law_163 : decode cL_law 163 = .ok (.iadd, 1) := by decide +kernel
theorem dL_law_164 : decode cL_law 164 = .ok (.istore 11, 2) := by decide +kernel
theorem dL_law_166 : decode cL_law 166 = .ok (.aload 4, 2) := by decide +kernel
theorem dL_law_168 : decode cL_law 168 = .ok (.iload 9, 2) := by decide +kernel
theorem dL_law_170 : decode cL_law 170 = .ok (.iaload, 1) := by decide +kernel
theorem dL_law_171 : decode cL_law 171 = .ok (.ifCond .ne 7, 3) := by decide +kernel
theorem dL_law_174 : decode cL_law 174 = .ok (.iconst 1, 1) := by decide +kernel
theorem dL_law_175 : decode cL_law 175 = .ok (.goto 18, 3) := by decide +kernel
theorem dL_law_178 : decode cL_law 178 = .ok (.aload 4, 2) := by decide +kernel
theorem dL_law_180 : decode cL_law 180 = .ok (.iload 9, 2) := by decide +kernel
theorem dL_law_182 : decode cL_law 182 = .ok (.iaload, 1) := by decide +kernel
theorem dL_law_183 : decode cL_law 183 = .ok (.bipush 9, 2) := by decide +kernel
theorem dL_law_185 : decode cL_law 185 = .ok (.if_icmp .ne 7, 3) := by decide +kernel
theorem dL_law_188 : decode cL_law 188 = .ok (.iconst 2, 1) := by decide +kernel
theorem dL_law_189 : decode cL_law 189 = .ok (.goto 4, 3) := by decide +kernel
theorem dL_law_192 : decode cL_law 192 = .ok (.iconst 0, 1) := by decide +kernel
theorem dL_law_193 : decode cL_law 193 = .ok (.istore 12, 2) := by decide +kernel
theorem dL_law_195 : decode cL_law 195 = .ok (.iload 8, 2) := by decide +kernel
theorem dL_law_197 : decode cL_law 197 = .ok (.iconst 3, 1) := by decide +kernel
theorem dL_law_198 : decode cL_law 198 = .ok (.iand, 1) := by decide +kernel
theorem dL_law_199 : decode cL_law 199 = .ok (.iconst 2, 1) := by decide +kernel
theorem dL_law_200 : decode cL_law 200 = .ok (.if_icmp .ge 117, 3) := by decide +kernel
theorem dL_law_203 : decode cL_law 203 = .ok (.iload 12, 2) := by decide +kernel
theorem dL_law_205 : decode cL_law 205 = .ok (.ifCond .le 8, 3) := by decide +kernel
theorem dL_law_208 : decode cL_law 208 = .ok (.iload 12, 2) := by decide +kernel
theorem dL_law_210 : decode cL_law 210 = .ok (.goto 39, 3) := by decide +kernel
theorem dL_law_213 : decode cL_law 213 = .ok (.iload 10, 2) := by decide +kernel
theorem dL_law_215 : decode cL_law 215 = .ok (.ifCond .lt 12, 3) := by decide +kernel
theorem dL_law_218 : decode cL_law 218 = .ok (.iload 10, 2) := by decide +kernel
theorem dL_law_220 : decode cL_law 220 = .ok (.aload_n 3, 1) := by decide +kernel
theorem dL_law_221 : decode cL_law 221 = .ok (.iload 9, 2) := by decide +kernel
theorem dL_law_223 : decode cL_law 223 = .ok (.iaload, 1) := by decide +kernel
theorem dL_law_224 : decode cL_law 224 = .ok (.if_icmp .lt 7, 3) := by decide +kernel
theorem dL_law_227 : decode cL_law 227 = .ok (.iconst 3, 1) := by decide +kernel
theorem dL_law_228 : decode cL_law 228 = .ok (.goto 21, 3) := by decide +kernel
theorem dL_law_231 : decode cL_law 231 = .ok (.iload 11, 2) := by decide +kernel
theorem dL_law_233 : decode cL_law 233 = .ok (.aload 4, 2) := by decide +kernel
theorem dL_law_235 : decode cL_law 235 = .ok (.iload 9, 2) := by decide +kernel
theorem dL_law_237 : decode cL_law 237 = .ok (.iaload, 1) := by decide +kernel
theorem dL_law_238 : decode cL_law 238 = .ok (.invokestatic 47, 3) := by decide +kernel
theorem dL_law_241 : decode cL_law 241 = .ok (.ifCond .eq 7, 3) := by decide +kernel
theorem dL_law_244 : decode cL_law 244 = .ok (.iconst 0, 1) := by decide +kernel
theorem dL_law_245 : decode cL_law 245 = .ok (.goto 4, 3) := by decide +kernel
theorem dL_law_248 : decode cL_law 248 = .ok (.iconst 4, 1) := by decide +kernel
theorem dL_law_249 : decode cL_law 249 = .ok (.istore 13, 2) := by decide +kernel
theorem dL_law_251 : decode cL_law 251 = .ok (.aload_n 1, 1) := by decide +kernel
theorem dL_law_252 : decode cL_law 252 = .ok (.iload 9, 2) := by decide +kernel
theorem dL_law_254 : decode cL_law 254 = .ok (.iload 10, 2) := by decide +kernel
theorem dL_law_256 : decode cL_law 256 = .ok (.iload 11, 2) := by decide +kernel
theorem dL_law_258 : decode cL_law 258 = .ok (.iload 8, 2) := by decide +kernel
theorem dL_law_260 : decode cL_law 260 = .ok (.invokevirtual 51, 3) := by decide +kernel
theorem dL_law_263 : decode cL_law 263 = .ok (.iload 13, 2) := by decide +kernel
theorem dL_law_265 : decode cL_law 265 = .ok (.if_icmp .eq 5, 3) := by decide +kernel
theorem dL_law_268 : decode cL_law 268 = .ok (.iconst 0, 1) := by decide +kernel
theorem dL_law_269 : decode cL_law 269 = .ok (.ireturn, 1) := by decide +kernel
theorem dL_law_270 : decode cL_law 270 = .ok (.iload 13, 2) := by decide +kernel
theorem dL_law_272 : decode cL_law 272 = .ok (.ifCond .ne 377, 3) := by decide +kernel
theorem dL_law_275 : decode cL_law 275 = .ok (.aload_n 2, 1) := by decide +kernel
theorem dL_law_276 : decode cL_law 276 = .ok (.iconst 5, 1) := by decide +kernel
theorem dL_law_277 : decode cL_law 277 = .ok (.iload 9, 2) := by decide +kernel
theorem dL_law_279 : decode cL_law 279 = .ok (.imul, 1) := by decide +kernel
theorem dL_law_280 : decode cL_law 280 = .ok (.iload 10, 2) := by decide +kernel
theorem dL_law_282 : decode cL_law 282 = .ok (.iadd, 1) := by decide +kernel
theorem dL_law_283 : decode cL_law 283 = .ok (.aload 4, 2) := by decide +kernel
theorem dL_law_285 : decode cL_law 285 = .ok (.iload 9, 2) := by decide +kernel
theorem dL_law_287 : decode cL_law 287 = .ok (.iaload, 1) := by decide +kernel
theorem dL_law_288 : decode cL_law 288 = .ok (.bipush 7, 2) := by decide +kernel
theorem dL_law_290 : decode cL_law 290 = .ok (.if_icmp .ne 15, 3) := by decide +kernel
theorem dL_law_293 : decode cL_law 293 = .ok (.iload 11, 2) := by decide +kernel
theorem dL_law_295 : decode cL_law 295 = .ok (.iload 8, 2) := by decide +kernel
theorem dL_law_297 : decode cL_law 297 = .ok (.invokestatic 55, 3) := by decide +kernel
theorem dL_law_300 : decode cL_law 300 = .ok (.l2f, 1) := by decide +kernel
theorem dL_law_301 : decode cL_law 301 = .ok (.f2d, 1) := by decide +kernel
theorem dL_law_302 : decode cL_law 302 = .ok (.goto 11, 3) := by decide +kernel
theorem dL_law_305 : decode cL_law 305 = .ok (.iload 11, 2) := by decide +kernel
theorem dL_law_307 : decode cL_law 307 = .ok (.iload 8, 2) := by decide +kernel
theorem dL_law_309 : decode cL_law 309 = .ok (.invokestatic 55, 3) := by decide +kernel
theorem dL_law_312 : decode cL_law 312 = .ok (.l2d, 1) := by decide +kernel
theorem dL_law_313 : decode cL_law 313 = .ok (.dastore, 1) := by decide +kernel
theorem dL_law_314 : decode cL_law 314 = .ok (.goto 335, 3) := by decide +kernel
theorem dL_law_317 : decode cL_law 317 = .ok (.iload 8, 2) := by decide +kernel
theorem dL_law_319 : decode cL_law 319 = .ok (.iconst 3, 1) := by decide +kernel
theorem dL_law_320 : decode cL_law 320 = .ok (.iand, 1) := by decide +kernel
theorem dL_law_321 : decode cL_law 321 = .ok (.iconst 2, 1) := by decide +kernel
theorem dL_law_322 : decode cL_law 322 = .ok (.if_icmp .ne 183, 3) := by decide +kernel
theorem dL_law_325 : decode cL_law 325 = .ok (.iload 8, 2) := by decide +kernel
theorem dL_law_327 : decode cL_law 327 = .ok (.bipush 15, 2) := by decide +kernel
theorem dL_law_329 : decode cL_law 329 = .ok (.ishr, 1) := by decide +kernel
theorem dL_law_330 : decode cL_law 330 = .ok (.iload 5, 2) := by decide +kernel
theorem dL_law_332 : decode cL_law 332 = .ok (.invokestatic 40, 3) := by decide +kernel
theorem dL_law_335 : decode cL_law 335 = .ok (.istore 14, 2) := by decide +kernel
theorem dL_law_337 : decode cL_law 337 = .ok (.iload 8, 2) := by decide +kernel
theorem dL_law_339 : decode cL_law 339 = .ok (.bipush 19, 2) := by decide +kernel
theorem dL_law_341 : decode cL_law 341 = .ok (.ishr, 1) := by decide +kernel
theorem dL_law_342 : decode cL_law 342 = .ok (.iconst 4, 1) := by decide +kernel
theorem dL_law_343 : decode cL_law 343 = .ok (.invokestatic 40, 3) := by decide +kernel
theorem dL_law_346 : decode cL_law 346 = .ok (.istore 15, 2) := by decide +kernel
theorem dL_law_348 : decode cL_law 348 = .ok (.aload 4, 2) := by decide +kernel
theorem dL_law_350 : decode cL_law 350 = .ok (.iload 9, 2) := by decide +kernel
theorem dL_law_352 : decode cL_law 352 = .ok (.iaload, 1) := by decide +kernel
theorem dL_law_353 : decode cL_law 353 = .ok (.ifCond .eq 11, 3) := by decide +kernel
theorem dL_law_356 : decode cL_law 356 = .ok (.aload 4, 2) := by decide +kernel
theorem dL_law_358 : decode cL_law 358 = .ok (.iload 14, 2) := by decide +kernel
theorem dL_law_360 : decode cL_law 360 = .ok (.iaload, 1) := by decide +kernel
theorem dL_law_361 : decode cL_law 361 = .ok (.ifCond .ne 7, 3) := by decide +kernel
theorem dL_law_364 : decode cL_law 364 = .ok (.iconst 1, 1) := by decide +kernel
theorem dL_law_365 : decode cL_law 365 = .ok (.goto 4, 3) := by decide +kernel
theorem dL_law_368 : decode cL_law 368 = .ok (.iconst 0, 1) := by decide +kernel
theorem dL_law_369 : decode cL_law 369 = .ok (.istore 16, 2) := by decide +kernel
theorem dL_law_371 : decode cL_law 371 = .ok (.iload 16, 2) := by decide +kernel
theorem dL_law_373 : decode cL_law 373 = .ok (.ifCond .eq 7, 3) := by decide +kernel
theorem dL_law_376 : decode cL_law 376 = .ok (.iconst 1, 1) := by decide +kernel
theorem dL_law_377 : decode cL_law 377 = .ok (.goto 61, 3) := by decide +kernel
theorem dL_law_380 : decode cL_law 380 = .ok (.aload 4, 2) := by decide +kernel
theorem dL_law_382 : decode cL_law 382 = .ok (.iload 9, 2) := by decide +kernel
theorem dL_law_384 : decode cL_law 384 = .ok (.iaload, 1) := by decide +kernel
theorem dL_law_385 : decode cL_law 385 = .ok (.aload 4, 2) := by decide +kernel
theorem dL_law_387 : decode cL_law 387 = .ok (.iload 14, 2) := by decide +kernel
theorem dL_law_389 : decode cL_law 389 = .ok (.iaload, 1) := by decide +kernel
theorem dL_law_390 : decode cL_law 390 = .ok (.if_icmp .ne 13, 3) := by decide +kernel
theorem dL_law_393 : decode cL_law 393 = .ok (.aload 4, 2) := by decide +kernel
theorem dL_law_395 : decode cL_law 395 = .ok (.iload 9, 2) := by decide +kernel
theorem dL_law_397 : decode cL_law 397 = .ok (.iaload, 1) := by decide +kernel
theorem dL_law_398 : decode cL_law 398 = .ok (.bipush 9, 2) := by decide +kernel
theorem dL_law_400 : decode cL_law 400 = .ok (.if_icmp .ne 7, 3) := by decide +kernel
theorem dL_law_403 : decode cL_law 403 = .ok (.iconst 5, 1) := by decide +kernel
theorem dL_law_404 : decode cL_law 404 = .ok (.goto 34, 3) := by decide +kernel
theorem dL_law_407 : decode cL_law 407 = .ok (.iload 10, 2) := by decide +kernel
theorem dL_law_409 : decode cL_law 409 = .ok (.ifCond .lt 24, 3) := by decide +kernel
theorem dL_law_412 : decode cL_law 412 = .ok (.iload 10, 2) := by decide +kernel
theorem dL_law_414 : decode cL_law 414 = .ok (.iload 15, 2) := by decide +kernel
theorem dL_law_416 : decode cL_law 416 = .ok (.iadd, 1) := by decide +kernel
theorem dL_law_417 : decode cL_law 417 = .ok (.aload_n 3, 1) := by decide +kernel
theorem dL_law_418 : decode cL_law 418 = .ok (.iload 9, 2) := by decide +kernel
theorem dL_law_420 : decode cL_law 420 = .ok (.iaload, 1) := by decide +kernel
theorem dL_law_421 : decode cL_law 421 = .ok (.if_icmp .gt 12, 3) := by decide +kernel
theorem dL_law_424 : decode cL_law 424 = .ok (.iload 15, 2) := by decide +kernel
theorem dL_law_426 : decode cL_law 426 = .ok (.aload_n 3, 1) := by decide +kernel
theorem dL_law_427 : decode cL_law 427 = .ok (.iload 14, 2) := by decide +kernel
theorem dL_law_429 : decode cL_law 429 = .ok (.iaload, 1) := by decide +kernel
theorem dL_law_430 : decode cL_law 430 = .ok (.if_icmp .le 7, 3) := by decide +kernel
theorem dL_law_433 : decode cL_law 433 = .ok (.iconst 3, 1) := by decide +kernel
theorem dL_law_434 : decode cL_law 434 = .ok (.goto 4, 3) := by decide +kernel
theorem dL_law_437 : decode cL_law 437 = .ok (.iconst 0, 1) := by decide +kernel
theorem dL_law_438 : decode cL_law 438 = .ok (.istore 13, 2) := by decide +kernel
theorem dL_law_440 : decode cL_law 440 = .ok (.aload_n 1, 1) := by decide +kernel
theorem dL_law_441 : decode cL_law 441 = .ok (.iload 9, 2) := by decide +kernel
theorem dL_law_443 : decode cL_law 443 = .ok (.iload 10, 2) := by decide +kernel
theorem dL_law_445 : decode cL_law 445 = .ok (.iload 14, 2) := by decide +kernel
theorem dL_law_447 : decode cL_law 447 = .ok (.iconst 0, 1) := by decide +kernel
theorem dL_law_448 : decode cL_law 448 = .ok (.iload 15, 2) := by decide +kernel
theorem dL_law_450 : decode cL_law 450 = .ok (.invokevirtual 59, 3) := by decide +kernel
theorem dL_law_453 : decode cL_law 453 = .ok (.iload 13, 2) := by decide +kernel
theorem dL_law_455 : decode cL_law 455 = .ok (.if_icmp .eq 5, 3) := by decide +kernel
theorem dL_law_458 : decode cL_law 458 = .ok (.iconst 0, 1) := by decide +kernel
theorem dL_law_459 : decode cL_law 459 = .ok (.ireturn, 1) := by decide +kernel
theorem dL_law_460 : decode cL_law 460 = .ok (.iconst 0, 1) := by decide +kernel
theorem dL_law_461 : decode cL_law 461 = .ok (.istore 17, 2) := by decide +kernel
theorem dL_law_463 : decode cL_law 463 = .ok (.iload 17, 2) := by decide +kernel
theorem dL_law_465 : decode cL_law 465 = .ok (.iload 15, 2) := by decide +kernel
theorem dL_law_467 : decode cL_law 467 = .ok (.if_icmp .ge 35, 3) := by decide +kernel
theorem dL_law_470 : decode cL_law 470 = .ok (.iload 13, 2) := by decide +kernel
theorem dL_law_472 : decode cL_law 472 = .ok (.ifCond .ne 30, 3) := by decide +kernel
theorem dL_law_475 : decode cL_law 475 = .ok (.aload_n 2, 1) := by decide +kernel
theorem dL_law_476 : decode cL_law 476 = .ok (.iconst 5, 1) := by decide +kernel
theorem dL_law_477 : decode cL_law 477 = .ok (.iload 14, 2) := by decide +kernel
theorem dL_law_479 : decode cL_law 479 = .ok (.imul, 1) := by decide +kernel
theorem dL_law_480 : decode cL_law 480 = .ok (.iload 17, 2) := by decide +kernel
theorem dL_law_482 : decode cL_law 482 = .ok (.iadd, 1) := by decide +kernel
theorem dL_law_483 : decode cL_law 483 = .ok (.aload_n 2, 1) := by decide +kernel
theorem dL_law_484 : decode cL_law 484 = .ok (.iconst 5, 1) := by decide +kernel
theorem dL_law_485 : decode cL_law 485 = .ok (.iload 9, 2) := by decide +kernel
theorem dL_law_487 : decode cL_law 487 = .ok (.imul, 1) := by decide +kernel
theorem dL_law_488 : decode cL_law 488 = .ok (.iload 10, 2) := by decide +kernel
theorem dL_law_490 : decode cL_law 490 = .ok (.iadd, 1) := by decide +kernel
theorem dL_law_491 : decode cL_law 491 = .ok (.iload 17, 2) := by decide +kernel
theorem dL_law_493 : decode cL_law 493 = .ok (.iadd, 1) := by decide +kernel
theorem dL_law_494 : decode cL_law 494 = .ok (.daload, 1) := by decide +kernel
theorem dL_law_495 : decode cL_law 495 = .ok (.dastore, 1) := by decide +kernel
theorem dL_law_496 : decode cL_law 496 = .ok (.iinc 17 1, 3) := by decide +kernel
theorem dL_law_499 : decode cL_law 499 = .ok (.goto (-36), 3) := by decide +kernel
theorem dL_law_502 : decode cL_law 502 = .ok (.goto 147, 3) := by decide +kernel
theorem dL_law_505 : decode cL_law 505 = .ok (.iload 5, 2) := by decide +kernel
theorem dL_law_507 : decode cL_law 507 = .ok (.bipush 12, 2) := by decide +kernel
theorem dL_law_509 : decode cL_law 509 = .ok (.if_icmp .ne 6, 3) := by decide +kernel
theorem dL_law_512 : decode cL_law 512 = .ok (.goto 319, 3) := by decide +kernel
theorem dL_law_515 : decode cL_law 515 = .ok (.iload 12, 2) := by decide +kernel
theorem dL_law_517 : decode cL_law 517 = .ok (.ifCond .le 8, 3) := by decide +kernel
theorem dL_law_520 : decode cL_law 520 = .ok (.iload 12, 2) := by decide +kernel
theorem dL_law_522 : decode cL_law 522 = .ok (.goto 21, 3) := by decide +kernel
theorem dL_law_525 : decode cL_law 525 = .ok (.aload 4, 2) := by decide +kernel
theorem dL_law_527 : decode cL_law 527 = .ok (.iload 9, 2) := by decide +kernel
theorem dL_law_529 : decode cL_law 529 = .ok (.iaload, 1) := by decide +kernel
theorem dL_law_530 : decode cL_law 530 = .ok (.iload 11, 2) := by decide +kernel
theorem dL_law_532 : decode cL_law 532 = .ok (.invokestatic 47, 3) := by decide +kernel
theorem dL_law_535 : decode cL_law 535 = .ok (.ifCond .eq 7, 3) := by decide +kernel
theorem dL_law_538 : decode cL_law 538 = .ok (.iconst 0, 1) := by decide +kernel
theorem dL_law_539 : decode cL_law 539 = .ok (.goto 4, 3) := by decide +kernel
theorem dL_law_542 : decode cL_law 542 = .ok (.iconst 4, 1) := by decide +kernel
theorem dL_law_543 : decode cL_law 543 = .ok (.istore 13, 2) := by decide +kernel
theorem dL_law_545 : decode cL_law 545 = .ok (.aload_n 1, 1) := by decide +kernel
theorem dL_law_546 : decode cL_law 546 = .ok (.iload 9, 2) := by decide +kernel
theorem dL_law_548 : decode cL_law 548 = .ok (.iload 11, 2) := by decide +kernel
theorem dL_law_550 : decode cL_law 550 = .ok (.invokevirtual 63, 3) := by decide +kernel
theorem dL_law_553 : decode cL_law 553 = .ok (.iload 13, 2) := by decide +kernel
theorem dL_law_555 : decode cL_law 555 = .ok (.ifCond .ne 8, 3) := by decide +kernel
theorem dL_law_558 : decode cL_law 558 = .ok (.iload 5, 2) := by decide +kernel
theorem dL_law_560 : decode cL_law 560 = .ok (.goto 4, 3) := by decide +kernel
theorem dL_law_563 : decode cL_law 563 = .ok (.iconst (-1), 1) := by decide +kernel
theorem dL_law_564 : decode cL_law 564 = .ok (.if_icmp .eq 5, 3) := by decide +kernel
theorem dL_law_567 : decode cL_law 567 = .ok (.iconst 0, 1) := by decide +kernel
theorem dL_law_568 : decode cL_law 568 = .ok (.ireturn, 1) := by decide +kernel
theorem dL_law_569 : decode cL_law 569 = .ok (.iload 13, 2) := by decide +kernel
theorem dL_law_571 : decode cL_law 571 = .ok (.ifCond .ne 78, 3) := by decide +kernel
theorem dL_law_574 : decode cL_law 574 = .ok (.aload 4, 2) := by decide +kernel
theorem dL_law_576 : decode cL_law 576 = .ok (.iload 5, 2) := by decide +kernel
theorem dL_law_578 : decode cL_law 578 = .ok (.iload 11, 2) := by decide +kernel
theorem dL_law_580 : decode cL_law 580 = .ok (.iastore, 1) := by decide +kernel
theorem dL_law_581 : decode cL_law 581 = .ok (.aload_n 3, 1) := by decide +kernel
theorem dL_law_582 : decode cL_law 582 = .ok (.iload 5, 2) := by decide +kernel
theorem dL_law_584 : decode cL_law 584 = .ok (.aload_n 3, 1) := by decide +kernel
theorem dL_law_585 : decode cL_law 585 = .ok (.iload 9, 2) := by decide +kernel
theorem dL_law_587 : decode cL_law 587 = .ok (.iaload, 1) := by decide +kernel
theorem dL_law_588 : decode cL_law 588 = .ok (.iastore, 1) := by decide +kernel
theorem dL_law_589 : decode cL_law 589 = .ok (.iconst 0, 1) := by decide +kernel
theorem dL_law_590 : decode cL_law 590 = .ok (.istore 14, 2) := by decide +kernel
theorem dL_law_592 : decode cL_law 592 = .ok (.iload 14, 2) := by decide +kernel
theorem dL_law_594 : decode cL_law 594 = .ok (.aload_n 3, 1) := by decide +kernel
theorem dL_law_595 : decode cL_law 595 = .ok (.iload 9, 2) := by decide +kernel
theorem dL_law_597 : decode cL_law 597 = .ok (.iaload, 1) := by decide +kernel
theorem dL_law_598 : decode cL_law 598 = .ok (.if_icmp .ge 48, 3) := by decide +kernel
theorem dL_law_601 : decode cL_law 601 = .ok (.aload_n 2, 1) := by decide +kernel
theorem dL_law_602 : decode cL_law 602 = .ok (.iconst 5, 1) := by decide +kernel
theorem dL_law_603 : decode cL_law 603 = .ok (.iload 5, 2) := by decide +kernel
theorem dL_law_605 : decode cL_law 605 = .ok (.imul, 1) := by decide +kernel
theorem dL_law_606 : decode cL_law 606 = .ok (.iload 14, 2) := by decide +kernel
theorem dL_law_608 : decode cL_law 608 = .ok (.iadd, 1) := by decide +kernel
theorem dL_law_609 : decode cL_law 609 = .ok (.iload 11, 2) := by decide +kernel
theorem dL_law_611 : decode cL_law 611 = .ok (.bipush 7, 2) := by decide +kernel
theorem dL_law_613 : decode cL_law 613 = .ok (.if_icmp .ne 17, 3) := by decide +kernel
theorem dL_law_616 : decode cL_law 616 = .ok (.aload_n 2, 1) := by decide +kernel
theorem dL_law_617 : decode cL_law 617 = .ok (.iconst 5, 1) := by decide +kernel
theorem dL_law_618 : decode cL_law 618 = .ok (.iload 9, 2) := by decide +kernel
theorem dL_law_620 : decode cL_law 620 = .ok (.imul, 1) := by decide +kernel
theorem dL_law_621 : decode cL_law 621 = .ok (.iload 14, 2) := by decide +kernel
theorem dL_law_623 : decode cL_law 623 = .ok (.iadd, 1) := by decide +kernel
theorem dL_law_624 : decode cL_law 624 = .ok (.daload, 1) := by decide +kernel
theorem dL_law_625 : decode cL_law 625 = .ok (.d2f, 1) := by decide +kernel
theorem dL_law_626 : decode cL_law 626 = .ok (.f2d, 1) := by decide +kernel
theorem dL_law_627 : decode cL_law 627 = .ok (.goto 12, 3) := by decide +kernel
theorem dL_law_630 : decode cL_law 630 = .ok (.aload_n 2, 1) := by decide +kernel
theorem dL_law_631 : decode cL_law 631 = .ok (.iconst 5, 1) := by decide +kernel
theorem dL_law_632 : decode cL_law 632 = .ok (.iload 9, 2) := by decide +kernel
theorem dL_law_634 : decode cL_law 634 = .ok (.imul, 1) := by decide +kernel
theorem dL_law_635 : decode cL_law 635 = .ok (.iload 14, 2) := by decide +kernel
theorem dL_law_637 : decode cL_law 637 = .ok (.iadd, 1) := by decide +kernel
theorem dL_law_638 : decode cL_law 638 = .ok (.daload, 1) := by decide +kernel
theorem dL_law_639 : decode cL_law 639 = .ok (.dastore, 1) := by decide +kernel
theorem dL_law_640 : decode cL_law 640 = .ok (.iinc 14 1, 3) := by decide +kernel
theorem dL_law_643 : decode cL_law 643 = .ok (.goto (-51), 3) := by decide +kernel
theorem dL_law_646 : decode cL_law 646 = .ok (.iinc 5 1, 3) := by decide +kernel
theorem dL_law_649 : decode cL_law 649 = .ok (.aload 6, 2) := by decide +kernel
theorem dL_law_651 : decode cL_law 651 = .ok (.iload 13, 2) := by decide +kernel
theorem dL_law_653 : decode cL_law 653 = .ok (.dup2, 1) := by decide +kernel
theorem dL_law_654 : decode cL_law 654 = .ok (.iaload, 1) := by decide +kernel
theorem dL_law_655 : decode cL_law 655 = .ok (.iconst 1, 1) := by decide +kernel
theorem dL_law_656 : decode cL_law 656 = .ok (.iadd, 1) := by decide +kernel
theorem dL_law_657 : decode cL_law 657 = .ok (.iastore, 1) := by decide +kernel
theorem dL_law_658 : decode cL_law 658 = .ok (.aload_n 1, 1) := by decide +kernel
theorem dL_law_659 : decode cL_law 659 = .ok (.invokevirtual 66, 3) := by decide +kernel
theorem dL_law_662 : decode cL_law 662 = .ok (.iload 13, 2) := by decide +kernel
theorem dL_law_664 : decode cL_law 664 = .ok (.if_icmp .eq 5, 3) := by decide +kernel
theorem dL_law_667 : decode cL_law 667 = .ok (.iconst 0, 1) := by decide +kernel
theorem dL_law_668 : decode cL_law 668 = .ok (.ireturn, 1) := by decide +kernel
theorem dL_law_669 : decode cL_law 669 = .ok (.iconst 0, 1) := by decide +kernel
theorem dL_law_670 : decode cL_law 670 = .ok (.istore 14, 2) := by decide +kernel
theorem dL_law_672 : decode cL_law 672 = .ok (.iload 14, 2) := by decide +kernel
theorem dL_law_674 : decode cL_law 674 = .ok (.iload 5, 2) := by decide +kernel
theorem dL_law_676 : decode cL_law 676 = .ok (.if_icmp .ge 123, 3) := by decide +kernel
theorem dL_law_679 : decode cL_law 679 = .ok (.dconst 0, 1) := by decide +kernel
theorem dL_law_680 : decode cL_law 680 = .ok (.dstore 15, 2) := by decide +kernel
theorem dL_law_682 : decode cL_law 682 = .ok (.iconst 0, 1) := by decide +kernel
theorem dL_law_683 : decode cL_law 683 = .ok (.istore 17, 2) := by decide +kernel
theorem dL_law_685 : decode cL_law 685 = .ok (.iload 17, 2) := by decide +kernel
theorem dL_law_687 : decode cL_law 687 = .ok (.aload_n 3, 1) := by decide +kernel
theorem dL_law_688 : decode cL_law 688 = .ok (.iload 14, 2) := by decide +kernel
theorem dL_law_690 : decode cL_law 690 = .ok (.iaload, 1) := by decide +kernel
theorem dL_law_691 : decode cL_law 691 = .ok (.if_icmp .ge 54, 3) := by decide +kernel
theorem dL_law_694 : decode cL_law 694 = .ok (.aload_n 1, 1) := by decide +kernel
theorem dL_law_695 : decode cL_law 695 = .ok (.iload 14, 2) := by decide +kernel
theorem dL_law_697 : decode cL_law 697 = .ok (.iload 17, 2) := by decide +kernel
theorem dL_law_699 : decode cL_law 699 = .ok (.invokevirtual 70, 3) := by decide +kernel
theorem dL_law_702 : decode cL_law 702 = .ok (.aload_n 2, 1) := by decide +kernel
theorem dL_law_703 : decode cL_law 703 = .ok (.iconst 5, 1) := by decide +kernel
theorem dL_law_704 : decode cL_law 704 = .ok (.iload 14, 2) := by decide +kernel
theorem dL_law_706 : decode cL_law 706 = .ok (.imul, 1) := by decide +kernel
theorem dL_law_707 : decode cL_law 707 = .ok (.iload 17, 2) := by decide +kernel
theorem dL_law_709 : decode cL_law 709 = .ok (.iadd, 1) := by decide +kernel
theorem dL_law_710 : decode cL_law 710 = .ok (.daload, 1) := by decide +kernel
theorem dL_law_711 : decode cL_law 711 = .ok (.dcmp .l, 1) := by decide +kernel
theorem dL_law_712 : decode cL_law 712 = .ok (.ifCond .eq 5, 3) := by decide +kernel
theorem dL_law_715 : decode cL_law 715 = .ok (.iconst 0, 1) := by decide +kernel
theorem dL_law_716 : decode cL_law 716 = .ok (.ireturn, 1) := by decide +kernel
theorem dL_law_717 : decode cL_law 717 = .ok (.aload 6, 2) := by decide +kernel
theorem dL_law_719 : decode cL_law 719 = .ok (.iconst 0, 1) := by decide +kernel
theorem dL_law_720 : decode cL_law 720 = .ok (.dup2, 1) := by decide +kernel
theorem dL_law_721 : decode cL_law 721 = .ok (.iaload, 1) := by decide +kernel
theorem dL_law_722 : decode cL_law 722 = .ok (.iconst 1, 1) := by decide +kernel
theorem dL_law_723 : decode cL_law 723 = .ok (.iadd, 1) := by decide +kernel
theorem dL_law_724 : decode cL_law 724 = .ok (.iastore, 1) := by decide +kernel
theorem dL_law_725 : decode cL_law 725 = .ok (.dload 15, 2) := by decide +kernel
theorem dL_law_727 : decode cL_law 727 = .ok (.aload_n 2, 1) := by decide +kernel
theorem dL_law_728 : decode cL_law 728 = .ok (.iconst 5, 1) := by decide +kernel
theorem dL_law_729 : decode cL_law 729 = .ok (.iload 14, 2) := by decide +kernel
theorem dL_law_731 : decode cL_law 731 = .ok (.imul, 1) := by decide +kernel
theorem dL_law_732 : decode cL_law 732 = .ok (.iload 17, 2) := by decide +kernel
theorem dL_law_734 : decode cL_law 734 = .ok (.iadd, 1) := by decide +kernel
theorem dL_law_735 : decode cL_law 735 = .ok (.daload, 1) := by decide +kernel
theorem dL_law_736 : decode cL_law 736 = .ok (.dadd, 1) := by decide +kernel
theorem dL_law_737 : decode cL_law 737 = .ok (.dstore 15, 2) := by decide +kernel
theorem dL_law_739 : decode cL_law 739 = .ok (.iinc 17 1, 3) := by decide +kernel
theorem dL_law_742 : decode cL_law 742 = .ok (.goto (-57), 3) := by decide +kernel
theorem dL_law_745 : decode cL_law 745 = .ok (.aload_n 1, 1) := by decide +kernel
theorem dL_law_746 : decode cL_law 746 = .ok (.iload 14, 2) := by decide +kernel
theorem dL_law_748 : decode cL_law 748 = .ok (.invokevirtual 74, 3) := by decide +kernel
theorem dL_law_751 : decode cL_law 751 = .ok (.dload 15, 2) := by decide +kernel
theorem dL_law_753 : decode cL_law 753 = .ok (.dcmp .l, 1) := by decide +kernel
theorem dL_law_754 : decode cL_law 754 = .ok (.ifCond .eq 5, 3) := by decide +kernel
theorem dL_law_757 : decode cL_law 757 = .ok (.iconst 0, 1) := by decide +kernel
theorem dL_law_758 : decode cL_law 758 = .ok (.ireturn, 1) := by decide +kernel
theorem dL_law_759 : decode cL_law 759 = .ok (.aload 6, 2) := by decide +kernel
theorem dL_law_761 : decode cL_law 761 = .ok (.aload 4, 2) := by decide +kernel
theorem dL_law_763 : decode cL_law 763 = .ok (.iload 14, 2) := by decide +kernel
theorem dL_law_765 : decode cL_law 765 = .ok (.iaload, 1) := by decide +kernel
theorem dL_law_766 : decode cL_law 766 = .ok (.ifCond .ne 7, 3) := by decide +kernel
theorem dL_law_769 : decode cL_law 769 = .ok (.iconst 1, 1) := by decide +kernel
theorem dL_law_770 : decode cL_law 770 = .ok (.goto 18, 3) := by decide +kernel
theorem dL_law_773 : decode cL_law 773 = .ok (.aload 4, 2) := by decide +kernel
theorem dL_law_775 : decode cL_law 775 = .ok (.iload 14, 2) := by decide +kernel
theorem dL_law_777 : decode cL_law 777 = .ok (.iaload, 1) := by decide +kernel
theorem dL_law_778 : decode cL_law 778 = .ok (.bipush 9, 2) := by decide +kernel
theorem dL_law_780 : decode cL_law 780 = .ok (.if_icmp .ne 7, 3) := by decide +kernel
theorem dL_law_783 : decode cL_law 783 = .ok (.iconst 2, 1) := by decide +kernel
theorem dL_law_784 : decode cL_law 784 = .ok (.goto 4, 3) := by decide +kernel
theorem dL_law_787 : decode cL_law 787 = .ok (.iconst 0, 1) := by decide +kernel
theorem dL_law_788 : decode cL_law 788 = .ok (.dup2, 1) := by decide +kernel
theorem dL_law_789 : decode cL_law 789 = .ok (.iaload, 1) := by decide +kernel
theorem dL_law_790 : decode cL_law 790 = .ok (.iconst 1, 1) := by decide +kernel
theorem dL_law_791 : decode cL_law 791 = .ok (.iadd, 1) := by decide +kernel
theorem dL_law_792 : decode cL_law 792 = .ok (.iastore, 1) := by decide +kernel
theorem dL_law_793 : decode cL_law 793 = .ok (.iinc 14 1, 3) := by decide +kernel
theorem dL_law_796 : decode cL_law 796 = .ok (.goto (-124), 3) := by decide +kernel
theorem dL_law_799 : decode cL_law 799 = .ok (.iconst 0, 1) := by decide +kernel
theorem dL_law_800 : decode cL_law 800 = .ok (.istore 14, 2) := by decide +kernel
theorem dL_law_802 : decode cL_law 802 = .ok (.iload 14, 2) := by decide +kernel
theorem dL_law_804 : decode cL_law 804 = .ok (.bipush 6, 2) := by decide +kernel
theorem dL_law_806 : decode cL_law 806 = .ok (.if_icmp .ge 25, 3) := by decide +kernel
theorem dL_law_809 : decode cL_law 809 = .ok (.aload_n 1, 1) := by decide +kernel
theorem dL_law_810 : decode cL_law 810 = .ok (.iload 14, 2) := by decide +kernel
theorem dL_law_812 : decode cL_law 812 = .ok (.invokevirtual 78, 3) := by decide +kernel
theorem dL_law_815 : decode cL_law 815 = .ok (.aload 6, 2) := by decide +kernel
theorem dL_law_817 : decode cL_law 817 = .ok (.iload 14, 2) := by decide +kernel
theorem dL_law_819 : decode cL_law 819 = .ok (.iaload, 1) := by decide +kernel
theorem dL_law_820 : decode cL_law 820 = .ok (.if_icmp .eq 5, 3) := by decide +kernel
theorem dL_law_823 : decode cL_law 823 = .ok (.iconst 0, 1) := by decide +kernel
theorem dL_law_824 : decode cL_law 824 = .ok (.ireturn, 1) := by decide +kernel
theorem dL_law_825 : decode cL_law 825 = .ok (.iinc 14 1, 3) := by decide +kernel
theorem dL_law_828 : decode cL_law 828 = .ok (.goto (-26), 3) := by decide +kernel
theorem dL_law_831 : decode cL_law 831 = .ok (.iinc 7 1, 3) := by decide +kernel
theorem dL_law_834 : decode cL_law 834 = .ok (.goto (-725), 3) := by decide +kernel
theorem dL_law_837 : decode cL_law 837 = .ok (.aload_n 1, 1) := by decide +kernel
theorem dL_law_838 : decode cL_law 838 = .ok (.invokevirtual 82, 3) := by decide +kernel
theorem dL_law_841 : decode cL_law 841 = .ok (.iload 5, 2) := by decide +kernel
theorem dL_law_843 : decode cL_law 843 = .ok (.if_icmp .ne 7, 3) := by decide +kernel
theorem dL_law_846 : decode cL_law 846 = .ok (.iconst 1, 1) := by decide +kernel
theorem dL_law_847 : decode cL_law 847 = .ok (.goto 4, 3) := by decide +kernel
theorem dL_law_850 : decode cL_law 850 = .ok (.iconst 0, 1) := by decide +kernel
theorem dL_law_851 : decode cL_law 851 = .ok (.ireturn, 1) := by decide +kernel
abbrev vwCl : List vw_C := [(RX0, TX0, 4), (RX1, TX1, 1), (RX2, TX2, 5)]
end
