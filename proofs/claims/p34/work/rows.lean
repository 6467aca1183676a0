section
-- ===== PART A: goes FIRST, ahead of the names: the tables' words, and 'selects' of the private methods out of them =====
/-- a private method of a class that the tables say can be made, by its rows of tables_1 -/
def lw_okq (q : MethodName × Nat) : Prop := (q.1.cls ≠ "java/lang/invoke/MethodHandle" ∧ q.1.cls ≠ "java/lang/invoke/VarHandle") ∧ Cond.instantiable q.1.cls q.2 ∈ tables_1 ∧ Cond.privateMethod q.1 ∈ tables_1 ∧ Cond.instanceMethod q.1 ∈ tables_1
theorem lw_p0 : lw_okq (⟨"EventloopRow$Thing", "isInOrder", "(II)Z"⟩, 9) := ⟨⟨by decide +kernel, by decide +kernel⟩, List.mem_of_getElem? (i := 216) (by decide +kernel), List.mem_of_getElem? (i := 214) (by decide +kernel), List.mem_of_getElem? (i := 215) (by decide +kernel)⟩
theorem lw_p1 : lw_okq (⟨"java/lang/Throwable", "fillInStackTrace", "(I)Ljava/lang/Throwable;"⟩, 6) := ⟨⟨by decide +kernel, by decide +kernel⟩, List.mem_of_getElem? (i := 255) (by decide +kernel), List.mem_of_getElem? (i := 253) (by decide +kernel), List.mem_of_getElem? (i := 254) (by decide +kernel)⟩
theorem lw_p2 : lw_okq (⟨"EventloopRow$Thing", "listKey", "(I)V"⟩, 9) := ⟨⟨by decide +kernel, by decide +kernel⟩, List.mem_of_getElem? (i := 216) (by decide +kernel), List.mem_of_getElem? (i := 435) (by decide +kernel), List.mem_of_getElem? (i := 436) (by decide +kernel)⟩
theorem lw_p3 : lw_okq (⟨"EventloopRow$Things", "receive", "(LEventloopRow$Thing;II)C"⟩, 2) := ⟨⟨by decide +kernel, by decide +kernel⟩, List.mem_of_getElem? (i := 31) (by decide +kernel), List.mem_of_getElem? (i := 481) (by decide +kernel), List.mem_of_getElem? (i := 482) (by decide +kernel)⟩
def lw_privs_1 : List (MethodName × Nat) := [(⟨"EventloopRow$Thing", "isInOrder", "(II)Z"⟩, 9), (⟨"java/lang/Throwable", "fillInStackTrace", "(I)Ljava/lang/Throwable;"⟩, 6), (⟨"EventloopRow$Thing", "listKey", "(I)V"⟩, 9), (⟨"EventloopRow$Things", "receive", "(LEventloopRow$Thing;II)C"⟩, 2)]
theorem lw_r1 : ∀ q ∈ lw_privs_1, lw_okq q := List.forall_mem_cons.mpr ⟨lw_p0, List.forall_mem_cons.mpr ⟨lw_p1, List.forall_mem_cons.mpr ⟨lw_p2, List.forall_mem_cons.mpr ⟨lw_p3, fun _ h => absurd h List.not_mem_nil⟩⟩⟩⟩
def lw_privs : List (MethodName × Nat) := lw_privs_1
def lw_tbl : List Cond := k2_sels lw_privs ++ tables_1
theorem lw_privs_ok : ∀ q ∈ lw_privs, lw_okq q := lw_r1
end
section
/-! ===== BEGIN words of one list among another's, by their places ===== -/
theorem goodIn_r {big : List Cond} (ws : List Cond) (ps : List Nat) (hp : ws = ps.filterMap (fun i => big[i]?)) (h : ws.all goodWord = true) : GoodIn big ws := by
  intro w hw
  have h1 := List.all_eq_true.mp h w hw
  rw [hp] at hw
  obtain ⟨i, -, hi⟩ := List.mem_filterMap.mp hw
  have hm : w ∈ big := by first | exact List.mem_of_getElem? hi | exact List.getElem?_mem hi
  exact ⟨hm, good_of_word h1⟩
theorem goodIn_app {big a b : List Cond} (ha : GoodIn big a) (hb : GoodIn big b) : GoodIn big (a ++ b) := fun w h => (List.mem_append.mp h).elim (ha w) (hb w)
theorem goodIn_ca {big a b : List Cond} {c : Cond} (ha : GoodIn big (c :: a)) (hb : GoodIn big b) : GoodIn big (c :: (a ++ b)) := fun w h => (List.mem_cons.mp h).elim (fun e => ha w (List.mem_cons.mpr (Or.inl e))) (fun h => (List.mem_append.mp h).elim (fun h => ha w (List.mem_cons.mpr (Or.inr h))) (hb w))
theorem goodIn_sub {big ws : List Cond} (hm : ∀ w ∈ ws, w ∈ big) (h : ws.all goodWord = true) : GoodIn big ws := fun w hw => ⟨hm w hw, good_of_word (List.all_eq_true.mp h w hw)⟩
/-! ===== END ===== -/

/-! ===== BEGIN exceptions that leave a method, and their catching by the caller (launches without stack traces) ===== -/
section VXA
/-! The laws vx_back, vx_callV, vx_callS, vx_callSW, vx_throw0, vx_throwS follow proofs of the library, with one case more: JvmDerived/Free/Laws.lean (Back.of_free), Shelf42/LK1.lean (callV, callS), Shelf/KitTraced.lean (throwNew0V, throwNewS). -/
/-- where a method has thrown q: the class by its name, the cell, what was written, the world -/
def vx_T (XC : String → State → State → Prop) (st : State) (q : Addr) (t : State) (mc ms : Nat) (free : Addr → Prop) : Prop :=
  ∃ (E : String) (ce : Cell) (L : List Loc), XC E st t ∧ t.heap[q]? = some ce ∧ ce.vm = .none ∧ st.vm.findClass E = some ce.cls ∧ st.WarmedH t.vm ∧ st.sameButNew ({ t with vm := st.vm } : State) L mc ms ∧ ∀ z ∈ L, free z.base
def vx_Q (Qc : Array Value → State → Outcome → State → Prop) (XC : String → State → State → Prop) (mc ms : Nat) (free : Addr → Prop) : Array Value → State → Outcome → State → Prop := fun a st o t =>
  (Qc a st o t ∧ ∃ L, FrameEnd st o t L mc ms ∧ ∀ q ∈ L, free q.base) ∨ ∃ q, o = .threw q ∧ vx_T XC st q t mc ms free
/-- a callee that returns or throws -/
def vx_Met (l : Launch) (y : MethodName) (ws : List Cond) (rm : Room) (Pc : Array Value → State → Prop) (Qc : Array Value → State → Outcome → State → Prop) (XC : String → State → State → Prop) (mc ms : Nat) (free : Addr → Prop) : Prop :=
  MetFree l y (headSpec ws rm) Pc (fun _ _ _ _ _ => True) (vx_Q Qc XC mc ms free)
def vx_Post (XC : String → State → State → Prop) (mc ms : Nat) (free : Addr → Prop) : Pt → Array Value → Addr → Pt → Prop := fun A a q B =>
  ∃ (g : JFrame) (mk : MethodId) (t : State) (L : List Loc) (E : String) (ce : Cell), B.U.heap = t.heap ∧ B.U.vm = t.vm ∧ XC E (A.U.calling g mk a) t ∧ t.heap[q]? = some ce ∧ ce.vm = .none ∧ A.U.vm.findClass E = some ce.cls ∧ B.locs = A.locs ++ L ∧ (∀ z ∈ L, free z.base) ∧ B.cells = A.cells + mc ∧ B.slots = A.slots + ms
def vx_Back (l : Launch) (R : Room) (p : Program) (e : Env) (below : List Frame) (s : State) (sargs : Array Value) (y : MethodName) (len W9 : Nat)
    (Pre : Pt → Array Value → Prop) (Post : Pt → Array Value → Option Value → Pt → Prop) (PostX : Pt → Array Value → Addr → Pt → Prop) : Prop :=
  ∀ (m : MethodId) (meth : Method) (c : Code) (A : Pt) (g : JFrame) (ig : Instr) (mk : MethodId) (a : Array Value),
    Stand p l e R s m sargs below meth c A.U A.locs A.cells A.slots → g.method = m → g.locals.size = c.maxLocals → decode c.code g.pc = .ok (ig, len) →
    2 * g.monitorRoom + (g.stack.map fun v => v.category).sum ≤ W9 → A.U.methodNamed? y = some mk → Pre A a →
    (∃ (v : Option Value) (B : Pt), Stand p l e R s m sargs below meth c B.U B.locs B.cells B.slots ∧ Post A a v B ∧
      Steps p.tables e below (doInvoke e (A.U.setTop g) [] mk a).1 (B.U.setTop { g with pc := g.pc + len, stack := v.toList ++ g.stack })) ∨
    (∃ (q : Addr) (B : Pt), Stand p l e R s m sargs below meth c B.U B.locs B.cells B.slots ∧ PostX A a q B ∧
      Steps p.tables e below (doInvoke e (A.U.setTop g) [] mk a).1 ((B.U.setTop g).pushFrame (.throwing q)))
section Payer
variable {l : Launch} {R : Room} {p : Program} {e : Env} {below : List Frame} {s : State} {sargs : Array Value} {y : MethodName} {len W9 : Nat}
theorem vx_back {ws : List Cond} {rm : Room} {Pc : Array Value → State → Prop} {Qc : Array Value → State → Outcome → State → Prop} {XC : String → State → State → Prop} {mc ms : Nat} {free : Addr → Prop} {bytes : ByteArray} {maxL : Nat} {ret : Option FieldType}
    (hM : vx_Met l y ws rm Pc Qc XC mc ms free) (hblind : FrameBlind Pc) (hrc : rm.cells = mc) (hrs : rm.slots = ms)
    (hframes : rm.frames + 1 ≤ R.frames) (hlocals : W9 + (maxL + 11) + rm.locals ≤ R.locals)
    (hws : ∀ w ∈ ws, ∀ a' U, s.WarmedH U.vm → w.before a' U = true) (hcode : Cond.code y bytes maxL ret ∈ ws) (hinit : ∀ a' U, s.WarmedH U.vm → (Cond.initialized y.cls).before a' U = true) :
    vx_Back l R p e below s sargs y len W9 (PreOf R mc ms Pc) (PostOf Qc mc ms free) (vx_Post XC mc ms free) := by
  intro m meth c A g ig mk a X hg hsize hdg hW hn hp
  have h1 : (headSpec ws rm).pre.before a A.U = true := atoms_intro fun w hw => hws w hw _ _ X.warmed
  have h2 : (Cond.code y bytes maxL ret).before a A.U = true := hws _ hcode _ _ X.warmed
  have h3 : (Cond.initialized y.cls).before a A.U = true := hinit _ _ X.warmed
  have h4 : A.cells + (headSpec ws rm).room.cells ≤ R.cells := by rw [show (headSpec ws rm).room.cells = mc from hrc]; exact hp.1
  have h5 : A.slots + (headSpec ws rm).room.slots ≤ R.slots := by rw [show (headSpec ws rm).room.slots = ms from hrs]; exact hp.2.1
  have hPc : Pc a (A.U.calling g mk a) := hblind _ _ _ _ hp.2.2
  obtain ⟨U, Ls, c0, s0⟩ := A
  dsimp only [Pt.U, Pt.locs, Pt.cells, Pt.slots] at h1 h2 h3 h4 h5 X hn hPc ⊢
  obtain ⟨methY, cY, hmY, hcY, -, hlY, -, -, -, -⟩ := Cond.code_spec hn h2
  obtain ⟨kY, hkY, -⟩ := className_of_methodNamed hn
  have hinitY : kY.init = .initialized := Cond.initialized_spec (findClass_of_methodNamed hn) hkY h3
  have h : At U g.method c below := by rw [hg]; exact X.here
  have hlocals9 : W9 + (maxL + 11) + (headSpec ws rm).room.locals ≤ R.locals := hlocals
  have happ : (headSpec ws rm).appliesLoose y e.platform (U.calling g mk a) = true :=
    Spec.appliesLoose_calling (g := g) h hdg hn hkY hinitY
      (X.room_calling (g := g) (R' := (headSpec ws rm).room) hsize hmY hcY hframes (by rw [hlY]; omega) h4 h5) h1
  obtain ⟨mid, hmid⟩ := h.above
  have hfr : (U.setTop g).frames = (.java g :: mid) ++ below := by rw [State.frames_setTop' g h.top, hmid]; rfl
  obtain ⟨o, s₂, hsteps, -, hend, hq⟩ := Steps.callFree hM p X.admits X.cas X.clock (acts := []) hfr happ hPc trivial
  have hq' : vx_Q Qc XC mc ms free a (U.calling g mk a) o s₂ := hq
  rw [State.frames_setTop' g h.top] at hend
  obtain ⟨g₀, hg0⟩ := Option.isSome_iff_exists.mp h.top
  obtain ⟨r, hr⟩ := State.topJava?_eq_some.mp hg0
  have hr' : (({ U with heap := s₂.heap, slotsUsed := s₂.slotsUsed } : State).setVm s₂.vm).frames = .java g₀ :: r := hr
  rcases hq' with ⟨hqc, L, hfe, hL⟩ | ⟨q, rfl, E, ce, L, hx, hce, hcv, hcl, hW₂, hsm, hL⟩
  · obtain ⟨⟨v, rfl⟩, hW₂, e2, q2, q3, q4, q5, q6⟩ := id hfe
    have e3 : s₂ = ({ (U.calling g mk a).setFrames s₂.frames with heap := s₂.heap, slotsUsed := s₂.slotsUsed } : State).setVm s₂.vm := by
      have : s₂ = ({ s₂ with vm := (U.calling g mk a).vm } : State).setVm s₂.vm := rfl
      rw [e2] at this
      exact this
    obtain ⟨c₂, i₂, len₂, hc₂, hd₂, hf₂⟩ := hend
    have hW' : U.WarmedH s₂.vm := hW₂
    have hcc : c₂ = c := by
      have h1 : s₂.code? g.method = U.code? g.method := by
        rw [State.code?_eq, State.code?_eq, hW'.alike.method?]
      exact Option.some.inj (hc₂.symm.trans (h1.trans h.code))
    subst hcc
    have hlen : len₂ = len := by rw [hdg] at hd₂; cases hd₂; rfl
    subst hlen
    have hs₂ : s₂ = (({ U with heap := s₂.heap, slotsUsed := s₂.slotsUsed } : State).setVm s₂.vm).setTop { g with pc := g.pc + len₂, stack := v.toList ++ g.stack } := by
      refine e3.trans ?_
      rw [hf₂, State.calling_eq h.top, State.setFrames_setFrames, State.setTop_of_frames _ hr', hr]
      rfl
    have hsame : U.sameButNew ({ U with heap := s₂.heap, slotsUsed := s₂.slotsUsed } : State) L mc ms := by
      refine ⟨?_, q2, q3, q4, q5, q6⟩
      obtain ⟨t, ht, -⟩ := State.frames_cons hr
      show ({ U with heap := s₂.heap, slotsUsed := s₂.slotsUsed } : State) = { U.setFrames U.frames with heap := s₂.heap, slotsUsed := s₂.slotsUsed }
      rw [State.setFrames_self ht]
    subst hg
    refine Or.inl ⟨v, ⟨(({ U with heap := s₂.heap, slotsUsed := s₂.slotsUsed } : State).setVm s₂.vm), Ls ++ L, c0 + mc, s0 + ms⟩,
      ⟨X.admits, X.cas, X.clock, X.frames, X.room, X.hears, X.method, X.code, (X.here.setHeapUsed s₂.heap s₂.slotsUsed).setVm hW'.alike, X.tail, State.WarmedH.trans X.warmed hW', X.limits, X.bytes, X.same.trans (hsame.setVm s.vm)⟩,
      ⟨g, mk, s₂, L, rfl, rfl, hqc, rfl, hL, rfl, rfl⟩, ?_⟩
    show Steps p.tables e below _ ((({ U with heap := s₂.heap, slotsUsed := s₂.slotsUsed } : State).setVm s₂.vm).setTop { g with pc := g.pc + len₂, stack := v.toList ++ g.stack })
    rw [← hs₂]
    exact hsteps
  · obtain ⟨e2, q2, q3, q4, q5, q6⟩ := id hsm
    have e3 : s₂ = ({ (U.calling g mk a).setFrames s₂.frames with heap := s₂.heap, slotsUsed := s₂.slotsUsed } : State).setVm s₂.vm := by
      have : s₂ = ({ s₂ with vm := (U.calling g mk a).vm } : State).setVm s₂.vm := rfl
      rw [e2] at this
      exact this
    have hf₂ : s₂.frames = .throwing q :: .java g :: U.frames.tail := hend
    have hW' : U.WarmedH s₂.vm := hW₂
    have hs₂ : s₂ = ((({ U with heap := s₂.heap, slotsUsed := s₂.slotsUsed } : State).setVm s₂.vm).setTop g).pushFrame (.throwing q) := by
      refine e3.trans ?_
      rw [hf₂, State.calling_eq h.top, State.setFrames_setFrames, State.pushFrame, State.frames_setTop _ hr', State.setTop_of_frames _ hr', State.setFrames_setFrames, hr]
      rfl
    have hsame : U.sameButNew ({ U with heap := s₂.heap, slotsUsed := s₂.slotsUsed } : State) L mc ms := by
      refine ⟨?_, q2, q3, q4, q5, q6⟩
      obtain ⟨t, ht, -⟩ := State.frames_cons hr
      show ({ U with heap := s₂.heap, slotsUsed := s₂.slotsUsed } : State) = { U.setFrames U.frames with heap := s₂.heap, slotsUsed := s₂.slotsUsed }
      rw [State.setFrames_self ht]
    subst hg
    refine Or.inr ⟨q, ⟨(({ U with heap := s₂.heap, slotsUsed := s₂.slotsUsed } : State).setVm s₂.vm), Ls ++ L, c0 + mc, s0 + ms⟩,
      ⟨X.admits, X.cas, X.clock, X.frames, X.room, X.hears, X.method, X.code, (X.here.setHeapUsed s₂.heap s₂.slotsUsed).setVm hW'.alike, X.tail, State.WarmedH.trans X.warmed hW', X.limits, X.bytes, X.same.trans (hsame.setVm s.vm)⟩,
      ⟨g, mk, s₂, L, E, ce, rfl, rfl, hx, hce, hcv, hcl, rfl, hL, rfl, rfl⟩, ?_⟩
    show Steps p.tables e below _ (((({ U with heap := s₂.heap, slotsUsed := s₂.slotsUsed } : State).setVm s₂.vm).setTop g).pushFrame (.throwing q))
    rw [← hs₂]
    exact hsteps
end Payer
section Calls
variable {p : Program} {l : Launch} {e : Env} {R : Room} {s : State} {m : MethodId} {args : Array Value} {below : List Frame} {meth : Method} {c : Code} {T : State} {locs : List Loc} {cells slots : Nat}
theorem vx_callV (X : Stand p l e R s m args below meth c T locs cells slots) (hexec : p.tables.exec = Jvm.exec) {own C : String} {index : Nat} {y : MethodName} {bytes : ByteArray} {maxL : Nat} {ret : Option FieldType}
    (hown : s.vm.findClass own = some m.cls) (hlink : (Cond.methodLink own index y).before args s = true) (hinst : (Cond.instanceMethod y).before args s = true) (hsel : (Cond.selects C y y).before args s = true)
    (hcode : (Cond.code y bytes maxL ret).before args s = true) (hy : y.cls ≠ "java/lang/invoke/MethodHandle" ∧ y.cls ≠ "java/lang/invoke/VarHandle")
    {W9 : Nat} {Pre : Pt → Array Value → Prop} {Post : Pt → Array Value → Option Value → Pt → Prop} {PostX : Pt → Array Value → Addr → Pt → Prop} (hK : vx_Back l R p e below s args y 3 W9 Pre Post PostX)
    {b : Addr} {cellB : Cell} (hcell : T.heap[b]? = some cellB) (hobj : cellB.vm.isStatics = false) (hcls : s.vm.findClass C = some cellB.cls)
    {g : JFrame} (hg : g.method = m) (hsize : g.locals.size = c.maxLocals) {argsL rest : List Value} (hlen : ∀ sig, parseMethodDescriptor y.desc = some sig → argsL.length = sig.parameters.length)
    (hstack : g.stack = argsL.reverse ++ .ref b :: rest) (hW : 2 * g.monitorRoom + (rest.map fun v => v.category).sum ≤ W9) (hdg : decode c.code g.pc = .ok (.invokevirtual index, 3))
    (hpre : ∀ vm₁, s.WarmedH vm₁ → Pre ⟨T.setVm vm₁, locs, cells, slots⟩ (Value.ref b :: argsL).toArray) :
    (∃ (v : Option Value) (vm₁ : Vm) (B : Pt), s.WarmedH vm₁ ∧ Stand p l e R s m args below meth c B.U B.locs B.cells B.slots ∧ Post ⟨T.setVm vm₁, locs, cells, slots⟩ (Value.ref b :: argsL).toArray v B ∧
      ∀ target, Steps p.tables e below (B.U.setTop { g with pc := g.pc + 3, stack := v.toList ++ rest }) target → Steps p.tables e below (T.setTop g) target) ∨
    (∃ (q : Addr) (vm₁ : Vm) (B : Pt), s.WarmedH vm₁ ∧ Stand p l e R s m args below meth c B.U B.locs B.cells B.slots ∧ PostX ⟨T.setVm vm₁, locs, cells, slots⟩ (Value.ref b :: argsL).toArray q B ∧
      Steps p.tables e below (T.setTop g) ((B.U.setTop { g with stack := rest }).pushFrame (.throwing q))) := by
  obtain ⟨mk, methM, hnamed, hmethM, hstM, habM⟩ := Cond.instanceMethod_spec hinst
  obtain ⟨methM', cM, hmethM', -, -, -, -, -, -, hsigM⟩ := Cond.code_spec hnamed hcode
  cases hmethM.symm.trans hmethM'
  obtain ⟨c2, r2, m2, q1, q2, q3, q4, kP, hkP, hkPi⟩ := Cond.selects_spec hsel
  cases hcls.symm.trans q1
  cases (State.methodFound?_of_named hnamed hy).symm.trans q2
  cases hnamed.symm.trans q3
  have hselP : selectMethod e.platform s.vm cellB.cls mk = .method mk := by rw [Launch.admits_selectMethod X.admits]; exact q4
  obtain ⟨vm₁, X₁, hstep₁⟩ := X.invokevirtual hexec hown hlink hnamed hmethM hstM hkP hkPi hy (a := b) (cell := cellB) hcell
    (fun z h => by rw [h] at hobj; cases hobj) hselP hmethM habM hkP hkPi (g := g) hg (argsL := argsL) (rest := rest) (hlen _ hsigM) hstack hdg
  rcases hK m meth c ⟨T.setVm vm₁, locs, cells, slots⟩ { g with stack := rest } (.invokevirtual index) mk (Value.ref b :: argsL).toArray X₁ hg hsize hdg hW (X₁.named hnamed) (hpre vm₁ X₁.warmed) with ⟨v, B, X', hpost, hsteps⟩ | ⟨q, B, X', hpost, hsteps⟩
  · exact Or.inl ⟨v, vm₁, B, X₁.warmed, X', hpost, fun target h => hstep₁ _ fun acts => by rw [doInvoke_state]; exact hsteps.trans h⟩
  · exact Or.inr ⟨q, vm₁, B, X₁.warmed, X', hpost, hstep₁ _ fun acts => by rw [doInvoke_state]; exact hsteps⟩
theorem vx_callS (X : Stand p l e R s m args below meth c T locs cells slots) (hexec : p.tables.exec = Jvm.exec) {own : String} {index : Nat} {y : MethodName} {bytes : ByteArray} {maxL : Nat} {ret : Option FieldType}
    (hown : s.vm.findClass own = some m.cls) (hlink : (Cond.methodLink own index y).before args s = true) (hstat : (Cond.static y).before args s = true) (hinit : (Cond.initialized y.cls).before args s = true)
    (hcode : (Cond.code y bytes maxL ret).before args s = true) (hy : y.cls ≠ "java/lang/invoke/MethodHandle" ∧ y.cls ≠ "java/lang/invoke/VarHandle")
    {W9 : Nat} {Pre : Pt → Array Value → Prop} {Post : Pt → Array Value → Option Value → Pt → Prop} {PostX : Pt → Array Value → Addr → Pt → Prop} (hK : vx_Back l R p e below s args y 3 W9 Pre Post PostX)
    {g : JFrame} (hg : g.method = m) (hsize : g.locals.size = c.maxLocals) {argsL rest : List Value} (hlen : ∀ sig, parseMethodDescriptor y.desc = some sig → argsL.length = sig.parameters.length)
    (hstack : g.stack = argsL.reverse ++ rest) (hW : 2 * g.monitorRoom + (rest.map fun v => v.category).sum ≤ W9) (hdg : decode c.code g.pc = .ok (.invokestatic index, 3))
    (hpre : ∀ vm₁, s.WarmedH vm₁ → Pre ⟨T.setVm vm₁, locs, cells, slots⟩ argsL.toArray) :
    (∃ (v : Option Value) (vm₁ : Vm) (B : Pt), s.WarmedH vm₁ ∧ Stand p l e R s m args below meth c B.U B.locs B.cells B.slots ∧ Post ⟨T.setVm vm₁, locs, cells, slots⟩ argsL.toArray v B ∧
      ∀ target, Steps p.tables e below (B.U.setTop { g with pc := g.pc + 3, stack := v.toList ++ rest }) target → Steps p.tables e below (T.setTop g) target) ∨
    (∃ (q : Addr) (vm₁ : Vm) (B : Pt), s.WarmedH vm₁ ∧ Stand p l e R s m args below meth c B.U B.locs B.cells B.slots ∧ PostX ⟨T.setVm vm₁, locs, cells, slots⟩ argsL.toArray q B ∧
      Steps p.tables e below (T.setTop g) ((B.U.setTop { g with stack := rest }).pushFrame (.throwing q))) := by
  obtain ⟨mk, hnamed⟩ := Cond.code_named hcode
  obtain ⟨methM, cM, hmethM, -, -, -, -, -, -, hsigM⟩ := Cond.code_spec hnamed hcode
  have hstatic : methM.isStatic = true := Cond.static_spec hnamed hmethM hstat
  obtain ⟨kP, hkP, -⟩ := className_of_methodNamed hnamed
  have hinitP : kP.init = .initialized := Cond.initialized_spec (findClass_of_methodNamed hnamed) hkP hinit
  obtain ⟨vm₁, X₁, hstep₁⟩ := X.invokestatic hexec hown hlink hnamed hmethM hstatic hkP hinitP hy (g := g) hg (argsL := argsL) (rest := rest) (hlen _ hsigM) hstack hdg
  rcases hK m meth c ⟨T.setVm vm₁, locs, cells, slots⟩ { g with stack := rest } (.invokestatic index) mk argsL.toArray X₁ hg hsize hdg hW (X₁.named hnamed) (hpre vm₁ X₁.warmed) with ⟨v, B, X', hpost, hsteps⟩ | ⟨q, B, X', hpost, hsteps⟩
  · exact Or.inl ⟨v, vm₁, B, X₁.warmed, X', hpost, fun target h => hstep₁ _ fun acts => by rw [doInvoke_state]; exact hsteps.trans h⟩
  · exact Or.inr ⟨q, vm₁, B, X₁.warmed, X', hpost, hstep₁ _ fun acts => by rw [doInvoke_state]; exact hsteps⟩
end Calls
theorem vx_cls {s : State} {T : State} {vm₁ : Vm} {E : String} {k : ClassId} (hW : s.WarmedH vm₁) (h : (T.setVm vm₁).vm.findClass E = some k) : s.vm.findClass E = some k := by
  have h1 : vm₁.findClass E = some k := h
  rw [hW.alike.findClass] at h1
  exact h1
/-- the method's frame g, with q thrown over it -/
def vx_W (p : Program) (l : Launch) (e : Env) (R : Room) (s : State) (m : MethodId) (args : Array Value) (below : List Frame) (meth : Method) (c : Code) (H : Heap) (locs : List Loc) (cells slots : Nat) (Q : State → Prop) (g : JFrame) (q : Addr) : Prop :=
  ∀ T : State, T.heap = H → Stand p l e R s m args below meth c T locs cells slots → ∃ t, Steps p.tables e below ((T.setTop g).pushFrame (.throwing q)) t ∧ Q t
def vx_Run (p : Program) (l : Launch) (e : Env) (R : Room) (s : State) (m : MethodId) (args : Array Value) (below : List Frame) (meth : Method) (c : Code) (H : Heap) (locs : List Loc) (cells slots mc ms : Nat) (g : JFrame) (rest : List Value) (Qa : State → Outcome → State → Prop) (XC : String → State → State → Prop) (free : Addr → Prop) : Prop :=
  ∀ T : State, T.heap = H → Stand p l e R s m args below meth c T locs cells slots →
    (∃ (v : Option Value) (st₀ t T' : State) (L : List Loc), st₀.heap = H ∧ Stand p l e R s m args below meth c T' (locs ++ L) (cells + mc) (slots + ms) ∧ (∀ q ∈ L, free q.base) ∧ T'.heap = t.heap ∧ T'.vm = t.vm ∧ Qa st₀ (.returned v) t ∧
      Goes p e below T g T' { g with pc := g.pc + 3, stack := v.toList ++ rest }) ∨
    (∃ (q : Addr) (st₀ t T' : State) (L : List Loc) (E : String) (ce : Cell), st₀.heap = H ∧ Stand p l e R s m args below meth c T' (locs ++ L) (cells + mc) (slots + ms) ∧ (∀ z ∈ L, free z.base) ∧ T'.heap = t.heap ∧ T'.vm = t.vm ∧ XC E st₀ t ∧ t.heap[q]? = some ce ∧ ce.vm = .none ∧ s.vm.findClass E = some ce.cls ∧
      Steps p.tables e below (T.setTop g) ((T'.setTop { g with stack := rest }).pushFrame (.throwing q)))
def vx_X {S : Type} (px : S → Prop) (B : String → S → State → Prop) (A : Nat → Prop) : String → State → State → Prop := fun E st t => ∃ u : S, px u ∧ B E u t ∧ va_F A st t
section Runs
variable {p : Program} {l : Launch} {e : Env} {R : Room} {s : State} {m : MethodId} {args : Array Value} {below : List Frame} {meth : Method} {c : Code} {H : Heap} {locs : List Loc} {cells slots : Nat}
variable {y : MethodName} {bytes cc : ByteArray} {maxL nL mc ms n index : Nat} {ret : Option FieldType} {ws : List Cond} {rm : Room} {Pc : Array Value → State → Prop} {Qc : Array Value → State → Outcome → State → Prop} {XC : String → State → State → Prop} {free : Addr → Prop} {Ts : List Cond} {own C : String} {b : Addr} {As rest : List Value} {g : JFrame}
theorem vx_callBack (cb : CallB R s args own index y bytes maxL ret ws rm mc ms n) (hM : vx_Met l y ws rm Pc Qc XC mc ms free) (hbl : FrameBlind Pc) : vx_Back l R p e below s args y 3 8 (PreOf R mc ms Pc) (PostOf Qc mc ms free) (vx_Post XC mc ms free) := by
  obtain ⟨hrc, hrs, hfr, hlo, hws, hcw, -, hini, -⟩ := cb
  exact vx_back (bytes := bytes) (maxL := maxL) (ret := ret) hM hbl hrc hrs hfr hlo hws hcw (fun a' U hW => word_at hW (Or.inl (by first | rfl | simp [Cond.onTables, Cond.keeps, Cond.steady])) hini)
theorem vx_runV (S : CallFix p m c cc nL s args Ts own) (hM : vx_Met l y ws rm Pc Qc XC mc ms free) (cw : CallW R s args own C index y bytes maxL ret ws rm mc ms n) (hp : PreV s H C b Pc As)
    (hg : g.method = m) (hn : As.length = n) (hsize : g.locals.size = nL) (hstack : g.stack = As.reverse ++ .ref b :: rest) (hW : 2 * g.monitorRoom + (rest.map fun v => v.category).sum ≤ 8) (hdg : decode cc g.pc = .ok (.invokevirtual index, 3)) (hf : cells + mc ≤ R.cells ∧ slots + ms ≤ R.slots) :
    vx_Run p l e R s m args below meth c H locs cells slots mc ms g rest (Qc (Value.ref b :: As).toArray) XC free := by
  have hK : vx_Back l R p e below s args y 3 8 (PreOf R mc ms Pc) (PostOf Qc mc ms free) (vx_Post XC mc ms free) := vx_callBack cw.1 hM hp.1
  obtain ⟨⟨-, -, -, -, -, -, hcode, -, hy, hlen, hl⟩, hin, hse⟩ := cw
  obtain ⟨hx, hb, hml, ho, -⟩ := S
  obtain ⟨-, ⟨cellB, hcB, hoB, hclB⟩, hPc⟩ := hp
  intro T hT X
  rcases vx_callV X hx (C := C) (bytes := bytes) (maxL := maxL) (ret := ret) ho hl hin hse hcode hy hK (by rw [hT]; exact hcB) hoB hclB hg (hsize.trans hml.symm) (argsL := As) (rest := rest) (fun sig h => hn.trans (hlen sig h)) hstack hW (by rw [hb]; exact hdg)
    (fun vm₁ hW₁ => ⟨hf.1, hf.2, hPc (T.setVm vm₁) hT hW₁⟩) with ⟨v, vm₁, ⟨U', l2, c2, s2⟩, hW₁, X', ⟨g', mk, t, L, e1, e2, hq, h1, hL, h2, h3⟩, st⟩ | ⟨q, vm₁, ⟨U', l2, c2, s2⟩, hW₁, X', ⟨g', mk, t, L, E, ce, e1, e2, hq, hce, hcv, hcl, h1, hL, h2, h3⟩, st⟩
  · dsimp only [Pt.U, Pt.locs, Pt.cells, Pt.slots] at X' e1 e2 h1 h2 h3 st
    subst h1; subst h2; subst h3
    exact Or.inl ⟨v, (T.setVm vm₁).calling g' mk (Value.ref b :: As).toArray, t, U', L, hT, X', hL, e1, e2, hq, st⟩
  · dsimp only [Pt.U, Pt.locs, Pt.cells, Pt.slots] at X' e1 e2 h1 h2 h3 st hcl
    subst h1; subst h2; subst h3
    exact Or.inr ⟨q, (T.setVm vm₁).calling g' mk (Value.ref b :: As).toArray, t, U', L, E, ce, hT, X', hL, e1, e2, hq, hce, hcv, vx_cls hW₁ hcl, st⟩
theorem vx_runS (S : CallFix p m c cc nL s args Ts own) (hM : vx_Met l y ws rm Pc Qc XC mc ms free) (cw : CallB R s args own index y bytes maxL ret ws rm mc ms n ∧ (Cond.static y).before args s = true) (hp : PreS s H Pc As)
    (hg : g.method = m) (hn : As.length = n) (hsize : g.locals.size = nL) (hstack : g.stack = As.reverse ++ rest) (hW : 2 * g.monitorRoom + (rest.map fun v => v.category).sum ≤ 8) (hdg : decode cc g.pc = .ok (.invokestatic index, 3)) (hf : cells + mc ≤ R.cells ∧ slots + ms ≤ R.slots) :
    vx_Run p l e R s m args below meth c H locs cells slots mc ms g rest (Qc As.toArray) XC free := by
  have hK : vx_Back l R p e below s args y 3 8 (PreOf R mc ms Pc) (PostOf Qc mc ms free) (vx_Post XC mc ms free) := vx_callBack cw.1 hM hp.1
  obtain ⟨⟨-, -, -, -, -, -, hcode, hini, hy, hlen, hl⟩, hstt⟩ := cw
  obtain ⟨hx, hb, hml, ho, -⟩ := S
  intro T hT X
  rcases vx_callS X hx (bytes := bytes) (maxL := maxL) (ret := ret) ho hl hstt hini hcode hy hK hg (hsize.trans hml.symm) (argsL := As) (rest := rest) (fun sig h => hn.trans (hlen sig h)) hstack hW (by rw [hb]; exact hdg)
    (fun vm₁ hW₁ => ⟨hf.1, hf.2, hp.2 (T.setVm vm₁) hT hW₁⟩) with ⟨v, vm₁, ⟨U', l2, c2, s2⟩, hW₁, X', ⟨g', mk, t, L, e1, e2, hq, h1, hL, h2, h3⟩, st⟩ | ⟨q, vm₁, ⟨U', l2, c2, s2⟩, hW₁, X', ⟨g', mk, t, L, E, ce, e1, e2, hq, hce, hcv, hcl, h1, hL, h2, h3⟩, st⟩
  · dsimp only [Pt.U, Pt.locs, Pt.cells, Pt.slots] at X' e1 e2 h1 h2 h3 st
    subst h1; subst h2; subst h3
    exact Or.inl ⟨v, (T.setVm vm₁).calling g' mk As.toArray, t, U', L, hT, X', hL, e1, e2, hq, st⟩
  · dsimp only [Pt.U, Pt.locs, Pt.cells, Pt.slots] at X' e1 e2 h1 h2 h3 st hcl
    subst h1; subst h2; subst h3
    exact Or.inr ⟨q, (T.setVm vm₁).calling g' mk As.toArray, t, U', L, E, ce, hT, X', hL, e1, e2, hq, hce, hcv, vx_cls hW₁ hcl, st⟩
end Runs
section Rows
variable {p : Program} {l : Launch} {e : Env} {R : Room} {s : State} {m : MethodId} {args : Array Value} {below : List Frame} {meth : Method} {c : Code} {H : Heap} {locs : List Loc} {cells slots : Nat} {Q : State → Prop}
variable {mc ms : Nat} {free : Addr → Prop} {A0 A1 : Nat → Prop} {H0 : Heap} {a : Array Value} {pc : Nat} {ls : Array Slot} {st0 rest : List Value}
theorem vx_keep {st₀ t T' : State} {L : List Loc} (h0 : st₀.heap = H) (e1 : T'.heap = t.heap) (hS : va_S A0 H0 H locs) (hA : ∀ q, q < H.size → A1 q → A0 q) (hf : ∀ q, free q → A0 q) (hL : ∀ q ∈ L, free q.base) (hF : va_F A1 st₀ t) :
    H.size ≤ T'.heap.size ∧ (∀ q : Nat, q < H.size → ¬ A1 q → T'.heap[q]? = H[q]?) ∧ va_S A0 H0 T'.heap (locs ++ L) := by
  obtain ⟨hz, hk⟩ := hF
  rw [h0] at hz hk
  exact ⟨by rw [e1]; exact hz, fun q h1 h2 => by rw [e1]; exact hk q h1 h2,
    ⟨Nat.le_trans hS.1 (by rw [e1]; exact hz), fun q h1 h2 => by rw [e1, hk q (Nat.lt_of_lt_of_le h1 hS.1) (fun z => h2 (hA q (Nat.lt_of_lt_of_le h1 hS.1) z))]; exact hS.2.1 q h1 h2, fun q hq => by
      rcases List.mem_append.mp hq with h | h
      · exact hS.2.2 q h
      · exact hf _ (hL q h)⟩⟩
theorem vx_calli {S SX : Type} {post : Int32 → S → Prop} {px : SX → Prop} {B : S → State → Prop} {BX : String → SX → State → Prop} {AX : Nat → Prop} (hr : vx_Run p l e R s m args below meth c H locs cells slots mc ms (F0 m pc ls st0) rest (va_Qi post B A1 a) (vx_X px BX AX) free) (hS : va_S A0 H0 H locs) (hA : ∀ q, q < H.size → A1 q → A0 q) (hf : ∀ q, free q → A0 q) (hAX : ∀ q, q < H.size → AX q → A0 q)
    (kx : ∀ (E : String) (ce : Cell) (q9 : Addr) (u : SX) (t : State) (H1 : Heap) (locs1 : List Loc), t.heap = H1 → s.vm.Alike t.vm → px u → BX E u t → H.size ≤ H1.size → (∀ q : Nat, q < H.size → ¬ AX q → H1[q]? = H[q]?) → va_S A0 H0 H1 locs1 → H1[q9]? = some ce → ce.vm = .none → s.vm.findClass E = some ce.cls → vx_W p l e R s m args below meth c H1 locs1 (cells + mc) (slots + ms) Q (F0 m pc ls rest) q9)
    (kk : ∀ (r : Int32) (u : S) (t : State) (H1 : Heap) (locs1 : List Loc), t.heap = H1 → s.vm.Alike t.vm → post r u → B u t → H.size ≤ H1.size → (∀ q : Nat, q < H.size → ¬ A1 q → H1[q]? = H[q]?) → va_S A0 H0 H1 locs1 → W p l e R s m args below meth c H1 locs1 (cells + mc) (slots + ms) Q (F0 m (pc + 3) ls (.int r :: rest))) : W p l e R s m args below meth c H locs cells slots Q (F0 m pc ls st0) := by
  intro T hT X
  rcases hr T hT X with ⟨v, st₀, t, T', L, h0, X', hL, e1, e2, ⟨⟨r, u, hv, hp, hb⟩, hF⟩, st⟩ | ⟨q, st₀, t, T', L, E, ce, h0, X', hL, e1, e2, ⟨u, hp, hb, hF⟩, hce, hcv, hcl, st⟩
  · cases hv
    obtain ⟨k1, k2, k3⟩ := vx_keep h0 e1 hS hA hf hL hF
    obtain ⟨t2, a1, b1⟩ := kk r u t T'.heap (locs ++ L) e1.symm (by rw [← e2]; exact X'.warmed.alike) hp hb k1 k2 k3 T' rfl X'
    exact ⟨t2, st t2 a1, b1⟩
  · obtain ⟨k1, k2, k3⟩ := vx_keep h0 e1 hS hAX hf hL hF
    obtain ⟨t2, a1, b1⟩ := kx E ce q u t T'.heap (locs ++ L) e1.symm (by rw [← e2]; exact X'.warmed.alike) hp hb k1 k2 k3 (by rw [e1]; exact hce) hcv hcl T' rfl X'
    exact ⟨t2, st.trans a1, b1⟩
theorem vx_calll {S SX : Type} {post : Int64 → S → Prop} {px : SX → Prop} {B : S → State → Prop} {BX : String → SX → State → Prop} {AX : Nat → Prop} (hr : vx_Run p l e R s m args below meth c H locs cells slots mc ms (F0 m pc ls st0) rest (va_Ql post B A1 a) (vx_X px BX AX) free) (hS : va_S A0 H0 H locs) (hA : ∀ q, q < H.size → A1 q → A0 q) (hf : ∀ q, free q → A0 q) (hAX : ∀ q, q < H.size → AX q → A0 q)
    (kx : ∀ (E : String) (ce : Cell) (q9 : Addr) (u : SX) (t : State) (H1 : Heap) (locs1 : List Loc), t.heap = H1 → s.vm.Alike t.vm → px u → BX E u t → H.size ≤ H1.size → (∀ q : Nat, q < H.size → ¬ AX q → H1[q]? = H[q]?) → va_S A0 H0 H1 locs1 → H1[q9]? = some ce → ce.vm = .none → s.vm.findClass E = some ce.cls → vx_W p l e R s m args below meth c H1 locs1 (cells + mc) (slots + ms) Q (F0 m pc ls rest) q9)
    (kk : ∀ (r : Int64) (u : S) (t : State) (H1 : Heap) (locs1 : List Loc), t.heap = H1 → s.vm.Alike t.vm → post r u → B u t → H.size ≤ H1.size → (∀ q : Nat, q < H.size → ¬ A1 q → H1[q]? = H[q]?) → va_S A0 H0 H1 locs1 → W p l e R s m args below meth c H1 locs1 (cells + mc) (slots + ms) Q (F0 m (pc + 3) ls (.long r :: rest))) : W p l e R s m args below meth c H locs cells slots Q (F0 m pc ls st0) := by
  intro T hT X
  rcases hr T hT X with ⟨v, st₀, t, T', L, h0, X', hL, e1, e2, ⟨⟨r, u, hv, hp, hb⟩, hF⟩, st⟩ | ⟨q, st₀, t, T', L, E, ce, h0, X', hL, e1, e2, ⟨u, hp, hb, hF⟩, hce, hcv, hcl, st⟩
  · cases hv
    obtain ⟨k1, k2, k3⟩ := vx_keep h0 e1 hS hA hf hL hF
    obtain ⟨t2, a1, b1⟩ := kk r u t T'.heap (locs ++ L) e1.symm (by rw [← e2]; exact X'.warmed.alike) hp hb k1 k2 k3 T' rfl X'
    exact ⟨t2, st t2 a1, b1⟩
  · obtain ⟨k1, k2, k3⟩ := vx_keep h0 e1 hS hAX hf hL hF
    obtain ⟨t2, a1, b1⟩ := kx E ce q u t T'.heap (locs ++ L) e1.symm (by rw [← e2]; exact X'.warmed.alike) hp hb k1 k2 k3 (by rw [e1]; exact hce) hcv hcl T' rfl X'
    exact ⟨t2, st.trans a1, b1⟩
theorem vx_callf {S SX : Type} {post : UInt32 → S → Prop} {px : SX → Prop} {B : S → State → Prop} {BX : String → SX → State → Prop} {AX : Nat → Prop} (hr : vx_Run p l e R s m args below meth c H locs cells slots mc ms (F0 m pc ls st0) rest (va_Qf post B A1 a) (vx_X px BX AX) free) (hS : va_S A0 H0 H locs) (hA : ∀ q, q < H.size → A1 q → A0 q) (hf : ∀ q, free q → A0 q) (hAX : ∀ q, q < H.size → AX q → A0 q)
    (kx : ∀ (E : String) (ce : Cell) (q9 : Addr) (u : SX) (t : State) (H1 : Heap) (locs1 : List Loc), t.heap = H1 → s.vm.Alike t.vm → px u → BX E u t → H.size ≤ H1.size → (∀ q : Nat, q < H.size → ¬ AX q → H1[q]? = H[q]?) → va_S A0 H0 H1 locs1 → H1[q9]? = some ce → ce.vm = .none → s.vm.findClass E = some ce.cls → vx_W p l e R s m args below meth c H1 locs1 (cells + mc) (slots + ms) Q (F0 m pc ls rest) q9)
    (kk : ∀ (r : UInt32) (u : S) (t : State) (H1 : Heap) (locs1 : List Loc), t.heap = H1 → s.vm.Alike t.vm → post r u → B u t → H.size ≤ H1.size → (∀ q : Nat, q < H.size → ¬ A1 q → H1[q]? = H[q]?) → va_S A0 H0 H1 locs1 → W p l e R s m args below meth c H1 locs1 (cells + mc) (slots + ms) Q (F0 m (pc + 3) ls (.float r :: rest))) : W p l e R s m args below meth c H locs cells slots Q (F0 m pc ls st0) := by
  intro T hT X
  rcases hr T hT X with ⟨v, st₀, t, T', L, h0, X', hL, e1, e2, ⟨⟨r, u, hv, hp, hb⟩, hF⟩, st⟩ | ⟨q, st₀, t, T', L, E, ce, h0, X', hL, e1, e2, ⟨u, hp, hb, hF⟩, hce, hcv, hcl, st⟩
  · cases hv
    obtain ⟨k1, k2, k3⟩ := vx_keep h0 e1 hS hA hf hL hF
    obtain ⟨t2, a1, b1⟩ := kk r u t T'.heap (locs ++ L) e1.symm (by rw [← e2]; exact X'.warmed.alike) hp hb k1 k2 k3 T' rfl X'
    exact ⟨t2, st t2 a1, b1⟩
  · obtain ⟨k1, k2, k3⟩ := vx_keep h0 e1 hS hAX hf hL hF
    obtain ⟨t2, a1, b1⟩ := kx E ce q u t T'.heap (locs ++ L) e1.symm (by rw [← e2]; exact X'.warmed.alike) hp hb k1 k2 k3 (by rw [e1]; exact hce) hcv hcl T' rfl X'
    exact ⟨t2, st.trans a1, b1⟩
theorem vx_calld {S SX : Type} {post : UInt64 → S → Prop} {px : SX → Prop} {B : S → State → Prop} {BX : String → SX → State → Prop} {AX : Nat → Prop} (hr : vx_Run p l e R s m args below meth c H locs cells slots mc ms (F0 m pc ls st0) rest (va_Qd post B A1 a) (vx_X px BX AX) free) (hS : va_S A0 H0 H locs) (hA : ∀ q, q < H.size → A1 q → A0 q) (hf : ∀ q, free q → A0 q) (hAX : ∀ q, q < H.size → AX q → A0 q)
    (kx : ∀ (E : String) (ce : Cell) (q9 : Addr) (u : SX) (t : State) (H1 : Heap) (locs1 : List Loc), t.heap = H1 → s.vm.Alike t.vm → px u → BX E u t → H.size ≤ H1.size → (∀ q : Nat, q < H.size → ¬ AX q → H1[q]? = H[q]?) → va_S A0 H0 H1 locs1 → H1[q9]? = some ce → ce.vm = .none → s.vm.findClass E = some ce.cls → vx_W p l e R s m args below meth c H1 locs1 (cells + mc) (slots + ms) Q (F0 m pc ls rest) q9)
    (kk : ∀ (r : UInt64) (u : S) (t : State) (H1 : Heap) (locs1 : List Loc), t.heap = H1 → s.vm.Alike t.vm → post r u → B u t → H.size ≤ H1.size → (∀ q : Nat, q < H.size → ¬ A1 q → H1[q]? = H[q]?) → va_S A0 H0 H1 locs1 → W p l e R s m args below meth c H1 locs1 (cells + mc) (slots + ms) Q (F0 m (pc + 3) ls (.double r :: rest))) : W p l e R s m args below meth c H locs cells slots Q (F0 m pc ls st0) := by
  intro T hT X
  rcases hr T hT X with ⟨v, st₀, t, T', L, h0, X', hL, e1, e2, ⟨⟨r, u, hv, hp, hb⟩, hF⟩, st⟩ | ⟨q, st₀, t, T', L, E, ce, h0, X', hL, e1, e2, ⟨u, hp, hb, hF⟩, hce, hcv, hcl, st⟩
  · cases hv
    obtain ⟨k1, k2, k3⟩ := vx_keep h0 e1 hS hA hf hL hF
    obtain ⟨t2, a1, b1⟩ := kk r u t T'.heap (locs ++ L) e1.symm (by rw [← e2]; exact X'.warmed.alike) hp hb k1 k2 k3 T' rfl X'
    exact ⟨t2, st t2 a1, b1⟩
  · obtain ⟨k1, k2, k3⟩ := vx_keep h0 e1 hS hAX hf hL hF
    obtain ⟨t2, a1, b1⟩ := kx E ce q u t T'.heap (locs ++ L) e1.symm (by rw [← e2]; exact X'.warmed.alike) hp hb k1 k2 k3 (by rw [e1]; exact hce) hcv hcl T' rfl X'
    exact ⟨t2, st.trans a1, b1⟩
theorem vx_callv {S SX : Type} {post : S → Prop} {px : SX → Prop} {B : S → State → Prop} {BX : String → SX → State → Prop} {AX : Nat → Prop} (hr : vx_Run p l e R s m args below meth c H locs cells slots mc ms (F0 m pc ls st0) rest (va_Qv post B A1 a) (vx_X px BX AX) free) (hS : va_S A0 H0 H locs) (hA : ∀ q, q < H.size → A1 q → A0 q) (hf : ∀ q, free q → A0 q) (hAX : ∀ q, q < H.size → AX q → A0 q)
    (kx : ∀ (E : String) (ce : Cell) (q9 : Addr) (u : SX) (t : State) (H1 : Heap) (locs1 : List Loc), t.heap = H1 → s.vm.Alike t.vm → px u → BX E u t → H.size ≤ H1.size → (∀ q : Nat, q < H.size → ¬ AX q → H1[q]? = H[q]?) → va_S A0 H0 H1 locs1 → H1[q9]? = some ce → ce.vm = .none → s.vm.findClass E = some ce.cls → vx_W p l e R s m args below meth c H1 locs1 (cells + mc) (slots + ms) Q (F0 m pc ls rest) q9)
    (kk : ∀ (u : S) (t : State) (H1 : Heap) (locs1 : List Loc), t.heap = H1 → s.vm.Alike t.vm → post u → B u t → H.size ≤ H1.size → (∀ q : Nat, q < H.size → ¬ A1 q → H1[q]? = H[q]?) → va_S A0 H0 H1 locs1 → W p l e R s m args below meth c H1 locs1 (cells + mc) (slots + ms) Q (F0 m (pc + 3) ls (rest))) : W p l e R s m args below meth c H locs cells slots Q (F0 m pc ls st0) := by
  intro T hT X
  rcases hr T hT X with ⟨v, st₀, t, T', L, h0, X', hL, e1, e2, ⟨⟨u, hv, hp, hb⟩, hF⟩, st⟩ | ⟨q, st₀, t, T', L, E, ce, h0, X', hL, e1, e2, ⟨u, hp, hb, hF⟩, hce, hcv, hcl, st⟩
  · cases hv
    obtain ⟨k1, k2, k3⟩ := vx_keep h0 e1 hS hA hf hL hF
    obtain ⟨t2, a1, b1⟩ := kk u t T'.heap (locs ++ L) e1.symm (by rw [← e2]; exact X'.warmed.alike) hp hb k1 k2 k3 T' rfl X'
    exact ⟨t2, st t2 a1, b1⟩
  · obtain ⟨k1, k2, k3⟩ := vx_keep h0 e1 hS hAX hf hL hF
    obtain ⟨t2, a1, b1⟩ := kx E ce q u t T'.heap (locs ++ L) e1.symm (by rw [← e2]; exact X'.warmed.alike) hp hb k1 k2 k3 (by rw [e1]; exact hce) hcv hcl T' rfl X'
    exact ⟨t2, st.trans a1, b1⟩
/-- caught by the row x of this method's table; the rows ahead don't take it -/
theorem vx_catch {own name : String} {E : String} {ce : Cell} {q : Addr} (hown : s.vm.findClass own = some m.cls) (pre : List ExceptionTableEntry) (x : ExceptionTableEntry) (suf : List ExceptionTableEntry) (hsplit : c.exceptionTable.toList = pre ++ x :: suf)
    (hpass : ∀ z ∈ pre, covers z pc = false ∨ (z.catchType ≠ 0 ∧ ∃ nm : String, (Cond.classLink own z.catchType nm).before args s = true ∧ va_Nc E nm s)) (hx : covers x pc = true) (h0 : x.catchType ≠ 0)
    (hlink : (Cond.classLink own x.catchType name).before args s = true) (hcast : (Cond.castable E name).before args s = true) (hcell : H[q]? = some ce) (hv : ce.vm = .none) (hcl : s.vm.findClass E = some ce.cls)
    (kk : W p l e R s m args below meth c H locs cells slots Q (F0 m x.handlerPc ls [.ref q])) : vx_W p l e R s m args below meth c H locs cells slots Q (F0 m pc ls rest) q := by
  intro T hT X
  have hpl : e.platform.magicAccessors = ({} : Platform).magicAccessors := by rw [X.admits.platform]
  obtain ⟨c3, c4, hc3, hc4, hasg⟩ := Cond.castable_spec hcast
  cases Option.some.inj (hc3.symm.trans hcl)
  obtain ⟨c5, hc5, hcl5⟩ := Cond.classLink_spec hown hlink e.platform hpl
  cases Option.some.inj (hc4.symm.trans hc5)
  obtain ⟨vm', X', st⟩ := X.thenCaughtThrough q (g := F0 m pc ls rest) rfl (Steps.refl _) (by rw [hT]; exact hcell) (by rw [hv]; rfl) (by obtain ⟨k9, h9, -⟩ := Vm.findClass_spec hcl; exact ⟨k9, h9⟩) pre x suf hsplit
    (fun z hz => by
      rcases hpass z hz with h | ⟨hz0, nm, hl1, hn1⟩
      · exact Or.inl h
      · obtain ⟨c6, hc6, hcl6⟩ := Cond.classLink_spec hown hl1 e.platform hpl
        obtain ⟨a8, b8, h1, h2, h3⟩ := hn1
        cases Option.some.inj (h1.symm.trans hcl)
        cases Option.some.inj (h2.symm.trans hc6)
        exact Or.inr ⟨hz0, _, hcl6, h3⟩) hx (Or.inr ⟨h0, c4, hcl5, hasg⟩)
  obtain ⟨t, a1, b1⟩ := kk (T.setVm vm') hT X'
  exact ⟨t, st.trans a1, b1⟩
end Rows
section Ends
variable {p : Program} {l : Launch} {e : Env} {R : Room} {s : State} {m : MethodId} {args : Array Value} {below : List Frame} {meth : Method} {c : Code} {H : Heap} {locs : List Loc} {cells slots : Nat} {Q : State → Prop}
variable {mc ms : Nat} {free : Addr → Prop} {A0 A1 : Nat → Prop} {H0 : Heap} {a : Array Value} {ls : Array Slot} {st0 rest : List Value}
variable {Qc : Array Value → State → Outcome → State → Prop} {XC : String → State → State → Prop}
/-- what a body that may throw owes at its end -/
def vx_MQ (below : List Frame) (Qc : Array Value → State → Outcome → State → Prop) (XC : String → State → State → Prop) (a : Array Value) (s : State) (mc ms : Nat) (free : Addr → Prop) : State → Prop := fun t =>
  ∃ o, t.status = .running ∧ Ended t below o ∧ vx_Q Qc XC mc ms free a s o t
theorem vx_ret {g : JFrame} {mc ms : Nat} (k : W p l e R s m args below meth c H locs cells slots (MQ below Qc args s mc ms free) g) : W p l e R s m args below meth c H locs cells slots (vx_MQ below Qc XC args s mc ms free) g := by
  intro T hT X
  obtain ⟨t, a1, o, b1, b2, b3, b4⟩ := k T hT X
  exact ⟨t, a1, o, b1, b2, Or.inl ⟨b3, b4⟩⟩
/-- not caught here: it goes on to the caller -/
theorem vx_widen {g : JFrame} {q : Addr} {k n : Nat} (h1 : cells ≤ k) (h2 : slots ≤ n) (kk : vx_W p l e R s m args below meth c H locs k n Q g q) : vx_W p l e R s m args below meth c H locs cells slots Q g q := fun T hT X => kk T hT (stand_widen X h1 h2)
theorem vx_out {pc : Nat} {E : String} {ce : Cell} {q : Addr} {mc ms : Nat} (hout : ∀ x ∈ c.exceptionTable.toList, covers x pc = false) (hlocks : meth.locks = false) (hcell : H[q]? = some ce) (hv : ce.vm = .none) (hcl : s.vm.findClass E = some ce.cls)
    (hx : ∀ t : State, t.heap = H → s.vm.Alike t.vm → XC E s t) (hf : ∀ z ∈ locs, free z.base) (hc : cells ≤ mc) (hs : slots ≤ ms) :
    vx_W p l e R s m args below meth c H locs cells slots (vx_MQ below Qc XC args s mc ms free) (F0 m pc ls rest) q := by
  intro T hT X
  obtain ⟨st1, hrun, hend, hW, hsm⟩ := X.leaveThrown q (g := F0 m pc ls rest) rfl rfl rfl hout hlocks
  have hcell9 : (T.setFrames (.throwing q :: below)).heap[q]? = some ce := by
    show T.heap[q]? = some ce
    rw [hT]; exact hcell
  exact ⟨_, st1, .threw q, hrun, hend, Or.inr ⟨q, rfl, E, ce, locs, hx _ hT hW.alike, hcell9, hv, hcl, hW, hsm.mono hc hs, hf⟩⟩
theorem vx_frame {U : State} {k n : Nat} (h : s.sameButNew ({ U with vm := s.vm } : State) locs k n) : s.heap.size ≤ U.heap.size ∧ ∀ q : Nat, q < s.heap.size → (∀ z ∈ locs, z.base ≠ q) → U.heap[q]? = s.heap[q]? := by
  obtain ⟨-, h2, -, -, -, h6⟩ := h
  refine ⟨h2, fun q hq hz => ?_⟩
  obtain ⟨c9, e1, e2, e3, e4⟩ := h6 q _ (Array.getElem?_eq_getElem hq)
  have hs : c9.slots = (s.heap[q]).slots := Array.ext_getElem? fun i => e4 i fun hm => hz _ hm rfl
  have h9 : c9 = s.heap[q] := by
    rw [hs] at e2
    exact e2
  have e5 : U.heap[q]? = some c9 := e1
  rw [e5, h9, Array.getElem?_eq_getElem hq]
/-- the words of a throw but the four that speak of the heap -/
def vx_no (w : Cond) : Bool := decide (w ≠ .isRef (.static Bundle.tN "UNASSIGNED_STACK" Bundle.steD)) && decide (w ≠ .isRef (.static Bundle.tN "SUPPRESSED_SENTINEL" Bundle.listD)) && decide (w ≠ .laysStatic Bundle.tN "UNASSIGNED_STACK" Bundle.steD) && decide (w ≠ .laysStatic Bundle.tN "SUPPRESSED_SENTINEL" Bundle.listD)
def vx_at0 (own : String) (ic : Nat) (X : String) (names : List String) : List Cond := (Bundle.ownAtoms0 own ic X names).filter vx_no
def vx_atS (own : String) (ic : Nat) (X : String) (names : List String) : List Cond := (Bundle.ownAtoms own ic X names).filter vx_no
/-- a word that the tables alone decide, or a good one -/
def vx_ot (w : Cond) : Bool := w.onTables || goodWord w
theorem vx_ot_at {args a' : Array Value} {s U : State} {w : Cond} (hW : s.WarmedH U.vm) (hvm : s.vm = U.vm) (hg : vx_ot w = true) (h : w.before args s = true) : w.before a' U = true := by
  simp only [vx_ot, Bool.or_eq_true] at hg
  rcases hg with hg | hg
  · exact va_tabs hg hvm h
  · exact word_at hW (good_of_word hg) h
/-- a list's words: the good ones out of the method's own list, the others by premises of their own -/
theorem vx_hat {args : Array Value} {s : State} {L B : List Cond} (h1 : ∀ w ∈ L.filter goodWord, w.before args s = true) (h2 : ∀ w ∈ L.filter (fun w => !goodWord w), w ∈ B) (h3 : ∀ w ∈ B, w.before args s = true) : ∀ w ∈ L, w.before args s = true := by
  intro w hw
  by_cases g : goodWord w = true
  · exact h1 w (List.mem_filter.mpr ⟨hw, g⟩)
  · refine h3 w (h2 w (List.mem_filter.mpr ⟨hw, ?_⟩))
    show (!goodWord w) = true
    cases hgw : goodWord w
    · rfl
    · exact absurd hgw g
theorem vx_c {args : Array Value} {s : State} {w : Cond} {B : List Cond} (h : w.before args s = true) (t : ∀ w ∈ B, w.before args s = true) : ∀ w' ∈ w :: B, w'.before args s = true := fun w' h' => (List.mem_cons.mp h').elim (fun e => by rw [e]; exact h) (t w')
theorem vx_n {args : Array Value} {s : State} : ∀ w ∈ ([] : List Cond), w.before args s = true := fun _ h => nomatch h
theorem vx_own {args : Array Value} {s : State} {L : List Cond} (h1 : ∀ w ∈ L.filter vx_no, w.before args s = true)
    (hU : (Cond.isRef (.static Bundle.tN "UNASSIGNED_STACK" Bundle.steD)).before args s = true) (hN : (Cond.isRef (.static Bundle.tN "SUPPRESSED_SENTINEL" Bundle.listD)).before args s = true)
    (lU : (Cond.laysStatic Bundle.tN "UNASSIGNED_STACK" Bundle.steD).before args s = true) (lN : (Cond.laysStatic Bundle.tN "SUPPRESSED_SENTINEL" Bundle.listD).before args s = true) : ∀ w ∈ L, w.before args s = true := by
  intro w hw
  by_cases e1 : w = .isRef (.static Bundle.tN "UNASSIGNED_STACK" Bundle.steD)
  · rw [e1]; exact hU
  · by_cases e2 : w = .isRef (.static Bundle.tN "SUPPRESSED_SENTINEL" Bundle.listD)
    · rw [e2]; exact hN
    · by_cases e3 : w = .laysStatic Bundle.tN "UNASSIGNED_STACK" Bundle.steD
      · rw [e3]; exact lU
      · by_cases e4 : w = .laysStatic Bundle.tN "SUPPRESSED_SENTINEL" Bundle.listD
        · rw [e4]; exact lN
        · exact h1 w (List.mem_filter.mpr ⟨hw, by unfold vx_no; rw [decide_eq_true e1, decide_eq_true e2, decide_eq_true e3, decide_eq_true e4]; rfl⟩)
/-- where a static field lies, its class's statics cell in H -/
def vx_L (C n d : String) (A : Nat → Prop) (U : State) (H : Heap) : Prop := ∃ (c : ClassId) (k : Class) (i : Nat) (f : Field) (a : Nat) (cell : Cell), U.vm.findClass C = some c ∧ U.fieldFound? C n d = some (c, k, i, f) ∧ f.isStatic = true ∧ k.statics = some a ∧ H[a]? = some cell ∧ cell.vm.isStatics = true ∧ cell.cls = c ∧ f.slot < cell.slots.size ∧ k.staticTypes[f.slot]? = some f.type ∧ ¬ A a
theorem vx_L.moved {C n d : String} {A : Nat → Prop} {u U : State} {H : Heap} (hvm : u.vm.Alike U.vm) (h : vx_L C n d A u H) : vx_L C n d A U H := by
  obtain ⟨c, k, i, f, a, cell, h1, h2, h3, h4, h5, h6, h7, h8, h9, h10⟩ := h
  obtain ⟨k', hi', he⟩ := State.fieldFound?_setVm hvm h2
  exact ⟨c, k', i, f, a, cell, by rw [hvm.findClass]; exact h1, hi', h3, by rw [he]; exact h4, h5, h6, h7, h8, by rw [he]; exact h9, h10⟩
theorem vx_L.kept {C n d : String} {A : Nat → Prop} {U : State} {H H1 : Heap} (h : vx_L C n d A U H) (hq : ∀ a : Nat, a < H.size → ¬ A a → H1[a]? = H[a]?) : vx_L C n d A U H1 := by
  obtain ⟨c, k, i, f, a, cell, h1, h2, h3, h4, h5, h6, h7, h8, h9, h10⟩ := h
  exact ⟨c, k, i, f, a, cell, h1, h2, h3, h4, by rw [hq a (Array.getElem?_eq_some_iff.mp h5).1 h10]; exact h5, h6, h7, h8, h9, h10⟩
theorem vx_L.narrow {C n d : String} {A B : Nat → Prop} {U : State} {H : Heap} (h : vx_L C n d A U H) (hAB : ∀ q, B q → A q) : vx_L C n d B U H := by
  obtain ⟨c, k, i, f, a, cell, h1, h2, h3, h4, h5, h6, h7, h8, h9, h10⟩ := h
  exact ⟨c, k, i, f, a, cell, h1, h2, h3, h4, h5, h6, h7, h8, h9, fun z => h10 (hAB _ z)⟩
theorem vx_L.word {C n d : String} {A : Nat → Prop} {s : State} {args : Array Value} (h : vx_L C n d A s s.heap) : (Cond.laysStatic C n d).before args s = true := by
  obtain ⟨c, k, i, f, a, cell, h1, h2, h3, h4, h5, h6, h7, h8, h9, -⟩ := h
  show (Cond.laysStatic C n d).holds args s none s [] = true
  exact Cond.laysStatic_of h1 h2 h3 h4 h5 h6 h7 h8 h9
/-- .. and what it holds: null or some reference -/
def vx_Zq (C n d : String) (A : Nat → Prop) (U : State) (H : Heap) : Prop := va_Zq C n d A U H ∧ vx_L C n d A U H
theorem vx_Zq.moved {C n d : String} {A : Nat → Prop} {u U : State} {H : Heap} (hvm : u.vm.Alike U.vm) (h : vx_Zq C n d A u H) : vx_Zq C n d A U H := ⟨va_Zq.moved hvm h.1, vx_L.moved hvm h.2⟩
theorem vx_Zq.kept {C n d : String} {A : Nat → Prop} {U : State} {H H1 : Heap} (h : vx_Zq C n d A U H) (hq : ∀ a : Nat, a < H.size → ¬ A a → H1[a]? = H[a]?) : vx_Zq C n d A U H1 := ⟨va_Zq.kept h.1 hq, vx_L.kept h.2 hq⟩
theorem vx_Zq.narrow {C n d : String} {A B : Nat → Prop} {U : State} {H : Heap} (h : vx_Zq C n d A U H) (hAB : ∀ q, B q → A q) : vx_Zq C n d B U H := ⟨va_Zq.narrow h.1 hAB, vx_L.narrow h.2 hAB⟩
theorem vx_Zqof {args : Array Value} {s : State} {C n d : String} {A : Nat → Prop} (hl : (Cond.laysStatic C n d).before args s = true) (hini : (Cond.initialized C).before args s = true) (h : (Cond.isRef (.static C n d)).before args s = true) (hA : ∀ a : Nat, a < s.heap.size → ¬ A a) : vx_Zq C n d A s s.heap := by
  refine ⟨va_Zqof hl hini h hA, ?_⟩
  obtain ⟨c, k, i, f, a, cell, h1, h2, h3, h4, h5, h6, h7, h8, h9⟩ := Cond.laysStatic_spec hl
  exact ⟨c, k, i, f, a, cell, h1, h2, h3, h4, h5, h6, h7, h8, h9, hA a (Array.getElem?_eq_some_iff.mp h5).1⟩
theorem vx_isRef {C n d : String} {v : Value} {A : Nat → Prop} {s : State} {args : Array Value} (h : va_Z C n d v A s s.heap) (hv : v.isRef = true) : (Cond.isRef (.static C n d)).before args s = true := by
  obtain ⟨cf, kf, fi, f, a, cell, h1, h2, h3, h4, h5, h6, h7, -⟩ := h
  have he : (Term.static C n d).eval args s none [] s = some v := by
    simp [Term.eval, State.fieldNamed?, h1, h2, h4, h5, h6, h7]
  simp only [Cond.before, Cond.holds, Cond.value, he]
  cases v <;> simp_all [Value.isRef]
theorem vx_isRefq {C n d : String} {A : Nat → Prop} {s : State} {args : Array Value} (h : va_Zq C n d A s s.heap) : (Cond.isRef (.static C n d)).before args s = true := by
  rcases h with h | ⟨t, h⟩
  · exact vx_isRef h rfl
  · exact vx_isRef h rfl
/-- the same frame, seen from here: as if the method were called anew in this heap -/
theorem vx_rebase {T : State} (X : Stand p l e R s m args below meth c T locs cells slots) {R' : Room} (hf : R'.frames ≤ R.frames) (hl : R'.locals ≤ R.locals) (hc : cells + R'.cells ≤ R.cells) (hs : slots + R'.slots ≤ R.slots) :
    Stand p l e R' ((T.setVm s.vm).setFrames (.invoking m args :: below)) m args below meth c T [] 0 0 := by
  have htop : (T.setVm s.vm).topJava?.isSome := X.here.top
  have hF : ((T.setVm s.vm).setFrames (.invoking m args :: below)).frames = .invoking m args :: below := State.frames_setFrames _ (State.cur_lt_of_top htop)
  obtain ⟨g₀, hg0⟩ := Option.isSome_iff_exists.mp htop
  obtain ⟨r, hr⟩ := State.topJava?_eq_some.mp hg0
  have hl9 : e.platform.stackLimits (T.setVm s.vm).me = e.platform.stackLimits s.me := X.limits
  have hb9 : (T.setVm s.vm).me.stackBytes = s.me.stackBytes := X.bytes
  refine ⟨X.admits, X.cas, X.clock, hF, ?_, X.hears, X.method, X.code, X.here, X.tail, X.warmed, ?_, ?_, ?_⟩
  · have h := X.room
    have hU : ((T.setVm s.vm).setFrames (.invoking m args :: below)).localsInUse = s.localsInUse := by
      rw [State.localsInUse_invoking hF (meth := meth) (c := c) X.method X.code, State.localsInUse_invoking X.frames X.method X.code]
    simp only [State.hasRoom, Bool.and_eq_true, decide_eq_true_eq] at h ⊢
    obtain ⟨⟨⟨⟨h1, h2, h3, h4, h5, h6⟩, h7⟩, h8⟩, h9⟩ := h
    rw [X.frames, List.length_cons] at h2 h3
    have q1 := X.heapSize
    have q2 := X.used
    simp only [hF, hU, List.length_cons, State.stackLimits_setFrames, State.stackBytes_setFrames, hl9, hb9]
    refine ⟨⟨⟨⟨by omega, by omega, by omega, by omega, by omega, h6⟩, ?_⟩, ?_⟩, X.book⟩
    · show T.heap.size + R'.cells ≤ e.platform.maxCells
      omega
    · show T.slotsUsed + R'.slots ≤ e.platform.maxSlots
      omega
  · rw [State.stackLimits_setFrames]; rfl
  · rw [State.stackBytes_setFrames]; rfl
  · refine ⟨?_, Nat.le_refl _, Nat.le_refl _, ?_, ?_, fun a c9 h9 => ⟨c9, h9, rfl, rfl, fun _ _ => rfl⟩⟩
    · obtain ⟨t, ht, -⟩ := State.frames_cons hr
      show T.setVm s.vm = { ((T.setVm s.vm).setFrames (.invoking m args :: below)).setFrames (T.setVm s.vm).frames with heap := T.heap, slotsUsed := T.slotsUsed }
      rw [State.setFrames_setFrames, State.setFrames_self ht]
      rfl
    · show T.slotsUsed = T.slotsUsed + ((T.heap.toList.drop T.heap.size).map (·.slots.size)).sum
      rw [List.drop_eq_nil_of_le (Nat.le_of_eq Array.length_toList)]
      rfl
    · show ((T.heap.toList.drop T.heap.size).map (·.slots.size)).sum ≤ 0
      rw [List.drop_eq_nil_of_le (Nat.le_of_eq Array.length_toList)]
      exact Nat.le_refl _
/-- 'throw new E()': new; dup; invokespecial; athrow -/
theorem vx_throw0 {cc : ByteArray} {pc : Nat} (hexec : p.tables.exec = Jvm.exec) (hb : c.code = cc) (hl : l.stackTraces = false) {own cls : String} {names : List String} {ik ic mc ms : Nat} {A : Nat → Prop}
    (hown : s.vm.findClass own = some m.cls) (hcls : Bundle.fit cls = true) (hnames : ∀ n ∈ names, Bundle.fit n = true)
    (hk : (Cond.classLink own ik cls).before args s = true) (hini : (Cond.initialized cls).before args s = true) (hat : ∀ w ∈ vx_at0 own ic cls names, w.before args s = true)
    (hgood : ∀ w ∈ Cond.classLink own ik cls :: Cond.initialized cls :: vx_at0 own ic cls names, vx_ot w = true)
    (hU : vx_Zq Bundle.tN "UNASSIGNED_STACK" Bundle.steD A s s.heap) (hN : vx_Zq Bundle.tN "SUPPRESSED_SENTINEL" Bundle.listD A s s.heap) (hS : va_S A s.heap H locs) (hsize : ls.size = c.maxLocals)
    (d0 : decode cc pc = .ok (.new ik, 3)) (d3 : decode cc (pc + 3) = .ok (.dup, 1)) (d4 : decode cc (pc + 4) = .ok (.invokespecial ic, 3)) (d7 : decode cc (pc + 7) = .ok (.athrow, 1))
    (hout : ∀ x ∈ c.exceptionTable.toList, covers x (pc + 7) = false)
    (hRframes : names.length + 3 < R.frames) (hRlocals : (rest.map fun v => v.category).sum + (13 * (names.length + 1) + 42) ≤ R.locals) (hRcells : cells + 1 ≤ R.cells) (hRslots : slots + 6 ≤ R.slots) (hlocks : meth.locks = false)
    (hx : ∀ t : State, s.vm.Alike t.vm → H.size ≤ t.heap.size → (∀ q : Nat, q < H.size → t.heap[q]? = H[q]?) → XC cls s t)
    (hf : ∀ z ∈ locs, free z.base) (hc : cells + 1 ≤ mc) (hs : slots + 6 ≤ ms) :
    W p l e R s m args below meth c H locs cells slots (vx_MQ below Qc XC args s mc ms free) (F0 m pc ls rest) := by
  intro T hT X
  have htr : e.platform.stackTraces = false := (show e.platform.stackTraces = l.stackTraces by rw [X.admits.platform]).trans hl
  have Y := vx_rebase X (R' := { frames := R.frames, locals := R.locals, cells := 1, slots := 6 }) (Nat.le_refl _) (Nat.le_refl _) hRcells hRslots
  obtain ⟨s', hA⟩ : ∃ z, z = (T.setVm s.vm).setFrames (.invoking m args :: below) := ⟨_, rfl⟩
  rw [← hA] at Y
  have hvm : s'.vm = s.vm := by rw [hA]; rfl
  have hhp : s'.heap = H := by rw [hA]; exact hT
  have hW0 : s.WarmedH s'.vm := by rw [hvm]; exact State.WarmedH.refl s
  have hat' : ∀ w ∈ vx_at0 own ic cls names, w.before args s' = true := fun w hw => vx_ot_at hW0 hvm.symm (hgood w (List.mem_cons_of_mem _ (List.mem_cons_of_mem _ hw))) (hat w hw)
  have hk' : (Cond.classLink own ik cls).before args s' = true := vx_ot_at hW0 hvm.symm (hgood _ List.mem_cons_self) hk
  have hini' : (Cond.initialized cls).before args s' = true := vx_ot_at hW0 hvm.symm (hgood _ (List.mem_cons_of_mem _ List.mem_cons_self)) hini
  have hU' : vx_Zq Bundle.tN "UNASSIGNED_STACK" Bundle.steD A s' s'.heap := by rw [hhp]; exact vx_Zq.moved hW0.alike (hU.kept hS.2.1)
  have hN' : vx_Zq Bundle.tN "SUPPRESSED_SENTINEL" Bundle.listD A s' s'.heap := by rw [hhp]; exact vx_Zq.moved hW0.alike (hN.kept hS.2.1)
  have h : ∀ w ∈ Bundle.ownAtoms0 own ic cls names, w.before args s' = true := vx_own hat' (vx_isRefq hU'.1) (vx_isRefq hN'.1) hU'.2.word hN'.2.word
  have hown' : s'.vm.findClass own = some m.cls := by rw [hvm]; exact hown
  have hins : (Cond.instantiable cls 6).before args s' = true := h _ (by simp [Bundle.ownAtoms0])
  obtain ⟨vm₁, cX, kX, hfX, hkX, -, -, X₁, st1⟩ := Y.newCold hexec (own := own) (C := cls) (index := ik) (n := 6) hown' hk' hins hini'
    (g := F0 m pc ls rest) rfl (by rw [hb]; exact d0) (Nat.le_refl _) (Nat.le_refl _)
  generalize hT1 : (T.setVm vm₁).pushCell { cls := cX, slots := kX.instanceTypes.map defaultValue, vm := .none } = T1 at X₁ st1
  have hcat : (Value.ref T.heap.size).category = 1 := rfl
  have hcellA : T1.heap[T.heap.size]? = some (freshCell cX kX) := by rw [← hT1]; exact State.heap_pushCell_size _ _
  have d3' : decode c.code (pc + 3) = .ok (.dup, 1) := by rw [hb]; exact d3
  obtain ⟨U, hsteps, hrun, hend, hW, hsame, ce, hce, hO⟩ := X₁.ctorThrow0 hexec htr (own := own) (cls := cls) (names := names) (ic := ic) hown' hcls hnames h (fun x hx => nomatch hx) hfX hkX hcellA (by rw [hhp, hT]; exact Nat.le_refl _)
    (g := { method := m, pc := pc + 4, locals := ls, stack := .ref T.heap.size :: .ref T.heap.size :: rest, locked := none }) rfl hsize rfl rfl (rest := rest) rfl
    (by rw [hb]; exact d4) (by rw [hb]; exact d7) hout hRframes (by simp only [List.map_cons, List.sum_cons, hcat]; omega) hlocks
  obtain ⟨f1, f2⟩ := vx_frame hsame
  rw [hhp] at f1 f2
  have hWs : s.WarmedH U.vm := State.WarmedH.trans hW0 hW
  have hcl : s.vm.findClass cls = some ce.cls := by
    have h9 := hO.cls
    rw [hvm] at h9
    exact h9
  have hall : s.sameButNew ({ U with vm := s.vm } : State) locs mc ms := by
    subst hA
    obtain ⟨e1, e2⟩ := hsame
    rw [State.setFrames_setFrames] at e1
    have h2 : (T.setVm s.vm).sameButNew ({ U with vm := s.vm } : State) [] (0 + 1) (0 + 6) := ⟨e1, e2⟩
    have h3 := X.same.trans h2
    rw [List.append_nil] at h3
    exact h3.mono hc hs
  refine ⟨U, ?_, .threw T.heap.size, hrun, hend, Or.inr ⟨T.heap.size, rfl, cls, ce, locs, hx U hWs.alike f1 (fun q hq => f2 q hq (fun z hz => nomatch hz)), hce, hO.vm, hcl, hWs, hall, hf⟩⟩
  refine st1 _ ?_
  show Steps p.tables e below (T1.setTop { method := m, pc := pc + 3, locals := ls, stack := .ref T.heap.size :: rest, locked := none }) _
  jvm_step X₁.here [X₁.here.top, hexec, d3', Value.category]
  exact hsteps
/-- 'throw new E("text")': new; dup; ldc; invokespecial; athrow -/
theorem vx_throwS {cc : ByteArray} {pc : Nat} (hexec : p.tables.exec = Jvm.exec) (hb : c.code = cc) (hl : l.stackTraces = false) {own cls text : String} {names : List String} {ik is ic mc ms sa : Nat} {A : Nat → Prop}
    (hown : s.vm.findClass own = some m.cls) (hcls : Bundle.fit cls = true) (hnames : ∀ n ∈ names, Bundle.fit n = true)
    (hk : (Cond.classLink own ik cls).before args s = true) (hini : (Cond.initialized cls).before args s = true) (hstr : vk_R own is text sa s) (hat : ∀ w ∈ vx_atS own ic cls names, w.before args s = true)
    (hgood : ∀ w ∈ Cond.classLink own ik cls :: Cond.initialized cls :: vx_atS own ic cls names, vx_ot w = true)
    (hU : vx_Zq Bundle.tN "UNASSIGNED_STACK" Bundle.steD A s s.heap) (hN : vx_Zq Bundle.tN "SUPPRESSED_SENTINEL" Bundle.listD A s s.heap) (hS : va_S A s.heap H locs) (hsize : ls.size = c.maxLocals)
    (d0 : decode cc pc = .ok (.new ik, 3)) (d3 : decode cc (pc + 3) = .ok (.dup, 1)) (d4 : decode cc (pc + 4) = .ok (.ldc is, 2)) (d6 : decode cc (pc + 6) = .ok (.invokespecial ic, 3)) (d9 : decode cc (pc + 9) = .ok (.athrow, 1))
    (hout : ∀ x ∈ c.exceptionTable.toList, covers x (pc + 9) = false)
    (hRframes : names.length + 3 < R.frames) (hRlocals : (rest.map fun v => v.category).sum + (13 * (names.length + 1) + 43) ≤ R.locals) (hRcells : cells + 1 ≤ R.cells) (hRslots : slots + 6 ≤ R.slots) (hlocks : meth.locks = false)
    (hx : ∀ t : State, s.vm.Alike t.vm → H.size ≤ t.heap.size → (∀ q : Nat, q < H.size → t.heap[q]? = H[q]?) → XC cls s t)
    (hf : ∀ z ∈ locs, free z.base) (hc : cells + 1 ≤ mc) (hs : slots + 6 ≤ ms) :
    W p l e R s m args below meth c H locs cells slots (vx_MQ below Qc XC args s mc ms free) (F0 m pc ls rest) := by
  intro T hT X
  have htr : e.platform.stackTraces = false := (show e.platform.stackTraces = l.stackTraces by rw [X.admits.platform]).trans hl
  have Y := vx_rebase X (R' := { frames := R.frames, locals := R.locals, cells := 1, slots := 6 }) (Nat.le_refl _) (Nat.le_refl _) hRcells hRslots
  obtain ⟨s', hA⟩ : ∃ z, z = (T.setVm s.vm).setFrames (.invoking m args :: below) := ⟨_, rfl⟩
  rw [← hA] at Y
  have hvm : s'.vm = s.vm := by rw [hA]; rfl
  have hhp : s'.heap = H := by rw [hA]; exact hT
  have hW0 : s.WarmedH s'.vm := by rw [hvm]; exact State.WarmedH.refl s
  have hat' : ∀ w ∈ vx_atS own ic cls names, w.before args s' = true := fun w hw => vx_ot_at hW0 hvm.symm (hgood w (List.mem_cons_of_mem _ (List.mem_cons_of_mem _ hw))) (hat w hw)
  have hk' : (Cond.classLink own ik cls).before args s' = true := vx_ot_at hW0 hvm.symm (hgood _ List.mem_cons_self) hk
  have hini' : (Cond.initialized cls).before args s' = true := vx_ot_at hW0 hvm.symm (hgood _ (List.mem_cons_of_mem _ List.mem_cons_self)) hini
  have hU' : vx_Zq Bundle.tN "UNASSIGNED_STACK" Bundle.steD A s' s'.heap := by rw [hhp]; exact vx_Zq.moved hW0.alike (hU.kept hS.2.1)
  have hN' : vx_Zq Bundle.tN "SUPPRESSED_SENTINEL" Bundle.listD A s' s'.heap := by rw [hhp]; exact vx_Zq.moved hW0.alike (hN.kept hS.2.1)
  have h : ∀ w ∈ Bundle.ownAtoms own ic cls names, w.before args s' = true := vx_own hat' (vx_isRefq hU'.1) (vx_isRefq hN'.1) hU'.2.word hN'.2.word
  have hown' : s'.vm.findClass own = some m.cls := by rw [hvm]; exact hown
  have hins : (Cond.instantiable cls 6).before args s' = true := h _ (by simp [Bundle.ownAtoms])
  obtain ⟨vm₁, cX, kX, hfX, hkX, -, -, X₁, st1⟩ := Y.newCold hexec (own := own) (C := cls) (index := ik) (n := 6) hown' hk' hins hini'
    (g := F0 m pc ls rest) rfl (by rw [hb]; exact d0) (Nat.le_refl _) (Nat.le_refl _)
  generalize hT1 : (T.setVm vm₁).pushCell { cls := cX, slots := kX.instanceTypes.map defaultValue, vm := .none } = T1 at X₁ st1
  have hcat : (Value.ref T.heap.size).category = 1 := rfl
  have hcellA : T1.heap[T.heap.size]? = some (freshCell cX kX) := by rw [← hT1]; exact State.heap_pushCell_size _ _
  have d3' : decode c.code (pc + 3) = .ok (.dup, 1) := by rw [hb]; exact d3
  have d4' : decode c.code (pc + 4) = .ok (.ldc is, 2) := by rw [hb]; exact d4
  have hstr' : vk_R own is text sa s' := vk_R.warm hW0 hstr
  obtain ⟨U, hsteps, hrun, hend, hW, hsame, ce, hce, hO⟩ := X₁.ctorThrowS hexec htr (own := own) (cls := cls) (names := names) (ic := ic) hown' hcls hnames h (fun x hx => nomatch hx) hfX hkX hcellA (by rw [hhp, hT]; exact Nat.le_refl _) (msg := .ref sa) rfl
    (g := { method := m, pc := pc + 6, locals := ls, stack := .ref sa :: .ref T.heap.size :: .ref T.heap.size :: rest, locked := none }) rfl hsize rfl rfl (rest := rest) rfl
    (by rw [hb]; exact d6) (by rw [hb]; exact d9) hout hRframes (by simp only [List.map_cons, List.sum_cons, hcat]; omega) hlocks
  obtain ⟨f1, f2⟩ := vx_frame hsame
  rw [hhp] at f1 f2
  have hWs : s.WarmedH U.vm := State.WarmedH.trans hW0 hW
  have hcl : s.vm.findClass cls = some ce.cls := by
    have h9 := hO.cls
    rw [hvm] at h9
    exact h9
  have hall : s.sameButNew ({ U with vm := s.vm } : State) locs mc ms := by
    subst hA
    obtain ⟨e1, e2⟩ := hsame
    rw [State.setFrames_setFrames] at e1
    have h2 : (T.setVm s.vm).sameButNew ({ U with vm := s.vm } : State) [] (0 + 1) (0 + 6) := ⟨e1, e2⟩
    have h3 := X.same.trans h2
    rw [List.append_nil] at h3
    exact h3.mono hc hs
  refine ⟨U, ?_, .threw T.heap.size, hrun, hend, Or.inr ⟨T.heap.size, rfl, cls, ce, locs, hx U hWs.alike f1 (fun q hq => f2 q hq (fun z hz => nomatch hz)), hce, hO.vm, hcl, hWs, hall, hf⟩⟩
  refine st1 _ ?_
  show Steps p.tables e below (T1.setTop { method := m, pc := pc + 3, locals := ls, stack := .ref T.heap.size :: rest, locked := none }) _
  jvm_step X₁.here [X₁.here.top, hexec, d3', Value.category]
  exact X₁.ldcString hexec (own := own) (text := text) (index := is) (a := sa) hown' hstr'.1 hstr'.2
    (g := { method := m, pc := pc + 4, locals := ls, stack := .ref T.heap.size :: .ref T.heap.size :: rest, locked := none }) rfl d4' _ hsteps
/-- 'throw new E("text")', the text by a wide index -/
theorem vx_throwSW {cc : ByteArray} {pc : Nat} (hexec : p.tables.exec = Jvm.exec) (hb : c.code = cc) (hl : l.stackTraces = false) {own cls text : String} {names : List String} {ik is ic mc ms sa : Nat} {A : Nat → Prop}
    (hown : s.vm.findClass own = some m.cls) (hcls : Bundle.fit cls = true) (hnames : ∀ n ∈ names, Bundle.fit n = true)
    (hk : (Cond.classLink own ik cls).before args s = true) (hini : (Cond.initialized cls).before args s = true) (hstr : vk_R own is text sa s) (hat : ∀ w ∈ vx_atS own ic cls names, w.before args s = true)
    (hgood : ∀ w ∈ Cond.classLink own ik cls :: Cond.initialized cls :: vx_atS own ic cls names, vx_ot w = true)
    (hU : vx_Zq Bundle.tN "UNASSIGNED_STACK" Bundle.steD A s s.heap) (hN : vx_Zq Bundle.tN "SUPPRESSED_SENTINEL" Bundle.listD A s s.heap) (hS : va_S A s.heap H locs) (hsize : ls.size = c.maxLocals)
    (d0 : decode cc pc = .ok (.new ik, 3)) (d3 : decode cc (pc + 3) = .ok (.dup, 1)) (d4 : decode cc (pc + 4) = .ok (.ldc_w is, 3)) (d7 : decode cc (pc + 7) = .ok (.invokespecial ic, 3)) (d10 : decode cc (pc + 10) = .ok (.athrow, 1))
    (hout : ∀ x ∈ c.exceptionTable.toList, covers x (pc + 10) = false)
    (hRframes : names.length + 3 < R.frames) (hRlocals : (rest.map fun v => v.category).sum + (13 * (names.length + 1) + 43) ≤ R.locals) (hRcells : cells + 1 ≤ R.cells) (hRslots : slots + 6 ≤ R.slots) (hlocks : meth.locks = false)
    (hx : ∀ t : State, s.vm.Alike t.vm → H.size ≤ t.heap.size → (∀ q : Nat, q < H.size → t.heap[q]? = H[q]?) → XC cls s t)
    (hf : ∀ z ∈ locs, free z.base) (hc : cells + 1 ≤ mc) (hs : slots + 6 ≤ ms) :
    W p l e R s m args below meth c H locs cells slots (vx_MQ below Qc XC args s mc ms free) (F0 m pc ls rest) := by
  intro T hT X
  have htr : e.platform.stackTraces = false := (show e.platform.stackTraces = l.stackTraces by rw [X.admits.platform]).trans hl
  have Y := vx_rebase X (R' := { frames := R.frames, locals := R.locals, cells := 1, slots := 6 }) (Nat.le_refl _) (Nat.le_refl _) hRcells hRslots
  obtain ⟨s', hA⟩ : ∃ z, z = (T.setVm s.vm).setFrames (.invoking m args :: below) := ⟨_, rfl⟩
  rw [← hA] at Y
  have hvm : s'.vm = s.vm := by rw [hA]; rfl
  have hhp : s'.heap = H := by rw [hA]; exact hT
  have hW0 : s.WarmedH s'.vm := by rw [hvm]; exact State.WarmedH.refl s
  have hat' : ∀ w ∈ vx_atS own ic cls names, w.before args s' = true := fun w hw => vx_ot_at hW0 hvm.symm (hgood w (List.mem_cons_of_mem _ (List.mem_cons_of_mem _ hw))) (hat w hw)
  have hk' : (Cond.classLink own ik cls).before args s' = true := vx_ot_at hW0 hvm.symm (hgood _ List.mem_cons_self) hk
  have hini' : (Cond.initialized cls).before args s' = true := vx_ot_at hW0 hvm.symm (hgood _ (List.mem_cons_of_mem _ List.mem_cons_self)) hini
  have hU' : vx_Zq Bundle.tN "UNASSIGNED_STACK" Bundle.steD A s' s'.heap := by rw [hhp]; exact vx_Zq.moved hW0.alike (hU.kept hS.2.1)
  have hN' : vx_Zq Bundle.tN "SUPPRESSED_SENTINEL" Bundle.listD A s' s'.heap := by rw [hhp]; exact vx_Zq.moved hW0.alike (hN.kept hS.2.1)
  have h : ∀ w ∈ Bundle.ownAtoms own ic cls names, w.before args s' = true := vx_own hat' (vx_isRefq hU'.1) (vx_isRefq hN'.1) hU'.2.word hN'.2.word
  have hown' : s'.vm.findClass own = some m.cls := by rw [hvm]; exact hown
  have hins : (Cond.instantiable cls 6).before args s' = true := h _ (by simp [Bundle.ownAtoms])
  obtain ⟨vm₁, cX, kX, hfX, hkX, -, -, X₁, st1⟩ := Y.newCold hexec (own := own) (C := cls) (index := ik) (n := 6) hown' hk' hins hini'
    (g := F0 m pc ls rest) rfl (by rw [hb]; exact d0) (Nat.le_refl _) (Nat.le_refl _)
  generalize hT1 : (T.setVm vm₁).pushCell { cls := cX, slots := kX.instanceTypes.map defaultValue, vm := .none } = T1 at X₁ st1
  have hcat : (Value.ref T.heap.size).category = 1 := rfl
  have hcellA : T1.heap[T.heap.size]? = some (freshCell cX kX) := by rw [← hT1]; exact State.heap_pushCell_size _ _
  have d3' : decode c.code (pc + 3) = .ok (.dup, 1) := by rw [hb]; exact d3
  have d4' : decode c.code (pc + 4) = .ok (.ldc_w is, 3) := by rw [hb]; exact d4
  have hstr' : vk_R own is text sa s' := vk_R.warm hW0 hstr
  obtain ⟨U, hsteps, hrun, hend, hW, hsame, ce, hce, hO⟩ := X₁.ctorThrowS hexec htr (own := own) (cls := cls) (names := names) (ic := ic) hown' hcls hnames h (fun x hx => nomatch hx) hfX hkX hcellA (by rw [hhp, hT]; exact Nat.le_refl _) (msg := .ref sa) rfl
    (g := { method := m, pc := pc + 7, locals := ls, stack := .ref sa :: .ref T.heap.size :: .ref T.heap.size :: rest, locked := none }) rfl hsize rfl rfl (rest := rest) rfl
    (by rw [hb]; exact d7) (by rw [hb]; exact d10) hout hRframes (by simp only [List.map_cons, List.sum_cons, hcat]; omega) hlocks
  obtain ⟨f1, f2⟩ := vx_frame hsame
  rw [hhp] at f1 f2
  have hWs : s.WarmedH U.vm := State.WarmedH.trans hW0 hW
  have hcl : s.vm.findClass cls = some ce.cls := by
    have h9 := hO.cls
    rw [hvm] at h9
    exact h9
  have hall : s.sameButNew ({ U with vm := s.vm } : State) locs mc ms := by
    subst hA
    obtain ⟨e1, e2⟩ := hsame
    rw [State.setFrames_setFrames] at e1
    have h2 : (T.setVm s.vm).sameButNew ({ U with vm := s.vm } : State) [] (0 + 1) (0 + 6) := ⟨e1, e2⟩
    have h3 := X.same.trans h2
    rw [List.append_nil] at h3
    exact h3.mono hc hs
  refine ⟨U, ?_, .threw T.heap.size, hrun, hend, Or.inr ⟨T.heap.size, rfl, cls, ce, locs, hx U hWs.alike f1 (fun q hq => f2 q hq (fun z hz => nomatch hz)), hce, hO.vm, hcl, hWs, hall, hf⟩⟩
  refine st1 _ ?_
  show Steps p.tables e below (T1.setTop { method := m, pc := pc + 3, locals := ls, stack := .ref T.heap.size :: rest, locked := none }) _
  jvm_step X₁.here [X₁.here.top, hexec, d3', Value.category]
  exact X₁.ldcStringW hexec (own := own) (text := text) (index := is) (a := sa) hown' hstr'.1 hstr'.2
    (g := { method := m, pc := pc + 4, locals := ls, stack := .ref T.heap.size :: .ref T.heap.size :: rest, locked := none }) rfl d4' _ hsteps
end Ends
section Bodies
variable {l : Launch}
theorem vx_ofW {y : MethodName} {ws ws' : List Cond} {rm : Room} {Pc : Array Value → State → Prop} {Qc : Array Value → State → Outcome → State → Prop} {XC : String → State → State → Prop} {mc ms : Nat} {free : Addr → Prop} {cc : ByteArray} {maxL : Nat} {ret : Option FieldType}
    (hy : plainName y.cls = true) (hw : ws = Cond.code y cc maxL ret :: ws')
    (body : ∀ p e s m args below meth c s₁, BodyLoose p l y (headSpec ws rm) cc maxL ret e s m args below meth c s₁ → c.maxLocals = maxL → (∀ x ∈ c.exceptionTable.toList, False) → Pc args s →
      W p l e (headSpec ws rm).room s m args below meth c s.heap [] 0 0 (vx_MQ below Qc XC args s mc ms free) (entryFrame m args maxL)) : vx_Met l y ws rm Pc Qc XC mc ms free := by
  refine MetFree.of_bodyS (code := cc) (maxLocals := maxL) (ret := ret) hy ?_ ?_
  · intro args s m h hn
    obtain ⟨meth, c, h1, h2, h3, h4, h5, h6, -, -⟩ := Cond.code_spec hn (atoms_spec (ws := ws) h _ (by rw [hw]; exact List.mem_cons_self))
    exact ⟨meth, c, h1, h2, h3, h4, h5, h6⟩
  · intro p e s m args below meth c s₁ B hml hP _
    have hh0 : s₁.heap = s.heap := by rw [B.state]; rfl
    have ht : ∀ x ∈ c.exceptionTable.toList, False := by
      obtain ⟨meth9, c9, h1, h2, -, -, -, -, h7, -⟩ := Cond.code_spec B.named (atoms_spec (ws := ws) B.pre _ (by rw [hw]; exact List.mem_cons_self))
      cases Option.some.inj (h1.symm.trans B.method)
      cases Option.some.inj (h2.symm.trans (Stand.of_body B).code)
      intro x hx
      rw [Array.isEmpty_iff.mp h7] at hx
      cases hx
    obtain ⟨t, a1, o, b1, b2, b3⟩ := body p e s m args below meth c s₁ B hml ht hP s₁ hh0 (Stand.of_body B)
    exact ⟨t, o, a1, b1, b2, b3⟩
/-- the table of a body with handlers -/
theorem vx_table {p : Program} {x y : MethodName} {S : Spec} {cc bytes : ByteArray} {maxL maxL' : Nat} {ret ret' : Option FieldType} {e : Env} {s s₁ : State} {m : MethodId} {args : Array Value} {below : List Frame} {meth : Method} {c : Code} {hh : List (Nat × Nat × Nat × Nat)}
    (B : BodyLoose p l y S cc maxL ret e s m args below meth c s₁) (h : (Cond.codeWith y bytes maxL' ret' hh).before args s = true) : c.exceptionTable.toList = tableOf hh := by
  obtain ⟨m9, meth9, c9, hn9, h1, h2, -, -, h6, -⟩ := Cond.codeWith_spec h
  cases Option.some.inj (hn9.symm.trans B.named)
  cases Option.some.inj (h1.symm.trans B.method)
  cases Option.some.inj (h2.symm.trans (Stand.of_body B).code)
  rw [← h6, table_eq]
end Bodies
end VXA
/-! ===== END ===== -/
/-! ===== BEGIN a static call of a method with an exception table ===== -/
section VXS
variable {p : Program} {l : Launch} {e : Env} {R : Room} {s : State} {m : MethodId} {args : Array Value} {below : List Frame} {meth : Method} {c : Code} {T : State} {H : Heap} {locs : List Loc} {cells slots : Nat}
abbrev vx_CSW (R : Room) (s : State) (args : Array Value) (own : String) (index : Nat) (y : MethodName) (bytes : ByteArray) (maxL : Nat) (ret : Option FieldType) (hh : List (Nat × Nat × Nat × Nat)) (ws : List Cond) (rm : Room) (mc ms n : Nat) : Prop :=
  (rm.cells = mc ∧ rm.slots = ms ∧ rm.frames + 1 ≤ R.frames ∧ 8 + (maxL + 11) + rm.locals ≤ R.locals ∧ (∀ w ∈ ws, ∀ (a' : Array Value) (U : State), s.WarmedH U.vm → w.before a' U = true) ∧ Cond.codeWith y bytes maxL ret hh ∈ ws) ∧
  (Cond.codeWith y bytes maxL ret hh).before args s = true ∧ (Cond.initialized y.cls).before args s = true ∧ (y.cls ≠ "java/lang/invoke/MethodHandle" ∧ y.cls ≠ "java/lang/invoke/VarHandle") ∧
  (∀ sig, parseMethodDescriptor y.desc = some sig → n = sig.parameters.length) ∧ (Cond.methodLink own index y).before args s = true ∧ (Cond.static y).before args s = true
theorem vx_cwSW {own : String} {index maxL mc ms : Nat} {y : MethodName} {bytes : ByteArray} {ret : Option FieldType} {hh : List (Nat × Nat × Nat × Nat)} {Ts ws ws' : List Cond} {rm : Room} (n : Nat) (ht : ∀ w ∈ Ts, w.before args s = true) (hT : GoodIn Ts (va_wsS own index y ws)) (hw : ws = Cond.codeWith y bytes maxL ret hh :: ws') (hrc : rm.cells = mc) (hrs : rm.slots = ms)
    (hd : y.cls ≠ "java/lang/invoke/MethodHandle" ∧ y.cls ≠ "java/lang/invoke/VarHandle" ∧ (parseMethodDescriptor y.desc).map (fun d => d.parameters.length) = some n) (hR : rm.frames + 1 ≤ R.frames ∧ 8 + (maxL + 11) + rm.locals ≤ R.locals) :
    vx_CSW R s args own index y bytes maxL ret hh ws rm mc ms n := by
  have ok : ∀ w ∈ va_wsS own index y ws, w.before args s = true := fun w h => ht w (hT w h).1
  have hG : GoodIn Ts ws := fun w h => hT w (by unfold va_wsS; exact List.mem_append_right _ h)
  have hc : Cond.codeWith y bytes maxL ret hh ∈ ws := by rw [hw]; exact List.mem_cons_self
  refine ⟨⟨hrc, hrs, hR.1, hR.2, pay_in ht hG, hc⟩, ht _ (hG _ hc).1, ok _ (by simp [va_wsS]), ⟨hd.1, hd.2.1⟩, fun sig h => ?_, ok _ (by simp [va_wsS]), ok _ (by simp [va_wsS])⟩
  have h2 := hd.2.2
  rw [h] at h2
  exact (Option.some.inj h2).symm
theorem vx_callSW (X : Stand p l e R s m args below meth c T locs cells slots) (hexec : p.tables.exec = Jvm.exec) {own : String} {index : Nat} {y : MethodName} {bytes : ByteArray} {maxL : Nat} {ret : Option FieldType} {hh : List (Nat × Nat × Nat × Nat)}
    (hown : s.vm.findClass own = some m.cls) (hlink : (Cond.methodLink own index y).before args s = true) (hstat : (Cond.static y).before args s = true) (hinit : (Cond.initialized y.cls).before args s = true)
    (hcode : (Cond.codeWith y bytes maxL ret hh).before args s = true) (hy : y.cls ≠ "java/lang/invoke/MethodHandle" ∧ y.cls ≠ "java/lang/invoke/VarHandle")
    {W9 : Nat} {Pre : Pt → Array Value → Prop} {Post : Pt → Array Value → Option Value → Pt → Prop} (hK : Back l R p e below s args y 3 W9 Pre Post)
    {g : JFrame} (hg : g.method = m) (hsize : g.locals.size = c.maxLocals) {argsL rest : List Value} (hlen : ∀ sig, parseMethodDescriptor y.desc = some sig → argsL.length = sig.parameters.length)
    (hstack : g.stack = argsL.reverse ++ rest) (hW : 2 * g.monitorRoom + (rest.map fun v => v.category).sum ≤ W9) (hdg : decode c.code g.pc = .ok (.invokestatic index, 3))
    (hpre : ∀ vm₁, s.WarmedH vm₁ → Pre ⟨T.setVm vm₁, locs, cells, slots⟩ argsL.toArray) :
    ∃ (v : Option Value) (vm₁ : Vm) (B : Pt), s.WarmedH vm₁ ∧ Stand p l e R s m args below meth c B.U B.locs B.cells B.slots ∧ Post ⟨T.setVm vm₁, locs, cells, slots⟩ argsL.toArray v B ∧
      ∀ target, Steps p.tables e below (B.U.setTop { g with pc := g.pc + 3, stack := v.toList ++ rest }) target → Steps p.tables e below (T.setTop g) target := by
  obtain ⟨mk, methM, cM, hnamed, hmethM, -, -, -, -, -, -, hsigM⟩ := Cond.codeWith_spec hcode
  have hstatic : methM.isStatic = true := Cond.static_spec hnamed hmethM hstat
  obtain ⟨kP, hkP, -⟩ := className_of_methodNamed hnamed
  have hinitP : kP.init = .initialized := Cond.initialized_spec (findClass_of_methodNamed hnamed) hkP hinit
  obtain ⟨vm₁, X₁, hstep₁⟩ := X.invokestatic hexec hown hlink hnamed hmethM hstatic hkP hinitP hy (g := g) hg (argsL := argsL) (rest := rest) (hlen _ hsigM) hstack hdg
  obtain ⟨v, B, X', hpost, hsteps⟩ := hK m meth c ⟨T.setVm vm₁, locs, cells, slots⟩ { g with stack := rest } (.invokestatic index) mk argsL.toArray X₁ hg hsize hdg hW (X₁.named hnamed) (hpre vm₁ X₁.warmed)
  exact ⟨v, vm₁, B, X₁.warmed, X', hpost, fun target h => hstep₁ _ fun acts => by rw [doInvoke_state]; exact hsteps.trans h⟩
theorem vx_runSW {y : MethodName} {bytes cc : ByteArray} {maxL nL mc ms n index : Nat} {ret : Option FieldType} {hh : List (Nat × Nat × Nat × Nat)} {ws : List Cond} {rm : Room} {Pc : Array Value → State → Prop} {Qc : Array Value → State → Outcome → State → Prop} {free : Addr → Prop} {Ts : List Cond} {own : String} {As rest : List Value} {g : JFrame}
    (S : CallFix p m c cc nL s args Ts own) (hM : Met l y ws rm Pc Qc mc ms free) (cw : vx_CSW R s args own index y bytes maxL ret hh ws rm mc ms n) (hp : PreS s H Pc As)
    (hg : g.method = m) (hn : As.length = n) (hsize : g.locals.size = nL) (hstack : g.stack = As.reverse ++ rest) (hW : 2 * g.monitorRoom + (rest.map fun v => v.category).sum ≤ 8) (hdg : decode cc g.pc = .ok (.invokestatic index, 3)) (hf : cells + mc ≤ R.cells ∧ slots + ms ≤ R.slots) :
    va_Run p l e R s m args below meth c H locs cells slots mc ms g rest (Qc As.toArray) (free) := by
  obtain ⟨⟨hrc, hrs, hfr, hlo, hws, hcw⟩, hcode, hini, hy, hlen, hl, hstt⟩ := cw
  have hK : Back l R p e below s args y 3 8 (PreOf R mc ms Pc) (PostOf Qc mc ms free) := va_backW (hh := hh) (bytes := bytes) (maxL := maxL) (ret := ret) hM hp.1 hrc hrs hfr hlo hws hcw (fun a' U hW => word_at hW (Or.inl (by first | rfl | simp [Cond.onTables, Cond.keeps, Cond.steady])) hini)
  obtain ⟨hx, hb, hml, ho, -⟩ := S
  intro T hT X
  obtain ⟨v, vm₁, ⟨U', l2, c2, s2⟩, hW₁, X', ⟨g', mk, t, L, e1, e2, hq, h1, hL, h2, h3⟩, st⟩ := vx_callSW X hx (hh := hh) (bytes := bytes) (maxL := maxL) (ret := ret) ho hl hstt hini hcode hy hK hg (hsize.trans hml.symm) (argsL := As) (rest := rest) (fun sig h => hn.trans (hlen sig h)) hstack hW (by rw [hb]; exact hdg)
    (fun vm₁ hW₁ => ⟨hf.1, hf.2, hp.2 (T.setVm vm₁) hT hW₁⟩)
  dsimp only [Pt.U, Pt.locs, Pt.cells, Pt.slots] at X' e1 e2 h1 h2 h3 st
  subst h1; subst h2; subst h3
  exact ⟨v, (T.setVm vm₁).calling g' mk As.toArray, t, U', L, hT, X', hL, e1, e2, hq, st⟩
/-- not caught here, past rows that name other classes: it goes on to the caller -/
theorem vx_outP {p : Program} {l : Launch} {e : Env} {R : Room} {s : State} {m : MethodId} {args : Array Value} {below : List Frame} {meth : Method} {c : Code} {H : Heap} {locs : List Loc} {cells slots : Nat} {free : Addr → Prop} {ls : Array Slot} {rest : List Value} {Qc : Array Value → State → Outcome → State → Prop} {XC : String → State → State → Prop}
    {pc : Nat} {own E : String} {ce : Cell} {q : Addr} {mc ms : Nat} (hown : s.vm.findClass own = some m.cls) (hlocks : meth.locks = false)
    (hpass : ∀ z ∈ c.exceptionTable.toList, covers z pc = false ∨ (z.catchType ≠ 0 ∧ ∃ nm : String, (Cond.classLink own z.catchType nm).before args s = true ∧ va_Nc E nm s)) (hcell : H[q]? = some ce) (hv : ce.vm = .none) (hcl : s.vm.findClass E = some ce.cls)
    (hx : ∀ t : State, t.heap = H → s.vm.Alike t.vm → XC E s t) (hf : ∀ z ∈ locs, free z.base) (hc : cells ≤ mc) (hs : slots ≤ ms) :
    vx_W p l e R s m args below meth c H locs cells slots (vx_MQ below Qc XC args s mc ms free) (F0 m pc ls rest) q := by
  intro T hT X
  have hpl : e.platform.magicAccessors = ({} : Platform).magicAccessors := by rw [X.admits.platform]
  obtain ⟨vm', hW', X', st⟩ := X.outThrough hlocks q (g := F0 m pc ls rest) rfl rfl rfl (cell := ce) (by rw [hT]; exact hcell) (by rw [hv]; rfl)
    (by obtain ⟨k9, h9, -⟩ := Vm.findClass_spec hcl; exact ⟨k9, h9⟩) (fun z hz => by
      rcases hpass z hz with h | ⟨hz0, nm, hl1, hn1⟩
      · exact Or.inl h
      · obtain ⟨c6, hc6, hcl6⟩ := Cond.classLink_spec hown hl1 e.platform hpl
        obtain ⟨a8, b8, h1, h2, h3⟩ := hn1
        cases Option.some.inj (h1.symm.trans hcl)
        cases Option.some.inj (h2.symm.trans hc6)
        exact Or.inr ⟨hz0, _, hcl6, h3⟩)
  obtain ⟨g₀, hfr⟩ := X'.frames_eq
  have hcell9 : ((T.setVm vm').setFrames (.throwing q :: below)).heap[q]? = some ce := by
    show T.heap[q]? = some ce
    rw [hT]; exact hcell
  have hend : Ended ((T.setVm vm').setFrames (.throwing q :: below)) below (.threw q) := State.frames_setFrames _ (State.cur_lt_of_frames hfr)
  refine ⟨(T.setVm vm').setFrames (.throwing q :: below), ?_, .threw q, X'.here.running, hend, Or.inr ⟨q, rfl, E, ce, locs, hx _ hT (X'.ends _).1.alike, hcell9, hv, hcl, (X'.ends _).1, (X'.ends _).2.mono hc hs, hf⟩⟩
  rw [X.pushThrowing_eq]
  exact st
/-- a thing of a world lies in the heap -/
theorem vx_lt {D : va_G} {cl : List vw_C} {ws : va_W} {H1 : Heap} (h : va_P D cl ws H1) {k : Nat} {q : Nat × va_E} (hk : ws[k]? = some q) : q.1 < H1.size := (h k q hk).lt
end VXS
/-! ===== END ===== -/
/-! ===== BEGIN methods with a table of their own: called by a name, returning or throwing ===== -/
section VXH
/-! vx_backW, vx_callVX, vx_callSX, vx_callVW, vx_runVW, vx_runVX, vx_runSX, vx_ofWH follow the same proofs as their sisters above (Free/Laws.lean, Shelf42/LK1.lean); vx_outP calls Shelf42/NT130.lean (outThrough). -/
section
variable {l : Launch} {R : Room} {p : Program} {e : Env} {below : List Frame} {s : State} {sargs : Array Value} {y : MethodName} {len W9 : Nat}
theorem vx_backW {ws : List Cond} {rm : Room} {Pc : Array Value → State → Prop} {Qc : Array Value → State → Outcome → State → Prop} {XC : String → State → State → Prop} {mc ms : Nat} {free : Addr → Prop} {bytes : ByteArray} {maxL : Nat} {ret : Option FieldType} {hh : List (Nat × Nat × Nat × Nat)}
    (hM : vx_Met l y ws rm Pc Qc XC mc ms free) (hblind : FrameBlind Pc) (hrc : rm.cells = mc) (hrs : rm.slots = ms)
    (hframes : rm.frames + 1 ≤ R.frames) (hlocals : W9 + (maxL + 11) + rm.locals ≤ R.locals)
    (hws : ∀ w ∈ ws, ∀ a' U, s.WarmedH U.vm → w.before a' U = true) (hcode : Cond.codeWith y bytes maxL ret hh ∈ ws) (hinit : ∀ a' U, s.WarmedH U.vm → (Cond.initialized y.cls).before a' U = true) :
    vx_Back l R p e below s sargs y len W9 (PreOf R mc ms Pc) (PostOf Qc mc ms free) (vx_Post XC mc ms free) := by
  intro m meth c A g ig mk a X hg hsize hdg hW hn hp
  have h1 : (headSpec ws rm).pre.before a A.U = true := atoms_intro fun w hw => hws w hw _ _ X.warmed
  have h2 : (Cond.codeWith y bytes maxL ret hh).before a A.U = true := hws _ hcode _ _ X.warmed
  have h3 : (Cond.initialized y.cls).before a A.U = true := hinit _ _ X.warmed
  have h4 : A.cells + (headSpec ws rm).room.cells ≤ R.cells := by rw [show (headSpec ws rm).room.cells = mc from hrc]; exact hp.1
  have h5 : A.slots + (headSpec ws rm).room.slots ≤ R.slots := by rw [show (headSpec ws rm).room.slots = ms from hrs]; exact hp.2.1
  have hPc : Pc a (A.U.calling g mk a) := hblind _ _ _ _ hp.2.2
  obtain ⟨U, Ls, c0, s0⟩ := A
  dsimp only [Pt.U, Pt.locs, Pt.cells, Pt.slots] at h1 h2 h3 h4 h5 X hn hPc ⊢
  obtain ⟨m9, methY, cY, hn9, hmY, hcY, -, hlY, -⟩ := Cond.codeWith_spec h2
  cases Option.some.inj (hn9.symm.trans hn)
  obtain ⟨kY, hkY, -⟩ := className_of_methodNamed hn
  have hinitY : kY.init = .initialized := Cond.initialized_spec (findClass_of_methodNamed hn) hkY h3
  have h : At U g.method c below := by rw [hg]; exact X.here
  have hlocals9 : W9 + (maxL + 11) + (headSpec ws rm).room.locals ≤ R.locals := hlocals
  have happ : (headSpec ws rm).appliesLoose y e.platform (U.calling g mk a) = true :=
    Spec.appliesLoose_calling (g := g) h hdg hn hkY hinitY
      (X.room_calling (g := g) (R' := (headSpec ws rm).room) hsize hmY hcY hframes (by rw [hlY]; omega) h4 h5) h1
  obtain ⟨mid, hmid⟩ := h.above
  have hfr : (U.setTop g).frames = (.java g :: mid) ++ below := by rw [State.frames_setTop' g h.top, hmid]; rfl
  obtain ⟨o, s₂, hsteps, -, hend, hq⟩ := Steps.callFree hM p X.admits X.cas X.clock (acts := []) hfr happ hPc trivial
  have hq' : vx_Q Qc XC mc ms free a (U.calling g mk a) o s₂ := hq
  rw [State.frames_setTop' g h.top] at hend
  obtain ⟨g₀, hg0⟩ := Option.isSome_iff_exists.mp h.top
  obtain ⟨r, hr⟩ := State.topJava?_eq_some.mp hg0
  have hr' : (({ U with heap := s₂.heap, slotsUsed := s₂.slotsUsed } : State).setVm s₂.vm).frames = .java g₀ :: r := hr
  rcases hq' with ⟨hqc, L, hfe, hL⟩ | ⟨q, rfl, E, ce, L, hx, hce, hcv, hcl, hW₂, hsm, hL⟩
  · obtain ⟨⟨v, rfl⟩, hW₂, e2, q2, q3, q4, q5, q6⟩ := id hfe
    have e3 : s₂ = ({ (U.calling g mk a).setFrames s₂.frames with heap := s₂.heap, slotsUsed := s₂.slotsUsed } : State).setVm s₂.vm := by
      have : s₂ = ({ s₂ with vm := (U.calling g mk a).vm } : State).setVm s₂.vm := rfl
      rw [e2] at this
      exact this
    obtain ⟨c₂, i₂, len₂, hc₂, hd₂, hf₂⟩ := hend
    have hW' : U.WarmedH s₂.vm := hW₂
    have hcc : c₂ = c := by
      have h1 : s₂.code? g.method = U.code? g.method := by
        rw [State.code?_eq, State.code?_eq, hW'.alike.method?]
      exact Option.some.inj (hc₂.symm.trans (h1.trans h.code))
    subst hcc
    have hlen : len₂ = len := by rw [hdg] at hd₂; cases hd₂; rfl
    subst hlen
    have hs₂ : s₂ = (({ U with heap := s₂.heap, slotsUsed := s₂.slotsUsed } : State).setVm s₂.vm).setTop { g with pc := g.pc + len₂, stack := v.toList ++ g.stack } := by
      refine e3.trans ?_
      rw [hf₂, State.calling_eq h.top, State.setFrames_setFrames, State.setTop_of_frames _ hr', hr]
      rfl
    have hsame : U.sameButNew ({ U with heap := s₂.heap, slotsUsed := s₂.slotsUsed } : State) L mc ms := by
      refine ⟨?_, q2, q3, q4, q5, q6⟩
      obtain ⟨t, ht, -⟩ := State.frames_cons hr
      show ({ U with heap := s₂.heap, slotsUsed := s₂.slotsUsed } : State) = { U.setFrames U.frames with heap := s₂.heap, slotsUsed := s₂.slotsUsed }
      rw [State.setFrames_self ht]
    subst hg
    refine Or.inl ⟨v, ⟨(({ U with heap := s₂.heap, slotsUsed := s₂.slotsUsed } : State).setVm s₂.vm), Ls ++ L, c0 + mc, s0 + ms⟩,
      ⟨X.admits, X.cas, X.clock, X.frames, X.room, X.hears, X.method, X.code, (X.here.setHeapUsed s₂.heap s₂.slotsUsed).setVm hW'.alike, X.tail, State.WarmedH.trans X.warmed hW', X.limits, X.bytes, X.same.trans (hsame.setVm s.vm)⟩,
      ⟨g, mk, s₂, L, rfl, rfl, hqc, rfl, hL, rfl, rfl⟩, ?_⟩
    show Steps p.tables e below _ ((({ U with heap := s₂.heap, slotsUsed := s₂.slotsUsed } : State).setVm s₂.vm).setTop { g with pc := g.pc + len₂, stack := v.toList ++ g.stack })
    rw [← hs₂]
    exact hsteps
  · obtain ⟨e2, q2, q3, q4, q5, q6⟩ := id hsm
    have e3 : s₂ = ({ (U.calling g mk a).setFrames s₂.frames with heap := s₂.heap, slotsUsed := s₂.slotsUsed } : State).setVm s₂.vm := by
      have : s₂ = ({ s₂ with vm := (U.calling g mk a).vm } : State).setVm s₂.vm := rfl
      rw [e2] at this
      exact this
    have hf₂ : s₂.frames = .throwing q :: .java g :: U.frames.tail := hend
    have hW' : U.WarmedH s₂.vm := hW₂
    have hs₂ : s₂ = ((({ U with heap := s₂.heap, slotsUsed := s₂.slotsUsed } : State).setVm s₂.vm).setTop g).pushFrame (.throwing q) := by
      refine e3.trans ?_
      rw [hf₂, State.calling_eq h.top, State.setFrames_setFrames, State.pushFrame, State.frames_setTop _ hr', State.setTop_of_frames _ hr', State.setFrames_setFrames, hr]
      rfl
    have hsame : U.sameButNew ({ U with heap := s₂.heap, slotsUsed := s₂.slotsUsed } : State) L mc ms := by
      refine ⟨?_, q2, q3, q4, q5, q6⟩
      obtain ⟨t, ht, -⟩ := State.frames_cons hr
      show ({ U with heap := s₂.heap, slotsUsed := s₂.slotsUsed } : State) = { U.setFrames U.frames with heap := s₂.heap, slotsUsed := s₂.slotsUsed }
      rw [State.setFrames_self ht]
    subst hg
    refine Or.inr ⟨q, ⟨(({ U with heap := s₂.heap, slotsUsed := s₂.slotsUsed } : State).setVm s₂.vm), Ls ++ L, c0 + mc, s0 + ms⟩,
      ⟨X.admits, X.cas, X.clock, X.frames, X.room, X.hears, X.method, X.code, (X.here.setHeapUsed s₂.heap s₂.slotsUsed).setVm hW'.alike, X.tail, State.WarmedH.trans X.warmed hW', X.limits, X.bytes, X.same.trans (hsame.setVm s.vm)⟩,
      ⟨g, mk, s₂, L, E, ce, rfl, rfl, hx, hce, hcv, hcl, rfl, hL, rfl, rfl⟩, ?_⟩
    show Steps p.tables e below _ (((({ U with heap := s₂.heap, slotsUsed := s₂.slotsUsed } : State).setVm s₂.vm).setTop g).pushFrame (.throwing q))
    rw [← hs₂]
    exact hsteps
end
variable {p : Program} {l : Launch} {e : Env} {R : Room} {s : State} {m : MethodId} {args : Array Value} {below : List Frame} {meth : Method} {c : Code} {T : State} {H : Heap} {locs : List Loc} {cells slots : Nat}
theorem vx_callVX (X : Stand p l e R s m args below meth c T locs cells slots) (hexec : p.tables.exec = Jvm.exec) {own C : String} {index : Nat} {y : MethodName} {bytes : ByteArray} {maxL : Nat} {ret : Option FieldType} {hh : List (Nat × Nat × Nat × Nat)}
    (hown : s.vm.findClass own = some m.cls) (hlink : (Cond.methodLink own index y).before args s = true) (hinst : (Cond.instanceMethod y).before args s = true) (hsel : (Cond.selects C y y).before args s = true)
    (hcode : (Cond.codeWith y bytes maxL ret hh).before args s = true) (hy : y.cls ≠ "java/lang/invoke/MethodHandle" ∧ y.cls ≠ "java/lang/invoke/VarHandle")
    {W9 : Nat} {Pre : Pt → Array Value → Prop} {Post : Pt → Array Value → Option Value → Pt → Prop} {PostX : Pt → Array Value → Addr → Pt → Prop} (hK : vx_Back l R p e below s args y 3 W9 Pre Post PostX)
    {b : Addr} {cellB : Cell} (hcell : T.heap[b]? = some cellB) (hobj : cellB.vm.isStatics = false) (hcls : s.vm.findClass C = some cellB.cls)
    {g : JFrame} (hg : g.method = m) (hsize : g.locals.size = c.maxLocals) {argsL rest : List Value} (hlen : ∀ sig, parseMethodDescriptor y.desc = some sig → argsL.length = sig.parameters.length)
    (hstack : g.stack = argsL.reverse ++ .ref b :: rest) (hW : 2 * g.monitorRoom + (rest.map fun v => v.category).sum ≤ W9) (hdg : decode c.code g.pc = .ok (.invokevirtual index, 3))
    (hpre : ∀ vm₁, s.WarmedH vm₁ → Pre ⟨T.setVm vm₁, locs, cells, slots⟩ (Value.ref b :: argsL).toArray) :
    (∃ (v : Option Value) (vm₁ : Vm) (B : Pt), s.WarmedH vm₁ ∧ Stand p l e R s m args below meth c B.U B.locs B.cells B.slots ∧ Post ⟨T.setVm vm₁, locs, cells, slots⟩ (Value.ref b :: argsL).toArray v B ∧
      ∀ target, Steps p.tables e below (B.U.setTop { g with pc := g.pc + 3, stack := v.toList ++ rest }) target → Steps p.tables e below (T.setTop g) target) ∨
    (∃ (q : Addr) (vm₁ : Vm) (B : Pt), s.WarmedH vm₁ ∧ Stand p l e R s m args below meth c B.U B.locs B.cells B.slots ∧ PostX ⟨T.setVm vm₁, locs, cells, slots⟩ (Value.ref b :: argsL).toArray q B ∧
      Steps p.tables e below (T.setTop g) ((B.U.setTop { g with stack := rest }).pushFrame (.throwing q))) := by
  obtain ⟨mk, methM, hnamed, hmethM, hstM, habM⟩ := Cond.instanceMethod_spec hinst
  obtain ⟨m8, methM', cM, hn8, hmethM', -, -, -, -, -, -, hsigM⟩ := Cond.codeWith_spec hcode
  cases Option.some.inj (hn8.symm.trans hnamed)
  cases hmethM.symm.trans hmethM'
  obtain ⟨c2, r2, m2, q1, q2, q3, q4, kP, hkP, hkPi⟩ := Cond.selects_spec hsel
  cases hcls.symm.trans q1
  cases (State.methodFound?_of_named hnamed hy).symm.trans q2
  cases hnamed.symm.trans q3
  have hselP : selectMethod e.platform s.vm cellB.cls mk = .method mk := by rw [Launch.admits_selectMethod X.admits]; exact q4
  obtain ⟨vm₁, X₁, hstep₁⟩ := X.invokevirtual hexec hown hlink hnamed hmethM hstM hkP hkPi hy (a := b) (cell := cellB) hcell
    (fun z h => by rw [h] at hobj; cases hobj) hselP hmethM habM hkP hkPi (g := g) hg (argsL := argsL) (rest := rest) (hlen _ hsigM) hstack hdg
  rcases hK m meth c ⟨T.setVm vm₁, locs, cells, slots⟩ { g with stack := rest } (.invokevirtual index) mk (Value.ref b :: argsL).toArray X₁ hg hsize hdg hW (X₁.named hnamed) (hpre vm₁ X₁.warmed) with ⟨v, B, X', hpost, hsteps⟩ | ⟨q, B, X', hpost, hsteps⟩
  · exact Or.inl ⟨v, vm₁, B, X₁.warmed, X', hpost, fun target h => hstep₁ _ fun acts => by rw [doInvoke_state]; exact hsteps.trans h⟩
  · exact Or.inr ⟨q, vm₁, B, X₁.warmed, X', hpost, hstep₁ _ fun acts => by rw [doInvoke_state]; exact hsteps⟩
theorem vx_callSX (X : Stand p l e R s m args below meth c T locs cells slots) (hexec : p.tables.exec = Jvm.exec) {own : String} {index : Nat} {y : MethodName} {bytes : ByteArray} {maxL : Nat} {ret : Option FieldType} {hh : List (Nat × Nat × Nat × Nat)}
    (hown : s.vm.findClass own = some m.cls) (hlink : (Cond.methodLink own index y).before args s = true) (hstat : (Cond.static y).before args s = true) (hinit : (Cond.initialized y.cls).before args s = true)
    (hcode : (Cond.codeWith y bytes maxL ret hh).before args s = true) (hy : y.cls ≠ "java/lang/invoke/MethodHandle" ∧ y.cls ≠ "java/lang/invoke/VarHandle")
    {W9 : Nat} {Pre : Pt → Array Value → Prop} {Post : Pt → Array Value → Option Value → Pt → Prop} {PostX : Pt → Array Value → Addr → Pt → Prop} (hK : vx_Back l R p e below s args y 3 W9 Pre Post PostX)
    {g : JFrame} (hg : g.method = m) (hsize : g.locals.size = c.maxLocals) {argsL rest : List Value} (hlen : ∀ sig, parseMethodDescriptor y.desc = some sig → argsL.length = sig.parameters.length)
    (hstack : g.stack = argsL.reverse ++ rest) (hW : 2 * g.monitorRoom + (rest.map fun v => v.category).sum ≤ W9) (hdg : decode c.code g.pc = .ok (.invokestatic index, 3))
    (hpre : ∀ vm₁, s.WarmedH vm₁ → Pre ⟨T.setVm vm₁, locs, cells, slots⟩ argsL.toArray) :
    (∃ (v : Option Value) (vm₁ : Vm) (B : Pt), s.WarmedH vm₁ ∧ Stand p l e R s m args below meth c B.U B.locs B.cells B.slots ∧ Post ⟨T.setVm vm₁, locs, cells, slots⟩ argsL.toArray v B ∧
      ∀ target, Steps p.tables e below (B.U.setTop { g with pc := g.pc + 3, stack := v.toList ++ rest }) target → Steps p.tables e below (T.setTop g) target) ∨
    (∃ (q : Addr) (vm₁ : Vm) (B : Pt), s.WarmedH vm₁ ∧ Stand p l e R s m args below meth c B.U B.locs B.cells B.slots ∧ PostX ⟨T.setVm vm₁, locs, cells, slots⟩ argsL.toArray q B ∧
      Steps p.tables e below (T.setTop g) ((B.U.setTop { g with stack := rest }).pushFrame (.throwing q))) := by
  obtain ⟨mk, methM, cM, hnamed, hmethM, -, -, -, -, -, -, hsigM⟩ := Cond.codeWith_spec hcode
  have hstatic : methM.isStatic = true := Cond.static_spec hnamed hmethM hstat
  obtain ⟨kP, hkP, -⟩ := className_of_methodNamed hnamed
  have hinitP : kP.init = .initialized := Cond.initialized_spec (findClass_of_methodNamed hnamed) hkP hinit
  obtain ⟨vm₁, X₁, hstep₁⟩ := X.invokestatic hexec hown hlink hnamed hmethM hstatic hkP hinitP hy (g := g) hg (argsL := argsL) (rest := rest) (hlen _ hsigM) hstack hdg
  rcases hK m meth c ⟨T.setVm vm₁, locs, cells, slots⟩ { g with stack := rest } (.invokestatic index) mk argsL.toArray X₁ hg hsize hdg hW (X₁.named hnamed) (hpre vm₁ X₁.warmed) with ⟨v, B, X', hpost, hsteps⟩ | ⟨q, B, X', hpost, hsteps⟩
  · exact Or.inl ⟨v, vm₁, B, X₁.warmed, X', hpost, fun target h => hstep₁ _ fun acts => by rw [doInvoke_state]; exact hsteps.trans h⟩
  · exact Or.inr ⟨q, vm₁, B, X₁.warmed, X', hpost, hstep₁ _ fun acts => by rw [doInvoke_state]; exact hsteps⟩
theorem vx_callVW (X : Stand p l e R s m args below meth c T locs cells slots) (hexec : p.tables.exec = Jvm.exec) {own C : String} {index : Nat} {y : MethodName} {bytes : ByteArray} {maxL : Nat} {ret : Option FieldType} {hh : List (Nat × Nat × Nat × Nat)}
    (hown : s.vm.findClass own = some m.cls) (hlink : (Cond.methodLink own index y).before args s = true) (hinst : (Cond.instanceMethod y).before args s = true) (hsel : (Cond.selects C y y).before args s = true)
    (hcode : (Cond.codeWith y bytes maxL ret hh).before args s = true) (hy : y.cls ≠ "java/lang/invoke/MethodHandle" ∧ y.cls ≠ "java/lang/invoke/VarHandle")
    {W9 : Nat} {Pre : Pt → Array Value → Prop} {Post : Pt → Array Value → Option Value → Pt → Prop} (hK : Back l R p e below s args y 3 W9 Pre Post)
    {b : Addr} {cellB : Cell} (hcell : T.heap[b]? = some cellB) (hobj : cellB.vm.isStatics = false) (hcls : s.vm.findClass C = some cellB.cls)
    {g : JFrame} (hg : g.method = m) (hsize : g.locals.size = c.maxLocals) {argsL rest : List Value} (hlen : ∀ sig, parseMethodDescriptor y.desc = some sig → argsL.length = sig.parameters.length)
    (hstack : g.stack = argsL.reverse ++ .ref b :: rest) (hW : 2 * g.monitorRoom + (rest.map fun v => v.category).sum ≤ W9) (hdg : decode c.code g.pc = .ok (.invokevirtual index, 3))
    (hpre : ∀ vm₁, s.WarmedH vm₁ → Pre ⟨T.setVm vm₁, locs, cells, slots⟩ (Value.ref b :: argsL).toArray) :
    ∃ (v : Option Value) (vm₁ : Vm) (B : Pt), s.WarmedH vm₁ ∧ Stand p l e R s m args below meth c B.U B.locs B.cells B.slots ∧ Post ⟨T.setVm vm₁, locs, cells, slots⟩ (Value.ref b :: argsL).toArray v B ∧
      ∀ target, Steps p.tables e below (B.U.setTop { g with pc := g.pc + 3, stack := v.toList ++ rest }) target → Steps p.tables e below (T.setTop g) target := by
  obtain ⟨mk, methM, hnamed, hmethM, hstM, habM⟩ := Cond.instanceMethod_spec hinst
  obtain ⟨m8, methM', cM, hn8, hmethM', -, -, -, -, -, -, hsigM⟩ := Cond.codeWith_spec hcode
  cases Option.some.inj (hn8.symm.trans hnamed)
  cases hmethM.symm.trans hmethM'
  obtain ⟨c2, r2, m2, q1, q2, q3, q4, kP, hkP, hkPi⟩ := Cond.selects_spec hsel
  cases hcls.symm.trans q1
  cases (State.methodFound?_of_named hnamed hy).symm.trans q2
  cases hnamed.symm.trans q3
  have hselP : selectMethod e.platform s.vm cellB.cls mk = .method mk := by rw [Launch.admits_selectMethod X.admits]; exact q4
  obtain ⟨vm₁, X₁, hstep₁⟩ := X.invokevirtual hexec hown hlink hnamed hmethM hstM hkP hkPi hy (a := b) (cell := cellB) hcell
    (fun z h => by rw [h] at hobj; cases hobj) hselP hmethM habM hkP hkPi (g := g) hg (argsL := argsL) (rest := rest) (hlen _ hsigM) hstack hdg
  obtain ⟨v, B, X', hpost, hsteps⟩ := hK m meth c ⟨T.setVm vm₁, locs, cells, slots⟩ { g with stack := rest } (.invokevirtual index) mk (Value.ref b :: argsL).toArray X₁ hg hsize hdg hW (X₁.named hnamed) (hpre vm₁ X₁.warmed)
  exact ⟨v, vm₁, B, X₁.warmed, X', hpost, fun target h => hstep₁ _ fun acts => by rw [doInvoke_state]; exact hsteps.trans h⟩
abbrev vx_CVW (R : Room) (s : State) (args : Array Value) (own C : String) (index : Nat) (y : MethodName) (bytes : ByteArray) (maxL : Nat) (ret : Option FieldType) (hh : List (Nat × Nat × Nat × Nat)) (ws : List Cond) (rm : Room) (mc ms n : Nat) : Prop :=
  (rm.cells = mc ∧ rm.slots = ms ∧ rm.frames + 1 ≤ R.frames ∧ 8 + (maxL + 11) + rm.locals ≤ R.locals ∧ (∀ w ∈ ws, ∀ (a' : Array Value) (U : State), s.WarmedH U.vm → w.before a' U = true) ∧ Cond.codeWith y bytes maxL ret hh ∈ ws) ∧
  (Cond.codeWith y bytes maxL ret hh).before args s = true ∧ (Cond.initialized y.cls).before args s = true ∧ (y.cls ≠ "java/lang/invoke/MethodHandle" ∧ y.cls ≠ "java/lang/invoke/VarHandle") ∧
  (∀ sig, parseMethodDescriptor y.desc = some sig → n = sig.parameters.length) ∧ (Cond.methodLink own index y).before args s = true ∧ (Cond.instanceMethod y).before args s = true ∧ (Cond.selects C y y).before args s = true
theorem vx_cwVW {own C : String} {index maxL mc ms : Nat} {y : MethodName} {bytes : ByteArray} {ret : Option FieldType} {hh : List (Nat × Nat × Nat × Nat)} {Ts ws ws' : List Cond} {rm : Room} (n : Nat) (ht : ∀ w ∈ Ts, w.before args s = true) (hT : GoodIn Ts (wsV own index C y ws)) (hw : ws = Cond.codeWith y bytes maxL ret hh :: ws') (hrc : rm.cells = mc) (hrs : rm.slots = ms)
    (hd : y.cls = C ∧ y.cls ≠ "java/lang/invoke/MethodHandle" ∧ y.cls ≠ "java/lang/invoke/VarHandle" ∧ (parseMethodDescriptor y.desc).map (fun d => d.parameters.length) = some n) (hR : rm.frames + 1 ≤ R.frames ∧ 8 + (maxL + 11) + rm.locals ≤ R.locals) :
    vx_CVW R s args own C index y bytes maxL ret hh ws rm mc ms n := by
  obtain ⟨hC, hd⟩ := hd
  subst hC
  have ok : ∀ w ∈ wsV own index y.cls y ws, w.before args s = true := fun w h => ht w (hT w h).1
  have hG : GoodIn Ts ws := fun w h => hT w (by unfold wsV; exact List.mem_append_right _ h)
  have hc : Cond.codeWith y bytes maxL ret hh ∈ ws := by rw [hw]; exact List.mem_cons_self
  refine ⟨⟨hrc, hrs, hR.1, hR.2, pay_in ht hG, hc⟩, ht _ (hG _ hc).1, ok _ (by simp [wsV]), ⟨hd.1, hd.2.1⟩, fun sig h => ?_, ok _ (by simp [wsV]), ok _ (by simp [wsV]), ok _ (by simp [wsV])⟩
  have h2 := hd.2.2
  rw [h] at h2
  exact (Option.some.inj h2).symm
theorem vx_runVW {y : MethodName} {bytes cc : ByteArray} {maxL nL mc ms n index : Nat} {ret : Option FieldType} {hh : List (Nat × Nat × Nat × Nat)} {ws : List Cond} {rm : Room} {Pc : Array Value → State → Prop} {Qc : Array Value → State → Outcome → State → Prop} {free : Addr → Prop} {Ts : List Cond} {own C : String} {b : Addr} {As rest : List Value} {g : JFrame}
    (S : CallFix p m c cc nL s args Ts own) (hM : Met l y ws rm Pc Qc mc ms free) (cw : vx_CVW R s args own C index y bytes maxL ret hh ws rm mc ms n) (hp : PreV s H C b Pc As)
    (hg : g.method = m) (hn : As.length = n) (hsize : g.locals.size = nL) (hstack : g.stack = As.reverse ++ .ref b :: rest) (hW : 2 * g.monitorRoom + (rest.map fun v => v.category).sum ≤ 8) (hdg : decode cc g.pc = .ok (.invokevirtual index, 3)) (hf : cells + mc ≤ R.cells ∧ slots + ms ≤ R.slots) :
    va_Run p l e R s m args below meth c H locs cells slots mc ms g rest (Qc (Value.ref b :: As).toArray) free := by
  obtain ⟨⟨hrc, hrs, hfr, hlo, hws, hcw⟩, hcode, hini, hy, hlen, hl, hin, hse⟩ := cw
  have hK : Back l R p e below s args y 3 8 (PreOf R mc ms Pc) (PostOf Qc mc ms free) := va_backW (hh := hh) (bytes := bytes) (maxL := maxL) (ret := ret) hM hp.1 hrc hrs hfr hlo hws hcw (fun a' U hW => word_at hW (Or.inl (by first | rfl | simp [Cond.onTables, Cond.keeps, Cond.steady])) hini)
  obtain ⟨hx, hb, hml, ho, -⟩ := S
  obtain ⟨-, ⟨cellB, hcB, hoB, hclB⟩, hPc⟩ := hp
  intro T hT X
  obtain ⟨v, vm₁, ⟨U', l2, c2, s2⟩, hW₁, X', ⟨g', mk, t, L, e1, e2, hq, h1, hL, h2, h3⟩, st⟩ := vx_callVW X hx (C := C) (hh := hh) (bytes := bytes) (maxL := maxL) (ret := ret) ho hl hin hse hcode hy hK (by rw [hT]; exact hcB) hoB hclB hg (hsize.trans hml.symm) (argsL := As) (rest := rest) (fun sig h => hn.trans (hlen sig h)) hstack hW (by rw [hb]; exact hdg)
    (fun vm₁ hW₁ => ⟨hf.1, hf.2, hPc (T.setVm vm₁) hT hW₁⟩)
  dsimp only [Pt.U, Pt.locs, Pt.cells, Pt.slots] at X' e1 e2 h1 h2 h3 st
  subst h1; subst h2; subst h3
  exact ⟨v, (T.setVm vm₁).calling g' mk (Value.ref b :: As).toArray, t, U', L, hT, X', hL, e1, e2, hq, st⟩
section
variable {y : MethodName} {bytes cc : ByteArray} {maxL nL mc ms n index : Nat} {ret : Option FieldType} {ws : List Cond} {rm : Room} {Pc : Array Value → State → Prop} {Qc : Array Value → State → Outcome → State → Prop} {XC : String → State → State → Prop} {free : Addr → Prop} {Ts : List Cond} {own C : String} {b : Addr} {As rest : List Value} {g : JFrame}
theorem vx_runVX {hh : List (Nat × Nat × Nat × Nat)} (S : CallFix p m c cc nL s args Ts own) (hM : vx_Met l y ws rm Pc Qc XC mc ms free) (cw : vx_CVW R s args own C index y bytes maxL ret hh ws rm mc ms n) (hp : PreV s H C b Pc As)
    (hg : g.method = m) (hn : As.length = n) (hsize : g.locals.size = nL) (hstack : g.stack = As.reverse ++ .ref b :: rest) (hW : 2 * g.monitorRoom + (rest.map fun v => v.category).sum ≤ 8) (hdg : decode cc g.pc = .ok (.invokevirtual index, 3)) (hf : cells + mc ≤ R.cells ∧ slots + ms ≤ R.slots) :
    vx_Run p l e R s m args below meth c H locs cells slots mc ms g rest (Qc (Value.ref b :: As).toArray) XC free := by
  obtain ⟨⟨hrc, hrs, hfr, hlo, hws, hcw⟩, hcode, hini, hy, hlen, hl, hin, hse⟩ := cw
  have hK : vx_Back l R p e below s args y 3 8 (PreOf R mc ms Pc) (PostOf Qc mc ms free) (vx_Post XC mc ms free) := vx_backW (hh := hh) (bytes := bytes) (maxL := maxL) (ret := ret) hM hp.1 hrc hrs hfr hlo hws hcw (fun a' U hW => word_at hW (Or.inl (by first | rfl | simp [Cond.onTables, Cond.keeps, Cond.steady])) hini)
  obtain ⟨hx, hb, hml, ho, -⟩ := S
  obtain ⟨-, ⟨cellB, hcB, hoB, hclB⟩, hPc⟩ := hp
  intro T hT X
  rcases vx_callVX X hx (C := C) (hh := hh) (bytes := bytes) (maxL := maxL) (ret := ret) ho hl hin hse hcode hy hK (by rw [hT]; exact hcB) hoB hclB hg (hsize.trans hml.symm) (argsL := As) (rest := rest) (fun sig h => hn.trans (hlen sig h)) hstack hW (by rw [hb]; exact hdg)
    (fun vm₁ hW₁ => ⟨hf.1, hf.2, hPc (T.setVm vm₁) hT hW₁⟩) with ⟨v, vm₁, ⟨U', l2, c2, s2⟩, hW₁, X', ⟨g', mk, t, L, e1, e2, hq, h1, hL, h2, h3⟩, st⟩ | ⟨q, vm₁, ⟨U', l2, c2, s2⟩, hW₁, X', ⟨g', mk, t, L, E, ce, e1, e2, hq, hce, hcv, hcl, h1, hL, h2, h3⟩, st⟩
  · dsimp only [Pt.U, Pt.locs, Pt.cells, Pt.slots] at X' e1 e2 h1 h2 h3 st
    subst h1; subst h2; subst h3
    exact Or.inl ⟨v, (T.setVm vm₁).calling g' mk (Value.ref b :: As).toArray, t, U', L, hT, X', hL, e1, e2, hq, st⟩
  · dsimp only [Pt.U, Pt.locs, Pt.cells, Pt.slots] at X' e1 e2 h1 h2 h3 st hcl
    subst h1; subst h2; subst h3
    exact Or.inr ⟨q, (T.setVm vm₁).calling g' mk (Value.ref b :: As).toArray, t, U', L, E, ce, hT, X', hL, e1, e2, hq, hce, hcv, vx_cls hW₁ hcl, st⟩
theorem vx_runSX {hh : List (Nat × Nat × Nat × Nat)} (S : CallFix p m c cc nL s args Ts own) (hM : vx_Met l y ws rm Pc Qc XC mc ms free) (cw : vx_CSW R s args own index y bytes maxL ret hh ws rm mc ms n) (hp : PreS s H Pc As)
    (hg : g.method = m) (hn : As.length = n) (hsize : g.locals.size = nL) (hstack : g.stack = As.reverse ++ rest) (hW : 2 * g.monitorRoom + (rest.map fun v => v.category).sum ≤ 8) (hdg : decode cc g.pc = .ok (.invokestatic index, 3)) (hf : cells + mc ≤ R.cells ∧ slots + ms ≤ R.slots) :
    vx_Run p l e R s m args below meth c H locs cells slots mc ms g rest (Qc As.toArray) XC free := by
  obtain ⟨⟨hrc, hrs, hfr, hlo, hws, hcw⟩, hcode, hini, hy, hlen, hl, hstt⟩ := cw
  have hK : vx_Back l R p e below s args y 3 8 (PreOf R mc ms Pc) (PostOf Qc mc ms free) (vx_Post XC mc ms free) := vx_backW (hh := hh) (bytes := bytes) (maxL := maxL) (ret := ret) hM hp.1 hrc hrs hfr hlo hws hcw (fun a' U hW => word_at hW (Or.inl (by first | rfl | simp [Cond.onTables, Cond.keeps, Cond.steady])) hini)
  obtain ⟨hx, hb, hml, ho, -⟩ := S
  intro T hT X
  rcases vx_callSX X hx (hh := hh) (bytes := bytes) (maxL := maxL) (ret := ret) ho hl hstt hini hcode hy hK hg (hsize.trans hml.symm) (argsL := As) (rest := rest) (fun sig h => hn.trans (hlen sig h)) hstack hW (by rw [hb]; exact hdg)
    (fun vm₁ hW₁ => ⟨hf.1, hf.2, hp.2 (T.setVm vm₁) hT hW₁⟩) with ⟨v, vm₁, ⟨U', l2, c2, s2⟩, hW₁, X', ⟨g', mk, t, L, e1, e2, hq, h1, hL, h2, h3⟩, st⟩ | ⟨q, vm₁, ⟨U', l2, c2, s2⟩, hW₁, X', ⟨g', mk, t, L, E, ce, e1, e2, hq, hce, hcv, hcl, h1, hL, h2, h3⟩, st⟩
  · dsimp only [Pt.U, Pt.locs, Pt.cells, Pt.slots] at X' e1 e2 h1 h2 h3 st
    subst h1; subst h2; subst h3
    exact Or.inl ⟨v, (T.setVm vm₁).calling g' mk As.toArray, t, U', L, hT, X', hL, e1, e2, hq, st⟩
  · dsimp only [Pt.U, Pt.locs, Pt.cells, Pt.slots] at X' e1 e2 h1 h2 h3 st hcl
    subst h1; subst h2; subst h3
    exact Or.inr ⟨q, (T.setVm vm₁).calling g' mk As.toArray, t, U', L, E, ce, hT, X', hL, e1, e2, hq, hce, hcv, vx_cls hW₁ hcl, st⟩
end
end VXH
theorem vx_ofWH {l : Launch} {y : MethodName} {ws ws' : List Cond} {rm : Room} {Pc : Array Value → State → Prop} {Qc : Array Value → State → Outcome → State → Prop} {XC : String → State → State → Prop} {mc ms : Nat} {free : Addr → Prop} {cc : ByteArray} {maxL : Nat} {ret : Option FieldType} {hh : List (Nat × Nat × Nat × Nat)}
    (hy : plainName y.cls = true) (hw : ws = Cond.codeWith y cc maxL ret hh :: ws')
    (body : ∀ p e s m args below meth c s₁, BodyLoose p l y (headSpec ws rm) cc maxL ret e s m args below meth c s₁ → c.maxLocals = maxL → Pc args s →
      W p l e (headSpec ws rm).room s m args below meth c s.heap [] 0 0 (vx_MQ below Qc XC args s mc ms free) (entryFrame m args maxL)) : vx_Met l y ws rm Pc Qc XC mc ms free := by
  refine MetFree.of_bodyS (code := cc) (maxLocals := maxL) (ret := ret) hy ?_ ?_
  · intro args s m h hn
    obtain ⟨m9, meth, c, hn9, h1, h2, h3, h4, -, h5, h6, -⟩ := Cond.codeWith_spec (atoms_spec (ws := ws) h _ (by rw [hw]; exact List.mem_cons_self))
    cases hn.symm.trans hn9
    exact ⟨meth, c, h1, h2, h3, h4, h5, h6⟩
  · intro p e s m args below meth c s₁ B hml hP _
    have hh0 : s₁.heap = s.heap := by rw [B.state]; rfl
    obtain ⟨t, a1, o, b1, b2, b3⟩ := body p e s m args below meth c s₁ B hml hP s₁ hh0 (Stand.of_body B)
    exact ⟨t, o, a1, b1, b2, b3⟩
/-! ===== END ===== -/

/-! ===== BEGIN what the machine throws by itself, no traces kept ===== -/
section VXM
set_option maxHeartbeats 1000000 in
/-- the machine throws cls with the message text, no traces kept: from its note over the frame g to 'throwing' over the same frame (follows the proofs of Stand.vmThrowsMessage, Shelf/KitTracedVmS.lean, and Stand.throwsMessageColdBareV, StandMessageColdV.lean, without the step out of the frame) -/
theorem vx_vmAt {p : Program} {l : Launch} {e : Env} {R : Room} {s : State} {m₀ : MethodId} {args : Array Value} {below : List Frame} {meth : Method} {c : Code} {W : State} {locs : List Loc} {cells slots : Nat}
    (X : Stand p l e R s m₀ args below meth c W locs cells slots) (hexec : p.tables.exec = Jvm.exec) (htr : e.platform.stackTraces = false) {cls : String} {names : List String} {text : String}
    (hcls : Bundle.fit cls = true) (hnames : ∀ n ∈ names, Bundle.fit n = true) (hsoe : (cls == "java/lang/StackOverflowError") = false) (hoom : (cls == "java/lang/OutOfMemoryError") = false)
    (h : ∀ a ∈ Bundle.messageArmAtoms cls names, a.before args s = true)
    (hlocs : ∀ x ∈ locs, ∀ cell, s.heap[x.base]? = some cell → cell.vm.isStatics = false)
    (htext : (text == notModelled) = false) (hlimit : ¬ (stringBytes (stringToUtf16 text)).size > e.platform.arrayLengthLimit) (hheap : ¬ (stringBytes (stringToUtf16 text)).size * componentBytes .byte > e.platform.maxHeapBytes)
    {g : JFrame} (hg : g.method = m₀) (hsize : g.locals.size = c.maxLocals)
    (hRframes : names.length + 4 < R.frames) (hRlocals : 2 * g.monitorRoom + (g.stack.map fun v => v.category).sum + 10240 ≤ R.locals) (hshort : 13 * names.length + 55 ≤ 10240)
    (hRcells : cells + 3 ≤ R.cells) (hRslots : slots + ((stringBytes (stringToUtf16 text)).size + 4 + 6) ≤ R.slots) (hlocks : meth.locks = false) :
    ∃ (S : State) (q : Addr) (ce : Cell), (∀ target, Steps p.tables e below ((S.setTop g).pushFrame (.throwing q)) target → Steps p.tables e below ((W.setTop g).pushFrame (.throwNew cls (some text) none)) target) ∧
      Stand p l e R s m₀ args below meth c S locs (cells + 3) (slots + ((stringBytes (stringToUtf16 text)).size + 4 + 6)) ∧ S.heap[q]? = some ce ∧ s.vm.findClass cls = some ce.cls ∧ ce.vm = .none := by
  have howns : e.platform.frameOwnsMonitors = true := by rw [X.admits.platform]
  have hfin : e.platform.finalization = false := by rw [X.admits.platform]
  have hpl : e.platform.magicAccessors = ({} : Platform).magicAccessors := by rw [X.admits.platform]
  have a : ∀ x, x ∈ Bundle.messageArmAtoms cls names → x.holds args s none s [] = true := fun x hx => h x hx
  obtain ⟨T, Z0, L, -, Y⟩ := ThrowableC.of_atoms (args := args) howns hfin hpl (fun x hx => h x (by simp [Bundle.messageArmAtoms, hx]))
  obtain ⟨Z, M, LZ, LM, hnZ⟩ := Init0T.ofS_atoms (args := args) hpl L Y (fun x hx => h x (by simp [Bundle.messageArmAtoms, hx]))
  obtain ⟨P1, Ps, hlen, L1, hL, hP1m, hlink1, hlink⟩ := Bundle.chainS (args := args) hpl hnZ names cls hcls hnames (fun x hx => h x (by simp [Bundle.messageArmAtoms, hx]))
  obtain ⟨Zs, LZs, hn4, hfitv, hfitc⟩ := StringT.of_atoms (args := args) (fun x hx => h x (by simp [Bundle.messageArmAtoms, hx]))
  have hfound : s.vm.findClass cls = some P1.m.cls := findClass_of_methodNamed hP1m
  obtain ⟨c1, kX, hc1, hk, hord, -, -, hn6⟩ := Cond.instantiable_spec (a (.instantiable cls 6) (by simp [Bundle.messageArmAtoms]))
  cases Option.some.inj (hc1.symm.trans hfound)
  have hinit := Cond.initialized_spec hfound hk (a (.initialized cls) (by simp [Bundle.messageArmAtoms]))
  have hctor : kX.findMethod "<init>" "(Ljava/lang/String;)V" = some P1.m.idx := findMethod_of_methodNamed hP1m hk
  have hsel0 : selectMethod e.platform s.vm P1.m.cls T.fill0 = .method T.fill0 := by
    obtain ⟨c2, r2, m2, q1, q2, q3, q4, -⟩ := Cond.selects_spec (a (.selects cls Bundle.tFill0 Bundle.tFill0) (by simp [Bundle.messageArmAtoms]))
    cases Option.some.inj (q1.symm.trans hfound)
    cases Option.some.inj (q2.symm.trans (State.methodFound?_of_named Y.fill0 (by decide)))
    cases Option.some.inj (q3.symm.trans Y.fill0)
    rw [Launch.admits_selectMethod X.admits]; exact q4
  have hselF : selectMethod e.platform s.vm P1.m.cls T.fill = .method T.fill := by
    obtain ⟨c2, r2, m2, q1, q2, q3, q4, -⟩ := Cond.selects_spec (a (.selects cls Bundle.tFill Bundle.tFill) (by simp [Bundle.messageArmAtoms]))
    cases Option.some.inj (q1.symm.trans hfound)
    cases Option.some.inj (q2.symm.trans (State.methodFound?_of_named Y.fill (by decide)))
    cases Option.some.inj (q3.symm.trans Y.fill)
    rw [Launch.admits_selectMethod X.admits]; exact q4
  obtain ⟨cellS0, hcS0, hiss⟩ := Y.statics
  obtain ⟨u0, hu0⟩ := Cond.staticRefV Y.unassigned L.unassignedStatic L.statics hcS0 hiss (a (.isRef (.static Bundle.tN "UNASSIGNED_STACK" Bundle.steD)) (by simp [Bundle.messageArmAtoms]))
  obtain ⟨sen, hsen⟩ := Cond.staticRefV Y.sentinel L.sentinelStatic L.statics hcS0 hiss (a (.isRef (.static Bundle.tN "SUPPRESSED_SENTINEL" Bundle.listD)) (by simp [Bundle.messageArmAtoms]))
  obtain ⟨ci198, i198, fB, hk198, hg198, ha198, hsB, -, hnB, htB, hffB⟩ := Cond.ownField (t := .object "java/lang/Object") Y.found L.cls (by decide +kernel) (a (.fieldLink Bundle.tN 198 Bundle.tN "backtrace" "Ljava/lang/Object;") (by simp [Bundle.messageArmAtoms])) (a (.lays Bundle.tN Bundle.tN "backtrace" "Ljava/lang/Object;") (by simp [Bundle.messageArmAtoms])) e.platform hpl
  obtain ⟨cellS, hcS', heS, -, hkeep⟩ := X.same.2.2.2.2.2 T.aS cellS0 hcS0
  have hcellS : W.heap[T.aS]? = some cellS := hcS'
  have hout' : ∀ i, (⟨T.aS, i⟩ : Loc) ∉ locs := fun i hmem => by
    have := hlocs _ hmem cellS0 hcS0
    rw [hiss] at this; cases this
  have hknownS : cellS.vm ≠ .unknown := by
    rw [heS]; intro hu
    rw [show cellS0.vm = .unknown from hu] at hiss
    cases hiss
  have hvU : cellS.slots[T.fUnassigned.slot]? = some u0.v := by rw [hkeep _ (hout' _)]; exact hu0
  have hvSen : cellS.slots[T.fSentinel.slot]? = some sen.v := by rw [hkeep _ (hout' _)]; exact hsen
  obtain ⟨iM, hffM⟩ := Y.msg
  obtain ⟨tyC, dC, hdC, hdnC⟩ := Cond.laysAt hfound hk Y.cause (a (.lays cls Bundle.tN "cause" "Ljava/lang/Throwable;") (by simp [Bundle.messageArmAtoms]))
  obtain ⟨tyS, dS, hdS, hdnS⟩ := Cond.laysAt hfound hk Y.stack (a (.lays cls Bundle.tN "stackTrace" Bundle.steD) (by simp [Bundle.messageArmAtoms]))
  obtain ⟨tyP, dP, hdP, hdnP⟩ := Cond.laysAt hfound hk Y.supp (a (.lays cls Bundle.tN "suppressedExceptions" Bundle.listD) (by simp [Bundle.messageArmAtoms]))
  obtain ⟨tyM, dM, hdM, hdnM⟩ := Cond.laysAt hfound hk hffM (a (.lays cls Bundle.tN "detailMessage" "Ljava/lang/String;") (by simp [Bundle.messageArmAtoms]))
  obtain ⟨tyB, dB, hdB, hdnB⟩ := Cond.laysAt hfound hk hffB (a (.lays cls Bundle.tN "backtrace" "Ljava/lang/Object;") (by simp [Bundle.messageArmAtoms]))
  have bC := Cond.laysApart hdB hdC hdnB hdnC (by rw [hnB, Y.causeName]; decide)
  have bS := Cond.laysApart hdB hdS hdnB hdnS (by rw [hnB, Y.stackName]; decide)
  have bP := Cond.laysApart hdB hdP hdnB hdnP (by rw [hnB, Y.suppName]; decide)
  have hbk : ((preparedCellV T.toThrowableT (freshCell P1.m.cls kX) (W.heap.size + 2) u0 sen).withEntry W.cur).slots[fB.slot]? = some .null := by
    have := fresh_default (c := P1.m.cls) tyB
    rw [htB] at this
    simpa [preparedCellV, Cell.setSlot, Cell.withEntry, Array.getElem?_setIfInBounds, bC, bS, bP, bC.symm, bS.symm, bP.symm, defaultValue] using this
  have tkC := Takes.of_laid (v := .ref (W.heap.size + 2)) hk hord tyC (by rw [Y.causeType]; rfl)
  have tkS := Takes.of_laid (v := u0.v) hk hord tyS (by rw [Y.stackType]; exact fits_refV_array _ u0)
  have tkP := Takes.of_laid (v := sen.v) hk hord tyP (by rw [Y.suppType]; exact fits_refV_object _ sen)
  have tkM := Takes.of_laid (v := .ref (W.heap.size + 1)) hk hord tyM (by rw [Y.msgType]; rfl)
  have hskip : SkipFacts T e.platform s (fun u => u) u0 ((preparedCellV T.toThrowableT (freshCell P1.m.cls kX) (W.heap.size + 2) u0 sen).withEntry W.cur) := ⟨{ ci198 := ci198, i198 := i198, fBack := fB }, ⟨hk198, hg198, ha198, hsB⟩, hbk, fun _ _ => rfl⟩
  have h0 : At W g.method c below := by rw [hg]; exact X.here
  obtain ⟨hbeyond, hfreeW⟩ := X.vmMayThrow hsize (.throwNew cls (some text) none) (fun f hf => by cases hf) rfl hRlocals
  have hfr' : W.frames.length + Ps.length + 4 < (e.platform.stackLimits W.me).1 := by have := X.framesAbove hRframes; omega
  have hwd' : (stackUse (.java g :: W.frames.tail)).2 + 13 * Ps.length + 55 ≤ (e.platform.stackLimits W.me).2 := by have := X.stackAbove hsize (K := 13 * Ps.length + 55) (by omega); omega
  have hslots : W.slotsUsed + (stringBytes (stringToUtf16 text)).size + Zs.kS.instanceTypes.size + kX.instanceTypes.size ≤ e.platform.maxSlots := by
    have := X.slotsAbove hRslots
    rw [hn4, hn6]
    omega
  obtain ⟨vm', hW', st⟩ := Steps.vmThrowsMessageColdByV p (s₀ := s) (S := W) (g := g) h0 hexec T L Z LZ M LM X.warmed (t := W.cur) rfl Zs LZs P1 L1 Ps hL hlink1 hlink hsoe hoom hfound hk hinit hord hctor
    (Launch.admits_hotImplicitExceptions X.admits) hbeyond hfreeW htext hlimit hheap (X.cellsAbove hRcells) hslots (hfitv _) (hfitc _)
    (Nn := fun u => u) heapOnly_id (fun _ _ => rfl) (fun _ => rfl) (fun u x y => setCell_twice _ _ _ _) (fun _ => Nat.le_refl _) (cN := ((preparedCellV T.toThrowableT (freshCell P1.m.cls kX) (W.heap.size + 2) u0 sen).withEntry W.cur))
    hsel0 hcellS hknownS hvU tkS (fun _ hu => hu) (fun _ hu => hu) rfl rfl rfl (by simp [preparedCellV, Cell.setSlot, Cell.withEntry]) hskip (fun _ _ hA hW _ hroom _ hrest => L.nativeOff p htr hA hW hroom hrest) hselF hvSen tkC tkP tkM Y.objLocals rfl hfr' hwd'
  rw [plainBareV_eq T.toThrowableT (W.heap.size + 2) u0 sen (.ref (W.heap.size + 1)) W.cur rfl rfl] at st
  obtain ⟨-, -, w3, w4, -, -, -⟩ := withThrown_facts e.platform W Zs text P1.m.cls kX
  have X3 := ((X.pushed (bytesOf Zs.cB (stringToUtf16 text))).pushed (stringAt Zs.cS Zs.kS Zs.fv Zs.fc (stringToUtf16 text) W.heap.size)).pushed (freshCell P1.m.cls kX)
  rw [← withString_eq] at X3
  have X4 := X3.noted hW'
  have ha : (W.heap.size + 2) < ((withThrown W Zs text P1.m.cls kX).setVm vm').heap.size := by show _ < (withThrown W Zs text P1.m.cls kX).heap.size; rw [w3]; omega
  have hcell : ((withThrown W Zs text P1.m.cls kX).setVm vm').heap[(W.heap.size + 2)]? = some (freshCell P1.m.cls kX) := w4
  have X5 := ((((X4.stored hcell T.fCause.slot (.ref (W.heap.size + 2))).storedAgain ha T.fStack.slot u0.v).storedAgain ha T.fSupp.slot sen.v).storedAgain ha T.fStack.slot u0.v).storedAgain ha T.fMsg.slot (.ref (W.heap.size + 1))
  obtain ⟨g₁, hfrM⟩ := X5.frames_eq
  have hU : ((((withThrown W Zs text P1.m.cls kX).setVm vm').setCell (W.heap.size + 2) (plainBareV T.toThrowableT (freshCell P1.m.cls kX) (W.heap.size + 2) u0 sen (.ref (W.heap.size + 1)))).setTop g).pushFrame (.throwing (W.heap.size + 2)) = (((withThrown W Zs text P1.m.cls kX).setVm vm').setCell (W.heap.size + 2) (plainBareV T.toThrowableT (freshCell P1.m.cls kX) (W.heap.size + 2) u0 sen (.ref (W.heap.size + 1)))).setFrames (.throwing (W.heap.size + 2) :: .java g :: below) := by
    rw [State.pushFrame, State.frames_setTop _ hfrM, State.setTop_of_frames _ hfrM, State.setFrames_setFrames]
  have b1 : (bytesOf Zs.cB (stringToUtf16 text)).slots.size = (stringBytes (stringToUtf16 text)).size := by
    rw [(Cell.writeAll_facts _ _).2.2]; simp [bytes0]
  have b2 : (stringAt Zs.cS Zs.kS Zs.fv Zs.fc (stringToUtf16 text) W.heap.size).slots.size = 4 := by simp [string0, Cell.setSlot, hn4]
  have b3 : (freshCell P1.m.cls kX).slots.size = 6 := by simp [hn6]
  rw [b1, b2, b3] at X5
  have e9 : slots + (stringBytes (stringToUtf16 text)).size + 4 + 6 = slots + ((stringBytes (stringToUtf16 text)).size + 4 + 6) := by omega
  rw [e9] at X5
  simp only [List.append_assoc, List.cons_append, List.nil_append] at X5
  refine ⟨((withThrown W Zs text P1.m.cls kX).setVm vm').setCell (W.heap.size + 2) (plainBareV T.toThrowableT (freshCell P1.m.cls kX) (W.heap.size + 2) u0 sen (.ref (W.heap.size + 1))), W.heap.size + 2, _, fun target ht => st _ (by rw [X.tail, ← hU]; exact ht),
    X5.forget (fun y hy => ?_), heapAt_setCell_self _ ha, hfound, rfl⟩
  simp only [List.mem_cons, List.not_mem_nil, or_false] at hy
  have hge : s.heap.size ≤ W.heap.size := X.same.2.1
  rcases hy with rfl | rfl | rfl | rfl | rfl <;> exact Nat.le_trans hge (Nat.le_add_right _ 2)
set_option maxHeartbeats 1000000 in
/-- the machine throws NullPointerException, no traces kept: from its note over the frame g to 'throwing' over the same frame (follows the proof of Stand.vmThrowsNpe, Shelf42/KT2.lean; throwsNpeColdBareVAt, Shelf42/NT91.lean, called) -/
theorem vx_npeAt {p : Program} {l : Launch} {e : Env} {R : Room} {s : State} {m₀ : MethodId} {args : Array Value} {below : List Frame} {meth : Method} {c : Code} {W : State} {locs : List Loc} {cells slots : Nat}
    (X : Stand p l e R s m₀ args below meth c W locs cells slots) (hexec : p.tables.exec = Jvm.exec) (htr : e.platform.stackTraces = false) {n : Nat}
    (h : ∀ a ∈ Bundle.npeArmAtoms n, a.before args s = true)
    (hlocs : ∀ x ∈ locs, ∀ cell, s.heap[x.base]? = some cell → cell.vm.isStatics = false)
    {g : JFrame} (hg : g.method = m₀) (hsize : g.locals.size = c.maxLocals)
    (hRframes : 7 < R.frames) (hRlocals : 2 * g.monitorRoom + (g.stack.map fun v => v.category).sum + 10240 ≤ R.locals)
    (hRcells : cells + 1 ≤ R.cells) (hRslots : slots + n ≤ R.slots) (hlocks : meth.locks = false) :
    ∃ (S : State) (q : Addr) (ce : Cell), (∀ target, Steps p.tables e below ((S.setTop g).pushFrame (.throwing q)) target → Steps p.tables e below ((W.setTop g).pushFrame (.throwNew "java/lang/NullPointerException" none none)) target) ∧
      Stand p l e R s m₀ args below meth c S locs (cells + 1) (slots + n) ∧ S.heap[q]? = some ce ∧ s.vm.findClass "java/lang/NullPointerException" = some ce.cls ∧ ce.vm = .none := by
  have howns : e.platform.frameOwnsMonitors = true := by rw [X.admits.platform]
  have hfin : e.platform.finalization = false := by rw [X.admits.platform]
  have hpl : e.platform.magicAccessors = ({} : Platform).magicAccessors := by rw [X.admits.platform]
  have hpl2 : e.platform.arrayCloneIsPublic = true := by rw [X.admits.platform]
  have a' : ∀ x, x ∈ Bundle.npeArmAtoms n → x.holds args s none s [] = true := fun x hx => h x hx
  obtain ⟨T, Z, L, LZ, Y⟩ := ThrowableC.of_atoms (args := args) howns hfin hpl (fun x hx => h x (by simp [Bundle.npeArmAtoms, hx]))
  obtain ⟨N, LN, hcN, hnNF, hordN, hffS⟩ := NpeC.of_atoms (args := args) hpl hpl2 L Y (fun x hx => h x (by simp [Bundle.npeArmAtoms, hx]))
  obtain ⟨P1, L1, hP1m, hP1s⟩ := PassC.of_atoms (args := args) (s := s) hpl (X := Bundle.nN) (Y := Bundle.rN) (by decide) (by decide) LibCode.NullPointerException.Init0.at_0 LibCode.NullPointerException.Init0.at_1 LibCode.NullPointerException.Init0.at_4 (fun x hx => h x (by simp [Bundle.npeArmAtoms, hx]))
  obtain ⟨PR, LR, hPRm, hPRs⟩ := PassC.of_atoms (args := args) (s := s) hpl (X := Bundle.rN) (Y := Bundle.eN) (by decide) (by decide) LibCode.RuntimeException.Init0.at_0 LibCode.RuntimeException.Init0.at_1 LibCode.RuntimeException.Init0.at_4 (fun x hx => h x (by simp [Bundle.npeArmAtoms, hx]))
  obtain ⟨PE, LEx, hPEm, hPEs⟩ := PassC.of_atoms (args := args) (s := s) hpl (X := Bundle.eN) (Y := Bundle.tN) (by decide) (by decide) LibCode.Exception.Init0.at_0 LibCode.Exception.Init0.at_1 LibCode.Exception.Init0.at_4 (fun x hx => h x (by simp [Bundle.npeArmAtoms, hx]))
  have hfound : s.vm.findClass Bundle.nN = some P1.m.cls := findClass_of_methodNamed hP1m
  have ecls : N.cN = P1.m.cls := Option.some.inj (hcN.symm.trans hfound)
  have hk : s.vm.classes[P1.m.cls]? = some N.kN := by rw [← ecls]; exact LN.cls
  have hinit := Cond.initialized_spec hfound hk (a' (.initialized Bundle.nN) (by simp [Bundle.npeArmAtoms]))
  have hctor : N.kN.findMethod "<init>" "()V" = some P1.m.idx := findMethod_of_methodNamed hP1m hk
  obtain ⟨c1, k1, hc1, hk1, -, -, -, hn⟩ := Cond.instantiable_spec (a' (.instantiable Bundle.nN n) (by simp [Bundle.npeArmAtoms]))
  cases Option.some.inj (hc1.symm.trans hfound)
  cases Option.some.inj (hk1.symm.trans hk)
  have hfsz : (freshCell P1.m.cls N.kN).slots.size = n := by simp [hn]
  have hlink1 : P1.sup = PR.m := Option.some.inj (hP1s.symm.trans hPRm)
  have hlinkR : PR.sup = PE.m := Option.some.inj (hPRs.symm.trans hPEm)
  have hlinkE : PE.sup = Z.m T.toThrowableT := Option.some.inj (hPEs.symm.trans Y.init0)
  have hLs : ∀ P, P ∈ [PR, PE] → P.Links0 e.platform s := fun P hP => by
    simp only [List.mem_cons, List.not_mem_nil, or_false] at hP
    rcases hP with rfl | rfl
    · exact LR
    · exact LEx
  have hsel0 : selectMethod e.platform s.vm P1.m.cls T.fill0 = .method T.fill0 := by
    obtain ⟨c2, r2, m2, q1, q2, q3, q4, -⟩ := Cond.selects_spec (a' (.selects Bundle.nN Bundle.tFill0 Bundle.tFill0) (by simp [Bundle.npeArmAtoms]))
    cases Option.some.inj (q1.symm.trans hfound)
    cases Option.some.inj (q2.symm.trans (State.methodFound?_of_named Y.fill0 (by decide)))
    cases Option.some.inj (q3.symm.trans Y.fill0)
    rw [Launch.admits_selectMethod X.admits]; exact q4
  have hselF : selectMethod e.platform s.vm P1.m.cls T.fill = .method N.fill := by
    obtain ⟨c2, r2, m2, q1, q2, q3, q4, -⟩ := Cond.selects_spec (a' (.selects Bundle.nN Bundle.tFill Bundle.nFill) (by simp [Bundle.npeArmAtoms]))
    cases Option.some.inj (q1.symm.trans hfound)
    cases Option.some.inj (q2.symm.trans (State.methodFound?_of_named Y.fill (by decide)))
    cases Option.some.inj (q3.symm.trans hnNF)
    rw [Launch.admits_selectMethod X.admits]; exact q4
  obtain ⟨cellS0, hcS0, hiss⟩ := Y.statics
  obtain ⟨u0, hu0⟩ := Cond.staticRefV Y.unassigned L.unassignedStatic L.statics hcS0 hiss (a' (.isRef (.static Bundle.tN "UNASSIGNED_STACK" Bundle.steD)) (by simp [Bundle.npeArmAtoms]))
  obtain ⟨sen, hsen⟩ := Cond.staticRefV Y.sentinel L.sentinelStatic L.statics hcS0 hiss (a' (.isRef (.static Bundle.tN "SUPPRESSED_SENTINEL" Bundle.listD)) (by simp [Bundle.npeArmAtoms]))
  obtain ⟨ci198, i198, fB, hk198, hg198, ha198, hsB, -, hnB, htB, hffB⟩ := Cond.ownField (t := .object "java/lang/Object") Y.found L.cls (by decide +kernel) (a' (.fieldLink Bundle.tN 198 Bundle.tN "backtrace" Bundle.objD) (by simp [Bundle.npeArmAtoms])) (a' (.lays Bundle.tN Bundle.tN "backtrace" Bundle.objD) (by simp [Bundle.npeArmAtoms])) e.platform hpl
  obtain ⟨cellS, hcS', heS, -, hkeep⟩ := X.same.2.2.2.2.2 T.aS cellS0 hcS0
  have hcellS : W.heap[T.aS]? = some cellS := hcS'
  have hout' : ∀ i, (⟨T.aS, i⟩ : Loc) ∉ locs := fun i hmem => by
    have := hlocs _ hmem cellS0 hcS0
    rw [hiss] at this; cases this
  have hknownS : cellS.vm ≠ .unknown := by
    rw [heS]; intro hu
    rw [show cellS0.vm = .unknown from hu] at hiss
    cases hiss
  have hvU : cellS.slots[T.fUnassigned.slot]? = some u0.v := by rw [hkeep _ (hout' _)]; exact hu0
  have hvSen : cellS.slots[T.fSentinel.slot]? = some sen.v := by rw [hkeep _ (hout' _)]; exact hsen
  obtain ⟨tyC, dC, hdC, hdnC⟩ := Cond.laysAt hfound hk Y.cause (a' (.lays Bundle.nN Bundle.tN "cause" "Ljava/lang/Throwable;") (by simp [Bundle.npeArmAtoms]))
  obtain ⟨tyS, dS, hdS, hdnS⟩ := Cond.laysAt hfound hk Y.stack (a' (.lays Bundle.nN Bundle.tN "stackTrace" Bundle.steD) (by simp [Bundle.npeArmAtoms]))
  obtain ⟨tyP, dP, hdP, hdnP⟩ := Cond.laysAt hfound hk Y.supp (a' (.lays Bundle.nN Bundle.tN "suppressedExceptions" Bundle.listD) (by simp [Bundle.npeArmAtoms]))
  obtain ⟨tyX, dX, hdX, hdnX⟩ := Cond.laysAt hfound hk hffS (a' (.lays Bundle.nN Bundle.nN "extendedMessageState" "I") (by simp [Bundle.npeArmAtoms, Bundle.npeAtoms]))
  obtain ⟨hnX, htX⟩ := State.fieldFound?_type hffS (t := .int) (by decide +kernel)
  have xC := Cond.laysApart hdC hdX hdnC hdnX (by rw [hnX, Y.causeName]; decide)
  have xS := Cond.laysApart hdS hdX hdnS hdnX (by rw [hnX, Y.stackName]; decide)
  have xP := Cond.laysApart hdP hdX hdnP hdnX (by rw [hnX, Y.suppName]; decide)
  have hv0 : (freshCell P1.m.cls N.kN).slots[N.fState.slot]? = some (.int 0) := by
    have := fresh_default (c := P1.m.cls) tyX
    rw [htX] at this; exact this
  obtain ⟨tyB, dB, hdB, hdnB⟩ := Cond.laysAt hfound hk hffB (a' (.lays Bundle.nN Bundle.tN "backtrace" Bundle.objD) (by simp [Bundle.npeArmAtoms]))
  have bC := Cond.laysApart hdB hdC hdnB hdnC (by rw [hnB, Y.causeName]; decide)
  have bS := Cond.laysApart hdB hdS hdnB hdnS (by rw [hnB, Y.stackName]; decide)
  have bP := Cond.laysApart hdB hdP hdnB hdnP (by rw [hnB, Y.suppName]; decide)
  have bX := Cond.laysApart hdB hdX hdnB hdnX (by rw [hnB, hnX]; decide)
  have hbk : ((npeCell N.toNpeT (preparedCellV T.toThrowableT (freshCell P1.m.cls N.kN) W.heap.size u0 sen) W.cur).withEntry W.cur).slots[fB.slot]? = some .null := by
    have := fresh_default (c := P1.m.cls) tyB
    rw [htB] at this
    simpa [npeCell, preparedCellV, Cell.setSlot, Cell.withEntry, Array.getElem?_setIfInBounds, bC, bS, bP, bX, bC.symm, bS.symm, bP.symm, bX.symm, defaultValue] using this
  have tkC := Takes.of_laid (v := .ref W.heap.size) hk hordN tyC (by rw [Y.causeType]; rfl)
  have tkS := Takes.of_laid (v := u0.v) hk hordN tyS (by rw [Y.stackType]; exact fits_refV_array _ u0)
  have tkP := Takes.of_laid (v := sen.v) hk hordN tyP (by rw [Y.suppType]; exact fits_refV_object _ sen)
  have tkX := Takes.of_laid (v := .int 1) hk hordN tyX (by rw [htX]; rfl)
  have hskip : SkipFacts T e.platform s (fun u => u) u0 ((npeCell N.toNpeT (preparedCellV T.toThrowableT (freshCell P1.m.cls N.kN) W.heap.size u0 sen) W.cur).withEntry W.cur) := ⟨{ ci198 := ci198, i198 := i198, fBack := fB }, ⟨hk198, hg198, ha198, hsB⟩, hbk, fun _ _ => rfl⟩
  obtain ⟨vm', X3, st, -⟩ := X.throwsNpeColdBareVAt hexec hg hsize T L Z LZ N LN P1 L1 [PR, PE] hLs hlink1 ⟨hlinkR, hlinkE, trivial⟩ hfound hk hinit hordN hctor hsel0 hselF hcellS hknownS hvU hvSen
    hv0 xC xS xP tkC tkS tkP tkX Y.objLocals hskip (fun _ _ hA hW _ hroom _ hrest => L.nativeOff p htr hA hW hroom hrest) (by simpa using hRframes) hRlocals (by simp) hRcells (by rw [hn]; exact hRslots)
  have hlt : W.heap.size < ((W.pushCell (freshCell P1.m.cls N.kN)).setVm vm').heap.size := by
    show W.heap.size < (W.pushCell (freshCell P1.m.cls N.kN)).heap.size
    rw [State.heap_size_pushCell]; omega
  rw [hfsz] at X3
  obtain ⟨g₁, hfrM⟩ := X3.frames_eq
  have hU : ((((W.pushCell (freshCell P1.m.cls N.kN)).setVm vm').setCell W.heap.size (npeBareV T.toThrowableT N.toNpeT (freshCell P1.m.cls N.kN) W.heap.size u0 sen)).setTop g).pushFrame (.throwing W.heap.size) = (((W.pushCell (freshCell P1.m.cls N.kN)).setVm vm').setCell W.heap.size (npeBareV T.toThrowableT N.toNpeT (freshCell P1.m.cls N.kN) W.heap.size u0 sen)).setFrames (.throwing W.heap.size :: .java g :: below) := by
    rw [State.pushFrame, State.frames_setTop _ hfrM, State.setTop_of_frames _ hfrM, State.setFrames_setFrames]
  refine ⟨_, W.heap.size, _, fun target ht => st.trans (by rw [← hU]; exact ht), X3.forget (fun y hy => ?_), heapAt_setCell_self _ hlt, hfound, rfl⟩
  simp only [List.mem_cons, List.not_mem_nil, or_false] at hy
  have hge : s.heap.size ≤ W.heap.size := X.same.2.1
  rcases hy with rfl | rfl | rfl | rfl | rfl <;> exact hge
/-- the words of a machine's NullPointerException, but the four that speak of the heap -/
def vx_atN (n : Nat) : List Cond := (Bundle.npeArmAtoms n).filter vx_no
/-- the words of a machine's throw with a message, but the four that speak of the heap -/
def vx_atM (X : String) (names : List String) : List Cond := (Bundle.messageArmAtoms X names).filter vx_no
section
variable {p : Program} {l : Launch} {e : Env} {R : Room} {s : State} {m : MethodId} {args : Array Value} {below : List Frame} {meth : Method} {c : Code} {H : Heap} {locs : List Loc} {cells slots : Nat}
/-- a frame seen from a rebased start, seen from the first start again -/
theorem vx_back9 {T S : State} {R' : Room} {k n : Nat} (X : Stand p l e R s m args below meth c T locs cells slots) (Y : Stand p l e R' ((T.setVm s.vm).setFrames (.invoking m args :: below)) m args below meth c T [] 0 0) (Z : Stand p l e R' ((T.setVm s.vm).setFrames (.invoking m args :: below)) m args below meth c S [] k n) :
    Stand p l e R s m args below meth c S locs (cells + k) (slots + n) := by
  have hW0 : s.WarmedH ((T.setVm s.vm).setFrames (.invoking m args :: below)).vm := State.WarmedH.refl s
  refine { admits := X.admits, cas := X.cas, clock := X.clock, frames := X.frames, room := X.room, hears := X.hears, method := X.method, code := X.code, here := Z.here, tail := Z.tail, warmed := State.WarmedH.trans hW0 Z.warmed, limits := Z.limits.trans (Y.limits.symm.trans X.limits), bytes := Z.bytes.trans (Y.bytes.symm.trans X.bytes), same := ?_ }
  obtain ⟨e1, e2⟩ := Z.same
  rw [State.setFrames_setFrames] at e1
  have h2 : (T.setVm s.vm).sameButNew (S.setVm s.vm) [] k n := ⟨e1, e2⟩
  have h3 := X.same.trans h2
  rw [List.append_nil] at h3
  exact h3
/-- from the machine's note that E is thrown here with this text -/
def vx_Note (p : Program) (l : Launch) (e : Env) (R : Room) (s : State) (m : MethodId) (args : Array Value) (below : List Frame) (meth : Method) (c : Code) (H : Heap) (locs : List Loc) (cells slots : Nat) (Q : State → Prop) (g : JFrame) (E text : String) : Prop :=
  ∀ T : State, T.heap = H → Stand p l e R s m args below meth c T locs cells slots → ∃ t, Steps p.tables e below ((T.setTop g).pushFrame (.throwNew E (some text) none)) t ∧ Q t
theorem vx_vm {pc : Nat} {ls : Array Slot} {rest : List Value} {Q : State → Prop} (hexec : p.tables.exec = Jvm.exec) (hl : l.stackTraces = false) {cls text : String} {names : List String} {nb : Nat} {A : Nat → Prop}
    (hcls : Bundle.fit cls = true) (hnames : ∀ n ∈ names, Bundle.fit n = true) (hsoe : (cls == "java/lang/StackOverflowError") = false) (hoom : (cls == "java/lang/OutOfMemoryError") = false)
    (hat : ∀ w ∈ vx_atM cls names, w.before args s = true) (hgood : ∀ w ∈ vx_atM cls names, vx_ot w = true)
    (hU : vx_Zq Bundle.tN "UNASSIGNED_STACK" Bundle.steD A s s.heap) (hN : vx_Zq Bundle.tN "SUPPRESSED_SENTINEL" Bundle.listD A s s.heap) (hS : va_S A s.heap H locs) (hsize : ls.size = c.maxLocals)
    (htext : (text == notModelled) = false) (hnb : (stringBytes (stringToUtf16 text)).size ≤ nb) (hnb1 : nb ≤ 1000)
    (hRframes : names.length + 4 < R.frames) (hRlocals : (rest.map fun v => v.category).sum + 10240 ≤ R.locals) (hshort : 13 * names.length + 55 ≤ 10240) (hRcells : cells + 3 ≤ R.cells) (hRslots : slots + (nb + 10) ≤ R.slots) (hlocks : meth.locks = false)
    (k : ∀ (H1 : Heap) (q9 : Addr) (ce : Cell), H.size ≤ H1.size → (∀ q : Nat, q < H.size → H1[q]? = H[q]?) → va_S A s.heap H1 locs → H1[q9]? = some ce → ce.vm = .none → s.vm.findClass cls = some ce.cls → vx_W p l e R s m args below meth c H1 locs (cells + 3) (slots + (nb + 10)) Q (F0 m pc ls rest) q9) :
    vx_Note p l e R s m args below meth c H locs cells slots Q (F0 m pc ls rest) cls text := by
  intro T hT X
  have htr : e.platform.stackTraces = false := (show e.platform.stackTraces = l.stackTraces by rw [X.admits.platform]).trans hl
  have Y := vx_rebase X (R' := { frames := R.frames, locals := R.locals, cells := 3, slots := nb + 10 }) (Nat.le_refl _) (Nat.le_refl _) hRcells hRslots
  have hhp : ((T.setVm s.vm).setFrames (.invoking m args :: below)).heap = H := hT
  have hW0 : s.WarmedH ((T.setVm s.vm).setFrames (.invoking m args :: below)).vm := State.WarmedH.refl s
  have hat' : ∀ w ∈ vx_atM cls names, w.before args ((T.setVm s.vm).setFrames (.invoking m args :: below)) = true := fun w hw => vx_ot_at hW0 rfl (hgood w hw) (hat w hw)
  have hU' : vx_Zq Bundle.tN "UNASSIGNED_STACK" Bundle.steD A ((T.setVm s.vm).setFrames (.invoking m args :: below)) ((T.setVm s.vm).setFrames (.invoking m args :: below)).heap := by rw [hhp]; exact vx_Zq.moved hW0.alike (hU.kept hS.2.1)
  have hN' : vx_Zq Bundle.tN "SUPPRESSED_SENTINEL" Bundle.listD A ((T.setVm s.vm).setFrames (.invoking m args :: below)) ((T.setVm s.vm).setFrames (.invoking m args :: below)).heap := by rw [hhp]; exact vx_Zq.moved hW0.alike (hN.kept hS.2.1)
  obtain ⟨S, q, ce, st, Z, hce, hcl', hv⟩ := vx_vmAt Y hexec htr (cls := cls) (names := names) (text := text) hcls hnames hsoe hoom (vx_own hat' (vx_isRefq hU'.1) (vx_isRefq hN'.1) hU'.2.word hN'.2.word) (fun x hx => nomatch hx) htext
    (by rw [Launch.admits_arrayLengthLimit X.admits]; omega) (by rw [Launch.admits_maxHeapBytes X.admits]; simp only [componentBytes]; omega)
    (g := F0 m pc ls rest) rfl hsize hRframes (by show 2 * 0 + (rest.map fun v => v.category).sum + 10240 ≤ R.locals; omega) hshort (by show 0 + 3 ≤ 3; omega) (by show 0 + (_ + 4 + 6) ≤ nb + 10; omega) hlocks
  obtain ⟨f1, f2⟩ := vx_frame Z.same
  have f1' : H.size ≤ S.heap.size := by rw [← hT]; exact f1
  have f2' : ∀ q : Nat, q < H.size → S.heap[q]? = H[q]? := fun q hq => by
    rw [← hT]
    exact f2 q (by rw [← hT] at hq; exact hq) (fun z hz => nomatch hz)
  have X5 := vx_back9 X Y Z
  have X6 : Stand p l e R s m args below meth c S locs (cells + 3) (slots + (nb + 10)) := { X5 with same := X5.same.mono (by omega) (by omega) }
  obtain ⟨t, a1, b1⟩ := k S.heap q ce f1' f2' ⟨Nat.le_trans hS.1 f1', fun q h1 h2 => (f2' q (Nat.lt_of_lt_of_le h1 hS.1)).trans (hS.2.1 q h1 h2), hS.2.2⟩ hce hv hcl' S rfl X6
  exact ⟨t, st t a1, b1⟩
/-- from the machine's note that NullPointerException is thrown here -/
def vx_NoteN (p : Program) (l : Launch) (e : Env) (R : Room) (s : State) (m : MethodId) (args : Array Value) (below : List Frame) (meth : Method) (c : Code) (H : Heap) (locs : List Loc) (cells slots : Nat) (Q : State → Prop) (g : JFrame) : Prop :=
  ∀ T : State, T.heap = H → Stand p l e R s m args below meth c T locs cells slots → ∃ t, Steps p.tables e below ((T.setTop g).pushFrame (.throwNew "java/lang/NullPointerException" none none)) t ∧ Q t
theorem vx_npe {pc : Nat} {ls : Array Slot} {rest : List Value} {Q : State → Prop} (hexec : p.tables.exec = Jvm.exec) (hl : l.stackTraces = false) {nb : Nat} {A : Nat → Prop}
    (hat : ∀ w ∈ vx_atN nb, w.before args s = true) (hgood : ∀ w ∈ vx_atN nb, vx_ot w = true)
    (hU : vx_Zq Bundle.tN "UNASSIGNED_STACK" Bundle.steD A s s.heap) (hN : vx_Zq Bundle.tN "SUPPRESSED_SENTINEL" Bundle.listD A s s.heap) (hS : va_S A s.heap H locs) (hsize : ls.size = c.maxLocals)
    (hRframes : 7 < R.frames) (hRlocals : (rest.map fun v => v.category).sum + 10240 ≤ R.locals) (hRcells : cells + 1 ≤ R.cells) (hRslots : slots + nb ≤ R.slots) (hlocks : meth.locks = false)
    (k : ∀ (H1 : Heap) (q9 : Addr) (ce : Cell), H.size ≤ H1.size → (∀ q : Nat, q < H.size → H1[q]? = H[q]?) → va_S A s.heap H1 locs → H1[q9]? = some ce → ce.vm = .none → s.vm.findClass "java/lang/NullPointerException" = some ce.cls → vx_W p l e R s m args below meth c H1 locs (cells + 1) (slots + nb) Q (F0 m pc ls rest) q9) :
    vx_NoteN p l e R s m args below meth c H locs cells slots Q (F0 m pc ls rest) := by
  intro T hT X
  have htr : e.platform.stackTraces = false := (show e.platform.stackTraces = l.stackTraces by rw [X.admits.platform]).trans hl
  have Y := vx_rebase X (R' := { frames := R.frames, locals := R.locals, cells := 1, slots := nb }) (Nat.le_refl _) (Nat.le_refl _) hRcells hRslots
  have hhp : ((T.setVm s.vm).setFrames (.invoking m args :: below)).heap = H := hT
  have hW0 : s.WarmedH ((T.setVm s.vm).setFrames (.invoking m args :: below)).vm := State.WarmedH.refl s
  have hat' : ∀ w ∈ vx_atN nb, w.before args ((T.setVm s.vm).setFrames (.invoking m args :: below)) = true := fun w hw => vx_ot_at hW0 rfl (hgood w hw) (hat w hw)
  have hU' : vx_Zq Bundle.tN "UNASSIGNED_STACK" Bundle.steD A ((T.setVm s.vm).setFrames (.invoking m args :: below)) ((T.setVm s.vm).setFrames (.invoking m args :: below)).heap := by rw [hhp]; exact vx_Zq.moved hW0.alike (hU.kept hS.2.1)
  have hN' : vx_Zq Bundle.tN "SUPPRESSED_SENTINEL" Bundle.listD A ((T.setVm s.vm).setFrames (.invoking m args :: below)) ((T.setVm s.vm).setFrames (.invoking m args :: below)).heap := by rw [hhp]; exact vx_Zq.moved hW0.alike (hN.kept hS.2.1)
  obtain ⟨S, q, ce, st, Z, hce, hcl', hv⟩ := vx_npeAt Y hexec htr (n := nb) (vx_own hat' (vx_isRefq hU'.1) (vx_isRefq hN'.1) hU'.2.word hN'.2.word) (fun x hx => nomatch hx)
    (g := F0 m pc ls rest) rfl hsize hRframes (by show 2 * 0 + (rest.map fun v => v.category).sum + 10240 ≤ R.locals; omega) (by show 0 + 1 ≤ 1; omega) (by show 0 + nb ≤ nb; omega) hlocks
  obtain ⟨f1, f2⟩ := vx_frame Z.same
  have f1' : H.size ≤ S.heap.size := by rw [← hT]; exact f1
  have f2' : ∀ q : Nat, q < H.size → S.heap[q]? = H[q]? := fun q hq => by
    rw [← hT]
    exact f2 q (by rw [← hT] at hq; exact hq) (fun z hz => nomatch hz)
  have X5 := vx_back9 X Y Z
  have X6 : Stand p l e R s m args below meth c S locs (cells + 1) (slots + nb) := { X5 with same := X5.same.mono (by omega) (by omega) }
  obtain ⟨t, a1, b1⟩ := k S.heap q ce f1' f2' ⟨Nat.le_trans hS.1 f1', fun q h1 h2 => (f2' q (Nat.lt_of_lt_of_le h1 hS.1)).trans (hS.2.1 q h1 h2), hS.2.2⟩ hce hv hcl' S rfl X6
  exact ⟨t, st t a1, b1⟩
variable {Q : State → Prop} {cc : ByteArray} {pc : Nat} {ls : Array Slot} {rest : List Value}
theorem vx_idivZ (hexec : p.tables.exec = Jvm.exec) (hb : c.code = cc) {a b : Int32} (h0 : b = 0) (d : decode cc pc = .ok (.idiv, 1)) (k : vx_Note p l e R s m args below meth c H locs cells slots Q (F0 m pc ls rest) "java/lang/ArithmeticException" "/ by zero") :
    W p l e R s m args below meth c H locs cells slots Q (F0 m pc ls (.int b :: .int a :: rest)) := by
  intro T hT X
  obtain ⟨t, st, q⟩ := k T hT X
  exact ⟨t, X.idivZero hexec (g := F0 m pc ls (.int b :: .int a :: rest)) rfl (a := a) (rest := rest) (by rw [h0]) (by rw [hb]; exact d) t st, q⟩
theorem vx_iremZ (hexec : p.tables.exec = Jvm.exec) (hb : c.code = cc) {a b : Int32} (h0 : b = 0) (d : decode cc pc = .ok (.irem, 1)) (k : vx_Note p l e R s m args below meth c H locs cells slots Q (F0 m pc ls rest) "java/lang/ArithmeticException" "/ by zero") :
    W p l e R s m args below meth c H locs cells slots Q (F0 m pc ls (.int b :: .int a :: rest)) := by
  intro T hT X
  obtain ⟨t, st, q⟩ := k T hT X
  exact ⟨t, X.iremZero hexec (g := F0 m pc ls (.int b :: .int a :: rest)) rfl (a := a) (rest := rest) (by rw [h0]) (by rw [hb]; exact d) t st, q⟩
theorem vx_ldivZ (hexec : p.tables.exec = Jvm.exec) (hb : c.code = cc) {a b : Int64} (h0 : b = 0) (d : decode cc pc = .ok (.ldiv, 1)) (k : vx_Note p l e R s m args below meth c H locs cells slots Q (F0 m pc ls rest) "java/lang/ArithmeticException" "/ by zero") :
    W p l e R s m args below meth c H locs cells slots Q (F0 m pc ls (.long b :: .long a :: rest)) := by
  intro T hT X
  obtain ⟨t, st, q⟩ := k T hT X
  exact ⟨t, X.ldivZero hexec (g := F0 m pc ls (.long b :: .long a :: rest)) rfl (a := a) (rest := rest) (by rw [h0]) (by rw [hb]; exact d) t st, q⟩
theorem vx_lremZ (hexec : p.tables.exec = Jvm.exec) (hb : c.code = cc) {a b : Int64} (h0 : b = 0) (d : decode cc pc = .ok (.lrem, 1)) (k : vx_Note p l e R s m args below meth c H locs cells slots Q (F0 m pc ls rest) "java/lang/ArithmeticException" "/ by zero") :
    W p l e R s m args below meth c H locs cells slots Q (F0 m pc ls (.long b :: .long a :: rest)) := by
  intro T hT X
  obtain ⟨t, st, q⟩ := k T hT X
  exact ⟨t, X.lremZero hexec (g := F0 m pc ls (.long b :: .long a :: rest)) rfl (a := a) (rest := rest) (by rw [h0]) (by rw [hb]; exact d) t st, q⟩
theorem vx_ialdZ {D : va_G} {cl : List vw_C} {ws : va_W} {tys : List (ClassId × FieldType)} {a : Nat} (hexec : p.tables.exec = Jvm.exec) (hb : c.code = cc) (hK : va_K D cl tys s) (hP : va_P D cl ws H) (q0 t0 : Nat) {cA : ClassId} {n : Nat} {f : Nat → Int32} (ha : ws[q0]? = some (a, .inl (cA, n, .inl f))) (ht : tys[t0]? = some (cA, .int)) {i : Int32} (hout : ¬ vp_in i n) (hdg : decode cc pc = .ok (.iaload, 1))
    (k : ∀ tx : String, tx = (toString "Index " ++ toString i ++ toString " out of bounds for length " ++ toString n : String) → vx_Note p l e R s m args below meth c H locs cells slots Q (F0 m pc ls rest) "java/lang/ArrayIndexOutOfBoundsException" tx) : W p l e R s m args below meth c H locs cells slots Q (F0 m pc ls (.int i :: .ref a :: rest)) := by
  intro T hT X
  obtain ⟨t, st, q⟩ := k _ rfl T hT X
  refine ⟨t, ?_, q⟩
  have h1 := X.ialoadOut hexec (by rw [hT]; exact hP q0 _ ha) ((hK.2 t0 _ ht).1 n (fun j => .int (f j))) (j := i) (by show (i < 0 ∨ (arrV _ _ _).slots.size ≤ _); rw [arrV_size]; exact Classical.byContradiction hout) (g := F0 m pc ls (.int i :: .ref a :: rest)) rfl (rest := rest) rfl (by rw [hb]; exact hdg) t
  simp only [arrV_size] at h1
  exact h1 st
theorem vx_iastZ {D : va_G} {cl : List vw_C} {ws : va_W} {tys : List (ClassId × FieldType)} {a : Nat} (hexec : p.tables.exec = Jvm.exec) (hb : c.code = cc) (hK : va_K D cl tys s) (hP : va_P D cl ws H) (q0 t0 : Nat) {cA : ClassId} {n : Nat} {f : Nat → Int32} (ha : ws[q0]? = some (a, .inl (cA, n, .inl f))) (ht : tys[t0]? = some (cA, .int)) {i : Int32} {x : Int32} (hout : ¬ vp_in i n) (hdg : decode cc pc = .ok (.iastore, 1))
    (k : ∀ tx : String, tx = (toString "Index " ++ toString i ++ toString " out of bounds for length " ++ toString n : String) → vx_Note p l e R s m args below meth c H locs cells slots Q (F0 m pc ls rest) "java/lang/ArrayIndexOutOfBoundsException" tx) : W p l e R s m args below meth c H locs cells slots Q (F0 m pc ls (.int x :: .int i :: .ref a :: rest)) := by
  intro T hT X
  obtain ⟨t, st, q⟩ := k _ rfl T hT X
  refine ⟨t, ?_, q⟩
  have h1 := X.iastoreOut hexec (by rw [hT]; exact hP q0 _ ha) ((hK.2 t0 _ ht).1 n (fun j => .int (f j))) (j := i) (by show (i < 0 ∨ (arrV _ _ _).slots.size ≤ _); rw [arrV_size]; exact Classical.byContradiction hout) (g := F0 m pc ls (.int x :: .int i :: .ref a :: rest)) rfl (rest := rest) rfl (by rw [hb]; exact hdg) t
  simp only [arrV_size] at h1
  exact h1 st
theorem vx_baldZ {D : va_G} {cl : List vw_C} {ws : va_W} {tys : List (ClassId × FieldType)} {a : Nat} (hexec : p.tables.exec = Jvm.exec) (hb : c.code = cc) (hK : va_K D cl tys s) (hP : va_P D cl ws H) (q0 t0 : Nat) {cA : ClassId} {n : Nat} {f : Nat → Int32} (ha : ws[q0]? = some (a, .inl (cA, n, .inl f))) (ht : tys[t0]? = some (cA, .byte)) {i : Int32} (hout : ¬ vp_in i n) (hdg : decode cc pc = .ok (.baload, 1))
    (k : ∀ tx : String, tx = (toString "Index " ++ toString i ++ toString " out of bounds for length " ++ toString n : String) → vx_Note p l e R s m args below meth c H locs cells slots Q (F0 m pc ls rest) "java/lang/ArrayIndexOutOfBoundsException" tx) : W p l e R s m args below meth c H locs cells slots Q (F0 m pc ls (.int i :: .ref a :: rest)) := by
  intro T hT X
  obtain ⟨t, st, q⟩ := k _ rfl T hT X
  refine ⟨t, ?_, q⟩
  have h1 := X.baloadOut hexec (by rw [hT]; exact hP q0 _ ha) ((hK.2 t0 _ ht).1 n (fun j => .int (f j))) (j := i) (by show (i < 0 ∨ (arrV _ _ _).slots.size ≤ _); rw [arrV_size]; exact Classical.byContradiction hout) (g := F0 m pc ls (.int i :: .ref a :: rest)) rfl (rest := rest) rfl (by rw [hb]; exact hdg) t
  simp only [arrV_size] at h1
  exact h1 st
theorem vx_bastZ {D : va_G} {cl : List vw_C} {ws : va_W} {tys : List (ClassId × FieldType)} {a : Nat} (hexec : p.tables.exec = Jvm.exec) (hb : c.code = cc) (hK : va_K D cl tys s) (hP : va_P D cl ws H) (q0 t0 : Nat) {cA : ClassId} {n : Nat} {f : Nat → Int32} (ha : ws[q0]? = some (a, .inl (cA, n, .inl f))) (ht : tys[t0]? = some (cA, .byte)) {i : Int32} {x : Int32} (hout : ¬ vp_in i n) (hdg : decode cc pc = .ok (.bastore, 1))
    (k : ∀ tx : String, tx = (toString "Index " ++ toString i ++ toString " out of bounds for length " ++ toString n : String) → vx_Note p l e R s m args below meth c H locs cells slots Q (F0 m pc ls rest) "java/lang/ArrayIndexOutOfBoundsException" tx) : W p l e R s m args below meth c H locs cells slots Q (F0 m pc ls (.int x :: .int i :: .ref a :: rest)) := by
  intro T hT X
  obtain ⟨t, st, q⟩ := k _ rfl T hT X
  refine ⟨t, ?_, q⟩
  have h1 := X.bastoreOut hexec (by rw [hT]; exact hP q0 _ ha) ((hK.2 t0 _ ht).1 n (fun j => .int (f j))) (j := i) (by show (i < 0 ∨ (arrV _ _ _).slots.size ≤ _); rw [arrV_size]; exact Classical.byContradiction hout) (g := F0 m pc ls (.int x :: .int i :: .ref a :: rest)) rfl (rest := rest) rfl (by rw [hb]; exact hdg) t
  simp only [arrV_size] at h1
  exact h1 st
theorem vx_zaldZ {D : va_G} {cl : List vw_C} {ws : va_W} {tys : List (ClassId × FieldType)} {a : Nat} (hexec : p.tables.exec = Jvm.exec) (hb : c.code = cc) (hK : va_K D cl tys s) (hP : va_P D cl ws H) (q0 t0 : Nat) {cA : ClassId} {n : Nat} {f : Nat → Int32} (ha : ws[q0]? = some (a, .inl (cA, n, .inl f))) (ht : tys[t0]? = some (cA, .boolean)) {i : Int32} (hout : ¬ vp_in i n) (hdg : decode cc pc = .ok (.baload, 1))
    (k : ∀ tx : String, tx = (toString "Index " ++ toString i ++ toString " out of bounds for length " ++ toString n : String) → vx_Note p l e R s m args below meth c H locs cells slots Q (F0 m pc ls rest) "java/lang/ArrayIndexOutOfBoundsException" tx) : W p l e R s m args below meth c H locs cells slots Q (F0 m pc ls (.int i :: .ref a :: rest)) := by
  intro T hT X
  obtain ⟨t, st, q⟩ := k _ rfl T hT X
  refine ⟨t, ?_, q⟩
  have h1 := X.baloadOut hexec (by rw [hT]; exact hP q0 _ ha) ((hK.2 t0 _ ht).1 n (fun j => .int (f j))) (j := i) (by show (i < 0 ∨ (arrV _ _ _).slots.size ≤ _); rw [arrV_size]; exact Classical.byContradiction hout) (g := F0 m pc ls (.int i :: .ref a :: rest)) rfl (rest := rest) rfl (by rw [hb]; exact hdg) t
  simp only [arrV_size] at h1
  exact h1 st
theorem vx_zastZ {D : va_G} {cl : List vw_C} {ws : va_W} {tys : List (ClassId × FieldType)} {a : Nat} (hexec : p.tables.exec = Jvm.exec) (hb : c.code = cc) (hK : va_K D cl tys s) (hP : va_P D cl ws H) (q0 t0 : Nat) {cA : ClassId} {n : Nat} {f : Nat → Int32} (ha : ws[q0]? = some (a, .inl (cA, n, .inl f))) (ht : tys[t0]? = some (cA, .boolean)) {i : Int32} {x : Int32} (hout : ¬ vp_in i n) (hdg : decode cc pc = .ok (.bastore, 1))
    (k : ∀ tx : String, tx = (toString "Index " ++ toString i ++ toString " out of bounds for length " ++ toString n : String) → vx_Note p l e R s m args below meth c H locs cells slots Q (F0 m pc ls rest) "java/lang/ArrayIndexOutOfBoundsException" tx) : W p l e R s m args below meth c H locs cells slots Q (F0 m pc ls (.int x :: .int i :: .ref a :: rest)) := by
  intro T hT X
  obtain ⟨t, st, q⟩ := k _ rfl T hT X
  refine ⟨t, ?_, q⟩
  have h1 := X.bastoreOut hexec (by rw [hT]; exact hP q0 _ ha) ((hK.2 t0 _ ht).1 n (fun j => .int (f j))) (j := i) (by show (i < 0 ∨ (arrV _ _ _).slots.size ≤ _); rw [arrV_size]; exact Classical.byContradiction hout) (g := F0 m pc ls (.int x :: .int i :: .ref a :: rest)) rfl (rest := rest) rfl (by rw [hb]; exact hdg) t
  simp only [arrV_size] at h1
  exact h1 st
theorem vx_caldZ {D : va_G} {cl : List vw_C} {ws : va_W} {tys : List (ClassId × FieldType)} {a : Nat} (hexec : p.tables.exec = Jvm.exec) (hb : c.code = cc) (hK : va_K D cl tys s) (hP : va_P D cl ws H) (q0 t0 : Nat) {cA : ClassId} {n : Nat} {f : Nat → Int32} (ha : ws[q0]? = some (a, .inl (cA, n, .inl f))) (ht : tys[t0]? = some (cA, .char)) {i : Int32} (hout : ¬ vp_in i n) (hdg : decode cc pc = .ok (.caload, 1))
    (k : ∀ tx : String, tx = (toString "Index " ++ toString i ++ toString " out of bounds for length " ++ toString n : String) → vx_Note p l e R s m args below meth c H locs cells slots Q (F0 m pc ls rest) "java/lang/ArrayIndexOutOfBoundsException" tx) : W p l e R s m args below meth c H locs cells slots Q (F0 m pc ls (.int i :: .ref a :: rest)) := by
  intro T hT X
  obtain ⟨t, st, q⟩ := k _ rfl T hT X
  refine ⟨t, ?_, q⟩
  have h1 := X.caloadOut hexec (by rw [hT]; exact hP q0 _ ha) ((hK.2 t0 _ ht).1 n (fun j => .int (f j))) (j := i) (by show (i < 0 ∨ (arrV _ _ _).slots.size ≤ _); rw [arrV_size]; exact Classical.byContradiction hout) (g := F0 m pc ls (.int i :: .ref a :: rest)) rfl (rest := rest) rfl (by rw [hb]; exact hdg) t
  simp only [arrV_size] at h1
  exact h1 st
theorem vx_castZ {D : va_G} {cl : List vw_C} {ws : va_W} {tys : List (ClassId × FieldType)} {a : Nat} (hexec : p.tables.exec = Jvm.exec) (hb : c.code = cc) (hK : va_K D cl tys s) (hP : va_P D cl ws H) (q0 t0 : Nat) {cA : ClassId} {n : Nat} {f : Nat → Int32} (ha : ws[q0]? = some (a, .inl (cA, n, .inl f))) (ht : tys[t0]? = some (cA, .char)) {i : Int32} {x : Int32} (hout : ¬ vp_in i n) (hdg : decode cc pc = .ok (.castore, 1))
    (k : ∀ tx : String, tx = (toString "Index " ++ toString i ++ toString " out of bounds for length " ++ toString n : String) → vx_Note p l e R s m args below meth c H locs cells slots Q (F0 m pc ls rest) "java/lang/ArrayIndexOutOfBoundsException" tx) : W p l e R s m args below meth c H locs cells slots Q (F0 m pc ls (.int x :: .int i :: .ref a :: rest)) := by
  intro T hT X
  obtain ⟨t, st, q⟩ := k _ rfl T hT X
  refine ⟨t, ?_, q⟩
  have h1 := X.castoreOut hexec (by rw [hT]; exact hP q0 _ ha) ((hK.2 t0 _ ht).1 n (fun j => .int (f j))) (j := i) (by show (i < 0 ∨ (arrV _ _ _).slots.size ≤ _); rw [arrV_size]; exact Classical.byContradiction hout) (g := F0 m pc ls (.int x :: .int i :: .ref a :: rest)) rfl (rest := rest) rfl (by rw [hb]; exact hdg) t
  simp only [arrV_size] at h1
  exact h1 st
theorem vx_saldZ {D : va_G} {cl : List vw_C} {ws : va_W} {tys : List (ClassId × FieldType)} {a : Nat} (hexec : p.tables.exec = Jvm.exec) (hb : c.code = cc) (hK : va_K D cl tys s) (hP : va_P D cl ws H) (q0 t0 : Nat) {cA : ClassId} {n : Nat} {f : Nat → Int32} (ha : ws[q0]? = some (a, .inl (cA, n, .inl f))) (ht : tys[t0]? = some (cA, .short)) {i : Int32} (hout : ¬ vp_in i n) (hdg : decode cc pc = .ok (.saload, 1))
    (k : ∀ tx : String, tx = (toString "Index " ++ toString i ++ toString " out of bounds for length " ++ toString n : String) → vx_Note p l e R s m args below meth c H locs cells slots Q (F0 m pc ls rest) "java/lang/ArrayIndexOutOfBoundsException" tx) : W p l e R s m args below meth c H locs cells slots Q (F0 m pc ls (.int i :: .ref a :: rest)) := by
  intro T hT X
  obtain ⟨t, st, q⟩ := k _ rfl T hT X
  refine ⟨t, ?_, q⟩
  have h1 := X.saloadOut hexec (by rw [hT]; exact hP q0 _ ha) ((hK.2 t0 _ ht).1 n (fun j => .int (f j))) (j := i) (by show (i < 0 ∨ (arrV _ _ _).slots.size ≤ _); rw [arrV_size]; exact Classical.byContradiction hout) (g := F0 m pc ls (.int i :: .ref a :: rest)) rfl (rest := rest) rfl (by rw [hb]; exact hdg) t
  simp only [arrV_size] at h1
  exact h1 st
theorem vx_sastZ {D : va_G} {cl : List vw_C} {ws : va_W} {tys : List (ClassId × FieldType)} {a : Nat} (hexec : p.tables.exec = Jvm.exec) (hb : c.code = cc) (hK : va_K D cl tys s) (hP : va_P D cl ws H) (q0 t0 : Nat) {cA : ClassId} {n : Nat} {f : Nat → Int32} (ha : ws[q0]? = some (a, .inl (cA, n, .inl f))) (ht : tys[t0]? = some (cA, .short)) {i : Int32} {x : Int32} (hout : ¬ vp_in i n) (hdg : decode cc pc = .ok (.sastore, 1))
    (k : ∀ tx : String, tx = (toString "Index " ++ toString i ++ toString " out of bounds for length " ++ toString n : String) → vx_Note p l e R s m args below meth c H locs cells slots Q (F0 m pc ls rest) "java/lang/ArrayIndexOutOfBoundsException" tx) : W p l e R s m args below meth c H locs cells slots Q (F0 m pc ls (.int x :: .int i :: .ref a :: rest)) := by
  intro T hT X
  obtain ⟨t, st, q⟩ := k _ rfl T hT X
  refine ⟨t, ?_, q⟩
  have h1 := X.sastoreOut hexec (by rw [hT]; exact hP q0 _ ha) ((hK.2 t0 _ ht).1 n (fun j => .int (f j))) (j := i) (by show (i < 0 ∨ (arrV _ _ _).slots.size ≤ _); rw [arrV_size]; exact Classical.byContradiction hout) (g := F0 m pc ls (.int x :: .int i :: .ref a :: rest)) rfl (rest := rest) rfl (by rw [hb]; exact hdg) t
  simp only [arrV_size] at h1
  exact h1 st
theorem vx_laldZ {D : va_G} {cl : List vw_C} {ws : va_W} {tys : List (ClassId × FieldType)} {a : Nat} (hexec : p.tables.exec = Jvm.exec) (hb : c.code = cc) (hK : va_K D cl tys s) (hP : va_P D cl ws H) (q0 t0 : Nat) {cA : ClassId} {n : Nat} {f : Nat → Int64} (ha : ws[q0]? = some (a, .inl (cA, n, .inr (.inl f)))) (ht : tys[t0]? = some (cA, .long)) {i : Int32} (hout : ¬ vp_in i n) (hdg : decode cc pc = .ok (.laload, 1))
    (k : ∀ tx : String, tx = (toString "Index " ++ toString i ++ toString " out of bounds for length " ++ toString n : String) → vx_Note p l e R s m args below meth c H locs cells slots Q (F0 m pc ls rest) "java/lang/ArrayIndexOutOfBoundsException" tx) : W p l e R s m args below meth c H locs cells slots Q (F0 m pc ls (.int i :: .ref a :: rest)) := by
  intro T hT X
  obtain ⟨t, st, q⟩ := k _ rfl T hT X
  refine ⟨t, ?_, q⟩
  have h1 := X.laloadOut hexec (by rw [hT]; exact hP q0 _ ha) ((hK.2 t0 _ ht).1 n (fun j => .long (f j))) (j := i) (by show (i < 0 ∨ (arrV _ _ _).slots.size ≤ _); rw [arrV_size]; exact Classical.byContradiction hout) (g := F0 m pc ls (.int i :: .ref a :: rest)) rfl (rest := rest) rfl (by rw [hb]; exact hdg) t
  simp only [arrV_size] at h1
  exact h1 st
theorem vx_lastZ {D : va_G} {cl : List vw_C} {ws : va_W} {tys : List (ClassId × FieldType)} {a : Nat} (hexec : p.tables.exec = Jvm.exec) (hb : c.code = cc) (hK : va_K D cl tys s) (hP : va_P D cl ws H) (q0 t0 : Nat) {cA : ClassId} {n : Nat} {f : Nat → Int64} (ha : ws[q0]? = some (a, .inl (cA, n, .inr (.inl f)))) (ht : tys[t0]? = some (cA, .long)) {i : Int32} {x : Int64} (hout : ¬ vp_in i n) (hdg : decode cc pc = .ok (.lastore, 1))
    (k : ∀ tx : String, tx = (toString "Index " ++ toString i ++ toString " out of bounds for length " ++ toString n : String) → vx_Note p l e R s m args below meth c H locs cells slots Q (F0 m pc ls rest) "java/lang/ArrayIndexOutOfBoundsException" tx) : W p l e R s m args below meth c H locs cells slots Q (F0 m pc ls (.long x :: .int i :: .ref a :: rest)) := by
  intro T hT X
  obtain ⟨t, st, q⟩ := k _ rfl T hT X
  refine ⟨t, ?_, q⟩
  have h1 := X.lastoreOut hexec (by rw [hT]; exact hP q0 _ ha) ((hK.2 t0 _ ht).1 n (fun j => .long (f j))) (j := i) (by show (i < 0 ∨ (arrV _ _ _).slots.size ≤ _); rw [arrV_size]; exact Classical.byContradiction hout) (g := F0 m pc ls (.long x :: .int i :: .ref a :: rest)) rfl (rest := rest) rfl (by rw [hb]; exact hdg) t
  simp only [arrV_size] at h1
  exact h1 st
theorem vx_faldZ {D : va_G} {cl : List vw_C} {ws : va_W} {tys : List (ClassId × FieldType)} {a : Nat} (hexec : p.tables.exec = Jvm.exec) (hb : c.code = cc) (hK : va_K D cl tys s) (hP : va_P D cl ws H) (q0 t0 : Nat) {cA : ClassId} {n : Nat} {f : Nat → UInt32} (ha : ws[q0]? = some (a, .inl (cA, n, .inr (.inr (.inl f))))) (ht : tys[t0]? = some (cA, .float)) {i : Int32} (hout : ¬ vp_in i n) (hdg : decode cc pc = .ok (.faload, 1))
    (k : ∀ tx : String, tx = (toString "Index " ++ toString i ++ toString " out of bounds for length " ++ toString n : String) → vx_Note p l e R s m args below meth c H locs cells slots Q (F0 m pc ls rest) "java/lang/ArrayIndexOutOfBoundsException" tx) : W p l e R s m args below meth c H locs cells slots Q (F0 m pc ls (.int i :: .ref a :: rest)) := by
  intro T hT X
  obtain ⟨t, st, q⟩ := k _ rfl T hT X
  refine ⟨t, ?_, q⟩
  have h1 := X.faloadOut hexec (by rw [hT]; exact hP q0 _ ha) ((hK.2 t0 _ ht).1 n (fun j => .float (f j))) (j := i) (by show (i < 0 ∨ (arrV _ _ _).slots.size ≤ _); rw [arrV_size]; exact Classical.byContradiction hout) (g := F0 m pc ls (.int i :: .ref a :: rest)) rfl (rest := rest) rfl (by rw [hb]; exact hdg) t
  simp only [arrV_size] at h1
  exact h1 st
theorem vx_fastZ {D : va_G} {cl : List vw_C} {ws : va_W} {tys : List (ClassId × FieldType)} {a : Nat} (hexec : p.tables.exec = Jvm.exec) (hb : c.code = cc) (hK : va_K D cl tys s) (hP : va_P D cl ws H) (q0 t0 : Nat) {cA : ClassId} {n : Nat} {f : Nat → UInt32} (ha : ws[q0]? = some (a, .inl (cA, n, .inr (.inr (.inl f))))) (ht : tys[t0]? = some (cA, .float)) {i : Int32} {x : UInt32} (hout : ¬ vp_in i n) (hdg : decode cc pc = .ok (.fastore, 1))
    (k : ∀ tx : String, tx = (toString "Index " ++ toString i ++ toString " out of bounds for length " ++ toString n : String) → vx_Note p l e R s m args below meth c H locs cells slots Q (F0 m pc ls rest) "java/lang/ArrayIndexOutOfBoundsException" tx) : W p l e R s m args below meth c H locs cells slots Q (F0 m pc ls (.float x :: .int i :: .ref a :: rest)) := by
  intro T hT X
  obtain ⟨t, st, q⟩ := k _ rfl T hT X
  refine ⟨t, ?_, q⟩
  have h1 := X.fastoreOut hexec (by rw [hT]; exact hP q0 _ ha) ((hK.2 t0 _ ht).1 n (fun j => .float (f j))) (j := i) (by show (i < 0 ∨ (arrV _ _ _).slots.size ≤ _); rw [arrV_size]; exact Classical.byContradiction hout) (g := F0 m pc ls (.float x :: .int i :: .ref a :: rest)) rfl (rest := rest) rfl (by rw [hb]; exact hdg) t
  simp only [arrV_size] at h1
  exact h1 st
theorem vx_daldZ {D : va_G} {cl : List vw_C} {ws : va_W} {tys : List (ClassId × FieldType)} {a : Nat} (hexec : p.tables.exec = Jvm.exec) (hb : c.code = cc) (hK : va_K D cl tys s) (hP : va_P D cl ws H) (q0 t0 : Nat) {cA : ClassId} {n : Nat} {f : Nat → UInt64} (ha : ws[q0]? = some (a, .inl (cA, n, .inr (.inr (.inr (.inl f)))))) (ht : tys[t0]? = some (cA, .double)) {i : Int32} (hout : ¬ vp_in i n) (hdg : decode cc pc = .ok (.daload, 1))
    (k : ∀ tx : String, tx = (toString "Index " ++ toString i ++ toString " out of bounds for length " ++ toString n : String) → vx_Note p l e R s m args below meth c H locs cells slots Q (F0 m pc ls rest) "java/lang/ArrayIndexOutOfBoundsException" tx) : W p l e R s m args below meth c H locs cells slots Q (F0 m pc ls (.int i :: .ref a :: rest)) := by
  intro T hT X
  obtain ⟨t, st, q⟩ := k _ rfl T hT X
  refine ⟨t, ?_, q⟩
  have h1 := X.daloadOut hexec (by rw [hT]; exact hP q0 _ ha) ((hK.2 t0 _ ht).1 n (fun j => .double (f j))) (j := i) (by show (i < 0 ∨ (arrV _ _ _).slots.size ≤ _); rw [arrV_size]; exact Classical.byContradiction hout) (g := F0 m pc ls (.int i :: .ref a :: rest)) rfl (rest := rest) rfl (by rw [hb]; exact hdg) t
  simp only [arrV_size] at h1
  exact h1 st
theorem vx_dastZ {D : va_G} {cl : List vw_C} {ws : va_W} {tys : List (ClassId × FieldType)} {a : Nat} (hexec : p.tables.exec = Jvm.exec) (hb : c.code = cc) (hK : va_K D cl tys s) (hP : va_P D cl ws H) (q0 t0 : Nat) {cA : ClassId} {n : Nat} {f : Nat → UInt64} (ha : ws[q0]? = some (a, .inl (cA, n, .inr (.inr (.inr (.inl f)))))) (ht : tys[t0]? = some (cA, .double)) {i : Int32} {x : UInt64} (hout : ¬ vp_in i n) (hdg : decode cc pc = .ok (.dastore, 1))
    (k : ∀ tx : String, tx = (toString "Index " ++ toString i ++ toString " out of bounds for length " ++ toString n : String) → vx_Note p l e R s m args below meth c H locs cells slots Q (F0 m pc ls rest) "java/lang/ArrayIndexOutOfBoundsException" tx) : W p l e R s m args below meth c H locs cells slots Q (F0 m pc ls (.double x :: .int i :: .ref a :: rest)) := by
  intro T hT X
  obtain ⟨t, st, q⟩ := k _ rfl T hT X
  refine ⟨t, ?_, q⟩
  have h1 := X.dastoreOut hexec (by rw [hT]; exact hP q0 _ ha) ((hK.2 t0 _ ht).1 n (fun j => .double (f j))) (j := i) (by show (i < 0 ∨ (arrV _ _ _).slots.size ≤ _); rw [arrV_size]; exact Classical.byContradiction hout) (g := F0 m pc ls (.double x :: .int i :: .ref a :: rest)) rfl (rest := rest) rfl (by rw [hb]; exact hdg) t
  simp only [arrV_size] at h1
  exact h1 st
theorem vx_arraylengthN (hexec : p.tables.exec = Jvm.exec) (hb : c.code = cc) (hdg : decode cc pc = .ok (.arraylength, 1)) (k : vx_NoteN p l e R s m args below meth c H locs cells slots Q (F0 m pc ls rest)) : W p l e R s m args below meth c H locs cells slots Q (F0 m pc ls (.null :: rest)) := by
  intro T hT X
  obtain ⟨t, st, q⟩ := k T hT X
  exact ⟨t, X.arraylengthNull hexec (g := F0 m pc ls (.null :: rest)) rfl (rest := rest) rfl (by rw [hb]; exact hdg) t st, q⟩
theorem vx_ialoadN (hexec : p.tables.exec = Jvm.exec) (hb : c.code = cc) {i : Int32} (hdg : decode cc pc = .ok (.iaload, 1)) (k : vx_NoteN p l e R s m args below meth c H locs cells slots Q (F0 m pc ls rest)) : W p l e R s m args below meth c H locs cells slots Q (F0 m pc ls (.int i :: .null :: rest)) := by
  intro T hT X
  obtain ⟨t, st, q⟩ := k T hT X
  exact ⟨t, X.ialoadNull hexec (g := F0 m pc ls (.int i :: .null :: rest)) rfl (rest := rest) rfl (by rw [hb]; exact hdg) t st, q⟩
theorem vx_laloadN (hexec : p.tables.exec = Jvm.exec) (hb : c.code = cc) {i : Int32} (hdg : decode cc pc = .ok (.laload, 1)) (k : vx_NoteN p l e R s m args below meth c H locs cells slots Q (F0 m pc ls rest)) : W p l e R s m args below meth c H locs cells slots Q (F0 m pc ls (.int i :: .null :: rest)) := by
  intro T hT X
  obtain ⟨t, st, q⟩ := k T hT X
  exact ⟨t, X.laloadNull hexec (g := F0 m pc ls (.int i :: .null :: rest)) rfl (rest := rest) rfl (by rw [hb]; exact hdg) t st, q⟩
theorem vx_faloadN (hexec : p.tables.exec = Jvm.exec) (hb : c.code = cc) {i : Int32} (hdg : decode cc pc = .ok (.faload, 1)) (k : vx_NoteN p l e R s m args below meth c H locs cells slots Q (F0 m pc ls rest)) : W p l e R s m args below meth c H locs cells slots Q (F0 m pc ls (.int i :: .null :: rest)) := by
  intro T hT X
  obtain ⟨t, st, q⟩ := k T hT X
  exact ⟨t, X.faloadNull hexec (g := F0 m pc ls (.int i :: .null :: rest)) rfl (rest := rest) rfl (by rw [hb]; exact hdg) t st, q⟩
theorem vx_daloadN (hexec : p.tables.exec = Jvm.exec) (hb : c.code = cc) {i : Int32} (hdg : decode cc pc = .ok (.daload, 1)) (k : vx_NoteN p l e R s m args below meth c H locs cells slots Q (F0 m pc ls rest)) : W p l e R s m args below meth c H locs cells slots Q (F0 m pc ls (.int i :: .null :: rest)) := by
  intro T hT X
  obtain ⟨t, st, q⟩ := k T hT X
  exact ⟨t, X.daloadNull hexec (g := F0 m pc ls (.int i :: .null :: rest)) rfl (rest := rest) rfl (by rw [hb]; exact hdg) t st, q⟩
theorem vx_aaloadN (hexec : p.tables.exec = Jvm.exec) (hb : c.code = cc) {i : Int32} (hdg : decode cc pc = .ok (.aaload, 1)) (k : vx_NoteN p l e R s m args below meth c H locs cells slots Q (F0 m pc ls rest)) : W p l e R s m args below meth c H locs cells slots Q (F0 m pc ls (.int i :: .null :: rest)) := by
  intro T hT X
  obtain ⟨t, st, q⟩ := k T hT X
  exact ⟨t, X.aaloadNull hexec (g := F0 m pc ls (.int i :: .null :: rest)) rfl (rest := rest) rfl (by rw [hb]; exact hdg) t st, q⟩
theorem vx_baloadN (hexec : p.tables.exec = Jvm.exec) (hb : c.code = cc) {i : Int32} (hdg : decode cc pc = .ok (.baload, 1)) (k : vx_NoteN p l e R s m args below meth c H locs cells slots Q (F0 m pc ls rest)) : W p l e R s m args below meth c H locs cells slots Q (F0 m pc ls (.int i :: .null :: rest)) := by
  intro T hT X
  obtain ⟨t, st, q⟩ := k T hT X
  exact ⟨t, X.baloadNull hexec (g := F0 m pc ls (.int i :: .null :: rest)) rfl (rest := rest) rfl (by rw [hb]; exact hdg) t st, q⟩
theorem vx_caloadN (hexec : p.tables.exec = Jvm.exec) (hb : c.code = cc) {i : Int32} (hdg : decode cc pc = .ok (.caload, 1)) (k : vx_NoteN p l e R s m args below meth c H locs cells slots Q (F0 m pc ls rest)) : W p l e R s m args below meth c H locs cells slots Q (F0 m pc ls (.int i :: .null :: rest)) := by
  intro T hT X
  obtain ⟨t, st, q⟩ := k T hT X
  exact ⟨t, X.caloadNull hexec (g := F0 m pc ls (.int i :: .null :: rest)) rfl (rest := rest) rfl (by rw [hb]; exact hdg) t st, q⟩
theorem vx_saloadN (hexec : p.tables.exec = Jvm.exec) (hb : c.code = cc) {i : Int32} (hdg : decode cc pc = .ok (.saload, 1)) (k : vx_NoteN p l e R s m args below meth c H locs cells slots Q (F0 m pc ls rest)) : W p l e R s m args below meth c H locs cells slots Q (F0 m pc ls (.int i :: .null :: rest)) := by
  intro T hT X
  obtain ⟨t, st, q⟩ := k T hT X
  exact ⟨t, X.saloadNull hexec (g := F0 m pc ls (.int i :: .null :: rest)) rfl (rest := rest) rfl (by rw [hb]; exact hdg) t st, q⟩
theorem vx_iastoreN (hexec : p.tables.exec = Jvm.exec) (hb : c.code = cc) {x : Int32} {i : Int32} (hdg : decode cc pc = .ok (.iastore, 1)) (k : vx_NoteN p l e R s m args below meth c H locs cells slots Q (F0 m pc ls rest)) : W p l e R s m args below meth c H locs cells slots Q (F0 m pc ls (.int x :: .int i :: .null :: rest)) := by
  intro T hT X
  obtain ⟨t, st, q⟩ := k T hT X
  exact ⟨t, X.iastoreNull hexec (g := F0 m pc ls (.int x :: .int i :: .null :: rest)) rfl (rest := rest) rfl (by rw [hb]; exact hdg) t st, q⟩
theorem vx_lastoreN (hexec : p.tables.exec = Jvm.exec) (hb : c.code = cc) {x : Int64} {i : Int32} (hdg : decode cc pc = .ok (.lastore, 1)) (k : vx_NoteN p l e R s m args below meth c H locs cells slots Q (F0 m pc ls rest)) : W p l e R s m args below meth c H locs cells slots Q (F0 m pc ls (.long x :: .int i :: .null :: rest)) := by
  intro T hT X
  obtain ⟨t, st, q⟩ := k T hT X
  exact ⟨t, X.lastoreNull hexec (g := F0 m pc ls (.long x :: .int i :: .null :: rest)) rfl (rest := rest) rfl (by rw [hb]; exact hdg) t st, q⟩
theorem vx_fastoreN (hexec : p.tables.exec = Jvm.exec) (hb : c.code = cc) {x : UInt32} {i : Int32} (hdg : decode cc pc = .ok (.fastore, 1)) (k : vx_NoteN p l e R s m args below meth c H locs cells slots Q (F0 m pc ls rest)) : W p l e R s m args below meth c H locs cells slots Q (F0 m pc ls (.float x :: .int i :: .null :: rest)) := by
  intro T hT X
  obtain ⟨t, st, q⟩ := k T hT X
  exact ⟨t, X.fastoreNull hexec (g := F0 m pc ls (.float x :: .int i :: .null :: rest)) rfl (rest := rest) rfl (by rw [hb]; exact hdg) t st, q⟩
theorem vx_dastoreN (hexec : p.tables.exec = Jvm.exec) (hb : c.code = cc) {x : UInt64} {i : Int32} (hdg : decode cc pc = .ok (.dastore, 1)) (k : vx_NoteN p l e R s m args below meth c H locs cells slots Q (F0 m pc ls rest)) : W p l e R s m args below meth c H locs cells slots Q (F0 m pc ls (.double x :: .int i :: .null :: rest)) := by
  intro T hT X
  obtain ⟨t, st, q⟩ := k T hT X
  exact ⟨t, X.dastoreNull hexec (g := F0 m pc ls (.double x :: .int i :: .null :: rest)) rfl (rest := rest) rfl (by rw [hb]; exact hdg) t st, q⟩
theorem vx_bastoreN (hexec : p.tables.exec = Jvm.exec) (hb : c.code = cc) {x : Int32} {i : Int32} (hdg : decode cc pc = .ok (.bastore, 1)) (k : vx_NoteN p l e R s m args below meth c H locs cells slots Q (F0 m pc ls rest)) : W p l e R s m args below meth c H locs cells slots Q (F0 m pc ls (.int x :: .int i :: .null :: rest)) := by
  intro T hT X
  obtain ⟨t, st, q⟩ := k T hT X
  exact ⟨t, X.bastoreNull hexec (g := F0 m pc ls (.int x :: .int i :: .null :: rest)) rfl (rest := rest) rfl (by rw [hb]; exact hdg) t st, q⟩
theorem vx_castoreN (hexec : p.tables.exec = Jvm.exec) (hb : c.code = cc) {x : Int32} {i : Int32} (hdg : decode cc pc = .ok (.castore, 1)) (k : vx_NoteN p l e R s m args below meth c H locs cells slots Q (F0 m pc ls rest)) : W p l e R s m args below meth c H locs cells slots Q (F0 m pc ls (.int x :: .int i :: .null :: rest)) := by
  intro T hT X
  obtain ⟨t, st, q⟩ := k T hT X
  exact ⟨t, X.castoreNull hexec (g := F0 m pc ls (.int x :: .int i :: .null :: rest)) rfl (rest := rest) rfl (by rw [hb]; exact hdg) t st, q⟩
theorem vx_sastoreN (hexec : p.tables.exec = Jvm.exec) (hb : c.code = cc) {x : Int32} {i : Int32} (hdg : decode cc pc = .ok (.sastore, 1)) (k : vx_NoteN p l e R s m args below meth c H locs cells slots Q (F0 m pc ls rest)) : W p l e R s m args below meth c H locs cells slots Q (F0 m pc ls (.int x :: .int i :: .null :: rest)) := by
  intro T hT X
  obtain ⟨t, st, q⟩ := k T hT X
  exact ⟨t, X.sastoreNull hexec (g := F0 m pc ls (.int x :: .int i :: .null :: rest)) rfl (rest := rest) rfl (by rw [hb]; exact hdg) t st, q⟩
theorem vx_invokeN {own C : String} {index maxL : Nat} {y : MethodName} {bytes : ByteArray} {ret : Option FieldType} (hexec : p.tables.exec = Jvm.exec) (hb : c.code = cc) (hown : s.vm.findClass own = some m.cls) (hlink : (Cond.methodLink own index y).before args s = true) (hinst : (Cond.instanceMethod y).before args s = true) (hcode : (Cond.code y bytes maxL ret).before args s = true) (hsel : (Cond.selects C y y).before args s = true)
    (hx : y.cls ≠ "java/lang/invoke/MethodHandle" ∧ y.cls ≠ "java/lang/invoke/VarHandle") {As : List Value} (hlen : (parseMethodDescriptor y.desc).map (fun d => d.parameters.length) = some As.length) (hdg : decode cc pc = .ok (.invokevirtual index, 3))
    (k : vx_NoteN p l e R s m args below meth c H locs cells slots Q (F0 m pc ls rest)) {st0 : List Value} (hst : st0 = As.reverse ++ .null :: rest) : W p l e R s m args below meth c H locs cells slots Q (F0 m pc ls st0) := by
  intro T hT X
  obtain ⟨r0, r, hn, hrm, hstR, hsigR⟩ := va_Decl.of hinst hcode
  obtain ⟨c2, r2, m2, q1, q2, q3, q4, kP, hkP, hkPi⟩ := Cond.selects_spec hsel
  cases hn.symm.trans q3
  have hl9 : As.length = r.sig.parameters.length := by
    rw [hsigR] at hlen
    exact (Option.some.inj hlen).symm
  obtain ⟨vm', X1, st1⟩ := X.invokevirtualNull hexec hown hlink hn hrm hstR hkP hkPi hx (g := F0 m pc ls st0) rfl (argsL := As) (rest := rest) hl9 hst (by rw [hb]; exact hdg)
  obtain ⟨t, st, q⟩ := k (T.setVm vm') hT X1
  exact ⟨t, st1 t st, q⟩
theorem vx_newarrayZ {atype : ArrayType} (hexec : p.tables.exec = Jvm.exec) (hb : c.code = cc) {n : Int32} (h0 : n < 0) (hdg : decode cc pc = .ok (.newarray atype, 2)) (k : ∀ tx : String, tx = toString n → vx_Note p l e R s m args below meth c H locs cells slots Q (F0 m pc ls rest) "java/lang/NegativeArraySizeException" tx) : W p l e R s m args below meth c H locs cells slots Q (F0 m pc ls (.int n :: rest)) := by
  intro T hT X
  obtain ⟨t, st, q⟩ := k _ rfl T hT X
  exact ⟨t, X.newarrayNegative hexec (g := F0 m pc ls (.int n :: rest)) rfl h0 (rest := rest) rfl (by rw [hb]; exact hdg) t st, q⟩
end
end VXM
/-! ===== END ===== -/

/-! ===== BEGIN printed: names, fields, word lists, decode rows ===== -/
def RX0 : String := "EventloopRow$Instruction"
def TX0 : u_T := fun k => match k with
  | _ => ("", "", "", false)
def tyX0 : Nat → FieldType := fun k => match k with
  | _ => .int
abbrev wsX00 : List Cond := u_ws RX0 TX0 0
theorem nmX0 : ∀ a, a < 0 → ∀ b, b < 0 → a ≠ b → (TX0 a).2.1 ≠ (TX0 b).2.1 := by decide +kernel
theorem tyX0_ok : ∀ k, k < 0 → parseFieldDescriptor (TX0 k).2.2.1 = some (tyX0 k) := by decide +kernel
def RX1 : String := "EventloopRow$Job"
def TX1 : u_T := fun k => match k with
  | _ => ("", "", "", false)
def tyX1 : Nat → FieldType := fun k => match k with
  | _ => .int
abbrev wsX10 : List Cond := u_ws RX1 TX1 0
theorem nmX1 : ∀ a, a < 0 → ∀ b, b < 0 → a ≠ b → (TX1 a).2.1 ≠ (TX1 b).2.1 := by decide +kernel
theorem tyX1_ok : ∀ k, k < 0 → parseFieldDescriptor (TX1 k).2.2.1 = some (tyX1 k) := by decide +kernel
def RX2 : String := "EventloopRow$JobRow"
def TX2 : u_T := fun k => match k with
  | 0 => ("EventloopRow$JobRow", "first", "LEventloopRow$Job;", false)
  | 1 => ("EventloopRow$JobRow", "last", "LEventloopRow$Job;", false)
  | _ => ("EventloopRow$JobRow", "free", "LEventloopRow$Job;", false)
def tyX2 : Nat → FieldType := fun k => match k with
  | 0 => .object "EventloopRow$Job"
  | 1 => .object "EventloopRow$Job"
  | _ => .object "EventloopRow$Job"
abbrev wsX20 : List Cond := u_ws RX2 TX2 3
theorem nmX2 : ∀ a, a < 3 → ∀ b, b < 3 → a ≠ b → (TX2 a).2.1 ≠ (TX2 b).2.1 := by decide +kernel
theorem tyX2_ok : ∀ k, k < 3 → parseFieldDescriptor (TX2 k).2.2.1 = some (tyX2 k) := by decide +kernel
abbrev cX2_init : ByteArray := prog_4_method_1_code
def yX2_init : MethodName := ⟨RX2, "<init>", "()V"⟩
abbrev cX2_hasJob : ByteArray := prog_4_method_3_code
def yX2_hasJob : MethodName := ⟨RX2, "hasJob", "()Z"⟩
def RX3 : String := "EventloopRow$Loop"
def TX3 : u_T := fun k => match k with
  | 0 => ("EventloopRow$Loop", "things", "LEventloopRow$Things;", true)
  | 1 => ("EventloopRow$Loop", "jobRow", "LEventloopRow$JobRow;", true)
  | 2 => ("EventloopRow$Loop", "promiseRow", "LEventloopRow$PromiseRow;", true)
  | 3 => ("EventloopRow$Loop", "timerHeap", "LEventloopRow$TimerHeap;", true)
  | 4 => ("EventloopRow$Loop", "program", "[LEventloopRow$Instruction;", true)
  | 5 => ("EventloopRow$Loop", "lengths", "[I", true)
  | 6 => ("EventloopRow$Loop", "functionCount", "I", false)
  | 7 => ("EventloopRow$Loop", "tasks", "[I", true)
  | 8 => ("EventloopRow$Loop", "tasksAdded", "I", false)
  | 9 => ("EventloopRow$Loop", "tasksTaken", "I", false)
  | 10 => ("EventloopRow$Loop", "now", "I", false)
  | 11 => ("EventloopRow$Loop", "turnCount", "I", false)
  | 12 => ("EventloopRow$Loop", "jobsRun", "I", false)
  | 13 => ("EventloopRow$Loop", "spent", "I", false)
  | 14 => ("EventloopRow$Loop", "spentInAll", "J", false)
  | 15 => ("EventloopRow$Loop", "traceRow", "[I", true)
  | 16 => ("EventloopRow$Loop", "traceCount", "J", false)
  | 17 => ("EventloopRow$Loop", "current", "LEventloopRow$Run;", false)
  | _ => ("EventloopRow$Loop", "freeRun", "LEventloopRow$Run;", false)
def tyX3 : Nat → FieldType := fun k => match k with
  | 0 => .object "EventloopRow$Things"
  | 1 => .object "EventloopRow$JobRow"
  | 2 => .object "EventloopRow$PromiseRow"
  | 3 => .object "EventloopRow$TimerHeap"
  | 4 => .array (.object "EventloopRow$Instruction")
  | 5 => .array .int
  | 6 => .int
  | 7 => .array .int
  | 8 => .int
  | 9 => .int
  | 10 => .int
  | 11 => .int
  | 12 => .int
  | 13 => .int
  | 14 => .long
  | 15 => .array .int
  | 16 => .long
  | 17 => .object "EventloopRow$Run"
  | _ => .object "EventloopRow$Run"
abbrev wsX30 : List Cond := u_ws RX3 TX3 19
theorem nmX3 : ∀ a, a < 19 → ∀ b, b < 19 → a ≠ b → (TX3 a).2.1 ≠ (TX3 b).2.1 := by decide +kernel
theorem tyX3_ok : ∀ k, k < 19 → parseFieldDescriptor (TX3 k).2.2.1 = some (tyX3 k) := by decide +kernel
abbrev cX3_init : ByteArray := prog_5_method_1_code
def yX3_init : MethodName := ⟨RX3, "<init>", "(LEventloopRow$Things;LEventloopRow$JobRow;LEventloopRow$PromiseRow;)V"⟩
def RX4 : String := "EventloopRow$Promise"
def TX4 : u_T := fun k => match k with
  | _ => ("", "", "", false)
def tyX4 : Nat → FieldType := fun k => match k with
  | _ => .int
abbrev wsX40 : List Cond := u_ws RX4 TX4 0
theorem nmX4 : ∀ a, a < 0 → ∀ b, b < 0 → a ≠ b → (TX4 a).2.1 ≠ (TX4 b).2.1 := by decide +kernel
theorem tyX4_ok : ∀ k, k < 0 → parseFieldDescriptor (TX4 k).2.2.1 = some (tyX4 k) := by decide +kernel
def RX5 : String := "EventloopRow$PromiseRow"
def TX5 : u_T := fun k => match k with
  | 0 => ("EventloopRow$PromiseRow", "row", "[LEventloopRow$Promise;", true)
  | 1 => ("EventloopRow$PromiseRow", "count", "I", false)
  | 2 => ("EventloopRow$PromiseRow", "rejections", "[I", true)
  | 3 => ("EventloopRow$PromiseRow", "rejectionCount", "I", false)
  | 4 => ("EventloopRow$PromiseRow", "lookedAt", "I", false)
  | 5 => ("EventloopRow$PromiseRow", "unhandledCount", "I", false)
  | 6 => ("EventloopRow$PromiseRow", "lateCount", "I", false)
  | _ => ("EventloopRow$PromiseRow", "jobRow", "LEventloopRow$JobRow;", true)
def tyX5 : Nat → FieldType := fun k => match k with
  | 0 => .array (.object "EventloopRow$Promise")
  | 1 => .int
  | 2 => .array .int
  | 3 => .int
  | 4 => .int
  | 5 => .int
  | 6 => .int
  | _ => .object "EventloopRow$JobRow"
abbrev wsX50 : List Cond := u_ws RX5 TX5 8
theorem nmX5 : ∀ a, a < 8 → ∀ b, b < 8 → a ≠ b → (TX5 a).2.1 ≠ (TX5 b).2.1 := by decide +kernel
theorem tyX5_ok : ∀ k, k < 8 → parseFieldDescriptor (TX5 k).2.2.1 = some (tyX5 k) := by decide +kernel
abbrev cX5_init : ByteArray := prog_7_method_1_code
def yX5_init : MethodName := ⟨RX5, "<init>", "(LEventloopRow$JobRow;)V"⟩
abbrev cX5_find : ByteArray := prog_7_method_2_code
def yX5_find : MethodName := ⟨RX5, "find", "(I)LEventloopRow$Promise;"⟩
abbrev cX5_isSettledClean : ByteArray := prog_7_method_11_code
def yX5_isSettledClean : MethodName := ⟨RX5, "isSettledClean", "()Z"⟩
def RX6 : String := "EventloopRow$Run"
def TX6 : u_T := fun k => match k with
  | _ => ("", "", "", false)
def tyX6 : Nat → FieldType := fun k => match k with
  | _ => .int
abbrev wsX60 : List Cond := u_ws RX6 TX6 0
theorem nmX6 : ∀ a, a < 0 → ∀ b, b < 0 → a ≠ b → (TX6 a).2.1 ≠ (TX6 b).2.1 := by decide +kernel
theorem tyX6_ok : ∀ k, k < 0 → parseFieldDescriptor (TX6 k).2.2.1 = some (tyX6 k) := by decide +kernel
def RX7 : String := "EventloopRow$Thing"
def TX7 : u_T := fun k => match k with
  | 0 => ("EventloopRow$Thing", "target", "LEventloopRow$Thing;", true)
  | 1 => ("EventloopRow$Thing", "answers", "[I", true)
  | 2 => ("EventloopRow$Thing", "revoked", "Z", false)
  | 3 => ("EventloopRow$Thing", "chain", "LEventloopRow$Thing;", false)
  | 4 => ("EventloopRow$Thing", "closed", "Z", false)
  | 5 => ("EventloopRow$Thing", "values", "[I", true)
  | 6 => ("EventloopRow$Thing", "rightsRow", "[I", true)
  | 7 => ("EventloopRow$Thing", "keyRow", "[I", true)
  | _ => ("EventloopRow$Thing", "keyCount", "I", false)
def tyX7 : Nat → FieldType := fun k => match k with
  | 0 => .object "EventloopRow$Thing"
  | 1 => .array .int
  | 2 => .boolean
  | 3 => .object "EventloopRow$Thing"
  | 4 => .boolean
  | 5 => .array .int
  | 6 => .array .int
  | 7 => .array .int
  | _ => .int
abbrev wsX70 : List Cond := u_ws RX7 TX7 9
theorem nmX7 : ∀ a, a < 9 → ∀ b, b < 9 → a ≠ b → (TX7 a).2.1 ≠ (TX7 b).2.1 := by decide +kernel
theorem tyX7_ok : ∀ k, k < 9 → parseFieldDescriptor (TX7 k).2.2.1 = some (tyX7 k) := by decide +kernel
abbrev cX7_init : ByteArray := prog_9_method_1_code
def yX7_init : MethodName := ⟨RX7, "<init>", "(LEventloopRow$Thing;LEventloopRow$Thing;)V"⟩
abbrev cX7_isProxy : ByteArray := prog_9_method_2_code
def yX7_isProxy : MethodName := ⟨RX7, "isProxy", "()Z"⟩
abbrev cX7_answerTo : ByteArray := prog_9_method_3_code
def yX7_answerTo : MethodName := ⟨RX7, "answerTo", "(I)I"⟩
abbrev cX7_isTold : ByteArray := prog_9_method_4_code
def yX7_isTold : MethodName := ⟨RX7, "isTold", "(I)Z"⟩
abbrev cX7_keepAnswer : ByteArray := prog_9_method_5_code
def yX7_keepAnswer : MethodName := ⟨RX7, "keepAnswer", "(II)V"⟩
abbrev cX7_rightsOf : ByteArray := prog_9_method_6_code
def yX7_rightsOf : MethodName := ⟨RX7, "rightsOf", "(I)I"⟩
abbrev cX7_valueOf : ByteArray := prog_9_method_7_code
def yX7_valueOf : MethodName := ⟨RX7, "valueOf", "(I)I"⟩
abbrev cX7_holds : ByteArray := prog_9_method_8_code
def yX7_holds : MethodName := ⟨RX7, "holds", "(I)Z"⟩
abbrev cX7_canBe : ByteArray := prog_9_method_9_code
def yX7_canBe : MethodName := ⟨RX7, "canBe", "(II)Z"⟩
abbrev cX7_keepsOther : ByteArray := prog_9_method_10_code
def yX7_keepsOther : MethodName := ⟨RX7, "keepsOther", "(II)Z"⟩
abbrev cX7_keepsKey : ByteArray := prog_9_method_11_code
def yX7_keepsKey : MethodName := ⟨RX7, "keepsKey", "(I)Z"⟩
abbrev cX7_putIn : ByteArray := prog_9_method_12_code
def yX7_putIn : MethodName := ⟨RX7, "putIn", "(III)C"⟩
abbrev cX7_isAllowed : ByteArray := prog_9_method_13_code
def yX7_isAllowed : MethodName := ⟨RX7, "isAllowed", "(IIZ)Z"⟩
abbrev cX7_listKey : ByteArray := prog_9_method_14_code
def yX7_listKey : MethodName := ⟨RX7, "listKey", "(I)V"⟩
abbrev cX7_listedAt : ByteArray := prog_9_method_15_code
def yX7_listedAt : MethodName := ⟨RX7, "listedAt", "(I)I"⟩
abbrev cX7_takeOut : ByteArray := prog_9_method_16_code
def yX7_takeOut : MethodName := ⟨RX7, "takeOut", "(I)C"⟩
abbrev cX7_isListed : ByteArray := prog_9_method_17_code
def yX7_isListed : MethodName := ⟨RX7, "isListed", "()Z"⟩
abbrev cX7_isInOrder : ByteArray := prog_9_method_18_code
def yX7_isInOrder : MethodName := ⟨RX7, "isInOrder", "(II)Z"⟩
def RX8 : String := "EventloopRow$Things"
def TX8 : u_T := fun k => match k with
  | 0 => ("EventloopRow$Things", "row", "[LEventloopRow$Thing;", true)
  | _ => ("EventloopRow$Things", "count", "I", false)
def tyX8 : Nat → FieldType := fun k => match k with
  | 0 => .array (.object "EventloopRow$Thing")
  | _ => .int
abbrev wsX80 : List Cond := u_ws RX8 TX8 2
theorem nmX8 : ∀ a, a < 2 → ∀ b, b < 2 → a ≠ b → (TX8 a).2.1 ≠ (TX8 b).2.1 := by decide +kernel
theorem tyX8_ok : ∀ k, k < 2 → parseFieldDescriptor (TX8 k).2.2.1 = some (tyX8 k) := by decide +kernel
abbrev cX8_init : ByteArray := prog_10_method_1_code
def yX8_init : MethodName := ⟨RX8, "<init>", "()V"⟩
abbrev cX8_find : ByteArray := prog_10_method_2_code
def yX8_find : MethodName := ⟨RX8, "find", "(I)LEventloopRow$Thing;"⟩
abbrev cX8_isFull : ByteArray := prog_10_method_3_code
def yX8_isFull : MethodName := ⟨RX8, "isFull", "()Z"⟩
abbrev cX8_append : ByteArray := prog_10_method_4_code
def yX8_append : MethodName := ⟨RX8, "append", "(LEventloopRow$Thing;)I"⟩
abbrev cX8_plainBehind : ByteArray := prog_10_method_5_code
def yX8_plainBehind : MethodName := ⟨RX8, "plainBehind", "(LEventloopRow$Thing;)LEventloopRow$Thing;"⟩
abbrev cX8_getFrom : ByteArray := prog_10_method_6_code
def yX8_getFrom : MethodName := ⟨RX8, "getFrom", "(LEventloopRow$Thing;I)J"⟩
abbrev cX8_askFrom : ByteArray := prog_10_method_7_code
def yX8_askFrom : MethodName := ⟨RX8, "askFrom", "(LEventloopRow$Thing;I)C"⟩
abbrev cX8_setFrom : ByteArray := prog_10_method_8_code
def yX8_setFrom : MethodName := ⟨RX8, "setFrom", "(LEventloopRow$Thing;II)C"⟩
abbrev cX8_receive : ByteArray := prog_10_method_9_code
def yX8_receive : MethodName := ⟨RX8, "receive", "(LEventloopRow$Thing;II)C"⟩
abbrev cX8_deleteFrom : ByteArray := prog_10_method_10_code
def yX8_deleteFrom : MethodName := ⟨RX8, "deleteFrom", "(LEventloopRow$Thing;I)C"⟩
abbrev cX8_chainTo : ByteArray := prog_10_method_11_code
def yX8_chainTo : MethodName := ⟨RX8, "chainTo", "(LEventloopRow$Thing;LEventloopRow$Thing;)C"⟩
abbrev cX8_yesOrNo : ByteArray := prog_10_method_12_code
def yX8_yesOrNo : MethodName := ⟨RX8, "yesOrNo", "(Z)C"⟩
abbrev cX8_areListed : ByteArray := prog_10_method_13_code
def yX8_areListed : MethodName := ⟨RX8, "areListed", "()Z"⟩
def RX9 : String := "EventloopRow$TimerBlock"
def TX9 : u_T := fun k => match k with
  | _ => ("", "", "", false)
def tyX9 : Nat → FieldType := fun k => match k with
  | _ => .int
abbrev wsX90 : List Cond := u_ws RX9 TX9 0
theorem nmX9 : ∀ a, a < 0 → ∀ b, b < 0 → a ≠ b → (TX9 a).2.1 ≠ (TX9 b).2.1 := by decide +kernel
theorem tyX9_ok : ∀ k, k < 0 → parseFieldDescriptor (TX9 k).2.2.1 = some (tyX9 k) := by decide +kernel
def RX10 : String := "EventloopRow$TimerHeap"
def TX10 : u_T := fun k => match k with
  | 0 => ("EventloopRow$TimerHeap", "blocks", "[LEventloopRow$TimerBlock;", false)
  | 1 => ("EventloopRow$TimerHeap", "count", "I", false)
  | _ => ("EventloopRow$TimerHeap", "serial", "I", false)
def tyX10 : Nat → FieldType := fun k => match k with
  | 0 => .array (.object "EventloopRow$TimerBlock")
  | 1 => .int
  | _ => .int
abbrev wsX100 : List Cond := u_ws RX10 TX10 3
theorem nmX10 : ∀ a, a < 3 → ∀ b, b < 3 → a ≠ b → (TX10 a).2.1 ≠ (TX10 b).2.1 := by decide +kernel
theorem tyX10_ok : ∀ k, k < 3 → parseFieldDescriptor (TX10 k).2.2.1 = some (tyX10 k) := by decide +kernel
abbrev cX10_init : ByteArray := prog_12_method_1_code
def yX10_init : MethodName := ⟨RX10, "<init>", "()V"⟩
def RX11 : String := "EventloopRow"
def TX11 : u_T := fun k => match k with
  | 0 => ("EventloopRow", "things", "LEventloopRow$Things;", true)
  | 1 => ("EventloopRow", "jobRow", "LEventloopRow$JobRow;", true)
  | 2 => ("EventloopRow", "promiseRow", "LEventloopRow$PromiseRow;", true)
  | _ => ("EventloopRow", "loop", "LEventloopRow$Loop;", true)
def tyX11 : Nat → FieldType := fun k => match k with
  | 0 => .object "EventloopRow$Things"
  | 1 => .object "EventloopRow$JobRow"
  | 2 => .object "EventloopRow$PromiseRow"
  | _ => .object "EventloopRow$Loop"
abbrev wsX110 : List Cond := u_ws RX11 TX11 4
theorem nmX11 : ∀ a, a < 4 → ∀ b, b < 4 → a ≠ b → (TX11 a).2.1 ≠ (TX11 b).2.1 := by decide +kernel
theorem tyX11_ok : ∀ k, k < 4 → parseFieldDescriptor (TX11 k).2.2.1 = some (tyX11 k) := by decide +kernel
abbrev cX11_init : ByteArray := prog_1_method_1_code
def yX11_init : MethodName := ⟨RX11, "<init>", "()V"⟩
abbrev cX11_addObject : ByteArray := prog_1_method_2_code
def yX11_addObject : MethodName := ⟨RX11, "addObject", "(I)I"⟩
abbrev cX11_addProxy : ByteArray := prog_1_method_3_code
def yX11_addProxy : MethodName := ⟨RX11, "addProxy", "(I)I"⟩
abbrev cX11_tell : ByteArray := prog_1_method_4_code
def yX11_tell : MethodName := ⟨RX11, "tell", "(ICI)Z"⟩
abbrev cX11_revoke : ByteArray := prog_1_method_5_code
def yX11_revoke : MethodName := ⟨RX11, "revoke", "(I)Z"⟩
abbrev cX11_define : ByteArray := prog_1_method_6_code
def yX11_define : MethodName := ⟨RX11, "define", "(IIII)C"⟩
abbrev cX11_set : ByteArray := prog_1_method_7_code
def yX11_set : MethodName := ⟨RX11, "set", "(III)C"⟩
abbrev cX11_get : ByteArray := prog_1_method_8_code
def yX11_get : MethodName := ⟨RX11, "get", "(II)I"⟩
abbrev cX11_has : ByteArray := prog_1_method_9_code
def yX11_has : MethodName := ⟨RX11, "has", "(II)C"⟩
abbrev cX11_delete : ByteArray := prog_1_method_10_code
def yX11_delete : MethodName := ⟨RX11, "delete", "(II)C"⟩
abbrev cX11_closeObject : ByteArray := prog_1_method_11_code
def yX11_closeObject : MethodName := ⟨RX11, "closeObject", "(I)C"⟩
abbrev cX11_setChain : ByteArray := prog_1_method_12_code
def yX11_setChain : MethodName := ⟨RX11, "setChain", "(II)C"⟩
abbrev cX11_keys : ByteArray := prog_1_method_13_code
def yX11_keys : MethodName := ⟨RX11, "keys", "(I)I"⟩
abbrev cX11_keyAt : ByteArray := prog_1_method_14_code
def yX11_keyAt : MethodName := ⟨RX11, "keyAt", "(II)I"⟩
abbrev cX11_rights : ByteArray := prog_1_method_15_code
def yX11_rights : MethodName := ⟨RX11, "rights", "(II)I"⟩
abbrev cX11_isSound : ByteArray := prog_1_method_32_code
def yX11_isSound : MethodName := ⟨RX11, "isSound", "()Z"⟩
abbrev cX11_isKey : ByteArray := prog_1_method_33_code
def yX11_isKey : MethodName := ⟨RX11, "isKey", "(I)Z"⟩
abbrev cX11_isValue : ByteArray := prog_1_method_34_code
def yX11_isValue : MethodName := ⟨RX11, "isValue", "(I)Z"⟩
abbrev cX11_kindOf : ByteArray := prog_1_method_39_code
def yX11_kindOf : MethodName := ⟨RX11, "kindOf", "(C)I"⟩
abbrev cX11_isAnswer : ByteArray := prog_1_method_40_code
def yX11_isAnswer : MethodName := ⟨RX11, "isAnswer", "(II)Z"⟩
def RX12 : String := "EventloopRowModel$All"
def TX12 : u_T := fun k => match k with
  | _ => ("", "", "", false)
def tyX12 : Nat → FieldType := fun k => match k with
  | _ => .int
abbrev wsX120 : List Cond := u_ws RX12 TX12 0
theorem nmX12 : ∀ a, a < 0 → ∀ b, b < 0 → a ≠ b → (TX12 a).2.1 ≠ (TX12 b).2.1 := by decide +kernel
theorem tyX12_ok : ∀ k, k < 0 → parseFieldDescriptor (TX12 k).2.2.1 = some (tyX12 k) := by decide +kernel
def RX13 : String := "EventloopRowModel$Job"
def TX13 : u_T := fun k => match k with
  | _ => ("", "", "", false)
def tyX13 : Nat → FieldType := fun k => match k with
  | _ => .int
abbrev wsX130 : List Cond := u_ws RX13 TX13 0
theorem nmX13 : ∀ a, a < 0 → ∀ b, b < 0 → a ≠ b → (TX13 a).2.1 ≠ (TX13 b).2.1 := by decide +kernel
theorem tyX13_ok : ∀ k, k < 0 → parseFieldDescriptor (TX13 k).2.2.1 = some (tyX13 k) := by decide +kernel
def RX14 : String := "EventloopRowModel$Promise"
def TX14 : u_T := fun k => match k with
  | _ => ("", "", "", false)
def tyX14 : Nat → FieldType := fun k => match k with
  | _ => .int
abbrev wsX140 : List Cond := u_ws RX14 TX14 0
theorem nmX14 : ∀ a, a < 0 → ∀ b, b < 0 → a ≠ b → (TX14 a).2.1 ≠ (TX14 b).2.1 := by decide +kernel
theorem tyX14_ok : ∀ k, k < 0 → parseFieldDescriptor (TX14 k).2.2.1 = some (tyX14 k) := by decide +kernel
def RX15 : String := "EventloopRowModel$Reaction"
def TX15 : u_T := fun k => match k with
  | _ => ("", "", "", false)
def tyX15 : Nat → FieldType := fun k => match k with
  | _ => .int
abbrev wsX150 : List Cond := u_ws RX15 TX15 0
theorem nmX15 : ∀ a, a < 0 → ∀ b, b < 0 → a ≠ b → (TX15 a).2.1 ≠ (TX15 b).2.1 := by decide +kernel
theorem tyX15_ok : ∀ k, k < 0 → parseFieldDescriptor (TX15 k).2.2.1 = some (tyX15 k) := by decide +kernel
def RX16 : String := "EventloopRowModel$Run"
def TX16 : u_T := fun k => match k with
  | _ => ("", "", "", false)
def tyX16 : Nat → FieldType := fun k => match k with
  | _ => .int
abbrev wsX160 : List Cond := u_ws RX16 TX16 0
theorem nmX16 : ∀ a, a < 0 → ∀ b, b < 0 → a ≠ b → (TX16 a).2.1 ≠ (TX16 b).2.1 := by decide +kernel
theorem tyX16_ok : ∀ k, k < 0 → parseFieldDescriptor (TX16 k).2.2.1 = some (tyX16 k) := by decide +kernel
def RX17 : String := "EventloopRowModel$Timer"
def TX17 : u_T := fun k => match k with
  | _ => ("", "", "", false)
def tyX17 : Nat → FieldType := fun k => match k with
  | _ => .int
abbrev wsX170 : List Cond := u_ws RX17 TX17 0
theorem nmX17 : ∀ a, a < 0 → ∀ b, b < 0 → a ≠ b → (TX17 a).2.1 ≠ (TX17 b).2.1 := by decide +kernel
theorem tyX17_ok : ∀ k, k < 0 → parseFieldDescriptor (TX17 k).2.2.1 = some (tyX17 k) := by decide +kernel
def RX18 : String := "EventloopRowModel"
def TX18 : u_T := fun k => match k with
  | _ => ("", "", "", false)
def tyX18 : Nat → FieldType := fun k => match k with
  | _ => .int
abbrev wsX180 : List Cond := u_ws RX18 TX18 0
theorem nmX18 : ∀ a, a < 0 → ∀ b, b < 0 → a ≠ b → (TX18 a).2.1 ≠ (TX18 b).2.1 := by decide +kernel
theorem tyX18_ok : ∀ k, k < 0 → parseFieldDescriptor (TX18 k).2.2.1 = some (tyX18 k) := by decide +kernel
def RJx145de : String := "java/io/Serializable"
def TJx145de : u_T := fun k => match k with
  | _ => ("", "", "", false)
def tyJx145de : Nat → FieldType := fun k => match k with
  | _ => .int
abbrev wsJx145de0 : List Cond := u_ws RJx145de TJx145de 0
theorem nmJx145de : ∀ a, a < 0 → ∀ b, b < 0 → a ≠ b → (TJx145de a).2.1 ≠ (TJx145de b).2.1 := by decide +kernel
theorem tyJx145de_ok : ∀ k, k < 0 → parseFieldDescriptor (TJx145de k).2.2.1 = some (tyJx145de k) := by decide +kernel
def RJx00060 : String := "java/lang/ArrayIndexOutOfBoundsException"
def TJx00060 : u_T := fun k => match k with
  | 0 => ("java/lang/Throwable", "backtrace", "Ljava/lang/Object;", false)
  | 1 => ("java/lang/Throwable", "detailMessage", "Ljava/lang/String;", false)
  | 2 => ("java/lang/Throwable", "cause", "Ljava/lang/Throwable;", false)
  | 3 => ("java/lang/Throwable", "stackTrace", "[Ljava/lang/StackTraceElement;", false)
  | 4 => ("java/lang/Throwable", "depth", "I", false)
  | _ => ("java/lang/Throwable", "suppressedExceptions", "Ljava/util/List;", false)
def tyJx00060 : Nat → FieldType := fun k => match k with
  | 0 => .object "java/lang/Object"
  | 1 => .object "java/lang/String"
  | 2 => .object "java/lang/Throwable"
  | 3 => .array (.object "java/lang/StackTraceElement")
  | 4 => .int
  | _ => .object "java/util/List"
abbrev wsJx000600 : List Cond := u_ws RJx00060 TJx00060 6
theorem nmJx00060 : ∀ a, a < 6 → ∀ b, b < 6 → a ≠ b → (TJx00060 a).2.1 ≠ (TJx00060 b).2.1 := by decide +kernel
theorem tyJx00060_ok : ∀ k, k < 6 → parseFieldDescriptor (TJx00060 k).2.2.1 = some (tyJx00060 k) := by decide +kernel
abbrev cJx00060_init_a7421 : ByteArray := prog_22_method_2_code
def yJx00060_init_a7421 : MethodName := ⟨RJx00060, "<init>", "(Ljava/lang/String;)V"⟩
def RJx9f9b0 : String := "java/lang/CharSequence"
def TJx9f9b0 : u_T := fun k => match k with
  | _ => ("", "", "", false)
def tyJx9f9b0 : Nat → FieldType := fun k => match k with
  | _ => .int
abbrev wsJx9f9b00 : List Cond := u_ws RJx9f9b0 TJx9f9b0 0
theorem nmJx9f9b0 : ∀ a, a < 0 → ∀ b, b < 0 → a ≠ b → (TJx9f9b0 a).2.1 ≠ (TJx9f9b0 b).2.1 := by decide +kernel
theorem tyJx9f9b0_ok : ∀ k, k < 0 → parseFieldDescriptor (TJx9f9b0 k).2.2.1 = some (tyJx9f9b0 k) := by decide +kernel
def RJxb160c : String := "java/lang/Comparable"
def TJxb160c : u_T := fun k => match k with
  | _ => ("", "", "", false)
def tyJxb160c : Nat → FieldType := fun k => match k with
  | _ => .int
abbrev wsJxb160c0 : List Cond := u_ws RJxb160c TJxb160c 0
theorem nmJxb160c : ∀ a, a < 0 → ∀ b, b < 0 → a ≠ b → (TJxb160c a).2.1 ≠ (TJxb160c b).2.1 := by decide +kernel
theorem tyJxb160c_ok : ∀ k, k < 0 → parseFieldDescriptor (TJxb160c k).2.2.1 = some (tyJxb160c k) := by decide +kernel
def RJ0 : String := "java/lang/String"
def TJ0 : u_T := fun k => match k with
  | 0 => ("java/lang/String", "value", "[B", true)
  | _ => ("java/lang/String", "coder", "B", true)
def tyJ0 : Nat → FieldType := fun k => match k with
  | 0 => .array .byte
  | _ => .byte
abbrev wsJ00 : List Cond := u_ws RJ0 TJ0 2
theorem nmJ0 : ∀ a, a < 2 → ∀ b, b < 2 → a ≠ b → (TJ0 a).2.1 ≠ (TJ0 b).2.1 := by decide +kernel
theorem tyJ0_ok : ∀ k, k < 2 → parseFieldDescriptor (TJ0 k).2.2.1 = some (tyJ0 k) := by decide +kernel
abbrev cJ0_charAt_5068e : ByteArray := prog_30_method_56_code
def yJ0_charAt_5068e : MethodName := ⟨RJ0, "charAt", "(I)C"⟩
abbrev cJ0_isLatin1_aae02 : ByteArray := prog_30_method_154_code
def yJ0_isLatin1_aae02 : MethodName := ⟨RJ0, "isLatin1", "()Z"⟩
abbrev cJ0_checkIndex_df160 : ByteArray := prog_30_method_155_code
def yJ0_checkIndex_df160 : MethodName := ⟨RJ0, "checkIndex", "(II)V"⟩
def RJ1 : String := "java/lang/StringLatin1"
def TJ1 : u_T := fun k => match k with
  | _ => ("", "", "", false)
def tyJ1 : Nat → FieldType := fun k => match k with
  | _ => .int
abbrev wsJ10 : List Cond := u_ws RJ1 TJ1 0
theorem nmJ1 : ∀ a, a < 0 → ∀ b, b < 0 → a ≠ b → (TJ1 a).2.1 ≠ (TJ1 b).2.1 := by decide +kernel
theorem tyJ1_ok : ∀ k, k < 0 → parseFieldDescriptor (TJ1 k).2.2.1 = some (tyJ1 k) := by decide +kernel
abbrev cJ1_charAt_3b067 : ByteArray := prog_31_method_2_code
def yJ1_charAt_3b067 : MethodName := ⟨RJ1, "charAt", "([BI)C"⟩
def RJ2 : String := "java/lang/StringUTF16"
def TJ2 : u_T := fun k => match k with
  | _ => ("", "", "", false)
def tyJ2 : Nat → FieldType := fun k => match k with
  | _ => .int
abbrev wsJ20 : List Cond := u_ws RJ2 TJ2 0
theorem nmJ2 : ∀ a, a < 0 → ∀ b, b < 0 → a ≠ b → (TJ2 a).2.1 ≠ (TJ2 b).2.1 := by decide +kernel
theorem tyJ2_ok : ∀ k, k < 0 → parseFieldDescriptor (TJ2 k).2.2.1 = some (tyJ2 k) := by decide +kernel
abbrev cJ2_getChar_3b067 : ByteArray := prog_32_method_5_code
def yJ2_getChar_3b067 : MethodName := ⟨RJ2, "getChar", "([BI)C"⟩
abbrev cJ2_length_9d52b : ByteArray := prog_32_method_6_code
def yJ2_length_9d52b : MethodName := ⟨RJ2, "length", "([B)I"⟩
abbrev cJ2_charAt_3b067 : ByteArray := prog_32_method_83_code
def yJ2_charAt_3b067 : MethodName := ⟨RJ2, "charAt", "([BI)C"⟩
abbrev cJ2_checkIndex_2214a : ByteArray := prog_32_method_91_code
def yJ2_checkIndex_2214a : MethodName := ⟨RJ2, "checkIndex", "(I[B)V"⟩
def RJxfd54e : String := "java/lang/constant/Constable"
def TJxfd54e : u_T := fun k => match k with
  | _ => ("", "", "", false)
def tyJxfd54e : Nat → FieldType := fun k => match k with
  | _ => .int
abbrev wsJxfd54e0 : List Cond := u_ws RJxfd54e TJxfd54e 0
theorem nmJxfd54e : ∀ a, a < 0 → ∀ b, b < 0 → a ≠ b → (TJxfd54e a).2.1 ≠ (TJxfd54e b).2.1 := by decide +kernel
theorem tyJxfd54e_ok : ∀ k, k < 0 → parseFieldDescriptor (TJxfd54e k).2.2.1 = some (tyJxfd54e k) := by decide +kernel
def RJx3cf43 : String := "java/lang/constant/ConstantDesc"
def TJx3cf43 : u_T := fun k => match k with
  | _ => ("", "", "", false)
def tyJx3cf43 : Nat → FieldType := fun k => match k with
  | _ => .int
abbrev wsJx3cf430 : List Cond := u_ws RJx3cf43 TJx3cf43 0
theorem nmJx3cf43 : ∀ a, a < 0 → ∀ b, b < 0 → a ≠ b → (TJx3cf43 a).2.1 ≠ (TJx3cf43 b).2.1 := by decide +kernel
theorem tyJx3cf43_ok : ∀ k, k < 0 → parseFieldDescriptor (TJx3cf43 k).2.2.1 = some (tyJx3cf43 k) := by decide +kernel
def RJ7 : String := "java/util/Arrays"
def TJ7 : u_T := fun k => match k with
  | _ => ("", "", "", false)
def tyJ7 : Nat → FieldType := fun k => match k with
  | _ => .int
abbrev wsJ70 : List Cond := u_ws RJ7 TJ7 0
theorem nmJ7 : ∀ a, a < 0 → ∀ b, b < 0 → a ≠ b → (TJ7 a).2.1 ≠ (TJ7 b).2.1 := by decide +kernel
theorem tyJ7_ok : ∀ k, k < 0 → parseFieldDescriptor (TJ7 k).2.2.1 = some (tyJ7 k) := by decide +kernel
abbrev cJ7_fill_53178 : ByteArray := prog_37_method_103_code
def yJ7_fill_53178 : MethodName := ⟨RJ7, "fill", "([II)V"⟩
def RJ3 : String := "jdk/internal/util/Preconditions"
def TJ3 : u_T := fun k => match k with
  | _ => ("", "", "", false)
def tyJ3 : Nat → FieldType := fun k => match k with
  | _ => .int
abbrev wsJ30 : List Cond := u_ws RJ3 TJ3 0
theorem nmJ3 : ∀ a, a < 0 → ∀ b, b < 0 → a ≠ b → (TJ3 a).2.1 ≠ (TJ3 b).2.1 := by decide +kernel
theorem tyJ3_ok : ∀ k, k < 0 → parseFieldDescriptor (TJ3 k).2.2.1 = some (tyJ3 k) := by decide +kernel
abbrev cJ3_checkIndex_8e157 : ByteArray := prog_39_method_11_code
def yJ3_checkIndex_8e157 : MethodName := ⟨RJ3, "checkIndex", "(IILjava/util/function/BiFunction;)I"⟩
def RL : String := "EventloopRowLaw"
abbrev cL_cell : ByteArray := method_2_code
def yL_cell : MethodName := ⟨RL, "cell", "([II)I"⟩
abbrev cL_addObject : ByteArray := method_3_code
def yL_addObject : MethodName := ⟨RL, "addObject", "(LEventloopRow;I)I"⟩
abbrev cL_addProxy : ByteArray := method_4_code
def yL_addProxy : MethodName := ⟨RL, "addProxy", "(LEventloopRow;I)I"⟩
abbrev cL_define : ByteArray := method_5_code
def yL_define : MethodName := ⟨RL, "define", "(LEventloopRow;IIII)I"⟩
abbrev cL_set : ByteArray := method_6_code
def yL_set : MethodName := ⟨RL, "set", "(LEventloopRow;III)I"⟩
abbrev cL_get : ByteArray := method_7_code
def yL_get : MethodName := ⟨RL, "get", "(LEventloopRow;II)I"⟩
abbrev cL_has : ByteArray := method_8_code
def yL_has : MethodName := ⟨RL, "has", "(LEventloopRow;II)I"⟩
abbrev cL_delete : ByteArray := method_9_code
def yL_delete : MethodName := ⟨RL, "delete", "(LEventloopRow;II)I"⟩
abbrev cL_closeObject : ByteArray := method_10_code
def yL_closeObject : MethodName := ⟨RL, "closeObject", "(LEventloopRow;I)I"⟩
abbrev cL_setChain : ByteArray := method_11_code
def yL_setChain : MethodName := ⟨RL, "setChain", "(LEventloopRow;II)I"⟩
abbrev cL_keys : ByteArray := method_12_code
def yL_keys : MethodName := ⟨RL, "keys", "(LEventloopRow;I)I"⟩
abbrev cL_keyAt : ByteArray := method_13_code
def yL_keyAt : MethodName := ⟨RL, "keyAt", "(LEventloopRow;II)I"⟩
abbrev cL_rights : ByteArray := method_14_code
def yL_rights : MethodName := ⟨RL, "rights", "(LEventloopRow;II)I"⟩
abbrev cL_tell : ByteArray := method_15_code
def yL_tell : MethodName := ⟨RL, "tell", "(LEventloopRow;ICI)I"⟩
abbrev cL_revoke : ByteArray := method_16_code
def yL_revoke : MethodName := ⟨RL, "revoke", "(LEventloopRow;I)I"⟩
abbrev cL_in : ByteArray := method_17_code
def yL_in : MethodName := ⟨RL, "in", "([III)I"⟩
abbrev cL_at : ByteArray := method_18_code
def yL_at : MethodName := ⟨RL, "at", "(II)I"⟩
abbrev cL_plain : ByteArray := method_19_code
def yL_plain : MethodName := ⟨RL, "plain", "([II)I"⟩
abbrev cL_defined : ByteArray := method_20_code
def yL_defined : MethodName := ⟨RL, "defined", "([IIIII)I"⟩
abbrev cL_found : ByteArray := method_21_code
def yL_found : MethodName := ⟨RL, "found", "([III)I"⟩
abbrev cL_received : ByteArray := method_22_code
def yL_received : MethodName := ⟨RL, "received", "([IIII)I"⟩
abbrev cL_wasSet : ByteArray := method_23_code
def yL_wasSet : MethodName := ⟨RL, "wasSet", "([IIIII)I"⟩
abbrev cL_isKept : ByteArray := method_24_code
def yL_isKept : MethodName := ⟨RL, "isKept", "([III)Z"⟩
abbrev cL_got : ByteArray := method_25_code
def yL_got : MethodName := ⟨RL, "got", "([III)I"⟩
abbrev cL_asked : ByteArray := method_26_code
def yL_asked : MethodName := ⟨RL, "asked", "([III)I"⟩
abbrev cL_gone : ByteArray := method_27_code
def yL_gone : MethodName := ⟨RL, "gone", "([III)I"⟩
abbrev cL_areKeys : ByteArray := method_28_code
def yL_areKeys : MethodName := ⟨RL, "areKeys", "(LEventloopRow;[II)Z"⟩
abbrev cL_law : ByteArray := code
def yL_law : MethodName := ⟨RL, "law", "([I)Z"⟩
def wsX2_init : List Cond := .code yX2_init cX2_init 1 none :: ([.methodLink RX2 3 objectInit, .instanceMethod objectInit, .code objectInit ⟨#[0xb1]⟩ 1 none])
def wsX2_hasJob : List Cond := .code yX2_hasJob cX2_hasJob 1 (some .boolean) :: ([.fieldLink RX2 48 "EventloopRow$JobRow" "first" "LEventloopRow$Job;"] ++ wsX20)
def wsX10_init : List Cond := .code yX10_init cX10_init 1 none :: ([.methodLink RX10 3 objectInit, .instanceMethod objectInit, .code objectInit ⟨#[0xb1]⟩ 1 none, .classLink RX10 9 RX9, .fieldLink RX10 11 "EventloopRow$TimerHeap" "blocks" "[LEventloopRow$TimerBlock;"] ++ wsX100)
def wsX3_init : List Cond := .code yX3_init cX3_init 4 none :: ([.methodLink RX3 3 objectInit, .instanceMethod objectInit, .code objectInit ⟨#[0xb1]⟩ 1 none, .classLink RX3 9 RX10, .instantiable RX10 3, .initialized RX10, .fieldLink RX3 12 "EventloopRow$Loop" "timerHeap" "LEventloopRow$TimerHeap;", .classLink RX3 18 RX0, .fieldLink RX3 20 "EventloopRow$Loop" "program" "[LEventloopRow$Instruction;", .arrayClass .int, .fieldLink RX3 24 "EventloopRow$Loop" "lengths" "[I", .fieldLink RX3 28 "EventloopRow$Loop" "tasks" "[I", .fieldLink RX3 31 "EventloopRow$Loop" "traceRow" "[I", .fieldLink RX3 34 "EventloopRow$Loop" "things" "LEventloopRow$Things;", .fieldLink RX3 38 "EventloopRow$Loop" "jobRow" "LEventloopRow$JobRow;", .fieldLink RX3 42 "EventloopRow$Loop" "promiseRow" "LEventloopRow$PromiseRow;", .instanceMethod yX10_init, .code yX10_init cX10_init 1 none, .methodLink RX10 3 objectInit, .classLink RX10 9 RX9, .fieldLink RX10 11 "EventloopRow$TimerHeap" "blocks" "[LEventloopRow$TimerBlock;"] ++ wsX100 ++ wsX30)
def wsX5_init : List Cond := .code yX5_init cX5_init 2 none :: ([.methodLink RX5 3 objectInit, .instanceMethod objectInit, .code objectInit ⟨#[0xb1]⟩ 1 none, .classLink RX5 9 RX4, .fieldLink RX5 11 "EventloopRow$PromiseRow" "row" "[LEventloopRow$Promise;", .arrayClass .int, .fieldLink RX5 17 "EventloopRow$PromiseRow" "rejections" "[I", .fieldLink RX5 21 "EventloopRow$PromiseRow" "jobRow" "LEventloopRow$JobRow;"] ++ wsX50)
def wsX5_find : List Cond := .code yX5_find cX5_find 2 (some (.object "EventloopRow$Promise")) :: ([.fieldLink RX5 25 "EventloopRow$PromiseRow" "count" "I", .fieldLink RX5 11 "EventloopRow$PromiseRow" "row" "[LEventloopRow$Promise;"] ++ wsX50)
def wsX5_isSettledClean : List Cond := .code yX5_isSettledClean cX5_isSettledClean 3 (some .boolean) :: ([.fieldLink RX5 25 "EventloopRow$PromiseRow" "count" "I", .fieldLink RX5 67 "EventloopRow$Promise" "state" "C", .fieldLink RX5 77 "EventloopRow$Promise" "first" "LEventloopRow$Job;", .methodLink RX5 29 yX5_find, .instanceMethod yX5_find, .selects RX5 yX5_find yX5_find, .initialized RX5, .code yX5_find cX5_find 2 (some (.object "EventloopRow$Promise")), .fieldLink RX5 11 "EventloopRow$PromiseRow" "row" "[LEventloopRow$Promise;"] ++ wsX50)
def wsJ7_fill_53178 : List Cond := .code yJ7_fill_53178 cJ7_fill_53178 4 none :: ([])
def wsX7_init : List Cond := .code yX7_init cX7_init 3 none :: ([.methodLink RX7 3 objectInit, .instanceMethod objectInit, .code objectInit ⟨#[0xb1]⟩ 1 none, .fieldLink RX7 9 "EventloopRow$Thing" "target" "LEventloopRow$Thing;", .fieldLink RX7 15 "EventloopRow$Thing" "chain" "LEventloopRow$Thing;", .arrayClass .int, .fieldLink RX7 18 "EventloopRow$Thing" "answers" "[I", .fieldLink RX7 22 "EventloopRow$Thing" "values" "[I", .fieldLink RX7 25 "EventloopRow$Thing" "rightsRow" "[I", .fieldLink RX7 28 "EventloopRow$Thing" "keyRow" "[I", .constant RX7 31 (1000000), .methodLink RX7 32 yJ7_fill_53178, .static yJ7_fill_53178, .initialized RJ7, .code yJ7_fill_53178 cJ7_fill_53178 4 none] ++ wsX70)
def wsX7_isProxy : List Cond := .code yX7_isProxy cX7_isProxy 1 (some .boolean) :: ([.fieldLink RX7 9 "EventloopRow$Thing" "target" "LEventloopRow$Thing;"] ++ wsX70)
def wsX7_answerTo : List Cond := .code yX7_answerTo cX7_answerTo 2 (some .int) :: ([.constant RX7 31 (1000000), .fieldLink RX7 18 "EventloopRow$Thing" "answers" "[I"] ++ wsX70 ++ (vx_atM "java/lang/ArrayIndexOutOfBoundsException" ["java/lang/IndexOutOfBoundsException", "java/lang/RuntimeException", "java/lang/Exception"]).filter goodWord)
def wsX7_isTold : List Cond := .code yX7_isTold cX7_isTold 2 (some .boolean) :: ([.constant RX7 31 (1000000), .methodLink RX7 38 yX7_answerTo, .instanceMethod yX7_answerTo, .selects RX7 yX7_answerTo yX7_answerTo, .initialized RX7, .code yX7_answerTo cX7_answerTo 2 (some .int), .fieldLink RX7 18 "EventloopRow$Thing" "answers" "[I"] ++ wsX70 ++ (vx_atM "java/lang/ArrayIndexOutOfBoundsException" ["java/lang/IndexOutOfBoundsException", "java/lang/RuntimeException", "java/lang/Exception"]).filter goodWord)
def wsX7_keepAnswer : List Cond := .code yX7_keepAnswer cX7_keepAnswer 3 none :: ([.fieldLink RX7 18 "EventloopRow$Thing" "answers" "[I"] ++ wsX70 ++ (vx_atM "java/lang/ArrayIndexOutOfBoundsException" ["java/lang/IndexOutOfBoundsException", "java/lang/RuntimeException", "java/lang/Exception"]).filter goodWord)
def wsX7_rightsOf : List Cond := .code yX7_rightsOf cX7_rightsOf 2 (some .int) :: ([.fieldLink RX7 25 "EventloopRow$Thing" "rightsRow" "[I"] ++ wsX70 ++ (vx_atM "java/lang/ArrayIndexOutOfBoundsException" ["java/lang/IndexOutOfBoundsException", "java/lang/RuntimeException", "java/lang/Exception"]).filter goodWord)
def wsX7_valueOf : List Cond := .code yX7_valueOf cX7_valueOf 2 (some .int) :: ([.fieldLink RX7 22 "EventloopRow$Thing" "values" "[I"] ++ wsX70 ++ (vx_atM "java/lang/ArrayIndexOutOfBoundsException" ["java/lang/IndexOutOfBoundsException", "java/lang/RuntimeException", "java/lang/Exception"]).filter goodWord)
def wsX7_holds : List Cond := .code yX7_holds cX7_holds 2 (some .boolean) :: ([.fieldLink RX7 25 "EventloopRow$Thing" "rightsRow" "[I"] ++ wsX70 ++ (vx_atM "java/lang/ArrayIndexOutOfBoundsException" ["java/lang/IndexOutOfBoundsException", "java/lang/RuntimeException", "java/lang/Exception"]).filter goodWord)
def wsX7_canBe : List Cond := .code yX7_canBe cX7_canBe 3 (some .boolean) :: ([.fieldLink RX7 25 "EventloopRow$Thing" "rightsRow" "[I"] ++ wsX70 ++ (vx_atM "java/lang/ArrayIndexOutOfBoundsException" ["java/lang/IndexOutOfBoundsException", "java/lang/RuntimeException", "java/lang/Exception"]).filter goodWord)
def wsX7_keepsOther : List Cond := .code yX7_keepsOther cX7_keepsOther 3 (some .boolean) :: ([.methodLink RX7 42 yX7_holds, .instanceMethod yX7_holds, .selects RX7 yX7_holds yX7_holds, .initialized RX7, .code yX7_holds cX7_holds 2 (some .boolean), .fieldLink RX7 25 "EventloopRow$Thing" "rightsRow" "[I", .methodLink RX7 46 yX7_canBe, .instanceMethod yX7_canBe, .selects RX7 yX7_canBe yX7_canBe, .code yX7_canBe cX7_canBe 3 (some .boolean), .methodLink RX7 50 yX7_valueOf, .instanceMethod yX7_valueOf, .selects RX7 yX7_valueOf yX7_valueOf, .code yX7_valueOf cX7_valueOf 2 (some .int), .fieldLink RX7 22 "EventloopRow$Thing" "values" "[I"] ++ wsX70 ++ (vx_atM "java/lang/ArrayIndexOutOfBoundsException" ["java/lang/IndexOutOfBoundsException", "java/lang/RuntimeException", "java/lang/Exception"]).filter goodWord)
def wsX7_keepsKey : List Cond := .code yX7_keepsKey cX7_keepsKey 2 (some .boolean) :: ([.fieldLink RX7 53 "EventloopRow$Thing" "closed" "Z", .methodLink RX7 42 yX7_holds, .instanceMethod yX7_holds, .selects RX7 yX7_holds yX7_holds, .initialized RX7, .code yX7_holds cX7_holds 2 (some .boolean), .fieldLink RX7 25 "EventloopRow$Thing" "rightsRow" "[I", .methodLink RX7 46 yX7_canBe, .instanceMethod yX7_canBe, .selects RX7 yX7_canBe yX7_canBe, .code yX7_canBe cX7_canBe 3 (some .boolean)] ++ wsX70 ++ (vx_atM "java/lang/ArrayIndexOutOfBoundsException" ["java/lang/IndexOutOfBoundsException", "java/lang/RuntimeException", "java/lang/Exception"]).filter goodWord)
def wsX7_listKey : List Cond := .code yX7_listKey cX7_listKey 3 none :: ([.fieldLink RX7 65 "EventloopRow$Thing" "keyCount" "I", .fieldLink RX7 28 "EventloopRow$Thing" "keyRow" "[I"] ++ wsX70 ++ (vx_atM "java/lang/ArrayIndexOutOfBoundsException" ["java/lang/IndexOutOfBoundsException", "java/lang/RuntimeException", "java/lang/Exception"]).filter goodWord)
def wsX7_isAllowed : List Cond := .code yX7_isAllowed cX7_isAllowed 3 (some .boolean) :: ([])
def wsX7_putIn : List Cond := .code yX7_putIn cX7_putIn 4 (some .char) :: ([.fieldLink RX7 53 "EventloopRow$Thing" "closed" "Z", .fieldLink RX7 25 "EventloopRow$Thing" "rightsRow" "[I", .fieldLink RX7 22 "EventloopRow$Thing" "values" "[I", .methodLink RX7 42 yX7_holds, .instanceMethod yX7_holds, .selects RX7 yX7_holds yX7_holds, .initialized RX7, .code yX7_holds cX7_holds 2 (some .boolean), .methodLink RX7 57 yX7_listKey, .instanceMethod yX7_listKey, .selects RX7 yX7_listKey yX7_listKey, .code yX7_listKey cX7_listKey 3 none, .fieldLink RX7 65 "EventloopRow$Thing" "keyCount" "I", .fieldLink RX7 28 "EventloopRow$Thing" "keyRow" "[I", .methodLink RX7 46 yX7_canBe, .instanceMethod yX7_canBe, .selects RX7 yX7_canBe yX7_canBe, .code yX7_canBe cX7_canBe 3 (some .boolean), .methodLink RX7 61 yX7_isAllowed, .static yX7_isAllowed, .code yX7_isAllowed cX7_isAllowed 3 (some .boolean)] ++ wsX70 ++ (vx_atM "java/lang/ArrayIndexOutOfBoundsException" ["java/lang/IndexOutOfBoundsException", "java/lang/RuntimeException", "java/lang/Exception"]).filter goodWord)
def wsX7_listedAt : List Cond := .code yX7_listedAt cX7_listedAt 2 (some .int) :: ([.fieldLink RX7 65 "EventloopRow$Thing" "keyCount" "I", .fieldLink RX7 28 "EventloopRow$Thing" "keyRow" "[I"] ++ wsX70 ++ (vx_atM "java/lang/ArrayIndexOutOfBoundsException" ["java/lang/IndexOutOfBoundsException", "java/lang/RuntimeException", "java/lang/Exception"]).filter goodWord)
def wsX7_takeOut : List Cond := .code yX7_takeOut cX7_takeOut 4 (some .char) :: ([.fieldLink RX7 25 "EventloopRow$Thing" "rightsRow" "[I", .fieldLink RX7 65 "EventloopRow$Thing" "keyCount" "I", .fieldLink RX7 28 "EventloopRow$Thing" "keyRow" "[I", .methodLink RX7 42 yX7_holds, .instanceMethod yX7_holds, .selects RX7 yX7_holds yX7_holds, .initialized RX7, .code yX7_holds cX7_holds 2 (some .boolean), .methodLink RX7 46 yX7_canBe, .instanceMethod yX7_canBe, .selects RX7 yX7_canBe yX7_canBe, .code yX7_canBe cX7_canBe 3 (some .boolean)] ++ wsX70 ++ (vx_atM "java/lang/ArrayIndexOutOfBoundsException" ["java/lang/IndexOutOfBoundsException", "java/lang/RuntimeException", "java/lang/Exception"]).filter goodWord)
def wsX7_isInOrder : List Cond := .code yX7_isInOrder cX7_isInOrder 5 (some .boolean) :: ([.methodLink RX7 69 yX7_listedAt, .instanceMethod yX7_listedAt, .selects RX7 yX7_listedAt yX7_listedAt, .initialized RX7, .code yX7_listedAt cX7_listedAt 2 (some .int), .fieldLink RX7 65 "EventloopRow$Thing" "keyCount" "I", .fieldLink RX7 28 "EventloopRow$Thing" "keyRow" "[I"] ++ wsX70 ++ (vx_atM "java/lang/ArrayIndexOutOfBoundsException" ["java/lang/IndexOutOfBoundsException", "java/lang/RuntimeException", "java/lang/Exception"]).filter goodWord)
def wsX7_isListed : List Cond := .code yX7_isListed cX7_isListed 4 (some .boolean) :: ([.fieldLink RX7 65 "EventloopRow$Thing" "keyCount" "I", .methodLink RX7 42 yX7_holds, .instanceMethod yX7_holds, .selects RX7 yX7_holds yX7_holds, .initialized RX7, .code yX7_holds cX7_holds 2 (some .boolean), .fieldLink RX7 25 "EventloopRow$Thing" "rightsRow" "[I", .methodLink RX7 69 yX7_listedAt, .instanceMethod yX7_listedAt, .selects RX7 yX7_listedAt yX7_listedAt, .code yX7_listedAt cX7_listedAt 2 (some .int), .fieldLink RX7 28 "EventloopRow$Thing" "keyRow" "[I", .methodLink RX7 72 yX7_isInOrder, .instanceMethod yX7_isInOrder, .selects RX7 yX7_isInOrder yX7_isInOrder, .code yX7_isInOrder cX7_isInOrder 5 (some .boolean)] ++ wsX70 ++ (vx_atM "java/lang/ArrayIndexOutOfBoundsException" ["java/lang/IndexOutOfBoundsException", "java/lang/RuntimeException", "java/lang/Exception"]).filter goodWord)
def wsX8_init : List Cond := .code yX8_init cX8_init 1 none :: ([.methodLink RX8 3 objectInit, .instanceMethod objectInit, .code objectInit ⟨#[0xb1]⟩ 1 none, .classLink RX8 9 RX7, .fieldLink RX8 11 "EventloopRow$Things" "row" "[LEventloopRow$Thing;"] ++ wsX80)
def wsX8_find : List Cond := .code yX8_find cX8_find 2 (some (.object "EventloopRow$Thing")) :: ([.fieldLink RX8 17 "EventloopRow$Things" "count" "I", .fieldLink RX8 11 "EventloopRow$Things" "row" "[LEventloopRow$Thing;"] ++ wsX80)
def wsX8_isFull : List Cond := .code yX8_isFull cX8_isFull 1 (some .boolean) :: ([.fieldLink RX8 17 "EventloopRow$Things" "count" "I"] ++ wsX80)
def wsX8_append : List Cond := .code yX8_append cX8_append 2 (some .int) :: ([.fieldLink RX8 17 "EventloopRow$Things" "count" "I", .fieldLink RX8 11 "EventloopRow$Things" "row" "[LEventloopRow$Thing;"] ++ wsX80)
def wsX8_plainBehind : List Cond := .code yX8_plainBehind cX8_plainBehind 4 (some (.object "EventloopRow$Thing")) :: ([.fieldLink RX8 25 "EventloopRow$Thing" "revoked" "Z", .fieldLink RX8 29 "EventloopRow$Thing" "target" "LEventloopRow$Thing;", .methodLink RX8 21 yX7_isProxy, .instanceMethod yX7_isProxy, .selects RX7 yX7_isProxy yX7_isProxy, .initialized RX7, .code yX7_isProxy cX7_isProxy 1 (some .boolean), .fieldLink RX7 9 "EventloopRow$Thing" "target" "LEventloopRow$Thing;"] ++ wsX70)
def wsX8_getFrom_r1 : List Cond := [Cond.fieldLink RX8 25 "EventloopRow$Thing" "revoked" "Z", Cond.constantLong RX8 33 (1099511627776), Cond.fieldLink RX8 29 "EventloopRow$Thing" "target" "LEventloopRow$Thing;", Cond.fieldLink RX8 57 "EventloopRow$Thing" "chain" "LEventloopRow$Thing;", Cond.methodLink RX8 21 yX7_isProxy, Cond.instanceMethod yX7_isProxy, Cond.selects RX7 yX7_isProxy yX7_isProxy, Cond.initialized RX7, Cond.code yX7_isProxy cX7_isProxy 1 (some .boolean), Cond.fieldLink RX7 9 "EventloopRow$Thing" "target" "LEventloopRow$Thing;", Cond.methodLink RX8 35 yX7_isTold, Cond.instanceMethod yX7_isTold, Cond.selects RX7 yX7_isTold yX7_isTold, Cond.code yX7_isTold cX7_isTold 2 (some .boolean), Cond.constant RX7 31 (1000000), Cond.methodLink RX7 38 yX7_answerTo, Cond.instanceMethod yX7_answerTo, Cond.selects RX7 yX7_answerTo yX7_answerTo, Cond.code yX7_answerTo cX7_answerTo 2 (some .int), Cond.fieldLink RX7 18 "EventloopRow$Thing" "answers" "[I", Cond.methodLink RX8 39 yX7_answerTo, Cond.methodLink RX8 43 yX8_plainBehind, Cond.instanceMethod yX8_plainBehind, Cond.selects RX8 yX8_plainBehind yX8_plainBehind]
def wsX8_getFrom_r2 : List Cond := [Cond.initialized RX8, Cond.code yX8_plainBehind cX8_plainBehind 4 (some (.object "EventloopRow$Thing")), Cond.methodLink RX8 47 yX7_keepsOther, Cond.instanceMethod yX7_keepsOther, Cond.selects RX7 yX7_keepsOther yX7_keepsOther, Cond.code yX7_keepsOther cX7_keepsOther 3 (some .boolean), Cond.methodLink RX7 42 yX7_holds, Cond.instanceMethod yX7_holds, Cond.selects RX7 yX7_holds yX7_holds, Cond.code yX7_holds cX7_holds 2 (some .boolean), Cond.fieldLink RX7 25 "EventloopRow$Thing" "rightsRow" "[I", Cond.methodLink RX7 46 yX7_canBe, Cond.instanceMethod yX7_canBe, Cond.selects RX7 yX7_canBe yX7_canBe, Cond.code yX7_canBe cX7_canBe 3 (some .boolean), Cond.methodLink RX7 50 yX7_valueOf, Cond.instanceMethod yX7_valueOf, Cond.selects RX7 yX7_valueOf yX7_valueOf, Cond.code yX7_valueOf cX7_valueOf 2 (some .int), Cond.fieldLink RX7 22 "EventloopRow$Thing" "values" "[I", Cond.methodLink RX8 51 yX7_holds, Cond.methodLink RX8 54 yX7_valueOf]
def wsX8_getFrom : List Cond := .code yX8_getFrom cX8_getFrom 7 (some .long) :: ((wsX8_getFrom_r1 ++ wsX8_getFrom_r2) ++ wsX70 ++ (vx_atM "java/lang/ArrayIndexOutOfBoundsException" ["java/lang/IndexOutOfBoundsException", "java/lang/RuntimeException", "java/lang/Exception"]).filter goodWord)
def wsX8_yesOrNo : List Cond := .code yX8_yesOrNo cX8_yesOrNo 1 (some .char) :: ([])
def wsX8_askFrom_r1 : List Cond := [Cond.fieldLink RX8 25 "EventloopRow$Thing" "revoked" "Z", Cond.fieldLink RX8 29 "EventloopRow$Thing" "target" "LEventloopRow$Thing;", Cond.fieldLink RX8 57 "EventloopRow$Thing" "chain" "LEventloopRow$Thing;", Cond.methodLink RX8 21 yX7_isProxy, Cond.instanceMethod yX7_isProxy, Cond.selects RX7 yX7_isProxy yX7_isProxy, Cond.initialized RX7, Cond.code yX7_isProxy cX7_isProxy 1 (some .boolean), Cond.fieldLink RX7 9 "EventloopRow$Thing" "target" "LEventloopRow$Thing;", Cond.methodLink RX8 35 yX7_isTold, Cond.instanceMethod yX7_isTold, Cond.selects RX7 yX7_isTold yX7_isTold, Cond.code yX7_isTold cX7_isTold 2 (some .boolean), Cond.constant RX7 31 (1000000), Cond.methodLink RX7 38 yX7_answerTo, Cond.instanceMethod yX7_answerTo, Cond.selects RX7 yX7_answerTo yX7_answerTo, Cond.code yX7_answerTo cX7_answerTo 2 (some .int), Cond.fieldLink RX7 18 "EventloopRow$Thing" "answers" "[I", Cond.methodLink RX8 39 yX7_answerTo, Cond.methodLink RX8 43 yX8_plainBehind, Cond.instanceMethod yX8_plainBehind, Cond.selects RX8 yX8_plainBehind yX8_plainBehind, Cond.initialized RX8]
def wsX8_askFrom_r2 : List Cond := [Cond.code yX8_plainBehind cX8_plainBehind 4 (some (.object "EventloopRow$Thing")), Cond.methodLink RX8 60 yX7_keepsKey, Cond.instanceMethod yX7_keepsKey, Cond.selects RX7 yX7_keepsKey yX7_keepsKey, Cond.code yX7_keepsKey cX7_keepsKey 2 (some .boolean), Cond.fieldLink RX7 53 "EventloopRow$Thing" "closed" "Z", Cond.methodLink RX7 42 yX7_holds, Cond.instanceMethod yX7_holds, Cond.selects RX7 yX7_holds yX7_holds, Cond.code yX7_holds cX7_holds 2 (some .boolean), Cond.fieldLink RX7 25 "EventloopRow$Thing" "rightsRow" "[I", Cond.methodLink RX7 46 yX7_canBe, Cond.instanceMethod yX7_canBe, Cond.selects RX7 yX7_canBe yX7_canBe, Cond.code yX7_canBe cX7_canBe 3 (some .boolean), Cond.methodLink RX8 63 yX8_yesOrNo, Cond.static yX8_yesOrNo, Cond.code yX8_yesOrNo cX8_yesOrNo 1 (some .char), Cond.methodLink RX8 51 yX7_holds]
def wsX8_askFrom : List Cond := .code yX8_askFrom cX8_askFrom 7 (some .char) :: ((wsX8_askFrom_r1 ++ wsX8_askFrom_r2) ++ wsX70 ++ (vx_atM "java/lang/ArrayIndexOutOfBoundsException" ["java/lang/IndexOutOfBoundsException", "java/lang/RuntimeException", "java/lang/Exception"]).filter goodWord)
def wsX8_receive_r1 : List Cond := [Cond.methodLink RX8 43 yX8_plainBehind, Cond.instanceMethod yX8_plainBehind, Cond.selects RX8 yX8_plainBehind yX8_plainBehind, Cond.initialized RX8, Cond.code yX8_plainBehind cX8_plainBehind 4 (some (.object "EventloopRow$Thing")), Cond.fieldLink RX8 25 "EventloopRow$Thing" "revoked" "Z", Cond.fieldLink RX8 29 "EventloopRow$Thing" "target" "LEventloopRow$Thing;", Cond.methodLink RX8 21 yX7_isProxy, Cond.instanceMethod yX7_isProxy, Cond.selects RX7 yX7_isProxy yX7_isProxy, Cond.initialized RX7, Cond.code yX7_isProxy cX7_isProxy 1 (some .boolean), Cond.fieldLink RX7 9 "EventloopRow$Thing" "target" "LEventloopRow$Thing;", Cond.methodLink RX8 51 yX7_holds, Cond.instanceMethod yX7_holds, Cond.selects RX7 yX7_holds yX7_holds, Cond.code yX7_holds cX7_holds 2 (some .boolean), Cond.fieldLink RX7 25 "EventloopRow$Thing" "rightsRow" "[I", Cond.methodLink RX8 74 yX7_putIn, Cond.instanceMethod yX7_putIn, Cond.selects RX7 yX7_putIn yX7_putIn, Cond.code yX7_putIn cX7_putIn 4 (some .char), Cond.fieldLink RX7 53 "EventloopRow$Thing" "closed" "Z", Cond.fieldLink RX7 22 "EventloopRow$Thing" "values" "[I"]
def wsX8_receive_r2 : List Cond := [Cond.methodLink RX7 42 yX7_holds, Cond.methodLink RX7 57 yX7_listKey, Cond.instanceMethod yX7_listKey, Cond.selects RX7 yX7_listKey yX7_listKey, Cond.code yX7_listKey cX7_listKey 3 none, Cond.fieldLink RX7 65 "EventloopRow$Thing" "keyCount" "I", Cond.fieldLink RX7 28 "EventloopRow$Thing" "keyRow" "[I", Cond.methodLink RX7 46 yX7_canBe, Cond.instanceMethod yX7_canBe, Cond.selects RX7 yX7_canBe yX7_canBe, Cond.code yX7_canBe cX7_canBe 3 (some .boolean), Cond.methodLink RX7 61 yX7_isAllowed, Cond.static yX7_isAllowed, Cond.code yX7_isAllowed cX7_isAllowed 3 (some .boolean), Cond.methodLink RX8 67 yX7_canBe, Cond.methodLink RX8 78 yX7_rightsOf, Cond.instanceMethod yX7_rightsOf, Cond.selects RX7 yX7_rightsOf yX7_rightsOf, Cond.code yX7_rightsOf cX7_rightsOf 2 (some .int)]
def wsX8_receive : List Cond := .code yX8_receive cX8_receive 5 (some .char) :: ((wsX8_receive_r1 ++ wsX8_receive_r2) ++ wsX70 ++ (vx_atM "java/lang/ArrayIndexOutOfBoundsException" ["java/lang/IndexOutOfBoundsException", "java/lang/RuntimeException", "java/lang/Exception"]).filter goodWord)
def wsX8_setFrom_r1 : List Cond := [Cond.fieldLink RX8 25 "EventloopRow$Thing" "revoked" "Z", Cond.fieldLink RX8 29 "EventloopRow$Thing" "target" "LEventloopRow$Thing;", Cond.fieldLink RX8 57 "EventloopRow$Thing" "chain" "LEventloopRow$Thing;", Cond.methodLink RX8 21 yX7_isProxy, Cond.instanceMethod yX7_isProxy, Cond.selects RX7 yX7_isProxy yX7_isProxy, Cond.initialized RX7, Cond.code yX7_isProxy cX7_isProxy 1 (some .boolean), Cond.fieldLink RX7 9 "EventloopRow$Thing" "target" "LEventloopRow$Thing;", Cond.methodLink RX8 35 yX7_isTold, Cond.instanceMethod yX7_isTold, Cond.selects RX7 yX7_isTold yX7_isTold, Cond.code yX7_isTold cX7_isTold 2 (some .boolean), Cond.constant RX7 31 (1000000), Cond.methodLink RX7 38 yX7_answerTo, Cond.instanceMethod yX7_answerTo, Cond.selects RX7 yX7_answerTo yX7_answerTo, Cond.code yX7_answerTo cX7_answerTo 2 (some .int), Cond.fieldLink RX7 18 "EventloopRow$Thing" "answers" "[I", Cond.methodLink RX8 39 yX7_answerTo, Cond.methodLink RX8 43 yX8_plainBehind, Cond.instanceMethod yX8_plainBehind, Cond.selects RX8 yX8_plainBehind yX8_plainBehind, Cond.initialized RX8]
def wsX8_setFrom_r2 : List Cond := [Cond.code yX8_plainBehind cX8_plainBehind 4 (some (.object "EventloopRow$Thing")), Cond.methodLink RX8 47 yX7_keepsOther, Cond.instanceMethod yX7_keepsOther, Cond.selects RX7 yX7_keepsOther yX7_keepsOther, Cond.code yX7_keepsOther cX7_keepsOther 3 (some .boolean), Cond.methodLink RX7 42 yX7_holds, Cond.instanceMethod yX7_holds, Cond.selects RX7 yX7_holds yX7_holds, Cond.code yX7_holds cX7_holds 2 (some .boolean), Cond.fieldLink RX7 25 "EventloopRow$Thing" "rightsRow" "[I", Cond.methodLink RX7 46 yX7_canBe, Cond.instanceMethod yX7_canBe, Cond.selects RX7 yX7_canBe yX7_canBe, Cond.code yX7_canBe cX7_canBe 3 (some .boolean), Cond.methodLink RX7 50 yX7_valueOf, Cond.instanceMethod yX7_valueOf, Cond.selects RX7 yX7_valueOf yX7_valueOf, Cond.code yX7_valueOf cX7_valueOf 2 (some .int), Cond.fieldLink RX7 22 "EventloopRow$Thing" "values" "[I", Cond.methodLink RX8 63 yX8_yesOrNo, Cond.static yX8_yesOrNo, Cond.code yX8_yesOrNo cX8_yesOrNo 1 (some .char), Cond.methodLink RX8 51 yX7_holds, Cond.methodLink RX8 67 yX7_canBe]
def wsX8_setFrom_r3 : List Cond := [Cond.methodLink RX8 70 yX8_receive, Cond.instanceMethod yX8_receive, Cond.selects RX8 yX8_receive yX8_receive, Cond.code yX8_receive cX8_receive 5 (some .char), Cond.methodLink RX8 74 yX7_putIn, Cond.instanceMethod yX7_putIn, Cond.selects RX7 yX7_putIn yX7_putIn, Cond.code yX7_putIn cX7_putIn 4 (some .char), Cond.fieldLink RX7 53 "EventloopRow$Thing" "closed" "Z", Cond.methodLink RX7 57 yX7_listKey, Cond.instanceMethod yX7_listKey, Cond.selects RX7 yX7_listKey yX7_listKey, Cond.code yX7_listKey cX7_listKey 3 none, Cond.fieldLink RX7 65 "EventloopRow$Thing" "keyCount" "I", Cond.fieldLink RX7 28 "EventloopRow$Thing" "keyRow" "[I", Cond.methodLink RX7 61 yX7_isAllowed, Cond.static yX7_isAllowed, Cond.code yX7_isAllowed cX7_isAllowed 3 (some .boolean), Cond.methodLink RX8 78 yX7_rightsOf, Cond.instanceMethod yX7_rightsOf, Cond.selects RX7 yX7_rightsOf yX7_rightsOf, Cond.code yX7_rightsOf cX7_rightsOf 2 (some .int)]
def wsX8_setFrom : List Cond := .code yX8_setFrom cX8_setFrom 8 (some .char) :: ((wsX8_setFrom_r1 ++ (wsX8_setFrom_r2 ++ wsX8_setFrom_r3)) ++ wsX70 ++ (vx_atM "java/lang/ArrayIndexOutOfBoundsException" ["java/lang/IndexOutOfBoundsException", "java/lang/RuntimeException", "java/lang/Exception"]).filter goodWord)
def wsX8_deleteFrom_r1 : List Cond := [Cond.fieldLink RX8 25 "EventloopRow$Thing" "revoked" "Z", Cond.fieldLink RX8 29 "EventloopRow$Thing" "target" "LEventloopRow$Thing;", Cond.methodLink RX8 21 yX7_isProxy, Cond.instanceMethod yX7_isProxy, Cond.selects RX7 yX7_isProxy yX7_isProxy, Cond.initialized RX7, Cond.code yX7_isProxy cX7_isProxy 1 (some .boolean), Cond.fieldLink RX7 9 "EventloopRow$Thing" "target" "LEventloopRow$Thing;", Cond.methodLink RX8 81 yX7_takeOut, Cond.instanceMethod yX7_takeOut, Cond.selects RX7 yX7_takeOut yX7_takeOut, Cond.code yX7_takeOut cX7_takeOut 4 (some .char), Cond.fieldLink RX7 25 "EventloopRow$Thing" "rightsRow" "[I", Cond.fieldLink RX7 65 "EventloopRow$Thing" "keyCount" "I", Cond.fieldLink RX7 28 "EventloopRow$Thing" "keyRow" "[I", Cond.methodLink RX7 42 yX7_holds, Cond.instanceMethod yX7_holds, Cond.selects RX7 yX7_holds yX7_holds, Cond.code yX7_holds cX7_holds 2 (some .boolean), Cond.methodLink RX7 46 yX7_canBe, Cond.instanceMethod yX7_canBe, Cond.selects RX7 yX7_canBe yX7_canBe, Cond.code yX7_canBe cX7_canBe 3 (some .boolean), Cond.methodLink RX8 35 yX7_isTold]
def wsX8_deleteFrom_r2 : List Cond := [Cond.instanceMethod yX7_isTold, Cond.selects RX7 yX7_isTold yX7_isTold, Cond.code yX7_isTold cX7_isTold 2 (some .boolean), Cond.constant RX7 31 (1000000), Cond.methodLink RX7 38 yX7_answerTo, Cond.instanceMethod yX7_answerTo, Cond.selects RX7 yX7_answerTo yX7_answerTo, Cond.code yX7_answerTo cX7_answerTo 2 (some .int), Cond.fieldLink RX7 18 "EventloopRow$Thing" "answers" "[I", Cond.methodLink RX8 39 yX7_answerTo, Cond.methodLink RX8 43 yX8_plainBehind, Cond.instanceMethod yX8_plainBehind, Cond.selects RX8 yX8_plainBehind yX8_plainBehind, Cond.initialized RX8, Cond.code yX8_plainBehind cX8_plainBehind 4 (some (.object "EventloopRow$Thing")), Cond.methodLink RX8 60 yX7_keepsKey, Cond.instanceMethod yX7_keepsKey, Cond.selects RX7 yX7_keepsKey yX7_keepsKey, Cond.code yX7_keepsKey cX7_keepsKey 2 (some .boolean), Cond.fieldLink RX7 53 "EventloopRow$Thing" "closed" "Z", Cond.methodLink RX8 63 yX8_yesOrNo, Cond.static yX8_yesOrNo, Cond.code yX8_yesOrNo cX8_yesOrNo 1 (some .char)]
def wsX8_deleteFrom : List Cond := .code yX8_deleteFrom cX8_deleteFrom 7 (some .char) :: ((wsX8_deleteFrom_r1 ++ wsX8_deleteFrom_r2) ++ wsX70 ++ (vx_atM "java/lang/ArrayIndexOutOfBoundsException" ["java/lang/IndexOutOfBoundsException", "java/lang/RuntimeException", "java/lang/Exception"]).filter goodWord)
def wsX8_chainTo : List Cond := .code yX8_chainTo cX8_chainTo 5 (some .char) :: ([.fieldLink RX8 57 "EventloopRow$Thing" "chain" "LEventloopRow$Thing;", .fieldLink RX8 85 "EventloopRow$Thing" "closed" "Z", .methodLink RX8 21 yX7_isProxy, .instanceMethod yX7_isProxy, .selects RX7 yX7_isProxy yX7_isProxy, .initialized RX7, .code yX7_isProxy cX7_isProxy 1 (some .boolean), .fieldLink RX7 9 "EventloopRow$Thing" "target" "LEventloopRow$Thing;"] ++ wsX70)
def wsX8_areListed_r1 : List Cond := [Cond.fieldLink RX8 17 "EventloopRow$Things" "count" "I", Cond.methodLink RX8 88 yX8_find, Cond.instanceMethod yX8_find, Cond.selects RX8 yX8_find yX8_find, Cond.initialized RX8, Cond.code yX8_find cX8_find 2 (some (.object "EventloopRow$Thing")), Cond.fieldLink RX8 11 "EventloopRow$Things" "row" "[LEventloopRow$Thing;", Cond.methodLink RX8 21 yX7_isProxy, Cond.instanceMethod yX7_isProxy, Cond.selects RX7 yX7_isProxy yX7_isProxy, Cond.initialized RX7, Cond.code yX7_isProxy cX7_isProxy 1 (some .boolean), Cond.fieldLink RX7 9 "EventloopRow$Thing" "target" "LEventloopRow$Thing;", Cond.methodLink RX8 92 yX7_isListed, Cond.instanceMethod yX7_isListed, Cond.selects RX7 yX7_isListed yX7_isListed, Cond.code yX7_isListed cX7_isListed 4 (some .boolean), Cond.fieldLink RX7 65 "EventloopRow$Thing" "keyCount" "I", Cond.methodLink RX7 42 yX7_holds, Cond.instanceMethod yX7_holds, Cond.selects RX7 yX7_holds yX7_holds, Cond.code yX7_holds cX7_holds 2 (some .boolean), Cond.fieldLink RX7 25 "EventloopRow$Thing" "rightsRow" "[I", Cond.methodLink RX7 69 yX7_listedAt]
def wsX8_areListed_r2 : List Cond := [Cond.instanceMethod yX7_listedAt, Cond.selects RX7 yX7_listedAt yX7_listedAt, Cond.code yX7_listedAt cX7_listedAt 2 (some .int), Cond.fieldLink RX7 28 "EventloopRow$Thing" "keyRow" "[I", Cond.methodLink RX7 72 yX7_isInOrder, Cond.instanceMethod yX7_isInOrder, Cond.selects RX7 yX7_isInOrder yX7_isInOrder, Cond.code yX7_isInOrder cX7_isInOrder 5 (some .boolean)]
def wsX8_areListed : List Cond := .code yX8_areListed cX8_areListed 3 (some .boolean) :: ((wsX8_areListed_r1 ++ wsX8_areListed_r2) ++ wsX80 ++ wsX70 ++ (vx_atM "java/lang/ArrayIndexOutOfBoundsException" ["java/lang/IndexOutOfBoundsException", "java/lang/RuntimeException", "java/lang/Exception"]).filter goodWord)
def wsX11_init_r1 : List Cond := [Cond.methodLink RX11 1 objectInit, Cond.instanceMethod objectInit, Cond.code objectInit ⟨#[0xb1]⟩ 1 none, Cond.classLink RX11 7 RX8, Cond.instantiable RX8 2, Cond.initialized RX8, Cond.fieldLink RX11 10 "EventloopRow" "things" "LEventloopRow$Things;", Cond.classLink RX11 16 RX2, Cond.instantiable RX2 3, Cond.initialized RX2, Cond.fieldLink RX11 19 "EventloopRow" "jobRow" "LEventloopRow$JobRow;", Cond.classLink RX11 23 RX5, Cond.instantiable RX5 8, Cond.initialized RX5, Cond.fieldLink RX11 28 "EventloopRow" "promiseRow" "LEventloopRow$PromiseRow;", Cond.classLink RX11 32 RX3, Cond.instantiable RX3 19, Cond.initialized RX3, Cond.fieldLink RX11 37 "EventloopRow" "loop" "LEventloopRow$Loop;", Cond.instanceMethod yX8_init, Cond.code yX8_init cX8_init 1 none, Cond.methodLink RX8 3 objectInit, Cond.classLink RX8 9 RX7, Cond.fieldLink RX8 11 "EventloopRow$Things" "row" "[LEventloopRow$Thing;"]
def wsX11_init_r2 : List Cond := [Cond.instanceMethod yX2_init, Cond.code yX2_init cX2_init 1 none, Cond.methodLink RX2 3 objectInit, Cond.methodLink RX11 25 yX5_init, Cond.instanceMethod yX5_init, Cond.code yX5_init cX5_init 2 none, Cond.methodLink RX5 3 objectInit, Cond.classLink RX5 9 RX4, Cond.fieldLink RX5 11 "EventloopRow$PromiseRow" "row" "[LEventloopRow$Promise;", Cond.arrayClass .int, Cond.fieldLink RX5 17 "EventloopRow$PromiseRow" "rejections" "[I", Cond.fieldLink RX5 21 "EventloopRow$PromiseRow" "jobRow" "LEventloopRow$JobRow;", Cond.methodLink RX11 34 yX3_init, Cond.instanceMethod yX3_init, Cond.code yX3_init cX3_init 4 none, Cond.methodLink RX3 3 objectInit, Cond.classLink RX3 9 RX10, Cond.instantiable RX10 3, Cond.initialized RX10, Cond.fieldLink RX3 12 "EventloopRow$Loop" "timerHeap" "LEventloopRow$TimerHeap;", Cond.classLink RX3 18 RX0, Cond.fieldLink RX3 20 "EventloopRow$Loop" "program" "[LEventloopRow$Instruction;", Cond.fieldLink RX3 24 "EventloopRow$Loop" "lengths" "[I", Cond.fieldLink RX3 28 "EventloopRow$Loop" "tasks" "[I"]
def wsX11_init_r3 : List Cond := [Cond.fieldLink RX3 31 "EventloopRow$Loop" "traceRow" "[I", Cond.fieldLink RX3 34 "EventloopRow$Loop" "things" "LEventloopRow$Things;", Cond.fieldLink RX3 38 "EventloopRow$Loop" "jobRow" "LEventloopRow$JobRow;", Cond.fieldLink RX3 42 "EventloopRow$Loop" "promiseRow" "LEventloopRow$PromiseRow;", Cond.instanceMethod yX10_init, Cond.code yX10_init cX10_init 1 none, Cond.methodLink RX10 3 objectInit, Cond.classLink RX10 9 RX9, Cond.fieldLink RX10 11 "EventloopRow$TimerHeap" "blocks" "[LEventloopRow$TimerBlock;"]
def wsX11_init : List Cond := .code yX11_init cX11_init 1 none :: ((wsX11_init_r1 ++ (wsX11_init_r2 ++ wsX11_init_r3)) ++ wsX80 ++ wsX110 ++ wsX20 ++ wsX50 ++ wsX30 ++ wsX100)
def wsX11_addObject_r1 : List Cond := [Cond.classLink RX11 45 "java/lang/IndexOutOfBoundsException", Cond.initialized "java/lang/IndexOutOfBoundsException", Cond.classLink RX11 56 "java/lang/IllegalStateException", Cond.initialized "java/lang/IllegalStateException", Cond.fieldLink RX11 10 "EventloopRow" "things" "LEventloopRow$Things;", Cond.classLink RX11 61 RX7, Cond.instantiable RX7 9, Cond.initialized RX7, Cond.methodLink RX11 41 yX8_find, Cond.instanceMethod yX8_find, Cond.selects RX8 yX8_find yX8_find, Cond.initialized RX8, Cond.code yX8_find cX8_find 2 (some (.object "EventloopRow$Thing")), Cond.fieldLink RX8 17 "EventloopRow$Things" "count" "I", Cond.fieldLink RX8 11 "EventloopRow$Things" "row" "[LEventloopRow$Thing;", Cond.methodLink RX11 52 yX8_isFull, Cond.instanceMethod yX8_isFull, Cond.selects RX8 yX8_isFull yX8_isFull, Cond.code yX8_isFull cX8_isFull 1 (some .boolean), Cond.methodLink RX11 63 yX7_init, Cond.instanceMethod yX7_init, Cond.code yX7_init cX7_init 3 none, Cond.methodLink RX7 3 objectInit, Cond.instanceMethod objectInit]
def wsX11_addObject_r2 : List Cond := [Cond.code objectInit ⟨#[0xb1]⟩ 1 none, Cond.fieldLink RX7 9 "EventloopRow$Thing" "target" "LEventloopRow$Thing;", Cond.fieldLink RX7 15 "EventloopRow$Thing" "chain" "LEventloopRow$Thing;", Cond.arrayClass .int, Cond.fieldLink RX7 18 "EventloopRow$Thing" "answers" "[I", Cond.fieldLink RX7 22 "EventloopRow$Thing" "values" "[I", Cond.fieldLink RX7 25 "EventloopRow$Thing" "rightsRow" "[I", Cond.fieldLink RX7 28 "EventloopRow$Thing" "keyRow" "[I", Cond.constant RX7 31 (1000000), Cond.methodLink RX7 32 yJ7_fill_53178, Cond.static yJ7_fill_53178, Cond.initialized RJ7, Cond.code yJ7_fill_53178 cJ7_fill_53178 4 none, Cond.methodLink RX11 66 yX8_append, Cond.instanceMethod yX8_append, Cond.selects RX8 yX8_append yX8_append, Cond.code yX8_append cX8_append 2 (some .int)]
def wsX11_addObject : List Cond := .code yX11_addObject cX11_addObject 2 (some .int) :: ((wsX11_addObject_r1 ++ wsX11_addObject_r2) ++ wsX110 ++ wsX70 ++ wsX80 ++ (vx_atS RX11 49 "java/lang/IndexOutOfBoundsException" ["java/lang/RuntimeException", "java/lang/Exception"]).filter goodWord ++ (vx_atS RX11 60 "java/lang/IllegalStateException" ["java/lang/RuntimeException", "java/lang/Exception"]).filter goodWord)
def wsX11_addProxy_r1 : List Cond := [Cond.classLink RX11 45 "java/lang/IndexOutOfBoundsException", Cond.initialized "java/lang/IndexOutOfBoundsException", Cond.classLink RX11 56 "java/lang/IllegalStateException", Cond.initialized "java/lang/IllegalStateException", Cond.fieldLink RX11 10 "EventloopRow" "things" "LEventloopRow$Things;", Cond.classLink RX11 61 RX7, Cond.instantiable RX7 9, Cond.initialized RX7, Cond.methodLink RX11 41 yX8_find, Cond.instanceMethod yX8_find, Cond.selects RX8 yX8_find yX8_find, Cond.initialized RX8, Cond.code yX8_find cX8_find 2 (some (.object "EventloopRow$Thing")), Cond.fieldLink RX8 17 "EventloopRow$Things" "count" "I", Cond.fieldLink RX8 11 "EventloopRow$Things" "row" "[LEventloopRow$Thing;", Cond.methodLink RX11 52 yX8_isFull, Cond.instanceMethod yX8_isFull, Cond.selects RX8 yX8_isFull yX8_isFull, Cond.code yX8_isFull cX8_isFull 1 (some .boolean), Cond.methodLink RX11 63 yX7_init, Cond.instanceMethod yX7_init, Cond.code yX7_init cX7_init 3 none, Cond.methodLink RX7 3 objectInit, Cond.instanceMethod objectInit]
def wsX11_addProxy_r2 : List Cond := [Cond.code objectInit ⟨#[0xb1]⟩ 1 none, Cond.fieldLink RX7 9 "EventloopRow$Thing" "target" "LEventloopRow$Thing;", Cond.fieldLink RX7 15 "EventloopRow$Thing" "chain" "LEventloopRow$Thing;", Cond.arrayClass .int, Cond.fieldLink RX7 18 "EventloopRow$Thing" "answers" "[I", Cond.fieldLink RX7 22 "EventloopRow$Thing" "values" "[I", Cond.fieldLink RX7 25 "EventloopRow$Thing" "rightsRow" "[I", Cond.fieldLink RX7 28 "EventloopRow$Thing" "keyRow" "[I", Cond.constant RX7 31 (1000000), Cond.methodLink RX7 32 yJ7_fill_53178, Cond.static yJ7_fill_53178, Cond.initialized RJ7, Cond.code yJ7_fill_53178 cJ7_fill_53178 4 none, Cond.methodLink RX11 66 yX8_append, Cond.instanceMethod yX8_append, Cond.selects RX8 yX8_append yX8_append, Cond.code yX8_append cX8_append 2 (some .int)]
def wsX11_addProxy : List Cond := .code yX11_addProxy cX11_addProxy 3 (some .int) :: ((wsX11_addProxy_r1 ++ wsX11_addProxy_r2) ++ wsX110 ++ wsX70 ++ wsX80 ++ (vx_atS RX11 49 "java/lang/IndexOutOfBoundsException" ["java/lang/RuntimeException", "java/lang/Exception"]).filter goodWord ++ (vx_atS RX11 60 "java/lang/IllegalStateException" ["java/lang/RuntimeException", "java/lang/Exception"]).filter goodWord)
def wsX11_kindOf : List Cond := .code yX11_kindOf cX11_kindOf 1 (some .int) :: ([])
def wsX11_isValue : List Cond := .code yX11_isValue cX11_isValue 1 (some .boolean) :: ([])
def wsX11_isAnswer : List Cond := .code yX11_isAnswer cX11_isAnswer 2 (some .boolean) :: ([.methodLink RX11 105 yX11_isValue, .static yX11_isValue, .initialized RX11, .code yX11_isValue cX11_isValue 1 (some .boolean)])
def wsX11_tell_r1 : List Cond := [Cond.classLink RX11 45 "java/lang/IndexOutOfBoundsException", Cond.initialized "java/lang/IndexOutOfBoundsException", Cond.classLink RX11 78 "java/lang/IllegalArgumentException", Cond.initialized "java/lang/IllegalArgumentException", Cond.classLink RX11 56 "java/lang/IllegalStateException", Cond.initialized "java/lang/IllegalStateException", Cond.fieldLink RX11 10 "EventloopRow" "things" "LEventloopRow$Things;", Cond.methodLink RX11 41 yX8_find, Cond.instanceMethod yX8_find, Cond.selects RX8 yX8_find yX8_find, Cond.initialized RX8, Cond.code yX8_find cX8_find 2 (some (.object "EventloopRow$Thing")), Cond.fieldLink RX8 17 "EventloopRow$Things" "count" "I", Cond.fieldLink RX8 11 "EventloopRow$Things" "row" "[LEventloopRow$Thing;", Cond.methodLink RX11 70 yX11_kindOf, Cond.static yX11_kindOf, Cond.initialized RX11, Cond.code yX11_kindOf cX11_kindOf 1 (some .int), Cond.methodLink RX11 74 yX11_isAnswer, Cond.static yX11_isAnswer, Cond.code yX11_isAnswer cX11_isAnswer 2 (some .boolean), Cond.methodLink RX11 105 yX11_isValue, Cond.static yX11_isValue, Cond.code yX11_isValue cX11_isValue 1 (some .boolean)]
def wsX11_tell_r2 : List Cond := [Cond.methodLink RX11 83 yX7_isProxy, Cond.instanceMethod yX7_isProxy, Cond.selects RX7 yX7_isProxy yX7_isProxy, Cond.initialized RX7, Cond.code yX7_isProxy cX7_isProxy 1 (some .boolean), Cond.fieldLink RX7 9 "EventloopRow$Thing" "target" "LEventloopRow$Thing;", Cond.methodLink RX11 88 yX7_isTold, Cond.instanceMethod yX7_isTold, Cond.selects RX7 yX7_isTold yX7_isTold, Cond.code yX7_isTold cX7_isTold 2 (some .boolean), Cond.constant RX7 31 (1000000), Cond.methodLink RX7 38 yX7_answerTo, Cond.instanceMethod yX7_answerTo, Cond.selects RX7 yX7_answerTo yX7_answerTo, Cond.code yX7_answerTo cX7_answerTo 2 (some .int), Cond.fieldLink RX7 18 "EventloopRow$Thing" "answers" "[I", Cond.methodLink RX11 92 yX7_keepAnswer, Cond.instanceMethod yX7_keepAnswer, Cond.selects RX7 yX7_keepAnswer yX7_keepAnswer, Cond.code yX7_keepAnswer cX7_keepAnswer 3 none]
def wsX11_tell : List Cond := .code yX11_tell cX11_tell 7 (some .boolean) :: ((wsX11_tell_r1 ++ wsX11_tell_r2) ++ wsX110 ++ wsX80 ++ wsX70 ++ (vx_atS RX11 49 "java/lang/IndexOutOfBoundsException" ["java/lang/RuntimeException", "java/lang/Exception"]).filter goodWord ++ (vx_atS RX11 82 "java/lang/IllegalArgumentException" ["java/lang/RuntimeException", "java/lang/Exception"]).filter goodWord ++ (vx_atS RX11 60 "java/lang/IllegalStateException" ["java/lang/RuntimeException", "java/lang/Exception"]).filter goodWord ++ (vx_atM "java/lang/ArrayIndexOutOfBoundsException" ["java/lang/IndexOutOfBoundsException", "java/lang/RuntimeException", "java/lang/Exception"]).filter goodWord)
def wsX11_revoke : List Cond := .code yX11_revoke cX11_revoke 4 (some .boolean) :: ([.classLink RX11 45 "java/lang/IndexOutOfBoundsException", .initialized "java/lang/IndexOutOfBoundsException", .classLink RX11 56 "java/lang/IllegalStateException", .initialized "java/lang/IllegalStateException", .fieldLink RX11 10 "EventloopRow" "things" "LEventloopRow$Things;", .fieldLink RX11 96 "EventloopRow$Thing" "revoked" "Z", .methodLink RX11 41 yX8_find, .instanceMethod yX8_find, .selects RX8 yX8_find yX8_find, .initialized RX8, .code yX8_find cX8_find 2 (some (.object "EventloopRow$Thing")), .fieldLink RX8 17 "EventloopRow$Things" "count" "I", .fieldLink RX8 11 "EventloopRow$Things" "row" "[LEventloopRow$Thing;", .methodLink RX11 83 yX7_isProxy, .instanceMethod yX7_isProxy, .selects RX7 yX7_isProxy yX7_isProxy, .initialized RX7, .code yX7_isProxy cX7_isProxy 1 (some .boolean), .fieldLink RX7 9 "EventloopRow$Thing" "target" "LEventloopRow$Thing;"] ++ wsX110 ++ wsX70 ++ wsX80 ++ (vx_atS RX11 49 "java/lang/IndexOutOfBoundsException" ["java/lang/RuntimeException", "java/lang/Exception"]).filter goodWord ++ (vx_atS RX11 60 "java/lang/IllegalStateException" ["java/lang/RuntimeException", "java/lang/Exception"]).filter goodWord)
def wsX11_isKey : List Cond := .code yX11_isKey cX11_isKey 1 (some .boolean) :: ([])
def wsX11_define_r1 : List Cond := [Cond.classLink RX11 45 "java/lang/IndexOutOfBoundsException", Cond.initialized "java/lang/IndexOutOfBoundsException", Cond.classLink RX11 78 "java/lang/IllegalArgumentException", Cond.initialized "java/lang/IllegalArgumentException", Cond.fieldLink RX11 10 "EventloopRow" "things" "LEventloopRow$Things;", Cond.methodLink RX11 41 yX8_find, Cond.instanceMethod yX8_find, Cond.selects RX8 yX8_find yX8_find, Cond.initialized RX8, Cond.code yX8_find cX8_find 2 (some (.object "EventloopRow$Thing")), Cond.fieldLink RX8 17 "EventloopRow$Things" "count" "I", Cond.fieldLink RX8 11 "EventloopRow$Things" "row" "[LEventloopRow$Thing;", Cond.methodLink RX11 100 yX11_isKey, Cond.static yX11_isKey, Cond.initialized RX11, Cond.code yX11_isKey cX11_isKey 1 (some .boolean), Cond.methodLink RX11 105 yX11_isValue, Cond.static yX11_isValue, Cond.code yX11_isValue cX11_isValue 1 (some .boolean), Cond.methodLink RX11 110 yX8_plainBehind, Cond.instanceMethod yX8_plainBehind, Cond.selects RX8 yX8_plainBehind yX8_plainBehind, Cond.code yX8_plainBehind cX8_plainBehind 4 (some (.object "EventloopRow$Thing")), Cond.fieldLink RX8 25 "EventloopRow$Thing" "revoked" "Z"]
def wsX11_define_r2 : List Cond := [Cond.fieldLink RX8 29 "EventloopRow$Thing" "target" "LEventloopRow$Thing;", Cond.methodLink RX8 21 yX7_isProxy, Cond.instanceMethod yX7_isProxy, Cond.selects RX7 yX7_isProxy yX7_isProxy, Cond.initialized RX7, Cond.code yX7_isProxy cX7_isProxy 1 (some .boolean), Cond.fieldLink RX7 9 "EventloopRow$Thing" "target" "LEventloopRow$Thing;", Cond.methodLink RX11 114 yX7_putIn, Cond.instanceMethod yX7_putIn, Cond.selects RX7 yX7_putIn yX7_putIn, Cond.code yX7_putIn cX7_putIn 4 (some .char), Cond.fieldLink RX7 53 "EventloopRow$Thing" "closed" "Z", Cond.fieldLink RX7 25 "EventloopRow$Thing" "rightsRow" "[I", Cond.fieldLink RX7 22 "EventloopRow$Thing" "values" "[I", Cond.methodLink RX7 42 yX7_holds, Cond.instanceMethod yX7_holds, Cond.selects RX7 yX7_holds yX7_holds, Cond.code yX7_holds cX7_holds 2 (some .boolean), Cond.methodLink RX7 57 yX7_listKey, Cond.instanceMethod yX7_listKey, Cond.selects RX7 yX7_listKey yX7_listKey, Cond.code yX7_listKey cX7_listKey 3 none, Cond.fieldLink RX7 65 "EventloopRow$Thing" "keyCount" "I", Cond.fieldLink RX7 28 "EventloopRow$Thing" "keyRow" "[I"]
def wsX11_define_r3 : List Cond := [Cond.methodLink RX7 46 yX7_canBe, Cond.instanceMethod yX7_canBe, Cond.selects RX7 yX7_canBe yX7_canBe, Cond.code yX7_canBe cX7_canBe 3 (some .boolean), Cond.methodLink RX7 61 yX7_isAllowed, Cond.static yX7_isAllowed, Cond.code yX7_isAllowed cX7_isAllowed 3 (some .boolean)]
def wsX11_define : List Cond := .code yX11_define cX11_define 7 (some .char) :: ((wsX11_define_r1 ++ (wsX11_define_r2 ++ wsX11_define_r3)) ++ wsX110 ++ wsX80 ++ wsX70 ++ (vx_atS RX11 49 "java/lang/IndexOutOfBoundsException" ["java/lang/RuntimeException", "java/lang/Exception"]).filter goodWord ++ (vx_atS RX11 82 "java/lang/IllegalArgumentException" ["java/lang/RuntimeException", "java/lang/Exception"]).filter goodWord ++ (vx_atM "java/lang/ArrayIndexOutOfBoundsException" ["java/lang/IndexOutOfBoundsException", "java/lang/RuntimeException", "java/lang/Exception"]).filter goodWord)
def wsX11_set_r1 : List Cond := [Cond.classLink RX11 45 "java/lang/IndexOutOfBoundsException", Cond.initialized "java/lang/IndexOutOfBoundsException", Cond.classLink RX11 78 "java/lang/IllegalArgumentException", Cond.initialized "java/lang/IllegalArgumentException", Cond.fieldLink RX11 10 "EventloopRow" "things" "LEventloopRow$Things;", Cond.methodLink RX11 41 yX8_find, Cond.instanceMethod yX8_find, Cond.selects RX8 yX8_find yX8_find, Cond.initialized RX8, Cond.code yX8_find cX8_find 2 (some (.object "EventloopRow$Thing")), Cond.fieldLink RX8 17 "EventloopRow$Things" "count" "I", Cond.fieldLink RX8 11 "EventloopRow$Things" "row" "[LEventloopRow$Thing;", Cond.methodLink RX11 100 yX11_isKey, Cond.static yX11_isKey, Cond.initialized RX11, Cond.code yX11_isKey cX11_isKey 1 (some .boolean), Cond.methodLink RX11 105 yX11_isValue, Cond.static yX11_isValue, Cond.code yX11_isValue cX11_isValue 1 (some .boolean), Cond.methodLink RX11 120 yX8_setFrom, Cond.instanceMethod yX8_setFrom, Cond.selects RX8 yX8_setFrom yX8_setFrom, Cond.code yX8_setFrom cX8_setFrom 8 (some .char), Cond.fieldLink RX8 25 "EventloopRow$Thing" "revoked" "Z"]
def wsX11_set_r2 : List Cond := [Cond.fieldLink RX8 29 "EventloopRow$Thing" "target" "LEventloopRow$Thing;", Cond.fieldLink RX8 57 "EventloopRow$Thing" "chain" "LEventloopRow$Thing;", Cond.methodLink RX8 21 yX7_isProxy, Cond.instanceMethod yX7_isProxy, Cond.selects RX7 yX7_isProxy yX7_isProxy, Cond.initialized RX7, Cond.code yX7_isProxy cX7_isProxy 1 (some .boolean), Cond.fieldLink RX7 9 "EventloopRow$Thing" "target" "LEventloopRow$Thing;", Cond.methodLink RX8 35 yX7_isTold, Cond.instanceMethod yX7_isTold, Cond.selects RX7 yX7_isTold yX7_isTold, Cond.code yX7_isTold cX7_isTold 2 (some .boolean), Cond.constant RX7 31 (1000000), Cond.methodLink RX7 38 yX7_answerTo, Cond.instanceMethod yX7_answerTo, Cond.selects RX7 yX7_answerTo yX7_answerTo, Cond.code yX7_answerTo cX7_answerTo 2 (some .int), Cond.fieldLink RX7 18 "EventloopRow$Thing" "answers" "[I", Cond.methodLink RX8 39 yX7_answerTo, Cond.methodLink RX8 43 yX8_plainBehind, Cond.instanceMethod yX8_plainBehind, Cond.selects RX8 yX8_plainBehind yX8_plainBehind, Cond.code yX8_plainBehind cX8_plainBehind 4 (some (.object "EventloopRow$Thing")), Cond.methodLink RX8 47 yX7_keepsOther]
def wsX11_set_r3 : List Cond := [Cond.instanceMethod yX7_keepsOther, Cond.selects RX7 yX7_keepsOther yX7_keepsOther, Cond.code yX7_keepsOther cX7_keepsOther 3 (some .boolean), Cond.methodLink RX7 42 yX7_holds, Cond.instanceMethod yX7_holds, Cond.selects RX7 yX7_holds yX7_holds, Cond.code yX7_holds cX7_holds 2 (some .boolean), Cond.fieldLink RX7 25 "EventloopRow$Thing" "rightsRow" "[I", Cond.methodLink RX7 46 yX7_canBe, Cond.instanceMethod yX7_canBe, Cond.selects RX7 yX7_canBe yX7_canBe, Cond.code yX7_canBe cX7_canBe 3 (some .boolean), Cond.methodLink RX7 50 yX7_valueOf, Cond.instanceMethod yX7_valueOf, Cond.selects RX7 yX7_valueOf yX7_valueOf, Cond.code yX7_valueOf cX7_valueOf 2 (some .int), Cond.fieldLink RX7 22 "EventloopRow$Thing" "values" "[I", Cond.methodLink RX8 63 yX8_yesOrNo, Cond.static yX8_yesOrNo, Cond.code yX8_yesOrNo cX8_yesOrNo 1 (some .char), Cond.methodLink RX8 51 yX7_holds, Cond.methodLink RX8 67 yX7_canBe, Cond.methodLink RX8 70 yX8_receive, Cond.instanceMethod yX8_receive]
def wsX11_set_r4 : List Cond := [Cond.selects RX8 yX8_receive yX8_receive, Cond.code yX8_receive cX8_receive 5 (some .char), Cond.methodLink RX8 74 yX7_putIn, Cond.instanceMethod yX7_putIn, Cond.selects RX7 yX7_putIn yX7_putIn, Cond.code yX7_putIn cX7_putIn 4 (some .char), Cond.fieldLink RX7 53 "EventloopRow$Thing" "closed" "Z", Cond.methodLink RX7 57 yX7_listKey, Cond.instanceMethod yX7_listKey, Cond.selects RX7 yX7_listKey yX7_listKey, Cond.code yX7_listKey cX7_listKey 3 none, Cond.fieldLink RX7 65 "EventloopRow$Thing" "keyCount" "I", Cond.fieldLink RX7 28 "EventloopRow$Thing" "keyRow" "[I", Cond.methodLink RX7 61 yX7_isAllowed, Cond.static yX7_isAllowed, Cond.code yX7_isAllowed cX7_isAllowed 3 (some .boolean), Cond.methodLink RX8 78 yX7_rightsOf, Cond.instanceMethod yX7_rightsOf, Cond.selects RX7 yX7_rightsOf yX7_rightsOf, Cond.code yX7_rightsOf cX7_rightsOf 2 (some .int)]
def wsX11_set : List Cond := .code yX11_set cX11_set 5 (some .char) :: ((wsX11_set_r1 ++ (wsX11_set_r2 ++ (wsX11_set_r3 ++ wsX11_set_r4))) ++ wsX110 ++ wsX80 ++ wsX70 ++ (vx_atS RX11 49 "java/lang/IndexOutOfBoundsException" ["java/lang/RuntimeException", "java/lang/Exception"]).filter goodWord ++ (vx_atS RX11 82 "java/lang/IllegalArgumentException" ["java/lang/RuntimeException", "java/lang/Exception"]).filter goodWord ++ (vx_atM "java/lang/ArrayIndexOutOfBoundsException" ["java/lang/IndexOutOfBoundsException", "java/lang/RuntimeException", "java/lang/Exception"]).filter goodWord)
def wsX11_get_r1 : List Cond := [Cond.classLink RX11 45 "java/lang/IndexOutOfBoundsException", Cond.initialized "java/lang/IndexOutOfBoundsException", Cond.classLink RX11 130 "java/lang/UnsupportedOperationException", Cond.initialized "java/lang/UnsupportedOperationException", Cond.fieldLink RX11 10 "EventloopRow" "things" "LEventloopRow$Things;", Cond.constantLong RX11 128 (1099511627776), Cond.methodLink RX11 41 yX8_find, Cond.instanceMethod yX8_find, Cond.selects RX8 yX8_find yX8_find, Cond.initialized RX8, Cond.code yX8_find cX8_find 2 (some (.object "EventloopRow$Thing")), Cond.fieldLink RX8 17 "EventloopRow$Things" "count" "I", Cond.fieldLink RX8 11 "EventloopRow$Things" "row" "[LEventloopRow$Thing;", Cond.methodLink RX11 100 yX11_isKey, Cond.static yX11_isKey, Cond.initialized RX11, Cond.code yX11_isKey cX11_isKey 1 (some .boolean), Cond.methodLink RX11 124 yX8_getFrom, Cond.instanceMethod yX8_getFrom, Cond.selects RX8 yX8_getFrom yX8_getFrom, Cond.code yX8_getFrom cX8_getFrom 7 (some .long), Cond.fieldLink RX8 25 "EventloopRow$Thing" "revoked" "Z", Cond.constantLong RX8 33 (1099511627776), Cond.fieldLink RX8 29 "EventloopRow$Thing" "target" "LEventloopRow$Thing;"]
def wsX11_get_r2 : List Cond := [Cond.fieldLink RX8 57 "EventloopRow$Thing" "chain" "LEventloopRow$Thing;", Cond.methodLink RX8 21 yX7_isProxy, Cond.instanceMethod yX7_isProxy, Cond.selects RX7 yX7_isProxy yX7_isProxy, Cond.initialized RX7, Cond.code yX7_isProxy cX7_isProxy 1 (some .boolean), Cond.fieldLink RX7 9 "EventloopRow$Thing" "target" "LEventloopRow$Thing;", Cond.methodLink RX8 35 yX7_isTold, Cond.instanceMethod yX7_isTold, Cond.selects RX7 yX7_isTold yX7_isTold, Cond.code yX7_isTold cX7_isTold 2 (some .boolean), Cond.constant RX7 31 (1000000), Cond.methodLink RX7 38 yX7_answerTo, Cond.instanceMethod yX7_answerTo, Cond.selects RX7 yX7_answerTo yX7_answerTo, Cond.code yX7_answerTo cX7_answerTo 2 (some .int), Cond.fieldLink RX7 18 "EventloopRow$Thing" "answers" "[I", Cond.methodLink RX8 39 yX7_answerTo, Cond.methodLink RX8 43 yX8_plainBehind, Cond.instanceMethod yX8_plainBehind, Cond.selects RX8 yX8_plainBehind yX8_plainBehind, Cond.code yX8_plainBehind cX8_plainBehind 4 (some (.object "EventloopRow$Thing")), Cond.methodLink RX8 47 yX7_keepsOther, Cond.instanceMethod yX7_keepsOther]
def wsX11_get_r3 : List Cond := [Cond.selects RX7 yX7_keepsOther yX7_keepsOther, Cond.code yX7_keepsOther cX7_keepsOther 3 (some .boolean), Cond.methodLink RX7 42 yX7_holds, Cond.instanceMethod yX7_holds, Cond.selects RX7 yX7_holds yX7_holds, Cond.code yX7_holds cX7_holds 2 (some .boolean), Cond.fieldLink RX7 25 "EventloopRow$Thing" "rightsRow" "[I", Cond.methodLink RX7 46 yX7_canBe, Cond.instanceMethod yX7_canBe, Cond.selects RX7 yX7_canBe yX7_canBe, Cond.code yX7_canBe cX7_canBe 3 (some .boolean), Cond.methodLink RX7 50 yX7_valueOf, Cond.instanceMethod yX7_valueOf, Cond.selects RX7 yX7_valueOf yX7_valueOf, Cond.code yX7_valueOf cX7_valueOf 2 (some .int), Cond.fieldLink RX7 22 "EventloopRow$Thing" "values" "[I", Cond.methodLink RX8 51 yX7_holds, Cond.methodLink RX8 54 yX7_valueOf]
def wsX11_get : List Cond := .code yX11_get cX11_get 6 (some .int) :: ((wsX11_get_r1 ++ (wsX11_get_r2 ++ wsX11_get_r3)) ++ wsX110 ++ wsX80 ++ wsX70 ++ (vx_atS RX11 49 "java/lang/IndexOutOfBoundsException" ["java/lang/RuntimeException", "java/lang/Exception"]).filter goodWord ++ (vx_atS RX11 134 "java/lang/UnsupportedOperationException" ["java/lang/RuntimeException", "java/lang/Exception"]).filter goodWord ++ (vx_atM "java/lang/ArrayIndexOutOfBoundsException" ["java/lang/IndexOutOfBoundsException", "java/lang/RuntimeException", "java/lang/Exception"]).filter goodWord)
def wsX11_has_r1 : List Cond := [Cond.classLink RX11 45 "java/lang/IndexOutOfBoundsException", Cond.initialized "java/lang/IndexOutOfBoundsException", Cond.fieldLink RX11 10 "EventloopRow" "things" "LEventloopRow$Things;", Cond.methodLink RX11 41 yX8_find, Cond.instanceMethod yX8_find, Cond.selects RX8 yX8_find yX8_find, Cond.initialized RX8, Cond.code yX8_find cX8_find 2 (some (.object "EventloopRow$Thing")), Cond.fieldLink RX8 17 "EventloopRow$Things" "count" "I", Cond.fieldLink RX8 11 "EventloopRow$Things" "row" "[LEventloopRow$Thing;", Cond.methodLink RX11 100 yX11_isKey, Cond.static yX11_isKey, Cond.initialized RX11, Cond.code yX11_isKey cX11_isKey 1 (some .boolean), Cond.methodLink RX11 135 yX8_askFrom, Cond.instanceMethod yX8_askFrom, Cond.selects RX8 yX8_askFrom yX8_askFrom, Cond.code yX8_askFrom cX8_askFrom 7 (some .char), Cond.fieldLink RX8 25 "EventloopRow$Thing" "revoked" "Z", Cond.fieldLink RX8 29 "EventloopRow$Thing" "target" "LEventloopRow$Thing;", Cond.fieldLink RX8 57 "EventloopRow$Thing" "chain" "LEventloopRow$Thing;", Cond.methodLink RX8 21 yX7_isProxy, Cond.instanceMethod yX7_isProxy, Cond.selects RX7 yX7_isProxy yX7_isProxy]
def wsX11_has_r2 : List Cond := [Cond.initialized RX7, Cond.code yX7_isProxy cX7_isProxy 1 (some .boolean), Cond.fieldLink RX7 9 "EventloopRow$Thing" "target" "LEventloopRow$Thing;", Cond.methodLink RX8 35 yX7_isTold, Cond.instanceMethod yX7_isTold, Cond.selects RX7 yX7_isTold yX7_isTold, Cond.code yX7_isTold cX7_isTold 2 (some .boolean), Cond.constant RX7 31 (1000000), Cond.methodLink RX7 38 yX7_answerTo, Cond.instanceMethod yX7_answerTo, Cond.selects RX7 yX7_answerTo yX7_answerTo, Cond.code yX7_answerTo cX7_answerTo 2 (some .int), Cond.fieldLink RX7 18 "EventloopRow$Thing" "answers" "[I", Cond.methodLink RX8 39 yX7_answerTo, Cond.methodLink RX8 43 yX8_plainBehind, Cond.instanceMethod yX8_plainBehind, Cond.selects RX8 yX8_plainBehind yX8_plainBehind, Cond.code yX8_plainBehind cX8_plainBehind 4 (some (.object "EventloopRow$Thing")), Cond.methodLink RX8 60 yX7_keepsKey, Cond.instanceMethod yX7_keepsKey, Cond.selects RX7 yX7_keepsKey yX7_keepsKey, Cond.code yX7_keepsKey cX7_keepsKey 2 (some .boolean), Cond.fieldLink RX7 53 "EventloopRow$Thing" "closed" "Z", Cond.methodLink RX7 42 yX7_holds]
def wsX11_has_r3 : List Cond := [Cond.instanceMethod yX7_holds, Cond.selects RX7 yX7_holds yX7_holds, Cond.code yX7_holds cX7_holds 2 (some .boolean), Cond.fieldLink RX7 25 "EventloopRow$Thing" "rightsRow" "[I", Cond.methodLink RX7 46 yX7_canBe, Cond.instanceMethod yX7_canBe, Cond.selects RX7 yX7_canBe yX7_canBe, Cond.code yX7_canBe cX7_canBe 3 (some .boolean), Cond.methodLink RX8 63 yX8_yesOrNo, Cond.static yX8_yesOrNo, Cond.code yX8_yesOrNo cX8_yesOrNo 1 (some .char), Cond.methodLink RX8 51 yX7_holds]
def wsX11_has : List Cond := .code yX11_has cX11_has 4 (some .char) :: ((wsX11_has_r1 ++ (wsX11_has_r2 ++ wsX11_has_r3)) ++ wsX110 ++ wsX80 ++ wsX70 ++ (vx_atS RX11 49 "java/lang/IndexOutOfBoundsException" ["java/lang/RuntimeException", "java/lang/Exception"]).filter goodWord ++ (vx_atM "java/lang/ArrayIndexOutOfBoundsException" ["java/lang/IndexOutOfBoundsException", "java/lang/RuntimeException", "java/lang/Exception"]).filter goodWord)
def wsX11_delete_r1 : List Cond := [Cond.classLink RX11 45 "java/lang/IndexOutOfBoundsException", Cond.initialized "java/lang/IndexOutOfBoundsException", Cond.fieldLink RX11 10 "EventloopRow" "things" "LEventloopRow$Things;", Cond.methodLink RX11 41 yX8_find, Cond.instanceMethod yX8_find, Cond.selects RX8 yX8_find yX8_find, Cond.initialized RX8, Cond.code yX8_find cX8_find 2 (some (.object "EventloopRow$Thing")), Cond.fieldLink RX8 17 "EventloopRow$Things" "count" "I", Cond.fieldLink RX8 11 "EventloopRow$Things" "row" "[LEventloopRow$Thing;", Cond.methodLink RX11 100 yX11_isKey, Cond.static yX11_isKey, Cond.initialized RX11, Cond.code yX11_isKey cX11_isKey 1 (some .boolean), Cond.methodLink RX11 139 yX8_deleteFrom, Cond.instanceMethod yX8_deleteFrom, Cond.selects RX8 yX8_deleteFrom yX8_deleteFrom, Cond.code yX8_deleteFrom cX8_deleteFrom 7 (some .char), Cond.fieldLink RX8 25 "EventloopRow$Thing" "revoked" "Z", Cond.fieldLink RX8 29 "EventloopRow$Thing" "target" "LEventloopRow$Thing;", Cond.methodLink RX8 21 yX7_isProxy, Cond.instanceMethod yX7_isProxy, Cond.selects RX7 yX7_isProxy yX7_isProxy, Cond.initialized RX7]
def wsX11_delete_r2 : List Cond := [Cond.code yX7_isProxy cX7_isProxy 1 (some .boolean), Cond.fieldLink RX7 9 "EventloopRow$Thing" "target" "LEventloopRow$Thing;", Cond.methodLink RX8 81 yX7_takeOut, Cond.instanceMethod yX7_takeOut, Cond.selects RX7 yX7_takeOut yX7_takeOut, Cond.code yX7_takeOut cX7_takeOut 4 (some .char), Cond.fieldLink RX7 25 "EventloopRow$Thing" "rightsRow" "[I", Cond.fieldLink RX7 65 "EventloopRow$Thing" "keyCount" "I", Cond.fieldLink RX7 28 "EventloopRow$Thing" "keyRow" "[I", Cond.methodLink RX7 42 yX7_holds, Cond.instanceMethod yX7_holds, Cond.selects RX7 yX7_holds yX7_holds, Cond.code yX7_holds cX7_holds 2 (some .boolean), Cond.methodLink RX7 46 yX7_canBe, Cond.instanceMethod yX7_canBe, Cond.selects RX7 yX7_canBe yX7_canBe, Cond.code yX7_canBe cX7_canBe 3 (some .boolean), Cond.methodLink RX8 35 yX7_isTold, Cond.instanceMethod yX7_isTold, Cond.selects RX7 yX7_isTold yX7_isTold, Cond.code yX7_isTold cX7_isTold 2 (some .boolean), Cond.constant RX7 31 (1000000), Cond.methodLink RX7 38 yX7_answerTo, Cond.instanceMethod yX7_answerTo]
def wsX11_delete_r3 : List Cond := [Cond.selects RX7 yX7_answerTo yX7_answerTo, Cond.code yX7_answerTo cX7_answerTo 2 (some .int), Cond.fieldLink RX7 18 "EventloopRow$Thing" "answers" "[I", Cond.methodLink RX8 39 yX7_answerTo, Cond.methodLink RX8 43 yX8_plainBehind, Cond.instanceMethod yX8_plainBehind, Cond.selects RX8 yX8_plainBehind yX8_plainBehind, Cond.code yX8_plainBehind cX8_plainBehind 4 (some (.object "EventloopRow$Thing")), Cond.methodLink RX8 60 yX7_keepsKey, Cond.instanceMethod yX7_keepsKey, Cond.selects RX7 yX7_keepsKey yX7_keepsKey, Cond.code yX7_keepsKey cX7_keepsKey 2 (some .boolean), Cond.fieldLink RX7 53 "EventloopRow$Thing" "closed" "Z", Cond.methodLink RX8 63 yX8_yesOrNo, Cond.static yX8_yesOrNo, Cond.code yX8_yesOrNo cX8_yesOrNo 1 (some .char)]
def wsX11_delete : List Cond := .code yX11_delete cX11_delete 4 (some .char) :: ((wsX11_delete_r1 ++ (wsX11_delete_r2 ++ wsX11_delete_r3)) ++ wsX110 ++ wsX80 ++ wsX70 ++ (vx_atS RX11 49 "java/lang/IndexOutOfBoundsException" ["java/lang/RuntimeException", "java/lang/Exception"]).filter goodWord ++ (vx_atM "java/lang/ArrayIndexOutOfBoundsException" ["java/lang/IndexOutOfBoundsException", "java/lang/RuntimeException", "java/lang/Exception"]).filter goodWord)
def wsX11_closeObject : List Cond := .code yX11_closeObject cX11_closeObject 4 (some .char) :: ([.classLink RX11 45 "java/lang/IndexOutOfBoundsException", .initialized "java/lang/IndexOutOfBoundsException", .fieldLink RX11 10 "EventloopRow" "things" "LEventloopRow$Things;", .fieldLink RX11 142 "EventloopRow$Thing" "closed" "Z", .methodLink RX11 41 yX8_find, .instanceMethod yX8_find, .selects RX8 yX8_find yX8_find, .initialized RX8, .code yX8_find cX8_find 2 (some (.object "EventloopRow$Thing")), .fieldLink RX8 17 "EventloopRow$Things" "count" "I", .fieldLink RX8 11 "EventloopRow$Things" "row" "[LEventloopRow$Thing;", .methodLink RX11 110 yX8_plainBehind, .instanceMethod yX8_plainBehind, .selects RX8 yX8_plainBehind yX8_plainBehind, .code yX8_plainBehind cX8_plainBehind 4 (some (.object "EventloopRow$Thing")), .fieldLink RX8 25 "EventloopRow$Thing" "revoked" "Z", .fieldLink RX8 29 "EventloopRow$Thing" "target" "LEventloopRow$Thing;", .methodLink RX8 21 yX7_isProxy, .instanceMethod yX7_isProxy, .selects RX7 yX7_isProxy yX7_isProxy, .initialized RX7, .code yX7_isProxy cX7_isProxy 1 (some .boolean), .fieldLink RX7 9 "EventloopRow$Thing" "target" "LEventloopRow$Thing;"] ++ wsX110 ++ wsX70 ++ wsX80 ++ (vx_atS RX11 49 "java/lang/IndexOutOfBoundsException" ["java/lang/RuntimeException", "java/lang/Exception"]).filter goodWord)
def wsX11_setChain_r1 : List Cond := [Cond.classLink RX11 45 "java/lang/IndexOutOfBoundsException", Cond.initialized "java/lang/IndexOutOfBoundsException", Cond.fieldLink RX11 10 "EventloopRow" "things" "LEventloopRow$Things;", Cond.methodLink RX11 41 yX8_find, Cond.instanceMethod yX8_find, Cond.selects RX8 yX8_find yX8_find, Cond.initialized RX8, Cond.code yX8_find cX8_find 2 (some (.object "EventloopRow$Thing")), Cond.fieldLink RX8 17 "EventloopRow$Things" "count" "I", Cond.fieldLink RX8 11 "EventloopRow$Things" "row" "[LEventloopRow$Thing;", Cond.methodLink RX11 110 yX8_plainBehind, Cond.instanceMethod yX8_plainBehind, Cond.selects RX8 yX8_plainBehind yX8_plainBehind, Cond.code yX8_plainBehind cX8_plainBehind 4 (some (.object "EventloopRow$Thing")), Cond.fieldLink RX8 25 "EventloopRow$Thing" "revoked" "Z", Cond.fieldLink RX8 29 "EventloopRow$Thing" "target" "LEventloopRow$Thing;", Cond.methodLink RX8 21 yX7_isProxy, Cond.instanceMethod yX7_isProxy, Cond.selects RX7 yX7_isProxy yX7_isProxy, Cond.initialized RX7, Cond.code yX7_isProxy cX7_isProxy 1 (some .boolean), Cond.fieldLink RX7 9 "EventloopRow$Thing" "target" "LEventloopRow$Thing;", Cond.methodLink RX11 145 yX8_chainTo, Cond.instanceMethod yX8_chainTo]
def wsX11_setChain_r2 : List Cond := [Cond.selects RX8 yX8_chainTo yX8_chainTo, Cond.code yX8_chainTo cX8_chainTo 5 (some .char), Cond.fieldLink RX8 57 "EventloopRow$Thing" "chain" "LEventloopRow$Thing;", Cond.fieldLink RX8 85 "EventloopRow$Thing" "closed" "Z"]
def wsX11_setChain : List Cond := .code yX11_setChain cX11_setChain 6 (some .char) :: ((wsX11_setChain_r1 ++ wsX11_setChain_r2) ++ wsX110 ++ wsX80 ++ wsX70 ++ (vx_atS RX11 49 "java/lang/IndexOutOfBoundsException" ["java/lang/RuntimeException", "java/lang/Exception"]).filter goodWord)
def wsX11_keys_r1 : List Cond := [Cond.classLink RX11 45 "java/lang/IndexOutOfBoundsException", Cond.initialized "java/lang/IndexOutOfBoundsException", Cond.classLink RX11 130 "java/lang/UnsupportedOperationException", Cond.initialized "java/lang/UnsupportedOperationException", Cond.fieldLink RX11 10 "EventloopRow" "things" "LEventloopRow$Things;", Cond.fieldLink RX11 149 "EventloopRow$Thing" "keyCount" "I", Cond.methodLink RX11 41 yX8_find, Cond.instanceMethod yX8_find, Cond.selects RX8 yX8_find yX8_find, Cond.initialized RX8, Cond.code yX8_find cX8_find 2 (some (.object "EventloopRow$Thing")), Cond.fieldLink RX8 17 "EventloopRow$Things" "count" "I", Cond.fieldLink RX8 11 "EventloopRow$Things" "row" "[LEventloopRow$Thing;", Cond.methodLink RX11 110 yX8_plainBehind, Cond.instanceMethod yX8_plainBehind, Cond.selects RX8 yX8_plainBehind yX8_plainBehind, Cond.code yX8_plainBehind cX8_plainBehind 4 (some (.object "EventloopRow$Thing")), Cond.fieldLink RX8 25 "EventloopRow$Thing" "revoked" "Z", Cond.fieldLink RX8 29 "EventloopRow$Thing" "target" "LEventloopRow$Thing;", Cond.methodLink RX8 21 yX7_isProxy, Cond.instanceMethod yX7_isProxy, Cond.selects RX7 yX7_isProxy yX7_isProxy, Cond.initialized RX7, Cond.code yX7_isProxy cX7_isProxy 1 (some .boolean)]
def wsX11_keys_r2 : List Cond := [Cond.fieldLink RX7 9 "EventloopRow$Thing" "target" "LEventloopRow$Thing;"]
def wsX11_keys : List Cond := .code yX11_keys cX11_keys 4 (some .int) :: ((wsX11_keys_r1 ++ wsX11_keys_r2) ++ wsX110 ++ wsX70 ++ wsX80 ++ (vx_atS RX11 49 "java/lang/IndexOutOfBoundsException" ["java/lang/RuntimeException", "java/lang/Exception"]).filter goodWord ++ (vx_atS RX11 134 "java/lang/UnsupportedOperationException" ["java/lang/RuntimeException", "java/lang/Exception"]).filter goodWord)
def wsX11_keyAt_r1 : List Cond := [Cond.classLink RX11 45 "java/lang/IndexOutOfBoundsException", Cond.initialized "java/lang/IndexOutOfBoundsException", Cond.classLink RX11 130 "java/lang/UnsupportedOperationException", Cond.initialized "java/lang/UnsupportedOperationException", Cond.classLink RX11 157 "java/util/NoSuchElementException", Cond.initialized "java/util/NoSuchElementException", Cond.fieldLink RX11 10 "EventloopRow" "things" "LEventloopRow$Things;", Cond.methodLink RX11 41 yX8_find, Cond.instanceMethod yX8_find, Cond.selects RX8 yX8_find yX8_find, Cond.initialized RX8, Cond.code yX8_find cX8_find 2 (some (.object "EventloopRow$Thing")), Cond.fieldLink RX8 17 "EventloopRow$Things" "count" "I", Cond.fieldLink RX8 11 "EventloopRow$Things" "row" "[LEventloopRow$Thing;", Cond.methodLink RX11 110 yX8_plainBehind, Cond.instanceMethod yX8_plainBehind, Cond.selects RX8 yX8_plainBehind yX8_plainBehind, Cond.code yX8_plainBehind cX8_plainBehind 4 (some (.object "EventloopRow$Thing")), Cond.fieldLink RX8 25 "EventloopRow$Thing" "revoked" "Z", Cond.fieldLink RX8 29 "EventloopRow$Thing" "target" "LEventloopRow$Thing;", Cond.methodLink RX8 21 yX7_isProxy, Cond.instanceMethod yX7_isProxy, Cond.selects RX7 yX7_isProxy yX7_isProxy, Cond.initialized RX7]
def wsX11_keyAt_r2 : List Cond := [Cond.code yX7_isProxy cX7_isProxy 1 (some .boolean), Cond.fieldLink RX7 9 "EventloopRow$Thing" "target" "LEventloopRow$Thing;", Cond.methodLink RX11 153 yX7_listedAt, Cond.instanceMethod yX7_listedAt, Cond.selects RX7 yX7_listedAt yX7_listedAt, Cond.code yX7_listedAt cX7_listedAt 2 (some .int), Cond.fieldLink RX7 65 "EventloopRow$Thing" "keyCount" "I", Cond.fieldLink RX7 28 "EventloopRow$Thing" "keyRow" "[I"]
def wsX11_keyAt : List Cond := .code yX11_keyAt cX11_keyAt 6 (some .int) :: ((wsX11_keyAt_r1 ++ wsX11_keyAt_r2) ++ wsX110 ++ wsX80 ++ wsX70 ++ (vx_atS RX11 49 "java/lang/IndexOutOfBoundsException" ["java/lang/RuntimeException", "java/lang/Exception"]).filter goodWord ++ (vx_atS RX11 134 "java/lang/UnsupportedOperationException" ["java/lang/RuntimeException", "java/lang/Exception"]).filter goodWord ++ (vx_atS RX11 161 "java/util/NoSuchElementException" ["java/lang/RuntimeException", "java/lang/Exception"]).filter goodWord ++ (vx_atM "java/lang/ArrayIndexOutOfBoundsException" ["java/lang/IndexOutOfBoundsException", "java/lang/RuntimeException", "java/lang/Exception"]).filter goodWord)
def wsX11_rights_r1 : List Cond := [Cond.classLink RX11 45 "java/lang/IndexOutOfBoundsException", Cond.initialized "java/lang/IndexOutOfBoundsException", Cond.classLink RX11 130 "java/lang/UnsupportedOperationException", Cond.initialized "java/lang/UnsupportedOperationException", Cond.classLink RX11 157 "java/util/NoSuchElementException", Cond.initialized "java/util/NoSuchElementException", Cond.fieldLink RX11 10 "EventloopRow" "things" "LEventloopRow$Things;", Cond.methodLink RX11 41 yX8_find, Cond.instanceMethod yX8_find, Cond.selects RX8 yX8_find yX8_find, Cond.initialized RX8, Cond.code yX8_find cX8_find 2 (some (.object "EventloopRow$Thing")), Cond.fieldLink RX8 17 "EventloopRow$Things" "count" "I", Cond.fieldLink RX8 11 "EventloopRow$Things" "row" "[LEventloopRow$Thing;", Cond.methodLink RX11 100 yX11_isKey, Cond.static yX11_isKey, Cond.initialized RX11, Cond.code yX11_isKey cX11_isKey 1 (some .boolean), Cond.methodLink RX11 110 yX8_plainBehind, Cond.instanceMethod yX8_plainBehind, Cond.selects RX8 yX8_plainBehind yX8_plainBehind, Cond.code yX8_plainBehind cX8_plainBehind 4 (some (.object "EventloopRow$Thing")), Cond.fieldLink RX8 25 "EventloopRow$Thing" "revoked" "Z", Cond.fieldLink RX8 29 "EventloopRow$Thing" "target" "LEventloopRow$Thing;"]
def wsX11_rights_r2 : List Cond := [Cond.methodLink RX8 21 yX7_isProxy, Cond.instanceMethod yX7_isProxy, Cond.selects RX7 yX7_isProxy yX7_isProxy, Cond.initialized RX7, Cond.code yX7_isProxy cX7_isProxy 1 (some .boolean), Cond.fieldLink RX7 9 "EventloopRow$Thing" "target" "LEventloopRow$Thing;", Cond.methodLink RX11 162 yX7_rightsOf, Cond.instanceMethod yX7_rightsOf, Cond.selects RX7 yX7_rightsOf yX7_rightsOf, Cond.code yX7_rightsOf cX7_rightsOf 2 (some .int), Cond.fieldLink RX7 25 "EventloopRow$Thing" "rightsRow" "[I"]
def wsX11_rights : List Cond := .code yX11_rights cX11_rights 6 (some .int) :: ((wsX11_rights_r1 ++ wsX11_rights_r2) ++ wsX110 ++ wsX80 ++ wsX70 ++ (vx_atS RX11 49 "java/lang/IndexOutOfBoundsException" ["java/lang/RuntimeException", "java/lang/Exception"]).filter goodWord ++ (vx_atS RX11 134 "java/lang/UnsupportedOperationException" ["java/lang/RuntimeException", "java/lang/Exception"]).filter goodWord ++ (vx_atS RX11 161 "java/util/NoSuchElementException" ["java/lang/RuntimeException", "java/lang/Exception"]).filter goodWord ++ (vx_atM "java/lang/ArrayIndexOutOfBoundsException" ["java/lang/IndexOutOfBoundsException", "java/lang/RuntimeException", "java/lang/Exception"]).filter goodWord)
def wsX11_isSound_r1 : List Cond := [Cond.fieldLink RX11 28 "EventloopRow" "promiseRow" "LEventloopRow$PromiseRow;", Cond.fieldLink RX11 19 "EventloopRow" "jobRow" "LEventloopRow$JobRow;", Cond.fieldLink RX11 10 "EventloopRow" "things" "LEventloopRow$Things;", Cond.methodLink RX11 281 yX5_isSettledClean, Cond.instanceMethod yX5_isSettledClean, Cond.selects RX5 yX5_isSettledClean yX5_isSettledClean, Cond.initialized RX5, Cond.code yX5_isSettledClean cX5_isSettledClean 3 (some .boolean), Cond.fieldLink RX5 25 "EventloopRow$PromiseRow" "count" "I", Cond.fieldLink RX5 67 "EventloopRow$Promise" "state" "C", Cond.fieldLink RX5 77 "EventloopRow$Promise" "first" "LEventloopRow$Job;", Cond.methodLink RX5 29 yX5_find, Cond.instanceMethod yX5_find, Cond.selects RX5 yX5_find yX5_find, Cond.code yX5_find cX5_find 2 (some (.object "EventloopRow$Promise")), Cond.fieldLink RX5 11 "EventloopRow$PromiseRow" "row" "[LEventloopRow$Promise;", Cond.methodLink RX11 284 yX2_hasJob, Cond.instanceMethod yX2_hasJob, Cond.selects RX2 yX2_hasJob yX2_hasJob, Cond.initialized RX2, Cond.code yX2_hasJob cX2_hasJob 1 (some .boolean), Cond.fieldLink RX2 48 "EventloopRow$JobRow" "first" "LEventloopRow$Job;", Cond.methodLink RX11 287 yX8_areListed, Cond.instanceMethod yX8_areListed]
def wsX11_isSound_r2 : List Cond := [Cond.selects RX8 yX8_areListed yX8_areListed, Cond.initialized RX8, Cond.code yX8_areListed cX8_areListed 3 (some .boolean), Cond.fieldLink RX8 17 "EventloopRow$Things" "count" "I", Cond.methodLink RX8 88 yX8_find, Cond.instanceMethod yX8_find, Cond.selects RX8 yX8_find yX8_find, Cond.code yX8_find cX8_find 2 (some (.object "EventloopRow$Thing")), Cond.fieldLink RX8 11 "EventloopRow$Things" "row" "[LEventloopRow$Thing;", Cond.methodLink RX8 21 yX7_isProxy, Cond.instanceMethod yX7_isProxy, Cond.selects RX7 yX7_isProxy yX7_isProxy, Cond.initialized RX7, Cond.code yX7_isProxy cX7_isProxy 1 (some .boolean), Cond.fieldLink RX7 9 "EventloopRow$Thing" "target" "LEventloopRow$Thing;", Cond.methodLink RX8 92 yX7_isListed, Cond.instanceMethod yX7_isListed, Cond.selects RX7 yX7_isListed yX7_isListed, Cond.code yX7_isListed cX7_isListed 4 (some .boolean), Cond.fieldLink RX7 65 "EventloopRow$Thing" "keyCount" "I", Cond.methodLink RX7 42 yX7_holds, Cond.instanceMethod yX7_holds, Cond.selects RX7 yX7_holds yX7_holds, Cond.code yX7_holds cX7_holds 2 (some .boolean)]
def wsX11_isSound_r3 : List Cond := [Cond.fieldLink RX7 25 "EventloopRow$Thing" "rightsRow" "[I", Cond.methodLink RX7 69 yX7_listedAt, Cond.instanceMethod yX7_listedAt, Cond.selects RX7 yX7_listedAt yX7_listedAt, Cond.code yX7_listedAt cX7_listedAt 2 (some .int), Cond.fieldLink RX7 28 "EventloopRow$Thing" "keyRow" "[I", Cond.methodLink RX7 72 yX7_isInOrder, Cond.instanceMethod yX7_isInOrder, Cond.selects RX7 yX7_isInOrder yX7_isInOrder, Cond.code yX7_isInOrder cX7_isInOrder 5 (some .boolean)]
def wsX11_isSound : List Cond := .code yX11_isSound cX11_isSound 1 (some .boolean) :: ((wsX11_isSound_r1 ++ (wsX11_isSound_r2 ++ wsX11_isSound_r3)) ++ wsX110 ++ wsX50 ++ wsX20 ++ wsX80 ++ wsX70 ++ (vx_atM "java/lang/ArrayIndexOutOfBoundsException" ["java/lang/IndexOutOfBoundsException", "java/lang/RuntimeException", "java/lang/Exception"]).filter goodWord)
def wsJx00060_init_a7421 : List Cond := .code yJx00060_init_a7421 cJx00060_init_a7421 2 none :: ([])
def wsJ0_isLatin1_aae02 : List Cond := .code yJ0_isLatin1_aae02 cJ0_isLatin1_aae02 1 (some .boolean) :: ([.fieldLink RJ0 38 "java/lang/String" "COMPACT_STRINGS" "Z", .fieldLink RJ0 15 "java/lang/String" "coder" "B"] ++ wsJ00)
def wsJ3_checkIndex_8e157 : List Cond := .code yJ3_checkIndex_8e157 cJ3_checkIndex_8e157 3 (some .int) :: ([])
def wsJ0_checkIndex_df160 : List Cond := .code yJ0_checkIndex_df160 cJ0_checkIndex_df160 2 none :: ([.fieldLink RJ0 1053 "jdk/internal/util/Preconditions" "SIOOBE_FORMATTER" "Ljava/util/function/BiFunction;", .methodLink RJ0 1059 yJ3_checkIndex_8e157, .static yJ3_checkIndex_8e157, .initialized RJ3, .code yJ3_checkIndex_8e157 cJ3_checkIndex_8e157 3 (some .int)])
def wsJ1_charAt_3b067 : List Cond := .code yJ1_charAt_3b067 cJ1_charAt_3b067 2 (some .char) :: ([.methodLink RJ1 9 yJ0_checkIndex_df160, .static yJ0_checkIndex_df160, .initialized RJ0, .code yJ0_checkIndex_df160 cJ0_checkIndex_df160 2 none, .fieldLink RJ0 1053 "jdk/internal/util/Preconditions" "SIOOBE_FORMATTER" "Ljava/util/function/BiFunction;", .methodLink RJ0 1059 yJ3_checkIndex_8e157, .static yJ3_checkIndex_8e157, .initialized RJ3, .code yJ3_checkIndex_8e157 cJ3_checkIndex_8e157 3 (some .int)])
def wsJ2_length_9d52b : List Cond := .code yJ2_length_9d52b cJ2_length_9d52b 1 (some .int) :: ([])
def wsJ2_checkIndex_2214a : List Cond := .code yJ2_checkIndex_2214a cJ2_checkIndex_2214a 2 none :: ([.methodLink RJ2 48 yJ2_length_9d52b, .static yJ2_length_9d52b, .initialized RJ2, .code yJ2_length_9d52b cJ2_length_9d52b 1 (some .int), .methodLink RJ2 414 yJ0_checkIndex_df160, .static yJ0_checkIndex_df160, .initialized RJ0, .code yJ0_checkIndex_df160 cJ0_checkIndex_df160 2 none, .fieldLink RJ0 1053 "jdk/internal/util/Preconditions" "SIOOBE_FORMATTER" "Ljava/util/function/BiFunction;", .methodLink RJ0 1059 yJ3_checkIndex_8e157, .static yJ3_checkIndex_8e157, .initialized RJ3, .code yJ3_checkIndex_8e157 cJ3_checkIndex_8e157 3 (some .int)])
def wsJ2_getChar_3b067 : List Cond := .code yJ2_getChar_3b067 cJ2_getChar_3b067 2 (some .char) :: ([.fieldLink RJ2 44 "java/lang/StringUTF16" "$assertionsDisabled" "Z", .fieldLink RJ2 59 "java/lang/StringUTF16" "HI_BYTE_SHIFT" "I", .fieldLink RJ2 63 "java/lang/StringUTF16" "LO_BYTE_SHIFT" "I", .methodLink RJ2 48 yJ2_length_9d52b, .static yJ2_length_9d52b, .initialized RJ2, .code yJ2_length_9d52b cJ2_length_9d52b 1 (some .int)])
def wsJ2_charAt_3b067 : List Cond := .code yJ2_charAt_3b067 cJ2_charAt_3b067 2 (some .char) :: ([.methodLink RJ2 67 yJ2_checkIndex_2214a, .static yJ2_checkIndex_2214a, .initialized RJ2, .code yJ2_checkIndex_2214a cJ2_checkIndex_2214a 2 none, .methodLink RJ2 48 yJ2_length_9d52b, .static yJ2_length_9d52b, .code yJ2_length_9d52b cJ2_length_9d52b 1 (some .int), .methodLink RJ2 414 yJ0_checkIndex_df160, .static yJ0_checkIndex_df160, .initialized RJ0, .code yJ0_checkIndex_df160 cJ0_checkIndex_df160 2 none, .fieldLink RJ0 1053 "jdk/internal/util/Preconditions" "SIOOBE_FORMATTER" "Ljava/util/function/BiFunction;", .methodLink RJ0 1059 yJ3_checkIndex_8e157, .static yJ3_checkIndex_8e157, .initialized RJ3, .code yJ3_checkIndex_8e157 cJ3_checkIndex_8e157 3 (some .int), .methodLink RJ2 71 yJ2_getChar_3b067, .static yJ2_getChar_3b067, .code yJ2_getChar_3b067 cJ2_getChar_3b067 2 (some .char), .fieldLink RJ2 44 "java/lang/StringUTF16" "$assertionsDisabled" "Z", .fieldLink RJ2 59 "java/lang/StringUTF16" "HI_BYTE_SHIFT" "I", .fieldLink RJ2 63 "java/lang/StringUTF16" "LO_BYTE_SHIFT" "I"])
def wsJ0_charAt_5068e_r1 : List Cond := [Cond.fieldLink RJ0 9 "java/lang/String" "value" "[B", Cond.methodLink RJ0 492 yJ0_isLatin1_aae02, Cond.instanceMethod yJ0_isLatin1_aae02, Cond.selects RJ0 yJ0_isLatin1_aae02 yJ0_isLatin1_aae02, Cond.initialized RJ0, Cond.code yJ0_isLatin1_aae02 cJ0_isLatin1_aae02 1 (some .boolean), Cond.fieldLink RJ0 38 "java/lang/String" "COMPACT_STRINGS" "Z", Cond.fieldLink RJ0 15 "java/lang/String" "coder" "B", Cond.methodLink RJ0 495 yJ1_charAt_3b067, Cond.static yJ1_charAt_3b067, Cond.initialized RJ1, Cond.code yJ1_charAt_3b067 cJ1_charAt_3b067 2 (some .char), Cond.methodLink RJ1 9 yJ0_checkIndex_df160, Cond.static yJ0_checkIndex_df160, Cond.code yJ0_checkIndex_df160 cJ0_checkIndex_df160 2 none, Cond.fieldLink RJ0 1053 "jdk/internal/util/Preconditions" "SIOOBE_FORMATTER" "Ljava/util/function/BiFunction;", Cond.methodLink RJ0 1059 yJ3_checkIndex_8e157, Cond.static yJ3_checkIndex_8e157, Cond.initialized RJ3, Cond.code yJ3_checkIndex_8e157 cJ3_checkIndex_8e157 3 (some .int), Cond.methodLink RJ0 498 yJ2_charAt_3b067, Cond.static yJ2_charAt_3b067, Cond.initialized RJ2, Cond.code yJ2_charAt_3b067 cJ2_charAt_3b067 2 (some .char)]
def wsJ0_charAt_5068e_r2 : List Cond := [Cond.methodLink RJ2 67 yJ2_checkIndex_2214a, Cond.static yJ2_checkIndex_2214a, Cond.code yJ2_checkIndex_2214a cJ2_checkIndex_2214a 2 none, Cond.methodLink RJ2 48 yJ2_length_9d52b, Cond.static yJ2_length_9d52b, Cond.code yJ2_length_9d52b cJ2_length_9d52b 1 (some .int), Cond.methodLink RJ2 414 yJ0_checkIndex_df160, Cond.methodLink RJ2 71 yJ2_getChar_3b067, Cond.static yJ2_getChar_3b067, Cond.code yJ2_getChar_3b067 cJ2_getChar_3b067 2 (some .char), Cond.fieldLink RJ2 44 "java/lang/StringUTF16" "$assertionsDisabled" "Z", Cond.fieldLink RJ2 59 "java/lang/StringUTF16" "HI_BYTE_SHIFT" "I", Cond.fieldLink RJ2 63 "java/lang/StringUTF16" "LO_BYTE_SHIFT" "I"]
def wsJ0_charAt_5068e : List Cond := .code yJ0_charAt_5068e cJ0_charAt_5068e 2 (some .char) :: ((wsJ0_charAt_5068e_r1 ++ wsJ0_charAt_5068e_r2) ++ wsJ00)
def wsL_cell : List Cond := .code yL_cell cL_cell 3 (some .int) :: ([.constant RL 7 (69069), .constant RL 8 (1103515245)] ++ (vx_atM "java/lang/ArrayIndexOutOfBoundsException" ["java/lang/IndexOutOfBoundsException", "java/lang/RuntimeException", "java/lang/Exception"]).filter goodWord)
def wsL_addObject_r1 : List Cond := [Cond.classLink RL 15 "java/lang/IndexOutOfBoundsException", Cond.classLink RL 18 "java/lang/IllegalStateException", Cond.constant RL 17 (-900001), Cond.constant RL 20 (-900002), Cond.methodLink RL 9 yX11_addObject, Cond.instanceMethod yX11_addObject, Cond.selects RX11 yX11_addObject yX11_addObject, Cond.initialized RX11, Cond.code yX11_addObject cX11_addObject 2 (some .int), Cond.classLink RX11 45 "java/lang/IndexOutOfBoundsException", Cond.initialized "java/lang/IndexOutOfBoundsException", Cond.classLink RX11 56 "java/lang/IllegalStateException", Cond.initialized "java/lang/IllegalStateException", Cond.fieldLink RX11 10 "EventloopRow" "things" "LEventloopRow$Things;", Cond.classLink RX11 61 RX7, Cond.instantiable RX7 9, Cond.initialized RX7, Cond.methodLink RX11 41 yX8_find, Cond.instanceMethod yX8_find, Cond.selects RX8 yX8_find yX8_find, Cond.initialized RX8, Cond.code yX8_find cX8_find 2 (some (.object "EventloopRow$Thing")), Cond.fieldLink RX8 17 "EventloopRow$Things" "count" "I", Cond.fieldLink RX8 11 "EventloopRow$Things" "row" "[LEventloopRow$Thing;"]
def wsL_addObject_r2 : List Cond := [Cond.methodLink RX11 52 yX8_isFull, Cond.instanceMethod yX8_isFull, Cond.selects RX8 yX8_isFull yX8_isFull, Cond.code yX8_isFull cX8_isFull 1 (some .boolean), Cond.methodLink RX11 63 yX7_init, Cond.instanceMethod yX7_init, Cond.code yX7_init cX7_init 3 none, Cond.methodLink RX7 3 objectInit, Cond.instanceMethod objectInit, Cond.code objectInit ⟨#[0xb1]⟩ 1 none, Cond.fieldLink RX7 9 "EventloopRow$Thing" "target" "LEventloopRow$Thing;", Cond.fieldLink RX7 15 "EventloopRow$Thing" "chain" "LEventloopRow$Thing;", Cond.arrayClass .int, Cond.fieldLink RX7 18 "EventloopRow$Thing" "answers" "[I", Cond.fieldLink RX7 22 "EventloopRow$Thing" "values" "[I", Cond.fieldLink RX7 25 "EventloopRow$Thing" "rightsRow" "[I", Cond.fieldLink RX7 28 "EventloopRow$Thing" "keyRow" "[I", Cond.constant RX7 31 (1000000), Cond.methodLink RX7 32 yJ7_fill_53178, Cond.static yJ7_fill_53178, Cond.initialized RJ7, Cond.code yJ7_fill_53178 cJ7_fill_53178 4 none, Cond.methodLink RX11 66 yX8_append, Cond.instanceMethod yX8_append]
def wsL_addObject_r3 : List Cond := [Cond.selects RX8 yX8_append yX8_append, Cond.code yX8_append cX8_append 2 (some .int)]
def wsL_addObject : List Cond := .codeWith yL_addObject cL_addObject 3 (some .int) [(0, 5, 6, 15), (0, 5, 10, 18)] :: ((wsL_addObject_r1 ++ (wsL_addObject_r2 ++ wsL_addObject_r3)) ++ wsX110 ++ wsX70 ++ wsX80 ++ (vx_atS RX11 49 "java/lang/IndexOutOfBoundsException" ["java/lang/RuntimeException", "java/lang/Exception"]).filter goodWord ++ (vx_atS RX11 60 "java/lang/IllegalStateException" ["java/lang/RuntimeException", "java/lang/Exception"]).filter goodWord)
def wsL_addProxy_r1 : List Cond := [Cond.classLink RL 15 "java/lang/IndexOutOfBoundsException", Cond.classLink RL 18 "java/lang/IllegalStateException", Cond.constant RL 17 (-900001), Cond.constant RL 20 (-900002), Cond.methodLink RL 21 yX11_addProxy, Cond.instanceMethod yX11_addProxy, Cond.selects RX11 yX11_addProxy yX11_addProxy, Cond.initialized RX11, Cond.code yX11_addProxy cX11_addProxy 3 (some .int), Cond.classLink RX11 45 "java/lang/IndexOutOfBoundsException", Cond.initialized "java/lang/IndexOutOfBoundsException", Cond.classLink RX11 56 "java/lang/IllegalStateException", Cond.initialized "java/lang/IllegalStateException", Cond.fieldLink RX11 10 "EventloopRow" "things" "LEventloopRow$Things;", Cond.classLink RX11 61 RX7, Cond.instantiable RX7 9, Cond.initialized RX7, Cond.methodLink RX11 41 yX8_find, Cond.instanceMethod yX8_find, Cond.selects RX8 yX8_find yX8_find, Cond.initialized RX8, Cond.code yX8_find cX8_find 2 (some (.object "EventloopRow$Thing")), Cond.fieldLink RX8 17 "EventloopRow$Things" "count" "I", Cond.fieldLink RX8 11 "EventloopRow$Things" "row" "[LEventloopRow$Thing;"]
def wsL_addProxy_r2 : List Cond := [Cond.methodLink RX11 52 yX8_isFull, Cond.instanceMethod yX8_isFull, Cond.selects RX8 yX8_isFull yX8_isFull, Cond.code yX8_isFull cX8_isFull 1 (some .boolean), Cond.methodLink RX11 63 yX7_init, Cond.instanceMethod yX7_init, Cond.code yX7_init cX7_init 3 none, Cond.methodLink RX7 3 objectInit, Cond.instanceMethod objectInit, Cond.code objectInit ⟨#[0xb1]⟩ 1 none, Cond.fieldLink RX7 9 "EventloopRow$Thing" "target" "LEventloopRow$Thing;", Cond.fieldLink RX7 15 "EventloopRow$Thing" "chain" "LEventloopRow$Thing;", Cond.arrayClass .int, Cond.fieldLink RX7 18 "EventloopRow$Thing" "answers" "[I", Cond.fieldLink RX7 22 "EventloopRow$Thing" "values" "[I", Cond.fieldLink RX7 25 "EventloopRow$Thing" "rightsRow" "[I", Cond.fieldLink RX7 28 "EventloopRow$Thing" "keyRow" "[I", Cond.constant RX7 31 (1000000), Cond.methodLink RX7 32 yJ7_fill_53178, Cond.static yJ7_fill_53178, Cond.initialized RJ7, Cond.code yJ7_fill_53178 cJ7_fill_53178 4 none, Cond.methodLink RX11 66 yX8_append, Cond.instanceMethod yX8_append]
def wsL_addProxy_r3 : List Cond := [Cond.selects RX8 yX8_append yX8_append, Cond.code yX8_append cX8_append 2 (some .int)]
def wsL_addProxy : List Cond := .codeWith yL_addProxy cL_addProxy 3 (some .int) [(0, 5, 6, 15), (0, 5, 10, 18)] :: ((wsL_addProxy_r1 ++ (wsL_addProxy_r2 ++ wsL_addProxy_r3)) ++ wsX110 ++ wsX70 ++ wsX80 ++ (vx_atS RX11 49 "java/lang/IndexOutOfBoundsException" ["java/lang/RuntimeException", "java/lang/Exception"]).filter goodWord ++ (vx_atS RX11 60 "java/lang/IllegalStateException" ["java/lang/RuntimeException", "java/lang/Exception"]).filter goodWord)
def wsL_define_r1 : List Cond := [Cond.classLink RL 15 "java/lang/IndexOutOfBoundsException", Cond.classLink RL 28 "java/lang/IllegalArgumentException", Cond.constant RL 17 (-900001), Cond.constant RL 20 (-900002), Cond.methodLink RL 24 yX11_define, Cond.instanceMethod yX11_define, Cond.selects RX11 yX11_define yX11_define, Cond.initialized RX11, Cond.code yX11_define cX11_define 7 (some .char), Cond.classLink RX11 45 "java/lang/IndexOutOfBoundsException", Cond.initialized "java/lang/IndexOutOfBoundsException", Cond.classLink RX11 78 "java/lang/IllegalArgumentException", Cond.initialized "java/lang/IllegalArgumentException", Cond.fieldLink RX11 10 "EventloopRow" "things" "LEventloopRow$Things;", Cond.methodLink RX11 41 yX8_find, Cond.instanceMethod yX8_find, Cond.selects RX8 yX8_find yX8_find, Cond.initialized RX8, Cond.code yX8_find cX8_find 2 (some (.object "EventloopRow$Thing")), Cond.fieldLink RX8 17 "EventloopRow$Things" "count" "I", Cond.fieldLink RX8 11 "EventloopRow$Things" "row" "[LEventloopRow$Thing;", Cond.methodLink RX11 100 yX11_isKey, Cond.static yX11_isKey, Cond.code yX11_isKey cX11_isKey 1 (some .boolean)]
def wsL_define_r2 : List Cond := [Cond.methodLink RX11 105 yX11_isValue, Cond.static yX11_isValue, Cond.code yX11_isValue cX11_isValue 1 (some .boolean), Cond.methodLink RX11 110 yX8_plainBehind, Cond.instanceMethod yX8_plainBehind, Cond.selects RX8 yX8_plainBehind yX8_plainBehind, Cond.code yX8_plainBehind cX8_plainBehind 4 (some (.object "EventloopRow$Thing")), Cond.fieldLink RX8 25 "EventloopRow$Thing" "revoked" "Z", Cond.fieldLink RX8 29 "EventloopRow$Thing" "target" "LEventloopRow$Thing;", Cond.methodLink RX8 21 yX7_isProxy, Cond.instanceMethod yX7_isProxy, Cond.selects RX7 yX7_isProxy yX7_isProxy, Cond.initialized RX7, Cond.code yX7_isProxy cX7_isProxy 1 (some .boolean), Cond.fieldLink RX7 9 "EventloopRow$Thing" "target" "LEventloopRow$Thing;", Cond.methodLink RX11 114 yX7_putIn, Cond.instanceMethod yX7_putIn, Cond.selects RX7 yX7_putIn yX7_putIn, Cond.code yX7_putIn cX7_putIn 4 (some .char), Cond.fieldLink RX7 53 "EventloopRow$Thing" "closed" "Z", Cond.fieldLink RX7 25 "EventloopRow$Thing" "rightsRow" "[I", Cond.fieldLink RX7 22 "EventloopRow$Thing" "values" "[I", Cond.methodLink RX7 42 yX7_holds, Cond.instanceMethod yX7_holds]
def wsL_define_r3 : List Cond := [Cond.selects RX7 yX7_holds yX7_holds, Cond.code yX7_holds cX7_holds 2 (some .boolean), Cond.methodLink RX7 57 yX7_listKey, Cond.instanceMethod yX7_listKey, Cond.selects RX7 yX7_listKey yX7_listKey, Cond.code yX7_listKey cX7_listKey 3 none, Cond.fieldLink RX7 65 "EventloopRow$Thing" "keyCount" "I", Cond.fieldLink RX7 28 "EventloopRow$Thing" "keyRow" "[I", Cond.methodLink RX7 46 yX7_canBe, Cond.instanceMethod yX7_canBe, Cond.selects RX7 yX7_canBe yX7_canBe, Cond.code yX7_canBe cX7_canBe 3 (some .boolean), Cond.methodLink RX7 61 yX7_isAllowed, Cond.static yX7_isAllowed, Cond.code yX7_isAllowed cX7_isAllowed 3 (some .boolean)]
def wsL_define : List Cond := .codeWith yL_define cL_define 6 (some .int) [(0, 9, 10, 15), (0, 9, 15, 28)] :: ((wsL_define_r1 ++ (wsL_define_r2 ++ wsL_define_r3)) ++ wsX110 ++ wsX80 ++ wsX70 ++ (vx_atS RX11 49 "java/lang/IndexOutOfBoundsException" ["java/lang/RuntimeException", "java/lang/Exception"]).filter goodWord ++ (vx_atS RX11 82 "java/lang/IllegalArgumentException" ["java/lang/RuntimeException", "java/lang/Exception"]).filter goodWord ++ (vx_atM "java/lang/ArrayIndexOutOfBoundsException" ["java/lang/IndexOutOfBoundsException", "java/lang/RuntimeException", "java/lang/Exception"]).filter goodWord)
def wsL_set_r1 : List Cond := [Cond.classLink RL 15 "java/lang/IndexOutOfBoundsException", Cond.classLink RL 28 "java/lang/IllegalArgumentException", Cond.constant RL 17 (-900001), Cond.constant RL 20 (-900002), Cond.methodLink RL 30 yX11_set, Cond.instanceMethod yX11_set, Cond.selects RX11 yX11_set yX11_set, Cond.initialized RX11, Cond.code yX11_set cX11_set 5 (some .char), Cond.classLink RX11 45 "java/lang/IndexOutOfBoundsException", Cond.initialized "java/lang/IndexOutOfBoundsException", Cond.classLink RX11 78 "java/lang/IllegalArgumentException", Cond.initialized "java/lang/IllegalArgumentException", Cond.fieldLink RX11 10 "EventloopRow" "things" "LEventloopRow$Things;", Cond.methodLink RX11 41 yX8_find, Cond.instanceMethod yX8_find, Cond.selects RX8 yX8_find yX8_find, Cond.initialized RX8, Cond.code yX8_find cX8_find 2 (some (.object "EventloopRow$Thing")), Cond.fieldLink RX8 17 "EventloopRow$Things" "count" "I", Cond.fieldLink RX8 11 "EventloopRow$Things" "row" "[LEventloopRow$Thing;", Cond.methodLink RX11 100 yX11_isKey, Cond.static yX11_isKey, Cond.code yX11_isKey cX11_isKey 1 (some .boolean)]
def wsL_set_r2 : List Cond := [Cond.methodLink RX11 105 yX11_isValue, Cond.static yX11_isValue, Cond.code yX11_isValue cX11_isValue 1 (some .boolean), Cond.methodLink RX11 120 yX8_setFrom, Cond.instanceMethod yX8_setFrom, Cond.selects RX8 yX8_setFrom yX8_setFrom, Cond.code yX8_setFrom cX8_setFrom 8 (some .char), Cond.fieldLink RX8 25 "EventloopRow$Thing" "revoked" "Z", Cond.fieldLink RX8 29 "EventloopRow$Thing" "target" "LEventloopRow$Thing;", Cond.fieldLink RX8 57 "EventloopRow$Thing" "chain" "LEventloopRow$Thing;", Cond.methodLink RX8 21 yX7_isProxy, Cond.instanceMethod yX7_isProxy, Cond.selects RX7 yX7_isProxy yX7_isProxy, Cond.initialized RX7, Cond.code yX7_isProxy cX7_isProxy 1 (some .boolean), Cond.fieldLink RX7 9 "EventloopRow$Thing" "target" "LEventloopRow$Thing;", Cond.methodLink RX8 35 yX7_isTold, Cond.instanceMethod yX7_isTold, Cond.selects RX7 yX7_isTold yX7_isTold, Cond.code yX7_isTold cX7_isTold 2 (some .boolean), Cond.constant RX7 31 (1000000), Cond.methodLink RX7 38 yX7_answerTo, Cond.instanceMethod yX7_answerTo, Cond.selects RX7 yX7_answerTo yX7_answerTo]
def wsL_set_r3 : List Cond := [Cond.code yX7_answerTo cX7_answerTo 2 (some .int), Cond.fieldLink RX7 18 "EventloopRow$Thing" "answers" "[I", Cond.methodLink RX8 39 yX7_answerTo, Cond.methodLink RX8 43 yX8_plainBehind, Cond.instanceMethod yX8_plainBehind, Cond.selects RX8 yX8_plainBehind yX8_plainBehind, Cond.code yX8_plainBehind cX8_plainBehind 4 (some (.object "EventloopRow$Thing")), Cond.methodLink RX8 47 yX7_keepsOther, Cond.instanceMethod yX7_keepsOther, Cond.selects RX7 yX7_keepsOther yX7_keepsOther, Cond.code yX7_keepsOther cX7_keepsOther 3 (some .boolean), Cond.methodLink RX7 42 yX7_holds, Cond.instanceMethod yX7_holds, Cond.selects RX7 yX7_holds yX7_holds, Cond.code yX7_holds cX7_holds 2 (some .boolean), Cond.fieldLink RX7 25 "EventloopRow$Thing" "rightsRow" "[I", Cond.methodLink RX7 46 yX7_canBe, Cond.instanceMethod yX7_canBe, Cond.selects RX7 yX7_canBe yX7_canBe, Cond.code yX7_canBe cX7_canBe 3 (some .boolean), Cond.methodLink RX7 50 yX7_valueOf, Cond.instanceMethod yX7_valueOf, Cond.selects RX7 yX7_valueOf yX7_valueOf, Cond.code yX7_valueOf cX7_valueOf 2 (some .int)]
def wsL_set_r4 : List Cond := [Cond.fieldLink RX7 22 "EventloopRow$Thing" "values" "[I", Cond.methodLink RX8 63 yX8_yesOrNo, Cond.static yX8_yesOrNo, Cond.code yX8_yesOrNo cX8_yesOrNo 1 (some .char), Cond.methodLink RX8 51 yX7_holds, Cond.methodLink RX8 67 yX7_canBe, Cond.methodLink RX8 70 yX8_receive, Cond.instanceMethod yX8_receive, Cond.selects RX8 yX8_receive yX8_receive, Cond.code yX8_receive cX8_receive 5 (some .char), Cond.methodLink RX8 74 yX7_putIn, Cond.instanceMethod yX7_putIn, Cond.selects RX7 yX7_putIn yX7_putIn, Cond.code yX7_putIn cX7_putIn 4 (some .char), Cond.fieldLink RX7 53 "EventloopRow$Thing" "closed" "Z", Cond.methodLink RX7 57 yX7_listKey, Cond.instanceMethod yX7_listKey, Cond.selects RX7 yX7_listKey yX7_listKey, Cond.code yX7_listKey cX7_listKey 3 none, Cond.fieldLink RX7 65 "EventloopRow$Thing" "keyCount" "I", Cond.fieldLink RX7 28 "EventloopRow$Thing" "keyRow" "[I", Cond.methodLink RX7 61 yX7_isAllowed, Cond.static yX7_isAllowed, Cond.code yX7_isAllowed cX7_isAllowed 3 (some .boolean)]
def wsL_set_r5 : List Cond := [Cond.methodLink RX8 78 yX7_rightsOf, Cond.instanceMethod yX7_rightsOf, Cond.selects RX7 yX7_rightsOf yX7_rightsOf, Cond.code yX7_rightsOf cX7_rightsOf 2 (some .int)]
def wsL_set : List Cond := .codeWith yL_set cL_set 5 (some .int) [(0, 7, 8, 15), (0, 7, 13, 28)] :: ((wsL_set_r1 ++ (wsL_set_r2 ++ (wsL_set_r3 ++ (wsL_set_r4 ++ wsL_set_r5)))) ++ wsX110 ++ wsX80 ++ wsX70 ++ (vx_atS RX11 49 "java/lang/IndexOutOfBoundsException" ["java/lang/RuntimeException", "java/lang/Exception"]).filter goodWord ++ (vx_atS RX11 82 "java/lang/IllegalArgumentException" ["java/lang/RuntimeException", "java/lang/Exception"]).filter goodWord ++ (vx_atM "java/lang/ArrayIndexOutOfBoundsException" ["java/lang/IndexOutOfBoundsException", "java/lang/RuntimeException", "java/lang/Exception"]).filter goodWord)
def wsL_get_r1 : List Cond := [Cond.classLink RL 15 "java/lang/IndexOutOfBoundsException", Cond.classLink RL 38 "java/lang/UnsupportedOperationException", Cond.constant RL 17 (-900001), Cond.constant RL 20 (-900002), Cond.methodLink RL 34 yX11_get, Cond.instanceMethod yX11_get, Cond.selects RX11 yX11_get yX11_get, Cond.initialized RX11, Cond.code yX11_get cX11_get 6 (some .int), Cond.classLink RX11 45 "java/lang/IndexOutOfBoundsException", Cond.initialized "java/lang/IndexOutOfBoundsException", Cond.classLink RX11 130 "java/lang/UnsupportedOperationException", Cond.initialized "java/lang/UnsupportedOperationException", Cond.fieldLink RX11 10 "EventloopRow" "things" "LEventloopRow$Things;", Cond.constantLong RX11 128 (1099511627776), Cond.methodLink RX11 41 yX8_find, Cond.instanceMethod yX8_find, Cond.selects RX8 yX8_find yX8_find, Cond.initialized RX8, Cond.code yX8_find cX8_find 2 (some (.object "EventloopRow$Thing")), Cond.fieldLink RX8 17 "EventloopRow$Things" "count" "I", Cond.fieldLink RX8 11 "EventloopRow$Things" "row" "[LEventloopRow$Thing;", Cond.methodLink RX11 100 yX11_isKey, Cond.static yX11_isKey]
def wsL_get_r2 : List Cond := [Cond.code yX11_isKey cX11_isKey 1 (some .boolean), Cond.methodLink RX11 124 yX8_getFrom, Cond.instanceMethod yX8_getFrom, Cond.selects RX8 yX8_getFrom yX8_getFrom, Cond.code yX8_getFrom cX8_getFrom 7 (some .long), Cond.fieldLink RX8 25 "EventloopRow$Thing" "revoked" "Z", Cond.constantLong RX8 33 (1099511627776), Cond.fieldLink RX8 29 "EventloopRow$Thing" "target" "LEventloopRow$Thing;", Cond.fieldLink RX8 57 "EventloopRow$Thing" "chain" "LEventloopRow$Thing;", Cond.methodLink RX8 21 yX7_isProxy, Cond.instanceMethod yX7_isProxy, Cond.selects RX7 yX7_isProxy yX7_isProxy, Cond.initialized RX7, Cond.code yX7_isProxy cX7_isProxy 1 (some .boolean), Cond.fieldLink RX7 9 "EventloopRow$Thing" "target" "LEventloopRow$Thing;", Cond.methodLink RX8 35 yX7_isTold, Cond.instanceMethod yX7_isTold, Cond.selects RX7 yX7_isTold yX7_isTold, Cond.code yX7_isTold cX7_isTold 2 (some .boolean), Cond.constant RX7 31 (1000000), Cond.methodLink RX7 38 yX7_answerTo, Cond.instanceMethod yX7_answerTo, Cond.selects RX7 yX7_answerTo yX7_answerTo, Cond.code yX7_answerTo cX7_answerTo 2 (some .int)]
def wsL_get_r3 : List Cond := [Cond.fieldLink RX7 18 "EventloopRow$Thing" "answers" "[I", Cond.methodLink RX8 39 yX7_answerTo, Cond.methodLink RX8 43 yX8_plainBehind, Cond.instanceMethod yX8_plainBehind, Cond.selects RX8 yX8_plainBehind yX8_plainBehind, Cond.code yX8_plainBehind cX8_plainBehind 4 (some (.object "EventloopRow$Thing")), Cond.methodLink RX8 47 yX7_keepsOther, Cond.instanceMethod yX7_keepsOther, Cond.selects RX7 yX7_keepsOther yX7_keepsOther, Cond.code yX7_keepsOther cX7_keepsOther 3 (some .boolean), Cond.methodLink RX7 42 yX7_holds, Cond.instanceMethod yX7_holds, Cond.selects RX7 yX7_holds yX7_holds, Cond.code yX7_holds cX7_holds 2 (some .boolean), Cond.fieldLink RX7 25 "EventloopRow$Thing" "rightsRow" "[I", Cond.methodLink RX7 46 yX7_canBe, Cond.instanceMethod yX7_canBe, Cond.selects RX7 yX7_canBe yX7_canBe, Cond.code yX7_canBe cX7_canBe 3 (some .boolean), Cond.methodLink RX7 50 yX7_valueOf, Cond.instanceMethod yX7_valueOf, Cond.selects RX7 yX7_valueOf yX7_valueOf, Cond.code yX7_valueOf cX7_valueOf 2 (some .int), Cond.fieldLink RX7 22 "EventloopRow$Thing" "values" "[I"]
def wsL_get_r4 : List Cond := [Cond.methodLink RX8 51 yX7_holds, Cond.methodLink RX8 54 yX7_valueOf]
def wsL_get : List Cond := .codeWith yL_get cL_get 4 (some .int) [(0, 6, 7, 15), (0, 6, 11, 38)] :: ((wsL_get_r1 ++ (wsL_get_r2 ++ (wsL_get_r3 ++ wsL_get_r4))) ++ wsX110 ++ wsX80 ++ wsX70 ++ (vx_atS RX11 49 "java/lang/IndexOutOfBoundsException" ["java/lang/RuntimeException", "java/lang/Exception"]).filter goodWord ++ (vx_atS RX11 134 "java/lang/UnsupportedOperationException" ["java/lang/RuntimeException", "java/lang/Exception"]).filter goodWord ++ (vx_atM "java/lang/ArrayIndexOutOfBoundsException" ["java/lang/IndexOutOfBoundsException", "java/lang/RuntimeException", "java/lang/Exception"]).filter goodWord)
def wsL_has_r1 : List Cond := [Cond.classLink RL 15 "java/lang/IndexOutOfBoundsException", Cond.constant RL 17 (-900001), Cond.methodLink RL 40 yX11_has, Cond.instanceMethod yX11_has, Cond.selects RX11 yX11_has yX11_has, Cond.initialized RX11, Cond.code yX11_has cX11_has 4 (some .char), Cond.classLink RX11 45 "java/lang/IndexOutOfBoundsException", Cond.initialized "java/lang/IndexOutOfBoundsException", Cond.fieldLink RX11 10 "EventloopRow" "things" "LEventloopRow$Things;", Cond.methodLink RX11 41 yX8_find, Cond.instanceMethod yX8_find, Cond.selects RX8 yX8_find yX8_find, Cond.initialized RX8, Cond.code yX8_find cX8_find 2 (some (.object "EventloopRow$Thing")), Cond.fieldLink RX8 17 "EventloopRow$Things" "count" "I", Cond.fieldLink RX8 11 "EventloopRow$Things" "row" "[LEventloopRow$Thing;", Cond.methodLink RX11 100 yX11_isKey, Cond.static yX11_isKey, Cond.code yX11_isKey cX11_isKey 1 (some .boolean), Cond.methodLink RX11 135 yX8_askFrom, Cond.instanceMethod yX8_askFrom, Cond.selects RX8 yX8_askFrom yX8_askFrom, Cond.code yX8_askFrom cX8_askFrom 7 (some .char)]
def wsL_has_r2 : List Cond := [Cond.fieldLink RX8 25 "EventloopRow$Thing" "revoked" "Z", Cond.fieldLink RX8 29 "EventloopRow$Thing" "target" "LEventloopRow$Thing;", Cond.fieldLink RX8 57 "EventloopRow$Thing" "chain" "LEventloopRow$Thing;", Cond.methodLink RX8 21 yX7_isProxy, Cond.instanceMethod yX7_isProxy, Cond.selects RX7 yX7_isProxy yX7_isProxy, Cond.initialized RX7, Cond.code yX7_isProxy cX7_isProxy 1 (some .boolean), Cond.fieldLink RX7 9 "EventloopRow$Thing" "target" "LEventloopRow$Thing;", Cond.methodLink RX8 35 yX7_isTold, Cond.instanceMethod yX7_isTold, Cond.selects RX7 yX7_isTold yX7_isTold, Cond.code yX7_isTold cX7_isTold 2 (some .boolean), Cond.constant RX7 31 (1000000), Cond.methodLink RX7 38 yX7_answerTo, Cond.instanceMethod yX7_answerTo, Cond.selects RX7 yX7_answerTo yX7_answerTo, Cond.code yX7_answerTo cX7_answerTo 2 (some .int), Cond.fieldLink RX7 18 "EventloopRow$Thing" "answers" "[I", Cond.methodLink RX8 39 yX7_answerTo, Cond.methodLink RX8 43 yX8_plainBehind, Cond.instanceMethod yX8_plainBehind, Cond.selects RX8 yX8_plainBehind yX8_plainBehind, Cond.code yX8_plainBehind cX8_plainBehind 4 (some (.object "EventloopRow$Thing"))]
def wsL_has_r3 : List Cond := [Cond.methodLink RX8 60 yX7_keepsKey, Cond.instanceMethod yX7_keepsKey, Cond.selects RX7 yX7_keepsKey yX7_keepsKey, Cond.code yX7_keepsKey cX7_keepsKey 2 (some .boolean), Cond.fieldLink RX7 53 "EventloopRow$Thing" "closed" "Z", Cond.methodLink RX7 42 yX7_holds, Cond.instanceMethod yX7_holds, Cond.selects RX7 yX7_holds yX7_holds, Cond.code yX7_holds cX7_holds 2 (some .boolean), Cond.fieldLink RX7 25 "EventloopRow$Thing" "rightsRow" "[I", Cond.methodLink RX7 46 yX7_canBe, Cond.instanceMethod yX7_canBe, Cond.selects RX7 yX7_canBe yX7_canBe, Cond.code yX7_canBe cX7_canBe 3 (some .boolean), Cond.methodLink RX8 63 yX8_yesOrNo, Cond.static yX8_yesOrNo, Cond.code yX8_yesOrNo cX8_yesOrNo 1 (some .char), Cond.methodLink RX8 51 yX7_holds]
def wsL_has : List Cond := .codeWith yL_has cL_has 4 (some .int) [(0, 6, 7, 15)] :: ((wsL_has_r1 ++ (wsL_has_r2 ++ wsL_has_r3)) ++ wsX110 ++ wsX80 ++ wsX70 ++ (vx_atS RX11 49 "java/lang/IndexOutOfBoundsException" ["java/lang/RuntimeException", "java/lang/Exception"]).filter goodWord ++ (vx_atM "java/lang/ArrayIndexOutOfBoundsException" ["java/lang/IndexOutOfBoundsException", "java/lang/RuntimeException", "java/lang/Exception"]).filter goodWord)
def wsL_delete_r1 : List Cond := [Cond.classLink RL 15 "java/lang/IndexOutOfBoundsException", Cond.constant RL 17 (-900001), Cond.methodLink RL 44 yX11_delete, Cond.instanceMethod yX11_delete, Cond.selects RX11 yX11_delete yX11_delete, Cond.initialized RX11, Cond.code yX11_delete cX11_delete 4 (some .char), Cond.classLink RX11 45 "java/lang/IndexOutOfBoundsException", Cond.initialized "java/lang/IndexOutOfBoundsException", Cond.fieldLink RX11 10 "EventloopRow" "things" "LEventloopRow$Things;", Cond.methodLink RX11 41 yX8_find, Cond.instanceMethod yX8_find, Cond.selects RX8 yX8_find yX8_find, Cond.initialized RX8, Cond.code yX8_find cX8_find 2 (some (.object "EventloopRow$Thing")), Cond.fieldLink RX8 17 "EventloopRow$Things" "count" "I", Cond.fieldLink RX8 11 "EventloopRow$Things" "row" "[LEventloopRow$Thing;", Cond.methodLink RX11 100 yX11_isKey, Cond.static yX11_isKey, Cond.code yX11_isKey cX11_isKey 1 (some .boolean), Cond.methodLink RX11 139 yX8_deleteFrom, Cond.instanceMethod yX8_deleteFrom, Cond.selects RX8 yX8_deleteFrom yX8_deleteFrom, Cond.code yX8_deleteFrom cX8_deleteFrom 7 (some .char)]
def wsL_delete_r2 : List Cond := [Cond.fieldLink RX8 25 "EventloopRow$Thing" "revoked" "Z", Cond.fieldLink RX8 29 "EventloopRow$Thing" "target" "LEventloopRow$Thing;", Cond.methodLink RX8 21 yX7_isProxy, Cond.instanceMethod yX7_isProxy, Cond.selects RX7 yX7_isProxy yX7_isProxy, Cond.initialized RX7, Cond.code yX7_isProxy cX7_isProxy 1 (some .boolean), Cond.fieldLink RX7 9 "EventloopRow$Thing" "target" "LEventloopRow$Thing;", Cond.methodLink RX8 81 yX7_takeOut, Cond.instanceMethod yX7_takeOut, Cond.selects RX7 yX7_takeOut yX7_takeOut, Cond.code yX7_takeOut cX7_takeOut 4 (some .char), Cond.fieldLink RX7 25 "EventloopRow$Thing" "rightsRow" "[I", Cond.fieldLink RX7 65 "EventloopRow$Thing" "keyCount" "I", Cond.fieldLink RX7 28 "EventloopRow$Thing" "keyRow" "[I", Cond.methodLink RX7 42 yX7_holds, Cond.instanceMethod yX7_holds, Cond.selects RX7 yX7_holds yX7_holds, Cond.code yX7_holds cX7_holds 2 (some .boolean), Cond.methodLink RX7 46 yX7_canBe, Cond.instanceMethod yX7_canBe, Cond.selects RX7 yX7_canBe yX7_canBe, Cond.code yX7_canBe cX7_canBe 3 (some .boolean), Cond.methodLink RX8 35 yX7_isTold]
def wsL_delete_r3 : List Cond := [Cond.instanceMethod yX7_isTold, Cond.selects RX7 yX7_isTold yX7_isTold, Cond.code yX7_isTold cX7_isTold 2 (some .boolean), Cond.constant RX7 31 (1000000), Cond.methodLink RX7 38 yX7_answerTo, Cond.instanceMethod yX7_answerTo, Cond.selects RX7 yX7_answerTo yX7_answerTo, Cond.code yX7_answerTo cX7_answerTo 2 (some .int), Cond.fieldLink RX7 18 "EventloopRow$Thing" "answers" "[I", Cond.methodLink RX8 39 yX7_answerTo, Cond.methodLink RX8 43 yX8_plainBehind, Cond.instanceMethod yX8_plainBehind, Cond.selects RX8 yX8_plainBehind yX8_plainBehind, Cond.code yX8_plainBehind cX8_plainBehind 4 (some (.object "EventloopRow$Thing")), Cond.methodLink RX8 60 yX7_keepsKey, Cond.instanceMethod yX7_keepsKey, Cond.selects RX7 yX7_keepsKey yX7_keepsKey, Cond.code yX7_keepsKey cX7_keepsKey 2 (some .boolean), Cond.fieldLink RX7 53 "EventloopRow$Thing" "closed" "Z", Cond.methodLink RX8 63 yX8_yesOrNo, Cond.static yX8_yesOrNo, Cond.code yX8_yesOrNo cX8_yesOrNo 1 (some .char)]
def wsL_delete : List Cond := .codeWith yL_delete cL_delete 4 (some .int) [(0, 6, 7, 15)] :: ((wsL_delete_r1 ++ (wsL_delete_r2 ++ wsL_delete_r3)) ++ wsX110 ++ wsX80 ++ wsX70 ++ (vx_atS RX11 49 "java/lang/IndexOutOfBoundsException" ["java/lang/RuntimeException", "java/lang/Exception"]).filter goodWord ++ (vx_atM "java/lang/ArrayIndexOutOfBoundsException" ["java/lang/IndexOutOfBoundsException", "java/lang/RuntimeException", "java/lang/Exception"]).filter goodWord)
def wsL_closeObject_r1 : List Cond := [Cond.classLink RL 15 "java/lang/IndexOutOfBoundsException", Cond.constant RL 17 (-900001), Cond.methodLink RL 47 yX11_closeObject, Cond.instanceMethod yX11_closeObject, Cond.selects RX11 yX11_closeObject yX11_closeObject, Cond.initialized RX11, Cond.code yX11_closeObject cX11_closeObject 4 (some .char), Cond.classLink RX11 45 "java/lang/IndexOutOfBoundsException", Cond.initialized "java/lang/IndexOutOfBoundsException", Cond.fieldLink RX11 10 "EventloopRow" "things" "LEventloopRow$Things;", Cond.fieldLink RX11 142 "EventloopRow$Thing" "closed" "Z", Cond.methodLink RX11 41 yX8_find, Cond.instanceMethod yX8_find, Cond.selects RX8 yX8_find yX8_find, Cond.initialized RX8, Cond.code yX8_find cX8_find 2 (some (.object "EventloopRow$Thing")), Cond.fieldLink RX8 17 "EventloopRow$Things" "count" "I", Cond.fieldLink RX8 11 "EventloopRow$Things" "row" "[LEventloopRow$Thing;", Cond.methodLink RX11 110 yX8_plainBehind, Cond.instanceMethod yX8_plainBehind, Cond.selects RX8 yX8_plainBehind yX8_plainBehind, Cond.code yX8_plainBehind cX8_plainBehind 4 (some (.object "EventloopRow$Thing")), Cond.fieldLink RX8 25 "EventloopRow$Thing" "revoked" "Z", Cond.fieldLink RX8 29 "EventloopRow$Thing" "target" "LEventloopRow$Thing;"]
def wsL_closeObject_r2 : List Cond := [Cond.methodLink RX8 21 yX7_isProxy, Cond.instanceMethod yX7_isProxy, Cond.selects RX7 yX7_isProxy yX7_isProxy, Cond.initialized RX7, Cond.code yX7_isProxy cX7_isProxy 1 (some .boolean), Cond.fieldLink RX7 9 "EventloopRow$Thing" "target" "LEventloopRow$Thing;"]
def wsL_closeObject : List Cond := .codeWith yL_closeObject cL_closeObject 3 (some .int) [(0, 5, 6, 15)] :: ((wsL_closeObject_r1 ++ wsL_closeObject_r2) ++ wsX110 ++ wsX70 ++ wsX80 ++ (vx_atS RX11 49 "java/lang/IndexOutOfBoundsException" ["java/lang/RuntimeException", "java/lang/Exception"]).filter goodWord)
def wsL_setChain_r1 : List Cond := [Cond.classLink RL 15 "java/lang/IndexOutOfBoundsException", Cond.constant RL 17 (-900001), Cond.methodLink RL 51 yX11_setChain, Cond.instanceMethod yX11_setChain, Cond.selects RX11 yX11_setChain yX11_setChain, Cond.initialized RX11, Cond.code yX11_setChain cX11_setChain 6 (some .char), Cond.classLink RX11 45 "java/lang/IndexOutOfBoundsException", Cond.initialized "java/lang/IndexOutOfBoundsException", Cond.fieldLink RX11 10 "EventloopRow" "things" "LEventloopRow$Things;", Cond.methodLink RX11 41 yX8_find, Cond.instanceMethod yX8_find, Cond.selects RX8 yX8_find yX8_find, Cond.initialized RX8, Cond.code yX8_find cX8_find 2 (some (.object "EventloopRow$Thing")), Cond.fieldLink RX8 17 "EventloopRow$Things" "count" "I", Cond.fieldLink RX8 11 "EventloopRow$Things" "row" "[LEventloopRow$Thing;", Cond.methodLink RX11 110 yX8_plainBehind, Cond.instanceMethod yX8_plainBehind, Cond.selects RX8 yX8_plainBehind yX8_plainBehind, Cond.code yX8_plainBehind cX8_plainBehind 4 (some (.object "EventloopRow$Thing")), Cond.fieldLink RX8 25 "EventloopRow$Thing" "revoked" "Z", Cond.fieldLink RX8 29 "EventloopRow$Thing" "target" "LEventloopRow$Thing;", Cond.methodLink RX8 21 yX7_isProxy]
def wsL_setChain_r2 : List Cond := [Cond.instanceMethod yX7_isProxy, Cond.selects RX7 yX7_isProxy yX7_isProxy, Cond.initialized RX7, Cond.code yX7_isProxy cX7_isProxy 1 (some .boolean), Cond.fieldLink RX7 9 "EventloopRow$Thing" "target" "LEventloopRow$Thing;", Cond.methodLink RX11 145 yX8_chainTo, Cond.instanceMethod yX8_chainTo, Cond.selects RX8 yX8_chainTo yX8_chainTo, Cond.code yX8_chainTo cX8_chainTo 5 (some .char), Cond.fieldLink RX8 57 "EventloopRow$Thing" "chain" "LEventloopRow$Thing;", Cond.fieldLink RX8 85 "EventloopRow$Thing" "closed" "Z"]
def wsL_setChain : List Cond := .codeWith yL_setChain cL_setChain 4 (some .int) [(0, 6, 7, 15)] :: ((wsL_setChain_r1 ++ wsL_setChain_r2) ++ wsX110 ++ wsX80 ++ wsX70 ++ (vx_atS RX11 49 "java/lang/IndexOutOfBoundsException" ["java/lang/RuntimeException", "java/lang/Exception"]).filter goodWord)
def wsL_keys_r1 : List Cond := [Cond.classLink RL 15 "java/lang/IndexOutOfBoundsException", Cond.classLink RL 38 "java/lang/UnsupportedOperationException", Cond.constant RL 17 (-900001), Cond.constant RL 20 (-900002), Cond.methodLink RL 54 yX11_keys, Cond.instanceMethod yX11_keys, Cond.selects RX11 yX11_keys yX11_keys, Cond.initialized RX11, Cond.code yX11_keys cX11_keys 4 (some .int), Cond.classLink RX11 45 "java/lang/IndexOutOfBoundsException", Cond.initialized "java/lang/IndexOutOfBoundsException", Cond.classLink RX11 130 "java/lang/UnsupportedOperationException", Cond.initialized "java/lang/UnsupportedOperationException", Cond.fieldLink RX11 10 "EventloopRow" "things" "LEventloopRow$Things;", Cond.fieldLink RX11 149 "EventloopRow$Thing" "keyCount" "I", Cond.methodLink RX11 41 yX8_find, Cond.instanceMethod yX8_find, Cond.selects RX8 yX8_find yX8_find, Cond.initialized RX8, Cond.code yX8_find cX8_find 2 (some (.object "EventloopRow$Thing")), Cond.fieldLink RX8 17 "EventloopRow$Things" "count" "I", Cond.fieldLink RX8 11 "EventloopRow$Things" "row" "[LEventloopRow$Thing;", Cond.methodLink RX11 110 yX8_plainBehind, Cond.instanceMethod yX8_plainBehind]
def wsL_keys_r2 : List Cond := [Cond.selects RX8 yX8_plainBehind yX8_plainBehind, Cond.code yX8_plainBehind cX8_plainBehind 4 (some (.object "EventloopRow$Thing")), Cond.fieldLink RX8 25 "EventloopRow$Thing" "revoked" "Z", Cond.fieldLink RX8 29 "EventloopRow$Thing" "target" "LEventloopRow$Thing;", Cond.methodLink RX8 21 yX7_isProxy, Cond.instanceMethod yX7_isProxy, Cond.selects RX7 yX7_isProxy yX7_isProxy, Cond.initialized RX7, Cond.code yX7_isProxy cX7_isProxy 1 (some .boolean), Cond.fieldLink RX7 9 "EventloopRow$Thing" "target" "LEventloopRow$Thing;"]
def wsL_keys : List Cond := .codeWith yL_keys cL_keys 3 (some .int) [(0, 5, 6, 15), (0, 5, 10, 38)] :: ((wsL_keys_r1 ++ wsL_keys_r2) ++ wsX110 ++ wsX70 ++ wsX80 ++ (vx_atS RX11 49 "java/lang/IndexOutOfBoundsException" ["java/lang/RuntimeException", "java/lang/Exception"]).filter goodWord ++ (vx_atS RX11 134 "java/lang/UnsupportedOperationException" ["java/lang/RuntimeException", "java/lang/Exception"]).filter goodWord)
def wsL_keyAt_r1 : List Cond := [Cond.classLink RL 15 "java/lang/IndexOutOfBoundsException", Cond.classLink RL 38 "java/lang/UnsupportedOperationException", Cond.classLink RL 60 "java/util/NoSuchElementException", Cond.constant RL 17 (-900001), Cond.constant RL 20 (-900002), Cond.constant RL 62 (-900003), Cond.methodLink RL 57 yX11_keyAt, Cond.instanceMethod yX11_keyAt, Cond.selects RX11 yX11_keyAt yX11_keyAt, Cond.initialized RX11, Cond.code yX11_keyAt cX11_keyAt 6 (some .int), Cond.classLink RX11 45 "java/lang/IndexOutOfBoundsException", Cond.initialized "java/lang/IndexOutOfBoundsException", Cond.classLink RX11 130 "java/lang/UnsupportedOperationException", Cond.initialized "java/lang/UnsupportedOperationException", Cond.classLink RX11 157 "java/util/NoSuchElementException", Cond.initialized "java/util/NoSuchElementException", Cond.fieldLink RX11 10 "EventloopRow" "things" "LEventloopRow$Things;", Cond.methodLink RX11 41 yX8_find, Cond.instanceMethod yX8_find, Cond.selects RX8 yX8_find yX8_find, Cond.initialized RX8, Cond.code yX8_find cX8_find 2 (some (.object "EventloopRow$Thing")), Cond.fieldLink RX8 17 "EventloopRow$Things" "count" "I"]
def wsL_keyAt_r2 : List Cond := [Cond.fieldLink RX8 11 "EventloopRow$Things" "row" "[LEventloopRow$Thing;", Cond.methodLink RX11 110 yX8_plainBehind, Cond.instanceMethod yX8_plainBehind, Cond.selects RX8 yX8_plainBehind yX8_plainBehind, Cond.code yX8_plainBehind cX8_plainBehind 4 (some (.object "EventloopRow$Thing")), Cond.fieldLink RX8 25 "EventloopRow$Thing" "revoked" "Z", Cond.fieldLink RX8 29 "EventloopRow$Thing" "target" "LEventloopRow$Thing;", Cond.methodLink RX8 21 yX7_isProxy, Cond.instanceMethod yX7_isProxy, Cond.selects RX7 yX7_isProxy yX7_isProxy, Cond.initialized RX7, Cond.code yX7_isProxy cX7_isProxy 1 (some .boolean), Cond.fieldLink RX7 9 "EventloopRow$Thing" "target" "LEventloopRow$Thing;", Cond.methodLink RX11 153 yX7_listedAt, Cond.instanceMethod yX7_listedAt, Cond.selects RX7 yX7_listedAt yX7_listedAt, Cond.code yX7_listedAt cX7_listedAt 2 (some .int), Cond.fieldLink RX7 65 "EventloopRow$Thing" "keyCount" "I", Cond.fieldLink RX7 28 "EventloopRow$Thing" "keyRow" "[I"]
def wsL_keyAt : List Cond := .codeWith yL_keyAt cL_keyAt 4 (some .int) [(0, 6, 7, 15), (0, 6, 11, 38), (0, 6, 15, 60)] :: ((wsL_keyAt_r1 ++ wsL_keyAt_r2) ++ wsX110 ++ wsX80 ++ wsX70 ++ (vx_atS RX11 49 "java/lang/IndexOutOfBoundsException" ["java/lang/RuntimeException", "java/lang/Exception"]).filter goodWord ++ (vx_atS RX11 134 "java/lang/UnsupportedOperationException" ["java/lang/RuntimeException", "java/lang/Exception"]).filter goodWord ++ (vx_atS RX11 161 "java/util/NoSuchElementException" ["java/lang/RuntimeException", "java/lang/Exception"]).filter goodWord ++ (vx_atM "java/lang/ArrayIndexOutOfBoundsException" ["java/lang/IndexOutOfBoundsException", "java/lang/RuntimeException", "java/lang/Exception"]).filter goodWord)
def wsL_rights_r1 : List Cond := [Cond.classLink RL 15 "java/lang/IndexOutOfBoundsException", Cond.classLink RL 38 "java/lang/UnsupportedOperationException", Cond.classLink RL 60 "java/util/NoSuchElementException", Cond.constant RL 17 (-900001), Cond.constant RL 20 (-900002), Cond.constant RL 62 (-900003), Cond.methodLink RL 63 yX11_rights, Cond.instanceMethod yX11_rights, Cond.selects RX11 yX11_rights yX11_rights, Cond.initialized RX11, Cond.code yX11_rights cX11_rights 6 (some .int), Cond.classLink RX11 45 "java/lang/IndexOutOfBoundsException", Cond.initialized "java/lang/IndexOutOfBoundsException", Cond.classLink RX11 130 "java/lang/UnsupportedOperationException", Cond.initialized "java/lang/UnsupportedOperationException", Cond.classLink RX11 157 "java/util/NoSuchElementException", Cond.initialized "java/util/NoSuchElementException", Cond.fieldLink RX11 10 "EventloopRow" "things" "LEventloopRow$Things;", Cond.methodLink RX11 41 yX8_find, Cond.instanceMethod yX8_find, Cond.selects RX8 yX8_find yX8_find, Cond.initialized RX8, Cond.code yX8_find cX8_find 2 (some (.object "EventloopRow$Thing")), Cond.fieldLink RX8 17 "EventloopRow$Things" "count" "I"]
def wsL_rights_r2 : List Cond := [Cond.fieldLink RX8 11 "EventloopRow$Things" "row" "[LEventloopRow$Thing;", Cond.methodLink RX11 100 yX11_isKey, Cond.static yX11_isKey, Cond.code yX11_isKey cX11_isKey 1 (some .boolean), Cond.methodLink RX11 110 yX8_plainBehind, Cond.instanceMethod yX8_plainBehind, Cond.selects RX8 yX8_plainBehind yX8_plainBehind, Cond.code yX8_plainBehind cX8_plainBehind 4 (some (.object "EventloopRow$Thing")), Cond.fieldLink RX8 25 "EventloopRow$Thing" "revoked" "Z", Cond.fieldLink RX8 29 "EventloopRow$Thing" "target" "LEventloopRow$Thing;", Cond.methodLink RX8 21 yX7_isProxy, Cond.instanceMethod yX7_isProxy, Cond.selects RX7 yX7_isProxy yX7_isProxy, Cond.initialized RX7, Cond.code yX7_isProxy cX7_isProxy 1 (some .boolean), Cond.fieldLink RX7 9 "EventloopRow$Thing" "target" "LEventloopRow$Thing;", Cond.methodLink RX11 162 yX7_rightsOf, Cond.instanceMethod yX7_rightsOf, Cond.selects RX7 yX7_rightsOf yX7_rightsOf, Cond.code yX7_rightsOf cX7_rightsOf 2 (some .int), Cond.fieldLink RX7 25 "EventloopRow$Thing" "rightsRow" "[I"]
def wsL_rights : List Cond := .codeWith yL_rights cL_rights 4 (some .int) [(0, 6, 7, 15), (0, 6, 11, 38), (0, 6, 15, 60)] :: ((wsL_rights_r1 ++ wsL_rights_r2) ++ wsX110 ++ wsX80 ++ wsX70 ++ (vx_atS RX11 49 "java/lang/IndexOutOfBoundsException" ["java/lang/RuntimeException", "java/lang/Exception"]).filter goodWord ++ (vx_atS RX11 134 "java/lang/UnsupportedOperationException" ["java/lang/RuntimeException", "java/lang/Exception"]).filter goodWord ++ (vx_atS RX11 161 "java/util/NoSuchElementException" ["java/lang/RuntimeException", "java/lang/Exception"]).filter goodWord ++ (vx_atM "java/lang/ArrayIndexOutOfBoundsException" ["java/lang/IndexOutOfBoundsException", "java/lang/RuntimeException", "java/lang/Exception"]).filter goodWord)
def wsL_tell_r1 : List Cond := [Cond.classLink RL 15 "java/lang/IndexOutOfBoundsException", Cond.classLink RL 28 "java/lang/IllegalArgumentException", Cond.classLink RL 18 "java/lang/IllegalStateException", Cond.constant RL 17 (-900001), Cond.constant RL 20 (-900002), Cond.constant RL 62 (-900003), Cond.methodLink RL 66 yX11_tell, Cond.instanceMethod yX11_tell, Cond.selects RX11 yX11_tell yX11_tell, Cond.initialized RX11, Cond.code yX11_tell cX11_tell 7 (some .boolean), Cond.classLink RX11 45 "java/lang/IndexOutOfBoundsException", Cond.initialized "java/lang/IndexOutOfBoundsException", Cond.classLink RX11 78 "java/lang/IllegalArgumentException", Cond.initialized "java/lang/IllegalArgumentException", Cond.classLink RX11 56 "java/lang/IllegalStateException", Cond.initialized "java/lang/IllegalStateException", Cond.fieldLink RX11 10 "EventloopRow" "things" "LEventloopRow$Things;", Cond.methodLink RX11 41 yX8_find, Cond.instanceMethod yX8_find, Cond.selects RX8 yX8_find yX8_find, Cond.initialized RX8, Cond.code yX8_find cX8_find 2 (some (.object "EventloopRow$Thing")), Cond.fieldLink RX8 17 "EventloopRow$Things" "count" "I"]
def wsL_tell_r2 : List Cond := [Cond.fieldLink RX8 11 "EventloopRow$Things" "row" "[LEventloopRow$Thing;", Cond.methodLink RX11 70 yX11_kindOf, Cond.static yX11_kindOf, Cond.code yX11_kindOf cX11_kindOf 1 (some .int), Cond.methodLink RX11 74 yX11_isAnswer, Cond.static yX11_isAnswer, Cond.code yX11_isAnswer cX11_isAnswer 2 (some .boolean), Cond.methodLink RX11 105 yX11_isValue, Cond.static yX11_isValue, Cond.code yX11_isValue cX11_isValue 1 (some .boolean), Cond.methodLink RX11 83 yX7_isProxy, Cond.instanceMethod yX7_isProxy, Cond.selects RX7 yX7_isProxy yX7_isProxy, Cond.initialized RX7, Cond.code yX7_isProxy cX7_isProxy 1 (some .boolean), Cond.fieldLink RX7 9 "EventloopRow$Thing" "target" "LEventloopRow$Thing;", Cond.methodLink RX11 88 yX7_isTold, Cond.instanceMethod yX7_isTold, Cond.selects RX7 yX7_isTold yX7_isTold, Cond.code yX7_isTold cX7_isTold 2 (some .boolean), Cond.constant RX7 31 (1000000), Cond.methodLink RX7 38 yX7_answerTo, Cond.instanceMethod yX7_answerTo, Cond.selects RX7 yX7_answerTo yX7_answerTo]
def wsL_tell_r3 : List Cond := [Cond.code yX7_answerTo cX7_answerTo 2 (some .int), Cond.fieldLink RX7 18 "EventloopRow$Thing" "answers" "[I", Cond.methodLink RX11 92 yX7_keepAnswer, Cond.instanceMethod yX7_keepAnswer, Cond.selects RX7 yX7_keepAnswer yX7_keepAnswer, Cond.code yX7_keepAnswer cX7_keepAnswer 3 none]
def wsL_tell : List Cond := .codeWith yL_tell cL_tell 5 (some .int) [(0, 15, 16, 15), (0, 15, 21, 28), (0, 15, 26, 18)] :: ((wsL_tell_r1 ++ (wsL_tell_r2 ++ wsL_tell_r3)) ++ wsX110 ++ wsX80 ++ wsX70 ++ (vx_atS RX11 49 "java/lang/IndexOutOfBoundsException" ["java/lang/RuntimeException", "java/lang/Exception"]).filter goodWord ++ (vx_atS RX11 82 "java/lang/IllegalArgumentException" ["java/lang/RuntimeException", "java/lang/Exception"]).filter goodWord ++ (vx_atS RX11 60 "java/lang/IllegalStateException" ["java/lang/RuntimeException", "java/lang/Exception"]).filter goodWord ++ (vx_atM "java/lang/ArrayIndexOutOfBoundsException" ["java/lang/IndexOutOfBoundsException", "java/lang/RuntimeException", "java/lang/Exception"]).filter goodWord)
def wsL_revoke_r1 : List Cond := [Cond.classLink RL 15 "java/lang/IndexOutOfBoundsException", Cond.classLink RL 18 "java/lang/IllegalStateException", Cond.constant RL 17 (-900001), Cond.constant RL 20 (-900002), Cond.methodLink RL 70 yX11_revoke, Cond.instanceMethod yX11_revoke, Cond.selects RX11 yX11_revoke yX11_revoke, Cond.initialized RX11, Cond.code yX11_revoke cX11_revoke 4 (some .boolean), Cond.classLink RX11 45 "java/lang/IndexOutOfBoundsException", Cond.initialized "java/lang/IndexOutOfBoundsException", Cond.classLink RX11 56 "java/lang/IllegalStateException", Cond.initialized "java/lang/IllegalStateException", Cond.fieldLink RX11 10 "EventloopRow" "things" "LEventloopRow$Things;", Cond.fieldLink RX11 96 "EventloopRow$Thing" "revoked" "Z", Cond.methodLink RX11 41 yX8_find, Cond.instanceMethod yX8_find, Cond.selects RX8 yX8_find yX8_find, Cond.initialized RX8, Cond.code yX8_find cX8_find 2 (some (.object "EventloopRow$Thing")), Cond.fieldLink RX8 17 "EventloopRow$Things" "count" "I", Cond.fieldLink RX8 11 "EventloopRow$Things" "row" "[LEventloopRow$Thing;", Cond.methodLink RX11 83 yX7_isProxy, Cond.instanceMethod yX7_isProxy]
def wsL_revoke_r2 : List Cond := [Cond.selects RX7 yX7_isProxy yX7_isProxy, Cond.initialized RX7, Cond.code yX7_isProxy cX7_isProxy 1 (some .boolean), Cond.fieldLink RX7 9 "EventloopRow$Thing" "target" "LEventloopRow$Thing;"]
def wsL_revoke : List Cond := .codeWith yL_revoke cL_revoke 3 (some .int) [(0, 13, 14, 15), (0, 13, 18, 18)] :: ((wsL_revoke_r1 ++ wsL_revoke_r2) ++ wsX110 ++ wsX70 ++ wsX80 ++ (vx_atS RX11 49 "java/lang/IndexOutOfBoundsException" ["java/lang/RuntimeException", "java/lang/Exception"]).filter goodWord ++ (vx_atS RX11 60 "java/lang/IllegalStateException" ["java/lang/RuntimeException", "java/lang/Exception"]).filter goodWord)
def wsL_in : List Cond := .code yL_in cL_in 3 (some .int) :: ([.constant RL 80 (2147483647), .methodLink RL 74 yL_cell, .static yL_cell, .initialized RL, .code yL_cell cL_cell 3 (some .int), .constant RL 7 (69069), .constant RL 8 (1103515245)] ++ (vx_atM "java/lang/ArrayIndexOutOfBoundsException" ["java/lang/IndexOutOfBoundsException", "java/lang/RuntimeException", "java/lang/Exception"]).filter goodWord)
def wsL_at : List Cond := .code yL_at cL_at 2 (some .int) :: ([])
def wsL_plain : List Cond := .code yL_plain cL_plain 2 (some .int) :: ([] ++ (vx_atM "java/lang/ArrayIndexOutOfBoundsException" ["java/lang/IndexOutOfBoundsException", "java/lang/RuntimeException", "java/lang/Exception"]).filter goodWord)
def wsL_defined : List Cond := .code yL_defined cL_defined 7 (some .int) :: ([.methodLink RL 81 yL_at, .static yL_at, .initialized RL, .code yL_at cL_at 2 (some .int)] ++ (vx_atM "java/lang/ArrayIndexOutOfBoundsException" ["java/lang/IndexOutOfBoundsException", "java/lang/RuntimeException", "java/lang/Exception"]).filter goodWord)
def wsL_found : List Cond := .code yL_found cL_found 4 (some .int) :: ([.methodLink RL 81 yL_at, .static yL_at, .initialized RL, .code yL_at cL_at 2 (some .int)] ++ (vx_atM "java/lang/ArrayIndexOutOfBoundsException" ["java/lang/IndexOutOfBoundsException", "java/lang/RuntimeException", "java/lang/Exception"]).filter goodWord)
def wsL_received : List Cond := .code yL_received cL_received 5 (some .int) :: ([.methodLink RL 81 yL_at, .static yL_at, .initialized RL, .code yL_at cL_at 2 (some .int), .methodLink RL 84 yL_defined, .static yL_defined, .code yL_defined cL_defined 7 (some .int)] ++ (vx_atM "java/lang/ArrayIndexOutOfBoundsException" ["java/lang/IndexOutOfBoundsException", "java/lang/RuntimeException", "java/lang/Exception"]).filter goodWord)
def wsL_wasSet : List Cond := .code yL_wasSet cL_wasSet 7 (some .int) :: ([.methodLink RL 88 yL_plain, .static yL_plain, .initialized RL, .code yL_plain cL_plain 2 (some .int), .methodLink RL 81 yL_at, .static yL_at, .code yL_at cL_at 2 (some .int), .methodLink RL 91 yL_wasSet, .static yL_wasSet, .methodLink RL 94 yL_found, .static yL_found, .code yL_found cL_found 4 (some .int), .methodLink RL 98 yL_received, .static yL_received, .code yL_received cL_received 5 (some .int), .methodLink RL 84 yL_defined, .static yL_defined, .code yL_defined cL_defined 7 (some .int)] ++ (vx_atM "java/lang/ArrayIndexOutOfBoundsException" ["java/lang/IndexOutOfBoundsException", "java/lang/RuntimeException", "java/lang/Exception"]).filter goodWord)
def wsL_isKept : List Cond := .code yL_isKept cL_isKept 3 (some .boolean) :: ([.methodLink RL 81 yL_at, .static yL_at, .initialized RL, .code yL_at cL_at 2 (some .int)] ++ (vx_atM "java/lang/ArrayIndexOutOfBoundsException" ["java/lang/IndexOutOfBoundsException", "java/lang/RuntimeException", "java/lang/Exception"]).filter goodWord)
def wsL_got : List Cond := .code yL_got cL_got 5 (some .int) :: ([.constant RL 20 (-900002), .methodLink RL 88 yL_plain, .static yL_plain, .initialized RL, .code yL_plain cL_plain 2 (some .int), .methodLink RL 81 yL_at, .static yL_at, .code yL_at cL_at 2 (some .int), .methodLink RL 102 yL_got, .static yL_got, .methodLink RL 94 yL_found, .static yL_found, .code yL_found cL_found 4 (some .int)] ++ (vx_atM "java/lang/ArrayIndexOutOfBoundsException" ["java/lang/IndexOutOfBoundsException", "java/lang/RuntimeException", "java/lang/Exception"]).filter goodWord)
def wsL_asked : List Cond := .code yL_asked cL_asked 4 (some .int) :: ([.methodLink RL 88 yL_plain, .static yL_plain, .initialized RL, .code yL_plain cL_plain 2 (some .int), .methodLink RL 105 yL_isKept, .static yL_isKept, .code yL_isKept cL_isKept 3 (some .boolean), .methodLink RL 81 yL_at, .static yL_at, .code yL_at cL_at 2 (some .int), .methodLink RL 109 yL_asked, .static yL_asked, .methodLink RL 94 yL_found, .static yL_found, .code yL_found cL_found 4 (some .int)] ++ (vx_atM "java/lang/ArrayIndexOutOfBoundsException" ["java/lang/IndexOutOfBoundsException", "java/lang/RuntimeException", "java/lang/Exception"]).filter goodWord)
def wsL_gone : List Cond := .code yL_gone cL_gone 5 (some .int) :: ([.methodLink RL 88 yL_plain, .static yL_plain, .initialized RL, .code yL_plain cL_plain 2 (some .int), .methodLink RL 105 yL_isKept, .static yL_isKept, .code yL_isKept cL_isKept 3 (some .boolean), .methodLink RL 81 yL_at, .static yL_at, .code yL_at cL_at 2 (some .int), .methodLink RL 112 yL_gone, .static yL_gone] ++ (vx_atM "java/lang/ArrayIndexOutOfBoundsException" ["java/lang/IndexOutOfBoundsException", "java/lang/RuntimeException", "java/lang/Exception"]).filter goodWord)
def wsL_areKeys_r1 : List Cond := [Cond.constant RL 62 (-900003), Cond.methodLink RL 88 yL_plain, Cond.static yL_plain, Cond.initialized RL, Cond.code yL_plain cL_plain 2 (some .int), Cond.methodLink RL 81 yL_at, Cond.static yL_at, Cond.code yL_at cL_at 2 (some .int), Cond.methodLink RL 115 yL_keyAt, Cond.static yL_keyAt, Cond.codeWith yL_keyAt cL_keyAt 4 (some .int) [(0, 6, 7, 15), (0, 6, 11, 38), (0, 6, 15, 60)], Cond.classLink RL 15 "java/lang/IndexOutOfBoundsException", Cond.classLink RL 38 "java/lang/UnsupportedOperationException", Cond.classLink RL 60 "java/util/NoSuchElementException", Cond.constant RL 17 (-900001), Cond.constant RL 20 (-900002), Cond.methodLink RL 57 yX11_keyAt, Cond.instanceMethod yX11_keyAt, Cond.selects RX11 yX11_keyAt yX11_keyAt, Cond.initialized RX11, Cond.code yX11_keyAt cX11_keyAt 6 (some .int), Cond.classLink RX11 45 "java/lang/IndexOutOfBoundsException", Cond.initialized "java/lang/IndexOutOfBoundsException", Cond.classLink RX11 130 "java/lang/UnsupportedOperationException"]
def wsL_areKeys_r2 : List Cond := [Cond.initialized "java/lang/UnsupportedOperationException", Cond.classLink RX11 157 "java/util/NoSuchElementException", Cond.initialized "java/util/NoSuchElementException", Cond.fieldLink RX11 10 "EventloopRow" "things" "LEventloopRow$Things;", Cond.methodLink RX11 41 yX8_find, Cond.instanceMethod yX8_find, Cond.selects RX8 yX8_find yX8_find, Cond.initialized RX8, Cond.code yX8_find cX8_find 2 (some (.object "EventloopRow$Thing")), Cond.fieldLink RX8 17 "EventloopRow$Things" "count" "I", Cond.fieldLink RX8 11 "EventloopRow$Things" "row" "[LEventloopRow$Thing;", Cond.methodLink RX11 110 yX8_plainBehind, Cond.instanceMethod yX8_plainBehind, Cond.selects RX8 yX8_plainBehind yX8_plainBehind, Cond.code yX8_plainBehind cX8_plainBehind 4 (some (.object "EventloopRow$Thing")), Cond.fieldLink RX8 25 "EventloopRow$Thing" "revoked" "Z", Cond.fieldLink RX8 29 "EventloopRow$Thing" "target" "LEventloopRow$Thing;", Cond.methodLink RX8 21 yX7_isProxy, Cond.instanceMethod yX7_isProxy, Cond.selects RX7 yX7_isProxy yX7_isProxy, Cond.initialized RX7, Cond.code yX7_isProxy cX7_isProxy 1 (some .boolean), Cond.fieldLink RX7 9 "EventloopRow$Thing" "target" "LEventloopRow$Thing;", Cond.methodLink RX11 153 yX7_listedAt]
def wsL_areKeys_r3 : List Cond := [Cond.instanceMethod yX7_listedAt, Cond.selects RX7 yX7_listedAt yX7_listedAt, Cond.code yX7_listedAt cX7_listedAt 2 (some .int), Cond.fieldLink RX7 65 "EventloopRow$Thing" "keyCount" "I", Cond.fieldLink RX7 28 "EventloopRow$Thing" "keyRow" "[I", Cond.methodLink RL 118 yL_rights, Cond.static yL_rights, Cond.codeWith yL_rights cL_rights 4 (some .int) [(0, 6, 7, 15), (0, 6, 11, 38), (0, 6, 15, 60)], Cond.methodLink RL 63 yX11_rights, Cond.instanceMethod yX11_rights, Cond.selects RX11 yX11_rights yX11_rights, Cond.code yX11_rights cX11_rights 6 (some .int), Cond.methodLink RX11 100 yX11_isKey, Cond.static yX11_isKey, Cond.code yX11_isKey cX11_isKey 1 (some .boolean), Cond.methodLink RX11 162 yX7_rightsOf, Cond.instanceMethod yX7_rightsOf, Cond.selects RX7 yX7_rightsOf yX7_rightsOf, Cond.code yX7_rightsOf cX7_rightsOf 2 (some .int), Cond.fieldLink RX7 25 "EventloopRow$Thing" "rightsRow" "[I", Cond.methodLink RL 120 yL_keys, Cond.static yL_keys, Cond.codeWith yL_keys cL_keys 3 (some .int) [(0, 5, 6, 15), (0, 5, 10, 38)], Cond.methodLink RL 54 yX11_keys]
def wsL_areKeys_r4 : List Cond := [Cond.instanceMethod yX11_keys, Cond.selects RX11 yX11_keys yX11_keys, Cond.code yX11_keys cX11_keys 4 (some .int), Cond.fieldLink RX11 149 "EventloopRow$Thing" "keyCount" "I"]
def wsL_areKeys : List Cond := .code yL_areKeys cL_areKeys 9 (some .boolean) :: ((wsL_areKeys_r1 ++ (wsL_areKeys_r2 ++ (wsL_areKeys_r3 ++ wsL_areKeys_r4))) ++ wsX110 ++ wsX80 ++ wsX70 ++ (vx_atM "java/lang/ArrayIndexOutOfBoundsException" ["java/lang/IndexOutOfBoundsException", "java/lang/RuntimeException", "java/lang/Exception"]).filter goodWord ++ (vx_atS RX11 49 "java/lang/IndexOutOfBoundsException" ["java/lang/RuntimeException", "java/lang/Exception"]).filter goodWord ++ (vx_atS RX11 134 "java/lang/UnsupportedOperationException" ["java/lang/RuntimeException", "java/lang/Exception"]).filter goodWord ++ (vx_atS RX11 161 "java/util/NoSuchElementException" ["java/lang/RuntimeException", "java/lang/Exception"]).filter goodWord)
def wsL_law0_r1 : List Cond := [Cond.classLink RL 10 RX11, Cond.instantiable RX11 4, Cond.initialized RX11, Cond.arrayClass .int, Cond.constant RL 17 (-900001), Cond.constant RL 20 (-900002), Cond.constant RL 62 (-900003), Cond.methodLink RL 123 yX11_init, Cond.instanceMethod yX11_init, Cond.code yX11_init cX11_init 1 none, Cond.methodLink RX11 1 objectInit, Cond.instanceMethod objectInit, Cond.code objectInit ⟨#[0xb1]⟩ 1 none, Cond.classLink RX11 7 RX8, Cond.instantiable RX8 2, Cond.initialized RX8, Cond.fieldLink RX11 10 "EventloopRow" "things" "LEventloopRow$Things;", Cond.classLink RX11 16 RX2, Cond.instantiable RX2 3, Cond.initialized RX2, Cond.fieldLink RX11 19 "EventloopRow" "jobRow" "LEventloopRow$JobRow;", Cond.classLink RX11 23 RX5, Cond.instantiable RX5 8, Cond.initialized RX5]
def wsL_law0_r2 : List Cond := [Cond.fieldLink RX11 28 "EventloopRow" "promiseRow" "LEventloopRow$PromiseRow;", Cond.classLink RX11 32 RX3, Cond.instantiable RX3 19, Cond.initialized RX3, Cond.fieldLink RX11 37 "EventloopRow" "loop" "LEventloopRow$Loop;", Cond.instanceMethod yX8_init, Cond.code yX8_init cX8_init 1 none, Cond.methodLink RX8 3 objectInit, Cond.classLink RX8 9 RX7, Cond.fieldLink RX8 11 "EventloopRow$Things" "row" "[LEventloopRow$Thing;", Cond.instanceMethod yX2_init, Cond.code yX2_init cX2_init 1 none, Cond.methodLink RX2 3 objectInit, Cond.methodLink RX11 25 yX5_init, Cond.instanceMethod yX5_init, Cond.code yX5_init cX5_init 2 none, Cond.methodLink RX5 3 objectInit, Cond.classLink RX5 9 RX4, Cond.fieldLink RX5 11 "EventloopRow$PromiseRow" "row" "[LEventloopRow$Promise;", Cond.fieldLink RX5 17 "EventloopRow$PromiseRow" "rejections" "[I", Cond.fieldLink RX5 21 "EventloopRow$PromiseRow" "jobRow" "LEventloopRow$JobRow;", Cond.methodLink RX11 34 yX3_init, Cond.instanceMethod yX3_init, Cond.code yX3_init cX3_init 4 none]
def wsL_law0_r3 : List Cond := [Cond.methodLink RX3 3 objectInit, Cond.classLink RX3 9 RX10, Cond.instantiable RX10 3, Cond.initialized RX10, Cond.fieldLink RX3 12 "EventloopRow$Loop" "timerHeap" "LEventloopRow$TimerHeap;", Cond.classLink RX3 18 RX0, Cond.fieldLink RX3 20 "EventloopRow$Loop" "program" "[LEventloopRow$Instruction;", Cond.fieldLink RX3 24 "EventloopRow$Loop" "lengths" "[I", Cond.fieldLink RX3 28 "EventloopRow$Loop" "tasks" "[I", Cond.fieldLink RX3 31 "EventloopRow$Loop" "traceRow" "[I", Cond.fieldLink RX3 34 "EventloopRow$Loop" "things" "LEventloopRow$Things;", Cond.fieldLink RX3 38 "EventloopRow$Loop" "jobRow" "LEventloopRow$JobRow;", Cond.fieldLink RX3 42 "EventloopRow$Loop" "promiseRow" "LEventloopRow$PromiseRow;", Cond.instanceMethod yX10_init, Cond.code yX10_init cX10_init 1 none, Cond.methodLink RX10 3 objectInit, Cond.classLink RX10 9 RX9, Cond.fieldLink RX10 11 "EventloopRow$TimerHeap" "blocks" "[LEventloopRow$TimerBlock;", Cond.methodLink RL 124 yL_in, Cond.static yL_in, Cond.initialized RL, Cond.code yL_in cL_in 3 (some .int), Cond.constant RL 80 (2147483647), Cond.methodLink RL 74 yL_cell]
def wsL_law0_r4 : List Cond := [Cond.static yL_cell, Cond.code yL_cell cL_cell 3 (some .int), Cond.constant RL 7 (69069), Cond.constant RL 8 (1103515245), Cond.methodLink RL 127 yL_addObject, Cond.static yL_addObject, Cond.codeWith yL_addObject cL_addObject 3 (some .int) [(0, 5, 6, 15), (0, 5, 10, 18)], Cond.classLink RL 15 "java/lang/IndexOutOfBoundsException", Cond.classLink RL 18 "java/lang/IllegalStateException", Cond.methodLink RL 9 yX11_addObject, Cond.instanceMethod yX11_addObject, Cond.selects RX11 yX11_addObject yX11_addObject, Cond.code yX11_addObject cX11_addObject 2 (some .int), Cond.classLink RX11 45 "java/lang/IndexOutOfBoundsException", Cond.initialized "java/lang/IndexOutOfBoundsException", Cond.classLink RX11 56 "java/lang/IllegalStateException", Cond.initialized "java/lang/IllegalStateException", Cond.classLink RX11 61 RX7, Cond.instantiable RX7 9, Cond.initialized RX7, Cond.methodLink RX11 41 yX8_find, Cond.instanceMethod yX8_find, Cond.selects RX8 yX8_find yX8_find, Cond.code yX8_find cX8_find 2 (some (.object "EventloopRow$Thing"))]
def wsL_law0_r5 : List Cond := [Cond.fieldLink RX8 17 "EventloopRow$Things" "count" "I", Cond.methodLink RX11 52 yX8_isFull, Cond.instanceMethod yX8_isFull, Cond.selects RX8 yX8_isFull yX8_isFull, Cond.code yX8_isFull cX8_isFull 1 (some .boolean), Cond.methodLink RX11 63 yX7_init, Cond.instanceMethod yX7_init, Cond.code yX7_init cX7_init 3 none, Cond.methodLink RX7 3 objectInit, Cond.fieldLink RX7 9 "EventloopRow$Thing" "target" "LEventloopRow$Thing;", Cond.fieldLink RX7 15 "EventloopRow$Thing" "chain" "LEventloopRow$Thing;", Cond.fieldLink RX7 18 "EventloopRow$Thing" "answers" "[I", Cond.fieldLink RX7 22 "EventloopRow$Thing" "values" "[I", Cond.fieldLink RX7 25 "EventloopRow$Thing" "rightsRow" "[I", Cond.fieldLink RX7 28 "EventloopRow$Thing" "keyRow" "[I", Cond.constant RX7 31 (1000000), Cond.methodLink RX7 32 yJ7_fill_53178, Cond.static yJ7_fill_53178, Cond.initialized RJ7, Cond.code yJ7_fill_53178 cJ7_fill_53178 4 none, Cond.methodLink RX11 66 yX8_append, Cond.instanceMethod yX8_append, Cond.selects RX8 yX8_append yX8_append, Cond.code yX8_append cX8_append 2 (some .int)]
def wsL_law0_r6 : List Cond := [Cond.methodLink RL 129 yL_addProxy, Cond.static yL_addProxy, Cond.codeWith yL_addProxy cL_addProxy 3 (some .int) [(0, 5, 6, 15), (0, 5, 10, 18)], Cond.methodLink RL 21 yX11_addProxy, Cond.instanceMethod yX11_addProxy, Cond.selects RX11 yX11_addProxy yX11_addProxy, Cond.code yX11_addProxy cX11_addProxy 3 (some .int), Cond.methodLink RL 88 yL_plain, Cond.static yL_plain, Cond.code yL_plain cL_plain 2 (some .int), Cond.methodLink RL 131 yL_define, Cond.static yL_define, Cond.codeWith yL_define cL_define 6 (some .int) [(0, 9, 10, 15), (0, 9, 15, 28)], Cond.classLink RL 28 "java/lang/IllegalArgumentException", Cond.methodLink RL 24 yX11_define, Cond.instanceMethod yX11_define, Cond.selects RX11 yX11_define yX11_define, Cond.code yX11_define cX11_define 7 (some .char), Cond.classLink RX11 78 "java/lang/IllegalArgumentException", Cond.initialized "java/lang/IllegalArgumentException", Cond.methodLink RX11 100 yX11_isKey, Cond.static yX11_isKey, Cond.code yX11_isKey cX11_isKey 1 (some .boolean), Cond.methodLink RX11 105 yX11_isValue]
def wsL_law0_r7 : List Cond := [Cond.static yX11_isValue, Cond.code yX11_isValue cX11_isValue 1 (some .boolean), Cond.methodLink RX11 110 yX8_plainBehind, Cond.instanceMethod yX8_plainBehind, Cond.selects RX8 yX8_plainBehind yX8_plainBehind, Cond.code yX8_plainBehind cX8_plainBehind 4 (some (.object "EventloopRow$Thing")), Cond.fieldLink RX8 25 "EventloopRow$Thing" "revoked" "Z", Cond.fieldLink RX8 29 "EventloopRow$Thing" "target" "LEventloopRow$Thing;", Cond.methodLink RX8 21 yX7_isProxy, Cond.instanceMethod yX7_isProxy, Cond.selects RX7 yX7_isProxy yX7_isProxy, Cond.code yX7_isProxy cX7_isProxy 1 (some .boolean), Cond.methodLink RX11 114 yX7_putIn, Cond.instanceMethod yX7_putIn, Cond.selects RX7 yX7_putIn yX7_putIn, Cond.code yX7_putIn cX7_putIn 4 (some .char), Cond.fieldLink RX7 53 "EventloopRow$Thing" "closed" "Z", Cond.methodLink RX7 42 yX7_holds, Cond.instanceMethod yX7_holds, Cond.selects RX7 yX7_holds yX7_holds, Cond.code yX7_holds cX7_holds 2 (some .boolean), Cond.methodLink RX7 57 yX7_listKey, Cond.instanceMethod yX7_listKey, Cond.selects RX7 yX7_listKey yX7_listKey]
def wsL_law0_r8 : List Cond := [Cond.code yX7_listKey cX7_listKey 3 none, Cond.fieldLink RX7 65 "EventloopRow$Thing" "keyCount" "I", Cond.methodLink RX7 46 yX7_canBe, Cond.instanceMethod yX7_canBe, Cond.selects RX7 yX7_canBe yX7_canBe, Cond.code yX7_canBe cX7_canBe 3 (some .boolean), Cond.methodLink RX7 61 yX7_isAllowed, Cond.static yX7_isAllowed, Cond.code yX7_isAllowed cX7_isAllowed 3 (some .boolean), Cond.methodLink RL 84 yL_defined, Cond.static yL_defined, Cond.code yL_defined cL_defined 7 (some .int), Cond.methodLink RL 81 yL_at, Cond.static yL_at, Cond.code yL_at cL_at 2 (some .int), Cond.methodLink RL 134 yL_set, Cond.static yL_set, Cond.codeWith yL_set cL_set 5 (some .int) [(0, 7, 8, 15), (0, 7, 13, 28)], Cond.methodLink RL 30 yX11_set, Cond.instanceMethod yX11_set, Cond.selects RX11 yX11_set yX11_set, Cond.code yX11_set cX11_set 5 (some .char), Cond.methodLink RX11 120 yX8_setFrom, Cond.instanceMethod yX8_setFrom]
def wsL_law0_r9 : List Cond := [Cond.selects RX8 yX8_setFrom yX8_setFrom, Cond.code yX8_setFrom cX8_setFrom 8 (some .char), Cond.fieldLink RX8 57 "EventloopRow$Thing" "chain" "LEventloopRow$Thing;", Cond.methodLink RX8 35 yX7_isTold, Cond.instanceMethod yX7_isTold, Cond.selects RX7 yX7_isTold yX7_isTold, Cond.code yX7_isTold cX7_isTold 2 (some .boolean), Cond.methodLink RX7 38 yX7_answerTo, Cond.instanceMethod yX7_answerTo, Cond.selects RX7 yX7_answerTo yX7_answerTo, Cond.code yX7_answerTo cX7_answerTo 2 (some .int), Cond.methodLink RX8 39 yX7_answerTo, Cond.methodLink RX8 43 yX8_plainBehind, Cond.methodLink RX8 47 yX7_keepsOther, Cond.instanceMethod yX7_keepsOther, Cond.selects RX7 yX7_keepsOther yX7_keepsOther, Cond.code yX7_keepsOther cX7_keepsOther 3 (some .boolean), Cond.methodLink RX7 50 yX7_valueOf, Cond.instanceMethod yX7_valueOf, Cond.selects RX7 yX7_valueOf yX7_valueOf, Cond.code yX7_valueOf cX7_valueOf 2 (some .int), Cond.methodLink RX8 63 yX8_yesOrNo, Cond.static yX8_yesOrNo, Cond.code yX8_yesOrNo cX8_yesOrNo 1 (some .char)]
def wsL_law0_r10 : List Cond := [Cond.methodLink RX8 51 yX7_holds, Cond.methodLink RX8 67 yX7_canBe, Cond.methodLink RX8 70 yX8_receive, Cond.instanceMethod yX8_receive, Cond.selects RX8 yX8_receive yX8_receive, Cond.code yX8_receive cX8_receive 5 (some .char), Cond.methodLink RX8 74 yX7_putIn, Cond.methodLink RX8 78 yX7_rightsOf, Cond.instanceMethod yX7_rightsOf, Cond.selects RX7 yX7_rightsOf yX7_rightsOf, Cond.code yX7_rightsOf cX7_rightsOf 2 (some .int), Cond.methodLink RL 91 yL_wasSet, Cond.static yL_wasSet, Cond.code yL_wasSet cL_wasSet 7 (some .int), Cond.methodLink RL 94 yL_found, Cond.static yL_found, Cond.code yL_found cL_found 4 (some .int), Cond.methodLink RL 98 yL_received, Cond.static yL_received, Cond.code yL_received cL_received 5 (some .int), Cond.methodLink RL 137 yL_delete, Cond.static yL_delete, Cond.codeWith yL_delete cL_delete 4 (some .int) [(0, 6, 7, 15)], Cond.methodLink RL 44 yX11_delete]
def wsL_law0_r11 : List Cond := [Cond.instanceMethod yX11_delete, Cond.selects RX11 yX11_delete yX11_delete, Cond.code yX11_delete cX11_delete 4 (some .char), Cond.methodLink RX11 139 yX8_deleteFrom, Cond.instanceMethod yX8_deleteFrom, Cond.selects RX8 yX8_deleteFrom yX8_deleteFrom, Cond.code yX8_deleteFrom cX8_deleteFrom 7 (some .char), Cond.methodLink RX8 81 yX7_takeOut, Cond.instanceMethod yX7_takeOut, Cond.selects RX7 yX7_takeOut yX7_takeOut, Cond.code yX7_takeOut cX7_takeOut 4 (some .char), Cond.methodLink RX8 60 yX7_keepsKey, Cond.instanceMethod yX7_keepsKey, Cond.selects RX7 yX7_keepsKey yX7_keepsKey, Cond.code yX7_keepsKey cX7_keepsKey 2 (some .boolean), Cond.methodLink RL 112 yL_gone, Cond.static yL_gone, Cond.code yL_gone cL_gone 5 (some .int), Cond.methodLink RL 105 yL_isKept, Cond.static yL_isKept, Cond.code yL_isKept cL_isKept 3 (some .boolean), Cond.methodLink RL 139 yL_closeObject, Cond.static yL_closeObject, Cond.codeWith yL_closeObject cL_closeObject 3 (some .int) [(0, 5, 6, 15)]]
def wsL_law0_r12 : List Cond := [Cond.methodLink RL 47 yX11_closeObject, Cond.instanceMethod yX11_closeObject, Cond.selects RX11 yX11_closeObject yX11_closeObject, Cond.code yX11_closeObject cX11_closeObject 4 (some .char), Cond.fieldLink RX11 142 "EventloopRow$Thing" "closed" "Z", Cond.methodLink RL 143 yJ0_charAt_5068e, Cond.instanceMethod yJ0_charAt_5068e, Cond.selects RJ0 yJ0_charAt_5068e yJ0_charAt_5068e, Cond.initialized RJ0, Cond.code yJ0_charAt_5068e cJ0_charAt_5068e 2 (some .char), Cond.fieldLink RJ0 9 "java/lang/String" "value" "[B", Cond.methodLink RJ0 492 yJ0_isLatin1_aae02, Cond.instanceMethod yJ0_isLatin1_aae02, Cond.selects RJ0 yJ0_isLatin1_aae02 yJ0_isLatin1_aae02, Cond.code yJ0_isLatin1_aae02 cJ0_isLatin1_aae02 1 (some .boolean), Cond.fieldLink RJ0 38 "java/lang/String" "COMPACT_STRINGS" "Z", Cond.fieldLink RJ0 15 "java/lang/String" "coder" "B", Cond.methodLink RJ0 495 yJ1_charAt_3b067, Cond.static yJ1_charAt_3b067, Cond.initialized RJ1, Cond.code yJ1_charAt_3b067 cJ1_charAt_3b067 2 (some .char), Cond.methodLink RJ1 9 yJ0_checkIndex_df160, Cond.static yJ0_checkIndex_df160, Cond.code yJ0_checkIndex_df160 cJ0_checkIndex_df160 2 none]
def wsL_law0_r13 : List Cond := [Cond.fieldLink RJ0 1053 "jdk/internal/util/Preconditions" "SIOOBE_FORMATTER" "Ljava/util/function/BiFunction;", Cond.methodLink RJ0 1059 yJ3_checkIndex_8e157, Cond.static yJ3_checkIndex_8e157, Cond.initialized RJ3, Cond.code yJ3_checkIndex_8e157 cJ3_checkIndex_8e157 3 (some .int), Cond.methodLink RJ0 498 yJ2_charAt_3b067, Cond.static yJ2_charAt_3b067, Cond.initialized RJ2, Cond.code yJ2_charAt_3b067 cJ2_charAt_3b067 2 (some .char), Cond.methodLink RJ2 67 yJ2_checkIndex_2214a, Cond.static yJ2_checkIndex_2214a, Cond.code yJ2_checkIndex_2214a cJ2_checkIndex_2214a 2 none, Cond.methodLink RJ2 48 yJ2_length_9d52b, Cond.static yJ2_length_9d52b, Cond.code yJ2_length_9d52b cJ2_length_9d52b 1 (some .int), Cond.methodLink RJ2 414 yJ0_checkIndex_df160, Cond.methodLink RJ2 71 yJ2_getChar_3b067, Cond.static yJ2_getChar_3b067, Cond.code yJ2_getChar_3b067 cJ2_getChar_3b067 2 (some .char), Cond.fieldLink RJ2 44 "java/lang/StringUTF16" "$assertionsDisabled" "Z", Cond.fieldLink RJ2 59 "java/lang/StringUTF16" "HI_BYTE_SHIFT" "I", Cond.fieldLink RJ2 63 "java/lang/StringUTF16" "LO_BYTE_SHIFT" "I", Cond.methodLink RL 148 yL_tell, Cond.static yL_tell]
def wsL_law0_r14 : List Cond := [Cond.codeWith yL_tell cL_tell 5 (some .int) [(0, 15, 16, 15), (0, 15, 21, 28), (0, 15, 26, 18)], Cond.methodLink RL 66 yX11_tell, Cond.instanceMethod yX11_tell, Cond.selects RX11 yX11_tell yX11_tell, Cond.code yX11_tell cX11_tell 7 (some .boolean), Cond.methodLink RX11 70 yX11_kindOf, Cond.static yX11_kindOf, Cond.code yX11_kindOf cX11_kindOf 1 (some .int), Cond.methodLink RX11 74 yX11_isAnswer, Cond.static yX11_isAnswer, Cond.code yX11_isAnswer cX11_isAnswer 2 (some .boolean), Cond.methodLink RX11 83 yX7_isProxy, Cond.methodLink RX11 88 yX7_isTold, Cond.methodLink RX11 92 yX7_keepAnswer, Cond.instanceMethod yX7_keepAnswer, Cond.selects RX7 yX7_keepAnswer yX7_keepAnswer, Cond.code yX7_keepAnswer cX7_keepAnswer 3 none, Cond.methodLink RL 151 yL_get, Cond.static yL_get, Cond.codeWith yL_get cL_get 4 (some .int) [(0, 6, 7, 15), (0, 6, 11, 38)], Cond.classLink RL 38 "java/lang/UnsupportedOperationException", Cond.methodLink RL 34 yX11_get, Cond.instanceMethod yX11_get, Cond.selects RX11 yX11_get yX11_get]
def wsL_law0_r15 : List Cond := [Cond.code yX11_get cX11_get 6 (some .int), Cond.classLink RX11 130 "java/lang/UnsupportedOperationException", Cond.initialized "java/lang/UnsupportedOperationException", Cond.constantLong RX11 128 (1099511627776), Cond.methodLink RX11 124 yX8_getFrom, Cond.instanceMethod yX8_getFrom, Cond.selects RX8 yX8_getFrom yX8_getFrom, Cond.code yX8_getFrom cX8_getFrom 7 (some .long), Cond.constantLong RX8 33 (1099511627776), Cond.methodLink RX8 54 yX7_valueOf, Cond.methodLink RL 102 yL_got, Cond.static yL_got, Cond.code yL_got cL_got 5 (some .int), Cond.methodLink RL 153 yL_has, Cond.static yL_has, Cond.codeWith yL_has cL_has 4 (some .int) [(0, 6, 7, 15)], Cond.methodLink RL 40 yX11_has, Cond.instanceMethod yX11_has, Cond.selects RX11 yX11_has yX11_has, Cond.code yX11_has cX11_has 4 (some .char), Cond.methodLink RX11 135 yX8_askFrom, Cond.instanceMethod yX8_askFrom, Cond.selects RX8 yX8_askFrom yX8_askFrom, Cond.code yX8_askFrom cX8_askFrom 7 (some .char)]
def wsL_law0_r16 : List Cond := [Cond.methodLink RL 109 yL_asked, Cond.static yL_asked, Cond.code yL_asked cL_asked 4 (some .int), Cond.methodLink RL 155 yL_areKeys, Cond.static yL_areKeys, Cond.code yL_areKeys cL_areKeys 9 (some .boolean), Cond.methodLink RL 115 yL_keyAt, Cond.static yL_keyAt, Cond.codeWith yL_keyAt cL_keyAt 4 (some .int) [(0, 6, 7, 15), (0, 6, 11, 38), (0, 6, 15, 60)], Cond.classLink RL 60 "java/util/NoSuchElementException", Cond.methodLink RL 57 yX11_keyAt, Cond.instanceMethod yX11_keyAt, Cond.selects RX11 yX11_keyAt yX11_keyAt, Cond.code yX11_keyAt cX11_keyAt 6 (some .int), Cond.classLink RX11 157 "java/util/NoSuchElementException", Cond.initialized "java/util/NoSuchElementException", Cond.methodLink RX11 153 yX7_listedAt, Cond.instanceMethod yX7_listedAt, Cond.selects RX7 yX7_listedAt yX7_listedAt, Cond.code yX7_listedAt cX7_listedAt 2 (some .int), Cond.methodLink RL 118 yL_rights, Cond.static yL_rights, Cond.codeWith yL_rights cL_rights 4 (some .int) [(0, 6, 7, 15), (0, 6, 11, 38), (0, 6, 15, 60)], Cond.methodLink RL 63 yX11_rights]
def wsL_law0_r17 : List Cond := [Cond.instanceMethod yX11_rights, Cond.selects RX11 yX11_rights yX11_rights, Cond.code yX11_rights cX11_rights 6 (some .int), Cond.methodLink RX11 162 yX7_rightsOf, Cond.methodLink RL 120 yL_keys, Cond.static yL_keys, Cond.codeWith yL_keys cL_keys 3 (some .int) [(0, 5, 6, 15), (0, 5, 10, 38)], Cond.methodLink RL 54 yX11_keys, Cond.instanceMethod yX11_keys, Cond.selects RX11 yX11_keys yX11_keys, Cond.code yX11_keys cX11_keys 4 (some .int), Cond.fieldLink RX11 149 "EventloopRow$Thing" "keyCount" "I", Cond.methodLink RL 159 yX11_isSound, Cond.instanceMethod yX11_isSound, Cond.selects RX11 yX11_isSound yX11_isSound, Cond.code yX11_isSound cX11_isSound 1 (some .boolean), Cond.methodLink RX11 281 yX5_isSettledClean, Cond.instanceMethod yX5_isSettledClean, Cond.selects RX5 yX5_isSettledClean yX5_isSettledClean, Cond.code yX5_isSettledClean cX5_isSettledClean 3 (some .boolean), Cond.fieldLink RX5 25 "EventloopRow$PromiseRow" "count" "I", Cond.fieldLink RX5 67 "EventloopRow$Promise" "state" "C", Cond.fieldLink RX5 77 "EventloopRow$Promise" "first" "LEventloopRow$Job;", Cond.methodLink RX5 29 yX5_find]
def wsL_law0_r18 : List Cond := [Cond.instanceMethod yX5_find, Cond.selects RX5 yX5_find yX5_find, Cond.code yX5_find cX5_find 2 (some (.object "EventloopRow$Promise")), Cond.methodLink RX11 284 yX2_hasJob, Cond.instanceMethod yX2_hasJob, Cond.selects RX2 yX2_hasJob yX2_hasJob, Cond.code yX2_hasJob cX2_hasJob 1 (some .boolean), Cond.fieldLink RX2 48 "EventloopRow$JobRow" "first" "LEventloopRow$Job;", Cond.methodLink RX11 287 yX8_areListed, Cond.instanceMethod yX8_areListed, Cond.selects RX8 yX8_areListed yX8_areListed, Cond.code yX8_areListed cX8_areListed 3 (some .boolean), Cond.methodLink RX8 88 yX8_find, Cond.methodLink RX8 92 yX7_isListed, Cond.instanceMethod yX7_isListed, Cond.selects RX7 yX7_isListed yX7_isListed, Cond.code yX7_isListed cX7_isListed 4 (some .boolean), Cond.methodLink RX7 69 yX7_listedAt, Cond.methodLink RX7 72 yX7_isInOrder, Cond.instanceMethod yX7_isInOrder, Cond.selects RX7 yX7_isInOrder yX7_isInOrder, Cond.code yX7_isInOrder cX7_isInOrder 5 (some .boolean), Cond.methodLink RL 163 yL_setChain, Cond.static yL_setChain]
def wsL_law0_r19 : List Cond := [Cond.codeWith yL_setChain cL_setChain 4 (some .int) [(0, 6, 7, 15)], Cond.methodLink RL 51 yX11_setChain, Cond.instanceMethod yX11_setChain, Cond.selects RX11 yX11_setChain yX11_setChain, Cond.code yX11_setChain cX11_setChain 6 (some .char), Cond.methodLink RX11 145 yX8_chainTo, Cond.instanceMethod yX8_chainTo, Cond.selects RX8 yX8_chainTo yX8_chainTo, Cond.code yX8_chainTo cX8_chainTo 5 (some .char), Cond.fieldLink RX8 85 "EventloopRow$Thing" "closed" "Z", Cond.methodLink RL 165 yL_revoke, Cond.static yL_revoke, Cond.codeWith yL_revoke cL_revoke 3 (some .int) [(0, 13, 14, 15), (0, 13, 18, 18)], Cond.methodLink RL 70 yX11_revoke, Cond.instanceMethod yX11_revoke, Cond.selects RX11 yX11_revoke yX11_revoke, Cond.code yX11_revoke cX11_revoke 4 (some .boolean), Cond.fieldLink RX11 96 "EventloopRow$Thing" "revoked" "Z"]
def wsL_law0 : List Cond := (wsL_law0_r1 ++ (wsL_law0_r2 ++ (wsL_law0_r3 ++ (wsL_law0_r4 ++ (wsL_law0_r5 ++ (wsL_law0_r6 ++ (wsL_law0_r7 ++ (wsL_law0_r8 ++ (wsL_law0_r9 ++ (wsL_law0_r10 ++ (wsL_law0_r11 ++ (wsL_law0_r12 ++ (wsL_law0_r13 ++ (wsL_law0_r14 ++ (wsL_law0_r15 ++ (wsL_law0_r16 ++ (wsL_law0_r17 ++ (wsL_law0_r18 ++ wsL_law0_r19)))))))))))))))))) ++ wsX110 ++ wsX80 ++ wsX20 ++ wsX50 ++ wsX30 ++ wsX100 ++ wsX70 ++ wsJ00 ++ ([] : List Cond)
def wsL_law : List Cond := wsL_law0 ++ (vx_atM "java/lang/ArrayIndexOutOfBoundsException" ["java/lang/IndexOutOfBoundsException", "java/lang/RuntimeException", "java/lang/Exception"]).filter goodWord ++ (vx_atS RX11 49 "java/lang/IndexOutOfBoundsException" ["java/lang/RuntimeException", "java/lang/Exception"]).filter goodWord ++ (vx_atS RX11 60 "java/lang/IllegalStateException" ["java/lang/RuntimeException", "java/lang/Exception"]).filter goodWord ++ (vx_atS RX11 82 "java/lang/IllegalArgumentException" ["java/lang/RuntimeException", "java/lang/Exception"]).filter goodWord ++ (vx_atS RX11 134 "java/lang/UnsupportedOperationException" ["java/lang/RuntimeException", "java/lang/Exception"]).filter goodWord ++ (vx_atS RX11 161 "java/util/NoSuchElementException" ["java/lang/RuntimeException", "java/lang/Exception"]).filter goodWord
end
section
/-! decode rows and calls' words -/
theorem dX2_init_0 : decode cX2_init 0 = .ok (.aload_n 0, 1) := by decide +kernel
theorem dX2_init_1 : decode cX2_init 1 = .ok (.invokespecial 3, 3) := by decide +kernel
theorem dX2_init_4 : decode cX2_init 4 = .ok (.return_, 1) := by decide +kernel
theorem dX2_hasJob_0 : decode cX2_hasJob 0 = .ok (.aload_n 0, 1) := by decide +kernel
theorem dX2_hasJob_1 : decode cX2_hasJob 1 = .ok (.getfield 48, 3) := by decide +kernel
theorem dX2_hasJob_4 : decode cX2_hasJob 4 = .ok (.ifnull 7, 3) := by decide +kernel
theorem dX2_hasJob_7 : decode cX2_hasJob 7 = .ok (.iconst 1, 1) := by decide +kernel
theorem dX2_hasJob_8 : decode cX2_hasJob 8 = .ok (.goto 4, 3) := by decide +kernel
theorem dX2_hasJob_11 : decode cX2_hasJob 11 = .ok (.iconst 0, 1) := by decide +kernel
theorem dX2_hasJob_12 : decode cX2_hasJob 12 = .ok (.ireturn, 1) := by decide +kernel
set_option maxRecDepth 20000 in
theorem ggX3_init_X10_init : GoodIn wsX3_init wsX10_init := goodIn_r _ [18, 19, 2, 3, 20, 21, 22, 23, 24] (by decide +kernel) (by decide +kernel)
set_option maxRecDepth 20000 in
theorem gX3_init_X10_init_n11 : GoodIn wsX3_init (wsX10_init) := ggX3_init_X10_init
theorem dX3_init_0 : decode cX3_init 0 = .ok (.aload_n 0, 1) := by decide +kernel
theorem dX3_init_1 : decode cX3_init 1 = .ok (.invokespecial 3, 3) := by decide +kernel
theorem dX3_init_4 : decode cX3_init 4 = .ok (.aload_n 0, 1) := by decide +kernel
theorem dX3_init_5 : decode cX3_init 5 = .ok (.new 9, 3) := by decide +kernel
theorem dX3_init_8 : decode cX3_init 8 = .ok (.dup, 1) := by decide +kernel
theorem dX3_init_9 : decode cX3_init 9 = .ok (.invokespecial 11, 3) := by decide +kernel
theorem dX3_init_12 : decode cX3_init 12 = .ok (.putfield 12, 3) := by decide +kernel
theorem dX3_init_15 : decode cX3_init 15 = .ok (.aload_n 0, 1) := by decide +kernel
theorem dX3_init_16 : decode cX3_init 16 = .ok (.sipush 128, 3) := by decide +kernel
theorem dX3_init_19 : decode cX3_init 19 = .ok (.anewarray 18, 3) := by decide +kernel
theorem dX3_init_22 : decode cX3_init 22 = .ok (.putfield 20, 3) := by decide +kernel
theorem dX3_init_25 : decode cX3_init 25 = .ok (.aload_n 0, 1) := by decide +kernel
theorem dX3_init_26 : decode cX3_init 26 = .ok (.bipush 8, 2) := by decide +kernel
theorem dX3_init_28 : decode cX3_init 28 = .ok (.newarray .int, 2) := by decide +kernel
theorem dX3_init_30 : decode cX3_init 30 = .ok (.putfield 24, 3) := by decide +kernel
theorem dX3_init_33 : decode cX3_init 33 = .ok (.aload_n 0, 1) := by decide +kernel
theorem dX3_init_34 : decode cX3_init 34 = .ok (.bipush 30, 2) := by decide +kernel
theorem dX3_init_36 : decode cX3_init 36 = .ok (.newarray .int, 2) := by decide +kernel
theorem dX3_init_38 : decode cX3_init 38 = .ok (.putfield 28, 3) := by decide +kernel
theorem dX3_init_41 : decode cX3_init 41 = .ok (.aload_n 0, 1) := by decide +kernel
theorem dX3_init_42 : decode cX3_init 42 = .ok (.sipush 400, 3) := by decide +kernel
theorem dX3_init_45 : decode cX3_init 45 = .ok (.newarray .int, 2) := by decide +kernel
theorem dX3_init_47 : decode cX3_init 47 = .ok (.putfield 31, 3) := by decide +kernel
theorem dX3_init_50 : decode cX3_init 50 = .ok (.aload_n 0, 1) := by decide +kernel
theorem dX3_init_51 : decode cX3_init 51 = .ok (.aload_n 1, 1) := by decide +kernel
theorem dX3_init_52 : decode cX3_init 52 = .ok (.putfield 34, 3) := by decide +kernel
theorem dX3_init_55 : decode cX3_init 55 = .ok (.aload_n 0, 1) := by decide +kernel
theorem dX3_init_56 : decode cX3_init 56 = .ok (.aload_n 2, 1) := by decide +kernel
theorem dX3_init_57 : decode cX3_init 57 = .ok (.putfield 38, 3) := by decide +kernel
theorem dX3_init_60 : decode cX3_init 60 = .ok (.aload_n 0, 1) := by decide +kernel
theorem dX3_init_61 : decode cX3_init 61 = .ok (.aload_n 3, 1) := by decide +kernel
theorem dX3_init_62 : decode cX3_init 62 = .ok (.putfield 42, 3) := by decide +kernel
theorem dX3_init_65 : decode cX3_init 65 = .ok (.return_, 1) := by decide +kernel
theorem dX5_init_0 : decode cX5_init 0 = .ok (.aload_n 0, 1) := by decide +kernel
theorem dX5_init_1 : decode cX5_init 1 = .ok (.invokespecial 3, 3) := by decide +kernel
theorem dX5_init_4 : decode cX5_init 4 = .ok (.aload_n 0, 1) := by decide +kernel
theorem dX5_init_5 : decode cX5_init 5 = .ok (.bipush 60, 2) := by decide +kernel
theorem dX5_init_7 : decode cX5_init 7 = .ok (.anewarray 9, 3) := by decide +kernel
theorem dX5_init_10 : decode cX5_init 10 = .ok (.putfield 11, 3) := by decide +kernel
theorem dX5_init_13 : decode cX5_init 13 = .ok (.aload_n 0, 1) := by decide +kernel
theorem dX5_init_14 : decode cX5_init 14 = .ok (.bipush 60, 2) := by decide +kernel
theorem dX5_init_16 : decode cX5_init 16 = .ok (.newarray .int, 2) := by decide +kernel
theorem dX5_init_18 : decode cX5_init 18 = .ok (.putfield 17, 3) := by decide +kernel
theorem dX5_init_21 : decode cX5_init 21 = .ok (.aload_n 0, 1) := by decide +kernel
theorem dX5_init_22 : decode cX5_init 22 = .ok (.aload_n 1, 1) := by decide +kernel
theorem dX5_init_23 : decode cX5_init 23 = .ok (.putfield 21, 3) := by decide +kernel
theorem dX5_init_26 : decode cX5_init 26 = .ok (.return_, 1) := by decide +kernel
theorem dX5_find_0 : decode cX5_find 0 = .ok (.iload_n 1, 1) := by decide +kernel
theorem dX5_find_1 : decode cX5_find 1 = .ok (.ifCond .lt 17, 3) := by decide +kernel
theorem dX5_find_4 : decode cX5_find 4 = .ok (.iload_n 1, 1) := by decide +kernel
theorem dX5_find_5 : decode cX5_find 5 = .ok (.aload_n 0, 1) := by decide +kernel
theorem dX5_find_6 : decode cX5_find 6 = .ok (.getfield 25, 3) := by decide +kernel
theorem dX5_find_9 : decode cX5_find 9 = .ok (.if_icmp .ge 9, 3) := by decide +kernel
theorem dX5_find_12 : decode cX5_find 12 = .ok (.iload_n 1, 1) := by decide +kernel
theorem dX5_find_13 : decode cX5_find 13 = .ok (.bipush 60, 2) := by decide +kernel
theorem dX5_find_15 : decode cX5_find 15 = .ok (.if_icmp .lt 7, 3) := by decide +kernel
theorem dX5_find_18 : decode cX5_find 18 = .ok (.aconst_null, 1) := by decide +kernel
theorem dX5_find_19 : decode cX5_find 19 = .ok (.goto 9, 3) := by decide +kernel
theorem dX5_find_22 : decode cX5_find 22 = .ok (.aload_n 0, 1) := by decide +kernel
theorem dX5_find_23 : decode cX5_find 23 = .ok (.getfield 11, 3) := by decide +kernel
theorem dX5_find_26 : decode cX5_find 26 = .ok (.iload_n 1, 1) := by decide +kernel
theorem dX5_find_27 : decode cX5_find 27 = .ok (.aaload, 1) := by decide +kernel
theorem dX5_find_28 : decode cX5_find 28 = .ok (.areturn, 1) := by decide +kernel
set_option maxRecDepth 20000 in
theorem ggX5_isSettledClean_X5_find : GoodIn wsX5_isSettledClean wsX5_find := goodIn_r _ [8, 1, 9, 10, 11, 12, 13, 14, 15, 16, 17] (by decide +kernel) (by decide +kernel)
set_option maxRecDepth 20000 in
theorem gX5_isSettledClean_X5_find : GoodIn wsX5_isSettledClean (wsV RX5 29 RX5 yX5_find wsX5_find) := goodIn_app (goodIn_of _ (by decide +kernel)) ggX5_isSettledClean_X5_find
theorem dX5_isSettledClean_0 : decode cX5_isSettledClean 0 = .ok (.iconst 0, 1) := by decide +kernel
theorem dX5_isSettledClean_1 : decode cX5_isSettledClean 1 = .ok (.istore_n 1, 1) := by decide +kernel
theorem dX5_isSettledClean_2 : decode cX5_isSettledClean 2 = .ok (.iload_n 1, 1) := by decide +kernel
theorem dX5_isSettledClean_3 : decode cX5_isSettledClean 3 = .ok (.aload_n 0, 1) := by decide +kernel
theorem dX5_isSettledClean_4 : decode cX5_isSettledClean 4 = .ok (.getfield 25, 3) := by decide +kernel
theorem dX5_isSettledClean_7 : decode cX5_isSettledClean 7 = .ok (.if_icmp .ge 37, 3) := by decide +kernel
theorem dX5_isSettledClean_10 : decode cX5_isSettledClean 10 = .ok (.aload_n 0, 1) := by decide +kernel
theorem dX5_isSettledClean_11 : decode cX5_isSettledClean 11 = .ok (.iload_n 1, 1) := by decide +kernel
theorem dX5_isSettledClean_12 : decode cX5_isSettledClean 12 = .ok (.invokevirtual 29, 3) := by decide +kernel
theorem dX5_isSettledClean_15 : decode cX5_isSettledClean 15 = .ok (.astore_n 2, 1) := by decide +kernel
theorem dX5_isSettledClean_16 : decode cX5_isSettledClean 16 = .ok (.aload_n 2, 1) := by decide +kernel
theorem dX5_isSettledClean_17 : decode cX5_isSettledClean 17 = .ok (.ifnull 21, 3) := by decide +kernel
theorem dX5_isSettledClean_20 : decode cX5_isSettledClean 20 = .ok (.aload_n 2, 1) := by decide +kernel
theorem dX5_isSettledClean_21 : decode cX5_isSettledClean 21 = .ok (.getfield 67, 3) := by decide +kernel
theorem dX5_isSettledClean_24 : decode cX5_isSettledClean 24 = .ok (.bipush 119, 2) := by decide +kernel
theorem dX5_isSettledClean_26 : decode cX5_isSettledClean 26 = .ok (.if_icmp .eq 12, 3) := by decide +kernel
theorem dX5_isSettledClean_29 : decode cX5_isSettledClean 29 = .ok (.aload_n 2, 1) := by decide +kernel
theorem dX5_isSettledClean_30 : decode cX5_isSettledClean 30 = .ok (.getfield 77, 3) := by decide +kernel
theorem dX5_isSettledClean_33 : decode cX5_isSettledClean 33 = .ok (.ifnull 5, 3) := by decide +kernel
theorem dX5_isSettledClean_36 : decode cX5_isSettledClean 36 = .ok (.iconst 0, 1) := by decide +kernel
theorem dX5_isSettledClean_37 : decode cX5_isSettledClean 37 = .ok (.ireturn, 1) := by decide +kernel
theorem dX5_isSettledClean_38 : decode cX5_isSettledClean 38 = .ok (.iinc 1 1, 3) := by decide +kernel
theorem dX5_isSettledClean_41 : decode cX5_isSettledClean 41 = .ok (.goto (-39), 3) := by decide +kernel
theorem dX5_isSettledClean_44 : decode cX5_isSettledClean 44 = .ok (.iconst 1, 1) := by decide +kernel
theorem dX5_isSettledClean_45 : decode cX5_isSettledClean 45 = .ok (.ireturn, 1) := by decide +kernel
set_option maxRecDepth 20000 in
theorem ggX7_init_J7_fill_53178 : GoodIn wsX7_init wsJ7_fill_53178 := goodIn_r _ [15] (by decide +kernel) (by decide +kernel)
set_option maxRecDepth 20000 in
theorem gX7_init_J7_fill_53178 : GoodIn wsX7_init (va_wsS RX7 32 yJ7_fill_53178 wsJ7_fill_53178) := goodIn_app (goodIn_of _ (by decide +kernel)) ggX7_init_J7_fill_53178
theorem dX7_init_0 : decode cX7_init 0 = .ok (.aload_n 0, 1) := by decide +kernel
theorem dX7_init_1 : decode cX7_init 1 = .ok (.invokespecial 3, 3) := by decide +kernel
theorem dX7_init_4 : decode cX7_init 4 = .ok (.aload_n 0, 1) := by decide +kernel
theorem dX7_init_5 : decode cX7_init 5 = .ok (.aload_n 1, 1) := by decide +kernel
theorem dX7_init_6 : decode cX7_init 6 = .ok (.putfield 9, 3) := by decide +kernel
theorem dX7_init_9 : decode cX7_init 9 = .ok (.aload_n 0, 1) := by decide +kernel
theorem dX7_init_10 : decode cX7_init 10 = .ok (.aload_n 2, 1) := by decide +kernel
theorem dX7_init_11 : decode cX7_init 11 = .ok (.putfield 15, 3) := by decide +kernel
theorem dX7_init_14 : decode cX7_init 14 = .ok (.aload_n 0, 1) := by decide +kernel
theorem dX7_init_15 : decode cX7_init 15 = .ok (.iconst 4, 1) := by decide +kernel
theorem dX7_init_16 : decode cX7_init 16 = .ok (.newarray .int, 2) := by decide +kernel
theorem dX7_init_18 : decode cX7_init 18 = .ok (.putfield 18, 3) := by decide +kernel
theorem dX7_init_21 : decode cX7_init 21 = .ok (.aload_n 0, 1) := by decide +kernel
theorem dX7_init_22 : decode cX7_init 22 = .ok (.bipush 20, 2) := by decide +kernel
theorem dX7_init_24 : decode cX7_init 24 = .ok (.newarray .int, 2) := by decide +kernel
theorem dX7_init_26 : decode cX7_init 26 = .ok (.putfield 22, 3) := by decide +kernel
theorem dX7_init_29 : decode cX7_init 29 = .ok (.aload_n 0, 1) := by decide +kernel
theorem dX7_init_30 : decode cX7_init 30 = .ok (.bipush 20, 2) := by decide +kernel
theorem dX7_init_32 : decode cX7_init 32 = .ok (.newarray .int, 2) := by decide +kernel
theorem dX7_init_34 : decode cX7_init 34 = .ok (.putfield 25, 3) := by decide +kernel
theorem dX7_init_37 : decode cX7_init 37 = .ok (.aload_n 0, 1) := by decide +kernel
theorem dX7_init_38 : decode cX7_init 38 = .ok (.bipush 20, 2) := by decide +kernel
theorem dX7_init_40 : decode cX7_init 40 = .ok (.newarray .int, 2) := by decide +kernel
theorem dX7_init_42 : decode cX7_init 42 = .ok (.putfield 28, 3) := by decide +kernel
theorem dX7_init_45 : decode cX7_init 45 = .ok (.aload_n 0, 1) := by decide +kernel
theorem dX7_init_46 : decode cX7_init 46 = .ok (.getfield 18, 3) := by decide +kernel
theorem dX7_init_49 : decode cX7_init 49 = .ok (.ldc 31, 2) := by decide +kernel
theorem dX7_init_51 : decode cX7_init 51 = .ok (.invokestatic 32, 3) := by decide +kernel
theorem dX7_init_54 : decode cX7_init 54 = .ok (.aload_n 0, 1) := by decide +kernel
theorem dX7_init_55 : decode cX7_init 55 = .ok (.getfield 25, 3) := by decide +kernel
theorem dX7_init_58 : decode cX7_init 58 = .ok (.iconst (-1), 1) := by decide +kernel
theorem dX7_init_59 : decode cX7_init 59 = .ok (.invokestatic 32, 3) := by decide +kernel
theorem dX7_init_62 : decode cX7_init 62 = .ok (.return_, 1) := by decide +kernel
theorem dX7_isProxy_0 : decode cX7_isProxy 0 = .ok (.aload_n 0, 1) := by decide +kernel
theorem dX7_isProxy_1 : decode cX7_isProxy 1 = .ok (.getfield 9, 3) := by decide +kernel
theorem dX7_isProxy_4 : decode cX7_isProxy 4 = .ok (.ifnull 7, 3) := by decide +kernel
theorem dX7_isProxy_7 : decode cX7_isProxy 7 = .ok (.iconst 1, 1) := by decide +kernel
theorem dX7_isProxy_8 : decode cX7_isProxy 8 = .ok (.goto 4, 3) := by decide +kernel
theorem dX7_isProxy_11 : decode cX7_isProxy 11 = .ok (.iconst 0, 1) := by decide +kernel
theorem dX7_isProxy_12 : decode cX7_isProxy 12 = .ok (.ireturn, 1) := by decide +kernel
theorem dX7_answerTo_0 : decode cX7_answerTo 0 = .ok (.iload_n 1, 1) := by decide +kernel
theorem dX7_answerTo_1 : decode cX7_answerTo 1 = .ok (.ifCond .lt 8, 3) := by decide +kernel
theorem dX7_answerTo_4 : decode cX7_answerTo 4 = .ok (.iload_n 1, 1) := by decide +kernel
theorem dX7_answerTo_5 : decode cX7_answerTo 5 = .ok (.iconst 4, 1) := by decide +kernel
theorem dX7_answerTo_6 : decode cX7_answerTo 6 = .ok (.if_icmp .lt 8, 3) := by decide +kernel
theorem dX7_answerTo_9 : decode cX7_answerTo 9 = .ok (.ldc 31, 2) := by decide +kernel
theorem dX7_answerTo_11 : decode cX7_answerTo 11 = .ok (.goto 9, 3) := by decide +kernel
theorem dX7_answerTo_14 : decode cX7_answerTo 14 = .ok (.aload_n 0, 1) := by decide +kernel
theorem dX7_answerTo_15 : decode cX7_answerTo 15 = .ok (.getfield 18, 3) := by decide +kernel
theorem dX7_answerTo_18 : decode cX7_answerTo 18 = .ok (.iload_n 1, 1) := by decide +kernel
theorem dX7_answerTo_19 : decode cX7_answerTo 19 = .ok (.iaload, 1) := by decide +kernel
theorem dX7_answerTo_20 : decode cX7_answerTo 20 = .ok (.ireturn, 1) := by decide +kernel
set_option maxRecDepth 20000 in
theorem ggX7_isTold_X7_answerTo : GoodIn wsX7_isTold wsX7_answerTo := goodIn_ca (goodIn_r _ [6, 1, 7, 8, 9, 10, 11, 12, 13, 14, 15, 16] (by decide +kernel) (by decide +kernel)) (goodIn_sub (fun _ h => List.mem_cons_of_mem _ (List.mem_append_right _ h)) (by decide +kernel))
set_option maxRecDepth 20000 in
theorem gX7_isTold_X7_answerTo : GoodIn wsX7_isTold (wsV RX7 38 RX7 yX7_answerTo wsX7_answerTo) := goodIn_app (goodIn_of _ (by decide +kernel)) ggX7_isTold_X7_answerTo
theorem dX7_isTold_0 : decode cX7_isTold 0 = .ok (.aload_n 0, 1) := by decide +kernel
theorem dX7_isTold_1 : decode cX7_isTold 1 = .ok (.iload_n 1, 1) := by decide +kernel
theorem dX7_isTold_2 : decode cX7_isTold 2 = .ok (.invokevirtual 38, 3) := by decide +kernel
theorem dX7_isTold_5 : decode cX7_isTold 5 = .ok (.ldc 31, 2) := by decide +kernel
theorem dX7_isTold_7 : decode cX7_isTold 7 = .ok (.if_icmp .eq 7, 3) := by decide +kernel
theorem dX7_isTold_10 : decode cX7_isTold 10 = .ok (.iconst 1, 1) := by decide +kernel
theorem dX7_isTold_11 : decode cX7_isTold 11 = .ok (.goto 4, 3) := by decide +kernel
theorem dX7_isTold_14 : decode cX7_isTold 14 = .ok (.iconst 0, 1) := by decide +kernel
theorem dX7_isTold_15 : decode cX7_isTold 15 = .ok (.ireturn, 1) := by decide +kernel
theorem dX7_keepAnswer_0 : decode cX7_keepAnswer 0 = .ok (.iload_n 1, 1) := by decide +kernel
theorem dX7_keepAnswer_1 : decode cX7_keepAnswer 1 = .ok (.ifCond .lt 15, 3) := by decide +kernel
theorem dX7_keepAnswer_4 : decode cX7_keepAnswer 4 = .ok (.iload_n 1, 1) := by decide +kernel
theorem dX7_keepAnswer_5 : decode cX7_keepAnswer 5 = .ok (.iconst 4, 1) := by decide +kernel
theorem dX7_keepAnswer_6 : decode cX7_keepAnswer 6 = .ok (.if_icmp .ge 10, 3) := by decide +kernel
theorem dX7_keepAnswer_9 : decode cX7_keepAnswer 9 = .ok (.aload_n 0, 1) := by decide +kernel
theorem dX7_keepAnswer_10 : decode cX7_keepAnswer 10 = .ok (.getfield 18, 3) := by decide +kernel
theorem dX7_keepAnswer_13 : decode cX7_keepAnswer 13 = .ok (.iload_n 1, 1) := by decide +kernel
theorem dX7_keepAnswer_14 : decode cX7_keepAnswer 14 = .ok (.iload_n 2, 1) := by decide +kernel
theorem dX7_keepAnswer_15 : decode cX7_keepAnswer 15 = .ok (.iastore, 1) := by decide +kernel
theorem dX7_keepAnswer_16 : decode cX7_keepAnswer 16 = .ok (.return_, 1) := by decide +kernel
theorem dX7_rightsOf_0 : decode cX7_rightsOf 0 = .ok (.iload_n 1, 1) := by decide +kernel
theorem dX7_rightsOf_1 : decode cX7_rightsOf 1 = .ok (.ifCond .lt 9, 3) := by decide +kernel
theorem dX7_rightsOf_4 : decode cX7_rightsOf 4 = .ok (.iload_n 1, 1) := by decide +kernel
theorem dX7_rightsOf_5 : decode cX7_rightsOf 5 = .ok (.bipush 20, 2) := by decide +kernel
theorem dX7_rightsOf_7 : decode cX7_rightsOf 7 = .ok (.if_icmp .lt 7, 3) := by decide +kernel
theorem dX7_rightsOf_10 : decode cX7_rightsOf 10 = .ok (.iconst (-1), 1) := by decide +kernel
theorem dX7_rightsOf_11 : decode cX7_rightsOf 11 = .ok (.goto 9, 3) := by decide +kernel
theorem dX7_rightsOf_14 : decode cX7_rightsOf 14 = .ok (.aload_n 0, 1) := by decide +kernel
theorem dX7_rightsOf_15 : decode cX7_rightsOf 15 = .ok (.getfield 25, 3) := by decide +kernel
theorem dX7_rightsOf_18 : decode cX7_rightsOf 18 = .ok (.iload_n 1, 1) := by decide +kernel
theorem dX7_rightsOf_19 : decode cX7_rightsOf 19 = .ok (.iaload, 1) := by decide +kernel
theorem dX7_rightsOf_20 : decode cX7_rightsOf 20 = .ok (.ireturn, 1) := by decide +kernel
theorem dX7_valueOf_0 : decode cX7_valueOf 0 = .ok (.iload_n 1, 1) := by decide +kernel
theorem dX7_valueOf_1 : decode cX7_valueOf 1 = .ok (.ifCond .lt 9, 3) := by decide +kernel
theorem dX7_valueOf_4 : decode cX7_valueOf 4 = .ok (.iload_n 1, 1) := by decide +kernel
theorem dX7_valueOf_5 : decode cX7_valueOf 5 = .ok (.bipush 20, 2) := by decide +kernel
theorem dX7_valueOf_7 : decode cX7_valueOf 7 = .ok (.if_icmp .lt 7, 3) := by decide +kernel
theorem dX7_valueOf_10 : decode cX7_valueOf 10 = .ok (.iconst 0, 1) := by decide +kernel
theorem dX7_valueOf_11 : decode cX7_valueOf 11 = .ok (.goto 9, 3) := by decide +kernel
theorem dX7_valueOf_14 : decode cX7_valueOf 14 = .ok (.aload_n 0, 1) := by decide +kernel
theorem dX7_valueOf_15 : decode cX7_valueOf 15 = .ok (.getfield 22, 3) := by decide +kernel
theorem dX7_valueOf_18 : decode cX7_valueOf 18 = .ok (.iload_n 1, 1) := by decide +kernel
theorem dX7_valueOf_19 : decode cX7_valueOf 19 = .ok (.iaload, 1) := by decide +kernel
theorem dX7_valueOf_20 : decode cX7_valueOf 20 = .ok (.ireturn, 1) := by decide +kernel
theorem dX7_holds_0 : decode cX7_holds 0 = .ok (.iload_n 1, 1) := by decide +kernel
theorem dX7_holds_1 : decode cX7_holds 1 = .ok (.ifCond .lt 23, 3) := by decide +kernel
theorem dX7_holds_4 : decode cX7_holds 4 = .ok (.iload_n 1, 1) := by decide +kernel
theorem dX7_holds_5 : decode cX7_holds 5 = .ok (.bipush 20, 2) := by decide +kernel
theorem dX7_holds_7 : decode cX7_holds 7 = .ok (.if_icmp .ge 17, 3) := by decide +kernel
theorem dX7_holds_10 : decode cX7_holds 10 = .ok (.aload_n 0, 1) := by decide +kernel
theorem dX7_holds_11 : decode cX7_holds 11 = .ok (.getfield 25, 3) := by decide +kernel
theorem dX7_holds_14 : decode cX7_holds 14 = .ok (.iload_n 1, 1) := by decide +kernel
theorem dX7_holds_15 : decode cX7_holds 15 = .ok (.iaload, 1) := by decide +kernel
theorem dX7_holds_16 : decode cX7_holds 16 = .ok (.iconst (-1), 1) := by decide +kernel
theorem dX7_holds_17 : decode cX7_holds 17 = .ok (.if_icmp .eq 7, 3) := by decide +kernel
theorem dX7_holds_20 : decode cX7_holds 20 = .ok (.iconst 1, 1) := by decide +kernel
theorem dX7_holds_21 : decode cX7_holds 21 = .ok (.goto 4, 3) := by decide +kernel
theorem dX7_holds_24 : decode cX7_holds 24 = .ok (.iconst 0, 1) := by decide +kernel
theorem dX7_holds_25 : decode cX7_holds 25 = .ok (.ireturn, 1) := by decide +kernel
theorem dX7_canBe_0 : decode cX7_canBe 0 = .ok (.iload_n 2, 1) := by decide +kernel
theorem dX7_canBe_1 : decode cX7_canBe 1 = .ok (.ifCond .lt 34, 3) := by decide +kernel
theorem dX7_canBe_4 : decode cX7_canBe 4 = .ok (.iload_n 2, 1) := by decide +kernel
theorem dX7_canBe_5 : decode cX7_canBe 5 = .ok (.bipush 20, 2) := by decide +kernel
theorem dX7_canBe_7 : decode cX7_canBe 7 = .ok (.if_icmp .ge 28, 3) := by decide +kernel
theorem dX7_canBe_10 : decode cX7_canBe 10 = .ok (.aload_n 0, 1) := by decide +kernel
theorem dX7_canBe_11 : decode cX7_canBe 11 = .ok (.getfield 25, 3) := by decide +kernel
theorem dX7_canBe_14 : decode cX7_canBe 14 = .ok (.iload_n 2, 1) := by decide +kernel
theorem dX7_canBe_15 : decode cX7_canBe 15 = .ok (.iaload, 1) := by decide +kernel
theorem dX7_canBe_16 : decode cX7_canBe 16 = .ok (.iconst (-1), 1) := by decide +kernel
theorem dX7_canBe_17 : decode cX7_canBe 17 = .ok (.if_icmp .eq 18, 3) := by decide +kernel
theorem dX7_canBe_20 : decode cX7_canBe 20 = .ok (.aload_n 0, 1) := by decide +kernel
theorem dX7_canBe_21 : decode cX7_canBe 21 = .ok (.getfield 25, 3) := by decide +kernel
theorem dX7_canBe_24 : decode cX7_canBe 24 = .ok (.iload_n 2, 1) := by decide +kernel
theorem dX7_canBe_25 : decode cX7_canBe 25 = .ok (.iaload, 1) := by decide +kernel
theorem dX7_canBe_26 : decode cX7_canBe 26 = .ok (.iload_n 1, 1) := by decide +kernel
theorem dX7_canBe_27 : decode cX7_canBe 27 = .ok (.iand, 1) := by decide +kernel
theorem dX7_canBe_28 : decode cX7_canBe 28 = .ok (.ifCond .eq 7, 3) := by decide +kernel
theorem dX7_canBe_31 : decode cX7_canBe 31 = .ok (.iconst 1, 1) := by decide +kernel
theorem dX7_canBe_32 : decode cX7_canBe 32 = .ok (.goto 4, 3) := by decide +kernel
theorem dX7_canBe_35 : decode cX7_canBe 35 = .ok (.iconst 0, 1) := by decide +kernel
theorem dX7_canBe_36 : decode cX7_canBe 36 = .ok (.ireturn, 1) := by decide +kernel
set_option maxRecDepth 20000 in
theorem ggX7_keepsOther_X7_holds : GoodIn wsX7_keepsOther wsX7_holds := goodIn_ca (goodIn_r _ [5, 6, 16, 17, 18, 19, 20, 21, 22, 23, 24] (by decide +kernel) (by decide +kernel)) (goodIn_sub (fun _ h => List.mem_cons_of_mem _ (List.mem_append_right _ h)) (by decide +kernel))
set_option maxRecDepth 20000 in
theorem gX7_keepsOther_X7_holds : GoodIn wsX7_keepsOther (wsV RX7 42 RX7 yX7_holds wsX7_holds) := goodIn_app (goodIn_of _ (by decide +kernel)) ggX7_keepsOther_X7_holds
set_option maxRecDepth 20000 in
theorem ggX7_keepsOther_X7_canBe : GoodIn wsX7_keepsOther wsX7_canBe := goodIn_ca (goodIn_r _ [10, 6, 16, 17, 18, 19, 20, 21, 22, 23, 24] (by decide +kernel) (by decide +kernel)) (goodIn_sub (fun _ h => List.mem_cons_of_mem _ (List.mem_append_right _ h)) (by decide +kernel))
set_option maxRecDepth 20000 in
theorem gX7_keepsOther_X7_canBe : GoodIn wsX7_keepsOther (wsV RX7 46 RX7 yX7_canBe wsX7_canBe) := goodIn_app (goodIn_of _ (by decide +kernel)) ggX7_keepsOther_X7_canBe
set_option maxRecDepth 20000 in
theorem ggX7_keepsOther_X7_valueOf : GoodIn wsX7_keepsOther wsX7_valueOf := goodIn_ca (goodIn_r _ [14, 15, 16, 17, 18, 19, 20, 21, 22, 23, 24] (by decide +kernel) (by decide +kernel)) (goodIn_sub (fun _ h => List.mem_cons_of_mem _ (List.mem_append_right _ h)) (by decide +kernel))
set_option maxRecDepth 20000 in
theorem gX7_keepsOther_X7_valueOf : GoodIn wsX7_keepsOther (wsV RX7 50 RX7 yX7_valueOf wsX7_valueOf) := goodIn_app (goodIn_of _ (by decide +kernel)) ggX7_keepsOther_X7_valueOf
theorem dX7_keepsOther_0 : decode cX7_keepsOther 0 = .ok (.aload_n 0, 1) := by decide +kernel
theorem dX7_keepsOther_1 : decode cX7_keepsOther 1 = .ok (.iload_n 1, 1) := by decide +kernel
theorem dX7_keepsOther_2 : decode cX7_keepsOther 2 = .ok (.invokevirtual 42, 3) := by decide +kernel
theorem dX7_keepsOther_5 : decode cX7_keepsOther 5 = .ok (.ifCond .eq 34, 3) := by decide +kernel
theorem dX7_keepsOther_8 : decode cX7_keepsOther 8 = .ok (.aload_n 0, 1) := by decide +kernel
theorem dX7_keepsOther_9 : decode cX7_keepsOther 9 = .ok (.iconst 1, 1) := by decide +kernel
theorem dX7_keepsOther_10 : decode cX7_keepsOther 10 = .ok (.iload_n 1, 1) := by decide +kernel
theorem dX7_keepsOther_11 : decode cX7_keepsOther 11 = .ok (.invokevirtual 46, 3) := by decide +kernel
theorem dX7_keepsOther_14 : decode cX7_keepsOther 14 = .ok (.ifCond .ne 25, 3) := by decide +kernel
theorem dX7_keepsOther_17 : decode cX7_keepsOther 17 = .ok (.aload_n 0, 1) := by decide +kernel
theorem dX7_keepsOther_18 : decode cX7_keepsOther 18 = .ok (.iconst 4, 1) := by decide +kernel
theorem dX7_keepsOther_19 : decode cX7_keepsOther 19 = .ok (.iload_n 1, 1) := by decide +kernel
theorem dX7_keepsOther_20 : decode cX7_keepsOther 20 = .ok (.invokevirtual 46, 3) := by decide +kernel
theorem dX7_keepsOther_23 : decode cX7_keepsOther 23 = .ok (.ifCond .ne 16, 3) := by decide +kernel
theorem dX7_keepsOther_26 : decode cX7_keepsOther 26 = .ok (.aload_n 0, 1) := by decide +kernel
theorem dX7_keepsOther_27 : decode cX7_keepsOther 27 = .ok (.iload_n 1, 1) := by decide +kernel
theorem dX7_keepsOther_28 : decode cX7_keepsOther 28 = .ok (.invokevirtual 50, 3) := by decide +kernel
theorem dX7_keepsOther_31 : decode cX7_keepsOther 31 = .ok (.iload_n 2, 1) := by decide +kernel
theorem dX7_keepsOther_32 : decode cX7_keepsOther 32 = .ok (.if_icmp .eq 7, 3) := by decide +kernel
theorem dX7_keepsOther_35 : decode cX7_keepsOther 35 = .ok (.iconst 1, 1) := by decide +kernel
theorem dX7_keepsOther_36 : decode cX7_keepsOther 36 = .ok (.goto 4, 3) := by decide +kernel
theorem dX7_keepsOther_39 : decode cX7_keepsOther 39 = .ok (.iconst 0, 1) := by decide +kernel
theorem dX7_keepsOther_40 : decode cX7_keepsOther 40 = .ok (.ireturn, 1) := by decide +kernel
set_option maxRecDepth 20000 in
theorem ggX7_keepsKey_X7_holds : GoodIn wsX7_keepsKey wsX7_holds := goodIn_ca (goodIn_r _ [6, 7, 12, 13, 14, 15, 16, 17, 18, 19, 20] (by decide +kernel) (by decide +kernel)) (goodIn_sub (fun _ h => List.mem_cons_of_mem _ (List.mem_append_right _ h)) (by decide +kernel))
set_option maxRecDepth 20000 in
theorem gX7_keepsKey_X7_holds : GoodIn wsX7_keepsKey (wsV RX7 42 RX7 yX7_holds wsX7_holds) := goodIn_app (goodIn_of _ (by decide +kernel)) ggX7_keepsKey_X7_holds
set_option maxRecDepth 20000 in
theorem ggX7_keepsKey_X7_canBe : GoodIn wsX7_keepsKey wsX7_canBe := goodIn_ca (goodIn_r _ [11, 7, 12, 13, 14, 15, 16, 17, 18, 19, 20] (by decide +kernel) (by decide +kernel)) (goodIn_sub (fun _ h => List.mem_cons_of_mem _ (List.mem_append_right _ h)) (by decide +kernel))
set_option maxRecDepth 20000 in
theorem gX7_keepsKey_X7_canBe : GoodIn wsX7_keepsKey (wsV RX7 46 RX7 yX7_canBe wsX7_canBe) := goodIn_app (goodIn_of _ (by decide +kernel)) ggX7_keepsKey_X7_canBe
theorem dX7_keepsKey_0 : decode cX7_keepsKey 0 = .ok (.aload_n 0, 1) := by decide +kernel
theorem dX7_keepsKey_1 : decode cX7_keepsKey 1 = .ok (.iload_n 1, 1) := by decide +kernel
theorem dX7_keepsKey_2 : decode cX7_keepsKey 2 = .ok (.invokevirtual 42, 3) := by decide +kernel
theorem dX7_keepsKey_5 : decode cX7_keepsKey 5 = .ok (.ifCond .eq 23, 3) := by decide +kernel
theorem dX7_keepsKey_8 : decode cX7_keepsKey 8 = .ok (.aload_n 0, 1) := by decide +kernel
theorem dX7_keepsKey_9 : decode cX7_keepsKey 9 = .ok (.getfield 53, 3) := by decide +kernel
theorem dX7_keepsKey_12 : decode cX7_keepsKey 12 = .ok (.ifCond .ne 12, 3) := by decide +kernel
theorem dX7_keepsKey_15 : decode cX7_keepsKey 15 = .ok (.aload_n 0, 1) := by decide +kernel
theorem dX7_keepsKey_16 : decode cX7_keepsKey 16 = .ok (.iconst 4, 1) := by decide +kernel
theorem dX7_keepsKey_17 : decode cX7_keepsKey 17 = .ok (.iload_n 1, 1) := by decide +kernel
theorem dX7_keepsKey_18 : decode cX7_keepsKey 18 = .ok (.invokevirtual 46, 3) := by decide +kernel
theorem dX7_keepsKey_21 : decode cX7_keepsKey 21 = .ok (.ifCond .ne 7, 3) := by decide +kernel
theorem dX7_keepsKey_24 : decode cX7_keepsKey 24 = .ok (.iconst 1, 1) := by decide +kernel
theorem dX7_keepsKey_25 : decode cX7_keepsKey 25 = .ok (.goto 4, 3) := by decide +kernel
theorem dX7_keepsKey_28 : decode cX7_keepsKey 28 = .ok (.iconst 0, 1) := by decide +kernel
theorem dX7_keepsKey_29 : decode cX7_keepsKey 29 = .ok (.ireturn, 1) := by decide +kernel
set_option maxRecDepth 20000 in
theorem ggX7_putIn_X7_holds : GoodIn wsX7_putIn wsX7_holds := goodIn_ca (goodIn_r _ [8, 2, 22, 23, 24, 25, 26, 27, 28, 29, 30] (by decide +kernel) (by decide +kernel)) (goodIn_sub (fun _ h => List.mem_cons_of_mem _ (List.mem_append_right _ h)) (by decide +kernel))
set_option maxRecDepth 20000 in
theorem gX7_putIn_X7_holds : GoodIn wsX7_putIn (wsV RX7 42 RX7 yX7_holds wsX7_holds) := goodIn_app (goodIn_of _ (by decide +kernel)) ggX7_putIn_X7_holds
set_option maxRecDepth 20000 in
theorem ggX7_putIn_X7_listKey : GoodIn wsX7_putIn wsX7_listKey := goodIn_ca (goodIn_r _ [12, 13, 14, 22, 23, 24, 25, 26, 27, 28, 29, 30] (by decide +kernel) (by decide +kernel)) (goodIn_sub (fun _ h => List.mem_cons_of_mem _ (List.mem_append_right _ h)) (by decide +kernel))
set_option maxRecDepth 20000 in
theorem gX7_putIn_X7_listKey : GoodIn wsX7_putIn (wsV RX7 57 RX7 yX7_listKey wsX7_listKey) := goodIn_app (goodIn_of _ (by decide +kernel)) ggX7_putIn_X7_listKey
set_option maxRecDepth 20000 in
theorem ggX7_putIn_X7_canBe : GoodIn wsX7_putIn wsX7_canBe := goodIn_ca (goodIn_r _ [18, 2, 22, 23, 24, 25, 26, 27, 28, 29, 30] (by decide +kernel) (by decide +kernel)) (goodIn_sub (fun _ h => List.mem_cons_of_mem _ (List.mem_append_right _ h)) (by decide +kernel))
set_option maxRecDepth 20000 in
theorem gX7_putIn_X7_canBe : GoodIn wsX7_putIn (wsV RX7 46 RX7 yX7_canBe wsX7_canBe) := goodIn_app (goodIn_of _ (by decide +kernel)) ggX7_putIn_X7_canBe
set_option maxRecDepth 20000 in
theorem ggX7_putIn_X7_isAllowed : GoodIn wsX7_putIn wsX7_isAllowed := goodIn_r _ [21] (by decide +kernel) (by decide +kernel)
set_option maxRecDepth 20000 in
theorem gX7_putIn_X7_isAllowed : GoodIn wsX7_putIn (va_wsS RX7 61 yX7_isAllowed wsX7_isAllowed) := goodIn_app (goodIn_of _ (by decide +kernel)) ggX7_putIn_X7_isAllowed
theorem dX7_putIn_0 : decode cX7_putIn 0 = .ok (.iload_n 1, 1) := by decide +kernel
theorem dX7_putIn_1 : decode cX7_putIn 1 = .ok (.ifCond .lt 9, 3) := by decide +kernel
theorem dX7_putIn_4 : decode cX7_putIn 4 = .ok (.iload_n 1, 1) := by decide +kernel
theorem dX7_putIn_5 : decode cX7_putIn 5 = .ok (.bipush 20, 2) := by decide +kernel
theorem dX7_putIn_7 : decode cX7_putIn 7 = .ok (.if_icmp .lt 6, 3) := by decide +kernel
theorem dX7_putIn_10 : decode cX7_putIn 10 = .ok (.bipush 110, 2) := by decide +kernel
theorem dX7_putIn_12 : decode cX7_putIn 12 = .ok (.ireturn, 1) := by decide +kernel
theorem dX7_putIn_13 : decode cX7_putIn 13 = .ok (.aload_n 0, 1) := by decide +kernel
theorem dX7_putIn_14 : decode cX7_putIn 14 = .ok (.iload_n 1, 1) := by decide +kernel
theorem dX7_putIn_15 : decode cX7_putIn 15 = .ok (.invokevirtual 42, 3) := by decide +kernel
theorem dX7_putIn_18 : decode cX7_putIn 18 = .ok (.ifCond .ne 21, 3) := by decide +kernel
theorem dX7_putIn_21 : decode cX7_putIn 21 = .ok (.aload_n 0, 1) := by decide +kernel
theorem dX7_putIn_22 : decode cX7_putIn 22 = .ok (.getfield 53, 3) := by decide +kernel
theorem dX7_putIn_25 : decode cX7_putIn 25 = .ok (.ifCond .eq 6, 3) := by decide +kernel
theorem dX7_putIn_28 : decode cX7_putIn 28 = .ok (.bipush 110, 2) := by decide +kernel
theorem dX7_putIn_30 : decode cX7_putIn 30 = .ok (.ireturn, 1) := by decide +kernel
theorem dX7_putIn_31 : decode cX7_putIn 31 = .ok (.aload_n 0, 1) := by decide +kernel
theorem dX7_putIn_32 : decode cX7_putIn 32 = .ok (.iload_n 1, 1) := by decide +kernel
theorem dX7_putIn_33 : decode cX7_putIn 33 = .ok (.invokevirtual 57, 3) := by decide +kernel
theorem dX7_putIn_36 : decode cX7_putIn 36 = .ok (.goto 43, 3) := by decide +kernel
theorem dX7_putIn_39 : decode cX7_putIn 39 = .ok (.aload_n 0, 1) := by decide +kernel
theorem dX7_putIn_40 : decode cX7_putIn 40 = .ok (.iconst 4, 1) := by decide +kernel
theorem dX7_putIn_41 : decode cX7_putIn 41 = .ok (.iload_n 1, 1) := by decide +kernel
theorem dX7_putIn_42 : decode cX7_putIn 42 = .ok (.invokevirtual 46, 3) := by decide +kernel
theorem dX7_putIn_45 : decode cX7_putIn 45 = .ok (.ifCond .ne 34, 3) := by decide +kernel
theorem dX7_putIn_48 : decode cX7_putIn 48 = .ok (.aload_n 0, 1) := by decide +kernel
theorem dX7_putIn_49 : decode cX7_putIn 49 = .ok (.getfield 25, 3) := by decide +kernel
theorem dX7_putIn_52 : decode cX7_putIn 52 = .ok (.iload_n 1, 1) := by decide +kernel
theorem dX7_putIn_53 : decode cX7_putIn 53 = .ok (.iaload, 1) := by decide +kernel
theorem dX7_putIn_54 : decode cX7_putIn 54 = .ok (.iload_n 3, 1) := by decide +kernel
theorem dX7_putIn_55 : decode cX7_putIn 55 = .ok (.aload_n 0, 1) := by decide +kernel
theorem dX7_putIn_56 : decode cX7_putIn 56 = .ok (.getfield 22, 3) := by decide +kernel
theorem dX7_putIn_59 : decode cX7_putIn 59 = .ok (.iload_n 1, 1) := by decide +kernel
theorem dX7_putIn_60 : decode cX7_putIn 60 = .ok (.iaload, 1) := by decide +kernel
theorem dX7_putIn_61 : decode cX7_putIn 61 = .ok (.iload_n 2, 1) := by decide +kernel
theorem dX7_putIn_62 : decode cX7_putIn 62 = .ok (.if_icmp .ne 7, 3) := by decide +kernel
theorem dX7_putIn_65 : decode cX7_putIn 65 = .ok (.iconst 1, 1) := by decide +kernel
theorem dX7_putIn_66 : decode cX7_putIn 66 = .ok (.goto 4, 3) := by decide +kernel
theorem dX7_putIn_69 : decode cX7_putIn 69 = .ok (.iconst 0, 1) := by decide +kernel
theorem dX7_putIn_70 : decode cX7_putIn 70 = .ok (.invokestatic 61, 3) := by decide +kernel
theorem dX7_putIn_73 : decode cX7_putIn 73 = .ok (.ifCond .ne 6, 3) := by decide +kernel
theorem dX7_putIn_76 : decode cX7_putIn 76 = .ok (.bipush 110, 2) := by decide +kernel
theorem dX7_putIn_78 : decode cX7_putIn 78 = .ok (.ireturn, 1) := by decide +kernel
theorem dX7_putIn_79 : decode cX7_putIn 79 = .ok (.aload_n 0, 1) := by decide +kernel
theorem dX7_putIn_80 : decode cX7_putIn 80 = .ok (.getfield 22, 3) := by decide +kernel
theorem dX7_putIn_83 : decode cX7_putIn 83 = .ok (.iload_n 1, 1) := by decide +kernel
theorem dX7_putIn_84 : decode cX7_putIn 84 = .ok (.iload_n 2, 1) := by decide +kernel
theorem dX7_putIn_85 : decode cX7_putIn 85 = .ok (.iastore, 1) := by decide +kernel
theorem dX7_putIn_86 : decode cX7_putIn 86 = .ok (.aload_n 0, 1) := by decide +kernel
theorem dX7_putIn_87 : decode cX7_putIn 87 = .ok (.getfield 25, 3) := by decide +kernel
theorem dX7_putIn_90 : decode cX7_putIn 90 = .ok (.iload_n 1, 1) := by decide +kernel
theorem dX7_putIn_91 : decode cX7_putIn 91 = .ok (.iload_n 3, 1) := by decide +kernel
theorem dX7_putIn_92 : decode cX7_putIn 92 = .ok (.iastore, 1) := by decide +kernel
theorem dX7_putIn_93 : decode cX7_putIn 93 = .ok (.bipush 121, 2) := by decide +kernel
theorem dX7_putIn_95 : decode cX7_putIn 95 = .ok (.ireturn, 1) := by decide +kernel
theorem dX7_isAllowed_0 : decode cX7_isAllowed 0 = .ok (.iload_n 1, 1) := by decide +kernel
theorem dX7_isAllowed_1 : decode cX7_isAllowed 1 = .ok (.iconst 4, 1) := by decide +kernel
theorem dX7_isAllowed_2 : decode cX7_isAllowed 2 = .ok (.iand, 1) := by decide +kernel
theorem dX7_isAllowed_3 : decode cX7_isAllowed 3 = .ok (.ifCond .ne 11, 3) := by decide +kernel
theorem dX7_isAllowed_6 : decode cX7_isAllowed 6 = .ok (.iload_n 1, 1) := by decide +kernel
theorem dX7_isAllowed_7 : decode cX7_isAllowed 7 = .ok (.iload_n 0, 1) := by decide +kernel
theorem dX7_isAllowed_8 : decode cX7_isAllowed 8 = .ok (.ixor, 1) := by decide +kernel
theorem dX7_isAllowed_9 : decode cX7_isAllowed 9 = .ok (.iconst 2, 1) := by decide +kernel
theorem dX7_isAllowed_10 : decode cX7_isAllowed 10 = .ok (.iand, 1) := by decide +kernel
theorem dX7_isAllowed_11 : decode cX7_isAllowed 11 = .ok (.ifCond .eq 5, 3) := by decide +kernel
theorem dX7_isAllowed_14 : decode cX7_isAllowed 14 = .ok (.iconst 0, 1) := by decide +kernel
theorem dX7_isAllowed_15 : decode cX7_isAllowed 15 = .ok (.ireturn, 1) := by decide +kernel
theorem dX7_isAllowed_16 : decode cX7_isAllowed 16 = .ok (.iload_n 0, 1) := by decide +kernel
theorem dX7_isAllowed_17 : decode cX7_isAllowed 17 = .ok (.iconst 1, 1) := by decide +kernel
theorem dX7_isAllowed_18 : decode cX7_isAllowed 18 = .ok (.iand, 1) := by decide +kernel
theorem dX7_isAllowed_19 : decode cX7_isAllowed 19 = .ok (.ifCond .ne 13, 3) := by decide +kernel
theorem dX7_isAllowed_22 : decode cX7_isAllowed 22 = .ok (.iload_n 1, 1) := by decide +kernel
theorem dX7_isAllowed_23 : decode cX7_isAllowed 23 = .ok (.iconst 1, 1) := by decide +kernel
theorem dX7_isAllowed_24 : decode cX7_isAllowed 24 = .ok (.iand, 1) := by decide +kernel
theorem dX7_isAllowed_25 : decode cX7_isAllowed 25 = .ok (.ifCond .ne 11, 3) := by decide +kernel
theorem dX7_isAllowed_28 : decode cX7_isAllowed 28 = .ok (.iload_n 2, 1) := by decide +kernel
theorem dX7_isAllowed_29 : decode cX7_isAllowed 29 = .ok (.ifCond .eq 7, 3) := by decide +kernel
theorem dX7_isAllowed_32 : decode cX7_isAllowed 32 = .ok (.iconst 1, 1) := by decide +kernel
theorem dX7_isAllowed_33 : decode cX7_isAllowed 33 = .ok (.goto 4, 3) := by decide +kernel
theorem dX7_isAllowed_36 : decode cX7_isAllowed 36 = .ok (.iconst 0, 1) := by decide +kernel
theorem dX7_isAllowed_37 : decode cX7_isAllowed 37 = .ok (.ireturn, 1) := by decide +kernel
theorem dX7_listKey_0 : decode cX7_listKey 0 = .ok (.aload_n 0, 1) := by decide +kernel
theorem dX7_listKey_1 : decode cX7_listKey 1 = .ok (.getfield 65, 3) := by decide +kernel
theorem dX7_listKey_4 : decode cX7_listKey 4 = .ok (.ifCond .lt 12, 3) := by decide +kernel
theorem dX7_listKey_7 : decode cX7_listKey 7 = .ok (.aload_n 0, 1) := by decide +kernel
theorem dX7_listKey_8 : decode cX7_listKey 8 = .ok (.getfield 65, 3) := by decide +kernel
theorem dX7_listKey_11 : decode cX7_listKey 11 = .ok (.bipush 20, 2) := by decide +kernel
theorem dX7_listKey_13 : decode cX7_listKey 13 = .ok (.if_icmp .lt 4, 3) := by decide +kernel
theorem dX7_listKey_16 : decode cX7_listKey 16 = .ok (.return_, 1) := by decide +kernel
theorem dX7_listKey_17 : decode cX7_listKey 17 = .ok (.aload_n 0, 1) := by decide +kernel
theorem dX7_listKey_18 : decode cX7_listKey 18 = .ok (.getfield 65, 3) := by decide +kernel
theorem dX7_listKey_21 : decode cX7_listKey 21 = .ok (.istore_n 2, 1) := by decide +kernel
theorem dX7_listKey_22 : decode cX7_listKey 22 = .ok (.iload_n 2, 1) := by decide +kernel
theorem dX7_listKey_23 : decode cX7_listKey 23 = .ok (.ifCond .le 41, 3) := by decide +kernel
theorem dX7_listKey_26 : decode cX7_listKey 26 = .ok (.iload_n 1, 1) := by decide +kernel
theorem dX7_listKey_27 : decode cX7_listKey 27 = .ok (.bipush 10, 2) := by decide +kernel
theorem dX7_listKey_29 : decode cX7_listKey 29 = .ok (.if_icmp .ge 35, 3) := by decide +kernel
theorem dX7_listKey_32 : decode cX7_listKey 32 = .ok (.aload_n 0, 1) := by decide +kernel
theorem dX7_listKey_33 : decode cX7_listKey 33 = .ok (.getfield 28, 3) := by decide +kernel
theorem dX7_listKey_36 : decode cX7_listKey 36 = .ok (.iload_n 2, 1) := by decide +kernel
theorem dX7_listKey_37 : decode cX7_listKey 37 = .ok (.iconst 1, 1) := by decide +kernel
theorem dX7_listKey_38 : decode cX7_listKey 38 = .ok (.isub, 1) := by decide +kernel
theorem dX7_listKey_39 : decode cX7_listKey 39 = .ok (.iaload, 1) := by decide +kernel
theorem dX7_listKey_40 : decode cX7_listKey 40 = .ok (.iload_n 1, 1) := by decide +kernel
theorem dX7_listKey_41 : decode cX7_listKey 41 = .ok (.if_icmp .le 23, 3) := by decide +kernel
theorem dX7_listKey_44 : decode cX7_listKey 44 = .ok (.aload_n 0, 1) := by decide +kernel
theorem dX7_listKey_45 : decode cX7_listKey 45 = .ok (.getfield 28, 3) := by decide +kernel
theorem dX7_listKey_48 : decode cX7_listKey 48 = .ok (.iload_n 2, 1) := by decide +kernel
theorem dX7_listKey_49 : decode cX7_listKey 49 = .ok (.aload_n 0, 1) := by decide +kernel
theorem dX7_listKey_50 : decode cX7_listKey 50 = .ok (.getfield 28, 3) := by decide +kernel
theorem dX7_listKey_53 : decode cX7_listKey 53 = .ok (.iload_n 2, 1) := by decide +kernel
theorem dX7_listKey_54 : decode cX7_listKey 54 = .ok (.iconst 1, 1) := by decide +kernel
theorem dX7_listKey_55 : decode cX7_listKey 55 = .ok (.isub, 1) := by decide +kernel
theorem dX7_listKey_56 : decode cX7_listKey 56 = .ok (.iaload, 1) := by decide +kernel
theorem dX7_listKey_57 : decode cX7_listKey 57 = .ok (.iastore, 1) := by decide +kernel
theorem dX7_listKey_58 : decode cX7_listKey 58 = .ok (.iinc 2 (-1), 3) := by decide +kernel
theorem dX7_listKey_61 : decode cX7_listKey 61 = .ok (.goto (-39), 3) := by decide +kernel
theorem dX7_listKey_64 : decode cX7_listKey 64 = .ok (.aload_n 0, 1) := by decide +kernel
theorem dX7_listKey_65 : decode cX7_listKey 65 = .ok (.getfield 28, 3) := by decide +kernel
theorem dX7_listKey_68 : decode cX7_listKey 68 = .ok (.iload_n 2, 1) := by decide +kernel
theorem dX7_listKey_69 : decode cX7_listKey 69 = .ok (.iload_n 1, 1) := by decide +kernel
theorem dX7_listKey_70 : decode cX7_listKey 70 = .ok (.iastore, 1) := by decide +kernel
theorem dX7_listKey_71 : decode cX7_listKey 71 = .ok (.aload_n 0, 1) := by decide +kernel
theorem dX7_listKey_72 : decode cX7_listKey 72 = .ok (.dup, 1) := by decide +kernel
theorem dX7_listKey_73 : decode cX7_listKey 73 = .ok (.getfield 65, 3) := by decide +kernel
theorem dX7_listKey_76 : decode cX7_listKey 76 = .ok (.iconst 1, 1) := by decide +kernel
theorem dX7_listKey_77 : decode cX7_listKey 77 = .ok (.iadd, 1) := by decide +kernel
theorem dX7_listKey_78 : decode cX7_listKey 78 = .ok (.putfield 65, 3) := by decide +kernel
theorem dX7_listKey_81 : decode cX7_listKey 81 = .ok (.return_, 1) := by decide +kernel
theorem dX7_listedAt_0 : decode cX7_listedAt 0 = .ok (.iload_n 1, 1) := by decide +kernel
theorem dX7_listedAt_1 : decode cX7_listedAt 1 = .ok (.ifCond .lt 17, 3) := by decide +kernel
theorem dX7_listedAt_4 : decode cX7_listedAt 4 = .ok (.iload_n 1, 1) := by decide +kernel
theorem dX7_listedAt_5 : decode cX7_listedAt 5 = .ok (.aload_n 0, 1) := by decide +kernel
theorem dX7_listedAt_6 : decode cX7_listedAt 6 = .ok (.getfield 65, 3) := by decide +kernel
theorem dX7_listedAt_9 : decode cX7_listedAt 9 = .ok (.if_icmp .ge 9, 3) := by decide +kernel
theorem dX7_listedAt_12 : decode cX7_listedAt 12 = .ok (.iload_n 1, 1) := by decide +kernel
theorem dX7_listedAt_13 : decode cX7_listedAt 13 = .ok (.bipush 20, 2) := by decide +kernel
theorem dX7_listedAt_15 : decode cX7_listedAt 15 = .ok (.if_icmp .lt 7, 3) := by decide +kernel
theorem dX7_listedAt_18 : decode cX7_listedAt 18 = .ok (.iconst (-1), 1) := by decide +kernel
theorem dX7_listedAt_19 : decode cX7_listedAt 19 = .ok (.goto 9, 3) := by decide +kernel
theorem dX7_listedAt_22 : decode cX7_listedAt 22 = .ok (.aload_n 0, 1) := by decide +kernel
theorem dX7_listedAt_23 : decode cX7_listedAt 23 = .ok (.getfield 28, 3) := by decide +kernel
theorem dX7_listedAt_26 : decode cX7_listedAt 26 = .ok (.iload_n 1, 1) := by decide +kernel
theorem dX7_listedAt_27 : decode cX7_listedAt 27 = .ok (.iaload, 1) := by decide +kernel
theorem dX7_listedAt_28 : decode cX7_listedAt 28 = .ok (.ireturn, 1) := by decide +kernel
set_option maxRecDepth 20000 in
theorem ggX7_takeOut_X7_holds : GoodIn wsX7_takeOut wsX7_holds := goodIn_ca (goodIn_r _ [8, 1, 13, 14, 15, 16, 17, 18, 19, 20, 21] (by decide +kernel) (by decide +kernel)) (goodIn_sub (fun _ h => List.mem_cons_of_mem _ (List.mem_append_right _ h)) (by decide +kernel))
set_option maxRecDepth 20000 in
theorem gX7_takeOut_X7_holds : GoodIn wsX7_takeOut (wsV RX7 42 RX7 yX7_holds wsX7_holds) := goodIn_app (goodIn_of _ (by decide +kernel)) ggX7_takeOut_X7_holds
set_option maxRecDepth 20000 in
theorem ggX7_takeOut_X7_canBe : GoodIn wsX7_takeOut wsX7_canBe := goodIn_ca (goodIn_r _ [12, 1, 13, 14, 15, 16, 17, 18, 19, 20, 21] (by decide +kernel) (by decide +kernel)) (goodIn_sub (fun _ h => List.mem_cons_of_mem _ (List.mem_append_right _ h)) (by decide +kernel))
set_option maxRecDepth 20000 in
theorem gX7_takeOut_X7_canBe : GoodIn wsX7_takeOut (wsV RX7 46 RX7 yX7_canBe wsX7_canBe) := goodIn_app (goodIn_of _ (by decide +kernel)) ggX7_takeOut_X7_canBe
theorem dX7_takeOut_0 : decode cX7_takeOut 0 = .ok (.aload_n 0, 1) := by decide +kernel
theorem dX7_takeOut_1 : decode cX7_takeOut 1 = .ok (.iload_n 1, 1) := by decide +kernel
theorem dX7_takeOut_2 : decode cX7_takeOut 2 = .ok (.invokevirtual 42, 3) := by decide +kernel
theorem dX7_takeOut_5 : decode cX7_takeOut 5 = .ok (.ifCond .ne 6, 3) := by decide +kernel
theorem dX7_takeOut_8 : decode cX7_takeOut 8 = .ok (.bipush 121, 2) := by decide +kernel
theorem dX7_takeOut_10 : decode cX7_takeOut 10 = .ok (.ireturn, 1) := by decide +kernel
theorem dX7_takeOut_11 : decode cX7_takeOut 11 = .ok (.aload_n 0, 1) := by decide +kernel
theorem dX7_takeOut_12 : decode cX7_takeOut 12 = .ok (.iconst 4, 1) := by decide +kernel
theorem dX7_takeOut_13 : decode cX7_takeOut 13 = .ok (.iload_n 1, 1) := by decide +kernel
theorem dX7_takeOut_14 : decode cX7_takeOut 14 = .ok (.invokevirtual 46, 3) := by decide +kernel
theorem dX7_takeOut_17 : decode cX7_takeOut 17 = .ok (.ifCond .ne 6, 3) := by decide +kernel
theorem dX7_takeOut_20 : decode cX7_takeOut 20 = .ok (.bipush 110, 2) := by decide +kernel
theorem dX7_takeOut_22 : decode cX7_takeOut 22 = .ok (.ireturn, 1) := by decide +kernel
theorem dX7_takeOut_23 : decode cX7_takeOut 23 = .ok (.iload_n 1, 1) := by decide +kernel
theorem dX7_takeOut_24 : decode cX7_takeOut 24 = .ok (.ifCond .lt 16, 3) := by decide +kernel
theorem dX7_takeOut_27 : decode cX7_takeOut 27 = .ok (.iload_n 1, 1) := by decide +kernel
theorem dX7_takeOut_28 : decode cX7_takeOut 28 = .ok (.bipush 20, 2) := by decide +kernel
theorem dX7_takeOut_30 : decode cX7_takeOut 30 = .ok (.if_icmp .ge 10, 3) := by decide +kernel
theorem dX7_takeOut_33 : decode cX7_takeOut 33 = .ok (.aload_n 0, 1) := by decide +kernel
theorem dX7_takeOut_34 : decode cX7_takeOut 34 = .ok (.getfield 25, 3) := by decide +kernel
theorem dX7_takeOut_37 : decode cX7_takeOut 37 = .ok (.iload_n 1, 1) := by decide +kernel
theorem dX7_takeOut_38 : decode cX7_takeOut 38 = .ok (.iconst (-1), 1) := by decide +kernel
theorem dX7_takeOut_39 : decode cX7_takeOut 39 = .ok (.iastore, 1) := by decide +kernel
theorem dX7_takeOut_40 : decode cX7_takeOut 40 = .ok (.iconst 0, 1) := by decide +kernel
theorem dX7_takeOut_41 : decode cX7_takeOut 41 = .ok (.istore_n 2, 1) := by decide +kernel
theorem dX7_takeOut_42 : decode cX7_takeOut 42 = .ok (.iconst 0, 1) := by decide +kernel
theorem dX7_takeOut_43 : decode cX7_takeOut 43 = .ok (.istore_n 3, 1) := by decide +kernel
theorem dX7_takeOut_44 : decode cX7_takeOut 44 = .ok (.iload_n 3, 1) := by decide +kernel
theorem dX7_takeOut_45 : decode cX7_takeOut 45 = .ok (.aload_n 0, 1) := by decide +kernel
theorem dX7_takeOut_46 : decode cX7_takeOut 46 = .ok (.getfield 65, 3) := by decide +kernel
theorem dX7_takeOut_49 : decode cX7_takeOut 49 = .ok (.if_icmp .ge 40, 3) := by decide +kernel
theorem dX7_takeOut_52 : decode cX7_takeOut 52 = .ok (.iload_n 3, 1) := by decide +kernel
theorem dX7_takeOut_53 : decode cX7_takeOut 53 = .ok (.bipush 20, 2) := by decide +kernel
theorem dX7_takeOut_55 : decode cX7_takeOut 55 = .ok (.if_icmp .ge 34, 3) := by decide +kernel
theorem dX7_takeOut_58 : decode cX7_takeOut 58 = .ok (.aload_n 0, 1) := by decide +kernel
theorem dX7_takeOut_59 : decode cX7_takeOut 59 = .ok (.getfield 28, 3) := by decide +kernel
theorem dX7_takeOut_62 : decode cX7_takeOut 62 = .ok (.iload_n 3, 1) := by decide +kernel
theorem dX7_takeOut_63 : decode cX7_takeOut 63 = .ok (.iaload, 1) := by decide +kernel
theorem dX7_takeOut_64 : decode cX7_takeOut 64 = .ok (.iload_n 1, 1) := by decide +kernel
theorem dX7_takeOut_65 : decode cX7_takeOut 65 = .ok (.if_icmp .eq 18, 3) := by decide +kernel
theorem dX7_takeOut_68 : decode cX7_takeOut 68 = .ok (.aload_n 0, 1) := by decide +kernel
theorem dX7_takeOut_69 : decode cX7_takeOut 69 = .ok (.getfield 28, 3) := by decide +kernel
theorem dX7_takeOut_72 : decode cX7_takeOut 72 = .ok (.iload_n 2, 1) := by decide +kernel
theorem dX7_takeOut_73 : decode cX7_takeOut 73 = .ok (.aload_n 0, 1) := by decide +kernel
theorem dX7_takeOut_74 : decode cX7_takeOut 74 = .ok (.getfield 28, 3) := by decide +kernel
theorem dX7_takeOut_77 : decode cX7_takeOut 77 = .ok (.iload_n 3, 1) := by decide +kernel
theorem dX7_takeOut_78 : decode cX7_takeOut 78 = .ok (.iaload, 1) := by decide +kernel
theorem dX7_takeOut_79 : decode cX7_takeOut 79 = .ok (.iastore, 1) := by decide +kernel
theorem dX7_takeOut_80 : decode cX7_takeOut 80 = .ok (.iinc 2 1, 3) := by decide +kernel
theorem dX7_takeOut_83 : decode cX7_takeOut 83 = .ok (.iinc 3 1, 3) := by decide +kernel
theorem dX7_takeOut_86 : decode cX7_takeOut 86 = .ok (.goto (-42), 3) := by decide +kernel
theorem dX7_takeOut_89 : decode cX7_takeOut 89 = .ok (.aload_n 0, 1) := by decide +kernel
theorem dX7_takeOut_90 : decode cX7_takeOut 90 = .ok (.iload_n 2, 1) := by decide +kernel
theorem dX7_takeOut_91 : decode cX7_takeOut 91 = .ok (.putfield 65, 3) := by decide +kernel
theorem dX7_takeOut_94 : decode cX7_takeOut 94 = .ok (.bipush 121, 2) := by decide +kernel
theorem dX7_takeOut_96 : decode cX7_takeOut 96 = .ok (.ireturn, 1) := by decide +kernel
set_option maxRecDepth 20000 in
theorem ggX7_isListed_X7_holds : GoodIn wsX7_isListed wsX7_holds := goodIn_ca (goodIn_r _ [6, 7, 17, 18, 19, 20, 21, 22, 23, 24, 25] (by decide +kernel) (by decide +kernel)) (goodIn_sub (fun _ h => List.mem_cons_of_mem _ (List.mem_append_right _ h)) (by decide +kernel))
set_option maxRecDepth 20000 in
theorem gX7_isListed_X7_holds : GoodIn wsX7_isListed (wsV RX7 42 RX7 yX7_holds wsX7_holds) := goodIn_app (goodIn_of _ (by decide +kernel)) ggX7_isListed_X7_holds
set_option maxRecDepth 20000 in
theorem ggX7_isListed_X7_listedAt : GoodIn wsX7_isListed wsX7_listedAt := goodIn_ca (goodIn_r _ [11, 1, 12, 17, 18, 19, 20, 21, 22, 23, 24, 25] (by decide +kernel) (by decide +kernel)) (goodIn_sub (fun _ h => List.mem_cons_of_mem _ (List.mem_append_right _ h)) (by decide +kernel))
set_option maxRecDepth 20000 in
theorem gX7_isListed_X7_listedAt : GoodIn wsX7_isListed (wsV RX7 69 RX7 yX7_listedAt wsX7_listedAt) := goodIn_app (goodIn_of _ (by decide +kernel)) ggX7_isListed_X7_listedAt
set_option maxRecDepth 20000 in
theorem ggX7_isListed_X7_isInOrder : GoodIn wsX7_isListed wsX7_isInOrder := goodIn_ca (goodIn_r _ [16, 8, 9, 10, 5, 11, 1, 12, 17, 18, 19, 20, 21, 22, 23, 24, 25] (by decide +kernel) (by decide +kernel)) (goodIn_sub (fun _ h => List.mem_cons_of_mem _ (List.mem_append_right _ h)) (by decide +kernel))
set_option maxRecDepth 20000 in
theorem gX7_isListed_X7_isInOrder : GoodIn wsX7_isListed (wsV RX7 72 RX7 yX7_isInOrder wsX7_isInOrder) := goodIn_app (goodIn_of _ (by decide +kernel)) ggX7_isListed_X7_isInOrder
theorem dX7_isListed_0 : decode cX7_isListed 0 = .ok (.iconst 0, 1) := by decide +kernel
theorem dX7_isListed_1 : decode cX7_isListed 1 = .ok (.istore_n 1, 1) := by decide +kernel
theorem dX7_isListed_2 : decode cX7_isListed 2 = .ok (.iconst 0, 1) := by decide +kernel
theorem dX7_isListed_3 : decode cX7_isListed 3 = .ok (.istore_n 2, 1) := by decide +kernel
theorem dX7_isListed_4 : decode cX7_isListed 4 = .ok (.iload_n 2, 1) := by decide +kernel
theorem dX7_isListed_5 : decode cX7_isListed 5 = .ok (.bipush 20, 2) := by decide +kernel
theorem dX7_isListed_7 : decode cX7_isListed 7 = .ok (.if_icmp .ge 25, 3) := by decide +kernel
theorem dX7_isListed_10 : decode cX7_isListed 10 = .ok (.iload_n 1, 1) := by decide +kernel
theorem dX7_isListed_11 : decode cX7_isListed 11 = .ok (.aload_n 0, 1) := by decide +kernel
theorem dX7_isListed_12 : decode cX7_isListed 12 = .ok (.iload_n 2, 1) := by decide +kernel
theorem dX7_isListed_13 : decode cX7_isListed 13 = .ok (.invokevirtual 42, 3) := by decide +kernel
theorem dX7_isListed_16 : decode cX7_isListed 16 = .ok (.ifCond .eq 7, 3) := by decide +kernel
theorem dX7_isListed_19 : decode cX7_isListed 19 = .ok (.iconst 1, 1) := by decide +kernel
theorem dX7_isListed_20 : decode cX7_isListed 20 = .ok (.goto 4, 3) := by decide +kernel
theorem dX7_isListed_23 : decode cX7_isListed 23 = .ok (.iconst 0, 1) := by decide +kernel
theorem dX7_isListed_24 : decode cX7_isListed 24 = .ok (.iadd, 1) := by decide +kernel
theorem dX7_isListed_25 : decode cX7_isListed 25 = .ok (.istore_n 1, 1) := by decide +kernel
theorem dX7_isListed_26 : decode cX7_isListed 26 = .ok (.iinc 2 1, 3) := by decide +kernel
theorem dX7_isListed_29 : decode cX7_isListed 29 = .ok (.goto (-25), 3) := by decide +kernel
theorem dX7_isListed_32 : decode cX7_isListed 32 = .ok (.iload_n 1, 1) := by decide +kernel
theorem dX7_isListed_33 : decode cX7_isListed 33 = .ok (.aload_n 0, 1) := by decide +kernel
theorem dX7_isListed_34 : decode cX7_isListed 34 = .ok (.getfield 65, 3) := by decide +kernel
theorem dX7_isListed_37 : decode cX7_isListed 37 = .ok (.if_icmp .eq 5, 3) := by decide +kernel
theorem dX7_isListed_40 : decode cX7_isListed 40 = .ok (.iconst 0, 1) := by decide +kernel
theorem dX7_isListed_41 : decode cX7_isListed 41 = .ok (.ireturn, 1) := by decide +kernel
theorem dX7_isListed_42 : decode cX7_isListed 42 = .ok (.iconst 0, 1) := by decide +kernel
theorem dX7_isListed_43 : decode cX7_isListed 43 = .ok (.istore_n 2, 1) := by decide +kernel
theorem dX7_isListed_44 : decode cX7_isListed 44 = .ok (.iload_n 2, 1) := by decide +kernel
theorem dX7_isListed_45 : decode cX7_isListed 45 = .ok (.aload_n 0, 1) := by decide +kernel
theorem dX7_isListed_46 : decode cX7_isListed 46 = .ok (.getfield 65, 3) := by decide +kernel
theorem dX7_isListed_49 : decode cX7_isListed 49 = .ok (.if_icmp .ge 34, 3) := by decide +kernel
theorem dX7_isListed_52 : decode cX7_isListed 52 = .ok (.aload_n 0, 1) := by decide +kernel
theorem dX7_isListed_53 : decode cX7_isListed 53 = .ok (.iload_n 2, 1) := by decide +kernel
theorem dX7_isListed_54 : decode cX7_isListed 54 = .ok (.invokevirtual 69, 3) := by decide +kernel
theorem dX7_isListed_57 : decode cX7_isListed 57 = .ok (.istore_n 3, 1) := by decide +kernel
theorem dX7_isListed_58 : decode cX7_isListed 58 = .ok (.aload_n 0, 1) := by decide +kernel
theorem dX7_isListed_59 : decode cX7_isListed 59 = .ok (.iload_n 3, 1) := by decide +kernel
theorem dX7_isListed_60 : decode cX7_isListed 60 = .ok (.invokevirtual 42, 3) := by decide +kernel
theorem dX7_isListed_63 : decode cX7_isListed 63 = .ok (.ifCond .eq 12, 3) := by decide +kernel
theorem dX7_isListed_66 : decode cX7_isListed 66 = .ok (.aload_n 0, 1) := by decide +kernel
theorem dX7_isListed_67 : decode cX7_isListed 67 = .ok (.iload_n 2, 1) := by decide +kernel
theorem dX7_isListed_68 : decode cX7_isListed 68 = .ok (.iload_n 3, 1) := by decide +kernel
theorem dX7_isListed_69 : decode cX7_isListed 69 = .ok (.invokevirtual 72, 3) := by decide +kernel
theorem dX7_isListed_72 : decode cX7_isListed 72 = .ok (.ifCond .ne 5, 3) := by decide +kernel
theorem dX7_isListed_75 : decode cX7_isListed 75 = .ok (.iconst 0, 1) := by decide +kernel
theorem dX7_isListed_76 : decode cX7_isListed 76 = .ok (.ireturn, 1) := by decide +kernel
theorem dX7_isListed_77 : decode cX7_isListed 77 = .ok (.iinc 2 1, 3) := by decide +kernel
theorem dX7_isListed_80 : decode cX7_isListed 80 = .ok (.goto (-36), 3) := by decide +kernel
theorem dX7_isListed_83 : decode cX7_isListed 83 = .ok (.iconst 1, 1) := by decide +kernel
theorem dX7_isListed_84 : decode cX7_isListed 84 = .ok (.ireturn, 1) := by decide +kernel
set_option maxRecDepth 20000 in
theorem ggX7_isInOrder_X7_listedAt : GoodIn wsX7_isInOrder wsX7_listedAt := goodIn_ca (goodIn_r _ [5, 6, 7, 8, 9, 10, 11, 12, 13, 14, 15, 16] (by decide +kernel) (by decide +kernel)) (goodIn_sub (fun _ h => List.mem_cons_of_mem _ (List.mem_append_right _ h)) (by decide +kernel))
set_option maxRecDepth 20000 in
theorem gX7_isInOrder_X7_listedAt : GoodIn wsX7_isInOrder (wsV RX7 69 RX7 yX7_listedAt wsX7_listedAt) := goodIn_app (goodIn_of _ (by decide +kernel)) ggX7_isInOrder_X7_listedAt
theorem dX7_isInOrder_0 : decode cX7_isInOrder 0 = .ok (.iconst 0, 1) := by decide +kernel
theorem dX7_isInOrder_1 : decode cX7_isInOrder 1 = .ok (.istore_n 3, 1) := by decide +kernel
theorem dX7_isInOrder_2 : decode cX7_isInOrder 2 = .ok (.iload_n 3, 1) := by decide +kernel
theorem dX7_isInOrder_3 : decode cX7_isInOrder 3 = .ok (.iload_n 1, 1) := by decide +kernel
theorem dX7_isInOrder_4 : decode cX7_isInOrder 4 = .ok (.if_icmp .ge 36, 3) := by decide +kernel
theorem dX7_isInOrder_7 : decode cX7_isInOrder 7 = .ok (.aload_n 0, 1) := by decide +kernel
theorem dX7_isInOrder_8 : decode cX7_isInOrder 8 = .ok (.iload_n 3, 1) := by decide +kernel
theorem dX7_isInOrder_9 : decode cX7_isInOrder 9 = .ok (.invokevirtual 69, 3) := by decide +kernel
theorem dX7_isInOrder_12 : decode cX7_isInOrder 12 = .ok (.istore 4, 2) := by decide +kernel
theorem dX7_isInOrder_14 : decode cX7_isInOrder 14 = .ok (.iload 4, 2) := by decide +kernel
theorem dX7_isInOrder_16 : decode cX7_isInOrder 16 = .ok (.iload_n 2, 1) := by decide +kernel
theorem dX7_isInOrder_17 : decode cX7_isInOrder 17 = .ok (.if_icmp .eq 15, 3) := by decide +kernel
theorem dX7_isInOrder_20 : decode cX7_isInOrder 20 = .ok (.iload_n 2, 1) := by decide +kernel
theorem dX7_isInOrder_21 : decode cX7_isInOrder 21 = .ok (.bipush 10, 2) := by decide +kernel
theorem dX7_isInOrder_23 : decode cX7_isInOrder 23 = .ok (.if_icmp .ge 11, 3) := by decide +kernel
theorem dX7_isInOrder_26 : decode cX7_isInOrder 26 = .ok (.iload 4, 2) := by decide +kernel
theorem dX7_isInOrder_28 : decode cX7_isInOrder 28 = .ok (.iload_n 2, 1) := by decide +kernel
theorem dX7_isInOrder_29 : decode cX7_isInOrder 29 = .ok (.if_icmp .le 5, 3) := by decide +kernel
theorem dX7_isInOrder_32 : decode cX7_isInOrder 32 = .ok (.iconst 0, 1) := by decide +kernel
theorem dX7_isInOrder_33 : decode cX7_isInOrder 33 = .ok (.ireturn, 1) := by decide +kernel
theorem dX7_isInOrder_34 : decode cX7_isInOrder 34 = .ok (.iinc 3 1, 3) := by decide +kernel
theorem dX7_isInOrder_37 : decode cX7_isInOrder 37 = .ok (.goto (-35), 3) := by decide +kernel
theorem dX7_isInOrder_40 : decode cX7_isInOrder 40 = .ok (.iconst 1, 1) := by decide +kernel
theorem dX7_isInOrder_41 : decode cX7_isInOrder 41 = .ok (.ireturn, 1) := by decide +kernel
theorem dX8_init_0 : decode cX8_init 0 = .ok (.aload_n 0, 1) := by decide +kernel
theorem dX8_init_1 : decode cX8_init 1 = .ok (.invokespecial 3, 3) := by decide +kernel
theorem dX8_init_4 : decode cX8_init 4 = .ok (.aload_n 0, 1) := by decide +kernel
theorem dX8_init_5 : decode cX8_init 5 = .ok (.bipush 12, 2) := by decide +kernel
theorem dX8_init_7 : decode cX8_init 7 = .ok (.anewarray 9, 3) := by decide +kernel
theorem dX8_init_10 : decode cX8_init 10 = .ok (.putfield 11, 3) := by decide +kernel
theorem dX8_init_13 : decode cX8_init 13 = .ok (.return_, 1) := by decide +kernel
theorem dX8_find_0 : decode cX8_find 0 = .ok (.iload_n 1, 1) := by decide +kernel
theorem dX8_find_1 : decode cX8_find 1 = .ok (.ifCond .lt 17, 3) := by decide +kernel
theorem dX8_find_4 : decode cX8_find 4 = .ok (.iload_n 1, 1) := by decide +kernel
theorem dX8_find_5 : decode cX8_find 5 = .ok (.aload_n 0, 1) := by decide +kernel
theorem dX8_find_6 : decode cX8_find 6 = .ok (.getfield 17, 3) := by decide +kernel
theorem dX8_find_9 : decode cX8_find 9 = .ok (.if_icmp .ge 9, 3) := by decide +kernel
theorem dX8_find_12 : decode cX8_find 12 = .ok (.iload_n 1, 1) := by decide +kernel
theorem dX8_find_13 : decode cX8_find 13 = .ok (.bipush 12, 2) := by decide +kernel
theorem dX8_find_15 : decode cX8_find 15 = .ok (.if_icmp .lt 7, 3) := by decide +kernel
theorem dX8_find_18 : decode cX8_find 18 = .ok (.aconst_null, 1) := by decide +kernel
theorem dX8_find_19 : decode cX8_find 19 = .ok (.goto 9, 3) := by decide +kernel
theorem dX8_find_22 : decode cX8_find 22 = .ok (.aload_n 0, 1) := by decide +kernel
theorem dX8_find_23 : decode cX8_find 23 = .ok (.getfield 11, 3) := by decide +kernel
theorem dX8_find_26 : decode cX8_find 26 = .ok (.iload_n 1, 1) := by decide +kernel
theorem dX8_find_27 : decode cX8_find 27 = .ok (.aaload, 1) := by decide +kernel
theorem dX8_find_28 : decode cX8_find 28 = .ok (.areturn, 1) := by decide +kernel
theorem dX8_isFull_0 : decode cX8_isFull 0 = .ok (.aload_n 0, 1) := by decide +kernel
theorem dX8_isFull_1 : decode cX8_isFull 1 = .ok (.getfield 17, 3) := by decide +kernel
theorem dX8_isFull_4 : decode cX8_isFull 4 = .ok (.bipush 12, 2) := by decide +kernel
theorem dX8_isFull_6 : decode cX8_isFull 6 = .ok (.if_icmp .lt 7, 3) := by decide +kernel
theorem dX8_isFull_9 : decode cX8_isFull 9 = .ok (.iconst 1, 1) := by decide +kernel
theorem dX8_isFull_10 : decode cX8_isFull 10 = .ok (.goto 4, 3) := by decide +kernel
theorem dX8_isFull_13 : decode cX8_isFull 13 = .ok (.iconst 0, 1) := by decide +kernel
theorem dX8_isFull_14 : decode cX8_isFull 14 = .ok (.ireturn, 1) := by decide +kernel
theorem dX8_append_0 : decode cX8_append 0 = .ok (.aload_n 0, 1) := by decide +kernel
theorem dX8_append_1 : decode cX8_append 1 = .ok (.getfield 17, 3) := by decide +kernel
theorem dX8_append_4 : decode cX8_append 4 = .ok (.ifCond .lt 12, 3) := by decide +kernel
theorem dX8_append_7 : decode cX8_append 7 = .ok (.aload_n 0, 1) := by decide +kernel
theorem dX8_append_8 : decode cX8_append 8 = .ok (.getfield 17, 3) := by decide +kernel
theorem dX8_append_11 : decode cX8_append 11 = .ok (.bipush 12, 2) := by decide +kernel
theorem dX8_append_13 : decode cX8_append 13 = .ok (.if_icmp .lt 5, 3) := by decide +kernel
theorem dX8_append_16 : decode cX8_append 16 = .ok (.iconst (-1), 1) := by decide +kernel
theorem dX8_append_17 : decode cX8_append 17 = .ok (.ireturn, 1) := by decide +kernel
theorem dX8_append_18 : decode cX8_append 18 = .ok (.aload_n 0, 1) := by decide +kernel
theorem dX8_append_19 : decode cX8_append 19 = .ok (.getfield 11, 3) := by decide +kernel
theorem dX8_append_22 : decode cX8_append 22 = .ok (.aload_n 0, 1) := by decide +kernel
theorem dX8_append_23 : decode cX8_append 23 = .ok (.getfield 17, 3) := by decide +kernel
theorem dX8_append_26 : decode cX8_append 26 = .ok (.aload_n 1, 1) := by decide +kernel
theorem dX8_append_27 : decode cX8_append 27 = .ok (.aastore, 1) := by decide +kernel
theorem dX8_append_28 : decode cX8_append 28 = .ok (.aload_n 0, 1) := by decide +kernel
theorem dX8_append_29 : decode cX8_append 29 = .ok (.dup, 1) := by decide +kernel
theorem dX8_append_30 : decode cX8_append 30 = .ok (.getfield 17, 3) := by decide +kernel
theorem dX8_append_33 : decode cX8_append 33 = .ok (.iconst 1, 1) := by decide +kernel
theorem dX8_append_34 : decode cX8_append 34 = .ok (.iadd, 1) := by decide +kernel
theorem dX8_append_35 : decode cX8_append 35 = .ok (.putfield 17, 3) := by decide +kernel
theorem dX8_append_38 : decode cX8_append 38 = .ok (.aload_n 0, 1) := by decide +kernel
theorem dX8_append_39 : decode cX8_append 39 = .ok (.getfield 17, 3) := by decide +kernel
theorem dX8_append_42 : decode cX8_append 42 = .ok (.iconst 1, 1) := by decide +kernel
theorem dX8_append_43 : decode cX8_append 43 = .ok (.isub, 1) := by decide +kernel
theorem dX8_append_44 : decode cX8_append 44 = .ok (.ireturn, 1) := by decide +kernel
set_option maxRecDepth 20000 in
theorem ggX8_plainBehind_X7_isProxy : GoodIn wsX8_plainBehind wsX7_isProxy := goodIn_r _ [7, 8, 9, 10, 11, 12, 13, 14, 15, 16, 17] (by decide +kernel) (by decide +kernel)
set_option maxRecDepth 20000 in
theorem gX8_plainBehind_X7_isProxy : GoodIn wsX8_plainBehind (wsV RX8 21 RX7 yX7_isProxy wsX7_isProxy) := goodIn_app (goodIn_of _ (by decide +kernel)) ggX8_plainBehind_X7_isProxy
theorem dX8_plainBehind_0 : decode cX8_plainBehind 0 = .ok (.aload_n 1, 1) := by decide +kernel
theorem dX8_plainBehind_1 : decode cX8_plainBehind 1 = .ok (.astore_n 2, 1) := by decide +kernel
theorem dX8_plainBehind_2 : decode cX8_plainBehind 2 = .ok (.iconst 0, 1) := by decide +kernel
theorem dX8_plainBehind_3 : decode cX8_plainBehind 3 = .ok (.istore_n 3, 1) := by decide +kernel
theorem dX8_plainBehind_4 : decode cX8_plainBehind 4 = .ok (.iload_n 3, 1) := by decide +kernel
theorem dX8_plainBehind_5 : decode cX8_plainBehind 5 = .ok (.bipush 12, 2) := by decide +kernel
theorem dX8_plainBehind_7 : decode cX8_plainBehind 7 = .ok (.if_icmp .ge 38, 3) := by decide +kernel
theorem dX8_plainBehind_10 : decode cX8_plainBehind 10 = .ok (.aload_n 2, 1) := by decide +kernel
theorem dX8_plainBehind_11 : decode cX8_plainBehind 11 = .ok (.ifnull 34, 3) := by decide +kernel
theorem dX8_plainBehind_14 : decode cX8_plainBehind 14 = .ok (.aload_n 2, 1) := by decide +kernel
theorem dX8_plainBehind_15 : decode cX8_plainBehind 15 = .ok (.invokevirtual 21, 3) := by decide +kernel
theorem dX8_plainBehind_18 : decode cX8_plainBehind 18 = .ok (.ifCond .ne 5, 3) := by decide +kernel
theorem dX8_plainBehind_21 : decode cX8_plainBehind 21 = .ok (.aload_n 2, 1) := by decide +kernel
theorem dX8_plainBehind_22 : decode cX8_plainBehind 22 = .ok (.areturn, 1) := by decide +kernel
theorem dX8_plainBehind_23 : decode cX8_plainBehind 23 = .ok (.aload_n 2, 1) := by decide +kernel
theorem dX8_plainBehind_24 : decode cX8_plainBehind 24 = .ok (.getfield 25, 3) := by decide +kernel
theorem dX8_plainBehind_27 : decode cX8_plainBehind 27 = .ok (.ifCond .eq 7, 3) := by decide +kernel
theorem dX8_plainBehind_30 : decode cX8_plainBehind 30 = .ok (.aconst_null, 1) := by decide +kernel
theorem dX8_plainBehind_31 : decode cX8_plainBehind 31 = .ok (.goto 7, 3) := by decide +kernel
theorem dX8_plainBehind_34 : decode cX8_plainBehind 34 = .ok (.aload_n 2, 1) := by decide +kernel
theorem dX8_plainBehind_35 : decode cX8_plainBehind 35 = .ok (.getfield 29, 3) := by decide +kernel
theorem dX8_plainBehind_38 : decode cX8_plainBehind 38 = .ok (.astore_n 2, 1) := by decide +kernel
theorem dX8_plainBehind_39 : decode cX8_plainBehind 39 = .ok (.iinc 3 1, 3) := by decide +kernel
theorem dX8_plainBehind_42 : decode cX8_plainBehind 42 = .ok (.goto (-38), 3) := by decide +kernel
theorem dX8_plainBehind_45 : decode cX8_plainBehind 45 = .ok (.aconst_null, 1) := by decide +kernel
theorem dX8_plainBehind_46 : decode cX8_plainBehind 46 = .ok (.areturn, 1) := by decide +kernel
set_option maxRecDepth 20000 in
theorem ggX8_getFrom_X7_isProxy : GoodIn wsX8_getFrom wsX7_isProxy := goodIn_r _ [9, 10, 47, 48, 49, 50, 51, 52, 53, 54, 55] (by decide +kernel) (by decide +kernel)
set_option maxRecDepth 20000 in
theorem gX8_getFrom_X7_isProxy : GoodIn wsX8_getFrom (wsV RX8 21 RX7 yX7_isProxy wsX7_isProxy) := goodIn_app (goodIn_of _ (by decide +kernel)) ggX8_getFrom_X7_isProxy
set_option maxRecDepth 20000 in
theorem ggX8_getFrom_X7_isTold : GoodIn wsX8_getFrom wsX7_isTold := goodIn_ca (goodIn_r _ [14, 15, 16, 17, 18, 8, 19, 20, 47, 48, 49, 50, 51, 52, 53, 54, 55] (by decide +kernel) (by decide +kernel)) (goodIn_sub (fun _ h => List.mem_cons_of_mem _ (List.mem_append_right _ h)) (by decide +kernel))
set_option maxRecDepth 20000 in
theorem gX8_getFrom_X7_isTold : GoodIn wsX8_getFrom (wsV RX8 35 RX7 yX7_isTold wsX7_isTold) := goodIn_app (goodIn_of _ (by decide +kernel)) ggX8_getFrom_X7_isTold
set_option maxRecDepth 20000 in
theorem ggX8_getFrom_X7_answerTo : GoodIn wsX8_getFrom wsX7_answerTo := goodIn_ca (goodIn_r _ [19, 15, 20, 47, 48, 49, 50, 51, 52, 53, 54, 55] (by decide +kernel) (by decide +kernel)) (goodIn_sub (fun _ h => List.mem_cons_of_mem _ (List.mem_append_right _ h)) (by decide +kernel))
set_option maxRecDepth 20000 in
theorem gX8_getFrom_X7_answerTo : GoodIn wsX8_getFrom (wsV RX8 39 RX7 yX7_answerTo wsX7_answerTo) := goodIn_app (goodIn_of _ (by decide +kernel)) ggX8_getFrom_X7_answerTo
set_option maxRecDepth 20000 in
theorem ggX8_getFrom_X8_plainBehind : GoodIn wsX8_getFrom wsX8_plainBehind := goodIn_r _ [26, 1, 3, 5, 6, 7, 8, 9, 10, 47, 48, 49, 50, 51, 52, 53, 54, 55] (by decide +kernel) (by decide +kernel)
set_option maxRecDepth 20000 in
theorem gX8_getFrom_X8_plainBehind : GoodIn wsX8_getFrom (wsV RX8 43 RX8 yX8_plainBehind wsX8_plainBehind) := goodIn_app (goodIn_of _ (by decide +kernel)) ggX8_getFrom_X8_plainBehind
set_option maxRecDepth 20000 in
theorem ggX8_getFrom_X7_keepsOther : GoodIn wsX8_getFrom wsX7_keepsOther := goodIn_ca (goodIn_r _ [30, 31, 32, 33, 8, 34, 35, 36, 37, 38, 39, 40, 41, 42, 43, 44, 47, 48, 49, 50, 51, 52, 53, 54, 55] (by decide +kernel) (by decide +kernel)) (goodIn_sub (fun _ h => List.mem_cons_of_mem _ (List.mem_append_right _ h)) (by decide +kernel))
set_option maxRecDepth 20000 in
theorem gX8_getFrom_X7_keepsOther : GoodIn wsX8_getFrom (wsV RX8 47 RX7 yX7_keepsOther wsX7_keepsOther) := goodIn_app (goodIn_of _ (by decide +kernel)) ggX8_getFrom_X7_keepsOther
set_option maxRecDepth 20000 in
theorem ggX8_getFrom_X7_holds : GoodIn wsX8_getFrom wsX7_holds := goodIn_ca (goodIn_r _ [34, 35, 47, 48, 49, 50, 51, 52, 53, 54, 55] (by decide +kernel) (by decide +kernel)) (goodIn_sub (fun _ h => List.mem_cons_of_mem _ (List.mem_append_right _ h)) (by decide +kernel))
set_option maxRecDepth 20000 in
theorem gX8_getFrom_X7_holds : GoodIn wsX8_getFrom (wsV RX8 51 RX7 yX7_holds wsX7_holds) := goodIn_app (goodIn_of _ (by decide +kernel)) ggX8_getFrom_X7_holds
set_option maxRecDepth 20000 in
theorem ggX8_getFrom_X7_valueOf : GoodIn wsX8_getFrom wsX7_valueOf := goodIn_ca (goodIn_r _ [43, 44, 47, 48, 49, 50, 51, 52, 53, 54, 55] (by decide +kernel) (by decide +kernel)) (goodIn_sub (fun _ h => List.mem_cons_of_mem _ (List.mem_append_right _ h)) (by decide +kernel))
set_option maxRecDepth 20000 in
theorem gX8_getFrom_X7_valueOf : GoodIn wsX8_getFrom (wsV RX8 54 RX7 yX7_valueOf wsX7_valueOf) := goodIn_app (goodIn_of _ (by decide +kernel)) ggX8_getFrom_X7_valueOf
theorem dX8_getFrom_0 : decode cX8_getFrom 0 = .ok (.aload_n 1, 1) := by decide +kernel
theorem dX8_getFrom_1 : decode cX8_getFrom 1 = .ok (.astore_n 3, 1) := by decide +kernel
theorem dX8_getFrom_2 : decode cX8_getFrom 2 = .ok (.iconst 0, 1) := by decide +kernel
theorem dX8_getFrom_3 : decode cX8_getFrom 3 = .ok (.istore 4, 2) := by decide +kernel
theorem dX8_getFrom_5 : decode cX8_getFrom 5 = .ok (.iload 4, 2) := by decide +kernel
theorem dX8_getFrom_7 : decode cX8_getFrom 7 = .ok (.bipush 30, 2) := by decide +kernel
theorem dX8_getFrom_9 : decode cX8_getFrom 9 = .ok (.if_icmp .ge 110, 3) := by decide +kernel
theorem dX8_getFrom_12 : decode cX8_getFrom 12 = .ok (.aload_n 3, 1) := by decide +kernel
theorem dX8_getFrom_13 : decode cX8_getFrom 13 = .ok (.ifnull 106, 3) := by decide +kernel
theorem dX8_getFrom_16 : decode cX8_getFrom 16 = .ok (.aload_n 3, 1) := by decide +kernel
theorem dX8_getFrom_17 : decode cX8_getFrom 17 = .ok (.invokevirtual 21, 3) := by decide +kernel
theorem dX8_getFrom_20 : decode cX8_getFrom 20 = .ok (.ifCond .eq 73, 3) := by decide +kernel
theorem dX8_getFrom_23 : decode cX8_getFrom 23 = .ok (.aload_n 3, 1) := by decide +kernel
theorem dX8_getFrom_24 : decode cX8_getFrom 24 = .ok (.getfield 25, 3) := by decide +kernel
theorem dX8_getFrom_27 : decode cX8_getFrom 27 = .ok (.ifCond .eq 7, 3) := by decide +kernel
theorem dX8_getFrom_30 : decode cX8_getFrom 30 = .ok (.ldc2_w 33, 3) := by decide +kernel
theorem dX8_getFrom_33 : decode cX8_getFrom 33 = .ok (.lreturn, 1) := by decide +kernel
theorem dX8_getFrom_34 : decode cX8_getFrom 34 = .ok (.aload_n 3, 1) := by decide +kernel
theorem dX8_getFrom_35 : decode cX8_getFrom 35 = .ok (.iconst 0, 1) := by decide +kernel
theorem dX8_getFrom_36 : decode cX8_getFrom 36 = .ok (.invokevirtual 35, 3) := by decide +kernel
theorem dX8_getFrom_39 : decode cX8_getFrom 39 = .ok (.ifCond .eq 46, 3) := by decide +kernel
theorem dX8_getFrom_42 : decode cX8_getFrom 42 = .ok (.aload_n 3, 1) := by decide +kernel
theorem dX8_getFrom_43 : decode cX8_getFrom 43 = .ok (.iconst 0, 1) := by decide +kernel
theorem dX8_getFrom_44 : decode cX8_getFrom 44 = .ok (.invokevirtual 39, 3) := by decide +kernel
theorem dX8_getFrom_47 : decode cX8_getFrom 47 = .ok (.istore 5, 2) := by decide +kernel
theorem dX8_getFrom_49 : decode cX8_getFrom 49 = .ok (.aload_n 0, 1) := by decide +kernel
theorem dX8_getFrom_50 : decode cX8_getFrom 50 = .ok (.aload_n 3, 1) := by decide +kernel
theorem dX8_getFrom_51 : decode cX8_getFrom 51 = .ok (.getfield 29, 3) := by decide +kernel
theorem dX8_getFrom_54 : decode cX8_getFrom 54 = .ok (.invokevirtual 43, 3) := by decide +kernel
theorem dX8_getFrom_57 : decode cX8_getFrom 57 = .ok (.astore 6, 2) := by decide +kernel
theorem dX8_getFrom_59 : decode cX8_getFrom 59 = .ok (.aload 6, 2) := by decide +kernel
theorem dX8_getFrom_61 : decode cX8_getFrom 61 = .ok (.ifnull 14, 3) := by decide +kernel
theorem dX8_getFrom_64 : decode cX8_getFrom 64 = .ok (.aload 6, 2) := by decide +kernel
theorem dX8_getFrom_66 : decode cX8_getFrom 66 = .ok (.iload_n 2, 1) := by decide +kernel
theorem dX8_getFrom_67 : decode cX8_getFrom 67 = .ok (.iload 5, 2) := by decide +kernel
theorem dX8_getFrom_69 : decode cX8_getFrom 69 = .ok (.invokevirtual 47, 3) := by decide +kernel
theorem dX8_getFrom_72 : decode cX8_getFrom 72 = .ok (.ifCond .eq 9, 3) := by decide +kernel
theorem dX8_getFrom_75 : decode cX8_getFrom 75 = .ok (.ldc2_w 33, 3) := by decide +kernel
theorem dX8_getFrom_78 : decode cX8_getFrom 78 = .ok (.goto 6, 3) := by decide +kernel
theorem dX8_getFrom_81 : decode cX8_getFrom 81 = .ok (.iload 5, 2) := by decide +kernel
theorem dX8_getFrom_83 : decode cX8_getFrom 83 = .ok (.i2l, 1) := by decide +kernel
theorem dX8_getFrom_84 : decode cX8_getFrom 84 = .ok (.lreturn, 1) := by decide +kernel
theorem dX8_getFrom_85 : decode cX8_getFrom 85 = .ok (.aload_n 3, 1) := by decide +kernel
theorem dX8_getFrom_86 : decode cX8_getFrom 86 = .ok (.getfield 29, 3) := by decide +kernel
theorem dX8_getFrom_89 : decode cX8_getFrom 89 = .ok (.astore_n 3, 1) := by decide +kernel
theorem dX8_getFrom_90 : decode cX8_getFrom 90 = .ok (.goto 23, 3) := by decide +kernel
theorem dX8_getFrom_93 : decode cX8_getFrom 93 = .ok (.aload_n 3, 1) := by decide +kernel
theorem dX8_getFrom_94 : decode cX8_getFrom 94 = .ok (.iload_n 2, 1) := by decide +kernel
theorem dX8_getFrom_95 : decode cX8_getFrom 95 = .ok (.invokevirtual 51, 3) := by decide +kernel
theorem dX8_getFrom_98 : decode cX8_getFrom 98 = .ok (.ifCond .eq 10, 3) := by decide +kernel
theorem dX8_getFrom_101 : decode cX8_getFrom 101 = .ok (.aload_n 3, 1) := by decide +kernel
theorem dX8_getFrom_102 : decode cX8_getFrom 102 = .ok (.iload_n 2, 1) := by decide +kernel
theorem dX8_getFrom_103 : decode cX8_getFrom 103 = .ok (.invokevirtual 54, 3) := by decide +kernel
theorem dX8_getFrom_106 : decode cX8_getFrom 106 = .ok (.i2l, 1) := by decide +kernel
theorem dX8_getFrom_107 : decode cX8_getFrom 107 = .ok (.lreturn, 1) := by decide +kernel
theorem dX8_getFrom_108 : decode cX8_getFrom 108 = .ok (.aload_n 3, 1) := by decide +kernel
theorem dX8_getFrom_109 : decode cX8_getFrom 109 = .ok (.getfield 57, 3) := by decide +kernel
theorem dX8_getFrom_112 : decode cX8_getFrom 112 = .ok (.astore_n 3, 1) := by decide +kernel
theorem dX8_getFrom_113 : decode cX8_getFrom 113 = .ok (.iinc 4 1, 3) := by decide +kernel
theorem dX8_getFrom_116 : decode cX8_getFrom 116 = .ok (.goto (-111), 3) := by decide +kernel
theorem dX8_getFrom_119 : decode cX8_getFrom 119 = .ok (.aload_n 3, 1) := by decide +kernel
theorem dX8_getFrom_120 : decode cX8_getFrom 120 = .ok (.ifnonnull 7, 3) := by decide +kernel
theorem dX8_getFrom_123 : decode cX8_getFrom 123 = .ok (.lconst 0, 1) := by decide +kernel
theorem dX8_getFrom_124 : decode cX8_getFrom 124 = .ok (.goto 6, 3) := by decide +kernel
theorem dX8_getFrom_127 : decode cX8_getFrom 127 = .ok (.ldc2_w 33, 3) := by decide +kernel
theorem dX8_getFrom_130 : decode cX8_getFrom 130 = .ok (.lreturn, 1) := by decide +kernel
set_option maxRecDepth 20000 in
theorem ggX8_askFrom_X7_isProxy : GoodIn wsX8_askFrom wsX7_isProxy := goodIn_r _ [8, 9, 44, 45, 46, 47, 48, 49, 50, 51, 52] (by decide +kernel) (by decide +kernel)
set_option maxRecDepth 20000 in
theorem gX8_askFrom_X7_isProxy : GoodIn wsX8_askFrom (wsV RX8 21 RX7 yX7_isProxy wsX7_isProxy) := goodIn_app (goodIn_of _ (by decide +kernel)) ggX8_askFrom_X7_isProxy
set_option maxRecDepth 20000 in
theorem ggX8_askFrom_X7_isTold : GoodIn wsX8_askFrom wsX7_isTold := goodIn_ca (goodIn_r _ [13, 14, 15, 16, 17, 7, 18, 19, 44, 45, 46, 47, 48, 49, 50, 51, 52] (by decide +kernel) (by decide +kernel)) (goodIn_sub (fun _ h => List.mem_cons_of_mem _ (List.mem_append_right _ h)) (by decide +kernel))
set_option maxRecDepth 20000 in
theorem gX8_askFrom_X7_isTold : GoodIn wsX8_askFrom (wsV RX8 35 RX7 yX7_isTold wsX7_isTold) := goodIn_app (goodIn_of _ (by decide +kernel)) ggX8_askFrom_X7_isTold
set_option maxRecDepth 20000 in
theorem ggX8_askFrom_X7_answerTo : GoodIn wsX8_askFrom wsX7_answerTo := goodIn_ca (goodIn_r _ [18, 14, 19, 44, 45, 46, 47, 48, 49, 50, 51, 52] (by decide +kernel) (by decide +kernel)) (goodIn_sub (fun _ h => List.mem_cons_of_mem _ (List.mem_append_right _ h)) (by decide +kernel))
set_option maxRecDepth 20000 in
theorem gX8_askFrom_X7_answerTo : GoodIn wsX8_askFrom (wsV RX8 39 RX7 yX7_answerTo wsX7_answerTo) := goodIn_app (goodIn_of _ (by decide +kernel)) ggX8_askFrom_X7_answerTo
set_option maxRecDepth 20000 in
theorem ggX8_askFrom_X8_plainBehind : GoodIn wsX8_askFrom wsX8_plainBehind := goodIn_r _ [25, 1, 2, 4, 5, 6, 7, 8, 9, 44, 45, 46, 47, 48, 49, 50, 51, 52] (by decide +kernel) (by decide +kernel)
set_option maxRecDepth 20000 in
theorem gX8_askFrom_X8_plainBehind : GoodIn wsX8_askFrom (wsV RX8 43 RX8 yX8_plainBehind wsX8_plainBehind) := goodIn_app (goodIn_of _ (by decide +kernel)) ggX8_askFrom_X8_plainBehind
set_option maxRecDepth 20000 in
theorem ggX8_askFrom_X7_keepsKey : GoodIn wsX8_askFrom wsX7_keepsKey := goodIn_ca (goodIn_r _ [29, 30, 31, 32, 33, 7, 34, 35, 36, 37, 38, 39, 44, 45, 46, 47, 48, 49, 50, 51, 52] (by decide +kernel) (by decide +kernel)) (goodIn_sub (fun _ h => List.mem_cons_of_mem _ (List.mem_append_right _ h)) (by decide +kernel))
set_option maxRecDepth 20000 in
theorem gX8_askFrom_X7_keepsKey : GoodIn wsX8_askFrom (wsV RX8 60 RX7 yX7_keepsKey wsX7_keepsKey) := goodIn_app (goodIn_of _ (by decide +kernel)) ggX8_askFrom_X7_keepsKey
set_option maxRecDepth 20000 in
theorem ggX8_askFrom_X8_yesOrNo : GoodIn wsX8_askFrom wsX8_yesOrNo := goodIn_r _ [42] (by decide +kernel) (by decide +kernel)
set_option maxRecDepth 20000 in
theorem gX8_askFrom_X8_yesOrNo : GoodIn wsX8_askFrom (va_wsS RX8 63 yX8_yesOrNo wsX8_yesOrNo) := goodIn_app (goodIn_of _ (by decide +kernel)) ggX8_askFrom_X8_yesOrNo
set_option maxRecDepth 20000 in
theorem ggX8_askFrom_X7_holds : GoodIn wsX8_askFrom wsX7_holds := goodIn_ca (goodIn_r _ [34, 35, 44, 45, 46, 47, 48, 49, 50, 51, 52] (by decide +kernel) (by decide +kernel)) (goodIn_sub (fun _ h => List.mem_cons_of_mem _ (List.mem_append_right _ h)) (by decide +kernel))
set_option maxRecDepth 20000 in
theorem gX8_askFrom_X7_holds : GoodIn wsX8_askFrom (wsV RX8 51 RX7 yX7_holds wsX7_holds) := goodIn_app (goodIn_of _ (by decide +kernel)) ggX8_askFrom_X7_holds
theorem dX8_askFrom_0 : decode cX8_askFrom 0 = .ok (.aload_n 1, 1) := by decide +kernel
theorem dX8_askFrom_1 : decode cX8_askFrom 1 = .ok (.astore_n 3, 1) := by decide +kernel
theorem dX8_askFrom_2 : decode cX8_askFrom 2 = .ok (.iconst 0, 1) := by decide +kernel
theorem dX8_askFrom_3 : decode cX8_askFrom 3 = .ok (.istore 4, 2) := by decide +kernel
theorem dX8_askFrom_5 : decode cX8_askFrom 5 = .ok (.iload 4, 2) := by decide +kernel
theorem dX8_askFrom_7 : decode cX8_askFrom 7 = .ok (.bipush 30, 2) := by decide +kernel
theorem dX8_askFrom_9 : decode cX8_askFrom 9 = .ok (.if_icmp .ge 118, 3) := by decide +kernel
theorem dX8_askFrom_12 : decode cX8_askFrom 12 = .ok (.aload_n 3, 1) := by decide +kernel
theorem dX8_askFrom_13 : decode cX8_askFrom 13 = .ok (.ifnull 114, 3) := by decide +kernel
theorem dX8_askFrom_16 : decode cX8_askFrom 16 = .ok (.aload_n 3, 1) := by decide +kernel
theorem dX8_askFrom_17 : decode cX8_askFrom 17 = .ok (.invokevirtual 21, 3) := by decide +kernel
theorem dX8_askFrom_20 : decode cX8_askFrom 20 = .ok (.ifCond .eq 85, 3) := by decide +kernel
theorem dX8_askFrom_23 : decode cX8_askFrom 23 = .ok (.aload_n 3, 1) := by decide +kernel
theorem dX8_askFrom_24 : decode cX8_askFrom 24 = .ok (.getfield 25, 3) := by decide +kernel
theorem dX8_askFrom_27 : decode cX8_askFrom 27 = .ok (.ifCond .eq 6, 3) := by decide +kernel
theorem dX8_askFrom_30 : decode cX8_askFrom 30 = .ok (.bipush 84, 2) := by decide +kernel
theorem dX8_askFrom_32 : decode cX8_askFrom 32 = .ok (.ireturn, 1) := by decide +kernel
theorem dX8_askFrom_33 : decode cX8_askFrom 33 = .ok (.aload_n 3, 1) := by decide +kernel
theorem dX8_askFrom_34 : decode cX8_askFrom 34 = .ok (.iconst 1, 1) := by decide +kernel
theorem dX8_askFrom_35 : decode cX8_askFrom 35 = .ok (.invokevirtual 35, 3) := by decide +kernel
theorem dX8_askFrom_38 : decode cX8_askFrom 38 = .ok (.ifCond .eq 59, 3) := by decide +kernel
theorem dX8_askFrom_41 : decode cX8_askFrom 41 = .ok (.aload_n 3, 1) := by decide +kernel
theorem dX8_askFrom_42 : decode cX8_askFrom 42 = .ok (.iconst 1, 1) := by decide +kernel
theorem dX8_askFrom_43 : decode cX8_askFrom 43 = .ok (.invokevirtual 39, 3) := by decide +kernel
theorem dX8_askFrom_46 : decode cX8_askFrom 46 = .ok (.iconst 1, 1) := by decide +kernel
theorem dX8_askFrom_47 : decode cX8_askFrom 47 = .ok (.if_icmp .ne 7, 3) := by decide +kernel
theorem dX8_askFrom_50 : decode cX8_askFrom 50 = .ok (.iconst 1, 1) := by decide +kernel
theorem dX8_askFrom_51 : decode cX8_askFrom 51 = .ok (.goto 4, 3) := by decide +kernel
theorem dX8_askFrom_54 : decode cX8_askFrom 54 = .ok (.iconst 0, 1) := by decide +kernel
theorem dX8_askFrom_55 : decode cX8_askFrom 55 = .ok (.istore 5, 2) := by decide +kernel
theorem dX8_askFrom_57 : decode cX8_askFrom 57 = .ok (.aload_n 0, 1) := by decide +kernel
theorem dX8_askFrom_58 : decode cX8_askFrom 58 = .ok (.aload_n 3, 1) := by decide +kernel
theorem dX8_askFrom_59 : decode cX8_askFrom 59 = .ok (.getfield 29, 3) := by decide +kernel
theorem dX8_askFrom_62 : decode cX8_askFrom 62 = .ok (.invokevirtual 43, 3) := by decide +kernel
theorem dX8_askFrom_65 : decode cX8_askFrom 65 = .ok (.astore 6, 2) := by decide +kernel
theorem dX8_askFrom_67 : decode cX8_askFrom 67 = .ok (.aload 6, 2) := by decide +kernel
theorem dX8_askFrom_69 : decode cX8_askFrom 69 = .ok (.ifnull 17, 3) := by decide +kernel
theorem dX8_askFrom_72 : decode cX8_askFrom 72 = .ok (.iload 5, 2) := by decide +kernel
theorem dX8_askFrom_74 : decode cX8_askFrom 74 = .ok (.ifCond .ne 17, 3) := by decide +kernel
theorem dX8_askFrom_77 : decode cX8_askFrom 77 = .ok (.aload 6, 2) := by decide +kernel
theorem dX8_askFrom_79 : decode cX8_askFrom 79 = .ok (.iload_n 2, 1) := by decide +kernel
theorem dX8_askFrom_80 : decode cX8_askFrom 80 = .ok (.invokevirtual 60, 3) := by decide +kernel
theorem dX8_askFrom_83 : decode cX8_askFrom 83 = .ok (.ifCond .eq 8, 3) := by decide +kernel
theorem dX8_askFrom_86 : decode cX8_askFrom 86 = .ok (.bipush 84, 2) := by decide +kernel
theorem dX8_askFrom_88 : decode cX8_askFrom 88 = .ok (.goto 8, 3) := by decide +kernel
theorem dX8_askFrom_91 : decode cX8_askFrom 91 = .ok (.iload 5, 2) := by decide +kernel
theorem dX8_askFrom_93 : decode cX8_askFrom 93 = .ok (.invokestatic 63, 3) := by decide +kernel
theorem dX8_askFrom_96 : decode cX8_askFrom 96 = .ok (.ireturn, 1) := by decide +kernel
theorem dX8_askFrom_97 : decode cX8_askFrom 97 = .ok (.aload_n 3, 1) := by decide +kernel
theorem dX8_askFrom_98 : decode cX8_askFrom 98 = .ok (.getfield 29, 3) := by decide +kernel
theorem dX8_askFrom_101 : decode cX8_askFrom 101 = .ok (.astore_n 3, 1) := by decide +kernel
theorem dX8_askFrom_102 : decode cX8_askFrom 102 = .ok (.goto 19, 3) := by decide +kernel
theorem dX8_askFrom_105 : decode cX8_askFrom 105 = .ok (.aload_n 3, 1) := by decide +kernel
theorem dX8_askFrom_106 : decode cX8_askFrom 106 = .ok (.iload_n 2, 1) := by decide +kernel
theorem dX8_askFrom_107 : decode cX8_askFrom 107 = .ok (.invokevirtual 51, 3) := by decide +kernel
theorem dX8_askFrom_110 : decode cX8_askFrom 110 = .ok (.ifCond .eq 6, 3) := by decide +kernel
theorem dX8_askFrom_113 : decode cX8_askFrom 113 = .ok (.bipush 121, 2) := by decide +kernel
theorem dX8_askFrom_115 : decode cX8_askFrom 115 = .ok (.ireturn, 1) := by decide +kernel
theorem dX8_askFrom_116 : decode cX8_askFrom 116 = .ok (.aload_n 3, 1) := by decide +kernel
theorem dX8_askFrom_117 : decode cX8_askFrom 117 = .ok (.getfield 57, 3) := by decide +kernel
theorem dX8_askFrom_120 : decode cX8_askFrom 120 = .ok (.astore_n 3, 1) := by decide +kernel
theorem dX8_askFrom_121 : decode cX8_askFrom 121 = .ok (.iinc 4 1, 3) := by decide +kernel
theorem dX8_askFrom_124 : decode cX8_askFrom 124 = .ok (.goto (-119), 3) := by decide +kernel
theorem dX8_askFrom_127 : decode cX8_askFrom 127 = .ok (.aload_n 3, 1) := by decide +kernel
theorem dX8_askFrom_128 : decode cX8_askFrom 128 = .ok (.ifnonnull 8, 3) := by decide +kernel
theorem dX8_askFrom_131 : decode cX8_askFrom 131 = .ok (.bipush 110, 2) := by decide +kernel
theorem dX8_askFrom_133 : decode cX8_askFrom 133 = .ok (.goto 5, 3) := by decide +kernel
theorem dX8_askFrom_136 : decode cX8_askFrom 136 = .ok (.bipush 84, 2) := by decide +kernel
theorem dX8_askFrom_138 : decode cX8_askFrom 138 = .ok (.ireturn, 1) := by decide +kernel
set_option maxRecDepth 20000 in
theorem ggX8_setFrom_X7_isProxy : GoodIn wsX8_setFrom wsX7_isProxy := goodIn_r _ [8, 9, 71, 72, 73, 74, 75, 76, 77, 78, 79] (by decide +kernel) (by decide +kernel)
set_option maxRecDepth 20000 in
theorem gX8_setFrom_X7_isProxy : GoodIn wsX8_setFrom (wsV RX8 21 RX7 yX7_isProxy wsX7_isProxy) := goodIn_app (goodIn_of _ (by decide +kernel)) ggX8_setFrom_X7_isProxy
set_option maxRecDepth 20000 in
theorem ggX8_setFrom_X7_isTold : GoodIn wsX8_setFrom wsX7_isTold := goodIn_ca (goodIn_r _ [13, 14, 15, 16, 17, 7, 18, 19, 71, 72, 73, 74, 75, 76, 77, 78, 79] (by decide +kernel) (by decide +kernel)) (goodIn_sub (fun _ h => List.mem_cons_of_mem _ (List.mem_append_right _ h)) (by decide +kernel))
set_option maxRecDepth 20000 in
theorem gX8_setFrom_X7_isTold : GoodIn wsX8_setFrom (wsV RX8 35 RX7 yX7_isTold wsX7_isTold) := goodIn_app (goodIn_of _ (by decide +kernel)) ggX8_setFrom_X7_isTold
set_option maxRecDepth 20000 in
theorem ggX8_setFrom_X7_answerTo : GoodIn wsX8_setFrom wsX7_answerTo := goodIn_ca (goodIn_r _ [18, 14, 19, 71, 72, 73, 74, 75, 76, 77, 78, 79] (by decide +kernel) (by decide +kernel)) (goodIn_sub (fun _ h => List.mem_cons_of_mem _ (List.mem_append_right _ h)) (by decide +kernel))
set_option maxRecDepth 20000 in
theorem gX8_setFrom_X7_answerTo : GoodIn wsX8_setFrom (wsV RX8 39 RX7 yX7_answerTo wsX7_answerTo) := goodIn_app (goodIn_of _ (by decide +kernel)) ggX8_setFrom_X7_answerTo
set_option maxRecDepth 20000 in
theorem ggX8_setFrom_X8_plainBehind : GoodIn wsX8_setFrom wsX8_plainBehind := goodIn_r _ [25, 1, 2, 4, 5, 6, 7, 8, 9, 71, 72, 73, 74, 75, 76, 77, 78, 79] (by decide +kernel) (by decide +kernel)
set_option maxRecDepth 20000 in
theorem gX8_setFrom_X8_plainBehind : GoodIn wsX8_setFrom (wsV RX8 43 RX8 yX8_plainBehind wsX8_plainBehind) := goodIn_app (goodIn_of _ (by decide +kernel)) ggX8_setFrom_X8_plainBehind
set_option maxRecDepth 20000 in
theorem ggX8_setFrom_X7_keepsOther : GoodIn wsX8_setFrom wsX7_keepsOther := goodIn_ca (goodIn_r _ [29, 30, 31, 32, 7, 33, 34, 35, 36, 37, 38, 39, 40, 41, 42, 43, 71, 72, 73, 74, 75, 76, 77, 78, 79] (by decide +kernel) (by decide +kernel)) (goodIn_sub (fun _ h => List.mem_cons_of_mem _ (List.mem_append_right _ h)) (by decide +kernel))
set_option maxRecDepth 20000 in
theorem gX8_setFrom_X7_keepsOther : GoodIn wsX8_setFrom (wsV RX8 47 RX7 yX7_keepsOther wsX7_keepsOther) := goodIn_app (goodIn_of _ (by decide +kernel)) ggX8_setFrom_X7_keepsOther
set_option maxRecDepth 20000 in
theorem ggX8_setFrom_X8_yesOrNo : GoodIn wsX8_setFrom wsX8_yesOrNo := goodIn_r _ [46] (by decide +kernel) (by decide +kernel)
set_option maxRecDepth 20000 in
theorem gX8_setFrom_X8_yesOrNo : GoodIn wsX8_setFrom (va_wsS RX8 63 yX8_yesOrNo wsX8_yesOrNo) := goodIn_app (goodIn_of _ (by decide +kernel)) ggX8_setFrom_X8_yesOrNo
set_option maxRecDepth 20000 in
theorem ggX8_setFrom_X7_holds : GoodIn wsX8_setFrom wsX7_holds := goodIn_ca (goodIn_r _ [33, 34, 71, 72, 73, 74, 75, 76, 77, 78, 79] (by decide +kernel) (by decide +kernel)) (goodIn_sub (fun _ h => List.mem_cons_of_mem _ (List.mem_append_right _ h)) (by decide +kernel))
set_option maxRecDepth 20000 in
theorem gX8_setFrom_X7_holds : GoodIn wsX8_setFrom (wsV RX8 51 RX7 yX7_holds wsX7_holds) := goodIn_app (goodIn_of _ (by decide +kernel)) ggX8_setFrom_X7_holds
set_option maxRecDepth 20000 in
theorem ggX8_setFrom_X7_canBe : GoodIn wsX8_setFrom wsX7_canBe := goodIn_ca (goodIn_r _ [38, 34, 71, 72, 73, 74, 75, 76, 77, 78, 79] (by decide +kernel) (by decide +kernel)) (goodIn_sub (fun _ h => List.mem_cons_of_mem _ (List.mem_append_right _ h)) (by decide +kernel))
set_option maxRecDepth 20000 in
theorem gX8_setFrom_X7_canBe : GoodIn wsX8_setFrom (wsV RX8 67 RX7 yX7_canBe wsX7_canBe) := goodIn_app (goodIn_of _ (by decide +kernel)) ggX8_setFrom_X7_canBe
set_option maxRecDepth 20000 in
theorem ggX8_setFrom_X8_receive : GoodIn wsX8_setFrom wsX8_receive := goodIn_ca (goodIn_r _ [52, 21, 22, 23, 24, 25, 1, 2, 4, 5, 6, 7, 8, 9, 47, 31, 32, 33, 34, 53, 54, 55, 56, 57, 43, 30, 58, 59, 60, 61, 62, 63, 35, 36, 37, 38, 64, 65, 66, 48, 67, 68, 69, 70, 71, 72, 73, 74, 75, 76, 77, 78, 79] (by decide +kernel) (by decide +kernel)) (goodIn_sub (fun _ h => List.mem_cons_of_mem _ (List.mem_append_right _ h)) (by decide +kernel))
set_option maxRecDepth 20000 in
theorem gX8_setFrom_X8_receive : GoodIn wsX8_setFrom (wsV RX8 70 RX8 yX8_receive wsX8_receive) := goodIn_app (goodIn_of _ (by decide +kernel)) ggX8_setFrom_X8_receive
theorem dX8_setFrom_0 : decode cX8_setFrom 0 = .ok (.aload_n 1, 1) := by decide +kernel
theorem dX8_setFrom_1 : decode cX8_setFrom 1 = .ok (.astore 4, 2) := by decide +kernel
theorem dX8_setFrom_3 : decode cX8_setFrom 3 = .ok (.iconst 0, 1) := by decide +kernel
theorem dX8_setFrom_4 : decode cX8_setFrom 4 = .ok (.istore 5, 2) := by decide +kernel
theorem dX8_setFrom_6 : decode cX8_setFrom 6 = .ok (.iload 5, 2) := by decide +kernel
theorem dX8_setFrom_8 : decode cX8_setFrom 8 = .ok (.bipush 30, 2) := by decide +kernel
theorem dX8_setFrom_10 : decode cX8_setFrom 10 = .ok (.if_icmp .ge 150, 3) := by decide +kernel
theorem dX8_setFrom_13 : decode cX8_setFrom 13 = .ok (.aload 4, 2) := by decide +kernel
theorem dX8_setFrom_15 : decode cX8_setFrom 15 = .ok (.ifnull 145, 3) := by decide +kernel
theorem dX8_setFrom_18 : decode cX8_setFrom 18 = .ok (.aload 4, 2) := by decide +kernel
theorem dX8_setFrom_20 : decode cX8_setFrom 20 = .ok (.invokevirtual 21, 3) := by decide +kernel
theorem dX8_setFrom_23 : decode cX8_setFrom 23 = .ok (.ifCond .eq 92, 3) := by decide +kernel
theorem dX8_setFrom_26 : decode cX8_setFrom 26 = .ok (.aload 4, 2) := by decide +kernel
theorem dX8_setFrom_28 : decode cX8_setFrom 28 = .ok (.getfield 25, 3) := by decide +kernel
theorem dX8_setFrom_31 : decode cX8_setFrom 31 = .ok (.ifCond .eq 6, 3) := by decide +kernel
theorem dX8_setFrom_34 : decode cX8_setFrom 34 = .ok (.bipush 84, 2) := by decide +kernel
theorem dX8_setFrom_36 : decode cX8_setFrom 36 = .ok (.ireturn, 1) := by decide +kernel
theorem dX8_setFrom_37 : decode cX8_setFrom 37 = .ok (.aload 4, 2) := by decide +kernel
theorem dX8_setFrom_39 : decode cX8_setFrom 39 = .ok (.iconst 2, 1) := by decide +kernel
theorem dX8_setFrom_40 : decode cX8_setFrom 40 = .ok (.invokevirtual 35, 3) := by decide +kernel
theorem dX8_setFrom_43 : decode cX8_setFrom 43 = .ok (.ifCond .eq 62, 3) := by decide +kernel
theorem dX8_setFrom_46 : decode cX8_setFrom 46 = .ok (.aload 4, 2) := by decide +kernel
theorem dX8_setFrom_48 : decode cX8_setFrom 48 = .ok (.iconst 2, 1) := by decide +kernel
theorem dX8_setFrom_49 : decode cX8_setFrom 49 = .ok (.invokevirtual 39, 3) := by decide +kernel
theorem dX8_setFrom_52 : decode cX8_setFrom 52 = .ok (.iconst 1, 1) := by decide +kernel
theorem dX8_setFrom_53 : decode cX8_setFrom 53 = .ok (.if_icmp .ne 7, 3) := by decide +kernel
theorem dX8_setFrom_56 : decode cX8_setFrom 56 = .ok (.iconst 1, 1) := by decide +kernel
theorem dX8_setFrom_57 : decode cX8_setFrom 57 = .ok (.goto 4, 3) := by decide +kernel
theorem dX8_setFrom_60 : decode cX8_setFrom 60 = .ok (.iconst 0, 1) := by decide +kernel
theorem dX8_setFrom_61 : decode cX8_setFrom 61 = .ok (.istore 6, 2) := by decide +kernel
theorem dX8_setFrom_63 : decode cX8_setFrom 63 = .ok (.aload_n 0, 1) := by decide +kernel
theorem dX8_setFrom_64 : decode cX8_setFrom 64 = .ok (.aload 4, 2) := by decide +kernel
theorem dX8_setFrom_66 : decode cX8_setFrom 66 = .ok (.getfield 29, 3) := by decide +kernel
theorem dX8_setFrom_69 : decode cX8_setFrom 69 = .ok (.invokevirtual 43, 3) := by decide +kernel
theorem dX8_setFrom_72 : decode cX8_setFrom 72 = .ok (.astore 7, 2) := by decide +kernel
theorem dX8_setFrom_74 : decode cX8_setFrom 74 = .ok (.aload 7, 2) := by decide +kernel
theorem dX8_setFrom_76 : decode cX8_setFrom 76 = .ok (.ifnull 18, 3) := by decide +kernel
theorem dX8_setFrom_79 : decode cX8_setFrom 79 = .ok (.iload 6, 2) := by decide +kernel
theorem dX8_setFrom_81 : decode cX8_setFrom 81 = .ok (.ifCond .eq 18, 3) := by decide +kernel
theorem dX8_setFrom_84 : decode cX8_setFrom 84 = .ok (.aload 7, 2) := by decide +kernel
theorem dX8_setFrom_86 : decode cX8_setFrom 86 = .ok (.iload_n 2, 1) := by decide +kernel
theorem dX8_setFrom_87 : decode cX8_setFrom 87 = .ok (.iload_n 3, 1) := by decide +kernel
theorem dX8_setFrom_88 : decode cX8_setFrom 88 = .ok (.invokevirtual 47, 3) := by decide +kernel
theorem dX8_setFrom_91 : decode cX8_setFrom 91 = .ok (.ifCond .eq 8, 3) := by decide +kernel
theorem dX8_setFrom_94 : decode cX8_setFrom 94 = .ok (.bipush 84, 2) := by decide +kernel
theorem dX8_setFrom_96 : decode cX8_setFrom 96 = .ok (.goto 8, 3) := by decide +kernel
theorem dX8_setFrom_99 : decode cX8_setFrom 99 = .ok (.iload 6, 2) := by decide +kernel
theorem dX8_setFrom_101 : decode cX8_setFrom 101 = .ok (.invokestatic 63, 3) := by decide +kernel
theorem dX8_setFrom_104 : decode cX8_setFrom 104 = .ok (.ireturn, 1) := by decide +kernel
theorem dX8_setFrom_105 : decode cX8_setFrom 105 = .ok (.aload 4, 2) := by decide +kernel
theorem dX8_setFrom_107 : decode cX8_setFrom 107 = .ok (.getfield 29, 3) := by decide +kernel
theorem dX8_setFrom_110 : decode cX8_setFrom 110 = .ok (.astore 4, 2) := by decide +kernel
theorem dX8_setFrom_112 : decode cX8_setFrom 112 = .ok (.goto 42, 3) := by decide +kernel
theorem dX8_setFrom_115 : decode cX8_setFrom 115 = .ok (.aload 4, 2) := by decide +kernel
theorem dX8_setFrom_117 : decode cX8_setFrom 117 = .ok (.iload_n 2, 1) := by decide +kernel
theorem dX8_setFrom_118 : decode cX8_setFrom 118 = .ok (.invokevirtual 51, 3) := by decide +kernel
theorem dX8_setFrom_121 : decode cX8_setFrom 121 = .ok (.ifCond .eq 26, 3) := by decide +kernel
theorem dX8_setFrom_124 : decode cX8_setFrom 124 = .ok (.aload 4, 2) := by decide +kernel
theorem dX8_setFrom_126 : decode cX8_setFrom 126 = .ok (.iconst 1, 1) := by decide +kernel
theorem dX8_setFrom_127 : decode cX8_setFrom 127 = .ok (.iload_n 2, 1) := by decide +kernel
theorem dX8_setFrom_128 : decode cX8_setFrom 128 = .ok (.invokevirtual 67, 3) := by decide +kernel
theorem dX8_setFrom_131 : decode cX8_setFrom 131 = .ok (.ifCond .eq 13, 3) := by decide +kernel
theorem dX8_setFrom_134 : decode cX8_setFrom 134 = .ok (.aload_n 0, 1) := by decide +kernel
theorem dX8_setFrom_135 : decode cX8_setFrom 135 = .ok (.aload_n 1, 1) := by decide +kernel
theorem dX8_setFrom_136 : decode cX8_setFrom 136 = .ok (.iload_n 2, 1) := by decide +kernel
theorem dX8_setFrom_137 : decode cX8_setFrom 137 = .ok (.iload_n 3, 1) := by decide +kernel
theorem dX8_setFrom_138 : decode cX8_setFrom 138 = .ok (.invokevirtual 70, 3) := by decide +kernel
theorem dX8_setFrom_141 : decode cX8_setFrom 141 = .ok (.goto 5, 3) := by decide +kernel
theorem dX8_setFrom_144 : decode cX8_setFrom 144 = .ok (.bipush 110, 2) := by decide +kernel
theorem dX8_setFrom_146 : decode cX8_setFrom 146 = .ok (.ireturn, 1) := by decide +kernel
theorem dX8_setFrom_147 : decode cX8_setFrom 147 = .ok (.aload 4, 2) := by decide +kernel
theorem dX8_setFrom_149 : decode cX8_setFrom 149 = .ok (.getfield 57, 3) := by decide +kernel
theorem dX8_setFrom_152 : decode cX8_setFrom 152 = .ok (.astore 4, 2) := by decide +kernel
theorem dX8_setFrom_154 : decode cX8_setFrom 154 = .ok (.iinc 5 1, 3) := by decide +kernel
theorem dX8_setFrom_157 : decode cX8_setFrom 157 = .ok (.goto (-151), 3) := by decide +kernel
theorem dX8_setFrom_160 : decode cX8_setFrom 160 = .ok (.aload 4, 2) := by decide +kernel
theorem dX8_setFrom_162 : decode cX8_setFrom 162 = .ok (.ifnonnull 13, 3) := by decide +kernel
theorem dX8_setFrom_165 : decode cX8_setFrom 165 = .ok (.aload_n 0, 1) := by decide +kernel
theorem dX8_setFrom_166 : decode cX8_setFrom 166 = .ok (.aload_n 1, 1) := by decide +kernel
theorem dX8_setFrom_167 : decode cX8_setFrom 167 = .ok (.iload_n 2, 1) := by decide +kernel
theorem dX8_setFrom_168 : decode cX8_setFrom 168 = .ok (.iload_n 3, 1) := by decide +kernel
theorem dX8_setFrom_169 : decode cX8_setFrom 169 = .ok (.invokevirtual 70, 3) := by decide +kernel
theorem dX8_setFrom_172 : decode cX8_setFrom 172 = .ok (.goto 5, 3) := by decide +kernel
theorem dX8_setFrom_175 : decode cX8_setFrom 175 = .ok (.bipush 84, 2) := by decide +kernel
theorem dX8_setFrom_177 : decode cX8_setFrom 177 = .ok (.ireturn, 1) := by decide +kernel
set_option maxRecDepth 20000 in
theorem ggX8_receive_X8_plainBehind : GoodIn wsX8_receive wsX8_plainBehind := goodIn_r _ [5, 6, 7, 8, 9, 10, 11, 12, 13, 44, 45, 46, 47, 48, 49, 50, 51, 52] (by decide +kernel) (by decide +kernel)
set_option maxRecDepth 20000 in
theorem gX8_receive_X8_plainBehind : GoodIn wsX8_receive (wsV RX8 43 RX8 yX8_plainBehind wsX8_plainBehind) := goodIn_app (goodIn_of _ (by decide +kernel)) ggX8_receive_X8_plainBehind
set_option maxRecDepth 20000 in
theorem ggX8_receive_X7_holds : GoodIn wsX8_receive wsX7_holds := goodIn_ca (goodIn_r _ [17, 18, 44, 45, 46, 47, 48, 49, 50, 51, 52] (by decide +kernel) (by decide +kernel)) (goodIn_sub (fun _ h => List.mem_cons_of_mem _ (List.mem_append_right _ h)) (by decide +kernel))
set_option maxRecDepth 20000 in
theorem gX8_receive_X7_holds : GoodIn wsX8_receive (wsV RX8 51 RX7 yX7_holds wsX7_holds) := goodIn_app (goodIn_of _ (by decide +kernel)) ggX8_receive_X7_holds
set_option maxRecDepth 20000 in
theorem ggX8_receive_X7_putIn : GoodIn wsX8_receive wsX7_putIn := goodIn_ca (goodIn_r _ [22, 23, 18, 24, 25, 15, 16, 11, 17, 26, 27, 28, 29, 30, 31, 32, 33, 34, 35, 36, 37, 38, 44, 45, 46, 47, 48, 49, 50, 51, 52] (by decide +kernel) (by decide +kernel)) (goodIn_sub (fun _ h => List.mem_cons_of_mem _ (List.mem_append_right _ h)) (by decide +kernel))
set_option maxRecDepth 20000 in
theorem gX8_receive_X7_putIn : GoodIn wsX8_receive (wsV RX8 74 RX7 yX7_putIn wsX7_putIn) := goodIn_app (goodIn_of _ (by decide +kernel)) ggX8_receive_X7_putIn
set_option maxRecDepth 20000 in
theorem ggX8_receive_X7_canBe : GoodIn wsX8_receive wsX7_canBe := goodIn_ca (goodIn_r _ [35, 18, 44, 45, 46, 47, 48, 49, 50, 51, 52] (by decide +kernel) (by decide +kernel)) (goodIn_sub (fun _ h => List.mem_cons_of_mem _ (List.mem_append_right _ h)) (by decide +kernel))
set_option maxRecDepth 20000 in
theorem gX8_receive_X7_canBe : GoodIn wsX8_receive (wsV RX8 67 RX7 yX7_canBe wsX7_canBe) := goodIn_app (goodIn_of _ (by decide +kernel)) ggX8_receive_X7_canBe
set_option maxRecDepth 20000 in
theorem ggX8_receive_X7_rightsOf : GoodIn wsX8_receive wsX7_rightsOf := goodIn_ca (goodIn_r _ [43, 18, 44, 45, 46, 47, 48, 49, 50, 51, 52] (by decide +kernel) (by decide +kernel)) (goodIn_sub (fun _ h => List.mem_cons_of_mem _ (List.mem_append_right _ h)) (by decide +kernel))
set_option maxRecDepth 20000 in
theorem gX8_receive_X7_rightsOf : GoodIn wsX8_receive (wsV RX8 78 RX7 yX7_rightsOf wsX7_rightsOf) := goodIn_app (goodIn_of _ (by decide +kernel)) ggX8_receive_X7_rightsOf
theorem dX8_receive_0 : decode cX8_receive 0 = .ok (.aload_n 0, 1) := by decide +kernel
theorem dX8_receive_1 : decode cX8_receive 1 = .ok (.aload_n 1, 1) := by decide +kernel
theorem dX8_receive_2 : decode cX8_receive 2 = .ok (.invokevirtual 43, 3) := by decide +kernel
theorem dX8_receive_5 : decode cX8_receive 5 = .ok (.astore 4, 2) := by decide +kernel
theorem dX8_receive_7 : decode cX8_receive 7 = .ok (.aload 4, 2) := by decide +kernel
theorem dX8_receive_9 : decode cX8_receive 9 = .ok (.ifnonnull 6, 3) := by decide +kernel
theorem dX8_receive_12 : decode cX8_receive 12 = .ok (.bipush 84, 2) := by decide +kernel
theorem dX8_receive_14 : decode cX8_receive 14 = .ok (.ireturn, 1) := by decide +kernel
theorem dX8_receive_15 : decode cX8_receive 15 = .ok (.aload 4, 2) := by decide +kernel
theorem dX8_receive_17 : decode cX8_receive 17 = .ok (.iload_n 2, 1) := by decide +kernel
theorem dX8_receive_18 : decode cX8_receive 18 = .ok (.invokevirtual 51, 3) := by decide +kernel
theorem dX8_receive_21 : decode cX8_receive 21 = .ok (.ifCond .ne 13, 3) := by decide +kernel
theorem dX8_receive_24 : decode cX8_receive 24 = .ok (.aload 4, 2) := by decide +kernel
theorem dX8_receive_26 : decode cX8_receive 26 = .ok (.iload_n 2, 1) := by decide +kernel
theorem dX8_receive_27 : decode cX8_receive 27 = .ok (.iload_n 3, 1) := by decide +kernel
theorem dX8_receive_28 : decode cX8_receive 28 = .ok (.bipush 7, 2) := by decide +kernel
theorem dX8_receive_30 : decode cX8_receive 30 = .ok (.invokevirtual 74, 3) := by decide +kernel
theorem dX8_receive_33 : decode cX8_receive 33 = .ok (.ireturn, 1) := by decide +kernel
theorem dX8_receive_34 : decode cX8_receive 34 = .ok (.aload 4, 2) := by decide +kernel
theorem dX8_receive_36 : decode cX8_receive 36 = .ok (.iconst 1, 1) := by decide +kernel
theorem dX8_receive_37 : decode cX8_receive 37 = .ok (.iload_n 2, 1) := by decide +kernel
theorem dX8_receive_38 : decode cX8_receive 38 = .ok (.invokevirtual 67, 3) := by decide +kernel
theorem dX8_receive_41 : decode cX8_receive 41 = .ok (.ifCond .eq 19, 3) := by decide +kernel
theorem dX8_receive_44 : decode cX8_receive 44 = .ok (.aload 4, 2) := by decide +kernel
theorem dX8_receive_46 : decode cX8_receive 46 = .ok (.iload_n 2, 1) := by decide +kernel
theorem dX8_receive_47 : decode cX8_receive 47 = .ok (.iload_n 3, 1) := by decide +kernel
theorem dX8_receive_48 : decode cX8_receive 48 = .ok (.aload 4, 2) := by decide +kernel
theorem dX8_receive_50 : decode cX8_receive 50 = .ok (.iload_n 2, 1) := by decide +kernel
theorem dX8_receive_51 : decode cX8_receive 51 = .ok (.invokevirtual 78, 3) := by decide +kernel
theorem dX8_receive_54 : decode cX8_receive 54 = .ok (.invokevirtual 74, 3) := by decide +kernel
theorem dX8_receive_57 : decode cX8_receive 57 = .ok (.goto 5, 3) := by decide +kernel
theorem dX8_receive_60 : decode cX8_receive 60 = .ok (.bipush 110, 2) := by decide +kernel
theorem dX8_receive_62 : decode cX8_receive 62 = .ok (.ireturn, 1) := by decide +kernel
set_option maxRecDepth 20000 in
theorem ggX8_deleteFrom_X7_isProxy : GoodIn wsX8_deleteFrom wsX7_isProxy := goodIn_r _ [7, 8, 48, 49, 50, 51, 52, 53, 54, 55, 56] (by decide +kernel) (by decide +kernel)
set_option maxRecDepth 20000 in
theorem gX8_deleteFrom_X7_isProxy : GoodIn wsX8_deleteFrom (wsV RX8 21 RX7 yX7_isProxy wsX7_isProxy) := goodIn_app (goodIn_of _ (by decide +kernel)) ggX8_deleteFrom_X7_isProxy
set_option maxRecDepth 20000 in
theorem ggX8_deleteFrom_X7_takeOut : GoodIn wsX8_deleteFrom wsX7_takeOut := goodIn_ca (goodIn_r _ [12, 13, 14, 15, 16, 17, 18, 6, 19, 20, 21, 22, 23, 48, 49, 50, 51, 52, 53, 54, 55, 56] (by decide +kernel) (by decide +kernel)) (goodIn_sub (fun _ h => List.mem_cons_of_mem _ (List.mem_append_right _ h)) (by decide +kernel))
set_option maxRecDepth 20000 in
theorem gX8_deleteFrom_X7_takeOut : GoodIn wsX8_deleteFrom (wsV RX8 81 RX7 yX7_takeOut wsX7_takeOut) := goodIn_app (goodIn_of _ (by decide +kernel)) ggX8_deleteFrom_X7_takeOut
set_option maxRecDepth 20000 in
theorem ggX8_deleteFrom_X7_isTold : GoodIn wsX8_deleteFrom wsX7_isTold := goodIn_ca (goodIn_r _ [27, 28, 29, 30, 31, 6, 32, 33, 48, 49, 50, 51, 52, 53, 54, 55, 56] (by decide +kernel) (by decide +kernel)) (goodIn_sub (fun _ h => List.mem_cons_of_mem _ (List.mem_append_right _ h)) (by decide +kernel))
set_option maxRecDepth 20000 in
theorem gX8_deleteFrom_X7_isTold : GoodIn wsX8_deleteFrom (wsV RX8 35 RX7 yX7_isTold wsX7_isTold) := goodIn_app (goodIn_of _ (by decide +kernel)) ggX8_deleteFrom_X7_isTold
set_option maxRecDepth 20000 in
theorem ggX8_deleteFrom_X7_answerTo : GoodIn wsX8_deleteFrom wsX7_answerTo := goodIn_ca (goodIn_r _ [32, 28, 33, 48, 49, 50, 51, 52, 53, 54, 55, 56] (by decide +kernel) (by decide +kernel)) (goodIn_sub (fun _ h => List.mem_cons_of_mem _ (List.mem_append_right _ h)) (by decide +kernel))
set_option maxRecDepth 20000 in
theorem gX8_deleteFrom_X7_answerTo : GoodIn wsX8_deleteFrom (wsV RX8 39 RX7 yX7_answerTo wsX7_answerTo) := goodIn_app (goodIn_of _ (by decide +kernel)) ggX8_deleteFrom_X7_answerTo
set_option maxRecDepth 20000 in
theorem ggX8_deleteFrom_X8_plainBehind : GoodIn wsX8_deleteFrom wsX8_plainBehind := goodIn_r _ [39, 1, 2, 3, 4, 5, 6, 7, 8, 48, 49, 50, 51, 52, 53, 54, 55, 56] (by decide +kernel) (by decide +kernel)
set_option maxRecDepth 20000 in
theorem gX8_deleteFrom_X8_plainBehind : GoodIn wsX8_deleteFrom (wsV RX8 43 RX8 yX8_plainBehind wsX8_plainBehind) := goodIn_app (goodIn_of _ (by decide +kernel)) ggX8_deleteFrom_X8_plainBehind
set_option maxRecDepth 20000 in
theorem ggX8_deleteFrom_X7_keepsKey : GoodIn wsX8_deleteFrom wsX7_keepsKey := goodIn_ca (goodIn_r _ [43, 44, 16, 17, 18, 6, 19, 13, 20, 21, 22, 23, 48, 49, 50, 51, 52, 53, 54, 55, 56] (by decide +kernel) (by decide +kernel)) (goodIn_sub (fun _ h => List.mem_cons_of_mem _ (List.mem_append_right _ h)) (by decide +kernel))
set_option maxRecDepth 20000 in
theorem gX8_deleteFrom_X7_keepsKey : GoodIn wsX8_deleteFrom (wsV RX8 60 RX7 yX7_keepsKey wsX7_keepsKey) := goodIn_app (goodIn_of _ (by decide +kernel)) ggX8_deleteFrom_X7_keepsKey
set_option maxRecDepth 20000 in
theorem ggX8_deleteFrom_X8_yesOrNo : GoodIn wsX8_deleteFrom wsX8_yesOrNo := goodIn_r _ [47] (by decide +kernel) (by decide +kernel)
set_option maxRecDepth 20000 in
theorem gX8_deleteFrom_X8_yesOrNo : GoodIn wsX8_deleteFrom (va_wsS RX8 63 yX8_yesOrNo wsX8_yesOrNo) := goodIn_app (goodIn_of _ (by decide +kernel)) ggX8_deleteFrom_X8_yesOrNo
theorem dX8_deleteFrom_0 : decode cX8_deleteFrom 0 = .ok (.aload_n 1, 1) := by decide +kernel
theorem dX8_deleteFrom_1 : decode cX8_deleteFrom 1 = .ok (.astore_n 3, 1) := by decide +kernel
theorem dX8_deleteFrom_2 : decode cX8_deleteFrom 2 = .ok (.iconst 0, 1) := by decide +kernel
theorem dX8_deleteFrom_3 : decode cX8_deleteFrom 3 = .ok (.istore 4, 2) := by decide +kernel
theorem dX8_deleteFrom_5 : decode cX8_deleteFrom 5 = .ok (.iload 4, 2) := by decide +kernel
theorem dX8_deleteFrom_7 : decode cX8_deleteFrom 7 = .ok (.bipush 12, 2) := by decide +kernel
theorem dX8_deleteFrom_9 : decode cX8_deleteFrom 9 = .ok (.if_icmp .ge 105, 3) := by decide +kernel
theorem dX8_deleteFrom_12 : decode cX8_deleteFrom 12 = .ok (.aload_n 3, 1) := by decide +kernel
theorem dX8_deleteFrom_13 : decode cX8_deleteFrom 13 = .ok (.ifnull 101, 3) := by decide +kernel
theorem dX8_deleteFrom_16 : decode cX8_deleteFrom 16 = .ok (.aload_n 3, 1) := by decide +kernel
theorem dX8_deleteFrom_17 : decode cX8_deleteFrom 17 = .ok (.invokevirtual 21, 3) := by decide +kernel
theorem dX8_deleteFrom_20 : decode cX8_deleteFrom 20 = .ok (.ifCond .ne 9, 3) := by decide +kernel
theorem dX8_deleteFrom_23 : decode cX8_deleteFrom 23 = .ok (.aload_n 3, 1) := by decide +kernel
theorem dX8_deleteFrom_24 : decode cX8_deleteFrom 24 = .ok (.iload_n 2, 1) := by decide +kernel
theorem dX8_deleteFrom_25 : decode cX8_deleteFrom 25 = .ok (.invokevirtual 81, 3) := by decide +kernel
theorem dX8_deleteFrom_28 : decode cX8_deleteFrom 28 = .ok (.ireturn, 1) := by decide +kernel
theorem dX8_deleteFrom_29 : decode cX8_deleteFrom 29 = .ok (.aload_n 3, 1) := by decide +kernel
theorem dX8_deleteFrom_30 : decode cX8_deleteFrom 30 = .ok (.getfield 25, 3) := by decide +kernel
theorem dX8_deleteFrom_33 : decode cX8_deleteFrom 33 = .ok (.ifCond .eq 6, 3) := by decide +kernel
theorem dX8_deleteFrom_36 : decode cX8_deleteFrom 36 = .ok (.bipush 84, 2) := by decide +kernel
theorem dX8_deleteFrom_38 : decode cX8_deleteFrom 38 = .ok (.ireturn, 1) := by decide +kernel
theorem dX8_deleteFrom_39 : decode cX8_deleteFrom 39 = .ok (.aload_n 3, 1) := by decide +kernel
theorem dX8_deleteFrom_40 : decode cX8_deleteFrom 40 = .ok (.iconst 3, 1) := by decide +kernel
theorem dX8_deleteFrom_41 : decode cX8_deleteFrom 41 = .ok (.invokevirtual 35, 3) := by decide +kernel
theorem dX8_deleteFrom_44 : decode cX8_deleteFrom 44 = .ok (.ifCond .eq 59, 3) := by decide +kernel
theorem dX8_deleteFrom_47 : decode cX8_deleteFrom 47 = .ok (.aload_n 3, 1) := by decide +kernel
theorem dX8_deleteFrom_48 : decode cX8_deleteFrom 48 = .ok (.iconst 3, 1) := by decide +kernel
theorem dX8_deleteFrom_49 : decode cX8_deleteFrom 49 = .ok (.invokevirtual 39, 3) := by decide +kernel
theorem dX8_deleteFrom_52 : decode cX8_deleteFrom 52 = .ok (.iconst 1, 1) := by decide +kernel
theorem dX8_deleteFrom_53 : decode cX8_deleteFrom 53 = .ok (.if_icmp .ne 7, 3) := by decide +kernel
theorem dX8_deleteFrom_56 : decode cX8_deleteFrom 56 = .ok (.iconst 1, 1) := by decide +kernel
theorem dX8_deleteFrom_57 : decode cX8_deleteFrom 57 = .ok (.goto 4, 3) := by decide +kernel
theorem dX8_deleteFrom_60 : decode cX8_deleteFrom 60 = .ok (.iconst 0, 1) := by decide +kernel
theorem dX8_deleteFrom_61 : decode cX8_deleteFrom 61 = .ok (.istore 5, 2) := by decide +kernel
theorem dX8_deleteFrom_63 : decode cX8_deleteFrom 63 = .ok (.aload_n 0, 1) := by decide +kernel
theorem dX8_deleteFrom_64 : decode cX8_deleteFrom 64 = .ok (.aload_n 3, 1) := by decide +kernel
theorem dX8_deleteFrom_65 : decode cX8_deleteFrom 65 = .ok (.getfield 29, 3) := by decide +kernel
theorem dX8_deleteFrom_68 : decode cX8_deleteFrom 68 = .ok (.invokevirtual 43, 3) := by decide +kernel
theorem dX8_deleteFrom_71 : decode cX8_deleteFrom 71 = .ok (.astore 6, 2) := by decide +kernel
theorem dX8_deleteFrom_73 : decode cX8_deleteFrom 73 = .ok (.aload 6, 2) := by decide +kernel
theorem dX8_deleteFrom_75 : decode cX8_deleteFrom 75 = .ok (.ifnull 17, 3) := by decide +kernel
theorem dX8_deleteFrom_78 : decode cX8_deleteFrom 78 = .ok (.iload 5, 2) := by decide +kernel
theorem dX8_deleteFrom_80 : decode cX8_deleteFrom 80 = .ok (.ifCond .eq 17, 3) := by decide +kernel
theorem dX8_deleteFrom_83 : decode cX8_deleteFrom 83 = .ok (.aload 6, 2) := by decide +kernel
theorem dX8_deleteFrom_85 : decode cX8_deleteFrom 85 = .ok (.iload_n 2, 1) := by decide +kernel
theorem dX8_deleteFrom_86 : decode cX8_deleteFrom 86 = .ok (.invokevirtual 60, 3) := by decide +kernel
theorem dX8_deleteFrom_89 : decode cX8_deleteFrom 89 = .ok (.ifCond .eq 8, 3) := by decide +kernel
theorem dX8_deleteFrom_92 : decode cX8_deleteFrom 92 = .ok (.bipush 84, 2) := by decide +kernel
theorem dX8_deleteFrom_94 : decode cX8_deleteFrom 94 = .ok (.goto 8, 3) := by decide +kernel
theorem dX8_deleteFrom_97 : decode cX8_deleteFrom 97 = .ok (.iload 5, 2) := by decide +kernel
theorem dX8_deleteFrom_99 : decode cX8_deleteFrom 99 = .ok (.invokestatic 63, 3) := by decide +kernel
theorem dX8_deleteFrom_102 : decode cX8_deleteFrom 102 = .ok (.ireturn, 1) := by decide +kernel
theorem dX8_deleteFrom_103 : decode cX8_deleteFrom 103 = .ok (.aload_n 3, 1) := by decide +kernel
theorem dX8_deleteFrom_104 : decode cX8_deleteFrom 104 = .ok (.getfield 29, 3) := by decide +kernel
theorem dX8_deleteFrom_107 : decode cX8_deleteFrom 107 = .ok (.astore_n 3, 1) := by decide +kernel
theorem dX8_deleteFrom_108 : decode cX8_deleteFrom 108 = .ok (.iinc 4 1, 3) := by decide +kernel
theorem dX8_deleteFrom_111 : decode cX8_deleteFrom 111 = .ok (.goto (-106), 3) := by decide +kernel
theorem dX8_deleteFrom_114 : decode cX8_deleteFrom 114 = .ok (.bipush 84, 2) := by decide +kernel
theorem dX8_deleteFrom_116 : decode cX8_deleteFrom 116 = .ok (.ireturn, 1) := by decide +kernel
set_option maxRecDepth 20000 in
theorem ggX8_chainTo_X7_isProxy : GoodIn wsX8_chainTo wsX7_isProxy := goodIn_r _ [7, 8, 9, 10, 11, 12, 13, 14, 15, 16, 17] (by decide +kernel) (by decide +kernel)
set_option maxRecDepth 20000 in
theorem gX8_chainTo_X7_isProxy : GoodIn wsX8_chainTo (wsV RX8 21 RX7 yX7_isProxy wsX7_isProxy) := goodIn_app (goodIn_of _ (by decide +kernel)) ggX8_chainTo_X7_isProxy
theorem dX8_chainTo_0 : decode cX8_chainTo 0 = .ok (.aload_n 1, 1) := by decide +kernel
theorem dX8_chainTo_1 : decode cX8_chainTo 1 = .ok (.getfield 57, 3) := by decide +kernel
theorem dX8_chainTo_4 : decode cX8_chainTo 4 = .ok (.aload_n 2, 1) := by decide +kernel
theorem dX8_chainTo_5 : decode cX8_chainTo 5 = .ok (.if_acmp .ne 6, 3) := by decide +kernel
theorem dX8_chainTo_8 : decode cX8_chainTo 8 = .ok (.bipush 121, 2) := by decide +kernel
theorem dX8_chainTo_10 : decode cX8_chainTo 10 = .ok (.ireturn, 1) := by decide +kernel
theorem dX8_chainTo_11 : decode cX8_chainTo 11 = .ok (.aload_n 1, 1) := by decide +kernel
theorem dX8_chainTo_12 : decode cX8_chainTo 12 = .ok (.getfield 85, 3) := by decide +kernel
theorem dX8_chainTo_15 : decode cX8_chainTo 15 = .ok (.ifCond .eq 6, 3) := by decide +kernel
theorem dX8_chainTo_18 : decode cX8_chainTo 18 = .ok (.bipush 110, 2) := by decide +kernel
theorem dX8_chainTo_20 : decode cX8_chainTo 20 = .ok (.ireturn, 1) := by decide +kernel
theorem dX8_chainTo_21 : decode cX8_chainTo 21 = .ok (.aload_n 2, 1) := by decide +kernel
theorem dX8_chainTo_22 : decode cX8_chainTo 22 = .ok (.astore_n 3, 1) := by decide +kernel
theorem dX8_chainTo_23 : decode cX8_chainTo 23 = .ok (.iconst 0, 1) := by decide +kernel
theorem dX8_chainTo_24 : decode cX8_chainTo 24 = .ok (.istore 4, 2) := by decide +kernel
theorem dX8_chainTo_26 : decode cX8_chainTo 26 = .ok (.iload 4, 2) := by decide +kernel
theorem dX8_chainTo_28 : decode cX8_chainTo 28 = .ok (.bipush 12, 2) := by decide +kernel
theorem dX8_chainTo_30 : decode cX8_chainTo 30 = .ok (.if_icmp .gt 33, 3) := by decide +kernel
theorem dX8_chainTo_33 : decode cX8_chainTo 33 = .ok (.aload_n 3, 1) := by decide +kernel
theorem dX8_chainTo_34 : decode cX8_chainTo 34 = .ok (.ifnull 29, 3) := by decide +kernel
theorem dX8_chainTo_37 : decode cX8_chainTo 37 = .ok (.aload_n 3, 1) := by decide +kernel
theorem dX8_chainTo_38 : decode cX8_chainTo 38 = .ok (.invokevirtual 21, 3) := by decide +kernel
theorem dX8_chainTo_41 : decode cX8_chainTo 41 = .ok (.ifCond .ne 22, 3) := by decide +kernel
theorem dX8_chainTo_44 : decode cX8_chainTo 44 = .ok (.aload_n 3, 1) := by decide +kernel
theorem dX8_chainTo_45 : decode cX8_chainTo 45 = .ok (.aload_n 1, 1) := by decide +kernel
theorem dX8_chainTo_46 : decode cX8_chainTo 46 = .ok (.if_acmp .ne 6, 3) := by decide +kernel
theorem dX8_chainTo_49 : decode cX8_chainTo 49 = .ok (.bipush 110, 2) := by decide +kernel
theorem dX8_chainTo_51 : decode cX8_chainTo 51 = .ok (.ireturn, 1) := by decide +kernel
theorem dX8_chainTo_52 : decode cX8_chainTo 52 = .ok (.aload_n 3, 1) := by decide +kernel
theorem dX8_chainTo_53 : decode cX8_chainTo 53 = .ok (.getfield 57, 3) := by decide +kernel
theorem dX8_chainTo_56 : decode cX8_chainTo 56 = .ok (.astore_n 3, 1) := by decide +kernel
theorem dX8_chainTo_57 : decode cX8_chainTo 57 = .ok (.iinc 4 1, 3) := by decide +kernel
theorem dX8_chainTo_60 : decode cX8_chainTo 60 = .ok (.goto (-34), 3) := by decide +kernel
theorem dX8_chainTo_63 : decode cX8_chainTo 63 = .ok (.aload_n 1, 1) := by decide +kernel
theorem dX8_chainTo_64 : decode cX8_chainTo 64 = .ok (.aload_n 2, 1) := by decide +kernel
theorem dX8_chainTo_65 : decode cX8_chainTo 65 = .ok (.putfield 57, 3) := by decide +kernel
theorem dX8_chainTo_68 : decode cX8_chainTo 68 = .ok (.bipush 121, 2) := by decide +kernel
theorem dX8_chainTo_70 : decode cX8_chainTo 70 = .ok (.ireturn, 1) := by decide +kernel
theorem dX8_yesOrNo_0 : decode cX8_yesOrNo 0 = .ok (.iload_n 0, 1) := by decide +kernel
theorem dX8_yesOrNo_1 : decode cX8_yesOrNo 1 = .ok (.ifCond .eq 8, 3) := by decide +kernel
theorem dX8_yesOrNo_4 : decode cX8_yesOrNo 4 = .ok (.bipush 121, 2) := by decide +kernel
theorem dX8_yesOrNo_6 : decode cX8_yesOrNo 6 = .ok (.goto 5, 3) := by decide +kernel
theorem dX8_yesOrNo_9 : decode cX8_yesOrNo 9 = .ok (.bipush 110, 2) := by decide +kernel
theorem dX8_yesOrNo_11 : decode cX8_yesOrNo 11 = .ok (.ireturn, 1) := by decide +kernel
set_option maxRecDepth 20000 in
theorem ggX8_areListed_X8_find : GoodIn wsX8_areListed wsX8_find := goodIn_r _ [6, 1, 7, 33, 34] (by decide +kernel) (by decide +kernel)
set_option maxRecDepth 20000 in
theorem gX8_areListed_X8_find : GoodIn wsX8_areListed (wsV RX8 88 RX8 yX8_find wsX8_find) := goodIn_app (goodIn_of _ (by decide +kernel)) ggX8_areListed_X8_find
set_option maxRecDepth 20000 in
theorem ggX8_areListed_X7_isProxy : GoodIn wsX8_areListed wsX7_isProxy := goodIn_r _ [12, 13, 35, 36, 37, 38, 39, 40, 41, 42, 43] (by decide +kernel) (by decide +kernel)
set_option maxRecDepth 20000 in
theorem gX8_areListed_X7_isProxy : GoodIn wsX8_areListed (wsV RX8 21 RX7 yX7_isProxy wsX7_isProxy) := goodIn_app (goodIn_of _ (by decide +kernel)) ggX8_areListed_X7_isProxy
set_option maxRecDepth 20000 in
theorem ggX8_areListed_X7_isListed : GoodIn wsX8_areListed wsX7_isListed := goodIn_ca (goodIn_r _ [17, 18, 19, 20, 21, 11, 22, 23, 24, 25, 26, 27, 28, 29, 30, 31, 32, 35, 36, 37, 38, 39, 40, 41, 42, 43] (by decide +kernel) (by decide +kernel)) (goodIn_sub (fun _ h => List.mem_cons_of_mem _ (List.mem_append_right _ h)) (by decide +kernel))
set_option maxRecDepth 20000 in
theorem gX8_areListed_X7_isListed : GoodIn wsX8_areListed (wsV RX8 92 RX7 yX7_isListed wsX7_isListed) := goodIn_app (goodIn_of _ (by decide +kernel)) ggX8_areListed_X7_isListed
theorem dX8_areListed_0 : decode cX8_areListed 0 = .ok (.iconst 0, 1) := by decide +kernel
theorem dX8_areListed_1 : decode cX8_areListed 1 = .ok (.istore_n 1, 1) := by decide +kernel
theorem dX8_areListed_2 : decode cX8_areListed 2 = .ok (.iload_n 1, 1) := by decide +kernel
theorem dX8_areListed_3 : decode cX8_areListed 3 = .ok (.aload_n 0, 1) := by decide +kernel
theorem dX8_areListed_4 : decode cX8_areListed 4 = .ok (.getfield 17, 3) := by decide +kernel
theorem dX8_areListed_7 : decode cX8_areListed 7 = .ok (.if_icmp .ge 35, 3) := by decide +kernel
theorem dX8_areListed_10 : decode cX8_areListed 10 = .ok (.aload_n 0, 1) := by decide +kernel
theorem dX8_areListed_11 : decode cX8_areListed 11 = .ok (.iload_n 1, 1) := by decide +kernel
theorem dX8_areListed_12 : decode cX8_areListed 12 = .ok (.invokevirtual 88, 3) := by decide +kernel
theorem dX8_areListed_15 : decode cX8_areListed 15 = .ok (.astore_n 2, 1) := by decide +kernel
theorem dX8_areListed_16 : decode cX8_areListed 16 = .ok (.aload_n 2, 1) := by decide +kernel
theorem dX8_areListed_17 : decode cX8_areListed 17 = .ok (.ifnull 19, 3) := by decide +kernel
theorem dX8_areListed_20 : decode cX8_areListed 20 = .ok (.aload_n 2, 1) := by decide +kernel
theorem dX8_areListed_21 : decode cX8_areListed 21 = .ok (.invokevirtual 21, 3) := by decide +kernel
theorem dX8_areListed_24 : decode cX8_areListed 24 = .ok (.ifCond .ne 12, 3) := by decide +kernel
theorem dX8_areListed_27 : decode cX8_areListed 27 = .ok (.aload_n 2, 1) := by decide +kernel
theorem dX8_areListed_28 : decode cX8_areListed 28 = .ok (.invokevirtual 92, 3) := by decide +kernel
theorem dX8_areListed_31 : decode cX8_areListed 31 = .ok (.ifCond .ne 5, 3) := by decide +kernel
theorem dX8_areListed_34 : decode cX8_areListed 34 = .ok (.iconst 0, 1) := by decide +kernel
theorem dX8_areListed_35 : decode cX8_areListed 35 = .ok (.ireturn, 1) := by decide +kernel
theorem dX8_areListed_36 : decode cX8_areListed 36 = .ok (.iinc 1 1, 3) := by decide +kernel
theorem dX8_areListed_39 : decode cX8_areListed 39 = .ok (.goto (-37), 3) := by decide +kernel
theorem dX8_areListed_42 : decode cX8_areListed 42 = .ok (.iconst 1, 1) := by decide +kernel
theorem dX8_areListed_43 : decode cX8_areListed 43 = .ok (.ireturn, 1) := by decide +kernel
theorem dX10_init_0 : decode cX10_init 0 = .ok (.aload_n 0, 1) := by decide +kernel
theorem dX10_init_1 : decode cX10_init 1 = .ok (.invokespecial 3, 3) := by decide +kernel
theorem dX10_init_4 : decode cX10_init 4 = .ok (.aload_n 0, 1) := by decide +kernel
theorem dX10_init_5 : decode cX10_init 5 = .ok (.iconst 4, 1) := by decide +kernel
theorem dX10_init_6 : decode cX10_init 6 = .ok (.anewarray 9, 3) := by decide +kernel
theorem dX10_init_9 : decode cX10_init 9 = .ok (.putfield 11, 3) := by decide +kernel
theorem dX10_init_12 : decode cX10_init 12 = .ok (.return_, 1) := by decide +kernel
set_option maxRecDepth 20000 in
theorem ggX11_init_X8_init : GoodIn wsX11_init wsX8_init := goodIn_r _ [21, 22, 2, 3, 23, 24, 58, 59] (by decide +kernel) (by decide +kernel)
set_option maxRecDepth 20000 in
theorem gX11_init_X8_init_n9 : GoodIn wsX11_init (wsX8_init) := ggX11_init_X8_init
set_option maxRecDepth 20000 in
theorem ggX11_init_X2_init : GoodIn wsX11_init wsX2_init := goodIn_r _ [26, 27, 2, 3] (by decide +kernel) (by decide +kernel)
set_option maxRecDepth 20000 in
theorem gX11_init_X2_init_n18 : GoodIn wsX11_init (wsX2_init) := ggX11_init_X2_init
set_option maxRecDepth 20000 in
theorem ggX11_init_X5_init : GoodIn wsX11_init wsX5_init := goodIn_r _ [30, 31, 2, 3, 32, 33, 34, 35, 36, 67, 68, 69, 70, 71, 72, 73, 74] (by decide +kernel) (by decide +kernel)
set_option maxRecDepth 20000 in
theorem gX11_init_X5_init : GoodIn wsX11_init (wsX5_init) := ggX11_init_X5_init
set_option maxRecDepth 20000 in
theorem ggX11_init_X3_init : GoodIn wsX11_init wsX3_init := goodIn_r _ [39, 40, 2, 3, 41, 42, 43, 44, 45, 46, 34, 47, 48, 49, 50, 51, 52, 53, 54, 55, 56, 57, 94, 95, 96, 75, 76, 77, 78, 79, 80, 81, 82, 83, 84, 85, 86, 87, 88, 89, 90, 91, 92, 93] (by decide +kernel) (by decide +kernel)
set_option maxRecDepth 20000 in
theorem gX11_init_X3_init : GoodIn wsX11_init (wsX3_init) := ggX11_init_X3_init
theorem dX11_init_0 : decode cX11_init 0 = .ok (.aload_n 0, 1) := by decide +kernel
theorem dX11_init_1 : decode cX11_init 1 = .ok (.invokespecial 1, 3) := by decide +kernel
theorem dX11_init_4 : decode cX11_init 4 = .ok (.aload_n 0, 1) := by decide +kernel
theorem dX11_init_5 : decode cX11_init 5 = .ok (.new 7, 3) := by decide +kernel
theorem dX11_init_8 : decode cX11_init 8 = .ok (.dup, 1) := by decide +kernel
theorem dX11_init_9 : decode cX11_init 9 = .ok (.invokespecial 9, 3) := by decide +kernel
theorem dX11_init_12 : decode cX11_init 12 = .ok (.putfield 10, 3) := by decide +kernel
theorem dX11_init_15 : decode cX11_init 15 = .ok (.aload_n 0, 1) := by decide +kernel
theorem dX11_init_16 : decode cX11_init 16 = .ok (.new 16, 3) := by decide +kernel
theorem dX11_init_19 : decode cX11_init 19 = .ok (.dup, 1) := by decide +kernel
theorem dX11_init_20 : decode cX11_init 20 = .ok (.invokespecial 18, 3) := by decide +kernel
theorem dX11_init_23 : decode cX11_init 23 = .ok (.putfield 19, 3) := by decide +kernel
theorem dX11_init_26 : decode cX11_init 26 = .ok (.aload_n 0, 1) := by decide +kernel
theorem dX11_init_27 : decode cX11_init 27 = .ok (.new 23, 3) := by decide +kernel
theorem dX11_init_30 : decode cX11_init 30 = .ok (.dup, 1) := by decide +kernel
theorem dX11_init_31 : decode cX11_init 31 = .ok (.aload_n 0, 1) := by decide +kernel
theorem dX11_init_32 : decode cX11_init 32 = .ok (.getfield 19, 3) := by decide +kernel
theorem dX11_init_35 : decode cX11_init 35 = .ok (.invokespecial 25, 3) := by decide +kernel
theorem dX11_init_38 : decode cX11_init 38 = .ok (.putfield 28, 3) := by decide +kernel
theorem dX11_init_41 : decode cX11_init 41 = .ok (.aload_n 0, 1) := by decide +kernel
theorem dX11_init_42 : decode cX11_init 42 = .ok (.new 32, 3) := by decide +kernel
theorem dX11_init_45 : decode cX11_init 45 = .ok (.dup, 1) := by decide +kernel
theorem dX11_init_46 : decode cX11_init 46 = .ok (.aload_n 0, 1) := by decide +kernel
theorem dX11_init_47 : decode cX11_init 47 = .ok (.getfield 10, 3) := by decide +kernel
theorem dX11_init_50 : decode cX11_init 50 = .ok (.aload_n 0, 1) := by decide +kernel
theorem dX11_init_51 : decode cX11_init 51 = .ok (.getfield 19, 3) := by decide +kernel
theorem dX11_init_54 : decode cX11_init 54 = .ok (.aload_n 0, 1) := by decide +kernel
theorem dX11_init_55 : decode cX11_init 55 = .ok (.getfield 28, 3) := by decide +kernel
theorem dX11_init_58 : decode cX11_init 58 = .ok (.invokespecial 34, 3) := by decide +kernel
theorem dX11_init_61 : decode cX11_init 61 = .ok (.putfield 37, 3) := by decide +kernel
theorem dX11_init_64 : decode cX11_init 64 = .ok (.return_, 1) := by decide +kernel
set_option maxRecDepth 20000 in
theorem ggX11_addObject_X8_find : GoodIn wsX11_addObject wsX8_find := goodIn_r _ [13, 14, 15, 55, 56] (by decide +kernel) (by decide +kernel)
set_option maxRecDepth 20000 in
theorem gX11_addObject_X8_find : GoodIn wsX11_addObject (wsV RX11 41 RX8 yX8_find wsX8_find) := goodIn_app (goodIn_of _ (by decide +kernel)) ggX11_addObject_X8_find
set_option maxRecDepth 20000 in
theorem ggX11_addObject_X8_isFull : GoodIn wsX11_addObject wsX8_isFull := goodIn_r _ [19, 14, 55, 56] (by decide +kernel) (by decide +kernel)
set_option maxRecDepth 20000 in
theorem gX11_addObject_X8_isFull : GoodIn wsX11_addObject (wsV RX11 52 RX8 yX8_isFull wsX8_isFull) := goodIn_app (goodIn_of _ (by decide +kernel)) ggX11_addObject_X8_isFull
set_option maxRecDepth 20000 in
theorem ggX11_addObject_X7_init : GoodIn wsX11_addObject wsX7_init := goodIn_r _ [22, 23, 24, 25, 26, 27, 28, 29, 30, 31, 32, 33, 34, 35, 36, 37, 46, 47, 48, 49, 50, 51, 52, 53, 54] (by decide +kernel) (by decide +kernel)
set_option maxRecDepth 20000 in
theorem gX11_addObject_X7_init : GoodIn wsX11_addObject (wsX7_init) := ggX11_addObject_X7_init
set_option maxRecDepth 20000 in
theorem ggX11_addObject_X8_append : GoodIn wsX11_addObject wsX8_append := goodIn_r _ [41, 14, 15, 55, 56] (by decide +kernel) (by decide +kernel)
set_option maxRecDepth 20000 in
theorem gX11_addObject_X8_append : GoodIn wsX11_addObject (wsV RX11 66 RX8 yX8_append wsX8_append) := goodIn_app (goodIn_of _ (by decide +kernel)) ggX11_addObject_X8_append
theorem dX11_addObject_0 : decode cX11_addObject 0 = .ok (.iload_n 1, 1) := by decide +kernel
theorem dX11_addObject_1 : decode cX11_addObject 1 = .ok (.iconst (-1), 1) := by decide +kernel
theorem dX11_addObject_2 : decode cX11_addObject 2 = .ok (.if_icmp .eq 24, 3) := by decide +kernel
theorem dX11_addObject_5 : decode cX11_addObject 5 = .ok (.aload_n 0, 1) := by decide +kernel
theorem dX11_addObject_6 : decode cX11_addObject 6 = .ok (.getfield 10, 3) := by decide +kernel
theorem dX11_addObject_9 : decode cX11_addObject 9 = .ok (.iload_n 1, 1) := by decide +kernel
theorem dX11_addObject_10 : decode cX11_addObject 10 = .ok (.invokevirtual 41, 3) := by decide +kernel
theorem dX11_addObject_13 : decode cX11_addObject 13 = .ok (.ifnonnull 13, 3) := by decide +kernel
theorem dX11_addObject_16 : decode cX11_addObject 16 = .ok (.new 45, 3) := by decide +kernel
theorem dX11_addObject_19 : decode cX11_addObject 19 = .ok (.dup, 1) := by decide +kernel
theorem dX11_addObject_20 : decode cX11_addObject 20 = .ok (.ldc 47, 2) := by decide +kernel
theorem dX11_addObject_22 : decode cX11_addObject 22 = .ok (.invokespecial 49, 3) := by decide +kernel
theorem dX11_addObject_25 : decode cX11_addObject 25 = .ok (.athrow, 1) := by decide +kernel
theorem dX11_addObject_26 : decode cX11_addObject 26 = .ok (.aload_n 0, 1) := by decide +kernel
theorem dX11_addObject_27 : decode cX11_addObject 27 = .ok (.getfield 10, 3) := by decide +kernel
theorem dX11_addObject_30 : decode cX11_addObject 30 = .ok (.invokevirtual 52, 3) := by decide +kernel
theorem dX11_addObject_33 : decode cX11_addObject 33 = .ok (.ifCond .eq 13, 3) := by decide +kernel
theorem dX11_addObject_36 : decode cX11_addObject 36 = .ok (.new 56, 3) := by decide +kernel
theorem dX11_addObject_39 : decode cX11_addObject 39 = .ok (.dup, 1) := by decide +kernel
theorem dX11_addObject_40 : decode cX11_addObject 40 = .ok (.ldc 58, 2) := by decide +kernel
theorem dX11_addObject_42 : decode cX11_addObject 42 = .ok (.invokespecial 60, 3) := by decide +kernel
theorem dX11_addObject_45 : decode cX11_addObject 45 = .ok (.athrow, 1) := by decide +kernel
theorem dX11_addObject_46 : decode cX11_addObject 46 = .ok (.aload_n 0, 1) := by decide +kernel
theorem dX11_addObject_47 : decode cX11_addObject 47 = .ok (.getfield 10, 3) := by decide +kernel
theorem dX11_addObject_50 : decode cX11_addObject 50 = .ok (.new 61, 3) := by decide +kernel
theorem dX11_addObject_53 : decode cX11_addObject 53 = .ok (.dup, 1) := by decide +kernel
theorem dX11_addObject_54 : decode cX11_addObject 54 = .ok (.aconst_null, 1) := by decide +kernel
theorem dX11_addObject_55 : decode cX11_addObject 55 = .ok (.aload_n 0, 1) := by decide +kernel
theorem dX11_addObject_56 : decode cX11_addObject 56 = .ok (.getfield 10, 3) := by decide +kernel
theorem dX11_addObject_59 : decode cX11_addObject 59 = .ok (.iload_n 1, 1) := by decide +kernel
theorem dX11_addObject_60 : decode cX11_addObject 60 = .ok (.invokevirtual 41, 3) := by decide +kernel
theorem dX11_addObject_63 : decode cX11_addObject 63 = .ok (.invokespecial 63, 3) := by decide +kernel
theorem dX11_addObject_66 : decode cX11_addObject 66 = .ok (.invokevirtual 66, 3) := by decide +kernel
theorem dX11_addObject_69 : decode cX11_addObject 69 = .ok (.ireturn, 1) := by decide +kernel
set_option maxRecDepth 20000 in
theorem ggX11_addProxy_X8_find : GoodIn wsX11_addProxy wsX8_find := goodIn_r _ [13, 14, 15, 55, 56] (by decide +kernel) (by decide +kernel)
set_option maxRecDepth 20000 in
theorem gX11_addProxy_X8_find : GoodIn wsX11_addProxy (wsV RX11 41 RX8 yX8_find wsX8_find) := goodIn_app (goodIn_of _ (by decide +kernel)) ggX11_addProxy_X8_find
set_option maxRecDepth 20000 in
theorem ggX11_addProxy_X8_isFull : GoodIn wsX11_addProxy wsX8_isFull := goodIn_r _ [19, 14, 55, 56] (by decide +kernel) (by decide +kernel)
set_option maxRecDepth 20000 in
theorem gX11_addProxy_X8_isFull : GoodIn wsX11_addProxy (wsV RX11 52 RX8 yX8_isFull wsX8_isFull) := goodIn_app (goodIn_of _ (by decide +kernel)) ggX11_addProxy_X8_isFull
set_option maxRecDepth 20000 in
theorem ggX11_addProxy_X7_init : GoodIn wsX11_addProxy wsX7_init := goodIn_r _ [22, 23, 24, 25, 26, 27, 28, 29, 30, 31, 32, 33, 34, 35, 36, 37, 46, 47, 48, 49, 50, 51, 52, 53, 54] (by decide +kernel) (by decide +kernel)
set_option maxRecDepth 20000 in
theorem gX11_addProxy_X7_init : GoodIn wsX11_addProxy (wsX7_init) := ggX11_addProxy_X7_init
set_option maxRecDepth 20000 in
theorem ggX11_addProxy_X8_append : GoodIn wsX11_addProxy wsX8_append := goodIn_r _ [41, 14, 15, 55, 56] (by decide +kernel) (by decide +kernel)
set_option maxRecDepth 20000 in
theorem gX11_addProxy_X8_append : GoodIn wsX11_addProxy (wsV RX11 66 RX8 yX8_append wsX8_append) := goodIn_app (goodIn_of _ (by decide +kernel)) ggX11_addProxy_X8_append
theorem dX11_addProxy_0 : decode cX11_addProxy 0 = .ok (.aload_n 0, 1) := by decide +kernel
theorem dX11_addProxy_1 : decode cX11_addProxy 1 = .ok (.getfield 10, 3) := by decide +kernel
theorem dX11_addProxy_4 : decode cX11_addProxy 4 = .ok (.iload_n 1, 1) := by decide +kernel
theorem dX11_addProxy_5 : decode cX11_addProxy 5 = .ok (.invokevirtual 41, 3) := by decide +kernel
theorem dX11_addProxy_8 : decode cX11_addProxy 8 = .ok (.astore_n 2, 1) := by decide +kernel
theorem dX11_addProxy_9 : decode cX11_addProxy 9 = .ok (.aload_n 2, 1) := by decide +kernel
theorem dX11_addProxy_10 : decode cX11_addProxy 10 = .ok (.ifnonnull 13, 3) := by decide +kernel
theorem dX11_addProxy_13 : decode cX11_addProxy 13 = .ok (.new 45, 3) := by decide +kernel
theorem dX11_addProxy_16 : decode cX11_addProxy 16 = .ok (.dup, 1) := by decide +kernel
theorem dX11_addProxy_17 : decode cX11_addProxy 17 = .ok (.ldc 47, 2) := by decide +kernel
theorem dX11_addProxy_19 : decode cX11_addProxy 19 = .ok (.invokespecial 49, 3) := by decide +kernel
theorem dX11_addProxy_22 : decode cX11_addProxy 22 = .ok (.athrow, 1) := by decide +kernel
theorem dX11_addProxy_23 : decode cX11_addProxy 23 = .ok (.aload_n 0, 1) := by decide +kernel
theorem dX11_addProxy_24 : decode cX11_addProxy 24 = .ok (.getfield 10, 3) := by decide +kernel
theorem dX11_addProxy_27 : decode cX11_addProxy 27 = .ok (.invokevirtual 52, 3) := by decide +kernel
theorem dX11_addProxy_30 : decode cX11_addProxy 30 = .ok (.ifCond .eq 13, 3) := by decide +kernel
theorem dX11_addProxy_33 : decode cX11_addProxy 33 = .ok (.new 56, 3) := by decide +kernel
theorem dX11_addProxy_36 : decode cX11_addProxy 36 = .ok (.dup, 1) := by decide +kernel
theorem dX11_addProxy_37 : decode cX11_addProxy 37 = .ok (.ldc 58, 2) := by decide +kernel
theorem dX11_addProxy_39 : decode cX11_addProxy 39 = .ok (.invokespecial 60, 3) := by decide +kernel
theorem dX11_addProxy_42 : decode cX11_addProxy 42 = .ok (.athrow, 1) := by decide +kernel
theorem dX11_addProxy_43 : decode cX11_addProxy 43 = .ok (.aload_n 0, 1) := by decide +kernel
theorem dX11_addProxy_44 : decode cX11_addProxy 44 = .ok (.getfield 10, 3) := by decide +kernel
theorem dX11_addProxy_47 : decode cX11_addProxy 47 = .ok (.new 61, 3) := by decide +kernel
theorem dX11_addProxy_50 : decode cX11_addProxy 50 = .ok (.dup, 1) := by decide +kernel
theorem dX11_addProxy_51 : decode cX11_addProxy 51 = .ok (.aload_n 2, 1) := by decide +kernel
theorem dX11_addProxy_52 : decode cX11_addProxy 52 = .ok (.aconst_null, 1) := by decide +kernel
theorem dX11_addProxy_53 : decode cX11_addProxy 53 = .ok (.invokespecial 63, 3) := by decide +kernel
theorem dX11_addProxy_56 : decode cX11_addProxy 56 = .ok (.invokevirtual 66, 3) := by decide +kernel
theorem dX11_addProxy_59 : decode cX11_addProxy 59 = .ok (.ireturn, 1) := by decide +kernel
set_option maxRecDepth 20000 in
theorem ggX11_tell_X8_find : GoodIn wsX11_tell wsX8_find := goodIn_r _ [12, 13, 14, 49, 50] (by decide +kernel) (by decide +kernel)
set_option maxRecDepth 20000 in
theorem gX11_tell_X8_find : GoodIn wsX11_tell (wsV RX11 41 RX8 yX8_find wsX8_find) := goodIn_app (goodIn_of _ (by decide +kernel)) ggX11_tell_X8_find
set_option maxRecDepth 20000 in
theorem ggX11_tell_X11_kindOf : GoodIn wsX11_tell wsX11_kindOf := goodIn_r _ [18] (by decide +kernel) (by decide +kernel)
set_option maxRecDepth 20000 in
theorem gX11_tell_X11_kindOf : GoodIn wsX11_tell (va_wsS RX11 70 yX11_kindOf wsX11_kindOf) := goodIn_app (goodIn_of _ (by decide +kernel)) ggX11_tell_X11_kindOf
set_option maxRecDepth 20000 in
theorem ggX11_tell_X11_isAnswer : GoodIn wsX11_tell wsX11_isAnswer := goodIn_r _ [21, 22, 23, 17, 24] (by decide +kernel) (by decide +kernel)
set_option maxRecDepth 20000 in
theorem gX11_tell_X11_isAnswer : GoodIn wsX11_tell (va_wsS RX11 74 yX11_isAnswer wsX11_isAnswer) := goodIn_app (goodIn_of _ (by decide +kernel)) ggX11_tell_X11_isAnswer
set_option maxRecDepth 20000 in
theorem ggX11_tell_X7_isProxy : GoodIn wsX11_tell wsX7_isProxy := goodIn_r _ [29, 30, 51, 52, 53, 54, 55, 56, 57, 58, 59] (by decide +kernel) (by decide +kernel)
set_option maxRecDepth 20000 in
theorem gX11_tell_X7_isProxy : GoodIn wsX11_tell (wsV RX11 83 RX7 yX7_isProxy wsX7_isProxy) := goodIn_app (goodIn_of _ (by decide +kernel)) ggX11_tell_X7_isProxy
set_option maxRecDepth 20000 in
theorem ggX11_tell_X7_isTold : GoodIn wsX11_tell wsX7_isTold := goodIn_ca (goodIn_r _ [34, 35, 36, 37, 38, 28, 39, 40, 51, 52, 53, 54, 55, 56, 57, 58, 59] (by decide +kernel) (by decide +kernel)) (goodIn_sub (fun _ h => List.mem_cons_of_mem _ (List.mem_append_right _ h)) (by decide +kernel))
set_option maxRecDepth 20000 in
theorem gX11_tell_X7_isTold : GoodIn wsX11_tell (wsV RX11 88 RX7 yX7_isTold wsX7_isTold) := goodIn_app (goodIn_of _ (by decide +kernel)) ggX11_tell_X7_isTold
set_option maxRecDepth 20000 in
theorem ggX11_tell_X7_keepAnswer : GoodIn wsX11_tell wsX7_keepAnswer := goodIn_ca (goodIn_r _ [44, 40, 51, 52, 53, 54, 55, 56, 57, 58, 59] (by decide +kernel) (by decide +kernel)) (goodIn_sub (fun _ h => List.mem_cons_of_mem _ (List.mem_append_right _ h)) (by decide +kernel))
set_option maxRecDepth 20000 in
theorem gX11_tell_X7_keepAnswer : GoodIn wsX11_tell (wsV RX11 92 RX7 yX7_keepAnswer wsX7_keepAnswer) := goodIn_app (goodIn_of _ (by decide +kernel)) ggX11_tell_X7_keepAnswer
theorem dX11_tell_0 : decode cX11_tell 0 = .ok (.aload_n 0, 1) := by decide +kernel
theorem dX11_tell_1 : decode cX11_tell 1 = .ok (.getfield 10, 3) := by decide +kernel
theorem dX11_tell_4 : decode cX11_tell 4 = .ok (.iload_n 1, 1) := by decide +kernel
theorem dX11_tell_5 : decode cX11_tell 5 = .ok (.invokevirtual 41, 3) := by decide +kernel
theorem dX11_tell_8 : decode cX11_tell 8 = .ok (.astore 4, 2) := by decide +kernel
theorem dX11_tell_10 : decode cX11_tell 10 = .ok (.aload 4, 2) := by decide +kernel
theorem dX11_tell_12 : decode cX11_tell 12 = .ok (.ifnonnull 13, 3) := by decide +kernel
theorem dX11_tell_15 : decode cX11_tell 15 = .ok (.new 45, 3) := by decide +kernel
theorem dX11_tell_18 : decode cX11_tell 18 = .ok (.dup, 1) := by decide +kernel
theorem dX11_tell_19 : decode cX11_tell 19 = .ok (.ldc 47, 2) := by decide +kernel
theorem dX11_tell_21 : decode cX11_tell 21 = .ok (.invokespecial 49, 3) := by decide +kernel
theorem dX11_tell_24 : decode cX11_tell 24 = .ok (.athrow, 1) := by decide +kernel
theorem dX11_tell_25 : decode cX11_tell 25 = .ok (.iload_n 2, 1) := by decide +kernel
theorem dX11_tell_26 : decode cX11_tell 26 = .ok (.invokestatic 70, 3) := by decide +kernel
theorem dX11_tell_29 : decode cX11_tell 29 = .ok (.istore 5, 2) := by decide +kernel
theorem dX11_tell_31 : decode cX11_tell 31 = .ok (.iload 5, 2) := by decide +kernel
theorem dX11_tell_33 : decode cX11_tell 33 = .ok (.iconst (-1), 1) := by decide +kernel
theorem dX11_tell_34 : decode cX11_tell 34 = .ok (.if_icmp .eq 12, 3) := by decide +kernel
theorem dX11_tell_37 : decode cX11_tell 37 = .ok (.iload 5, 2) := by decide +kernel
theorem dX11_tell_39 : decode cX11_tell 39 = .ok (.iload_n 3, 1) := by decide +kernel
theorem dX11_tell_40 : decode cX11_tell 40 = .ok (.invokestatic 74, 3) := by decide +kernel
theorem dX11_tell_43 : decode cX11_tell 43 = .ok (.ifCond .ne 13, 3) := by decide +kernel
theorem dX11_tell_46 : decode cX11_tell 46 = .ok (.new 78, 3) := by decide +kernel
theorem dX11_tell_49 : decode cX11_tell 49 = .ok (.dup, 1) := by decide +kernel
theorem dX11_tell_50 : decode cX11_tell 50 = .ok (.ldc 80, 2) := by decide +kernel
theorem dX11_tell_52 : decode cX11_tell 52 = .ok (.invokespecial 82, 3) := by decide +kernel
theorem dX11_tell_55 : decode cX11_tell 55 = .ok (.athrow, 1) := by decide +kernel
theorem dX11_tell_56 : decode cX11_tell 56 = .ok (.aload 4, 2) := by decide +kernel
theorem dX11_tell_58 : decode cX11_tell 58 = .ok (.invokevirtual 83, 3) := by decide +kernel
theorem dX11_tell_61 : decode cX11_tell 61 = .ok (.ifCond .ne 13, 3) := by decide +kernel
theorem dX11_tell_64 : decode cX11_tell 64 = .ok (.new 56, 3) := by decide +kernel
theorem dX11_tell_67 : decode cX11_tell 67 = .ok (.dup, 1) := by decide +kernel
theorem dX11_tell_68 : decode cX11_tell 68 = .ok (.ldc 86, 2) := by decide +kernel
theorem dX11_tell_70 : decode cX11_tell 70 = .ok (.invokespecial 60, 3) := by decide +kernel
theorem dX11_tell_73 : decode cX11_tell 73 = .ok (.athrow, 1) := by decide +kernel
theorem dX11_tell_74 : decode cX11_tell 74 = .ok (.aload 4, 2) := by decide +kernel
theorem dX11_tell_76 : decode cX11_tell 76 = .ok (.iload 5, 2) := by decide +kernel
theorem dX11_tell_78 : decode cX11_tell 78 = .ok (.invokevirtual 88, 3) := by decide +kernel
theorem dX11_tell_81 : decode cX11_tell 81 = .ok (.istore 6, 2) := by decide +kernel
theorem dX11_tell_83 : decode cX11_tell 83 = .ok (.aload 4, 2) := by decide +kernel
theorem dX11_tell_85 : decode cX11_tell 85 = .ok (.iload 5, 2) := by decide +kernel
theorem dX11_tell_87 : decode cX11_tell 87 = .ok (.iload_n 3, 1) := by decide +kernel
theorem dX11_tell_88 : decode cX11_tell 88 = .ok (.invokevirtual 92, 3) := by decide +kernel
theorem dX11_tell_91 : decode cX11_tell 91 = .ok (.iload 6, 2) := by decide +kernel
theorem dX11_tell_93 : decode cX11_tell 93 = .ok (.ireturn, 1) := by decide +kernel
set_option maxRecDepth 20000 in
theorem ggX11_revoke_X8_find : GoodIn wsX11_revoke wsX8_find := goodIn_r _ [11, 12, 13, 33, 34] (by decide +kernel) (by decide +kernel)
set_option maxRecDepth 20000 in
theorem gX11_revoke_X8_find : GoodIn wsX11_revoke (wsV RX11 41 RX8 yX8_find wsX8_find) := goodIn_app (goodIn_of _ (by decide +kernel)) ggX11_revoke_X8_find
set_option maxRecDepth 20000 in
theorem ggX11_revoke_X7_isProxy : GoodIn wsX11_revoke wsX7_isProxy := goodIn_r _ [18, 19, 24, 25, 26, 27, 28, 29, 30, 31, 32] (by decide +kernel) (by decide +kernel)
set_option maxRecDepth 20000 in
theorem gX11_revoke_X7_isProxy : GoodIn wsX11_revoke (wsV RX11 83 RX7 yX7_isProxy wsX7_isProxy) := goodIn_app (goodIn_of _ (by decide +kernel)) ggX11_revoke_X7_isProxy
theorem dX11_revoke_0 : decode cX11_revoke 0 = .ok (.aload_n 0, 1) := by decide +kernel
theorem dX11_revoke_1 : decode cX11_revoke 1 = .ok (.getfield 10, 3) := by decide +kernel
theorem dX11_revoke_4 : decode cX11_revoke 4 = .ok (.iload_n 1, 1) := by decide +kernel
theorem dX11_revoke_5 : decode cX11_revoke 5 = .ok (.invokevirtual 41, 3) := by decide +kernel
theorem dX11_revoke_8 : decode cX11_revoke 8 = .ok (.astore_n 2, 1) := by decide +kernel
theorem dX11_revoke_9 : decode cX11_revoke 9 = .ok (.aload_n 2, 1) := by decide +kernel
theorem dX11_revoke_10 : decode cX11_revoke 10 = .ok (.ifnonnull 13, 3) := by decide +kernel
theorem dX11_revoke_13 : decode cX11_revoke 13 = .ok (.new 45, 3) := by decide +kernel
theorem dX11_revoke_16 : decode cX11_revoke 16 = .ok (.dup, 1) := by decide +kernel
theorem dX11_revoke_17 : decode cX11_revoke 17 = .ok (.ldc 47, 2) := by decide +kernel
theorem dX11_revoke_19 : decode cX11_revoke 19 = .ok (.invokespecial 49, 3) := by decide +kernel
theorem dX11_revoke_22 : decode cX11_revoke 22 = .ok (.athrow, 1) := by decide +kernel
theorem dX11_revoke_23 : decode cX11_revoke 23 = .ok (.aload_n 2, 1) := by decide +kernel
theorem dX11_revoke_24 : decode cX11_revoke 24 = .ok (.invokevirtual 83, 3) := by decide +kernel
theorem dX11_revoke_27 : decode cX11_revoke 27 = .ok (.ifCond .ne 13, 3) := by decide +kernel
theorem dX11_revoke_30 : decode cX11_revoke 30 = .ok (.new 56, 3) := by decide +kernel
theorem dX11_revoke_33 : decode cX11_revoke 33 = .ok (.dup, 1) := by decide +kernel
theorem dX11_revoke_34 : decode cX11_revoke 34 = .ok (.ldc 86, 2) := by decide +kernel
theorem dX11_revoke_36 : decode cX11_revoke 36 = .ok (.invokespecial 60, 3) := by decide +kernel
theorem dX11_revoke_39 : decode cX11_revoke 39 = .ok (.athrow, 1) := by decide +kernel
theorem dX11_revoke_40 : decode cX11_revoke 40 = .ok (.aload_n 2, 1) := by decide +kernel
theorem dX11_revoke_41 : decode cX11_revoke 41 = .ok (.getfield 96, 3) := by decide +kernel
theorem dX11_revoke_44 : decode cX11_revoke 44 = .ok (.istore_n 3, 1) := by decide +kernel
theorem dX11_revoke_45 : decode cX11_revoke 45 = .ok (.aload_n 2, 1) := by decide +kernel
theorem dX11_revoke_46 : decode cX11_revoke 46 = .ok (.iconst 1, 1) := by decide +kernel
theorem dX11_revoke_47 : decode cX11_revoke 47 = .ok (.putfield 96, 3) := by decide +kernel
theorem dX11_revoke_50 : decode cX11_revoke 50 = .ok (.iload_n 3, 1) := by decide +kernel
theorem dX11_revoke_51 : decode cX11_revoke 51 = .ok (.ireturn, 1) := by decide +kernel
set_option maxRecDepth 20000 in
theorem ggX11_define_X8_find : GoodIn wsX11_define wsX8_find := goodIn_r _ [10, 11, 12, 60, 61] (by decide +kernel) (by decide +kernel)
set_option maxRecDepth 20000 in
theorem gX11_define_X8_find : GoodIn wsX11_define (wsV RX11 41 RX8 yX8_find wsX8_find) := goodIn_app (goodIn_of _ (by decide +kernel)) ggX11_define_X8_find
set_option maxRecDepth 20000 in
theorem ggX11_define_X11_isKey : GoodIn wsX11_define wsX11_isKey := goodIn_r _ [16] (by decide +kernel) (by decide +kernel)
set_option maxRecDepth 20000 in
theorem gX11_define_X11_isKey : GoodIn wsX11_define (va_wsS RX11 100 yX11_isKey wsX11_isKey) := goodIn_app (goodIn_of _ (by decide +kernel)) ggX11_define_X11_isKey
set_option maxRecDepth 20000 in
theorem ggX11_define_X11_isValue : GoodIn wsX11_define wsX11_isValue := goodIn_r _ [19] (by decide +kernel) (by decide +kernel)
set_option maxRecDepth 20000 in
theorem gX11_define_X11_isValue : GoodIn wsX11_define (va_wsS RX11 105 yX11_isValue wsX11_isValue) := goodIn_app (goodIn_of _ (by decide +kernel)) ggX11_define_X11_isValue
set_option maxRecDepth 20000 in
theorem ggX11_define_X8_plainBehind : GoodIn wsX11_define wsX8_plainBehind := goodIn_r _ [23, 24, 25, 26, 27, 28, 29, 30, 31, 62, 63, 64, 65, 66, 67, 68, 69, 70] (by decide +kernel) (by decide +kernel)
set_option maxRecDepth 20000 in
theorem gX11_define_X8_plainBehind : GoodIn wsX11_define (wsV RX11 110 RX8 yX8_plainBehind wsX8_plainBehind) := goodIn_app (goodIn_of _ (by decide +kernel)) ggX11_define_X8_plainBehind
set_option maxRecDepth 20000 in
theorem ggX11_define_X7_putIn : GoodIn wsX11_define wsX7_putIn := goodIn_ca (goodIn_r _ [35, 36, 37, 38, 39, 40, 41, 29, 42, 43, 44, 45, 46, 47, 48, 49, 50, 51, 52, 53, 54, 55, 62, 63, 64, 65, 66, 67, 68, 69, 70] (by decide +kernel) (by decide +kernel)) (goodIn_sub (fun _ h => List.mem_cons_of_mem _ (List.mem_append_right _ h)) (by decide +kernel))
set_option maxRecDepth 20000 in
theorem gX11_define_X7_putIn : GoodIn wsX11_define (wsV RX11 114 RX7 yX7_putIn wsX7_putIn) := goodIn_app (goodIn_of _ (by decide +kernel)) ggX11_define_X7_putIn
theorem dX11_define_0 : decode cX11_define 0 = .ok (.aload_n 0, 1) := by decide +kernel
theorem dX11_define_1 : decode cX11_define 1 = .ok (.getfield 10, 3) := by decide +kernel
theorem dX11_define_4 : decode cX11_define 4 = .ok (.iload_n 1, 1) := by decide +kernel
theorem dX11_define_5 : decode cX11_define 5 = .ok (.invokevirtual 41, 3) := by decide +kernel
theorem dX11_define_8 : decode cX11_define 8 = .ok (.astore 5, 2) := by decide +kernel
theorem dX11_define_10 : decode cX11_define 10 = .ok (.aload 5, 2) := by decide +kernel
theorem dX11_define_12 : decode cX11_define 12 = .ok (.ifnull 10, 3) := by decide +kernel
theorem dX11_define_15 : decode cX11_define 15 = .ok (.iload_n 2, 1) := by decide +kernel
theorem dX11_define_16 : decode cX11_define 16 = .ok (.invokestatic 100, 3) := by decide +kernel
theorem dX11_define_19 : decode cX11_define 19 = .ok (.ifCond .ne 13, 3) := by decide +kernel
theorem dX11_define_22 : decode cX11_define 22 = .ok (.new 45, 3) := by decide +kernel
theorem dX11_define_25 : decode cX11_define 25 = .ok (.dup, 1) := by decide +kernel
theorem dX11_define_26 : decode cX11_define 26 = .ok (.ldc 103, 2) := by decide +kernel
theorem dX11_define_28 : decode cX11_define 28 = .ok (.invokespecial 49, 3) := by decide +kernel
theorem dX11_define_31 : decode cX11_define 31 = .ok (.athrow, 1) := by decide +kernel
theorem dX11_define_32 : decode cX11_define 32 = .ok (.iload_n 3, 1) := by decide +kernel
theorem dX11_define_33 : decode cX11_define 33 = .ok (.invokestatic 105, 3) := by decide +kernel
theorem dX11_define_36 : decode cX11_define 36 = .ok (.ifCond .eq 15, 3) := by decide +kernel
theorem dX11_define_39 : decode cX11_define 39 = .ok (.iload 4, 2) := by decide +kernel
theorem dX11_define_41 : decode cX11_define 41 = .ok (.ifCond .lt 10, 3) := by decide +kernel
theorem dX11_define_44 : decode cX11_define 44 = .ok (.iload 4, 2) := by decide +kernel
theorem dX11_define_46 : decode cX11_define 46 = .ok (.bipush 7, 2) := by decide +kernel
theorem dX11_define_48 : decode cX11_define 48 = .ok (.if_icmp .le 13, 3) := by decide +kernel
theorem dX11_define_51 : decode cX11_define 51 = .ok (.new 78, 3) := by decide +kernel
theorem dX11_define_54 : decode cX11_define 54 = .ok (.dup, 1) := by decide +kernel
theorem dX11_define_55 : decode cX11_define 55 = .ok (.ldc 108, 2) := by decide +kernel
theorem dX11_define_57 : decode cX11_define 57 = .ok (.invokespecial 82, 3) := by decide +kernel
theorem dX11_define_60 : decode cX11_define 60 = .ok (.athrow, 1) := by decide +kernel
theorem dX11_define_61 : decode cX11_define 61 = .ok (.aload_n 0, 1) := by decide +kernel
theorem dX11_define_62 : decode cX11_define 62 = .ok (.getfield 10, 3) := by decide +kernel
theorem dX11_define_65 : decode cX11_define 65 = .ok (.aload 5, 2) := by decide +kernel
theorem dX11_define_67 : decode cX11_define 67 = .ok (.invokevirtual 110, 3) := by decide +kernel
theorem dX11_define_70 : decode cX11_define 70 = .ok (.astore 6, 2) := by decide +kernel
theorem dX11_define_72 : decode cX11_define 72 = .ok (.aload 6, 2) := by decide +kernel
theorem dX11_define_74 : decode cX11_define 74 = .ok (.ifnonnull 8, 3) := by decide +kernel
theorem dX11_define_77 : decode cX11_define 77 = .ok (.bipush 84, 2) := by decide +kernel
theorem dX11_define_79 : decode cX11_define 79 = .ok (.goto 12, 3) := by decide +kernel
theorem dX11_define_82 : decode cX11_define 82 = .ok (.aload 6, 2) := by decide +kernel
theorem dX11_define_84 : decode cX11_define 84 = .ok (.iload_n 2, 1) := by decide +kernel
theorem dX11_define_85 : decode cX11_define 85 = .ok (.iload_n 3, 1) := by decide +kernel
theorem dX11_define_86 : decode cX11_define 86 = .ok (.iload 4, 2) := by decide +kernel
theorem dX11_define_88 : decode cX11_define 88 = .ok (.invokevirtual 114, 3) := by decide +kernel
theorem dX11_define_91 : decode cX11_define 91 = .ok (.ireturn, 1) := by decide +kernel
set_option maxRecDepth 20000 in
theorem ggX11_set_X8_find : GoodIn wsX11_set wsX8_find := goodIn_r _ [10, 11, 12, 97, 98] (by decide +kernel) (by decide +kernel)
set_option maxRecDepth 20000 in
theorem gX11_set_X8_find : GoodIn wsX11_set (wsV RX11 41 RX8 yX8_find wsX8_find) := goodIn_app (goodIn_of _ (by decide +kernel)) ggX11_set_X8_find
set_option maxRecDepth 20000 in
theorem ggX11_set_X11_isKey : GoodIn wsX11_set wsX11_isKey := goodIn_r _ [16] (by decide +kernel) (by decide +kernel)
set_option maxRecDepth 20000 in
theorem gX11_set_X11_isKey : GoodIn wsX11_set (va_wsS RX11 100 yX11_isKey wsX11_isKey) := goodIn_app (goodIn_of _ (by decide +kernel)) ggX11_set_X11_isKey
set_option maxRecDepth 20000 in
theorem ggX11_set_X11_isValue : GoodIn wsX11_set wsX11_isValue := goodIn_r _ [19] (by decide +kernel) (by decide +kernel)
set_option maxRecDepth 20000 in
theorem gX11_set_X11_isValue : GoodIn wsX11_set (va_wsS RX11 105 yX11_isValue wsX11_isValue) := goodIn_app (goodIn_of _ (by decide +kernel)) ggX11_set_X11_isValue
set_option maxRecDepth 20000 in
theorem ggX11_set_X8_setFrom : GoodIn wsX11_set wsX8_setFrom := goodIn_ca (goodIn_r _ [23, 24, 25, 26, 27, 28, 29, 30, 31, 32, 33, 34, 35, 36, 37, 38, 39, 40, 41, 42, 43, 44, 45, 46, 9, 47, 48, 49, 50, 51, 52, 53, 54, 55, 56, 57, 58, 59, 60, 61, 62, 63, 64, 65, 66, 67, 68, 69, 70, 71, 72, 73, 74, 75, 76, 77, 78, 79, 80, 81, 82, 83, 84, 85, 86, 87, 88, 89, 90, 91, 92, 99, 100, 101, 102, 103, 104, 105, 106, 107] (by decide +kernel) (by decide +kernel)) (goodIn_sub (fun _ h => List.mem_cons_of_mem _ (List.mem_append_right _ h)) (by decide +kernel))
set_option maxRecDepth 20000 in
theorem gX11_set_X8_setFrom : GoodIn wsX11_set (wsV RX11 120 RX8 yX8_setFrom wsX8_setFrom) := goodIn_app (goodIn_of _ (by decide +kernel)) ggX11_set_X8_setFrom
theorem dX11_set_0 : decode cX11_set 0 = .ok (.aload_n 0, 1) := by decide +kernel
theorem dX11_set_1 : decode cX11_set 1 = .ok (.getfield 10, 3) := by decide +kernel
theorem dX11_set_4 : decode cX11_set 4 = .ok (.iload_n 1, 1) := by decide +kernel
theorem dX11_set_5 : decode cX11_set 5 = .ok (.invokevirtual 41, 3) := by decide +kernel
theorem dX11_set_8 : decode cX11_set 8 = .ok (.astore 4, 2) := by decide +kernel
theorem dX11_set_10 : decode cX11_set 10 = .ok (.aload 4, 2) := by decide +kernel
theorem dX11_set_12 : decode cX11_set 12 = .ok (.ifnull 10, 3) := by decide +kernel
theorem dX11_set_15 : decode cX11_set 15 = .ok (.iload_n 2, 1) := by decide +kernel
theorem dX11_set_16 : decode cX11_set 16 = .ok (.invokestatic 100, 3) := by decide +kernel
theorem dX11_set_19 : decode cX11_set 19 = .ok (.ifCond .ne 13, 3) := by decide +kernel
theorem dX11_set_22 : decode cX11_set 22 = .ok (.new 45, 3) := by decide +kernel
theorem dX11_set_25 : decode cX11_set 25 = .ok (.dup, 1) := by decide +kernel
theorem dX11_set_26 : decode cX11_set 26 = .ok (.ldc 103, 2) := by decide +kernel
theorem dX11_set_28 : decode cX11_set 28 = .ok (.invokespecial 49, 3) := by decide +kernel
theorem dX11_set_31 : decode cX11_set 31 = .ok (.athrow, 1) := by decide +kernel
theorem dX11_set_32 : decode cX11_set 32 = .ok (.iload_n 3, 1) := by decide +kernel
theorem dX11_set_33 : decode cX11_set 33 = .ok (.invokestatic 105, 3) := by decide +kernel
theorem dX11_set_36 : decode cX11_set 36 = .ok (.ifCond .ne 13, 3) := by decide +kernel
theorem dX11_set_39 : decode cX11_set 39 = .ok (.new 78, 3) := by decide +kernel
theorem dX11_set_42 : decode cX11_set 42 = .ok (.dup, 1) := by decide +kernel
theorem dX11_set_43 : decode cX11_set 43 = .ok (.ldc 118, 2) := by decide +kernel
theorem dX11_set_45 : decode cX11_set 45 = .ok (.invokespecial 82, 3) := by decide +kernel
theorem dX11_set_48 : decode cX11_set 48 = .ok (.athrow, 1) := by decide +kernel
theorem dX11_set_49 : decode cX11_set 49 = .ok (.aload_n 0, 1) := by decide +kernel
theorem dX11_set_50 : decode cX11_set 50 = .ok (.getfield 10, 3) := by decide +kernel
theorem dX11_set_53 : decode cX11_set 53 = .ok (.aload 4, 2) := by decide +kernel
theorem dX11_set_55 : decode cX11_set 55 = .ok (.iload_n 2, 1) := by decide +kernel
theorem dX11_set_56 : decode cX11_set 56 = .ok (.iload_n 3, 1) := by decide +kernel
theorem dX11_set_57 : decode cX11_set 57 = .ok (.invokevirtual 120, 3) := by decide +kernel
theorem dX11_set_60 : decode cX11_set 60 = .ok (.ireturn, 1) := by decide +kernel
set_option maxRecDepth 20000 in
theorem ggX11_get_X8_find : GoodIn wsX11_get wsX8_find := goodIn_r _ [11, 12, 13, 71, 72] (by decide +kernel) (by decide +kernel)
set_option maxRecDepth 20000 in
theorem gX11_get_X8_find : GoodIn wsX11_get (wsV RX11 41 RX8 yX8_find wsX8_find) := goodIn_app (goodIn_of _ (by decide +kernel)) ggX11_get_X8_find
set_option maxRecDepth 20000 in
theorem ggX11_get_X11_isKey : GoodIn wsX11_get wsX11_isKey := goodIn_r _ [17] (by decide +kernel) (by decide +kernel)
set_option maxRecDepth 20000 in
theorem gX11_get_X11_isKey : GoodIn wsX11_get (va_wsS RX11 100 yX11_isKey wsX11_isKey) := goodIn_app (goodIn_of _ (by decide +kernel)) ggX11_get_X11_isKey
set_option maxRecDepth 20000 in
theorem ggX11_get_X8_getFrom : GoodIn wsX11_get wsX8_getFrom := goodIn_ca (goodIn_r _ [21, 22, 23, 24, 25, 26, 27, 28, 29, 30, 31, 32, 33, 34, 35, 36, 37, 38, 39, 40, 41, 42, 43, 44, 45, 10, 46, 47, 48, 49, 50, 51, 52, 53, 54, 55, 56, 57, 58, 59, 60, 61, 62, 63, 64, 65, 66, 73, 74, 75, 76, 77, 78, 79, 80, 81] (by decide +kernel) (by decide +kernel)) (goodIn_sub (fun _ h => List.mem_cons_of_mem _ (List.mem_append_right _ h)) (by decide +kernel))
set_option maxRecDepth 20000 in
theorem gX11_get_X8_getFrom : GoodIn wsX11_get (wsV RX11 124 RX8 yX8_getFrom wsX8_getFrom) := goodIn_app (goodIn_of _ (by decide +kernel)) ggX11_get_X8_getFrom
theorem dX11_get_0 : decode cX11_get 0 = .ok (.aload_n 0, 1) := by decide +kernel
theorem dX11_get_1 : decode cX11_get 1 = .ok (.getfield 10, 3) := by decide +kernel
theorem dX11_get_4 : decode cX11_get 4 = .ok (.iload_n 1, 1) := by decide +kernel
theorem dX11_get_5 : decode cX11_get 5 = .ok (.invokevirtual 41, 3) := by decide +kernel
theorem dX11_get_8 : decode cX11_get 8 = .ok (.astore_n 3, 1) := by decide +kernel
theorem dX11_get_9 : decode cX11_get 9 = .ok (.aload_n 3, 1) := by decide +kernel
theorem dX11_get_10 : decode cX11_get 10 = .ok (.ifnull 10, 3) := by decide +kernel
theorem dX11_get_13 : decode cX11_get 13 = .ok (.iload_n 2, 1) := by decide +kernel
theorem dX11_get_14 : decode cX11_get 14 = .ok (.invokestatic 100, 3) := by decide +kernel
theorem dX11_get_17 : decode cX11_get 17 = .ok (.ifCond .ne 13, 3) := by decide +kernel
theorem dX11_get_20 : decode cX11_get 20 = .ok (.new 45, 3) := by decide +kernel
theorem dX11_get_23 : decode cX11_get 23 = .ok (.dup, 1) := by decide +kernel
theorem dX11_get_24 : decode cX11_get 24 = .ok (.ldc 103, 2) := by decide +kernel
theorem dX11_get_26 : decode cX11_get 26 = .ok (.invokespecial 49, 3) := by decide +kernel
theorem dX11_get_29 : decode cX11_get 29 = .ok (.athrow, 1) := by decide +kernel
theorem dX11_get_30 : decode cX11_get 30 = .ok (.aload_n 0, 1) := by decide +kernel
theorem dX11_get_31 : decode cX11_get 31 = .ok (.getfield 10, 3) := by decide +kernel
theorem dX11_get_34 : decode cX11_get 34 = .ok (.aload_n 3, 1) := by decide +kernel
theorem dX11_get_35 : decode cX11_get 35 = .ok (.iload_n 2, 1) := by decide +kernel
theorem dX11_get_36 : decode cX11_get 36 = .ok (.invokevirtual 124, 3) := by decide +kernel
theorem dX11_get_39 : decode cX11_get 39 = .ok (.lstore 4, 2) := by decide +kernel
theorem dX11_get_41 : decode cX11_get 41 = .ok (.lload 4, 2) := by decide +kernel
theorem dX11_get_43 : decode cX11_get 43 = .ok (.ldc2_w 128, 3) := by decide +kernel
theorem dX11_get_46 : decode cX11_get 46 = .ok (.lcmp, 1) := by decide +kernel
theorem dX11_get_47 : decode cX11_get 47 = .ok (.ifCond .ne 13, 3) := by decide +kernel
theorem dX11_get_50 : decode cX11_get 50 = .ok (.new 130, 3) := by decide +kernel
theorem dX11_get_53 : decode cX11_get 53 = .ok (.dup, 1) := by decide +kernel
theorem dX11_get_54 : decode cX11_get 54 = .ok (.ldc 132, 2) := by decide +kernel
theorem dX11_get_56 : decode cX11_get 56 = .ok (.invokespecial 134, 3) := by decide +kernel
theorem dX11_get_59 : decode cX11_get 59 = .ok (.athrow, 1) := by decide +kernel
theorem dX11_get_60 : decode cX11_get 60 = .ok (.lload 4, 2) := by decide +kernel
theorem dX11_get_62 : decode cX11_get 62 = .ok (.l2i, 1) := by decide +kernel
theorem dX11_get_63 : decode cX11_get 63 = .ok (.ireturn, 1) := by decide +kernel
set_option maxRecDepth 20000 in
theorem ggX11_has_X8_find : GoodIn wsX11_has wsX8_find := goodIn_r _ [8, 9, 10, 65, 66] (by decide +kernel) (by decide +kernel)
set_option maxRecDepth 20000 in
theorem gX11_has_X8_find : GoodIn wsX11_has (wsV RX11 41 RX8 yX8_find wsX8_find) := goodIn_app (goodIn_of _ (by decide +kernel)) ggX11_has_X8_find
set_option maxRecDepth 20000 in
theorem ggX11_has_X11_isKey : GoodIn wsX11_has wsX11_isKey := goodIn_r _ [14] (by decide +kernel) (by decide +kernel)
set_option maxRecDepth 20000 in
theorem gX11_has_X11_isKey : GoodIn wsX11_has (va_wsS RX11 100 yX11_isKey wsX11_isKey) := goodIn_app (goodIn_of _ (by decide +kernel)) ggX11_has_X11_isKey
set_option maxRecDepth 20000 in
theorem ggX11_has_X8_askFrom : GoodIn wsX11_has wsX8_askFrom := goodIn_ca (goodIn_r _ [18, 19, 20, 21, 22, 23, 24, 25, 26, 27, 28, 29, 30, 31, 32, 33, 34, 35, 36, 37, 38, 39, 40, 41, 7, 42, 43, 44, 45, 46, 47, 48, 49, 50, 51, 52, 53, 54, 55, 56, 57, 58, 59, 60, 67, 68, 69, 70, 71, 72, 73, 74, 75] (by decide +kernel) (by decide +kernel)) (goodIn_sub (fun _ h => List.mem_cons_of_mem _ (List.mem_append_right _ h)) (by decide +kernel))
set_option maxRecDepth 20000 in
theorem gX11_has_X8_askFrom : GoodIn wsX11_has (wsV RX11 135 RX8 yX8_askFrom wsX8_askFrom) := goodIn_app (goodIn_of _ (by decide +kernel)) ggX11_has_X8_askFrom
theorem dX11_has_0 : decode cX11_has 0 = .ok (.aload_n 0, 1) := by decide +kernel
theorem dX11_has_1 : decode cX11_has 1 = .ok (.getfield 10, 3) := by decide +kernel
theorem dX11_has_4 : decode cX11_has 4 = .ok (.iload_n 1, 1) := by decide +kernel
theorem dX11_has_5 : decode cX11_has 5 = .ok (.invokevirtual 41, 3) := by decide +kernel
theorem dX11_has_8 : decode cX11_has 8 = .ok (.astore_n 3, 1) := by decide +kernel
theorem dX11_has_9 : decode cX11_has 9 = .ok (.aload_n 3, 1) := by decide +kernel
theorem dX11_has_10 : decode cX11_has 10 = .ok (.ifnull 10, 3) := by decide +kernel
theorem dX11_has_13 : decode cX11_has 13 = .ok (.iload_n 2, 1) := by decide +kernel
theorem dX11_has_14 : decode cX11_has 14 = .ok (.invokestatic 100, 3) := by decide +kernel
theorem dX11_has_17 : decode cX11_has 17 = .ok (.ifCond .ne 13, 3) := by decide +kernel
theorem dX11_has_20 : decode cX11_has 20 = .ok (.new 45, 3) := by decide +kernel
theorem dX11_has_23 : decode cX11_has 23 = .ok (.dup, 1) := by decide +kernel
theorem dX11_has_24 : decode cX11_has 24 = .ok (.ldc 103, 2) := by decide +kernel
theorem dX11_has_26 : decode cX11_has 26 = .ok (.invokespecial 49, 3) := by decide +kernel
theorem dX11_has_29 : decode cX11_has 29 = .ok (.athrow, 1) := by decide +kernel
theorem dX11_has_30 : decode cX11_has 30 = .ok (.aload_n 0, 1) := by decide +kernel
theorem dX11_has_31 : decode cX11_has 31 = .ok (.getfield 10, 3) := by decide +kernel
theorem dX11_has_34 : decode cX11_has 34 = .ok (.aload_n 3, 1) := by decide +kernel
theorem dX11_has_35 : decode cX11_has 35 = .ok (.iload_n 2, 1) := by decide +kernel
theorem dX11_has_36 : decode cX11_has 36 = .ok (.invokevirtual 135, 3) := by decide +kernel
theorem dX11_has_39 : decode cX11_has 39 = .ok (.ireturn, 1) := by decide +kernel
set_option maxRecDepth 20000 in
theorem ggX11_delete_X8_find : GoodIn wsX11_delete wsX8_find := goodIn_r _ [8, 9, 10, 69, 70] (by decide +kernel) (by decide +kernel)
set_option maxRecDepth 20000 in
theorem gX11_delete_X8_find : GoodIn wsX11_delete (wsV RX11 41 RX8 yX8_find wsX8_find) := goodIn_app (goodIn_of _ (by decide +kernel)) ggX11_delete_X8_find
set_option maxRecDepth 20000 in
theorem ggX11_delete_X11_isKey : GoodIn wsX11_delete wsX11_isKey := goodIn_r _ [14] (by decide +kernel) (by decide +kernel)
set_option maxRecDepth 20000 in
theorem gX11_delete_X11_isKey : GoodIn wsX11_delete (va_wsS RX11 100 yX11_isKey wsX11_isKey) := goodIn_app (goodIn_of _ (by decide +kernel)) ggX11_delete_X11_isKey
set_option maxRecDepth 20000 in
theorem ggX11_delete_X8_deleteFrom : GoodIn wsX11_delete wsX8_deleteFrom := goodIn_ca (goodIn_r _ [18, 19, 20, 21, 22, 23, 24, 25, 26, 27, 28, 29, 30, 31, 32, 33, 34, 35, 36, 37, 38, 39, 40, 41, 42, 43, 44, 45, 46, 47, 48, 49, 50, 51, 52, 53, 54, 55, 7, 56, 57, 58, 59, 60, 61, 62, 63, 64, 71, 72, 73, 74, 75, 76, 77, 78, 79] (by decide +kernel) (by decide +kernel)) (goodIn_sub (fun _ h => List.mem_cons_of_mem _ (List.mem_append_right _ h)) (by decide +kernel))
set_option maxRecDepth 20000 in
theorem gX11_delete_X8_deleteFrom : GoodIn wsX11_delete (wsV RX11 139 RX8 yX8_deleteFrom wsX8_deleteFrom) := goodIn_app (goodIn_of _ (by decide +kernel)) ggX11_delete_X8_deleteFrom
theorem dX11_delete_0 : decode cX11_delete 0 = .ok (.aload_n 0, 1) := by decide +kernel
theorem dX11_delete_1 : decode cX11_delete 1 = .ok (.getfield 10, 3) := by decide +kernel
theorem dX11_delete_4 : decode cX11_delete 4 = .ok (.iload_n 1, 1) := by decide +kernel
theorem dX11_delete_5 : decode cX11_delete 5 = .ok (.invokevirtual 41, 3) := by decide +kernel
theorem dX11_delete_8 : decode cX11_delete 8 = .ok (.astore_n 3, 1) := by decide +kernel
theorem dX11_delete_9 : decode cX11_delete 9 = .ok (.aload_n 3, 1) := by decide +kernel
theorem dX11_delete_10 : decode cX11_delete 10 = .ok (.ifnull 10, 3) := by decide +kernel
theorem dX11_delete_13 : decode cX11_delete 13 = .ok (.iload_n 2, 1) := by decide +kernel
theorem dX11_delete_14 : decode cX11_delete 14 = .ok (.invokestatic 100, 3) := by decide +kernel
theorem dX11_delete_17 : decode cX11_delete 17 = .ok (.ifCond .ne 13, 3) := by decide +kernel
theorem dX11_delete_20 : decode cX11_delete 20 = .ok (.new 45, 3) := by decide +kernel
theorem dX11_delete_23 : decode cX11_delete 23 = .ok (.dup, 1) := by decide +kernel
theorem dX11_delete_24 : decode cX11_delete 24 = .ok (.ldc 103, 2) := by decide +kernel
theorem dX11_delete_26 : decode cX11_delete 26 = .ok (.invokespecial 49, 3) := by decide +kernel
theorem dX11_delete_29 : decode cX11_delete 29 = .ok (.athrow, 1) := by decide +kernel
theorem dX11_delete_30 : decode cX11_delete 30 = .ok (.aload_n 0, 1) := by decide +kernel
theorem dX11_delete_31 : decode cX11_delete 31 = .ok (.getfield 10, 3) := by decide +kernel
theorem dX11_delete_34 : decode cX11_delete 34 = .ok (.aload_n 3, 1) := by decide +kernel
theorem dX11_delete_35 : decode cX11_delete 35 = .ok (.iload_n 2, 1) := by decide +kernel
theorem dX11_delete_36 : decode cX11_delete 36 = .ok (.invokevirtual 139, 3) := by decide +kernel
theorem dX11_delete_39 : decode cX11_delete 39 = .ok (.ireturn, 1) := by decide +kernel
set_option maxRecDepth 20000 in
theorem ggX11_closeObject_X8_find : GoodIn wsX11_closeObject wsX8_find := goodIn_r _ [9, 10, 11, 37, 38] (by decide +kernel) (by decide +kernel)
set_option maxRecDepth 20000 in
theorem gX11_closeObject_X8_find : GoodIn wsX11_closeObject (wsV RX11 41 RX8 yX8_find wsX8_find) := goodIn_app (goodIn_of _ (by decide +kernel)) ggX11_closeObject_X8_find
set_option maxRecDepth 20000 in
theorem ggX11_closeObject_X8_plainBehind : GoodIn wsX11_closeObject wsX8_plainBehind := goodIn_r _ [15, 16, 17, 18, 19, 20, 21, 22, 23, 28, 29, 30, 31, 32, 33, 34, 35, 36] (by decide +kernel) (by decide +kernel)
set_option maxRecDepth 20000 in
theorem gX11_closeObject_X8_plainBehind : GoodIn wsX11_closeObject (wsV RX11 110 RX8 yX8_plainBehind wsX8_plainBehind) := goodIn_app (goodIn_of _ (by decide +kernel)) ggX11_closeObject_X8_plainBehind
theorem dX11_closeObject_0 : decode cX11_closeObject 0 = .ok (.aload_n 0, 1) := by decide +kernel
theorem dX11_closeObject_1 : decode cX11_closeObject 1 = .ok (.getfield 10, 3) := by decide +kernel
theorem dX11_closeObject_4 : decode cX11_closeObject 4 = .ok (.iload_n 1, 1) := by decide +kernel
theorem dX11_closeObject_5 : decode cX11_closeObject 5 = .ok (.invokevirtual 41, 3) := by decide +kernel
theorem dX11_closeObject_8 : decode cX11_closeObject 8 = .ok (.astore_n 2, 1) := by decide +kernel
theorem dX11_closeObject_9 : decode cX11_closeObject 9 = .ok (.aload_n 2, 1) := by decide +kernel
theorem dX11_closeObject_10 : decode cX11_closeObject 10 = .ok (.ifnonnull 13, 3) := by decide +kernel
theorem dX11_closeObject_13 : decode cX11_closeObject 13 = .ok (.new 45, 3) := by decide +kernel
theorem dX11_closeObject_16 : decode cX11_closeObject 16 = .ok (.dup, 1) := by decide +kernel
theorem dX11_closeObject_17 : decode cX11_closeObject 17 = .ok (.ldc 47, 2) := by decide +kernel
theorem dX11_closeObject_19 : decode cX11_closeObject 19 = .ok (.invokespecial 49, 3) := by decide +kernel
theorem dX11_closeObject_22 : decode cX11_closeObject 22 = .ok (.athrow, 1) := by decide +kernel
theorem dX11_closeObject_23 : decode cX11_closeObject 23 = .ok (.aload_n 0, 1) := by decide +kernel
theorem dX11_closeObject_24 : decode cX11_closeObject 24 = .ok (.getfield 10, 3) := by decide +kernel
theorem dX11_closeObject_27 : decode cX11_closeObject 27 = .ok (.aload_n 2, 1) := by decide +kernel
theorem dX11_closeObject_28 : decode cX11_closeObject 28 = .ok (.invokevirtual 110, 3) := by decide +kernel
theorem dX11_closeObject_31 : decode cX11_closeObject 31 = .ok (.astore_n 3, 1) := by decide +kernel
theorem dX11_closeObject_32 : decode cX11_closeObject 32 = .ok (.aload_n 3, 1) := by decide +kernel
theorem dX11_closeObject_33 : decode cX11_closeObject 33 = .ok (.ifnonnull 6, 3) := by decide +kernel
theorem dX11_closeObject_36 : decode cX11_closeObject 36 = .ok (.bipush 84, 2) := by decide +kernel
theorem dX11_closeObject_38 : decode cX11_closeObject 38 = .ok (.ireturn, 1) := by decide +kernel
theorem dX11_closeObject_39 : decode cX11_closeObject 39 = .ok (.aload_n 3, 1) := by decide +kernel
theorem dX11_closeObject_40 : decode cX11_closeObject 40 = .ok (.iconst 1, 1) := by decide +kernel
theorem dX11_closeObject_41 : decode cX11_closeObject 41 = .ok (.putfield 142, 3) := by decide +kernel
theorem dX11_closeObject_44 : decode cX11_closeObject 44 = .ok (.bipush 121, 2) := by decide +kernel
theorem dX11_closeObject_46 : decode cX11_closeObject 46 = .ok (.ireturn, 1) := by decide +kernel
set_option maxRecDepth 20000 in
theorem ggX11_setChain_X8_find : GoodIn wsX11_setChain wsX8_find := goodIn_r _ [8, 9, 10, 33, 34] (by decide +kernel) (by decide +kernel)
set_option maxRecDepth 20000 in
theorem gX11_setChain_X8_find : GoodIn wsX11_setChain (wsV RX11 41 RX8 yX8_find wsX8_find) := goodIn_app (goodIn_of _ (by decide +kernel)) ggX11_setChain_X8_find
set_option maxRecDepth 20000 in
theorem ggX11_setChain_X8_plainBehind : GoodIn wsX11_setChain wsX8_plainBehind := goodIn_r _ [14, 15, 16, 17, 18, 19, 20, 21, 22, 35, 36, 37, 38, 39, 40, 41, 42, 43] (by decide +kernel) (by decide +kernel)
set_option maxRecDepth 20000 in
theorem gX11_setChain_X8_plainBehind : GoodIn wsX11_setChain (wsV RX11 110 RX8 yX8_plainBehind wsX8_plainBehind) := goodIn_app (goodIn_of _ (by decide +kernel)) ggX11_setChain_X8_plainBehind
set_option maxRecDepth 20000 in
theorem ggX11_setChain_X8_chainTo : GoodIn wsX11_setChain wsX8_chainTo := goodIn_r _ [26, 27, 28, 17, 18, 19, 20, 21, 22, 35, 36, 37, 38, 39, 40, 41, 42, 43] (by decide +kernel) (by decide +kernel)
set_option maxRecDepth 20000 in
theorem gX11_setChain_X8_chainTo : GoodIn wsX11_setChain (wsV RX11 145 RX8 yX8_chainTo wsX8_chainTo) := goodIn_app (goodIn_of _ (by decide +kernel)) ggX11_setChain_X8_chainTo
theorem dX11_setChain_0 : decode cX11_setChain 0 = .ok (.aload_n 0, 1) := by decide +kernel
theorem dX11_setChain_1 : decode cX11_setChain 1 = .ok (.getfield 10, 3) := by decide +kernel
theorem dX11_setChain_4 : decode cX11_setChain 4 = .ok (.iload_n 1, 1) := by decide +kernel
theorem dX11_setChain_5 : decode cX11_setChain 5 = .ok (.invokevirtual 41, 3) := by decide +kernel
theorem dX11_setChain_8 : decode cX11_setChain 8 = .ok (.astore_n 3, 1) := by decide +kernel
theorem dX11_setChain_9 : decode cX11_setChain 9 = .ok (.aload_n 0, 1) := by decide +kernel
theorem dX11_setChain_10 : decode cX11_setChain 10 = .ok (.getfield 10, 3) := by decide +kernel
theorem dX11_setChain_13 : decode cX11_setChain 13 = .ok (.iload_n 2, 1) := by decide +kernel
theorem dX11_setChain_14 : decode cX11_setChain 14 = .ok (.invokevirtual 41, 3) := by decide +kernel
theorem dX11_setChain_17 : decode cX11_setChain 17 = .ok (.astore 4, 2) := by decide +kernel
theorem dX11_setChain_19 : decode cX11_setChain 19 = .ok (.aload_n 3, 1) := by decide +kernel
theorem dX11_setChain_20 : decode cX11_setChain 20 = .ok (.ifnull 13, 3) := by decide +kernel
theorem dX11_setChain_23 : decode cX11_setChain 23 = .ok (.aload 4, 2) := by decide +kernel
theorem dX11_setChain_25 : decode cX11_setChain 25 = .ok (.ifnonnull 18, 3) := by decide +kernel
theorem dX11_setChain_28 : decode cX11_setChain 28 = .ok (.iload_n 2, 1) := by decide +kernel
theorem dX11_setChain_29 : decode cX11_setChain 29 = .ok (.iconst (-1), 1) := by decide +kernel
theorem dX11_setChain_30 : decode cX11_setChain 30 = .ok (.if_icmp .eq 13, 3) := by decide +kernel
theorem dX11_setChain_33 : decode cX11_setChain 33 = .ok (.new 45, 3) := by decide +kernel
theorem dX11_setChain_36 : decode cX11_setChain 36 = .ok (.dup, 1) := by decide +kernel
theorem dX11_setChain_37 : decode cX11_setChain 37 = .ok (.ldc 47, 2) := by decide +kernel
theorem dX11_setChain_39 : decode cX11_setChain 39 = .ok (.invokespecial 49, 3) := by decide +kernel
theorem dX11_setChain_42 : decode cX11_setChain 42 = .ok (.athrow, 1) := by decide +kernel
theorem dX11_setChain_43 : decode cX11_setChain 43 = .ok (.aload_n 0, 1) := by decide +kernel
theorem dX11_setChain_44 : decode cX11_setChain 44 = .ok (.getfield 10, 3) := by decide +kernel
theorem dX11_setChain_47 : decode cX11_setChain 47 = .ok (.aload_n 3, 1) := by decide +kernel
theorem dX11_setChain_48 : decode cX11_setChain 48 = .ok (.invokevirtual 110, 3) := by decide +kernel
theorem dX11_setChain_51 : decode cX11_setChain 51 = .ok (.astore 5, 2) := by decide +kernel
theorem dX11_setChain_53 : decode cX11_setChain 53 = .ok (.aload 5, 2) := by decide +kernel
theorem dX11_setChain_55 : decode cX11_setChain 55 = .ok (.ifnonnull 8, 3) := by decide +kernel
theorem dX11_setChain_58 : decode cX11_setChain 58 = .ok (.bipush 84, 2) := by decide +kernel
theorem dX11_setChain_60 : decode cX11_setChain 60 = .ok (.goto 14, 3) := by decide +kernel
theorem dX11_setChain_63 : decode cX11_setChain 63 = .ok (.aload_n 0, 1) := by decide +kernel
theorem dX11_setChain_64 : decode cX11_setChain 64 = .ok (.getfield 10, 3) := by decide +kernel
theorem dX11_setChain_67 : decode cX11_setChain 67 = .ok (.aload 5, 2) := by decide +kernel
theorem dX11_setChain_69 : decode cX11_setChain 69 = .ok (.aload 4, 2) := by decide +kernel
theorem dX11_setChain_71 : decode cX11_setChain 71 = .ok (.invokevirtual 145, 3) := by decide +kernel
theorem dX11_setChain_74 : decode cX11_setChain 74 = .ok (.ireturn, 1) := by decide +kernel
set_option maxRecDepth 20000 in
theorem ggX11_keys_X8_find : GoodIn wsX11_keys wsX8_find := goodIn_r _ [11, 12, 13, 39, 40] (by decide +kernel) (by decide +kernel)
set_option maxRecDepth 20000 in
theorem gX11_keys_X8_find : GoodIn wsX11_keys (wsV RX11 41 RX8 yX8_find wsX8_find) := goodIn_app (goodIn_of _ (by decide +kernel)) ggX11_keys_X8_find
set_option maxRecDepth 20000 in
theorem ggX11_keys_X8_plainBehind : GoodIn wsX11_keys wsX8_plainBehind := goodIn_r _ [17, 18, 19, 20, 21, 22, 23, 24, 25, 30, 31, 32, 33, 34, 35, 36, 37, 38] (by decide +kernel) (by decide +kernel)
set_option maxRecDepth 20000 in
theorem gX11_keys_X8_plainBehind : GoodIn wsX11_keys (wsV RX11 110 RX8 yX8_plainBehind wsX8_plainBehind) := goodIn_app (goodIn_of _ (by decide +kernel)) ggX11_keys_X8_plainBehind
theorem dX11_keys_0 : decode cX11_keys 0 = .ok (.aload_n 0, 1) := by decide +kernel
theorem dX11_keys_1 : decode cX11_keys 1 = .ok (.getfield 10, 3) := by decide +kernel
theorem dX11_keys_4 : decode cX11_keys 4 = .ok (.iload_n 1, 1) := by decide +kernel
theorem dX11_keys_5 : decode cX11_keys 5 = .ok (.invokevirtual 41, 3) := by decide +kernel
theorem dX11_keys_8 : decode cX11_keys 8 = .ok (.astore_n 2, 1) := by decide +kernel
theorem dX11_keys_9 : decode cX11_keys 9 = .ok (.aload_n 2, 1) := by decide +kernel
theorem dX11_keys_10 : decode cX11_keys 10 = .ok (.ifnonnull 13, 3) := by decide +kernel
theorem dX11_keys_13 : decode cX11_keys 13 = .ok (.new 45, 3) := by decide +kernel
theorem dX11_keys_16 : decode cX11_keys 16 = .ok (.dup, 1) := by decide +kernel
theorem dX11_keys_17 : decode cX11_keys 17 = .ok (.ldc 47, 2) := by decide +kernel
theorem dX11_keys_19 : decode cX11_keys 19 = .ok (.invokespecial 49, 3) := by decide +kernel
theorem dX11_keys_22 : decode cX11_keys 22 = .ok (.athrow, 1) := by decide +kernel
theorem dX11_keys_23 : decode cX11_keys 23 = .ok (.aload_n 0, 1) := by decide +kernel
theorem dX11_keys_24 : decode cX11_keys 24 = .ok (.getfield 10, 3) := by decide +kernel
theorem dX11_keys_27 : decode cX11_keys 27 = .ok (.aload_n 2, 1) := by decide +kernel
theorem dX11_keys_28 : decode cX11_keys 28 = .ok (.invokevirtual 110, 3) := by decide +kernel
theorem dX11_keys_31 : decode cX11_keys 31 = .ok (.astore_n 3, 1) := by decide +kernel
theorem dX11_keys_32 : decode cX11_keys 32 = .ok (.aload_n 3, 1) := by decide +kernel
theorem dX11_keys_33 : decode cX11_keys 33 = .ok (.ifnonnull 13, 3) := by decide +kernel
theorem dX11_keys_36 : decode cX11_keys 36 = .ok (.new 130, 3) := by decide +kernel
theorem dX11_keys_39 : decode cX11_keys 39 = .ok (.dup, 1) := by decide +kernel
theorem dX11_keys_40 : decode cX11_keys 40 = .ok (.ldc 132, 2) := by decide +kernel
theorem dX11_keys_42 : decode cX11_keys 42 = .ok (.invokespecial 134, 3) := by decide +kernel
theorem dX11_keys_45 : decode cX11_keys 45 = .ok (.athrow, 1) := by decide +kernel
theorem dX11_keys_46 : decode cX11_keys 46 = .ok (.aload_n 3, 1) := by decide +kernel
theorem dX11_keys_47 : decode cX11_keys 47 = .ok (.getfield 149, 3) := by decide +kernel
theorem dX11_keys_50 : decode cX11_keys 50 = .ok (.ireturn, 1) := by decide +kernel
set_option maxRecDepth 20000 in
theorem ggX11_keyAt_X8_find : GoodIn wsX11_keyAt wsX8_find := goodIn_r _ [12, 13, 14, 37, 38] (by decide +kernel) (by decide +kernel)
set_option maxRecDepth 20000 in
theorem gX11_keyAt_X8_find : GoodIn wsX11_keyAt (wsV RX11 41 RX8 yX8_find wsX8_find) := goodIn_app (goodIn_of _ (by decide +kernel)) ggX11_keyAt_X8_find
set_option maxRecDepth 20000 in
theorem ggX11_keyAt_X8_plainBehind : GoodIn wsX11_keyAt wsX8_plainBehind := goodIn_r _ [18, 19, 20, 21, 22, 23, 24, 25, 26, 39, 40, 41, 42, 43, 44, 45, 46, 47] (by decide +kernel) (by decide +kernel)
set_option maxRecDepth 20000 in
theorem gX11_keyAt_X8_plainBehind : GoodIn wsX11_keyAt (wsV RX11 110 RX8 yX8_plainBehind wsX8_plainBehind) := goodIn_app (goodIn_of _ (by decide +kernel)) ggX11_keyAt_X8_plainBehind
set_option maxRecDepth 20000 in
theorem ggX11_keyAt_X7_listedAt : GoodIn wsX11_keyAt wsX7_listedAt := goodIn_ca (goodIn_r _ [30, 31, 32, 39, 40, 41, 42, 43, 44, 45, 46, 47] (by decide +kernel) (by decide +kernel)) (goodIn_sub (fun _ h => List.mem_cons_of_mem _ (List.mem_append_right _ h)) (by decide +kernel))
set_option maxRecDepth 20000 in
theorem gX11_keyAt_X7_listedAt : GoodIn wsX11_keyAt (wsV RX11 153 RX7 yX7_listedAt wsX7_listedAt) := goodIn_app (goodIn_of _ (by decide +kernel)) ggX11_keyAt_X7_listedAt
theorem dX11_keyAt_0 : decode cX11_keyAt 0 = .ok (.aload_n 0, 1) := by decide +kernel
theorem dX11_keyAt_1 : decode cX11_keyAt 1 = .ok (.getfield 10, 3) := by decide +kernel
theorem dX11_keyAt_4 : decode cX11_keyAt 4 = .ok (.iload_n 1, 1) := by decide +kernel
theorem dX11_keyAt_5 : decode cX11_keyAt 5 = .ok (.invokevirtual 41, 3) := by decide +kernel
theorem dX11_keyAt_8 : decode cX11_keyAt 8 = .ok (.astore_n 3, 1) := by decide +kernel
theorem dX11_keyAt_9 : decode cX11_keyAt 9 = .ok (.aload_n 3, 1) := by decide +kernel
theorem dX11_keyAt_10 : decode cX11_keyAt 10 = .ok (.ifnonnull 13, 3) := by decide +kernel
theorem dX11_keyAt_13 : decode cX11_keyAt 13 = .ok (.new 45, 3) := by decide +kernel
theorem dX11_keyAt_16 : decode cX11_keyAt 16 = .ok (.dup, 1) := by decide +kernel
theorem dX11_keyAt_17 : decode cX11_keyAt 17 = .ok (.ldc 47, 2) := by decide +kernel
theorem dX11_keyAt_19 : decode cX11_keyAt 19 = .ok (.invokespecial 49, 3) := by decide +kernel
theorem dX11_keyAt_22 : decode cX11_keyAt 22 = .ok (.athrow, 1) := by decide +kernel
theorem dX11_keyAt_23 : decode cX11_keyAt 23 = .ok (.aload_n 0, 1) := by decide +kernel
theorem dX11_keyAt_24 : decode cX11_keyAt 24 = .ok (.getfield 10, 3) := by decide +kernel
theorem dX11_keyAt_27 : decode cX11_keyAt 27 = .ok (.aload_n 3, 1) := by decide +kernel
theorem dX11_keyAt_28 : decode cX11_keyAt 28 = .ok (.invokevirtual 110, 3) := by decide +kernel
theorem dX11_keyAt_31 : decode cX11_keyAt 31 = .ok (.astore 4, 2) := by decide +kernel
theorem dX11_keyAt_33 : decode cX11_keyAt 33 = .ok (.aload 4, 2) := by decide +kernel
theorem dX11_keyAt_35 : decode cX11_keyAt 35 = .ok (.ifnonnull 13, 3) := by decide +kernel
theorem dX11_keyAt_38 : decode cX11_keyAt 38 = .ok (.new 130, 3) := by decide +kernel
theorem dX11_keyAt_41 : decode cX11_keyAt 41 = .ok (.dup, 1) := by decide +kernel
theorem dX11_keyAt_42 : decode cX11_keyAt 42 = .ok (.ldc 132, 2) := by decide +kernel
theorem dX11_keyAt_44 : decode cX11_keyAt 44 = .ok (.invokespecial 134, 3) := by decide +kernel
theorem dX11_keyAt_47 : decode cX11_keyAt 47 = .ok (.athrow, 1) := by decide +kernel
theorem dX11_keyAt_48 : decode cX11_keyAt 48 = .ok (.aload 4, 2) := by decide +kernel
theorem dX11_keyAt_50 : decode cX11_keyAt 50 = .ok (.iload_n 2, 1) := by decide +kernel
theorem dX11_keyAt_51 : decode cX11_keyAt 51 = .ok (.invokevirtual 153, 3) := by decide +kernel
theorem dX11_keyAt_54 : decode cX11_keyAt 54 = .ok (.istore 5, 2) := by decide +kernel
theorem dX11_keyAt_56 : decode cX11_keyAt 56 = .ok (.iload 5, 2) := by decide +kernel
theorem dX11_keyAt_58 : decode cX11_keyAt 58 = .ok (.iconst (-1), 1) := by decide +kernel
theorem dX11_keyAt_59 : decode cX11_keyAt 59 = .ok (.if_icmp .ne 13, 3) := by decide +kernel
theorem dX11_keyAt_62 : decode cX11_keyAt 62 = .ok (.new 157, 3) := by decide +kernel
theorem dX11_keyAt_65 : decode cX11_keyAt 65 = .ok (.dup, 1) := by decide +kernel
theorem dX11_keyAt_66 : decode cX11_keyAt 66 = .ok (.ldc 159, 2) := by decide +kernel
theorem dX11_keyAt_68 : decode cX11_keyAt 68 = .ok (.invokespecial 161, 3) := by decide +kernel
theorem dX11_keyAt_71 : decode cX11_keyAt 71 = .ok (.athrow, 1) := by decide +kernel
theorem dX11_keyAt_72 : decode cX11_keyAt 72 = .ok (.iload 5, 2) := by decide +kernel
theorem dX11_keyAt_74 : decode cX11_keyAt 74 = .ok (.ireturn, 1) := by decide +kernel
set_option maxRecDepth 20000 in
theorem ggX11_rights_X8_find : GoodIn wsX11_rights wsX8_find := goodIn_r _ [12, 13, 14, 40, 41] (by decide +kernel) (by decide +kernel)
set_option maxRecDepth 20000 in
theorem gX11_rights_X8_find : GoodIn wsX11_rights (wsV RX11 41 RX8 yX8_find wsX8_find) := goodIn_app (goodIn_of _ (by decide +kernel)) ggX11_rights_X8_find
set_option maxRecDepth 20000 in
theorem ggX11_rights_X11_isKey : GoodIn wsX11_rights wsX11_isKey := goodIn_r _ [18] (by decide +kernel) (by decide +kernel)
set_option maxRecDepth 20000 in
theorem gX11_rights_X11_isKey : GoodIn wsX11_rights (va_wsS RX11 100 yX11_isKey wsX11_isKey) := goodIn_app (goodIn_of _ (by decide +kernel)) ggX11_rights_X11_isKey
set_option maxRecDepth 20000 in
theorem ggX11_rights_X8_plainBehind : GoodIn wsX11_rights wsX8_plainBehind := goodIn_r _ [22, 23, 24, 25, 26, 27, 28, 29, 30, 42, 43, 44, 45, 46, 47, 48, 49, 50] (by decide +kernel) (by decide +kernel)
set_option maxRecDepth 20000 in
theorem gX11_rights_X8_plainBehind : GoodIn wsX11_rights (wsV RX11 110 RX8 yX8_plainBehind wsX8_plainBehind) := goodIn_app (goodIn_of _ (by decide +kernel)) ggX11_rights_X8_plainBehind
set_option maxRecDepth 20000 in
theorem ggX11_rights_X7_rightsOf : GoodIn wsX11_rights wsX7_rightsOf := goodIn_ca (goodIn_r _ [34, 35, 42, 43, 44, 45, 46, 47, 48, 49, 50] (by decide +kernel) (by decide +kernel)) (goodIn_sub (fun _ h => List.mem_cons_of_mem _ (List.mem_append_right _ h)) (by decide +kernel))
set_option maxRecDepth 20000 in
theorem gX11_rights_X7_rightsOf : GoodIn wsX11_rights (wsV RX11 162 RX7 yX7_rightsOf wsX7_rightsOf) := goodIn_app (goodIn_of _ (by decide +kernel)) ggX11_rights_X7_rightsOf
theorem dX11_rights_0 : decode cX11_rights 0 = .ok (.aload_n 0, 1) := by decide +kernel
theorem dX11_rights_1 : decode cX11_rights 1 = .ok (.getfield 10, 3) := by decide +kernel
theorem dX11_rights_4 : decode cX11_rights 4 = .ok (.iload_n 1, 1) := by decide +kernel
theorem dX11_rights_5 : decode cX11_rights 5 = .ok (.invokevirtual 41, 3) := by decide +kernel
theorem dX11_rights_8 : decode cX11_rights 8 = .ok (.astore_n 3, 1) := by decide +kernel
theorem dX11_rights_9 : decode cX11_rights 9 = .ok (.aload_n 3, 1) := by decide +kernel
theorem dX11_rights_10 : decode cX11_rights 10 = .ok (.ifnull 10, 3) := by decide +kernel
theorem dX11_rights_13 : decode cX11_rights 13 = .ok (.iload_n 2, 1) := by decide +kernel
theorem dX11_rights_14 : decode cX11_rights 14 = .ok (.invokestatic 100, 3) := by decide +kernel
theorem dX11_rights_17 : decode cX11_rights 17 = .ok (.ifCond .ne 13, 3) := by decide +kernel
theorem dX11_rights_20 : decode cX11_rights 20 = .ok (.new 45, 3) := by decide +kernel
theorem dX11_rights_23 : decode cX11_rights 23 = .ok (.dup, 1) := by decide +kernel
theorem dX11_rights_24 : decode cX11_rights 24 = .ok (.ldc 103, 2) := by decide +kernel
theorem dX11_rights_26 : decode cX11_rights 26 = .ok (.invokespecial 49, 3) := by decide +kernel
theorem dX11_rights_29 : decode cX11_rights 29 = .ok (.athrow, 1) := by decide +kernel
theorem dX11_rights_30 : decode cX11_rights 30 = .ok (.aload_n 0, 1) := by decide +kernel
theorem dX11_rights_31 : decode cX11_rights 31 = .ok (.getfield 10, 3) := by decide +kernel
theorem dX11_rights_34 : decode cX11_rights 34 = .ok (.aload_n 3, 1) := by decide +kernel
theorem dX11_rights_35 : decode cX11_rights 35 = .ok (.invokevirtual 110, 3) := by decide +kernel
theorem dX11_rights_38 : decode cX11_rights 38 = .ok (.astore 4, 2) := by decide +kernel
theorem dX11_rights_40 : decode cX11_rights 40 = .ok (.aload 4, 2) := by decide +kernel
theorem dX11_rights_42 : decode cX11_rights 42 = .ok (.ifnonnull 13, 3) := by decide +kernel
theorem dX11_rights_45 : decode cX11_rights 45 = .ok (.new 130, 3) := by decide +kernel
theorem dX11_rights_48 : decode cX11_rights 48 = .ok (.dup, 1) := by decide +kernel
theorem dX11_rights_49 : decode cX11_rights 49 = .ok (.ldc 132, 2) := by decide +kernel
theorem dX11_rights_51 : decode cX11_rights 51 = .ok (.invokespecial 134, 3) := by decide +kernel
theorem dX11_rights_54 : decode cX11_rights 54 = .ok (.athrow, 1) := by decide +kernel
theorem dX11_rights_55 : decode cX11_rights 55 = .ok (.aload 4, 2) := by decide +kernel
theorem dX11_rights_57 : decode cX11_rights 57 = .ok (.iload_n 2, 1) := by decide +kernel
theorem dX11_rights_58 : decode cX11_rights 58 = .ok (.invokevirtual 162, 3) := by decide +kernel
theorem dX11_rights_61 : decode cX11_rights 61 = .ok (.istore 5, 2) := by decide +kernel
theorem dX11_rights_63 : decode cX11_rights 63 = .ok (.iload 5, 2) := by decide +kernel
theorem dX11_rights_65 : decode cX11_rights 65 = .ok (.iconst (-1), 1) := by decide +kernel
theorem dX11_rights_66 : decode cX11_rights 66 = .ok (.if_icmp .ne 13, 3) := by decide +kernel
theorem dX11_rights_69 : decode cX11_rights 69 = .ok (.new 157, 3) := by decide +kernel
theorem dX11_rights_72 : decode cX11_rights 72 = .ok (.dup, 1) := by decide +kernel
theorem dX11_rights_73 : decode cX11_rights 73 = .ok (.ldc 165, 2) := by decide +kernel
theorem dX11_rights_75 : decode cX11_rights 75 = .ok (.invokespecial 161, 3) := by decide +kernel
theorem dX11_rights_78 : decode cX11_rights 78 = .ok (.athrow, 1) := by decide +kernel
theorem dX11_rights_79 : decode cX11_rights 79 = .ok (.iload 5, 2) := by decide +kernel
theorem dX11_rights_81 : decode cX11_rights 81 = .ok (.ireturn, 1) := by decide +kernel
set_option maxRecDepth 20000 in
theorem ggX11_isSound_X5_isSettledClean : GoodIn wsX11_isSound wsX5_isSettledClean := goodIn_r _ [8, 9, 10, 11, 12, 13, 14, 7, 15, 16, 63, 64, 65, 66, 67, 68, 69, 70] (by decide +kernel) (by decide +kernel)
set_option maxRecDepth 20000 in
theorem gX11_isSound_X5_isSettledClean : GoodIn wsX11_isSound (wsV RX11 281 RX5 yX5_isSettledClean wsX5_isSettledClean) := goodIn_app (goodIn_of _ (by decide +kernel)) ggX11_isSound_X5_isSettledClean
set_option maxRecDepth 20000 in
theorem ggX11_isSound_X2_hasJob : GoodIn wsX11_isSound wsX2_hasJob := goodIn_r _ [21, 22, 71, 72, 73] (by decide +kernel) (by decide +kernel)
set_option maxRecDepth 20000 in
theorem gX11_isSound_X2_hasJob : GoodIn wsX11_isSound (wsV RX11 284 RX2 yX2_hasJob wsX2_hasJob) := goodIn_app (goodIn_of _ (by decide +kernel)) ggX11_isSound_X2_hasJob
set_option maxRecDepth 20000 in
theorem ggX11_isSound_X8_areListed : GoodIn wsX11_isSound wsX8_areListed := goodIn_ca (goodIn_r _ [27, 28, 29, 30, 31, 26, 32, 33, 34, 35, 36, 37, 38, 39, 40, 41, 42, 43, 44, 45, 46, 47, 48, 49, 50, 51, 52, 53, 54, 55, 56, 57, 58, 74, 75, 76, 77, 78, 79, 80, 81, 82, 83, 84] (by decide +kernel) (by decide +kernel)) (goodIn_sub (fun _ h => List.mem_cons_of_mem _ (List.mem_append_right _ h)) (by decide +kernel))
set_option maxRecDepth 20000 in
theorem gX11_isSound_X8_areListed : GoodIn wsX11_isSound (wsV RX11 287 RX8 yX8_areListed wsX8_areListed) := goodIn_app (goodIn_of _ (by decide +kernel)) ggX11_isSound_X8_areListed
theorem dX11_isSound_0 : decode cX11_isSound 0 = .ok (.aload_n 0, 1) := by decide +kernel
theorem dX11_isSound_1 : decode cX11_isSound 1 = .ok (.getfield 28, 3) := by decide +kernel
theorem dX11_isSound_4 : decode cX11_isSound 4 = .ok (.invokevirtual 281, 3) := by decide +kernel
theorem dX11_isSound_7 : decode cX11_isSound 7 = .ok (.ifCond .eq 27, 3) := by decide +kernel
theorem dX11_isSound_10 : decode cX11_isSound 10 = .ok (.aload_n 0, 1) := by decide +kernel
theorem dX11_isSound_11 : decode cX11_isSound 11 = .ok (.getfield 19, 3) := by decide +kernel
theorem dX11_isSound_14 : decode cX11_isSound 14 = .ok (.invokevirtual 284, 3) := by decide +kernel
theorem dX11_isSound_17 : decode cX11_isSound 17 = .ok (.ifCond .ne 17, 3) := by decide +kernel
theorem dX11_isSound_20 : decode cX11_isSound 20 = .ok (.aload_n 0, 1) := by decide +kernel
theorem dX11_isSound_21 : decode cX11_isSound 21 = .ok (.getfield 10, 3) := by decide +kernel
theorem dX11_isSound_24 : decode cX11_isSound 24 = .ok (.invokevirtual 287, 3) := by decide +kernel
theorem dX11_isSound_27 : decode cX11_isSound 27 = .ok (.ifCond .eq 7, 3) := by decide +kernel
theorem dX11_isSound_30 : decode cX11_isSound 30 = .ok (.iconst 1, 1) := by decide +kernel
theorem dX11_isSound_31 : decode cX11_isSound 31 = .ok (.goto 4, 3) := by decide +kernel
theorem dX11_isSound_34 : decode cX11_isSound 34 = .ok (.iconst 0, 1) := by decide +kernel
theorem dX11_isSound_35 : decode cX11_isSound 35 = .ok (.ireturn, 1) := by decide +kernel
theorem dX11_isKey_0 : decode cX11_isKey 0 = .ok (.iload_n 0, 1) := by decide +kernel
theorem dX11_isKey_1 : decode cX11_isKey 1 = .ok (.ifCond .lt 13, 3) := by decide +kernel
theorem dX11_isKey_4 : decode cX11_isKey 4 = .ok (.iload_n 0, 1) := by decide +kernel
theorem dX11_isKey_5 : decode cX11_isKey 5 = .ok (.bipush 20, 2) := by decide +kernel
theorem dX11_isKey_7 : decode cX11_isKey 7 = .ok (.if_icmp .ge 7, 3) := by decide +kernel
theorem dX11_isKey_10 : decode cX11_isKey 10 = .ok (.iconst 1, 1) := by decide +kernel
theorem dX11_isKey_11 : decode cX11_isKey 11 = .ok (.goto 4, 3) := by decide +kernel
theorem dX11_isKey_14 : decode cX11_isKey 14 = .ok (.iconst 0, 1) := by decide +kernel
theorem dX11_isKey_15 : decode cX11_isKey 15 = .ok (.ireturn, 1) := by decide +kernel
theorem dX11_isValue_0 : decode cX11_isValue 0 = .ok (.iload_n 0, 1) := by decide +kernel
theorem dX11_isValue_1 : decode cX11_isValue 1 = .ok (.sipush (-9999), 3) := by decide +kernel
theorem dX11_isValue_4 : decode cX11_isValue 4 = .ok (.if_icmp .lt 14, 3) := by decide +kernel
theorem dX11_isValue_7 : decode cX11_isValue 7 = .ok (.iload_n 0, 1) := by decide +kernel
theorem dX11_isValue_8 : decode cX11_isValue 8 = .ok (.sipush 9999, 3) := by decide +kernel
theorem dX11_isValue_11 : decode cX11_isValue 11 = .ok (.if_icmp .gt 7, 3) := by decide +kernel
theorem dX11_isValue_14 : decode cX11_isValue 14 = .ok (.iconst 1, 1) := by decide +kernel
theorem dX11_isValue_15 : decode cX11_isValue 15 = .ok (.goto 4, 3) := by decide +kernel
theorem dX11_isValue_18 : decode cX11_isValue 18 = .ok (.iconst 0, 1) := by decide +kernel
theorem dX11_isValue_19 : decode cX11_isValue 19 = .ok (.ireturn, 1) := by decide +kernel
theorem dX11_kindOf_0 : decode cX11_kindOf 0 = .ok (.iload_n 0, 1) := by decide +kernel
theorem dX11_kindOf_1 : decode cX11_kindOf 1 = .ok (.lookupswitch 51 #[(100, 49), (103, 43), (104, 45), (115, 47)], 43) := by decide +kernel
theorem dX11_kindOf_44 : decode cX11_kindOf 44 = .ok (.iconst 0, 1) := by decide +kernel
theorem dX11_kindOf_45 : decode cX11_kindOf 45 = .ok (.ireturn, 1) := by decide +kernel
theorem dX11_kindOf_46 : decode cX11_kindOf 46 = .ok (.iconst 1, 1) := by decide +kernel
theorem dX11_kindOf_47 : decode cX11_kindOf 47 = .ok (.ireturn, 1) := by decide +kernel
theorem dX11_kindOf_48 : decode cX11_kindOf 48 = .ok (.iconst 2, 1) := by decide +kernel
theorem dX11_kindOf_49 : decode cX11_kindOf 49 = .ok (.ireturn, 1) := by decide +kernel
theorem dX11_kindOf_50 : decode cX11_kindOf 50 = .ok (.iconst 3, 1) := by decide +kernel
theorem dX11_kindOf_51 : decode cX11_kindOf 51 = .ok (.ireturn, 1) := by decide +kernel
theorem dX11_kindOf_52 : decode cX11_kindOf 52 = .ok (.iconst (-1), 1) := by decide +kernel
theorem dX11_kindOf_53 : decode cX11_kindOf 53 = .ok (.ireturn, 1) := by decide +kernel
set_option maxRecDepth 20000 in
theorem ggX11_isAnswer_X11_isValue : GoodIn wsX11_isAnswer wsX11_isValue := goodIn_r _ [4] (by decide +kernel) (by decide +kernel)
set_option maxRecDepth 20000 in
theorem gX11_isAnswer_X11_isValue : GoodIn wsX11_isAnswer (va_wsS RX11 105 yX11_isValue wsX11_isValue) := goodIn_app (goodIn_of _ (by decide +kernel)) ggX11_isAnswer_X11_isValue
theorem dX11_isAnswer_0 : decode cX11_isAnswer 0 = .ok (.iload_n 0, 1) := by decide +kernel
theorem dX11_isAnswer_1 : decode cX11_isAnswer 1 = .ok (.ifCond .ne 10, 3) := by decide +kernel
theorem dX11_isAnswer_4 : decode cX11_isAnswer 4 = .ok (.iload_n 1, 1) := by decide +kernel
theorem dX11_isAnswer_5 : decode cX11_isAnswer 5 = .ok (.invokestatic 105, 3) := by decide +kernel
theorem dX11_isAnswer_8 : decode cX11_isAnswer 8 = .ok (.goto 17, 3) := by decide +kernel
theorem dX11_isAnswer_11 : decode cX11_isAnswer 11 = .ok (.iload_n 1, 1) := by decide +kernel
theorem dX11_isAnswer_12 : decode cX11_isAnswer 12 = .ok (.ifCond .eq 8, 3) := by decide +kernel
theorem dX11_isAnswer_15 : decode cX11_isAnswer 15 = .ok (.iload_n 1, 1) := by decide +kernel
theorem dX11_isAnswer_16 : decode cX11_isAnswer 16 = .ok (.iconst 1, 1) := by decide +kernel
theorem dX11_isAnswer_17 : decode cX11_isAnswer 17 = .ok (.if_icmp .ne 7, 3) := by decide +kernel
theorem dX11_isAnswer_20 : decode cX11_isAnswer 20 = .ok (.iconst 1, 1) := by decide +kernel
theorem dX11_isAnswer_21 : decode cX11_isAnswer 21 = .ok (.goto 4, 3) := by decide +kernel
theorem dX11_isAnswer_24 : decode cX11_isAnswer 24 = .ok (.iconst 0, 1) := by decide +kernel
theorem dX11_isAnswer_25 : decode cX11_isAnswer 25 = .ok (.ireturn, 1) := by decide +kernel
theorem dJx00060_init_a7421_0 : decode cJx00060_init_a7421 0 = .ok (.aload_n 0, 1) := by decide +kernel
theorem dJx00060_init_a7421_1 : decode cJx00060_init_a7421 1 = .ok (.aload_n 1, 1) := by decide +kernel
theorem dJx00060_init_a7421_2 : decode cJx00060_init_a7421 2 = .ok (.invokespecial 7, 3) := by decide +kernel
theorem dJx00060_init_a7421_5 : decode cJx00060_init_a7421 5 = .ok (.return_, 1) := by decide +kernel
set_option maxRecDepth 20000 in
theorem ggJ0_charAt_5068e_J0_isLatin1_aae02 : GoodIn wsJ0_charAt_5068e wsJ0_isLatin1_aae02 := goodIn_r _ [6, 7, 8, 38, 39] (by decide +kernel) (by decide +kernel)
set_option maxRecDepth 20000 in
theorem gJ0_charAt_5068e_J0_isLatin1_aae02 : GoodIn wsJ0_charAt_5068e (wsV RJ0 492 RJ0 yJ0_isLatin1_aae02 wsJ0_isLatin1_aae02) := goodIn_app (goodIn_of _ (by decide +kernel)) ggJ0_charAt_5068e_J0_isLatin1_aae02
set_option maxRecDepth 20000 in
theorem ggJ0_charAt_5068e_J1_charAt_3b067 : GoodIn wsJ0_charAt_5068e wsJ1_charAt_3b067 := goodIn_r _ [12, 13, 14, 5, 15, 16, 17, 18, 19, 20] (by decide +kernel) (by decide +kernel)
set_option maxRecDepth 20000 in
theorem gJ0_charAt_5068e_J1_charAt_3b067 : GoodIn wsJ0_charAt_5068e (va_wsS RJ0 495 yJ1_charAt_3b067 wsJ1_charAt_3b067) := goodIn_app (goodIn_of _ (by decide +kernel)) ggJ0_charAt_5068e_J1_charAt_3b067
set_option maxRecDepth 20000 in
theorem ggJ0_charAt_5068e_J2_charAt_3b067 : GoodIn wsJ0_charAt_5068e wsJ2_charAt_3b067 := goodIn_r _ [24, 25, 26, 23, 27, 28, 29, 30, 31, 14, 5, 15, 16, 17, 18, 19, 20, 32, 33, 34, 35, 36, 37] (by decide +kernel) (by decide +kernel)
set_option maxRecDepth 20000 in
theorem gJ0_charAt_5068e_J2_charAt_3b067 : GoodIn wsJ0_charAt_5068e (va_wsS RJ0 498 yJ2_charAt_3b067 wsJ2_charAt_3b067) := goodIn_app (goodIn_of _ (by decide +kernel)) ggJ0_charAt_5068e_J2_charAt_3b067
theorem dJ0_charAt_5068e_0 : decode cJ0_charAt_5068e 0 = .ok (.aload_n 0, 1) := by decide +kernel
theorem dJ0_charAt_5068e_1 : decode cJ0_charAt_5068e 1 = .ok (.invokevirtual 492, 3) := by decide +kernel
theorem dJ0_charAt_5068e_4 : decode cJ0_charAt_5068e 4 = .ok (.ifCond .eq 12, 3) := by decide +kernel
theorem dJ0_charAt_5068e_7 : decode cJ0_charAt_5068e 7 = .ok (.aload_n 0, 1) := by decide +kernel
theorem dJ0_charAt_5068e_8 : decode cJ0_charAt_5068e 8 = .ok (.getfield 9, 3) := by decide +kernel
theorem dJ0_charAt_5068e_11 : decode cJ0_charAt_5068e 11 = .ok (.iload_n 1, 1) := by decide +kernel
theorem dJ0_charAt_5068e_12 : decode cJ0_charAt_5068e 12 = .ok (.invokestatic 495, 3) := by decide +kernel
theorem dJ0_charAt_5068e_15 : decode cJ0_charAt_5068e 15 = .ok (.ireturn, 1) := by decide +kernel
theorem dJ0_charAt_5068e_16 : decode cJ0_charAt_5068e 16 = .ok (.aload_n 0, 1) := by decide +kernel
theorem dJ0_charAt_5068e_17 : decode cJ0_charAt_5068e 17 = .ok (.getfield 9, 3) := by decide +kernel
theorem dJ0_charAt_5068e_20 : decode cJ0_charAt_5068e 20 = .ok (.iload_n 1, 1) := by decide +kernel
theorem dJ0_charAt_5068e_21 : decode cJ0_charAt_5068e 21 = .ok (.invokestatic 498, 3) := by decide +kernel
theorem dJ0_charAt_5068e_24 : decode cJ0_charAt_5068e 24 = .ok (.ireturn, 1) := by decide +kernel
theorem dJ0_isLatin1_aae02_0 : decode cJ0_isLatin1_aae02 0 = .ok (.getstatic 38, 3) := by decide +kernel
theorem dJ0_isLatin1_aae02_3 : decode cJ0_isLatin1_aae02 3 = .ok (.ifCond .eq 14, 3) := by decide +kernel
theorem dJ0_isLatin1_aae02_6 : decode cJ0_isLatin1_aae02 6 = .ok (.aload_n 0, 1) := by decide +kernel
theorem dJ0_isLatin1_aae02_7 : decode cJ0_isLatin1_aae02 7 = .ok (.getfield 15, 3) := by decide +kernel
theorem dJ0_isLatin1_aae02_10 : decode cJ0_isLatin1_aae02 10 = .ok (.ifCond .ne 7, 3) := by decide +kernel
theorem dJ0_isLatin1_aae02_13 : decode cJ0_isLatin1_aae02 13 = .ok (.iconst 1, 1) := by decide +kernel
theorem dJ0_isLatin1_aae02_14 : decode cJ0_isLatin1_aae02 14 = .ok (.goto 4, 3) := by decide +kernel
theorem dJ0_isLatin1_aae02_17 : decode cJ0_isLatin1_aae02 17 = .ok (.iconst 0, 1) := by decide +kernel
theorem dJ0_isLatin1_aae02_18 : decode cJ0_isLatin1_aae02 18 = .ok (.ireturn, 1) := by decide +kernel
set_option maxRecDepth 20000 in
theorem ggJ0_checkIndex_df160_J3_checkIndex_8e157 : GoodIn wsJ0_checkIndex_df160 wsJ3_checkIndex_8e157 := goodIn_r _ [5] (by decide +kernel) (by decide +kernel)
set_option maxRecDepth 20000 in
theorem gJ0_checkIndex_df160_J3_checkIndex_8e157 : GoodIn wsJ0_checkIndex_df160 (va_wsS RJ0 1059 yJ3_checkIndex_8e157 wsJ3_checkIndex_8e157) := goodIn_app (goodIn_of _ (by decide +kernel)) ggJ0_checkIndex_df160_J3_checkIndex_8e157
theorem dJ0_checkIndex_df160_0 : decode cJ0_checkIndex_df160 0 = .ok (.iload_n 0, 1) := by decide +kernel
theorem dJ0_checkIndex_df160_1 : decode cJ0_checkIndex_df160 1 = .ok (.iload_n 1, 1) := by decide +kernel
theorem dJ0_checkIndex_df160_2 : decode cJ0_checkIndex_df160 2 = .ok (.getstatic 1053, 3) := by decide +kernel
theorem dJ0_checkIndex_df160_5 : decode cJ0_checkIndex_df160 5 = .ok (.invokestatic 1059, 3) := by decide +kernel
theorem dJ0_checkIndex_df160_8 : decode cJ0_checkIndex_df160 8 = .ok (.pop, 1) := by decide +kernel
theorem dJ0_checkIndex_df160_9 : decode cJ0_checkIndex_df160 9 = .ok (.return_, 1) := by decide +kernel
set_option maxRecDepth 20000 in
theorem ggJ1_charAt_3b067_J0_checkIndex_df160 : GoodIn wsJ1_charAt_3b067 wsJ0_checkIndex_df160 := goodIn_r _ [4, 5, 6, 7, 8, 9] (by decide +kernel) (by decide +kernel)
set_option maxRecDepth 20000 in
theorem gJ1_charAt_3b067_J0_checkIndex_df160 : GoodIn wsJ1_charAt_3b067 (va_wsS RJ1 9 yJ0_checkIndex_df160 wsJ0_checkIndex_df160) := goodIn_app (goodIn_of _ (by decide +kernel)) ggJ1_charAt_3b067_J0_checkIndex_df160
theorem dJ1_charAt_3b067_0 : decode cJ1_charAt_3b067 0 = .ok (.iload_n 1, 1) := by decide +kernel
theorem dJ1_charAt_3b067_1 : decode cJ1_charAt_3b067 1 = .ok (.aload_n 0, 1) := by decide +kernel
theorem dJ1_charAt_3b067_2 : decode cJ1_charAt_3b067 2 = .ok (.arraylength, 1) := by decide +kernel
theorem dJ1_charAt_3b067_3 : decode cJ1_charAt_3b067 3 = .ok (.invokestatic 9, 3) := by decide +kernel
theorem dJ1_charAt_3b067_6 : decode cJ1_charAt_3b067 6 = .ok (.aload_n 0, 1) := by decide +kernel
theorem dJ1_charAt_3b067_7 : decode cJ1_charAt_3b067 7 = .ok (.iload_n 1, 1) := by decide +kernel
theorem dJ1_charAt_3b067_8 : decode cJ1_charAt_3b067 8 = .ok (.baload, 1) := by decide +kernel
theorem dJ1_charAt_3b067_9 : decode cJ1_charAt_3b067 9 = .ok (.sipush 255, 3) := by decide +kernel
theorem dJ1_charAt_3b067_12 : decode cJ1_charAt_3b067 12 = .ok (.iand, 1) := by decide +kernel
theorem dJ1_charAt_3b067_13 : decode cJ1_charAt_3b067 13 = .ok (.i2c, 1) := by decide +kernel
theorem dJ1_charAt_3b067_14 : decode cJ1_charAt_3b067 14 = .ok (.ireturn, 1) := by decide +kernel
set_option maxRecDepth 20000 in
theorem ggJ2_getChar_3b067_J2_length_9d52b : GoodIn wsJ2_getChar_3b067 wsJ2_length_9d52b := goodIn_r _ [7] (by decide +kernel) (by decide +kernel)
set_option maxRecDepth 20000 in
theorem gJ2_getChar_3b067_J2_length_9d52b : GoodIn wsJ2_getChar_3b067 (va_wsS RJ2 48 yJ2_length_9d52b wsJ2_length_9d52b) := goodIn_app (goodIn_of _ (by decide +kernel)) ggJ2_getChar_3b067_J2_length_9d52b
theorem dJ2_getChar_3b067_0 : decode cJ2_getChar_3b067 0 = .ok (.getstatic 44, 3) := by decide +kernel
theorem dJ2_getChar_3b067_3 : decode cJ2_getChar_3b067 3 = .ok (.ifCond .ne 25, 3) := by decide +kernel
theorem dJ2_getChar_3b067_6 : decode cJ2_getChar_3b067 6 = .ok (.iload_n 1, 1) := by decide +kernel
theorem dJ2_getChar_3b067_7 : decode cJ2_getChar_3b067 7 = .ok (.ifCond .lt 11, 3) := by decide +kernel
theorem dJ2_getChar_3b067_10 : decode cJ2_getChar_3b067 10 = .ok (.iload_n 1, 1) := by decide +kernel
theorem dJ2_getChar_3b067_11 : decode cJ2_getChar_3b067 11 = .ok (.aload_n 0, 1) := by decide +kernel
theorem dJ2_getChar_3b067_12 : decode cJ2_getChar_3b067 12 = .ok (.invokestatic 48, 3) := by decide +kernel
theorem dJ2_getChar_3b067_15 : decode cJ2_getChar_3b067 15 = .ok (.if_icmp .lt 13, 3) := by decide +kernel
theorem dJ2_getChar_3b067_18 : decode cJ2_getChar_3b067 18 = .ok (.new 52, 3) := by decide +kernel
theorem dJ2_getChar_3b067_21 : decode cJ2_getChar_3b067 21 = .ok (.dup, 1) := by decide +kernel
theorem dJ2_getChar_3b067_22 : decode cJ2_getChar_3b067 22 = .ok (.ldc 54, 2) := by decide +kernel
theorem dJ2_getChar_3b067_24 : decode cJ2_getChar_3b067 24 = .ok (.invokespecial 56, 3) := by decide +kernel
theorem dJ2_getChar_3b067_27 : decode cJ2_getChar_3b067 27 = .ok (.athrow, 1) := by decide +kernel
theorem dJ2_getChar_3b067_28 : decode cJ2_getChar_3b067 28 = .ok (.iload_n 1, 1) := by decide +kernel
theorem dJ2_getChar_3b067_29 : decode cJ2_getChar_3b067 29 = .ok (.iconst 1, 1) := by decide +kernel
theorem dJ2_getChar_3b067_30 : decode cJ2_getChar_3b067 30 = .ok (.ishl, 1) := by decide +kernel
theorem dJ2_getChar_3b067_31 : decode cJ2_getChar_3b067 31 = .ok (.istore_n 1, 1) := by decide +kernel
theorem dJ2_getChar_3b067_32 : decode cJ2_getChar_3b067 32 = .ok (.aload_n 0, 1) := by decide +kernel
theorem dJ2_getChar_3b067_33 : decode cJ2_getChar_3b067 33 = .ok (.iload_n 1, 1) := by decide +kernel
theorem dJ2_getChar_3b067_34 : decode cJ2_getChar_3b067 34 = .ok (.iinc 1 1, 3) := by decide +kernel
theorem dJ2_getChar_3b067_37 : decode cJ2_getChar_3b067 37 = .ok (.baload, 1) := by decide +kernel
theorem dJ2_getChar_3b067_38 : decode cJ2_getChar_3b067 38 = .ok (.sipush 255, 3) := by decide +kernel
theorem dJ2_getChar_3b067_41 : decode cJ2_getChar_3b067 41 = .ok (.iand, 1) := by decide +kernel
theorem dJ2_getChar_3b067_42 : decode cJ2_getChar_3b067 42 = .ok (.getstatic 59, 3) := by decide +kernel
theorem dJ2_getChar_3b067_45 : decode cJ2_getChar_3b067 45 = .ok (.ishl, 1) := by decide +kernel
theorem dJ2_getChar_3b067_46 : decode cJ2_getChar_3b067 46 = .ok (.aload_n 0, 1) := by decide +kernel
theorem dJ2_getChar_3b067_47 : decode cJ2_getChar_3b067 47 = .ok (.iload_n 1, 1) := by decide +kernel
theorem dJ2_getChar_3b067_48 : decode cJ2_getChar_3b067 48 = .ok (.baload, 1) := by decide +kernel
theorem dJ2_getChar_3b067_49 : decode cJ2_getChar_3b067 49 = .ok (.sipush 255, 3) := by decide +kernel
theorem dJ2_getChar_3b067_52 : decode cJ2_getChar_3b067 52 = .ok (.iand, 1) := by decide +kernel
theorem dJ2_getChar_3b067_53 : decode cJ2_getChar_3b067 53 = .ok (.getstatic 63, 3) := by decide +kernel
theorem dJ2_getChar_3b067_56 : decode cJ2_getChar_3b067 56 = .ok (.ishl, 1) := by decide +kernel
theorem dJ2_getChar_3b067_57 : decode cJ2_getChar_3b067 57 = .ok (.ior, 1) := by decide +kernel
theorem dJ2_getChar_3b067_58 : decode cJ2_getChar_3b067 58 = .ok (.i2c, 1) := by decide +kernel
theorem dJ2_getChar_3b067_59 : decode cJ2_getChar_3b067 59 = .ok (.ireturn, 1) := by decide +kernel
theorem dJ2_length_9d52b_0 : decode cJ2_length_9d52b 0 = .ok (.aload_n 0, 1) := by decide +kernel
theorem dJ2_length_9d52b_1 : decode cJ2_length_9d52b 1 = .ok (.arraylength, 1) := by decide +kernel
theorem dJ2_length_9d52b_2 : decode cJ2_length_9d52b 2 = .ok (.iconst 1, 1) := by decide +kernel
theorem dJ2_length_9d52b_3 : decode cJ2_length_9d52b 3 = .ok (.ishr, 1) := by decide +kernel
theorem dJ2_length_9d52b_4 : decode cJ2_length_9d52b 4 = .ok (.ireturn, 1) := by decide +kernel
set_option maxRecDepth 20000 in
theorem ggJ2_charAt_3b067_J2_checkIndex_2214a : GoodIn wsJ2_charAt_3b067 wsJ2_checkIndex_2214a := goodIn_r _ [4, 5, 6, 3, 7, 8, 9, 10, 11, 12, 13, 14, 15, 16] (by decide +kernel) (by decide +kernel)
set_option maxRecDepth 20000 in
theorem gJ2_charAt_3b067_J2_checkIndex_2214a : GoodIn wsJ2_charAt_3b067 (va_wsS RJ2 67 yJ2_checkIndex_2214a wsJ2_checkIndex_2214a) := goodIn_app (goodIn_of _ (by decide +kernel)) ggJ2_charAt_3b067_J2_checkIndex_2214a
set_option maxRecDepth 20000 in
theorem ggJ2_charAt_3b067_J2_getChar_3b067 : GoodIn wsJ2_charAt_3b067 wsJ2_getChar_3b067 := goodIn_r _ [19, 20, 21, 22, 5, 6, 3, 7] (by decide +kernel) (by decide +kernel)
set_option maxRecDepth 20000 in
theorem gJ2_charAt_3b067_J2_getChar_3b067 : GoodIn wsJ2_charAt_3b067 (va_wsS RJ2 71 yJ2_getChar_3b067 wsJ2_getChar_3b067) := goodIn_app (goodIn_of _ (by decide +kernel)) ggJ2_charAt_3b067_J2_getChar_3b067
theorem dJ2_charAt_3b067_0 : decode cJ2_charAt_3b067 0 = .ok (.iload_n 1, 1) := by decide +kernel
theorem dJ2_charAt_3b067_1 : decode cJ2_charAt_3b067 1 = .ok (.aload_n 0, 1) := by decide +kernel
theorem dJ2_charAt_3b067_2 : decode cJ2_charAt_3b067 2 = .ok (.invokestatic 67, 3) := by decide +kernel
theorem dJ2_charAt_3b067_5 : decode cJ2_charAt_3b067 5 = .ok (.aload_n 0, 1) := by decide +kernel
theorem dJ2_charAt_3b067_6 : decode cJ2_charAt_3b067 6 = .ok (.iload_n 1, 1) := by decide +kernel
theorem dJ2_charAt_3b067_7 : decode cJ2_charAt_3b067 7 = .ok (.invokestatic 71, 3) := by decide +kernel
theorem dJ2_charAt_3b067_10 : decode cJ2_charAt_3b067 10 = .ok (.ireturn, 1) := by decide +kernel
set_option maxRecDepth 20000 in
theorem ggJ2_checkIndex_2214a_J2_length_9d52b : GoodIn wsJ2_checkIndex_2214a wsJ2_length_9d52b := goodIn_r _ [4] (by decide +kernel) (by decide +kernel)
set_option maxRecDepth 20000 in
theorem gJ2_checkIndex_2214a_J2_length_9d52b : GoodIn wsJ2_checkIndex_2214a (va_wsS RJ2 48 yJ2_length_9d52b wsJ2_length_9d52b) := goodIn_app (goodIn_of _ (by decide +kernel)) ggJ2_checkIndex_2214a_J2_length_9d52b
set_option maxRecDepth 20000 in
theorem ggJ2_checkIndex_2214a_J0_checkIndex_df160 : GoodIn wsJ2_checkIndex_2214a wsJ0_checkIndex_df160 := goodIn_r _ [8, 9, 10, 11, 12, 13] (by decide +kernel) (by decide +kernel)
set_option maxRecDepth 20000 in
theorem gJ2_checkIndex_2214a_J0_checkIndex_df160 : GoodIn wsJ2_checkIndex_2214a (va_wsS RJ2 414 yJ0_checkIndex_df160 wsJ0_checkIndex_df160) := goodIn_app (goodIn_of _ (by decide +kernel)) ggJ2_checkIndex_2214a_J0_checkIndex_df160
theorem dJ2_checkIndex_2214a_0 : decode cJ2_checkIndex_2214a 0 = .ok (.iload_n 0, 1) := by decide +kernel
theorem dJ2_checkIndex_2214a_1 : decode cJ2_checkIndex_2214a 1 = .ok (.aload_n 1, 1) := by decide +kernel
theorem dJ2_checkIndex_2214a_2 : decode cJ2_checkIndex_2214a 2 = .ok (.invokestatic 48, 3) := by decide +kernel
theorem dJ2_checkIndex_2214a_5 : decode cJ2_checkIndex_2214a 5 = .ok (.invokestatic 414, 3) := by decide +kernel
theorem dJ2_checkIndex_2214a_8 : decode cJ2_checkIndex_2214a 8 = .ok (.return_, 1) := by decide +kernel
theorem dJ7_fill_53178_0 : decode cJ7_fill_53178 0 = .ok (.iconst 0, 1) := by decide +kernel
theorem dJ7_fill_53178_1 : decode cJ7_fill_53178 1 = .ok (.istore_n 2, 1) := by decide +kernel
theorem dJ7_fill_53178_2 : decode cJ7_fill_53178 2 = .ok (.aload_n 0, 1) := by decide +kernel
theorem dJ7_fill_53178_3 : decode cJ7_fill_53178 3 = .ok (.arraylength, 1) := by decide +kernel
theorem dJ7_fill_53178_4 : decode cJ7_fill_53178 4 = .ok (.istore_n 3, 1) := by decide +kernel
theorem dJ7_fill_53178_5 : decode cJ7_fill_53178 5 = .ok (.iload_n 2, 1) := by decide +kernel
theorem dJ7_fill_53178_6 : decode cJ7_fill_53178 6 = .ok (.iload_n 3, 1) := by decide +kernel
theorem dJ7_fill_53178_7 : decode cJ7_fill_53178 7 = .ok (.if_icmp .ge 13, 3) := by decide +kernel
theorem dJ7_fill_53178_10 : decode cJ7_fill_53178 10 = .ok (.aload_n 0, 1) := by decide +kernel
theorem dJ7_fill_53178_11 : decode cJ7_fill_53178 11 = .ok (.iload_n 2, 1) := by decide +kernel
theorem dJ7_fill_53178_12 : decode cJ7_fill_53178 12 = .ok (.iload_n 1, 1) := by decide +kernel
theorem dJ7_fill_53178_13 : decode cJ7_fill_53178 13 = .ok (.iastore, 1) := by decide +kernel
theorem dJ7_fill_53178_14 : decode cJ7_fill_53178 14 = .ok (.iinc 2 1, 3) := by decide +kernel
theorem dJ7_fill_53178_17 : decode cJ7_fill_53178 17 = .ok (.goto (-12), 3) := by decide +kernel
theorem dJ7_fill_53178_20 : decode cJ7_fill_53178 20 = .ok (.return_, 1) := by decide +kernel
theorem dJ3_checkIndex_8e157_0 : decode cJ3_checkIndex_8e157 0 = .ok (.iload_n 0, 1) := by decide +kernel
theorem dJ3_checkIndex_8e157_1 : decode cJ3_checkIndex_8e157 1 = .ok (.ifCond .lt 8, 3) := by decide +kernel
theorem dJ3_checkIndex_8e157_4 : decode cJ3_checkIndex_8e157 4 = .ok (.iload_n 0, 1) := by decide +kernel
theorem dJ3_checkIndex_8e157_5 : decode cJ3_checkIndex_8e157 5 = .ok (.iload_n 1, 1) := by decide +kernel
theorem dJ3_checkIndex_8e157_6 : decode cJ3_checkIndex_8e157 6 = .ok (.if_icmp .lt 10, 3) := by decide +kernel
theorem dJ3_checkIndex_8e157_9 : decode cJ3_checkIndex_8e157 9 = .ok (.aload_n 2, 1) := by decide +kernel
theorem dJ3_checkIndex_8e157_10 : decode cJ3_checkIndex_8e157 10 = .ok (.iload_n 0, 1) := by decide +kernel
theorem dJ3_checkIndex_8e157_11 : decode cJ3_checkIndex_8e157 11 = .ok (.iload_n 1, 1) := by decide +kernel
theorem dJ3_checkIndex_8e157_12 : decode cJ3_checkIndex_8e157 12 = .ok (.invokestatic 95, 3) := by decide +kernel
theorem dJ3_checkIndex_8e157_15 : decode cJ3_checkIndex_8e157 15 = .ok (.athrow, 1) := by decide +kernel
theorem dJ3_checkIndex_8e157_16 : decode cJ3_checkIndex_8e157 16 = .ok (.iload_n 0, 1) := by decide +kernel
theorem dJ3_checkIndex_8e157_17 : decode cJ3_checkIndex_8e157 17 = .ok (.ireturn, 1) := by decide +kernel
theorem dL_cell_0 : decode cL_cell 0 = .ok (.ldc 7, 2) := by decide +kernel
theorem dL_cell_2 : decode cL_cell 2 = .ok (.iload_n 1, 1) := by decide +kernel
theorem dL_cell_3 : decode cL_cell 3 = .ok (.aload_n 0, 1) := by decide +kernel
theorem dL_cell_4 : decode cL_cell 4 = .ok (.arraylength, 1) := by decide +kernel
theorem dL_cell_5 : decode cL_cell 5 = .ok (.if_icmp .ge 9, 3) := by decide +kernel
theorem dL_cell_8 : decode cL_cell 8 = .ok (.aload_n 0, 1) := by decide +kernel
theorem dL_cell_9 : decode cL_cell 9 = .ok (.iload_n 1, 1) := by decide +kernel
theorem dL_cell_10 : decode cL_cell 10 = .ok (.iaload, 1) := by decide +kernel
theorem dL_cell_11 : decode cL_cell 11 = .ok (.goto 4, 3) := by decide +kernel
theorem dL_cell_14 : decode cL_cell 14 = .ok (.iconst 0, 1) := by decide +kernel
theorem dL_cell_15 : decode cL_cell 15 = .ok (.sipush 1009, 3) := by decide +kernel
theorem dL_cell_18 : decode cL_cell 18 = .ok (.iload_n 1, 1) := by decide +kernel
theorem dL_cell_19 : decode cL_cell 19 = .ok (.imul, 1) := by decide +kernel
theorem dL_cell_20 : decode cL_cell 20 = .ok (.iadd, 1) := by decide +kernel
theorem dL_cell_21 : decode cL_cell 21 = .ok (.imul, 1) := by decide +kernel
theorem dL_cell_22 : decode cL_cell 22 = .ok (.sipush 12345, 3) := by decide +kernel
theorem dL_cell_25 : decode cL_cell 25 = .ok (.iadd, 1) := by decide +kernel
theorem dL_cell_26 : decode cL_cell 26 = .ok (.istore_n 2, 1) := by decide +kernel
theorem dL_cell_27 : decode cL_cell 27 = .ok (.iload_n 2, 1) := by decide +kernel
theorem dL_cell_28 : decode cL_cell 28 = .ok (.iload_n 2, 1) := by decide +kernel
theorem dL_cell_29 : decode cL_cell 29 = .ok (.bipush 13, 2) := by decide +kernel
theorem dL_cell_31 : decode cL_cell 31 = .ok (.iushr, 1) := by decide +kernel
theorem dL_cell_32 : decode cL_cell 32 = .ok (.ixor, 1) := by decide +kernel
theorem dL_cell_33 : decode cL_cell 33 = .ok (.ldc 8, 2) := by decide +kernel
theorem dL_cell_35 : decode cL_cell 35 = .ok (.imul, 1) := by decide +kernel
theorem dL_cell_36 : decode cL_cell 36 = .ok (.istore_n 2, 1) := by decide +kernel
theorem dL_cell_37 : decode cL_cell 37 = .ok (.iload_n 2, 1) := by decide +kernel
theorem dL_cell_38 : decode cL_cell 38 = .ok (.iload_n 2, 1) := by decide +kernel
theorem dL_cell_39 : decode cL_cell 39 = .ok (.bipush 16, 2) := by decide +kernel
theorem dL_cell_41 : decode cL_cell 41 = .ok (.iushr, 1) := by decide +kernel
theorem dL_cell_42 : decode cL_cell 42 = .ok (.ixor, 1) := by decide +kernel
theorem dL_cell_43 : decode cL_cell 43 = .ok (.ireturn, 1) := by decide +kernel
set_option maxRecDepth 20000 in
theorem ggL_addObject_X11_addObject : GoodIn wsL_addObject wsX11_addObject := goodIn_ca (goodIn_ca (goodIn_r _ [9, 10, 11, 12, 13, 14, 15, 16, 17, 18, 19, 20, 21, 22, 23, 24, 25, 26, 27, 28, 29, 30, 31, 32, 33, 34, 35, 36, 37, 38, 39, 40, 41, 42, 43, 44, 45, 46, 47, 48, 49, 50, 51, 52, 53, 54, 55, 56, 57, 58, 59, 60, 61, 62, 63, 64, 65] (by decide +kernel) (by decide +kernel)) (goodIn_sub (fun _ h => List.mem_cons_of_mem _ (List.mem_append_left _ (List.mem_append_right _ h))) (by decide +kernel))) (goodIn_sub (fun _ h => List.mem_cons_of_mem _ (List.mem_append_right _ h)) (by decide +kernel))
set_option maxRecDepth 20000 in
theorem gL_addObject_X11_addObject : GoodIn wsL_addObject (wsV RL 9 RX11 yX11_addObject wsX11_addObject) := goodIn_app (goodIn_of _ (by decide +kernel)) ggL_addObject_X11_addObject
theorem dL_addObject_0 : decode cL_addObject 0 = .ok (.aload_n 0, 1) := by decide +kernel
theorem dL_addObject_1 : decode cL_addObject 1 = .ok (.iload_n 1, 1) := by decide +kernel
theorem dL_addObject_2 : decode cL_addObject 2 = .ok (.invokevirtual 9, 3) := by decide +kernel
theorem dL_addObject_5 : decode cL_addObject 5 = .ok (.ireturn, 1) := by decide +kernel
theorem dL_addObject_6 : decode cL_addObject 6 = .ok (.astore_n 2, 1) := by decide +kernel
theorem dL_addObject_7 : decode cL_addObject 7 = .ok (.ldc 17, 2) := by decide +kernel
theorem dL_addObject_9 : decode cL_addObject 9 = .ok (.ireturn, 1) := by decide +kernel
theorem dL_addObject_10 : decode cL_addObject 10 = .ok (.astore_n 2, 1) := by decide +kernel
theorem dL_addObject_11 : decode cL_addObject 11 = .ok (.ldc 20, 2) := by decide +kernel
theorem dL_addObject_13 : decode cL_addObject 13 = .ok (.ireturn, 1) := by decide +kernel
set_option maxRecDepth 20000 in
theorem ggL_addProxy_X11_addProxy : GoodIn wsL_addProxy wsX11_addProxy := goodIn_ca (goodIn_ca (goodIn_r _ [9, 10, 11, 12, 13, 14, 15, 16, 17, 18, 19, 20, 21, 22, 23, 24, 25, 26, 27, 28, 29, 30, 31, 32, 33, 34, 35, 36, 37, 38, 39, 40, 41, 42, 43, 44, 45, 46, 47, 48, 49, 50, 51, 52, 53, 54, 55, 56, 57, 58, 59, 60, 61, 62, 63, 64, 65] (by decide +kernel) (by decide +kernel)) (goodIn_sub (fun _ h => List.mem_cons_of_mem _ (List.mem_append_left _ (List.mem_append_right _ h))) (by decide +kernel))) (goodIn_sub (fun _ h => List.mem_cons_of_mem _ (List.mem_append_right _ h)) (by decide +kernel))
set_option maxRecDepth 20000 in
theorem gL_addProxy_X11_addProxy : GoodIn wsL_addProxy (wsV RL 21 RX11 yX11_addProxy wsX11_addProxy) := goodIn_app (goodIn_of _ (by decide +kernel)) ggL_addProxy_X11_addProxy
theorem dL_addProxy_0 : decode cL_addProxy 0 = .ok (.aload_n 0, 1) := by decide +kernel
theorem dL_addProxy_1 : decode cL_addProxy 1 = .ok (.iload_n 1, 1) := by decide +kernel
theorem dL_addProxy_2 : decode cL_addProxy 2 = .ok (.invokevirtual 21, 3) := by decide +kernel
theorem dL_addProxy_5 : decode cL_addProxy 5 = .ok (.ireturn, 1) := by decide +kernel
theorem dL_addProxy_6 : decode cL_addProxy 6 = .ok (.astore_n 2, 1) := by decide +kernel
theorem dL_addProxy_7 : decode cL_addProxy 7 = .ok (.ldc 17, 2) := by decide +kernel
theorem dL_addProxy_9 : decode cL_addProxy 9 = .ok (.ireturn, 1) := by decide +kernel
theorem dL_addProxy_10 : decode cL_addProxy 10 = .ok (.astore_n 2, 1) := by decide +kernel
theorem dL_addProxy_11 : decode cL_addProxy 11 = .ok (.ldc 20, 2) := by decide +kernel
theorem dL_addProxy_13 : decode cL_addProxy 13 = .ok (.ireturn, 1) := by decide +kernel
set_option maxRecDepth 20000 in
theorem ggL_define_X11_define : GoodIn wsL_define wsX11_define := goodIn_ca (goodIn_ca (goodIn_ca (goodIn_r _ [9, 10, 11, 12, 13, 14, 15, 16, 17, 18, 19, 20, 21, 22, 23, 8, 24, 25, 26, 27, 28, 29, 30, 31, 32, 33, 34, 35, 36, 37, 38, 39, 40, 41, 42, 43, 44, 45, 46, 47, 48, 49, 50, 51, 52, 53, 54, 55, 56, 57, 58, 59, 60, 61, 62, 63, 64, 65, 66, 67, 68, 69, 70, 71, 72, 73, 74, 75, 76, 77, 78] (by decide +kernel) (by decide +kernel)) (goodIn_sub (fun _ h => List.mem_cons_of_mem _ (List.mem_append_left _ (List.mem_append_left _ (List.mem_append_right _ h)))) (by decide +kernel))) (goodIn_sub (fun _ h => List.mem_cons_of_mem _ (List.mem_append_left _ (List.mem_append_right _ h))) (by decide +kernel))) (goodIn_sub (fun _ h => List.mem_cons_of_mem _ (List.mem_append_right _ h)) (by decide +kernel))
set_option maxRecDepth 20000 in
theorem gL_define_X11_define : GoodIn wsL_define (wsV RL 24 RX11 yX11_define wsX11_define) := goodIn_app (goodIn_of _ (by decide +kernel)) ggL_define_X11_define
theorem dL_define_0 : decode cL_define 0 = .ok (.aload_n 0, 1) := by decide +kernel
theorem dL_define_1 : decode cL_define 1 = .ok (.iload_n 1, 1) := by decide +kernel
theorem dL_define_2 : decode cL_define 2 = .ok (.iload_n 2, 1) := by decide +kernel
theorem dL_define_3 : decode cL_define 3 = .ok (.iload_n 3, 1) := by decide +kernel
theorem dL_define_4 : decode cL_define 4 = .ok (.iload 4, 2) := by decide +kernel
theorem dL_define_6 : decode cL_define 6 = .ok (.invokevirtual 24, 3) := by decide +kernel
theorem dL_define_9 : decode cL_define 9 = .ok (.ireturn, 1) := by decide +kernel
theorem dL_define_10 : decode cL_define 10 = .ok (.astore 5, 2) := by decide +kernel
theorem dL_define_12 : decode cL_define 12 = .ok (.ldc 17, 2) := by decide +kernel
theorem dL_define_14 : decode cL_define 14 = .ok (.ireturn, 1) := by decide +kernel
theorem dL_define_15 : decode cL_define 15 = .ok (.astore 5, 2) := by decide +kernel
theorem dL_define_17 : decode cL_define 17 = .ok (.ldc 20, 2) := by decide +kernel
theorem dL_define_19 : decode cL_define 19 = .ok (.ireturn, 1) := by decide +kernel
set_option maxRecDepth 20000 in
theorem ggL_set_X11_set : GoodIn wsL_set wsX11_set := goodIn_ca (goodIn_ca (goodIn_ca (goodIn_r _ [9, 10, 11, 12, 13, 14, 15, 16, 17, 18, 19, 20, 21, 22, 23, 8, 24, 25, 26, 27, 28, 29, 30, 31, 32, 33, 34, 35, 36, 37, 38, 39, 40, 41, 42, 43, 44, 45, 46, 47, 48, 49, 50, 51, 52, 53, 54, 55, 56, 57, 58, 59, 60, 61, 62, 63, 64, 65, 66, 67, 68, 69, 70, 71, 72, 73, 74, 75, 76, 77, 78, 79, 80, 81, 82, 83, 84, 85, 86, 87, 88, 89, 90, 91, 92, 93, 94, 95, 96, 97, 98, 99, 100, 101, 102, 103, 104, 105, 106, 107, 108, 109, 110, 111, 112, 113, 114, 115] (by decide +kernel) (by decide +kernel)) (goodIn_sub (fun _ h => List.mem_cons_of_mem _ (List.mem_append_left _ (List.mem_append_left _ (List.mem_append_right _ h)))) (by decide +kernel))) (goodIn_sub (fun _ h => List.mem_cons_of_mem _ (List.mem_append_left _ (List.mem_append_right _ h))) (by decide +kernel))) (goodIn_sub (fun _ h => List.mem_cons_of_mem _ (List.mem_append_right _ h)) (by decide +kernel))
set_option maxRecDepth 20000 in
theorem gL_set_X11_set : GoodIn wsL_set (wsV RL 30 RX11 yX11_set wsX11_set) := goodIn_app (goodIn_of _ (by decide +kernel)) ggL_set_X11_set
theorem dL_set_0 : decode cL_set 0 = .ok (.aload_n 0, 1) := by decide +kernel
theorem dL_set_1 : decode cL_set 1 = .ok (.iload_n 1, 1) := by decide +kernel
theorem dL_set_2 : decode cL_set 2 = .ok (.iload_n 2, 1) := by decide +kernel
theorem dL_set_3 : decode cL_set 3 = .ok (.iload_n 3, 1) := by decide +kernel
theorem dL_set_4 : decode cL_set 4 = .ok (.invokevirtual 30, 3) := by decide +kernel
theorem dL_set_7 : decode cL_set 7 = .ok (.ireturn, 1) := by decide +kernel
theorem dL_set_8 : decode cL_set 8 = .ok (.astore 4, 2) := by decide +kernel
theorem dL_set_10 : decode cL_set 10 = .ok (.ldc 17, 2) := by decide +kernel
theorem dL_set_12 : decode cL_set 12 = .ok (.ireturn, 1) := by decide +kernel
theorem dL_set_13 : decode cL_set 13 = .ok (.astore 4, 2) := by decide +kernel
theorem dL_set_15 : decode cL_set 15 = .ok (.ldc 20, 2) := by decide +kernel
theorem dL_set_17 : decode cL_set 17 = .ok (.ireturn, 1) := by decide +kernel
set_option maxRecDepth 20000 in
theorem ggL_get_X11_get : GoodIn wsL_get wsX11_get := goodIn_ca (goodIn_ca (goodIn_ca (goodIn_r _ [9, 10, 11, 12, 13, 14, 15, 16, 17, 18, 19, 20, 21, 22, 23, 24, 8, 25, 26, 27, 28, 29, 30, 31, 32, 33, 34, 35, 36, 37, 38, 39, 40, 41, 42, 43, 44, 45, 46, 47, 48, 49, 50, 51, 52, 53, 54, 55, 56, 57, 58, 59, 60, 61, 62, 63, 64, 65, 66, 67, 68, 69, 70, 71, 72, 73, 74, 75, 76, 77, 78, 79, 80, 81, 82, 83, 84, 85, 86, 87, 88, 89] (by decide +kernel) (by decide +kernel)) (goodIn_sub (fun _ h => List.mem_cons_of_mem _ (List.mem_append_left _ (List.mem_append_left _ (List.mem_append_right _ h)))) (by decide +kernel))) (goodIn_sub (fun _ h => List.mem_cons_of_mem _ (List.mem_append_left _ (List.mem_append_right _ h))) (by decide +kernel))) (goodIn_sub (fun _ h => List.mem_cons_of_mem _ (List.mem_append_right _ h)) (by decide +kernel))
set_option maxRecDepth 20000 in
theorem gL_get_X11_get : GoodIn wsL_get (wsV RL 34 RX11 yX11_get wsX11_get) := goodIn_app (goodIn_of _ (by decide +kernel)) ggL_get_X11_get
theorem dL_get_0 : decode cL_get 0 = .ok (.aload_n 0, 1) := by decide +kernel
theorem dL_get_1 : decode cL_get 1 = .ok (.iload_n 1, 1) := by decide +kernel
theorem dL_get_2 : decode cL_get 2 = .ok (.iload_n 2, 1) := by decide +kernel
theorem dL_get_3 : decode cL_get 3 = .ok (.invokevirtual 34, 3) := by decide +kernel
theorem dL_get_6 : decode cL_get 6 = .ok (.ireturn, 1) := by decide +kernel
theorem dL_get_7 : decode cL_get 7 = .ok (.astore_n 3, 1) := by decide +kernel
theorem dL_get_8 : decode cL_get 8 = .ok (.ldc 17, 2) := by decide +kernel
theorem dL_get_10 : decode cL_get 10 = .ok (.ireturn, 1) := by decide +kernel
theorem dL_get_11 : decode cL_get 11 = .ok (.astore_n 3, 1) := by decide +kernel
theorem dL_get_12 : decode cL_get 12 = .ok (.ldc 20, 2) := by decide +kernel
theorem dL_get_14 : decode cL_get 14 = .ok (.ireturn, 1) := by decide +kernel
set_option maxRecDepth 20000 in
theorem ggL_has_X11_has : GoodIn wsL_has wsX11_has := goodIn_ca (goodIn_ca (goodIn_r _ [7, 8, 9, 10, 11, 12, 13, 14, 15, 16, 17, 18, 19, 6, 20, 21, 22, 23, 24, 25, 26, 27, 28, 29, 30, 31, 32, 33, 34, 35, 36, 37, 38, 39, 40, 41, 42, 43, 44, 45, 46, 47, 48, 49, 50, 51, 52, 53, 54, 55, 56, 57, 58, 59, 60, 61, 62, 63, 64, 65, 66, 67, 68, 69, 70, 71, 72, 73, 74, 75, 76, 77, 78, 79, 80, 81] (by decide +kernel) (by decide +kernel)) (goodIn_sub (fun _ h => List.mem_cons_of_mem _ (List.mem_append_left _ (List.mem_append_right _ h))) (by decide +kernel))) (goodIn_sub (fun _ h => List.mem_cons_of_mem _ (List.mem_append_right _ h)) (by decide +kernel))
set_option maxRecDepth 20000 in
theorem gL_has_X11_has : GoodIn wsL_has (wsV RL 40 RX11 yX11_has wsX11_has) := goodIn_app (goodIn_of _ (by decide +kernel)) ggL_has_X11_has
theorem dL_has_0 : decode cL_has 0 = .ok (.aload_n 0, 1) := by decide +kernel
theorem dL_has_1 : decode cL_has 1 = .ok (.iload_n 1, 1) := by decide +kernel
theorem dL_has_2 : decode cL_has 2 = .ok (.iload_n 2, 1) := by decide +kernel
theorem dL_has_3 : decode cL_has 3 = .ok (.invokevirtual 40, 3) := by decide +kernel
theorem dL_has_6 : decode cL_has 6 = .ok (.ireturn, 1) := by decide +kernel
theorem dL_has_7 : decode cL_has 7 = .ok (.astore_n 3, 1) := by decide +kernel
theorem dL_has_8 : decode cL_has 8 = .ok (.ldc 17, 2) := by decide +kernel
theorem dL_has_10 : decode cL_has 10 = .ok (.ireturn, 1) := by decide +kernel
set_option maxRecDepth 20000 in
theorem ggL_delete_X11_delete : GoodIn wsL_delete wsX11_delete := goodIn_ca (goodIn_ca (goodIn_r _ [7, 8, 9, 10, 11, 12, 13, 14, 15, 16, 17, 18, 19, 6, 20, 21, 22, 23, 24, 25, 26, 27, 28, 29, 30, 31, 32, 33, 34, 35, 36, 37, 38, 39, 40, 41, 42, 43, 44, 45, 46, 47, 48, 49, 50, 51, 52, 53, 54, 55, 56, 57, 58, 59, 60, 61, 62, 63, 64, 65, 66, 67, 68, 69, 70, 71, 72, 73, 74, 75, 76, 77, 78, 79, 80, 81, 82, 83, 84, 85] (by decide +kernel) (by decide +kernel)) (goodIn_sub (fun _ h => List.mem_cons_of_mem _ (List.mem_append_left _ (List.mem_append_right _ h))) (by decide +kernel))) (goodIn_sub (fun _ h => List.mem_cons_of_mem _ (List.mem_append_right _ h)) (by decide +kernel))
set_option maxRecDepth 20000 in
theorem gL_delete_X11_delete : GoodIn wsL_delete (wsV RL 44 RX11 yX11_delete wsX11_delete) := goodIn_app (goodIn_of _ (by decide +kernel)) ggL_delete_X11_delete
theorem dL_delete_0 : decode cL_delete 0 = .ok (.aload_n 0, 1) := by decide +kernel
theorem dL_delete_1 : decode cL_delete 1 = .ok (.iload_n 1, 1) := by decide +kernel
theorem dL_delete_2 : decode cL_delete 2 = .ok (.iload_n 2, 1) := by decide +kernel
theorem dL_delete_3 : decode cL_delete 3 = .ok (.invokevirtual 44, 3) := by decide +kernel
theorem dL_delete_6 : decode cL_delete 6 = .ok (.ireturn, 1) := by decide +kernel
theorem dL_delete_7 : decode cL_delete 7 = .ok (.astore_n 3, 1) := by decide +kernel
theorem dL_delete_8 : decode cL_delete 8 = .ok (.ldc 17, 2) := by decide +kernel
theorem dL_delete_10 : decode cL_delete 10 = .ok (.ireturn, 1) := by decide +kernel
set_option maxRecDepth 20000 in
theorem ggL_closeObject_X11_closeObject : GoodIn wsL_closeObject wsX11_closeObject := goodIn_ca (goodIn_r _ [7, 8, 9, 10, 11, 12, 13, 14, 15, 16, 17, 18, 19, 20, 21, 22, 23, 24, 25, 26, 27, 28, 29, 30, 31, 32, 33, 34, 35, 36, 37, 38, 39, 40, 41, 42, 43, 44, 45] (by decide +kernel) (by decide +kernel)) (goodIn_sub (fun _ h => List.mem_cons_of_mem _ (List.mem_append_right _ h)) (by decide +kernel))
set_option maxRecDepth 20000 in
theorem gL_closeObject_X11_closeObject : GoodIn wsL_closeObject (wsV RL 47 RX11 yX11_closeObject wsX11_closeObject) := goodIn_app (goodIn_of _ (by decide +kernel)) ggL_closeObject_X11_closeObject
theorem dL_closeObject_0 : decode cL_closeObject 0 = .ok (.aload_n 0, 1) := by decide +kernel
theorem dL_closeObject_1 : decode cL_closeObject 1 = .ok (.iload_n 1, 1) := by decide +kernel
theorem dL_closeObject_2 : decode cL_closeObject 2 = .ok (.invokevirtual 47, 3) := by decide +kernel
theorem dL_closeObject_5 : decode cL_closeObject 5 = .ok (.ireturn, 1) := by decide +kernel
theorem dL_closeObject_6 : decode cL_closeObject 6 = .ok (.astore_n 2, 1) := by decide +kernel
theorem dL_closeObject_7 : decode cL_closeObject 7 = .ok (.ldc 17, 2) := by decide +kernel
theorem dL_closeObject_9 : decode cL_closeObject 9 = .ok (.ireturn, 1) := by decide +kernel
set_option maxRecDepth 20000 in
theorem ggL_setChain_X11_setChain : GoodIn wsL_setChain wsX11_setChain := goodIn_ca (goodIn_r _ [7, 8, 9, 10, 11, 12, 13, 14, 15, 16, 17, 18, 19, 20, 21, 22, 23, 24, 25, 26, 27, 28, 29, 30, 31, 32, 33, 34, 35, 36, 37, 38, 39, 40, 41, 42, 43, 44, 45, 46, 47, 48, 49, 50] (by decide +kernel) (by decide +kernel)) (goodIn_sub (fun _ h => List.mem_cons_of_mem _ (List.mem_append_right _ h)) (by decide +kernel))
set_option maxRecDepth 20000 in
theorem gL_setChain_X11_setChain : GoodIn wsL_setChain (wsV RL 51 RX11 yX11_setChain wsX11_setChain) := goodIn_app (goodIn_of _ (by decide +kernel)) ggL_setChain_X11_setChain
theorem dL_setChain_0 : decode cL_setChain 0 = .ok (.aload_n 0, 1) := by decide +kernel
theorem dL_setChain_1 : decode cL_setChain 1 = .ok (.iload_n 1, 1) := by decide +kernel
theorem dL_setChain_2 : decode cL_setChain 2 = .ok (.iload_n 2, 1) := by decide +kernel
theorem dL_setChain_3 : decode cL_setChain 3 = .ok (.invokevirtual 51, 3) := by decide +kernel
theorem dL_setChain_6 : decode cL_setChain 6 = .ok (.ireturn, 1) := by decide +kernel
theorem dL_setChain_7 : decode cL_setChain 7 = .ok (.astore_n 3, 1) := by decide +kernel
theorem dL_setChain_8 : decode cL_setChain 8 = .ok (.ldc 17, 2) := by decide +kernel
theorem dL_setChain_10 : decode cL_setChain 10 = .ok (.ireturn, 1) := by decide +kernel
set_option maxRecDepth 20000 in
theorem ggL_keys_X11_keys : GoodIn wsL_keys wsX11_keys := goodIn_ca (goodIn_ca (goodIn_r _ [9, 10, 11, 12, 13, 14, 15, 16, 17, 18, 19, 20, 21, 22, 23, 24, 25, 26, 27, 28, 29, 30, 31, 32, 33, 34, 35, 36, 37, 38, 39, 40, 41, 42, 43, 44, 45, 46, 47, 48, 49] (by decide +kernel) (by decide +kernel)) (goodIn_sub (fun _ h => List.mem_cons_of_mem _ (List.mem_append_left _ (List.mem_append_right _ h))) (by decide +kernel))) (goodIn_sub (fun _ h => List.mem_cons_of_mem _ (List.mem_append_right _ h)) (by decide +kernel))
set_option maxRecDepth 20000 in
theorem gL_keys_X11_keys : GoodIn wsL_keys (wsV RL 54 RX11 yX11_keys wsX11_keys) := goodIn_app (goodIn_of _ (by decide +kernel)) ggL_keys_X11_keys
theorem dL_keys_0 : decode cL_keys 0 = .ok (.aload_n 0, 1) := by decide +kernel
theorem dL_keys_1 : decode cL_keys 1 = .ok (.iload_n 1, 1) := by decide +kernel
theorem dL_keys_2 : decode cL_keys 2 = .ok (.invokevirtual 54, 3) := by decide +kernel
theorem dL_keys_5 : decode cL_keys 5 = .ok (.ireturn, 1) := by decide +kernel
theorem dL_keys_6 : decode cL_keys 6 = .ok (.astore_n 2, 1) := by decide +kernel
theorem dL_keys_7 : decode cL_keys 7 = .ok (.ldc 17, 2) := by decide +kernel
theorem dL_keys_9 : decode cL_keys 9 = .ok (.ireturn, 1) := by decide +kernel
theorem dL_keys_10 : decode cL_keys 10 = .ok (.astore_n 2, 1) := by decide +kernel
theorem dL_keys_11 : decode cL_keys 11 = .ok (.ldc 20, 2) := by decide +kernel
theorem dL_keys_13 : decode cL_keys 13 = .ok (.ireturn, 1) := by decide +kernel
set_option maxRecDepth 20000 in
theorem ggL_keyAt_X11_keyAt : GoodIn wsL_keyAt wsX11_keyAt := goodIn_ca (goodIn_ca (goodIn_ca (goodIn_ca (goodIn_r _ [11, 12, 13, 14, 15, 16, 17, 18, 19, 20, 21, 22, 23, 24, 25, 26, 27, 28, 29, 30, 31, 32, 33, 34, 35, 36, 37, 38, 39, 40, 41, 42, 43, 44, 45, 46, 47, 48, 49, 50, 51, 52, 53, 54, 55, 56, 57, 58] (by decide +kernel) (by decide +kernel)) (goodIn_sub (fun _ h => List.mem_cons_of_mem _ (List.mem_append_left _ (List.mem_append_left _ (List.mem_append_left _ (List.mem_append_right _ h))))) (by decide +kernel))) (goodIn_sub (fun _ h => List.mem_cons_of_mem _ (List.mem_append_left _ (List.mem_append_left _ (List.mem_append_right _ h)))) (by decide +kernel))) (goodIn_sub (fun _ h => List.mem_cons_of_mem _ (List.mem_append_left _ (List.mem_append_right _ h))) (by decide +kernel))) (goodIn_sub (fun _ h => List.mem_cons_of_mem _ (List.mem_append_right _ h)) (by decide +kernel))
set_option maxRecDepth 20000 in
theorem gL_keyAt_X11_keyAt : GoodIn wsL_keyAt (wsV RL 57 RX11 yX11_keyAt wsX11_keyAt) := goodIn_app (goodIn_of _ (by decide +kernel)) ggL_keyAt_X11_keyAt
theorem dL_keyAt_0 : decode cL_keyAt 0 = .ok (.aload_n 0, 1) := by decide +kernel
theorem dL_keyAt_1 : decode cL_keyAt 1 = .ok (.iload_n 1, 1) := by decide +kernel
theorem dL_keyAt_2 : decode cL_keyAt 2 = .ok (.iload_n 2, 1) := by decide +kernel
theorem dL_keyAt_3 : decode cL_keyAt 3 = .ok (.invokevirtual 57, 3) := by decide +kernel
theorem dL_keyAt_6 : decode cL_keyAt 6 = .ok (.ireturn, 1) := by decide +kernel
theorem dL_keyAt_7 : decode cL_keyAt 7 = .ok (.astore_n 3, 1) := by decide +kernel
theorem dL_keyAt_8 : decode cL_keyAt 8 = .ok (.ldc 17, 2) := by decide +kernel
theorem dL_keyAt_10 : decode cL_keyAt 10 = .ok (.ireturn, 1) := by decide +kernel
theorem dL_keyAt_11 : decode cL_keyAt 11 = .ok (.astore_n 3, 1) := by decide +kernel
theorem dL_keyAt_12 : decode cL_keyAt 12 = .ok (.ldc 20, 2) := by decide +kernel
theorem dL_keyAt_14 : decode cL_keyAt 14 = .ok (.ireturn, 1) := by decide +kernel
theorem dL_keyAt_15 : decode cL_keyAt 15 = .ok (.astore_n 3, 1) := by decide +kernel
theorem dL_keyAt_16 : decode cL_keyAt 16 = .ok (.ldc 62, 2) := by decide +kernel
theorem dL_keyAt_18 : decode cL_keyAt 18 = .ok (.ireturn, 1) := by decide +kernel
set_option maxRecDepth 20000 in
theorem ggL_rights_X11_rights : GoodIn wsL_rights wsX11_rights := goodIn_ca (goodIn_ca (goodIn_ca (goodIn_ca (goodIn_r _ [11, 12, 13, 14, 15, 16, 17, 18, 19, 20, 21, 22, 23, 24, 25, 26, 27, 10, 28, 29, 30, 31, 32, 33, 34, 35, 36, 37, 38, 39, 40, 41, 42, 43, 44, 45, 46, 47, 48, 49, 50, 51, 52, 53, 54, 55, 56, 57, 58, 59, 60] (by decide +kernel) (by decide +kernel)) (goodIn_sub (fun _ h => List.mem_cons_of_mem _ (List.mem_append_left _ (List.mem_append_left _ (List.mem_append_left _ (List.mem_append_right _ h))))) (by decide +kernel))) (goodIn_sub (fun _ h => List.mem_cons_of_mem _ (List.mem_append_left _ (List.mem_append_left _ (List.mem_append_right _ h)))) (by decide +kernel))) (goodIn_sub (fun _ h => List.mem_cons_of_mem _ (List.mem_append_left _ (List.mem_append_right _ h))) (by decide +kernel))) (goodIn_sub (fun _ h => List.mem_cons_of_mem _ (List.mem_append_right _ h)) (by decide +kernel))
set_option maxRecDepth 20000 in
theorem gL_rights_X11_rights : GoodIn wsL_rights (wsV RL 63 RX11 yX11_rights wsX11_rights) := goodIn_app (goodIn_of _ (by decide +kernel)) ggL_rights_X11_rights
theorem dL_rights_0 : decode cL_rights 0 = .ok (.aload_n 0, 1) := by decide +kernel
theorem dL_rights_1 : decode cL_rights 1 = .ok (.iload_n 1, 1) := by decide +kernel
theorem dL_rights_2 : decode cL_rights 2 = .ok (.iload_n 2, 1) := by decide +kernel
theorem dL_rights_3 : decode cL_rights 3 = .ok (.invokevirtual 63, 3) := by decide +kernel
theorem dL_rights_6 : decode cL_rights 6 = .ok (.ireturn, 1) := by decide +kernel
theorem dL_rights_7 : decode cL_rights 7 = .ok (.astore_n 3, 1) := by decide +kernel
theorem dL_rights_8 : decode cL_rights 8 = .ok (.ldc 17, 2) := by decide +kernel
theorem dL_rights_10 : decode cL_rights 10 = .ok (.ireturn, 1) := by decide +kernel
theorem dL_rights_11 : decode cL_rights 11 = .ok (.astore_n 3, 1) := by decide +kernel
theorem dL_rights_12 : decode cL_rights 12 = .ok (.ldc 20, 2) := by decide +kernel
theorem dL_rights_14 : decode cL_rights 14 = .ok (.ireturn, 1) := by decide +kernel
theorem dL_rights_15 : decode cL_rights 15 = .ok (.astore_n 3, 1) := by decide +kernel
theorem dL_rights_16 : decode cL_rights 16 = .ok (.ldc 62, 2) := by decide +kernel
theorem dL_rights_18 : decode cL_rights 18 = .ok (.ireturn, 1) := by decide +kernel
set_option maxRecDepth 20000 in
theorem ggL_tell_X11_tell : GoodIn wsL_tell wsX11_tell := goodIn_ca (goodIn_ca (goodIn_ca (goodIn_ca (goodIn_r _ [11, 12, 13, 14, 15, 16, 17, 18, 19, 20, 21, 22, 23, 24, 25, 26, 27, 10, 28, 29, 30, 31, 32, 33, 34, 35, 36, 37, 38, 39, 40, 41, 42, 43, 44, 45, 46, 47, 48, 49, 50, 51, 52, 53, 54, 55, 56, 57, 58, 59, 60, 61, 62, 63, 64, 65, 66, 67, 68, 69] (by decide +kernel) (by decide +kernel)) (goodIn_sub (fun _ h => List.mem_cons_of_mem _ (List.mem_append_left _ (List.mem_append_left _ (List.mem_append_left _ (List.mem_append_right _ h))))) (by decide +kernel))) (goodIn_sub (fun _ h => List.mem_cons_of_mem _ (List.mem_append_left _ (List.mem_append_left _ (List.mem_append_right _ h)))) (by decide +kernel))) (goodIn_sub (fun _ h => List.mem_cons_of_mem _ (List.mem_append_left _ (List.mem_append_right _ h))) (by decide +kernel))) (goodIn_sub (fun _ h => List.mem_cons_of_mem _ (List.mem_append_right _ h)) (by decide +kernel))
set_option maxRecDepth 20000 in
theorem gL_tell_X11_tell : GoodIn wsL_tell (wsV RL 66 RX11 yX11_tell wsX11_tell) := goodIn_app (goodIn_of _ (by decide +kernel)) ggL_tell_X11_tell
theorem dL_tell_0 : decode cL_tell 0 = .ok (.aload_n 0, 1) := by decide +kernel
theorem dL_tell_1 : decode cL_tell 1 = .ok (.iload_n 1, 1) := by decide +kernel
theorem dL_tell_2 : decode cL_tell 2 = .ok (.iload_n 2, 1) := by decide +kernel
theorem dL_tell_3 : decode cL_tell 3 = .ok (.iload_n 3, 1) := by decide +kernel
theorem dL_tell_4 : decode cL_tell 4 = .ok (.invokevirtual 66, 3) := by decide +kernel
theorem dL_tell_7 : decode cL_tell 7 = .ok (.ifCond .eq 7, 3) := by decide +kernel
theorem dL_tell_10 : decode cL_tell 10 = .ok (.iconst 1, 1) := by decide +kernel
theorem dL_tell_11 : decode cL_tell 11 = .ok (.goto 4, 3) := by decide +kernel
theorem dL_tell_14 : decode cL_tell 14 = .ok (.iconst 0, 1) := by decide +kernel
theorem dL_tell_15 : decode cL_tell 15 = .ok (.ireturn, 1) := by decide +kernel
theorem dL_tell_16 : decode cL_tell 16 = .ok (.astore 4, 2) := by decide +kernel
theorem dL_tell_18 : decode cL_tell 18 = .ok (.ldc 17, 2) := by decide +kernel
theorem dL_tell_20 : decode cL_tell 20 = .ok (.ireturn, 1) := by decide +kernel
theorem dL_tell_21 : decode cL_tell 21 = .ok (.astore 4, 2) := by decide +kernel
theorem dL_tell_23 : decode cL_tell 23 = .ok (.ldc 20, 2) := by decide +kernel
theorem dL_tell_25 : decode cL_tell 25 = .ok (.ireturn, 1) := by decide +kernel
theorem dL_tell_26 : decode cL_tell 26 = .ok (.astore 4, 2) := by decide +kernel
theorem dL_tell_28 : decode cL_tell 28 = .ok (.ldc 62, 2) := by decide +kernel
theorem dL_tell_30 : decode cL_tell 30 = .ok (.ireturn, 1) := by decide +kernel
set_option maxRecDepth 20000 in
theorem ggL_revoke_X11_revoke : GoodIn wsL_revoke wsX11_revoke := goodIn_ca (goodIn_ca (goodIn_r _ [9, 10, 11, 12, 13, 14, 15, 16, 17, 18, 19, 20, 21, 22, 23, 24, 25, 26, 27, 28, 29, 30, 31, 32, 33, 34, 35, 36, 37, 38, 39, 40, 41, 42, 43] (by decide +kernel) (by decide +kernel)) (goodIn_sub (fun _ h => List.mem_cons_of_mem _ (List.mem_append_left _ (List.mem_append_right _ h))) (by decide +kernel))) (goodIn_sub (fun _ h => List.mem_cons_of_mem _ (List.mem_append_right _ h)) (by decide +kernel))
set_option maxRecDepth 20000 in
theorem gL_revoke_X11_revoke : GoodIn wsL_revoke (wsV RL 70 RX11 yX11_revoke wsX11_revoke) := goodIn_app (goodIn_of _ (by decide +kernel)) ggL_revoke_X11_revoke
theorem dL_revoke_0 : decode cL_revoke 0 = .ok (.aload_n 0, 1) := by decide +kernel
theorem dL_revoke_1 : decode cL_revoke 1 = .ok (.iload_n 1, 1) := by decide +kernel
theorem dL_revoke_2 : decode cL_revoke 2 = .ok (.invokevirtual 70, 3) := by decide +kernel
theorem dL_revoke_5 : decode cL_revoke 5 = .ok (.ifCond .eq 7, 3) := by decide +kernel
theorem dL_revoke_8 : decode cL_revoke 8 = .ok (.iconst 1, 1) := by decide +kernel
theorem dL_revoke_9 : decode cL_revoke 9 = .ok (.goto 4, 3) := by decide +kernel
theorem dL_revoke_12 : decode cL_revoke 12 = .ok (.iconst 0, 1) := by decide +kernel
theorem dL_revoke_13 : decode cL_revoke 13 = .ok (.ireturn, 1) := by decide +kernel
theorem dL_revoke_14 : decode cL_revoke 14 = .ok (.astore_n 2, 1) := by decide +kernel
theorem dL_revoke_15 : decode cL_revoke 15 = .ok (.ldc 17, 2) := by decide +kernel
theorem dL_revoke_17 : decode cL_revoke 17 = .ok (.ireturn, 1) := by decide +kernel
theorem dL_revoke_18 : decode cL_revoke 18 = .ok (.astore_n 2, 1) := by decide +kernel
theorem dL_revoke_19 : decode cL_revoke 19 = .ok (.ldc 20, 2) := by decide +kernel
theorem dL_revoke_21 : decode cL_revoke 21 = .ok (.ireturn, 1) := by decide +kernel
set_option maxRecDepth 20000 in
theorem ggL_in_L_cell : GoodIn wsL_in wsL_cell := goodIn_ca (goodIn_r _ [5, 6, 7] (by decide +kernel) (by decide +kernel)) (goodIn_sub (fun _ h => List.mem_cons_of_mem _ (List.mem_append_right _ h)) (by decide +kernel))
set_option maxRecDepth 20000 in
theorem gL_in_L_cell : GoodIn wsL_in (va_wsS RL 74 yL_cell wsL_cell) := goodIn_app (goodIn_of _ (by decide +kernel)) ggL_in_L_cell
theorem dL_in_0 : decode cL_in 0 = .ok (.aload_n 0, 1) := by decide +kernel
theorem dL_in_1 : decode cL_in 1 = .ok (.iload_n 1, 1) := by decide +kernel
theorem dL_in_2 : decode cL_in 2 = .ok (.invokestatic 74, 3) := by decide +kernel
theorem dL_in_5 : decode cL_in 5 = .ok (.ldc 80, 2) := by decide +kernel
theorem dL_in_7 : decode cL_in 7 = .ok (.iand, 1) := by decide +kernel
theorem dL_in_8 : decode cL_in 8 = .ok (.iload_n 2, 1) := by decide +kernel
theorem dL_in_9 : decode cL_in 9 = .ok (.irem, 1) := by decide +kernel
theorem dL_in_10 : decode cL_in 10 = .ok (.ireturn, 1) := by decide +kernel
theorem dL_at_0 : decode cL_at 0 = .ok (.bipush 100, 2) := by decide +kernel
theorem dL_at_2 : decode cL_at 2 = .ok (.iconst 4, 1) := by decide +kernel
theorem dL_at_3 : decode cL_at 3 = .ok (.bipush 20, 2) := by decide +kernel
theorem dL_at_5 : decode cL_at 5 = .ok (.iload_n 0, 1) := by decide +kernel
theorem dL_at_6 : decode cL_at 6 = .ok (.imul, 1) := by decide +kernel
theorem dL_at_7 : decode cL_at 7 = .ok (.iload_n 1, 1) := by decide +kernel
theorem dL_at_8 : decode cL_at 8 = .ok (.iadd, 1) := by decide +kernel
theorem dL_at_9 : decode cL_at 9 = .ok (.imul, 1) := by decide +kernel
theorem dL_at_10 : decode cL_at 10 = .ok (.iadd, 1) := by decide +kernel
theorem dL_at_11 : decode cL_at 11 = .ok (.ireturn, 1) := by decide +kernel
theorem dL_plain_0 : decode cL_plain 0 = .ok (.iload_n 1, 1) := by decide +kernel
theorem dL_plain_1 : decode cL_plain 1 = .ok (.iconst 5, 1) := by decide +kernel
theorem dL_plain_2 : decode cL_plain 2 = .ok (.if_icmp .ge 7, 3) := by decide +kernel
theorem dL_plain_5 : decode cL_plain 5 = .ok (.iload_n 1, 1) := by decide +kernel
theorem dL_plain_6 : decode cL_plain 6 = .ok (.goto 33, 3) := by decide +kernel
theorem dL_plain_9 : decode cL_plain 9 = .ok (.aload_n 0, 1) := by decide +kernel
theorem dL_plain_10 : decode cL_plain 10 = .ok (.bipush 30, 2) := by decide +kernel
theorem dL_plain_12 : decode cL_plain 12 = .ok (.iload_n 1, 1) := by decide +kernel
theorem dL_plain_13 : decode cL_plain 13 = .ok (.iadd, 1) := by decide +kernel
theorem dL_plain_14 : decode cL_plain 14 = .ok (.iaload, 1) := by decide +kernel
theorem dL_plain_15 : decode cL_plain 15 = .ok (.iconst 5, 1) := by decide +kernel
theorem dL_plain_16 : decode cL_plain 16 = .ok (.if_icmp .ge 12, 3) := by decide +kernel
theorem dL_plain_19 : decode cL_plain 19 = .ok (.aload_n 0, 1) := by decide +kernel
theorem dL_plain_20 : decode cL_plain 20 = .ok (.bipush 30, 2) := by decide +kernel
theorem dL_plain_22 : decode cL_plain 22 = .ok (.iload_n 1, 1) := by decide +kernel
theorem dL_plain_23 : decode cL_plain 23 = .ok (.iadd, 1) := by decide +kernel
theorem dL_plain_24 : decode cL_plain 24 = .ok (.iaload, 1) := by decide +kernel
theorem dL_plain_25 : decode cL_plain 25 = .ok (.goto 14, 3) := by decide +kernel
theorem dL_plain_28 : decode cL_plain 28 = .ok (.aload_n 0, 1) := by decide +kernel
theorem dL_plain_29 : decode cL_plain 29 = .ok (.bipush 30, 2) := by decide +kernel
theorem dL_plain_31 : decode cL_plain 31 = .ok (.aload_n 0, 1) := by decide +kernel
theorem dL_plain_32 : decode cL_plain 32 = .ok (.bipush 30, 2) := by decide +kernel
theorem dL_plain_34 : decode cL_plain 34 = .ok (.iload_n 1, 1) := by decide +kernel
theorem dL_plain_35 : decode cL_plain 35 = .ok (.iadd, 1) := by decide +kernel
theorem dL_plain_36 : decode cL_plain 36 = .ok (.iaload, 1) := by decide +kernel
theorem dL_plain_37 : decode cL_plain 37 = .ok (.iadd, 1) := by decide +kernel
theorem dL_plain_38 : decode cL_plain 38 = .ok (.iaload, 1) := by decide +kernel
theorem dL_plain_39 : decode cL_plain 39 = .ok (.ireturn, 1) := by decide +kernel
set_option maxRecDepth 20000 in
theorem ggL_defined_L_at : GoodIn wsL_defined wsL_at := goodIn_r _ [4] (by decide +kernel) (by decide +kernel)
set_option maxRecDepth 20000 in
theorem gL_defined_L_at : GoodIn wsL_defined (va_wsS RL 81 yL_at wsL_at) := goodIn_app (goodIn_of _ (by decide +kernel)) ggL_defined_L_at
theorem dL_defined_0 : decode cL_defined 0 = .ok (.iload_n 1, 1) := by decide +kernel
theorem dL_defined_1 : decode cL_defined 1 = .ok (.iload_n 2, 1) := by decide +kernel
theorem dL_defined_2 : decode cL_defined 2 = .ok (.invokestatic 81, 3) := by decide +kernel
theorem dL_defined_5 : decode cL_defined 5 = .ok (.istore 5, 2) := by decide +kernel
theorem dL_defined_7 : decode cL_defined 7 = .ok (.aload_n 0, 1) := by decide +kernel
theorem dL_defined_8 : decode cL_defined 8 = .ok (.iload 5, 2) := by decide +kernel
theorem dL_defined_10 : decode cL_defined 10 = .ok (.iaload, 1) := by decide +kernel
theorem dL_defined_11 : decode cL_defined 11 = .ok (.ifCond .ne 39, 3) := by decide +kernel
theorem dL_defined_14 : decode cL_defined 14 = .ok (.aload_n 0, 1) := by decide +kernel
theorem dL_defined_15 : decode cL_defined 15 = .ok (.iload_n 1, 1) := by decide +kernel
theorem dL_defined_16 : decode cL_defined 16 = .ok (.iaload, 1) := by decide +kernel
theorem dL_defined_17 : decode cL_defined 17 = .ok (.iconst 1, 1) := by decide +kernel
theorem dL_defined_18 : decode cL_defined 18 = .ok (.if_icmp .ne 6, 3) := by decide +kernel
theorem dL_defined_21 : decode cL_defined 21 = .ok (.bipush 110, 2) := by decide +kernel
theorem dL_defined_23 : decode cL_defined 23 = .ok (.ireturn, 1) := by decide +kernel
theorem dL_defined_24 : decode cL_defined 24 = .ok (.aload_n 0, 1) := by decide +kernel
theorem dL_defined_25 : decode cL_defined 25 = .ok (.bipush 20, 2) := by decide +kernel
theorem dL_defined_27 : decode cL_defined 27 = .ok (.dup2, 1) := by decide +kernel
theorem dL_defined_28 : decode cL_defined 28 = .ok (.iaload, 1) := by decide +kernel
theorem dL_defined_29 : decode cL_defined 29 = .ok (.iconst 1, 1) := by decide +kernel
theorem dL_defined_30 : decode cL_defined 30 = .ok (.iadd, 1) := by decide +kernel
theorem dL_defined_31 : decode cL_defined 31 = .ok (.iastore, 1) := by decide +kernel
theorem dL_defined_32 : decode cL_defined 32 = .ok (.aload_n 0, 1) := by decide +kernel
theorem dL_defined_33 : decode cL_defined 33 = .ok (.iload 5, 2) := by decide +kernel
theorem dL_defined_35 : decode cL_defined 35 = .ok (.iconst 1, 1) := by decide +kernel
theorem dL_defined_36 : decode cL_defined 36 = .ok (.iastore, 1) := by decide +kernel
theorem dL_defined_37 : decode cL_defined 37 = .ok (.aload_n 0, 1) := by decide +kernel
theorem dL_defined_38 : decode cL_defined 38 = .ok (.iload 5, 2) := by decide +kernel
theorem dL_defined_40 : decode cL_defined 40 = .ok (.iconst 3, 1) := by decide +kernel
theorem dL_defined_41 : decode cL_defined 41 = .ok (.iadd, 1) := by decide +kernel
theorem dL_defined_42 : decode cL_defined 42 = .ok (.aload_n 0, 1) := by decide +kernel
theorem dL_defined_43 : decode cL_defined 43 = .ok (.bipush 20, 2) := by decide +kernel
theorem dL_defined_45 : decode cL_defined 45 = .ok (.iaload, 1) := by decide +kernel
theorem dL_defined_46 : decode cL_defined 46 = .ok (.iastore, 1) := by decide +kernel
theorem dL_defined_47 : decode cL_defined 47 = .ok (.goto 89, 3) := by decide +kernel
theorem dL_defined_50 : decode cL_defined 50 = .ok (.aload_n 0, 1) := by decide +kernel
theorem dL_defined_51 : decode cL_defined 51 = .ok (.iload 5, 2) := by decide +kernel
theorem dL_defined_53 : decode cL_defined 53 = .ok (.iconst 2, 1) := by decide +kernel
theorem dL_defined_54 : decode cL_defined 54 = .ok (.iadd, 1) := by decide +kernel
theorem dL_defined_55 : decode cL_defined 55 = .ok (.iaload, 1) := by decide +kernel
theorem dL_defined_56 : decode cL_defined 56 = .ok (.iconst 4, 1) := by decide +kernel
theorem dL_defined_57 : decode cL_defined 57 = .ok (.if_icmp .ge 79, 3) := by decide +kernel
theorem dL_defined_60 : decode cL_defined 60 = .ok (.iload 4, 2) := by decide +kernel
theorem dL_defined_62 : decode cL_defined 62 = .ok (.iconst 3, 1) := by decide +kernel
theorem dL_defined_63 : decode cL_defined 63 = .ok (.if_icmp .gt 37, 3) := by decide +kernel
theorem dL_defined_66 : decode cL_defined 66 = .ok (.iload 4, 2) := by decide +kernel
theorem dL_defined_68 : decode cL_defined 68 = .ok (.iconst 2, 1) := by decide +kernel
theorem dL_defined_69 : decode cL_defined 69 = .ok (.idiv, 1) := by decide +kernel
theorem dL_defined_70 : decode cL_defined 70 = .ok (.iconst 2, 1) := by decide +kernel
theorem dL_defined_71 : decode cL_defined 71 = .ok (.irem, 1) := by decide +kernel
theorem dL_defined_72 : decode cL_defined 72 = .ok (.aload_n 0, 1) := by decide +kernel
theorem dL_defined_73 : decode cL_defined 73 = .ok (.iload 5, 2) := by decide +kernel
theorem dL_defined_75 : decode cL_defined 75 = .ok (.iconst 2, 1) := by decide +kernel
theorem dL_defined_76 : decode cL_defined 76 = .ok (.iadd, 1) := by decide +kernel
theorem dL_defined_77 : decode cL_defined 77 = .ok (.iaload, 1) := by decide +kernel
theorem dL_defined_78 : decode cL_defined 78 = .ok (.iconst 2, 1) := by decide +kernel
theorem dL_defined_79 : decode cL_defined 79 = .ok (.idiv, 1) := by decide +kernel
theorem dL_defined_80 : decode cL_defined 80 = .ok (.iconst 2, 1) := by decide +kernel
theorem dL_defined_81 : decode cL_defined 81 = .ok (.irem, 1) := by decide +kernel
theorem dL_defined_82 : decode cL_defined 82 = .ok (.if_icmp .ne 18, 3) := by decide +kernel
theorem dL_defined_85 : decode cL_defined 85 = .ok (.iload 4, 2) := by decide +kernel
theorem dL_defined_87 : decode cL_defined 87 = .ok (.iconst 2, 1) := by decide +kernel
theorem dL_defined_88 : decode cL_defined 88 = .ok (.irem, 1) := by decide +kernel
theorem dL_defined_89 : decode cL_defined 89 = .ok (.aload_n 0, 1) := by decide +kernel
theorem dL_defined_90 : decode cL_defined 90 = .ok (.iload 5, 2) := by decide +kernel
theorem dL_defined_92 : decode cL_defined 92 = .ok (.iconst 2, 1) := by decide +kernel
theorem dL_defined_93 : decode cL_defined 93 = .ok (.iadd, 1) := by decide +kernel
theorem dL_defined_94 : decode cL_defined 94 = .ok (.iaload, 1) := by decide +kernel
theorem dL_defined_95 : decode cL_defined 95 = .ok (.iconst 2, 1) := by decide +kernel
theorem dL_defined_96 : decode cL_defined 96 = .ok (.irem, 1) := by decide +kernel
theorem dL_defined_97 : decode cL_defined 97 = .ok (.if_icmp .le 7, 3) := by decide +kernel
theorem dL_defined_100 : decode cL_defined 100 = .ok (.iconst 1, 1) := by decide +kernel
theorem dL_defined_101 : decode cL_defined 101 = .ok (.goto 4, 3) := by decide +kernel
theorem dL_defined_104 : decode cL_defined 104 = .ok (.iconst 0, 1) := by decide +kernel
theorem dL_defined_105 : decode cL_defined 105 = .ok (.istore 6, 2) := by decide +kernel
theorem dL_defined_107 : decode cL_defined 107 = .ok (.iload 6, 2) := by decide +kernel
theorem dL_defined_109 : decode cL_defined 109 = .ok (.ifCond .ne 24, 3) := by decide +kernel
theorem dL_defined_112 : decode cL_defined 112 = .ok (.aload_n 0, 1) := by decide +kernel
theorem dL_defined_113 : decode cL_defined 113 = .ok (.iload 5, 2) := by decide +kernel
theorem dL_defined_115 : decode cL_defined 115 = .ok (.iconst 2, 1) := by decide +kernel
theorem dL_defined_116 : decode cL_defined 116 = .ok (.iadd, 1) := by decide +kernel
theorem dL_defined_117 : decode cL_defined 117 = .ok (.iaload, 1) := by decide +kernel
theorem dL_defined_118 : decode cL_defined 118 = .ok (.iconst 2, 1) := by decide +kernel
theorem dL_defined_119 : decode cL_defined 119 = .ok (.irem, 1) := by decide +kernel
theorem dL_defined_120 : decode cL_defined 120 = .ok (.ifCond .ne 16, 3) := by decide +kernel
theorem dL_defined_123 : decode cL_defined 123 = .ok (.aload_n 0, 1) := by decide +kernel
theorem dL_defined_124 : decode cL_defined 124 = .ok (.iload 5, 2) := by decide +kernel
theorem dL_defined_126 : decode cL_defined 126 = .ok (.iconst 1, 1) := by decide +kernel
theorem dL_defined_127 : decode cL_defined 127 = .ok (.iadd, 1) := by decide +kernel
theorem dL_defined_128 : decode cL_defined 128 = .ok (.iaload, 1) := by decide +kernel
theorem dL_defined_129 : decode cL_defined 129 = .ok (.iload_n 3, 1) := by decide +kernel
theorem dL_defined_130 : decode cL_defined 130 = .ok (.if_icmp .eq 6, 3) := by decide +kernel
theorem dL_defined_133 : decode cL_defined 133 = .ok (.bipush 110, 2) := by decide +kernel
theorem dL_defined_135 : decode cL_defined 135 = .ok (.ireturn, 1) := by decide +kernel
theorem dL_defined_136 : decode cL_defined 136 = .ok (.aload_n 0, 1) := by decide +kernel
theorem dL_defined_137 : decode cL_defined 137 = .ok (.iload 5, 2) := by decide +kernel
theorem dL_defined_139 : decode cL_defined 139 = .ok (.iconst 1, 1) := by decide +kernel
theorem dL_defined_140 : decode cL_defined 140 = .ok (.iadd, 1) := by decide +kernel
theorem dL_defined_141 : decode cL_defined 141 = .ok (.iload_n 3, 1) := by decide +kernel
theorem dL_defined_142 : decode cL_defined 142 = .ok (.iastore, 1) := by decide +kernel
theorem dL_defined_143 : decode cL_defined 143 = .ok (.aload_n 0, 1) := by decide +kernel
theorem dL_defined_144 : decode cL_defined 144 = .ok (.iload 5, 2) := by decide +kernel
theorem dL_defined_146 : decode cL_defined 146 = .ok (.iconst 2, 1) := by decide +kernel
theorem dL_defined_147 : decode cL_defined 147 = .ok (.iadd, 1) := by decide +kernel
theorem dL_defined_148 : decode cL_defined 148 = .ok (.iload 4, 2) := by decide +kernel
theorem dL_defined_150 : decode cL_defined 150 = .ok (.iastore, 1) := by decide +kernel
theorem dL_defined_151 : decode cL_defined 151 = .ok (.bipush 121, 2) := by decide +kernel
theorem dL_defined_153 : decode cL_defined 153 = .ok (.ireturn, 1) := by decide +kernel
set_option maxRecDepth 20000 in
theorem ggL_found_L_at : GoodIn wsL_found wsL_at := goodIn_r _ [4] (by decide +kernel) (by decide +kernel)
set_option maxRecDepth 20000 in
theorem gL_found_L_at : GoodIn wsL_found (va_wsS RL 81 yL_at wsL_at) := goodIn_app (goodIn_of _ (by decide +kernel)) ggL_found_L_at
theorem dL_found_0 : decode cL_found 0 = .ok (.iload_n 1, 1) := by decide +kernel
theorem dL_found_1 : decode cL_found 1 = .ok (.istore_n 3, 1) := by decide +kernel
theorem dL_found_2 : decode cL_found 2 = .ok (.iload_n 3, 1) := by decide +kernel
theorem dL_found_3 : decode cL_found 3 = .ok (.ifCond .lt 23, 3) := by decide +kernel
theorem dL_found_6 : decode cL_found 6 = .ok (.aload_n 0, 1) := by decide +kernel
theorem dL_found_7 : decode cL_found 7 = .ok (.iload_n 3, 1) := by decide +kernel
theorem dL_found_8 : decode cL_found 8 = .ok (.iload_n 2, 1) := by decide +kernel
theorem dL_found_9 : decode cL_found 9 = .ok (.invokestatic 81, 3) := by decide +kernel
theorem dL_found_12 : decode cL_found 12 = .ok (.iaload, 1) := by decide +kernel
theorem dL_found_13 : decode cL_found 13 = .ok (.ifCond .ne 13, 3) := by decide +kernel
theorem dL_found_16 : decode cL_found 16 = .ok (.aload_n 0, 1) := by decide +kernel
theorem dL_found_17 : decode cL_found 17 = .ok (.bipush 10, 2) := by decide +kernel
theorem dL_found_19 : decode cL_found 19 = .ok (.iload_n 3, 1) := by decide +kernel
theorem dL_found_20 : decode cL_found 20 = .ok (.iadd, 1) := by decide +kernel
theorem dL_found_21 : decode cL_found 21 = .ok (.iaload, 1) := by decide +kernel
theorem dL_found_22 : decode cL_found 22 = .ok (.istore_n 3, 1) := by decide +kernel
theorem dL_found_23 : decode cL_found 23 = .ok (.goto (-21), 3) := by decide +kernel
theorem dL_found_26 : decode cL_found 26 = .ok (.iload_n 3, 1) := by decide +kernel
theorem dL_found_27 : decode cL_found 27 = .ok (.ireturn, 1) := by decide +kernel
set_option maxRecDepth 20000 in
theorem ggL_received_L_at : GoodIn wsL_received wsL_at := goodIn_r _ [4] (by decide +kernel) (by decide +kernel)
set_option maxRecDepth 20000 in
theorem gL_received_L_at : GoodIn wsL_received (va_wsS RL 81 yL_at wsL_at) := goodIn_app (goodIn_of _ (by decide +kernel)) ggL_received_L_at
set_option maxRecDepth 20000 in
theorem ggL_received_L_defined : GoodIn wsL_received wsL_defined := goodIn_ca (goodIn_r _ [7, 1, 2, 3, 4] (by decide +kernel) (by decide +kernel)) (goodIn_sub (fun _ h => List.mem_cons_of_mem _ (List.mem_append_right _ h)) (by decide +kernel))
set_option maxRecDepth 20000 in
theorem gL_received_L_defined : GoodIn wsL_received (va_wsS RL 84 yL_defined wsL_defined) := goodIn_app (goodIn_of _ (by decide +kernel)) ggL_received_L_defined
theorem dL_received_0 : decode cL_received 0 = .ok (.iload_n 1, 1) := by decide +kernel
theorem dL_received_1 : decode cL_received 1 = .ok (.iload_n 2, 1) := by decide +kernel
theorem dL_received_2 : decode cL_received 2 = .ok (.invokestatic 81, 3) := by decide +kernel
theorem dL_received_5 : decode cL_received 5 = .ok (.istore 4, 2) := by decide +kernel
theorem dL_received_7 : decode cL_received 7 = .ok (.aload_n 0, 1) := by decide +kernel
theorem dL_received_8 : decode cL_received 8 = .ok (.iload 4, 2) := by decide +kernel
theorem dL_received_10 : decode cL_received 10 = .ok (.iaload, 1) := by decide +kernel
theorem dL_received_11 : decode cL_received 11 = .ok (.iconst 1, 1) := by decide +kernel
theorem dL_received_12 : decode cL_received 12 = .ok (.if_icmp .ne 17, 3) := by decide +kernel
theorem dL_received_15 : decode cL_received 15 = .ok (.aload_n 0, 1) := by decide +kernel
theorem dL_received_16 : decode cL_received 16 = .ok (.iload 4, 2) := by decide +kernel
theorem dL_received_18 : decode cL_received 18 = .ok (.iconst 2, 1) := by decide +kernel
theorem dL_received_19 : decode cL_received 19 = .ok (.iadd, 1) := by decide +kernel
theorem dL_received_20 : decode cL_received 20 = .ok (.iaload, 1) := by decide +kernel
theorem dL_received_21 : decode cL_received 21 = .ok (.iconst 2, 1) := by decide +kernel
theorem dL_received_22 : decode cL_received 22 = .ok (.irem, 1) := by decide +kernel
theorem dL_received_23 : decode cL_received 23 = .ok (.ifCond .ne 6, 3) := by decide +kernel
theorem dL_received_26 : decode cL_received 26 = .ok (.bipush 110, 2) := by decide +kernel
theorem dL_received_28 : decode cL_received 28 = .ok (.ireturn, 1) := by decide +kernel
theorem dL_received_29 : decode cL_received 29 = .ok (.aload_n 0, 1) := by decide +kernel
theorem dL_received_30 : decode cL_received 30 = .ok (.iload_n 1, 1) := by decide +kernel
theorem dL_received_31 : decode cL_received 31 = .ok (.iload_n 2, 1) := by decide +kernel
theorem dL_received_32 : decode cL_received 32 = .ok (.iload_n 3, 1) := by decide +kernel
theorem dL_received_33 : decode cL_received 33 = .ok (.aload_n 0, 1) := by decide +kernel
theorem dL_received_34 : decode cL_received 34 = .ok (.iload 4, 2) := by decide +kernel
theorem dL_received_36 : decode cL_received 36 = .ok (.iaload, 1) := by decide +kernel
theorem dL_received_37 : decode cL_received 37 = .ok (.iconst 1, 1) := by decide +kernel
theorem dL_received_38 : decode cL_received 38 = .ok (.if_icmp .ne 12, 3) := by decide +kernel
theorem dL_received_41 : decode cL_received 41 = .ok (.aload_n 0, 1) := by decide +kernel
theorem dL_received_42 : decode cL_received 42 = .ok (.iload 4, 2) := by decide +kernel
theorem dL_received_44 : decode cL_received 44 = .ok (.iconst 2, 1) := by decide +kernel
theorem dL_received_45 : decode cL_received 45 = .ok (.iadd, 1) := by decide +kernel
theorem dL_received_46 : decode cL_received 46 = .ok (.iaload, 1) := by decide +kernel
theorem dL_received_47 : decode cL_received 47 = .ok (.goto 5, 3) := by decide +kernel
theorem dL_received_50 : decode cL_received 50 = .ok (.bipush 7, 2) := by decide +kernel
theorem dL_received_52 : decode cL_received 52 = .ok (.invokestatic 84, 3) := by decide +kernel
theorem dL_received_55 : decode cL_received 55 = .ok (.ireturn, 1) := by decide +kernel
set_option maxRecDepth 20000 in
theorem ggL_wasSet_L_plain : GoodIn wsL_wasSet wsL_plain := goodIn_ca (goodIn_r _ [4] (by decide +kernel) (by decide +kernel)) (goodIn_sub (fun _ h => List.mem_cons_of_mem _ (List.mem_append_right _ h)) (by decide +kernel))
set_option maxRecDepth 20000 in
theorem gL_wasSet_L_plain : GoodIn wsL_wasSet (va_wsS RL 88 yL_plain wsL_plain) := goodIn_app (goodIn_of _ (by decide +kernel)) ggL_wasSet_L_plain
set_option maxRecDepth 20000 in
theorem ggL_wasSet_L_at : GoodIn wsL_wasSet wsL_at := goodIn_r _ [7] (by decide +kernel) (by decide +kernel)
set_option maxRecDepth 20000 in
theorem gL_wasSet_L_at : GoodIn wsL_wasSet (va_wsS RL 81 yL_at wsL_at) := goodIn_app (goodIn_of _ (by decide +kernel)) ggL_wasSet_L_at
set_option maxRecDepth 20000 in
theorem ggL_wasSet_L_wasSet : GoodIn wsL_wasSet wsL_wasSet := goodIn_ca (goodIn_r _ [0, 1, 2, 3, 4, 5, 6, 7, 8, 9, 10, 11, 12, 13, 14, 15, 16, 17, 18] (by decide +kernel) (by decide +kernel)) (goodIn_sub (fun _ h => List.mem_cons_of_mem _ (List.mem_append_right _ h)) (by decide +kernel))
set_option maxRecDepth 20000 in
theorem gL_wasSet_L_wasSet : GoodIn wsL_wasSet (va_wsS RL 91 yL_wasSet wsL_wasSet) := goodIn_app (goodIn_of _ (by decide +kernel)) ggL_wasSet_L_wasSet
set_option maxRecDepth 20000 in
theorem ggL_wasSet_L_found : GoodIn wsL_wasSet wsL_found := goodIn_ca (goodIn_r _ [12, 5, 6, 3, 7] (by decide +kernel) (by decide +kernel)) (goodIn_sub (fun _ h => List.mem_cons_of_mem _ (List.mem_append_right _ h)) (by decide +kernel))
set_option maxRecDepth 20000 in
theorem gL_wasSet_L_found : GoodIn wsL_wasSet (va_wsS RL 94 yL_found wsL_found) := goodIn_app (goodIn_of _ (by decide +kernel)) ggL_wasSet_L_found
set_option maxRecDepth 20000 in
theorem ggL_wasSet_L_received : GoodIn wsL_wasSet wsL_received := goodIn_ca (goodIn_r _ [15, 5, 6, 3, 7, 16, 17, 18] (by decide +kernel) (by decide +kernel)) (goodIn_sub (fun _ h => List.mem_cons_of_mem _ (List.mem_append_right _ h)) (by decide +kernel))
set_option maxRecDepth 20000 in
theorem gL_wasSet_L_received : GoodIn wsL_wasSet (va_wsS RL 98 yL_received wsL_received) := goodIn_app (goodIn_of _ (by decide +kernel)) ggL_wasSet_L_received
theorem dL_wasSet_0 : decode cL_wasSet 0 = .ok (.iload_n 1, 1) := by decide +kernel
theorem dL_wasSet_1 : decode cL_wasSet 1 = .ok (.iconst 4, 1) := by decide +kernel
theorem dL_wasSet_2 : decode cL_wasSet 2 = .ok (.if_icmp .le 114, 3) := by decide +kernel
theorem dL_wasSet_5 : decode cL_wasSet 5 = .ok (.aload_n 0, 1) := by decide +kernel
theorem dL_wasSet_6 : decode cL_wasSet 6 = .ok (.iload_n 1, 1) := by decide +kernel
theorem dL_wasSet_7 : decode cL_wasSet 7 = .ok (.invokestatic 88, 3) := by decide +kernel
theorem dL_wasSet_10 : decode cL_wasSet 10 = .ok (.iload_n 2, 1) := by decide +kernel
theorem dL_wasSet_11 : decode cL_wasSet 11 = .ok (.invokestatic 81, 3) := by decide +kernel
theorem dL_wasSet_14 : decode cL_wasSet 14 = .ok (.istore 5, 2) := by decide +kernel
theorem dL_wasSet_16 : decode cL_wasSet 16 = .ok (.aload_n 0, 1) := by decide +kernel
theorem dL_wasSet_17 : decode cL_wasSet 17 = .ok (.bipush 60, 2) := by decide +kernel
theorem dL_wasSet_19 : decode cL_wasSet 19 = .ok (.iconst 4, 1) := by decide +kernel
theorem dL_wasSet_20 : decode cL_wasSet 20 = .ok (.iload_n 1, 1) := by decide +kernel
theorem dL_wasSet_21 : decode cL_wasSet 21 = .ok (.iconst 5, 1) := by decide +kernel
theorem dL_wasSet_22 : decode cL_wasSet 22 = .ok (.isub, 1) := by decide +kernel
theorem dL_wasSet_23 : decode cL_wasSet 23 = .ok (.imul, 1) := by decide +kernel
theorem dL_wasSet_24 : decode cL_wasSet 24 = .ok (.iadd, 1) := by decide +kernel
theorem dL_wasSet_25 : decode cL_wasSet 25 = .ok (.iconst 2, 1) := by decide +kernel
theorem dL_wasSet_26 : decode cL_wasSet 26 = .ok (.iadd, 1) := by decide +kernel
theorem dL_wasSet_27 : decode cL_wasSet 27 = .ok (.iaload, 1) := by decide +kernel
theorem dL_wasSet_28 : decode cL_wasSet 28 = .ok (.iconst 1, 1) := by decide +kernel
theorem dL_wasSet_29 : decode cL_wasSet 29 = .ok (.if_icmp .ne 72, 3) := by decide +kernel
theorem dL_wasSet_32 : decode cL_wasSet 32 = .ok (.aload_n 0, 1) := by decide +kernel
theorem dL_wasSet_33 : decode cL_wasSet 33 = .ok (.iload 5, 2) := by decide +kernel
theorem dL_wasSet_35 : decode cL_wasSet 35 = .ok (.iaload, 1) := by decide +kernel
theorem dL_wasSet_36 : decode cL_wasSet 36 = .ok (.iconst 1, 1) := by decide +kernel
theorem dL_wasSet_37 : decode cL_wasSet 37 = .ok (.if_icmp .ne 28, 3) := by decide +kernel
theorem dL_wasSet_40 : decode cL_wasSet 40 = .ok (.aload_n 0, 1) := by decide +kernel
theorem dL_wasSet_41 : decode cL_wasSet 41 = .ok (.iload 5, 2) := by decide +kernel
theorem dL_wasSet_43 : decode cL_wasSet 43 = .ok (.iconst 2, 1) := by decide +kernel
theorem dL_wasSet_44 : decode cL_wasSet 44 = .ok (.iadd, 1) := by decide +kernel
theorem dL_wasSet_45 : decode cL_wasSet 45 = .ok (.iaload, 1) := by decide +kernel
theorem dL_wasSet_46 : decode cL_wasSet 46 = .ok (.iconst 5, 1) := by decide +kernel
theorem dL_wasSet_47 : decode cL_wasSet 47 = .ok (.iand, 1) := by decide +kernel
theorem dL_wasSet_48 : decode cL_wasSet 48 = .ok (.ifCond .ne 17, 3) := by decide +kernel
theorem dL_wasSet_51 : decode cL_wasSet 51 = .ok (.aload_n 0, 1) := by decide +kernel
theorem dL_wasSet_52 : decode cL_wasSet 52 = .ok (.iload 5, 2) := by decide +kernel
theorem dL_wasSet_54 : decode cL_wasSet 54 = .ok (.iconst 1, 1) := by decide +kernel
theorem dL_wasSet_55 : decode cL_wasSet 55 = .ok (.iadd, 1) := by decide +kernel
theorem dL_wasSet_56 : decode cL_wasSet 56 = .ok (.iaload, 1) := by decide +kernel
theorem dL_wasSet_57 : decode cL_wasSet 57 = .ok (.iload_n 3, 1) := by decide +kernel
theorem dL_wasSet_58 : decode cL_wasSet 58 = .ok (.if_icmp .eq 7, 3) := by decide +kernel
theorem dL_wasSet_61 : decode cL_wasSet 61 = .ok (.iconst 1, 1) := by decide +kernel
theorem dL_wasSet_62 : decode cL_wasSet 62 = .ok (.goto 4, 3) := by decide +kernel
theorem dL_wasSet_65 : decode cL_wasSet 65 = .ok (.iconst 0, 1) := by decide +kernel
theorem dL_wasSet_66 : decode cL_wasSet 66 = .ok (.istore 6, 2) := by decide +kernel
theorem dL_wasSet_68 : decode cL_wasSet 68 = .ok (.aload_n 0, 1) := by decide +kernel
theorem dL_wasSet_69 : decode cL_wasSet 69 = .ok (.bipush 40, 2) := by decide +kernel
theorem dL_wasSet_71 : decode cL_wasSet 71 = .ok (.iconst 4, 1) := by decide +kernel
theorem dL_wasSet_72 : decode cL_wasSet 72 = .ok (.iload_n 1, 1) := by decide +kernel
theorem dL_wasSet_73 : decode cL_wasSet 73 = .ok (.iconst 5, 1) := by decide +kernel
theorem dL_wasSet_74 : decode cL_wasSet 74 = .ok (.isub, 1) := by decide +kernel
theorem dL_wasSet_75 : decode cL_wasSet 75 = .ok (.imul, 1) := by decide +kernel
theorem dL_wasSet_76 : decode cL_wasSet 76 = .ok (.iadd, 1) := by decide +kernel
theorem dL_wasSet_77 : decode cL_wasSet 77 = .ok (.iconst 2, 1) := by decide +kernel
theorem dL_wasSet_78 : decode cL_wasSet 78 = .ok (.iadd, 1) := by decide +kernel
theorem dL_wasSet_79 : decode cL_wasSet 79 = .ok (.iaload, 1) := by decide +kernel
theorem dL_wasSet_80 : decode cL_wasSet 80 = .ok (.ifCond .ne 8, 3) := by decide +kernel
theorem dL_wasSet_83 : decode cL_wasSet 83 = .ok (.bipush 110, 2) := by decide +kernel
theorem dL_wasSet_85 : decode cL_wasSet 85 = .ok (.goto 15, 3) := by decide +kernel
theorem dL_wasSet_88 : decode cL_wasSet 88 = .ok (.iload 6, 2) := by decide +kernel
theorem dL_wasSet_90 : decode cL_wasSet 90 = .ok (.ifCond .eq 8, 3) := by decide +kernel
theorem dL_wasSet_93 : decode cL_wasSet 93 = .ok (.bipush 84, 2) := by decide +kernel
theorem dL_wasSet_95 : decode cL_wasSet 95 = .ok (.goto 5, 3) := by decide +kernel
theorem dL_wasSet_98 : decode cL_wasSet 98 = .ok (.bipush 121, 2) := by decide +kernel
theorem dL_wasSet_100 : decode cL_wasSet 100 = .ok (.ireturn, 1) := by decide +kernel
theorem dL_wasSet_101 : decode cL_wasSet 101 = .ok (.aload_n 0, 1) := by decide +kernel
theorem dL_wasSet_102 : decode cL_wasSet 102 = .ok (.aload_n 0, 1) := by decide +kernel
theorem dL_wasSet_103 : decode cL_wasSet 103 = .ok (.bipush 30, 2) := by decide +kernel
theorem dL_wasSet_105 : decode cL_wasSet 105 = .ok (.iload_n 1, 1) := by decide +kernel
theorem dL_wasSet_106 : decode cL_wasSet 106 = .ok (.iadd, 1) := by decide +kernel
theorem dL_wasSet_107 : decode cL_wasSet 107 = .ok (.iaload, 1) := by decide +kernel
theorem dL_wasSet_108 : decode cL_wasSet 108 = .ok (.iload_n 2, 1) := by decide +kernel
theorem dL_wasSet_109 : decode cL_wasSet 109 = .ok (.iload_n 3, 1) := by decide +kernel
theorem dL_wasSet_110 : decode cL_wasSet 110 = .ok (.iload 4, 2) := by decide +kernel
theorem dL_wasSet_112 : decode cL_wasSet 112 = .ok (.invokestatic 91, 3) := by decide +kernel
theorem dL_wasSet_115 : decode cL_wasSet 115 = .ok (.ireturn, 1) := by decide +kernel
theorem dL_wasSet_116 : decode cL_wasSet 116 = .ok (.aload_n 0, 1) := by decide +kernel
theorem dL_wasSet_117 : decode cL_wasSet 117 = .ok (.iload_n 1, 1) := by decide +kernel
theorem dL_wasSet_118 : decode cL_wasSet 118 = .ok (.iload_n 2, 1) := by decide +kernel
theorem dL_wasSet_119 : decode cL_wasSet 119 = .ok (.invokestatic 94, 3) := by decide +kernel
theorem dL_wasSet_122 : decode cL_wasSet 122 = .ok (.istore 5, 2) := by decide +kernel
theorem dL_wasSet_124 : decode cL_wasSet 124 = .ok (.iload 5, 2) := by decide +kernel
theorem dL_wasSet_126 : decode cL_wasSet 126 = .ok (.ifCond .lt 23, 3) := by decide +kernel
theorem dL_wasSet_129 : decode cL_wasSet 129 = .ok (.aload_n 0, 1) := by decide +kernel
theorem dL_wasSet_130 : decode cL_wasSet 130 = .ok (.iload 5, 2) := by decide +kernel
theorem dL_wasSet_132 : decode cL_wasSet 132 = .ok (.iload_n 2, 1) := by decide +kernel
theorem dL_wasSet_133 : decode cL_wasSet 133 = .ok (.invokestatic 81, 3) := by decide +kernel
theorem dL_wasSet_136 : decode cL_wasSet 136 = .ok (.iconst 2, 1) := by decide +kernel
theorem dL_wasSet_137 : decode cL_wasSet 137 = .ok (.iadd, 1) := by decide +kernel
theorem dL_wasSet_138 : decode cL_wasSet 138 = .ok (.iaload, 1) := by decide +kernel
theorem dL_wasSet_139 : decode cL_wasSet 139 = .ok (.iconst 2, 1) := by decide +kernel
theorem dL_wasSet_140 : decode cL_wasSet 140 = .ok (.irem, 1) := by decide +kernel
theorem dL_wasSet_141 : decode cL_wasSet 141 = .ok (.ifCond .ne 8, 3) := by decide +kernel
theorem dL_wasSet_144 : decode cL_wasSet 144 = .ok (.bipush 110, 2) := by decide +kernel
theorem dL_wasSet_146 : decode cL_wasSet 146 = .ok (.goto 11, 3) := by decide +kernel
theorem dL_wasSet_149 : decode cL_wasSet 149 = .ok (.aload_n 0, 1) := by decide +kernel
theorem dL_wasSet_150 : decode cL_wasSet 150 = .ok (.iload 4, 2) := by decide +kernel
theorem dL_wasSet_152 : decode cL_wasSet 152 = .ok (.iload_n 2, 1) := by decide +kernel
theorem dL_wasSet_153 : decode cL_wasSet 153 = .ok (.iload_n 3, 1) := by decide +kernel
theorem dL_wasSet_154 : decode cL_wasSet 154 = .ok (.invokestatic 98, 3) := by decide +kernel
theorem dL_wasSet_157 : decode cL_wasSet 157 = .ok (.ireturn, 1) := by decide +kernel
set_option maxRecDepth 20000 in
theorem ggL_isKept_L_at : GoodIn wsL_isKept wsL_at := goodIn_r _ [4] (by decide +kernel) (by decide +kernel)
set_option maxRecDepth 20000 in
theorem gL_isKept_L_at : GoodIn wsL_isKept (va_wsS RL 81 yL_at wsL_at) := goodIn_app (goodIn_of _ (by decide +kernel)) ggL_isKept_L_at
theorem dL_isKept_0 : decode cL_isKept 0 = .ok (.aload_n 0, 1) := by decide +kernel
theorem dL_isKept_1 : decode cL_isKept 1 = .ok (.iload_n 1, 1) := by decide +kernel
theorem dL_isKept_2 : decode cL_isKept 2 = .ok (.iload_n 2, 1) := by decide +kernel
theorem dL_isKept_3 : decode cL_isKept 3 = .ok (.invokestatic 81, 3) := by decide +kernel
theorem dL_isKept_6 : decode cL_isKept 6 = .ok (.iaload, 1) := by decide +kernel
theorem dL_isKept_7 : decode cL_isKept 7 = .ok (.iconst 1, 1) := by decide +kernel
theorem dL_isKept_8 : decode cL_isKept 8 = .ok (.if_icmp .ne 27, 3) := by decide +kernel
theorem dL_isKept_11 : decode cL_isKept 11 = .ok (.aload_n 0, 1) := by decide +kernel
theorem dL_isKept_12 : decode cL_isKept 12 = .ok (.iload_n 1, 1) := by decide +kernel
theorem dL_isKept_13 : decode cL_isKept 13 = .ok (.iload_n 2, 1) := by decide +kernel
theorem dL_isKept_14 : decode cL_isKept 14 = .ok (.invokestatic 81, 3) := by decide +kernel
theorem dL_isKept_17 : decode cL_isKept 17 = .ok (.iconst 2, 1) := by decide +kernel
theorem dL_isKept_18 : decode cL_isKept 18 = .ok (.iadd, 1) := by decide +kernel
theorem dL_isKept_19 : decode cL_isKept 19 = .ok (.iaload, 1) := by decide +kernel
theorem dL_isKept_20 : decode cL_isKept 20 = .ok (.iconst 4, 1) := by decide +kernel
theorem dL_isKept_21 : decode cL_isKept 21 = .ok (.if_icmp .lt 10, 3) := by decide +kernel
theorem dL_isKept_24 : decode cL_isKept 24 = .ok (.aload_n 0, 1) := by decide +kernel
theorem dL_isKept_25 : decode cL_isKept 25 = .ok (.iload_n 1, 1) := by decide +kernel
theorem dL_isKept_26 : decode cL_isKept 26 = .ok (.iaload, 1) := by decide +kernel
theorem dL_isKept_27 : decode cL_isKept 27 = .ok (.iconst 1, 1) := by decide +kernel
theorem dL_isKept_28 : decode cL_isKept 28 = .ok (.if_icmp .ne 7, 3) := by decide +kernel
theorem dL_isKept_31 : decode cL_isKept 31 = .ok (.iconst 1, 1) := by decide +kernel
theorem dL_isKept_32 : decode cL_isKept 32 = .ok (.goto 4, 3) := by decide +kernel
theorem dL_isKept_35 : decode cL_isKept 35 = .ok (.iconst 0, 1) := by decide +kernel
theorem dL_isKept_36 : decode cL_isKept 36 = .ok (.ireturn, 1) := by decide +kernel
set_option maxRecDepth 20000 in
theorem ggL_got_L_plain : GoodIn wsL_got wsL_plain := goodIn_ca (goodIn_r _ [5] (by decide +kernel) (by decide +kernel)) (goodIn_sub (fun _ h => List.mem_cons_of_mem _ (List.mem_append_right _ h)) (by decide +kernel))
set_option maxRecDepth 20000 in
theorem gL_got_L_plain : GoodIn wsL_got (va_wsS RL 88 yL_plain wsL_plain) := goodIn_app (goodIn_of _ (by decide +kernel)) ggL_got_L_plain
set_option maxRecDepth 20000 in
theorem ggL_got_L_at : GoodIn wsL_got wsL_at := goodIn_r _ [8] (by decide +kernel) (by decide +kernel)
set_option maxRecDepth 20000 in
theorem gL_got_L_at : GoodIn wsL_got (va_wsS RL 81 yL_at wsL_at) := goodIn_app (goodIn_of _ (by decide +kernel)) ggL_got_L_at
set_option maxRecDepth 20000 in
theorem ggL_got_L_got : GoodIn wsL_got wsL_got := goodIn_ca (goodIn_r _ [0, 1, 2, 3, 4, 5, 6, 7, 8, 9, 10, 11, 12, 13] (by decide +kernel) (by decide +kernel)) (goodIn_sub (fun _ h => List.mem_cons_of_mem _ (List.mem_append_right _ h)) (by decide +kernel))
set_option maxRecDepth 20000 in
theorem gL_got_L_got : GoodIn wsL_got (va_wsS RL 102 yL_got wsL_got) := goodIn_app (goodIn_of _ (by decide +kernel)) ggL_got_L_got
set_option maxRecDepth 20000 in
theorem ggL_got_L_found : GoodIn wsL_got wsL_found := goodIn_ca (goodIn_r _ [13, 6, 7, 4, 8] (by decide +kernel) (by decide +kernel)) (goodIn_sub (fun _ h => List.mem_cons_of_mem _ (List.mem_append_right _ h)) (by decide +kernel))
set_option maxRecDepth 20000 in
theorem gL_got_L_found : GoodIn wsL_got (va_wsS RL 94 yL_found wsL_found) := goodIn_app (goodIn_of _ (by decide +kernel)) ggL_got_L_found
theorem dL_got_0 : decode cL_got 0 = .ok (.iload_n 1, 1) := by decide +kernel
theorem dL_got_1 : decode cL_got 1 = .ok (.iconst 4, 1) := by decide +kernel
theorem dL_got_2 : decode cL_got 2 = .ok (.if_icmp .le 86, 3) := by decide +kernel
theorem dL_got_5 : decode cL_got 5 = .ok (.aload_n 0, 1) := by decide +kernel
theorem dL_got_6 : decode cL_got 6 = .ok (.iload_n 1, 1) := by decide +kernel
theorem dL_got_7 : decode cL_got 7 = .ok (.invokestatic 88, 3) := by decide +kernel
theorem dL_got_10 : decode cL_got 10 = .ok (.iload_n 2, 1) := by decide +kernel
theorem dL_got_11 : decode cL_got 11 = .ok (.invokestatic 81, 3) := by decide +kernel
theorem dL_got_14 : decode cL_got 14 = .ok (.istore_n 3, 1) := by decide +kernel
theorem dL_got_15 : decode cL_got 15 = .ok (.aload_n 0, 1) := by decide +kernel
theorem dL_got_16 : decode cL_got 16 = .ok (.bipush 40, 2) := by decide +kernel
theorem dL_got_18 : decode cL_got 18 = .ok (.iconst 4, 1) := by decide +kernel
theorem dL_got_19 : decode cL_got 19 = .ok (.iload_n 1, 1) := by decide +kernel
theorem dL_got_20 : decode cL_got 20 = .ok (.iconst 5, 1) := by decide +kernel
theorem dL_got_21 : decode cL_got 21 = .ok (.isub, 1) := by decide +kernel
theorem dL_got_22 : decode cL_got 22 = .ok (.imul, 1) := by decide +kernel
theorem dL_got_23 : decode cL_got 23 = .ok (.iadd, 1) := by decide +kernel
theorem dL_got_24 : decode cL_got 24 = .ok (.iaload, 1) := by decide +kernel
theorem dL_got_25 : decode cL_got 25 = .ok (.istore 4, 2) := by decide +kernel
theorem dL_got_27 : decode cL_got 27 = .ok (.aload_n 0, 1) := by decide +kernel
theorem dL_got_28 : decode cL_got 28 = .ok (.bipush 60, 2) := by decide +kernel
theorem dL_got_30 : decode cL_got 30 = .ok (.iconst 4, 1) := by decide +kernel
theorem dL_got_31 : decode cL_got 31 = .ok (.iload_n 1, 1) := by decide +kernel
theorem dL_got_32 : decode cL_got 32 = .ok (.iconst 5, 1) := by decide +kernel
theorem dL_got_33 : decode cL_got 33 = .ok (.isub, 1) := by decide +kernel
theorem dL_got_34 : decode cL_got 34 = .ok (.imul, 1) := by decide +kernel
theorem dL_got_35 : decode cL_got 35 = .ok (.iadd, 1) := by decide +kernel
theorem dL_got_36 : decode cL_got 36 = .ok (.iaload, 1) := by decide +kernel
theorem dL_got_37 : decode cL_got 37 = .ok (.iconst 1, 1) := by decide +kernel
theorem dL_got_38 : decode cL_got 38 = .ok (.if_icmp .ne 38, 3) := by decide +kernel
theorem dL_got_41 : decode cL_got 41 = .ok (.aload_n 0, 1) := by decide +kernel
theorem dL_got_42 : decode cL_got 42 = .ok (.iload_n 3, 1) := by decide +kernel
theorem dL_got_43 : decode cL_got 43 = .ok (.iaload, 1) := by decide +kernel
theorem dL_got_44 : decode cL_got 44 = .ok (.iconst 1, 1) := by decide +kernel
theorem dL_got_45 : decode cL_got 45 = .ok (.if_icmp .ne 28, 3) := by decide +kernel
theorem dL_got_48 : decode cL_got 48 = .ok (.aload_n 0, 1) := by decide +kernel
theorem dL_got_49 : decode cL_got 49 = .ok (.iload_n 3, 1) := by decide +kernel
theorem dL_got_50 : decode cL_got 50 = .ok (.iconst 2, 1) := by decide +kernel
theorem dL_got_51 : decode cL_got 51 = .ok (.iadd, 1) := by decide +kernel
theorem dL_got_52 : decode cL_got 52 = .ok (.iaload, 1) := by decide +kernel
theorem dL_got_53 : decode cL_got 53 = .ok (.iconst 5, 1) := by decide +kernel
theorem dL_got_54 : decode cL_got 54 = .ok (.iand, 1) := by decide +kernel
theorem dL_got_55 : decode cL_got 55 = .ok (.ifCond .ne 18, 3) := by decide +kernel
theorem dL_got_58 : decode cL_got 58 = .ok (.aload_n 0, 1) := by decide +kernel
theorem dL_got_59 : decode cL_got 59 = .ok (.iload_n 3, 1) := by decide +kernel
theorem dL_got_60 : decode cL_got 60 = .ok (.iconst 1, 1) := by decide +kernel
theorem dL_got_61 : decode cL_got 61 = .ok (.iadd, 1) := by decide +kernel
theorem dL_got_62 : decode cL_got 62 = .ok (.iaload, 1) := by decide +kernel
theorem dL_got_63 : decode cL_got 63 = .ok (.iload 4, 2) := by decide +kernel
theorem dL_got_65 : decode cL_got 65 = .ok (.if_icmp .eq 8, 3) := by decide +kernel
theorem dL_got_68 : decode cL_got 68 = .ok (.ldc 20, 2) := by decide +kernel
theorem dL_got_70 : decode cL_got 70 = .ok (.goto 5, 3) := by decide +kernel
theorem dL_got_73 : decode cL_got 73 = .ok (.iload 4, 2) := by decide +kernel
theorem dL_got_75 : decode cL_got 75 = .ok (.ireturn, 1) := by decide +kernel
theorem dL_got_76 : decode cL_got 76 = .ok (.aload_n 0, 1) := by decide +kernel
theorem dL_got_77 : decode cL_got 77 = .ok (.aload_n 0, 1) := by decide +kernel
theorem dL_got_78 : decode cL_got 78 = .ok (.bipush 30, 2) := by decide +kernel
theorem dL_got_80 : decode cL_got 80 = .ok (.iload_n 1, 1) := by decide +kernel
theorem dL_got_81 : decode cL_got 81 = .ok (.iadd, 1) := by decide +kernel
theorem dL_got_82 : decode cL_got 82 = .ok (.iaload, 1) := by decide +kernel
theorem dL_got_83 : decode cL_got 83 = .ok (.iload_n 2, 1) := by decide +kernel
theorem dL_got_84 : decode cL_got 84 = .ok (.invokestatic 102, 3) := by decide +kernel
theorem dL_got_87 : decode cL_got 87 = .ok (.ireturn, 1) := by decide +kernel
theorem dL_got_88 : decode cL_got 88 = .ok (.aload_n 0, 1) := by decide +kernel
theorem dL_got_89 : decode cL_got 89 = .ok (.iload_n 1, 1) := by decide +kernel
theorem dL_got_90 : decode cL_got 90 = .ok (.iload_n 2, 1) := by decide +kernel
theorem dL_got_91 : decode cL_got 91 = .ok (.invokestatic 94, 3) := by decide +kernel
theorem dL_got_94 : decode cL_got 94 = .ok (.istore_n 3, 1) := by decide +kernel
theorem dL_got_95 : decode cL_got 95 = .ok (.iload_n 3, 1) := by decide +kernel
theorem dL_got_96 : decode cL_got 96 = .ok (.ifCond .ge 7, 3) := by decide +kernel
theorem dL_got_99 : decode cL_got 99 = .ok (.iconst 0, 1) := by decide +kernel
theorem dL_got_100 : decode cL_got 100 = .ok (.goto 12, 3) := by decide +kernel
theorem dL_got_103 : decode cL_got 103 = .ok (.aload_n 0, 1) := by decide +kernel
theorem dL_got_104 : decode cL_got 104 = .ok (.iload_n 3, 1) := by decide +kernel
theorem dL_got_105 : decode cL_got 105 = .ok (.iload_n 2, 1) := by decide +kernel
theorem dL_got_106 : decode cL_got 106 = .ok (.invokestatic 81, 3) := by decide +kernel
theorem dL_got_109 : decode cL_got 109 = .ok (.iconst 1, 1) := by decide +kernel
theorem dL_got_110 : decode cL_got 110 = .ok (.iadd, 1) := by decide +kernel
theorem dL_got_111 : decode cL_got 111 = .ok (.iaload, 1) := by decide +kernel
theorem dL_got_112 : decode cL_got 112 = .ok (.ireturn, 1) := by decide +kernel
set_option maxRecDepth 20000 in
theorem ggL_asked_L_plain : GoodIn wsL_asked wsL_plain := goodIn_ca (goodIn_r _ [4] (by decide +kernel) (by decide +kernel)) (goodIn_sub (fun _ h => List.mem_cons_of_mem _ (List.mem_append_right _ h)) (by decide +kernel))
set_option maxRecDepth 20000 in
theorem gL_asked_L_plain : GoodIn wsL_asked (va_wsS RL 88 yL_plain wsL_plain) := goodIn_app (goodIn_of _ (by decide +kernel)) ggL_asked_L_plain
set_option maxRecDepth 20000 in
theorem ggL_asked_L_isKept : GoodIn wsL_asked wsL_isKept := goodIn_ca (goodIn_r _ [7, 8, 9, 3, 10] (by decide +kernel) (by decide +kernel)) (goodIn_sub (fun _ h => List.mem_cons_of_mem _ (List.mem_append_right _ h)) (by decide +kernel))
set_option maxRecDepth 20000 in
theorem gL_asked_L_isKept : GoodIn wsL_asked (va_wsS RL 105 yL_isKept wsL_isKept) := goodIn_app (goodIn_of _ (by decide +kernel)) ggL_asked_L_isKept
set_option maxRecDepth 20000 in
theorem ggL_asked_L_asked : GoodIn wsL_asked wsL_asked := goodIn_ca (goodIn_r _ [0, 1, 2, 3, 4, 5, 6, 7, 8, 9, 10, 11, 12, 13, 14, 15] (by decide +kernel) (by decide +kernel)) (goodIn_sub (fun _ h => List.mem_cons_of_mem _ (List.mem_append_right _ h)) (by decide +kernel))
set_option maxRecDepth 20000 in
theorem gL_asked_L_asked : GoodIn wsL_asked (va_wsS RL 109 yL_asked wsL_asked) := goodIn_app (goodIn_of _ (by decide +kernel)) ggL_asked_L_asked
set_option maxRecDepth 20000 in
theorem ggL_asked_L_found : GoodIn wsL_asked wsL_found := goodIn_ca (goodIn_r _ [15, 8, 9, 3, 10] (by decide +kernel) (by decide +kernel)) (goodIn_sub (fun _ h => List.mem_cons_of_mem _ (List.mem_append_right _ h)) (by decide +kernel))
set_option maxRecDepth 20000 in
theorem gL_asked_L_found : GoodIn wsL_asked (va_wsS RL 94 yL_found wsL_found) := goodIn_app (goodIn_of _ (by decide +kernel)) ggL_asked_L_found
theorem dL_asked_0 : decode cL_asked 0 = .ok (.iload_n 1, 1) := by decide +kernel
theorem dL_asked_1 : decode cL_asked 1 = .ok (.iconst 4, 1) := by decide +kernel
theorem dL_asked_2 : decode cL_asked 2 = .ok (.if_icmp .le 83, 3) := by decide +kernel
theorem dL_asked_5 : decode cL_asked 5 = .ok (.aload_n 0, 1) := by decide +kernel
theorem dL_asked_6 : decode cL_asked 6 = .ok (.bipush 60, 2) := by decide +kernel
theorem dL_asked_8 : decode cL_asked 8 = .ok (.iconst 4, 1) := by decide +kernel
theorem dL_asked_9 : decode cL_asked 9 = .ok (.iload_n 1, 1) := by decide +kernel
theorem dL_asked_10 : decode cL_asked 10 = .ok (.iconst 5, 1) := by decide +kernel
theorem dL_asked_11 : decode cL_asked 11 = .ok (.isub, 1) := by decide +kernel
theorem dL_asked_12 : decode cL_asked 12 = .ok (.imul, 1) := by decide +kernel
theorem dL_asked_13 : decode cL_asked 13 = .ok (.iadd, 1) := by decide +kernel
theorem dL_asked_14 : decode cL_asked 14 = .ok (.iconst 1, 1) := by decide +kernel
theorem dL_asked_15 : decode cL_asked 15 = .ok (.iadd, 1) := by decide +kernel
theorem dL_asked_16 : decode cL_asked 16 = .ok (.iaload, 1) := by decide +kernel
theorem dL_asked_17 : decode cL_asked 17 = .ok (.iconst 1, 1) := by decide +kernel
theorem dL_asked_18 : decode cL_asked 18 = .ok (.if_icmp .ne 55, 3) := by decide +kernel
theorem dL_asked_21 : decode cL_asked 21 = .ok (.aload_n 0, 1) := by decide +kernel
theorem dL_asked_22 : decode cL_asked 22 = .ok (.bipush 40, 2) := by decide +kernel
theorem dL_asked_24 : decode cL_asked 24 = .ok (.iconst 4, 1) := by decide +kernel
theorem dL_asked_25 : decode cL_asked 25 = .ok (.iload_n 1, 1) := by decide +kernel
theorem dL_asked_26 : decode cL_asked 26 = .ok (.iconst 5, 1) := by decide +kernel
theorem dL_asked_27 : decode cL_asked 27 = .ok (.isub, 1) := by decide +kernel
theorem dL_asked_28 : decode cL_asked 28 = .ok (.imul, 1) := by decide +kernel
theorem dL_asked_29 : decode cL_asked 29 = .ok (.iadd, 1) := by decide +kernel
theorem dL_asked_30 : decode cL_asked 30 = .ok (.iconst 1, 1) := by decide +kernel
theorem dL_asked_31 : decode cL_asked 31 = .ok (.iadd, 1) := by decide +kernel
theorem dL_asked_32 : decode cL_asked 32 = .ok (.iaload, 1) := by decide +kernel
theorem dL_asked_33 : decode cL_asked 33 = .ok (.iconst 1, 1) := by decide +kernel
theorem dL_asked_34 : decode cL_asked 34 = .ok (.if_icmp .ne 7, 3) := by decide +kernel
theorem dL_asked_37 : decode cL_asked 37 = .ok (.iconst 1, 1) := by decide +kernel
theorem dL_asked_38 : decode cL_asked 38 = .ok (.goto 4, 3) := by decide +kernel
theorem dL_asked_41 : decode cL_asked 41 = .ok (.iconst 0, 1) := by decide +kernel
theorem dL_asked_42 : decode cL_asked 42 = .ok (.istore_n 3, 1) := by decide +kernel
theorem dL_asked_43 : decode cL_asked 43 = .ok (.iload_n 3, 1) := by decide +kernel
theorem dL_asked_44 : decode cL_asked 44 = .ok (.ifCond .eq 8, 3) := by decide +kernel
theorem dL_asked_47 : decode cL_asked 47 = .ok (.bipush 121, 2) := by decide +kernel
theorem dL_asked_49 : decode cL_asked 49 = .ok (.goto 23, 3) := by decide +kernel
theorem dL_asked_52 : decode cL_asked 52 = .ok (.aload_n 0, 1) := by decide +kernel
theorem dL_asked_53 : decode cL_asked 53 = .ok (.aload_n 0, 1) := by decide +kernel
theorem dL_asked_54 : decode cL_asked 54 = .ok (.iload_n 1, 1) := by decide +kernel
theorem dL_asked_55 : decode cL_asked 55 = .ok (.invokestatic 88, 3) := by decide +kernel
theorem dL_asked_58 : decode cL_asked 58 = .ok (.iload_n 2, 1) := by decide +kernel
theorem dL_asked_59 : decode cL_asked 59 = .ok (.invokestatic 105, 3) := by decide +kernel
theorem dL_asked_62 : decode cL_asked 62 = .ok (.ifCond .eq 8, 3) := by decide +kernel
theorem dL_asked_65 : decode cL_asked 65 = .ok (.bipush 84, 2) := by decide +kernel
theorem dL_asked_67 : decode cL_asked 67 = .ok (.goto 5, 3) := by decide +kernel
theorem dL_asked_70 : decode cL_asked 70 = .ok (.bipush 110, 2) := by decide +kernel
theorem dL_asked_72 : decode cL_asked 72 = .ok (.ireturn, 1) := by decide +kernel
theorem dL_asked_73 : decode cL_asked 73 = .ok (.aload_n 0, 1) := by decide +kernel
theorem dL_asked_74 : decode cL_asked 74 = .ok (.aload_n 0, 1) := by decide +kernel
theorem dL_asked_75 : decode cL_asked 75 = .ok (.bipush 30, 2) := by decide +kernel
theorem dL_asked_77 : decode cL_asked 77 = .ok (.iload_n 1, 1) := by decide +kernel
theorem dL_asked_78 : decode cL_asked 78 = .ok (.iadd, 1) := by decide +kernel
theorem dL_asked_79 : decode cL_asked 79 = .ok (.iaload, 1) := by decide +kernel
theorem dL_asked_80 : decode cL_asked 80 = .ok (.iload_n 2, 1) := by decide +kernel
theorem dL_asked_81 : decode cL_asked 81 = .ok (.invokestatic 109, 3) := by decide +kernel
theorem dL_asked_84 : decode cL_asked 84 = .ok (.ireturn, 1) := by decide +kernel
theorem dL_asked_85 : decode cL_asked 85 = .ok (.aload_n 0, 1) := by decide +kernel
theorem dL_asked_86 : decode cL_asked 86 = .ok (.iload_n 1, 1) := by decide +kernel
theorem dL_asked_87 : decode cL_asked 87 = .ok (.iload_n 2, 1) := by decide +kernel
theorem dL_asked_88 : decode cL_asked 88 = .ok (.invokestatic 94, 3) := by decide +kernel
theorem dL_asked_91 : decode cL_asked 91 = .ok (.ifCond .ge 8, 3) := by decide +kernel
theorem dL_asked_94 : decode cL_asked 94 = .ok (.bipush 110, 2) := by decide +kernel
theorem dL_asked_96 : decode cL_asked 96 = .ok (.goto 5, 3) := by decide +kernel
theorem dL_asked_99 : decode cL_asked 99 = .ok (.bipush 121, 2) := by decide +kernel
theorem dL_asked_101 : decode cL_asked 101 = .ok (.ireturn, 1) := by decide +kernel
set_option maxRecDepth 20000 in
theorem ggL_gone_L_plain : GoodIn wsL_gone wsL_plain := goodIn_ca (goodIn_r _ [4] (by decide +kernel) (by decide +kernel)) (goodIn_sub (fun _ h => List.mem_cons_of_mem _ (List.mem_append_right _ h)) (by decide +kernel))
set_option maxRecDepth 20000 in
theorem gL_gone_L_plain : GoodIn wsL_gone (va_wsS RL 88 yL_plain wsL_plain) := goodIn_app (goodIn_of _ (by decide +kernel)) ggL_gone_L_plain
set_option maxRecDepth 20000 in
theorem ggL_gone_L_isKept : GoodIn wsL_gone wsL_isKept := goodIn_ca (goodIn_r _ [7, 8, 9, 3, 10] (by decide +kernel) (by decide +kernel)) (goodIn_sub (fun _ h => List.mem_cons_of_mem _ (List.mem_append_right _ h)) (by decide +kernel))
set_option maxRecDepth 20000 in
theorem gL_gone_L_isKept : GoodIn wsL_gone (va_wsS RL 105 yL_isKept wsL_isKept) := goodIn_app (goodIn_of _ (by decide +kernel)) ggL_gone_L_isKept
set_option maxRecDepth 20000 in
theorem ggL_gone_L_gone : GoodIn wsL_gone wsL_gone := goodIn_ca (goodIn_r _ [0, 1, 2, 3, 4, 5, 6, 7, 8, 9, 10, 11, 12] (by decide +kernel) (by decide +kernel)) (goodIn_sub (fun _ h => List.mem_cons_of_mem _ (List.mem_append_right _ h)) (by decide +kernel))
set_option maxRecDepth 20000 in
theorem gL_gone_L_gone : GoodIn wsL_gone (va_wsS RL 112 yL_gone wsL_gone) := goodIn_app (goodIn_of _ (by decide +kernel)) ggL_gone_L_gone
set_option maxRecDepth 20000 in
theorem ggL_gone_L_at : GoodIn wsL_gone wsL_at := goodIn_r _ [10] (by decide +kernel) (by decide +kernel)
set_option maxRecDepth 20000 in
theorem gL_gone_L_at : GoodIn wsL_gone (va_wsS RL 81 yL_at wsL_at) := goodIn_app (goodIn_of _ (by decide +kernel)) ggL_gone_L_at
theorem dL_gone_0 : decode cL_gone 0 = .ok (.iload_n 1, 1) := by decide +kernel
theorem dL_gone_1 : decode cL_gone 1 = .ok (.iconst 4, 1) := by decide +kernel
theorem dL_gone_2 : decode cL_gone 2 = .ok (.if_icmp .le 83, 3) := by decide +kernel
theorem dL_gone_5 : decode cL_gone 5 = .ok (.aload_n 0, 1) := by decide +kernel
theorem dL_gone_6 : decode cL_gone 6 = .ok (.bipush 60, 2) := by decide +kernel
theorem dL_gone_8 : decode cL_gone 8 = .ok (.iconst 4, 1) := by decide +kernel
theorem dL_gone_9 : decode cL_gone 9 = .ok (.iload_n 1, 1) := by decide +kernel
theorem dL_gone_10 : decode cL_gone 10 = .ok (.iconst 5, 1) := by decide +kernel
theorem dL_gone_11 : decode cL_gone 11 = .ok (.isub, 1) := by decide +kernel
theorem dL_gone_12 : decode cL_gone 12 = .ok (.imul, 1) := by decide +kernel
theorem dL_gone_13 : decode cL_gone 13 = .ok (.iadd, 1) := by decide +kernel
theorem dL_gone_14 : decode cL_gone 14 = .ok (.iconst 3, 1) := by decide +kernel
theorem dL_gone_15 : decode cL_gone 15 = .ok (.iadd, 1) := by decide +kernel
theorem dL_gone_16 : decode cL_gone 16 = .ok (.iaload, 1) := by decide +kernel
theorem dL_gone_17 : decode cL_gone 17 = .ok (.iconst 1, 1) := by decide +kernel
theorem dL_gone_18 : decode cL_gone 18 = .ok (.if_icmp .ne 55, 3) := by decide +kernel
theorem dL_gone_21 : decode cL_gone 21 = .ok (.aload_n 0, 1) := by decide +kernel
theorem dL_gone_22 : decode cL_gone 22 = .ok (.bipush 40, 2) := by decide +kernel
theorem dL_gone_24 : decode cL_gone 24 = .ok (.iconst 4, 1) := by decide +kernel
theorem dL_gone_25 : decode cL_gone 25 = .ok (.iload_n 1, 1) := by decide +kernel
theorem dL_gone_26 : decode cL_gone 26 = .ok (.iconst 5, 1) := by decide +kernel
theorem dL_gone_27 : decode cL_gone 27 = .ok (.isub, 1) := by decide +kernel
theorem dL_gone_28 : decode cL_gone 28 = .ok (.imul, 1) := by decide +kernel
theorem dL_gone_29 : decode cL_gone 29 = .ok (.iadd, 1) := by decide +kernel
theorem dL_gone_30 : decode cL_gone 30 = .ok (.iconst 3, 1) := by decide +kernel
theorem dL_gone_31 : decode cL_gone 31 = .ok (.iadd, 1) := by decide +kernel
theorem dL_gone_32 : decode cL_gone 32 = .ok (.iaload, 1) := by decide +kernel
theorem dL_gone_33 : decode cL_gone 33 = .ok (.iconst 1, 1) := by decide +kernel
theorem dL_gone_34 : decode cL_gone 34 = .ok (.if_icmp .ne 7, 3) := by decide +kernel
theorem dL_gone_37 : decode cL_gone 37 = .ok (.iconst 1, 1) := by decide +kernel
theorem dL_gone_38 : decode cL_gone 38 = .ok (.goto 4, 3) := by decide +kernel
theorem dL_gone_41 : decode cL_gone 41 = .ok (.iconst 0, 1) := by decide +kernel
theorem dL_gone_42 : decode cL_gone 42 = .ok (.istore_n 3, 1) := by decide +kernel
theorem dL_gone_43 : decode cL_gone 43 = .ok (.iload_n 3, 1) := by decide +kernel
theorem dL_gone_44 : decode cL_gone 44 = .ok (.ifCond .ne 8, 3) := by decide +kernel
theorem dL_gone_47 : decode cL_gone 47 = .ok (.bipush 110, 2) := by decide +kernel
theorem dL_gone_49 : decode cL_gone 49 = .ok (.goto 23, 3) := by decide +kernel
theorem dL_gone_52 : decode cL_gone 52 = .ok (.aload_n 0, 1) := by decide +kernel
theorem dL_gone_53 : decode cL_gone 53 = .ok (.aload_n 0, 1) := by decide +kernel
theorem dL_gone_54 : decode cL_gone 54 = .ok (.iload_n 1, 1) := by decide +kernel
theorem dL_gone_55 : decode cL_gone 55 = .ok (.invokestatic 88, 3) := by decide +kernel
theorem dL_gone_58 : decode cL_gone 58 = .ok (.iload_n 2, 1) := by decide +kernel
theorem dL_gone_59 : decode cL_gone 59 = .ok (.invokestatic 105, 3) := by decide +kernel
theorem dL_gone_62 : decode cL_gone 62 = .ok (.ifCond .eq 8, 3) := by decide +kernel
theorem dL_gone_65 : decode cL_gone 65 = .ok (.bipush 84, 2) := by decide +kernel
theorem dL_gone_67 : decode cL_gone 67 = .ok (.goto 5, 3) := by decide +kernel
theorem dL_gone_70 : decode cL_gone 70 = .ok (.bipush 121, 2) := by decide +kernel
theorem dL_gone_72 : decode cL_gone 72 = .ok (.ireturn, 1) := by decide +kernel
theorem dL_gone_73 : decode cL_gone 73 = .ok (.aload_n 0, 1) := by decide +kernel
theorem dL_gone_74 : decode cL_gone 74 = .ok (.aload_n 0, 1) := by decide +kernel
theorem dL_gone_75 : decode cL_gone 75 = .ok (.bipush 30, 2) := by decide +kernel
theorem dL_gone_77 : decode cL_gone 77 = .ok (.iload_n 1, 1) := by decide +kernel
theorem dL_gone_78 : decode cL_gone 78 = .ok (.iadd, 1) := by decide +kernel
theorem dL_gone_79 : decode cL_gone 79 = .ok (.iaload, 1) := by decide +kernel
theorem dL_gone_80 : decode cL_gone 80 = .ok (.iload_n 2, 1) := by decide +kernel
theorem dL_gone_81 : decode cL_gone 81 = .ok (.invokestatic 112, 3) := by decide +kernel
theorem dL_gone_84 : decode cL_gone 84 = .ok (.ireturn, 1) := by decide +kernel
theorem dL_gone_85 : decode cL_gone 85 = .ok (.iload_n 1, 1) := by decide +kernel
theorem dL_gone_86 : decode cL_gone 86 = .ok (.iload_n 2, 1) := by decide +kernel
theorem dL_gone_87 : decode cL_gone 87 = .ok (.invokestatic 81, 3) := by decide +kernel
theorem dL_gone_90 : decode cL_gone 90 = .ok (.istore_n 3, 1) := by decide +kernel
theorem dL_gone_91 : decode cL_gone 91 = .ok (.aload_n 0, 1) := by decide +kernel
theorem dL_gone_92 : decode cL_gone 92 = .ok (.iload_n 3, 1) := by decide +kernel
theorem dL_gone_93 : decode cL_gone 93 = .ok (.iaload, 1) := by decide +kernel
theorem dL_gone_94 : decode cL_gone 94 = .ok (.iconst 1, 1) := by decide +kernel
theorem dL_gone_95 : decode cL_gone 95 = .ok (.if_icmp .ne 16, 3) := by decide +kernel
theorem dL_gone_98 : decode cL_gone 98 = .ok (.aload_n 0, 1) := by decide +kernel
theorem dL_gone_99 : decode cL_gone 99 = .ok (.iload_n 3, 1) := by decide +kernel
theorem dL_gone_100 : decode cL_gone 100 = .ok (.iconst 2, 1) := by decide +kernel
theorem dL_gone_101 : decode cL_gone 101 = .ok (.iadd, 1) := by decide +kernel
theorem dL_gone_102 : decode cL_gone 102 = .ok (.iaload, 1) := by decide +kernel
theorem dL_gone_103 : decode cL_gone 103 = .ok (.iconst 4, 1) := by decide +kernel
theorem dL_gone_104 : decode cL_gone 104 = .ok (.if_icmp .ge 7, 3) := by decide +kernel
theorem dL_gone_107 : decode cL_gone 107 = .ok (.iconst 1, 1) := by decide +kernel
theorem dL_gone_108 : decode cL_gone 108 = .ok (.goto 4, 3) := by decide +kernel
theorem dL_gone_111 : decode cL_gone 111 = .ok (.iconst 0, 1) := by decide +kernel
theorem dL_gone_112 : decode cL_gone 112 = .ok (.istore 4, 2) := by decide +kernel
theorem dL_gone_114 : decode cL_gone 114 = .ok (.aload_n 0, 1) := by decide +kernel
theorem dL_gone_115 : decode cL_gone 115 = .ok (.iload_n 3, 1) := by decide +kernel
theorem dL_gone_116 : decode cL_gone 116 = .ok (.iload 4, 2) := by decide +kernel
theorem dL_gone_118 : decode cL_gone 118 = .ok (.ifCond .eq 7, 3) := by decide +kernel
theorem dL_gone_121 : decode cL_gone 121 = .ok (.iconst 1, 1) := by decide +kernel
theorem dL_gone_122 : decode cL_gone 122 = .ok (.goto 4, 3) := by decide +kernel
theorem dL_gone_125 : decode cL_gone 125 = .ok (.iconst 0, 1) := by decide +kernel
theorem dL_gone_126 : decode cL_gone 126 = .ok (.iastore, 1) := by decide +kernel
theorem dL_gone_127 : decode cL_gone 127 = .ok (.iload 4, 2) := by decide +kernel
theorem dL_gone_129 : decode cL_gone 129 = .ok (.ifCond .eq 8, 3) := by decide +kernel
theorem dL_gone_132 : decode cL_gone 132 = .ok (.bipush 110, 2) := by decide +kernel
theorem dL_gone_134 : decode cL_gone 134 = .ok (.goto 5, 3) := by decide +kernel
theorem dL_gone_137 : decode cL_gone 137 = .ok (.bipush 121, 2) := by decide +kernel
theorem dL_gone_139 : decode cL_gone 139 = .ok (.ireturn, 1) := by decide +kernel
set_option maxRecDepth 20000 in
theorem ggL_areKeys_L_plain : GoodIn wsL_areKeys wsL_plain := goodIn_ca (goodIn_r _ [5] (by decide +kernel) (by decide +kernel)) (goodIn_sub (fun _ h => List.mem_cons_of_mem _ (List.mem_append_left _ (List.mem_append_left _ (List.mem_append_left _ (List.mem_append_right _ h))))) (by decide +kernel))
set_option maxRecDepth 20000 in
theorem gL_areKeys_L_plain : GoodIn wsL_areKeys (va_wsS RL 88 yL_plain wsL_plain) := goodIn_app (goodIn_of _ (by decide +kernel)) ggL_areKeys_L_plain
set_option maxRecDepth 20000 in
theorem ggL_areKeys_L_at : GoodIn wsL_areKeys wsL_at := goodIn_r _ [8] (by decide +kernel) (by decide +kernel)
set_option maxRecDepth 20000 in
theorem gL_areKeys_L_at : GoodIn wsL_areKeys (va_wsS RL 81 yL_at wsL_at) := goodIn_app (goodIn_of _ (by decide +kernel)) ggL_areKeys_L_at
set_option maxRecDepth 20000 in
theorem ggL_areKeys_L_keyAt : GoodIn wsL_areKeys wsL_keyAt := goodIn_ca (goodIn_ca (goodIn_ca (goodIn_ca (goodIn_r _ [11, 12, 13, 14, 15, 16, 1, 17, 18, 19, 20, 21, 22, 23, 24, 25, 26, 27, 28, 29, 30, 31, 32, 33, 34, 35, 36, 37, 38, 39, 40, 41, 42, 43, 44, 45, 46, 47, 48, 49, 50, 51, 52, 53, 77, 78, 79, 80, 81, 82, 83, 84, 85, 86, 87, 88, 89, 90, 91] (by decide +kernel) (by decide +kernel)) (goodIn_sub (fun _ h => List.mem_cons_of_mem _ (List.mem_append_left _ (List.mem_append_left _ (List.mem_append_right _ h)))) (by decide +kernel))) (goodIn_sub (fun _ h => List.mem_cons_of_mem _ (List.mem_append_left _ (List.mem_append_right _ h))) (by decide +kernel))) (goodIn_sub (fun _ h => List.mem_cons_of_mem _ (List.mem_append_right _ h)) (by decide +kernel))) (goodIn_sub (fun _ h => List.mem_cons_of_mem _ (List.mem_append_left _ (List.mem_append_left _ (List.mem_append_left _ (List.mem_append_right _ h))))) (by decide +kernel))
set_option maxRecDepth 20000 in
theorem gL_areKeys_L_keyAt : GoodIn wsL_areKeys (va_wsS RL 115 yL_keyAt wsL_keyAt) := goodIn_app (goodIn_of _ (by decide +kernel)) ggL_areKeys_L_keyAt
set_option maxRecDepth 20000 in
theorem ggL_areKeys_L_rights : GoodIn wsL_areKeys wsL_rights := goodIn_ca (goodIn_ca (goodIn_ca (goodIn_ca (goodIn_r _ [56, 12, 13, 14, 15, 16, 1, 57, 58, 59, 20, 60, 22, 23, 24, 25, 26, 27, 28, 29, 30, 31, 32, 33, 34, 35, 61, 62, 63, 36, 37, 38, 39, 40, 41, 42, 43, 44, 45, 46, 47, 64, 65, 66, 67, 68, 77, 78, 79, 80, 81, 82, 83, 84, 85, 86, 87, 88, 89, 90, 91] (by decide +kernel) (by decide +kernel)) (goodIn_sub (fun _ h => List.mem_cons_of_mem _ (List.mem_append_left _ (List.mem_append_left _ (List.mem_append_right _ h)))) (by decide +kernel))) (goodIn_sub (fun _ h => List.mem_cons_of_mem _ (List.mem_append_left _ (List.mem_append_right _ h))) (by decide +kernel))) (goodIn_sub (fun _ h => List.mem_cons_of_mem _ (List.mem_append_right _ h)) (by decide +kernel))) (goodIn_sub (fun _ h => List.mem_cons_of_mem _ (List.mem_append_left _ (List.mem_append_left _ (List.mem_append_left _ (List.mem_append_right _ h))))) (by decide +kernel))
set_option maxRecDepth 20000 in
theorem gL_areKeys_L_rights : GoodIn wsL_areKeys (va_wsS RL 118 yL_rights wsL_rights) := goodIn_app (goodIn_of _ (by decide +kernel)) ggL_areKeys_L_rights
set_option maxRecDepth 20000 in
theorem ggL_areKeys_L_keys : GoodIn wsL_areKeys wsL_keys := goodIn_ca (goodIn_ca (goodIn_r _ [71, 12, 13, 15, 16, 72, 73, 74, 20, 75, 22, 23, 24, 25, 28, 76, 29, 30, 31, 32, 33, 34, 35, 36, 37, 38, 39, 40, 41, 42, 43, 44, 45, 46, 47, 77, 78, 79, 80, 83, 84, 85, 86, 87, 88, 89, 90, 91, 81, 82] (by decide +kernel) (by decide +kernel)) (goodIn_sub (fun _ h => List.mem_cons_of_mem _ (List.mem_append_left _ (List.mem_append_left _ (List.mem_append_right _ h)))) (by decide +kernel))) (goodIn_sub (fun _ h => List.mem_cons_of_mem _ (List.mem_append_left _ (List.mem_append_right _ h))) (by decide +kernel))
set_option maxRecDepth 20000 in
theorem gL_areKeys_L_keys : GoodIn wsL_areKeys (va_wsS RL 120 yL_keys wsL_keys) := goodIn_app (goodIn_of _ (by decide +kernel)) ggL_areKeys_L_keys
theorem dL_areKeys_0 : decode cL_areKeys 0 = .ok (.aload_n 1, 1) := by decide +kernel
theorem dL_areKeys_1 : decode cL_areKeys 1 = .ok (.iload_n 2, 1) := by decide +kernel
theorem dL_areKeys_2 : decode cL_areKeys 2 = .ok (.invokestatic 88, 3) := by decide +kernel
theorem dL_areKeys_5 : decode cL_areKeys 5 = .ok (.istore_n 3, 1) := by decide +kernel
theorem dL_areKeys_6 : decode cL_areKeys 6 = .ok (.iconst 0, 1) := by decide +kernel
theorem dL_areKeys_7 : decode cL_areKeys 7 = .ok (.istore 4, 2) := by decide +kernel
theorem dL_areKeys_9 : decode cL_areKeys 9 = .ok (.iconst (-1), 1) := by decide +kernel
theorem dL_areKeys_10 : decode cL_areKeys 10 = .ok (.istore 5, 2) := by decide +kernel
theorem dL_areKeys_12 : decode cL_areKeys 12 = .ok (.iconst 0, 1) := by decide +kernel
theorem dL_areKeys_13 : decode cL_areKeys 13 = .ok (.istore 6, 2) := by decide +kernel
theorem dL_areKeys_15 : decode cL_areKeys 15 = .ok (.iload 6, 2) := by decide +kernel
theorem dL_areKeys_17 : decode cL_areKeys 17 = .ok (.bipush 20, 2) := by decide +kernel
theorem dL_areKeys_19 : decode cL_areKeys 19 = .ok (.if_icmp .ge 22, 3) := by decide +kernel
theorem dL_areKeys_22 : decode cL_areKeys 22 = .ok (.iload 4, 2) := by decide +kernel
theorem dL_areKeys_24 : decode cL_areKeys 24 = .ok (.aload_n 1, 1) := by decide +kernel
theorem dL_areKeys_25 : decode cL_areKeys 25 = .ok (.iload_n 3, 1) := by decide +kernel
theorem dL_areKeys_26 : decode cL_areKeys 26 = .ok (.iload 6, 2) := by decide +kernel
theorem dL_areKeys_28 : decode cL_areKeys 28 = .ok (.invokestatic 81, 3) := by decide +kernel
theorem dL_areKeys_31 : decode cL_areKeys 31 = .ok (.iaload, 1) := by decide +kernel
theorem dL_areKeys_32 : decode cL_areKeys 32 = .ok (.iadd, 1) := by decide +kernel
theorem dL_areKeys_33 : decode cL_areKeys 33 = .ok (.istore 4, 2) := by decide +kernel
theorem dL_areKeys_35 : decode cL_areKeys 35 = .ok (.iinc 6 1, 3) := by decide +kernel
theorem dL_areKeys_38 : decode cL_areKeys 38 = .ok (.goto (-23), 3) := by decide +kernel
theorem dL_areKeys_41 : decode cL_areKeys 41 = .ok (.iconst 0, 1) := by decide +kernel
theorem dL_areKeys_42 : decode cL_areKeys 42 = .ok (.istore 6, 2) := by decide +kernel
theorem dL_areKeys_44 : decode cL_areKeys 44 = .ok (.iload 6, 2) := by decide +kernel
theorem dL_areKeys_46 : decode cL_areKeys 46 = .ok (.iload 4, 2) := by decide +kernel
theorem dL_areKeys_48 : decode cL_areKeys 48 = .ok (.if_icmp .ge 97, 3) := by decide +kernel
theorem dL_areKeys_51 : decode cL_areKeys 51 = .ok (.aload_n 0, 1) := by decide +kernel
theorem dL_areKeys_52 : decode cL_areKeys 52 = .ok (.iload_n 2, 1) := by decide +kernel
theorem dL_areKeys_53 : decode cL_areKeys 53 = .ok (.iload 6, 2) := by decide +kernel
theorem dL_areKeys_55 : decode cL_areKeys 55 = .ok (.invokestatic 115, 3) := by decide +kernel
theorem dL_areKeys_58 : decode cL_areKeys 58 = .ok (.istore 7, 2) := by decide +kernel
theorem dL_areKeys_60 : decode cL_areKeys 60 = .ok (.iload 7, 2) := by decide +kernel
theorem dL_areKeys_62 : decode cL_areKeys 62 = .ok (.ifCond .lt 34, 3) := by decide +kernel
theorem dL_areKeys_65 : decode cL_areKeys 65 = .ok (.aload_n 1, 1) := by decide +kernel
theorem dL_areKeys_66 : decode cL_areKeys 66 = .ok (.iload_n 3, 1) := by decide +kernel
theorem dL_areKeys_67 : decode cL_areKeys 67 = .ok (.iload 7, 2) := by decide +kernel
theorem dL_areKeys_69 : decode cL_areKeys 69 = .ok (.invokestatic 81, 3) := by decide +kernel
theorem dL_areKeys_72 : decode cL_areKeys 72 = .ok (.iaload, 1) := by decide +kernel
theorem dL_areKeys_73 : decode cL_areKeys 73 = .ok (.ifCond .eq 23, 3) := by decide +kernel
theorem dL_areKeys_76 : decode cL_areKeys 76 = .ok (.aload_n 0, 1) := by decide +kernel
theorem dL_areKeys_77 : decode cL_areKeys 77 = .ok (.iload_n 2, 1) := by decide +kernel
theorem dL_areKeys_78 : decode cL_areKeys 78 = .ok (.iload 7, 2) := by decide +kernel
theorem dL_areKeys_80 : decode cL_areKeys 80 = .ok (.invokestatic 118, 3) := by decide +kernel
theorem dL_areKeys_83 : decode cL_areKeys 83 = .ok (.aload_n 1, 1) := by decide +kernel
theorem dL_areKeys_84 : decode cL_areKeys 84 = .ok (.iload_n 3, 1) := by decide +kernel
theorem dL_areKeys_85 : decode cL_areKeys 85 = .ok (.iload 7, 2) := by decide +kernel
theorem dL_areKeys_87 : decode cL_areKeys 87 = .ok (.invokestatic 81, 3) := by decide +kernel
theorem dL_areKeys_90 : decode cL_areKeys 90 = .ok (.iconst 2, 1) := by decide +kernel
theorem dL_areKeys_91 : decode cL_areKeys 91 = .ok (.iadd, 1) := by decide +kernel
theorem dL_areKeys_92 : decode cL_areKeys 92 = .ok (.iaload, 1) := by decide +kernel
theorem dL_areKeys_93 : decode cL_areKeys 93 = .ok (.if_icmp .eq 5, 3) := by decide +kernel
theorem dL_areKeys_96 : decode cL_areKeys 96 = .ok (.iconst 0, 1) := by decide +kernel
theorem dL_areKeys_97 : decode cL_areKeys 97 = .ok (.ireturn, 1) := by decide +kernel
theorem dL_areKeys_98 : decode cL_areKeys 98 = .ok (.iload 7, 2) := by decide +kernel
theorem dL_areKeys_100 : decode cL_areKeys 100 = .ok (.bipush 10, 2) := by decide +kernel
theorem dL_areKeys_102 : decode cL_areKeys 102 = .ok (.if_icmp .ge 8, 3) := by decide +kernel
theorem dL_areKeys_105 : decode cL_areKeys 105 = .ok (.iload 7, 2) := by decide +kernel
theorem dL_areKeys_107 : decode cL_areKeys 107 = .ok (.goto 17, 3) := by decide +kernel
theorem dL_areKeys_110 : decode cL_areKeys 110 = .ok (.sipush 1000, 3) := by decide +kernel
theorem dL_areKeys_113 : decode cL_areKeys 113 = .ok (.aload_n 1, 1) := by decide +kernel
theorem dL_areKeys_114 : decode cL_areKeys 114 = .ok (.iload_n 3, 1) := by decide +kernel
theorem dL_areKeys_115 : decode cL_areKeys 115 = .ok (.iload 7, 2) := by decide +kernel
theorem dL_areKeys_117 : decode cL_areKeys 117 = .ok (.invokestatic 81, 3) := by decide +kernel
theorem dL_areKeys_120 : decode cL_areKeys 120 = .ok (.iconst 3, 1) := by decide +kernel
theorem dL_areKeys_121 : decode cL_areKeys 121 = .ok (.iadd, 1) := by decide +kernel
theorem dL_areKeys_122 : decode cL_areKeys 122 = .ok (.iaload, 1) := by decide +kernel
theorem dL_areKeys_123 : decode cL_areKeys 123 = .ok (.iadd, 1) := by decide +kernel
theorem dL_areKeys_124 : decode cL_areKeys 124 = .ok (.istore 8, 2) := by decide +kernel
theorem dL_areKeys_126 : decode cL_areKeys 126 = .ok (.iload 8, 2) := by decide +kernel
theorem dL_areKeys_128 : decode cL_areKeys 128 = .ok (.iload 5, 2) := by decide +kernel
theorem dL_areKeys_130 : decode cL_areKeys 130 = .ok (.if_icmp .gt 5, 3) := by decide +kernel
theorem dL_areKeys_133 : decode cL_areKeys 133 = .ok (.iconst 0, 1) := by decide +kernel
theorem dL_areKeys_134 : decode cL_areKeys 134 = .ok (.ireturn, 1) := by decide +kernel
theorem dL_areKeys_135 : decode cL_areKeys 135 = .ok (.iload 8, 2) := by decide +kernel
theorem dL_areKeys_137 : decode cL_areKeys 137 = .ok (.istore 5, 2) := by decide +kernel
theorem dL_areKeys_139 : decode cL_areKeys 139 = .ok (.iinc 6 1, 3) := by decide +kernel
theorem dL_areKeys_142 : decode cL_areKeys 142 = .ok (.goto (-98), 3) := by decide +kernel
theorem dL_areKeys_145 : decode cL_areKeys 145 = .ok (.aload_n 0, 1) := by decide +kernel
theorem dL_areKeys_146 : decode cL_areKeys 146 = .ok (.iload_n 2, 1) := by decide +kernel
theorem dL_areKeys_147 : decode cL_areKeys 147 = .ok (.invokestatic 120, 3) := by decide +kernel
theorem dL_areKeys_150 : decode cL_areKeys 150 = .ok (.iload 4, 2) := by decide +kernel
theorem dL_areKeys_152 : decode cL_areKeys 152 = .ok (.if_icmp .ne 30, 3) := by decide +kernel
theorem dL_areKeys_155 : decode cL_areKeys 155 = .ok (.aload_n 0, 1) := by decide +kernel
theorem dL_areKeys_156 : decode cL_areKeys 156 = .ok (.iload_n 2, 1) := by decide +kernel
theorem dL_areKeys_157 : decode cL_areKeys 157 = .ok (.iload 4, 2) := by decide +kernel
theorem dL_areKeys_159 : decode cL_areKeys 159 = .ok (.invokestatic 115, 3) := by decide +kernel
theorem dL_areKeys_162 : decode cL_areKeys 162 = .ok (.ldc 62, 2) := by decide +kernel
theorem dL_areKeys_164 : decode cL_areKeys 164 = .ok (.if_icmp .ne 18, 3) := by decide +kernel
theorem dL_areKeys_167 : decode cL_areKeys 167 = .ok (.aload_n 0, 1) := by decide +kernel
theorem dL_areKeys_168 : decode cL_areKeys 168 = .ok (.iload_n 2, 1) := by decide +kernel
theorem dL_areKeys_169 : decode cL_areKeys 169 = .ok (.iconst (-1), 1) := by decide +kernel
theorem dL_areKeys_170 : decode cL_areKeys 170 = .ok (.invokestatic 115, 3) := by decide +kernel
theorem dL_areKeys_173 : decode cL_areKeys 173 = .ok (.ldc 62, 2) := by decide +kernel
theorem dL_areKeys_175 : decode cL_areKeys 175 = .ok (.if_icmp .ne 7, 3) := by decide +kernel
theorem dL_areKeys_178 : decode cL_areKeys 178 = .ok (.iconst 1, 1) := by decide +kernel
theorem dL_areKeys_179 : decode cL_areKeys 179 = .ok (.goto 4, 3) := by decide +kernel
theorem dL_areKeys_182 : decode cL_areKeys 182 = .ok (.iconst 0, 1) := by decide +kernel
theorem dL_areKeys_183 : decode cL_areKeys 183 = .ok (.ireturn, 1) := by decide +kernel
set_option maxRecDepth 20000 in
theorem ggL_law_X11_init : GoodIn wsL_law wsX11_init := goodIn_r _ [9, 10, 11, 12, 13, 14, 15, 16, 17, 18, 19, 20, 21, 22, 23, 24, 25, 26, 27, 28, 29, 30, 31, 32, 33, 34, 35, 36, 37, 38, 39, 40, 41, 42, 3, 43, 44, 45, 46, 47, 48, 49, 50, 51, 52, 53, 54, 55, 56, 57, 58, 59, 60, 61, 62, 63, 64, 65, 454, 455, 450, 451, 452, 453, 456, 457, 458, 459, 460, 461, 462, 463, 464, 465, 466, 467, 468, 469, 470, 471, 472, 473, 474, 475, 476, 477, 478, 479, 480, 481, 482, 483, 484, 485, 486, 487, 488] (by decide +kernel) (by decide +kernel)
set_option maxRecDepth 20000 in
theorem gL_law_X11_init : GoodIn wsL_law (wsX11_init) := ggL_law_X11_init
set_option maxRecDepth 20000 in
theorem ggL_law_L_in : GoodIn wsL_law wsL_in := goodIn_ca (goodIn_r _ [69, 70, 71, 72, 68, 73, 74, 75] (by decide +kernel) (by decide +kernel)) (goodIn_sub (fun _ h => List.mem_append_left _ (List.mem_append_left _ (List.mem_append_left _ (List.mem_append_left _ (List.mem_append_left _ (List.mem_append_right _ h)))))) (by decide +kernel))
set_option maxRecDepth 20000 in
theorem gL_law_L_in : GoodIn wsL_law (va_wsS RL 124 yL_in wsL_in) := goodIn_app (goodIn_of _ (by decide +kernel)) ggL_law_L_in
set_option maxRecDepth 20000 in
theorem ggL_law_L_addObject : GoodIn wsL_law wsL_addObject := goodIn_ca (goodIn_ca (goodIn_r _ [78, 79, 80, 4, 5, 81, 82, 83, 2, 84, 85, 86, 87, 88, 16, 89, 90, 91, 92, 93, 94, 15, 95, 96, 33, 97, 98, 99, 100, 101, 102, 103, 104, 11, 12, 105, 106, 3, 107, 108, 109, 110, 111, 112, 113, 114, 115, 116, 117, 118, 119, 450, 451, 452, 453, 489, 490, 491, 492, 493, 494, 495, 496, 497, 454, 455] (by decide +kernel) (by decide +kernel)) (goodIn_sub (fun _ h => List.mem_append_left _ (List.mem_append_left _ (List.mem_append_left _ (List.mem_append_left _ (List.mem_append_right _ h))))) (by decide +kernel))) (goodIn_sub (fun _ h => List.mem_append_left _ (List.mem_append_left _ (List.mem_append_left _ (List.mem_append_right _ h)))) (by decide +kernel))
set_option maxRecDepth 20000 in
theorem gL_law_L_addObject : GoodIn wsL_law (va_wsS RL 127 yL_addObject wsL_addObject) := goodIn_app (goodIn_of _ (by decide +kernel)) ggL_law_L_addObject
set_option maxRecDepth 20000 in
theorem ggL_law_L_addProxy : GoodIn wsL_law wsL_addProxy := goodIn_ca (goodIn_ca (goodIn_r _ [122, 79, 80, 4, 5, 123, 124, 125, 2, 126, 85, 86, 87, 88, 16, 89, 90, 91, 92, 93, 94, 15, 95, 96, 33, 97, 98, 99, 100, 101, 102, 103, 104, 11, 12, 105, 106, 3, 107, 108, 109, 110, 111, 112, 113, 114, 115, 116, 117, 118, 119, 450, 451, 452, 453, 489, 490, 491, 492, 493, 494, 495, 496, 497, 454, 455] (by decide +kernel) (by decide +kernel)) (goodIn_sub (fun _ h => List.mem_append_left _ (List.mem_append_left _ (List.mem_append_left _ (List.mem_append_left _ (List.mem_append_right _ h))))) (by decide +kernel))) (goodIn_sub (fun _ h => List.mem_append_left _ (List.mem_append_left _ (List.mem_append_left _ (List.mem_append_right _ h)))) (by decide +kernel))
set_option maxRecDepth 20000 in
theorem gL_law_L_addProxy : GoodIn wsL_law (va_wsS RL 129 yL_addProxy wsL_addProxy) := goodIn_app (goodIn_of _ (by decide +kernel)) ggL_law_L_addProxy
set_option maxRecDepth 20000 in
theorem ggL_law_L_plain : GoodIn wsL_law wsL_plain := goodIn_ca (goodIn_r _ [129] (by decide +kernel) (by decide +kernel)) (goodIn_sub (fun _ h => List.mem_append_left _ (List.mem_append_left _ (List.mem_append_left _ (List.mem_append_left _ (List.mem_append_left _ (List.mem_append_right _ h)))))) (by decide +kernel))
set_option maxRecDepth 20000 in
theorem gL_law_L_plain : GoodIn wsL_law (va_wsS RL 88 yL_plain wsL_plain) := goodIn_app (goodIn_of _ (by decide +kernel)) ggL_law_L_plain
set_option maxRecDepth 20000 in
theorem ggL_law_L_define : GoodIn wsL_law wsL_define := goodIn_ca (goodIn_ca (goodIn_ca (goodIn_r _ [132, 79, 133, 4, 5, 134, 135, 136, 2, 137, 85, 86, 138, 139, 16, 92, 93, 94, 15, 95, 96, 33, 140, 141, 142, 143, 144, 145, 146, 147, 148, 149, 150, 151, 152, 153, 154, 91, 155, 105, 156, 157, 158, 159, 160, 109, 108, 161, 162, 163, 164, 165, 166, 167, 168, 169, 110, 170, 171, 172, 173, 174, 175, 176, 450, 451, 452, 453, 454, 455, 489, 490, 491, 492, 493, 494, 495, 496, 497] (by decide +kernel) (by decide +kernel)) (goodIn_sub (fun _ h => List.mem_append_left _ (List.mem_append_left _ (List.mem_append_left _ (List.mem_append_left _ (List.mem_append_right _ h))))) (by decide +kernel))) (goodIn_sub (fun _ h => List.mem_append_left _ (List.mem_append_left _ (List.mem_append_right _ h))) (by decide +kernel))) (goodIn_sub (fun _ h => List.mem_append_left _ (List.mem_append_left _ (List.mem_append_left _ (List.mem_append_left _ (List.mem_append_left _ (List.mem_append_right _ h)))))) (by decide +kernel))
set_option maxRecDepth 20000 in
theorem gL_law_L_define : GoodIn wsL_law (va_wsS RL 131 yL_define wsL_define) := goodIn_app (goodIn_of _ (by decide +kernel)) ggL_law_L_define
set_option maxRecDepth 20000 in
theorem ggL_law_L_defined : GoodIn wsL_law wsL_defined := goodIn_ca (goodIn_r _ [179, 180, 181, 68, 182] (by decide +kernel) (by decide +kernel)) (goodIn_sub (fun _ h => List.mem_append_left _ (List.mem_append_left _ (List.mem_append_left _ (List.mem_append_left _ (List.mem_append_left _ (List.mem_append_right _ h)))))) (by decide +kernel))
set_option maxRecDepth 20000 in
theorem gL_law_L_defined : GoodIn wsL_law (va_wsS RL 84 yL_defined wsL_defined) := goodIn_app (goodIn_of _ (by decide +kernel)) ggL_law_L_defined
set_option maxRecDepth 20000 in
theorem ggL_law_L_set : GoodIn wsL_law wsL_set := goodIn_ca (goodIn_ca (goodIn_ca (goodIn_r _ [185, 79, 133, 4, 5, 186, 187, 188, 2, 189, 85, 86, 138, 139, 16, 92, 93, 94, 15, 95, 96, 33, 140, 141, 142, 143, 144, 145, 190, 191, 192, 193, 150, 151, 194, 152, 153, 154, 91, 155, 105, 195, 196, 197, 198, 111, 199, 200, 201, 202, 107, 203, 204, 147, 148, 149, 205, 206, 207, 208, 161, 162, 163, 164, 109, 170, 171, 172, 173, 209, 210, 211, 212, 108, 213, 214, 215, 216, 217, 218, 219, 220, 221, 222, 157, 158, 159, 160, 165, 166, 167, 168, 169, 110, 174, 175, 176, 223, 224, 225, 226, 450, 451, 452, 453, 454, 455, 489, 490, 491, 492, 493, 494, 495, 496, 497] (by decide +kernel) (by decide +kernel)) (goodIn_sub (fun _ h => List.mem_append_left _ (List.mem_append_left _ (List.mem_append_left _ (List.mem_append_left _ (List.mem_append_right _ h))))) (by decide +kernel))) (goodIn_sub (fun _ h => List.mem_append_left _ (List.mem_append_left _ (List.mem_append_right _ h))) (by decide +kernel))) (goodIn_sub (fun _ h => List.mem_append_left _ (List.mem_append_left _ (List.mem_append_left _ (List.mem_append_left _ (List.mem_append_left _ (List.mem_append_right _ h)))))) (by decide +kernel))
set_option maxRecDepth 20000 in
theorem gL_law_L_set : GoodIn wsL_law (va_wsS RL 134 yL_set wsL_set) := goodIn_app (goodIn_of _ (by decide +kernel)) ggL_law_L_set
set_option maxRecDepth 20000 in
theorem ggL_law_L_wasSet : GoodIn wsL_law wsL_wasSet := goodIn_ca (goodIn_r _ [229, 127, 128, 68, 129, 180, 181, 182, 227, 228, 230, 231, 232, 233, 234, 235, 177, 178, 179] (by decide +kernel) (by decide +kernel)) (goodIn_sub (fun _ h => List.mem_append_left _ (List.mem_append_left _ (List.mem_append_left _ (List.mem_append_left _ (List.mem_append_left _ (List.mem_append_right _ h)))))) (by decide +kernel))
set_option maxRecDepth 20000 in
theorem gL_law_L_wasSet : GoodIn wsL_law (va_wsS RL 91 yL_wasSet wsL_wasSet) := goodIn_app (goodIn_of _ (by decide +kernel)) ggL_law_L_wasSet
set_option maxRecDepth 20000 in
theorem ggL_law_L_delete : GoodIn wsL_law wsL_delete := goodIn_ca (goodIn_ca (goodIn_r _ [238, 79, 4, 239, 240, 241, 2, 242, 85, 86, 16, 92, 93, 94, 15, 95, 96, 33, 140, 141, 142, 243, 244, 245, 246, 150, 151, 152, 153, 154, 91, 155, 105, 247, 248, 249, 250, 109, 169, 110, 161, 162, 163, 164, 170, 171, 172, 173, 195, 196, 197, 198, 111, 199, 200, 201, 202, 107, 203, 204, 147, 148, 149, 251, 252, 253, 254, 160, 213, 214, 215, 450, 451, 452, 453, 454, 455, 489, 490, 491, 492, 493, 494, 495, 496, 497] (by decide +kernel) (by decide +kernel)) (goodIn_sub (fun _ h => List.mem_append_left _ (List.mem_append_left _ (List.mem_append_left _ (List.mem_append_left _ (List.mem_append_right _ h))))) (by decide +kernel))) (goodIn_sub (fun _ h => List.mem_append_left _ (List.mem_append_left _ (List.mem_append_left _ (List.mem_append_left _ (List.mem_append_left _ (List.mem_append_right _ h)))))) (by decide +kernel))
set_option maxRecDepth 20000 in
theorem gL_law_L_delete : GoodIn wsL_law (va_wsS RL 137 yL_delete wsL_delete) := goodIn_app (goodIn_of _ (by decide +kernel)) ggL_law_L_delete
set_option maxRecDepth 20000 in
theorem ggL_law_L_gone : GoodIn wsL_law wsL_gone := goodIn_ca (goodIn_r _ [257, 127, 128, 68, 129, 258, 259, 260, 180, 181, 182, 255, 256] (by decide +kernel) (by decide +kernel)) (goodIn_sub (fun _ h => List.mem_append_left _ (List.mem_append_left _ (List.mem_append_left _ (List.mem_append_left _ (List.mem_append_left _ (List.mem_append_right _ h)))))) (by decide +kernel))
set_option maxRecDepth 20000 in
theorem gL_law_L_gone : GoodIn wsL_law (va_wsS RL 112 yL_gone wsL_gone) := goodIn_app (goodIn_of _ (by decide +kernel)) ggL_law_L_gone
set_option maxRecDepth 20000 in
theorem ggL_law_L_closeObject : GoodIn wsL_law wsL_closeObject := goodIn_ca (goodIn_r _ [263, 79, 4, 264, 265, 266, 2, 267, 85, 86, 16, 268, 92, 93, 94, 15, 95, 96, 33, 146, 147, 148, 149, 150, 151, 152, 153, 154, 91, 155, 105, 450, 451, 452, 453, 489, 490, 491, 492, 493, 494, 495, 496, 497, 454, 455] (by decide +kernel) (by decide +kernel)) (goodIn_sub (fun _ h => List.mem_append_left _ (List.mem_append_left _ (List.mem_append_left _ (List.mem_append_left _ (List.mem_append_right _ h))))) (by decide +kernel))
set_option maxRecDepth 20000 in
theorem gL_law_L_closeObject : GoodIn wsL_law (va_wsS RL 139 yL_closeObject wsL_closeObject) := goodIn_app (goodIn_of _ (by decide +kernel)) ggL_law_L_closeObject
set_option maxRecDepth 20000 in
theorem ggL_law_J0_charAt_5068e : GoodIn wsL_law wsJ0_charAt_5068e := goodIn_r _ [273, 274, 275, 276, 277, 272, 278, 279, 280, 281, 282, 283, 284, 285, 286, 287, 288, 289, 290, 291, 292, 293, 294, 295, 296, 297, 298, 299, 300, 301, 302, 303, 304, 305, 306, 307, 308, 309, 498, 499] (by decide +kernel) (by decide +kernel)
set_option maxRecDepth 20000 in
theorem gL_law_J0_charAt_5068e : GoodIn wsL_law (wsV RL 143 RJ0 yJ0_charAt_5068e wsJ0_charAt_5068e) := goodIn_app (goodIn_of _ (by decide +kernel)) ggL_law_J0_charAt_5068e
set_option maxRecDepth 20000 in
theorem ggL_law_L_tell : GoodIn wsL_law wsL_tell := goodIn_ca (goodIn_ca (goodIn_ca (goodIn_ca (goodIn_r _ [312, 79, 133, 80, 4, 5, 6, 313, 314, 315, 2, 316, 85, 86, 138, 139, 87, 88, 16, 92, 93, 94, 15, 95, 96, 33, 317, 318, 319, 320, 321, 322, 143, 144, 145, 323, 153, 154, 91, 155, 105, 324, 196, 197, 198, 111, 199, 200, 201, 202, 107, 325, 326, 327, 328, 450, 451, 452, 453, 454, 455, 489, 490, 491, 492, 493, 494, 495, 496, 497] (by decide +kernel) (by decide +kernel)) (goodIn_sub (fun _ h => List.mem_append_left _ (List.mem_append_left _ (List.mem_append_left _ (List.mem_append_left _ (List.mem_append_right _ h))))) (by decide +kernel))) (goodIn_sub (fun _ h => List.mem_append_left _ (List.mem_append_left _ (List.mem_append_right _ h))) (by decide +kernel))) (goodIn_sub (fun _ h => List.mem_append_left _ (List.mem_append_left _ (List.mem_append_left _ (List.mem_append_right _ h)))) (by decide +kernel))) (goodIn_sub (fun _ h => List.mem_append_left _ (List.mem_append_left _ (List.mem_append_left _ (List.mem_append_left _ (List.mem_append_left _ (List.mem_append_right _ h)))))) (by decide +kernel))
set_option maxRecDepth 20000 in
theorem gL_law_L_tell : GoodIn wsL_law (va_wsS RL 148 yL_tell wsL_tell) := goodIn_app (goodIn_of _ (by decide +kernel)) ggL_law_L_tell
set_option maxRecDepth 20000 in
theorem ggL_law_L_get : GoodIn wsL_law wsL_get := goodIn_ca (goodIn_ca (goodIn_ca (goodIn_r _ [331, 79, 332, 4, 5, 333, 334, 335, 2, 336, 85, 86, 337, 338, 16, 339, 92, 93, 94, 15, 95, 96, 33, 140, 141, 142, 340, 341, 342, 343, 150, 344, 151, 194, 152, 153, 154, 91, 155, 105, 195, 196, 197, 198, 111, 199, 200, 201, 202, 107, 203, 204, 147, 148, 149, 205, 206, 207, 208, 161, 162, 163, 164, 109, 170, 171, 172, 173, 209, 210, 211, 212, 108, 216, 345, 450, 451, 452, 453, 454, 455, 489, 490, 491, 492, 493, 494, 495, 496, 497] (by decide +kernel) (by decide +kernel)) (goodIn_sub (fun _ h => List.mem_append_left _ (List.mem_append_left _ (List.mem_append_left _ (List.mem_append_left _ (List.mem_append_right _ h))))) (by decide +kernel))) (goodIn_sub (fun _ h => List.mem_append_left _ (List.mem_append_right _ h)) (by decide +kernel))) (goodIn_sub (fun _ h => List.mem_append_left _ (List.mem_append_left _ (List.mem_append_left _ (List.mem_append_left _ (List.mem_append_left _ (List.mem_append_right _ h)))))) (by decide +kernel))
set_option maxRecDepth 20000 in
theorem gL_law_L_get : GoodIn wsL_law (va_wsS RL 151 yL_get wsL_get) := goodIn_app (goodIn_of _ (by decide +kernel)) ggL_law_L_get
set_option maxRecDepth 20000 in
theorem ggL_law_L_got : GoodIn wsL_law wsL_got := goodIn_ca (goodIn_r _ [348, 5, 127, 128, 68, 129, 180, 181, 182, 346, 347, 230, 231, 232] (by decide +kernel) (by decide +kernel)) (goodIn_sub (fun _ h => List.mem_append_left _ (List.mem_append_left _ (List.mem_append_left _ (List.mem_append_left _ (List.mem_append_left _ (List.mem_append_right _ h)))))) (by decide +kernel))
set_option maxRecDepth 20000 in
theorem gL_law_L_got : GoodIn wsL_law (va_wsS RL 102 yL_got wsL_got) := goodIn_app (goodIn_of _ (by decide +kernel)) ggL_law_L_got
set_option maxRecDepth 20000 in
theorem ggL_law_L_has : GoodIn wsL_law wsL_has := goodIn_ca (goodIn_ca (goodIn_r _ [351, 79, 4, 352, 353, 354, 2, 355, 85, 86, 16, 92, 93, 94, 15, 95, 96, 33, 140, 141, 142, 356, 357, 358, 359, 150, 151, 194, 152, 153, 154, 91, 155, 105, 195, 196, 197, 198, 111, 199, 200, 201, 202, 107, 203, 204, 147, 148, 149, 251, 252, 253, 254, 160, 161, 162, 163, 164, 109, 170, 171, 172, 173, 213, 214, 215, 216, 450, 451, 452, 453, 454, 455, 489, 490, 491, 492, 493, 494, 495, 496, 497] (by decide +kernel) (by decide +kernel)) (goodIn_sub (fun _ h => List.mem_append_left _ (List.mem_append_left _ (List.mem_append_left _ (List.mem_append_left _ (List.mem_append_right _ h))))) (by decide +kernel))) (goodIn_sub (fun _ h => List.mem_append_left _ (List.mem_append_left _ (List.mem_append_left _ (List.mem_append_left _ (List.mem_append_left _ (List.mem_append_right _ h)))))) (by decide +kernel))
set_option maxRecDepth 20000 in
theorem gL_law_L_has : GoodIn wsL_law (va_wsS RL 153 yL_has wsL_has) := goodIn_app (goodIn_of _ (by decide +kernel)) ggL_law_L_has
set_option maxRecDepth 20000 in
theorem ggL_law_L_asked : GoodIn wsL_law wsL_asked := goodIn_ca (goodIn_r _ [362, 127, 128, 68, 129, 258, 259, 260, 180, 181, 182, 360, 361, 230, 231, 232] (by decide +kernel) (by decide +kernel)) (goodIn_sub (fun _ h => List.mem_append_left _ (List.mem_append_left _ (List.mem_append_left _ (List.mem_append_left _ (List.mem_append_left _ (List.mem_append_right _ h)))))) (by decide +kernel))
set_option maxRecDepth 20000 in
theorem gL_law_L_asked : GoodIn wsL_law (va_wsS RL 109 yL_asked wsL_asked) := goodIn_app (goodIn_of _ (by decide +kernel)) ggL_law_L_asked
set_option maxRecDepth 20000 in
theorem ggL_law_L_areKeys : GoodIn wsL_law wsL_areKeys := goodIn_ca (goodIn_ca (goodIn_ca (goodIn_ca (goodIn_r _ [365, 6, 127, 128, 68, 129, 180, 181, 182, 366, 367, 368, 79, 332, 369, 4, 5, 370, 371, 372, 2, 373, 85, 86, 337, 338, 374, 375, 16, 92, 93, 94, 15, 95, 96, 33, 146, 147, 148, 149, 150, 151, 152, 153, 154, 91, 155, 105, 376, 377, 378, 379, 169, 110, 380, 381, 382, 383, 384, 385, 386, 140, 141, 142, 387, 224, 225, 226, 109, 388, 389, 390, 391, 392, 393, 394, 395, 450, 451, 452, 453, 454, 455, 489, 490, 491, 492, 493, 494, 495, 496, 497] (by decide +kernel) (by decide +kernel)) (goodIn_sub (fun _ h => List.mem_append_left _ (List.mem_append_left _ (List.mem_append_left _ (List.mem_append_left _ (List.mem_append_left _ (List.mem_append_right _ h)))))) (by decide +kernel))) (goodIn_sub (fun _ h => List.mem_append_left _ (List.mem_append_left _ (List.mem_append_left _ (List.mem_append_left _ (List.mem_append_right _ h))))) (by decide +kernel))) (goodIn_sub (fun _ h => List.mem_append_left _ (List.mem_append_right _ h)) (by decide +kernel))) (goodIn_sub (fun _ h => List.mem_append_right _ h) (by decide +kernel))
set_option maxRecDepth 20000 in
theorem gL_law_L_areKeys : GoodIn wsL_law (va_wsS RL 155 yL_areKeys wsL_areKeys) := goodIn_app (goodIn_of _ (by decide +kernel)) ggL_law_L_areKeys
set_option maxRecDepth 20000 in
theorem ggL_law_X11_isSound : GoodIn wsL_law wsX11_isSound := goodIn_ca (goodIn_r _ [399, 24, 20, 16, 400, 401, 402, 23, 403, 404, 405, 406, 407, 408, 409, 410, 42, 411, 412, 413, 19, 414, 415, 416, 417, 418, 15, 419, 96, 420, 93, 94, 95, 33, 152, 153, 154, 91, 155, 105, 421, 422, 423, 424, 169, 161, 162, 163, 164, 109, 425, 377, 378, 379, 110, 426, 427, 428, 429, 450, 451, 452, 453, 459, 460, 461, 462, 463, 464, 465, 466, 456, 457, 458, 454, 455, 489, 490, 491, 492, 493, 494, 495, 496, 497] (by decide +kernel) (by decide +kernel)) (goodIn_sub (fun _ h => List.mem_append_left _ (List.mem_append_left _ (List.mem_append_left _ (List.mem_append_left _ (List.mem_append_left _ (List.mem_append_right _ h)))))) (by decide +kernel))
set_option maxRecDepth 20000 in
theorem gL_law_X11_isSound : GoodIn wsL_law (wsV RL 159 RX11 yX11_isSound wsX11_isSound) := goodIn_app (goodIn_of _ (by decide +kernel)) ggL_law_X11_isSound
set_option maxRecDepth 20000 in
theorem ggL_law_L_setChain : GoodIn wsL_law wsL_setChain := goodIn_ca (goodIn_r _ [432, 79, 4, 433, 434, 435, 2, 436, 85, 86, 16, 92, 93, 94, 15, 95, 96, 33, 146, 147, 148, 149, 150, 151, 152, 153, 154, 91, 155, 105, 437, 438, 439, 440, 194, 441, 450, 451, 452, 453, 454, 455, 489, 490, 491, 492, 493, 494, 495, 496, 497] (by decide +kernel) (by decide +kernel)) (goodIn_sub (fun _ h => List.mem_append_left _ (List.mem_append_left _ (List.mem_append_left _ (List.mem_append_left _ (List.mem_append_right _ h))))) (by decide +kernel))
set_option maxRecDepth 20000 in
theorem gL_law_L_setChain : GoodIn wsL_law (va_wsS RL 163 yL_setChain wsL_setChain) := goodIn_app (goodIn_of _ (by decide +kernel)) ggL_law_L_setChain
set_option maxRecDepth 20000 in
theorem ggL_law_L_keys : GoodIn wsL_law wsL_keys := goodIn_ca (goodIn_ca (goodIn_r _ [390, 79, 332, 4, 5, 391, 392, 393, 2, 394, 85, 86, 337, 338, 16, 395, 92, 93, 94, 15, 95, 96, 33, 146, 147, 148, 149, 150, 151, 152, 153, 154, 91, 155, 105, 450, 451, 452, 453, 489, 490, 491, 492, 493, 494, 495, 496, 497, 454, 455] (by decide +kernel) (by decide +kernel)) (goodIn_sub (fun _ h => List.mem_append_left _ (List.mem_append_left _ (List.mem_append_left _ (List.mem_append_left _ (List.mem_append_right _ h))))) (by decide +kernel))) (goodIn_sub (fun _ h => List.mem_append_left _ (List.mem_append_right _ h)) (by decide +kernel))
set_option maxRecDepth 20000 in
theorem gL_law_L_keys : GoodIn wsL_law (va_wsS RL 120 yL_keys wsL_keys) := goodIn_app (goodIn_of _ (by decide +kernel)) ggL_law_L_keys
set_option maxRecDepth 20000 in
theorem ggL_law_L_rights : GoodIn wsL_law wsL_rights := goodIn_ca (goodIn_ca (goodIn_ca (goodIn_ca (goodIn_r _ [382, 79, 332, 369, 4, 5, 6, 383, 384, 385, 2, 386, 85, 86, 337, 338, 374, 375, 16, 92, 93, 94, 15, 95, 96, 33, 140, 141, 142, 146, 147, 148, 149, 150, 151, 152, 153, 154, 91, 155, 105, 387, 224, 225, 226, 109, 450, 451, 452, 453, 454, 455, 489, 490, 491, 492, 493, 494, 495, 496, 497] (by decide +kernel) (by decide +kernel)) (goodIn_sub (fun _ h => List.mem_append_left _ (List.mem_append_left _ (List.mem_append_left _ (List.mem_append_left _ (List.mem_append_right _ h))))) (by decide +kernel))) (goodIn_sub (fun _ h => List.mem_append_left _ (List.mem_append_right _ h)) (by decide +kernel))) (goodIn_sub (fun _ h => List.mem_append_right _ h) (by decide +kernel))) (goodIn_sub (fun _ h => List.mem_append_left _ (List.mem_append_left _ (List.mem_append_left _ (List.mem_append_left _ (List.mem_append_left _ (List.mem_append_right _ h)))))) (by decide +kernel))
set_option maxRecDepth 20000 in
theorem gL_law_L_rights : GoodIn wsL_law (va_wsS RL 118 yL_rights wsL_rights) := goodIn_app (goodIn_of _ (by decide +kernel)) ggL_law_L_rights
set_option maxRecDepth 20000 in
theorem ggL_law_L_revoke : GoodIn wsL_law wsL_revoke := goodIn_ca (goodIn_ca (goodIn_r _ [444, 79, 80, 4, 5, 445, 446, 447, 2, 448, 85, 86, 87, 88, 16, 449, 92, 93, 94, 15, 95, 96, 33, 323, 153, 154, 91, 155, 105, 450, 451, 452, 453, 489, 490, 491, 492, 493, 494, 495, 496, 497, 454, 455] (by decide +kernel) (by decide +kernel)) (goodIn_sub (fun _ h => List.mem_append_left _ (List.mem_append_left _ (List.mem_append_left _ (List.mem_append_left _ (List.mem_append_right _ h))))) (by decide +kernel))) (goodIn_sub (fun _ h => List.mem_append_left _ (List.mem_append_left _ (List.mem_append_left _ (List.mem_append_right _ h)))) (by decide +kernel))
set_option maxRecDepth 20000 in
theorem gL_law_L_revoke : GoodIn wsL_law (va_wsS RL 165 yL_revoke wsL_revoke) := goodIn_app (goodIn_of _ (by decide +kernel)) ggL_law_L_revoke
theorem dL_law_0 : decode cL_law 0 = .ok (.new 10, 3) := by decide +kernel
theorem dL_law_3 : decode cL_law 3 = .ok (.dup, 1) := by decide +kernel
theorem dL_law_4 : decode cL_law 4 = .ok (.invokespecial 123, 3) := by decide +kernel
theorem dL_law_7 : decode cL_law 7 = .ok (.astore_n 1, 1) := by decide +kernel
theorem dL_law_8 : decode cL_law 8 = .ok (.sipush 700, 3) := by decide +kernel
theorem dL_law_11 : decode cL_law 11 = .ok (.newarray .int, 2) := by decide +kernel
theorem dL_law_13 : decode cL_law 13 = .ok (.astore_n 2, 1) := by decide +kernel
theorem dL_law_14 : decode cL_law 14 = .ok (.iconst 1, 1) := by decide +kernel
theorem dL_law_15 : decode cL_law 15 = .ok (.istore_n 3, 1) := by decide +kernel
theorem dL_law_16 : decode cL_law 16 = .ok (.iconst 0, 1) := by decide +kernel
theorem dL_law_17 : decode cL_law 17 = .ok (.istore 4, 2) := by decide +kernel
theorem dL_law_19 : decode cL_law 19 = .ok (.iload 4, 2) := by decide +kernel
theorem dL_law_21 : decode cL_law 21 = .ok (.iconst 5, 1) := by decide +kernel
theorem dL_law_22 : decode cL_law 22 = .ok (.if_icmp .ge 69, 3) := by decide +kernel
theorem dL_law_25 : decode cL_law 25 = .ok (.aload_n 2, 1) := by decide +kernel
theorem dL_law_26 : decode cL_law 26 = .ok (.bipush 10, 2) := by decide +kernel
theorem dL_law_28 : decode cL_law 28 = .ok (.iload 4, 2) := by decide +kernel
theorem dL_law_30 : decode cL_law 30 = .ok (.iadd, 1) := by decide +kernel
theorem dL_law_31 : decode cL_law 31 = .ok (.iload 4, 2) := by decide +kernel
theorem dL_law_33 : decode cL_law 33 = .ok (.ifCond .eq 13, 3) := by decide +kernel
theorem dL_law_36 : decode cL_law 36 = .ok (.aload_n 0, 1) := by decide +kernel
theorem dL_law_37 : decode cL_law 37 = .ok (.iload 4, 2) := by decide +kernel
theorem dL_law_39 : decode cL_law 39 = .ok (.iconst 3, 1) := by decide +kernel
theorem dL_law_40 : decode cL_law 40 = .ok (.invokestatic 124, 3) := by decide +kernel
theorem dL_law_43 : decode cL_law 43 = .ok (.ifCond .ne 7, 3) := by decide +kernel
theorem dL_law_46 : decode cL_law 46 = .ok (.iconst (-1), 1) := by decide +kernel
theorem dL_law_47 : decode cL_law 47 = .ok (.goto 13, 3) := by decide +kernel
theorem dL_law_50 : decode cL_law 50 = .ok (.aload_n 0, 1) := by decide +kernel
theorem dL_law_51 : decode cL_law 51 = .ok (.iconst 5, 1) := by decide +kernel
theorem dL_law_52 : decode cL_law 52 = .ok (.iload 4, 2) := by decide +kernel
theorem dL_law_54 : decode cL_law 54 = .ok (.iadd, 1) := by decide +kernel
theorem dL_law_55 : decode cL_law 55 = .ok (.iload 4, 2) := by decide +kernel
theorem dL_law_57 : decode cL_law 57 = .ok (.invokestatic 124, 3) := by decide +kernel
theorem dL_law_60 : decode cL_law 60 = .ok (.iastore, 1) := by decide +kernel
theorem dL_law_61 : decode cL_law 61 = .ok (.iload_n 3, 1) := by decide +kernel
theorem dL_law_62 : decode cL_law 62 = .ok (.aload_n 1, 1) := by decide +kernel
theorem dL_law_63 : decode cL_law 63 = .ok (.aload_n 2, 1) := by decide +kernel
theorem dL_law_64 : decode cL_law 64 = .ok (.bipush 10, 2) := by decide +kernel
theorem dL_law_66 : decode cL_law 66 = .ok (.iload 4, 2) := by decide +kernel
theorem dL_law_68 : decode cL_law 68 = .ok (.iadd, 1) := by decide +kernel
theorem dL_law_69 : decode cL_law 69 = .ok (.iaload, 1) := by decide +kernel
theorem dL_law_70 : decode cL_law 70 = .ok (.invokestatic 127, 3) := by decide +kernel
theorem dL_law_73 : decode cL_law 73 = .ok (.iload 4, 2) := by decide +kernel
theorem dL_law_75 : decode cL_law 75 = .ok (.if_icmp .ne 7, 3) := by decide +kernel
theorem dL_law_78 : decode cL_law 78 = .ok (.iconst 1, 1) := by decide +kernel
theorem dL_law_79 : decode cL_law 79 = .ok (.goto 4, 3) := by decide +kernel
theorem dL_law_82 : decode cL_law 82 = .ok (.iconst 0, 1) := by decide +kernel
theorem dL_law_83 : decode cL_law 83 = .ok (.iand, 1) := by decide +kernel
theorem dL_law_84 : decode cL_law 84 = .ok (.istore_n 3, 1) := by decide +kernel
theorem dL_law_85 : decode cL_law 85 = .ok (.iinc 4 1, 3) := by decide +kernel
theorem dL_law_88 : decode cL_law 88 = .ok (.goto (-69), 3) := by decide +kernel
theorem dL_law_91 : decode cL_law 91 = .ok (.aload_n 2, 1) := by decide +kernel
theorem dL_law_92 : decode cL_law 92 = .ok (.bipush 35, 2) := by decide +kernel
theorem dL_law_94 : decode cL_law 94 = .ok (.aload_n 0, 1) := by decide +kernel
theorem dL_law_95 : decode cL_law 95 = .ok (.bipush 10, 2) := by decide +kernel
theorem dL_law_97 : decode cL_law 97 = .ok (.iconst 5, 1) := by decide +kernel
theorem dL_law_98 : decode cL_law 98 = .ok (.invokestatic 124, 3) := by decide +kernel
theorem dL_law_101 : decode cL_law 101 = .ok (.iastore, 1) := by decide +kernel
theorem dL_law_102 : decode cL_law 102 = .ok (.aload_n 2, 1) := by decide +kernel
theorem dL_law_103 : decode cL_law 103 = .ok (.bipush 36, 2) := by decide +kernel
theorem dL_law_105 : decode cL_law 105 = .ok (.aload_n 0, 1) := by decide +kernel
theorem dL_law_106 : decode cL_law 106 = .ok (.bipush 11, 2) := by decide +kernel
theorem dL_law_108 : decode cL_law 108 = .ok (.bipush 6, 2) := by decide +kernel
theorem dL_law_110 : decode cL_law 110 = .ok (.invokestatic 124, 3) := by decide +kernel
theorem dL_law_113 : decode cL_law 113 = .ok (.iastore, 1) := by decide +kernel
theorem dL_law_114 : decode cL_law 114 = .ok (.iload_n 3, 1) := by decide +kernel
theorem dL_law_115 : decode cL_law 115 = .ok (.aload_n 1, 1) := by decide +kernel
theorem dL_law_116 : decode cL_law 116 = .ok (.aload_n 2, 1) := by decide +kernel
theorem dL_law_117 : decode cL_law 117 = .ok (.bipush 35, 2) := by decide +kernel
theorem dL_law_119 : decode cL_law 119 = .ok (.iaload, 1) := by decide +kernel
theorem dL_law_120 : decode cL_law 120 = .ok (.invokestatic 129, 3) := by decide +kernel
theorem dL_law_123 : decode cL_law 123 = .ok (.iconst 5, 1) := by decide +kernel
theorem dL_law_124 : decode cL_law 124 = .ok (.if_icmp .ne 41, 3) := by decide +kernel
theorem dL_law_127 : decode cL_law 127 = .ok (.aload_n 1, 1) := by decide +kernel
theorem dL_law_128 : decode cL_law 128 = .ok (.aload_n 2, 1) := by decide +kernel
theorem dL_law_129 : decode cL_law 129 = .ok (.bipush 36, 2) := by decide +kernel
theorem dL_law_131 : decode cL_law 131 = .ok (.iaload, 1) := by decide +kernel
theorem dL_law_132 : decode cL_law 132 = .ok (.invokestatic 129, 3) := by decide +kernel
theorem dL_law_135 : decode cL_law 135 = .ok (.bipush 6, 2) := by decide +kernel
theorem dL_law_137 : decode cL_law 137 = .ok (.if_icmp .ne 28, 3) := by decide +kernel
theorem dL_law_140 : decode cL_law 140 = .ok (.aload_n 1, 1) := by decide +kernel
theorem dL_law_141 : decode cL_law 141 = .ok (.bipush 7, 2) := by decide +kernel
theorem dL_law_143 : decode cL_law 143 = .ok (.invokestatic 127, 3) := by decide +kernel
theorem dL_law_146 : decode cL_law 146 = .ok (.ldc 17, 2) := by decide +kernel
theorem dL_law_148 : decode cL_law 148 = .ok (.if_icmp .ne 17, 3) := by decide +kernel
theorem dL_law_151 : decode cL_law 151 = .ok (.aload_n 1, 1) := by decide +kernel
theorem dL_law_152 : decode cL_law 152 = .ok (.iconst (-1), 1) := by decide +kernel
theorem dL_law_153 : decode cL_law 153 = .ok (.invokestatic 129, 3) := by decide +kernel
theorem dL_law_156 : decode cL_law 156 = .ok (.ldc 17, 2) := by decide +kernel
theorem dL_law_158 : decode cL_law 158 = .ok (.if_icmp .ne 7, 3) := by decide +kernel
theorem dL_law_161 : decode cL_law 161 = .ok (.iconst 1, 1) := by decide +kernel
theorem dL_law_162 : decode cL_law 162 = .ok (.goto 4, 3) := by decide +kernel
theorem dL_law_165 : decode cL_law 165 = .ok (.iconst 0, 1) := by decide +kernel
theorem dL_law_166 : decode cL_law 166 = .ok (.iand, 1) := by decide +kernel
theorem dL_law_167 : decode cL_law 167 = .ok (.istore_n 3, 1) := by decide +kernel
theorem dL_law_168 : decode cL_law 168 = .ok (.iload_n 3, 1) := by decide +kernel
theorem dL_law_169 : decode cL_law 169 = .ok (.ifCond .ne 5, 3) := by decide +kernel
theorem dL_law_172 : decode cL_law 172 = .ok (.iconst 0, 1) := by decide +kernel
theorem dL_law_173 : decode cL_law 173 = .ok (.ireturn, 1) := by decide +kernel
theorem dL_law_174 : decode cL_law 174 = .ok (.iconst 0, 1) := by decide +kernel
theorem dL_law_175 : decode cL_law 175 = .ok (.istore 4, 2) := by decide +kernel
theorem dL_law_177 : decode cL_law 177 = .ok (.iload 4, 2) := by decide +kernel
theorem dL_law_179 : decode cL_law 179 = .ok (.bipush 36, 2) := by decide +kernel
theorem dL_law_181 : decode cL_law 181 = .ok (.if_icmp .ge 447, 3) := by decide +kernel
theorem dL_law_184 : decode cL_law 184 = .ok (.bipush 20, 2) := by decide +kernel
theorem dL_law_186 : decode cL_law 186 = .ok (.bipush 6, 2) := by decide +kernel
theorem dL_law_188 : decode cL_law 188 = .ok (.iload 4, 2) := by decide +kernel
theorem dL_law_190 : decode cL_law 190 = .ok (.imul, 1) := by decide +kernel
theorem dL_law_191 : decode cL_law 191 = .ok (.iadd, 1) := by decide +kernel
theorem dL_law_192 : decode cL_law 192 = .ok (.istore 5, 2) := by decide +kernel
theorem dL_law_194 : decode cL_law 194 = .ok (.aload_n 0, 1) := by decide +kernel
theorem dL_law_195 : decode cL_law 195 = .ok (.iload 5, 2) := by decide +kernel
theorem dL_law_197 : decode cL_law 197 = .ok (.iconst 1, 1) := by decide +kernel
theorem dL_law_198 : decode cL_law 198 = .ok (.iadd, 1) := by decide +kernel
theorem dL_law_199 : decode cL_law 199 = .ok (.bipush 7, 2) := by decide +kernel
theorem dL_law_201 : decode cL_law 201 = .ok (.invokestatic 124, 3) := by decide +kernel
theorem dL_law_204 : decode cL_law 204 = .ok (.istore 6, 2) := by decide +kernel
theorem dL_law_206 : decode cL_law 206 = .ok (.aload_n 0, 1) := by decide +kernel
theorem dL_law_207 : decode cL_law 207 = .ok (.iload 5, 2) := by decide +kernel
theorem dL_law_209 : decode cL_law 209 = .ok (.iconst 2, 1) := by decide +kernel
theorem dL_law_210 : decode cL_law 210 = .ok (.iadd, 1) := by decide +kernel
theorem dL_law_211 : decode cL_law 211 = .ok (.iconst 2, 1) := by decide +kernel
theorem dL_law_212 : decode cL_law 212 = .ok (.invokestatic 124, 3) := by decide +kernel
theorem dL_law_215 : decode cL_law 215 = .ok (.ifCond .ne 15, 3) := by decide +kernel
theorem dL_law_218 : decode cL_law 218 = .ok (.aload_n 0, 1) := by decide +kernel
theorem dL_law_219 : decode cL_law 219 = .ok (.iload 5, 2) := by decide +kernel
theorem dL_law_221 : decode cL_law 221 = .ok (.iconst 3, 1) := by decide +kernel
theorem dL_law_222 : decode cL_law 222 = .ok (.iadd, 1) := by decide +kernel
theorem dL_law_223 : decode cL_law 223 = .ok (.iconst 3, 1) := by decide +kernel
theorem dL_law_224 : decode cL_law 224 = .ok (.invokestatic 124, 3) := by decide +kernel
theorem dL_law_227 : decode cL_law 227 = .ok (.goto 15, 3) := by decide +kernel
theorem dL_law_230 : decode cL_law 230 = .ok (.bipush 10, 2) := by decide +kernel
theorem dL_law_232 : decode cL_law 232 = .ok (.aload_n 0, 1) := by decide +kernel
theorem dL_law_233 : decode cL_law 233 = .ok (.iload 5, 2) := by decide +kernel
theorem dL_law_235 : decode cL_law 235 = .ok (.iconst 3, 1) := by decide +kernel
theorem dL_law_236 : decode cL_law 236 = .ok (.iadd, 1) := by decide +kernel
theorem dL_law_237 : decode cL_law 237 = .ok (.iconst 3, 1) := by decide +kernel
theorem dL_law_238 : decode cL_law 238 = .ok (.invokestatic 124, 3) := by decide +kernel
theorem dL_law_241 : decode cL_law 241 = .ok (.iadd, 1) := by decide +kernel
theorem dL_law_242 : decode cL_law 242 = .ok (.istore 7, 2) := by decide +kernel
theorem dL_law_244 : decode cL_law 244 = .ok (.aload_n 0, 1) := by decide +kernel
theorem dL_law_245 : decode cL_law 245 = .ok (.iload 5, 2) := by decide +kernel
theorem dL_law_247 : decode cL_law 247 = .ok (.iconst 4, 1) := by decide +kernel
theorem dL_law_248 : decode cL_law 248 = .ok (.iadd, 1) := by decide +kernel
theorem dL_law_249 : decode cL_law 249 = .ok (.iconst 5, 1) := by decide +kernel
theorem dL_law_250 : decode cL_law 250 = .ok (.invokestatic 124, 3) := by decide +kernel
theorem dL_law_253 : decode cL_law 253 = .ok (.istore 8, 2) := by decide +kernel
theorem dL_law_255 : decode cL_law 255 = .ok (.aload_n 2, 1) := by decide +kernel
theorem dL_law_256 : decode cL_law 256 = .ok (.iload 6, 2) := by decide +kernel
theorem dL_law_258 : decode cL_law 258 = .ok (.invokestatic 88, 3) := by decide +kernel
theorem dL_law_261 : decode cL_law 261 = .ok (.istore 9, 2) := by decide +kernel
theorem dL_law_263 : decode cL_law 263 = .ok (.aload_n 0, 1) := by decide +kernel
theorem dL_law_264 : decode cL_law 264 = .ok (.iload 5, 2) := by decide +kernel
theorem dL_law_266 : decode cL_law 266 = .ok (.bipush 12, 2) := by decide +kernel
theorem dL_law_268 : decode cL_law 268 = .ok (.invokestatic 124, 3) := by decide +kernel
theorem dL_law_271 : decode cL_law 271 = .ok (.istore 10, 2) := by decide +kernel
theorem dL_law_273 : decode cL_law 273 = .ok (.iload 10, 2) := by decide +kernel
theorem dL_law_275 : decode cL_law 275 = .ok (.iconst 3, 1) := by decide +kernel
theorem dL_law_276 : decode cL_law 276 = .ok (.if_icmp .ge 51, 3) := by decide +kernel
theorem dL_law_279 : decode cL_law 279 = .ok (.aload_n 0, 1) := by decide +kernel
theorem dL_law_280 : decode cL_law 280 = .ok (.iload 5, 2) := by decide +kernel
theorem dL_law_282 : decode cL_law 282 = .ok (.iconst 5, 1) := by decide +kernel
theorem dL_law_283 : decode cL_law 283 = .ok (.iadd, 1) := by decide +kernel
theorem dL_law_284 : decode cL_law 284 = .ok (.bipush 8, 2) := by decide +kernel
theorem dL_law_286 : decode cL_law 286 = .ok (.invokestatic 124, 3) := by decide +kernel
theorem dL_law_289 : decode cL_law 289 = .ok (.istore 11, 2) := by decide +kernel
theorem dL_law_291 : decode cL_law 291 = .ok (.aload_n 1, 1) := by decide +kernel
theorem dL_law_292 : decode cL_law 292 = .ok (.iload 6, 2) := by decide +kernel
theorem dL_law_294 : decode cL_law 294 = .ok (.iload 7, 2) := by decide +kernel
theorem dL_law_296 : decode cL_law 296 = .ok (.iload 8, 2) := by decide +kernel
theorem dL_law_298 : decode cL_law 298 = .ok (.iload 11, 2) := by decide +kernel
theorem dL_law_300 : decode cL_law 300 = .ok (.invokestatic 131, 3) := by decide +kernel
theorem dL_law_303 : decode cL_law 303 = .ok (.aload_n 2, 1) := by decide +kernel
theorem dL_law_304 : decode cL_law 304 = .ok (.iload 9, 2) := by decide +kernel
theorem dL_law_306 : decode cL_law 306 = .ok (.iload 7, 2) := by decide +kernel
theorem dL_law_308 : decode cL_law 308 = .ok (.iload 8, 2) := by decide +kernel
theorem dL_law_310 : decode cL_law 310 = .ok (.iload 11, 2) := by decide +kernel
theorem dL_law_312 : decode cL_law 312 = .ok (.invokestatic 84, 3) := by decide +kernel
theorem dL_law_315 : decode cL_law 315 = .ok (.if_icmp .ne 7, 3) := by decide +kernel
theorem dL_law_318 : decode cL_law 318 = .ok (.iconst 1, 1) := by decide +kernel
theorem dL_law_319 : decode cL_law 319 = .ok (.goto 4, 3) := by decide +kernel
theorem dL_law_322 : decode cL_law 322 = .ok (.iconst 0, 1) := by decide +kernel
theorem dL_law_323 : decode cL_law 323 = .ok (.istore_n 3, 1) := by decide +kernel
theorem dL_law_324 : decode cL_law 324 = .ok (.goto 244, 3) := by decide +kernel
theorem dL_law_327 : decode cL_law 327 = .ok (.iload 10, 2) := by decide +kernel
theorem dL_law_329 : decode cL_law 329 = .ok (.bipush 6, 2) := by decide +kernel
theorem dL_law_331 : decode cL_law 331 = .ok (.if_icmp .ge 37, 3) := by decide +kernel
theorem dL_law_334 : decode cL_law 334 = .ok (.aload_n 1, 1) := by decide +kernel
theorem dL_law_335 : decode cL_law 335 = .ok (.iload 6, 2) := by decide +kernel
theorem dL_law_337 : decode cL_law 337 = .ok (.iload 7, 2) := by decide +kernel
theorem dL_law_339 : decode cL_law 339 = .ok (.iload 8, 2) := by decide +kernel
theorem dL_law_341 : decode cL_law 341 = .ok (.invokestatic 134, 3) := by decide +kernel
theorem dL_law_344 : decode cL_law 344 = .ok (.aload_n 2, 1) := by decide +kernel
theorem dL_law_345 : decode cL_law 345 = .ok (.iload 6, 2) := by decide +kernel
theorem dL_law_347 : decode cL_law 347 = .ok (.iload 7, 2) := by decide +kernel
theorem dL_law_349 : decode cL_law 349 = .ok (.iload 8, 2) := by decide +kernel
theorem dL_law_351 : decode cL_law 351 = .ok (.iload 9, 2) := by decide +kernel
theorem dL_law_353 : decode cL_law 353 = .ok (.invokestatic 91, 3) := by decide +kernel
theorem dL_law_356 : decode cL_law 356 = .ok (.if_icmp .ne 7, 3) := by decide +kernel
theorem dL_law_359 : decode cL_law 359 = .ok (.iconst 1, 1) := by decide +kernel
theorem dL_law_360 : decode cL_law 360 = .ok (.goto 4, 3) := by decide +kernel
theorem dL_law_363 : decode cL_law 363 = .ok (.iconst 0, 1) := by decide +kernel
theorem dL_law_364 : decode cL_law 364 = .ok (.istore_n 3, 1) := by decide +kernel
theorem dL_law_365 : decode cL_law 365 = .ok (.goto 203, 3) := by decide +kernel
theorem dL_law_368 : decode cL_law 368 = .ok (.iload 10, 2) := by decide +kernel
theorem dL_law_370 : decode cL_law 370 = .ok (.bipush 6, 2) := by decide +kernel
theorem dL_law_372 : decode cL_law 372 = .ok (.if_icmp .ne 31, 3) := by decide +kernel
theorem dL_law_375 : decode cL_law 375 = .ok (.aload_n 1, 1) := by decide +kernel
theorem dL_law_376 : decode cL_law 376 = .ok (.iload 6, 2) := by decide +kernel
theorem dL_law_378 : decode cL_law 378 = .ok (.iload 7, 2) := by decide +kernel
theorem dL_law_380 : decode cL_law 380 = .ok (.invokestatic 137, 3) := by decide +kernel
theorem dL_law_383 : decode cL_law 383 = .ok (.aload_n 2, 1) := by decide +kernel
theorem dL_law_384 : decode cL_law 384 = .ok (.iload 6, 2) := by decide +kernel
theorem dL_law_386 : decode cL_law 386 = .ok (.iload 7, 2) := by decide +kernel
theorem dL_law_388 : decode cL_law 388 = .ok (.invokestatic 112, 3) := by decide +kernel
theorem dL_law_391 : decode cL_law 391 = .ok (.if_icmp .ne 7, 3) := by decide +kernel
theorem dL_law_394 : decode cL_law 394 = .ok (.iconst 1, 1) := by decide +kernel
theorem dL_law_395 : decode cL_law 395 = .ok (.goto 4, 3) := by decide +kernel
theorem dL_law_398 : decode cL_law 398 = .ok (.iconst 0, 1) := by decide +kernel
theorem dL_law_399 : decode cL_law 399 = .ok (.istore_n 3, 1) := by decide +kernel
theorem dL_law_400 : decode cL_law 400 = .ok (.goto 168, 3) := by decide +kernel
theorem dL_law_403 : decode cL_law 403 = .ok (.iload 10, 2) := by decide +kernel
theorem dL_law_405 : decode cL_law 405 = .ok (.bipush 7, 2) := by decide +kernel
theorem dL_law_407 : decode cL_law 407 = .ok (.if_icmp .ne 41, 3) := by decide +kernel
theorem dL_law_410 : decode cL_law 410 = .ok (.aload_n 0, 1) := by decide +kernel
theorem dL_law_411 : decode cL_law 411 = .ok (.iload 5, 2) := by decide +kernel
theorem dL_law_413 : decode cL_law 413 = .ok (.iconst 5, 1) := by decide +kernel
theorem dL_law_414 : decode cL_law 414 = .ok (.iadd, 1) := by decide +kernel
theorem dL_law_415 : decode cL_law 415 = .ok (.bipush 6, 2) := by decide +kernel
theorem dL_law_417 : decode cL_law 417 = .ok (.invokestatic 124, 3) := by decide +kernel
theorem dL_law_420 : decode cL_law 420 = .ok (.ifCond .ne 28, 3) := by decide +kernel
theorem dL_law_423 : decode cL_law 423 = .ok (.aload_n 2, 1) := by decide +kernel
theorem dL_law_424 : decode cL_law 424 = .ok (.iload 9, 2) := by decide +kernel
theorem dL_law_426 : decode cL_law 426 = .ok (.iconst 1, 1) := by decide +kernel
theorem dL_law_427 : decode cL_law 427 = .ok (.iastore, 1) := by decide +kernel
theorem dL_law_428 : decode cL_law 428 = .ok (.aload_n 1, 1) := by decide +kernel
theorem dL_law_429 : decode cL_law 429 = .ok (.iload 6, 2) := by decide +kernel
theorem dL_law_431 : decode cL_law 431 = .ok (.invokestatic 139, 3) := by decide +kernel
theorem dL_law_434 : decode cL_law 434 = .ok (.bipush 121, 2) := by decide +kernel
theorem dL_law_436 : decode cL_law 436 = .ok (.if_icmp .ne 7, 3) := by decide +kernel
theorem dL_law_439 : decode cL_law 439 = .ok (.iconst 1, 1) := by decide +kernel
theorem dL_law_440 : decode cL_law 440 = .ok (.goto 4, 3) := by decide +kernel
theorem dL_law_443 : decode cL_law 443 = .ok (.iconst 0, 1) := by decide +kernel
theorem dL_law_444 : decode cL_law 444 = .ok (.istore_n 3, 1) := by decide +kernel
theorem dL_law_445 : decode cL_law 445 = .ok (.goto 123, 3) := by decide +kernel
theorem dL_law_448 : decode cL_law 448 = .ok (.iload 10, 2) := by decide +kernel
theorem dL_law_450 : decode cL_law 450 = .ok (.bipush 8, 2) := by decide +kernel
theorem dL_law_452 : decode cL_law 452 = .ok (.if_icmp .ne 116, 3) := by decide +kernel
theorem dL_law_455 : decode cL_law 455 = .ok (.iconst 5, 1) := by decide +kernel
theorem dL_law_456 : decode cL_law 456 = .ok (.aload_n 0, 1) := by decide +kernel
theorem dL_law_457 : decode cL_law 457 = .ok (.iload 5, 2) := by decide +kernel
theorem dL_law_459 : decode cL_law 459 = .ok (.iconst 1, 1) := by decide +kernel
theorem dL_law_460 : decode cL_law 460 = .ok (.iadd, 1) := by decide +kernel
theorem dL_law_461 : decode cL_law 461 = .ok (.iconst 2, 1) := by decide +kernel
theorem dL_law_462 : decode cL_law 462 = .ok (.invokestatic 124, 3) := by decide +kernel
theorem dL_law_465 : decode cL_law 465 = .ok (.iadd, 1) := by decide +kernel
theorem dL_law_466 : decode cL_law 466 = .ok (.istore 11, 2) := by decide +kernel
theorem dL_law_468 : decode cL_law 468 = .ok (.aload_n 0, 1) := by decide +kernel
theorem dL_law_469 : decode cL_law 469 = .ok (.iload 5, 2) := by decide +kernel
theorem dL_law_471 : decode cL_law 471 = .ok (.iconst 5, 1) := by decide +kernel
theorem dL_law_472 : decode cL_law 472 = .ok (.iadd, 1) := by decide +kernel
theorem dL_law_473 : decode cL_law 473 = .ok (.iconst 4, 1) := by decide +kernel
theorem dL_law_474 : decode cL_law 474 = .ok (.invokestatic 124, 3) := by decide +kernel
theorem dL_law_477 : decode cL_law 477 = .ok (.istore 12, 2) := by decide +kernel
theorem dL_law_479 : decode cL_law 479 = .ok (.aload_n 2, 1) := by decide +kernel
theorem dL_law_480 : decode cL_law 480 = .ok (.bipush 60, 2) := by decide +kernel
theorem dL_law_482 : decode cL_law 482 = .ok (.iconst 4, 1) := by decide +kernel
theorem dL_law_483 : decode cL_law 483 = .ok (.iload 11, 2) := by decide +kernel
theorem dL_law_485 : decode cL_law 485 = .ok (.iconst 5, 1) := by decide +kernel
theorem dL_law_486 : decode cL_law 486 = .ok (.isub, 1) := by decide +kernel
theorem dL_law_487 : decode cL_law 487 = .ok (.imul, 1) := by decide +kernel
theorem dL_law_488 : decode cL_law 488 = .ok (.iadd, 1) := by decide +kernel
theorem dL_law_489 : decode cL_law 489 = .ok (.iload 12, 2) := by decide +kernel
theorem dL_law_491 : decode cL_law 491 = .ok (.iadd, 1) := by decide +kernel
theorem dL_law_492 : decode cL_law 492 = .ok (.iaload, 1) := by decide +kernel
theorem dL_law_493 : decode cL_law 493 = .ok (.istore 13, 2) := by decide +kernel
theorem dL_law_495 : decode cL_law 495 = .ok (.iload 12, 2) := by decide +kernel
theorem dL_law_497 : decode cL_law 497 = .ok (.ifCond .ne 8, 3) := by decide +kernel
theorem dL_law_500 : decode cL_law 500 = .ok (.iload 8, 2) := by decide +kernel
theorem dL_law_502 : decode cL_law 502 = .ok (.goto 7, 3) := by decide +kernel
theorem dL_law_505 : decode cL_law 505 = .ok (.iload 8, 2) := by decide +kernel
theorem dL_law_507 : decode cL_law 507 = .ok (.iconst 2, 1) := by decide +kernel
theorem dL_law_508 : decode cL_law 508 = .ok (.irem, 1) := by decide +kernel
theorem dL_law_509 : decode cL_law 509 = .ok (.istore 14, 2) := by decide +kernel
theorem dL_law_511 : decode cL_law 511 = .ok (.aload_n 2, 1) := by decide +kernel
theorem dL_law_512 : decode cL_law 512 = .ok (.bipush 60, 2) := by decide +kernel
theorem dL_law_514 : decode cL_law 514 = .ok (.iconst 4, 1) := by decide +kernel
theorem dL_law_515 : decode cL_law 515 = .ok (.iload 11, 2) := by decide +kernel
theorem dL_law_517 : decode cL_law 517 = .ok (.iconst 5, 1) := by decide +kernel
theorem dL_law_518 : decode cL_law 518 = .ok (.isub, 1) := by decide +kernel
theorem dL_law_519 : decode cL_law 519 = .ok (.imul, 1) := by decide +kernel
theorem dL_law_520 : decode cL_law 520 = .ok (.iadd, 1) := by decide +kernel
theorem dL_law_521 : decode cL_law 521 = .ok (.iload 12, 2) := by decide +kernel
theorem dL_law_523 : decode cL_law 523 = .ok (.iadd, 1) := by decide +kernel
theorem dL_law_524 : decode cL_law 524 = .ok (.iconst 1, 1) := by decide +kernel
theorem dL_law_525 : decode cL_law 525 = .ok (.iastore, 1) := by decide +kernel
theorem dL_law_526 : decode cL_law 526 = .ok (.aload_n 2, 1) := by decide +kernel
theorem dL_law_527 : decode cL_law 527 = .ok (.bipush 40, 2) := by decide +kernel
theorem dL_law_529 : decode cL_law 529 = .ok (.iconst 4, 1) := by decide +kernel
theorem dL_law_530 : decode cL_law 530 = .ok (.iload 11, 2) := by decide +kernel
theorem dL_law_532 : decode cL_law 532 = .ok (.iconst 5, 1) := by decide +kernel
theorem dL_law_533 : decode cL_law 533 = .ok (.isub, 1) := by decide +kernel
theorem dL_law_534 : decode cL_law 534 = .ok (.imul, 1) := by decide +kernel
theorem dL_law_535 : decode cL_law 535 = .ok (.iadd, 1) := by decide +kernel
theorem dL_law_536 : decode cL_law 536 = .ok (.iload 12, 2) := by decide +kernel
theorem dL_law_538 : decode cL_law 538 = .ok (.iadd, 1) := by decide +kernel
theorem dL_law_539 : decode cL_law 539 = .ok (.iload 14, 2) := by decide +kernel
theorem dL_law_541 : decode cL_law 541 = .ok (.iastore, 1) := by decide +kernel
theorem dL_law_542 : decode cL_law 542 = .ok (.aload_n 1, 1) := by decide +kernel
theorem dL_law_543 : decode cL_law 543 = .ok (.iload 11, 2) := by decide +kernel
theorem dL_law_545 : decode cL_law 545 = .ok (.ldc 141, 2) := by decide +kernel
theorem dL_law_547 : decode cL_law 547 = .ok (.iload 12, 2) := by decide +kernel
theorem dL_law_549 : decode cL_law 549 = .ok (.invokevirtual 143, 3) := by decide +kernel
theorem dL_law_552 : decode cL_law 552 = .ok (.iload 14, 2) := by decide +kernel
theorem dL_law_554 : decode cL_law 554 = .ok (.invokestatic 148, 3) := by decide +kernel
theorem dL_law_557 : decode cL_law 557 = .ok (.iload 13, 2) := by decide +kernel
theorem dL_law_559 : decode cL_law 559 = .ok (.if_icmp .ne 7, 3) := by decide +kernel
theorem dL_law_562 : decode cL_law 562 = .ok (.iconst 1, 1) := by decide +kernel
theorem dL_law_563 : decode cL_law 563 = .ok (.goto 4, 3) := by decide +kernel
theorem dL_law_566 : decode cL_law 566 = .ok (.iconst 0, 1) := by decide +kernel
theorem dL_law_567 : decode cL_law 567 = .ok (.istore_n 3, 1) := by decide +kernel
theorem dL_law_568 : decode cL_law 568 = .ok (.iload_n 3, 1) := by decide +kernel
theorem dL_law_569 : decode cL_law 569 = .ok (.ifCond .eq 51, 3) := by decide +kernel
theorem dL_law_572 : decode cL_law 572 = .ok (.aload_n 1, 1) := by decide +kernel
theorem dL_law_573 : decode cL_law 573 = .ok (.iload 6, 2) := by decide +kernel
theorem dL_law_575 : decode cL_law 575 = .ok (.iload 7, 2) := by decide +kernel
theorem dL_law_577 : decode cL_law 577 = .ok (.invokestatic 151, 3) := by decide +kernel
theorem dL_law_580 : decode cL_law 580 = .ok (.aload_n 2, 1) := by decide +kernel
theorem dL_law_581 : decode cL_law 581 = .ok (.iload 6, 2) := by decide +kernel
theorem dL_law_583 : decode cL_law 583 = .ok (.iload 7, 2) := by decide +kernel
theorem dL_law_585 : decode cL_law 585 = .ok (.invokestatic 102, 3) := by decide +kernel
theorem dL_law_588 : decode cL_law 588 = .ok (.if_icmp .ne 32, 3) := by decide +kernel
theorem dL_law_591 : decode cL_law 591 = .ok (.aload_n 1, 1) := by decide +kernel
theorem dL_law_592 : decode cL_law 592 = .ok (.iload 6, 2) := by decide +kernel
theorem dL_law_594 : decode cL_law 594 = .ok (.iload 7, 2) := by decide +kernel
theorem dL_law_596 : decode cL_law 596 = .ok (.invokestatic 153, 3) := by decide +kernel
theorem dL_law_599 : decode cL_law 599 = .ok (.aload_n 2, 1) := by decide +kernel
theorem dL_law_600 : decode cL_law 600 = .ok (.iload 6, 2) := by decide +kernel
theorem dL_law_602 : decode cL_law 602 = .ok (.iload 7, 2) := by decide +kernel
theorem dL_law_604 : decode cL_law 604 = .ok (.invokestatic 109, 3) := by decide +kernel
theorem dL_law_607 : decode cL_law 607 = .ok (.if_icmp .ne 13, 3) := by decide +kernel
theorem dL_law_610 : decode cL_law 610 = .ok (.aload_n 1, 1) := by decide +kernel
theorem dL_law_611 : decode cL_law 611 = .ok (.aload_n 2, 1) := by decide +kernel
theorem dL_law_612 : decode cL_law 612 = .ok (.iload 6, 2) := by decide +kernel
theorem dL_law_614 : decode cL_law 614 = .ok (.invokestatic 155, 3) := by decide +kernel
theorem dL_law_617 : decode cL_law 617 = .ok (.ifCond .ne 5, 3) := by decide +kernel
theorem dL_law_620 : decode cL_law 620 = .ok (.iconst 0, 1) := by decide +kernel
theorem dL_law_621 : decode cL_law 621 = .ok (.ireturn, 1) := by decide +kernel
theorem dL_law_622 : decode cL_law 622 = .ok (.iinc 4 1, 3) := by decide +kernel
theorem dL_law_625 : decode cL_law 625 = .ok (.goto (-448), 3) := by decide +kernel
theorem dL_law_628 : decode cL_law 628 = .ok (.aload_n 1, 1) := by decide +kernel
theorem dL_law_629 : decode cL_law 629 = .ok (.invokevirtual 159, 3) := by decide +kernel
theorem dL_law_632 : decode cL_law 632 = .ok (.ifCond .eq 204, 3) := by decide +kernel
theorem dL_law_635 : decode cL_law 635 = .ok (.aload_n 1, 1) := by decide +kernel
theorem dL_law_636 : decode cL_law 636 = .ok (.bipush 7, 2) := by decide +kernel
theorem dL_law_638 : decode cL_law 638 = .ok (.iconst 0, 1) := by decide +kernel
theorem dL_law_639 : decode cL_law 639 = .ok (.invokestatic 151, 3) := by decide +kernel
theorem dL_law_642 : decode cL_law 642 = .ok (.ldc 17, 2) := by decide +kernel
theorem dL_law_644 : decode cL_law 644 = .ok (.if_icmp .ne 192, 3) := by decide +kernel
theorem dL_law_647 : decode cL_law 647 = .ok (.aload_n 1, 1) := by decide +kernel
theorem dL_law_648 : decode cL_law 648 = .ok (.iconst 0, 1) := by decide +kernel
theorem dL_law_649 : decode cL_law 649 = .ok (.bipush 20, 2) := by decide +kernel
theorem dL_law_651 : decode cL_law 651 = .ok (.invokestatic 153, 3) := by decide +kernel
theorem dL_law_654 : decode cL_law 654 = .ok (.ldc 17, 2) := by decide +kernel
theorem dL_law_656 : decode cL_law 656 = .ok (.if_icmp .ne 180, 3) := by decide +kernel
theorem dL_law_659 : decode cL_law 659 = .ok (.aload_n 1, 1) := by decide +kernel
theorem dL_law_660 : decode cL_law 660 = .ok (.iconst 0, 1) := by decide +kernel
theorem dL_law_661 : decode cL_law 661 = .ok (.iconst 0, 1) := by decide +kernel
theorem dL_law_662 : decode cL_law 662 = .ok (.sipush 10000, 3) := by decide +kernel
theorem dL_law_665 : decode cL_law 665 = .ok (.invokestatic 134, 3) := by decide +kernel
theorem dL_law_668 : decode cL_law 668 = .ok (.ldc 20, 2) := by decide +kernel
theorem dL_law_670 : decode cL_law 670 = .ok (.if_icmp .ne 166, 3) := by decide +kernel
theorem dL_law_673 : decode cL_law 673 = .ok (.aload_n 1, 1) := by decide +kernel
theorem dL_law_674 : decode cL_law 674 = .ok (.iconst 0, 1) := by decide +kernel
theorem dL_law_675 : decode cL_law 675 = .ok (.iconst 0, 1) := by decide +kernel
theorem dL_law_676 : decode cL_law 676 = .ok (.iconst 0, 1) := by decide +kernel
theorem dL_law_677 : decode cL_law 677 = .ok (.bipush 8, 2) := by decide +kernel
theorem dL_law_679 : decode cL_law 679 = .ok (.invokestatic 131, 3) := by decide +kernel
theorem dL_law_682 : decode cL_law 682 = .ok (.ldc 20, 2) := by decide +kernel
theorem dL_law_684 : decode cL_law 684 = .ok (.if_icmp .ne 152, 3) := by decide +kernel
theorem dL_law_687 : decode cL_law 687 = .ok (.aload_n 1, 1) := by decide +kernel
theorem dL_law_688 : decode cL_law 688 = .ok (.iconst (-1), 1) := by decide +kernel
theorem dL_law_689 : decode cL_law 689 = .ok (.iconst 0, 1) := by decide +kernel
theorem dL_law_690 : decode cL_law 690 = .ok (.iconst 0, 1) := by decide +kernel
theorem dL_law_691 : decode cL_law 691 = .ok (.iconst 0, 1) := by decide +kernel
theorem dL_law_692 : decode cL_law 692 = .ok (.invokestatic 131, 3) := by decide +kernel
theorem dL_law_695 : decode cL_law 695 = .ok (.ldc 17, 2) := by decide +kernel
theorem dL_law_697 : decode cL_law 697 = .ok (.if_icmp .ne 139, 3) := by decide +kernel
theorem dL_law_700 : decode cL_law 700 = .ok (.aload_n 1, 1) := by decide +kernel
theorem dL_law_701 : decode cL_law 701 = .ok (.iconst 0, 1) := by decide +kernel
theorem dL_law_702 : decode cL_law 702 = .ok (.iconst (-1), 1) := by decide +kernel
theorem dL_law_703 : decode cL_law 703 = .ok (.invokestatic 137, 3) := by decide +kernel
theorem dL_law_706 : decode cL_law 706 = .ok (.ldc 17, 2) := by decide +kernel
theorem dL_law_708 : decode cL_law 708 = .ok (.if_icmp .ne 128, 3) := by decide +kernel
theorem dL_law_711 : decode cL_law 711 = .ok (.aload_n 1, 1) := by decide +kernel
theorem dL_law_712 : decode cL_law 712 = .ok (.bipush 7, 2) := by decide +kernel
theorem dL_law_714 : decode cL_law 714 = .ok (.invokestatic 139, 3) := by decide +kernel
theorem dL_law_717 : decode cL_law 717 = .ok (.ldc 17, 2) := by decide +kernel
theorem dL_law_719 : decode cL_law 719 = .ok (.if_icmp .ne 117, 3) := by decide +kernel
theorem dL_law_722 : decode cL_law 722 = .ok (.aload_n 1, 1) := by decide +kernel
theorem dL_law_723 : decode cL_law 723 = .ok (.iconst 0, 1) := by decide +kernel
theorem dL_law_724 : decode cL_law 724 = .ok (.bipush 7, 2) := by decide +kernel
theorem dL_law_726 : decode cL_law 726 = .ok (.invokestatic 163, 3) := by decide +kernel
theorem dL_law_729 : decode cL_law 729 = .ok (.ldc 17, 2) := by decide +kernel
theorem dL_law_731 : decode cL_law 731 = .ok (.if_icmp .ne 105, 3) := by decide +kernel
theorem dL_law_734 : decode cL_law 734 = .ok (.aload_n 1, 1) := by decide +kernel
theorem dL_law_735 : decode cL_law 735 = .ok (.bipush 7, 2) := by decide +kernel
theorem dL_law_737 : decode cL_law 737 = .ok (.invokestatic 120, 3) := by decide +kernel
theorem dL_law_740 : decode cL_law 740 = .ok (.ldc 17, 2) := by decide +kernel
theorem dL_law_742 : decode cL_law 742 = .ok (.if_icmp .ne 94, 3) := by decide +kernel
theorem dL_law_745 : decode cL_law 745 = .ok (.aload_n 1, 1) := by decide +kernel
theorem dL_law_746 : decode cL_law 746 = .ok (.iconst 0, 1) := by decide +kernel
theorem dL_law_747 : decode cL_law 747 = .ok (.bipush 20, 2) := by decide +kernel
theorem dL_law_749 : decode cL_law 749 = .ok (.invokestatic 118, 3) := by decide +kernel
theorem dL_law_752 : decode cL_law 752 = .ok (.ldc 17, 2) := by decide +kernel
theorem dL_law_754 : decode cL_law 754 = .ok (.if_icmp .ne 82, 3) := by decide +kernel
theorem dL_law_757 : decode cL_law 757 = .ok (.aload_n 1, 1) := by decide +kernel
theorem dL_law_758 : decode cL_law 758 = .ok (.iconst 0, 1) := by decide +kernel
theorem dL_law_759 : decode cL_law 759 = .ok (.bipush 19, 2) := by decide +kernel
theorem dL_law_761 : decode cL_law 761 = .ok (.invokestatic 118, 3) := by decide +kernel
theorem dL_law_764 : decode cL_law 764 = .ok (.ldc 62, 2) := by decide +kernel
theorem dL_law_766 : decode cL_law 766 = .ok (.if_icmp .ne 70, 3) := by decide +kernel
theorem dL_law_769 : decode cL_law 769 = .ok (.aload_n 1, 1) := by decide +kernel
theorem dL_law_770 : decode cL_law 770 = .ok (.iconst 0, 1) := by decide +kernel
theorem dL_law_771 : decode cL_law 771 = .ok (.bipush 103, 2) := by decide +kernel
theorem dL_law_773 : decode cL_law 773 = .ok (.iconst 0, 1) := by decide +kernel
theorem dL_law_774 : decode cL_law 774 = .ok (.invokestatic 148, 3) := by decide +kernel
theorem dL_law_777 : decode cL_law 777 = .ok (.ldc 62, 2) := by decide +kernel
theorem dL_law_779 : decode cL_law 779 = .ok (.if_icmp .ne 57, 3) := by decide +kernel
theorem dL_law_782 : decode cL_law 782 = .ok (.aload_n 1, 1) := by decide +kernel
theorem dL_law_783 : decode cL_law 783 = .ok (.iconst 5, 1) := by decide +kernel
theorem dL_law_784 : decode cL_law 784 = .ok (.bipush 120, 2) := by decide +kernel
theorem dL_law_786 : decode cL_law 786 = .ok (.iconst 0, 1) := by decide +kernel
theorem dL_law_787 : decode cL_law 787 = .ok (.invokestatic 148, 3) := by decide +kernel
theorem dL_law_790 : decode cL_law 790 = .ok (.ldc 20, 2) := by decide +kernel
theorem dL_law_792 : decode cL_law 792 = .ok (.if_icmp .ne 44, 3) := by decide +kernel
theorem dL_law_795 : decode cL_law 795 = .ok (.aload_n 1, 1) := by decide +kernel
theorem dL_law_796 : decode cL_law 796 = .ok (.iconst 5, 1) := by decide +kernel
theorem dL_law_797 : decode cL_law 797 = .ok (.bipush 104, 2) := by decide +kernel
theorem dL_law_799 : decode cL_law 799 = .ok (.iconst 2, 1) := by decide +kernel
theorem dL_law_800 : decode cL_law 800 = .ok (.invokestatic 148, 3) := by decide +kernel
theorem dL_law_803 : decode cL_law 803 = .ok (.ldc 20, 2) := by decide +kernel
theorem dL_law_805 : decode cL_law 805 = .ok (.if_icmp .ne 31, 3) := by decide +kernel
theorem dL_law_808 : decode cL_law 808 = .ok (.aload_n 1, 1) := by decide +kernel
theorem dL_law_809 : decode cL_law 809 = .ok (.bipush 7, 2) := by decide +kernel
theorem dL_law_811 : decode cL_law 811 = .ok (.bipush 103, 2) := by decide +kernel
theorem dL_law_813 : decode cL_law 813 = .ok (.iconst 0, 1) := by decide +kernel
theorem dL_law_814 : decode cL_law 814 = .ok (.invokestatic 148, 3) := by decide +kernel
theorem dL_law_817 : decode cL_law 817 = .ok (.ldc 17, 2) := by decide +kernel
theorem dL_law_819 : decode cL_law 819 = .ok (.if_icmp .ne 17, 3) := by decide +kernel
theorem dL_law_822 : decode cL_law 822 = .ok (.aload_n 1, 1) := by decide +kernel
theorem dL_law_823 : decode cL_law 823 = .ok (.iconst 0, 1) := by decide +kernel
theorem dL_law_824 : decode cL_law 824 = .ok (.invokestatic 165, 3) := by decide +kernel
theorem dL_law_827 : decode cL_law 827 = .ok (.ldc 20, 2) := by decide +kernel
theorem dL_law_829 : decode cL_law 829 = .ok (.if_icmp .ne 7, 3) := by decide +kernel
theorem dL_law_832 : decode cL_law 832 = .ok (.iconst 1, 1) := by decide +kernel
theorem dL_law_833 : decode cL_law 833 = .ok (.goto 4, 3) := by decide +kernel
theorem dL_law_836 : decode cL_law 836 = .ok (.iconst 0, 1) := by decide +kernel
theorem dL_law_837 : decode cL_law 837 = .ok (.istore_n 3, 1) := by decide +kernel
theorem dL_law_838 : decode cL_law 838 = .ok (.iload_n 3, 1) := by decide +kernel
theorem dL_law_839 : decode cL_law 839 = .ok (.aload_n 1, 1) := by decide +kernel
theorem dL_law_840 : decode cL_law 840 = .ok (.iconst 0, 1) := by decide +kernel
theorem dL_law_841 : decode cL_law 841 = .ok (.iconst 0, 1) := by decide +kernel
theorem dL_law_842 : decode cL_law 842 = .ok (.invokestatic 163, 3) := by decide +kernel
theorem dL_law_845 : decode cL_law 845 = .ok (.bipush 110, 2) := by decide +kernel
theorem dL_law_847 : decode cL_law 847 = .ok (.if_icmp .ne 38, 3) := by decide +kernel
theorem dL_law_850 : decode cL_law 850 = .ok (.aload_n 1, 1) := by decide +kernel
theorem dL_law_851 : decode cL_law 851 = .ok (.iconst 0, 1) := by decide +kernel
theorem dL_law_852 : decode cL_law 852 = .ok (.aload_n 2, 1) := by decide +kernel
theorem dL_law_853 : decode cL_law 853 = .ok (.bipush 10, 2) := by decide +kernel
theorem dL_law_855 : decode cL_law 855 = .ok (.iaload, 1) := by decide +kernel
theorem dL_law_856 : decode cL_law 856 = .ok (.invokestatic 163, 3) := by decide +kernel
theorem dL_law_859 : decode cL_law 859 = .ok (.bipush 121, 2) := by decide +kernel
theorem dL_law_861 : decode cL_law 861 = .ok (.if_icmp .ne 24, 3) := by decide +kernel
theorem dL_law_864 : decode cL_law 864 = .ok (.aload_n 1, 1) := by decide +kernel
theorem dL_law_865 : decode cL_law 865 = .ok (.iconst 5, 1) := by decide +kernel
theorem dL_law_866 : decode cL_law 866 = .ok (.invokestatic 165, 3) := by decide +kernel
theorem dL_law_869 : decode cL_law 869 = .ok (.ifCond .ne 16, 3) := by decide +kernel
theorem dL_law_872 : decode cL_law 872 = .ok (.aload_n 1, 1) := by decide +kernel
theorem dL_law_873 : decode cL_law 873 = .ok (.iconst 5, 1) := by decide +kernel
theorem dL_law_874 : decode cL_law 874 = .ok (.invokestatic 165, 3) := by decide +kernel
theorem dL_law_877 : decode cL_law 877 = .ok (.iconst 1, 1) := by decide +kernel
theorem dL_law_878 : decode cL_law 878 = .ok (.if_icmp .ne 7, 3) := by decide +kernel
theorem dL_law_881 : decode cL_law 881 = .ok (.iconst 1, 1) := by decide +kernel
theorem dL_law_882 : decode cL_law 882 = .ok (.goto 4, 3) := by decide +kernel
theorem dL_law_885 : decode cL_law 885 = .ok (.iconst 0, 1) := by decide +kernel
theorem dL_law_886 : decode cL_law 886 = .ok (.iand, 1) := by decide +kernel
theorem dL_law_887 : decode cL_law 887 = .ok (.istore_n 3, 1) := by decide +kernel
theorem dL_law_888 : decode cL_law 888 = .ok (.iload_n 3, 1) := by decide +kernel
theorem dL_law_889 : decode cL_law 889 = .ok (.ifCond .eq 108, 3) := by decide +kernel
theorem dL_law_892 : decode cL_law 892 = .ok (.aload_n 1, 1) := by decide +kernel
theorem dL_law_893 : decode cL_law 893 = .ok (.iconst 5, 1) := by decide +kernel
theorem dL_law_894 : decode cL_law 894 = .ok (.iconst 0, 1) := by decide +kernel
theorem dL_law_895 : decode cL_law 895 = .ok (.invokestatic 151, 3) := by decide +kernel
theorem dL_law_898 : decode cL_law 898 = .ok (.ldc 20, 2) := by decide +kernel
theorem dL_law_900 : decode cL_law 900 = .ok (.if_icmp .ne 97, 3) := by decide +kernel
theorem dL_law_903 : decode cL_law 903 = .ok (.aload_n 1, 1) := by decide +kernel
theorem dL_law_904 : decode cL_law 904 = .ok (.iconst 5, 1) := by decide +kernel
theorem dL_law_905 : decode cL_law 905 = .ok (.iconst 0, 1) := by decide +kernel
theorem dL_law_906 : decode cL_law 906 = .ok (.invokestatic 153, 3) := by decide +kernel
theorem dL_law_909 : decode cL_law 909 = .ok (.bipush 84, 2) := by decide +kernel
theorem dL_law_911 : decode cL_law 911 = .ok (.if_icmp .ne 86, 3) := by decide +kernel
theorem dL_law_914 : decode cL_law 914 = .ok (.aload_n 1, 1) := by decide +kernel
theorem dL_law_915 : decode cL_law 915 = .ok (.iconst 5, 1) := by decide +kernel
theorem dL_law_916 : decode cL_law 916 = .ok (.iconst 0, 1) := by decide +kernel
theorem dL_law_917 : decode cL_law 917 = .ok (.iconst 1, 1) := by decide +kernel
theorem dL_law_918 : decode cL_law 918 = .ok (.invokestatic 134, 3) := by decide +kernel
theorem dL_law_921 : decode cL_law 921 = .ok (.bipush 84, 2) := by decide +kernel
theorem dL_law_923 : decode cL_law 923 = .ok (.if_icmp .ne 74, 3) := by decide +kernel
theorem dL_law_926 : decode cL_law 926 = .ok (.aload_n 1, 1) := by decide +kernel
theorem dL_law_927 : decode cL_law 927 = .ok (.iconst 5, 1) := by decide +kernel
theorem dL_law_928 : decode cL_law 928 = .ok (.iconst 0, 1) := by decide +kernel
theorem dL_law_929 : decode cL_law 929 = .ok (.invokestatic 137, 3) := by decide +kernel
theorem dL_law_932 : decode cL_law 932 = .ok (.bipush 84, 2) := by decide +kernel
theorem dL_law_934 : decode cL_law 934 = .ok (.if_icmp .ne 63, 3) := by decide +kernel
theorem dL_law_937 : decode cL_law 937 = .ok (.aload_n 1, 1) := by decide +kernel
theorem dL_law_938 : decode cL_law 938 = .ok (.iconst 5, 1) := by decide +kernel
theorem dL_law_939 : decode cL_law 939 = .ok (.iconst 0, 1) := by decide +kernel
theorem dL_law_940 : decode cL_law 940 = .ok (.iconst 1, 1) := by decide +kernel
theorem dL_law_941 : decode cL_law 941 = .ok (.bipush 7, 2) := by decide +kernel
theorem dL_law_943 : decode cL_law 943 = .ok (.invokestatic 131, 3) := by decide +kernel
theorem dL_law_946 : decode cL_law 946 = .ok (.bipush 84, 2) := by decide +kernel
theorem dL_law_948 : decode cL_law 948 = .ok (.if_icmp .ne 49, 3) := by decide +kernel
theorem dL_law_951 : decode cL_law 951 = .ok (.aload_n 1, 1) := by decide +kernel
theorem dL_law_952 : decode cL_law 952 = .ok (.iconst 5, 1) := by decide +kernel
theorem dL_law_953 : decode cL_law 953 = .ok (.invokestatic 139, 3) := by decide +kernel
theorem dL_law_956 : decode cL_law 956 = .ok (.bipush 84, 2) := by decide +kernel
theorem dL_law_958 : decode cL_law 958 = .ok (.if_icmp .ne 39, 3) := by decide +kernel
theorem dL_law_961 : decode cL_law 961 = .ok (.aload_n 1, 1) := by decide +kernel
theorem dL_law_962 : decode cL_law 962 = .ok (.iconst 5, 1) := by decide +kernel
theorem dL_law_963 : decode cL_law 963 = .ok (.iconst (-1), 1) := by decide +kernel
theorem dL_law_964 : decode cL_law 964 = .ok (.invokestatic 163, 3) := by decide +kernel
theorem dL_law_967 : decode cL_law 967 = .ok (.bipush 84, 2) := by decide +kernel
theorem dL_law_969 : decode cL_law 969 = .ok (.if_icmp .ne 28, 3) := by decide +kernel
theorem dL_law_972 : decode cL_law 972 = .ok (.aload_n 1, 1) := by decide +kernel
theorem dL_law_973 : decode cL_law 973 = .ok (.iconst 5, 1) := by decide +kernel
theorem dL_law_974 : decode cL_law 974 = .ok (.invokestatic 120, 3) := by decide +kernel
theorem dL_law_977 : decode cL_law 977 = .ok (.ldc 20, 2) := by decide +kernel
theorem dL_law_979 : decode cL_law 979 = .ok (.if_icmp .ne 18, 3) := by decide +kernel
theorem dL_law_982 : decode cL_law 982 = .ok (.aload_n 1, 1) := by decide +kernel
theorem dL_law_983 : decode cL_law 983 = .ok (.iconst 5, 1) := by decide +kernel
theorem dL_law_984 : decode cL_law 984 = .ok (.iconst 0, 1) := by decide +kernel
theorem dL_law_985 : decode cL_law 985 = .ok (.invokestatic 118, 3) := by decide +kernel
theorem dL_law_988 : decode cL_law 988 = .ok (.ldc 20, 2) := by decide +kernel
theorem dL_law_990 : decode cL_law 990 = .ok (.if_icmp .ne 7, 3) := by decide +kernel
theorem dL_law_993 : decode cL_law 993 = .ok (.iconst 1, 1) := by decide +kernel
theorem dL_law_994 : decode cL_law 994 = .ok (.goto 4, 3) := by decide +kernel
theorem dL_law_997 : decode cL_law 997 = .ok (.iconst 0, 1) := by decide +kernel
theorem dL_law_998 : decode cL_law 998 = .ok (.ireturn, 1) := by decide +kernel
abbrev vwCl : List vw_C := [(RJ0, TJ0, 2), (RJx00060, TJx00060, 6), (RX2, TX2, 3), (RX3, TX3, 19), (RX5, TX5, 8), (RX7, TX7, 9), (RX8, TX8, 2), (RX10, TX10, 3), (RX11, TX11, 4)]
end
section
/-! 02.state: what a state of the class is. A thing (an object or a proxy): target, chain, revoked, closed, answers, values, rights, key row, key count; the state: how many things, and each. Cells: b 0 the EventloopRow, b 1 Things, b 2 its row, b 3 JobRow, b 4 PromiseRow (b 5 Loop, b 6, b 7 rows that nobody reads); thing i at ad i 0, its arrays at ad i 1 .. ad i 4. -/
def ev_bi (x : Bool) : Int32 := if x then 1 else 0
theorem ev_bi_t : ev_bi true = 1 := rfl
theorem ev_bi_f : ev_bi false = 0 := rfl
abbrev ev_TH : Type := Option Nat × Option Nat × Bool × Bool × (Nat → Int32) × (Nat → Int32) × (Nat → Int32) × (Nat → Int32) × Nat
def ev_tg (t : ev_TH) : Option Nat := t.1
def ev_ch (t : ev_TH) : Option Nat := t.2.1
def ev_rv (t : ev_TH) : Bool := t.2.2.1
def ev_cs (t : ev_TH) : Bool := t.2.2.2.1
def ev_an (t : ev_TH) : Nat → Int32 := t.2.2.2.2.1
def ev_va (t : ev_TH) : Nat → Int32 := t.2.2.2.2.2.1
def ev_rg (t : ev_TH) : Nat → Int32 := t.2.2.2.2.2.2.1
def ev_ke (t : ev_TH) : Nat → Int32 := t.2.2.2.2.2.2.2.1
def ev_kc (t : ev_TH) : Nat := t.2.2.2.2.2.2.2.2
abbrev ev_ST : Type := Nat × (Nat → ev_TH)
def ev_up (st : ev_ST) (i : Nat) (t : ev_TH) : ev_ST := (st.1, fun j => if j = i then t else st.2 j)
theorem ev_up_1 (st : ev_ST) (i : Nat) (t : ev_TH) : (ev_up st i t).1 = st.1 := rfl
theorem ev_up_s (st : ev_ST) (i : Nat) (t : ev_TH) : (ev_up st i t).2 i = t := by simp [ev_up]
theorem ev_up_n (st : ev_ST) {i j : Nat} (t : ev_TH) (h : j ≠ i) : (ev_up st i t).2 j = st.2 j := by simp [ev_up, h]
theorem ev_up_uu (st : ev_ST) (i : Nat) (t t' : ev_TH) : ev_up (ev_up st i t) i t' = ev_up st i t' := by
  unfold ev_up
  refine Prod.ext rfl ?_
  funext j
  by_cases h : j = i <;> simp [h]
theorem ev_up_id (st : ev_ST) (i : Nat) : ev_up st i (st.2 i) = st := by
  unfold ev_up
  refine Prod.ext rfl ?_
  funext j
  by_cases h : j = i <;> simp [h]
def ev_rf (ad : Nat → Nat → Nat) (o : Option Nat) : Value := va_rf (o.map fun j => ad j 0)
def ev_tf (ad : Nat → Nat → Nat) (i : Nat) (t : ev_TH) : List Value := [ev_rf ad (ev_tg t), .ref (ad i 1), .int (ev_bi (ev_rv t)), ev_rf ad (ev_ch t), .int (ev_bi (ev_cs t)), .ref (ad i 2), .ref (ad i 3), .ref (ad i 4), .int (nI (ev_kc t))]
def ev_cell (cI : ClassId) (ad : Nat → Nat → Nat) (i : Nat) (t : ev_TH) (c : Nat) : Nat × va_E := match c with
  | 0 => (ad i 0, .inr (5, ev_tf ad i t))
  | 1 => (ad i 1, .inl (cI, 4, .inl (ev_an t)))
  | 2 => (ad i 2, .inl (cI, 20, .inl (ev_va t)))
  | 3 => (ad i 3, .inl (cI, 20, .inl (ev_rg t)))
  | _ => (ad i 4, .inl (cI, 20, .inl (ev_ke t)))
def ev_rw (ad : Nat → Nat → Nat) (n : Nat) : Nat → Option Nat := fun j => if j < n then some (ad j 0) else none
def ev_top (cO : ClassId) (b : Nat → Nat) (ad : Nat → Nat → Nat) (n : Nat) : va_W := [(b 0, .inr (8, [.ref (b 1), .ref (b 3), .ref (b 4), .ref (b 5)])), (b 1, .inr (6, [.ref (b 2), .int (nI n)])), (b 2, .inl (cO, 12, .inr (.inr (.inr (.inr (ev_rw ad n)))))), (b 3, .inr (2, [.null, .null, .null])), (b 4, .inr (4, [.ref (b 6), .int 0, .ref (b 7), .int 0, .int 0, .int 0, .int 0, .ref (b 3)]))]
def ev_ths (cI : ClassId) (ad : Nat → Nat → Nat) (st : ev_ST) : va_W := (List.range (5 * st.1)).map fun j => ev_cell cI ad (j / 5) (st.2 (j / 5)) (j % 5)
def ev_wl (cI cO : ClassId) (b : Nat → Nat) (ad : Nat → Nat → Nat) (st : ev_ST) : va_W := ev_top cO b ad st.1 ++ ev_ths cI ad st
theorem ev_ths_at (cI : ClassId) (ad : Nat → Nat → Nat) (st : ev_ST) {i c : Nat} (hi : i < st.1) (hc : c < 5) : (ev_ths cI ad st)[5 * i + c]? = some (ev_cell cI ad i (st.2 i) c) := by
  have h1 : (5 * i + c) / 5 = i := by omega
  have h2 : (5 * i + c) % 5 = c := by omega
  have h3 : 5 * i + c < 5 * st.1 := by omega
  unfold ev_ths
  rw [List.getElem?_map, List.getElem?_range h3]
  simp only [Option.map_some, h1, h2]
theorem ev_wl_at (cI cO : ClassId) (b : Nat → Nat) (ad : Nat → Nat → Nat) (st : ev_ST) {i c : Nat} (hi : i < st.1) (hc : c < 5) : (ev_wl cI cO b ad st)[5 + (5 * i + c)]? = some (ev_cell cI ad i (st.2 i) c) := by
  unfold ev_wl
  rw [List.getElem?_append_right (by simp [ev_top])]
  rw [show 5 + (5 * i + c) - (ev_top cO b ad st.1).length = 5 * i + c from by simp [ev_top]]
  exact ev_ths_at cI ad st hi hc
theorem ev_wl_set (cI cO : ClassId) (b : Nat → Nat) (ad : Nat → Nat → Nat) (st : ev_ST) {i c : Nat} (hi : i < st.1) (hc : c < 5) (t : ev_TH) (h : ∀ k, k < 5 → k ≠ c → ev_cell cI ad i t k = ev_cell cI ad i (st.2 i) k) : (ev_wl cI cO b ad st).set (5 + (5 * i + c)) (ev_cell cI ad i t c) = ev_wl cI cO b ad (ev_up st i t) := by
  have hlen : (ev_top cO b ad st.1).length = 5 := rfl
  unfold ev_wl
  rw [List.set_append_right _ _ (by rw [hlen]; omega), hlen, show 5 + (5 * i + c) - 5 = 5 * i + c from by omega]
  rw [ev_up_1]
  congr 1
  refine List.ext_getElem? fun k => ?_
  unfold ev_ths
  rw [List.getElem?_set, List.getElem?_map, List.getElem?_map, List.length_map, List.length_range, ev_up_1]
  by_cases hk : k < 5 * st.1
  · rw [List.getElem?_range hk]
    simp only [Option.map_some]
    by_cases he : 5 * i + c = k
    · have h1 : k / 5 = i := by omega
      have h2 : k % 5 = c := by omega
      rw [if_pos he, if_pos (by omega), h1, h2, ev_up_s]
    · rw [if_neg he]
      by_cases h1 : k / 5 = i
      · have h2 : k % 5 ≠ c := by omega
        rw [h1, ev_up_s, h (k % 5) (by omega) h2]
      · rw [ev_up_n st t h1]
  · rw [if_neg (by omega), List.getElem?_eq_none (by simp; omega)]
    rfl
theorem ev_wl_addr (cI cO : ClassId) (b : Nat → Nat) (ad : Nat → Nat → Nat) (st st' : ev_ST) (h : st.1 = st'.1) : (ev_wl cI cO b ad st).map Prod.fst = (ev_wl cI cO b ad st').map Prod.fst := by
  unfold ev_wl ev_ths
  rw [h, List.map_append, List.map_append, List.map_map, List.map_map]
  congr 1
  refine List.map_congr_left fun j _ => ?_
  show (ev_cell cI ad (j / 5) (st.2 (j / 5)) (j % 5)).1 = (ev_cell cI ad (j / 5) (st'.2 (j / 5)) (j % 5)).1
  have : j % 5 < 5 := Nat.mod_lt _ (by decide)
  generalize j % 5 = z at this
  rcases z with _ | _ | _ | _ | _ <;> rfl
theorem ev_D_of {A : Nat → Prop} {w w' : va_W} (h : w.map Prod.fst = w'.map Prod.fst) (hD : va_D A w) : va_D A w' := by
  have key : ∀ (k : Nat) (q : Nat × va_E), w'[k]? = some q → ∃ q0, w[k]? = some q0 ∧ q0.1 = q.1 := by
    intro k q hk
    have h1 : (w.map Prod.fst)[k]? = some q.1 := by rw [h, List.getElem?_map, hk]; rfl
    rw [List.getElem?_map] at h1
    cases hw : w[k]? with
    | none => rw [hw] at h1; cases h1
    | some q0 => rw [hw] at h1; exact ⟨q0, rfl, Option.some.inj h1⟩
  refine ⟨fun i j x y hi hj hxy => ?_, fun k q hk => ?_⟩
  · obtain ⟨x0, h1, h2⟩ := key i x hi
    obtain ⟨y0, h3, h4⟩ := key j y hj
    exact hD.1 i j x0 y0 h1 h3 (h2.trans (hxy.trans h4.symm))
  · obtain ⟨q0, h1, h2⟩ := key k q hk
    rw [← h2]
    exact hD.2 k q0 h1
theorem ev_D_up {A : Nat → Prop} {cI cO : ClassId} {b : Nat → Nat} {ad : Nat → Nat → Nat} {st : ev_ST} (hD : va_D A (ev_wl cI cO b ad st)) (i : Nat) (t : ev_TH) : va_D A (ev_wl cI cO b ad (ev_up st i t)) := ev_D_of (ev_wl_addr cI cO b ad st _ rfl) hD
/-- the heap holds the state -/
def ev_P (D : va_G) (cI cO : ClassId) (b : Nat → Nat) (ad : Nat → Nat → Nat) (st : ev_ST) (H : Heap) : Prop := va_P D vwCl (ev_wl cI cO b ad st) H
abbrev ev_ty (cI cO : ClassId) : List (ClassId × FieldType) := [(cI, .int), (cO, .object "EventloopRow$Thing")]
def ev_Pc (D : va_G) (cI cO : ClassId) (Hp : Heap → Prop) (av : List Value) : Array Value → State → Prop := fun v U => v = av.toArray ∧ Hp U.heap ∧ va_K D vwCl (ev_ty cI cO) U
theorem ev_blind {D : va_G} {cI cO : ClassId} {Hp : Heap → Prop} {av : List Value} : FrameBlind (ev_Pc D cI cO Hp av) := fun a U g mk q => ⟨q.1, q.2.1, va_K.moved (u := U) (U := U.calling g mk a) (Vm.Alike.refl U.vm) q.2.2⟩
def ev_no : Addr → Prop := fun _ => False
/-- it returns v and leaves the heap as it is -/
def ev_QV (v : Option Value) : Array Value → State → Outcome → State → Prop := fun _ st o t => o = .returned v ∧ t.heap = st.heap
/-- it returns v, and the heap holds what Hp says; what isn't in A stays -/
def ev_QM (v : Option Value) (Hp : Heap → Prop) (A : Nat → Prop) : Array Value → State → Outcome → State → Prop := fun _ st o t => o = .returned v ∧ Hp t.heap ∧ va_F A st t
theorem ev_body {l : Launch} {D : va_G} {cI cO : ClassId} {y : MethodName} {ws ws' : List Cond} {rm : Room} {Hp : Heap → Prop} {av : List Value} {Qc : Array Value → State → Outcome → State → Prop} {mc ms : Nat} {free : Addr → Prop} {cc : ByteArray} {maxL : Nat} {ret : Option FieldType}
    (hy : plainName y.cls = true) (hw : ws = Cond.code y cc maxL ret :: ws') (hlen : (lg_sl av).length ≤ maxL)
    (body : ∀ (p : Program) (e : Env) (s : State) (m : MethodId) (args : Array Value) (below : List Frame) (meth : Method) (c : Code), p.tables.exec = Jvm.exec → c.code = cc → meth.sig.returnType = ret → c.maxLocals = maxL → s.vm.findClass y.cls = some m.cls → (∀ w ∈ ws, w.before args s = true) → meth.locks = false → meth.name = y.name → Hp s.heap → va_K D vwCl (ev_ty cI cO) s → ∀ ls : Array Slot, lv_has ls maxL (lv_args 0 av) →
      W p l e rm s m args below meth c s.heap [] 0 0 (MQ below Qc args s mc ms free) (F0 m 0 ls [])) : Met l y ws rm (ev_Pc D cI cO Hp av) Qc mc ms free := by
  refine Met.ofW (cc := cc) (maxL := maxL) (ret := ret) hy hw ?_
  intro p e s m args below meth c s₁ B hml hv
  obtain ⟨rfl, hH, hK⟩ := hv
  rw [lg_entry_eq]
  exact body p e s m _ below meth c B.exec B.bytes B.returns hml (findClass_of_methodNamed B.named) (atoms_spec (ws := ws) B.pre) B.notSynchronized (name_of_methodNamed B.named B.method).1 hH hK _ (lv_entry av (n := maxL) hlen)
section EVR
variable {p : Program} {l : Launch} {e : Env} {R : Room} {s : State} {m : MethodId} {args : Array Value} {below : List Frame} {meth : Method} {c : Code} {H : Heap} {locs : List Loc} {cells slots : Nat} {Q : State → Prop}
variable {cc : ByteArray} {pc : Nat} {ls : Array Slot} {rest : List Value} {D : va_G} {cI cO : ClassId} {b : Nat → Nat} {ad : Nat → Nat → Nat} {st : ev_ST} {A : Nat → Prop} {H0 : Heap} {Ts : List Cond} {own : String}
/-- a call of an object's method that leaves the heap as it is -/
theorem ev_cv {y : MethodName} {bytes : ByteArray} {maxL nL n index : Nat} {ret : Option FieldType} {ws : List Cond} {rm : Room} {Hp : Heap → Prop} {v : Value} {C : String} {a : Nat} {As : List Value} (S : CallFix p m c cc nL s args Ts own)
    (hM : Met l y ws rm (ev_Pc D cI cO Hp (.ref a :: As)) (ev_QV (some v)) 0 0 ev_no) (cw : CallW R s args own C index y bytes maxL ret ws rm 0 0 n) (hH : Hp H) (hK : va_K D vwCl (ev_ty cI cO) s)
    (hr : ∃ cellB : Cell, H[a]? = some cellB ∧ cellB.vm.isStatics = false ∧ s.vm.findClass C = some cellB.cls) (hn : As.length = n) (hsize : ls.size = nL) (hW : (rest.map fun v => v.category).sum ≤ 8) (hdg : decode cc pc = .ok (.invokevirtual index, 3)) (hf : cells + 0 ≤ R.cells ∧ slots + 0 ≤ R.slots)
    (kk : W p l e R s m args below meth c H locs cells slots Q (F0 m (pc + 3) ls (v :: rest))) : W p l e R s m args below meth c H locs cells slots Q (F0 m pc ls (As.reverse ++ .ref a :: rest)) := by
  have hr' := W.runV (e := e) (below := below) (meth := meth) (g := F0 m pc ls (As.reverse ++ .ref a :: rest)) (locs := locs) (rest := rest) S hM cw ⟨ev_blind, hr, fun U hU hW => ⟨rfl, by rw [hU]; exact hH, va_K.moved hW.alike hK⟩⟩ rfl hn hsize rfl (lv_room hW) hdg hf
  intro T hT X
  obtain ⟨v', st₀, t, T', L, h0, X', hL, e1, ⟨hv, hh⟩, st⟩ := hr' T hT X
  cases hv
  obtain ⟨t2, a1, b1⟩ := kk T' (by rw [e1, hh, h0]) (Stand.forget X' (fun q h => (hL q h).elim))
  exact ⟨t2, st t2 a1, b1⟩
/-- a call of a static method that leaves the heap as it is -/
theorem ev_cst {y : MethodName} {bytes : ByteArray} {maxL nL n index : Nat} {ret : Option FieldType} {ws : List Cond} {rm : Room} {Hp : Heap → Prop} {v : Value} {As : List Value} (S : CallFix p m c cc nL s args Ts own)
    (hM : Met l y ws rm (ev_Pc D cI cO Hp As) (ev_QV (some v)) 0 0 ev_no) (cw : CallB R s args own index y bytes maxL ret ws rm 0 0 n ∧ (Cond.static y).before args s = true) (hH : Hp H) (hK : va_K D vwCl (ev_ty cI cO) s)
    (hn : As.length = n) (hsize : ls.size = nL) (hW : (rest.map fun v => v.category).sum ≤ 8) (hdg : decode cc pc = .ok (.invokestatic index, 3)) (hf : cells + 0 ≤ R.cells ∧ slots + 0 ≤ R.slots)
    (kk : W p l e R s m args below meth c H locs cells slots Q (F0 m (pc + 3) ls (v :: rest))) : W p l e R s m args below meth c H locs cells slots Q (F0 m pc ls (As.reverse ++ rest)) := by
  have hr' := W.runS (e := e) (below := below) (meth := meth) (g := F0 m pc ls (As.reverse ++ rest)) (locs := locs) (rest := rest) S hM cw ⟨ev_blind, fun U hU hW => ⟨rfl, by rw [hU]; exact hH, va_K.moved hW.alike hK⟩⟩ rfl hn hsize rfl (lv_room hW) hdg hf
  intro T hT X
  obtain ⟨v', st₀, t, T', L, h0, X', hL, e1, ⟨hv, hh⟩, st⟩ := hr' T hT X
  cases hv
  obtain ⟨t2, a1, b1⟩ := kk T' (by rw [e1, hh, h0]) (Stand.forget X' (fun q h => (hL q h).elim))
  exact ⟨t2, st t2 a1, b1⟩
/-- a call of an object's method that writes within A -/
theorem ev_mv {y : MethodName} {bytes : ByteArray} {maxL nL n index mc ms : Nat} {ret : Option FieldType} {ws : List Cond} {rm : Room} {Hp Hp' : Heap → Prop} {v : Option Value} {C : String} {a : Nat} {As : List Value} (S : CallFix p m c cc nL s args Ts own)
    (hM : Met l y ws rm (ev_Pc D cI cO Hp (.ref a :: As)) (ev_QM v Hp' A) mc ms A) (cw : CallW R s args own C index y bytes maxL ret ws rm mc ms n) (hH : Hp H) (hK : va_K D vwCl (ev_ty cI cO) s) (hS : va_S A H0 H locs)
    (hr : ∃ cellB : Cell, H[a]? = some cellB ∧ cellB.vm.isStatics = false ∧ s.vm.findClass C = some cellB.cls) (hn : As.length = n) (hsize : ls.size = nL) (hW : (rest.map fun v => v.category).sum ≤ 8) (hdg : decode cc pc = .ok (.invokevirtual index, 3)) (hf : cells + mc ≤ R.cells ∧ slots + ms ≤ R.slots)
    (kk : ∀ (H1 : Heap) (locs1 : List Loc), Hp' H1 → H.size ≤ H1.size → (∀ q : Nat, q < H.size → ¬ A q → H1[q]? = H[q]?) → va_S A H0 H1 locs1 → W p l e R s m args below meth c H1 locs1 (cells + mc) (slots + ms) Q (F0 m (pc + 3) ls (v.toList ++ rest))) : W p l e R s m args below meth c H locs cells slots Q (F0 m pc ls (As.reverse ++ .ref a :: rest)) := by
  have hr' := W.runV (e := e) (below := below) (meth := meth) (g := F0 m pc ls (As.reverse ++ .ref a :: rest)) (locs := locs) (rest := rest) S hM cw ⟨ev_blind, hr, fun U hU hW => ⟨rfl, by rw [hU]; exact hH, va_K.moved hW.alike hK⟩⟩ rfl hn hsize rfl (lv_room hW) hdg hf
  intro T hT X
  obtain ⟨v', st₀, t, T', L, h0, X', hL, e1, ⟨hv, hp, hz, hk⟩, st⟩ := hr' T hT X
  cases hv
  rw [h0] at hz hk
  obtain ⟨t2, a1, b1⟩ := kk T'.heap (locs ++ L) (by rw [e1]; exact hp) (by rw [e1]; exact hz) (fun q h1 h2 => by rw [e1]; exact hk q h1 h2)
    ⟨Nat.le_trans hS.1 (by rw [e1]; exact hz), fun q h1 h2 => by rw [e1, hk q (Nat.lt_of_lt_of_le h1 hS.1) h2]; exact hS.2.1 q h1 h2, fun q hq => by
      rcases List.mem_append.mp hq with h | h
      · exact hS.2.2 q h
      · exact hL q h⟩ T' rfl X'
  exact ⟨t2, st t2 a1, b1⟩
end EVR
theorem ev_own7 : ∀ k, k < 9 → (TX7 k).1 = "EventloopRow$Thing" := by decide +kernel
section EVS
variable {p : Program} {l : Launch} {e : Env} {R : Room} {s : State} {m : MethodId} {args : Array Value} {below : List Frame} {meth : Method} {c : Code} {H : Heap} {locs : List Loc} {cells slots : Nat} {Q : State → Prop}
variable {cc : ByteArray} {pc : Nat} {ls : Array Slot} {rest : List Value} {D : va_G} {cI cO : ClassId} {b : Nat → Nat} {ad : Nat → Nat → Nat} {st : ev_ST} {A : Nat → Prop} {H0 : Heap} {Ts : List Cond} {own : String}
/-- a thing's cell, as a callee's receiver -/
theorem ev_recv (hK : va_K D vwCl (ev_ty cI cO) s) (hP : ev_P D cI cO b ad st H) {i : Nat} (hi : i < st.1) : ∃ cellB : Cell, H[ad i 0]? = some cellB ∧ cellB.vm.isStatics = false ∧ s.vm.findClass RX7 = some cellB.cls :=
  va_recv (q := (RX7, TX7, 9)) hK hP (ci := 5) rfl (ev_wl_at cI cO b ad st hi (c := 0) (by decide))
theorem ev_recvT (hK : va_K D vwCl (ev_ty cI cO) s) (hP : ev_P D cI cO b ad st H) : ∃ cellB : Cell, H[b 1]? = some cellB ∧ cellB.vm.isStatics = false ∧ s.vm.findClass RX8 = some cellB.cls :=
  va_recv (q := (RX8, TX8, 2)) (q0 := 1) hK hP (ci := 6) rfl rfl
/-- a field of a thing -/
theorem ev_get (hx : p.tables.exec = Jvm.exec) (hb : c.code = cc) (hts : ∀ w ∈ Ts, w.before args s = true) (hin : ∀ w ∈ wsX70, w ∈ Ts) (hown : s.vm.findClass own = some m.cls) (hK : va_K D vwCl (ev_ty cI cO) s) (hP : ev_P D cI cO b ad st H) {i : Nat} {t : ev_TH} (hi : i < st.1) (ht : st.2 i = t) (k : Nat) (hk : k < 9) {index : Nat} (hlink : (Cond.fieldLink own index "EventloopRow$Thing" (TX7 k).2.1 (TX7 k).2.2.1).before args s = true) {v : Value} (hv : (ev_tf ad i t)[k]? = some v) (hdg : decode cc pc = .ok (.getfield index, 3))
    (kk : W p l e R s m args below meth c H locs cells slots Q (F0 m (pc + 3) ls (v :: rest))) : W p l e R s m args below meth c H locs cells slots Q (F0 m pc ls (.ref (ad i 0) :: rest)) :=
  va_get (D := D) (ci := 5) (C := RX7) (T := TX7) (N := 9) hx hb hts hin hown hK hP (5 + (5 * i + 0)) (ev_wl_at cI cO b ad st hi (c := 0) (by decide)) rfl k hk hlink (fun _ h => by rw [ev_own7 k hk] at h; exact h) (by rw [ht]; exact hv) hdg kk
theorem ev_foc {i : Nat} (hP : ev_P D cI cO b ad st H) : ev_P D cI cO b ad (ev_up st i (st.2 i)) H := by rw [ev_up_id]; exact hP
theorem ev_put (hx : p.tables.exec = Jvm.exec) (hb : c.code = cc) (hts : ∀ w ∈ Ts, w.before args s = true) (hin : ∀ w ∈ wsX70, w ∈ Ts) (hown : s.vm.findClass own = some m.cls) (hK : va_K D vwCl (ev_ty cI cO) s) {i : Nat} {t : ev_TH} (hP : ev_P D cI cO b ad (ev_up st i t) H) (hD : va_D A (ev_wl cI cO b ad (ev_up st i t))) (hS : va_S A H0 H locs) (hi : i < st.1) (k : Nat) (hk : k < 9) {index : Nat} (hlink : (Cond.fieldLink own index "EventloopRow$Thing" (TX7 k).2.1 (TX7 k).2.2.1).before args s = true) (hfin : (TX7 k).2.2.2 = false) {v : Value} (hn : narrow (tyX7 k) v = v) (hfit : fits (tyX7 k) v = true) (t2 : ev_TH) (ht : (ev_tf ad i t).set k v = ev_tf ad i t2) (h2 : ∀ z, 0 < z → z < 5 → ev_cell cI ad i t2 z = ev_cell cI ad i t z) (hdg : decode cc pc = .ok (.putfield index, 3))
    (kk : ∀ (H1 : Heap) (locs1 : List Loc), ev_P D cI cO b ad (ev_up st i t2) H1 → va_D A (ev_wl cI cO b ad (ev_up st i t2)) → va_S A H0 H1 locs1 → W p l e R s m args below meth c H1 locs1 cells slots Q (F0 m (pc + 3) ls rest)) : W p l e R s m args below meth c H locs cells slots Q (F0 m pc ls (v :: .ref (ad i 0) :: rest)) := by
  have hs : (ev_up st i t).2 i = t := ev_up_s st i t
  have he : (ev_wl cI cO b ad (ev_up st i t)).set (5 + (5 * i + 0)) (ad i 0, .inr (5, (ev_tf ad i ((ev_up st i t).2 i)).set k v)) = ev_wl cI cO b ad (ev_up st i t2) := by
    rw [hs, ht, ← ev_up_uu st i t t2]
    exact ev_wl_set cI cO b ad (ev_up st i t) hi (c := 0) (by decide) t2 (fun z h1 h3 => by rw [hs]; exact h2 z (Nat.pos_of_ne_zero h3) h1)
  refine va_put (D := D) (ci := 5) (v := v) (ty := tyX7 k) (C := RX7) (T := TX7) (N := 9) hx hb hts hin tyX7 tyX7_ok nmX7 hown hK hP hD hS (5 + (5 * i + 0)) (ev_wl_at cI cO b ad (ev_up st i t) hi (c := 0) (by decide)) rfl k hk hlink (fun _ h => by rw [ev_own7 k hk] at h; exact h) hfin (tyX7_ok k hk) hn hfit hk hdg (fun H1 locs1 hP1 hD1 hS1 => ?_)
  rw [he] at hP1 hD1
  exact kk H1 locs1 hP1 hD1 hS1
/-- an element of a thing's row -/
theorem ev_ald (hx : p.tables.exec = Jvm.exec) (hb : c.code = cc) (hK : va_K D vwCl (ev_ty cI cO) s) (hP : ev_P D cI cO b ad st H) {i : Nat} {t : ev_TH} (hi : i < st.1) (ht : st.2 i = t) (z : Nat) (hz : z < 5) {n : Nat} {f : Nat → Int32} (hc : ev_cell cI ad i t z = (ad i z, .inl (cI, n, .inl f))) (j : Nat) (hj : j < n) (hn : n < 2 ^ 31) (hdg : decode cc pc = .ok (.iaload, 1))
    (kk : W p l e R s m args below meth c H locs cells slots Q (F0 m (pc + 1) ls (.int (f j) :: rest))) : W p l e R s m args below meth c H locs cells slots Q (F0 m pc ls (.int (nI j) :: .ref (ad i z) :: rest)) := by
  subst ht
  refine va_iald hx hb hK hP (5 + (5 * i + z)) 0 ((ev_wl_at cI cO b ad st hi hz).trans (congrArg some hc)) rfl (vp_in_nI hj hn) hdg ?_
  rw [nI_clamp (by omega)]
  exact kk
theorem ev_ast (hx : p.tables.exec = Jvm.exec) (hb : c.code = cc) (hK : va_K D vwCl (ev_ty cI cO) s) {i : Nat} {t : ev_TH} (hP : ev_P D cI cO b ad (ev_up st i t) H) (hD : va_D A (ev_wl cI cO b ad (ev_up st i t))) (hS : va_S A H0 H locs) (hi : i < st.1) (z : Nat) (hz : z < 5) {n : Nat} {f : Nat → Int32} (hc : ev_cell cI ad i t z = (ad i z, .inl (cI, n, .inl f))) (j : Nat) (hj : j < n) (hn : n < 2 ^ 31) {x : Int32} (t2 : ev_TH) (ht : ev_cell cI ad i t2 z = (ad i z, .inl (cI, n, .inl (upd f j x)))) (h2 : ∀ k, k < 5 → k ≠ z → ev_cell cI ad i t2 k = ev_cell cI ad i t k) (hdg : decode cc pc = .ok (.iastore, 1))
    (kk : ∀ (H1 : Heap) (locs1 : List Loc), ev_P D cI cO b ad (ev_up st i t2) H1 → va_D A (ev_wl cI cO b ad (ev_up st i t2)) → va_S A H0 H1 locs1 → W p l e R s m args below meth c H1 locs1 cells slots Q (F0 m (pc + 1) ls rest)) : W p l e R s m args below meth c H locs cells slots Q (F0 m pc ls (.int x :: .int (nI j) :: .ref (ad i z) :: rest)) := by
  have hs : (ev_up st i t).2 i = t := ev_up_s st i t
  refine va_iast hx hb hK hP hD hS (5 + (5 * i + z)) 0 ((ev_wl_at cI cO b ad (ev_up st i t) hi hz).trans (congrArg some (by rw [hs]; exact hc))) rfl (vp_in_nI hj hn) hdg (fun H1 locs1 hP1 hD1 hS1 => ?_)
  rw [nI_clamp (by omega), ← ht, ev_wl_set cI cO b ad (ev_up st i t) hi hz t2 (fun k h1 h3 => by rw [hs]; exact h2 k h1 h3), ev_up_uu] at hP1 hD1
  exact kk H1 locs1 hP1 hD1 hS1
/-- Things' row and count -/
theorem ev_row (hx : p.tables.exec = Jvm.exec) (hb : c.code = cc) (hts : ∀ w ∈ Ts, w.before args s = true) (hin : ∀ w ∈ wsX80, w ∈ Ts) (hown : s.vm.findClass own = some m.cls) (hK : va_K D vwCl (ev_ty cI cO) s) (hP : ev_P D cI cO b ad st H) (k : Nat) (hk : k < 2) {index : Nat} (hlink : (Cond.fieldLink own index "EventloopRow$Things" (TX8 k).2.1 (TX8 k).2.2.1).before args s = true) {v : Value} (hv : ([.ref (b 2), .int (nI st.1)] : List Value)[k]? = some v) (hdg : decode cc pc = .ok (.getfield index, 3))
    (kk : W p l e R s m args below meth c H locs cells slots Q (F0 m (pc + 3) ls (v :: rest))) : W p l e R s m args below meth c H locs cells slots Q (F0 m pc ls (.ref (b 1) :: rest)) :=
  va_get (D := D) (ci := 6) (C := RX8) (T := TX8) (N := 2) hx hb hts hin hown hK hP 1 rfl rfl k hk hlink (fun _ h => by rcases k with _ | _ | k <;> first | exact h | omega) hv hdg kk
theorem ev_rld (hx : p.tables.exec = Jvm.exec) (hb : c.code = cc) (hK : va_K D vwCl (ev_ty cI cO) s) (hP : ev_P D cI cO b ad st H) (j : Nat) (hj : j < 12) (hi : j < st.1) (hdg : decode cc pc = .ok (.aaload, 1))
    (kk : W p l e R s m args below meth c H locs cells slots Q (F0 m (pc + 1) ls (.ref (ad j 0) :: rest))) : W p l e R s m args below meth c H locs cells slots Q (F0 m pc ls (.int (nI j) :: .ref (b 2) :: rest)) := by
  refine va_aldq hx hb hK hP 2 1 (C := "EventloopRow$Thing") (f := ev_rw ad st.1) rfl rfl (vp_in_nI hj (by decide)) hdg ?_
  rw [nI_clamp (by omega), show ev_rw ad st.1 j = some (ad j 0) from if_pos hi]
  exact kk
end EVS
section EVN
/-! rows over numbers that are nI of a natural number -/
variable {p : Program} {l : Launch} {e : Env} {R : Room} {s : State} {m : MethodId} {args : Array Value} {below : List Frame} {meth : Method} {c : Code} {H : Heap} {locs : List Loc} {cells slots : Nat} {Q : State → Prop}
variable {cc : ByteArray} {pc : Nat} {ls : Array Slot} {rest : List Value}
theorem en_eq {x y : Int32} (h : x = y) (k : W p l e R s m args below meth c H locs cells slots Q (F0 m pc ls (.int y :: rest))) : W p l e R s m args below meth c H locs cells slots Q (F0 m pc ls (.int x :: rest)) := by rw [h]; exact k
theorem en_iadd (hx : p.tables.exec = Jvm.exec) (hb : c.code = cc) {a b : Nat} (n : Nat) (hn : a + b = n) (hdg : decode cc pc = .ok (.iadd, 1)) (k : W p l e R s m args below meth c H locs cells slots Q (F0 m (pc + 1) ls (.int (nI n) :: rest))) : W p l e R s m args below meth c H locs cells slots Q (F0 m pc ls (.int (nI b) :: .int (nI a) :: rest)) := by
  refine lv_iadd hx hb hdg ?_
  rw [nI_add, hn]; exact k
theorem en_isub (hx : p.tables.exec = Jvm.exec) (hb : c.code = cc) {a b : Nat} (n : Nat) (hn : n + b = a) (hdg : decode cc pc = .ok (.isub, 1)) (k : W p l e R s m args below meth c H locs cells slots Q (F0 m (pc + 1) ls (.int (nI n) :: rest))) : W p l e R s m args below meth c H locs cells slots Q (F0 m pc ls (.int (nI b) :: .int (nI a) :: rest)) := by
  refine lv_isub hx hb hdg ?_
  rw [pk_sub (by omega), show a - b = n from by omega]; exact k
theorem en_imul (hx : p.tables.exec = Jvm.exec) (hb : c.code = cc) {a b : Nat} (n : Nat) (hn : a * b = n) (hdg : decode cc pc = .ok (.imul, 1)) (k : W p l e R s m args below meth c H locs cells slots Q (F0 m (pc + 1) ls (.int (nI n) :: rest))) : W p l e R s m args below meth c H locs cells slots Q (F0 m pc ls (.int (nI b) :: .int (nI a) :: rest)) := by
  refine lv_imul hx hb hdg ?_
  rw [pk_mul, hn]; exact k
theorem en_lt {a b : Nat} (ha : a < 2 ^ 31) (hb : b < 2 ^ 31) : nI a < nI b ↔ a < b := nI_ltI ha hb
end EVN
section EVM
variable {p : Program} {l : Launch} {e : Env} {R : Room} {s : State} {m : MethodId} {args : Array Value} {below : List Frame} {meth : Method} {c : Code} {H : Heap} {locs : List Loc} {cells slots : Nat} {Q : State → Prop}
variable {cc : ByteArray} {pc : Nat} {ls : Array Slot} {rest : List Value}
theorem en_if_eq (hx : p.tables.exec = Jvm.exec) (hb : c.code = cc) {a : Nat} {off : Int} (tgt : Nat) (ha : a < 2 ^ 31) (hdg : decode cc pc = .ok (.ifCond .eq off, 3)) (ht : (pc : Int) + off = (tgt : Int))
    (kt : a = 0 → W p l e R s m args below meth c H locs cells slots Q (F0 m tgt ls rest)) (kf : ¬ a = 0 → W p l e R s m args below meth c H locs cells slots Q (F0 m (pc + 3) ls rest)) : W p l e R s m args below meth c H locs cells slots Q (F0 m pc ls (.int (nI a) :: rest)) :=
  lv_if_eq hx hb hdg ht (fun h => kt ((nI_eq ha (by decide)).mp (h.trans nI_0.symm))) (fun h => kf (fun z => h (by rw [z, nI_0])))
theorem en_if_ne (hx : p.tables.exec = Jvm.exec) (hb : c.code = cc) {a : Nat} {off : Int} (tgt : Nat) (ha : a < 2 ^ 31) (hdg : decode cc pc = .ok (.ifCond .ne off, 3)) (ht : (pc : Int) + off = (tgt : Int))
    (kt : ¬ a = 0 → W p l e R s m args below meth c H locs cells slots Q (F0 m tgt ls rest)) (kf : a = 0 → W p l e R s m args below meth c H locs cells slots Q (F0 m (pc + 3) ls rest)) : W p l e R s m args below meth c H locs cells slots Q (F0 m pc ls (.int (nI a) :: rest)) :=
  lv_if_ne hx hb hdg ht (fun h => kt (fun z => h (by rw [z, nI_0]))) (fun h => kf ((nI_eq ha (by decide)).mp (h.trans nI_0.symm)))
theorem en_if_lt (hx : p.tables.exec = Jvm.exec) (hb : c.code = cc) {a : Nat} {off : Int} (tgt : Nat) (ha : a < 2 ^ 31) (hdg : decode cc pc = .ok (.ifCond .lt off, 3)) (ht : (pc : Int) + off = (tgt : Int))
    (kf : W p l e R s m args below meth c H locs cells slots Q (F0 m (pc + 3) ls rest)) : W p l e R s m args below meth c H locs cells slots Q (F0 m pc ls (.int (nI a) :: rest)) :=
  lv_if_lt hx hb hdg ht (fun h => absurd h (nI_pos ha)) (fun _ => kf)
theorem en_if_ge (hx : p.tables.exec = Jvm.exec) (hb : c.code = cc) {a : Nat} {off : Int} (tgt : Nat) (ha : a < 2 ^ 31) (hdg : decode cc pc = .ok (.ifCond .ge off, 3)) (ht : (pc : Int) + off = (tgt : Int))
    (kt : W p l e R s m args below meth c H locs cells slots Q (F0 m tgt ls rest)) : W p l e R s m args below meth c H locs cells slots Q (F0 m pc ls (.int (nI a) :: rest)) :=
  lv_if_ge hx hb hdg ht (fun _ => kt) (fun h => absurd (nI_pos' ha) h)
theorem en_if_le (hx : p.tables.exec = Jvm.exec) (hb : c.code = cc) {a : Nat} {off : Int} (tgt : Nat) (ha : a < 2 ^ 31) (hdg : decode cc pc = .ok (.ifCond .le off, 3)) (ht : (pc : Int) + off = (tgt : Int))
    (kt : a = 0 → W p l e R s m args below meth c H locs cells slots Q (F0 m tgt ls rest)) (kf : ¬ a = 0 → W p l e R s m args below meth c H locs cells slots Q (F0 m (pc + 3) ls rest)) : W p l e R s m args below meth c H locs cells slots Q (F0 m pc ls (.int (nI a) :: rest)) :=
  lv_if_le hx hb hdg ht (fun h => kt (by
    rcases Nat.eq_zero_or_pos a with z | z
    · exact z
    · exact absurd h (nI_nle z ha))) (fun h => kf (fun z => h (by rw [z, nI_0]; decide)))
theorem en_icmp_eq (hx : p.tables.exec = Jvm.exec) (hb : c.code = cc) {x y : Nat} {off : Int} (tgt : Nat) (h1 : x < 2 ^ 31) (h2 : y < 2 ^ 31) (hdg : decode cc pc = .ok (.if_icmp .eq off, 3)) (ht : (pc : Int) + off = (tgt : Int))
    (kt : x = y → W p l e R s m args below meth c H locs cells slots Q (F0 m tgt ls rest)) (kf : ¬ x = y → W p l e R s m args below meth c H locs cells slots Q (F0 m (pc + 3) ls rest)) : W p l e R s m args below meth c H locs cells slots Q (F0 m pc ls (.int (nI y) :: .int (nI x) :: rest)) :=
  lv_icmp_eq hx hb hdg ht (fun h => kt ((nI_eq h1 h2).mp h)) (fun h => kf (fun z => h (by rw [z])))
theorem en_icmp_ne (hx : p.tables.exec = Jvm.exec) (hb : c.code = cc) {x y : Nat} {off : Int} (tgt : Nat) (h1 : x < 2 ^ 31) (h2 : y < 2 ^ 31) (hdg : decode cc pc = .ok (.if_icmp .ne off, 3)) (ht : (pc : Int) + off = (tgt : Int))
    (kt : ¬ x = y → W p l e R s m args below meth c H locs cells slots Q (F0 m tgt ls rest)) (kf : x = y → W p l e R s m args below meth c H locs cells slots Q (F0 m (pc + 3) ls rest)) : W p l e R s m args below meth c H locs cells slots Q (F0 m pc ls (.int (nI y) :: .int (nI x) :: rest)) :=
  lv_icmp_ne hx hb hdg ht (fun h => kt (fun z => h (by rw [z]))) (fun h => kf ((nI_eq h1 h2).mp h))
theorem en_icmp_lt (hx : p.tables.exec = Jvm.exec) (hb : c.code = cc) {x y : Nat} {off : Int} (tgt : Nat) (h1 : x < 2 ^ 31) (h2 : y < 2 ^ 31) (hdg : decode cc pc = .ok (.if_icmp .lt off, 3)) (ht : (pc : Int) + off = (tgt : Int))
    (kt : x < y → W p l e R s m args below meth c H locs cells slots Q (F0 m tgt ls rest)) (kf : y ≤ x → W p l e R s m args below meth c H locs cells slots Q (F0 m (pc + 3) ls rest)) : W p l e R s m args below meth c H locs cells slots Q (F0 m pc ls (.int (nI y) :: .int (nI x) :: rest)) :=
  lv_icmp_lt hx hb hdg ht (fun h => kt ((nI_ltI h1 h2).mp h)) (fun h => kf (Nat.le_of_not_lt fun z => h ((nI_ltI h1 h2).mpr z)))
theorem en_icmp_ge (hx : p.tables.exec = Jvm.exec) (hb : c.code = cc) {x y : Nat} {off : Int} (tgt : Nat) (h1 : x < 2 ^ 31) (h2 : y < 2 ^ 31) (hdg : decode cc pc = .ok (.if_icmp .ge off, 3)) (ht : (pc : Int) + off = (tgt : Int))
    (kt : y ≤ x → W p l e R s m args below meth c H locs cells slots Q (F0 m tgt ls rest)) (kf : x < y → W p l e R s m args below meth c H locs cells slots Q (F0 m (pc + 3) ls rest)) : W p l e R s m args below meth c H locs cells slots Q (F0 m pc ls (.int (nI y) :: .int (nI x) :: rest)) :=
  lv_icmp_ge hx hb hdg ht (fun h => kt ((nI_leI h2 h1).mp h)) (fun h => kf (Nat.lt_of_not_le fun z => h ((nI_leI h2 h1).mpr z)))
theorem en_icmp_gt (hx : p.tables.exec = Jvm.exec) (hb : c.code = cc) {x y : Nat} {off : Int} (tgt : Nat) (h1 : x < 2 ^ 31) (h2 : y < 2 ^ 31) (hdg : decode cc pc = .ok (.if_icmp .gt off, 3)) (ht : (pc : Int) + off = (tgt : Int))
    (kt : y < x → W p l e R s m args below meth c H locs cells slots Q (F0 m tgt ls rest)) (kf : x ≤ y → W p l e R s m args below meth c H locs cells slots Q (F0 m (pc + 3) ls rest)) : W p l e R s m args below meth c H locs cells slots Q (F0 m pc ls (.int (nI y) :: .int (nI x) :: rest)) :=
  lv_icmp_gt hx hb hdg ht (fun h => kt ((nI_ltI h2 h1).mp h)) (fun h => kf (Nat.le_of_not_lt fun z => h ((nI_ltI h2 h1).mpr z)))
theorem en_icmp_le (hx : p.tables.exec = Jvm.exec) (hb : c.code = cc) {x y : Nat} {off : Int} (tgt : Nat) (h1 : x < 2 ^ 31) (h2 : y < 2 ^ 31) (hdg : decode cc pc = .ok (.if_icmp .le off, 3)) (ht : (pc : Int) + off = (tgt : Int))
    (kt : x ≤ y → W p l e R s m args below meth c H locs cells slots Q (F0 m tgt ls rest)) (kf : y < x → W p l e R s m args below meth c H locs cells slots Q (F0 m (pc + 3) ls rest)) : W p l e R s m args below meth c H locs cells slots Q (F0 m pc ls (.int (nI y) :: .int (nI x) :: rest)) :=
  lv_icmp_le hx hb hdg ht (fun h => kt ((nI_leI h1 h2).mp h)) (fun h => kf (Nat.lt_of_not_le fun z => h ((nI_leI h1 h2).mpr z)))
theorem eb_if_eq (hx : p.tables.exec = Jvm.exec) (hb : c.code = cc) {x : Bool} {off : Int} (tgt : Nat) (hdg : decode cc pc = .ok (.ifCond .eq off, 3)) (ht : (pc : Int) + off = (tgt : Int))
    (kt : x = false → W p l e R s m args below meth c H locs cells slots Q (F0 m tgt ls rest)) (kf : x = true → W p l e R s m args below meth c H locs cells slots Q (F0 m (pc + 3) ls rest)) : W p l e R s m args below meth c H locs cells slots Q (F0 m pc ls (.int (ev_bi x) :: rest)) :=
  lv_if_eq hx hb hdg ht (fun h => kt (by cases x <;> first | rfl | exact absurd h (by decide))) (fun h => kf (by cases x <;> first | rfl | exact absurd rfl h))
theorem eb_if_ne (hx : p.tables.exec = Jvm.exec) (hb : c.code = cc) {x : Bool} {off : Int} (tgt : Nat) (hdg : decode cc pc = .ok (.ifCond .ne off, 3)) (ht : (pc : Int) + off = (tgt : Int))
    (kt : x = true → W p l e R s m args below meth c H locs cells slots Q (F0 m tgt ls rest)) (kf : x = false → W p l e R s m args below meth c H locs cells slots Q (F0 m (pc + 3) ls rest)) : W p l e R s m args below meth c H locs cells slots Q (F0 m pc ls (.int (ev_bi x) :: rest)) :=
  lv_if_ne hx hb hdg ht (fun h => kt (by cases x <;> first | rfl | exact absurd rfl h)) (fun h => kf (by cases x <;> first | rfl | exact absurd h (by decide)))
theorem eo_aload_n (hx : p.tables.exec = Jvm.exec) (hb : c.code = cc) {k : Fin 4} {i : Nat} {o : Option Nat} (hdg : decode cc pc = .ok (.aload_n k, 1)) (hi : (k : Nat) = i) (hl : ls[i]? = some (.val (va_rf o)))
    (kk : W p l e R s m args below meth c H locs cells slots Q (F0 m (pc + 1) ls (va_rf o :: rest))) : W p l e R s m args below meth c H locs cells slots Q (F0 m pc ls rest) := by
  cases o with
  | none => exact lv_aload_nN hx hb hdg hi hl kk
  | some x => exact lv_aload_n hx hb hdg hi hl kk
theorem eo_aload (hx : p.tables.exec = Jvm.exec) (hb : c.code = cc) {i : Nat} {o : Option Nat} (hdg : decode cc pc = .ok (.aload i, 2)) (hl : ls[i]? = some (.val (va_rf o)))
    (kk : W p l e R s m args below meth c H locs cells slots Q (F0 m (pc + 2) ls (va_rf o :: rest))) : W p l e R s m args below meth c H locs cells slots Q (F0 m pc ls rest) := by
  cases o with
  | none => exact lv_aloadN hx hb hdg hl kk
  | some x => exact lv_aload hx hb hdg hl kk
theorem eo_astore_n (hx : p.tables.exec = Jvm.exec) (hb : c.code = cc) {k : Fin 4} {i nL : Nat} {o : Option Nat} {lv lv' : List (Nat × Value)} (hdg : decode cc pc = .ok (.astore_n k, 1)) (hi : (k : Nat) = i) (h : lv_has ls nL lv) (hn : i < nL) (hl : (i, va_rf o) :: lv.filter (fun q => !(q.1 == i) && !(q.1 + 1 == i && q.2.category == 2)) = lv')
    (kk : ∀ ls' : Array Slot, lv_has ls' nL lv' → W p l e R s m args below meth c H locs cells slots Q (F0 m (pc + 1) ls' rest)) : W p l e R s m args below meth c H locs cells slots Q (F0 m pc ls (va_rf o :: rest)) := by
  cases o with
  | none => exact lv_astore_nN hx hb hdg hi h hn hl kk
  | some x => exact lv_astore_n hx hb hdg hi h hn hl kk
theorem eo_astore (hx : p.tables.exec = Jvm.exec) (hb : c.code = cc) {i nL : Nat} {o : Option Nat} {lv lv' : List (Nat × Value)} (hdg : decode cc pc = .ok (.astore i, 2)) (h : lv_has ls nL lv) (hn : i < nL) (hl : (i, va_rf o) :: lv.filter (fun q => !(q.1 == i) && !(q.1 + 1 == i && q.2.category == 2)) = lv')
    (kk : ∀ ls' : Array Slot, lv_has ls' nL lv' → W p l e R s m args below meth c H locs cells slots Q (F0 m (pc + 2) ls' rest)) : W p l e R s m args below meth c H locs cells slots Q (F0 m pc ls (va_rf o :: rest)) := by
  cases o with
  | none => exact lv_astoreN hx hb hdg h hn hl kk
  | some x => exact lv_astore hx hb hdg h hn hl kk
theorem eo_ifnull (hx : p.tables.exec = Jvm.exec) (hb : c.code = cc) {ad : Nat → Nat → Nat} {o : Option Nat} {off : Int} (tgt : Nat) (hdg : decode cc pc = .ok (.ifnull off, 3)) (ht : (pc : Int) + off = (tgt : Int))
    (kt : o = none → W p l e R s m args below meth c H locs cells slots Q (F0 m tgt ls rest)) (kf : ∀ j, o = some j → W p l e R s m args below meth c H locs cells slots Q (F0 m (pc + 3) ls rest)) : W p l e R s m args below meth c H locs cells slots Q (F0 m pc ls (ev_rf ad o :: rest)) := by
  cases o with
  | none => exact lv_ifnullN hx hb hdg ht (kt rfl)
  | some x => exact lv_ifnull hx hb hdg (kf x rfl)
theorem eo_ifnonnull (hx : p.tables.exec = Jvm.exec) (hb : c.code = cc) {ad : Nat → Nat → Nat} {o : Option Nat} {off : Int} (tgt : Nat) (hdg : decode cc pc = .ok (.ifnonnull off, 3)) (ht : (pc : Int) + off = (tgt : Int))
    (kt : ∀ j, o = some j → W p l e R s m args below meth c H locs cells slots Q (F0 m tgt ls rest)) (kf : o = none → W p l e R s m args below meth c H locs cells slots Q (F0 m (pc + 3) ls rest)) : W p l e R s m args below meth c H locs cells slots Q (F0 m pc ls (ev_rf ad o :: rest)) := by
  cases o with
  | none => exact lv_ifnonnullN hx hb hdg (kf rfl)
  | some x => exact lv_ifnonnull hx hb hdg ht (kt x rfl)
theorem er_int {x y : Int32} (hx : p.tables.exec = Jvm.exec) (hb : c.code = cc) (hr : meth.sig.returnType = some .int) (hlocks : meth.locks = false) (h : y = x) (hdg : decode cc pc = .ok (.ireturn, 1)) : W p l e R s m args below meth c s.heap [] 0 0 (MQ below (ev_QV (some (.int x))) args s 0 0 ev_no) (F0 m pc ls [.int y]) := by
  rw [h]; exact W.iret hx hb hr (fun t ht _ => ⟨rfl, ht⟩) (fun q hq => by cases hq) hdg hlocks
theorem er_bool {y : Int32} {x : Bool} (hx : p.tables.exec = Jvm.exec) (hb : c.code = cc) (hr : meth.sig.returnType = some .boolean) (hlocks : meth.locks = false) (h : y = ev_bi x) (hdg : decode cc pc = .ok (.ireturn, 1)) : W p l e R s m args below meth c s.heap [] 0 0 (MQ below (ev_QV (some (.int (ev_bi x)))) args s 0 0 ev_no) (F0 m pc ls [.int y]) := by
  rw [h]; exact W.zret hx hb hr (by cases x <;> rfl) (fun t ht _ => ⟨rfl, ht⟩) (fun q hq => by cases hq) hdg hlocks
theorem er_char {y x : Nat} (hx : p.tables.exec = Jvm.exec) (hb : c.code = cc) (hr : meth.sig.returnType = some .char) (hlocks : meth.locks = false) (hlt : x < 65536) (h : y = x) (hdg : decode cc pc = .ok (.ireturn, 1)) : W p l e R s m args below meth c s.heap [] 0 0 (MQ below (ev_QV (some (.int (nI x)))) args s 0 0 ev_no) (F0 m pc ls [.int (nI y)]) := by
  rw [h]; exact W.zret hx hb hr (pk_charN hlt).1 (fun t ht _ => ⟨rfl, ht⟩) (fun q hq => by cases hq) hdg hlocks
theorem er_long {x y : Int64} (hx : p.tables.exec = Jvm.exec) (hb : c.code = cc) (hr : meth.sig.returnType = some .long) (hlocks : meth.locks = false) (h : y = x) (hdg : decode cc pc = .ok (.lreturn, 1)) : W p l e R s m args below meth c s.heap [] 0 0 (MQ below (ev_QV (some (.long x))) args s 0 0 ev_no) (F0 m pc ls [.long y]) := by
  rw [h]; exact W.lret hx hb hr (fun t ht _ => ⟨rfl, ht⟩) (fun q hq => by cases hq) hdg hlocks
theorem er_ref {ad : Nat → Nat → Nat} {x y : Option Nat} {C : String} (hx : p.tables.exec = Jvm.exec) (hb : c.code = cc) (hr : meth.sig.returnType = some (.object C)) (hlocks : meth.locks = false) (h : y = x) (hdg : decode cc pc = .ok (.areturn, 1)) : W p l e R s m args below meth c s.heap [] 0 0 (MQ below (ev_QV (some (ev_rf ad x))) args s 0 0 ev_no) (F0 m pc ls [ev_rf ad y]) := by
  rw [h]; exact W.aret hx hb hr (Or.inl ⟨C, rfl⟩) (by cases x <;> first | exact Or.inl rfl | exact Or.inr ⟨_, rfl⟩) (fun t ht _ => ⟨rfl, ht⟩) (fun q hq => by cases hq) hdg hlocks
/-! ends of a method that writes -/
theorem em_char {A : Nat → Prop} {Hp : Heap → Prop} {x y : Nat} (hx : p.tables.exec = Jvm.exec) (hb : c.code = cc) (hr : meth.sig.returnType = some .char) (hlocks : meth.locks = false) (hlt : x < 65536) (h : y = x) (hP : Hp H) (hS : va_S A s.heap H locs) (hdg : decode cc pc = .ok (.ireturn, 1)) : W p l e R s m args below meth c H locs cells slots (MQ below (ev_QM (some (.int (nI x))) Hp A) args s cells slots A) (F0 m pc ls [.int (nI y)]) := by
  rw [h]; exact W.zret hx hb hr (pk_charN hlt).1 (fun t ht _ => ⟨rfl, by rw [ht]; exact hP, hS.F ht⟩) hS.2.2 hdg hlocks
theorem em_bool {A : Nat → Prop} {Hp : Heap → Prop} {x : Bool} {y : Int32} (hx : p.tables.exec = Jvm.exec) (hb : c.code = cc) (hr : meth.sig.returnType = some .boolean) (hlocks : meth.locks = false) (h : y = ev_bi x) (hP : Hp H) (hS : va_S A s.heap H locs) (hdg : decode cc pc = .ok (.ireturn, 1)) : W p l e R s m args below meth c H locs cells slots (MQ below (ev_QM (some (.int (ev_bi x))) Hp A) args s cells slots A) (F0 m pc ls [.int y]) := by
  rw [h]; exact W.zret hx hb hr (by cases x <;> rfl) (fun t ht _ => ⟨rfl, by rw [ht]; exact hP, hS.F ht⟩) hS.2.2 hdg hlocks
theorem em_int {A : Nat → Prop} {Hp : Heap → Prop} {x y : Int32} (hx : p.tables.exec = Jvm.exec) (hb : c.code = cc) (hr : meth.sig.returnType = some .int) (hlocks : meth.locks = false) (h : y = x) (hP : Hp H) (hS : va_S A s.heap H locs) (hdg : decode cc pc = .ok (.ireturn, 1)) : W p l e R s m args below meth c H locs cells slots (MQ below (ev_QM (some (.int x)) Hp A) args s cells slots A) (F0 m pc ls [.int y]) := by
  rw [h]; exact W.iret hx hb hr (fun t ht _ => ⟨rfl, by rw [ht]; exact hP, hS.F ht⟩) hS.2.2 hdg hlocks
theorem em_void {A : Nat → Prop} {Hp : Heap → Prop} (hx : p.tables.exec = Jvm.exec) (hb : c.code = cc) (hr : meth.sig.returnType = none) (hlocks : meth.locks = false) (hP : Hp H) (hS : va_S A s.heap H locs) (hdg : decode cc pc = .ok (.return_, 1)) : W p l e R s m args below meth c H locs cells slots (MQ below (ev_QM none Hp A) args s cells slots A) (F0 m pc ls []) :=
  W.vret hx hb hr (fun t ht _ => ⟨rfl, by rw [ht]; exact hP, hS.F ht⟩) hS.2.2 hdg hlocks
end EVM
theorem ev_inc1 (q : Nat) : nI q + Int32.ofInt 1 = nI (q + 1) := nI_1 q
theorem ev_dec1 (q : Nat) : nI (q + 1) + Int32.ofInt (-1) = nI q := pk_m1 q
theorem ev_cat (ad : Nat → Nat → Nat) (o : Option Nat) : (ev_rf ad o).category = 1 := by cases o <;> rfl
end
section
/-! 03.thing: what a thing answers; nothing of it writes -/
theorem ev_n1 : nI 1 = 1 := rfl
theorem ev_n0 : nI 0 = 0 := rfl
def ev_told (t : ev_TH) (w : Nat) : Bool := decide (ev_an t w ≠ 1000000)
def ev_holds (t : ev_TH) (k : Nat) : Bool := decide (ev_rg t k ≠ -1)
def ev_can (t : ev_TH) (r k : Nat) : Bool := decide (ev_rg t k ≠ -1) && decide (ev_rg t k &&& nI r ≠ 0)
def ev_kOther (t : ev_TH) (k : Nat) (v : Int32) : Bool := ev_holds t k && !ev_can t 1 k && !ev_can t 4 k && decide (ev_va t k ≠ v)
def ev_kKey (t : ev_TH) (k : Nat) : Bool := ev_holds t k && (ev_cs t || !ev_can t 4 k)
def ev_allow (own rights : Int32) (same : Bool) : Bool := if rights &&& nI 4 ≠ 0 then false else if (rights ^^^ own) &&& nI 2 ≠ 0 then false else if own &&& nI 1 ≠ 0 then true else decide (rights &&& nI 1 = 0) && same
set_option maxHeartbeats 4000000 in
set_option maxRecDepth 100000 in
theorem c_X7_isProxy (l : Launch) {D : va_G} {cI cO : ClassId} {b : Nat → Nat} {ad : Nat → Nat → Nat} {st : ev_ST}  {i : Nat} {t : ev_TH} (hi : i < st.1) (ht : st.2 i = t) : Met l yX7_isProxy wsX7_isProxy ({ frames := 0, cells := 0, slots := 0, locals := 0 }) (ev_Pc D cI cO (ev_P D cI cO b ad st) [.ref (ad i 0)]) (ev_QV (some (.int (ev_bi ((ev_tg t).isSome))))) 0 0 ev_no := by
  refine ev_body (cc := cX7_isProxy) (maxL := 1) (ret := (some .boolean)) (by decide) rfl (Nat.le_of_ble_eq_true rfl) ?_
  intro p e s m args below meth c hx hb hr hml hown hts hlocks hnm hP hK ls hl
  have hl : lv_has ls 1 [(0, .ref (ad i 0))] := hl
  have hi7 : ∀ w ∈ wsX70, w ∈ wsX7_isProxy := by decide +kernel
  refine lv_aload_n hx hb dX7_isProxy_0 rfl (lv_at hl 0 rfl) ?_
  refine ev_get (v := ev_rf ad (ev_tg t)) hx hb hts hi7 hown hK hP hi ht 0 (by decide) (hts (.fieldLink RX7 9 "EventloopRow$Thing" "target" "LEventloopRow$Thing;") (by decide +kernel)) rfl dX7_isProxy_1 ?_
  refine eo_ifnull (tgt := 11) hx hb dX7_isProxy_4 (by decide) (fun c_1 => ?_) (fun j_2 c_1 => ?_)
  · -- null
    refine lv_iconst (v := nI 0) hx hb dX7_isProxy_11 (by decide) ?_
    exact er_bool hx hb hr hlocks (by simp [ev_bi, ev_n1, ev_n0, c_1]) dX7_isProxy_12
  · -- some
    refine lv_iconst (v := nI 1) hx hb dX7_isProxy_7 (by decide) ?_
    refine lv_goto (tgt := 12) hx hb dX7_isProxy_8 (by decide) ?_
    exact er_bool hx hb hr hlocks (by simp [ev_bi, ev_n1, ev_n0, c_1]) dX7_isProxy_12
set_option maxHeartbeats 4000000 in
set_option maxRecDepth 100000 in
theorem c_X7_answerTo (l : Launch) {D : va_G} {cI cO : ClassId} {b : Nat → Nat} {ad : Nat → Nat → Nat} {st : ev_ST}  {i : Nat} {t : ev_TH} (hi : i < st.1) (ht : st.2 i = t) {k : Nat} (hk : k < 4) : Met l yX7_answerTo wsX7_answerTo ({ frames := 0, cells := 0, slots := 0, locals := 0 }) (ev_Pc D cI cO (ev_P D cI cO b ad st) [.ref (ad i 0), .int (nI k)]) (ev_QV (some (.int (ev_an t k)))) 0 0 ev_no := by
  refine ev_body (cc := cX7_answerTo) (maxL := 2) (ret := (some .int)) (by decide) rfl (Nat.le_of_ble_eq_true rfl) ?_
  intro p e s m args below meth c hx hb hr hml hown hts hlocks hnm hP hK ls hl
  have hl : lv_has ls 2 [(0, .ref (ad i 0)), (1, .int (nI k))] := hl
  have hi7 : ∀ w ∈ wsX70, w ∈ wsX7_answerTo := by decide +kernel
  refine lv_iload_n hx hb dX7_answerTo_0 rfl (lv_at hl 1 rfl) ?_
  refine en_if_lt (tgt := 9) hx hb (by omega) dX7_answerTo_1 (by decide) ?_
  refine lv_iload_n hx hb dX7_answerTo_4 rfl (lv_at hl 1 rfl) ?_
  refine lv_iconst (v := nI 4) hx hb dX7_answerTo_5 (by decide) ?_
  refine en_icmp_lt (tgt := 14) hx hb (by omega) (by omega) dX7_answerTo_6 (by decide) (fun c_2 => ?_) (fun c_2 => by exfalso; omega)
  refine lv_aload_n hx hb dX7_answerTo_14 rfl (lv_at hl 0 rfl) ?_
  refine ev_get (v := .ref (ad i 1)) hx hb hts hi7 hown hK hP hi ht 1 (by decide) (hts (.fieldLink RX7 18 "EventloopRow$Thing" "answers" "[I") (by decide +kernel)) rfl dX7_answerTo_15 ?_
  refine lv_iload_n hx hb dX7_answerTo_18 rfl (lv_at hl 1 rfl) ?_
  refine ev_ald (t := t) hx hb hK hP hi ht 1 (by decide) rfl k (by omega) (by decide) dX7_answerTo_19 ?_
  exact er_int hx hb hr hlocks (by simp [ev_bi, ev_n1, ev_n0]) dX7_answerTo_20
set_option maxHeartbeats 4000000 in
set_option maxRecDepth 100000 in
theorem c_X7_isTold (l : Launch) {D : va_G} {cI cO : ClassId} {b : Nat → Nat} {ad : Nat → Nat → Nat} {st : ev_ST}  {i : Nat} {t : ev_TH} (hi : i < st.1) (ht : st.2 i = t) {k : Nat} (hk : k < 4) : Met l yX7_isTold wsX7_isTold ({ frames := 1, cells := 0, slots := 0, locals := 21 }) (ev_Pc D cI cO (ev_P D cI cO b ad st) [.ref (ad i 0), .int (nI k)]) (ev_QV (some (.int (ev_bi (ev_told t k))))) 0 0 ev_no := by
  refine ev_body (cc := cX7_isTold) (maxL := 2) (ret := (some .boolean)) (by decide) rfl (Nat.le_of_ble_eq_true rfl) ?_
  intro p e s m args below meth c hx hb hr hml hown hts hlocks hnm hP hK ls hl
  have hl : lv_has ls 2 [(0, .ref (ad i 0)), (1, .int (nI k))] := hl
  refine lv_aload_n hx hb dX7_isTold_0 rfl (lv_at hl 0 rfl) ?_
  refine lv_iload_n hx hb dX7_isTold_1 rfl (lv_at hl 1 rfl) ?_
  refine ev_cv (As := [.int (nI k)]) (rest := []) ⟨hx, hb, hml, hown, hts⟩ (c_X7_answerTo l hi ht (k := k) (by omega)) (cwV 1 hts gX7_isTold_X7_answerTo rfl rfl rfl (by decide +kernel) ⟨Nat.le_of_ble_eq_true rfl, Nat.le_of_ble_eq_true rfl⟩) hP hK (ev_recv hK hP hi) rfl hl.1 (Nat.le_of_ble_eq_true rfl) dX7_isTold_2 ⟨Nat.le_of_ble_eq_true rfl, Nat.le_of_ble_eq_true rfl⟩ ?_
  refine lv_ldc (v := 1000000) hx hb hown (hts (.constant RX7 31 (1000000)) (by decide +kernel)) dX7_isTold_5 ?_
  refine lv_icmp_eq (tgt := 14) hx hb dX7_isTold_7 (by decide) (fun c_1 => ?_) (fun c_1 => ?_)
  ·
    refine lv_iconst (v := nI 0) hx hb dX7_isTold_14 (by decide) ?_
    exact er_bool hx hb hr hlocks (by simp [ev_bi, ev_n1, ev_n0, ev_told, c_1]) dX7_isTold_15
  ·
    refine lv_iconst (v := nI 1) hx hb dX7_isTold_10 (by decide) ?_
    refine lv_goto (tgt := 15) hx hb dX7_isTold_11 (by decide) ?_
    exact er_bool hx hb hr hlocks (by simp [ev_bi, ev_n1, ev_n0, ev_told, c_1]) dX7_isTold_15
set_option maxHeartbeats 4000000 in
set_option maxRecDepth 100000 in
theorem c_X7_rightsOf (l : Launch) {D : va_G} {cI cO : ClassId} {b : Nat → Nat} {ad : Nat → Nat → Nat} {st : ev_ST}  {i : Nat} {t : ev_TH} (hi : i < st.1) (ht : st.2 i = t) {k : Nat} (hk : k < 20) : Met l yX7_rightsOf wsX7_rightsOf ({ frames := 0, cells := 0, slots := 0, locals := 0 }) (ev_Pc D cI cO (ev_P D cI cO b ad st) [.ref (ad i 0), .int (nI k)]) (ev_QV (some (.int (ev_rg t k)))) 0 0 ev_no := by
  refine ev_body (cc := cX7_rightsOf) (maxL := 2) (ret := (some .int)) (by decide) rfl (Nat.le_of_ble_eq_true rfl) ?_
  intro p e s m args below meth c hx hb hr hml hown hts hlocks hnm hP hK ls hl
  have hl : lv_has ls 2 [(0, .ref (ad i 0)), (1, .int (nI k))] := hl
  have hi7 : ∀ w ∈ wsX70, w ∈ wsX7_rightsOf := by decide +kernel
  refine lv_iload_n hx hb dX7_rightsOf_0 rfl (lv_at hl 1 rfl) ?_
  refine en_if_lt (tgt := 10) hx hb (by omega) dX7_rightsOf_1 (by decide) ?_
  refine lv_iload_n hx hb dX7_rightsOf_4 rfl (lv_at hl 1 rfl) ?_
  refine lv_bipush (v := nI 20) hx hb dX7_rightsOf_5 (by decide) ?_
  refine en_icmp_lt (tgt := 14) hx hb (by omega) (by omega) dX7_rightsOf_7 (by decide) (fun c_2 => ?_) (fun c_2 => by exfalso; omega)
  refine lv_aload_n hx hb dX7_rightsOf_14 rfl (lv_at hl 0 rfl) ?_
  refine ev_get (v := .ref (ad i 3)) hx hb hts hi7 hown hK hP hi ht 6 (by decide) (hts (.fieldLink RX7 25 "EventloopRow$Thing" "rightsRow" "[I") (by decide +kernel)) rfl dX7_rightsOf_15 ?_
  refine lv_iload_n hx hb dX7_rightsOf_18 rfl (lv_at hl 1 rfl) ?_
  refine ev_ald (t := t) hx hb hK hP hi ht 3 (by decide) rfl k (by omega) (by decide) dX7_rightsOf_19 ?_
  exact er_int hx hb hr hlocks (by simp [ev_bi, ev_n1, ev_n0]) dX7_rightsOf_20
set_option maxHeartbeats 4000000 in
set_option maxRecDepth 100000 in
theorem c_X7_valueOf (l : Launch) {D : va_G} {cI cO : ClassId} {b : Nat → Nat} {ad : Nat → Nat → Nat} {st : ev_ST}  {i : Nat} {t : ev_TH} (hi : i < st.1) (ht : st.2 i = t) {k : Nat} (hk : k < 20) : Met l yX7_valueOf wsX7_valueOf ({ frames := 0, cells := 0, slots := 0, locals := 0 }) (ev_Pc D cI cO (ev_P D cI cO b ad st) [.ref (ad i 0), .int (nI k)]) (ev_QV (some (.int (ev_va t k)))) 0 0 ev_no := by
  refine ev_body (cc := cX7_valueOf) (maxL := 2) (ret := (some .int)) (by decide) rfl (Nat.le_of_ble_eq_true rfl) ?_
  intro p e s m args below meth c hx hb hr hml hown hts hlocks hnm hP hK ls hl
  have hl : lv_has ls 2 [(0, .ref (ad i 0)), (1, .int (nI k))] := hl
  have hi7 : ∀ w ∈ wsX70, w ∈ wsX7_valueOf := by decide +kernel
  refine lv_iload_n hx hb dX7_valueOf_0 rfl (lv_at hl 1 rfl) ?_
  refine en_if_lt (tgt := 10) hx hb (by omega) dX7_valueOf_1 (by decide) ?_
  refine lv_iload_n hx hb dX7_valueOf_4 rfl (lv_at hl 1 rfl) ?_
  refine lv_bipush (v := nI 20) hx hb dX7_valueOf_5 (by decide) ?_
  refine en_icmp_lt (tgt := 14) hx hb (by omega) (by omega) dX7_valueOf_7 (by decide) (fun c_2 => ?_) (fun c_2 => by exfalso; omega)
  refine lv_aload_n hx hb dX7_valueOf_14 rfl (lv_at hl 0 rfl) ?_
  refine ev_get (v := .ref (ad i 2)) hx hb hts hi7 hown hK hP hi ht 5 (by decide) (hts (.fieldLink RX7 22 "EventloopRow$Thing" "values" "[I") (by decide +kernel)) rfl dX7_valueOf_15 ?_
  refine lv_iload_n hx hb dX7_valueOf_18 rfl (lv_at hl 1 rfl) ?_
  refine ev_ald (t := t) hx hb hK hP hi ht 2 (by decide) rfl k (by omega) (by decide) dX7_valueOf_19 ?_
  exact er_int hx hb hr hlocks (by simp [ev_bi, ev_n1, ev_n0]) dX7_valueOf_20
set_option maxHeartbeats 4000000 in
set_option maxRecDepth 100000 in
theorem c_X7_holds (l : Launch) {D : va_G} {cI cO : ClassId} {b : Nat → Nat} {ad : Nat → Nat → Nat} {st : ev_ST}  {i : Nat} {t : ev_TH} (hi : i < st.1) (ht : st.2 i = t) {k : Nat} (hk : k < 20) : Met l yX7_holds wsX7_holds ({ frames := 0, cells := 0, slots := 0, locals := 0 }) (ev_Pc D cI cO (ev_P D cI cO b ad st) [.ref (ad i 0), .int (nI k)]) (ev_QV (some (.int (ev_bi (ev_holds t k))))) 0 0 ev_no := by
  refine ev_body (cc := cX7_holds) (maxL := 2) (ret := (some .boolean)) (by decide) rfl (Nat.le_of_ble_eq_true rfl) ?_
  intro p e s m args below meth c hx hb hr hml hown hts hlocks hnm hP hK ls hl
  have hl : lv_has ls 2 [(0, .ref (ad i 0)), (1, .int (nI k))] := hl
  have hi7 : ∀ w ∈ wsX70, w ∈ wsX7_holds := by decide +kernel
  refine lv_iload_n hx hb dX7_holds_0 rfl (lv_at hl 1 rfl) ?_
  refine en_if_lt (tgt := 24) hx hb (by omega) dX7_holds_1 (by decide) ?_
  refine lv_iload_n hx hb dX7_holds_4 rfl (lv_at hl 1 rfl) ?_
  refine lv_bipush (v := nI 20) hx hb dX7_holds_5 (by decide) ?_
  refine en_icmp_ge (tgt := 24) hx hb (by omega) (by omega) dX7_holds_7 (by decide) (fun c_2 => by exfalso; omega) (fun c_2 => ?_)
  refine lv_aload_n hx hb dX7_holds_10 rfl (lv_at hl 0 rfl) ?_
  refine ev_get (v := .ref (ad i 3)) hx hb hts hi7 hown hK hP hi ht 6 (by decide) (hts (.fieldLink RX7 25 "EventloopRow$Thing" "rightsRow" "[I") (by decide +kernel)) rfl dX7_holds_11 ?_
  refine lv_iload_n hx hb dX7_holds_14 rfl (lv_at hl 1 rfl) ?_
  refine ev_ald (t := t) hx hb hK hP hi ht 3 (by decide) rfl k (by omega) (by decide) dX7_holds_15 ?_
  refine lv_iconst (v := -1) hx hb dX7_holds_16 (by decide) ?_
  refine lv_icmp_eq (tgt := 24) hx hb dX7_holds_17 (by decide) (fun c_3 => ?_) (fun c_3 => ?_)
  ·
    refine lv_iconst (v := nI 0) hx hb dX7_holds_24 (by decide) ?_
    exact er_bool hx hb hr hlocks (by simp [ev_bi, ev_n1, ev_n0, ev_holds, c_3]) dX7_holds_25
  ·
    refine lv_iconst (v := nI 1) hx hb dX7_holds_20 (by decide) ?_
    refine lv_goto (tgt := 25) hx hb dX7_holds_21 (by decide) ?_
    exact er_bool hx hb hr hlocks (by simp [ev_bi, ev_n1, ev_n0, ev_holds, c_3]) dX7_holds_25
set_option maxHeartbeats 4000000 in
set_option maxRecDepth 100000 in
theorem c_X7_canBe (l : Launch) {D : va_G} {cI cO : ClassId} {b : Nat → Nat} {ad : Nat → Nat → Nat} {st : ev_ST}  {i : Nat} {t : ev_TH} (hi : i < st.1) (ht : st.2 i = t) {r k : Nat} (hk : k < 20) : Met l yX7_canBe wsX7_canBe ({ frames := 0, cells := 0, slots := 0, locals := 0 }) (ev_Pc D cI cO (ev_P D cI cO b ad st) [.ref (ad i 0), .int (nI r), .int (nI k)]) (ev_QV (some (.int (ev_bi (ev_can t r k))))) 0 0 ev_no := by
  refine ev_body (cc := cX7_canBe) (maxL := 3) (ret := (some .boolean)) (by decide) rfl (Nat.le_of_ble_eq_true rfl) ?_
  intro p e s m args below meth c hx hb hr hml hown hts hlocks hnm hP hK ls hl
  have hl : lv_has ls 3 [(0, .ref (ad i 0)), (1, .int (nI r)), (2, .int (nI k))] := hl
  have hi7 : ∀ w ∈ wsX70, w ∈ wsX7_canBe := by decide +kernel
  refine lv_iload_n hx hb dX7_canBe_0 rfl (lv_at hl 2 rfl) ?_
  refine en_if_lt (tgt := 35) hx hb (by omega) dX7_canBe_1 (by decide) ?_
  refine lv_iload_n hx hb dX7_canBe_4 rfl (lv_at hl 2 rfl) ?_
  refine lv_bipush (v := nI 20) hx hb dX7_canBe_5 (by decide) ?_
  refine en_icmp_ge (tgt := 35) hx hb (by omega) (by omega) dX7_canBe_7 (by decide) (fun c_2 => by exfalso; omega) (fun c_2 => ?_)
  refine lv_aload_n hx hb dX7_canBe_10 rfl (lv_at hl 0 rfl) ?_
  refine ev_get (v := .ref (ad i 3)) hx hb hts hi7 hown hK hP hi ht 6 (by decide) (hts (.fieldLink RX7 25 "EventloopRow$Thing" "rightsRow" "[I") (by decide +kernel)) rfl dX7_canBe_11 ?_
  refine lv_iload_n hx hb dX7_canBe_14 rfl (lv_at hl 2 rfl) ?_
  refine ev_ald (t := t) hx hb hK hP hi ht 3 (by decide) rfl k (by omega) (by decide) dX7_canBe_15 ?_
  refine lv_iconst (v := -1) hx hb dX7_canBe_16 (by decide) ?_
  refine lv_icmp_eq (tgt := 35) hx hb dX7_canBe_17 (by decide) (fun c_3 => ?_) (fun c_3 => ?_)
  ·
    refine lv_iconst (v := nI 0) hx hb dX7_canBe_35 (by decide) ?_
    exact er_bool hx hb hr hlocks (by simp [ev_bi, ev_n1, ev_n0, ev_can, c_3]) dX7_canBe_36
  ·
    refine lv_aload_n hx hb dX7_canBe_20 rfl (lv_at hl 0 rfl) ?_
    refine ev_get (v := .ref (ad i 3)) hx hb hts hi7 hown hK hP hi ht 6 (by decide) (hts (.fieldLink RX7 25 "EventloopRow$Thing" "rightsRow" "[I") (by decide +kernel)) rfl dX7_canBe_21 ?_
    refine lv_iload_n hx hb dX7_canBe_24 rfl (lv_at hl 2 rfl) ?_
    refine ev_ald (t := t) hx hb hK hP hi ht 3 (by decide) rfl k (by omega) (by decide) dX7_canBe_25 ?_
    refine lv_iload_n hx hb dX7_canBe_26 rfl (lv_at hl 1 rfl) ?_
    refine lv_iand hx hb dX7_canBe_27 ?_
    refine lv_if_eq (tgt := 35) hx hb dX7_canBe_28 (by decide) (fun c_4 => ?_) (fun c_4 => ?_)
    ·
      refine lv_iconst (v := nI 0) hx hb dX7_canBe_35 (by decide) ?_
      exact er_bool hx hb hr hlocks (by simp [ev_bi, ev_n1, ev_n0, ev_can, c_3, c_4]) dX7_canBe_36
    ·
      refine lv_iconst (v := nI 1) hx hb dX7_canBe_31 (by decide) ?_
      refine lv_goto (tgt := 36) hx hb dX7_canBe_32 (by decide) ?_
      exact er_bool hx hb hr hlocks (by simp [ev_bi, ev_n1, ev_n0, ev_can, c_3, c_4]) dX7_canBe_36
set_option maxHeartbeats 4000000 in
set_option maxRecDepth 100000 in
theorem c_X7_keepsOther (l : Launch) {D : va_G} {cI cO : ClassId} {b : Nat → Nat} {ad : Nat → Nat → Nat} {st : ev_ST}  {i : Nat} {t : ev_TH} (hi : i < st.1) (ht : st.2 i = t) {k : Nat} {v : Int32} (hk : k < 20) : Met l yX7_keepsOther wsX7_keepsOther ({ frames := 1, cells := 0, slots := 0, locals := 22 }) (ev_Pc D cI cO (ev_P D cI cO b ad st) [.ref (ad i 0), .int (nI k), .int v]) (ev_QV (some (.int (ev_bi (ev_kOther t k v))))) 0 0 ev_no := by
  refine ev_body (cc := cX7_keepsOther) (maxL := 3) (ret := (some .boolean)) (by decide) rfl (Nat.le_of_ble_eq_true rfl) ?_
  intro p e s m args below meth c hx hb hr hml hown hts hlocks hnm hP hK ls hl
  have hl : lv_has ls 3 [(0, .ref (ad i 0)), (1, .int (nI k)), (2, .int v)] := hl
  refine lv_aload_n hx hb dX7_keepsOther_0 rfl (lv_at hl 0 rfl) ?_
  refine lv_iload_n hx hb dX7_keepsOther_1 rfl (lv_at hl 1 rfl) ?_
  refine ev_cv (As := [.int (nI k)]) (rest := []) ⟨hx, hb, hml, hown, hts⟩ (c_X7_holds l hi ht (k := k) (by omega)) (cwV 1 hts gX7_keepsOther_X7_holds rfl rfl rfl (by decide +kernel) ⟨Nat.le_of_ble_eq_true rfl, Nat.le_of_ble_eq_true rfl⟩) hP hK (ev_recv hK hP hi) rfl hl.1 (Nat.le_of_ble_eq_true rfl) dX7_keepsOther_2 ⟨Nat.le_of_ble_eq_true rfl, Nat.le_of_ble_eq_true rfl⟩ ?_
  refine eb_if_eq (tgt := 39) hx hb dX7_keepsOther_5 (by decide) (fun c_1 => ?_) (fun c_1 => ?_)
  ·
    refine lv_iconst (v := nI 0) hx hb dX7_keepsOther_39 (by decide) ?_
    exact er_bool hx hb hr hlocks (by simp [ev_bi, ev_n1, ev_n0, ev_kOther, c_1]) dX7_keepsOther_40
  ·
    refine lv_aload_n hx hb dX7_keepsOther_8 rfl (lv_at hl 0 rfl) ?_
    refine lv_iconst (v := nI 1) hx hb dX7_keepsOther_9 (by decide) ?_
    refine lv_iload_n hx hb dX7_keepsOther_10 rfl (lv_at hl 1 rfl) ?_
    refine ev_cv (As := [.int (nI 1), .int (nI k)]) (rest := []) ⟨hx, hb, hml, hown, hts⟩ (c_X7_canBe l hi ht (r := 1) (k := k) (by omega)) (cwV 2 hts gX7_keepsOther_X7_canBe rfl rfl rfl (by decide +kernel) ⟨Nat.le_of_ble_eq_true rfl, Nat.le_of_ble_eq_true rfl⟩) hP hK (ev_recv hK hP hi) rfl hl.1 (Nat.le_of_ble_eq_true rfl) dX7_keepsOther_11 ⟨Nat.le_of_ble_eq_true rfl, Nat.le_of_ble_eq_true rfl⟩ ?_
    refine eb_if_ne (tgt := 39) hx hb dX7_keepsOther_14 (by decide) (fun c_2 => ?_) (fun c_2 => ?_)
    ·
      refine lv_iconst (v := nI 0) hx hb dX7_keepsOther_39 (by decide) ?_
      exact er_bool hx hb hr hlocks (by simp [ev_bi, ev_n1, ev_n0, ev_kOther, c_1, c_2]) dX7_keepsOther_40
    ·
      refine lv_aload_n hx hb dX7_keepsOther_17 rfl (lv_at hl 0 rfl) ?_
      refine lv_iconst (v := nI 4) hx hb dX7_keepsOther_18 (by decide) ?_
      refine lv_iload_n hx hb dX7_keepsOther_19 rfl (lv_at hl 1 rfl) ?_
      refine ev_cv (As := [.int (nI 4), .int (nI k)]) (rest := []) ⟨hx, hb, hml, hown, hts⟩ (c_X7_canBe l hi ht (r := 4) (k := k) (by omega)) (cwV 2 hts gX7_keepsOther_X7_canBe rfl rfl rfl (by decide +kernel) ⟨Nat.le_of_ble_eq_true rfl, Nat.le_of_ble_eq_true rfl⟩) hP hK (ev_recv hK hP hi) rfl hl.1 (Nat.le_of_ble_eq_true rfl) dX7_keepsOther_20 ⟨Nat.le_of_ble_eq_true rfl, Nat.le_of_ble_eq_true rfl⟩ ?_
      refine eb_if_ne (tgt := 39) hx hb dX7_keepsOther_23 (by decide) (fun c_3 => ?_) (fun c_3 => ?_)
      ·
        refine lv_iconst (v := nI 0) hx hb dX7_keepsOther_39 (by decide) ?_
        exact er_bool hx hb hr hlocks (by simp [ev_bi, ev_n1, ev_n0, ev_kOther, c_1, c_2, c_3]) dX7_keepsOther_40
      ·
        refine lv_aload_n hx hb dX7_keepsOther_26 rfl (lv_at hl 0 rfl) ?_
        refine lv_iload_n hx hb dX7_keepsOther_27 rfl (lv_at hl 1 rfl) ?_
        refine ev_cv (As := [.int (nI k)]) (rest := []) ⟨hx, hb, hml, hown, hts⟩ (c_X7_valueOf l hi ht (k := k) (by omega)) (cwV 1 hts gX7_keepsOther_X7_valueOf rfl rfl rfl (by decide +kernel) ⟨Nat.le_of_ble_eq_true rfl, Nat.le_of_ble_eq_true rfl⟩) hP hK (ev_recv hK hP hi) rfl hl.1 (Nat.le_of_ble_eq_true rfl) dX7_keepsOther_28 ⟨Nat.le_of_ble_eq_true rfl, Nat.le_of_ble_eq_true rfl⟩ ?_
        refine lv_iload_n hx hb dX7_keepsOther_31 rfl (lv_at hl 2 rfl) ?_
        refine lv_icmp_eq (tgt := 39) hx hb dX7_keepsOther_32 (by decide) (fun c_4 => ?_) (fun c_4 => ?_)
        ·
          refine lv_iconst (v := nI 0) hx hb dX7_keepsOther_39 (by decide) ?_
          exact er_bool hx hb hr hlocks (by simp [ev_bi, ev_n1, ev_n0, ev_kOther, c_1, c_2, c_3, c_4]) dX7_keepsOther_40
        ·
          refine lv_iconst (v := nI 1) hx hb dX7_keepsOther_35 (by decide) ?_
          refine lv_goto (tgt := 40) hx hb dX7_keepsOther_36 (by decide) ?_
          exact er_bool hx hb hr hlocks (by simp [ev_bi, ev_n1, ev_n0, ev_kOther, c_1, c_2, c_3, c_4]) dX7_keepsOther_40
set_option maxHeartbeats 4000000 in
set_option maxRecDepth 100000 in
theorem c_X7_keepsKey (l : Launch) {D : va_G} {cI cO : ClassId} {b : Nat → Nat} {ad : Nat → Nat → Nat} {st : ev_ST}  {i : Nat} {t : ev_TH} (hi : i < st.1) (ht : st.2 i = t) {k : Nat} (hk : k < 20) : Met l yX7_keepsKey wsX7_keepsKey ({ frames := 1, cells := 0, slots := 0, locals := 22 }) (ev_Pc D cI cO (ev_P D cI cO b ad st) [.ref (ad i 0), .int (nI k)]) (ev_QV (some (.int (ev_bi (ev_kKey t k))))) 0 0 ev_no := by
  refine ev_body (cc := cX7_keepsKey) (maxL := 2) (ret := (some .boolean)) (by decide) rfl (Nat.le_of_ble_eq_true rfl) ?_
  intro p e s m args below meth c hx hb hr hml hown hts hlocks hnm hP hK ls hl
  have hl : lv_has ls 2 [(0, .ref (ad i 0)), (1, .int (nI k))] := hl
  have hi7 : ∀ w ∈ wsX70, w ∈ wsX7_keepsKey := by decide +kernel
  refine lv_aload_n hx hb dX7_keepsKey_0 rfl (lv_at hl 0 rfl) ?_
  refine lv_iload_n hx hb dX7_keepsKey_1 rfl (lv_at hl 1 rfl) ?_
  refine ev_cv (As := [.int (nI k)]) (rest := []) ⟨hx, hb, hml, hown, hts⟩ (c_X7_holds l hi ht (k := k) (by omega)) (cwV 1 hts gX7_keepsKey_X7_holds rfl rfl rfl (by decide +kernel) ⟨Nat.le_of_ble_eq_true rfl, Nat.le_of_ble_eq_true rfl⟩) hP hK (ev_recv hK hP hi) rfl hl.1 (Nat.le_of_ble_eq_true rfl) dX7_keepsKey_2 ⟨Nat.le_of_ble_eq_true rfl, Nat.le_of_ble_eq_true rfl⟩ ?_
  refine eb_if_eq (tgt := 28) hx hb dX7_keepsKey_5 (by decide) (fun c_1 => ?_) (fun c_1 => ?_)
  ·
    refine lv_iconst (v := nI 0) hx hb dX7_keepsKey_28 (by decide) ?_
    exact er_bool hx hb hr hlocks (by simp [ev_bi, ev_n1, ev_n0, ev_kKey, c_1]) dX7_keepsKey_29
  ·
    refine lv_aload_n hx hb dX7_keepsKey_8 rfl (lv_at hl 0 rfl) ?_
    refine ev_get (v := .int (ev_bi (ev_cs t))) hx hb hts hi7 hown hK hP hi ht 4 (by decide) (hts (.fieldLink RX7 53 "EventloopRow$Thing" "closed" "Z") (by decide +kernel)) rfl dX7_keepsKey_9 ?_
    refine eb_if_ne (tgt := 24) hx hb dX7_keepsKey_12 (by decide) (fun c_2 => ?_) (fun c_2 => ?_)
    ·
      refine lv_iconst (v := nI 1) hx hb dX7_keepsKey_24 (by decide) ?_
      refine lv_goto (tgt := 29) hx hb dX7_keepsKey_25 (by decide) ?_
      exact er_bool hx hb hr hlocks (by simp [ev_bi, ev_n1, ev_n0, ev_kKey, c_1, c_2]) dX7_keepsKey_29
    ·
      refine lv_aload_n hx hb dX7_keepsKey_15 rfl (lv_at hl 0 rfl) ?_
      refine lv_iconst (v := nI 4) hx hb dX7_keepsKey_16 (by decide) ?_
      refine lv_iload_n hx hb dX7_keepsKey_17 rfl (lv_at hl 1 rfl) ?_
      refine ev_cv (As := [.int (nI 4), .int (nI k)]) (rest := []) ⟨hx, hb, hml, hown, hts⟩ (c_X7_canBe l hi ht (r := 4) (k := k) (by omega)) (cwV 2 hts gX7_keepsKey_X7_canBe rfl rfl rfl (by decide +kernel) ⟨Nat.le_of_ble_eq_true rfl, Nat.le_of_ble_eq_true rfl⟩) hP hK (ev_recv hK hP hi) rfl hl.1 (Nat.le_of_ble_eq_true rfl) dX7_keepsKey_18 ⟨Nat.le_of_ble_eq_true rfl, Nat.le_of_ble_eq_true rfl⟩ ?_
      refine eb_if_ne (tgt := 28) hx hb dX7_keepsKey_21 (by decide) (fun c_3 => ?_) (fun c_3 => ?_)
      ·
        refine lv_iconst (v := nI 0) hx hb dX7_keepsKey_28 (by decide) ?_
        exact er_bool hx hb hr hlocks (by simp [ev_bi, ev_n1, ev_n0, ev_kKey, c_1, c_2, c_3]) dX7_keepsKey_29
      ·
        refine lv_iconst (v := nI 1) hx hb dX7_keepsKey_24 (by decide) ?_
        refine lv_goto (tgt := 29) hx hb dX7_keepsKey_25 (by decide) ?_
        exact er_bool hx hb hr hlocks (by simp [ev_bi, ev_n1, ev_n0, ev_kKey, c_1, c_2, c_3]) dX7_keepsKey_29
set_option maxHeartbeats 4000000 in
set_option maxRecDepth 100000 in
theorem c_X7_isAllowed (l : Launch) {D : va_G} {cI cO : ClassId} {b : Nat → Nat} {ad : Nat → Nat → Nat} {st : ev_ST}  {x y : Int32} {q : Bool} : Met l yX7_isAllowed wsX7_isAllowed ({ frames := 0, cells := 0, slots := 0, locals := 0 }) (ev_Pc D cI cO (ev_P D cI cO b ad st) [.int x, .int y, .int (ev_bi q)]) (ev_QV (some (.int (ev_bi (ev_allow x y q))))) 0 0 ev_no := by
  refine ev_body (cc := cX7_isAllowed) (maxL := 3) (ret := (some .boolean)) (by decide) rfl (Nat.le_of_ble_eq_true rfl) ?_
  intro p e s m args below meth c hx hb hr hml hown hts hlocks hnm hP hK ls hl
  have hl : lv_has ls 3 [(0, .int x), (1, .int y), (2, .int (ev_bi q))] := hl
  refine lv_iload_n hx hb dX7_isAllowed_0 rfl (lv_at hl 1 rfl) ?_
  refine lv_iconst (v := nI 4) hx hb dX7_isAllowed_1 (by decide) ?_
  refine lv_iand hx hb dX7_isAllowed_2 ?_
  refine lv_if_ne (tgt := 14) hx hb dX7_isAllowed_3 (by decide) (fun c_1 => ?_) (fun c_1 => ?_)
  ·
    refine lv_iconst (v := nI 0) hx hb dX7_isAllowed_14 (by decide) ?_
    exact er_bool hx hb hr hlocks (by simp [ev_allow, c_1] <;> rfl) dX7_isAllowed_15
  ·
    refine lv_iload_n hx hb dX7_isAllowed_6 rfl (lv_at hl 1 rfl) ?_
    refine lv_iload_n hx hb dX7_isAllowed_7 rfl (lv_at hl 0 rfl) ?_
    refine lv_ixor hx hb dX7_isAllowed_8 ?_
    refine lv_iconst (v := nI 2) hx hb dX7_isAllowed_9 (by decide) ?_
    refine lv_iand hx hb dX7_isAllowed_10 ?_
    refine lv_if_eq (tgt := 16) hx hb dX7_isAllowed_11 (by decide) (fun c_2 => ?_) (fun c_2 => ?_)
    ·
      refine lv_iload_n hx hb dX7_isAllowed_16 rfl (lv_at hl 0 rfl) ?_
      refine lv_iconst (v := nI 1) hx hb dX7_isAllowed_17 (by decide) ?_
      refine lv_iand hx hb dX7_isAllowed_18 ?_
      refine lv_if_ne (tgt := 32) hx hb dX7_isAllowed_19 (by decide) (fun c_3 => ?_) (fun c_3 => ?_)
      ·
        refine lv_iconst (v := nI 1) hx hb dX7_isAllowed_32 (by decide) ?_
        refine lv_goto (tgt := 37) hx hb dX7_isAllowed_33 (by decide) ?_
        exact er_bool hx hb hr hlocks (by simp [ev_allow, c_1, c_2, c_3] <;> rfl) dX7_isAllowed_37
      ·
        refine lv_iload_n hx hb dX7_isAllowed_22 rfl (lv_at hl 1 rfl) ?_
        refine lv_iconst (v := nI 1) hx hb dX7_isAllowed_23 (by decide) ?_
        refine lv_iand hx hb dX7_isAllowed_24 ?_
        refine lv_if_ne (tgt := 36) hx hb dX7_isAllowed_25 (by decide) (fun c_4 => ?_) (fun c_4 => ?_)
        ·
          refine lv_iconst (v := nI 0) hx hb dX7_isAllowed_36 (by decide) ?_
          exact er_bool hx hb hr hlocks (by simp [ev_allow, c_1, c_2, c_3, c_4] <;> rfl) dX7_isAllowed_37
        ·
          refine lv_iload_n hx hb dX7_isAllowed_28 rfl (lv_at hl 2 rfl) ?_
          refine eb_if_eq (tgt := 36) hx hb dX7_isAllowed_29 (by decide) (fun c_5 => ?_) (fun c_5 => ?_)
          ·
            refine lv_iconst (v := nI 0) hx hb dX7_isAllowed_36 (by decide) ?_
            exact er_bool hx hb hr hlocks (by simp [ev_allow, c_1, c_2, c_3, c_4, c_5] <;> rfl) dX7_isAllowed_37
          ·
            refine lv_iconst (v := nI 1) hx hb dX7_isAllowed_32 (by decide) ?_
            refine lv_goto (tgt := 37) hx hb dX7_isAllowed_33 (by decide) ?_
            exact er_bool hx hb hr hlocks (by simp [ev_allow, c_1, c_2, c_3, c_4, c_5] <;> rfl) dX7_isAllowed_37
    ·
      refine lv_iconst (v := nI 0) hx hb dX7_isAllowed_14 (by decide) ?_
      exact er_bool hx hb hr hlocks (by simp [ev_allow, c_1, c_2] <;> rfl) dX7_isAllowed_15
set_option maxHeartbeats 4000000 in
set_option maxRecDepth 100000 in
theorem c_X7_listedAt (l : Launch) {D : va_G} {cI cO : ClassId} {b : Nat → Nat} {ad : Nat → Nat → Nat} {st : ev_ST}  {i : Nat} {t : ev_TH} (hi : i < st.1) (ht : st.2 i = t) {j : Nat} (hc : ev_kc t ≤ 20) (hj : j < 2147483648) : Met l yX7_listedAt wsX7_listedAt ({ frames := 0, cells := 0, slots := 0, locals := 0 }) (ev_Pc D cI cO (ev_P D cI cO b ad st) [.ref (ad i 0), .int (nI j)]) (ev_QV (some (.int (if j < ev_kc t then ev_ke t j else -1)))) 0 0 ev_no := by
  refine ev_body (cc := cX7_listedAt) (maxL := 2) (ret := (some .int)) (by decide) rfl (Nat.le_of_ble_eq_true rfl) ?_
  intro p e s m args below meth c hx hb hr hml hown hts hlocks hnm hP hK ls hl
  have hl : lv_has ls 2 [(0, .ref (ad i 0)), (1, .int (nI j))] := hl
  have hi7 : ∀ w ∈ wsX70, w ∈ wsX7_listedAt := by decide +kernel
  refine lv_iload_n hx hb dX7_listedAt_0 rfl (lv_at hl 1 rfl) ?_
  refine en_if_lt (tgt := 18) hx hb (by omega) dX7_listedAt_1 (by decide) ?_
  refine lv_iload_n hx hb dX7_listedAt_4 rfl (lv_at hl 1 rfl) ?_
  refine lv_aload_n hx hb dX7_listedAt_5 rfl (lv_at hl 0 rfl) ?_
  refine ev_get (v := .int (nI (ev_kc t))) hx hb hts hi7 hown hK hP hi ht 8 (by decide) (hts (.fieldLink RX7 65 "EventloopRow$Thing" "keyCount" "I") (by decide +kernel)) rfl dX7_listedAt_6 ?_
  refine en_icmp_ge (tgt := 18) hx hb (by omega) (by omega) dX7_listedAt_9 (by decide) (fun c_2 => ?_) (fun c_2 => ?_)
  ·
    refine lv_iconst (v := -1) hx hb dX7_listedAt_18 (by decide) ?_
    refine lv_goto (tgt := 28) hx hb dX7_listedAt_19 (by decide) ?_
    exact er_int hx hb hr hlocks (by first | rfl | exact (if_pos (by omega)).symm | exact (if_neg (by omega)).symm) dX7_listedAt_28
  ·
    refine lv_iload_n hx hb dX7_listedAt_12 rfl (lv_at hl 1 rfl) ?_
    refine lv_bipush (v := nI 20) hx hb dX7_listedAt_13 (by decide) ?_
    refine en_icmp_lt (tgt := 22) hx hb (by omega) (by omega) dX7_listedAt_15 (by decide) (fun c_3 => ?_) (fun c_3 => by exfalso; omega)
    refine lv_aload_n hx hb dX7_listedAt_22 rfl (lv_at hl 0 rfl) ?_
    refine ev_get (v := .ref (ad i 4)) hx hb hts hi7 hown hK hP hi ht 7 (by decide) (hts (.fieldLink RX7 28 "EventloopRow$Thing" "keyRow" "[I") (by decide +kernel)) rfl dX7_listedAt_23 ?_
    refine lv_iload_n hx hb dX7_listedAt_26 rfl (lv_at hl 1 rfl) ?_
    refine ev_ald (t := t) hx hb hK hP hi ht 4 (by decide) rfl j (by omega) (by decide) dX7_listedAt_27 ?_
    exact er_int hx hb hr hlocks (by first | rfl | exact (if_pos (by omega)).symm | exact (if_neg (by omega)).symm) dX7_listedAt_28
set_option maxHeartbeats 4000000 in
set_option maxRecDepth 100000 in
theorem c_X7_listedAt_m (l : Launch) {D : va_G} {cI cO : ClassId} {b : Nat → Nat} {ad : Nat → Nat → Nat} {st : ev_ST}  {i : Nat} {t : ev_TH} (hi : i < st.1) (ht : st.2 i = t) : Met l yX7_listedAt wsX7_listedAt ({ frames := 0, cells := 0, slots := 0, locals := 0 }) (ev_Pc D cI cO (ev_P D cI cO b ad st) [.ref (ad i 0), .int (-1)]) (ev_QV (some (.int (-1)))) 0 0 ev_no := by
  refine ev_body (cc := cX7_listedAt) (maxL := 2) (ret := (some .int)) (by decide) rfl (Nat.le_of_ble_eq_true rfl) ?_
  intro p e s m args below meth c hx hb hr hml hown hts hlocks hnm hP hK ls hl
  have hl : lv_has ls 2 [(0, .ref (ad i 0)), (1, .int (-1))] := hl
  refine lv_iload_n hx hb dX7_listedAt_0 rfl (lv_at hl 1 rfl) ?_
  refine lv_if_lt (tgt := 18) hx hb dX7_listedAt_1 (by decide) (fun _ => ?_) (fun h => absurd h (by decide))
  refine lv_iconst (v := -1) hx hb dX7_listedAt_18 (by decide) ?_
  refine lv_goto (tgt := 28) hx hb dX7_listedAt_19 (by decide) ?_
  exact er_int hx hb hr hlocks rfl dX7_listedAt_28
end
section
/-! 04.things: what Things answers without writing -/
def ev_pb (st : ev_ST) : Nat → Option Nat → Option Nat
  | 0, _ => none
  | _ + 1, none => none
  | n + 1, some i => if (ev_tg (st.2 i)).isSome then (if ev_rv (st.2 i) then ev_pb st n none else ev_pb st n (ev_tg (st.2 i))) else some i
theorem ev_pb_0 (st : ev_ST) (o : Option Nat) : ev_pb st 0 o = none := by cases o <;> rfl
theorem ev_pb_n (st : ev_ST) (n : Nat) : ev_pb st n none = none := by cases n <;> rfl
theorem ev_pb_lt {st : ev_ST} (hTG : ∀ i, i < st.1 → ∀ j, ev_tg (st.2 i) = some j → j < st.1) : ∀ (n : Nat) (o : Option Nat), (∀ j, o = some j → j < st.1) → ∀ j, ev_pb st n o = some j → j < st.1 := by
  intro n
  induction n with
  | zero => intro o _ j h; rw [ev_pb_0] at h; cases h
  | succ n ih =>
    intro o ho j h
    cases o with
    | none => rw [ev_pb_n] at h; cases h
    | some i =>
      unfold ev_pb at h
      split at h
      · split at h
        · rw [ev_pb_n] at h; cases h
        · exact ih _ (hTG _ (ho _ rfl)) j h
      · cases h; exact ho _ rfl
def ev_F : Int64 := 1099511627776
def ev_gf (st : ev_ST) (k : Nat) : Nat → Option Nat → Int64
  | 0, o => if o.isSome then ev_F else 0
  | _ + 1, none => 0
  | n + 1, some i => if (ev_tg (st.2 i)).isSome then
      (if ev_rv (st.2 i) then ev_F else if ev_told (st.2 i) 0 then
        (match ev_pb st 12 (ev_tg (st.2 i)) with
          | none => ev_F
          | some j => if ev_kOther (st.2 j) k (ev_an (st.2 i) 0) then ev_F else (ev_an (st.2 i) 0).toInt64)
        else ev_gf st k n (ev_tg (st.2 i)))
      else if ev_holds (st.2 i) k then (ev_va (st.2 i) k).toInt64 else ev_gf st k n (ev_ch (st.2 i))
def ev_yn (x : Nat) : Nat := if x = 0 then 110 else 121
def ev_af (st : ev_ST) (k : Nat) : Nat → Option Nat → Nat
  | 0, o => if o.isSome then 84 else 110
  | _ + 1, none => 110
  | n + 1, some i => if (ev_tg (st.2 i)).isSome then
      (if ev_rv (st.2 i) then 84 else if ev_told (st.2 i) 1 then
        (match ev_pb st 12 (ev_tg (st.2 i)) with
          | none => 84
          | some j => if ev_an (st.2 i) 1 = nI 1 then 121 else if ev_kKey (st.2 j) k then 84 else 110)
        else ev_af st k n (ev_tg (st.2 i)))
      else if ev_holds (st.2 i) k then 121 else ev_af st k n (ev_ch (st.2 i))
theorem ev_af_lt (st : ev_ST) (k : Nat) : ∀ (n : Nat) (o : Option Nat), ev_af st k n o < 65536 := by
  intro n
  induction n with
  | zero => intro o; cases o <;> simp [ev_af]
  | succ n ih =>
    intro o
    cases o with
    | none => simp [ev_af]
    | some i =>
      unfold ev_af
      split
      · split
        · decide
        · split
          · split
            · decide
            · split
              · decide
              · split <;> decide
          · exact ih _
      · split
        · decide
        · exact ih _
theorem ev_yn_lt (x : Nat) : ev_yn x < 65536 := by unfold ev_yn; split <;> decide
set_option maxHeartbeats 4000000 in
set_option maxRecDepth 100000 in
theorem c_X8_find (l : Launch) {D : va_G} {cI cO : ClassId} {b : Nat → Nat} {ad : Nat → Nat → Nat} {st : ev_ST}  (hn : st.1 ≤ 12) {j : Nat} (hj : j < 2147483648) : Met l yX8_find wsX8_find ({ frames := 0, cells := 0, slots := 0, locals := 0 }) (ev_Pc D cI cO (ev_P D cI cO b ad st) [.ref (b 1), .int (nI j)]) (ev_QV (some (ev_rf ad (if j < st.1 then some j else none)))) 0 0 ev_no := by
  refine ev_body (cc := cX8_find) (maxL := 2) (ret := (some (.object "EventloopRow$Thing"))) (by decide) rfl (Nat.le_of_ble_eq_true rfl) ?_
  intro p e s m args below meth c hx hb hr hml hown hts hlocks hnm hP hK ls hl
  have hl : lv_has ls 2 [(0, .ref (b 1)), (1, .int (nI j))] := hl
  have hi8 : ∀ w ∈ wsX80, w ∈ wsX8_find := by decide +kernel
  refine lv_iload_n hx hb dX8_find_0 rfl (lv_at hl 1 rfl) ?_
  refine en_if_lt (tgt := 18) hx hb (by omega) dX8_find_1 (by decide) ?_
  refine lv_iload_n hx hb dX8_find_4 rfl (lv_at hl 1 rfl) ?_
  refine lv_aload_n hx hb dX8_find_5 rfl (lv_at hl 0 rfl) ?_
  refine ev_row (v := .int (nI st.1)) hx hb hts hi8 hown hK hP 1 (by decide) (hts (.fieldLink RX8 17 "EventloopRow$Things" "count" "I") (by decide +kernel)) rfl dX8_find_6 ?_
  refine en_icmp_ge (tgt := 18) hx hb (by omega) (by omega) dX8_find_9 (by decide) (fun c_2 => ?_) (fun c_2 => ?_)
  ·
    refine lv_null hx hb dX8_find_18 ?_
    refine lv_goto (tgt := 28) hx hb dX8_find_19 (by decide) ?_
    exact er_ref (ad := ad) (y := none) hx hb hr hlocks (by first | exact (if_pos (by omega)).symm | exact (if_neg (by omega)).symm | (exfalso; omega)) dX8_find_28
  ·
    refine lv_iload_n hx hb dX8_find_12 rfl (lv_at hl 1 rfl) ?_
    refine lv_bipush (v := nI 12) hx hb dX8_find_13 (by decide) ?_
    refine en_icmp_lt (tgt := 22) hx hb (by omega) (by omega) dX8_find_15 (by decide) (fun c_3 => ?_) (fun c_3 => by exfalso; omega)
    refine lv_aload_n hx hb dX8_find_22 rfl (lv_at hl 0 rfl) ?_
    refine ev_row (v := .ref (b 2)) hx hb hts hi8 hown hK hP 0 (by decide) (hts (.fieldLink RX8 11 "EventloopRow$Things" "row" "[LEventloopRow$Thing;") (by decide +kernel)) rfl dX8_find_23 ?_
    refine lv_iload_n hx hb dX8_find_26 rfl (lv_at hl 1 rfl) ?_
    refine ev_rld hx hb hK hP j (by omega) (by omega) dX8_find_27 ?_
    have hi_4 : j < st.1 := by omega
    exact er_ref (ad := ad) (y := (some j)) hx hb hr hlocks (by first | exact (if_pos (by omega)).symm | exact (if_neg (by omega)).symm | (exfalso; omega)) dX8_find_28
set_option maxHeartbeats 4000000 in
set_option maxRecDepth 100000 in
theorem c_X8_find_m (l : Launch) {D : va_G} {cI cO : ClassId} {b : Nat → Nat} {ad : Nat → Nat → Nat} {st : ev_ST}  : Met l yX8_find wsX8_find ({ frames := 0, cells := 0, slots := 0, locals := 0 }) (ev_Pc D cI cO (ev_P D cI cO b ad st) [.ref (b 1), .int (-1)]) (ev_QV (some (ev_rf ad none))) 0 0 ev_no := by
  refine ev_body (cc := cX8_find) (maxL := 2) (ret := (some (.object "EventloopRow$Thing"))) (by decide) rfl (Nat.le_of_ble_eq_true rfl) ?_
  intro p e s m args below meth c hx hb hr hml hown hts hlocks hnm hP hK ls hl
  have hl : lv_has ls 2 [(0, .ref (b 1)), (1, .int (-1))] := hl
  refine lv_iload_n hx hb dX8_find_0 rfl (lv_at hl 1 rfl) ?_
  refine lv_if_lt (tgt := 18) hx hb dX8_find_1 (by decide) (fun _ => ?_) (fun h => absurd h (by decide))
  refine lv_null hx hb dX8_find_18 ?_
  refine lv_goto (tgt := 28) hx hb dX8_find_19 (by decide) ?_
  exact er_ref (ad := ad) (y := none) hx hb hr hlocks rfl dX8_find_28
set_option maxHeartbeats 4000000 in
set_option maxRecDepth 100000 in
theorem c_X8_isFull (l : Launch) {D : va_G} {cI cO : ClassId} {b : Nat → Nat} {ad : Nat → Nat → Nat} {st : ev_ST}  (hn : st.1 ≤ 12) : Met l yX8_isFull wsX8_isFull ({ frames := 0, cells := 0, slots := 0, locals := 0 }) (ev_Pc D cI cO (ev_P D cI cO b ad st) [.ref (b 1)]) (ev_QV (some (.int (ev_bi (decide (12 ≤ st.1)))))) 0 0 ev_no := by
  refine ev_body (cc := cX8_isFull) (maxL := 1) (ret := (some .boolean)) (by decide) rfl (Nat.le_of_ble_eq_true rfl) ?_
  intro p e s m args below meth c hx hb hr hml hown hts hlocks hnm hP hK ls hl
  have hl : lv_has ls 1 [(0, .ref (b 1))] := hl
  have hi8 : ∀ w ∈ wsX80, w ∈ wsX8_isFull := by decide +kernel
  refine lv_aload_n hx hb dX8_isFull_0 rfl (lv_at hl 0 rfl) ?_
  refine ev_row (v := .int (nI st.1)) hx hb hts hi8 hown hK hP 1 (by decide) (hts (.fieldLink RX8 17 "EventloopRow$Things" "count" "I") (by decide +kernel)) rfl dX8_isFull_1 ?_
  refine lv_bipush (v := nI 12) hx hb dX8_isFull_4 (by decide) ?_
  refine en_icmp_lt (tgt := 13) hx hb (by omega) (by omega) dX8_isFull_6 (by decide) (fun c_1 => ?_) (fun c_1 => ?_)
  ·
    refine lv_iconst (v := nI 0) hx hb dX8_isFull_13 (by decide) ?_
    exact er_bool hx hb hr hlocks (by simp [ev_bi, ev_n1, ev_n0]; omega) dX8_isFull_14
  ·
    refine lv_iconst (v := nI 1) hx hb dX8_isFull_9 (by decide) ?_
    refine lv_goto (tgt := 14) hx hb dX8_isFull_10 (by decide) ?_
    exact er_bool hx hb hr hlocks (by simp [ev_bi, ev_n1, ev_n0]; omega) dX8_isFull_14
set_option maxHeartbeats 4000000 in
set_option maxRecDepth 100000 in
theorem c_X8_yesOrNo (l : Launch) {D : va_G} {cI cO : ClassId} {b : Nat → Nat} {ad : Nat → Nat → Nat} {st : ev_ST}  {x : Nat} (hx1 : x ≤ 1) : Met l yX8_yesOrNo wsX8_yesOrNo ({ frames := 0, cells := 0, slots := 0, locals := 0 }) (ev_Pc D cI cO (ev_P D cI cO b ad st) [.int (nI x)]) (ev_QV (some (.int (nI (ev_yn x))))) 0 0 ev_no := by
  refine ev_body (cc := cX8_yesOrNo) (maxL := 1) (ret := (some .char)) (by decide) rfl (Nat.le_of_ble_eq_true rfl) ?_
  intro p e s m args below meth c hx hb hr hml hown hts hlocks hnm hP hK ls hl
  have hl : lv_has ls 1 [(0, .int (nI x))] := hl
  refine lv_iload_n hx hb dX8_yesOrNo_0 rfl (lv_at hl 0 rfl) ?_
  refine en_if_eq (tgt := 9) hx hb (by omega) dX8_yesOrNo_1 (by decide) (fun c_1 => ?_) (fun c_1 => ?_)
  ·
    refine lv_bipush (v := nI 110) hx hb dX8_yesOrNo_9 (by decide) ?_
    exact er_char hx hb hr hlocks (ev_yn_lt _) (by simp [ev_bi, ev_n1, ev_n0, ev_yn, c_1]) dX8_yesOrNo_11
  ·
    refine lv_bipush (v := nI 121) hx hb dX8_yesOrNo_4 (by decide) ?_
    refine lv_goto (tgt := 11) hx hb dX8_yesOrNo_6 (by decide) ?_
    exact er_char hx hb hr hlocks (ev_yn_lt _) (by simp [ev_bi, ev_n1, ev_n0, ev_yn, c_1]) dX8_yesOrNo_11
set_option maxHeartbeats 4000000 in
set_option maxRecDepth 100000 in
theorem c_X8_plainBehind (l : Launch) {D : va_G} {cI cO : ClassId} {b : Nat → Nat} {ad : Nat → Nat → Nat} {st : ev_ST}  (hn : st.1 ≤ 12) (hTG : ∀ i, i < st.1 → ∀ j, ev_tg (st.2 i) = some j → j < st.1) {i : Nat} (hi : i < st.1) : Met l yX8_plainBehind wsX8_plainBehind ({ frames := 1, cells := 0, slots := 0, locals := 20 }) (ev_Pc D cI cO (ev_P D cI cO b ad st) [.ref (b 1), .ref (ad i 0)]) (ev_QV (some (ev_rf ad (ev_pb st 12 (some i))))) 0 0 ev_no := by
  refine ev_body (cc := cX8_plainBehind) (maxL := 4) (ret := (some (.object "EventloopRow$Thing"))) (by decide) rfl (Nat.le_of_ble_eq_true rfl) ?_
  intro p e s m args below meth c hx hb hr hml hown hts hlocks hnm hP hK ls hl
  have hl : lv_has ls 4 [(0, .ref (b 1)), (1, .ref (ad i 0))] := hl
  have hi7 : ∀ w ∈ wsX70, w ∈ wsX8_plainBehind := by decide +kernel
  have LP : ∀ (n q : Nat) (o : Option Nat), q + n = 12 → (∀ j, o = some j → j < st.1) → ∀ ls : Array Slot, lv_has ls 4 [(0, .ref (b 1)), (1, .ref (ad i 0)), (2, ev_rf ad o), (3, .int (nI q))] → W p l e ({ frames := 1, cells := 0, slots := 0, locals := 20 }) s m args below meth c s.heap [] 0 0 (MQ below (ev_QV (some (ev_rf ad (ev_pb st n o)))) args s 0 0 ev_no) (F0 m 4 ls []) := by
    intro n
    induction n with
    | zero =>
      intro q o hq ho ls hl
      refine lv_iload_n hx hb dX8_plainBehind_4 rfl (lv_at hl 3 rfl) ?_
      refine lv_bipush (v := nI 12) hx hb dX8_plainBehind_5 (by decide) ?_
      refine en_icmp_ge (tgt := 45) hx hb (by omega) (by omega) dX8_plainBehind_7 (by decide) (fun c_1 => ?_) (fun c_1 => by exfalso; omega)
      refine lv_null hx hb dX8_plainBehind_45 ?_
      exact er_ref (ad := ad) (y := none) hx hb hr hlocks (by simp [ev_pb]) dX8_plainBehind_46
    | succ n ih =>
      intro q o hq ho ls hl
      cases o with
      | none =>
        have hl : lv_has ls 4 [(0, .ref (b 1)), (1, .ref (ad i 0)), (2, .null), (3, .int (nI q))] := hl
        refine lv_iload_n hx hb dX8_plainBehind_4 rfl (lv_at hl 3 rfl) ?_
        refine lv_bipush (v := nI 12) hx hb dX8_plainBehind_5 (by decide) ?_
        refine en_icmp_ge (tgt := 45) hx hb (by omega) (by omega) dX8_plainBehind_7 (by decide) (fun c_2 => by exfalso; omega) (fun c_2 => ?_)
        refine lv_aload_nN hx hb dX8_plainBehind_10 rfl (lv_at hl 2 rfl) ?_
        refine lv_ifnullN (tgt := 45) hx hb dX8_plainBehind_11 (by decide) ?_
        refine lv_null hx hb dX8_plainBehind_45 ?_
        exact er_ref (ad := ad) (y := none) hx hb hr hlocks (by simp [ev_pb]) dX8_plainBehind_46
      | some z =>
        have hz : z < st.1 := ho z rfl
        have hl : lv_has ls 4 [(0, .ref (b 1)), (1, .ref (ad i 0)), (2, .ref (ad z 0)), (3, .int (nI q))] := hl
        refine lv_iload_n hx hb dX8_plainBehind_4 rfl (lv_at hl 3 rfl) ?_
        refine lv_bipush (v := nI 12) hx hb dX8_plainBehind_5 (by decide) ?_
        refine en_icmp_ge (tgt := 45) hx hb (by omega) (by omega) dX8_plainBehind_7 (by decide) (fun c_3 => by exfalso; omega) (fun c_3 => ?_)
        refine lv_aload_n hx hb dX8_plainBehind_10 rfl (lv_at hl 2 rfl) ?_
        refine lv_ifnull hx hb dX8_plainBehind_11 ?_
        refine lv_aload_n hx hb dX8_plainBehind_14 rfl (lv_at hl 2 rfl) ?_
        refine ev_cv (As := []) (rest := []) ⟨hx, hb, hml, hown, hts⟩ (c_X7_isProxy l hz rfl) (cwV 0 hts gX8_plainBehind_X7_isProxy rfl rfl rfl (by decide +kernel) ⟨Nat.le_of_ble_eq_true rfl, Nat.le_of_ble_eq_true rfl⟩) hP hK (ev_recv hK hP hz) rfl hl.1 (Nat.le_of_ble_eq_true rfl) dX8_plainBehind_15 ⟨Nat.le_of_ble_eq_true rfl, Nat.le_of_ble_eq_true rfl⟩ ?_
        refine eb_if_ne (tgt := 23) hx hb dX8_plainBehind_18 (by decide) (fun c_4 => ?_) (fun c_4 => ?_)
        ·
          refine lv_aload_n hx hb dX8_plainBehind_23 rfl (lv_at hl 2 rfl) ?_
          refine ev_get (v := .int (ev_bi (ev_rv (st.2 z)))) hx hb hts hi7 hown hK hP hz rfl 2 (by decide) (hts (.fieldLink RX8 25 "EventloopRow$Thing" "revoked" "Z") (by decide +kernel)) rfl dX8_plainBehind_24 ?_
          refine eb_if_eq (tgt := 34) hx hb dX8_plainBehind_27 (by decide) (fun c_5 => ?_) (fun c_5 => ?_)
          ·
            refine lv_aload_n hx hb dX8_plainBehind_34 rfl (lv_at hl 2 rfl) ?_
            refine ev_get (v := ev_rf ad (ev_tg (st.2 z))) hx hb hts hi7 hown hK hP hz rfl 0 (by decide) (hts (.fieldLink RX8 29 "EventloopRow$Thing" "target" "LEventloopRow$Thing;") (by decide +kernel)) rfl dX8_plainBehind_35 ?_
            refine eo_astore_n (lv' := [(2, ev_rf ad (ev_tg (st.2 z))), (0, .ref (b 1)), (1, .ref (ad i 0)), (3, .int (nI q))]) hx hb dX8_plainBehind_38 rfl hl (by decide) rfl (fun ls hl => ?_)
            refine lv_iinc (v := nI (q + 1)) (lv' := [(3, .int (nI (q + 1))), (2, ev_rf ad (ev_tg (st.2 z))), (0, .ref (b 1)), (1, .ref (ad i 0))]) hx hb dX8_plainBehind_39 hl (k := 3) rfl (ev_inc1 _) (by decide) (by simp only [List.filter, ev_cat]; rfl) (fun ls hl => ?_)
            refine lv_goto (tgt := 4) hx hb dX8_plainBehind_42 (by decide) ?_
            rw [show ev_pb st (n + 1) (some z) = ev_pb st n (ev_tg (st.2 z)) from (by simp [ev_pb, c_4, c_5])]
            exact ih (q + 1) (ev_tg (st.2 z)) (by omega) (hTG z hz) ls (lv_sub hl [2, 3, 1, 0] rfl)
          ·
            refine lv_null hx hb dX8_plainBehind_30 ?_
            refine lv_goto (tgt := 38) hx hb dX8_plainBehind_31 (by decide) ?_
            refine lv_astore_nN (lv' := [(2, .null), (0, .ref (b 1)), (1, .ref (ad i 0)), (3, .int (nI q))]) hx hb dX8_plainBehind_38 rfl hl (by decide) rfl (fun ls hl => ?_)
            refine lv_iinc (v := nI (q + 1)) (lv' := [(3, .int (nI (q + 1))), (2, .null), (0, .ref (b 1)), (1, .ref (ad i 0))]) hx hb dX8_plainBehind_39 hl (k := 3) rfl (ev_inc1 _) (by decide) rfl (fun ls hl => ?_)
            refine lv_goto (tgt := 4) hx hb dX8_plainBehind_42 (by decide) ?_
            rw [show ev_pb st (n + 1) (some z) = ev_pb st n none from (by simp [ev_pb, c_4, c_5])]
            exact ih (q + 1) none (by omega) (fun _ h => by cases h) ls (lv_sub hl [2, 3, 1, 0] rfl)
        ·
          refine lv_aload_n hx hb dX8_plainBehind_21 rfl (lv_at hl 2 rfl) ?_
          exact er_ref (ad := ad) (y := (some z)) hx hb hr hlocks (by simp [ev_pb, c_4]) dX8_plainBehind_22
  refine lv_aload_n hx hb dX8_plainBehind_0 rfl (lv_at hl 1 rfl) ?_
  refine lv_astore_n (lv' := [(2, .ref (ad i 0)), (0, .ref (b 1)), (1, .ref (ad i 0))]) hx hb dX8_plainBehind_1 rfl hl (by decide) rfl (fun ls hl => ?_)
  refine lv_iconst (v := nI 0) hx hb dX8_plainBehind_2 (by decide) ?_
  refine lv_istore_n (lv' := [(3, .int (nI 0)), (2, .ref (ad i 0)), (0, .ref (b 1)), (1, .ref (ad i 0))]) hx hb dX8_plainBehind_3 rfl hl (by decide) rfl (fun ls hl => ?_)
  exact LP 12 0 (some i) rfl (fun _ h => by cases h; exact hi) ls (lv_sub hl [2, 3, 1, 0] rfl)
set_option maxHeartbeats 4000000 in
set_option maxRecDepth 100000 in
theorem c_X8_getFrom (l : Launch) {D : va_G} {cI cO : ClassId} {b : Nat → Nat} {ad : Nat → Nat → Nat} {st : ev_ST}  (hn : st.1 ≤ 12) (hTG : ∀ i, i < st.1 → ∀ j, ev_tg (st.2 i) = some j → j < st.1) (hCH : ∀ i, i < st.1 → ∀ j, ev_ch (st.2 i) = some j → j < st.1) {i k : Nat} (hi : i < st.1) (hk : k < 20) : Met l yX8_getFrom wsX8_getFrom ({ frames := 2, cells := 0, slots := 0, locals := 44 }) (ev_Pc D cI cO (ev_P D cI cO b ad st) [.ref (b 1), .ref (ad i 0), .int (nI k)]) (ev_QV (some (.long (ev_gf st k 30 (some i))))) 0 0 ev_no := by
  refine ev_body (cc := cX8_getFrom) (maxL := 7) (ret := (some .long)) (by decide) rfl (Nat.le_of_ble_eq_true rfl) ?_
  intro p e s m args below meth c hx hb hr hml hown hts hlocks hnm hP hK ls hl
  have hl : lv_has ls 7 [(0, .ref (b 1)), (1, .ref (ad i 0)), (2, .int (nI k))] := hl
  have hi7 : ∀ w ∈ wsX70, w ∈ wsX8_getFrom := by decide +kernel
  have LP : ∀ (n q : Nat) (o : Option Nat), q + n = 30 → (∀ j, o = some j → j < st.1) → ∀ ls : Array Slot, lv_has ls 7 [(0, .ref (b 1)), (1, .ref (ad i 0)), (2, .int (nI k)), (3, ev_rf ad o), (4, .int (nI q))] → W p l e ({ frames := 2, cells := 0, slots := 0, locals := 44 }) s m args below meth c s.heap [] 0 0 (MQ below (ev_QV (some (.long (ev_gf st k n o)))) args s 0 0 ev_no) (F0 m 5 ls []) := by
    intro n
    induction n with
    | zero =>
      intro q o hq ho ls hl
      refine lv_iload hx hb dX8_getFrom_5 (lv_at hl 4 rfl) ?_
      refine lv_bipush (v := nI 30) hx hb dX8_getFrom_7 (by decide) ?_
      refine en_icmp_ge (tgt := 119) hx hb (by omega) (by omega) dX8_getFrom_9 (by decide) (fun c_1 => ?_) (fun c_1 => by exfalso; omega)
      refine eo_aload_n hx hb dX8_getFrom_119 rfl (lv_at hl 3 rfl) ?_
      refine eo_ifnonnull (tgt := 127) hx hb dX8_getFrom_120 (by decide) (fun j_3 c_2 => ?_) (fun c_2 => ?_)
      · -- some
        subst c_2
        have hi_4 : j_3 < st.1 := ho _ rfl
        refine lv_ldc2 (v := 1099511627776) hx hb hown (hts (.constantLong RX8 33 (1099511627776)) (by decide +kernel)) dX8_getFrom_127 ?_
        exact er_long hx hb hr hlocks (by simp [ev_gf, ev_F]) dX8_getFrom_130
      · -- null
        subst c_2
        refine lv_lconst (v := 0) hx hb dX8_getFrom_123 (by decide) ?_
        refine lv_goto (tgt := 130) hx hb dX8_getFrom_124 (by decide) ?_
        exact er_long hx hb hr hlocks (by simp [ev_gf, ev_F]) dX8_getFrom_130
    | succ n ih =>
      intro q o hq ho ls hl
      cases o with
      | none =>
        have hl : lv_has ls 7 [(0, .ref (b 1)), (1, .ref (ad i 0)), (2, .int (nI k)), (3, .null), (4, .int (nI q))] := hl
        refine lv_iload hx hb dX8_getFrom_5 (lv_at hl 4 rfl) ?_
        refine lv_bipush (v := nI 30) hx hb dX8_getFrom_7 (by decide) ?_
        refine en_icmp_ge (tgt := 119) hx hb (by omega) (by omega) dX8_getFrom_9 (by decide) (fun c_5 => by exfalso; omega) (fun c_5 => ?_)
        refine lv_aload_nN hx hb dX8_getFrom_12 rfl (lv_at hl 3 rfl) ?_
        refine lv_ifnullN (tgt := 119) hx hb dX8_getFrom_13 (by decide) ?_
        refine lv_aload_nN hx hb dX8_getFrom_119 rfl (lv_at hl 3 rfl) ?_
        refine lv_ifnonnullN hx hb dX8_getFrom_120 ?_
        refine lv_lconst (v := 0) hx hb dX8_getFrom_123 (by decide) ?_
        refine lv_goto (tgt := 130) hx hb dX8_getFrom_124 (by decide) ?_
        exact er_long hx hb hr hlocks (by simp [ev_gf, ev_F]) dX8_getFrom_130
      | some z =>
        have hz : z < st.1 := ho z rfl
        have hl : lv_has ls 7 [(0, .ref (b 1)), (1, .ref (ad i 0)), (2, .int (nI k)), (3, .ref (ad z 0)), (4, .int (nI q))] := hl
        refine lv_iload hx hb dX8_getFrom_5 (lv_at hl 4 rfl) ?_
        refine lv_bipush (v := nI 30) hx hb dX8_getFrom_7 (by decide) ?_
        refine en_icmp_ge (tgt := 119) hx hb (by omega) (by omega) dX8_getFrom_9 (by decide) (fun c_6 => by exfalso; omega) (fun c_6 => ?_)
        refine lv_aload_n hx hb dX8_getFrom_12 rfl (lv_at hl 3 rfl) ?_
        refine lv_ifnull hx hb dX8_getFrom_13 ?_
        refine lv_aload_n hx hb dX8_getFrom_16 rfl (lv_at hl 3 rfl) ?_
        refine ev_cv (As := []) (rest := []) ⟨hx, hb, hml, hown, hts⟩ (c_X7_isProxy l hz rfl) (cwV 0 hts gX8_getFrom_X7_isProxy rfl rfl rfl (by decide +kernel) ⟨Nat.le_of_ble_eq_true rfl, Nat.le_of_ble_eq_true rfl⟩) hP hK (ev_recv hK hP hz) rfl hl.1 (Nat.le_of_ble_eq_true rfl) dX8_getFrom_17 ⟨Nat.le_of_ble_eq_true rfl, Nat.le_of_ble_eq_true rfl⟩ ?_
        refine eb_if_eq (tgt := 93) hx hb dX8_getFrom_20 (by decide) (fun c_7 => ?_) (fun c_7 => ?_)
        ·
          refine lv_aload_n hx hb dX8_getFrom_93 rfl (lv_at hl 3 rfl) ?_
          refine lv_iload_n hx hb dX8_getFrom_94 rfl (lv_at hl 2 rfl) ?_
          refine ev_cv (As := [.int (nI k)]) (rest := []) ⟨hx, hb, hml, hown, hts⟩ (c_X7_holds l hz rfl (k := k) (by omega)) (cwV 1 hts gX8_getFrom_X7_holds rfl rfl rfl (by decide +kernel) ⟨Nat.le_of_ble_eq_true rfl, Nat.le_of_ble_eq_true rfl⟩) hP hK (ev_recv hK hP hz) rfl hl.1 (Nat.le_of_ble_eq_true rfl) dX8_getFrom_95 ⟨Nat.le_of_ble_eq_true rfl, Nat.le_of_ble_eq_true rfl⟩ ?_
          refine eb_if_eq (tgt := 108) hx hb dX8_getFrom_98 (by decide) (fun c_8 => ?_) (fun c_8 => ?_)
          ·
            refine lv_aload_n hx hb dX8_getFrom_108 rfl (lv_at hl 3 rfl) ?_
            refine ev_get (v := ev_rf ad (ev_ch (st.2 z))) hx hb hts hi7 hown hK hP hz rfl 3 (by decide) (hts (.fieldLink RX8 57 "EventloopRow$Thing" "chain" "LEventloopRow$Thing;") (by decide +kernel)) rfl dX8_getFrom_109 ?_
            refine eo_astore_n (lv' := [(3, ev_rf ad (ev_ch (st.2 z))), (0, .ref (b 1)), (1, .ref (ad i 0)), (2, .int (nI k)), (4, .int (nI q))]) hx hb dX8_getFrom_112 rfl hl (by decide) rfl (fun ls hl => ?_)
            refine lv_iinc (v := nI (q + 1)) (lv' := [(4, .int (nI (q + 1))), (3, ev_rf ad (ev_ch (st.2 z))), (0, .ref (b 1)), (1, .ref (ad i 0)), (2, .int (nI k))]) hx hb dX8_getFrom_113 hl (k := 4) rfl (ev_inc1 _) (by decide) (by simp only [List.filter, ev_cat]; rfl) (fun ls hl => ?_)
            refine lv_goto (tgt := 5) hx hb dX8_getFrom_116 (by decide) ?_
            rw [show ev_gf st k (n + 1) (some z) = ev_gf st k n (ev_ch (st.2 z)) from (by simp [ev_gf, ev_F, c_7, c_8])]
            exact ih (q + 1) (ev_ch (st.2 z)) (by omega) (hCH z hz) ls (lv_sub hl [2, 3, 4, 1, 0] rfl)
          ·
            refine lv_aload_n hx hb dX8_getFrom_101 rfl (lv_at hl 3 rfl) ?_
            refine lv_iload_n hx hb dX8_getFrom_102 rfl (lv_at hl 2 rfl) ?_
            refine ev_cv (As := [.int (nI k)]) (rest := []) ⟨hx, hb, hml, hown, hts⟩ (c_X7_valueOf l hz rfl (k := k) (by omega)) (cwV 1 hts gX8_getFrom_X7_valueOf rfl rfl rfl (by decide +kernel) ⟨Nat.le_of_ble_eq_true rfl, Nat.le_of_ble_eq_true rfl⟩) hP hK (ev_recv hK hP hz) rfl hl.1 (Nat.le_of_ble_eq_true rfl) dX8_getFrom_103 ⟨Nat.le_of_ble_eq_true rfl, Nat.le_of_ble_eq_true rfl⟩ ?_
            refine lv_i2l hx hb dX8_getFrom_106 rfl ?_
            exact er_long hx hb hr hlocks (by simp [ev_gf, ev_F, c_7, c_8]) dX8_getFrom_107
        ·
          refine lv_aload_n hx hb dX8_getFrom_23 rfl (lv_at hl 3 rfl) ?_
          refine ev_get (v := .int (ev_bi (ev_rv (st.2 z)))) hx hb hts hi7 hown hK hP hz rfl 2 (by decide) (hts (.fieldLink RX8 25 "EventloopRow$Thing" "revoked" "Z") (by decide +kernel)) rfl dX8_getFrom_24 ?_
          refine eb_if_eq (tgt := 34) hx hb dX8_getFrom_27 (by decide) (fun c_9 => ?_) (fun c_9 => ?_)
          ·
            refine lv_aload_n hx hb dX8_getFrom_34 rfl (lv_at hl 3 rfl) ?_
            refine lv_iconst (v := nI 0) hx hb dX8_getFrom_35 (by decide) ?_
            refine ev_cv (As := [.int (nI 0)]) (rest := []) ⟨hx, hb, hml, hown, hts⟩ (c_X7_isTold l hz rfl (k := 0) (by omega)) (cwV 1 hts gX8_getFrom_X7_isTold rfl rfl rfl (by decide +kernel) ⟨Nat.le_of_ble_eq_true rfl, Nat.le_of_ble_eq_true rfl⟩) hP hK (ev_recv hK hP hz) rfl hl.1 (Nat.le_of_ble_eq_true rfl) dX8_getFrom_36 ⟨Nat.le_of_ble_eq_true rfl, Nat.le_of_ble_eq_true rfl⟩ ?_
            refine eb_if_eq (tgt := 85) hx hb dX8_getFrom_39 (by decide) (fun c_10 => ?_) (fun c_10 => ?_)
            ·
              refine lv_aload_n hx hb dX8_getFrom_85 rfl (lv_at hl 3 rfl) ?_
              refine ev_get (v := ev_rf ad (ev_tg (st.2 z))) hx hb hts hi7 hown hK hP hz rfl 0 (by decide) (hts (.fieldLink RX8 29 "EventloopRow$Thing" "target" "LEventloopRow$Thing;") (by decide +kernel)) rfl dX8_getFrom_86 ?_
              refine eo_astore_n (lv' := [(3, ev_rf ad (ev_tg (st.2 z))), (0, .ref (b 1)), (1, .ref (ad i 0)), (2, .int (nI k)), (4, .int (nI q))]) hx hb dX8_getFrom_89 rfl hl (by decide) rfl (fun ls hl => ?_)
              refine lv_goto (tgt := 113) hx hb dX8_getFrom_90 (by decide) ?_
              refine lv_iinc (v := nI (q + 1)) (lv' := [(4, .int (nI (q + 1))), (3, ev_rf ad (ev_tg (st.2 z))), (0, .ref (b 1)), (1, .ref (ad i 0)), (2, .int (nI k))]) hx hb dX8_getFrom_113 hl (k := 4) rfl (ev_inc1 _) (by decide) (by simp only [List.filter, ev_cat]; rfl) (fun ls hl => ?_)
              refine lv_goto (tgt := 5) hx hb dX8_getFrom_116 (by decide) ?_
              rw [show ev_gf st k (n + 1) (some z) = ev_gf st k n (ev_tg (st.2 z)) from (by simp [ev_gf, ev_F, c_7, c_9, c_10])]
              exact ih (q + 1) (ev_tg (st.2 z)) (by omega) (hTG z hz) ls (lv_sub hl [2, 3, 4, 1, 0] rfl)
            ·
              refine lv_aload_n hx hb dX8_getFrom_42 rfl (lv_at hl 3 rfl) ?_
              refine lv_iconst (v := nI 0) hx hb dX8_getFrom_43 (by decide) ?_
              refine ev_cv (As := [.int (nI 0)]) (rest := []) ⟨hx, hb, hml, hown, hts⟩ (c_X7_answerTo l hz rfl (k := 0) (by omega)) (cwV 1 hts gX8_getFrom_X7_answerTo rfl rfl rfl (by decide +kernel) ⟨Nat.le_of_ble_eq_true rfl, Nat.le_of_ble_eq_true rfl⟩) hP hK (ev_recv hK hP hz) rfl hl.1 (Nat.le_of_ble_eq_true rfl) dX8_getFrom_44 ⟨Nat.le_of_ble_eq_true rfl, Nat.le_of_ble_eq_true rfl⟩ ?_
              refine lv_istore (lv' := [(5, .int (ev_an (st.2 z) 0)), (0, .ref (b 1)), (1, .ref (ad i 0)), (2, .int (nI k)), (3, .ref (ad z 0)), (4, .int (nI q))]) hx hb dX8_getFrom_47 hl (by decide) rfl (fun ls hl => ?_)
              refine lv_aload_n hx hb dX8_getFrom_49 rfl (lv_at hl 1 rfl) ?_
              refine lv_aload_n hx hb dX8_getFrom_50 rfl (lv_at hl 4 rfl) ?_
              refine ev_get (v := ev_rf ad (ev_tg (st.2 z))) hx hb hts hi7 hown hK hP hz rfl 0 (by decide) (hts (.fieldLink RX8 29 "EventloopRow$Thing" "target" "LEventloopRow$Thing;") (by decide +kernel)) rfl dX8_getFrom_51 ?_
              obtain ⟨j_11, e_12⟩ := Option.isSome_iff_exists.mp c_7
              rw [e_12]
              have hi_13 : j_11 < st.1 := (hTG z hz) _ e_12
              refine ev_cv (As := [.ref (ad j_11 0)]) (rest := []) ⟨hx, hb, hml, hown, hts⟩ (c_X8_plainBehind l hn hTG hi_13) (cwV 1 hts gX8_getFrom_X8_plainBehind rfl rfl rfl (by decide +kernel) ⟨Nat.le_of_ble_eq_true rfl, Nat.le_of_ble_eq_true rfl⟩) hP hK (ev_recvT hK hP) rfl hl.1 (Nat.le_of_ble_eq_true rfl) dX8_getFrom_54 ⟨Nat.le_of_ble_eq_true rfl, Nat.le_of_ble_eq_true rfl⟩ ?_
              refine eo_astore (lv' := [(6, ev_rf ad (ev_pb st 12 (some j_11))), (5, .int (ev_an (st.2 z) 0)), (0, .ref (b 1)), (1, .ref (ad i 0)), (2, .int (nI k)), (3, .ref (ad z 0)), (4, .int (nI q))]) hx hb dX8_getFrom_57 hl (by decide) rfl (fun ls hl => ?_)
              refine eo_aload hx hb dX8_getFrom_59 (lv_at hl 0 rfl) ?_
              refine eo_ifnull (tgt := 75) hx hb dX8_getFrom_61 (by decide) (fun c_14 => ?_) (fun j_15 c_14 => ?_)
              · -- null
                rw [c_14] at hl
                have hl : lv_has ls 7 [(6, .null), (5, .int (ev_an (st.2 z) 0)), (0, .ref (b 1)), (1, .ref (ad i 0)), (2, .int (nI k)), (3, .ref (ad z 0)), (4, .int (nI q))] := hl
                refine lv_ldc2 (v := 1099511627776) hx hb hown (hts (.constantLong RX8 33 (1099511627776)) (by decide +kernel)) dX8_getFrom_75 ?_
                refine lv_goto (tgt := 84) hx hb dX8_getFrom_78 (by decide) ?_
                exact er_long hx hb hr hlocks (by simp [ev_gf, ev_F, c_7, c_9, c_10, e_12, c_14]) dX8_getFrom_84
              · -- some
                rw [c_14] at hl
                have hi_16 : j_15 < st.1 := (ev_pb_lt hTG 12 (some j_11) (fun _ h => by cases h; exact hi_13)) _ c_14
                have hl : lv_has ls 7 [(6, .ref (ad j_15 0)), (5, .int (ev_an (st.2 z) 0)), (0, .ref (b 1)), (1, .ref (ad i 0)), (2, .int (nI k)), (3, .ref (ad z 0)), (4, .int (nI q))] := hl
                refine lv_aload hx hb dX8_getFrom_64 (lv_at hl 0 rfl) ?_
                refine lv_iload_n hx hb dX8_getFrom_66 rfl (lv_at hl 4 rfl) ?_
                refine lv_iload hx hb dX8_getFrom_67 (lv_at hl 1 rfl) ?_
                refine ev_cv (As := [.int (nI k), .int (ev_an (st.2 z) 0)]) (rest := []) ⟨hx, hb, hml, hown, hts⟩ (c_X7_keepsOther l hi_16 rfl (k := k) (v := (ev_an (st.2 z) 0)) (by omega)) (cwV 2 hts gX8_getFrom_X7_keepsOther rfl rfl rfl (by decide +kernel) ⟨Nat.le_of_ble_eq_true rfl, Nat.le_of_ble_eq_true rfl⟩) hP hK (ev_recv hK hP hi_16) rfl hl.1 (Nat.le_of_ble_eq_true rfl) dX8_getFrom_69 ⟨Nat.le_of_ble_eq_true rfl, Nat.le_of_ble_eq_true rfl⟩ ?_
                refine eb_if_eq (tgt := 81) hx hb dX8_getFrom_72 (by decide) (fun c_17 => ?_) (fun c_17 => ?_)
                ·
                  refine lv_iload hx hb dX8_getFrom_81 (lv_at hl 1 rfl) ?_
                  refine lv_i2l hx hb dX8_getFrom_83 rfl ?_
                  exact er_long hx hb hr hlocks (by simp [ev_gf, ev_F, c_7, c_9, c_10, e_12, c_14, c_17]) dX8_getFrom_84
                ·
                  refine lv_ldc2 (v := 1099511627776) hx hb hown (hts (.constantLong RX8 33 (1099511627776)) (by decide +kernel)) dX8_getFrom_75 ?_
                  refine lv_goto (tgt := 84) hx hb dX8_getFrom_78 (by decide) ?_
                  exact er_long hx hb hr hlocks (by simp [ev_gf, ev_F, c_7, c_9, c_10, e_12, c_14, c_17]) dX8_getFrom_84
          ·
            refine lv_ldc2 (v := 1099511627776) hx hb hown (hts (.constantLong RX8 33 (1099511627776)) (by decide +kernel)) dX8_getFrom_30 ?_
            exact er_long hx hb hr hlocks (by simp [ev_gf, ev_F, c_7, c_9]) dX8_getFrom_33
  refine lv_aload_n hx hb dX8_getFrom_0 rfl (lv_at hl 1 rfl) ?_
  refine lv_astore_n (lv' := [(3, .ref (ad i 0)), (0, .ref (b 1)), (1, .ref (ad i 0)), (2, .int (nI k))]) hx hb dX8_getFrom_1 rfl hl (by decide) rfl (fun ls hl => ?_)
  refine lv_iconst (v := nI 0) hx hb dX8_getFrom_2 (by decide) ?_
  refine lv_istore (lv' := [(4, .int (nI 0)), (3, .ref (ad i 0)), (0, .ref (b 1)), (1, .ref (ad i 0)), (2, .int (nI k))]) hx hb dX8_getFrom_3 hl (by decide) rfl (fun ls hl => ?_)
  exact LP 30 0 (some i) rfl (fun _ h => by cases h; exact hi) ls (lv_sub hl [2, 3, 4, 1, 0] rfl)
set_option maxHeartbeats 4000000 in
set_option maxRecDepth 100000 in
theorem c_X8_askFrom (l : Launch) {D : va_G} {cI cO : ClassId} {b : Nat → Nat} {ad : Nat → Nat → Nat} {st : ev_ST}  (hn : st.1 ≤ 12) (hTG : ∀ i, i < st.1 → ∀ j, ev_tg (st.2 i) = some j → j < st.1) (hCH : ∀ i, i < st.1 → ∀ j, ev_ch (st.2 i) = some j → j < st.1) {i k : Nat} (hi : i < st.1) (hk : k < 20) : Met l yX8_askFrom wsX8_askFrom ({ frames := 2, cells := 0, slots := 0, locals := 43 }) (ev_Pc D cI cO (ev_P D cI cO b ad st) [.ref (b 1), .ref (ad i 0), .int (nI k)]) (ev_QV (some (.int (nI (ev_af st k 30 (some i)))))) 0 0 ev_no := by
  refine ev_body (cc := cX8_askFrom) (maxL := 7) (ret := (some .char)) (by decide) rfl (Nat.le_of_ble_eq_true rfl) ?_
  intro p e s m args below meth c hx hb hr hml hown hts hlocks hnm hP hK ls hl
  have hl : lv_has ls 7 [(0, .ref (b 1)), (1, .ref (ad i 0)), (2, .int (nI k))] := hl
  have hi7 : ∀ w ∈ wsX70, w ∈ wsX8_askFrom := by decide +kernel
  have LP : ∀ (n q : Nat) (o : Option Nat), q + n = 30 → (∀ j, o = some j → j < st.1) → ∀ ls : Array Slot, lv_has ls 7 [(0, .ref (b 1)), (1, .ref (ad i 0)), (2, .int (nI k)), (3, ev_rf ad o), (4, .int (nI q))] → W p l e ({ frames := 2, cells := 0, slots := 0, locals := 43 }) s m args below meth c s.heap [] 0 0 (MQ below (ev_QV (some (.int (nI (ev_af st k n o))))) args s 0 0 ev_no) (F0 m 5 ls []) := by
    intro n
    induction n with
    | zero =>
      intro q o hq ho ls hl
      refine lv_iload hx hb dX8_askFrom_5 (lv_at hl 4 rfl) ?_
      refine lv_bipush (v := nI 30) hx hb dX8_askFrom_7 (by decide) ?_
      refine en_icmp_ge (tgt := 127) hx hb (by omega) (by omega) dX8_askFrom_9 (by decide) (fun c_1 => ?_) (fun c_1 => by exfalso; omega)
      refine eo_aload_n hx hb dX8_askFrom_127 rfl (lv_at hl 3 rfl) ?_
      refine eo_ifnonnull (tgt := 136) hx hb dX8_askFrom_128 (by decide) (fun j_3 c_2 => ?_) (fun c_2 => ?_)
      · -- some
        subst c_2
        have hi_4 : j_3 < st.1 := ho _ rfl
        refine lv_bipush (v := nI 84) hx hb dX8_askFrom_136 (by decide) ?_
        exact er_char hx hb hr hlocks (ev_af_lt _ _ _ _) (by simp [ev_af, ev_yn]) dX8_askFrom_138
      · -- null
        subst c_2
        refine lv_bipush (v := nI 110) hx hb dX8_askFrom_131 (by decide) ?_
        refine lv_goto (tgt := 138) hx hb dX8_askFrom_133 (by decide) ?_
        exact er_char hx hb hr hlocks (ev_af_lt _ _ _ _) (by simp [ev_af, ev_yn]) dX8_askFrom_138
    | succ n ih =>
      intro q o hq ho ls hl
      cases o with
      | none =>
        have hl : lv_has ls 7 [(0, .ref (b 1)), (1, .ref (ad i 0)), (2, .int (nI k)), (3, .null), (4, .int (nI q))] := hl
        refine lv_iload hx hb dX8_askFrom_5 (lv_at hl 4 rfl) ?_
        refine lv_bipush (v := nI 30) hx hb dX8_askFrom_7 (by decide) ?_
        refine en_icmp_ge (tgt := 127) hx hb (by omega) (by omega) dX8_askFrom_9 (by decide) (fun c_5 => by exfalso; omega) (fun c_5 => ?_)
        refine lv_aload_nN hx hb dX8_askFrom_12 rfl (lv_at hl 3 rfl) ?_
        refine lv_ifnullN (tgt := 127) hx hb dX8_askFrom_13 (by decide) ?_
        refine lv_aload_nN hx hb dX8_askFrom_127 rfl (lv_at hl 3 rfl) ?_
        refine lv_ifnonnullN hx hb dX8_askFrom_128 ?_
        refine lv_bipush (v := nI 110) hx hb dX8_askFrom_131 (by decide) ?_
        refine lv_goto (tgt := 138) hx hb dX8_askFrom_133 (by decide) ?_
        exact er_char hx hb hr hlocks (ev_af_lt _ _ _ _) (by simp [ev_af, ev_yn]) dX8_askFrom_138
      | some z =>
        have hz : z < st.1 := ho z rfl
        have hl : lv_has ls 7 [(0, .ref (b 1)), (1, .ref (ad i 0)), (2, .int (nI k)), (3, .ref (ad z 0)), (4, .int (nI q))] := hl
        refine lv_iload hx hb dX8_askFrom_5 (lv_at hl 4 rfl) ?_
        refine lv_bipush (v := nI 30) hx hb dX8_askFrom_7 (by decide) ?_
        refine en_icmp_ge (tgt := 127) hx hb (by omega) (by omega) dX8_askFrom_9 (by decide) (fun c_6 => by exfalso; omega) (fun c_6 => ?_)
        refine lv_aload_n hx hb dX8_askFrom_12 rfl (lv_at hl 3 rfl) ?_
        refine lv_ifnull hx hb dX8_askFrom_13 ?_
        refine lv_aload_n hx hb dX8_askFrom_16 rfl (lv_at hl 3 rfl) ?_
        refine ev_cv (As := []) (rest := []) ⟨hx, hb, hml, hown, hts⟩ (c_X7_isProxy l hz rfl) (cwV 0 hts gX8_askFrom_X7_isProxy rfl rfl rfl (by decide +kernel) ⟨Nat.le_of_ble_eq_true rfl, Nat.le_of_ble_eq_true rfl⟩) hP hK (ev_recv hK hP hz) rfl hl.1 (Nat.le_of_ble_eq_true rfl) dX8_askFrom_17 ⟨Nat.le_of_ble_eq_true rfl, Nat.le_of_ble_eq_true rfl⟩ ?_
        refine eb_if_eq (tgt := 105) hx hb dX8_askFrom_20 (by decide) (fun c_7 => ?_) (fun c_7 => ?_)
        ·
          refine lv_aload_n hx hb dX8_askFrom_105 rfl (lv_at hl 3 rfl) ?_
          refine lv_iload_n hx hb dX8_askFrom_106 rfl (lv_at hl 2 rfl) ?_
          refine ev_cv (As := [.int (nI k)]) (rest := []) ⟨hx, hb, hml, hown, hts⟩ (c_X7_holds l hz rfl (k := k) (by omega)) (cwV 1 hts gX8_askFrom_X7_holds rfl rfl rfl (by decide +kernel) ⟨Nat.le_of_ble_eq_true rfl, Nat.le_of_ble_eq_true rfl⟩) hP hK (ev_recv hK hP hz) rfl hl.1 (Nat.le_of_ble_eq_true rfl) dX8_askFrom_107 ⟨Nat.le_of_ble_eq_true rfl, Nat.le_of_ble_eq_true rfl⟩ ?_
          refine eb_if_eq (tgt := 116) hx hb dX8_askFrom_110 (by decide) (fun c_8 => ?_) (fun c_8 => ?_)
          ·
            refine lv_aload_n hx hb dX8_askFrom_116 rfl (lv_at hl 3 rfl) ?_
            refine ev_get (v := ev_rf ad (ev_ch (st.2 z))) hx hb hts hi7 hown hK hP hz rfl 3 (by decide) (hts (.fieldLink RX8 57 "EventloopRow$Thing" "chain" "LEventloopRow$Thing;") (by decide +kernel)) rfl dX8_askFrom_117 ?_
            refine eo_astore_n (lv' := [(3, ev_rf ad (ev_ch (st.2 z))), (0, .ref (b 1)), (1, .ref (ad i 0)), (2, .int (nI k)), (4, .int (nI q))]) hx hb dX8_askFrom_120 rfl hl (by decide) rfl (fun ls hl => ?_)
            refine lv_iinc (v := nI (q + 1)) (lv' := [(4, .int (nI (q + 1))), (3, ev_rf ad (ev_ch (st.2 z))), (0, .ref (b 1)), (1, .ref (ad i 0)), (2, .int (nI k))]) hx hb dX8_askFrom_121 hl (k := 4) rfl (ev_inc1 _) (by decide) (by simp only [List.filter, ev_cat]; rfl) (fun ls hl => ?_)
            refine lv_goto (tgt := 5) hx hb dX8_askFrom_124 (by decide) ?_
            rw [show ev_af st k (n + 1) (some z) = ev_af st k n (ev_ch (st.2 z)) from (by simp [ev_af, ev_yn, c_7, c_8])]
            exact ih (q + 1) (ev_ch (st.2 z)) (by omega) (hCH z hz) ls (lv_sub hl [2, 3, 4, 1, 0] rfl)
          ·
            refine lv_bipush (v := nI 121) hx hb dX8_askFrom_113 (by decide) ?_
            exact er_char hx hb hr hlocks (ev_af_lt _ _ _ _) (by simp [ev_af, ev_yn, c_7, c_8]) dX8_askFrom_115
        ·
          refine lv_aload_n hx hb dX8_askFrom_23 rfl (lv_at hl 3 rfl) ?_
          refine ev_get (v := .int (ev_bi (ev_rv (st.2 z)))) hx hb hts hi7 hown hK hP hz rfl 2 (by decide) (hts (.fieldLink RX8 25 "EventloopRow$Thing" "revoked" "Z") (by decide +kernel)) rfl dX8_askFrom_24 ?_
          refine eb_if_eq (tgt := 33) hx hb dX8_askFrom_27 (by decide) (fun c_9 => ?_) (fun c_9 => ?_)
          ·
            refine lv_aload_n hx hb dX8_askFrom_33 rfl (lv_at hl 3 rfl) ?_
            refine lv_iconst (v := nI 1) hx hb dX8_askFrom_34 (by decide) ?_
            refine ev_cv (As := [.int (nI 1)]) (rest := []) ⟨hx, hb, hml, hown, hts⟩ (c_X7_isTold l hz rfl (k := 1) (by omega)) (cwV 1 hts gX8_askFrom_X7_isTold rfl rfl rfl (by decide +kernel) ⟨Nat.le_of_ble_eq_true rfl, Nat.le_of_ble_eq_true rfl⟩) hP hK (ev_recv hK hP hz) rfl hl.1 (Nat.le_of_ble_eq_true rfl) dX8_askFrom_35 ⟨Nat.le_of_ble_eq_true rfl, Nat.le_of_ble_eq_true rfl⟩ ?_
            refine eb_if_eq (tgt := 97) hx hb dX8_askFrom_38 (by decide) (fun c_10 => ?_) (fun c_10 => ?_)
            ·
              refine lv_aload_n hx hb dX8_askFrom_97 rfl (lv_at hl 3 rfl) ?_
              refine ev_get (v := ev_rf ad (ev_tg (st.2 z))) hx hb hts hi7 hown hK hP hz rfl 0 (by decide) (hts (.fieldLink RX8 29 "EventloopRow$Thing" "target" "LEventloopRow$Thing;") (by decide +kernel)) rfl dX8_askFrom_98 ?_
              refine eo_astore_n (lv' := [(3, ev_rf ad (ev_tg (st.2 z))), (0, .ref (b 1)), (1, .ref (ad i 0)), (2, .int (nI k)), (4, .int (nI q))]) hx hb dX8_askFrom_101 rfl hl (by decide) rfl (fun ls hl => ?_)
              refine lv_goto (tgt := 121) hx hb dX8_askFrom_102 (by decide) ?_
              refine lv_iinc (v := nI (q + 1)) (lv' := [(4, .int (nI (q + 1))), (3, ev_rf ad (ev_tg (st.2 z))), (0, .ref (b 1)), (1, .ref (ad i 0)), (2, .int (nI k))]) hx hb dX8_askFrom_121 hl (k := 4) rfl (ev_inc1 _) (by decide) (by simp only [List.filter, ev_cat]; rfl) (fun ls hl => ?_)
              refine lv_goto (tgt := 5) hx hb dX8_askFrom_124 (by decide) ?_
              rw [show ev_af st k (n + 1) (some z) = ev_af st k n (ev_tg (st.2 z)) from (by simp [ev_af, ev_yn, c_7, c_9, c_10])]
              exact ih (q + 1) (ev_tg (st.2 z)) (by omega) (hTG z hz) ls (lv_sub hl [2, 3, 4, 1, 0] rfl)
            ·
              refine lv_aload_n hx hb dX8_askFrom_41 rfl (lv_at hl 3 rfl) ?_
              refine lv_iconst (v := nI 1) hx hb dX8_askFrom_42 (by decide) ?_
              refine ev_cv (As := [.int (nI 1)]) (rest := []) ⟨hx, hb, hml, hown, hts⟩ (c_X7_answerTo l hz rfl (k := 1) (by omega)) (cwV 1 hts gX8_askFrom_X7_answerTo rfl rfl rfl (by decide +kernel) ⟨Nat.le_of_ble_eq_true rfl, Nat.le_of_ble_eq_true rfl⟩) hP hK (ev_recv hK hP hz) rfl hl.1 (Nat.le_of_ble_eq_true rfl) dX8_askFrom_43 ⟨Nat.le_of_ble_eq_true rfl, Nat.le_of_ble_eq_true rfl⟩ ?_
              refine lv_iconst (v := nI 1) hx hb dX8_askFrom_46 (by decide) ?_
              refine lv_icmp_ne (tgt := 54) hx hb dX8_askFrom_47 (by decide) (fun c_11 => ?_) (fun c_11 => ?_)
              ·
                refine lv_iconst (v := nI 0) hx hb dX8_askFrom_54 (by decide) ?_
                refine lv_istore (lv' := [(5, .int (nI 0)), (0, .ref (b 1)), (1, .ref (ad i 0)), (2, .int (nI k)), (3, .ref (ad z 0)), (4, .int (nI q))]) hx hb dX8_askFrom_55 hl (by decide) rfl (fun ls hl => ?_)
                refine lv_aload_n hx hb dX8_askFrom_57 rfl (lv_at hl 1 rfl) ?_
                refine lv_aload_n hx hb dX8_askFrom_58 rfl (lv_at hl 4 rfl) ?_
                refine ev_get (v := ev_rf ad (ev_tg (st.2 z))) hx hb hts hi7 hown hK hP hz rfl 0 (by decide) (hts (.fieldLink RX8 29 "EventloopRow$Thing" "target" "LEventloopRow$Thing;") (by decide +kernel)) rfl dX8_askFrom_59 ?_
                obtain ⟨j_12, e_13⟩ := Option.isSome_iff_exists.mp c_7
                rw [e_13]
                have hi_14 : j_12 < st.1 := (hTG z hz) _ e_13
                refine ev_cv (As := [.ref (ad j_12 0)]) (rest := []) ⟨hx, hb, hml, hown, hts⟩ (c_X8_plainBehind l hn hTG hi_14) (cwV 1 hts gX8_askFrom_X8_plainBehind rfl rfl rfl (by decide +kernel) ⟨Nat.le_of_ble_eq_true rfl, Nat.le_of_ble_eq_true rfl⟩) hP hK (ev_recvT hK hP) rfl hl.1 (Nat.le_of_ble_eq_true rfl) dX8_askFrom_62 ⟨Nat.le_of_ble_eq_true rfl, Nat.le_of_ble_eq_true rfl⟩ ?_
                refine eo_astore (lv' := [(6, ev_rf ad (ev_pb st 12 (some j_12))), (5, .int (nI 0)), (0, .ref (b 1)), (1, .ref (ad i 0)), (2, .int (nI k)), (3, .ref (ad z 0)), (4, .int (nI q))]) hx hb dX8_askFrom_65 hl (by decide) rfl (fun ls hl => ?_)
                refine eo_aload hx hb dX8_askFrom_67 (lv_at hl 0 rfl) ?_
                refine eo_ifnull (tgt := 86) hx hb dX8_askFrom_69 (by decide) (fun c_15 => ?_) (fun j_16 c_15 => ?_)
                · -- null
                  rw [c_15] at hl
                  have hl : lv_has ls 7 [(6, .null), (5, .int (nI 0)), (0, .ref (b 1)), (1, .ref (ad i 0)), (2, .int (nI k)), (3, .ref (ad z 0)), (4, .int (nI q))] := hl
                  refine lv_bipush (v := nI 84) hx hb dX8_askFrom_86 (by decide) ?_
                  refine lv_goto (tgt := 96) hx hb dX8_askFrom_88 (by decide) ?_
                  exact er_char hx hb hr hlocks (ev_af_lt _ _ _ _) (by simp [ev_af, ev_yn, c_7, c_9, c_10, c_11, e_13, c_15]) dX8_askFrom_96
                · -- some
                  rw [c_15] at hl
                  have hi_17 : j_16 < st.1 := (ev_pb_lt hTG 12 (some j_12) (fun _ h => by cases h; exact hi_14)) _ c_15
                  have hl : lv_has ls 7 [(6, .ref (ad j_16 0)), (5, .int (nI 0)), (0, .ref (b 1)), (1, .ref (ad i 0)), (2, .int (nI k)), (3, .ref (ad z 0)), (4, .int (nI q))] := hl
                  refine lv_iload hx hb dX8_askFrom_72 (lv_at hl 1 rfl) ?_
                  refine en_if_ne (tgt := 91) hx hb (by omega) dX8_askFrom_74 (by decide) (fun c_18 => by exfalso; omega) (fun c_18 => ?_)
                  refine lv_aload hx hb dX8_askFrom_77 (lv_at hl 0 rfl) ?_
                  refine lv_iload_n hx hb dX8_askFrom_79 rfl (lv_at hl 4 rfl) ?_
                  refine ev_cv (As := [.int (nI k)]) (rest := []) ⟨hx, hb, hml, hown, hts⟩ (c_X7_keepsKey l hi_17 rfl (k := k) (by omega)) (cwV 1 hts gX8_askFrom_X7_keepsKey rfl rfl rfl (by decide +kernel) ⟨Nat.le_of_ble_eq_true rfl, Nat.le_of_ble_eq_true rfl⟩) hP hK (ev_recv hK hP hi_17) rfl hl.1 (Nat.le_of_ble_eq_true rfl) dX8_askFrom_80 ⟨Nat.le_of_ble_eq_true rfl, Nat.le_of_ble_eq_true rfl⟩ ?_
                  refine eb_if_eq (tgt := 91) hx hb dX8_askFrom_83 (by decide) (fun c_19 => ?_) (fun c_19 => ?_)
                  ·
                    refine lv_iload hx hb dX8_askFrom_91 (lv_at hl 1 rfl) ?_
                    refine ev_cst (As := [.int (nI 0)]) (rest := []) ⟨hx, hb, hml, hown, hts⟩ (c_X8_yesOrNo l (b := b) (ad := ad) (x := 0) (by omega)) (va_cwS 1 hts gX8_askFrom_X8_yesOrNo rfl rfl rfl (by decide +kernel) ⟨Nat.le_of_ble_eq_true rfl, Nat.le_of_ble_eq_true rfl⟩) hP hK rfl hl.1 (Nat.le_of_ble_eq_true rfl) dX8_askFrom_93 ⟨Nat.le_of_ble_eq_true rfl, Nat.le_of_ble_eq_true rfl⟩ ?_
                    exact er_char hx hb hr hlocks (ev_af_lt _ _ _ _) (by simp [ev_af, ev_yn, c_7, c_9, c_10, c_11, e_13, c_15, c_19]) dX8_askFrom_96
                  ·
                    refine lv_bipush (v := nI 84) hx hb dX8_askFrom_86 (by decide) ?_
                    refine lv_goto (tgt := 96) hx hb dX8_askFrom_88 (by decide) ?_
                    exact er_char hx hb hr hlocks (ev_af_lt _ _ _ _) (by simp [ev_af, ev_yn, c_7, c_9, c_10, c_11, e_13, c_15, c_19]) dX8_askFrom_96
              ·
                refine lv_iconst (v := nI 1) hx hb dX8_askFrom_50 (by decide) ?_
                refine lv_goto (tgt := 55) hx hb dX8_askFrom_51 (by decide) ?_
                refine lv_istore (lv' := [(5, .int (nI 1)), (0, .ref (b 1)), (1, .ref (ad i 0)), (2, .int (nI k)), (3, .ref (ad z 0)), (4, .int (nI q))]) hx hb dX8_askFrom_55 hl (by decide) rfl (fun ls hl => ?_)
                refine lv_aload_n hx hb dX8_askFrom_57 rfl (lv_at hl 1 rfl) ?_
                refine lv_aload_n hx hb dX8_askFrom_58 rfl (lv_at hl 4 rfl) ?_
                refine ev_get (v := ev_rf ad (ev_tg (st.2 z))) hx hb hts hi7 hown hK hP hz rfl 0 (by decide) (hts (.fieldLink RX8 29 "EventloopRow$Thing" "target" "LEventloopRow$Thing;") (by decide +kernel)) rfl dX8_askFrom_59 ?_
                obtain ⟨j_20, e_21⟩ := Option.isSome_iff_exists.mp c_7
                rw [e_21]
                have hi_22 : j_20 < st.1 := (hTG z hz) _ e_21
                refine ev_cv (As := [.ref (ad j_20 0)]) (rest := []) ⟨hx, hb, hml, hown, hts⟩ (c_X8_plainBehind l hn hTG hi_22) (cwV 1 hts gX8_askFrom_X8_plainBehind rfl rfl rfl (by decide +kernel) ⟨Nat.le_of_ble_eq_true rfl, Nat.le_of_ble_eq_true rfl⟩) hP hK (ev_recvT hK hP) rfl hl.1 (Nat.le_of_ble_eq_true rfl) dX8_askFrom_62 ⟨Nat.le_of_ble_eq_true rfl, Nat.le_of_ble_eq_true rfl⟩ ?_
                refine eo_astore (lv' := [(6, ev_rf ad (ev_pb st 12 (some j_20))), (5, .int (nI 1)), (0, .ref (b 1)), (1, .ref (ad i 0)), (2, .int (nI k)), (3, .ref (ad z 0)), (4, .int (nI q))]) hx hb dX8_askFrom_65 hl (by decide) rfl (fun ls hl => ?_)
                refine eo_aload hx hb dX8_askFrom_67 (lv_at hl 0 rfl) ?_
                refine eo_ifnull (tgt := 86) hx hb dX8_askFrom_69 (by decide) (fun c_23 => ?_) (fun j_24 c_23 => ?_)
                · -- null
                  rw [c_23] at hl
                  have hl : lv_has ls 7 [(6, .null), (5, .int (nI 1)), (0, .ref (b 1)), (1, .ref (ad i 0)), (2, .int (nI k)), (3, .ref (ad z 0)), (4, .int (nI q))] := hl
                  refine lv_bipush (v := nI 84) hx hb dX8_askFrom_86 (by decide) ?_
                  refine lv_goto (tgt := 96) hx hb dX8_askFrom_88 (by decide) ?_
                  exact er_char hx hb hr hlocks (ev_af_lt _ _ _ _) (by simp [ev_af, ev_yn, c_7, c_9, c_10, c_11, e_21, c_23]) dX8_askFrom_96
                · -- some
                  rw [c_23] at hl
                  have hi_25 : j_24 < st.1 := (ev_pb_lt hTG 12 (some j_20) (fun _ h => by cases h; exact hi_22)) _ c_23
                  have hl : lv_has ls 7 [(6, .ref (ad j_24 0)), (5, .int (nI 1)), (0, .ref (b 1)), (1, .ref (ad i 0)), (2, .int (nI k)), (3, .ref (ad z 0)), (4, .int (nI q))] := hl
                  refine lv_iload hx hb dX8_askFrom_72 (lv_at hl 1 rfl) ?_
                  refine en_if_ne (tgt := 91) hx hb (by omega) dX8_askFrom_74 (by decide) (fun c_26 => ?_) (fun c_26 => by exfalso; omega)
                  refine lv_iload hx hb dX8_askFrom_91 (lv_at hl 1 rfl) ?_
                  refine ev_cst (As := [.int (nI 1)]) (rest := []) ⟨hx, hb, hml, hown, hts⟩ (c_X8_yesOrNo l (b := b) (ad := ad) (x := 1) (by omega)) (va_cwS 1 hts gX8_askFrom_X8_yesOrNo rfl rfl rfl (by decide +kernel) ⟨Nat.le_of_ble_eq_true rfl, Nat.le_of_ble_eq_true rfl⟩) hP hK rfl hl.1 (Nat.le_of_ble_eq_true rfl) dX8_askFrom_93 ⟨Nat.le_of_ble_eq_true rfl, Nat.le_of_ble_eq_true rfl⟩ ?_
                  exact er_char hx hb hr hlocks (ev_af_lt _ _ _ _) (by simp [ev_af, ev_yn, c_7, c_9, c_10, c_11, e_21, c_23]) dX8_askFrom_96
          ·
            refine lv_bipush (v := nI 84) hx hb dX8_askFrom_30 (by decide) ?_
            exact er_char hx hb hr hlocks (ev_af_lt _ _ _ _) (by simp [ev_af, ev_yn, c_7, c_9]) dX8_askFrom_32
  refine lv_aload_n hx hb dX8_askFrom_0 rfl (lv_at hl 1 rfl) ?_
  refine lv_astore_n (lv' := [(3, .ref (ad i 0)), (0, .ref (b 1)), (1, .ref (ad i 0)), (2, .int (nI k))]) hx hb dX8_askFrom_1 rfl hl (by decide) rfl (fun ls hl => ?_)
  refine lv_iconst (v := nI 0) hx hb dX8_askFrom_2 (by decide) ?_
  refine lv_istore (lv' := [(4, .int (nI 0)), (3, .ref (ad i 0)), (0, .ref (b 1)), (1, .ref (ad i 0)), (2, .int (nI k))]) hx hb dX8_askFrom_3 hl (by decide) rfl (fun ls hl => ?_)
  exact LP 30 0 (some i) rfl (fun _ h => by cases h; exact hi) ls (lv_sub hl [2, 3, 4, 1, 0] rfl)
end
section
/-! 05.writes: what a thing does to itself -/
theorem ev_D_re {A : Nat → Prop} {cI cO : ClassId} {b : Nat → Nat} {ad : Nat → Nat → Nat} {st : ev_ST} {i : Nat} {t t2 : ev_TH} (hD : va_D A (ev_wl cI cO b ad (ev_up st i t))) : va_D A (ev_wl cI cO b ad (ev_up st i t2)) := ev_D_of (ev_wl_addr cI cO b ad (ev_up st i t) (ev_up st i t2) rfl) hD
def ev_kA (t : ev_TH) (w : Nat) (x : Int32) : ev_TH := (ev_tg t, ev_ch t, ev_rv t, ev_cs t, upd (ev_an t) w x, ev_va t, ev_rg t, ev_ke t, ev_kc t)
/-- key k goes to its place among the first n keys -/
def ev_lk (k : Nat) : Nat → (Nat → Int32) → Nat → Int32
  | 0, f => upd f 0 (nI k)
  | n + 1, f => if k < 10 ∧ ¬ f n ≤ nI k then ev_lk k n (upd f (n + 1) (f n)) else upd f (n + 1) (nI k)
theorem ev_lk_s (k n : Nat) (f : Nat → Int32) : ev_lk k (n + 1) f = if k < 10 ∧ ¬ f n ≤ nI k then ev_lk k n (upd f (n + 1) (f n)) else upd f (n + 1) (nI k) := rfl
def ev_lst (t : ev_TH) (k : Nat) : ev_TH := (ev_tg t, ev_ch t, ev_rv t, ev_cs t, ev_an t, ev_va t, ev_rg t, ev_lk k (ev_kc t) (ev_ke t), ev_kc t + 1)
def ev_wr (t : ev_TH) (k : Nat) (v r : Int32) : ev_TH := (ev_tg t, ev_ch t, ev_rv t, ev_cs t, ev_an t, upd (ev_va t) k v, upd (ev_rg t) k r, ev_ke t, ev_kc t)
def ev_pi (t : ev_TH) (k : Nat) (v r : Int32) : Nat × ev_TH :=
  if ev_holds t k then
    (if ev_can t 4 k then (121, ev_wr t k v r) else if ev_allow (ev_rg t k) r (decide (ev_va t k = v)) then (121, ev_wr t k v r) else (110, t))
  else if ev_cs t then (110, t) else (121, ev_wr (ev_lst t k) k v r)
/-- n keys from place j on: those that aren't k go to place p and on -/
def ev_rm (k : Nat) : Nat → Nat → Nat → (Nat → Int32) → (Nat → Int32) × Nat
  | 0, _, p, f => (f, p)
  | n + 1, j, p, f => if f j = nI k then ev_rm k n (j + 1) p f else ev_rm k n (j + 1) (p + 1) (upd f p (f j))
def ev_tk (t : ev_TH) (k : Nat) : Nat × ev_TH :=
  if ev_holds t k then
    (if ev_can t 4 k then (121, (ev_tg t, ev_ch t, ev_rv t, ev_cs t, ev_an t, ev_va t, upd (ev_rg t) k (-1), (ev_rm k (ev_kc t) 0 0 (ev_ke t)).1, (ev_rm k (ev_kc t) 0 0 (ev_ke t)).2)) else (110, t))
  else (121, t)
theorem ev_pi_lt (t : ev_TH) (k : Nat) (v r : Int32) : (ev_pi t k v r).1 < 65536 := by
  unfold ev_pi
  split
  · split
    · simp
    · split <;> simp
  · split <;> simp
theorem ev_tk_lt (t : ev_TH) (k : Nat) : (ev_tk t k).1 < 65536 := by
  unfold ev_tk
  split
  · split <;> simp
  · simp
set_option maxHeartbeats 4000000 in
set_option maxRecDepth 100000 in
theorem c_X7_keepAnswer (l : Launch) {D : va_G} {cI cO : ClassId} {b : Nat → Nat} {ad : Nat → Nat → Nat} {st : ev_ST} {A : Nat → Prop} {i : Nat} {t : ev_TH} (hi : i < st.1) (hD : va_D A (ev_wl cI cO b ad (ev_up st i t))) {w : Nat} {x : Int32} (hw : w < 4) : Met l yX7_keepAnswer wsX7_keepAnswer ({ frames := 0, cells := 0, slots := 0, locals := 0 }) (ev_Pc D cI cO (ev_P D cI cO b ad (ev_up st i t)) [.ref (ad i 0), .int (nI w), .int x]) (ev_QM none (ev_P D cI cO b ad (ev_up st i (ev_kA t w x))) A) 0 0 A := by
  refine ev_body (cc := cX7_keepAnswer) (maxL := 3) (ret := none) (by decide) rfl (Nat.le_of_ble_eq_true rfl) ?_
  intro p e s m args below meth c hx hb hr hml hown hts hlocks hnm hP hK ls hl
  have hS : va_S A s.heap s.heap [] := va_S.rf
  have hl : lv_has ls 3 [(0, .ref (ad i 0)), (1, .int (nI w)), (2, .int x)] := hl
  have hi7 : ∀ w ∈ wsX70, w ∈ wsX7_keepAnswer := by decide +kernel
  refine lv_iload_n hx hb dX7_keepAnswer_0 rfl (lv_at hl 1 rfl) ?_
  refine en_if_lt (tgt := 16) hx hb (by omega) dX7_keepAnswer_1 (by decide) ?_
  refine lv_iload_n hx hb dX7_keepAnswer_4 rfl (lv_at hl 1 rfl) ?_
  refine lv_iconst (v := nI 4) hx hb dX7_keepAnswer_5 (by decide) ?_
  refine en_icmp_ge (tgt := 16) hx hb (by omega) (by omega) dX7_keepAnswer_6 (by decide) (fun c_2 => by exfalso; omega) (fun c_2 => ?_)
  refine lv_aload_n hx hb dX7_keepAnswer_9 rfl (lv_at hl 0 rfl) ?_
  refine ev_get (v := .ref (ad i 1)) hx hb hts hi7 hown hK hP hi (ev_up_s st i _) 1 (by decide) (hts (.fieldLink RX7 18 "EventloopRow$Thing" "answers" "[I") (by decide +kernel)) rfl dX7_keepAnswer_10 ?_
  refine lv_iload_n hx hb dX7_keepAnswer_13 rfl (lv_at hl 1 rfl) ?_
  refine lv_iload_n hx hb dX7_keepAnswer_14 rfl (lv_at hl 2 rfl) ?_
  refine ev_ast (t := t) hx hb hK hP hD hS hi 1 (by decide) rfl w (by omega) (by decide) (ev_tg t, ev_ch t, ev_rv t, ev_cs t, upd (ev_an t) w x, ev_va t, ev_rg t, ev_ke t, ev_kc t) rfl (fun k h1 h2 => by rcases k with _ | _ | _ | _ | _ | k <;> first | rfl | exact absurd rfl h2 | omega) dX7_keepAnswer_15 (fun H locs hP hD hS => ?_)
  exact em_void hx hb hr hlocks (by rw [show (ev_kA t w x) = (ev_tg t, ev_ch t, ev_rv t, ev_cs t, upd (ev_an t) w x, ev_va t, ev_rg t, ev_ke t, ev_kc t) from rfl]; exact hP) hS dX7_keepAnswer_16
set_option maxHeartbeats 4000000 in
set_option maxRecDepth 100000 in
theorem c_X7_listKey (l : Launch) {D : va_G} {cI cO : ClassId} {b : Nat → Nat} {ad : Nat → Nat → Nat} {st : ev_ST} {A : Nat → Prop} {i : Nat} {t : ev_TH} (hi : i < st.1) (hD : va_D A (ev_wl cI cO b ad (ev_up st i t))) {k : Nat} (hk : k < 20) (hkc : ev_kc t < 20) : Met l yX7_listKey wsX7_listKey ({ frames := 0, cells := 0, slots := 0, locals := 0 }) (ev_Pc D cI cO (ev_P D cI cO b ad (ev_up st i t)) [.ref (ad i 0), .int (nI k)]) (ev_QM none (ev_P D cI cO b ad (ev_up st i (ev_lst t k))) A) 0 0 A := by
  refine ev_body (cc := cX7_listKey) (maxL := 3) (ret := none) (by decide) rfl (Nat.le_of_ble_eq_true rfl) ?_
  intro p e s m args below meth c hx hb hr hml hown hts hlocks hnm hP hK ls hl
  have hS : va_S A s.heap s.heap [] := va_S.rf
  have hl : lv_has ls 3 [(0, .ref (ad i 0)), (1, .int (nI k))] := hl
  have hi7 : ∀ w ∈ wsX70, w ∈ wsX7_listKey := by decide +kernel
  have LP : ∀ (n : Nat) (f : Nat → Int32) (H : Heap) (locs : List Loc), n ≤ ev_kc t → ev_P D cI cO b ad (ev_up st i (ev_tg t, ev_ch t, ev_rv t, ev_cs t, ev_an t, ev_va t, ev_rg t, f, ev_kc t)) H → va_D A (ev_wl cI cO b ad (ev_up st i (ev_tg t, ev_ch t, ev_rv t, ev_cs t, ev_an t, ev_va t, ev_rg t, f, ev_kc t))) → va_S A s.heap H locs → ∀ ls : Array Slot, lv_has ls 3 [(0, .ref (ad i 0)), (1, .int (nI k)), (2, .int (nI n))] → W p l e ({ frames := 0, cells := 0, slots := 0, locals := 0 }) s m args below meth c H locs 0 0 (MQ below (ev_QM none (ev_P D cI cO b ad (ev_up st i (ev_tg t, ev_ch t, ev_rv t, ev_cs t, ev_an t, ev_va t, ev_rg t, ev_lk k n f, ev_kc t + 1))) A) args s 0 0 A) (F0 m 22 ls []) := by
    intro n
    induction n with
    | zero =>
      intro f H locs hn hP hD hS ls hl
      refine lv_iload_n hx hb dX7_listKey_22 rfl (lv_at hl 2 rfl) ?_
      refine en_if_le (tgt := 64) hx hb (by omega) dX7_listKey_23 (by decide) (fun c_1 => ?_) (fun c_1 => by exfalso; omega)
      refine lv_aload_n hx hb dX7_listKey_64 rfl (lv_at hl 0 rfl) ?_
      refine ev_get (v := .ref (ad i 4)) hx hb hts hi7 hown hK hP hi (ev_up_s st i _) 7 (by decide) (hts (.fieldLink RX7 28 "EventloopRow$Thing" "keyRow" "[I") (by decide +kernel)) rfl dX7_listKey_65 ?_
      refine lv_iload_n hx hb dX7_listKey_68 rfl (lv_at hl 2 rfl) ?_
      refine lv_iload_n hx hb dX7_listKey_69 rfl (lv_at hl 1 rfl) ?_
      refine ev_ast (t := (ev_tg t, ev_ch t, ev_rv t, ev_cs t, ev_an t, ev_va t, ev_rg t, f, ev_kc t)) hx hb hK hP hD hS hi 4 (by decide) rfl 0 (by omega) (by decide) (ev_tg t, ev_ch t, ev_rv t, ev_cs t, ev_an t, ev_va t, ev_rg t, upd f 0 (nI k), ev_kc t) rfl (fun k h1 h2 => by rcases k with _ | _ | _ | _ | _ | k <;> first | rfl | exact absurd rfl h2 | omega) dX7_listKey_70 (fun H locs hP hD hS => ?_)
      refine lv_aload_n hx hb dX7_listKey_71 rfl (lv_at hl 0 rfl) ?_
      refine lv_dup hx hb dX7_listKey_72 rfl ?_
      refine ev_get (v := .int (nI (ev_kc t))) hx hb hts hi7 hown hK hP hi (ev_up_s st i _) 8 (by decide) (hts (.fieldLink RX7 65 "EventloopRow$Thing" "keyCount" "I") (by decide +kernel)) rfl dX7_listKey_73 ?_
      refine lv_iconst (v := nI 1) hx hb dX7_listKey_76 (by decide) ?_
      refine en_iadd hx hb (ev_kc t + 1) rfl dX7_listKey_77 ?_
      refine ev_put (t := (ev_tg t, ev_ch t, ev_rv t, ev_cs t, ev_an t, ev_va t, ev_rg t, upd f 0 (nI k), ev_kc t)) (v := .int (nI (ev_kc t + 1))) hx hb hts hi7 hown hK hP hD hS hi 8 (by decide) (hts (.fieldLink RX7 65 "EventloopRow$Thing" "keyCount" "I") (by decide +kernel)) rfl rfl rfl (ev_tg t, ev_ch t, ev_rv t, ev_cs t, ev_an t, ev_va t, ev_rg t, upd f 0 (nI k), ev_kc t + 1) rfl (fun z h1 h2 => by rcases z with _ | _ | _ | _ | _ | z <;> first | rfl | omega) dX7_listKey_78 (fun H locs hP hD hS => ?_)
      exact em_void hx hb hr hlocks (by rw [show ev_lk k 0 f = upd f 0 (nI k) from rfl]; exact hP) hS dX7_listKey_81
    | succ n ih =>
      intro f H locs hn hP hD hS ls hl
      refine lv_iload_n hx hb dX7_listKey_22 rfl (lv_at hl 2 rfl) ?_
      refine en_if_le (tgt := 64) hx hb (by omega) dX7_listKey_23 (by decide) (fun c_2 => by exfalso; omega) (fun c_2 => ?_)
      refine lv_iload_n hx hb dX7_listKey_26 rfl (lv_at hl 1 rfl) ?_
      refine lv_bipush (v := nI 10) hx hb dX7_listKey_27 (by decide) ?_
      refine en_icmp_ge (tgt := 64) hx hb (by omega) (by omega) dX7_listKey_29 (by decide) (fun c_3 => ?_) (fun c_3 => ?_)
      ·
        refine lv_aload_n hx hb dX7_listKey_64 rfl (lv_at hl 0 rfl) ?_
        refine ev_get (v := .ref (ad i 4)) hx hb hts hi7 hown hK hP hi (ev_up_s st i _) 7 (by decide) (hts (.fieldLink RX7 28 "EventloopRow$Thing" "keyRow" "[I") (by decide +kernel)) rfl dX7_listKey_65 ?_
        refine lv_iload_n hx hb dX7_listKey_68 rfl (lv_at hl 2 rfl) ?_
        refine lv_iload_n hx hb dX7_listKey_69 rfl (lv_at hl 1 rfl) ?_
        refine ev_ast (t := (ev_tg t, ev_ch t, ev_rv t, ev_cs t, ev_an t, ev_va t, ev_rg t, f, ev_kc t)) hx hb hK hP hD hS hi 4 (by decide) rfl (n + 1) (by omega) (by decide) (ev_tg t, ev_ch t, ev_rv t, ev_cs t, ev_an t, ev_va t, ev_rg t, upd f (n + 1) (nI k), ev_kc t) rfl (fun k h1 h2 => by rcases k with _ | _ | _ | _ | _ | k <;> first | rfl | exact absurd rfl h2 | omega) dX7_listKey_70 (fun H locs hP hD hS => ?_)
        refine lv_aload_n hx hb dX7_listKey_71 rfl (lv_at hl 0 rfl) ?_
        refine lv_dup hx hb dX7_listKey_72 rfl ?_
        refine ev_get (v := .int (nI (ev_kc t))) hx hb hts hi7 hown hK hP hi (ev_up_s st i _) 8 (by decide) (hts (.fieldLink RX7 65 "EventloopRow$Thing" "keyCount" "I") (by decide +kernel)) rfl dX7_listKey_73 ?_
        refine lv_iconst (v := nI 1) hx hb dX7_listKey_76 (by decide) ?_
        refine en_iadd hx hb (ev_kc t + 1) rfl dX7_listKey_77 ?_
        refine ev_put (t := (ev_tg t, ev_ch t, ev_rv t, ev_cs t, ev_an t, ev_va t, ev_rg t, upd f (n + 1) (nI k), ev_kc t)) (v := .int (nI (ev_kc t + 1))) hx hb hts hi7 hown hK hP hD hS hi 8 (by decide) (hts (.fieldLink RX7 65 "EventloopRow$Thing" "keyCount" "I") (by decide +kernel)) rfl rfl rfl (ev_tg t, ev_ch t, ev_rv t, ev_cs t, ev_an t, ev_va t, ev_rg t, upd f (n + 1) (nI k), ev_kc t + 1) rfl (fun z h1 h2 => by rcases z with _ | _ | _ | _ | _ | z <;> first | rfl | omega) dX7_listKey_78 (fun H locs hP hD hS => ?_)
        exact em_void hx hb hr hlocks (by rw [show ev_lk k (n + 1) f = upd f (n + 1) (nI k) from (by rw [ev_lk_s, if_neg (fun h => by have := h.1; omega)])]; exact hP) hS dX7_listKey_81
      ·
        refine lv_aload_n hx hb dX7_listKey_32 rfl (lv_at hl 0 rfl) ?_
        refine ev_get (v := .ref (ad i 4)) hx hb hts hi7 hown hK hP hi (ev_up_s st i _) 7 (by decide) (hts (.fieldLink RX7 28 "EventloopRow$Thing" "keyRow" "[I") (by decide +kernel)) rfl dX7_listKey_33 ?_
        refine lv_iload_n hx hb dX7_listKey_36 rfl (lv_at hl 2 rfl) ?_
        refine lv_iconst (v := nI 1) hx hb dX7_listKey_37 (by decide) ?_
        refine en_isub hx hb (n) rfl dX7_listKey_38 ?_
        refine ev_ald (t := (ev_tg t, ev_ch t, ev_rv t, ev_cs t, ev_an t, ev_va t, ev_rg t, f, ev_kc t)) (f := f) hx hb hK hP hi (ev_up_s st i _) 4 (by decide) rfl n (by omega) (by decide) dX7_listKey_39 ?_
        refine lv_iload_n hx hb dX7_listKey_40 rfl (lv_at hl 1 rfl) ?_
        refine lv_icmp_le (tgt := 64) hx hb dX7_listKey_41 (by decide) (fun c_4 => ?_) (fun c_4 => ?_)
        ·
          refine lv_aload_n hx hb dX7_listKey_64 rfl (lv_at hl 0 rfl) ?_
          refine ev_get (v := .ref (ad i 4)) hx hb hts hi7 hown hK hP hi (ev_up_s st i _) 7 (by decide) (hts (.fieldLink RX7 28 "EventloopRow$Thing" "keyRow" "[I") (by decide +kernel)) rfl dX7_listKey_65 ?_
          refine lv_iload_n hx hb dX7_listKey_68 rfl (lv_at hl 2 rfl) ?_
          refine lv_iload_n hx hb dX7_listKey_69 rfl (lv_at hl 1 rfl) ?_
          refine ev_ast (t := (ev_tg t, ev_ch t, ev_rv t, ev_cs t, ev_an t, ev_va t, ev_rg t, f, ev_kc t)) hx hb hK hP hD hS hi 4 (by decide) rfl (n + 1) (by omega) (by decide) (ev_tg t, ev_ch t, ev_rv t, ev_cs t, ev_an t, ev_va t, ev_rg t, upd f (n + 1) (nI k), ev_kc t) rfl (fun k h1 h2 => by rcases k with _ | _ | _ | _ | _ | k <;> first | rfl | exact absurd rfl h2 | omega) dX7_listKey_70 (fun H locs hP hD hS => ?_)
          refine lv_aload_n hx hb dX7_listKey_71 rfl (lv_at hl 0 rfl) ?_
          refine lv_dup hx hb dX7_listKey_72 rfl ?_
          refine ev_get (v := .int (nI (ev_kc t))) hx hb hts hi7 hown hK hP hi (ev_up_s st i _) 8 (by decide) (hts (.fieldLink RX7 65 "EventloopRow$Thing" "keyCount" "I") (by decide +kernel)) rfl dX7_listKey_73 ?_
          refine lv_iconst (v := nI 1) hx hb dX7_listKey_76 (by decide) ?_
          refine en_iadd hx hb (ev_kc t + 1) rfl dX7_listKey_77 ?_
          refine ev_put (t := (ev_tg t, ev_ch t, ev_rv t, ev_cs t, ev_an t, ev_va t, ev_rg t, upd f (n + 1) (nI k), ev_kc t)) (v := .int (nI (ev_kc t + 1))) hx hb hts hi7 hown hK hP hD hS hi 8 (by decide) (hts (.fieldLink RX7 65 "EventloopRow$Thing" "keyCount" "I") (by decide +kernel)) rfl rfl rfl (ev_tg t, ev_ch t, ev_rv t, ev_cs t, ev_an t, ev_va t, ev_rg t, upd f (n + 1) (nI k), ev_kc t + 1) rfl (fun z h1 h2 => by rcases z with _ | _ | _ | _ | _ | z <;> first | rfl | omega) dX7_listKey_78 (fun H locs hP hD hS => ?_)
          exact em_void hx hb hr hlocks (by rw [show ev_lk k (n + 1) f = upd f (n + 1) (nI k) from (by rw [ev_lk_s, if_neg (fun h => h.2 c_4)])]; exact hP) hS dX7_listKey_81
        ·
          refine lv_aload_n hx hb dX7_listKey_44 rfl (lv_at hl 0 rfl) ?_
          refine ev_get (v := .ref (ad i 4)) hx hb hts hi7 hown hK hP hi (ev_up_s st i _) 7 (by decide) (hts (.fieldLink RX7 28 "EventloopRow$Thing" "keyRow" "[I") (by decide +kernel)) rfl dX7_listKey_45 ?_
          refine lv_iload_n hx hb dX7_listKey_48 rfl (lv_at hl 2 rfl) ?_
          refine lv_aload_n hx hb dX7_listKey_49 rfl (lv_at hl 0 rfl) ?_
          refine ev_get (v := .ref (ad i 4)) hx hb hts hi7 hown hK hP hi (ev_up_s st i _) 7 (by decide) (hts (.fieldLink RX7 28 "EventloopRow$Thing" "keyRow" "[I") (by decide +kernel)) rfl dX7_listKey_50 ?_
          refine lv_iload_n hx hb dX7_listKey_53 rfl (lv_at hl 2 rfl) ?_
          refine lv_iconst (v := nI 1) hx hb dX7_listKey_54 (by decide) ?_
          refine en_isub hx hb (n) rfl dX7_listKey_55 ?_
          refine ev_ald (t := (ev_tg t, ev_ch t, ev_rv t, ev_cs t, ev_an t, ev_va t, ev_rg t, f, ev_kc t)) (f := f) hx hb hK hP hi (ev_up_s st i _) 4 (by decide) rfl n (by omega) (by decide) dX7_listKey_56 ?_
          refine ev_ast (t := (ev_tg t, ev_ch t, ev_rv t, ev_cs t, ev_an t, ev_va t, ev_rg t, f, ev_kc t)) hx hb hK hP hD hS hi 4 (by decide) rfl (n + 1) (by omega) (by decide) (ev_tg t, ev_ch t, ev_rv t, ev_cs t, ev_an t, ev_va t, ev_rg t, upd f (n + 1) (f n), ev_kc t) rfl (fun k h1 h2 => by rcases k with _ | _ | _ | _ | _ | k <;> first | rfl | exact absurd rfl h2 | omega) dX7_listKey_57 (fun H locs hP hD hS => ?_)
          refine lv_iinc (v := nI n) (lv' := [(2, .int (nI n)), (0, .ref (ad i 0)), (1, .int (nI k))]) hx hb dX7_listKey_58 hl (k := 2) rfl (ev_dec1 _) (by decide) rfl (fun ls hl => ?_)
          refine lv_goto (tgt := 22) hx hb dX7_listKey_61 (by decide) ?_
          rw [show ev_lk k (n + 1) f = ev_lk k n (upd f (n + 1) (f n)) from (by rw [ev_lk_s, if_pos ⟨by omega, c_4⟩])]
          exact ih (upd f (n + 1) (f n)) H locs (by omega) hP hD hS ls (lv_sub hl [1, 2, 0] rfl)
  refine lv_aload_n hx hb dX7_listKey_0 rfl (lv_at hl 0 rfl) ?_
  refine ev_get (v := .int (nI (ev_kc t))) hx hb hts hi7 hown hK hP hi (ev_up_s st i _) 8 (by decide) (hts (.fieldLink RX7 65 "EventloopRow$Thing" "keyCount" "I") (by decide +kernel)) rfl dX7_listKey_1 ?_
  refine en_if_lt (tgt := 16) hx hb (by omega) dX7_listKey_4 (by decide) ?_
  refine lv_aload_n hx hb dX7_listKey_7 rfl (lv_at hl 0 rfl) ?_
  refine ev_get (v := .int (nI (ev_kc t))) hx hb hts hi7 hown hK hP hi (ev_up_s st i _) 8 (by decide) (hts (.fieldLink RX7 65 "EventloopRow$Thing" "keyCount" "I") (by decide +kernel)) rfl dX7_listKey_8 ?_
  refine lv_bipush (v := nI 20) hx hb dX7_listKey_11 (by decide) ?_
  refine en_icmp_lt (tgt := 17) hx hb (by omega) (by omega) dX7_listKey_13 (by decide) (fun c_6 => ?_) (fun c_6 => by exfalso; omega)
  refine lv_aload_n hx hb dX7_listKey_17 rfl (lv_at hl 0 rfl) ?_
  refine ev_get (v := .int (nI (ev_kc t))) hx hb hts hi7 hown hK hP hi (ev_up_s st i _) 8 (by decide) (hts (.fieldLink RX7 65 "EventloopRow$Thing" "keyCount" "I") (by decide +kernel)) rfl dX7_listKey_18 ?_
  refine lv_istore_n (lv' := [(2, .int (nI (ev_kc t))), (0, .ref (ad i 0)), (1, .int (nI k))]) hx hb dX7_listKey_21 rfl hl (by decide) rfl (fun ls hl => ?_)
  exact LP (ev_kc t) (ev_ke t) s.heap [] (Nat.le_refl _) hP hD hS ls (lv_sub hl [1, 2, 0] rfl)
set_option maxHeartbeats 4000000 in
set_option maxRecDepth 100000 in
theorem c_X7_putIn (l : Launch) {D : va_G} {cI cO : ClassId} {b : Nat → Nat} {ad : Nat → Nat → Nat} {st : ev_ST} {A : Nat → Prop} {i : Nat} {t : ev_TH} (hi : i < st.1) (hD : va_D A (ev_wl cI cO b ad (ev_up st i t))) {k : Nat} {v r : Int32} (hk : k < 20) (hkc : ev_holds t k = false → ev_kc t < 20) : Met l yX7_putIn wsX7_putIn ({ frames := 1, cells := 0, slots := 0, locals := 22 }) (ev_Pc D cI cO (ev_P D cI cO b ad (ev_up st i t)) [.ref (ad i 0), .int (nI k), .int v, .int r]) (ev_QM (some (.int (nI ((ev_pi t k v r).1)))) (ev_P D cI cO b ad (ev_up st i ((ev_pi t k v r).2))) A) 0 0 A := by
  refine ev_body (cc := cX7_putIn) (maxL := 4) (ret := (some .char)) (by decide) rfl (Nat.le_of_ble_eq_true rfl) ?_
  intro p e s m args below meth c hx hb hr hml hown hts hlocks hnm hP hK ls hl
  have hS : va_S A s.heap s.heap [] := va_S.rf
  have hl : lv_has ls 4 [(0, .ref (ad i 0)), (1, .int (nI k)), (2, .int v), (3, .int r)] := hl
  have hi7 : ∀ w ∈ wsX70, w ∈ wsX7_putIn := by decide +kernel
  refine lv_iload_n hx hb dX7_putIn_0 rfl (lv_at hl 1 rfl) ?_
  refine en_if_lt (tgt := 10) hx hb (by omega) dX7_putIn_1 (by decide) ?_
  refine lv_iload_n hx hb dX7_putIn_4 rfl (lv_at hl 1 rfl) ?_
  refine lv_bipush (v := nI 20) hx hb dX7_putIn_5 (by decide) ?_
  refine en_icmp_lt (tgt := 13) hx hb (by omega) (by omega) dX7_putIn_7 (by decide) (fun c_2 => ?_) (fun c_2 => by exfalso; omega)
  refine lv_aload_n hx hb dX7_putIn_13 rfl (lv_at hl 0 rfl) ?_
  refine lv_iload_n hx hb dX7_putIn_14 rfl (lv_at hl 1 rfl) ?_
  refine ev_cv (As := [.int (nI k)]) (rest := []) ⟨hx, hb, hml, hown, hts⟩ (c_X7_holds l (st := ev_up st i t) hi (ev_up_s st i _) (k := k) (by omega)) (cwV 1 hts gX7_putIn_X7_holds rfl rfl rfl (by decide +kernel) ⟨Nat.le_of_ble_eq_true rfl, Nat.le_of_ble_eq_true rfl⟩) hP hK (ev_recv hK hP hi) rfl hl.1 (Nat.le_of_ble_eq_true rfl) dX7_putIn_15 ⟨Nat.le_of_ble_eq_true rfl, Nat.le_of_ble_eq_true rfl⟩ ?_
  refine eb_if_ne (tgt := 39) hx hb dX7_putIn_18 (by decide) (fun c_3 => ?_) (fun c_3 => ?_)
  ·
    refine lv_aload_n hx hb dX7_putIn_39 rfl (lv_at hl 0 rfl) ?_
    refine lv_iconst (v := nI 4) hx hb dX7_putIn_40 (by decide) ?_
    refine lv_iload_n hx hb dX7_putIn_41 rfl (lv_at hl 1 rfl) ?_
    refine ev_cv (As := [.int (nI 4), .int (nI k)]) (rest := []) ⟨hx, hb, hml, hown, hts⟩ (c_X7_canBe l (st := ev_up st i t) hi (ev_up_s st i _) (r := 4) (k := k) (by omega)) (cwV 2 hts gX7_putIn_X7_canBe rfl rfl rfl (by decide +kernel) ⟨Nat.le_of_ble_eq_true rfl, Nat.le_of_ble_eq_true rfl⟩) hP hK (ev_recv hK hP hi) rfl hl.1 (Nat.le_of_ble_eq_true rfl) dX7_putIn_42 ⟨Nat.le_of_ble_eq_true rfl, Nat.le_of_ble_eq_true rfl⟩ ?_
    refine eb_if_ne (tgt := 79) hx hb dX7_putIn_45 (by decide) (fun c_4 => ?_) (fun c_4 => ?_)
    ·
      refine lv_aload_n hx hb dX7_putIn_79 rfl (lv_at hl 0 rfl) ?_
      refine ev_get (v := .ref (ad i 2)) hx hb hts hi7 hown hK hP hi (ev_up_s st i _) 5 (by decide) (hts (.fieldLink RX7 22 "EventloopRow$Thing" "values" "[I") (by decide +kernel)) rfl dX7_putIn_80 ?_
      refine lv_iload_n hx hb dX7_putIn_83 rfl (lv_at hl 1 rfl) ?_
      refine lv_iload_n hx hb dX7_putIn_84 rfl (lv_at hl 2 rfl) ?_
      refine ev_ast (t := t) hx hb hK hP hD hS hi 2 (by decide) rfl k (by omega) (by decide) (ev_tg t, ev_ch t, ev_rv t, ev_cs t, ev_an t, upd (ev_va t) k v, ev_rg t, ev_ke t, ev_kc t) rfl (fun k h1 h2 => by rcases k with _ | _ | _ | _ | _ | k <;> first | rfl | exact absurd rfl h2 | omega) dX7_putIn_85 (fun H locs hP hD hS => ?_)
      refine lv_aload_n hx hb dX7_putIn_86 rfl (lv_at hl 0 rfl) ?_
      refine ev_get (v := .ref (ad i 3)) hx hb hts hi7 hown hK hP hi (ev_up_s st i _) 6 (by decide) (hts (.fieldLink RX7 25 "EventloopRow$Thing" "rightsRow" "[I") (by decide +kernel)) rfl dX7_putIn_87 ?_
      refine lv_iload_n hx hb dX7_putIn_90 rfl (lv_at hl 1 rfl) ?_
      refine lv_iload_n hx hb dX7_putIn_91 rfl (lv_at hl 3 rfl) ?_
      refine ev_ast (t := (ev_tg t, ev_ch t, ev_rv t, ev_cs t, ev_an t, upd (ev_va t) k v, ev_rg t, ev_ke t, ev_kc t)) hx hb hK hP hD hS hi 3 (by decide) rfl k (by omega) (by decide) (ev_tg t, ev_ch t, ev_rv t, ev_cs t, ev_an t, upd (ev_va t) k v, upd (ev_rg t) k r, ev_ke t, ev_kc t) rfl (fun k h1 h2 => by rcases k with _ | _ | _ | _ | _ | k <;> first | rfl | exact absurd rfl h2 | omega) dX7_putIn_92 (fun H locs hP hD hS => ?_)
      refine lv_bipush (v := nI 121) hx hb dX7_putIn_93 (by decide) ?_
      exact em_char hx hb hr hlocks (ev_pi_lt _ _ _ _) (by simp [ev_pi, c_3, c_4] <;> rfl) (by rw [show (ev_pi t k v r).2 = (ev_tg t, ev_ch t, ev_rv t, ev_cs t, ev_an t, upd (ev_va t) k v, upd (ev_rg t) k r, ev_ke t, ev_kc t) from (by simp [ev_pi, c_3, c_4] <;> rfl)]; exact hP) hS dX7_putIn_95
    ·
      refine lv_aload_n hx hb dX7_putIn_48 rfl (lv_at hl 0 rfl) ?_
      refine ev_get (v := .ref (ad i 3)) hx hb hts hi7 hown hK hP hi (ev_up_s st i _) 6 (by decide) (hts (.fieldLink RX7 25 "EventloopRow$Thing" "rightsRow" "[I") (by decide +kernel)) rfl dX7_putIn_49 ?_
      refine lv_iload_n hx hb dX7_putIn_52 rfl (lv_at hl 1 rfl) ?_
      refine ev_ald (t := t) (f := ev_rg t) hx hb hK hP hi (ev_up_s st i _) 3 (by decide) rfl k (by omega) (by decide) dX7_putIn_53 ?_
      refine lv_iload_n hx hb dX7_putIn_54 rfl (lv_at hl 3 rfl) ?_
      refine lv_aload_n hx hb dX7_putIn_55 rfl (lv_at hl 0 rfl) ?_
      refine ev_get (v := .ref (ad i 2)) hx hb hts hi7 hown hK hP hi (ev_up_s st i _) 5 (by decide) (hts (.fieldLink RX7 22 "EventloopRow$Thing" "values" "[I") (by decide +kernel)) rfl dX7_putIn_56 ?_
      refine lv_iload_n hx hb dX7_putIn_59 rfl (lv_at hl 1 rfl) ?_
      refine ev_ald (t := t) (f := ev_va t) hx hb hK hP hi (ev_up_s st i _) 2 (by decide) rfl k (by omega) (by decide) dX7_putIn_60 ?_
      refine lv_iload_n hx hb dX7_putIn_61 rfl (lv_at hl 2 rfl) ?_
      refine lv_icmp_ne (tgt := 69) hx hb dX7_putIn_62 (by decide) (fun c_5 => ?_) (fun c_5 => ?_)
      ·
        refine lv_iconst (v := nI 0) hx hb dX7_putIn_69 (by decide) ?_
        refine en_eq (show nI 0 = ev_bi false from rfl) ?_
        refine ev_cst (As := [.int (ev_rg t k), .int r, .int (ev_bi false)]) (rest := []) ⟨hx, hb, hml, hown, hts⟩ (c_X7_isAllowed l (b := b) (ad := ad)) (va_cwS 3 hts gX7_putIn_X7_isAllowed rfl rfl rfl (by decide +kernel) ⟨Nat.le_of_ble_eq_true rfl, Nat.le_of_ble_eq_true rfl⟩) hP hK rfl hl.1 (Nat.le_of_ble_eq_true rfl) dX7_putIn_70 ⟨Nat.le_of_ble_eq_true rfl, Nat.le_of_ble_eq_true rfl⟩ ?_
        refine eb_if_ne (tgt := 79) hx hb dX7_putIn_73 (by decide) (fun c_6 => ?_) (fun c_6 => ?_)
        ·
          refine lv_aload_n hx hb dX7_putIn_79 rfl (lv_at hl 0 rfl) ?_
          refine ev_get (v := .ref (ad i 2)) hx hb hts hi7 hown hK hP hi (ev_up_s st i _) 5 (by decide) (hts (.fieldLink RX7 22 "EventloopRow$Thing" "values" "[I") (by decide +kernel)) rfl dX7_putIn_80 ?_
          refine lv_iload_n hx hb dX7_putIn_83 rfl (lv_at hl 1 rfl) ?_
          refine lv_iload_n hx hb dX7_putIn_84 rfl (lv_at hl 2 rfl) ?_
          refine ev_ast (t := t) hx hb hK hP hD hS hi 2 (by decide) rfl k (by omega) (by decide) (ev_tg t, ev_ch t, ev_rv t, ev_cs t, ev_an t, upd (ev_va t) k v, ev_rg t, ev_ke t, ev_kc t) rfl (fun k h1 h2 => by rcases k with _ | _ | _ | _ | _ | k <;> first | rfl | exact absurd rfl h2 | omega) dX7_putIn_85 (fun H locs hP hD hS => ?_)
          refine lv_aload_n hx hb dX7_putIn_86 rfl (lv_at hl 0 rfl) ?_
          refine ev_get (v := .ref (ad i 3)) hx hb hts hi7 hown hK hP hi (ev_up_s st i _) 6 (by decide) (hts (.fieldLink RX7 25 "EventloopRow$Thing" "rightsRow" "[I") (by decide +kernel)) rfl dX7_putIn_87 ?_
          refine lv_iload_n hx hb dX7_putIn_90 rfl (lv_at hl 1 rfl) ?_
          refine lv_iload_n hx hb dX7_putIn_91 rfl (lv_at hl 3 rfl) ?_
          refine ev_ast (t := (ev_tg t, ev_ch t, ev_rv t, ev_cs t, ev_an t, upd (ev_va t) k v, ev_rg t, ev_ke t, ev_kc t)) hx hb hK hP hD hS hi 3 (by decide) rfl k (by omega) (by decide) (ev_tg t, ev_ch t, ev_rv t, ev_cs t, ev_an t, upd (ev_va t) k v, upd (ev_rg t) k r, ev_ke t, ev_kc t) rfl (fun k h1 h2 => by rcases k with _ | _ | _ | _ | _ | k <;> first | rfl | exact absurd rfl h2 | omega) dX7_putIn_92 (fun H locs hP hD hS => ?_)
          refine lv_bipush (v := nI 121) hx hb dX7_putIn_93 (by decide) ?_
          exact em_char hx hb hr hlocks (ev_pi_lt _ _ _ _) (by simp [ev_pi, c_3, c_4, c_5, c_6] <;> rfl) (by rw [show (ev_pi t k v r).2 = (ev_tg t, ev_ch t, ev_rv t, ev_cs t, ev_an t, upd (ev_va t) k v, upd (ev_rg t) k r, ev_ke t, ev_kc t) from (by simp [ev_pi, c_3, c_4, c_5, c_6] <;> rfl)]; exact hP) hS dX7_putIn_95
        ·
          refine lv_bipush (v := nI 110) hx hb dX7_putIn_76 (by decide) ?_
          exact em_char hx hb hr hlocks (ev_pi_lt _ _ _ _) (by simp [ev_pi, c_3, c_4, c_5, c_6] <;> rfl) (by rw [show (ev_pi t k v r).2 = t from (by simp [ev_pi, c_3, c_4, c_5, c_6] <;> rfl)]; exact hP) hS dX7_putIn_78
      ·
        refine lv_iconst (v := nI 1) hx hb dX7_putIn_65 (by decide) ?_
        refine lv_goto (tgt := 70) hx hb dX7_putIn_66 (by decide) ?_
        refine en_eq (show nI 1 = ev_bi true from rfl) ?_
        refine ev_cst (As := [.int (ev_rg t k), .int r, .int (ev_bi true)]) (rest := []) ⟨hx, hb, hml, hown, hts⟩ (c_X7_isAllowed l (b := b) (ad := ad)) (va_cwS 3 hts gX7_putIn_X7_isAllowed rfl rfl rfl (by decide +kernel) ⟨Nat.le_of_ble_eq_true rfl, Nat.le_of_ble_eq_true rfl⟩) hP hK rfl hl.1 (Nat.le_of_ble_eq_true rfl) dX7_putIn_70 ⟨Nat.le_of_ble_eq_true rfl, Nat.le_of_ble_eq_true rfl⟩ ?_
        refine eb_if_ne (tgt := 79) hx hb dX7_putIn_73 (by decide) (fun c_7 => ?_) (fun c_7 => ?_)
        ·
          refine lv_aload_n hx hb dX7_putIn_79 rfl (lv_at hl 0 rfl) ?_
          refine ev_get (v := .ref (ad i 2)) hx hb hts hi7 hown hK hP hi (ev_up_s st i _) 5 (by decide) (hts (.fieldLink RX7 22 "EventloopRow$Thing" "values" "[I") (by decide +kernel)) rfl dX7_putIn_80 ?_
          refine lv_iload_n hx hb dX7_putIn_83 rfl (lv_at hl 1 rfl) ?_
          refine lv_iload_n hx hb dX7_putIn_84 rfl (lv_at hl 2 rfl) ?_
          refine ev_ast (t := t) hx hb hK hP hD hS hi 2 (by decide) rfl k (by omega) (by decide) (ev_tg t, ev_ch t, ev_rv t, ev_cs t, ev_an t, upd (ev_va t) k v, ev_rg t, ev_ke t, ev_kc t) rfl (fun k h1 h2 => by rcases k with _ | _ | _ | _ | _ | k <;> first | rfl | exact absurd rfl h2 | omega) dX7_putIn_85 (fun H locs hP hD hS => ?_)
          refine lv_aload_n hx hb dX7_putIn_86 rfl (lv_at hl 0 rfl) ?_
          refine ev_get (v := .ref (ad i 3)) hx hb hts hi7 hown hK hP hi (ev_up_s st i _) 6 (by decide) (hts (.fieldLink RX7 25 "EventloopRow$Thing" "rightsRow" "[I") (by decide +kernel)) rfl dX7_putIn_87 ?_
          refine lv_iload_n hx hb dX7_putIn_90 rfl (lv_at hl 1 rfl) ?_
          refine lv_iload_n hx hb dX7_putIn_91 rfl (lv_at hl 3 rfl) ?_
          refine ev_ast (t := (ev_tg t, ev_ch t, ev_rv t, ev_cs t, ev_an t, upd (ev_va t) k v, ev_rg t, ev_ke t, ev_kc t)) hx hb hK hP hD hS hi 3 (by decide) rfl k (by omega) (by decide) (ev_tg t, ev_ch t, ev_rv t, ev_cs t, ev_an t, upd (ev_va t) k v, upd (ev_rg t) k r, ev_ke t, ev_kc t) rfl (fun k h1 h2 => by rcases k with _ | _ | _ | _ | _ | k <;> first | rfl | exact absurd rfl h2 | omega) dX7_putIn_92 (fun H locs hP hD hS => ?_)
          refine lv_bipush (v := nI 121) hx hb dX7_putIn_93 (by decide) ?_
          exact em_char hx hb hr hlocks (ev_pi_lt _ _ _ _) (by simp [ev_pi, c_3, c_4, c_5, c_7] <;> rfl) (by rw [show (ev_pi t k v r).2 = (ev_tg t, ev_ch t, ev_rv t, ev_cs t, ev_an t, upd (ev_va t) k v, upd (ev_rg t) k r, ev_ke t, ev_kc t) from (by simp [ev_pi, c_3, c_4, c_5, c_7] <;> rfl)]; exact hP) hS dX7_putIn_95
        ·
          refine lv_bipush (v := nI 110) hx hb dX7_putIn_76 (by decide) ?_
          exact em_char hx hb hr hlocks (ev_pi_lt _ _ _ _) (by simp [ev_pi, c_3, c_4, c_5, c_7] <;> rfl) (by rw [show (ev_pi t k v r).2 = t from (by simp [ev_pi, c_3, c_4, c_5, c_7] <;> rfl)]; exact hP) hS dX7_putIn_78
  ·
    refine lv_aload_n hx hb dX7_putIn_21 rfl (lv_at hl 0 rfl) ?_
    refine ev_get (v := .int (ev_bi (ev_cs t))) hx hb hts hi7 hown hK hP hi (ev_up_s st i _) 4 (by decide) (hts (.fieldLink RX7 53 "EventloopRow$Thing" "closed" "Z") (by decide +kernel)) rfl dX7_putIn_22 ?_
    refine eb_if_eq (tgt := 31) hx hb dX7_putIn_25 (by decide) (fun c_8 => ?_) (fun c_8 => ?_)
    ·
      refine lv_aload_n hx hb dX7_putIn_31 rfl (lv_at hl 0 rfl) ?_
      refine lv_iload_n hx hb dX7_putIn_32 rfl (lv_at hl 1 rfl) ?_
      refine ev_mv (As := [.int (nI k)]) (rest := []) ⟨hx, hb, hml, hown, hts⟩ (c_X7_listKey l hi hD (k := k) (by omega) (hkc c_3)) (cwV 1 hts gX7_putIn_X7_listKey rfl rfl rfl (by decide +kernel) ⟨Nat.le_of_ble_eq_true rfl, Nat.le_of_ble_eq_true rfl⟩) hP hK hS (ev_recv hK hP hi) rfl hl.1 (Nat.le_of_ble_eq_true rfl) dX7_putIn_33 ⟨Nat.le_of_ble_eq_true rfl, Nat.le_of_ble_eq_true rfl⟩ (fun H locs hP hz hk hS => ?_)
      have hD := ev_D_re (st := st) (i := i) (t2 := (ev_lst t k)) hD
      refine lv_goto (tgt := 79) hx hb dX7_putIn_36 (by decide) ?_
      refine lv_aload_n hx hb dX7_putIn_79 rfl (lv_at hl 0 rfl) ?_
      refine ev_get (v := .ref (ad i 2)) hx hb hts hi7 hown hK hP hi (ev_up_s st i _) 5 (by decide) (hts (.fieldLink RX7 22 "EventloopRow$Thing" "values" "[I") (by decide +kernel)) rfl dX7_putIn_80 ?_
      refine lv_iload_n hx hb dX7_putIn_83 rfl (lv_at hl 1 rfl) ?_
      refine lv_iload_n hx hb dX7_putIn_84 rfl (lv_at hl 2 rfl) ?_
      refine ev_ast (t := (ev_lst t k)) hx hb hK hP hD hS hi 2 (by decide) rfl k (by omega) (by decide) (ev_tg (ev_lst t k), ev_ch (ev_lst t k), ev_rv (ev_lst t k), ev_cs (ev_lst t k), ev_an (ev_lst t k), upd (ev_va (ev_lst t k)) k v, ev_rg (ev_lst t k), ev_ke (ev_lst t k), ev_kc (ev_lst t k)) rfl (fun k h1 h2 => by rcases k with _ | _ | _ | _ | _ | k <;> first | rfl | exact absurd rfl h2 | omega) dX7_putIn_85 (fun H locs hP hD hS => ?_)
      refine lv_aload_n hx hb dX7_putIn_86 rfl (lv_at hl 0 rfl) ?_
      refine ev_get (v := .ref (ad i 3)) hx hb hts hi7 hown hK hP hi (ev_up_s st i _) 6 (by decide) (hts (.fieldLink RX7 25 "EventloopRow$Thing" "rightsRow" "[I") (by decide +kernel)) rfl dX7_putIn_87 ?_
      refine lv_iload_n hx hb dX7_putIn_90 rfl (lv_at hl 1 rfl) ?_
      refine lv_iload_n hx hb dX7_putIn_91 rfl (lv_at hl 3 rfl) ?_
      refine ev_ast (t := (ev_tg (ev_lst t k), ev_ch (ev_lst t k), ev_rv (ev_lst t k), ev_cs (ev_lst t k), ev_an (ev_lst t k), upd (ev_va (ev_lst t k)) k v, ev_rg (ev_lst t k), ev_ke (ev_lst t k), ev_kc (ev_lst t k))) hx hb hK hP hD hS hi 3 (by decide) rfl k (by omega) (by decide) (ev_tg (ev_lst t k), ev_ch (ev_lst t k), ev_rv (ev_lst t k), ev_cs (ev_lst t k), ev_an (ev_lst t k), upd (ev_va (ev_lst t k)) k v, upd (ev_rg (ev_lst t k)) k r, ev_ke (ev_lst t k), ev_kc (ev_lst t k)) rfl (fun k h1 h2 => by rcases k with _ | _ | _ | _ | _ | k <;> first | rfl | exact absurd rfl h2 | omega) dX7_putIn_92 (fun H locs hP hD hS => ?_)
      refine lv_bipush (v := nI 121) hx hb dX7_putIn_93 (by decide) ?_
      exact em_char hx hb hr hlocks (ev_pi_lt _ _ _ _) (by simp [ev_pi, c_3, c_8] <;> rfl) (by rw [show (ev_pi t k v r).2 = (ev_tg (ev_lst t k), ev_ch (ev_lst t k), ev_rv (ev_lst t k), ev_cs (ev_lst t k), ev_an (ev_lst t k), upd (ev_va (ev_lst t k)) k v, upd (ev_rg (ev_lst t k)) k r, ev_ke (ev_lst t k), ev_kc (ev_lst t k)) from (by simp [ev_pi, c_3, c_8] <;> rfl)]; exact hP) hS dX7_putIn_95
    ·
      refine lv_bipush (v := nI 110) hx hb dX7_putIn_28 (by decide) ?_
      exact em_char hx hb hr hlocks (ev_pi_lt _ _ _ _) (by simp [ev_pi, c_3, c_8] <;> rfl) (by rw [show (ev_pi t k v r).2 = t from (by simp [ev_pi, c_3, c_8] <;> rfl)]; exact hP) hS dX7_putIn_30
set_option maxHeartbeats 4000000 in
set_option maxRecDepth 100000 in
theorem c_X7_takeOut (l : Launch) {D : va_G} {cI cO : ClassId} {b : Nat → Nat} {ad : Nat → Nat → Nat} {st : ev_ST} {A : Nat → Prop} {i : Nat} {t : ev_TH} (hi : i < st.1) (hD : va_D A (ev_wl cI cO b ad (ev_up st i t))) {k : Nat} (hk : k < 20) (hkc : ev_kc t ≤ 20) : Met l yX7_takeOut wsX7_takeOut ({ frames := 1, cells := 0, slots := 0, locals := 22 }) (ev_Pc D cI cO (ev_P D cI cO b ad (ev_up st i t)) [.ref (ad i 0), .int (nI k)]) (ev_QM (some (.int (nI ((ev_tk t k).1)))) (ev_P D cI cO b ad (ev_up st i ((ev_tk t k).2))) A) 0 0 A := by
  refine ev_body (cc := cX7_takeOut) (maxL := 4) (ret := (some .char)) (by decide) rfl (Nat.le_of_ble_eq_true rfl) ?_
  intro p e s m args below meth c hx hb hr hml hown hts hlocks hnm hP hK ls hl
  have hS : va_S A s.heap s.heap [] := va_S.rf
  have hl : lv_has ls 4 [(0, .ref (ad i 0)), (1, .int (nI k))] := hl
  have hi7 : ∀ w ∈ wsX70, w ∈ wsX7_takeOut := by decide +kernel
  have LP : ∀ (n j q : Nat) (f : Nat → Int32) (H : Heap) (locs : List Loc), j + n = ev_kc t → q ≤ j → ev_P D cI cO b ad (ev_up st i (ev_tg t, ev_ch t, ev_rv t, ev_cs t, ev_an t, ev_va t, upd (ev_rg t) k (-1), f, ev_kc t)) H → va_D A (ev_wl cI cO b ad (ev_up st i (ev_tg t, ev_ch t, ev_rv t, ev_cs t, ev_an t, ev_va t, upd (ev_rg t) k (-1), f, ev_kc t))) → va_S A s.heap H locs → ∀ ls : Array Slot, lv_has ls 4 [(0, .ref (ad i 0)), (1, .int (nI k)), (2, .int (nI q)), (3, .int (nI j))] → W p l e ({ frames := 1, cells := 0, slots := 0, locals := 22 }) s m args below meth c H locs 0 0 (MQ below (ev_QM (some (.int (nI 121))) (ev_P D cI cO b ad (ev_up st i (ev_tg t, ev_ch t, ev_rv t, ev_cs t, ev_an t, ev_va t, upd (ev_rg t) k (-1), (ev_rm k n j q f).1, (ev_rm k n j q f).2))) A) args s 0 0 A) (F0 m 44 ls []) := by
    intro n
    induction n with
    | zero =>
      intro j q f H locs hj hq hP hD hS ls hl
      refine lv_iload_n hx hb dX7_takeOut_44 rfl (lv_at hl 3 rfl) ?_
      refine lv_aload_n hx hb dX7_takeOut_45 rfl (lv_at hl 0 rfl) ?_
      refine ev_get (v := .int (nI (ev_kc t))) hx hb hts hi7 hown hK hP hi (ev_up_s st i _) 8 (by decide) (hts (.fieldLink RX7 65 "EventloopRow$Thing" "keyCount" "I") (by decide +kernel)) rfl dX7_takeOut_46 ?_
      refine en_icmp_ge (tgt := 89) hx hb (by omega) (by omega) dX7_takeOut_49 (by decide) (fun c_1 => ?_) (fun c_1 => by exfalso; omega)
      refine lv_aload_n hx hb dX7_takeOut_89 rfl (lv_at hl 0 rfl) ?_
      refine lv_iload_n hx hb dX7_takeOut_90 rfl (lv_at hl 2 rfl) ?_
      refine ev_put (t := (ev_tg t, ev_ch t, ev_rv t, ev_cs t, ev_an t, ev_va t, upd (ev_rg t) k (-1), f, ev_kc t)) (v := .int (nI q)) hx hb hts hi7 hown hK hP hD hS hi 8 (by decide) (hts (.fieldLink RX7 65 "EventloopRow$Thing" "keyCount" "I") (by decide +kernel)) rfl rfl rfl (ev_tg t, ev_ch t, ev_rv t, ev_cs t, ev_an t, ev_va t, upd (ev_rg t) k (-1), f, q) rfl (fun z h1 h2 => by rcases z with _ | _ | _ | _ | _ | z <;> first | rfl | omega) dX7_takeOut_91 (fun H locs hP hD hS => ?_)
      refine lv_bipush (v := nI 121) hx hb dX7_takeOut_94 (by decide) ?_
      exact em_char hx hb hr hlocks (by decide) rfl hP hS dX7_takeOut_96
    | succ n ih =>
      intro j q f H locs hj hq hP hD hS ls hl
      refine lv_iload_n hx hb dX7_takeOut_44 rfl (lv_at hl 3 rfl) ?_
      refine lv_aload_n hx hb dX7_takeOut_45 rfl (lv_at hl 0 rfl) ?_
      refine ev_get (v := .int (nI (ev_kc t))) hx hb hts hi7 hown hK hP hi (ev_up_s st i _) 8 (by decide) (hts (.fieldLink RX7 65 "EventloopRow$Thing" "keyCount" "I") (by decide +kernel)) rfl dX7_takeOut_46 ?_
      refine en_icmp_ge (tgt := 89) hx hb (by omega) (by omega) dX7_takeOut_49 (by decide) (fun c_2 => by exfalso; omega) (fun c_2 => ?_)
      refine lv_iload_n hx hb dX7_takeOut_52 rfl (lv_at hl 3 rfl) ?_
      refine lv_bipush (v := nI 20) hx hb dX7_takeOut_53 (by decide) ?_
      refine en_icmp_ge (tgt := 89) hx hb (by omega) (by omega) dX7_takeOut_55 (by decide) (fun c_3 => by exfalso; omega) (fun c_3 => ?_)
      refine lv_aload_n hx hb dX7_takeOut_58 rfl (lv_at hl 0 rfl) ?_
      refine ev_get (v := .ref (ad i 4)) hx hb hts hi7 hown hK hP hi (ev_up_s st i _) 7 (by decide) (hts (.fieldLink RX7 28 "EventloopRow$Thing" "keyRow" "[I") (by decide +kernel)) rfl dX7_takeOut_59 ?_
      refine lv_iload_n hx hb dX7_takeOut_62 rfl (lv_at hl 3 rfl) ?_
      refine ev_ald (t := (ev_tg t, ev_ch t, ev_rv t, ev_cs t, ev_an t, ev_va t, upd (ev_rg t) k (-1), f, ev_kc t)) (f := f) hx hb hK hP hi (ev_up_s st i _) 4 (by decide) rfl j (by omega) (by decide) dX7_takeOut_63 ?_
      refine lv_iload_n hx hb dX7_takeOut_64 rfl (lv_at hl 1 rfl) ?_
      refine lv_icmp_eq (tgt := 83) hx hb dX7_takeOut_65 (by decide) (fun c_4 => ?_) (fun c_4 => ?_)
      ·
        refine lv_iinc (v := nI (j + 1)) (lv' := [(3, .int (nI (j + 1))), (0, .ref (ad i 0)), (1, .int (nI k)), (2, .int (nI q))]) hx hb dX7_takeOut_83 hl (k := 3) rfl (ev_inc1 _) (by decide) rfl (fun ls hl => ?_)
        refine lv_goto (tgt := 44) hx hb dX7_takeOut_86 (by decide) ?_
        rw [show ev_rm k (n + 1) j q f = ev_rm k n (j + 1) (q) (f) from (by simp [ev_rm, c_2, c_3, c_4])]
        exact ih (j + 1) (q) (f) H locs (by omega) (by omega) hP hD hS ls (lv_sub hl [1, 2, 3, 0] rfl)
      ·
        refine lv_aload_n hx hb dX7_takeOut_68 rfl (lv_at hl 0 rfl) ?_
        refine ev_get (v := .ref (ad i 4)) hx hb hts hi7 hown hK hP hi (ev_up_s st i _) 7 (by decide) (hts (.fieldLink RX7 28 "EventloopRow$Thing" "keyRow" "[I") (by decide +kernel)) rfl dX7_takeOut_69 ?_
        refine lv_iload_n hx hb dX7_takeOut_72 rfl (lv_at hl 2 rfl) ?_
        refine lv_aload_n hx hb dX7_takeOut_73 rfl (lv_at hl 0 rfl) ?_
        refine ev_get (v := .ref (ad i 4)) hx hb hts hi7 hown hK hP hi (ev_up_s st i _) 7 (by decide) (hts (.fieldLink RX7 28 "EventloopRow$Thing" "keyRow" "[I") (by decide +kernel)) rfl dX7_takeOut_74 ?_
        refine lv_iload_n hx hb dX7_takeOut_77 rfl (lv_at hl 3 rfl) ?_
        refine ev_ald (t := (ev_tg t, ev_ch t, ev_rv t, ev_cs t, ev_an t, ev_va t, upd (ev_rg t) k (-1), f, ev_kc t)) (f := f) hx hb hK hP hi (ev_up_s st i _) 4 (by decide) rfl j (by omega) (by decide) dX7_takeOut_78 ?_
        refine ev_ast (t := (ev_tg t, ev_ch t, ev_rv t, ev_cs t, ev_an t, ev_va t, upd (ev_rg t) k (-1), f, ev_kc t)) hx hb hK hP hD hS hi 4 (by decide) rfl q (by omega) (by decide) (ev_tg t, ev_ch t, ev_rv t, ev_cs t, ev_an t, ev_va t, upd (ev_rg t) k (-1), upd f q (f j), ev_kc t) rfl (fun k h1 h2 => by rcases k with _ | _ | _ | _ | _ | k <;> first | rfl | exact absurd rfl h2 | omega) dX7_takeOut_79 (fun H locs hP hD hS => ?_)
        refine lv_iinc (v := nI (q + 1)) (lv' := [(2, .int (nI (q + 1))), (0, .ref (ad i 0)), (1, .int (nI k)), (3, .int (nI j))]) hx hb dX7_takeOut_80 hl (k := 2) rfl (ev_inc1 _) (by decide) rfl (fun ls hl => ?_)
        refine lv_iinc (v := nI (j + 1)) (lv' := [(3, .int (nI (j + 1))), (2, .int (nI (q + 1))), (0, .ref (ad i 0)), (1, .int (nI k))]) hx hb dX7_takeOut_83 hl (k := 3) rfl (ev_inc1 _) (by decide) rfl (fun ls hl => ?_)
        refine lv_goto (tgt := 44) hx hb dX7_takeOut_86 (by decide) ?_
        rw [show ev_rm k (n + 1) j q f = ev_rm k n (j + 1) (q + 1) (upd f q (f j)) from (by simp [ev_rm, c_2, c_3, c_4])]
        exact ih (j + 1) (q + 1) (upd f q (f j)) H locs (by omega) (by omega) hP hD hS ls (lv_sub hl [2, 3, 1, 0] rfl)
  refine lv_aload_n hx hb dX7_takeOut_0 rfl (lv_at hl 0 rfl) ?_
  refine lv_iload_n hx hb dX7_takeOut_1 rfl (lv_at hl 1 rfl) ?_
  refine ev_cv (As := [.int (nI k)]) (rest := []) ⟨hx, hb, hml, hown, hts⟩ (c_X7_holds l (st := ev_up st i t) hi (ev_up_s st i _) (k := k) (by omega)) (cwV 1 hts gX7_takeOut_X7_holds rfl rfl rfl (by decide +kernel) ⟨Nat.le_of_ble_eq_true rfl, Nat.le_of_ble_eq_true rfl⟩) hP hK (ev_recv hK hP hi) rfl hl.1 (Nat.le_of_ble_eq_true rfl) dX7_takeOut_2 ⟨Nat.le_of_ble_eq_true rfl, Nat.le_of_ble_eq_true rfl⟩ ?_
  refine eb_if_ne (tgt := 11) hx hb dX7_takeOut_5 (by decide) (fun c_5 => ?_) (fun c_5 => ?_)
  ·
    refine lv_aload_n hx hb dX7_takeOut_11 rfl (lv_at hl 0 rfl) ?_
    refine lv_iconst (v := nI 4) hx hb dX7_takeOut_12 (by decide) ?_
    refine lv_iload_n hx hb dX7_takeOut_13 rfl (lv_at hl 1 rfl) ?_
    refine ev_cv (As := [.int (nI 4), .int (nI k)]) (rest := []) ⟨hx, hb, hml, hown, hts⟩ (c_X7_canBe l (st := ev_up st i t) hi (ev_up_s st i _) (r := 4) (k := k) (by omega)) (cwV 2 hts gX7_takeOut_X7_canBe rfl rfl rfl (by decide +kernel) ⟨Nat.le_of_ble_eq_true rfl, Nat.le_of_ble_eq_true rfl⟩) hP hK (ev_recv hK hP hi) rfl hl.1 (Nat.le_of_ble_eq_true rfl) dX7_takeOut_14 ⟨Nat.le_of_ble_eq_true rfl, Nat.le_of_ble_eq_true rfl⟩ ?_
    refine eb_if_ne (tgt := 23) hx hb dX7_takeOut_17 (by decide) (fun c_6 => ?_) (fun c_6 => ?_)
    ·
      refine lv_iload_n hx hb dX7_takeOut_23 rfl (lv_at hl 1 rfl) ?_
      refine en_if_lt (tgt := 40) hx hb (by omega) dX7_takeOut_24 (by decide) ?_
      refine lv_iload_n hx hb dX7_takeOut_27 rfl (lv_at hl 1 rfl) ?_
      refine lv_bipush (v := nI 20) hx hb dX7_takeOut_28 (by decide) ?_
      refine en_icmp_ge (tgt := 40) hx hb (by omega) (by omega) dX7_takeOut_30 (by decide) (fun c_8 => by exfalso; omega) (fun c_8 => ?_)
      refine lv_aload_n hx hb dX7_takeOut_33 rfl (lv_at hl 0 rfl) ?_
      refine ev_get (v := .ref (ad i 3)) hx hb hts hi7 hown hK hP hi (ev_up_s st i _) 6 (by decide) (hts (.fieldLink RX7 25 "EventloopRow$Thing" "rightsRow" "[I") (by decide +kernel)) rfl dX7_takeOut_34 ?_
      refine lv_iload_n hx hb dX7_takeOut_37 rfl (lv_at hl 1 rfl) ?_
      refine lv_iconst (v := -1) hx hb dX7_takeOut_38 (by decide) ?_
      refine ev_ast (t := t) hx hb hK hP hD hS hi 3 (by decide) rfl k (by omega) (by decide) (ev_tg t, ev_ch t, ev_rv t, ev_cs t, ev_an t, ev_va t, upd (ev_rg t) k (-1), ev_ke t, ev_kc t) rfl (fun k h1 h2 => by rcases k with _ | _ | _ | _ | _ | k <;> first | rfl | exact absurd rfl h2 | omega) dX7_takeOut_39 (fun H locs hP hD hS => ?_)
      refine lv_iconst (v := nI 0) hx hb dX7_takeOut_40 (by decide) ?_
      refine lv_istore_n (lv' := [(2, .int (nI 0)), (0, .ref (ad i 0)), (1, .int (nI k))]) hx hb dX7_takeOut_41 rfl hl (by decide) rfl (fun ls hl => ?_)
      refine lv_iconst (v := nI 0) hx hb dX7_takeOut_42 (by decide) ?_
      refine lv_istore_n (lv' := [(3, .int (nI 0)), (2, .int (nI 0)), (0, .ref (ad i 0)), (1, .int (nI k))]) hx hb dX7_takeOut_43 rfl hl (by decide) rfl (fun ls hl => ?_)
      have e9 : ev_tk t k = (121, (ev_tg t, ev_ch t, ev_rv t, ev_cs t, ev_an t, ev_va t, upd (ev_rg t) k (-1), (ev_rm k (ev_kc t) 0 0 (ev_ke t)).1, (ev_rm k (ev_kc t) 0 0 (ev_ke t)).2)) := by simp [ev_tk, c_5, c_6]
      rw [e9]
      exact LP (ev_kc t) 0 0 (ev_ke t) _ _ (Nat.zero_add _) (Nat.le_refl _) hP hD hS ls (lv_sub hl [2, 3, 1, 0] rfl)
    ·
      refine lv_bipush (v := nI 110) hx hb dX7_takeOut_20 (by decide) ?_
      exact em_char hx hb hr hlocks (ev_tk_lt _ _) (by simp [ev_tk, c_5, c_6]) (by rw [show (ev_tk t k).2 = t from (by simp [ev_tk, c_5, c_6])]; exact hP) hS dX7_takeOut_22
  ·
    refine lv_bipush (v := nI 121) hx hb dX7_takeOut_8 (by decide) ?_
    exact em_char hx hb hr hlocks (ev_tk_lt _ _) (by simp [ev_tk, c_5]) (by rw [show (ev_tk t k).2 = t from (by simp [ev_tk, c_5])]; exact hP) hS dX7_takeOut_10
end
section
/-! 06.things: what Things writes; whether what is listed is in order -/
section EVF
variable {D : va_G} {cI cO : ClassId} {b : Nat → Nat} {ad : Nat → Nat → Nat} {st : ev_ST} {A : Nat → Prop}
theorem ev_focD (i : Nat) (hD : va_D A (ev_wl cI cO b ad st)) : va_D A (ev_wl cI cO b ad (ev_up st i (st.2 i))) := by rw [ev_up_id]; exact hD
end EVF
def ev_rc (st : ev_ST) (k : Nat) (v : Int32) (i : Nat) : Nat × ev_ST := match ev_pb st 12 (some i) with
  | none => (84, st)
  | some j => if ev_holds (st.2 j) k then (if ev_can (st.2 j) 1 k then ((ev_pi (st.2 j) k v (ev_rg (st.2 j) k)).1, ev_up st j (ev_pi (st.2 j) k v (ev_rg (st.2 j) k)).2) else (110, st)) else ((ev_pi (st.2 j) k v (nI 7)).1, ev_up st j (ev_pi (st.2 j) k v (nI 7)).2)
theorem ev_rc_lt (st : ev_ST) (k : Nat) (v : Int32) (i : Nat) : (ev_rc st k v i).1 < 65536 := by
  unfold ev_rc
  split
  · simp
  · split
    · split
      · exact ev_pi_lt _ _ _ _
      · simp
    · exact ev_pi_lt _ _ _ _
def ev_sf (st : ev_ST) (k : Nat) (v : Int32) (i : Nat) : Nat → Option Nat → Nat × ev_ST
  | 0, o => if o.isSome then (84, st) else ev_rc st k v i
  | _ + 1, none => ev_rc st k v i
  | n + 1, some z => if (ev_tg (st.2 z)).isSome then
      (if ev_rv (st.2 z) then (84, st) else if ev_told (st.2 z) 2 then
        (match ev_pb st 12 (ev_tg (st.2 z)) with
          | none => (84, st)
          | some j => if ev_an (st.2 z) 2 = nI 1 then (if ev_kOther (st.2 j) k v then (84, st) else (121, st)) else (110, st))
        else ev_sf st k v i n (ev_tg (st.2 z)))
      else if ev_holds (st.2 z) k then (if ev_can (st.2 z) 1 k then ev_rc st k v i else (110, st)) else ev_sf st k v i n (ev_ch (st.2 z))
theorem ev_sf_lt (st : ev_ST) (k : Nat) (v : Int32) (i : Nat) : ∀ (n : Nat) (o : Option Nat), (ev_sf st k v i n o).1 < 65536 := by
  intro n
  induction n with
  | zero => intro o; cases o <;> simp [ev_sf, ev_rc_lt]
  | succ n ih =>
    intro o
    cases o with
    | none => simp [ev_sf, ev_rc_lt]
    | some z =>
      unfold ev_sf
      split
      · split
        · simp
        · split
          · split
            · simp
            · split
              · split <;> simp
              · simp
          · exact ih _
      · split
        · split
          · exact ev_rc_lt _ _ _ _
          · simp
        · exact ih _
def ev_df (st : ev_ST) (k : Nat) : Nat → Option Nat → Nat × ev_ST
  | 0, _ => (84, st)
  | _ + 1, none => (84, st)
  | n + 1, some z => if (ev_tg (st.2 z)).isSome then
      (if ev_rv (st.2 z) then (84, st) else if ev_told (st.2 z) 3 then
        (match ev_pb st 12 (ev_tg (st.2 z)) with
          | none => (84, st)
          | some j => if ev_an (st.2 z) 3 = nI 1 then (if ev_kKey (st.2 j) k then (84, st) else (121, st)) else (110, st))
        else ev_df st k n (ev_tg (st.2 z)))
      else ((ev_tk (st.2 z) k).1, ev_up st z (ev_tk (st.2 z) k).2)
theorem ev_df_lt (st : ev_ST) (k : Nat) : ∀ (n : Nat) (o : Option Nat), (ev_df st k n o).1 < 65536 := by
  intro n
  induction n with
  | zero => intro o; cases o <;> simp [ev_df]
  | succ n ih =>
    intro o
    cases o with
    | none => simp [ev_df]
    | some z =>
      unfold ev_df
      split
      · split
        · simp
        · split
          · split
            · simp
            · split
              · split <;> simp
              · simp
          · exact ih _
      · exact ev_tk_lt _ _
def ev_cnt (t : ev_TH) : Nat → Nat
  | 0 => 0
  | k + 1 => ev_cnt t k + if ev_holds t k then 1 else 0
/-- the keys that are listed are those that are held, each once, the small ones in their order -/
def ev_LS (t : ev_TH) : Prop := ev_kc t ≤ 20 ∧ ev_cnt t 20 = ev_kc t ∧ ∃ kp : Nat → Nat, (∀ j, j < ev_kc t → ev_ke t j = nI (kp j) ∧ kp j < 20 ∧ ev_holds t (kp j) = true) ∧ ∀ m, m < ev_kc t → ∀ j, j < m → ¬ ev_ke t j = nI (kp m) ∧ (kp m < 10 → ev_ke t j ≤ nI (kp m))
theorem c_X7_listedAt_i (l : Launch) {D : va_G} {cI cO : ClassId} {b : Nat → Nat} {ad : Nat → Nat → Nat} {st : ev_ST} {i : Nat} {t : ev_TH} (hi : i < st.1) (ht : st.2 i = t) {j : Nat} (hc : ev_kc t ≤ 20) (hj : j < ev_kc t) : Met l yX7_listedAt wsX7_listedAt ({ frames := 0, cells := 0, slots := 0, locals := 0 }) (ev_Pc D cI cO (ev_P D cI cO b ad st) [.ref (ad i 0), .int (nI j)]) (ev_QV (some (.int (ev_ke t j)))) 0 0 ev_no := by
  have h := c_X7_listedAt l (D := D) (cI := cI) (cO := cO) (b := b) (ad := ad) hi ht (j := j) hc (by omega)
  rw [if_pos hj] at h
  exact h
theorem c_X8_find_v (l : Launch) {D : va_G} {cI cO : ClassId} {b : Nat → Nat} {ad : Nat → Nat → Nat} {st : ev_ST} (hn : st.1 ≤ 12) {j : Nat} (hj : j < st.1) : Met l yX8_find wsX8_find ({ frames := 0, cells := 0, slots := 0, locals := 0 }) (ev_Pc D cI cO (ev_P D cI cO b ad st) [.ref (b 1), .int (nI j)]) (ev_QV (some (.ref (ad j 0)))) 0 0 ev_no := by
  have h := c_X8_find l (D := D) (cI := cI) (cO := cO) (b := b) (ad := ad) hn (j := j) (by omega)
  rw [if_pos hj] at h
  exact h
theorem c_X8_find_x (l : Launch) {D : va_G} {cI cO : ClassId} {b : Nat → Nat} {ad : Nat → Nat → Nat} {st : ev_ST} (hn : st.1 ≤ 12) {j : Nat} (hj : st.1 ≤ j) (hj2 : j < 2147483648) : Met l yX8_find wsX8_find ({ frames := 0, cells := 0, slots := 0, locals := 0 }) (ev_Pc D cI cO (ev_P D cI cO b ad st) [.ref (b 1), .int (nI j)]) (ev_QV (some .null)) 0 0 ev_no := by
  have h := c_X8_find l (D := D) (cI := cI) (cO := cO) (b := b) (ad := ad) hn (j := j) hj2
  rw [if_neg (by omega)] at h
  exact h
theorem c_X8_find_n (l : Launch) {D : va_G} {cI cO : ClassId} {b : Nat → Nat} {ad : Nat → Nat → Nat} {st : ev_ST} : Met l yX8_find wsX8_find ({ frames := 0, cells := 0, slots := 0, locals := 0 }) (ev_Pc D cI cO (ev_P D cI cO b ad st) [.ref (b 1), .int (-1)]) (ev_QV (some .null)) 0 0 ev_no := c_X8_find_m l
set_option maxHeartbeats 4000000 in
set_option maxRecDepth 100000 in
theorem c_X7_isInOrder (l : Launch) {D : va_G} {cI cO : ClassId} {b : Nat → Nat} {ad : Nat → Nat → Nat} {st : ev_ST}  {i : Nat} {t : ev_TH} (hi : i < st.1) (ht : st.2 i = t) {x k : Nat} (hk : k < 20) (hkc : ev_kc t ≤ 20) (hx0 : x ≤ ev_kc t) (h : ∀ j, j < x → ¬ ev_ke t j = nI k ∧ (k < 10 → ev_ke t j ≤ nI k)) : Met l yX7_isInOrder wsX7_isInOrder ({ frames := 1, cells := 0, slots := 0, locals := 21 }) (ev_Pc D cI cO (ev_P D cI cO b ad st) [.ref (ad i 0), .int (nI x), .int (nI k)]) (ev_QV (some (.int (ev_bi true)))) 0 0 ev_no := by
  refine ev_body (cc := cX7_isInOrder) (maxL := 5) (ret := (some .boolean)) (by decide) rfl (Nat.le_of_ble_eq_true rfl) ?_
  intro p e s m args below meth c hx hb hr hml hown hts hlocks hnm hP hK ls hl
  have hl : lv_has ls 5 [(0, .ref (ad i 0)), (1, .int (nI x)), (2, .int (nI k))] := hl
  have LP : ∀ (n q : Nat), q + n = x → ∀ ls : Array Slot, lv_has ls 5 [(0, .ref (ad i 0)), (1, .int (nI x)), (2, .int (nI k)), (3, .int (nI q))] → W p l e ({ frames := 1, cells := 0, slots := 0, locals := 21 }) s m args below meth c s.heap [] 0 0 (MQ below (ev_QV (some (.int (ev_bi true)))) args s 0 0 ev_no) (F0 m 2 ls []) := by
    intro n
    induction n with
    | zero =>
      intro q hq ls hl
      refine lv_iload_n hx hb dX7_isInOrder_2 rfl (lv_at hl 3 rfl) ?_
      refine lv_iload_n hx hb dX7_isInOrder_3 rfl (lv_at hl 1 rfl) ?_
      refine en_icmp_ge (tgt := 40) hx hb (by omega) (by omega) dX7_isInOrder_4 (by decide) (fun c_1 => ?_) (fun c_1 => by exfalso; omega)
      refine lv_iconst (v := nI 1) hx hb dX7_isInOrder_40 (by decide) ?_
      exact er_bool hx hb hr hlocks rfl dX7_isInOrder_41
    | succ n ih =>
      intro q hq ls hl
      refine lv_iload_n hx hb dX7_isInOrder_2 rfl (lv_at hl 3 rfl) ?_
      refine lv_iload_n hx hb dX7_isInOrder_3 rfl (lv_at hl 1 rfl) ?_
      refine en_icmp_ge (tgt := 40) hx hb (by omega) (by omega) dX7_isInOrder_4 (by decide) (fun c_2 => by exfalso; omega) (fun c_2 => ?_)
      refine lv_aload_n hx hb dX7_isInOrder_7 rfl (lv_at hl 0 rfl) ?_
      refine lv_iload_n hx hb dX7_isInOrder_8 rfl (lv_at hl 3 rfl) ?_
      refine ev_cv (As := [.int (nI q)]) (rest := []) ⟨hx, hb, hml, hown, hts⟩ (c_X7_listedAt_i l hi ht hkc (j := q) (by omega)) (cwV 1 hts gX7_isInOrder_X7_listedAt rfl rfl rfl (by decide +kernel) ⟨Nat.le_of_ble_eq_true rfl, Nat.le_of_ble_eq_true rfl⟩) hP hK (ev_recv hK hP hi) rfl hl.1 (Nat.le_of_ble_eq_true rfl) dX7_isInOrder_9 ⟨Nat.le_of_ble_eq_true rfl, Nat.le_of_ble_eq_true rfl⟩ ?_
      refine lv_istore (lv' := [(4, .int (ev_ke t q)), (0, .ref (ad i 0)), (1, .int (nI x)), (2, .int (nI k)), (3, .int (nI q))]) hx hb dX7_isInOrder_12 hl (by decide) rfl (fun ls hl => ?_)
      refine lv_iload hx hb dX7_isInOrder_14 (lv_at hl 0 rfl) ?_
      refine lv_iload_n hx hb dX7_isInOrder_16 rfl (lv_at hl 3 rfl) ?_
      refine lv_icmp_eq (tgt := 32) hx hb dX7_isInOrder_17 (by decide) (fun c_3 => by exfalso; exact (h q (by omega)).1 c_3) (fun c_3 => ?_)
      refine lv_iload_n hx hb dX7_isInOrder_20 rfl (lv_at hl 3 rfl) ?_
      refine lv_bipush (v := nI 10) hx hb dX7_isInOrder_21 (by decide) ?_
      refine en_icmp_ge (tgt := 34) hx hb (by omega) (by omega) dX7_isInOrder_23 (by decide) (fun c_4 => ?_) (fun c_4 => ?_)
      ·
        refine lv_iinc (v := nI (q + 1)) (lv' := [(3, .int (nI (q + 1))), (4, .int (ev_ke t q)), (0, .ref (ad i 0)), (1, .int (nI x)), (2, .int (nI k))]) hx hb dX7_isInOrder_34 hl (k := 4) rfl (ev_inc1 _) (by decide) rfl (fun ls hl => ?_)
        refine lv_goto (tgt := 2) hx hb dX7_isInOrder_37 (by decide) ?_
        exact ih (q + 1) (by omega) ls (lv_sub hl [2, 3, 4, 0] rfl)
      ·
        refine lv_iload hx hb dX7_isInOrder_26 (lv_at hl 0 rfl) ?_
        refine lv_iload_n hx hb dX7_isInOrder_28 rfl (lv_at hl 3 rfl) ?_
        refine lv_icmp_le (tgt := 34) hx hb dX7_isInOrder_29 (by decide) (fun c_5 => ?_) (fun c_5 => by exfalso; exact c_5 ((h q (by omega)).2 (by omega)))
        refine lv_iinc (v := nI (q + 1)) (lv' := [(3, .int (nI (q + 1))), (4, .int (ev_ke t q)), (0, .ref (ad i 0)), (1, .int (nI x)), (2, .int (nI k))]) hx hb dX7_isInOrder_34 hl (k := 4) rfl (ev_inc1 _) (by decide) rfl (fun ls hl => ?_)
        refine lv_goto (tgt := 2) hx hb dX7_isInOrder_37 (by decide) ?_
        exact ih (q + 1) (by omega) ls (lv_sub hl [2, 3, 4, 0] rfl)
  refine lv_iconst (v := nI 0) hx hb dX7_isInOrder_0 (by decide) ?_
  refine lv_istore_n (lv' := [(3, .int (nI 0)), (0, .ref (ad i 0)), (1, .int (nI x)), (2, .int (nI k))]) hx hb dX7_isInOrder_1 rfl hl (by decide) rfl (fun ls hl => ?_)
  exact LP x 0 (Nat.zero_add _) ls (lv_sub hl [1, 2, 3, 0] rfl)
theorem ev_cnt_le (t : ev_TH) : ∀ n, ev_cnt t n ≤ n := by
  intro n
  induction n with
  | zero => exact Nat.le_refl 0
  | succ n ih => unfold ev_cnt; split <;> omega
set_option maxHeartbeats 4000000 in
set_option maxRecDepth 100000 in
theorem c_X7_isListed (l : Launch) {D : va_G} {cI cO : ClassId} {b : Nat → Nat} {ad : Nat → Nat → Nat} {st : ev_ST}  {i : Nat} {t : ev_TH} (hi : i < st.1) (ht : st.2 i = t) (h : ev_LS t) : Met l yX7_isListed wsX7_isListed ({ frames := 2, cells := 0, slots := 0, locals := 45 }) (ev_Pc D cI cO (ev_P D cI cO b ad st) [.ref (ad i 0)]) (ev_QV (some (.int (ev_bi true)))) 0 0 ev_no := by
  refine ev_body (cc := cX7_isListed) (maxL := 4) (ret := (some .boolean)) (by decide) rfl (Nat.le_of_ble_eq_true rfl) ?_
  intro p e s m args below meth c hx hb hr hml hown hts hlocks hnm hP hK ls hl
  have hl : lv_has ls 4 [(0, .ref (ad i 0))] := hl
  have hi7 : ∀ w ∈ wsX70, w ∈ wsX7_isListed := by decide +kernel
  obtain ⟨hkc, hcnt, kp, hkp, hor⟩ := h
  have LP2 : ∀ (n q : Nat), q + n = ev_kc t → ∀ ls : Array Slot, lv_has ls 4 [(0, .ref (ad i 0)), (2, .int (nI q))] → W p l e ({ frames := 2, cells := 0, slots := 0, locals := 45 }) s m args below meth c s.heap [] 0 0 (MQ below (ev_QV (some (.int (ev_bi true)))) args s 0 0 ev_no) (F0 m 44 ls []) := by
    intro n
    induction n with
    | zero =>
      intro q hq ls hl
      refine lv_iload_n hx hb dX7_isListed_44 rfl (lv_at hl 1 rfl) ?_
      refine lv_aload_n hx hb dX7_isListed_45 rfl (lv_at hl 0 rfl) ?_
      refine ev_get (v := .int (nI (ev_kc t))) hx hb hts hi7 hown hK hP hi ht 8 (by decide) (hts (.fieldLink RX7 65 "EventloopRow$Thing" "keyCount" "I") (by decide +kernel)) rfl dX7_isListed_46 ?_
      refine en_icmp_ge (tgt := 83) hx hb (by omega) (by omega) dX7_isListed_49 (by decide) (fun c_1 => ?_) (fun c_1 => by exfalso; omega)
      refine lv_iconst (v := nI 1) hx hb dX7_isListed_83 (by decide) ?_
      exact er_bool hx hb hr hlocks rfl dX7_isListed_84
    | succ n ih =>
      intro q hq ls hl
      refine lv_iload_n hx hb dX7_isListed_44 rfl (lv_at hl 1 rfl) ?_
      refine lv_aload_n hx hb dX7_isListed_45 rfl (lv_at hl 0 rfl) ?_
      refine ev_get (v := .int (nI (ev_kc t))) hx hb hts hi7 hown hK hP hi ht 8 (by decide) (hts (.fieldLink RX7 65 "EventloopRow$Thing" "keyCount" "I") (by decide +kernel)) rfl dX7_isListed_46 ?_
      refine en_icmp_ge (tgt := 83) hx hb (by omega) (by omega) dX7_isListed_49 (by decide) (fun c_2 => by exfalso; omega) (fun c_2 => ?_)
      refine lv_aload_n hx hb dX7_isListed_52 rfl (lv_at hl 0 rfl) ?_
      refine lv_iload_n hx hb dX7_isListed_53 rfl (lv_at hl 1 rfl) ?_
      refine ev_cv (As := [.int (nI q)]) (rest := []) ⟨hx, hb, hml, hown, hts⟩ (c_X7_listedAt_i l hi ht hkc (j := q) (by omega)) (cwV 1 hts gX7_isListed_X7_listedAt rfl rfl rfl (by decide +kernel) ⟨Nat.le_of_ble_eq_true rfl, Nat.le_of_ble_eq_true rfl⟩) hP hK (ev_recv hK hP hi) rfl hl.1 (Nat.le_of_ble_eq_true rfl) dX7_isListed_54 ⟨Nat.le_of_ble_eq_true rfl, Nat.le_of_ble_eq_true rfl⟩ ?_
      refine en_eq (hkp q (by omega)).1 ?_
      have hk9 := (hkp q (by omega)).2
      refine lv_istore_n (lv' := [(3, .int (nI (kp q))), (0, .ref (ad i 0)), (2, .int (nI q))]) hx hb dX7_isListed_57 rfl hl (by decide) rfl (fun ls hl => ?_)
      refine lv_aload_n hx hb dX7_isListed_58 rfl (lv_at hl 1 rfl) ?_
      refine lv_iload_n hx hb dX7_isListed_59 rfl (lv_at hl 0 rfl) ?_
      refine ev_cv (As := [.int (nI (kp q))]) (rest := []) ⟨hx, hb, hml, hown, hts⟩ (c_X7_holds l hi ht (k := kp q) (by omega)) (cwV 1 hts gX7_isListed_X7_holds rfl rfl rfl (by decide +kernel) ⟨Nat.le_of_ble_eq_true rfl, Nat.le_of_ble_eq_true rfl⟩) hP hK (ev_recv hK hP hi) rfl hl.1 (Nat.le_of_ble_eq_true rfl) dX7_isListed_60 ⟨Nat.le_of_ble_eq_true rfl, Nat.le_of_ble_eq_true rfl⟩ ?_
      refine eb_if_eq (tgt := 75) hx hb dX7_isListed_63 (by decide) (fun c_3 => by exfalso; rw [hk9.2] at c_3; cases c_3) (fun c_3 => ?_)
      refine lv_aload_n hx hb dX7_isListed_66 rfl (lv_at hl 1 rfl) ?_
      refine lv_iload_n hx hb dX7_isListed_67 rfl (lv_at hl 2 rfl) ?_
      refine lv_iload_n hx hb dX7_isListed_68 rfl (lv_at hl 0 rfl) ?_
      refine ev_cv (As := [.int (nI q), .int (nI (kp q))]) (rest := []) ⟨hx, hb, hml, hown, hts⟩ (c_X7_isInOrder l hi ht (x := q) (k := kp q) (by omega) hkc (by omega) (hor q (by omega))) (cwV 2 hts gX7_isListed_X7_isInOrder rfl rfl rfl (by decide +kernel) ⟨Nat.le_of_ble_eq_true rfl, Nat.le_of_ble_eq_true rfl⟩) hP hK (ev_recv hK hP hi) rfl hl.1 (Nat.le_of_ble_eq_true rfl) dX7_isListed_69 ⟨Nat.le_of_ble_eq_true rfl, Nat.le_of_ble_eq_true rfl⟩ ?_
      refine eb_if_ne (tgt := 77) hx hb dX7_isListed_72 (by decide) (fun _ => ?_) (fun h => by cases h)
      refine lv_iinc (v := nI (q + 1)) (lv' := [(2, .int (nI (q + 1))), (3, .int (nI (kp q))), (0, .ref (ad i 0))]) hx hb dX7_isListed_77 hl (k := 2) rfl (ev_inc1 _) (by decide) rfl (fun ls hl => ?_)
      refine lv_goto (tgt := 44) hx hb dX7_isListed_80 (by decide) ?_
      exact ih (q + 1) (by omega) ls (lv_sub hl [2, 0] rfl)
  have LP1 : ∀ (n q w : Nat), q + n = 20 → w = ev_cnt t q → w ≤ 20 → ∀ ls : Array Slot, lv_has ls 4 [(0, .ref (ad i 0)), (1, .int (nI w)), (2, .int (nI q))] → W p l e ({ frames := 2, cells := 0, slots := 0, locals := 45 }) s m args below meth c s.heap [] 0 0 (MQ below (ev_QV (some (.int (ev_bi true)))) args s 0 0 ev_no) (F0 m 4 ls []) := by
    intro n
    induction n with
    | zero =>
      intro q w hq hw hw2 ls hl
      obtain rfl : q = 20 := by omega
      refine lv_iload_n hx hb dX7_isListed_4 rfl (lv_at hl 2 rfl) ?_
      refine lv_bipush (v := nI 20) hx hb dX7_isListed_5 (by decide) ?_
      refine en_icmp_ge (tgt := 32) hx hb (by omega) (by omega) dX7_isListed_7 (by decide) (fun c_5 => ?_) (fun c_5 => by exfalso; omega)
      refine lv_iload_n hx hb dX7_isListed_32 rfl (lv_at hl 1 rfl) ?_
      refine lv_aload_n hx hb dX7_isListed_33 rfl (lv_at hl 0 rfl) ?_
      refine ev_get (v := .int (nI (ev_kc t))) hx hb hts hi7 hown hK hP hi ht 8 (by decide) (hts (.fieldLink RX7 65 "EventloopRow$Thing" "keyCount" "I") (by decide +kernel)) rfl dX7_isListed_34 ?_
      refine en_icmp_eq (tgt := 42) hx hb (by omega) (by omega) dX7_isListed_37 (by decide) (fun c_6 => ?_) (fun c_6 => by exfalso; omega)
      refine lv_iconst (v := nI 0) hx hb dX7_isListed_42 (by decide) ?_
      refine lv_istore_n (lv' := [(2, .int (nI 0)), (0, .ref (ad i 0)), (1, .int (nI w))]) hx hb dX7_isListed_43 rfl hl (by decide) rfl (fun ls hl => ?_)
      exact LP2 (ev_kc t) 0 (Nat.zero_add _) ls (lv_sub hl [1, 0] rfl)
    | succ n ih =>
      intro q w hq hw hw2 ls hl
      refine lv_iload_n hx hb dX7_isListed_4 rfl (lv_at hl 2 rfl) ?_
      refine lv_bipush (v := nI 20) hx hb dX7_isListed_5 (by decide) ?_
      refine en_icmp_ge (tgt := 32) hx hb (by omega) (by omega) dX7_isListed_7 (by decide) (fun c_7 => by exfalso; omega) (fun c_7 => ?_)
      refine lv_iload_n hx hb dX7_isListed_10 rfl (lv_at hl 1 rfl) ?_
      refine lv_aload_n hx hb dX7_isListed_11 rfl (lv_at hl 0 rfl) ?_
      refine lv_iload_n hx hb dX7_isListed_12 rfl (lv_at hl 2 rfl) ?_
      refine ev_cv (As := [.int (nI q)]) (rest := [.int (nI w)]) ⟨hx, hb, hml, hown, hts⟩ (c_X7_holds l hi ht (k := q) (by omega)) (cwV 1 hts gX7_isListed_X7_holds rfl rfl rfl (by decide +kernel) ⟨Nat.le_of_ble_eq_true rfl, Nat.le_of_ble_eq_true rfl⟩) hP hK (ev_recv hK hP hi) rfl hl.1 (Nat.le_of_ble_eq_true rfl) dX7_isListed_13 ⟨Nat.le_of_ble_eq_true rfl, Nat.le_of_ble_eq_true rfl⟩ ?_
      refine eb_if_eq (tgt := 23) hx hb dX7_isListed_16 (by decide) (fun c_8 => ?_) (fun c_8 => ?_)
      ·
        refine lv_iconst (v := nI 0) hx hb dX7_isListed_23 (by decide) ?_
        refine en_iadd hx hb (w + 0) rfl dX7_isListed_24 ?_
        refine lv_istore_n (lv' := [(1, .int (nI (w + 0))), (0, .ref (ad i 0)), (2, .int (nI q))]) hx hb dX7_isListed_25 rfl hl (by decide) rfl (fun ls hl => ?_)
        refine lv_iinc (v := nI (q + 1)) (lv' := [(2, .int (nI (q + 1))), (1, .int (nI (w + 0))), (0, .ref (ad i 0))]) hx hb dX7_isListed_26 hl (k := 2) rfl (ev_inc1 _) (by decide) rfl (fun ls hl => ?_)
        refine lv_goto (tgt := 4) hx hb dX7_isListed_29 (by decide) ?_
        have e9 : w + 0 = ev_cnt t (q + 1) := by simp [ev_cnt, hw, c_8]
        exact ih (q + 1) (w + 0) (by omega) e9 (by rw [e9]; exact Nat.le_trans (ev_cnt_le t (q + 1)) (by omega)) ls (lv_sub hl [2, 1, 0] rfl)
      ·
        refine lv_iconst (v := nI 1) hx hb dX7_isListed_19 (by decide) ?_
        refine lv_goto (tgt := 24) hx hb dX7_isListed_20 (by decide) ?_
        refine en_iadd hx hb (w + 1) rfl dX7_isListed_24 ?_
        refine lv_istore_n (lv' := [(1, .int (nI (w + 1))), (0, .ref (ad i 0)), (2, .int (nI q))]) hx hb dX7_isListed_25 rfl hl (by decide) rfl (fun ls hl => ?_)
        refine lv_iinc (v := nI (q + 1)) (lv' := [(2, .int (nI (q + 1))), (1, .int (nI (w + 1))), (0, .ref (ad i 0))]) hx hb dX7_isListed_26 hl (k := 2) rfl (ev_inc1 _) (by decide) rfl (fun ls hl => ?_)
        refine lv_goto (tgt := 4) hx hb dX7_isListed_29 (by decide) ?_
        have e9 : w + 1 = ev_cnt t (q + 1) := by simp [ev_cnt, hw, c_8]
        exact ih (q + 1) (w + 1) (by omega) e9 (by rw [e9]; exact Nat.le_trans (ev_cnt_le t (q + 1)) (by omega)) ls (lv_sub hl [2, 1, 0] rfl)
  refine lv_iconst (v := nI 0) hx hb dX7_isListed_0 (by decide) ?_
  refine lv_istore_n (lv' := [(1, .int (nI 0)), (0, .ref (ad i 0))]) hx hb dX7_isListed_1 rfl hl (by decide) rfl (fun ls hl => ?_)
  refine lv_iconst (v := nI 0) hx hb dX7_isListed_2 (by decide) ?_
  refine lv_istore_n (lv' := [(2, .int (nI 0)), (1, .int (nI 0)), (0, .ref (ad i 0))]) hx hb dX7_isListed_3 rfl hl (by decide) rfl (fun ls hl => ?_)
  exact LP1 20 0 0 rfl rfl (by decide) ls (lv_sub hl [2, 1, 0] rfl)
set_option maxHeartbeats 4000000 in
set_option maxRecDepth 100000 in
theorem c_X8_areListed (l : Launch) {D : va_G} {cI cO : ClassId} {b : Nat → Nat} {ad : Nat → Nat → Nat} {st : ev_ST}  (hn : st.1 ≤ 12) (hLS : ∀ i, i < st.1 → ev_tg (st.2 i) = none → ev_LS (st.2 i)) : Met l yX8_areListed wsX8_areListed ({ frames := 3, cells := 0, slots := 0, locals := 68 }) (ev_Pc D cI cO (ev_P D cI cO b ad st) [.ref (b 1)]) (ev_QV (some (.int (ev_bi true)))) 0 0 ev_no := by
  refine ev_body (cc := cX8_areListed) (maxL := 3) (ret := (some .boolean)) (by decide) rfl (Nat.le_of_ble_eq_true rfl) ?_
  intro p e s m args below meth c hx hb hr hml hown hts hlocks hnm hP hK ls hl
  have hl : lv_has ls 3 [(0, .ref (b 1))] := hl
  have hi8 : ∀ w ∈ wsX80, w ∈ wsX8_areListed := by decide +kernel
  have LP : ∀ (n q : Nat), q + n = st.1 → ∀ ls : Array Slot, lv_has ls 3 [(0, .ref (b 1)), (1, .int (nI q))] → W p l e ({ frames := 3, cells := 0, slots := 0, locals := 68 }) s m args below meth c s.heap [] 0 0 (MQ below (ev_QV (some (.int (ev_bi true)))) args s 0 0 ev_no) (F0 m 2 ls []) := by
    intro n
    induction n with
    | zero =>
      intro q hq ls hl
      refine lv_iload_n hx hb dX8_areListed_2 rfl (lv_at hl 1 rfl) ?_
      refine lv_aload_n hx hb dX8_areListed_3 rfl (lv_at hl 0 rfl) ?_
      refine ev_row (v := .int (nI st.1)) hx hb hts hi8 hown hK hP 1 (by decide) (hts (.fieldLink RX8 17 "EventloopRow$Things" "count" "I") (by decide +kernel)) rfl dX8_areListed_4 ?_
      refine en_icmp_ge (tgt := 42) hx hb (by omega) (by omega) dX8_areListed_7 (by decide) (fun c_1 => ?_) (fun c_1 => by exfalso; omega)
      refine lv_iconst (v := nI 1) hx hb dX8_areListed_42 (by decide) ?_
      exact er_bool hx hb hr hlocks rfl dX8_areListed_43
    | succ n ih =>
      intro q hq ls hl
      refine lv_iload_n hx hb dX8_areListed_2 rfl (lv_at hl 1 rfl) ?_
      refine lv_aload_n hx hb dX8_areListed_3 rfl (lv_at hl 0 rfl) ?_
      refine ev_row (v := .int (nI st.1)) hx hb hts hi8 hown hK hP 1 (by decide) (hts (.fieldLink RX8 17 "EventloopRow$Things" "count" "I") (by decide +kernel)) rfl dX8_areListed_4 ?_
      refine en_icmp_ge (tgt := 42) hx hb (by omega) (by omega) dX8_areListed_7 (by decide) (fun c_2 => by exfalso; omega) (fun c_2 => ?_)
      refine lv_aload_n hx hb dX8_areListed_10 rfl (lv_at hl 0 rfl) ?_
      refine lv_iload_n hx hb dX8_areListed_11 rfl (lv_at hl 1 rfl) ?_
      refine ev_cv (As := [.int (nI q)]) (rest := []) ⟨hx, hb, hml, hown, hts⟩ (c_X8_find_v l hn (j := q) (by omega)) (cwV 1 hts gX8_areListed_X8_find rfl rfl rfl (by decide +kernel) ⟨Nat.le_of_ble_eq_true rfl, Nat.le_of_ble_eq_true rfl⟩) hP hK (ev_recvT hK hP) rfl hl.1 (Nat.le_of_ble_eq_true rfl) dX8_areListed_12 ⟨Nat.le_of_ble_eq_true rfl, Nat.le_of_ble_eq_true rfl⟩ ?_
      refine lv_astore_n (lv' := [(2, .ref (ad q 0)), (0, .ref (b 1)), (1, .int (nI q))]) hx hb dX8_areListed_15 rfl hl (by decide) rfl (fun ls hl => ?_)
      refine lv_aload_n hx hb dX8_areListed_16 rfl (lv_at hl 0 rfl) ?_
      refine lv_ifnull hx hb dX8_areListed_17 ?_
      refine lv_aload_n hx hb dX8_areListed_20 rfl (lv_at hl 0 rfl) ?_
      refine ev_cv (As := []) (rest := []) ⟨hx, hb, hml, hown, hts⟩ (c_X7_isProxy l (show q < st.1 by omega) rfl) (cwV 0 hts gX8_areListed_X7_isProxy rfl rfl rfl (by decide +kernel) ⟨Nat.le_of_ble_eq_true rfl, Nat.le_of_ble_eq_true rfl⟩) hP hK (ev_recv hK hP (show q < st.1 by omega)) rfl hl.1 (Nat.le_of_ble_eq_true rfl) dX8_areListed_21 ⟨Nat.le_of_ble_eq_true rfl, Nat.le_of_ble_eq_true rfl⟩ ?_
      refine eb_if_ne (tgt := 36) hx hb dX8_areListed_24 (by decide) (fun c_3 => ?_) (fun c_3 => ?_)
      ·
        refine lv_iinc (v := nI (q + 1)) (lv' := [(1, .int (nI (q + 1))), (2, .ref (ad q 0)), (0, .ref (b 1))]) hx hb dX8_areListed_36 hl (k := 2) rfl (ev_inc1 _) (by decide) rfl (fun ls hl => ?_)
        refine lv_goto (tgt := 2) hx hb dX8_areListed_39 (by decide) ?_
        exact ih (q + 1) (by omega) ls (lv_sub hl [2, 0] rfl)
      ·
        refine lv_aload_n hx hb dX8_areListed_27 rfl (lv_at hl 0 rfl) ?_
        refine ev_cv (As := []) (rest := []) ⟨hx, hb, hml, hown, hts⟩ (c_X7_isListed l (show q < st.1 by omega) rfl (hLS q (by omega) (by rcases hh : ev_tg (st.2 q) with _ | _ <;> simp_all))) (cwV 0 hts gX8_areListed_X7_isListed rfl rfl rfl (by decide +kernel) ⟨Nat.le_of_ble_eq_true rfl, Nat.le_of_ble_eq_true rfl⟩) hP hK (ev_recv hK hP (show q < st.1 by omega)) rfl hl.1 (Nat.le_of_ble_eq_true rfl) dX8_areListed_28 ⟨Nat.le_of_ble_eq_true rfl, Nat.le_of_ble_eq_true rfl⟩ ?_
        refine eb_if_ne (tgt := 36) hx hb dX8_areListed_31 (by decide) (fun _ => ?_) (fun h => by cases h)
        refine lv_iinc (v := nI (q + 1)) (lv' := [(1, .int (nI (q + 1))), (2, .ref (ad q 0)), (0, .ref (b 1))]) hx hb dX8_areListed_36 hl (k := 2) rfl (ev_inc1 _) (by decide) rfl (fun ls hl => ?_)
        refine lv_goto (tgt := 2) hx hb dX8_areListed_39 (by decide) ?_
        exact ih (q + 1) (by omega) ls (lv_sub hl [2, 0] rfl)
  refine lv_iconst (v := nI 0) hx hb dX8_areListed_0 (by decide) ?_
  refine lv_istore_n (lv' := [(1, .int (nI 0)), (0, .ref (b 1))]) hx hb dX8_areListed_1 rfl hl (by decide) rfl (fun ls hl => ?_)
  exact LP st.1 0 (Nat.zero_add _) ls (lv_sub hl [1, 0] rfl)
set_option maxHeartbeats 4000000 in
set_option maxRecDepth 100000 in
theorem c_X8_chainTo_a (l : Launch) {D : va_G} {cI cO : ClassId} {b : Nat → Nat} {ad : Nat → Nat → Nat} {st : ev_ST}  {i : Nat} (hi : i < st.1) (hch : ev_ch (st.2 i) = none) : Met l yX8_chainTo wsX8_chainTo ({ frames := 0, cells := 0, slots := 0, locals := 0 }) (ev_Pc D cI cO (ev_P D cI cO b ad st) [.ref (b 1), .ref (ad i 0), .null]) (ev_QV (some (.int (nI 121)))) 0 0 ev_no := by
  refine ev_body (cc := cX8_chainTo) (maxL := 5) (ret := (some .char)) (by decide) rfl (Nat.le_of_ble_eq_true rfl) ?_
  intro p e s m args below meth c hx hb hr hml hown hts hlocks hnm hP hK ls hl
  have hl : lv_has ls 5 [(0, .ref (b 1)), (1, .ref (ad i 0)), (2, .null)] := hl
  have hi7 : ∀ w ∈ wsX70, w ∈ wsX8_chainTo := by decide +kernel
  refine lv_aload_n hx hb dX8_chainTo_0 rfl (lv_at hl 1 rfl) ?_
  refine ev_get (v := .null) hx hb hts hi7 hown hK hP hi rfl 3 (by decide) (hts (.fieldLink RX8 57 "EventloopRow$Thing" "chain" "LEventloopRow$Thing;") (by decide +kernel)) (by show some (ev_rf ad (ev_ch (st.2 i))) = some Value.null; rw [hch]; rfl) dX8_chainTo_1 ?_
  refine lv_aload_nN hx hb dX8_chainTo_4 rfl (lv_at hl 2 rfl) ?_
  refine lv_acmp_ne (rx := none) (ry := none) (tgt := 11) hx hb dX8_chainTo_5 (by decide) (fun h => by first | exact absurd rfl h | cases h) (fun _ => ?_)
  refine lv_bipush (v := nI 121) hx hb dX8_chainTo_8 (by decide) ?_
  exact er_char hx hb hr hlocks (by decide) rfl dX8_chainTo_10
set_option maxHeartbeats 4000000 in
set_option maxRecDepth 100000 in
theorem c_X8_chainTo_b (l : Launch) {D : va_G} {cI cO : ClassId} {b : Nat → Nat} {ad : Nat → Nat → Nat} {st : ev_ST}  {i : Nat} (hi : i < st.1) (hch : ev_ch (st.2 i) = none) (htg : ev_tg (st.2 i) = none) : Met l yX8_chainTo wsX8_chainTo ({ frames := 1, cells := 0, slots := 0, locals := 20 }) (ev_Pc D cI cO (ev_P D cI cO b ad st) [.ref (b 1), .ref (ad i 0), .ref (ad i 0)]) (ev_QV (some (.int (nI 110)))) 0 0 ev_no := by
  refine ev_body (cc := cX8_chainTo) (maxL := 5) (ret := (some .char)) (by decide) rfl (Nat.le_of_ble_eq_true rfl) ?_
  intro p e s m args below meth c hx hb hr hml hown hts hlocks hnm hP hK ls hl
  have hl : lv_has ls 5 [(0, .ref (b 1)), (1, .ref (ad i 0)), (2, .ref (ad i 0))] := hl
  have hi7 : ∀ w ∈ wsX70, w ∈ wsX8_chainTo := by decide +kernel
  refine lv_aload_n hx hb dX8_chainTo_0 rfl (lv_at hl 1 rfl) ?_
  refine ev_get (v := .null) hx hb hts hi7 hown hK hP hi rfl 3 (by decide) (hts (.fieldLink RX8 57 "EventloopRow$Thing" "chain" "LEventloopRow$Thing;") (by decide +kernel)) (by show some (ev_rf ad (ev_ch (st.2 i))) = some Value.null; rw [hch]; rfl) dX8_chainTo_1 ?_
  refine lv_aload_n hx hb dX8_chainTo_4 rfl (lv_at hl 2 rfl) ?_
  refine lv_acmp_ne (rx := none) (ry := (some (ad i 0))) (tgt := 11) hx hb dX8_chainTo_5 (by decide) (fun _ => ?_) (fun h => by first | exact absurd rfl h | cases h)
  refine lv_aload_n hx hb dX8_chainTo_11 rfl (lv_at hl 1 rfl) ?_
  refine ev_get (v := .int (ev_bi (ev_cs (st.2 i)))) hx hb hts hi7 hown hK hP hi rfl 4 (by decide) (hts (.fieldLink RX8 85 "EventloopRow$Thing" "closed" "Z") (by decide +kernel)) rfl dX8_chainTo_12 ?_
  refine eb_if_eq (tgt := 21) hx hb dX8_chainTo_15 (by decide) (fun c_2 => ?_) (fun c_2 => ?_)
  ·
    refine lv_aload_n hx hb dX8_chainTo_21 rfl (lv_at hl 2 rfl) ?_
    refine lv_astore_n (lv' := [(3, .ref (ad i 0)), (0, .ref (b 1)), (1, .ref (ad i 0)), (2, .ref (ad i 0))]) hx hb dX8_chainTo_22 rfl hl (by decide) rfl (fun ls hl => ?_)
    refine lv_iconst (v := nI 0) hx hb dX8_chainTo_23 (by decide) ?_
    refine lv_istore (lv' := [(4, .int (nI 0)), (3, .ref (ad i 0)), (0, .ref (b 1)), (1, .ref (ad i 0)), (2, .ref (ad i 0))]) hx hb dX8_chainTo_24 hl (by decide) rfl (fun ls hl => ?_)
    refine lv_iload hx hb dX8_chainTo_26 (lv_at hl 0 rfl) ?_
    refine lv_bipush (v := nI 12) hx hb dX8_chainTo_28 (by decide) ?_
    refine en_icmp_gt (tgt := 63) hx hb (by omega) (by omega) dX8_chainTo_30 (by decide) (fun c_3 => by exfalso; omega) (fun c_3 => ?_)
    refine lv_aload_n hx hb dX8_chainTo_33 rfl (lv_at hl 1 rfl) ?_
    refine lv_ifnull hx hb dX8_chainTo_34 ?_
    refine lv_aload_n hx hb dX8_chainTo_37 rfl (lv_at hl 1 rfl) ?_
    refine ev_cv (As := []) (rest := []) ⟨hx, hb, hml, hown, hts⟩ (c_X7_isProxy l hi rfl) (cwV 0 hts gX8_chainTo_X7_isProxy rfl rfl rfl (by decide +kernel) ⟨Nat.le_of_ble_eq_true rfl, Nat.le_of_ble_eq_true rfl⟩) hP hK (ev_recv hK hP hi) rfl hl.1 (Nat.le_of_ble_eq_true rfl) dX8_chainTo_38 ⟨Nat.le_of_ble_eq_true rfl, Nat.le_of_ble_eq_true rfl⟩ ?_
    refine eb_if_ne (tgt := 63) hx hb dX8_chainTo_41 (by decide) (fun c_4 => by exfalso; rw [htg] at c_4; cases c_4) (fun c_4 => ?_)
    refine lv_aload_n hx hb dX8_chainTo_44 rfl (lv_at hl 1 rfl) ?_
    refine lv_aload_n hx hb dX8_chainTo_45 rfl (lv_at hl 3 rfl) ?_
    refine lv_acmp_ne (rx := (some (ad i 0))) (ry := (some (ad i 0))) (tgt := 52) hx hb dX8_chainTo_46 (by decide) (fun h => by first | exact absurd rfl h | cases h) (fun _ => ?_)
    refine lv_bipush (v := nI 110) hx hb dX8_chainTo_49 (by decide) ?_
    exact er_char hx hb hr hlocks (by decide) rfl dX8_chainTo_51
  ·
    refine lv_bipush (v := nI 110) hx hb dX8_chainTo_18 (by decide) ?_
    exact er_char hx hb hr hlocks (by decide) rfl dX8_chainTo_20
set_option maxHeartbeats 4000000 in
set_option maxRecDepth 100000 in
theorem c_X8_receive (l : Launch) {D : va_G} {cI cO : ClassId} {b : Nat → Nat} {ad : Nat → Nat → Nat} {st : ev_ST} {A : Nat → Prop} (hD : va_D A (ev_wl cI cO b ad st)) (hn : st.1 ≤ 12) (hTG : ∀ i, i < st.1 → ∀ j, ev_tg (st.2 i) = some j → j < st.1) {i k : Nat} {v : Int32} (hi : i < st.1) (hk : k < 20) (hKP : ∀ j, j < st.1 → ev_holds (st.2 j) k = false → ev_kc (st.2 j) < 20) : Met l yX8_receive wsX8_receive ({ frames := 2, cells := 0, slots := 0, locals := 45 }) (ev_Pc D cI cO (ev_P D cI cO b ad st) [.ref (b 1), .ref (ad i 0), .int (nI k), .int v]) (ev_QM (some (.int (nI ((ev_rc st k v i).1)))) (ev_P D cI cO b ad (ev_rc st k v i).2) A) 0 0 A := by
  refine ev_body (cc := cX8_receive) (maxL := 5) (ret := (some .char)) (by decide) rfl (Nat.le_of_ble_eq_true rfl) ?_
  intro p e s m args below meth c hx hb hr hml hown hts hlocks hnm hP hK ls hl
  have hS : va_S A s.heap s.heap [] := va_S.rf
  have hl : lv_has ls 5 [(0, .ref (b 1)), (1, .ref (ad i 0)), (2, .int (nI k)), (3, .int v)] := hl
  refine lv_aload_n hx hb dX8_receive_0 rfl (lv_at hl 0 rfl) ?_
  refine lv_aload_n hx hb dX8_receive_1 rfl (lv_at hl 1 rfl) ?_
  refine ev_cv (As := [.ref (ad i 0)]) (rest := []) ⟨hx, hb, hml, hown, hts⟩ (c_X8_plainBehind l hn hTG hi) (cwV 1 hts gX8_receive_X8_plainBehind rfl rfl rfl (by decide +kernel) ⟨Nat.le_of_ble_eq_true rfl, Nat.le_of_ble_eq_true rfl⟩) hP hK (ev_recvT hK hP) rfl hl.1 (Nat.le_of_ble_eq_true rfl) dX8_receive_2 ⟨Nat.le_of_ble_eq_true rfl, Nat.le_of_ble_eq_true rfl⟩ ?_
  refine eo_astore (lv' := [(4, ev_rf ad (ev_pb st 12 (some i))), (0, .ref (b 1)), (1, .ref (ad i 0)), (2, .int (nI k)), (3, .int v)]) hx hb dX8_receive_5 hl (by decide) rfl (fun ls hl => ?_)
  refine eo_aload hx hb dX8_receive_7 (lv_at hl 0 rfl) ?_
  refine eo_ifnonnull (tgt := 15) hx hb dX8_receive_9 (by decide) (fun j_2 c_1 => ?_) (fun c_1 => ?_)
  · -- some
    rw [c_1] at hl
    have hi_3 : j_2 < st.1 := (ev_pb_lt hTG 12 (some i) (fun _ h => by cases h; exact hi)) _ c_1
    have hl : lv_has ls 5 [(4, .ref (ad j_2 0)), (0, .ref (b 1)), (1, .ref (ad i 0)), (2, .int (nI k)), (3, .int v)] := hl
    refine lv_aload hx hb dX8_receive_15 (lv_at hl 0 rfl) ?_
    refine lv_iload_n hx hb dX8_receive_17 rfl (lv_at hl 3 rfl) ?_
    refine ev_cv (As := [.int (nI k)]) (rest := []) ⟨hx, hb, hml, hown, hts⟩ (c_X7_holds l hi_3 rfl (k := k) (by omega)) (cwV 1 hts gX8_receive_X7_holds rfl rfl rfl (by decide +kernel) ⟨Nat.le_of_ble_eq_true rfl, Nat.le_of_ble_eq_true rfl⟩) hP hK (ev_recv hK hP hi_3) rfl hl.1 (Nat.le_of_ble_eq_true rfl) dX8_receive_18 ⟨Nat.le_of_ble_eq_true rfl, Nat.le_of_ble_eq_true rfl⟩ ?_
    refine eb_if_ne (tgt := 34) hx hb dX8_receive_21 (by decide) (fun c_4 => ?_) (fun c_4 => ?_)
    ·
      refine lv_aload hx hb dX8_receive_34 (lv_at hl 0 rfl) ?_
      refine lv_iconst (v := nI 1) hx hb dX8_receive_36 (by decide) ?_
      refine lv_iload_n hx hb dX8_receive_37 rfl (lv_at hl 3 rfl) ?_
      refine ev_cv (As := [.int (nI 1), .int (nI k)]) (rest := []) ⟨hx, hb, hml, hown, hts⟩ (c_X7_canBe l hi_3 rfl (r := 1) (k := k) (by omega)) (cwV 2 hts gX8_receive_X7_canBe rfl rfl rfl (by decide +kernel) ⟨Nat.le_of_ble_eq_true rfl, Nat.le_of_ble_eq_true rfl⟩) hP hK (ev_recv hK hP hi_3) rfl hl.1 (Nat.le_of_ble_eq_true rfl) dX8_receive_38 ⟨Nat.le_of_ble_eq_true rfl, Nat.le_of_ble_eq_true rfl⟩ ?_
      refine eb_if_eq (tgt := 60) hx hb dX8_receive_41 (by decide) (fun c_5 => ?_) (fun c_5 => ?_)
      ·
        refine lv_bipush (v := nI 110) hx hb dX8_receive_60 (by decide) ?_
        exact em_char hx hb hr hlocks (ev_rc_lt _ _ _ _) (by simp [ev_rc, c_1, c_4, c_5]) (by rw [show (ev_rc st k v i).2 = st from (by simp [ev_rc, c_1, c_4, c_5])]; exact hP) hS dX8_receive_62
      ·
        refine lv_aload hx hb dX8_receive_44 (lv_at hl 0 rfl) ?_
        refine lv_iload_n hx hb dX8_receive_46 rfl (lv_at hl 3 rfl) ?_
        refine lv_iload_n hx hb dX8_receive_47 rfl (lv_at hl 4 rfl) ?_
        refine lv_aload hx hb dX8_receive_48 (lv_at hl 0 rfl) ?_
        refine lv_iload_n hx hb dX8_receive_50 rfl (lv_at hl 3 rfl) ?_
        refine ev_cv (As := [.int (nI k)]) (rest := [.int v, .int (nI k), .ref (ad j_2 0)]) ⟨hx, hb, hml, hown, hts⟩ (c_X7_rightsOf l hi_3 rfl (k := k) (by omega)) (cwV 1 hts gX8_receive_X7_rightsOf rfl rfl rfl (by decide +kernel) ⟨Nat.le_of_ble_eq_true rfl, Nat.le_of_ble_eq_true rfl⟩) hP hK (ev_recv hK hP hi_3) rfl hl.1 (Nat.le_of_ble_eq_true rfl) dX8_receive_51 ⟨Nat.le_of_ble_eq_true rfl, Nat.le_of_ble_eq_true rfl⟩ ?_
        refine ev_mv (As := [.int (nI k), .int v, .int (ev_rg (st.2 j_2) k)]) (rest := []) ⟨hx, hb, hml, hown, hts⟩ (c_X7_putIn l hi_3 (ev_focD j_2 hD) (k := k) (v := v) (r := (ev_rg (st.2 j_2) k)) (by omega) (hKP j_2 hi_3)) (cwV 3 hts gX8_receive_X7_putIn rfl rfl rfl (by decide +kernel) ⟨Nat.le_of_ble_eq_true rfl, Nat.le_of_ble_eq_true rfl⟩) (ev_foc hP) hK hS (ev_recv hK hP hi_3) rfl hl.1 (Nat.le_of_ble_eq_true rfl) dX8_receive_54 ⟨Nat.le_of_ble_eq_true rfl, Nat.le_of_ble_eq_true rfl⟩ (fun H locs hP hz hk hS => ?_)
        refine lv_goto (tgt := 62) hx hb dX8_receive_57 (by decide) ?_
        exact em_char hx hb hr hlocks (ev_rc_lt _ _ _ _) (by simp [ev_rc, c_1, c_4, c_5]) (by rw [show (ev_rc st k v i).2 = ev_up st j_2 (ev_pi (st.2 j_2) k v (ev_rg (st.2 j_2) k)).2 from (by simp [ev_rc, c_1, c_4, c_5])]; exact hP) hS dX8_receive_62
    ·
      refine lv_aload hx hb dX8_receive_24 (lv_at hl 0 rfl) ?_
      refine lv_iload_n hx hb dX8_receive_26 rfl (lv_at hl 3 rfl) ?_
      refine lv_iload_n hx hb dX8_receive_27 rfl (lv_at hl 4 rfl) ?_
      refine lv_bipush (v := nI 7) hx hb dX8_receive_28 (by decide) ?_
      refine ev_mv (As := [.int (nI k), .int v, .int (nI 7)]) (rest := []) ⟨hx, hb, hml, hown, hts⟩ (c_X7_putIn l hi_3 (ev_focD j_2 hD) (k := k) (v := v) (r := (nI 7)) (by omega) (hKP j_2 hi_3)) (cwV 3 hts gX8_receive_X7_putIn rfl rfl rfl (by decide +kernel) ⟨Nat.le_of_ble_eq_true rfl, Nat.le_of_ble_eq_true rfl⟩) (ev_foc hP) hK hS (ev_recv hK hP hi_3) rfl hl.1 (Nat.le_of_ble_eq_true rfl) dX8_receive_30 ⟨Nat.le_of_ble_eq_true rfl, Nat.le_of_ble_eq_true rfl⟩ (fun H locs hP hz hk hS => ?_)
      exact em_char hx hb hr hlocks (ev_rc_lt _ _ _ _) (by simp [ev_rc, c_1, c_4]) (by rw [show (ev_rc st k v i).2 = ev_up st j_2 (ev_pi (st.2 j_2) k v (nI 7)).2 from (by simp [ev_rc, c_1, c_4])]; exact hP) hS dX8_receive_33
  · -- null
    rw [c_1] at hl
    have hl : lv_has ls 5 [(4, .null), (0, .ref (b 1)), (1, .ref (ad i 0)), (2, .int (nI k)), (3, .int v)] := hl
    refine lv_bipush (v := nI 84) hx hb dX8_receive_12 (by decide) ?_
    exact em_char hx hb hr hlocks (ev_rc_lt _ _ _ _) (by simp [ev_rc, c_1]) (by rw [show (ev_rc st k v i).2 = st from (by simp [ev_rc, c_1])]; exact hP) hS dX8_receive_14
set_option maxHeartbeats 4000000 in
set_option maxRecDepth 100000 in
theorem c_X8_setFrom (l : Launch) {D : va_G} {cI cO : ClassId} {b : Nat → Nat} {ad : Nat → Nat → Nat} {st : ev_ST} {A : Nat → Prop} (hD : va_D A (ev_wl cI cO b ad st)) (hn : st.1 ≤ 12) (hTG : ∀ i, i < st.1 → ∀ j, ev_tg (st.2 i) = some j → j < st.1) (hCH : ∀ i, i < st.1 → ∀ j, ev_ch (st.2 i) = some j → j < st.1) {i k : Nat} {v : Int32} (hi : i < st.1) (hk : k < 20) (hKP : ∀ j, j < st.1 → ev_holds (st.2 j) k = false → ev_kc (st.2 j) < 20) : Met l yX8_setFrom wsX8_setFrom ({ frames := 3, cells := 0, slots := 0, locals := 69 }) (ev_Pc D cI cO (ev_P D cI cO b ad st) [.ref (b 1), .ref (ad i 0), .int (nI k), .int v]) (ev_QM (some (.int (nI ((ev_sf st k v i 30 (some i)).1)))) (ev_P D cI cO b ad (ev_sf st k v i 30 (some i)).2) A) 0 0 A := by
  refine ev_body (cc := cX8_setFrom) (maxL := 8) (ret := (some .char)) (by decide) rfl (Nat.le_of_ble_eq_true rfl) ?_
  intro p e s m args below meth c hx hb hr hml hown hts hlocks hnm hP hK ls hl
  have hS : va_S A s.heap s.heap [] := va_S.rf
  have hl : lv_has ls 8 [(0, .ref (b 1)), (1, .ref (ad i 0)), (2, .int (nI k)), (3, .int v)] := hl
  have hi7 : ∀ w ∈ wsX70, w ∈ wsX8_setFrom := by decide +kernel
  have LP : ∀ (n q : Nat) (o : Option Nat), q + n = 30 → (∀ j, o = some j → j < st.1) → ∀ ls : Array Slot, lv_has ls 8 [(0, .ref (b 1)), (1, .ref (ad i 0)), (2, .int (nI k)), (3, .int v), (4, ev_rf ad o), (5, .int (nI q))] → W p l e ({ frames := 3, cells := 0, slots := 0, locals := 69 }) s m args below meth c s.heap [] 0 0 (MQ below (ev_QM (some (.int (nI (ev_sf st k v i n o).1))) (ev_P D cI cO b ad (ev_sf st k v i n o).2) A) args s 0 0 A) (F0 m 6 ls []) := by
    intro n
    induction n with
    | zero =>
      intro q o hq ho ls hl
      refine lv_iload hx hb dX8_setFrom_6 (lv_at hl 5 rfl) ?_
      refine lv_bipush (v := nI 30) hx hb dX8_setFrom_8 (by decide) ?_
      refine en_icmp_ge (tgt := 160) hx hb (by omega) (by omega) dX8_setFrom_10 (by decide) (fun c_1 => ?_) (fun c_1 => by exfalso; omega)
      refine eo_aload hx hb dX8_setFrom_160 (lv_at hl 4 rfl) ?_
      refine eo_ifnonnull (tgt := 175) hx hb dX8_setFrom_162 (by decide) (fun j_3 c_2 => ?_) (fun c_2 => ?_)
      · -- some
        subst c_2
        have hi_4 : j_3 < st.1 := ho _ rfl
        refine lv_bipush (v := nI 84) hx hb dX8_setFrom_175 (by decide) ?_
        exact em_char hx hb hr hlocks (ev_sf_lt _ _ _ _ _ _) (by simp [ev_sf, ev_yn]) (by rw [show (ev_sf st k v i 0 (some j_3)).2 = st from (by simp [ev_sf, ev_yn])]; exact hP) hS dX8_setFrom_177
      · -- null
        subst c_2
        refine lv_aload_n hx hb dX8_setFrom_165 rfl (lv_at hl 0 rfl) ?_
        refine lv_aload_n hx hb dX8_setFrom_166 rfl (lv_at hl 1 rfl) ?_
        refine lv_iload_n hx hb dX8_setFrom_167 rfl (lv_at hl 2 rfl) ?_
        refine lv_iload_n hx hb dX8_setFrom_168 rfl (lv_at hl 3 rfl) ?_
        refine ev_mv (As := [.ref (ad i 0), .int (nI k), .int v]) (rest := []) ⟨hx, hb, hml, hown, hts⟩ (c_X8_receive l hD hn hTG hi hk hKP (k := k) (v := v)) (cwV 3 hts gX8_setFrom_X8_receive rfl rfl rfl (by decide +kernel) ⟨Nat.le_of_ble_eq_true rfl, Nat.le_of_ble_eq_true rfl⟩) hP hK hS (ev_recvT hK hP) rfl hl.1 (Nat.le_of_ble_eq_true rfl) dX8_setFrom_169 ⟨Nat.le_of_ble_eq_true rfl, Nat.le_of_ble_eq_true rfl⟩ (fun H locs hP hz hk hS => ?_)
        refine lv_goto (tgt := 177) hx hb dX8_setFrom_172 (by decide) ?_
        exact em_char hx hb hr hlocks (ev_sf_lt _ _ _ _ _ _) (by simp [ev_sf, ev_yn]) (by rw [show (ev_sf st k v i 0 none).2 = (ev_rc st k v i).2 from (by simp [ev_sf, ev_yn])]; exact hP) hS dX8_setFrom_177
    | succ n ih =>
      intro q o hq ho ls hl
      cases o with
      | none =>
        have hl : lv_has ls 8 [(0, .ref (b 1)), (1, .ref (ad i 0)), (2, .int (nI k)), (3, .int v), (4, .null), (5, .int (nI q))] := hl
        refine lv_iload hx hb dX8_setFrom_6 (lv_at hl 5 rfl) ?_
        refine lv_bipush (v := nI 30) hx hb dX8_setFrom_8 (by decide) ?_
        refine en_icmp_ge (tgt := 160) hx hb (by omega) (by omega) dX8_setFrom_10 (by decide) (fun c_5 => by exfalso; omega) (fun c_5 => ?_)
        refine lv_aloadN hx hb dX8_setFrom_13 (lv_at hl 4 rfl) ?_
        refine lv_ifnullN (tgt := 160) hx hb dX8_setFrom_15 (by decide) ?_
        refine lv_aloadN hx hb dX8_setFrom_160 (lv_at hl 4 rfl) ?_
        refine lv_ifnonnullN hx hb dX8_setFrom_162 ?_
        refine lv_aload_n hx hb dX8_setFrom_165 rfl (lv_at hl 0 rfl) ?_
        refine lv_aload_n hx hb dX8_setFrom_166 rfl (lv_at hl 1 rfl) ?_
        refine lv_iload_n hx hb dX8_setFrom_167 rfl (lv_at hl 2 rfl) ?_
        refine lv_iload_n hx hb dX8_setFrom_168 rfl (lv_at hl 3 rfl) ?_
        refine ev_mv (As := [.ref (ad i 0), .int (nI k), .int v]) (rest := []) ⟨hx, hb, hml, hown, hts⟩ (c_X8_receive l hD hn hTG hi hk hKP (k := k) (v := v)) (cwV 3 hts gX8_setFrom_X8_receive rfl rfl rfl (by decide +kernel) ⟨Nat.le_of_ble_eq_true rfl, Nat.le_of_ble_eq_true rfl⟩) hP hK hS (ev_recvT hK hP) rfl hl.1 (Nat.le_of_ble_eq_true rfl) dX8_setFrom_169 ⟨Nat.le_of_ble_eq_true rfl, Nat.le_of_ble_eq_true rfl⟩ (fun H locs hP hz hk hS => ?_)
        refine lv_goto (tgt := 177) hx hb dX8_setFrom_172 (by decide) ?_
        exact em_char hx hb hr hlocks (ev_sf_lt _ _ _ _ _ _) (by simp [ev_sf, ev_yn]) (by rw [show (ev_sf st k v i (n + 1) none).2 = (ev_rc st k v i).2 from (by simp [ev_sf, ev_yn])]; exact hP) hS dX8_setFrom_177
      | some z =>
        have hz : z < st.1 := ho z rfl
        have hl : lv_has ls 8 [(0, .ref (b 1)), (1, .ref (ad i 0)), (2, .int (nI k)), (3, .int v), (4, .ref (ad z 0)), (5, .int (nI q))] := hl
        refine lv_iload hx hb dX8_setFrom_6 (lv_at hl 5 rfl) ?_
        refine lv_bipush (v := nI 30) hx hb dX8_setFrom_8 (by decide) ?_
        refine en_icmp_ge (tgt := 160) hx hb (by omega) (by omega) dX8_setFrom_10 (by decide) (fun c_6 => by exfalso; omega) (fun c_6 => ?_)
        refine lv_aload hx hb dX8_setFrom_13 (lv_at hl 4 rfl) ?_
        refine lv_ifnull hx hb dX8_setFrom_15 ?_
        refine lv_aload hx hb dX8_setFrom_18 (lv_at hl 4 rfl) ?_
        refine ev_cv (As := []) (rest := []) ⟨hx, hb, hml, hown, hts⟩ (c_X7_isProxy l hz rfl) (cwV 0 hts gX8_setFrom_X7_isProxy rfl rfl rfl (by decide +kernel) ⟨Nat.le_of_ble_eq_true rfl, Nat.le_of_ble_eq_true rfl⟩) hP hK (ev_recv hK hP hz) rfl hl.1 (Nat.le_of_ble_eq_true rfl) dX8_setFrom_20 ⟨Nat.le_of_ble_eq_true rfl, Nat.le_of_ble_eq_true rfl⟩ ?_
        refine eb_if_eq (tgt := 115) hx hb dX8_setFrom_23 (by decide) (fun c_7 => ?_) (fun c_7 => ?_)
        ·
          refine lv_aload hx hb dX8_setFrom_115 (lv_at hl 4 rfl) ?_
          refine lv_iload_n hx hb dX8_setFrom_117 rfl (lv_at hl 2 rfl) ?_
          refine ev_cv (As := [.int (nI k)]) (rest := []) ⟨hx, hb, hml, hown, hts⟩ (c_X7_holds l hz rfl (k := k) (by omega)) (cwV 1 hts gX8_setFrom_X7_holds rfl rfl rfl (by decide +kernel) ⟨Nat.le_of_ble_eq_true rfl, Nat.le_of_ble_eq_true rfl⟩) hP hK (ev_recv hK hP hz) rfl hl.1 (Nat.le_of_ble_eq_true rfl) dX8_setFrom_118 ⟨Nat.le_of_ble_eq_true rfl, Nat.le_of_ble_eq_true rfl⟩ ?_
          refine eb_if_eq (tgt := 147) hx hb dX8_setFrom_121 (by decide) (fun c_8 => ?_) (fun c_8 => ?_)
          ·
            refine lv_aload hx hb dX8_setFrom_147 (lv_at hl 4 rfl) ?_
            refine ev_get (v := ev_rf ad (ev_ch (st.2 z))) hx hb hts hi7 hown hK hP hz rfl 3 (by decide) (hts (.fieldLink RX8 57 "EventloopRow$Thing" "chain" "LEventloopRow$Thing;") (by decide +kernel)) rfl dX8_setFrom_149 ?_
            refine eo_astore (lv' := [(4, ev_rf ad (ev_ch (st.2 z))), (0, .ref (b 1)), (1, .ref (ad i 0)), (2, .int (nI k)), (3, .int v), (5, .int (nI q))]) hx hb dX8_setFrom_152 hl (by decide) rfl (fun ls hl => ?_)
            refine lv_iinc (v := nI (q + 1)) (lv' := [(5, .int (nI (q + 1))), (4, ev_rf ad (ev_ch (st.2 z))), (0, .ref (b 1)), (1, .ref (ad i 0)), (2, .int (nI k)), (3, .int v)]) hx hb dX8_setFrom_154 hl (k := 5) rfl (ev_inc1 _) (by decide) (by simp only [List.filter, ev_cat]; rfl) (fun ls hl => ?_)
            refine lv_goto (tgt := 6) hx hb dX8_setFrom_157 (by decide) ?_
            rw [show ev_sf st k v i (n + 1) (some z) = ev_sf st k v i n (ev_ch (st.2 z)) from (by simp [ev_sf, ev_yn, c_7, c_8])]
            exact ih (q + 1) (ev_ch (st.2 z)) (by omega) (hCH z hz) ls (lv_sub hl [2, 3, 4, 5, 1, 0] rfl)
          ·
            refine lv_aload hx hb dX8_setFrom_124 (lv_at hl 4 rfl) ?_
            refine lv_iconst (v := nI 1) hx hb dX8_setFrom_126 (by decide) ?_
            refine lv_iload_n hx hb dX8_setFrom_127 rfl (lv_at hl 2 rfl) ?_
            refine ev_cv (As := [.int (nI 1), .int (nI k)]) (rest := []) ⟨hx, hb, hml, hown, hts⟩ (c_X7_canBe l hz rfl (r := 1) (k := k) (by omega)) (cwV 2 hts gX8_setFrom_X7_canBe rfl rfl rfl (by decide +kernel) ⟨Nat.le_of_ble_eq_true rfl, Nat.le_of_ble_eq_true rfl⟩) hP hK (ev_recv hK hP hz) rfl hl.1 (Nat.le_of_ble_eq_true rfl) dX8_setFrom_128 ⟨Nat.le_of_ble_eq_true rfl, Nat.le_of_ble_eq_true rfl⟩ ?_
            refine eb_if_eq (tgt := 144) hx hb dX8_setFrom_131 (by decide) (fun c_9 => ?_) (fun c_9 => ?_)
            ·
              refine lv_bipush (v := nI 110) hx hb dX8_setFrom_144 (by decide) ?_
              exact em_char hx hb hr hlocks (ev_sf_lt _ _ _ _ _ _) (by simp [ev_sf, ev_yn, c_7, c_8, c_9]) (by rw [show (ev_sf st k v i (n + 1) (some z)).2 = st from (by simp [ev_sf, ev_yn, c_7, c_8, c_9])]; exact hP) hS dX8_setFrom_146
            ·
              refine lv_aload_n hx hb dX8_setFrom_134 rfl (lv_at hl 0 rfl) ?_
              refine lv_aload_n hx hb dX8_setFrom_135 rfl (lv_at hl 1 rfl) ?_
              refine lv_iload_n hx hb dX8_setFrom_136 rfl (lv_at hl 2 rfl) ?_
              refine lv_iload_n hx hb dX8_setFrom_137 rfl (lv_at hl 3 rfl) ?_
              refine ev_mv (As := [.ref (ad i 0), .int (nI k), .int v]) (rest := []) ⟨hx, hb, hml, hown, hts⟩ (c_X8_receive l hD hn hTG hi hk hKP (k := k) (v := v)) (cwV 3 hts gX8_setFrom_X8_receive rfl rfl rfl (by decide +kernel) ⟨Nat.le_of_ble_eq_true rfl, Nat.le_of_ble_eq_true rfl⟩) hP hK hS (ev_recvT hK hP) rfl hl.1 (Nat.le_of_ble_eq_true rfl) dX8_setFrom_138 ⟨Nat.le_of_ble_eq_true rfl, Nat.le_of_ble_eq_true rfl⟩ (fun H locs hP hz hk hS => ?_)
              refine lv_goto (tgt := 146) hx hb dX8_setFrom_141 (by decide) ?_
              exact em_char hx hb hr hlocks (ev_sf_lt _ _ _ _ _ _) (by simp [ev_sf, ev_yn, c_7, c_8, c_9]) (by rw [show (ev_sf st k v i (n + 1) (some z)).2 = (ev_rc st k v i).2 from (by simp [ev_sf, ev_yn, c_7, c_8, c_9])]; exact hP) hS dX8_setFrom_146
        ·
          refine lv_aload hx hb dX8_setFrom_26 (lv_at hl 4 rfl) ?_
          refine ev_get (v := .int (ev_bi (ev_rv (st.2 z)))) hx hb hts hi7 hown hK hP hz rfl 2 (by decide) (hts (.fieldLink RX8 25 "EventloopRow$Thing" "revoked" "Z") (by decide +kernel)) rfl dX8_setFrom_28 ?_
          refine eb_if_eq (tgt := 37) hx hb dX8_setFrom_31 (by decide) (fun c_10 => ?_) (fun c_10 => ?_)
          ·
            refine lv_aload hx hb dX8_setFrom_37 (lv_at hl 4 rfl) ?_
            refine lv_iconst (v := nI 2) hx hb dX8_setFrom_39 (by decide) ?_
            refine ev_cv (As := [.int (nI 2)]) (rest := []) ⟨hx, hb, hml, hown, hts⟩ (c_X7_isTold l hz rfl (k := 2) (by omega)) (cwV 1 hts gX8_setFrom_X7_isTold rfl rfl rfl (by decide +kernel) ⟨Nat.le_of_ble_eq_true rfl, Nat.le_of_ble_eq_true rfl⟩) hP hK (ev_recv hK hP hz) rfl hl.1 (Nat.le_of_ble_eq_true rfl) dX8_setFrom_40 ⟨Nat.le_of_ble_eq_true rfl, Nat.le_of_ble_eq_true rfl⟩ ?_
            refine eb_if_eq (tgt := 105) hx hb dX8_setFrom_43 (by decide) (fun c_11 => ?_) (fun c_11 => ?_)
            ·
              refine lv_aload hx hb dX8_setFrom_105 (lv_at hl 4 rfl) ?_
              refine ev_get (v := ev_rf ad (ev_tg (st.2 z))) hx hb hts hi7 hown hK hP hz rfl 0 (by decide) (hts (.fieldLink RX8 29 "EventloopRow$Thing" "target" "LEventloopRow$Thing;") (by decide +kernel)) rfl dX8_setFrom_107 ?_
              refine eo_astore (lv' := [(4, ev_rf ad (ev_tg (st.2 z))), (0, .ref (b 1)), (1, .ref (ad i 0)), (2, .int (nI k)), (3, .int v), (5, .int (nI q))]) hx hb dX8_setFrom_110 hl (by decide) rfl (fun ls hl => ?_)
              refine lv_goto (tgt := 154) hx hb dX8_setFrom_112 (by decide) ?_
              refine lv_iinc (v := nI (q + 1)) (lv' := [(5, .int (nI (q + 1))), (4, ev_rf ad (ev_tg (st.2 z))), (0, .ref (b 1)), (1, .ref (ad i 0)), (2, .int (nI k)), (3, .int v)]) hx hb dX8_setFrom_154 hl (k := 5) rfl (ev_inc1 _) (by decide) (by simp only [List.filter, ev_cat]; rfl) (fun ls hl => ?_)
              refine lv_goto (tgt := 6) hx hb dX8_setFrom_157 (by decide) ?_
              rw [show ev_sf st k v i (n + 1) (some z) = ev_sf st k v i n (ev_tg (st.2 z)) from (by simp [ev_sf, ev_yn, c_7, c_10, c_11])]
              exact ih (q + 1) (ev_tg (st.2 z)) (by omega) (hTG z hz) ls (lv_sub hl [2, 3, 4, 5, 1, 0] rfl)
            ·
              refine lv_aload hx hb dX8_setFrom_46 (lv_at hl 4 rfl) ?_
              refine lv_iconst (v := nI 2) hx hb dX8_setFrom_48 (by decide) ?_
              refine ev_cv (As := [.int (nI 2)]) (rest := []) ⟨hx, hb, hml, hown, hts⟩ (c_X7_answerTo l hz rfl (k := 2) (by omega)) (cwV 1 hts gX8_setFrom_X7_answerTo rfl rfl rfl (by decide +kernel) ⟨Nat.le_of_ble_eq_true rfl, Nat.le_of_ble_eq_true rfl⟩) hP hK (ev_recv hK hP hz) rfl hl.1 (Nat.le_of_ble_eq_true rfl) dX8_setFrom_49 ⟨Nat.le_of_ble_eq_true rfl, Nat.le_of_ble_eq_true rfl⟩ ?_
              refine lv_iconst (v := nI 1) hx hb dX8_setFrom_52 (by decide) ?_
              refine lv_icmp_ne (tgt := 60) hx hb dX8_setFrom_53 (by decide) (fun c_12 => ?_) (fun c_12 => ?_)
              ·
                refine lv_iconst (v := nI 0) hx hb dX8_setFrom_60 (by decide) ?_
                refine lv_istore (lv' := [(6, .int (nI 0)), (0, .ref (b 1)), (1, .ref (ad i 0)), (2, .int (nI k)), (3, .int v), (4, .ref (ad z 0)), (5, .int (nI q))]) hx hb dX8_setFrom_61 hl (by decide) rfl (fun ls hl => ?_)
                refine lv_aload_n hx hb dX8_setFrom_63 rfl (lv_at hl 1 rfl) ?_
                refine lv_aload hx hb dX8_setFrom_64 (lv_at hl 5 rfl) ?_
                refine ev_get (v := ev_rf ad (ev_tg (st.2 z))) hx hb hts hi7 hown hK hP hz rfl 0 (by decide) (hts (.fieldLink RX8 29 "EventloopRow$Thing" "target" "LEventloopRow$Thing;") (by decide +kernel)) rfl dX8_setFrom_66 ?_
                obtain ⟨j_13, e_14⟩ := Option.isSome_iff_exists.mp c_7
                rw [e_14]
                have hi_15 : j_13 < st.1 := (hTG z hz) _ e_14
                refine ev_cv (As := [.ref (ad j_13 0)]) (rest := []) ⟨hx, hb, hml, hown, hts⟩ (c_X8_plainBehind l hn hTG hi_15) (cwV 1 hts gX8_setFrom_X8_plainBehind rfl rfl rfl (by decide +kernel) ⟨Nat.le_of_ble_eq_true rfl, Nat.le_of_ble_eq_true rfl⟩) hP hK (ev_recvT hK hP) rfl hl.1 (Nat.le_of_ble_eq_true rfl) dX8_setFrom_69 ⟨Nat.le_of_ble_eq_true rfl, Nat.le_of_ble_eq_true rfl⟩ ?_
                refine eo_astore (lv' := [(7, ev_rf ad (ev_pb st 12 (some j_13))), (6, .int (nI 0)), (0, .ref (b 1)), (1, .ref (ad i 0)), (2, .int (nI k)), (3, .int v), (4, .ref (ad z 0)), (5, .int (nI q))]) hx hb dX8_setFrom_72 hl (by decide) rfl (fun ls hl => ?_)
                refine eo_aload hx hb dX8_setFrom_74 (lv_at hl 0 rfl) ?_
                refine eo_ifnull (tgt := 94) hx hb dX8_setFrom_76 (by decide) (fun c_16 => ?_) (fun j_17 c_16 => ?_)
                · -- null
                  rw [c_16] at hl
                  have hl : lv_has ls 8 [(7, .null), (6, .int (nI 0)), (0, .ref (b 1)), (1, .ref (ad i 0)), (2, .int (nI k)), (3, .int v), (4, .ref (ad z 0)), (5, .int (nI q))] := hl
                  refine lv_bipush (v := nI 84) hx hb dX8_setFrom_94 (by decide) ?_
                  refine lv_goto (tgt := 104) hx hb dX8_setFrom_96 (by decide) ?_
                  exact em_char hx hb hr hlocks (ev_sf_lt _ _ _ _ _ _) (by simp [ev_sf, ev_yn, c_7, c_10, c_11, c_12, e_14, c_16]) (by rw [show (ev_sf st k v i (n + 1) (some z)).2 = st from (by simp [ev_sf, ev_yn, c_7, c_10, c_11, c_12, e_14, c_16])]; exact hP) hS dX8_setFrom_104
                · -- some
                  rw [c_16] at hl
                  have hi_18 : j_17 < st.1 := (ev_pb_lt hTG 12 (some j_13) (fun _ h => by cases h; exact hi_15)) _ c_16
                  have hl : lv_has ls 8 [(7, .ref (ad j_17 0)), (6, .int (nI 0)), (0, .ref (b 1)), (1, .ref (ad i 0)), (2, .int (nI k)), (3, .int v), (4, .ref (ad z 0)), (5, .int (nI q))] := hl
                  refine lv_iload hx hb dX8_setFrom_79 (lv_at hl 1 rfl) ?_
                  refine en_if_eq (tgt := 99) hx hb (by omega) dX8_setFrom_81 (by decide) (fun c_19 => ?_) (fun c_19 => by exfalso; omega)
                  refine lv_iload hx hb dX8_setFrom_99 (lv_at hl 1 rfl) ?_
                  refine ev_cst (As := [.int (nI 0)]) (rest := []) ⟨hx, hb, hml, hown, hts⟩ (c_X8_yesOrNo l (b := b) (ad := ad) (x := 0) (by omega)) (va_cwS 1 hts gX8_setFrom_X8_yesOrNo rfl rfl rfl (by decide +kernel) ⟨Nat.le_of_ble_eq_true rfl, Nat.le_of_ble_eq_true rfl⟩) hP hK rfl hl.1 (Nat.le_of_ble_eq_true rfl) dX8_setFrom_101 ⟨Nat.le_of_ble_eq_true rfl, Nat.le_of_ble_eq_true rfl⟩ ?_
                  exact em_char hx hb hr hlocks (ev_sf_lt _ _ _ _ _ _) (by simp [ev_sf, ev_yn, c_7, c_10, c_11, c_12, e_14, c_16]) (by rw [show (ev_sf st k v i (n + 1) (some z)).2 = st from (by simp [ev_sf, ev_yn, c_7, c_10, c_11, c_12, e_14, c_16])]; exact hP) hS dX8_setFrom_104
              ·
                refine lv_iconst (v := nI 1) hx hb dX8_setFrom_56 (by decide) ?_
                refine lv_goto (tgt := 61) hx hb dX8_setFrom_57 (by decide) ?_
                refine lv_istore (lv' := [(6, .int (nI 1)), (0, .ref (b 1)), (1, .ref (ad i 0)), (2, .int (nI k)), (3, .int v), (4, .ref (ad z 0)), (5, .int (nI q))]) hx hb dX8_setFrom_61 hl (by decide) rfl (fun ls hl => ?_)
                refine lv_aload_n hx hb dX8_setFrom_63 rfl (lv_at hl 1 rfl) ?_
                refine lv_aload hx hb dX8_setFrom_64 (lv_at hl 5 rfl) ?_
                refine ev_get (v := ev_rf ad (ev_tg (st.2 z))) hx hb hts hi7 hown hK hP hz rfl 0 (by decide) (hts (.fieldLink RX8 29 "EventloopRow$Thing" "target" "LEventloopRow$Thing;") (by decide +kernel)) rfl dX8_setFrom_66 ?_
                obtain ⟨j_20, e_21⟩ := Option.isSome_iff_exists.mp c_7
                rw [e_21]
                have hi_22 : j_20 < st.1 := (hTG z hz) _ e_21
                refine ev_cv (As := [.ref (ad j_20 0)]) (rest := []) ⟨hx, hb, hml, hown, hts⟩ (c_X8_plainBehind l hn hTG hi_22) (cwV 1 hts gX8_setFrom_X8_plainBehind rfl rfl rfl (by decide +kernel) ⟨Nat.le_of_ble_eq_true rfl, Nat.le_of_ble_eq_true rfl⟩) hP hK (ev_recvT hK hP) rfl hl.1 (Nat.le_of_ble_eq_true rfl) dX8_setFrom_69 ⟨Nat.le_of_ble_eq_true rfl, Nat.le_of_ble_eq_true rfl⟩ ?_
                refine eo_astore (lv' := [(7, ev_rf ad (ev_pb st 12 (some j_20))), (6, .int (nI 1)), (0, .ref (b 1)), (1, .ref (ad i 0)), (2, .int (nI k)), (3, .int v), (4, .ref (ad z 0)), (5, .int (nI q))]) hx hb dX8_setFrom_72 hl (by decide) rfl (fun ls hl => ?_)
                refine eo_aload hx hb dX8_setFrom_74 (lv_at hl 0 rfl) ?_
                refine eo_ifnull (tgt := 94) hx hb dX8_setFrom_76 (by decide) (fun c_23 => ?_) (fun j_24 c_23 => ?_)
                · -- null
                  rw [c_23] at hl
                  have hl : lv_has ls 8 [(7, .null), (6, .int (nI 1)), (0, .ref (b 1)), (1, .ref (ad i 0)), (2, .int (nI k)), (3, .int v), (4, .ref (ad z 0)), (5, .int (nI q))] := hl
                  refine lv_bipush (v := nI 84) hx hb dX8_setFrom_94 (by decide) ?_
                  refine lv_goto (tgt := 104) hx hb dX8_setFrom_96 (by decide) ?_
                  exact em_char hx hb hr hlocks (ev_sf_lt _ _ _ _ _ _) (by simp [ev_sf, ev_yn, c_7, c_10, c_11, c_12, e_21, c_23]) (by rw [show (ev_sf st k v i (n + 1) (some z)).2 = st from (by simp [ev_sf, ev_yn, c_7, c_10, c_11, c_12, e_21, c_23])]; exact hP) hS dX8_setFrom_104
                · -- some
                  rw [c_23] at hl
                  have hi_25 : j_24 < st.1 := (ev_pb_lt hTG 12 (some j_20) (fun _ h => by cases h; exact hi_22)) _ c_23
                  have hl : lv_has ls 8 [(7, .ref (ad j_24 0)), (6, .int (nI 1)), (0, .ref (b 1)), (1, .ref (ad i 0)), (2, .int (nI k)), (3, .int v), (4, .ref (ad z 0)), (5, .int (nI q))] := hl
                  refine lv_iload hx hb dX8_setFrom_79 (lv_at hl 1 rfl) ?_
                  refine en_if_eq (tgt := 99) hx hb (by omega) dX8_setFrom_81 (by decide) (fun c_26 => by exfalso; omega) (fun c_26 => ?_)
                  refine lv_aload hx hb dX8_setFrom_84 (lv_at hl 0 rfl) ?_
                  refine lv_iload_n hx hb dX8_setFrom_86 rfl (lv_at hl 4 rfl) ?_
                  refine lv_iload_n hx hb dX8_setFrom_87 rfl (lv_at hl 5 rfl) ?_
                  refine ev_cv (As := [.int (nI k), .int v]) (rest := []) ⟨hx, hb, hml, hown, hts⟩ (c_X7_keepsOther l hi_25 rfl (k := k) (v := v) (by omega)) (cwV 2 hts gX8_setFrom_X7_keepsOther rfl rfl rfl (by decide +kernel) ⟨Nat.le_of_ble_eq_true rfl, Nat.le_of_ble_eq_true rfl⟩) hP hK (ev_recv hK hP hi_25) rfl hl.1 (Nat.le_of_ble_eq_true rfl) dX8_setFrom_88 ⟨Nat.le_of_ble_eq_true rfl, Nat.le_of_ble_eq_true rfl⟩ ?_
                  refine eb_if_eq (tgt := 99) hx hb dX8_setFrom_91 (by decide) (fun c_27 => ?_) (fun c_27 => ?_)
                  ·
                    refine lv_iload hx hb dX8_setFrom_99 (lv_at hl 1 rfl) ?_
                    refine ev_cst (As := [.int (nI 1)]) (rest := []) ⟨hx, hb, hml, hown, hts⟩ (c_X8_yesOrNo l (b := b) (ad := ad) (x := 1) (by omega)) (va_cwS 1 hts gX8_setFrom_X8_yesOrNo rfl rfl rfl (by decide +kernel) ⟨Nat.le_of_ble_eq_true rfl, Nat.le_of_ble_eq_true rfl⟩) hP hK rfl hl.1 (Nat.le_of_ble_eq_true rfl) dX8_setFrom_101 ⟨Nat.le_of_ble_eq_true rfl, Nat.le_of_ble_eq_true rfl⟩ ?_
                    exact em_char hx hb hr hlocks (ev_sf_lt _ _ _ _ _ _) (by simp [ev_sf, ev_yn, c_7, c_10, c_11, c_12, e_21, c_23, c_27]) (by rw [show (ev_sf st k v i (n + 1) (some z)).2 = st from (by simp [ev_sf, ev_yn, c_7, c_10, c_11, c_12, e_21, c_23, c_27])]; exact hP) hS dX8_setFrom_104
                  ·
                    refine lv_bipush (v := nI 84) hx hb dX8_setFrom_94 (by decide) ?_
                    refine lv_goto (tgt := 104) hx hb dX8_setFrom_96 (by decide) ?_
                    exact em_char hx hb hr hlocks (ev_sf_lt _ _ _ _ _ _) (by simp [ev_sf, ev_yn, c_7, c_10, c_11, c_12, e_21, c_23, c_27]) (by rw [show (ev_sf st k v i (n + 1) (some z)).2 = st from (by simp [ev_sf, ev_yn, c_7, c_10, c_11, c_12, e_21, c_23, c_27])]; exact hP) hS dX8_setFrom_104
          ·
            refine lv_bipush (v := nI 84) hx hb dX8_setFrom_34 (by decide) ?_
            exact em_char hx hb hr hlocks (ev_sf_lt _ _ _ _ _ _) (by simp [ev_sf, ev_yn, c_7, c_10]) (by rw [show (ev_sf st k v i (n + 1) (some z)).2 = st from (by simp [ev_sf, ev_yn, c_7, c_10])]; exact hP) hS dX8_setFrom_36
  refine lv_aload_n hx hb dX8_setFrom_0 rfl (lv_at hl 1 rfl) ?_
  refine lv_astore (lv' := [(4, .ref (ad i 0)), (0, .ref (b 1)), (1, .ref (ad i 0)), (2, .int (nI k)), (3, .int v)]) hx hb dX8_setFrom_1 hl (by decide) rfl (fun ls hl => ?_)
  refine lv_iconst (v := nI 0) hx hb dX8_setFrom_3 (by decide) ?_
  refine lv_istore (lv' := [(5, .int (nI 0)), (4, .ref (ad i 0)), (0, .ref (b 1)), (1, .ref (ad i 0)), (2, .int (nI k)), (3, .int v)]) hx hb dX8_setFrom_4 hl (by decide) rfl (fun ls hl => ?_)
  exact LP 30 0 (some i) rfl (fun _ h => by cases h; exact hi) ls (lv_sub hl [2, 3, 4, 5, 1, 0] rfl)
set_option maxHeartbeats 4000000 in
set_option maxRecDepth 100000 in
theorem c_X8_deleteFrom (l : Launch) {D : va_G} {cI cO : ClassId} {b : Nat → Nat} {ad : Nat → Nat → Nat} {st : ev_ST} {A : Nat → Prop} (hD : va_D A (ev_wl cI cO b ad st)) (hn : st.1 ≤ 12) (hTG : ∀ i, i < st.1 → ∀ j, ev_tg (st.2 i) = some j → j < st.1) {i k : Nat} (hi : i < st.1) (hk : k < 20) (hKC : ∀ j, j < st.1 → ev_kc (st.2 j) ≤ 20) : Met l yX8_deleteFrom wsX8_deleteFrom ({ frames := 2, cells := 0, slots := 0, locals := 45 }) (ev_Pc D cI cO (ev_P D cI cO b ad st) [.ref (b 1), .ref (ad i 0), .int (nI k)]) (ev_QM (some (.int (nI ((ev_df st k 12 (some i)).1)))) (ev_P D cI cO b ad (ev_df st k 12 (some i)).2) A) 0 0 A := by
  refine ev_body (cc := cX8_deleteFrom) (maxL := 7) (ret := (some .char)) (by decide) rfl (Nat.le_of_ble_eq_true rfl) ?_
  intro p e s m args below meth c hx hb hr hml hown hts hlocks hnm hP hK ls hl
  have hS : va_S A s.heap s.heap [] := va_S.rf
  have hl : lv_has ls 7 [(0, .ref (b 1)), (1, .ref (ad i 0)), (2, .int (nI k))] := hl
  have hi7 : ∀ w ∈ wsX70, w ∈ wsX8_deleteFrom := by decide +kernel
  have LP : ∀ (n q : Nat) (o : Option Nat), q + n = 12 → (∀ j, o = some j → j < st.1) → ∀ ls : Array Slot, lv_has ls 7 [(0, .ref (b 1)), (1, .ref (ad i 0)), (2, .int (nI k)), (3, ev_rf ad o), (4, .int (nI q))] → W p l e ({ frames := 2, cells := 0, slots := 0, locals := 45 }) s m args below meth c s.heap [] 0 0 (MQ below (ev_QM (some (.int (nI (ev_df st k n o).1))) (ev_P D cI cO b ad (ev_df st k n o).2) A) args s 0 0 A) (F0 m 5 ls []) := by
    intro n
    induction n with
    | zero =>
      intro q o hq ho ls hl
      refine lv_iload hx hb dX8_deleteFrom_5 (lv_at hl 4 rfl) ?_
      refine lv_bipush (v := nI 12) hx hb dX8_deleteFrom_7 (by decide) ?_
      refine en_icmp_ge (tgt := 114) hx hb (by omega) (by omega) dX8_deleteFrom_9 (by decide) (fun c_1 => ?_) (fun c_1 => by exfalso; omega)
      refine lv_bipush (v := nI 84) hx hb dX8_deleteFrom_114 (by decide) ?_
      exact em_char hx hb hr hlocks (ev_df_lt _ _ _ _) (by simp [ev_df, ev_yn]) (by rw [show (ev_df st k 0 o).2 = st from (by simp [ev_df, ev_yn])]; exact hP) hS dX8_deleteFrom_116
    | succ n ih =>
      intro q o hq ho ls hl
      cases o with
      | none =>
        have hl : lv_has ls 7 [(0, .ref (b 1)), (1, .ref (ad i 0)), (2, .int (nI k)), (3, .null), (4, .int (nI q))] := hl
        refine lv_iload hx hb dX8_deleteFrom_5 (lv_at hl 4 rfl) ?_
        refine lv_bipush (v := nI 12) hx hb dX8_deleteFrom_7 (by decide) ?_
        refine en_icmp_ge (tgt := 114) hx hb (by omega) (by omega) dX8_deleteFrom_9 (by decide) (fun c_2 => by exfalso; omega) (fun c_2 => ?_)
        refine lv_aload_nN hx hb dX8_deleteFrom_12 rfl (lv_at hl 3 rfl) ?_
        refine lv_ifnullN (tgt := 114) hx hb dX8_deleteFrom_13 (by decide) ?_
        refine lv_bipush (v := nI 84) hx hb dX8_deleteFrom_114 (by decide) ?_
        exact em_char hx hb hr hlocks (ev_df_lt _ _ _ _) (by simp [ev_df, ev_yn]) (by rw [show (ev_df st k (n + 1) none).2 = st from (by simp [ev_df, ev_yn])]; exact hP) hS dX8_deleteFrom_116
      | some z =>
        have hz : z < st.1 := ho z rfl
        have hl : lv_has ls 7 [(0, .ref (b 1)), (1, .ref (ad i 0)), (2, .int (nI k)), (3, .ref (ad z 0)), (4, .int (nI q))] := hl
        refine lv_iload hx hb dX8_deleteFrom_5 (lv_at hl 4 rfl) ?_
        refine lv_bipush (v := nI 12) hx hb dX8_deleteFrom_7 (by decide) ?_
        refine en_icmp_ge (tgt := 114) hx hb (by omega) (by omega) dX8_deleteFrom_9 (by decide) (fun c_3 => by exfalso; omega) (fun c_3 => ?_)
        refine lv_aload_n hx hb dX8_deleteFrom_12 rfl (lv_at hl 3 rfl) ?_
        refine lv_ifnull hx hb dX8_deleteFrom_13 ?_
        refine lv_aload_n hx hb dX8_deleteFrom_16 rfl (lv_at hl 3 rfl) ?_
        refine ev_cv (As := []) (rest := []) ⟨hx, hb, hml, hown, hts⟩ (c_X7_isProxy l hz rfl) (cwV 0 hts gX8_deleteFrom_X7_isProxy rfl rfl rfl (by decide +kernel) ⟨Nat.le_of_ble_eq_true rfl, Nat.le_of_ble_eq_true rfl⟩) hP hK (ev_recv hK hP hz) rfl hl.1 (Nat.le_of_ble_eq_true rfl) dX8_deleteFrom_17 ⟨Nat.le_of_ble_eq_true rfl, Nat.le_of_ble_eq_true rfl⟩ ?_
        refine eb_if_ne (tgt := 29) hx hb dX8_deleteFrom_20 (by decide) (fun c_4 => ?_) (fun c_4 => ?_)
        ·
          refine lv_aload_n hx hb dX8_deleteFrom_29 rfl (lv_at hl 3 rfl) ?_
          refine ev_get (v := .int (ev_bi (ev_rv (st.2 z)))) hx hb hts hi7 hown hK hP hz rfl 2 (by decide) (hts (.fieldLink RX8 25 "EventloopRow$Thing" "revoked" "Z") (by decide +kernel)) rfl dX8_deleteFrom_30 ?_
          refine eb_if_eq (tgt := 39) hx hb dX8_deleteFrom_33 (by decide) (fun c_5 => ?_) (fun c_5 => ?_)
          ·
            refine lv_aload_n hx hb dX8_deleteFrom_39 rfl (lv_at hl 3 rfl) ?_
            refine lv_iconst (v := nI 3) hx hb dX8_deleteFrom_40 (by decide) ?_
            refine ev_cv (As := [.int (nI 3)]) (rest := []) ⟨hx, hb, hml, hown, hts⟩ (c_X7_isTold l hz rfl (k := 3) (by omega)) (cwV 1 hts gX8_deleteFrom_X7_isTold rfl rfl rfl (by decide +kernel) ⟨Nat.le_of_ble_eq_true rfl, Nat.le_of_ble_eq_true rfl⟩) hP hK (ev_recv hK hP hz) rfl hl.1 (Nat.le_of_ble_eq_true rfl) dX8_deleteFrom_41 ⟨Nat.le_of_ble_eq_true rfl, Nat.le_of_ble_eq_true rfl⟩ ?_
            refine eb_if_eq (tgt := 103) hx hb dX8_deleteFrom_44 (by decide) (fun c_6 => ?_) (fun c_6 => ?_)
            ·
              refine lv_aload_n hx hb dX8_deleteFrom_103 rfl (lv_at hl 3 rfl) ?_
              refine ev_get (v := ev_rf ad (ev_tg (st.2 z))) hx hb hts hi7 hown hK hP hz rfl 0 (by decide) (hts (.fieldLink RX8 29 "EventloopRow$Thing" "target" "LEventloopRow$Thing;") (by decide +kernel)) rfl dX8_deleteFrom_104 ?_
              refine eo_astore_n (lv' := [(3, ev_rf ad (ev_tg (st.2 z))), (0, .ref (b 1)), (1, .ref (ad i 0)), (2, .int (nI k)), (4, .int (nI q))]) hx hb dX8_deleteFrom_107 rfl hl (by decide) rfl (fun ls hl => ?_)
              refine lv_iinc (v := nI (q + 1)) (lv' := [(4, .int (nI (q + 1))), (3, ev_rf ad (ev_tg (st.2 z))), (0, .ref (b 1)), (1, .ref (ad i 0)), (2, .int (nI k))]) hx hb dX8_deleteFrom_108 hl (k := 4) rfl (ev_inc1 _) (by decide) (by simp only [List.filter, ev_cat]; rfl) (fun ls hl => ?_)
              refine lv_goto (tgt := 5) hx hb dX8_deleteFrom_111 (by decide) ?_
              rw [show ev_df st k (n + 1) (some z) = ev_df st k n (ev_tg (st.2 z)) from (by simp [ev_df, ev_yn, c_4, c_5, c_6])]
              exact ih (q + 1) (ev_tg (st.2 z)) (by omega) (hTG z hz) ls (lv_sub hl [2, 3, 4, 1, 0] rfl)
            ·
              refine lv_aload_n hx hb dX8_deleteFrom_47 rfl (lv_at hl 3 rfl) ?_
              refine lv_iconst (v := nI 3) hx hb dX8_deleteFrom_48 (by decide) ?_
              refine ev_cv (As := [.int (nI 3)]) (rest := []) ⟨hx, hb, hml, hown, hts⟩ (c_X7_answerTo l hz rfl (k := 3) (by omega)) (cwV 1 hts gX8_deleteFrom_X7_answerTo rfl rfl rfl (by decide +kernel) ⟨Nat.le_of_ble_eq_true rfl, Nat.le_of_ble_eq_true rfl⟩) hP hK (ev_recv hK hP hz) rfl hl.1 (Nat.le_of_ble_eq_true rfl) dX8_deleteFrom_49 ⟨Nat.le_of_ble_eq_true rfl, Nat.le_of_ble_eq_true rfl⟩ ?_
              refine lv_iconst (v := nI 1) hx hb dX8_deleteFrom_52 (by decide) ?_
              refine lv_icmp_ne (tgt := 60) hx hb dX8_deleteFrom_53 (by decide) (fun c_7 => ?_) (fun c_7 => ?_)
              ·
                refine lv_iconst (v := nI 0) hx hb dX8_deleteFrom_60 (by decide) ?_
                refine lv_istore (lv' := [(5, .int (nI 0)), (0, .ref (b 1)), (1, .ref (ad i 0)), (2, .int (nI k)), (3, .ref (ad z 0)), (4, .int (nI q))]) hx hb dX8_deleteFrom_61 hl (by decide) rfl (fun ls hl => ?_)
                refine lv_aload_n hx hb dX8_deleteFrom_63 rfl (lv_at hl 1 rfl) ?_
                refine lv_aload_n hx hb dX8_deleteFrom_64 rfl (lv_at hl 4 rfl) ?_
                refine ev_get (v := ev_rf ad (ev_tg (st.2 z))) hx hb hts hi7 hown hK hP hz rfl 0 (by decide) (hts (.fieldLink RX8 29 "EventloopRow$Thing" "target" "LEventloopRow$Thing;") (by decide +kernel)) rfl dX8_deleteFrom_65 ?_
                obtain ⟨j_8, e_9⟩ := Option.isSome_iff_exists.mp c_4
                rw [e_9]
                have hi_10 : j_8 < st.1 := (hTG z hz) _ e_9
                refine ev_cv (As := [.ref (ad j_8 0)]) (rest := []) ⟨hx, hb, hml, hown, hts⟩ (c_X8_plainBehind l hn hTG hi_10) (cwV 1 hts gX8_deleteFrom_X8_plainBehind rfl rfl rfl (by decide +kernel) ⟨Nat.le_of_ble_eq_true rfl, Nat.le_of_ble_eq_true rfl⟩) hP hK (ev_recvT hK hP) rfl hl.1 (Nat.le_of_ble_eq_true rfl) dX8_deleteFrom_68 ⟨Nat.le_of_ble_eq_true rfl, Nat.le_of_ble_eq_true rfl⟩ ?_
                refine eo_astore (lv' := [(6, ev_rf ad (ev_pb st 12 (some j_8))), (5, .int (nI 0)), (0, .ref (b 1)), (1, .ref (ad i 0)), (2, .int (nI k)), (3, .ref (ad z 0)), (4, .int (nI q))]) hx hb dX8_deleteFrom_71 hl (by decide) rfl (fun ls hl => ?_)
                refine eo_aload hx hb dX8_deleteFrom_73 (lv_at hl 0 rfl) ?_
                refine eo_ifnull (tgt := 92) hx hb dX8_deleteFrom_75 (by decide) (fun c_11 => ?_) (fun j_12 c_11 => ?_)
                · -- null
                  rw [c_11] at hl
                  have hl : lv_has ls 7 [(6, .null), (5, .int (nI 0)), (0, .ref (b 1)), (1, .ref (ad i 0)), (2, .int (nI k)), (3, .ref (ad z 0)), (4, .int (nI q))] := hl
                  refine lv_bipush (v := nI 84) hx hb dX8_deleteFrom_92 (by decide) ?_
                  refine lv_goto (tgt := 102) hx hb dX8_deleteFrom_94 (by decide) ?_
                  exact em_char hx hb hr hlocks (ev_df_lt _ _ _ _) (by simp [ev_df, ev_yn, c_4, c_5, c_6, c_7, e_9, c_11]) (by rw [show (ev_df st k (n + 1) (some z)).2 = st from (by simp [ev_df, ev_yn, c_4, c_5, c_6, c_7, e_9, c_11])]; exact hP) hS dX8_deleteFrom_102
                · -- some
                  rw [c_11] at hl
                  have hi_13 : j_12 < st.1 := (ev_pb_lt hTG 12 (some j_8) (fun _ h => by cases h; exact hi_10)) _ c_11
                  have hl : lv_has ls 7 [(6, .ref (ad j_12 0)), (5, .int (nI 0)), (0, .ref (b 1)), (1, .ref (ad i 0)), (2, .int (nI k)), (3, .ref (ad z 0)), (4, .int (nI q))] := hl
                  refine lv_iload hx hb dX8_deleteFrom_78 (lv_at hl 1 rfl) ?_
                  refine en_if_eq (tgt := 97) hx hb (by omega) dX8_deleteFrom_80 (by decide) (fun c_14 => ?_) (fun c_14 => by exfalso; omega)
                  refine lv_iload hx hb dX8_deleteFrom_97 (lv_at hl 1 rfl) ?_
                  refine ev_cst (As := [.int (nI 0)]) (rest := []) ⟨hx, hb, hml, hown, hts⟩ (c_X8_yesOrNo l (b := b) (ad := ad) (x := 0) (by omega)) (va_cwS 1 hts gX8_deleteFrom_X8_yesOrNo rfl rfl rfl (by decide +kernel) ⟨Nat.le_of_ble_eq_true rfl, Nat.le_of_ble_eq_true rfl⟩) hP hK rfl hl.1 (Nat.le_of_ble_eq_true rfl) dX8_deleteFrom_99 ⟨Nat.le_of_ble_eq_true rfl, Nat.le_of_ble_eq_true rfl⟩ ?_
                  exact em_char hx hb hr hlocks (ev_df_lt _ _ _ _) (by simp [ev_df, ev_yn, c_4, c_5, c_6, c_7, e_9, c_11]) (by rw [show (ev_df st k (n + 1) (some z)).2 = st from (by simp [ev_df, ev_yn, c_4, c_5, c_6, c_7, e_9, c_11])]; exact hP) hS dX8_deleteFrom_102
              ·
                refine lv_iconst (v := nI 1) hx hb dX8_deleteFrom_56 (by decide) ?_
                refine lv_goto (tgt := 61) hx hb dX8_deleteFrom_57 (by decide) ?_
                refine lv_istore (lv' := [(5, .int (nI 1)), (0, .ref (b 1)), (1, .ref (ad i 0)), (2, .int (nI k)), (3, .ref (ad z 0)), (4, .int (nI q))]) hx hb dX8_deleteFrom_61 hl (by decide) rfl (fun ls hl => ?_)
                refine lv_aload_n hx hb dX8_deleteFrom_63 rfl (lv_at hl 1 rfl) ?_
                refine lv_aload_n hx hb dX8_deleteFrom_64 rfl (lv_at hl 4 rfl) ?_
                refine ev_get (v := ev_rf ad (ev_tg (st.2 z))) hx hb hts hi7 hown hK hP hz rfl 0 (by decide) (hts (.fieldLink RX8 29 "EventloopRow$Thing" "target" "LEventloopRow$Thing;") (by decide +kernel)) rfl dX8_deleteFrom_65 ?_
                obtain ⟨j_15, e_16⟩ := Option.isSome_iff_exists.mp c_4
                rw [e_16]
                have hi_17 : j_15 < st.1 := (hTG z hz) _ e_16
                refine ev_cv (As := [.ref (ad j_15 0)]) (rest := []) ⟨hx, hb, hml, hown, hts⟩ (c_X8_plainBehind l hn hTG hi_17) (cwV 1 hts gX8_deleteFrom_X8_plainBehind rfl rfl rfl (by decide +kernel) ⟨Nat.le_of_ble_eq_true rfl, Nat.le_of_ble_eq_true rfl⟩) hP hK (ev_recvT hK hP) rfl hl.1 (Nat.le_of_ble_eq_true rfl) dX8_deleteFrom_68 ⟨Nat.le_of_ble_eq_true rfl, Nat.le_of_ble_eq_true rfl⟩ ?_
                refine eo_astore (lv' := [(6, ev_rf ad (ev_pb st 12 (some j_15))), (5, .int (nI 1)), (0, .ref (b 1)), (1, .ref (ad i 0)), (2, .int (nI k)), (3, .ref (ad z 0)), (4, .int (nI q))]) hx hb dX8_deleteFrom_71 hl (by decide) rfl (fun ls hl => ?_)
                refine eo_aload hx hb dX8_deleteFrom_73 (lv_at hl 0 rfl) ?_
                refine eo_ifnull (tgt := 92) hx hb dX8_deleteFrom_75 (by decide) (fun c_18 => ?_) (fun j_19 c_18 => ?_)
                · -- null
                  rw [c_18] at hl
                  have hl : lv_has ls 7 [(6, .null), (5, .int (nI 1)), (0, .ref (b 1)), (1, .ref (ad i 0)), (2, .int (nI k)), (3, .ref (ad z 0)), (4, .int (nI q))] := hl
                  refine lv_bipush (v := nI 84) hx hb dX8_deleteFrom_92 (by decide) ?_
                  refine lv_goto (tgt := 102) hx hb dX8_deleteFrom_94 (by decide) ?_
                  exact em_char hx hb hr hlocks (ev_df_lt _ _ _ _) (by simp [ev_df, ev_yn, c_4, c_5, c_6, c_7, e_16, c_18]) (by rw [show (ev_df st k (n + 1) (some z)).2 = st from (by simp [ev_df, ev_yn, c_4, c_5, c_6, c_7, e_16, c_18])]; exact hP) hS dX8_deleteFrom_102
                · -- some
                  rw [c_18] at hl
                  have hi_20 : j_19 < st.1 := (ev_pb_lt hTG 12 (some j_15) (fun _ h => by cases h; exact hi_17)) _ c_18
                  have hl : lv_has ls 7 [(6, .ref (ad j_19 0)), (5, .int (nI 1)), (0, .ref (b 1)), (1, .ref (ad i 0)), (2, .int (nI k)), (3, .ref (ad z 0)), (4, .int (nI q))] := hl
                  refine lv_iload hx hb dX8_deleteFrom_78 (lv_at hl 1 rfl) ?_
                  refine en_if_eq (tgt := 97) hx hb (by omega) dX8_deleteFrom_80 (by decide) (fun c_21 => by exfalso; omega) (fun c_21 => ?_)
                  refine lv_aload hx hb dX8_deleteFrom_83 (lv_at hl 0 rfl) ?_
                  refine lv_iload_n hx hb dX8_deleteFrom_85 rfl (lv_at hl 4 rfl) ?_
                  refine ev_cv (As := [.int (nI k)]) (rest := []) ⟨hx, hb, hml, hown, hts⟩ (c_X7_keepsKey l hi_20 rfl (k := k) (by omega)) (cwV 1 hts gX8_deleteFrom_X7_keepsKey rfl rfl rfl (by decide +kernel) ⟨Nat.le_of_ble_eq_true rfl, Nat.le_of_ble_eq_true rfl⟩) hP hK (ev_recv hK hP hi_20) rfl hl.1 (Nat.le_of_ble_eq_true rfl) dX8_deleteFrom_86 ⟨Nat.le_of_ble_eq_true rfl, Nat.le_of_ble_eq_true rfl⟩ ?_
                  refine eb_if_eq (tgt := 97) hx hb dX8_deleteFrom_89 (by decide) (fun c_22 => ?_) (fun c_22 => ?_)
                  ·
                    refine lv_iload hx hb dX8_deleteFrom_97 (lv_at hl 1 rfl) ?_
                    refine ev_cst (As := [.int (nI 1)]) (rest := []) ⟨hx, hb, hml, hown, hts⟩ (c_X8_yesOrNo l (b := b) (ad := ad) (x := 1) (by omega)) (va_cwS 1 hts gX8_deleteFrom_X8_yesOrNo rfl rfl rfl (by decide +kernel) ⟨Nat.le_of_ble_eq_true rfl, Nat.le_of_ble_eq_true rfl⟩) hP hK rfl hl.1 (Nat.le_of_ble_eq_true rfl) dX8_deleteFrom_99 ⟨Nat.le_of_ble_eq_true rfl, Nat.le_of_ble_eq_true rfl⟩ ?_
                    exact em_char hx hb hr hlocks (ev_df_lt _ _ _ _) (by simp [ev_df, ev_yn, c_4, c_5, c_6, c_7, e_16, c_18, c_22]) (by rw [show (ev_df st k (n + 1) (some z)).2 = st from (by simp [ev_df, ev_yn, c_4, c_5, c_6, c_7, e_16, c_18, c_22])]; exact hP) hS dX8_deleteFrom_102
                  ·
                    refine lv_bipush (v := nI 84) hx hb dX8_deleteFrom_92 (by decide) ?_
                    refine lv_goto (tgt := 102) hx hb dX8_deleteFrom_94 (by decide) ?_
                    exact em_char hx hb hr hlocks (ev_df_lt _ _ _ _) (by simp [ev_df, ev_yn, c_4, c_5, c_6, c_7, e_16, c_18, c_22]) (by rw [show (ev_df st k (n + 1) (some z)).2 = st from (by simp [ev_df, ev_yn, c_4, c_5, c_6, c_7, e_16, c_18, c_22])]; exact hP) hS dX8_deleteFrom_102
          ·
            refine lv_bipush (v := nI 84) hx hb dX8_deleteFrom_36 (by decide) ?_
            exact em_char hx hb hr hlocks (ev_df_lt _ _ _ _) (by simp [ev_df, ev_yn, c_4, c_5]) (by rw [show (ev_df st k (n + 1) (some z)).2 = st from (by simp [ev_df, ev_yn, c_4, c_5])]; exact hP) hS dX8_deleteFrom_38
        ·
          refine lv_aload_n hx hb dX8_deleteFrom_23 rfl (lv_at hl 3 rfl) ?_
          refine lv_iload_n hx hb dX8_deleteFrom_24 rfl (lv_at hl 2 rfl) ?_
          refine ev_mv (As := [.int (nI k)]) (rest := []) ⟨hx, hb, hml, hown, hts⟩ (c_X7_takeOut l hz (ev_focD z hD) (k := k) (by omega) (hKC z hz)) (cwV 1 hts gX8_deleteFrom_X7_takeOut rfl rfl rfl (by decide +kernel) ⟨Nat.le_of_ble_eq_true rfl, Nat.le_of_ble_eq_true rfl⟩) (ev_foc hP) hK hS (ev_recv hK hP hz) rfl hl.1 (Nat.le_of_ble_eq_true rfl) dX8_deleteFrom_25 ⟨Nat.le_of_ble_eq_true rfl, Nat.le_of_ble_eq_true rfl⟩ (fun H locs hP hz hk hS => ?_)
          exact em_char hx hb hr hlocks (ev_df_lt _ _ _ _) (by simp [ev_df, ev_yn, c_4]) (by rw [show (ev_df st k (n + 1) (some z)).2 = ev_up st z (ev_tk (st.2 z) k).2 from (by simp [ev_df, ev_yn, c_4])]; exact hP) hS dX8_deleteFrom_28
  refine lv_aload_n hx hb dX8_deleteFrom_0 rfl (lv_at hl 1 rfl) ?_
  refine lv_astore_n (lv' := [(3, .ref (ad i 0)), (0, .ref (b 1)), (1, .ref (ad i 0)), (2, .int (nI k))]) hx hb dX8_deleteFrom_1 rfl hl (by decide) rfl (fun ls hl => ?_)
  refine lv_iconst (v := nI 0) hx hb dX8_deleteFrom_2 (by decide) ?_
  refine lv_istore (lv' := [(4, .int (nI 0)), (3, .ref (ad i 0)), (0, .ref (b 1)), (1, .ref (ad i 0)), (2, .int (nI k))]) hx hb dX8_deleteFrom_3 hl (by decide) rfl (fun ls hl => ?_)
  exact LP 12 0 (some i) rfl (fun _ h => by cases h; exact hi) ls (lv_sub hl [2, 3, 4, 1, 0] rfl)
end
