/-! 10.ctors: the constructors -/
def ev_A (h0 sz : Nat) : Nat → Prop := fun q => q = h0 ∨ sz ≤ q
def ev_AOs (U : State) : Prop := ∀ C ∈ (["EventloopRow$Thing", "EventloopRow$Instruction", "EventloopRow$Promise", "EventloopRow$TimerBlock"] : List String), va_AO C U
def ev_Nst : List Cond := [.methodLinkNest RX11 9 yX8_init "EventloopRow", .methodLinkNest RX11 18 yX2_init "EventloopRow", .methodLinkNest RX3 11 yX10_init "EventloopRow"]
def ev_NsO (U : State) : Prop := ∀ w ∈ ev_Nst, va_Nw w U
theorem ev_AOs.moved {u U : State} (hvm : u.vm.Alike U.vm) (h : ev_AOs u) : ev_AOs U := fun C hC => va_AO.moved hvm (h C hC)
theorem ev_NsO.warm {s U : State} (hW : s.WarmedH U.vm) (h : ev_NsO s) : ev_NsO U := by
  intro w hw
  have hz := h w hw
  simp only [ev_Nst, List.mem_cons, List.mem_nil_iff, or_false] at hw
  rcases hw with rfl | rfl | rfl <;> exact va_Nw.warmM hW hz
theorem ev_NsO.same {u U : State} (hv : u.vm = U.vm) (h : ev_NsO u) : ev_NsO U := by
  intro w hw
  have hz := h w hw
  simp only [ev_Nst, List.mem_cons, List.mem_nil_iff, or_false] at hw
  rcases hw with rfl | rfl | rfl <;> exact va_Nw.same rfl hv hz
def ev_PcN (D : va_G) (cI cO : ClassId) (sz : Nat) (ws : va_W) (av : List Value) : Array Value → State → Prop := fun v U => v = av.toArray ∧ U.heap.size = sz ∧ va_P D vwCl ws U.heap ∧ va_K D vwCl (ev_ty cI cO) U ∧ ev_AOs U ∧ ev_NsO U
def ev_QN (P : State → Prop) (A : Nat → Prop) : Array Value → State → Outcome → State → Prop := fun _ st o t => o = .returned none ∧ P t ∧ va_F A st t
theorem ev_blindN {D : va_G} {cI cO : ClassId} {sz : Nat} {ws : va_W} {av : List Value} : FrameBlind (ev_PcN D cI cO sz ws av) := fun a U g mk q => ⟨q.1, q.2.1, q.2.2.1, va_K.moved (u := U) (U := U.calling g mk a) (Vm.Alike.refl U.vm) q.2.2.2.1, ev_AOs.moved (u := U) (U := U.calling g mk a) (Vm.Alike.refl U.vm) q.2.2.2.2.1, ev_NsO.same (u := U) (U := U.calling g mk a) rfl q.2.2.2.2.2⟩
theorem ev_bodyN {l : Launch} {D : va_G} {cI cO : ClassId} {sz : Nat} {y : MethodName} {ws ws' : List Cond} {rm : Room} {w0 : va_W} {av : List Value} {Qc : Array Value → State → Outcome → State → Prop} {mc ms : Nat} {free : Addr → Prop} {cc : ByteArray} {maxL : Nat} {ret : Option FieldType}
    (hy : plainName y.cls = true) (hw : ws = Cond.code y cc maxL ret :: ws') (hlen : (lg_sl av).length ≤ maxL)
    (body : ∀ (p : Program) (e : Env) (s : State) (m : MethodId) (args : Array Value) (below : List Frame) (meth : Method) (c : Code), p.tables.exec = Jvm.exec → c.code = cc → meth.sig.returnType = ret → c.maxLocals = maxL → s.vm.findClass y.cls = some m.cls → (∀ w ∈ ws, w.before args s = true) → meth.locks = false → meth.name = y.name → s.heap.size = sz → va_P D vwCl w0 s.heap → va_K D vwCl (ev_ty cI cO) s → ev_AOs s → ev_NsO s → ∀ ls : Array Slot, lv_has ls maxL (lv_args 0 av) →
      W p l e rm s m args below meth c s.heap [] 0 0 (MQ below Qc args s mc ms free) (F0 m 0 ls [])) : Met l y ws rm (ev_PcN D cI cO sz w0 av) Qc mc ms free := by
  refine Met.ofW (cc := cc) (maxL := maxL) (ret := ret) hy hw ?_
  intro p e s m args below meth c s₁ B hml hv
  obtain ⟨rfl, hsz, hH, hK, hO, hN⟩ := hv
  rw [lg_entry_eq]
  exact body p e s m _ below meth c B.exec B.bytes B.returns hml (findClass_of_methodNamed B.named) (atoms_spec (ws := ws) B.pre) B.notSynchronized (name_of_methodNamed B.named B.method).1 hsz hH hK hO hN _ (lv_entry av (n := maxL) hlen)
theorem ev_preN {D : va_G} {cI cO : ClassId} {sz : Nat} {w0 : va_W} {As : List Value} {s : State} {H : Heap} (hsz : H.size = sz) (hP : va_P D vwCl w0 H) (hK : va_K D vwCl (ev_ty cI cO) s) (hO : ev_AOs s) (hN : ev_NsO s) : PreS s H (ev_PcN D cI cO sz w0 As) As :=
  ⟨ev_blindN, fun U hU hW => ⟨rfl, by rw [hU]; exact hsz, by rw [hU]; exact hP, va_K.moved hW.alike hK, ev_AOs.moved hW.alike hO, ev_NsO.warm hW hN⟩⟩
section EVC
variable {p : Program} {l : Launch} {e : Env} {R : Room} {s : State} {m : MethodId} {args : Array Value} {below : List Frame} {meth : Method} {c : Code} {H : Heap} {locs : List Loc} {cells slots : Nat} {Q : State → Prop}
variable {cc : ByteArray} {pc : Nat} {ls : Array Slot} {rest st0 : List Value} {D : va_G} {cI cO : ClassId} {A A1 : Nat → Prop} {H0 : Heap} {ws : va_W} {a : Array Value} {mc ms : Nat}
theorem ev_call0 {P : State → Prop} (hr : va_Run p l e R s m args below meth c H locs cells slots mc ms (F0 m pc ls st0) rest (ev_QN P A1 a) A1) (hS : va_S A H0 H locs) (hf : ∀ q, A1 q → A q)
    (kk : ∀ (t : State) (H1 : Heap) (locs1 : List Loc), t.heap = H1 → P t → H.size ≤ H1.size → (∀ q : Nat, q < H.size → ¬ A1 q → H1[q]? = H[q]?) → va_S A H0 H1 locs1 → W p l e R s m args below meth c H1 locs1 (cells + mc) (slots + ms) Q (F0 m (pc + 3) ls rest)) : W p l e R s m args below meth c H locs cells slots Q (F0 m pc ls st0) := by
  intro T hT X
  obtain ⟨v, st₀, t, T', L, h0, X', hL, e1, e2, ⟨hv, hp, hz, hk⟩, st⟩ := hr T hT X
  cases hv
  rw [h0] at hz hk
  obtain ⟨t2, a1, b1⟩ := kk t T'.heap (locs ++ L) e1.symm hp (by rw [e1]; exact hz) (fun q h1 h2 => by rw [e1]; exact hk q h1 h2)
    ⟨Nat.le_trans hS.1 (by rw [e1]; exact hz), fun q h1 h2 => by rw [e1, hk q (Nat.lt_of_lt_of_le h1 hS.1) (fun z => h2 (hf q z))]; exact hS.2.1 q h1 h2, fun q hq => by
      rcases List.mem_append.mp hq with h | h
      · exact hS.2.2 q h
      · exact hf _ (hL q h)⟩ T' rfl X'
  exact ⟨t2, st t2 a1, b1⟩
theorem ev_newi (hx : p.tables.exec = Jvm.exec) (hb : c.code = cc) (harr : (Cond.arrayClass .int).before args s = true) (hK : va_K D vwCl (ev_ty cI cO) s) (hP : va_P D vwCl ws H) (hD : va_D A ws) (hS : va_S A H0 H locs) (hA : ∀ q, H0.size ≤ q → A q) {n : Int32} {N : Nat} (hn : ¬ n < 0) (hN : n.toNatClampNeg = N) (hbytes : N * 4 ≤ 536870912) (hcells : cells + 1 ≤ R.cells) (hslots : slots + N ≤ R.slots) (hdg : decode cc pc = .ok (.newarray .int, 2))
    (kk : ∀ (q : Nat) (H1 : Heap), va_P D vwCl (ws ++ [(q, .inl (cI, N, .inl (fun _ => 0)))]) H1 → va_D A (ws ++ [(q, .inl (cI, N, .inl (fun _ => 0)))]) → va_S A H0 H1 locs →
      W p l e R s m args below meth c H1 locs (cells + 1) (slots + N) Q (F0 m (pc + 2) ls (.ref q :: rest))) : W p l e R s m args below meth c H locs cells slots Q (F0 m pc ls (.int n :: rest)) := by
  refine va_newa (atype := .int) (ty := .int) (a0 := (N, .inl (fun _ => 0))) hx hb harr rfl hK hP hD hS hA (fun cA => rfl) hn hN hbytes hcells hslots hdg (fun q cA H1 hK1 hP1 hD1 hS1 => ?_)
  have h1 : s.vm.findClass ("[" ++ FieldType.int.toString) = some cI := (hK.2 0 _ rfl).2
  have h2 : s.vm.findClass ("[" ++ FieldType.int.toString) = some cA := (hK1.2 2 _ rfl).2
  cases Option.some.inj (h1.symm.trans h2)
  exact kk q H1 hP1 hD1 hS1
theorem ev_newt (hx : p.tables.exec = Jvm.exec) (hb : c.code = cc) {own : String} {index : Nat} (hown : s.vm.findClass own = some m.cls) (hclink : (Cond.classLink own index RX7).before args s = true) (hover : va_AO "EventloopRow$Thing" s) (hK : va_K D vwCl (ev_ty cI cO) s) (hP : va_P D vwCl ws H) (hD : va_D A ws) (hS : va_S A H0 H locs) (hA : ∀ q, H0.size ≤ q → A q) {n : Int32} {N : Nat} (hn : ¬ n < 0) (hN : n.toNatClampNeg = N) (hbytes : N * 4 ≤ 536870912) (hcells : cells + 1 ≤ R.cells) (hslots : slots + N ≤ R.slots) (hdg : decode cc pc = .ok (.anewarray index, 3))
    (kk : ∀ (q : Nat) (H1 : Heap), va_P D vwCl (ws ++ [(q, .inl (cO, N, .inr (.inr (.inr (.inr (fun _ => none))))))]) H1 → va_D A (ws ++ [(q, .inl (cO, N, .inr (.inr (.inr (.inr (fun _ => none))))))]) → va_S A H0 H1 locs →
      W p l e R s m args below meth c H1 locs (cells + 1) (slots + N) Q (F0 m (pc + 3) ls (.ref q :: rest))) : W p l e R s m args below meth c H locs cells slots Q (F0 m pc ls (.int n :: rest)) := by
  refine va_newq (C := "EventloopRow$Thing") (N' := N) hx hb hown hclink hover hK hP hD hS hA hn hN hbytes hcells hslots hdg (fun q cA H1 hK1 hP1 hD1 hS1 => ?_)
  obtain ⟨kA, comp, -, -, -, h1⟩ := (hK.2 1 _ rfl).2
  obtain ⟨kA2, comp2, -, -, -, h2⟩ := (hK1.2 2 _ rfl).2
  cases Option.some.inj (h1.symm.trans h2)
  exact kk q H1 hP1 hD1 hS1
end EVC
theorem ev_joinN {A0 : Nat → Prop} {D : va_G} {ws wr w1 : va_W} {H H1 : Heap} {h0 : Nat} {e0 : va_E} (hP : va_P D vwCl ws H) (hD : va_D A0 ws) (hP1 : va_P D vwCl w1 H1) (hD1 : va_D (ev_A h0 H.size) w1) (pl : Nat) (isR : List Nat) (hC : ws[pl]? = some (h0, e0)) (hR : isR.map (fun i => ws[i]?) = wr.map some) (hn : va_nd isR = true) (hdis : ∀ i ∈ isR, i ≠ pl)
    (hk : ∀ q : Nat, q < H.size → ¬ ev_A h0 H.size q → H1[q]? = H[q]?) (hF : ∀ q, ev_A h0 H.size q → A0 q) : va_P D vwCl (wr ++ w1) H1 ∧ va_D A0 (wr ++ w1) := by
  have e : ∀ q, va_A [(h0, e0)] H.size q ↔ ev_A h0 H.size q := by
    intro q
    constructor
    · rintro (⟨k, e', h⟩ | h)
      · rcases k with _ | k
        · cases h; exact Or.inl rfl
        · simp at h
      · exact Or.inr h
    · rintro (rfl | h)
      · exact Or.inl ⟨0, e0, rfl⟩
      · exact Or.inr h
  refine va_join (wc := [(h0, e0)]) (wr := wr) (w1 := w1) hP hD [pl] isR (by simp [hC]) hR hn (fun i hi hm => hdis i hi (by simpa using hm)) (fun q h1 h2 => hk q h1 (fun z => h2 ((e q).mpr z))) (fun q h => hF q ((e q).mp h)) hP1 (hD1.weaken (fun _ _ _ h => (e _).mpr h))
set_option maxHeartbeats 4000000 in
set_option maxRecDepth 100000 in
theorem c_X2_init (l : Launch) {D : va_G} {cI cO : ClassId} {h0 sz : Nat} : Met l yX2_init wsX2_init ({ frames := 1, cells := 0, slots := 0, locals := 12 }) (ev_PcN D cI cO sz [(h0, .inr (2, [.null, .null, .null]))] [.ref h0]) (ev_QN (fun t => va_P D vwCl [(h0, .inr (2, [.null, .null, .null]))] t.heap ∧ va_D (ev_A h0 sz) [(h0, .inr (2, [.null, .null, .null]))]) (ev_A h0 sz)) 0 0 (ev_A h0 sz) := by
  refine ev_bodyN (cc := cX2_init) (maxL := 1) (ret := none) (by decide) rfl (Nat.le_of_ble_eq_true rfl) ?_
  intro p e s m args below meth c hx hb hr hml hown hts hlocks hnm hsz hP hK hO hNs ls hl
  subst hsz
  generalize hAe : ev_A h0 s.heap.size = A
  have hA : ∀ q : Nat, s.heap.size ≤ q → A q := fun q h => by rw [← hAe]; exact Or.inr h
  have hD : va_D A [(h0, .inr (2, [.null, .null, .null]))] := by rw [← hAe]; exact ⟨fun i j x y hi hj _ => by have := (List.getElem?_eq_some_iff.mp hi).1; have := (List.getElem?_eq_some_iff.mp hj).1; simp at *; omega, fun k q hk => by rcases k with _ | k <;> simp at hk; subst hk; exact Or.inl rfl⟩
  have hS : va_S A s.heap s.heap [] := va_S.rf
  have hl : lv_has ls 1 [(0, .ref h0)] := hl
  refine lv_aload_n hx hb dX2_init_0 rfl (lv_at hl 0 rfl) ?_
  refine W.objInit hx hb hown (hts (.methodLink RX2 3 objectInit) (by decide +kernel)) (hts (.instanceMethod objectInit) (by decide +kernel)) (hts (.code objectInit ⟨#[0xb1]⟩ 1 none) (by decide +kernel)) rfl (by rw [hml]; exact hl.1) rfl dX2_init_1 (Nat.le_of_ble_eq_true rfl) (Nat.le_of_ble_eq_true rfl) ?_
  refine W.eq (g2 := F0 m 4 ls []) rfl ?_
  refine W.widen (k := 0) (n := 0) (Nat.le_of_ble_eq_true rfl) (Nat.le_of_ble_eq_true rfl) ?_
  have hP9 : ∀ t : State, t.heap = s.heap → va_P D vwCl [(h0, .inr (2, [.null, .null, .null]))] t.heap := fun t ht => by rw [ht]; exact hP.sub [0] rfl
  have hD9 : va_D A [(h0, .inr (2, [.null, .null, .null]))] := hD.sub [0] (by decide) rfl
  have hS9 : ∀ t : State, t.heap = s.heap → va_F A s t := fun t ht => hS.F ht
  exact W.vret hx hb hr (fun t ht _ => ⟨rfl, ⟨hP9 t ht, hD9⟩, hS9 t ht⟩) hS.2.2 dX2_init_4
set_option maxHeartbeats 4000000 in
set_option maxRecDepth 100000 in
theorem c_X8_init (l : Launch) {D : va_G} {cI cO : ClassId} {h0 sz : Nat} : Met l yX8_init wsX8_init ({ frames := 1, cells := 1, slots := 12, locals := 12 }) (ev_PcN D cI cO sz [(h0, .inr (6, [.null, .int 0]))] [.ref h0]) (ev_QN (fun t => ∃ q1 : Nat, va_P D vwCl [(h0, .inr (6, [.ref q1, .int 0])), (q1, .inl (cO, 12, .inr (.inr (.inr (.inr (fun _ => none))))))] t.heap ∧ va_D (ev_A h0 sz) [(h0, .inr (6, [.ref q1, .int 0])), (q1, .inl (cO, 12, .inr (.inr (.inr (.inr (fun _ => none))))))]) (ev_A h0 sz)) 1 12 (ev_A h0 sz) := by
  refine ev_bodyN (cc := cX8_init) (maxL := 1) (ret := none) (by decide) rfl (Nat.le_of_ble_eq_true rfl) ?_
  intro p e s m args below meth c hx hb hr hml hown hts hlocks hnm hsz hP hK hO hNs ls hl
  subst hsz
  generalize hAe : ev_A h0 s.heap.size = A
  have hA : ∀ q : Nat, s.heap.size ≤ q → A q := fun q h => by rw [← hAe]; exact Or.inr h
  have hD : va_D A [(h0, .inr (6, [.null, .int 0]))] := by rw [← hAe]; exact ⟨fun i j x y hi hj _ => by have := (List.getElem?_eq_some_iff.mp hi).1; have := (List.getElem?_eq_some_iff.mp hj).1; simp at *; omega, fun k q hk => by rcases k with _ | k <;> simp at hk; subst hk; exact Or.inl rfl⟩
  have hS : va_S A s.heap s.heap [] := va_S.rf
  have hl : lv_has ls 1 [(0, .ref h0)] := hl
  have hi8 : ∀ w ∈ wsX80, w ∈ wsX8_init := by decide +kernel
  refine lv_aload_n hx hb dX8_init_0 rfl (lv_at hl 0 rfl) ?_
  refine W.objInit hx hb hown (hts (.methodLink RX8 3 objectInit) (by decide +kernel)) (hts (.instanceMethod objectInit) (by decide +kernel)) (hts (.code objectInit ⟨#[0xb1]⟩ 1 none) (by decide +kernel)) rfl (by rw [hml]; exact hl.1) rfl dX8_init_1 (Nat.le_of_ble_eq_true rfl) (Nat.le_of_ble_eq_true rfl) ?_
  refine W.eq (g2 := F0 m 4 ls []) rfl ?_
  refine lv_aload_n hx hb dX8_init_4 rfl (lv_at hl 0 rfl) ?_
  refine lv_bipush (v := 12) hx hb dX8_init_5 (by decide) ?_
  refine ev_newt (N := 12) hx hb hown (hts (.classLink RX8 9 RX7) (by decide +kernel)) (hO "EventloopRow$Thing" (by decide)) hK hP hD hS hA (by decide) (by decide) (by decide) (Nat.le_of_ble_eq_true rfl) (Nat.le_of_ble_eq_true rfl) dX8_init_7 (fun q_1 H hP hD hS => ?_)
  have hP : va_P D vwCl [(h0, .inr (6, [.null, .int 0])), (q_1, .inl (cO, 12, .inr (.inr (.inr (.inr (fun _ => none))))))] H := hP
  have hD : va_D A [(h0, .inr (6, [.null, .int 0])), (q_1, .inl (cO, 12, .inr (.inr (.inr (.inr (fun _ => none))))))] := hD
  refine va_putF (D := D) (ci := 6) (v := .ref q_1) (ty := tyX8 0) (C := RX8) (T := TX8) (N := 2) hx hb hts hi8 tyX8 tyX8_ok nmX8 hown hK hP hD hS 0 rfl rfl 0 (by decide) (hts (.fieldLink RX8 11 "EventloopRow$Things" "row" "[LEventloopRow$Thing;") (by decide +kernel)) (fun _ h9 => h9) rfl hnm rfl (tyX8_ok 0 (by decide)) rfl rfl (Nat.le_of_ble_eq_true rfl) dX8_init_10 (fun H locs hP hD hS => ?_)
  have hP : va_P D vwCl [(h0, .inr (6, [.ref q_1, .int 0])), (q_1, .inl (cO, 12, .inr (.inr (.inr (.inr (fun _ => none))))))] H := hP
  have hD : va_D A [(h0, .inr (6, [.ref q_1, .int 0])), (q_1, .inl (cO, 12, .inr (.inr (.inr (.inr (fun _ => none))))))] := hD
  refine W.widen (k := 1) (n := 12) (Nat.le_of_ble_eq_true rfl) (Nat.le_of_ble_eq_true rfl) ?_
  have hP9 : ∀ t : State, t.heap = H → va_P D vwCl [(h0, .inr (6, [.ref q_1, .int 0])), (q_1, .inl (cO, 12, .inr (.inr (.inr (.inr (fun _ => none))))))] t.heap := fun t ht => by rw [ht]; exact hP.sub [0, 1] rfl
  have hD9 : va_D A [(h0, .inr (6, [.ref q_1, .int 0])), (q_1, .inl (cO, 12, .inr (.inr (.inr (.inr (fun _ => none))))))] := hD.sub [0, 1] (by decide) rfl
  have hS9 : ∀ t : State, t.heap = H → va_F A s t := fun t ht => hS.F ht
  exact W.vret hx hb hr (fun t ht _ => ⟨rfl, ⟨q_1, hP9 t ht, hD9⟩, hS9 t ht⟩) hS.2.2 dX8_init_13
set_option maxHeartbeats 4000000 in
set_option maxRecDepth 100000 in
theorem c_X10_init (l : Launch) {D : va_G} {cI cO : ClassId} {h0 sz : Nat} : Met l yX10_init wsX10_init ({ frames := 1, cells := 1, slots := 4, locals := 12 }) (ev_PcN D cI cO sz [(h0, .inr (7, [.null, .int 0, .int 0]))] [.ref h0]) (ev_QN (fun t => ∃ q1 : Nat, va_P D vwCl [(h0, .inr (7, [.ref q1, .int 0, .int 0]))] t.heap ∧ va_D (ev_A h0 sz) [(h0, .inr (7, [.ref q1, .int 0, .int 0]))]) (ev_A h0 sz)) 1 4 (ev_A h0 sz) := by
  refine ev_bodyN (cc := cX10_init) (maxL := 1) (ret := none) (by decide) rfl (Nat.le_of_ble_eq_true rfl) ?_
  intro p e s m args below meth c hx hb hr hml hown hts hlocks hnm hsz hP hK hO hNs ls hl
  subst hsz
  generalize hAe : ev_A h0 s.heap.size = A
  have hA : ∀ q : Nat, s.heap.size ≤ q → A q := fun q h => by rw [← hAe]; exact Or.inr h
  have hD : va_D A [(h0, .inr (7, [.null, .int 0, .int 0]))] := by rw [← hAe]; exact ⟨fun i j x y hi hj _ => by have := (List.getElem?_eq_some_iff.mp hi).1; have := (List.getElem?_eq_some_iff.mp hj).1; simp at *; omega, fun k q hk => by rcases k with _ | k <;> simp at hk; subst hk; exact Or.inl rfl⟩
  have hS : va_S A s.heap s.heap [] := va_S.rf
  have hl : lv_has ls 1 [(0, .ref h0)] := hl
  have hi10 : ∀ w ∈ wsX100, w ∈ wsX10_init := by decide +kernel
  refine lv_aload_n hx hb dX10_init_0 rfl (lv_at hl 0 rfl) ?_
  refine W.objInit hx hb hown (hts (.methodLink RX10 3 objectInit) (by decide +kernel)) (hts (.instanceMethod objectInit) (by decide +kernel)) (hts (.code objectInit ⟨#[0xb1]⟩ 1 none) (by decide +kernel)) rfl (by rw [hml]; exact hl.1) rfl dX10_init_1 (Nat.le_of_ble_eq_true rfl) (Nat.le_of_ble_eq_true rfl) ?_
  refine W.eq (g2 := F0 m 4 ls []) rfl ?_
  refine lv_aload_n hx hb dX10_init_4 rfl (lv_at hl 0 rfl) ?_
  refine lv_iconst (v := 4) hx hb dX10_init_5 (by decide) ?_
  refine va_newq (C := "EventloopRow$TimerBlock") (N' := 4) hx hb hown (hts (.classLink RX10 9 RX9) (by decide +kernel)) (hO "EventloopRow$TimerBlock" (by decide)) hK hP hD hS hA (by decide) (by decide) (by decide) (Nat.le_of_ble_eq_true rfl) (Nat.le_of_ble_eq_true rfl) dX10_init_6 (fun q_1 cA_2 H _ hP hD hS => ?_)
  have hP : va_P D vwCl [(h0, .inr (7, [.null, .int 0, .int 0])), (q_1, .inl (cA_2, 4, .inr (.inr (.inr (.inr (fun _ => none))))))] H := hP
  have hD : va_D A [(h0, .inr (7, [.null, .int 0, .int 0])), (q_1, .inl (cA_2, 4, .inr (.inr (.inr (.inr (fun _ => none))))))] := hD
  refine va_put (D := D) (ci := 7) (v := .ref q_1) (ty := tyX10 0) (C := RX10) (T := TX10) (N := 3) hx hb hts hi10 tyX10 tyX10_ok nmX10 hown hK hP hD hS 0 rfl rfl 0 (by decide) (hts (.fieldLink RX10 11 "EventloopRow$TimerHeap" "blocks" "[LEventloopRow$TimerBlock;") (by decide +kernel)) (fun _ h9 => h9) rfl (tyX10_ok 0 (by decide)) rfl rfl (Nat.le_of_ble_eq_true rfl) dX10_init_9 (fun H locs hP hD hS => ?_)
  have hP : va_P D vwCl [(h0, .inr (7, [.ref q_1, .int 0, .int 0])), (q_1, .inl (cA_2, 4, .inr (.inr (.inr (.inr (fun _ => none))))))] H := hP
  have hD : va_D A [(h0, .inr (7, [.ref q_1, .int 0, .int 0])), (q_1, .inl (cA_2, 4, .inr (.inr (.inr (.inr (fun _ => none))))))] := hD
  refine W.widen (k := 1) (n := 4) (Nat.le_of_ble_eq_true rfl) (Nat.le_of_ble_eq_true rfl) ?_
  have hP9 : ∀ t : State, t.heap = H → va_P D vwCl [(h0, .inr (7, [.ref q_1, .int 0, .int 0]))] t.heap := fun t ht => by rw [ht]; exact hP.sub [0] rfl
  have hD9 : va_D A [(h0, .inr (7, [.ref q_1, .int 0, .int 0]))] := hD.sub [0] (by decide) rfl
  have hS9 : ∀ t : State, t.heap = H → va_F A s t := fun t ht => hS.F ht
  exact W.vret hx hb hr (fun t ht _ => ⟨rfl, ⟨q_1, hP9 t ht, hD9⟩, hS9 t ht⟩) hS.2.2 dX10_init_12
set_option maxHeartbeats 4000000 in
set_option maxRecDepth 100000 in
theorem c_X5_init (l : Launch) {D : va_G} {cI cO : ClassId} {h0 sz p0 : Nat} : Met l yX5_init wsX5_init ({ frames := 1, cells := 2, slots := 120, locals := 12 }) (ev_PcN D cI cO sz [(h0, .inr (4, [.null, .int 0, .null, .int 0, .int 0, .int 0, .int 0, .null]))] [.ref h0, .ref p0]) (ev_QN (fun t => ∃ q1 q2 : Nat, va_P D vwCl [(h0, .inr (4, [.ref q1, .int 0, .ref q2, .int 0, .int 0, .int 0, .int 0, .ref p0]))] t.heap ∧ va_D (ev_A h0 sz) [(h0, .inr (4, [.ref q1, .int 0, .ref q2, .int 0, .int 0, .int 0, .int 0, .ref p0]))]) (ev_A h0 sz)) 2 120 (ev_A h0 sz) := by
  refine ev_bodyN (cc := cX5_init) (maxL := 2) (ret := none) (by decide) rfl (Nat.le_of_ble_eq_true rfl) ?_
  intro p e s m args below meth c hx hb hr hml hown hts hlocks hnm hsz hP hK hO hNs ls hl
  subst hsz
  generalize hAe : ev_A h0 s.heap.size = A
  have hA : ∀ q : Nat, s.heap.size ≤ q → A q := fun q h => by rw [← hAe]; exact Or.inr h
  have hD : va_D A [(h0, .inr (4, [.null, .int 0, .null, .int 0, .int 0, .int 0, .int 0, .null]))] := by rw [← hAe]; exact ⟨fun i j x y hi hj _ => by have := (List.getElem?_eq_some_iff.mp hi).1; have := (List.getElem?_eq_some_iff.mp hj).1; simp at *; omega, fun k q hk => by rcases k with _ | k <;> simp at hk; subst hk; exact Or.inl rfl⟩
  have hS : va_S A s.heap s.heap [] := va_S.rf
  have hl : lv_has ls 2 [(0, .ref h0), (1, .ref p0)] := hl
  have hi5 : ∀ w ∈ wsX50, w ∈ wsX5_init := by decide +kernel
  refine lv_aload_n hx hb dX5_init_0 rfl (lv_at hl 0 rfl) ?_
  refine W.objInit hx hb hown (hts (.methodLink RX5 3 objectInit) (by decide +kernel)) (hts (.instanceMethod objectInit) (by decide +kernel)) (hts (.code objectInit ⟨#[0xb1]⟩ 1 none) (by decide +kernel)) rfl (by rw [hml]; exact hl.1) rfl dX5_init_1 (Nat.le_of_ble_eq_true rfl) (Nat.le_of_ble_eq_true rfl) ?_
  refine W.eq (g2 := F0 m 4 ls []) rfl ?_
  refine lv_aload_n hx hb dX5_init_4 rfl (lv_at hl 0 rfl) ?_
  refine lv_bipush (v := 60) hx hb dX5_init_5 (by decide) ?_
  refine va_newq (C := "EventloopRow$Promise") (N' := 60) hx hb hown (hts (.classLink RX5 9 RX4) (by decide +kernel)) (hO "EventloopRow$Promise" (by decide)) hK hP hD hS hA (by decide) (by decide) (by decide) (Nat.le_of_ble_eq_true rfl) (Nat.le_of_ble_eq_true rfl) dX5_init_7 (fun q_1 cA_2 H _ hP hD hS => ?_)
  have hP : va_P D vwCl [(h0, .inr (4, [.null, .int 0, .null, .int 0, .int 0, .int 0, .int 0, .null])), (q_1, .inl (cA_2, 60, .inr (.inr (.inr (.inr (fun _ => none))))))] H := hP
  have hD : va_D A [(h0, .inr (4, [.null, .int 0, .null, .int 0, .int 0, .int 0, .int 0, .null])), (q_1, .inl (cA_2, 60, .inr (.inr (.inr (.inr (fun _ => none))))))] := hD
  refine va_putF (D := D) (ci := 4) (v := .ref q_1) (ty := tyX5 0) (C := RX5) (T := TX5) (N := 8) hx hb hts hi5 tyX5 tyX5_ok nmX5 hown hK hP hD hS 0 rfl rfl 0 (by decide) (hts (.fieldLink RX5 11 "EventloopRow$PromiseRow" "row" "[LEventloopRow$Promise;") (by decide +kernel)) (fun _ h9 => h9) rfl hnm rfl (tyX5_ok 0 (by decide)) rfl rfl (Nat.le_of_ble_eq_true rfl) dX5_init_10 (fun H locs hP hD hS => ?_)
  have hP : va_P D vwCl [(h0, .inr (4, [.ref q_1, .int 0, .null, .int 0, .int 0, .int 0, .int 0, .null])), (q_1, .inl (cA_2, 60, .inr (.inr (.inr (.inr (fun _ => none))))))] H := hP
  have hD : va_D A [(h0, .inr (4, [.ref q_1, .int 0, .null, .int 0, .int 0, .int 0, .int 0, .null])), (q_1, .inl (cA_2, 60, .inr (.inr (.inr (.inr (fun _ => none))))))] := hD
  refine lv_aload_n hx hb dX5_init_13 rfl (lv_at hl 0 rfl) ?_
  refine lv_bipush (v := 60) hx hb dX5_init_14 (by decide) ?_
  refine ev_newi (N := 60) hx hb (hts (.arrayClass .int) (by decide +kernel)) hK hP hD hS hA (by decide) (by decide) (by decide) (Nat.le_of_ble_eq_true rfl) (Nat.le_of_ble_eq_true rfl) dX5_init_16 (fun q_3 H hP hD hS => ?_)
  have hP : va_P D vwCl [(h0, .inr (4, [.ref q_1, .int 0, .null, .int 0, .int 0, .int 0, .int 0, .null])), (q_1, .inl (cA_2, 60, .inr (.inr (.inr (.inr (fun _ => none)))))), (q_3, .inl (cI, 60, .inl (fun _ => 0)))] H := hP
  have hD : va_D A [(h0, .inr (4, [.ref q_1, .int 0, .null, .int 0, .int 0, .int 0, .int 0, .null])), (q_1, .inl (cA_2, 60, .inr (.inr (.inr (.inr (fun _ => none)))))), (q_3, .inl (cI, 60, .inl (fun _ => 0)))] := hD
  refine va_putF (D := D) (ci := 4) (v := .ref q_3) (ty := tyX5 2) (C := RX5) (T := TX5) (N := 8) hx hb hts hi5 tyX5 tyX5_ok nmX5 hown hK hP hD hS 0 rfl rfl 2 (by decide) (hts (.fieldLink RX5 17 "EventloopRow$PromiseRow" "rejections" "[I") (by decide +kernel)) (fun _ h9 => h9) rfl hnm rfl (tyX5_ok 2 (by decide)) rfl rfl (Nat.le_of_ble_eq_true rfl) dX5_init_18 (fun H locs hP hD hS => ?_)
  have hP : va_P D vwCl [(h0, .inr (4, [.ref q_1, .int 0, .ref q_3, .int 0, .int 0, .int 0, .int 0, .null])), (q_1, .inl (cA_2, 60, .inr (.inr (.inr (.inr (fun _ => none)))))), (q_3, .inl (cI, 60, .inl (fun _ => 0)))] H := hP
  have hD : va_D A [(h0, .inr (4, [.ref q_1, .int 0, .ref q_3, .int 0, .int 0, .int 0, .int 0, .null])), (q_1, .inl (cA_2, 60, .inr (.inr (.inr (.inr (fun _ => none)))))), (q_3, .inl (cI, 60, .inl (fun _ => 0)))] := hD
  refine lv_aload_n hx hb dX5_init_21 rfl (lv_at hl 0 rfl) ?_
  refine lv_aload_n hx hb dX5_init_22 rfl (lv_at hl 1 rfl) ?_
  refine va_putF (D := D) (ci := 4) (v := .ref p0) (ty := tyX5 7) (C := RX5) (T := TX5) (N := 8) hx hb hts hi5 tyX5 tyX5_ok nmX5 hown hK hP hD hS 0 rfl rfl 7 (by decide) (hts (.fieldLink RX5 21 "EventloopRow$PromiseRow" "jobRow" "LEventloopRow$JobRow;") (by decide +kernel)) (fun _ h9 => h9) rfl hnm rfl (tyX5_ok 7 (by decide)) rfl rfl (Nat.le_of_ble_eq_true rfl) dX5_init_23 (fun H locs hP hD hS => ?_)
  have hP : va_P D vwCl [(h0, .inr (4, [.ref q_1, .int 0, .ref q_3, .int 0, .int 0, .int 0, .int 0, .ref p0])), (q_1, .inl (cA_2, 60, .inr (.inr (.inr (.inr (fun _ => none)))))), (q_3, .inl (cI, 60, .inl (fun _ => 0)))] H := hP
  have hD : va_D A [(h0, .inr (4, [.ref q_1, .int 0, .ref q_3, .int 0, .int 0, .int 0, .int 0, .ref p0])), (q_1, .inl (cA_2, 60, .inr (.inr (.inr (.inr (fun _ => none)))))), (q_3, .inl (cI, 60, .inl (fun _ => 0)))] := hD
  refine W.widen (k := 2) (n := 120) (Nat.le_of_ble_eq_true rfl) (Nat.le_of_ble_eq_true rfl) ?_
  have hP9 : ∀ t : State, t.heap = H → va_P D vwCl [(h0, .inr (4, [.ref q_1, .int 0, .ref q_3, .int 0, .int 0, .int 0, .int 0, .ref p0]))] t.heap := fun t ht => by rw [ht]; exact hP.sub [0] rfl
  have hD9 : va_D A [(h0, .inr (4, [.ref q_1, .int 0, .ref q_3, .int 0, .int 0, .int 0, .int 0, .ref p0]))] := hD.sub [0] (by decide) rfl
  have hS9 : ∀ t : State, t.heap = H → va_F A s t := fun t ht => hS.F ht
  exact W.vret hx hb hr (fun t ht _ => ⟨rfl, ⟨q_1, q_3, hP9 t ht, hD9⟩, hS9 t ht⟩) hS.2.2 dX5_init_26
set_option maxHeartbeats 4000000 in
set_option maxRecDepth 100000 in
theorem c_X3_init (l : Launch) {D : va_G} {cI cO : ClassId} {h0 sz p0 p1 p2 : Nat} : Met l yX3_init wsX3_init ({ frames := 2, cells := 6, slots := 573, locals := 32 }) (ev_PcN D cI cO sz [(h0, .inr (3, [.null, .null, .null, .null, .null, .null, .int 0, .null, .int 0, .int 0, .int 0, .int 0, .int 0, .int 0, .long 0, .null, .long 0, .null, .null]))] [.ref h0, .ref p0, .ref p1, .ref p2]) (ev_QN (fun t => ∃ q1 q2 q3 q4 q5 : Nat, va_P D vwCl [(h0, .inr (3, [.ref p0, .ref p1, .ref p2, .ref q1, .ref q2, .ref q3, .int 0, .ref q4, .int 0, .int 0, .int 0, .int 0, .int 0, .int 0, .long 0, .ref q5, .long 0, .null, .null]))] t.heap ∧ va_D (ev_A h0 sz) [(h0, .inr (3, [.ref p0, .ref p1, .ref p2, .ref q1, .ref q2, .ref q3, .int 0, .ref q4, .int 0, .int 0, .int 0, .int 0, .int 0, .int 0, .long 0, .ref q5, .long 0, .null, .null]))]) (ev_A h0 sz)) 6 573 (ev_A h0 sz) := by
  refine ev_bodyN (cc := cX3_init) (maxL := 4) (ret := none) (by decide) rfl (Nat.le_of_ble_eq_true rfl) ?_
  intro p e s m args below meth c hx hb hr hml hown hts hlocks hnm hsz hP hK hO hNs ls hl
  subst hsz
  generalize hAe : ev_A h0 s.heap.size = A
  have hA : ∀ q : Nat, s.heap.size ≤ q → A q := fun q h => by rw [← hAe]; exact Or.inr h
  have hD : va_D A [(h0, .inr (3, [.null, .null, .null, .null, .null, .null, .int 0, .null, .int 0, .int 0, .int 0, .int 0, .int 0, .int 0, .long 0, .null, .long 0, .null, .null]))] := by rw [← hAe]; exact ⟨fun i j x y hi hj _ => by have := (List.getElem?_eq_some_iff.mp hi).1; have := (List.getElem?_eq_some_iff.mp hj).1; simp at *; omega, fun k q hk => by rcases k with _ | k <;> simp at hk; subst hk; exact Or.inl rfl⟩
  have hS : va_S A s.heap s.heap [] := va_S.rf
  have hl : lv_has ls 4 [(0, .ref h0), (1, .ref p0), (2, .ref p1), (3, .ref p2)] := hl
  have hi3 : ∀ w ∈ wsX30, w ∈ wsX3_init := by decide +kernel
  have hi10 : ∀ w ∈ wsX100, w ∈ wsX3_init := by decide +kernel
  refine lv_aload_n hx hb dX3_init_0 rfl (lv_at hl 0 rfl) ?_
  refine W.objInit hx hb hown (hts (.methodLink RX3 3 objectInit) (by decide +kernel)) (hts (.instanceMethod objectInit) (by decide +kernel)) (hts (.code objectInit ⟨#[0xb1]⟩ 1 none) (by decide +kernel)) rfl (by rw [hml]; exact hl.1) rfl dX3_init_1 (Nat.le_of_ble_eq_true rfl) (Nat.le_of_ble_eq_true rfl) ?_
  refine W.eq (g2 := F0 m 4 ls []) rfl ?_
  refine lv_aload_n hx hb dX3_init_4 rfl (lv_at hl 0 rfl) ?_
  refine va_new (D := D) (ci := 7) (fs := [.null, .int 0, .int 0]) (C := RX10) (T := TX10) (N := 3) hx hb hts hi10 tyX10 tyX10_ok hown (hts (.classLink RX3 9 RX10) (by decide +kernel)) (hts (.instantiable RX10 3) (by decide +kernel)) (hts (.initialized RX10) (by decide +kernel)) hK hP hD hS hA rfl (fun j hj => by rcases j with _ | _ | _ | j <;> first | rfl | omega) (Nat.le_of_ble_eq_true rfl) (Nat.le_of_ble_eq_true rfl) dX3_init_5 (fun q_1 H hP hD hS => ?_)
  have hP : va_P D vwCl [(h0, .inr (3, [.null, .null, .null, .null, .null, .null, .int 0, .null, .int 0, .int 0, .int 0, .int 0, .int 0, .int 0, .long 0, .null, .long 0, .null, .null])), (q_1, .inr (7, [.null, .int 0, .int 0]))] H := hP
  have hD : va_D A [(h0, .inr (3, [.null, .null, .null, .null, .null, .null, .int 0, .null, .int 0, .int 0, .int 0, .int 0, .int 0, .int 0, .long 0, .null, .long 0, .null, .null])), (q_1, .inr (7, [.null, .int 0, .int 0]))] := hD
  refine lv_dup hx hb dX3_init_8 rfl ?_
  have hPc := hP.sub (ws' := [(q_1, .inr (7, [.null, .int 0, .int 0]))]) [1] rfl
  have hlt : q_1 < H.size := (hPc 0 _ rfl).lt
  have hS0 := hS
  refine ev_call0 (va_runIN (As := []) (rest := [.ref q_1, .ref h0]) ⟨hx, hb, hml, hown, hts⟩ (c_X10_init l (h0 := q_1) (sz := H.size)) (⟨va_cnB 0 hts gX3_init_X10_init_n11 rfl rfl rfl (hNs (.methodLinkNest RX3 11 yX10_init "EventloopRow") (by decide +kernel)) (hts (.initialized RX10) (by decide +kernel)) (by decide +kernel) ⟨Nat.le_of_ble_eq_true rfl, Nat.le_of_ble_eq_true rfl⟩, rfl, hts (.instanceMethod yX10_init) (by decide +kernel)⟩) (ev_preN rfl hPc hK hO hNs) rfl rfl hl.1 rfl (lv_room (Nat.le_of_ble_eq_true rfl)) dX3_init_9 ⟨Nat.le_of_ble_eq_true rfl, Nat.le_of_ble_eq_true rfl⟩) hS (fun z hz => ?_) (fun t H1 locs ht hQ hz hk hS => ?_)
  · rcases hz with rfl | hz
    · exact hD.2 1 _ rfl
    · exact hA _ (Nat.le_trans hS.1 hz)
  subst ht
  obtain ⟨qa, hP1, hD1⟩ := hQ
  obtain ⟨hP, hD⟩ := ev_joinN (wr := [(h0, .inr (3, [.null, .null, .null, .null, .null, .null, .int 0, .null, .int 0, .int 0, .int 0, .int 0, .int 0, .int 0, .long 0, .null, .long 0, .null, .null]))]) (w1 := [(q_1, .inr (7, [.ref qa, .int 0, .int 0]))]) hP hD hP1 hD1 1 [0] rfl rfl (by decide) (by decide) hk (fun z hz => by rcases hz with rfl | hz <;> first | exact hD.2 1 _ rfl | exact hA _ (Nat.le_trans hS0.1 hz))
  generalize t.heap = H at hP hS ⊢
  have hP : va_P D vwCl [(h0, .inr (3, [.null, .null, .null, .null, .null, .null, .int 0, .null, .int 0, .int 0, .int 0, .int 0, .int 0, .int 0, .long 0, .null, .long 0, .null, .null])), (q_1, .inr (7, [.ref qa, .int 0, .int 0]))] H := hP
  have hD : va_D A [(h0, .inr (3, [.null, .null, .null, .null, .null, .null, .int 0, .null, .int 0, .int 0, .int 0, .int 0, .int 0, .int 0, .long 0, .null, .long 0, .null, .null])), (q_1, .inr (7, [.ref qa, .int 0, .int 0]))] := hD
  refine va_putF (D := D) (ci := 3) (v := .ref q_1) (ty := tyX3 3) (C := RX3) (T := TX3) (N := 19) hx hb hts hi3 tyX3 tyX3_ok nmX3 hown hK hP hD hS 0 rfl rfl 3 (by decide) (hts (.fieldLink RX3 12 "EventloopRow$Loop" "timerHeap" "LEventloopRow$TimerHeap;") (by decide +kernel)) (fun _ h9 => h9) rfl hnm rfl (tyX3_ok 3 (by decide)) rfl rfl (Nat.le_of_ble_eq_true rfl) dX3_init_12 (fun H locs hP hD hS => ?_)
  have hP : va_P D vwCl [(h0, .inr (3, [.null, .null, .null, .ref q_1, .null, .null, .int 0, .null, .int 0, .int 0, .int 0, .int 0, .int 0, .int 0, .long 0, .null, .long 0, .null, .null])), (q_1, .inr (7, [.ref qa, .int 0, .int 0]))] H := hP
  have hD : va_D A [(h0, .inr (3, [.null, .null, .null, .ref q_1, .null, .null, .int 0, .null, .int 0, .int 0, .int 0, .int 0, .int 0, .int 0, .long 0, .null, .long 0, .null, .null])), (q_1, .inr (7, [.ref qa, .int 0, .int 0]))] := hD
  refine lv_aload_n hx hb dX3_init_15 rfl (lv_at hl 0 rfl) ?_
  refine lv_sipush (v := 128) hx hb dX3_init_16 (by decide) ?_
  refine va_newq (C := "EventloopRow$Instruction") (N' := 128) hx hb hown (hts (.classLink RX3 18 RX0) (by decide +kernel)) (hO "EventloopRow$Instruction" (by decide)) hK hP hD hS hA (by decide) (by decide) (by decide) (Nat.le_of_ble_eq_true rfl) (Nat.le_of_ble_eq_true rfl) dX3_init_19 (fun q_2 cA_3 H _ hP hD hS => ?_)
  have hP : va_P D vwCl [(h0, .inr (3, [.null, .null, .null, .ref q_1, .null, .null, .int 0, .null, .int 0, .int 0, .int 0, .int 0, .int 0, .int 0, .long 0, .null, .long 0, .null, .null])), (q_1, .inr (7, [.ref qa, .int 0, .int 0])), (q_2, .inl (cA_3, 128, .inr (.inr (.inr (.inr (fun _ => none))))))] H := hP
  have hD : va_D A [(h0, .inr (3, [.null, .null, .null, .ref q_1, .null, .null, .int 0, .null, .int 0, .int 0, .int 0, .int 0, .int 0, .int 0, .long 0, .null, .long 0, .null, .null])), (q_1, .inr (7, [.ref qa, .int 0, .int 0])), (q_2, .inl (cA_3, 128, .inr (.inr (.inr (.inr (fun _ => none))))))] := hD
  refine va_putF (D := D) (ci := 3) (v := .ref q_2) (ty := tyX3 4) (C := RX3) (T := TX3) (N := 19) hx hb hts hi3 tyX3 tyX3_ok nmX3 hown hK hP hD hS 0 rfl rfl 4 (by decide) (hts (.fieldLink RX3 20 "EventloopRow$Loop" "program" "[LEventloopRow$Instruction;") (by decide +kernel)) (fun _ h9 => h9) rfl hnm rfl (tyX3_ok 4 (by decide)) rfl rfl (Nat.le_of_ble_eq_true rfl) dX3_init_22 (fun H locs hP hD hS => ?_)
  have hP : va_P D vwCl [(h0, .inr (3, [.null, .null, .null, .ref q_1, .ref q_2, .null, .int 0, .null, .int 0, .int 0, .int 0, .int 0, .int 0, .int 0, .long 0, .null, .long 0, .null, .null])), (q_1, .inr (7, [.ref qa, .int 0, .int 0])), (q_2, .inl (cA_3, 128, .inr (.inr (.inr (.inr (fun _ => none))))))] H := hP
  have hD : va_D A [(h0, .inr (3, [.null, .null, .null, .ref q_1, .ref q_2, .null, .int 0, .null, .int 0, .int 0, .int 0, .int 0, .int 0, .int 0, .long 0, .null, .long 0, .null, .null])), (q_1, .inr (7, [.ref qa, .int 0, .int 0])), (q_2, .inl (cA_3, 128, .inr (.inr (.inr (.inr (fun _ => none))))))] := hD
  refine lv_aload_n hx hb dX3_init_25 rfl (lv_at hl 0 rfl) ?_
  refine lv_bipush (v := 8) hx hb dX3_init_26 (by decide) ?_
  refine ev_newi (N := 8) hx hb (hts (.arrayClass .int) (by decide +kernel)) hK hP hD hS hA (by decide) (by decide) (by decide) (Nat.le_of_ble_eq_true rfl) (Nat.le_of_ble_eq_true rfl) dX3_init_28 (fun q_4 H hP hD hS => ?_)
  have hP : va_P D vwCl [(h0, .inr (3, [.null, .null, .null, .ref q_1, .ref q_2, .null, .int 0, .null, .int 0, .int 0, .int 0, .int 0, .int 0, .int 0, .long 0, .null, .long 0, .null, .null])), (q_1, .inr (7, [.ref qa, .int 0, .int 0])), (q_2, .inl (cA_3, 128, .inr (.inr (.inr (.inr (fun _ => none)))))), (q_4, .inl (cI, 8, .inl (fun _ => 0)))] H := hP
  have hD : va_D A [(h0, .inr (3, [.null, .null, .null, .ref q_1, .ref q_2, .null, .int 0, .null, .int 0, .int 0, .int 0, .int 0, .int 0, .int 0, .long 0, .null, .long 0, .null, .null])), (q_1, .inr (7, [.ref qa, .int 0, .int 0])), (q_2, .inl (cA_3, 128, .inr (.inr (.inr (.inr (fun _ => none)))))), (q_4, .inl (cI, 8, .inl (fun _ => 0)))] := hD
  refine va_putF (D := D) (ci := 3) (v := .ref q_4) (ty := tyX3 5) (C := RX3) (T := TX3) (N := 19) hx hb hts hi3 tyX3 tyX3_ok nmX3 hown hK hP hD hS 0 rfl rfl 5 (by decide) (hts (.fieldLink RX3 24 "EventloopRow$Loop" "lengths" "[I") (by decide +kernel)) (fun _ h9 => h9) rfl hnm rfl (tyX3_ok 5 (by decide)) rfl rfl (Nat.le_of_ble_eq_true rfl) dX3_init_30 (fun H locs hP hD hS => ?_)
  have hP : va_P D vwCl [(h0, .inr (3, [.null, .null, .null, .ref q_1, .ref q_2, .ref q_4, .int 0, .null, .int 0, .int 0, .int 0, .int 0, .int 0, .int 0, .long 0, .null, .long 0, .null, .null])), (q_1, .inr (7, [.ref qa, .int 0, .int 0])), (q_2, .inl (cA_3, 128, .inr (.inr (.inr (.inr (fun _ => none)))))), (q_4, .inl (cI, 8, .inl (fun _ => 0)))] H := hP
  have hD : va_D A [(h0, .inr (3, [.null, .null, .null, .ref q_1, .ref q_2, .ref q_4, .int 0, .null, .int 0, .int 0, .int 0, .int 0, .int 0, .int 0, .long 0, .null, .long 0, .null, .null])), (q_1, .inr (7, [.ref qa, .int 0, .int 0])), (q_2, .inl (cA_3, 128, .inr (.inr (.inr (.inr (fun _ => none)))))), (q_4, .inl (cI, 8, .inl (fun _ => 0)))] := hD
  refine lv_aload_n hx hb dX3_init_33 rfl (lv_at hl 0 rfl) ?_
  refine lv_bipush (v := 30) hx hb dX3_init_34 (by decide) ?_
  refine ev_newi (N := 30) hx hb (hts (.arrayClass .int) (by decide +kernel)) hK hP hD hS hA (by decide) (by decide) (by decide) (Nat.le_of_ble_eq_true rfl) (Nat.le_of_ble_eq_true rfl) dX3_init_36 (fun q_5 H hP hD hS => ?_)
  have hP : va_P D vwCl [(h0, .inr (3, [.null, .null, .null, .ref q_1, .ref q_2, .ref q_4, .int 0, .null, .int 0, .int 0, .int 0, .int 0, .int 0, .int 0, .long 0, .null, .long 0, .null, .null])), (q_1, .inr (7, [.ref qa, .int 0, .int 0])), (q_2, .inl (cA_3, 128, .inr (.inr (.inr (.inr (fun _ => none)))))), (q_4, .inl (cI, 8, .inl (fun _ => 0))), (q_5, .inl (cI, 30, .inl (fun _ => 0)))] H := hP
  have hD : va_D A [(h0, .inr (3, [.null, .null, .null, .ref q_1, .ref q_2, .ref q_4, .int 0, .null, .int 0, .int 0, .int 0, .int 0, .int 0, .int 0, .long 0, .null, .long 0, .null, .null])), (q_1, .inr (7, [.ref qa, .int 0, .int 0])), (q_2, .inl (cA_3, 128, .inr (.inr (.inr (.inr (fun _ => none)))))), (q_4, .inl (cI, 8, .inl (fun _ => 0))), (q_5, .inl (cI, 30, .inl (fun _ => 0)))] := hD
  refine va_putF (D := D) (ci := 3) (v := .ref q_5) (ty := tyX3 7) (C := RX3) (T := TX3) (N := 19) hx hb hts hi3 tyX3 tyX3_ok nmX3 hown hK hP hD hS 0 rfl rfl 7 (by decide) (hts (.fieldLink RX3 28 "EventloopRow$Loop" "tasks" "[I") (by decide +kernel)) (fun _ h9 => h9) rfl hnm rfl (tyX3_ok 7 (by decide)) rfl rfl (Nat.le_of_ble_eq_true rfl) dX3_init_38 (fun H locs hP hD hS => ?_)
  have hP : va_P D vwCl [(h0, .inr (3, [.null, .null, .null, .ref q_1, .ref q_2, .ref q_4, .int 0, .ref q_5, .int 0, .int 0, .int 0, .int 0, .int 0, .int 0, .long 0, .null, .long 0, .null, .null])), (q_1, .inr (7, [.ref qa, .int 0, .int 0])), (q_2, .inl (cA_3, 128, .inr (.inr (.inr (.inr (fun _ => none)))))), (q_4, .inl (cI, 8, .inl (fun _ => 0))), (q_5, .inl (cI, 30, .inl (fun _ => 0)))] H := hP
  have hD : va_D A [(h0, .inr (3, [.null, .null, .null, .ref q_1, .ref q_2, .ref q_4, .int 0, .ref q_5, .int 0, .int 0, .int 0, .int 0, .int 0, .int 0, .long 0, .null, .long 0, .null, .null])), (q_1, .inr (7, [.ref qa, .int 0, .int 0])), (q_2, .inl (cA_3, 128, .inr (.inr (.inr (.inr (fun _ => none)))))), (q_4, .inl (cI, 8, .inl (fun _ => 0))), (q_5, .inl (cI, 30, .inl (fun _ => 0)))] := hD
  refine lv_aload_n hx hb dX3_init_41 rfl (lv_at hl 0 rfl) ?_
  refine lv_sipush (v := 400) hx hb dX3_init_42 (by decide) ?_
  refine ev_newi (N := 400) hx hb (hts (.arrayClass .int) (by decide +kernel)) hK hP hD hS hA (by decide) (by decide) (by decide) (Nat.le_of_ble_eq_true rfl) (Nat.le_of_ble_eq_true rfl) dX3_init_45 (fun q_6 H hP hD hS => ?_)
  have hP : va_P D vwCl [(h0, .inr (3, [.null, .null, .null, .ref q_1, .ref q_2, .ref q_4, .int 0, .ref q_5, .int 0, .int 0, .int 0, .int 0, .int 0, .int 0, .long 0, .null, .long 0, .null, .null])), (q_1, .inr (7, [.ref qa, .int 0, .int 0])), (q_2, .inl (cA_3, 128, .inr (.inr (.inr (.inr (fun _ => none)))))), (q_4, .inl (cI, 8, .inl (fun _ => 0))), (q_5, .inl (cI, 30, .inl (fun _ => 0))), (q_6, .inl (cI, 400, .inl (fun _ => 0)))] H := hP
  have hD : va_D A [(h0, .inr (3, [.null, .null, .null, .ref q_1, .ref q_2, .ref q_4, .int 0, .ref q_5, .int 0, .int 0, .int 0, .int 0, .int 0, .int 0, .long 0, .null, .long 0, .null, .null])), (q_1, .inr (7, [.ref qa, .int 0, .int 0])), (q_2, .inl (cA_3, 128, .inr (.inr (.inr (.inr (fun _ => none)))))), (q_4, .inl (cI, 8, .inl (fun _ => 0))), (q_5, .inl (cI, 30, .inl (fun _ => 0))), (q_6, .inl (cI, 400, .inl (fun _ => 0)))] := hD
  refine va_putF (D := D) (ci := 3) (v := .ref q_6) (ty := tyX3 15) (C := RX3) (T := TX3) (N := 19) hx hb hts hi3 tyX3 tyX3_ok nmX3 hown hK hP hD hS 0 rfl rfl 15 (by decide) (hts (.fieldLink RX3 31 "EventloopRow$Loop" "traceRow" "[I") (by decide +kernel)) (fun _ h9 => h9) rfl hnm rfl (tyX3_ok 15 (by decide)) rfl rfl (Nat.le_of_ble_eq_true rfl) dX3_init_47 (fun H locs hP hD hS => ?_)
  have hP : va_P D vwCl [(h0, .inr (3, [.null, .null, .null, .ref q_1, .ref q_2, .ref q_4, .int 0, .ref q_5, .int 0, .int 0, .int 0, .int 0, .int 0, .int 0, .long 0, .ref q_6, .long 0, .null, .null])), (q_1, .inr (7, [.ref qa, .int 0, .int 0])), (q_2, .inl (cA_3, 128, .inr (.inr (.inr (.inr (fun _ => none)))))), (q_4, .inl (cI, 8, .inl (fun _ => 0))), (q_5, .inl (cI, 30, .inl (fun _ => 0))), (q_6, .inl (cI, 400, .inl (fun _ => 0)))] H := hP
  have hD : va_D A [(h0, .inr (3, [.null, .null, .null, .ref q_1, .ref q_2, .ref q_4, .int 0, .ref q_5, .int 0, .int 0, .int 0, .int 0, .int 0, .int 0, .long 0, .ref q_6, .long 0, .null, .null])), (q_1, .inr (7, [.ref qa, .int 0, .int 0])), (q_2, .inl (cA_3, 128, .inr (.inr (.inr (.inr (fun _ => none)))))), (q_4, .inl (cI, 8, .inl (fun _ => 0))), (q_5, .inl (cI, 30, .inl (fun _ => 0))), (q_6, .inl (cI, 400, .inl (fun _ => 0)))] := hD
  refine lv_aload_n hx hb dX3_init_50 rfl (lv_at hl 0 rfl) ?_
  refine lv_aload_n hx hb dX3_init_51 rfl (lv_at hl 1 rfl) ?_
  refine va_putF (D := D) (ci := 3) (v := .ref p0) (ty := tyX3 0) (C := RX3) (T := TX3) (N := 19) hx hb hts hi3 tyX3 tyX3_ok nmX3 hown hK hP hD hS 0 rfl rfl 0 (by decide) (hts (.fieldLink RX3 34 "EventloopRow$Loop" "things" "LEventloopRow$Things;") (by decide +kernel)) (fun _ h9 => h9) rfl hnm rfl (tyX3_ok 0 (by decide)) rfl rfl (Nat.le_of_ble_eq_true rfl) dX3_init_52 (fun H locs hP hD hS => ?_)
  have hP : va_P D vwCl [(h0, .inr (3, [.ref p0, .null, .null, .ref q_1, .ref q_2, .ref q_4, .int 0, .ref q_5, .int 0, .int 0, .int 0, .int 0, .int 0, .int 0, .long 0, .ref q_6, .long 0, .null, .null])), (q_1, .inr (7, [.ref qa, .int 0, .int 0])), (q_2, .inl (cA_3, 128, .inr (.inr (.inr (.inr (fun _ => none)))))), (q_4, .inl (cI, 8, .inl (fun _ => 0))), (q_5, .inl (cI, 30, .inl (fun _ => 0))), (q_6, .inl (cI, 400, .inl (fun _ => 0)))] H := hP
  have hD : va_D A [(h0, .inr (3, [.ref p0, .null, .null, .ref q_1, .ref q_2, .ref q_4, .int 0, .ref q_5, .int 0, .int 0, .int 0, .int 0, .int 0, .int 0, .long 0, .ref q_6, .long 0, .null, .null])), (q_1, .inr (7, [.ref qa, .int 0, .int 0])), (q_2, .inl (cA_3, 128, .inr (.inr (.inr (.inr (fun _ => none)))))), (q_4, .inl (cI, 8, .inl (fun _ => 0))), (q_5, .inl (cI, 30, .inl (fun _ => 0))), (q_6, .inl (cI, 400, .inl (fun _ => 0)))] := hD
  refine lv_aload_n hx hb dX3_init_55 rfl (lv_at hl 0 rfl) ?_
  refine lv_aload_n hx hb dX3_init_56 rfl (lv_at hl 2 rfl) ?_
  refine va_putF (D := D) (ci := 3) (v := .ref p1) (ty := tyX3 1) (C := RX3) (T := TX3) (N := 19) hx hb hts hi3 tyX3 tyX3_ok nmX3 hown hK hP hD hS 0 rfl rfl 1 (by decide) (hts (.fieldLink RX3 38 "EventloopRow$Loop" "jobRow" "LEventloopRow$JobRow;") (by decide +kernel)) (fun _ h9 => h9) rfl hnm rfl (tyX3_ok 1 (by decide)) rfl rfl (Nat.le_of_ble_eq_true rfl) dX3_init_57 (fun H locs hP hD hS => ?_)
  have hP : va_P D vwCl [(h0, .inr (3, [.ref p0, .ref p1, .null, .ref q_1, .ref q_2, .ref q_4, .int 0, .ref q_5, .int 0, .int 0, .int 0, .int 0, .int 0, .int 0, .long 0, .ref q_6, .long 0, .null, .null])), (q_1, .inr (7, [.ref qa, .int 0, .int 0])), (q_2, .inl (cA_3, 128, .inr (.inr (.inr (.inr (fun _ => none)))))), (q_4, .inl (cI, 8, .inl (fun _ => 0))), (q_5, .inl (cI, 30, .inl (fun _ => 0))), (q_6, .inl (cI, 400, .inl (fun _ => 0)))] H := hP
  have hD : va_D A [(h0, .inr (3, [.ref p0, .ref p1, .null, .ref q_1, .ref q_2, .ref q_4, .int 0, .ref q_5, .int 0, .int 0, .int 0, .int 0, .int 0, .int 0, .long 0, .ref q_6, .long 0, .null, .null])), (q_1, .inr (7, [.ref qa, .int 0, .int 0])), (q_2, .inl (cA_3, 128, .inr (.inr (.inr (.inr (fun _ => none)))))), (q_4, .inl (cI, 8, .inl (fun _ => 0))), (q_5, .inl (cI, 30, .inl (fun _ => 0))), (q_6, .inl (cI, 400, .inl (fun _ => 0)))] := hD
  refine lv_aload_n hx hb dX3_init_60 rfl (lv_at hl 0 rfl) ?_
  refine lv_aload_n hx hb dX3_init_61 rfl (lv_at hl 3 rfl) ?_
  refine va_putF (D := D) (ci := 3) (v := .ref p2) (ty := tyX3 2) (C := RX3) (T := TX3) (N := 19) hx hb hts hi3 tyX3 tyX3_ok nmX3 hown hK hP hD hS 0 rfl rfl 2 (by decide) (hts (.fieldLink RX3 42 "EventloopRow$Loop" "promiseRow" "LEventloopRow$PromiseRow;") (by decide +kernel)) (fun _ h9 => h9) rfl hnm rfl (tyX3_ok 2 (by decide)) rfl rfl (Nat.le_of_ble_eq_true rfl) dX3_init_62 (fun H locs hP hD hS => ?_)
  have hP : va_P D vwCl [(h0, .inr (3, [.ref p0, .ref p1, .ref p2, .ref q_1, .ref q_2, .ref q_4, .int 0, .ref q_5, .int 0, .int 0, .int 0, .int 0, .int 0, .int 0, .long 0, .ref q_6, .long 0, .null, .null])), (q_1, .inr (7, [.ref qa, .int 0, .int 0])), (q_2, .inl (cA_3, 128, .inr (.inr (.inr (.inr (fun _ => none)))))), (q_4, .inl (cI, 8, .inl (fun _ => 0))), (q_5, .inl (cI, 30, .inl (fun _ => 0))), (q_6, .inl (cI, 400, .inl (fun _ => 0)))] H := hP
  have hD : va_D A [(h0, .inr (3, [.ref p0, .ref p1, .ref p2, .ref q_1, .ref q_2, .ref q_4, .int 0, .ref q_5, .int 0, .int 0, .int 0, .int 0, .int 0, .int 0, .long 0, .ref q_6, .long 0, .null, .null])), (q_1, .inr (7, [.ref qa, .int 0, .int 0])), (q_2, .inl (cA_3, 128, .inr (.inr (.inr (.inr (fun _ => none)))))), (q_4, .inl (cI, 8, .inl (fun _ => 0))), (q_5, .inl (cI, 30, .inl (fun _ => 0))), (q_6, .inl (cI, 400, .inl (fun _ => 0)))] := hD
  refine W.widen (k := 6) (n := 573) (Nat.le_of_ble_eq_true rfl) (Nat.le_of_ble_eq_true rfl) ?_
  have hP9 : ∀ t : State, t.heap = H → va_P D vwCl [(h0, .inr (3, [.ref p0, .ref p1, .ref p2, .ref q_1, .ref q_2, .ref q_4, .int 0, .ref q_5, .int 0, .int 0, .int 0, .int 0, .int 0, .int 0, .long 0, .ref q_6, .long 0, .null, .null]))] t.heap := fun t ht => by rw [ht]; exact hP.sub [0] rfl
  have hD9 : va_D A [(h0, .inr (3, [.ref p0, .ref p1, .ref p2, .ref q_1, .ref q_2, .ref q_4, .int 0, .ref q_5, .int 0, .int 0, .int 0, .int 0, .int 0, .int 0, .long 0, .ref q_6, .long 0, .null, .null]))] := hD.sub [0] (by decide) rfl
  have hS9 : ∀ t : State, t.heap = H → va_F A s t := fun t ht => hS.F ht
  exact W.vret hx hb hr (fun t ht _ => ⟨rfl, ⟨q_1, q_2, q_4, q_5, q_6, hP9 t ht, hD9⟩, hS9 t ht⟩) hS.2.2 dX3_init_65
