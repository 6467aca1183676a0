/-! 09.throws: where the class's own methods throw -/
def ev_Xc : List String := ["java/lang/IndexOutOfBoundsException", "java/lang/IllegalStateException", "java/lang/IllegalArgumentException", "java/lang/UnsupportedOperationException", "java/util/NoSuchElementException"]
def ev_Xs : List (Nat × String) := [(47, "no such object"), (58, "there are 12 objects"), (80, "no such letter, or the answer is out of range"), (86, "it is no proxy"), (103, "no such object or key"), (108, "the value or the rights are out of range"), (118, "the value is out of range"), (132, "the fault T"), (159, "no such index"), (165, "no such property")]
def ev_Xn : List (String × String) := [("java/lang/IllegalStateException", "java/lang/IndexOutOfBoundsException"), ("java/lang/IllegalArgumentException", "java/lang/IndexOutOfBoundsException"), ("java/lang/UnsupportedOperationException", "java/lang/IndexOutOfBoundsException"), ("java/util/NoSuchElementException", "java/lang/IndexOutOfBoundsException"), ("java/util/NoSuchElementException", "java/lang/UnsupportedOperationException"), ("java/lang/IllegalStateException", "java/lang/IllegalArgumentException")]
def ev_Xd : List MethodName := [⟨"java/lang/RuntimeException", "<init>", "(Ljava/lang/String;)V"⟩, ⟨"java/lang/Exception", "<init>", "(Ljava/lang/String;)V"⟩, ⟨"java/lang/Throwable", "<init>", "(Ljava/lang/String;)V"⟩]
/-- what a throw needs of the state: Throwable's statics, its classes, the texts -/
def ev_Ex (A : Nat → Prop) (U : State) (H : Heap) : Prop := vx_Zq Bundle.tN "UNASSIGNED_STACK" Bundle.steD A U H ∧ vx_Zq Bundle.tN "SUPPRESSED_SENTINEL" Bundle.listD A U H ∧ (∀ X ∈ ev_Xc, va_Nw (.castable X X) U) ∧ (∀ q ∈ ev_Xs, ∃ a : Nat, vk_R RX11 q.1 q.2 a U) ∧ (∀ q ∈ ev_Xn, va_Nc q.1 q.2 U) ∧ ∀ y ∈ ev_Xd, va_Nw (.declares y) U
theorem ev_Ex.warm {A : Nat → Prop} {s U : State} {H : Heap} (hW : s.WarmedH U.vm) (h : ev_Ex A s H) : ev_Ex A U H :=
  ⟨vx_Zq.moved hW.alike h.1, vx_Zq.moved hW.alike h.2.1, fun X hX => va_Nw.warmC hW (h.2.2.1 X hX), fun q hq => (h.2.2.2.1 q hq).imp fun _ hv => vk_R.warm hW hv, fun q hq => va_Nc.moved hW.alike (h.2.2.2.2.1 q hq), fun y hy => va_Nw.warmD hW (h.2.2.2.2.2 y hy)⟩
theorem ev_Ex.same {A : Nat → Prop} {u U : State} {H : Heap} (hv : U.vm = u.vm) (h : ev_Ex A u H) : ev_Ex A U H :=
  ⟨vx_Zq.moved (by rw [hv]; exact Vm.Alike.refl _) h.1, vx_Zq.moved (by rw [hv]; exact Vm.Alike.refl _) h.2.1, fun X hX => va_Nw.same rfl hv.symm (h.2.2.1 X hX), fun q hq => (h.2.2.2.1 q hq).imp fun _ hz => vk_R.same hv hz, fun q hq => va_Nc.moved (by rw [hv]; exact Vm.Alike.refl _) (h.2.2.2.2.1 q hq), fun y hy => va_Nw.same rfl hv.symm (h.2.2.2.2.2 y hy)⟩
theorem ev_Ex.kept {A : Nat → Prop} {U : State} {H H1 : Heap} (hq : ∀ a : Nat, a < H.size → ¬ A a → H1[a]? = H[a]?) (h : ev_Ex A U H) : ev_Ex A U H1 := ⟨vx_Zq.kept h.1 hq, vx_Zq.kept h.2.1 hq, h.2.2⟩
def ev_PcX (D : va_G) (cI cO : ClassId) (A : Nat → Prop) (Hp : Heap → Prop) (av : List Value) : Array Value → State → Prop := fun v U => v = av.toArray ∧ Hp U.heap ∧ va_K D vwCl (ev_ty cI cO) U ∧ ev_Ex A U U.heap
theorem ev_blindX {D : va_G} {cI cO : ClassId} {A : Nat → Prop} {Hp : Heap → Prop} {av : List Value} : FrameBlind (ev_PcX D cI cO A Hp av) := fun a U g mk q => ⟨q.1, q.2.1, va_K.moved (u := U) (U := U.calling g mk a) (Vm.Alike.refl U.vm) q.2.2.1, ev_Ex.same (u := U) (U := U.calling g mk a) rfl q.2.2.2⟩
def ev_nq : Array Value → State → Outcome → State → Prop := fun _ _ _ _ => False
def ev_XC (X : String) : String → State → State → Prop := fun E st t => E = X ∧ va_F ev_no st t
theorem ev_bodyX {l : Launch} {D : va_G} {cI cO : ClassId} {A : Nat → Prop} {y : MethodName} {ws ws' : List Cond} {rm : Room} {Hp : Heap → Prop} {av : List Value} {XC : String → State → State → Prop} {mc ms : Nat} {free : Addr → Prop} {cc : ByteArray} {maxL : Nat} {ret : Option FieldType}
    (hy : plainName y.cls = true) (hw : ws = Cond.code y cc maxL ret :: ws') (hlen : (lg_sl av).length ≤ maxL)
    (body : ∀ (p : Program) (e : Env) (s : State) (m : MethodId) (args : Array Value) (below : List Frame) (meth : Method) (c : Code), p.tables.exec = Jvm.exec → c.code = cc → meth.sig.returnType = ret → c.maxLocals = maxL → s.vm.findClass y.cls = some m.cls → (∀ w ∈ ws, w.before args s = true) → meth.locks = false → meth.name = y.name → Hp s.heap → va_K D vwCl (ev_ty cI cO) s → ev_Ex A s s.heap → (∀ x ∈ c.exceptionTable.toList, False) → ∀ ls : Array Slot, lv_has ls maxL (lv_args 0 av) →
      W p l e rm s m args below meth c s.heap [] 0 0 (vx_MQ below ev_nq XC args s mc ms free) (F0 m 0 ls [])) : vx_Met l y ws rm (ev_PcX D cI cO A Hp av) ev_nq XC mc ms free := by
  refine vx_ofW (cc := cc) (maxL := maxL) (ret := ret) hy hw ?_
  intro p e s m args below meth c s₁ B hml hno hv
  obtain ⟨rfl, hH, hK, hE⟩ := hv
  rw [lg_entry_eq]
  exact body p e s m _ below meth c B.exec B.bytes B.returns hml (findClass_of_methodNamed B.named) (atoms_spec (ws := ws) B.pre) B.notSynchronized (name_of_methodNamed B.named B.method).1 hH hK hE hno _ (lv_entry av (n := maxL) hlen)
section EVX
variable {p : Program} {l : Launch} {e : Env} {R : Room} {s : State} {m : MethodId} {args : Array Value} {below : List Frame} {meth : Method} {c : Code} {H : Heap} {locs : List Loc} {cells slots : Nat} {Q : State → Prop}
variable {cc : ByteArray} {pc : Nat} {ls : Array Slot} {rest : List Value} {D : va_G} {cI cO : ClassId} {b : Nat → Nat} {ad : Nat → Nat → Nat} {st : ev_ST} {A : Nat → Prop} {H0 : Heap} {Ts : List Cond} {own : String}
/-- a call of an object's method that throws -/
theorem ev_tv {y : MethodName} {bytes : ByteArray} {maxL nL n index mc ms : Nat} {ret : Option FieldType} {ws : List Cond} {rm : Room} {Hp : Heap → Prop} {X C : String} {a : Nat} {As : List Value} (S : CallFix p m c cc nL s args Ts own)
    (hM : vx_Met l y ws rm (ev_PcX D cI cO A Hp (.ref a :: As)) ev_nq (ev_XC X) mc ms ev_no) (cw : CallW R s args own C index y bytes maxL ret ws rm mc ms n) (hH : Hp H) (hK : va_K D vwCl (ev_ty cI cO) s) (hE : ev_Ex A s H)
    (hr : ∃ cellB : Cell, H[a]? = some cellB ∧ cellB.vm.isStatics = false ∧ s.vm.findClass C = some cellB.cls) (hn : As.length = n) (hsize : ls.size = nL) (hW : (rest.map fun v => v.category).sum ≤ 8) (hdg : decode cc pc = .ok (.invokevirtual index, 3)) (hf : cells + mc ≤ R.cells ∧ slots + ms ≤ R.slots)
    (kx : ∀ (H1 : Heap) (q : Addr) (ce : Cell), H.size ≤ H1.size → (∀ z : Nat, z < H.size → H1[z]? = H[z]?) → H1[q]? = some ce → ce.vm = .none → s.vm.findClass X = some ce.cls → vx_W p l e R s m args below meth c H1 locs (cells + mc) (slots + ms) Q (F0 m pc ls rest) q) : W p l e R s m args below meth c H locs cells slots Q (F0 m pc ls (As.reverse ++ .ref a :: rest)) := by
  have hr' := vx_runV (e := e) (below := below) (meth := meth) (g := F0 m pc ls (As.reverse ++ .ref a :: rest)) (locs := locs) (rest := rest) S hM cw ⟨ev_blindX, hr, fun U hU hW => ⟨rfl, by rw [hU]; exact hH, va_K.moved hW.alike hK, by rw [hU]; exact ev_Ex.warm hW hE⟩⟩ rfl hn hsize rfl (lv_room hW) hdg hf
  intro T hT X0
  rcases hr' T hT X0 with ⟨v, st₀, t, T', L, h0, X', hL, e1, e2, hq, st⟩ | ⟨q, st₀, t, T', L, E, ce, h0, X', hL, e1, e2, hx, hce, hcv, hcl, st⟩
  · exact hq.elim
  · obtain ⟨rfl, hz, hk⟩ := hx
    rw [h0] at hz hk
    obtain ⟨t2, a1, b1⟩ := kx T'.heap q ce (by rw [e1]; exact hz) (fun z h => by rw [e1]; exact hk z h (fun f => f)) (by rw [e1]; exact hce) hcv hcl T' rfl (Stand.forget X' (fun q h => (hL q h).elim))
    exact ⟨t2, st.trans a1, b1⟩
end EVX
set_option maxHeartbeats 4000000 in
set_option maxRecDepth 100000 in
theorem x_addObject (l : Launch) (hfl : l.stackTraces = false) {D : va_G} {cI cO : ClassId} {b : Nat → Nat} {ad : Nat → Nat → Nat} {st : ev_ST} {A : Nat → Prop} (hn : st.1 ≤ 12) (hbad : st.1 ≤ 7) : vx_Met l yX11_addObject wsX11_addObject ({ frames := 6, cells := 1, slots := 6, locals := 82 }) (ev_PcX D cI cO A (ev_P D cI cO b ad st) [.ref (b 0), .int (nI 7)]) ev_nq (ev_XC "java/lang/IndexOutOfBoundsException") 1 6 ev_no := by
  refine ev_bodyX (cc := cX11_addObject) (maxL := 2) (ret := (some .int)) (by decide) rfl (Nat.le_of_ble_eq_true rfl) ?_
  intro p e s m args below meth c hx hb hr hml hown hts hlocks hnm hP hK hE hno ls hl
  have hl : lv_has ls 2 [(0, .ref (b 0)), (1, .int (nI 7))] := hl
  have hi11 : ∀ w ∈ wsX110, w ∈ wsX11_addObject := by decide +kernel
  refine lv_iload_n hx hb dX11_addObject_0 rfl (lv_at hl 1 rfl) ?_
  refine lv_iconst (v := -1) hx hb dX11_addObject_1 (by decide) ?_
  refine lv_icmp_eq (tgt := 26) hx hb dX11_addObject_2 (by decide) (fun h => absurd h (by decide)) (fun _ => ?_)
  refine lv_aload_n hx hb dX11_addObject_5 rfl (lv_at hl 0 rfl) ?_
  refine ev_fac (v := .ref (b 1)) hx hb hts hi11 hown hK hP 0 (by decide) (hts (.fieldLink RX11 10 "EventloopRow" "things" "LEventloopRow$Things;") (by decide +kernel)) rfl dX11_addObject_6 ?_
  refine lv_iload_n hx hb dX11_addObject_9 rfl (lv_at hl 1 rfl) ?_
  refine ev_cv (As := [.int (nI 7)]) (rest := []) ⟨hx, hb, hml, hown, hts⟩ (c_X8_find_x l hn (j := 7) hbad (by decide)) (cwV 1 hts gX11_addObject_X8_find rfl rfl rfl (by decide +kernel) ⟨Nat.le_of_ble_eq_true rfl, Nat.le_of_ble_eq_true rfl⟩) hP hK (ev_recvT hK hP) rfl hl.1 (Nat.le_of_ble_eq_true rfl) dX11_addObject_10 ⟨Nat.le_of_ble_eq_true rfl, Nat.le_of_ble_eq_true rfl⟩ ?_
  refine lv_ifnonnullN hx hb dX11_addObject_13 ?_
  obtain ⟨sa, hsa⟩ := hE.2.2.2.1 (47, "no such object") (by decide)
  have hm9 : ∀ w ∈ (vx_atS RX11 49 "java/lang/IndexOutOfBoundsException" ["java/lang/RuntimeException", "java/lang/Exception"]).filter goodWord, w ∈ wsX11_addObject := by intro w h; simp only [wsX11_addObject, List.mem_cons, List.mem_append, h, or_true, true_or]
  exact vx_throwS (cls := "java/lang/IndexOutOfBoundsException") (text := "no such object") (names := ["java/lang/RuntimeException", "java/lang/Exception"]) (sa := sa) (A := A) hx hb hfl hown (by decide +kernel) (by decide +kernel) (hts (.classLink RX11 45 "java/lang/IndexOutOfBoundsException") (by decide +kernel)) (hts (.initialized "java/lang/IndexOutOfBoundsException") (by decide +kernel)) hsa (vx_hat (B := [.castable "java/lang/IndexOutOfBoundsException" "java/lang/IndexOutOfBoundsException", .declares ⟨"java/lang/RuntimeException", "<init>", "(Ljava/lang/String;)V"⟩, .declares ⟨"java/lang/Exception", "<init>", "(Ljava/lang/String;)V"⟩, .declares ⟨"java/lang/Throwable", "<init>", "(Ljava/lang/String;)V"⟩]) (fun w h => hts w (hm9 w h)) (by decide +kernel) (vx_c (va_Nw.use rfl (hE.2.2.1 "java/lang/IndexOutOfBoundsException" (by decide))) (vx_c (va_Nw.use rfl (hE.2.2.2.2.2 _ (by decide))) (vx_c (va_Nw.use rfl (hE.2.2.2.2.2 _ (by decide))) (vx_c (va_Nw.use rfl (hE.2.2.2.2.2 _ (by decide))) vx_n))))) (by decide +kernel) hE.1 hE.2.1 va_S.rf (by rw [hml]; exact hl.1) dX11_addObject_16 dX11_addObject_19 dX11_addObject_20 dX11_addObject_22 dX11_addObject_25 (fun x h => (hno x h).elim) (Nat.le_of_ble_eq_true rfl) (Nat.le_of_ble_eq_true rfl) (Nat.le_of_ble_eq_true rfl) (Nat.le_of_ble_eq_true rfl) hlocks (fun t _ hz hk => ⟨rfl, hz, fun q h _ => hk q h⟩) (fun z h => by cases h) (Nat.le_of_ble_eq_true rfl) (Nat.le_of_ble_eq_true rfl)
set_option maxHeartbeats 4000000 in
set_option maxRecDepth 100000 in
theorem x_addProxy (l : Launch) (hfl : l.stackTraces = false) {D : va_G} {cI cO : ClassId} {b : Nat → Nat} {ad : Nat → Nat → Nat} {st : ev_ST} {A : Nat → Prop} (hn : st.1 ≤ 12) : vx_Met l yX11_addProxy wsX11_addProxy ({ frames := 6, cells := 1, slots := 6, locals := 82 }) (ev_PcX D cI cO A (ev_P D cI cO b ad st) [.ref (b 0), .int (-1)]) ev_nq (ev_XC "java/lang/IndexOutOfBoundsException") 1 6 ev_no := by
  refine ev_bodyX (cc := cX11_addProxy) (maxL := 3) (ret := (some .int)) (by decide) rfl (Nat.le_of_ble_eq_true rfl) ?_
  intro p e s m args below meth c hx hb hr hml hown hts hlocks hnm hP hK hE hno ls hl
  have hl : lv_has ls 3 [(0, .ref (b 0)), (1, .int (-1))] := hl
  have hi11 : ∀ w ∈ wsX110, w ∈ wsX11_addProxy := by decide +kernel
  refine lv_aload_n hx hb dX11_addProxy_0 rfl (lv_at hl 0 rfl) ?_
  refine ev_fac (v := .ref (b 1)) hx hb hts hi11 hown hK hP 0 (by decide) (hts (.fieldLink RX11 10 "EventloopRow" "things" "LEventloopRow$Things;") (by decide +kernel)) rfl dX11_addProxy_1 ?_
  refine lv_iload_n hx hb dX11_addProxy_4 rfl (lv_at hl 1 rfl) ?_
  refine ev_cv (As := [.int (-1)]) (rest := []) ⟨hx, hb, hml, hown, hts⟩ (c_X8_find_n l) (cwV 1 hts gX11_addProxy_X8_find rfl rfl rfl (by decide +kernel) ⟨Nat.le_of_ble_eq_true rfl, Nat.le_of_ble_eq_true rfl⟩) hP hK (ev_recvT hK hP) rfl hl.1 (Nat.le_of_ble_eq_true rfl) dX11_addProxy_5 ⟨Nat.le_of_ble_eq_true rfl, Nat.le_of_ble_eq_true rfl⟩ ?_
  refine lv_astore_nN (lv' := [(2, .null), (0, .ref (b 0)), (1, .int (-1))]) hx hb dX11_addProxy_8 rfl hl (by decide) rfl (fun ls hl => ?_)
  refine lv_aload_nN hx hb dX11_addProxy_9 rfl (lv_at hl 0 rfl) ?_
  refine lv_ifnonnullN hx hb dX11_addProxy_10 ?_
  obtain ⟨sa, hsa⟩ := hE.2.2.2.1 (47, "no such object") (by decide)
  have hm9 : ∀ w ∈ (vx_atS RX11 49 "java/lang/IndexOutOfBoundsException" ["java/lang/RuntimeException", "java/lang/Exception"]).filter goodWord, w ∈ wsX11_addProxy := by intro w h; simp only [wsX11_addProxy, List.mem_cons, List.mem_append, h, or_true, true_or]
  exact vx_throwS (cls := "java/lang/IndexOutOfBoundsException") (text := "no such object") (names := ["java/lang/RuntimeException", "java/lang/Exception"]) (sa := sa) (A := A) hx hb hfl hown (by decide +kernel) (by decide +kernel) (hts (.classLink RX11 45 "java/lang/IndexOutOfBoundsException") (by decide +kernel)) (hts (.initialized "java/lang/IndexOutOfBoundsException") (by decide +kernel)) hsa (vx_hat (B := [.castable "java/lang/IndexOutOfBoundsException" "java/lang/IndexOutOfBoundsException", .declares ⟨"java/lang/RuntimeException", "<init>", "(Ljava/lang/String;)V"⟩, .declares ⟨"java/lang/Exception", "<init>", "(Ljava/lang/String;)V"⟩, .declares ⟨"java/lang/Throwable", "<init>", "(Ljava/lang/String;)V"⟩]) (fun w h => hts w (hm9 w h)) (by decide +kernel) (vx_c (va_Nw.use rfl (hE.2.2.1 "java/lang/IndexOutOfBoundsException" (by decide))) (vx_c (va_Nw.use rfl (hE.2.2.2.2.2 _ (by decide))) (vx_c (va_Nw.use rfl (hE.2.2.2.2.2 _ (by decide))) (vx_c (va_Nw.use rfl (hE.2.2.2.2.2 _ (by decide))) vx_n))))) (by decide +kernel) hE.1 hE.2.1 va_S.rf (by rw [hml]; exact hl.1) dX11_addProxy_13 dX11_addProxy_16 dX11_addProxy_17 dX11_addProxy_19 dX11_addProxy_22 (fun x h => (hno x h).elim) (Nat.le_of_ble_eq_true rfl) (Nat.le_of_ble_eq_true rfl) (Nat.le_of_ble_eq_true rfl) (Nat.le_of_ble_eq_true rfl) hlocks (fun t _ hz hk => ⟨rfl, hz, fun q h _ => hk q h⟩) (fun z h => by cases h) (Nat.le_of_ble_eq_true rfl) (Nat.le_of_ble_eq_true rfl)
set_option maxHeartbeats 4000000 in
set_option maxRecDepth 100000 in
theorem x_get_io (l : Launch) (hfl : l.stackTraces = false) {D : va_G} {cI cO : ClassId} {b : Nat → Nat} {ad : Nat → Nat → Nat} {st : ev_ST} {A : Nat → Prop} (hn : st.1 ≤ 12) (hbad : st.1 ≤ 7) {k : Nat} : vx_Met l yX11_get wsX11_get ({ frames := 6, cells := 1, slots := 6, locals := 82 }) (ev_PcX D cI cO A (ev_P D cI cO b ad st) [.ref (b 0), .int (nI 7), .int (nI k)]) ev_nq (ev_XC "java/lang/IndexOutOfBoundsException") 1 6 ev_no := by
  refine ev_bodyX (cc := cX11_get) (maxL := 6) (ret := (some .int)) (by decide) rfl (Nat.le_of_ble_eq_true rfl) ?_
  intro p e s m args below meth c hx hb hr hml hown hts hlocks hnm hP hK hE hno ls hl
  have hl : lv_has ls 6 [(0, .ref (b 0)), (1, .int (nI 7)), (2, .int (nI k))] := hl
  have hi11 : ∀ w ∈ wsX110, w ∈ wsX11_get := by decide +kernel
  refine lv_aload_n hx hb dX11_get_0 rfl (lv_at hl 0 rfl) ?_
  refine ev_fac (v := .ref (b 1)) hx hb hts hi11 hown hK hP 0 (by decide) (hts (.fieldLink RX11 10 "EventloopRow" "things" "LEventloopRow$Things;") (by decide +kernel)) rfl dX11_get_1 ?_
  refine lv_iload_n hx hb dX11_get_4 rfl (lv_at hl 1 rfl) ?_
  refine ev_cv (As := [.int (nI 7)]) (rest := []) ⟨hx, hb, hml, hown, hts⟩ (c_X8_find_x l hn (j := 7) hbad (by decide)) (cwV 1 hts gX11_get_X8_find rfl rfl rfl (by decide +kernel) ⟨Nat.le_of_ble_eq_true rfl, Nat.le_of_ble_eq_true rfl⟩) hP hK (ev_recvT hK hP) rfl hl.1 (Nat.le_of_ble_eq_true rfl) dX11_get_5 ⟨Nat.le_of_ble_eq_true rfl, Nat.le_of_ble_eq_true rfl⟩ ?_
  refine lv_astore_nN (lv' := [(3, .null), (0, .ref (b 0)), (1, .int (nI 7)), (2, .int (nI k))]) hx hb dX11_get_8 rfl hl (by decide) rfl (fun ls hl => ?_)
  refine lv_aload_nN hx hb dX11_get_9 rfl (lv_at hl 0 rfl) ?_
  refine lv_ifnullN (tgt := 20) hx hb dX11_get_10 (by decide) ?_
  obtain ⟨sa, hsa⟩ := hE.2.2.2.1 (103, "no such object or key") (by decide)
  have hm9 : ∀ w ∈ (vx_atS RX11 49 "java/lang/IndexOutOfBoundsException" ["java/lang/RuntimeException", "java/lang/Exception"]).filter goodWord, w ∈ wsX11_get := by intro w h; simp only [wsX11_get, List.mem_cons, List.mem_append, h, or_true, true_or]
  exact vx_throwS (cls := "java/lang/IndexOutOfBoundsException") (text := "no such object or key") (names := ["java/lang/RuntimeException", "java/lang/Exception"]) (sa := sa) (A := A) hx hb hfl hown (by decide +kernel) (by decide +kernel) (hts (.classLink RX11 45 "java/lang/IndexOutOfBoundsException") (by decide +kernel)) (hts (.initialized "java/lang/IndexOutOfBoundsException") (by decide +kernel)) hsa (vx_hat (B := [.castable "java/lang/IndexOutOfBoundsException" "java/lang/IndexOutOfBoundsException", .declares ⟨"java/lang/RuntimeException", "<init>", "(Ljava/lang/String;)V"⟩, .declares ⟨"java/lang/Exception", "<init>", "(Ljava/lang/String;)V"⟩, .declares ⟨"java/lang/Throwable", "<init>", "(Ljava/lang/String;)V"⟩]) (fun w h => hts w (hm9 w h)) (by decide +kernel) (vx_c (va_Nw.use rfl (hE.2.2.1 "java/lang/IndexOutOfBoundsException" (by decide))) (vx_c (va_Nw.use rfl (hE.2.2.2.2.2 _ (by decide))) (vx_c (va_Nw.use rfl (hE.2.2.2.2.2 _ (by decide))) (vx_c (va_Nw.use rfl (hE.2.2.2.2.2 _ (by decide))) vx_n))))) (by decide +kernel) hE.1 hE.2.1 va_S.rf (by rw [hml]; exact hl.1) dX11_get_20 dX11_get_23 dX11_get_24 dX11_get_26 dX11_get_29 (fun x h => (hno x h).elim) (Nat.le_of_ble_eq_true rfl) (Nat.le_of_ble_eq_true rfl) (Nat.le_of_ble_eq_true rfl) (Nat.le_of_ble_eq_true rfl) hlocks (fun t _ hz hk => ⟨rfl, hz, fun q h _ => hk q h⟩) (fun z h => by cases h) (Nat.le_of_ble_eq_true rfl) (Nat.le_of_ble_eq_true rfl)
set_option maxHeartbeats 4000000 in
set_option maxRecDepth 100000 in
theorem x_has_io (l : Launch) (hfl : l.stackTraces = false) {D : va_G} {cI cO : ClassId} {b : Nat → Nat} {ad : Nat → Nat → Nat} {st : ev_ST} {A : Nat → Prop} (hn : st.1 ≤ 12) (hTG : ∀ i, i < st.1 → ∀ j, ev_tg (st.2 i) = some j → j < st.1) {o : Nat} (ho : o < st.1) : vx_Met l yX11_has wsX11_has ({ frames := 6, cells := 1, slots := 6, locals := 82 }) (ev_PcX D cI cO A (ev_P D cI cO b ad st) [.ref (b 0), .int (nI o), .int (nI 20)]) ev_nq (ev_XC "java/lang/IndexOutOfBoundsException") 1 6 ev_no := by
  refine ev_bodyX (cc := cX11_has) (maxL := 4) (ret := (some .char)) (by decide) rfl (Nat.le_of_ble_eq_true rfl) ?_
  intro p e s m args below meth c hx hb hr hml hown hts hlocks hnm hP hK hE hno ls hl
  have hl : lv_has ls 4 [(0, .ref (b 0)), (1, .int (nI o)), (2, .int (nI 20))] := hl
  have hi11 : ∀ w ∈ wsX110, w ∈ wsX11_has := by decide +kernel
  refine lv_aload_n hx hb dX11_has_0 rfl (lv_at hl 0 rfl) ?_
  refine ev_fac (v := .ref (b 1)) hx hb hts hi11 hown hK hP 0 (by decide) (hts (.fieldLink RX11 10 "EventloopRow" "things" "LEventloopRow$Things;") (by decide +kernel)) rfl dX11_has_1 ?_
  refine lv_iload_n hx hb dX11_has_4 rfl (lv_at hl 1 rfl) ?_
  refine ev_cv (As := [.int (nI o)]) (rest := []) ⟨hx, hb, hml, hown, hts⟩ (c_X8_find_v l hn (j := o) ho) (cwV 1 hts gX11_has_X8_find rfl rfl rfl (by decide +kernel) ⟨Nat.le_of_ble_eq_true rfl, Nat.le_of_ble_eq_true rfl⟩) hP hK (ev_recvT hK hP) rfl hl.1 (Nat.le_of_ble_eq_true rfl) dX11_has_5 ⟨Nat.le_of_ble_eq_true rfl, Nat.le_of_ble_eq_true rfl⟩ ?_
  refine lv_astore_n (lv' := [(3, .ref (ad o 0)), (0, .ref (b 0)), (1, .int (nI o)), (2, .int (nI 20))]) hx hb dX11_has_8 rfl hl (by decide) rfl (fun ls hl => ?_)
  refine lv_aload_n hx hb dX11_has_9 rfl (lv_at hl 0 rfl) ?_
  refine lv_ifnull hx hb dX11_has_10 ?_
  refine lv_iload_n hx hb dX11_has_13 rfl (lv_at hl 3 rfl) ?_
  refine ev_cst (As := [.int (nI 20)]) (rest := []) ⟨hx, hb, hml, hown, hts⟩ (c_X11_isKey_f l (b := b) (ad := ad)) (va_cwS 1 hts gX11_has_X11_isKey rfl rfl rfl (by decide +kernel) ⟨Nat.le_of_ble_eq_true rfl, Nat.le_of_ble_eq_true rfl⟩) hP hK rfl hl.1 (Nat.le_of_ble_eq_true rfl) dX11_has_14 ⟨Nat.le_of_ble_eq_true rfl, Nat.le_of_ble_eq_true rfl⟩ ?_
  refine eb_if_ne (tgt := 30) hx hb dX11_has_17 (by decide) (fun h => by cases h) (fun _ => ?_)
  obtain ⟨sa, hsa⟩ := hE.2.2.2.1 (103, "no such object or key") (by decide)
  have hm9 : ∀ w ∈ (vx_atS RX11 49 "java/lang/IndexOutOfBoundsException" ["java/lang/RuntimeException", "java/lang/Exception"]).filter goodWord, w ∈ wsX11_has := by intro w h; simp only [wsX11_has, List.mem_cons, List.mem_append, h, or_true, true_or]
  exact vx_throwS (cls := "java/lang/IndexOutOfBoundsException") (text := "no such object or key") (names := ["java/lang/RuntimeException", "java/lang/Exception"]) (sa := sa) (A := A) hx hb hfl hown (by decide +kernel) (by decide +kernel) (hts (.classLink RX11 45 "java/lang/IndexOutOfBoundsException") (by decide +kernel)) (hts (.initialized "java/lang/IndexOutOfBoundsException") (by decide +kernel)) hsa (vx_hat (B := [.castable "java/lang/IndexOutOfBoundsException" "java/lang/IndexOutOfBoundsException", .declares ⟨"java/lang/RuntimeException", "<init>", "(Ljava/lang/String;)V"⟩, .declares ⟨"java/lang/Exception", "<init>", "(Ljava/lang/String;)V"⟩, .declares ⟨"java/lang/Throwable", "<init>", "(Ljava/lang/String;)V"⟩]) (fun w h => hts w (hm9 w h)) (by decide +kernel) (vx_c (va_Nw.use rfl (hE.2.2.1 "java/lang/IndexOutOfBoundsException" (by decide))) (vx_c (va_Nw.use rfl (hE.2.2.2.2.2 _ (by decide))) (vx_c (va_Nw.use rfl (hE.2.2.2.2.2 _ (by decide))) (vx_c (va_Nw.use rfl (hE.2.2.2.2.2 _ (by decide))) vx_n))))) (by decide +kernel) hE.1 hE.2.1 va_S.rf (by rw [hml]; exact hl.1) dX11_has_20 dX11_has_23 dX11_has_24 dX11_has_26 dX11_has_29 (fun x h => (hno x h).elim) (Nat.le_of_ble_eq_true rfl) (Nat.le_of_ble_eq_true rfl) (Nat.le_of_ble_eq_true rfl) (Nat.le_of_ble_eq_true rfl) hlocks (fun t _ hz hk => ⟨rfl, hz, fun q h _ => hk q h⟩) (fun z h => by cases h) (Nat.le_of_ble_eq_true rfl) (Nat.le_of_ble_eq_true rfl)
set_option maxHeartbeats 4000000 in
set_option maxRecDepth 100000 in
theorem x_delete_io (l : Launch) (hfl : l.stackTraces = false) {D : va_G} {cI cO : ClassId} {b : Nat → Nat} {ad : Nat → Nat → Nat} {st : ev_ST} {A : Nat → Prop} (hn : st.1 ≤ 12) (hTG : ∀ i, i < st.1 → ∀ j, ev_tg (st.2 i) = some j → j < st.1) {o : Nat} (ho : o < st.1) : vx_Met l yX11_delete wsX11_delete ({ frames := 6, cells := 1, slots := 6, locals := 82 }) (ev_PcX D cI cO A (ev_P D cI cO b ad st) [.ref (b 0), .int (nI o), .int (-1)]) ev_nq (ev_XC "java/lang/IndexOutOfBoundsException") 1 6 ev_no := by
  refine ev_bodyX (cc := cX11_delete) (maxL := 4) (ret := (some .char)) (by decide) rfl (Nat.le_of_ble_eq_true rfl) ?_
  intro p e s m args below meth c hx hb hr hml hown hts hlocks hnm hP hK hE hno ls hl
  have hl : lv_has ls 4 [(0, .ref (b 0)), (1, .int (nI o)), (2, .int (-1))] := hl
  have hi11 : ∀ w ∈ wsX110, w ∈ wsX11_delete := by decide +kernel
  refine lv_aload_n hx hb dX11_delete_0 rfl (lv_at hl 0 rfl) ?_
  refine ev_fac (v := .ref (b 1)) hx hb hts hi11 hown hK hP 0 (by decide) (hts (.fieldLink RX11 10 "EventloopRow" "things" "LEventloopRow$Things;") (by decide +kernel)) rfl dX11_delete_1 ?_
  refine lv_iload_n hx hb dX11_delete_4 rfl (lv_at hl 1 rfl) ?_
  refine ev_cv (As := [.int (nI o)]) (rest := []) ⟨hx, hb, hml, hown, hts⟩ (c_X8_find_v l hn (j := o) ho) (cwV 1 hts gX11_delete_X8_find rfl rfl rfl (by decide +kernel) ⟨Nat.le_of_ble_eq_true rfl, Nat.le_of_ble_eq_true rfl⟩) hP hK (ev_recvT hK hP) rfl hl.1 (Nat.le_of_ble_eq_true rfl) dX11_delete_5 ⟨Nat.le_of_ble_eq_true rfl, Nat.le_of_ble_eq_true rfl⟩ ?_
  refine lv_astore_n (lv' := [(3, .ref (ad o 0)), (0, .ref (b 0)), (1, .int (nI o)), (2, .int (-1))]) hx hb dX11_delete_8 rfl hl (by decide) rfl (fun ls hl => ?_)
  refine lv_aload_n hx hb dX11_delete_9 rfl (lv_at hl 0 rfl) ?_
  refine lv_ifnull hx hb dX11_delete_10 ?_
  refine lv_iload_n hx hb dX11_delete_13 rfl (lv_at hl 3 rfl) ?_
  refine ev_cst (As := [.int (-1)]) (rest := []) ⟨hx, hb, hml, hown, hts⟩ (c_X11_isKey_m l (b := b) (ad := ad)) (va_cwS 1 hts gX11_delete_X11_isKey rfl rfl rfl (by decide +kernel) ⟨Nat.le_of_ble_eq_true rfl, Nat.le_of_ble_eq_true rfl⟩) hP hK rfl hl.1 (Nat.le_of_ble_eq_true rfl) dX11_delete_14 ⟨Nat.le_of_ble_eq_true rfl, Nat.le_of_ble_eq_true rfl⟩ ?_
  refine eb_if_ne (tgt := 30) hx hb dX11_delete_17 (by decide) (fun h => by cases h) (fun _ => ?_)
  obtain ⟨sa, hsa⟩ := hE.2.2.2.1 (103, "no such object or key") (by decide)
  have hm9 : ∀ w ∈ (vx_atS RX11 49 "java/lang/IndexOutOfBoundsException" ["java/lang/RuntimeException", "java/lang/Exception"]).filter goodWord, w ∈ wsX11_delete := by intro w h; simp only [wsX11_delete, List.mem_cons, List.mem_append, h, or_true, true_or]
  exact vx_throwS (cls := "java/lang/IndexOutOfBoundsException") (text := "no such object or key") (names := ["java/lang/RuntimeException", "java/lang/Exception"]) (sa := sa) (A := A) hx hb hfl hown (by decide +kernel) (by decide +kernel) (hts (.classLink RX11 45 "java/lang/IndexOutOfBoundsException") (by decide +kernel)) (hts (.initialized "java/lang/IndexOutOfBoundsException") (by decide +kernel)) hsa (vx_hat (B := [.castable "java/lang/IndexOutOfBoundsException" "java/lang/IndexOutOfBoundsException", .declares ⟨"java/lang/RuntimeException", "<init>", "(Ljava/lang/String;)V"⟩, .declares ⟨"java/lang/Exception", "<init>", "(Ljava/lang/String;)V"⟩, .declares ⟨"java/lang/Throwable", "<init>", "(Ljava/lang/String;)V"⟩]) (fun w h => hts w (hm9 w h)) (by decide +kernel) (vx_c (va_Nw.use rfl (hE.2.2.1 "java/lang/IndexOutOfBoundsException" (by decide))) (vx_c (va_Nw.use rfl (hE.2.2.2.2.2 _ (by decide))) (vx_c (va_Nw.use rfl (hE.2.2.2.2.2 _ (by decide))) (vx_c (va_Nw.use rfl (hE.2.2.2.2.2 _ (by decide))) vx_n))))) (by decide +kernel) hE.1 hE.2.1 va_S.rf (by rw [hml]; exact hl.1) dX11_delete_20 dX11_delete_23 dX11_delete_24 dX11_delete_26 dX11_delete_29 (fun x h => (hno x h).elim) (Nat.le_of_ble_eq_true rfl) (Nat.le_of_ble_eq_true rfl) (Nat.le_of_ble_eq_true rfl) (Nat.le_of_ble_eq_true rfl) hlocks (fun t _ hz hk => ⟨rfl, hz, fun q h _ => hk q h⟩) (fun z h => by cases h) (Nat.le_of_ble_eq_true rfl) (Nat.le_of_ble_eq_true rfl)
set_option maxHeartbeats 4000000 in
set_option maxRecDepth 100000 in
theorem x_define_io (l : Launch) (hfl : l.stackTraces = false) {D : va_G} {cI cO : ClassId} {b : Nat → Nat} {ad : Nat → Nat → Nat} {st : ev_ST} {A : Nat → Prop} (hn : st.1 ≤ 12) {k v r : Nat} : vx_Met l yX11_define wsX11_define ({ frames := 6, cells := 1, slots := 6, locals := 82 }) (ev_PcX D cI cO A (ev_P D cI cO b ad st) [.ref (b 0), .int (-1), .int (nI k), .int (nI v), .int (nI r)]) ev_nq (ev_XC "java/lang/IndexOutOfBoundsException") 1 6 ev_no := by
  refine ev_bodyX (cc := cX11_define) (maxL := 7) (ret := (some .char)) (by decide) rfl (Nat.le_of_ble_eq_true rfl) ?_
  intro p e s m args below meth c hx hb hr hml hown hts hlocks hnm hP hK hE hno ls hl
  have hl : lv_has ls 7 [(0, .ref (b 0)), (1, .int (-1)), (2, .int (nI k)), (3, .int (nI v)), (4, .int (nI r))] := hl
  have hi11 : ∀ w ∈ wsX110, w ∈ wsX11_define := by decide +kernel
  refine lv_aload_n hx hb dX11_define_0 rfl (lv_at hl 0 rfl) ?_
  refine ev_fac (v := .ref (b 1)) hx hb hts hi11 hown hK hP 0 (by decide) (hts (.fieldLink RX11 10 "EventloopRow" "things" "LEventloopRow$Things;") (by decide +kernel)) rfl dX11_define_1 ?_
  refine lv_iload_n hx hb dX11_define_4 rfl (lv_at hl 1 rfl) ?_
  refine ev_cv (As := [.int (-1)]) (rest := []) ⟨hx, hb, hml, hown, hts⟩ (c_X8_find_n l) (cwV 1 hts gX11_define_X8_find rfl rfl rfl (by decide +kernel) ⟨Nat.le_of_ble_eq_true rfl, Nat.le_of_ble_eq_true rfl⟩) hP hK (ev_recvT hK hP) rfl hl.1 (Nat.le_of_ble_eq_true rfl) dX11_define_5 ⟨Nat.le_of_ble_eq_true rfl, Nat.le_of_ble_eq_true rfl⟩ ?_
  refine lv_astoreN (lv' := [(5, .null), (0, .ref (b 0)), (1, .int (-1)), (2, .int (nI k)), (3, .int (nI v)), (4, .int (nI r))]) hx hb dX11_define_8 hl (by decide) rfl (fun ls hl => ?_)
  refine lv_aloadN hx hb dX11_define_10 (lv_at hl 0 rfl) ?_
  refine lv_ifnullN (tgt := 22) hx hb dX11_define_12 (by decide) ?_
  obtain ⟨sa, hsa⟩ := hE.2.2.2.1 (103, "no such object or key") (by decide)
  have hm9 : ∀ w ∈ (vx_atS RX11 49 "java/lang/IndexOutOfBoundsException" ["java/lang/RuntimeException", "java/lang/Exception"]).filter goodWord, w ∈ wsX11_define := by intro w h; simp only [wsX11_define, List.mem_cons, List.mem_append, h, or_true, true_or]
  exact vx_throwS (cls := "java/lang/IndexOutOfBoundsException") (text := "no such object or key") (names := ["java/lang/RuntimeException", "java/lang/Exception"]) (sa := sa) (A := A) hx hb hfl hown (by decide +kernel) (by decide +kernel) (hts (.classLink RX11 45 "java/lang/IndexOutOfBoundsException") (by decide +kernel)) (hts (.initialized "java/lang/IndexOutOfBoundsException") (by decide +kernel)) hsa (vx_hat (B := [.castable "java/lang/IndexOutOfBoundsException" "java/lang/IndexOutOfBoundsException", .declares ⟨"java/lang/RuntimeException", "<init>", "(Ljava/lang/String;)V"⟩, .declares ⟨"java/lang/Exception", "<init>", "(Ljava/lang/String;)V"⟩, .declares ⟨"java/lang/Throwable", "<init>", "(Ljava/lang/String;)V"⟩]) (fun w h => hts w (hm9 w h)) (by decide +kernel) (vx_c (va_Nw.use rfl (hE.2.2.1 "java/lang/IndexOutOfBoundsException" (by decide))) (vx_c (va_Nw.use rfl (hE.2.2.2.2.2 _ (by decide))) (vx_c (va_Nw.use rfl (hE.2.2.2.2.2 _ (by decide))) (vx_c (va_Nw.use rfl (hE.2.2.2.2.2 _ (by decide))) vx_n))))) (by decide +kernel) hE.1 hE.2.1 va_S.rf (by rw [hml]; exact hl.1) dX11_define_22 dX11_define_25 dX11_define_26 dX11_define_28 dX11_define_31 (fun x h => (hno x h).elim) (Nat.le_of_ble_eq_true rfl) (Nat.le_of_ble_eq_true rfl) (Nat.le_of_ble_eq_true rfl) (Nat.le_of_ble_eq_true rfl) hlocks (fun t _ hz hk => ⟨rfl, hz, fun q h _ => hk q h⟩) (fun z h => by cases h) (Nat.le_of_ble_eq_true rfl) (Nat.le_of_ble_eq_true rfl)
set_option maxHeartbeats 4000000 in
set_option maxRecDepth 100000 in
theorem x_close_io (l : Launch) (hfl : l.stackTraces = false) {D : va_G} {cI cO : ClassId} {b : Nat → Nat} {ad : Nat → Nat → Nat} {st : ev_ST} {A : Nat → Prop} (hn : st.1 ≤ 12) (hbad : st.1 ≤ 7) : vx_Met l yX11_closeObject wsX11_closeObject ({ frames := 6, cells := 1, slots := 6, locals := 82 }) (ev_PcX D cI cO A (ev_P D cI cO b ad st) [.ref (b 0), .int (nI 7)]) ev_nq (ev_XC "java/lang/IndexOutOfBoundsException") 1 6 ev_no := by
  refine ev_bodyX (cc := cX11_closeObject) (maxL := 4) (ret := (some .char)) (by decide) rfl (Nat.le_of_ble_eq_true rfl) ?_
  intro p e s m args below meth c hx hb hr hml hown hts hlocks hnm hP hK hE hno ls hl
  have hl : lv_has ls 4 [(0, .ref (b 0)), (1, .int (nI 7))] := hl
  have hi11 : ∀ w ∈ wsX110, w ∈ wsX11_closeObject := by decide +kernel
  refine lv_aload_n hx hb dX11_closeObject_0 rfl (lv_at hl 0 rfl) ?_
  refine ev_fac (v := .ref (b 1)) hx hb hts hi11 hown hK hP 0 (by decide) (hts (.fieldLink RX11 10 "EventloopRow" "things" "LEventloopRow$Things;") (by decide +kernel)) rfl dX11_closeObject_1 ?_
  refine lv_iload_n hx hb dX11_closeObject_4 rfl (lv_at hl 1 rfl) ?_
  refine ev_cv (As := [.int (nI 7)]) (rest := []) ⟨hx, hb, hml, hown, hts⟩ (c_X8_find_x l hn (j := 7) hbad (by decide)) (cwV 1 hts gX11_closeObject_X8_find rfl rfl rfl (by decide +kernel) ⟨Nat.le_of_ble_eq_true rfl, Nat.le_of_ble_eq_true rfl⟩) hP hK (ev_recvT hK hP) rfl hl.1 (Nat.le_of_ble_eq_true rfl) dX11_closeObject_5 ⟨Nat.le_of_ble_eq_true rfl, Nat.le_of_ble_eq_true rfl⟩ ?_
  refine lv_astore_nN (lv' := [(2, .null), (0, .ref (b 0)), (1, .int (nI 7))]) hx hb dX11_closeObject_8 rfl hl (by decide) rfl (fun ls hl => ?_)
  refine lv_aload_nN hx hb dX11_closeObject_9 rfl (lv_at hl 0 rfl) ?_
  refine lv_ifnonnullN hx hb dX11_closeObject_10 ?_
  obtain ⟨sa, hsa⟩ := hE.2.2.2.1 (47, "no such object") (by decide)
  have hm9 : ∀ w ∈ (vx_atS RX11 49 "java/lang/IndexOutOfBoundsException" ["java/lang/RuntimeException", "java/lang/Exception"]).filter goodWord, w ∈ wsX11_closeObject := by intro w h; simp only [wsX11_closeObject, List.mem_cons, List.mem_append, h, or_true, true_or]
  exact vx_throwS (cls := "java/lang/IndexOutOfBoundsException") (text := "no such object") (names := ["java/lang/RuntimeException", "java/lang/Exception"]) (sa := sa) (A := A) hx hb hfl hown (by decide +kernel) (by decide +kernel) (hts (.classLink RX11 45 "java/lang/IndexOutOfBoundsException") (by decide +kernel)) (hts (.initialized "java/lang/IndexOutOfBoundsException") (by decide +kernel)) hsa (vx_hat (B := [.castable "java/lang/IndexOutOfBoundsException" "java/lang/IndexOutOfBoundsException", .declares ⟨"java/lang/RuntimeException", "<init>", "(Ljava/lang/String;)V"⟩, .declares ⟨"java/lang/Exception", "<init>", "(Ljava/lang/String;)V"⟩, .declares ⟨"java/lang/Throwable", "<init>", "(Ljava/lang/String;)V"⟩]) (fun w h => hts w (hm9 w h)) (by decide +kernel) (vx_c (va_Nw.use rfl (hE.2.2.1 "java/lang/IndexOutOfBoundsException" (by decide))) (vx_c (va_Nw.use rfl (hE.2.2.2.2.2 _ (by decide))) (vx_c (va_Nw.use rfl (hE.2.2.2.2.2 _ (by decide))) (vx_c (va_Nw.use rfl (hE.2.2.2.2.2 _ (by decide))) vx_n))))) (by decide +kernel) hE.1 hE.2.1 va_S.rf (by rw [hml]; exact hl.1) dX11_closeObject_13 dX11_closeObject_16 dX11_closeObject_17 dX11_closeObject_19 dX11_closeObject_22 (fun x h => (hno x h).elim) (Nat.le_of_ble_eq_true rfl) (Nat.le_of_ble_eq_true rfl) (Nat.le_of_ble_eq_true rfl) (Nat.le_of_ble_eq_true rfl) hlocks (fun t _ hz hk => ⟨rfl, hz, fun q h _ => hk q h⟩) (fun z h => by cases h) (Nat.le_of_ble_eq_true rfl) (Nat.le_of_ble_eq_true rfl)
set_option maxHeartbeats 4000000 in
set_option maxRecDepth 100000 in
theorem x_setChain_io (l : Launch) (hfl : l.stackTraces = false) {D : va_G} {cI cO : ClassId} {b : Nat → Nat} {ad : Nat → Nat → Nat} {st : ev_ST} {A : Nat → Prop} (hn : st.1 ≤ 12) (hTG : ∀ i, i < st.1 → ∀ j, ev_tg (st.2 i) = some j → j < st.1) (hbad : st.1 ≤ 7) {o : Nat} (ho : o < st.1) : vx_Met l yX11_setChain wsX11_setChain ({ frames := 6, cells := 1, slots := 6, locals := 82 }) (ev_PcX D cI cO A (ev_P D cI cO b ad st) [.ref (b 0), .int (nI o), .int (nI 7)]) ev_nq (ev_XC "java/lang/IndexOutOfBoundsException") 1 6 ev_no := by
  refine ev_bodyX (cc := cX11_setChain) (maxL := 6) (ret := (some .char)) (by decide) rfl (Nat.le_of_ble_eq_true rfl) ?_
  intro p e s m args below meth c hx hb hr hml hown hts hlocks hnm hP hK hE hno ls hl
  have hl : lv_has ls 6 [(0, .ref (b 0)), (1, .int (nI o)), (2, .int (nI 7))] := hl
  have hi11 : ∀ w ∈ wsX110, w ∈ wsX11_setChain := by decide +kernel
  refine lv_aload_n hx hb dX11_setChain_0 rfl (lv_at hl 0 rfl) ?_
  refine ev_fac (v := .ref (b 1)) hx hb hts hi11 hown hK hP 0 (by decide) (hts (.fieldLink RX11 10 "EventloopRow" "things" "LEventloopRow$Things;") (by decide +kernel)) rfl dX11_setChain_1 ?_
  refine lv_iload_n hx hb dX11_setChain_4 rfl (lv_at hl 1 rfl) ?_
  refine ev_cv (As := [.int (nI o)]) (rest := []) ⟨hx, hb, hml, hown, hts⟩ (c_X8_find_v l hn (j := o) ho) (cwV 1 hts gX11_setChain_X8_find rfl rfl rfl (by decide +kernel) ⟨Nat.le_of_ble_eq_true rfl, Nat.le_of_ble_eq_true rfl⟩) hP hK (ev_recvT hK hP) rfl hl.1 (Nat.le_of_ble_eq_true rfl) dX11_setChain_5 ⟨Nat.le_of_ble_eq_true rfl, Nat.le_of_ble_eq_true rfl⟩ ?_
  refine lv_astore_n (lv' := [(3, .ref (ad o 0)), (0, .ref (b 0)), (1, .int (nI o)), (2, .int (nI 7))]) hx hb dX11_setChain_8 rfl hl (by decide) rfl (fun ls hl => ?_)
  refine lv_aload_n hx hb dX11_setChain_9 rfl (lv_at hl 1 rfl) ?_
  refine ev_fac (v := .ref (b 1)) hx hb hts hi11 hown hK hP 0 (by decide) (hts (.fieldLink RX11 10 "EventloopRow" "things" "LEventloopRow$Things;") (by decide +kernel)) rfl dX11_setChain_10 ?_
  refine lv_iload_n hx hb dX11_setChain_13 rfl (lv_at hl 3 rfl) ?_
  refine ev_cv (As := [.int (nI 7)]) (rest := []) ⟨hx, hb, hml, hown, hts⟩ (c_X8_find_x l hn (j := 7) hbad (by decide)) (cwV 1 hts gX11_setChain_X8_find rfl rfl rfl (by decide +kernel) ⟨Nat.le_of_ble_eq_true rfl, Nat.le_of_ble_eq_true rfl⟩) hP hK (ev_recvT hK hP) rfl hl.1 (Nat.le_of_ble_eq_true rfl) dX11_setChain_14 ⟨Nat.le_of_ble_eq_true rfl, Nat.le_of_ble_eq_true rfl⟩ ?_
  refine lv_astoreN (lv' := [(4, .null), (3, .ref (ad o 0)), (0, .ref (b 0)), (1, .int (nI o)), (2, .int (nI 7))]) hx hb dX11_setChain_17 hl (by decide) rfl (fun ls hl => ?_)
  refine lv_aload_n hx hb dX11_setChain_19 rfl (lv_at hl 1 rfl) ?_
  refine lv_ifnull hx hb dX11_setChain_20 ?_
  refine lv_aloadN hx hb dX11_setChain_23 (lv_at hl 0 rfl) ?_
  refine lv_ifnonnullN hx hb dX11_setChain_25 ?_
  refine lv_iload_n hx hb dX11_setChain_28 rfl (lv_at hl 4 rfl) ?_
  refine lv_iconst (v := -1) hx hb dX11_setChain_29 (by decide) ?_
  refine lv_icmp_eq (tgt := 43) hx hb dX11_setChain_30 (by decide) (fun h => absurd h (by decide)) (fun _ => ?_)
  obtain ⟨sa, hsa⟩ := hE.2.2.2.1 (47, "no such object") (by decide)
  have hm9 : ∀ w ∈ (vx_atS RX11 49 "java/lang/IndexOutOfBoundsException" ["java/lang/RuntimeException", "java/lang/Exception"]).filter goodWord, w ∈ wsX11_setChain := by intro w h; simp only [wsX11_setChain, List.mem_cons, List.mem_append, h, or_true, true_or]
  exact vx_throwS (cls := "java/lang/IndexOutOfBoundsException") (text := "no such object") (names := ["java/lang/RuntimeException", "java/lang/Exception"]) (sa := sa) (A := A) hx hb hfl hown (by decide +kernel) (by decide +kernel) (hts (.classLink RX11 45 "java/lang/IndexOutOfBoundsException") (by decide +kernel)) (hts (.initialized "java/lang/IndexOutOfBoundsException") (by decide +kernel)) hsa (vx_hat (B := [.castable "java/lang/IndexOutOfBoundsException" "java/lang/IndexOutOfBoundsException", .declares ⟨"java/lang/RuntimeException", "<init>", "(Ljava/lang/String;)V"⟩, .declares ⟨"java/lang/Exception", "<init>", "(Ljava/lang/String;)V"⟩, .declares ⟨"java/lang/Throwable", "<init>", "(Ljava/lang/String;)V"⟩]) (fun w h => hts w (hm9 w h)) (by decide +kernel) (vx_c (va_Nw.use rfl (hE.2.2.1 "java/lang/IndexOutOfBoundsException" (by decide))) (vx_c (va_Nw.use rfl (hE.2.2.2.2.2 _ (by decide))) (vx_c (va_Nw.use rfl (hE.2.2.2.2.2 _ (by decide))) (vx_c (va_Nw.use rfl (hE.2.2.2.2.2 _ (by decide))) vx_n))))) (by decide +kernel) hE.1 hE.2.1 va_S.rf (by rw [hml]; exact hl.1) dX11_setChain_33 dX11_setChain_36 dX11_setChain_37 dX11_setChain_39 dX11_setChain_42 (fun x h => (hno x h).elim) (Nat.le_of_ble_eq_true rfl) (Nat.le_of_ble_eq_true rfl) (Nat.le_of_ble_eq_true rfl) (Nat.le_of_ble_eq_true rfl) hlocks (fun t _ hz hk => ⟨rfl, hz, fun q h _ => hk q h⟩) (fun z h => by cases h) (Nat.le_of_ble_eq_true rfl) (Nat.le_of_ble_eq_true rfl)
set_option maxHeartbeats 4000000 in
set_option maxRecDepth 100000 in
theorem x_keys_io (l : Launch) (hfl : l.stackTraces = false) {D : va_G} {cI cO : ClassId} {b : Nat → Nat} {ad : Nat → Nat → Nat} {st : ev_ST} {A : Nat → Prop} (hn : st.1 ≤ 12) (hbad : st.1 ≤ 7) : vx_Met l yX11_keys wsX11_keys ({ frames := 6, cells := 1, slots := 6, locals := 82 }) (ev_PcX D cI cO A (ev_P D cI cO b ad st) [.ref (b 0), .int (nI 7)]) ev_nq (ev_XC "java/lang/IndexOutOfBoundsException") 1 6 ev_no := by
  refine ev_bodyX (cc := cX11_keys) (maxL := 4) (ret := (some .int)) (by decide) rfl (Nat.le_of_ble_eq_true rfl) ?_
  intro p e s m args below meth c hx hb hr hml hown hts hlocks hnm hP hK hE hno ls hl
  have hl : lv_has ls 4 [(0, .ref (b 0)), (1, .int (nI 7))] := hl
  have hi11 : ∀ w ∈ wsX110, w ∈ wsX11_keys := by decide +kernel
  refine lv_aload_n hx hb dX11_keys_0 rfl (lv_at hl 0 rfl) ?_
  refine ev_fac (v := .ref (b 1)) hx hb hts hi11 hown hK hP 0 (by decide) (hts (.fieldLink RX11 10 "EventloopRow" "things" "LEventloopRow$Things;") (by decide +kernel)) rfl dX11_keys_1 ?_
  refine lv_iload_n hx hb dX11_keys_4 rfl (lv_at hl 1 rfl) ?_
  refine ev_cv (As := [.int (nI 7)]) (rest := []) ⟨hx, hb, hml, hown, hts⟩ (c_X8_find_x l hn (j := 7) hbad (by decide)) (cwV 1 hts gX11_keys_X8_find rfl rfl rfl (by decide +kernel) ⟨Nat.le_of_ble_eq_true rfl, Nat.le_of_ble_eq_true rfl⟩) hP hK (ev_recvT hK hP) rfl hl.1 (Nat.le_of_ble_eq_true rfl) dX11_keys_5 ⟨Nat.le_of_ble_eq_true rfl, Nat.le_of_ble_eq_true rfl⟩ ?_
  refine lv_astore_nN (lv' := [(2, .null), (0, .ref (b 0)), (1, .int (nI 7))]) hx hb dX11_keys_8 rfl hl (by decide) rfl (fun ls hl => ?_)
  refine lv_aload_nN hx hb dX11_keys_9 rfl (lv_at hl 0 rfl) ?_
  refine lv_ifnonnullN hx hb dX11_keys_10 ?_
  obtain ⟨sa, hsa⟩ := hE.2.2.2.1 (47, "no such object") (by decide)
  have hm9 : ∀ w ∈ (vx_atS RX11 49 "java/lang/IndexOutOfBoundsException" ["java/lang/RuntimeException", "java/lang/Exception"]).filter goodWord, w ∈ wsX11_keys := by intro w h; simp only [wsX11_keys, List.mem_cons, List.mem_append, h, or_true, true_or]
  exact vx_throwS (cls := "java/lang/IndexOutOfBoundsException") (text := "no such object") (names := ["java/lang/RuntimeException", "java/lang/Exception"]) (sa := sa) (A := A) hx hb hfl hown (by decide +kernel) (by decide +kernel) (hts (.classLink RX11 45 "java/lang/IndexOutOfBoundsException") (by decide +kernel)) (hts (.initialized "java/lang/IndexOutOfBoundsException") (by decide +kernel)) hsa (vx_hat (B := [.castable "java/lang/IndexOutOfBoundsException" "java/lang/IndexOutOfBoundsException", .declares ⟨"java/lang/RuntimeException", "<init>", "(Ljava/lang/String;)V"⟩, .declares ⟨"java/lang/Exception", "<init>", "(Ljava/lang/String;)V"⟩, .declares ⟨"java/lang/Throwable", "<init>", "(Ljava/lang/String;)V"⟩]) (fun w h => hts w (hm9 w h)) (by decide +kernel) (vx_c (va_Nw.use rfl (hE.2.2.1 "java/lang/IndexOutOfBoundsException" (by decide))) (vx_c (va_Nw.use rfl (hE.2.2.2.2.2 _ (by decide))) (vx_c (va_Nw.use rfl (hE.2.2.2.2.2 _ (by decide))) (vx_c (va_Nw.use rfl (hE.2.2.2.2.2 _ (by decide))) vx_n))))) (by decide +kernel) hE.1 hE.2.1 va_S.rf (by rw [hml]; exact hl.1) dX11_keys_13 dX11_keys_16 dX11_keys_17 dX11_keys_19 dX11_keys_22 (fun x h => (hno x h).elim) (Nat.le_of_ble_eq_true rfl) (Nat.le_of_ble_eq_true rfl) (Nat.le_of_ble_eq_true rfl) (Nat.le_of_ble_eq_true rfl) hlocks (fun t _ hz hk => ⟨rfl, hz, fun q h _ => hk q h⟩) (fun z h => by cases h) (Nat.le_of_ble_eq_true rfl) (Nat.le_of_ble_eq_true rfl)
set_option maxHeartbeats 4000000 in
set_option maxRecDepth 100000 in
theorem x_rights_io (l : Launch) (hfl : l.stackTraces = false) {D : va_G} {cI cO : ClassId} {b : Nat → Nat} {ad : Nat → Nat → Nat} {st : ev_ST} {A : Nat → Prop} (hn : st.1 ≤ 12) (hTG : ∀ i, i < st.1 → ∀ j, ev_tg (st.2 i) = some j → j < st.1) {o : Nat} (ho : o < st.1) : vx_Met l yX11_rights wsX11_rights ({ frames := 6, cells := 1, slots := 6, locals := 82 }) (ev_PcX D cI cO A (ev_P D cI cO b ad st) [.ref (b 0), .int (nI o), .int (nI 20)]) ev_nq (ev_XC "java/lang/IndexOutOfBoundsException") 1 6 ev_no := by
  refine ev_bodyX (cc := cX11_rights) (maxL := 6) (ret := (some .int)) (by decide) rfl (Nat.le_of_ble_eq_true rfl) ?_
  intro p e s m args below meth c hx hb hr hml hown hts hlocks hnm hP hK hE hno ls hl
  have hl : lv_has ls 6 [(0, .ref (b 0)), (1, .int (nI o)), (2, .int (nI 20))] := hl
  have hi11 : ∀ w ∈ wsX110, w ∈ wsX11_rights := by decide +kernel
  refine lv_aload_n hx hb dX11_rights_0 rfl (lv_at hl 0 rfl) ?_
  refine ev_fac (v := .ref (b 1)) hx hb hts hi11 hown hK hP 0 (by decide) (hts (.fieldLink RX11 10 "EventloopRow" "things" "LEventloopRow$Things;") (by decide +kernel)) rfl dX11_rights_1 ?_
  refine lv_iload_n hx hb dX11_rights_4 rfl (lv_at hl 1 rfl) ?_
  refine ev_cv (As := [.int (nI o)]) (rest := []) ⟨hx, hb, hml, hown, hts⟩ (c_X8_find_v l hn (j := o) ho) (cwV 1 hts gX11_rights_X8_find rfl rfl rfl (by decide +kernel) ⟨Nat.le_of_ble_eq_true rfl, Nat.le_of_ble_eq_true rfl⟩) hP hK (ev_recvT hK hP) rfl hl.1 (Nat.le_of_ble_eq_true rfl) dX11_rights_5 ⟨Nat.le_of_ble_eq_true rfl, Nat.le_of_ble_eq_true rfl⟩ ?_
  refine lv_astore_n (lv' := [(3, .ref (ad o 0)), (0, .ref (b 0)), (1, .int (nI o)), (2, .int (nI 20))]) hx hb dX11_rights_8 rfl hl (by decide) rfl (fun ls hl => ?_)
  refine lv_aload_n hx hb dX11_rights_9 rfl (lv_at hl 0 rfl) ?_
  refine lv_ifnull hx hb dX11_rights_10 ?_
  refine lv_iload_n hx hb dX11_rights_13 rfl (lv_at hl 3 rfl) ?_
  refine ev_cst (As := [.int (nI 20)]) (rest := []) ⟨hx, hb, hml, hown, hts⟩ (c_X11_isKey_f l (b := b) (ad := ad)) (va_cwS 1 hts gX11_rights_X11_isKey rfl rfl rfl (by decide +kernel) ⟨Nat.le_of_ble_eq_true rfl, Nat.le_of_ble_eq_true rfl⟩) hP hK rfl hl.1 (Nat.le_of_ble_eq_true rfl) dX11_rights_14 ⟨Nat.le_of_ble_eq_true rfl, Nat.le_of_ble_eq_true rfl⟩ ?_
  refine eb_if_ne (tgt := 30) hx hb dX11_rights_17 (by decide) (fun h => by cases h) (fun _ => ?_)
  obtain ⟨sa, hsa⟩ := hE.2.2.2.1 (103, "no such object or key") (by decide)
  have hm9 : ∀ w ∈ (vx_atS RX11 49 "java/lang/IndexOutOfBoundsException" ["java/lang/RuntimeException", "java/lang/Exception"]).filter goodWord, w ∈ wsX11_rights := by intro w h; simp only [wsX11_rights, List.mem_cons, List.mem_append, h, or_true, true_or]
  exact vx_throwS (cls := "java/lang/IndexOutOfBoundsException") (text := "no such object or key") (names := ["java/lang/RuntimeException", "java/lang/Exception"]) (sa := sa) (A := A) hx hb hfl hown (by decide +kernel) (by decide +kernel) (hts (.classLink RX11 45 "java/lang/IndexOutOfBoundsException") (by decide +kernel)) (hts (.initialized "java/lang/IndexOutOfBoundsException") (by decide +kernel)) hsa (vx_hat (B := [.castable "java/lang/IndexOutOfBoundsException" "java/lang/IndexOutOfBoundsException", .declares ⟨"java/lang/RuntimeException", "<init>", "(Ljava/lang/String;)V"⟩, .declares ⟨"java/lang/Exception", "<init>", "(Ljava/lang/String;)V"⟩, .declares ⟨"java/lang/Throwable", "<init>", "(Ljava/lang/String;)V"⟩]) (fun w h => hts w (hm9 w h)) (by decide +kernel) (vx_c (va_Nw.use rfl (hE.2.2.1 "java/lang/IndexOutOfBoundsException" (by decide))) (vx_c (va_Nw.use rfl (hE.2.2.2.2.2 _ (by decide))) (vx_c (va_Nw.use rfl (hE.2.2.2.2.2 _ (by decide))) (vx_c (va_Nw.use rfl (hE.2.2.2.2.2 _ (by decide))) vx_n))))) (by decide +kernel) hE.1 hE.2.1 va_S.rf (by rw [hml]; exact hl.1) dX11_rights_20 dX11_rights_23 dX11_rights_24 dX11_rights_26 dX11_rights_29 (fun x h => (hno x h).elim) (Nat.le_of_ble_eq_true rfl) (Nat.le_of_ble_eq_true rfl) (Nat.le_of_ble_eq_true rfl) (Nat.le_of_ble_eq_true rfl) hlocks (fun t _ hz hk => ⟨rfl, hz, fun q h _ => hk q h⟩) (fun z h => by cases h) (Nat.le_of_ble_eq_true rfl) (Nat.le_of_ble_eq_true rfl)
set_option maxHeartbeats 4000000 in
set_option maxRecDepth 100000 in
theorem x_tell_io (l : Launch) (hfl : l.stackTraces = false) {D : va_G} {cI cO : ClassId} {b : Nat → Nat} {ad : Nat → Nat → Nat} {st : ev_ST} {A : Nat → Prop} (hn : st.1 ≤ 12) (hbad : st.1 ≤ 7) {w v : Nat} : vx_Met l yX11_tell wsX11_tell ({ frames := 6, cells := 1, slots := 6, locals := 82 }) (ev_PcX D cI cO A (ev_P D cI cO b ad st) [.ref (b 0), .int (nI 7), .int (nI w), .int (nI v)]) ev_nq (ev_XC "java/lang/IndexOutOfBoundsException") 1 6 ev_no := by
  refine ev_bodyX (cc := cX11_tell) (maxL := 7) (ret := (some .boolean)) (by decide) rfl (Nat.le_of_ble_eq_true rfl) ?_
  intro p e s m args below meth c hx hb hr hml hown hts hlocks hnm hP hK hE hno ls hl
  have hl : lv_has ls 7 [(0, .ref (b 0)), (1, .int (nI 7)), (2, .int (nI w)), (3, .int (nI v))] := hl
  have hi11 : ∀ w ∈ wsX110, w ∈ wsX11_tell := by decide +kernel
  refine lv_aload_n hx hb dX11_tell_0 rfl (lv_at hl 0 rfl) ?_
  refine ev_fac (v := .ref (b 1)) hx hb hts hi11 hown hK hP 0 (by decide) (hts (.fieldLink RX11 10 "EventloopRow" "things" "LEventloopRow$Things;") (by decide +kernel)) rfl dX11_tell_1 ?_
  refine lv_iload_n hx hb dX11_tell_4 rfl (lv_at hl 1 rfl) ?_
  refine ev_cv (As := [.int (nI 7)]) (rest := []) ⟨hx, hb, hml, hown, hts⟩ (c_X8_find_x l hn (j := 7) hbad (by decide)) (cwV 1 hts gX11_tell_X8_find rfl rfl rfl (by decide +kernel) ⟨Nat.le_of_ble_eq_true rfl, Nat.le_of_ble_eq_true rfl⟩) hP hK (ev_recvT hK hP) rfl hl.1 (Nat.le_of_ble_eq_true rfl) dX11_tell_5 ⟨Nat.le_of_ble_eq_true rfl, Nat.le_of_ble_eq_true rfl⟩ ?_
  refine lv_astoreN (lv' := [(4, .null), (0, .ref (b 0)), (1, .int (nI 7)), (2, .int (nI w)), (3, .int (nI v))]) hx hb dX11_tell_8 hl (by decide) rfl (fun ls hl => ?_)
  refine lv_aloadN hx hb dX11_tell_10 (lv_at hl 0 rfl) ?_
  refine lv_ifnonnullN hx hb dX11_tell_12 ?_
  obtain ⟨sa, hsa⟩ := hE.2.2.2.1 (47, "no such object") (by decide)
  have hm9 : ∀ w ∈ (vx_atS RX11 49 "java/lang/IndexOutOfBoundsException" ["java/lang/RuntimeException", "java/lang/Exception"]).filter goodWord, w ∈ wsX11_tell := by intro w h; simp only [wsX11_tell, List.mem_cons, List.mem_append, h, or_true, true_or]
  exact vx_throwS (cls := "java/lang/IndexOutOfBoundsException") (text := "no such object") (names := ["java/lang/RuntimeException", "java/lang/Exception"]) (sa := sa) (A := A) hx hb hfl hown (by decide +kernel) (by decide +kernel) (hts (.classLink RX11 45 "java/lang/IndexOutOfBoundsException") (by decide +kernel)) (hts (.initialized "java/lang/IndexOutOfBoundsException") (by decide +kernel)) hsa (vx_hat (B := [.castable "java/lang/IndexOutOfBoundsException" "java/lang/IndexOutOfBoundsException", .declares ⟨"java/lang/RuntimeException", "<init>", "(Ljava/lang/String;)V"⟩, .declares ⟨"java/lang/Exception", "<init>", "(Ljava/lang/String;)V"⟩, .declares ⟨"java/lang/Throwable", "<init>", "(Ljava/lang/String;)V"⟩]) (fun w h => hts w (hm9 w h)) (by decide +kernel) (vx_c (va_Nw.use rfl (hE.2.2.1 "java/lang/IndexOutOfBoundsException" (by decide))) (vx_c (va_Nw.use rfl (hE.2.2.2.2.2 _ (by decide))) (vx_c (va_Nw.use rfl (hE.2.2.2.2.2 _ (by decide))) (vx_c (va_Nw.use rfl (hE.2.2.2.2.2 _ (by decide))) vx_n))))) (by decide +kernel) hE.1 hE.2.1 va_S.rf (by rw [hml]; exact hl.1) dX11_tell_15 dX11_tell_18 dX11_tell_19 dX11_tell_21 dX11_tell_24 (fun x h => (hno x h).elim) (Nat.le_of_ble_eq_true rfl) (Nat.le_of_ble_eq_true rfl) (Nat.le_of_ble_eq_true rfl) (Nat.le_of_ble_eq_true rfl) hlocks (fun t _ hz hk => ⟨rfl, hz, fun q h _ => hk q h⟩) (fun z h => by cases h) (Nat.le_of_ble_eq_true rfl) (Nat.le_of_ble_eq_true rfl)
set_option maxHeartbeats 4000000 in
set_option maxRecDepth 100000 in
theorem x_define_ia (l : Launch) (hfl : l.stackTraces = false) {D : va_G} {cI cO : ClassId} {b : Nat → Nat} {ad : Nat → Nat → Nat} {st : ev_ST} {A : Nat → Prop} (hn : st.1 ≤ 12) (hTG : ∀ i, i < st.1 → ∀ j, ev_tg (st.2 i) = some j → j < st.1) {o : Nat} (ho : o < st.1) {k v : Nat} (hk : k < 20) (hv : v ≤ 9999) : vx_Met l yX11_define wsX11_define ({ frames := 6, cells := 1, slots := 6, locals := 82 }) (ev_PcX D cI cO A (ev_P D cI cO b ad st) [.ref (b 0), .int (nI o), .int (nI k), .int (nI v), .int (nI 8)]) ev_nq (ev_XC "java/lang/IllegalArgumentException") 1 6 ev_no := by
  refine ev_bodyX (cc := cX11_define) (maxL := 7) (ret := (some .char)) (by decide) rfl (Nat.le_of_ble_eq_true rfl) ?_
  intro p e s m args below meth c hx hb hr hml hown hts hlocks hnm hP hK hE hno ls hl
  have hl : lv_has ls 7 [(0, .ref (b 0)), (1, .int (nI o)), (2, .int (nI k)), (3, .int (nI v)), (4, .int (nI 8))] := hl
  have hi11 : ∀ w ∈ wsX110, w ∈ wsX11_define := by decide +kernel
  refine lv_aload_n hx hb dX11_define_0 rfl (lv_at hl 0 rfl) ?_
  refine ev_fac (v := .ref (b 1)) hx hb hts hi11 hown hK hP 0 (by decide) (hts (.fieldLink RX11 10 "EventloopRow" "things" "LEventloopRow$Things;") (by decide +kernel)) rfl dX11_define_1 ?_
  refine lv_iload_n hx hb dX11_define_4 rfl (lv_at hl 1 rfl) ?_
  refine ev_cv (As := [.int (nI o)]) (rest := []) ⟨hx, hb, hml, hown, hts⟩ (c_X8_find_v l hn (j := o) ho) (cwV 1 hts gX11_define_X8_find rfl rfl rfl (by decide +kernel) ⟨Nat.le_of_ble_eq_true rfl, Nat.le_of_ble_eq_true rfl⟩) hP hK (ev_recvT hK hP) rfl hl.1 (Nat.le_of_ble_eq_true rfl) dX11_define_5 ⟨Nat.le_of_ble_eq_true rfl, Nat.le_of_ble_eq_true rfl⟩ ?_
  refine lv_astore (lv' := [(5, .ref (ad o 0)), (0, .ref (b 0)), (1, .int (nI o)), (2, .int (nI k)), (3, .int (nI v)), (4, .int (nI 8))]) hx hb dX11_define_8 hl (by decide) rfl (fun ls hl => ?_)
  refine lv_aload hx hb dX11_define_10 (lv_at hl 0 rfl) ?_
  refine lv_ifnull hx hb dX11_define_12 ?_
  refine lv_iload_n hx hb dX11_define_15 rfl (lv_at hl 3 rfl) ?_
  refine ev_cst (As := [.int (nI k)]) (rest := []) ⟨hx, hb, hml, hown, hts⟩ (c_X11_isKey l (b := b) (ad := ad) (k := k) (by omega)) (va_cwS 1 hts gX11_define_X11_isKey rfl rfl rfl (by decide +kernel) ⟨Nat.le_of_ble_eq_true rfl, Nat.le_of_ble_eq_true rfl⟩) hP hK rfl hl.1 (Nat.le_of_ble_eq_true rfl) dX11_define_16 ⟨Nat.le_of_ble_eq_true rfl, Nat.le_of_ble_eq_true rfl⟩ ?_
  refine eb_if_ne (tgt := 32) hx hb dX11_define_19 (by decide) (fun _ => ?_) (fun h => by cases h)
  refine lv_iload_n hx hb dX11_define_32 rfl (lv_at hl 4 rfl) ?_
  refine ev_cst (As := [.int (nI v)]) (rest := []) ⟨hx, hb, hml, hown, hts⟩ (c_X11_isValue l (b := b) (ad := ad) (v := v) (by omega)) (va_cwS 1 hts gX11_define_X11_isValue rfl rfl rfl (by decide +kernel) ⟨Nat.le_of_ble_eq_true rfl, Nat.le_of_ble_eq_true rfl⟩) hP hK rfl hl.1 (Nat.le_of_ble_eq_true rfl) dX11_define_33 ⟨Nat.le_of_ble_eq_true rfl, Nat.le_of_ble_eq_true rfl⟩ ?_
  refine eb_if_eq (tgt := 51) hx hb dX11_define_36 (by decide) (fun h => by cases h) (fun _ => ?_)
  refine lv_iload hx hb dX11_define_39 (lv_at hl 5 rfl) ?_
  refine en_if_lt (tgt := 51) hx hb (by omega) dX11_define_41 (by decide) ?_
  refine lv_iload hx hb dX11_define_44 (lv_at hl 5 rfl) ?_
  refine lv_bipush (v := nI 7) hx hb dX11_define_46 (by decide) ?_
  refine en_icmp_le (tgt := 61) hx hb (by omega) (by omega) dX11_define_48 (by decide) (fun c_4 => by exfalso; omega) (fun c_4 => ?_)
  obtain ⟨sa, hsa⟩ := hE.2.2.2.1 (108, "the value or the rights are out of range") (by decide)
  have hm9 : ∀ w ∈ (vx_atS RX11 82 "java/lang/IllegalArgumentException" ["java/lang/RuntimeException", "java/lang/Exception"]).filter goodWord, w ∈ wsX11_define := by intro w h; simp only [wsX11_define, List.mem_cons, List.mem_append, h, or_true, true_or]
  exact vx_throwS (cls := "java/lang/IllegalArgumentException") (text := "the value or the rights are out of range") (names := ["java/lang/RuntimeException", "java/lang/Exception"]) (sa := sa) (A := A) hx hb hfl hown (by decide +kernel) (by decide +kernel) (hts (.classLink RX11 78 "java/lang/IllegalArgumentException") (by decide +kernel)) (hts (.initialized "java/lang/IllegalArgumentException") (by decide +kernel)) hsa (vx_hat (B := [.castable "java/lang/IllegalArgumentException" "java/lang/IllegalArgumentException", .declares ⟨"java/lang/RuntimeException", "<init>", "(Ljava/lang/String;)V"⟩, .declares ⟨"java/lang/Exception", "<init>", "(Ljava/lang/String;)V"⟩, .declares ⟨"java/lang/Throwable", "<init>", "(Ljava/lang/String;)V"⟩]) (fun w h => hts w (hm9 w h)) (by decide +kernel) (vx_c (va_Nw.use rfl (hE.2.2.1 "java/lang/IllegalArgumentException" (by decide))) (vx_c (va_Nw.use rfl (hE.2.2.2.2.2 _ (by decide))) (vx_c (va_Nw.use rfl (hE.2.2.2.2.2 _ (by decide))) (vx_c (va_Nw.use rfl (hE.2.2.2.2.2 _ (by decide))) vx_n))))) (by decide +kernel) hE.1 hE.2.1 va_S.rf (by rw [hml]; exact hl.1) dX11_define_51 dX11_define_54 dX11_define_55 dX11_define_57 dX11_define_60 (fun x h => (hno x h).elim) (Nat.le_of_ble_eq_true rfl) (Nat.le_of_ble_eq_true rfl) (Nat.le_of_ble_eq_true rfl) (Nat.le_of_ble_eq_true rfl) hlocks (fun t _ hz hk => ⟨rfl, hz, fun q h _ => hk q h⟩) (fun z h => by cases h) (Nat.le_of_ble_eq_true rfl) (Nat.le_of_ble_eq_true rfl)
set_option maxHeartbeats 4000000 in
set_option maxRecDepth 100000 in
theorem x_set_ia (l : Launch) (hfl : l.stackTraces = false) {D : va_G} {cI cO : ClassId} {b : Nat → Nat} {ad : Nat → Nat → Nat} {st : ev_ST} {A : Nat → Prop} (hn : st.1 ≤ 12) (hTG : ∀ i, i < st.1 → ∀ j, ev_tg (st.2 i) = some j → j < st.1) {o : Nat} (ho : o < st.1) {k : Nat} (hk : k < 20) : vx_Met l yX11_set wsX11_set ({ frames := 6, cells := 1, slots := 6, locals := 82 }) (ev_PcX D cI cO A (ev_P D cI cO b ad st) [.ref (b 0), .int (nI o), .int (nI k), .int (nI 10000)]) ev_nq (ev_XC "java/lang/IllegalArgumentException") 1 6 ev_no := by
  refine ev_bodyX (cc := cX11_set) (maxL := 5) (ret := (some .char)) (by decide) rfl (Nat.le_of_ble_eq_true rfl) ?_
  intro p e s m args below meth c hx hb hr hml hown hts hlocks hnm hP hK hE hno ls hl
  have hl : lv_has ls 5 [(0, .ref (b 0)), (1, .int (nI o)), (2, .int (nI k)), (3, .int (nI 10000))] := hl
  have hi11 : ∀ w ∈ wsX110, w ∈ wsX11_set := by decide +kernel
  refine lv_aload_n hx hb dX11_set_0 rfl (lv_at hl 0 rfl) ?_
  refine ev_fac (v := .ref (b 1)) hx hb hts hi11 hown hK hP 0 (by decide) (hts (.fieldLink RX11 10 "EventloopRow" "things" "LEventloopRow$Things;") (by decide +kernel)) rfl dX11_set_1 ?_
  refine lv_iload_n hx hb dX11_set_4 rfl (lv_at hl 1 rfl) ?_
  refine ev_cv (As := [.int (nI o)]) (rest := []) ⟨hx, hb, hml, hown, hts⟩ (c_X8_find_v l hn (j := o) ho) (cwV 1 hts gX11_set_X8_find rfl rfl rfl (by decide +kernel) ⟨Nat.le_of_ble_eq_true rfl, Nat.le_of_ble_eq_true rfl⟩) hP hK (ev_recvT hK hP) rfl hl.1 (Nat.le_of_ble_eq_true rfl) dX11_set_5 ⟨Nat.le_of_ble_eq_true rfl, Nat.le_of_ble_eq_true rfl⟩ ?_
  refine lv_astore (lv' := [(4, .ref (ad o 0)), (0, .ref (b 0)), (1, .int (nI o)), (2, .int (nI k)), (3, .int (nI 10000))]) hx hb dX11_set_8 hl (by decide) rfl (fun ls hl => ?_)
  refine lv_aload hx hb dX11_set_10 (lv_at hl 0 rfl) ?_
  refine lv_ifnull hx hb dX11_set_12 ?_
  refine lv_iload_n hx hb dX11_set_15 rfl (lv_at hl 3 rfl) ?_
  refine ev_cst (As := [.int (nI k)]) (rest := []) ⟨hx, hb, hml, hown, hts⟩ (c_X11_isKey l (b := b) (ad := ad) (k := k) (by omega)) (va_cwS 1 hts gX11_set_X11_isKey rfl rfl rfl (by decide +kernel) ⟨Nat.le_of_ble_eq_true rfl, Nat.le_of_ble_eq_true rfl⟩) hP hK rfl hl.1 (Nat.le_of_ble_eq_true rfl) dX11_set_16 ⟨Nat.le_of_ble_eq_true rfl, Nat.le_of_ble_eq_true rfl⟩ ?_
  refine eb_if_ne (tgt := 32) hx hb dX11_set_19 (by decide) (fun _ => ?_) (fun h => by cases h)
  refine lv_iload_n hx hb dX11_set_32 rfl (lv_at hl 4 rfl) ?_
  refine ev_cst (As := [.int (nI 10000)]) (rest := []) ⟨hx, hb, hml, hown, hts⟩ (c_X11_isValue_f l (b := b) (ad := ad)) (va_cwS 1 hts gX11_set_X11_isValue rfl rfl rfl (by decide +kernel) ⟨Nat.le_of_ble_eq_true rfl, Nat.le_of_ble_eq_true rfl⟩) hP hK rfl hl.1 (Nat.le_of_ble_eq_true rfl) dX11_set_33 ⟨Nat.le_of_ble_eq_true rfl, Nat.le_of_ble_eq_true rfl⟩ ?_
  refine eb_if_ne (tgt := 49) hx hb dX11_set_36 (by decide) (fun h => by cases h) (fun _ => ?_)
  obtain ⟨sa, hsa⟩ := hE.2.2.2.1 (118, "the value is out of range") (by decide)
  have hm9 : ∀ w ∈ (vx_atS RX11 82 "java/lang/IllegalArgumentException" ["java/lang/RuntimeException", "java/lang/Exception"]).filter goodWord, w ∈ wsX11_set := by intro w h; simp only [wsX11_set, List.mem_cons, List.mem_append, h, or_true, true_or]
  exact vx_throwS (cls := "java/lang/IllegalArgumentException") (text := "the value is out of range") (names := ["java/lang/RuntimeException", "java/lang/Exception"]) (sa := sa) (A := A) hx hb hfl hown (by decide +kernel) (by decide +kernel) (hts (.classLink RX11 78 "java/lang/IllegalArgumentException") (by decide +kernel)) (hts (.initialized "java/lang/IllegalArgumentException") (by decide +kernel)) hsa (vx_hat (B := [.castable "java/lang/IllegalArgumentException" "java/lang/IllegalArgumentException", .declares ⟨"java/lang/RuntimeException", "<init>", "(Ljava/lang/String;)V"⟩, .declares ⟨"java/lang/Exception", "<init>", "(Ljava/lang/String;)V"⟩, .declares ⟨"java/lang/Throwable", "<init>", "(Ljava/lang/String;)V"⟩]) (fun w h => hts w (hm9 w h)) (by decide +kernel) (vx_c (va_Nw.use rfl (hE.2.2.1 "java/lang/IllegalArgumentException" (by decide))) (vx_c (va_Nw.use rfl (hE.2.2.2.2.2 _ (by decide))) (vx_c (va_Nw.use rfl (hE.2.2.2.2.2 _ (by decide))) (vx_c (va_Nw.use rfl (hE.2.2.2.2.2 _ (by decide))) vx_n))))) (by decide +kernel) hE.1 hE.2.1 va_S.rf (by rw [hml]; exact hl.1) dX11_set_39 dX11_set_42 dX11_set_43 dX11_set_45 dX11_set_48 (fun x h => (hno x h).elim) (Nat.le_of_ble_eq_true rfl) (Nat.le_of_ble_eq_true rfl) (Nat.le_of_ble_eq_true rfl) (Nat.le_of_ble_eq_true rfl) hlocks (fun t _ hz hk => ⟨rfl, hz, fun q h _ => hk q h⟩) (fun z h => by cases h) (Nat.le_of_ble_eq_true rfl) (Nat.le_of_ble_eq_true rfl)
set_option maxHeartbeats 4000000 in
set_option maxRecDepth 100000 in
theorem x_tell_ia_x (l : Launch) (hfl : l.stackTraces = false) {D : va_G} {cI cO : ClassId} {b : Nat → Nat} {ad : Nat → Nat → Nat} {st : ev_ST} {A : Nat → Prop} (hn : st.1 ≤ 12) (hTG : ∀ i, i < st.1 → ∀ j, ev_tg (st.2 i) = some j → j < st.1) {o : Nat} (ho : o < st.1) {v : Nat} : vx_Met l yX11_tell wsX11_tell ({ frames := 6, cells := 1, slots := 6, locals := 82 }) (ev_PcX D cI cO A (ev_P D cI cO b ad st) [.ref (b 0), .int (nI o), .int (nI 120), .int (nI v)]) ev_nq (ev_XC "java/lang/IllegalArgumentException") 1 6 ev_no := by
  refine ev_bodyX (cc := cX11_tell) (maxL := 7) (ret := (some .boolean)) (by decide) rfl (Nat.le_of_ble_eq_true rfl) ?_
  intro p e s m args below meth c hx hb hr hml hown hts hlocks hnm hP hK hE hno ls hl
  have hl : lv_has ls 7 [(0, .ref (b 0)), (1, .int (nI o)), (2, .int (nI 120)), (3, .int (nI v))] := hl
  have hi11 : ∀ w ∈ wsX110, w ∈ wsX11_tell := by decide +kernel
  refine lv_aload_n hx hb dX11_tell_0 rfl (lv_at hl 0 rfl) ?_
  refine ev_fac (v := .ref (b 1)) hx hb hts hi11 hown hK hP 0 (by decide) (hts (.fieldLink RX11 10 "EventloopRow" "things" "LEventloopRow$Things;") (by decide +kernel)) rfl dX11_tell_1 ?_
  refine lv_iload_n hx hb dX11_tell_4 rfl (lv_at hl 1 rfl) ?_
  refine ev_cv (As := [.int (nI o)]) (rest := []) ⟨hx, hb, hml, hown, hts⟩ (c_X8_find_v l hn (j := o) ho) (cwV 1 hts gX11_tell_X8_find rfl rfl rfl (by decide +kernel) ⟨Nat.le_of_ble_eq_true rfl, Nat.le_of_ble_eq_true rfl⟩) hP hK (ev_recvT hK hP) rfl hl.1 (Nat.le_of_ble_eq_true rfl) dX11_tell_5 ⟨Nat.le_of_ble_eq_true rfl, Nat.le_of_ble_eq_true rfl⟩ ?_
  refine lv_astore (lv' := [(4, .ref (ad o 0)), (0, .ref (b 0)), (1, .int (nI o)), (2, .int (nI 120)), (3, .int (nI v))]) hx hb dX11_tell_8 hl (by decide) rfl (fun ls hl => ?_)
  refine lv_aload hx hb dX11_tell_10 (lv_at hl 0 rfl) ?_
  refine lv_ifnonnull (tgt := 25) hx hb dX11_tell_12 (by decide) ?_
  refine lv_iload_n hx hb dX11_tell_25 rfl (lv_at hl 3 rfl) ?_
  refine ev_cst (As := [.int (nI 120)]) (rest := []) ⟨hx, hb, hml, hown, hts⟩ (c_X11_kindOf_x l (b := b) (ad := ad)) (va_cwS 1 hts gX11_tell_X11_kindOf rfl rfl rfl (by decide +kernel) ⟨Nat.le_of_ble_eq_true rfl, Nat.le_of_ble_eq_true rfl⟩) hP hK rfl hl.1 (Nat.le_of_ble_eq_true rfl) dX11_tell_26 ⟨Nat.le_of_ble_eq_true rfl, Nat.le_of_ble_eq_true rfl⟩ ?_
  refine lv_istore (lv' := [(5, .int (-1)), (4, .ref (ad o 0)), (0, .ref (b 0)), (1, .int (nI o)), (2, .int (nI 120)), (3, .int (nI v))]) hx hb dX11_tell_29 hl (by decide) rfl (fun ls hl => ?_)
  refine lv_iload hx hb dX11_tell_31 (lv_at hl 0 rfl) ?_
  refine lv_iconst (v := -1) hx hb dX11_tell_33 (by decide) ?_
  refine lv_icmp_eq (tgt := 46) hx hb dX11_tell_34 (by decide) (fun _ => ?_) (fun h => absurd h (by decide))
  obtain ⟨sa, hsa⟩ := hE.2.2.2.1 (80, "no such letter, or the answer is out of range") (by decide)
  have hm9 : ∀ w ∈ (vx_atS RX11 82 "java/lang/IllegalArgumentException" ["java/lang/RuntimeException", "java/lang/Exception"]).filter goodWord, w ∈ wsX11_tell := by intro w h; simp only [wsX11_tell, List.mem_cons, List.mem_append, h, or_true, true_or]
  exact vx_throwS (cls := "java/lang/IllegalArgumentException") (text := "no such letter, or the answer is out of range") (names := ["java/lang/RuntimeException", "java/lang/Exception"]) (sa := sa) (A := A) hx hb hfl hown (by decide +kernel) (by decide +kernel) (hts (.classLink RX11 78 "java/lang/IllegalArgumentException") (by decide +kernel)) (hts (.initialized "java/lang/IllegalArgumentException") (by decide +kernel)) hsa (vx_hat (B := [.castable "java/lang/IllegalArgumentException" "java/lang/IllegalArgumentException", .declares ⟨"java/lang/RuntimeException", "<init>", "(Ljava/lang/String;)V"⟩, .declares ⟨"java/lang/Exception", "<init>", "(Ljava/lang/String;)V"⟩, .declares ⟨"java/lang/Throwable", "<init>", "(Ljava/lang/String;)V"⟩]) (fun w h => hts w (hm9 w h)) (by decide +kernel) (vx_c (va_Nw.use rfl (hE.2.2.1 "java/lang/IllegalArgumentException" (by decide))) (vx_c (va_Nw.use rfl (hE.2.2.2.2.2 _ (by decide))) (vx_c (va_Nw.use rfl (hE.2.2.2.2.2 _ (by decide))) (vx_c (va_Nw.use rfl (hE.2.2.2.2.2 _ (by decide))) vx_n))))) (by decide +kernel) hE.1 hE.2.1 va_S.rf (by rw [hml]; exact hl.1) dX11_tell_46 dX11_tell_49 dX11_tell_50 dX11_tell_52 dX11_tell_55 (fun x h => (hno x h).elim) (Nat.le_of_ble_eq_true rfl) (Nat.le_of_ble_eq_true rfl) (Nat.le_of_ble_eq_true rfl) (Nat.le_of_ble_eq_true rfl) hlocks (fun t _ hz hk => ⟨rfl, hz, fun q h _ => hk q h⟩) (fun z h => by cases h) (Nat.le_of_ble_eq_true rfl) (Nat.le_of_ble_eq_true rfl)
set_option maxHeartbeats 4000000 in
set_option maxRecDepth 100000 in
theorem x_tell_ia_2 (l : Launch) (hfl : l.stackTraces = false) {D : va_G} {cI cO : ClassId} {b : Nat → Nat} {ad : Nat → Nat → Nat} {st : ev_ST} {A : Nat → Prop} (hn : st.1 ≤ 12) (hTG : ∀ i, i < st.1 → ∀ j, ev_tg (st.2 i) = some j → j < st.1) {o : Nat} (ho : o < st.1) : vx_Met l yX11_tell wsX11_tell ({ frames := 6, cells := 1, slots := 6, locals := 82 }) (ev_PcX D cI cO A (ev_P D cI cO b ad st) [.ref (b 0), .int (nI o), .int (nI 104), .int (nI 2)]) ev_nq (ev_XC "java/lang/IllegalArgumentException") 1 6 ev_no := by
  refine ev_bodyX (cc := cX11_tell) (maxL := 7) (ret := (some .boolean)) (by decide) rfl (Nat.le_of_ble_eq_true rfl) ?_
  intro p e s m args below meth c hx hb hr hml hown hts hlocks hnm hP hK hE hno ls hl
  have hl : lv_has ls 7 [(0, .ref (b 0)), (1, .int (nI o)), (2, .int (nI 104)), (3, .int (nI 2))] := hl
  have hi11 : ∀ w ∈ wsX110, w ∈ wsX11_tell := by decide +kernel
  refine lv_aload_n hx hb dX11_tell_0 rfl (lv_at hl 0 rfl) ?_
  refine ev_fac (v := .ref (b 1)) hx hb hts hi11 hown hK hP 0 (by decide) (hts (.fieldLink RX11 10 "EventloopRow" "things" "LEventloopRow$Things;") (by decide +kernel)) rfl dX11_tell_1 ?_
  refine lv_iload_n hx hb dX11_tell_4 rfl (lv_at hl 1 rfl) ?_
  refine ev_cv (As := [.int (nI o)]) (rest := []) ⟨hx, hb, hml, hown, hts⟩ (c_X8_find_v l hn (j := o) ho) (cwV 1 hts gX11_tell_X8_find rfl rfl rfl (by decide +kernel) ⟨Nat.le_of_ble_eq_true rfl, Nat.le_of_ble_eq_true rfl⟩) hP hK (ev_recvT hK hP) rfl hl.1 (Nat.le_of_ble_eq_true rfl) dX11_tell_5 ⟨Nat.le_of_ble_eq_true rfl, Nat.le_of_ble_eq_true rfl⟩ ?_
  refine lv_astore (lv' := [(4, .ref (ad o 0)), (0, .ref (b 0)), (1, .int (nI o)), (2, .int (nI 104)), (3, .int (nI 2))]) hx hb dX11_tell_8 hl (by decide) rfl (fun ls hl => ?_)
  refine lv_aload hx hb dX11_tell_10 (lv_at hl 0 rfl) ?_
  refine lv_ifnonnull (tgt := 25) hx hb dX11_tell_12 (by decide) ?_
  refine lv_iload_n hx hb dX11_tell_25 rfl (lv_at hl 3 rfl) ?_
  refine ev_cst (As := [.int (nI 104)]) (rest := []) ⟨hx, hb, hml, hown, hts⟩ (c_X11_kindOf_h l (b := b) (ad := ad)) (va_cwS 1 hts gX11_tell_X11_kindOf rfl rfl rfl (by decide +kernel) ⟨Nat.le_of_ble_eq_true rfl, Nat.le_of_ble_eq_true rfl⟩) hP hK rfl hl.1 (Nat.le_of_ble_eq_true rfl) dX11_tell_26 ⟨Nat.le_of_ble_eq_true rfl, Nat.le_of_ble_eq_true rfl⟩ ?_
  refine lv_istore (lv' := [(5, .int (nI 1)), (4, .ref (ad o 0)), (0, .ref (b 0)), (1, .int (nI o)), (2, .int (nI 104)), (3, .int (nI 2))]) hx hb dX11_tell_29 hl (by decide) rfl (fun ls hl => ?_)
  refine lv_iload hx hb dX11_tell_31 (lv_at hl 0 rfl) ?_
  refine lv_iconst (v := -1) hx hb dX11_tell_33 (by decide) ?_
  refine lv_icmp_eq (tgt := 46) hx hb dX11_tell_34 (by decide) (fun h => absurd h (by decide)) (fun _ => ?_)
  refine lv_iload hx hb dX11_tell_37 (lv_at hl 0 rfl) ?_
  refine lv_iload_n hx hb dX11_tell_39 rfl (lv_at hl 5 rfl) ?_
  refine ev_cst (As := [.int (nI 1), .int (nI 2)]) (rest := []) ⟨hx, hb, hml, hown, hts⟩ (c_X11_isAnswer_f l (b := b) (ad := ad)) (va_cwS 2 hts gX11_tell_X11_isAnswer rfl rfl rfl (by decide +kernel) ⟨Nat.le_of_ble_eq_true rfl, Nat.le_of_ble_eq_true rfl⟩) hP hK rfl hl.1 (Nat.le_of_ble_eq_true rfl) dX11_tell_40 ⟨Nat.le_of_ble_eq_true rfl, Nat.le_of_ble_eq_true rfl⟩ ?_
  refine eb_if_ne (tgt := 56) hx hb dX11_tell_43 (by decide) (fun h => by cases h) (fun _ => ?_)
  obtain ⟨sa, hsa⟩ := hE.2.2.2.1 (80, "no such letter, or the answer is out of range") (by decide)
  have hm9 : ∀ w ∈ (vx_atS RX11 82 "java/lang/IllegalArgumentException" ["java/lang/RuntimeException", "java/lang/Exception"]).filter goodWord, w ∈ wsX11_tell := by intro w h; simp only [wsX11_tell, List.mem_cons, List.mem_append, h, or_true, true_or]
  exact vx_throwS (cls := "java/lang/IllegalArgumentException") (text := "no such letter, or the answer is out of range") (names := ["java/lang/RuntimeException", "java/lang/Exception"]) (sa := sa) (A := A) hx hb hfl hown (by decide +kernel) (by decide +kernel) (hts (.classLink RX11 78 "java/lang/IllegalArgumentException") (by decide +kernel)) (hts (.initialized "java/lang/IllegalArgumentException") (by decide +kernel)) hsa (vx_hat (B := [.castable "java/lang/IllegalArgumentException" "java/lang/IllegalArgumentException", .declares ⟨"java/lang/RuntimeException", "<init>", "(Ljava/lang/String;)V"⟩, .declares ⟨"java/lang/Exception", "<init>", "(Ljava/lang/String;)V"⟩, .declares ⟨"java/lang/Throwable", "<init>", "(Ljava/lang/String;)V"⟩]) (fun w h => hts w (hm9 w h)) (by decide +kernel) (vx_c (va_Nw.use rfl (hE.2.2.1 "java/lang/IllegalArgumentException" (by decide))) (vx_c (va_Nw.use rfl (hE.2.2.2.2.2 _ (by decide))) (vx_c (va_Nw.use rfl (hE.2.2.2.2.2 _ (by decide))) (vx_c (va_Nw.use rfl (hE.2.2.2.2.2 _ (by decide))) vx_n))))) (by decide +kernel) hE.1 hE.2.1 va_S.rf (by rw [hml]; exact hl.1) dX11_tell_46 dX11_tell_49 dX11_tell_50 dX11_tell_52 dX11_tell_55 (fun x h => (hno x h).elim) (Nat.le_of_ble_eq_true rfl) (Nat.le_of_ble_eq_true rfl) (Nat.le_of_ble_eq_true rfl) (Nat.le_of_ble_eq_true rfl) hlocks (fun t _ hz hk => ⟨rfl, hz, fun q h _ => hk q h⟩) (fun z h => by cases h) (Nat.le_of_ble_eq_true rfl) (Nat.le_of_ble_eq_true rfl)
set_option maxHeartbeats 4000000 in
set_option maxRecDepth 100000 in
theorem x_tell_is (l : Launch) (hfl : l.stackTraces = false) {D : va_G} {cI cO : ClassId} {b : Nat → Nat} {ad : Nat → Nat → Nat} {st : ev_ST} {A : Nat → Prop} (hn : st.1 ≤ 12) (hTG : ∀ i, i < st.1 → ∀ j, ev_tg (st.2 i) = some j → j < st.1) {o : Nat} (ho : o < st.1) (hpx : (ev_tg (st.2 o)).isSome = false) {v : Nat} (hv : v ≤ 9999) : vx_Met l yX11_tell wsX11_tell ({ frames := 6, cells := 1, slots := 6, locals := 82 }) (ev_PcX D cI cO A (ev_P D cI cO b ad st) [.ref (b 0), .int (nI o), .int (nI 103), .int (nI v)]) ev_nq (ev_XC "java/lang/IllegalStateException") 1 6 ev_no := by
  refine ev_bodyX (cc := cX11_tell) (maxL := 7) (ret := (some .boolean)) (by decide) rfl (Nat.le_of_ble_eq_true rfl) ?_
  intro p e s m args below meth c hx hb hr hml hown hts hlocks hnm hP hK hE hno ls hl
  have hl : lv_has ls 7 [(0, .ref (b 0)), (1, .int (nI o)), (2, .int (nI 103)), (3, .int (nI v))] := hl
  have hi11 : ∀ w ∈ wsX110, w ∈ wsX11_tell := by decide +kernel
  refine lv_aload_n hx hb dX11_tell_0 rfl (lv_at hl 0 rfl) ?_
  refine ev_fac (v := .ref (b 1)) hx hb hts hi11 hown hK hP 0 (by decide) (hts (.fieldLink RX11 10 "EventloopRow" "things" "LEventloopRow$Things;") (by decide +kernel)) rfl dX11_tell_1 ?_
  refine lv_iload_n hx hb dX11_tell_4 rfl (lv_at hl 1 rfl) ?_
  refine ev_cv (As := [.int (nI o)]) (rest := []) ⟨hx, hb, hml, hown, hts⟩ (c_X8_find_v l hn (j := o) ho) (cwV 1 hts gX11_tell_X8_find rfl rfl rfl (by decide +kernel) ⟨Nat.le_of_ble_eq_true rfl, Nat.le_of_ble_eq_true rfl⟩) hP hK (ev_recvT hK hP) rfl hl.1 (Nat.le_of_ble_eq_true rfl) dX11_tell_5 ⟨Nat.le_of_ble_eq_true rfl, Nat.le_of_ble_eq_true rfl⟩ ?_
  refine lv_astore (lv' := [(4, .ref (ad o 0)), (0, .ref (b 0)), (1, .int (nI o)), (2, .int (nI 103)), (3, .int (nI v))]) hx hb dX11_tell_8 hl (by decide) rfl (fun ls hl => ?_)
  refine lv_aload hx hb dX11_tell_10 (lv_at hl 0 rfl) ?_
  refine lv_ifnonnull (tgt := 25) hx hb dX11_tell_12 (by decide) ?_
  refine lv_iload_n hx hb dX11_tell_25 rfl (lv_at hl 3 rfl) ?_
  refine ev_cst (As := [.int (nI 103)]) (rest := []) ⟨hx, hb, hml, hown, hts⟩ (c_X11_kindOf_g l (b := b) (ad := ad)) (va_cwS 1 hts gX11_tell_X11_kindOf rfl rfl rfl (by decide +kernel) ⟨Nat.le_of_ble_eq_true rfl, Nat.le_of_ble_eq_true rfl⟩) hP hK rfl hl.1 (Nat.le_of_ble_eq_true rfl) dX11_tell_26 ⟨Nat.le_of_ble_eq_true rfl, Nat.le_of_ble_eq_true rfl⟩ ?_
  refine lv_istore (lv' := [(5, .int (nI 0)), (4, .ref (ad o 0)), (0, .ref (b 0)), (1, .int (nI o)), (2, .int (nI 103)), (3, .int (nI v))]) hx hb dX11_tell_29 hl (by decide) rfl (fun ls hl => ?_)
  refine lv_iload hx hb dX11_tell_31 (lv_at hl 0 rfl) ?_
  refine lv_iconst (v := -1) hx hb dX11_tell_33 (by decide) ?_
  refine lv_icmp_eq (tgt := 46) hx hb dX11_tell_34 (by decide) (fun h => absurd h (by decide)) (fun _ => ?_)
  refine lv_iload hx hb dX11_tell_37 (lv_at hl 0 rfl) ?_
  refine lv_iload_n hx hb dX11_tell_39 rfl (lv_at hl 5 rfl) ?_
  refine ev_cst (As := [.int (nI 0), .int (nI v)]) (rest := []) ⟨hx, hb, hml, hown, hts⟩ (c_X11_isAnswer_0 l (b := b) (ad := ad) (v := v) (by omega)) (va_cwS 2 hts gX11_tell_X11_isAnswer rfl rfl rfl (by decide +kernel) ⟨Nat.le_of_ble_eq_true rfl, Nat.le_of_ble_eq_true rfl⟩) hP hK rfl hl.1 (Nat.le_of_ble_eq_true rfl) dX11_tell_40 ⟨Nat.le_of_ble_eq_true rfl, Nat.le_of_ble_eq_true rfl⟩ ?_
  refine eb_if_ne (tgt := 56) hx hb dX11_tell_43 (by decide) (fun _ => ?_) (fun h => by cases h)
  refine lv_aload hx hb dX11_tell_56 (lv_at hl 1 rfl) ?_
  refine ev_cv (As := []) (rest := []) ⟨hx, hb, hml, hown, hts⟩ (c_X7_isProxy l ho rfl) (cwV 0 hts gX11_tell_X7_isProxy rfl rfl rfl (by decide +kernel) ⟨Nat.le_of_ble_eq_true rfl, Nat.le_of_ble_eq_true rfl⟩) hP hK (ev_recv hK hP ho) rfl hl.1 (Nat.le_of_ble_eq_true rfl) dX11_tell_58 ⟨Nat.le_of_ble_eq_true rfl, Nat.le_of_ble_eq_true rfl⟩ ?_
  refine eb_if_ne (tgt := 74) hx hb dX11_tell_61 (by decide) (fun c_3 => by exfalso; rw [hpx] at c_3; cases c_3) (fun c_3 => ?_)
  obtain ⟨sa, hsa⟩ := hE.2.2.2.1 (86, "it is no proxy") (by decide)
  have hm9 : ∀ w ∈ (vx_atS RX11 60 "java/lang/IllegalStateException" ["java/lang/RuntimeException", "java/lang/Exception"]).filter goodWord, w ∈ wsX11_tell := by intro w h; simp only [wsX11_tell, List.mem_cons, List.mem_append, h, or_true, true_or]
  exact vx_throwS (cls := "java/lang/IllegalStateException") (text := "it is no proxy") (names := ["java/lang/RuntimeException", "java/lang/Exception"]) (sa := sa) (A := A) hx hb hfl hown (by decide +kernel) (by decide +kernel) (hts (.classLink RX11 56 "java/lang/IllegalStateException") (by decide +kernel)) (hts (.initialized "java/lang/IllegalStateException") (by decide +kernel)) hsa (vx_hat (B := [.castable "java/lang/IllegalStateException" "java/lang/IllegalStateException", .declares ⟨"java/lang/RuntimeException", "<init>", "(Ljava/lang/String;)V"⟩, .declares ⟨"java/lang/Exception", "<init>", "(Ljava/lang/String;)V"⟩, .declares ⟨"java/lang/Throwable", "<init>", "(Ljava/lang/String;)V"⟩]) (fun w h => hts w (hm9 w h)) (by decide +kernel) (vx_c (va_Nw.use rfl (hE.2.2.1 "java/lang/IllegalStateException" (by decide))) (vx_c (va_Nw.use rfl (hE.2.2.2.2.2 _ (by decide))) (vx_c (va_Nw.use rfl (hE.2.2.2.2.2 _ (by decide))) (vx_c (va_Nw.use rfl (hE.2.2.2.2.2 _ (by decide))) vx_n))))) (by decide +kernel) hE.1 hE.2.1 va_S.rf (by rw [hml]; exact hl.1) dX11_tell_64 dX11_tell_67 dX11_tell_68 dX11_tell_70 dX11_tell_73 (fun x h => (hno x h).elim) (Nat.le_of_ble_eq_true rfl) (Nat.le_of_ble_eq_true rfl) (Nat.le_of_ble_eq_true rfl) (Nat.le_of_ble_eq_true rfl) hlocks (fun t _ hz hk => ⟨rfl, hz, fun q h _ => hk q h⟩) (fun z h => by cases h) (Nat.le_of_ble_eq_true rfl) (Nat.le_of_ble_eq_true rfl)
set_option maxHeartbeats 4000000 in
set_option maxRecDepth 100000 in
theorem x_revoke_is (l : Launch) (hfl : l.stackTraces = false) {D : va_G} {cI cO : ClassId} {b : Nat → Nat} {ad : Nat → Nat → Nat} {st : ev_ST} {A : Nat → Prop} (hn : st.1 ≤ 12) (hTG : ∀ i, i < st.1 → ∀ j, ev_tg (st.2 i) = some j → j < st.1) {o : Nat} (ho : o < st.1) (hpx : (ev_tg (st.2 o)).isSome = false) : vx_Met l yX11_revoke wsX11_revoke ({ frames := 6, cells := 1, slots := 6, locals := 82 }) (ev_PcX D cI cO A (ev_P D cI cO b ad st) [.ref (b 0), .int (nI o)]) ev_nq (ev_XC "java/lang/IllegalStateException") 1 6 ev_no := by
  refine ev_bodyX (cc := cX11_revoke) (maxL := 4) (ret := (some .boolean)) (by decide) rfl (Nat.le_of_ble_eq_true rfl) ?_
  intro p e s m args below meth c hx hb hr hml hown hts hlocks hnm hP hK hE hno ls hl
  have hl : lv_has ls 4 [(0, .ref (b 0)), (1, .int (nI o))] := hl
  have hi11 : ∀ w ∈ wsX110, w ∈ wsX11_revoke := by decide +kernel
  refine lv_aload_n hx hb dX11_revoke_0 rfl (lv_at hl 0 rfl) ?_
  refine ev_fac (v := .ref (b 1)) hx hb hts hi11 hown hK hP 0 (by decide) (hts (.fieldLink RX11 10 "EventloopRow" "things" "LEventloopRow$Things;") (by decide +kernel)) rfl dX11_revoke_1 ?_
  refine lv_iload_n hx hb dX11_revoke_4 rfl (lv_at hl 1 rfl) ?_
  refine ev_cv (As := [.int (nI o)]) (rest := []) ⟨hx, hb, hml, hown, hts⟩ (c_X8_find_v l hn (j := o) ho) (cwV 1 hts gX11_revoke_X8_find rfl rfl rfl (by decide +kernel) ⟨Nat.le_of_ble_eq_true rfl, Nat.le_of_ble_eq_true rfl⟩) hP hK (ev_recvT hK hP) rfl hl.1 (Nat.le_of_ble_eq_true rfl) dX11_revoke_5 ⟨Nat.le_of_ble_eq_true rfl, Nat.le_of_ble_eq_true rfl⟩ ?_
  refine lv_astore_n (lv' := [(2, .ref (ad o 0)), (0, .ref (b 0)), (1, .int (nI o))]) hx hb dX11_revoke_8 rfl hl (by decide) rfl (fun ls hl => ?_)
  refine lv_aload_n hx hb dX11_revoke_9 rfl (lv_at hl 0 rfl) ?_
  refine lv_ifnonnull (tgt := 23) hx hb dX11_revoke_10 (by decide) ?_
  refine lv_aload_n hx hb dX11_revoke_23 rfl (lv_at hl 0 rfl) ?_
  refine ev_cv (As := []) (rest := []) ⟨hx, hb, hml, hown, hts⟩ (c_X7_isProxy l ho rfl) (cwV 0 hts gX11_revoke_X7_isProxy rfl rfl rfl (by decide +kernel) ⟨Nat.le_of_ble_eq_true rfl, Nat.le_of_ble_eq_true rfl⟩) hP hK (ev_recv hK hP ho) rfl hl.1 (Nat.le_of_ble_eq_true rfl) dX11_revoke_24 ⟨Nat.le_of_ble_eq_true rfl, Nat.le_of_ble_eq_true rfl⟩ ?_
  refine eb_if_ne (tgt := 40) hx hb dX11_revoke_27 (by decide) (fun c_1 => by exfalso; rw [hpx] at c_1; cases c_1) (fun c_1 => ?_)
  obtain ⟨sa, hsa⟩ := hE.2.2.2.1 (86, "it is no proxy") (by decide)
  have hm9 : ∀ w ∈ (vx_atS RX11 60 "java/lang/IllegalStateException" ["java/lang/RuntimeException", "java/lang/Exception"]).filter goodWord, w ∈ wsX11_revoke := by intro w h; simp only [wsX11_revoke, List.mem_cons, List.mem_append, h, or_true, true_or]
  exact vx_throwS (cls := "java/lang/IllegalStateException") (text := "it is no proxy") (names := ["java/lang/RuntimeException", "java/lang/Exception"]) (sa := sa) (A := A) hx hb hfl hown (by decide +kernel) (by decide +kernel) (hts (.classLink RX11 56 "java/lang/IllegalStateException") (by decide +kernel)) (hts (.initialized "java/lang/IllegalStateException") (by decide +kernel)) hsa (vx_hat (B := [.castable "java/lang/IllegalStateException" "java/lang/IllegalStateException", .declares ⟨"java/lang/RuntimeException", "<init>", "(Ljava/lang/String;)V"⟩, .declares ⟨"java/lang/Exception", "<init>", "(Ljava/lang/String;)V"⟩, .declares ⟨"java/lang/Throwable", "<init>", "(Ljava/lang/String;)V"⟩]) (fun w h => hts w (hm9 w h)) (by decide +kernel) (vx_c (va_Nw.use rfl (hE.2.2.1 "java/lang/IllegalStateException" (by decide))) (vx_c (va_Nw.use rfl (hE.2.2.2.2.2 _ (by decide))) (vx_c (va_Nw.use rfl (hE.2.2.2.2.2 _ (by decide))) (vx_c (va_Nw.use rfl (hE.2.2.2.2.2 _ (by decide))) vx_n))))) (by decide +kernel) hE.1 hE.2.1 va_S.rf (by rw [hml]; exact hl.1) dX11_revoke_30 dX11_revoke_33 dX11_revoke_34 dX11_revoke_36 dX11_revoke_39 (fun x h => (hno x h).elim) (Nat.le_of_ble_eq_true rfl) (Nat.le_of_ble_eq_true rfl) (Nat.le_of_ble_eq_true rfl) (Nat.le_of_ble_eq_true rfl) hlocks (fun t _ hz hk => ⟨rfl, hz, fun q h _ => hk q h⟩) (fun z h => by cases h) (Nat.le_of_ble_eq_true rfl) (Nat.le_of_ble_eq_true rfl)
set_option maxHeartbeats 4000000 in
set_option maxRecDepth 100000 in
theorem x_get_uo (l : Launch) (hfl : l.stackTraces = false) {D : va_G} {cI cO : ClassId} {b : Nat → Nat} {ad : Nat → Nat → Nat} {st : ev_ST} {A : Nat → Prop} (hn : st.1 ≤ 12) (hTG : ∀ i, i < st.1 → ∀ j, ev_tg (st.2 i) = some j → j < st.1) (hCH : ∀ i, i < st.1 → ∀ j, ev_ch (st.2 i) = some j → j < st.1) {o : Nat} (ho : o < st.1) {k : Nat} (hk : k < 20) (hF : ev_gf st k 30 (some o) = 1099511627776) : vx_Met l yX11_get wsX11_get ({ frames := 6, cells := 1, slots := 6, locals := 82 }) (ev_PcX D cI cO A (ev_P D cI cO b ad st) [.ref (b 0), .int (nI o), .int (nI k)]) ev_nq (ev_XC "java/lang/UnsupportedOperationException") 1 6 ev_no := by
  refine ev_bodyX (cc := cX11_get) (maxL := 6) (ret := (some .int)) (by decide) rfl (Nat.le_of_ble_eq_true rfl) ?_
  intro p e s m args below meth c hx hb hr hml hown hts hlocks hnm hP hK hE hno ls hl
  have hl : lv_has ls 6 [(0, .ref (b 0)), (1, .int (nI o)), (2, .int (nI k))] := hl
  have hi11 : ∀ w ∈ wsX110, w ∈ wsX11_get := by decide +kernel
  refine lv_aload_n hx hb dX11_get_0 rfl (lv_at hl 0 rfl) ?_
  refine ev_fac (v := .ref (b 1)) hx hb hts hi11 hown hK hP 0 (by decide) (hts (.fieldLink RX11 10 "EventloopRow" "things" "LEventloopRow$Things;") (by decide +kernel)) rfl dX11_get_1 ?_
  refine lv_iload_n hx hb dX11_get_4 rfl (lv_at hl 1 rfl) ?_
  refine ev_cv (As := [.int (nI o)]) (rest := []) ⟨hx, hb, hml, hown, hts⟩ (c_X8_find_v l hn (j := o) ho) (cwV 1 hts gX11_get_X8_find rfl rfl rfl (by decide +kernel) ⟨Nat.le_of_ble_eq_true rfl, Nat.le_of_ble_eq_true rfl⟩) hP hK (ev_recvT hK hP) rfl hl.1 (Nat.le_of_ble_eq_true rfl) dX11_get_5 ⟨Nat.le_of_ble_eq_true rfl, Nat.le_of_ble_eq_true rfl⟩ ?_
  refine lv_astore_n (lv' := [(3, .ref (ad o 0)), (0, .ref (b 0)), (1, .int (nI o)), (2, .int (nI k))]) hx hb dX11_get_8 rfl hl (by decide) rfl (fun ls hl => ?_)
  refine lv_aload_n hx hb dX11_get_9 rfl (lv_at hl 0 rfl) ?_
  refine lv_ifnull hx hb dX11_get_10 ?_
  refine lv_iload_n hx hb dX11_get_13 rfl (lv_at hl 3 rfl) ?_
  refine ev_cst (As := [.int (nI k)]) (rest := []) ⟨hx, hb, hml, hown, hts⟩ (c_X11_isKey l (b := b) (ad := ad) (k := k) (by omega)) (va_cwS 1 hts gX11_get_X11_isKey rfl rfl rfl (by decide +kernel) ⟨Nat.le_of_ble_eq_true rfl, Nat.le_of_ble_eq_true rfl⟩) hP hK rfl hl.1 (Nat.le_of_ble_eq_true rfl) dX11_get_14 ⟨Nat.le_of_ble_eq_true rfl, Nat.le_of_ble_eq_true rfl⟩ ?_
  refine eb_if_ne (tgt := 30) hx hb dX11_get_17 (by decide) (fun _ => ?_) (fun h => by cases h)
  refine lv_aload_n hx hb dX11_get_30 rfl (lv_at hl 1 rfl) ?_
  refine ev_fac (v := .ref (b 1)) hx hb hts hi11 hown hK hP 0 (by decide) (hts (.fieldLink RX11 10 "EventloopRow" "things" "LEventloopRow$Things;") (by decide +kernel)) rfl dX11_get_31 ?_
  refine lv_aload_n hx hb dX11_get_34 rfl (lv_at hl 0 rfl) ?_
  refine lv_iload_n hx hb dX11_get_35 rfl (lv_at hl 3 rfl) ?_
  refine ev_cv (As := [.ref (ad o 0), .int (nI k)]) (rest := []) ⟨hx, hb, hml, hown, hts⟩ (c_X8_getFrom l hn hTG hCH ho (k := k) (by omega)) (cwV 2 hts gX11_get_X8_getFrom rfl rfl rfl (by decide +kernel) ⟨Nat.le_of_ble_eq_true rfl, Nat.le_of_ble_eq_true rfl⟩) hP hK (ev_recvT hK hP) rfl hl.1 (Nat.le_of_ble_eq_true rfl) dX11_get_36 ⟨Nat.le_of_ble_eq_true rfl, Nat.le_of_ble_eq_true rfl⟩ ?_
  refine lv_lstore (lv' := [(4, .long (ev_gf st k 30 (some o))), (3, .ref (ad o 0)), (0, .ref (b 0)), (1, .int (nI o)), (2, .int (nI k))]) hx hb dX11_get_39 hl (by decide) rfl (fun ls hl => ?_)
  refine lv_lload hx hb dX11_get_41 (lv_at hl 0 rfl) ?_
  refine lv_ldc2 (v := 1099511627776) hx hb hown (hts (.constantLong RX11 128 (1099511627776)) (by decide +kernel)) dX11_get_43 ?_
  refine W.lcmp hx hb dX11_get_46 ?_
  refine lv_if_ne (tgt := 60) hx hb dX11_get_47 (by decide) (fun c_2 => by exfalso; exact c_2 (ev_cmp0.mpr hF)) (fun c_2 => ?_)
  obtain ⟨sa, hsa⟩ := hE.2.2.2.1 (132, "the fault T") (by decide)
  have hm9 : ∀ w ∈ (vx_atS RX11 134 "java/lang/UnsupportedOperationException" ["java/lang/RuntimeException", "java/lang/Exception"]).filter goodWord, w ∈ wsX11_get := by intro w h; simp only [wsX11_get, List.mem_cons, List.mem_append, h, or_true, true_or]
  exact vx_throwS (cls := "java/lang/UnsupportedOperationException") (text := "the fault T") (names := ["java/lang/RuntimeException", "java/lang/Exception"]) (sa := sa) (A := A) hx hb hfl hown (by decide +kernel) (by decide +kernel) (hts (.classLink RX11 130 "java/lang/UnsupportedOperationException") (by decide +kernel)) (hts (.initialized "java/lang/UnsupportedOperationException") (by decide +kernel)) hsa (vx_hat (B := [.castable "java/lang/UnsupportedOperationException" "java/lang/UnsupportedOperationException", .declares ⟨"java/lang/RuntimeException", "<init>", "(Ljava/lang/String;)V"⟩, .declares ⟨"java/lang/Exception", "<init>", "(Ljava/lang/String;)V"⟩, .declares ⟨"java/lang/Throwable", "<init>", "(Ljava/lang/String;)V"⟩]) (fun w h => hts w (hm9 w h)) (by decide +kernel) (vx_c (va_Nw.use rfl (hE.2.2.1 "java/lang/UnsupportedOperationException" (by decide))) (vx_c (va_Nw.use rfl (hE.2.2.2.2.2 _ (by decide))) (vx_c (va_Nw.use rfl (hE.2.2.2.2.2 _ (by decide))) (vx_c (va_Nw.use rfl (hE.2.2.2.2.2 _ (by decide))) vx_n))))) (by decide +kernel) hE.1 hE.2.1 va_S.rf (by rw [hml]; exact hl.1) dX11_get_50 dX11_get_53 dX11_get_54 dX11_get_56 dX11_get_59 (fun x h => (hno x h).elim) (Nat.le_of_ble_eq_true rfl) (Nat.le_of_ble_eq_true rfl) (Nat.le_of_ble_eq_true rfl) (Nat.le_of_ble_eq_true rfl) hlocks (fun t _ hz hk => ⟨rfl, hz, fun q h _ => hk q h⟩) (fun z h => by cases h) (Nat.le_of_ble_eq_true rfl) (Nat.le_of_ble_eq_true rfl)
set_option maxHeartbeats 4000000 in
set_option maxRecDepth 100000 in
theorem x_keys_uo (l : Launch) (hfl : l.stackTraces = false) {D : va_G} {cI cO : ClassId} {b : Nat → Nat} {ad : Nat → Nat → Nat} {st : ev_ST} {A : Nat → Prop} (hn : st.1 ≤ 12) (hTG : ∀ i, i < st.1 → ∀ j, ev_tg (st.2 i) = some j → j < st.1) {o : Nat} (ho : o < st.1) (hpb : ev_pb st 12 (some o) = none) : vx_Met l yX11_keys wsX11_keys ({ frames := 6, cells := 1, slots := 6, locals := 82 }) (ev_PcX D cI cO A (ev_P D cI cO b ad st) [.ref (b 0), .int (nI o)]) ev_nq (ev_XC "java/lang/UnsupportedOperationException") 1 6 ev_no := by
  refine ev_bodyX (cc := cX11_keys) (maxL := 4) (ret := (some .int)) (by decide) rfl (Nat.le_of_ble_eq_true rfl) ?_
  intro p e s m args below meth c hx hb hr hml hown hts hlocks hnm hP hK hE hno ls hl
  have hl : lv_has ls 4 [(0, .ref (b 0)), (1, .int (nI o))] := hl
  have hi11 : ∀ w ∈ wsX110, w ∈ wsX11_keys := by decide +kernel
  refine lv_aload_n hx hb dX11_keys_0 rfl (lv_at hl 0 rfl) ?_
  refine ev_fac (v := .ref (b 1)) hx hb hts hi11 hown hK hP 0 (by decide) (hts (.fieldLink RX11 10 "EventloopRow" "things" "LEventloopRow$Things;") (by decide +kernel)) rfl dX11_keys_1 ?_
  refine lv_iload_n hx hb dX11_keys_4 rfl (lv_at hl 1 rfl) ?_
  refine ev_cv (As := [.int (nI o)]) (rest := []) ⟨hx, hb, hml, hown, hts⟩ (c_X8_find_v l hn (j := o) ho) (cwV 1 hts gX11_keys_X8_find rfl rfl rfl (by decide +kernel) ⟨Nat.le_of_ble_eq_true rfl, Nat.le_of_ble_eq_true rfl⟩) hP hK (ev_recvT hK hP) rfl hl.1 (Nat.le_of_ble_eq_true rfl) dX11_keys_5 ⟨Nat.le_of_ble_eq_true rfl, Nat.le_of_ble_eq_true rfl⟩ ?_
  refine lv_astore_n (lv' := [(2, .ref (ad o 0)), (0, .ref (b 0)), (1, .int (nI o))]) hx hb dX11_keys_8 rfl hl (by decide) rfl (fun ls hl => ?_)
  refine lv_aload_n hx hb dX11_keys_9 rfl (lv_at hl 0 rfl) ?_
  refine lv_ifnonnull (tgt := 23) hx hb dX11_keys_10 (by decide) ?_
  refine lv_aload_n hx hb dX11_keys_23 rfl (lv_at hl 1 rfl) ?_
  refine ev_fac (v := .ref (b 1)) hx hb hts hi11 hown hK hP 0 (by decide) (hts (.fieldLink RX11 10 "EventloopRow" "things" "LEventloopRow$Things;") (by decide +kernel)) rfl dX11_keys_24 ?_
  refine lv_aload_n hx hb dX11_keys_27 rfl (lv_at hl 0 rfl) ?_
  refine ev_cv (As := [.ref (ad o 0)]) (rest := []) ⟨hx, hb, hml, hown, hts⟩ (c_X8_plainBehind l hn hTG ho) (cwV 1 hts gX11_keys_X8_plainBehind rfl rfl rfl (by decide +kernel) ⟨Nat.le_of_ble_eq_true rfl, Nat.le_of_ble_eq_true rfl⟩) hP hK (ev_recvT hK hP) rfl hl.1 (Nat.le_of_ble_eq_true rfl) dX11_keys_28 ⟨Nat.le_of_ble_eq_true rfl, Nat.le_of_ble_eq_true rfl⟩ ?_
  rw [hpb]
  refine lv_astore_nN (lv' := [(3, .null), (2, .ref (ad o 0)), (0, .ref (b 0)), (1, .int (nI o))]) hx hb dX11_keys_31 rfl hl (by decide) rfl (fun ls hl => ?_)
  refine lv_aload_nN hx hb dX11_keys_32 rfl (lv_at hl 0 rfl) ?_
  refine lv_ifnonnullN hx hb dX11_keys_33 ?_
  obtain ⟨sa, hsa⟩ := hE.2.2.2.1 (132, "the fault T") (by decide)
  have hm9 : ∀ w ∈ (vx_atS RX11 134 "java/lang/UnsupportedOperationException" ["java/lang/RuntimeException", "java/lang/Exception"]).filter goodWord, w ∈ wsX11_keys := by intro w h; simp only [wsX11_keys, List.mem_cons, List.mem_append, h, or_true, true_or]
  exact vx_throwS (cls := "java/lang/UnsupportedOperationException") (text := "the fault T") (names := ["java/lang/RuntimeException", "java/lang/Exception"]) (sa := sa) (A := A) hx hb hfl hown (by decide +kernel) (by decide +kernel) (hts (.classLink RX11 130 "java/lang/UnsupportedOperationException") (by decide +kernel)) (hts (.initialized "java/lang/UnsupportedOperationException") (by decide +kernel)) hsa (vx_hat (B := [.castable "java/lang/UnsupportedOperationException" "java/lang/UnsupportedOperationException", .declares ⟨"java/lang/RuntimeException", "<init>", "(Ljava/lang/String;)V"⟩, .declares ⟨"java/lang/Exception", "<init>", "(Ljava/lang/String;)V"⟩, .declares ⟨"java/lang/Throwable", "<init>", "(Ljava/lang/String;)V"⟩]) (fun w h => hts w (hm9 w h)) (by decide +kernel) (vx_c (va_Nw.use rfl (hE.2.2.1 "java/lang/UnsupportedOperationException" (by decide))) (vx_c (va_Nw.use rfl (hE.2.2.2.2.2 _ (by decide))) (vx_c (va_Nw.use rfl (hE.2.2.2.2.2 _ (by decide))) (vx_c (va_Nw.use rfl (hE.2.2.2.2.2 _ (by decide))) vx_n))))) (by decide +kernel) hE.1 hE.2.1 va_S.rf (by rw [hml]; exact hl.1) dX11_keys_36 dX11_keys_39 dX11_keys_40 dX11_keys_42 dX11_keys_45 (fun x h => (hno x h).elim) (Nat.le_of_ble_eq_true rfl) (Nat.le_of_ble_eq_true rfl) (Nat.le_of_ble_eq_true rfl) (Nat.le_of_ble_eq_true rfl) hlocks (fun t _ hz hk => ⟨rfl, hz, fun q h _ => hk q h⟩) (fun z h => by cases h) (Nat.le_of_ble_eq_true rfl) (Nat.le_of_ble_eq_true rfl)
set_option maxHeartbeats 4000000 in
set_option maxRecDepth 100000 in
theorem x_rights_uo (l : Launch) (hfl : l.stackTraces = false) {D : va_G} {cI cO : ClassId} {b : Nat → Nat} {ad : Nat → Nat → Nat} {st : ev_ST} {A : Nat → Prop} (hn : st.1 ≤ 12) (hTG : ∀ i, i < st.1 → ∀ j, ev_tg (st.2 i) = some j → j < st.1) {o : Nat} (ho : o < st.1) (hpb : ev_pb st 12 (some o) = none) {k : Nat} (hk : k < 20) : vx_Met l yX11_rights wsX11_rights ({ frames := 6, cells := 1, slots := 6, locals := 82 }) (ev_PcX D cI cO A (ev_P D cI cO b ad st) [.ref (b 0), .int (nI o), .int (nI k)]) ev_nq (ev_XC "java/lang/UnsupportedOperationException") 1 6 ev_no := by
  refine ev_bodyX (cc := cX11_rights) (maxL := 6) (ret := (some .int)) (by decide) rfl (Nat.le_of_ble_eq_true rfl) ?_
  intro p e s m args below meth c hx hb hr hml hown hts hlocks hnm hP hK hE hno ls hl
  have hl : lv_has ls 6 [(0, .ref (b 0)), (1, .int (nI o)), (2, .int (nI k))] := hl
  have hi11 : ∀ w ∈ wsX110, w ∈ wsX11_rights := by decide +kernel
  refine lv_aload_n hx hb dX11_rights_0 rfl (lv_at hl 0 rfl) ?_
  refine ev_fac (v := .ref (b 1)) hx hb hts hi11 hown hK hP 0 (by decide) (hts (.fieldLink RX11 10 "EventloopRow" "things" "LEventloopRow$Things;") (by decide +kernel)) rfl dX11_rights_1 ?_
  refine lv_iload_n hx hb dX11_rights_4 rfl (lv_at hl 1 rfl) ?_
  refine ev_cv (As := [.int (nI o)]) (rest := []) ⟨hx, hb, hml, hown, hts⟩ (c_X8_find_v l hn (j := o) ho) (cwV 1 hts gX11_rights_X8_find rfl rfl rfl (by decide +kernel) ⟨Nat.le_of_ble_eq_true rfl, Nat.le_of_ble_eq_true rfl⟩) hP hK (ev_recvT hK hP) rfl hl.1 (Nat.le_of_ble_eq_true rfl) dX11_rights_5 ⟨Nat.le_of_ble_eq_true rfl, Nat.le_of_ble_eq_true rfl⟩ ?_
  refine lv_astore_n (lv' := [(3, .ref (ad o 0)), (0, .ref (b 0)), (1, .int (nI o)), (2, .int (nI k))]) hx hb dX11_rights_8 rfl hl (by decide) rfl (fun ls hl => ?_)
  refine lv_aload_n hx hb dX11_rights_9 rfl (lv_at hl 0 rfl) ?_
  refine lv_ifnull hx hb dX11_rights_10 ?_
  refine lv_iload_n hx hb dX11_rights_13 rfl (lv_at hl 3 rfl) ?_
  refine ev_cst (As := [.int (nI k)]) (rest := []) ⟨hx, hb, hml, hown, hts⟩ (c_X11_isKey l (b := b) (ad := ad) (k := k) (by omega)) (va_cwS 1 hts gX11_rights_X11_isKey rfl rfl rfl (by decide +kernel) ⟨Nat.le_of_ble_eq_true rfl, Nat.le_of_ble_eq_true rfl⟩) hP hK rfl hl.1 (Nat.le_of_ble_eq_true rfl) dX11_rights_14 ⟨Nat.le_of_ble_eq_true rfl, Nat.le_of_ble_eq_true rfl⟩ ?_
  refine eb_if_ne (tgt := 30) hx hb dX11_rights_17 (by decide) (fun _ => ?_) (fun h => by cases h)
  refine lv_aload_n hx hb dX11_rights_30 rfl (lv_at hl 1 rfl) ?_
  refine ev_fac (v := .ref (b 1)) hx hb hts hi11 hown hK hP 0 (by decide) (hts (.fieldLink RX11 10 "EventloopRow" "things" "LEventloopRow$Things;") (by decide +kernel)) rfl dX11_rights_31 ?_
  refine lv_aload_n hx hb dX11_rights_34 rfl (lv_at hl 0 rfl) ?_
  refine ev_cv (As := [.ref (ad o 0)]) (rest := []) ⟨hx, hb, hml, hown, hts⟩ (c_X8_plainBehind l hn hTG ho) (cwV 1 hts gX11_rights_X8_plainBehind rfl rfl rfl (by decide +kernel) ⟨Nat.le_of_ble_eq_true rfl, Nat.le_of_ble_eq_true rfl⟩) hP hK (ev_recvT hK hP) rfl hl.1 (Nat.le_of_ble_eq_true rfl) dX11_rights_35 ⟨Nat.le_of_ble_eq_true rfl, Nat.le_of_ble_eq_true rfl⟩ ?_
  rw [hpb]
  refine lv_astoreN (lv' := [(4, .null), (3, .ref (ad o 0)), (0, .ref (b 0)), (1, .int (nI o)), (2, .int (nI k))]) hx hb dX11_rights_38 hl (by decide) rfl (fun ls hl => ?_)
  refine lv_aloadN hx hb dX11_rights_40 (lv_at hl 0 rfl) ?_
  refine lv_ifnonnullN hx hb dX11_rights_42 ?_
  obtain ⟨sa, hsa⟩ := hE.2.2.2.1 (132, "the fault T") (by decide)
  have hm9 : ∀ w ∈ (vx_atS RX11 134 "java/lang/UnsupportedOperationException" ["java/lang/RuntimeException", "java/lang/Exception"]).filter goodWord, w ∈ wsX11_rights := by intro w h; simp only [wsX11_rights, List.mem_cons, List.mem_append, h, or_true, true_or]
  exact vx_throwS (cls := "java/lang/UnsupportedOperationException") (text := "the fault T") (names := ["java/lang/RuntimeException", "java/lang/Exception"]) (sa := sa) (A := A) hx hb hfl hown (by decide +kernel) (by decide +kernel) (hts (.classLink RX11 130 "java/lang/UnsupportedOperationException") (by decide +kernel)) (hts (.initialized "java/lang/UnsupportedOperationException") (by decide +kernel)) hsa (vx_hat (B := [.castable "java/lang/UnsupportedOperationException" "java/lang/UnsupportedOperationException", .declares ⟨"java/lang/RuntimeException", "<init>", "(Ljava/lang/String;)V"⟩, .declares ⟨"java/lang/Exception", "<init>", "(Ljava/lang/String;)V"⟩, .declares ⟨"java/lang/Throwable", "<init>", "(Ljava/lang/String;)V"⟩]) (fun w h => hts w (hm9 w h)) (by decide +kernel) (vx_c (va_Nw.use rfl (hE.2.2.1 "java/lang/UnsupportedOperationException" (by decide))) (vx_c (va_Nw.use rfl (hE.2.2.2.2.2 _ (by decide))) (vx_c (va_Nw.use rfl (hE.2.2.2.2.2 _ (by decide))) (vx_c (va_Nw.use rfl (hE.2.2.2.2.2 _ (by decide))) vx_n))))) (by decide +kernel) hE.1 hE.2.1 va_S.rf (by rw [hml]; exact hl.1) dX11_rights_45 dX11_rights_48 dX11_rights_49 dX11_rights_51 dX11_rights_54 (fun x h => (hno x h).elim) (Nat.le_of_ble_eq_true rfl) (Nat.le_of_ble_eq_true rfl) (Nat.le_of_ble_eq_true rfl) (Nat.le_of_ble_eq_true rfl) hlocks (fun t _ hz hk => ⟨rfl, hz, fun q h _ => hk q h⟩) (fun z h => by cases h) (Nat.le_of_ble_eq_true rfl) (Nat.le_of_ble_eq_true rfl)
set_option maxHeartbeats 4000000 in
set_option maxRecDepth 100000 in
theorem x_keyAt_e (l : Launch) (hfl : l.stackTraces = false) {D : va_G} {cI cO : ClassId} {b : Nat → Nat} {ad : Nat → Nat → Nat} {st : ev_ST} {A : Nat → Prop} (hn : st.1 ≤ 12) (hTG : ∀ i, i < st.1 → ∀ j, ev_tg (st.2 i) = some j → j < st.1) {o : Nat} (ho : o < st.1) {j : Nat} (hpb : ev_pb st 12 (some o) = some j) {x : Nat} (hkc : ev_kc (st.2 j) ≤ 20) (hxk : ev_kc (st.2 j) ≤ x) (hx2 : x < 2147483648) : vx_Met l yX11_keyAt wsX11_keyAt ({ frames := 6, cells := 1, slots := 6, locals := 82 }) (ev_PcX D cI cO A (ev_P D cI cO b ad st) [.ref (b 0), .int (nI o), .int (nI x)]) ev_nq (ev_XC "java/util/NoSuchElementException") 1 6 ev_no := by
  refine ev_bodyX (cc := cX11_keyAt) (maxL := 6) (ret := (some .int)) (by decide) rfl (Nat.le_of_ble_eq_true rfl) ?_
  intro p e s m args below meth c hx hb hr hml hown hts hlocks hnm hP hK hE hno ls hl
  have hl : lv_has ls 6 [(0, .ref (b 0)), (1, .int (nI o)), (2, .int (nI x))] := hl
  have hi11 : ∀ w ∈ wsX110, w ∈ wsX11_keyAt := by decide +kernel
  have hj : j < st.1 := ev_pb_lt hTG 12 (some o) (fun _ h => by cases h; exact ho) j hpb
  refine lv_aload_n hx hb dX11_keyAt_0 rfl (lv_at hl 0 rfl) ?_
  refine ev_fac (v := .ref (b 1)) hx hb hts hi11 hown hK hP 0 (by decide) (hts (.fieldLink RX11 10 "EventloopRow" "things" "LEventloopRow$Things;") (by decide +kernel)) rfl dX11_keyAt_1 ?_
  refine lv_iload_n hx hb dX11_keyAt_4 rfl (lv_at hl 1 rfl) ?_
  refine ev_cv (As := [.int (nI o)]) (rest := []) ⟨hx, hb, hml, hown, hts⟩ (c_X8_find_v l hn (j := o) ho) (cwV 1 hts gX11_keyAt_X8_find rfl rfl rfl (by decide +kernel) ⟨Nat.le_of_ble_eq_true rfl, Nat.le_of_ble_eq_true rfl⟩) hP hK (ev_recvT hK hP) rfl hl.1 (Nat.le_of_ble_eq_true rfl) dX11_keyAt_5 ⟨Nat.le_of_ble_eq_true rfl, Nat.le_of_ble_eq_true rfl⟩ ?_
  refine lv_astore_n (lv' := [(3, .ref (ad o 0)), (0, .ref (b 0)), (1, .int (nI o)), (2, .int (nI x))]) hx hb dX11_keyAt_8 rfl hl (by decide) rfl (fun ls hl => ?_)
  refine lv_aload_n hx hb dX11_keyAt_9 rfl (lv_at hl 0 rfl) ?_
  refine lv_ifnonnull (tgt := 23) hx hb dX11_keyAt_10 (by decide) ?_
  refine lv_aload_n hx hb dX11_keyAt_23 rfl (lv_at hl 1 rfl) ?_
  refine ev_fac (v := .ref (b 1)) hx hb hts hi11 hown hK hP 0 (by decide) (hts (.fieldLink RX11 10 "EventloopRow" "things" "LEventloopRow$Things;") (by decide +kernel)) rfl dX11_keyAt_24 ?_
  refine lv_aload_n hx hb dX11_keyAt_27 rfl (lv_at hl 0 rfl) ?_
  refine ev_cv (As := [.ref (ad o 0)]) (rest := []) ⟨hx, hb, hml, hown, hts⟩ (c_X8_plainBehind l hn hTG ho) (cwV 1 hts gX11_keyAt_X8_plainBehind rfl rfl rfl (by decide +kernel) ⟨Nat.le_of_ble_eq_true rfl, Nat.le_of_ble_eq_true rfl⟩) hP hK (ev_recvT hK hP) rfl hl.1 (Nat.le_of_ble_eq_true rfl) dX11_keyAt_28 ⟨Nat.le_of_ble_eq_true rfl, Nat.le_of_ble_eq_true rfl⟩ ?_
  rw [hpb]
  refine lv_astore (lv' := [(4, .ref (ad j 0)), (3, .ref (ad o 0)), (0, .ref (b 0)), (1, .int (nI o)), (2, .int (nI x))]) hx hb dX11_keyAt_31 hl (by decide) rfl (fun ls hl => ?_)
  refine lv_aload hx hb dX11_keyAt_33 (lv_at hl 0 rfl) ?_
  refine lv_ifnonnull (tgt := 48) hx hb dX11_keyAt_35 (by decide) ?_
  refine lv_aload hx hb dX11_keyAt_48 (lv_at hl 0 rfl) ?_
  refine lv_iload_n hx hb dX11_keyAt_50 rfl (lv_at hl 4 rfl) ?_
  refine ev_cv (As := [.int (nI x)]) (rest := []) ⟨hx, hb, hml, hown, hts⟩ (c_X7_listedAt_e l hj rfl hkc (j := x) hxk (by omega)) (cwV 1 hts gX11_keyAt_X7_listedAt rfl rfl rfl (by decide +kernel) ⟨Nat.le_of_ble_eq_true rfl, Nat.le_of_ble_eq_true rfl⟩) hP hK (ev_recv hK hP hj) rfl hl.1 (Nat.le_of_ble_eq_true rfl) dX11_keyAt_51 ⟨Nat.le_of_ble_eq_true rfl, Nat.le_of_ble_eq_true rfl⟩ ?_
  refine lv_istore (lv' := [(5, .int (-1)), (4, .ref (ad j 0)), (3, .ref (ad o 0)), (0, .ref (b 0)), (1, .int (nI o)), (2, .int (nI x))]) hx hb dX11_keyAt_54 hl (by decide) rfl (fun ls hl => ?_)
  refine lv_iload hx hb dX11_keyAt_56 (lv_at hl 0 rfl) ?_
  refine lv_iconst (v := -1) hx hb dX11_keyAt_58 (by decide) ?_
  refine lv_icmp_ne (tgt := 72) hx hb dX11_keyAt_59 (by decide) (fun h => absurd h (by decide)) (fun _ => ?_)
  obtain ⟨sa, hsa⟩ := hE.2.2.2.1 (159, "no such index") (by decide)
  have hm9 : ∀ w ∈ (ex_atX RX11 161 "java/util/NoSuchElementException" 13 ex_rx ["java/lang/RuntimeException", "java/lang/Exception"]).filter goodWord, w ∈ wsX11_keyAt := by intro w h; simp only [wsX11_keyAt, List.mem_cons, List.mem_append, h, or_true, true_or]
  exact vx_throwX (cls := "java/util/NoSuchElementException") (text := "no such index") (names := ["java/lang/RuntimeException", "java/lang/Exception"]) (sa := sa) (A := A) hx hb hfl ex_x0 ex_x1 ex_x2 ex_x5 hown (by decide +kernel) (by decide +kernel) (hts (.classLink RX11 157 "java/util/NoSuchElementException") (by decide +kernel)) (hts (.initialized "java/util/NoSuchElementException") (by decide +kernel)) hsa (vx_hat (B := [.castable "java/util/NoSuchElementException" "java/util/NoSuchElementException", .declares ⟨"java/lang/RuntimeException", "<init>", "(Ljava/lang/String;)V"⟩, .declares ⟨"java/lang/Exception", "<init>", "(Ljava/lang/String;)V"⟩, .declares ⟨"java/lang/Throwable", "<init>", "(Ljava/lang/String;)V"⟩]) (fun w h => hts w (hm9 w h)) (by decide +kernel) (vx_c (va_Nw.use rfl (hE.2.2.1 "java/util/NoSuchElementException" (by decide))) (vx_c (va_Nw.use rfl (hE.2.2.2.2.2 _ (by decide))) (vx_c (va_Nw.use rfl (hE.2.2.2.2.2 _ (by decide))) (vx_c (va_Nw.use rfl (hE.2.2.2.2.2 _ (by decide))) vx_n))))) (by decide +kernel) hE.1 hE.2.1 va_S.rf (by rw [hml]; exact hl.1) dX11_keyAt_62 dX11_keyAt_65 dX11_keyAt_66 dX11_keyAt_68 dX11_keyAt_71 (fun x h => (hno x h).elim) (Nat.le_of_ble_eq_true rfl) (Nat.le_of_ble_eq_true rfl) (Nat.le_of_ble_eq_true rfl) (Nat.le_of_ble_eq_true rfl) hlocks (fun t _ hz hk => ⟨rfl, hz, fun q h _ => hk q h⟩) (fun z h => by cases h) (Nat.le_of_ble_eq_true rfl) (Nat.le_of_ble_eq_true rfl)
set_option maxHeartbeats 4000000 in
set_option maxRecDepth 100000 in
theorem x_keyAt_m (l : Launch) (hfl : l.stackTraces = false) {D : va_G} {cI cO : ClassId} {b : Nat → Nat} {ad : Nat → Nat → Nat} {st : ev_ST} {A : Nat → Prop} (hn : st.1 ≤ 12) (hTG : ∀ i, i < st.1 → ∀ j, ev_tg (st.2 i) = some j → j < st.1) {o : Nat} (ho : o < st.1) {j : Nat} (hpb : ev_pb st 12 (some o) = some j) : vx_Met l yX11_keyAt wsX11_keyAt ({ frames := 6, cells := 1, slots := 6, locals := 82 }) (ev_PcX D cI cO A (ev_P D cI cO b ad st) [.ref (b 0), .int (nI o), .int (-1)]) ev_nq (ev_XC "java/util/NoSuchElementException") 1 6 ev_no := by
  refine ev_bodyX (cc := cX11_keyAt) (maxL := 6) (ret := (some .int)) (by decide) rfl (Nat.le_of_ble_eq_true rfl) ?_
  intro p e s m args below meth c hx hb hr hml hown hts hlocks hnm hP hK hE hno ls hl
  have hl : lv_has ls 6 [(0, .ref (b 0)), (1, .int (nI o)), (2, .int (-1))] := hl
  have hi11 : ∀ w ∈ wsX110, w ∈ wsX11_keyAt := by decide +kernel
  have hj : j < st.1 := ev_pb_lt hTG 12 (some o) (fun _ h => by cases h; exact ho) j hpb
  refine lv_aload_n hx hb dX11_keyAt_0 rfl (lv_at hl 0 rfl) ?_
  refine ev_fac (v := .ref (b 1)) hx hb hts hi11 hown hK hP 0 (by decide) (hts (.fieldLink RX11 10 "EventloopRow" "things" "LEventloopRow$Things;") (by decide +kernel)) rfl dX11_keyAt_1 ?_
  refine lv_iload_n hx hb dX11_keyAt_4 rfl (lv_at hl 1 rfl) ?_
  refine ev_cv (As := [.int (nI o)]) (rest := []) ⟨hx, hb, hml, hown, hts⟩ (c_X8_find_v l hn (j := o) ho) (cwV 1 hts gX11_keyAt_X8_find rfl rfl rfl (by decide +kernel) ⟨Nat.le_of_ble_eq_true rfl, Nat.le_of_ble_eq_true rfl⟩) hP hK (ev_recvT hK hP) rfl hl.1 (Nat.le_of_ble_eq_true rfl) dX11_keyAt_5 ⟨Nat.le_of_ble_eq_true rfl, Nat.le_of_ble_eq_true rfl⟩ ?_
  refine lv_astore_n (lv' := [(3, .ref (ad o 0)), (0, .ref (b 0)), (1, .int (nI o)), (2, .int (-1))]) hx hb dX11_keyAt_8 rfl hl (by decide) rfl (fun ls hl => ?_)
  refine lv_aload_n hx hb dX11_keyAt_9 rfl (lv_at hl 0 rfl) ?_
  refine lv_ifnonnull (tgt := 23) hx hb dX11_keyAt_10 (by decide) ?_
  refine lv_aload_n hx hb dX11_keyAt_23 rfl (lv_at hl 1 rfl) ?_
  refine ev_fac (v := .ref (b 1)) hx hb hts hi11 hown hK hP 0 (by decide) (hts (.fieldLink RX11 10 "EventloopRow" "things" "LEventloopRow$Things;") (by decide +kernel)) rfl dX11_keyAt_24 ?_
  refine lv_aload_n hx hb dX11_keyAt_27 rfl (lv_at hl 0 rfl) ?_
  refine ev_cv (As := [.ref (ad o 0)]) (rest := []) ⟨hx, hb, hml, hown, hts⟩ (c_X8_plainBehind l hn hTG ho) (cwV 1 hts gX11_keyAt_X8_plainBehind rfl rfl rfl (by decide +kernel) ⟨Nat.le_of_ble_eq_true rfl, Nat.le_of_ble_eq_true rfl⟩) hP hK (ev_recvT hK hP) rfl hl.1 (Nat.le_of_ble_eq_true rfl) dX11_keyAt_28 ⟨Nat.le_of_ble_eq_true rfl, Nat.le_of_ble_eq_true rfl⟩ ?_
  rw [hpb]
  refine lv_astore (lv' := [(4, .ref (ad j 0)), (3, .ref (ad o 0)), (0, .ref (b 0)), (1, .int (nI o)), (2, .int (-1))]) hx hb dX11_keyAt_31 hl (by decide) rfl (fun ls hl => ?_)
  refine lv_aload hx hb dX11_keyAt_33 (lv_at hl 0 rfl) ?_
  refine lv_ifnonnull (tgt := 48) hx hb dX11_keyAt_35 (by decide) ?_
  refine lv_aload hx hb dX11_keyAt_48 (lv_at hl 0 rfl) ?_
  refine lv_iload_n hx hb dX11_keyAt_50 rfl (lv_at hl 4 rfl) ?_
  refine ev_cv (As := [.int (-1)]) (rest := []) ⟨hx, hb, hml, hown, hts⟩ (c_X7_listedAt_m l hj rfl) (cwV 1 hts gX11_keyAt_X7_listedAt rfl rfl rfl (by decide +kernel) ⟨Nat.le_of_ble_eq_true rfl, Nat.le_of_ble_eq_true rfl⟩) hP hK (ev_recv hK hP hj) rfl hl.1 (Nat.le_of_ble_eq_true rfl) dX11_keyAt_51 ⟨Nat.le_of_ble_eq_true rfl, Nat.le_of_ble_eq_true rfl⟩ ?_
  refine lv_istore (lv' := [(5, .int (-1)), (4, .ref (ad j 0)), (3, .ref (ad o 0)), (0, .ref (b 0)), (1, .int (nI o)), (2, .int (-1))]) hx hb dX11_keyAt_54 hl (by decide) rfl (fun ls hl => ?_)
  refine lv_iload hx hb dX11_keyAt_56 (lv_at hl 0 rfl) ?_
  refine lv_iconst (v := -1) hx hb dX11_keyAt_58 (by decide) ?_
  refine lv_icmp_ne (tgt := 72) hx hb dX11_keyAt_59 (by decide) (fun h => absurd h (by decide)) (fun _ => ?_)
  obtain ⟨sa, hsa⟩ := hE.2.2.2.1 (159, "no such index") (by decide)
  have hm9 : ∀ w ∈ (ex_atX RX11 161 "java/util/NoSuchElementException" 13 ex_rx ["java/lang/RuntimeException", "java/lang/Exception"]).filter goodWord, w ∈ wsX11_keyAt := by intro w h; simp only [wsX11_keyAt, List.mem_cons, List.mem_append, h, or_true, true_or]
  exact vx_throwX (cls := "java/util/NoSuchElementException") (text := "no such index") (names := ["java/lang/RuntimeException", "java/lang/Exception"]) (sa := sa) (A := A) hx hb hfl ex_x0 ex_x1 ex_x2 ex_x5 hown (by decide +kernel) (by decide +kernel) (hts (.classLink RX11 157 "java/util/NoSuchElementException") (by decide +kernel)) (hts (.initialized "java/util/NoSuchElementException") (by decide +kernel)) hsa (vx_hat (B := [.castable "java/util/NoSuchElementException" "java/util/NoSuchElementException", .declares ⟨"java/lang/RuntimeException", "<init>", "(Ljava/lang/String;)V"⟩, .declares ⟨"java/lang/Exception", "<init>", "(Ljava/lang/String;)V"⟩, .declares ⟨"java/lang/Throwable", "<init>", "(Ljava/lang/String;)V"⟩]) (fun w h => hts w (hm9 w h)) (by decide +kernel) (vx_c (va_Nw.use rfl (hE.2.2.1 "java/util/NoSuchElementException" (by decide))) (vx_c (va_Nw.use rfl (hE.2.2.2.2.2 _ (by decide))) (vx_c (va_Nw.use rfl (hE.2.2.2.2.2 _ (by decide))) (vx_c (va_Nw.use rfl (hE.2.2.2.2.2 _ (by decide))) vx_n))))) (by decide +kernel) hE.1 hE.2.1 va_S.rf (by rw [hml]; exact hl.1) dX11_keyAt_62 dX11_keyAt_65 dX11_keyAt_66 dX11_keyAt_68 dX11_keyAt_71 (fun x h => (hno x h).elim) (Nat.le_of_ble_eq_true rfl) (Nat.le_of_ble_eq_true rfl) (Nat.le_of_ble_eq_true rfl) (Nat.le_of_ble_eq_true rfl) hlocks (fun t _ hz hk => ⟨rfl, hz, fun q h _ => hk q h⟩) (fun z h => by cases h) (Nat.le_of_ble_eq_true rfl) (Nat.le_of_ble_eq_true rfl)
set_option maxHeartbeats 4000000 in
set_option maxRecDepth 100000 in
theorem x_rights_ns (l : Launch) (hfl : l.stackTraces = false) {D : va_G} {cI cO : ClassId} {b : Nat → Nat} {ad : Nat → Nat → Nat} {st : ev_ST} {A : Nat → Prop} (hn : st.1 ≤ 12) (hTG : ∀ i, i < st.1 → ∀ j, ev_tg (st.2 i) = some j → j < st.1) {o : Nat} (ho : o < st.1) {j : Nat} (hpb : ev_pb st 12 (some o) = some j) {k : Nat} (hk : k < 20) (hne : ev_rg (st.2 j) k = -1) : vx_Met l yX11_rights wsX11_rights ({ frames := 6, cells := 1, slots := 6, locals := 82 }) (ev_PcX D cI cO A (ev_P D cI cO b ad st) [.ref (b 0), .int (nI o), .int (nI k)]) ev_nq (ev_XC "java/util/NoSuchElementException") 1 6 ev_no := by
  refine ev_bodyX (cc := cX11_rights) (maxL := 6) (ret := (some .int)) (by decide) rfl (Nat.le_of_ble_eq_true rfl) ?_
  intro p e s m args below meth c hx hb hr hml hown hts hlocks hnm hP hK hE hno ls hl
  have hl : lv_has ls 6 [(0, .ref (b 0)), (1, .int (nI o)), (2, .int (nI k))] := hl
  have hi11 : ∀ w ∈ wsX110, w ∈ wsX11_rights := by decide +kernel
  have hj : j < st.1 := ev_pb_lt hTG 12 (some o) (fun _ h => by cases h; exact ho) j hpb
  refine lv_aload_n hx hb dX11_rights_0 rfl (lv_at hl 0 rfl) ?_
  refine ev_fac (v := .ref (b 1)) hx hb hts hi11 hown hK hP 0 (by decide) (hts (.fieldLink RX11 10 "EventloopRow" "things" "LEventloopRow$Things;") (by decide +kernel)) rfl dX11_rights_1 ?_
  refine lv_iload_n hx hb dX11_rights_4 rfl (lv_at hl 1 rfl) ?_
  refine ev_cv (As := [.int (nI o)]) (rest := []) ⟨hx, hb, hml, hown, hts⟩ (c_X8_find_v l hn (j := o) ho) (cwV 1 hts gX11_rights_X8_find rfl rfl rfl (by decide +kernel) ⟨Nat.le_of_ble_eq_true rfl, Nat.le_of_ble_eq_true rfl⟩) hP hK (ev_recvT hK hP) rfl hl.1 (Nat.le_of_ble_eq_true rfl) dX11_rights_5 ⟨Nat.le_of_ble_eq_true rfl, Nat.le_of_ble_eq_true rfl⟩ ?_
  refine lv_astore_n (lv' := [(3, .ref (ad o 0)), (0, .ref (b 0)), (1, .int (nI o)), (2, .int (nI k))]) hx hb dX11_rights_8 rfl hl (by decide) rfl (fun ls hl => ?_)
  refine lv_aload_n hx hb dX11_rights_9 rfl (lv_at hl 0 rfl) ?_
  refine lv_ifnull hx hb dX11_rights_10 ?_
  refine lv_iload_n hx hb dX11_rights_13 rfl (lv_at hl 3 rfl) ?_
  refine ev_cst (As := [.int (nI k)]) (rest := []) ⟨hx, hb, hml, hown, hts⟩ (c_X11_isKey l (b := b) (ad := ad) (k := k) (by omega)) (va_cwS 1 hts gX11_rights_X11_isKey rfl rfl rfl (by decide +kernel) ⟨Nat.le_of_ble_eq_true rfl, Nat.le_of_ble_eq_true rfl⟩) hP hK rfl hl.1 (Nat.le_of_ble_eq_true rfl) dX11_rights_14 ⟨Nat.le_of_ble_eq_true rfl, Nat.le_of_ble_eq_true rfl⟩ ?_
  refine eb_if_ne (tgt := 30) hx hb dX11_rights_17 (by decide) (fun _ => ?_) (fun h => by cases h)
  refine lv_aload_n hx hb dX11_rights_30 rfl (lv_at hl 1 rfl) ?_
  refine ev_fac (v := .ref (b 1)) hx hb hts hi11 hown hK hP 0 (by decide) (hts (.fieldLink RX11 10 "EventloopRow" "things" "LEventloopRow$Things;") (by decide +kernel)) rfl dX11_rights_31 ?_
  refine lv_aload_n hx hb dX11_rights_34 rfl (lv_at hl 0 rfl) ?_
  refine ev_cv (As := [.ref (ad o 0)]) (rest := []) ⟨hx, hb, hml, hown, hts⟩ (c_X8_plainBehind l hn hTG ho) (cwV 1 hts gX11_rights_X8_plainBehind rfl rfl rfl (by decide +kernel) ⟨Nat.le_of_ble_eq_true rfl, Nat.le_of_ble_eq_true rfl⟩) hP hK (ev_recvT hK hP) rfl hl.1 (Nat.le_of_ble_eq_true rfl) dX11_rights_35 ⟨Nat.le_of_ble_eq_true rfl, Nat.le_of_ble_eq_true rfl⟩ ?_
  rw [hpb]
  refine lv_astore (lv' := [(4, .ref (ad j 0)), (3, .ref (ad o 0)), (0, .ref (b 0)), (1, .int (nI o)), (2, .int (nI k))]) hx hb dX11_rights_38 hl (by decide) rfl (fun ls hl => ?_)
  refine lv_aload hx hb dX11_rights_40 (lv_at hl 0 rfl) ?_
  refine lv_ifnonnull (tgt := 55) hx hb dX11_rights_42 (by decide) ?_
  refine lv_aload hx hb dX11_rights_55 (lv_at hl 0 rfl) ?_
  refine lv_iload_n hx hb dX11_rights_57 rfl (lv_at hl 4 rfl) ?_
  refine ev_cv (As := [.int (nI k)]) (rest := []) ⟨hx, hb, hml, hown, hts⟩ (c_X7_rightsOf l hj rfl (k := k) (by omega)) (cwV 1 hts gX11_rights_X7_rightsOf rfl rfl rfl (by decide +kernel) ⟨Nat.le_of_ble_eq_true rfl, Nat.le_of_ble_eq_true rfl⟩) hP hK (ev_recv hK hP hj) rfl hl.1 (Nat.le_of_ble_eq_true rfl) dX11_rights_58 ⟨Nat.le_of_ble_eq_true rfl, Nat.le_of_ble_eq_true rfl⟩ ?_
  refine lv_istore (lv' := [(5, .int (ev_rg (st.2 j) k)), (4, .ref (ad j 0)), (3, .ref (ad o 0)), (0, .ref (b 0)), (1, .int (nI o)), (2, .int (nI k))]) hx hb dX11_rights_61 hl (by decide) rfl (fun ls hl => ?_)
  refine lv_iload hx hb dX11_rights_63 (lv_at hl 0 rfl) ?_
  refine lv_iconst (v := -1) hx hb dX11_rights_65 (by decide) ?_
  refine lv_icmp_ne (tgt := 79) hx hb dX11_rights_66 (by decide) (fun c_2 => by exfalso; exact c_2 hne) (fun c_2 => ?_)
  obtain ⟨sa, hsa⟩ := hE.2.2.2.1 (165, "no such property") (by decide)
  have hm9 : ∀ w ∈ (ex_atX RX11 161 "java/util/NoSuchElementException" 13 ex_rx ["java/lang/RuntimeException", "java/lang/Exception"]).filter goodWord, w ∈ wsX11_rights := by intro w h; simp only [wsX11_rights, List.mem_cons, List.mem_append, h, or_true, true_or]
  exact vx_throwX (cls := "java/util/NoSuchElementException") (text := "no such property") (names := ["java/lang/RuntimeException", "java/lang/Exception"]) (sa := sa) (A := A) hx hb hfl ex_x0 ex_x1 ex_x2 ex_x5 hown (by decide +kernel) (by decide +kernel) (hts (.classLink RX11 157 "java/util/NoSuchElementException") (by decide +kernel)) (hts (.initialized "java/util/NoSuchElementException") (by decide +kernel)) hsa (vx_hat (B := [.castable "java/util/NoSuchElementException" "java/util/NoSuchElementException", .declares ⟨"java/lang/RuntimeException", "<init>", "(Ljava/lang/String;)V"⟩, .declares ⟨"java/lang/Exception", "<init>", "(Ljava/lang/String;)V"⟩, .declares ⟨"java/lang/Throwable", "<init>", "(Ljava/lang/String;)V"⟩]) (fun w h => hts w (hm9 w h)) (by decide +kernel) (vx_c (va_Nw.use rfl (hE.2.2.1 "java/util/NoSuchElementException" (by decide))) (vx_c (va_Nw.use rfl (hE.2.2.2.2.2 _ (by decide))) (vx_c (va_Nw.use rfl (hE.2.2.2.2.2 _ (by decide))) (vx_c (va_Nw.use rfl (hE.2.2.2.2.2 _ (by decide))) vx_n))))) (by decide +kernel) hE.1 hE.2.1 va_S.rf (by rw [hml]; exact hl.1) dX11_rights_69 dX11_rights_72 dX11_rights_73 dX11_rights_75 dX11_rights_78 (fun x h => (hno x h).elim) (Nat.le_of_ble_eq_true rfl) (Nat.le_of_ble_eq_true rfl) (Nat.le_of_ble_eq_true rfl) (Nat.le_of_ble_eq_true rfl) hlocks (fun t _ hz hk => ⟨rfl, hz, fun q h _ => hk q h⟩) (fun z h => by cases h) (Nat.le_of_ble_eq_true rfl) (Nat.le_of_ble_eq_true rfl)
