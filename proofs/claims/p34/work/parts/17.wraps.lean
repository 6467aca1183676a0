/-! 17.wraps: the law's calls of the class, with what they catch -/
theorem ew_body {l : Launch} {y : MethodName} {ws ws' : List Cond} {rm : Room} {Pc : Array Value → State → Prop} {av : List Value} {Qc : Array Value → State → Outcome → State → Prop} {mc ms : Nat} {free : Addr → Prop} {cc : ByteArray} {maxL : Nat} {ret : Option FieldType} {hh : List (Nat × Nat × Nat × Nat)}
    (hy : plainName y.cls = true) (hw : ws = Cond.codeWith y cc maxL ret hh :: ws') (hpc : ∀ a U, Pc a U → a = av.toArray) (hlen : (lg_sl av).length ≤ maxL)
    (body : ∀ (p : Program) (e : Env) (s : State) (m : MethodId) (args : Array Value) (below : List Frame) (meth : Method) (c : Code), p.tables.exec = Jvm.exec → c.code = cc → meth.sig.returnType = ret → c.maxLocals = maxL → s.vm.findClass y.cls = some m.cls → (∀ w ∈ ws, w.before args s = true) → meth.locks = false → c.exceptionTable.toList = tableOf hh → Pc args s → ∀ ls : Array Slot, lv_has ls maxL (lv_args 0 av) →
      W p l e rm s m args below meth c s.heap [] 0 0 (MQ below Qc args s mc ms free) (F0 m 0 ls [])) : Met l y ws rm Pc Qc mc ms free := by
  refine MetFree.of_bodyS (code := cc) (maxLocals := maxL) (ret := ret) hy ?_ ?_
  · intro args s m h hn
    obtain ⟨m9, meth, c, hn9, h1, h2, h3, h4, -, h5, h6, -⟩ := Cond.codeWith_spec (atoms_spec (ws := ws) h _ (by rw [hw]; exact List.mem_cons_self))
    cases Option.some.inj (hn9.symm.trans hn)
    exact ⟨meth, c, h1, h2, h3, h4, h5, h6⟩
  · intro p e s m args below meth c s₁ B hml hP _
    have hh0 : s₁.heap = s.heap := by rw [B.state]; rfl
    have ha := hpc _ _ hP
    have ht : c.exceptionTable.toList = tableOf hh := vx_table (x := y) B (atoms_spec (ws := ws) B.pre _ (by rw [hw]; exact List.mem_cons_self))
    have K : W p l e rm s m args below meth c s₁.heap [] 0 0 (MQ below Qc args s mc ms free) (entryFrame m args maxL) := by
      rw [hh0]
      have hb := body p e s m args below meth c B.exec B.bytes B.returns hml (findClass_of_methodNamed B.named) (atoms_spec (ws := ws) B.pre) B.notSynchronized ht hP
      rw [ha, lg_entry_eq]
      rw [ha] at hb
      exact hb _ (lv_entry av (n := maxL) hlen)
    obtain ⟨t, a1, o, b1, b2, b3⟩ := K s₁ rfl (Stand.of_body B)
    exact ⟨t, o, a1, b1, b2, ⟨b3.1, b3.2⟩⟩
section EWA
variable {p : Program} {l : Launch} {e : Env} {R : Room} {s : State} {m : MethodId} {args : Array Value} {below : List Frame} {meth : Method} {c : Code} {H : Heap} {locs : List Loc} {cells slots : Nat} {Q : State → Prop}
variable {cc : ByteArray} {pc : Nat} {ls : Array Slot} {rest : List Value} {D : va_G} {cI cO : ClassId} {A A1 free : Nat → Prop} {H0 : Heap} {Ts : List Cond} {own : String}
/-- a call that makes a thing -/
theorem ew_mvA {y : MethodName} {bytes : ByteArray} {maxL nL n index mc ms : Nat} {ret : Option FieldType} {ws : List Cond} {rm : Room} {Hp Hp' : Heap → Prop} {v : Option Value} {C : String} {a : Nat} {As : List Value} (S : CallFix p m c cc nL s args Ts own)
    (hM : Met l y ws rm (ev_PcA D cI cO A Hp (.ref a :: As)) (ev_QM v Hp' A) mc ms A) (cw : CallW R s args own C index y bytes maxL ret ws rm mc ms n) (hH : Hp H) (hK : va_K D vwCl (ev_ty cI cO) s) (hO : ev_AOs s) (hN : ev_NsO s) (hA : ∀ q : Nat, H.size ≤ q → A q) (hS : va_S A H0 H locs)
    (hr : ∃ cellB : Cell, H[a]? = some cellB ∧ cellB.vm.isStatics = false ∧ s.vm.findClass C = some cellB.cls) (hn : As.length = n) (hsize : ls.size = nL) (hW : (rest.map fun v => v.category).sum ≤ 8) (hdg : decode cc pc = .ok (.invokevirtual index, 3)) (hf : cells + mc ≤ R.cells ∧ slots + ms ≤ R.slots)
    (kk : ∀ (H1 : Heap) (locs1 : List Loc), Hp' H1 → H.size ≤ H1.size → (∀ q : Nat, q < H.size → ¬ A q → H1[q]? = H[q]?) → va_S A H0 H1 locs1 → W p l e R s m args below meth c H1 locs1 (cells + mc) (slots + ms) Q (F0 m (pc + 3) ls (v.toList ++ rest))) : W p l e R s m args below meth c H locs cells slots Q (F0 m pc ls (As.reverse ++ .ref a :: rest)) := by
  have hr' := W.runV (e := e) (below := below) (meth := meth) (g := F0 m pc ls (As.reverse ++ .ref a :: rest)) (locs := locs) (rest := rest) S hM cw ⟨ev_blindA, hr, fun U hU hW => ⟨rfl, by rw [hU]; exact hH, va_K.moved hW.alike hK, ev_AOs.moved hW.alike hO, ev_NsO.warm hW hN, by rw [hU]; exact hA⟩⟩ rfl hn hsize rfl (lv_room hW) hdg hf
  intro T hT X
  obtain ⟨v', st₀, t, T', L, h0, X', hL, e1, ⟨hv, hp, hz, hk⟩, st⟩ := hr' T hT X
  cases hv
  rw [h0] at hz hk
  obtain ⟨t2, a1, b1⟩ := kk T'.heap (locs ++ L) (by rw [e1]; exact hp) (by rw [e1]; exact hz) (fun q h1 h2 => by rw [e1]; exact hk q h1 h2)
    ⟨Nat.le_trans hS.1 (by rw [e1]; exact hz), fun q h1 h2 => by rw [e1, hk q (Nat.lt_of_lt_of_le h1 hS.1) h2]; exact hS.2.1 q h1 h2, fun q hq => by
      rcases List.mem_append.mp hq with h | h
      · exact hS.2.2 q h
      · exact hL q h⟩ T' rfl X'
  exact ⟨t2, st t2 a1, b1⟩
/-- a static call of a method with handlers -/
theorem ew_run {y : MethodName} {bytes : ByteArray} {maxL nL n index mc ms : Nat} {ret : Option FieldType} {hh : List (Nat × Nat × Nat × Nat)} {ws : List Cond} {rm : Room} {Pc : Array Value → State → Prop} {Hp' : Heap → Prop} {v : Option Value} {As : List Value} (S : CallFix p m c cc nL s args Ts own)
    (hM : Met l y ws rm Pc (ev_QM v Hp' A1) mc ms free) (cw : vx_CSW R s args own index y bytes maxL ret hh ws rm mc ms n) (hp : PreS s H Pc As) (hS : va_S A H0 H locs) (hA : ∀ q, A1 q → A q) (hfr : ∀ q, free q → A q)
    (hn : As.length = n) (hsize : ls.size = nL) (hW : (rest.map fun v => v.category).sum ≤ 8) (hdg : decode cc pc = .ok (.invokestatic index, 3)) (hf : cells + mc ≤ R.cells ∧ slots + ms ≤ R.slots)
    (kk : ∀ (H1 : Heap) (locs1 : List Loc), Hp' H1 → H.size ≤ H1.size → (∀ q : Nat, q < H.size → ¬ A1 q → H1[q]? = H[q]?) → va_S A H0 H1 locs1 → W p l e R s m args below meth c H1 locs1 (cells + mc) (slots + ms) Q (F0 m (pc + 3) ls (v.toList ++ rest))) : W p l e R s m args below meth c H locs cells slots Q (F0 m pc ls (As.reverse ++ rest)) := by
  have hr' := vx_runSW (e := e) (below := below) (meth := meth) (g := F0 m pc ls (As.reverse ++ rest)) (locs := locs) (rest := rest) S hM cw hp rfl hn hsize rfl (lv_room hW) hdg hf
  intro T hT X
  obtain ⟨v', st₀, t, T', L, h0, X', hL, e1, -, ⟨hv, hp, hz, hk⟩, st⟩ := hr' T hT X
  cases hv
  rw [h0] at hz hk
  obtain ⟨t2, a1, b1⟩ := kk T'.heap (locs ++ L) (by rw [e1]; exact hp) (by rw [e1]; exact hz) (fun q h1 h2 => by rw [e1]; exact hk q h1 h2)
    ⟨Nat.le_trans hS.1 (by rw [e1]; exact hz), fun q h1 h2 => by rw [e1, hk q (Nat.lt_of_lt_of_le h1 hS.1) (fun h => h2 (hA q h))]; exact hS.2.1 q h1 h2, fun q hq => by
      rcases List.mem_append.mp hq with h | h
      · exact hS.2.2 q h
      · exact hfr _ (hL q h)⟩ T' rfl X'
  exact ⟨t2, st t2 a1, b1⟩
theorem ew_preX {b : Nat → Nat} {ad : Nat → Nat → Nat} {st : ev_ST} {As : List Value} (hP : ev_P D cI cO b ad st H) (hK : va_K D vwCl (ev_ty cI cO) s) (hE : ev_Ex A s H) : PreS s H (ev_PcX D cI cO A (ev_P D cI cO b ad st) As) As :=
  ⟨ev_blindX, fun U hU hW => ⟨rfl, by rw [hU]; exact hP, va_K.moved hW.alike hK, by rw [hU]; exact ev_Ex.warm hW hE⟩⟩
theorem ew_preC {b : Nat → Nat} {ad : Nat → Nat → Nat} {st : ev_ST} {As : List Value} (hP : ev_P D cI cO b ad st H) (hK : va_K D vwCl (ev_ty cI cO) s) : PreS s H (ev_Pc D cI cO (ev_P D cI cO b ad st) As) As :=
  ⟨ev_blind, fun U hU hW => ⟨rfl, by rw [hU]; exact hP, va_K.moved hW.alike hK⟩⟩
theorem ew_preA {b : Nat → Nat} {ad : Nat → Nat → Nat} {st : ev_ST} {As : List Value} (hP : ev_P D cI cO b ad st H) (hK : va_K D vwCl (ev_ty cI cO) s) (hO : ev_AOs s) (hN : ev_NsO s) (hA : ∀ q : Nat, H.size ≤ q → A q) : PreS s H (ev_PcA D cI cO A (ev_P D cI cO b ad st) As) As :=
  ⟨ev_blindA, fun U hU hW => ⟨rfl, by rw [hU]; exact hP, va_K.moved hW.alike hK, ev_AOs.moved hW.alike hO, ev_NsO.warm hW hN, by rw [hU]; exact hA⟩⟩
end EWA
set_option maxHeartbeats 4000000 in
set_option maxRecDepth 100000 in
theorem w_addObject_v (l : Launch) {D : va_G} {cI cO : ClassId} {b : Nat → Nat} {ad : Nat → Nat → Nat} {st : ev_ST} {A : Nat → Prop} (hD : va_D A (ev_wl cI cO b ad st)) (hn : st.1 ≤ 12) (hn2 : st.1 < 12) (hTG : ∀ i, i < st.1 → ∀ j, ev_tg (st.2 i) = some j → j < st.1) (hCH : ∀ i, i < st.1 → ∀ j, ev_ch (st.2 i) = some j → j < st.1) {o : Nat} (ho : o < st.1) (hSn : st.2 st.1 = ev_tn none (some o)) : Met l yL_addObject wsL_addObject ({ frames := 3, cells := 5, slots := 73, locals := 66 }) (ev_PcA D cI cO A (ev_P D cI cO b ad st) [.ref (b 0), .int (nI o)]) (ev_QM (some (.int (nI st.1))) (fun H => ∃ ad2 : Nat → Nat → Nat, ev_P D cI cO b ad2 (st.1 + 1, st.2) H ∧ va_D A (ev_wl cI cO b ad2 (st.1 + 1, st.2))) A) 5 73 A := by
  refine ew_body (cc := cL_addObject) (maxL := 3) (ret := (some .int)) (hh := [(0, 5, 6, 15), (0, 5, 10, 18)]) (by decide) rfl (fun _ _ h => h.1) (Nat.le_of_ble_eq_true rfl) ?_
  intro p e s m args below meth c hx hb hr hml hown hts hlocks hht hv ls hl
  obtain ⟨-, hP, hK, hO, hN, hAn⟩ := hv
  have hl : lv_has ls 3 [(0, .ref (b 0)), (1, .int (nI o))] := hl
  refine lv_aload_n hx hb dL_addObject_0 rfl (lv_at hl 0 rfl) ?_
  refine lv_iload_n hx hb dL_addObject_1 rfl (lv_at hl 1 rfl) ?_
  have hS0 : va_S A s.heap s.heap [] := va_S.rf
  refine ew_mvA (mc := 5) (ms := 73) (As := [.int (nI o)]) (rest := []) ⟨hx, hb, hml, hown, hts⟩ (c_X11_addObject_v l hD hn hn2 hTG hCH ho hSn) (cwV 1 hts gL_addObject_X11_addObject rfl rfl rfl (by decide +kernel) ⟨Nat.le_of_ble_eq_true rfl, Nat.le_of_ble_eq_true rfl⟩) hP hK hO hN hAn hS0 (ev_recvE hK hP) rfl hl.1 (Nat.le_of_ble_eq_true rfl) dL_addObject_2 ⟨Nat.le_of_ble_eq_true rfl, Nat.le_of_ble_eq_true rfl⟩ (fun H locs hQ hz hk hS => ?_)
  refine W.widen (k := 5) (n := 73) (Nat.le_of_ble_eq_true rfl) (Nat.le_of_ble_eq_true rfl) ?_
  exact em_int hx hb hr hlocks rfl hQ hS dL_addObject_5
set_option maxHeartbeats 4000000 in
set_option maxRecDepth 100000 in
theorem w_addObject_n (l : Launch) {D : va_G} {cI cO : ClassId} {b : Nat → Nat} {ad : Nat → Nat → Nat} {st : ev_ST} {A : Nat → Prop} (hD : va_D A (ev_wl cI cO b ad st)) (hn : st.1 ≤ 12) (hn2 : st.1 < 12) (hTG : ∀ i, i < st.1 → ∀ j, ev_tg (st.2 i) = some j → j < st.1) (hCH : ∀ i, i < st.1 → ∀ j, ev_ch (st.2 i) = some j → j < st.1) (hSn : st.2 st.1 = ev_tn none none) : Met l yL_addObject wsL_addObject ({ frames := 3, cells := 5, slots := 73, locals := 66 }) (ev_PcA D cI cO A (ev_P D cI cO b ad st) [.ref (b 0), .int (-1)]) (ev_QM (some (.int (nI st.1))) (fun H => ∃ ad2 : Nat → Nat → Nat, ev_P D cI cO b ad2 (st.1 + 1, st.2) H ∧ va_D A (ev_wl cI cO b ad2 (st.1 + 1, st.2))) A) 5 73 A := by
  refine ew_body (cc := cL_addObject) (maxL := 3) (ret := (some .int)) (hh := [(0, 5, 6, 15), (0, 5, 10, 18)]) (by decide) rfl (fun _ _ h => h.1) (Nat.le_of_ble_eq_true rfl) ?_
  intro p e s m args below meth c hx hb hr hml hown hts hlocks hht hv ls hl
  obtain ⟨-, hP, hK, hO, hN, hAn⟩ := hv
  have hl : lv_has ls 3 [(0, .ref (b 0)), (1, .int (-1))] := hl
  refine lv_aload_n hx hb dL_addObject_0 rfl (lv_at hl 0 rfl) ?_
  refine lv_iload_n hx hb dL_addObject_1 rfl (lv_at hl 1 rfl) ?_
  have hS0 : va_S A s.heap s.heap [] := va_S.rf
  refine ew_mvA (mc := 5) (ms := 73) (As := [.int (-1)]) (rest := []) ⟨hx, hb, hml, hown, hts⟩ (c_X11_addObject_n l hD hn hn2 hTG hCH hSn) (cwV 1 hts gL_addObject_X11_addObject rfl rfl rfl (by decide +kernel) ⟨Nat.le_of_ble_eq_true rfl, Nat.le_of_ble_eq_true rfl⟩) hP hK hO hN hAn hS0 (ev_recvE hK hP) rfl hl.1 (Nat.le_of_ble_eq_true rfl) dL_addObject_2 ⟨Nat.le_of_ble_eq_true rfl, Nat.le_of_ble_eq_true rfl⟩ (fun H locs hQ hz hk hS => ?_)
  refine W.widen (k := 5) (n := 73) (Nat.le_of_ble_eq_true rfl) (Nat.le_of_ble_eq_true rfl) ?_
  exact em_int hx hb hr hlocks rfl hQ hS dL_addObject_5
set_option maxHeartbeats 4000000 in
set_option maxRecDepth 100000 in
theorem w_addProxy (l : Launch) {D : va_G} {cI cO : ClassId} {b : Nat → Nat} {ad : Nat → Nat → Nat} {st : ev_ST} {A : Nat → Prop} (hD : va_D A (ev_wl cI cO b ad st)) (hn : st.1 ≤ 12) (hn2 : st.1 < 12) (hTG : ∀ i, i < st.1 → ∀ j, ev_tg (st.2 i) = some j → j < st.1) (hCH : ∀ i, i < st.1 → ∀ j, ev_ch (st.2 i) = some j → j < st.1) {o : Nat} (ho : o < st.1) (hSn : st.2 st.1 = ev_tn (some o) none) : Met l yL_addProxy wsL_addProxy ({ frames := 3, cells := 5, slots := 73, locals := 67 }) (ev_PcA D cI cO A (ev_P D cI cO b ad st) [.ref (b 0), .int (nI o)]) (ev_QM (some (.int (nI st.1))) (fun H => ∃ ad2 : Nat → Nat → Nat, ev_P D cI cO b ad2 (st.1 + 1, st.2) H ∧ va_D A (ev_wl cI cO b ad2 (st.1 + 1, st.2))) A) 5 73 A := by
  refine ew_body (cc := cL_addProxy) (maxL := 3) (ret := (some .int)) (hh := [(0, 5, 6, 15), (0, 5, 10, 18)]) (by decide) rfl (fun _ _ h => h.1) (Nat.le_of_ble_eq_true rfl) ?_
  intro p e s m args below meth c hx hb hr hml hown hts hlocks hht hv ls hl
  obtain ⟨-, hP, hK, hO, hN, hAn⟩ := hv
  have hl : lv_has ls 3 [(0, .ref (b 0)), (1, .int (nI o))] := hl
  refine lv_aload_n hx hb dL_addProxy_0 rfl (lv_at hl 0 rfl) ?_
  refine lv_iload_n hx hb dL_addProxy_1 rfl (lv_at hl 1 rfl) ?_
  have hS0 : va_S A s.heap s.heap [] := va_S.rf
  refine ew_mvA (mc := 5) (ms := 73) (As := [.int (nI o)]) (rest := []) ⟨hx, hb, hml, hown, hts⟩ (c_X11_addProxy l hD hn hn2 hTG hCH ho hSn) (cwV 1 hts gL_addProxy_X11_addProxy rfl rfl rfl (by decide +kernel) ⟨Nat.le_of_ble_eq_true rfl, Nat.le_of_ble_eq_true rfl⟩) hP hK hO hN hAn hS0 (ev_recvE hK hP) rfl hl.1 (Nat.le_of_ble_eq_true rfl) dL_addProxy_2 ⟨Nat.le_of_ble_eq_true rfl, Nat.le_of_ble_eq_true rfl⟩ (fun H locs hQ hz hk hS => ?_)
  refine W.widen (k := 5) (n := 73) (Nat.le_of_ble_eq_true rfl) (Nat.le_of_ble_eq_true rfl) ?_
  exact em_int hx hb hr hlocks rfl hQ hS dL_addProxy_5
set_option maxHeartbeats 4000000 in
set_option maxRecDepth 100000 in
theorem w_addObject_x (l : Launch) (hfl : l.stackTraces = false) {D : va_G} {cI cO : ClassId} {b : Nat → Nat} {ad : Nat → Nat → Nat} {st : ev_ST} {A : Nat → Prop} (hn : st.1 ≤ 12) (hbad : st.1 ≤ 7) : Met l yL_addObject wsL_addObject ({ frames := 7, cells := 1, slots := 6, locals := 103 }) (ev_PcX D cI cO A (ev_P D cI cO b ad st) [.ref (b 0), .int (nI 7)]) (ev_QM (some (.int (-900001))) (fun _ => True) ev_no) 1 6 ev_no := by
  refine ew_body (cc := cL_addObject) (maxL := 3) (ret := (some .int)) (hh := [(0, 5, 6, 15), (0, 5, 10, 18)]) (by decide) rfl (fun _ _ h => h.1) (Nat.le_of_ble_eq_true rfl) ?_
  intro p e s m args below meth c hx hb hr hml hown hts hlocks hht hv ls hl
  obtain ⟨-, hP, hK, hE⟩ := hv
  have hl : lv_has ls 3 [(0, .ref (b 0)), (1, .int (nI 7))] := hl
  refine lv_aload_n hx hb dL_addObject_0 rfl (lv_at hl 0 rfl) ?_
  refine lv_iload_n hx hb dL_addObject_1 rfl (lv_at hl 1 rfl) ?_
  refine ev_tv (A := A) (As := [.int (nI 7)]) (rest := []) ⟨hx, hb, hml, hown, hts⟩ (x_addObject l hfl hn hbad) (cwV 1 hts gL_addObject_X11_addObject rfl rfl rfl (by decide +kernel) ⟨Nat.le_of_ble_eq_true rfl, Nat.le_of_ble_eq_true rfl⟩) hP hK hE (ev_recvE hK hP) rfl hl.1 (Nat.le_of_ble_eq_true rfl) dL_addObject_2 ⟨Nat.le_of_ble_eq_true rfl, Nat.le_of_ble_eq_true rfl⟩ (fun H1 q ce hz hk hce hcv hcl => ?_)
  refine vx_catch hown [] ⟨0, 5, 6, 15⟩ [⟨0, 5, 10, 18⟩] (by rw [hht]; rfl) (fun _ h => by cases h) rfl (by decide) (hts (.classLink RL 15 "java/lang/IndexOutOfBoundsException") (by decide +kernel)) (va_Nw.use rfl (hE.2.2.1 "java/lang/IndexOutOfBoundsException" (by decide))) hce hcv hcl ?_
  refine W.eq (g2 := F0 m 6 ls [.ref q]) rfl ?_
  refine lv_astore_n (lv' := [(2, .ref q), (0, .ref (b 0)), (1, .int (nI 7))]) hx hb dL_addObject_6 rfl hl (by decide) rfl (fun ls hl => ?_)
  refine lv_ldc (v := (-900001)) hx hb hown (hts (.constant RL 17 (-900001)) (by decide +kernel)) dL_addObject_7 ?_
  refine W.widen (k := 1) (n := 6) (Nat.le_of_ble_eq_true rfl) (Nat.le_of_ble_eq_true rfl) ?_
  exact em_int hx hb hr hlocks rfl trivial ⟨hz, fun z h _ => hk z h, fun _ h => by cases h⟩ dL_addObject_9
set_option maxHeartbeats 4000000 in
set_option maxRecDepth 100000 in
theorem w_addProxy_x (l : Launch) (hfl : l.stackTraces = false) {D : va_G} {cI cO : ClassId} {b : Nat → Nat} {ad : Nat → Nat → Nat} {st : ev_ST} {A : Nat → Prop} (hn : st.1 ≤ 12) : Met l yL_addProxy wsL_addProxy ({ frames := 7, cells := 1, slots := 6, locals := 104 }) (ev_PcX D cI cO A (ev_P D cI cO b ad st) [.ref (b 0), .int (-1)]) (ev_QM (some (.int (-900001))) (fun _ => True) ev_no) 1 6 ev_no := by
  refine ew_body (cc := cL_addProxy) (maxL := 3) (ret := (some .int)) (hh := [(0, 5, 6, 15), (0, 5, 10, 18)]) (by decide) rfl (fun _ _ h => h.1) (Nat.le_of_ble_eq_true rfl) ?_
  intro p e s m args below meth c hx hb hr hml hown hts hlocks hht hv ls hl
  obtain ⟨-, hP, hK, hE⟩ := hv
  have hl : lv_has ls 3 [(0, .ref (b 0)), (1, .int (-1))] := hl
  refine lv_aload_n hx hb dL_addProxy_0 rfl (lv_at hl 0 rfl) ?_
  refine lv_iload_n hx hb dL_addProxy_1 rfl (lv_at hl 1 rfl) ?_
  refine ev_tv (A := A) (As := [.int (-1)]) (rest := []) ⟨hx, hb, hml, hown, hts⟩ (x_addProxy l hfl hn) (cwV 1 hts gL_addProxy_X11_addProxy rfl rfl rfl (by decide +kernel) ⟨Nat.le_of_ble_eq_true rfl, Nat.le_of_ble_eq_true rfl⟩) hP hK hE (ev_recvE hK hP) rfl hl.1 (Nat.le_of_ble_eq_true rfl) dL_addProxy_2 ⟨Nat.le_of_ble_eq_true rfl, Nat.le_of_ble_eq_true rfl⟩ (fun H1 q ce hz hk hce hcv hcl => ?_)
  refine vx_catch hown [] ⟨0, 5, 6, 15⟩ [⟨0, 5, 10, 18⟩] (by rw [hht]; rfl) (fun _ h => by cases h) rfl (by decide) (hts (.classLink RL 15 "java/lang/IndexOutOfBoundsException") (by decide +kernel)) (va_Nw.use rfl (hE.2.2.1 "java/lang/IndexOutOfBoundsException" (by decide))) hce hcv hcl ?_
  refine W.eq (g2 := F0 m 6 ls [.ref q]) rfl ?_
  refine lv_astore_n (lv' := [(2, .ref q), (0, .ref (b 0)), (1, .int (-1))]) hx hb dL_addProxy_6 rfl hl (by decide) rfl (fun ls hl => ?_)
  refine lv_ldc (v := (-900001)) hx hb hown (hts (.constant RL 17 (-900001)) (by decide +kernel)) dL_addProxy_7 ?_
  refine W.widen (k := 1) (n := 6) (Nat.le_of_ble_eq_true rfl) (Nat.le_of_ble_eq_true rfl) ?_
  exact em_int hx hb hr hlocks rfl trivial ⟨hz, fun z h _ => hk z h, fun _ h => by cases h⟩ dL_addProxy_9
set_option maxHeartbeats 4000000 in
set_option maxRecDepth 100000 in
theorem w_define (l : Launch) {D : va_G} {cI cO : ClassId} {b : Nat → Nat} {ad : Nat → Nat → Nat} {st : ev_ST} {A : Nat → Prop} (hD : va_D A (ev_wl cI cO b ad st)) (hn : st.1 ≤ 12) (hTG : ∀ i, i < st.1 → ∀ j, ev_tg (st.2 i) = some j → j < st.1) {o : Nat} (ho : o < st.1) {k v r : Nat} (hk : k < 20) (hv : v ≤ 9999) (hr7 : r ≤ 7) (hKP : ∀ j, j < st.1 → ev_holds (st.2 j) k = false → ev_kc (st.2 j) < 20) : Met l yL_define wsL_define ({ frames := 3, cells := 0, slots := 0, locals := 71 }) (ev_Pc D cI cO (ev_P D cI cO b ad st) [.ref (b 0), .int (nI o), .int (nI k), .int (nI v), .int (nI r)]) (ev_QM (some (.int (nI (ev_dn st o k (nI v) (nI r)).1))) (ev_P D cI cO b ad ((ev_dn st o k (nI v) (nI r)).2)) A) 0 0 A := by
  refine ew_body (cc := cL_define) (maxL := 6) (ret := (some .int)) (hh := [(0, 9, 10, 15), (0, 9, 15, 28)]) (by decide) rfl (fun _ _ h => h.1) (Nat.le_of_ble_eq_true rfl) ?_
  intro p e s m args below meth c hx hb hr hml hown hts hlocks hht hv ls hl
  obtain ⟨-, hP, hK⟩ := hv
  have hl : lv_has ls 6 [(0, .ref (b 0)), (1, .int (nI o)), (2, .int (nI k)), (3, .int (nI v)), (4, .int (nI r))] := hl
  refine lv_aload_n hx hb dL_define_0 rfl (lv_at hl 0 rfl) ?_
  refine lv_iload_n hx hb dL_define_1 rfl (lv_at hl 1 rfl) ?_
  refine lv_iload_n hx hb dL_define_2 rfl (lv_at hl 2 rfl) ?_
  refine lv_iload_n hx hb dL_define_3 rfl (lv_at hl 3 rfl) ?_
  refine lv_iload hx hb dL_define_4 (lv_at hl 4 rfl) ?_
  have hS0 : va_S A s.heap s.heap [] := va_S.rf
  refine ev_mv (mc := 0) (ms := 0) (As := [.int (nI o), .int (nI k), .int (nI v), .int (nI r)]) (rest := []) ⟨hx, hb, hml, hown, hts⟩ (c_X11_define l hD hn hTG ho hk hv hr7 hKP) (cwV 4 hts gL_define_X11_define rfl rfl rfl (by decide +kernel) ⟨Nat.le_of_ble_eq_true rfl, Nat.le_of_ble_eq_true rfl⟩) hP hK hS0 (ev_recvE hK hP) rfl hl.1 (Nat.le_of_ble_eq_true rfl) dL_define_6 ⟨Nat.le_of_ble_eq_true rfl, Nat.le_of_ble_eq_true rfl⟩ (fun H locs hQ hz hk hS => ?_)
  exact em_int hx hb hr hlocks rfl hQ hS dL_define_9
set_option maxHeartbeats 4000000 in
set_option maxRecDepth 100000 in
theorem w_define_ia (l : Launch) (hfl : l.stackTraces = false) {D : va_G} {cI cO : ClassId} {b : Nat → Nat} {ad : Nat → Nat → Nat} {st : ev_ST} {A : Nat → Prop} (hn : st.1 ≤ 12) (hTG : ∀ i, i < st.1 → ∀ j, ev_tg (st.2 i) = some j → j < st.1) {o : Nat} (ho : o < st.1) {k v : Nat} (hk : k < 20) (hv : v ≤ 9999) : Met l yL_define wsL_define ({ frames := 7, cells := 1, slots := 6, locals := 108 }) (ev_PcX D cI cO A (ev_P D cI cO b ad st) [.ref (b 0), .int (nI o), .int (nI k), .int (nI v), .int (nI 8)]) (ev_QM (some (.int (-900002))) (fun _ => True) ev_no) 1 6 ev_no := by
  refine ew_body (cc := cL_define) (maxL := 6) (ret := (some .int)) (hh := [(0, 9, 10, 15), (0, 9, 15, 28)]) (by decide) rfl (fun _ _ h => h.1) (Nat.le_of_ble_eq_true rfl) ?_
  intro p e s m args below meth c hx hb hr hml hown hts hlocks hht hv ls hl
  obtain ⟨-, hP, hK, hE⟩ := hv
  have hl : lv_has ls 6 [(0, .ref (b 0)), (1, .int (nI o)), (2, .int (nI k)), (3, .int (nI v)), (4, .int (nI 8))] := hl
  refine lv_aload_n hx hb dL_define_0 rfl (lv_at hl 0 rfl) ?_
  refine lv_iload_n hx hb dL_define_1 rfl (lv_at hl 1 rfl) ?_
  refine lv_iload_n hx hb dL_define_2 rfl (lv_at hl 2 rfl) ?_
  refine lv_iload_n hx hb dL_define_3 rfl (lv_at hl 3 rfl) ?_
  refine lv_iload hx hb dL_define_4 (lv_at hl 4 rfl) ?_
  refine ev_tv (A := A) (As := [.int (nI o), .int (nI k), .int (nI v), .int (nI 8)]) (rest := []) ⟨hx, hb, hml, hown, hts⟩ (x_define_ia l hfl hn hTG ho hk hv) (cwV 4 hts gL_define_X11_define rfl rfl rfl (by decide +kernel) ⟨Nat.le_of_ble_eq_true rfl, Nat.le_of_ble_eq_true rfl⟩) hP hK hE (ev_recvE hK hP) rfl hl.1 (Nat.le_of_ble_eq_true rfl) dL_define_6 ⟨Nat.le_of_ble_eq_true rfl, Nat.le_of_ble_eq_true rfl⟩ (fun H1 q ce hz hk hce hcv hcl => ?_)
  refine vx_catch hown [⟨0, 9, 10, 15⟩] ⟨0, 9, 15, 28⟩ [] (by rw [hht]; rfl) (fun z h => by rcases List.mem_singleton.mp h with rfl; exact Or.inr ⟨by decide, "java/lang/IndexOutOfBoundsException", hts (.classLink RL 15 "java/lang/IndexOutOfBoundsException") (by decide +kernel), hE.2.2.2.2.1 ("java/lang/IllegalArgumentException", "java/lang/IndexOutOfBoundsException") (by decide)⟩) rfl (by decide) (hts (.classLink RL 28 "java/lang/IllegalArgumentException") (by decide +kernel)) (va_Nw.use rfl (hE.2.2.1 "java/lang/IllegalArgumentException" (by decide))) hce hcv hcl ?_
  refine W.eq (g2 := F0 m 15 ls [.ref q]) rfl ?_
  refine lv_astore (lv' := [(5, .ref q), (0, .ref (b 0)), (1, .int (nI o)), (2, .int (nI k)), (3, .int (nI v)), (4, .int (nI 8))]) hx hb dL_define_15 hl (by decide) rfl (fun ls hl => ?_)
  refine lv_ldc (v := (-900002)) hx hb hown (hts (.constant RL 20 (-900002)) (by decide +kernel)) dL_define_17 ?_
  refine W.widen (k := 1) (n := 6) (Nat.le_of_ble_eq_true rfl) (Nat.le_of_ble_eq_true rfl) ?_
  exact em_int hx hb hr hlocks rfl trivial ⟨hz, fun z h _ => hk z h, fun _ h => by cases h⟩ dL_define_19
set_option maxHeartbeats 4000000 in
set_option maxRecDepth 100000 in
theorem w_define_io (l : Launch) (hfl : l.stackTraces = false) {D : va_G} {cI cO : ClassId} {b : Nat → Nat} {ad : Nat → Nat → Nat} {st : ev_ST} {A : Nat → Prop} (hn : st.1 ≤ 12) {k v r : Nat} : Met l yL_define wsL_define ({ frames := 7, cells := 1, slots := 6, locals := 108 }) (ev_PcX D cI cO A (ev_P D cI cO b ad st) [.ref (b 0), .int (-1), .int (nI k), .int (nI v), .int (nI r)]) (ev_QM (some (.int (-900001))) (fun _ => True) ev_no) 1 6 ev_no := by
  refine ew_body (cc := cL_define) (maxL := 6) (ret := (some .int)) (hh := [(0, 9, 10, 15), (0, 9, 15, 28)]) (by decide) rfl (fun _ _ h => h.1) (Nat.le_of_ble_eq_true rfl) ?_
  intro p e s m args below meth c hx hb hr hml hown hts hlocks hht hv ls hl
  obtain ⟨-, hP, hK, hE⟩ := hv
  have hl : lv_has ls 6 [(0, .ref (b 0)), (1, .int (-1)), (2, .int (nI k)), (3, .int (nI v)), (4, .int (nI r))] := hl
  refine lv_aload_n hx hb dL_define_0 rfl (lv_at hl 0 rfl) ?_
  refine lv_iload_n hx hb dL_define_1 rfl (lv_at hl 1 rfl) ?_
  refine lv_iload_n hx hb dL_define_2 rfl (lv_at hl 2 rfl) ?_
  refine lv_iload_n hx hb dL_define_3 rfl (lv_at hl 3 rfl) ?_
  refine lv_iload hx hb dL_define_4 (lv_at hl 4 rfl) ?_
  refine ev_tv (A := A) (As := [.int (-1), .int (nI k), .int (nI v), .int (nI r)]) (rest := []) ⟨hx, hb, hml, hown, hts⟩ (x_define_io l hfl hn) (cwV 4 hts gL_define_X11_define rfl rfl rfl (by decide +kernel) ⟨Nat.le_of_ble_eq_true rfl, Nat.le_of_ble_eq_true rfl⟩) hP hK hE (ev_recvE hK hP) rfl hl.1 (Nat.le_of_ble_eq_true rfl) dL_define_6 ⟨Nat.le_of_ble_eq_true rfl, Nat.le_of_ble_eq_true rfl⟩ (fun H1 q ce hz hk hce hcv hcl => ?_)
  refine vx_catch hown [] ⟨0, 9, 10, 15⟩ [⟨0, 9, 15, 28⟩] (by rw [hht]; rfl) (fun _ h => by cases h) rfl (by decide) (hts (.classLink RL 15 "java/lang/IndexOutOfBoundsException") (by decide +kernel)) (va_Nw.use rfl (hE.2.2.1 "java/lang/IndexOutOfBoundsException" (by decide))) hce hcv hcl ?_
  refine W.eq (g2 := F0 m 10 ls [.ref q]) rfl ?_
  refine lv_astore (lv' := [(5, .ref q), (0, .ref (b 0)), (1, .int (-1)), (2, .int (nI k)), (3, .int (nI v)), (4, .int (nI r))]) hx hb dL_define_10 hl (by decide) rfl (fun ls hl => ?_)
  refine lv_ldc (v := (-900001)) hx hb hown (hts (.constant RL 17 (-900001)) (by decide +kernel)) dL_define_12 ?_
  refine W.widen (k := 1) (n := 6) (Nat.le_of_ble_eq_true rfl) (Nat.le_of_ble_eq_true rfl) ?_
  exact em_int hx hb hr hlocks rfl trivial ⟨hz, fun z h _ => hk z h, fun _ h => by cases h⟩ dL_define_14
set_option maxHeartbeats 4000000 in
set_option maxRecDepth 100000 in
theorem w_set (l : Launch) {D : va_G} {cI cO : ClassId} {b : Nat → Nat} {ad : Nat → Nat → Nat} {st : ev_ST} {A : Nat → Prop} (hD : va_D A (ev_wl cI cO b ad st)) (hn : st.1 ≤ 12) (hTG : ∀ i, i < st.1 → ∀ j, ev_tg (st.2 i) = some j → j < st.1) (hCH : ∀ i, i < st.1 → ∀ j, ev_ch (st.2 i) = some j → j < st.1) {o : Nat} (ho : o < st.1) {k v : Nat} (hk : k < 20) (hv : v ≤ 9999) (hKP : ∀ j, j < st.1 → ev_holds (st.2 j) k = false → ev_kc (st.2 j) < 20) : Met l yL_set wsL_set ({ frames := 5, cells := 0, slots := 0, locals := 120 }) (ev_Pc D cI cO (ev_P D cI cO b ad st) [.ref (b 0), .int (nI o), .int (nI k), .int (nI v)]) (ev_QM (some (.int (nI (ev_sf st k (nI v) o 30 (some o)).1))) (ev_P D cI cO b ad ((ev_sf st k (nI v) o 30 (some o)).2)) A) 0 0 A := by
  refine ew_body (cc := cL_set) (maxL := 5) (ret := (some .int)) (hh := [(0, 7, 8, 15), (0, 7, 13, 28)]) (by decide) rfl (fun _ _ h => h.1) (Nat.le_of_ble_eq_true rfl) ?_
  intro p e s m args below meth c hx hb hr hml hown hts hlocks hht hv ls hl
  obtain ⟨-, hP, hK⟩ := hv
  have hl : lv_has ls 5 [(0, .ref (b 0)), (1, .int (nI o)), (2, .int (nI k)), (3, .int (nI v))] := hl
  refine lv_aload_n hx hb dL_set_0 rfl (lv_at hl 0 rfl) ?_
  refine lv_iload_n hx hb dL_set_1 rfl (lv_at hl 1 rfl) ?_
  refine lv_iload_n hx hb dL_set_2 rfl (lv_at hl 2 rfl) ?_
  refine lv_iload_n hx hb dL_set_3 rfl (lv_at hl 3 rfl) ?_
  have hS0 : va_S A s.heap s.heap [] := va_S.rf
  refine ev_mv (mc := 0) (ms := 0) (As := [.int (nI o), .int (nI k), .int (nI v)]) (rest := []) ⟨hx, hb, hml, hown, hts⟩ (c_X11_set l hD hn hTG hCH ho hk hv hKP) (cwV 3 hts gL_set_X11_set rfl rfl rfl (by decide +kernel) ⟨Nat.le_of_ble_eq_true rfl, Nat.le_of_ble_eq_true rfl⟩) hP hK hS0 (ev_recvE hK hP) rfl hl.1 (Nat.le_of_ble_eq_true rfl) dL_set_4 ⟨Nat.le_of_ble_eq_true rfl, Nat.le_of_ble_eq_true rfl⟩ (fun H locs hQ hz hk hS => ?_)
  exact em_int hx hb hr hlocks rfl hQ hS dL_set_7
set_option maxHeartbeats 4000000 in
set_option maxRecDepth 100000 in
theorem w_set_ia (l : Launch) (hfl : l.stackTraces = false) {D : va_G} {cI cO : ClassId} {b : Nat → Nat} {ad : Nat → Nat → Nat} {st : ev_ST} {A : Nat → Prop} (hn : st.1 ≤ 12) (hTG : ∀ i, i < st.1 → ∀ j, ev_tg (st.2 i) = some j → j < st.1) {o : Nat} (ho : o < st.1) {k : Nat} (hk : k < 20) : Met l yL_set wsL_set ({ frames := 7, cells := 1, slots := 6, locals := 106 }) (ev_PcX D cI cO A (ev_P D cI cO b ad st) [.ref (b 0), .int (nI o), .int (nI k), .int (nI 10000)]) (ev_QM (some (.int (-900002))) (fun _ => True) ev_no) 1 6 ev_no := by
  refine ew_body (cc := cL_set) (maxL := 5) (ret := (some .int)) (hh := [(0, 7, 8, 15), (0, 7, 13, 28)]) (by decide) rfl (fun _ _ h => h.1) (Nat.le_of_ble_eq_true rfl) ?_
  intro p e s m args below meth c hx hb hr hml hown hts hlocks hht hv ls hl
  obtain ⟨-, hP, hK, hE⟩ := hv
  have hl : lv_has ls 5 [(0, .ref (b 0)), (1, .int (nI o)), (2, .int (nI k)), (3, .int (nI 10000))] := hl
  refine lv_aload_n hx hb dL_set_0 rfl (lv_at hl 0 rfl) ?_
  refine lv_iload_n hx hb dL_set_1 rfl (lv_at hl 1 rfl) ?_
  refine lv_iload_n hx hb dL_set_2 rfl (lv_at hl 2 rfl) ?_
  refine lv_iload_n hx hb dL_set_3 rfl (lv_at hl 3 rfl) ?_
  refine ev_tv (A := A) (As := [.int (nI o), .int (nI k), .int (nI 10000)]) (rest := []) ⟨hx, hb, hml, hown, hts⟩ (x_set_ia l hfl hn hTG ho hk) (cwV 3 hts gL_set_X11_set rfl rfl rfl (by decide +kernel) ⟨Nat.le_of_ble_eq_true rfl, Nat.le_of_ble_eq_true rfl⟩) hP hK hE (ev_recvE hK hP) rfl hl.1 (Nat.le_of_ble_eq_true rfl) dL_set_4 ⟨Nat.le_of_ble_eq_true rfl, Nat.le_of_ble_eq_true rfl⟩ (fun H1 q ce hz hk hce hcv hcl => ?_)
  refine vx_catch hown [⟨0, 7, 8, 15⟩] ⟨0, 7, 13, 28⟩ [] (by rw [hht]; rfl) (fun z h => by rcases List.mem_singleton.mp h with rfl; exact Or.inr ⟨by decide, "java/lang/IndexOutOfBoundsException", hts (.classLink RL 15 "java/lang/IndexOutOfBoundsException") (by decide +kernel), hE.2.2.2.2.1 ("java/lang/IllegalArgumentException", "java/lang/IndexOutOfBoundsException") (by decide)⟩) rfl (by decide) (hts (.classLink RL 28 "java/lang/IllegalArgumentException") (by decide +kernel)) (va_Nw.use rfl (hE.2.2.1 "java/lang/IllegalArgumentException" (by decide))) hce hcv hcl ?_
  refine W.eq (g2 := F0 m 13 ls [.ref q]) rfl ?_
  refine lv_astore (lv' := [(4, .ref q), (0, .ref (b 0)), (1, .int (nI o)), (2, .int (nI k)), (3, .int (nI 10000))]) hx hb dL_set_13 hl (by decide) rfl (fun ls hl => ?_)
  refine lv_ldc (v := (-900002)) hx hb hown (hts (.constant RL 20 (-900002)) (by decide +kernel)) dL_set_15 ?_
  refine W.widen (k := 1) (n := 6) (Nat.le_of_ble_eq_true rfl) (Nat.le_of_ble_eq_true rfl) ?_
  exact em_int hx hb hr hlocks rfl trivial ⟨hz, fun z h _ => hk z h, fun _ h => by cases h⟩ dL_set_17
set_option maxHeartbeats 4000000 in
set_option maxRecDepth 100000 in
theorem w_get (l : Launch) (hfl : l.stackTraces = false) {D : va_G} {cI cO : ClassId} {b : Nat → Nat} {ad : Nat → Nat → Nat} {st : ev_ST} {A : Nat → Prop} (hn : st.1 ≤ 12) (hTG : ∀ i, i < st.1 → ∀ j, ev_tg (st.2 i) = some j → j < st.1) (hCH : ∀ i, i < st.1 → ∀ j, ev_ch (st.2 i) = some j → j < st.1) {o : Nat} (ho : o < st.1) {k : Nat} (hk : k < 20) : Met l yL_get wsL_get ({ frames := 7, cells := 1, slots := 6, locals := 107 }) (ev_PcX D cI cO A (ev_P D cI cO b ad st) [.ref (b 0), .int (nI o), .int (nI k)]) (ev_QM (some (.int (eg_go st k o))) (fun _ => True) ev_no) 1 6 ev_no := by
  refine ew_body (cc := cL_get) (maxL := 4) (ret := (some .int)) (hh := [(0, 6, 7, 15), (0, 6, 11, 38)]) (by decide) rfl (fun _ _ h => h.1) (Nat.le_of_ble_eq_true rfl) ?_
  intro p e s m args below meth c hx hb hr hml hown hts hlocks hht hv ls hl
  obtain ⟨-, hP, hK, hE⟩ := hv
  have hl : lv_has ls 4 [(0, .ref (b 0)), (1, .int (nI o)), (2, .int (nI k))] := hl
  refine lv_aload_n hx hb dL_get_0 rfl (lv_at hl 0 rfl) ?_
  refine lv_iload_n hx hb dL_get_1 rfl (lv_at hl 1 rfl) ?_
  refine lv_iload_n hx hb dL_get_2 rfl (lv_at hl 2 rfl) ?_
  by_cases hF : ev_gf st k 30 (some o) = 1099511627776
  · have eF : eg_go st k o = (-900002) := if_pos hF
    rw [eF]
    refine ev_tv (A := A) (As := [.int (nI o), .int (nI k)]) (rest := []) ⟨hx, hb, hml, hown, hts⟩ (x_get_uo l hfl hn hTG hCH ho hk hF) (cwV 2 hts gL_get_X11_get rfl rfl rfl (by decide +kernel) ⟨Nat.le_of_ble_eq_true rfl, Nat.le_of_ble_eq_true rfl⟩) hP hK hE (ev_recvE hK hP) rfl hl.1 (Nat.le_of_ble_eq_true rfl) dL_get_3 ⟨Nat.le_of_ble_eq_true rfl, Nat.le_of_ble_eq_true rfl⟩ (fun H1 q ce hz hk hce hcv hcl => ?_)
    refine vx_catch hown [⟨0, 6, 7, 15⟩] ⟨0, 6, 11, 38⟩ [] (by rw [hht]; rfl) (fun z h => by rcases List.mem_singleton.mp h with rfl; exact Or.inr ⟨by decide, "java/lang/IndexOutOfBoundsException", hts (.classLink RL 15 "java/lang/IndexOutOfBoundsException") (by decide +kernel), hE.2.2.2.2.1 ("java/lang/UnsupportedOperationException", "java/lang/IndexOutOfBoundsException") (by decide)⟩) rfl (by decide) (hts (.classLink RL 38 "java/lang/UnsupportedOperationException") (by decide +kernel)) (va_Nw.use rfl (hE.2.2.1 "java/lang/UnsupportedOperationException" (by decide))) hce hcv hcl ?_
    refine W.eq (g2 := F0 m 11 ls [.ref q]) rfl ?_
    refine lv_astore_n (lv' := [(3, .ref q), (0, .ref (b 0)), (1, .int (nI o)), (2, .int (nI k))]) hx hb dL_get_11 rfl hl (by decide) rfl (fun ls hl => ?_)
    refine lv_ldc (v := (-900002)) hx hb hown (hts (.constant RL 20 (-900002)) (by decide +kernel)) dL_get_12 ?_
    refine W.widen (k := 1) (n := 6) (Nat.le_of_ble_eq_true rfl) (Nat.le_of_ble_eq_true rfl) ?_
    exact em_int hx hb hr hlocks rfl trivial ⟨hz, fun z h _ => hk z h, fun _ h => by cases h⟩ dL_get_14
  · have eF : eg_go st k o = (ev_gf st k 30 (some o)).toInt32 := if_neg hF
    rw [eF]
    refine ev_cv (As := [.int (nI o), .int (nI k)]) (rest := []) ⟨hx, hb, hml, hown, hts⟩ (c_X11_get l hn hTG hCH ho hk hF) (cwV 2 hts gL_get_X11_get rfl rfl rfl (by decide +kernel) ⟨Nat.le_of_ble_eq_true rfl, Nat.le_of_ble_eq_true rfl⟩) hP hK (ev_recvE hK hP) rfl hl.1 (Nat.le_of_ble_eq_true rfl) dL_get_3 ⟨Nat.le_of_ble_eq_true rfl, Nat.le_of_ble_eq_true rfl⟩ ?_
    refine W.widen (k := 1) (n := 6) (Nat.le_of_ble_eq_true rfl) (Nat.le_of_ble_eq_true rfl) ?_
    exact em_int hx hb hr hlocks rfl trivial va_S.rf dL_get_6
set_option maxHeartbeats 4000000 in
set_option maxRecDepth 100000 in
theorem w_get_io (l : Launch) (hfl : l.stackTraces = false) {D : va_G} {cI cO : ClassId} {b : Nat → Nat} {ad : Nat → Nat → Nat} {st : ev_ST} {A : Nat → Prop} (hn : st.1 ≤ 12) (hbad : st.1 ≤ 7) {k : Nat} : Met l yL_get wsL_get ({ frames := 7, cells := 1, slots := 6, locals := 107 }) (ev_PcX D cI cO A (ev_P D cI cO b ad st) [.ref (b 0), .int (nI 7), .int (nI k)]) (ev_QM (some (.int (-900001))) (fun _ => True) ev_no) 1 6 ev_no := by
  refine ew_body (cc := cL_get) (maxL := 4) (ret := (some .int)) (hh := [(0, 6, 7, 15), (0, 6, 11, 38)]) (by decide) rfl (fun _ _ h => h.1) (Nat.le_of_ble_eq_true rfl) ?_
  intro p e s m args below meth c hx hb hr hml hown hts hlocks hht hv ls hl
  obtain ⟨-, hP, hK, hE⟩ := hv
  have hl : lv_has ls 4 [(0, .ref (b 0)), (1, .int (nI 7)), (2, .int (nI k))] := hl
  refine lv_aload_n hx hb dL_get_0 rfl (lv_at hl 0 rfl) ?_
  refine lv_iload_n hx hb dL_get_1 rfl (lv_at hl 1 rfl) ?_
  refine lv_iload_n hx hb dL_get_2 rfl (lv_at hl 2 rfl) ?_
  refine ev_tv (A := A) (As := [.int (nI 7), .int (nI k)]) (rest := []) ⟨hx, hb, hml, hown, hts⟩ (x_get_io l hfl hn hbad) (cwV 2 hts gL_get_X11_get rfl rfl rfl (by decide +kernel) ⟨Nat.le_of_ble_eq_true rfl, Nat.le_of_ble_eq_true rfl⟩) hP hK hE (ev_recvE hK hP) rfl hl.1 (Nat.le_of_ble_eq_true rfl) dL_get_3 ⟨Nat.le_of_ble_eq_true rfl, Nat.le_of_ble_eq_true rfl⟩ (fun H1 q ce hz hk hce hcv hcl => ?_)
  refine vx_catch hown [] ⟨0, 6, 7, 15⟩ [⟨0, 6, 11, 38⟩] (by rw [hht]; rfl) (fun _ h => by cases h) rfl (by decide) (hts (.classLink RL 15 "java/lang/IndexOutOfBoundsException") (by decide +kernel)) (va_Nw.use rfl (hE.2.2.1 "java/lang/IndexOutOfBoundsException" (by decide))) hce hcv hcl ?_
  refine W.eq (g2 := F0 m 7 ls [.ref q]) rfl ?_
  refine lv_astore_n (lv' := [(3, .ref q), (0, .ref (b 0)), (1, .int (nI 7)), (2, .int (nI k))]) hx hb dL_get_7 rfl hl (by decide) rfl (fun ls hl => ?_)
  refine lv_ldc (v := (-900001)) hx hb hown (hts (.constant RL 17 (-900001)) (by decide +kernel)) dL_get_8 ?_
  refine W.widen (k := 1) (n := 6) (Nat.le_of_ble_eq_true rfl) (Nat.le_of_ble_eq_true rfl) ?_
  exact em_int hx hb hr hlocks rfl trivial ⟨hz, fun z h _ => hk z h, fun _ h => by cases h⟩ dL_get_10
set_option maxHeartbeats 4000000 in
set_option maxRecDepth 100000 in
theorem w_has (l : Launch) {D : va_G} {cI cO : ClassId} {b : Nat → Nat} {ad : Nat → Nat → Nat} {st : ev_ST} {A : Nat → Prop} (hn : st.1 ≤ 12) (hTG : ∀ i, i < st.1 → ∀ j, ev_tg (st.2 i) = some j → j < st.1) (hCH : ∀ i, i < st.1 → ∀ j, ev_ch (st.2 i) = some j → j < st.1) {o : Nat} (ho : o < st.1) {k : Nat} (hk : k < 20) : Met l yL_has wsL_has ({ frames := 4, cells := 1, slots := 6, locals := 92 }) (ev_PcX D cI cO A (ev_P D cI cO b ad st) [.ref (b 0), .int (nI o), .int (nI k)]) (ev_QM (some (.int (nI (ev_af st k 30 (some o))))) (fun _ => True) ev_no) 1 6 ev_no := by
  refine ew_body (cc := cL_has) (maxL := 4) (ret := (some .int)) (hh := [(0, 6, 7, 15)]) (by decide) rfl (fun _ _ h => h.1) (Nat.le_of_ble_eq_true rfl) ?_
  intro p e s m args below meth c hx hb hr hml hown hts hlocks hht hv ls hl
  obtain ⟨-, hP, hK, hE⟩ := hv
  have hl : lv_has ls 4 [(0, .ref (b 0)), (1, .int (nI o)), (2, .int (nI k))] := hl
  refine lv_aload_n hx hb dL_has_0 rfl (lv_at hl 0 rfl) ?_
  refine lv_iload_n hx hb dL_has_1 rfl (lv_at hl 1 rfl) ?_
  refine lv_iload_n hx hb dL_has_2 rfl (lv_at hl 2 rfl) ?_
  refine ev_cv (As := [.int (nI o), .int (nI k)]) (rest := []) ⟨hx, hb, hml, hown, hts⟩ (c_X11_has l hn hTG hCH ho hk) (cwV 2 hts gL_has_X11_has rfl rfl rfl (by decide +kernel) ⟨Nat.le_of_ble_eq_true rfl, Nat.le_of_ble_eq_true rfl⟩) hP hK (ev_recvE hK hP) rfl hl.1 (Nat.le_of_ble_eq_true rfl) dL_has_3 ⟨Nat.le_of_ble_eq_true rfl, Nat.le_of_ble_eq_true rfl⟩ ?_
  refine W.widen (k := 1) (n := 6) (Nat.le_of_ble_eq_true rfl) (Nat.le_of_ble_eq_true rfl) ?_
  exact em_int hx hb hr hlocks rfl trivial va_S.rf dL_has_6
set_option maxHeartbeats 4000000 in
set_option maxRecDepth 100000 in
theorem w_has_io (l : Launch) (hfl : l.stackTraces = false) {D : va_G} {cI cO : ClassId} {b : Nat → Nat} {ad : Nat → Nat → Nat} {st : ev_ST} {A : Nat → Prop} (hn : st.1 ≤ 12) (hTG : ∀ i, i < st.1 → ∀ j, ev_tg (st.2 i) = some j → j < st.1) {o : Nat} (ho : o < st.1) : Met l yL_has wsL_has ({ frames := 7, cells := 1, slots := 6, locals := 105 }) (ev_PcX D cI cO A (ev_P D cI cO b ad st) [.ref (b 0), .int (nI o), .int (nI 20)]) (ev_QM (some (.int (-900001))) (fun _ => True) ev_no) 1 6 ev_no := by
  refine ew_body (cc := cL_has) (maxL := 4) (ret := (some .int)) (hh := [(0, 6, 7, 15)]) (by decide) rfl (fun _ _ h => h.1) (Nat.le_of_ble_eq_true rfl) ?_
  intro p e s m args below meth c hx hb hr hml hown hts hlocks hht hv ls hl
  obtain ⟨-, hP, hK, hE⟩ := hv
  have hl : lv_has ls 4 [(0, .ref (b 0)), (1, .int (nI o)), (2, .int (nI 20))] := hl
  refine lv_aload_n hx hb dL_has_0 rfl (lv_at hl 0 rfl) ?_
  refine lv_iload_n hx hb dL_has_1 rfl (lv_at hl 1 rfl) ?_
  refine lv_iload_n hx hb dL_has_2 rfl (lv_at hl 2 rfl) ?_
  refine ev_tv (A := A) (As := [.int (nI o), .int (nI 20)]) (rest := []) ⟨hx, hb, hml, hown, hts⟩ (x_has_io l hfl hn hTG ho) (cwV 2 hts gL_has_X11_has rfl rfl rfl (by decide +kernel) ⟨Nat.le_of_ble_eq_true rfl, Nat.le_of_ble_eq_true rfl⟩) hP hK hE (ev_recvE hK hP) rfl hl.1 (Nat.le_of_ble_eq_true rfl) dL_has_3 ⟨Nat.le_of_ble_eq_true rfl, Nat.le_of_ble_eq_true rfl⟩ (fun H1 q ce hz hk hce hcv hcl => ?_)
  refine vx_catch hown [] ⟨0, 6, 7, 15⟩ [] (by rw [hht]; rfl) (fun _ h => by cases h) rfl (by decide) (hts (.classLink RL 15 "java/lang/IndexOutOfBoundsException") (by decide +kernel)) (va_Nw.use rfl (hE.2.2.1 "java/lang/IndexOutOfBoundsException" (by decide))) hce hcv hcl ?_
  refine W.eq (g2 := F0 m 7 ls [.ref q]) rfl ?_
  refine lv_astore_n (lv' := [(3, .ref q), (0, .ref (b 0)), (1, .int (nI o)), (2, .int (nI 20))]) hx hb dL_has_7 rfl hl (by decide) rfl (fun ls hl => ?_)
  refine lv_ldc (v := (-900001)) hx hb hown (hts (.constant RL 17 (-900001)) (by decide +kernel)) dL_has_8 ?_
  refine W.widen (k := 1) (n := 6) (Nat.le_of_ble_eq_true rfl) (Nat.le_of_ble_eq_true rfl) ?_
  exact em_int hx hb hr hlocks rfl trivial ⟨hz, fun z h _ => hk z h, fun _ h => by cases h⟩ dL_has_10
set_option maxHeartbeats 4000000 in
set_option maxRecDepth 100000 in
theorem w_delete (l : Launch) {D : va_G} {cI cO : ClassId} {b : Nat → Nat} {ad : Nat → Nat → Nat} {st : ev_ST} {A : Nat → Prop} (hD : va_D A (ev_wl cI cO b ad st)) (hn : st.1 ≤ 12) (hTG : ∀ i, i < st.1 → ∀ j, ev_tg (st.2 i) = some j → j < st.1) {o : Nat} (ho : o < st.1) {k : Nat} (hk : k < 20) (hKC : ∀ j, j < st.1 → ev_kc (st.2 j) ≤ 20) : Met l yL_delete wsL_delete ({ frames := 4, cells := 0, slots := 0, locals := 94 }) (ev_Pc D cI cO (ev_P D cI cO b ad st) [.ref (b 0), .int (nI o), .int (nI k)]) (ev_QM (some (.int (nI (ev_df st k 12 (some o)).1))) (ev_P D cI cO b ad ((ev_df st k 12 (some o)).2)) A) 0 0 A := by
  refine ew_body (cc := cL_delete) (maxL := 4) (ret := (some .int)) (hh := [(0, 6, 7, 15)]) (by decide) rfl (fun _ _ h => h.1) (Nat.le_of_ble_eq_true rfl) ?_
  intro p e s m args below meth c hx hb hr hml hown hts hlocks hht hv ls hl
  obtain ⟨-, hP, hK⟩ := hv
  have hl : lv_has ls 4 [(0, .ref (b 0)), (1, .int (nI o)), (2, .int (nI k))] := hl
  refine lv_aload_n hx hb dL_delete_0 rfl (lv_at hl 0 rfl) ?_
  refine lv_iload_n hx hb dL_delete_1 rfl (lv_at hl 1 rfl) ?_
  refine lv_iload_n hx hb dL_delete_2 rfl (lv_at hl 2 rfl) ?_
  have hS0 : va_S A s.heap s.heap [] := va_S.rf
  refine ev_mv (mc := 0) (ms := 0) (As := [.int (nI o), .int (nI k)]) (rest := []) ⟨hx, hb, hml, hown, hts⟩ (c_X11_delete l hD hn hTG ho hk hKC) (cwV 2 hts gL_delete_X11_delete rfl rfl rfl (by decide +kernel) ⟨Nat.le_of_ble_eq_true rfl, Nat.le_of_ble_eq_true rfl⟩) hP hK hS0 (ev_recvE hK hP) rfl hl.1 (Nat.le_of_ble_eq_true rfl) dL_delete_3 ⟨Nat.le_of_ble_eq_true rfl, Nat.le_of_ble_eq_true rfl⟩ (fun H locs hQ hz hk hS => ?_)
  exact em_int hx hb hr hlocks rfl hQ hS dL_delete_6
set_option maxHeartbeats 4000000 in
set_option maxRecDepth 100000 in
theorem w_delete_io (l : Launch) (hfl : l.stackTraces = false) {D : va_G} {cI cO : ClassId} {b : Nat → Nat} {ad : Nat → Nat → Nat} {st : ev_ST} {A : Nat → Prop} (hn : st.1 ≤ 12) (hTG : ∀ i, i < st.1 → ∀ j, ev_tg (st.2 i) = some j → j < st.1) {o : Nat} (ho : o < st.1) : Met l yL_delete wsL_delete ({ frames := 7, cells := 1, slots := 6, locals := 105 }) (ev_PcX D cI cO A (ev_P D cI cO b ad st) [.ref (b 0), .int (nI o), .int (-1)]) (ev_QM (some (.int (-900001))) (fun _ => True) ev_no) 1 6 ev_no := by
  refine ew_body (cc := cL_delete) (maxL := 4) (ret := (some .int)) (hh := [(0, 6, 7, 15)]) (by decide) rfl (fun _ _ h => h.1) (Nat.le_of_ble_eq_true rfl) ?_
  intro p e s m args below meth c hx hb hr hml hown hts hlocks hht hv ls hl
  obtain ⟨-, hP, hK, hE⟩ := hv
  have hl : lv_has ls 4 [(0, .ref (b 0)), (1, .int (nI o)), (2, .int (-1))] := hl
  refine lv_aload_n hx hb dL_delete_0 rfl (lv_at hl 0 rfl) ?_
  refine lv_iload_n hx hb dL_delete_1 rfl (lv_at hl 1 rfl) ?_
  refine lv_iload_n hx hb dL_delete_2 rfl (lv_at hl 2 rfl) ?_
  refine ev_tv (A := A) (As := [.int (nI o), .int (-1)]) (rest := []) ⟨hx, hb, hml, hown, hts⟩ (x_delete_io l hfl hn hTG ho) (cwV 2 hts gL_delete_X11_delete rfl rfl rfl (by decide +kernel) ⟨Nat.le_of_ble_eq_true rfl, Nat.le_of_ble_eq_true rfl⟩) hP hK hE (ev_recvE hK hP) rfl hl.1 (Nat.le_of_ble_eq_true rfl) dL_delete_3 ⟨Nat.le_of_ble_eq_true rfl, Nat.le_of_ble_eq_true rfl⟩ (fun H1 q ce hz hk hce hcv hcl => ?_)
  refine vx_catch hown [] ⟨0, 6, 7, 15⟩ [] (by rw [hht]; rfl) (fun _ h => by cases h) rfl (by decide) (hts (.classLink RL 15 "java/lang/IndexOutOfBoundsException") (by decide +kernel)) (va_Nw.use rfl (hE.2.2.1 "java/lang/IndexOutOfBoundsException" (by decide))) hce hcv hcl ?_
  refine W.eq (g2 := F0 m 7 ls [.ref q]) rfl ?_
  refine lv_astore_n (lv' := [(3, .ref q), (0, .ref (b 0)), (1, .int (nI o)), (2, .int (-1))]) hx hb dL_delete_7 rfl hl (by decide) rfl (fun ls hl => ?_)
  refine lv_ldc (v := (-900001)) hx hb hown (hts (.constant RL 17 (-900001)) (by decide +kernel)) dL_delete_8 ?_
  refine W.widen (k := 1) (n := 6) (Nat.le_of_ble_eq_true rfl) (Nat.le_of_ble_eq_true rfl) ?_
  exact em_int hx hb hr hlocks rfl trivial ⟨hz, fun z h _ => hk z h, fun _ h => by cases h⟩ dL_delete_10
set_option maxHeartbeats 4000000 in
set_option maxRecDepth 100000 in
theorem w_close (l : Launch) {D : va_G} {cI cO : ClassId} {b : Nat → Nat} {ad : Nat → Nat → Nat} {st : ev_ST} {A : Nat → Prop} (hD : va_D A (ev_wl cI cO b ad st)) (hn : st.1 ≤ 12) (hTG : ∀ i, i < st.1 → ∀ j, ev_tg (st.2 i) = some j → j < st.1) {o : Nat} (ho : o < st.1) : Met l yL_closeObject wsL_closeObject ({ frames := 3, cells := 0, slots := 0, locals := 66 }) (ev_Pc D cI cO (ev_P D cI cO b ad st) [.ref (b 0), .int (nI o)]) (ev_QM (some (.int (nI (ev_cl st o).1))) (ev_P D cI cO b ad ((ev_cl st o).2)) A) 0 0 A := by
  refine ew_body (cc := cL_closeObject) (maxL := 3) (ret := (some .int)) (hh := [(0, 5, 6, 15)]) (by decide) rfl (fun _ _ h => h.1) (Nat.le_of_ble_eq_true rfl) ?_
  intro p e s m args below meth c hx hb hr hml hown hts hlocks hht hv ls hl
  obtain ⟨-, hP, hK⟩ := hv
  have hl : lv_has ls 3 [(0, .ref (b 0)), (1, .int (nI o))] := hl
  refine lv_aload_n hx hb dL_closeObject_0 rfl (lv_at hl 0 rfl) ?_
  refine lv_iload_n hx hb dL_closeObject_1 rfl (lv_at hl 1 rfl) ?_
  have hS0 : va_S A s.heap s.heap [] := va_S.rf
  refine ev_mv (mc := 0) (ms := 0) (As := [.int (nI o)]) (rest := []) ⟨hx, hb, hml, hown, hts⟩ (c_X11_closeObject l hD hn hTG ho) (cwV 1 hts gL_closeObject_X11_closeObject rfl rfl rfl (by decide +kernel) ⟨Nat.le_of_ble_eq_true rfl, Nat.le_of_ble_eq_true rfl⟩) hP hK hS0 (ev_recvE hK hP) rfl hl.1 (Nat.le_of_ble_eq_true rfl) dL_closeObject_2 ⟨Nat.le_of_ble_eq_true rfl, Nat.le_of_ble_eq_true rfl⟩ (fun H locs hQ hz hk hS => ?_)
  exact em_int hx hb hr hlocks rfl hQ hS dL_closeObject_5
set_option maxHeartbeats 4000000 in
set_option maxRecDepth 100000 in
theorem w_close_io (l : Launch) (hfl : l.stackTraces = false) {D : va_G} {cI cO : ClassId} {b : Nat → Nat} {ad : Nat → Nat → Nat} {st : ev_ST} {A : Nat → Prop} (hn : st.1 ≤ 12) (hbad : st.1 ≤ 7) : Met l yL_closeObject wsL_closeObject ({ frames := 7, cells := 1, slots := 6, locals := 105 }) (ev_PcX D cI cO A (ev_P D cI cO b ad st) [.ref (b 0), .int (nI 7)]) (ev_QM (some (.int (-900001))) (fun _ => True) ev_no) 1 6 ev_no := by
  refine ew_body (cc := cL_closeObject) (maxL := 3) (ret := (some .int)) (hh := [(0, 5, 6, 15)]) (by decide) rfl (fun _ _ h => h.1) (Nat.le_of_ble_eq_true rfl) ?_
  intro p e s m args below meth c hx hb hr hml hown hts hlocks hht hv ls hl
  obtain ⟨-, hP, hK, hE⟩ := hv
  have hl : lv_has ls 3 [(0, .ref (b 0)), (1, .int (nI 7))] := hl
  refine lv_aload_n hx hb dL_closeObject_0 rfl (lv_at hl 0 rfl) ?_
  refine lv_iload_n hx hb dL_closeObject_1 rfl (lv_at hl 1 rfl) ?_
  refine ev_tv (A := A) (As := [.int (nI 7)]) (rest := []) ⟨hx, hb, hml, hown, hts⟩ (x_close_io l hfl hn hbad) (cwV 1 hts gL_closeObject_X11_closeObject rfl rfl rfl (by decide +kernel) ⟨Nat.le_of_ble_eq_true rfl, Nat.le_of_ble_eq_true rfl⟩) hP hK hE (ev_recvE hK hP) rfl hl.1 (Nat.le_of_ble_eq_true rfl) dL_closeObject_2 ⟨Nat.le_of_ble_eq_true rfl, Nat.le_of_ble_eq_true rfl⟩ (fun H1 q ce hz hk hce hcv hcl => ?_)
  refine vx_catch hown [] ⟨0, 5, 6, 15⟩ [] (by rw [hht]; rfl) (fun _ h => by cases h) rfl (by decide) (hts (.classLink RL 15 "java/lang/IndexOutOfBoundsException") (by decide +kernel)) (va_Nw.use rfl (hE.2.2.1 "java/lang/IndexOutOfBoundsException" (by decide))) hce hcv hcl ?_
  refine W.eq (g2 := F0 m 6 ls [.ref q]) rfl ?_
  refine lv_astore_n (lv' := [(2, .ref q), (0, .ref (b 0)), (1, .int (nI 7))]) hx hb dL_closeObject_6 rfl hl (by decide) rfl (fun ls hl => ?_)
  refine lv_ldc (v := (-900001)) hx hb hown (hts (.constant RL 17 (-900001)) (by decide +kernel)) dL_closeObject_7 ?_
  refine W.widen (k := 1) (n := 6) (Nat.le_of_ble_eq_true rfl) (Nat.le_of_ble_eq_true rfl) ?_
  exact em_int hx hb hr hlocks rfl trivial ⟨hz, fun z h _ => hk z h, fun _ h => by cases h⟩ dL_closeObject_9
set_option maxHeartbeats 4000000 in
set_option maxRecDepth 100000 in
theorem w_setChain_a (l : Launch) {D : va_G} {cI cO : ClassId} {b : Nat → Nat} {ad : Nat → Nat → Nat} {st : ev_ST} {A : Nat → Prop} (hn : st.1 ≤ 12) (hTG : ∀ i, i < st.1 → ∀ j, ev_tg (st.2 i) = some j → j < st.1) {o : Nat} (ho : o < st.1) (hpb : ev_pb st 12 (some o) = some o) (hch : ev_ch (st.2 o) = none) : Met l yL_setChain wsL_setChain ({ frames := 3, cells := 1, slots := 6, locals := 68 }) (ev_PcX D cI cO A (ev_P D cI cO b ad st) [.ref (b 0), .int (nI o), .int (-1)]) (ev_QM (some (.int (nI 121))) (fun _ => True) ev_no) 1 6 ev_no := by
  refine ew_body (cc := cL_setChain) (maxL := 4) (ret := (some .int)) (hh := [(0, 6, 7, 15)]) (by decide) rfl (fun _ _ h => h.1) (Nat.le_of_ble_eq_true rfl) ?_
  intro p e s m args below meth c hx hb hr hml hown hts hlocks hht hv ls hl
  obtain ⟨-, hP, hK, hE⟩ := hv
  have hl : lv_has ls 4 [(0, .ref (b 0)), (1, .int (nI o)), (2, .int (-1))] := hl
  refine lv_aload_n hx hb dL_setChain_0 rfl (lv_at hl 0 rfl) ?_
  refine lv_iload_n hx hb dL_setChain_1 rfl (lv_at hl 1 rfl) ?_
  refine lv_iload_n hx hb dL_setChain_2 rfl (lv_at hl 2 rfl) ?_
  refine ev_cv (As := [.int (nI o), .int (-1)]) (rest := []) ⟨hx, hb, hml, hown, hts⟩ (c_X11_setChain_a l hn hTG ho hpb hch) (cwV 2 hts gL_setChain_X11_setChain rfl rfl rfl (by decide +kernel) ⟨Nat.le_of_ble_eq_true rfl, Nat.le_of_ble_eq_true rfl⟩) hP hK (ev_recvE hK hP) rfl hl.1 (Nat.le_of_ble_eq_true rfl) dL_setChain_3 ⟨Nat.le_of_ble_eq_true rfl, Nat.le_of_ble_eq_true rfl⟩ ?_
  refine W.widen (k := 1) (n := 6) (Nat.le_of_ble_eq_true rfl) (Nat.le_of_ble_eq_true rfl) ?_
  exact em_int hx hb hr hlocks rfl trivial va_S.rf dL_setChain_6
set_option maxHeartbeats 4000000 in
set_option maxRecDepth 100000 in
theorem w_setChain_b (l : Launch) {D : va_G} {cI cO : ClassId} {b : Nat → Nat} {ad : Nat → Nat → Nat} {st : ev_ST} {A : Nat → Prop} (hn : st.1 ≤ 12) (hTG : ∀ i, i < st.1 → ∀ j, ev_tg (st.2 i) = some j → j < st.1) {o : Nat} (ho : o < st.1) (hpb : ev_pb st 12 (some o) = some o) (hch : ev_ch (st.2 o) = none) (htg : ev_tg (st.2 o) = none) : Met l yL_setChain wsL_setChain ({ frames := 3, cells := 1, slots := 6, locals := 69 }) (ev_PcX D cI cO A (ev_P D cI cO b ad st) [.ref (b 0), .int (nI o), .int (nI o)]) (ev_QM (some (.int (nI 110))) (fun _ => True) ev_no) 1 6 ev_no := by
  refine ew_body (cc := cL_setChain) (maxL := 4) (ret := (some .int)) (hh := [(0, 6, 7, 15)]) (by decide) rfl (fun _ _ h => h.1) (Nat.le_of_ble_eq_true rfl) ?_
  intro p e s m args below meth c hx hb hr hml hown hts hlocks hht hv ls hl
  obtain ⟨-, hP, hK, hE⟩ := hv
  have hl : lv_has ls 4 [(0, .ref (b 0)), (1, .int (nI o)), (2, .int (nI o))] := hl
  refine lv_aload_n hx hb dL_setChain_0 rfl (lv_at hl 0 rfl) ?_
  refine lv_iload_n hx hb dL_setChain_1 rfl (lv_at hl 1 rfl) ?_
  refine lv_iload_n hx hb dL_setChain_2 rfl (lv_at hl 2 rfl) ?_
  refine ev_cv (As := [.int (nI o), .int (nI o)]) (rest := []) ⟨hx, hb, hml, hown, hts⟩ (c_X11_setChain_b l hn hTG ho hpb hch htg) (cwV 2 hts gL_setChain_X11_setChain rfl rfl rfl (by decide +kernel) ⟨Nat.le_of_ble_eq_true rfl, Nat.le_of_ble_eq_true rfl⟩) hP hK (ev_recvE hK hP) rfl hl.1 (Nat.le_of_ble_eq_true rfl) dL_setChain_3 ⟨Nat.le_of_ble_eq_true rfl, Nat.le_of_ble_eq_true rfl⟩ ?_
  refine W.widen (k := 1) (n := 6) (Nat.le_of_ble_eq_true rfl) (Nat.le_of_ble_eq_true rfl) ?_
  exact em_int hx hb hr hlocks rfl trivial va_S.rf dL_setChain_6
set_option maxHeartbeats 4000000 in
set_option maxRecDepth 100000 in
theorem w_setChain_c (l : Launch) {D : va_G} {cI cO : ClassId} {b : Nat → Nat} {ad : Nat → Nat → Nat} {st : ev_ST} {A : Nat → Prop} (hn : st.1 ≤ 12) (hTG : ∀ i, i < st.1 → ∀ j, ev_tg (st.2 i) = some j → j < st.1) {o : Nat} (ho : o < st.1) (hpb : ev_pb st 12 (some o) = none) : Met l yL_setChain wsL_setChain ({ frames := 3, cells := 1, slots := 6, locals := 68 }) (ev_PcX D cI cO A (ev_P D cI cO b ad st) [.ref (b 0), .int (nI o), .int (-1)]) (ev_QM (some (.int (nI 84))) (fun _ => True) ev_no) 1 6 ev_no := by
  refine ew_body (cc := cL_setChain) (maxL := 4) (ret := (some .int)) (hh := [(0, 6, 7, 15)]) (by decide) rfl (fun _ _ h => h.1) (Nat.le_of_ble_eq_true rfl) ?_
  intro p e s m args below meth c hx hb hr hml hown hts hlocks hht hv ls hl
  obtain ⟨-, hP, hK, hE⟩ := hv
  have hl : lv_has ls 4 [(0, .ref (b 0)), (1, .int (nI o)), (2, .int (-1))] := hl
  refine lv_aload_n hx hb dL_setChain_0 rfl (lv_at hl 0 rfl) ?_
  refine lv_iload_n hx hb dL_setChain_1 rfl (lv_at hl 1 rfl) ?_
  refine lv_iload_n hx hb dL_setChain_2 rfl (lv_at hl 2 rfl) ?_
  refine ev_cv (As := [.int (nI o), .int (-1)]) (rest := []) ⟨hx, hb, hml, hown, hts⟩ (c_X11_setChain_c l hn hTG ho hpb) (cwV 2 hts gL_setChain_X11_setChain rfl rfl rfl (by decide +kernel) ⟨Nat.le_of_ble_eq_true rfl, Nat.le_of_ble_eq_true rfl⟩) hP hK (ev_recvE hK hP) rfl hl.1 (Nat.le_of_ble_eq_true rfl) dL_setChain_3 ⟨Nat.le_of_ble_eq_true rfl, Nat.le_of_ble_eq_true rfl⟩ ?_
  refine W.widen (k := 1) (n := 6) (Nat.le_of_ble_eq_true rfl) (Nat.le_of_ble_eq_true rfl) ?_
  exact em_int hx hb hr hlocks rfl trivial va_S.rf dL_setChain_6
set_option maxHeartbeats 4000000 in
set_option maxRecDepth 100000 in
theorem w_setChain_io (l : Launch) (hfl : l.stackTraces = false) {D : va_G} {cI cO : ClassId} {b : Nat → Nat} {ad : Nat → Nat → Nat} {st : ev_ST} {A : Nat → Prop} (hn : st.1 ≤ 12) (hTG : ∀ i, i < st.1 → ∀ j, ev_tg (st.2 i) = some j → j < st.1) (hbad : st.1 ≤ 7) {o : Nat} (ho : o < st.1) : Met l yL_setChain wsL_setChain ({ frames := 7, cells := 1, slots := 6, locals := 107 }) (ev_PcX D cI cO A (ev_P D cI cO b ad st) [.ref (b 0), .int (nI o), .int (nI 7)]) (ev_QM (some (.int (-900001))) (fun _ => True) ev_no) 1 6 ev_no := by
  refine ew_body (cc := cL_setChain) (maxL := 4) (ret := (some .int)) (hh := [(0, 6, 7, 15)]) (by decide) rfl (fun _ _ h => h.1) (Nat.le_of_ble_eq_true rfl) ?_
  intro p e s m args below meth c hx hb hr hml hown hts hlocks hht hv ls hl
  obtain ⟨-, hP, hK, hE⟩ := hv
  have hl : lv_has ls 4 [(0, .ref (b 0)), (1, .int (nI o)), (2, .int (nI 7))] := hl
  refine lv_aload_n hx hb dL_setChain_0 rfl (lv_at hl 0 rfl) ?_
  refine lv_iload_n hx hb dL_setChain_1 rfl (lv_at hl 1 rfl) ?_
  refine lv_iload_n hx hb dL_setChain_2 rfl (lv_at hl 2 rfl) ?_
  refine ev_tv (A := A) (As := [.int (nI o), .int (nI 7)]) (rest := []) ⟨hx, hb, hml, hown, hts⟩ (x_setChain_io l hfl hn hTG hbad ho) (cwV 2 hts gL_setChain_X11_setChain rfl rfl rfl (by decide +kernel) ⟨Nat.le_of_ble_eq_true rfl, Nat.le_of_ble_eq_true rfl⟩) hP hK hE (ev_recvE hK hP) rfl hl.1 (Nat.le_of_ble_eq_true rfl) dL_setChain_3 ⟨Nat.le_of_ble_eq_true rfl, Nat.le_of_ble_eq_true rfl⟩ (fun H1 q ce hz hk hce hcv hcl => ?_)
  refine vx_catch hown [] ⟨0, 6, 7, 15⟩ [] (by rw [hht]; rfl) (fun _ h => by cases h) rfl (by decide) (hts (.classLink RL 15 "java/lang/IndexOutOfBoundsException") (by decide +kernel)) (va_Nw.use rfl (hE.2.2.1 "java/lang/IndexOutOfBoundsException" (by decide))) hce hcv hcl ?_
  refine W.eq (g2 := F0 m 7 ls [.ref q]) rfl ?_
  refine lv_astore_n (lv' := [(3, .ref q), (0, .ref (b 0)), (1, .int (nI o)), (2, .int (nI 7))]) hx hb dL_setChain_7 rfl hl (by decide) rfl (fun ls hl => ?_)
  refine lv_ldc (v := (-900001)) hx hb hown (hts (.constant RL 17 (-900001)) (by decide +kernel)) dL_setChain_8 ?_
  refine W.widen (k := 1) (n := 6) (Nat.le_of_ble_eq_true rfl) (Nat.le_of_ble_eq_true rfl) ?_
  exact em_int hx hb hr hlocks rfl trivial ⟨hz, fun z h _ => hk z h, fun _ h => by cases h⟩ dL_setChain_10
set_option maxHeartbeats 4000000 in
set_option maxRecDepth 100000 in
theorem w_keys (l : Launch) {D : va_G} {cI cO : ClassId} {b : Nat → Nat} {ad : Nat → Nat → Nat} {st : ev_ST} {A : Nat → Prop} (hn : st.1 ≤ 12) (hTG : ∀ i, i < st.1 → ∀ j, ev_tg (st.2 i) = some j → j < st.1) {o : Nat} (ho : o < st.1) {j : Nat} (hpb : ev_pb st 12 (some o) = some j) : Met l yL_keys wsL_keys ({ frames := 3, cells := 1, slots := 6, locals := 66 }) (ev_PcX D cI cO A (ev_P D cI cO b ad st) [.ref (b 0), .int (nI o)]) (ev_QM (some (.int (nI (ev_kc (st.2 j))))) (fun _ => True) ev_no) 1 6 ev_no := by
  refine ew_body (cc := cL_keys) (maxL := 3) (ret := (some .int)) (hh := [(0, 5, 6, 15), (0, 5, 10, 38)]) (by decide) rfl (fun _ _ h => h.1) (Nat.le_of_ble_eq_true rfl) ?_
  intro p e s m args below meth c hx hb hr hml hown hts hlocks hht hv ls hl
  obtain ⟨-, hP, hK, hE⟩ := hv
  have hl : lv_has ls 3 [(0, .ref (b 0)), (1, .int (nI o))] := hl
  refine lv_aload_n hx hb dL_keys_0 rfl (lv_at hl 0 rfl) ?_
  refine lv_iload_n hx hb dL_keys_1 rfl (lv_at hl 1 rfl) ?_
  refine ev_cv (As := [.int (nI o)]) (rest := []) ⟨hx, hb, hml, hown, hts⟩ (c_X11_keys l hn hTG ho hpb) (cwV 1 hts gL_keys_X11_keys rfl rfl rfl (by decide +kernel) ⟨Nat.le_of_ble_eq_true rfl, Nat.le_of_ble_eq_true rfl⟩) hP hK (ev_recvE hK hP) rfl hl.1 (Nat.le_of_ble_eq_true rfl) dL_keys_2 ⟨Nat.le_of_ble_eq_true rfl, Nat.le_of_ble_eq_true rfl⟩ ?_
  refine W.widen (k := 1) (n := 6) (Nat.le_of_ble_eq_true rfl) (Nat.le_of_ble_eq_true rfl) ?_
  exact em_int hx hb hr hlocks rfl trivial va_S.rf dL_keys_5
set_option maxHeartbeats 4000000 in
set_option maxRecDepth 100000 in
theorem w_keys_uo (l : Launch) (hfl : l.stackTraces = false) {D : va_G} {cI cO : ClassId} {b : Nat → Nat} {ad : Nat → Nat → Nat} {st : ev_ST} {A : Nat → Prop} (hn : st.1 ≤ 12) (hTG : ∀ i, i < st.1 → ∀ j, ev_tg (st.2 i) = some j → j < st.1) {o : Nat} (ho : o < st.1) (hpb : ev_pb st 12 (some o) = none) : Met l yL_keys wsL_keys ({ frames := 7, cells := 1, slots := 6, locals := 105 }) (ev_PcX D cI cO A (ev_P D cI cO b ad st) [.ref (b 0), .int (nI o)]) (ev_QM (some (.int (-900002))) (fun _ => True) ev_no) 1 6 ev_no := by
  refine ew_body (cc := cL_keys) (maxL := 3) (ret := (some .int)) (hh := [(0, 5, 6, 15), (0, 5, 10, 38)]) (by decide) rfl (fun _ _ h => h.1) (Nat.le_of_ble_eq_true rfl) ?_
  intro p e s m args below meth c hx hb hr hml hown hts hlocks hht hv ls hl
  obtain ⟨-, hP, hK, hE⟩ := hv
  have hl : lv_has ls 3 [(0, .ref (b 0)), (1, .int (nI o))] := hl
  refine lv_aload_n hx hb dL_keys_0 rfl (lv_at hl 0 rfl) ?_
  refine lv_iload_n hx hb dL_keys_1 rfl (lv_at hl 1 rfl) ?_
  refine ev_tv (A := A) (As := [.int (nI o)]) (rest := []) ⟨hx, hb, hml, hown, hts⟩ (x_keys_uo l hfl hn hTG ho hpb) (cwV 1 hts gL_keys_X11_keys rfl rfl rfl (by decide +kernel) ⟨Nat.le_of_ble_eq_true rfl, Nat.le_of_ble_eq_true rfl⟩) hP hK hE (ev_recvE hK hP) rfl hl.1 (Nat.le_of_ble_eq_true rfl) dL_keys_2 ⟨Nat.le_of_ble_eq_true rfl, Nat.le_of_ble_eq_true rfl⟩ (fun H1 q ce hz hk hce hcv hcl => ?_)
  refine vx_catch hown [⟨0, 5, 6, 15⟩] ⟨0, 5, 10, 38⟩ [] (by rw [hht]; rfl) (fun z h => by rcases List.mem_singleton.mp h with rfl; exact Or.inr ⟨by decide, "java/lang/IndexOutOfBoundsException", hts (.classLink RL 15 "java/lang/IndexOutOfBoundsException") (by decide +kernel), hE.2.2.2.2.1 ("java/lang/UnsupportedOperationException", "java/lang/IndexOutOfBoundsException") (by decide)⟩) rfl (by decide) (hts (.classLink RL 38 "java/lang/UnsupportedOperationException") (by decide +kernel)) (va_Nw.use rfl (hE.2.2.1 "java/lang/UnsupportedOperationException" (by decide))) hce hcv hcl ?_
  refine W.eq (g2 := F0 m 10 ls [.ref q]) rfl ?_
  refine lv_astore_n (lv' := [(2, .ref q), (0, .ref (b 0)), (1, .int (nI o))]) hx hb dL_keys_10 rfl hl (by decide) rfl (fun ls hl => ?_)
  refine lv_ldc (v := (-900002)) hx hb hown (hts (.constant RL 20 (-900002)) (by decide +kernel)) dL_keys_11 ?_
  refine W.widen (k := 1) (n := 6) (Nat.le_of_ble_eq_true rfl) (Nat.le_of_ble_eq_true rfl) ?_
  exact em_int hx hb hr hlocks rfl trivial ⟨hz, fun z h _ => hk z h, fun _ h => by cases h⟩ dL_keys_13
set_option maxHeartbeats 4000000 in
set_option maxRecDepth 100000 in
theorem w_keys_io (l : Launch) (hfl : l.stackTraces = false) {D : va_G} {cI cO : ClassId} {b : Nat → Nat} {ad : Nat → Nat → Nat} {st : ev_ST} {A : Nat → Prop} (hn : st.1 ≤ 12) (hbad : st.1 ≤ 7) : Met l yL_keys wsL_keys ({ frames := 7, cells := 1, slots := 6, locals := 105 }) (ev_PcX D cI cO A (ev_P D cI cO b ad st) [.ref (b 0), .int (nI 7)]) (ev_QM (some (.int (-900001))) (fun _ => True) ev_no) 1 6 ev_no := by
  refine ew_body (cc := cL_keys) (maxL := 3) (ret := (some .int)) (hh := [(0, 5, 6, 15), (0, 5, 10, 38)]) (by decide) rfl (fun _ _ h => h.1) (Nat.le_of_ble_eq_true rfl) ?_
  intro p e s m args below meth c hx hb hr hml hown hts hlocks hht hv ls hl
  obtain ⟨-, hP, hK, hE⟩ := hv
  have hl : lv_has ls 3 [(0, .ref (b 0)), (1, .int (nI 7))] := hl
  refine lv_aload_n hx hb dL_keys_0 rfl (lv_at hl 0 rfl) ?_
  refine lv_iload_n hx hb dL_keys_1 rfl (lv_at hl 1 rfl) ?_
  refine ev_tv (A := A) (As := [.int (nI 7)]) (rest := []) ⟨hx, hb, hml, hown, hts⟩ (x_keys_io l hfl hn hbad) (cwV 1 hts gL_keys_X11_keys rfl rfl rfl (by decide +kernel) ⟨Nat.le_of_ble_eq_true rfl, Nat.le_of_ble_eq_true rfl⟩) hP hK hE (ev_recvE hK hP) rfl hl.1 (Nat.le_of_ble_eq_true rfl) dL_keys_2 ⟨Nat.le_of_ble_eq_true rfl, Nat.le_of_ble_eq_true rfl⟩ (fun H1 q ce hz hk hce hcv hcl => ?_)
  refine vx_catch hown [] ⟨0, 5, 6, 15⟩ [⟨0, 5, 10, 38⟩] (by rw [hht]; rfl) (fun _ h => by cases h) rfl (by decide) (hts (.classLink RL 15 "java/lang/IndexOutOfBoundsException") (by decide +kernel)) (va_Nw.use rfl (hE.2.2.1 "java/lang/IndexOutOfBoundsException" (by decide))) hce hcv hcl ?_
  refine W.eq (g2 := F0 m 6 ls [.ref q]) rfl ?_
  refine lv_astore_n (lv' := [(2, .ref q), (0, .ref (b 0)), (1, .int (nI 7))]) hx hb dL_keys_6 rfl hl (by decide) rfl (fun ls hl => ?_)
  refine lv_ldc (v := (-900001)) hx hb hown (hts (.constant RL 17 (-900001)) (by decide +kernel)) dL_keys_7 ?_
  refine W.widen (k := 1) (n := 6) (Nat.le_of_ble_eq_true rfl) (Nat.le_of_ble_eq_true rfl) ?_
  exact em_int hx hb hr hlocks rfl trivial ⟨hz, fun z h _ => hk z h, fun _ h => by cases h⟩ dL_keys_9
set_option maxHeartbeats 4000000 in
set_option maxRecDepth 100000 in
theorem w_keyAt (l : Launch) {D : va_G} {cI cO : ClassId} {b : Nat → Nat} {ad : Nat → Nat → Nat} {st : ev_ST} {A : Nat → Prop} (hn : st.1 ≤ 12) (hTG : ∀ i, i < st.1 → ∀ j, ev_tg (st.2 i) = some j → j < st.1) {o : Nat} (ho : o < st.1) {j : Nat} (hpb : ev_pb st 12 (some o) = some j) {x : Nat} (hkc : ev_kc (st.2 j) ≤ 20) (hxk : x < ev_kc (st.2 j)) (hne : ¬ ev_ke (st.2 j) x = -1) : Met l yL_keyAt wsL_keyAt ({ frames := 3, cells := 1, slots := 6, locals := 68 }) (ev_PcX D cI cO A (ev_P D cI cO b ad st) [.ref (b 0), .int (nI o), .int (nI x)]) (ev_QM (some (.int (ev_ke (st.2 j) x))) (fun _ => True) ev_no) 1 6 ev_no := by
  refine ew_body (cc := cL_keyAt) (maxL := 4) (ret := (some .int)) (hh := [(0, 6, 7, 15), (0, 6, 11, 38), (0, 6, 15, 60)]) (by decide) rfl (fun _ _ h => h.1) (Nat.le_of_ble_eq_true rfl) ?_
  intro p e s m args below meth c hx hb hr hml hown hts hlocks hht hv ls hl
  obtain ⟨-, hP, hK, hE⟩ := hv
  have hl : lv_has ls 4 [(0, .ref (b 0)), (1, .int (nI o)), (2, .int (nI x))] := hl
  refine lv_aload_n hx hb dL_keyAt_0 rfl (lv_at hl 0 rfl) ?_
  refine lv_iload_n hx hb dL_keyAt_1 rfl (lv_at hl 1 rfl) ?_
  refine lv_iload_n hx hb dL_keyAt_2 rfl (lv_at hl 2 rfl) ?_
  refine ev_cv (As := [.int (nI o), .int (nI x)]) (rest := []) ⟨hx, hb, hml, hown, hts⟩ (c_X11_keyAt l hn hTG ho hpb hkc hxk hne) (cwV 2 hts gL_keyAt_X11_keyAt rfl rfl rfl (by decide +kernel) ⟨Nat.le_of_ble_eq_true rfl, Nat.le_of_ble_eq_true rfl⟩) hP hK (ev_recvE hK hP) rfl hl.1 (Nat.le_of_ble_eq_true rfl) dL_keyAt_3 ⟨Nat.le_of_ble_eq_true rfl, Nat.le_of_ble_eq_true rfl⟩ ?_
  refine W.widen (k := 1) (n := 6) (Nat.le_of_ble_eq_true rfl) (Nat.le_of_ble_eq_true rfl) ?_
  exact em_int hx hb hr hlocks rfl trivial va_S.rf dL_keyAt_6
set_option maxHeartbeats 4000000 in
set_option maxRecDepth 100000 in
theorem w_keyAt_e (l : Launch) (hfl : l.stackTraces = false) {D : va_G} {cI cO : ClassId} {b : Nat → Nat} {ad : Nat → Nat → Nat} {st : ev_ST} {A : Nat → Prop} (hn : st.1 ≤ 12) (hTG : ∀ i, i < st.1 → ∀ j, ev_tg (st.2 i) = some j → j < st.1) {o : Nat} (ho : o < st.1) {j : Nat} (hpb : ev_pb st 12 (some o) = some j) {x : Nat} (hkc : ev_kc (st.2 j) ≤ 20) (hxk : ev_kc (st.2 j) ≤ x) (hx2 : x < 2147483648) : Met l yL_keyAt wsL_keyAt ({ frames := 7, cells := 1, slots := 6, locals := 107 }) (ev_PcX D cI cO A (ev_P D cI cO b ad st) [.ref (b 0), .int (nI o), .int (nI x)]) (ev_QM (some (.int (-900003))) (fun _ => True) ev_no) 1 6 ev_no := by
  refine ew_body (cc := cL_keyAt) (maxL := 4) (ret := (some .int)) (hh := [(0, 6, 7, 15), (0, 6, 11, 38), (0, 6, 15, 60)]) (by decide) rfl (fun _ _ h => h.1) (Nat.le_of_ble_eq_true rfl) ?_
  intro p e s m args below meth c hx hb hr hml hown hts hlocks hht hv ls hl
  obtain ⟨-, hP, hK, hE⟩ := hv
  have hl : lv_has ls 4 [(0, .ref (b 0)), (1, .int (nI o)), (2, .int (nI x))] := hl
  refine lv_aload_n hx hb dL_keyAt_0 rfl (lv_at hl 0 rfl) ?_
  refine lv_iload_n hx hb dL_keyAt_1 rfl (lv_at hl 1 rfl) ?_
  refine lv_iload_n hx hb dL_keyAt_2 rfl (lv_at hl 2 rfl) ?_
  refine ev_tv (A := A) (As := [.int (nI o), .int (nI x)]) (rest := []) ⟨hx, hb, hml, hown, hts⟩ (x_keyAt_e l hfl hn hTG ho hpb hkc hxk hx2) (cwV 2 hts gL_keyAt_X11_keyAt rfl rfl rfl (by decide +kernel) ⟨Nat.le_of_ble_eq_true rfl, Nat.le_of_ble_eq_true rfl⟩) hP hK hE (ev_recvE hK hP) rfl hl.1 (Nat.le_of_ble_eq_true rfl) dL_keyAt_3 ⟨Nat.le_of_ble_eq_true rfl, Nat.le_of_ble_eq_true rfl⟩ (fun H1 q ce hz hk hce hcv hcl => ?_)
  refine vx_catch hown [⟨0, 6, 7, 15⟩, ⟨0, 6, 11, 38⟩] ⟨0, 6, 15, 60⟩ [] (by rw [hht]; rfl) (fun z h => by rcases List.mem_cons.mp h with rfl | h; exact Or.inr ⟨by decide, "java/lang/IndexOutOfBoundsException", hts (.classLink RL 15 "java/lang/IndexOutOfBoundsException") (by decide +kernel), hE.2.2.2.2.1 ("java/util/NoSuchElementException", "java/lang/IndexOutOfBoundsException") (by decide)⟩; rcases List.mem_singleton.mp h with rfl; exact Or.inr ⟨by decide, "java/lang/UnsupportedOperationException", hts (.classLink RL 38 "java/lang/UnsupportedOperationException") (by decide +kernel), hE.2.2.2.2.1 ("java/util/NoSuchElementException", "java/lang/UnsupportedOperationException") (by decide)⟩) rfl (by decide) (hts (.classLink RL 60 "java/util/NoSuchElementException") (by decide +kernel)) (va_Nw.use rfl (hE.2.2.1 "java/util/NoSuchElementException" (by decide))) hce hcv hcl ?_
  refine W.eq (g2 := F0 m 15 ls [.ref q]) rfl ?_
  refine lv_astore_n (lv' := [(3, .ref q), (0, .ref (b 0)), (1, .int (nI o)), (2, .int (nI x))]) hx hb dL_keyAt_15 rfl hl (by decide) rfl (fun ls hl => ?_)
  refine lv_ldc (v := (-900003)) hx hb hown (hts (.constant RL 62 (-900003)) (by decide +kernel)) dL_keyAt_16 ?_
  refine W.widen (k := 1) (n := 6) (Nat.le_of_ble_eq_true rfl) (Nat.le_of_ble_eq_true rfl) ?_
  exact em_int hx hb hr hlocks rfl trivial ⟨hz, fun z h _ => hk z h, fun _ h => by cases h⟩ dL_keyAt_18
set_option maxHeartbeats 4000000 in
set_option maxRecDepth 100000 in
theorem w_keyAt_m (l : Launch) (hfl : l.stackTraces = false) {D : va_G} {cI cO : ClassId} {b : Nat → Nat} {ad : Nat → Nat → Nat} {st : ev_ST} {A : Nat → Prop} (hn : st.1 ≤ 12) (hTG : ∀ i, i < st.1 → ∀ j, ev_tg (st.2 i) = some j → j < st.1) {o : Nat} (ho : o < st.1) {j : Nat} (hpb : ev_pb st 12 (some o) = some j) : Met l yL_keyAt wsL_keyAt ({ frames := 7, cells := 1, slots := 6, locals := 107 }) (ev_PcX D cI cO A (ev_P D cI cO b ad st) [.ref (b 0), .int (nI o), .int (-1)]) (ev_QM (some (.int (-900003))) (fun _ => True) ev_no) 1 6 ev_no := by
  refine ew_body (cc := cL_keyAt) (maxL := 4) (ret := (some .int)) (hh := [(0, 6, 7, 15), (0, 6, 11, 38), (0, 6, 15, 60)]) (by decide) rfl (fun _ _ h => h.1) (Nat.le_of_ble_eq_true rfl) ?_
  intro p e s m args below meth c hx hb hr hml hown hts hlocks hht hv ls hl
  obtain ⟨-, hP, hK, hE⟩ := hv
  have hl : lv_has ls 4 [(0, .ref (b 0)), (1, .int (nI o)), (2, .int (-1))] := hl
  refine lv_aload_n hx hb dL_keyAt_0 rfl (lv_at hl 0 rfl) ?_
  refine lv_iload_n hx hb dL_keyAt_1 rfl (lv_at hl 1 rfl) ?_
  refine lv_iload_n hx hb dL_keyAt_2 rfl (lv_at hl 2 rfl) ?_
  refine ev_tv (A := A) (As := [.int (nI o), .int (-1)]) (rest := []) ⟨hx, hb, hml, hown, hts⟩ (x_keyAt_m l hfl hn hTG ho hpb) (cwV 2 hts gL_keyAt_X11_keyAt rfl rfl rfl (by decide +kernel) ⟨Nat.le_of_ble_eq_true rfl, Nat.le_of_ble_eq_true rfl⟩) hP hK hE (ev_recvE hK hP) rfl hl.1 (Nat.le_of_ble_eq_true rfl) dL_keyAt_3 ⟨Nat.le_of_ble_eq_true rfl, Nat.le_of_ble_eq_true rfl⟩ (fun H1 q ce hz hk hce hcv hcl => ?_)
  refine vx_catch hown [⟨0, 6, 7, 15⟩, ⟨0, 6, 11, 38⟩] ⟨0, 6, 15, 60⟩ [] (by rw [hht]; rfl) (fun z h => by rcases List.mem_cons.mp h with rfl | h; exact Or.inr ⟨by decide, "java/lang/IndexOutOfBoundsException", hts (.classLink RL 15 "java/lang/IndexOutOfBoundsException") (by decide +kernel), hE.2.2.2.2.1 ("java/util/NoSuchElementException", "java/lang/IndexOutOfBoundsException") (by decide)⟩; rcases List.mem_singleton.mp h with rfl; exact Or.inr ⟨by decide, "java/lang/UnsupportedOperationException", hts (.classLink RL 38 "java/lang/UnsupportedOperationException") (by decide +kernel), hE.2.2.2.2.1 ("java/util/NoSuchElementException", "java/lang/UnsupportedOperationException") (by decide)⟩) rfl (by decide) (hts (.classLink RL 60 "java/util/NoSuchElementException") (by decide +kernel)) (va_Nw.use rfl (hE.2.2.1 "java/util/NoSuchElementException" (by decide))) hce hcv hcl ?_
  refine W.eq (g2 := F0 m 15 ls [.ref q]) rfl ?_
  refine lv_astore_n (lv' := [(3, .ref q), (0, .ref (b 0)), (1, .int (nI o)), (2, .int (-1))]) hx hb dL_keyAt_15 rfl hl (by decide) rfl (fun ls hl => ?_)
  refine lv_ldc (v := (-900003)) hx hb hown (hts (.constant RL 62 (-900003)) (by decide +kernel)) dL_keyAt_16 ?_
  refine W.widen (k := 1) (n := 6) (Nat.le_of_ble_eq_true rfl) (Nat.le_of_ble_eq_true rfl) ?_
  exact em_int hx hb hr hlocks rfl trivial ⟨hz, fun z h _ => hk z h, fun _ h => by cases h⟩ dL_keyAt_18
set_option maxHeartbeats 4000000 in
set_option maxRecDepth 100000 in
theorem w_rights (l : Launch) {D : va_G} {cI cO : ClassId} {b : Nat → Nat} {ad : Nat → Nat → Nat} {st : ev_ST} {A : Nat → Prop} (hn : st.1 ≤ 12) (hTG : ∀ i, i < st.1 → ∀ j, ev_tg (st.2 i) = some j → j < st.1) {o : Nat} (ho : o < st.1) {j : Nat} (hpb : ev_pb st 12 (some o) = some j) {k : Nat} (hk : k < 20) (hne : ¬ ev_rg (st.2 j) k = -1) : Met l yL_rights wsL_rights ({ frames := 3, cells := 1, slots := 6, locals := 68 }) (ev_PcX D cI cO A (ev_P D cI cO b ad st) [.ref (b 0), .int (nI o), .int (nI k)]) (ev_QM (some (.int (ev_rg (st.2 j) k))) (fun _ => True) ev_no) 1 6 ev_no := by
  refine ew_body (cc := cL_rights) (maxL := 4) (ret := (some .int)) (hh := [(0, 6, 7, 15), (0, 6, 11, 38), (0, 6, 15, 60)]) (by decide) rfl (fun _ _ h => h.1) (Nat.le_of_ble_eq_true rfl) ?_
  intro p e s m args below meth c hx hb hr hml hown hts hlocks hht hv ls hl
  obtain ⟨-, hP, hK, hE⟩ := hv
  have hl : lv_has ls 4 [(0, .ref (b 0)), (1, .int (nI o)), (2, .int (nI k))] := hl
  refine lv_aload_n hx hb dL_rights_0 rfl (lv_at hl 0 rfl) ?_
  refine lv_iload_n hx hb dL_rights_1 rfl (lv_at hl 1 rfl) ?_
  refine lv_iload_n hx hb dL_rights_2 rfl (lv_at hl 2 rfl) ?_
  refine ev_cv (As := [.int (nI o), .int (nI k)]) (rest := []) ⟨hx, hb, hml, hown, hts⟩ (c_X11_rights l hn hTG ho hpb hk hne) (cwV 2 hts gL_rights_X11_rights rfl rfl rfl (by decide +kernel) ⟨Nat.le_of_ble_eq_true rfl, Nat.le_of_ble_eq_true rfl⟩) hP hK (ev_recvE hK hP) rfl hl.1 (Nat.le_of_ble_eq_true rfl) dL_rights_3 ⟨Nat.le_of_ble_eq_true rfl, Nat.le_of_ble_eq_true rfl⟩ ?_
  refine W.widen (k := 1) (n := 6) (Nat.le_of_ble_eq_true rfl) (Nat.le_of_ble_eq_true rfl) ?_
  exact em_int hx hb hr hlocks rfl trivial va_S.rf dL_rights_6
set_option maxHeartbeats 4000000 in
set_option maxRecDepth 100000 in
theorem w_rights_io (l : Launch) (hfl : l.stackTraces = false) {D : va_G} {cI cO : ClassId} {b : Nat → Nat} {ad : Nat → Nat → Nat} {st : ev_ST} {A : Nat → Prop} (hn : st.1 ≤ 12) (hTG : ∀ i, i < st.1 → ∀ j, ev_tg (st.2 i) = some j → j < st.1) {o : Nat} (ho : o < st.1) : Met l yL_rights wsL_rights ({ frames := 7, cells := 1, slots := 6, locals := 107 }) (ev_PcX D cI cO A (ev_P D cI cO b ad st) [.ref (b 0), .int (nI o), .int (nI 20)]) (ev_QM (some (.int (-900001))) (fun _ => True) ev_no) 1 6 ev_no := by
  refine ew_body (cc := cL_rights) (maxL := 4) (ret := (some .int)) (hh := [(0, 6, 7, 15), (0, 6, 11, 38), (0, 6, 15, 60)]) (by decide) rfl (fun _ _ h => h.1) (Nat.le_of_ble_eq_true rfl) ?_
  intro p e s m args below meth c hx hb hr hml hown hts hlocks hht hv ls hl
  obtain ⟨-, hP, hK, hE⟩ := hv
  have hl : lv_has ls 4 [(0, .ref (b 0)), (1, .int (nI o)), (2, .int (nI 20))] := hl
  refine lv_aload_n hx hb dL_rights_0 rfl (lv_at hl 0 rfl) ?_
  refine lv_iload_n hx hb dL_rights_1 rfl (lv_at hl 1 rfl) ?_
  refine lv_iload_n hx hb dL_rights_2 rfl (lv_at hl 2 rfl) ?_
  refine ev_tv (A := A) (As := [.int (nI o), .int (nI 20)]) (rest := []) ⟨hx, hb, hml, hown, hts⟩ (x_rights_io l hfl hn hTG ho) (cwV 2 hts gL_rights_X11_rights rfl rfl rfl (by decide +kernel) ⟨Nat.le_of_ble_eq_true rfl, Nat.le_of_ble_eq_true rfl⟩) hP hK hE (ev_recvE hK hP) rfl hl.1 (Nat.le_of_ble_eq_true rfl) dL_rights_3 ⟨Nat.le_of_ble_eq_true rfl, Nat.le_of_ble_eq_true rfl⟩ (fun H1 q ce hz hk hce hcv hcl => ?_)
  refine vx_catch hown [] ⟨0, 6, 7, 15⟩ [⟨0, 6, 11, 38⟩, ⟨0, 6, 15, 60⟩] (by rw [hht]; rfl) (fun _ h => by cases h) rfl (by decide) (hts (.classLink RL 15 "java/lang/IndexOutOfBoundsException") (by decide +kernel)) (va_Nw.use rfl (hE.2.2.1 "java/lang/IndexOutOfBoundsException" (by decide))) hce hcv hcl ?_
  refine W.eq (g2 := F0 m 7 ls [.ref q]) rfl ?_
  refine lv_astore_n (lv' := [(3, .ref q), (0, .ref (b 0)), (1, .int (nI o)), (2, .int (nI 20))]) hx hb dL_rights_7 rfl hl (by decide) rfl (fun ls hl => ?_)
  refine lv_ldc (v := (-900001)) hx hb hown (hts (.constant RL 17 (-900001)) (by decide +kernel)) dL_rights_8 ?_
  refine W.widen (k := 1) (n := 6) (Nat.le_of_ble_eq_true rfl) (Nat.le_of_ble_eq_true rfl) ?_
  exact em_int hx hb hr hlocks rfl trivial ⟨hz, fun z h _ => hk z h, fun _ h => by cases h⟩ dL_rights_10
set_option maxHeartbeats 4000000 in
set_option maxRecDepth 100000 in
theorem w_rights_uo (l : Launch) (hfl : l.stackTraces = false) {D : va_G} {cI cO : ClassId} {b : Nat → Nat} {ad : Nat → Nat → Nat} {st : ev_ST} {A : Nat → Prop} (hn : st.1 ≤ 12) (hTG : ∀ i, i < st.1 → ∀ j, ev_tg (st.2 i) = some j → j < st.1) {o : Nat} (ho : o < st.1) (hpb : ev_pb st 12 (some o) = none) {k : Nat} (hk : k < 20) : Met l yL_rights wsL_rights ({ frames := 7, cells := 1, slots := 6, locals := 107 }) (ev_PcX D cI cO A (ev_P D cI cO b ad st) [.ref (b 0), .int (nI o), .int (nI k)]) (ev_QM (some (.int (-900002))) (fun _ => True) ev_no) 1 6 ev_no := by
  refine ew_body (cc := cL_rights) (maxL := 4) (ret := (some .int)) (hh := [(0, 6, 7, 15), (0, 6, 11, 38), (0, 6, 15, 60)]) (by decide) rfl (fun _ _ h => h.1) (Nat.le_of_ble_eq_true rfl) ?_
  intro p e s m args below meth c hx hb hr hml hown hts hlocks hht hv ls hl
  obtain ⟨-, hP, hK, hE⟩ := hv
  have hl : lv_has ls 4 [(0, .ref (b 0)), (1, .int (nI o)), (2, .int (nI k))] := hl
  refine lv_aload_n hx hb dL_rights_0 rfl (lv_at hl 0 rfl) ?_
  refine lv_iload_n hx hb dL_rights_1 rfl (lv_at hl 1 rfl) ?_
  refine lv_iload_n hx hb dL_rights_2 rfl (lv_at hl 2 rfl) ?_
  refine ev_tv (A := A) (As := [.int (nI o), .int (nI k)]) (rest := []) ⟨hx, hb, hml, hown, hts⟩ (x_rights_uo l hfl hn hTG ho hpb hk) (cwV 2 hts gL_rights_X11_rights rfl rfl rfl (by decide +kernel) ⟨Nat.le_of_ble_eq_true rfl, Nat.le_of_ble_eq_true rfl⟩) hP hK hE (ev_recvE hK hP) rfl hl.1 (Nat.le_of_ble_eq_true rfl) dL_rights_3 ⟨Nat.le_of_ble_eq_true rfl, Nat.le_of_ble_eq_true rfl⟩ (fun H1 q ce hz hk hce hcv hcl => ?_)
  refine vx_catch hown [⟨0, 6, 7, 15⟩] ⟨0, 6, 11, 38⟩ [⟨0, 6, 15, 60⟩] (by rw [hht]; rfl) (fun z h => by rcases List.mem_singleton.mp h with rfl; exact Or.inr ⟨by decide, "java/lang/IndexOutOfBoundsException", hts (.classLink RL 15 "java/lang/IndexOutOfBoundsException") (by decide +kernel), hE.2.2.2.2.1 ("java/lang/UnsupportedOperationException", "java/lang/IndexOutOfBoundsException") (by decide)⟩) rfl (by decide) (hts (.classLink RL 38 "java/lang/UnsupportedOperationException") (by decide +kernel)) (va_Nw.use rfl (hE.2.2.1 "java/lang/UnsupportedOperationException" (by decide))) hce hcv hcl ?_
  refine W.eq (g2 := F0 m 11 ls [.ref q]) rfl ?_
  refine lv_astore_n (lv' := [(3, .ref q), (0, .ref (b 0)), (1, .int (nI o)), (2, .int (nI k))]) hx hb dL_rights_11 rfl hl (by decide) rfl (fun ls hl => ?_)
  refine lv_ldc (v := (-900002)) hx hb hown (hts (.constant RL 20 (-900002)) (by decide +kernel)) dL_rights_12 ?_
  refine W.widen (k := 1) (n := 6) (Nat.le_of_ble_eq_true rfl) (Nat.le_of_ble_eq_true rfl) ?_
  exact em_int hx hb hr hlocks rfl trivial ⟨hz, fun z h _ => hk z h, fun _ h => by cases h⟩ dL_rights_14
set_option maxHeartbeats 4000000 in
set_option maxRecDepth 100000 in
theorem w_rights_ns (l : Launch) (hfl : l.stackTraces = false) {D : va_G} {cI cO : ClassId} {b : Nat → Nat} {ad : Nat → Nat → Nat} {st : ev_ST} {A : Nat → Prop} (hn : st.1 ≤ 12) (hTG : ∀ i, i < st.1 → ∀ j, ev_tg (st.2 i) = some j → j < st.1) {o : Nat} (ho : o < st.1) {j : Nat} (hpb : ev_pb st 12 (some o) = some j) {k : Nat} (hk : k < 20) (hne : ev_rg (st.2 j) k = -1) : Met l yL_rights wsL_rights ({ frames := 7, cells := 1, slots := 6, locals := 107 }) (ev_PcX D cI cO A (ev_P D cI cO b ad st) [.ref (b 0), .int (nI o), .int (nI k)]) (ev_QM (some (.int (-900003))) (fun _ => True) ev_no) 1 6 ev_no := by
  refine ew_body (cc := cL_rights) (maxL := 4) (ret := (some .int)) (hh := [(0, 6, 7, 15), (0, 6, 11, 38), (0, 6, 15, 60)]) (by decide) rfl (fun _ _ h => h.1) (Nat.le_of_ble_eq_true rfl) ?_
  intro p e s m args below meth c hx hb hr hml hown hts hlocks hht hv ls hl
  obtain ⟨-, hP, hK, hE⟩ := hv
  have hl : lv_has ls 4 [(0, .ref (b 0)), (1, .int (nI o)), (2, .int (nI k))] := hl
  refine lv_aload_n hx hb dL_rights_0 rfl (lv_at hl 0 rfl) ?_
  refine lv_iload_n hx hb dL_rights_1 rfl (lv_at hl 1 rfl) ?_
  refine lv_iload_n hx hb dL_rights_2 rfl (lv_at hl 2 rfl) ?_
  refine ev_tv (A := A) (As := [.int (nI o), .int (nI k)]) (rest := []) ⟨hx, hb, hml, hown, hts⟩ (x_rights_ns l hfl hn hTG ho hpb hk hne) (cwV 2 hts gL_rights_X11_rights rfl rfl rfl (by decide +kernel) ⟨Nat.le_of_ble_eq_true rfl, Nat.le_of_ble_eq_true rfl⟩) hP hK hE (ev_recvE hK hP) rfl hl.1 (Nat.le_of_ble_eq_true rfl) dL_rights_3 ⟨Nat.le_of_ble_eq_true rfl, Nat.le_of_ble_eq_true rfl⟩ (fun H1 q ce hz hk hce hcv hcl => ?_)
  refine vx_catch hown [⟨0, 6, 7, 15⟩, ⟨0, 6, 11, 38⟩] ⟨0, 6, 15, 60⟩ [] (by rw [hht]; rfl) (fun z h => by rcases List.mem_cons.mp h with rfl | h; exact Or.inr ⟨by decide, "java/lang/IndexOutOfBoundsException", hts (.classLink RL 15 "java/lang/IndexOutOfBoundsException") (by decide +kernel), hE.2.2.2.2.1 ("java/util/NoSuchElementException", "java/lang/IndexOutOfBoundsException") (by decide)⟩; rcases List.mem_singleton.mp h with rfl; exact Or.inr ⟨by decide, "java/lang/UnsupportedOperationException", hts (.classLink RL 38 "java/lang/UnsupportedOperationException") (by decide +kernel), hE.2.2.2.2.1 ("java/util/NoSuchElementException", "java/lang/UnsupportedOperationException") (by decide)⟩) rfl (by decide) (hts (.classLink RL 60 "java/util/NoSuchElementException") (by decide +kernel)) (va_Nw.use rfl (hE.2.2.1 "java/util/NoSuchElementException" (by decide))) hce hcv hcl ?_
  refine W.eq (g2 := F0 m 15 ls [.ref q]) rfl ?_
  refine lv_astore_n (lv' := [(3, .ref q), (0, .ref (b 0)), (1, .int (nI o)), (2, .int (nI k))]) hx hb dL_rights_15 rfl hl (by decide) rfl (fun ls hl => ?_)
  refine lv_ldc (v := (-900003)) hx hb hown (hts (.constant RL 62 (-900003)) (by decide +kernel)) dL_rights_16 ?_
  refine W.widen (k := 1) (n := 6) (Nat.le_of_ble_eq_true rfl) (Nat.le_of_ble_eq_true rfl) ?_
  exact em_int hx hb hr hlocks rfl trivial ⟨hz, fun z h _ => hk z h, fun _ h => by cases h⟩ dL_rights_18
set_option maxHeartbeats 4000000 in
set_option maxRecDepth 100000 in
theorem w_tell_0 (l : Launch) {D : va_G} {cI cO : ClassId} {b : Nat → Nat} {ad : Nat → Nat → Nat} {st : ev_ST} {A : Nat → Prop} (hD : va_D A (ev_wl cI cO b ad st)) (hn : st.1 ≤ 12) (hTG : ∀ i, i < st.1 → ∀ j, ev_tg (st.2 i) = some j → j < st.1) {o : Nat} (ho : o < st.1) {v : Nat} (hv : v ≤ 9999) (hpx : (ev_tg (st.2 o)).isSome = true) : Met l yL_tell wsL_tell ({ frames := 3, cells := 0, slots := 0, locals := 68 }) (ev_Pc D cI cO (ev_P D cI cO b ad st) [.ref (b 0), .int (nI o), .int (nI 103), .int (nI v)]) (ev_QM (some (.int (ev_bi (ev_told (st.2 o) 0)))) (ev_P D cI cO b ad (ev_up st o (ev_kA (st.2 o) 0 (nI v)))) A) 0 0 A := by
  refine ew_body (cc := cL_tell) (maxL := 5) (ret := (some .int)) (hh := [(0, 15, 16, 15), (0, 15, 21, 28), (0, 15, 26, 18)]) (by decide) rfl (fun _ _ h => h.1) (Nat.le_of_ble_eq_true rfl) ?_
  intro p e s m args below meth c hx hb hr hml hown hts hlocks hht hv ls hl
  obtain ⟨-, hP, hK⟩ := hv
  have hl : lv_has ls 5 [(0, .ref (b 0)), (1, .int (nI o)), (2, .int (nI 103)), (3, .int (nI v))] := hl
  refine lv_aload_n hx hb dL_tell_0 rfl (lv_at hl 0 rfl) ?_
  refine lv_iload_n hx hb dL_tell_1 rfl (lv_at hl 1 rfl) ?_
  refine lv_iload_n hx hb dL_tell_2 rfl (lv_at hl 2 rfl) ?_
  refine lv_iload_n hx hb dL_tell_3 rfl (lv_at hl 3 rfl) ?_
  have hS0 : va_S A s.heap s.heap [] := va_S.rf
  refine ev_mv (mc := 0) (ms := 0) (As := [.int (nI o), .int (nI 103), .int (nI v)]) (rest := []) ⟨hx, hb, hml, hown, hts⟩ (c_X11_tell_0 l hD hn hTG ho hv hpx) (cwV 3 hts gL_tell_X11_tell rfl rfl rfl (by decide +kernel) ⟨Nat.le_of_ble_eq_true rfl, Nat.le_of_ble_eq_true rfl⟩) hP hK hS0 (ev_recvE hK hP) rfl hl.1 (Nat.le_of_ble_eq_true rfl) dL_tell_4 ⟨Nat.le_of_ble_eq_true rfl, Nat.le_of_ble_eq_true rfl⟩ (fun H locs hQ hz hk hS => ?_)
  refine eb_if_eq (tgt := 14) hx hb dL_tell_7 (by decide) (fun hc => ?_) (fun hc => ?_)
  · refine lv_iconst (v := nI 0) hx hb dL_tell_14 (by decide) ?_
    exact em_int hx hb hr hlocks (by rw [hc]; rfl) hQ hS dL_tell_15
  · refine lv_iconst (v := nI 1) hx hb dL_tell_10 (by decide) ?_
    refine lv_goto (tgt := 15) hx hb dL_tell_11 (by decide) ?_
    exact em_int hx hb hr hlocks (by rw [hc]; rfl) hQ hS dL_tell_15
set_option maxHeartbeats 4000000 in
set_option maxRecDepth 100000 in
theorem w_tell_1 (l : Launch) {D : va_G} {cI cO : ClassId} {b : Nat → Nat} {ad : Nat → Nat → Nat} {st : ev_ST} {A : Nat → Prop} (hD : va_D A (ev_wl cI cO b ad st)) (hn : st.1 ≤ 12) (hTG : ∀ i, i < st.1 → ∀ j, ev_tg (st.2 i) = some j → j < st.1) {o : Nat} (ho : o < st.1) {v : Nat} (hv : v ≤ 1) (hpx : (ev_tg (st.2 o)).isSome = true) : Met l yL_tell wsL_tell ({ frames := 3, cells := 0, slots := 0, locals := 68 }) (ev_Pc D cI cO (ev_P D cI cO b ad st) [.ref (b 0), .int (nI o), .int (nI 104), .int (nI v)]) (ev_QM (some (.int (ev_bi (ev_told (st.2 o) 1)))) (ev_P D cI cO b ad (ev_up st o (ev_kA (st.2 o) 1 (nI v)))) A) 0 0 A := by
  refine ew_body (cc := cL_tell) (maxL := 5) (ret := (some .int)) (hh := [(0, 15, 16, 15), (0, 15, 21, 28), (0, 15, 26, 18)]) (by decide) rfl (fun _ _ h => h.1) (Nat.le_of_ble_eq_true rfl) ?_
  intro p e s m args below meth c hx hb hr hml hown hts hlocks hht hv ls hl
  obtain ⟨-, hP, hK⟩ := hv
  have hl : lv_has ls 5 [(0, .ref (b 0)), (1, .int (nI o)), (2, .int (nI 104)), (3, .int (nI v))] := hl
  refine lv_aload_n hx hb dL_tell_0 rfl (lv_at hl 0 rfl) ?_
  refine lv_iload_n hx hb dL_tell_1 rfl (lv_at hl 1 rfl) ?_
  refine lv_iload_n hx hb dL_tell_2 rfl (lv_at hl 2 rfl) ?_
  refine lv_iload_n hx hb dL_tell_3 rfl (lv_at hl 3 rfl) ?_
  have hS0 : va_S A s.heap s.heap [] := va_S.rf
  refine ev_mv (mc := 0) (ms := 0) (As := [.int (nI o), .int (nI 104), .int (nI v)]) (rest := []) ⟨hx, hb, hml, hown, hts⟩ (c_X11_tell_1 l hD hn hTG ho hv hpx) (cwV 3 hts gL_tell_X11_tell rfl rfl rfl (by decide +kernel) ⟨Nat.le_of_ble_eq_true rfl, Nat.le_of_ble_eq_true rfl⟩) hP hK hS0 (ev_recvE hK hP) rfl hl.1 (Nat.le_of_ble_eq_true rfl) dL_tell_4 ⟨Nat.le_of_ble_eq_true rfl, Nat.le_of_ble_eq_true rfl⟩ (fun H locs hQ hz hk hS => ?_)
  refine eb_if_eq (tgt := 14) hx hb dL_tell_7 (by decide) (fun hc => ?_) (fun hc => ?_)
  · refine lv_iconst (v := nI 0) hx hb dL_tell_14 (by decide) ?_
    exact em_int hx hb hr hlocks (by rw [hc]; rfl) hQ hS dL_tell_15
  · refine lv_iconst (v := nI 1) hx hb dL_tell_10 (by decide) ?_
    refine lv_goto (tgt := 15) hx hb dL_tell_11 (by decide) ?_
    exact em_int hx hb hr hlocks (by rw [hc]; rfl) hQ hS dL_tell_15
set_option maxHeartbeats 4000000 in
set_option maxRecDepth 100000 in
theorem w_tell_2 (l : Launch) {D : va_G} {cI cO : ClassId} {b : Nat → Nat} {ad : Nat → Nat → Nat} {st : ev_ST} {A : Nat → Prop} (hD : va_D A (ev_wl cI cO b ad st)) (hn : st.1 ≤ 12) (hTG : ∀ i, i < st.1 → ∀ j, ev_tg (st.2 i) = some j → j < st.1) {o : Nat} (ho : o < st.1) {v : Nat} (hv : v ≤ 1) (hpx : (ev_tg (st.2 o)).isSome = true) : Met l yL_tell wsL_tell ({ frames := 3, cells := 0, slots := 0, locals := 68 }) (ev_Pc D cI cO (ev_P D cI cO b ad st) [.ref (b 0), .int (nI o), .int (nI 115), .int (nI v)]) (ev_QM (some (.int (ev_bi (ev_told (st.2 o) 2)))) (ev_P D cI cO b ad (ev_up st o (ev_kA (st.2 o) 2 (nI v)))) A) 0 0 A := by
  refine ew_body (cc := cL_tell) (maxL := 5) (ret := (some .int)) (hh := [(0, 15, 16, 15), (0, 15, 21, 28), (0, 15, 26, 18)]) (by decide) rfl (fun _ _ h => h.1) (Nat.le_of_ble_eq_true rfl) ?_
  intro p e s m args below meth c hx hb hr hml hown hts hlocks hht hv ls hl
  obtain ⟨-, hP, hK⟩ := hv
  have hl : lv_has ls 5 [(0, .ref (b 0)), (1, .int (nI o)), (2, .int (nI 115)), (3, .int (nI v))] := hl
  refine lv_aload_n hx hb dL_tell_0 rfl (lv_at hl 0 rfl) ?_
  refine lv_iload_n hx hb dL_tell_1 rfl (lv_at hl 1 rfl) ?_
  refine lv_iload_n hx hb dL_tell_2 rfl (lv_at hl 2 rfl) ?_
  refine lv_iload_n hx hb dL_tell_3 rfl (lv_at hl 3 rfl) ?_
  have hS0 : va_S A s.heap s.heap [] := va_S.rf
  refine ev_mv (mc := 0) (ms := 0) (As := [.int (nI o), .int (nI 115), .int (nI v)]) (rest := []) ⟨hx, hb, hml, hown, hts⟩ (c_X11_tell_2 l hD hn hTG ho hv hpx) (cwV 3 hts gL_tell_X11_tell rfl rfl rfl (by decide +kernel) ⟨Nat.le_of_ble_eq_true rfl, Nat.le_of_ble_eq_true rfl⟩) hP hK hS0 (ev_recvE hK hP) rfl hl.1 (Nat.le_of_ble_eq_true rfl) dL_tell_4 ⟨Nat.le_of_ble_eq_true rfl, Nat.le_of_ble_eq_true rfl⟩ (fun H locs hQ hz hk hS => ?_)
  refine eb_if_eq (tgt := 14) hx hb dL_tell_7 (by decide) (fun hc => ?_) (fun hc => ?_)
  · refine lv_iconst (v := nI 0) hx hb dL_tell_14 (by decide) ?_
    exact em_int hx hb hr hlocks (by rw [hc]; rfl) hQ hS dL_tell_15
  · refine lv_iconst (v := nI 1) hx hb dL_tell_10 (by decide) ?_
    refine lv_goto (tgt := 15) hx hb dL_tell_11 (by decide) ?_
    exact em_int hx hb hr hlocks (by rw [hc]; rfl) hQ hS dL_tell_15
set_option maxHeartbeats 4000000 in
set_option maxRecDepth 100000 in
theorem w_tell_3 (l : Launch) {D : va_G} {cI cO : ClassId} {b : Nat → Nat} {ad : Nat → Nat → Nat} {st : ev_ST} {A : Nat → Prop} (hD : va_D A (ev_wl cI cO b ad st)) (hn : st.1 ≤ 12) (hTG : ∀ i, i < st.1 → ∀ j, ev_tg (st.2 i) = some j → j < st.1) {o : Nat} (ho : o < st.1) {v : Nat} (hv : v ≤ 1) (hpx : (ev_tg (st.2 o)).isSome = true) : Met l yL_tell wsL_tell ({ frames := 3, cells := 0, slots := 0, locals := 68 }) (ev_Pc D cI cO (ev_P D cI cO b ad st) [.ref (b 0), .int (nI o), .int (nI 100), .int (nI v)]) (ev_QM (some (.int (ev_bi (ev_told (st.2 o) 3)))) (ev_P D cI cO b ad (ev_up st o (ev_kA (st.2 o) 3 (nI v)))) A) 0 0 A := by
  refine ew_body (cc := cL_tell) (maxL := 5) (ret := (some .int)) (hh := [(0, 15, 16, 15), (0, 15, 21, 28), (0, 15, 26, 18)]) (by decide) rfl (fun _ _ h => h.1) (Nat.le_of_ble_eq_true rfl) ?_
  intro p e s m args below meth c hx hb hr hml hown hts hlocks hht hv ls hl
  obtain ⟨-, hP, hK⟩ := hv
  have hl : lv_has ls 5 [(0, .ref (b 0)), (1, .int (nI o)), (2, .int (nI 100)), (3, .int (nI v))] := hl
  refine lv_aload_n hx hb dL_tell_0 rfl (lv_at hl 0 rfl) ?_
  refine lv_iload_n hx hb dL_tell_1 rfl (lv_at hl 1 rfl) ?_
  refine lv_iload_n hx hb dL_tell_2 rfl (lv_at hl 2 rfl) ?_
  refine lv_iload_n hx hb dL_tell_3 rfl (lv_at hl 3 rfl) ?_
  have hS0 : va_S A s.heap s.heap [] := va_S.rf
  refine ev_mv (mc := 0) (ms := 0) (As := [.int (nI o), .int (nI 100), .int (nI v)]) (rest := []) ⟨hx, hb, hml, hown, hts⟩ (c_X11_tell_3 l hD hn hTG ho hv hpx) (cwV 3 hts gL_tell_X11_tell rfl rfl rfl (by decide +kernel) ⟨Nat.le_of_ble_eq_true rfl, Nat.le_of_ble_eq_true rfl⟩) hP hK hS0 (ev_recvE hK hP) rfl hl.1 (Nat.le_of_ble_eq_true rfl) dL_tell_4 ⟨Nat.le_of_ble_eq_true rfl, Nat.le_of_ble_eq_true rfl⟩ (fun H locs hQ hz hk hS => ?_)
  refine eb_if_eq (tgt := 14) hx hb dL_tell_7 (by decide) (fun hc => ?_) (fun hc => ?_)
  · refine lv_iconst (v := nI 0) hx hb dL_tell_14 (by decide) ?_
    exact em_int hx hb hr hlocks (by rw [hc]; rfl) hQ hS dL_tell_15
  · refine lv_iconst (v := nI 1) hx hb dL_tell_10 (by decide) ?_
    refine lv_goto (tgt := 15) hx hb dL_tell_11 (by decide) ?_
    exact em_int hx hb hr hlocks (by rw [hc]; rfl) hQ hS dL_tell_15
set_option maxHeartbeats 4000000 in
set_option maxRecDepth 100000 in
theorem w_tell_io (l : Launch) (hfl : l.stackTraces = false) {D : va_G} {cI cO : ClassId} {b : Nat → Nat} {ad : Nat → Nat → Nat} {st : ev_ST} {A : Nat → Prop} (hn : st.1 ≤ 12) (hbad : st.1 ≤ 7) {w v : Nat} : Met l yL_tell wsL_tell ({ frames := 7, cells := 1, slots := 6, locals := 108 }) (ev_PcX D cI cO A (ev_P D cI cO b ad st) [.ref (b 0), .int (nI 7), .int (nI w), .int (nI v)]) (ev_QM (some (.int (-900001))) (fun _ => True) ev_no) 1 6 ev_no := by
  refine ew_body (cc := cL_tell) (maxL := 5) (ret := (some .int)) (hh := [(0, 15, 16, 15), (0, 15, 21, 28), (0, 15, 26, 18)]) (by decide) rfl (fun _ _ h => h.1) (Nat.le_of_ble_eq_true rfl) ?_
  intro p e s m args below meth c hx hb hr hml hown hts hlocks hht hv ls hl
  obtain ⟨-, hP, hK, hE⟩ := hv
  have hl : lv_has ls 5 [(0, .ref (b 0)), (1, .int (nI 7)), (2, .int (nI w)), (3, .int (nI v))] := hl
  refine lv_aload_n hx hb dL_tell_0 rfl (lv_at hl 0 rfl) ?_
  refine lv_iload_n hx hb dL_tell_1 rfl (lv_at hl 1 rfl) ?_
  refine lv_iload_n hx hb dL_tell_2 rfl (lv_at hl 2 rfl) ?_
  refine lv_iload_n hx hb dL_tell_3 rfl (lv_at hl 3 rfl) ?_
  refine ev_tv (A := A) (As := [.int (nI 7), .int (nI w), .int (nI v)]) (rest := []) ⟨hx, hb, hml, hown, hts⟩ (x_tell_io l hfl hn hbad) (cwV 3 hts gL_tell_X11_tell rfl rfl rfl (by decide +kernel) ⟨Nat.le_of_ble_eq_true rfl, Nat.le_of_ble_eq_true rfl⟩) hP hK hE (ev_recvE hK hP) rfl hl.1 (Nat.le_of_ble_eq_true rfl) dL_tell_4 ⟨Nat.le_of_ble_eq_true rfl, Nat.le_of_ble_eq_true rfl⟩ (fun H1 q ce hz hk hce hcv hcl => ?_)
  refine vx_catch hown [] ⟨0, 15, 16, 15⟩ [⟨0, 15, 21, 28⟩, ⟨0, 15, 26, 18⟩] (by rw [hht]; rfl) (fun _ h => by cases h) rfl (by decide) (hts (.classLink RL 15 "java/lang/IndexOutOfBoundsException") (by decide +kernel)) (va_Nw.use rfl (hE.2.2.1 "java/lang/IndexOutOfBoundsException" (by decide))) hce hcv hcl ?_
  refine W.eq (g2 := F0 m 16 ls [.ref q]) rfl ?_
  refine lv_astore (lv' := [(4, .ref q), (0, .ref (b 0)), (1, .int (nI 7)), (2, .int (nI w)), (3, .int (nI v))]) hx hb dL_tell_16 hl (by decide) rfl (fun ls hl => ?_)
  refine lv_ldc (v := (-900001)) hx hb hown (hts (.constant RL 17 (-900001)) (by decide +kernel)) dL_tell_18 ?_
  refine W.widen (k := 1) (n := 6) (Nat.le_of_ble_eq_true rfl) (Nat.le_of_ble_eq_true rfl) ?_
  exact em_int hx hb hr hlocks rfl trivial ⟨hz, fun z h _ => hk z h, fun _ h => by cases h⟩ dL_tell_20
set_option maxHeartbeats 4000000 in
set_option maxRecDepth 100000 in
theorem w_tell_ia_x (l : Launch) (hfl : l.stackTraces = false) {D : va_G} {cI cO : ClassId} {b : Nat → Nat} {ad : Nat → Nat → Nat} {st : ev_ST} {A : Nat → Prop} (hn : st.1 ≤ 12) (hTG : ∀ i, i < st.1 → ∀ j, ev_tg (st.2 i) = some j → j < st.1) {o : Nat} (ho : o < st.1) {v : Nat} : Met l yL_tell wsL_tell ({ frames := 7, cells := 1, slots := 6, locals := 108 }) (ev_PcX D cI cO A (ev_P D cI cO b ad st) [.ref (b 0), .int (nI o), .int (nI 120), .int (nI v)]) (ev_QM (some (.int (-900002))) (fun _ => True) ev_no) 1 6 ev_no := by
  refine ew_body (cc := cL_tell) (maxL := 5) (ret := (some .int)) (hh := [(0, 15, 16, 15), (0, 15, 21, 28), (0, 15, 26, 18)]) (by decide) rfl (fun _ _ h => h.1) (Nat.le_of_ble_eq_true rfl) ?_
  intro p e s m args below meth c hx hb hr hml hown hts hlocks hht hv ls hl
  obtain ⟨-, hP, hK, hE⟩ := hv
  have hl : lv_has ls 5 [(0, .ref (b 0)), (1, .int (nI o)), (2, .int (nI 120)), (3, .int (nI v))] := hl
  refine lv_aload_n hx hb dL_tell_0 rfl (lv_at hl 0 rfl) ?_
  refine lv_iload_n hx hb dL_tell_1 rfl (lv_at hl 1 rfl) ?_
  refine lv_iload_n hx hb dL_tell_2 rfl (lv_at hl 2 rfl) ?_
  refine lv_iload_n hx hb dL_tell_3 rfl (lv_at hl 3 rfl) ?_
  refine ev_tv (A := A) (As := [.int (nI o), .int (nI 120), .int (nI v)]) (rest := []) ⟨hx, hb, hml, hown, hts⟩ (x_tell_ia_x l hfl hn hTG ho) (cwV 3 hts gL_tell_X11_tell rfl rfl rfl (by decide +kernel) ⟨Nat.le_of_ble_eq_true rfl, Nat.le_of_ble_eq_true rfl⟩) hP hK hE (ev_recvE hK hP) rfl hl.1 (Nat.le_of_ble_eq_true rfl) dL_tell_4 ⟨Nat.le_of_ble_eq_true rfl, Nat.le_of_ble_eq_true rfl⟩ (fun H1 q ce hz hk hce hcv hcl => ?_)
  refine vx_catch hown [⟨0, 15, 16, 15⟩] ⟨0, 15, 21, 28⟩ [⟨0, 15, 26, 18⟩] (by rw [hht]; rfl) (fun z h => by rcases List.mem_singleton.mp h with rfl; exact Or.inr ⟨by decide, "java/lang/IndexOutOfBoundsException", hts (.classLink RL 15 "java/lang/IndexOutOfBoundsException") (by decide +kernel), hE.2.2.2.2.1 ("java/lang/IllegalArgumentException", "java/lang/IndexOutOfBoundsException") (by decide)⟩) rfl (by decide) (hts (.classLink RL 28 "java/lang/IllegalArgumentException") (by decide +kernel)) (va_Nw.use rfl (hE.2.2.1 "java/lang/IllegalArgumentException" (by decide))) hce hcv hcl ?_
  refine W.eq (g2 := F0 m 21 ls [.ref q]) rfl ?_
  refine lv_astore (lv' := [(4, .ref q), (0, .ref (b 0)), (1, .int (nI o)), (2, .int (nI 120)), (3, .int (nI v))]) hx hb dL_tell_21 hl (by decide) rfl (fun ls hl => ?_)
  refine lv_ldc (v := (-900002)) hx hb hown (hts (.constant RL 20 (-900002)) (by decide +kernel)) dL_tell_23 ?_
  refine W.widen (k := 1) (n := 6) (Nat.le_of_ble_eq_true rfl) (Nat.le_of_ble_eq_true rfl) ?_
  exact em_int hx hb hr hlocks rfl trivial ⟨hz, fun z h _ => hk z h, fun _ h => by cases h⟩ dL_tell_25
set_option maxHeartbeats 4000000 in
set_option maxRecDepth 100000 in
theorem w_tell_ia_2 (l : Launch) (hfl : l.stackTraces = false) {D : va_G} {cI cO : ClassId} {b : Nat → Nat} {ad : Nat → Nat → Nat} {st : ev_ST} {A : Nat → Prop} (hn : st.1 ≤ 12) (hTG : ∀ i, i < st.1 → ∀ j, ev_tg (st.2 i) = some j → j < st.1) {o : Nat} (ho : o < st.1) : Met l yL_tell wsL_tell ({ frames := 7, cells := 1, slots := 6, locals := 108 }) (ev_PcX D cI cO A (ev_P D cI cO b ad st) [.ref (b 0), .int (nI o), .int (nI 104), .int (nI 2)]) (ev_QM (some (.int (-900002))) (fun _ => True) ev_no) 1 6 ev_no := by
  refine ew_body (cc := cL_tell) (maxL := 5) (ret := (some .int)) (hh := [(0, 15, 16, 15), (0, 15, 21, 28), (0, 15, 26, 18)]) (by decide) rfl (fun _ _ h => h.1) (Nat.le_of_ble_eq_true rfl) ?_
  intro p e s m args below meth c hx hb hr hml hown hts hlocks hht hv ls hl
  obtain ⟨-, hP, hK, hE⟩ := hv
  have hl : lv_has ls 5 [(0, .ref (b 0)), (1, .int (nI o)), (2, .int (nI 104)), (3, .int (nI 2))] := hl
  refine lv_aload_n hx hb dL_tell_0 rfl (lv_at hl 0 rfl) ?_
  refine lv_iload_n hx hb dL_tell_1 rfl (lv_at hl 1 rfl) ?_
  refine lv_iload_n hx hb dL_tell_2 rfl (lv_at hl 2 rfl) ?_
  refine lv_iload_n hx hb dL_tell_3 rfl (lv_at hl 3 rfl) ?_
  refine ev_tv (A := A) (As := [.int (nI o), .int (nI 104), .int (nI 2)]) (rest := []) ⟨hx, hb, hml, hown, hts⟩ (x_tell_ia_2 l hfl hn hTG ho) (cwV 3 hts gL_tell_X11_tell rfl rfl rfl (by decide +kernel) ⟨Nat.le_of_ble_eq_true rfl, Nat.le_of_ble_eq_true rfl⟩) hP hK hE (ev_recvE hK hP) rfl hl.1 (Nat.le_of_ble_eq_true rfl) dL_tell_4 ⟨Nat.le_of_ble_eq_true rfl, Nat.le_of_ble_eq_true rfl⟩ (fun H1 q ce hz hk hce hcv hcl => ?_)
  refine vx_catch hown [⟨0, 15, 16, 15⟩] ⟨0, 15, 21, 28⟩ [⟨0, 15, 26, 18⟩] (by rw [hht]; rfl) (fun z h => by rcases List.mem_singleton.mp h with rfl; exact Or.inr ⟨by decide, "java/lang/IndexOutOfBoundsException", hts (.classLink RL 15 "java/lang/IndexOutOfBoundsException") (by decide +kernel), hE.2.2.2.2.1 ("java/lang/IllegalArgumentException", "java/lang/IndexOutOfBoundsException") (by decide)⟩) rfl (by decide) (hts (.classLink RL 28 "java/lang/IllegalArgumentException") (by decide +kernel)) (va_Nw.use rfl (hE.2.2.1 "java/lang/IllegalArgumentException" (by decide))) hce hcv hcl ?_
  refine W.eq (g2 := F0 m 21 ls [.ref q]) rfl ?_
  refine lv_astore (lv' := [(4, .ref q), (0, .ref (b 0)), (1, .int (nI o)), (2, .int (nI 104)), (3, .int (nI 2))]) hx hb dL_tell_21 hl (by decide) rfl (fun ls hl => ?_)
  refine lv_ldc (v := (-900002)) hx hb hown (hts (.constant RL 20 (-900002)) (by decide +kernel)) dL_tell_23 ?_
  refine W.widen (k := 1) (n := 6) (Nat.le_of_ble_eq_true rfl) (Nat.le_of_ble_eq_true rfl) ?_
  exact em_int hx hb hr hlocks rfl trivial ⟨hz, fun z h _ => hk z h, fun _ h => by cases h⟩ dL_tell_25
set_option maxHeartbeats 4000000 in
set_option maxRecDepth 100000 in
theorem w_tell_is (l : Launch) (hfl : l.stackTraces = false) {D : va_G} {cI cO : ClassId} {b : Nat → Nat} {ad : Nat → Nat → Nat} {st : ev_ST} {A : Nat → Prop} (hn : st.1 ≤ 12) (hTG : ∀ i, i < st.1 → ∀ j, ev_tg (st.2 i) = some j → j < st.1) {o : Nat} (ho : o < st.1) (hpx : (ev_tg (st.2 o)).isSome = false) {v : Nat} (hv : v ≤ 9999) : Met l yL_tell wsL_tell ({ frames := 7, cells := 1, slots := 6, locals := 108 }) (ev_PcX D cI cO A (ev_P D cI cO b ad st) [.ref (b 0), .int (nI o), .int (nI 103), .int (nI v)]) (ev_QM (some (.int (-900003))) (fun _ => True) ev_no) 1 6 ev_no := by
  refine ew_body (cc := cL_tell) (maxL := 5) (ret := (some .int)) (hh := [(0, 15, 16, 15), (0, 15, 21, 28), (0, 15, 26, 18)]) (by decide) rfl (fun _ _ h => h.1) (Nat.le_of_ble_eq_true rfl) ?_
  intro p e s m args below meth c hx hb hr hml hown hts hlocks hht hv ls hl
  obtain ⟨-, hP, hK, hE⟩ := hv
  have hl : lv_has ls 5 [(0, .ref (b 0)), (1, .int (nI o)), (2, .int (nI 103)), (3, .int (nI v))] := hl
  refine lv_aload_n hx hb dL_tell_0 rfl (lv_at hl 0 rfl) ?_
  refine lv_iload_n hx hb dL_tell_1 rfl (lv_at hl 1 rfl) ?_
  refine lv_iload_n hx hb dL_tell_2 rfl (lv_at hl 2 rfl) ?_
  refine lv_iload_n hx hb dL_tell_3 rfl (lv_at hl 3 rfl) ?_
  refine ev_tv (A := A) (As := [.int (nI o), .int (nI 103), .int (nI v)]) (rest := []) ⟨hx, hb, hml, hown, hts⟩ (x_tell_is l hfl hn hTG ho hpx hv) (cwV 3 hts gL_tell_X11_tell rfl rfl rfl (by decide +kernel) ⟨Nat.le_of_ble_eq_true rfl, Nat.le_of_ble_eq_true rfl⟩) hP hK hE (ev_recvE hK hP) rfl hl.1 (Nat.le_of_ble_eq_true rfl) dL_tell_4 ⟨Nat.le_of_ble_eq_true rfl, Nat.le_of_ble_eq_true rfl⟩ (fun H1 q ce hz hk hce hcv hcl => ?_)
  refine vx_catch hown [⟨0, 15, 16, 15⟩, ⟨0, 15, 21, 28⟩] ⟨0, 15, 26, 18⟩ [] (by rw [hht]; rfl) (fun z h => by rcases List.mem_cons.mp h with rfl | h; exact Or.inr ⟨by decide, "java/lang/IndexOutOfBoundsException", hts (.classLink RL 15 "java/lang/IndexOutOfBoundsException") (by decide +kernel), hE.2.2.2.2.1 ("java/lang/IllegalStateException", "java/lang/IndexOutOfBoundsException") (by decide)⟩; rcases List.mem_singleton.mp h with rfl; exact Or.inr ⟨by decide, "java/lang/IllegalArgumentException", hts (.classLink RL 28 "java/lang/IllegalArgumentException") (by decide +kernel), hE.2.2.2.2.1 ("java/lang/IllegalStateException", "java/lang/IllegalArgumentException") (by decide)⟩) rfl (by decide) (hts (.classLink RL 18 "java/lang/IllegalStateException") (by decide +kernel)) (va_Nw.use rfl (hE.2.2.1 "java/lang/IllegalStateException" (by decide))) hce hcv hcl ?_
  refine W.eq (g2 := F0 m 26 ls [.ref q]) rfl ?_
  refine lv_astore (lv' := [(4, .ref q), (0, .ref (b 0)), (1, .int (nI o)), (2, .int (nI 103)), (3, .int (nI v))]) hx hb dL_tell_26 hl (by decide) rfl (fun ls hl => ?_)
  refine lv_ldc (v := (-900003)) hx hb hown (hts (.constant RL 62 (-900003)) (by decide +kernel)) dL_tell_28 ?_
  refine W.widen (k := 1) (n := 6) (Nat.le_of_ble_eq_true rfl) (Nat.le_of_ble_eq_true rfl) ?_
  exact em_int hx hb hr hlocks rfl trivial ⟨hz, fun z h _ => hk z h, fun _ h => by cases h⟩ dL_tell_30
set_option maxHeartbeats 4000000 in
set_option maxRecDepth 100000 in
theorem w_revoke (l : Launch) {D : va_G} {cI cO : ClassId} {b : Nat → Nat} {ad : Nat → Nat → Nat} {st : ev_ST} {A : Nat → Prop} (hD : va_D A (ev_wl cI cO b ad st)) (hn : st.1 ≤ 12) (hTG : ∀ i, i < st.1 → ∀ j, ev_tg (st.2 i) = some j → j < st.1) {o : Nat} (ho : o < st.1) (hpx : (ev_tg (st.2 o)).isSome = true) : Met l yL_revoke wsL_revoke ({ frames := 2, cells := 0, slots := 0, locals := 44 }) (ev_Pc D cI cO (ev_P D cI cO b ad st) [.ref (b 0), .int (nI o)]) (ev_QM (some (.int (ev_bi (ev_rv (st.2 o))))) (ev_P D cI cO b ad (ev_up st o (ev_rvk (st.2 o)))) A) 0 0 A := by
  refine ew_body (cc := cL_revoke) (maxL := 3) (ret := (some .int)) (hh := [(0, 13, 14, 15), (0, 13, 18, 18)]) (by decide) rfl (fun _ _ h => h.1) (Nat.le_of_ble_eq_true rfl) ?_
  intro p e s m args below meth c hx hb hr hml hown hts hlocks hht hv ls hl
  obtain ⟨-, hP, hK⟩ := hv
  have hl : lv_has ls 3 [(0, .ref (b 0)), (1, .int (nI o))] := hl
  refine lv_aload_n hx hb dL_revoke_0 rfl (lv_at hl 0 rfl) ?_
  refine lv_iload_n hx hb dL_revoke_1 rfl (lv_at hl 1 rfl) ?_
  have hS0 : va_S A s.heap s.heap [] := va_S.rf
  refine ev_mv (mc := 0) (ms := 0) (As := [.int (nI o)]) (rest := []) ⟨hx, hb, hml, hown, hts⟩ (c_X11_revoke l hD hn hTG ho hpx) (cwV 1 hts gL_revoke_X11_revoke rfl rfl rfl (by decide +kernel) ⟨Nat.le_of_ble_eq_true rfl, Nat.le_of_ble_eq_true rfl⟩) hP hK hS0 (ev_recvE hK hP) rfl hl.1 (Nat.le_of_ble_eq_true rfl) dL_revoke_2 ⟨Nat.le_of_ble_eq_true rfl, Nat.le_of_ble_eq_true rfl⟩ (fun H locs hQ hz hk hS => ?_)
  refine eb_if_eq (tgt := 12) hx hb dL_revoke_5 (by decide) (fun hc => ?_) (fun hc => ?_)
  · refine lv_iconst (v := nI 0) hx hb dL_revoke_12 (by decide) ?_
    exact em_int hx hb hr hlocks (by rw [hc]; rfl) hQ hS dL_revoke_13
  · refine lv_iconst (v := nI 1) hx hb dL_revoke_8 (by decide) ?_
    refine lv_goto (tgt := 13) hx hb dL_revoke_9 (by decide) ?_
    exact em_int hx hb hr hlocks (by rw [hc]; rfl) hQ hS dL_revoke_13
set_option maxHeartbeats 4000000 in
set_option maxRecDepth 100000 in
theorem w_revoke_is (l : Launch) (hfl : l.stackTraces = false) {D : va_G} {cI cO : ClassId} {b : Nat → Nat} {ad : Nat → Nat → Nat} {st : ev_ST} {A : Nat → Prop} (hn : st.1 ≤ 12) (hTG : ∀ i, i < st.1 → ∀ j, ev_tg (st.2 i) = some j → j < st.1) {o : Nat} (ho : o < st.1) (hpx : (ev_tg (st.2 o)).isSome = false) : Met l yL_revoke wsL_revoke ({ frames := 7, cells := 1, slots := 6, locals := 105 }) (ev_PcX D cI cO A (ev_P D cI cO b ad st) [.ref (b 0), .int (nI o)]) (ev_QM (some (.int (-900002))) (fun _ => True) ev_no) 1 6 ev_no := by
  refine ew_body (cc := cL_revoke) (maxL := 3) (ret := (some .int)) (hh := [(0, 13, 14, 15), (0, 13, 18, 18)]) (by decide) rfl (fun _ _ h => h.1) (Nat.le_of_ble_eq_true rfl) ?_
  intro p e s m args below meth c hx hb hr hml hown hts hlocks hht hv ls hl
  obtain ⟨-, hP, hK, hE⟩ := hv
  have hl : lv_has ls 3 [(0, .ref (b 0)), (1, .int (nI o))] := hl
  refine lv_aload_n hx hb dL_revoke_0 rfl (lv_at hl 0 rfl) ?_
  refine lv_iload_n hx hb dL_revoke_1 rfl (lv_at hl 1 rfl) ?_
  refine ev_tv (A := A) (As := [.int (nI o)]) (rest := []) ⟨hx, hb, hml, hown, hts⟩ (x_revoke_is l hfl hn hTG ho hpx) (cwV 1 hts gL_revoke_X11_revoke rfl rfl rfl (by decide +kernel) ⟨Nat.le_of_ble_eq_true rfl, Nat.le_of_ble_eq_true rfl⟩) hP hK hE (ev_recvE hK hP) rfl hl.1 (Nat.le_of_ble_eq_true rfl) dL_revoke_2 ⟨Nat.le_of_ble_eq_true rfl, Nat.le_of_ble_eq_true rfl⟩ (fun H1 q ce hz hk hce hcv hcl => ?_)
  refine vx_catch hown [⟨0, 13, 14, 15⟩] ⟨0, 13, 18, 18⟩ [] (by rw [hht]; rfl) (fun z h => by rcases List.mem_singleton.mp h with rfl; exact Or.inr ⟨by decide, "java/lang/IndexOutOfBoundsException", hts (.classLink RL 15 "java/lang/IndexOutOfBoundsException") (by decide +kernel), hE.2.2.2.2.1 ("java/lang/IllegalStateException", "java/lang/IndexOutOfBoundsException") (by decide)⟩) rfl (by decide) (hts (.classLink RL 18 "java/lang/IllegalStateException") (by decide +kernel)) (va_Nw.use rfl (hE.2.2.1 "java/lang/IllegalStateException" (by decide))) hce hcv hcl ?_
  refine W.eq (g2 := F0 m 18 ls [.ref q]) rfl ?_
  refine lv_astore_n (lv' := [(2, .ref q), (0, .ref (b 0)), (1, .int (nI o))]) hx hb dL_revoke_18 rfl hl (by decide) rfl (fun ls hl => ?_)
  refine lv_ldc (v := (-900002)) hx hb hown (hts (.constant RL 20 (-900002)) (by decide +kernel)) dL_revoke_19 ?_
  refine W.widen (k := 1) (n := 6) (Nat.le_of_ble_eq_true rfl) (Nat.le_of_ble_eq_true rfl) ?_
  exact em_int hx hb hr hlocks rfl trivial ⟨hz, fun z h _ => hk z h, fun _ h => by cases h⟩ dL_revoke_21
