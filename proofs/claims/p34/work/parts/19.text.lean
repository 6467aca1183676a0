/-! 19.text: a letter of the law's text -/
def es_g : Nat → Int32
  | 0 => 103
  | 1 => 104
  | 2 => 115
  | _ => 100
def es_c : Nat → Nat
  | 0 => 103
  | 1 => 104
  | 2 => 115
  | _ => 100
def es_S (A : Nat → Prop) (a t : Nat) (U : State) (H : Heap) : Prop := va_O "java/lang/String" a A U H ∧ va_OF "java/lang/String" "coder" "B" (.int 0) a A U H ∧ va_OF "java/lang/String" "value" "[B" (.ref t) a A U H ∧ va_T .byte t 4 (fun j => .int (es_g j)) A U H ∧ va_Z "java/lang/String" "COMPACT_STRINGS" "Z" (.int 1) A U H ∧ va_Zq "jdk/internal/util/Preconditions" "SIOOBE_FORMATTER" "Ljava/util/function/BiFunction;" A U H
theorem es_S.moved {A : Nat → Prop} {a t : Nat} {u U : State} {H : Heap} (hvm : u.vm.Alike U.vm) (h : es_S A a t u H) : es_S A a t U H := ⟨va_O.moved hvm h.1, va_OF.moved hvm h.2.1, va_OF.moved hvm h.2.2.1, va_T.moved hvm h.2.2.2.1, va_Z.moved hvm h.2.2.2.2.1, va_Zq.moved hvm h.2.2.2.2.2⟩
theorem es_S.kept {A : Nat → Prop} {a t : Nat} {U : State} {H H1 : Heap} (h : es_S A a t U H) (hq : ∀ a : Nat, a < H.size → ¬ A a → H1[a]? = H[a]?) : es_S A a t U H1 := ⟨va_O.kept h.1 hq, va_OF.kept h.2.1 hq, va_OF.kept h.2.2.1 hq, va_T.kept h.2.2.2.1 hq, va_Z.kept h.2.2.2.2.1 hq, va_Zq.kept h.2.2.2.2.2 hq⟩
def es_Pc (A : Nat → Prop) (a t : Nat) (av : List Value) : Array Value → State → Prop := fun v U => v = av.toArray ∧ es_S A a t U U.heap
theorem es_blind {A : Nat → Prop} {a t : Nat} {av : List Value} : FrameBlind (es_Pc A a t av) := fun b U g mk q => ⟨q.1, es_S.moved (u := U) (U := U.calling g mk b) (Vm.Alike.refl U.vm) q.2⟩
theorem es_body {l : Launch} {A : Nat → Prop} {a t : Nat} {y : MethodName} {ws ws' : List Cond} {rm : Room} {av : List Value} {Qc : Array Value → State → Outcome → State → Prop} {mc ms : Nat} {free : Addr → Prop} {cc : ByteArray} {maxL : Nat} {ret : Option FieldType}
    (hy : plainName y.cls = true) (hw : ws = Cond.code y cc maxL ret :: ws') (hlen : (lg_sl av).length ≤ maxL)
    (body : ∀ (p : Program) (e : Env) (s : State) (m : MethodId) (args : Array Value) (below : List Frame) (meth : Method) (c : Code), p.tables.exec = Jvm.exec → c.code = cc → meth.sig.returnType = ret → c.maxLocals = maxL → s.vm.findClass y.cls = some m.cls → (∀ w ∈ ws, w.before args s = true) → meth.locks = false → es_S A a t s s.heap → ∀ ls : Array Slot, lv_has ls maxL (lv_args 0 av) →
      W p l e rm s m args below meth c s.heap [] 0 0 (MQ below Qc args s mc ms free) (F0 m 0 ls [])) : Met l y ws rm (es_Pc A a t av) Qc mc ms free := by
  refine Met.ofW (cc := cc) (maxL := maxL) (ret := ret) hy hw ?_
  intro p e s m args below meth c s₁ B hml hv
  obtain ⟨rfl, hS⟩ := hv
  rw [lg_entry_eq]
  exact body p e s m _ below meth c B.exec B.bytes B.returns hml (findClass_of_methodNamed B.named) (atoms_spec (ws := ws) B.pre) B.notSynchronized hS _ (lv_entry av (n := maxL) hlen)
section ESC
variable {p : Program} {l : Launch} {e : Env} {R : Room} {s : State} {m : MethodId} {args : Array Value} {below : List Frame} {meth : Method} {c : Code} {H : Heap} {locs : List Loc} {cells slots : Nat} {Q : State → Prop}
variable {cc : ByteArray} {pc : Nat} {ls : Array Slot} {rest : List Value} {A : Nat → Prop} {a0 t0 : Nat} {Ts : List Cond} {own : String}
theorem es_pre {As : List Value} (hS : es_S A a0 t0 s H) : PreS s H (es_Pc A a0 t0 As) As := ⟨es_blind, fun U hU hW => ⟨rfl, by rw [hU]; exact es_S.moved hW.alike hS⟩⟩
/-- a static call that changes nothing -/
theorem es_cs {y : MethodName} {bytes : ByteArray} {maxL nL n index : Nat} {ret : Option FieldType} {ws : List Cond} {rm : Room} {v : Option Value} {As : List Value} (S : CallFix p m c cc nL s args Ts own)
    (hM : Met l y ws rm (es_Pc A a0 t0 As) (ev_QV v) 0 0 ev_no) (cw : CallB R s args own index y bytes maxL ret ws rm 0 0 n ∧ (Cond.static y).before args s = true) (hS : es_S A a0 t0 s H)
    (hn : As.length = n) (hsize : ls.size = nL) (hW : (rest.map fun v => v.category).sum ≤ 8) (hdg : decode cc pc = .ok (.invokestatic index, 3)) (hf : cells + 0 ≤ R.cells ∧ slots + 0 ≤ R.slots)
    (kk : W p l e R s m args below meth c H locs cells slots Q (F0 m (pc + 3) ls (v.toList ++ rest))) : W p l e R s m args below meth c H locs cells slots Q (F0 m pc ls (As.reverse ++ rest)) := by
  have hr' := W.runS (e := e) (below := below) (meth := meth) (g := F0 m pc ls (As.reverse ++ rest)) (locs := locs) (rest := rest) S hM cw (es_pre hS) rfl hn hsize rfl (lv_room hW) hdg hf
  intro T hT X
  obtain ⟨v', st₀, t, T', L', h0, X', hL, e1, ⟨hv, hh⟩, st⟩ := hr' T hT X
  cases hv
  obtain ⟨t2, a1, b1⟩ := kk T' (by rw [e1, hh, h0]) (Stand.forget X' (fun q h => (hL q h).elim))
  exact ⟨t2, st t2 a1, b1⟩
/-- a text's own method, which changes nothing -/
theorem es_cv {y : MethodName} {bytes : ByteArray} {maxL nL n index : Nat} {ret : Option FieldType} {ws : List Cond} {rm : Room} {v : Value} {As : List Value} (S : CallFix p m c cc nL s args Ts own)
    (hM : Met l y ws rm (es_Pc A a0 t0 (.ref a0 :: As)) (ev_QV (some v)) 0 0 ev_no) (cw : CallW R s args own "java/lang/String" index y bytes maxL ret ws rm 0 0 n) (hS : es_S A a0 t0 s H)
    (hn : As.length = n) (hsize : ls.size = nL) (hW : (rest.map fun v => v.category).sum ≤ 8) (hdg : decode cc pc = .ok (.invokevirtual index, 3)) (hf : cells + 0 ≤ R.cells ∧ slots + 0 ≤ R.slots)
    (kk : W p l e R s m args below meth c H locs cells slots Q (F0 m (pc + 3) ls (v :: rest))) : W p l e R s m args below meth c H locs cells slots Q (F0 m pc ls (As.reverse ++ .ref a0 :: rest)) := by
  have hr : ∃ cellB : Cell, H[a0]? = some cellB ∧ cellB.vm.isStatics = false ∧ s.vm.findClass "java/lang/String" = some cellB.cls := by
    obtain ⟨cell, h1, h2, h3, -⟩ := hS.1
    exact ⟨cell, h1, h2, h3⟩
  have hr' := W.runV (e := e) (below := below) (meth := meth) (g := F0 m pc ls (As.reverse ++ .ref a0 :: rest)) (locs := locs) (rest := rest) S hM cw ⟨es_blind, hr, (es_pre hS).2⟩ rfl hn hsize rfl (lv_room hW) hdg hf
  intro T hT X
  obtain ⟨v', st₀, t, T', L', h0, X', hL, e1, ⟨hv, hh⟩, st⟩ := hr' T hT X
  cases hv
  obtain ⟨t2, a1, b1⟩ := kk T' (by rw [e1, hh, h0]) (Stand.forget X' (fun q h => (hL q h).elim))
  exact ⟨t2, st t2 a1, b1⟩
end ESC
set_option maxHeartbeats 4000000 in
set_option maxRecDepth 100000 in
theorem c_J3_checkIndex (l : Launch) {A : Nat → Prop} {a0 t0 i q : Nat} {v : Value} (hv : v = .null ∨ ∃ t, v = .ref t) (hi : i < q) (hq : q < 2147483648) : Met l yJ3_checkIndex_8e157 wsJ3_checkIndex_8e157 ({ frames := 0, cells := 0, slots := 0, locals := 0 }) (es_Pc A a0 t0 [.int (nI i), .int (nI q), v]) (ev_QV (some (.int (nI i)))) 0 0 ev_no := by
  refine es_body (cc := cJ3_checkIndex_8e157) (maxL := 3) (ret := (some .int)) (by decide) rfl (by rcases hv with rfl | ⟨t, rfl⟩ <;> exact Nat.le_of_ble_eq_true rfl) ?_
  intro p e s m args below meth c hx hb hr hml hown hts hlocks hS ls hl
  have hl : lv_has ls 3 [(0, .int (nI i)), (1, .int (nI q))] := by
    rcases hv with rfl | ⟨t, rfl⟩
    · exact lv_sub hl [0, 1] rfl
    · exact lv_sub hl [0, 1] rfl
  refine lv_iload_n hx hb dJ3_checkIndex_8e157_0 rfl (lv_at hl 0 rfl) ?_
  refine en_if_lt (tgt := 9) hx hb (by omega) dJ3_checkIndex_8e157_1 (by decide) ?_
  refine lv_iload_n hx hb dJ3_checkIndex_8e157_4 rfl (lv_at hl 0 rfl) ?_
  refine lv_iload_n hx hb dJ3_checkIndex_8e157_5 rfl (lv_at hl 1 rfl) ?_
  refine en_icmp_lt (tgt := 16) hx hb (by omega) (by omega) dJ3_checkIndex_8e157_6 (by decide) (fun _ => ?_) (fun h => by exfalso; omega)
  refine lv_iload_n hx hb dJ3_checkIndex_8e157_16 rfl (lv_at hl 0 rfl) ?_
  exact er_int hx hb hr hlocks rfl dJ3_checkIndex_8e157_17
set_option maxHeartbeats 4000000 in
set_option maxRecDepth 100000 in
theorem c_J0_checkIndex (l : Launch) {A : Nat → Prop} {a0 t0 i q : Nat} (hi : i < q) (hq : q < 2147483648) : Met l yJ0_checkIndex_df160 wsJ0_checkIndex_df160 ({ frames := 1, cells := 0, slots := 0, locals := 22 }) (es_Pc A a0 t0 [.int (nI i), .int (nI q)]) (ev_QV none) 0 0 ev_no := by
  refine es_body (cc := cJ0_checkIndex_df160) (maxL := 2) (ret := none) (by decide) rfl (Nat.le_of_ble_eq_true rfl) ?_
  intro p e s m args below meth c hx hb hr hml hown hts hlocks hS ls hl
  have hl : lv_has ls 2 [(0, .int (nI i)), (1, .int (nI q))] := hl
  refine lv_iload_n hx hb dJ0_checkIndex_df160_0 rfl (lv_at hl 0 rfl) ?_
  refine lv_iload_n hx hb dJ0_checkIndex_df160_1 rfl (lv_at hl 1 rfl) ?_
  have K : ∀ v : Value, (v = .null ∨ ∃ t, v = .ref t) → va_Z "jdk/internal/util/Preconditions" "SIOOBE_FORMATTER" "Ljava/util/function/BiFunction;" v A s s.heap → W p l e ({ frames := 1, cells := 0, slots := 0, locals := 22 }) s m args below meth c s.heap [] 0 0 (MQ below (ev_QV none) args s 0 0 ev_no) (F0 m 2 ls [.int (nI q), .int (nI i)]) := by
    intro v hv hZ
    refine va_gets hx hb hZ va_S.rf hown (hts (.fieldLink RJ0 1053 "jdk/internal/util/Preconditions" "SIOOBE_FORMATTER" "Ljava/util/function/BiFunction;") (by decide +kernel)) (fun _ h => h) dJ0_checkIndex_df160_2 ?_
    refine es_cs (As := [.int (nI i), .int (nI q), v]) (rest := []) ⟨hx, hb, hml, hown, hts⟩ (c_J3_checkIndex l (A := A) (a0 := a0) (t0 := t0) hv hi hq) (va_cwS 3 hts gJ0_checkIndex_df160_J3_checkIndex_8e157 rfl rfl rfl (by decide +kernel) ⟨Nat.le_of_ble_eq_true rfl, Nat.le_of_ble_eq_true rfl⟩) hS rfl hl.1 (Nat.le_of_ble_eq_true rfl) dJ0_checkIndex_df160_5 ⟨Nat.le_of_ble_eq_true rfl, Nat.le_of_ble_eq_true rfl⟩ ?_
    refine lv_pop hx hb dJ0_checkIndex_df160_8 rfl ?_
    exact W.vret hx hb hr (fun t ht _ => ⟨rfl, ht⟩) (fun _ h => by cases h) dJ0_checkIndex_df160_9
  rcases hS.2.2.2.2.2 with h | ⟨t, h⟩
  · exact K _ (Or.inl rfl) h
  · exact K _ (Or.inr ⟨t, rfl⟩) h
set_option maxHeartbeats 4000000 in
set_option maxRecDepth 100000 in
theorem c_J0_isLatin1 (l : Launch) {A : Nat → Prop} {a0 t0 : Nat} : Met l yJ0_isLatin1_aae02 wsJ0_isLatin1_aae02 ({ frames := 0, cells := 0, slots := 0, locals := 0 }) (es_Pc A a0 t0 [.ref a0]) (ev_QV (some (.int (ev_bi true)))) 0 0 ev_no := by
  refine es_body (cc := cJ0_isLatin1_aae02) (maxL := 1) (ret := (some .boolean)) (by decide) rfl (Nat.le_of_ble_eq_true rfl) ?_
  intro p e s m args below meth c hx hb hr hml hown hts hlocks hS ls hl
  have hl : lv_has ls 1 [(0, .ref a0)] := hl
  refine va_gets hx hb hS.2.2.2.2.1 va_S.rf hown (hts (.fieldLink RJ0 38 "java/lang/String" "COMPACT_STRINGS" "Z") (by decide +kernel)) (fun _ h => h) dJ0_isLatin1_aae02_0 ?_
  refine lv_if_eq (tgt := 17) hx hb dJ0_isLatin1_aae02_3 (by decide) (fun h => absurd h (by decide)) (fun _ => ?_)
  refine lv_aload_n hx hb dJ0_isLatin1_aae02_6 rfl (lv_at hl 0 rfl) ?_
  refine vk_getf hx hb hS.2.1 va_S.rf hown (hts (.fieldLink RJ0 15 "java/lang/String" "coder" "B") (by decide +kernel)) (fun _ h => h) dJ0_isLatin1_aae02_7 ?_
  refine lv_if_ne (tgt := 17) hx hb dJ0_isLatin1_aae02_10 (by decide) (fun h => absurd rfl h) (fun _ => ?_)
  refine lv_iconst (v := nI 1) hx hb dJ0_isLatin1_aae02_13 (by decide) ?_
  refine lv_goto (tgt := 18) hx hb dJ0_isLatin1_aae02_14 (by decide) ?_
  exact er_bool hx hb hr hlocks rfl dJ0_isLatin1_aae02_18
theorem es_bits : ∀ w, w < 4 → ((es_g w &&& nI 255).toUInt32 % 65536).toInt32 = nI (es_c w) := by decide +kernel
theorem es_c_lt (w : Nat) : es_c w < 65536 := by unfold es_c; split <;> decide
set_option maxHeartbeats 4000000 in
set_option maxRecDepth 100000 in
theorem c_J1_charAt (l : Launch) {A : Nat → Prop} {a0 t0 w : Nat} (hw : w < 4) : Met l yJ1_charAt_3b067 wsJ1_charAt_3b067 ({ frames := 2, cells := 0, slots := 0, locals := 43 }) (es_Pc A a0 t0 [.ref t0, .int (nI w)]) (ev_QV (some (.int (nI (es_c w))))) 0 0 ev_no := by
  refine es_body (cc := cJ1_charAt_3b067) (maxL := 2) (ret := (some .char)) (by decide) rfl (Nat.le_of_ble_eq_true rfl) ?_
  intro p e s m args below meth c hx hb hr hml hown hts hlocks hS ls hl
  have hl : lv_has ls 2 [(0, .ref t0), (1, .int (nI w))] := hl
  refine lv_iload_n hx hb dJ1_charAt_3b067_0 rfl (lv_at hl 1 rfl) ?_
  refine lv_aload_n hx hb dJ1_charAt_3b067_1 rfl (lv_at hl 0 rfl) ?_
  have hT := hS.2.2.2.1
  obtain ⟨cell, h1, h2, h3, h4, h5, h6, h7⟩ := hS.2.2.2.1
  refine W.alen (n := nI 4) hx hb h1 h2 h5 rfl rfl dJ1_charAt_3b067_2 ?_
  refine W.eq (g2 := F0 m 3 ls [.int (nI 4), .int (nI w)]) rfl ?_
  refine es_cs (As := [.int (nI w), .int (nI 4)]) (rest := []) ⟨hx, hb, hml, hown, hts⟩ (c_J0_checkIndex l (A := A) (a0 := a0) (t0 := t0) hw (by decide)) (va_cwS 2 hts gJ1_charAt_3b067_J0_checkIndex_df160 rfl rfl rfl (by decide +kernel) ⟨Nat.le_of_ble_eq_true rfl, Nat.le_of_ble_eq_true rfl⟩) hS rfl hl.1 (Nat.le_of_ble_eq_true rfl) dJ1_charAt_3b067_3 ⟨Nat.le_of_ble_eq_true rfl, Nat.le_of_ble_eq_true rfl⟩ ?_
  refine W.eq (g2 := F0 m 6 ls []) rfl ?_
  refine lv_aload_n hx hb dJ1_charAt_3b067_6 rfl (lv_at hl 0 rfl) ?_
  refine lv_iload_n hx hb dJ1_charAt_3b067_7 rfl (lv_at hl 1 rfl) ?_
  refine va_tb (v := .int (es_g w)) hx hb hT va_S.rf (vp_in_nI hw (by decide)) (by rw [nI_clamp (by omega)]) dJ1_charAt_3b067_8 ?_
  refine lv_sipush (v := nI 255) hx hb dJ1_charAt_3b067_9 (by decide) ?_
  refine lv_iand hx hb dJ1_charAt_3b067_12 ?_
  refine lv_i2c (v := nI (es_c w)) hx hb dJ1_charAt_3b067_13 (es_bits w hw) ?_
  exact er_char hx hb hr hlocks (es_c_lt w) rfl dJ1_charAt_3b067_14
set_option maxHeartbeats 4000000 in
set_option maxRecDepth 100000 in
theorem c_J0_charAt (l : Launch) {A : Nat → Prop} {a0 t0 w : Nat} (hw : w < 4) : Met l yJ0_charAt_5068e wsJ0_charAt_5068e ({ frames := 3, cells := 0, slots := 0, locals := 64 }) (es_Pc A a0 t0 [.ref a0, .int (nI w)]) (ev_QV (some (.int (nI (es_c w))))) 0 0 ev_no := by
  refine es_body (cc := cJ0_charAt_5068e) (maxL := 2) (ret := (some .char)) (by decide) rfl (Nat.le_of_ble_eq_true rfl) ?_
  intro p e s m args below meth c hx hb hr hml hown hts hlocks hS ls hl
  have hl : lv_has ls 2 [(0, .ref a0), (1, .int (nI w))] := hl
  refine lv_aload_n hx hb dJ0_charAt_5068e_0 rfl (lv_at hl 0 rfl) ?_
  refine es_cv (As := []) (rest := []) ⟨hx, hb, hml, hown, hts⟩ (c_J0_isLatin1 l (A := A) (a0 := a0) (t0 := t0)) (cwV 0 hts gJ0_charAt_5068e_J0_isLatin1_aae02 rfl rfl rfl (by decide +kernel) ⟨Nat.le_of_ble_eq_true rfl, Nat.le_of_ble_eq_true rfl⟩) hS rfl hl.1 (Nat.le_of_ble_eq_true rfl) dJ0_charAt_5068e_1 ⟨Nat.le_of_ble_eq_true rfl, Nat.le_of_ble_eq_true rfl⟩ ?_
  refine eb_if_eq (tgt := 16) hx hb dJ0_charAt_5068e_4 (by decide) (fun h => by cases h) (fun _ => ?_)
  refine lv_aload_n hx hb dJ0_charAt_5068e_7 rfl (lv_at hl 0 rfl) ?_
  refine vk_getf hx hb hS.2.2.1 va_S.rf hown (hts (.fieldLink RJ0 9 "java/lang/String" "value" "[B") (by decide +kernel)) (fun _ h => h) dJ0_charAt_5068e_8 ?_
  refine lv_iload_n hx hb dJ0_charAt_5068e_11 rfl (lv_at hl 1 rfl) ?_
  refine es_cs (As := [.ref t0, .int (nI w)]) (rest := []) ⟨hx, hb, hml, hown, hts⟩ (c_J1_charAt l (A := A) (a0 := a0) (t0 := t0) hw) (va_cwS 2 hts gJ0_charAt_5068e_J1_charAt_3b067 rfl rfl rfl (by decide +kernel) ⟨Nat.le_of_ble_eq_true rfl, Nat.le_of_ble_eq_true rfl⟩) hS rfl hl.1 (Nat.le_of_ble_eq_true rfl) dJ0_charAt_5068e_12 ⟨Nat.le_of_ble_eq_true rfl, Nat.le_of_ble_eq_true rfl⟩ ?_
  exact er_char hx hb hr hlocks (es_c_lt w) rfl dJ0_charAt_5068e_15
