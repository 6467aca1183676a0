/-! 18.keys: the law's look at the keys -/
theorem ea_cnt (t : ev_TH) (k : Nat) : nI (ev_cnt t k) + ev_bi (ev_holds t k) = nI (ev_cnt t (k + 1)) := by
  show _ = nI (ev_cnt t k + if ev_holds t k then 1 else 0)
  cases ev_holds t k with
  | true => exact nI_1 _
  | false =>
    show nI (ev_cnt t k) + nI 0 = nI (ev_cnt t k + 0)
    exact nI_add _ _
theorem ea_nm {x : Nat} (h : x < 20) : ¬ nI x = -1 := by
  intro h9
  have h1 : (nI x).toInt = (-1 : Int32).toInt := by rw [h9]
  rw [nI_toInt (by omega)] at h1
  have : (-1 : Int32).toInt = -1 := by decide
  omega
def ea_b (od : Nat → Nat) (kp : Nat → Nat) : Nat → Int32
  | 0 => -1
  | x + 1 => nI (eg_rk od (kp x))
def ev_PcY (D : va_G) (cI cO : ClassId) (A : Nat → Prop) (Hp : Heap → Prop) (Hn : Heap → Prop) (av : List Value) : Array Value → State → Prop := fun v U => v = av.toArray ∧ Hp U.heap ∧ Hn U.heap ∧ va_K D vwCl (ev_ty cI cO) U ∧ ev_Ex A U U.heap
theorem ev_blindY {D : va_G} {cI cO : ClassId} {A : Nat → Prop} {Hp Hn : Heap → Prop} {av : List Value} : FrameBlind (ev_PcY D cI cO A Hp Hn av) := fun a U g mk q => ⟨q.1, q.2.1, q.2.2.1, va_K.moved (u := U) (U := U.calling g mk a) (Vm.Alike.refl U.vm) q.2.2.2.1, ev_Ex.same (u := U) (U := U.calling g mk a) rfl q.2.2.2.2⟩
theorem ev_bodyY {l : Launch} {D : va_G} {cI cO : ClassId} {A : Nat → Prop} {y : MethodName} {ws ws' : List Cond} {rm : Room} {Hp Hn : Heap → Prop} {av : List Value} {Qc : Array Value → State → Outcome → State → Prop} {mc ms : Nat} {free : Addr → Prop} {cc : ByteArray} {maxL : Nat} {ret : Option FieldType}
    (hy : plainName y.cls = true) (hw : ws = Cond.code y cc maxL ret :: ws') (hlen : (lg_sl av).length ≤ maxL)
    (body : ∀ (p : Program) (e : Env) (s : State) (m : MethodId) (args : Array Value) (below : List Frame) (meth : Method) (c : Code), p.tables.exec = Jvm.exec → c.code = cc → meth.sig.returnType = ret → c.maxLocals = maxL → s.vm.findClass y.cls = some m.cls → (∀ w ∈ ws, w.before args s = true) → meth.locks = false → Hp s.heap → Hn s.heap → va_K D vwCl (ev_ty cI cO) s → ev_Ex A s s.heap → ∀ ls : Array Slot, lv_has ls maxL (lv_args 0 av) →
      W p l e rm s m args below meth c s.heap [] 0 0 (MQ below Qc args s mc ms free) (F0 m 0 ls [])) : Met l y ws rm (ev_PcY D cI cO A Hp Hn av) Qc mc ms free := by
  refine Met.ofW (cc := cc) (maxL := maxL) (ret := ret) hy hw ?_
  intro p e s m args below meth c s₁ B hml hv
  obtain ⟨rfl, hH, hN, hK, hE⟩ := hv
  rw [lg_entry_eq]
  exact body p e s m _ below meth c B.exec B.bytes B.returns hml (findClass_of_methodNamed B.named) (atoms_spec (ws := ws) B.pre) B.notSynchronized hH hN hK hE _ (lv_entry av (n := maxL) hlen)
set_option maxHeartbeats 4000000 in
set_option maxRecDepth 100000 in
theorem c_L_areKeys (l : Launch) (hfl : l.stackTraces = false) {D : va_G} {cI cO : ClassId} {b : Nat → Nat} {ad : Nat → Nat → Nat} {A : Nat → Prop} {qn : Nat} {tt : Nat → Nat} {cc : Nat → Option Nat} {st : ev_ST} {f : Nat → Int32} {od : Nat → Nat → Nat} {n : Nat} (hI : eg_I tt cc st f od n) (hnb : n ≤ 1000) {o : Nat} (ho : o < 7) : Met l yL_areKeys wsL_areKeys ({ frames := 8, cells := 43, slots := 258, locals := 130 }) (ev_PcY D cI cO A (ev_P D cI cO b ad st) (ev_N D cI qn f) [.ref (b 0), .ref qn, .int (nI o)]) (ev_QM (some (.int (ev_bi true))) (fun _ => True) ev_no) 43 258 ev_no := by
  refine ev_bodyY (cc := cL_areKeys) (maxL := 9) (ret := (some .boolean)) (by decide) rfl (Nat.le_of_ble_eq_true rfl) ?_
  intro p e s m args below meth c hx hb hr hml hown hts hlocks hP hNet hK hE ls hl
  have hl : lv_has ls 9 [(0, .ref (b 0)), (1, .ref qn), (2, .int (nI o))] := hl
  have hn := eg_hn hI
  have hTG := eg_hTG hI
  have ho7 : o < st.1 := by rw [hI.1]; exact ho
  have hpb : ev_pb st 12 (some o) = some (eg_pl tt o) := eg_pb hI ho 9
  have hp : eg_pl tt o < 5 := eg_pl_lt hI ho
  obtain ⟨hkc, hcnt, kp, h3, h4, h5⟩ := hI.2.2.2.2.2.2.2 (eg_pl tt o) hp
  have hod : ∀ x, x < ev_kc (st.2 (eg_pl tt o)) → eg_rk (od (eg_pl tt o)) (kp x) < 3000 := fun x hx9 => by have := ((hI.2.2.2.2.2.1 (eg_pl tt o) (kp x) hp (h3 x hx9).2.1).2 (h3 x hx9).2.2).2.2.2.2.2; have := (h3 x hx9).2.1; unfold eg_rk; split <;> omega
  have LP2 : ∀ (m9 x : Nat), x + m9 = ev_kc (st.2 (eg_pl tt o)) → ∀ (H : Heap) (locs : List Loc), ev_P D cI cO b ad st H → ev_N D cI qn f H → ev_Ex A s H → va_S ev_no s.heap H locs → ∀ ls : Array Slot, lv_has ls 9 [(6, .int (nI x)), (5, .int (ea_b (od (eg_pl tt o)) kp x)), (4, .int (nI (ev_kc (st.2 (eg_pl tt o))))), (3, .int (nI (eg_pl tt o))), (0, .ref (b 0)), (1, .ref qn), (2, .int (nI o))] → W p l e ({ frames := 8, cells := 43, slots := 258, locals := 130 }) s m args below meth c H locs (2 * x) (12 * x) (MQ below (ev_QM (some (.int (ev_bi true))) (fun _ => True) ev_no) args s 43 258 ev_no) (F0 m 44 ls []) := by
    intro m9
    induction m9 with
    | zero =>
      intro x hxk H locs hP hNet hE hS ls hl
      have hx9 : x = ev_kc (st.2 (eg_pl tt o)) := by omega
      subst hx9
      refine lv_iload hx hb dL_areKeys_44 (lv_at hl 0 rfl) ?_
      refine lv_iload hx hb dL_areKeys_46 (lv_at hl 2 rfl) ?_
      refine en_icmp_ge (tgt := 145) hx hb (by omega) (by omega) dL_areKeys_48 (by decide) (fun c_1 => ?_) (fun c_1 => by exfalso; omega)
      refine lv_aload_n hx hb dL_areKeys_145 rfl (lv_at hl 4 rfl) ?_
      refine lv_iload_n hx hb dL_areKeys_146 rfl (lv_at hl 6 rfl) ?_
      refine ew_run (A1 := ev_no) (As := [.ref (b 0), .int (nI o)]) (rest := []) ⟨hx, hb, hml, hown, hts⟩ (w_keys l (A := A) hn hTG ho7 hpb) (vx_cwSW 2 hts gL_areKeys_L_keys rfl rfl rfl (by decide +kernel) ⟨Nat.le_of_ble_eq_true rfl, Nat.le_of_ble_eq_true rfl⟩) (ew_preX hP hK hE) hS (fun _ h => h) (fun _ h => h) rfl hl.1 (Nat.le_of_ble_eq_true rfl) dL_areKeys_147 ⟨(by show 2 * (ev_kc (st.2 (eg_pl tt o))) + 1 ≤ 43; omega), (by show 12 * (ev_kc (st.2 (eg_pl tt o))) + 6 ≤ 258; omega)⟩ (fun H locs _ hz hk hS => ?_)
      have hP : ev_P D cI cO b ad st H := hP.kept (fun k q h => hk q.1 (hP k q h).lt (fun h => h))
      have hNet : ev_N D cI qn f H := hNet.kept (fun k q h => hk q.1 (hNet k q h).lt (fun h => h))
      have hE : ev_Ex A s H := hE.kept (fun a h _ => hk a h (fun h => h))
      refine lv_iload hx hb dL_areKeys_150 (lv_at hl 2 rfl) ?_
      refine en_icmp_ne (tgt := 182) hx hb (by omega) (by omega) dL_areKeys_152 (by decide) (fun c_2 => by exfalso; omega) (fun c_2 => ?_)
      refine lv_aload_n hx hb dL_areKeys_155 rfl (lv_at hl 4 rfl) ?_
      refine lv_iload_n hx hb dL_areKeys_156 rfl (lv_at hl 6 rfl) ?_
      refine lv_iload hx hb dL_areKeys_157 (lv_at hl 2 rfl) ?_
      refine ew_run (A1 := ev_no) (As := [.ref (b 0), .int (nI o), .int (nI (ev_kc (st.2 (eg_pl tt o))))]) (rest := []) ⟨hx, hb, hml, hown, hts⟩ (w_keyAt_e l hfl (A := A) hn hTG ho7 hpb hkc (x := ev_kc (st.2 (eg_pl tt o))) (Nat.le_refl _) (by omega)) (vx_cwSW 3 hts gL_areKeys_L_keyAt rfl rfl rfl (by decide +kernel) ⟨Nat.le_of_ble_eq_true rfl, Nat.le_of_ble_eq_true rfl⟩) (ew_preX hP hK hE) hS (fun _ h => h) (fun _ h => h) rfl hl.1 (Nat.le_of_ble_eq_true rfl) dL_areKeys_159 ⟨(by show 2 * (ev_kc (st.2 (eg_pl tt o))) + 1 + 1 ≤ 43; omega), (by show 12 * (ev_kc (st.2 (eg_pl tt o))) + 6 + 6 ≤ 258; omega)⟩ (fun H locs _ hz hk hS => ?_)
      have hP : ev_P D cI cO b ad st H := hP.kept (fun k q h => hk q.1 (hP k q h).lt (fun h => h))
      have hNet : ev_N D cI qn f H := hNet.kept (fun k q h => hk q.1 (hNet k q h).lt (fun h => h))
      have hE : ev_Ex A s H := hE.kept (fun a h _ => hk a h (fun h => h))
      refine lv_ldc (v := (-900003)) hx hb hown (hts (.constant RL 62 (-900003)) (by decide +kernel)) dL_areKeys_162 ?_
      refine lv_icmp_ne (tgt := 182) hx hb dL_areKeys_164 (by decide) (fun h => absurd h (by decide)) (fun _ => ?_)
      refine lv_aload_n hx hb dL_areKeys_167 rfl (lv_at hl 4 rfl) ?_
      refine lv_iload_n hx hb dL_areKeys_168 rfl (lv_at hl 6 rfl) ?_
      refine lv_iconst (v := -1) hx hb dL_areKeys_169 (by decide) ?_
      refine ew_run (A1 := ev_no) (As := [.ref (b 0), .int (nI o), .int (-1)]) (rest := []) ⟨hx, hb, hml, hown, hts⟩ (w_keyAt_m l hfl (A := A) hn hTG ho7 hpb) (vx_cwSW 3 hts gL_areKeys_L_keyAt rfl rfl rfl (by decide +kernel) ⟨Nat.le_of_ble_eq_true rfl, Nat.le_of_ble_eq_true rfl⟩) (ew_preX hP hK hE) hS (fun _ h => h) (fun _ h => h) rfl hl.1 (Nat.le_of_ble_eq_true rfl) dL_areKeys_170 ⟨(by show 2 * (ev_kc (st.2 (eg_pl tt o))) + 1 + 1 + 1 ≤ 43; omega), (by show 12 * (ev_kc (st.2 (eg_pl tt o))) + 6 + 6 + 6 ≤ 258; omega)⟩ (fun H locs _ hz hk hS => ?_)
      have hP : ev_P D cI cO b ad st H := hP.kept (fun k q h => hk q.1 (hP k q h).lt (fun h => h))
      have hNet : ev_N D cI qn f H := hNet.kept (fun k q h => hk q.1 (hNet k q h).lt (fun h => h))
      have hE : ev_Ex A s H := hE.kept (fun a h _ => hk a h (fun h => h))
      refine lv_ldc (v := (-900003)) hx hb hown (hts (.constant RL 62 (-900003)) (by decide +kernel)) dL_areKeys_173 ?_
      refine lv_icmp_ne (tgt := 182) hx hb dL_areKeys_175 (by decide) (fun h => absurd h (by decide)) (fun _ => ?_)
      refine lv_iconst (v := nI 1) hx hb dL_areKeys_178 (by decide) ?_
      refine lv_goto (tgt := 183) hx hb dL_areKeys_179 (by decide) ?_
      refine W.widen (k := 43) (n := 258) (by omega) (by omega) ?_
      exact em_bool hx hb hr hlocks rfl trivial hS dL_areKeys_183
    | succ m9 ih =>
      intro x hxk H locs hP hNet hE hS ls hl
      have heb : nI (eg_rk (od (eg_pl tt o)) (kp x)) > ea_b (od (eg_pl tt o)) kp x := by
        have hb9 := hod x (by omega)
        cases x with
        | zero =>
          show (-1 : Int32) < nI _
          rw [Int32.lt_iff_toInt_lt, nI_toInt (by omega)]
          have : (-1 : Int32).toInt = -1 := by decide
          omega
        | succ x => exact nI_lt (h4 x (x + 1) (by omega) (by omega)) (by omega)
      refine lv_iload hx hb dL_areKeys_44 (lv_at hl 0 rfl) ?_
      refine lv_iload hx hb dL_areKeys_46 (lv_at hl 2 rfl) ?_
      refine en_icmp_ge (tgt := 145) hx hb (by omega) (by omega) dL_areKeys_48 (by decide) (fun c_5 => ?_) (fun c_5 => ?_)
      ·
        refine lv_aload_n hx hb dL_areKeys_145 rfl (lv_at hl 4 rfl) ?_
        refine lv_iload_n hx hb dL_areKeys_146 rfl (lv_at hl 6 rfl) ?_
        refine ew_run (A1 := ev_no) (As := [.ref (b 0), .int (nI o)]) (rest := []) ⟨hx, hb, hml, hown, hts⟩ (w_keys l (A := A) hn hTG ho7 hpb) (vx_cwSW 2 hts gL_areKeys_L_keys rfl rfl rfl (by decide +kernel) ⟨Nat.le_of_ble_eq_true rfl, Nat.le_of_ble_eq_true rfl⟩) (ew_preX hP hK hE) hS (fun _ h => h) (fun _ h => h) rfl hl.1 (Nat.le_of_ble_eq_true rfl) dL_areKeys_147 ⟨(by show 2 * x + 1 ≤ 43; omega), (by show 12 * x + 6 ≤ 258; omega)⟩ (fun H locs _ hz hk hS => ?_)
        have hP : ev_P D cI cO b ad st H := hP.kept (fun k q h => hk q.1 (hP k q h).lt (fun h => h))
        have hNet : ev_N D cI qn f H := hNet.kept (fun k q h => hk q.1 (hNet k q h).lt (fun h => h))
        have hE : ev_Ex A s H := hE.kept (fun a h _ => hk a h (fun h => h))
        refine lv_iload hx hb dL_areKeys_150 (lv_at hl 2 rfl) ?_
        refine en_icmp_ne (tgt := 182) hx hb (by omega) (by omega) dL_areKeys_152 (by decide) (fun c_6 => by exfalso; omega) (fun c_6 => ?_)
        refine lv_aload_n hx hb dL_areKeys_155 rfl (lv_at hl 4 rfl) ?_
        refine lv_iload_n hx hb dL_areKeys_156 rfl (lv_at hl 6 rfl) ?_
        refine lv_iload hx hb dL_areKeys_157 (lv_at hl 2 rfl) ?_
        refine ew_run (A1 := ev_no) (As := [.ref (b 0), .int (nI o), .int (nI (ev_kc (st.2 (eg_pl tt o))))]) (rest := []) ⟨hx, hb, hml, hown, hts⟩ (w_keyAt_e l hfl (A := A) hn hTG ho7 hpb hkc (x := ev_kc (st.2 (eg_pl tt o))) (Nat.le_refl _) (by omega)) (vx_cwSW 3 hts gL_areKeys_L_keyAt rfl rfl rfl (by decide +kernel) ⟨Nat.le_of_ble_eq_true rfl, Nat.le_of_ble_eq_true rfl⟩) (ew_preX hP hK hE) hS (fun _ h => h) (fun _ h => h) rfl hl.1 (Nat.le_of_ble_eq_true rfl) dL_areKeys_159 ⟨(by show 2 * x + 1 + 1 ≤ 43; omega), (by show 12 * x + 6 + 6 ≤ 258; omega)⟩ (fun H locs _ hz hk hS => ?_)
        have hP : ev_P D cI cO b ad st H := hP.kept (fun k q h => hk q.1 (hP k q h).lt (fun h => h))
        have hNet : ev_N D cI qn f H := hNet.kept (fun k q h => hk q.1 (hNet k q h).lt (fun h => h))
        have hE : ev_Ex A s H := hE.kept (fun a h _ => hk a h (fun h => h))
        refine lv_ldc (v := (-900003)) hx hb hown (hts (.constant RL 62 (-900003)) (by decide +kernel)) dL_areKeys_162 ?_
        refine lv_icmp_ne (tgt := 182) hx hb dL_areKeys_164 (by decide) (fun h => absurd h (by decide)) (fun _ => ?_)
        refine lv_aload_n hx hb dL_areKeys_167 rfl (lv_at hl 4 rfl) ?_
        refine lv_iload_n hx hb dL_areKeys_168 rfl (lv_at hl 6 rfl) ?_
        refine lv_iconst (v := -1) hx hb dL_areKeys_169 (by decide) ?_
        refine ew_run (A1 := ev_no) (As := [.ref (b 0), .int (nI o), .int (-1)]) (rest := []) ⟨hx, hb, hml, hown, hts⟩ (w_keyAt_m l hfl (A := A) hn hTG ho7 hpb) (vx_cwSW 3 hts gL_areKeys_L_keyAt rfl rfl rfl (by decide +kernel) ⟨Nat.le_of_ble_eq_true rfl, Nat.le_of_ble_eq_true rfl⟩) (ew_preX hP hK hE) hS (fun _ h => h) (fun _ h => h) rfl hl.1 (Nat.le_of_ble_eq_true rfl) dL_areKeys_170 ⟨(by show 2 * x + 1 + 1 + 1 ≤ 43; omega), (by show 12 * x + 6 + 6 + 6 ≤ 258; omega)⟩ (fun H locs _ hz hk hS => ?_)
        have hP : ev_P D cI cO b ad st H := hP.kept (fun k q h => hk q.1 (hP k q h).lt (fun h => h))
        have hNet : ev_N D cI qn f H := hNet.kept (fun k q h => hk q.1 (hNet k q h).lt (fun h => h))
        have hE : ev_Ex A s H := hE.kept (fun a h _ => hk a h (fun h => h))
        refine lv_ldc (v := (-900003)) hx hb hown (hts (.constant RL 62 (-900003)) (by decide +kernel)) dL_areKeys_173 ?_
        refine lv_icmp_ne (tgt := 182) hx hb dL_areKeys_175 (by decide) (fun h => absurd h (by decide)) (fun _ => ?_)
        refine lv_iconst (v := nI 1) hx hb dL_areKeys_178 (by decide) ?_
        refine lv_goto (tgt := 183) hx hb dL_areKeys_179 (by decide) ?_
        refine W.widen (k := 43) (n := 258) (by omega) (by omega) ?_
        exact em_bool hx hb hr hlocks rfl trivial hS dL_areKeys_183
      ·
        refine lv_aload_n hx hb dL_areKeys_51 rfl (lv_at hl 4 rfl) ?_
        refine lv_iload_n hx hb dL_areKeys_52 rfl (lv_at hl 6 rfl) ?_
        refine lv_iload hx hb dL_areKeys_53 (lv_at hl 0 rfl) ?_
        refine ew_run (A1 := ev_no) (As := [.ref (b 0), .int (nI o), .int (nI x)]) (rest := []) ⟨hx, hb, hml, hown, hts⟩ (w_keyAt l (A := A) hn hTG ho7 hpb hkc (x := x) (by omega) (by rw [(h3 x (by omega)).1]; exact ea_nm (h3 x (by omega)).2.1)) (vx_cwSW 3 hts gL_areKeys_L_keyAt rfl rfl rfl (by decide +kernel) ⟨Nat.le_of_ble_eq_true rfl, Nat.le_of_ble_eq_true rfl⟩) (ew_preX hP hK hE) hS (fun _ h => h) (fun _ h => h) rfl hl.1 (Nat.le_of_ble_eq_true rfl) dL_areKeys_55 ⟨(by show 2 * x + 1 ≤ 43; omega), (by show 12 * x + 6 ≤ 258; omega)⟩ (fun H locs _ hz hk hS => ?_)
        have hP : ev_P D cI cO b ad st H := hP.kept (fun k q h => hk q.1 (hP k q h).lt (fun h => h))
        have hNet : ev_N D cI qn f H := hNet.kept (fun k q h => hk q.1 (hNet k q h).lt (fun h => h))
        have hE : ev_Ex A s H := hE.kept (fun a h _ => hk a h (fun h => h))
        refine en_eq (h3 x (by omega)).1 ?_
        have hx3 := (h3 x (by omega)).2.1
        refine lv_istore (lv' := [(7, .int (nI (kp x))), (6, .int (nI x)), (5, .int (ea_b (od (eg_pl tt o)) kp x)), (4, .int (nI (ev_kc (st.2 (eg_pl tt o))))), (3, .int (nI (eg_pl tt o))), (0, .ref (b 0)), (1, .ref qn), (2, .int (nI o))]) hx hb dL_areKeys_58 hl (by decide) rfl (fun ls hl => ?_)
        refine lv_iload hx hb dL_areKeys_60 (lv_at hl 0 rfl) ?_
        refine en_if_lt (tgt := 96) hx hb (by omega) dL_areKeys_62 (by decide) ?_
        refine lv_aload_n hx hb dL_areKeys_65 rfl (lv_at hl 6 rfl) ?_
        refine lv_iload_n hx hb dL_areKeys_66 rfl (lv_at hl 4 rfl) ?_
        refine lv_iload hx hb dL_areKeys_67 (lv_at hl 0 rfl) ?_
        refine ev_cst (As := [.int (nI (eg_pl tt o)), .int (nI (kp x))]) (rest := [.ref qn]) ⟨hx, hb, hml, hown, hts⟩ (c_L_at l (i := (eg_pl tt o)) (k := (kp x))) (va_cwS 2 hts gL_areKeys_L_at rfl rfl rfl (by decide +kernel) ⟨Nat.le_of_ble_eq_true rfl, Nat.le_of_ble_eq_true rfl⟩) hNet hK rfl hl.1 (Nat.le_of_ble_eq_true rfl) dL_areKeys_69 ⟨(by show _ ≤ 43; omega), (by show _ ≤ 258; omega)⟩ ?_
        refine el_ald (f := f) hx hb hK hNet ((eg_at (eg_pl tt o) (kp x))) (by first | omega | (unfold eg_at; omega)) dL_areKeys_72 ?_
        refine en_eq (show f ((eg_at (eg_pl tt o) (kp x))) = ev_bi (ev_holds (st.2 (eg_pl tt o)) (kp x)) from eg_fh hI (i := (eg_pl tt o)) (k := (kp x)) (by omega) (by omega)) ?_
        refine eb_if_eq (tgt := 96) hx hb dL_areKeys_73 (by decide) (fun c_10 => by rw [(h3 x (by omega)).2.2] at c_10; cases c_10) (fun c_10 => ?_)
        refine lv_aload_n hx hb dL_areKeys_76 rfl (lv_at hl 5 rfl) ?_
        refine lv_iload_n hx hb dL_areKeys_77 rfl (lv_at hl 7 rfl) ?_
        refine lv_iload hx hb dL_areKeys_78 (lv_at hl 0 rfl) ?_
        refine ew_run (A1 := ev_no) (As := [.ref (b 0), .int (nI o), .int (nI (kp x))]) (rest := []) ⟨hx, hb, hml, hown, hts⟩ (w_rights l (A := A) hn hTG ho7 hpb (k := kp x) (by omega) (by rw [(eg_rE hI hp hx3 (h3 x (by omega)).2.2).1]; exact ea_nm (by have := (eg_rE hI hp hx3 (h3 x (by omega)).2.2).2; omega))) (vx_cwSW 3 hts gL_areKeys_L_rights rfl rfl rfl (by decide +kernel) ⟨Nat.le_of_ble_eq_true rfl, Nat.le_of_ble_eq_true rfl⟩) (ew_preX hP hK hE) hS (fun _ h => h) (fun _ h => h) rfl hl.1 (Nat.le_of_ble_eq_true rfl) dL_areKeys_80 ⟨(by show 2 * x + 1 + 1 ≤ 43; omega), (by show 12 * x + 6 + 6 ≤ 258; omega)⟩ (fun H locs _ hz hk hS => ?_)
        have hP : ev_P D cI cO b ad st H := hP.kept (fun k q h => hk q.1 (hP k q h).lt (fun h => h))
        have hNet : ev_N D cI qn f H := hNet.kept (fun k q h => hk q.1 (hNet k q h).lt (fun h => h))
        have hE : ev_Ex A s H := hE.kept (fun a h _ => hk a h (fun h => h))
        refine en_eq (eg_rE hI hp hx3 (h3 x (by omega)).2.2).1 ?_
        have hr9 := (eg_rE hI hp hx3 (h3 x (by omega)).2.2).2
        refine lv_aload_n hx hb dL_areKeys_83 rfl (lv_at hl 6 rfl) ?_
        refine lv_iload_n hx hb dL_areKeys_84 rfl (lv_at hl 4 rfl) ?_
        refine lv_iload hx hb dL_areKeys_85 (lv_at hl 0 rfl) ?_
        refine ev_cst (As := [.int (nI (eg_pl tt o)), .int (nI (kp x))]) (rest := [.ref qn, .int (nI (eg_r (st.2 (eg_pl tt o)) (kp x)))]) ⟨hx, hb, hml, hown, hts⟩ (c_L_at l (i := (eg_pl tt o)) (k := (kp x))) (va_cwS 2 hts gL_areKeys_L_at rfl rfl rfl (by decide +kernel) ⟨Nat.le_of_ble_eq_true rfl, Nat.le_of_ble_eq_true rfl⟩) hNet hK rfl hl.1 (Nat.le_of_ble_eq_true rfl) dL_areKeys_87 ⟨(by show _ ≤ 43; omega), (by show _ ≤ 258; omega)⟩ ?_
        refine lv_iconst (v := nI 2) hx hb dL_areKeys_90 (by decide) ?_
        refine en_iadd hx hb ((eg_at (eg_pl tt o) (kp x)) + 2) rfl dL_areKeys_91 ?_
        have hr_11 := (eg_rE hI (i := (eg_pl tt o)) (k := (kp x)) (by omega) (by omega) (h3 x (by omega)).2.2).2
        refine el_ald (f := f) hx hb hK hNet ((eg_at (eg_pl tt o) (kp x)) + 2) (by first | omega | (unfold eg_at; omega)) dL_areKeys_92 ?_
        refine en_eq (show f ((eg_at (eg_pl tt o) (kp x)) + 2) = nI (eg_r (st.2 (eg_pl tt o)) (kp x)) from eg_fr hI (i := (eg_pl tt o)) (k := (kp x)) (by omega) (by omega) (h3 x (by omega)).2.2) ?_
        refine en_icmp_eq (tgt := 98) hx hb (by omega) (by omega) dL_areKeys_93 (by decide) (fun c_12 => ?_) (fun c_12 => by exfalso; omega)
        refine lv_iload hx hb dL_areKeys_98 (lv_at hl 0 rfl) ?_
        refine lv_bipush (v := nI 10) hx hb dL_areKeys_100 (by decide) ?_
        refine en_icmp_ge (tgt := 110) hx hb (by omega) (by omega) dL_areKeys_102 (by decide) (fun c_13 => ?_) (fun c_13 => ?_)
        ·
          refine lv_sipush (v := nI 1000) hx hb dL_areKeys_110 (by decide) ?_
          refine lv_aload_n hx hb dL_areKeys_113 rfl (lv_at hl 6 rfl) ?_
          refine lv_iload_n hx hb dL_areKeys_114 rfl (lv_at hl 4 rfl) ?_
          refine lv_iload hx hb dL_areKeys_115 (lv_at hl 0 rfl) ?_
          refine ev_cst (As := [.int (nI (eg_pl tt o)), .int (nI (kp x))]) (rest := [.ref qn, .int (nI 1000)]) ⟨hx, hb, hml, hown, hts⟩ (c_L_at l (i := (eg_pl tt o)) (k := (kp x))) (va_cwS 2 hts gL_areKeys_L_at rfl rfl rfl (by decide +kernel) ⟨Nat.le_of_ble_eq_true rfl, Nat.le_of_ble_eq_true rfl⟩) hNet hK rfl hl.1 (Nat.le_of_ble_eq_true rfl) dL_areKeys_117 ⟨(by show _ ≤ 43; omega), (by show _ ≤ 258; omega)⟩ ?_
          refine lv_iconst (v := nI 3) hx hb dL_areKeys_120 (by decide) ?_
          refine en_iadd hx hb ((eg_at (eg_pl tt o) (kp x)) + 3) rfl dL_areKeys_121 ?_
          refine el_ald (f := f) hx hb hK hNet ((eg_at (eg_pl tt o) (kp x)) + 3) (by first | omega | (unfold eg_at; omega)) dL_areKeys_122 ?_
          refine en_eq (show f ((eg_at (eg_pl tt o) (kp x)) + 3) = nI (od (eg_pl tt o) (kp x)) from eg_fo hI (i := (eg_pl tt o)) (k := (kp x)) (by omega) (by omega) (h3 x (by omega)).2.2) ?_
          refine en_iadd hx hb (1000 + (od (eg_pl tt o) (kp x))) rfl dL_areKeys_123 ?_
          refine en_eq (congrArg nI (show 1000 + (od (eg_pl tt o) (kp x)) = eg_rk (od (eg_pl tt o)) (kp x) from (if_neg (by omega)).symm)) ?_
          refine lv_istore (lv' := [(8, .int (nI (eg_rk (od (eg_pl tt o)) (kp x)))), (7, .int (nI (kp x))), (6, .int (nI x)), (5, .int (ea_b (od (eg_pl tt o)) kp x)), (4, .int (nI (ev_kc (st.2 (eg_pl tt o))))), (3, .int (nI (eg_pl tt o))), (0, .ref (b 0)), (1, .ref qn), (2, .int (nI o))]) hx hb dL_areKeys_124 hl (by decide) rfl (fun ls hl => ?_)
          refine lv_iload hx hb dL_areKeys_126 (lv_at hl 0 rfl) ?_
          refine lv_iload hx hb dL_areKeys_128 (lv_at hl 3 rfl) ?_
          refine lv_icmp_gt (tgt := 135) hx hb dL_areKeys_130 (by decide) (fun c_14 => ?_) (fun c_14 => by exfalso; exact c_14 heb)
          refine lv_iload hx hb dL_areKeys_135 (lv_at hl 0 rfl) ?_
          refine lv_istore (lv' := [(5, .int (nI (eg_rk (od (eg_pl tt o)) (kp x)))), (8, .int (nI (eg_rk (od (eg_pl tt o)) (kp x)))), (7, .int (nI (kp x))), (6, .int (nI x)), (4, .int (nI (ev_kc (st.2 (eg_pl tt o))))), (3, .int (nI (eg_pl tt o))), (0, .ref (b 0)), (1, .ref qn), (2, .int (nI o))]) hx hb dL_areKeys_137 hl (by decide) rfl (fun ls hl => ?_)
          refine lv_iinc (v := nI (x + 1)) (lv' := [(6, .int (nI (x + 1))), (5, .int (nI (eg_rk (od (eg_pl tt o)) (kp x)))), (8, .int (nI (eg_rk (od (eg_pl tt o)) (kp x)))), (7, .int (nI (kp x))), (4, .int (nI (ev_kc (st.2 (eg_pl tt o))))), (3, .int (nI (eg_pl tt o))), (0, .ref (b 0)), (1, .ref qn), (2, .int (nI o))]) hx hb dL_areKeys_139 hl (k := 3) rfl (ev_inc1 _) (by decide) rfl (fun ls hl => ?_)
          refine lv_goto (tgt := 44) hx hb dL_areKeys_142 (by decide) ?_
          refine W.cs (cells' := 2 * (x + 1)) (slots' := 12 * (x + 1)) (by omega) (by omega) ?_
          exact ih (x + 1) (by omega) H locs hP hNet hE hS ls (lv_sub hl [0, 1, 4, 5, 6, 7, 8] rfl)
        ·
          refine lv_iload hx hb dL_areKeys_105 (lv_at hl 0 rfl) ?_
          refine lv_goto (tgt := 124) hx hb dL_areKeys_107 (by decide) ?_
          refine en_eq (congrArg nI (show (kp x) = eg_rk (od (eg_pl tt o)) (kp x) from (if_pos (by omega)).symm)) ?_
          refine lv_istore (lv' := [(8, .int (nI (eg_rk (od (eg_pl tt o)) (kp x)))), (7, .int (nI (kp x))), (6, .int (nI x)), (5, .int (ea_b (od (eg_pl tt o)) kp x)), (4, .int (nI (ev_kc (st.2 (eg_pl tt o))))), (3, .int (nI (eg_pl tt o))), (0, .ref (b 0)), (1, .ref qn), (2, .int (nI o))]) hx hb dL_areKeys_124 hl (by decide) rfl (fun ls hl => ?_)
          refine lv_iload hx hb dL_areKeys_126 (lv_at hl 0 rfl) ?_
          refine lv_iload hx hb dL_areKeys_128 (lv_at hl 3 rfl) ?_
          refine lv_icmp_gt (tgt := 135) hx hb dL_areKeys_130 (by decide) (fun c_15 => ?_) (fun c_15 => by exfalso; exact c_15 heb)
          refine lv_iload hx hb dL_areKeys_135 (lv_at hl 0 rfl) ?_
          refine lv_istore (lv' := [(5, .int (nI (eg_rk (od (eg_pl tt o)) (kp x)))), (8, .int (nI (eg_rk (od (eg_pl tt o)) (kp x)))), (7, .int (nI (kp x))), (6, .int (nI x)), (4, .int (nI (ev_kc (st.2 (eg_pl tt o))))), (3, .int (nI (eg_pl tt o))), (0, .ref (b 0)), (1, .ref qn), (2, .int (nI o))]) hx hb dL_areKeys_137 hl (by decide) rfl (fun ls hl => ?_)
          refine lv_iinc (v := nI (x + 1)) (lv' := [(6, .int (nI (x + 1))), (5, .int (nI (eg_rk (od (eg_pl tt o)) (kp x)))), (8, .int (nI (eg_rk (od (eg_pl tt o)) (kp x)))), (7, .int (nI (kp x))), (4, .int (nI (ev_kc (st.2 (eg_pl tt o))))), (3, .int (nI (eg_pl tt o))), (0, .ref (b 0)), (1, .ref qn), (2, .int (nI o))]) hx hb dL_areKeys_139 hl (k := 3) rfl (ev_inc1 _) (by decide) rfl (fun ls hl => ?_)
          refine lv_goto (tgt := 44) hx hb dL_areKeys_142 (by decide) ?_
          refine W.cs (cells' := 2 * (x + 1)) (slots' := 12 * (x + 1)) (by omega) (by omega) ?_
          exact ih (x + 1) (by omega) H locs hP hNet hE hS ls (lv_sub hl [0, 1, 4, 5, 6, 7, 8] rfl)
  have LP1 : ∀ (m9 j : Nat), j + m9 = 20 → ∀ ls : Array Slot, lv_has ls 9 [(6, .int (nI j)), (5, .int (-1)), (4, .int (nI (ev_cnt (st.2 (eg_pl tt o)) j))), (3, .int (nI (eg_pl tt o))), (0, .ref (b 0)), (1, .ref qn), (2, .int (nI o))] → W p l e ({ frames := 8, cells := 43, slots := 258, locals := 130 }) s m args below meth c s.heap [] 0 0 (MQ below (ev_QM (some (.int (ev_bi true))) (fun _ => True) ev_no) args s 43 258 ev_no) (F0 m 15 ls []) := by
    intro m9
    induction m9 with
    | zero =>
      intro j hj ls hl
      have hj9 : j = 20 := by omega
      subst hj9
      rw [hcnt] at hl
      have hl : lv_has ls 9 [(6, .int (nI 20)), (5, .int (-1)), (4, .int (nI (ev_kc (st.2 (eg_pl tt o))))), (3, .int (nI (eg_pl tt o))), (0, .ref (b 0)), (1, .ref qn), (2, .int (nI o))] := hl
      refine lv_iload hx hb dL_areKeys_15 (lv_at hl 0 rfl) ?_
      refine lv_bipush (v := nI 20) hx hb dL_areKeys_17 (by decide) ?_
      refine en_icmp_ge (tgt := 41) hx hb (by omega) (by omega) dL_areKeys_19 (by decide) (fun c_16 => ?_) (fun c_16 => by exfalso; omega)
      refine lv_iconst (v := nI 0) hx hb dL_areKeys_41 (by decide) ?_
      refine lv_istore (lv' := [(6, .int (nI 0)), (5, .int (-1)), (4, .int (nI (ev_kc (st.2 (eg_pl tt o))))), (3, .int (nI (eg_pl tt o))), (0, .ref (b 0)), (1, .ref qn), (2, .int (nI o))]) hx hb dL_areKeys_42 hl (by decide) rfl (fun ls hl => ?_)
      exact LP2 (ev_kc (st.2 (eg_pl tt o))) 0 (by omega) s.heap [] hP hNet hE va_S.rf ls (lv_sub hl [0, 1, 2, 3, 4, 5, 6] rfl)
    | succ m9 ih =>
      intro j hj ls hl
      refine lv_iload hx hb dL_areKeys_15 (lv_at hl 0 rfl) ?_
      refine lv_bipush (v := nI 20) hx hb dL_areKeys_17 (by decide) ?_
      refine en_icmp_ge (tgt := 41) hx hb (by omega) (by omega) dL_areKeys_19 (by decide) (fun c_17 => by exfalso; omega) (fun c_17 => ?_)
      refine lv_iload hx hb dL_areKeys_22 (lv_at hl 2 rfl) ?_
      refine lv_aload_n hx hb dL_areKeys_24 rfl (lv_at hl 5 rfl) ?_
      refine lv_iload_n hx hb dL_areKeys_25 rfl (lv_at hl 3 rfl) ?_
      refine lv_iload hx hb dL_areKeys_26 (lv_at hl 0 rfl) ?_
      refine ev_cst (As := [.int (nI (eg_pl tt o)), .int (nI j)]) (rest := [.ref qn, .int (nI (ev_cnt (st.2 (eg_pl tt o)) j))]) ⟨hx, hb, hml, hown, hts⟩ (c_L_at l (i := (eg_pl tt o)) (k := j)) (va_cwS 2 hts gL_areKeys_L_at rfl rfl rfl (by decide +kernel) ⟨Nat.le_of_ble_eq_true rfl, Nat.le_of_ble_eq_true rfl⟩) hNet hK rfl hl.1 (Nat.le_of_ble_eq_true rfl) dL_areKeys_28 ⟨(by show _ ≤ 43; omega), (by show _ ≤ 258; omega)⟩ ?_
      refine el_ald (f := f) hx hb hK hNet ((eg_at (eg_pl tt o) j)) (by first | omega | (unfold eg_at; omega)) dL_areKeys_31 ?_
      refine en_eq (show f ((eg_at (eg_pl tt o) j)) = ev_bi (ev_holds (st.2 (eg_pl tt o)) j) from eg_fh hI (i := (eg_pl tt o)) (k := j) (by omega) (by omega)) ?_
      refine lv_iadd hx hb dL_areKeys_32 ?_
      refine en_eq (ea_cnt (st.2 (eg_pl tt o)) j) ?_
      refine lv_istore (lv' := [(4, .int (nI (ev_cnt (st.2 (eg_pl tt o)) (j + 1)))), (6, .int (nI j)), (5, .int (-1)), (3, .int (nI (eg_pl tt o))), (0, .ref (b 0)), (1, .ref qn), (2, .int (nI o))]) hx hb dL_areKeys_33 hl (by decide) rfl (fun ls hl => ?_)
      refine lv_iinc (v := nI (j + 1)) (lv' := [(6, .int (nI (j + 1))), (4, .int (nI (ev_cnt (st.2 (eg_pl tt o)) (j + 1)))), (5, .int (-1)), (3, .int (nI (eg_pl tt o))), (0, .ref (b 0)), (1, .ref qn), (2, .int (nI o))]) hx hb dL_areKeys_35 hl (k := 1) rfl (ev_inc1 _) (by decide) rfl (fun ls hl => ?_)
      refine lv_goto (tgt := 15) hx hb dL_areKeys_38 (by decide) ?_
      exact ih (j + 1) (by omega) ls (lv_sub hl [0, 2, 1, 3, 4, 5, 6] rfl)
  refine lv_aload_n hx hb dL_areKeys_0 rfl (lv_at hl 1 rfl) ?_
  refine lv_iload_n hx hb dL_areKeys_1 rfl (lv_at hl 2 rfl) ?_
  have hp_18 : eg_pl tt o < 5 := eg_pl_lt hI (by omega)
  refine ev_cst (As := [.ref qn, .int (nI o)]) (rest := []) ⟨hx, hb, hml, hown, hts⟩ (c_L_plain l hI (o := o) (by omega)) (va_cwS 2 hts gL_areKeys_L_plain rfl rfl rfl (by decide +kernel) ⟨Nat.le_of_ble_eq_true rfl, Nat.le_of_ble_eq_true rfl⟩) hNet hK rfl hl.1 (Nat.le_of_ble_eq_true rfl) dL_areKeys_2 ⟨(by show _ ≤ 43; omega), (by show _ ≤ 258; omega)⟩ ?_
  refine lv_istore_n (lv' := [(3, .int (nI (eg_pl tt o))), (0, .ref (b 0)), (1, .ref qn), (2, .int (nI o))]) hx hb dL_areKeys_5 rfl hl (by decide) rfl (fun ls hl => ?_)
  refine lv_iconst (v := nI 0) hx hb dL_areKeys_6 (by decide) ?_
  refine lv_istore (lv' := [(4, .int (nI 0)), (3, .int (nI (eg_pl tt o))), (0, .ref (b 0)), (1, .ref qn), (2, .int (nI o))]) hx hb dL_areKeys_7 hl (by decide) rfl (fun ls hl => ?_)
  refine lv_iconst (v := -1) hx hb dL_areKeys_9 (by decide) ?_
  refine lv_istore (lv' := [(5, .int (-1)), (4, .int (nI 0)), (3, .int (nI (eg_pl tt o))), (0, .ref (b 0)), (1, .ref qn), (2, .int (nI o))]) hx hb dL_areKeys_10 hl (by decide) rfl (fun ls hl => ?_)
  refine lv_iconst (v := nI 0) hx hb dL_areKeys_12 (by decide) ?_
  refine lv_istore (lv' := [(6, .int (nI 0)), (5, .int (-1)), (4, .int (nI 0)), (3, .int (nI (eg_pl tt o))), (0, .ref (b 0)), (1, .ref qn), (2, .int (nI o))]) hx hb dL_areKeys_13 hl (by decide) rfl (fun ls hl => ?_)
  exact LP1 20 0 (by omega) ls (lv_sub hl [0, 1, 2, 3, 4, 5, 6] rfl)
