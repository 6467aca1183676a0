/-! 15.law: the law's own helpers over its table -/
def ev_N (D : va_G) (cI : ClassId) (qn : Nat) (f : Nat → Int32) (H : Heap) : Prop := va_P D vwCl [(qn, .inl (cI, 700, .inl f))] H
def el_A (qn : Nat) : Nat → Prop := fun q => q = qn
def el_H (D : va_G) (cI : ClassId) (qn : Nat) (tt : Nat → Nat) (cc : Nat → Option Nat) (st : ev_ST) (n : Nat) (H : Heap) : Prop := ∃ (f : Nat → Int32) (od : Nat → Nat → Nat) (n' : Nat), ev_N D cI qn f H ∧ eg_I tt cc st f od n' ∧ n' ≤ n + 1
theorem el_DA {A : Nat → Prop} {q : Nat} {e0 : va_E} (h : A q) : va_D A [(q, e0)] := ⟨fun i j x y hi hj _ => by have := (List.getElem?_eq_some_iff.mp hi).1; have := (List.getElem?_eq_some_iff.mp hj).1; simp at *; omega, fun k q hk => by rcases k with _ | k <;> simp at hk; subst hk; exact h⟩
theorem el_div {a b : Nat} (h1 : a < 2 ^ 31) (h2 : 0 < b) (h3 : b < 2 ^ 31) : nI a / nI b = nI (a / b) := by
  refine Int32.toInt_inj.mp ?_
  rw [Jvm.Kit.i32_div (by rw [nI_toInt h1]; omega), nI_toInt h1, nI_toInt h3, nI_toInt (Nat.lt_of_le_of_lt (Nat.div_le_self a b) h1)]
  rfl
theorem el_rem {a b : Nat} (h1 : a < 2 ^ 31) (h2 : 0 < b) (h3 : b < 2 ^ 31) : nI a - nI a / nI b * nI b = nI (a % b) := by
  rw [el_div h1 h2 h3]
  have e1 : nI (a / b) * nI b = nI (a / b * b) := (Int32.ofNat_mul _ _).symm
  have e2 : nI a = nI (a % b) + nI (a / b * b) := by
    rw [nI_add]
    congr 1
    have := Nat.mod_add_div a b
    rw [Nat.mul_comm] at this
    exact this.symm
  rw [e1, e2, Int32.add_sub_cancel]
theorem el_roomy {l : Launch} {y : MethodName} {ws : List Cond} {r r' : Room} {Pc : Array Value → State → Prop} {Qc : Array Value → State → Outcome → State → Prop} {mc ms : Nat} {free : Addr → Prop} (h : Met l y ws r Pc Qc mc ms free) (h1 : r.frames ≤ r'.frames) (h2 : r.cells ≤ r'.cells) (h3 : r.slots ≤ r'.slots) (h4 : r.locals ≤ r'.locals) : Met l y ws r' Pc Qc mc ms free := by
  intro p e ha hc hk s m args below hf happ hp hK
  obtain ⟨a1, a2, a3, a4, a5, a6, a7, a8⟩ := (Spec.appliesLoose_iff hf).mp happ
  refine h p e ha hc hk s m args below hf ((Spec.appliesLoose_iff hf).mpr ⟨a1, a2, a3, a4, a5, a6, ?_, a8⟩) hp hK
  have e1 : (headSpec ws r').room = r' := rfl
  have e2 : (headSpec ws r).room = r := rfl
  rw [e1] at a7
  rw [e2]
  simp only [State.hasRoom, Bool.and_eq_true, decide_eq_true_eq] at a7 ⊢
  obtain ⟨⟨⟨⟨b1, b2, b3, b4, b5, b6⟩, b7⟩, b8⟩, b9⟩ := a7
  exact ⟨⟨⟨⟨by omega, by omega, by omega, by omega, by omega, b6⟩, by omega⟩, by omega⟩, b9⟩
section EL
variable {p : Program} {l : Launch} {e : Env} {R : Room} {s : State} {m : MethodId} {args : Array Value} {below : List Frame} {meth : Method} {c : Code} {H : Heap} {locs : List Loc} {cells slots : Nat} {Q : State → Prop}
variable {cc : ByteArray} {pc : Nat} {ls : Array Slot} {rest : List Value} {D : va_G} {cI cO : ClassId} {qn : Nat} {f : Nat → Int32} {A A1 : Nat → Prop} {H0 : Heap} {Ts : List Cond} {own : String}
theorem el_ald (hx : p.tables.exec = Jvm.exec) (hb : c.code = cc) (hK : va_K D vwCl (ev_ty cI cO) s) (hP : ev_N D cI qn f H) (j : Nat) (hj : j < 700) (hdg : decode cc pc = .ok (.iaload, 1))
    (kk : W p l e R s m args below meth c H locs cells slots Q (F0 m (pc + 1) ls (.int (f j) :: rest))) : W p l e R s m args below meth c H locs cells slots Q (F0 m pc ls (.int (nI j) :: .ref qn :: rest)) := by
  refine va_iald hx hb hK hP 0 0 rfl rfl (vp_in_nI hj (by decide)) hdg ?_
  rw [nI_clamp (by omega)]
  exact kk
theorem el_ast (hx : p.tables.exec = Jvm.exec) (hb : c.code = cc) (hK : va_K D vwCl (ev_ty cI cO) s) (hP : ev_N D cI qn f H) (hq : A qn) (hS : va_S A H0 H locs) (j : Nat) (hj : j < 700) {x : Int32} (hdg : decode cc pc = .ok (.iastore, 1))
    (kk : ∀ (H1 : Heap) (locs1 : List Loc), ev_N D cI qn (upd f j x) H1 → va_S A H0 H1 locs1 → W p l e R s m args below meth c H1 locs1 cells slots Q (F0 m (pc + 1) ls rest)) : W p l e R s m args below meth c H locs cells slots Q (F0 m pc ls (.int x :: .int (nI j) :: .ref qn :: rest)) := by
  refine va_iast hx hb hK hP (el_DA hq) hS 0 0 rfl rfl (vp_in_nI hj (by decide)) hdg (fun H1 locs1 hP1 hD1 hS1 => ?_)
  rw [nI_clamp (by omega)] at hP1
  exact kk H1 locs1 hP1 hS1
theorem en_irem (hx : p.tables.exec = Jvm.exec) (hb : c.code = cc) {a b : Nat} (n : Nat) (hn : a % b = n) (h1 : a < 2 ^ 31) (h2 : 0 < b) (h3 : b < 2 ^ 31) (hdg : decode cc pc = .ok (.irem, 1))
    (kk : W p l e R s m args below meth c H locs cells slots Q (F0 m (pc + 1) ls (.int (nI n) :: rest))) : W p l e R s m args below meth c H locs cells slots Q (F0 m pc ls (.int (nI b) :: .int (nI a) :: rest)) := by
  refine lv_irem hx hb hdg (nI_ne0 h2 h3) ?_
  rw [el_rem h1 h2 h3, hn]
  exact kk
theorem en_idiv (hx : p.tables.exec = Jvm.exec) (hb : c.code = cc) {a b : Nat} (n : Nat) (hn : a / b = n) (h1 : a < 2 ^ 31) (h2 : 0 < b) (h3 : b < 2 ^ 31) (hdg : decode cc pc = .ok (.idiv, 1))
    (kk : W p l e R s m args below meth c H locs cells slots Q (F0 m (pc + 1) ls (.int (nI n) :: rest))) : W p l e R s m args below meth c H locs cells slots Q (F0 m pc ls (.int (nI b) :: .int (nI a) :: rest)) := by
  refine lv_idiv hx hb hdg (nI_ne0 h2 h3) ?_
  rw [el_div h1 h2 h3, hn]
  exact kk
theorem eb_icmp_eq1 (hx : p.tables.exec = Jvm.exec) (hb : c.code = cc) {x : Bool} {off : Int} (tgt : Nat) (hdg : decode cc pc = .ok (.if_icmp .eq off, 3)) (ht : (pc : Int) + off = (tgt : Int))
    (kt : x = true → W p l e R s m args below meth c H locs cells slots Q (F0 m tgt ls rest)) (kf : x = false → W p l e R s m args below meth c H locs cells slots Q (F0 m (pc + 3) ls rest)) : W p l e R s m args below meth c H locs cells slots Q (F0 m pc ls (.int (nI 1) :: .int (ev_bi x) :: rest)) :=
  lv_icmp_eq hx hb hdg ht (fun h => kt (by cases x <;> first | rfl | exact absurd h (by decide))) (fun h => kf (by cases x <;> first | rfl | exact absurd rfl h))
theorem eb_icmp_ne1 (hx : p.tables.exec = Jvm.exec) (hb : c.code = cc) {x : Bool} {off : Int} (tgt : Nat) (hdg : decode cc pc = .ok (.if_icmp .ne off, 3)) (ht : (pc : Int) + off = (tgt : Int))
    (kt : x = false → W p l e R s m args below meth c H locs cells slots Q (F0 m tgt ls rest)) (kf : x = true → W p l e R s m args below meth c H locs cells slots Q (F0 m (pc + 3) ls rest)) : W p l e R s m args below meth c H locs cells slots Q (F0 m pc ls (.int (nI 1) :: .int (ev_bi x) :: rest)) :=
  lv_icmp_ne hx hb hdg ht (fun h => kt (by cases x <;> first | rfl | exact absurd rfl h)) (fun h => kf (by cases x <;> first | rfl | exact absurd h (by decide)))
/-- a static call that may write the table -/
theorem el_ms {y : MethodName} {bytes : ByteArray} {maxL nL n index mc ms : Nat} {ret : Option FieldType} {ws : List Cond} {rm : Room} {Hp Hp' : Heap → Prop} {v : Option Value} {As : List Value} (S : CallFix p m c cc nL s args Ts own)
    (hM : Met l y ws rm (ev_Pc D cI cO Hp As) (ev_QM v Hp' A1) mc ms A1) (cw : CallB R s args own index y bytes maxL ret ws rm mc ms n ∧ (Cond.static y).before args s = true) (hH : Hp H) (hK : va_K D vwCl (ev_ty cI cO) s) (hS : va_S A H0 H locs) (hA : ∀ q, A1 q → A q)
    (hn : As.length = n) (hsize : ls.size = nL) (hW : (rest.map fun v => v.category).sum ≤ 8) (hdg : decode cc pc = .ok (.invokestatic index, 3)) (hf : cells + mc ≤ R.cells ∧ slots + ms ≤ R.slots)
    (kk : ∀ (H1 : Heap) (locs1 : List Loc), Hp' H1 → H.size ≤ H1.size → (∀ q : Nat, q < H.size → ¬ A1 q → H1[q]? = H[q]?) → va_S A H0 H1 locs1 → W p l e R s m args below meth c H1 locs1 (cells + mc) (slots + ms) Q (F0 m (pc + 3) ls (v.toList ++ rest))) : W p l e R s m args below meth c H locs cells slots Q (F0 m pc ls (As.reverse ++ rest)) := by
  have hr' := W.runS (e := e) (below := below) (meth := meth) (g := F0 m pc ls (As.reverse ++ rest)) (locs := locs) (rest := rest) S hM cw ⟨ev_blind, fun U hU hW => ⟨rfl, by rw [hU]; exact hH, va_K.moved hW.alike hK⟩⟩ rfl hn hsize rfl (lv_room hW) hdg hf
  intro T hT X
  obtain ⟨v', st₀, t, T', L, h0, X', hL, e1, ⟨hv, hp, hz, hk⟩, st⟩ := hr' T hT X
  cases hv
  rw [h0] at hz hk
  obtain ⟨t2, a1, b1⟩ := kk T'.heap (locs ++ L) (by rw [e1]; exact hp) (by rw [e1]; exact hz) (fun q h1 h2 => by rw [e1]; exact hk q h1 h2)
    ⟨Nat.le_trans hS.1 (by rw [e1]; exact hz), fun q h1 h2 => by rw [e1, hk q (Nat.lt_of_lt_of_le h1 hS.1) (fun h => h2 (hA q h))]; exact hS.2.1 q h1 h2, fun q hq => by
      rcases List.mem_append.mp hq with h | h
      · exact hS.2.2 q h
      · exact hA _ (hL q h)⟩ T' rfl X'
  exact ⟨t2, st t2 a1, b1⟩
end EL
set_option maxHeartbeats 4000000 in
set_option maxRecDepth 100000 in
theorem c_L_at (l : Launch) {D : va_G} {cI cO : ClassId} {Hp : Heap → Prop}  {i k : Nat} : Met l yL_at wsL_at ({ frames := 0, cells := 0, slots := 0, locals := 0 }) (ev_Pc D cI cO Hp [.int (nI i), .int (nI k)]) (ev_QV (some (.int (nI (eg_at i k))))) 0 0 ev_no := by
  refine ev_body (cc := cL_at) (maxL := 2) (ret := (some .int)) (by decide) rfl (Nat.le_of_ble_eq_true rfl) ?_
  intro p e s m args below meth c hx hb hr hml hown hts hlocks hnm hP hK ls hl
  have hl : lv_has ls 2 [(0, .int (nI i)), (1, .int (nI k))] := hl
  refine lv_bipush (v := nI 100) hx hb dL_at_0 (by decide) ?_
  refine lv_iconst (v := nI 4) hx hb dL_at_2 (by decide) ?_
  refine lv_bipush (v := nI 20) hx hb dL_at_3 (by decide) ?_
  refine lv_iload_n hx hb dL_at_5 rfl (lv_at hl 0 rfl) ?_
  refine en_imul hx hb (20 * i) rfl dL_at_6 ?_
  refine lv_iload_n hx hb dL_at_7 rfl (lv_at hl 1 rfl) ?_
  refine en_iadd hx hb (20 * i + k) rfl dL_at_8 ?_
  refine en_imul hx hb (4 * (20 * i + k)) rfl dL_at_9 ?_
  refine en_iadd hx hb (100 + (4 * (20 * i + k))) rfl dL_at_10 ?_
  exact er_int hx hb hr hlocks rfl dL_at_11
set_option maxHeartbeats 4000000 in
set_option maxRecDepth 100000 in
theorem c_L_plain (l : Launch) {D : va_G} {cI cO : ClassId} {qn : Nat} {tt : Nat → Nat} {cc : Nat → Option Nat} {st : ev_ST} {f : Nat → Int32} {od : Nat → Nat → Nat} {n : Nat} (hI : eg_I tt cc st f od n) {o : Nat} (ho : o < 7) : Met l yL_plain wsL_plain ({ frames := 0, cells := 0, slots := 0, locals := 0 }) (ev_Pc D cI cO (ev_N D cI qn f) [.ref qn, .int (nI o)]) (ev_QV (some (.int (nI (eg_pl tt o))))) 0 0 ev_no := by
  refine ev_body (cc := cL_plain) (maxL := 2) (ret := (some .int)) (by decide) rfl (Nat.le_of_ble_eq_true rfl) ?_
  intro p e s m args below meth c hx hb hr hml hown hts hlocks hnm hP hK ls hl
  have hl : lv_has ls 2 [(0, .ref qn), (1, .int (nI o))] := hl
  refine lv_iload_n hx hb dL_plain_0 rfl (lv_at hl 1 rfl) ?_
  refine lv_iconst (v := nI 5) hx hb dL_plain_1 (by decide) ?_
  refine en_icmp_ge (tgt := 9) hx hb (by omega) (by omega) dL_plain_2 (by decide) (fun c_1 => ?_) (fun c_1 => ?_)
  ·
    refine lv_aload_n hx hb dL_plain_9 rfl (lv_at hl 0 rfl) ?_
    refine lv_bipush (v := nI 30) hx hb dL_plain_10 (by decide) ?_
    refine lv_iload_n hx hb dL_plain_12 rfl (lv_at hl 1 rfl) ?_
    refine en_iadd hx hb (30 + o) rfl dL_plain_13 ?_
    have ht_2 := eg_ttlt hI (p := o) (by omega) (by omega)
    refine el_ald (f := f) hx hb hK hP (30 + o) (by first | omega | (unfold eg_at; omega)) dL_plain_14 ?_
    refine en_eq (show f (30 + o) = nI (tt o) from eg_f30 hI (p := o) (by omega) (by omega)) ?_
    refine lv_iconst (v := nI 5) hx hb dL_plain_15 (by decide) ?_
    refine en_icmp_ge (tgt := 28) hx hb (by omega) (by omega) dL_plain_16 (by decide) (fun c_3 => ?_) (fun c_3 => ?_)
    ·
      refine lv_aload_n hx hb dL_plain_28 rfl (lv_at hl 0 rfl) ?_
      refine lv_bipush (v := nI 30) hx hb dL_plain_29 (by decide) ?_
      refine lv_aload_n hx hb dL_plain_31 rfl (lv_at hl 0 rfl) ?_
      refine lv_bipush (v := nI 30) hx hb dL_plain_32 (by decide) ?_
      refine lv_iload_n hx hb dL_plain_34 rfl (lv_at hl 1 rfl) ?_
      refine en_iadd hx hb (30 + o) rfl dL_plain_35 ?_
      have ht_4 := eg_ttlt hI (p := o) (by omega) (by omega)
      refine el_ald (f := f) hx hb hK hP (30 + o) (by first | omega | (unfold eg_at; omega)) dL_plain_36 ?_
      refine en_eq (show f (30 + o) = nI (tt o) from eg_f30 hI (p := o) (by omega) (by omega)) ?_
      refine en_iadd hx hb (30 + (tt o)) rfl dL_plain_37 ?_
      have ht_5 := eg_ttlt hI (p := (tt o)) (by omega) (by omega)
      refine el_ald (f := f) hx hb hK hP (30 + (tt o)) (by first | omega | (unfold eg_at; omega)) dL_plain_38 ?_
      refine en_eq (show f (30 + (tt o)) = nI (tt (tt o)) from eg_f30 hI (p := (tt o)) (by omega) (by omega)) ?_
      exact er_int hx hb hr hlocks (congrArg nI (by unfold eg_pl; first | (rw [if_pos (by omega)]; done) | (rw [if_neg (by omega), if_pos (by omega)]; done) | (rw [if_neg (by omega), if_neg (by omega)]; done))) dL_plain_39
    ·
      refine lv_aload_n hx hb dL_plain_19 rfl (lv_at hl 0 rfl) ?_
      refine lv_bipush (v := nI 30) hx hb dL_plain_20 (by decide) ?_
      refine lv_iload_n hx hb dL_plain_22 rfl (lv_at hl 1 rfl) ?_
      refine en_iadd hx hb (30 + o) rfl dL_plain_23 ?_
      have ht_6 := eg_ttlt hI (p := o) (by omega) (by omega)
      refine el_ald (f := f) hx hb hK hP (30 + o) (by first | omega | (unfold eg_at; omega)) dL_plain_24 ?_
      refine en_eq (show f (30 + o) = nI (tt o) from eg_f30 hI (p := o) (by omega) (by omega)) ?_
      refine lv_goto (tgt := 39) hx hb dL_plain_25 (by decide) ?_
      exact er_int hx hb hr hlocks (congrArg nI (by unfold eg_pl; first | (rw [if_pos (by omega)]; done) | (rw [if_neg (by omega), if_pos (by omega)]; done) | (rw [if_neg (by omega), if_neg (by omega)]; done))) dL_plain_39
  ·
    refine lv_iload_n hx hb dL_plain_5 rfl (lv_at hl 1 rfl) ?_
    refine lv_goto (tgt := 39) hx hb dL_plain_6 (by decide) ?_
    exact er_int hx hb hr hlocks (congrArg nI (by unfold eg_pl; first | (rw [if_pos (by omega)]; done) | (rw [if_neg (by omega), if_pos (by omega)]; done) | (rw [if_neg (by omega), if_neg (by omega)]; done))) dL_plain_39
set_option maxHeartbeats 4000000 in
set_option maxRecDepth 100000 in
theorem c_L_found (l : Launch) {D : va_G} {cI cO : ClassId} {qn : Nat} {tt : Nat → Nat} {cc : Nat → Option Nat} {st : ev_ST} {f : Nat → Int32} {od : Nat → Nat → Nat} {n : Nat} (hI : eg_I tt cc st f od n) {o k : Nat} (ho : o < 5) (hk : k < 20) : Met l yL_found wsL_found ({ frames := 1, cells := 0, slots := 0, locals := 21 }) (ev_Pc D cI cO (ev_N D cI qn f) [.ref qn, .int (nI o), .int (nI k)]) (ev_QV (some (.int (eg_on (eg_fd st k 5 (some o)))))) 0 0 ev_no := by
  refine ev_body (cc := cL_found) (maxL := 4) (ret := (some .int)) (by decide) rfl (Nat.le_of_ble_eq_true rfl) ?_
  intro p e s m args below meth c hx hb hr hml hown hts hlocks hnm hP hK ls hl
  have hl : lv_has ls 4 [(0, .ref qn), (1, .int (nI o)), (2, .int (nI k))] := hl
  have LP : ∀ (q : Nat) (o9 : Option Nat), q ≤ 5 → (∀ z, o9 = some z → z < q) → ∀ ls : Array Slot, lv_has ls 4 [(3, .int (eg_on o9)), (0, .ref qn), (2, .int (nI k))] → W p l e ({ frames := 1, cells := 0, slots := 0, locals := 21 }) s m args below meth c s.heap [] 0 0 (MQ below (ev_QV (some (.int (eg_on (eg_fd st k q o9))))) args s 0 0 ev_no) (F0 m 2 ls []) := by
    intro q
    induction q with
    | zero =>
      intro o9 hq ho9 ls hl
      cases o9 with
      | some z => exact absurd (ho9 z rfl) (Nat.not_lt_zero z)
      | none =>
        have hl : lv_has ls 4 [(3, .int (-1)), (0, .ref qn), (2, .int (nI k))] := hl
        refine lv_iload_n hx hb dL_found_2 rfl (lv_at hl 0 rfl) ?_
        refine lv_if_lt (tgt := 26) hx hb dL_found_3 (by decide) (fun _ => ?_) (fun h => absurd h (by decide))
        refine lv_iload_n hx hb dL_found_26 rfl (lv_at hl 0 rfl) ?_
        exact er_int hx hb hr hlocks rfl dL_found_27
    | succ q ih =>
      intro o9 hq ho9 ls hl
      cases o9 with
      | none =>
        have hl : lv_has ls 4 [(3, .int (-1)), (0, .ref qn), (2, .int (nI k))] := hl
        refine lv_iload_n hx hb dL_found_2 rfl (lv_at hl 0 rfl) ?_
        refine lv_if_lt (tgt := 26) hx hb dL_found_3 (by decide) (fun _ => ?_) (fun h => absurd h (by decide))
        refine lv_iload_n hx hb dL_found_26 rfl (lv_at hl 0 rfl) ?_
        exact er_int hx hb hr hlocks rfl dL_found_27
      | some z =>
        have hz := ho9 z rfl
        have hl : lv_has ls 4 [(3, .int (nI z)), (0, .ref qn), (2, .int (nI k))] := hl
        refine lv_iload_n hx hb dL_found_2 rfl (lv_at hl 0 rfl) ?_
        refine en_if_lt (tgt := 26) hx hb (by omega) dL_found_3 (by decide) ?_
        refine lv_aload_n hx hb dL_found_6 rfl (lv_at hl 1 rfl) ?_
        refine lv_iload_n hx hb dL_found_7 rfl (lv_at hl 0 rfl) ?_
        refine lv_iload_n hx hb dL_found_8 rfl (lv_at hl 2 rfl) ?_
        refine ev_cst (As := [.int (nI z), .int (nI k)]) (rest := [.ref qn]) ⟨hx, hb, hml, hown, hts⟩ (c_L_at l (i := z) (k := k)) (va_cwS 2 hts gL_found_L_at rfl rfl rfl (by decide +kernel) ⟨Nat.le_of_ble_eq_true rfl, Nat.le_of_ble_eq_true rfl⟩) hP hK rfl hl.1 (Nat.le_of_ble_eq_true rfl) dL_found_9 ⟨Nat.le_of_ble_eq_true rfl, Nat.le_of_ble_eq_true rfl⟩ ?_
        refine el_ald (f := f) hx hb hK hP ((eg_at z k)) (by first | omega | (unfold eg_at; omega)) dL_found_12 ?_
        refine en_eq (show f ((eg_at z k)) = ev_bi (ev_holds (st.2 z) k) from eg_fh hI (i := z) (k := k) (by omega) (by omega)) ?_
        refine eb_if_ne (tgt := 26) hx hb dL_found_13 (by decide) (fun c_4 => ?_) (fun c_4 => ?_)
        ·
          refine lv_iload_n hx hb dL_found_26 rfl (lv_at hl 0 rfl) ?_
          exact er_int hx hb hr hlocks (by rw [show eg_fd st k (q + 1) (some z) = some z from if_pos c_4]; rfl) dL_found_27
        ·
          refine lv_aload_n hx hb dL_found_16 rfl (lv_at hl 1 rfl) ?_
          refine lv_bipush (v := nI 10) hx hb dL_found_17 (by decide) ?_
          refine lv_iload_n hx hb dL_found_19 rfl (lv_at hl 0 rfl) ?_
          refine en_iadd hx hb (10 + z) rfl dL_found_20 ?_
          refine el_ald (f := f) hx hb hK hP (10 + z) (by first | omega | (unfold eg_at; omega)) dL_found_21 ?_
          refine en_eq (show f (10 + z) = (eg_on (ev_ch (st.2 z))) from eg_f10 hI (i := z) (by omega)) ?_
          refine lv_istore_n (lv' := [(3, .int (eg_on (ev_ch (st.2 z)))), (0, .ref qn), (2, .int (nI k))]) hx hb dL_found_22 rfl hl (by decide) rfl (fun ls hl => ?_)
          refine lv_goto (tgt := 2) hx hb dL_found_23 (by decide) ?_
          rw [show eg_fd st k (q + 1) (some z) = eg_fd st k q (ev_ch (st.2 z)) from if_neg (by rw [c_4]; exact Bool.false_ne_true)]
          exact ih (ev_ch (st.2 z)) (by omega) (fun y hy => by have := eg_cclt hI (i := z) (by omega) hy; omega) ls (lv_sub hl [0, 1, 2] rfl)
  refine lv_iload_n hx hb dL_found_0 rfl (lv_at hl 1 rfl) ?_
  refine lv_istore_n (lv' := [(3, .int (nI o)), (0, .ref qn), (1, .int (nI o)), (2, .int (nI k))]) hx hb dL_found_1 rfl hl (by decide) rfl (fun ls hl => ?_)
  exact LP 5 (some o) (Nat.le_refl _) (fun z hz => by cases hz; exact ho) ls (lv_sub hl [0, 1, 3] rfl)
set_option maxHeartbeats 4000000 in
set_option maxRecDepth 100000 in
theorem c_L_isKept (l : Launch) {D : va_G} {cI cO : ClassId} {qn : Nat} {tt : Nat → Nat} {cc : Nat → Option Nat} {st : ev_ST} {f : Nat → Int32} {od : Nat → Nat → Nat} {n : Nat} (hI : eg_I tt cc st f od n) {i k : Nat} (hi : i < 5) (hk : k < 20) : Met l yL_isKept wsL_isKept ({ frames := 1, cells := 0, slots := 0, locals := 21 }) (ev_Pc D cI cO (ev_N D cI qn f) [.ref qn, .int (nI i), .int (nI k)]) (ev_QV (some (.int (ev_bi (ev_kKey (st.2 i) k))))) 0 0 ev_no := by
  refine ev_body (cc := cL_isKept) (maxL := 3) (ret := (some .boolean)) (by decide) rfl (Nat.le_of_ble_eq_true rfl) ?_
  intro p e s m args below meth c hx hb hr hml hown hts hlocks hnm hP hK ls hl
  have hl : lv_has ls 3 [(0, .ref qn), (1, .int (nI i)), (2, .int (nI k))] := hl
  refine lv_aload_n hx hb dL_isKept_0 rfl (lv_at hl 0 rfl) ?_
  refine lv_iload_n hx hb dL_isKept_1 rfl (lv_at hl 1 rfl) ?_
  refine lv_iload_n hx hb dL_isKept_2 rfl (lv_at hl 2 rfl) ?_
  refine ev_cst (As := [.int (nI i), .int (nI k)]) (rest := [.ref qn]) ⟨hx, hb, hml, hown, hts⟩ (c_L_at l (i := i) (k := k)) (va_cwS 2 hts gL_isKept_L_at rfl rfl rfl (by decide +kernel) ⟨Nat.le_of_ble_eq_true rfl, Nat.le_of_ble_eq_true rfl⟩) hP hK rfl hl.1 (Nat.le_of_ble_eq_true rfl) dL_isKept_3 ⟨Nat.le_of_ble_eq_true rfl, Nat.le_of_ble_eq_true rfl⟩ ?_
  refine el_ald (f := f) hx hb hK hP ((eg_at i k)) (by first | omega | (unfold eg_at; omega)) dL_isKept_6 ?_
  refine en_eq (show f ((eg_at i k)) = ev_bi (ev_holds (st.2 i) k) from eg_fh hI (i := i) (k := k) (by omega) (by omega)) ?_
  refine lv_iconst (v := nI 1) hx hb dL_isKept_7 (by decide) ?_
  refine eb_icmp_ne1 (tgt := 35) hx hb dL_isKept_8 (by decide) (fun c_1 => ?_) (fun c_1 => ?_)
  ·
    refine lv_iconst (v := nI 0) hx hb dL_isKept_35 (by decide) ?_
    exact er_bool hx hb hr hlocks (by rw [show ev_kKey (st.2 i) k = false from by simp [ev_kKey, c_1]]; rfl) dL_isKept_36
  ·
    refine lv_aload_n hx hb dL_isKept_11 rfl (lv_at hl 0 rfl) ?_
    refine lv_iload_n hx hb dL_isKept_12 rfl (lv_at hl 1 rfl) ?_
    refine lv_iload_n hx hb dL_isKept_13 rfl (lv_at hl 2 rfl) ?_
    refine ev_cst (As := [.int (nI i), .int (nI k)]) (rest := [.ref qn]) ⟨hx, hb, hml, hown, hts⟩ (c_L_at l (i := i) (k := k)) (va_cwS 2 hts gL_isKept_L_at rfl rfl rfl (by decide +kernel) ⟨Nat.le_of_ble_eq_true rfl, Nat.le_of_ble_eq_true rfl⟩) hP hK rfl hl.1 (Nat.le_of_ble_eq_true rfl) dL_isKept_14 ⟨Nat.le_of_ble_eq_true rfl, Nat.le_of_ble_eq_true rfl⟩ ?_
    refine lv_iconst (v := nI 2) hx hb dL_isKept_17 (by decide) ?_
    refine en_iadd hx hb ((eg_at i k) + 2) rfl dL_isKept_18 ?_
    have hr_2 := (eg_rE hI (i := i) (k := k) (by omega) (by omega) c_1).2
    refine el_ald (f := f) hx hb hK hP ((eg_at i k) + 2) (by first | omega | (unfold eg_at; omega)) dL_isKept_19 ?_
    refine en_eq (show f ((eg_at i k) + 2) = nI (eg_r (st.2 i) k) from eg_fr hI (i := i) (k := k) (by omega) (by omega) c_1) ?_
    refine lv_iconst (v := nI 4) hx hb dL_isKept_20 (by decide) ?_
    refine en_icmp_lt (tgt := 31) hx hb (by omega) (by omega) dL_isKept_21 (by decide) (fun c_3 => ?_) (fun c_3 => ?_)
    ·
      refine lv_iconst (v := nI 1) hx hb dL_isKept_31 (by decide) ?_
      refine lv_goto (tgt := 36) hx hb dL_isKept_32 (by decide) ?_
      exact er_bool hx hb hr hlocks (by rw [eg_kK hI hi hk c_1, decide_eq_true (by omega), Bool.or_true]; rfl) dL_isKept_36
    ·
      refine lv_aload_n hx hb dL_isKept_24 rfl (lv_at hl 0 rfl) ?_
      refine lv_iload_n hx hb dL_isKept_25 rfl (lv_at hl 1 rfl) ?_
      refine el_ald (f := f) hx hb hK hP (i) (by first | omega | (unfold eg_at; omega)) dL_isKept_26 ?_
      refine en_eq (show f (i) = ev_bi (ev_cs (st.2 i)) from eg_fcs hI (i := i) (by omega)) ?_
      refine lv_iconst (v := nI 1) hx hb dL_isKept_27 (by decide) ?_
      refine eb_icmp_ne1 (tgt := 35) hx hb dL_isKept_28 (by decide) (fun c_4 => ?_) (fun c_4 => ?_)
      ·
        refine lv_iconst (v := nI 0) hx hb dL_isKept_35 (by decide) ?_
        exact er_bool hx hb hr hlocks (by rw [eg_kK hI hi hk c_1, c_4, decide_eq_false (by omega)]; rfl) dL_isKept_36
      ·
        refine lv_iconst (v := nI 1) hx hb dL_isKept_31 (by decide) ?_
        refine lv_goto (tgt := 36) hx hb dL_isKept_32 (by decide) ?_
        exact er_bool hx hb hr hlocks (by rw [eg_kK hI hi hk c_1, c_4]; rfl) dL_isKept_36
set_option maxHeartbeats 4000000 in
set_option maxRecDepth 100000 in
theorem c_L_got_0 (l : Launch) {D : va_G} {cI cO : ClassId} {qn : Nat} {tt : Nat → Nat} {cc : Nat → Option Nat} {st : ev_ST} {f : Nat → Int32} {od : Nat → Nat → Nat} {n : Nat} (hI : eg_I tt cc st f od n) {o k : Nat} (ho : o < 5) (hk : k < 20) : Met l yL_got wsL_got ({ frames := 2, cells := 0, slots := 0, locals := 44 }) (ev_Pc D cI cO (ev_N D cI qn f) [.ref qn, .int (nI o), .int (nI k)]) (ev_QV (some (.int (eg_go st k o)))) 0 0 ev_no := by
  refine ev_body (cc := cL_got) (maxL := 5) (ret := (some .int)) (by decide) rfl (Nat.le_of_ble_eq_true rfl) ?_
  intro p e s m args below meth c hx hb hr hml hown hts hlocks hnm hP hK ls hl
  have hl : lv_has ls 5 [(0, .ref qn), (1, .int (nI o)), (2, .int (nI k))] := hl
  refine lv_iload_n hx hb dL_got_0 rfl (lv_at hl 1 rfl) ?_
  refine lv_iconst (v := nI 4) hx hb dL_got_1 (by decide) ?_
  refine en_icmp_le (tgt := 88) hx hb (by omega) (by omega) dL_got_2 (by decide) (fun c_1 => ?_) (fun c_1 => by exfalso; omega)
  refine lv_aload_n hx hb dL_got_88 rfl (lv_at hl 0 rfl) ?_
  refine lv_iload_n hx hb dL_got_89 rfl (lv_at hl 1 rfl) ?_
  refine lv_iload_n hx hb dL_got_90 rfl (lv_at hl 2 rfl) ?_
  refine ev_cst (As := [.ref qn, .int (nI o), .int (nI k)]) (rest := []) ⟨hx, hb, hml, hown, hts⟩ (c_L_found l hI (o := o) (k := k) (by omega) (by omega)) (va_cwS 3 hts gL_got_L_found rfl rfl rfl (by decide +kernel) ⟨Nat.le_of_ble_eq_true rfl, Nat.le_of_ble_eq_true rfl⟩) hP hK rfl hl.1 (Nat.le_of_ble_eq_true rfl) dL_got_91 ⟨Nat.le_of_ble_eq_true rfl, Nat.le_of_ble_eq_true rfl⟩ ?_
  cases hfd : eg_fd st k 5 (some o) with
  | none =>
    refine en_eq (show eg_on none = -1 from rfl) ?_
    refine lv_istore_n (lv' := [(3, .int (-1)), (0, .ref qn), (1, .int (nI o)), (2, .int (nI k))]) hx hb dL_got_94 rfl hl (by decide) rfl (fun ls hl => ?_)
    refine lv_iload_n hx hb dL_got_95 rfl (lv_at hl 0 rfl) ?_
    refine lv_if_ge (tgt := 103) hx hb dL_got_96 (by decide) (fun h => absurd h (by decide)) (fun _ => ?_)
    refine lv_iconst (v := nI 0) hx hb dL_got_99 (by decide) ?_
    refine lv_goto (tgt := 112) hx hb dL_got_100 (by decide) ?_
    exact er_int hx hb hr hlocks (by rw [eg_go_plain hI ho, hfd] <;> rfl) dL_got_112
  | some y =>
    obtain ⟨hy, hhy⟩ := eg_fd_some hI 5 (some o) (fun z hz => by cases hz; omega) y hfd
    refine en_eq (show eg_on (some y) = nI y from rfl) ?_
    refine lv_istore_n (lv' := [(3, .int (nI y)), (0, .ref qn), (1, .int (nI o)), (2, .int (nI k))]) hx hb dL_got_94 rfl hl (by decide) rfl (fun ls hl => ?_)
    refine lv_iload_n hx hb dL_got_95 rfl (lv_at hl 0 rfl) ?_
    refine en_if_ge (tgt := 103) hx hb (by omega) dL_got_96 (by decide) ?_
    refine lv_aload_n hx hb dL_got_103 rfl (lv_at hl 1 rfl) ?_
    refine lv_iload_n hx hb dL_got_104 rfl (lv_at hl 0 rfl) ?_
    refine lv_iload_n hx hb dL_got_105 rfl (lv_at hl 3 rfl) ?_
    refine ev_cst (As := [.int (nI y), .int (nI k)]) (rest := [.ref qn]) ⟨hx, hb, hml, hown, hts⟩ (c_L_at l (i := y) (k := k)) (va_cwS 2 hts gL_got_L_at rfl rfl rfl (by decide +kernel) ⟨Nat.le_of_ble_eq_true rfl, Nat.le_of_ble_eq_true rfl⟩) hP hK rfl hl.1 (Nat.le_of_ble_eq_true rfl) dL_got_106 ⟨Nat.le_of_ble_eq_true rfl, Nat.le_of_ble_eq_true rfl⟩ ?_
    refine lv_iconst (v := nI 1) hx hb dL_got_109 (by decide) ?_
    refine en_iadd hx hb ((eg_at y k) + 1) rfl dL_got_110 ?_
    refine el_ald (f := f) hx hb hK hP ((eg_at y k) + 1) (by first | omega | (unfold eg_at; omega)) dL_got_111 ?_
    refine en_eq (show f ((eg_at y k) + 1) = (ev_va (st.2 y) k) from eg_fv hI (i := y) (k := k) (by omega) (by omega) hhy) ?_
    exact er_int hx hb hr hlocks (by rw [eg_go_plain hI ho, hfd] <;> rfl) dL_got_112
set_option maxHeartbeats 4000000 in
set_option maxRecDepth 100000 in
theorem c_L_got_1 (l : Launch) {D : va_G} {cI cO : ClassId} {qn : Nat} {tt : Nat → Nat} {cc : Nat → Option Nat} {st : ev_ST} {f : Nat → Int32} {od : Nat → Nat → Nat} {n : Nat} (hI : eg_I tt cc st f od n) {o k : Nat} (ho5 : 5 ≤ o) (ho : o < 7) (htt : tt o < 5) (hk : k < 20) : Met l yL_got wsL_got ({ frames := 3, cells := 0, slots := 0, locals := 68 }) (ev_Pc D cI cO (ev_N D cI qn f) [.ref qn, .int (nI o), .int (nI k)]) (ev_QV (some (.int (eg_go st k o)))) 0 0 ev_no := by
  refine ev_body (cc := cL_got) (maxL := 5) (ret := (some .int)) (by decide) rfl (Nat.le_of_ble_eq_true rfl) ?_
  intro p e s m args below meth c hx hb hr hml hown hts hlocks hnm hP hK ls hl
  have hl : lv_has ls 5 [(0, .ref qn), (1, .int (nI o)), (2, .int (nI k))] := hl
  refine lv_iload_n hx hb dL_got_0 rfl (lv_at hl 1 rfl) ?_
  refine lv_iconst (v := nI 4) hx hb dL_got_1 (by decide) ?_
  refine en_icmp_le (tgt := 88) hx hb (by omega) (by omega) dL_got_2 (by decide) (fun c_1 => by exfalso; omega) (fun c_1 => ?_)
  refine lv_aload_n hx hb dL_got_5 rfl (lv_at hl 0 rfl) ?_
  refine lv_iload_n hx hb dL_got_6 rfl (lv_at hl 1 rfl) ?_
  have hp_2 : eg_pl tt o < 5 := eg_pl_lt hI (by omega)
  refine ev_cst (As := [.ref qn, .int (nI o)]) (rest := []) ⟨hx, hb, hml, hown, hts⟩ (c_L_plain l hI (o := o) (by omega)) (va_cwS 2 hts gL_got_L_plain rfl rfl rfl (by decide +kernel) ⟨Nat.le_of_ble_eq_true rfl, Nat.le_of_ble_eq_true rfl⟩) hP hK rfl hl.1 (Nat.le_of_ble_eq_true rfl) dL_got_7 ⟨Nat.le_of_ble_eq_true rfl, Nat.le_of_ble_eq_true rfl⟩ ?_
  refine lv_iload_n hx hb dL_got_10 rfl (lv_at hl 2 rfl) ?_
  refine ev_cst (As := [.int (nI (eg_pl tt o)), .int (nI k)]) (rest := []) ⟨hx, hb, hml, hown, hts⟩ (c_L_at l (i := (eg_pl tt o)) (k := k)) (va_cwS 2 hts gL_got_L_at rfl rfl rfl (by decide +kernel) ⟨Nat.le_of_ble_eq_true rfl, Nat.le_of_ble_eq_true rfl⟩) hP hK rfl hl.1 (Nat.le_of_ble_eq_true rfl) dL_got_11 ⟨Nat.le_of_ble_eq_true rfl, Nat.le_of_ble_eq_true rfl⟩ ?_
  refine lv_istore_n (lv' := [(3, .int (nI (eg_at (eg_pl tt o) k))), (0, .ref qn), (1, .int (nI o)), (2, .int (nI k))]) hx hb dL_got_14 rfl hl (by decide) rfl (fun ls hl => ?_)
  refine lv_aload_n hx hb dL_got_15 rfl (lv_at hl 1 rfl) ?_
  refine lv_bipush (v := nI 40) hx hb dL_got_16 (by decide) ?_
  refine lv_iconst (v := nI 4) hx hb dL_got_18 (by decide) ?_
  refine lv_iload_n hx hb dL_got_19 rfl (lv_at hl 2 rfl) ?_
  refine lv_iconst (v := nI 5) hx hb dL_got_20 (by decide) ?_
  refine en_isub hx hb (o - 5) (by omega) dL_got_21 ?_
  refine en_imul hx hb (4 * (o - 5)) rfl dL_got_22 ?_
  refine en_iadd hx hb (40 + (4 * (o - 5))) rfl dL_got_23 ?_
  refine el_ald (f := f) hx hb hK hP (40 + (4 * (o - 5))) (by first | omega | (unfold eg_at; omega)) dL_got_24 ?_
  refine lv_istore (lv' := [(4, .int (f (40 + (4 * (o - 5))))), (3, .int (nI (eg_at (eg_pl tt o) k))), (0, .ref qn), (1, .int (nI o)), (2, .int (nI k))]) hx hb dL_got_25 hl (by decide) rfl (fun ls hl => ?_)
  refine lv_aload_n hx hb dL_got_27 rfl (lv_at hl 2 rfl) ?_
  refine lv_bipush (v := nI 60) hx hb dL_got_28 (by decide) ?_
  refine lv_iconst (v := nI 4) hx hb dL_got_30 (by decide) ?_
  refine lv_iload_n hx hb dL_got_31 rfl (lv_at hl 3 rfl) ?_
  refine lv_iconst (v := nI 5) hx hb dL_got_32 (by decide) ?_
  refine en_isub hx hb (o - 5) (by omega) dL_got_33 ?_
  refine en_imul hx hb (4 * (o - 5)) rfl dL_got_34 ?_
  refine en_iadd hx hb (60 + (4 * (o - 5))) rfl dL_got_35 ?_
  refine el_ald (f := f) hx hb hK hP (60 + (4 * (o - 5))) (by first | omega | (unfold eg_at; omega)) dL_got_36 ?_
  refine en_eq (show f (60 + (4 * (o - 5))) = ev_bi (ev_told (st.2 o) 0) from eg_f60 hI (w := 0) (by omega) (by omega) (by decide)) ?_
  refine lv_iconst (v := nI 1) hx hb dL_got_37 (by decide) ?_
  refine eb_icmp_ne1 (tgt := 76) hx hb dL_got_38 (by decide) (fun c_3 => ?_) (fun c_3 => ?_)
  ·
    refine lv_aload_n hx hb dL_got_76 rfl (lv_at hl 2 rfl) ?_
    refine lv_aload_n hx hb dL_got_77 rfl (lv_at hl 2 rfl) ?_
    refine lv_bipush (v := nI 30) hx hb dL_got_78 (by decide) ?_
    refine lv_iload_n hx hb dL_got_80 rfl (lv_at hl 3 rfl) ?_
    refine en_iadd hx hb (30 + o) rfl dL_got_81 ?_
    have ht_4 := eg_ttlt hI (p := o) (by omega) (by omega)
    refine el_ald (f := f) hx hb hK hP (30 + o) (by first | omega | (unfold eg_at; omega)) dL_got_82 ?_
    refine en_eq (show f (30 + o) = nI (tt o) from eg_f30 hI (p := o) (by omega) (by omega)) ?_
    refine lv_iload_n hx hb dL_got_83 rfl (lv_at hl 4 rfl) ?_
    refine ev_cst (As := [.ref qn, .int (nI (tt o)), .int (nI k)]) (rest := []) ⟨hx, hb, hml, hown, hts⟩ (c_L_got_0 l hI (o := (tt o)) (k := k) (by omega) hk) (va_cwS 3 hts gL_got_L_got rfl rfl rfl (by decide +kernel) ⟨Nat.le_of_ble_eq_true rfl, Nat.le_of_ble_eq_true rfl⟩) hP hK rfl hl.1 (Nat.le_of_ble_eq_true rfl) dL_got_84 ⟨Nat.le_of_ble_eq_true rfl, Nat.le_of_ble_eq_true rfl⟩ ?_
    exact er_int hx hb hr hlocks (eg_go_pass hI (by omega) (by omega) c_3).symm dL_got_87
  ·
    rw [show f (40 + (4 * (o - 5))) = ev_an (st.2 o) 0 from eg_f40 hI (w := 0) (by omega) (by omega) (by decide) c_3] at hl
    have hl : lv_has ls 5 [(4, .int (ev_an (st.2 o) 0)), (3, .int (nI (eg_at (eg_pl tt o) k))), (0, .ref qn), (1, .int (nI o)), (2, .int (nI k))] := hl
    refine lv_aload_n hx hb dL_got_41 rfl (lv_at hl 2 rfl) ?_
    refine lv_iload_n hx hb dL_got_42 rfl (lv_at hl 1 rfl) ?_
    refine el_ald (f := f) hx hb hK hP ((eg_at (eg_pl tt o) k)) (by first | omega | (unfold eg_at; omega)) dL_got_43 ?_
    refine en_eq (show f ((eg_at (eg_pl tt o) k)) = ev_bi (ev_holds (st.2 (eg_pl tt o)) k) from eg_fh hI (i := (eg_pl tt o)) (k := k) (by omega) (by omega)) ?_
    refine lv_iconst (v := nI 1) hx hb dL_got_44 (by decide) ?_
    refine eb_icmp_ne1 (tgt := 73) hx hb dL_got_45 (by decide) (fun c_5 => ?_) (fun c_5 => ?_)
    ·
      refine lv_iload hx hb dL_got_73 (lv_at hl 0 rfl) ?_
      exact er_int hx hb hr hlocks (by rw [eg_go_told hI (by omega) (by omega) hk c_3]; simp [c_3, c_5]) dL_got_75
    ·
      refine lv_aload_n hx hb dL_got_48 rfl (lv_at hl 2 rfl) ?_
      refine lv_iload_n hx hb dL_got_49 rfl (lv_at hl 1 rfl) ?_
      refine lv_iconst (v := nI 2) hx hb dL_got_50 (by decide) ?_
      refine en_iadd hx hb ((eg_at (eg_pl tt o) k) + 2) rfl dL_got_51 ?_
      have hr_6 := (eg_rE hI (i := (eg_pl tt o)) (k := k) (by omega) (by omega) c_5).2
      refine el_ald (f := f) hx hb hK hP ((eg_at (eg_pl tt o) k) + 2) (by first | omega | (unfold eg_at; omega)) dL_got_52 ?_
      refine en_eq (show f ((eg_at (eg_pl tt o) k) + 2) = nI (eg_r (st.2 (eg_pl tt o)) k) from eg_fr hI (i := (eg_pl tt o)) (k := k) (by omega) (by omega) c_5) ?_
      refine lv_iconst (v := nI 5) hx hb dL_got_53 (by decide) ?_
      refine lv_iand hx hb dL_got_54 ?_
      refine lv_if_ne (tgt := 73) hx hb dL_got_55 (by decide) (fun c_7 => ?_) (fun c_7 => ?_)
      ·
        refine lv_iload hx hb dL_got_73 (lv_at hl 0 rfl) ?_
        exact er_int hx hb hr hlocks (by rw [eg_go_told hI (by omega) (by omega) hk c_3]; simp [c_3, c_5, c_7]) dL_got_75
      ·
        refine lv_aload_n hx hb dL_got_58 rfl (lv_at hl 2 rfl) ?_
        refine lv_iload_n hx hb dL_got_59 rfl (lv_at hl 1 rfl) ?_
        refine lv_iconst (v := nI 1) hx hb dL_got_60 (by decide) ?_
        refine en_iadd hx hb ((eg_at (eg_pl tt o) k) + 1) rfl dL_got_61 ?_
        refine el_ald (f := f) hx hb hK hP ((eg_at (eg_pl tt o) k) + 1) (by first | omega | (unfold eg_at; omega)) dL_got_62 ?_
        refine en_eq (show f ((eg_at (eg_pl tt o) k) + 1) = (ev_va (st.2 (eg_pl tt o)) k) from eg_fv hI (i := (eg_pl tt o)) (k := k) (by omega) (by omega) c_5) ?_
        refine lv_iload hx hb dL_got_63 (lv_at hl 0 rfl) ?_
        refine lv_icmp_eq (tgt := 73) hx hb dL_got_65 (by decide) (fun c_8 => ?_) (fun c_8 => ?_)
        ·
          refine lv_iload hx hb dL_got_73 (lv_at hl 0 rfl) ?_
          exact er_int hx hb hr hlocks (by rw [eg_go_told hI (by omega) (by omega) hk c_3]; simp [c_3, c_5, c_7, c_8]) dL_got_75
        ·
          refine lv_ldc (v := (-900002)) hx hb hown (hts (.constant RL 20 (-900002)) (by decide +kernel)) dL_got_68 ?_
          refine lv_goto (tgt := 75) hx hb dL_got_70 (by decide) ?_
          exact er_int hx hb hr hlocks (by rw [eg_go_told hI (by omega) (by omega) hk c_3]; simp [c_3, c_5, c_7, c_8]) dL_got_75
set_option maxHeartbeats 4000000 in
set_option maxRecDepth 100000 in
theorem c_L_got_2 (l : Launch) {D : va_G} {cI cO : ClassId} {qn : Nat} {tt : Nat → Nat} {cc : Nat → Option Nat} {st : ev_ST} {f : Nat → Int32} {od : Nat → Nat → Nat} {n : Nat} (hI : eg_I tt cc st f od n) {o k : Nat} (ho5 : 5 ≤ o) (ho : o < 7) (htt : tt o = 5) (hk : k < 20) : Met l yL_got wsL_got ({ frames := 4, cells := 0, slots := 0, locals := 92 }) (ev_Pc D cI cO (ev_N D cI qn f) [.ref qn, .int (nI o), .int (nI k)]) (ev_QV (some (.int (eg_go st k o)))) 0 0 ev_no := by
  refine ev_body (cc := cL_got) (maxL := 5) (ret := (some .int)) (by decide) rfl (Nat.le_of_ble_eq_true rfl) ?_
  intro p e s m args below meth c hx hb hr hml hown hts hlocks hnm hP hK ls hl
  have hl : lv_has ls 5 [(0, .ref qn), (1, .int (nI o)), (2, .int (nI k))] := hl
  refine lv_iload_n hx hb dL_got_0 rfl (lv_at hl 1 rfl) ?_
  refine lv_iconst (v := nI 4) hx hb dL_got_1 (by decide) ?_
  refine en_icmp_le (tgt := 88) hx hb (by omega) (by omega) dL_got_2 (by decide) (fun c_1 => by exfalso; omega) (fun c_1 => ?_)
  refine lv_aload_n hx hb dL_got_5 rfl (lv_at hl 0 rfl) ?_
  refine lv_iload_n hx hb dL_got_6 rfl (lv_at hl 1 rfl) ?_
  have hp_2 : eg_pl tt o < 5 := eg_pl_lt hI (by omega)
  refine ev_cst (As := [.ref qn, .int (nI o)]) (rest := []) ⟨hx, hb, hml, hown, hts⟩ (c_L_plain l hI (o := o) (by omega)) (va_cwS 2 hts gL_got_L_plain rfl rfl rfl (by decide +kernel) ⟨Nat.le_of_ble_eq_true rfl, Nat.le_of_ble_eq_true rfl⟩) hP hK rfl hl.1 (Nat.le_of_ble_eq_true rfl) dL_got_7 ⟨Nat.le_of_ble_eq_true rfl, Nat.le_of_ble_eq_true rfl⟩ ?_
  refine lv_iload_n hx hb dL_got_10 rfl (lv_at hl 2 rfl) ?_
  refine ev_cst (As := [.int (nI (eg_pl tt o)), .int (nI k)]) (rest := []) ⟨hx, hb, hml, hown, hts⟩ (c_L_at l (i := (eg_pl tt o)) (k := k)) (va_cwS 2 hts gL_got_L_at rfl rfl rfl (by decide +kernel) ⟨Nat.le_of_ble_eq_true rfl, Nat.le_of_ble_eq_true rfl⟩) hP hK rfl hl.1 (Nat.le_of_ble_eq_true rfl) dL_got_11 ⟨Nat.le_of_ble_eq_true rfl, Nat.le_of_ble_eq_true rfl⟩ ?_
  refine lv_istore_n (lv' := [(3, .int (nI (eg_at (eg_pl tt o) k))), (0, .ref qn), (1, .int (nI o)), (2, .int (nI k))]) hx hb dL_got_14 rfl hl (by decide) rfl (fun ls hl => ?_)
  refine lv_aload_n hx hb dL_got_15 rfl (lv_at hl 1 rfl) ?_
  refine lv_bipush (v := nI 40) hx hb dL_got_16 (by decide) ?_
  refine lv_iconst (v := nI 4) hx hb dL_got_18 (by decide) ?_
  refine lv_iload_n hx hb dL_got_19 rfl (lv_at hl 2 rfl) ?_
  refine lv_iconst (v := nI 5) hx hb dL_got_20 (by decide) ?_
  refine en_isub hx hb (o - 5) (by omega) dL_got_21 ?_
  refine en_imul hx hb (4 * (o - 5)) rfl dL_got_22 ?_
  refine en_iadd hx hb (40 + (4 * (o - 5))) rfl dL_got_23 ?_
  refine el_ald (f := f) hx hb hK hP (40 + (4 * (o - 5))) (by first | omega | (unfold eg_at; omega)) dL_got_24 ?_
  refine lv_istore (lv' := [(4, .int (f (40 + (4 * (o - 5))))), (3, .int (nI (eg_at (eg_pl tt o) k))), (0, .ref qn), (1, .int (nI o)), (2, .int (nI k))]) hx hb dL_got_25 hl (by decide) rfl (fun ls hl => ?_)
  refine lv_aload_n hx hb dL_got_27 rfl (lv_at hl 2 rfl) ?_
  refine lv_bipush (v := nI 60) hx hb dL_got_28 (by decide) ?_
  refine lv_iconst (v := nI 4) hx hb dL_got_30 (by decide) ?_
  refine lv_iload_n hx hb dL_got_31 rfl (lv_at hl 3 rfl) ?_
  refine lv_iconst (v := nI 5) hx hb dL_got_32 (by decide) ?_
  refine en_isub hx hb (o - 5) (by omega) dL_got_33 ?_
  refine en_imul hx hb (4 * (o - 5)) rfl dL_got_34 ?_
  refine en_iadd hx hb (60 + (4 * (o - 5))) rfl dL_got_35 ?_
  refine el_ald (f := f) hx hb hK hP (60 + (4 * (o - 5))) (by first | omega | (unfold eg_at; omega)) dL_got_36 ?_
  refine en_eq (show f (60 + (4 * (o - 5))) = ev_bi (ev_told (st.2 o) 0) from eg_f60 hI (w := 0) (by omega) (by omega) (by decide)) ?_
  refine lv_iconst (v := nI 1) hx hb dL_got_37 (by decide) ?_
  refine eb_icmp_ne1 (tgt := 76) hx hb dL_got_38 (by decide) (fun c_3 => ?_) (fun c_3 => ?_)
  ·
    refine lv_aload_n hx hb dL_got_76 rfl (lv_at hl 2 rfl) ?_
    refine lv_aload_n hx hb dL_got_77 rfl (lv_at hl 2 rfl) ?_
    refine lv_bipush (v := nI 30) hx hb dL_got_78 (by decide) ?_
    refine lv_iload_n hx hb dL_got_80 rfl (lv_at hl 3 rfl) ?_
    refine en_iadd hx hb (30 + o) rfl dL_got_81 ?_
    have ht_4 := eg_ttlt hI (p := o) (by omega) (by omega)
    refine el_ald (f := f) hx hb hK hP (30 + o) (by first | omega | (unfold eg_at; omega)) dL_got_82 ?_
    refine en_eq (show f (30 + o) = nI 5 from (eg_f30 hI (p := o) (by omega) (by omega)).trans (congrArg nI htt)) ?_
    refine lv_iload_n hx hb dL_got_83 rfl (lv_at hl 4 rfl) ?_
    refine ev_cst (As := [.ref qn, .int (nI 5), .int (nI k)]) (rest := []) ⟨hx, hb, hml, hown, hts⟩ (c_L_got_1 l hI (o := 5) (k := k) (by omega) (by omega) hI.2.1.1 hk) (va_cwS 3 hts gL_got_L_got rfl rfl rfl (by decide +kernel) ⟨Nat.le_of_ble_eq_true rfl, Nat.le_of_ble_eq_true rfl⟩) hP hK rfl hl.1 (Nat.le_of_ble_eq_true rfl) dL_got_84 ⟨Nat.le_of_ble_eq_true rfl, Nat.le_of_ble_eq_true rfl⟩ ?_
    exact er_int hx hb hr hlocks ((eg_go_pass hI (by omega) (by omega) c_3).trans (by rw [htt])).symm dL_got_87
  ·
    rw [show f (40 + (4 * (o - 5))) = ev_an (st.2 o) 0 from eg_f40 hI (w := 0) (by omega) (by omega) (by decide) c_3] at hl
    have hl : lv_has ls 5 [(4, .int (ev_an (st.2 o) 0)), (3, .int (nI (eg_at (eg_pl tt o) k))), (0, .ref qn), (1, .int (nI o)), (2, .int (nI k))] := hl
    refine lv_aload_n hx hb dL_got_41 rfl (lv_at hl 2 rfl) ?_
    refine lv_iload_n hx hb dL_got_42 rfl (lv_at hl 1 rfl) ?_
    refine el_ald (f := f) hx hb hK hP ((eg_at (eg_pl tt o) k)) (by first | omega | (unfold eg_at; omega)) dL_got_43 ?_
    refine en_eq (show f ((eg_at (eg_pl tt o) k)) = ev_bi (ev_holds (st.2 (eg_pl tt o)) k) from eg_fh hI (i := (eg_pl tt o)) (k := k) (by omega) (by omega)) ?_
    refine lv_iconst (v := nI 1) hx hb dL_got_44 (by decide) ?_
    refine eb_icmp_ne1 (tgt := 73) hx hb dL_got_45 (by decide) (fun c_5 => ?_) (fun c_5 => ?_)
    ·
      refine lv_iload hx hb dL_got_73 (lv_at hl 0 rfl) ?_
      exact er_int hx hb hr hlocks (by rw [eg_go_told hI (by omega) (by omega) hk c_3]; simp [c_3, c_5]) dL_got_75
    ·
      refine lv_aload_n hx hb dL_got_48 rfl (lv_at hl 2 rfl) ?_
      refine lv_iload_n hx hb dL_got_49 rfl (lv_at hl 1 rfl) ?_
      refine lv_iconst (v := nI 2) hx hb dL_got_50 (by decide) ?_
      refine en_iadd hx hb ((eg_at (eg_pl tt o) k) + 2) rfl dL_got_51 ?_
      have hr_6 := (eg_rE hI (i := (eg_pl tt o)) (k := k) (by omega) (by omega) c_5).2
      refine el_ald (f := f) hx hb hK hP ((eg_at (eg_pl tt o) k) + 2) (by first | omega | (unfold eg_at; omega)) dL_got_52 ?_
      refine en_eq (show f ((eg_at (eg_pl tt o) k) + 2) = nI (eg_r (st.2 (eg_pl tt o)) k) from eg_fr hI (i := (eg_pl tt o)) (k := k) (by omega) (by omega) c_5) ?_
      refine lv_iconst (v := nI 5) hx hb dL_got_53 (by decide) ?_
      refine lv_iand hx hb dL_got_54 ?_
      refine lv_if_ne (tgt := 73) hx hb dL_got_55 (by decide) (fun c_7 => ?_) (fun c_7 => ?_)
      ·
        refine lv_iload hx hb dL_got_73 (lv_at hl 0 rfl) ?_
        exact er_int hx hb hr hlocks (by rw [eg_go_told hI (by omega) (by omega) hk c_3]; simp [c_3, c_5, c_7]) dL_got_75
      ·
        refine lv_aload_n hx hb dL_got_58 rfl (lv_at hl 2 rfl) ?_
        refine lv_iload_n hx hb dL_got_59 rfl (lv_at hl 1 rfl) ?_
        refine lv_iconst (v := nI 1) hx hb dL_got_60 (by decide) ?_
        refine en_iadd hx hb ((eg_at (eg_pl tt o) k) + 1) rfl dL_got_61 ?_
        refine el_ald (f := f) hx hb hK hP ((eg_at (eg_pl tt o) k) + 1) (by first | omega | (unfold eg_at; omega)) dL_got_62 ?_
        refine en_eq (show f ((eg_at (eg_pl tt o) k) + 1) = (ev_va (st.2 (eg_pl tt o)) k) from eg_fv hI (i := (eg_pl tt o)) (k := k) (by omega) (by omega) c_5) ?_
        refine lv_iload hx hb dL_got_63 (lv_at hl 0 rfl) ?_
        refine lv_icmp_eq (tgt := 73) hx hb dL_got_65 (by decide) (fun c_8 => ?_) (fun c_8 => ?_)
        ·
          refine lv_iload hx hb dL_got_73 (lv_at hl 0 rfl) ?_
          exact er_int hx hb hr hlocks (by rw [eg_go_told hI (by omega) (by omega) hk c_3]; simp [c_3, c_5, c_7, c_8]) dL_got_75
        ·
          refine lv_ldc (v := (-900002)) hx hb hown (hts (.constant RL 20 (-900002)) (by decide +kernel)) dL_got_68 ?_
          refine lv_goto (tgt := 75) hx hb dL_got_70 (by decide) ?_
          exact er_int hx hb hr hlocks (by rw [eg_go_told hI (by omega) (by omega) hk c_3]; simp [c_3, c_5, c_7, c_8]) dL_got_75
theorem eg_a1 {tt : Nat → Nat} {cc : Nat → Option Nat} {st : ev_ST} {f : Nat → Int32} {od : Nat → Nat → Nat} {n : Nat} (hI : eg_I tt cc st f od n) {p w : Nat} (h1 : 5 ≤ p) (h2 : p < 7) (hw : w < 4) (ht : ev_told (st.2 p) w = true) : (ev_an (st.2 p) w = nI 1) = (eg_a (st.2 p) w = 1) := by
  have h := eg_aE hI h1 h2 hw ht
  rw [h.1, eq_iff_iff]
  exact nI_eq (by omega) (by decide)
set_option maxHeartbeats 4000000 in
set_option maxRecDepth 100000 in
theorem c_L_asked_0 (l : Launch) {D : va_G} {cI cO : ClassId} {qn : Nat} {tt : Nat → Nat} {cc : Nat → Option Nat} {st : ev_ST} {f : Nat → Int32} {od : Nat → Nat → Nat} {n : Nat} (hI : eg_I tt cc st f od n) {o k : Nat} (ho : o < 5) (hk : k < 20) : Met l yL_asked wsL_asked ({ frames := 2, cells := 0, slots := 0, locals := 44 }) (ev_Pc D cI cO (ev_N D cI qn f) [.ref qn, .int (nI o), .int (nI k)]) (ev_QV (some (.int (nI (ev_af st k 30 (some o)))))) 0 0 ev_no := by
  refine ev_body (cc := cL_asked) (maxL := 4) (ret := (some .int)) (by decide) rfl (Nat.le_of_ble_eq_true rfl) ?_
  intro p e s m args below meth c hx hb hr hml hown hts hlocks hnm hP hK ls hl
  have hl : lv_has ls 4 [(0, .ref qn), (1, .int (nI o)), (2, .int (nI k))] := hl
  refine lv_iload_n hx hb dL_asked_0 rfl (lv_at hl 1 rfl) ?_
  refine lv_iconst (v := nI 4) hx hb dL_asked_1 (by decide) ?_
  refine en_icmp_le (tgt := 85) hx hb (by omega) (by omega) dL_asked_2 (by decide) (fun c_1 => ?_) (fun c_1 => by exfalso; omega)
  refine lv_aload_n hx hb dL_asked_85 rfl (lv_at hl 0 rfl) ?_
  refine lv_iload_n hx hb dL_asked_86 rfl (lv_at hl 1 rfl) ?_
  refine lv_iload_n hx hb dL_asked_87 rfl (lv_at hl 2 rfl) ?_
  refine ev_cst (As := [.ref qn, .int (nI o), .int (nI k)]) (rest := []) ⟨hx, hb, hml, hown, hts⟩ (c_L_found l hI (o := o) (k := k) (by omega) (by omega)) (va_cwS 3 hts gL_asked_L_found rfl rfl rfl (by decide +kernel) ⟨Nat.le_of_ble_eq_true rfl, Nat.le_of_ble_eq_true rfl⟩) hP hK rfl hl.1 (Nat.le_of_ble_eq_true rfl) dL_asked_88 ⟨Nat.le_of_ble_eq_true rfl, Nat.le_of_ble_eq_true rfl⟩ ?_
  cases hfd : eg_fd st k 5 (some o) with
  | none =>
    refine en_eq (show eg_on none = -1 from rfl) ?_
    refine lv_if_ge (tgt := 99) hx hb dL_asked_91 (by decide) (fun h => absurd h (by decide)) (fun _ => ?_)
    refine lv_bipush (v := nI 110) hx hb dL_asked_94 (by decide) ?_
    refine lv_goto (tgt := 101) hx hb dL_asked_96 (by decide) ?_
    exact er_int hx hb hr hlocks (congrArg nI (by rw [eg_ao_plain hI ho, hfd] <;> rfl)) dL_asked_101
  | some y =>
    obtain ⟨hy, hhy⟩ := eg_fd_some hI 5 (some o) (fun z hz => by cases hz; omega) y hfd
    refine en_eq (show eg_on (some y) = nI y from rfl) ?_
    refine en_if_ge (tgt := 99) hx hb (by omega) dL_asked_91 (by decide) ?_
    refine lv_bipush (v := nI 121) hx hb dL_asked_99 (by decide) ?_
    exact er_int hx hb hr hlocks (congrArg nI (by rw [eg_ao_plain hI ho, hfd] <;> rfl)) dL_asked_101
set_option maxHeartbeats 4000000 in
set_option maxRecDepth 100000 in
theorem c_L_asked_1 (l : Launch) {D : va_G} {cI cO : ClassId} {qn : Nat} {tt : Nat → Nat} {cc : Nat → Option Nat} {st : ev_ST} {f : Nat → Int32} {od : Nat → Nat → Nat} {n : Nat} (hI : eg_I tt cc st f od n) {o k : Nat} (ho5 : 5 ≤ o) (ho : o < 7) (htt : tt o < 5) (hk : k < 20) : Met l yL_asked wsL_asked ({ frames := 3, cells := 0, slots := 0, locals := 67 }) (ev_Pc D cI cO (ev_N D cI qn f) [.ref qn, .int (nI o), .int (nI k)]) (ev_QV (some (.int (nI (ev_af st k 30 (some o)))))) 0 0 ev_no := by
  refine ev_body (cc := cL_asked) (maxL := 4) (ret := (some .int)) (by decide) rfl (Nat.le_of_ble_eq_true rfl) ?_
  intro p e s m args below meth c hx hb hr hml hown hts hlocks hnm hP hK ls hl
  have hl : lv_has ls 4 [(0, .ref qn), (1, .int (nI o)), (2, .int (nI k))] := hl
  refine lv_iload_n hx hb dL_asked_0 rfl (lv_at hl 1 rfl) ?_
  refine lv_iconst (v := nI 4) hx hb dL_asked_1 (by decide) ?_
  refine en_icmp_le (tgt := 85) hx hb (by omega) (by omega) dL_asked_2 (by decide) (fun c_1 => by exfalso; omega) (fun c_1 => ?_)
  refine lv_aload_n hx hb dL_asked_5 rfl (lv_at hl 0 rfl) ?_
  refine lv_bipush (v := nI 60) hx hb dL_asked_6 (by decide) ?_
  refine lv_iconst (v := nI 4) hx hb dL_asked_8 (by decide) ?_
  refine lv_iload_n hx hb dL_asked_9 rfl (lv_at hl 1 rfl) ?_
  refine lv_iconst (v := nI 5) hx hb dL_asked_10 (by decide) ?_
  refine en_isub hx hb (o - 5) (by omega) dL_asked_11 ?_
  refine en_imul hx hb (4 * (o - 5)) rfl dL_asked_12 ?_
  refine en_iadd hx hb (60 + (4 * (o - 5))) rfl dL_asked_13 ?_
  refine lv_iconst (v := nI 1) hx hb dL_asked_14 (by decide) ?_
  refine en_iadd hx hb (60 + (4 * (o - 5)) + 1) rfl dL_asked_15 ?_
  refine el_ald (f := f) hx hb hK hP (60 + (4 * (o - 5)) + 1) (by first | omega | (unfold eg_at; omega)) dL_asked_16 ?_
  refine en_eq (show f (60 + (4 * (o - 5)) + 1) = ev_bi (ev_told (st.2 o) 1) from eg_f60 hI (w := 1) (by omega) (by omega) (by decide)) ?_
  refine lv_iconst (v := nI 1) hx hb dL_asked_17 (by decide) ?_
  refine eb_icmp_ne1 (tgt := 73) hx hb dL_asked_18 (by decide) (fun c_2 => ?_) (fun c_2 => ?_)
  ·
    refine lv_aload_n hx hb dL_asked_73 rfl (lv_at hl 0 rfl) ?_
    refine lv_aload_n hx hb dL_asked_74 rfl (lv_at hl 0 rfl) ?_
    refine lv_bipush (v := nI 30) hx hb dL_asked_75 (by decide) ?_
    refine lv_iload_n hx hb dL_asked_77 rfl (lv_at hl 1 rfl) ?_
    refine en_iadd hx hb (30 + o) rfl dL_asked_78 ?_
    have ht_3 := eg_ttlt hI (p := o) (by omega) (by omega)
    refine el_ald (f := f) hx hb hK hP (30 + o) (by first | omega | (unfold eg_at; omega)) dL_asked_79 ?_
    refine en_eq (show f (30 + o) = nI (tt o) from eg_f30 hI (p := o) (by omega) (by omega)) ?_
    refine lv_iload_n hx hb dL_asked_80 rfl (lv_at hl 2 rfl) ?_
    refine ev_cst (As := [.ref qn, .int (nI (tt o)), .int (nI k)]) (rest := []) ⟨hx, hb, hml, hown, hts⟩ (c_L_asked_0 l hI (o := (tt o)) (k := k) (by omega) hk) (va_cwS 3 hts gL_asked_L_asked rfl rfl rfl (by decide +kernel) ⟨Nat.le_of_ble_eq_true rfl, Nat.le_of_ble_eq_true rfl⟩) hP hK rfl hl.1 (Nat.le_of_ble_eq_true rfl) dL_asked_81 ⟨Nat.le_of_ble_eq_true rfl, Nat.le_of_ble_eq_true rfl⟩ ?_
    exact er_int hx hb hr hlocks (congrArg nI (eg_ao_pass hI (by omega) (by omega) c_2).symm) dL_asked_84
  ·
    refine lv_aload_n hx hb dL_asked_21 rfl (lv_at hl 0 rfl) ?_
    refine lv_bipush (v := nI 40) hx hb dL_asked_22 (by decide) ?_
    refine lv_iconst (v := nI 4) hx hb dL_asked_24 (by decide) ?_
    refine lv_iload_n hx hb dL_asked_25 rfl (lv_at hl 1 rfl) ?_
    refine lv_iconst (v := nI 5) hx hb dL_asked_26 (by decide) ?_
    refine en_isub hx hb (o - 5) (by omega) dL_asked_27 ?_
    refine en_imul hx hb (4 * (o - 5)) rfl dL_asked_28 ?_
    refine en_iadd hx hb (40 + (4 * (o - 5))) rfl dL_asked_29 ?_
    refine lv_iconst (v := nI 1) hx hb dL_asked_30 (by decide) ?_
    refine en_iadd hx hb (40 + (4 * (o - 5)) + 1) rfl dL_asked_31 ?_
    have ha_4 := eg_aE hI (p := o) (w := 1) (by omega) (by omega) (by decide) c_2
    have ha_4b := ha_4.2.2 (by decide)
    refine el_ald (f := f) hx hb hK hP (40 + (4 * (o - 5)) + 1) (by first | omega | (unfold eg_at; omega)) dL_asked_32 ?_
    refine en_eq (show f (40 + (4 * (o - 5)) + 1) = nI (eg_a (st.2 o) 1) from (eg_f40 hI (w := 1) (by omega) (by omega) (by decide) c_2).trans ha_4.1) ?_
    refine lv_iconst (v := nI 1) hx hb dL_asked_33 (by decide) ?_
    refine en_icmp_ne (tgt := 41) hx hb (by omega) (by omega) dL_asked_34 (by decide) (fun c_5 => ?_) (fun c_5 => ?_)
    ·
      refine lv_iconst (v := nI 0) hx hb dL_asked_41 (by decide) ?_
      refine lv_istore_n (lv' := [(3, .int (nI 0)), (0, .ref qn), (1, .int (nI o)), (2, .int (nI k))]) hx hb dL_asked_42 rfl hl (by decide) rfl (fun ls hl => ?_)
      refine lv_iload_n hx hb dL_asked_43 rfl (lv_at hl 0 rfl) ?_
      refine en_if_eq (tgt := 52) hx hb (by omega) dL_asked_44 (by decide) (fun c_6 => ?_) (fun c_6 => by exfalso; omega)
      refine lv_aload_n hx hb dL_asked_52 rfl (lv_at hl 1 rfl) ?_
      refine lv_aload_n hx hb dL_asked_53 rfl (lv_at hl 1 rfl) ?_
      refine lv_iload_n hx hb dL_asked_54 rfl (lv_at hl 2 rfl) ?_
      have hp_7 : eg_pl tt o < 5 := eg_pl_lt hI (by omega)
      refine ev_cst (As := [.ref qn, .int (nI o)]) (rest := [.ref qn]) ⟨hx, hb, hml, hown, hts⟩ (c_L_plain l hI (o := o) (by omega)) (va_cwS 2 hts gL_asked_L_plain rfl rfl rfl (by decide +kernel) ⟨Nat.le_of_ble_eq_true rfl, Nat.le_of_ble_eq_true rfl⟩) hP hK rfl hl.1 (Nat.le_of_ble_eq_true rfl) dL_asked_55 ⟨Nat.le_of_ble_eq_true rfl, Nat.le_of_ble_eq_true rfl⟩ ?_
      refine lv_iload_n hx hb dL_asked_58 rfl (lv_at hl 3 rfl) ?_
      refine ev_cst (As := [.ref qn, .int (nI (eg_pl tt o)), .int (nI k)]) (rest := []) ⟨hx, hb, hml, hown, hts⟩ (c_L_isKept l hI (i := (eg_pl tt o)) (k := k) (by omega) (by omega)) (va_cwS 3 hts gL_asked_L_isKept rfl rfl rfl (by decide +kernel) ⟨Nat.le_of_ble_eq_true rfl, Nat.le_of_ble_eq_true rfl⟩) hP hK rfl hl.1 (Nat.le_of_ble_eq_true rfl) dL_asked_59 ⟨Nat.le_of_ble_eq_true rfl, Nat.le_of_ble_eq_true rfl⟩ ?_
      refine eb_if_eq (tgt := 70) hx hb dL_asked_62 (by decide) (fun c_8 => ?_) (fun c_8 => ?_)
      ·
        refine lv_bipush (v := nI 110) hx hb dL_asked_70 (by decide) ?_
        exact er_int hx hb hr hlocks (congrArg nI (by rw [eg_af_told hI (by omega) (by omega) c_2 29]; simp only [eg_a1 hI (p := o) (w := 1) (by omega) (by omega) (by decide) c_2]; simp [c_2, c_5, c_8])) dL_asked_72
      ·
        refine lv_bipush (v := nI 84) hx hb dL_asked_65 (by decide) ?_
        refine lv_goto (tgt := 72) hx hb dL_asked_67 (by decide) ?_
        exact er_int hx hb hr hlocks (congrArg nI (by rw [eg_af_told hI (by omega) (by omega) c_2 29]; simp only [eg_a1 hI (p := o) (w := 1) (by omega) (by omega) (by decide) c_2]; simp [c_2, c_5, c_8])) dL_asked_72
    ·
      refine lv_iconst (v := nI 1) hx hb dL_asked_37 (by decide) ?_
      refine lv_goto (tgt := 42) hx hb dL_asked_38 (by decide) ?_
      refine lv_istore_n (lv' := [(3, .int (nI 1)), (0, .ref qn), (1, .int (nI o)), (2, .int (nI k))]) hx hb dL_asked_42 rfl hl (by decide) rfl (fun ls hl => ?_)
      refine lv_iload_n hx hb dL_asked_43 rfl (lv_at hl 0 rfl) ?_
      refine en_if_eq (tgt := 52) hx hb (by omega) dL_asked_44 (by decide) (fun c_9 => by exfalso; omega) (fun c_9 => ?_)
      refine lv_bipush (v := nI 121) hx hb dL_asked_47 (by decide) ?_
      refine lv_goto (tgt := 72) hx hb dL_asked_49 (by decide) ?_
      exact er_int hx hb hr hlocks (congrArg nI (by rw [eg_af_told hI (by omega) (by omega) c_2 29]; simp only [eg_a1 hI (p := o) (w := 1) (by omega) (by omega) (by decide) c_2]; simp [c_2, c_5])) dL_asked_72
set_option maxHeartbeats 4000000 in
set_option maxRecDepth 100000 in
theorem c_L_asked_2 (l : Launch) {D : va_G} {cI cO : ClassId} {qn : Nat} {tt : Nat → Nat} {cc : Nat → Option Nat} {st : ev_ST} {f : Nat → Int32} {od : Nat → Nat → Nat} {n : Nat} (hI : eg_I tt cc st f od n) {o k : Nat} (ho5 : 5 ≤ o) (ho : o < 7) (htt : tt o = 5) (hk : k < 20) : Met l yL_asked wsL_asked ({ frames := 4, cells := 0, slots := 0, locals := 90 }) (ev_Pc D cI cO (ev_N D cI qn f) [.ref qn, .int (nI o), .int (nI k)]) (ev_QV (some (.int (nI (ev_af st k 30 (some o)))))) 0 0 ev_no := by
  refine ev_body (cc := cL_asked) (maxL := 4) (ret := (some .int)) (by decide) rfl (Nat.le_of_ble_eq_true rfl) ?_
  intro p e s m args below meth c hx hb hr hml hown hts hlocks hnm hP hK ls hl
  have hl : lv_has ls 4 [(0, .ref qn), (1, .int (nI o)), (2, .int (nI k))] := hl
  refine lv_iload_n hx hb dL_asked_0 rfl (lv_at hl 1 rfl) ?_
  refine lv_iconst (v := nI 4) hx hb dL_asked_1 (by decide) ?_
  refine en_icmp_le (tgt := 85) hx hb (by omega) (by omega) dL_asked_2 (by decide) (fun c_1 => by exfalso; omega) (fun c_1 => ?_)
  refine lv_aload_n hx hb dL_asked_5 rfl (lv_at hl 0 rfl) ?_
  refine lv_bipush (v := nI 60) hx hb dL_asked_6 (by decide) ?_
  refine lv_iconst (v := nI 4) hx hb dL_asked_8 (by decide) ?_
  refine lv_iload_n hx hb dL_asked_9 rfl (lv_at hl 1 rfl) ?_
  refine lv_iconst (v := nI 5) hx hb dL_asked_10 (by decide) ?_
  refine en_isub hx hb (o - 5) (by omega) dL_asked_11 ?_
  refine en_imul hx hb (4 * (o - 5)) rfl dL_asked_12 ?_
  refine en_iadd hx hb (60 + (4 * (o - 5))) rfl dL_asked_13 ?_
  refine lv_iconst (v := nI 1) hx hb dL_asked_14 (by decide) ?_
  refine en_iadd hx hb (60 + (4 * (o - 5)) + 1) rfl dL_asked_15 ?_
  refine el_ald (f := f) hx hb hK hP (60 + (4 * (o - 5)) + 1) (by first | omega | (unfold eg_at; omega)) dL_asked_16 ?_
  refine en_eq (show f (60 + (4 * (o - 5)) + 1) = ev_bi (ev_told (st.2 o) 1) from eg_f60 hI (w := 1) (by omega) (by omega) (by decide)) ?_
  refine lv_iconst (v := nI 1) hx hb dL_asked_17 (by decide) ?_
  refine eb_icmp_ne1 (tgt := 73) hx hb dL_asked_18 (by decide) (fun c_2 => ?_) (fun c_2 => ?_)
  ·
    refine lv_aload_n hx hb dL_asked_73 rfl (lv_at hl 0 rfl) ?_
    refine lv_aload_n hx hb dL_asked_74 rfl (lv_at hl 0 rfl) ?_
    refine lv_bipush (v := nI 30) hx hb dL_asked_75 (by decide) ?_
    refine lv_iload_n hx hb dL_asked_77 rfl (lv_at hl 1 rfl) ?_
    refine en_iadd hx hb (30 + o) rfl dL_asked_78 ?_
    have ht_3 := eg_ttlt hI (p := o) (by omega) (by omega)
    refine el_ald (f := f) hx hb hK hP (30 + o) (by first | omega | (unfold eg_at; omega)) dL_asked_79 ?_
    refine en_eq (show f (30 + o) = nI 5 from (eg_f30 hI (p := o) (by omega) (by omega)).trans (congrArg nI htt)) ?_
    refine lv_iload_n hx hb dL_asked_80 rfl (lv_at hl 2 rfl) ?_
    refine ev_cst (As := [.ref qn, .int (nI 5), .int (nI k)]) (rest := []) ⟨hx, hb, hml, hown, hts⟩ (c_L_asked_1 l hI (o := 5) (k := k) (by omega) (by omega) hI.2.1.1 hk) (va_cwS 3 hts gL_asked_L_asked rfl rfl rfl (by decide +kernel) ⟨Nat.le_of_ble_eq_true rfl, Nat.le_of_ble_eq_true rfl⟩) hP hK rfl hl.1 (Nat.le_of_ble_eq_true rfl) dL_asked_81 ⟨Nat.le_of_ble_eq_true rfl, Nat.le_of_ble_eq_true rfl⟩ ?_
    exact er_int hx hb hr hlocks (congrArg nI ((eg_ao_pass hI (by omega) (by omega) c_2).trans (by rw [htt])).symm) dL_asked_84
  ·
    refine lv_aload_n hx hb dL_asked_21 rfl (lv_at hl 0 rfl) ?_
    refine lv_bipush (v := nI 40) hx hb dL_asked_22 (by decide) ?_
    refine lv_iconst (v := nI 4) hx hb dL_asked_24 (by decide) ?_
    refine lv_iload_n hx hb dL_asked_25 rfl (lv_at hl 1 rfl) ?_
    refine lv_iconst (v := nI 5) hx hb dL_asked_26 (by decide) ?_
    refine en_isub hx hb (o - 5) (by omega) dL_asked_27 ?_
    refine en_imul hx hb (4 * (o - 5)) rfl dL_asked_28 ?_
    refine en_iadd hx hb (40 + (4 * (o - 5))) rfl dL_asked_29 ?_
    refine lv_iconst (v := nI 1) hx hb dL_asked_30 (by decide) ?_
    refine en_iadd hx hb (40 + (4 * (o - 5)) + 1) rfl dL_asked_31 ?_
    have ha_4 := eg_aE hI (p := o) (w := 1) (by omega) (by omega) (by decide) c_2
    have ha_4b := ha_4.2.2 (by decide)
    refine el_ald (f := f) hx hb hK hP (40 + (4 * (o - 5)) + 1) (by first | omega | (unfold eg_at; omega)) dL_asked_32 ?_
    refine en_eq (show f (40 + (4 * (o - 5)) + 1) = nI (eg_a (st.2 o) 1) from (eg_f40 hI (w := 1) (by omega) (by omega) (by decide) c_2).trans ha_4.1) ?_
    refine lv_iconst (v := nI 1) hx hb dL_asked_33 (by decide) ?_
    refine en_icmp_ne (tgt := 41) hx hb (by omega) (by omega) dL_asked_34 (by decide) (fun c_5 => ?_) (fun c_5 => ?_)
    ·
      refine lv_iconst (v := nI 0) hx hb dL_asked_41 (by decide) ?_
      refine lv_istore_n (lv' := [(3, .int (nI 0)), (0, .ref qn), (1, .int (nI o)), (2, .int (nI k))]) hx hb dL_asked_42 rfl hl (by decide) rfl (fun ls hl => ?_)
      refine lv_iload_n hx hb dL_asked_43 rfl (lv_at hl 0 rfl) ?_
      refine en_if_eq (tgt := 52) hx hb (by omega) dL_asked_44 (by decide) (fun c_6 => ?_) (fun c_6 => by exfalso; omega)
      refine lv_aload_n hx hb dL_asked_52 rfl (lv_at hl 1 rfl) ?_
      refine lv_aload_n hx hb dL_asked_53 rfl (lv_at hl 1 rfl) ?_
      refine lv_iload_n hx hb dL_asked_54 rfl (lv_at hl 2 rfl) ?_
      have hp_7 : eg_pl tt o < 5 := eg_pl_lt hI (by omega)
      refine ev_cst (As := [.ref qn, .int (nI o)]) (rest := [.ref qn]) ⟨hx, hb, hml, hown, hts⟩ (c_L_plain l hI (o := o) (by omega)) (va_cwS 2 hts gL_asked_L_plain rfl rfl rfl (by decide +kernel) ⟨Nat.le_of_ble_eq_true rfl, Nat.le_of_ble_eq_true rfl⟩) hP hK rfl hl.1 (Nat.le_of_ble_eq_true rfl) dL_asked_55 ⟨Nat.le_of_ble_eq_true rfl, Nat.le_of_ble_eq_true rfl⟩ ?_
      refine lv_iload_n hx hb dL_asked_58 rfl (lv_at hl 3 rfl) ?_
      refine ev_cst (As := [.ref qn, .int (nI (eg_pl tt o)), .int (nI k)]) (rest := []) ⟨hx, hb, hml, hown, hts⟩ (c_L_isKept l hI (i := (eg_pl tt o)) (k := k) (by omega) (by omega)) (va_cwS 3 hts gL_asked_L_isKept rfl rfl rfl (by decide +kernel) ⟨Nat.le_of_ble_eq_true rfl, Nat.le_of_ble_eq_true rfl⟩) hP hK rfl hl.1 (Nat.le_of_ble_eq_true rfl) dL_asked_59 ⟨Nat.le_of_ble_eq_true rfl, Nat.le_of_ble_eq_true rfl⟩ ?_
      refine eb_if_eq (tgt := 70) hx hb dL_asked_62 (by decide) (fun c_8 => ?_) (fun c_8 => ?_)
      ·
        refine lv_bipush (v := nI 110) hx hb dL_asked_70 (by decide) ?_
        exact er_int hx hb hr hlocks (congrArg nI (by rw [eg_af_told hI (by omega) (by omega) c_2 29]; simp only [eg_a1 hI (p := o) (w := 1) (by omega) (by omega) (by decide) c_2]; simp [c_2, c_5, c_8])) dL_asked_72
      ·
        refine lv_bipush (v := nI 84) hx hb dL_asked_65 (by decide) ?_
        refine lv_goto (tgt := 72) hx hb dL_asked_67 (by decide) ?_
        exact er_int hx hb hr hlocks (congrArg nI (by rw [eg_af_told hI (by omega) (by omega) c_2 29]; simp only [eg_a1 hI (p := o) (w := 1) (by omega) (by omega) (by decide) c_2]; simp [c_2, c_5, c_8])) dL_asked_72
    ·
      refine lv_iconst (v := nI 1) hx hb dL_asked_37 (by decide) ?_
      refine lv_goto (tgt := 42) hx hb dL_asked_38 (by decide) ?_
      refine lv_istore_n (lv' := [(3, .int (nI 1)), (0, .ref qn), (1, .int (nI o)), (2, .int (nI k))]) hx hb dL_asked_42 rfl hl (by decide) rfl (fun ls hl => ?_)
      refine lv_iload_n hx hb dL_asked_43 rfl (lv_at hl 0 rfl) ?_
      refine en_if_eq (tgt := 52) hx hb (by omega) dL_asked_44 (by decide) (fun c_9 => by exfalso; omega) (fun c_9 => ?_)
      refine lv_bipush (v := nI 121) hx hb dL_asked_47 (by decide) ?_
      refine lv_goto (tgt := 72) hx hb dL_asked_49 (by decide) ?_
      exact er_int hx hb hr hlocks (congrArg nI (by rw [eg_af_told hI (by omega) (by omega) c_2 29]; simp only [eg_a1 hI (p := o) (w := 1) (by omega) (by omega) (by decide) c_2]; simp [c_2, c_5])) dL_asked_72
