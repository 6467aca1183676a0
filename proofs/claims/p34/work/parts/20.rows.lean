/-! 20.rows: the law's own world: the class's cells and the table, side by side -/
def ej_A (s : State) : Nat → Prop := fun q => s.heap.size ≤ q
def ej_A1 (s : State) (qn : Nat) : Nat → Prop := fun q => s.heap.size ≤ q ∧ q ≠ qn
def ej_C (p : Program) (l : Launch) (s : State) (m : MethodId) (args : Array Value) (c : Code) (D : va_G) (cI cO : ClassId) (a0 t0 bs L : Nat) (xs : Nat → Int32) : Prop :=
  p.tables.exec = Jvm.exec ∧ c.code = cL_law ∧ c.maxLocals = 15 ∧ s.vm.findClass RL = some m.cls ∧ (∀ w ∈ wsL_law, w.before args s = true) ∧ va_K D vwCl (ev_ty cI cO) s ∧ ev_AOs s ∧ ev_NsO s ∧ ev_Ex (ej_A s) s s.heap ∧ es_S (ej_A s) a0 t0 s s.heap ∧ vk_R RL 141 "ghsd" a0 s ∧ va_X bs L xs s s.heap ∧ bs < s.heap.size ∧ L ≤ 260 ∧ l.stackTraces = false
def ej_H (s : State) (D : va_G) (cI cO : ClassId) (b : Nat → Nat) (ad : Nat → Nat → Nat) (st : ev_ST) (qn : Nat) (f : Nat → Int32) (H : Heap) (locs : List Loc) : Prop :=
  ev_P D cI cO b ad st H ∧ ev_N D cI qn f H ∧ va_D (ej_A1 s qn) (ev_wl cI cO b ad st) ∧ s.heap.size ≤ qn ∧ va_S (ej_A s) s.heap H locs
section EJ
variable {p : Program} {l : Launch} {e : Env} {R : Room} {s : State} {m : MethodId} {args : Array Value} {below : List Frame} {meth : Method} {c : Code} {H : Heap} {locs : List Loc} {cells slots : Nat} {Q : State → Prop}
variable {cc9 : ByteArray} {pc : Nat} {ls : Array Slot} {rest : List Value} {D : va_G} {cI cO : ClassId} {b : Nat → Nat} {ad : Nat → Nat → Nat} {st st' : ev_ST} {qn : Nat} {f : Nat → Int32} {Ts : List Cond} {own : String} {bs L : Nat} {xs : Nat → Int32} {a0 t0 : Nat}
theorem ej_H.qlt (h : ej_H s D cI cO b ad st qn f H locs) : qn < H.size := (h.2.1 0 _ rfl).lt
theorem ej_H.Ex (h : ej_H s D cI cO b ad st qn f H locs) (hE : ev_Ex (ej_A s) s s.heap) : ev_Ex (ej_A s) s H := hE.kept h.2.2.2.2.2.1
theorem ej_H.X (h : ej_H s D cI cO b ad st qn f H locs) (hX : va_X bs L xs s s.heap) (hbs : bs < s.heap.size) : va_X bs L xs s H := hX.kept (h.2.2.2.2.2.1 bs hbs (fun z => absurd hbs (Nat.not_lt.mpr z)))
theorem ej_H.S (h : ej_H s D cI cO b ad st qn f H locs) (hE : es_S (ej_A s) a0 t0 s s.heap) : es_S (ej_A s) a0 t0 s H := hE.kept h.2.2.2.2.2.1
/-- what was there is as it was -/
theorem ej_H.same {H1 : Heap} {locs1 : List Loc} (h : ej_H s D cI cO b ad st qn f H locs) (hk : ∀ q : Nat, q < H.size → H1[q]? = H[q]?) (hS : va_S (ej_A s) s.heap H1 locs1) : ej_H s D cI cO b ad st qn f H1 locs1 :=
  ⟨va_P.kept h.1 (fun k q hq => hk q.1 (h.1 k q hq).lt), va_P.kept h.2.1 (fun k q hq => hk q.1 (h.2.1 k q hq).lt), h.2.2.1, h.2.2.2.1, hS⟩
/-- the class's cells have changed -/
theorem ej_H.cls {ad' : Nat → Nat → Nat} {H1 : Heap} {locs1 : List Loc} (h : ej_H s D cI cO b ad st qn f H locs) (hP : ev_P D cI cO b ad' st' H1) (hD : va_D (ej_A1 s qn) (ev_wl cI cO b ad' st')) (hk : ∀ q : Nat, q < H.size → ¬ ej_A1 s qn q → H1[q]? = H[q]?) (hS : va_S (ej_A s) s.heap H1 locs1) : ej_H s D cI cO b ad' st' qn f H1 locs1 := by
  refine ⟨hP, va_P.kept h.2.1 (fun k q hq => ?_), hD, h.2.2.2.1, hS⟩
  have e : q.1 = qn := by
    rcases k with _ | k
    · cases hq; rfl
    · cases hq
  rw [e]
  exact hk qn h.qlt (fun z => z.2 rfl)
/-- the table has changed -/
theorem ej_H.tab {f' : Nat → Int32} {H1 : Heap} {locs1 : List Loc} (h : ej_H s D cI cO b ad st qn f H locs) (hN : ev_N D cI qn f' H1) (hk : ∀ q : Nat, q < H.size → q ≠ qn → H1[q]? = H[q]?) (hS : va_S (ej_A s) s.heap H1 locs1) : ej_H s D cI cO b ad st qn f' H1 locs1 :=
  ⟨va_P.kept h.1 (fun k q hq => hk q.1 (h.1 k q hq).lt (h.2.2.1.2 k q hq).2), hN, h.2.2.1, h.2.2.2.1, hS⟩
theorem ej_w0 {y : MethodName} {bytes : ByteArray} {maxL nL n index : Nat} {ret : Option FieldType} {hh : List (Nat × Nat × Nat × Nat)} {ws : List Cond} {rm : Room} {v : Value} {As : List Value} (S : CallFix p m c cc9 nL s args Ts own)
    (hM : Met l y ws rm (ev_PcX D cI cO (ej_A s) (ev_P D cI cO b ad st) As) (ev_QM (some v) (fun _ => True) ev_no) 1 6 ev_no) (cw : vx_CSW R s args own index y bytes maxL ret hh ws rm 1 6 n) (hH : ej_H s D cI cO b ad st qn f H locs) (hK : va_K D vwCl (ev_ty cI cO) s) (hE : ev_Ex (ej_A s) s s.heap)
    (hn : As.length = n) (hsize : ls.size = nL) (hW : (rest.map fun v => v.category).sum ≤ 8) (hdg : decode cc9 pc = .ok (.invokestatic index, 3)) (hf : cells + 1 ≤ R.cells ∧ slots + 6 ≤ R.slots)
    (kk : ∀ (H1 : Heap) (locs1 : List Loc), ej_H s D cI cO b ad st qn f H1 locs1 → W p l e R s m args below meth c H1 locs1 (cells + 1) (slots + 6) Q (F0 m (pc + 3) ls (v :: rest))) : W p l e R s m args below meth c H locs cells slots Q (F0 m pc ls (As.reverse ++ rest)) :=
  ew_run S hM cw (ew_preX hH.1 hK (hH.Ex hE)) hH.2.2.2.2 (fun _ h => h.elim) (fun _ h => h.elim) hn hsize hW hdg hf (fun H1 locs1 _ _ hk hS => kk H1 locs1 (hH.same (fun q h => hk q h (fun z => z)) hS))
theorem ej_w1 {y : MethodName} {bytes : ByteArray} {maxL nL n index : Nat} {ret : Option FieldType} {hh : List (Nat × Nat × Nat × Nat)} {ws : List Cond} {rm : Room} {v : Value} {As : List Value} (S : CallFix p m c cc9 nL s args Ts own)
    (hM : Met l y ws rm (ev_Pc D cI cO (ev_P D cI cO b ad st) As) (ev_QM (some v) (ev_P D cI cO b ad st') (ej_A1 s qn)) 0 0 (ej_A1 s qn)) (cw : vx_CSW R s args own index y bytes maxL ret hh ws rm 0 0 n) (hH : ej_H s D cI cO b ad st qn f H locs) (hK : va_K D vwCl (ev_ty cI cO) s) (h1 : st.1 = st'.1)
    (hn : As.length = n) (hsize : ls.size = nL) (hW : (rest.map fun v => v.category).sum ≤ 8) (hdg : decode cc9 pc = .ok (.invokestatic index, 3)) (hf : cells + 0 ≤ R.cells ∧ slots + 0 ≤ R.slots)
    (kk : ∀ (H1 : Heap) (locs1 : List Loc), ej_H s D cI cO b ad st' qn f H1 locs1 → W p l e R s m args below meth c H1 locs1 cells slots Q (F0 m (pc + 3) ls (v :: rest))) : W p l e R s m args below meth c H locs cells slots Q (F0 m pc ls (As.reverse ++ rest)) :=
  ew_run S hM cw (ew_preC hH.1 hK) hH.2.2.2.2 (fun _ h => h.1) (fun _ h => h.1) hn hsize hW hdg hf (fun H1 locs1 hQ _ hk hS => kk H1 locs1 (hH.cls hQ (ev_D_of (ev_wl_addr cI cO b ad st st' h1) hH.2.2.1) hk hS))
theorem ej_wA {y : MethodName} {bytes : ByteArray} {maxL nL n index : Nat} {ret : Option FieldType} {hh : List (Nat × Nat × Nat × Nat)} {ws : List Cond} {rm : Room} {v : Value} {As : List Value} (S : CallFix p m c cc9 nL s args Ts own)
    (hM : Met l y ws rm (ev_PcA D cI cO (ej_A1 s qn) (ev_P D cI cO b ad st) As) (ev_QM (some v) (fun H => ∃ ad2 : Nat → Nat → Nat, ev_P D cI cO b ad2 st' H ∧ va_D (ej_A1 s qn) (ev_wl cI cO b ad2 st')) (ej_A1 s qn)) 5 73 (ej_A1 s qn)) (cw : vx_CSW R s args own index y bytes maxL ret hh ws rm 5 73 n) (hH : ej_H s D cI cO b ad st qn f H locs) (hK : va_K D vwCl (ev_ty cI cO) s) (hO : ev_AOs s) (hNs : ev_NsO s)
    (hn : As.length = n) (hsize : ls.size = nL) (hW : (rest.map fun v => v.category).sum ≤ 8) (hdg : decode cc9 pc = .ok (.invokestatic index, 3)) (hf : cells + 5 ≤ R.cells ∧ slots + 73 ≤ R.slots)
    (kk : ∀ (ad2 : Nat → Nat → Nat) (H1 : Heap) (locs1 : List Loc), ej_H s D cI cO b ad2 st' qn f H1 locs1 → W p l e R s m args below meth c H1 locs1 (cells + 5) (slots + 73) Q (F0 m (pc + 3) ls (v :: rest))) : W p l e R s m args below meth c H locs cells slots Q (F0 m pc ls (As.reverse ++ rest)) :=
  ew_run S hM cw (ew_preA hH.1 hK hO hNs (fun q h => ⟨Nat.le_trans hH.2.2.2.2.1 h, fun z => absurd hH.qlt (Nat.not_lt.mpr (z ▸ h))⟩)) hH.2.2.2.2 (fun _ h => h.1) (fun _ h => h.1) hn hsize hW hdg hf (fun H1 locs1 hQ _ hk hS => by
    obtain ⟨ad2, hP2, hD2⟩ := hQ
    exact kk ad2 H1 locs1 (hH.cls hP2 hD2 hk hS))
theorem ej_n {tt : Nat → Nat} {cc : Nat → Option Nat} {st2 : ev_ST} {n0 : Nat} {y : MethodName} {bytes : ByteArray} {maxL nL n index : Nat} {ret : Option FieldType} {ws : List Cond} {rm : Room} {v : Value} {As : List Value} (S : CallFix p m c cc9 nL s args Ts own)
    (hM : Met l y ws rm (ev_Pc D cI cO (ev_N D cI qn f) As) (ev_QM (some v) (el_H D cI qn tt cc st2 n0) (el_A qn)) 0 0 (el_A qn)) (cw : CallB R s args own index y bytes maxL ret ws rm 0 0 n ∧ (Cond.static y).before args s = true) (hH : ej_H s D cI cO b ad st qn f H locs) (hK : va_K D vwCl (ev_ty cI cO) s)
    (hn : As.length = n) (hsize : ls.size = nL) (hW : (rest.map fun v => v.category).sum ≤ 8) (hdg : decode cc9 pc = .ok (.invokestatic index, 3)) (hf : cells + 0 ≤ R.cells ∧ slots + 0 ≤ R.slots)
    (kk : ∀ (f' : Nat → Int32) (od' : Nat → Nat → Nat) (n' : Nat) (H1 : Heap) (locs1 : List Loc), ej_H s D cI cO b ad st qn f' H1 locs1 → eg_I tt cc st2 f' od' n' → n' ≤ n0 + 1 → W p l e R s m args below meth c H1 locs1 cells slots Q (F0 m (pc + 3) ls (v :: rest))) : W p l e R s m args below meth c H locs cells slots Q (F0 m pc ls (As.reverse ++ rest)) :=
  el_ms S hM cw hH.2.1 hK hH.2.2.2.2 (fun q h => by rw [show q = qn from h]; exact hH.2.2.2.1) hn hsize hW hdg hf (fun H1 locs1 hQ _ hk hS => by
    obtain ⟨f', od', n', hN, hI, hle⟩ := hQ
    exact kk f' od' n' H1 locs1 (hH.tab hN (fun q h hne => hk q h hne) hS) hI hle)
theorem ej_keys {y : MethodName} {bytes : ByteArray} {maxL nL n index : Nat} {ret : Option FieldType} {ws : List Cond} {rm : Room} {v : Value} {As : List Value} (S : CallFix p m c cc9 nL s args Ts own)
    (hM : Met l y ws rm (ev_PcY D cI cO (ej_A s) (ev_P D cI cO b ad st) (ev_N D cI qn f) As) (ev_QM (some v) (fun _ => True) ev_no) 43 258 ev_no) (cw : CallB R s args own index y bytes maxL ret ws rm 43 258 n ∧ (Cond.static y).before args s = true) (hH : ej_H s D cI cO b ad st qn f H locs) (hK : va_K D vwCl (ev_ty cI cO) s) (hE : ev_Ex (ej_A s) s s.heap)
    (hn : As.length = n) (hsize : ls.size = nL) (hW : (rest.map fun v => v.category).sum ≤ 8) (hdg : decode cc9 pc = .ok (.invokestatic index, 3)) (hf : cells + 43 ≤ R.cells ∧ slots + 258 ≤ R.slots)
    (kk : ∀ (H1 : Heap) (locs1 : List Loc), ej_H s D cI cO b ad st qn f H1 locs1 → W p l e R s m args below meth c H1 locs1 (cells + 43) (slots + 258) Q (F0 m (pc + 3) ls (v :: rest))) : W p l e R s m args below meth c H locs cells slots Q (F0 m pc ls (As.reverse ++ rest)) := by
  have hr' := W.runS (e := e) (below := below) (meth := meth) (g := F0 m pc ls (As.reverse ++ rest)) (locs := locs) (rest := rest) S hM cw ⟨ev_blindY, fun U hU hW => ⟨rfl, by rw [hU]; exact hH.1, by rw [hU]; exact hH.2.1, va_K.moved hW.alike hK, by rw [hU]; exact ev_Ex.warm hW (hH.Ex hE)⟩⟩ rfl hn hsize rfl (lv_room hW) hdg hf
  intro T hT X
  obtain ⟨v', st₀, t, T', L', h0, X', hL, e1, ⟨hv, -, hz, hk⟩, st9⟩ := hr' T hT X
  cases hv
  rw [h0] at hz hk
  have hS := hH.2.2.2.2
  obtain ⟨t2, a1, b1⟩ := kk T'.heap (locs ++ L') (hH.same (fun q h => by rw [e1]; exact hk q h (fun z => z)) ⟨Nat.le_trans hS.1 (by rw [e1]; exact hz), fun q h1 h2 => by rw [e1, hk q (Nat.lt_of_lt_of_le h1 hS.1) (fun h => h)]; exact hS.2.1 q h1 h2, fun q hq => by
      rcases List.mem_append.mp hq with h | h
      · exact hS.2.2 q h
      · exact (hL q h).elim⟩) T' rfl X'
  exact ⟨t2, st9 t2 a1, b1⟩
theorem ej_ast0 {N q0 : Nat} {g : Nat → Int32} (hx : p.tables.exec = Jvm.exec) (hb : c.code = cc9) (hK : va_K D vwCl (ev_ty cI cO) s) (hP : va_P D vwCl [(q0, .inl (cI, N, .inl g))] H) {i : Int32} {x : Int32} (hin : vp_in i N) (hdg : decode cc9 pc = .ok (.iastore, 1))
    (kk : ∀ (H1 : Heap), va_P D vwCl [(q0, .inl (cI, N, .inl (upd g i.toNatClampNeg x)))] H1 → H1.size = H.size → (∀ q : Nat, q ≠ q0 → H1[q]? = H[q]?) → W p l e R s m args below meth c H1 (locs ++ [⟨q0, i.toNatClampNeg⟩]) cells slots Q (F0 m (pc + 1) ls rest)) : W p l e R s m args below meth c H locs cells slots Q (F0 m pc ls (.int x :: .int i :: .ref q0 :: rest)) := by
  have hc : H[q0]? = some (vp_cell cI (N, .inl g)) := hP 0 (q0, .inl (cI, N, .inl g)) rfl
  refine W.iast hx hb hc ((hK.2 0 _ rfl).1 N (fun j => .int (g j))) (fun q => by cases q) (by show ¬ (i < 0 ∨ (arrV _ _ _).slots.size ≤ _); rw [arrV_size]; exact hin) rfl rfl hdg fun H1 e z oq => ?_
  refine kk H1 ?_ z oq
  intro k q hq
  rcases k with _ | k
  · cases hq
    show H1[q0]? = some (vp_cell cI (N, .inl (upd g i.toNatClampNeg x)))
    rw [e, vp_cell_i, vp_cell_i, arrV_store]
    refine congrArg some (congrArg (arrV cI N) ?_)
    funext j
    by_cases h : j = i.toNatClampNeg
    · simp [updV, upd, h]
    · simp [updV, upd, h]
  · cases hq
theorem ej_ast (hx : p.tables.exec = Jvm.exec) (hb : c.code = cc9) (hK : va_K D vwCl (ev_ty cI cO) s) (hH : ej_H s D cI cO b ad st qn f H locs) (j : Nat) (hj : j < 700) {x : Int32} (hdg : decode cc9 pc = .ok (.iastore, 1))
    (kk : ∀ (H1 : Heap) (locs1 : List Loc), ej_H s D cI cO b ad st qn (upd f j x) H1 locs1 → W p l e R s m args below meth c H1 locs1 cells slots Q (F0 m (pc + 1) ls rest)) : W p l e R s m args below meth c H locs cells slots Q (F0 m pc ls (.int x :: .int (nI j) :: .ref qn :: rest)) := by
  refine ej_ast0 hx hb hK hH.2.1 (vp_in_nI hj (by decide)) hdg fun H1 hN z oq => ?_
  rw [nI_clamp (by omega)] at hN
  exact kk H1 _ (hH.tab hN (fun q _ hne => oq q hne) (hH.2.2.2.2.put z oq hH.2.2.2.1))
end EJ
/-! the start -/
def ej_cc (L : Nat) (xs : Nat → Int32) : Nat → Option Nat := fun k => if k = 0 then none else if el_in L xs k 3 = 0 then none else some (el_in L xs (5 + k) k)
def ej_tt (L : Nat) (xs : Nat → Int32) : Nat → Nat := fun p => if p = 5 then el_in L xs 10 5 else el_in L xs 11 6
def ej_T (cc : Nat → Option Nat) (tt : Nat → Nat) : Nat → ev_TH := fun i => if i < 5 then ev_tn none (cc i) else ev_tn (some (tt i)) none
def ej_f (cc : Nat → Option Nat) (k : Nat) : Nat → Int32 := fun j => if 10 ≤ j ∧ j < 10 + k then eg_on (cc (j - 10)) else nI 0
theorem ej_f0 (cc : Nat → Option Nat) : ej_f cc 0 = fun _ => 0 := funext fun j => (if_neg (by omega)).trans nI_0
theorem ej_fS (cc : Nat → Option Nat) (k : Nat) : upd (ej_f cc k) (10 + k) (eg_on (cc k)) = ej_f cc (k + 1) := by
  funext j
  show (if j = 10 + k then eg_on (cc k) else if 10 ≤ j ∧ j < 10 + k then eg_on (cc (j - 10)) else nI 0) = if 10 ≤ j ∧ j < 10 + (k + 1) then eg_on (cc (j - 10)) else nI 0
  by_cases h : j = 10 + k
  · rw [if_pos h, if_pos (by omega), h, show 10 + k - 10 = k from by omega]
  · rw [if_neg h]
    by_cases h2 : 10 ≤ j ∧ j < 10 + k
    · rw [if_pos h2, if_pos (by omega)]
    · rw [if_neg h2, if_neg (by omega)]
theorem ej_fat (cc : Nat → Option Nat) (k : Nat) : ej_f cc (k + 1) (10 + k) = eg_on (cc k) := by
  show (if 10 ≤ 10 + k ∧ 10 + k < 10 + (k + 1) then eg_on (cc (10 + k - 10)) else nI 0) = _
  rw [if_pos (by omega), show 10 + k - 10 = k from by omega]
theorem ej_tn_h (o0 o1 : Option Nat) {k : Nat} (hk : k < 20) : ev_holds (ev_tn o0 o1) k = false := by
  show decide ((if k < 20 then (-1 : Int32) else 0) ≠ -1) = false
  rw [if_pos hk]
  decide
theorem ej_tn_w (o0 o1 : Option Nat) {w : Nat} (hw : w < 4) : ev_told (ev_tn o0 o1) w = false := by
  show decide ((if w < 4 then (1000000 : Int32) else 0) ≠ 1000000) = false
  rw [if_pos hw]
  decide
theorem ej_tn_c (o0 o1 : Option Nat) : ∀ q, q ≤ 20 → ev_cnt (ev_tn o0 o1) q = 0 := by
  intro q
  induction q with
  | zero => intro _; rfl
  | succ q ih =>
    intro h
    show ev_cnt (ev_tn o0 o1) q + (if ev_holds (ev_tn o0 o1) q then 1 else 0) = 0
    rw [ih (by omega), ej_tn_h o0 o1 (by omega)]
    rfl
theorem ej_C0 (L : Nat) (xs : Nat → Int32) : eg_C (ej_tt L xs) (ej_cc L xs) := by
  refine ⟨?_, ?_, fun i hi j hj => ?_⟩
  · show (if 5 = 5 then el_in L xs 10 5 else _) < 5
    rw [if_pos rfl]
    exact el_in_lt _ _ _ (by decide)
  · show (if 6 = 5 then _ else el_in L xs 11 6) < 6
    rw [if_neg (by decide)]
    exact el_in_lt _ _ _ (by decide)
  · unfold ej_cc at hj
    by_cases h0 : i = 0
    · rw [if_pos h0] at hj; cases hj
    · rw [if_neg h0] at hj
      by_cases h1 : el_in L xs i 3 = 0
      · rw [if_pos h1] at hj; cases hj
      · rw [if_neg h1] at hj
        cases hj
        exact el_in_lt _ _ _ (by omega)
theorem ej_I0 {tt : Nat → Nat} {cc : Nat → Option Nat} (hC : eg_C tt cc) : eg_I tt cc (7, ej_T cc tt) (upd (upd (ej_f cc 5) 35 (nI (tt 5))) 36 (nI (tt 6))) (fun _ _ => 0) 0 := by
  have hp : ∀ i, i < 5 → ej_T cc tt i = ev_tn none (cc i) := fun i hi => if_pos hi
  have hq : ∀ i, 5 ≤ i → ej_T cc tt i = ev_tn (some (tt i)) none := fun i hi => if_neg (by omega)
  have hz : ∀ j, j ≠ 35 → j ≠ 36 → ¬ (10 ≤ j ∧ j < 15) → upd (upd (ej_f cc 5) 35 (nI (tt 5))) 36 (nI (tt 6)) j = 0 := fun j h1 h2 h3 => by
    rw [eg_un _ _ h2, eg_un _ _ h1]
    exact (if_neg h3).trans nI_0
  refine ⟨rfl, hC, fun i hi => ?_, fun p h1 h2 => ?_, fun p w h1 h2 hw => ?_, fun i k hi hk => ?_, ?_, fun i hi => ?_⟩
  · unfold eg_Ip
    rw [show (7, ej_T cc tt).2 i = ev_tn none (cc i) from hp i hi, hz i (by omega) (by omega) (by omega), eg_un _ _ (by omega), eg_un _ _ (by omega)]
    refine ⟨rfl, rfl, rfl, rfl, ?_⟩
    show (if 10 ≤ 10 + i ∧ 10 + i < 10 + 5 then eg_on (cc (10 + i - 10)) else nI 0) = _
    rw [if_pos (by omega), show 10 + i - 10 = i from by omega]
  · unfold eg_Iq
    rw [show (7, ej_T cc tt).2 p = ev_tn (some (tt p)) none from hq p h1]
    refine ⟨rfl, rfl, ?_, rfl, rfl⟩
    have : p = 5 ∨ p = 6 := by omega
    rcases this with rfl | rfl
    · rw [eg_un _ _ (by omega)]
      exact eg_us _ _ _
    · exact eg_us _ _ _
  · unfold eg_Iw
    rw [show (7, ej_T cc tt).2 p = ev_tn (some (tt p)) none from hq p h1, ej_tn_w _ _ hw, hz _ (by omega) (by omega) (by omega)]
    exact ⟨rfl, fun h => by cases h⟩
  · unfold eg_Ik
    rw [show (7, ej_T cc tt).2 i = ev_tn none (cc i) from hp i hi, ej_tn_h _ _ hk, hz _ (by unfold eg_at; omega) (by unfold eg_at; omega) (by unfold eg_at; omega)]
    exact ⟨rfl, fun h => by cases h⟩
  · rw [hz 20 (by omega) (by omega) (by omega)]
    exact nI_0.symm
  · rw [show (7, ej_T cc tt).2 i = ev_tn none (cc i) from hp i hi]
    refine ⟨Nat.zero_le _, ej_tn_c _ _ 20 (Nat.le_refl _), fun _ => 0, fun j hj => absurd hj (Nat.not_lt_zero j), fun a j _ hj => absurd hj (Nat.not_lt_zero j), fun k hk h => ?_⟩
    rw [ej_tn_h _ _ hk] at h
    cases h
