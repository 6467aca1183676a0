/-! 02.state: what a state of the class is. A thing (an object or a proxy): target, chain, revoked, closed, answers, values, rights, key row, key count; the state: how many things, and each. Cells: b 0 the EventloopRow, b 1 Things, b 2 its row, b 3 JobRow, b 4 PromiseRow (b 5 Loop, b 6, b 7 rows that nobody reads); thing i at ad i 0, its arrays at ad i 1 .. ad i 4. -/
def ev_bi (x : Bool) : Int32 := if x then 1 else 0
theorem ev_bi_t : ev_bi true = 1 := rfl
theorem ev_bi_f : ev_bi false = 0 := rfl
abbrev ev_TH : Type := Option Nat × Option Nat × Bool × Bool × (Nat → Int32) × (Nat → Int32) × (Nat → Int32) × (Nat → Int32) × Nat
def ev_tg (t : ev_TH) : Option Nat := t.1
def ev_ch (t : ev_TH) : Option Nat := t.2.1
def ev_rv (t : ev_TH) : Bool := t.2.2.1
def ev_cs (t : ev_TH) : Bool := t.2.2.2.1
def ev_an (t : ev_TH) : Nat → Int32 := t.2.2.2.2.1
def ev_va (t : ev_TH) : Nat → Int32 := t.2.2.2.2.2.1
def ev_rg (t : ev_TH) : Nat → Int32 := t.2.2.2.2.2.2.1
def ev_ke (t : ev_TH) : Nat → Int32 := t.2.2.2.2.2.2.2.1
def ev_kc (t : ev_TH) : Nat := t.2.2.2.2.2.2.2.2
abbrev ev_ST : Type := Nat × (Nat → ev_TH)
def ev_up (st : ev_ST) (i : Nat) (t : ev_TH) : ev_ST := (st.1, fun j => if j = i then t else st.2 j)
theorem ev_up_1 (st : ev_ST) (i : Nat) (t : ev_TH) : (ev_up st i t).1 = st.1 := rfl
theorem ev_up_s (st : ev_ST) (i : Nat) (t : ev_TH) : (ev_up st i t).2 i = t := by simp [ev_up]
theorem ev_up_n (st : ev_ST) {i j : Nat} (t : ev_TH) (h : j ≠ i) : (ev_up st i t).2 j = st.2 j := by simp [ev_up, h]
theorem ev_up_uu (st : ev_ST) (i : Nat) (t t' : ev_TH) : ev_up (ev_up st i t) i t' = ev_up st i t' := by
  unfold ev_up
  refine Prod.ext rfl ?_
  funext j
  by_cases h : j = i <;> simp [h]
theorem ev_up_id (st : ev_ST) (i : Nat) : ev_up st i (st.2 i) = st := by
  unfold ev_up
  refine Prod.ext rfl ?_
  funext j
  by_cases h : j = i <;> simp [h]
def ev_rf (ad : Nat → Nat → Nat) (o : Option Nat) : Value := va_rf (o.map fun j => ad j 0)
def ev_tf (ad : Nat → Nat → Nat) (i : Nat) (t : ev_TH) : List Value := [ev_rf ad (ev_tg t), .ref (ad i 1), .int (ev_bi (ev_rv t)), ev_rf ad (ev_ch t), .int (ev_bi (ev_cs t)), .ref (ad i 2), .ref (ad i 3), .ref (ad i 4), .int (nI (ev_kc t))]
def ev_cell (cI : ClassId) (ad : Nat → Nat → Nat) (i : Nat) (t : ev_TH) (c : Nat) : Nat × va_E := match c with
  | 0 => (ad i 0, .inr (5, ev_tf ad i t))
  | 1 => (ad i 1, .inl (cI, 4, .inl (ev_an t)))
  | 2 => (ad i 2, .inl (cI, 20, .inl (ev_va t)))
  | 3 => (ad i 3, .inl (cI, 20, .inl (ev_rg t)))
  | _ => (ad i 4, .inl (cI, 20, .inl (ev_ke t)))
def ev_rw (ad : Nat → Nat → Nat) (n : Nat) : Nat → Option Nat := fun j => if j < n then some (ad j 0) else none
def ev_top (cO : ClassId) (b : Nat → Nat) (ad : Nat → Nat → Nat) (n : Nat) : va_W := [(b 0, .inr (8, [.ref (b 1), .ref (b 3), .ref (b 4), .ref (b 5)])), (b 1, .inr (6, [.ref (b 2), .int (nI n)])), (b 2, .inl (cO, 12, .inr (.inr (.inr (.inr (ev_rw ad n)))))), (b 3, .inr (2, [.null, .null, .null])), (b 4, .inr (4, [.ref (b 6), .int 0, .ref (b 7), .int 0, .int 0, .int 0, .int 0, .ref (b 3)]))]
def ev_ths (cI : ClassId) (ad : Nat → Nat → Nat) (st : ev_ST) : va_W := (List.range (5 * st.1)).map fun j => ev_cell cI ad (j / 5) (st.2 (j / 5)) (j % 5)
def ev_wl (cI cO : ClassId) (b : Nat → Nat) (ad : Nat → Nat → Nat) (st : ev_ST) : va_W := ev_top cO b ad st.1 ++ ev_ths cI ad st
theorem ev_ths_at (cI : ClassId) (ad : Nat → Nat → Nat) (st : ev_ST) {i c : Nat} (hi : i < st.1) (hc : c < 5) : (ev_ths cI ad st)[5 * i + c]? = some (ev_cell cI ad i (st.2 i) c) := by
  have h1 : (5 * i + c) / 5 = i := by omega
  have h2 : (5 * i + c) % 5 = c := by omega
  have h3 : 5 * i + c < 5 * st.1 := by omega
  unfold ev_ths
  rw [List.getElem?_map, List.getElem?_range h3]
  simp only [Option.map_some, h1, h2]
theorem ev_wl_at (cI cO : ClassId) (b : Nat → Nat) (ad : Nat → Nat → Nat) (st : ev_ST) {i c : Nat} (hi : i < st.1) (hc : c < 5) : (ev_wl cI cO b ad st)[5 + (5 * i + c)]? = some (ev_cell cI ad i (st.2 i) c) := by
  unfold ev_wl
  rw [List.getElem?_append_right (by simp [ev_top])]
  rw [show 5 + (5 * i + c) - (ev_top cO b ad st.1).length = 5 * i + c from by simp [ev_top]]
  exact ev_ths_at cI ad st hi hc
theorem ev_wl_set (cI cO : ClassId) (b : Nat → Nat) (ad : Nat → Nat → Nat) (st : ev_ST) {i c : Nat} (hi : i < st.1) (hc : c < 5) (t : ev_TH) (h : ∀ k, k < 5 → k ≠ c → ev_cell cI ad i t k = ev_cell cI ad i (st.2 i) k) : (ev_wl cI cO b ad st).set (5 + (5 * i + c)) (ev_cell cI ad i t c) = ev_wl cI cO b ad (ev_up st i t) := by
  have hlen : (ev_top cO b ad st.1).length = 5 := rfl
  unfold ev_wl
  rw [List.set_append_right _ _ (by rw [hlen]; omega), hlen, show 5 + (5 * i + c) - 5 = 5 * i + c from by omega]
  rw [ev_up_1]
  congr 1
  refine List.ext_getElem? fun k => ?_
  unfold ev_ths
  rw [List.getElem?_set, List.getElem?_map, List.getElem?_map, List.length_map, List.length_range, ev_up_1]
  by_cases hk : k < 5 * st.1
  · rw [List.getElem?_range hk]
    simp only [Option.map_some]
    by_cases he : 5 * i + c = k
    · have h1 : k / 5 = i := by omega
      have h2 : k % 5 = c := by omega
      rw [if_pos he, if_pos (by omega), h1, h2, ev_up_s]
    · rw [if_neg he]
      by_cases h1 : k / 5 = i
      · have h2 : k % 5 ≠ c := by omega
        rw [h1, ev_up_s, h (k % 5) (by omega) h2]
      · rw [ev_up_n st t h1]
  · rw [if_neg (by omega), List.getElem?_eq_none (by simp; omega)]
    rfl
theorem ev_wl_addr (cI cO : ClassId) (b : Nat → Nat) (ad : Nat → Nat → Nat) (st st' : ev_ST) (h : st.1 = st'.1) : (ev_wl cI cO b ad st).map Prod.fst = (ev_wl cI cO b ad st').map Prod.fst := by
  unfold ev_wl ev_ths
  rw [h, List.map_append, List.map_append, List.map_map, List.map_map]
  congr 1
  refine List.map_congr_left fun j _ => ?_
  show (ev_cell cI ad (j / 5) (st.2 (j / 5)) (j % 5)).1 = (ev_cell cI ad (j / 5) (st'.2 (j / 5)) (j % 5)).1
  have : j % 5 < 5 := Nat.mod_lt _ (by decide)
  generalize j % 5 = z at this
  rcases z with _ | _ | _ | _ | _ <;> rfl
theorem ev_D_of {A : Nat → Prop} {w w' : va_W} (h : w.map Prod.fst = w'.map Prod.fst) (hD : va_D A w) : va_D A w' := by
  have key : ∀ (k : Nat) (q : Nat × va_E), w'[k]? = some q → ∃ q0, w[k]? = some q0 ∧ q0.1 = q.1 := by
    intro k q hk
    have h1 : (w.map Prod.fst)[k]? = some q.1 := by rw [h, List.getElem?_map, hk]; rfl
    rw [List.getElem?_map] at h1
    cases hw : w[k]? with
    | none => rw [hw] at h1; cases h1
    | some q0 => rw [hw] at h1; exact ⟨q0, rfl, Option.some.inj h1⟩
  refine ⟨fun i j x y hi hj hxy => ?_, fun k q hk => ?_⟩
  · obtain ⟨x0, h1, h2⟩ := key i x hi
    obtain ⟨y0, h3, h4⟩ := key j y hj
    exact hD.1 i j x0 y0 h1 h3 (h2.trans (hxy.trans h4.symm))
  · obtain ⟨q0, h1, h2⟩ := key k q hk
    rw [← h2]
    exact hD.2 k q0 h1
theorem ev_D_up {A : Nat → Prop} {cI cO : ClassId} {b : Nat → Nat} {ad : Nat → Nat → Nat} {st : ev_ST} (hD : va_D A (ev_wl cI cO b ad st)) (i : Nat) (t : ev_TH) : va_D A (ev_wl cI cO b ad (ev_up st i t)) := ev_D_of (ev_wl_addr cI cO b ad st _ rfl) hD
/-- the heap holds the state -/
def ev_P (D : va_G) (cI cO : ClassId) (b : Nat → Nat) (ad : Nat → Nat → Nat) (st : ev_ST) (H : Heap) : Prop := va_P D vwCl (ev_wl cI cO b ad st) H
abbrev ev_ty (cI cO : ClassId) : List (ClassId × FieldType) := [(cI, .int), (cO, .object "EventloopRow$Thing")]
def ev_Pc (D : va_G) (cI cO : ClassId) (Hp : Heap → Prop) (av : List Value) : Array Value → State → Prop := fun v U => v = av.toArray ∧ Hp U.heap ∧ va_K D vwCl (ev_ty cI cO) U
theorem ev_blind {D : va_G} {cI cO : ClassId} {Hp : Heap → Prop} {av : List Value} : FrameBlind (ev_Pc D cI cO Hp av) := fun a U g mk q => ⟨q.1, q.2.1, va_K.moved (u := U) (U := U.calling g mk a) (Vm.Alike.refl U.vm) q.2.2⟩
def ev_no : Addr → Prop := fun _ => False
/-- it returns v and leaves the heap as it is -/
def ev_QV (v : Option Value) : Array Value → State → Outcome → State → Prop := fun _ st o t => o = .returned v ∧ t.heap = st.heap
/-- it returns v, and the heap holds what Hp says; what isn't in A stays -/
def ev_QM (v : Option Value) (Hp : Heap → Prop) (A : Nat → Prop) : Array Value → State → Outcome → State → Prop := fun _ st o t => o = .returned v ∧ Hp t.heap ∧ va_F A st t
theorem ev_body {l : Launch} {D : va_G} {cI cO : ClassId} {y : MethodName} {ws ws' : List Cond} {rm : Room} {Hp : Heap → Prop} {av : List Value} {Qc : Array Value → State → Outcome → State → Prop} {mc ms : Nat} {free : Addr → Prop} {cc : ByteArray} {maxL : Nat} {ret : Option FieldType}
    (hy : plainName y.cls = true) (hw : ws = Cond.code y cc maxL ret :: ws') (hlen : (lg_sl av).length ≤ maxL)
    (body : ∀ (p : Program) (e : Env) (s : State) (m : MethodId) (args : Array Value) (below : List Frame) (meth : Method) (c : Code), p.tables.exec = Jvm.exec → c.code = cc → meth.sig.returnType = ret → c.maxLocals = maxL → s.vm.findClass y.cls = some m.cls → (∀ w ∈ ws, w.before args s = true) → meth.locks = false → meth.name = y.name → Hp s.heap → va_K D vwCl (ev_ty cI cO) s → ∀ ls : Array Slot, lv_has ls maxL (lv_args 0 av) →
      W p l e rm s m args below meth c s.heap [] 0 0 (MQ below Qc args s mc ms free) (F0 m 0 ls [])) : Met l y ws rm (ev_Pc D cI cO Hp av) Qc mc ms free := by
  refine Met.ofW (cc := cc) (maxL := maxL) (ret := ret) hy hw ?_
  intro p e s m args below meth c s₁ B hml hv
  obtain ⟨rfl, hH, hK⟩ := hv
  rw [lg_entry_eq]
  exact body p e s m _ below meth c B.exec B.bytes B.returns hml (findClass_of_methodNamed B.named) (atoms_spec (ws := ws) B.pre) B.notSynchronized (name_of_methodNamed B.named B.method).1 hH hK _ (lv_entry av (n := maxL) hlen)
section EVR
variable {p : Program} {l : Launch} {e : Env} {R : Room} {s : State} {m : MethodId} {args : Array Value} {below : List Frame} {meth : Method} {c : Code} {H : Heap} {locs : List Loc} {cells slots : Nat} {Q : State → Prop}
variable {cc : ByteArray} {pc : Nat} {ls : Array Slot} {rest : List Value} {D : va_G} {cI cO : ClassId} {b : Nat → Nat} {ad : Nat → Nat → Nat} {st : ev_ST} {A : Nat → Prop} {H0 : Heap} {Ts : List Cond} {own : String}
/-- a call of an object's method that leaves the heap as it is -/
theorem ev_cv {y : MethodName} {bytes : ByteArray} {maxL nL n index : Nat} {ret : Option FieldType} {ws : List Cond} {rm : Room} {Hp : Heap → Prop} {v : Value} {C : String} {a : Nat} {As : List Value} (S : CallFix p m c cc nL s args Ts own)
    (hM : Met l y ws rm (ev_Pc D cI cO Hp (.ref a :: As)) (ev_QV (some v)) 0 0 ev_no) (cw : CallW R s args own C index y bytes maxL ret ws rm 0 0 n) (hH : Hp H) (hK : va_K D vwCl (ev_ty cI cO) s)
    (hr : ∃ cellB : Cell, H[a]? = some cellB ∧ cellB.vm.isStatics = false ∧ s.vm.findClass C = some cellB.cls) (hn : As.length = n) (hsize : ls.size = nL) (hW : (rest.map fun v => v.category).sum ≤ 8) (hdg : decode cc pc = .ok (.invokevirtual index, 3)) (hf : cells + 0 ≤ R.cells ∧ slots + 0 ≤ R.slots)
    (kk : W p l e R s m args below meth c H locs cells slots Q (F0 m (pc + 3) ls (v :: rest))) : W p l e R s m args below meth c H locs cells slots Q (F0 m pc ls (As.reverse ++ .ref a :: rest)) := by
  have hr' := W.runV (e := e) (below := below) (meth := meth) (g := F0 m pc ls (As.reverse ++ .ref a :: rest)) (locs := locs) (rest := rest) S hM cw ⟨ev_blind, hr, fun U hU hW => ⟨rfl, by rw [hU]; exact hH, va_K.moved hW.alike hK⟩⟩ rfl hn hsize rfl (lv_room hW) hdg hf
  intro T hT X
  obtain ⟨v', st₀, t, T', L, h0, X', hL, e1, ⟨hv, hh⟩, st⟩ := hr' T hT X
  cases hv
  obtain ⟨t2, a1, b1⟩ := kk T' (by rw [e1, hh, h0]) (Stand.forget X' (fun q h => (hL q h).elim))
  exact ⟨t2, st t2 a1, b1⟩
/-- a call of a static method that leaves the heap as it is -/
theorem ev_cst {y : MethodName} {bytes : ByteArray} {maxL nL n index : Nat} {ret : Option FieldType} {ws : List Cond} {rm : Room} {Hp : Heap → Prop} {v : Value} {As : List Value} (S : CallFix p m c cc nL s args Ts own)
    (hM : Met l y ws rm (ev_Pc D cI cO Hp As) (ev_QV (some v)) 0 0 ev_no) (cw : CallB R s args own index y bytes maxL ret ws rm 0 0 n ∧ (Cond.static y).before args s = true) (hH : Hp H) (hK : va_K D vwCl (ev_ty cI cO) s)
    (hn : As.length = n) (hsize : ls.size = nL) (hW : (rest.map fun v => v.category).sum ≤ 8) (hdg : decode cc pc = .ok (.invokestatic index, 3)) (hf : cells + 0 ≤ R.cells ∧ slots + 0 ≤ R.slots)
    (kk : W p l e R s m args below meth c H locs cells slots Q (F0 m (pc + 3) ls (v :: rest))) : W p l e R s m args below meth c H locs cells slots Q (F0 m pc ls (As.reverse ++ rest)) := by
  have hr' := W.runS (e := e) (below := below) (meth := meth) (g := F0 m pc ls (As.reverse ++ rest)) (locs := locs) (rest := rest) S hM cw ⟨ev_blind, fun U hU hW => ⟨rfl, by rw [hU]; exact hH, va_K.moved hW.alike hK⟩⟩ rfl hn hsize rfl (lv_room hW) hdg hf
  intro T hT X
  obtain ⟨v', st₀, t, T', L, h0, X', hL, e1, ⟨hv, hh⟩, st⟩ := hr' T hT X
  cases hv
  obtain ⟨t2, a1, b1⟩ := kk T' (by rw [e1, hh, h0]) (Stand.forget X' (fun q h => (hL q h).elim))
  exact ⟨t2, st t2 a1, b1⟩
/-- a call of an object's method that writes within A -/
theorem ev_mv {y : MethodName} {bytes : ByteArray} {maxL nL n index mc ms : Nat} {ret : Option FieldType} {ws : List Cond} {rm : Room} {Hp Hp' : Heap → Prop} {v : Option Value} {C : String} {a : Nat} {As : List Value} (S : CallFix p m c cc nL s args Ts own)
    (hM : Met l y ws rm (ev_Pc D cI cO Hp (.ref a :: As)) (ev_QM v Hp' A) mc ms A) (cw : CallW R s args own C index y bytes maxL ret ws rm mc ms n) (hH : Hp H) (hK : va_K D vwCl (ev_ty cI cO) s) (hS : va_S A H0 H locs)
    (hr : ∃ cellB : Cell, H[a]? = some cellB ∧ cellB.vm.isStatics = false ∧ s.vm.findClass C = some cellB.cls) (hn : As.length = n) (hsize : ls.size = nL) (hW : (rest.map fun v => v.category).sum ≤ 8) (hdg : decode cc pc = .ok (.invokevirtual index, 3)) (hf : cells + mc ≤ R.cells ∧ slots + ms ≤ R.slots)
    (kk : ∀ (H1 : Heap) (locs1 : List Loc), Hp' H1 → H.size ≤ H1.size → (∀ q : Nat, q < H.size → ¬ A q → H1[q]? = H[q]?) → va_S A H0 H1 locs1 → W p l e R s m args below meth c H1 locs1 (cells + mc) (slots + ms) Q (F0 m (pc + 3) ls (v.toList ++ rest))) : W p l e R s m args below meth c H locs cells slots Q (F0 m pc ls (As.reverse ++ .ref a :: rest)) := by
  have hr' := W.runV (e := e) (below := below) (meth := meth) (g := F0 m pc ls (As.reverse ++ .ref a :: rest)) (locs := locs) (rest := rest) S hM cw ⟨ev_blind, hr, fun U hU hW => ⟨rfl, by rw [hU]; exact hH, va_K.moved hW.alike hK⟩⟩ rfl hn hsize rfl (lv_room hW) hdg hf
  intro T hT X
  obtain ⟨v', st₀, t, T', L, h0, X', hL, e1, ⟨hv, hp, hz, hk⟩, st⟩ := hr' T hT X
  cases hv
  rw [h0] at hz hk
  obtain ⟨t2, a1, b1⟩ := kk T'.heap (locs ++ L) (by rw [e1]; exact hp) (by rw [e1]; exact hz) (fun q h1 h2 => by rw [e1]; exact hk q h1 h2)
    ⟨Nat.le_trans hS.1 (by rw [e1]; exact hz), fun q h1 h2 => by rw [e1, hk q (Nat.lt_of_lt_of_le h1 hS.1) h2]; exact hS.2.1 q h1 h2, fun q hq => by
      rcases List.mem_append.mp hq with h | h
      · exact hS.2.2 q h
      · exact hL q h⟩ T' rfl X'
  exact ⟨t2, st t2 a1, b1⟩
end EVR
theorem ev_own7 : ∀ k, k < 9 → (TX7 k).1 = "EventloopRow$Thing" := by decide +kernel
section EVS
variable {p : Program} {l : Launch} {e : Env} {R : Room} {s : State} {m : MethodId} {args : Array Value} {below : List Frame} {meth : Method} {c : Code} {H : Heap} {locs : List Loc} {cells slots : Nat} {Q : State → Prop}
variable {cc : ByteArray} {pc : Nat} {ls : Array Slot} {rest : List Value} {D : va_G} {cI cO : ClassId} {b : Nat → Nat} {ad : Nat → Nat → Nat} {st : ev_ST} {A : Nat → Prop} {H0 : Heap} {Ts : List Cond} {own : String}
/-- a thing's cell, as a callee's receiver -/
theorem ev_recv (hK : va_K D vwCl (ev_ty cI cO) s) (hP : ev_P D cI cO b ad st H) {i : Nat} (hi : i < st.1) : ∃ cellB : Cell, H[ad i 0]? = some cellB ∧ cellB.vm.isStatics = false ∧ s.vm.findClass RX7 = some cellB.cls :=
  va_recv (q := (RX7, TX7, 9)) hK hP (ci := 5) rfl (ev_wl_at cI cO b ad st hi (c := 0) (by decide))
theorem ev_recvT (hK : va_K D vwCl (ev_ty cI cO) s) (hP : ev_P D cI cO b ad st H) : ∃ cellB : Cell, H[b 1]? = some cellB ∧ cellB.vm.isStatics = false ∧ s.vm.findClass RX8 = some cellB.cls :=
  va_recv (q := (RX8, TX8, 2)) (q0 := 1) hK hP (ci := 6) rfl rfl
/-- a field of a thing -/
theorem ev_get (hx : p.tables.exec = Jvm.exec) (hb : c.code = cc) (hts : ∀ w ∈ Ts, w.before args s = true) (hin : ∀ w ∈ wsX70, w ∈ Ts) (hown : s.vm.findClass own = some m.cls) (hK : va_K D vwCl (ev_ty cI cO) s) (hP : ev_P D cI cO b ad st H) {i : Nat} {t : ev_TH} (hi : i < st.1) (ht : st.2 i = t) (k : Nat) (hk : k < 9) {index : Nat} (hlink : (Cond.fieldLink own index "EventloopRow$Thing" (TX7 k).2.1 (TX7 k).2.2.1).before args s = true) {v : Value} (hv : (ev_tf ad i t)[k]? = some v) (hdg : decode cc pc = .ok (.getfield index, 3))
    (kk : W p l e R s m args below meth c H locs cells slots Q (F0 m (pc + 3) ls (v :: rest))) : W p l e R s m args below meth c H locs cells slots Q (F0 m pc ls (.ref (ad i 0) :: rest)) :=
  va_get (D := D) (ci := 5) (C := RX7) (T := TX7) (N := 9) hx hb hts hin hown hK hP (5 + (5 * i + 0)) (ev_wl_at cI cO b ad st hi (c := 0) (by decide)) rfl k hk hlink (fun _ h => by rw [ev_own7 k hk] at h; exact h) (by rw [ht]; exact hv) hdg kk
theorem ev_foc {i : Nat} (hP : ev_P D cI cO b ad st H) : ev_P D cI cO b ad (ev_up st i (st.2 i)) H := by rw [ev_up_id]; exact hP
theorem ev_put (hx : p.tables.exec = Jvm.exec) (hb : c.code = cc) (hts : ∀ w ∈ Ts, w.before args s = true) (hin : ∀ w ∈ wsX70, w ∈ Ts) (hown : s.vm.findClass own = some m.cls) (hK : va_K D vwCl (ev_ty cI cO) s) {i : Nat} {t : ev_TH} (hP : ev_P D cI cO b ad (ev_up st i t) H) (hD : va_D A (ev_wl cI cO b ad (ev_up st i t))) (hS : va_S A H0 H locs) (hi : i < st.1) (k : Nat) (hk : k < 9) {index : Nat} (hlink : (Cond.fieldLink own index "EventloopRow$Thing" (TX7 k).2.1 (TX7 k).2.2.1).before args s = true) (hfin : (TX7 k).2.2.2 = false) {v : Value} (hn : narrow (tyX7 k) v = v) (hfit : fits (tyX7 k) v = true) (t2 : ev_TH) (ht : (ev_tf ad i t).set k v = ev_tf ad i t2) (h2 : ∀ z, 0 < z → z < 5 → ev_cell cI ad i t2 z = ev_cell cI ad i t z) (hdg : decode cc pc = .ok (.putfield index, 3))
    (kk : ∀ (H1 : Heap) (locs1 : List Loc), ev_P D cI cO b ad (ev_up st i t2) H1 → va_D A (ev_wl cI cO b ad (ev_up st i t2)) → va_S A H0 H1 locs1 → W p l e R s m args below meth c H1 locs1 cells slots Q (F0 m (pc + 3) ls rest)) : W p l e R s m args below meth c H locs cells slots Q (F0 m pc ls (v :: .ref (ad i 0) :: rest)) := by
  have hs : (ev_up st i t).2 i = t := ev_up_s st i t
  have he : (ev_wl cI cO b ad (ev_up st i t)).set (5 + (5 * i + 0)) (ad i 0, .inr (5, (ev_tf ad i ((ev_up st i t).2 i)).set k v)) = ev_wl cI cO b ad (ev_up st i t2) := by
    rw [hs, ht, ← ev_up_uu st i t t2]
    exact ev_wl_set cI cO b ad (ev_up st i t) hi (c := 0) (by decide) t2 (fun z h1 h3 => by rw [hs]; exact h2 z (Nat.pos_of_ne_zero h3) h1)
  refine va_put (D := D) (ci := 5) (v := v) (ty := tyX7 k) (C := RX7) (T := TX7) (N := 9) hx hb hts hin tyX7 tyX7_ok nmX7 hown hK hP hD hS (5 + (5 * i + 0)) (ev_wl_at cI cO b ad (ev_up st i t) hi (c := 0) (by decide)) rfl k hk hlink (fun _ h => by rw [ev_own7 k hk] at h; exact h) hfin (tyX7_ok k hk) hn hfit hk hdg (fun H1 locs1 hP1 hD1 hS1 => ?_)
  rw [he] at hP1 hD1
  exact kk H1 locs1 hP1 hD1 hS1
/-- an element of a thing's row -/
theorem ev_ald (hx : p.tables.exec = Jvm.exec) (hb : c.code = cc) (hK : va_K D vwCl (ev_ty cI cO) s) (hP : ev_P D cI cO b ad st H) {i : Nat} {t : ev_TH} (hi : i < st.1) (ht : st.2 i = t) (z : Nat) (hz : z < 5) {n : Nat} {f : Nat → Int32} (hc : ev_cell cI ad i t z = (ad i z, .inl (cI, n, .inl f))) (j : Nat) (hj : j < n) (hn : n < 2 ^ 31) (hdg : decode cc pc = .ok (.iaload, 1))
    (kk : W p l e R s m args below meth c H locs cells slots Q (F0 m (pc + 1) ls (.int (f j) :: rest))) : W p l e R s m args below meth c H locs cells slots Q (F0 m pc ls (.int (nI j) :: .ref (ad i z) :: rest)) := by
  subst ht
  refine va_iald hx hb hK hP (5 + (5 * i + z)) 0 ((ev_wl_at cI cO b ad st hi hz).trans (congrArg some hc)) rfl (vp_in_nI hj hn) hdg ?_
  rw [nI_clamp (by omega)]
  exact kk
theorem ev_ast (hx : p.tables.exec = Jvm.exec) (hb : c.code = cc) (hK : va_K D vwCl (ev_ty cI cO) s) {i : Nat} {t : ev_TH} (hP : ev_P D cI cO b ad (ev_up st i t) H) (hD : va_D A (ev_wl cI cO b ad (ev_up st i t))) (hS : va_S A H0 H locs) (hi : i < st.1) (z : Nat) (hz : z < 5) {n : Nat} {f : Nat → Int32} (hc : ev_cell cI ad i t z = (ad i z, .inl (cI, n, .inl f))) (j : Nat) (hj : j < n) (hn : n < 2 ^ 31) {x : Int32} (t2 : ev_TH) (ht : ev_cell cI ad i t2 z = (ad i z, .inl (cI, n, .inl (upd f j x)))) (h2 : ∀ k, k < 5 → k ≠ z → ev_cell cI ad i t2 k = ev_cell cI ad i t k) (hdg : decode cc pc = .ok (.iastore, 1))
    (kk : ∀ (H1 : Heap) (locs1 : List Loc), ev_P D cI cO b ad (ev_up st i t2) H1 → va_D A (ev_wl cI cO b ad (ev_up st i t2)) → va_S A H0 H1 locs1 → W p l e R s m args below meth c H1 locs1 cells slots Q (F0 m (pc + 1) ls rest)) : W p l e R s m args below meth c H locs cells slots Q (F0 m pc ls (.int x :: .int (nI j) :: .ref (ad i z) :: rest)) := by
  have hs : (ev_up st i t).2 i = t := ev_up_s st i t
  refine va_iast hx hb hK hP hD hS (5 + (5 * i + z)) 0 ((ev_wl_at cI cO b ad (ev_up st i t) hi hz).trans (congrArg some (by rw [hs]; exact hc))) rfl (vp_in_nI hj hn) hdg (fun H1 locs1 hP1 hD1 hS1 => ?_)
  rw [nI_clamp (by omega), ← ht, ev_wl_set cI cO b ad (ev_up st i t) hi hz t2 (fun k h1 h3 => by rw [hs]; exact h2 k h1 h3), ev_up_uu] at hP1 hD1
  exact kk H1 locs1 hP1 hD1 hS1
/-- Things' row and count -/
theorem ev_row (hx : p.tables.exec = Jvm.exec) (hb : c.code = cc) (hts : ∀ w ∈ Ts, w.before args s = true) (hin : ∀ w ∈ wsX80, w ∈ Ts) (hown : s.vm.findClass own = some m.cls) (hK : va_K D vwCl (ev_ty cI cO) s) (hP : ev_P D cI cO b ad st H) (k : Nat) (hk : k < 2) {index : Nat} (hlink : (Cond.fieldLink own index "EventloopRow$Things" (TX8 k).2.1 (TX8 k).2.2.1).before args s = true) {v : Value} (hv : ([.ref (b 2), .int (nI st.1)] : List Value)[k]? = some v) (hdg : decode cc pc = .ok (.getfield index, 3))
    (kk : W p l e R s m args below meth c H locs cells slots Q (F0 m (pc + 3) ls (v :: rest))) : W p l e R s m args below meth c H locs cells slots Q (F0 m pc ls (.ref (b 1) :: rest)) :=
  va_get (D := D) (ci := 6) (C := RX8) (T := TX8) (N := 2) hx hb hts hin hown hK hP 1 rfl rfl k hk hlink (fun _ h => by rcases k with _ | _ | k <;> first | exact h | omega) hv hdg kk
theorem ev_rld (hx : p.tables.exec = Jvm.exec) (hb : c.code = cc) (hK : va_K D vwCl (ev_ty cI cO) s) (hP : ev_P D cI cO b ad st H) (j : Nat) (hj : j < 12) (hi : j < st.1) (hdg : decode cc pc = .ok (.aaload, 1))
    (kk : W p l e R s m args below meth c H locs cells slots Q (F0 m (pc + 1) ls (.ref (ad j 0) :: rest))) : W p l e R s m args below meth c H locs cells slots Q (F0 m pc ls (.int (nI j) :: .ref (b 2) :: rest)) := by
  refine va_aldq hx hb hK hP 2 1 (C := "EventloopRow$Thing") (f := ev_rw ad st.1) rfl rfl (vp_in_nI hj (by decide)) hdg ?_
  rw [nI_clamp (by omega), show ev_rw ad st.1 j = some (ad j 0) from if_pos hi]
  exact kk
end EVS
section EVN
/-! rows over numbers that are nI of a natural number -/
variable {p : Program} {l : Launch} {e : Env} {R : Room} {s : State} {m : MethodId} {args : Array Value} {below : List Frame} {meth : Method} {c : Code} {H : Heap} {locs : List Loc} {cells slots : Nat} {Q : State → Prop}
variable {cc : ByteArray} {pc : Nat} {ls : Array Slot} {rest : List Value}
theorem en_eq {x y : Int32} (h : x = y) (k : W p l e R s m args below meth c H locs cells slots Q (F0 m pc ls (.int y :: rest))) : W p l e R s m args below meth c H locs cells slots Q (F0 m pc ls (.int x :: rest)) := by rw [h]; exact k
theorem en_iadd (hx : p.tables.exec = Jvm.exec) (hb : c.code = cc) {a b : Nat} (n : Nat) (hn : a + b = n) (hdg : decode cc pc = .ok (.iadd, 1)) (k : W p l e R s m args below meth c H locs cells slots Q (F0 m (pc + 1) ls (.int (nI n) :: rest))) : W p l e R s m args below meth c H locs cells slots Q (F0 m pc ls (.int (nI b) :: .int (nI a) :: rest)) := by
  refine lv_iadd hx hb hdg ?_
  rw [nI_add, hn]; exact k
theorem en_isub (hx : p.tables.exec = Jvm.exec) (hb : c.code = cc) {a b : Nat} (n : Nat) (hn : n + b = a) (hdg : decode cc pc = .ok (.isub, 1)) (k : W p l e R s m args below meth c H locs cells slots Q (F0 m (pc + 1) ls (.int (nI n) :: rest))) : W p l e R s m args below meth c H locs cells slots Q (F0 m pc ls (.int (nI b) :: .int (nI a) :: rest)) := by
  refine lv_isub hx hb hdg ?_
  rw [pk_sub (by omega), show a - b = n from by omega]; exact k
theorem en_imul (hx : p.tables.exec = Jvm.exec) (hb : c.code = cc) {a b : Nat} (n : Nat) (hn : a * b = n) (hdg : decode cc pc = .ok (.imul, 1)) (k : W p l e R s m args below meth c H locs cells slots Q (F0 m (pc + 1) ls (.int (nI n) :: rest))) : W p l e R s m args below meth c H locs cells slots Q (F0 m pc ls (.int (nI b) :: .int (nI a) :: rest)) := by
  refine lv_imul hx hb hdg ?_
  rw [pk_mul, hn]; exact k
theorem en_lt {a b : Nat} (ha : a < 2 ^ 31) (hb : b < 2 ^ 31) : nI a < nI b ↔ a < b := nI_ltI ha hb
end EVN
section EVM
variable {p : Program} {l : Launch} {e : Env} {R : Room} {s : State} {m : MethodId} {args : Array Value} {below : List Frame} {meth : Method} {c : Code} {H : Heap} {locs : List Loc} {cells slots : Nat} {Q : State → Prop}
variable {cc : ByteArray} {pc : Nat} {ls : Array Slot} {rest : List Value}
theorem en_if_eq (hx : p.tables.exec = Jvm.exec) (hb : c.code = cc) {a : Nat} {off : Int} (tgt : Nat) (ha : a < 2 ^ 31) (hdg : decode cc pc = .ok (.ifCond .eq off, 3)) (ht : (pc : Int) + off = (tgt : Int))
    (kt : a = 0 → W p l e R s m args below meth c H locs cells slots Q (F0 m tgt ls rest)) (kf : ¬ a = 0 → W p l e R s m args below meth c H locs cells slots Q (F0 m (pc + 3) ls rest)) : W p l e R s m args below meth c H locs cells slots Q (F0 m pc ls (.int (nI a) :: rest)) :=
  lv_if_eq hx hb hdg ht (fun h => kt ((nI_eq ha (by decide)).mp (h.trans nI_0.symm))) (fun h => kf (fun z => h (by rw [z, nI_0])))
theorem en_if_ne (hx : p.tables.exec = Jvm.exec) (hb : c.code = cc) {a : Nat} {off : Int} (tgt : Nat) (ha : a < 2 ^ 31) (hdg : decode cc pc = .ok (.ifCond .ne off, 3)) (ht : (pc : Int) + off = (tgt : Int))
    (kt : ¬ a = 0 → W p l e R s m args below meth c H locs cells slots Q (F0 m tgt ls rest)) (kf : a = 0 → W p l e R s m args below meth c H locs cells slots Q (F0 m (pc + 3) ls rest)) : W p l e R s m args below meth c H locs cells slots Q (F0 m pc ls (.int (nI a) :: rest)) :=
  lv_if_ne hx hb hdg ht (fun h => kt (fun z => h (by rw [z, nI_0]))) (fun h => kf ((nI_eq ha (by decide)).mp (h.trans nI_0.symm)))
theorem en_if_lt (hx : p.tables.exec = Jvm.exec) (hb : c.code = cc) {a : Nat} {off : Int} (tgt : Nat) (ha : a < 2 ^ 31) (hdg : decode cc pc = .ok (.ifCond .lt off, 3)) (ht : (pc : Int) + off = (tgt : Int))
    (kf : W p l e R s m args below meth c H locs cells slots Q (F0 m (pc + 3) ls rest)) : W p l e R s m args below meth c H locs cells slots Q (F0 m pc ls (.int (nI a) :: rest)) :=
  lv_if_lt hx hb hdg ht (fun h => absurd h (nI_pos ha)) (fun _ => kf)
theorem en_if_ge (hx : p.tables.exec = Jvm.exec) (hb : c.code = cc) {a : Nat} {off : Int} (tgt : Nat) (ha : a < 2 ^ 31) (hdg : decode cc pc = .ok (.ifCond .ge off, 3)) (ht : (pc : Int) + off = (tgt : Int))
    (kt : W p l e R s m args below meth c H locs cells slots Q (F0 m tgt ls rest)) : W p l e R s m args below meth c H locs cells slots Q (F0 m pc ls (.int (nI a) :: rest)) :=
  lv_if_ge hx hb hdg ht (fun _ => kt) (fun h => absurd (nI_pos' ha) h)
theorem en_if_le (hx : p.tables.exec = Jvm.exec) (hb : c.code = cc) {a : Nat} {off : Int} (tgt : Nat) (ha : a < 2 ^ 31) (hdg : decode cc pc = .ok (.ifCond .le off, 3)) (ht : (pc : Int) + off = (tgt : Int))
    (kt : a = 0 → W p l e R s m args below meth c H locs cells slots Q (F0 m tgt ls rest)) (kf : ¬ a = 0 → W p l e R s m args below meth c H locs cells slots Q (F0 m (pc + 3) ls rest)) : W p l e R s m args below meth c H locs cells slots Q (F0 m pc ls (.int (nI a) :: rest)) :=
  lv_if_le hx hb hdg ht (fun h => kt (by
    rcases Nat.eq_zero_or_pos a with z | z
    · exact z
    · exact absurd h (nI_nle z ha))) (fun h => kf (fun z => h (by rw [z, nI_0]; decide)))
theorem en_icmp_eq (hx : p.tables.exec = Jvm.exec) (hb : c.code = cc) {x y : Nat} {off : Int} (tgt : Nat) (h1 : x < 2 ^ 31) (h2 : y < 2 ^ 31) (hdg : decode cc pc = .ok (.if_icmp .eq off, 3)) (ht : (pc : Int) + off = (tgt : Int))
    (kt : x = y → W p l e R s m args below meth c H locs cells slots Q (F0 m tgt ls rest)) (kf : ¬ x = y → W p l e R s m args below meth c H locs cells slots Q (F0 m (pc + 3) ls rest)) : W p l e R s m args below meth c H locs cells slots Q (F0 m pc ls (.int (nI y) :: .int (nI x) :: rest)) :=
  lv_icmp_eq hx hb hdg ht (fun h => kt ((nI_eq h1 h2).mp h)) (fun h => kf (fun z => h (by rw [z])))
theorem en_icmp_ne (hx : p.tables.exec = Jvm.exec) (hb : c.code = cc) {x y : Nat} {off : Int} (tgt : Nat) (h1 : x < 2 ^ 31) (h2 : y < 2 ^ 31) (hdg : decode cc pc = .ok (.if_icmp .ne off, 3)) (ht : (pc : Int) + off = (tgt : Int))
    (kt : ¬ x = y → W p l e R s m args below meth c H locs cells slots Q (F0 m tgt ls rest)) (kf : x = y → W p l e R s m args below meth c H locs cells slots Q (F0 m (pc + 3) ls rest)) : W p l e R s m args below meth c H locs cells slots Q (F0 m pc ls (.int (nI y) :: .int (nI x) :: rest)) :=
  lv_icmp_ne hx hb hdg ht (fun h => kt (fun z => h (by rw [z]))) (fun h => kf ((nI_eq h1 h2).mp h))
theorem en_icmp_lt (hx : p.tables.exec = Jvm.exec) (hb : c.code = cc) {x y : Nat} {off : Int} (tgt : Nat) (h1 : x < 2 ^ 31) (h2 : y < 2 ^ 31) (hdg : decode cc pc = .ok (.if_icmp .lt off, 3)) (ht : (pc : Int) + off = (tgt : Int))
    (kt : x < y → W p l e R s m args below meth c H locs cells slots Q (F0 m tgt ls rest)) (kf : y ≤ x → W p l e R s m args below meth c H locs cells slots Q (F0 m (pc + 3) ls rest)) : W p l e R s m args below meth c H locs cells slots Q (F0 m pc ls (.int (nI y) :: .int (nI x) :: rest)) :=
  lv_icmp_lt hx hb hdg ht (fun h => kt ((nI_ltI h1 h2).mp h)) (fun h => kf (Nat.le_of_not_lt fun z => h ((nI_ltI h1 h2).mpr z)))
theorem en_icmp_ge (hx : p.tables.exec = Jvm.exec) (hb : c.code = cc) {x y : Nat} {off : Int} (tgt : Nat) (h1 : x < 2 ^ 31) (h2 : y < 2 ^ 31) (hdg : decode cc pc = .ok (.if_icmp .ge off, 3)) (ht : (pc : Int) + off = (tgt : Int))
    (kt : y ≤ x → W p l e R s m args below meth c H locs cells slots Q (F0 m tgt ls rest)) (kf : x < y → W p l e R s m args below meth c H locs cells slots Q (F0 m (pc + 3) ls rest)) : W p l e R s m args below meth c H locs cells slots Q (F0 m pc ls (.int (nI y) :: .int (nI x) :: rest)) :=
  lv_icmp_ge hx hb hdg ht (fun h => kt ((nI_leI h2 h1).mp h)) (fun h => kf (Nat.lt_of_not_le fun z => h ((nI_leI h2 h1).mpr z)))
theorem en_icmp_gt (hx : p.tables.exec = Jvm.exec) (hb : c.code = cc) {x y : Nat} {off : Int} (tgt : Nat) (h1 : x < 2 ^ 31) (h2 : y < 2 ^ 31) (hdg : decode cc pc = .ok (.if_icmp .gt off, 3)) (ht : (pc : Int) + off = (tgt : Int))
    (kt : y < x → W p l e R s m args below meth c H locs cells slots Q (F0 m tgt ls rest)) (kf : x ≤ y → W p l e R s m args below meth c H locs cells slots Q (F0 m (pc + 3) ls rest)) : W p l e R s m args below meth c H locs cells slots Q (F0 m pc ls (.int (nI y) :: .int (nI x) :: rest)) :=
  lv_icmp_gt hx hb hdg ht (fun h => kt ((nI_ltI h2 h1).mp h)) (fun h => kf (Nat.le_of_not_lt fun z => h ((nI_ltI h2 h1).mpr z)))
theorem en_icmp_le (hx : p.tables.exec = Jvm.exec) (hb : c.code = cc) {x y : Nat} {off : Int} (tgt : Nat) (h1 : x < 2 ^ 31) (h2 : y < 2 ^ 31) (hdg : decode cc pc = .ok (.if_icmp .le off, 3)) (ht : (pc : Int) + off = (tgt : Int))
    (kt : x ≤ y → W p l e R s m args below meth c H locs cells slots Q (F0 m tgt ls rest)) (kf : y < x → W p l e R s m args below meth c H locs cells slots Q (F0 m (pc + 3) ls rest)) : W p l e R s m args below meth c H locs cells slots Q (F0 m pc ls (.int (nI y) :: .int (nI x) :: rest)) :=
  lv_icmp_le hx hb hdg ht (fun h => kt ((nI_leI h1 h2).mp h)) (fun h => kf (Nat.lt_of_not_le fun z => h ((nI_leI h1 h2).mpr z)))
theorem eb_if_eq (hx : p.tables.exec = Jvm.exec) (hb : c.code = cc) {x : Bool} {off : Int} (tgt : Nat) (hdg : decode cc pc = .ok (.ifCond .eq off, 3)) (ht : (pc : Int) + off = (tgt : Int))
    (kt : x = false → W p l e R s m args below meth c H locs cells slots Q (F0 m tgt ls rest)) (kf : x = true → W p l e R s m args below meth c H locs cells slots Q (F0 m (pc + 3) ls rest)) : W p l e R s m args below meth c H locs cells slots Q (F0 m pc ls (.int (ev_bi x) :: rest)) :=
  lv_if_eq hx hb hdg ht (fun h => kt (by cases x <;> first | rfl | exact absurd h (by decide))) (fun h => kf (by cases x <;> first | rfl | exact absurd rfl h))
theorem eb_if_ne (hx : p.tables.exec = Jvm.exec) (hb : c.code = cc) {x : Bool} {off : Int} (tgt : Nat) (hdg : decode cc pc = .ok (.ifCond .ne off, 3)) (ht : (pc : Int) + off = (tgt : Int))
    (kt : x = true → W p l e R s m args below meth c H locs cells slots Q (F0 m tgt ls rest)) (kf : x = false → W p l e R s m args below meth c H locs cells slots Q (F0 m (pc + 3) ls rest)) : W p l e R s m args below meth c H locs cells slots Q (F0 m pc ls (.int (ev_bi x) :: rest)) :=
  lv_if_ne hx hb hdg ht (fun h => kt (by cases x <;> first | rfl | exact absurd rfl h)) (fun h => kf (by cases x <;> first | rfl | exact absurd h (by decide)))
theorem eo_aload_n (hx : p.tables.exec = Jvm.exec) (hb : c.code = cc) {k : Fin 4} {i : Nat} {o : Option Nat} (hdg : decode cc pc = .ok (.aload_n k, 1)) (hi : (k : Nat) = i) (hl : ls[i]? = some (.val (va_rf o)))
    (kk : W p l e R s m args below meth c H locs cells slots Q (F0 m (pc + 1) ls (va_rf o :: rest))) : W p l e R s m args below meth c H locs cells slots Q (F0 m pc ls rest) := by
  cases o with
  | none => exact lv_aload_nN hx hb hdg hi hl kk
  | some x => exact lv_aload_n hx hb hdg hi hl kk
theorem eo_aload (hx : p.tables.exec = Jvm.exec) (hb : c.code = cc) {i : Nat} {o : Option Nat} (hdg : decode cc pc = .ok (.aload i, 2)) (hl : ls[i]? = some (.val (va_rf o)))
    (kk : W p l e R s m args below meth c H locs cells slots Q (F0 m (pc + 2) ls (va_rf o :: rest))) : W p l e R s m args below meth c H locs cells slots Q (F0 m pc ls rest) := by
  cases o with
  | none => exact lv_aloadN hx hb hdg hl kk
  | some x => exact lv_aload hx hb hdg hl kk
theorem eo_astore_n (hx : p.tables.exec = Jvm.exec) (hb : c.code = cc) {k : Fin 4} {i nL : Nat} {o : Option Nat} {lv lv' : List (Nat × Value)} (hdg : decode cc pc = .ok (.astore_n k, 1)) (hi : (k : Nat) = i) (h : lv_has ls nL lv) (hn : i < nL) (hl : (i, va_rf o) :: lv.filter (fun q => !(q.1 == i) && !(q.1 + 1 == i && q.2.category == 2)) = lv')
    (kk : ∀ ls' : Array Slot, lv_has ls' nL lv' → W p l e R s m args below meth c H locs cells slots Q (F0 m (pc + 1) ls' rest)) : W p l e R s m args below meth c H locs cells slots Q (F0 m pc ls (va_rf o :: rest)) := by
  cases o with
  | none => exact lv_astore_nN hx hb hdg hi h hn hl kk
  | some x => exact lv_astore_n hx hb hdg hi h hn hl kk
theorem eo_astore (hx : p.tables.exec = Jvm.exec) (hb : c.code = cc) {i nL : Nat} {o : Option Nat} {lv lv' : List (Nat × Value)} (hdg : decode cc pc = .ok (.astore i, 2)) (h : lv_has ls nL lv) (hn : i < nL) (hl : (i, va_rf o) :: lv.filter (fun q => !(q.1 == i) && !(q.1 + 1 == i && q.2.category == 2)) = lv')
    (kk : ∀ ls' : Array Slot, lv_has ls' nL lv' → W p l e R s m args below meth c H locs cells slots Q (F0 m (pc + 2) ls' rest)) : W p l e R s m args below meth c H locs cells slots Q (F0 m pc ls (va_rf o :: rest)) := by
  cases o with
  | none => exact lv_astoreN hx hb hdg h hn hl kk
  | some x => exact lv_astore hx hb hdg h hn hl kk
theorem eo_ifnull (hx : p.tables.exec = Jvm.exec) (hb : c.code = cc) {ad : Nat → Nat → Nat} {o : Option Nat} {off : Int} (tgt : Nat) (hdg : decode cc pc = .ok (.ifnull off, 3)) (ht : (pc : Int) + off = (tgt : Int))
    (kt : o = none → W p l e R s m args below meth c H locs cells slots Q (F0 m tgt ls rest)) (kf : ∀ j, o = some j → W p l e R s m args below meth c H locs cells slots Q (F0 m (pc + 3) ls rest)) : W p l e R s m args below meth c H locs cells slots Q (F0 m pc ls (ev_rf ad o :: rest)) := by
  cases o with
  | none => exact lv_ifnullN hx hb hdg ht (kt rfl)
  | some x => exact lv_ifnull hx hb hdg (kf x rfl)
theorem eo_ifnonnull (hx : p.tables.exec = Jvm.exec) (hb : c.code = cc) {ad : Nat → Nat → Nat} {o : Option Nat} {off : Int} (tgt : Nat) (hdg : decode cc pc = .ok (.ifnonnull off, 3)) (ht : (pc : Int) + off = (tgt : Int))
    (kt : ∀ j, o = some j → W p l e R s m args below meth c H locs cells slots Q (F0 m tgt ls rest)) (kf : o = none → W p l e R s m args below meth c H locs cells slots Q (F0 m (pc + 3) ls rest)) : W p l e R s m args below meth c H locs cells slots Q (F0 m pc ls (ev_rf ad o :: rest)) := by
  cases o with
  | none => exact lv_ifnonnullN hx hb hdg (kf rfl)
  | some x => exact lv_ifnonnull hx hb hdg ht (kt x rfl)
theorem er_int {x y : Int32} (hx : p.tables.exec = Jvm.exec) (hb : c.code = cc) (hr : meth.sig.returnType = some .int) (hlocks : meth.locks = false) (h : y = x) (hdg : decode cc pc = .ok (.ireturn, 1)) : W p l e R s m args below meth c s.heap [] 0 0 (MQ below (ev_QV (some (.int x))) args s 0 0 ev_no) (F0 m pc ls [.int y]) := by
  rw [h]; exact W.iret hx hb hr (fun t ht _ => ⟨rfl, ht⟩) (fun q hq => by cases hq) hdg hlocks
theorem er_bool {y : Int32} {x : Bool} (hx : p.tables.exec = Jvm.exec) (hb : c.code = cc) (hr : meth.sig.returnType = some .boolean) (hlocks : meth.locks = false) (h : y = ev_bi x) (hdg : decode cc pc = .ok (.ireturn, 1)) : W p l e R s m args below meth c s.heap [] 0 0 (MQ below (ev_QV (some (.int (ev_bi x)))) args s 0 0 ev_no) (F0 m pc ls [.int y]) := by
  rw [h]; exact W.zret hx hb hr (by cases x <;> rfl) (fun t ht _ => ⟨rfl, ht⟩) (fun q hq => by cases hq) hdg hlocks
theorem er_char {y x : Nat} (hx : p.tables.exec = Jvm.exec) (hb : c.code = cc) (hr : meth.sig.returnType = some .char) (hlocks : meth.locks = false) (hlt : x < 65536) (h : y = x) (hdg : decode cc pc = .ok (.ireturn, 1)) : W p l e R s m args below meth c s.heap [] 0 0 (MQ below (ev_QV (some (.int (nI x)))) args s 0 0 ev_no) (F0 m pc ls [.int (nI y)]) := by
  rw [h]; exact W.zret hx hb hr (pk_charN hlt).1 (fun t ht _ => ⟨rfl, ht⟩) (fun q hq => by cases hq) hdg hlocks
theorem er_long {x y : Int64} (hx : p.tables.exec = Jvm.exec) (hb : c.code = cc) (hr : meth.sig.returnType = some .long) (hlocks : meth.locks = false) (h : y = x) (hdg : decode cc pc = .ok (.lreturn, 1)) : W p l e R s m args below meth c s.heap [] 0 0 (MQ below (ev_QV (some (.long x))) args s 0 0 ev_no) (F0 m pc ls [.long y]) := by
  rw [h]; exact W.lret hx hb hr (fun t ht _ => ⟨rfl, ht⟩) (fun q hq => by cases hq) hdg hlocks
theorem er_ref {ad : Nat → Nat → Nat} {x y : Option Nat} {C : String} (hx : p.tables.exec = Jvm.exec) (hb : c.code = cc) (hr : meth.sig.returnType = some (.object C)) (hlocks : meth.locks = false) (h : y = x) (hdg : decode cc pc = .ok (.areturn, 1)) : W p l e R s m args below meth c s.heap [] 0 0 (MQ below (ev_QV (some (ev_rf ad x))) args s 0 0 ev_no) (F0 m pc ls [ev_rf ad y]) := by
  rw [h]; exact W.aret hx hb hr (Or.inl ⟨C, rfl⟩) (by cases x <;> first | exact Or.inl rfl | exact Or.inr ⟨_, rfl⟩) (fun t ht _ => ⟨rfl, ht⟩) (fun q hq => by cases hq) hdg hlocks
/-! ends of a method that writes -/
theorem em_char {A : Nat → Prop} {Hp : Heap → Prop} {x y : Nat} (hx : p.tables.exec = Jvm.exec) (hb : c.code = cc) (hr : meth.sig.returnType = some .char) (hlocks : meth.locks = false) (hlt : x < 65536) (h : y = x) (hP : Hp H) (hS : va_S A s.heap H locs) (hdg : decode cc pc = .ok (.ireturn, 1)) : W p l e R s m args below meth c H locs cells slots (MQ below (ev_QM (some (.int (nI x))) Hp A) args s cells slots A) (F0 m pc ls [.int (nI y)]) := by
  rw [h]; exact W.zret hx hb hr (pk_charN hlt).1 (fun t ht _ => ⟨rfl, by rw [ht]; exact hP, hS.F ht⟩) hS.2.2 hdg hlocks
theorem em_bool {A : Nat → Prop} {Hp : Heap → Prop} {x : Bool} {y : Int32} (hx : p.tables.exec = Jvm.exec) (hb : c.code = cc) (hr : meth.sig.returnType = some .boolean) (hlocks : meth.locks = false) (h : y = ev_bi x) (hP : Hp H) (hS : va_S A s.heap H locs) (hdg : decode cc pc = .ok (.ireturn, 1)) : W p l e R s m args below meth c H locs cells slots (MQ below (ev_QM (some (.int (ev_bi x))) Hp A) args s cells slots A) (F0 m pc ls [.int y]) := by
  rw [h]; exact W.zret hx hb hr (by cases x <;> rfl) (fun t ht _ => ⟨rfl, by rw [ht]; exact hP, hS.F ht⟩) hS.2.2 hdg hlocks
theorem em_int {A : Nat → Prop} {Hp : Heap → Prop} {x y : Int32} (hx : p.tables.exec = Jvm.exec) (hb : c.code = cc) (hr : meth.sig.returnType = some .int) (hlocks : meth.locks = false) (h : y = x) (hP : Hp H) (hS : va_S A s.heap H locs) (hdg : decode cc pc = .ok (.ireturn, 1)) : W p l e R s m args below meth c H locs cells slots (MQ below (ev_QM (some (.int x)) Hp A) args s cells slots A) (F0 m pc ls [.int y]) := by
  rw [h]; exact W.iret hx hb hr (fun t ht _ => ⟨rfl, by rw [ht]; exact hP, hS.F ht⟩) hS.2.2 hdg hlocks
theorem em_void {A : Nat → Prop} {Hp : Heap → Prop} (hx : p.tables.exec = Jvm.exec) (hb : c.code = cc) (hr : meth.sig.returnType = none) (hlocks : meth.locks = false) (hP : Hp H) (hS : va_S A s.heap H locs) (hdg : decode cc pc = .ok (.return_, 1)) : W p l e R s m args below meth c H locs cells slots (MQ below (ev_QM none Hp A) args s cells slots A) (F0 m pc ls []) :=
  W.vret hx hb hr (fun t ht _ => ⟨rfl, by rw [ht]; exact hP, hS.F ht⟩) hS.2.2 hdg hlocks
end EVM
theorem ev_inc1 (q : Nat) : nI q + Int32.ofInt 1 = nI (q + 1) := nI_1 q
theorem ev_dec1 (q : Nat) : nI (q + 1) + Int32.ofInt (-1) = nI q := pk_m1 q
theorem ev_cat (ad : Nat → Nat → Nat) (o : Option Nat) : (ev_rf ad o).category = 1 := by cases o <;> rfl
