/-! 25.start -/
theorem ws_in0 : ∀ w ∈ u_ws RJ0 TJ0 2, w ∈ lw_tbl := by decide +kernel
theorem ws_in1 : ∀ w ∈ u_ws RJx00060 TJx00060 6, w ∈ lw_tbl := by decide +kernel
theorem ws_in2 : ∀ w ∈ u_ws RX2 TX2 3, w ∈ lw_tbl := by decide +kernel
theorem ws_in3 : ∀ w ∈ u_ws RX3 TX3 19, w ∈ lw_tbl := by decide +kernel
theorem ws_in4 : ∀ w ∈ u_ws RX5 TX5 8, w ∈ lw_tbl := by decide +kernel
theorem ws_in5 : ∀ w ∈ u_ws RX7 TX7 9, w ∈ lw_tbl := by decide +kernel
theorem ws_in6 : ∀ w ∈ u_ws RX8 TX8 2, w ∈ lw_tbl := by decide +kernel
theorem ws_in7 : ∀ w ∈ u_ws RX10 TX10 3, w ∈ lw_tbl := by decide +kernel
theorem ws_in8 : ∀ w ∈ u_ws RX11 TX11 4, w ∈ lw_tbl := by decide +kernel
theorem ws_R {s : State} {args : Array Value} {own tx : String} {k : Nat} (h1 : (Cond.stringRef own k tx).before args s = true) (h2 : (Cond.exactly (.string own k) "java/lang/String").before args s = true) : ∃ a : Nat, vk_R own k tx a s := by
  obtain ⟨a, c, cA, kA, q1, -⟩ := Cond.exactly_spec (args := args) (first := s) (o := none) (s := s) (idx := []) (t := .string own k) (cls := "java/lang/String") h2
  exact ⟨a, vk_R.of h1 q1⟩
/-- the classes' fields, and the two kinds of arrays -/
theorem ws_K {s : State} {args : Array Value} (hts : ∀ w ∈ lw_tbl, w.before args s = true) : ∃ (D : va_G) (cI cO : ClassId), va_K D vwCl (ev_ty cI cO) s := by
  obtain ⟨c0, i0, k0⟩ := u_known (C := RJ0) (T := TJ0) (N := 2) (n := 4) hts ws_in0 (hts (.instantiable RJ0 4) (by decide +kernel))
  obtain ⟨c1, i1, k1⟩ := u_known (C := RJx00060) (T := TJx00060) (N := 6) (n := 6) hts ws_in1 (hts (.instantiable RJx00060 6) (by decide +kernel))
  obtain ⟨c2, i2, k2⟩ := u_known (C := RX2) (T := TX2) (N := 3) (n := 3) hts ws_in2 (hts (.instantiable RX2 3) (by decide +kernel))
  obtain ⟨c3, i3, k3⟩ := u_known (C := RX3) (T := TX3) (N := 19) (n := 19) hts ws_in3 (hts (.instantiable RX3 19) (by decide +kernel))
  obtain ⟨c4, i4, k4⟩ := u_known (C := RX5) (T := TX5) (N := 8) (n := 8) hts ws_in4 (hts (.instantiable RX5 8) (by decide +kernel))
  obtain ⟨c5, i5, k5⟩ := u_known (C := RX7) (T := TX7) (N := 9) (n := 9) hts ws_in5 (hts (.instantiable RX7 9) (by decide +kernel))
  obtain ⟨c6, i6, k6⟩ := u_known (C := RX8) (T := TX8) (N := 2) (n := 2) hts ws_in6 (hts (.instantiable RX8 2) (by decide +kernel))
  obtain ⟨c7, i7, k7⟩ := u_known (C := RX10) (T := TX10) (N := 3) (n := 3) hts ws_in7 (hts (.instantiable RX10 3) (by decide +kernel))
  obtain ⟨c8, i8, k8⟩ := u_known (C := RX11) (T := TX11) (N := 4) (n := 4) hts ws_in8 (hts (.instantiable RX11 4) (by decide +kernel))
  obtain ⟨cI, kI, pI, a1, a2, a3⟩ := Cond.arrayClass_spec (args := args) (first := s) (o := none) (s := s) (idx := []) (type := .int) (hts (.arrayClass .int) (by decide +kernel))
  obtain ⟨comp, cO, kO, b1, b2, b3, b4, b5⟩ := Cond.arrayOver_spec (args := args) (first := s) (o := none) (s := s) (idx := []) (n := "EventloopRow$Thing") (hts (.arrayOver (.object "EventloopRow$Thing")) (by decide +kernel))
  refine ⟨(fun k => match k with | 0 => c0 | 1 => c1 | 2 => c2 | 3 => c3 | 4 => c4 | 5 => c5 | 6 => c6 | 7 => c7 | _ => c8, fun k => match k with | 0 => i0 | 1 => i1 | 2 => i2 | 3 => i3 | 4 => i4 | 5 => i5 | 6 => i6 | 7 => i7 | _ => i8), cI, cO, fun k q hq => ?_, fun k q hq => ?_⟩
  · match k, hq with
    | 0, hq => cases hq; exact k0
    | 1, hq => cases hq; exact k1
    | 2, hq => cases hq; exact k2
    | 3, hq => cases hq; exact k3
    | 4, hq => cases hq; exact k4
    | 5, hq => cases hq; exact k5
    | 6, hq => cases hq; exact k6
    | 7, hq => cases hq; exact k7
    | 8, hq => cases hq; exact k8
    | k + 9, hq => cases hq
  · match k, hq with
    | 0, hq => cases hq; exact ⟨fun N z => ⟨(fun k h => by cases h), kI, a2, pI, a3⟩, a1⟩
    | 1, hq => cases hq; exact ⟨fun N z => ⟨(fun k h => by cases h), kO, b3, comp, b4⟩, kO, comp, b3, b4, b1, b5⟩
    | k + 2, hq => cases hq
theorem ws_AO {s : State} {args : Array Value} (hts : ∀ w ∈ lw_tbl, w.before args s = true) : ev_AOs s := by
  intro C hC
  simp only [List.mem_cons, List.mem_nil_iff, or_false] at hC
  rcases hC with rfl | rfl | rfl | rfl
  · exact va_AO.of (hts (.arrayOver (.object "EventloopRow$Thing")) (by decide +kernel))
  · exact va_AO.of (hts (.arrayOver (.object "EventloopRow$Instruction")) (by decide +kernel))
  · exact va_AO.of (hts (.arrayOver (.object "EventloopRow$Promise")) (by decide +kernel))
  · exact va_AO.of (hts (.arrayOver (.object "EventloopRow$TimerBlock")) (by decide +kernel))
theorem ws_Ns {s : State} {args : Array Value} (hts : ∀ w ∈ lw_tbl, w.before args s = true) : ev_NsO s := fun w hw => va_Nw.of ((by decide +kernel : ∀ w ∈ ev_Nst, w.onTables = true) w hw) (hts w ((by decide +kernel : ∀ w ∈ ev_Nst, w ∈ lw_tbl) w hw))
theorem ws_Ex {s : State} {args : Array Value} (hts : ∀ w ∈ lw_tbl, w.before args s = true) (hg : ∀ w ∈ flatC (Jvm.Cond.and given_1 narrow_1), w.before args s = true) : ev_Ex (ej_A s) s s.heap := by
  have hA : ∀ a : Nat, a < s.heap.size → ¬ ej_A s a := fun a h z => absurd h (Nat.not_lt.mpr z)
  refine ⟨vx_Zqof (args := args) (hts _ (by decide +kernel)) (hts (.initialized "java/lang/Throwable") (by decide +kernel)) (hg _ (by decide +kernel)) hA, vx_Zqof (args := args) (hts _ (by decide +kernel)) (hts (.initialized "java/lang/Throwable") (by decide +kernel)) (hg _ (by decide +kernel)) hA, fun X hX => va_Nw.of rfl (hts _ ((by decide +kernel : ∀ X ∈ ev_Xc, Cond.castable X X ∈ lw_tbl) X hX)), fun q hq => ws_R (hts _ ((by decide +kernel : ∀ q ∈ ev_Xs, Cond.stringRef RX11 q.1 q.2 ∈ lw_tbl) q hq)) (hg _ ((by decide +kernel : ∀ q ∈ ev_Xs, Cond.exactly (.string RX11 q.1) "java/lang/String" ∈ flatC (Jvm.Cond.and given_1 narrow_1)) q hq)), fun q hq => va_Nc.of (hg _ ((by decide +kernel : ∀ q ∈ ev_Xn, Cond.not (.castable q.1 q.2) ∈ flatC (Jvm.Cond.and given_1 narrow_1)) q hq)), fun y hy => va_Nw.of rfl (hts _ ((by decide +kernel : ∀ y ∈ ev_Xd, Cond.declares y ∈ lw_tbl) y hy))⟩
theorem ws_T {f f' : Nat → Value} {ty : FieldType} {t N : Nat} {A : Nat → Prop} {U : State} {H : Heap} (h : va_T ty t N f A U H) (he : ∀ j, j < N → f j = f' j) : va_T ty t N f' A U H := by
  obtain ⟨cell, h1, h2, h3, h4, h5, h6, h7⟩ := h
  exact ⟨cell, h1, h2, h3, h4, h5, fun j hj => by rw [h6 j hj, he j hj], h7⟩
theorem ws_S {s : State} {args : Array Value} (hts : ∀ w ∈ lw_tbl, w.before args s = true) (hg : ∀ w ∈ flatC (Jvm.Cond.and given_1 narrow_1), w.before args s = true) : ∃ a0 t0 : Nat, es_S (ej_A s) a0 t0 s s.heap ∧ vk_R RL 141 "ghsd" a0 s := by
  have hA : ∀ a : Nat, a < s.heap.size → ¬ ej_A s a := fun a h z => absurd h (Nat.not_lt.mpr z)
  obtain ⟨adK, adV, hS, hK⟩ := vk_Sof (args := args) (s := s) (N := 1) (tm := fun _ => .string RL 141) (len := [4]) (byt := [[103, 104, 115, 100]]) (A := ej_A s) (fun i hi => by have : i = 0 := (by omega); subst this; decide) (fun i hi => hg _ (by decide +kernel)) (fun i hi => hg _ (by decide +kernel)) (fun i hi => hg _ (by decide +kernel)) (fun i hi => by have : i = 0 := (by omega); subst this; exact hg _ (by decide +kernel))
    (fun i hi j hj => by
      have : i = 0 := by omega
      subst this
      have hj : j < 4 := hj
      rcases j with _ | _ | _ | _ | j
      · exact hg (.eq (.elem (.field (.string "EventloopRowLaw" 141) "java/lang/String" "value" "[B") (.int 0)) (.int 103)) (by decide +kernel)
      · exact hg (.eq (.elem (.field (.string "EventloopRowLaw" 141) "java/lang/String" "value" "[B") (.int 1)) (.int 104)) (by decide +kernel)
      · exact hg (.eq (.elem (.field (.string "EventloopRowLaw" 141) "java/lang/String" "value" "[B") (.int 2)) (.int 115)) (by decide +kernel)
      · exact hg (.eq (.elem (.field (.string "EventloopRowLaw" 141) "java/lang/String" "value" "[B") (.int 3)) (.int 100)) (by decide +kernel)
      · omega)
    (fun i j hi hj h => by exfalso; omega) hA
  obtain ⟨h1, h2, h3, h4⟩ := hS.1 0 (by decide)
  refine ⟨adK 0, adV 0, ⟨h1, h2, h3, ws_T (N := 4) h4 (fun j hj => ?_), va_Zof (args := args) (hts (.laysStatic "java/lang/String" "COMPACT_STRINGS" "Z") (by decide +kernel)) (hts (.initialized "java/lang/String") (by decide +kernel)) (va_eqi (hg _ (by decide +kernel))) hA, va_Zqof (args := args) (hts (.laysStatic "jdk/internal/util/Preconditions" "SIOOBE_FORMATTER" "Ljava/util/function/BiFunction;") (by decide +kernel)) (hts (.initialized "jdk/internal/util/Preconditions") (by decide +kernel)) (hg _ (by decide +kernel)) hA⟩, vk_R.of (hts (.stringRef RL 141 "ghsd") (by decide +kernel)) (hK 0 (by decide))⟩
  rcases j with _ | _ | _ | _ | j
  · rfl
  · rfl
  · rfl
  · rfl
  · omega
/-! THE CLAIM OUT OF ONE WALK OF THE LAW'S BODY. Your part is whole_start (and what it stands on); all else here is the same for every law, but numbers. -/
def R_law : String := "EventloopRowLaw"
def lw_P (b : Addr) (xs : List Int32) (args : Array Value) (s : State) : Prop := args = #[.ref b] ∧ s.IntsAt b xs ∧ xs.length ≤ 260 ∧ (Jvm.Cond.and given_1 narrow_1).before args s = true
def lw_Q (_ : Array Value) (s : State) (o : Outcome) (t : State) : Prop := o = .returned (some (.int 1)) ∧ Framed s o t [] 600258 7291722
def lw_Z (below : List Frame) (a : Array Value) (s : State) : State → Prop := fun t => ∃ o, t.status = .running ∧ Ended t below o ∧ lw_Q a s o t
/-- the law's own end, with 1 on the stack, nothing written that was there before, its room as the claim has it -/
theorem lw_ret {p : Program} {l : Launch} {e : Env} {s : State} {m : MethodId} {below : List Frame} {meth : Method} {c : Code} {b : Nat} (hx : p.tables.exec = Jvm.exec) (hb : c.code = code) (hr : meth.sig.returnType = ret) (hlocks : meth.locks = false) {pc : Nat} {H : Heap} {ls : Array Slot} (hdg : decode code pc = .ok (.ireturn, 1)) : W p l e room_1 s m #[Value.ref b] below meth c H [] 600258 7291722 (lw_Z below #[Value.ref b] s) (F0 m pc ls [.int 1]) := by
  intro T hT X
  obtain ⟨fs, hret, hrun, hended, hW, hframe⟩ := X.leave (v := some (.int 1)) (hlocks := hlocks) (fun h => by rw [hr] at h; cases h)
  have hmeth' : T.vm.method? m = some meth := X.method'
  refine ⟨T.setFrames fs, ?_, .returned (some (.int 1)), hrun, hended, rfl, ⟨_, rfl⟩, hW, hframe⟩
  jvm_step X.here [X.here.top, hx, hb, hdg, hmeth', hr, ret, narrow_b1]
  (try refine ⟨rfl, ?_⟩); (try refine ⟨rfl, ?_⟩)
  first | (intro acts; rw [hret _ acts rfl rfl rfl]) | rw [hret _ _ rfl rfl rfl]
  exact Steps.refl _
/-- what holds at the law's entry: the machine, the code, the tables' words (any of lw_tbl by 'hts w (by decide +kernel)'), the script of L ints xs at the cell b, what the Statement gives of the start (any of its parts by flat_of_before) -/
def lw_At (p : Program) (s : State) (m : MethodId) (meth : Method) (c : Code) (b L : Nat) (xs : Nat → Int32) : Prop :=
  p.tables.exec = Jvm.exec ∧ c.code = code ∧ meth.sig.returnType = ret ∧ c.maxLocals = 15 ∧ s.vm.findClass R_law = some m.cls ∧ (∀ w ∈ lw_tbl, w.before #[Value.ref b] s = true) ∧ va_X b L xs s s.heap ∧ b < s.heap.size ∧ meth.locks = false ∧ (Jvm.Cond.and given_1 narrow_1).before #[Value.ref b] s = true
set_option maxHeartbeats 4000000 in
/-- the law's start, of the premises -/
theorem whole_start {p : Program} {e : Env} {s : State} {m : MethodId} {below : List Frame} {meth : Method} {c : Code} (l : Launch) (hflags : l.flags = flags0) {b L : Nat} {xs : Nat → Int32} (hL : L ≤ 260) (C0 : lw_At p s m meth c b L xs) : W p l e room_1 s m #[Value.ref b] below meth c s.heap [] 0 0 (lw_Z below #[Value.ref b] s) (entryFrame m ([Value.ref b] : List Value).toArray 15) := by
  obtain ⟨hx, hb, hr, hml, hown, hts, hX, hbl, hlocks, hgv⟩ := C0
  have hg := flat_of_before _ hgv
  have hfl : l.stackTraces = false := by
    show (!l.flags.contains noTraceFlag) = false
    rw [hflags]
    decide +kernel
  obtain ⟨D, cI, cO, hK⟩ := ws_K hts
  obtain ⟨a0, t0, hES, hR⟩ := ws_S hts hg
  have C1 : ej_C p l s m #[Value.ref b] c D cI cO a0 t0 b L xs := ⟨hx, hb, hml, hown, fun w h => hts w (wsL_law_in w h), hK, ws_AO hts, ws_Ns hts, ws_Ex hts hg, hES, hR, hX, hbl, hL, hfl⟩
  have hl := lv_entry ([.ref b]) (n := 15) (Nat.le_of_ble_eq_true rfl)
  rw [lg_entry_eq]
  generalize (lg_sl ([.ref b]) ++ List.replicate (15 - (lg_sl ([.ref b])).length) Slot.unset).toArray = ls at hl ⊢
  have hl : lv_has ls 15 [(0, .ref b)] := hl
  have KE : ∀ (H : Heap) (locs : List Loc) (ls : Array Slot), va_S (ej_A s) s.heap H locs → W p l e room_1 s m #[Value.ref b] below meth c H locs 600258 7291722 (lw_Z below #[Value.ref b] s) (F0 m 998 ls [.int (nI 1)]) := fun H locs ls hS => va_forget hS.2.2 (lw_ret hx hb hr hlocks dL_law_998)
  exact ej_setup C1 (fun bb ad qn f od n H locs ls hI hH hl => ej_loop C1 (fun st f od n H locs ls hI hZ hH hl => ej_final C1 KE hI hZ hH hl) 36 0 rfl _ _ _ _ _ _ _ hI (Nat.le_refl _) ej_Z0 hH (lv_sub hl [0, 1, 2, 3, 4] rfl)) hl
