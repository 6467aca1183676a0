/-! 07.faces: what the class's own methods answer where they don't throw -/
theorem ev_cmp0 {x y : Int64} : lg_cmp x y = 0 ↔ x = y := by
  unfold lg_cmp
  by_cases h1 : x > y
  · rw [if_pos h1]
    refine ⟨fun h => absurd h (by decide), fun h => ?_⟩
    subst h
    rw [gt_iff_lt, Int64.lt_iff_toInt_lt] at h1
    omega
  · rw [if_neg h1]
    by_cases h2 : x = y
    · rw [if_pos h2]; exact ⟨fun _ => h2, fun _ => rfl⟩
    · rw [if_neg h2]; exact ⟨fun h => absurd h (by decide), fun h => absurd h h2⟩
theorem ev_nneg {v : Nat} (h : v < 2147483648) : ¬ nI v < -9999 := by
  rw [Int32.lt_iff_toInt_lt, nI_toInt h]
  intro z
  have : (-9999 : Int32).toInt = -9999 := by decide
  omega
section EVG
variable {p : Program} {l : Launch} {e : Env} {R : Room} {s : State} {m : MethodId} {args : Array Value} {below : List Frame} {meth : Method} {c : Code} {H : Heap} {locs : List Loc} {cells slots : Nat} {Q : State → Prop}
variable {cc : ByteArray} {pc : Nat} {ls : Array Slot} {rest : List Value} {D : va_G} {cI cO : ClassId} {b : Nat → Nat} {ad : Nat → Nat → Nat} {st : ev_ST} {Ts : List Cond} {own : String}
theorem ev_recvE (hK : va_K D vwCl (ev_ty cI cO) s) (hP : ev_P D cI cO b ad st H) : ∃ cellB : Cell, H[b 0]? = some cellB ∧ cellB.vm.isStatics = false ∧ s.vm.findClass RX11 = some cellB.cls :=
  va_recv (q := (RX11, TX11, 4)) (q0 := 0) hK hP (ci := 8) rfl rfl
theorem ev_recvJ (hK : va_K D vwCl (ev_ty cI cO) s) (hP : ev_P D cI cO b ad st H) : ∃ cellB : Cell, H[b 3]? = some cellB ∧ cellB.vm.isStatics = false ∧ s.vm.findClass RX2 = some cellB.cls :=
  va_recv (q := (RX2, TX2, 3)) (q0 := 3) hK hP (ci := 2) rfl rfl
theorem ev_recvR (hK : va_K D vwCl (ev_ty cI cO) s) (hP : ev_P D cI cO b ad st H) : ∃ cellB : Cell, H[b 4]? = some cellB ∧ cellB.vm.isStatics = false ∧ s.vm.findClass RX5 = some cellB.cls :=
  va_recv (q := (RX5, TX5, 8)) (q0 := 4) hK hP (ci := 4) rfl rfl
theorem ev_fac (hx : p.tables.exec = Jvm.exec) (hb : c.code = cc) (hts : ∀ w ∈ Ts, w.before args s = true) (hin : ∀ w ∈ wsX110, w ∈ Ts) (hown : s.vm.findClass own = some m.cls) (hK : va_K D vwCl (ev_ty cI cO) s) (hP : ev_P D cI cO b ad st H) (k : Nat) (hk : k < 4) {index : Nat} (hlink : (Cond.fieldLink own index "EventloopRow" (TX11 k).2.1 (TX11 k).2.2.1).before args s = true) {v : Value} (hv : ([.ref (b 1), .ref (b 3), .ref (b 4), .ref (b 5)] : List Value)[k]? = some v) (hdg : decode cc pc = .ok (.getfield index, 3))
    (kk : W p l e R s m args below meth c H locs cells slots Q (F0 m (pc + 3) ls (v :: rest))) : W p l e R s m args below meth c H locs cells slots Q (F0 m pc ls (.ref (b 0) :: rest)) :=
  va_get (D := D) (ci := 8) (C := RX11) (T := TX11) (N := 4) hx hb hts hin hown hK hP 0 rfl rfl k hk hlink (fun _ h => by rcases k with _ | _ | _ | _ | k <;> first | exact h | omega) hv hdg kk
theorem ev_jfst (hx : p.tables.exec = Jvm.exec) (hb : c.code = cc) (hts : ∀ w ∈ Ts, w.before args s = true) (hin : ∀ w ∈ wsX20, w ∈ Ts) (hown : s.vm.findClass own = some m.cls) (hK : va_K D vwCl (ev_ty cI cO) s) (hP : ev_P D cI cO b ad st H) {index : Nat} (hlink : (Cond.fieldLink own index "EventloopRow$JobRow" "first" "LEventloopRow$Job;").before args s = true) (hdg : decode cc pc = .ok (.getfield index, 3))
    (kk : W p l e R s m args below meth c H locs cells slots Q (F0 m (pc + 3) ls (.null :: rest))) : W p l e R s m args below meth c H locs cells slots Q (F0 m pc ls (.ref (b 3) :: rest)) :=
  va_get (D := D) (ci := 2) (C := RX2) (T := TX2) (N := 3) hx hb hts hin hown hK hP 3 rfl rfl 0 (by decide) hlink (fun _ h => h) rfl hdg kk
theorem ev_pcnt (hx : p.tables.exec = Jvm.exec) (hb : c.code = cc) (hts : ∀ w ∈ Ts, w.before args s = true) (hin : ∀ w ∈ wsX50, w ∈ Ts) (hown : s.vm.findClass own = some m.cls) (hK : va_K D vwCl (ev_ty cI cO) s) (hP : ev_P D cI cO b ad st H) {index : Nat} (hlink : (Cond.fieldLink own index "EventloopRow$PromiseRow" "count" "I").before args s = true) (hdg : decode cc pc = .ok (.getfield index, 3))
    (kk : W p l e R s m args below meth c H locs cells slots Q (F0 m (pc + 3) ls (.int (nI 0) :: rest))) : W p l e R s m args below meth c H locs cells slots Q (F0 m pc ls (.ref (b 4) :: rest)) :=
  va_get (D := D) (ci := 4) (C := RX5) (T := TX5) (N := 8) hx hb hts hin hown hK hP 4 rfl rfl 1 (by decide) hlink (fun _ h => h) rfl hdg kk
end EVG
theorem ev_ll (x : Int32) : x.toInt64.toInt32 = x := by simp
set_option maxHeartbeats 4000000 in
set_option maxRecDepth 100000 in
theorem c_X11_isKey (l : Launch) {D : va_G} {cI cO : ClassId} {b : Nat → Nat} {ad : Nat → Nat → Nat} {st : ev_ST}  {k : Nat} (hk : k < 20) : Met l yX11_isKey wsX11_isKey ({ frames := 0, cells := 0, slots := 0, locals := 0 }) (ev_Pc D cI cO (ev_P D cI cO b ad st) [.int (nI k)]) (ev_QV (some (.int (ev_bi true)))) 0 0 ev_no := by
  refine ev_body (cc := cX11_isKey) (maxL := 1) (ret := (some .boolean)) (by decide) rfl (Nat.le_of_ble_eq_true rfl) ?_
  intro p e s m args below meth c hx hb hr hml hown hts hlocks hnm hP hK ls hl
  have hl : lv_has ls 1 [(0, .int (nI k))] := hl
  refine lv_iload_n hx hb dX11_isKey_0 rfl (lv_at hl 0 rfl) ?_
  refine en_if_lt (tgt := 14) hx hb (by omega) dX11_isKey_1 (by decide) ?_
  refine lv_iload_n hx hb dX11_isKey_4 rfl (lv_at hl 0 rfl) ?_
  refine lv_bipush (v := nI 20) hx hb dX11_isKey_5 (by decide) ?_
  refine en_icmp_ge (tgt := 14) hx hb (by omega) (by omega) dX11_isKey_7 (by decide) (fun c_2 => by exfalso; omega) (fun c_2 => ?_)
  refine lv_iconst (v := nI 1) hx hb dX11_isKey_10 (by decide) ?_
  refine lv_goto (tgt := 15) hx hb dX11_isKey_11 (by decide) ?_
  exact er_bool hx hb hr hlocks rfl dX11_isKey_15
set_option maxHeartbeats 4000000 in
set_option maxRecDepth 100000 in
theorem c_X11_isKey_f (l : Launch) {D : va_G} {cI cO : ClassId} {b : Nat → Nat} {ad : Nat → Nat → Nat} {st : ev_ST}  : Met l yX11_isKey wsX11_isKey ({ frames := 0, cells := 0, slots := 0, locals := 0 }) (ev_Pc D cI cO (ev_P D cI cO b ad st) [.int (nI 20)]) (ev_QV (some (.int (ev_bi false)))) 0 0 ev_no := by
  refine ev_body (cc := cX11_isKey) (maxL := 1) (ret := (some .boolean)) (by decide) rfl (Nat.le_of_ble_eq_true rfl) ?_
  intro p e s m args below meth c hx hb hr hml hown hts hlocks hnm hP hK ls hl
  have hl : lv_has ls 1 [(0, .int (nI 20))] := hl
  refine lv_iload_n hx hb dX11_isKey_0 rfl (lv_at hl 0 rfl) ?_
  refine en_if_lt (tgt := 14) hx hb (by omega) dX11_isKey_1 (by decide) ?_
  refine lv_iload_n hx hb dX11_isKey_4 rfl (lv_at hl 0 rfl) ?_
  refine lv_bipush (v := nI 20) hx hb dX11_isKey_5 (by decide) ?_
  refine en_icmp_ge (tgt := 14) hx hb (by omega) (by omega) dX11_isKey_7 (by decide) (fun c_2 => ?_) (fun c_2 => by exfalso; omega)
  refine lv_iconst (v := nI 0) hx hb dX11_isKey_14 (by decide) ?_
  exact er_bool hx hb hr hlocks rfl dX11_isKey_15
set_option maxHeartbeats 4000000 in
set_option maxRecDepth 100000 in
theorem c_X11_isKey_m (l : Launch) {D : va_G} {cI cO : ClassId} {b : Nat → Nat} {ad : Nat → Nat → Nat} {st : ev_ST}  : Met l yX11_isKey wsX11_isKey ({ frames := 0, cells := 0, slots := 0, locals := 0 }) (ev_Pc D cI cO (ev_P D cI cO b ad st) [.int (-1)]) (ev_QV (some (.int (ev_bi false)))) 0 0 ev_no := by
  refine ev_body (cc := cX11_isKey) (maxL := 1) (ret := (some .boolean)) (by decide) rfl (Nat.le_of_ble_eq_true rfl) ?_
  intro p e s m args below meth c hx hb hr hml hown hts hlocks hnm hP hK ls hl
  have hl : lv_has ls 1 [(0, .int (-1))] := hl
  refine lv_iload_n hx hb dX11_isKey_0 rfl (lv_at hl 0 rfl) ?_
  refine lv_if_lt (tgt := 14) hx hb dX11_isKey_1 (by decide) (fun _ => ?_) (fun h => absurd h (by decide))
  refine lv_iconst (v := nI 0) hx hb dX11_isKey_14 (by decide) ?_
  exact er_bool hx hb hr hlocks rfl dX11_isKey_15
set_option maxHeartbeats 4000000 in
set_option maxRecDepth 100000 in
theorem c_X11_isValue (l : Launch) {D : va_G} {cI cO : ClassId} {b : Nat → Nat} {ad : Nat → Nat → Nat} {st : ev_ST}  {v : Nat} (hv : v ≤ 9999) : Met l yX11_isValue wsX11_isValue ({ frames := 0, cells := 0, slots := 0, locals := 0 }) (ev_Pc D cI cO (ev_P D cI cO b ad st) [.int (nI v)]) (ev_QV (some (.int (ev_bi true)))) 0 0 ev_no := by
  refine ev_body (cc := cX11_isValue) (maxL := 1) (ret := (some .boolean)) (by decide) rfl (Nat.le_of_ble_eq_true rfl) ?_
  intro p e s m args below meth c hx hb hr hml hown hts hlocks hnm hP hK ls hl
  have hl : lv_has ls 1 [(0, .int (nI v))] := hl
  refine lv_iload_n hx hb dX11_isValue_0 rfl (lv_at hl 0 rfl) ?_
  refine lv_sipush (v := -9999) hx hb dX11_isValue_1 (by decide) ?_
  refine lv_icmp_lt (tgt := 18) hx hb dX11_isValue_4 (by decide) (fun c_1 => by exfalso; exact absurd c_1 (ev_nneg (by omega))) (fun c_1 => ?_)
  refine lv_iload_n hx hb dX11_isValue_7 rfl (lv_at hl 0 rfl) ?_
  refine lv_sipush (v := nI 9999) hx hb dX11_isValue_8 (by decide) ?_
  refine en_icmp_gt (tgt := 18) hx hb (by omega) (by omega) dX11_isValue_11 (by decide) (fun c_2 => by exfalso; omega) (fun c_2 => ?_)
  refine lv_iconst (v := nI 1) hx hb dX11_isValue_14 (by decide) ?_
  refine lv_goto (tgt := 19) hx hb dX11_isValue_15 (by decide) ?_
  exact er_bool hx hb hr hlocks rfl dX11_isValue_19
set_option maxHeartbeats 4000000 in
set_option maxRecDepth 100000 in
theorem c_X11_isValue_f (l : Launch) {D : va_G} {cI cO : ClassId} {b : Nat → Nat} {ad : Nat → Nat → Nat} {st : ev_ST}  : Met l yX11_isValue wsX11_isValue ({ frames := 0, cells := 0, slots := 0, locals := 0 }) (ev_Pc D cI cO (ev_P D cI cO b ad st) [.int (nI 10000)]) (ev_QV (some (.int (ev_bi false)))) 0 0 ev_no := by
  refine ev_body (cc := cX11_isValue) (maxL := 1) (ret := (some .boolean)) (by decide) rfl (Nat.le_of_ble_eq_true rfl) ?_
  intro p e s m args below meth c hx hb hr hml hown hts hlocks hnm hP hK ls hl
  have hl : lv_has ls 1 [(0, .int (nI 10000))] := hl
  refine lv_iload_n hx hb dX11_isValue_0 rfl (lv_at hl 0 rfl) ?_
  refine lv_sipush (v := -9999) hx hb dX11_isValue_1 (by decide) ?_
  refine lv_icmp_lt (tgt := 18) hx hb dX11_isValue_4 (by decide) (fun c_1 => by exfalso; exact absurd c_1 (ev_nneg (by omega))) (fun c_1 => ?_)
  refine lv_iload_n hx hb dX11_isValue_7 rfl (lv_at hl 0 rfl) ?_
  refine lv_sipush (v := nI 9999) hx hb dX11_isValue_8 (by decide) ?_
  refine en_icmp_gt (tgt := 18) hx hb (by omega) (by omega) dX11_isValue_11 (by decide) (fun c_2 => ?_) (fun c_2 => by exfalso; omega)
  refine lv_iconst (v := nI 0) hx hb dX11_isValue_18 (by decide) ?_
  exact er_bool hx hb hr hlocks rfl dX11_isValue_19
set_option maxHeartbeats 4000000 in
set_option maxRecDepth 100000 in
theorem c_X11_kindOf_g (l : Launch) {D : va_G} {cI cO : ClassId} {b : Nat → Nat} {ad : Nat → Nat → Nat} {st : ev_ST}  : Met l yX11_kindOf wsX11_kindOf ({ frames := 0, cells := 0, slots := 0, locals := 0 }) (ev_Pc D cI cO (ev_P D cI cO b ad st) [.int (nI 103)]) (ev_QV (some (.int (nI 0)))) 0 0 ev_no := by
  refine ev_body (cc := cX11_kindOf) (maxL := 1) (ret := (some .int)) (by decide) rfl (Nat.le_of_ble_eq_true rfl) ?_
  intro p e s m args below meth c hx hb hr hml hown hts hlocks hnm hP hK ls hl
  have hl : lv_has ls 1 [(0, .int (nI 103))] := hl
  refine lv_iload_n hx hb dX11_kindOf_0 rfl (lv_at hl 0 rfl) ?_
  refine lv_lookup (tgt := 44) (off := 43) hx hb dX11_kindOf_1 (by decide) (by decide) (by decide) ?_
  refine lv_iconst (v := nI 0) hx hb dX11_kindOf_44 (by decide) ?_
  exact er_int hx hb hr hlocks rfl dX11_kindOf_45
set_option maxHeartbeats 4000000 in
set_option maxRecDepth 100000 in
theorem c_X11_kindOf_h (l : Launch) {D : va_G} {cI cO : ClassId} {b : Nat → Nat} {ad : Nat → Nat → Nat} {st : ev_ST}  : Met l yX11_kindOf wsX11_kindOf ({ frames := 0, cells := 0, slots := 0, locals := 0 }) (ev_Pc D cI cO (ev_P D cI cO b ad st) [.int (nI 104)]) (ev_QV (some (.int (nI 1)))) 0 0 ev_no := by
  refine ev_body (cc := cX11_kindOf) (maxL := 1) (ret := (some .int)) (by decide) rfl (Nat.le_of_ble_eq_true rfl) ?_
  intro p e s m args below meth c hx hb hr hml hown hts hlocks hnm hP hK ls hl
  have hl : lv_has ls 1 [(0, .int (nI 104))] := hl
  refine lv_iload_n hx hb dX11_kindOf_0 rfl (lv_at hl 0 rfl) ?_
  refine lv_lookup (tgt := 46) (off := 45) hx hb dX11_kindOf_1 (by decide) (by decide) (by decide) ?_
  refine lv_iconst (v := nI 1) hx hb dX11_kindOf_46 (by decide) ?_
  exact er_int hx hb hr hlocks rfl dX11_kindOf_47
set_option maxHeartbeats 4000000 in
set_option maxRecDepth 100000 in
theorem c_X11_kindOf_s (l : Launch) {D : va_G} {cI cO : ClassId} {b : Nat → Nat} {ad : Nat → Nat → Nat} {st : ev_ST}  : Met l yX11_kindOf wsX11_kindOf ({ frames := 0, cells := 0, slots := 0, locals := 0 }) (ev_Pc D cI cO (ev_P D cI cO b ad st) [.int (nI 115)]) (ev_QV (some (.int (nI 2)))) 0 0 ev_no := by
  refine ev_body (cc := cX11_kindOf) (maxL := 1) (ret := (some .int)) (by decide) rfl (Nat.le_of_ble_eq_true rfl) ?_
  intro p e s m args below meth c hx hb hr hml hown hts hlocks hnm hP hK ls hl
  have hl : lv_has ls 1 [(0, .int (nI 115))] := hl
  refine lv_iload_n hx hb dX11_kindOf_0 rfl (lv_at hl 0 rfl) ?_
  refine lv_lookup (tgt := 48) (off := 47) hx hb dX11_kindOf_1 (by decide) (by decide) (by decide) ?_
  refine lv_iconst (v := nI 2) hx hb dX11_kindOf_48 (by decide) ?_
  exact er_int hx hb hr hlocks rfl dX11_kindOf_49
set_option maxHeartbeats 4000000 in
set_option maxRecDepth 100000 in
theorem c_X11_kindOf_d (l : Launch) {D : va_G} {cI cO : ClassId} {b : Nat → Nat} {ad : Nat → Nat → Nat} {st : ev_ST}  : Met l yX11_kindOf wsX11_kindOf ({ frames := 0, cells := 0, slots := 0, locals := 0 }) (ev_Pc D cI cO (ev_P D cI cO b ad st) [.int (nI 100)]) (ev_QV (some (.int (nI 3)))) 0 0 ev_no := by
  refine ev_body (cc := cX11_kindOf) (maxL := 1) (ret := (some .int)) (by decide) rfl (Nat.le_of_ble_eq_true rfl) ?_
  intro p e s m args below meth c hx hb hr hml hown hts hlocks hnm hP hK ls hl
  have hl : lv_has ls 1 [(0, .int (nI 100))] := hl
  refine lv_iload_n hx hb dX11_kindOf_0 rfl (lv_at hl 0 rfl) ?_
  refine lv_lookup (tgt := 50) (off := 49) hx hb dX11_kindOf_1 (by decide) (by decide) (by decide) ?_
  refine lv_iconst (v := nI 3) hx hb dX11_kindOf_50 (by decide) ?_
  exact er_int hx hb hr hlocks rfl dX11_kindOf_51
set_option maxHeartbeats 4000000 in
set_option maxRecDepth 100000 in
theorem c_X11_kindOf_x (l : Launch) {D : va_G} {cI cO : ClassId} {b : Nat → Nat} {ad : Nat → Nat → Nat} {st : ev_ST}  : Met l yX11_kindOf wsX11_kindOf ({ frames := 0, cells := 0, slots := 0, locals := 0 }) (ev_Pc D cI cO (ev_P D cI cO b ad st) [.int (nI 120)]) (ev_QV (some (.int (-1)))) 0 0 ev_no := by
  refine ev_body (cc := cX11_kindOf) (maxL := 1) (ret := (some .int)) (by decide) rfl (Nat.le_of_ble_eq_true rfl) ?_
  intro p e s m args below meth c hx hb hr hml hown hts hlocks hnm hP hK ls hl
  have hl : lv_has ls 1 [(0, .int (nI 120))] := hl
  refine lv_iload_n hx hb dX11_kindOf_0 rfl (lv_at hl 0 rfl) ?_
  refine lv_lookup (tgt := 52) (off := 51) hx hb dX11_kindOf_1 (by decide) (by decide) (by decide) ?_
  refine lv_iconst (v := -1) hx hb dX11_kindOf_52 (by decide) ?_
  exact er_int hx hb hr hlocks rfl dX11_kindOf_53
set_option maxHeartbeats 4000000 in
set_option maxRecDepth 100000 in
theorem c_X11_isAnswer_0 (l : Launch) {D : va_G} {cI cO : ClassId} {b : Nat → Nat} {ad : Nat → Nat → Nat} {st : ev_ST}  {v : Nat} (hv : v ≤ 9999) : Met l yX11_isAnswer wsX11_isAnswer ({ frames := 1, cells := 0, slots := 0, locals := 20 }) (ev_Pc D cI cO (ev_P D cI cO b ad st) [.int (nI 0), .int (nI v)]) (ev_QV (some (.int (ev_bi true)))) 0 0 ev_no := by
  refine ev_body (cc := cX11_isAnswer) (maxL := 2) (ret := (some .boolean)) (by decide) rfl (Nat.le_of_ble_eq_true rfl) ?_
  intro p e s m args below meth c hx hb hr hml hown hts hlocks hnm hP hK ls hl
  have hl : lv_has ls 2 [(0, .int (nI 0)), (1, .int (nI v))] := hl
  refine lv_iload_n hx hb dX11_isAnswer_0 rfl (lv_at hl 0 rfl) ?_
  refine en_if_ne (tgt := 11) hx hb (by omega) dX11_isAnswer_1 (by decide) (fun c_1 => by exfalso; omega) (fun c_1 => ?_)
  refine lv_iload_n hx hb dX11_isAnswer_4 rfl (lv_at hl 1 rfl) ?_
  refine ev_cst (As := [.int (nI v)]) (rest := []) ⟨hx, hb, hml, hown, hts⟩ (c_X11_isValue l (b := b) (ad := ad) (v := v) (by omega)) (va_cwS 1 hts gX11_isAnswer_X11_isValue rfl rfl rfl (by decide +kernel) ⟨Nat.le_of_ble_eq_true rfl, Nat.le_of_ble_eq_true rfl⟩) hP hK rfl hl.1 (Nat.le_of_ble_eq_true rfl) dX11_isAnswer_5 ⟨Nat.le_of_ble_eq_true rfl, Nat.le_of_ble_eq_true rfl⟩ ?_
  refine lv_goto (tgt := 25) hx hb dX11_isAnswer_8 (by decide) ?_
  exact er_bool hx hb hr hlocks rfl dX11_isAnswer_25
set_option maxHeartbeats 4000000 in
set_option maxRecDepth 100000 in
theorem c_X11_isAnswer_1 (l : Launch) {D : va_G} {cI cO : ClassId} {b : Nat → Nat} {ad : Nat → Nat → Nat} {st : ev_ST}  {w v : Nat} (hw : 0 < w) (hw4 : w < 4) (hv : v ≤ 1) : Met l yX11_isAnswer wsX11_isAnswer ({ frames := 0, cells := 0, slots := 0, locals := 0 }) (ev_Pc D cI cO (ev_P D cI cO b ad st) [.int (nI w), .int (nI v)]) (ev_QV (some (.int (ev_bi true)))) 0 0 ev_no := by
  refine ev_body (cc := cX11_isAnswer) (maxL := 2) (ret := (some .boolean)) (by decide) rfl (Nat.le_of_ble_eq_true rfl) ?_
  intro p e s m args below meth c hx hb hr hml hown hts hlocks hnm hP hK ls hl
  have hl : lv_has ls 2 [(0, .int (nI w)), (1, .int (nI v))] := hl
  refine lv_iload_n hx hb dX11_isAnswer_0 rfl (lv_at hl 0 rfl) ?_
  refine en_if_ne (tgt := 11) hx hb (by omega) dX11_isAnswer_1 (by decide) (fun c_1 => ?_) (fun c_1 => by exfalso; omega)
  refine lv_iload_n hx hb dX11_isAnswer_11 rfl (lv_at hl 1 rfl) ?_
  refine en_if_eq (tgt := 20) hx hb (by omega) dX11_isAnswer_12 (by decide) (fun c_2 => ?_) (fun c_2 => ?_)
  ·
    refine lv_iconst (v := nI 1) hx hb dX11_isAnswer_20 (by decide) ?_
    refine lv_goto (tgt := 25) hx hb dX11_isAnswer_21 (by decide) ?_
    exact er_bool hx hb hr hlocks rfl dX11_isAnswer_25
  ·
    refine lv_iload_n hx hb dX11_isAnswer_15 rfl (lv_at hl 1 rfl) ?_
    refine lv_iconst (v := nI 1) hx hb dX11_isAnswer_16 (by decide) ?_
    refine en_icmp_ne (tgt := 24) hx hb (by omega) (by omega) dX11_isAnswer_17 (by decide) (fun c_3 => by exfalso; omega) (fun c_3 => ?_)
    refine lv_iconst (v := nI 1) hx hb dX11_isAnswer_20 (by decide) ?_
    refine lv_goto (tgt := 25) hx hb dX11_isAnswer_21 (by decide) ?_
    exact er_bool hx hb hr hlocks rfl dX11_isAnswer_25
set_option maxHeartbeats 4000000 in
set_option maxRecDepth 100000 in
theorem c_X11_isAnswer_f (l : Launch) {D : va_G} {cI cO : ClassId} {b : Nat → Nat} {ad : Nat → Nat → Nat} {st : ev_ST}  : Met l yX11_isAnswer wsX11_isAnswer ({ frames := 0, cells := 0, slots := 0, locals := 0 }) (ev_Pc D cI cO (ev_P D cI cO b ad st) [.int (nI 1), .int (nI 2)]) (ev_QV (some (.int (ev_bi false)))) 0 0 ev_no := by
  refine ev_body (cc := cX11_isAnswer) (maxL := 2) (ret := (some .boolean)) (by decide) rfl (Nat.le_of_ble_eq_true rfl) ?_
  intro p e s m args below meth c hx hb hr hml hown hts hlocks hnm hP hK ls hl
  have hl : lv_has ls 2 [(0, .int (nI 1)), (1, .int (nI 2))] := hl
  refine lv_iload_n hx hb dX11_isAnswer_0 rfl (lv_at hl 0 rfl) ?_
  refine en_if_ne (tgt := 11) hx hb (by omega) dX11_isAnswer_1 (by decide) (fun c_1 => ?_) (fun c_1 => by exfalso; omega)
  refine lv_iload_n hx hb dX11_isAnswer_11 rfl (lv_at hl 1 rfl) ?_
  refine en_if_eq (tgt := 20) hx hb (by omega) dX11_isAnswer_12 (by decide) (fun c_2 => by exfalso; omega) (fun c_2 => ?_)
  refine lv_iload_n hx hb dX11_isAnswer_15 rfl (lv_at hl 1 rfl) ?_
  refine lv_iconst (v := nI 1) hx hb dX11_isAnswer_16 (by decide) ?_
  refine en_icmp_ne (tgt := 24) hx hb (by omega) (by omega) dX11_isAnswer_17 (by decide) (fun c_3 => ?_) (fun c_3 => by exfalso; omega)
  refine lv_iconst (v := nI 0) hx hb dX11_isAnswer_24 (by decide) ?_
  exact er_bool hx hb hr hlocks rfl dX11_isAnswer_25
set_option maxHeartbeats 4000000 in
set_option maxRecDepth 100000 in
theorem c_X2_hasJob (l : Launch) {D : va_G} {cI cO : ClassId} {b : Nat → Nat} {ad : Nat → Nat → Nat} {st : ev_ST}  : Met l yX2_hasJob wsX2_hasJob ({ frames := 0, cells := 0, slots := 0, locals := 0 }) (ev_Pc D cI cO (ev_P D cI cO b ad st) [.ref (b 3)]) (ev_QV (some (.int (ev_bi false)))) 0 0 ev_no := by
  refine ev_body (cc := cX2_hasJob) (maxL := 1) (ret := (some .boolean)) (by decide) rfl (Nat.le_of_ble_eq_true rfl) ?_
  intro p e s m args below meth c hx hb hr hml hown hts hlocks hnm hP hK ls hl
  have hl : lv_has ls 1 [(0, .ref (b 3))] := hl
  have hi2 : ∀ w ∈ wsX20, w ∈ wsX2_hasJob := by decide +kernel
  refine lv_aload_n hx hb dX2_hasJob_0 rfl (lv_at hl 0 rfl) ?_
  refine ev_jfst hx hb hts hi2 hown hK hP (hts (.fieldLink RX2 48 "EventloopRow$JobRow" "first" "LEventloopRow$Job;") (by decide +kernel)) dX2_hasJob_1 ?_
  refine lv_ifnullN (tgt := 11) hx hb dX2_hasJob_4 (by decide) ?_
  refine lv_iconst (v := nI 0) hx hb dX2_hasJob_11 (by decide) ?_
  exact er_bool hx hb hr hlocks rfl dX2_hasJob_12
set_option maxHeartbeats 4000000 in
set_option maxRecDepth 100000 in
theorem c_X5_isSettledClean (l : Launch) {D : va_G} {cI cO : ClassId} {b : Nat → Nat} {ad : Nat → Nat → Nat} {st : ev_ST}  : Met l yX5_isSettledClean wsX5_isSettledClean ({ frames := 0, cells := 0, slots := 0, locals := 0 }) (ev_Pc D cI cO (ev_P D cI cO b ad st) [.ref (b 4)]) (ev_QV (some (.int (ev_bi true)))) 0 0 ev_no := by
  refine ev_body (cc := cX5_isSettledClean) (maxL := 3) (ret := (some .boolean)) (by decide) rfl (Nat.le_of_ble_eq_true rfl) ?_
  intro p e s m args below meth c hx hb hr hml hown hts hlocks hnm hP hK ls hl
  have hl : lv_has ls 3 [(0, .ref (b 4))] := hl
  have hi5 : ∀ w ∈ wsX50, w ∈ wsX5_isSettledClean := by decide +kernel
  refine lv_iconst (v := nI 0) hx hb dX5_isSettledClean_0 (by decide) ?_
  refine lv_istore_n (lv' := [(1, .int (nI 0)), (0, .ref (b 4))]) hx hb dX5_isSettledClean_1 rfl hl (by decide) rfl (fun ls hl => ?_)
  refine lv_iload_n hx hb dX5_isSettledClean_2 rfl (lv_at hl 0 rfl) ?_
  refine lv_aload_n hx hb dX5_isSettledClean_3 rfl (lv_at hl 1 rfl) ?_
  refine ev_pcnt hx hb hts hi5 hown hK hP (hts (.fieldLink RX5 25 "EventloopRow$PromiseRow" "count" "I") (by decide +kernel)) dX5_isSettledClean_4 ?_
  refine en_icmp_ge (tgt := 44) hx hb (by omega) (by omega) dX5_isSettledClean_7 (by decide) (fun c_1 => ?_) (fun c_1 => by exfalso; omega)
  refine lv_iconst (v := nI 1) hx hb dX5_isSettledClean_44 (by decide) ?_
  exact er_bool hx hb hr hlocks rfl dX5_isSettledClean_45
set_option maxHeartbeats 4000000 in
set_option maxRecDepth 100000 in
theorem c_X11_isSound (l : Launch) {D : va_G} {cI cO : ClassId} {b : Nat → Nat} {ad : Nat → Nat → Nat} {st : ev_ST}  (hn : st.1 ≤ 12) (hLS : ∀ i, i < st.1 → ev_tg (st.2 i) = none → ev_LS (st.2 i)) : Met l yX11_isSound wsX11_isSound ({ frames := 4, cells := 0, slots := 0, locals := 90 }) (ev_Pc D cI cO (ev_P D cI cO b ad st) [.ref (b 0)]) (ev_QV (some (.int (ev_bi true)))) 0 0 ev_no := by
  refine ev_body (cc := cX11_isSound) (maxL := 1) (ret := (some .boolean)) (by decide) rfl (Nat.le_of_ble_eq_true rfl) ?_
  intro p e s m args below meth c hx hb hr hml hown hts hlocks hnm hP hK ls hl
  have hl : lv_has ls 1 [(0, .ref (b 0))] := hl
  have hi11 : ∀ w ∈ wsX110, w ∈ wsX11_isSound := by decide +kernel
  refine lv_aload_n hx hb dX11_isSound_0 rfl (lv_at hl 0 rfl) ?_
  refine ev_fac (v := .ref (b 4)) hx hb hts hi11 hown hK hP 2 (by decide) (hts (.fieldLink RX11 28 "EventloopRow" "promiseRow" "LEventloopRow$PromiseRow;") (by decide +kernel)) rfl dX11_isSound_1 ?_
  refine ev_cv (As := []) (rest := []) ⟨hx, hb, hml, hown, hts⟩ (c_X5_isSettledClean l) (cwV 0 hts gX11_isSound_X5_isSettledClean rfl rfl rfl (by decide +kernel) ⟨Nat.le_of_ble_eq_true rfl, Nat.le_of_ble_eq_true rfl⟩) hP hK (ev_recvR hK hP) rfl hl.1 (Nat.le_of_ble_eq_true rfl) dX11_isSound_4 ⟨Nat.le_of_ble_eq_true rfl, Nat.le_of_ble_eq_true rfl⟩ ?_
  refine eb_if_eq (tgt := 34) hx hb dX11_isSound_7 (by decide) (fun h => by cases h) (fun _ => ?_)
  refine lv_aload_n hx hb dX11_isSound_10 rfl (lv_at hl 0 rfl) ?_
  refine ev_fac (v := .ref (b 3)) hx hb hts hi11 hown hK hP 1 (by decide) (hts (.fieldLink RX11 19 "EventloopRow" "jobRow" "LEventloopRow$JobRow;") (by decide +kernel)) rfl dX11_isSound_11 ?_
  refine ev_cv (As := []) (rest := []) ⟨hx, hb, hml, hown, hts⟩ (c_X2_hasJob l) (cwV 0 hts gX11_isSound_X2_hasJob rfl rfl rfl (by decide +kernel) ⟨Nat.le_of_ble_eq_true rfl, Nat.le_of_ble_eq_true rfl⟩) hP hK (ev_recvJ hK hP) rfl hl.1 (Nat.le_of_ble_eq_true rfl) dX11_isSound_14 ⟨Nat.le_of_ble_eq_true rfl, Nat.le_of_ble_eq_true rfl⟩ ?_
  refine eb_if_ne (tgt := 34) hx hb dX11_isSound_17 (by decide) (fun h => by cases h) (fun _ => ?_)
  refine lv_aload_n hx hb dX11_isSound_20 rfl (lv_at hl 0 rfl) ?_
  refine ev_fac (v := .ref (b 1)) hx hb hts hi11 hown hK hP 0 (by decide) (hts (.fieldLink RX11 10 "EventloopRow" "things" "LEventloopRow$Things;") (by decide +kernel)) rfl dX11_isSound_21 ?_
  refine ev_cv (As := []) (rest := []) ⟨hx, hb, hml, hown, hts⟩ (c_X8_areListed l hn hLS) (cwV 0 hts gX11_isSound_X8_areListed rfl rfl rfl (by decide +kernel) ⟨Nat.le_of_ble_eq_true rfl, Nat.le_of_ble_eq_true rfl⟩) hP hK (ev_recvT hK hP) rfl hl.1 (Nat.le_of_ble_eq_true rfl) dX11_isSound_24 ⟨Nat.le_of_ble_eq_true rfl, Nat.le_of_ble_eq_true rfl⟩ ?_
  refine eb_if_eq (tgt := 34) hx hb dX11_isSound_27 (by decide) (fun h => by cases h) (fun _ => ?_)
  refine lv_iconst (v := nI 1) hx hb dX11_isSound_30 (by decide) ?_
  refine lv_goto (tgt := 35) hx hb dX11_isSound_31 (by decide) ?_
  exact er_bool hx hb hr hlocks rfl dX11_isSound_35
set_option maxHeartbeats 4000000 in
set_option maxRecDepth 100000 in
theorem c_X11_get (l : Launch) {D : va_G} {cI cO : ClassId} {b : Nat → Nat} {ad : Nat → Nat → Nat} {st : ev_ST}  (hn : st.1 ≤ 12) (hTG : ∀ i, i < st.1 → ∀ j, ev_tg (st.2 i) = some j → j < st.1) (hCH : ∀ i, i < st.1 → ∀ j, ev_ch (st.2 i) = some j → j < st.1) {o : Nat} (ho : o < st.1) {k : Nat} (hk : k < 20) (hne : ¬ ev_gf st k 30 (some o) = 1099511627776) : Met l yX11_get wsX11_get ({ frames := 3, cells := 0, slots := 0, locals := 70 }) (ev_Pc D cI cO (ev_P D cI cO b ad st) [.ref (b 0), .int (nI o), .int (nI k)]) (ev_QV (some (.int ((ev_gf st k 30 (some o)).toInt32)))) 0 0 ev_no := by
  refine ev_body (cc := cX11_get) (maxL := 6) (ret := (some .int)) (by decide) rfl (Nat.le_of_ble_eq_true rfl) ?_
  intro p e s m args below meth c hx hb hr hml hown hts hlocks hnm hP hK ls hl
  have hl : lv_has ls 6 [(0, .ref (b 0)), (1, .int (nI o)), (2, .int (nI k))] := hl
  have hi11 : ∀ w ∈ wsX110, w ∈ wsX11_get := by decide +kernel
  refine lv_aload_n hx hb dX11_get_0 rfl (lv_at hl 0 rfl) ?_
  refine ev_fac (v := .ref (b 1)) hx hb hts hi11 hown hK hP 0 (by decide) (hts (.fieldLink RX11 10 "EventloopRow" "things" "LEventloopRow$Things;") (by decide +kernel)) rfl dX11_get_1 ?_
  refine lv_iload_n hx hb dX11_get_4 rfl (lv_at hl 1 rfl) ?_
  refine ev_cv (As := [.int (nI o)]) (rest := []) ⟨hx, hb, hml, hown, hts⟩ (c_X8_find_v l hn (j := o) ho) (cwV 1 hts gX11_get_X8_find rfl rfl rfl (by decide +kernel) ⟨Nat.le_of_ble_eq_true rfl, Nat.le_of_ble_eq_true rfl⟩) hP hK (ev_recvT hK hP) rfl hl.1 (Nat.le_of_ble_eq_true rfl) dX11_get_5 ⟨Nat.le_of_ble_eq_true rfl, Nat.le_of_ble_eq_true rfl⟩ ?_
  refine lv_astore_n (lv' := [(3, .ref (ad o 0)), (0, .ref (b 0)), (1, .int (nI o)), (2, .int (nI k))]) hx hb dX11_get_8 rfl hl (by decide) rfl (fun ls hl => ?_)
  refine lv_aload_n hx hb dX11_get_9 rfl (lv_at hl 0 rfl) ?_
  refine lv_ifnull hx hb dX11_get_10 ?_
  refine lv_iload_n hx hb dX11_get_13 rfl (lv_at hl 3 rfl) ?_
  refine ev_cst (As := [.int (nI k)]) (rest := []) ⟨hx, hb, hml, hown, hts⟩ (c_X11_isKey l (b := b) (ad := ad) (k := k) (by omega)) (va_cwS 1 hts gX11_get_X11_isKey rfl rfl rfl (by decide +kernel) ⟨Nat.le_of_ble_eq_true rfl, Nat.le_of_ble_eq_true rfl⟩) hP hK rfl hl.1 (Nat.le_of_ble_eq_true rfl) dX11_get_14 ⟨Nat.le_of_ble_eq_true rfl, Nat.le_of_ble_eq_true rfl⟩ ?_
  refine eb_if_ne (tgt := 30) hx hb dX11_get_17 (by decide) (fun _ => ?_) (fun h => by cases h)
  refine lv_aload_n hx hb dX11_get_30 rfl (lv_at hl 1 rfl) ?_
  refine ev_fac (v := .ref (b 1)) hx hb hts hi11 hown hK hP 0 (by decide) (hts (.fieldLink RX11 10 "EventloopRow" "things" "LEventloopRow$Things;") (by decide +kernel)) rfl dX11_get_31 ?_
  refine lv_aload_n hx hb dX11_get_34 rfl (lv_at hl 0 rfl) ?_
  refine lv_iload_n hx hb dX11_get_35 rfl (lv_at hl 3 rfl) ?_
  refine ev_cv (As := [.ref (ad o 0), .int (nI k)]) (rest := []) ⟨hx, hb, hml, hown, hts⟩ (c_X8_getFrom l hn hTG hCH ho (k := k) (by omega)) (cwV 2 hts gX11_get_X8_getFrom rfl rfl rfl (by decide +kernel) ⟨Nat.le_of_ble_eq_true rfl, Nat.le_of_ble_eq_true rfl⟩) hP hK (ev_recvT hK hP) rfl hl.1 (Nat.le_of_ble_eq_true rfl) dX11_get_36 ⟨Nat.le_of_ble_eq_true rfl, Nat.le_of_ble_eq_true rfl⟩ ?_
  refine lv_lstore (lv' := [(4, .long (ev_gf st k 30 (some o))), (3, .ref (ad o 0)), (0, .ref (b 0)), (1, .int (nI o)), (2, .int (nI k))]) hx hb dX11_get_39 hl (by decide) rfl (fun ls hl => ?_)
  refine lv_lload hx hb dX11_get_41 (lv_at hl 0 rfl) ?_
  refine lv_ldc2 (v := 1099511627776) hx hb hown (hts (.constantLong RX11 128 (1099511627776)) (by decide +kernel)) dX11_get_43 ?_
  refine W.lcmp hx hb dX11_get_46 ?_
  refine lv_if_ne (tgt := 60) hx hb dX11_get_47 (by decide) (fun c_2 => ?_) (fun c_2 => by exfalso; exact hne (ev_cmp0.mp c_2))
  refine lv_lload hx hb dX11_get_60 (lv_at hl 0 rfl) ?_
  refine lv_l2i hx hb dX11_get_62 rfl ?_
  exact er_int hx hb hr hlocks rfl dX11_get_63
set_option maxHeartbeats 4000000 in
set_option maxRecDepth 100000 in
theorem c_X11_has (l : Launch) {D : va_G} {cI cO : ClassId} {b : Nat → Nat} {ad : Nat → Nat → Nat} {st : ev_ST}  (hn : st.1 ≤ 12) (hTG : ∀ i, i < st.1 → ∀ j, ev_tg (st.2 i) = some j → j < st.1) (hCH : ∀ i, i < st.1 → ∀ j, ev_ch (st.2 i) = some j → j < st.1) {o : Nat} (ho : o < st.1) {k : Nat} (hk : k < 20) : Met l yX11_has wsX11_has ({ frames := 3, cells := 0, slots := 0, locals := 69 }) (ev_Pc D cI cO (ev_P D cI cO b ad st) [.ref (b 0), .int (nI o), .int (nI k)]) (ev_QV (some (.int (nI (ev_af st k 30 (some o)))))) 0 0 ev_no := by
  refine ev_body (cc := cX11_has) (maxL := 4) (ret := (some .char)) (by decide) rfl (Nat.le_of_ble_eq_true rfl) ?_
  intro p e s m args below meth c hx hb hr hml hown hts hlocks hnm hP hK ls hl
  have hl : lv_has ls 4 [(0, .ref (b 0)), (1, .int (nI o)), (2, .int (nI k))] := hl
  have hi11 : ∀ w ∈ wsX110, w ∈ wsX11_has := by decide +kernel
  refine lv_aload_n hx hb dX11_has_0 rfl (lv_at hl 0 rfl) ?_
  refine ev_fac (v := .ref (b 1)) hx hb hts hi11 hown hK hP 0 (by decide) (hts (.fieldLink RX11 10 "EventloopRow" "things" "LEventloopRow$Things;") (by decide +kernel)) rfl dX11_has_1 ?_
  refine lv_iload_n hx hb dX11_has_4 rfl (lv_at hl 1 rfl) ?_
  refine ev_cv (As := [.int (nI o)]) (rest := []) ⟨hx, hb, hml, hown, hts⟩ (c_X8_find_v l hn (j := o) ho) (cwV 1 hts gX11_has_X8_find rfl rfl rfl (by decide +kernel) ⟨Nat.le_of_ble_eq_true rfl, Nat.le_of_ble_eq_true rfl⟩) hP hK (ev_recvT hK hP) rfl hl.1 (Nat.le_of_ble_eq_true rfl) dX11_has_5 ⟨Nat.le_of_ble_eq_true rfl, Nat.le_of_ble_eq_true rfl⟩ ?_
  refine lv_astore_n (lv' := [(3, .ref (ad o 0)), (0, .ref (b 0)), (1, .int (nI o)), (2, .int (nI k))]) hx hb dX11_has_8 rfl hl (by decide) rfl (fun ls hl => ?_)
  refine lv_aload_n hx hb dX11_has_9 rfl (lv_at hl 0 rfl) ?_
  refine lv_ifnull hx hb dX11_has_10 ?_
  refine lv_iload_n hx hb dX11_has_13 rfl (lv_at hl 3 rfl) ?_
  refine ev_cst (As := [.int (nI k)]) (rest := []) ⟨hx, hb, hml, hown, hts⟩ (c_X11_isKey l (b := b) (ad := ad) (k := k) (by omega)) (va_cwS 1 hts gX11_has_X11_isKey rfl rfl rfl (by decide +kernel) ⟨Nat.le_of_ble_eq_true rfl, Nat.le_of_ble_eq_true rfl⟩) hP hK rfl hl.1 (Nat.le_of_ble_eq_true rfl) dX11_has_14 ⟨Nat.le_of_ble_eq_true rfl, Nat.le_of_ble_eq_true rfl⟩ ?_
  refine eb_if_ne (tgt := 30) hx hb dX11_has_17 (by decide) (fun _ => ?_) (fun h => by cases h)
  refine lv_aload_n hx hb dX11_has_30 rfl (lv_at hl 1 rfl) ?_
  refine ev_fac (v := .ref (b 1)) hx hb hts hi11 hown hK hP 0 (by decide) (hts (.fieldLink RX11 10 "EventloopRow" "things" "LEventloopRow$Things;") (by decide +kernel)) rfl dX11_has_31 ?_
  refine lv_aload_n hx hb dX11_has_34 rfl (lv_at hl 0 rfl) ?_
  refine lv_iload_n hx hb dX11_has_35 rfl (lv_at hl 3 rfl) ?_
  refine ev_cv (As := [.ref (ad o 0), .int (nI k)]) (rest := []) ⟨hx, hb, hml, hown, hts⟩ (c_X8_askFrom l hn hTG hCH ho (k := k) (by omega)) (cwV 2 hts gX11_has_X8_askFrom rfl rfl rfl (by decide +kernel) ⟨Nat.le_of_ble_eq_true rfl, Nat.le_of_ble_eq_true rfl⟩) hP hK (ev_recvT hK hP) rfl hl.1 (Nat.le_of_ble_eq_true rfl) dX11_has_36 ⟨Nat.le_of_ble_eq_true rfl, Nat.le_of_ble_eq_true rfl⟩ ?_
  exact er_char hx hb hr hlocks (ev_af_lt _ _ _ _) rfl dX11_has_39
set_option maxHeartbeats 4000000 in
set_option maxRecDepth 100000 in
theorem c_X11_keys (l : Launch) {D : va_G} {cI cO : ClassId} {b : Nat → Nat} {ad : Nat → Nat → Nat} {st : ev_ST}  (hn : st.1 ≤ 12) (hTG : ∀ i, i < st.1 → ∀ j, ev_tg (st.2 i) = some j → j < st.1) {o : Nat} (ho : o < st.1) {j : Nat} (hpb : ev_pb st 12 (some o) = some j) : Met l yX11_keys wsX11_keys ({ frames := 2, cells := 0, slots := 0, locals := 43 }) (ev_Pc D cI cO (ev_P D cI cO b ad st) [.ref (b 0), .int (nI o)]) (ev_QV (some (.int (nI (ev_kc (st.2 j)))))) 0 0 ev_no := by
  refine ev_body (cc := cX11_keys) (maxL := 4) (ret := (some .int)) (by decide) rfl (Nat.le_of_ble_eq_true rfl) ?_
  intro p e s m args below meth c hx hb hr hml hown hts hlocks hnm hP hK ls hl
  have hl : lv_has ls 4 [(0, .ref (b 0)), (1, .int (nI o))] := hl
  have hi7 : ∀ w ∈ wsX70, w ∈ wsX11_keys := by decide +kernel
  have hi11 : ∀ w ∈ wsX110, w ∈ wsX11_keys := by decide +kernel
  have hj : j < st.1 := ev_pb_lt hTG 12 (some o) (fun _ h => by cases h; exact ho) j hpb
  refine lv_aload_n hx hb dX11_keys_0 rfl (lv_at hl 0 rfl) ?_
  refine ev_fac (v := .ref (b 1)) hx hb hts hi11 hown hK hP 0 (by decide) (hts (.fieldLink RX11 10 "EventloopRow" "things" "LEventloopRow$Things;") (by decide +kernel)) rfl dX11_keys_1 ?_
  refine lv_iload_n hx hb dX11_keys_4 rfl (lv_at hl 1 rfl) ?_
  refine ev_cv (As := [.int (nI o)]) (rest := []) ⟨hx, hb, hml, hown, hts⟩ (c_X8_find_v l hn (j := o) ho) (cwV 1 hts gX11_keys_X8_find rfl rfl rfl (by decide +kernel) ⟨Nat.le_of_ble_eq_true rfl, Nat.le_of_ble_eq_true rfl⟩) hP hK (ev_recvT hK hP) rfl hl.1 (Nat.le_of_ble_eq_true rfl) dX11_keys_5 ⟨Nat.le_of_ble_eq_true rfl, Nat.le_of_ble_eq_true rfl⟩ ?_
  refine lv_astore_n (lv' := [(2, .ref (ad o 0)), (0, .ref (b 0)), (1, .int (nI o))]) hx hb dX11_keys_8 rfl hl (by decide) rfl (fun ls hl => ?_)
  refine lv_aload_n hx hb dX11_keys_9 rfl (lv_at hl 0 rfl) ?_
  refine lv_ifnonnull (tgt := 23) hx hb dX11_keys_10 (by decide) ?_
  refine lv_aload_n hx hb dX11_keys_23 rfl (lv_at hl 1 rfl) ?_
  refine ev_fac (v := .ref (b 1)) hx hb hts hi11 hown hK hP 0 (by decide) (hts (.fieldLink RX11 10 "EventloopRow" "things" "LEventloopRow$Things;") (by decide +kernel)) rfl dX11_keys_24 ?_
  refine lv_aload_n hx hb dX11_keys_27 rfl (lv_at hl 0 rfl) ?_
  refine ev_cv (As := [.ref (ad o 0)]) (rest := []) ⟨hx, hb, hml, hown, hts⟩ (c_X8_plainBehind l hn hTG ho) (cwV 1 hts gX11_keys_X8_plainBehind rfl rfl rfl (by decide +kernel) ⟨Nat.le_of_ble_eq_true rfl, Nat.le_of_ble_eq_true rfl⟩) hP hK (ev_recvT hK hP) rfl hl.1 (Nat.le_of_ble_eq_true rfl) dX11_keys_28 ⟨Nat.le_of_ble_eq_true rfl, Nat.le_of_ble_eq_true rfl⟩ ?_
  rw [hpb]
  refine lv_astore_n (lv' := [(3, .ref (ad j 0)), (2, .ref (ad o 0)), (0, .ref (b 0)), (1, .int (nI o))]) hx hb dX11_keys_31 rfl hl (by decide) rfl (fun ls hl => ?_)
  refine lv_aload_n hx hb dX11_keys_32 rfl (lv_at hl 0 rfl) ?_
  refine lv_ifnonnull (tgt := 46) hx hb dX11_keys_33 (by decide) ?_
  refine lv_aload_n hx hb dX11_keys_46 rfl (lv_at hl 0 rfl) ?_
  refine ev_get (v := .int (nI (ev_kc (st.2 j)))) hx hb hts hi7 hown hK hP hj rfl 8 (by decide) (hts (.fieldLink RX11 149 "EventloopRow$Thing" "keyCount" "I") (by decide +kernel)) rfl dX11_keys_47 ?_
  exact er_int hx hb hr hlocks rfl dX11_keys_50
theorem c_X7_listedAt_e (l : Launch) {D : va_G} {cI cO : ClassId} {b : Nat → Nat} {ad : Nat → Nat → Nat} {st : ev_ST} {i : Nat} {t : ev_TH} (hi : i < st.1) (ht : st.2 i = t) {j : Nat} (hc : ev_kc t ≤ 20) (hj : ev_kc t ≤ j) (hj2 : j < 2147483648) : Met l yX7_listedAt wsX7_listedAt ({ frames := 0, cells := 0, slots := 0, locals := 0 }) (ev_Pc D cI cO (ev_P D cI cO b ad st) [.ref (ad i 0), .int (nI j)]) (ev_QV (some (.int (-1)))) 0 0 ev_no := by
  have h := c_X7_listedAt l (D := D) (cI := cI) (cO := cO) (b := b) (ad := ad) hi ht (j := j) hc hj2
  rw [if_neg (by omega)] at h
  exact h
set_option maxHeartbeats 4000000 in
set_option maxRecDepth 100000 in
theorem c_X11_keyAt (l : Launch) {D : va_G} {cI cO : ClassId} {b : Nat → Nat} {ad : Nat → Nat → Nat} {st : ev_ST}  (hn : st.1 ≤ 12) (hTG : ∀ i, i < st.1 → ∀ j, ev_tg (st.2 i) = some j → j < st.1) {o : Nat} (ho : o < st.1) {j : Nat} (hpb : ev_pb st 12 (some o) = some j) {x : Nat} (hkc : ev_kc (st.2 j) ≤ 20) (hxk : x < ev_kc (st.2 j)) (hne : ¬ ev_ke (st.2 j) x = -1) : Met l yX11_keyAt wsX11_keyAt ({ frames := 2, cells := 0, slots := 0, locals := 43 }) (ev_Pc D cI cO (ev_P D cI cO b ad st) [.ref (b 0), .int (nI o), .int (nI x)]) (ev_QV (some (.int (ev_ke (st.2 j) x)))) 0 0 ev_no := by
  refine ev_body (cc := cX11_keyAt) (maxL := 6) (ret := (some .int)) (by decide) rfl (Nat.le_of_ble_eq_true rfl) ?_
  intro p e s m args below meth c hx hb hr hml hown hts hlocks hnm hP hK ls hl
  have hl : lv_has ls 6 [(0, .ref (b 0)), (1, .int (nI o)), (2, .int (nI x))] := hl
  have hi11 : ∀ w ∈ wsX110, w ∈ wsX11_keyAt := by decide +kernel
  have hj : j < st.1 := ev_pb_lt hTG 12 (some o) (fun _ h => by cases h; exact ho) j hpb
  refine lv_aload_n hx hb dX11_keyAt_0 rfl (lv_at hl 0 rfl) ?_
  refine ev_fac (v := .ref (b 1)) hx hb hts hi11 hown hK hP 0 (by decide) (hts (.fieldLink RX11 10 "EventloopRow" "things" "LEventloopRow$Things;") (by decide +kernel)) rfl dX11_keyAt_1 ?_
  refine lv_iload_n hx hb dX11_keyAt_4 rfl (lv_at hl 1 rfl) ?_
  refine ev_cv (As := [.int (nI o)]) (rest := []) ⟨hx, hb, hml, hown, hts⟩ (c_X8_find_v l hn (j := o) ho) (cwV 1 hts gX11_keyAt_X8_find rfl rfl rfl (by decide +kernel) ⟨Nat.le_of_ble_eq_true rfl, Nat.le_of_ble_eq_true rfl⟩) hP hK (ev_recvT hK hP) rfl hl.1 (Nat.le_of_ble_eq_true rfl) dX11_keyAt_5 ⟨Nat.le_of_ble_eq_true rfl, Nat.le_of_ble_eq_true rfl⟩ ?_
  refine lv_astore_n (lv' := [(3, .ref (ad o 0)), (0, .ref (b 0)), (1, .int (nI o)), (2, .int (nI x))]) hx hb dX11_keyAt_8 rfl hl (by decide) rfl (fun ls hl => ?_)
  refine lv_aload_n hx hb dX11_keyAt_9 rfl (lv_at hl 0 rfl) ?_
  refine lv_ifnonnull (tgt := 23) hx hb dX11_keyAt_10 (by decide) ?_
  refine lv_aload_n hx hb dX11_keyAt_23 rfl (lv_at hl 1 rfl) ?_
  refine ev_fac (v := .ref (b 1)) hx hb hts hi11 hown hK hP 0 (by decide) (hts (.fieldLink RX11 10 "EventloopRow" "things" "LEventloopRow$Things;") (by decide +kernel)) rfl dX11_keyAt_24 ?_
  refine lv_aload_n hx hb dX11_keyAt_27 rfl (lv_at hl 0 rfl) ?_
  refine ev_cv (As := [.ref (ad o 0)]) (rest := []) ⟨hx, hb, hml, hown, hts⟩ (c_X8_plainBehind l hn hTG ho) (cwV 1 hts gX11_keyAt_X8_plainBehind rfl rfl rfl (by decide +kernel) ⟨Nat.le_of_ble_eq_true rfl, Nat.le_of_ble_eq_true rfl⟩) hP hK (ev_recvT hK hP) rfl hl.1 (Nat.le_of_ble_eq_true rfl) dX11_keyAt_28 ⟨Nat.le_of_ble_eq_true rfl, Nat.le_of_ble_eq_true rfl⟩ ?_
  rw [hpb]
  refine lv_astore (lv' := [(4, .ref (ad j 0)), (3, .ref (ad o 0)), (0, .ref (b 0)), (1, .int (nI o)), (2, .int (nI x))]) hx hb dX11_keyAt_31 hl (by decide) rfl (fun ls hl => ?_)
  refine lv_aload hx hb dX11_keyAt_33 (lv_at hl 0 rfl) ?_
  refine lv_ifnonnull (tgt := 48) hx hb dX11_keyAt_35 (by decide) ?_
  refine lv_aload hx hb dX11_keyAt_48 (lv_at hl 0 rfl) ?_
  refine lv_iload_n hx hb dX11_keyAt_50 rfl (lv_at hl 4 rfl) ?_
  refine ev_cv (As := [.int (nI x)]) (rest := []) ⟨hx, hb, hml, hown, hts⟩ (c_X7_listedAt_i l hj rfl hkc (j := x) hxk) (cwV 1 hts gX11_keyAt_X7_listedAt rfl rfl rfl (by decide +kernel) ⟨Nat.le_of_ble_eq_true rfl, Nat.le_of_ble_eq_true rfl⟩) hP hK (ev_recv hK hP hj) rfl hl.1 (Nat.le_of_ble_eq_true rfl) dX11_keyAt_51 ⟨Nat.le_of_ble_eq_true rfl, Nat.le_of_ble_eq_true rfl⟩ ?_
  refine lv_istore (lv' := [(5, .int (ev_ke (st.2 j) x)), (4, .ref (ad j 0)), (3, .ref (ad o 0)), (0, .ref (b 0)), (1, .int (nI o)), (2, .int (nI x))]) hx hb dX11_keyAt_54 hl (by decide) rfl (fun ls hl => ?_)
  refine lv_iload hx hb dX11_keyAt_56 (lv_at hl 0 rfl) ?_
  refine lv_iconst (v := -1) hx hb dX11_keyAt_58 (by decide) ?_
  refine lv_icmp_ne (tgt := 72) hx hb dX11_keyAt_59 (by decide) (fun c_1 => ?_) (fun c_1 => by exfalso; exact hne c_1)
  refine lv_iload hx hb dX11_keyAt_72 (lv_at hl 0 rfl) ?_
  exact er_int hx hb hr hlocks rfl dX11_keyAt_74
set_option maxHeartbeats 4000000 in
set_option maxRecDepth 100000 in
theorem c_X11_rights (l : Launch) {D : va_G} {cI cO : ClassId} {b : Nat → Nat} {ad : Nat → Nat → Nat} {st : ev_ST}  (hn : st.1 ≤ 12) (hTG : ∀ i, i < st.1 → ∀ j, ev_tg (st.2 i) = some j → j < st.1) {o : Nat} (ho : o < st.1) {j : Nat} (hpb : ev_pb st 12 (some o) = some j) {k : Nat} (hk : k < 20) (hne : ¬ ev_rg (st.2 j) k = -1) : Met l yX11_rights wsX11_rights ({ frames := 2, cells := 0, slots := 0, locals := 43 }) (ev_Pc D cI cO (ev_P D cI cO b ad st) [.ref (b 0), .int (nI o), .int (nI k)]) (ev_QV (some (.int (ev_rg (st.2 j) k)))) 0 0 ev_no := by
  refine ev_body (cc := cX11_rights) (maxL := 6) (ret := (some .int)) (by decide) rfl (Nat.le_of_ble_eq_true rfl) ?_
  intro p e s m args below meth c hx hb hr hml hown hts hlocks hnm hP hK ls hl
  have hl : lv_has ls 6 [(0, .ref (b 0)), (1, .int (nI o)), (2, .int (nI k))] := hl
  have hi11 : ∀ w ∈ wsX110, w ∈ wsX11_rights := by decide +kernel
  have hj : j < st.1 := ev_pb_lt hTG 12 (some o) (fun _ h => by cases h; exact ho) j hpb
  refine lv_aload_n hx hb dX11_rights_0 rfl (lv_at hl 0 rfl) ?_
  refine ev_fac (v := .ref (b 1)) hx hb hts hi11 hown hK hP 0 (by decide) (hts (.fieldLink RX11 10 "EventloopRow" "things" "LEventloopRow$Things;") (by decide +kernel)) rfl dX11_rights_1 ?_
  refine lv_iload_n hx hb dX11_rights_4 rfl (lv_at hl 1 rfl) ?_
  refine ev_cv (As := [.int (nI o)]) (rest := []) ⟨hx, hb, hml, hown, hts⟩ (c_X8_find_v l hn (j := o) ho) (cwV 1 hts gX11_rights_X8_find rfl rfl rfl (by decide +kernel) ⟨Nat.le_of_ble_eq_true rfl, Nat.le_of_ble_eq_true rfl⟩) hP hK (ev_recvT hK hP) rfl hl.1 (Nat.le_of_ble_eq_true rfl) dX11_rights_5 ⟨Nat.le_of_ble_eq_true rfl, Nat.le_of_ble_eq_true rfl⟩ ?_
  refine lv_astore_n (lv' := [(3, .ref (ad o 0)), (0, .ref (b 0)), (1, .int (nI o)), (2, .int (nI k))]) hx hb dX11_rights_8 rfl hl (by decide) rfl (fun ls hl => ?_)
  refine lv_aload_n hx hb dX11_rights_9 rfl (lv_at hl 0 rfl) ?_
  refine lv_ifnull hx hb dX11_rights_10 ?_
  refine lv_iload_n hx hb dX11_rights_13 rfl (lv_at hl 3 rfl) ?_
  refine ev_cst (As := [.int (nI k)]) (rest := []) ⟨hx, hb, hml, hown, hts⟩ (c_X11_isKey l (b := b) (ad := ad) (k := k) (by omega)) (va_cwS 1 hts gX11_rights_X11_isKey rfl rfl rfl (by decide +kernel) ⟨Nat.le_of_ble_eq_true rfl, Nat.le_of_ble_eq_true rfl⟩) hP hK rfl hl.1 (Nat.le_of_ble_eq_true rfl) dX11_rights_14 ⟨Nat.le_of_ble_eq_true rfl, Nat.le_of_ble_eq_true rfl⟩ ?_
  refine eb_if_ne (tgt := 30) hx hb dX11_rights_17 (by decide) (fun _ => ?_) (fun h => by cases h)
  refine lv_aload_n hx hb dX11_rights_30 rfl (lv_at hl 1 rfl) ?_
  refine ev_fac (v := .ref (b 1)) hx hb hts hi11 hown hK hP 0 (by decide) (hts (.fieldLink RX11 10 "EventloopRow" "things" "LEventloopRow$Things;") (by decide +kernel)) rfl dX11_rights_31 ?_
  refine lv_aload_n hx hb dX11_rights_34 rfl (lv_at hl 0 rfl) ?_
  refine ev_cv (As := [.ref (ad o 0)]) (rest := []) ⟨hx, hb, hml, hown, hts⟩ (c_X8_plainBehind l hn hTG ho) (cwV 1 hts gX11_rights_X8_plainBehind rfl rfl rfl (by decide +kernel) ⟨Nat.le_of_ble_eq_true rfl, Nat.le_of_ble_eq_true rfl⟩) hP hK (ev_recvT hK hP) rfl hl.1 (Nat.le_of_ble_eq_true rfl) dX11_rights_35 ⟨Nat.le_of_ble_eq_true rfl, Nat.le_of_ble_eq_true rfl⟩ ?_
  rw [hpb]
  refine lv_astore (lv' := [(4, .ref (ad j 0)), (3, .ref (ad o 0)), (0, .ref (b 0)), (1, .int (nI o)), (2, .int (nI k))]) hx hb dX11_rights_38 hl (by decide) rfl (fun ls hl => ?_)
  refine lv_aload hx hb dX11_rights_40 (lv_at hl 0 rfl) ?_
  refine lv_ifnonnull (tgt := 55) hx hb dX11_rights_42 (by decide) ?_
  refine lv_aload hx hb dX11_rights_55 (lv_at hl 0 rfl) ?_
  refine lv_iload_n hx hb dX11_rights_57 rfl (lv_at hl 4 rfl) ?_
  refine ev_cv (As := [.int (nI k)]) (rest := []) ⟨hx, hb, hml, hown, hts⟩ (c_X7_rightsOf l hj rfl (k := k) (by omega)) (cwV 1 hts gX11_rights_X7_rightsOf rfl rfl rfl (by decide +kernel) ⟨Nat.le_of_ble_eq_true rfl, Nat.le_of_ble_eq_true rfl⟩) hP hK (ev_recv hK hP hj) rfl hl.1 (Nat.le_of_ble_eq_true rfl) dX11_rights_58 ⟨Nat.le_of_ble_eq_true rfl, Nat.le_of_ble_eq_true rfl⟩ ?_
  refine lv_istore (lv' := [(5, .int (ev_rg (st.2 j) k)), (4, .ref (ad j 0)), (3, .ref (ad o 0)), (0, .ref (b 0)), (1, .int (nI o)), (2, .int (nI k))]) hx hb dX11_rights_61 hl (by decide) rfl (fun ls hl => ?_)
  refine lv_iload hx hb dX11_rights_63 (lv_at hl 0 rfl) ?_
  refine lv_iconst (v := -1) hx hb dX11_rights_65 (by decide) ?_
  refine lv_icmp_ne (tgt := 79) hx hb dX11_rights_66 (by decide) (fun c_2 => ?_) (fun c_2 => by exfalso; exact hne c_2)
  refine lv_iload hx hb dX11_rights_79 (lv_at hl 0 rfl) ?_
  exact er_int hx hb hr hlocks rfl dX11_rights_81
set_option maxHeartbeats 4000000 in
set_option maxRecDepth 100000 in
theorem c_X11_setChain_a (l : Launch) {D : va_G} {cI cO : ClassId} {b : Nat → Nat} {ad : Nat → Nat → Nat} {st : ev_ST}  (hn : st.1 ≤ 12) (hTG : ∀ i, i < st.1 → ∀ j, ev_tg (st.2 i) = some j → j < st.1) {o : Nat} (ho : o < st.1) (hpb : ev_pb st 12 (some o) = some o) (hch : ev_ch (st.2 o) = none) : Met l yX11_setChain wsX11_setChain ({ frames := 2, cells := 0, slots := 0, locals := 43 }) (ev_Pc D cI cO (ev_P D cI cO b ad st) [.ref (b 0), .int (nI o), .int (-1)]) (ev_QV (some (.int (nI 121)))) 0 0 ev_no := by
  refine ev_body (cc := cX11_setChain) (maxL := 6) (ret := (some .char)) (by decide) rfl (Nat.le_of_ble_eq_true rfl) ?_
  intro p e s m args below meth c hx hb hr hml hown hts hlocks hnm hP hK ls hl
  have hl : lv_has ls 6 [(0, .ref (b 0)), (1, .int (nI o)), (2, .int (-1))] := hl
  have hi11 : ∀ w ∈ wsX110, w ∈ wsX11_setChain := by decide +kernel
  refine lv_aload_n hx hb dX11_setChain_0 rfl (lv_at hl 0 rfl) ?_
  refine ev_fac (v := .ref (b 1)) hx hb hts hi11 hown hK hP 0 (by decide) (hts (.fieldLink RX11 10 "EventloopRow" "things" "LEventloopRow$Things;") (by decide +kernel)) rfl dX11_setChain_1 ?_
  refine lv_iload_n hx hb dX11_setChain_4 rfl (lv_at hl 1 rfl) ?_
  refine ev_cv (As := [.int (nI o)]) (rest := []) ⟨hx, hb, hml, hown, hts⟩ (c_X8_find_v l hn (j := o) ho) (cwV 1 hts gX11_setChain_X8_find rfl rfl rfl (by decide +kernel) ⟨Nat.le_of_ble_eq_true rfl, Nat.le_of_ble_eq_true rfl⟩) hP hK (ev_recvT hK hP) rfl hl.1 (Nat.le_of_ble_eq_true rfl) dX11_setChain_5 ⟨Nat.le_of_ble_eq_true rfl, Nat.le_of_ble_eq_true rfl⟩ ?_
  refine lv_astore_n (lv' := [(3, .ref (ad o 0)), (0, .ref (b 0)), (1, .int (nI o)), (2, .int (-1))]) hx hb dX11_setChain_8 rfl hl (by decide) rfl (fun ls hl => ?_)
  refine lv_aload_n hx hb dX11_setChain_9 rfl (lv_at hl 1 rfl) ?_
  refine ev_fac (v := .ref (b 1)) hx hb hts hi11 hown hK hP 0 (by decide) (hts (.fieldLink RX11 10 "EventloopRow" "things" "LEventloopRow$Things;") (by decide +kernel)) rfl dX11_setChain_10 ?_
  refine lv_iload_n hx hb dX11_setChain_13 rfl (lv_at hl 3 rfl) ?_
  refine ev_cv (As := [.int (-1)]) (rest := []) ⟨hx, hb, hml, hown, hts⟩ (c_X8_find_n l) (cwV 1 hts gX11_setChain_X8_find rfl rfl rfl (by decide +kernel) ⟨Nat.le_of_ble_eq_true rfl, Nat.le_of_ble_eq_true rfl⟩) hP hK (ev_recvT hK hP) rfl hl.1 (Nat.le_of_ble_eq_true rfl) dX11_setChain_14 ⟨Nat.le_of_ble_eq_true rfl, Nat.le_of_ble_eq_true rfl⟩ ?_
  refine lv_astoreN (lv' := [(4, .null), (3, .ref (ad o 0)), (0, .ref (b 0)), (1, .int (nI o)), (2, .int (-1))]) hx hb dX11_setChain_17 hl (by decide) rfl (fun ls hl => ?_)
  refine lv_aload_n hx hb dX11_setChain_19 rfl (lv_at hl 1 rfl) ?_
  refine lv_ifnull hx hb dX11_setChain_20 ?_
  refine lv_aloadN hx hb dX11_setChain_23 (lv_at hl 0 rfl) ?_
  refine lv_ifnonnullN hx hb dX11_setChain_25 ?_
  refine lv_iload_n hx hb dX11_setChain_28 rfl (lv_at hl 4 rfl) ?_
  refine lv_iconst (v := -1) hx hb dX11_setChain_29 (by decide) ?_
  refine lv_icmp_eq (tgt := 43) hx hb dX11_setChain_30 (by decide) (fun _ => ?_) (fun h => absurd h (by decide))
  refine lv_aload_n hx hb dX11_setChain_43 rfl (lv_at hl 2 rfl) ?_
  refine ev_fac (v := .ref (b 1)) hx hb hts hi11 hown hK hP 0 (by decide) (hts (.fieldLink RX11 10 "EventloopRow" "things" "LEventloopRow$Things;") (by decide +kernel)) rfl dX11_setChain_44 ?_
  refine lv_aload_n hx hb dX11_setChain_47 rfl (lv_at hl 1 rfl) ?_
  refine ev_cv (As := [.ref (ad o 0)]) (rest := []) ⟨hx, hb, hml, hown, hts⟩ (c_X8_plainBehind l hn hTG ho) (cwV 1 hts gX11_setChain_X8_plainBehind rfl rfl rfl (by decide +kernel) ⟨Nat.le_of_ble_eq_true rfl, Nat.le_of_ble_eq_true rfl⟩) hP hK (ev_recvT hK hP) rfl hl.1 (Nat.le_of_ble_eq_true rfl) dX11_setChain_48 ⟨Nat.le_of_ble_eq_true rfl, Nat.le_of_ble_eq_true rfl⟩ ?_
  rw [hpb]
  refine lv_astore (lv' := [(5, .ref (ad o 0)), (4, .null), (3, .ref (ad o 0)), (0, .ref (b 0)), (1, .int (nI o)), (2, .int (-1))]) hx hb dX11_setChain_51 hl (by decide) rfl (fun ls hl => ?_)
  refine lv_aload hx hb dX11_setChain_53 (lv_at hl 0 rfl) ?_
  refine lv_ifnonnull (tgt := 63) hx hb dX11_setChain_55 (by decide) ?_
  refine lv_aload_n hx hb dX11_setChain_63 rfl (lv_at hl 3 rfl) ?_
  refine ev_fac (v := .ref (b 1)) hx hb hts hi11 hown hK hP 0 (by decide) (hts (.fieldLink RX11 10 "EventloopRow" "things" "LEventloopRow$Things;") (by decide +kernel)) rfl dX11_setChain_64 ?_
  refine lv_aload hx hb dX11_setChain_67 (lv_at hl 0 rfl) ?_
  refine lv_aloadN hx hb dX11_setChain_69 (lv_at hl 1 rfl) ?_
  refine ev_cv (As := [.ref (ad o 0), .null]) (rest := []) ⟨hx, hb, hml, hown, hts⟩ (c_X8_chainTo_a l ho hch) (cwV 2 hts gX11_setChain_X8_chainTo rfl rfl rfl (by decide +kernel) ⟨Nat.le_of_ble_eq_true rfl, Nat.le_of_ble_eq_true rfl⟩) hP hK (ev_recvT hK hP) rfl hl.1 (Nat.le_of_ble_eq_true rfl) dX11_setChain_71 ⟨Nat.le_of_ble_eq_true rfl, Nat.le_of_ble_eq_true rfl⟩ ?_
  exact er_char hx hb hr hlocks (by decide) rfl dX11_setChain_74
set_option maxHeartbeats 4000000 in
set_option maxRecDepth 100000 in
theorem c_X11_setChain_b (l : Launch) {D : va_G} {cI cO : ClassId} {b : Nat → Nat} {ad : Nat → Nat → Nat} {st : ev_ST}  (hn : st.1 ≤ 12) (hTG : ∀ i, i < st.1 → ∀ j, ev_tg (st.2 i) = some j → j < st.1) {o : Nat} (ho : o < st.1) (hpb : ev_pb st 12 (some o) = some o) (hch : ev_ch (st.2 o) = none) (htg : ev_tg (st.2 o) = none) : Met l yX11_setChain wsX11_setChain ({ frames := 2, cells := 0, slots := 0, locals := 44 }) (ev_Pc D cI cO (ev_P D cI cO b ad st) [.ref (b 0), .int (nI o), .int (nI o)]) (ev_QV (some (.int (nI 110)))) 0 0 ev_no := by
  refine ev_body (cc := cX11_setChain) (maxL := 6) (ret := (some .char)) (by decide) rfl (Nat.le_of_ble_eq_true rfl) ?_
  intro p e s m args below meth c hx hb hr hml hown hts hlocks hnm hP hK ls hl
  have hl : lv_has ls 6 [(0, .ref (b 0)), (1, .int (nI o)), (2, .int (nI o))] := hl
  have hi11 : ∀ w ∈ wsX110, w ∈ wsX11_setChain := by decide +kernel
  refine lv_aload_n hx hb dX11_setChain_0 rfl (lv_at hl 0 rfl) ?_
  refine ev_fac (v := .ref (b 1)) hx hb hts hi11 hown hK hP 0 (by decide) (hts (.fieldLink RX11 10 "EventloopRow" "things" "LEventloopRow$Things;") (by decide +kernel)) rfl dX11_setChain_1 ?_
  refine lv_iload_n hx hb dX11_setChain_4 rfl (lv_at hl 1 rfl) ?_
  refine ev_cv (As := [.int (nI o)]) (rest := []) ⟨hx, hb, hml, hown, hts⟩ (c_X8_find_v l hn (j := o) ho) (cwV 1 hts gX11_setChain_X8_find rfl rfl rfl (by decide +kernel) ⟨Nat.le_of_ble_eq_true rfl, Nat.le_of_ble_eq_true rfl⟩) hP hK (ev_recvT hK hP) rfl hl.1 (Nat.le_of_ble_eq_true rfl) dX11_setChain_5 ⟨Nat.le_of_ble_eq_true rfl, Nat.le_of_ble_eq_true rfl⟩ ?_
  refine lv_astore_n (lv' := [(3, .ref (ad o 0)), (0, .ref (b 0)), (1, .int (nI o)), (2, .int (nI o))]) hx hb dX11_setChain_8 rfl hl (by decide) rfl (fun ls hl => ?_)
  refine lv_aload_n hx hb dX11_setChain_9 rfl (lv_at hl 1 rfl) ?_
  refine ev_fac (v := .ref (b 1)) hx hb hts hi11 hown hK hP 0 (by decide) (hts (.fieldLink RX11 10 "EventloopRow" "things" "LEventloopRow$Things;") (by decide +kernel)) rfl dX11_setChain_10 ?_
  refine lv_iload_n hx hb dX11_setChain_13 rfl (lv_at hl 3 rfl) ?_
  refine ev_cv (As := [.int (nI o)]) (rest := []) ⟨hx, hb, hml, hown, hts⟩ (c_X8_find_v l hn (j := o) ho) (cwV 1 hts gX11_setChain_X8_find rfl rfl rfl (by decide +kernel) ⟨Nat.le_of_ble_eq_true rfl, Nat.le_of_ble_eq_true rfl⟩) hP hK (ev_recvT hK hP) rfl hl.1 (Nat.le_of_ble_eq_true rfl) dX11_setChain_14 ⟨Nat.le_of_ble_eq_true rfl, Nat.le_of_ble_eq_true rfl⟩ ?_
  refine lv_astore (lv' := [(4, .ref (ad o 0)), (3, .ref (ad o 0)), (0, .ref (b 0)), (1, .int (nI o)), (2, .int (nI o))]) hx hb dX11_setChain_17 hl (by decide) rfl (fun ls hl => ?_)
  refine lv_aload_n hx hb dX11_setChain_19 rfl (lv_at hl 1 rfl) ?_
  refine lv_ifnull hx hb dX11_setChain_20 ?_
  refine lv_aload hx hb dX11_setChain_23 (lv_at hl 0 rfl) ?_
  refine lv_ifnonnull (tgt := 43) hx hb dX11_setChain_25 (by decide) ?_
  refine lv_aload_n hx hb dX11_setChain_43 rfl (lv_at hl 2 rfl) ?_
  refine ev_fac (v := .ref (b 1)) hx hb hts hi11 hown hK hP 0 (by decide) (hts (.fieldLink RX11 10 "EventloopRow" "things" "LEventloopRow$Things;") (by decide +kernel)) rfl dX11_setChain_44 ?_
  refine lv_aload_n hx hb dX11_setChain_47 rfl (lv_at hl 1 rfl) ?_
  refine ev_cv (As := [.ref (ad o 0)]) (rest := []) ⟨hx, hb, hml, hown, hts⟩ (c_X8_plainBehind l hn hTG ho) (cwV 1 hts gX11_setChain_X8_plainBehind rfl rfl rfl (by decide +kernel) ⟨Nat.le_of_ble_eq_true rfl, Nat.le_of_ble_eq_true rfl⟩) hP hK (ev_recvT hK hP) rfl hl.1 (Nat.le_of_ble_eq_true rfl) dX11_setChain_48 ⟨Nat.le_of_ble_eq_true rfl, Nat.le_of_ble_eq_true rfl⟩ ?_
  rw [hpb]
  refine lv_astore (lv' := [(5, .ref (ad o 0)), (4, .ref (ad o 0)), (3, .ref (ad o 0)), (0, .ref (b 0)), (1, .int (nI o)), (2, .int (nI o))]) hx hb dX11_setChain_51 hl (by decide) rfl (fun ls hl => ?_)
  refine lv_aload hx hb dX11_setChain_53 (lv_at hl 0 rfl) ?_
  refine lv_ifnonnull (tgt := 63) hx hb dX11_setChain_55 (by decide) ?_
  refine lv_aload_n hx hb dX11_setChain_63 rfl (lv_at hl 3 rfl) ?_
  refine ev_fac (v := .ref (b 1)) hx hb hts hi11 hown hK hP 0 (by decide) (hts (.fieldLink RX11 10 "EventloopRow" "things" "LEventloopRow$Things;") (by decide +kernel)) rfl dX11_setChain_64 ?_
  refine lv_aload hx hb dX11_setChain_67 (lv_at hl 0 rfl) ?_
  refine lv_aload hx hb dX11_setChain_69 (lv_at hl 1 rfl) ?_
  refine ev_cv (As := [.ref (ad o 0), .ref (ad o 0)]) (rest := []) ⟨hx, hb, hml, hown, hts⟩ (c_X8_chainTo_b l ho hch htg) (cwV 2 hts gX11_setChain_X8_chainTo rfl rfl rfl (by decide +kernel) ⟨Nat.le_of_ble_eq_true rfl, Nat.le_of_ble_eq_true rfl⟩) hP hK (ev_recvT hK hP) rfl hl.1 (Nat.le_of_ble_eq_true rfl) dX11_setChain_71 ⟨Nat.le_of_ble_eq_true rfl, Nat.le_of_ble_eq_true rfl⟩ ?_
  exact er_char hx hb hr hlocks (by decide) rfl dX11_setChain_74
set_option maxHeartbeats 4000000 in
set_option maxRecDepth 100000 in
theorem c_X11_setChain_c (l : Launch) {D : va_G} {cI cO : ClassId} {b : Nat → Nat} {ad : Nat → Nat → Nat} {st : ev_ST}  (hn : st.1 ≤ 12) (hTG : ∀ i, i < st.1 → ∀ j, ev_tg (st.2 i) = some j → j < st.1) {o : Nat} (ho : o < st.1) (hpb : ev_pb st 12 (some o) = none) : Met l yX11_setChain wsX11_setChain ({ frames := 2, cells := 0, slots := 0, locals := 43 }) (ev_Pc D cI cO (ev_P D cI cO b ad st) [.ref (b 0), .int (nI o), .int (-1)]) (ev_QV (some (.int (nI 84)))) 0 0 ev_no := by
  refine ev_body (cc := cX11_setChain) (maxL := 6) (ret := (some .char)) (by decide) rfl (Nat.le_of_ble_eq_true rfl) ?_
  intro p e s m args below meth c hx hb hr hml hown hts hlocks hnm hP hK ls hl
  have hl : lv_has ls 6 [(0, .ref (b 0)), (1, .int (nI o)), (2, .int (-1))] := hl
  have hi11 : ∀ w ∈ wsX110, w ∈ wsX11_setChain := by decide +kernel
  refine lv_aload_n hx hb dX11_setChain_0 rfl (lv_at hl 0 rfl) ?_
  refine ev_fac (v := .ref (b 1)) hx hb hts hi11 hown hK hP 0 (by decide) (hts (.fieldLink RX11 10 "EventloopRow" "things" "LEventloopRow$Things;") (by decide +kernel)) rfl dX11_setChain_1 ?_
  refine lv_iload_n hx hb dX11_setChain_4 rfl (lv_at hl 1 rfl) ?_
  refine ev_cv (As := [.int (nI o)]) (rest := []) ⟨hx, hb, hml, hown, hts⟩ (c_X8_find_v l hn (j := o) ho) (cwV 1 hts gX11_setChain_X8_find rfl rfl rfl (by decide +kernel) ⟨Nat.le_of_ble_eq_true rfl, Nat.le_of_ble_eq_true rfl⟩) hP hK (ev_recvT hK hP) rfl hl.1 (Nat.le_of_ble_eq_true rfl) dX11_setChain_5 ⟨Nat.le_of_ble_eq_true rfl, Nat.le_of_ble_eq_true rfl⟩ ?_
  refine lv_astore_n (lv' := [(3, .ref (ad o 0)), (0, .ref (b 0)), (1, .int (nI o)), (2, .int (-1))]) hx hb dX11_setChain_8 rfl hl (by decide) rfl (fun ls hl => ?_)
  refine lv_aload_n hx hb dX11_setChain_9 rfl (lv_at hl 1 rfl) ?_
  refine ev_fac (v := .ref (b 1)) hx hb hts hi11 hown hK hP 0 (by decide) (hts (.fieldLink RX11 10 "EventloopRow" "things" "LEventloopRow$Things;") (by decide +kernel)) rfl dX11_setChain_10 ?_
  refine lv_iload_n hx hb dX11_setChain_13 rfl (lv_at hl 3 rfl) ?_
  refine ev_cv (As := [.int (-1)]) (rest := []) ⟨hx, hb, hml, hown, hts⟩ (c_X8_find_n l) (cwV 1 hts gX11_setChain_X8_find rfl rfl rfl (by decide +kernel) ⟨Nat.le_of_ble_eq_true rfl, Nat.le_of_ble_eq_true rfl⟩) hP hK (ev_recvT hK hP) rfl hl.1 (Nat.le_of_ble_eq_true rfl) dX11_setChain_14 ⟨Nat.le_of_ble_eq_true rfl, Nat.le_of_ble_eq_true rfl⟩ ?_
  refine lv_astoreN (lv' := [(4, .null), (3, .ref (ad o 0)), (0, .ref (b 0)), (1, .int (nI o)), (2, .int (-1))]) hx hb dX11_setChain_17 hl (by decide) rfl (fun ls hl => ?_)
  refine lv_aload_n hx hb dX11_setChain_19 rfl (lv_at hl 1 rfl) ?_
  refine lv_ifnull hx hb dX11_setChain_20 ?_
  refine lv_aloadN hx hb dX11_setChain_23 (lv_at hl 0 rfl) ?_
  refine lv_ifnonnullN hx hb dX11_setChain_25 ?_
  refine lv_iload_n hx hb dX11_setChain_28 rfl (lv_at hl 4 rfl) ?_
  refine lv_iconst (v := -1) hx hb dX11_setChain_29 (by decide) ?_
  refine lv_icmp_eq (tgt := 43) hx hb dX11_setChain_30 (by decide) (fun _ => ?_) (fun h => absurd h (by decide))
  refine lv_aload_n hx hb dX11_setChain_43 rfl (lv_at hl 2 rfl) ?_
  refine ev_fac (v := .ref (b 1)) hx hb hts hi11 hown hK hP 0 (by decide) (hts (.fieldLink RX11 10 "EventloopRow" "things" "LEventloopRow$Things;") (by decide +kernel)) rfl dX11_setChain_44 ?_
  refine lv_aload_n hx hb dX11_setChain_47 rfl (lv_at hl 1 rfl) ?_
  refine ev_cv (As := [.ref (ad o 0)]) (rest := []) ⟨hx, hb, hml, hown, hts⟩ (c_X8_plainBehind l hn hTG ho) (cwV 1 hts gX11_setChain_X8_plainBehind rfl rfl rfl (by decide +kernel) ⟨Nat.le_of_ble_eq_true rfl, Nat.le_of_ble_eq_true rfl⟩) hP hK (ev_recvT hK hP) rfl hl.1 (Nat.le_of_ble_eq_true rfl) dX11_setChain_48 ⟨Nat.le_of_ble_eq_true rfl, Nat.le_of_ble_eq_true rfl⟩ ?_
  rw [hpb]
  refine lv_astoreN (lv' := [(5, .null), (4, .null), (3, .ref (ad o 0)), (0, .ref (b 0)), (1, .int (nI o)), (2, .int (-1))]) hx hb dX11_setChain_51 hl (by decide) rfl (fun ls hl => ?_)
  refine lv_aloadN hx hb dX11_setChain_53 (lv_at hl 0 rfl) ?_
  refine lv_ifnonnullN hx hb dX11_setChain_55 ?_
  refine lv_bipush (v := nI 84) hx hb dX11_setChain_58 (by decide) ?_
  refine lv_goto (tgt := 74) hx hb dX11_setChain_60 (by decide) ?_
  exact er_char hx hb hr hlocks (by decide) rfl dX11_setChain_74
