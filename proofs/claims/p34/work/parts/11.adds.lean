/-! 11.adds: a new thing, and what takes it in -/
theorem ev_D1 {h0 sz : Nat} {e0 : va_E} : va_D (ev_A h0 sz) [(h0, e0)] := ⟨fun i j x y hi hj _ => by have := (List.getElem?_eq_some_iff.mp hi).1; have := (List.getElem?_eq_some_iff.mp hj).1; simp at *; omega, fun k q hk => by rcases k with _ | k <;> simp at hk; subst hk; exact Or.inl rfl⟩
theorem ev_fl0 (v : Int32) (f : Nat → Int32) : (fun j => if j < 0 then v else f j) = f := funext fun j => if_neg (Nat.not_lt_zero j)
theorem ev_fl1 (v : Int32) (f : Nat → Int32) (i : Nat) : upd (fun j => if j < i then v else f j) i v = fun j => if j < i + 1 then v else f j := by
  funext j
  show (if j = i then v else if j < i then v else f j) = if j < i + 1 then v else f j
  by_cases h : j = i
  · rw [if_pos h, if_pos (by omega)]
  · rw [if_neg h]
    by_cases h2 : j < i
    · rw [if_pos h2, if_pos (by omega)]
    · rw [if_neg h2, if_neg (by omega)]
set_option maxHeartbeats 4000000 in
set_option maxRecDepth 100000 in
theorem c_J7_fill (l : Launch) {D : va_G} {cI cO : ClassId} {q0 sz N : Nat} {v : Int32} {f : Nat → Int32} (hN : N < 2147483648) : Met l yJ7_fill_53178 wsJ7_fill_53178 ({ frames := 0, cells := 0, slots := 0, locals := 0 }) (ev_PcN D cI cO sz [(q0, .inl (cI, N, .inl f))] [.ref q0, .int v]) (ev_QN (fun t => va_P D vwCl [(q0, .inl (cI, N, .inl (fun j => if j < N then v else f j)))] t.heap ∧ va_D (ev_A q0 sz) [(q0, .inl (cI, N, .inl (fun j => if j < N then v else f j)))]) (ev_A q0 sz)) 0 0 (ev_A q0 sz) := by
  refine ev_bodyN (cc := cJ7_fill_53178) (maxL := 4) (ret := none) (by decide) rfl (Nat.le_of_ble_eq_true rfl) ?_
  intro p e s m args below meth c hx hb hr hml hown hts hlocks hnm hsz hP hK hO hNs ls hl
  subst hsz
  have hl : lv_has ls 4 [(0, .ref q0), (1, .int v)] := hl
  refine lv_iconst (v := nI 0) hx hb dJ7_fill_53178_0 (by decide) ?_
  refine lv_istore_n (lv' := [(2, .int (nI 0)), (0, .ref q0), (1, .int v)]) hx hb dJ7_fill_53178_1 rfl hl (by decide) rfl (fun ls hl => ?_)
  refine lv_aload_n hx hb dJ7_fill_53178_2 rfl (lv_at hl 1 rfl) ?_
  refine va_alen (v := nI N) hx hb hK hP 0 0 rfl rfl rfl dJ7_fill_53178_3 ?_
  refine lv_istore_n (lv' := [(3, .int (nI N)), (2, .int (nI 0)), (0, .ref q0), (1, .int v)]) hx hb dJ7_fill_53178_4 rfl hl (by decide) rfl (fun ls hl => ?_)
  have LP : ∀ (n i : Nat), i + n = N → ∀ (H : Heap) (locs : List Loc), va_P D vwCl [(q0, .inl (cI, N, .inl (fun j => if j < i then v else f j)))] H → va_S (ev_A q0 s.heap.size) s.heap H locs → ∀ ls : Array Slot, lv_has ls 4 [(2, .int (nI i)), (3, .int (nI N)), (0, .ref q0), (1, .int v)] → W p l e ({ frames := 0, cells := 0, slots := 0, locals := 0 }) s m args below meth c H locs 0 0 (MQ below (ev_QN (fun t => va_P D vwCl [(q0, .inl (cI, N, .inl (fun j => if j < N then v else f j)))] t.heap ∧ va_D (ev_A q0 s.heap.size) [(q0, .inl (cI, N, .inl (fun j => if j < N then v else f j)))]) (ev_A q0 s.heap.size)) args s 0 0 (ev_A q0 s.heap.size)) (F0 m 5 ls []) := by
    intro n
    induction n with
    | zero =>
      intro i hi H locs hP hS ls hl
      have hi : i = N := by omega
      subst hi
      refine lv_iload_n hx hb dJ7_fill_53178_5 rfl (lv_at hl 0 rfl) ?_
      refine lv_iload_n hx hb dJ7_fill_53178_6 rfl (lv_at hl 1 rfl) ?_
      refine en_icmp_ge (tgt := 20) hx hb (by omega) (by omega) dJ7_fill_53178_7 (by decide) (fun _ => ?_) (fun c => by exfalso; omega)
      exact W.vret hx hb hr (fun t ht _ => ⟨rfl, ⟨by rw [ht]; exact hP, ev_D1⟩, hS.F ht⟩) hS.2.2 dJ7_fill_53178_20
    | succ n ih =>
      intro i hi H locs hP hS ls hl
      refine lv_iload_n hx hb dJ7_fill_53178_5 rfl (lv_at hl 0 rfl) ?_
      refine lv_iload_n hx hb dJ7_fill_53178_6 rfl (lv_at hl 1 rfl) ?_
      refine en_icmp_ge (tgt := 20) hx hb (by omega) (by omega) dJ7_fill_53178_7 (by decide) (fun c => by exfalso; omega) (fun _ => ?_)
      refine lv_aload_n hx hb dJ7_fill_53178_10 rfl (lv_at hl 2 rfl) ?_
      refine lv_iload_n hx hb dJ7_fill_53178_11 rfl (lv_at hl 0 rfl) ?_
      refine lv_iload_n hx hb dJ7_fill_53178_12 rfl (lv_at hl 3 rfl) ?_
      refine va_iast hx hb hK hP (ev_D1 (sz := s.heap.size)) hS 0 0 rfl rfl (vp_in_nI (by omega) (by omega)) dJ7_fill_53178_13 (fun H locs hP hD hS => ?_)
      have hP : va_P D vwCl [(q0, .inl (cI, N, .inl (fun j => if j < i + 1 then v else f j)))] H := by
        rw [← ev_fl1, ← nI_clamp (n := i) (by omega)]
        rw [nI_clamp (n := i) (by omega)]
        rw [nI_clamp (n := i) (by omega)] at hP
        exact hP
      refine lv_iinc (v := nI (i + 1)) (lv' := [(2, .int (nI (i + 1))), (3, .int (nI N)), (0, .ref q0), (1, .int v)]) hx hb dJ7_fill_53178_14 hl (k := 0) rfl (ev_inc1 _) (by decide) rfl (fun ls hl => ?_)
      refine lv_goto (tgt := 5) hx hb dJ7_fill_53178_17 (by decide) ?_
      exact ih (i + 1) (by omega) H locs hP hS ls hl
  exact LP N 0 (by omega) s.heap [] (by rw [ev_fl0]; exact hP) va_S.rf ls (lv_sub hl [1, 0, 2, 3] rfl)
set_option maxHeartbeats 4000000 in
set_option maxRecDepth 100000 in
theorem c_X7_init (l : Launch) {D : va_G} {cI cO : ClassId} {h0 sz : Nat} {ad : Nat → Nat → Nat} {o0 o1 : Option Nat} : Met l yX7_init wsX7_init ({ frames := 1, cells := 4, slots := 64, locals := 23 }) (ev_PcN D cI cO sz [(h0, .inr (5, [.null, .null, .int 0, .null, .int 0, .null, .null, .null, .int 0]))] [.ref h0, ev_rf ad o0, ev_rf ad o1]) (ev_QN (fun t => ∃ q1 q2 q3 q4 : Nat, va_P D vwCl [(h0, .inr (5, [ev_rf ad o0, .ref q1, .int 0, ev_rf ad o1, .int 0, .ref q2, .ref q3, .ref q4, .int 0])), (q1, .inl (cI, 4, .inl (fun j => if j < 4 then 1000000 else 0))), (q2, .inl (cI, 20, .inl (fun _ => 0))), (q3, .inl (cI, 20, .inl (fun j => if j < 20 then (-1) else 0))), (q4, .inl (cI, 20, .inl (fun _ => 0)))] t.heap ∧ va_D (ev_A h0 sz) [(h0, .inr (5, [ev_rf ad o0, .ref q1, .int 0, ev_rf ad o1, .int 0, .ref q2, .ref q3, .ref q4, .int 0])), (q1, .inl (cI, 4, .inl (fun j => if j < 4 then 1000000 else 0))), (q2, .inl (cI, 20, .inl (fun _ => 0))), (q3, .inl (cI, 20, .inl (fun j => if j < 20 then (-1) else 0))), (q4, .inl (cI, 20, .inl (fun _ => 0)))]) (ev_A h0 sz)) 4 64 (ev_A h0 sz) := by
  refine ev_bodyN (cc := cX7_init) (maxL := 3) (ret := none) (by decide) rfl (by cases o0 <;> cases o1 <;> exact (Nat.le_of_ble_eq_true rfl)) ?_
  intro p e s m args below meth c hx hb hr hml hown hts hlocks hnm hsz hP hK hO hNs ls hl
  subst hsz
  generalize hAe : ev_A h0 s.heap.size = A
  have hA : ∀ q : Nat, s.heap.size ≤ q → A q := fun q h => by rw [← hAe]; exact Or.inr h
  have hD : va_D A [(h0, .inr (5, [.null, .null, .int 0, .null, .int 0, .null, .null, .null, .int 0]))] := by rw [← hAe]; exact ev_D1
  have hS : va_S A s.heap s.heap [] := va_S.rf
  have hl : lv_has ls 3 [(0, .ref h0), (1, ev_rf ad o0), (2, ev_rf ad o1)] := by cases o0 <;> cases o1 <;> exact hl
  have hi7 : ∀ w ∈ wsX70, w ∈ wsX7_init := by decide +kernel
  refine lv_aload_n hx hb dX7_init_0 rfl (lv_at hl 0 rfl) ?_
  refine W.objInit hx hb hown (hts (.methodLink RX7 3 objectInit) (by decide +kernel)) (hts (.instanceMethod objectInit) (by decide +kernel)) (hts (.code objectInit ⟨#[0xb1]⟩ 1 none) (by decide +kernel)) rfl (by rw [hml]; exact hl.1) rfl dX7_init_1 (Nat.le_of_ble_eq_true rfl) (Nat.le_of_ble_eq_true rfl) ?_
  refine W.eq (g2 := F0 m 4 ls []) rfl ?_
  refine lv_aload_n hx hb dX7_init_4 rfl (lv_at hl 0 rfl) ?_
  refine eo_aload_n hx hb dX7_init_5 rfl (lv_at hl 1 rfl) ?_
  refine va_putF (D := D) (ci := 5) (v := ev_rf ad o0) (ty := tyX7 0) (C := RX7) (T := TX7) (N := 9) hx hb hts hi7 tyX7 tyX7_ok nmX7 hown hK hP hD hS 0 rfl rfl 0 (by decide) (hts (.fieldLink RX7 9 "EventloopRow$Thing" "target" "LEventloopRow$Thing;") (by decide +kernel)) (fun _ h9 => h9) rfl hnm rfl (tyX7_ok 0 (by decide)) (by first | rfl | (cases o0 <;> rfl)) (by first | rfl | (cases o0 <;> rfl)) (Nat.le_of_ble_eq_true rfl) dX7_init_6 (fun H locs hP hD hS => ?_)
  have hP : va_P D vwCl [(h0, .inr (5, [ev_rf ad o0, .null, .int 0, .null, .int 0, .null, .null, .null, .int 0]))] H := hP
  have hD : va_D A [(h0, .inr (5, [ev_rf ad o0, .null, .int 0, .null, .int 0, .null, .null, .null, .int 0]))] := hD
  refine lv_aload_n hx hb dX7_init_9 rfl (lv_at hl 0 rfl) ?_
  refine eo_aload_n hx hb dX7_init_10 rfl (lv_at hl 2 rfl) ?_
  refine va_put (D := D) (ci := 5) (v := ev_rf ad o1) (ty := tyX7 3) (C := RX7) (T := TX7) (N := 9) hx hb hts hi7 tyX7 tyX7_ok nmX7 hown hK hP hD hS 0 rfl rfl 3 (by decide) (hts (.fieldLink RX7 15 "EventloopRow$Thing" "chain" "LEventloopRow$Thing;") (by decide +kernel)) (fun _ h9 => h9) rfl (tyX7_ok 3 (by decide)) (by first | rfl | (cases o1 <;> rfl)) (by first | rfl | (cases o1 <;> rfl)) (Nat.le_of_ble_eq_true rfl) dX7_init_11 (fun H locs hP hD hS => ?_)
  have hP : va_P D vwCl [(h0, .inr (5, [ev_rf ad o0, .null, .int 0, ev_rf ad o1, .int 0, .null, .null, .null, .int 0]))] H := hP
  have hD : va_D A [(h0, .inr (5, [ev_rf ad o0, .null, .int 0, ev_rf ad o1, .int 0, .null, .null, .null, .int 0]))] := hD
  refine lv_aload_n hx hb dX7_init_14 rfl (lv_at hl 0 rfl) ?_
  refine lv_iconst (v := 4) hx hb dX7_init_15 (by decide) ?_
  refine ev_newi (N := 4) hx hb (hts (.arrayClass .int) (by decide +kernel)) hK hP hD hS hA (by decide) (by decide) (by decide) (Nat.le_of_ble_eq_true rfl) (Nat.le_of_ble_eq_true rfl) dX7_init_16 (fun q_1 H hP hD hS => ?_)
  have hP : va_P D vwCl [(h0, .inr (5, [ev_rf ad o0, .null, .int 0, ev_rf ad o1, .int 0, .null, .null, .null, .int 0])), (q_1, .inl (cI, 4, .inl (fun _ => 0)))] H := hP
  have hD : va_D A [(h0, .inr (5, [ev_rf ad o0, .null, .int 0, ev_rf ad o1, .int 0, .null, .null, .null, .int 0])), (q_1, .inl (cI, 4, .inl (fun _ => 0)))] := hD
  refine va_putF (D := D) (ci := 5) (v := .ref q_1) (ty := tyX7 1) (C := RX7) (T := TX7) (N := 9) hx hb hts hi7 tyX7 tyX7_ok nmX7 hown hK hP hD hS 0 rfl rfl 1 (by decide) (hts (.fieldLink RX7 18 "EventloopRow$Thing" "answers" "[I") (by decide +kernel)) (fun _ h9 => h9) rfl hnm rfl (tyX7_ok 1 (by decide)) rfl rfl (Nat.le_of_ble_eq_true rfl) dX7_init_18 (fun H locs hP hD hS => ?_)
  have hP : va_P D vwCl [(h0, .inr (5, [ev_rf ad o0, .ref q_1, .int 0, ev_rf ad o1, .int 0, .null, .null, .null, .int 0])), (q_1, .inl (cI, 4, .inl (fun _ => 0)))] H := hP
  have hD : va_D A [(h0, .inr (5, [ev_rf ad o0, .ref q_1, .int 0, ev_rf ad o1, .int 0, .null, .null, .null, .int 0])), (q_1, .inl (cI, 4, .inl (fun _ => 0)))] := hD
  refine lv_aload_n hx hb dX7_init_21 rfl (lv_at hl 0 rfl) ?_
  refine lv_bipush (v := 20) hx hb dX7_init_22 (by decide) ?_
  refine ev_newi (N := 20) hx hb (hts (.arrayClass .int) (by decide +kernel)) hK hP hD hS hA (by decide) (by decide) (by decide) (Nat.le_of_ble_eq_true rfl) (Nat.le_of_ble_eq_true rfl) dX7_init_24 (fun q_2 H hP hD hS => ?_)
  have hP : va_P D vwCl [(h0, .inr (5, [ev_rf ad o0, .ref q_1, .int 0, ev_rf ad o1, .int 0, .null, .null, .null, .int 0])), (q_1, .inl (cI, 4, .inl (fun _ => 0))), (q_2, .inl (cI, 20, .inl (fun _ => 0)))] H := hP
  have hD : va_D A [(h0, .inr (5, [ev_rf ad o0, .ref q_1, .int 0, ev_rf ad o1, .int 0, .null, .null, .null, .int 0])), (q_1, .inl (cI, 4, .inl (fun _ => 0))), (q_2, .inl (cI, 20, .inl (fun _ => 0)))] := hD
  refine va_putF (D := D) (ci := 5) (v := .ref q_2) (ty := tyX7 5) (C := RX7) (T := TX7) (N := 9) hx hb hts hi7 tyX7 tyX7_ok nmX7 hown hK hP hD hS 0 rfl rfl 5 (by decide) (hts (.fieldLink RX7 22 "EventloopRow$Thing" "values" "[I") (by decide +kernel)) (fun _ h9 => h9) rfl hnm rfl (tyX7_ok 5 (by decide)) rfl rfl (Nat.le_of_ble_eq_true rfl) dX7_init_26 (fun H locs hP hD hS => ?_)
  have hP : va_P D vwCl [(h0, .inr (5, [ev_rf ad o0, .ref q_1, .int 0, ev_rf ad o1, .int 0, .ref q_2, .null, .null, .int 0])), (q_1, .inl (cI, 4, .inl (fun _ => 0))), (q_2, .inl (cI, 20, .inl (fun _ => 0)))] H := hP
  have hD : va_D A [(h0, .inr (5, [ev_rf ad o0, .ref q_1, .int 0, ev_rf ad o1, .int 0, .ref q_2, .null, .null, .int 0])), (q_1, .inl (cI, 4, .inl (fun _ => 0))), (q_2, .inl (cI, 20, .inl (fun _ => 0)))] := hD
  refine lv_aload_n hx hb dX7_init_29 rfl (lv_at hl 0 rfl) ?_
  refine lv_bipush (v := 20) hx hb dX7_init_30 (by decide) ?_
  refine ev_newi (N := 20) hx hb (hts (.arrayClass .int) (by decide +kernel)) hK hP hD hS hA (by decide) (by decide) (by decide) (Nat.le_of_ble_eq_true rfl) (Nat.le_of_ble_eq_true rfl) dX7_init_32 (fun q_3 H hP hD hS => ?_)
  have hP : va_P D vwCl [(h0, .inr (5, [ev_rf ad o0, .ref q_1, .int 0, ev_rf ad o1, .int 0, .ref q_2, .null, .null, .int 0])), (q_1, .inl (cI, 4, .inl (fun _ => 0))), (q_2, .inl (cI, 20, .inl (fun _ => 0))), (q_3, .inl (cI, 20, .inl (fun _ => 0)))] H := hP
  have hD : va_D A [(h0, .inr (5, [ev_rf ad o0, .ref q_1, .int 0, ev_rf ad o1, .int 0, .ref q_2, .null, .null, .int 0])), (q_1, .inl (cI, 4, .inl (fun _ => 0))), (q_2, .inl (cI, 20, .inl (fun _ => 0))), (q_3, .inl (cI, 20, .inl (fun _ => 0)))] := hD
  refine va_putF (D := D) (ci := 5) (v := .ref q_3) (ty := tyX7 6) (C := RX7) (T := TX7) (N := 9) hx hb hts hi7 tyX7 tyX7_ok nmX7 hown hK hP hD hS 0 rfl rfl 6 (by decide) (hts (.fieldLink RX7 25 "EventloopRow$Thing" "rightsRow" "[I") (by decide +kernel)) (fun _ h9 => h9) rfl hnm rfl (tyX7_ok 6 (by decide)) rfl rfl (Nat.le_of_ble_eq_true rfl) dX7_init_34 (fun H locs hP hD hS => ?_)
  have hP : va_P D vwCl [(h0, .inr (5, [ev_rf ad o0, .ref q_1, .int 0, ev_rf ad o1, .int 0, .ref q_2, .ref q_3, .null, .int 0])), (q_1, .inl (cI, 4, .inl (fun _ => 0))), (q_2, .inl (cI, 20, .inl (fun _ => 0))), (q_3, .inl (cI, 20, .inl (fun _ => 0)))] H := hP
  have hD : va_D A [(h0, .inr (5, [ev_rf ad o0, .ref q_1, .int 0, ev_rf ad o1, .int 0, .ref q_2, .ref q_3, .null, .int 0])), (q_1, .inl (cI, 4, .inl (fun _ => 0))), (q_2, .inl (cI, 20, .inl (fun _ => 0))), (q_3, .inl (cI, 20, .inl (fun _ => 0)))] := hD
  refine lv_aload_n hx hb dX7_init_37 rfl (lv_at hl 0 rfl) ?_
  refine lv_bipush (v := 20) hx hb dX7_init_38 (by decide) ?_
  refine ev_newi (N := 20) hx hb (hts (.arrayClass .int) (by decide +kernel)) hK hP hD hS hA (by decide) (by decide) (by decide) (Nat.le_of_ble_eq_true rfl) (Nat.le_of_ble_eq_true rfl) dX7_init_40 (fun q_4 H hP hD hS => ?_)
  have hP : va_P D vwCl [(h0, .inr (5, [ev_rf ad o0, .ref q_1, .int 0, ev_rf ad o1, .int 0, .ref q_2, .ref q_3, .null, .int 0])), (q_1, .inl (cI, 4, .inl (fun _ => 0))), (q_2, .inl (cI, 20, .inl (fun _ => 0))), (q_3, .inl (cI, 20, .inl (fun _ => 0))), (q_4, .inl (cI, 20, .inl (fun _ => 0)))] H := hP
  have hD : va_D A [(h0, .inr (5, [ev_rf ad o0, .ref q_1, .int 0, ev_rf ad o1, .int 0, .ref q_2, .ref q_3, .null, .int 0])), (q_1, .inl (cI, 4, .inl (fun _ => 0))), (q_2, .inl (cI, 20, .inl (fun _ => 0))), (q_3, .inl (cI, 20, .inl (fun _ => 0))), (q_4, .inl (cI, 20, .inl (fun _ => 0)))] := hD
  refine va_putF (D := D) (ci := 5) (v := .ref q_4) (ty := tyX7 7) (C := RX7) (T := TX7) (N := 9) hx hb hts hi7 tyX7 tyX7_ok nmX7 hown hK hP hD hS 0 rfl rfl 7 (by decide) (hts (.fieldLink RX7 28 "EventloopRow$Thing" "keyRow" "[I") (by decide +kernel)) (fun _ h9 => h9) rfl hnm rfl (tyX7_ok 7 (by decide)) rfl rfl (Nat.le_of_ble_eq_true rfl) dX7_init_42 (fun H locs hP hD hS => ?_)
  have hP : va_P D vwCl [(h0, .inr (5, [ev_rf ad o0, .ref q_1, .int 0, ev_rf ad o1, .int 0, .ref q_2, .ref q_3, .ref q_4, .int 0])), (q_1, .inl (cI, 4, .inl (fun _ => 0))), (q_2, .inl (cI, 20, .inl (fun _ => 0))), (q_3, .inl (cI, 20, .inl (fun _ => 0))), (q_4, .inl (cI, 20, .inl (fun _ => 0)))] H := hP
  have hD : va_D A [(h0, .inr (5, [ev_rf ad o0, .ref q_1, .int 0, ev_rf ad o1, .int 0, .ref q_2, .ref q_3, .ref q_4, .int 0])), (q_1, .inl (cI, 4, .inl (fun _ => 0))), (q_2, .inl (cI, 20, .inl (fun _ => 0))), (q_3, .inl (cI, 20, .inl (fun _ => 0))), (q_4, .inl (cI, 20, .inl (fun _ => 0)))] := hD
  refine lv_aload_n hx hb dX7_init_45 rfl (lv_at hl 0 rfl) ?_
  refine va_get (D := D) (ci := 5) (v := .ref q_1) (C := RX7) (T := TX7) (N := 9) hx hb hts hi7 hown hK hP 0 rfl rfl 1 (by decide) (hts (.fieldLink RX7 18 "EventloopRow$Thing" "answers" "[I") (by decide +kernel)) (fun _ h9 => h9) rfl dX7_init_46 ?_
  refine lv_ldc (v := 1000000) hx hb hown (hts (.constant RX7 31 (1000000)) (by decide +kernel)) dX7_init_49 ?_
  have hPc := hP.sub (ws' := [(q_1, .inl (cI, 4, .inl (fun _ => 0)))]) [1] rfl
  have hlt : q_1 < H.size := (hPc 0 _ rfl).lt
  have hS0 := hS
  refine ev_call0 (va_runS (As := [.ref q_1, .int (1000000)]) (rest := []) ⟨hx, hb, hml, hown, hts⟩ (c_J7_fill l (q0 := q_1) (sz := H.size) (N := 4) (v := 1000000) (f := fun _ => 0) (by decide)) (va_cwS 2 hts gX7_init_J7_fill_53178 rfl rfl rfl (by decide +kernel) ⟨Nat.le_of_ble_eq_true rfl, Nat.le_of_ble_eq_true rfl⟩) (ev_preN rfl hPc hK hO hNs) rfl rfl hl.1 rfl (lv_room (Nat.le_of_ble_eq_true rfl)) dX7_init_51 ⟨Nat.le_of_ble_eq_true rfl, Nat.le_of_ble_eq_true rfl⟩) hS (fun z hz => ?_) (fun t H1 locs ht hQ hz hk hS => ?_)
  · rcases hz with rfl | hz
    · exact hD.2 1 _ rfl
    · exact hA _ (Nat.le_trans hS.1 hz)
  subst ht
  obtain ⟨hP1, hD1⟩ := hQ
  obtain ⟨hP, hD⟩ := ev_joinN (wr := [(h0, .inr (5, [ev_rf ad o0, .ref q_1, .int 0, ev_rf ad o1, .int 0, .ref q_2, .ref q_3, .ref q_4, .int 0])), (q_2, .inl (cI, 20, .inl (fun _ => 0))), (q_3, .inl (cI, 20, .inl (fun _ => 0))), (q_4, .inl (cI, 20, .inl (fun _ => 0)))]) (w1 := [(q_1, .inl (cI, 4, .inl (fun j => if j < 4 then 1000000 else 0)))]) hP hD hP1 hD1 1 [0, 2, 3, 4] rfl rfl (by decide) (by decide) hk (fun z hz => by rcases hz with rfl | hz <;> first | exact hD.2 1 _ rfl | exact hA _ (Nat.le_trans hS0.1 hz))
  generalize t.heap = H at hP hS ⊢
  have hP : va_P D vwCl [(h0, .inr (5, [ev_rf ad o0, .ref q_1, .int 0, ev_rf ad o1, .int 0, .ref q_2, .ref q_3, .ref q_4, .int 0])), (q_2, .inl (cI, 20, .inl (fun _ => 0))), (q_3, .inl (cI, 20, .inl (fun _ => 0))), (q_4, .inl (cI, 20, .inl (fun _ => 0))), (q_1, .inl (cI, 4, .inl (fun j => if j < 4 then 1000000 else 0)))] H := hP
  have hD : va_D A [(h0, .inr (5, [ev_rf ad o0, .ref q_1, .int 0, ev_rf ad o1, .int 0, .ref q_2, .ref q_3, .ref q_4, .int 0])), (q_2, .inl (cI, 20, .inl (fun _ => 0))), (q_3, .inl (cI, 20, .inl (fun _ => 0))), (q_4, .inl (cI, 20, .inl (fun _ => 0))), (q_1, .inl (cI, 4, .inl (fun j => if j < 4 then 1000000 else 0)))] := hD
  refine lv_aload_n hx hb dX7_init_54 rfl (lv_at hl 0 rfl) ?_
  refine va_get (D := D) (ci := 5) (v := .ref q_3) (C := RX7) (T := TX7) (N := 9) hx hb hts hi7 hown hK hP 0 rfl rfl 6 (by decide) (hts (.fieldLink RX7 25 "EventloopRow$Thing" "rightsRow" "[I") (by decide +kernel)) (fun _ h9 => h9) rfl dX7_init_55 ?_
  refine lv_iconst (v := -1) hx hb dX7_init_58 (by decide) ?_
  have hPc := hP.sub (ws' := [(q_3, .inl (cI, 20, .inl (fun _ => 0)))]) [2] rfl
  have hlt : q_3 < H.size := (hPc 0 _ rfl).lt
  have hS0 := hS
  refine ev_call0 (va_runS (As := [.ref q_3, .int ((-1))]) (rest := []) ⟨hx, hb, hml, hown, hts⟩ (c_J7_fill l (q0 := q_3) (sz := H.size) (N := 20) (v := (-1)) (f := fun _ => 0) (by decide)) (va_cwS 2 hts gX7_init_J7_fill_53178 rfl rfl rfl (by decide +kernel) ⟨Nat.le_of_ble_eq_true rfl, Nat.le_of_ble_eq_true rfl⟩) (ev_preN rfl hPc hK hO hNs) rfl rfl hl.1 rfl (lv_room (Nat.le_of_ble_eq_true rfl)) dX7_init_59 ⟨Nat.le_of_ble_eq_true rfl, Nat.le_of_ble_eq_true rfl⟩) hS (fun z hz => ?_) (fun t H1 locs ht hQ hz hk hS => ?_)
  · rcases hz with rfl | hz
    · exact hD.2 2 _ rfl
    · exact hA _ (Nat.le_trans hS.1 hz)
  subst ht
  obtain ⟨hP1, hD1⟩ := hQ
  obtain ⟨hP, hD⟩ := ev_joinN (wr := [(h0, .inr (5, [ev_rf ad o0, .ref q_1, .int 0, ev_rf ad o1, .int 0, .ref q_2, .ref q_3, .ref q_4, .int 0])), (q_2, .inl (cI, 20, .inl (fun _ => 0))), (q_4, .inl (cI, 20, .inl (fun _ => 0))), (q_1, .inl (cI, 4, .inl (fun j => if j < 4 then 1000000 else 0)))]) (w1 := [(q_3, .inl (cI, 20, .inl (fun j => if j < 20 then (-1) else 0)))]) hP hD hP1 hD1 2 [0, 1, 3, 4] rfl rfl (by decide) (by decide) hk (fun z hz => by rcases hz with rfl | hz <;> first | exact hD.2 2 _ rfl | exact hA _ (Nat.le_trans hS0.1 hz))
  generalize t.heap = H at hP hS ⊢
  have hP : va_P D vwCl [(h0, .inr (5, [ev_rf ad o0, .ref q_1, .int 0, ev_rf ad o1, .int 0, .ref q_2, .ref q_3, .ref q_4, .int 0])), (q_2, .inl (cI, 20, .inl (fun _ => 0))), (q_4, .inl (cI, 20, .inl (fun _ => 0))), (q_1, .inl (cI, 4, .inl (fun j => if j < 4 then 1000000 else 0))), (q_3, .inl (cI, 20, .inl (fun j => if j < 20 then (-1) else 0)))] H := hP
  have hD : va_D A [(h0, .inr (5, [ev_rf ad o0, .ref q_1, .int 0, ev_rf ad o1, .int 0, .ref q_2, .ref q_3, .ref q_4, .int 0])), (q_2, .inl (cI, 20, .inl (fun _ => 0))), (q_4, .inl (cI, 20, .inl (fun _ => 0))), (q_1, .inl (cI, 4, .inl (fun j => if j < 4 then 1000000 else 0))), (q_3, .inl (cI, 20, .inl (fun j => if j < 20 then (-1) else 0)))] := hD
  have hP9 : ∀ t : State, t.heap = H → va_P D vwCl [(h0, .inr (5, [ev_rf ad o0, .ref q_1, .int 0, ev_rf ad o1, .int 0, .ref q_2, .ref q_3, .ref q_4, .int 0])), (q_1, .inl (cI, 4, .inl (fun j => if j < 4 then 1000000 else 0))), (q_2, .inl (cI, 20, .inl (fun _ => 0))), (q_3, .inl (cI, 20, .inl (fun j => if j < 20 then (-1) else 0))), (q_4, .inl (cI, 20, .inl (fun _ => 0)))] t.heap := fun t ht => by rw [ht]; exact hP.sub [0, 3, 1, 4, 2] rfl
  have hD9 : va_D A [(h0, .inr (5, [ev_rf ad o0, .ref q_1, .int 0, ev_rf ad o1, .int 0, .ref q_2, .ref q_3, .ref q_4, .int 0])), (q_1, .inl (cI, 4, .inl (fun j => if j < 4 then 1000000 else 0))), (q_2, .inl (cI, 20, .inl (fun _ => 0))), (q_3, .inl (cI, 20, .inl (fun j => if j < 20 then (-1) else 0))), (q_4, .inl (cI, 20, .inl (fun _ => 0)))] := hD.sub [0, 3, 1, 4, 2] (by decide) rfl
  have hS9 : ∀ t : State, t.heap = H → va_F A s t := fun t ht => hS.F ht
  refine W.widen (k := 4) (n := 64) (by decide) (by decide) ?_
  exact W.vret hx hb hr (fun t ht _ => ⟨rfl, ⟨q_1, q_2, q_3, q_4, hP9 t ht, hD9⟩, hS9 t ht⟩) hS.2.2 dX7_init_62
def ev_tn (o0 o1 : Option Nat) : ev_TH := (o0, o1, false, false, fun j => if j < 4 then 1000000 else 0, fun _ => 0, fun j => if j < 20 then (-1) else 0, fun _ => 0, 0)
/-- the world with things' cells, n of them listed -/
def ev_wk (cI cO : ClassId) (b : Nat → Nat) (ad : Nat → Nat → Nat) (n : Nat) (st : ev_ST) : va_W := ev_top cO b ad n ++ ev_ths cI ad st
theorem ev_wk_at (cI cO : ClassId) (b : Nat → Nat) (ad : Nat → Nat → Nat) (n : Nat) (st : ev_ST) {i c : Nat} (hi : i < st.1) (hc : c < 5) : (ev_wk cI cO b ad n st)[5 + (5 * i + c)]? = some (ev_cell cI ad i (st.2 i) c) := by
  unfold ev_wk
  rw [List.getElem?_append_right (by simp [ev_top])]
  rw [show 5 + (5 * i + c) - (ev_top cO b ad n).length = 5 * i + c from by simp [ev_top]]
  exact ev_ths_at cI ad st hi hc
theorem ev_rwS (ad : Nat → Nat → Nat) (n : Nat) : va_up (ev_rw ad n) n (some (ad n 0)) = ev_rw ad (n + 1) := by
  funext j
  unfold va_up ev_rw
  by_cases h : j = n
  · rw [if_pos h, if_pos (by omega), h]
  · rw [if_neg h]
    by_cases h2 : j < n
    · rw [if_pos h2, if_pos (by omega)]
    · rw [if_neg h2, if_neg (by omega)]
set_option maxHeartbeats 4000000 in
set_option maxRecDepth 100000 in
theorem c_X8_append (l : Launch) {D : va_G} {cI cO : ClassId} {b : Nat → Nat} {ad : Nat → Nat → Nat} {A : Nat → Prop} {n : Nat} {S : Nat → ev_TH} (hn : n < 12) (hD : va_D A (ev_wk cI cO b ad n (n + 1, S))) : Met l yX8_append wsX8_append ({ frames := 0, cells := 0, slots := 0, locals := 0 }) (ev_Pc D cI cO (va_P D vwCl (ev_wk cI cO b ad n (n + 1, S))) [.ref (b 1), .ref (ad n 0)]) (ev_QM (some (.int (nI n))) (fun H => ev_P D cI cO b ad (n + 1, S) H ∧ va_D A (ev_wl cI cO b ad (n + 1, S))) A) 0 0 A := by
  refine ev_body (cc := cX8_append) (maxL := 2) (ret := (some .int)) (by decide) rfl (Nat.le_of_ble_eq_true rfl) ?_
  intro p e s m args below meth c hx hb hr hml hown hts hlocks hnm hP hK ls hl
  have hS : va_S A s.heap s.heap [] := va_S.rf
  have hl : lv_has ls 2 [(0, .ref (b 1)), (1, .ref (ad n 0))] := hl
  have hi8 : ∀ w ∈ wsX80, w ∈ wsX8_append := by decide +kernel
  refine lv_aload_n hx hb dX8_append_0 rfl (lv_at hl 0 rfl) ?_
  refine va_get (D := D) (ci := 6) (v := .int (nI n)) (C := RX8) (T := TX8) (N := 2) hx hb hts hi8 hown hK hP 1 rfl rfl 1 (by decide) (hts (.fieldLink RX8 17 "EventloopRow$Things" "count" "I") (by decide +kernel)) (fun _ h => h) rfl dX8_append_1 ?_
  refine en_if_lt (tgt := 16) hx hb (by omega) dX8_append_4 (by decide) ?_
  refine lv_aload_n hx hb dX8_append_7 rfl (lv_at hl 0 rfl) ?_
  refine va_get (D := D) (ci := 6) (v := .int (nI n)) (C := RX8) (T := TX8) (N := 2) hx hb hts hi8 hown hK hP 1 rfl rfl 1 (by decide) (hts (.fieldLink RX8 17 "EventloopRow$Things" "count" "I") (by decide +kernel)) (fun _ h => h) rfl dX8_append_8 ?_
  refine lv_bipush (v := nI 12) hx hb dX8_append_11 (by decide) ?_
  refine en_icmp_lt (tgt := 18) hx hb (by omega) (by omega) dX8_append_13 (by decide) (fun _ => ?_) (fun c => by exfalso; omega)
  refine lv_aload_n hx hb dX8_append_18 rfl (lv_at hl 0 rfl) ?_
  refine va_get (D := D) (ci := 6) (v := .ref (b 2)) (C := RX8) (T := TX8) (N := 2) hx hb hts hi8 hown hK hP 1 rfl rfl 0 (by decide) (hts (.fieldLink RX8 11 "EventloopRow$Things" "row" "[LEventloopRow$Thing;") (by decide +kernel)) (fun _ h => h) rfl dX8_append_19 ?_
  refine lv_aload_n hx hb dX8_append_22 rfl (lv_at hl 0 rfl) ?_
  refine va_get (D := D) (ci := 6) (v := .int (nI n)) (C := RX8) (T := TX8) (N := 2) hx hb hts hi8 hown hK hP 1 rfl rfl 1 (by decide) (hts (.fieldLink RX8 17 "EventloopRow$Things" "count" "I") (by decide +kernel)) (fun _ h => h) rfl dX8_append_23 ?_
  refine lv_aload_n hx hb dX8_append_26 rfl (lv_at hl 1 rfl) ?_
  refine va_astq hx hb hK hP hD hS 2 1 (5 + (5 * n + 0)) 5 (r := (RX7, TX7, 9)) (cA := cO) (n := 12) (f := ev_rw ad n) rfl rfl (ev_wk_at cI cO b ad n (n + 1, S) (i := n) (c := 0) (Nat.lt_succ_self n) (by decide)) rfl (vp_in_nI hn (by decide)) dX8_append_27 (fun H locs hP hD hS => ?_)
  rw [nI_clamp (by omega), ev_rwS] at hP hD
  refine lv_aload_n hx hb dX8_append_28 rfl (lv_at hl 0 rfl) ?_
  refine lv_dup hx hb dX8_append_29 rfl ?_
  refine va_get (D := D) (ci := 6) (v := .int (nI n)) (C := RX8) (T := TX8) (N := 2) hx hb hts hi8 hown hK hP 1 rfl rfl 1 (by decide) (hts (.fieldLink RX8 17 "EventloopRow$Things" "count" "I") (by decide +kernel)) (fun _ h => h) rfl dX8_append_30 ?_
  refine lv_iconst (v := nI 1) hx hb dX8_append_33 (by decide) ?_
  refine en_iadd hx hb (n + 1) rfl dX8_append_34 ?_
  refine va_put (D := D) (ci := 6) (v := .int (nI (n + 1))) (ty := tyX8 1) (C := RX8) (T := TX8) (N := 2) hx hb hts hi8 tyX8 tyX8_ok nmX8 hown hK hP hD hS 1 rfl rfl 1 (by decide) (hts (.fieldLink RX8 17 "EventloopRow$Things" "count" "I") (by decide +kernel)) (fun _ h => h) rfl (tyX8_ok 1 (by decide)) rfl rfl (Nat.le_of_ble_eq_true rfl) dX8_append_35 (fun H locs hP hD hS => ?_)
  have hP : ev_P D cI cO b ad (n + 1, S) H := hP
  have hD : va_D A (ev_wl cI cO b ad (n + 1, S)) := hD
  refine lv_aload_n hx hb dX8_append_38 rfl (lv_at hl 0 rfl) ?_
  refine ev_row (v := .int (nI (n + 1))) hx hb hts hi8 hown hK hP 1 (by decide) (hts (.fieldLink RX8 17 "EventloopRow$Things" "count" "I") (by decide +kernel)) rfl dX8_append_39 ?_
  refine lv_iconst (v := nI 1) hx hb dX8_append_42 (by decide) ?_
  refine en_isub hx hb n rfl dX8_append_43 ?_
  exact em_int hx hb hr hlocks rfl ⟨hP, hD⟩ hS dX8_append_44
theorem ev_wpre {w1 w2 : va_W} {k : Nat} {z : Nat × va_E} (h : w1[k]? = some z) : (w1 ++ w2)[k]? = some z := by
  rw [List.getElem?_append_left (List.getElem?_eq_some_iff.mp h).1]; exact h
theorem ev_wsuf {w1 w2 : va_W} {k : Nat} {z : Nat × va_E} (h : w2[k]? = some z) : (w1 ++ w2)[w1.length + k]? = some z := by
  rw [List.getElem?_append_right (by omega), show w1.length + k - w1.length = k from by omega]; exact h
def ev_ad2 (ad : Nat → Nat → Nat) (n : Nat) (q : Nat → Nat) : Nat → Nat → Nat := fun i c => if i = n then q c else ad i c
theorem ev_ad2_n (ad : Nat → Nat → Nat) (n : Nat) (q : Nat → Nat) (c : Nat) : ev_ad2 ad n q n c = q c := if_pos rfl
theorem ev_ad2_o (ad : Nat → Nat → Nat) {n i : Nat} (q : Nat → Nat) (c : Nat) (h : i ≠ n) : ev_ad2 ad n q i c = ad i c := if_neg h
theorem ev_rf2 (ad : Nat → Nat → Nat) {n : Nat} (q : Nat → Nat) {o : Option Nat} (h : ∀ j, o = some j → j < n) : ev_rf (ev_ad2 ad n q) o = ev_rf ad o := by
  cases o with
  | none => rfl
  | some j =>
    have := h j rfl
    show va_rf (some (ev_ad2 ad n q j 0)) = va_rf (some (ad j 0))
    rw [ev_ad2_o ad q 0 (by omega)]
theorem ev_cell2 (cI : ClassId) (ad : Nat → Nat → Nat) {n i : Nat} (q : Nat → Nat) (t : ev_TH) (c : Nat) (hi : i ≠ n) (h1 : ∀ j, ev_tg t = some j → j < n) (h2 : ∀ j, ev_ch t = some j → j < n) : ev_cell cI (ev_ad2 ad n q) i t c = ev_cell cI ad i t c := by
  unfold ev_cell ev_tf
  rw [ev_rf2 ad q h1, ev_rf2 ad q h2]
  simp only [ev_ad2_o ad q _ hi]
theorem ev_wk2 (cI cO : ClassId) (b : Nat → Nat) (ad : Nat → Nat → Nat) (st : ev_ST) (q : Nat → Nat) (hTG : ∀ i, i < st.1 → ∀ j, ev_tg (st.2 i) = some j → j < st.1) (hCH : ∀ i, i < st.1 → ∀ j, ev_ch (st.2 i) = some j → j < st.1) : ev_wk cI cO b (ev_ad2 ad st.1 q) st.1 (st.1 + 1, st.2) = ev_wl cI cO b ad st ++ (List.range 5).map (fun c => ev_cell cI (ev_ad2 ad st.1 q) st.1 (st.2 st.1) c) := by
  unfold ev_wk ev_wl
  have h1 : ev_top cO b (ev_ad2 ad st.1 q) st.1 = ev_top cO b ad st.1 := by
    have : ev_rw (ev_ad2 ad st.1 q) st.1 = ev_rw ad st.1 := by
      funext j
      unfold ev_rw
      by_cases h : j < st.1
      · rw [if_pos h, if_pos h, ev_ad2_o ad q 0 (by omega)]
      · rw [if_neg h, if_neg h]
    unfold ev_top
    rw [this]
  rw [h1, List.append_assoc]
  congr 1
  refine List.ext_getElem? fun k => ?_
  have hlen : (ev_ths cI ad st).length = 5 * st.1 := by simp [ev_ths]
  by_cases hk : k < 5 * st.1
  · rw [List.getElem?_append_left (by rw [hlen]; exact hk)]
    unfold ev_ths
    rw [List.getElem?_map, List.getElem?_map, List.getElem?_range (by show k < 5 * (st.1 + 1); omega), List.getElem?_range hk]
    have hi : k / 5 < st.1 := by omega
    show some (ev_cell cI _ (k / 5) (st.2 (k / 5)) (k % 5)) = some (ev_cell cI ad (k / 5) (st.2 (k / 5)) (k % 5))
    rw [ev_cell2 cI ad q _ _ (by omega) (hTG _ hi) (hCH _ hi)]
  · rw [List.getElem?_append_right (by rw [hlen]; omega), hlen]
    unfold ev_ths
    rw [List.getElem?_map, List.getElem?_map]
    by_cases hk2 : k < 5 * st.1 + 5
    · rw [List.getElem?_range (by show k < 5 * (st.1 + 1); omega), List.getElem?_range (by omega)]
      have e1 : k / 5 = st.1 := by omega
      have e2 : k % 5 = k - 5 * st.1 := by omega
      show some (ev_cell cI _ (k / 5) (st.2 (k / 5)) (k % 5)) = some (ev_cell cI _ st.1 (st.2 st.1) (k - 5 * st.1))
      rw [e1, e2]
    · rw [List.getElem?_eq_none (by simp; omega), List.getElem?_eq_none (by simp; omega)]
      rfl
def ev_PcA (D : va_G) (cI cO : ClassId) (A : Nat → Prop) (Hp : Heap → Prop) (av : List Value) : Array Value → State → Prop := fun v U => v = av.toArray ∧ Hp U.heap ∧ va_K D vwCl (ev_ty cI cO) U ∧ ev_AOs U ∧ ev_NsO U ∧ ∀ q : Nat, U.heap.size ≤ q → A q
theorem ev_blindA {D : va_G} {cI cO : ClassId} {A : Nat → Prop} {Hp : Heap → Prop} {av : List Value} : FrameBlind (ev_PcA D cI cO A Hp av) := fun a U g mk q => ⟨q.1, q.2.1, va_K.moved (u := U) (U := U.calling g mk a) (Vm.Alike.refl U.vm) q.2.2.1, ev_AOs.moved (u := U) (U := U.calling g mk a) (Vm.Alike.refl U.vm) q.2.2.2.1, ev_NsO.same (u := U) (U := U.calling g mk a) rfl q.2.2.2.2.1, q.2.2.2.2.2⟩
theorem ev_bodyA {l : Launch} {D : va_G} {cI cO : ClassId} {A : Nat → Prop} {y : MethodName} {ws ws' : List Cond} {rm : Room} {Hp : Heap → Prop} {av : List Value} {Qc : Array Value → State → Outcome → State → Prop} {mc ms : Nat} {free : Addr → Prop} {cc : ByteArray} {maxL : Nat} {ret : Option FieldType}
    (hy : plainName y.cls = true) (hw : ws = Cond.code y cc maxL ret :: ws') (hlen : (lg_sl av).length ≤ maxL)
    (body : ∀ (p : Program) (e : Env) (s : State) (m : MethodId) (args : Array Value) (below : List Frame) (meth : Method) (c : Code), p.tables.exec = Jvm.exec → c.code = cc → meth.sig.returnType = ret → c.maxLocals = maxL → s.vm.findClass y.cls = some m.cls → (∀ w ∈ ws, w.before args s = true) → meth.locks = false → meth.name = y.name → Hp s.heap → va_K D vwCl (ev_ty cI cO) s → ev_AOs s → ev_NsO s → (∀ q : Nat, s.heap.size ≤ q → A q) → ∀ ls : Array Slot, lv_has ls maxL (lv_args 0 av) →
      W p l e rm s m args below meth c s.heap [] 0 0 (MQ below Qc args s mc ms free) (F0 m 0 ls [])) : Met l y ws rm (ev_PcA D cI cO A Hp av) Qc mc ms free := by
  refine Met.ofW (cc := cc) (maxL := maxL) (ret := ret) hy hw ?_
  intro p e s m args below meth c s₁ B hml hv
  obtain ⟨rfl, hH, hK, hO, hN, hA⟩ := hv
  rw [lg_entry_eq]
  exact body p e s m _ below meth c B.exec B.bytes B.returns hml (findClass_of_methodNamed B.named) (atoms_spec (ws := ws) B.pre) B.notSynchronized (name_of_methodNamed B.named B.method).1 hH hK hO hN hA _ (lv_entry av (n := maxL) hlen)
set_option maxHeartbeats 4000000 in
set_option maxRecDepth 100000 in
theorem c_X11_addObject_v (l : Launch) {D : va_G} {cI cO : ClassId} {b : Nat → Nat} {ad : Nat → Nat → Nat} {st : ev_ST} {A : Nat → Prop} (hD : va_D A (ev_wl cI cO b ad st)) (hn : st.1 ≤ 12) (hn2 : st.1 < 12) (hTG : ∀ i, i < st.1 → ∀ j, ev_tg (st.2 i) = some j → j < st.1) (hCH : ∀ i, i < st.1 → ∀ j, ev_ch (st.2 i) = some j → j < st.1) {o : Nat} (ho : o < st.1) (hSn : st.2 st.1 = ev_tn none (some o)) : Met l yX11_addObject wsX11_addObject ({ frames := 2, cells := 5, slots := 73, locals := 45 }) (ev_PcA D cI cO A (ev_P D cI cO b ad st) [.ref (b 0), .int (nI o)]) (ev_QM (some (.int (nI st.1))) (fun H => ∃ ad2 : Nat → Nat → Nat, ev_P D cI cO b ad2 (st.1 + 1, st.2) H ∧ va_D A (ev_wl cI cO b ad2 (st.1 + 1, st.2))) A) 5 73 A := by
  refine ev_bodyA (cc := cX11_addObject) (maxL := 2) (ret := (some .int)) (by decide) rfl (Nat.le_of_ble_eq_true rfl) ?_
  intro p e s m args below meth c hx hb hr hml hown hts hlocks hnm hP hK hO hNs hA ls hl
  have hl : lv_has ls 2 [(0, .ref (b 0)), (1, .int (nI o))] := hl
  have hi7 : ∀ w ∈ wsX70, w ∈ wsX11_addObject := by decide +kernel
  have hi11 : ∀ w ∈ wsX110, w ∈ wsX11_addObject := by decide +kernel
  refine lv_iload_n hx hb dX11_addObject_0 rfl (lv_at hl 1 rfl) ?_
  refine lv_iconst (v := -1) hx hb dX11_addObject_1 (by decide) ?_
  refine lv_icmp_eq (tgt := 26) hx hb dX11_addObject_2 (by decide) (fun c_1 => ?_) (fun c_1 => ?_)
  ·
    refine lv_aload_n hx hb dX11_addObject_26 rfl (lv_at hl 0 rfl) ?_
    refine ev_fac (v := .ref (b 1)) hx hb hts hi11 hown hK hP 0 (by decide) (hts (.fieldLink RX11 10 "EventloopRow" "things" "LEventloopRow$Things;") (by decide +kernel)) rfl dX11_addObject_27 ?_
    refine ev_cv (As := []) (rest := []) ⟨hx, hb, hml, hown, hts⟩ (c_X8_isFull l hn) (cwV 0 hts gX11_addObject_X8_isFull rfl rfl rfl (by decide +kernel) ⟨Nat.le_of_ble_eq_true rfl, Nat.le_of_ble_eq_true rfl⟩) hP hK (ev_recvT hK hP) rfl hl.1 (Nat.le_of_ble_eq_true rfl) dX11_addObject_30 ⟨Nat.le_of_ble_eq_true rfl, Nat.le_of_ble_eq_true rfl⟩ ?_
    refine eb_if_eq (tgt := 46) hx hb dX11_addObject_33 (by decide) (fun c_2 => ?_) (fun c_2 => by exfalso; have := of_decide_eq_true c_2; omega)
    refine lv_aload_n hx hb dX11_addObject_46 rfl (lv_at hl 0 rfl) ?_
    refine ev_fac (v := .ref (b 1)) hx hb hts hi11 hown hK hP 0 (by decide) (hts (.fieldLink RX11 10 "EventloopRow" "things" "LEventloopRow$Things;") (by decide +kernel)) rfl dX11_addObject_47 ?_
    have hS0 : va_S A s.heap s.heap [] := va_S.rf
    refine va_new (D := D) (ci := 5) (fs := [.null, .null, .int 0, .null, .int 0, .null, .null, .null, .int 0]) (C := RX7) (T := TX7) (N := 9) hx hb hts hi7 tyX7 tyX7_ok hown (hts (.classLink RX11 61 RX7) (by decide +kernel)) (hts (.instantiable RX7 9) (by decide +kernel)) (hts (.initialized RX7) (by decide +kernel)) hK hP hD hS0 hA rfl (fun j hj => by rcases j with _ | _ | _ | _ | _ | _ | _ | _ | _ | j <;> first | rfl | omega) (Nat.le_of_ble_eq_true rfl) (Nat.le_of_ble_eq_true rfl) dX11_addObject_50 (fun q H hP2 hD2 hS => ?_)
    have hP : ev_P D cI cO b ad st H := fun k z hk => hP2 k z (ev_wpre hk)
    have hq : va_P D vwCl [(q, .inr (5, [.null, .null, .int 0, .null, .int 0, .null, .null, .null, .int 0]))] H := fun k z hk => hP2 _ z (ev_wsuf hk)
    have hqA : A q := hD2.2 _ _ (ev_wsuf (k := 0) rfl)
    have hqd : ∀ (k : Nat) (z : Nat × va_E), (ev_wl cI cO b ad st)[k]? = some z → z.1 ≠ q := fun k z hk hz => by have := hD2.1 _ _ _ _ (ev_wpre hk) (ev_wsuf (k := 0) rfl) hz; have := (List.getElem?_eq_some_iff.mp hk).1; omega
    refine lv_dup hx hb dX11_addObject_53 rfl ?_
    refine lv_null hx hb dX11_addObject_54 ?_
    refine lv_aload_n hx hb dX11_addObject_55 rfl (lv_at hl 0 rfl) ?_
    refine ev_fac (v := .ref (b 1)) hx hb hts hi11 hown hK hP 0 (by decide) (hts (.fieldLink RX11 10 "EventloopRow" "things" "LEventloopRow$Things;") (by decide +kernel)) rfl dX11_addObject_56 ?_
    refine lv_iload_n hx hb dX11_addObject_59 rfl (lv_at hl 1 rfl) ?_
    refine ev_cv (As := [.int (nI o)]) (rest := [.null, .ref q, .ref q, .ref (b 1)]) ⟨hx, hb, hml, hown, hts⟩ (c_X8_find_v l hn (j := o) ho) (cwV 1 hts gX11_addObject_X8_find rfl rfl rfl (by decide +kernel) ⟨Nat.le_of_ble_eq_true rfl, Nat.le_of_ble_eq_true rfl⟩) hP hK (ev_recvT hK hP) rfl hl.1 (Nat.le_of_ble_eq_true rfl) dX11_addObject_60 ⟨Nat.le_of_ble_eq_true rfl, Nat.le_of_ble_eq_true rfl⟩ ?_
    have hlt : q < H.size := (hq 0 _ rfl).lt
    have hP0 := hP
    have hSq := hS.1
    refine ev_call0 (va_runI (As := [.null, .ref (ad o 0)]) (rest := [.ref q, .ref (b 1)]) ⟨hx, hb, hml, hown, hts⟩ (c_X7_init l (h0 := q) (sz := H.size) (ad := ad) (o0 := none) (o1 := (some o))) (cwI 2 hts gX11_addObject_X7_init rfl rfl rfl (hts (.initialized RX7) (by decide +kernel)) (hts (.methodLink RX11 63 yX7_init) (by decide +kernel)) (hts (.instanceMethod yX7_init) (by decide +kernel)) rfl (by decide +kernel) ⟨Nat.le_of_ble_eq_true rfl, Nat.le_of_ble_eq_true rfl⟩) (ev_preN rfl hq hK hO hNs) rfl rfl hl.1 rfl (lv_room (Nat.le_of_ble_eq_true rfl)) dX11_addObject_63 ⟨Nat.le_of_ble_eq_true rfl, Nat.le_of_ble_eq_true rfl⟩) hS (fun z hz => ?_) (fun t H1 locs ht hQ hz hk hS => ?_)
    · rcases hz with rfl | hz
      · exact hqA
      · exact hA _ (Nat.le_trans hS.1 hz)
    subst ht
    obtain ⟨q1, q2, q3, q4, hP1, hD1⟩ := hQ
    have hP : ev_P D cI cO b ad st t.heap := hP.kept (fun k z hk2 => hk z.1 (hP k z hk2).lt (fun ha => ha.elim (fun ha => hqd k z hk2 ha) (fun ha => absurd (hP k z hk2).lt (Nat.not_lt.mpr ha))))
    have hw := ev_wk2 cI cO b ad st (fun c => ([q, q1, q2, q3, q4] : List Nat).getD c 0) hTG hCH
    have hcs : (List.range 5).map (fun c => ev_cell cI (ev_ad2 ad st.1 (fun c => ([q, q1, q2, q3, q4] : List Nat).getD c 0)) st.1 (st.2 st.1) c) = [(q, .inr (5, [ev_rf ad none, .ref q1, .int 0, ev_rf ad (some o), .int 0, .ref q2, .ref q3, .ref q4, .int 0])), (q1, .inl (cI, 4, .inl (fun j => if j < 4 then 1000000 else 0))), (q2, .inl (cI, 20, .inl (fun _ => 0))), (q3, .inl (cI, 20, .inl (fun j => if j < 20 then (-1) else 0))), (q4, .inl (cI, 20, .inl (fun _ => 0)))] := by
      rw [hSn]
      have e0 : ev_rf (ev_ad2 ad st.1 (fun c => ([q, q1, q2, q3, q4] : List Nat).getD c 0)) (ev_tg (ev_tn none (some o))) = ev_rf ad none := ev_rf2 ad _ (fun j h => by cases h)
      have e1 : ev_rf (ev_ad2 ad st.1 (fun c => ([q, q1, q2, q3, q4] : List Nat).getD c 0)) (ev_ch (ev_tn none (some o))) = ev_rf ad (some o) := ev_rf2 ad _ (fun j h => by cases h; exact ho)
      show [ev_cell _ _ _ _ 0, ev_cell _ _ _ _ 1, ev_cell _ _ _ _ 2, ev_cell _ _ _ _ 3, ev_cell _ _ _ _ 4] = _
      unfold ev_cell ev_tf
      simp only [ev_ad2_n]
      rw [e0, e1]
      rfl
    rw [hcs] at hw
    have hP3 : va_P D vwCl (ev_wk cI cO b (ev_ad2 ad st.1 (fun c => ([q, q1, q2, q3, q4] : List Nat).getD c 0)) st.1 (st.1 + 1, st.2)) t.heap := by rw [hw]; exact hP.app hP1
    have hD3 : va_D A (ev_wk cI cO b (ev_ad2 ad st.1 (fun c => ([q, q1, q2, q3, q4] : List Nat).getD c 0)) st.1 (st.1 + 1, st.2)) := by
      rw [hw]
      refine va_D.app hD (hD1.weaken (fun k z _ ha => ha.elim (fun ha => by rw [ha]; exact hqA) (fun ha => hA _ (Nat.le_trans hSq ha)))) (fun i j x y hx1 hy1 hxy => ?_)
      have hlx := (hP0 i x hx1).lt
      rcases hD1.2 j y hy1 with ha | ha
      · exact hqd i x hx1 (hxy.trans ha)
      · rw [← hxy] at ha; exact absurd hlx (Nat.not_lt.mpr ha)
    have hM := c_X8_append l (D := D) (cI := cI) (cO := cO) (b := b) (ad := ev_ad2 ad st.1 (fun c => ([q, q1, q2, q3, q4] : List Nat).getD c 0)) (A := A) (n := st.1) (S := st.2) hn2 hD3
    rw [ev_ad2_n] at hM
    refine ev_mv (mc := 0) (ms := 0) (As := [.ref q]) (rest := []) ⟨hx, hb, hml, hown, hts⟩ hM (cwV 1 hts gX11_addObject_X8_append rfl rfl rfl (by decide +kernel) ⟨Nat.le_of_ble_eq_true rfl, Nat.le_of_ble_eq_true rfl⟩) hP3 hK hS (ev_recvT hK hP) rfl hl.1 (Nat.le_of_ble_eq_true rfl) dX11_addObject_66 ⟨Nat.le_of_ble_eq_true rfl, Nat.le_of_ble_eq_true rfl⟩ (fun H locs hP hz hk hS => ?_)
    refine W.widen (k := 5) (n := 73) (by decide) (by decide) ?_
    exact em_int hx hb hr hlocks rfl ⟨_, hP.1, hP.2⟩ hS dX11_addObject_69
  ·
    refine lv_aload_n hx hb dX11_addObject_5 rfl (lv_at hl 0 rfl) ?_
    refine ev_fac (v := .ref (b 1)) hx hb hts hi11 hown hK hP 0 (by decide) (hts (.fieldLink RX11 10 "EventloopRow" "things" "LEventloopRow$Things;") (by decide +kernel)) rfl dX11_addObject_6 ?_
    refine lv_iload_n hx hb dX11_addObject_9 rfl (lv_at hl 1 rfl) ?_
    refine ev_cv (As := [.int (nI o)]) (rest := []) ⟨hx, hb, hml, hown, hts⟩ (c_X8_find_v l hn (j := o) ho) (cwV 1 hts gX11_addObject_X8_find rfl rfl rfl (by decide +kernel) ⟨Nat.le_of_ble_eq_true rfl, Nat.le_of_ble_eq_true rfl⟩) hP hK (ev_recvT hK hP) rfl hl.1 (Nat.le_of_ble_eq_true rfl) dX11_addObject_10 ⟨Nat.le_of_ble_eq_true rfl, Nat.le_of_ble_eq_true rfl⟩ ?_
    refine lv_ifnonnull (tgt := 26) hx hb dX11_addObject_13 (by decide) ?_
    refine lv_aload_n hx hb dX11_addObject_26 rfl (lv_at hl 0 rfl) ?_
    refine ev_fac (v := .ref (b 1)) hx hb hts hi11 hown hK hP 0 (by decide) (hts (.fieldLink RX11 10 "EventloopRow" "things" "LEventloopRow$Things;") (by decide +kernel)) rfl dX11_addObject_27 ?_
    refine ev_cv (As := []) (rest := []) ⟨hx, hb, hml, hown, hts⟩ (c_X8_isFull l hn) (cwV 0 hts gX11_addObject_X8_isFull rfl rfl rfl (by decide +kernel) ⟨Nat.le_of_ble_eq_true rfl, Nat.le_of_ble_eq_true rfl⟩) hP hK (ev_recvT hK hP) rfl hl.1 (Nat.le_of_ble_eq_true rfl) dX11_addObject_30 ⟨Nat.le_of_ble_eq_true rfl, Nat.le_of_ble_eq_true rfl⟩ ?_
    refine eb_if_eq (tgt := 46) hx hb dX11_addObject_33 (by decide) (fun c_3 => ?_) (fun c_3 => by exfalso; have := of_decide_eq_true c_3; omega)
    refine lv_aload_n hx hb dX11_addObject_46 rfl (lv_at hl 0 rfl) ?_
    refine ev_fac (v := .ref (b 1)) hx hb hts hi11 hown hK hP 0 (by decide) (hts (.fieldLink RX11 10 "EventloopRow" "things" "LEventloopRow$Things;") (by decide +kernel)) rfl dX11_addObject_47 ?_
    have hS0 : va_S A s.heap s.heap [] := va_S.rf
    refine va_new (D := D) (ci := 5) (fs := [.null, .null, .int 0, .null, .int 0, .null, .null, .null, .int 0]) (C := RX7) (T := TX7) (N := 9) hx hb hts hi7 tyX7 tyX7_ok hown (hts (.classLink RX11 61 RX7) (by decide +kernel)) (hts (.instantiable RX7 9) (by decide +kernel)) (hts (.initialized RX7) (by decide +kernel)) hK hP hD hS0 hA rfl (fun j hj => by rcases j with _ | _ | _ | _ | _ | _ | _ | _ | _ | j <;> first | rfl | omega) (Nat.le_of_ble_eq_true rfl) (Nat.le_of_ble_eq_true rfl) dX11_addObject_50 (fun q H hP2 hD2 hS => ?_)
    have hP : ev_P D cI cO b ad st H := fun k z hk => hP2 k z (ev_wpre hk)
    have hq : va_P D vwCl [(q, .inr (5, [.null, .null, .int 0, .null, .int 0, .null, .null, .null, .int 0]))] H := fun k z hk => hP2 _ z (ev_wsuf hk)
    have hqA : A q := hD2.2 _ _ (ev_wsuf (k := 0) rfl)
    have hqd : ∀ (k : Nat) (z : Nat × va_E), (ev_wl cI cO b ad st)[k]? = some z → z.1 ≠ q := fun k z hk hz => by have := hD2.1 _ _ _ _ (ev_wpre hk) (ev_wsuf (k := 0) rfl) hz; have := (List.getElem?_eq_some_iff.mp hk).1; omega
    refine lv_dup hx hb dX11_addObject_53 rfl ?_
    refine lv_null hx hb dX11_addObject_54 ?_
    refine lv_aload_n hx hb dX11_addObject_55 rfl (lv_at hl 0 rfl) ?_
    refine ev_fac (v := .ref (b 1)) hx hb hts hi11 hown hK hP 0 (by decide) (hts (.fieldLink RX11 10 "EventloopRow" "things" "LEventloopRow$Things;") (by decide +kernel)) rfl dX11_addObject_56 ?_
    refine lv_iload_n hx hb dX11_addObject_59 rfl (lv_at hl 1 rfl) ?_
    refine ev_cv (As := [.int (nI o)]) (rest := [.null, .ref q, .ref q, .ref (b 1)]) ⟨hx, hb, hml, hown, hts⟩ (c_X8_find_v l hn (j := o) ho) (cwV 1 hts gX11_addObject_X8_find rfl rfl rfl (by decide +kernel) ⟨Nat.le_of_ble_eq_true rfl, Nat.le_of_ble_eq_true rfl⟩) hP hK (ev_recvT hK hP) rfl hl.1 (Nat.le_of_ble_eq_true rfl) dX11_addObject_60 ⟨Nat.le_of_ble_eq_true rfl, Nat.le_of_ble_eq_true rfl⟩ ?_
    have hlt : q < H.size := (hq 0 _ rfl).lt
    have hP0 := hP
    have hSq := hS.1
    refine ev_call0 (va_runI (As := [.null, .ref (ad o 0)]) (rest := [.ref q, .ref (b 1)]) ⟨hx, hb, hml, hown, hts⟩ (c_X7_init l (h0 := q) (sz := H.size) (ad := ad) (o0 := none) (o1 := (some o))) (cwI 2 hts gX11_addObject_X7_init rfl rfl rfl (hts (.initialized RX7) (by decide +kernel)) (hts (.methodLink RX11 63 yX7_init) (by decide +kernel)) (hts (.instanceMethod yX7_init) (by decide +kernel)) rfl (by decide +kernel) ⟨Nat.le_of_ble_eq_true rfl, Nat.le_of_ble_eq_true rfl⟩) (ev_preN rfl hq hK hO hNs) rfl rfl hl.1 rfl (lv_room (Nat.le_of_ble_eq_true rfl)) dX11_addObject_63 ⟨Nat.le_of_ble_eq_true rfl, Nat.le_of_ble_eq_true rfl⟩) hS (fun z hz => ?_) (fun t H1 locs ht hQ hz hk hS => ?_)
    · rcases hz with rfl | hz
      · exact hqA
      · exact hA _ (Nat.le_trans hS.1 hz)
    subst ht
    obtain ⟨q1, q2, q3, q4, hP1, hD1⟩ := hQ
    have hP : ev_P D cI cO b ad st t.heap := hP.kept (fun k z hk2 => hk z.1 (hP k z hk2).lt (fun ha => ha.elim (fun ha => hqd k z hk2 ha) (fun ha => absurd (hP k z hk2).lt (Nat.not_lt.mpr ha))))
    have hw := ev_wk2 cI cO b ad st (fun c => ([q, q1, q2, q3, q4] : List Nat).getD c 0) hTG hCH
    have hcs : (List.range 5).map (fun c => ev_cell cI (ev_ad2 ad st.1 (fun c => ([q, q1, q2, q3, q4] : List Nat).getD c 0)) st.1 (st.2 st.1) c) = [(q, .inr (5, [ev_rf ad none, .ref q1, .int 0, ev_rf ad (some o), .int 0, .ref q2, .ref q3, .ref q4, .int 0])), (q1, .inl (cI, 4, .inl (fun j => if j < 4 then 1000000 else 0))), (q2, .inl (cI, 20, .inl (fun _ => 0))), (q3, .inl (cI, 20, .inl (fun j => if j < 20 then (-1) else 0))), (q4, .inl (cI, 20, .inl (fun _ => 0)))] := by
      rw [hSn]
      have e0 : ev_rf (ev_ad2 ad st.1 (fun c => ([q, q1, q2, q3, q4] : List Nat).getD c 0)) (ev_tg (ev_tn none (some o))) = ev_rf ad none := ev_rf2 ad _ (fun j h => by cases h)
      have e1 : ev_rf (ev_ad2 ad st.1 (fun c => ([q, q1, q2, q3, q4] : List Nat).getD c 0)) (ev_ch (ev_tn none (some o))) = ev_rf ad (some o) := ev_rf2 ad _ (fun j h => by cases h; exact ho)
      show [ev_cell _ _ _ _ 0, ev_cell _ _ _ _ 1, ev_cell _ _ _ _ 2, ev_cell _ _ _ _ 3, ev_cell _ _ _ _ 4] = _
      unfold ev_cell ev_tf
      simp only [ev_ad2_n]
      rw [e0, e1]
      rfl
    rw [hcs] at hw
    have hP3 : va_P D vwCl (ev_wk cI cO b (ev_ad2 ad st.1 (fun c => ([q, q1, q2, q3, q4] : List Nat).getD c 0)) st.1 (st.1 + 1, st.2)) t.heap := by rw [hw]; exact hP.app hP1
    have hD3 : va_D A (ev_wk cI cO b (ev_ad2 ad st.1 (fun c => ([q, q1, q2, q3, q4] : List Nat).getD c 0)) st.1 (st.1 + 1, st.2)) := by
      rw [hw]
      refine va_D.app hD (hD1.weaken (fun k z _ ha => ha.elim (fun ha => by rw [ha]; exact hqA) (fun ha => hA _ (Nat.le_trans hSq ha)))) (fun i j x y hx1 hy1 hxy => ?_)
      have hlx := (hP0 i x hx1).lt
      rcases hD1.2 j y hy1 with ha | ha
      · exact hqd i x hx1 (hxy.trans ha)
      · rw [← hxy] at ha; exact absurd hlx (Nat.not_lt.mpr ha)
    have hM := c_X8_append l (D := D) (cI := cI) (cO := cO) (b := b) (ad := ev_ad2 ad st.1 (fun c => ([q, q1, q2, q3, q4] : List Nat).getD c 0)) (A := A) (n := st.1) (S := st.2) hn2 hD3
    rw [ev_ad2_n] at hM
    refine ev_mv (mc := 0) (ms := 0) (As := [.ref q]) (rest := []) ⟨hx, hb, hml, hown, hts⟩ hM (cwV 1 hts gX11_addObject_X8_append rfl rfl rfl (by decide +kernel) ⟨Nat.le_of_ble_eq_true rfl, Nat.le_of_ble_eq_true rfl⟩) hP3 hK hS (ev_recvT hK hP) rfl hl.1 (Nat.le_of_ble_eq_true rfl) dX11_addObject_66 ⟨Nat.le_of_ble_eq_true rfl, Nat.le_of_ble_eq_true rfl⟩ (fun H locs hP hz hk hS => ?_)
    refine W.widen (k := 5) (n := 73) (by decide) (by decide) ?_
    exact em_int hx hb hr hlocks rfl ⟨_, hP.1, hP.2⟩ hS dX11_addObject_69
set_option maxHeartbeats 4000000 in
set_option maxRecDepth 100000 in
theorem c_X11_addObject_n (l : Launch) {D : va_G} {cI cO : ClassId} {b : Nat → Nat} {ad : Nat → Nat → Nat} {st : ev_ST} {A : Nat → Prop} (hD : va_D A (ev_wl cI cO b ad st)) (hn : st.1 ≤ 12) (hn2 : st.1 < 12) (hTG : ∀ i, i < st.1 → ∀ j, ev_tg (st.2 i) = some j → j < st.1) (hCH : ∀ i, i < st.1 → ∀ j, ev_ch (st.2 i) = some j → j < st.1) (hSn : st.2 st.1 = ev_tn none none) : Met l yX11_addObject wsX11_addObject ({ frames := 2, cells := 5, slots := 73, locals := 45 }) (ev_PcA D cI cO A (ev_P D cI cO b ad st) [.ref (b 0), .int (-1)]) (ev_QM (some (.int (nI st.1))) (fun H => ∃ ad2 : Nat → Nat → Nat, ev_P D cI cO b ad2 (st.1 + 1, st.2) H ∧ va_D A (ev_wl cI cO b ad2 (st.1 + 1, st.2))) A) 5 73 A := by
  refine ev_bodyA (cc := cX11_addObject) (maxL := 2) (ret := (some .int)) (by decide) rfl (Nat.le_of_ble_eq_true rfl) ?_
  intro p e s m args below meth c hx hb hr hml hown hts hlocks hnm hP hK hO hNs hA ls hl
  have hl : lv_has ls 2 [(0, .ref (b 0)), (1, .int (-1))] := hl
  have hi7 : ∀ w ∈ wsX70, w ∈ wsX11_addObject := by decide +kernel
  have hi11 : ∀ w ∈ wsX110, w ∈ wsX11_addObject := by decide +kernel
  refine lv_iload_n hx hb dX11_addObject_0 rfl (lv_at hl 1 rfl) ?_
  refine lv_iconst (v := -1) hx hb dX11_addObject_1 (by decide) ?_
  refine lv_icmp_eq (tgt := 26) hx hb dX11_addObject_2 (by decide) (fun _ => ?_) (fun h => absurd h (by decide))
  refine lv_aload_n hx hb dX11_addObject_26 rfl (lv_at hl 0 rfl) ?_
  refine ev_fac (v := .ref (b 1)) hx hb hts hi11 hown hK hP 0 (by decide) (hts (.fieldLink RX11 10 "EventloopRow" "things" "LEventloopRow$Things;") (by decide +kernel)) rfl dX11_addObject_27 ?_
  refine ev_cv (As := []) (rest := []) ⟨hx, hb, hml, hown, hts⟩ (c_X8_isFull l hn) (cwV 0 hts gX11_addObject_X8_isFull rfl rfl rfl (by decide +kernel) ⟨Nat.le_of_ble_eq_true rfl, Nat.le_of_ble_eq_true rfl⟩) hP hK (ev_recvT hK hP) rfl hl.1 (Nat.le_of_ble_eq_true rfl) dX11_addObject_30 ⟨Nat.le_of_ble_eq_true rfl, Nat.le_of_ble_eq_true rfl⟩ ?_
  refine eb_if_eq (tgt := 46) hx hb dX11_addObject_33 (by decide) (fun c_2 => ?_) (fun c_2 => by exfalso; have := of_decide_eq_true c_2; omega)
  refine lv_aload_n hx hb dX11_addObject_46 rfl (lv_at hl 0 rfl) ?_
  refine ev_fac (v := .ref (b 1)) hx hb hts hi11 hown hK hP 0 (by decide) (hts (.fieldLink RX11 10 "EventloopRow" "things" "LEventloopRow$Things;") (by decide +kernel)) rfl dX11_addObject_47 ?_
  have hS0 : va_S A s.heap s.heap [] := va_S.rf
  refine va_new (D := D) (ci := 5) (fs := [.null, .null, .int 0, .null, .int 0, .null, .null, .null, .int 0]) (C := RX7) (T := TX7) (N := 9) hx hb hts hi7 tyX7 tyX7_ok hown (hts (.classLink RX11 61 RX7) (by decide +kernel)) (hts (.instantiable RX7 9) (by decide +kernel)) (hts (.initialized RX7) (by decide +kernel)) hK hP hD hS0 hA rfl (fun j hj => by rcases j with _ | _ | _ | _ | _ | _ | _ | _ | _ | j <;> first | rfl | omega) (Nat.le_of_ble_eq_true rfl) (Nat.le_of_ble_eq_true rfl) dX11_addObject_50 (fun q H hP2 hD2 hS => ?_)
  have hP : ev_P D cI cO b ad st H := fun k z hk => hP2 k z (ev_wpre hk)
  have hq : va_P D vwCl [(q, .inr (5, [.null, .null, .int 0, .null, .int 0, .null, .null, .null, .int 0]))] H := fun k z hk => hP2 _ z (ev_wsuf hk)
  have hqA : A q := hD2.2 _ _ (ev_wsuf (k := 0) rfl)
  have hqd : ∀ (k : Nat) (z : Nat × va_E), (ev_wl cI cO b ad st)[k]? = some z → z.1 ≠ q := fun k z hk hz => by have := hD2.1 _ _ _ _ (ev_wpre hk) (ev_wsuf (k := 0) rfl) hz; have := (List.getElem?_eq_some_iff.mp hk).1; omega
  refine lv_dup hx hb dX11_addObject_53 rfl ?_
  refine lv_null hx hb dX11_addObject_54 ?_
  refine lv_aload_n hx hb dX11_addObject_55 rfl (lv_at hl 0 rfl) ?_
  refine ev_fac (v := .ref (b 1)) hx hb hts hi11 hown hK hP 0 (by decide) (hts (.fieldLink RX11 10 "EventloopRow" "things" "LEventloopRow$Things;") (by decide +kernel)) rfl dX11_addObject_56 ?_
  refine lv_iload_n hx hb dX11_addObject_59 rfl (lv_at hl 1 rfl) ?_
  refine ev_cv (As := [.int (-1)]) (rest := [.null, .ref q, .ref q, .ref (b 1)]) ⟨hx, hb, hml, hown, hts⟩ (c_X8_find_n l) (cwV 1 hts gX11_addObject_X8_find rfl rfl rfl (by decide +kernel) ⟨Nat.le_of_ble_eq_true rfl, Nat.le_of_ble_eq_true rfl⟩) hP hK (ev_recvT hK hP) rfl hl.1 (Nat.le_of_ble_eq_true rfl) dX11_addObject_60 ⟨Nat.le_of_ble_eq_true rfl, Nat.le_of_ble_eq_true rfl⟩ ?_
  have hlt : q < H.size := (hq 0 _ rfl).lt
  have hP0 := hP
  have hSq := hS.1
  refine ev_call0 (va_runI (As := [.null, .null]) (rest := [.ref q, .ref (b 1)]) ⟨hx, hb, hml, hown, hts⟩ (c_X7_init l (h0 := q) (sz := H.size) (ad := ad) (o0 := none) (o1 := none)) (cwI 2 hts gX11_addObject_X7_init rfl rfl rfl (hts (.initialized RX7) (by decide +kernel)) (hts (.methodLink RX11 63 yX7_init) (by decide +kernel)) (hts (.instanceMethod yX7_init) (by decide +kernel)) rfl (by decide +kernel) ⟨Nat.le_of_ble_eq_true rfl, Nat.le_of_ble_eq_true rfl⟩) (ev_preN rfl hq hK hO hNs) rfl rfl hl.1 rfl (lv_room (Nat.le_of_ble_eq_true rfl)) dX11_addObject_63 ⟨Nat.le_of_ble_eq_true rfl, Nat.le_of_ble_eq_true rfl⟩) hS (fun z hz => ?_) (fun t H1 locs ht hQ hz hk hS => ?_)
  · rcases hz with rfl | hz
    · exact hqA
    · exact hA _ (Nat.le_trans hS.1 hz)
  subst ht
  obtain ⟨q1, q2, q3, q4, hP1, hD1⟩ := hQ
  have hP : ev_P D cI cO b ad st t.heap := hP.kept (fun k z hk2 => hk z.1 (hP k z hk2).lt (fun ha => ha.elim (fun ha => hqd k z hk2 ha) (fun ha => absurd (hP k z hk2).lt (Nat.not_lt.mpr ha))))
  have hw := ev_wk2 cI cO b ad st (fun c => ([q, q1, q2, q3, q4] : List Nat).getD c 0) hTG hCH
  have hcs : (List.range 5).map (fun c => ev_cell cI (ev_ad2 ad st.1 (fun c => ([q, q1, q2, q3, q4] : List Nat).getD c 0)) st.1 (st.2 st.1) c) = [(q, .inr (5, [ev_rf ad none, .ref q1, .int 0, ev_rf ad none, .int 0, .ref q2, .ref q3, .ref q4, .int 0])), (q1, .inl (cI, 4, .inl (fun j => if j < 4 then 1000000 else 0))), (q2, .inl (cI, 20, .inl (fun _ => 0))), (q3, .inl (cI, 20, .inl (fun j => if j < 20 then (-1) else 0))), (q4, .inl (cI, 20, .inl (fun _ => 0)))] := by
    rw [hSn]
    have e0 : ev_rf (ev_ad2 ad st.1 (fun c => ([q, q1, q2, q3, q4] : List Nat).getD c 0)) (ev_tg (ev_tn none none)) = ev_rf ad none := ev_rf2 ad _ (fun j h => by cases h)
    have e1 : ev_rf (ev_ad2 ad st.1 (fun c => ([q, q1, q2, q3, q4] : List Nat).getD c 0)) (ev_ch (ev_tn none none)) = ev_rf ad none := ev_rf2 ad _ (fun j h => by cases h)
    show [ev_cell _ _ _ _ 0, ev_cell _ _ _ _ 1, ev_cell _ _ _ _ 2, ev_cell _ _ _ _ 3, ev_cell _ _ _ _ 4] = _
    unfold ev_cell ev_tf
    simp only [ev_ad2_n]
    rw [e0, e1]
    rfl
  rw [hcs] at hw
  have hP3 : va_P D vwCl (ev_wk cI cO b (ev_ad2 ad st.1 (fun c => ([q, q1, q2, q3, q4] : List Nat).getD c 0)) st.1 (st.1 + 1, st.2)) t.heap := by rw [hw]; exact hP.app hP1
  have hD3 : va_D A (ev_wk cI cO b (ev_ad2 ad st.1 (fun c => ([q, q1, q2, q3, q4] : List Nat).getD c 0)) st.1 (st.1 + 1, st.2)) := by
    rw [hw]
    refine va_D.app hD (hD1.weaken (fun k z _ ha => ha.elim (fun ha => by rw [ha]; exact hqA) (fun ha => hA _ (Nat.le_trans hSq ha)))) (fun i j x y hx1 hy1 hxy => ?_)
    have hlx := (hP0 i x hx1).lt
    rcases hD1.2 j y hy1 with ha | ha
    · exact hqd i x hx1 (hxy.trans ha)
    · rw [← hxy] at ha; exact absurd hlx (Nat.not_lt.mpr ha)
  have hM := c_X8_append l (D := D) (cI := cI) (cO := cO) (b := b) (ad := ev_ad2 ad st.1 (fun c => ([q, q1, q2, q3, q4] : List Nat).getD c 0)) (A := A) (n := st.1) (S := st.2) hn2 hD3
  rw [ev_ad2_n] at hM
  refine ev_mv (mc := 0) (ms := 0) (As := [.ref q]) (rest := []) ⟨hx, hb, hml, hown, hts⟩ hM (cwV 1 hts gX11_addObject_X8_append rfl rfl rfl (by decide +kernel) ⟨Nat.le_of_ble_eq_true rfl, Nat.le_of_ble_eq_true rfl⟩) hP3 hK hS (ev_recvT hK hP) rfl hl.1 (Nat.le_of_ble_eq_true rfl) dX11_addObject_66 ⟨Nat.le_of_ble_eq_true rfl, Nat.le_of_ble_eq_true rfl⟩ (fun H locs hP hz hk hS => ?_)
  refine W.widen (k := 5) (n := 73) (by decide) (by decide) ?_
  exact em_int hx hb hr hlocks rfl ⟨_, hP.1, hP.2⟩ hS dX11_addObject_69
set_option maxHeartbeats 4000000 in
set_option maxRecDepth 100000 in
theorem c_X11_addProxy (l : Launch) {D : va_G} {cI cO : ClassId} {b : Nat → Nat} {ad : Nat → Nat → Nat} {st : ev_ST} {A : Nat → Prop} (hD : va_D A (ev_wl cI cO b ad st)) (hn : st.1 ≤ 12) (hn2 : st.1 < 12) (hTG : ∀ i, i < st.1 → ∀ j, ev_tg (st.2 i) = some j → j < st.1) (hCH : ∀ i, i < st.1 → ∀ j, ev_ch (st.2 i) = some j → j < st.1) {o : Nat} (ho : o < st.1) (hSn : st.2 st.1 = ev_tn (some o) none) : Met l yX11_addProxy wsX11_addProxy ({ frames := 2, cells := 5, slots := 73, locals := 45 }) (ev_PcA D cI cO A (ev_P D cI cO b ad st) [.ref (b 0), .int (nI o)]) (ev_QM (some (.int (nI st.1))) (fun H => ∃ ad2 : Nat → Nat → Nat, ev_P D cI cO b ad2 (st.1 + 1, st.2) H ∧ va_D A (ev_wl cI cO b ad2 (st.1 + 1, st.2))) A) 5 73 A := by
  refine ev_bodyA (cc := cX11_addProxy) (maxL := 3) (ret := (some .int)) (by decide) rfl (Nat.le_of_ble_eq_true rfl) ?_
  intro p e s m args below meth c hx hb hr hml hown hts hlocks hnm hP hK hO hNs hA ls hl
  have hl : lv_has ls 3 [(0, .ref (b 0)), (1, .int (nI o))] := hl
  have hi7 : ∀ w ∈ wsX70, w ∈ wsX11_addProxy := by decide +kernel
  have hi11 : ∀ w ∈ wsX110, w ∈ wsX11_addProxy := by decide +kernel
  refine lv_aload_n hx hb dX11_addProxy_0 rfl (lv_at hl 0 rfl) ?_
  refine ev_fac (v := .ref (b 1)) hx hb hts hi11 hown hK hP 0 (by decide) (hts (.fieldLink RX11 10 "EventloopRow" "things" "LEventloopRow$Things;") (by decide +kernel)) rfl dX11_addProxy_1 ?_
  refine lv_iload_n hx hb dX11_addProxy_4 rfl (lv_at hl 1 rfl) ?_
  refine ev_cv (As := [.int (nI o)]) (rest := []) ⟨hx, hb, hml, hown, hts⟩ (c_X8_find_v l hn (j := o) ho) (cwV 1 hts gX11_addProxy_X8_find rfl rfl rfl (by decide +kernel) ⟨Nat.le_of_ble_eq_true rfl, Nat.le_of_ble_eq_true rfl⟩) hP hK (ev_recvT hK hP) rfl hl.1 (Nat.le_of_ble_eq_true rfl) dX11_addProxy_5 ⟨Nat.le_of_ble_eq_true rfl, Nat.le_of_ble_eq_true rfl⟩ ?_
  refine lv_astore_n (lv' := [(2, .ref (ad o 0)), (0, .ref (b 0)), (1, .int (nI o))]) hx hb dX11_addProxy_8 rfl hl (by decide) rfl (fun ls hl => ?_)
  refine lv_aload_n hx hb dX11_addProxy_9 rfl (lv_at hl 0 rfl) ?_
  refine lv_ifnonnull (tgt := 23) hx hb dX11_addProxy_10 (by decide) ?_
  refine lv_aload_n hx hb dX11_addProxy_23 rfl (lv_at hl 1 rfl) ?_
  refine ev_fac (v := .ref (b 1)) hx hb hts hi11 hown hK hP 0 (by decide) (hts (.fieldLink RX11 10 "EventloopRow" "things" "LEventloopRow$Things;") (by decide +kernel)) rfl dX11_addProxy_24 ?_
  refine ev_cv (As := []) (rest := []) ⟨hx, hb, hml, hown, hts⟩ (c_X8_isFull l hn) (cwV 0 hts gX11_addProxy_X8_isFull rfl rfl rfl (by decide +kernel) ⟨Nat.le_of_ble_eq_true rfl, Nat.le_of_ble_eq_true rfl⟩) hP hK (ev_recvT hK hP) rfl hl.1 (Nat.le_of_ble_eq_true rfl) dX11_addProxy_27 ⟨Nat.le_of_ble_eq_true rfl, Nat.le_of_ble_eq_true rfl⟩ ?_
  refine eb_if_eq (tgt := 43) hx hb dX11_addProxy_30 (by decide) (fun c_1 => ?_) (fun c_1 => by exfalso; have := of_decide_eq_true c_1; omega)
  refine lv_aload_n hx hb dX11_addProxy_43 rfl (lv_at hl 1 rfl) ?_
  refine ev_fac (v := .ref (b 1)) hx hb hts hi11 hown hK hP 0 (by decide) (hts (.fieldLink RX11 10 "EventloopRow" "things" "LEventloopRow$Things;") (by decide +kernel)) rfl dX11_addProxy_44 ?_
  have hS0 : va_S A s.heap s.heap [] := va_S.rf
  refine va_new (D := D) (ci := 5) (fs := [.null, .null, .int 0, .null, .int 0, .null, .null, .null, .int 0]) (C := RX7) (T := TX7) (N := 9) hx hb hts hi7 tyX7 tyX7_ok hown (hts (.classLink RX11 61 RX7) (by decide +kernel)) (hts (.instantiable RX7 9) (by decide +kernel)) (hts (.initialized RX7) (by decide +kernel)) hK hP hD hS0 hA rfl (fun j hj => by rcases j with _ | _ | _ | _ | _ | _ | _ | _ | _ | j <;> first | rfl | omega) (Nat.le_of_ble_eq_true rfl) (Nat.le_of_ble_eq_true rfl) dX11_addProxy_47 (fun q H hP2 hD2 hS => ?_)
  have hP : ev_P D cI cO b ad st H := fun k z hk => hP2 k z (ev_wpre hk)
  have hq : va_P D vwCl [(q, .inr (5, [.null, .null, .int 0, .null, .int 0, .null, .null, .null, .int 0]))] H := fun k z hk => hP2 _ z (ev_wsuf hk)
  have hqA : A q := hD2.2 _ _ (ev_wsuf (k := 0) rfl)
  have hqd : ∀ (k : Nat) (z : Nat × va_E), (ev_wl cI cO b ad st)[k]? = some z → z.1 ≠ q := fun k z hk hz => by have := hD2.1 _ _ _ _ (ev_wpre hk) (ev_wsuf (k := 0) rfl) hz; have := (List.getElem?_eq_some_iff.mp hk).1; omega
  refine lv_dup hx hb dX11_addProxy_50 rfl ?_
  refine lv_aload_n hx hb dX11_addProxy_51 rfl (lv_at hl 0 rfl) ?_
  refine lv_null hx hb dX11_addProxy_52 ?_
  have hlt : q < H.size := (hq 0 _ rfl).lt
  have hP0 := hP
  have hSq := hS.1
  refine ev_call0 (va_runI (As := [.ref (ad o 0), .null]) (rest := [.ref q, .ref (b 1)]) ⟨hx, hb, hml, hown, hts⟩ (c_X7_init l (h0 := q) (sz := H.size) (ad := ad) (o0 := (some o)) (o1 := none)) (cwI 2 hts gX11_addProxy_X7_init rfl rfl rfl (hts (.initialized RX7) (by decide +kernel)) (hts (.methodLink RX11 63 yX7_init) (by decide +kernel)) (hts (.instanceMethod yX7_init) (by decide +kernel)) rfl (by decide +kernel) ⟨Nat.le_of_ble_eq_true rfl, Nat.le_of_ble_eq_true rfl⟩) (ev_preN rfl hq hK hO hNs) rfl rfl hl.1 rfl (lv_room (Nat.le_of_ble_eq_true rfl)) dX11_addProxy_53 ⟨Nat.le_of_ble_eq_true rfl, Nat.le_of_ble_eq_true rfl⟩) hS (fun z hz => ?_) (fun t H1 locs ht hQ hz hk hS => ?_)
  · rcases hz with rfl | hz
    · exact hqA
    · exact hA _ (Nat.le_trans hS.1 hz)
  subst ht
  obtain ⟨q1, q2, q3, q4, hP1, hD1⟩ := hQ
  have hP : ev_P D cI cO b ad st t.heap := hP.kept (fun k z hk2 => hk z.1 (hP k z hk2).lt (fun ha => ha.elim (fun ha => hqd k z hk2 ha) (fun ha => absurd (hP k z hk2).lt (Nat.not_lt.mpr ha))))
  have hw := ev_wk2 cI cO b ad st (fun c => ([q, q1, q2, q3, q4] : List Nat).getD c 0) hTG hCH
  have hcs : (List.range 5).map (fun c => ev_cell cI (ev_ad2 ad st.1 (fun c => ([q, q1, q2, q3, q4] : List Nat).getD c 0)) st.1 (st.2 st.1) c) = [(q, .inr (5, [ev_rf ad (some o), .ref q1, .int 0, ev_rf ad none, .int 0, .ref q2, .ref q3, .ref q4, .int 0])), (q1, .inl (cI, 4, .inl (fun j => if j < 4 then 1000000 else 0))), (q2, .inl (cI, 20, .inl (fun _ => 0))), (q3, .inl (cI, 20, .inl (fun j => if j < 20 then (-1) else 0))), (q4, .inl (cI, 20, .inl (fun _ => 0)))] := by
    rw [hSn]
    have e0 : ev_rf (ev_ad2 ad st.1 (fun c => ([q, q1, q2, q3, q4] : List Nat).getD c 0)) (ev_tg (ev_tn (some o) none)) = ev_rf ad (some o) := ev_rf2 ad _ (fun j h => by cases h; exact ho)
    have e1 : ev_rf (ev_ad2 ad st.1 (fun c => ([q, q1, q2, q3, q4] : List Nat).getD c 0)) (ev_ch (ev_tn (some o) none)) = ev_rf ad none := ev_rf2 ad _ (fun j h => by cases h)
    show [ev_cell _ _ _ _ 0, ev_cell _ _ _ _ 1, ev_cell _ _ _ _ 2, ev_cell _ _ _ _ 3, ev_cell _ _ _ _ 4] = _
    unfold ev_cell ev_tf
    simp only [ev_ad2_n]
    rw [e0, e1]
    rfl
  rw [hcs] at hw
  have hP3 : va_P D vwCl (ev_wk cI cO b (ev_ad2 ad st.1 (fun c => ([q, q1, q2, q3, q4] : List Nat).getD c 0)) st.1 (st.1 + 1, st.2)) t.heap := by rw [hw]; exact hP.app hP1
  have hD3 : va_D A (ev_wk cI cO b (ev_ad2 ad st.1 (fun c => ([q, q1, q2, q3, q4] : List Nat).getD c 0)) st.1 (st.1 + 1, st.2)) := by
    rw [hw]
    refine va_D.app hD (hD1.weaken (fun k z _ ha => ha.elim (fun ha => by rw [ha]; exact hqA) (fun ha => hA _ (Nat.le_trans hSq ha)))) (fun i j x y hx1 hy1 hxy => ?_)
    have hlx := (hP0 i x hx1).lt
    rcases hD1.2 j y hy1 with ha | ha
    · exact hqd i x hx1 (hxy.trans ha)
    · rw [← hxy] at ha; exact absurd hlx (Nat.not_lt.mpr ha)
  have hM := c_X8_append l (D := D) (cI := cI) (cO := cO) (b := b) (ad := ev_ad2 ad st.1 (fun c => ([q, q1, q2, q3, q4] : List Nat).getD c 0)) (A := A) (n := st.1) (S := st.2) hn2 hD3
  rw [ev_ad2_n] at hM
  refine ev_mv (mc := 0) (ms := 0) (As := [.ref q]) (rest := []) ⟨hx, hb, hml, hown, hts⟩ hM (cwV 1 hts gX11_addProxy_X8_append rfl rfl rfl (by decide +kernel) ⟨Nat.le_of_ble_eq_true rfl, Nat.le_of_ble_eq_true rfl⟩) hP3 hK hS (ev_recvT hK hP) rfl hl.1 (Nat.le_of_ble_eq_true rfl) dX11_addProxy_56 ⟨Nat.le_of_ble_eq_true rfl, Nat.le_of_ble_eq_true rfl⟩ (fun H locs hP hz hk hS => ?_)
  refine W.widen (k := 5) (n := 73) (by decide) (by decide) ?_
  exact em_int hx hb hr hlocks rfl ⟨_, hP.1, hP.2⟩ hS dX11_addProxy_59
