theorem ev_rw0 (ad : Nat → Nat → Nat) : ev_rw ad 0 = fun _ => none := funext fun j => if_neg (Nat.not_lt_zero j)
theorem ev_wl0 (cI cO : ClassId) (b : Nat → Nat) (ad : Nat → Nat → Nat) (tt : Nat → ev_TH) : ev_wl cI cO b ad (0, tt) = [(b 0, .inr (8, [.ref (b 1), .ref (b 3), .ref (b 4), .ref (b 5)])), (b 1, .inr (6, [.ref (b 2), .int (nI 0)])), (b 2, .inl (cO, 12, .inr (.inr (.inr (.inr (fun _ => none)))))), (b 3, .inr (2, [.null, .null, .null])), (b 4, .inr (4, [.ref (b 6), .int 0, .ref (b 7), .int 0, .int 0, .int 0, .int 0, .ref (b 3)]))] := by
  unfold ev_wl ev_top
  rw [show ((0, tt) : ev_ST).1 = 0 from rfl, ev_rw0]
  rfl
set_option maxHeartbeats 4000000 in
set_option maxRecDepth 100000 in
theorem c_X11_init (l : Launch) {D : va_G} {cI cO : ClassId} {h0 sz : Nat} : Met l yX11_init wsX11_init ({ frames := 3, cells := 13, slots := 737, locals := 55 }) (ev_PcN D cI cO sz [(h0, .inr (8, [.null, .null, .null, .null]))] [.ref h0]) (ev_QN (fun t => ∃ bb : Nat → Nat, bb 0 = h0 ∧ ∀ (ad : Nat → Nat → Nat) (tt : Nat → ev_TH), ev_P D cI cO bb ad (0, tt) t.heap ∧ va_D (ev_A h0 sz) (ev_wl cI cO bb ad (0, tt))) (ev_A h0 sz)) 13 737 (ev_A h0 sz) := by
  refine ev_bodyN (cc := cX11_init) (maxL := 1) (ret := none) (by decide) rfl (Nat.le_of_ble_eq_true rfl) ?_
  intro p e s m args below meth c hx hb hr hml hown hts hlocks hnm hsz hP hK hO hNs ls hl
  subst hsz
  generalize hAe : ev_A h0 s.heap.size = A
  have hA : ∀ q : Nat, s.heap.size ≤ q → A q := fun q h => by rw [← hAe]; exact Or.inr h
  have hD : va_D A [(h0, .inr (8, [.null, .null, .null, .null]))] := by rw [← hAe]; exact ⟨fun i j x y hi hj _ => by have := (List.getElem?_eq_some_iff.mp hi).1; have := (List.getElem?_eq_some_iff.mp hj).1; simp at *; omega, fun k q hk => by rcases k with _ | k <;> simp at hk; subst hk; exact Or.inl rfl⟩
  have hS : va_S A s.heap s.heap [] := va_S.rf
  have hl : lv_has ls 1 [(0, .ref h0)] := hl
  have hi2 : ∀ w ∈ wsX20, w ∈ wsX11_init := by decide +kernel
  have hi3 : ∀ w ∈ wsX30, w ∈ wsX11_init := by decide +kernel
  have hi5 : ∀ w ∈ wsX50, w ∈ wsX11_init := by decide +kernel
  have hi8 : ∀ w ∈ wsX80, w ∈ wsX11_init := by decide +kernel
  have hi11 : ∀ w ∈ wsX110, w ∈ wsX11_init := by decide +kernel
  refine lv_aload_n hx hb dX11_init_0 rfl (lv_at hl 0 rfl) ?_
  refine W.objInit hx hb hown (hts (.methodLink RX11 1 objectInit) (by decide +kernel)) (hts (.instanceMethod objectInit) (by decide +kernel)) (hts (.code objectInit ⟨#[0xb1]⟩ 1 none) (by decide +kernel)) rfl (by rw [hml]; exact hl.1) rfl dX11_init_1 (Nat.le_of_ble_eq_true rfl) (Nat.le_of_ble_eq_true rfl) ?_
  refine W.eq (g2 := F0 m 4 ls []) rfl ?_
  refine lv_aload_n hx hb dX11_init_4 rfl (lv_at hl 0 rfl) ?_
  refine va_new (D := D) (ci := 6) (fs := [.null, .int 0]) (C := RX8) (T := TX8) (N := 2) hx hb hts hi8 tyX8 tyX8_ok hown (hts (.classLink RX11 7 RX8) (by decide +kernel)) (hts (.instantiable RX8 2) (by decide +kernel)) (hts (.initialized RX8) (by decide +kernel)) hK hP hD hS hA rfl (fun j hj => by rcases j with _ | _ | j <;> first | rfl | omega) (Nat.le_of_ble_eq_true rfl) (Nat.le_of_ble_eq_true rfl) dX11_init_5 (fun q_1 H hP hD hS => ?_)
  have hP : va_P D vwCl [(h0, .inr (8, [.null, .null, .null, .null])), (q_1, .inr (6, [.null, .int 0]))] H := hP
  have hD : va_D A [(h0, .inr (8, [.null, .null, .null, .null])), (q_1, .inr (6, [.null, .int 0]))] := hD
  refine lv_dup hx hb dX11_init_8 rfl ?_
  have hPc := hP.sub (ws' := [(q_1, .inr (6, [.null, .int 0]))]) [1] rfl
  have hlt : q_1 < H.size := (hPc 0 _ rfl).lt
  have hS0 := hS
  refine ev_call0 (va_runIN (As := []) (rest := [.ref q_1, .ref h0]) ⟨hx, hb, hml, hown, hts⟩ (c_X8_init l (h0 := q_1) (sz := H.size)) (⟨va_cnB 0 hts gX11_init_X8_init_n9 rfl rfl rfl (hNs (.methodLinkNest RX11 9 yX8_init "EventloopRow") (by decide +kernel)) (hts (.initialized RX8) (by decide +kernel)) (by decide +kernel) ⟨Nat.le_of_ble_eq_true rfl, Nat.le_of_ble_eq_true rfl⟩, rfl, hts (.instanceMethod yX8_init) (by decide +kernel)⟩) (ev_preN rfl hPc hK hO hNs) rfl rfl hl.1 rfl (lv_room (Nat.le_of_ble_eq_true rfl)) dX11_init_9 ⟨Nat.le_of_ble_eq_true rfl, Nat.le_of_ble_eq_true rfl⟩) hS (fun z hz => ?_) (fun t H1 locs ht hQ hz hk hS => ?_)
  · rcases hz with rfl | hz
    · exact hD.2 1 _ rfl
    · exact hA _ (Nat.le_trans hS.1 hz)
  subst ht
  obtain ⟨qr, hP1, hD1⟩ := hQ
  obtain ⟨hP, hD⟩ := ev_joinN (wr := [(h0, .inr (8, [.null, .null, .null, .null]))]) (w1 := [(q_1, .inr (6, [.ref qr, .int 0])), (qr, .inl (cO, 12, .inr (.inr (.inr (.inr (fun _ => none))))))]) hP hD hP1 hD1 1 [0] rfl rfl (by decide) (by decide) hk (fun z hz => by rcases hz with rfl | hz <;> first | exact hD.2 1 _ rfl | exact hA _ (Nat.le_trans hS0.1 hz))
  generalize t.heap = H at hP hS ⊢
  have hP : va_P D vwCl [(h0, .inr (8, [.null, .null, .null, .null])), (q_1, .inr (6, [.ref qr, .int 0])), (qr, .inl (cO, 12, .inr (.inr (.inr (.inr (fun _ => none))))))] H := hP
  have hD : va_D A [(h0, .inr (8, [.null, .null, .null, .null])), (q_1, .inr (6, [.ref qr, .int 0])), (qr, .inl (cO, 12, .inr (.inr (.inr (.inr (fun _ => none))))))] := hD
  refine va_putF (D := D) (ci := 8) (v := .ref q_1) (ty := tyX11 0) (C := RX11) (T := TX11) (N := 4) hx hb hts hi11 tyX11 tyX11_ok nmX11 hown hK hP hD hS 0 rfl rfl 0 (by decide) (hts (.fieldLink RX11 10 "EventloopRow" "things" "LEventloopRow$Things;") (by decide +kernel)) (fun _ h9 => h9) rfl hnm rfl (tyX11_ok 0 (by decide)) rfl rfl (Nat.le_of_ble_eq_true rfl) dX11_init_12 (fun H locs hP hD hS => ?_)
  have hP : va_P D vwCl [(h0, .inr (8, [.ref q_1, .null, .null, .null])), (q_1, .inr (6, [.ref qr, .int 0])), (qr, .inl (cO, 12, .inr (.inr (.inr (.inr (fun _ => none))))))] H := hP
  have hD : va_D A [(h0, .inr (8, [.ref q_1, .null, .null, .null])), (q_1, .inr (6, [.ref qr, .int 0])), (qr, .inl (cO, 12, .inr (.inr (.inr (.inr (fun _ => none))))))] := hD
  refine lv_aload_n hx hb dX11_init_15 rfl (lv_at hl 0 rfl) ?_
  refine va_new (D := D) (ci := 2) (fs := [.null, .null, .null]) (C := RX2) (T := TX2) (N := 3) hx hb hts hi2 tyX2 tyX2_ok hown (hts (.classLink RX11 16 RX2) (by decide +kernel)) (hts (.instantiable RX2 3) (by decide +kernel)) (hts (.initialized RX2) (by decide +kernel)) hK hP hD hS hA rfl (fun j hj => by rcases j with _ | _ | _ | j <;> first | rfl | omega) (Nat.le_of_ble_eq_true rfl) (Nat.le_of_ble_eq_true rfl) dX11_init_16 (fun q_2 H hP hD hS => ?_)
  have hP : va_P D vwCl [(h0, .inr (8, [.ref q_1, .null, .null, .null])), (q_1, .inr (6, [.ref qr, .int 0])), (qr, .inl (cO, 12, .inr (.inr (.inr (.inr (fun _ => none)))))), (q_2, .inr (2, [.null, .null, .null]))] H := hP
  have hD : va_D A [(h0, .inr (8, [.ref q_1, .null, .null, .null])), (q_1, .inr (6, [.ref qr, .int 0])), (qr, .inl (cO, 12, .inr (.inr (.inr (.inr (fun _ => none)))))), (q_2, .inr (2, [.null, .null, .null]))] := hD
  refine lv_dup hx hb dX11_init_19 rfl ?_
  have hPc := hP.sub (ws' := [(q_2, .inr (2, [.null, .null, .null]))]) [3] rfl
  have hlt : q_2 < H.size := (hPc 0 _ rfl).lt
  have hS0 := hS
  refine ev_call0 (va_runIN (As := []) (rest := [.ref q_2, .ref h0]) ⟨hx, hb, hml, hown, hts⟩ (c_X2_init l (h0 := q_2) (sz := H.size)) (⟨va_cnB 0 hts gX11_init_X2_init_n18 rfl rfl rfl (hNs (.methodLinkNest RX11 18 yX2_init "EventloopRow") (by decide +kernel)) (hts (.initialized RX2) (by decide +kernel)) (by decide +kernel) ⟨Nat.le_of_ble_eq_true rfl, Nat.le_of_ble_eq_true rfl⟩, rfl, hts (.instanceMethod yX2_init) (by decide +kernel)⟩) (ev_preN rfl hPc hK hO hNs) rfl rfl hl.1 rfl (lv_room (Nat.le_of_ble_eq_true rfl)) dX11_init_20 ⟨Nat.le_of_ble_eq_true rfl, Nat.le_of_ble_eq_true rfl⟩) hS (fun z hz => ?_) (fun t H1 locs ht hQ hz hk hS => ?_)
  · rcases hz with rfl | hz
    · exact hD.2 3 _ rfl
    · exact hA _ (Nat.le_trans hS.1 hz)
  subst ht
  obtain ⟨hP1, hD1⟩ := hQ
  obtain ⟨hP, hD⟩ := ev_joinN (wr := [(h0, .inr (8, [.ref q_1, .null, .null, .null])), (q_1, .inr (6, [.ref qr, .int 0])), (qr, .inl (cO, 12, .inr (.inr (.inr (.inr (fun _ => none))))))]) (w1 := [(q_2, .inr (2, [.null, .null, .null]))]) hP hD hP1 hD1 3 [0, 1, 2] rfl rfl (by decide) (by decide) hk (fun z hz => by rcases hz with rfl | hz <;> first | exact hD.2 3 _ rfl | exact hA _ (Nat.le_trans hS0.1 hz))
  generalize t.heap = H at hP hS ⊢
  have hP : va_P D vwCl [(h0, .inr (8, [.ref q_1, .null, .null, .null])), (q_1, .inr (6, [.ref qr, .int 0])), (qr, .inl (cO, 12, .inr (.inr (.inr (.inr (fun _ => none)))))), (q_2, .inr (2, [.null, .null, .null]))] H := hP
  have hD : va_D A [(h0, .inr (8, [.ref q_1, .null, .null, .null])), (q_1, .inr (6, [.ref qr, .int 0])), (qr, .inl (cO, 12, .inr (.inr (.inr (.inr (fun _ => none)))))), (q_2, .inr (2, [.null, .null, .null]))] := hD
  refine va_putF (D := D) (ci := 8) (v := .ref q_2) (ty := tyX11 1) (C := RX11) (T := TX11) (N := 4) hx hb hts hi11 tyX11 tyX11_ok nmX11 hown hK hP hD hS 0 rfl rfl 1 (by decide) (hts (.fieldLink RX11 19 "EventloopRow" "jobRow" "LEventloopRow$JobRow;") (by decide +kernel)) (fun _ h9 => h9) rfl hnm rfl (tyX11_ok 1 (by decide)) rfl rfl (Nat.le_of_ble_eq_true rfl) dX11_init_23 (fun H locs hP hD hS => ?_)
  have hP : va_P D vwCl [(h0, .inr (8, [.ref q_1, .ref q_2, .null, .null])), (q_1, .inr (6, [.ref qr, .int 0])), (qr, .inl (cO, 12, .inr (.inr (.inr (.inr (fun _ => none)))))), (q_2, .inr (2, [.null, .null, .null]))] H := hP
  have hD : va_D A [(h0, .inr (8, [.ref q_1, .ref q_2, .null, .null])), (q_1, .inr (6, [.ref qr, .int 0])), (qr, .inl (cO, 12, .inr (.inr (.inr (.inr (fun _ => none)))))), (q_2, .inr (2, [.null, .null, .null]))] := hD
  refine lv_aload_n hx hb dX11_init_26 rfl (lv_at hl 0 rfl) ?_
  refine va_new (D := D) (ci := 4) (fs := [.null, .int 0, .null, .int 0, .int 0, .int 0, .int 0, .null]) (C := RX5) (T := TX5) (N := 8) hx hb hts hi5 tyX5 tyX5_ok hown (hts (.classLink RX11 23 RX5) (by decide +kernel)) (hts (.instantiable RX5 8) (by decide +kernel)) (hts (.initialized RX5) (by decide +kernel)) hK hP hD hS hA rfl (fun j hj => by rcases j with _ | _ | _ | _ | _ | _ | _ | _ | j <;> first | rfl | omega) (Nat.le_of_ble_eq_true rfl) (Nat.le_of_ble_eq_true rfl) dX11_init_27 (fun q_3 H hP hD hS => ?_)
  have hP : va_P D vwCl [(h0, .inr (8, [.ref q_1, .ref q_2, .null, .null])), (q_1, .inr (6, [.ref qr, .int 0])), (qr, .inl (cO, 12, .inr (.inr (.inr (.inr (fun _ => none)))))), (q_2, .inr (2, [.null, .null, .null])), (q_3, .inr (4, [.null, .int 0, .null, .int 0, .int 0, .int 0, .int 0, .null]))] H := hP
  have hD : va_D A [(h0, .inr (8, [.ref q_1, .ref q_2, .null, .null])), (q_1, .inr (6, [.ref qr, .int 0])), (qr, .inl (cO, 12, .inr (.inr (.inr (.inr (fun _ => none)))))), (q_2, .inr (2, [.null, .null, .null])), (q_3, .inr (4, [.null, .int 0, .null, .int 0, .int 0, .int 0, .int 0, .null]))] := hD
  refine lv_dup hx hb dX11_init_30 rfl ?_
  refine lv_aload_n hx hb dX11_init_31 rfl (lv_at hl 0 rfl) ?_
  refine va_get (D := D) (ci := 8) (v := .ref q_2) (C := RX11) (T := TX11) (N := 4) hx hb hts hi11 hown hK hP 0 rfl rfl 1 (by decide) (hts (.fieldLink RX11 19 "EventloopRow" "jobRow" "LEventloopRow$JobRow;") (by decide +kernel)) (fun _ h9 => h9) rfl dX11_init_32 ?_
  have hPc := hP.sub (ws' := [(q_3, .inr (4, [.null, .int 0, .null, .int 0, .int 0, .int 0, .int 0, .null]))]) [4] rfl
  have hlt : q_3 < H.size := (hPc 0 _ rfl).lt
  have hS0 := hS
  refine ev_call0 (va_runI (As := [.ref q_2]) (rest := [.ref q_3, .ref h0]) ⟨hx, hb, hml, hown, hts⟩ (c_X5_init l (h0 := q_3) (sz := H.size) (p0 := q_2)) (cwI 1 hts gX11_init_X5_init rfl rfl rfl (hts (.initialized RX5) (by decide +kernel)) (hts (.methodLink RX11 25 yX5_init) (by decide +kernel)) (hts (.instanceMethod yX5_init) (by decide +kernel)) rfl (by decide +kernel) ⟨Nat.le_of_ble_eq_true rfl, Nat.le_of_ble_eq_true rfl⟩) (ev_preN rfl hPc hK hO hNs) rfl rfl hl.1 rfl (lv_room (Nat.le_of_ble_eq_true rfl)) dX11_init_35 ⟨Nat.le_of_ble_eq_true rfl, Nat.le_of_ble_eq_true rfl⟩) hS (fun z hz => ?_) (fun t H1 locs ht hQ hz hk hS => ?_)
  · rcases hz with rfl | hz
    · exact hD.2 4 _ rfl
    · exact hA _ (Nat.le_trans hS.1 hz)
  subst ht
  obtain ⟨qp1, qp2, hP1, hD1⟩ := hQ
  obtain ⟨hP, hD⟩ := ev_joinN (wr := [(h0, .inr (8, [.ref q_1, .ref q_2, .null, .null])), (q_1, .inr (6, [.ref qr, .int 0])), (qr, .inl (cO, 12, .inr (.inr (.inr (.inr (fun _ => none)))))), (q_2, .inr (2, [.null, .null, .null]))]) (w1 := [(q_3, .inr (4, [.ref qp1, .int 0, .ref qp2, .int 0, .int 0, .int 0, .int 0, .ref q_2]))]) hP hD hP1 hD1 4 [0, 1, 2, 3] rfl rfl (by decide) (by decide) hk (fun z hz => by rcases hz with rfl | hz <;> first | exact hD.2 4 _ rfl | exact hA _ (Nat.le_trans hS0.1 hz))
  generalize t.heap = H at hP hS ⊢
  have hP : va_P D vwCl [(h0, .inr (8, [.ref q_1, .ref q_2, .null, .null])), (q_1, .inr (6, [.ref qr, .int 0])), (qr, .inl (cO, 12, .inr (.inr (.inr (.inr (fun _ => none)))))), (q_2, .inr (2, [.null, .null, .null])), (q_3, .inr (4, [.ref qp1, .int 0, .ref qp2, .int 0, .int 0, .int 0, .int 0, .ref q_2]))] H := hP
  have hD : va_D A [(h0, .inr (8, [.ref q_1, .ref q_2, .null, .null])), (q_1, .inr (6, [.ref qr, .int 0])), (qr, .inl (cO, 12, .inr (.inr (.inr (.inr (fun _ => none)))))), (q_2, .inr (2, [.null, .null, .null])), (q_3, .inr (4, [.ref qp1, .int 0, .ref qp2, .int 0, .int 0, .int 0, .int 0, .ref q_2]))] := hD
  refine va_putF (D := D) (ci := 8) (v := .ref q_3) (ty := tyX11 2) (C := RX11) (T := TX11) (N := 4) hx hb hts hi11 tyX11 tyX11_ok nmX11 hown hK hP hD hS 0 rfl rfl 2 (by decide) (hts (.fieldLink RX11 28 "EventloopRow" "promiseRow" "LEventloopRow$PromiseRow;") (by decide +kernel)) (fun _ h9 => h9) rfl hnm rfl (tyX11_ok 2 (by decide)) rfl rfl (Nat.le_of_ble_eq_true rfl) dX11_init_38 (fun H locs hP hD hS => ?_)
  have hP : va_P D vwCl [(h0, .inr (8, [.ref q_1, .ref q_2, .ref q_3, .null])), (q_1, .inr (6, [.ref qr, .int 0])), (qr, .inl (cO, 12, .inr (.inr (.inr (.inr (fun _ => none)))))), (q_2, .inr (2, [.null, .null, .null])), (q_3, .inr (4, [.ref qp1, .int 0, .ref qp2, .int 0, .int 0, .int 0, .int 0, .ref q_2]))] H := hP
  have hD : va_D A [(h0, .inr (8, [.ref q_1, .ref q_2, .ref q_3, .null])), (q_1, .inr (6, [.ref qr, .int 0])), (qr, .inl (cO, 12, .inr (.inr (.inr (.inr (fun _ => none)))))), (q_2, .inr (2, [.null, .null, .null])), (q_3, .inr (4, [.ref qp1, .int 0, .ref qp2, .int 0, .int 0, .int 0, .int 0, .ref q_2]))] := hD
  refine lv_aload_n hx hb dX11_init_41 rfl (lv_at hl 0 rfl) ?_
  refine va_new (D := D) (ci := 3) (fs := [.null, .null, .null, .null, .null, .null, .int 0, .null, .int 0, .int 0, .int 0, .int 0, .int 0, .int 0, .long 0, .null, .long 0, .null, .null]) (C := RX3) (T := TX3) (N := 19) hx hb hts hi3 tyX3 tyX3_ok hown (hts (.classLink RX11 32 RX3) (by decide +kernel)) (hts (.instantiable RX3 19) (by decide +kernel)) (hts (.initialized RX3) (by decide +kernel)) hK hP hD hS hA rfl (fun j hj => by rcases j with _ | _ | _ | _ | _ | _ | _ | _ | _ | _ | _ | _ | _ | _ | _ | _ | _ | _ | _ | j <;> first | rfl | omega) (Nat.le_of_ble_eq_true rfl) (Nat.le_of_ble_eq_true rfl) dX11_init_42 (fun q_4 H hP hD hS => ?_)
  have hP : va_P D vwCl [(h0, .inr (8, [.ref q_1, .ref q_2, .ref q_3, .null])), (q_1, .inr (6, [.ref qr, .int 0])), (qr, .inl (cO, 12, .inr (.inr (.inr (.inr (fun _ => none)))))), (q_2, .inr (2, [.null, .null, .null])), (q_3, .inr (4, [.ref qp1, .int 0, .ref qp2, .int 0, .int 0, .int 0, .int 0, .ref q_2])), (q_4, .inr (3, [.null, .null, .null, .null, .null, .null, .int 0, .null, .int 0, .int 0, .int 0, .int 0, .int 0, .int 0, .long 0, .null, .long 0, .null, .null]))] H := hP
  have hD : va_D A [(h0, .inr (8, [.ref q_1, .ref q_2, .ref q_3, .null])), (q_1, .inr (6, [.ref qr, .int 0])), (qr, .inl (cO, 12, .inr (.inr (.inr (.inr (fun _ => none)))))), (q_2, .inr (2, [.null, .null, .null])), (q_3, .inr (4, [.ref qp1, .int 0, .ref qp2, .int 0, .int 0, .int 0, .int 0, .ref q_2])), (q_4, .inr (3, [.null, .null, .null, .null, .null, .null, .int 0, .null, .int 0, .int 0, .int 0, .int 0, .int 0, .int 0, .long 0, .null, .long 0, .null, .null]))] := hD
  refine lv_dup hx hb dX11_init_45 rfl ?_
  refine lv_aload_n hx hb dX11_init_46 rfl (lv_at hl 0 rfl) ?_
  refine va_get (D := D) (ci := 8) (v := .ref q_1) (C := RX11) (T := TX11) (N := 4) hx hb hts hi11 hown hK hP 0 rfl rfl 0 (by decide) (hts (.fieldLink RX11 10 "EventloopRow" "things" "LEventloopRow$Things;") (by decide +kernel)) (fun _ h9 => h9) rfl dX11_init_47 ?_
  refine lv_aload_n hx hb dX11_init_50 rfl (lv_at hl 0 rfl) ?_
  refine va_get (D := D) (ci := 8) (v := .ref q_2) (C := RX11) (T := TX11) (N := 4) hx hb hts hi11 hown hK hP 0 rfl rfl 1 (by decide) (hts (.fieldLink RX11 19 "EventloopRow" "jobRow" "LEventloopRow$JobRow;") (by decide +kernel)) (fun _ h9 => h9) rfl dX11_init_51 ?_
  refine lv_aload_n hx hb dX11_init_54 rfl (lv_at hl 0 rfl) ?_
  refine va_get (D := D) (ci := 8) (v := .ref q_3) (C := RX11) (T := TX11) (N := 4) hx hb hts hi11 hown hK hP 0 rfl rfl 2 (by decide) (hts (.fieldLink RX11 28 "EventloopRow" "promiseRow" "LEventloopRow$PromiseRow;") (by decide +kernel)) (fun _ h9 => h9) rfl dX11_init_55 ?_
  have hPc := hP.sub (ws' := [(q_4, .inr (3, [.null, .null, .null, .null, .null, .null, .int 0, .null, .int 0, .int 0, .int 0, .int 0, .int 0, .int 0, .long 0, .null, .long 0, .null, .null]))]) [5] rfl
  have hlt : q_4 < H.size := (hPc 0 _ rfl).lt
  have hS0 := hS
  refine ev_call0 (va_runI (As := [.ref q_1, .ref q_2, .ref q_3]) (rest := [.ref q_4, .ref h0]) ⟨hx, hb, hml, hown, hts⟩ (c_X3_init l (h0 := q_4) (sz := H.size) (p0 := q_1) (p1 := q_2) (p2 := q_3)) (cwI 3 hts gX11_init_X3_init rfl rfl rfl (hts (.initialized RX3) (by decide +kernel)) (hts (.methodLink RX11 34 yX3_init) (by decide +kernel)) (hts (.instanceMethod yX3_init) (by decide +kernel)) rfl (by decide +kernel) ⟨Nat.le_of_ble_eq_true rfl, Nat.le_of_ble_eq_true rfl⟩) (ev_preN rfl hPc hK hO hNs) rfl rfl hl.1 rfl (lv_room (Nat.le_of_ble_eq_true rfl)) dX11_init_58 ⟨Nat.le_of_ble_eq_true rfl, Nat.le_of_ble_eq_true rfl⟩) hS (fun z hz => ?_) (fun t H1 locs ht hQ hz hk hS => ?_)
  · rcases hz with rfl | hz
    · exact hD.2 5 _ rfl
    · exact hA _ (Nat.le_trans hS.1 hz)
  subst ht
  obtain ⟨ql1, ql2, ql3, ql4, ql5, hP1, hD1⟩ := hQ
  obtain ⟨hP, hD⟩ := ev_joinN (wr := [(h0, .inr (8, [.ref q_1, .ref q_2, .ref q_3, .null])), (q_1, .inr (6, [.ref qr, .int 0])), (qr, .inl (cO, 12, .inr (.inr (.inr (.inr (fun _ => none)))))), (q_2, .inr (2, [.null, .null, .null])), (q_3, .inr (4, [.ref qp1, .int 0, .ref qp2, .int 0, .int 0, .int 0, .int 0, .ref q_2]))]) (w1 := [(q_4, .inr (3, [.ref q_1, .ref q_2, .ref q_3, .ref ql1, .ref ql2, .ref ql3, .int 0, .ref ql4, .int 0, .int 0, .int 0, .int 0, .int 0, .int 0, .long 0, .ref ql5, .long 0, .null, .null]))]) hP hD hP1 hD1 5 [0, 1, 2, 3, 4] rfl rfl (by decide) (by decide) hk (fun z hz => by rcases hz with rfl | hz <;> first | exact hD.2 5 _ rfl | exact hA _ (Nat.le_trans hS0.1 hz))
  generalize t.heap = H at hP hS ⊢
  have hP : va_P D vwCl [(h0, .inr (8, [.ref q_1, .ref q_2, .ref q_3, .null])), (q_1, .inr (6, [.ref qr, .int 0])), (qr, .inl (cO, 12, .inr (.inr (.inr (.inr (fun _ => none)))))), (q_2, .inr (2, [.null, .null, .null])), (q_3, .inr (4, [.ref qp1, .int 0, .ref qp2, .int 0, .int 0, .int 0, .int 0, .ref q_2])), (q_4, .inr (3, [.ref q_1, .ref q_2, .ref q_3, .ref ql1, .ref ql2, .ref ql3, .int 0, .ref ql4, .int 0, .int 0, .int 0, .int 0, .int 0, .int 0, .long 0, .ref ql5, .long 0, .null, .null]))] H := hP
  have hD : va_D A [(h0, .inr (8, [.ref q_1, .ref q_2, .ref q_3, .null])), (q_1, .inr (6, [.ref qr, .int 0])), (qr, .inl (cO, 12, .inr (.inr (.inr (.inr (fun _ => none)))))), (q_2, .inr (2, [.null, .null, .null])), (q_3, .inr (4, [.ref qp1, .int 0, .ref qp2, .int 0, .int 0, .int 0, .int 0, .ref q_2])), (q_4, .inr (3, [.ref q_1, .ref q_2, .ref q_3, .ref ql1, .ref ql2, .ref ql3, .int 0, .ref ql4, .int 0, .int 0, .int 0, .int 0, .int 0, .int 0, .long 0, .ref ql5, .long 0, .null, .null]))] := hD
  refine va_putF (D := D) (ci := 8) (v := .ref q_4) (ty := tyX11 3) (C := RX11) (T := TX11) (N := 4) hx hb hts hi11 tyX11 tyX11_ok nmX11 hown hK hP hD hS 0 rfl rfl 3 (by decide) (hts (.fieldLink RX11 37 "EventloopRow" "loop" "LEventloopRow$Loop;") (by decide +kernel)) (fun _ h9 => h9) rfl hnm rfl (tyX11_ok 3 (by decide)) rfl rfl (Nat.le_of_ble_eq_true rfl) dX11_init_61 (fun H locs hP hD hS => ?_)
  have hP : va_P D vwCl [(h0, .inr (8, [.ref q_1, .ref q_2, .ref q_3, .ref q_4])), (q_1, .inr (6, [.ref qr, .int 0])), (qr, .inl (cO, 12, .inr (.inr (.inr (.inr (fun _ => none)))))), (q_2, .inr (2, [.null, .null, .null])), (q_3, .inr (4, [.ref qp1, .int 0, .ref qp2, .int 0, .int 0, .int 0, .int 0, .ref q_2])), (q_4, .inr (3, [.ref q_1, .ref q_2, .ref q_3, .ref ql1, .ref ql2, .ref ql3, .int 0, .ref ql4, .int 0, .int 0, .int 0, .int 0, .int 0, .int 0, .long 0, .ref ql5, .long 0, .null, .null]))] H := hP
  have hD : va_D A [(h0, .inr (8, [.ref q_1, .ref q_2, .ref q_3, .ref q_4])), (q_1, .inr (6, [.ref qr, .int 0])), (qr, .inl (cO, 12, .inr (.inr (.inr (.inr (fun _ => none)))))), (q_2, .inr (2, [.null, .null, .null])), (q_3, .inr (4, [.ref qp1, .int 0, .ref qp2, .int 0, .int 0, .int 0, .int 0, .ref q_2])), (q_4, .inr (3, [.ref q_1, .ref q_2, .ref q_3, .ref ql1, .ref ql2, .ref ql3, .int 0, .ref ql4, .int 0, .int 0, .int 0, .int 0, .int 0, .int 0, .long 0, .ref ql5, .long 0, .null, .null]))] := hD
  refine W.widen (k := 13) (n := 737) (Nat.le_of_ble_eq_true rfl) (Nat.le_of_ble_eq_true rfl) ?_
  have hw9 : ∀ (ad : Nat → Nat → Nat) (tt : Nat → ev_TH), ev_wl cI cO (fun k => ([h0, q_1, qr, q_2, q_3, q_4, qp1, qp2] : List Nat).getD k 0) ad (0, tt) = [(h0, .inr (8, [.ref q_1, .ref q_2, .ref q_3, .ref q_4])), (q_1, .inr (6, [.ref qr, .int 0])), (qr, .inl (cO, 12, .inr (.inr (.inr (.inr (fun _ => none)))))), (q_2, .inr (2, [.null, .null, .null])), (q_3, .inr (4, [.ref qp1, .int 0, .ref qp2, .int 0, .int 0, .int 0, .int 0, .ref q_2]))] := by intro ad tt; rw [ev_wl0]; rfl
  exact W.vret hx hb hr (fun t ht _ => ⟨rfl, ⟨(fun k => ([h0, q_1, qr, q_2, q_3, q_4, qp1, qp2] : List Nat).getD k 0), rfl, fun ad tt => ⟨by rw [ht]; show va_P D vwCl _ H; rw [hw9 ad tt]; exact hP.sub [0, 1, 2, 3, 4] rfl, by rw [hw9 ad tt]; exact hD.sub [0, 1, 2, 3, 4] (by decide) rfl⟩⟩, hS.F ht⟩) hS.2.2 dX11_init_64
