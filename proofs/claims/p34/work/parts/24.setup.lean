/-! 23.setup: the law's start: the object, the table, five plain objects and two proxies -/
theorem ej_TG {tt : Nat → Nat} {cc : Nat → Option Nat} (hC : eg_C tt cc) {k : Nat} (hk : k ≤ 7) : ∀ i, i < k → ∀ j, ev_tg (ej_T cc tt i) = some j → j < k := by
  intro i hi j hj
  by_cases h : i < 5
  · rw [show ej_T cc tt i = ev_tn none (cc i) from if_pos h] at hj
    cases hj
  · rw [show ej_T cc tt i = ev_tn (some (tt i)) none from if_neg h] at hj
    have h2 : tt i = j := Option.some.inj hj
    have : i = 5 ∨ i = 6 := by omega
    rcases this with rfl | rfl
    · have := hC.1; omega
    · have := hC.2.1; omega
theorem ej_CH {tt : Nat → Nat} {cc : Nat → Option Nat} (hC : eg_C tt cc) {k : Nat} : ∀ i, i < k → ∀ j, ev_ch (ej_T cc tt i) = some j → j < k := by
  intro i hi j hj
  by_cases h : i < 5
  · rw [show ej_T cc tt i = ev_tn none (cc i) from if_pos h] at hj
    have := hC.2.2 i h j hj
    omega
  · rw [show ej_T cc tt i = ev_tn (some (tt i)) none from if_neg h] at hj
    cases hj
theorem ej_Z0 {tt : Nat → Nat} {cc : Nat → Option Nat} : ej_Z (7, ej_T cc tt) := by
  intro i
  show ev_rg (ej_T cc tt i) 19 = -1
  unfold ej_T
  split <;> rfl
set_option maxHeartbeats 8000000 in
set_option maxRecDepth 100000 in
theorem ej_setup {p : Program} {l : Launch} {e : Env} {s : State} {m : MethodId} {args : Array Value} {below : List Frame} {meth : Method} {c : Code} {D : va_G} {cI cO : ClassId} {a0 t0 bs L : Nat} {xs : Nat → Int32} {Q : State → Prop} {ls : Array Slot} (C0 : ej_C p l s m args c D cI cO a0 t0 bs L xs) (KF : ∀ (b : Nat → Nat) (ad : Nat → Nat → Nat) (qn : Nat) (f : Nat → Int32) (od : Nat → Nat → Nat) (n : Nat) (H : Heap) (locs : List Loc) (ls : Array Slot), eg_I (ej_tt L xs) (ej_cc L xs) (7, (ej_T (ej_cc L xs) (ej_tt L xs))) f od 0 → ej_H s D cI cO b ad (7, (ej_T (ej_cc L xs) (ej_tt L xs))) qn f H locs → lv_has ls 15 [(4, .int (nI 0)), (3, .int (nI 1)), (0, .ref bs), (1, .ref (b 0)), (2, .ref qn)] → W p l e room_1 s m args below meth c H locs 100 3000 Q (F0 m 177 ls [])) (hl : lv_has ls 15 [(0, .ref bs)]) : W p l e room_1 s m args below meth c s.heap [] 0 0 Q (F0 m 0 ls []) := by
  obtain ⟨hx, hb, hml, hown, hts, hK, hO, hNs, hE, hES, hR, hX, hbs, hL, hfl⟩ := C0
  have hC := ej_C0 L xs
  have hA : ∀ q : Nat, s.heap.size ≤ q → ej_A s q := fun _ h => h
  have hP0 : va_P D vwCl [] s.heap := fun k q h => by cases h
  have hD0 : va_D (ej_A s) [] := ⟨fun i j x y h => (by cases h), fun k q h => (by cases h)⟩
  refine va_new (D := D) (ci := 8) (fs := [.null, .null, .null, .null]) (C := RX11) (T := TX11) (N := 4) hx hb hts inlX11 tyX11 tyX11_ok hown (hts (.classLink RL 10 RX11) (by decide +kernel)) (hts (.instantiable RX11 4) (by decide +kernel)) (hts (.initialized RX11) (by decide +kernel)) hK hP0 hD0 va_S.rf hA rfl (fun j hj => by rcases j with _ | _ | _ | _ | j <;> first | rfl | omega) (Nat.le_of_ble_eq_true rfl) (Nat.le_of_ble_eq_true rfl) dL_law_0 (fun q H hP hD hS => ?_)
  have hP : va_P D vwCl [(q, .inr (8, [.null, .null, .null, .null]))] H := hP
  have hqA : ej_A s q := hD.2 0 _ rfl
  refine lv_dup hx hb dL_law_3 rfl ?_
  have hlt : q < H.size := (hP 0 _ rfl).lt
  have hS0 := hS
  refine ev_call0 (va_runI (As := []) (rest := [.ref q]) ⟨hx, hb, hml, hown, hts⟩ (c_X11_init l (h0 := q) (sz := H.size)) (cwI 0 hts gL_law_X11_init rfl rfl rfl (hts (.initialized RX11) (by decide +kernel)) (hts (.methodLink RL 123 yX11_init) (by decide +kernel)) (hts (.instanceMethod yX11_init) (by decide +kernel)) rfl (by decide +kernel) ⟨Nat.le_of_ble_eq_true rfl, Nat.le_of_ble_eq_true rfl⟩) (ev_preN rfl hP hK hO hNs) rfl rfl hl.1 rfl (lv_room (Nat.le_of_ble_eq_true rfl)) dL_law_4 ⟨Nat.le_of_ble_eq_true rfl, Nat.le_of_ble_eq_true rfl⟩) hS (fun z hz => ?_) (fun t H1 locs ht hQ hz hk hS => ?_)
  · rcases hz with rfl | hz
    · exact hqA
    · exact Nat.le_trans hS.1 hz
  subst ht
  obtain ⟨bb, hb0, hQ2⟩ := hQ
  subst hb0
  obtain ⟨hP, hD⟩ := hQ2 (fun _ _ => 0) (ej_T (ej_cc L xs) (ej_tt L xs))
  have hD : va_D (ej_A s) (ev_wl cI cO bb (fun _ _ => 0) (0, (ej_T (ej_cc L xs) (ej_tt L xs)))) := hD.weaken (fun k z _ ha => ha.elim (fun ha => by rw [ha]; exact hqA) (fun ha => Nat.le_trans hS0.1 ha))
  have hP : va_P D vwCl (ev_wl cI cO bb (fun _ _ => 0) (0, (ej_T (ej_cc L xs) (ej_tt L xs)))) t.heap := hP
  refine lv_astore_n (lv' := [(1, .ref (bb 0)), (0, .ref bs)]) hx hb dL_law_7 rfl hl (by decide) rfl (fun ls hl => ?_)
  refine lv_sipush (v := 700) hx hb dL_law_8 (by decide) ?_
  refine ev_newi (N := 700) hx hb (hts (.arrayClass .int) (by decide +kernel)) hK hP hD hS hA (by decide) (by decide) (by decide) (Nat.le_of_ble_eq_true rfl) (Nat.le_of_ble_eq_true rfl) dL_law_11 (fun qn H hP hD hS => ?_)
  have hH : ej_H s D cI cO bb (fun _ _ => 0) (0, (ej_T (ej_cc L xs) (ej_tt L xs))) qn (ej_f (ej_cc L xs) 0) H locs := by
    refine ⟨fun k z hk => hP k z (ev_wpre hk), ?_, ⟨fun i j x y hi hj hxy => hD.1 i j x y (ev_wpre hi) (ev_wpre hj) hxy, fun k z hk => ⟨hD.2 k z (ev_wpre hk), fun hz => ?_⟩⟩, hD.2 _ _ (ev_wsuf (k := 0) rfl), hS⟩
    · rw [ej_f0]
      exact fun k z hk => hP _ z (ev_wsuf hk)
    · have h1 := hD.1 _ _ _ _ (ev_wpre hk) (ev_wsuf (k := 0) rfl) hz
      have h2 := (List.getElem?_eq_some_iff.mp hk).1
      omega
  clear hP hD hS hQ2 hz hk hS0 hlt
  have LP : ∀ (m9 k : Nat), k + m9 = 5 → ∀ (ad : Nat → Nat → Nat) (H : Heap) (locs : List Loc) (ls : Array Slot), ej_H s D cI cO bb ad (k, (ej_T (ej_cc L xs) (ej_tt L xs))) qn (ej_f (ej_cc L xs) k) H locs → lv_has ls 15 [(4, .int (nI k)), (3, .int (nI 1)), (2, .ref qn), (1, .ref (bb 0)), (0, .ref bs)] → W p l e room_1 s m args below meth c H locs (15 + 5 * k) (1441 + 73 * k) Q (F0 m 19 ls []) := by
    intro m9
    induction m9 with
    | zero =>
      intro k hk ad H locs ls hH hl
      have hk9 : k = 5 := by omega
      subst hk9
      have ht5 : ej_tt L xs 5 < 5 := hC.1
      have ht6 : ej_tt L xs 6 < 6 := hC.2.1
      have hl : lv_has ls 15 [(4, .int (nI 5)), (3, .int (nI 1)), (2, .ref qn), (1, .ref (bb 0)), (0, .ref bs)] := hl
      refine lv_iload hx hb dL_law_19 (lv_at hl 0 rfl) ?_
      refine lv_iconst (v := nI 5) hx hb dL_law_21 (by decide) ?_
      refine en_icmp_ge (tgt := 91) hx hb (by omega) (by omega) dL_law_22 (by decide) (fun c_1 => ?_) (fun c_1 => by exfalso; omega)
      refine lv_aload_n hx hb dL_law_91 rfl (lv_at hl 2 rfl) ?_
      refine lv_bipush (v := nI 35) hx hb dL_law_92 (by decide) ?_
      refine lv_aload_n hx hb dL_law_94 rfl (lv_at hl 4 rfl) ?_
      refine lv_bipush (v := nI 10) hx hb dL_law_95 (by decide) ?_
      refine lv_iconst (v := nI 5) hx hb dL_law_97 (by decide) ?_
      refine el_cs (As := [.ref bs, .int (nI 10), .int (nI 5)]) (rest := [.int (nI 35), .ref qn]) ⟨hx, hb, hml, hown, hts⟩ (c_L_in l (D := D) (cI := cI) (cO := cO) (bs := bs) (L := L) (xs := xs) (i := 10) (q := 5) hL (by omega) (by omega) (by omega)) (va_cwS 3 hts gL_law_L_in rfl rfl rfl (by decide +kernel) ⟨Nat.le_of_ble_eq_true rfl, Nat.le_of_ble_eq_true rfl⟩) (hH.X hX hbs) rfl hl.1 (Nat.le_of_ble_eq_true rfl) dL_law_98 ⟨(by show _ ≤ 600258; omega), (by show _ ≤ 7291722; omega)⟩ ?_
      refine en_eq (congrArg nI (show el_in L xs 10 5 = ej_tt L xs 5 from (if_pos rfl).symm)) ?_
      refine ej_ast (f := (ej_f (ej_cc L xs) 5)) (x := nI (ej_tt L xs 5)) hx hb hK hH (35) (by omega) dL_law_101 (fun H locs hH => ?_)
      refine lv_aload_n hx hb dL_law_102 rfl (lv_at hl 2 rfl) ?_
      refine lv_bipush (v := nI 36) hx hb dL_law_103 (by decide) ?_
      refine lv_aload_n hx hb dL_law_105 rfl (lv_at hl 4 rfl) ?_
      refine lv_bipush (v := nI 11) hx hb dL_law_106 (by decide) ?_
      refine lv_bipush (v := nI 6) hx hb dL_law_108 (by decide) ?_
      refine el_cs (As := [.ref bs, .int (nI 11), .int (nI 6)]) (rest := [.int (nI 36), .ref qn]) ⟨hx, hb, hml, hown, hts⟩ (c_L_in l (D := D) (cI := cI) (cO := cO) (bs := bs) (L := L) (xs := xs) (i := 11) (q := 6) hL (by omega) (by omega) (by omega)) (va_cwS 3 hts gL_law_L_in rfl rfl rfl (by decide +kernel) ⟨Nat.le_of_ble_eq_true rfl, Nat.le_of_ble_eq_true rfl⟩) (hH.X hX hbs) rfl hl.1 (Nat.le_of_ble_eq_true rfl) dL_law_110 ⟨(by show _ ≤ 600258; omega), (by show _ ≤ 7291722; omega)⟩ ?_
      refine en_eq (congrArg nI (show el_in L xs 11 6 = ej_tt L xs 6 from (if_neg (by decide)).symm)) ?_
      refine ej_ast (f := (upd (ej_f (ej_cc L xs) 5) 35 (nI (ej_tt L xs 5)))) (x := nI (ej_tt L xs 6)) hx hb hK hH (36) (by omega) dL_law_113 (fun H locs hH => ?_)
      refine lv_iload_n hx hb dL_law_114 rfl (lv_at hl 1 rfl) ?_
      refine lv_aload_n hx hb dL_law_115 rfl (lv_at hl 3 rfl) ?_
      refine lv_aload_n hx hb dL_law_116 rfl (lv_at hl 2 rfl) ?_
      refine lv_bipush (v := nI 35) hx hb dL_law_117 (by decide) ?_
      refine el_ald (f := (upd (upd (ej_f (ej_cc L xs) 5) 35 (nI (ej_tt L xs 5))) 36 (nI (ej_tt L xs 6)))) hx hb hK hH.2.1 (35) (by omega) dL_law_119 ?_
      refine en_eq (show (upd (upd (ej_f (ej_cc L xs) 5) 35 (nI (ej_tt L xs 5))) 36 (nI (ej_tt L xs 6))) 35 = nI (ej_tt L xs 5) from (eg_un _ _ (by decide)).trans (eg_us _ _ _)) ?_
      refine ej_wA (st' := (6, (ej_T (ej_cc L xs) (ej_tt L xs)))) (As := [.ref (bb 0), .int (nI (ej_tt L xs 5))]) (rest := [.int (nI 1)]) ⟨hx, hb, hml, hown, hts⟩ (w_addProxy l hH.2.2.1 (by show 5 ≤ 12; omega) (by show 5 < 12; omega) (ej_TG hC (by show 5 ≤ 7; omega)) (ej_CH hC) (o := ej_tt L xs 5) (by show ej_tt L xs 5 < 5; exact ht5) (show (ej_T (ej_cc L xs) (ej_tt L xs)) 5 = ev_tn (some (ej_tt L xs 5)) none from if_neg (by decide))) (vx_cwSW 2 hts gL_law_L_addProxy rfl rfl rfl (by decide +kernel) ⟨Nat.le_of_ble_eq_true rfl, Nat.le_of_ble_eq_true rfl⟩) hH hK hO hNs rfl hl.1 (Nat.le_of_ble_eq_true rfl) dL_law_120 ⟨(by show _ ≤ 600258; omega), (by show _ ≤ 7291722; omega)⟩ (fun ad H locs hH => ?_)
      refine lv_iconst (v := nI 5) hx hb dL_law_123 (by decide) ?_
      refine lv_icmp_ne (tgt := 165) hx hb dL_law_124 (by decide) (fun h => absurd rfl h) (fun _ => ?_)
      refine lv_aload_n hx hb dL_law_127 rfl (lv_at hl 3 rfl) ?_
      refine lv_aload_n hx hb dL_law_128 rfl (lv_at hl 2 rfl) ?_
      refine lv_bipush (v := nI 36) hx hb dL_law_129 (by decide) ?_
      refine el_ald (f := (upd (upd (ej_f (ej_cc L xs) 5) 35 (nI (ej_tt L xs 5))) 36 (nI (ej_tt L xs 6)))) hx hb hK hH.2.1 (36) (by omega) dL_law_131 ?_
      refine en_eq (show (upd (upd (ej_f (ej_cc L xs) 5) 35 (nI (ej_tt L xs 5))) 36 (nI (ej_tt L xs 6))) 36 = nI (ej_tt L xs 6) from eg_us _ _ _) ?_
      refine ej_wA (st' := (7, (ej_T (ej_cc L xs) (ej_tt L xs)))) (As := [.ref (bb 0), .int (nI (ej_tt L xs 6))]) (rest := [.int (nI 1)]) ⟨hx, hb, hml, hown, hts⟩ (w_addProxy l hH.2.2.1 (by show 6 ≤ 12; omega) (by show 6 < 12; omega) (ej_TG hC (by show 6 ≤ 7; omega)) (ej_CH hC) (o := ej_tt L xs 6) (by show ej_tt L xs 6 < 6; exact ht6) (show (ej_T (ej_cc L xs) (ej_tt L xs)) 6 = ev_tn (some (ej_tt L xs 6)) none from if_neg (by decide))) (vx_cwSW 2 hts gL_law_L_addProxy rfl rfl rfl (by decide +kernel) ⟨Nat.le_of_ble_eq_true rfl, Nat.le_of_ble_eq_true rfl⟩) hH hK hO hNs rfl hl.1 (Nat.le_of_ble_eq_true rfl) dL_law_132 ⟨(by show _ ≤ 600258; omega), (by show _ ≤ 7291722; omega)⟩ (fun ad H locs hH => ?_)
      refine lv_bipush (v := nI 6) hx hb dL_law_135 (by decide) ?_
      refine lv_icmp_ne (tgt := 165) hx hb dL_law_137 (by decide) (fun h => absurd rfl h) (fun _ => ?_)
      refine lv_aload_n hx hb dL_law_140 rfl (lv_at hl 3 rfl) ?_
      refine lv_bipush (v := nI 7) hx hb dL_law_141 (by decide) ?_
      refine ej_w0 (As := [.ref (bb 0), .int (nI 7)]) (rest := [.int (nI 1)]) ⟨hx, hb, hml, hown, hts⟩ (w_addObject_x l hfl (by show 7 ≤ 12; omega) (by show 7 ≤ 7; omega)) (vx_cwSW 2 hts gL_law_L_addObject rfl rfl rfl (by decide +kernel) ⟨Nat.le_of_ble_eq_true rfl, Nat.le_of_ble_eq_true rfl⟩) hH hK hE rfl hl.1 (Nat.le_of_ble_eq_true rfl) dL_law_143 ⟨(by show _ ≤ 600258; omega), (by show _ ≤ 7291722; omega)⟩ (fun H locs hH => ?_)
      refine lv_ldc (v := (-900001)) hx hb hown (hts (.constant RL 17 (-900001)) (by decide +kernel)) dL_law_146 ?_
      refine lv_icmp_ne (tgt := 165) hx hb dL_law_148 (by decide) (fun h => absurd rfl h) (fun _ => ?_)
      refine lv_aload_n hx hb dL_law_151 rfl (lv_at hl 3 rfl) ?_
      refine lv_iconst (v := -1) hx hb dL_law_152 (by decide) ?_
      refine ej_w0 (As := [.ref (bb 0), .int (-1)]) (rest := [.int (nI 1)]) ⟨hx, hb, hml, hown, hts⟩ (w_addProxy_x l hfl (by show 7 ≤ 12; omega)) (vx_cwSW 2 hts gL_law_L_addProxy rfl rfl rfl (by decide +kernel) ⟨Nat.le_of_ble_eq_true rfl, Nat.le_of_ble_eq_true rfl⟩) hH hK hE rfl hl.1 (Nat.le_of_ble_eq_true rfl) dL_law_153 ⟨(by show _ ≤ 600258; omega), (by show _ ≤ 7291722; omega)⟩ (fun H locs hH => ?_)
      refine lv_ldc (v := (-900001)) hx hb hown (hts (.constant RL 17 (-900001)) (by decide +kernel)) dL_law_156 ?_
      refine lv_icmp_ne (tgt := 165) hx hb dL_law_158 (by decide) (fun h => absurd rfl h) (fun _ => ?_)
      refine lv_iconst (v := nI 1) hx hb dL_law_161 (by decide) ?_
      refine lv_goto (tgt := 166) hx hb dL_law_162 (by decide) ?_
      refine lv_iand hx hb dL_law_166 ?_
      refine en_eq (show nI 1 &&& nI 1 = nI 1 from by decide +kernel) ?_
      refine lv_istore_n (lv' := [(3, .int (nI 1)), (4, .int (nI 5)), (2, .ref qn), (1, .ref (bb 0)), (0, .ref bs)]) hx hb dL_law_167 rfl hl (by decide) rfl (fun ls hl => ?_)
      refine lv_iload_n hx hb dL_law_168 rfl (lv_at hl 0 rfl) ?_
      refine en_if_ne (tgt := 174) hx hb (by omega) dL_law_169 (by decide) (fun c_2 => ?_) (fun c_2 => by exfalso; omega)
      refine lv_iconst (v := nI 0) hx hb dL_law_174 (by decide) ?_
      refine lv_istore (lv' := [(4, .int (nI 0)), (3, .int (nI 1)), (2, .ref qn), (1, .ref (bb 0)), (0, .ref bs)]) hx hb dL_law_175 hl (by decide) rfl (fun ls hl => ?_)
      refine W.widen (k := 100) (n := 3000) (by omega) (by omega) ?_
      exact KF bb ad qn _ _ 0 H locs ls (ej_I0 hC) hH (lv_sub hl [0, 1, 4, 3, 2] rfl)
    | succ m9 ih =>
      intro k hk ad H locs ls hH hl
      have hk5 : k < 5 := by omega
      have K60 : W p l e room_1 s m args below meth c H locs (15 + 5 * k) (1441 + 73 * k) Q (F0 m 60 ls [.int (eg_on (ej_cc L xs k)), .int (nI (10 + k)), .ref qn]) := by
        refine ej_ast (f := ej_f (ej_cc L xs) k) (x := eg_on (ej_cc L xs k)) hx hb hK hH (10 + k) (by omega) dL_law_60 (fun H locs hH => ?_)
        rw [ej_fS] at hH
        refine lv_iload_n hx hb dL_law_61 rfl (lv_at hl 1 rfl) ?_
        refine lv_aload_n hx hb dL_law_62 rfl (lv_at hl 3 rfl) ?_
        refine lv_aload_n hx hb dL_law_63 rfl (lv_at hl 2 rfl) ?_
        refine lv_bipush (v := nI 10) hx hb dL_law_64 (by decide) ?_
        refine lv_iload hx hb dL_law_66 (lv_at hl 0 rfl) ?_
        refine en_iadd hx hb (10 + k) rfl dL_law_68 ?_
        refine el_ald (f := (ej_f (ej_cc L xs) (k + 1))) hx hb hK hH.2.1 (10 + k) (by omega) dL_law_69 ?_
        refine en_eq (show (ej_f (ej_cc L xs) (k + 1)) (10 + k) = eg_on (ej_cc L xs k) from ej_fat _ k) ?_
        cases hcc : ej_cc L xs k with
        | none =>
          refine ej_wA (st' := (k + 1, (ej_T (ej_cc L xs) (ej_tt L xs)))) (As := [.ref (bb 0), .int (-1)]) (rest := [.int (nI 1)]) ⟨hx, hb, hml, hown, hts⟩ (w_addObject_n l hH.2.2.1 (by show k ≤ 12; omega) (by show k < 12; omega) (ej_TG hC (by show k ≤ 7; omega)) (ej_CH hC) (by show ej_T _ _ k = _; rw [show (ej_T (ej_cc L xs) (ej_tt L xs)) k = ev_tn none (ej_cc L xs k) from if_pos hk5, hcc])) (vx_cwSW 2 hts gL_law_L_addObject rfl rfl rfl (by decide +kernel) ⟨Nat.le_of_ble_eq_true rfl, Nat.le_of_ble_eq_true rfl⟩) hH hK hO hNs rfl hl.1 (Nat.le_of_ble_eq_true rfl) dL_law_70 ⟨(by show _ ≤ 600258; omega), (by show _ ≤ 7291722; omega)⟩ (fun ad H locs hH => ?_)
          refine lv_iload hx hb dL_law_73 (lv_at hl 0 rfl) ?_
          refine lv_icmp_ne (tgt := 82) hx hb dL_law_75 (by decide) (fun h => absurd rfl h) (fun _ => ?_)
          refine lv_iconst (v := nI 1) hx hb dL_law_78 (by decide) ?_
          refine lv_goto (tgt := 83) hx hb dL_law_79 (by decide) ?_
          refine lv_iand hx hb dL_law_83 ?_
          refine en_eq (show nI 1 &&& nI 1 = nI 1 from by decide +kernel) ?_
          refine lv_istore_n (lv' := [(3, .int (nI 1)), (4, .int (nI k)), (2, .ref qn), (1, .ref (bb 0)), (0, .ref bs)]) hx hb dL_law_84 rfl hl (by decide) rfl (fun ls hl => ?_)
          refine lv_iinc (v := nI (k + 1)) (lv' := [(4, .int (nI (k + 1))), (3, .int (nI 1)), (2, .ref qn), (1, .ref (bb 0)), (0, .ref bs)]) hx hb dL_law_85 hl (k := 1) rfl (ev_inc1 _) (by decide) rfl (fun ls hl => ?_)
          refine lv_goto (tgt := 19) hx hb dL_law_88 (by decide) ?_
          refine W.cs (cells' := 15 + 5 * (k + 1)) (slots' := 1441 + 73 * (k + 1)) (by omega) (by omega) ?_
          exact ih (k + 1) (by omega) ad H locs ls hH (lv_sub hl [0, 1, 2, 3, 4] rfl)
        | some j =>
          refine ej_wA (st' := (k + 1, (ej_T (ej_cc L xs) (ej_tt L xs)))) (As := [.ref (bb 0), .int (nI j)]) (rest := [.int (nI 1)]) ⟨hx, hb, hml, hown, hts⟩ (w_addObject_v l hH.2.2.1 (by show k ≤ 12; omega) (by show k < 12; omega) (ej_TG hC (by show k ≤ 7; omega)) (ej_CH hC) (o := j) (by show j < k; exact hC.2.2 k hk5 j hcc) (by show ej_T _ _ k = _; rw [show (ej_T (ej_cc L xs) (ej_tt L xs)) k = ev_tn none (ej_cc L xs k) from if_pos hk5, hcc])) (vx_cwSW 2 hts gL_law_L_addObject rfl rfl rfl (by decide +kernel) ⟨Nat.le_of_ble_eq_true rfl, Nat.le_of_ble_eq_true rfl⟩) hH hK hO hNs rfl hl.1 (Nat.le_of_ble_eq_true rfl) dL_law_70 ⟨(by show _ ≤ 600258; omega), (by show _ ≤ 7291722; omega)⟩ (fun ad H locs hH => ?_)
          refine lv_iload hx hb dL_law_73 (lv_at hl 0 rfl) ?_
          refine lv_icmp_ne (tgt := 82) hx hb dL_law_75 (by decide) (fun h => absurd rfl h) (fun _ => ?_)
          refine lv_iconst (v := nI 1) hx hb dL_law_78 (by decide) ?_
          refine lv_goto (tgt := 83) hx hb dL_law_79 (by decide) ?_
          refine lv_iand hx hb dL_law_83 ?_
          refine en_eq (show nI 1 &&& nI 1 = nI 1 from by decide +kernel) ?_
          refine lv_istore_n (lv' := [(3, .int (nI 1)), (4, .int (nI k)), (2, .ref qn), (1, .ref (bb 0)), (0, .ref bs)]) hx hb dL_law_84 rfl hl (by decide) rfl (fun ls hl => ?_)
          refine lv_iinc (v := nI (k + 1)) (lv' := [(4, .int (nI (k + 1))), (3, .int (nI 1)), (2, .ref qn), (1, .ref (bb 0)), (0, .ref bs)]) hx hb dL_law_85 hl (k := 1) rfl (ev_inc1 _) (by decide) rfl (fun ls hl => ?_)
          refine lv_goto (tgt := 19) hx hb dL_law_88 (by decide) ?_
          refine W.cs (cells' := 15 + 5 * (k + 1)) (slots' := 1441 + 73 * (k + 1)) (by omega) (by omega) ?_
          exact ih (k + 1) (by omega) ad H locs ls hH (lv_sub hl [0, 1, 2, 3, 4] rfl)
      refine lv_iload hx hb dL_law_19 (lv_at hl 0 rfl) ?_
      refine lv_iconst (v := nI 5) hx hb dL_law_21 (by decide) ?_
      refine en_icmp_ge (tgt := 91) hx hb (by omega) (by omega) dL_law_22 (by decide) (fun c_3 => by exfalso; omega) (fun c_3 => ?_)
      refine lv_aload_n hx hb dL_law_25 rfl (lv_at hl 2 rfl) ?_
      refine lv_bipush (v := nI 10) hx hb dL_law_26 (by decide) ?_
      refine lv_iload hx hb dL_law_28 (lv_at hl 0 rfl) ?_
      refine en_iadd hx hb (10 + k) rfl dL_law_30 ?_
      refine lv_iload hx hb dL_law_31 (lv_at hl 0 rfl) ?_
      refine en_if_eq (tgt := 46) hx hb (by omega) dL_law_33 (by decide) (fun c_4 => ?_) (fun c_4 => ?_)
      ·
        refine lv_iconst (v := -1) hx hb dL_law_46 (by decide) ?_
        refine lv_goto (tgt := 60) hx hb dL_law_47 (by decide) ?_
        refine en_eq (show (-1 : Int32) = eg_on (ej_cc L xs k) from by rw [show ej_cc L xs k = none from if_pos c_4]; rfl) ?_
        exact K60
      ·
        refine lv_aload_n hx hb dL_law_36 rfl (lv_at hl 4 rfl) ?_
        refine lv_iload hx hb dL_law_37 (lv_at hl 0 rfl) ?_
        refine lv_iconst (v := nI 3) hx hb dL_law_39 (by decide) ?_
        refine el_cs (As := [.ref bs, .int (nI k), .int (nI 3)]) (rest := [.int (nI (10 + k)), .ref qn]) ⟨hx, hb, hml, hown, hts⟩ (c_L_in l (D := D) (cI := cI) (cO := cO) (bs := bs) (L := L) (xs := xs) (i := k) (q := 3) hL (by omega) (by omega) (by omega)) (va_cwS 3 hts gL_law_L_in rfl rfl rfl (by decide +kernel) ⟨Nat.le_of_ble_eq_true rfl, Nat.le_of_ble_eq_true rfl⟩) (hH.X hX hbs) rfl hl.1 (Nat.le_of_ble_eq_true rfl) dL_law_40 ⟨(by show _ ≤ 600258; omega), (by show _ ≤ 7291722; omega)⟩ ?_
        have hin_5 := el_in_lt L xs k (q := 3) (by omega)
        refine en_if_ne (tgt := 50) hx hb (by omega) dL_law_43 (by decide) (fun c_6 => ?_) (fun c_6 => ?_)
        ·
          refine lv_aload_n hx hb dL_law_50 rfl (lv_at hl 4 rfl) ?_
          refine lv_iconst (v := nI 5) hx hb dL_law_51 (by decide) ?_
          refine lv_iload hx hb dL_law_52 (lv_at hl 0 rfl) ?_
          refine en_iadd hx hb (5 + k) rfl dL_law_54 ?_
          refine lv_iload hx hb dL_law_55 (lv_at hl 0 rfl) ?_
          refine el_cs (As := [.ref bs, .int (nI (5 + k)), .int (nI k)]) (rest := [.int (nI (10 + k)), .ref qn]) ⟨hx, hb, hml, hown, hts⟩ (c_L_in l (D := D) (cI := cI) (cO := cO) (bs := bs) (L := L) (xs := xs) (i := 5 + k) (q := k) hL (by omega) (by omega) (by omega)) (va_cwS 3 hts gL_law_L_in rfl rfl rfl (by decide +kernel) ⟨Nat.le_of_ble_eq_true rfl, Nat.le_of_ble_eq_true rfl⟩) (hH.X hX hbs) rfl hl.1 (Nat.le_of_ble_eq_true rfl) dL_law_57 ⟨(by show _ ≤ 600258; omega), (by show _ ≤ 7291722; omega)⟩ ?_
          have hin_7 := el_in_lt L xs (5 + k) (q := k) (by omega)
          refine en_eq (show nI (el_in L xs (5 + k) k) = eg_on (ej_cc L xs k) from by rw [show ej_cc L xs k = some (el_in L xs (5 + k) k) from (if_neg c_4).trans (if_neg c_6)]; rfl) ?_
          exact K60
        ·
          refine lv_iconst (v := -1) hx hb dL_law_46 (by decide) ?_
          refine lv_goto (tgt := 60) hx hb dL_law_47 (by decide) ?_
          refine en_eq (show (-1 : Int32) = eg_on (ej_cc L xs k) from by rw [show ej_cc L xs k = none from (if_neg c_4).trans (if_pos c_6)]; rfl) ?_
          exact K60
  refine lv_astore_n (lv' := [(2, .ref qn), (1, .ref (bb 0)), (0, .ref bs)]) hx hb dL_law_13 rfl hl (by decide) rfl (fun ls hl => ?_)
  refine lv_iconst (v := nI 1) hx hb dL_law_14 (by decide) ?_
  refine lv_istore_n (lv' := [(3, .int (nI 1)), (2, .ref qn), (1, .ref (bb 0)), (0, .ref bs)]) hx hb dL_law_15 rfl hl (by decide) rfl (fun ls hl => ?_)
  refine lv_iconst (v := nI 0) hx hb dL_law_16 (by decide) ?_
  refine lv_istore (lv' := [(4, .int (nI 0)), (3, .int (nI 1)), (2, .ref qn), (1, .ref (bb 0)), (0, .ref bs)]) hx hb dL_law_17 hl (by decide) rfl (fun ls hl => ?_)
  exact LP 5 0 rfl (fun _ _ => 0) H locs ls hH (lv_sub hl [0, 1, 2, 3, 4] rfl)
