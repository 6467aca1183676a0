/-! 08.facew: what the class's own methods write, where they don't throw -/
def ev_dn (st : ev_ST) (o k : Nat) (v r : Int32) : Nat × ev_ST := match ev_pb st 12 (some o) with
  | none => (84, st)
  | some j => ((ev_pi (st.2 j) k v r).1, ev_up st j (ev_pi (st.2 j) k v r).2)
theorem ev_dn_lt (st : ev_ST) (o k : Nat) (v r : Int32) : (ev_dn st o k v r).1 < 65536 := by
  unfold ev_dn
  split
  · simp
  · exact ev_pi_lt _ _ _ _
def ev_shut (t : ev_TH) : ev_TH := (ev_tg t, ev_ch t, ev_rv t, true, ev_an t, ev_va t, ev_rg t, ev_ke t, ev_kc t)
def ev_rvk (t : ev_TH) : ev_TH := (ev_tg t, ev_ch t, true, ev_cs t, ev_an t, ev_va t, ev_rg t, ev_ke t, ev_kc t)
def ev_cl (st : ev_ST) (o : Nat) : Nat × ev_ST := match ev_pb st 12 (some o) with
  | none => (84, st)
  | some j => (121, ev_up st j (ev_shut (st.2 j)))
theorem ev_cl_lt (st : ev_ST) (o : Nat) : (ev_cl st o).1 < 65536 := by unfold ev_cl; split <;> simp
set_option maxHeartbeats 4000000 in
set_option maxRecDepth 100000 in
theorem c_X11_define (l : Launch) {D : va_G} {cI cO : ClassId} {b : Nat → Nat} {ad : Nat → Nat → Nat} {st : ev_ST} {A : Nat → Prop} (hD : va_D A (ev_wl cI cO b ad st)) (hn : st.1 ≤ 12) (hTG : ∀ i, i < st.1 → ∀ j, ev_tg (st.2 i) = some j → j < st.1) {o : Nat} (ho : o < st.1) {k v r : Nat} (hk : k < 20) (hv : v ≤ 9999) (hr7 : r ≤ 7) (hKP : ∀ j, j < st.1 → ev_holds (st.2 j) k = false → ev_kc (st.2 j) < 20) : Met l yX11_define wsX11_define ({ frames := 2, cells := 0, slots := 0, locals := 45 }) (ev_Pc D cI cO (ev_P D cI cO b ad st) [.ref (b 0), .int (nI o), .int (nI k), .int (nI v), .int (nI r)]) (ev_QM (some (.int (nI ((ev_dn st o k (nI v) (nI r)).1)))) (ev_P D cI cO b ad ((ev_dn st o k (nI v) (nI r)).2)) A) 0 0 A := by
  refine ev_body (cc := cX11_define) (maxL := 7) (ret := (some .char)) (by decide) rfl (Nat.le_of_ble_eq_true rfl) ?_
  intro p e s m args below meth c hx hb hr hml hown hts hlocks hnm hP hK ls hl
  have hS : va_S A s.heap s.heap [] := va_S.rf
  have hl : lv_has ls 7 [(0, .ref (b 0)), (1, .int (nI o)), (2, .int (nI k)), (3, .int (nI v)), (4, .int (nI r))] := hl
  have hi11 : ∀ w ∈ wsX110, w ∈ wsX11_define := by decide +kernel
  refine lv_aload_n hx hb dX11_define_0 rfl (lv_at hl 0 rfl) ?_
  refine ev_fac (v := .ref (b 1)) hx hb hts hi11 hown hK hP 0 (by decide) (hts (.fieldLink RX11 10 "EventloopRow" "things" "LEventloopRow$Things;") (by decide +kernel)) rfl dX11_define_1 ?_
  refine lv_iload_n hx hb dX11_define_4 rfl (lv_at hl 1 rfl) ?_
  refine ev_cv (As := [.int (nI o)]) (rest := []) ⟨hx, hb, hml, hown, hts⟩ (c_X8_find_v l hn (j := o) ho) (cwV 1 hts gX11_define_X8_find rfl rfl rfl (by decide +kernel) ⟨Nat.le_of_ble_eq_true rfl, Nat.le_of_ble_eq_true rfl⟩) hP hK (ev_recvT hK hP) rfl hl.1 (Nat.le_of_ble_eq_true rfl) dX11_define_5 ⟨Nat.le_of_ble_eq_true rfl, Nat.le_of_ble_eq_true rfl⟩ ?_
  refine lv_astore (lv' := [(5, .ref (ad o 0)), (0, .ref (b 0)), (1, .int (nI o)), (2, .int (nI k)), (3, .int (nI v)), (4, .int (nI r))]) hx hb dX11_define_8 hl (by decide) rfl (fun ls hl => ?_)
  refine lv_aload hx hb dX11_define_10 (lv_at hl 0 rfl) ?_
  refine lv_ifnull hx hb dX11_define_12 ?_
  refine lv_iload_n hx hb dX11_define_15 rfl (lv_at hl 3 rfl) ?_
  refine ev_cst (As := [.int (nI k)]) (rest := []) ⟨hx, hb, hml, hown, hts⟩ (c_X11_isKey l (b := b) (ad := ad) (k := k) (by omega)) (va_cwS 1 hts gX11_define_X11_isKey rfl rfl rfl (by decide +kernel) ⟨Nat.le_of_ble_eq_true rfl, Nat.le_of_ble_eq_true rfl⟩) hP hK rfl hl.1 (Nat.le_of_ble_eq_true rfl) dX11_define_16 ⟨Nat.le_of_ble_eq_true rfl, Nat.le_of_ble_eq_true rfl⟩ ?_
  refine eb_if_ne (tgt := 32) hx hb dX11_define_19 (by decide) (fun _ => ?_) (fun h => by cases h)
  refine lv_iload_n hx hb dX11_define_32 rfl (lv_at hl 4 rfl) ?_
  refine ev_cst (As := [.int (nI v)]) (rest := []) ⟨hx, hb, hml, hown, hts⟩ (c_X11_isValue l (b := b) (ad := ad) (v := v) (by omega)) (va_cwS 1 hts gX11_define_X11_isValue rfl rfl rfl (by decide +kernel) ⟨Nat.le_of_ble_eq_true rfl, Nat.le_of_ble_eq_true rfl⟩) hP hK rfl hl.1 (Nat.le_of_ble_eq_true rfl) dX11_define_33 ⟨Nat.le_of_ble_eq_true rfl, Nat.le_of_ble_eq_true rfl⟩ ?_
  refine eb_if_eq (tgt := 51) hx hb dX11_define_36 (by decide) (fun h => by cases h) (fun _ => ?_)
  refine lv_iload hx hb dX11_define_39 (lv_at hl 5 rfl) ?_
  refine en_if_lt (tgt := 51) hx hb (by omega) dX11_define_41 (by decide) ?_
  refine lv_iload hx hb dX11_define_44 (lv_at hl 5 rfl) ?_
  refine lv_bipush (v := nI 7) hx hb dX11_define_46 (by decide) ?_
  refine en_icmp_le (tgt := 61) hx hb (by omega) (by omega) dX11_define_48 (by decide) (fun c_4 => ?_) (fun c_4 => by exfalso; omega)
  refine lv_aload_n hx hb dX11_define_61 rfl (lv_at hl 1 rfl) ?_
  refine ev_fac (v := .ref (b 1)) hx hb hts hi11 hown hK hP 0 (by decide) (hts (.fieldLink RX11 10 "EventloopRow" "things" "LEventloopRow$Things;") (by decide +kernel)) rfl dX11_define_62 ?_
  refine lv_aload hx hb dX11_define_65 (lv_at hl 0 rfl) ?_
  refine ev_cv (As := [.ref (ad o 0)]) (rest := []) ⟨hx, hb, hml, hown, hts⟩ (c_X8_plainBehind l hn hTG ho) (cwV 1 hts gX11_define_X8_plainBehind rfl rfl rfl (by decide +kernel) ⟨Nat.le_of_ble_eq_true rfl, Nat.le_of_ble_eq_true rfl⟩) hP hK (ev_recvT hK hP) rfl hl.1 (Nat.le_of_ble_eq_true rfl) dX11_define_67 ⟨Nat.le_of_ble_eq_true rfl, Nat.le_of_ble_eq_true rfl⟩ ?_
  refine eo_astore (lv' := [(6, ev_rf ad (ev_pb st 12 (some o))), (5, .ref (ad o 0)), (0, .ref (b 0)), (1, .int (nI o)), (2, .int (nI k)), (3, .int (nI v)), (4, .int (nI r))]) hx hb dX11_define_70 hl (by decide) rfl (fun ls hl => ?_)
  refine eo_aload hx hb dX11_define_72 (lv_at hl 0 rfl) ?_
  refine eo_ifnonnull (tgt := 82) hx hb dX11_define_74 (by decide) (fun j_6 c_5 => ?_) (fun c_5 => ?_)
  · -- some
    rw [c_5] at hl
    have hi_7 : j_6 < st.1 := (ev_pb_lt hTG 12 (some o) (fun _ h => by cases h; exact ho)) _ c_5
    have hl : lv_has ls 7 [(6, .ref (ad j_6 0)), (5, .ref (ad o 0)), (0, .ref (b 0)), (1, .int (nI o)), (2, .int (nI k)), (3, .int (nI v)), (4, .int (nI r))] := hl
    refine lv_aload hx hb dX11_define_82 (lv_at hl 0 rfl) ?_
    refine lv_iload_n hx hb dX11_define_84 rfl (lv_at hl 4 rfl) ?_
    refine lv_iload_n hx hb dX11_define_85 rfl (lv_at hl 5 rfl) ?_
    refine lv_iload hx hb dX11_define_86 (lv_at hl 6 rfl) ?_
    refine ev_mv (As := [.int (nI k), .int (nI v), .int (nI r)]) (rest := []) ⟨hx, hb, hml, hown, hts⟩ (c_X7_putIn l hi_7 (ev_focD j_6 hD) (k := k) (v := (nI v)) (r := (nI r)) (by omega) (hKP j_6 hi_7)) (cwV 3 hts gX11_define_X7_putIn rfl rfl rfl (by decide +kernel) ⟨Nat.le_of_ble_eq_true rfl, Nat.le_of_ble_eq_true rfl⟩) (ev_foc hP) hK hS (ev_recv hK hP hi_7) rfl hl.1 (Nat.le_of_ble_eq_true rfl) dX11_define_88 ⟨Nat.le_of_ble_eq_true rfl, Nat.le_of_ble_eq_true rfl⟩ (fun H locs hP hz hk hS => ?_)
    exact em_char hx hb hr hlocks (ev_dn_lt _ _ _ _ _) (by simp [ev_dn, c_5]) (by rw [show (ev_dn st o k (nI v) (nI r)).2 = ev_up st j_6 (ev_pi (st.2 j_6) k (nI v) (nI r)).2 from (by simp [ev_dn, c_5])]; exact hP) hS dX11_define_91
  · -- null
    rw [c_5] at hl
    have hl : lv_has ls 7 [(6, .null), (5, .ref (ad o 0)), (0, .ref (b 0)), (1, .int (nI o)), (2, .int (nI k)), (3, .int (nI v)), (4, .int (nI r))] := hl
    refine lv_bipush (v := nI 84) hx hb dX11_define_77 (by decide) ?_
    refine lv_goto (tgt := 91) hx hb dX11_define_79 (by decide) ?_
    exact em_char hx hb hr hlocks (ev_dn_lt _ _ _ _ _) (by simp [ev_dn, c_5]) (by rw [show (ev_dn st o k (nI v) (nI r)).2 = st from (by simp [ev_dn, c_5])]; exact hP) hS dX11_define_91
set_option maxHeartbeats 4000000 in
set_option maxRecDepth 100000 in
theorem c_X11_set (l : Launch) {D : va_G} {cI cO : ClassId} {b : Nat → Nat} {ad : Nat → Nat → Nat} {st : ev_ST} {A : Nat → Prop} (hD : va_D A (ev_wl cI cO b ad st)) (hn : st.1 ≤ 12) (hTG : ∀ i, i < st.1 → ∀ j, ev_tg (st.2 i) = some j → j < st.1) (hCH : ∀ i, i < st.1 → ∀ j, ev_ch (st.2 i) = some j → j < st.1) {o : Nat} (ho : o < st.1) {k v : Nat} (hk : k < 20) (hv : v ≤ 9999) (hKP : ∀ j, j < st.1 → ev_holds (st.2 j) k = false → ev_kc (st.2 j) < 20) : Met l yX11_set wsX11_set ({ frames := 4, cells := 0, slots := 0, locals := 96 }) (ev_Pc D cI cO (ev_P D cI cO b ad st) [.ref (b 0), .int (nI o), .int (nI k), .int (nI v)]) (ev_QM (some (.int (nI ((ev_sf st k (nI v) o 30 (some o)).1)))) (ev_P D cI cO b ad ((ev_sf st k (nI v) o 30 (some o)).2)) A) 0 0 A := by
  refine ev_body (cc := cX11_set) (maxL := 5) (ret := (some .char)) (by decide) rfl (Nat.le_of_ble_eq_true rfl) ?_
  intro p e s m args below meth c hx hb hr hml hown hts hlocks hnm hP hK ls hl
  have hS : va_S A s.heap s.heap [] := va_S.rf
  have hl : lv_has ls 5 [(0, .ref (b 0)), (1, .int (nI o)), (2, .int (nI k)), (3, .int (nI v))] := hl
  have hi11 : ∀ w ∈ wsX110, w ∈ wsX11_set := by decide +kernel
  refine lv_aload_n hx hb dX11_set_0 rfl (lv_at hl 0 rfl) ?_
  refine ev_fac (v := .ref (b 1)) hx hb hts hi11 hown hK hP 0 (by decide) (hts (.fieldLink RX11 10 "EventloopRow" "things" "LEventloopRow$Things;") (by decide +kernel)) rfl dX11_set_1 ?_
  refine lv_iload_n hx hb dX11_set_4 rfl (lv_at hl 1 rfl) ?_
  refine ev_cv (As := [.int (nI o)]) (rest := []) ⟨hx, hb, hml, hown, hts⟩ (c_X8_find_v l hn (j := o) ho) (cwV 1 hts gX11_set_X8_find rfl rfl rfl (by decide +kernel) ⟨Nat.le_of_ble_eq_true rfl, Nat.le_of_ble_eq_true rfl⟩) hP hK (ev_recvT hK hP) rfl hl.1 (Nat.le_of_ble_eq_true rfl) dX11_set_5 ⟨Nat.le_of_ble_eq_true rfl, Nat.le_of_ble_eq_true rfl⟩ ?_
  refine lv_astore (lv' := [(4, .ref (ad o 0)), (0, .ref (b 0)), (1, .int (nI o)), (2, .int (nI k)), (3, .int (nI v))]) hx hb dX11_set_8 hl (by decide) rfl (fun ls hl => ?_)
  refine lv_aload hx hb dX11_set_10 (lv_at hl 0 rfl) ?_
  refine lv_ifnull hx hb dX11_set_12 ?_
  refine lv_iload_n hx hb dX11_set_15 rfl (lv_at hl 3 rfl) ?_
  refine ev_cst (As := [.int (nI k)]) (rest := []) ⟨hx, hb, hml, hown, hts⟩ (c_X11_isKey l (b := b) (ad := ad) (k := k) (by omega)) (va_cwS 1 hts gX11_set_X11_isKey rfl rfl rfl (by decide +kernel) ⟨Nat.le_of_ble_eq_true rfl, Nat.le_of_ble_eq_true rfl⟩) hP hK rfl hl.1 (Nat.le_of_ble_eq_true rfl) dX11_set_16 ⟨Nat.le_of_ble_eq_true rfl, Nat.le_of_ble_eq_true rfl⟩ ?_
  refine eb_if_ne (tgt := 32) hx hb dX11_set_19 (by decide) (fun _ => ?_) (fun h => by cases h)
  refine lv_iload_n hx hb dX11_set_32 rfl (lv_at hl 4 rfl) ?_
  refine ev_cst (As := [.int (nI v)]) (rest := []) ⟨hx, hb, hml, hown, hts⟩ (c_X11_isValue l (b := b) (ad := ad) (v := v) (by omega)) (va_cwS 1 hts gX11_set_X11_isValue rfl rfl rfl (by decide +kernel) ⟨Nat.le_of_ble_eq_true rfl, Nat.le_of_ble_eq_true rfl⟩) hP hK rfl hl.1 (Nat.le_of_ble_eq_true rfl) dX11_set_33 ⟨Nat.le_of_ble_eq_true rfl, Nat.le_of_ble_eq_true rfl⟩ ?_
  refine eb_if_ne (tgt := 49) hx hb dX11_set_36 (by decide) (fun _ => ?_) (fun h => by cases h)
  refine lv_aload_n hx hb dX11_set_49 rfl (lv_at hl 1 rfl) ?_
  refine ev_fac (v := .ref (b 1)) hx hb hts hi11 hown hK hP 0 (by decide) (hts (.fieldLink RX11 10 "EventloopRow" "things" "LEventloopRow$Things;") (by decide +kernel)) rfl dX11_set_50 ?_
  refine lv_aload hx hb dX11_set_53 (lv_at hl 0 rfl) ?_
  refine lv_iload_n hx hb dX11_set_55 rfl (lv_at hl 3 rfl) ?_
  refine lv_iload_n hx hb dX11_set_56 rfl (lv_at hl 4 rfl) ?_
  refine ev_mv (As := [.ref (ad o 0), .int (nI k), .int (nI v)]) (rest := []) ⟨hx, hb, hml, hown, hts⟩ (c_X8_setFrom l hD hn hTG hCH ho hk hKP (k := k) (v := (nI v))) (cwV 3 hts gX11_set_X8_setFrom rfl rfl rfl (by decide +kernel) ⟨Nat.le_of_ble_eq_true rfl, Nat.le_of_ble_eq_true rfl⟩) hP hK hS (ev_recvT hK hP) rfl hl.1 (Nat.le_of_ble_eq_true rfl) dX11_set_57 ⟨Nat.le_of_ble_eq_true rfl, Nat.le_of_ble_eq_true rfl⟩ (fun H locs hP hz hk hS => ?_)
  exact em_char hx hb hr hlocks (ev_sf_lt _ _ _ _ _ _) rfl hP hS dX11_set_60
set_option maxHeartbeats 4000000 in
set_option maxRecDepth 100000 in
theorem c_X11_delete (l : Launch) {D : va_G} {cI cO : ClassId} {b : Nat → Nat} {ad : Nat → Nat → Nat} {st : ev_ST} {A : Nat → Prop} (hD : va_D A (ev_wl cI cO b ad st)) (hn : st.1 ≤ 12) (hTG : ∀ i, i < st.1 → ∀ j, ev_tg (st.2 i) = some j → j < st.1) {o : Nat} (ho : o < st.1) {k : Nat} (hk : k < 20) (hKC : ∀ j, j < st.1 → ev_kc (st.2 j) ≤ 20) : Met l yX11_delete wsX11_delete ({ frames := 3, cells := 0, slots := 0, locals := 71 }) (ev_Pc D cI cO (ev_P D cI cO b ad st) [.ref (b 0), .int (nI o), .int (nI k)]) (ev_QM (some (.int (nI ((ev_df st k 12 (some o)).1)))) (ev_P D cI cO b ad ((ev_df st k 12 (some o)).2)) A) 0 0 A := by
  refine ev_body (cc := cX11_delete) (maxL := 4) (ret := (some .char)) (by decide) rfl (Nat.le_of_ble_eq_true rfl) ?_
  intro p e s m args below meth c hx hb hr hml hown hts hlocks hnm hP hK ls hl
  have hS : va_S A s.heap s.heap [] := va_S.rf
  have hl : lv_has ls 4 [(0, .ref (b 0)), (1, .int (nI o)), (2, .int (nI k))] := hl
  have hi11 : ∀ w ∈ wsX110, w ∈ wsX11_delete := by decide +kernel
  refine lv_aload_n hx hb dX11_delete_0 rfl (lv_at hl 0 rfl) ?_
  refine ev_fac (v := .ref (b 1)) hx hb hts hi11 hown hK hP 0 (by decide) (hts (.fieldLink RX11 10 "EventloopRow" "things" "LEventloopRow$Things;") (by decide +kernel)) rfl dX11_delete_1 ?_
  refine lv_iload_n hx hb dX11_delete_4 rfl (lv_at hl 1 rfl) ?_
  refine ev_cv (As := [.int (nI o)]) (rest := []) ⟨hx, hb, hml, hown, hts⟩ (c_X8_find_v l hn (j := o) ho) (cwV 1 hts gX11_delete_X8_find rfl rfl rfl (by decide +kernel) ⟨Nat.le_of_ble_eq_true rfl, Nat.le_of_ble_eq_true rfl⟩) hP hK (ev_recvT hK hP) rfl hl.1 (Nat.le_of_ble_eq_true rfl) dX11_delete_5 ⟨Nat.le_of_ble_eq_true rfl, Nat.le_of_ble_eq_true rfl⟩ ?_
  refine lv_astore_n (lv' := [(3, .ref (ad o 0)), (0, .ref (b 0)), (1, .int (nI o)), (2, .int (nI k))]) hx hb dX11_delete_8 rfl hl (by decide) rfl (fun ls hl => ?_)
  refine lv_aload_n hx hb dX11_delete_9 rfl (lv_at hl 0 rfl) ?_
  refine lv_ifnull hx hb dX11_delete_10 ?_
  refine lv_iload_n hx hb dX11_delete_13 rfl (lv_at hl 3 rfl) ?_
  refine ev_cst (As := [.int (nI k)]) (rest := []) ⟨hx, hb, hml, hown, hts⟩ (c_X11_isKey l (b := b) (ad := ad) (k := k) (by omega)) (va_cwS 1 hts gX11_delete_X11_isKey rfl rfl rfl (by decide +kernel) ⟨Nat.le_of_ble_eq_true rfl, Nat.le_of_ble_eq_true rfl⟩) hP hK rfl hl.1 (Nat.le_of_ble_eq_true rfl) dX11_delete_14 ⟨Nat.le_of_ble_eq_true rfl, Nat.le_of_ble_eq_true rfl⟩ ?_
  refine eb_if_ne (tgt := 30) hx hb dX11_delete_17 (by decide) (fun _ => ?_) (fun h => by cases h)
  refine lv_aload_n hx hb dX11_delete_30 rfl (lv_at hl 1 rfl) ?_
  refine ev_fac (v := .ref (b 1)) hx hb hts hi11 hown hK hP 0 (by decide) (hts (.fieldLink RX11 10 "EventloopRow" "things" "LEventloopRow$Things;") (by decide +kernel)) rfl dX11_delete_31 ?_
  refine lv_aload_n hx hb dX11_delete_34 rfl (lv_at hl 0 rfl) ?_
  refine lv_iload_n hx hb dX11_delete_35 rfl (lv_at hl 3 rfl) ?_
  refine ev_mv (As := [.ref (ad o 0), .int (nI k)]) (rest := []) ⟨hx, hb, hml, hown, hts⟩ (c_X8_deleteFrom l hD hn hTG ho hk hKC (k := k)) (cwV 2 hts gX11_delete_X8_deleteFrom rfl rfl rfl (by decide +kernel) ⟨Nat.le_of_ble_eq_true rfl, Nat.le_of_ble_eq_true rfl⟩) hP hK hS (ev_recvT hK hP) rfl hl.1 (Nat.le_of_ble_eq_true rfl) dX11_delete_36 ⟨Nat.le_of_ble_eq_true rfl, Nat.le_of_ble_eq_true rfl⟩ (fun H locs hP hz hk hS => ?_)
  exact em_char hx hb hr hlocks (ev_df_lt _ _ _ _) rfl hP hS dX11_delete_39
set_option maxHeartbeats 4000000 in
set_option maxRecDepth 100000 in
theorem c_X11_closeObject (l : Launch) {D : va_G} {cI cO : ClassId} {b : Nat → Nat} {ad : Nat → Nat → Nat} {st : ev_ST} {A : Nat → Prop} (hD : va_D A (ev_wl cI cO b ad st)) (hn : st.1 ≤ 12) (hTG : ∀ i, i < st.1 → ∀ j, ev_tg (st.2 i) = some j → j < st.1) {o : Nat} (ho : o < st.1) : Met l yX11_closeObject wsX11_closeObject ({ frames := 2, cells := 0, slots := 0, locals := 43 }) (ev_Pc D cI cO (ev_P D cI cO b ad st) [.ref (b 0), .int (nI o)]) (ev_QM (some (.int (nI ((ev_cl st o).1)))) (ev_P D cI cO b ad ((ev_cl st o).2)) A) 0 0 A := by
  refine ev_body (cc := cX11_closeObject) (maxL := 4) (ret := (some .char)) (by decide) rfl (Nat.le_of_ble_eq_true rfl) ?_
  intro p e s m args below meth c hx hb hr hml hown hts hlocks hnm hP hK ls hl
  have hS : va_S A s.heap s.heap [] := va_S.rf
  have hl : lv_has ls 4 [(0, .ref (b 0)), (1, .int (nI o))] := hl
  have hi7 : ∀ w ∈ wsX70, w ∈ wsX11_closeObject := by decide +kernel
  have hi11 : ∀ w ∈ wsX110, w ∈ wsX11_closeObject := by decide +kernel
  refine lv_aload_n hx hb dX11_closeObject_0 rfl (lv_at hl 0 rfl) ?_
  refine ev_fac (v := .ref (b 1)) hx hb hts hi11 hown hK hP 0 (by decide) (hts (.fieldLink RX11 10 "EventloopRow" "things" "LEventloopRow$Things;") (by decide +kernel)) rfl dX11_closeObject_1 ?_
  refine lv_iload_n hx hb dX11_closeObject_4 rfl (lv_at hl 1 rfl) ?_
  refine ev_cv (As := [.int (nI o)]) (rest := []) ⟨hx, hb, hml, hown, hts⟩ (c_X8_find_v l hn (j := o) ho) (cwV 1 hts gX11_closeObject_X8_find rfl rfl rfl (by decide +kernel) ⟨Nat.le_of_ble_eq_true rfl, Nat.le_of_ble_eq_true rfl⟩) hP hK (ev_recvT hK hP) rfl hl.1 (Nat.le_of_ble_eq_true rfl) dX11_closeObject_5 ⟨Nat.le_of_ble_eq_true rfl, Nat.le_of_ble_eq_true rfl⟩ ?_
  refine lv_astore_n (lv' := [(2, .ref (ad o 0)), (0, .ref (b 0)), (1, .int (nI o))]) hx hb dX11_closeObject_8 rfl hl (by decide) rfl (fun ls hl => ?_)
  refine lv_aload_n hx hb dX11_closeObject_9 rfl (lv_at hl 0 rfl) ?_
  refine lv_ifnonnull (tgt := 23) hx hb dX11_closeObject_10 (by decide) ?_
  refine lv_aload_n hx hb dX11_closeObject_23 rfl (lv_at hl 1 rfl) ?_
  refine ev_fac (v := .ref (b 1)) hx hb hts hi11 hown hK hP 0 (by decide) (hts (.fieldLink RX11 10 "EventloopRow" "things" "LEventloopRow$Things;") (by decide +kernel)) rfl dX11_closeObject_24 ?_
  refine lv_aload_n hx hb dX11_closeObject_27 rfl (lv_at hl 0 rfl) ?_
  refine ev_cv (As := [.ref (ad o 0)]) (rest := []) ⟨hx, hb, hml, hown, hts⟩ (c_X8_plainBehind l hn hTG ho) (cwV 1 hts gX11_closeObject_X8_plainBehind rfl rfl rfl (by decide +kernel) ⟨Nat.le_of_ble_eq_true rfl, Nat.le_of_ble_eq_true rfl⟩) hP hK (ev_recvT hK hP) rfl hl.1 (Nat.le_of_ble_eq_true rfl) dX11_closeObject_28 ⟨Nat.le_of_ble_eq_true rfl, Nat.le_of_ble_eq_true rfl⟩ ?_
  refine eo_astore_n (lv' := [(3, ev_rf ad (ev_pb st 12 (some o))), (2, .ref (ad o 0)), (0, .ref (b 0)), (1, .int (nI o))]) hx hb dX11_closeObject_31 rfl hl (by decide) rfl (fun ls hl => ?_)
  refine eo_aload_n hx hb dX11_closeObject_32 rfl (lv_at hl 0 rfl) ?_
  refine eo_ifnonnull (tgt := 39) hx hb dX11_closeObject_33 (by decide) (fun j_2 c_1 => ?_) (fun c_1 => ?_)
  · -- some
    rw [c_1] at hl
    have hi_3 : j_2 < st.1 := (ev_pb_lt hTG 12 (some o) (fun _ h => by cases h; exact ho)) _ c_1
    have hl : lv_has ls 4 [(3, .ref (ad j_2 0)), (2, .ref (ad o 0)), (0, .ref (b 0)), (1, .int (nI o))] := hl
    refine lv_aload_n hx hb dX11_closeObject_39 rfl (lv_at hl 0 rfl) ?_
    refine lv_iconst (v := nI 1) hx hb dX11_closeObject_40 (by decide) ?_
    have hP := ev_foc (i := j_2) hP
    have hD := ev_focD j_2 hD
    refine ev_put (t := (st.2 j_2)) (v := .int (ev_bi true)) hx hb hts hi7 hown hK hP hD hS hi_3 4 (by decide) (hts (.fieldLink RX11 142 "EventloopRow$Thing" "closed" "Z") (by decide +kernel)) rfl rfl rfl (ev_tg (st.2 j_2), ev_ch (st.2 j_2), ev_rv (st.2 j_2), true, ev_an (st.2 j_2), ev_va (st.2 j_2), ev_rg (st.2 j_2), ev_ke (st.2 j_2), ev_kc (st.2 j_2)) rfl (fun z h1 h2 => by rcases z with _ | _ | _ | _ | _ | z <;> first | rfl | omega) dX11_closeObject_41 (fun H locs hP hD hS => ?_)
    refine lv_bipush (v := nI 121) hx hb dX11_closeObject_44 (by decide) ?_
    exact em_char hx hb hr hlocks (ev_cl_lt _ _) (by simp [ev_cl, ev_shut, c_1] <;> rfl) (by rw [show (ev_cl st o).2 = ev_up st j_2 (ev_tg (st.2 j_2), ev_ch (st.2 j_2), ev_rv (st.2 j_2), true, ev_an (st.2 j_2), ev_va (st.2 j_2), ev_rg (st.2 j_2), ev_ke (st.2 j_2), ev_kc (st.2 j_2)) from (by simp [ev_cl, ev_shut, c_1] <;> rfl)]; exact hP) hS dX11_closeObject_46
  · -- null
    rw [c_1] at hl
    have hl : lv_has ls 4 [(3, .null), (2, .ref (ad o 0)), (0, .ref (b 0)), (1, .int (nI o))] := hl
    refine lv_bipush (v := nI 84) hx hb dX11_closeObject_36 (by decide) ?_
    exact em_char hx hb hr hlocks (ev_cl_lt _ _) (by simp [ev_cl, ev_shut, c_1] <;> rfl) (by rw [show (ev_cl st o).2 = st from (by simp [ev_cl, ev_shut, c_1] <;> rfl)]; exact hP) hS dX11_closeObject_38
set_option maxHeartbeats 4000000 in
set_option maxRecDepth 100000 in
theorem c_X11_tell_0 (l : Launch) {D : va_G} {cI cO : ClassId} {b : Nat → Nat} {ad : Nat → Nat → Nat} {st : ev_ST} {A : Nat → Prop} (hD : va_D A (ev_wl cI cO b ad st)) (hn : st.1 ≤ 12) (hTG : ∀ i, i < st.1 → ∀ j, ev_tg (st.2 i) = some j → j < st.1) {o : Nat} (ho : o < st.1) {v : Nat} (hv : v ≤ 9999) (hpx : (ev_tg (st.2 o)).isSome = true) : Met l yX11_tell wsX11_tell ({ frames := 2, cells := 0, slots := 0, locals := 42 }) (ev_Pc D cI cO (ev_P D cI cO b ad st) [.ref (b 0), .int (nI o), .int (nI 103), .int (nI v)]) (ev_QM (some (.int (ev_bi (ev_told (st.2 o) 0)))) (ev_P D cI cO b ad (ev_up st o (ev_kA (st.2 o) 0 (nI v)))) A) 0 0 A := by
  refine ev_body (cc := cX11_tell) (maxL := 7) (ret := (some .boolean)) (by decide) rfl (Nat.le_of_ble_eq_true rfl) ?_
  intro p e s m args below meth c hx hb hr hml hown hts hlocks hnm hP hK ls hl
  have hS : va_S A s.heap s.heap [] := va_S.rf
  have hl : lv_has ls 7 [(0, .ref (b 0)), (1, .int (nI o)), (2, .int (nI 103)), (3, .int (nI v))] := hl
  have hi11 : ∀ w ∈ wsX110, w ∈ wsX11_tell := by decide +kernel
  refine lv_aload_n hx hb dX11_tell_0 rfl (lv_at hl 0 rfl) ?_
  refine ev_fac (v := .ref (b 1)) hx hb hts hi11 hown hK hP 0 (by decide) (hts (.fieldLink RX11 10 "EventloopRow" "things" "LEventloopRow$Things;") (by decide +kernel)) rfl dX11_tell_1 ?_
  refine lv_iload_n hx hb dX11_tell_4 rfl (lv_at hl 1 rfl) ?_
  refine ev_cv (As := [.int (nI o)]) (rest := []) ⟨hx, hb, hml, hown, hts⟩ (c_X8_find_v l hn (j := o) ho) (cwV 1 hts gX11_tell_X8_find rfl rfl rfl (by decide +kernel) ⟨Nat.le_of_ble_eq_true rfl, Nat.le_of_ble_eq_true rfl⟩) hP hK (ev_recvT hK hP) rfl hl.1 (Nat.le_of_ble_eq_true rfl) dX11_tell_5 ⟨Nat.le_of_ble_eq_true rfl, Nat.le_of_ble_eq_true rfl⟩ ?_
  refine lv_astore (lv' := [(4, .ref (ad o 0)), (0, .ref (b 0)), (1, .int (nI o)), (2, .int (nI 103)), (3, .int (nI v))]) hx hb dX11_tell_8 hl (by decide) rfl (fun ls hl => ?_)
  refine lv_aload hx hb dX11_tell_10 (lv_at hl 0 rfl) ?_
  refine lv_ifnonnull (tgt := 25) hx hb dX11_tell_12 (by decide) ?_
  refine lv_iload_n hx hb dX11_tell_25 rfl (lv_at hl 3 rfl) ?_
  refine ev_cst (As := [.int (nI 103)]) (rest := []) ⟨hx, hb, hml, hown, hts⟩ (c_X11_kindOf_g l (b := b) (ad := ad)) (va_cwS 1 hts gX11_tell_X11_kindOf rfl rfl rfl (by decide +kernel) ⟨Nat.le_of_ble_eq_true rfl, Nat.le_of_ble_eq_true rfl⟩) hP hK rfl hl.1 (Nat.le_of_ble_eq_true rfl) dX11_tell_26 ⟨Nat.le_of_ble_eq_true rfl, Nat.le_of_ble_eq_true rfl⟩ ?_
  refine lv_istore (lv' := [(5, .int (nI 0)), (4, .ref (ad o 0)), (0, .ref (b 0)), (1, .int (nI o)), (2, .int (nI 103)), (3, .int (nI v))]) hx hb dX11_tell_29 hl (by decide) rfl (fun ls hl => ?_)
  refine lv_iload hx hb dX11_tell_31 (lv_at hl 0 rfl) ?_
  refine lv_iconst (v := -1) hx hb dX11_tell_33 (by decide) ?_
  refine lv_icmp_eq (tgt := 46) hx hb dX11_tell_34 (by decide) (fun h => absurd h (by decide)) (fun _ => ?_)
  refine lv_iload hx hb dX11_tell_37 (lv_at hl 0 rfl) ?_
  refine lv_iload_n hx hb dX11_tell_39 rfl (lv_at hl 5 rfl) ?_
  refine ev_cst (As := [.int (nI 0), .int (nI v)]) (rest := []) ⟨hx, hb, hml, hown, hts⟩ (c_X11_isAnswer_0 l (b := b) (ad := ad) (v := v) (by omega)) (va_cwS 2 hts gX11_tell_X11_isAnswer rfl rfl rfl (by decide +kernel) ⟨Nat.le_of_ble_eq_true rfl, Nat.le_of_ble_eq_true rfl⟩) hP hK rfl hl.1 (Nat.le_of_ble_eq_true rfl) dX11_tell_40 ⟨Nat.le_of_ble_eq_true rfl, Nat.le_of_ble_eq_true rfl⟩ ?_
  refine eb_if_ne (tgt := 56) hx hb dX11_tell_43 (by decide) (fun _ => ?_) (fun h => by cases h)
  refine lv_aload hx hb dX11_tell_56 (lv_at hl 1 rfl) ?_
  refine ev_cv (As := []) (rest := []) ⟨hx, hb, hml, hown, hts⟩ (c_X7_isProxy l ho rfl) (cwV 0 hts gX11_tell_X7_isProxy rfl rfl rfl (by decide +kernel) ⟨Nat.le_of_ble_eq_true rfl, Nat.le_of_ble_eq_true rfl⟩) hP hK (ev_recv hK hP ho) rfl hl.1 (Nat.le_of_ble_eq_true rfl) dX11_tell_58 ⟨Nat.le_of_ble_eq_true rfl, Nat.le_of_ble_eq_true rfl⟩ ?_
  refine eb_if_ne (tgt := 74) hx hb dX11_tell_61 (by decide) (fun c_3 => ?_) (fun c_3 => by exfalso; rw [hpx] at c_3; cases c_3)
  refine lv_aload hx hb dX11_tell_74 (lv_at hl 1 rfl) ?_
  refine lv_iload hx hb dX11_tell_76 (lv_at hl 0 rfl) ?_
  refine ev_cv (As := [.int (nI 0)]) (rest := []) ⟨hx, hb, hml, hown, hts⟩ (c_X7_isTold l ho rfl (k := 0) (by omega)) (cwV 1 hts gX11_tell_X7_isTold rfl rfl rfl (by decide +kernel) ⟨Nat.le_of_ble_eq_true rfl, Nat.le_of_ble_eq_true rfl⟩) hP hK (ev_recv hK hP ho) rfl hl.1 (Nat.le_of_ble_eq_true rfl) dX11_tell_78 ⟨Nat.le_of_ble_eq_true rfl, Nat.le_of_ble_eq_true rfl⟩ ?_
  refine lv_istore (lv' := [(6, .int (ev_bi (ev_told (st.2 o) 0))), (5, .int (nI 0)), (4, .ref (ad o 0)), (0, .ref (b 0)), (1, .int (nI o)), (2, .int (nI 103)), (3, .int (nI v))]) hx hb dX11_tell_81 hl (by decide) rfl (fun ls hl => ?_)
  refine lv_aload hx hb dX11_tell_83 (lv_at hl 2 rfl) ?_
  refine lv_iload hx hb dX11_tell_85 (lv_at hl 1 rfl) ?_
  refine lv_iload_n hx hb dX11_tell_87 rfl (lv_at hl 6 rfl) ?_
  have hP := ev_foc (i := o) hP
  have hD := ev_focD o hD
  refine ev_mv (As := [.int (nI 0), .int (nI v)]) (rest := []) ⟨hx, hb, hml, hown, hts⟩ (c_X7_keepAnswer l ho hD (w := 0) (x := (nI v)) (by omega)) (cwV 2 hts gX11_tell_X7_keepAnswer rfl rfl rfl (by decide +kernel) ⟨Nat.le_of_ble_eq_true rfl, Nat.le_of_ble_eq_true rfl⟩) hP hK hS (ev_recv hK hP ho) rfl hl.1 (Nat.le_of_ble_eq_true rfl) dX11_tell_88 ⟨Nat.le_of_ble_eq_true rfl, Nat.le_of_ble_eq_true rfl⟩ (fun H locs hP hz hk hS => ?_)
  have hD := ev_D_re (st := st) (i := o) (t2 := (ev_kA (st.2 o) 0 (nI v))) hD
  refine lv_iload hx hb dX11_tell_91 (lv_at hl 0 rfl) ?_
  exact em_bool hx hb hr hlocks rfl hP hS dX11_tell_93
set_option maxHeartbeats 4000000 in
set_option maxRecDepth 100000 in
theorem c_X11_tell_1 (l : Launch) {D : va_G} {cI cO : ClassId} {b : Nat → Nat} {ad : Nat → Nat → Nat} {st : ev_ST} {A : Nat → Prop} (hD : va_D A (ev_wl cI cO b ad st)) (hn : st.1 ≤ 12) (hTG : ∀ i, i < st.1 → ∀ j, ev_tg (st.2 i) = some j → j < st.1) {o : Nat} (ho : o < st.1) {v : Nat} (hv : v ≤ 1) (hpx : (ev_tg (st.2 o)).isSome = true) : Met l yX11_tell wsX11_tell ({ frames := 2, cells := 0, slots := 0, locals := 42 }) (ev_Pc D cI cO (ev_P D cI cO b ad st) [.ref (b 0), .int (nI o), .int (nI 104), .int (nI v)]) (ev_QM (some (.int (ev_bi (ev_told (st.2 o) 1)))) (ev_P D cI cO b ad (ev_up st o (ev_kA (st.2 o) 1 (nI v)))) A) 0 0 A := by
  refine ev_body (cc := cX11_tell) (maxL := 7) (ret := (some .boolean)) (by decide) rfl (Nat.le_of_ble_eq_true rfl) ?_
  intro p e s m args below meth c hx hb hr hml hown hts hlocks hnm hP hK ls hl
  have hS : va_S A s.heap s.heap [] := va_S.rf
  have hl : lv_has ls 7 [(0, .ref (b 0)), (1, .int (nI o)), (2, .int (nI 104)), (3, .int (nI v))] := hl
  have hi11 : ∀ w ∈ wsX110, w ∈ wsX11_tell := by decide +kernel
  refine lv_aload_n hx hb dX11_tell_0 rfl (lv_at hl 0 rfl) ?_
  refine ev_fac (v := .ref (b 1)) hx hb hts hi11 hown hK hP 0 (by decide) (hts (.fieldLink RX11 10 "EventloopRow" "things" "LEventloopRow$Things;") (by decide +kernel)) rfl dX11_tell_1 ?_
  refine lv_iload_n hx hb dX11_tell_4 rfl (lv_at hl 1 rfl) ?_
  refine ev_cv (As := [.int (nI o)]) (rest := []) ⟨hx, hb, hml, hown, hts⟩ (c_X8_find_v l hn (j := o) ho) (cwV 1 hts gX11_tell_X8_find rfl rfl rfl (by decide +kernel) ⟨Nat.le_of_ble_eq_true rfl, Nat.le_of_ble_eq_true rfl⟩) hP hK (ev_recvT hK hP) rfl hl.1 (Nat.le_of_ble_eq_true rfl) dX11_tell_5 ⟨Nat.le_of_ble_eq_true rfl, Nat.le_of_ble_eq_true rfl⟩ ?_
  refine lv_astore (lv' := [(4, .ref (ad o 0)), (0, .ref (b 0)), (1, .int (nI o)), (2, .int (nI 104)), (3, .int (nI v))]) hx hb dX11_tell_8 hl (by decide) rfl (fun ls hl => ?_)
  refine lv_aload hx hb dX11_tell_10 (lv_at hl 0 rfl) ?_
  refine lv_ifnonnull (tgt := 25) hx hb dX11_tell_12 (by decide) ?_
  refine lv_iload_n hx hb dX11_tell_25 rfl (lv_at hl 3 rfl) ?_
  refine ev_cst (As := [.int (nI 104)]) (rest := []) ⟨hx, hb, hml, hown, hts⟩ (c_X11_kindOf_h l (b := b) (ad := ad)) (va_cwS 1 hts gX11_tell_X11_kindOf rfl rfl rfl (by decide +kernel) ⟨Nat.le_of_ble_eq_true rfl, Nat.le_of_ble_eq_true rfl⟩) hP hK rfl hl.1 (Nat.le_of_ble_eq_true rfl) dX11_tell_26 ⟨Nat.le_of_ble_eq_true rfl, Nat.le_of_ble_eq_true rfl⟩ ?_
  refine lv_istore (lv' := [(5, .int (nI 1)), (4, .ref (ad o 0)), (0, .ref (b 0)), (1, .int (nI o)), (2, .int (nI 104)), (3, .int (nI v))]) hx hb dX11_tell_29 hl (by decide) rfl (fun ls hl => ?_)
  refine lv_iload hx hb dX11_tell_31 (lv_at hl 0 rfl) ?_
  refine lv_iconst (v := -1) hx hb dX11_tell_33 (by decide) ?_
  refine lv_icmp_eq (tgt := 46) hx hb dX11_tell_34 (by decide) (fun h => absurd h (by decide)) (fun _ => ?_)
  refine lv_iload hx hb dX11_tell_37 (lv_at hl 0 rfl) ?_
  refine lv_iload_n hx hb dX11_tell_39 rfl (lv_at hl 5 rfl) ?_
  refine ev_cst (As := [.int (nI 1), .int (nI v)]) (rest := []) ⟨hx, hb, hml, hown, hts⟩ (c_X11_isAnswer_1 l (b := b) (ad := ad) (w := 1) (v := v) (by omega) (by omega) (by omega)) (va_cwS 2 hts gX11_tell_X11_isAnswer rfl rfl rfl (by decide +kernel) ⟨Nat.le_of_ble_eq_true rfl, Nat.le_of_ble_eq_true rfl⟩) hP hK rfl hl.1 (Nat.le_of_ble_eq_true rfl) dX11_tell_40 ⟨Nat.le_of_ble_eq_true rfl, Nat.le_of_ble_eq_true rfl⟩ ?_
  refine eb_if_ne (tgt := 56) hx hb dX11_tell_43 (by decide) (fun _ => ?_) (fun h => by cases h)
  refine lv_aload hx hb dX11_tell_56 (lv_at hl 1 rfl) ?_
  refine ev_cv (As := []) (rest := []) ⟨hx, hb, hml, hown, hts⟩ (c_X7_isProxy l ho rfl) (cwV 0 hts gX11_tell_X7_isProxy rfl rfl rfl (by decide +kernel) ⟨Nat.le_of_ble_eq_true rfl, Nat.le_of_ble_eq_true rfl⟩) hP hK (ev_recv hK hP ho) rfl hl.1 (Nat.le_of_ble_eq_true rfl) dX11_tell_58 ⟨Nat.le_of_ble_eq_true rfl, Nat.le_of_ble_eq_true rfl⟩ ?_
  refine eb_if_ne (tgt := 74) hx hb dX11_tell_61 (by decide) (fun c_3 => ?_) (fun c_3 => by exfalso; rw [hpx] at c_3; cases c_3)
  refine lv_aload hx hb dX11_tell_74 (lv_at hl 1 rfl) ?_
  refine lv_iload hx hb dX11_tell_76 (lv_at hl 0 rfl) ?_
  refine ev_cv (As := [.int (nI 1)]) (rest := []) ⟨hx, hb, hml, hown, hts⟩ (c_X7_isTold l ho rfl (k := 1) (by omega)) (cwV 1 hts gX11_tell_X7_isTold rfl rfl rfl (by decide +kernel) ⟨Nat.le_of_ble_eq_true rfl, Nat.le_of_ble_eq_true rfl⟩) hP hK (ev_recv hK hP ho) rfl hl.1 (Nat.le_of_ble_eq_true rfl) dX11_tell_78 ⟨Nat.le_of_ble_eq_true rfl, Nat.le_of_ble_eq_true rfl⟩ ?_
  refine lv_istore (lv' := [(6, .int (ev_bi (ev_told (st.2 o) 1))), (5, .int (nI 1)), (4, .ref (ad o 0)), (0, .ref (b 0)), (1, .int (nI o)), (2, .int (nI 104)), (3, .int (nI v))]) hx hb dX11_tell_81 hl (by decide) rfl (fun ls hl => ?_)
  refine lv_aload hx hb dX11_tell_83 (lv_at hl 2 rfl) ?_
  refine lv_iload hx hb dX11_tell_85 (lv_at hl 1 rfl) ?_
  refine lv_iload_n hx hb dX11_tell_87 rfl (lv_at hl 6 rfl) ?_
  have hP := ev_foc (i := o) hP
  have hD := ev_focD o hD
  refine ev_mv (As := [.int (nI 1), .int (nI v)]) (rest := []) ⟨hx, hb, hml, hown, hts⟩ (c_X7_keepAnswer l ho hD (w := 1) (x := (nI v)) (by omega)) (cwV 2 hts gX11_tell_X7_keepAnswer rfl rfl rfl (by decide +kernel) ⟨Nat.le_of_ble_eq_true rfl, Nat.le_of_ble_eq_true rfl⟩) hP hK hS (ev_recv hK hP ho) rfl hl.1 (Nat.le_of_ble_eq_true rfl) dX11_tell_88 ⟨Nat.le_of_ble_eq_true rfl, Nat.le_of_ble_eq_true rfl⟩ (fun H locs hP hz hk hS => ?_)
  have hD := ev_D_re (st := st) (i := o) (t2 := (ev_kA (st.2 o) 1 (nI v))) hD
  refine lv_iload hx hb dX11_tell_91 (lv_at hl 0 rfl) ?_
  exact em_bool hx hb hr hlocks rfl hP hS dX11_tell_93
set_option maxHeartbeats 4000000 in
set_option maxRecDepth 100000 in
theorem c_X11_tell_2 (l : Launch) {D : va_G} {cI cO : ClassId} {b : Nat → Nat} {ad : Nat → Nat → Nat} {st : ev_ST} {A : Nat → Prop} (hD : va_D A (ev_wl cI cO b ad st)) (hn : st.1 ≤ 12) (hTG : ∀ i, i < st.1 → ∀ j, ev_tg (st.2 i) = some j → j < st.1) {o : Nat} (ho : o < st.1) {v : Nat} (hv : v ≤ 1) (hpx : (ev_tg (st.2 o)).isSome = true) : Met l yX11_tell wsX11_tell ({ frames := 2, cells := 0, slots := 0, locals := 42 }) (ev_Pc D cI cO (ev_P D cI cO b ad st) [.ref (b 0), .int (nI o), .int (nI 115), .int (nI v)]) (ev_QM (some (.int (ev_bi (ev_told (st.2 o) 2)))) (ev_P D cI cO b ad (ev_up st o (ev_kA (st.2 o) 2 (nI v)))) A) 0 0 A := by
  refine ev_body (cc := cX11_tell) (maxL := 7) (ret := (some .boolean)) (by decide) rfl (Nat.le_of_ble_eq_true rfl) ?_
  intro p e s m args below meth c hx hb hr hml hown hts hlocks hnm hP hK ls hl
  have hS : va_S A s.heap s.heap [] := va_S.rf
  have hl : lv_has ls 7 [(0, .ref (b 0)), (1, .int (nI o)), (2, .int (nI 115)), (3, .int (nI v))] := hl
  have hi11 : ∀ w ∈ wsX110, w ∈ wsX11_tell := by decide +kernel
  refine lv_aload_n hx hb dX11_tell_0 rfl (lv_at hl 0 rfl) ?_
  refine ev_fac (v := .ref (b 1)) hx hb hts hi11 hown hK hP 0 (by decide) (hts (.fieldLink RX11 10 "EventloopRow" "things" "LEventloopRow$Things;") (by decide +kernel)) rfl dX11_tell_1 ?_
  refine lv_iload_n hx hb dX11_tell_4 rfl (lv_at hl 1 rfl) ?_
  refine ev_cv (As := [.int (nI o)]) (rest := []) ⟨hx, hb, hml, hown, hts⟩ (c_X8_find_v l hn (j := o) ho) (cwV 1 hts gX11_tell_X8_find rfl rfl rfl (by decide +kernel) ⟨Nat.le_of_ble_eq_true rfl, Nat.le_of_ble_eq_true rfl⟩) hP hK (ev_recvT hK hP) rfl hl.1 (Nat.le_of_ble_eq_true rfl) dX11_tell_5 ⟨Nat.le_of_ble_eq_true rfl, Nat.le_of_ble_eq_true rfl⟩ ?_
  refine lv_astore (lv' := [(4, .ref (ad o 0)), (0, .ref (b 0)), (1, .int (nI o)), (2, .int (nI 115)), (3, .int (nI v))]) hx hb dX11_tell_8 hl (by decide) rfl (fun ls hl => ?_)
  refine lv_aload hx hb dX11_tell_10 (lv_at hl 0 rfl) ?_
  refine lv_ifnonnull (tgt := 25) hx hb dX11_tell_12 (by decide) ?_
  refine lv_iload_n hx hb dX11_tell_25 rfl (lv_at hl 3 rfl) ?_
  refine ev_cst (As := [.int (nI 115)]) (rest := []) ⟨hx, hb, hml, hown, hts⟩ (c_X11_kindOf_s l (b := b) (ad := ad)) (va_cwS 1 hts gX11_tell_X11_kindOf rfl rfl rfl (by decide +kernel) ⟨Nat.le_of_ble_eq_true rfl, Nat.le_of_ble_eq_true rfl⟩) hP hK rfl hl.1 (Nat.le_of_ble_eq_true rfl) dX11_tell_26 ⟨Nat.le_of_ble_eq_true rfl, Nat.le_of_ble_eq_true rfl⟩ ?_
  refine lv_istore (lv' := [(5, .int (nI 2)), (4, .ref (ad o 0)), (0, .ref (b 0)), (1, .int (nI o)), (2, .int (nI 115)), (3, .int (nI v))]) hx hb dX11_tell_29 hl (by decide) rfl (fun ls hl => ?_)
  refine lv_iload hx hb dX11_tell_31 (lv_at hl 0 rfl) ?_
  refine lv_iconst (v := -1) hx hb dX11_tell_33 (by decide) ?_
  refine lv_icmp_eq (tgt := 46) hx hb dX11_tell_34 (by decide) (fun h => absurd h (by decide)) (fun _ => ?_)
  refine lv_iload hx hb dX11_tell_37 (lv_at hl 0 rfl) ?_
  refine lv_iload_n hx hb dX11_tell_39 rfl (lv_at hl 5 rfl) ?_
  refine ev_cst (As := [.int (nI 2), .int (nI v)]) (rest := []) ⟨hx, hb, hml, hown, hts⟩ (c_X11_isAnswer_1 l (b := b) (ad := ad) (w := 2) (v := v) (by omega) (by omega) (by omega)) (va_cwS 2 hts gX11_tell_X11_isAnswer rfl rfl rfl (by decide +kernel) ⟨Nat.le_of_ble_eq_true rfl, Nat.le_of_ble_eq_true rfl⟩) hP hK rfl hl.1 (Nat.le_of_ble_eq_true rfl) dX11_tell_40 ⟨Nat.le_of_ble_eq_true rfl, Nat.le_of_ble_eq_true rfl⟩ ?_
  refine eb_if_ne (tgt := 56) hx hb dX11_tell_43 (by decide) (fun _ => ?_) (fun h => by cases h)
  refine lv_aload hx hb dX11_tell_56 (lv_at hl 1 rfl) ?_
  refine ev_cv (As := []) (rest := []) ⟨hx, hb, hml, hown, hts⟩ (c_X7_isProxy l ho rfl) (cwV 0 hts gX11_tell_X7_isProxy rfl rfl rfl (by decide +kernel) ⟨Nat.le_of_ble_eq_true rfl, Nat.le_of_ble_eq_true rfl⟩) hP hK (ev_recv hK hP ho) rfl hl.1 (Nat.le_of_ble_eq_true rfl) dX11_tell_58 ⟨Nat.le_of_ble_eq_true rfl, Nat.le_of_ble_eq_true rfl⟩ ?_
  refine eb_if_ne (tgt := 74) hx hb dX11_tell_61 (by decide) (fun c_3 => ?_) (fun c_3 => by exfalso; rw [hpx] at c_3; cases c_3)
  refine lv_aload hx hb dX11_tell_74 (lv_at hl 1 rfl) ?_
  refine lv_iload hx hb dX11_tell_76 (lv_at hl 0 rfl) ?_
  refine ev_cv (As := [.int (nI 2)]) (rest := []) ⟨hx, hb, hml, hown, hts⟩ (c_X7_isTold l ho rfl (k := 2) (by omega)) (cwV 1 hts gX11_tell_X7_isTold rfl rfl rfl (by decide +kernel) ⟨Nat.le_of_ble_eq_true rfl, Nat.le_of_ble_eq_true rfl⟩) hP hK (ev_recv hK hP ho) rfl hl.1 (Nat.le_of_ble_eq_true rfl) dX11_tell_78 ⟨Nat.le_of_ble_eq_true rfl, Nat.le_of_ble_eq_true rfl⟩ ?_
  refine lv_istore (lv' := [(6, .int (ev_bi (ev_told (st.2 o) 2))), (5, .int (nI 2)), (4, .ref (ad o 0)), (0, .ref (b 0)), (1, .int (nI o)), (2, .int (nI 115)), (3, .int (nI v))]) hx hb dX11_tell_81 hl (by decide) rfl (fun ls hl => ?_)
  refine lv_aload hx hb dX11_tell_83 (lv_at hl 2 rfl) ?_
  refine lv_iload hx hb dX11_tell_85 (lv_at hl 1 rfl) ?_
  refine lv_iload_n hx hb dX11_tell_87 rfl (lv_at hl 6 rfl) ?_
  have hP := ev_foc (i := o) hP
  have hD := ev_focD o hD
  refine ev_mv (As := [.int (nI 2), .int (nI v)]) (rest := []) ⟨hx, hb, hml, hown, hts⟩ (c_X7_keepAnswer l ho hD (w := 2) (x := (nI v)) (by omega)) (cwV 2 hts gX11_tell_X7_keepAnswer rfl rfl rfl (by decide +kernel) ⟨Nat.le_of_ble_eq_true rfl, Nat.le_of_ble_eq_true rfl⟩) hP hK hS (ev_recv hK hP ho) rfl hl.1 (Nat.le_of_ble_eq_true rfl) dX11_tell_88 ⟨Nat.le_of_ble_eq_true rfl, Nat.le_of_ble_eq_true rfl⟩ (fun H locs hP hz hk hS => ?_)
  have hD := ev_D_re (st := st) (i := o) (t2 := (ev_kA (st.2 o) 2 (nI v))) hD
  refine lv_iload hx hb dX11_tell_91 (lv_at hl 0 rfl) ?_
  exact em_bool hx hb hr hlocks rfl hP hS dX11_tell_93
set_option maxHeartbeats 4000000 in
set_option maxRecDepth 100000 in
theorem c_X11_tell_3 (l : Launch) {D : va_G} {cI cO : ClassId} {b : Nat → Nat} {ad : Nat → Nat → Nat} {st : ev_ST} {A : Nat → Prop} (hD : va_D A (ev_wl cI cO b ad st)) (hn : st.1 ≤ 12) (hTG : ∀ i, i < st.1 → ∀ j, ev_tg (st.2 i) = some j → j < st.1) {o : Nat} (ho : o < st.1) {v : Nat} (hv : v ≤ 1) (hpx : (ev_tg (st.2 o)).isSome = true) : Met l yX11_tell wsX11_tell ({ frames := 2, cells := 0, slots := 0, locals := 42 }) (ev_Pc D cI cO (ev_P D cI cO b ad st) [.ref (b 0), .int (nI o), .int (nI 100), .int (nI v)]) (ev_QM (some (.int (ev_bi (ev_told (st.2 o) 3)))) (ev_P D cI cO b ad (ev_up st o (ev_kA (st.2 o) 3 (nI v)))) A) 0 0 A := by
  refine ev_body (cc := cX11_tell) (maxL := 7) (ret := (some .boolean)) (by decide) rfl (Nat.le_of_ble_eq_true rfl) ?_
  intro p e s m args below meth c hx hb hr hml hown hts hlocks hnm hP hK ls hl
  have hS : va_S A s.heap s.heap [] := va_S.rf
  have hl : lv_has ls 7 [(0, .ref (b 0)), (1, .int (nI o)), (2, .int (nI 100)), (3, .int (nI v))] := hl
  have hi11 : ∀ w ∈ wsX110, w ∈ wsX11_tell := by decide +kernel
  refine lv_aload_n hx hb dX11_tell_0 rfl (lv_at hl 0 rfl) ?_
  refine ev_fac (v := .ref (b 1)) hx hb hts hi11 hown hK hP 0 (by decide) (hts (.fieldLink RX11 10 "EventloopRow" "things" "LEventloopRow$Things;") (by decide +kernel)) rfl dX11_tell_1 ?_
  refine lv_iload_n hx hb dX11_tell_4 rfl (lv_at hl 1 rfl) ?_
  refine ev_cv (As := [.int (nI o)]) (rest := []) ⟨hx, hb, hml, hown, hts⟩ (c_X8_find_v l hn (j := o) ho) (cwV 1 hts gX11_tell_X8_find rfl rfl rfl (by decide +kernel) ⟨Nat.le_of_ble_eq_true rfl, Nat.le_of_ble_eq_true rfl⟩) hP hK (ev_recvT hK hP) rfl hl.1 (Nat.le_of_ble_eq_true rfl) dX11_tell_5 ⟨Nat.le_of_ble_eq_true rfl, Nat.le_of_ble_eq_true rfl⟩ ?_
  refine lv_astore (lv' := [(4, .ref (ad o 0)), (0, .ref (b 0)), (1, .int (nI o)), (2, .int (nI 100)), (3, .int (nI v))]) hx hb dX11_tell_8 hl (by decide) rfl (fun ls hl => ?_)
  refine lv_aload hx hb dX11_tell_10 (lv_at hl 0 rfl) ?_
  refine lv_ifnonnull (tgt := 25) hx hb dX11_tell_12 (by decide) ?_
  refine lv_iload_n hx hb dX11_tell_25 rfl (lv_at hl 3 rfl) ?_
  refine ev_cst (As := [.int (nI 100)]) (rest := []) ⟨hx, hb, hml, hown, hts⟩ (c_X11_kindOf_d l (b := b) (ad := ad)) (va_cwS 1 hts gX11_tell_X11_kindOf rfl rfl rfl (by decide +kernel) ⟨Nat.le_of_ble_eq_true rfl, Nat.le_of_ble_eq_true rfl⟩) hP hK rfl hl.1 (Nat.le_of_ble_eq_true rfl) dX11_tell_26 ⟨Nat.le_of_ble_eq_true rfl, Nat.le_of_ble_eq_true rfl⟩ ?_
  refine lv_istore (lv' := [(5, .int (nI 3)), (4, .ref (ad o 0)), (0, .ref (b 0)), (1, .int (nI o)), (2, .int (nI 100)), (3, .int (nI v))]) hx hb dX11_tell_29 hl (by decide) rfl (fun ls hl => ?_)
  refine lv_iload hx hb dX11_tell_31 (lv_at hl 0 rfl) ?_
  refine lv_iconst (v := -1) hx hb dX11_tell_33 (by decide) ?_
  refine lv_icmp_eq (tgt := 46) hx hb dX11_tell_34 (by decide) (fun h => absurd h (by decide)) (fun _ => ?_)
  refine lv_iload hx hb dX11_tell_37 (lv_at hl 0 rfl) ?_
  refine lv_iload_n hx hb dX11_tell_39 rfl (lv_at hl 5 rfl) ?_
  refine ev_cst (As := [.int (nI 3), .int (nI v)]) (rest := []) ⟨hx, hb, hml, hown, hts⟩ (c_X11_isAnswer_1 l (b := b) (ad := ad) (w := 3) (v := v) (by omega) (by omega) (by omega)) (va_cwS 2 hts gX11_tell_X11_isAnswer rfl rfl rfl (by decide +kernel) ⟨Nat.le_of_ble_eq_true rfl, Nat.le_of_ble_eq_true rfl⟩) hP hK rfl hl.1 (Nat.le_of_ble_eq_true rfl) dX11_tell_40 ⟨Nat.le_of_ble_eq_true rfl, Nat.le_of_ble_eq_true rfl⟩ ?_
  refine eb_if_ne (tgt := 56) hx hb dX11_tell_43 (by decide) (fun _ => ?_) (fun h => by cases h)
  refine lv_aload hx hb dX11_tell_56 (lv_at hl 1 rfl) ?_
  refine ev_cv (As := []) (rest := []) ⟨hx, hb, hml, hown, hts⟩ (c_X7_isProxy l ho rfl) (cwV 0 hts gX11_tell_X7_isProxy rfl rfl rfl (by decide +kernel) ⟨Nat.le_of_ble_eq_true rfl, Nat.le_of_ble_eq_true rfl⟩) hP hK (ev_recv hK hP ho) rfl hl.1 (Nat.le_of_ble_eq_true rfl) dX11_tell_58 ⟨Nat.le_of_ble_eq_true rfl, Nat.le_of_ble_eq_true rfl⟩ ?_
  refine eb_if_ne (tgt := 74) hx hb dX11_tell_61 (by decide) (fun c_3 => ?_) (fun c_3 => by exfalso; rw [hpx] at c_3; cases c_3)
  refine lv_aload hx hb dX11_tell_74 (lv_at hl 1 rfl) ?_
  refine lv_iload hx hb dX11_tell_76 (lv_at hl 0 rfl) ?_
  refine ev_cv (As := [.int (nI 3)]) (rest := []) ⟨hx, hb, hml, hown, hts⟩ (c_X7_isTold l ho rfl (k := 3) (by omega)) (cwV 1 hts gX11_tell_X7_isTold rfl rfl rfl (by decide +kernel) ⟨Nat.le_of_ble_eq_true rfl, Nat.le_of_ble_eq_true rfl⟩) hP hK (ev_recv hK hP ho) rfl hl.1 (Nat.le_of_ble_eq_true rfl) dX11_tell_78 ⟨Nat.le_of_ble_eq_true rfl, Nat.le_of_ble_eq_true rfl⟩ ?_
  refine lv_istore (lv' := [(6, .int (ev_bi (ev_told (st.2 o) 3))), (5, .int (nI 3)), (4, .ref (ad o 0)), (0, .ref (b 0)), (1, .int (nI o)), (2, .int (nI 100)), (3, .int (nI v))]) hx hb dX11_tell_81 hl (by decide) rfl (fun ls hl => ?_)
  refine lv_aload hx hb dX11_tell_83 (lv_at hl 2 rfl) ?_
  refine lv_iload hx hb dX11_tell_85 (lv_at hl 1 rfl) ?_
  refine lv_iload_n hx hb dX11_tell_87 rfl (lv_at hl 6 rfl) ?_
  have hP := ev_foc (i := o) hP
  have hD := ev_focD o hD
  refine ev_mv (As := [.int (nI 3), .int (nI v)]) (rest := []) ⟨hx, hb, hml, hown, hts⟩ (c_X7_keepAnswer l ho hD (w := 3) (x := (nI v)) (by omega)) (cwV 2 hts gX11_tell_X7_keepAnswer rfl rfl rfl (by decide +kernel) ⟨Nat.le_of_ble_eq_true rfl, Nat.le_of_ble_eq_true rfl⟩) hP hK hS (ev_recv hK hP ho) rfl hl.1 (Nat.le_of_ble_eq_true rfl) dX11_tell_88 ⟨Nat.le_of_ble_eq_true rfl, Nat.le_of_ble_eq_true rfl⟩ (fun H locs hP hz hk hS => ?_)
  have hD := ev_D_re (st := st) (i := o) (t2 := (ev_kA (st.2 o) 3 (nI v))) hD
  refine lv_iload hx hb dX11_tell_91 (lv_at hl 0 rfl) ?_
  exact em_bool hx hb hr hlocks rfl hP hS dX11_tell_93
set_option maxHeartbeats 4000000 in
set_option maxRecDepth 100000 in
theorem c_X11_revoke (l : Launch) {D : va_G} {cI cO : ClassId} {b : Nat → Nat} {ad : Nat → Nat → Nat} {st : ev_ST} {A : Nat → Prop} (hD : va_D A (ev_wl cI cO b ad st)) (hn : st.1 ≤ 12) (hTG : ∀ i, i < st.1 → ∀ j, ev_tg (st.2 i) = some j → j < st.1) {o : Nat} (ho : o < st.1) (hpx : (ev_tg (st.2 o)).isSome = true) : Met l yX11_revoke wsX11_revoke ({ frames := 1, cells := 0, slots := 0, locals := 21 }) (ev_Pc D cI cO (ev_P D cI cO b ad st) [.ref (b 0), .int (nI o)]) (ev_QM (some (.int (ev_bi (ev_rv (st.2 o))))) (ev_P D cI cO b ad (ev_up st o (ev_rvk (st.2 o)))) A) 0 0 A := by
  refine ev_body (cc := cX11_revoke) (maxL := 4) (ret := (some .boolean)) (by decide) rfl (Nat.le_of_ble_eq_true rfl) ?_
  intro p e s m args below meth c hx hb hr hml hown hts hlocks hnm hP hK ls hl
  have hS : va_S A s.heap s.heap [] := va_S.rf
  have hl : lv_has ls 4 [(0, .ref (b 0)), (1, .int (nI o))] := hl
  have hi7 : ∀ w ∈ wsX70, w ∈ wsX11_revoke := by decide +kernel
  have hi11 : ∀ w ∈ wsX110, w ∈ wsX11_revoke := by decide +kernel
  refine lv_aload_n hx hb dX11_revoke_0 rfl (lv_at hl 0 rfl) ?_
  refine ev_fac (v := .ref (b 1)) hx hb hts hi11 hown hK hP 0 (by decide) (hts (.fieldLink RX11 10 "EventloopRow" "things" "LEventloopRow$Things;") (by decide +kernel)) rfl dX11_revoke_1 ?_
  refine lv_iload_n hx hb dX11_revoke_4 rfl (lv_at hl 1 rfl) ?_
  refine ev_cv (As := [.int (nI o)]) (rest := []) ⟨hx, hb, hml, hown, hts⟩ (c_X8_find_v l hn (j := o) ho) (cwV 1 hts gX11_revoke_X8_find rfl rfl rfl (by decide +kernel) ⟨Nat.le_of_ble_eq_true rfl, Nat.le_of_ble_eq_true rfl⟩) hP hK (ev_recvT hK hP) rfl hl.1 (Nat.le_of_ble_eq_true rfl) dX11_revoke_5 ⟨Nat.le_of_ble_eq_true rfl, Nat.le_of_ble_eq_true rfl⟩ ?_
  refine lv_astore_n (lv' := [(2, .ref (ad o 0)), (0, .ref (b 0)), (1, .int (nI o))]) hx hb dX11_revoke_8 rfl hl (by decide) rfl (fun ls hl => ?_)
  refine lv_aload_n hx hb dX11_revoke_9 rfl (lv_at hl 0 rfl) ?_
  refine lv_ifnonnull (tgt := 23) hx hb dX11_revoke_10 (by decide) ?_
  refine lv_aload_n hx hb dX11_revoke_23 rfl (lv_at hl 0 rfl) ?_
  refine ev_cv (As := []) (rest := []) ⟨hx, hb, hml, hown, hts⟩ (c_X7_isProxy l ho rfl) (cwV 0 hts gX11_revoke_X7_isProxy rfl rfl rfl (by decide +kernel) ⟨Nat.le_of_ble_eq_true rfl, Nat.le_of_ble_eq_true rfl⟩) hP hK (ev_recv hK hP ho) rfl hl.1 (Nat.le_of_ble_eq_true rfl) dX11_revoke_24 ⟨Nat.le_of_ble_eq_true rfl, Nat.le_of_ble_eq_true rfl⟩ ?_
  refine eb_if_ne (tgt := 40) hx hb dX11_revoke_27 (by decide) (fun c_1 => ?_) (fun c_1 => by exfalso; rw [hpx] at c_1; cases c_1)
  refine lv_aload_n hx hb dX11_revoke_40 rfl (lv_at hl 0 rfl) ?_
  refine ev_get (v := .int (ev_bi (ev_rv (st.2 o)))) hx hb hts hi7 hown hK hP ho rfl 2 (by decide) (hts (.fieldLink RX11 96 "EventloopRow$Thing" "revoked" "Z") (by decide +kernel)) rfl dX11_revoke_41 ?_
  refine lv_istore_n (lv' := [(3, .int (ev_bi (ev_rv (st.2 o)))), (2, .ref (ad o 0)), (0, .ref (b 0)), (1, .int (nI o))]) hx hb dX11_revoke_44 rfl hl (by decide) rfl (fun ls hl => ?_)
  refine lv_aload_n hx hb dX11_revoke_45 rfl (lv_at hl 1 rfl) ?_
  refine lv_iconst (v := nI 1) hx hb dX11_revoke_46 (by decide) ?_
  have hP := ev_foc (i := o) hP
  have hD := ev_focD o hD
  refine ev_put (t := (st.2 o)) (v := .int (ev_bi true)) hx hb hts hi7 hown hK hP hD hS ho 2 (by decide) (hts (.fieldLink RX11 96 "EventloopRow$Thing" "revoked" "Z") (by decide +kernel)) rfl rfl rfl (ev_tg (st.2 o), ev_ch (st.2 o), true, ev_cs (st.2 o), ev_an (st.2 o), ev_va (st.2 o), ev_rg (st.2 o), ev_ke (st.2 o), ev_kc (st.2 o)) rfl (fun z h1 h2 => by rcases z with _ | _ | _ | _ | _ | z <;> first | rfl | omega) dX11_revoke_47 (fun H locs hP hD hS => ?_)
  refine lv_iload_n hx hb dX11_revoke_50 rfl (lv_at hl 0 rfl) ?_
  exact em_bool hx hb hr hlocks rfl (by rw [show ev_up st o (ev_rvk (st.2 o)) = ev_up st o (ev_tg (st.2 o), ev_ch (st.2 o), true, ev_cs (st.2 o), ev_an (st.2 o), ev_va (st.2 o), ev_rg (st.2 o), ev_ke (st.2 o), ev_kc (st.2 o)) from (by simp [ev_rvk, c_1] <;> rfl)]; exact hP) hS dX11_revoke_51
