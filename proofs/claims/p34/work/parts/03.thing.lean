/-! 03.thing: what a thing answers; nothing of it writes -/
theorem ev_n1 : nI 1 = 1 := rfl
theorem ev_n0 : nI 0 = 0 := rfl
def ev_told (t : ev_TH) (w : Nat) : Bool := decide (ev_an t w ≠ 1000000)
def ev_holds (t : ev_TH) (k : Nat) : Bool := decide (ev_rg t k ≠ -1)
def ev_can (t : ev_TH) (r k : Nat) : Bool := decide (ev_rg t k ≠ -1) && decide (ev_rg t k &&& nI r ≠ 0)
def ev_kOther (t : ev_TH) (k : Nat) (v : Int32) : Bool := ev_holds t k && !ev_can t 1 k && !ev_can t 4 k && decide (ev_va t k ≠ v)
def ev_kKey (t : ev_TH) (k : Nat) : Bool := ev_holds t k && (ev_cs t || !ev_can t 4 k)
def ev_allow (own rights : Int32) (same : Bool) : Bool := if rights &&& nI 4 ≠ 0 then false else if (rights ^^^ own) &&& nI 2 ≠ 0 then false else if own &&& nI 1 ≠ 0 then true else decide (rights &&& nI 1 = 0) && same
set_option maxHeartbeats 4000000 in
set_option maxRecDepth 100000 in
theorem c_X7_isProxy (l : Launch) {D : va_G} {cI cO : ClassId} {b : Nat → Nat} {ad : Nat → Nat → Nat} {st : ev_ST}  {i : Nat} {t : ev_TH} (hi : i < st.1) (ht : st.2 i = t) : Met l yX7_isProxy wsX7_isProxy ({ frames := 0, cells := 0, slots := 0, locals := 0 }) (ev_Pc D cI cO (ev_P D cI cO b ad st) [.ref (ad i 0)]) (ev_QV (some (.int (ev_bi ((ev_tg t).isSome))))) 0 0 ev_no := by
  refine ev_body (cc := cX7_isProxy) (maxL := 1) (ret := (some .boolean)) (by decide) rfl (Nat.le_of_ble_eq_true rfl) ?_
  intro p e s m args below meth c hx hb hr hml hown hts hlocks hnm hP hK ls hl
  have hl : lv_has ls 1 [(0, .ref (ad i 0))] := hl
  have hi7 : ∀ w ∈ wsX70, w ∈ wsX7_isProxy := by decide +kernel
  refine lv_aload_n hx hb dX7_isProxy_0 rfl (lv_at hl 0 rfl) ?_
  refine ev_get (v := ev_rf ad (ev_tg t)) hx hb hts hi7 hown hK hP hi ht 0 (by decide) (hts (.fieldLink RX7 9 "EventloopRow$Thing" "target" "LEventloopRow$Thing;") (by decide +kernel)) rfl dX7_isProxy_1 ?_
  refine eo_ifnull (tgt := 11) hx hb dX7_isProxy_4 (by decide) (fun c_1 => ?_) (fun j_2 c_1 => ?_)
  · -- null
    refine lv_iconst (v := nI 0) hx hb dX7_isProxy_11 (by decide) ?_
    exact er_bool hx hb hr hlocks (by simp [ev_bi, ev_n1, ev_n0, c_1]) dX7_isProxy_12
  · -- some
    refine lv_iconst (v := nI 1) hx hb dX7_isProxy_7 (by decide) ?_
    refine lv_goto (tgt := 12) hx hb dX7_isProxy_8 (by decide) ?_
    exact er_bool hx hb hr hlocks (by simp [ev_bi, ev_n1, ev_n0, c_1]) dX7_isProxy_12
set_option maxHeartbeats 4000000 in
set_option maxRecDepth 100000 in
theorem c_X7_answerTo (l : Launch) {D : va_G} {cI cO : ClassId} {b : Nat → Nat} {ad : Nat → Nat → Nat} {st : ev_ST}  {i : Nat} {t : ev_TH} (hi : i < st.1) (ht : st.2 i = t) {k : Nat} (hk : k < 4) : Met l yX7_answerTo wsX7_answerTo ({ frames := 0, cells := 0, slots := 0, locals := 0 }) (ev_Pc D cI cO (ev_P D cI cO b ad st) [.ref (ad i 0), .int (nI k)]) (ev_QV (some (.int (ev_an t k)))) 0 0 ev_no := by
  refine ev_body (cc := cX7_answerTo) (maxL := 2) (ret := (some .int)) (by decide) rfl (Nat.le_of_ble_eq_true rfl) ?_
  intro p e s m args below meth c hx hb hr hml hown hts hlocks hnm hP hK ls hl
  have hl : lv_has ls 2 [(0, .ref (ad i 0)), (1, .int (nI k))] := hl
  have hi7 : ∀ w ∈ wsX70, w ∈ wsX7_answerTo := by decide +kernel
  refine lv_iload_n hx hb dX7_answerTo_0 rfl (lv_at hl 1 rfl) ?_
  refine en_if_lt (tgt := 9) hx hb (by omega) dX7_answerTo_1 (by decide) ?_
  refine lv_iload_n hx hb dX7_answerTo_4 rfl (lv_at hl 1 rfl) ?_
  refine lv_iconst (v := nI 4) hx hb dX7_answerTo_5 (by decide) ?_
  refine en_icmp_lt (tgt := 14) hx hb (by omega) (by omega) dX7_answerTo_6 (by decide) (fun c_2 => ?_) (fun c_2 => by exfalso; omega)
  refine lv_aload_n hx hb dX7_answerTo_14 rfl (lv_at hl 0 rfl) ?_
  refine ev_get (v := .ref (ad i 1)) hx hb hts hi7 hown hK hP hi ht 1 (by decide) (hts (.fieldLink RX7 18 "EventloopRow$Thing" "answers" "[I") (by decide +kernel)) rfl dX7_answerTo_15 ?_
  refine lv_iload_n hx hb dX7_answerTo_18 rfl (lv_at hl 1 rfl) ?_
  refine ev_ald (t := t) hx hb hK hP hi ht 1 (by decide) rfl k (by omega) (by decide) dX7_answerTo_19 ?_
  exact er_int hx hb hr hlocks (by simp [ev_bi, ev_n1, ev_n0]) dX7_answerTo_20
set_option maxHeartbeats 4000000 in
set_option maxRecDepth 100000 in
theorem c_X7_isTold (l : Launch) {D : va_G} {cI cO : ClassId} {b : Nat → Nat} {ad : Nat → Nat → Nat} {st : ev_ST}  {i : Nat} {t : ev_TH} (hi : i < st.1) (ht : st.2 i = t) {k : Nat} (hk : k < 4) : Met l yX7_isTold wsX7_isTold ({ frames := 1, cells := 0, slots := 0, locals := 21 }) (ev_Pc D cI cO (ev_P D cI cO b ad st) [.ref (ad i 0), .int (nI k)]) (ev_QV (some (.int (ev_bi (ev_told t k))))) 0 0 ev_no := by
  refine ev_body (cc := cX7_isTold) (maxL := 2) (ret := (some .boolean)) (by decide) rfl (Nat.le_of_ble_eq_true rfl) ?_
  intro p e s m args below meth c hx hb hr hml hown hts hlocks hnm hP hK ls hl
  have hl : lv_has ls 2 [(0, .ref (ad i 0)), (1, .int (nI k))] := hl
  refine lv_aload_n hx hb dX7_isTold_0 rfl (lv_at hl 0 rfl) ?_
  refine lv_iload_n hx hb dX7_isTold_1 rfl (lv_at hl 1 rfl) ?_
  refine ev_cv (As := [.int (nI k)]) (rest := []) ⟨hx, hb, hml, hown, hts⟩ (c_X7_answerTo l hi ht (k := k) (by omega)) (cwV 1 hts gX7_isTold_X7_answerTo rfl rfl rfl (by decide +kernel) ⟨Nat.le_of_ble_eq_true rfl, Nat.le_of_ble_eq_true rfl⟩) hP hK (ev_recv hK hP hi) rfl hl.1 (Nat.le_of_ble_eq_true rfl) dX7_isTold_2 ⟨Nat.le_of_ble_eq_true rfl, Nat.le_of_ble_eq_true rfl⟩ ?_
  refine lv_ldc (v := 1000000) hx hb hown (hts (.constant RX7 31 (1000000)) (by decide +kernel)) dX7_isTold_5 ?_
  refine lv_icmp_eq (tgt := 14) hx hb dX7_isTold_7 (by decide) (fun c_1 => ?_) (fun c_1 => ?_)
  ·
    refine lv_iconst (v := nI 0) hx hb dX7_isTold_14 (by decide) ?_
    exact er_bool hx hb hr hlocks (by simp [ev_bi, ev_n1, ev_n0, ev_told, c_1]) dX7_isTold_15
  ·
    refine lv_iconst (v := nI 1) hx hb dX7_isTold_10 (by decide) ?_
    refine lv_goto (tgt := 15) hx hb dX7_isTold_11 (by decide) ?_
    exact er_bool hx hb hr hlocks (by simp [ev_bi, ev_n1, ev_n0, ev_told, c_1]) dX7_isTold_15
set_option maxHeartbeats 4000000 in
set_option maxRecDepth 100000 in
theorem c_X7_rightsOf (l : Launch) {D : va_G} {cI cO : ClassId} {b : Nat → Nat} {ad : Nat → Nat → Nat} {st : ev_ST}  {i : Nat} {t : ev_TH} (hi : i < st.1) (ht : st.2 i = t) {k : Nat} (hk : k < 20) : Met l yX7_rightsOf wsX7_rightsOf ({ frames := 0, cells := 0, slots := 0, locals := 0 }) (ev_Pc D cI cO (ev_P D cI cO b ad st) [.ref (ad i 0), .int (nI k)]) (ev_QV (some (.int (ev_rg t k)))) 0 0 ev_no := by
  refine ev_body (cc := cX7_rightsOf) (maxL := 2) (ret := (some .int)) (by decide) rfl (Nat.le_of_ble_eq_true rfl) ?_
  intro p e s m args below meth c hx hb hr hml hown hts hlocks hnm hP hK ls hl
  have hl : lv_has ls 2 [(0, .ref (ad i 0)), (1, .int (nI k))] := hl
  have hi7 : ∀ w ∈ wsX70, w ∈ wsX7_rightsOf := by decide +kernel
  refine lv_iload_n hx hb dX7_rightsOf_0 rfl (lv_at hl 1 rfl) ?_
  refine en_if_lt (tgt := 10) hx hb (by omega) dX7_rightsOf_1 (by decide) ?_
  refine lv_iload_n hx hb dX7_rightsOf_4 rfl (lv_at hl 1 rfl) ?_
  refine lv_bipush (v := nI 20) hx hb dX7_rightsOf_5 (by decide) ?_
  refine en_icmp_lt (tgt := 14) hx hb (by omega) (by omega) dX7_rightsOf_7 (by decide) (fun c_2 => ?_) (fun c_2 => by exfalso; omega)
  refine lv_aload_n hx hb dX7_rightsOf_14 rfl (lv_at hl 0 rfl) ?_
  refine ev_get (v := .ref (ad i 3)) hx hb hts hi7 hown hK hP hi ht 6 (by decide) (hts (.fieldLink RX7 25 "EventloopRow$Thing" "rightsRow" "[I") (by decide +kernel)) rfl dX7_rightsOf_15 ?_
  refine lv_iload_n hx hb dX7_rightsOf_18 rfl (lv_at hl 1 rfl) ?_
  refine ev_ald (t := t) hx hb hK hP hi ht 3 (by decide) rfl k (by omega) (by decide) dX7_rightsOf_19 ?_
  exact er_int hx hb hr hlocks (by simp [ev_bi, ev_n1, ev_n0]) dX7_rightsOf_20
set_option maxHeartbeats 4000000 in
set_option maxRecDepth 100000 in
theorem c_X7_valueOf (l : Launch) {D : va_G} {cI cO : ClassId} {b : Nat → Nat} {ad : Nat → Nat → Nat} {st : ev_ST}  {i : Nat} {t : ev_TH} (hi : i < st.1) (ht : st.2 i = t) {k : Nat} (hk : k < 20) : Met l yX7_valueOf wsX7_valueOf ({ frames := 0, cells := 0, slots := 0, locals := 0 }) (ev_Pc D cI cO (ev_P D cI cO b ad st) [.ref (ad i 0), .int (nI k)]) (ev_QV (some (.int (ev_va t k)))) 0 0 ev_no := by
  refine ev_body (cc := cX7_valueOf) (maxL := 2) (ret := (some .int)) (by decide) rfl (Nat.le_of_ble_eq_true rfl) ?_
  intro p e s m args below meth c hx hb hr hml hown hts hlocks hnm hP hK ls hl
  have hl : lv_has ls 2 [(0, .ref (ad i 0)), (1, .int (nI k))] := hl
  have hi7 : ∀ w ∈ wsX70, w ∈ wsX7_valueOf := by decide +kernel
  refine lv_iload_n hx hb dX7_valueOf_0 rfl (lv_at hl 1 rfl) ?_
  refine en_if_lt (tgt := 10) hx hb (by omega) dX7_valueOf_1 (by decide) ?_
  refine lv_iload_n hx hb dX7_valueOf_4 rfl (lv_at hl 1 rfl) ?_
  refine lv_bipush (v := nI 20) hx hb dX7_valueOf_5 (by decide) ?_
  refine en_icmp_lt (tgt := 14) hx hb (by omega) (by omega) dX7_valueOf_7 (by decide) (fun c_2 => ?_) (fun c_2 => by exfalso; omega)
  refine lv_aload_n hx hb dX7_valueOf_14 rfl (lv_at hl 0 rfl) ?_
  refine ev_get (v := .ref (ad i 2)) hx hb hts hi7 hown hK hP hi ht 5 (by decide) (hts (.fieldLink RX7 22 "EventloopRow$Thing" "values" "[I") (by decide +kernel)) rfl dX7_valueOf_15 ?_
  refine lv_iload_n hx hb dX7_valueOf_18 rfl (lv_at hl 1 rfl) ?_
  refine ev_ald (t := t) hx hb hK hP hi ht 2 (by decide) rfl k (by omega) (by decide) dX7_valueOf_19 ?_
  exact er_int hx hb hr hlocks (by simp [ev_bi, ev_n1, ev_n0]) dX7_valueOf_20
set_option maxHeartbeats 4000000 in
set_option maxRecDepth 100000 in
theorem c_X7_holds (l : Launch) {D : va_G} {cI cO : ClassId} {b : Nat → Nat} {ad : Nat → Nat → Nat} {st : ev_ST}  {i : Nat} {t : ev_TH} (hi : i < st.1) (ht : st.2 i = t) {k : Nat} (hk : k < 20) : Met l yX7_holds wsX7_holds ({ frames := 0, cells := 0, slots := 0, locals := 0 }) (ev_Pc D cI cO (ev_P D cI cO b ad st) [.ref (ad i 0), .int (nI k)]) (ev_QV (some (.int (ev_bi (ev_holds t k))))) 0 0 ev_no := by
  refine ev_body (cc := cX7_holds) (maxL := 2) (ret := (some .boolean)) (by decide) rfl (Nat.le_of_ble_eq_true rfl) ?_
  intro p e s m args below meth c hx hb hr hml hown hts hlocks hnm hP hK ls hl
  have hl : lv_has ls 2 [(0, .ref (ad i 0)), (1, .int (nI k))] := hl
  have hi7 : ∀ w ∈ wsX70, w ∈ wsX7_holds := by decide +kernel
  refine lv_iload_n hx hb dX7_holds_0 rfl (lv_at hl 1 rfl) ?_
  refine en_if_lt (tgt := 24) hx hb (by omega) dX7_holds_1 (by decide) ?_
  refine lv_iload_n hx hb dX7_holds_4 rfl (lv_at hl 1 rfl) ?_
  refine lv_bipush (v := nI 20) hx hb dX7_holds_5 (by decide) ?_
  refine en_icmp_ge (tgt := 24) hx hb (by omega) (by omega) dX7_holds_7 (by decide) (fun c_2 => by exfalso; omega) (fun c_2 => ?_)
  refine lv_aload_n hx hb dX7_holds_10 rfl (lv_at hl 0 rfl) ?_
  refine ev_get (v := .ref (ad i 3)) hx hb hts hi7 hown hK hP hi ht 6 (by decide) (hts (.fieldLink RX7 25 "EventloopRow$Thing" "rightsRow" "[I") (by decide +kernel)) rfl dX7_holds_11 ?_
  refine lv_iload_n hx hb dX7_holds_14 rfl (lv_at hl 1 rfl) ?_
  refine ev_ald (t := t) hx hb hK hP hi ht 3 (by decide) rfl k (by omega) (by decide) dX7_holds_15 ?_
  refine lv_iconst (v := -1) hx hb dX7_holds_16 (by decide) ?_
  refine lv_icmp_eq (tgt := 24) hx hb dX7_holds_17 (by decide) (fun c_3 => ?_) (fun c_3 => ?_)
  ·
    refine lv_iconst (v := nI 0) hx hb dX7_holds_24 (by decide) ?_
    exact er_bool hx hb hr hlocks (by simp [ev_bi, ev_n1, ev_n0, ev_holds, c_3]) dX7_holds_25
  ·
    refine lv_iconst (v := nI 1) hx hb dX7_holds_20 (by decide) ?_
    refine lv_goto (tgt := 25) hx hb dX7_holds_21 (by decide) ?_
    exact er_bool hx hb hr hlocks (by simp [ev_bi, ev_n1, ev_n0, ev_holds, c_3]) dX7_holds_25
set_option maxHeartbeats 4000000 in
set_option maxRecDepth 100000 in
theorem c_X7_canBe (l : Launch) {D : va_G} {cI cO : ClassId} {b : Nat → Nat} {ad : Nat → Nat → Nat} {st : ev_ST}  {i : Nat} {t : ev_TH} (hi : i < st.1) (ht : st.2 i = t) {r k : Nat} (hk : k < 20) : Met l yX7_canBe wsX7_canBe ({ frames := 0, cells := 0, slots := 0, locals := 0 }) (ev_Pc D cI cO (ev_P D cI cO b ad st) [.ref (ad i 0), .int (nI r), .int (nI k)]) (ev_QV (some (.int (ev_bi (ev_can t r k))))) 0 0 ev_no := by
  refine ev_body (cc := cX7_canBe) (maxL := 3) (ret := (some .boolean)) (by decide) rfl (Nat.le_of_ble_eq_true rfl) ?_
  intro p e s m args below meth c hx hb hr hml hown hts hlocks hnm hP hK ls hl
  have hl : lv_has ls 3 [(0, .ref (ad i 0)), (1, .int (nI r)), (2, .int (nI k))] := hl
  have hi7 : ∀ w ∈ wsX70, w ∈ wsX7_canBe := by decide +kernel
  refine lv_iload_n hx hb dX7_canBe_0 rfl (lv_at hl 2 rfl) ?_
  refine en_if_lt (tgt := 35) hx hb (by omega) dX7_canBe_1 (by decide) ?_
  refine lv_iload_n hx hb dX7_canBe_4 rfl (lv_at hl 2 rfl) ?_
  refine lv_bipush (v := nI 20) hx hb dX7_canBe_5 (by decide) ?_
  refine en_icmp_ge (tgt := 35) hx hb (by omega) (by omega) dX7_canBe_7 (by decide) (fun c_2 => by exfalso; omega) (fun c_2 => ?_)
  refine lv_aload_n hx hb dX7_canBe_10 rfl (lv_at hl 0 rfl) ?_
  refine ev_get (v := .ref (ad i 3)) hx hb hts hi7 hown hK hP hi ht 6 (by decide) (hts (.fieldLink RX7 25 "EventloopRow$Thing" "rightsRow" "[I") (by decide +kernel)) rfl dX7_canBe_11 ?_
  refine lv_iload_n hx hb dX7_canBe_14 rfl (lv_at hl 2 rfl) ?_
  refine ev_ald (t := t) hx hb hK hP hi ht 3 (by decide) rfl k (by omega) (by decide) dX7_canBe_15 ?_
  refine lv_iconst (v := -1) hx hb dX7_canBe_16 (by decide) ?_
  refine lv_icmp_eq (tgt := 35) hx hb dX7_canBe_17 (by decide) (fun c_3 => ?_) (fun c_3 => ?_)
  ·
    refine lv_iconst (v := nI 0) hx hb dX7_canBe_35 (by decide) ?_
    exact er_bool hx hb hr hlocks (by simp [ev_bi, ev_n1, ev_n0, ev_can, c_3]) dX7_canBe_36
  ·
    refine lv_aload_n hx hb dX7_canBe_20 rfl (lv_at hl 0 rfl) ?_
    refine ev_get (v := .ref (ad i 3)) hx hb hts hi7 hown hK hP hi ht 6 (by decide) (hts (.fieldLink RX7 25 "EventloopRow$Thing" "rightsRow" "[I") (by decide +kernel)) rfl dX7_canBe_21 ?_
    refine lv_iload_n hx hb dX7_canBe_24 rfl (lv_at hl 2 rfl) ?_
    refine ev_ald (t := t) hx hb hK hP hi ht 3 (by decide) rfl k (by omega) (by decide) dX7_canBe_25 ?_
    refine lv_iload_n hx hb dX7_canBe_26 rfl (lv_at hl 1 rfl) ?_
    refine lv_iand hx hb dX7_canBe_27 ?_
    refine lv_if_eq (tgt := 35) hx hb dX7_canBe_28 (by decide) (fun c_4 => ?_) (fun c_4 => ?_)
    ·
      refine lv_iconst (v := nI 0) hx hb dX7_canBe_35 (by decide) ?_
      exact er_bool hx hb hr hlocks (by simp [ev_bi, ev_n1, ev_n0, ev_can, c_3, c_4]) dX7_canBe_36
    ·
      refine lv_iconst (v := nI 1) hx hb dX7_canBe_31 (by decide) ?_
      refine lv_goto (tgt := 36) hx hb dX7_canBe_32 (by decide) ?_
      exact er_bool hx hb hr hlocks (by simp [ev_bi, ev_n1, ev_n0, ev_can, c_3, c_4]) dX7_canBe_36
set_option maxHeartbeats 4000000 in
set_option maxRecDepth 100000 in
theorem c_X7_keepsOther (l : Launch) {D : va_G} {cI cO : ClassId} {b : Nat → Nat} {ad : Nat → Nat → Nat} {st : ev_ST}  {i : Nat} {t : ev_TH} (hi : i < st.1) (ht : st.2 i = t) {k : Nat} {v : Int32} (hk : k < 20) : Met l yX7_keepsOther wsX7_keepsOther ({ frames := 1, cells := 0, slots := 0, locals := 22 }) (ev_Pc D cI cO (ev_P D cI cO b ad st) [.ref (ad i 0), .int (nI k), .int v]) (ev_QV (some (.int (ev_bi (ev_kOther t k v))))) 0 0 ev_no := by
  refine ev_body (cc := cX7_keepsOther) (maxL := 3) (ret := (some .boolean)) (by decide) rfl (Nat.le_of_ble_eq_true rfl) ?_
  intro p e s m args below meth c hx hb hr hml hown hts hlocks hnm hP hK ls hl
  have hl : lv_has ls 3 [(0, .ref (ad i 0)), (1, .int (nI k)), (2, .int v)] := hl
  refine lv_aload_n hx hb dX7_keepsOther_0 rfl (lv_at hl 0 rfl) ?_
  refine lv_iload_n hx hb dX7_keepsOther_1 rfl (lv_at hl 1 rfl) ?_
  refine ev_cv (As := [.int (nI k)]) (rest := []) ⟨hx, hb, hml, hown, hts⟩ (c_X7_holds l hi ht (k := k) (by omega)) (cwV 1 hts gX7_keepsOther_X7_holds rfl rfl rfl (by decide +kernel) ⟨Nat.le_of_ble_eq_true rfl, Nat.le_of_ble_eq_true rfl⟩) hP hK (ev_recv hK hP hi) rfl hl.1 (Nat.le_of_ble_eq_true rfl) dX7_keepsOther_2 ⟨Nat.le_of_ble_eq_true rfl, Nat.le_of_ble_eq_true rfl⟩ ?_
  refine eb_if_eq (tgt := 39) hx hb dX7_keepsOther_5 (by decide) (fun c_1 => ?_) (fun c_1 => ?_)
  ·
    refine lv_iconst (v := nI 0) hx hb dX7_keepsOther_39 (by decide) ?_
    exact er_bool hx hb hr hlocks (by simp [ev_bi, ev_n1, ev_n0, ev_kOther, c_1]) dX7_keepsOther_40
  ·
    refine lv_aload_n hx hb dX7_keepsOther_8 rfl (lv_at hl 0 rfl) ?_
    refine lv_iconst (v := nI 1) hx hb dX7_keepsOther_9 (by decide) ?_
    refine lv_iload_n hx hb dX7_keepsOther_10 rfl (lv_at hl 1 rfl) ?_
    refine ev_cv (As := [.int (nI 1), .int (nI k)]) (rest := []) ⟨hx, hb, hml, hown, hts⟩ (c_X7_canBe l hi ht (r := 1) (k := k) (by omega)) (cwV 2 hts gX7_keepsOther_X7_canBe rfl rfl rfl (by decide +kernel) ⟨Nat.le_of_ble_eq_true rfl, Nat.le_of_ble_eq_true rfl⟩) hP hK (ev_recv hK hP hi) rfl hl.1 (Nat.le_of_ble_eq_true rfl) dX7_keepsOther_11 ⟨Nat.le_of_ble_eq_true rfl, Nat.le_of_ble_eq_true rfl⟩ ?_
    refine eb_if_ne (tgt := 39) hx hb dX7_keepsOther_14 (by decide) (fun c_2 => ?_) (fun c_2 => ?_)
    ·
      refine lv_iconst (v := nI 0) hx hb dX7_keepsOther_39 (by decide) ?_
      exact er_bool hx hb hr hlocks (by simp [ev_bi, ev_n1, ev_n0, ev_kOther, c_1, c_2]) dX7_keepsOther_40
    ·
      refine lv_aload_n hx hb dX7_keepsOther_17 rfl (lv_at hl 0 rfl) ?_
      refine lv_iconst (v := nI 4) hx hb dX7_keepsOther_18 (by decide) ?_
      refine lv_iload_n hx hb dX7_keepsOther_19 rfl (lv_at hl 1 rfl) ?_
      refine ev_cv (As := [.int (nI 4), .int (nI k)]) (rest := []) ⟨hx, hb, hml, hown, hts⟩ (c_X7_canBe l hi ht (r := 4) (k := k) (by omega)) (cwV 2 hts gX7_keepsOther_X7_canBe rfl rfl rfl (by decide +kernel) ⟨Nat.le_of_ble_eq_true rfl, Nat.le_of_ble_eq_true rfl⟩) hP hK (ev_recv hK hP hi) rfl hl.1 (Nat.le_of_ble_eq_true rfl) dX7_keepsOther_20 ⟨Nat.le_of_ble_eq_true rfl, Nat.le_of_ble_eq_true rfl⟩ ?_
      refine eb_if_ne (tgt := 39) hx hb dX7_keepsOther_23 (by decide) (fun c_3 => ?_) (fun c_3 => ?_)
      ·
        refine lv_iconst (v := nI 0) hx hb dX7_keepsOther_39 (by decide) ?_
        exact er_bool hx hb hr hlocks (by simp [ev_bi, ev_n1, ev_n0, ev_kOther, c_1, c_2, c_3]) dX7_keepsOther_40
      ·
        refine lv_aload_n hx hb dX7_keepsOther_26 rfl (lv_at hl 0 rfl) ?_
        refine lv_iload_n hx hb dX7_keepsOther_27 rfl (lv_at hl 1 rfl) ?_
        refine ev_cv (As := [.int (nI k)]) (rest := []) ⟨hx, hb, hml, hown, hts⟩ (c_X7_valueOf l hi ht (k := k) (by omega)) (cwV 1 hts gX7_keepsOther_X7_valueOf rfl rfl rfl (by decide +kernel) ⟨Nat.le_of_ble_eq_true rfl, Nat.le_of_ble_eq_true rfl⟩) hP hK (ev_recv hK hP hi) rfl hl.1 (Nat.le_of_ble_eq_true rfl) dX7_keepsOther_28 ⟨Nat.le_of_ble_eq_true rfl, Nat.le_of_ble_eq_true rfl⟩ ?_
        refine lv_iload_n hx hb dX7_keepsOther_31 rfl (lv_at hl 2 rfl) ?_
        refine lv_icmp_eq (tgt := 39) hx hb dX7_keepsOther_32 (by decide) (fun c_4 => ?_) (fun c_4 => ?_)
        ·
          refine lv_iconst (v := nI 0) hx hb dX7_keepsOther_39 (by decide) ?_
          exact er_bool hx hb hr hlocks (by simp [ev_bi, ev_n1, ev_n0, ev_kOther, c_1, c_2, c_3, c_4]) dX7_keepsOther_40
        ·
          refine lv_iconst (v := nI 1) hx hb dX7_keepsOther_35 (by decide) ?_
          refine lv_goto (tgt := 40) hx hb dX7_keepsOther_36 (by decide) ?_
          exact er_bool hx hb hr hlocks (by simp [ev_bi, ev_n1, ev_n0, ev_kOther, c_1, c_2, c_3, c_4]) dX7_keepsOther_40
set_option maxHeartbeats 4000000 in
set_option maxRecDepth 100000 in
theorem c_X7_keepsKey (l : Launch) {D : va_G} {cI cO : ClassId} {b : Nat → Nat} {ad : Nat → Nat → Nat} {st : ev_ST}  {i : Nat} {t : ev_TH} (hi : i < st.1) (ht : st.2 i = t) {k : Nat} (hk : k < 20) : Met l yX7_keepsKey wsX7_keepsKey ({ frames := 1, cells := 0, slots := 0, locals := 22 }) (ev_Pc D cI cO (ev_P D cI cO b ad st) [.ref (ad i 0), .int (nI k)]) (ev_QV (some (.int (ev_bi (ev_kKey t k))))) 0 0 ev_no := by
  refine ev_body (cc := cX7_keepsKey) (maxL := 2) (ret := (some .boolean)) (by decide) rfl (Nat.le_of_ble_eq_true rfl) ?_
  intro p e s m args below meth c hx hb hr hml hown hts hlocks hnm hP hK ls hl
  have hl : lv_has ls 2 [(0, .ref (ad i 0)), (1, .int (nI k))] := hl
  have hi7 : ∀ w ∈ wsX70, w ∈ wsX7_keepsKey := by decide +kernel
  refine lv_aload_n hx hb dX7_keepsKey_0 rfl (lv_at hl 0 rfl) ?_
  refine lv_iload_n hx hb dX7_keepsKey_1 rfl (lv_at hl 1 rfl) ?_
  refine ev_cv (As := [.int (nI k)]) (rest := []) ⟨hx, hb, hml, hown, hts⟩ (c_X7_holds l hi ht (k := k) (by omega)) (cwV 1 hts gX7_keepsKey_X7_holds rfl rfl rfl (by decide +kernel) ⟨Nat.le_of_ble_eq_true rfl, Nat.le_of_ble_eq_true rfl⟩) hP hK (ev_recv hK hP hi) rfl hl.1 (Nat.le_of_ble_eq_true rfl) dX7_keepsKey_2 ⟨Nat.le_of_ble_eq_true rfl, Nat.le_of_ble_eq_true rfl⟩ ?_
  refine eb_if_eq (tgt := 28) hx hb dX7_keepsKey_5 (by decide) (fun c_1 => ?_) (fun c_1 => ?_)
  ·
    refine lv_iconst (v := nI 0) hx hb dX7_keepsKey_28 (by decide) ?_
    exact er_bool hx hb hr hlocks (by simp [ev_bi, ev_n1, ev_n0, ev_kKey, c_1]) dX7_keepsKey_29
  ·
    refine lv_aload_n hx hb dX7_keepsKey_8 rfl (lv_at hl 0 rfl) ?_
    refine ev_get (v := .int (ev_bi (ev_cs t))) hx hb hts hi7 hown hK hP hi ht 4 (by decide) (hts (.fieldLink RX7 53 "EventloopRow$Thing" "closed" "Z") (by decide +kernel)) rfl dX7_keepsKey_9 ?_
    refine eb_if_ne (tgt := 24) hx hb dX7_keepsKey_12 (by decide) (fun c_2 => ?_) (fun c_2 => ?_)
    ·
      refine lv_iconst (v := nI 1) hx hb dX7_keepsKey_24 (by decide) ?_
      refine lv_goto (tgt := 29) hx hb dX7_keepsKey_25 (by decide) ?_
      exact er_bool hx hb hr hlocks (by simp [ev_bi, ev_n1, ev_n0, ev_kKey, c_1, c_2]) dX7_keepsKey_29
    ·
      refine lv_aload_n hx hb dX7_keepsKey_15 rfl (lv_at hl 0 rfl) ?_
      refine lv_iconst (v := nI 4) hx hb dX7_keepsKey_16 (by decide) ?_
      refine lv_iload_n hx hb dX7_keepsKey_17 rfl (lv_at hl 1 rfl) ?_
      refine ev_cv (As := [.int (nI 4), .int (nI k)]) (rest := []) ⟨hx, hb, hml, hown, hts⟩ (c_X7_canBe l hi ht (r := 4) (k := k) (by omega)) (cwV 2 hts gX7_keepsKey_X7_canBe rfl rfl rfl (by decide +kernel) ⟨Nat.le_of_ble_eq_true rfl, Nat.le_of_ble_eq_true rfl⟩) hP hK (ev_recv hK hP hi) rfl hl.1 (Nat.le_of_ble_eq_true rfl) dX7_keepsKey_18 ⟨Nat.le_of_ble_eq_true rfl, Nat.le_of_ble_eq_true rfl⟩ ?_
      refine eb_if_ne (tgt := 28) hx hb dX7_keepsKey_21 (by decide) (fun c_3 => ?_) (fun c_3 => ?_)
      ·
        refine lv_iconst (v := nI 0) hx hb dX7_keepsKey_28 (by decide) ?_
        exact er_bool hx hb hr hlocks (by simp [ev_bi, ev_n1, ev_n0, ev_kKey, c_1, c_2, c_3]) dX7_keepsKey_29
      ·
        refine lv_iconst (v := nI 1) hx hb dX7_keepsKey_24 (by decide) ?_
        refine lv_goto (tgt := 29) hx hb dX7_keepsKey_25 (by decide) ?_
        exact er_bool hx hb hr hlocks (by simp [ev_bi, ev_n1, ev_n0, ev_kKey, c_1, c_2, c_3]) dX7_keepsKey_29
set_option maxHeartbeats 4000000 in
set_option maxRecDepth 100000 in
theorem c_X7_isAllowed (l : Launch) {D : va_G} {cI cO : ClassId} {b : Nat → Nat} {ad : Nat → Nat → Nat} {st : ev_ST}  {x y : Int32} {q : Bool} : Met l yX7_isAllowed wsX7_isAllowed ({ frames := 0, cells := 0, slots := 0, locals := 0 }) (ev_Pc D cI cO (ev_P D cI cO b ad st) [.int x, .int y, .int (ev_bi q)]) (ev_QV (some (.int (ev_bi (ev_allow x y q))))) 0 0 ev_no := by
  refine ev_body (cc := cX7_isAllowed) (maxL := 3) (ret := (some .boolean)) (by decide) rfl (Nat.le_of_ble_eq_true rfl) ?_
  intro p e s m args below meth c hx hb hr hml hown hts hlocks hnm hP hK ls hl
  have hl : lv_has ls 3 [(0, .int x), (1, .int y), (2, .int (ev_bi q))] := hl
  refine lv_iload_n hx hb dX7_isAllowed_0 rfl (lv_at hl 1 rfl) ?_
  refine lv_iconst (v := nI 4) hx hb dX7_isAllowed_1 (by decide) ?_
  refine lv_iand hx hb dX7_isAllowed_2 ?_
  refine lv_if_ne (tgt := 14) hx hb dX7_isAllowed_3 (by decide) (fun c_1 => ?_) (fun c_1 => ?_)
  ·
    refine lv_iconst (v := nI 0) hx hb dX7_isAllowed_14 (by decide) ?_
    exact er_bool hx hb hr hlocks (by simp [ev_allow, c_1] <;> rfl) dX7_isAllowed_15
  ·
    refine lv_iload_n hx hb dX7_isAllowed_6 rfl (lv_at hl 1 rfl) ?_
    refine lv_iload_n hx hb dX7_isAllowed_7 rfl (lv_at hl 0 rfl) ?_
    refine lv_ixor hx hb dX7_isAllowed_8 ?_
    refine lv_iconst (v := nI 2) hx hb dX7_isAllowed_9 (by decide) ?_
    refine lv_iand hx hb dX7_isAllowed_10 ?_
    refine lv_if_eq (tgt := 16) hx hb dX7_isAllowed_11 (by decide) (fun c_2 => ?_) (fun c_2 => ?_)
    ·
      refine lv_iload_n hx hb dX7_isAllowed_16 rfl (lv_at hl 0 rfl) ?_
      refine lv_iconst (v := nI 1) hx hb dX7_isAllowed_17 (by decide) ?_
      refine lv_iand hx hb dX7_isAllowed_18 ?_
      refine lv_if_ne (tgt := 32) hx hb dX7_isAllowed_19 (by decide) (fun c_3 => ?_) (fun c_3 => ?_)
      ·
        refine lv_iconst (v := nI 1) hx hb dX7_isAllowed_32 (by decide) ?_
        refine lv_goto (tgt := 37) hx hb dX7_isAllowed_33 (by decide) ?_
        exact er_bool hx hb hr hlocks (by simp [ev_allow, c_1, c_2, c_3] <;> rfl) dX7_isAllowed_37
      ·
        refine lv_iload_n hx hb dX7_isAllowed_22 rfl (lv_at hl 1 rfl) ?_
        refine lv_iconst (v := nI 1) hx hb dX7_isAllowed_23 (by decide) ?_
        refine lv_iand hx hb dX7_isAllowed_24 ?_
        refine lv_if_ne (tgt := 36) hx hb dX7_isAllowed_25 (by decide) (fun c_4 => ?_) (fun c_4 => ?_)
        ·
          refine lv_iconst (v := nI 0) hx hb dX7_isAllowed_36 (by decide) ?_
          exact er_bool hx hb hr hlocks (by simp [ev_allow, c_1, c_2, c_3, c_4] <;> rfl) dX7_isAllowed_37
        ·
          refine lv_iload_n hx hb dX7_isAllowed_28 rfl (lv_at hl 2 rfl) ?_
          refine eb_if_eq (tgt := 36) hx hb dX7_isAllowed_29 (by decide) (fun c_5 => ?_) (fun c_5 => ?_)
          ·
            refine lv_iconst (v := nI 0) hx hb dX7_isAllowed_36 (by decide) ?_
            exact er_bool hx hb hr hlocks (by simp [ev_allow, c_1, c_2, c_3, c_4, c_5] <;> rfl) dX7_isAllowed_37
          ·
            refine lv_iconst (v := nI 1) hx hb dX7_isAllowed_32 (by decide) ?_
            refine lv_goto (tgt := 37) hx hb dX7_isAllowed_33 (by decide) ?_
            exact er_bool hx hb hr hlocks (by simp [ev_allow, c_1, c_2, c_3, c_4, c_5] <;> rfl) dX7_isAllowed_37
    ·
      refine lv_iconst (v := nI 0) hx hb dX7_isAllowed_14 (by decide) ?_
      exact er_bool hx hb hr hlocks (by simp [ev_allow, c_1, c_2] <;> rfl) dX7_isAllowed_15
set_option maxHeartbeats 4000000 in
set_option maxRecDepth 100000 in
theorem c_X7_listedAt (l : Launch) {D : va_G} {cI cO : ClassId} {b : Nat → Nat} {ad : Nat → Nat → Nat} {st : ev_ST}  {i : Nat} {t : ev_TH} (hi : i < st.1) (ht : st.2 i = t) {j : Nat} (hc : ev_kc t ≤ 20) (hj : j < 2147483648) : Met l yX7_listedAt wsX7_listedAt ({ frames := 0, cells := 0, slots := 0, locals := 0 }) (ev_Pc D cI cO (ev_P D cI cO b ad st) [.ref (ad i 0), .int (nI j)]) (ev_QV (some (.int (if j < ev_kc t then ev_ke t j else -1)))) 0 0 ev_no := by
  refine ev_body (cc := cX7_listedAt) (maxL := 2) (ret := (some .int)) (by decide) rfl (Nat.le_of_ble_eq_true rfl) ?_
  intro p e s m args below meth c hx hb hr hml hown hts hlocks hnm hP hK ls hl
  have hl : lv_has ls 2 [(0, .ref (ad i 0)), (1, .int (nI j))] := hl
  have hi7 : ∀ w ∈ wsX70, w ∈ wsX7_listedAt := by decide +kernel
  refine lv_iload_n hx hb dX7_listedAt_0 rfl (lv_at hl 1 rfl) ?_
  refine en_if_lt (tgt := 18) hx hb (by omega) dX7_listedAt_1 (by decide) ?_
  refine lv_iload_n hx hb dX7_listedAt_4 rfl (lv_at hl 1 rfl) ?_
  refine lv_aload_n hx hb dX7_listedAt_5 rfl (lv_at hl 0 rfl) ?_
  refine ev_get (v := .int (nI (ev_kc t))) hx hb hts hi7 hown hK hP hi ht 8 (by decide) (hts (.fieldLink RX7 65 "EventloopRow$Thing" "keyCount" "I") (by decide +kernel)) rfl dX7_listedAt_6 ?_
  refine en_icmp_ge (tgt := 18) hx hb (by omega) (by omega) dX7_listedAt_9 (by decide) (fun c_2 => ?_) (fun c_2 => ?_)
  ·
    refine lv_iconst (v := -1) hx hb dX7_listedAt_18 (by decide) ?_
    refine lv_goto (tgt := 28) hx hb dX7_listedAt_19 (by decide) ?_
    exact er_int hx hb hr hlocks (by first | rfl | exact (if_pos (by omega)).symm | exact (if_neg (by omega)).symm) dX7_listedAt_28
  ·
    refine lv_iload_n hx hb dX7_listedAt_12 rfl (lv_at hl 1 rfl) ?_
    refine lv_bipush (v := nI 20) hx hb dX7_listedAt_13 (by decide) ?_
    refine en_icmp_lt (tgt := 22) hx hb (by omega) (by omega) dX7_listedAt_15 (by decide) (fun c_3 => ?_) (fun c_3 => by exfalso; omega)
    refine lv_aload_n hx hb dX7_listedAt_22 rfl (lv_at hl 0 rfl) ?_
    refine ev_get (v := .ref (ad i 4)) hx hb hts hi7 hown hK hP hi ht 7 (by decide) (hts (.fieldLink RX7 28 "EventloopRow$Thing" "keyRow" "[I") (by decide +kernel)) rfl dX7_listedAt_23 ?_
    refine lv_iload_n hx hb dX7_listedAt_26 rfl (lv_at hl 1 rfl) ?_
    refine ev_ald (t := t) hx hb hK hP hi ht 4 (by decide) rfl j (by omega) (by decide) dX7_listedAt_27 ?_
    exact er_int hx hb hr hlocks (by first | rfl | exact (if_pos (by omega)).symm | exact (if_neg (by omega)).symm) dX7_listedAt_28
set_option maxHeartbeats 4000000 in
set_option maxRecDepth 100000 in
theorem c_X7_listedAt_m (l : Launch) {D : va_G} {cI cO : ClassId} {b : Nat → Nat} {ad : Nat → Nat → Nat} {st : ev_ST}  {i : Nat} {t : ev_TH} (hi : i < st.1) (ht : st.2 i = t) : Met l yX7_listedAt wsX7_listedAt ({ frames := 0, cells := 0, slots := 0, locals := 0 }) (ev_Pc D cI cO (ev_P D cI cO b ad st) [.ref (ad i 0), .int (-1)]) (ev_QV (some (.int (-1)))) 0 0 ev_no := by
  refine ev_body (cc := cX7_listedAt) (maxL := 2) (ret := (some .int)) (by decide) rfl (Nat.le_of_ble_eq_true rfl) ?_
  intro p e s m args below meth c hx hb hr hml hown hts hlocks hnm hP hK ls hl
  have hl : lv_has ls 2 [(0, .ref (ad i 0)), (1, .int (-1))] := hl
  refine lv_iload_n hx hb dX7_listedAt_0 rfl (lv_at hl 1 rfl) ?_
  refine lv_if_lt (tgt := 18) hx hb dX7_listedAt_1 (by decide) (fun _ => ?_) (fun h => absurd h (by decide))
  refine lv_iconst (v := -1) hx hb dX7_listedAt_18 (by decide) ?_
  refine lv_goto (tgt := 28) hx hb dX7_listedAt_19 (by decide) ?_
  exact er_int hx hb hr hlocks rfl dX7_listedAt_28
