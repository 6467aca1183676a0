/-! 04.things: what Things answers without writing -/
def ev_pb (st : ev_ST) : Nat → Option Nat → Option Nat
  | 0, _ => none
  | _ + 1, none => none
  | n + 1, some i => if (ev_tg (st.2 i)).isSome then (if ev_rv (st.2 i) then ev_pb st n none else ev_pb st n (ev_tg (st.2 i))) else some i
theorem ev_pb_0 (st : ev_ST) (o : Option Nat) : ev_pb st 0 o = none := by cases o <;> rfl
theorem ev_pb_n (st : ev_ST) (n : Nat) : ev_pb st n none = none := by cases n <;> rfl
theorem ev_pb_lt {st : ev_ST} (hTG : ∀ i, i < st.1 → ∀ j, ev_tg (st.2 i) = some j → j < st.1) : ∀ (n : Nat) (o : Option Nat), (∀ j, o = some j → j < st.1) → ∀ j, ev_pb st n o = some j → j < st.1 := by
  intro n
  induction n with
  | zero => intro o _ j h; rw [ev_pb_0] at h; cases h
  | succ n ih =>
    intro o ho j h
    cases o with
    | none => rw [ev_pb_n] at h; cases h
    | some i =>
      unfold ev_pb at h
      split at h
      · split at h
        · rw [ev_pb_n] at h; cases h
        · exact ih _ (hTG _ (ho _ rfl)) j h
      · cases h; exact ho _ rfl
def ev_F : Int64 := 1099511627776
def ev_gf (st : ev_ST) (k : Nat) : Nat → Option Nat → Int64
  | 0, o => if o.isSome then ev_F else 0
  | _ + 1, none => 0
  | n + 1, some i => if (ev_tg (st.2 i)).isSome then
      (if ev_rv (st.2 i) then ev_F else if ev_told (st.2 i) 0 then
        (match ev_pb st 12 (ev_tg (st.2 i)) with
          | none => ev_F
          | some j => if ev_kOther (st.2 j) k (ev_an (st.2 i) 0) then ev_F else (ev_an (st.2 i) 0).toInt64)
        else ev_gf st k n (ev_tg (st.2 i)))
      else if ev_holds (st.2 i) k then (ev_va (st.2 i) k).toInt64 else ev_gf st k n (ev_ch (st.2 i))
def ev_yn (x : Nat) : Nat := if x = 0 then 110 else 121
def ev_af (st : ev_ST) (k : Nat) : Nat → Option Nat → Nat
  | 0, o => if o.isSome then 84 else 110
  | _ + 1, none => 110
  | n + 1, some i => if (ev_tg (st.2 i)).isSome then
      (if ev_rv (st.2 i) then 84 else if ev_told (st.2 i) 1 then
        (match ev_pb st 12 (ev_tg (st.2 i)) with
          | none => 84
          | some j => if ev_an (st.2 i) 1 = nI 1 then 121 else if ev_kKey (st.2 j) k then 84 else 110)
        else ev_af st k n (ev_tg (st.2 i)))
      else if ev_holds (st.2 i) k then 121 else ev_af st k n (ev_ch (st.2 i))
theorem ev_af_lt (st : ev_ST) (k : Nat) : ∀ (n : Nat) (o : Option Nat), ev_af st k n o < 65536 := by
  intro n
  induction n with
  | zero => intro o; cases o <;> simp [ev_af]
  | succ n ih =>
    intro o
    cases o with
    | none => simp [ev_af]
    | some i =>
      unfold ev_af
      split
      · split
        · decide
        · split
          · split
            · decide
            · split
              · decide
              · split <;> decide
          · exact ih _
      · split
        · decide
        · exact ih _
theorem ev_yn_lt (x : Nat) : ev_yn x < 65536 := by unfold ev_yn; split <;> decide
set_option maxHeartbeats 4000000 in
set_option maxRecDepth 100000 in
theorem c_X8_find (l : Launch) {D : va_G} {cI cO : ClassId} {b : Nat → Nat} {ad : Nat → Nat → Nat} {st : ev_ST}  (hn : st.1 ≤ 12) {j : Nat} (hj : j < 2147483648) : Met l yX8_find wsX8_find ({ frames := 0, cells := 0, slots := 0, locals := 0 }) (ev_Pc D cI cO (ev_P D cI cO b ad st) [.ref (b 1), .int (nI j)]) (ev_QV (some (ev_rf ad (if j < st.1 then some j else none)))) 0 0 ev_no := by
  refine ev_body (cc := cX8_find) (maxL := 2) (ret := (some (.object "EventloopRow$Thing"))) (by decide) rfl (Nat.le_of_ble_eq_true rfl) ?_
  intro p e s m args below meth c hx hb hr hml hown hts hlocks hnm hP hK ls hl
  have hl : lv_has ls 2 [(0, .ref (b 1)), (1, .int (nI j))] := hl
  have hi8 : ∀ w ∈ wsX80, w ∈ wsX8_find := by decide +kernel
  refine lv_iload_n hx hb dX8_find_0 rfl (lv_at hl 1 rfl) ?_
  refine en_if_lt (tgt := 18) hx hb (by omega) dX8_find_1 (by decide) ?_
  refine lv_iload_n hx hb dX8_find_4 rfl (lv_at hl 1 rfl) ?_
  refine lv_aload_n hx hb dX8_find_5 rfl (lv_at hl 0 rfl) ?_
  refine ev_row (v := .int (nI st.1)) hx hb hts hi8 hown hK hP 1 (by decide) (hts (.fieldLink RX8 17 "EventloopRow$Things" "count" "I") (by decide +kernel)) rfl dX8_find_6 ?_
  refine en_icmp_ge (tgt := 18) hx hb (by omega) (by omega) dX8_find_9 (by decide) (fun c_2 => ?_) (fun c_2 => ?_)
  ·
    refine lv_null hx hb dX8_find_18 ?_
    refine lv_goto (tgt := 28) hx hb dX8_find_19 (by decide) ?_
    exact er_ref (ad := ad) (y := none) hx hb hr hlocks (by first | exact (if_pos (by omega)).symm | exact (if_neg (by omega)).symm | (exfalso; omega)) dX8_find_28
  ·
    refine lv_iload_n hx hb dX8_find_12 rfl (lv_at hl 1 rfl) ?_
    refine lv_bipush (v := nI 12) hx hb dX8_find_13 (by decide) ?_
    refine en_icmp_lt (tgt := 22) hx hb (by omega) (by omega) dX8_find_15 (by decide) (fun c_3 => ?_) (fun c_3 => by exfalso; omega)
    refine lv_aload_n hx hb dX8_find_22 rfl (lv_at hl 0 rfl) ?_
    refine ev_row (v := .ref (b 2)) hx hb hts hi8 hown hK hP 0 (by decide) (hts (.fieldLink RX8 11 "EventloopRow$Things" "row" "[LEventloopRow$Thing;") (by decide +kernel)) rfl dX8_find_23 ?_
    refine lv_iload_n hx hb dX8_find_26 rfl (lv_at hl 1 rfl) ?_
    refine ev_rld hx hb hK hP j (by omega) (by omega) dX8_find_27 ?_
    have hi_4 : j < st.1 := by omega
    exact er_ref (ad := ad) (y := (some j)) hx hb hr hlocks (by first | exact (if_pos (by omega)).symm | exact (if_neg (by omega)).symm | (exfalso; omega)) dX8_find_28
set_option maxHeartbeats 4000000 in
set_option maxRecDepth 100000 in
theorem c_X8_find_m (l : Launch) {D : va_G} {cI cO : ClassId} {b : Nat → Nat} {ad : Nat → Nat → Nat} {st : ev_ST}  : Met l yX8_find wsX8_find ({ frames := 0, cells := 0, slots := 0, locals := 0 }) (ev_Pc D cI cO (ev_P D cI cO b ad st) [.ref (b 1), .int (-1)]) (ev_QV (some (ev_rf ad none))) 0 0 ev_no := by
  refine ev_body (cc := cX8_find) (maxL := 2) (ret := (some (.object "EventloopRow$Thing"))) (by decide) rfl (Nat.le_of_ble_eq_true rfl) ?_
  intro p e s m args below meth c hx hb hr hml hown hts hlocks hnm hP hK ls hl
  have hl : lv_has ls 2 [(0, .ref (b 1)), (1, .int (-1))] := hl
  refine lv_iload_n hx hb dX8_find_0 rfl (lv_at hl 1 rfl) ?_
  refine lv_if_lt (tgt := 18) hx hb dX8_find_1 (by decide) (fun _ => ?_) (fun h => absurd h (by decide))
  refine lv_null hx hb dX8_find_18 ?_
  refine lv_goto (tgt := 28) hx hb dX8_find_19 (by decide) ?_
  exact er_ref (ad := ad) (y := none) hx hb hr hlocks rfl dX8_find_28
set_option maxHeartbeats 4000000 in
set_option maxRecDepth 100000 in
theorem c_X8_isFull (l : Launch) {D : va_G} {cI cO : ClassId} {b : Nat → Nat} {ad : Nat → Nat → Nat} {st : ev_ST}  (hn : st.1 ≤ 12) : Met l yX8_isFull wsX8_isFull ({ frames := 0, cells := 0, slots := 0, locals := 0 }) (ev_Pc D cI cO (ev_P D cI cO b ad st) [.ref (b 1)]) (ev_QV (some (.int (ev_bi (decide (12 ≤ st.1)))))) 0 0 ev_no := by
  refine ev_body (cc := cX8_isFull) (maxL := 1) (ret := (some .boolean)) (by decide) rfl (Nat.le_of_ble_eq_true rfl) ?_
  intro p e s m args below meth c hx hb hr hml hown hts hlocks hnm hP hK ls hl
  have hl : lv_has ls 1 [(0, .ref (b 1))] := hl
  have hi8 : ∀ w ∈ wsX80, w ∈ wsX8_isFull := by decide +kernel
  refine lv_aload_n hx hb dX8_isFull_0 rfl (lv_at hl 0 rfl) ?_
  refine ev_row (v := .int (nI st.1)) hx hb hts hi8 hown hK hP 1 (by decide) (hts (.fieldLink RX8 17 "EventloopRow$Things" "count" "I") (by decide +kernel)) rfl dX8_isFull_1 ?_
  refine lv_bipush (v := nI 12) hx hb dX8_isFull_4 (by decide) ?_
  refine en_icmp_lt (tgt := 13) hx hb (by omega) (by omega) dX8_isFull_6 (by decide) (fun c_1 => ?_) (fun c_1 => ?_)
  ·
    refine lv_iconst (v := nI 0) hx hb dX8_isFull_13 (by decide) ?_
    exact er_bool hx hb hr hlocks (by simp [ev_bi, ev_n1, ev_n0]; omega) dX8_isFull_14
  ·
    refine lv_iconst (v := nI 1) hx hb dX8_isFull_9 (by decide) ?_
    refine lv_goto (tgt := 14) hx hb dX8_isFull_10 (by decide) ?_
    exact er_bool hx hb hr hlocks (by simp [ev_bi, ev_n1, ev_n0]; omega) dX8_isFull_14
set_option maxHeartbeats 4000000 in
set_option maxRecDepth 100000 in
theorem c_X8_yesOrNo (l : Launch) {D : va_G} {cI cO : ClassId} {b : Nat → Nat} {ad : Nat → Nat → Nat} {st : ev_ST}  {x : Nat} (hx1 : x ≤ 1) : Met l yX8_yesOrNo wsX8_yesOrNo ({ frames := 0, cells := 0, slots := 0, locals := 0 }) (ev_Pc D cI cO (ev_P D cI cO b ad st) [.int (nI x)]) (ev_QV (some (.int (nI (ev_yn x))))) 0 0 ev_no := by
  refine ev_body (cc := cX8_yesOrNo) (maxL := 1) (ret := (some .char)) (by decide) rfl (Nat.le_of_ble_eq_true rfl) ?_
  intro p e s m args below meth c hx hb hr hml hown hts hlocks hnm hP hK ls hl
  have hl : lv_has ls 1 [(0, .int (nI x))] := hl
  refine lv_iload_n hx hb dX8_yesOrNo_0 rfl (lv_at hl 0 rfl) ?_
  refine en_if_eq (tgt := 9) hx hb (by omega) dX8_yesOrNo_1 (by decide) (fun c_1 => ?_) (fun c_1 => ?_)
  ·
    refine lv_bipush (v := nI 110) hx hb dX8_yesOrNo_9 (by decide) ?_
    exact er_char hx hb hr hlocks (ev_yn_lt _) (by simp [ev_bi, ev_n1, ev_n0, ev_yn, c_1]) dX8_yesOrNo_11
  ·
    refine lv_bipush (v := nI 121) hx hb dX8_yesOrNo_4 (by decide) ?_
    refine lv_goto (tgt := 11) hx hb dX8_yesOrNo_6 (by decide) ?_
    exact er_char hx hb hr hlocks (ev_yn_lt _) (by simp [ev_bi, ev_n1, ev_n0, ev_yn, c_1]) dX8_yesOrNo_11
set_option maxHeartbeats 4000000 in
set_option maxRecDepth 100000 in
theorem c_X8_plainBehind (l : Launch) {D : va_G} {cI cO : ClassId} {b : Nat → Nat} {ad : Nat → Nat → Nat} {st : ev_ST}  (hn : st.1 ≤ 12) (hTG : ∀ i, i < st.1 → ∀ j, ev_tg (st.2 i) = some j → j < st.1) {i : Nat} (hi : i < st.1) : Met l yX8_plainBehind wsX8_plainBehind ({ frames := 1, cells := 0, slots := 0, locals := 20 }) (ev_Pc D cI cO (ev_P D cI cO b ad st) [.ref (b 1), .ref (ad i 0)]) (ev_QV (some (ev_rf ad (ev_pb st 12 (some i))))) 0 0 ev_no := by
  refine ev_body (cc := cX8_plainBehind) (maxL := 4) (ret := (some (.object "EventloopRow$Thing"))) (by decide) rfl (Nat.le_of_ble_eq_true rfl) ?_
  intro p e s m args below meth c hx hb hr hml hown hts hlocks hnm hP hK ls hl
  have hl : lv_has ls 4 [(0, .ref (b 1)), (1, .ref (ad i 0))] := hl
  have hi7 : ∀ w ∈ wsX70, w ∈ wsX8_plainBehind := by decide +kernel
  have LP : ∀ (n q : Nat) (o : Option Nat), q + n = 12 → (∀ j, o = some j → j < st.1) → ∀ ls : Array Slot, lv_has ls 4 [(0, .ref (b 1)), (1, .ref (ad i 0)), (2, ev_rf ad o), (3, .int (nI q))] → W p l e ({ frames := 1, cells := 0, slots := 0, locals := 20 }) s m args below meth c s.heap [] 0 0 (MQ below (ev_QV (some (ev_rf ad (ev_pb st n o)))) args s 0 0 ev_no) (F0 m 4 ls []) := by
    intro n
    induction n with
    | zero =>
      intro q o hq ho ls hl
      refine lv_iload_n hx hb dX8_plainBehind_4 rfl (lv_at hl 3 rfl) ?_
      refine lv_bipush (v := nI 12) hx hb dX8_plainBehind_5 (by decide) ?_
      refine en_icmp_ge (tgt := 45) hx hb (by omega) (by omega) dX8_plainBehind_7 (by decide) (fun c_1 => ?_) (fun c_1 => by exfalso; omega)
      refine lv_null hx hb dX8_plainBehind_45 ?_
      exact er_ref (ad := ad) (y := none) hx hb hr hlocks (by simp [ev_pb]) dX8_plainBehind_46
    | succ n ih =>
      intro q o hq ho ls hl
      cases o with
      | none =>
        have hl : lv_has ls 4 [(0, .ref (b 1)), (1, .ref (ad i 0)), (2, .null), (3, .int (nI q))] := hl
        refine lv_iload_n hx hb dX8_plainBehind_4 rfl (lv_at hl 3 rfl) ?_
        refine lv_bipush (v := nI 12) hx hb dX8_plainBehind_5 (by decide) ?_
        refine en_icmp_ge (tgt := 45) hx hb (by omega) (by omega) dX8_plainBehind_7 (by decide) (fun c_2 => by exfalso; omega) (fun c_2 => ?_)
        refine lv_aload_nN hx hb dX8_plainBehind_10 rfl (lv_at hl 2 rfl) ?_
        refine lv_ifnullN (tgt := 45) hx hb dX8_plainBehind_11 (by decide) ?_
        refine lv_null hx hb dX8_plainBehind_45 ?_
        exact er_ref (ad := ad) (y := none) hx hb hr hlocks (by simp [ev_pb]) dX8_plainBehind_46
      | some z =>
        have hz : z < st.1 := ho z rfl
        have hl : lv_has ls 4 [(0, .ref (b 1)), (1, .ref (ad i 0)), (2, .ref (ad z 0)), (3, .int (nI q))] := hl
        refine lv_iload_n hx hb dX8_plainBehind_4 rfl (lv_at hl 3 rfl) ?_
        refine lv_bipush (v := nI 12) hx hb dX8_plainBehind_5 (by decide) ?_
        refine en_icmp_ge (tgt := 45) hx hb (by omega) (by omega) dX8_plainBehind_7 (by decide) (fun c_3 => by exfalso; omega) (fun c_3 => ?_)
        refine lv_aload_n hx hb dX8_plainBehind_10 rfl (lv_at hl 2 rfl) ?_
        refine lv_ifnull hx hb dX8_plainBehind_11 ?_
        refine lv_aload_n hx hb dX8_plainBehind_14 rfl (lv_at hl 2 rfl) ?_
        refine ev_cv (As := []) (rest := []) ⟨hx, hb, hml, hown, hts⟩ (c_X7_isProxy l hz rfl) (cwV 0 hts gX8_plainBehind_X7_isProxy rfl rfl rfl (by decide +kernel) ⟨Nat.le_of_ble_eq_true rfl, Nat.le_of_ble_eq_true rfl⟩) hP hK (ev_recv hK hP hz) rfl hl.1 (Nat.le_of_ble_eq_true rfl) dX8_plainBehind_15 ⟨Nat.le_of_ble_eq_true rfl, Nat.le_of_ble_eq_true rfl⟩ ?_
        refine eb_if_ne (tgt := 23) hx hb dX8_plainBehind_18 (by decide) (fun c_4 => ?_) (fun c_4 => ?_)
        ·
          refine lv_aload_n hx hb dX8_plainBehind_23 rfl (lv_at hl 2 rfl) ?_
          refine ev_get (v := .int (ev_bi (ev_rv (st.2 z)))) hx hb hts hi7 hown hK hP hz rfl 2 (by decide) (hts (.fieldLink RX8 25 "EventloopRow$Thing" "revoked" "Z") (by decide +kernel)) rfl dX8_plainBehind_24 ?_
          refine eb_if_eq (tgt := 34) hx hb dX8_plainBehind_27 (by decide) (fun c_5 => ?_) (fun c_5 => ?_)
          ·
            refine lv_aload_n hx hb dX8_plainBehind_34 rfl (lv_at hl 2 rfl) ?_
            refine ev_get (v := ev_rf ad (ev_tg (st.2 z))) hx hb hts hi7 hown hK hP hz rfl 0 (by decide) (hts (.fieldLink RX8 29 "EventloopRow$Thing" "target" "LEventloopRow$Thing;") (by decide +kernel)) rfl dX8_plainBehind_35 ?_
            refine eo_astore_n (lv' := [(2, ev_rf ad (ev_tg (st.2 z))), (0, .ref (b 1)), (1, .ref (ad i 0)), (3, .int (nI q))]) hx hb dX8_plainBehind_38 rfl hl (by decide) rfl (fun ls hl => ?_)
            refine lv_iinc (v := nI (q + 1)) (lv' := [(3, .int (nI (q + 1))), (2, ev_rf ad (ev_tg (st.2 z))), (0, .ref (b 1)), (1, .ref (ad i 0))]) hx hb dX8_plainBehind_39 hl (k := 3) rfl (ev_inc1 _) (by decide) (by simp only [List.filter, ev_cat]; rfl) (fun ls hl => ?_)
            refine lv_goto (tgt := 4) hx hb dX8_plainBehind_42 (by decide) ?_
            rw [show ev_pb st (n + 1) (some z) = ev_pb st n (ev_tg (st.2 z)) from (by simp [ev_pb, c_4, c_5])]
            exact ih (q + 1) (ev_tg (st.2 z)) (by omega) (hTG z hz) ls (lv_sub hl [2, 3, 1, 0] rfl)
          ·
            refine lv_null hx hb dX8_plainBehind_30 ?_
            refine lv_goto (tgt := 38) hx hb dX8_plainBehind_31 (by decide) ?_
            refine lv_astore_nN (lv' := [(2, .null), (0, .ref (b 1)), (1, .ref (ad i 0)), (3, .int (nI q))]) hx hb dX8_plainBehind_38 rfl hl (by decide) rfl (fun ls hl => ?_)
            refine lv_iinc (v := nI (q + 1)) (lv' := [(3, .int (nI (q + 1))), (2, .null), (0, .ref (b 1)), (1, .ref (ad i 0))]) hx hb dX8_plainBehind_39 hl (k := 3) rfl (ev_inc1 _) (by decide) rfl (fun ls hl => ?_)
            refine lv_goto (tgt := 4) hx hb dX8_plainBehind_42 (by decide) ?_
            rw [show ev_pb st (n + 1) (some z) = ev_pb st n none from (by simp [ev_pb, c_4, c_5])]
            exact ih (q + 1) none (by omega) (fun _ h => by cases h) ls (lv_sub hl [2, 3, 1, 0] rfl)
        ·
          refine lv_aload_n hx hb dX8_plainBehind_21 rfl (lv_at hl 2 rfl) ?_
          exact er_ref (ad := ad) (y := (some z)) hx hb hr hlocks (by simp [ev_pb, c_4]) dX8_plainBehind_22
  refine lv_aload_n hx hb dX8_plainBehind_0 rfl (lv_at hl 1 rfl) ?_
  refine lv_astore_n (lv' := [(2, .ref (ad i 0)), (0, .ref (b 1)), (1, .ref (ad i 0))]) hx hb dX8_plainBehind_1 rfl hl (by decide) rfl (fun ls hl => ?_)
  refine lv_iconst (v := nI 0) hx hb dX8_plainBehind_2 (by decide) ?_
  refine lv_istore_n (lv' := [(3, .int (nI 0)), (2, .ref (ad i 0)), (0, .ref (b 1)), (1, .ref (ad i 0))]) hx hb dX8_plainBehind_3 rfl hl (by decide) rfl (fun ls hl => ?_)
  exact LP 12 0 (some i) rfl (fun _ h => by cases h; exact hi) ls (lv_sub hl [2, 3, 1, 0] rfl)
set_option maxHeartbeats 4000000 in
set_option maxRecDepth 100000 in
theorem c_X8_getFrom (l : Launch) {D : va_G} {cI cO : ClassId} {b : Nat → Nat} {ad : Nat → Nat → Nat} {st : ev_ST}  (hn : st.1 ≤ 12) (hTG : ∀ i, i < st.1 → ∀ j, ev_tg (st.2 i) = some j → j < st.1) (hCH : ∀ i, i < st.1 → ∀ j, ev_ch (st.2 i) = some j → j < st.1) {i k : Nat} (hi : i < st.1) (hk : k < 20) : Met l yX8_getFrom wsX8_getFrom ({ frames := 2, cells := 0, slots := 0, locals := 44 }) (ev_Pc D cI cO (ev_P D cI cO b ad st) [.ref (b 1), .ref (ad i 0), .int (nI k)]) (ev_QV (some (.long (ev_gf st k 30 (some i))))) 0 0 ev_no := by
  refine ev_body (cc := cX8_getFrom) (maxL := 7) (ret := (some .long)) (by decide) rfl (Nat.le_of_ble_eq_true rfl) ?_
  intro p e s m args below meth c hx hb hr hml hown hts hlocks hnm hP hK ls hl
  have hl : lv_has ls 7 [(0, .ref (b 1)), (1, .ref (ad i 0)), (2, .int (nI k))] := hl
  have hi7 : ∀ w ∈ wsX70, w ∈ wsX8_getFrom := by decide +kernel
  have LP : ∀ (n q : Nat) (o : Option Nat), q + n = 30 → (∀ j, o = some j → j < st.1) → ∀ ls : Array Slot, lv_has ls 7 [(0, .ref (b 1)), (1, .ref (ad i 0)), (2, .int (nI k)), (3, ev_rf ad o), (4, .int (nI q))] → W p l e ({ frames := 2, cells := 0, slots := 0, locals := 44 }) s m args below meth c s.heap [] 0 0 (MQ below (ev_QV (some (.long (ev_gf st k n o)))) args s 0 0 ev_no) (F0 m 5 ls []) := by
    intro n
    induction n with
    | zero =>
      intro q o hq ho ls hl
      refine lv_iload hx hb dX8_getFrom_5 (lv_at hl 4 rfl) ?_
      refine lv_bipush (v := nI 30) hx hb dX8_getFrom_7 (by decide) ?_
      refine en_icmp_ge (tgt := 119) hx hb (by omega) (by omega) dX8_getFrom_9 (by decide) (fun c_1 => ?_) (fun c_1 => by exfalso; omega)
      refine eo_aload_n hx hb dX8_getFrom_119 rfl (lv_at hl 3 rfl) ?_
      refine eo_ifnonnull (tgt := 127) hx hb dX8_getFrom_120 (by decide) (fun j_3 c_2 => ?_) (fun c_2 => ?_)
      · -- some
        subst c_2
        have hi_4 : j_3 < st.1 := ho _ rfl
        refine lv_ldc2 (v := 1099511627776) hx hb hown (hts (.constantLong RX8 33 (1099511627776)) (by decide +kernel)) dX8_getFrom_127 ?_
        exact er_long hx hb hr hlocks (by simp [ev_gf, ev_F]) dX8_getFrom_130
      · -- null
        subst c_2
        refine lv_lconst (v := 0) hx hb dX8_getFrom_123 (by decide) ?_
        refine lv_goto (tgt := 130) hx hb dX8_getFrom_124 (by decide) ?_
        exact er_long hx hb hr hlocks (by simp [ev_gf, ev_F]) dX8_getFrom_130
    | succ n ih =>
      intro q o hq ho ls hl
      cases o with
      | none =>
        have hl : lv_has ls 7 [(0, .ref (b 1)), (1, .ref (ad i 0)), (2, .int (nI k)), (3, .null), (4, .int (nI q))] := hl
        refine lv_iload hx hb dX8_getFrom_5 (lv_at hl 4 rfl) ?_
        refine lv_bipush (v := nI 30) hx hb dX8_getFrom_7 (by decide) ?_
        refine en_icmp_ge (tgt := 119) hx hb (by omega) (by omega) dX8_getFrom_9 (by decide) (fun c_5 => by exfalso; omega) (fun c_5 => ?_)
        refine lv_aload_nN hx hb dX8_getFrom_12 rfl (lv_at hl 3 rfl) ?_
        refine lv_ifnullN (tgt := 119) hx hb dX8_getFrom_13 (by decide) ?_
        refine lv_aload_nN hx hb dX8_getFrom_119 rfl (lv_at hl 3 rfl) ?_
        refine lv_ifnonnullN hx hb dX8_getFrom_120 ?_
        refine lv_lconst (v := 0) hx hb dX8_getFrom_123 (by decide) ?_
        refine lv_goto (tgt := 130) hx hb dX8_getFrom_124 (by decide) ?_
        exact er_long hx hb hr hlocks (by simp [ev_gf, ev_F]) dX8_getFrom_130
      | some z =>
        have hz : z < st.1 := ho z rfl
        have hl : lv_has ls 7 [(0, .ref (b 1)), (1, .ref (ad i 0)), (2, .int (nI k)), (3, .ref (ad z 0)), (4, .int (nI q))] := hl
        refine lv_iload hx hb dX8_getFrom_5 (lv_at hl 4 rfl) ?_
        refine lv_bipush (v := nI 30) hx hb dX8_getFrom_7 (by decide) ?_
        refine en_icmp_ge (tgt := 119) hx hb (by omega) (by omega) dX8_getFrom_9 (by decide) (fun c_6 => by exfalso; omega) (fun c_6 => ?_)
        refine lv_aload_n hx hb dX8_getFrom_12 rfl (lv_at hl 3 rfl) ?_
        refine lv_ifnull hx hb dX8_getFrom_13 ?_
        refine lv_aload_n hx hb dX8_getFrom_16 rfl (lv_at hl 3 rfl) ?_
        refine ev_cv (As := []) (rest := []) ⟨hx, hb, hml, hown, hts⟩ (c_X7_isProxy l hz rfl) (cwV 0 hts gX8_getFrom_X7_isProxy rfl rfl rfl (by decide +kernel) ⟨Nat.le_of_ble_eq_true rfl, Nat.le_of_ble_eq_true rfl⟩) hP hK (ev_recv hK hP hz) rfl hl.1 (Nat.le_of_ble_eq_true rfl) dX8_getFrom_17 ⟨Nat.le_of_ble_eq_true rfl, Nat.le_of_ble_eq_true rfl⟩ ?_
        refine eb_if_eq (tgt := 93) hx hb dX8_getFrom_20 (by decide) (fun c_7 => ?_) (fun c_7 => ?_)
        ·
          refine lv_aload_n hx hb dX8_getFrom_93 rfl (lv_at hl 3 rfl) ?_
          refine lv_iload_n hx hb dX8_getFrom_94 rfl (lv_at hl 2 rfl) ?_
          refine ev_cv (As := [.int (nI k)]) (rest := []) ⟨hx, hb, hml, hown, hts⟩ (c_X7_holds l hz rfl (k := k) (by omega)) (cwV 1 hts gX8_getFrom_X7_holds rfl rfl rfl (by decide +kernel) ⟨Nat.le_of_ble_eq_true rfl, Nat.le_of_ble_eq_true rfl⟩) hP hK (ev_recv hK hP hz) rfl hl.1 (Nat.le_of_ble_eq_true rfl) dX8_getFrom_95 ⟨Nat.le_of_ble_eq_true rfl, Nat.le_of_ble_eq_true rfl⟩ ?_
          refine eb_if_eq (tgt := 108) hx hb dX8_getFrom_98 (by decide) (fun c_8 => ?_) (fun c_8 => ?_)
          ·
            refine lv_aload_n hx hb dX8_getFrom_108 rfl (lv_at hl 3 rfl) ?_
            refine ev_get (v := ev_rf ad (ev_ch (st.2 z))) hx hb hts hi7 hown hK hP hz rfl 3 (by decide) (hts (.fieldLink RX8 57 "EventloopRow$Thing" "chain" "LEventloopRow$Thing;") (by decide +kernel)) rfl dX8_getFrom_109 ?_
            refine eo_astore_n (lv' := [(3, ev_rf ad (ev_ch (st.2 z))), (0, .ref (b 1)), (1, .ref (ad i 0)), (2, .int (nI k)), (4, .int (nI q))]) hx hb dX8_getFrom_112 rfl hl (by decide) rfl (fun ls hl => ?_)
            refine lv_iinc (v := nI (q + 1)) (lv' := [(4, .int (nI (q + 1))), (3, ev_rf ad (ev_ch (st.2 z))), (0, .ref (b 1)), (1, .ref (ad i 0)), (2, .int (nI k))]) hx hb dX8_getFrom_113 hl (k := 4) rfl (ev_inc1 _) (by decide) (by simp only [List.filter, ev_cat]; rfl) (fun ls hl => ?_)
            refine lv_goto (tgt := 5) hx hb dX8_getFrom_116 (by decide) ?_
            rw [show ev_gf st k (n + 1) (some z) = ev_gf st k n (ev_ch (st.2 z)) from (by simp [ev_gf, ev_F, c_7, c_8])]
            exact ih (q + 1) (ev_ch (st.2 z)) (by omega) (hCH z hz) ls (lv_sub hl [2, 3, 4, 1, 0] rfl)
          ·
            refine lv_aload_n hx hb dX8_getFrom_101 rfl (lv_at hl 3 rfl) ?_
            refine lv_iload_n hx hb dX8_getFrom_102 rfl (lv_at hl 2 rfl) ?_
            refine ev_cv (As := [.int (nI k)]) (rest := []) ⟨hx, hb, hml, hown, hts⟩ (c_X7_valueOf l hz rfl (k := k) (by omega)) (cwV 1 hts gX8_getFrom_X7_valueOf rfl rfl rfl (by decide +kernel) ⟨Nat.le_of_ble_eq_true rfl, Nat.le_of_ble_eq_true rfl⟩) hP hK (ev_recv hK hP hz) rfl hl.1 (Nat.le_of_ble_eq_true rfl) dX8_getFrom_103 ⟨Nat.le_of_ble_eq_true rfl, Nat.le_of_ble_eq_true rfl⟩ ?_
            refine lv_i2l hx hb dX8_getFrom_106 rfl ?_
            exact er_long hx hb hr hlocks (by simp [ev_gf, ev_F, c_7, c_8]) dX8_getFrom_107
        ·
          refine lv_aload_n hx hb dX8_getFrom_23 rfl (lv_at hl 3 rfl) ?_
          refine ev_get (v := .int (ev_bi (ev_rv (st.2 z)))) hx hb hts hi7 hown hK hP hz rfl 2 (by decide) (hts (.fieldLink RX8 25 "EventloopRow$Thing" "revoked" "Z") (by decide +kernel)) rfl dX8_getFrom_24 ?_
          refine eb_if_eq (tgt := 34) hx hb dX8_getFrom_27 (by decide) (fun c_9 => ?_) (fun c_9 => ?_)
          ·
            refine lv_aload_n hx hb dX8_getFrom_34 rfl (lv_at hl 3 rfl) ?_
            refine lv_iconst (v := nI 0) hx hb dX8_getFrom_35 (by decide) ?_
            refine ev_cv (As := [.int (nI 0)]) (rest := []) ⟨hx, hb, hml, hown, hts⟩ (c_X7_isTold l hz rfl (k := 0) (by omega)) (cwV 1 hts gX8_getFrom_X7_isTold rfl rfl rfl (by decide +kernel) ⟨Nat.le_of_ble_eq_true rfl, Nat.le_of_ble_eq_true rfl⟩) hP hK (ev_recv hK hP hz) rfl hl.1 (Nat.le_of_ble_eq_true rfl) dX8_getFrom_36 ⟨Nat.le_of_ble_eq_true rfl, Nat.le_of_ble_eq_true rfl⟩ ?_
            refine eb_if_eq (tgt := 85) hx hb dX8_getFrom_39 (by decide) (fun c_10 => ?_) (fun c_10 => ?_)
            ·
              refine lv_aload_n hx hb dX8_getFrom_85 rfl (lv_at hl 3 rfl) ?_
              refine ev_get (v := ev_rf ad (ev_tg (st.2 z))) hx hb hts hi7 hown hK hP hz rfl 0 (by decide) (hts (.fieldLink RX8 29 "EventloopRow$Thing" "target" "LEventloopRow$Thing;") (by decide +kernel)) rfl dX8_getFrom_86 ?_
              refine eo_astore_n (lv' := [(3, ev_rf ad (ev_tg (st.2 z))), (0, .ref (b 1)), (1, .ref (ad i 0)), (2, .int (nI k)), (4, .int (nI q))]) hx hb dX8_getFrom_89 rfl hl (by decide) rfl (fun ls hl => ?_)
              refine lv_goto (tgt := 113) hx hb dX8_getFrom_90 (by decide) ?_
              refine lv_iinc (v := nI (q + 1)) (lv' := [(4, .int (nI (q + 1))), (3, ev_rf ad (ev_tg (st.2 z))), (0, .ref (b 1)), (1, .ref (ad i 0)), (2, .int (nI k))]) hx hb dX8_getFrom_113 hl (k := 4) rfl (ev_inc1 _) (by decide) (by simp only [List.filter, ev_cat]; rfl) (fun ls hl => ?_)
              refine lv_goto (tgt := 5) hx hb dX8_getFrom_116 (by decide) ?_
              rw [show ev_gf st k (n + 1) (some z) = ev_gf st k n (ev_tg (st.2 z)) from (by simp [ev_gf, ev_F, c_7, c_9, c_10])]
              exact ih (q + 1) (ev_tg (st.2 z)) (by omega) (hTG z hz) ls (lv_sub hl [2, 3, 4, 1, 0] rfl)
            ·
              refine lv_aload_n hx hb dX8_getFrom_42 rfl (lv_at hl 3 rfl) ?_
              refine lv_iconst (v := nI 0) hx hb dX8_getFrom_43 (by decide) ?_
              refine ev_cv (As := [.int (nI 0)]) (rest := []) ⟨hx, hb, hml, hown, hts⟩ (c_X7_answerTo l hz rfl (k := 0) (by omega)) (cwV 1 hts gX8_getFrom_X7_answerTo rfl rfl rfl (by decide +kernel) ⟨Nat.le_of_ble_eq_true rfl, Nat.le_of_ble_eq_true rfl⟩) hP hK (ev_recv hK hP hz) rfl hl.1 (Nat.le_of_ble_eq_true rfl) dX8_getFrom_44 ⟨Nat.le_of_ble_eq_true rfl, Nat.le_of_ble_eq_true rfl⟩ ?_
              refine lv_istore (lv' := [(5, .int (ev_an (st.2 z) 0)), (0, .ref (b 1)), (1, .ref (ad i 0)), (2, .int (nI k)), (3, .ref (ad z 0)), (4, .int (nI q))]) hx hb dX8_getFrom_47 hl (by decide) rfl (fun ls hl => ?_)
              refine lv_aload_n hx hb dX8_getFrom_49 rfl (lv_at hl 1 rfl) ?_
              refine lv_aload_n hx hb dX8_getFrom_50 rfl (lv_at hl 4 rfl) ?_
              refine ev_get (v := ev_rf ad (ev_tg (st.2 z))) hx hb hts hi7 hown hK hP hz rfl 0 (by decide) (hts (.fieldLink RX8 29 "EventloopRow$Thing" "target" "LEventloopRow$Thing;") (by decide +kernel)) rfl dX8_getFrom_51 ?_
              obtain ⟨j_11, e_12⟩ := Option.isSome_iff_exists.mp c_7
              rw [e_12]
              have hi_13 : j_11 < st.1 := (hTG z hz) _ e_12
              refine ev_cv (As := [.ref (ad j_11 0)]) (rest := []) ⟨hx, hb, hml, hown, hts⟩ (c_X8_plainBehind l hn hTG hi_13) (cwV 1 hts gX8_getFrom_X8_plainBehind rfl rfl rfl (by decide +kernel) ⟨Nat.le_of_ble_eq_true rfl, Nat.le_of_ble_eq_true rfl⟩) hP hK (ev_recvT hK hP) rfl hl.1 (Nat.le_of_ble_eq_true rfl) dX8_getFrom_54 ⟨Nat.le_of_ble_eq_true rfl, Nat.le_of_ble_eq_true rfl⟩ ?_
              refine eo_astore (lv' := [(6, ev_rf ad (ev_pb st 12 (some j_11))), (5, .int (ev_an (st.2 z) 0)), (0, .ref (b 1)), (1, .ref (ad i 0)), (2, .int (nI k)), (3, .ref (ad z 0)), (4, .int (nI q))]) hx hb dX8_getFrom_57 hl (by decide) rfl (fun ls hl => ?_)
              refine eo_aload hx hb dX8_getFrom_59 (lv_at hl 0 rfl) ?_
              refine eo_ifnull (tgt := 75) hx hb dX8_getFrom_61 (by decide) (fun c_14 => ?_) (fun j_15 c_14 => ?_)
              · -- null
                rw [c_14] at hl
                have hl : lv_has ls 7 [(6, .null), (5, .int (ev_an (st.2 z) 0)), (0, .ref (b 1)), (1, .ref (ad i 0)), (2, .int (nI k)), (3, .ref (ad z 0)), (4, .int (nI q))] := hl
                refine lv_ldc2 (v := 1099511627776) hx hb hown (hts (.constantLong RX8 33 (1099511627776)) (by decide +kernel)) dX8_getFrom_75 ?_
                refine lv_goto (tgt := 84) hx hb dX8_getFrom_78 (by decide) ?_
                exact er_long hx hb hr hlocks (by simp [ev_gf, ev_F, c_7, c_9, c_10, e_12, c_14]) dX8_getFrom_84
              · -- some
                rw [c_14] at hl
                have hi_16 : j_15 < st.1 := (ev_pb_lt hTG 12 (some j_11) (fun _ h => by cases h; exact hi_13)) _ c_14
                have hl : lv_has ls 7 [(6, .ref (ad j_15 0)), (5, .int (ev_an (st.2 z) 0)), (0, .ref (b 1)), (1, .ref (ad i 0)), (2, .int (nI k)), (3, .ref (ad z 0)), (4, .int (nI q))] := hl
                refine lv_aload hx hb dX8_getFrom_64 (lv_at hl 0 rfl) ?_
                refine lv_iload_n hx hb dX8_getFrom_66 rfl (lv_at hl 4 rfl) ?_
                refine lv_iload hx hb dX8_getFrom_67 (lv_at hl 1 rfl) ?_
                refine ev_cv (As := [.int (nI k), .int (ev_an (st.2 z) 0)]) (rest := []) ⟨hx, hb, hml, hown, hts⟩ (c_X7_keepsOther l hi_16 rfl (k := k) (v := (ev_an (st.2 z) 0)) (by omega)) (cwV 2 hts gX8_getFrom_X7_keepsOther rfl rfl rfl (by decide +kernel) ⟨Nat.le_of_ble_eq_true rfl, Nat.le_of_ble_eq_true rfl⟩) hP hK (ev_recv hK hP hi_16) rfl hl.1 (Nat.le_of_ble_eq_true rfl) dX8_getFrom_69 ⟨Nat.le_of_ble_eq_true rfl, Nat.le_of_ble_eq_true rfl⟩ ?_
                refine eb_if_eq (tgt := 81) hx hb dX8_getFrom_72 (by decide) (fun c_17 => ?_) (fun c_17 => ?_)
                ·
                  refine lv_iload hx hb dX8_getFrom_81 (lv_at hl 1 rfl) ?_
                  refine lv_i2l hx hb dX8_getFrom_83 rfl ?_
                  exact er_long hx hb hr hlocks (by simp [ev_gf, ev_F, c_7, c_9, c_10, e_12, c_14, c_17]) dX8_getFrom_84
                ·
                  refine lv_ldc2 (v := 1099511627776) hx hb hown (hts (.constantLong RX8 33 (1099511627776)) (by decide +kernel)) dX8_getFrom_75 ?_
                  refine lv_goto (tgt := 84) hx hb dX8_getFrom_78 (by decide) ?_
                  exact er_long hx hb hr hlocks (by simp [ev_gf, ev_F, c_7, c_9, c_10, e_12, c_14, c_17]) dX8_getFrom_84
          ·
            refine lv_ldc2 (v := 1099511627776) hx hb hown (hts (.constantLong RX8 33 (1099511627776)) (by decide +kernel)) dX8_getFrom_30 ?_
            exact er_long hx hb hr hlocks (by simp [ev_gf, ev_F, c_7, c_9]) dX8_getFrom_33
  refine lv_aload_n hx hb dX8_getFrom_0 rfl (lv_at hl 1 rfl) ?_
  refine lv_astore_n (lv' := [(3, .ref (ad i 0)), (0, .ref (b 1)), (1, .ref (ad i 0)), (2, .int (nI k))]) hx hb dX8_getFrom_1 rfl hl (by decide) rfl (fun ls hl => ?_)
  refine lv_iconst (v := nI 0) hx hb dX8_getFrom_2 (by decide) ?_
  refine lv_istore (lv' := [(4, .int (nI 0)), (3, .ref (ad i 0)), (0, .ref (b 1)), (1, .ref (ad i 0)), (2, .int (nI k))]) hx hb dX8_getFrom_3 hl (by decide) rfl (fun ls hl => ?_)
  exact LP 30 0 (some i) rfl (fun _ h => by cases h; exact hi) ls (lv_sub hl [2, 3, 4, 1, 0] rfl)
set_option maxHeartbeats 4000000 in
set_option maxRecDepth 100000 in
theorem c_X8_askFrom (l : Launch) {D : va_G} {cI cO : ClassId} {b : Nat → Nat} {ad : Nat → Nat → Nat} {st : ev_ST}  (hn : st.1 ≤ 12) (hTG : ∀ i, i < st.1 → ∀ j, ev_tg (st.2 i) = some j → j < st.1) (hCH : ∀ i, i < st.1 → ∀ j, ev_ch (st.2 i) = some j → j < st.1) {i k : Nat} (hi : i < st.1) (hk : k < 20) : Met l yX8_askFrom wsX8_askFrom ({ frames := 2, cells := 0, slots := 0, locals := 43 }) (ev_Pc D cI cO (ev_P D cI cO b ad st) [.ref (b 1), .ref (ad i 0), .int (nI k)]) (ev_QV (some (.int (nI (ev_af st k 30 (some i)))))) 0 0 ev_no := by
  refine ev_body (cc := cX8_askFrom) (maxL := 7) (ret := (some .char)) (by decide) rfl (Nat.le_of_ble_eq_true rfl) ?_
  intro p e s m args below meth c hx hb hr hml hown hts hlocks hnm hP hK ls hl
  have hl : lv_has ls 7 [(0, .ref (b 1)), (1, .ref (ad i 0)), (2, .int (nI k))] := hl
  have hi7 : ∀ w ∈ wsX70, w ∈ wsX8_askFrom := by decide +kernel
  have LP : ∀ (n q : Nat) (o : Option Nat), q + n = 30 → (∀ j, o = some j → j < st.1) → ∀ ls : Array Slot, lv_has ls 7 [(0, .ref (b 1)), (1, .ref (ad i 0)), (2, .int (nI k)), (3, ev_rf ad o), (4, .int (nI q))] → W p l e ({ frames := 2, cells := 0, slots := 0, locals := 43 }) s m args below meth c s.heap [] 0 0 (MQ below (ev_QV (some (.int (nI (ev_af st k n o))))) args s 0 0 ev_no) (F0 m 5 ls []) := by
    intro n
    induction n with
    | zero =>
      intro q o hq ho ls hl
      refine lv_iload hx hb dX8_askFrom_5 (lv_at hl 4 rfl) ?_
      refine lv_bipush (v := nI 30) hx hb dX8_askFrom_7 (by decide) ?_
      refine en_icmp_ge (tgt := 127) hx hb (by omega) (by omega) dX8_askFrom_9 (by decide) (fun c_1 => ?_) (fun c_1 => by exfalso; omega)
      refine eo_aload_n hx hb dX8_askFrom_127 rfl (lv_at hl 3 rfl) ?_
      refine eo_ifnonnull (tgt := 136) hx hb dX8_askFrom_128 (by decide) (fun j_3 c_2 => ?_) (fun c_2 => ?_)
      · -- some
        subst c_2
        have hi_4 : j_3 < st.1 := ho _ rfl
        refine lv_bipush (v := nI 84) hx hb dX8_askFrom_136 (by decide) ?_
        exact er_char hx hb hr hlocks (ev_af_lt _ _ _ _) (by simp [ev_af, ev_yn]) dX8_askFrom_138
      · -- null
        subst c_2
        refine lv_bipush (v := nI 110) hx hb dX8_askFrom_131 (by decide) ?_
        refine lv_goto (tgt := 138) hx hb dX8_askFrom_133 (by decide) ?_
        exact er_char hx hb hr hlocks (ev_af_lt _ _ _ _) (by simp [ev_af, ev_yn]) dX8_askFrom_138
    | succ n ih =>
      intro q o hq ho ls hl
      cases o with
      | none =>
        have hl : lv_has ls 7 [(0, .ref (b 1)), (1, .ref (ad i 0)), (2, .int (nI k)), (3, .null), (4, .int (nI q))] := hl
        refine lv_iload hx hb dX8_askFrom_5 (lv_at hl 4 rfl) ?_
        refine lv_bipush (v := nI 30) hx hb dX8_askFrom_7 (by decide) ?_
        refine en_icmp_ge (tgt := 127) hx hb (by omega) (by omega) dX8_askFrom_9 (by decide) (fun c_5 => by exfalso; omega) (fun c_5 => ?_)
        refine lv_aload_nN hx hb dX8_askFrom_12 rfl (lv_at hl 3 rfl) ?_
        refine lv_ifnullN (tgt := 127) hx hb dX8_askFrom_13 (by decide) ?_
        refine lv_aload_nN hx hb dX8_askFrom_127 rfl (lv_at hl 3 rfl) ?_
        refine lv_ifnonnullN hx hb dX8_askFrom_128 ?_
        refine lv_bipush (v := nI 110) hx hb dX8_askFrom_131 (by decide) ?_
        refine lv_goto (tgt := 138) hx hb dX8_askFrom_133 (by decide) ?_
        exact er_char hx hb hr hlocks (ev_af_lt _ _ _ _) (by simp [ev_af, ev_yn]) dX8_askFrom_138
      | some z =>
        have hz : z < st.1 := ho z rfl
        have hl : lv_has ls 7 [(0, .ref (b 1)), (1, .ref (ad i 0)), (2, .int (nI k)), (3, .ref (ad z 0)), (4, .int (nI q))] := hl
        refine lv_iload hx hb dX8_askFrom_5 (lv_at hl 4 rfl) ?_
        refine lv_bipush (v := nI 30) hx hb dX8_askFrom_7 (by decide) ?_
        refine en_icmp_ge (tgt := 127) hx hb (by omega) (by omega) dX8_askFrom_9 (by decide) (fun c_6 => by exfalso; omega) (fun c_6 => ?_)
        refine lv_aload_n hx hb dX8_askFrom_12 rfl (lv_at hl 3 rfl) ?_
        refine lv_ifnull hx hb dX8_askFrom_13 ?_
        refine lv_aload_n hx hb dX8_askFrom_16 rfl (lv_at hl 3 rfl) ?_
        refine ev_cv (As := []) (rest := []) ⟨hx, hb, hml, hown, hts⟩ (c_X7_isProxy l hz rfl) (cwV 0 hts gX8_askFrom_X7_isProxy rfl rfl rfl (by decide +kernel) ⟨Nat.le_of_ble_eq_true rfl, Nat.le_of_ble_eq_true rfl⟩) hP hK (ev_recv hK hP hz) rfl hl.1 (Nat.le_of_ble_eq_true rfl) dX8_askFrom_17 ⟨Nat.le_of_ble_eq_true rfl, Nat.le_of_ble_eq_true rfl⟩ ?_
        refine eb_if_eq (tgt := 105) hx hb dX8_askFrom_20 (by decide) (fun c_7 => ?_) (fun c_7 => ?_)
        ·
          refine lv_aload_n hx hb dX8_askFrom_105 rfl (lv_at hl 3 rfl) ?_
          refine lv_iload_n hx hb dX8_askFrom_106 rfl (lv_at hl 2 rfl) ?_
          refine ev_cv (As := [.int (nI k)]) (rest := []) ⟨hx, hb, hml, hown, hts⟩ (c_X7_holds l hz rfl (k := k) (by omega)) (cwV 1 hts gX8_askFrom_X7_holds rfl rfl rfl (by decide +kernel) ⟨Nat.le_of_ble_eq_true rfl, Nat.le_of_ble_eq_true rfl⟩) hP hK (ev_recv hK hP hz) rfl hl.1 (Nat.le_of_ble_eq_true rfl) dX8_askFrom_107 ⟨Nat.le_of_ble_eq_true rfl, Nat.le_of_ble_eq_true rfl⟩ ?_
          refine eb_if_eq (tgt := 116) hx hb dX8_askFrom_110 (by decide) (fun c_8 => ?_) (fun c_8 => ?_)
          ·
            refine lv_aload_n hx hb dX8_askFrom_116 rfl (lv_at hl 3 rfl) ?_
            refine ev_get (v := ev_rf ad (ev_ch (st.2 z))) hx hb hts hi7 hown hK hP hz rfl 3 (by decide) (hts (.fieldLink RX8 57 "EventloopRow$Thing" "chain" "LEventloopRow$Thing;") (by decide +kernel)) rfl dX8_askFrom_117 ?_
            refine eo_astore_n (lv' := [(3, ev_rf ad (ev_ch (st.2 z))), (0, .ref (b 1)), (1, .ref (ad i 0)), (2, .int (nI k)), (4, .int (nI q))]) hx hb dX8_askFrom_120 rfl hl (by decide) rfl (fun ls hl => ?_)
            refine lv_iinc (v := nI (q + 1)) (lv' := [(4, .int (nI (q + 1))), (3, ev_rf ad (ev_ch (st.2 z))), (0, .ref (b 1)), (1, .ref (ad i 0)), (2, .int (nI k))]) hx hb dX8_askFrom_121 hl (k := 4) rfl (ev_inc1 _) (by decide) (by simp only [List.filter, ev_cat]; rfl) (fun ls hl => ?_)
            refine lv_goto (tgt := 5) hx hb dX8_askFrom_124 (by decide) ?_
            rw [show ev_af st k (n + 1) (some z) = ev_af st k n (ev_ch (st.2 z)) from (by simp [ev_af, ev_yn, c_7, c_8])]
            exact ih (q + 1) (ev_ch (st.2 z)) (by omega) (hCH z hz) ls (lv_sub hl [2, 3, 4, 1, 0] rfl)
          ·
            refine lv_bipush (v := nI 121) hx hb dX8_askFrom_113 (by decide) ?_
            exact er_char hx hb hr hlocks (ev_af_lt _ _ _ _) (by simp [ev_af, ev_yn, c_7, c_8]) dX8_askFrom_115
        ·
          refine lv_aload_n hx hb dX8_askFrom_23 rfl (lv_at hl 3 rfl) ?_
          refine ev_get (v := .int (ev_bi (ev_rv (st.2 z)))) hx hb hts hi7 hown hK hP hz rfl 2 (by decide) (hts (.fieldLink RX8 25 "EventloopRow$Thing" "revoked" "Z") (by decide +kernel)) rfl dX8_askFrom_24 ?_
          refine eb_if_eq (tgt := 33) hx hb dX8_askFrom_27 (by decide) (fun c_9 => ?_) (fun c_9 => ?_)
          ·
            refine lv_aload_n hx hb dX8_askFrom_33 rfl (lv_at hl 3 rfl) ?_
            refine lv_iconst (v := nI 1) hx hb dX8_askFrom_34 (by decide) ?_
            refine ev_cv (As := [.int (nI 1)]) (rest := []) ⟨hx, hb, hml, hown, hts⟩ (c_X7_isTold l hz rfl (k := 1) (by omega)) (cwV 1 hts gX8_askFrom_X7_isTold rfl rfl rfl (by decide +kernel) ⟨Nat.le_of_ble_eq_true rfl, Nat.le_of_ble_eq_true rfl⟩) hP hK (ev_recv hK hP hz) rfl hl.1 (Nat.le_of_ble_eq_true rfl) dX8_askFrom_35 ⟨Nat.le_of_ble_eq_true rfl, Nat.le_of_ble_eq_true rfl⟩ ?_
            refine eb_if_eq (tgt := 97) hx hb dX8_askFrom_38 (by decide) (fun c_10 => ?_) (fun c_10 => ?_)
            ·
              refine lv_aload_n hx hb dX8_askFrom_97 rfl (lv_at hl 3 rfl) ?_
              refine ev_get (v := ev_rf ad (ev_tg (st.2 z))) hx hb hts hi7 hown hK hP hz rfl 0 (by decide) (hts (.fieldLink RX8 29 "EventloopRow$Thing" "target" "LEventloopRow$Thing;") (by decide +kernel)) rfl dX8_askFrom_98 ?_
              refine eo_astore_n (lv' := [(3, ev_rf ad (ev_tg (st.2 z))), (0, .ref (b 1)), (1, .ref (ad i 0)), (2, .int (nI k)), (4, .int (nI q))]) hx hb dX8_askFrom_101 rfl hl (by decide) rfl (fun ls hl => ?_)
              refine lv_goto (tgt := 121) hx hb dX8_askFrom_102 (by decide) ?_
              refine lv_iinc (v := nI (q + 1)) (lv' := [(4, .int (nI (q + 1))), (3, ev_rf ad (ev_tg (st.2 z))), (0, .ref (b 1)), (1, .ref (ad i 0)), (2, .int (nI k))]) hx hb dX8_askFrom_121 hl (k := 4) rfl (ev_inc1 _) (by decide) (by simp only [List.filter, ev_cat]; rfl) (fun ls hl => ?_)
              refine lv_goto (tgt := 5) hx hb dX8_askFrom_124 (by decide) ?_
              rw [show ev_af st k (n + 1) (some z) = ev_af st k n (ev_tg (st.2 z)) from (by simp [ev_af, ev_yn, c_7, c_9, c_10])]
              exact ih (q + 1) (ev_tg (st.2 z)) (by omega) (hTG z hz) ls (lv_sub hl [2, 3, 4, 1, 0] rfl)
            ·
              refine lv_aload_n hx hb dX8_askFrom_41 rfl (lv_at hl 3 rfl) ?_
              refine lv_iconst (v := nI 1) hx hb dX8_askFrom_42 (by decide) ?_
              refine ev_cv (As := [.int (nI 1)]) (rest := []) ⟨hx, hb, hml, hown, hts⟩ (c_X7_answerTo l hz rfl (k := 1) (by omega)) (cwV 1 hts gX8_askFrom_X7_answerTo rfl rfl rfl (by decide +kernel) ⟨Nat.le_of_ble_eq_true rfl, Nat.le_of_ble_eq_true rfl⟩) hP hK (ev_recv hK hP hz) rfl hl.1 (Nat.le_of_ble_eq_true rfl) dX8_askFrom_43 ⟨Nat.le_of_ble_eq_true rfl, Nat.le_of_ble_eq_true rfl⟩ ?_
              refine lv_iconst (v := nI 1) hx hb dX8_askFrom_46 (by decide) ?_
              refine lv_icmp_ne (tgt := 54) hx hb dX8_askFrom_47 (by decide) (fun c_11 => ?_) (fun c_11 => ?_)
              ·
                refine lv_iconst (v := nI 0) hx hb dX8_askFrom_54 (by decide) ?_
                refine lv_istore (lv' := [(5, .int (nI 0)), (0, .ref (b 1)), (1, .ref (ad i 0)), (2, .int (nI k)), (3, .ref (ad z 0)), (4, .int (nI q))]) hx hb dX8_askFrom_55 hl (by decide) rfl (fun ls hl => ?_)
                refine lv_aload_n hx hb dX8_askFrom_57 rfl (lv_at hl 1 rfl) ?_
                refine lv_aload_n hx hb dX8_askFrom_58 rfl (lv_at hl 4 rfl) ?_
                refine ev_get (v := ev_rf ad (ev_tg (st.2 z))) hx hb hts hi7 hown hK hP hz rfl 0 (by decide) (hts (.fieldLink RX8 29 "EventloopRow$Thing" "target" "LEventloopRow$Thing;") (by decide +kernel)) rfl dX8_askFrom_59 ?_
                obtain ⟨j_12, e_13⟩ := Option.isSome_iff_exists.mp c_7
                rw [e_13]
                have hi_14 : j_12 < st.1 := (hTG z hz) _ e_13
                refine ev_cv (As := [.ref (ad j_12 0)]) (rest := []) ⟨hx, hb, hml, hown, hts⟩ (c_X8_plainBehind l hn hTG hi_14) (cwV 1 hts gX8_askFrom_X8_plainBehind rfl rfl rfl (by decide +kernel) ⟨Nat.le_of_ble_eq_true rfl, Nat.le_of_ble_eq_true rfl⟩) hP hK (ev_recvT hK hP) rfl hl.1 (Nat.le_of_ble_eq_true rfl) dX8_askFrom_62 ⟨Nat.le_of_ble_eq_true rfl, Nat.le_of_ble_eq_true rfl⟩ ?_
                refine eo_astore (lv' := [(6, ev_rf ad (ev_pb st 12 (some j_12))), (5, .int (nI 0)), (0, .ref (b 1)), (1, .ref (ad i 0)), (2, .int (nI k)), (3, .ref (ad z 0)), (4, .int (nI q))]) hx hb dX8_askFrom_65 hl (by decide) rfl (fun ls hl => ?_)
                refine eo_aload hx hb dX8_askFrom_67 (lv_at hl 0 rfl) ?_
                refine eo_ifnull (tgt := 86) hx hb dX8_askFrom_69 (by decide) (fun c_15 => ?_) (fun j_16 c_15 => ?_)
                · -- null
                  rw [c_15] at hl
                  have hl : lv_has ls 7 [(6, .null), (5, .int (nI 0)), (0, .ref (b 1)), (1, .ref (ad i 0)), (2, .int (nI k)), (3, .ref (ad z 0)), (4, .int (nI q))] := hl
                  refine lv_bipush (v := nI 84) hx hb dX8_askFrom_86 (by decide) ?_
                  refine lv_goto (tgt := 96) hx hb dX8_askFrom_88 (by decide) ?_
                  exact er_char hx hb hr hlocks (ev_af_lt _ _ _ _) (by simp [ev_af, ev_yn, c_7, c_9, c_10, c_11, e_13, c_15]) dX8_askFrom_96
                · -- some
                  rw [c_15] at hl
                  have hi_17 : j_16 < st.1 := (ev_pb_lt hTG 12 (some j_12) (fun _ h => by cases h; exact hi_14)) _ c_15
                  have hl : lv_has ls 7 [(6, .ref (ad j_16 0)), (5, .int (nI 0)), (0, .ref (b 1)), (1, .ref (ad i 0)), (2, .int (nI k)), (3, .ref (ad z 0)), (4, .int (nI q))] := hl
                  refine lv_iload hx hb dX8_askFrom_72 (lv_at hl 1 rfl) ?_
                  refine en_if_ne (tgt := 91) hx hb (by omega) dX8_askFrom_74 (by decide) (fun c_18 => by exfalso; omega) (fun c_18 => ?_)
                  refine lv_aload hx hb dX8_askFrom_77 (lv_at hl 0 rfl) ?_
                  refine lv_iload_n hx hb dX8_askFrom_79 rfl (lv_at hl 4 rfl) ?_
                  refine ev_cv (As := [.int (nI k)]) (rest := []) ⟨hx, hb, hml, hown, hts⟩ (c_X7_keepsKey l hi_17 rfl (k := k) (by omega)) (cwV 1 hts gX8_askFrom_X7_keepsKey rfl rfl rfl (by decide +kernel) ⟨Nat.le_of_ble_eq_true rfl, Nat.le_of_ble_eq_true rfl⟩) hP hK (ev_recv hK hP hi_17) rfl hl.1 (Nat.le_of_ble_eq_true rfl) dX8_askFrom_80 ⟨Nat.le_of_ble_eq_true rfl, Nat.le_of_ble_eq_true rfl⟩ ?_
                  refine eb_if_eq (tgt := 91) hx hb dX8_askFrom_83 (by decide) (fun c_19 => ?_) (fun c_19 => ?_)
                  ·
                    refine lv_iload hx hb dX8_askFrom_91 (lv_at hl 1 rfl) ?_
                    refine ev_cst (As := [.int (nI 0)]) (rest := []) ⟨hx, hb, hml, hown, hts⟩ (c_X8_yesOrNo l (b := b) (ad := ad) (x := 0) (by omega)) (va_cwS 1 hts gX8_askFrom_X8_yesOrNo rfl rfl rfl (by decide +kernel) ⟨Nat.le_of_ble_eq_true rfl, Nat.le_of_ble_eq_true rfl⟩) hP hK rfl hl.1 (Nat.le_of_ble_eq_true rfl) dX8_askFrom_93 ⟨Nat.le_of_ble_eq_true rfl, Nat.le_of_ble_eq_true rfl⟩ ?_
                    exact er_char hx hb hr hlocks (ev_af_lt _ _ _ _) (by simp [ev_af, ev_yn, c_7, c_9, c_10, c_11, e_13, c_15, c_19]) dX8_askFrom_96
                  ·
                    refine lv_bipush (v := nI 84) hx hb dX8_askFrom_86 (by decide) ?_
                    refine lv_goto (tgt := 96) hx hb dX8_askFrom_88 (by decide) ?_
                    exact er_char hx hb hr hlocks (ev_af_lt _ _ _ _) (by simp [ev_af, ev_yn, c_7, c_9, c_10, c_11, e_13, c_15, c_19]) dX8_askFrom_96
              ·
                refine lv_iconst (v := nI 1) hx hb dX8_askFrom_50 (by decide) ?_
                refine lv_goto (tgt := 55) hx hb dX8_askFrom_51 (by decide) ?_
                refine lv_istore (lv' := [(5, .int (nI 1)), (0, .ref (b 1)), (1, .ref (ad i 0)), (2, .int (nI k)), (3, .ref (ad z 0)), (4, .int (nI q))]) hx hb dX8_askFrom_55 hl (by decide) rfl (fun ls hl => ?_)
                refine lv_aload_n hx hb dX8_askFrom_57 rfl (lv_at hl 1 rfl) ?_
                refine lv_aload_n hx hb dX8_askFrom_58 rfl (lv_at hl 4 rfl) ?_
                refine ev_get (v := ev_rf ad (ev_tg (st.2 z))) hx hb hts hi7 hown hK hP hz rfl 0 (by decide) (hts (.fieldLink RX8 29 "EventloopRow$Thing" "target" "LEventloopRow$Thing;") (by decide +kernel)) rfl dX8_askFrom_59 ?_
                obtain ⟨j_20, e_21⟩ := Option.isSome_iff_exists.mp c_7
                rw [e_21]
                have hi_22 : j_20 < st.1 := (hTG z hz) _ e_21
                refine ev_cv (As := [.ref (ad j_20 0)]) (rest := []) ⟨hx, hb, hml, hown, hts⟩ (c_X8_plainBehind l hn hTG hi_22) (cwV 1 hts gX8_askFrom_X8_plainBehind rfl rfl rfl (by decide +kernel) ⟨Nat.le_of_ble_eq_true rfl, Nat.le_of_ble_eq_true rfl⟩) hP hK (ev_recvT hK hP) rfl hl.1 (Nat.le_of_ble_eq_true rfl) dX8_askFrom_62 ⟨Nat.le_of_ble_eq_true rfl, Nat.le_of_ble_eq_true rfl⟩ ?_
                refine eo_astore (lv' := [(6, ev_rf ad (ev_pb st 12 (some j_20))), (5, .int (nI 1)), (0, .ref (b 1)), (1, .ref (ad i 0)), (2, .int (nI k)), (3, .ref (ad z 0)), (4, .int (nI q))]) hx hb dX8_askFrom_65 hl (by decide) rfl (fun ls hl => ?_)
                refine eo_aload hx hb dX8_askFrom_67 (lv_at hl 0 rfl) ?_
                refine eo_ifnull (tgt := 86) hx hb dX8_askFrom_69 (by decide) (fun c_23 => ?_) (fun j_24 c_23 => ?_)
                · -- null
                  rw [c_23] at hl
                  have hl : lv_has ls 7 [(6, .null), (5, .int (nI 1)), (0, .ref (b 1)), (1, .ref (ad i 0)), (2, .int (nI k)), (3, .ref (ad z 0)), (4, .int (nI q))] := hl
                  refine lv_bipush (v := nI 84) hx hb dX8_askFrom_86 (by decide) ?_
                  refine lv_goto (tgt := 96) hx hb dX8_askFrom_88 (by decide) ?_
                  exact er_char hx hb hr hlocks (ev_af_lt _ _ _ _) (by simp [ev_af, ev_yn, c_7, c_9, c_10, c_11, e_21, c_23]) dX8_askFrom_96
                · -- some
                  rw [c_23] at hl
                  have hi_25 : j_24 < st.1 := (ev_pb_lt hTG 12 (some j_20) (fun _ h => by cases h; exact hi_22)) _ c_23
                  have hl : lv_has ls 7 [(6, .ref (ad j_24 0)), (5, .int (nI 1)), (0, .ref (b 1)), (1, .ref (ad i 0)), (2, .int (nI k)), (3, .ref (ad z 0)), (4, .int (nI q))] := hl
                  refine lv_iload hx hb dX8_askFrom_72 (lv_at hl 1 rfl) ?_
                  refine en_if_ne (tgt := 91) hx hb (by omega) dX8_askFrom_74 (by decide) (fun c_26 => ?_) (fun c_26 => by exfalso; omega)
                  refine lv_iload hx hb dX8_askFrom_91 (lv_at hl 1 rfl) ?_
                  refine ev_cst (As := [.int (nI 1)]) (rest := []) ⟨hx, hb, hml, hown, hts⟩ (c_X8_yesOrNo l (b := b) (ad := ad) (x := 1) (by omega)) (va_cwS 1 hts gX8_askFrom_X8_yesOrNo rfl rfl rfl (by decide +kernel) ⟨Nat.le_of_ble_eq_true rfl, Nat.le_of_ble_eq_true rfl⟩) hP hK rfl hl.1 (Nat.le_of_ble_eq_true rfl) dX8_askFrom_93 ⟨Nat.le_of_ble_eq_true rfl, Nat.le_of_ble_eq_true rfl⟩ ?_
                  exact er_char hx hb hr hlocks (ev_af_lt _ _ _ _) (by simp [ev_af, ev_yn, c_7, c_9, c_10, c_11, e_21, c_23]) dX8_askFrom_96
          ·
            refine lv_bipush (v := nI 84) hx hb dX8_askFrom_30 (by decide) ?_
            exact er_char hx hb hr hlocks (ev_af_lt _ _ _ _) (by simp [ev_af, ev_yn, c_7, c_9]) dX8_askFrom_32
  refine lv_aload_n hx hb dX8_askFrom_0 rfl (lv_at hl 1 rfl) ?_
  refine lv_astore_n (lv' := [(3, .ref (ad i 0)), (0, .ref (b 1)), (1, .ref (ad i 0)), (2, .int (nI k))]) hx hb dX8_askFrom_1 rfl hl (by decide) rfl (fun ls hl => ?_)
  refine lv_iconst (v := nI 0) hx hb dX8_askFrom_2 (by decide) ?_
  refine lv_istore (lv' := [(4, .int (nI 0)), (3, .ref (ad i 0)), (0, .ref (b 1)), (1, .ref (ad i 0)), (2, .int (nI k))]) hx hb dX8_askFrom_3 hl (by decide) rfl (fun ls hl => ?_)
  exact LP 30 0 (some i) rfl (fun _ h => by cases h; exact hi) ls (lv_sub hl [2, 3, 4, 1, 0] rfl)
