/-! 06.things: what Things writes; whether what is listed is in order -/
section EVF
variable {D : va_G} {cI cO : ClassId} {b : Nat → Nat} {ad : Nat → Nat → Nat} {st : ev_ST} {A : Nat → Prop}
theorem ev_focD (i : Nat) (hD : va_D A (ev_wl cI cO b ad st)) : va_D A (ev_wl cI cO b ad (ev_up st i (st.2 i))) := by rw [ev_up_id]; exact hD
end EVF
def ev_rc (st : ev_ST) (k : Nat) (v : Int32) (i : Nat) : Nat × ev_ST := match ev_pb st 12 (some i) with
  | none => (84, st)
  | some j => if ev_holds (st.2 j) k then (if ev_can (st.2 j) 1 k then ((ev_pi (st.2 j) k v (ev_rg (st.2 j) k)).1, ev_up st j (ev_pi (st.2 j) k v (ev_rg (st.2 j) k)).2) else (110, st)) else ((ev_pi (st.2 j) k v (nI 7)).1, ev_up st j (ev_pi (st.2 j) k v (nI 7)).2)
theorem ev_rc_lt (st : ev_ST) (k : Nat) (v : Int32) (i : Nat) : (ev_rc st k v i).1 < 65536 := by
  unfold ev_rc
  split
  · simp
  · split
    · split
      · exact ev_pi_lt _ _ _ _
      · simp
    · exact ev_pi_lt _ _ _ _
def ev_sf (st : ev_ST) (k : Nat) (v : Int32) (i : Nat) : Nat → Option Nat → Nat × ev_ST
  | 0, o => if o.isSome then (84, st) else ev_rc st k v i
  | _ + 1, none => ev_rc st k v i
  | n + 1, some z => if (ev_tg (st.2 z)).isSome then
      (if ev_rv (st.2 z) then (84, st) else if ev_told (st.2 z) 2 then
        (match ev_pb st 12 (ev_tg (st.2 z)) with
          | none => (84, st)
          | some j => if ev_an (st.2 z) 2 = nI 1 then (if ev_kOther (st.2 j) k v then (84, st) else (121, st)) else (110, st))
        else ev_sf st k v i n (ev_tg (st.2 z)))
      else if ev_holds (st.2 z) k then (if ev_can (st.2 z) 1 k then ev_rc st k v i else (110, st)) else ev_sf st k v i n (ev_ch (st.2 z))
theorem ev_sf_lt (st : ev_ST) (k : Nat) (v : Int32) (i : Nat) : ∀ (n : Nat) (o : Option Nat), (ev_sf st k v i n o).1 < 65536 := by
  intro n
  induction n with
  | zero => intro o; cases o <;> simp [ev_sf, ev_rc_lt]
  | succ n ih =>
    intro o
    cases o with
    | none => simp [ev_sf, ev_rc_lt]
    | some z =>
      unfold ev_sf
      split
      · split
        · simp
        · split
          · split
            · simp
            · split
              · split <;> simp
              · simp
          · exact ih _
      · split
        · split
          · exact ev_rc_lt _ _ _ _
          · simp
        · exact ih _
def ev_df (st : ev_ST) (k : Nat) : Nat → Option Nat → Nat × ev_ST
  | 0, _ => (84, st)
  | _ + 1, none => (84, st)
  | n + 1, some z => if (ev_tg (st.2 z)).isSome then
      (if ev_rv (st.2 z) then (84, st) else if ev_told (st.2 z) 3 then
        (match ev_pb st 12 (ev_tg (st.2 z)) with
          | none => (84, st)
          | some j => if ev_an (st.2 z) 3 = nI 1 then (if ev_kKey (st.2 j) k then (84, st) else (121, st)) else (110, st))
        else ev_df st k n (ev_tg (st.2 z)))
      else ((ev_tk (st.2 z) k).1, ev_up st z (ev_tk (st.2 z) k).2)
theorem ev_df_lt (st : ev_ST) (k : Nat) : ∀ (n : Nat) (o : Option Nat), (ev_df st k n o).1 < 65536 := by
  intro n
  induction n with
  | zero => intro o; cases o <;> simp [ev_df]
  | succ n ih =>
    intro o
    cases o with
    | none => simp [ev_df]
    | some z =>
      unfold ev_df
      split
      · split
        · simp
        · split
          · split
            · simp
            · split
              · split <;> simp
              · simp
          · exact ih _
      · exact ev_tk_lt _ _
def ev_cnt (t : ev_TH) : Nat → Nat
  | 0 => 0
  | k + 1 => ev_cnt t k + if ev_holds t k then 1 else 0
/-- the keys that are listed are those that are held, each once, the small ones in their order -/
def ev_LS (t : ev_TH) : Prop := ev_kc t ≤ 20 ∧ ev_cnt t 20 = ev_kc t ∧ ∃ kp : Nat → Nat, (∀ j, j < ev_kc t → ev_ke t j = nI (kp j) ∧ kp j < 20 ∧ ev_holds t (kp j) = true) ∧ ∀ m, m < ev_kc t → ∀ j, j < m → ¬ ev_ke t j = nI (kp m) ∧ (kp m < 10 → ev_ke t j ≤ nI (kp m))
theorem c_X7_listedAt_i (l : Launch) {D : va_G} {cI cO : ClassId} {b : Nat → Nat} {ad : Nat → Nat → Nat} {st : ev_ST} {i : Nat} {t : ev_TH} (hi : i < st.1) (ht : st.2 i = t) {j : Nat} (hc : ev_kc t ≤ 20) (hj : j < ev_kc t) : Met l yX7_listedAt wsX7_listedAt ({ frames := 0, cells := 0, slots := 0, locals := 0 }) (ev_Pc D cI cO (ev_P D cI cO b ad st) [.ref (ad i 0), .int (nI j)]) (ev_QV (some (.int (ev_ke t j)))) 0 0 ev_no := by
  have h := c_X7_listedAt l (D := D) (cI := cI) (cO := cO) (b := b) (ad := ad) hi ht (j := j) hc (by omega)
  rw [if_pos hj] at h
  exact h
theorem c_X8_find_v (l : Launch) {D : va_G} {cI cO : ClassId} {b : Nat → Nat} {ad : Nat → Nat → Nat} {st : ev_ST} (hn : st.1 ≤ 12) {j : Nat} (hj : j < st.1) : Met l yX8_find wsX8_find ({ frames := 0, cells := 0, slots := 0, locals := 0 }) (ev_Pc D cI cO (ev_P D cI cO b ad st) [.ref (b 1), .int (nI j)]) (ev_QV (some (.ref (ad j 0)))) 0 0 ev_no := by
  have h := c_X8_find l (D := D) (cI := cI) (cO := cO) (b := b) (ad := ad) hn (j := j) (by omega)
  rw [if_pos hj] at h
  exact h
theorem c_X8_find_x (l : Launch) {D : va_G} {cI cO : ClassId} {b : Nat → Nat} {ad : Nat → Nat → Nat} {st : ev_ST} (hn : st.1 ≤ 12) {j : Nat} (hj : st.1 ≤ j) (hj2 : j < 2147483648) : Met l yX8_find wsX8_find ({ frames := 0, cells := 0, slots := 0, locals := 0 }) (ev_Pc D cI cO (ev_P D cI cO b ad st) [.ref (b 1), .int (nI j)]) (ev_QV (some .null)) 0 0 ev_no := by
  have h := c_X8_find l (D := D) (cI := cI) (cO := cO) (b := b) (ad := ad) hn (j := j) hj2
  rw [if_neg (by omega)] at h
  exact h
theorem c_X8_find_n (l : Launch) {D : va_G} {cI cO : ClassId} {b : Nat → Nat} {ad : Nat → Nat → Nat} {st : ev_ST} : Met l yX8_find wsX8_find ({ frames := 0, cells := 0, slots := 0, locals := 0 }) (ev_Pc D cI cO (ev_P D cI cO b ad st) [.ref (b 1), .int (-1)]) (ev_QV (some .null)) 0 0 ev_no := c_X8_find_m l
set_option maxHeartbeats 4000000 in
set_option maxRecDepth 100000 in
theorem c_X7_isInOrder (l : Launch) {D : va_G} {cI cO : ClassId} {b : Nat → Nat} {ad : Nat → Nat → Nat} {st : ev_ST}  {i : Nat} {t : ev_TH} (hi : i < st.1) (ht : st.2 i = t) {x k : Nat} (hk : k < 20) (hkc : ev_kc t ≤ 20) (hx0 : x ≤ ev_kc t) (h : ∀ j, j < x → ¬ ev_ke t j = nI k ∧ (k < 10 → ev_ke t j ≤ nI k)) : Met l yX7_isInOrder wsX7_isInOrder ({ frames := 1, cells := 0, slots := 0, locals := 21 }) (ev_Pc D cI cO (ev_P D cI cO b ad st) [.ref (ad i 0), .int (nI x), .int (nI k)]) (ev_QV (some (.int (ev_bi true)))) 0 0 ev_no := by
  refine ev_body (cc := cX7_isInOrder) (maxL := 5) (ret := (some .boolean)) (by decide) rfl (Nat.le_of_ble_eq_true rfl) ?_
  intro p e s m args below meth c hx hb hr hml hown hts hlocks hnm hP hK ls hl
  have hl : lv_has ls 5 [(0, .ref (ad i 0)), (1, .int (nI x)), (2, .int (nI k))] := hl
  have LP : ∀ (n q : Nat), q + n = x → ∀ ls : Array Slot, lv_has ls 5 [(0, .ref (ad i 0)), (1, .int (nI x)), (2, .int (nI k)), (3, .int (nI q))] → W p l e ({ frames := 1, cells := 0, slots := 0, locals := 21 }) s m args below meth c s.heap [] 0 0 (MQ below (ev_QV (some (.int (ev_bi true)))) args s 0 0 ev_no) (F0 m 2 ls []) := by
    intro n
    induction n with
    | zero =>
      intro q hq ls hl
      refine lv_iload_n hx hb dX7_isInOrder_2 rfl (lv_at hl 3 rfl) ?_
      refine lv_iload_n hx hb dX7_isInOrder_3 rfl (lv_at hl 1 rfl) ?_
      refine en_icmp_ge (tgt := 40) hx hb (by omega) (by omega) dX7_isInOrder_4 (by decide) (fun c_1 => ?_) (fun c_1 => by exfalso; omega)
      refine lv_iconst (v := nI 1) hx hb dX7_isInOrder_40 (by decide) ?_
      exact er_bool hx hb hr hlocks rfl dX7_isInOrder_41
    | succ n ih =>
      intro q hq ls hl
      refine lv_iload_n hx hb dX7_isInOrder_2 rfl (lv_at hl 3 rfl) ?_
      refine lv_iload_n hx hb dX7_isInOrder_3 rfl (lv_at hl 1 rfl) ?_
      refine en_icmp_ge (tgt := 40) hx hb (by omega) (by omega) dX7_isInOrder_4 (by decide) (fun c_2 => by exfalso; omega) (fun c_2 => ?_)
      refine lv_aload_n hx hb dX7_isInOrder_7 rfl (lv_at hl 0 rfl) ?_
      refine lv_iload_n hx hb dX7_isInOrder_8 rfl (lv_at hl 3 rfl) ?_
      refine ev_cv (As := [.int (nI q)]) (rest := []) ⟨hx, hb, hml, hown, hts⟩ (c_X7_listedAt_i l hi ht hkc (j := q) (by omega)) (cwV 1 hts gX7_isInOrder_X7_listedAt rfl rfl rfl (by decide +kernel) ⟨Nat.le_of_ble_eq_true rfl, Nat.le_of_ble_eq_true rfl⟩) hP hK (ev_recv hK hP hi) rfl hl.1 (Nat.le_of_ble_eq_true rfl) dX7_isInOrder_9 ⟨Nat.le_of_ble_eq_true rfl, Nat.le_of_ble_eq_true rfl⟩ ?_
      refine lv_istore (lv' := [(4, .int (ev_ke t q)), (0, .ref (ad i 0)), (1, .int (nI x)), (2, .int (nI k)), (3, .int (nI q))]) hx hb dX7_isInOrder_12 hl (by decide) rfl (fun ls hl => ?_)
      refine lv_iload hx hb dX7_isInOrder_14 (lv_at hl 0 rfl) ?_
      refine lv_iload_n hx hb dX7_isInOrder_16 rfl (lv_at hl 3 rfl) ?_
      refine lv_icmp_eq (tgt := 32) hx hb dX7_isInOrder_17 (by decide) (fun c_3 => by exfalso; exact (h q (by omega)).1 c_3) (fun c_3 => ?_)
      refine lv_iload_n hx hb dX7_isInOrder_20 rfl (lv_at hl 3 rfl) ?_
      refine lv_bipush (v := nI 10) hx hb dX7_isInOrder_21 (by decide) ?_
      refine en_icmp_ge (tgt := 34) hx hb (by omega) (by omega) dX7_isInOrder_23 (by decide) (fun c_4 => ?_) (fun c_4 => ?_)
      ·
        refine lv_iinc (v := nI (q + 1)) (lv' := [(3, .int (nI (q + 1))), (4, .int (ev_ke t q)), (0, .ref (ad i 0)), (1, .int (nI x)), (2, .int (nI k))]) hx hb dX7_isInOrder_34 hl (k := 4) rfl (ev_inc1 _) (by decide) rfl (fun ls hl => ?_)
        refine lv_goto (tgt := 2) hx hb dX7_isInOrder_37 (by decide) ?_
        exact ih (q + 1) (by omega) ls (lv_sub hl [2, 3, 4, 0] rfl)
      ·
        refine lv_iload hx hb dX7_isInOrder_26 (lv_at hl 0 rfl) ?_
        refine lv_iload_n hx hb dX7_isInOrder_28 rfl (lv_at hl 3 rfl) ?_
        refine lv_icmp_le (tgt := 34) hx hb dX7_isInOrder_29 (by decide) (fun c_5 => ?_) (fun c_5 => by exfalso; exact c_5 ((h q (by omega)).2 (by omega)))
        refine lv_iinc (v := nI (q + 1)) (lv' := [(3, .int (nI (q + 1))), (4, .int (ev_ke t q)), (0, .ref (ad i 0)), (1, .int (nI x)), (2, .int (nI k))]) hx hb dX7_isInOrder_34 hl (k := 4) rfl (ev_inc1 _) (by decide) rfl (fun ls hl => ?_)
        refine lv_goto (tgt := 2) hx hb dX7_isInOrder_37 (by decide) ?_
        exact ih (q + 1) (by omega) ls (lv_sub hl [2, 3, 4, 0] rfl)
  refine lv_iconst (v := nI 0) hx hb dX7_isInOrder_0 (by decide) ?_
  refine lv_istore_n (lv' := [(3, .int (nI 0)), (0, .ref (ad i 0)), (1, .int (nI x)), (2, .int (nI k))]) hx hb dX7_isInOrder_1 rfl hl (by decide) rfl (fun ls hl => ?_)
  exact LP x 0 (Nat.zero_add _) ls (lv_sub hl [1, 2, 3, 0] rfl)
theorem ev_cnt_le (t : ev_TH) : ∀ n, ev_cnt t n ≤ n := by
  intro n
  induction n with
  | zero => exact Nat.le_refl 0
  | succ n ih => unfold ev_cnt; split <;> omega
set_option maxHeartbeats 4000000 in
set_option maxRecDepth 100000 in
theorem c_X7_isListed (l : Launch) {D : va_G} {cI cO : ClassId} {b : Nat → Nat} {ad : Nat → Nat → Nat} {st : ev_ST}  {i : Nat} {t : ev_TH} (hi : i < st.1) (ht : st.2 i = t) (h : ev_LS t) : Met l yX7_isListed wsX7_isListed ({ frames := 2, cells := 0, slots := 0, locals := 45 }) (ev_Pc D cI cO (ev_P D cI cO b ad st) [.ref (ad i 0)]) (ev_QV (some (.int (ev_bi true)))) 0 0 ev_no := by
  refine ev_body (cc := cX7_isListed) (maxL := 4) (ret := (some .boolean)) (by decide) rfl (Nat.le_of_ble_eq_true rfl) ?_
  intro p e s m args below meth c hx hb hr hml hown hts hlocks hnm hP hK ls hl
  have hl : lv_has ls 4 [(0, .ref (ad i 0))] := hl
  have hi7 : ∀ w ∈ wsX70, w ∈ wsX7_isListed := by decide +kernel
  obtain ⟨hkc, hcnt, kp, hkp, hor⟩ := h
  have LP2 : ∀ (n q : Nat), q + n = ev_kc t → ∀ ls : Array Slot, lv_has ls 4 [(0, .ref (ad i 0)), (2, .int (nI q))] → W p l e ({ frames := 2, cells := 0, slots := 0, locals := 45 }) s m args below meth c s.heap [] 0 0 (MQ below (ev_QV (some (.int (ev_bi true)))) args s 0 0 ev_no) (F0 m 44 ls []) := by
    intro n
    induction n with
    | zero =>
      intro q hq ls hl
      refine lv_iload_n hx hb dX7_isListed_44 rfl (lv_at hl 1 rfl) ?_
      refine lv_aload_n hx hb dX7_isListed_45 rfl (lv_at hl 0 rfl) ?_
      refine ev_get (v := .int (nI (ev_kc t))) hx hb hts hi7 hown hK hP hi ht 8 (by decide) (hts (.fieldLink RX7 65 "EventloopRow$Thing" "keyCount" "I") (by decide +kernel)) rfl dX7_isListed_46 ?_
      refine en_icmp_ge (tgt := 83) hx hb (by omega) (by omega) dX7_isListed_49 (by decide) (fun c_1 => ?_) (fun c_1 => by exfalso; omega)
      refine lv_iconst (v := nI 1) hx hb dX7_isListed_83 (by decide) ?_
      exact er_bool hx hb hr hlocks rfl dX7_isListed_84
    | succ n ih =>
      intro q hq ls hl
      refine lv_iload_n hx hb dX7_isListed_44 rfl (lv_at hl 1 rfl) ?_
      refine lv_aload_n hx hb dX7_isListed_45 rfl (lv_at hl 0 rfl) ?_
      refine ev_get (v := .int (nI (ev_kc t))) hx hb hts hi7 hown hK hP hi ht 8 (by decide) (hts (.fieldLink RX7 65 "EventloopRow$Thing" "keyCount" "I") (by decide +kernel)) rfl dX7_isListed_46 ?_
      refine en_icmp_ge (tgt := 83) hx hb (by omega) (by omega) dX7_isListed_49 (by decide) (fun c_2 => by exfalso; omega) (fun c_2 => ?_)
      refine lv_aload_n hx hb dX7_isListed_52 rfl (lv_at hl 0 rfl) ?_
      refine lv_iload_n hx hb dX7_isListed_53 rfl (lv_at hl 1 rfl) ?_
      refine ev_cv (As := [.int (nI q)]) (rest := []) ⟨hx, hb, hml, hown, hts⟩ (c_X7_listedAt_i l hi ht hkc (j := q) (by omega)) (cwV 1 hts gX7_isListed_X7_listedAt rfl rfl rfl (by decide +kernel) ⟨Nat.le_of_ble_eq_true rfl, Nat.le_of_ble_eq_true rfl⟩) hP hK (ev_recv hK hP hi) rfl hl.1 (Nat.le_of_ble_eq_true rfl) dX7_isListed_54 ⟨Nat.le_of_ble_eq_true rfl, Nat.le_of_ble_eq_true rfl⟩ ?_
      refine en_eq (hkp q (by omega)).1 ?_
      have hk9 := (hkp q (by omega)).2
      refine lv_istore_n (lv' := [(3, .int (nI (kp q))), (0, .ref (ad i 0)), (2, .int (nI q))]) hx hb dX7_isListed_57 rfl hl (by decide) rfl (fun ls hl => ?_)
      refine lv_aload_n hx hb dX7_isListed_58 rfl (lv_at hl 1 rfl) ?_
      refine lv_iload_n hx hb dX7_isListed_59 rfl (lv_at hl 0 rfl) ?_
      refine ev_cv (As := [.int (nI (kp q))]) (rest := []) ⟨hx, hb, hml, hown, hts⟩ (c_X7_holds l hi ht (k := kp q) (by omega)) (cwV 1 hts gX7_isListed_X7_holds rfl rfl rfl (by decide +kernel) ⟨Nat.le_of_ble_eq_true rfl, Nat.le_of_ble_eq_true rfl⟩) hP hK (ev_recv hK hP hi) rfl hl.1 (Nat.le_of_ble_eq_true rfl) dX7_isListed_60 ⟨Nat.le_of_ble_eq_true rfl, Nat.le_of_ble_eq_true rfl⟩ ?_
      refine eb_if_eq (tgt := 75) hx hb dX7_isListed_63 (by decide) (fun c_3 => by exfalso; rw [hk9.2] at c_3; cases c_3) (fun c_3 => ?_)
      refine lv_aload_n hx hb dX7_isListed_66 rfl (lv_at hl 1 rfl) ?_
      refine lv_iload_n hx hb dX7_isListed_67 rfl (lv_at hl 2 rfl) ?_
      refine lv_iload_n hx hb dX7_isListed_68 rfl (lv_at hl 0 rfl) ?_
      refine ev_cv (As := [.int (nI q), .int (nI (kp q))]) (rest := []) ⟨hx, hb, hml, hown, hts⟩ (c_X7_isInOrder l hi ht (x := q) (k := kp q) (by omega) hkc (by omega) (hor q (by omega))) (cwV 2 hts gX7_isListed_X7_isInOrder rfl rfl rfl (by decide +kernel) ⟨Nat.le_of_ble_eq_true rfl, Nat.le_of_ble_eq_true rfl⟩) hP hK (ev_recv hK hP hi) rfl hl.1 (Nat.le_of_ble_eq_true rfl) dX7_isListed_69 ⟨Nat.le_of_ble_eq_true rfl, Nat.le_of_ble_eq_true rfl⟩ ?_
      refine eb_if_ne (tgt := 77) hx hb dX7_isListed_72 (by decide) (fun _ => ?_) (fun h => by cases h)
      refine lv_iinc (v := nI (q + 1)) (lv' := [(2, .int (nI (q + 1))), (3, .int (nI (kp q))), (0, .ref (ad i 0))]) hx hb dX7_isListed_77 hl (k := 2) rfl (ev_inc1 _) (by decide) rfl (fun ls hl => ?_)
      refine lv_goto (tgt := 44) hx hb dX7_isListed_80 (by decide) ?_
      exact ih (q + 1) (by omega) ls (lv_sub hl [2, 0] rfl)
  have LP1 : ∀ (n q w : Nat), q + n = 20 → w = ev_cnt t q → w ≤ 20 → ∀ ls : Array Slot, lv_has ls 4 [(0, .ref (ad i 0)), (1, .int (nI w)), (2, .int (nI q))] → W p l e ({ frames := 2, cells := 0, slots := 0, locals := 45 }) s m args below meth c s.heap [] 0 0 (MQ below (ev_QV (some (.int (ev_bi true)))) args s 0 0 ev_no) (F0 m 4 ls []) := by
    intro n
    induction n with
    | zero =>
      intro q w hq hw hw2 ls hl
      obtain rfl : q = 20 := by omega
      refine lv_iload_n hx hb dX7_isListed_4 rfl (lv_at hl 2 rfl) ?_
      refine lv_bipush (v := nI 20) hx hb dX7_isListed_5 (by decide) ?_
      refine en_icmp_ge (tgt := 32) hx hb (by omega) (by omega) dX7_isListed_7 (by decide) (fun c_5 => ?_) (fun c_5 => by exfalso; omega)
      refine lv_iload_n hx hb dX7_isListed_32 rfl (lv_at hl 1 rfl) ?_
      refine lv_aload_n hx hb dX7_isListed_33 rfl (lv_at hl 0 rfl) ?_
      refine ev_get (v := .int (nI (ev_kc t))) hx hb hts hi7 hown hK hP hi ht 8 (by decide) (hts (.fieldLink RX7 65 "EventloopRow$Thing" "keyCount" "I") (by decide +kernel)) rfl dX7_isListed_34 ?_
      refine en_icmp_eq (tgt := 42) hx hb (by omega) (by omega) dX7_isListed_37 (by decide) (fun c_6 => ?_) (fun c_6 => by exfalso; omega)
      refine lv_iconst (v := nI 0) hx hb dX7_isListed_42 (by decide) ?_
      refine lv_istore_n (lv' := [(2, .int (nI 0)), (0, .ref (ad i 0)), (1, .int (nI w))]) hx hb dX7_isListed_43 rfl hl (by decide) rfl (fun ls hl => ?_)
      exact LP2 (ev_kc t) 0 (Nat.zero_add _) ls (lv_sub hl [1, 0] rfl)
    | succ n ih =>
      intro q w hq hw hw2 ls hl
      refine lv_iload_n hx hb dX7_isListed_4 rfl (lv_at hl 2 rfl) ?_
      refine lv_bipush (v := nI 20) hx hb dX7_isListed_5 (by decide) ?_
      refine en_icmp_ge (tgt := 32) hx hb (by omega) (by omega) dX7_isListed_7 (by decide) (fun c_7 => by exfalso; omega) (fun c_7 => ?_)
      refine lv_iload_n hx hb dX7_isListed_10 rfl (lv_at hl 1 rfl) ?_
      refine lv_aload_n hx hb dX7_isListed_11 rfl (lv_at hl 0 rfl) ?_
      refine lv_iload_n hx hb dX7_isListed_12 rfl (lv_at hl 2 rfl) ?_
      refine ev_cv (As := [.int (nI q)]) (rest := [.int (nI w)]) ⟨hx, hb, hml, hown, hts⟩ (c_X7_holds l hi ht (k := q) (by omega)) (cwV 1 hts gX7_isListed_X7_holds rfl rfl rfl (by decide +kernel) ⟨Nat.le_of_ble_eq_true rfl, Nat.le_of_ble_eq_true rfl⟩) hP hK (ev_recv hK hP hi) rfl hl.1 (Nat.le_of_ble_eq_true rfl) dX7_isListed_13 ⟨Nat.le_of_ble_eq_true rfl, Nat.le_of_ble_eq_true rfl⟩ ?_
      refine eb_if_eq (tgt := 23) hx hb dX7_isListed_16 (by decide) (fun c_8 => ?_) (fun c_8 => ?_)
      ·
        refine lv_iconst (v := nI 0) hx hb dX7_isListed_23 (by decide) ?_
        refine en_iadd hx hb (w + 0) rfl dX7_isListed_24 ?_
        refine lv_istore_n (lv' := [(1, .int (nI (w + 0))), (0, .ref (ad i 0)), (2, .int (nI q))]) hx hb dX7_isListed_25 rfl hl (by decide) rfl (fun ls hl => ?_)
        refine lv_iinc (v := nI (q + 1)) (lv' := [(2, .int (nI (q + 1))), (1, .int (nI (w + 0))), (0, .ref (ad i 0))]) hx hb dX7_isListed_26 hl (k := 2) rfl (ev_inc1 _) (by decide) rfl (fun ls hl => ?_)
        refine lv_goto (tgt := 4) hx hb dX7_isListed_29 (by decide) ?_
        have e9 : w + 0 = ev_cnt t (q + 1) := by simp [ev_cnt, hw, c_8]
        exact ih (q + 1) (w + 0) (by omega) e9 (by rw [e9]; exact Nat.le_trans (ev_cnt_le t (q + 1)) (by omega)) ls (lv_sub hl [2, 1, 0] rfl)
      ·
        refine lv_iconst (v := nI 1) hx hb dX7_isListed_19 (by decide) ?_
        refine lv_goto (tgt := 24) hx hb dX7_isListed_20 (by decide) ?_
        refine en_iadd hx hb (w + 1) rfl dX7_isListed_24 ?_
        refine lv_istore_n (lv' := [(1, .int (nI (w + 1))), (0, .ref (ad i 0)), (2, .int (nI q))]) hx hb dX7_isListed_25 rfl hl (by decide) rfl (fun ls hl => ?_)
        refine lv_iinc (v := nI (q + 1)) (lv' := [(2, .int (nI (q + 1))), (1, .int (nI (w + 1))), (0, .ref (ad i 0))]) hx hb dX7_isListed_26 hl (k := 2) rfl (ev_inc1 _) (by decide) rfl (fun ls hl => ?_)
        refine lv_goto (tgt := 4) hx hb dX7_isListed_29 (by decide) ?_
        have e9 : w + 1 = ev_cnt t (q + 1) := by simp [ev_cnt, hw, c_8]
        exact ih (q + 1) (w + 1) (by omega) e9 (by rw [e9]; exact Nat.le_trans (ev_cnt_le t (q + 1)) (by omega)) ls (lv_sub hl [2, 1, 0] rfl)
  refine lv_iconst (v := nI 0) hx hb dX7_isListed_0 (by decide) ?_
  refine lv_istore_n (lv' := [(1, .int (nI 0)), (0, .ref (ad i 0))]) hx hb dX7_isListed_1 rfl hl (by decide) rfl (fun ls hl => ?_)
  refine lv_iconst (v := nI 0) hx hb dX7_isListed_2 (by decide) ?_
  refine lv_istore_n (lv' := [(2, .int (nI 0)), (1, .int (nI 0)), (0, .ref (ad i 0))]) hx hb dX7_isListed_3 rfl hl (by decide) rfl (fun ls hl => ?_)
  exact LP1 20 0 0 rfl rfl (by decide) ls (lv_sub hl [2, 1, 0] rfl)
set_option maxHeartbeats 4000000 in
set_option maxRecDepth 100000 in
theorem c_X8_areListed (l : Launch) {D : va_G} {cI cO : ClassId} {b : Nat → Nat} {ad : Nat → Nat → Nat} {st : ev_ST}  (hn : st.1 ≤ 12) (hLS : ∀ i, i < st.1 → ev_tg (st.2 i) = none → ev_LS (st.2 i)) : Met l yX8_areListed wsX8_areListed ({ frames := 3, cells := 0, slots := 0, locals := 68 }) (ev_Pc D cI cO (ev_P D cI cO b ad st) [.ref (b 1)]) (ev_QV (some (.int (ev_bi true)))) 0 0 ev_no := by
  refine ev_body (cc := cX8_areListed) (maxL := 3) (ret := (some .boolean)) (by decide) rfl (Nat.le_of_ble_eq_true rfl) ?_
  intro p e s m args below meth c hx hb hr hml hown hts hlocks hnm hP hK ls hl
  have hl : lv_has ls 3 [(0, .ref (b 1))] := hl
  have hi8 : ∀ w ∈ wsX80, w ∈ wsX8_areListed := by decide +kernel
  have LP : ∀ (n q : Nat), q + n = st.1 → ∀ ls : Array Slot, lv_has ls 3 [(0, .ref (b 1)), (1, .int (nI q))] → W p l e ({ frames := 3, cells := 0, slots := 0, locals := 68 }) s m args below meth c s.heap [] 0 0 (MQ below (ev_QV (some (.int (ev_bi true)))) args s 0 0 ev_no) (F0 m 2 ls []) := by
    intro n
    induction n with
    | zero =>
      intro q hq ls hl
      refine lv_iload_n hx hb dX8_areListed_2 rfl (lv_at hl 1 rfl) ?_
      refine lv_aload_n hx hb dX8_areListed_3 rfl (lv_at hl 0 rfl) ?_
      refine ev_row (v := .int (nI st.1)) hx hb hts hi8 hown hK hP 1 (by decide) (hts (.fieldLink RX8 17 "EventloopRow$Things" "count" "I") (by decide +kernel)) rfl dX8_areListed_4 ?_
      refine en_icmp_ge (tgt := 42) hx hb (by omega) (by omega) dX8_areListed_7 (by decide) (fun c_1 => ?_) (fun c_1 => by exfalso; omega)
      refine lv_iconst (v := nI 1) hx hb dX8_areListed_42 (by decide) ?_
      exact er_bool hx hb hr hlocks rfl dX8_areListed_43
    | succ n ih =>
      intro q hq ls hl
      refine lv_iload_n hx hb dX8_areListed_2 rfl (lv_at hl 1 rfl) ?_
      refine lv_aload_n hx hb dX8_areListed_3 rfl (lv_at hl 0 rfl) ?_
      refine ev_row (v := .int (nI st.1)) hx hb hts hi8 hown hK hP 1 (by decide) (hts (.fieldLink RX8 17 "EventloopRow$Things" "count" "I") (by decide +kernel)) rfl dX8_areListed_4 ?_
      refine en_icmp_ge (tgt := 42) hx hb (by omega) (by omega) dX8_areListed_7 (by decide) (fun c_2 => by exfalso; omega) (fun c_2 => ?_)
      refine lv_aload_n hx hb dX8_areListed_10 rfl (lv_at hl 0 rfl) ?_
      refine lv_iload_n hx hb dX8_areListed_11 rfl (lv_at hl 1 rfl) ?_
      refine ev_cv (As := [.int (nI q)]) (rest := []) ⟨hx, hb, hml, hown, hts⟩ (c_X8_find_v l hn (j := q) (by omega)) (cwV 1 hts gX8_areListed_X8_find rfl rfl rfl (by decide +kernel) ⟨Nat.le_of_ble_eq_true rfl, Nat.le_of_ble_eq_true rfl⟩) hP hK (ev_recvT hK hP) rfl hl.1 (Nat.le_of_ble_eq_true rfl) dX8_areListed_12 ⟨Nat.le_of_ble_eq_true rfl, Nat.le_of_ble_eq_true rfl⟩ ?_
      refine lv_astore_n (lv' := [(2, .ref (ad q 0)), (0, .ref (b 1)), (1, .int (nI q))]) hx hb dX8_areListed_15 rfl hl (by decide) rfl (fun ls hl => ?_)
      refine lv_aload_n hx hb dX8_areListed_16 rfl (lv_at hl 0 rfl) ?_
      refine lv_ifnull hx hb dX8_areListed_17 ?_
      refine lv_aload_n hx hb dX8_areListed_20 rfl (lv_at hl 0 rfl) ?_
      refine ev_cv (As := []) (rest := []) ⟨hx, hb, hml, hown, hts⟩ (c_X7_isProxy l (show q < st.1 by omega) rfl) (cwV 0 hts gX8_areListed_X7_isProxy rfl rfl rfl (by decide +kernel) ⟨Nat.le_of_ble_eq_true rfl, Nat.le_of_ble_eq_true rfl⟩) hP hK (ev_recv hK hP (show q < st.1 by omega)) rfl hl.1 (Nat.le_of_ble_eq_true rfl) dX8_areListed_21 ⟨Nat.le_of_ble_eq_true rfl, Nat.le_of_ble_eq_true rfl⟩ ?_
      refine eb_if_ne (tgt := 36) hx hb dX8_areListed_24 (by decide) (fun c_3 => ?_) (fun c_3 => ?_)
      ·
        refine lv_iinc (v := nI (q + 1)) (lv' := [(1, .int (nI (q + 1))), (2, .ref (ad q 0)), (0, .ref (b 1))]) hx hb dX8_areListed_36 hl (k := 2) rfl (ev_inc1 _) (by decide) rfl (fun ls hl => ?_)
        refine lv_goto (tgt := 2) hx hb dX8_areListed_39 (by decide) ?_
        exact ih (q + 1) (by omega) ls (lv_sub hl [2, 0] rfl)
      ·
        refine lv_aload_n hx hb dX8_areListed_27 rfl (lv_at hl 0 rfl) ?_
        refine ev_cv (As := []) (rest := []) ⟨hx, hb, hml, hown, hts⟩ (c_X7_isListed l (show q < st.1 by omega) rfl (hLS q (by omega) (by rcases hh : ev_tg (st.2 q) with _ | _ <;> simp_all))) (cwV 0 hts gX8_areListed_X7_isListed rfl rfl rfl (by decide +kernel) ⟨Nat.le_of_ble_eq_true rfl, Nat.le_of_ble_eq_true rfl⟩) hP hK (ev_recv hK hP (show q < st.1 by omega)) rfl hl.1 (Nat.le_of_ble_eq_true rfl) dX8_areListed_28 ⟨Nat.le_of_ble_eq_true rfl, Nat.le_of_ble_eq_true rfl⟩ ?_
        refine eb_if_ne (tgt := 36) hx hb dX8_areListed_31 (by decide) (fun _ => ?_) (fun h => by cases h)
        refine lv_iinc (v := nI (q + 1)) (lv' := [(1, .int (nI (q + 1))), (2, .ref (ad q 0)), (0, .ref (b 1))]) hx hb dX8_areListed_36 hl (k := 2) rfl (ev_inc1 _) (by decide) rfl (fun ls hl => ?_)
        refine lv_goto (tgt := 2) hx hb dX8_areListed_39 (by decide) ?_
        exact ih (q + 1) (by omega) ls (lv_sub hl [2, 0] rfl)
  refine lv_iconst (v := nI 0) hx hb dX8_areListed_0 (by decide) ?_
  refine lv_istore_n (lv' := [(1, .int (nI 0)), (0, .ref (b 1))]) hx hb dX8_areListed_1 rfl hl (by decide) rfl (fun ls hl => ?_)
  exact LP st.1 0 (Nat.zero_add _) ls (lv_sub hl [1, 0] rfl)
set_option maxHeartbeats 4000000 in
set_option maxRecDepth 100000 in
theorem c_X8_chainTo_a (l : Launch) {D : va_G} {cI cO : ClassId} {b : Nat → Nat} {ad : Nat → Nat → Nat} {st : ev_ST}  {i : Nat} (hi : i < st.1) (hch : ev_ch (st.2 i) = none) : Met l yX8_chainTo wsX8_chainTo ({ frames := 0, cells := 0, slots := 0, locals := 0 }) (ev_Pc D cI cO (ev_P D cI cO b ad st) [.ref (b 1), .ref (ad i 0), .null]) (ev_QV (some (.int (nI 121)))) 0 0 ev_no := by
  refine ev_body (cc := cX8_chainTo) (maxL := 5) (ret := (some .char)) (by decide) rfl (Nat.le_of_ble_eq_true rfl) ?_
  intro p e s m args below meth c hx hb hr hml hown hts hlocks hnm hP hK ls hl
  have hl : lv_has ls 5 [(0, .ref (b 1)), (1, .ref (ad i 0)), (2, .null)] := hl
  have hi7 : ∀ w ∈ wsX70, w ∈ wsX8_chainTo := by decide +kernel
  refine lv_aload_n hx hb dX8_chainTo_0 rfl (lv_at hl 1 rfl) ?_
  refine ev_get (v := .null) hx hb hts hi7 hown hK hP hi rfl 3 (by decide) (hts (.fieldLink RX8 57 "EventloopRow$Thing" "chain" "LEventloopRow$Thing;") (by decide +kernel)) (by show some (ev_rf ad (ev_ch (st.2 i))) = some Value.null; rw [hch]; rfl) dX8_chainTo_1 ?_
  refine lv_aload_nN hx hb dX8_chainTo_4 rfl (lv_at hl 2 rfl) ?_
  refine lv_acmp_ne (rx := none) (ry := none) (tgt := 11) hx hb dX8_chainTo_5 (by decide) (fun h => by first | exact absurd rfl h | cases h) (fun _ => ?_)
  refine lv_bipush (v := nI 121) hx hb dX8_chainTo_8 (by decide) ?_
  exact er_char hx hb hr hlocks (by decide) rfl dX8_chainTo_10
set_option maxHeartbeats 4000000 in
set_option maxRecDepth 100000 in
theorem c_X8_chainTo_b (l : Launch) {D : va_G} {cI cO : ClassId} {b : Nat → Nat} {ad : Nat → Nat → Nat} {st : ev_ST}  {i : Nat} (hi : i < st.1) (hch : ev_ch (st.2 i) = none) (htg : ev_tg (st.2 i) = none) : Met l yX8_chainTo wsX8_chainTo ({ frames := 1, cells := 0, slots := 0, locals := 20 }) (ev_Pc D cI cO (ev_P D cI cO b ad st) [.ref (b 1), .ref (ad i 0), .ref (ad i 0)]) (ev_QV (some (.int (nI 110)))) 0 0 ev_no := by
  refine ev_body (cc := cX8_chainTo) (maxL := 5) (ret := (some .char)) (by decide) rfl (Nat.le_of_ble_eq_true rfl) ?_
  intro p e s m args below meth c hx hb hr hml hown hts hlocks hnm hP hK ls hl
  have hl : lv_has ls 5 [(0, .ref (b 1)), (1, .ref (ad i 0)), (2, .ref (ad i 0))] := hl
  have hi7 : ∀ w ∈ wsX70, w ∈ wsX8_chainTo := by decide +kernel
  refine lv_aload_n hx hb dX8_chainTo_0 rfl (lv_at hl 1 rfl) ?_
  refine ev_get (v := .null) hx hb hts hi7 hown hK hP hi rfl 3 (by decide) (hts (.fieldLink RX8 57 "EventloopRow$Thing" "chain" "LEventloopRow$Thing;") (by decide +kernel)) (by show some (ev_rf ad (ev_ch (st.2 i))) = some Value.null; rw [hch]; rfl) dX8_chainTo_1 ?_
  refine lv_aload_n hx hb dX8_chainTo_4 rfl (lv_at hl 2 rfl) ?_
  refine lv_acmp_ne (rx := none) (ry := (some (ad i 0))) (tgt := 11) hx hb dX8_chainTo_5 (by decide) (fun _ => ?_) (fun h => by first | exact absurd rfl h | cases h)
  refine lv_aload_n hx hb dX8_chainTo_11 rfl (lv_at hl 1 rfl) ?_
  refine ev_get (v := .int (ev_bi (ev_cs (st.2 i)))) hx hb hts hi7 hown hK hP hi rfl 4 (by decide) (hts (.fieldLink RX8 85 "EventloopRow$Thing" "closed" "Z") (by decide +kernel)) rfl dX8_chainTo_12 ?_
  refine eb_if_eq (tgt := 21) hx hb dX8_chainTo_15 (by decide) (fun c_2 => ?_) (fun c_2 => ?_)
  ·
    refine lv_aload_n hx hb dX8_chainTo_21 rfl (lv_at hl 2 rfl) ?_
    refine lv_astore_n (lv' := [(3, .ref (ad i 0)), (0, .ref (b 1)), (1, .ref (ad i 0)), (2, .ref (ad i 0))]) hx hb dX8_chainTo_22 rfl hl (by decide) rfl (fun ls hl => ?_)
    refine lv_iconst (v := nI 0) hx hb dX8_chainTo_23 (by decide) ?_
    refine lv_istore (lv' := [(4, .int (nI 0)), (3, .ref (ad i 0)), (0, .ref (b 1)), (1, .ref (ad i 0)), (2, .ref (ad i 0))]) hx hb dX8_chainTo_24 hl (by decide) rfl (fun ls hl => ?_)
    refine lv_iload hx hb dX8_chainTo_26 (lv_at hl 0 rfl) ?_
    refine lv_bipush (v := nI 12) hx hb dX8_chainTo_28 (by decide) ?_
    refine en_icmp_gt (tgt := 63) hx hb (by omega) (by omega) dX8_chainTo_30 (by decide) (fun c_3 => by exfalso; omega) (fun c_3 => ?_)
    refine lv_aload_n hx hb dX8_chainTo_33 rfl (lv_at hl 1 rfl) ?_
    refine lv_ifnull hx hb dX8_chainTo_34 ?_
    refine lv_aload_n hx hb dX8_chainTo_37 rfl (lv_at hl 1 rfl) ?_
    refine ev_cv (As := []) (rest := []) ⟨hx, hb, hml, hown, hts⟩ (c_X7_isProxy l hi rfl) (cwV 0 hts gX8_chainTo_X7_isProxy rfl rfl rfl (by decide +kernel) ⟨Nat.le_of_ble_eq_true rfl, Nat.le_of_ble_eq_true rfl⟩) hP hK (ev_recv hK hP hi) rfl hl.1 (Nat.le_of_ble_eq_true rfl) dX8_chainTo_38 ⟨Nat.le_of_ble_eq_true rfl, Nat.le_of_ble_eq_true rfl⟩ ?_
    refine eb_if_ne (tgt := 63) hx hb dX8_chainTo_41 (by decide) (fun c_4 => by exfalso; rw [htg] at c_4; cases c_4) (fun c_4 => ?_)
    refine lv_aload_n hx hb dX8_chainTo_44 rfl (lv_at hl 1 rfl) ?_
    refine lv_aload_n hx hb dX8_chainTo_45 rfl (lv_at hl 3 rfl) ?_
    refine lv_acmp_ne (rx := (some (ad i 0))) (ry := (some (ad i 0))) (tgt := 52) hx hb dX8_chainTo_46 (by decide) (fun h => by first | exact absurd rfl h | cases h) (fun _ => ?_)
    refine lv_bipush (v := nI 110) hx hb dX8_chainTo_49 (by decide) ?_
    exact er_char hx hb hr hlocks (by decide) rfl dX8_chainTo_51
  ·
    refine lv_bipush (v := nI 110) hx hb dX8_chainTo_18 (by decide) ?_
    exact er_char hx hb hr hlocks (by decide) rfl dX8_chainTo_20
set_option maxHeartbeats 4000000 in
set_option maxRecDepth 100000 in
theorem c_X8_receive (l : Launch) {D : va_G} {cI cO : ClassId} {b : Nat → Nat} {ad : Nat → Nat → Nat} {st : ev_ST} {A : Nat → Prop} (hD : va_D A (ev_wl cI cO b ad st)) (hn : st.1 ≤ 12) (hTG : ∀ i, i < st.1 → ∀ j, ev_tg (st.2 i) = some j → j < st.1) {i k : Nat} {v : Int32} (hi : i < st.1) (hk : k < 20) (hKP : ∀ j, j < st.1 → ev_holds (st.2 j) k = false → ev_kc (st.2 j) < 20) : Met l yX8_receive wsX8_receive ({ frames := 2, cells := 0, slots := 0, locals := 45 }) (ev_Pc D cI cO (ev_P D cI cO b ad st) [.ref (b 1), .ref (ad i 0), .int (nI k), .int v]) (ev_QM (some (.int (nI ((ev_rc st k v i).1)))) (ev_P D cI cO b ad (ev_rc st k v i).2) A) 0 0 A := by
  refine ev_body (cc := cX8_receive) (maxL := 5) (ret := (some .char)) (by decide) rfl (Nat.le_of_ble_eq_true rfl) ?_
  intro p e s m args below meth c hx hb hr hml hown hts hlocks hnm hP hK ls hl
  have hS : va_S A s.heap s.heap [] := va_S.rf
  have hl : lv_has ls 5 [(0, .ref (b 1)), (1, .ref (ad i 0)), (2, .int (nI k)), (3, .int v)] := hl
  refine lv_aload_n hx hb dX8_receive_0 rfl (lv_at hl 0 rfl) ?_
  refine lv_aload_n hx hb dX8_receive_1 rfl (lv_at hl 1 rfl) ?_
  refine ev_cv (As := [.ref (ad i 0)]) (rest := []) ⟨hx, hb, hml, hown, hts⟩ (c_X8_plainBehind l hn hTG hi) (cwV 1 hts gX8_receive_X8_plainBehind rfl rfl rfl (by decide +kernel) ⟨Nat.le_of_ble_eq_true rfl, Nat.le_of_ble_eq_true rfl⟩) hP hK (ev_recvT hK hP) rfl hl.1 (Nat.le_of_ble_eq_true rfl) dX8_receive_2 ⟨Nat.le_of_ble_eq_true rfl, Nat.le_of_ble_eq_true rfl⟩ ?_
  refine eo_astore (lv' := [(4, ev_rf ad (ev_pb st 12 (some i))), (0, .ref (b 1)), (1, .ref (ad i 0)), (2, .int (nI k)), (3, .int v)]) hx hb dX8_receive_5 hl (by decide) rfl (fun ls hl => ?_)
  refine eo_aload hx hb dX8_receive_7 (lv_at hl 0 rfl) ?_
  refine eo_ifnonnull (tgt := 15) hx hb dX8_receive_9 (by decide) (fun j_2 c_1 => ?_) (fun c_1 => ?_)
  · -- some
    rw [c_1] at hl
    have hi_3 : j_2 < st.1 := (ev_pb_lt hTG 12 (some i) (fun _ h => by cases h; exact hi)) _ c_1
    have hl : lv_has ls 5 [(4, .ref (ad j_2 0)), (0, .ref (b 1)), (1, .ref (ad i 0)), (2, .int (nI k)), (3, .int v)] := hl
    refine lv_aload hx hb dX8_receive_15 (lv_at hl 0 rfl) ?_
    refine lv_iload_n hx hb dX8_receive_17 rfl (lv_at hl 3 rfl) ?_
    refine ev_cv (As := [.int (nI k)]) (rest := []) ⟨hx, hb, hml, hown, hts⟩ (c_X7_holds l hi_3 rfl (k := k) (by omega)) (cwV 1 hts gX8_receive_X7_holds rfl rfl rfl (by decide +kernel) ⟨Nat.le_of_ble_eq_true rfl, Nat.le_of_ble_eq_true rfl⟩) hP hK (ev_recv hK hP hi_3) rfl hl.1 (Nat.le_of_ble_eq_true rfl) dX8_receive_18 ⟨Nat.le_of_ble_eq_true rfl, Nat.le_of_ble_eq_true rfl⟩ ?_
    refine eb_if_ne (tgt := 34) hx hb dX8_receive_21 (by decide) (fun c_4 => ?_) (fun c_4 => ?_)
    ·
      refine lv_aload hx hb dX8_receive_34 (lv_at hl 0 rfl) ?_
      refine lv_iconst (v := nI 1) hx hb dX8_receive_36 (by decide) ?_
      refine lv_iload_n hx hb dX8_receive_37 rfl (lv_at hl 3 rfl) ?_
      refine ev_cv (As := [.int (nI 1), .int (nI k)]) (rest := []) ⟨hx, hb, hml, hown, hts⟩ (c_X7_canBe l hi_3 rfl (r := 1) (k := k) (by omega)) (cwV 2 hts gX8_receive_X7_canBe rfl rfl rfl (by decide +kernel) ⟨Nat.le_of_ble_eq_true rfl, Nat.le_of_ble_eq_true rfl⟩) hP hK (ev_recv hK hP hi_3) rfl hl.1 (Nat.le_of_ble_eq_true rfl) dX8_receive_38 ⟨Nat.le_of_ble_eq_true rfl, Nat.le_of_ble_eq_true rfl⟩ ?_
      refine eb_if_eq (tgt := 60) hx hb dX8_receive_41 (by decide) (fun c_5 => ?_) (fun c_5 => ?_)
      ·
        refine lv_bipush (v := nI 110) hx hb dX8_receive_60 (by decide) ?_
        exact em_char hx hb hr hlocks (ev_rc_lt _ _ _ _) (by simp [ev_rc, c_1, c_4, c_5]) (by rw [show (ev_rc st k v i).2 = st from (by simp [ev_rc, c_1, c_4, c_5])]; exact hP) hS dX8_receive_62
      ·
        refine lv_aload hx hb dX8_receive_44 (lv_at hl 0 rfl) ?_
        refine lv_iload_n hx hb dX8_receive_46 rfl (lv_at hl 3 rfl) ?_
        refine lv_iload_n hx hb dX8_receive_47 rfl (lv_at hl 4 rfl) ?_
        refine lv_aload hx hb dX8_receive_48 (lv_at hl 0 rfl) ?_
        refine lv_iload_n hx hb dX8_receive_50 rfl (lv_at hl 3 rfl) ?_
        refine ev_cv (As := [.int (nI k)]) (rest := [.int v, .int (nI k), .ref (ad j_2 0)]) ⟨hx, hb, hml, hown, hts⟩ (c_X7_rightsOf l hi_3 rfl (k := k) (by omega)) (cwV 1 hts gX8_receive_X7_rightsOf rfl rfl rfl (by decide +kernel) ⟨Nat.le_of_ble_eq_true rfl, Nat.le_of_ble_eq_true rfl⟩) hP hK (ev_recv hK hP hi_3) rfl hl.1 (Nat.le_of_ble_eq_true rfl) dX8_receive_51 ⟨Nat.le_of_ble_eq_true rfl, Nat.le_of_ble_eq_true rfl⟩ ?_
        refine ev_mv (As := [.int (nI k), .int v, .int (ev_rg (st.2 j_2) k)]) (rest := []) ⟨hx, hb, hml, hown, hts⟩ (c_X7_putIn l hi_3 (ev_focD j_2 hD) (k := k) (v := v) (r := (ev_rg (st.2 j_2) k)) (by omega) (hKP j_2 hi_3)) (cwV 3 hts gX8_receive_X7_putIn rfl rfl rfl (by decide +kernel) ⟨Nat.le_of_ble_eq_true rfl, Nat.le_of_ble_eq_true rfl⟩) (ev_foc hP) hK hS (ev_recv hK hP hi_3) rfl hl.1 (Nat.le_of_ble_eq_true rfl) dX8_receive_54 ⟨Nat.le_of_ble_eq_true rfl, Nat.le_of_ble_eq_true rfl⟩ (fun H locs hP hz hk hS => ?_)
        refine lv_goto (tgt := 62) hx hb dX8_receive_57 (by decide) ?_
        exact em_char hx hb hr hlocks (ev_rc_lt _ _ _ _) (by simp [ev_rc, c_1, c_4, c_5]) (by rw [show (ev_rc st k v i).2 = ev_up st j_2 (ev_pi (st.2 j_2) k v (ev_rg (st.2 j_2) k)).2 from (by simp [ev_rc, c_1, c_4, c_5])]; exact hP) hS dX8_receive_62
    ·
      refine lv_aload hx hb dX8_receive_24 (lv_at hl 0 rfl) ?_
      refine lv_iload_n hx hb dX8_receive_26 rfl (lv_at hl 3 rfl) ?_
      refine lv_iload_n hx hb dX8_receive_27 rfl (lv_at hl 4 rfl) ?_
      refine lv_bipush (v := nI 7) hx hb dX8_receive_28 (by decide) ?_
      refine ev_mv (As := [.int (nI k), .int v, .int (nI 7)]) (rest := []) ⟨hx, hb, hml, hown, hts⟩ (c_X7_putIn l hi_3 (ev_focD j_2 hD) (k := k) (v := v) (r := (nI 7)) (by omega) (hKP j_2 hi_3)) (cwV 3 hts gX8_receive_X7_putIn rfl rfl rfl (by decide +kernel) ⟨Nat.le_of_ble_eq_true rfl, Nat.le_of_ble_eq_true rfl⟩) (ev_foc hP) hK hS (ev_recv hK hP hi_3) rfl hl.1 (Nat.le_of_ble_eq_true rfl) dX8_receive_30 ⟨Nat.le_of_ble_eq_true rfl, Nat.le_of_ble_eq_true rfl⟩ (fun H locs hP hz hk hS => ?_)
      exact em_char hx hb hr hlocks (ev_rc_lt _ _ _ _) (by simp [ev_rc, c_1, c_4]) (by rw [show (ev_rc st k v i).2 = ev_up st j_2 (ev_pi (st.2 j_2) k v (nI 7)).2 from (by simp [ev_rc, c_1, c_4])]; exact hP) hS dX8_receive_33
  · -- null
    rw [c_1] at hl
    have hl : lv_has ls 5 [(4, .null), (0, .ref (b 1)), (1, .ref (ad i 0)), (2, .int (nI k)), (3, .int v)] := hl
    refine lv_bipush (v := nI 84) hx hb dX8_receive_12 (by decide) ?_
    exact em_char hx hb hr hlocks (ev_rc_lt _ _ _ _) (by simp [ev_rc, c_1]) (by rw [show (ev_rc st k v i).2 = st from (by simp [ev_rc, c_1])]; exact hP) hS dX8_receive_14
set_option maxHeartbeats 4000000 in
set_option maxRecDepth 100000 in
theorem c_X8_setFrom (l : Launch) {D : va_G} {cI cO : ClassId} {b : Nat → Nat} {ad : Nat → Nat → Nat} {st : ev_ST} {A : Nat → Prop} (hD : va_D A (ev_wl cI cO b ad st)) (hn : st.1 ≤ 12) (hTG : ∀ i, i < st.1 → ∀ j, ev_tg (st.2 i) = some j → j < st.1) (hCH : ∀ i, i < st.1 → ∀ j, ev_ch (st.2 i) = some j → j < st.1) {i k : Nat} {v : Int32} (hi : i < st.1) (hk : k < 20) (hKP : ∀ j, j < st.1 → ev_holds (st.2 j) k = false → ev_kc (st.2 j) < 20) : Met l yX8_setFrom wsX8_setFrom ({ frames := 3, cells := 0, slots := 0, locals := 69 }) (ev_Pc D cI cO (ev_P D cI cO b ad st) [.ref (b 1), .ref (ad i 0), .int (nI k), .int v]) (ev_QM (some (.int (nI ((ev_sf st k v i 30 (some i)).1)))) (ev_P D cI cO b ad (ev_sf st k v i 30 (some i)).2) A) 0 0 A := by
  refine ev_body (cc := cX8_setFrom) (maxL := 8) (ret := (some .char)) (by decide) rfl (Nat.le_of_ble_eq_true rfl) ?_
  intro p e s m args below meth c hx hb hr hml hown hts hlocks hnm hP hK ls hl
  have hS : va_S A s.heap s.heap [] := va_S.rf
  have hl : lv_has ls 8 [(0, .ref (b 1)), (1, .ref (ad i 0)), (2, .int (nI k)), (3, .int v)] := hl
  have hi7 : ∀ w ∈ wsX70, w ∈ wsX8_setFrom := by decide +kernel
  have LP : ∀ (n q : Nat) (o : Option Nat), q + n = 30 → (∀ j, o = some j → j < st.1) → ∀ ls : Array Slot, lv_has ls 8 [(0, .ref (b 1)), (1, .ref (ad i 0)), (2, .int (nI k)), (3, .int v), (4, ev_rf ad o), (5, .int (nI q))] → W p l e ({ frames := 3, cells := 0, slots := 0, locals := 69 }) s m args below meth c s.heap [] 0 0 (MQ below (ev_QM (some (.int (nI (ev_sf st k v i n o).1))) (ev_P D cI cO b ad (ev_sf st k v i n o).2) A) args s 0 0 A) (F0 m 6 ls []) := by
    intro n
    induction n with
    | zero =>
      intro q o hq ho ls hl
      refine lv_iload hx hb dX8_setFrom_6 (lv_at hl 5 rfl) ?_
      refine lv_bipush (v := nI 30) hx hb dX8_setFrom_8 (by decide) ?_
      refine en_icmp_ge (tgt := 160) hx hb (by omega) (by omega) dX8_setFrom_10 (by decide) (fun c_1 => ?_) (fun c_1 => by exfalso; omega)
      refine eo_aload hx hb dX8_setFrom_160 (lv_at hl 4 rfl) ?_
      refine eo_ifnonnull (tgt := 175) hx hb dX8_setFrom_162 (by decide) (fun j_3 c_2 => ?_) (fun c_2 => ?_)
      · -- some
        subst c_2
        have hi_4 : j_3 < st.1 := ho _ rfl
        refine lv_bipush (v := nI 84) hx hb dX8_setFrom_175 (by decide) ?_
        exact em_char hx hb hr hlocks (ev_sf_lt _ _ _ _ _ _) (by simp [ev_sf, ev_yn]) (by rw [show (ev_sf st k v i 0 (some j_3)).2 = st from (by simp [ev_sf, ev_yn])]; exact hP) hS dX8_setFrom_177
      · -- null
        subst c_2
        refine lv_aload_n hx hb dX8_setFrom_165 rfl (lv_at hl 0 rfl) ?_
        refine lv_aload_n hx hb dX8_setFrom_166 rfl (lv_at hl 1 rfl) ?_
        refine lv_iload_n hx hb dX8_setFrom_167 rfl (lv_at hl 2 rfl) ?_
        refine lv_iload_n hx hb dX8_setFrom_168 rfl (lv_at hl 3 rfl) ?_
        refine ev_mv (As := [.ref (ad i 0), .int (nI k), .int v]) (rest := []) ⟨hx, hb, hml, hown, hts⟩ (c_X8_receive l hD hn hTG hi hk hKP (k := k) (v := v)) (cwV 3 hts gX8_setFrom_X8_receive rfl rfl rfl (by decide +kernel) ⟨Nat.le_of_ble_eq_true rfl, Nat.le_of_ble_eq_true rfl⟩) hP hK hS (ev_recvT hK hP) rfl hl.1 (Nat.le_of_ble_eq_true rfl) dX8_setFrom_169 ⟨Nat.le_of_ble_eq_true rfl, Nat.le_of_ble_eq_true rfl⟩ (fun H locs hP hz hk hS => ?_)
        refine lv_goto (tgt := 177) hx hb dX8_setFrom_172 (by decide) ?_
        exact em_char hx hb hr hlocks (ev_sf_lt _ _ _ _ _ _) (by simp [ev_sf, ev_yn]) (by rw [show (ev_sf st k v i 0 none).2 = (ev_rc st k v i).2 from (by simp [ev_sf, ev_yn])]; exact hP) hS dX8_setFrom_177
    | succ n ih =>
      intro q o hq ho ls hl
      cases o with
      | none =>
        have hl : lv_has ls 8 [(0, .ref (b 1)), (1, .ref (ad i 0)), (2, .int (nI k)), (3, .int v), (4, .null), (5, .int (nI q))] := hl
        refine lv_iload hx hb dX8_setFrom_6 (lv_at hl 5 rfl) ?_
        refine lv_bipush (v := nI 30) hx hb dX8_setFrom_8 (by decide) ?_
        refine en_icmp_ge (tgt := 160) hx hb (by omega) (by omega) dX8_setFrom_10 (by decide) (fun c_5 => by exfalso; omega) (fun c_5 => ?_)
        refine lv_aloadN hx hb dX8_setFrom_13 (lv_at hl 4 rfl) ?_
        refine lv_ifnullN (tgt := 160) hx hb dX8_setFrom_15 (by decide) ?_
        refine lv_aloadN hx hb dX8_setFrom_160 (lv_at hl 4 rfl) ?_
        refine lv_ifnonnullN hx hb dX8_setFrom_162 ?_
        refine lv_aload_n hx hb dX8_setFrom_165 rfl (lv_at hl 0 rfl) ?_
        refine lv_aload_n hx hb dX8_setFrom_166 rfl (lv_at hl 1 rfl) ?_
        refine lv_iload_n hx hb dX8_setFrom_167 rfl (lv_at hl 2 rfl) ?_
        refine lv_iload_n hx hb dX8_setFrom_168 rfl (lv_at hl 3 rfl) ?_
        refine ev_mv (As := [.ref (ad i 0), .int (nI k), .int v]) (rest := []) ⟨hx, hb, hml, hown, hts⟩ (c_X8_receive l hD hn hTG hi hk hKP (k := k) (v := v)) (cwV 3 hts gX8_setFrom_X8_receive rfl rfl rfl (by decide +kernel) ⟨Nat.le_of_ble_eq_true rfl, Nat.le_of_ble_eq_true rfl⟩) hP hK hS (ev_recvT hK hP) rfl hl.1 (Nat.le_of_ble_eq_true rfl) dX8_setFrom_169 ⟨Nat.le_of_ble_eq_true rfl, Nat.le_of_ble_eq_true rfl⟩ (fun H locs hP hz hk hS => ?_)
        refine lv_goto (tgt := 177) hx hb dX8_setFrom_172 (by decide) ?_
        exact em_char hx hb hr hlocks (ev_sf_lt _ _ _ _ _ _) (by simp [ev_sf, ev_yn]) (by rw [show (ev_sf st k v i (n + 1) none).2 = (ev_rc st k v i).2 from (by simp [ev_sf, ev_yn])]; exact hP) hS dX8_setFrom_177
      | some z =>
        have hz : z < st.1 := ho z rfl
        have hl : lv_has ls 8 [(0, .ref (b 1)), (1, .ref (ad i 0)), (2, .int (nI k)), (3, .int v), (4, .ref (ad z 0)), (5, .int (nI q))] := hl
        refine lv_iload hx hb dX8_setFrom_6 (lv_at hl 5 rfl) ?_
        refine lv_bipush (v := nI 30) hx hb dX8_setFrom_8 (by decide) ?_
        refine en_icmp_ge (tgt := 160) hx hb (by omega) (by omega) dX8_setFrom_10 (by decide) (fun c_6 => by exfalso; omega) (fun c_6 => ?_)
        refine lv_aload hx hb dX8_setFrom_13 (lv_at hl 4 rfl) ?_
        refine lv_ifnull hx hb dX8_setFrom_15 ?_
        refine lv_aload hx hb dX8_setFrom_18 (lv_at hl 4 rfl) ?_
        refine ev_cv (As := []) (rest := []) ⟨hx, hb, hml, hown, hts⟩ (c_X7_isProxy l hz rfl) (cwV 0 hts gX8_setFrom_X7_isProxy rfl rfl rfl (by decide +kernel) ⟨Nat.le_of_ble_eq_true rfl, Nat.le_of_ble_eq_true rfl⟩) hP hK (ev_recv hK hP hz) rfl hl.1 (Nat.le_of_ble_eq_true rfl) dX8_setFrom_20 ⟨Nat.le_of_ble_eq_true rfl, Nat.le_of_ble_eq_true rfl⟩ ?_
        refine eb_if_eq (tgt := 115) hx hb dX8_setFrom_23 (by decide) (fun c_7 => ?_) (fun c_7 => ?_)
        ·
          refine lv_aload hx hb dX8_setFrom_115 (lv_at hl 4 rfl) ?_
          refine lv_iload_n hx hb dX8_setFrom_117 rfl (lv_at hl 2 rfl) ?_
          refine ev_cv (As := [.int (nI k)]) (rest := []) ⟨hx, hb, hml, hown, hts⟩ (c_X7_holds l hz rfl (k := k) (by omega)) (cwV 1 hts gX8_setFrom_X7_holds rfl rfl rfl (by decide +kernel) ⟨Nat.le_of_ble_eq_true rfl, Nat.le_of_ble_eq_true rfl⟩) hP hK (ev_recv hK hP hz) rfl hl.1 (Nat.le_of_ble_eq_true rfl) dX8_setFrom_118 ⟨Nat.le_of_ble_eq_true rfl, Nat.le_of_ble_eq_true rfl⟩ ?_
          refine eb_if_eq (tgt := 147) hx hb dX8_setFrom_121 (by decide) (fun c_8 => ?_) (fun c_8 => ?_)
          ·
            refine lv_aload hx hb dX8_setFrom_147 (lv_at hl 4 rfl) ?_
            refine ev_get (v := ev_rf ad (ev_ch (st.2 z))) hx hb hts hi7 hown hK hP hz rfl 3 (by decide) (hts (.fieldLink RX8 57 "EventloopRow$Thing" "chain" "LEventloopRow$Thing;") (by decide +kernel)) rfl dX8_setFrom_149 ?_
            refine eo_astore (lv' := [(4, ev_rf ad (ev_ch (st.2 z))), (0, .ref (b 1)), (1, .ref (ad i 0)), (2, .int (nI k)), (3, .int v), (5, .int (nI q))]) hx hb dX8_setFrom_152 hl (by decide) rfl (fun ls hl => ?_)
            refine lv_iinc (v := nI (q + 1)) (lv' := [(5, .int (nI (q + 1))), (4, ev_rf ad (ev_ch (st.2 z))), (0, .ref (b 1)), (1, .ref (ad i 0)), (2, .int (nI k)), (3, .int v)]) hx hb dX8_setFrom_154 hl (k := 5) rfl (ev_inc1 _) (by decide) (by simp only [List.filter, ev_cat]; rfl) (fun ls hl => ?_)
            refine lv_goto (tgt := 6) hx hb dX8_setFrom_157 (by decide) ?_
            rw [show ev_sf st k v i (n + 1) (some z) = ev_sf st k v i n (ev_ch (st.2 z)) from (by simp [ev_sf, ev_yn, c_7, c_8])]
            exact ih (q + 1) (ev_ch (st.2 z)) (by omega) (hCH z hz) ls (lv_sub hl [2, 3, 4, 5, 1, 0] rfl)
          ·
            refine lv_aload hx hb dX8_setFrom_124 (lv_at hl 4 rfl) ?_
            refine lv_iconst (v := nI 1) hx hb dX8_setFrom_126 (by decide) ?_
            refine lv_iload_n hx hb dX8_setFrom_127 rfl (lv_at hl 2 rfl) ?_
            refine ev_cv (As := [.int (nI 1), .int (nI k)]) (rest := []) ⟨hx, hb, hml, hown, hts⟩ (c_X7_canBe l hz rfl (r := 1) (k := k) (by omega)) (cwV 2 hts gX8_setFrom_X7_canBe rfl rfl rfl (by decide +kernel) ⟨Nat.le_of_ble_eq_true rfl, Nat.le_of_ble_eq_true rfl⟩) hP hK (ev_recv hK hP hz) rfl hl.1 (Nat.le_of_ble_eq_true rfl) dX8_setFrom_128 ⟨Nat.le_of_ble_eq_true rfl, Nat.le_of_ble_eq_true rfl⟩ ?_
            refine eb_if_eq (tgt := 144) hx hb dX8_setFrom_131 (by decide) (fun c_9 => ?_) (fun c_9 => ?_)
            ·
              refine lv_bipush (v := nI 110) hx hb dX8_setFrom_144 (by decide) ?_
              exact em_char hx hb hr hlocks (ev_sf_lt _ _ _ _ _ _) (by simp [ev_sf, ev_yn, c_7, c_8, c_9]) (by rw [show (ev_sf st k v i (n + 1) (some z)).2 = st from (by simp [ev_sf, ev_yn, c_7, c_8, c_9])]; exact hP) hS dX8_setFrom_146
            ·
              refine lv_aload_n hx hb dX8_setFrom_134 rfl (lv_at hl 0 rfl) ?_
              refine lv_aload_n hx hb dX8_setFrom_135 rfl (lv_at hl 1 rfl) ?_
              refine lv_iload_n hx hb dX8_setFrom_136 rfl (lv_at hl 2 rfl) ?_
              refine lv_iload_n hx hb dX8_setFrom_137 rfl (lv_at hl 3 rfl) ?_
              refine ev_mv (As := [.ref (ad i 0), .int (nI k), .int v]) (rest := []) ⟨hx, hb, hml, hown, hts⟩ (c_X8_receive l hD hn hTG hi hk hKP (k := k) (v := v)) (cwV 3 hts gX8_setFrom_X8_receive rfl rfl rfl (by decide +kernel) ⟨Nat.le_of_ble_eq_true rfl, Nat.le_of_ble_eq_true rfl⟩) hP hK hS (ev_recvT hK hP) rfl hl.1 (Nat.le_of_ble_eq_true rfl) dX8_setFrom_138 ⟨Nat.le_of_ble_eq_true rfl, Nat.le_of_ble_eq_true rfl⟩ (fun H locs hP hz hk hS => ?_)
              refine lv_goto (tgt := 146) hx hb dX8_setFrom_141 (by decide) ?_
              exact em_char hx hb hr hlocks (ev_sf_lt _ _ _ _ _ _) (by simp [ev_sf, ev_yn, c_7, c_8, c_9]) (by rw [show (ev_sf st k v i (n + 1) (some z)).2 = (ev_rc st k v i).2 from (by simp [ev_sf, ev_yn, c_7, c_8, c_9])]; exact hP) hS dX8_setFrom_146
        ·
          refine lv_aload hx hb dX8_setFrom_26 (lv_at hl 4 rfl) ?_
          refine ev_get (v := .int (ev_bi (ev_rv (st.2 z)))) hx hb hts hi7 hown hK hP hz rfl 2 (by decide) (hts (.fieldLink RX8 25 "EventloopRow$Thing" "revoked" "Z") (by decide +kernel)) rfl dX8_setFrom_28 ?_
          refine eb_if_eq (tgt := 37) hx hb dX8_setFrom_31 (by decide) (fun c_10 => ?_) (fun c_10 => ?_)
          ·
            refine lv_aload hx hb dX8_setFrom_37 (lv_at hl 4 rfl) ?_
            refine lv_iconst (v := nI 2) hx hb dX8_setFrom_39 (by decide) ?_
            refine ev_cv (As := [.int (nI 2)]) (rest := []) ⟨hx, hb, hml, hown, hts⟩ (c_X7_isTold l hz rfl (k := 2) (by omega)) (cwV 1 hts gX8_setFrom_X7_isTold rfl rfl rfl (by decide +kernel) ⟨Nat.le_of_ble_eq_true rfl, Nat.le_of_ble_eq_true rfl⟩) hP hK (ev_recv hK hP hz) rfl hl.1 (Nat.le_of_ble_eq_true rfl) dX8_setFrom_40 ⟨Nat.le_of_ble_eq_true rfl, Nat.le_of_ble_eq_true rfl⟩ ?_
            refine eb_if_eq (tgt := 105) hx hb dX8_setFrom_43 (by decide) (fun c_11 => ?_) (fun c_11 => ?_)
            ·
              refine lv_aload hx hb dX8_setFrom_105 (lv_at hl 4 rfl) ?_
              refine ev_get (v := ev_rf ad (ev_tg (st.2 z))) hx hb hts hi7 hown hK hP hz rfl 0 (by decide) (hts (.fieldLink RX8 29 "EventloopRow$Thing" "target" "LEventloopRow$Thing;") (by decide +kernel)) rfl dX8_setFrom_107 ?_
              refine eo_astore (lv' := [(4, ev_rf ad (ev_tg (st.2 z))), (0, .ref (b 1)), (1, .ref (ad i 0)), (2, .int (nI k)), (3, .int v), (5, .int (nI q))]) hx hb dX8_setFrom_110 hl (by decide) rfl (fun ls hl => ?_)
              refine lv_goto (tgt := 154) hx hb dX8_setFrom_112 (by decide) ?_
              refine lv_iinc (v := nI (q + 1)) (lv' := [(5, .int (nI (q + 1))), (4, ev_rf ad (ev_tg (st.2 z))), (0, .ref (b 1)), (1, .ref (ad i 0)), (2, .int (nI k)), (3, .int v)]) hx hb dX8_setFrom_154 hl (k := 5) rfl (ev_inc1 _) (by decide) (by simp only [List.filter, ev_cat]; rfl) (fun ls hl => ?_)
              refine lv_goto (tgt := 6) hx hb dX8_setFrom_157 (by decide) ?_
              rw [show ev_sf st k v i (n + 1) (some z) = ev_sf st k v i n (ev_tg (st.2 z)) from (by simp [ev_sf, ev_yn, c_7, c_10, c_11])]
              exact ih (q + 1) (ev_tg (st.2 z)) (by omega) (hTG z hz) ls (lv_sub hl [2, 3, 4, 5, 1, 0] rfl)
            ·
              refine lv_aload hx hb dX8_setFrom_46 (lv_at hl 4 rfl) ?_
              refine lv_iconst (v := nI 2) hx hb dX8_setFrom_48 (by decide) ?_
              refine ev_cv (As := [.int (nI 2)]) (rest := []) ⟨hx, hb, hml, hown, hts⟩ (c_X7_answerTo l hz rfl (k := 2) (by omega)) (cwV 1 hts gX8_setFrom_X7_answerTo rfl rfl rfl (by decide +kernel) ⟨Nat.le_of_ble_eq_true rfl, Nat.le_of_ble_eq_true rfl⟩) hP hK (ev_recv hK hP hz) rfl hl.1 (Nat.le_of_ble_eq_true rfl) dX8_setFrom_49 ⟨Nat.le_of_ble_eq_true rfl, Nat.le_of_ble_eq_true rfl⟩ ?_
              refine lv_iconst (v := nI 1) hx hb dX8_setFrom_52 (by decide) ?_
              refine lv_icmp_ne (tgt := 60) hx hb dX8_setFrom_53 (by decide) (fun c_12 => ?_) (fun c_12 => ?_)
              ·
                refine lv_iconst (v := nI 0) hx hb dX8_setFrom_60 (by decide) ?_
                refine lv_istore (lv' := [(6, .int (nI 0)), (0, .ref (b 1)), (1, .ref (ad i 0)), (2, .int (nI k)), (3, .int v), (4, .ref (ad z 0)), (5, .int (nI q))]) hx hb dX8_setFrom_61 hl (by decide) rfl (fun ls hl => ?_)
                refine lv_aload_n hx hb dX8_setFrom_63 rfl (lv_at hl 1 rfl) ?_
                refine lv_aload hx hb dX8_setFrom_64 (lv_at hl 5 rfl) ?_
                refine ev_get (v := ev_rf ad (ev_tg (st.2 z))) hx hb hts hi7 hown hK hP hz rfl 0 (by decide) (hts (.fieldLink RX8 29 "EventloopRow$Thing" "target" "LEventloopRow$Thing;") (by decide +kernel)) rfl dX8_setFrom_66 ?_
                obtain ⟨j_13, e_14⟩ := Option.isSome_iff_exists.mp c_7
                rw [e_14]
                have hi_15 : j_13 < st.1 := (hTG z hz) _ e_14
                refine ev_cv (As := [.ref (ad j_13 0)]) (rest := []) ⟨hx, hb, hml, hown, hts⟩ (c_X8_plainBehind l hn hTG hi_15) (cwV 1 hts gX8_setFrom_X8_plainBehind rfl rfl rfl (by decide +kernel) ⟨Nat.le_of_ble_eq_true rfl, Nat.le_of_ble_eq_true rfl⟩) hP hK (ev_recvT hK hP) rfl hl.1 (Nat.le_of_ble_eq_true rfl) dX8_setFrom_69 ⟨Nat.le_of_ble_eq_true rfl, Nat.le_of_ble_eq_true rfl⟩ ?_
                refine eo_astore (lv' := [(7, ev_rf ad (ev_pb st 12 (some j_13))), (6, .int (nI 0)), (0, .ref (b 1)), (1, .ref (ad i 0)), (2, .int (nI k)), (3, .int v), (4, .ref (ad z 0)), (5, .int (nI q))]) hx hb dX8_setFrom_72 hl (by decide) rfl (fun ls hl => ?_)
                refine eo_aload hx hb dX8_setFrom_74 (lv_at hl 0 rfl) ?_
                refine eo_ifnull (tgt := 94) hx hb dX8_setFrom_76 (by decide) (fun c_16 => ?_) (fun j_17 c_16 => ?_)
                · -- null
                  rw [c_16] at hl
                  have hl : lv_has ls 8 [(7, .null), (6, .int (nI 0)), (0, .ref (b 1)), (1, .ref (ad i 0)), (2, .int (nI k)), (3, .int v), (4, .ref (ad z 0)), (5, .int (nI q))] := hl
                  refine lv_bipush (v := nI 84) hx hb dX8_setFrom_94 (by decide) ?_
                  refine lv_goto (tgt := 104) hx hb dX8_setFrom_96 (by decide) ?_
                  exact em_char hx hb hr hlocks (ev_sf_lt _ _ _ _ _ _) (by simp [ev_sf, ev_yn, c_7, c_10, c_11, c_12, e_14, c_16]) (by rw [show (ev_sf st k v i (n + 1) (some z)).2 = st from (by simp [ev_sf, ev_yn, c_7, c_10, c_11, c_12, e_14, c_16])]; exact hP) hS dX8_setFrom_104
                · -- some
                  rw [c_16] at hl
                  have hi_18 : j_17 < st.1 := (ev_pb_lt hTG 12 (some j_13) (fun _ h => by cases h; exact hi_15)) _ c_16
                  have hl : lv_has ls 8 [(7, .ref (ad j_17 0)), (6, .int (nI 0)), (0, .ref (b 1)), (1, .ref (ad i 0)), (2, .int (nI k)), (3, .int v), (4, .ref (ad z 0)), (5, .int (nI q))] := hl
                  refine lv_iload hx hb dX8_setFrom_79 (lv_at hl 1 rfl) ?_
                  refine en_if_eq (tgt := 99) hx hb (by omega) dX8_setFrom_81 (by decide) (fun c_19 => ?_) (fun c_19 => by exfalso; omega)
                  refine lv_iload hx hb dX8_setFrom_99 (lv_at hl 1 rfl) ?_
                  refine ev_cst (As := [.int (nI 0)]) (rest := []) ⟨hx, hb, hml, hown, hts⟩ (c_X8_yesOrNo l (b := b) (ad := ad) (x := 0) (by omega)) (va_cwS 1 hts gX8_setFrom_X8_yesOrNo rfl rfl rfl (by decide +kernel) ⟨Nat.le_of_ble_eq_true rfl, Nat.le_of_ble_eq_true rfl⟩) hP hK rfl hl.1 (Nat.le_of_ble_eq_true rfl) dX8_setFrom_101 ⟨Nat.le_of_ble_eq_true rfl, Nat.le_of_ble_eq_true rfl⟩ ?_
                  exact em_char hx hb hr hlocks (ev_sf_lt _ _ _ _ _ _) (by simp [ev_sf, ev_yn, c_7, c_10, c_11, c_12, e_14, c_16]) (by rw [show (ev_sf st k v i (n + 1) (some z)).2 = st from (by simp [ev_sf, ev_yn, c_7, c_10, c_11, c_12, e_14, c_16])]; exact hP) hS dX8_setFrom_104
              ·
                refine lv_iconst (v := nI 1) hx hb dX8_setFrom_56 (by decide) ?_
                refine lv_goto (tgt := 61) hx hb dX8_setFrom_57 (by decide) ?_
                refine lv_istore (lv' := [(6, .int (nI 1)), (0, .ref (b 1)), (1, .ref (ad i 0)), (2, .int (nI k)), (3, .int v), (4, .ref (ad z 0)), (5, .int (nI q))]) hx hb dX8_setFrom_61 hl (by decide) rfl (fun ls hl => ?_)
                refine lv_aload_n hx hb dX8_setFrom_63 rfl (lv_at hl 1 rfl) ?_
                refine lv_aload hx hb dX8_setFrom_64 (lv_at hl 5 rfl) ?_
                refine ev_get (v := ev_rf ad (ev_tg (st.2 z))) hx hb hts hi7 hown hK hP hz rfl 0 (by decide) (hts (.fieldLink RX8 29 "EventloopRow$Thing" "target" "LEventloopRow$Thing;") (by decide +kernel)) rfl dX8_setFrom_66 ?_
                obtain ⟨j_20, e_21⟩ := Option.isSome_iff_exists.mp c_7
                rw [e_21]
                have hi_22 : j_20 < st.1 := (hTG z hz) _ e_21
                refine ev_cv (As := [.ref (ad j_20 0)]) (rest := []) ⟨hx, hb, hml, hown, hts⟩ (c_X8_plainBehind l hn hTG hi_22) (cwV 1 hts gX8_setFrom_X8_plainBehind rfl rfl rfl (by decide +kernel) ⟨Nat.le_of_ble_eq_true rfl, Nat.le_of_ble_eq_true rfl⟩) hP hK (ev_recvT hK hP) rfl hl.1 (Nat.le_of_ble_eq_true rfl) dX8_setFrom_69 ⟨Nat.le_of_ble_eq_true rfl, Nat.le_of_ble_eq_true rfl⟩ ?_
                refine eo_astore (lv' := [(7, ev_rf ad (ev_pb st 12 (some j_20))), (6, .int (nI 1)), (0, .ref (b 1)), (1, .ref (ad i 0)), (2, .int (nI k)), (3, .int v), (4, .ref (ad z 0)), (5, .int (nI q))]) hx hb dX8_setFrom_72 hl (by decide) rfl (fun ls hl => ?_)
                refine eo_aload hx hb dX8_setFrom_74 (lv_at hl 0 rfl) ?_
                refine eo_ifnull (tgt := 94) hx hb dX8_setFrom_76 (by decide) (fun c_23 => ?_) (fun j_24 c_23 => ?_)
                · -- null
                  rw [c_23] at hl
                  have hl : lv_has ls 8 [(7, .null), (6, .int (nI 1)), (0, .ref (b 1)), (1, .ref (ad i 0)), (2, .int (nI k)), (3, .int v), (4, .ref (ad z 0)), (5, .int (nI q))] := hl
                  refine lv_bipush (v := nI 84) hx hb dX8_setFrom_94 (by decide) ?_
                  refine lv_goto (tgt := 104) hx hb dX8_setFrom_96 (by decide) ?_
                  exact em_char hx hb hr hlocks (ev_sf_lt _ _ _ _ _ _) (by simp [ev_sf, ev_yn, c_7, c_10, c_11, c_12, e_21, c_23]) (by rw [show (ev_sf st k v i (n + 1) (some z)).2 = st from (by simp [ev_sf, ev_yn, c_7, c_10, c_11, c_12, e_21, c_23])]; exact hP) hS dX8_setFrom_104
                · -- some
                  rw [c_23] at hl
                  have hi_25 : j_24 < st.1 := (ev_pb_lt hTG 12 (some j_20) (fun _ h => by cases h; exact hi_22)) _ c_23
                  have hl : lv_has ls 8 [(7, .ref (ad j_24 0)), (6, .int (nI 1)), (0, .ref (b 1)), (1, .ref (ad i 0)), (2, .int (nI k)), (3, .int v), (4, .ref (ad z 0)), (5, .int (nI q))] := hl
                  refine lv_iload hx hb dX8_setFrom_79 (lv_at hl 1 rfl) ?_
                  refine en_if_eq (tgt := 99) hx hb (by omega) dX8_setFrom_81 (by decide) (fun c_26 => by exfalso; omega) (fun c_26 => ?_)
                  refine lv_aload hx hb dX8_setFrom_84 (lv_at hl 0 rfl) ?_
                  refine lv_iload_n hx hb dX8_setFrom_86 rfl (lv_at hl 4 rfl) ?_
                  refine lv_iload_n hx hb dX8_setFrom_87 rfl (lv_at hl 5 rfl) ?_
                  refine ev_cv (As := [.int (nI k), .int v]) (rest := []) ⟨hx, hb, hml, hown, hts⟩ (c_X7_keepsOther l hi_25 rfl (k := k) (v := v) (by omega)) (cwV 2 hts gX8_setFrom_X7_keepsOther rfl rfl rfl (by decide +kernel) ⟨Nat.le_of_ble_eq_true rfl, Nat.le_of_ble_eq_true rfl⟩) hP hK (ev_recv hK hP hi_25) rfl hl.1 (Nat.le_of_ble_eq_true rfl) dX8_setFrom_88 ⟨Nat.le_of_ble_eq_true rfl, Nat.le_of_ble_eq_true rfl⟩ ?_
                  refine eb_if_eq (tgt := 99) hx hb dX8_setFrom_91 (by decide) (fun c_27 => ?_) (fun c_27 => ?_)
                  ·
                    refine lv_iload hx hb dX8_setFrom_99 (lv_at hl 1 rfl) ?_
                    refine ev_cst (As := [.int (nI 1)]) (rest := []) ⟨hx, hb, hml, hown, hts⟩ (c_X8_yesOrNo l (b := b) (ad := ad) (x := 1) (by omega)) (va_cwS 1 hts gX8_setFrom_X8_yesOrNo rfl rfl rfl (by decide +kernel) ⟨Nat.le_of_ble_eq_true rfl, Nat.le_of_ble_eq_true rfl⟩) hP hK rfl hl.1 (Nat.le_of_ble_eq_true rfl) dX8_setFrom_101 ⟨Nat.le_of_ble_eq_true rfl, Nat.le_of_ble_eq_true rfl⟩ ?_
                    exact em_char hx hb hr hlocks (ev_sf_lt _ _ _ _ _ _) (by simp [ev_sf, ev_yn, c_7, c_10, c_11, c_12, e_21, c_23, c_27]) (by rw [show (ev_sf st k v i (n + 1) (some z)).2 = st from (by simp [ev_sf, ev_yn, c_7, c_10, c_11, c_12, e_21, c_23, c_27])]; exact hP) hS dX8_setFrom_104
                  ·
                    refine lv_bipush (v := nI 84) hx hb dX8_setFrom_94 (by decide) ?_
                    refine lv_goto (tgt := 104) hx hb dX8_setFrom_96 (by decide) ?_
                    exact em_char hx hb hr hlocks (ev_sf_lt _ _ _ _ _ _) (by simp [ev_sf, ev_yn, c_7, c_10, c_11, c_12, e_21, c_23, c_27]) (by rw [show (ev_sf st k v i (n + 1) (some z)).2 = st from (by simp [ev_sf, ev_yn, c_7, c_10, c_11, c_12, e_21, c_23, c_27])]; exact hP) hS dX8_setFrom_104
          ·
            refine lv_bipush (v := nI 84) hx hb dX8_setFrom_34 (by decide) ?_
            exact em_char hx hb hr hlocks (ev_sf_lt _ _ _ _ _ _) (by simp [ev_sf, ev_yn, c_7, c_10]) (by rw [show (ev_sf st k v i (n + 1) (some z)).2 = st from (by simp [ev_sf, ev_yn, c_7, c_10])]; exact hP) hS dX8_setFrom_36
  refine lv_aload_n hx hb dX8_setFrom_0 rfl (lv_at hl 1 rfl) ?_
  refine lv_astore (lv' := [(4, .ref (ad i 0)), (0, .ref (b 1)), (1, .ref (ad i 0)), (2, .int (nI k)), (3, .int v)]) hx hb dX8_setFrom_1 hl (by decide) rfl (fun ls hl => ?_)
  refine lv_iconst (v := nI 0) hx hb dX8_setFrom_3 (by decide) ?_
  refine lv_istore (lv' := [(5, .int (nI 0)), (4, .ref (ad i 0)), (0, .ref (b 1)), (1, .ref (ad i 0)), (2, .int (nI k)), (3, .int v)]) hx hb dX8_setFrom_4 hl (by decide) rfl (fun ls hl => ?_)
  exact LP 30 0 (some i) rfl (fun _ h => by cases h; exact hi) ls (lv_sub hl [2, 3, 4, 5, 1, 0] rfl)
set_option maxHeartbeats 4000000 in
set_option maxRecDepth 100000 in
theorem c_X8_deleteFrom (l : Launch) {D : va_G} {cI cO : ClassId} {b : Nat → Nat} {ad : Nat → Nat → Nat} {st : ev_ST} {A : Nat → Prop} (hD : va_D A (ev_wl cI cO b ad st)) (hn : st.1 ≤ 12) (hTG : ∀ i, i < st.1 → ∀ j, ev_tg (st.2 i) = some j → j < st.1) {i k : Nat} (hi : i < st.1) (hk : k < 20) (hKC : ∀ j, j < st.1 → ev_kc (st.2 j) ≤ 20) : Met l yX8_deleteFrom wsX8_deleteFrom ({ frames := 2, cells := 0, slots := 0, locals := 45 }) (ev_Pc D cI cO (ev_P D cI cO b ad st) [.ref (b 1), .ref (ad i 0), .int (nI k)]) (ev_QM (some (.int (nI ((ev_df st k 12 (some i)).1)))) (ev_P D cI cO b ad (ev_df st k 12 (some i)).2) A) 0 0 A := by
  refine ev_body (cc := cX8_deleteFrom) (maxL := 7) (ret := (some .char)) (by decide) rfl (Nat.le_of_ble_eq_true rfl) ?_
  intro p e s m args below meth c hx hb hr hml hown hts hlocks hnm hP hK ls hl
  have hS : va_S A s.heap s.heap [] := va_S.rf
  have hl : lv_has ls 7 [(0, .ref (b 1)), (1, .ref (ad i 0)), (2, .int (nI k))] := hl
  have hi7 : ∀ w ∈ wsX70, w ∈ wsX8_deleteFrom := by decide +kernel
  have LP : ∀ (n q : Nat) (o : Option Nat), q + n = 12 → (∀ j, o = some j → j < st.1) → ∀ ls : Array Slot, lv_has ls 7 [(0, .ref (b 1)), (1, .ref (ad i 0)), (2, .int (nI k)), (3, ev_rf ad o), (4, .int (nI q))] → W p l e ({ frames := 2, cells := 0, slots := 0, locals := 45 }) s m args below meth c s.heap [] 0 0 (MQ below (ev_QM (some (.int (nI (ev_df st k n o).1))) (ev_P D cI cO b ad (ev_df st k n o).2) A) args s 0 0 A) (F0 m 5 ls []) := by
    intro n
    induction n with
    | zero =>
      intro q o hq ho ls hl
      refine lv_iload hx hb dX8_deleteFrom_5 (lv_at hl 4 rfl) ?_
      refine lv_bipush (v := nI 12) hx hb dX8_deleteFrom_7 (by decide) ?_
      refine en_icmp_ge (tgt := 114) hx hb (by omega) (by omega) dX8_deleteFrom_9 (by decide) (fun c_1 => ?_) (fun c_1 => by exfalso; omega)
      refine lv_bipush (v := nI 84) hx hb dX8_deleteFrom_114 (by decide) ?_
      exact em_char hx hb hr hlocks (ev_df_lt _ _ _ _) (by simp [ev_df, ev_yn]) (by rw [show (ev_df st k 0 o).2 = st from (by simp [ev_df, ev_yn])]; exact hP) hS dX8_deleteFrom_116
    | succ n ih =>
      intro q o hq ho ls hl
      cases o with
      | none =>
        have hl : lv_has ls 7 [(0, .ref (b 1)), (1, .ref (ad i 0)), (2, .int (nI k)), (3, .null), (4, .int (nI q))] := hl
        refine lv_iload hx hb dX8_deleteFrom_5 (lv_at hl 4 rfl) ?_
        refine lv_bipush (v := nI 12) hx hb dX8_deleteFrom_7 (by decide) ?_
        refine en_icmp_ge (tgt := 114) hx hb (by omega) (by omega) dX8_deleteFrom_9 (by decide) (fun c_2 => by exfalso; omega) (fun c_2 => ?_)
        refine lv_aload_nN hx hb dX8_deleteFrom_12 rfl (lv_at hl 3 rfl) ?_
        refine lv_ifnullN (tgt := 114) hx hb dX8_deleteFrom_13 (by decide) ?_
        refine lv_bipush (v := nI 84) hx hb dX8_deleteFrom_114 (by decide) ?_
        exact em_char hx hb hr hlocks (ev_df_lt _ _ _ _) (by simp [ev_df, ev_yn]) (by rw [show (ev_df st k (n + 1) none).2 = st from (by simp [ev_df, ev_yn])]; exact hP) hS dX8_deleteFrom_116
      | some z =>
        have hz : z < st.1 := ho z rfl
        have hl : lv_has ls 7 [(0, .ref (b 1)), (1, .ref (ad i 0)), (2, .int (nI k)), (3, .ref (ad z 0)), (4, .int (nI q))] := hl
        refine lv_iload hx hb dX8_deleteFrom_5 (lv_at hl 4 rfl) ?_
        refine lv_bipush (v := nI 12) hx hb dX8_deleteFrom_7 (by decide) ?_
        refine en_icmp_ge (tgt := 114) hx hb (by omega) (by omega) dX8_deleteFrom_9 (by decide) (fun c_3 => by exfalso; omega) (fun c_3 => ?_)
        refine lv_aload_n hx hb dX8_deleteFrom_12 rfl (lv_at hl 3 rfl) ?_
        refine lv_ifnull hx hb dX8_deleteFrom_13 ?_
        refine lv_aload_n hx hb dX8_deleteFrom_16 rfl (lv_at hl 3 rfl) ?_
        refine ev_cv (As := []) (rest := []) ⟨hx, hb, hml, hown, hts⟩ (c_X7_isProxy l hz rfl) (cwV 0 hts gX8_deleteFrom_X7_isProxy rfl rfl rfl (by decide +kernel) ⟨Nat.le_of_ble_eq_true rfl, Nat.le_of_ble_eq_true rfl⟩) hP hK (ev_recv hK hP hz) rfl hl.1 (Nat.le_of_ble_eq_true rfl) dX8_deleteFrom_17 ⟨Nat.le_of_ble_eq_true rfl, Nat.le_of_ble_eq_true rfl⟩ ?_
        refine eb_if_ne (tgt := 29) hx hb dX8_deleteFrom_20 (by decide) (fun c_4 => ?_) (fun c_4 => ?_)
        ·
          refine lv_aload_n hx hb dX8_deleteFrom_29 rfl (lv_at hl 3 rfl) ?_
          refine ev_get (v := .int (ev_bi (ev_rv (st.2 z)))) hx hb hts hi7 hown hK hP hz rfl 2 (by decide) (hts (.fieldLink RX8 25 "EventloopRow$Thing" "revoked" "Z") (by decide +kernel)) rfl dX8_deleteFrom_30 ?_
          refine eb_if_eq (tgt := 39) hx hb dX8_deleteFrom_33 (by decide) (fun c_5 => ?_) (fun c_5 => ?_)
          ·
            refine lv_aload_n hx hb dX8_deleteFrom_39 rfl (lv_at hl 3 rfl) ?_
            refine lv_iconst (v := nI 3) hx hb dX8_deleteFrom_40 (by decide) ?_
            refine ev_cv (As := [.int (nI 3)]) (rest := []) ⟨hx, hb, hml, hown, hts⟩ (c_X7_isTold l hz rfl (k := 3) (by omega)) (cwV 1 hts gX8_deleteFrom_X7_isTold rfl rfl rfl (by decide +kernel) ⟨Nat.le_of_ble_eq_true rfl, Nat.le_of_ble_eq_true rfl⟩) hP hK (ev_recv hK hP hz) rfl hl.1 (Nat.le_of_ble_eq_true rfl) dX8_deleteFrom_41 ⟨Nat.le_of_ble_eq_true rfl, Nat.le_of_ble_eq_true rfl⟩ ?_
            refine eb_if_eq (tgt := 103) hx hb dX8_deleteFrom_44 (by decide) (fun c_6 => ?_) (fun c_6 => ?_)
            ·
              refine lv_aload_n hx hb dX8_deleteFrom_103 rfl (lv_at hl 3 rfl) ?_
              refine ev_get (v := ev_rf ad (ev_tg (st.2 z))) hx hb hts hi7 hown hK hP hz rfl 0 (by decide) (hts (.fieldLink RX8 29 "EventloopRow$Thing" "target" "LEventloopRow$Thing;") (by decide +kernel)) rfl dX8_deleteFrom_104 ?_
              refine eo_astore_n (lv' := [(3, ev_rf ad (ev_tg (st.2 z))), (0, .ref (b 1)), (1, .ref (ad i 0)), (2, .int (nI k)), (4, .int (nI q))]) hx hb dX8_deleteFrom_107 rfl hl (by decide) rfl (fun ls hl => ?_)
              refine lv_iinc (v := nI (q + 1)) (lv' := [(4, .int (nI (q + 1))), (3, ev_rf ad (ev_tg (st.2 z))), (0, .ref (b 1)), (1, .ref (ad i 0)), (2, .int (nI k))]) hx hb dX8_deleteFrom_108 hl (k := 4) rfl (ev_inc1 _) (by decide) (by simp only [List.filter, ev_cat]; rfl) (fun ls hl => ?_)
              refine lv_goto (tgt := 5) hx hb dX8_deleteFrom_111 (by decide) ?_
              rw [show ev_df st k (n + 1) (some z) = ev_df st k n (ev_tg (st.2 z)) from (by simp [ev_df, ev_yn, c_4, c_5, c_6])]
              exact ih (q + 1) (ev_tg (st.2 z)) (by omega) (hTG z hz) ls (lv_sub hl [2, 3, 4, 1, 0] rfl)
            ·
              refine lv_aload_n hx hb dX8_deleteFrom_47 rfl (lv_at hl 3 rfl) ?_
              refine lv_iconst (v := nI 3) hx hb dX8_deleteFrom_48 (by decide) ?_
              refine ev_cv (As := [.int (nI 3)]) (rest := []) ⟨hx, hb, hml, hown, hts⟩ (c_X7_answerTo l hz rfl (k := 3) (by omega)) (cwV 1 hts gX8_deleteFrom_X7_answerTo rfl rfl rfl (by decide +kernel) ⟨Nat.le_of_ble_eq_true rfl, Nat.le_of_ble_eq_true rfl⟩) hP hK (ev_recv hK hP hz) rfl hl.1 (Nat.le_of_ble_eq_true rfl) dX8_deleteFrom_49 ⟨Nat.le_of_ble_eq_true rfl, Nat.le_of_ble_eq_true rfl⟩ ?_
              refine lv_iconst (v := nI 1) hx hb dX8_deleteFrom_52 (by decide) ?_
              refine lv_icmp_ne (tgt := 60) hx hb dX8_deleteFrom_53 (by decide) (fun c_7 => ?_) (fun c_7 => ?_)
              ·
                refine lv_iconst (v := nI 0) hx hb dX8_deleteFrom_60 (by decide) ?_
                refine lv_istore (lv' := [(5, .int (nI 0)), (0, .ref (b 1)), (1, .ref (ad i 0)), (2, .int (nI k)), (3, .ref (ad z 0)), (4, .int (nI q))]) hx hb dX8_deleteFrom_61 hl (by decide) rfl (fun ls hl => ?_)
                refine lv_aload_n hx hb dX8_deleteFrom_63 rfl (lv_at hl 1 rfl) ?_
                refine lv_aload_n hx hb dX8_deleteFrom_64 rfl (lv_at hl 4 rfl) ?_
                refine ev_get (v := ev_rf ad (ev_tg (st.2 z))) hx hb hts hi7 hown hK hP hz rfl 0 (by decide) (hts (.fieldLink RX8 29 "EventloopRow$Thing" "target" "LEventloopRow$Thing;") (by decide +kernel)) rfl dX8_deleteFrom_65 ?_
                obtain ⟨j_8, e_9⟩ := Option.isSome_iff_exists.mp c_4
                rw [e_9]
                have hi_10 : j_8 < st.1 := (hTG z hz) _ e_9
                refine ev_cv (As := [.ref (ad j_8 0)]) (rest := []) ⟨hx, hb, hml, hown, hts⟩ (c_X8_plainBehind l hn hTG hi_10) (cwV 1 hts gX8_deleteFrom_X8_plainBehind rfl rfl rfl (by decide +kernel) ⟨Nat.le_of_ble_eq_true rfl, Nat.le_of_ble_eq_true rfl⟩) hP hK (ev_recvT hK hP) rfl hl.1 (Nat.le_of_ble_eq_true rfl) dX8_deleteFrom_68 ⟨Nat.le_of_ble_eq_true rfl, Nat.le_of_ble_eq_true rfl⟩ ?_
                refine eo_astore (lv' := [(6, ev_rf ad (ev_pb st 12 (some j_8))), (5, .int (nI 0)), (0, .ref (b 1)), (1, .ref (ad i 0)), (2, .int (nI k)), (3, .ref (ad z 0)), (4, .int (nI q))]) hx hb dX8_deleteFrom_71 hl (by decide) rfl (fun ls hl => ?_)
                refine eo_aload hx hb dX8_deleteFrom_73 (lv_at hl 0 rfl) ?_
                refine eo_ifnull (tgt := 92) hx hb dX8_deleteFrom_75 (by decide) (fun c_11 => ?_) (fun j_12 c_11 => ?_)
                · -- null
                  rw [c_11] at hl
                  have hl : lv_has ls 7 [(6, .null), (5, .int (nI 0)), (0, .ref (b 1)), (1, .ref (ad i 0)), (2, .int (nI k)), (3, .ref (ad z 0)), (4, .int (nI q))] := hl
                  refine lv_bipush (v := nI 84) hx hb dX8_deleteFrom_92 (by decide) ?_
                  refine lv_goto (tgt := 102) hx hb dX8_deleteFrom_94 (by decide) ?_
                  exact em_char hx hb hr hlocks (ev_df_lt _ _ _ _) (by simp [ev_df, ev_yn, c_4, c_5, c_6, c_7, e_9, c_11]) (by rw [show (ev_df st k (n + 1) (some z)).2 = st from (by simp [ev_df, ev_yn, c_4, c_5, c_6, c_7, e_9, c_11])]; exact hP) hS dX8_deleteFrom_102
                · -- some
                  rw [c_11] at hl
                  have hi_13 : j_12 < st.1 := (ev_pb_lt hTG 12 (some j_8) (fun _ h => by cases h; exact hi_10)) _ c_11
                  have hl : lv_has ls 7 [(6, .ref (ad j_12 0)), (5, .int (nI 0)), (0, .ref (b 1)), (1, .ref (ad i 0)), (2, .int (nI k)), (3, .ref (ad z 0)), (4, .int (nI q))] := hl
                  refine lv_iload hx hb dX8_deleteFrom_78 (lv_at hl 1 rfl) ?_
                  refine en_if_eq (tgt := 97) hx hb (by omega) dX8_deleteFrom_80 (by decide) (fun c_14 => ?_) (fun c_14 => by exfalso; omega)
                  refine lv_iload hx hb dX8_deleteFrom_97 (lv_at hl 1 rfl) ?_
                  refine ev_cst (As := [.int (nI 0)]) (rest := []) ⟨hx, hb, hml, hown, hts⟩ (c_X8_yesOrNo l (b := b) (ad := ad) (x := 0) (by omega)) (va_cwS 1 hts gX8_deleteFrom_X8_yesOrNo rfl rfl rfl (by decide +kernel) ⟨Nat.le_of_ble_eq_true rfl, Nat.le_of_ble_eq_true rfl⟩) hP hK rfl hl.1 (Nat.le_of_ble_eq_true rfl) dX8_deleteFrom_99 ⟨Nat.le_of_ble_eq_true rfl, Nat.le_of_ble_eq_true rfl⟩ ?_
                  exact em_char hx hb hr hlocks (ev_df_lt _ _ _ _) (by simp [ev_df, ev_yn, c_4, c_5, c_6, c_7, e_9, c_11]) (by rw [show (ev_df st k (n + 1) (some z)).2 = st from (by simp [ev_df, ev_yn, c_4, c_5, c_6, c_7, e_9, c_11])]; exact hP) hS dX8_deleteFrom_102
              ·
                refine lv_iconst (v := nI 1) hx hb dX8_deleteFrom_56 (by decide) ?_
                refine lv_goto (tgt := 61) hx hb dX8_deleteFrom_57 (by decide) ?_
                refine lv_istore (lv' := [(5, .int (nI 1)), (0, .ref (b 1)), (1, .ref (ad i 0)), (2, .int (nI k)), (3, .ref (ad z 0)), (4, .int (nI q))]) hx hb dX8_deleteFrom_61 hl (by decide) rfl (fun ls hl => ?_)
                refine lv_aload_n hx hb dX8_deleteFrom_63 rfl (lv_at hl 1 rfl) ?_
                refine lv_aload_n hx hb dX8_deleteFrom_64 rfl (lv_at hl 4 rfl) ?_
                refine ev_get (v := ev_rf ad (ev_tg (st.2 z))) hx hb hts hi7 hown hK hP hz rfl 0 (by decide) (hts (.fieldLink RX8 29 "EventloopRow$Thing" "target" "LEventloopRow$Thing;") (by decide +kernel)) rfl dX8_deleteFrom_65 ?_
                obtain ⟨j_15, e_16⟩ := Option.isSome_iff_exists.mp c_4
                rw [e_16]
                have hi_17 : j_15 < st.1 := (hTG z hz) _ e_16
                refine ev_cv (As := [.ref (ad j_15 0)]) (rest := []) ⟨hx, hb, hml, hown, hts⟩ (c_X8_plainBehind l hn hTG hi_17) (cwV 1 hts gX8_deleteFrom_X8_plainBehind rfl rfl rfl (by decide +kernel) ⟨Nat.le_of_ble_eq_true rfl, Nat.le_of_ble_eq_true rfl⟩) hP hK (ev_recvT hK hP) rfl hl.1 (Nat.le_of_ble_eq_true rfl) dX8_deleteFrom_68 ⟨Nat.le_of_ble_eq_true rfl, Nat.le_of_ble_eq_true rfl⟩ ?_
                refine eo_astore (lv' := [(6, ev_rf ad (ev_pb st 12 (some j_15))), (5, .int (nI 1)), (0, .ref (b 1)), (1, .ref (ad i 0)), (2, .int (nI k)), (3, .ref (ad z 0)), (4, .int (nI q))]) hx hb dX8_deleteFrom_71 hl (by decide) rfl (fun ls hl => ?_)
                refine eo_aload hx hb dX8_deleteFrom_73 (lv_at hl 0 rfl) ?_
                refine eo_ifnull (tgt := 92) hx hb dX8_deleteFrom_75 (by decide) (fun c_18 => ?_) (fun j_19 c_18 => ?_)
                · -- null
                  rw [c_18] at hl
                  have hl : lv_has ls 7 [(6, .null), (5, .int (nI 1)), (0, .ref (b 1)), (1, .ref (ad i 0)), (2, .int (nI k)), (3, .ref (ad z 0)), (4, .int (nI q))] := hl
                  refine lv_bipush (v := nI 84) hx hb dX8_deleteFrom_92 (by decide) ?_
                  refine lv_goto (tgt := 102) hx hb dX8_deleteFrom_94 (by decide) ?_
                  exact em_char hx hb hr hlocks (ev_df_lt _ _ _ _) (by simp [ev_df, ev_yn, c_4, c_5, c_6, c_7, e_16, c_18]) (by rw [show (ev_df st k (n + 1) (some z)).2 = st from (by simp [ev_df, ev_yn, c_4, c_5, c_6, c_7, e_16, c_18])]; exact hP) hS dX8_deleteFrom_102
                · -- some
                  rw [c_18] at hl
                  have hi_20 : j_19 < st.1 := (ev_pb_lt hTG 12 (some j_15) (fun _ h => by cases h; exact hi_17)) _ c_18
                  have hl : lv_has ls 7 [(6, .ref (ad j_19 0)), (5, .int (nI 1)), (0, .ref (b 1)), (1, .ref (ad i 0)), (2, .int (nI k)), (3, .ref (ad z 0)), (4, .int (nI q))] := hl
                  refine lv_iload hx hb dX8_deleteFrom_78 (lv_at hl 1 rfl) ?_
                  refine en_if_eq (tgt := 97) hx hb (by omega) dX8_deleteFrom_80 (by decide) (fun c_21 => by exfalso; omega) (fun c_21 => ?_)
                  refine lv_aload hx hb dX8_deleteFrom_83 (lv_at hl 0 rfl) ?_
                  refine lv_iload_n hx hb dX8_deleteFrom_85 rfl (lv_at hl 4 rfl) ?_
                  refine ev_cv (As := [.int (nI k)]) (rest := []) ⟨hx, hb, hml, hown, hts⟩ (c_X7_keepsKey l hi_20 rfl (k := k) (by omega)) (cwV 1 hts gX8_deleteFrom_X7_keepsKey rfl rfl rfl (by decide +kernel) ⟨Nat.le_of_ble_eq_true rfl, Nat.le_of_ble_eq_true rfl⟩) hP hK (ev_recv hK hP hi_20) rfl hl.1 (Nat.le_of_ble_eq_true rfl) dX8_deleteFrom_86 ⟨Nat.le_of_ble_eq_true rfl, Nat.le_of_ble_eq_true rfl⟩ ?_
                  refine eb_if_eq (tgt := 97) hx hb dX8_deleteFrom_89 (by decide) (fun c_22 => ?_) (fun c_22 => ?_)
                  ·
                    refine lv_iload hx hb dX8_deleteFrom_97 (lv_at hl 1 rfl) ?_
                    refine ev_cst (As := [.int (nI 1)]) (rest := []) ⟨hx, hb, hml, hown, hts⟩ (c_X8_yesOrNo l (b := b) (ad := ad) (x := 1) (by omega)) (va_cwS 1 hts gX8_deleteFrom_X8_yesOrNo rfl rfl rfl (by decide +kernel) ⟨Nat.le_of_ble_eq_true rfl, Nat.le_of_ble_eq_true rfl⟩) hP hK rfl hl.1 (Nat.le_of_ble_eq_true rfl) dX8_deleteFrom_99 ⟨Nat.le_of_ble_eq_true rfl, Nat.le_of_ble_eq_true rfl⟩ ?_
                    exact em_char hx hb hr hlocks (ev_df_lt _ _ _ _) (by simp [ev_df, ev_yn, c_4, c_5, c_6, c_7, e_16, c_18, c_22]) (by rw [show (ev_df st k (n + 1) (some z)).2 = st from (by simp [ev_df, ev_yn, c_4, c_5, c_6, c_7, e_16, c_18, c_22])]; exact hP) hS dX8_deleteFrom_102
                  ·
                    refine lv_bipush (v := nI 84) hx hb dX8_deleteFrom_92 (by decide) ?_
                    refine lv_goto (tgt := 102) hx hb dX8_deleteFrom_94 (by decide) ?_
                    exact em_char hx hb hr hlocks (ev_df_lt _ _ _ _) (by simp [ev_df, ev_yn, c_4, c_5, c_6, c_7, e_16, c_18, c_22]) (by rw [show (ev_df st k (n + 1) (some z)).2 = st from (by simp [ev_df, ev_yn, c_4, c_5, c_6, c_7, e_16, c_18, c_22])]; exact hP) hS dX8_deleteFrom_102
          ·
            refine lv_bipush (v := nI 84) hx hb dX8_deleteFrom_36 (by decide) ?_
            exact em_char hx hb hr hlocks (ev_df_lt _ _ _ _) (by simp [ev_df, ev_yn, c_4, c_5]) (by rw [show (ev_df st k (n + 1) (some z)).2 = st from (by simp [ev_df, ev_yn, c_4, c_5])]; exact hP) hS dX8_deleteFrom_38
        ·
          refine lv_aload_n hx hb dX8_deleteFrom_23 rfl (lv_at hl 3 rfl) ?_
          refine lv_iload_n hx hb dX8_deleteFrom_24 rfl (lv_at hl 2 rfl) ?_
          refine ev_mv (As := [.int (nI k)]) (rest := []) ⟨hx, hb, hml, hown, hts⟩ (c_X7_takeOut l hz (ev_focD z hD) (k := k) (by omega) (hKC z hz)) (cwV 1 hts gX8_deleteFrom_X7_takeOut rfl rfl rfl (by decide +kernel) ⟨Nat.le_of_ble_eq_true rfl, Nat.le_of_ble_eq_true rfl⟩) (ev_foc hP) hK hS (ev_recv hK hP hz) rfl hl.1 (Nat.le_of_ble_eq_true rfl) dX8_deleteFrom_25 ⟨Nat.le_of_ble_eq_true rfl, Nat.le_of_ble_eq_true rfl⟩ (fun H locs hP hz hk hS => ?_)
          exact em_char hx hb hr hlocks (ev_df_lt _ _ _ _) (by simp [ev_df, ev_yn, c_4]) (by rw [show (ev_df st k (n + 1) (some z)).2 = ev_up st z (ev_tk (st.2 z) k).2 from (by simp [ev_df, ev_yn, c_4])]; exact hP) hS dX8_deleteFrom_28
  refine lv_aload_n hx hb dX8_deleteFrom_0 rfl (lv_at hl 1 rfl) ?_
  refine lv_astore_n (lv' := [(3, .ref (ad i 0)), (0, .ref (b 1)), (1, .ref (ad i 0)), (2, .int (nI k))]) hx hb dX8_deleteFrom_1 rfl hl (by decide) rfl (fun ls hl => ?_)
  refine lv_iconst (v := nI 0) hx hb dX8_deleteFrom_2 (by decide) ?_
  refine lv_istore (lv' := [(4, .int (nI 0)), (3, .ref (ad i 0)), (0, .ref (b 1)), (1, .ref (ad i 0)), (2, .int (nI k))]) hx hb dX8_deleteFrom_3 hl (by decide) rfl (fun ls hl => ?_)
  exact LP 12 0 (some i) rfl (fun _ h => by cases h; exact hi) ls (lv_sub hl [2, 3, 4, 1, 0] rfl)
