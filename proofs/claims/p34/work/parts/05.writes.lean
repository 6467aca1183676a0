/-! 05.writes: what a thing does to itself -/
theorem ev_D_re {A : Nat → Prop} {cI cO : ClassId} {b : Nat → Nat} {ad : Nat → Nat → Nat} {st : ev_ST} {i : Nat} {t t2 : ev_TH} (hD : va_D A (ev_wl cI cO b ad (ev_up st i t))) : va_D A (ev_wl cI cO b ad (ev_up st i t2)) := ev_D_of (ev_wl_addr cI cO b ad (ev_up st i t) (ev_up st i t2) rfl) hD
def ev_kA (t : ev_TH) (w : Nat) (x : Int32) : ev_TH := (ev_tg t, ev_ch t, ev_rv t, ev_cs t, upd (ev_an t) w x, ev_va t, ev_rg t, ev_ke t, ev_kc t)
/-- key k goes to its place among the first n keys -/
def ev_lk (k : Nat) : Nat → (Nat → Int32) → Nat → Int32
  | 0, f => upd f 0 (nI k)
  | n + 1, f => if k < 10 ∧ ¬ f n ≤ nI k then ev_lk k n (upd f (n + 1) (f n)) else upd f (n + 1) (nI k)
theorem ev_lk_s (k n : Nat) (f : Nat → Int32) : ev_lk k (n + 1) f = if k < 10 ∧ ¬ f n ≤ nI k then ev_lk k n (upd f (n + 1) (f n)) else upd f (n + 1) (nI k) := rfl
def ev_lst (t : ev_TH) (k : Nat) : ev_TH := (ev_tg t, ev_ch t, ev_rv t, ev_cs t, ev_an t, ev_va t, ev_rg t, ev_lk k (ev_kc t) (ev_ke t), ev_kc t + 1)
def ev_wr (t : ev_TH) (k : Nat) (v r : Int32) : ev_TH := (ev_tg t, ev_ch t, ev_rv t, ev_cs t, ev_an t, upd (ev_va t) k v, upd (ev_rg t) k r, ev_ke t, ev_kc t)
def ev_pi (t : ev_TH) (k : Nat) (v r : Int32) : Nat × ev_TH :=
  if ev_holds t k then
    (if ev_can t 4 k then (121, ev_wr t k v r) else if ev_allow (ev_rg t k) r (decide (ev_va t k = v)) then (121, ev_wr t k v r) else (110, t))
  else if ev_cs t then (110, t) else (121, ev_wr (ev_lst t k) k v r)
/-- n keys from place j on: those that aren't k go to place p and on -/
def ev_rm (k : Nat) : Nat → Nat → Nat → (Nat → Int32) → (Nat → Int32) × Nat
  | 0, _, p, f => (f, p)
  | n + 1, j, p, f => if f j = nI k then ev_rm k n (j + 1) p f else ev_rm k n (j + 1) (p + 1) (upd f p (f j))
def ev_tk (t : ev_TH) (k : Nat) : Nat × ev_TH :=
  if ev_holds t k then
    (if ev_can t 4 k then (121, (ev_tg t, ev_ch t, ev_rv t, ev_cs t, ev_an t, ev_va t, upd (ev_rg t) k (-1), (ev_rm k (ev_kc t) 0 0 (ev_ke t)).1, (ev_rm k (ev_kc t) 0 0 (ev_ke t)).2)) else (110, t))
  else (121, t)
theorem ev_pi_lt (t : ev_TH) (k : Nat) (v r : Int32) : (ev_pi t k v r).1 < 65536 := by
  unfold ev_pi
  split
  · split
    · simp
    · split <;> simp
  · split <;> simp
theorem ev_tk_lt (t : ev_TH) (k : Nat) : (ev_tk t k).1 < 65536 := by
  unfold ev_tk
  split
  · split <;> simp
  · simp
set_option maxHeartbeats 4000000 in
set_option maxRecDepth 100000 in
theorem c_X7_keepAnswer (l : Launch) {D : va_G} {cI cO : ClassId} {b : Nat → Nat} {ad : Nat → Nat → Nat} {st : ev_ST} {A : Nat → Prop} {i : Nat} {t : ev_TH} (hi : i < st.1) (hD : va_D A (ev_wl cI cO b ad (ev_up st i t))) {w : Nat} {x : Int32} (hw : w < 4) : Met l yX7_keepAnswer wsX7_keepAnswer ({ frames := 0, cells := 0, slots := 0, locals := 0 }) (ev_Pc D cI cO (ev_P D cI cO b ad (ev_up st i t)) [.ref (ad i 0), .int (nI w), .int x]) (ev_QM none (ev_P D cI cO b ad (ev_up st i (ev_kA t w x))) A) 0 0 A := by
  refine ev_body (cc := cX7_keepAnswer) (maxL := 3) (ret := none) (by decide) rfl (Nat.le_of_ble_eq_true rfl) ?_
  intro p e s m args below meth c hx hb hr hml hown hts hlocks hnm hP hK ls hl
  have hS : va_S A s.heap s.heap [] := va_S.rf
  have hl : lv_has ls 3 [(0, .ref (ad i 0)), (1, .int (nI w)), (2, .int x)] := hl
  have hi7 : ∀ w ∈ wsX70, w ∈ wsX7_keepAnswer := by decide +kernel
  refine lv_iload_n hx hb dX7_keepAnswer_0 rfl (lv_at hl 1 rfl) ?_
  refine en_if_lt (tgt := 16) hx hb (by omega) dX7_keepAnswer_1 (by decide) ?_
  refine lv_iload_n hx hb dX7_keepAnswer_4 rfl (lv_at hl 1 rfl) ?_
  refine lv_iconst (v := nI 4) hx hb dX7_keepAnswer_5 (by decide) ?_
  refine en_icmp_ge (tgt := 16) hx hb (by omega) (by omega) dX7_keepAnswer_6 (by decide) (fun c_2 => by exfalso; omega) (fun c_2 => ?_)
  refine lv_aload_n hx hb dX7_keepAnswer_9 rfl (lv_at hl 0 rfl) ?_
  refine ev_get (v := .ref (ad i 1)) hx hb hts hi7 hown hK hP hi (ev_up_s st i _) 1 (by decide) (hts (.fieldLink RX7 18 "EventloopRow$Thing" "answers" "[I") (by decide +kernel)) rfl dX7_keepAnswer_10 ?_
  refine lv_iload_n hx hb dX7_keepAnswer_13 rfl (lv_at hl 1 rfl) ?_
  refine lv_iload_n hx hb dX7_keepAnswer_14 rfl (lv_at hl 2 rfl) ?_
  refine ev_ast (t := t) hx hb hK hP hD hS hi 1 (by decide) rfl w (by omega) (by decide) (ev_tg t, ev_ch t, ev_rv t, ev_cs t, upd (ev_an t) w x, ev_va t, ev_rg t, ev_ke t, ev_kc t) rfl (fun k h1 h2 => by rcases k with _ | _ | _ | _ | _ | k <;> first | rfl | exact absurd rfl h2 | omega) dX7_keepAnswer_15 (fun H locs hP hD hS => ?_)
  exact em_void hx hb hr hlocks (by rw [show (ev_kA t w x) = (ev_tg t, ev_ch t, ev_rv t, ev_cs t, upd (ev_an t) w x, ev_va t, ev_rg t, ev_ke t, ev_kc t) from rfl]; exact hP) hS dX7_keepAnswer_16
set_option maxHeartbeats 4000000 in
set_option maxRecDepth 100000 in
theorem c_X7_listKey (l : Launch) {D : va_G} {cI cO : ClassId} {b : Nat → Nat} {ad : Nat → Nat → Nat} {st : ev_ST} {A : Nat → Prop} {i : Nat} {t : ev_TH} (hi : i < st.1) (hD : va_D A (ev_wl cI cO b ad (ev_up st i t))) {k : Nat} (hk : k < 20) (hkc : ev_kc t < 20) : Met l yX7_listKey wsX7_listKey ({ frames := 0, cells := 0, slots := 0, locals := 0 }) (ev_Pc D cI cO (ev_P D cI cO b ad (ev_up st i t)) [.ref (ad i 0), .int (nI k)]) (ev_QM none (ev_P D cI cO b ad (ev_up st i (ev_lst t k))) A) 0 0 A := by
  refine ev_body (cc := cX7_listKey) (maxL := 3) (ret := none) (by decide) rfl (Nat.le_of_ble_eq_true rfl) ?_
  intro p e s m args below meth c hx hb hr hml hown hts hlocks hnm hP hK ls hl
  have hS : va_S A s.heap s.heap [] := va_S.rf
  have hl : lv_has ls 3 [(0, .ref (ad i 0)), (1, .int (nI k))] := hl
  have hi7 : ∀ w ∈ wsX70, w ∈ wsX7_listKey := by decide +kernel
  have LP : ∀ (n : Nat) (f : Nat → Int32) (H : Heap) (locs : List Loc), n ≤ ev_kc t → ev_P D cI cO b ad (ev_up st i (ev_tg t, ev_ch t, ev_rv t, ev_cs t, ev_an t, ev_va t, ev_rg t, f, ev_kc t)) H → va_D A (ev_wl cI cO b ad (ev_up st i (ev_tg t, ev_ch t, ev_rv t, ev_cs t, ev_an t, ev_va t, ev_rg t, f, ev_kc t))) → va_S A s.heap H locs → ∀ ls : Array Slot, lv_has ls 3 [(0, .ref (ad i 0)), (1, .int (nI k)), (2, .int (nI n))] → W p l e ({ frames := 0, cells := 0, slots := 0, locals := 0 }) s m args below meth c H locs 0 0 (MQ below (ev_QM none (ev_P D cI cO b ad (ev_up st i (ev_tg t, ev_ch t, ev_rv t, ev_cs t, ev_an t, ev_va t, ev_rg t, ev_lk k n f, ev_kc t + 1))) A) args s 0 0 A) (F0 m 22 ls []) := by
    intro n
    induction n with
    | zero =>
      intro f H locs hn hP hD hS ls hl
      refine lv_iload_n hx hb dX7_listKey_22 rfl (lv_at hl 2 rfl) ?_
      refine en_if_le (tgt := 64) hx hb (by omega) dX7_listKey_23 (by decide) (fun c_1 => ?_) (fun c_1 => by exfalso; omega)
      refine lv_aload_n hx hb dX7_listKey_64 rfl (lv_at hl 0 rfl) ?_
      refine ev_get (v := .ref (ad i 4)) hx hb hts hi7 hown hK hP hi (ev_up_s st i _) 7 (by decide) (hts (.fieldLink RX7 28 "EventloopRow$Thing" "keyRow" "[I") (by decide +kernel)) rfl dX7_listKey_65 ?_
      refine lv_iload_n hx hb dX7_listKey_68 rfl (lv_at hl 2 rfl) ?_
      refine lv_iload_n hx hb dX7_listKey_69 rfl (lv_at hl 1 rfl) ?_
      refine ev_ast (t := (ev_tg t, ev_ch t, ev_rv t, ev_cs t, ev_an t, ev_va t, ev_rg t, f, ev_kc t)) hx hb hK hP hD hS hi 4 (by decide) rfl 0 (by omega) (by decide) (ev_tg t, ev_ch t, ev_rv t, ev_cs t, ev_an t, ev_va t, ev_rg t, upd f 0 (nI k), ev_kc t) rfl (fun k h1 h2 => by rcases k with _ | _ | _ | _ | _ | k <;> first | rfl | exact absurd rfl h2 | omega) dX7_listKey_70 (fun H locs hP hD hS => ?_)
      refine lv_aload_n hx hb dX7_listKey_71 rfl (lv_at hl 0 rfl) ?_
      refine lv_dup hx hb dX7_listKey_72 rfl ?_
      refine ev_get (v := .int (nI (ev_kc t))) hx hb hts hi7 hown hK hP hi (ev_up_s st i _) 8 (by decide) (hts (.fieldLink RX7 65 "EventloopRow$Thing" "keyCount" "I") (by decide +kernel)) rfl dX7_listKey_73 ?_
      refine lv_iconst (v := nI 1) hx hb dX7_listKey_76 (by decide) ?_
      refine en_iadd hx hb (ev_kc t + 1) rfl dX7_listKey_77 ?_
      refine ev_put (t := (ev_tg t, ev_ch t, ev_rv t, ev_cs t, ev_an t, ev_va t, ev_rg t, upd f 0 (nI k), ev_kc t)) (v := .int (nI (ev_kc t + 1))) hx hb hts hi7 hown hK hP hD hS hi 8 (by decide) (hts (.fieldLink RX7 65 "EventloopRow$Thing" "keyCount" "I") (by decide +kernel)) rfl rfl rfl (ev_tg t, ev_ch t, ev_rv t, ev_cs t, ev_an t, ev_va t, ev_rg t, upd f 0 (nI k), ev_kc t + 1) rfl (fun z h1 h2 => by rcases z with _ | _ | _ | _ | _ | z <;> first | rfl | omega) dX7_listKey_78 (fun H locs hP hD hS => ?_)
      exact em_void hx hb hr hlocks (by rw [show ev_lk k 0 f = upd f 0 (nI k) from rfl]; exact hP) hS dX7_listKey_81
    | succ n ih =>
      intro f H locs hn hP hD hS ls hl
      refine lv_iload_n hx hb dX7_listKey_22 rfl (lv_at hl 2 rfl) ?_
      refine en_if_le (tgt := 64) hx hb (by omega) dX7_listKey_23 (by decide) (fun c_2 => by exfalso; omega) (fun c_2 => ?_)
      refine lv_iload_n hx hb dX7_listKey_26 rfl (lv_at hl 1 rfl) ?_
      refine lv_bipush (v := nI 10) hx hb dX7_listKey_27 (by decide) ?_
      refine en_icmp_ge (tgt := 64) hx hb (by omega) (by omega) dX7_listKey_29 (by decide) (fun c_3 => ?_) (fun c_3 => ?_)
      ·
        refine lv_aload_n hx hb dX7_listKey_64 rfl (lv_at hl 0 rfl) ?_
        refine ev_get (v := .ref (ad i 4)) hx hb hts hi7 hown hK hP hi (ev_up_s st i _) 7 (by decide) (hts (.fieldLink RX7 28 "EventloopRow$Thing" "keyRow" "[I") (by decide +kernel)) rfl dX7_listKey_65 ?_
        refine lv_iload_n hx hb dX7_listKey_68 rfl (lv_at hl 2 rfl) ?_
        refine lv_iload_n hx hb dX7_listKey_69 rfl (lv_at hl 1 rfl) ?_
        refine ev_ast (t := (ev_tg t, ev_ch t, ev_rv t, ev_cs t, ev_an t, ev_va t, ev_rg t, f, ev_kc t)) hx hb hK hP hD hS hi 4 (by decide) rfl (n + 1) (by omega) (by decide) (ev_tg t, ev_ch t, ev_rv t, ev_cs t, ev_an t, ev_va t, ev_rg t, upd f (n + 1) (nI k), ev_kc t) rfl (fun k h1 h2 => by rcases k with _ | _ | _ | _ | _ | k <;> first | rfl | exact absurd rfl h2 | omega) dX7_listKey_70 (fun H locs hP hD hS => ?_)
        refine lv_aload_n hx hb dX7_listKey_71 rfl (lv_at hl 0 rfl) ?_
        refine lv_dup hx hb dX7_listKey_72 rfl ?_
        refine ev_get (v := .int (nI (ev_kc t))) hx hb hts hi7 hown hK hP hi (ev_up_s st i _) 8 (by decide) (hts (.fieldLink RX7 65 "EventloopRow$Thing" "keyCount" "I") (by decide +kernel)) rfl dX7_listKey_73 ?_
        refine lv_iconst (v := nI 1) hx hb dX7_listKey_76 (by decide) ?_
        refine en_iadd hx hb (ev_kc t + 1) rfl dX7_listKey_77 ?_
        refine ev_put (t := (ev_tg t, ev_ch t, ev_rv t, ev_cs t, ev_an t, ev_va t, ev_rg t, upd f (n + 1) (nI k), ev_kc t)) (v := .int (nI (ev_kc t + 1))) hx hb hts hi7 hown hK hP hD hS hi 8 (by decide) (hts (.fieldLink RX7 65 "EventloopRow$Thing" "keyCount" "I") (by decide +kernel)) rfl rfl rfl (ev_tg t, ev_ch t, ev_rv t, ev_cs t, ev_an t, ev_va t, ev_rg t, upd f (n + 1) (nI k), ev_kc t + 1) rfl (fun z h1 h2 => by rcases z with _ | _ | _ | _ | _ | z <;> first | rfl | omega) dX7_listKey_78 (fun H locs hP hD hS => ?_)
        exact em_void hx hb hr hlocks (by rw [show ev_lk k (n + 1) f = upd f (n + 1) (nI k) from (by rw [ev_lk_s, if_neg (fun h => by have := h.1; omega)])]; exact hP) hS dX7_listKey_81
      ·
        refine lv_aload_n hx hb dX7_listKey_32 rfl (lv_at hl 0 rfl) ?_
        refine ev_get (v := .ref (ad i 4)) hx hb hts hi7 hown hK hP hi (ev_up_s st i _) 7 (by decide) (hts (.fieldLink RX7 28 "EventloopRow$Thing" "keyRow" "[I") (by decide +kernel)) rfl dX7_listKey_33 ?_
        refine lv_iload_n hx hb dX7_listKey_36 rfl (lv_at hl 2 rfl) ?_
        refine lv_iconst (v := nI 1) hx hb dX7_listKey_37 (by decide) ?_
        refine en_isub hx hb (n) rfl dX7_listKey_38 ?_
        refine ev_ald (t := (ev_tg t, ev_ch t, ev_rv t, ev_cs t, ev_an t, ev_va t, ev_rg t, f, ev_kc t)) (f := f) hx hb hK hP hi (ev_up_s st i _) 4 (by decide) rfl n (by omega) (by decide) dX7_listKey_39 ?_
        refine lv_iload_n hx hb dX7_listKey_40 rfl (lv_at hl 1 rfl) ?_
        refine lv_icmp_le (tgt := 64) hx hb dX7_listKey_41 (by decide) (fun c_4 => ?_) (fun c_4 => ?_)
        ·
          refine lv_aload_n hx hb dX7_listKey_64 rfl (lv_at hl 0 rfl) ?_
          refine ev_get (v := .ref (ad i 4)) hx hb hts hi7 hown hK hP hi (ev_up_s st i _) 7 (by decide) (hts (.fieldLink RX7 28 "EventloopRow$Thing" "keyRow" "[I") (by decide +kernel)) rfl dX7_listKey_65 ?_
          refine lv_iload_n hx hb dX7_listKey_68 rfl (lv_at hl 2 rfl) ?_
          refine lv_iload_n hx hb dX7_listKey_69 rfl (lv_at hl 1 rfl) ?_
          refine ev_ast (t := (ev_tg t, ev_ch t, ev_rv t, ev_cs t, ev_an t, ev_va t, ev_rg t, f, ev_kc t)) hx hb hK hP hD hS hi 4 (by decide) rfl (n + 1) (by omega) (by decide) (ev_tg t, ev_ch t, ev_rv t, ev_cs t, ev_an t, ev_va t, ev_rg t, upd f (n + 1) (nI k), ev_kc t) rfl (fun k h1 h2 => by rcases k with _ | _ | _ | _ | _ | k <;> first | rfl | exact absurd rfl h2 | omega) dX7_listKey_70 (fun H locs hP hD hS => ?_)
          refine lv_aload_n hx hb dX7_listKey_71 rfl (lv_at hl 0 rfl) ?_
          refine lv_dup hx hb dX7_listKey_72 rfl ?_
          refine ev_get (v := .int (nI (ev_kc t))) hx hb hts hi7 hown hK hP hi (ev_up_s st i _) 8 (by decide) (hts (.fieldLink RX7 65 "EventloopRow$Thing" "keyCount" "I") (by decide +kernel)) rfl dX7_listKey_73 ?_
          refine lv_iconst (v := nI 1) hx hb dX7_listKey_76 (by decide) ?_
          refine en_iadd hx hb (ev_kc t + 1) rfl dX7_listKey_77 ?_
          refine ev_put (t := (ev_tg t, ev_ch t, ev_rv t, ev_cs t, ev_an t, ev_va t, ev_rg t, upd f (n + 1) (nI k), ev_kc t)) (v := .int (nI (ev_kc t + 1))) hx hb hts hi7 hown hK hP hD hS hi 8 (by decide) (hts (.fieldLink RX7 65 "EventloopRow$Thing" "keyCount" "I") (by decide +kernel)) rfl rfl rfl (ev_tg t, ev_ch t, ev_rv t, ev_cs t, ev_an t, ev_va t, ev_rg t, upd f (n + 1) (nI k), ev_kc t + 1) rfl (fun z h1 h2 => by rcases z with _ | _ | _ | _ | _ | z <;> first | rfl | omega) dX7_listKey_78 (fun H locs hP hD hS => ?_)
          exact em_void hx hb hr hlocks (by rw [show ev_lk k (n + 1) f = upd f (n + 1) (nI k) from (by rw [ev_lk_s, if_neg (fun h => h.2 c_4)])]; exact hP) hS dX7_listKey_81
        ·
          refine lv_aload_n hx hb dX7_listKey_44 rfl (lv_at hl 0 rfl) ?_
          refine ev_get (v := .ref (ad i 4)) hx hb hts hi7 hown hK hP hi (ev_up_s st i _) 7 (by decide) (hts (.fieldLink RX7 28 "EventloopRow$Thing" "keyRow" "[I") (by decide +kernel)) rfl dX7_listKey_45 ?_
          refine lv_iload_n hx hb dX7_listKey_48 rfl (lv_at hl 2 rfl) ?_
          refine lv_aload_n hx hb dX7_listKey_49 rfl (lv_at hl 0 rfl) ?_
          refine ev_get (v := .ref (ad i 4)) hx hb hts hi7 hown hK hP hi (ev_up_s st i _) 7 (by decide) (hts (.fieldLink RX7 28 "EventloopRow$Thing" "keyRow" "[I") (by decide +kernel)) rfl dX7_listKey_50 ?_
          refine lv_iload_n hx hb dX7_listKey_53 rfl (lv_at hl 2 rfl) ?_
          refine lv_iconst (v := nI 1) hx hb dX7_listKey_54 (by decide) ?_
          refine en_isub hx hb (n) rfl dX7_listKey_55 ?_
          refine ev_ald (t := (ev_tg t, ev_ch t, ev_rv t, ev_cs t, ev_an t, ev_va t, ev_rg t, f, ev_kc t)) (f := f) hx hb hK hP hi (ev_up_s st i _) 4 (by decide) rfl n (by omega) (by decide) dX7_listKey_56 ?_
          refine ev_ast (t := (ev_tg t, ev_ch t, ev_rv t, ev_cs t, ev_an t, ev_va t, ev_rg t, f, ev_kc t)) hx hb hK hP hD hS hi 4 (by decide) rfl (n + 1) (by omega) (by decide) (ev_tg t, ev_ch t, ev_rv t, ev_cs t, ev_an t, ev_va t, ev_rg t, upd f (n + 1) (f n), ev_kc t) rfl (fun k h1 h2 => by rcases k with _ | _ | _ | _ | _ | k <;> first | rfl | exact absurd rfl h2 | omega) dX7_listKey_57 (fun H locs hP hD hS => ?_)
          refine lv_iinc (v := nI n) (lv' := [(2, .int (nI n)), (0, .ref (ad i 0)), (1, .int (nI k))]) hx hb dX7_listKey_58 hl (k := 2) rfl (ev_dec1 _) (by decide) rfl (fun ls hl => ?_)
          refine lv_goto (tgt := 22) hx hb dX7_listKey_61 (by decide) ?_
          rw [show ev_lk k (n + 1) f = ev_lk k n (upd f (n + 1) (f n)) from (by rw [ev_lk_s, if_pos ⟨by omega, c_4⟩])]
          exact ih (upd f (n + 1) (f n)) H locs (by omega) hP hD hS ls (lv_sub hl [1, 2, 0] rfl)
  refine lv_aload_n hx hb dX7_listKey_0 rfl (lv_at hl 0 rfl) ?_
  refine ev_get (v := .int (nI (ev_kc t))) hx hb hts hi7 hown hK hP hi (ev_up_s st i _) 8 (by decide) (hts (.fieldLink RX7 65 "EventloopRow$Thing" "keyCount" "I") (by decide +kernel)) rfl dX7_listKey_1 ?_
  refine en_if_lt (tgt := 16) hx hb (by omega) dX7_listKey_4 (by decide) ?_
  refine lv_aload_n hx hb dX7_listKey_7 rfl (lv_at hl 0 rfl) ?_
  refine ev_get (v := .int (nI (ev_kc t))) hx hb hts hi7 hown hK hP hi (ev_up_s st i _) 8 (by decide) (hts (.fieldLink RX7 65 "EventloopRow$Thing" "keyCount" "I") (by decide +kernel)) rfl dX7_listKey_8 ?_
  refine lv_bipush (v := nI 20) hx hb dX7_listKey_11 (by decide) ?_
  refine en_icmp_lt (tgt := 17) hx hb (by omega) (by omega) dX7_listKey_13 (by decide) (fun c_6 => ?_) (fun c_6 => by exfalso; omega)
  refine lv_aload_n hx hb dX7_listKey_17 rfl (lv_at hl 0 rfl) ?_
  refine ev_get (v := .int (nI (ev_kc t))) hx hb hts hi7 hown hK hP hi (ev_up_s st i _) 8 (by decide) (hts (.fieldLink RX7 65 "EventloopRow$Thing" "keyCount" "I") (by decide +kernel)) rfl dX7_listKey_18 ?_
  refine lv_istore_n (lv' := [(2, .int (nI (ev_kc t))), (0, .ref (ad i 0)), (1, .int (nI k))]) hx hb dX7_listKey_21 rfl hl (by decide) rfl (fun ls hl => ?_)
  exact LP (ev_kc t) (ev_ke t) s.heap [] (Nat.le_refl _) hP hD hS ls (lv_sub hl [1, 2, 0] rfl)
set_option maxHeartbeats 4000000 in
set_option maxRecDepth 100000 in
theorem c_X7_putIn (l : Launch) {D : va_G} {cI cO : ClassId} {b : Nat → Nat} {ad : Nat → Nat → Nat} {st : ev_ST} {A : Nat → Prop} {i : Nat} {t : ev_TH} (hi : i < st.1) (hD : va_D A (ev_wl cI cO b ad (ev_up st i t))) {k : Nat} {v r : Int32} (hk : k < 20) (hkc : ev_holds t k = false → ev_kc t < 20) : Met l yX7_putIn wsX7_putIn ({ frames := 1, cells := 0, slots := 0, locals := 22 }) (ev_Pc D cI cO (ev_P D cI cO b ad (ev_up st i t)) [.ref (ad i 0), .int (nI k), .int v, .int r]) (ev_QM (some (.int (nI ((ev_pi t k v r).1)))) (ev_P D cI cO b ad (ev_up st i ((ev_pi t k v r).2))) A) 0 0 A := by
  refine ev_body (cc := cX7_putIn) (maxL := 4) (ret := (some .char)) (by decide) rfl (Nat.le_of_ble_eq_true rfl) ?_
  intro p e s m args below meth c hx hb hr hml hown hts hlocks hnm hP hK ls hl
  have hS : va_S A s.heap s.heap [] := va_S.rf
  have hl : lv_has ls 4 [(0, .ref (ad i 0)), (1, .int (nI k)), (2, .int v), (3, .int r)] := hl
  have hi7 : ∀ w ∈ wsX70, w ∈ wsX7_putIn := by decide +kernel
  refine lv_iload_n hx hb dX7_putIn_0 rfl (lv_at hl 1 rfl) ?_
  refine en_if_lt (tgt := 10) hx hb (by omega) dX7_putIn_1 (by decide) ?_
  refine lv_iload_n hx hb dX7_putIn_4 rfl (lv_at hl 1 rfl) ?_
  refine lv_bipush (v := nI 20) hx hb dX7_putIn_5 (by decide) ?_
  refine en_icmp_lt (tgt := 13) hx hb (by omega) (by omega) dX7_putIn_7 (by decide) (fun c_2 => ?_) (fun c_2 => by exfalso; omega)
  refine lv_aload_n hx hb dX7_putIn_13 rfl (lv_at hl 0 rfl) ?_
  refine lv_iload_n hx hb dX7_putIn_14 rfl (lv_at hl 1 rfl) ?_
  refine ev_cv (As := [.int (nI k)]) (rest := []) ⟨hx, hb, hml, hown, hts⟩ (c_X7_holds l (st := ev_up st i t) hi (ev_up_s st i _) (k := k) (by omega)) (cwV 1 hts gX7_putIn_X7_holds rfl rfl rfl (by decide +kernel) ⟨Nat.le_of_ble_eq_true rfl, Nat.le_of_ble_eq_true rfl⟩) hP hK (ev_recv hK hP hi) rfl hl.1 (Nat.le_of_ble_eq_true rfl) dX7_putIn_15 ⟨Nat.le_of_ble_eq_true rfl, Nat.le_of_ble_eq_true rfl⟩ ?_
  refine eb_if_ne (tgt := 39) hx hb dX7_putIn_18 (by decide) (fun c_3 => ?_) (fun c_3 => ?_)
  ·
    refine lv_aload_n hx hb dX7_putIn_39 rfl (lv_at hl 0 rfl) ?_
    refine lv_iconst (v := nI 4) hx hb dX7_putIn_40 (by decide) ?_
    refine lv_iload_n hx hb dX7_putIn_41 rfl (lv_at hl 1 rfl) ?_
    refine ev_cv (As := [.int (nI 4), .int (nI k)]) (rest := []) ⟨hx, hb, hml, hown, hts⟩ (c_X7_canBe l (st := ev_up st i t) hi (ev_up_s st i _) (r := 4) (k := k) (by omega)) (cwV 2 hts gX7_putIn_X7_canBe rfl rfl rfl (by decide +kernel) ⟨Nat.le_of_ble_eq_true rfl, Nat.le_of_ble_eq_true rfl⟩) hP hK (ev_recv hK hP hi) rfl hl.1 (Nat.le_of_ble_eq_true rfl) dX7_putIn_42 ⟨Nat.le_of_ble_eq_true rfl, Nat.le_of_ble_eq_true rfl⟩ ?_
    refine eb_if_ne (tgt := 79) hx hb dX7_putIn_45 (by decide) (fun c_4 => ?_) (fun c_4 => ?_)
    ·
      refine lv_aload_n hx hb dX7_putIn_79 rfl (lv_at hl 0 rfl) ?_
      refine ev_get (v := .ref (ad i 2)) hx hb hts hi7 hown hK hP hi (ev_up_s st i _) 5 (by decide) (hts (.fieldLink RX7 22 "EventloopRow$Thing" "values" "[I") (by decide +kernel)) rfl dX7_putIn_80 ?_
      refine lv_iload_n hx hb dX7_putIn_83 rfl (lv_at hl 1 rfl) ?_
      refine lv_iload_n hx hb dX7_putIn_84 rfl (lv_at hl 2 rfl) ?_
      refine ev_ast (t := t) hx hb hK hP hD hS hi 2 (by decide) rfl k (by omega) (by decide) (ev_tg t, ev_ch t, ev_rv t, ev_cs t, ev_an t, upd (ev_va t) k v, ev_rg t, ev_ke t, ev_kc t) rfl (fun k h1 h2 => by rcases k with _ | _ | _ | _ | _ | k <;> first | rfl | exact absurd rfl h2 | omega) dX7_putIn_85 (fun H locs hP hD hS => ?_)
      refine lv_aload_n hx hb dX7_putIn_86 rfl (lv_at hl 0 rfl) ?_
      refine ev_get (v := .ref (ad i 3)) hx hb hts hi7 hown hK hP hi (ev_up_s st i _) 6 (by decide) (hts (.fieldLink RX7 25 "EventloopRow$Thing" "rightsRow" "[I") (by decide +kernel)) rfl dX7_putIn_87 ?_
      refine lv_iload_n hx hb dX7_putIn_90 rfl (lv_at hl 1 rfl) ?_
      refine lv_iload_n hx hb dX7_putIn_91 rfl (lv_at hl 3 rfl) ?_
      refine ev_ast (t := (ev_tg t, ev_ch t, ev_rv t, ev_cs t, ev_an t, upd (ev_va t) k v, ev_rg t, ev_ke t, ev_kc t)) hx hb hK hP hD hS hi 3 (by decide) rfl k (by omega) (by decide) (ev_tg t, ev_ch t, ev_rv t, ev_cs t, ev_an t, upd (ev_va t) k v, upd (ev_rg t) k r, ev_ke t, ev_kc t) rfl (fun k h1 h2 => by rcases k with _ | _ | _ | _ | _ | k <;> first | rfl | exact absurd rfl h2 | omega) dX7_putIn_92 (fun H locs hP hD hS => ?_)
      refine lv_bipush (v := nI 121) hx hb dX7_putIn_93 (by decide) ?_
      exact em_char hx hb hr hlocks (ev_pi_lt _ _ _ _) (by simp [ev_pi, c_3, c_4] <;> rfl) (by rw [show (ev_pi t k v r).2 = (ev_tg t, ev_ch t, ev_rv t, ev_cs t, ev_an t, upd (ev_va t) k v, upd (ev_rg t) k r, ev_ke t, ev_kc t) from (by simp [ev_pi, c_3, c_4] <;> rfl)]; exact hP) hS dX7_putIn_95
    ·
      refine lv_aload_n hx hb dX7_putIn_48 rfl (lv_at hl 0 rfl) ?_
      refine ev_get (v := .ref (ad i 3)) hx hb hts hi7 hown hK hP hi (ev_up_s st i _) 6 (by decide) (hts (.fieldLink RX7 25 "EventloopRow$Thing" "rightsRow" "[I") (by decide +kernel)) rfl dX7_putIn_49 ?_
      refine lv_iload_n hx hb dX7_putIn_52 rfl (lv_at hl 1 rfl) ?_
      refine ev_ald (t := t) (f := ev_rg t) hx hb hK hP hi (ev_up_s st i _) 3 (by decide) rfl k (by omega) (by decide) dX7_putIn_53 ?_
      refine lv_iload_n hx hb dX7_putIn_54 rfl (lv_at hl 3 rfl) ?_
      refine lv_aload_n hx hb dX7_putIn_55 rfl (lv_at hl 0 rfl) ?_
      refine ev_get (v := .ref (ad i 2)) hx hb hts hi7 hown hK hP hi (ev_up_s st i _) 5 (by decide) (hts (.fieldLink RX7 22 "EventloopRow$Thing" "values" "[I") (by decide +kernel)) rfl dX7_putIn_56 ?_
      refine lv_iload_n hx hb dX7_putIn_59 rfl (lv_at hl 1 rfl) ?_
      refine ev_ald (t := t) (f := ev_va t) hx hb hK hP hi (ev_up_s st i _) 2 (by decide) rfl k (by omega) (by decide) dX7_putIn_60 ?_
      refine lv_iload_n hx hb dX7_putIn_61 rfl (lv_at hl 2 rfl) ?_
      refine lv_icmp_ne (tgt := 69) hx hb dX7_putIn_62 (by decide) (fun c_5 => ?_) (fun c_5 => ?_)
      ·
        refine lv_iconst (v := nI 0) hx hb dX7_putIn_69 (by decide) ?_
        refine en_eq (show nI 0 = ev_bi false from rfl) ?_
        refine ev_cst (As := [.int (ev_rg t k), .int r, .int (ev_bi false)]) (rest := []) ⟨hx, hb, hml, hown, hts⟩ (c_X7_isAllowed l (b := b) (ad := ad)) (va_cwS 3 hts gX7_putIn_X7_isAllowed rfl rfl rfl (by decide +kernel) ⟨Nat.le_of_ble_eq_true rfl, Nat.le_of_ble_eq_true rfl⟩) hP hK rfl hl.1 (Nat.le_of_ble_eq_true rfl) dX7_putIn_70 ⟨Nat.le_of_ble_eq_true rfl, Nat.le_of_ble_eq_true rfl⟩ ?_
        refine eb_if_ne (tgt := 79) hx hb dX7_putIn_73 (by decide) (fun c_6 => ?_) (fun c_6 => ?_)
        ·
          refine lv_aload_n hx hb dX7_putIn_79 rfl (lv_at hl 0 rfl) ?_
          refine ev_get (v := .ref (ad i 2)) hx hb hts hi7 hown hK hP hi (ev_up_s st i _) 5 (by decide) (hts (.fieldLink RX7 22 "EventloopRow$Thing" "values" "[I") (by decide +kernel)) rfl dX7_putIn_80 ?_
          refine lv_iload_n hx hb dX7_putIn_83 rfl (lv_at hl 1 rfl) ?_
          refine lv_iload_n hx hb dX7_putIn_84 rfl (lv_at hl 2 rfl) ?_
          refine ev_ast (t := t) hx hb hK hP hD hS hi 2 (by decide) rfl k (by omega) (by decide) (ev_tg t, ev_ch t, ev_rv t, ev_cs t, ev_an t, upd (ev_va t) k v, ev_rg t, ev_ke t, ev_kc t) rfl (fun k h1 h2 => by rcases k with _ | _ | _ | _ | _ | k <;> first | rfl | exact absurd rfl h2 | omega) dX7_putIn_85 (fun H locs hP hD hS => ?_)
          refine lv_aload_n hx hb dX7_putIn_86 rfl (lv_at hl 0 rfl) ?_
          refine ev_get (v := .ref (ad i 3)) hx hb hts hi7 hown hK hP hi (ev_up_s st i _) 6 (by decide) (hts (.fieldLink RX7 25 "EventloopRow$Thing" "rightsRow" "[I") (by decide +kernel)) rfl dX7_putIn_87 ?_
          refine lv_iload_n hx hb dX7_putIn_90 rfl (lv_at hl 1 rfl) ?_
          refine lv_iload_n hx hb dX7_putIn_91 rfl (lv_at hl 3 rfl) ?_
          refine ev_ast (t := (ev_tg t, ev_ch t, ev_rv t, ev_cs t, ev_an t, upd (ev_va t) k v, ev_rg t, ev_ke t, ev_kc t)) hx hb hK hP hD hS hi 3 (by decide) rfl k (by omega) (by decide) (ev_tg t, ev_ch t, ev_rv t, ev_cs t, ev_an t, upd (ev_va t) k v, upd (ev_rg t) k r, ev_ke t, ev_kc t) rfl (fun k h1 h2 => by rcases k with _ | _ | _ | _ | _ | k <;> first | rfl | exact absurd rfl h2 | omega) dX7_putIn_92 (fun H locs hP hD hS => ?_)
          refine lv_bipush (v := nI 121) hx hb dX7_putIn_93 (by decide) ?_
          exact em_char hx hb hr hlocks (ev_pi_lt _ _ _ _) (by simp [ev_pi, c_3, c_4, c_5, c_6] <;> rfl) (by rw [show (ev_pi t k v r).2 = (ev_tg t, ev_ch t, ev_rv t, ev_cs t, ev_an t, upd (ev_va t) k v, upd (ev_rg t) k r, ev_ke t, ev_kc t) from (by simp [ev_pi, c_3, c_4, c_5, c_6] <;> rfl)]; exact hP) hS dX7_putIn_95
        ·
          refine lv_bipush (v := nI 110) hx hb dX7_putIn_76 (by decide) ?_
          exact em_char hx hb hr hlocks (ev_pi_lt _ _ _ _) (by simp [ev_pi, c_3, c_4, c_5, c_6] <;> rfl) (by rw [show (ev_pi t k v r).2 = t from (by simp [ev_pi, c_3, c_4, c_5, c_6] <;> rfl)]; exact hP) hS dX7_putIn_78
      ·
        refine lv_iconst (v := nI 1) hx hb dX7_putIn_65 (by decide) ?_
        refine lv_goto (tgt := 70) hx hb dX7_putIn_66 (by decide) ?_
        refine en_eq (show nI 1 = ev_bi true from rfl) ?_
        refine ev_cst (As := [.int (ev_rg t k), .int r, .int (ev_bi true)]) (rest := []) ⟨hx, hb, hml, hown, hts⟩ (c_X7_isAllowed l (b := b) (ad := ad)) (va_cwS 3 hts gX7_putIn_X7_isAllowed rfl rfl rfl (by decide +kernel) ⟨Nat.le_of_ble_eq_true rfl, Nat.le_of_ble_eq_true rfl⟩) hP hK rfl hl.1 (Nat.le_of_ble_eq_true rfl) dX7_putIn_70 ⟨Nat.le_of_ble_eq_true rfl, Nat.le_of_ble_eq_true rfl⟩ ?_
        refine eb_if_ne (tgt := 79) hx hb dX7_putIn_73 (by decide) (fun c_7 => ?_) (fun c_7 => ?_)
        ·
          refine lv_aload_n hx hb dX7_putIn_79 rfl (lv_at hl 0 rfl) ?_
          refine ev_get (v := .ref (ad i 2)) hx hb hts hi7 hown hK hP hi (ev_up_s st i _) 5 (by decide) (hts (.fieldLink RX7 22 "EventloopRow$Thing" "values" "[I") (by decide +kernel)) rfl dX7_putIn_80 ?_
          refine lv_iload_n hx hb dX7_putIn_83 rfl (lv_at hl 1 rfl) ?_
          refine lv_iload_n hx hb dX7_putIn_84 rfl (lv_at hl 2 rfl) ?_
          refine ev_ast (t := t) hx hb hK hP hD hS hi 2 (by decide) rfl k (by omega) (by decide) (ev_tg t, ev_ch t, ev_rv t, ev_cs t, ev_an t, upd (ev_va t) k v, ev_rg t, ev_ke t, ev_kc t) rfl (fun k h1 h2 => by rcases k with _ | _ | _ | _ | _ | k <;> first | rfl | exact absurd rfl h2 | omega) dX7_putIn_85 (fun H locs hP hD hS => ?_)
          refine lv_aload_n hx hb dX7_putIn_86 rfl (lv_at hl 0 rfl) ?_
          refine ev_get (v := .ref (ad i 3)) hx hb hts hi7 hown hK hP hi (ev_up_s st i _) 6 (by decide) (hts (.fieldLink RX7 25 "EventloopRow$Thing" "rightsRow" "[I") (by decide +kernel)) rfl dX7_putIn_87 ?_
          refine lv_iload_n hx hb dX7_putIn_90 rfl (lv_at hl 1 rfl) ?_
          refine lv_iload_n hx hb dX7_putIn_91 rfl (lv_at hl 3 rfl) ?_
          refine ev_ast (t := (ev_tg t, ev_ch t, ev_rv t, ev_cs t, ev_an t, upd (ev_va t) k v, ev_rg t, ev_ke t, ev_kc t)) hx hb hK hP hD hS hi 3 (by decide) rfl k (by omega) (by decide) (ev_tg t, ev_ch t, ev_rv t, ev_cs t, ev_an t, upd (ev_va t) k v, upd (ev_rg t) k r, ev_ke t, ev_kc t) rfl (fun k h1 h2 => by rcases k with _ | _ | _ | _ | _ | k <;> first | rfl | exact absurd rfl h2 | omega) dX7_putIn_92 (fun H locs hP hD hS => ?_)
          refine lv_bipush (v := nI 121) hx hb dX7_putIn_93 (by decide) ?_
          exact em_char hx hb hr hlocks (ev_pi_lt _ _ _ _) (by simp [ev_pi, c_3, c_4, c_5, c_7] <;> rfl) (by rw [show (ev_pi t k v r).2 = (ev_tg t, ev_ch t, ev_rv t, ev_cs t, ev_an t, upd (ev_va t) k v, upd (ev_rg t) k r, ev_ke t, ev_kc t) from (by simp [ev_pi, c_3, c_4, c_5, c_7] <;> rfl)]; exact hP) hS dX7_putIn_95
        ·
          refine lv_bipush (v := nI 110) hx hb dX7_putIn_76 (by decide) ?_
          exact em_char hx hb hr hlocks (ev_pi_lt _ _ _ _) (by simp [ev_pi, c_3, c_4, c_5, c_7] <;> rfl) (by rw [show (ev_pi t k v r).2 = t from (by simp [ev_pi, c_3, c_4, c_5, c_7] <;> rfl)]; exact hP) hS dX7_putIn_78
  ·
    refine lv_aload_n hx hb dX7_putIn_21 rfl (lv_at hl 0 rfl) ?_
    refine ev_get (v := .int (ev_bi (ev_cs t))) hx hb hts hi7 hown hK hP hi (ev_up_s st i _) 4 (by decide) (hts (.fieldLink RX7 53 "EventloopRow$Thing" "closed" "Z") (by decide +kernel)) rfl dX7_putIn_22 ?_
    refine eb_if_eq (tgt := 31) hx hb dX7_putIn_25 (by decide) (fun c_8 => ?_) (fun c_8 => ?_)
    ·
      refine lv_aload_n hx hb dX7_putIn_31 rfl (lv_at hl 0 rfl) ?_
      refine lv_iload_n hx hb dX7_putIn_32 rfl (lv_at hl 1 rfl) ?_
      refine ev_mv (As := [.int (nI k)]) (rest := []) ⟨hx, hb, hml, hown, hts⟩ (c_X7_listKey l hi hD (k := k) (by omega) (hkc c_3)) (cwV 1 hts gX7_putIn_X7_listKey rfl rfl rfl (by decide +kernel) ⟨Nat.le_of_ble_eq_true rfl, Nat.le_of_ble_eq_true rfl⟩) hP hK hS (ev_recv hK hP hi) rfl hl.1 (Nat.le_of_ble_eq_true rfl) dX7_putIn_33 ⟨Nat.le_of_ble_eq_true rfl, Nat.le_of_ble_eq_true rfl⟩ (fun H locs hP hz hk hS => ?_)
      have hD := ev_D_re (st := st) (i := i) (t2 := (ev_lst t k)) hD
      refine lv_goto (tgt := 79) hx hb dX7_putIn_36 (by decide) ?_
      refine lv_aload_n hx hb dX7_putIn_79 rfl (lv_at hl 0 rfl) ?_
      refine ev_get (v := .ref (ad i 2)) hx hb hts hi7 hown hK hP hi (ev_up_s st i _) 5 (by decide) (hts (.fieldLink RX7 22 "EventloopRow$Thing" "values" "[I") (by decide +kernel)) rfl dX7_putIn_80 ?_
      refine lv_iload_n hx hb dX7_putIn_83 rfl (lv_at hl 1 rfl) ?_
      refine lv_iload_n hx hb dX7_putIn_84 rfl (lv_at hl 2 rfl) ?_
      refine ev_ast (t := (ev_lst t k)) hx hb hK hP hD hS hi 2 (by decide) rfl k (by omega) (by decide) (ev_tg (ev_lst t k), ev_ch (ev_lst t k), ev_rv (ev_lst t k), ev_cs (ev_lst t k), ev_an (ev_lst t k), upd (ev_va (ev_lst t k)) k v, ev_rg (ev_lst t k), ev_ke (ev_lst t k), ev_kc (ev_lst t k)) rfl (fun k h1 h2 => by rcases k with _ | _ | _ | _ | _ | k <;> first | rfl | exact absurd rfl h2 | omega) dX7_putIn_85 (fun H locs hP hD hS => ?_)
      refine lv_aload_n hx hb dX7_putIn_86 rfl (lv_at hl 0 rfl) ?_
      refine ev_get (v := .ref (ad i 3)) hx hb hts hi7 hown hK hP hi (ev_up_s st i _) 6 (by decide) (hts (.fieldLink RX7 25 "EventloopRow$Thing" "rightsRow" "[I") (by decide +kernel)) rfl dX7_putIn_87 ?_
      refine lv_iload_n hx hb dX7_putIn_90 rfl (lv_at hl 1 rfl) ?_
      refine lv_iload_n hx hb dX7_putIn_91 rfl (lv_at hl 3 rfl) ?_
      refine ev_ast (t := (ev_tg (ev_lst t k), ev_ch (ev_lst t k), ev_rv (ev_lst t k), ev_cs (ev_lst t k), ev_an (ev_lst t k), upd (ev_va (ev_lst t k)) k v, ev_rg (ev_lst t k), ev_ke (ev_lst t k), ev_kc (ev_lst t k))) hx hb hK hP hD hS hi 3 (by decide) rfl k (by omega) (by decide) (ev_tg (ev_lst t k), ev_ch (ev_lst t k), ev_rv (ev_lst t k), ev_cs (ev_lst t k), ev_an (ev_lst t k), upd (ev_va (ev_lst t k)) k v, upd (ev_rg (ev_lst t k)) k r, ev_ke (ev_lst t k), ev_kc (ev_lst t k)) rfl (fun k h1 h2 => by rcases k with _ | _ | _ | _ | _ | k <;> first | rfl | exact absurd rfl h2 | omega) dX7_putIn_92 (fun H locs hP hD hS => ?_)
      refine lv_bipush (v := nI 121) hx hb dX7_putIn_93 (by decide) ?_
      exact em_char hx hb hr hlocks (ev_pi_lt _ _ _ _) (by simp [ev_pi, c_3, c_8] <;> rfl) (by rw [show (ev_pi t k v r).2 = (ev_tg (ev_lst t k), ev_ch (ev_lst t k), ev_rv (ev_lst t k), ev_cs (ev_lst t k), ev_an (ev_lst t k), upd (ev_va (ev_lst t k)) k v, upd (ev_rg (ev_lst t k)) k r, ev_ke (ev_lst t k), ev_kc (ev_lst t k)) from (by simp [ev_pi, c_3, c_8] <;> rfl)]; exact hP) hS dX7_putIn_95
    ·
      refine lv_bipush (v := nI 110) hx hb dX7_putIn_28 (by decide) ?_
      exact em_char hx hb hr hlocks (ev_pi_lt _ _ _ _) (by simp [ev_pi, c_3, c_8] <;> rfl) (by rw [show (ev_pi t k v r).2 = t from (by simp [ev_pi, c_3, c_8] <;> rfl)]; exact hP) hS dX7_putIn_30
set_option maxHeartbeats 4000000 in
set_option maxRecDepth 100000 in
theorem c_X7_takeOut (l : Launch) {D : va_G} {cI cO : ClassId} {b : Nat → Nat} {ad : Nat → Nat → Nat} {st : ev_ST} {A : Nat → Prop} {i : Nat} {t : ev_TH} (hi : i < st.1) (hD : va_D A (ev_wl cI cO b ad (ev_up st i t))) {k : Nat} (hk : k < 20) (hkc : ev_kc t ≤ 20) : Met l yX7_takeOut wsX7_takeOut ({ frames := 1, cells := 0, slots := 0, locals := 22 }) (ev_Pc D cI cO (ev_P D cI cO b ad (ev_up st i t)) [.ref (ad i 0), .int (nI k)]) (ev_QM (some (.int (nI ((ev_tk t k).1)))) (ev_P D cI cO b ad (ev_up st i ((ev_tk t k).2))) A) 0 0 A := by
  refine ev_body (cc := cX7_takeOut) (maxL := 4) (ret := (some .char)) (by decide) rfl (Nat.le_of_ble_eq_true rfl) ?_
  intro p e s m args below meth c hx hb hr hml hown hts hlocks hnm hP hK ls hl
  have hS : va_S A s.heap s.heap [] := va_S.rf
  have hl : lv_has ls 4 [(0, .ref (ad i 0)), (1, .int (nI k))] := hl
  have hi7 : ∀ w ∈ wsX70, w ∈ wsX7_takeOut := by decide +kernel
  have LP : ∀ (n j q : Nat) (f : Nat → Int32) (H : Heap) (locs : List Loc), j + n = ev_kc t → q ≤ j → ev_P D cI cO b ad (ev_up st i (ev_tg t, ev_ch t, ev_rv t, ev_cs t, ev_an t, ev_va t, upd (ev_rg t) k (-1), f, ev_kc t)) H → va_D A (ev_wl cI cO b ad (ev_up st i (ev_tg t, ev_ch t, ev_rv t, ev_cs t, ev_an t, ev_va t, upd (ev_rg t) k (-1), f, ev_kc t))) → va_S A s.heap H locs → ∀ ls : Array Slot, lv_has ls 4 [(0, .ref (ad i 0)), (1, .int (nI k)), (2, .int (nI q)), (3, .int (nI j))] → W p l e ({ frames := 1, cells := 0, slots := 0, locals := 22 }) s m args below meth c H locs 0 0 (MQ below (ev_QM (some (.int (nI 121))) (ev_P D cI cO b ad (ev_up st i (ev_tg t, ev_ch t, ev_rv t, ev_cs t, ev_an t, ev_va t, upd (ev_rg t) k (-1), (ev_rm k n j q f).1, (ev_rm k n j q f).2))) A) args s 0 0 A) (F0 m 44 ls []) := by
    intro n
    induction n with
    | zero =>
      intro j q f H locs hj hq hP hD hS ls hl
      refine lv_iload_n hx hb dX7_takeOut_44 rfl (lv_at hl 3 rfl) ?_
      refine lv_aload_n hx hb dX7_takeOut_45 rfl (lv_at hl 0 rfl) ?_
      refine ev_get (v := .int (nI (ev_kc t))) hx hb hts hi7 hown hK hP hi (ev_up_s st i _) 8 (by decide) (hts (.fieldLink RX7 65 "EventloopRow$Thing" "keyCount" "I") (by decide +kernel)) rfl dX7_takeOut_46 ?_
      refine en_icmp_ge (tgt := 89) hx hb (by omega) (by omega) dX7_takeOut_49 (by decide) (fun c_1 => ?_) (fun c_1 => by exfalso; omega)
      refine lv_aload_n hx hb dX7_takeOut_89 rfl (lv_at hl 0 rfl) ?_
      refine lv_iload_n hx hb dX7_takeOut_90 rfl (lv_at hl 2 rfl) ?_
      refine ev_put (t := (ev_tg t, ev_ch t, ev_rv t, ev_cs t, ev_an t, ev_va t, upd (ev_rg t) k (-1), f, ev_kc t)) (v := .int (nI q)) hx hb hts hi7 hown hK hP hD hS hi 8 (by decide) (hts (.fieldLink RX7 65 "EventloopRow$Thing" "keyCount" "I") (by decide +kernel)) rfl rfl rfl (ev_tg t, ev_ch t, ev_rv t, ev_cs t, ev_an t, ev_va t, upd (ev_rg t) k (-1), f, q) rfl (fun z h1 h2 => by rcases z with _ | _ | _ | _ | _ | z <;> first | rfl | omega) dX7_takeOut_91 (fun H locs hP hD hS => ?_)
      refine lv_bipush (v := nI 121) hx hb dX7_takeOut_94 (by decide) ?_
      exact em_char hx hb hr hlocks (by decide) rfl hP hS dX7_takeOut_96
    | succ n ih =>
      intro j q f H locs hj hq hP hD hS ls hl
      refine lv_iload_n hx hb dX7_takeOut_44 rfl (lv_at hl 3 rfl) ?_
      refine lv_aload_n hx hb dX7_takeOut_45 rfl (lv_at hl 0 rfl) ?_
      refine ev_get (v := .int (nI (ev_kc t))) hx hb hts hi7 hown hK hP hi (ev_up_s st i _) 8 (by decide) (hts (.fieldLink RX7 65 "EventloopRow$Thing" "keyCount" "I") (by decide +kernel)) rfl dX7_takeOut_46 ?_
      refine en_icmp_ge (tgt := 89) hx hb (by omega) (by omega) dX7_takeOut_49 (by decide) (fun c_2 => by exfalso; omega) (fun c_2 => ?_)
      refine lv_iload_n hx hb dX7_takeOut_52 rfl (lv_at hl 3 rfl) ?_
      refine lv_bipush (v := nI 20) hx hb dX7_takeOut_53 (by decide) ?_
      refine en_icmp_ge (tgt := 89) hx hb (by omega) (by omega) dX7_takeOut_55 (by decide) (fun c_3 => by exfalso; omega) (fun c_3 => ?_)
      refine lv_aload_n hx hb dX7_takeOut_58 rfl (lv_at hl 0 rfl) ?_
      refine ev_get (v := .ref (ad i 4)) hx hb hts hi7 hown hK hP hi (ev_up_s st i _) 7 (by decide) (hts (.fieldLink RX7 28 "EventloopRow$Thing" "keyRow" "[I") (by decide +kernel)) rfl dX7_takeOut_59 ?_
      refine lv_iload_n hx hb dX7_takeOut_62 rfl (lv_at hl 3 rfl) ?_
      refine ev_ald (t := (ev_tg t, ev_ch t, ev_rv t, ev_cs t, ev_an t, ev_va t, upd (ev_rg t) k (-1), f, ev_kc t)) (f := f) hx hb hK hP hi (ev_up_s st i _) 4 (by decide) rfl j (by omega) (by decide) dX7_takeOut_63 ?_
      refine lv_iload_n hx hb dX7_takeOut_64 rfl (lv_at hl 1 rfl) ?_
      refine lv_icmp_eq (tgt := 83) hx hb dX7_takeOut_65 (by decide) (fun c_4 => ?_) (fun c_4 => ?_)
      ·
        refine lv_iinc (v := nI (j + 1)) (lv' := [(3, .int (nI (j + 1))), (0, .ref (ad i 0)), (1, .int (nI k)), (2, .int (nI q))]) hx hb dX7_takeOut_83 hl (k := 3) rfl (ev_inc1 _) (by decide) rfl (fun ls hl => ?_)
        refine lv_goto (tgt := 44) hx hb dX7_takeOut_86 (by decide) ?_
        rw [show ev_rm k (n + 1) j q f = ev_rm k n (j + 1) (q) (f) from (by simp [ev_rm, c_2, c_3, c_4])]
        exact ih (j + 1) (q) (f) H locs (by omega) (by omega) hP hD hS ls (lv_sub hl [1, 2, 3, 0] rfl)
      ·
        refine lv_aload_n hx hb dX7_takeOut_68 rfl (lv_at hl 0 rfl) ?_
        refine ev_get (v := .ref (ad i 4)) hx hb hts hi7 hown hK hP hi (ev_up_s st i _) 7 (by decide) (hts (.fieldLink RX7 28 "EventloopRow$Thing" "keyRow" "[I") (by decide +kernel)) rfl dX7_takeOut_69 ?_
        refine lv_iload_n hx hb dX7_takeOut_72 rfl (lv_at hl 2 rfl) ?_
        refine lv_aload_n hx hb dX7_takeOut_73 rfl (lv_at hl 0 rfl) ?_
        refine ev_get (v := .ref (ad i 4)) hx hb hts hi7 hown hK hP hi (ev_up_s st i _) 7 (by decide) (hts (.fieldLink RX7 28 "EventloopRow$Thing" "keyRow" "[I") (by decide +kernel)) rfl dX7_takeOut_74 ?_
        refine lv_iload_n hx hb dX7_takeOut_77 rfl (lv_at hl 3 rfl) ?_
        refine ev_ald (t := (ev_tg t, ev_ch t, ev_rv t, ev_cs t, ev_an t, ev_va t, upd (ev_rg t) k (-1), f, ev_kc t)) (f := f) hx hb hK hP hi (ev_up_s st i _) 4 (by decide) rfl j (by omega) (by decide) dX7_takeOut_78 ?_
        refine ev_ast (t := (ev_tg t, ev_ch t, ev_rv t, ev_cs t, ev_an t, ev_va t, upd (ev_rg t) k (-1), f, ev_kc t)) hx hb hK hP hD hS hi 4 (by decide) rfl q (by omega) (by decide) (ev_tg t, ev_ch t, ev_rv t, ev_cs t, ev_an t, ev_va t, upd (ev_rg t) k (-1), upd f q (f j), ev_kc t) rfl (fun k h1 h2 => by rcases k with _ | _ | _ | _ | _ | k <;> first | rfl | exact absurd rfl h2 | omega) dX7_takeOut_79 (fun H locs hP hD hS => ?_)
        refine lv_iinc (v := nI (q + 1)) (lv' := [(2, .int (nI (q + 1))), (0, .ref (ad i 0)), (1, .int (nI k)), (3, .int (nI j))]) hx hb dX7_takeOut_80 hl (k := 2) rfl (ev_inc1 _) (by decide) rfl (fun ls hl => ?_)
        refine lv_iinc (v := nI (j + 1)) (lv' := [(3, .int (nI (j + 1))), (2, .int (nI (q + 1))), (0, .ref (ad i 0)), (1, .int (nI k))]) hx hb dX7_takeOut_83 hl (k := 3) rfl (ev_inc1 _) (by decide) rfl (fun ls hl => ?_)
        refine lv_goto (tgt := 44) hx hb dX7_takeOut_86 (by decide) ?_
        rw [show ev_rm k (n + 1) j q f = ev_rm k n (j + 1) (q + 1) (upd f q (f j)) from (by simp [ev_rm, c_2, c_3, c_4])]
        exact ih (j + 1) (q + 1) (upd f q (f j)) H locs (by omega) (by omega) hP hD hS ls (lv_sub hl [2, 3, 1, 0] rfl)
  refine lv_aload_n hx hb dX7_takeOut_0 rfl (lv_at hl 0 rfl) ?_
  refine lv_iload_n hx hb dX7_takeOut_1 rfl (lv_at hl 1 rfl) ?_
  refine ev_cv (As := [.int (nI k)]) (rest := []) ⟨hx, hb, hml, hown, hts⟩ (c_X7_holds l (st := ev_up st i t) hi (ev_up_s st i _) (k := k) (by omega)) (cwV 1 hts gX7_takeOut_X7_holds rfl rfl rfl (by decide +kernel) ⟨Nat.le_of_ble_eq_true rfl, Nat.le_of_ble_eq_true rfl⟩) hP hK (ev_recv hK hP hi) rfl hl.1 (Nat.le_of_ble_eq_true rfl) dX7_takeOut_2 ⟨Nat.le_of_ble_eq_true rfl, Nat.le_of_ble_eq_true rfl⟩ ?_
  refine eb_if_ne (tgt := 11) hx hb dX7_takeOut_5 (by decide) (fun c_5 => ?_) (fun c_5 => ?_)
  ·
    refine lv_aload_n hx hb dX7_takeOut_11 rfl (lv_at hl 0 rfl) ?_
    refine lv_iconst (v := nI 4) hx hb dX7_takeOut_12 (by decide) ?_
    refine lv_iload_n hx hb dX7_takeOut_13 rfl (lv_at hl 1 rfl) ?_
    refine ev_cv (As := [.int (nI 4), .int (nI k)]) (rest := []) ⟨hx, hb, hml, hown, hts⟩ (c_X7_canBe l (st := ev_up st i t) hi (ev_up_s st i _) (r := 4) (k := k) (by omega)) (cwV 2 hts gX7_takeOut_X7_canBe rfl rfl rfl (by decide +kernel) ⟨Nat.le_of_ble_eq_true rfl, Nat.le_of_ble_eq_true rfl⟩) hP hK (ev_recv hK hP hi) rfl hl.1 (Nat.le_of_ble_eq_true rfl) dX7_takeOut_14 ⟨Nat.le_of_ble_eq_true rfl, Nat.le_of_ble_eq_true rfl⟩ ?_
    refine eb_if_ne (tgt := 23) hx hb dX7_takeOut_17 (by decide) (fun c_6 => ?_) (fun c_6 => ?_)
    ·
      refine lv_iload_n hx hb dX7_takeOut_23 rfl (lv_at hl 1 rfl) ?_
      refine en_if_lt (tgt := 40) hx hb (by omega) dX7_takeOut_24 (by decide) ?_
      refine lv_iload_n hx hb dX7_takeOut_27 rfl (lv_at hl 1 rfl) ?_
      refine lv_bipush (v := nI 20) hx hb dX7_takeOut_28 (by decide) ?_
      refine en_icmp_ge (tgt := 40) hx hb (by omega) (by omega) dX7_takeOut_30 (by decide) (fun c_8 => by exfalso; omega) (fun c_8 => ?_)
      refine lv_aload_n hx hb dX7_takeOut_33 rfl (lv_at hl 0 rfl) ?_
      refine ev_get (v := .ref (ad i 3)) hx hb hts hi7 hown hK hP hi (ev_up_s st i _) 6 (by decide) (hts (.fieldLink RX7 25 "EventloopRow$Thing" "rightsRow" "[I") (by decide +kernel)) rfl dX7_takeOut_34 ?_
      refine lv_iload_n hx hb dX7_takeOut_37 rfl (lv_at hl 1 rfl) ?_
      refine lv_iconst (v := -1) hx hb dX7_takeOut_38 (by decide) ?_
      refine ev_ast (t := t) hx hb hK hP hD hS hi 3 (by decide) rfl k (by omega) (by decide) (ev_tg t, ev_ch t, ev_rv t, ev_cs t, ev_an t, ev_va t, upd (ev_rg t) k (-1), ev_ke t, ev_kc t) rfl (fun k h1 h2 => by rcases k with _ | _ | _ | _ | _ | k <;> first | rfl | exact absurd rfl h2 | omega) dX7_takeOut_39 (fun H locs hP hD hS => ?_)
      refine lv_iconst (v := nI 0) hx hb dX7_takeOut_40 (by decide) ?_
      refine lv_istore_n (lv' := [(2, .int (nI 0)), (0, .ref (ad i 0)), (1, .int (nI k))]) hx hb dX7_takeOut_41 rfl hl (by decide) rfl (fun ls hl => ?_)
      refine lv_iconst (v := nI 0) hx hb dX7_takeOut_42 (by decide) ?_
      refine lv_istore_n (lv' := [(3, .int (nI 0)), (2, .int (nI 0)), (0, .ref (ad i 0)), (1, .int (nI k))]) hx hb dX7_takeOut_43 rfl hl (by decide) rfl (fun ls hl => ?_)
      have e9 : ev_tk t k = (121, (ev_tg t, ev_ch t, ev_rv t, ev_cs t, ev_an t, ev_va t, upd (ev_rg t) k (-1), (ev_rm k (ev_kc t) 0 0 (ev_ke t)).1, (ev_rm k (ev_kc t) 0 0 (ev_ke t)).2)) := by simp [ev_tk, c_5, c_6]
      rw [e9]
      exact LP (ev_kc t) 0 0 (ev_ke t) _ _ (Nat.zero_add _) (Nat.le_refl _) hP hD hS ls (lv_sub hl [2, 3, 1, 0] rfl)
    ·
      refine lv_bipush (v := nI 110) hx hb dX7_takeOut_20 (by decide) ?_
      exact em_char hx hb hr hlocks (ev_tk_lt _ _) (by simp [ev_tk, c_5, c_6]) (by rw [show (ev_tk t k).2 = t from (by simp [ev_tk, c_5, c_6])]; exact hP) hS dX7_takeOut_22
  ·
    refine lv_bipush (v := nI 121) hx hb dX7_takeOut_8 (by decide) ?_
    exact em_char hx hb hr hlocks (ev_tk_lt _ _) (by simp [ev_tk, c_5]) (by rw [show (ev_tk t k).2 = t from (by simp [ev_tk, c_5])]; exact hP) hS dX7_takeOut_10
