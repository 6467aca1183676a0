/-! 22.final: the law's last calls -/
def ej_F (st : ev_ST) : Prop := st.1 = 7 ∧ (∀ i, i < st.1 → ∀ j, ev_tg (st.2 i) = some j → j < st.1) ∧ (∀ i, i < st.1 → ∀ j, ev_ch (st.2 i) = some j → j < st.1) ∧ (∀ k, k < 20 → ∀ j, j < st.1 → ev_holds (st.2 j) k = false → ev_kc (st.2 j) < 20) ∧ (∀ j, j < st.1 → ev_kc (st.2 j) ≤ 20) ∧ (ev_tg (st.2 5)).isSome = true
theorem ej_Fof {tt : Nat → Nat} {cc : Nat → Option Nat} {st : ev_ST} {f : Nat → Int32} {od : Nat → Nat → Nat} {n : Nat} (hI : eg_I tt cc st f od n) : ej_F st := ⟨hI.1, eg_hTG hI, eg_hCH hI, fun _ hk => eg_hKP hI hk, eg_hKC hI, by rw [eg_tgq hI (p := 5) (by decide) (by decide)]; rfl⟩
theorem ej_Frv {st : ev_ST} (h : ej_F st) : ej_F (ev_up st 5 (ev_rvk (st.2 5))) := by
  obtain ⟨h1, h2, h3, h4, h5, h6⟩ := h
  have e : ∀ i, ev_tg ((ev_up st 5 (ev_rvk (st.2 5))).2 i) = ev_tg (st.2 i) ∧ ev_ch ((ev_up st 5 (ev_rvk (st.2 5))).2 i) = ev_ch (st.2 i) ∧ ev_kc ((ev_up st 5 (ev_rvk (st.2 5))).2 i) = ev_kc (st.2 i) ∧ ∀ k, ev_holds ((ev_up st 5 (ev_rvk (st.2 5))).2 i) k = ev_holds (st.2 i) k := by
    intro i
    by_cases hi : i = 5
    · subst hi
      rw [ev_up_s]
      exact ⟨rfl, rfl, rfl, fun _ => rfl⟩
    · rw [ev_up_n st _ hi]
      exact ⟨rfl, rfl, rfl, fun _ => rfl⟩
  refine ⟨h1, fun i hi j hj => h2 i hi j (by rw [← (e i).1]; exact hj), fun i hi j hj => h3 i hi j (by rw [← (e i).2.1]; exact hj), fun k hk j hj hh => ?_, fun j hj => ?_, ?_⟩
  · rw [(e j).2.2.1]
    exact h4 k hk j hj (by rw [← (e j).2.2.2 k]; exact hh)
  · rw [(e j).2.2.1]
    exact h5 j hj
  · rw [(e 5).1]
    exact h6
theorem ej_gfR {st : ev_ST} {p k : Nat} (h1 : (ev_tg (st.2 p)).isSome = true) (h2 : ev_rv (st.2 p) = true) (m : Nat) : ev_gf st k (m + 1) (some p) = ev_F := by simp [ev_gf, h1, h2]
theorem ej_afR {st : ev_ST} {p k : Nat} (h1 : (ev_tg (st.2 p)).isSome = true) (h2 : ev_rv (st.2 p) = true) (m : Nat) : ev_af st k (m + 1) (some p) = 84 := by simp [ev_af, h1, h2]
theorem ej_sfR {st : ev_ST} {p k i : Nat} {v : Int32} (h1 : (ev_tg (st.2 p)).isSome = true) (h2 : ev_rv (st.2 p) = true) (m : Nat) : ev_sf st k v i (m + 1) (some p) = (84, st) := by simp [ev_sf, h1, h2]
theorem ej_dfR {st : ev_ST} {p k : Nat} (h1 : (ev_tg (st.2 p)).isSome = true) (h2 : ev_rv (st.2 p) = true) (m : Nat) : ev_df st k (m + 1) (some p) = (84, st) := by simp [ev_df, h1, h2]
theorem ej_pbR {st : ev_ST} {p : Nat} (h1 : (ev_tg (st.2 p)).isSome = true) (h2 : ev_rv (st.2 p) = true) (m : Nat) : ev_pb st (m + 1) (some p) = none := by simp [ev_pb, h1, h2, ev_pb_n]
theorem ej_dnR {st : ev_ST} {p k : Nat} {v r : Int32} (h : ev_pb st 12 (some p) = none) : ev_dn st p k v r = (84, st) := by
  unfold ev_dn
  rw [h]
theorem ej_clR {st : ev_ST} {p : Nat} (h : ev_pb st 12 (some p) = none) : ev_cl st p = (84, st) := by
  unfold ev_cl
  rw [h]
set_option maxHeartbeats 8000000 in
set_option maxRecDepth 100000 in
theorem ej_final {p : Program} {l : Launch} {e : Env} {s : State} {m : MethodId} {args : Array Value} {below : List Frame} {meth : Method} {c : Code} {D : va_G} {cI cO : ClassId} {a0 t0 bs L : Nat} {xs : Nat → Int32} {b : Nat → Nat} {qn : Nat} {tt : Nat → Nat} {cc : Nat → Option Nat} {Q : State → Prop} {ad : Nat → Nat → Nat} {st : ev_ST} {f : Nat → Int32} {od : Nat → Nat → Nat} {n : Nat} {H : Heap} {locs : List Loc} {ls : Array Slot} (C0 : ej_C p l s m args c D cI cO a0 t0 bs L xs) (KE : ∀ (H : Heap) (locs : List Loc) (ls : Array Slot), va_S (ej_A s) s.heap H locs → W p l e room_1 s m args below meth c H locs 600258 7291722 Q (F0 m 998 ls [.int (nI 1)])) (hI : eg_I tt cc st f od n) (hZ : ej_Z st) (hH : ej_H s D cI cO b ad st qn f H locs) (hl : lv_has ls 15 [(0, .ref bs), (1, .ref (b 0)), (2, .ref qn)]) : W p l e room_1 s m args below meth c H locs 2000 20000 Q (F0 m 628 ls []) := by
  obtain ⟨hx, hb, hml, hown, hts, hK, hO, hNs, hE, hES, hR, hX, hbs, hL, hfl⟩ := C0
  have hn := eg_hn hI
  have hTG := eg_hTG hI
  have hCH := eg_hCH hI
  have hbad : st.1 ≤ 7 := by rw [hI.1]; exact Nat.le_refl _
  have ho0 : 0 < st.1 := by rw [hI.1]; decide
  have ho5 : 5 < st.1 := by rw [hI.1]; decide
  have hpx0 : (ev_tg (st.2 0)).isSome = false := by rw [eg_tgp hI (by decide)]; rfl
  have hpb0 : ev_pb st 12 (some 0) = some 0 := eg_pb_plain hI (by decide) 11
  have hch0 : ev_ch (st.2 0) = none := by
    cases h9 : ev_ch (st.2 0) with
    | none => rfl
    | some j => exact absurd (eg_cclt hI (by decide) h9) (Nat.not_lt_zero j)
  have hF := ej_Fof hI
  refine lv_aload_n hx hb dL_law_628 rfl (lv_at hl 1 rfl) ?_
  refine ev_cv (As := []) (rest := []) ⟨hx, hb, hml, hown, hts⟩ (c_X11_isSound l hn (eg_hLS hI)) (cwV 0 hts gL_law_X11_isSound rfl rfl rfl (by decide +kernel) ⟨Nat.le_of_ble_eq_true rfl, Nat.le_of_ble_eq_true rfl⟩) hH.1 hK (ev_recvE hK hH.1) rfl hl.1 (Nat.le_of_ble_eq_true rfl) dL_law_629 ⟨(by show _ ≤ 600258; omega), (by show _ ≤ 7291722; omega)⟩ ?_
  refine eb_if_eq (tgt := 836) hx hb dL_law_632 (by decide) (fun h => by cases h) (fun _ => ?_)
  refine lv_aload_n hx hb dL_law_635 rfl (lv_at hl 1 rfl) ?_
  refine lv_bipush (v := nI 7) hx hb dL_law_636 (by decide) ?_
  refine lv_iconst (v := nI 0) hx hb dL_law_638 (by decide) ?_
  refine ej_w0 (As := [.ref (b 0), .int (nI 7), .int (nI 0)]) (rest := []) ⟨hx, hb, hml, hown, hts⟩ (w_get_io l hfl hn hbad (k := 0)) (vx_cwSW 3 hts gL_law_L_get rfl rfl rfl (by decide +kernel) ⟨Nat.le_of_ble_eq_true rfl, Nat.le_of_ble_eq_true rfl⟩) hH hK hE rfl hl.1 (Nat.le_of_ble_eq_true rfl) dL_law_639 ⟨(by show _ ≤ 600258; omega), (by show _ ≤ 7291722; omega)⟩ (fun H locs hH => ?_)
  refine lv_ldc (v := (-900001)) hx hb hown (hts (.constant RL 17 (-900001)) (by decide +kernel)) dL_law_642 ?_
  refine lv_icmp_ne (tgt := 836) hx hb dL_law_644 (by decide) (fun h => absurd rfl h) (fun _ => ?_)
  refine lv_aload_n hx hb dL_law_647 rfl (lv_at hl 1 rfl) ?_
  refine lv_iconst (v := nI 0) hx hb dL_law_648 (by decide) ?_
  refine lv_bipush (v := nI 20) hx hb dL_law_649 (by decide) ?_
  refine ej_w0 (As := [.ref (b 0), .int (nI 0), .int (nI 20)]) (rest := []) ⟨hx, hb, hml, hown, hts⟩ (w_has_io l hfl hn hTG ho0) (vx_cwSW 3 hts gL_law_L_has rfl rfl rfl (by decide +kernel) ⟨Nat.le_of_ble_eq_true rfl, Nat.le_of_ble_eq_true rfl⟩) hH hK hE rfl hl.1 (Nat.le_of_ble_eq_true rfl) dL_law_651 ⟨(by show _ ≤ 600258; omega), (by show _ ≤ 7291722; omega)⟩ (fun H locs hH => ?_)
  refine lv_ldc (v := (-900001)) hx hb hown (hts (.constant RL 17 (-900001)) (by decide +kernel)) dL_law_654 ?_
  refine lv_icmp_ne (tgt := 836) hx hb dL_law_656 (by decide) (fun h => absurd rfl h) (fun _ => ?_)
  refine lv_aload_n hx hb dL_law_659 rfl (lv_at hl 1 rfl) ?_
  refine lv_iconst (v := nI 0) hx hb dL_law_660 (by decide) ?_
  refine lv_iconst (v := nI 0) hx hb dL_law_661 (by decide) ?_
  refine lv_sipush (v := nI 10000) hx hb dL_law_662 (by decide) ?_
  refine ej_w0 (As := [.ref (b 0), .int (nI 0), .int (nI 0), .int (nI 10000)]) (rest := []) ⟨hx, hb, hml, hown, hts⟩ (w_set_ia l hfl hn hTG ho0 (k := 0) (by decide)) (vx_cwSW 4 hts gL_law_L_set rfl rfl rfl (by decide +kernel) ⟨Nat.le_of_ble_eq_true rfl, Nat.le_of_ble_eq_true rfl⟩) hH hK hE rfl hl.1 (Nat.le_of_ble_eq_true rfl) dL_law_665 ⟨(by show _ ≤ 600258; omega), (by show _ ≤ 7291722; omega)⟩ (fun H locs hH => ?_)
  refine lv_ldc (v := (-900002)) hx hb hown (hts (.constant RL 20 (-900002)) (by decide +kernel)) dL_law_668 ?_
  refine lv_icmp_ne (tgt := 836) hx hb dL_law_670 (by decide) (fun h => absurd rfl h) (fun _ => ?_)
  refine lv_aload_n hx hb dL_law_673 rfl (lv_at hl 1 rfl) ?_
  refine lv_iconst (v := nI 0) hx hb dL_law_674 (by decide) ?_
  refine lv_iconst (v := nI 0) hx hb dL_law_675 (by decide) ?_
  refine lv_iconst (v := nI 0) hx hb dL_law_676 (by decide) ?_
  refine lv_bipush (v := nI 8) hx hb dL_law_677 (by decide) ?_
  refine ej_w0 (As := [.ref (b 0), .int (nI 0), .int (nI 0), .int (nI 0), .int (nI 8)]) (rest := []) ⟨hx, hb, hml, hown, hts⟩ (w_define_ia l hfl hn hTG ho0 (k := 0) (v := 0) (by decide) (by decide)) (vx_cwSW 5 hts gL_law_L_define rfl rfl rfl (by decide +kernel) ⟨Nat.le_of_ble_eq_true rfl, Nat.le_of_ble_eq_true rfl⟩) hH hK hE rfl hl.1 (Nat.le_of_ble_eq_true rfl) dL_law_679 ⟨(by show _ ≤ 600258; omega), (by show _ ≤ 7291722; omega)⟩ (fun H locs hH => ?_)
  refine lv_ldc (v := (-900002)) hx hb hown (hts (.constant RL 20 (-900002)) (by decide +kernel)) dL_law_682 ?_
  refine lv_icmp_ne (tgt := 836) hx hb dL_law_684 (by decide) (fun h => absurd rfl h) (fun _ => ?_)
  refine lv_aload_n hx hb dL_law_687 rfl (lv_at hl 1 rfl) ?_
  refine lv_iconst (v := -1) hx hb dL_law_688 (by decide) ?_
  refine lv_iconst (v := nI 0) hx hb dL_law_689 (by decide) ?_
  refine lv_iconst (v := nI 0) hx hb dL_law_690 (by decide) ?_
  refine lv_iconst (v := nI 0) hx hb dL_law_691 (by decide) ?_
  refine ej_w0 (As := [.ref (b 0), .int (-1), .int (nI 0), .int (nI 0), .int (nI 0)]) (rest := []) ⟨hx, hb, hml, hown, hts⟩ (w_define_io l hfl hn (k := 0) (v := 0) (r := 0)) (vx_cwSW 5 hts gL_law_L_define rfl rfl rfl (by decide +kernel) ⟨Nat.le_of_ble_eq_true rfl, Nat.le_of_ble_eq_true rfl⟩) hH hK hE rfl hl.1 (Nat.le_of_ble_eq_true rfl) dL_law_692 ⟨(by show _ ≤ 600258; omega), (by show _ ≤ 7291722; omega)⟩ (fun H locs hH => ?_)
  refine lv_ldc (v := (-900001)) hx hb hown (hts (.constant RL 17 (-900001)) (by decide +kernel)) dL_law_695 ?_
  refine lv_icmp_ne (tgt := 836) hx hb dL_law_697 (by decide) (fun h => absurd rfl h) (fun _ => ?_)
  refine lv_aload_n hx hb dL_law_700 rfl (lv_at hl 1 rfl) ?_
  refine lv_iconst (v := nI 0) hx hb dL_law_701 (by decide) ?_
  refine lv_iconst (v := -1) hx hb dL_law_702 (by decide) ?_
  refine ej_w0 (As := [.ref (b 0), .int (nI 0), .int (-1)]) (rest := []) ⟨hx, hb, hml, hown, hts⟩ (w_delete_io l hfl hn hTG ho0) (vx_cwSW 3 hts gL_law_L_delete rfl rfl rfl (by decide +kernel) ⟨Nat.le_of_ble_eq_true rfl, Nat.le_of_ble_eq_true rfl⟩) hH hK hE rfl hl.1 (Nat.le_of_ble_eq_true rfl) dL_law_703 ⟨(by show _ ≤ 600258; omega), (by show _ ≤ 7291722; omega)⟩ (fun H locs hH => ?_)
  refine lv_ldc (v := (-900001)) hx hb hown (hts (.constant RL 17 (-900001)) (by decide +kernel)) dL_law_706 ?_
  refine lv_icmp_ne (tgt := 836) hx hb dL_law_708 (by decide) (fun h => absurd rfl h) (fun _ => ?_)
  refine lv_aload_n hx hb dL_law_711 rfl (lv_at hl 1 rfl) ?_
  refine lv_bipush (v := nI 7) hx hb dL_law_712 (by decide) ?_
  refine ej_w0 (As := [.ref (b 0), .int (nI 7)]) (rest := []) ⟨hx, hb, hml, hown, hts⟩ (w_close_io l hfl hn hbad) (vx_cwSW 2 hts gL_law_L_closeObject rfl rfl rfl (by decide +kernel) ⟨Nat.le_of_ble_eq_true rfl, Nat.le_of_ble_eq_true rfl⟩) hH hK hE rfl hl.1 (Nat.le_of_ble_eq_true rfl) dL_law_714 ⟨(by show _ ≤ 600258; omega), (by show _ ≤ 7291722; omega)⟩ (fun H locs hH => ?_)
  refine lv_ldc (v := (-900001)) hx hb hown (hts (.constant RL 17 (-900001)) (by decide +kernel)) dL_law_717 ?_
  refine lv_icmp_ne (tgt := 836) hx hb dL_law_719 (by decide) (fun h => absurd rfl h) (fun _ => ?_)
  refine lv_aload_n hx hb dL_law_722 rfl (lv_at hl 1 rfl) ?_
  refine lv_iconst (v := nI 0) hx hb dL_law_723 (by decide) ?_
  refine lv_bipush (v := nI 7) hx hb dL_law_724 (by decide) ?_
  refine ej_w0 (As := [.ref (b 0), .int (nI 0), .int (nI 7)]) (rest := []) ⟨hx, hb, hml, hown, hts⟩ (w_setChain_io l hfl hn hTG hbad ho0) (vx_cwSW 3 hts gL_law_L_setChain rfl rfl rfl (by decide +kernel) ⟨Nat.le_of_ble_eq_true rfl, Nat.le_of_ble_eq_true rfl⟩) hH hK hE rfl hl.1 (Nat.le_of_ble_eq_true rfl) dL_law_726 ⟨(by show _ ≤ 600258; omega), (by show _ ≤ 7291722; omega)⟩ (fun H locs hH => ?_)
  refine lv_ldc (v := (-900001)) hx hb hown (hts (.constant RL 17 (-900001)) (by decide +kernel)) dL_law_729 ?_
  refine lv_icmp_ne (tgt := 836) hx hb dL_law_731 (by decide) (fun h => absurd rfl h) (fun _ => ?_)
  refine lv_aload_n hx hb dL_law_734 rfl (lv_at hl 1 rfl) ?_
  refine lv_bipush (v := nI 7) hx hb dL_law_735 (by decide) ?_
  refine ej_w0 (As := [.ref (b 0), .int (nI 7)]) (rest := []) ⟨hx, hb, hml, hown, hts⟩ (w_keys_io l hfl hn hbad) (vx_cwSW 2 hts gL_law_L_keys rfl rfl rfl (by decide +kernel) ⟨Nat.le_of_ble_eq_true rfl, Nat.le_of_ble_eq_true rfl⟩) hH hK hE rfl hl.1 (Nat.le_of_ble_eq_true rfl) dL_law_737 ⟨(by show _ ≤ 600258; omega), (by show _ ≤ 7291722; omega)⟩ (fun H locs hH => ?_)
  refine lv_ldc (v := (-900001)) hx hb hown (hts (.constant RL 17 (-900001)) (by decide +kernel)) dL_law_740 ?_
  refine lv_icmp_ne (tgt := 836) hx hb dL_law_742 (by decide) (fun h => absurd rfl h) (fun _ => ?_)
  refine lv_aload_n hx hb dL_law_745 rfl (lv_at hl 1 rfl) ?_
  refine lv_iconst (v := nI 0) hx hb dL_law_746 (by decide) ?_
  refine lv_bipush (v := nI 20) hx hb dL_law_747 (by decide) ?_
  refine ej_w0 (As := [.ref (b 0), .int (nI 0), .int (nI 20)]) (rest := []) ⟨hx, hb, hml, hown, hts⟩ (w_rights_io l hfl hn hTG ho0) (vx_cwSW 3 hts gL_law_L_rights rfl rfl rfl (by decide +kernel) ⟨Nat.le_of_ble_eq_true rfl, Nat.le_of_ble_eq_true rfl⟩) hH hK hE rfl hl.1 (Nat.le_of_ble_eq_true rfl) dL_law_749 ⟨(by show _ ≤ 600258; omega), (by show _ ≤ 7291722; omega)⟩ (fun H locs hH => ?_)
  refine lv_ldc (v := (-900001)) hx hb hown (hts (.constant RL 17 (-900001)) (by decide +kernel)) dL_law_752 ?_
  refine lv_icmp_ne (tgt := 836) hx hb dL_law_754 (by decide) (fun h => absurd rfl h) (fun _ => ?_)
  refine lv_aload_n hx hb dL_law_757 rfl (lv_at hl 1 rfl) ?_
  refine lv_iconst (v := nI 0) hx hb dL_law_758 (by decide) ?_
  refine lv_bipush (v := nI 19) hx hb dL_law_759 (by decide) ?_
  refine ej_w0 (As := [.ref (b 0), .int (nI 0), .int (nI 19)]) (rest := []) ⟨hx, hb, hml, hown, hts⟩ (w_rights_ns l hfl hn hTG ho0 hpb0 (k := 19) (by decide) (hZ 0)) (vx_cwSW 3 hts gL_law_L_rights rfl rfl rfl (by decide +kernel) ⟨Nat.le_of_ble_eq_true rfl, Nat.le_of_ble_eq_true rfl⟩) hH hK hE rfl hl.1 (Nat.le_of_ble_eq_true rfl) dL_law_761 ⟨(by show _ ≤ 600258; omega), (by show _ ≤ 7291722; omega)⟩ (fun H locs hH => ?_)
  refine lv_ldc (v := (-900003)) hx hb hown (hts (.constant RL 62 (-900003)) (by decide +kernel)) dL_law_764 ?_
  refine lv_icmp_ne (tgt := 836) hx hb dL_law_766 (by decide) (fun h => absurd rfl h) (fun _ => ?_)
  refine lv_aload_n hx hb dL_law_769 rfl (lv_at hl 1 rfl) ?_
  refine lv_iconst (v := nI 0) hx hb dL_law_770 (by decide) ?_
  refine lv_bipush (v := nI 103) hx hb dL_law_771 (by decide) ?_
  refine lv_iconst (v := nI 0) hx hb dL_law_773 (by decide) ?_
  refine ej_w0 (As := [.ref (b 0), .int (nI 0), .int (nI 103), .int (nI 0)]) (rest := []) ⟨hx, hb, hml, hown, hts⟩ (w_tell_is l hfl hn hTG ho0 hpx0 (v := 0) (by decide)) (vx_cwSW 4 hts gL_law_L_tell rfl rfl rfl (by decide +kernel) ⟨Nat.le_of_ble_eq_true rfl, Nat.le_of_ble_eq_true rfl⟩) hH hK hE rfl hl.1 (Nat.le_of_ble_eq_true rfl) dL_law_774 ⟨(by show _ ≤ 600258; omega), (by show _ ≤ 7291722; omega)⟩ (fun H locs hH => ?_)
  refine lv_ldc (v := (-900003)) hx hb hown (hts (.constant RL 62 (-900003)) (by decide +kernel)) dL_law_777 ?_
  refine lv_icmp_ne (tgt := 836) hx hb dL_law_779 (by decide) (fun h => absurd rfl h) (fun _ => ?_)
  refine lv_aload_n hx hb dL_law_782 rfl (lv_at hl 1 rfl) ?_
  refine lv_iconst (v := nI 5) hx hb dL_law_783 (by decide) ?_
  refine lv_bipush (v := nI 120) hx hb dL_law_784 (by decide) ?_
  refine lv_iconst (v := nI 0) hx hb dL_law_786 (by decide) ?_
  refine ej_w0 (As := [.ref (b 0), .int (nI 5), .int (nI 120), .int (nI 0)]) (rest := []) ⟨hx, hb, hml, hown, hts⟩ (w_tell_ia_x l hfl hn hTG ho5 (v := 0)) (vx_cwSW 4 hts gL_law_L_tell rfl rfl rfl (by decide +kernel) ⟨Nat.le_of_ble_eq_true rfl, Nat.le_of_ble_eq_true rfl⟩) hH hK hE rfl hl.1 (Nat.le_of_ble_eq_true rfl) dL_law_787 ⟨(by show _ ≤ 600258; omega), (by show _ ≤ 7291722; omega)⟩ (fun H locs hH => ?_)
  refine lv_ldc (v := (-900002)) hx hb hown (hts (.constant RL 20 (-900002)) (by decide +kernel)) dL_law_790 ?_
  refine lv_icmp_ne (tgt := 836) hx hb dL_law_792 (by decide) (fun h => absurd rfl h) (fun _ => ?_)
  refine lv_aload_n hx hb dL_law_795 rfl (lv_at hl 1 rfl) ?_
  refine lv_iconst (v := nI 5) hx hb dL_law_796 (by decide) ?_
  refine lv_bipush (v := nI 104) hx hb dL_law_797 (by decide) ?_
  refine lv_iconst (v := nI 2) hx hb dL_law_799 (by decide) ?_
  refine ej_w0 (As := [.ref (b 0), .int (nI 5), .int (nI 104), .int (nI 2)]) (rest := []) ⟨hx, hb, hml, hown, hts⟩ (w_tell_ia_2 l hfl hn hTG ho5) (vx_cwSW 4 hts gL_law_L_tell rfl rfl rfl (by decide +kernel) ⟨Nat.le_of_ble_eq_true rfl, Nat.le_of_ble_eq_true rfl⟩) hH hK hE rfl hl.1 (Nat.le_of_ble_eq_true rfl) dL_law_800 ⟨(by show _ ≤ 600258; omega), (by show _ ≤ 7291722; omega)⟩ (fun H locs hH => ?_)
  refine lv_ldc (v := (-900002)) hx hb hown (hts (.constant RL 20 (-900002)) (by decide +kernel)) dL_law_803 ?_
  refine lv_icmp_ne (tgt := 836) hx hb dL_law_805 (by decide) (fun h => absurd rfl h) (fun _ => ?_)
  refine lv_aload_n hx hb dL_law_808 rfl (lv_at hl 1 rfl) ?_
  refine lv_bipush (v := nI 7) hx hb dL_law_809 (by decide) ?_
  refine lv_bipush (v := nI 103) hx hb dL_law_811 (by decide) ?_
  refine lv_iconst (v := nI 0) hx hb dL_law_813 (by decide) ?_
  refine ej_w0 (As := [.ref (b 0), .int (nI 7), .int (nI 103), .int (nI 0)]) (rest := []) ⟨hx, hb, hml, hown, hts⟩ (w_tell_io l hfl hn hbad (w := 103) (v := 0)) (vx_cwSW 4 hts gL_law_L_tell rfl rfl rfl (by decide +kernel) ⟨Nat.le_of_ble_eq_true rfl, Nat.le_of_ble_eq_true rfl⟩) hH hK hE rfl hl.1 (Nat.le_of_ble_eq_true rfl) dL_law_814 ⟨(by show _ ≤ 600258; omega), (by show _ ≤ 7291722; omega)⟩ (fun H locs hH => ?_)
  refine lv_ldc (v := (-900001)) hx hb hown (hts (.constant RL 17 (-900001)) (by decide +kernel)) dL_law_817 ?_
  refine lv_icmp_ne (tgt := 836) hx hb dL_law_819 (by decide) (fun h => absurd rfl h) (fun _ => ?_)
  refine lv_aload_n hx hb dL_law_822 rfl (lv_at hl 1 rfl) ?_
  refine lv_iconst (v := nI 0) hx hb dL_law_823 (by decide) ?_
  refine ej_w0 (As := [.ref (b 0), .int (nI 0)]) (rest := []) ⟨hx, hb, hml, hown, hts⟩ (w_revoke_is l hfl hn hTG ho0 hpx0) (vx_cwSW 2 hts gL_law_L_revoke rfl rfl rfl (by decide +kernel) ⟨Nat.le_of_ble_eq_true rfl, Nat.le_of_ble_eq_true rfl⟩) hH hK hE rfl hl.1 (Nat.le_of_ble_eq_true rfl) dL_law_824 ⟨(by show _ ≤ 600258; omega), (by show _ ≤ 7291722; omega)⟩ (fun H locs hH => ?_)
  refine lv_ldc (v := (-900002)) hx hb hown (hts (.constant RL 20 (-900002)) (by decide +kernel)) dL_law_827 ?_
  refine lv_icmp_ne (tgt := 836) hx hb dL_law_829 (by decide) (fun h => absurd rfl h) (fun _ => ?_)
  refine lv_iconst (v := nI 1) hx hb dL_law_832 (by decide) ?_
  refine lv_goto (tgt := 837) hx hb dL_law_833 (by decide) ?_
  refine lv_istore_n (lv' := [(3, .int (nI 1)), (0, .ref bs), (1, .ref (b 0)), (2, .ref qn)]) hx hb dL_law_837 rfl hl (by decide) rfl (fun ls hl => ?_)
  refine lv_iload_n hx hb dL_law_838 rfl (lv_at hl 0 rfl) ?_
  refine lv_aload_n hx hb dL_law_839 rfl (lv_at hl 2 rfl) ?_
  refine lv_iconst (v := nI 0) hx hb dL_law_840 (by decide) ?_
  refine lv_iconst (v := nI 0) hx hb dL_law_841 (by decide) ?_
  refine ej_w0 (As := [.ref (b 0), .int (nI 0), .int (nI 0)]) (rest := [.int (nI 1)]) ⟨hx, hb, hml, hown, hts⟩ (w_setChain_b l (A := ej_A s) hn hTG ho0 hpb0 hch0 (eg_tgp hI (by decide))) (vx_cwSW 3 hts gL_law_L_setChain rfl rfl rfl (by decide +kernel) ⟨Nat.le_of_ble_eq_true rfl, Nat.le_of_ble_eq_true rfl⟩) hH hK hE rfl hl.1 (Nat.le_of_ble_eq_true rfl) dL_law_842 ⟨(by show _ ≤ 600258; omega), (by show _ ≤ 7291722; omega)⟩ (fun H locs hH => ?_)
  refine lv_bipush (v := nI 110) hx hb dL_law_845 (by decide) ?_
  refine lv_icmp_ne (tgt := 885) hx hb dL_law_847 (by decide) (fun h => absurd rfl h) (fun _ => ?_)
  refine lv_aload_n hx hb dL_law_850 rfl (lv_at hl 2 rfl) ?_
  refine lv_iconst (v := nI 0) hx hb dL_law_851 (by decide) ?_
  refine lv_aload_n hx hb dL_law_852 rfl (lv_at hl 3 rfl) ?_
  refine lv_bipush (v := nI 10) hx hb dL_law_853 (by decide) ?_
  refine el_ald (f := f) hx hb hK hH.2.1 (10) (by omega) dL_law_855 ?_
  refine en_eq (show f 10 = -1 from (eg_f10 hI (i := 0) (by decide)).trans (by rw [hch0]; rfl)) ?_
  refine ej_w0 (As := [.ref (b 0), .int (nI 0), .int (-1)]) (rest := [.int (nI 1)]) ⟨hx, hb, hml, hown, hts⟩ (w_setChain_a l (A := ej_A s) hn hTG ho0 hpb0 hch0) (vx_cwSW 3 hts gL_law_L_setChain rfl rfl rfl (by decide +kernel) ⟨Nat.le_of_ble_eq_true rfl, Nat.le_of_ble_eq_true rfl⟩) hH hK hE rfl hl.1 (Nat.le_of_ble_eq_true rfl) dL_law_856 ⟨(by show _ ≤ 600258; omega), (by show _ ≤ 7291722; omega)⟩ (fun H locs hH => ?_)
  refine lv_bipush (v := nI 121) hx hb dL_law_859 (by decide) ?_
  refine lv_icmp_ne (tgt := 885) hx hb dL_law_861 (by decide) (fun h => absurd rfl h) (fun _ => ?_)
  refine lv_aload_n hx hb dL_law_864 rfl (lv_at hl 2 rfl) ?_
  refine lv_iconst (v := nI 5) hx hb dL_law_865 (by decide) ?_
  refine ej_w1 (st' := ev_up st 5 (ev_rvk (st.2 5))) (As := [.ref (b 0), .int (nI 5)]) (rest := [.int (nI 1)]) ⟨hx, hb, hml, hown, hts⟩ (w_revoke l hH.2.2.1 hn hTG ho5 hF.2.2.2.2.2) (vx_cwSW 2 hts gL_law_L_revoke rfl rfl rfl (by decide +kernel) ⟨Nat.le_of_ble_eq_true rfl, Nat.le_of_ble_eq_true rfl⟩) hH hK rfl rfl hl.1 (Nat.le_of_ble_eq_true rfl) dL_law_866 ⟨(by show _ ≤ 600258; omega), (by show _ ≤ 7291722; omega)⟩ (fun H locs hH => ?_)
  have hF2 := ej_Frv hF
  have hrv2 : ev_rv ((ev_up st 5 (ev_rvk (st.2 5))).2 5) = true := by rw [ev_up_s]; rfl
  refine en_eq (show ev_bi (ev_rv (st.2 5)) = nI 0 from by rw [eg_rvq hI (by decide) (by decide)]; rfl) ?_
  generalize ev_up st 5 (ev_rvk (st.2 5)) = st2 at hH hF2 hrv2
  have hn2 : st2.1 ≤ 12 := by rw [hF2.1]; decide
  have ho52 : 5 < st2.1 := by rw [hF2.1]; decide
  refine en_if_ne (tgt := 885) hx hb (by omega) dL_law_869 (by decide) (fun c_2 => by exfalso; omega) (fun c_2 => ?_)
  refine lv_aload_n hx hb dL_law_872 rfl (lv_at hl 2 rfl) ?_
  refine lv_iconst (v := nI 5) hx hb dL_law_873 (by decide) ?_
  refine ej_w1 (st' := ev_up st2 5 (ev_rvk (st2.2 5))) (As := [.ref (b 0), .int (nI 5)]) (rest := [.int (nI 1)]) ⟨hx, hb, hml, hown, hts⟩ (w_revoke l hH.2.2.1 hn2 hF2.2.1 ho52 hF2.2.2.2.2.2) (vx_cwSW 2 hts gL_law_L_revoke rfl rfl rfl (by decide +kernel) ⟨Nat.le_of_ble_eq_true rfl, Nat.le_of_ble_eq_true rfl⟩) hH hK rfl rfl hl.1 (Nat.le_of_ble_eq_true rfl) dL_law_874 ⟨(by show _ ≤ 600258; omega), (by show _ ≤ 7291722; omega)⟩ (fun H locs hH => ?_)
  have hF3 := ej_Frv hF2
  have hrv3 : ev_rv ((ev_up st2 5 (ev_rvk (st2.2 5))).2 5) = true := by rw [ev_up_s]; rfl
  refine en_eq (show ev_bi (ev_rv (st2.2 5)) = nI 1 from by rw [hrv2]; rfl) ?_
  generalize ev_up st2 5 (ev_rvk (st2.2 5)) = st3 at hH hF3 hrv3
  have hn3 : st3.1 ≤ 12 := by rw [hF3.1]; decide
  have ho53 : 5 < st3.1 := by rw [hF3.1]; decide
  have hTG3 := hF3.2.1
  have hCH3 := hF3.2.2.1
  have htg3 := hF3.2.2.2.2.2
  have hpb3 : ev_pb st3 12 (some 5) = none := ej_pbR htg3 hrv3 11
  refine lv_iconst (v := nI 1) hx hb dL_law_877 (by decide) ?_
  refine lv_icmp_ne (tgt := 885) hx hb dL_law_878 (by decide) (fun h => absurd rfl h) (fun _ => ?_)
  refine lv_iconst (v := nI 1) hx hb dL_law_881 (by decide) ?_
  refine lv_goto (tgt := 886) hx hb dL_law_882 (by decide) ?_
  refine lv_iand hx hb dL_law_886 ?_
  refine en_eq (show nI 1 &&& nI 1 = nI 1 from by decide +kernel) ?_
  refine lv_istore_n (lv' := [(3, .int (nI 1)), (0, .ref bs), (1, .ref (b 0)), (2, .ref qn)]) hx hb dL_law_887 rfl hl (by decide) rfl (fun ls hl => ?_)
  refine lv_iload_n hx hb dL_law_888 rfl (lv_at hl 0 rfl) ?_
  refine en_if_eq (tgt := 997) hx hb (by omega) dL_law_889 (by decide) (fun c_3 => by exfalso; omega) (fun c_3 => ?_)
  refine lv_aload_n hx hb dL_law_892 rfl (lv_at hl 2 rfl) ?_
  refine lv_iconst (v := nI 5) hx hb dL_law_893 (by decide) ?_
  refine lv_iconst (v := nI 0) hx hb dL_law_894 (by decide) ?_
  refine ej_w0 (As := [.ref (b 0), .int (nI 5), .int (nI 0)]) (rest := []) ⟨hx, hb, hml, hown, hts⟩ (w_get l hfl (A := ej_A s) hn3 hTG3 hCH3 ho53 (k := 0) (by decide)) (vx_cwSW 3 hts gL_law_L_get rfl rfl rfl (by decide +kernel) ⟨Nat.le_of_ble_eq_true rfl, Nat.le_of_ble_eq_true rfl⟩) hH hK hE rfl hl.1 (Nat.le_of_ble_eq_true rfl) dL_law_895 ⟨(by show _ ≤ 600258; omega), (by show _ ≤ 7291722; omega)⟩ (fun H locs hH => ?_)
  refine en_eq (show eg_go st3 0 5 = -900002 from if_pos (ej_gfR htg3 hrv3 29)) ?_
  refine lv_ldc (v := (-900002)) hx hb hown (hts (.constant RL 20 (-900002)) (by decide +kernel)) dL_law_898 ?_
  refine lv_icmp_ne (tgt := 997) hx hb dL_law_900 (by decide) (fun h => absurd rfl h) (fun _ => ?_)
  refine lv_aload_n hx hb dL_law_903 rfl (lv_at hl 2 rfl) ?_
  refine lv_iconst (v := nI 5) hx hb dL_law_904 (by decide) ?_
  refine lv_iconst (v := nI 0) hx hb dL_law_905 (by decide) ?_
  refine ej_w0 (As := [.ref (b 0), .int (nI 5), .int (nI 0)]) (rest := []) ⟨hx, hb, hml, hown, hts⟩ (w_has l (A := ej_A s) hn3 hTG3 hCH3 ho53 (k := 0) (by decide)) (vx_cwSW 3 hts gL_law_L_has rfl rfl rfl (by decide +kernel) ⟨Nat.le_of_ble_eq_true rfl, Nat.le_of_ble_eq_true rfl⟩) hH hK hE rfl hl.1 (Nat.le_of_ble_eq_true rfl) dL_law_906 ⟨(by show _ ≤ 600258; omega), (by show _ ≤ 7291722; omega)⟩ (fun H locs hH => ?_)
  refine en_eq (congrArg nI (ej_afR htg3 hrv3 29)) ?_
  refine lv_bipush (v := nI 84) hx hb dL_law_909 (by decide) ?_
  refine lv_icmp_ne (tgt := 997) hx hb dL_law_911 (by decide) (fun h => absurd rfl h) (fun _ => ?_)
  refine lv_aload_n hx hb dL_law_914 rfl (lv_at hl 2 rfl) ?_
  refine lv_iconst (v := nI 5) hx hb dL_law_915 (by decide) ?_
  refine lv_iconst (v := nI 0) hx hb dL_law_916 (by decide) ?_
  refine lv_iconst (v := nI 1) hx hb dL_law_917 (by decide) ?_
  have hM := w_set l (D := D) hH.2.2.1 hn3 hTG3 hCH3 ho53 (k := 0) (v := 1) (by decide) (by decide) (hF3.2.2.2.1 0 (by decide))
  rw [ej_sfR htg3 hrv3 29] at hM
  refine ej_w1 (v := .int (nI 84)) (st' := st3) (As := [.ref (b 0), .int (nI 5), .int (nI 0), .int (nI 1)]) (rest := []) ⟨hx, hb, hml, hown, hts⟩ (hM) (vx_cwSW 4 hts gL_law_L_set rfl rfl rfl (by decide +kernel) ⟨Nat.le_of_ble_eq_true rfl, Nat.le_of_ble_eq_true rfl⟩) hH hK rfl rfl hl.1 (Nat.le_of_ble_eq_true rfl) dL_law_918 ⟨(by show _ ≤ 600258; omega), (by show _ ≤ 7291722; omega)⟩ (fun H locs hH => ?_)
  refine lv_bipush (v := nI 84) hx hb dL_law_921 (by decide) ?_
  refine lv_icmp_ne (tgt := 997) hx hb dL_law_923 (by decide) (fun h => absurd rfl h) (fun _ => ?_)
  refine lv_aload_n hx hb dL_law_926 rfl (lv_at hl 2 rfl) ?_
  refine lv_iconst (v := nI 5) hx hb dL_law_927 (by decide) ?_
  refine lv_iconst (v := nI 0) hx hb dL_law_928 (by decide) ?_
  have hM := w_delete l (D := D) hH.2.2.1 hn3 hTG3 ho53 (k := 0) (by decide) hF3.2.2.2.2.1
  rw [ej_dfR htg3 hrv3 11] at hM
  refine ej_w1 (v := .int (nI 84)) (st' := st3) (As := [.ref (b 0), .int (nI 5), .int (nI 0)]) (rest := []) ⟨hx, hb, hml, hown, hts⟩ (hM) (vx_cwSW 3 hts gL_law_L_delete rfl rfl rfl (by decide +kernel) ⟨Nat.le_of_ble_eq_true rfl, Nat.le_of_ble_eq_true rfl⟩) hH hK rfl rfl hl.1 (Nat.le_of_ble_eq_true rfl) dL_law_929 ⟨(by show _ ≤ 600258; omega), (by show _ ≤ 7291722; omega)⟩ (fun H locs hH => ?_)
  refine lv_bipush (v := nI 84) hx hb dL_law_932 (by decide) ?_
  refine lv_icmp_ne (tgt := 997) hx hb dL_law_934 (by decide) (fun h => absurd rfl h) (fun _ => ?_)
  refine lv_aload_n hx hb dL_law_937 rfl (lv_at hl 2 rfl) ?_
  refine lv_iconst (v := nI 5) hx hb dL_law_938 (by decide) ?_
  refine lv_iconst (v := nI 0) hx hb dL_law_939 (by decide) ?_
  refine lv_iconst (v := nI 1) hx hb dL_law_940 (by decide) ?_
  refine lv_bipush (v := nI 7) hx hb dL_law_941 (by decide) ?_
  have hM := w_define l (D := D) hH.2.2.1 hn3 hTG3 ho53 (k := 0) (v := 1) (r := 7) (by decide) (by decide) (by decide) (hF3.2.2.2.1 0 (by decide))
  rw [ej_dnR hpb3] at hM
  refine ej_w1 (v := .int (nI 84)) (st' := st3) (As := [.ref (b 0), .int (nI 5), .int (nI 0), .int (nI 1), .int (nI 7)]) (rest := []) ⟨hx, hb, hml, hown, hts⟩ (hM) (vx_cwSW 5 hts gL_law_L_define rfl rfl rfl (by decide +kernel) ⟨Nat.le_of_ble_eq_true rfl, Nat.le_of_ble_eq_true rfl⟩) hH hK rfl rfl hl.1 (Nat.le_of_ble_eq_true rfl) dL_law_943 ⟨(by show _ ≤ 600258; omega), (by show _ ≤ 7291722; omega)⟩ (fun H locs hH => ?_)
  refine lv_bipush (v := nI 84) hx hb dL_law_946 (by decide) ?_
  refine lv_icmp_ne (tgt := 997) hx hb dL_law_948 (by decide) (fun h => absurd rfl h) (fun _ => ?_)
  refine lv_aload_n hx hb dL_law_951 rfl (lv_at hl 2 rfl) ?_
  refine lv_iconst (v := nI 5) hx hb dL_law_952 (by decide) ?_
  have hM := w_close l (D := D) hH.2.2.1 hn3 hTG3 ho53
  rw [ej_clR hpb3] at hM
  refine ej_w1 (v := .int (nI 84)) (st' := st3) (As := [.ref (b 0), .int (nI 5)]) (rest := []) ⟨hx, hb, hml, hown, hts⟩ (hM) (vx_cwSW 2 hts gL_law_L_closeObject rfl rfl rfl (by decide +kernel) ⟨Nat.le_of_ble_eq_true rfl, Nat.le_of_ble_eq_true rfl⟩) hH hK rfl rfl hl.1 (Nat.le_of_ble_eq_true rfl) dL_law_953 ⟨(by show _ ≤ 600258; omega), (by show _ ≤ 7291722; omega)⟩ (fun H locs hH => ?_)
  refine lv_bipush (v := nI 84) hx hb dL_law_956 (by decide) ?_
  refine lv_icmp_ne (tgt := 997) hx hb dL_law_958 (by decide) (fun h => absurd rfl h) (fun _ => ?_)
  refine lv_aload_n hx hb dL_law_961 rfl (lv_at hl 2 rfl) ?_
  refine lv_iconst (v := nI 5) hx hb dL_law_962 (by decide) ?_
  refine lv_iconst (v := -1) hx hb dL_law_963 (by decide) ?_
  refine ej_w0 (As := [.ref (b 0), .int (nI 5), .int (-1)]) (rest := []) ⟨hx, hb, hml, hown, hts⟩ (w_setChain_c l (A := ej_A s) hn3 hTG3 ho53 hpb3) (vx_cwSW 3 hts gL_law_L_setChain rfl rfl rfl (by decide +kernel) ⟨Nat.le_of_ble_eq_true rfl, Nat.le_of_ble_eq_true rfl⟩) hH hK hE rfl hl.1 (Nat.le_of_ble_eq_true rfl) dL_law_964 ⟨(by show _ ≤ 600258; omega), (by show _ ≤ 7291722; omega)⟩ (fun H locs hH => ?_)
  refine lv_bipush (v := nI 84) hx hb dL_law_967 (by decide) ?_
  refine lv_icmp_ne (tgt := 997) hx hb dL_law_969 (by decide) (fun h => absurd rfl h) (fun _ => ?_)
  refine lv_aload_n hx hb dL_law_972 rfl (lv_at hl 2 rfl) ?_
  refine lv_iconst (v := nI 5) hx hb dL_law_973 (by decide) ?_
  refine ej_w0 (As := [.ref (b 0), .int (nI 5)]) (rest := []) ⟨hx, hb, hml, hown, hts⟩ (w_keys_uo l hfl hn3 hTG3 ho53 hpb3) (vx_cwSW 2 hts gL_law_L_keys rfl rfl rfl (by decide +kernel) ⟨Nat.le_of_ble_eq_true rfl, Nat.le_of_ble_eq_true rfl⟩) hH hK hE rfl hl.1 (Nat.le_of_ble_eq_true rfl) dL_law_974 ⟨(by show _ ≤ 600258; omega), (by show _ ≤ 7291722; omega)⟩ (fun H locs hH => ?_)
  refine lv_ldc (v := (-900002)) hx hb hown (hts (.constant RL 20 (-900002)) (by decide +kernel)) dL_law_977 ?_
  refine lv_icmp_ne (tgt := 997) hx hb dL_law_979 (by decide) (fun h => absurd rfl h) (fun _ => ?_)
  refine lv_aload_n hx hb dL_law_982 rfl (lv_at hl 2 rfl) ?_
  refine lv_iconst (v := nI 5) hx hb dL_law_983 (by decide) ?_
  refine lv_iconst (v := nI 0) hx hb dL_law_984 (by decide) ?_
  refine ej_w0 (As := [.ref (b 0), .int (nI 5), .int (nI 0)]) (rest := []) ⟨hx, hb, hml, hown, hts⟩ (w_rights_uo l hfl hn3 hTG3 ho53 hpb3 (k := 0) (by decide)) (vx_cwSW 3 hts gL_law_L_rights rfl rfl rfl (by decide +kernel) ⟨Nat.le_of_ble_eq_true rfl, Nat.le_of_ble_eq_true rfl⟩) hH hK hE rfl hl.1 (Nat.le_of_ble_eq_true rfl) dL_law_985 ⟨(by show _ ≤ 600258; omega), (by show _ ≤ 7291722; omega)⟩ (fun H locs hH => ?_)
  refine lv_ldc (v := (-900002)) hx hb hown (hts (.constant RL 20 (-900002)) (by decide +kernel)) dL_law_988 ?_
  refine lv_icmp_ne (tgt := 997) hx hb dL_law_990 (by decide) (fun h => absurd rfl h) (fun _ => ?_)
  refine lv_iconst (v := nI 1) hx hb dL_law_993 (by decide) ?_
  refine lv_goto (tgt := 998) hx hb dL_law_994 (by decide) ?_
  refine W.widen (k := 600258) (n := 7291722) (by omega) (by omega) ?_
  exact KE H locs ls hH.2.2.2.2
