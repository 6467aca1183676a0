/-! 16.lawm: the law's helpers that write the table -/
set_option maxHeartbeats 4000000 in
set_option maxRecDepth 100000 in
theorem c_L_defined (l : Launch) {D : va_G} {cI cO : ClassId} {qn : Nat} {tt : Nat → Nat} {cc : Nat → Option Nat} {st : ev_ST} {f : Nat → Int32} {od : Nat → Nat → Nat} {n : Nat} (hI : eg_I tt cc st f od n) {o k r : Nat} {v : Int32} (ho : o < 5) (hk : k < 20) (hr7 : r ≤ 7) : Met l yL_defined wsL_defined ({ frames := 1, cells := 0, slots := 0, locals := 21 }) (ev_Pc D cI cO (ev_N D cI qn f) [.ref qn, .int (nI o), .int (nI k), .int v, .int (nI r)]) (ev_QM (some (.int (nI (ev_pi (st.2 o) k v (nI r)).1))) (el_H D cI qn tt cc (ev_up st o (ev_pi (st.2 o) k v (nI r)).2) n) (el_A qn)) 0 0 (el_A qn) := by
  refine ev_body (cc := cL_defined) (maxL := 7) (ret := (some .int)) (by decide) rfl (Nat.le_of_ble_eq_true rfl) ?_
  intro p e s m args below meth c hx hb hr hml hown hts hlocks hnm hP hK ls hl
  have hS : va_S (el_A qn) s.heap s.heap [] := va_S.rf
  have hqA : el_A qn qn := rfl
  have hl : lv_has ls 7 [(0, .ref qn), (1, .int (nI o)), (2, .int (nI k)), (3, .int v), (4, .int (nI r))] := hl
  refine lv_iload_n hx hb dL_defined_0 rfl (lv_at hl 1 rfl) ?_
  refine lv_iload_n hx hb dL_defined_1 rfl (lv_at hl 2 rfl) ?_
  refine ev_cst (As := [.int (nI o), .int (nI k)]) (rest := []) ⟨hx, hb, hml, hown, hts⟩ (c_L_at l (i := o) (k := k)) (va_cwS 2 hts gL_defined_L_at rfl rfl rfl (by decide +kernel) ⟨Nat.le_of_ble_eq_true rfl, Nat.le_of_ble_eq_true rfl⟩) hP hK rfl hl.1 (Nat.le_of_ble_eq_true rfl) dL_defined_2 ⟨Nat.le_of_ble_eq_true rfl, Nat.le_of_ble_eq_true rfl⟩ ?_
  refine lv_istore (lv' := [(5, .int (nI (eg_at o k))), (0, .ref qn), (1, .int (nI o)), (2, .int (nI k)), (3, .int v), (4, .int (nI r))]) hx hb dL_defined_5 hl (by decide) rfl (fun ls hl => ?_)
  refine lv_aload_n hx hb dL_defined_7 rfl (lv_at hl 1 rfl) ?_
  refine lv_iload hx hb dL_defined_8 (lv_at hl 0 rfl) ?_
  refine el_ald (f := f) hx hb hK hP ((eg_at o k)) (by first | omega | (unfold eg_at; omega)) dL_defined_10 ?_
  refine en_eq (show f ((eg_at o k)) = ev_bi (ev_holds (st.2 o) k) from eg_fh hI (i := o) (k := k) (by omega) (by omega)) ?_
  refine eb_if_ne (tgt := 50) hx hb dL_defined_11 (by decide) (fun c_1 => ?_) (fun c_1 => ?_)
  ·
    refine lv_aload_n hx hb dL_defined_50 rfl (lv_at hl 1 rfl) ?_
    refine lv_iload hx hb dL_defined_51 (lv_at hl 0 rfl) ?_
    refine lv_iconst (v := nI 2) hx hb dL_defined_53 (by decide) ?_
    refine en_iadd hx hb ((eg_at o k) + 2) rfl dL_defined_54 ?_
    have hr_2 := (eg_rE hI (i := o) (k := k) (by omega) (by omega) c_1).2
    refine el_ald (f := f) hx hb hK hP ((eg_at o k) + 2) (by first | omega | (unfold eg_at; omega)) dL_defined_55 ?_
    refine en_eq (show f ((eg_at o k) + 2) = nI (eg_r (st.2 o) k) from eg_fr hI (i := o) (k := k) (by omega) (by omega) c_1) ?_
    refine lv_iconst (v := nI 4) hx hb dL_defined_56 (by decide) ?_
    refine en_icmp_ge (tgt := 136) hx hb (by omega) (by omega) dL_defined_57 (by decide) (fun c_3 => ?_) (fun c_3 => ?_)
    ·
      refine lv_aload_n hx hb dL_defined_136 rfl (lv_at hl 1 rfl) ?_
      refine lv_iload hx hb dL_defined_137 (lv_at hl 0 rfl) ?_
      refine lv_iconst (v := nI 1) hx hb dL_defined_139 (by decide) ?_
      refine en_iadd hx hb ((eg_at o k) + 1) rfl dL_defined_140 ?_
      refine lv_iload_n hx hb dL_defined_141 rfl (lv_at hl 4 rfl) ?_
      refine el_ast (f := f) (x := v) hx hb hK hP hqA hS ((eg_at o k) + 1) (by first | omega | (unfold eg_at; omega)) dL_defined_142 (fun H locs hP hS => ?_)
      refine lv_aload_n hx hb dL_defined_143 rfl (lv_at hl 1 rfl) ?_
      refine lv_iload hx hb dL_defined_144 (lv_at hl 0 rfl) ?_
      refine lv_iconst (v := nI 2) hx hb dL_defined_146 (by decide) ?_
      refine en_iadd hx hb ((eg_at o k) + 2) rfl dL_defined_147 ?_
      refine lv_iload hx hb dL_defined_148 (lv_at hl 5 rfl) ?_
      refine el_ast (f := (upd f ((eg_at o k) + 1) v)) (x := nI r) hx hb hK hP hqA hS ((eg_at o k) + 2) (by first | omega | (unfold eg_at; omega)) dL_defined_150 (fun H locs hP hS => ?_)
      refine lv_bipush (v := nI 121) hx hb dL_defined_151 (by decide) ?_
      rw [eg_pi_4 hI ho hk c_1 (by omega)]
      exact em_int hx hb hr hlocks rfl ⟨_, _, _, hP, eg_put_old hI ho hk c_1 hr7, by omega⟩ hS dL_defined_153
    ·
      refine lv_iload hx hb dL_defined_60 (lv_at hl 5 rfl) ?_
      refine lv_iconst (v := nI 3) hx hb dL_defined_62 (by decide) ?_
      refine en_icmp_gt (tgt := 100) hx hb (by omega) (by omega) dL_defined_63 (by decide) (fun c_4 => ?_) (fun c_4 => ?_)
      ·
        refine lv_iconst (v := nI 1) hx hb dL_defined_100 (by decide) ?_
        refine lv_goto (tgt := 105) hx hb dL_defined_101 (by decide) ?_
        refine lv_istore (lv' := [(6, .int (nI 1)), (5, .int (nI (eg_at o k))), (0, .ref qn), (1, .int (nI o)), (2, .int (nI k)), (3, .int v), (4, .int (nI r))]) hx hb dL_defined_105 hl (by decide) rfl (fun ls hl => ?_)
        refine lv_iload hx hb dL_defined_107 (lv_at hl 0 rfl) ?_
        refine en_if_ne (tgt := 133) hx hb (by omega) dL_defined_109 (by decide) (fun c_5 => ?_) (fun c_5 => by exfalso; omega)
        refine lv_bipush (v := nI 110) hx hb dL_defined_133 (by decide) ?_
        rw [eg_pi_o hI ho hk hr7 c_1 (by omega), if_neg (fun h9 => by obtain ⟨a9, b9, c9, d9⟩ := h9; first | omega | exact absurd (d9 (by omega)) (by assumption))]
        exact em_int hx hb hr hlocks rfl ⟨_, _, _, hP, (by show eg_I tt cc (ev_up st o (st.2 o)) f od n; rw [ev_up_id]; exact hI), by omega⟩ hS dL_defined_135
      ·
        refine lv_iload hx hb dL_defined_66 (lv_at hl 5 rfl) ?_
        refine lv_iconst (v := nI 2) hx hb dL_defined_68 (by decide) ?_
        refine en_idiv hx hb (r / 2) rfl (by omega) (by decide) (by decide) dL_defined_69 ?_
        refine lv_iconst (v := nI 2) hx hb dL_defined_70 (by decide) ?_
        refine en_irem hx hb (r / 2 % 2) rfl (by omega) (by decide) (by decide) dL_defined_71 ?_
        refine lv_aload_n hx hb dL_defined_72 rfl (lv_at hl 1 rfl) ?_
        refine lv_iload hx hb dL_defined_73 (lv_at hl 0 rfl) ?_
        refine lv_iconst (v := nI 2) hx hb dL_defined_75 (by decide) ?_
        refine en_iadd hx hb ((eg_at o k) + 2) rfl dL_defined_76 ?_
        have hr_6 := (eg_rE hI (i := o) (k := k) (by omega) (by omega) c_1).2
        refine el_ald (f := f) hx hb hK hP ((eg_at o k) + 2) (by first | omega | (unfold eg_at; omega)) dL_defined_77 ?_
        refine en_eq (show f ((eg_at o k) + 2) = nI (eg_r (st.2 o) k) from eg_fr hI (i := o) (k := k) (by omega) (by omega) c_1) ?_
        refine lv_iconst (v := nI 2) hx hb dL_defined_78 (by decide) ?_
        refine en_idiv hx hb ((eg_r (st.2 o) k) / 2) rfl (by omega) (by decide) (by decide) dL_defined_79 ?_
        refine lv_iconst (v := nI 2) hx hb dL_defined_80 (by decide) ?_
        refine en_irem hx hb ((eg_r (st.2 o) k) / 2 % 2) rfl (by omega) (by decide) (by decide) dL_defined_81 ?_
        refine en_icmp_ne (tgt := 100) hx hb (by omega) (by omega) dL_defined_82 (by decide) (fun c_7 => ?_) (fun c_7 => ?_)
        ·
          refine lv_iconst (v := nI 1) hx hb dL_defined_100 (by decide) ?_
          refine lv_goto (tgt := 105) hx hb dL_defined_101 (by decide) ?_
          refine lv_istore (lv' := [(6, .int (nI 1)), (5, .int (nI (eg_at o k))), (0, .ref qn), (1, .int (nI o)), (2, .int (nI k)), (3, .int v), (4, .int (nI r))]) hx hb dL_defined_105 hl (by decide) rfl (fun ls hl => ?_)
          refine lv_iload hx hb dL_defined_107 (lv_at hl 0 rfl) ?_
          refine en_if_ne (tgt := 133) hx hb (by omega) dL_defined_109 (by decide) (fun c_8 => ?_) (fun c_8 => by exfalso; omega)
          refine lv_bipush (v := nI 110) hx hb dL_defined_133 (by decide) ?_
          rw [eg_pi_o hI ho hk hr7 c_1 (by omega), if_neg (fun h9 => by obtain ⟨a9, b9, c9, d9⟩ := h9; first | omega | exact absurd (d9 (by omega)) (by assumption))]
          exact em_int hx hb hr hlocks rfl ⟨_, _, _, hP, (by show eg_I tt cc (ev_up st o (st.2 o)) f od n; rw [ev_up_id]; exact hI), by omega⟩ hS dL_defined_135
        ·
          refine lv_iload hx hb dL_defined_85 (lv_at hl 5 rfl) ?_
          refine lv_iconst (v := nI 2) hx hb dL_defined_87 (by decide) ?_
          refine en_irem hx hb (r % 2) rfl (by omega) (by decide) (by decide) dL_defined_88 ?_
          refine lv_aload_n hx hb dL_defined_89 rfl (lv_at hl 1 rfl) ?_
          refine lv_iload hx hb dL_defined_90 (lv_at hl 0 rfl) ?_
          refine lv_iconst (v := nI 2) hx hb dL_defined_92 (by decide) ?_
          refine en_iadd hx hb ((eg_at o k) + 2) rfl dL_defined_93 ?_
          have hr_9 := (eg_rE hI (i := o) (k := k) (by omega) (by omega) c_1).2
          refine el_ald (f := f) hx hb hK hP ((eg_at o k) + 2) (by first | omega | (unfold eg_at; omega)) dL_defined_94 ?_
          refine en_eq (show f ((eg_at o k) + 2) = nI (eg_r (st.2 o) k) from eg_fr hI (i := o) (k := k) (by omega) (by omega) c_1) ?_
          refine lv_iconst (v := nI 2) hx hb dL_defined_95 (by decide) ?_
          refine en_irem hx hb ((eg_r (st.2 o) k) % 2) rfl (by omega) (by decide) (by decide) dL_defined_96 ?_
          refine en_icmp_le (tgt := 104) hx hb (by omega) (by omega) dL_defined_97 (by decide) (fun c_10 => ?_) (fun c_10 => ?_)
          ·
            refine lv_iconst (v := nI 0) hx hb dL_defined_104 (by decide) ?_
            refine lv_istore (lv' := [(6, .int (nI 0)), (5, .int (nI (eg_at o k))), (0, .ref qn), (1, .int (nI o)), (2, .int (nI k)), (3, .int v), (4, .int (nI r))]) hx hb dL_defined_105 hl (by decide) rfl (fun ls hl => ?_)
            refine lv_iload hx hb dL_defined_107 (lv_at hl 0 rfl) ?_
            refine en_if_ne (tgt := 133) hx hb (by omega) dL_defined_109 (by decide) (fun c_11 => by exfalso; omega) (fun c_11 => ?_)
            refine lv_aload_n hx hb dL_defined_112 rfl (lv_at hl 2 rfl) ?_
            refine lv_iload hx hb dL_defined_113 (lv_at hl 1 rfl) ?_
            refine lv_iconst (v := nI 2) hx hb dL_defined_115 (by decide) ?_
            refine en_iadd hx hb ((eg_at o k) + 2) rfl dL_defined_116 ?_
            have hr_12 := (eg_rE hI (i := o) (k := k) (by omega) (by omega) c_1).2
            refine el_ald (f := f) hx hb hK hP ((eg_at o k) + 2) (by first | omega | (unfold eg_at; omega)) dL_defined_117 ?_
            refine en_eq (show f ((eg_at o k) + 2) = nI (eg_r (st.2 o) k) from eg_fr hI (i := o) (k := k) (by omega) (by omega) c_1) ?_
            refine lv_iconst (v := nI 2) hx hb dL_defined_118 (by decide) ?_
            refine en_irem hx hb ((eg_r (st.2 o) k) % 2) rfl (by omega) (by decide) (by decide) dL_defined_119 ?_
            refine en_if_ne (tgt := 136) hx hb (by omega) dL_defined_120 (by decide) (fun c_13 => ?_) (fun c_13 => ?_)
            ·
              refine lv_aload_n hx hb dL_defined_136 rfl (lv_at hl 2 rfl) ?_
              refine lv_iload hx hb dL_defined_137 (lv_at hl 1 rfl) ?_
              refine lv_iconst (v := nI 1) hx hb dL_defined_139 (by decide) ?_
              refine en_iadd hx hb ((eg_at o k) + 1) rfl dL_defined_140 ?_
              refine lv_iload_n hx hb dL_defined_141 rfl (lv_at hl 5 rfl) ?_
              refine el_ast (f := f) (x := v) hx hb hK hP hqA hS ((eg_at o k) + 1) (by first | omega | (unfold eg_at; omega)) dL_defined_142 (fun H locs hP hS => ?_)
              refine lv_aload_n hx hb dL_defined_143 rfl (lv_at hl 2 rfl) ?_
              refine lv_iload hx hb dL_defined_144 (lv_at hl 1 rfl) ?_
              refine lv_iconst (v := nI 2) hx hb dL_defined_146 (by decide) ?_
              refine en_iadd hx hb ((eg_at o k) + 2) rfl dL_defined_147 ?_
              refine lv_iload hx hb dL_defined_148 (lv_at hl 6 rfl) ?_
              refine el_ast (f := (upd f ((eg_at o k) + 1) v)) (x := nI r) hx hb hK hP hqA hS ((eg_at o k) + 2) (by first | omega | (unfold eg_at; omega)) dL_defined_150 (fun H locs hP hS => ?_)
              refine lv_bipush (v := nI 121) hx hb dL_defined_151 (by decide) ?_
              rw [eg_pi_o hI ho hk hr7 c_1 (by omega), if_pos ⟨by omega, by omega, by omega, fun h9 => by first | (exfalso; omega) | assumption⟩]
              exact em_int hx hb hr hlocks rfl ⟨_, _, _, hP, eg_put_old hI ho hk c_1 hr7, by omega⟩ hS dL_defined_153
            ·
              refine lv_aload_n hx hb dL_defined_123 rfl (lv_at hl 2 rfl) ?_
              refine lv_iload hx hb dL_defined_124 (lv_at hl 1 rfl) ?_
              refine lv_iconst (v := nI 1) hx hb dL_defined_126 (by decide) ?_
              refine en_iadd hx hb ((eg_at o k) + 1) rfl dL_defined_127 ?_
              refine el_ald (f := f) hx hb hK hP ((eg_at o k) + 1) (by first | omega | (unfold eg_at; omega)) dL_defined_128 ?_
              refine en_eq (show f ((eg_at o k) + 1) = (ev_va (st.2 o) k) from eg_fv hI (i := o) (k := k) (by omega) (by omega) c_1) ?_
              refine lv_iload_n hx hb dL_defined_129 rfl (lv_at hl 5 rfl) ?_
              refine lv_icmp_eq (tgt := 136) hx hb dL_defined_130 (by decide) (fun c_14 => ?_) (fun c_14 => ?_)
              ·
                refine lv_aload_n hx hb dL_defined_136 rfl (lv_at hl 2 rfl) ?_
                refine lv_iload hx hb dL_defined_137 (lv_at hl 1 rfl) ?_
                refine lv_iconst (v := nI 1) hx hb dL_defined_139 (by decide) ?_
                refine en_iadd hx hb ((eg_at o k) + 1) rfl dL_defined_140 ?_
                refine lv_iload_n hx hb dL_defined_141 rfl (lv_at hl 5 rfl) ?_
                refine el_ast (f := f) (x := v) hx hb hK hP hqA hS ((eg_at o k) + 1) (by first | omega | (unfold eg_at; omega)) dL_defined_142 (fun H locs hP hS => ?_)
                refine lv_aload_n hx hb dL_defined_143 rfl (lv_at hl 2 rfl) ?_
                refine lv_iload hx hb dL_defined_144 (lv_at hl 1 rfl) ?_
                refine lv_iconst (v := nI 2) hx hb dL_defined_146 (by decide) ?_
                refine en_iadd hx hb ((eg_at o k) + 2) rfl dL_defined_147 ?_
                refine lv_iload hx hb dL_defined_148 (lv_at hl 6 rfl) ?_
                refine el_ast (f := (upd f ((eg_at o k) + 1) v)) (x := nI r) hx hb hK hP hqA hS ((eg_at o k) + 2) (by first | omega | (unfold eg_at; omega)) dL_defined_150 (fun H locs hP hS => ?_)
                refine lv_bipush (v := nI 121) hx hb dL_defined_151 (by decide) ?_
                rw [eg_pi_o hI ho hk hr7 c_1 (by omega), if_pos ⟨by omega, by omega, by omega, fun h9 => by first | (exfalso; omega) | assumption⟩]
                exact em_int hx hb hr hlocks rfl ⟨_, _, _, hP, eg_put_old hI ho hk c_1 hr7, by omega⟩ hS dL_defined_153
              ·
                refine lv_bipush (v := nI 110) hx hb dL_defined_133 (by decide) ?_
                rw [eg_pi_o hI ho hk hr7 c_1 (by omega), if_neg (fun h9 => by obtain ⟨a9, b9, c9, d9⟩ := h9; first | omega | exact absurd (d9 (by omega)) (by assumption))]
                exact em_int hx hb hr hlocks rfl ⟨_, _, _, hP, (by show eg_I tt cc (ev_up st o (st.2 o)) f od n; rw [ev_up_id]; exact hI), by omega⟩ hS dL_defined_135
          ·
            refine lv_iconst (v := nI 1) hx hb dL_defined_100 (by decide) ?_
            refine lv_goto (tgt := 105) hx hb dL_defined_101 (by decide) ?_
            refine lv_istore (lv' := [(6, .int (nI 1)), (5, .int (nI (eg_at o k))), (0, .ref qn), (1, .int (nI o)), (2, .int (nI k)), (3, .int v), (4, .int (nI r))]) hx hb dL_defined_105 hl (by decide) rfl (fun ls hl => ?_)
            refine lv_iload hx hb dL_defined_107 (lv_at hl 0 rfl) ?_
            refine en_if_ne (tgt := 133) hx hb (by omega) dL_defined_109 (by decide) (fun c_15 => ?_) (fun c_15 => by exfalso; omega)
            refine lv_bipush (v := nI 110) hx hb dL_defined_133 (by decide) ?_
            rw [eg_pi_o hI ho hk hr7 c_1 (by omega), if_neg (fun h9 => by obtain ⟨a9, b9, c9, d9⟩ := h9; first | omega | exact absurd (d9 (by omega)) (by assumption))]
            exact em_int hx hb hr hlocks rfl ⟨_, _, _, hP, (by show eg_I tt cc (ev_up st o (st.2 o)) f od n; rw [ev_up_id]; exact hI), by omega⟩ hS dL_defined_135
  ·
    refine lv_aload_n hx hb dL_defined_14 rfl (lv_at hl 1 rfl) ?_
    refine lv_iload_n hx hb dL_defined_15 rfl (lv_at hl 2 rfl) ?_
    refine el_ald (f := f) hx hb hK hP (o) (by first | omega | (unfold eg_at; omega)) dL_defined_16 ?_
    refine en_eq (show f (o) = ev_bi (ev_cs (st.2 o)) from eg_fcs hI (i := o) (by omega)) ?_
    refine lv_iconst (v := nI 1) hx hb dL_defined_17 (by decide) ?_
    refine eb_icmp_ne1 (tgt := 24) hx hb dL_defined_18 (by decide) (fun c_16 => ?_) (fun c_16 => ?_)
    ·
      refine lv_aload_n hx hb dL_defined_24 rfl (lv_at hl 1 rfl) ?_
      refine lv_bipush (v := nI 20) hx hb dL_defined_25 (by decide) ?_
      refine lv_dup2_11 hx hb dL_defined_27 rfl rfl ?_
      refine el_ald (f := f) hx hb hK hP (20) (by first | omega | (unfold eg_at; omega)) dL_defined_28 ?_
      refine en_eq (show f (20) = nI n from hI.2.2.2.2.2.2.1) ?_
      refine lv_iconst (v := nI 1) hx hb dL_defined_29 (by decide) ?_
      refine en_iadd hx hb (n + 1) rfl dL_defined_30 ?_
      refine el_ast (f := f) (x := nI (n + 1)) hx hb hK hP hqA hS (20) (by first | omega | (unfold eg_at; omega)) dL_defined_31 (fun H locs hP hS => ?_)
      refine lv_aload_n hx hb dL_defined_32 rfl (lv_at hl 1 rfl) ?_
      refine lv_iload hx hb dL_defined_33 (lv_at hl 0 rfl) ?_
      refine lv_iconst (v := nI 1) hx hb dL_defined_35 (by decide) ?_
      refine el_ast (f := (upd f 20 (nI (n + 1)))) (x := nI 1) hx hb hK hP hqA hS ((eg_at o k)) (by first | omega | (unfold eg_at; omega)) dL_defined_36 (fun H locs hP hS => ?_)
      refine lv_aload_n hx hb dL_defined_37 rfl (lv_at hl 1 rfl) ?_
      refine lv_iload hx hb dL_defined_38 (lv_at hl 0 rfl) ?_
      refine lv_iconst (v := nI 3) hx hb dL_defined_40 (by decide) ?_
      refine en_iadd hx hb ((eg_at o k) + 3) rfl dL_defined_41 ?_
      refine lv_aload_n hx hb dL_defined_42 rfl (lv_at hl 1 rfl) ?_
      refine lv_bipush (v := nI 20) hx hb dL_defined_43 (by decide) ?_
      refine el_ald (f := (upd (upd f 20 (nI (n + 1))) (eg_at o k) (nI 1))) hx hb hK hP (20) (by first | omega | (unfold eg_at; omega)) dL_defined_45 ?_
      refine en_eq (show (upd (upd f 20 (nI (n + 1))) (eg_at o k) (nI 1)) 20 = nI (n + 1) from by rw [eg_un _ _ (by unfold eg_at; omega), eg_us]) ?_
      refine el_ast (f := (upd (upd f 20 (nI (n + 1))) (eg_at o k) (nI 1))) (x := nI (n + 1)) hx hb hK hP hqA hS ((eg_at o k) + 3) (by first | omega | (unfold eg_at; omega)) dL_defined_46 (fun H locs hP hS => ?_)
      refine lv_goto (tgt := 136) hx hb dL_defined_47 (by decide) ?_
      refine lv_aload_n hx hb dL_defined_136 rfl (lv_at hl 1 rfl) ?_
      refine lv_iload hx hb dL_defined_137 (lv_at hl 0 rfl) ?_
      refine lv_iconst (v := nI 1) hx hb dL_defined_139 (by decide) ?_
      refine en_iadd hx hb ((eg_at o k) + 1) rfl dL_defined_140 ?_
      refine lv_iload_n hx hb dL_defined_141 rfl (lv_at hl 4 rfl) ?_
      refine el_ast (f := (upd (upd (upd f 20 (nI (n + 1))) (eg_at o k) (nI 1)) ((eg_at o k) + 3) (nI (n + 1)))) (x := v) hx hb hK hP hqA hS ((eg_at o k) + 1) (by first | omega | (unfold eg_at; omega)) dL_defined_142 (fun H locs hP hS => ?_)
      refine lv_aload_n hx hb dL_defined_143 rfl (lv_at hl 1 rfl) ?_
      refine lv_iload hx hb dL_defined_144 (lv_at hl 0 rfl) ?_
      refine lv_iconst (v := nI 2) hx hb dL_defined_146 (by decide) ?_
      refine en_iadd hx hb ((eg_at o k) + 2) rfl dL_defined_147 ?_
      refine lv_iload hx hb dL_defined_148 (lv_at hl 5 rfl) ?_
      refine el_ast (f := (upd (upd (upd (upd f 20 (nI (n + 1))) (eg_at o k) (nI 1)) ((eg_at o k) + 3) (nI (n + 1))) ((eg_at o k) + 1) v)) (x := nI r) hx hb hK hP hqA hS ((eg_at o k) + 2) (by first | omega | (unfold eg_at; omega)) dL_defined_150 (fun H locs hP hS => ?_)
      refine lv_bipush (v := nI 121) hx hb dL_defined_151 (by decide) ?_
      rw [eg_pi_y c_1 c_16]
      exact em_int hx hb hr hlocks rfl ⟨_, _, _, hP, eg_put_new hI ho hk c_1 hr7, by omega⟩ hS dL_defined_153
    ·
      refine lv_bipush (v := nI 110) hx hb dL_defined_21 (by decide) ?_
      rw [eg_pi_n c_1 c_16]
      exact em_int hx hb hr hlocks rfl ⟨_, _, _, hP, (by show eg_I tt cc (ev_up st o (st.2 o)) f od n; rw [ev_up_id]; exact hI), by omega⟩ hS dL_defined_23
set_option maxHeartbeats 4000000 in
set_option maxRecDepth 100000 in
theorem c_L_received (l : Launch) {D : va_G} {cI cO : ClassId} {qn : Nat} {tt : Nat → Nat} {cc : Nat → Option Nat} {st : ev_ST} {f : Nat → Int32} {od : Nat → Nat → Nat} {n : Nat} (hI : eg_I tt cc st f od n) {i k : Nat} {v : Int32} (hi : i < 5) (hk : k < 20) : Met l yL_received wsL_received ({ frames := 2, cells := 0, slots := 0, locals := 47 }) (ev_Pc D cI cO (ev_N D cI qn f) [.ref qn, .int (nI i), .int (nI k), .int v]) (ev_QM (some (.int (nI (ev_rc st k v i).1))) (el_H D cI qn tt cc ((ev_rc st k v i).2) n) (el_A qn)) 0 0 (el_A qn) := by
  refine ev_body (cc := cL_received) (maxL := 5) (ret := (some .int)) (by decide) rfl (Nat.le_of_ble_eq_true rfl) ?_
  intro p e s m args below meth c hx hb hr hml hown hts hlocks hnm hP hK ls hl
  have hS : va_S (el_A qn) s.heap s.heap [] := va_S.rf
  have hqA : el_A qn qn := rfl
  have hl : lv_has ls 5 [(0, .ref qn), (1, .int (nI i)), (2, .int (nI k)), (3, .int v)] := hl
  refine lv_iload_n hx hb dL_received_0 rfl (lv_at hl 1 rfl) ?_
  refine lv_iload_n hx hb dL_received_1 rfl (lv_at hl 2 rfl) ?_
  refine ev_cst (As := [.int (nI i), .int (nI k)]) (rest := []) ⟨hx, hb, hml, hown, hts⟩ (c_L_at l (i := i) (k := k)) (va_cwS 2 hts gL_received_L_at rfl rfl rfl (by decide +kernel) ⟨Nat.le_of_ble_eq_true rfl, Nat.le_of_ble_eq_true rfl⟩) hP hK rfl hl.1 (Nat.le_of_ble_eq_true rfl) dL_received_2 ⟨Nat.le_of_ble_eq_true rfl, Nat.le_of_ble_eq_true rfl⟩ ?_
  refine lv_istore (lv' := [(4, .int (nI (eg_at i k))), (0, .ref qn), (1, .int (nI i)), (2, .int (nI k)), (3, .int v)]) hx hb dL_received_5 hl (by decide) rfl (fun ls hl => ?_)
  refine lv_aload_n hx hb dL_received_7 rfl (lv_at hl 1 rfl) ?_
  refine lv_iload hx hb dL_received_8 (lv_at hl 0 rfl) ?_
  refine el_ald (f := f) hx hb hK hP ((eg_at i k)) (by first | omega | (unfold eg_at; omega)) dL_received_10 ?_
  refine en_eq (show f ((eg_at i k)) = ev_bi (ev_holds (st.2 i) k) from eg_fh hI (i := i) (k := k) (by omega) (by omega)) ?_
  refine lv_iconst (v := nI 1) hx hb dL_received_11 (by decide) ?_
  refine eb_icmp_ne1 (tgt := 29) hx hb dL_received_12 (by decide) (fun c_1 => ?_) (fun c_1 => ?_)
  ·
    refine lv_aload_n hx hb dL_received_29 rfl (lv_at hl 1 rfl) ?_
    refine lv_iload_n hx hb dL_received_30 rfl (lv_at hl 2 rfl) ?_
    refine lv_iload_n hx hb dL_received_31 rfl (lv_at hl 3 rfl) ?_
    refine lv_iload_n hx hb dL_received_32 rfl (lv_at hl 4 rfl) ?_
    refine lv_aload_n hx hb dL_received_33 rfl (lv_at hl 1 rfl) ?_
    refine lv_iload hx hb dL_received_34 (lv_at hl 0 rfl) ?_
    refine el_ald (f := f) hx hb hK hP ((eg_at i k)) (by first | omega | (unfold eg_at; omega)) dL_received_36 ?_
    refine en_eq (show f ((eg_at i k)) = ev_bi (ev_holds (st.2 i) k) from eg_fh hI (i := i) (k := k) (by omega) (by omega)) ?_
    refine lv_iconst (v := nI 1) hx hb dL_received_37 (by decide) ?_
    refine eb_icmp_ne1 (tgt := 50) hx hb dL_received_38 (by decide) (fun c_2 => ?_) (fun c_2 => by rw [c_1] at c_2; cases c_2)
    refine lv_bipush (v := nI 7) hx hb dL_received_50 (by decide) ?_
    refine el_ms (As := [.ref qn, .int (nI i), .int (nI k), .int v, .int (nI 7)]) (rest := []) ⟨hx, hb, hml, hown, hts⟩ (c_L_defined l hI (o := i) (k := k) (r := 7) (v := v) (by omega) (by omega) (by omega)) (va_cwS 5 hts gL_received_L_defined rfl rfl rfl (by decide +kernel) ⟨Nat.le_of_ble_eq_true rfl, Nat.le_of_ble_eq_true rfl⟩) hP hK hS (fun _ h => h) rfl hl.1 (Nat.le_of_ble_eq_true rfl) dL_received_52 ⟨Nat.le_of_ble_eq_true rfl, Nat.le_of_ble_eq_true rfl⟩ (fun H locs hP hz hkp hS => ?_)
    have hrc : ev_rc st k v i = ((ev_pi (st.2 i) k v (nI 7)).1, ev_up st i (ev_pi (st.2 i) k v (nI 7)).2) := by rw [eg_rc_plain hI hi, if_neg (by rw [c_1]; exact Bool.false_ne_true)]
    rw [hrc]
    exact em_int hx hb hr hlocks rfl hP hS dL_received_55
  ·
    refine lv_aload_n hx hb dL_received_15 rfl (lv_at hl 1 rfl) ?_
    refine lv_iload hx hb dL_received_16 (lv_at hl 0 rfl) ?_
    refine lv_iconst (v := nI 2) hx hb dL_received_18 (by decide) ?_
    refine en_iadd hx hb ((eg_at i k) + 2) rfl dL_received_19 ?_
    have hr_3 := (eg_rE hI (i := i) (k := k) (by omega) (by omega) c_1).2
    refine el_ald (f := f) hx hb hK hP ((eg_at i k) + 2) (by first | omega | (unfold eg_at; omega)) dL_received_20 ?_
    refine en_eq (show f ((eg_at i k) + 2) = nI (eg_r (st.2 i) k) from eg_fr hI (i := i) (k := k) (by omega) (by omega) c_1) ?_
    refine lv_iconst (v := nI 2) hx hb dL_received_21 (by decide) ?_
    refine en_irem hx hb ((eg_r (st.2 i) k) % 2) rfl (by omega) (by decide) (by decide) dL_received_22 ?_
    refine en_if_ne (tgt := 29) hx hb (by omega) dL_received_23 (by decide) (fun c_4 => ?_) (fun c_4 => ?_)
    ·
      refine lv_aload_n hx hb dL_received_29 rfl (lv_at hl 1 rfl) ?_
      refine lv_iload_n hx hb dL_received_30 rfl (lv_at hl 2 rfl) ?_
      refine lv_iload_n hx hb dL_received_31 rfl (lv_at hl 3 rfl) ?_
      refine lv_iload_n hx hb dL_received_32 rfl (lv_at hl 4 rfl) ?_
      refine lv_aload_n hx hb dL_received_33 rfl (lv_at hl 1 rfl) ?_
      refine lv_iload hx hb dL_received_34 (lv_at hl 0 rfl) ?_
      refine el_ald (f := f) hx hb hK hP ((eg_at i k)) (by first | omega | (unfold eg_at; omega)) dL_received_36 ?_
      refine en_eq (show f ((eg_at i k)) = ev_bi (ev_holds (st.2 i) k) from eg_fh hI (i := i) (k := k) (by omega) (by omega)) ?_
      refine lv_iconst (v := nI 1) hx hb dL_received_37 (by decide) ?_
      refine eb_icmp_ne1 (tgt := 50) hx hb dL_received_38 (by decide) (fun c_5 => by rw [c_1] at c_5; cases c_5) (fun c_5 => ?_)
      refine lv_aload_n hx hb dL_received_41 rfl (lv_at hl 1 rfl) ?_
      refine lv_iload hx hb dL_received_42 (lv_at hl 0 rfl) ?_
      refine lv_iconst (v := nI 2) hx hb dL_received_44 (by decide) ?_
      refine en_iadd hx hb ((eg_at i k) + 2) rfl dL_received_45 ?_
      have hr_6 := (eg_rE hI (i := i) (k := k) (by omega) (by omega) c_1).2
      refine el_ald (f := f) hx hb hK hP ((eg_at i k) + 2) (by first | omega | (unfold eg_at; omega)) dL_received_46 ?_
      refine en_eq (show f ((eg_at i k) + 2) = nI (eg_r (st.2 i) k) from eg_fr hI (i := i) (k := k) (by omega) (by omega) c_1) ?_
      refine lv_goto (tgt := 52) hx hb dL_received_47 (by decide) ?_
      refine el_ms (As := [.ref qn, .int (nI i), .int (nI k), .int v, .int (nI (eg_r (st.2 i) k))]) (rest := []) ⟨hx, hb, hml, hown, hts⟩ (c_L_defined l hI (o := i) (k := k) (r := (eg_r (st.2 i) k)) (v := v) (by omega) (by omega) (by omega)) (va_cwS 5 hts gL_received_L_defined rfl rfl rfl (by decide +kernel) ⟨Nat.le_of_ble_eq_true rfl, Nat.le_of_ble_eq_true rfl⟩) hP hK hS (fun _ h => h) rfl hl.1 (Nat.le_of_ble_eq_true rfl) dL_received_52 ⟨Nat.le_of_ble_eq_true rfl, Nat.le_of_ble_eq_true rfl⟩ (fun H locs hP hz hkp hS => ?_)
      have hrc : ev_rc st k v i = ((ev_pi (st.2 i) k v (nI (eg_r (st.2 i) k))).1, ev_up st i (ev_pi (st.2 i) k v (nI (eg_r (st.2 i) k))).2) := by rw [eg_rc_plain hI hi, if_pos c_1, if_pos (by rw [eg_can1 hI hi hk c_1, decide_eq_true (by omega)]), (eg_rE hI hi hk c_1).1]
      rw [hrc]
      exact em_int hx hb hr hlocks rfl hP hS dL_received_55
    ·
      refine lv_bipush (v := nI 110) hx hb dL_received_26 (by decide) ?_
      have hrc : ev_rc st k v i = (110, st) := by rw [eg_rc_plain hI hi, if_pos c_1, if_neg (by rw [eg_can1 hI hi hk c_1, decide_eq_false (by omega)]; exact Bool.false_ne_true)]
      rw [hrc]
      exact em_int hx hb hr hlocks rfl ⟨_, _, _, hP, hI, by omega⟩ hS dL_received_28
set_option maxHeartbeats 4000000 in
set_option maxRecDepth 100000 in
theorem c_L_wasSet_0 (l : Launch) {D : va_G} {cI cO : ClassId} {qn : Nat} {tt : Nat → Nat} {cc : Nat → Option Nat} {st : ev_ST} {f : Nat → Int32} {od : Nat → Nat → Nat} {n : Nat} (hI : eg_I tt cc st f od n) {o k : Nat} (ho : o < 5) (hk : k < 20) {w : Nat} {v : Int32} (hw : w < 5) : Met l yL_wasSet wsL_wasSet ({ frames := 3, cells := 0, slots := 0, locals := 71 }) (ev_Pc D cI cO (ev_N D cI qn f) [.ref qn, .int (nI o), .int (nI k), .int v, .int (nI w)]) (ev_QM (some (.int (nI (ev_sf st k v w 30 (some o)).1))) (el_H D cI qn tt cc ((ev_sf st k v w 30 (some o)).2) n) (el_A qn)) 0 0 (el_A qn) := by
  refine ev_body (cc := cL_wasSet) (maxL := 7) (ret := (some .int)) (by decide) rfl (Nat.le_of_ble_eq_true rfl) ?_
  intro p e s m args below meth c hx hb hr hml hown hts hlocks hnm hP hK ls hl
  have hS : va_S (el_A qn) s.heap s.heap [] := va_S.rf
  have hqA : el_A qn qn := rfl
  have hl : lv_has ls 7 [(0, .ref qn), (1, .int (nI o)), (2, .int (nI k)), (3, .int v), (4, .int (nI w))] := hl
  refine lv_iload_n hx hb dL_wasSet_0 rfl (lv_at hl 1 rfl) ?_
  refine lv_iconst (v := nI 4) hx hb dL_wasSet_1 (by decide) ?_
  refine en_icmp_le (tgt := 116) hx hb (by omega) (by omega) dL_wasSet_2 (by decide) (fun c_1 => ?_) (fun c_1 => by exfalso; omega)
  refine lv_aload_n hx hb dL_wasSet_116 rfl (lv_at hl 0 rfl) ?_
  refine lv_iload_n hx hb dL_wasSet_117 rfl (lv_at hl 1 rfl) ?_
  refine lv_iload_n hx hb dL_wasSet_118 rfl (lv_at hl 2 rfl) ?_
  refine ev_cst (As := [.ref qn, .int (nI o), .int (nI k)]) (rest := []) ⟨hx, hb, hml, hown, hts⟩ (c_L_found l hI (o := o) (k := k) (by omega) (by omega)) (va_cwS 3 hts gL_wasSet_L_found rfl rfl rfl (by decide +kernel) ⟨Nat.le_of_ble_eq_true rfl, Nat.le_of_ble_eq_true rfl⟩) hP hK rfl hl.1 (Nat.le_of_ble_eq_true rfl) dL_wasSet_119 ⟨Nat.le_of_ble_eq_true rfl, Nat.le_of_ble_eq_true rfl⟩ ?_
  cases hfd : eg_fd st k 5 (some o) with
  | none =>
    refine en_eq (show eg_on none = -1 from rfl) ?_
    refine lv_istore (lv' := [(5, .int (-1)), (0, .ref qn), (1, .int (nI o)), (2, .int (nI k)), (3, .int v), (4, .int (nI w))]) hx hb dL_wasSet_122 hl (by decide) rfl (fun ls hl => ?_)
    refine lv_iload hx hb dL_wasSet_124 (lv_at hl 0 rfl) ?_
    refine lv_if_lt (tgt := 149) hx hb dL_wasSet_126 (by decide) (fun _ => ?_) (fun h => absurd h (by decide))
    refine lv_aload_n hx hb dL_wasSet_149 rfl (lv_at hl 1 rfl) ?_
    refine lv_iload hx hb dL_wasSet_150 (lv_at hl 5 rfl) ?_
    refine lv_iload_n hx hb dL_wasSet_152 rfl (lv_at hl 3 rfl) ?_
    refine lv_iload_n hx hb dL_wasSet_153 rfl (lv_at hl 4 rfl) ?_
    refine el_ms (As := [.ref qn, .int (nI w), .int (nI k), .int v]) (rest := []) ⟨hx, hb, hml, hown, hts⟩ (c_L_received l hI (i := w) (k := k) (v := v) (by omega) (by omega)) (va_cwS 4 hts gL_wasSet_L_received rfl rfl rfl (by decide +kernel) ⟨Nat.le_of_ble_eq_true rfl, Nat.le_of_ble_eq_true rfl⟩) hP hK hS (fun _ h => h) rfl hl.1 (Nat.le_of_ble_eq_true rfl) dL_wasSet_154 ⟨Nat.le_of_ble_eq_true rfl, Nat.le_of_ble_eq_true rfl⟩ (fun H locs hP hz hkp hS => ?_)
    have hso : ev_sf st k v w 30 (some o) = ev_rc st k v w := by rw [eg_so_plain hI ho, hfd] <;> rfl
    rw [hso]
    exact em_int hx hb hr hlocks rfl hP hS dL_wasSet_157
  | some y =>
    obtain ⟨hy, hhy⟩ := eg_fd_some hI 5 (some o) (fun z hz => by cases hz; omega) y hfd
    refine en_eq (show eg_on (some y) = nI y from rfl) ?_
    refine lv_istore (lv' := [(5, .int (nI y)), (0, .ref qn), (1, .int (nI o)), (2, .int (nI k)), (3, .int v), (4, .int (nI w))]) hx hb dL_wasSet_122 hl (by decide) rfl (fun ls hl => ?_)
    refine lv_iload hx hb dL_wasSet_124 (lv_at hl 0 rfl) ?_
    refine en_if_lt (tgt := 149) hx hb (by omega) dL_wasSet_126 (by decide) ?_
    refine lv_aload_n hx hb dL_wasSet_129 rfl (lv_at hl 1 rfl) ?_
    refine lv_iload hx hb dL_wasSet_130 (lv_at hl 0 rfl) ?_
    refine lv_iload_n hx hb dL_wasSet_132 rfl (lv_at hl 3 rfl) ?_
    refine ev_cst (As := [.int (nI y), .int (nI k)]) (rest := [.ref qn]) ⟨hx, hb, hml, hown, hts⟩ (c_L_at l (i := y) (k := k)) (va_cwS 2 hts gL_wasSet_L_at rfl rfl rfl (by decide +kernel) ⟨Nat.le_of_ble_eq_true rfl, Nat.le_of_ble_eq_true rfl⟩) hP hK rfl hl.1 (Nat.le_of_ble_eq_true rfl) dL_wasSet_133 ⟨Nat.le_of_ble_eq_true rfl, Nat.le_of_ble_eq_true rfl⟩ ?_
    refine lv_iconst (v := nI 2) hx hb dL_wasSet_136 (by decide) ?_
    refine en_iadd hx hb ((eg_at y k) + 2) rfl dL_wasSet_137 ?_
    have hr_4 := (eg_rE hI (i := y) (k := k) (by omega) (by omega) hhy).2
    refine el_ald (f := f) hx hb hK hP ((eg_at y k) + 2) (by first | omega | (unfold eg_at; omega)) dL_wasSet_138 ?_
    refine en_eq (show f ((eg_at y k) + 2) = nI (eg_r (st.2 y) k) from eg_fr hI (i := y) (k := k) (by omega) (by omega) hhy) ?_
    refine lv_iconst (v := nI 2) hx hb dL_wasSet_139 (by decide) ?_
    refine en_irem hx hb ((eg_r (st.2 y) k) % 2) rfl (by omega) (by decide) (by decide) dL_wasSet_140 ?_
    refine en_if_ne (tgt := 149) hx hb (by omega) dL_wasSet_141 (by decide) (fun c_5 => ?_) (fun c_5 => ?_)
    ·
      refine lv_aload_n hx hb dL_wasSet_149 rfl (lv_at hl 1 rfl) ?_
      refine lv_iload hx hb dL_wasSet_150 (lv_at hl 5 rfl) ?_
      refine lv_iload_n hx hb dL_wasSet_152 rfl (lv_at hl 3 rfl) ?_
      refine lv_iload_n hx hb dL_wasSet_153 rfl (lv_at hl 4 rfl) ?_
      refine el_ms (As := [.ref qn, .int (nI w), .int (nI k), .int v]) (rest := []) ⟨hx, hb, hml, hown, hts⟩ (c_L_received l hI (i := w) (k := k) (v := v) (by omega) (by omega)) (va_cwS 4 hts gL_wasSet_L_received rfl rfl rfl (by decide +kernel) ⟨Nat.le_of_ble_eq_true rfl, Nat.le_of_ble_eq_true rfl⟩) hP hK hS (fun _ h => h) rfl hl.1 (Nat.le_of_ble_eq_true rfl) dL_wasSet_154 ⟨Nat.le_of_ble_eq_true rfl, Nat.le_of_ble_eq_true rfl⟩ (fun H locs hP hz hkp hS => ?_)
      have hso : ev_sf st k v w 30 (some o) = ev_rc st k v w := by rw [eg_so_plain hI ho, hfd]; show (if ev_can (st.2 y) 1 k = true then ev_rc st k v w else (110, st)) = _; rw [eg_can1 hI hy hk hhy, decide_eq_true (by omega)] <;> rfl
      rw [hso]
      exact em_int hx hb hr hlocks rfl hP hS dL_wasSet_157
    ·
      refine lv_bipush (v := nI 110) hx hb dL_wasSet_144 (by decide) ?_
      refine lv_goto (tgt := 157) hx hb dL_wasSet_146 (by decide) ?_
      have hso : ev_sf st k v w 30 (some o) = (110, st) := by rw [eg_so_plain hI ho, hfd]; show (if ev_can (st.2 y) 1 k = true then ev_rc st k v w else (110, st)) = _; rw [eg_can1 hI hy hk hhy, decide_eq_false (by omega)] <;> rfl
      rw [hso]
      exact em_int hx hb hr hlocks rfl ⟨_, _, _, hP, hI, by omega⟩ hS dL_wasSet_157
set_option maxHeartbeats 4000000 in
set_option maxRecDepth 100000 in
theorem c_L_wasSet_1 (l : Launch) {D : va_G} {cI cO : ClassId} {qn : Nat} {tt : Nat → Nat} {cc : Nat → Option Nat} {st : ev_ST} {f : Nat → Int32} {od : Nat → Nat → Nat} {n : Nat} (hI : eg_I tt cc st f od n) {o k : Nat} (ho5 : 5 ≤ o) (ho : o < 7) (htt : tt o < 5) (hk : k < 20) {w : Nat} {v : Int32} (hw : w < 5) : Met l yL_wasSet wsL_wasSet ({ frames := 4, cells := 0, slots := 0, locals := 97 }) (ev_Pc D cI cO (ev_N D cI qn f) [.ref qn, .int (nI o), .int (nI k), .int v, .int (nI w)]) (ev_QM (some (.int (nI (ev_sf st k v w 30 (some o)).1))) (el_H D cI qn tt cc ((ev_sf st k v w 30 (some o)).2) n) (el_A qn)) 0 0 (el_A qn) := by
  refine ev_body (cc := cL_wasSet) (maxL := 7) (ret := (some .int)) (by decide) rfl (Nat.le_of_ble_eq_true rfl) ?_
  intro p e s m args below meth c hx hb hr hml hown hts hlocks hnm hP hK ls hl
  have hS : va_S (el_A qn) s.heap s.heap [] := va_S.rf
  have hqA : el_A qn qn := rfl
  have hl : lv_has ls 7 [(0, .ref qn), (1, .int (nI o)), (2, .int (nI k)), (3, .int v), (4, .int (nI w))] := hl
  refine lv_iload_n hx hb dL_wasSet_0 rfl (lv_at hl 1 rfl) ?_
  refine lv_iconst (v := nI 4) hx hb dL_wasSet_1 (by decide) ?_
  refine en_icmp_le (tgt := 116) hx hb (by omega) (by omega) dL_wasSet_2 (by decide) (fun c_1 => by exfalso; omega) (fun c_1 => ?_)
  refine lv_aload_n hx hb dL_wasSet_5 rfl (lv_at hl 0 rfl) ?_
  refine lv_iload_n hx hb dL_wasSet_6 rfl (lv_at hl 1 rfl) ?_
  have hp_2 : eg_pl tt o < 5 := eg_pl_lt hI (by omega)
  refine ev_cst (As := [.ref qn, .int (nI o)]) (rest := []) ⟨hx, hb, hml, hown, hts⟩ (c_L_plain l hI (o := o) (by omega)) (va_cwS 2 hts gL_wasSet_L_plain rfl rfl rfl (by decide +kernel) ⟨Nat.le_of_ble_eq_true rfl, Nat.le_of_ble_eq_true rfl⟩) hP hK rfl hl.1 (Nat.le_of_ble_eq_true rfl) dL_wasSet_7 ⟨Nat.le_of_ble_eq_true rfl, Nat.le_of_ble_eq_true rfl⟩ ?_
  refine lv_iload_n hx hb dL_wasSet_10 rfl (lv_at hl 2 rfl) ?_
  refine ev_cst (As := [.int (nI (eg_pl tt o)), .int (nI k)]) (rest := []) ⟨hx, hb, hml, hown, hts⟩ (c_L_at l (i := (eg_pl tt o)) (k := k)) (va_cwS 2 hts gL_wasSet_L_at rfl rfl rfl (by decide +kernel) ⟨Nat.le_of_ble_eq_true rfl, Nat.le_of_ble_eq_true rfl⟩) hP hK rfl hl.1 (Nat.le_of_ble_eq_true rfl) dL_wasSet_11 ⟨Nat.le_of_ble_eq_true rfl, Nat.le_of_ble_eq_true rfl⟩ ?_
  refine lv_istore (lv' := [(5, .int (nI (eg_at (eg_pl tt o) k))), (0, .ref qn), (1, .int (nI o)), (2, .int (nI k)), (3, .int v), (4, .int (nI w))]) hx hb dL_wasSet_14 hl (by decide) rfl (fun ls hl => ?_)
  refine lv_aload_n hx hb dL_wasSet_16 rfl (lv_at hl 1 rfl) ?_
  refine lv_bipush (v := nI 60) hx hb dL_wasSet_17 (by decide) ?_
  refine lv_iconst (v := nI 4) hx hb dL_wasSet_19 (by decide) ?_
  refine lv_iload_n hx hb dL_wasSet_20 rfl (lv_at hl 2 rfl) ?_
  refine lv_iconst (v := nI 5) hx hb dL_wasSet_21 (by decide) ?_
  refine en_isub hx hb (o - 5) (by omega) dL_wasSet_22 ?_
  refine en_imul hx hb (4 * (o - 5)) rfl dL_wasSet_23 ?_
  refine en_iadd hx hb (60 + (4 * (o - 5))) rfl dL_wasSet_24 ?_
  refine lv_iconst (v := nI 2) hx hb dL_wasSet_25 (by decide) ?_
  refine en_iadd hx hb (60 + (4 * (o - 5)) + 2) rfl dL_wasSet_26 ?_
  refine el_ald (f := f) hx hb hK hP (60 + (4 * (o - 5)) + 2) (by first | omega | (unfold eg_at; omega)) dL_wasSet_27 ?_
  refine en_eq (show f (60 + (4 * (o - 5)) + 2) = ev_bi (ev_told (st.2 o) 2) from eg_f60 hI (w := 2) (by omega) (by omega) (by decide)) ?_
  refine lv_iconst (v := nI 1) hx hb dL_wasSet_28 (by decide) ?_
  refine eb_icmp_ne1 (tgt := 101) hx hb dL_wasSet_29 (by decide) (fun c_3 => ?_) (fun c_3 => ?_)
  ·
    refine lv_aload_n hx hb dL_wasSet_101 rfl (lv_at hl 1 rfl) ?_
    refine lv_aload_n hx hb dL_wasSet_102 rfl (lv_at hl 1 rfl) ?_
    refine lv_bipush (v := nI 30) hx hb dL_wasSet_103 (by decide) ?_
    refine lv_iload_n hx hb dL_wasSet_105 rfl (lv_at hl 2 rfl) ?_
    refine en_iadd hx hb (30 + o) rfl dL_wasSet_106 ?_
    have ht_4 := eg_ttlt hI (p := o) (by omega) (by omega)
    refine el_ald (f := f) hx hb hK hP (30 + o) (by first | omega | (unfold eg_at; omega)) dL_wasSet_107 ?_
    refine en_eq (show f (30 + o) = nI (tt o) from eg_f30 hI (p := o) (by omega) (by omega)) ?_
    refine lv_iload_n hx hb dL_wasSet_108 rfl (lv_at hl 3 rfl) ?_
    refine lv_iload_n hx hb dL_wasSet_109 rfl (lv_at hl 4 rfl) ?_
    refine lv_iload hx hb dL_wasSet_110 (lv_at hl 5 rfl) ?_
    refine el_ms (As := [.ref qn, .int (nI (tt o)), .int (nI k), .int v, .int (nI w)]) (rest := []) ⟨hx, hb, hml, hown, hts⟩ (c_L_wasSet_0 l hI (o := (tt o)) (k := k) (w := w) (v := v) (by omega) hk hw) (va_cwS 5 hts gL_wasSet_L_wasSet rfl rfl rfl (by decide +kernel) ⟨Nat.le_of_ble_eq_true rfl, Nat.le_of_ble_eq_true rfl⟩) hP hK hS (fun _ h => h) rfl hl.1 (Nat.le_of_ble_eq_true rfl) dL_wasSet_112 ⟨Nat.le_of_ble_eq_true rfl, Nat.le_of_ble_eq_true rfl⟩ (fun H locs hP hz hkp hS => ?_)
    have hso : ev_sf st k v w 30 (some o) = ev_sf st k v w 30 (some (tt o)) := by rw [eg_so_pass hI (by omega) (by omega) c_3]
    rw [hso]
    exact em_int hx hb hr hlocks rfl hP hS dL_wasSet_115
  ·
    refine lv_aload_n hx hb dL_wasSet_32 rfl (lv_at hl 1 rfl) ?_
    refine lv_iload hx hb dL_wasSet_33 (lv_at hl 0 rfl) ?_
    refine el_ald (f := f) hx hb hK hP ((eg_at (eg_pl tt o) k)) (by first | omega | (unfold eg_at; omega)) dL_wasSet_35 ?_
    refine en_eq (show f ((eg_at (eg_pl tt o) k)) = ev_bi (ev_holds (st.2 (eg_pl tt o)) k) from eg_fh hI (i := (eg_pl tt o)) (k := k) (by omega) (by omega)) ?_
    refine lv_iconst (v := nI 1) hx hb dL_wasSet_36 (by decide) ?_
    refine eb_icmp_ne1 (tgt := 65) hx hb dL_wasSet_37 (by decide) (fun c_5 => ?_) (fun c_5 => ?_)
    ·
      refine lv_iconst (v := nI 0) hx hb dL_wasSet_65 (by decide) ?_
      refine lv_istore (lv' := [(6, .int (nI 0)), (5, .int (nI (eg_at (eg_pl tt o) k))), (0, .ref qn), (1, .int (nI o)), (2, .int (nI k)), (3, .int v), (4, .int (nI w))]) hx hb dL_wasSet_66 hl (by decide) rfl (fun ls hl => ?_)
      refine lv_aload_n hx hb dL_wasSet_68 rfl (lv_at hl 2 rfl) ?_
      refine lv_bipush (v := nI 40) hx hb dL_wasSet_69 (by decide) ?_
      refine lv_iconst (v := nI 4) hx hb dL_wasSet_71 (by decide) ?_
      refine lv_iload_n hx hb dL_wasSet_72 rfl (lv_at hl 3 rfl) ?_
      refine lv_iconst (v := nI 5) hx hb dL_wasSet_73 (by decide) ?_
      refine en_isub hx hb (o - 5) (by omega) dL_wasSet_74 ?_
      refine en_imul hx hb (4 * (o - 5)) rfl dL_wasSet_75 ?_
      refine en_iadd hx hb (40 + (4 * (o - 5))) rfl dL_wasSet_76 ?_
      refine lv_iconst (v := nI 2) hx hb dL_wasSet_77 (by decide) ?_
      refine en_iadd hx hb (40 + (4 * (o - 5)) + 2) rfl dL_wasSet_78 ?_
      have ha_6 := eg_aE hI (p := o) (w := 2) (by omega) (by omega) (by decide) c_3
      have ha_6b := ha_6.2.2 (by decide)
      refine el_ald (f := f) hx hb hK hP (40 + (4 * (o - 5)) + 2) (by first | omega | (unfold eg_at; omega)) dL_wasSet_79 ?_
      refine en_eq (show f (40 + (4 * (o - 5)) + 2) = nI (eg_a (st.2 o) 2) from (eg_f40 hI (w := 2) (by omega) (by omega) (by decide) c_3).trans ha_6.1) ?_
      refine en_if_ne (tgt := 88) hx hb (by omega) dL_wasSet_80 (by decide) (fun c_7 => ?_) (fun c_7 => ?_)
      ·
        refine lv_iload hx hb dL_wasSet_88 (lv_at hl 0 rfl) ?_
        refine en_if_eq (tgt := 98) hx hb (by omega) dL_wasSet_90 (by decide) (fun c_8 => ?_) (fun c_8 => by exfalso; omega)
        refine lv_bipush (v := nI 121) hx hb dL_wasSet_98 (by decide) ?_
        have hso : ev_sf st k v w 30 (some o) = (121, st) := by rw [eg_sf_told hI (by omega) (by omega) c_3 29]; simp only [eg_a1 hI (p := o) (w := 2) (by omega) (by omega) (by decide) c_3]; rw [if_pos (by omega), eg_kO hI (i := eg_pl tt o) (by omega) hk]; simp [c_3, c_5]
        rw [hso]
        exact em_int hx hb hr hlocks rfl ⟨_, _, _, hP, hI, by omega⟩ hS dL_wasSet_100
      ·
        refine lv_bipush (v := nI 110) hx hb dL_wasSet_83 (by decide) ?_
        refine lv_goto (tgt := 100) hx hb dL_wasSet_85 (by decide) ?_
        have hso : ev_sf st k v w 30 (some o) = (110, st) := by rw [eg_sf_told hI (by omega) (by omega) c_3 29]; simp only [eg_a1 hI (p := o) (w := 2) (by omega) (by omega) (by decide) c_3]; rw [if_neg (by omega)]
        rw [hso]
        exact em_int hx hb hr hlocks rfl ⟨_, _, _, hP, hI, by omega⟩ hS dL_wasSet_100
    ·
      refine lv_aload_n hx hb dL_wasSet_40 rfl (lv_at hl 1 rfl) ?_
      refine lv_iload hx hb dL_wasSet_41 (lv_at hl 0 rfl) ?_
      refine lv_iconst (v := nI 2) hx hb dL_wasSet_43 (by decide) ?_
      refine en_iadd hx hb ((eg_at (eg_pl tt o) k) + 2) rfl dL_wasSet_44 ?_
      have hr_9 := (eg_rE hI (i := (eg_pl tt o)) (k := k) (by omega) (by omega) c_5).2
      refine el_ald (f := f) hx hb hK hP ((eg_at (eg_pl tt o) k) + 2) (by first | omega | (unfold eg_at; omega)) dL_wasSet_45 ?_
      refine en_eq (show f ((eg_at (eg_pl tt o) k) + 2) = nI (eg_r (st.2 (eg_pl tt o)) k) from eg_fr hI (i := (eg_pl tt o)) (k := k) (by omega) (by omega) c_5) ?_
      refine lv_iconst (v := nI 5) hx hb dL_wasSet_46 (by decide) ?_
      refine lv_iand hx hb dL_wasSet_47 ?_
      refine lv_if_ne (tgt := 65) hx hb dL_wasSet_48 (by decide) (fun c_10 => ?_) (fun c_10 => ?_)
      ·
        refine lv_iconst (v := nI 0) hx hb dL_wasSet_65 (by decide) ?_
        refine lv_istore (lv' := [(6, .int (nI 0)), (5, .int (nI (eg_at (eg_pl tt o) k))), (0, .ref qn), (1, .int (nI o)), (2, .int (nI k)), (3, .int v), (4, .int (nI w))]) hx hb dL_wasSet_66 hl (by decide) rfl (fun ls hl => ?_)
        refine lv_aload_n hx hb dL_wasSet_68 rfl (lv_at hl 2 rfl) ?_
        refine lv_bipush (v := nI 40) hx hb dL_wasSet_69 (by decide) ?_
        refine lv_iconst (v := nI 4) hx hb dL_wasSet_71 (by decide) ?_
        refine lv_iload_n hx hb dL_wasSet_72 rfl (lv_at hl 3 rfl) ?_
        refine lv_iconst (v := nI 5) hx hb dL_wasSet_73 (by decide) ?_
        refine en_isub hx hb (o - 5) (by omega) dL_wasSet_74 ?_
        refine en_imul hx hb (4 * (o - 5)) rfl dL_wasSet_75 ?_
        refine en_iadd hx hb (40 + (4 * (o - 5))) rfl dL_wasSet_76 ?_
        refine lv_iconst (v := nI 2) hx hb dL_wasSet_77 (by decide) ?_
        refine en_iadd hx hb (40 + (4 * (o - 5)) + 2) rfl dL_wasSet_78 ?_
        have ha_11 := eg_aE hI (p := o) (w := 2) (by omega) (by omega) (by decide) c_3
        have ha_11b := ha_11.2.2 (by decide)
        refine el_ald (f := f) hx hb hK hP (40 + (4 * (o - 5)) + 2) (by first | omega | (unfold eg_at; omega)) dL_wasSet_79 ?_
        refine en_eq (show f (40 + (4 * (o - 5)) + 2) = nI (eg_a (st.2 o) 2) from (eg_f40 hI (w := 2) (by omega) (by omega) (by decide) c_3).trans ha_11.1) ?_
        refine en_if_ne (tgt := 88) hx hb (by omega) dL_wasSet_80 (by decide) (fun c_12 => ?_) (fun c_12 => ?_)
        ·
          refine lv_iload hx hb dL_wasSet_88 (lv_at hl 0 rfl) ?_
          refine en_if_eq (tgt := 98) hx hb (by omega) dL_wasSet_90 (by decide) (fun c_13 => ?_) (fun c_13 => by exfalso; omega)
          refine lv_bipush (v := nI 121) hx hb dL_wasSet_98 (by decide) ?_
          have hso : ev_sf st k v w 30 (some o) = (121, st) := by rw [eg_sf_told hI (by omega) (by omega) c_3 29]; simp only [eg_a1 hI (p := o) (w := 2) (by omega) (by omega) (by decide) c_3]; rw [if_pos (by omega), eg_kO hI (i := eg_pl tt o) (by omega) hk]; simp [c_3, c_5, c_10]
          rw [hso]
          exact em_int hx hb hr hlocks rfl ⟨_, _, _, hP, hI, by omega⟩ hS dL_wasSet_100
        ·
          refine lv_bipush (v := nI 110) hx hb dL_wasSet_83 (by decide) ?_
          refine lv_goto (tgt := 100) hx hb dL_wasSet_85 (by decide) ?_
          have hso : ev_sf st k v w 30 (some o) = (110, st) := by rw [eg_sf_told hI (by omega) (by omega) c_3 29]; simp only [eg_a1 hI (p := o) (w := 2) (by omega) (by omega) (by decide) c_3]; rw [if_neg (by omega)]
          rw [hso]
          exact em_int hx hb hr hlocks rfl ⟨_, _, _, hP, hI, by omega⟩ hS dL_wasSet_100
      ·
        refine lv_aload_n hx hb dL_wasSet_51 rfl (lv_at hl 1 rfl) ?_
        refine lv_iload hx hb dL_wasSet_52 (lv_at hl 0 rfl) ?_
        refine lv_iconst (v := nI 1) hx hb dL_wasSet_54 (by decide) ?_
        refine en_iadd hx hb ((eg_at (eg_pl tt o) k) + 1) rfl dL_wasSet_55 ?_
        refine el_ald (f := f) hx hb hK hP ((eg_at (eg_pl tt o) k) + 1) (by first | omega | (unfold eg_at; omega)) dL_wasSet_56 ?_
        refine en_eq (show f ((eg_at (eg_pl tt o) k) + 1) = (ev_va (st.2 (eg_pl tt o)) k) from eg_fv hI (i := (eg_pl tt o)) (k := k) (by omega) (by omega) c_5) ?_
        refine lv_iload_n hx hb dL_wasSet_57 rfl (lv_at hl 4 rfl) ?_
        refine lv_icmp_eq (tgt := 65) hx hb dL_wasSet_58 (by decide) (fun c_14 => ?_) (fun c_14 => ?_)
        ·
          refine lv_iconst (v := nI 0) hx hb dL_wasSet_65 (by decide) ?_
          refine lv_istore (lv' := [(6, .int (nI 0)), (5, .int (nI (eg_at (eg_pl tt o) k))), (0, .ref qn), (1, .int (nI o)), (2, .int (nI k)), (3, .int v), (4, .int (nI w))]) hx hb dL_wasSet_66 hl (by decide) rfl (fun ls hl => ?_)
          refine lv_aload_n hx hb dL_wasSet_68 rfl (lv_at hl 2 rfl) ?_
          refine lv_bipush (v := nI 40) hx hb dL_wasSet_69 (by decide) ?_
          refine lv_iconst (v := nI 4) hx hb dL_wasSet_71 (by decide) ?_
          refine lv_iload_n hx hb dL_wasSet_72 rfl (lv_at hl 3 rfl) ?_
          refine lv_iconst (v := nI 5) hx hb dL_wasSet_73 (by decide) ?_
          refine en_isub hx hb (o - 5) (by omega) dL_wasSet_74 ?_
          refine en_imul hx hb (4 * (o - 5)) rfl dL_wasSet_75 ?_
          refine en_iadd hx hb (40 + (4 * (o - 5))) rfl dL_wasSet_76 ?_
          refine lv_iconst (v := nI 2) hx hb dL_wasSet_77 (by decide) ?_
          refine en_iadd hx hb (40 + (4 * (o - 5)) + 2) rfl dL_wasSet_78 ?_
          have ha_15 := eg_aE hI (p := o) (w := 2) (by omega) (by omega) (by decide) c_3
          have ha_15b := ha_15.2.2 (by decide)
          refine el_ald (f := f) hx hb hK hP (40 + (4 * (o - 5)) + 2) (by first | omega | (unfold eg_at; omega)) dL_wasSet_79 ?_
          refine en_eq (show f (40 + (4 * (o - 5)) + 2) = nI (eg_a (st.2 o) 2) from (eg_f40 hI (w := 2) (by omega) (by omega) (by decide) c_3).trans ha_15.1) ?_
          refine en_if_ne (tgt := 88) hx hb (by omega) dL_wasSet_80 (by decide) (fun c_16 => ?_) (fun c_16 => ?_)
          ·
            refine lv_iload hx hb dL_wasSet_88 (lv_at hl 0 rfl) ?_
            refine en_if_eq (tgt := 98) hx hb (by omega) dL_wasSet_90 (by decide) (fun c_17 => ?_) (fun c_17 => by exfalso; omega)
            refine lv_bipush (v := nI 121) hx hb dL_wasSet_98 (by decide) ?_
            have hso : ev_sf st k v w 30 (some o) = (121, st) := by rw [eg_sf_told hI (by omega) (by omega) c_3 29]; simp only [eg_a1 hI (p := o) (w := 2) (by omega) (by omega) (by decide) c_3]; rw [if_pos (by omega), eg_kO hI (i := eg_pl tt o) (by omega) hk]; simp [c_3, c_5, c_10, c_14]
            rw [hso]
            exact em_int hx hb hr hlocks rfl ⟨_, _, _, hP, hI, by omega⟩ hS dL_wasSet_100
          ·
            refine lv_bipush (v := nI 110) hx hb dL_wasSet_83 (by decide) ?_
            refine lv_goto (tgt := 100) hx hb dL_wasSet_85 (by decide) ?_
            have hso : ev_sf st k v w 30 (some o) = (110, st) := by rw [eg_sf_told hI (by omega) (by omega) c_3 29]; simp only [eg_a1 hI (p := o) (w := 2) (by omega) (by omega) (by decide) c_3]; rw [if_neg (by omega)]
            rw [hso]
            exact em_int hx hb hr hlocks rfl ⟨_, _, _, hP, hI, by omega⟩ hS dL_wasSet_100
        ·
          refine lv_iconst (v := nI 1) hx hb dL_wasSet_61 (by decide) ?_
          refine lv_goto (tgt := 66) hx hb dL_wasSet_62 (by decide) ?_
          refine lv_istore (lv' := [(6, .int (nI 1)), (5, .int (nI (eg_at (eg_pl tt o) k))), (0, .ref qn), (1, .int (nI o)), (2, .int (nI k)), (3, .int v), (4, .int (nI w))]) hx hb dL_wasSet_66 hl (by decide) rfl (fun ls hl => ?_)
          refine lv_aload_n hx hb dL_wasSet_68 rfl (lv_at hl 2 rfl) ?_
          refine lv_bipush (v := nI 40) hx hb dL_wasSet_69 (by decide) ?_
          refine lv_iconst (v := nI 4) hx hb dL_wasSet_71 (by decide) ?_
          refine lv_iload_n hx hb dL_wasSet_72 rfl (lv_at hl 3 rfl) ?_
          refine lv_iconst (v := nI 5) hx hb dL_wasSet_73 (by decide) ?_
          refine en_isub hx hb (o - 5) (by omega) dL_wasSet_74 ?_
          refine en_imul hx hb (4 * (o - 5)) rfl dL_wasSet_75 ?_
          refine en_iadd hx hb (40 + (4 * (o - 5))) rfl dL_wasSet_76 ?_
          refine lv_iconst (v := nI 2) hx hb dL_wasSet_77 (by decide) ?_
          refine en_iadd hx hb (40 + (4 * (o - 5)) + 2) rfl dL_wasSet_78 ?_
          have ha_18 := eg_aE hI (p := o) (w := 2) (by omega) (by omega) (by decide) c_3
          have ha_18b := ha_18.2.2 (by decide)
          refine el_ald (f := f) hx hb hK hP (40 + (4 * (o - 5)) + 2) (by first | omega | (unfold eg_at; omega)) dL_wasSet_79 ?_
          refine en_eq (show f (40 + (4 * (o - 5)) + 2) = nI (eg_a (st.2 o) 2) from (eg_f40 hI (w := 2) (by omega) (by omega) (by decide) c_3).trans ha_18.1) ?_
          refine en_if_ne (tgt := 88) hx hb (by omega) dL_wasSet_80 (by decide) (fun c_19 => ?_) (fun c_19 => ?_)
          ·
            refine lv_iload hx hb dL_wasSet_88 (lv_at hl 0 rfl) ?_
            refine en_if_eq (tgt := 98) hx hb (by omega) dL_wasSet_90 (by decide) (fun c_20 => by exfalso; omega) (fun c_20 => ?_)
            refine lv_bipush (v := nI 84) hx hb dL_wasSet_93 (by decide) ?_
            refine lv_goto (tgt := 100) hx hb dL_wasSet_95 (by decide) ?_
            have hso : ev_sf st k v w 30 (some o) = (84, st) := by rw [eg_sf_told hI (by omega) (by omega) c_3 29]; simp only [eg_a1 hI (p := o) (w := 2) (by omega) (by omega) (by decide) c_3]; rw [if_pos (by omega), eg_kO hI (i := eg_pl tt o) (by omega) hk]; simp [c_3, c_5, c_10, c_14]
            rw [hso]
            exact em_int hx hb hr hlocks rfl ⟨_, _, _, hP, hI, by omega⟩ hS dL_wasSet_100
          ·
            refine lv_bipush (v := nI 110) hx hb dL_wasSet_83 (by decide) ?_
            refine lv_goto (tgt := 100) hx hb dL_wasSet_85 (by decide) ?_
            have hso : ev_sf st k v w 30 (some o) = (110, st) := by rw [eg_sf_told hI (by omega) (by omega) c_3 29]; simp only [eg_a1 hI (p := o) (w := 2) (by omega) (by omega) (by decide) c_3]; rw [if_neg (by omega)]
            rw [hso]
            exact em_int hx hb hr hlocks rfl ⟨_, _, _, hP, hI, by omega⟩ hS dL_wasSet_100
set_option maxHeartbeats 4000000 in
set_option maxRecDepth 100000 in
theorem c_L_wasSet_2 (l : Launch) {D : va_G} {cI cO : ClassId} {qn : Nat} {tt : Nat → Nat} {cc : Nat → Option Nat} {st : ev_ST} {f : Nat → Int32} {od : Nat → Nat → Nat} {n : Nat} (hI : eg_I tt cc st f od n) {o k : Nat} (ho5 : 5 ≤ o) (ho : o < 7) (htt : tt o = 5) (hk : k < 20) {w : Nat} {v : Int32} (hw : w < 5) : Met l yL_wasSet wsL_wasSet ({ frames := 5, cells := 0, slots := 0, locals := 123 }) (ev_Pc D cI cO (ev_N D cI qn f) [.ref qn, .int (nI o), .int (nI k), .int v, .int (nI w)]) (ev_QM (some (.int (nI (ev_sf st k v w 30 (some o)).1))) (el_H D cI qn tt cc ((ev_sf st k v w 30 (some o)).2) n) (el_A qn)) 0 0 (el_A qn) := by
  refine ev_body (cc := cL_wasSet) (maxL := 7) (ret := (some .int)) (by decide) rfl (Nat.le_of_ble_eq_true rfl) ?_
  intro p e s m args below meth c hx hb hr hml hown hts hlocks hnm hP hK ls hl
  have hS : va_S (el_A qn) s.heap s.heap [] := va_S.rf
  have hqA : el_A qn qn := rfl
  have hl : lv_has ls 7 [(0, .ref qn), (1, .int (nI o)), (2, .int (nI k)), (3, .int v), (4, .int (nI w))] := hl
  refine lv_iload_n hx hb dL_wasSet_0 rfl (lv_at hl 1 rfl) ?_
  refine lv_iconst (v := nI 4) hx hb dL_wasSet_1 (by decide) ?_
  refine en_icmp_le (tgt := 116) hx hb (by omega) (by omega) dL_wasSet_2 (by decide) (fun c_1 => by exfalso; omega) (fun c_1 => ?_)
  refine lv_aload_n hx hb dL_wasSet_5 rfl (lv_at hl 0 rfl) ?_
  refine lv_iload_n hx hb dL_wasSet_6 rfl (lv_at hl 1 rfl) ?_
  have hp_2 : eg_pl tt o < 5 := eg_pl_lt hI (by omega)
  refine ev_cst (As := [.ref qn, .int (nI o)]) (rest := []) ⟨hx, hb, hml, hown, hts⟩ (c_L_plain l hI (o := o) (by omega)) (va_cwS 2 hts gL_wasSet_L_plain rfl rfl rfl (by decide +kernel) ⟨Nat.le_of_ble_eq_true rfl, Nat.le_of_ble_eq_true rfl⟩) hP hK rfl hl.1 (Nat.le_of_ble_eq_true rfl) dL_wasSet_7 ⟨Nat.le_of_ble_eq_true rfl, Nat.le_of_ble_eq_true rfl⟩ ?_
  refine lv_iload_n hx hb dL_wasSet_10 rfl (lv_at hl 2 rfl) ?_
  refine ev_cst (As := [.int (nI (eg_pl tt o)), .int (nI k)]) (rest := []) ⟨hx, hb, hml, hown, hts⟩ (c_L_at l (i := (eg_pl tt o)) (k := k)) (va_cwS 2 hts gL_wasSet_L_at rfl rfl rfl (by decide +kernel) ⟨Nat.le_of_ble_eq_true rfl, Nat.le_of_ble_eq_true rfl⟩) hP hK rfl hl.1 (Nat.le_of_ble_eq_true rfl) dL_wasSet_11 ⟨Nat.le_of_ble_eq_true rfl, Nat.le_of_ble_eq_true rfl⟩ ?_
  refine lv_istore (lv' := [(5, .int (nI (eg_at (eg_pl tt o) k))), (0, .ref qn), (1, .int (nI o)), (2, .int (nI k)), (3, .int v), (4, .int (nI w))]) hx hb dL_wasSet_14 hl (by decide) rfl (fun ls hl => ?_)
  refine lv_aload_n hx hb dL_wasSet_16 rfl (lv_at hl 1 rfl) ?_
  refine lv_bipush (v := nI 60) hx hb dL_wasSet_17 (by decide) ?_
  refine lv_iconst (v := nI 4) hx hb dL_wasSet_19 (by decide) ?_
  refine lv_iload_n hx hb dL_wasSet_20 rfl (lv_at hl 2 rfl) ?_
  refine lv_iconst (v := nI 5) hx hb dL_wasSet_21 (by decide) ?_
  refine en_isub hx hb (o - 5) (by omega) dL_wasSet_22 ?_
  refine en_imul hx hb (4 * (o - 5)) rfl dL_wasSet_23 ?_
  refine en_iadd hx hb (60 + (4 * (o - 5))) rfl dL_wasSet_24 ?_
  refine lv_iconst (v := nI 2) hx hb dL_wasSet_25 (by decide) ?_
  refine en_iadd hx hb (60 + (4 * (o - 5)) + 2) rfl dL_wasSet_26 ?_
  refine el_ald (f := f) hx hb hK hP (60 + (4 * (o - 5)) + 2) (by first | omega | (unfold eg_at; omega)) dL_wasSet_27 ?_
  refine en_eq (show f (60 + (4 * (o - 5)) + 2) = ev_bi (ev_told (st.2 o) 2) from eg_f60 hI (w := 2) (by omega) (by omega) (by decide)) ?_
  refine lv_iconst (v := nI 1) hx hb dL_wasSet_28 (by decide) ?_
  refine eb_icmp_ne1 (tgt := 101) hx hb dL_wasSet_29 (by decide) (fun c_3 => ?_) (fun c_3 => ?_)
  ·
    refine lv_aload_n hx hb dL_wasSet_101 rfl (lv_at hl 1 rfl) ?_
    refine lv_aload_n hx hb dL_wasSet_102 rfl (lv_at hl 1 rfl) ?_
    refine lv_bipush (v := nI 30) hx hb dL_wasSet_103 (by decide) ?_
    refine lv_iload_n hx hb dL_wasSet_105 rfl (lv_at hl 2 rfl) ?_
    refine en_iadd hx hb (30 + o) rfl dL_wasSet_106 ?_
    have ht_4 := eg_ttlt hI (p := o) (by omega) (by omega)
    refine el_ald (f := f) hx hb hK hP (30 + o) (by first | omega | (unfold eg_at; omega)) dL_wasSet_107 ?_
    refine en_eq (show f (30 + o) = nI 5 from (eg_f30 hI (p := o) (by omega) (by omega)).trans (congrArg nI htt)) ?_
    refine lv_iload_n hx hb dL_wasSet_108 rfl (lv_at hl 3 rfl) ?_
    refine lv_iload_n hx hb dL_wasSet_109 rfl (lv_at hl 4 rfl) ?_
    refine lv_iload hx hb dL_wasSet_110 (lv_at hl 5 rfl) ?_
    refine el_ms (As := [.ref qn, .int (nI 5), .int (nI k), .int v, .int (nI w)]) (rest := []) ⟨hx, hb, hml, hown, hts⟩ (c_L_wasSet_1 l hI (o := 5) (k := k) (w := w) (v := v) (by omega) (by omega) hI.2.1.1 hk hw) (va_cwS 5 hts gL_wasSet_L_wasSet rfl rfl rfl (by decide +kernel) ⟨Nat.le_of_ble_eq_true rfl, Nat.le_of_ble_eq_true rfl⟩) hP hK hS (fun _ h => h) rfl hl.1 (Nat.le_of_ble_eq_true rfl) dL_wasSet_112 ⟨Nat.le_of_ble_eq_true rfl, Nat.le_of_ble_eq_true rfl⟩ (fun H locs hP hz hkp hS => ?_)
    have hso : ev_sf st k v w 30 (some o) = ev_sf st k v w 30 (some (5)) := by rw [eg_so_pass hI (by omega) (by omega) c_3]; rw [htt]
    rw [hso]
    exact em_int hx hb hr hlocks rfl hP hS dL_wasSet_115
  ·
    refine lv_aload_n hx hb dL_wasSet_32 rfl (lv_at hl 1 rfl) ?_
    refine lv_iload hx hb dL_wasSet_33 (lv_at hl 0 rfl) ?_
    refine el_ald (f := f) hx hb hK hP ((eg_at (eg_pl tt o) k)) (by first | omega | (unfold eg_at; omega)) dL_wasSet_35 ?_
    refine en_eq (show f ((eg_at (eg_pl tt o) k)) = ev_bi (ev_holds (st.2 (eg_pl tt o)) k) from eg_fh hI (i := (eg_pl tt o)) (k := k) (by omega) (by omega)) ?_
    refine lv_iconst (v := nI 1) hx hb dL_wasSet_36 (by decide) ?_
    refine eb_icmp_ne1 (tgt := 65) hx hb dL_wasSet_37 (by decide) (fun c_5 => ?_) (fun c_5 => ?_)
    ·
      refine lv_iconst (v := nI 0) hx hb dL_wasSet_65 (by decide) ?_
      refine lv_istore (lv' := [(6, .int (nI 0)), (5, .int (nI (eg_at (eg_pl tt o) k))), (0, .ref qn), (1, .int (nI o)), (2, .int (nI k)), (3, .int v), (4, .int (nI w))]) hx hb dL_wasSet_66 hl (by decide) rfl (fun ls hl => ?_)
      refine lv_aload_n hx hb dL_wasSet_68 rfl (lv_at hl 2 rfl) ?_
      refine lv_bipush (v := nI 40) hx hb dL_wasSet_69 (by decide) ?_
      refine lv_iconst (v := nI 4) hx hb dL_wasSet_71 (by decide) ?_
      refine lv_iload_n hx hb dL_wasSet_72 rfl (lv_at hl 3 rfl) ?_
      refine lv_iconst (v := nI 5) hx hb dL_wasSet_73 (by decide) ?_
      refine en_isub hx hb (o - 5) (by omega) dL_wasSet_74 ?_
      refine en_imul hx hb (4 * (o - 5)) rfl dL_wasSet_75 ?_
      refine en_iadd hx hb (40 + (4 * (o - 5))) rfl dL_wasSet_76 ?_
      refine lv_iconst (v := nI 2) hx hb dL_wasSet_77 (by decide) ?_
      refine en_iadd hx hb (40 + (4 * (o - 5)) + 2) rfl dL_wasSet_78 ?_
      have ha_6 := eg_aE hI (p := o) (w := 2) (by omega) (by omega) (by decide) c_3
      have ha_6b := ha_6.2.2 (by decide)
      refine el_ald (f := f) hx hb hK hP (40 + (4 * (o - 5)) + 2) (by first | omega | (unfold eg_at; omega)) dL_wasSet_79 ?_
      refine en_eq (show f (40 + (4 * (o - 5)) + 2) = nI (eg_a (st.2 o) 2) from (eg_f40 hI (w := 2) (by omega) (by omega) (by decide) c_3).trans ha_6.1) ?_
      refine en_if_ne (tgt := 88) hx hb (by omega) dL_wasSet_80 (by decide) (fun c_7 => ?_) (fun c_7 => ?_)
      ·
        refine lv_iload hx hb dL_wasSet_88 (lv_at hl 0 rfl) ?_
        refine en_if_eq (tgt := 98) hx hb (by omega) dL_wasSet_90 (by decide) (fun c_8 => ?_) (fun c_8 => by exfalso; omega)
        refine lv_bipush (v := nI 121) hx hb dL_wasSet_98 (by decide) ?_
        have hso : ev_sf st k v w 30 (some o) = (121, st) := by rw [eg_sf_told hI (by omega) (by omega) c_3 29]; simp only [eg_a1 hI (p := o) (w := 2) (by omega) (by omega) (by decide) c_3]; rw [if_pos (by omega), eg_kO hI (i := eg_pl tt o) (by omega) hk]; simp [c_3, c_5]
        rw [hso]
        exact em_int hx hb hr hlocks rfl ⟨_, _, _, hP, hI, by omega⟩ hS dL_wasSet_100
      ·
        refine lv_bipush (v := nI 110) hx hb dL_wasSet_83 (by decide) ?_
        refine lv_goto (tgt := 100) hx hb dL_wasSet_85 (by decide) ?_
        have hso : ev_sf st k v w 30 (some o) = (110, st) := by rw [eg_sf_told hI (by omega) (by omega) c_3 29]; simp only [eg_a1 hI (p := o) (w := 2) (by omega) (by omega) (by decide) c_3]; rw [if_neg (by omega)]
        rw [hso]
        exact em_int hx hb hr hlocks rfl ⟨_, _, _, hP, hI, by omega⟩ hS dL_wasSet_100
    ·
      refine lv_aload_n hx hb dL_wasSet_40 rfl (lv_at hl 1 rfl) ?_
      refine lv_iload hx hb dL_wasSet_41 (lv_at hl 0 rfl) ?_
      refine lv_iconst (v := nI 2) hx hb dL_wasSet_43 (by decide) ?_
      refine en_iadd hx hb ((eg_at (eg_pl tt o) k) + 2) rfl dL_wasSet_44 ?_
      have hr_9 := (eg_rE hI (i := (eg_pl tt o)) (k := k) (by omega) (by omega) c_5).2
      refine el_ald (f := f) hx hb hK hP ((eg_at (eg_pl tt o) k) + 2) (by first | omega | (unfold eg_at; omega)) dL_wasSet_45 ?_
      refine en_eq (show f ((eg_at (eg_pl tt o) k) + 2) = nI (eg_r (st.2 (eg_pl tt o)) k) from eg_fr hI (i := (eg_pl tt o)) (k := k) (by omega) (by omega) c_5) ?_
      refine lv_iconst (v := nI 5) hx hb dL_wasSet_46 (by decide) ?_
      refine lv_iand hx hb dL_wasSet_47 ?_
      refine lv_if_ne (tgt := 65) hx hb dL_wasSet_48 (by decide) (fun c_10 => ?_) (fun c_10 => ?_)
      ·
        refine lv_iconst (v := nI 0) hx hb dL_wasSet_65 (by decide) ?_
        refine lv_istore (lv' := [(6, .int (nI 0)), (5, .int (nI (eg_at (eg_pl tt o) k))), (0, .ref qn), (1, .int (nI o)), (2, .int (nI k)), (3, .int v), (4, .int (nI w))]) hx hb dL_wasSet_66 hl (by decide) rfl (fun ls hl => ?_)
        refine lv_aload_n hx hb dL_wasSet_68 rfl (lv_at hl 2 rfl) ?_
        refine lv_bipush (v := nI 40) hx hb dL_wasSet_69 (by decide) ?_
        refine lv_iconst (v := nI 4) hx hb dL_wasSet_71 (by decide) ?_
        refine lv_iload_n hx hb dL_wasSet_72 rfl (lv_at hl 3 rfl) ?_
        refine lv_iconst (v := nI 5) hx hb dL_wasSet_73 (by decide) ?_
        refine en_isub hx hb (o - 5) (by omega) dL_wasSet_74 ?_
        refine en_imul hx hb (4 * (o - 5)) rfl dL_wasSet_75 ?_
        refine en_iadd hx hb (40 + (4 * (o - 5))) rfl dL_wasSet_76 ?_
        refine lv_iconst (v := nI 2) hx hb dL_wasSet_77 (by decide) ?_
        refine en_iadd hx hb (40 + (4 * (o - 5)) + 2) rfl dL_wasSet_78 ?_
        have ha_11 := eg_aE hI (p := o) (w := 2) (by omega) (by omega) (by decide) c_3
        have ha_11b := ha_11.2.2 (by decide)
        refine el_ald (f := f) hx hb hK hP (40 + (4 * (o - 5)) + 2) (by first | omega | (unfold eg_at; omega)) dL_wasSet_79 ?_
        refine en_eq (show f (40 + (4 * (o - 5)) + 2) = nI (eg_a (st.2 o) 2) from (eg_f40 hI (w := 2) (by omega) (by omega) (by decide) c_3).trans ha_11.1) ?_
        refine en_if_ne (tgt := 88) hx hb (by omega) dL_wasSet_80 (by decide) (fun c_12 => ?_) (fun c_12 => ?_)
        ·
          refine lv_iload hx hb dL_wasSet_88 (lv_at hl 0 rfl) ?_
          refine en_if_eq (tgt := 98) hx hb (by omega) dL_wasSet_90 (by decide) (fun c_13 => ?_) (fun c_13 => by exfalso; omega)
          refine lv_bipush (v := nI 121) hx hb dL_wasSet_98 (by decide) ?_
          have hso : ev_sf st k v w 30 (some o) = (121, st) := by rw [eg_sf_told hI (by omega) (by omega) c_3 29]; simp only [eg_a1 hI (p := o) (w := 2) (by omega) (by omega) (by decide) c_3]; rw [if_pos (by omega), eg_kO hI (i := eg_pl tt o) (by omega) hk]; simp [c_3, c_5, c_10]
          rw [hso]
          exact em_int hx hb hr hlocks rfl ⟨_, _, _, hP, hI, by omega⟩ hS dL_wasSet_100
        ·
          refine lv_bipush (v := nI 110) hx hb dL_wasSet_83 (by decide) ?_
          refine lv_goto (tgt := 100) hx hb dL_wasSet_85 (by decide) ?_
          have hso : ev_sf st k v w 30 (some o) = (110, st) := by rw [eg_sf_told hI (by omega) (by omega) c_3 29]; simp only [eg_a1 hI (p := o) (w := 2) (by omega) (by omega) (by decide) c_3]; rw [if_neg (by omega)]
          rw [hso]
          exact em_int hx hb hr hlocks rfl ⟨_, _, _, hP, hI, by omega⟩ hS dL_wasSet_100
      ·
        refine lv_aload_n hx hb dL_wasSet_51 rfl (lv_at hl 1 rfl) ?_
        refine lv_iload hx hb dL_wasSet_52 (lv_at hl 0 rfl) ?_
        refine lv_iconst (v := nI 1) hx hb dL_wasSet_54 (by decide) ?_
        refine en_iadd hx hb ((eg_at (eg_pl tt o) k) + 1) rfl dL_wasSet_55 ?_
        refine el_ald (f := f) hx hb hK hP ((eg_at (eg_pl tt o) k) + 1) (by first | omega | (unfold eg_at; omega)) dL_wasSet_56 ?_
        refine en_eq (show f ((eg_at (eg_pl tt o) k) + 1) = (ev_va (st.2 (eg_pl tt o)) k) from eg_fv hI (i := (eg_pl tt o)) (k := k) (by omega) (by omega) c_5) ?_
        refine lv_iload_n hx hb dL_wasSet_57 rfl (lv_at hl 4 rfl) ?_
        refine lv_icmp_eq (tgt := 65) hx hb dL_wasSet_58 (by decide) (fun c_14 => ?_) (fun c_14 => ?_)
        ·
          refine lv_iconst (v := nI 0) hx hb dL_wasSet_65 (by decide) ?_
          refine lv_istore (lv' := [(6, .int (nI 0)), (5, .int (nI (eg_at (eg_pl tt o) k))), (0, .ref qn), (1, .int (nI o)), (2, .int (nI k)), (3, .int v), (4, .int (nI w))]) hx hb dL_wasSet_66 hl (by decide) rfl (fun ls hl => ?_)
          refine lv_aload_n hx hb dL_wasSet_68 rfl (lv_at hl 2 rfl) ?_
          refine lv_bipush (v := nI 40) hx hb dL_wasSet_69 (by decide) ?_
          refine lv_iconst (v := nI 4) hx hb dL_wasSet_71 (by decide) ?_
          refine lv_iload_n hx hb dL_wasSet_72 rfl (lv_at hl 3 rfl) ?_
          refine lv_iconst (v := nI 5) hx hb dL_wasSet_73 (by decide) ?_
          refine en_isub hx hb (o - 5) (by omega) dL_wasSet_74 ?_
          refine en_imul hx hb (4 * (o - 5)) rfl dL_wasSet_75 ?_
          refine en_iadd hx hb (40 + (4 * (o - 5))) rfl dL_wasSet_76 ?_
          refine lv_iconst (v := nI 2) hx hb dL_wasSet_77 (by decide) ?_
          refine en_iadd hx hb (40 + (4 * (o - 5)) + 2) rfl dL_wasSet_78 ?_
          have ha_15 := eg_aE hI (p := o) (w := 2) (by omega) (by omega) (by decide) c_3
          have ha_15b := ha_15.2.2 (by decide)
          refine el_ald (f := f) hx hb hK hP (40 + (4 * (o - 5)) + 2) (by first | omega | (unfold eg_at; omega)) dL_wasSet_79 ?_
          refine en_eq (show f (40 + (4 * (o - 5)) + 2) = nI (eg_a (st.2 o) 2) from (eg_f40 hI (w := 2) (by omega) (by omega) (by decide) c_3).trans ha_15.1) ?_
          refine en_if_ne (tgt := 88) hx hb (by omega) dL_wasSet_80 (by decide) (fun c_16 => ?_) (fun c_16 => ?_)
          ·
            refine lv_iload hx hb dL_wasSet_88 (lv_at hl 0 rfl) ?_
            refine en_if_eq (tgt := 98) hx hb (by omega) dL_wasSet_90 (by decide) (fun c_17 => ?_) (fun c_17 => by exfalso; omega)
            refine lv_bipush (v := nI 121) hx hb dL_wasSet_98 (by decide) ?_
            have hso : ev_sf st k v w 30 (some o) = (121, st) := by rw [eg_sf_told hI (by omega) (by omega) c_3 29]; simp only [eg_a1 hI (p := o) (w := 2) (by omega) (by omega) (by decide) c_3]; rw [if_pos (by omega), eg_kO hI (i := eg_pl tt o) (by omega) hk]; simp [c_3, c_5, c_10, c_14]
            rw [hso]
            exact em_int hx hb hr hlocks rfl ⟨_, _, _, hP, hI, by omega⟩ hS dL_wasSet_100
          ·
            refine lv_bipush (v := nI 110) hx hb dL_wasSet_83 (by decide) ?_
            refine lv_goto (tgt := 100) hx hb dL_wasSet_85 (by decide) ?_
            have hso : ev_sf st k v w 30 (some o) = (110, st) := by rw [eg_sf_told hI (by omega) (by omega) c_3 29]; simp only [eg_a1 hI (p := o) (w := 2) (by omega) (by omega) (by decide) c_3]; rw [if_neg (by omega)]
            rw [hso]
            exact em_int hx hb hr hlocks rfl ⟨_, _, _, hP, hI, by omega⟩ hS dL_wasSet_100
        ·
          refine lv_iconst (v := nI 1) hx hb dL_wasSet_61 (by decide) ?_
          refine lv_goto (tgt := 66) hx hb dL_wasSet_62 (by decide) ?_
          refine lv_istore (lv' := [(6, .int (nI 1)), (5, .int (nI (eg_at (eg_pl tt o) k))), (0, .ref qn), (1, .int (nI o)), (2, .int (nI k)), (3, .int v), (4, .int (nI w))]) hx hb dL_wasSet_66 hl (by decide) rfl (fun ls hl => ?_)
          refine lv_aload_n hx hb dL_wasSet_68 rfl (lv_at hl 2 rfl) ?_
          refine lv_bipush (v := nI 40) hx hb dL_wasSet_69 (by decide) ?_
          refine lv_iconst (v := nI 4) hx hb dL_wasSet_71 (by decide) ?_
          refine lv_iload_n hx hb dL_wasSet_72 rfl (lv_at hl 3 rfl) ?_
          refine lv_iconst (v := nI 5) hx hb dL_wasSet_73 (by decide) ?_
          refine en_isub hx hb (o - 5) (by omega) dL_wasSet_74 ?_
          refine en_imul hx hb (4 * (o - 5)) rfl dL_wasSet_75 ?_
          refine en_iadd hx hb (40 + (4 * (o - 5))) rfl dL_wasSet_76 ?_
          refine lv_iconst (v := nI 2) hx hb dL_wasSet_77 (by decide) ?_
          refine en_iadd hx hb (40 + (4 * (o - 5)) + 2) rfl dL_wasSet_78 ?_
          have ha_18 := eg_aE hI (p := o) (w := 2) (by omega) (by omega) (by decide) c_3
          have ha_18b := ha_18.2.2 (by decide)
          refine el_ald (f := f) hx hb hK hP (40 + (4 * (o - 5)) + 2) (by first | omega | (unfold eg_at; omega)) dL_wasSet_79 ?_
          refine en_eq (show f (40 + (4 * (o - 5)) + 2) = nI (eg_a (st.2 o) 2) from (eg_f40 hI (w := 2) (by omega) (by omega) (by decide) c_3).trans ha_18.1) ?_
          refine en_if_ne (tgt := 88) hx hb (by omega) dL_wasSet_80 (by decide) (fun c_19 => ?_) (fun c_19 => ?_)
          ·
            refine lv_iload hx hb dL_wasSet_88 (lv_at hl 0 rfl) ?_
            refine en_if_eq (tgt := 98) hx hb (by omega) dL_wasSet_90 (by decide) (fun c_20 => by exfalso; omega) (fun c_20 => ?_)
            refine lv_bipush (v := nI 84) hx hb dL_wasSet_93 (by decide) ?_
            refine lv_goto (tgt := 100) hx hb dL_wasSet_95 (by decide) ?_
            have hso : ev_sf st k v w 30 (some o) = (84, st) := by rw [eg_sf_told hI (by omega) (by omega) c_3 29]; simp only [eg_a1 hI (p := o) (w := 2) (by omega) (by omega) (by decide) c_3]; rw [if_pos (by omega), eg_kO hI (i := eg_pl tt o) (by omega) hk]; simp [c_3, c_5, c_10, c_14]
            rw [hso]
            exact em_int hx hb hr hlocks rfl ⟨_, _, _, hP, hI, by omega⟩ hS dL_wasSet_100
          ·
            refine lv_bipush (v := nI 110) hx hb dL_wasSet_83 (by decide) ?_
            refine lv_goto (tgt := 100) hx hb dL_wasSet_85 (by decide) ?_
            have hso : ev_sf st k v w 30 (some o) = (110, st) := by rw [eg_sf_told hI (by omega) (by omega) c_3 29]; simp only [eg_a1 hI (p := o) (w := 2) (by omega) (by omega) (by decide) c_3]; rw [if_neg (by omega)]
            rw [hso]
            exact em_int hx hb hr hlocks rfl ⟨_, _, _, hP, hI, by omega⟩ hS dL_wasSet_100
set_option maxHeartbeats 4000000 in
set_option maxRecDepth 100000 in
theorem c_L_gone_0 (l : Launch) {D : va_G} {cI cO : ClassId} {qn : Nat} {tt : Nat → Nat} {cc : Nat → Option Nat} {st : ev_ST} {f : Nat → Int32} {od : Nat → Nat → Nat} {n : Nat} (hI : eg_I tt cc st f od n) {o k : Nat} (ho : o < 5) (hk : k < 20) : Met l yL_gone wsL_gone ({ frames := 1, cells := 0, slots := 0, locals := 21 }) (ev_Pc D cI cO (ev_N D cI qn f) [.ref qn, .int (nI o), .int (nI k)]) (ev_QM (some (.int (nI (ev_df st k 12 (some o)).1))) (el_H D cI qn tt cc ((ev_df st k 12 (some o)).2) n) (el_A qn)) 0 0 (el_A qn) := by
  refine ev_body (cc := cL_gone) (maxL := 5) (ret := (some .int)) (by decide) rfl (Nat.le_of_ble_eq_true rfl) ?_
  intro p e s m args below meth c hx hb hr hml hown hts hlocks hnm hP hK ls hl
  have hS : va_S (el_A qn) s.heap s.heap [] := va_S.rf
  have hqA : el_A qn qn := rfl
  have hl : lv_has ls 5 [(0, .ref qn), (1, .int (nI o)), (2, .int (nI k))] := hl
  refine lv_iload_n hx hb dL_gone_0 rfl (lv_at hl 1 rfl) ?_
  refine lv_iconst (v := nI 4) hx hb dL_gone_1 (by decide) ?_
  refine en_icmp_le (tgt := 85) hx hb (by omega) (by omega) dL_gone_2 (by decide) (fun c_1 => ?_) (fun c_1 => by exfalso; omega)
  refine lv_iload_n hx hb dL_gone_85 rfl (lv_at hl 1 rfl) ?_
  refine lv_iload_n hx hb dL_gone_86 rfl (lv_at hl 2 rfl) ?_
  refine ev_cst (As := [.int (nI o), .int (nI k)]) (rest := []) ⟨hx, hb, hml, hown, hts⟩ (c_L_at l (i := o) (k := k)) (va_cwS 2 hts gL_gone_L_at rfl rfl rfl (by decide +kernel) ⟨Nat.le_of_ble_eq_true rfl, Nat.le_of_ble_eq_true rfl⟩) hP hK rfl hl.1 (Nat.le_of_ble_eq_true rfl) dL_gone_87 ⟨Nat.le_of_ble_eq_true rfl, Nat.le_of_ble_eq_true rfl⟩ ?_
  refine lv_istore_n (lv' := [(3, .int (nI (eg_at o k))), (0, .ref qn), (1, .int (nI o)), (2, .int (nI k))]) hx hb dL_gone_90 rfl hl (by decide) rfl (fun ls hl => ?_)
  refine lv_aload_n hx hb dL_gone_91 rfl (lv_at hl 1 rfl) ?_
  refine lv_iload_n hx hb dL_gone_92 rfl (lv_at hl 0 rfl) ?_
  refine el_ald (f := f) hx hb hK hP ((eg_at o k)) (by first | omega | (unfold eg_at; omega)) dL_gone_93 ?_
  refine en_eq (show f ((eg_at o k)) = ev_bi (ev_holds (st.2 o) k) from eg_fh hI (i := o) (k := k) (by omega) (by omega)) ?_
  refine lv_iconst (v := nI 1) hx hb dL_gone_94 (by decide) ?_
  refine eb_icmp_ne1 (tgt := 111) hx hb dL_gone_95 (by decide) (fun c_2 => ?_) (fun c_2 => ?_)
  ·
    refine lv_iconst (v := nI 0) hx hb dL_gone_111 (by decide) ?_
    refine lv_istore (lv' := [(4, .int (nI 0)), (3, .int (nI (eg_at o k))), (0, .ref qn), (1, .int (nI o)), (2, .int (nI k))]) hx hb dL_gone_112 hl (by decide) rfl (fun ls hl => ?_)
    refine lv_aload_n hx hb dL_gone_114 rfl (lv_at hl 2 rfl) ?_
    refine lv_iload_n hx hb dL_gone_115 rfl (lv_at hl 1 rfl) ?_
    refine lv_iload hx hb dL_gone_116 (lv_at hl 0 rfl) ?_
    refine en_if_eq (tgt := 125) hx hb (by omega) dL_gone_118 (by decide) (fun c_3 => ?_) (fun c_3 => by exfalso; omega)
    refine lv_iconst (v := nI 0) hx hb dL_gone_125 (by decide) ?_
    refine el_ast (f := f) (x := nI 0) hx hb hK hP hqA hS ((eg_at o k)) (by first | omega | (unfold eg_at; omega)) dL_gone_126 (fun H locs hP hS => ?_)
    refine lv_iload hx hb dL_gone_127 (lv_at hl 0 rfl) ?_
    refine en_if_eq (tgt := 137) hx hb (by omega) dL_gone_129 (by decide) (fun c_4 => ?_) (fun c_4 => by exfalso; omega)
    refine lv_bipush (v := nI 121) hx hb dL_gone_137 (by decide) ?_
    have hdf : ev_df st k 12 (some o) = (121, st) := by rw [eg_df_plain hI ho 11, eg_tk_n c_2]; show (121, ev_up st o (st.2 o)) = _; rw [ev_up_id]
    rw [hdf]
    exact em_int hx hb hr hlocks rfl ⟨_, _, _, hP, (by rw [eg_upid (show f (eg_at o k) = nI 0 from by rw [eg_fh hI ho hk, c_2]; rfl)]; exact hI), by omega⟩ hS dL_gone_139
  ·
    refine lv_aload_n hx hb dL_gone_98 rfl (lv_at hl 1 rfl) ?_
    refine lv_iload_n hx hb dL_gone_99 rfl (lv_at hl 0 rfl) ?_
    refine lv_iconst (v := nI 2) hx hb dL_gone_100 (by decide) ?_
    refine en_iadd hx hb ((eg_at o k) + 2) rfl dL_gone_101 ?_
    have hr_5 := (eg_rE hI (i := o) (k := k) (by omega) (by omega) c_2).2
    refine el_ald (f := f) hx hb hK hP ((eg_at o k) + 2) (by first | omega | (unfold eg_at; omega)) dL_gone_102 ?_
    refine en_eq (show f ((eg_at o k) + 2) = nI (eg_r (st.2 o) k) from eg_fr hI (i := o) (k := k) (by omega) (by omega) c_2) ?_
    refine lv_iconst (v := nI 4) hx hb dL_gone_103 (by decide) ?_
    refine en_icmp_ge (tgt := 111) hx hb (by omega) (by omega) dL_gone_104 (by decide) (fun c_6 => ?_) (fun c_6 => ?_)
    ·
      refine lv_iconst (v := nI 0) hx hb dL_gone_111 (by decide) ?_
      refine lv_istore (lv' := [(4, .int (nI 0)), (3, .int (nI (eg_at o k))), (0, .ref qn), (1, .int (nI o)), (2, .int (nI k))]) hx hb dL_gone_112 hl (by decide) rfl (fun ls hl => ?_)
      refine lv_aload_n hx hb dL_gone_114 rfl (lv_at hl 2 rfl) ?_
      refine lv_iload_n hx hb dL_gone_115 rfl (lv_at hl 1 rfl) ?_
      refine lv_iload hx hb dL_gone_116 (lv_at hl 0 rfl) ?_
      refine en_if_eq (tgt := 125) hx hb (by omega) dL_gone_118 (by decide) (fun c_7 => ?_) (fun c_7 => by exfalso; omega)
      refine lv_iconst (v := nI 0) hx hb dL_gone_125 (by decide) ?_
      refine el_ast (f := f) (x := nI 0) hx hb hK hP hqA hS ((eg_at o k)) (by first | omega | (unfold eg_at; omega)) dL_gone_126 (fun H locs hP hS => ?_)
      refine lv_iload hx hb dL_gone_127 (lv_at hl 0 rfl) ?_
      refine en_if_eq (tgt := 137) hx hb (by omega) dL_gone_129 (by decide) (fun c_8 => ?_) (fun c_8 => by exfalso; omega)
      refine lv_bipush (v := nI 121) hx hb dL_gone_137 (by decide) ?_
      have hdf : ev_df st k 12 (some o) = (121, ev_up st o (ev_tko (st.2 o) k)) := by rw [eg_df_plain hI ho 11, eg_tk_4 hI ho hk c_2 (by omega)]
      rw [hdf]
      exact em_int hx hb hr hlocks rfl ⟨_, _, _, hP, eg_take hI ho hk c_2, by omega⟩ hS dL_gone_139
    ·
      refine lv_iconst (v := nI 1) hx hb dL_gone_107 (by decide) ?_
      refine lv_goto (tgt := 112) hx hb dL_gone_108 (by decide) ?_
      refine lv_istore (lv' := [(4, .int (nI 1)), (3, .int (nI (eg_at o k))), (0, .ref qn), (1, .int (nI o)), (2, .int (nI k))]) hx hb dL_gone_112 hl (by decide) rfl (fun ls hl => ?_)
      refine lv_aload_n hx hb dL_gone_114 rfl (lv_at hl 2 rfl) ?_
      refine lv_iload_n hx hb dL_gone_115 rfl (lv_at hl 1 rfl) ?_
      refine lv_iload hx hb dL_gone_116 (lv_at hl 0 rfl) ?_
      refine en_if_eq (tgt := 125) hx hb (by omega) dL_gone_118 (by decide) (fun c_9 => by exfalso; omega) (fun c_9 => ?_)
      refine lv_iconst (v := nI 1) hx hb dL_gone_121 (by decide) ?_
      refine lv_goto (tgt := 126) hx hb dL_gone_122 (by decide) ?_
      refine el_ast (f := f) (x := nI 1) hx hb hK hP hqA hS ((eg_at o k)) (by first | omega | (unfold eg_at; omega)) dL_gone_126 (fun H locs hP hS => ?_)
      refine lv_iload hx hb dL_gone_127 (lv_at hl 0 rfl) ?_
      refine en_if_eq (tgt := 137) hx hb (by omega) dL_gone_129 (by decide) (fun c_10 => by exfalso; omega) (fun c_10 => ?_)
      refine lv_bipush (v := nI 110) hx hb dL_gone_132 (by decide) ?_
      refine lv_goto (tgt := 139) hx hb dL_gone_134 (by decide) ?_
      have hdf : ev_df st k 12 (some o) = (110, st) := by rw [eg_df_plain hI ho 11, eg_tk_o hI ho hk c_2 (by omega)]; show (110, ev_up st o (st.2 o)) = _; rw [ev_up_id]
      rw [hdf]
      exact em_int hx hb hr hlocks rfl ⟨_, _, _, hP, (by rw [eg_upid (show f (eg_at o k) = nI 1 from by rw [eg_fh hI ho hk, c_2]; rfl)]; exact hI), by omega⟩ hS dL_gone_139
set_option maxHeartbeats 4000000 in
set_option maxRecDepth 100000 in
theorem c_L_gone_1 (l : Launch) {D : va_G} {cI cO : ClassId} {qn : Nat} {tt : Nat → Nat} {cc : Nat → Option Nat} {st : ev_ST} {f : Nat → Int32} {od : Nat → Nat → Nat} {n : Nat} (hI : eg_I tt cc st f od n) {o k : Nat} (ho5 : 5 ≤ o) (ho : o < 7) (htt : tt o < 5) (hk : k < 20) : Met l yL_gone wsL_gone ({ frames := 2, cells := 0, slots := 0, locals := 45 }) (ev_Pc D cI cO (ev_N D cI qn f) [.ref qn, .int (nI o), .int (nI k)]) (ev_QM (some (.int (nI (ev_df st k 12 (some o)).1))) (el_H D cI qn tt cc ((ev_df st k 12 (some o)).2) n) (el_A qn)) 0 0 (el_A qn) := by
  refine ev_body (cc := cL_gone) (maxL := 5) (ret := (some .int)) (by decide) rfl (Nat.le_of_ble_eq_true rfl) ?_
  intro p e s m args below meth c hx hb hr hml hown hts hlocks hnm hP hK ls hl
  have hS : va_S (el_A qn) s.heap s.heap [] := va_S.rf
  have hqA : el_A qn qn := rfl
  have hl : lv_has ls 5 [(0, .ref qn), (1, .int (nI o)), (2, .int (nI k))] := hl
  refine lv_iload_n hx hb dL_gone_0 rfl (lv_at hl 1 rfl) ?_
  refine lv_iconst (v := nI 4) hx hb dL_gone_1 (by decide) ?_
  refine en_icmp_le (tgt := 85) hx hb (by omega) (by omega) dL_gone_2 (by decide) (fun c_1 => by exfalso; omega) (fun c_1 => ?_)
  refine lv_aload_n hx hb dL_gone_5 rfl (lv_at hl 0 rfl) ?_
  refine lv_bipush (v := nI 60) hx hb dL_gone_6 (by decide) ?_
  refine lv_iconst (v := nI 4) hx hb dL_gone_8 (by decide) ?_
  refine lv_iload_n hx hb dL_gone_9 rfl (lv_at hl 1 rfl) ?_
  refine lv_iconst (v := nI 5) hx hb dL_gone_10 (by decide) ?_
  refine en_isub hx hb (o - 5) (by omega) dL_gone_11 ?_
  refine en_imul hx hb (4 * (o - 5)) rfl dL_gone_12 ?_
  refine en_iadd hx hb (60 + (4 * (o - 5))) rfl dL_gone_13 ?_
  refine lv_iconst (v := nI 3) hx hb dL_gone_14 (by decide) ?_
  refine en_iadd hx hb (60 + (4 * (o - 5)) + 3) rfl dL_gone_15 ?_
  refine el_ald (f := f) hx hb hK hP (60 + (4 * (o - 5)) + 3) (by first | omega | (unfold eg_at; omega)) dL_gone_16 ?_
  refine en_eq (show f (60 + (4 * (o - 5)) + 3) = ev_bi (ev_told (st.2 o) 3) from eg_f60 hI (w := 3) (by omega) (by omega) (by decide)) ?_
  refine lv_iconst (v := nI 1) hx hb dL_gone_17 (by decide) ?_
  refine eb_icmp_ne1 (tgt := 73) hx hb dL_gone_18 (by decide) (fun c_2 => ?_) (fun c_2 => ?_)
  ·
    refine lv_aload_n hx hb dL_gone_73 rfl (lv_at hl 0 rfl) ?_
    refine lv_aload_n hx hb dL_gone_74 rfl (lv_at hl 0 rfl) ?_
    refine lv_bipush (v := nI 30) hx hb dL_gone_75 (by decide) ?_
    refine lv_iload_n hx hb dL_gone_77 rfl (lv_at hl 1 rfl) ?_
    refine en_iadd hx hb (30 + o) rfl dL_gone_78 ?_
    have ht_3 := eg_ttlt hI (p := o) (by omega) (by omega)
    refine el_ald (f := f) hx hb hK hP (30 + o) (by first | omega | (unfold eg_at; omega)) dL_gone_79 ?_
    refine en_eq (show f (30 + o) = nI (tt o) from eg_f30 hI (p := o) (by omega) (by omega)) ?_
    refine lv_iload_n hx hb dL_gone_80 rfl (lv_at hl 2 rfl) ?_
    refine el_ms (As := [.ref qn, .int (nI (tt o)), .int (nI k)]) (rest := []) ⟨hx, hb, hml, hown, hts⟩ (c_L_gone_0 l hI (o := (tt o)) (k := k) (by omega) hk) (va_cwS 3 hts gL_gone_L_gone rfl rfl rfl (by decide +kernel) ⟨Nat.le_of_ble_eq_true rfl, Nat.le_of_ble_eq_true rfl⟩) hP hK hS (fun _ h => h) rfl hl.1 (Nat.le_of_ble_eq_true rfl) dL_gone_81 ⟨Nat.le_of_ble_eq_true rfl, Nat.le_of_ble_eq_true rfl⟩ (fun H locs hP hz hkp hS => ?_)
    have hdf : ev_df st k 12 (some o) = ev_df st k 12 (some (tt o)) := by rw [eg_do_pass hI (by omega) (by omega) c_2]
    rw [hdf]
    exact em_int hx hb hr hlocks rfl hP hS dL_gone_84
  ·
    refine lv_aload_n hx hb dL_gone_21 rfl (lv_at hl 0 rfl) ?_
    refine lv_bipush (v := nI 40) hx hb dL_gone_22 (by decide) ?_
    refine lv_iconst (v := nI 4) hx hb dL_gone_24 (by decide) ?_
    refine lv_iload_n hx hb dL_gone_25 rfl (lv_at hl 1 rfl) ?_
    refine lv_iconst (v := nI 5) hx hb dL_gone_26 (by decide) ?_
    refine en_isub hx hb (o - 5) (by omega) dL_gone_27 ?_
    refine en_imul hx hb (4 * (o - 5)) rfl dL_gone_28 ?_
    refine en_iadd hx hb (40 + (4 * (o - 5))) rfl dL_gone_29 ?_
    refine lv_iconst (v := nI 3) hx hb dL_gone_30 (by decide) ?_
    refine en_iadd hx hb (40 + (4 * (o - 5)) + 3) rfl dL_gone_31 ?_
    have ha_4 := eg_aE hI (p := o) (w := 3) (by omega) (by omega) (by decide) c_2
    have ha_4b := ha_4.2.2 (by decide)
    refine el_ald (f := f) hx hb hK hP (40 + (4 * (o - 5)) + 3) (by first | omega | (unfold eg_at; omega)) dL_gone_32 ?_
    refine en_eq (show f (40 + (4 * (o - 5)) + 3) = nI (eg_a (st.2 o) 3) from (eg_f40 hI (w := 3) (by omega) (by omega) (by decide) c_2).trans ha_4.1) ?_
    refine lv_iconst (v := nI 1) hx hb dL_gone_33 (by decide) ?_
    refine en_icmp_ne (tgt := 41) hx hb (by omega) (by omega) dL_gone_34 (by decide) (fun c_5 => ?_) (fun c_5 => ?_)
    ·
      refine lv_iconst (v := nI 0) hx hb dL_gone_41 (by decide) ?_
      refine lv_istore_n (lv' := [(3, .int (nI 0)), (0, .ref qn), (1, .int (nI o)), (2, .int (nI k))]) hx hb dL_gone_42 rfl hl (by decide) rfl (fun ls hl => ?_)
      refine lv_iload_n hx hb dL_gone_43 rfl (lv_at hl 0 rfl) ?_
      refine en_if_ne (tgt := 52) hx hb (by omega) dL_gone_44 (by decide) (fun c_6 => by exfalso; omega) (fun c_6 => ?_)
      refine lv_bipush (v := nI 110) hx hb dL_gone_47 (by decide) ?_
      refine lv_goto (tgt := 72) hx hb dL_gone_49 (by decide) ?_
      have hdf : ev_df st k 12 (some o) = (110, st) := by rw [eg_df_told hI (by omega) (by omega) c_2 11]; simp only [eg_a1 hI (p := o) (w := 3) (by omega) (by omega) (by decide) c_2]; rw [if_neg (by omega)]
      rw [hdf]
      exact em_int hx hb hr hlocks rfl ⟨_, _, _, hP, hI, by omega⟩ hS dL_gone_72
    ·
      refine lv_iconst (v := nI 1) hx hb dL_gone_37 (by decide) ?_
      refine lv_goto (tgt := 42) hx hb dL_gone_38 (by decide) ?_
      refine lv_istore_n (lv' := [(3, .int (nI 1)), (0, .ref qn), (1, .int (nI o)), (2, .int (nI k))]) hx hb dL_gone_42 rfl hl (by decide) rfl (fun ls hl => ?_)
      refine lv_iload_n hx hb dL_gone_43 rfl (lv_at hl 0 rfl) ?_
      refine en_if_ne (tgt := 52) hx hb (by omega) dL_gone_44 (by decide) (fun c_7 => ?_) (fun c_7 => by exfalso; omega)
      refine lv_aload_n hx hb dL_gone_52 rfl (lv_at hl 1 rfl) ?_
      refine lv_aload_n hx hb dL_gone_53 rfl (lv_at hl 1 rfl) ?_
      refine lv_iload_n hx hb dL_gone_54 rfl (lv_at hl 2 rfl) ?_
      have hp_8 : eg_pl tt o < 5 := eg_pl_lt hI (by omega)
      refine ev_cst (As := [.ref qn, .int (nI o)]) (rest := [.ref qn]) ⟨hx, hb, hml, hown, hts⟩ (c_L_plain l hI (o := o) (by omega)) (va_cwS 2 hts gL_gone_L_plain rfl rfl rfl (by decide +kernel) ⟨Nat.le_of_ble_eq_true rfl, Nat.le_of_ble_eq_true rfl⟩) hP hK rfl hl.1 (Nat.le_of_ble_eq_true rfl) dL_gone_55 ⟨Nat.le_of_ble_eq_true rfl, Nat.le_of_ble_eq_true rfl⟩ ?_
      refine lv_iload_n hx hb dL_gone_58 rfl (lv_at hl 3 rfl) ?_
      refine ev_cst (As := [.ref qn, .int (nI (eg_pl tt o)), .int (nI k)]) (rest := []) ⟨hx, hb, hml, hown, hts⟩ (c_L_isKept l hI (i := (eg_pl tt o)) (k := k) (by omega) (by omega)) (va_cwS 3 hts gL_gone_L_isKept rfl rfl rfl (by decide +kernel) ⟨Nat.le_of_ble_eq_true rfl, Nat.le_of_ble_eq_true rfl⟩) hP hK rfl hl.1 (Nat.le_of_ble_eq_true rfl) dL_gone_59 ⟨Nat.le_of_ble_eq_true rfl, Nat.le_of_ble_eq_true rfl⟩ ?_
      refine eb_if_eq (tgt := 70) hx hb dL_gone_62 (by decide) (fun c_9 => ?_) (fun c_9 => ?_)
      ·
        refine lv_bipush (v := nI 121) hx hb dL_gone_70 (by decide) ?_
        have hdf : ev_df st k 12 (some o) = (121, st) := by rw [eg_df_told hI (by omega) (by omega) c_2 11]; simp only [eg_a1 hI (p := o) (w := 3) (by omega) (by omega) (by decide) c_2]; rw [if_pos (by omega), c_9]; rfl
        rw [hdf]
        exact em_int hx hb hr hlocks rfl ⟨_, _, _, hP, hI, by omega⟩ hS dL_gone_72
      ·
        refine lv_bipush (v := nI 84) hx hb dL_gone_65 (by decide) ?_
        refine lv_goto (tgt := 72) hx hb dL_gone_67 (by decide) ?_
        have hdf : ev_df st k 12 (some o) = (84, st) := by rw [eg_df_told hI (by omega) (by omega) c_2 11]; simp only [eg_a1 hI (p := o) (w := 3) (by omega) (by omega) (by decide) c_2]; rw [if_pos (by omega), c_9]; rfl
        rw [hdf]
        exact em_int hx hb hr hlocks rfl ⟨_, _, _, hP, hI, by omega⟩ hS dL_gone_72
set_option maxHeartbeats 4000000 in
set_option maxRecDepth 100000 in
theorem c_L_gone_2 (l : Launch) {D : va_G} {cI cO : ClassId} {qn : Nat} {tt : Nat → Nat} {cc : Nat → Option Nat} {st : ev_ST} {f : Nat → Int32} {od : Nat → Nat → Nat} {n : Nat} (hI : eg_I tt cc st f od n) {o k : Nat} (ho5 : 5 ≤ o) (ho : o < 7) (htt : tt o = 5) (hk : k < 20) : Met l yL_gone wsL_gone ({ frames := 3, cells := 0, slots := 0, locals := 69 }) (ev_Pc D cI cO (ev_N D cI qn f) [.ref qn, .int (nI o), .int (nI k)]) (ev_QM (some (.int (nI (ev_df st k 12 (some o)).1))) (el_H D cI qn tt cc ((ev_df st k 12 (some o)).2) n) (el_A qn)) 0 0 (el_A qn) := by
  refine ev_body (cc := cL_gone) (maxL := 5) (ret := (some .int)) (by decide) rfl (Nat.le_of_ble_eq_true rfl) ?_
  intro p e s m args below meth c hx hb hr hml hown hts hlocks hnm hP hK ls hl
  have hS : va_S (el_A qn) s.heap s.heap [] := va_S.rf
  have hqA : el_A qn qn := rfl
  have hl : lv_has ls 5 [(0, .ref qn), (1, .int (nI o)), (2, .int (nI k))] := hl
  refine lv_iload_n hx hb dL_gone_0 rfl (lv_at hl 1 rfl) ?_
  refine lv_iconst (v := nI 4) hx hb dL_gone_1 (by decide) ?_
  refine en_icmp_le (tgt := 85) hx hb (by omega) (by omega) dL_gone_2 (by decide) (fun c_1 => by exfalso; omega) (fun c_1 => ?_)
  refine lv_aload_n hx hb dL_gone_5 rfl (lv_at hl 0 rfl) ?_
  refine lv_bipush (v := nI 60) hx hb dL_gone_6 (by decide) ?_
  refine lv_iconst (v := nI 4) hx hb dL_gone_8 (by decide) ?_
  refine lv_iload_n hx hb dL_gone_9 rfl (lv_at hl 1 rfl) ?_
  refine lv_iconst (v := nI 5) hx hb dL_gone_10 (by decide) ?_
  refine en_isub hx hb (o - 5) (by omega) dL_gone_11 ?_
  refine en_imul hx hb (4 * (o - 5)) rfl dL_gone_12 ?_
  refine en_iadd hx hb (60 + (4 * (o - 5))) rfl dL_gone_13 ?_
  refine lv_iconst (v := nI 3) hx hb dL_gone_14 (by decide) ?_
  refine en_iadd hx hb (60 + (4 * (o - 5)) + 3) rfl dL_gone_15 ?_
  refine el_ald (f := f) hx hb hK hP (60 + (4 * (o - 5)) + 3) (by first | omega | (unfold eg_at; omega)) dL_gone_16 ?_
  refine en_eq (show f (60 + (4 * (o - 5)) + 3) = ev_bi (ev_told (st.2 o) 3) from eg_f60 hI (w := 3) (by omega) (by omega) (by decide)) ?_
  refine lv_iconst (v := nI 1) hx hb dL_gone_17 (by decide) ?_
  refine eb_icmp_ne1 (tgt := 73) hx hb dL_gone_18 (by decide) (fun c_2 => ?_) (fun c_2 => ?_)
  ·
    refine lv_aload_n hx hb dL_gone_73 rfl (lv_at hl 0 rfl) ?_
    refine lv_aload_n hx hb dL_gone_74 rfl (lv_at hl 0 rfl) ?_
    refine lv_bipush (v := nI 30) hx hb dL_gone_75 (by decide) ?_
    refine lv_iload_n hx hb dL_gone_77 rfl (lv_at hl 1 rfl) ?_
    refine en_iadd hx hb (30 + o) rfl dL_gone_78 ?_
    have ht_3 := eg_ttlt hI (p := o) (by omega) (by omega)
    refine el_ald (f := f) hx hb hK hP (30 + o) (by first | omega | (unfold eg_at; omega)) dL_gone_79 ?_
    refine en_eq (show f (30 + o) = nI 5 from (eg_f30 hI (p := o) (by omega) (by omega)).trans (congrArg nI htt)) ?_
    refine lv_iload_n hx hb dL_gone_80 rfl (lv_at hl 2 rfl) ?_
    refine el_ms (As := [.ref qn, .int (nI 5), .int (nI k)]) (rest := []) ⟨hx, hb, hml, hown, hts⟩ (c_L_gone_1 l hI (o := 5) (k := k) (by omega) (by omega) hI.2.1.1 hk) (va_cwS 3 hts gL_gone_L_gone rfl rfl rfl (by decide +kernel) ⟨Nat.le_of_ble_eq_true rfl, Nat.le_of_ble_eq_true rfl⟩) hP hK hS (fun _ h => h) rfl hl.1 (Nat.le_of_ble_eq_true rfl) dL_gone_81 ⟨Nat.le_of_ble_eq_true rfl, Nat.le_of_ble_eq_true rfl⟩ (fun H locs hP hz hkp hS => ?_)
    have hdf : ev_df st k 12 (some o) = ev_df st k 12 (some (5)) := by rw [eg_do_pass hI (by omega) (by omega) c_2]; rw [htt]
    rw [hdf]
    exact em_int hx hb hr hlocks rfl hP hS dL_gone_84
  ·
    refine lv_aload_n hx hb dL_gone_21 rfl (lv_at hl 0 rfl) ?_
    refine lv_bipush (v := nI 40) hx hb dL_gone_22 (by decide) ?_
    refine lv_iconst (v := nI 4) hx hb dL_gone_24 (by decide) ?_
    refine lv_iload_n hx hb dL_gone_25 rfl (lv_at hl 1 rfl) ?_
    refine lv_iconst (v := nI 5) hx hb dL_gone_26 (by decide) ?_
    refine en_isub hx hb (o - 5) (by omega) dL_gone_27 ?_
    refine en_imul hx hb (4 * (o - 5)) rfl dL_gone_28 ?_
    refine en_iadd hx hb (40 + (4 * (o - 5))) rfl dL_gone_29 ?_
    refine lv_iconst (v := nI 3) hx hb dL_gone_30 (by decide) ?_
    refine en_iadd hx hb (40 + (4 * (o - 5)) + 3) rfl dL_gone_31 ?_
    have ha_4 := eg_aE hI (p := o) (w := 3) (by omega) (by omega) (by decide) c_2
    have ha_4b := ha_4.2.2 (by decide)
    refine el_ald (f := f) hx hb hK hP (40 + (4 * (o - 5)) + 3) (by first | omega | (unfold eg_at; omega)) dL_gone_32 ?_
    refine en_eq (show f (40 + (4 * (o - 5)) + 3) = nI (eg_a (st.2 o) 3) from (eg_f40 hI (w := 3) (by omega) (by omega) (by decide) c_2).trans ha_4.1) ?_
    refine lv_iconst (v := nI 1) hx hb dL_gone_33 (by decide) ?_
    refine en_icmp_ne (tgt := 41) hx hb (by omega) (by omega) dL_gone_34 (by decide) (fun c_5 => ?_) (fun c_5 => ?_)
    ·
      refine lv_iconst (v := nI 0) hx hb dL_gone_41 (by decide) ?_
      refine lv_istore_n (lv' := [(3, .int (nI 0)), (0, .ref qn), (1, .int (nI o)), (2, .int (nI k))]) hx hb dL_gone_42 rfl hl (by decide) rfl (fun ls hl => ?_)
      refine lv_iload_n hx hb dL_gone_43 rfl (lv_at hl 0 rfl) ?_
      refine en_if_ne (tgt := 52) hx hb (by omega) dL_gone_44 (by decide) (fun c_6 => by exfalso; omega) (fun c_6 => ?_)
      refine lv_bipush (v := nI 110) hx hb dL_gone_47 (by decide) ?_
      refine lv_goto (tgt := 72) hx hb dL_gone_49 (by decide) ?_
      have hdf : ev_df st k 12 (some o) = (110, st) := by rw [eg_df_told hI (by omega) (by omega) c_2 11]; simp only [eg_a1 hI (p := o) (w := 3) (by omega) (by omega) (by decide) c_2]; rw [if_neg (by omega)]
      rw [hdf]
      exact em_int hx hb hr hlocks rfl ⟨_, _, _, hP, hI, by omega⟩ hS dL_gone_72
    ·
      refine lv_iconst (v := nI 1) hx hb dL_gone_37 (by decide) ?_
      refine lv_goto (tgt := 42) hx hb dL_gone_38 (by decide) ?_
      refine lv_istore_n (lv' := [(3, .int (nI 1)), (0, .ref qn), (1, .int (nI o)), (2, .int (nI k))]) hx hb dL_gone_42 rfl hl (by decide) rfl (fun ls hl => ?_)
      refine lv_iload_n hx hb dL_gone_43 rfl (lv_at hl 0 rfl) ?_
      refine en_if_ne (tgt := 52) hx hb (by omega) dL_gone_44 (by decide) (fun c_7 => ?_) (fun c_7 => by exfalso; omega)
      refine lv_aload_n hx hb dL_gone_52 rfl (lv_at hl 1 rfl) ?_
      refine lv_aload_n hx hb dL_gone_53 rfl (lv_at hl 1 rfl) ?_
      refine lv_iload_n hx hb dL_gone_54 rfl (lv_at hl 2 rfl) ?_
      have hp_8 : eg_pl tt o < 5 := eg_pl_lt hI (by omega)
      refine ev_cst (As := [.ref qn, .int (nI o)]) (rest := [.ref qn]) ⟨hx, hb, hml, hown, hts⟩ (c_L_plain l hI (o := o) (by omega)) (va_cwS 2 hts gL_gone_L_plain rfl rfl rfl (by decide +kernel) ⟨Nat.le_of_ble_eq_true rfl, Nat.le_of_ble_eq_true rfl⟩) hP hK rfl hl.1 (Nat.le_of_ble_eq_true rfl) dL_gone_55 ⟨Nat.le_of_ble_eq_true rfl, Nat.le_of_ble_eq_true rfl⟩ ?_
      refine lv_iload_n hx hb dL_gone_58 rfl (lv_at hl 3 rfl) ?_
      refine ev_cst (As := [.ref qn, .int (nI (eg_pl tt o)), .int (nI k)]) (rest := []) ⟨hx, hb, hml, hown, hts⟩ (c_L_isKept l hI (i := (eg_pl tt o)) (k := k) (by omega) (by omega)) (va_cwS 3 hts gL_gone_L_isKept rfl rfl rfl (by decide +kernel) ⟨Nat.le_of_ble_eq_true rfl, Nat.le_of_ble_eq_true rfl⟩) hP hK rfl hl.1 (Nat.le_of_ble_eq_true rfl) dL_gone_59 ⟨Nat.le_of_ble_eq_true rfl, Nat.le_of_ble_eq_true rfl⟩ ?_
      refine eb_if_eq (tgt := 70) hx hb dL_gone_62 (by decide) (fun c_9 => ?_) (fun c_9 => ?_)
      ·
        refine lv_bipush (v := nI 121) hx hb dL_gone_70 (by decide) ?_
        have hdf : ev_df st k 12 (some o) = (121, st) := by rw [eg_df_told hI (by omega) (by omega) c_2 11]; simp only [eg_a1 hI (p := o) (w := 3) (by omega) (by omega) (by decide) c_2]; rw [if_pos (by omega), c_9]; rfl
        rw [hdf]
        exact em_int hx hb hr hlocks rfl ⟨_, _, _, hP, hI, by omega⟩ hS dL_gone_72
      ·
        refine lv_bipush (v := nI 84) hx hb dL_gone_65 (by decide) ?_
        refine lv_goto (tgt := 72) hx hb dL_gone_67 (by decide) ?_
        have hdf : ev_df st k 12 (some o) = (84, st) := by rw [eg_df_told hI (by omega) (by omega) c_2 11]; simp only [eg_a1 hI (p := o) (w := 3) (by omega) (by omega) (by decide) c_2]; rw [if_pos (by omega), c_9]; rfl
        rw [hdf]
        exact em_int hx hb hr hlocks rfl ⟨_, _, _, hP, hI, by omega⟩ hS dL_gone_72
theorem c_L_got (l : Launch) {D : va_G} {cI cO : ClassId} {qn : Nat} {tt : Nat → Nat} {cc : Nat → Option Nat} {st : ev_ST} {f : Nat → Int32} {od : Nat → Nat → Nat} {n : Nat} (hI : eg_I tt cc st f od n) {o k : Nat} (ho : o < 7) (hk : k < 20) : Met l yL_got wsL_got ({ frames := 4, cells := 0, slots := 0, locals := 92 }) (ev_Pc D cI cO (ev_N D cI qn f) [.ref qn, .int (nI o), .int (nI k)]) (ev_QV (some (.int (eg_go st k o)))) 0 0 ev_no := by
  by_cases h1 : o < 5
  · exact el_roomy (c_L_got_0 l hI h1 hk) (Nat.le_of_ble_eq_true rfl) (Nat.le_refl _) (Nat.le_refl _) (Nat.le_of_ble_eq_true rfl)
  · by_cases h2 : tt o < 5
    · exact el_roomy (c_L_got_1 l hI (by omega) ho h2 hk) (Nat.le_of_ble_eq_true rfl) (Nat.le_refl _) (Nat.le_refl _) (Nat.le_of_ble_eq_true rfl)
    · have := eg_ttlt hI (p := o) (by omega) ho
      exact c_L_got_2 l hI (by omega) ho (by omega) hk
theorem c_L_asked (l : Launch) {D : va_G} {cI cO : ClassId} {qn : Nat} {tt : Nat → Nat} {cc : Nat → Option Nat} {st : ev_ST} {f : Nat → Int32} {od : Nat → Nat → Nat} {n : Nat} (hI : eg_I tt cc st f od n) {o k : Nat} (ho : o < 7) (hk : k < 20) : Met l yL_asked wsL_asked ({ frames := 4, cells := 0, slots := 0, locals := 90 }) (ev_Pc D cI cO (ev_N D cI qn f) [.ref qn, .int (nI o), .int (nI k)]) (ev_QV (some (.int (nI (ev_af st k 30 (some o)))))) 0 0 ev_no := by
  by_cases h1 : o < 5
  · exact el_roomy (c_L_asked_0 l hI h1 hk) (Nat.le_of_ble_eq_true rfl) (Nat.le_refl _) (Nat.le_refl _) (Nat.le_of_ble_eq_true rfl)
  · by_cases h2 : tt o < 5
    · exact el_roomy (c_L_asked_1 l hI (by omega) ho h2 hk) (Nat.le_of_ble_eq_true rfl) (Nat.le_refl _) (Nat.le_refl _) (Nat.le_of_ble_eq_true rfl)
    · have := eg_ttlt hI (p := o) (by omega) ho
      exact c_L_asked_2 l hI (by omega) ho (by omega) hk
theorem c_L_wasSet (l : Launch) {D : va_G} {cI cO : ClassId} {qn : Nat} {tt : Nat → Nat} {cc : Nat → Option Nat} {st : ev_ST} {f : Nat → Int32} {od : Nat → Nat → Nat} {n : Nat} (hI : eg_I tt cc st f od n) {o k : Nat} (ho : o < 7) (hk : k < 20) {w : Nat} {v : Int32} (hw : w < 5) : Met l yL_wasSet wsL_wasSet ({ frames := 5, cells := 0, slots := 0, locals := 123 }) (ev_Pc D cI cO (ev_N D cI qn f) [.ref qn, .int (nI o), .int (nI k), .int v, .int (nI w)]) (ev_QM (some (.int (nI (ev_sf st k v w 30 (some o)).1))) (el_H D cI qn tt cc (ev_sf st k v w 30 (some o)).2 n) (el_A qn)) 0 0 (el_A qn) := by
  by_cases h1 : o < 5
  · exact el_roomy (c_L_wasSet_0 l hI h1 hk hw) (Nat.le_of_ble_eq_true rfl) (Nat.le_refl _) (Nat.le_refl _) (Nat.le_of_ble_eq_true rfl)
  · by_cases h2 : tt o < 5
    · exact el_roomy (c_L_wasSet_1 l hI (by omega) ho h2 hk hw) (Nat.le_of_ble_eq_true rfl) (Nat.le_refl _) (Nat.le_refl _) (Nat.le_of_ble_eq_true rfl)
    · have := eg_ttlt hI (p := o) (by omega) ho
      exact c_L_wasSet_2 l hI (by omega) ho (by omega) hk hw
theorem c_L_gone (l : Launch) {D : va_G} {cI cO : ClassId} {qn : Nat} {tt : Nat → Nat} {cc : Nat → Option Nat} {st : ev_ST} {f : Nat → Int32} {od : Nat → Nat → Nat} {n : Nat} (hI : eg_I tt cc st f od n) {o k : Nat} (ho : o < 7) (hk : k < 20) : Met l yL_gone wsL_gone ({ frames := 3, cells := 0, slots := 0, locals := 69 }) (ev_Pc D cI cO (ev_N D cI qn f) [.ref qn, .int (nI o), .int (nI k)]) (ev_QM (some (.int (nI (ev_df st k 12 (some o)).1))) (el_H D cI qn tt cc (ev_df st k 12 (some o)).2 n) (el_A qn)) 0 0 (el_A qn) := by
  by_cases h1 : o < 5
  · exact el_roomy (c_L_gone_0 l hI h1 hk) (Nat.le_of_ble_eq_true rfl) (Nat.le_refl _) (Nat.le_refl _) (Nat.le_of_ble_eq_true rfl)
  · by_cases h2 : tt o < 5
    · exact el_roomy (c_L_gone_1 l hI (by omega) ho h2 hk) (Nat.le_of_ble_eq_true rfl) (Nat.le_refl _) (Nat.le_refl _) (Nat.le_of_ble_eq_true rfl)
    · have := eg_ttlt hI (p := o) (by omega) ho
      exact c_L_gone_2 l hI (by omega) ho (by omega) hk
def el_x (L : Nat) (xs : Nat → Int32) (i : Nat) : Int32 := if i < L then xs i else nI 0
def el_sh (x y : Int32) : Int32 := (x.toUInt32 >>> (y.toUInt32 &&& Int32.toUInt32 31)).toInt32
def el_c1 (L : Nat) (xs : Nat → Int32) (i : Nat) : Int32 := 69069 * (el_x L xs i + nI 1009 * nI i) + nI 12345
def el_c2 (x : Int32) : Int32 := (x ^^^ el_sh x (nI 13)) * 1103515245
def el_c3 (x : Int32) : Int32 := x ^^^ el_sh x (nI 16)
def el_cell (L : Nat) (xs : Nat → Int32) (i : Nat) : Int32 := el_c3 (el_c2 (el_c1 L xs i))
def el_in (L : Nat) (xs : Nat → Int32) (i q : Nat) : Nat := (el_cell L xs i &&& 2147483647).toNatClampNeg % q
theorem el_mask (x : Int32) : ∃ a, a < 2 ^ 31 ∧ x &&& 2147483647 = nI a ∧ (x &&& 2147483647).toNatClampNeg = a := by
  have h := Jvm.Kit.i32_mask x 2147483647 (k := 31) (by decide) (by decide +kernel)
  have h0 : ¬ x &&& 2147483647 < 0 := by
    rw [Int32.lt_iff_toInt_lt, h, Int32.toInt_zero]
    omega
  obtain ⟨a, h1, h2⟩ := nI_of h0
  exact ⟨a, h1, h2, by rw [h2, nI_clamp h1]⟩
theorem el_in_lt (L : Nat) (xs : Nat → Int32) (i : Nat) {q : Nat} (hq : 0 < q) : el_in L xs i q < q := Nat.mod_lt _ hq
def el_PcS (D : va_G) (cI cO : ClassId) (bs L : Nat) (xs : Nat → Int32) (av : List Value) : Array Value → State → Prop := fun v U => v = av.toArray ∧ va_X bs L xs U U.heap
theorem el_blindS {D : va_G} {cI cO : ClassId} {bs L : Nat} {xs : Nat → Int32} {av : List Value} : FrameBlind (el_PcS D cI cO bs L xs av) := fun a U g mk q => ⟨q.1, va_X.moved (u := U) (U := U.calling g mk a) (Vm.Alike.refl U.vm) q.2⟩
theorem el_bodyS {l : Launch} {D : va_G} {cI cO : ClassId} {bs L : Nat} {xs : Nat → Int32} {y : MethodName} {ws ws' : List Cond} {rm : Room} {av : List Value} {Qc : Array Value → State → Outcome → State → Prop} {mc ms : Nat} {free : Addr → Prop} {cc : ByteArray} {maxL : Nat} {ret : Option FieldType}
    (hy : plainName y.cls = true) (hw : ws = Cond.code y cc maxL ret :: ws') (hlen : (lg_sl av).length ≤ maxL)
    (body : ∀ (p : Program) (e : Env) (s : State) (m : MethodId) (args : Array Value) (below : List Frame) (meth : Method) (c : Code), p.tables.exec = Jvm.exec → c.code = cc → meth.sig.returnType = ret → c.maxLocals = maxL → s.vm.findClass y.cls = some m.cls → (∀ w ∈ ws, w.before args s = true) → meth.locks = false → va_X bs L xs s s.heap → bs < s.heap.size → ∀ ls : Array Slot, lv_has ls maxL (lv_args 0 av) →
      W p l e rm s m args below meth c s.heap [] 0 0 (MQ below Qc args s mc ms free) (F0 m 0 ls [])) : Met l y ws rm (el_PcS D cI cO bs L xs av) Qc mc ms free := by
  refine Met.ofW (cc := cc) (maxL := maxL) (ret := ret) hy hw ?_
  intro p e s m args below meth c s₁ B hml hv
  obtain ⟨rfl, hX⟩ := hv
  rw [lg_entry_eq]
  refine body p e s m _ below meth c B.exec B.bytes B.returns hml (findClass_of_methodNamed B.named) (atoms_spec (ws := ws) B.pre) B.notSynchronized hX ?_ _ (lv_entry av (n := maxL) hlen)
  obtain ⟨scr, h1, -⟩ := hX
  exact (Array.getElem?_eq_some_iff.mp h1).1
section ELS
variable {p : Program} {l : Launch} {e : Env} {R : Room} {s : State} {m : MethodId} {args : Array Value} {below : List Frame} {meth : Method} {c : Code} {H : Heap} {locs : List Loc} {cells slots : Nat} {Q : State → Prop}
variable {cc : ByteArray} {pc : Nat} {ls : Array Slot} {rest : List Value} {D : va_G} {cI cO : ClassId} {Ts : List Cond} {own : String}
/-- a static call over the script, which changes nothing -/
theorem el_cs {y : MethodName} {bytes : ByteArray} {maxL nL n index bs L : Nat} {xs : Nat → Int32} {ret : Option FieldType} {ws : List Cond} {rm : Room} {v : Value} {As : List Value} (S : CallFix p m c cc nL s args Ts own)
    (hM : Met l y ws rm (el_PcS D cI cO bs L xs As) (ev_QV (some v)) 0 0 ev_no) (cw : CallB R s args own index y bytes maxL ret ws rm 0 0 n ∧ (Cond.static y).before args s = true) (hX : va_X bs L xs s H)
    (hn : As.length = n) (hsize : ls.size = nL) (hW : (rest.map fun v => v.category).sum ≤ 8) (hdg : decode cc pc = .ok (.invokestatic index, 3)) (hf : cells + 0 ≤ R.cells ∧ slots + 0 ≤ R.slots)
    (kk : W p l e R s m args below meth c H locs cells slots Q (F0 m (pc + 3) ls (v :: rest))) : W p l e R s m args below meth c H locs cells slots Q (F0 m pc ls (As.reverse ++ rest)) := by
  have hr' := W.runS (e := e) (below := below) (meth := meth) (g := F0 m pc ls (As.reverse ++ rest)) (locs := locs) (rest := rest) S hM cw ⟨el_blindS, fun U hU hW => ⟨rfl, by rw [hU]; exact va_X.moved hW.alike hX⟩⟩ rfl hn hsize rfl (lv_room hW) hdg hf
  intro T hT X
  obtain ⟨v', st₀, t, T', L', h0, X', hL, e1, ⟨hv, hh⟩, st⟩ := hr' T hT X
  cases hv
  obtain ⟨t2, a1, b1⟩ := kk T' (by rw [e1, hh, h0]) (Stand.forget X' (fun q h => (hL q h).elim))
  exact ⟨t2, st t2 a1, b1⟩
end ELS
set_option maxHeartbeats 4000000 in
set_option maxRecDepth 100000 in
theorem c_L_cell (l : Launch) {D : va_G} {cI cO : ClassId} {bs L i : Nat} {xs : Nat → Int32} (hL : L ≤ 260) (hi : i < 2147483648) : Met l yL_cell wsL_cell ({ frames := 0, cells := 0, slots := 0, locals := 0 }) (el_PcS D cI cO bs L xs [.ref bs, .int (nI i)]) (ev_QV (some (.int (el_cell L xs i)))) 0 0 ev_no := by
  refine el_bodyS (cc := cL_cell) (maxL := 3) (ret := (some .int)) (by decide) rfl (Nat.le_of_ble_eq_true rfl) ?_
  intro p e s m args below meth c hx hb hr hml hown hts hlocks hX hbs ls hl
  have hl : lv_has ls 3 [(0, .ref bs), (1, .int (nI i))] := hl
  have hS : va_S (fun _ => False) s.heap s.heap [] := va_S.rf
  refine lv_ldc (v := 69069) hx hb hown (hts (.constant RL 7 (69069)) (by decide +kernel)) dL_cell_0 ?_
  refine lv_iload_n hx hb dL_cell_2 rfl (lv_at hl 1 rfl) ?_
  refine lv_aload_n hx hb dL_cell_3 rfl (lv_at hl 0 rfl) ?_
  refine va_slen hx hb hX hbs (fun h => h) hS dL_cell_4 ?_
  have K : ∀ x : Int32, x = el_x L xs i → W p l e ({ frames := 0, cells := 0, slots := 0, locals := 0 }) s m args below meth c s.heap [] 0 0 (MQ below (ev_QV (some (.int (el_cell L xs i)))) args s 0 0 ev_no) (F0 m 15 ls [.int x, .int 69069]) := by
    intro x hx9
    subst hx9
    refine lv_sipush (v := nI 1009) hx hb dL_cell_15 (by decide) ?_
    refine lv_iload_n hx hb dL_cell_18 rfl (lv_at hl 1 rfl) ?_
    refine lv_imul hx hb dL_cell_19 ?_
    refine lv_iadd hx hb dL_cell_20 ?_
    refine lv_imul hx hb dL_cell_21 ?_
    refine lv_sipush (v := nI 12345) hx hb dL_cell_22 (by decide) ?_
    refine lv_iadd hx hb dL_cell_25 ?_
    refine lv_istore_n (lv' := [(2, .int (el_c1 L xs i)), (0, .ref bs), (1, .int (nI i))]) hx hb dL_cell_26 rfl hl (by decide) rfl (fun ls hl => ?_)
    refine lv_iload_n hx hb dL_cell_27 rfl (lv_at hl 0 rfl) ?_
    refine lv_iload_n hx hb dL_cell_28 rfl (lv_at hl 0 rfl) ?_
    refine lv_bipush (v := nI 13) hx hb dL_cell_29 (by decide) ?_
    refine lv_iushr (v := el_sh (el_c1 L xs i) (nI 13)) hx hb dL_cell_31 rfl ?_
    refine lv_ixor hx hb dL_cell_32 ?_
    refine lv_ldc (v := 1103515245) hx hb hown (hts (.constant RL 8 (1103515245)) (by decide +kernel)) dL_cell_33 ?_
    refine lv_imul hx hb dL_cell_35 ?_
    refine lv_istore_n (lv' := [(2, .int (el_c2 (el_c1 L xs i))), (0, .ref bs), (1, .int (nI i))]) hx hb dL_cell_36 rfl hl (by decide) rfl (fun ls hl => ?_)
    refine lv_iload_n hx hb dL_cell_37 rfl (lv_at hl 0 rfl) ?_
    refine lv_iload_n hx hb dL_cell_38 rfl (lv_at hl 0 rfl) ?_
    refine lv_bipush (v := nI 16) hx hb dL_cell_39 (by decide) ?_
    refine lv_iushr (v := el_sh (el_c2 (el_c1 L xs i)) (nI 16)) hx hb dL_cell_41 rfl ?_
    refine lv_ixor hx hb dL_cell_42 ?_
    exact er_int hx hb hr hlocks rfl dL_cell_43
  refine en_icmp_ge (y := L) (tgt := 14) hx hb (by omega) (by omega) dL_cell_5 (by decide) (fun h => ?_) (fun h => ?_)
  · refine lv_iconst (v := nI 0) hx hb dL_cell_14 (by decide) ?_
    exact K _ (if_neg (by omega)).symm
  · refine lv_aload_n hx hb dL_cell_8 rfl (lv_at hl 0 rfl) ?_
    refine lv_iload_n hx hb dL_cell_9 rfl (lv_at hl 1 rfl) ?_
    refine va_sld hx hb hX hbs (fun h => h) hS (vp_in_nI h (by omega)) dL_cell_10 ?_
    rw [nI_clamp (by omega)]
    refine lv_goto (tgt := 15) hx hb dL_cell_11 (by decide) ?_
    exact K _ (if_pos h).symm
set_option maxHeartbeats 4000000 in
set_option maxRecDepth 100000 in
theorem c_L_in (l : Launch) {D : va_G} {cI cO : ClassId} {bs L i q : Nat} {xs : Nat → Int32} (hL : L ≤ 260) (hi : i < 2147483648) (hq : 0 < q) (hq2 : q < 2147483648) : Met l yL_in wsL_in ({ frames := 1, cells := 0, slots := 0, locals := 22 }) (el_PcS D cI cO bs L xs [.ref bs, .int (nI i), .int (nI q)]) (ev_QV (some (.int (nI (el_in L xs i q))))) 0 0 ev_no := by
  refine el_bodyS (cc := cL_in) (maxL := 3) (ret := (some .int)) (by decide) rfl (Nat.le_of_ble_eq_true rfl) ?_
  intro p e s m args below meth c hx hb hr hml hown hts hlocks hX hbs ls hl
  have hl : lv_has ls 3 [(0, .ref bs), (1, .int (nI i)), (2, .int (nI q))] := hl
  refine lv_aload_n hx hb dL_in_0 rfl (lv_at hl 0 rfl) ?_
  refine lv_iload_n hx hb dL_in_1 rfl (lv_at hl 1 rfl) ?_
  refine el_cs (As := [.ref bs, .int (nI i)]) (rest := []) ⟨hx, hb, hml, hown, hts⟩ (c_L_cell l (D := D) (cI := cI) (cO := cO) (bs := bs) (L := L) (i := i) (xs := xs) hL hi) (va_cwS 2 hts gL_in_L_cell rfl rfl rfl (by decide +kernel) ⟨Nat.le_of_ble_eq_true rfl, Nat.le_of_ble_eq_true rfl⟩) hX rfl hl.1 (Nat.le_of_ble_eq_true rfl) dL_in_2 ⟨Nat.le_of_ble_eq_true rfl, Nat.le_of_ble_eq_true rfl⟩ ?_
  refine lv_ldc (v := 2147483647) hx hb hown (hts (.constant RL 80 (2147483647)) (by decide +kernel)) dL_in_5 ?_
  refine lv_iand hx hb dL_in_7 ?_
  obtain ⟨a, h1, h2, h3⟩ := el_mask (el_cell L xs i)
  rw [h2]
  refine lv_iload_n hx hb dL_in_8 rfl (lv_at hl 2 rfl) ?_
  refine en_irem hx hb (a % q) rfl h1 hq hq2 dL_in_9 ?_
  exact er_int hx hb hr hlocks (by unfold el_in; rw [h3]) dL_in_10
