/-! 21.loop: the law's 36 deeds -/
theorem ej_rc1 (st : ev_ST) (k : Nat) (v : Int32) (i : Nat) : (ev_rc st k v i).2.1 = st.1 := by
  unfold ev_rc
  split
  · rfl
  · split
    · split <;> rfl
    · rfl
theorem ej_sf1 (st : ev_ST) (k : Nat) (v : Int32) (i : Nat) : ∀ (m : Nat) (z : Option Nat), (ev_sf st k v i m z).2.1 = st.1 := by
  intro m
  induction m with
  | zero =>
    intro z
    cases z with
    | none => exact ej_rc1 _ _ _ _
    | some z => rfl
  | succ m ih =>
    intro z
    cases z with
    | none => exact ej_rc1 _ _ _ _
    | some z =>
      unfold ev_sf
      split
      · split
        · rfl
        · split
          · split
            · rfl
            · split
              · split <;> rfl
              · rfl
          · exact ih _
      · split
        · split
          · exact ej_rc1 _ _ _ _
          · rfl
        · exact ih _
/-- key 19 is nowhere -/
def ej_Z (st : ev_ST) : Prop := ∀ i, ev_rg (st.2 i) 19 = -1
theorem ej_Zup {st : ev_ST} (h : ej_Z st) (j : Nat) {t : ev_TH} (ht : ev_rg t 19 = -1) : ej_Z (ev_up st j t) := by
  intro i
  by_cases e : i = j
  · subst e
    rw [ev_up_s]
    exact ht
  · rw [ev_up_n st t e]
    exact h i
theorem ej_Zpi {t : ev_TH} {k : Nat} {v r : Int32} (hk : k ≠ 19) : ev_rg (ev_pi t k v r).2 19 = ev_rg t 19 := by
  have h1 : ∀ t0 : ev_TH, ev_rg (ev_wr t0 k v r) 19 = ev_rg t0 19 := fun t0 => eg_un _ _ (Ne.symm hk)
  unfold ev_pi
  split
  · split
    · exact h1 _
    · split
      · exact h1 _
      · rfl
  · split
    · rfl
    · exact h1 _
theorem ej_Zdn {st : ev_ST} {o k : Nat} {v r : Int32} (h : ej_Z st) (hk : k ≠ 19) : ej_Z (ev_dn st o k v r).2 := by
  unfold ev_dn
  split
  · exact h
  · exact ej_Zup h _ ((ej_Zpi hk).trans (h _))
theorem ej_Zrc {st : ev_ST} {i k : Nat} {v : Int32} (h : ej_Z st) (hk : k ≠ 19) : ej_Z (ev_rc st k v i).2 := by
  unfold ev_rc
  split
  · exact h
  · split
    · split
      · exact ej_Zup h _ ((ej_Zpi hk).trans (h _))
      · exact h
    · exact ej_Zup h _ ((ej_Zpi hk).trans (h _))
theorem ej_Zsf {st : ev_ST} {i k : Nat} {v : Int32} (h : ej_Z st) (hk : k ≠ 19) : ∀ (m : Nat) (z : Option Nat), ej_Z (ev_sf st k v i m z).2 := by
  intro m
  induction m with
  | zero =>
    intro z
    cases z with
    | none => exact ej_Zrc h hk
    | some z => exact h
  | succ m ih =>
    intro z
    cases z with
    | none => exact ej_Zrc h hk
    | some z =>
      unfold ev_sf
      split
      · split
        · exact h
        · split
          · split
            · exact h
            · split
              · split <;> exact h
              · exact h
          · exact ih _
      · split
        · split
          · exact ej_Zrc h hk
          · exact h
        · exact ih _
theorem ej_Ztk {t : ev_TH} {k : Nat} (hk : k ≠ 19) : ev_rg (ev_tk t k).2 19 = ev_rg t 19 := by
  unfold ev_tk
  split
  · split
    · exact eg_un _ _ (Ne.symm hk)
    · rfl
  · rfl
theorem ej_Zdf {st : ev_ST} {k : Nat} (h : ej_Z st) (hk : k ≠ 19) : ∀ (m : Nat) (z : Option Nat), ej_Z (ev_df st k m z).2 := by
  intro m
  induction m with
  | zero => intro z; exact h
  | succ m ih =>
    intro z
    cases z with
    | none => exact h
    | some z =>
      unfold ev_df
      split
      · split
        · exact h
        · split
          · split
            · exact h
            · split
              · split <;> exact h
              · exact h
          · exact ih _
      · exact ej_Zup h _ ((ej_Ztk hk).trans (h _))
theorem ej_Zcl {st : ev_ST} {o : Nat} (h : ej_Z st) : ej_Z (ev_cl st o).2 := by
  unfold ev_cl
  split
  · exact h
  · exact ej_Zup h _ (h _)
theorem ej_df1 (st : ev_ST) (k : Nat) : ∀ (m : Nat) (z : Option Nat), (ev_df st k m z).2.1 = st.1 := by
  intro m
  induction m with
  | zero => intro z; rfl
  | succ m ih =>
    intro z
    cases z with
    | none => rfl
    | some z =>
      unfold ev_df
      split
      · split
        · rfl
        · split
          · split
            · rfl
            · split
              · split <;> rfl
              · rfl
          · exact ih _
      · rfl
set_option maxHeartbeats 8000000 in
set_option maxRecDepth 100000 in
theorem ej_loop {p : Program} {l : Launch} {e : Env} {s : State} {m : MethodId} {args : Array Value} {below : List Frame} {meth : Method} {c : Code} {D : va_G} {cI cO : ClassId} {a0 t0 bs L : Nat} {xs : Nat → Int32} {b : Nat → Nat} {qn : Nat} {tt : Nat → Nat} {cc : Nat → Option Nat} {Q : State → Prop} {ad : Nat → Nat → Nat} (C0 : ej_C p l s m args c D cI cO a0 t0 bs L xs) (KF : ∀ (st : ev_ST) (f : Nat → Int32) (od : Nat → Nat → Nat) (n : Nat) (H : Heap) (locs : List Loc) (ls : Array Slot), eg_I tt cc st f od n → ej_Z st → ej_H s D cI cO b ad st qn f H locs → lv_has ls 15 [(0, .ref bs), (1, .ref (b 0)), (2, .ref qn)] → W p l e room_1 s m args below meth c H locs 2000 20000 Q (F0 m 628 ls [])) : ∀ (m9 k : Nat), k + m9 = 36 → ∀ (st : ev_ST) (f : Nat → Int32) (od : Nat → Nat → Nat) (n : Nat) (H : Heap) (locs : List Loc) (ls : Array Slot), eg_I tt cc st f od n → n ≤ k → ej_Z st → ej_H s D cI cO b ad st qn f H locs → lv_has ls 15 [(4, .int (nI k)), (3, .int (nI 1)), (0, .ref bs), (1, .ref (b 0)), (2, .ref qn)] → W p l e room_1 s m args below meth c H locs (100 + 45 * k) (3000 + 270 * k) Q (F0 m 177 ls []) := by
  obtain ⟨hx, hb, hml, hown, hts, hK, hO, hNs, hE, hES, hR, hX, hbs, hL, hfl⟩ := C0
  intro m9
  induction m9 with
  | zero =>
    intro k hk st f od n H locs ls hI hn9 hZ hH hl
    have hk9 : k = 36 := by omega
    subst hk9
    have hl : lv_has ls 15 [(4, .int (nI 36)), (3, .int (nI 1)), (0, .ref bs), (1, .ref (b 0)), (2, .ref qn)] := hl
    refine lv_iload hx hb dL_law_177 (lv_at hl 0 rfl) ?_
    refine lv_bipush (v := nI 36) hx hb dL_law_179 (by decide) ?_
    refine en_icmp_ge (tgt := 628) hx hb (by omega) (by omega) dL_law_181 (by decide) (fun c_1 => ?_) (fun c_1 => by exfalso; omega)
    refine W.widen (k := 2000) (n := 20000) (by omega) (by omega) ?_
    exact KF st f od n H locs ls hI hZ hH (lv_sub hl [2, 3, 4] rfl)
  | succ m9 ih =>
    intro k hk st f od n H locs ls hI hn9 hZ hH hl
    have K242 : ∀ (ob key : Nat), ob < 7 → key < 13 → ∀ ls : Array Slot, lv_has ls 15 [(6, .int (nI ob)), (5, .int (nI (20 + (6 * k)))), (4, .int (nI k)), (3, .int (nI 1)), (0, .ref bs), (1, .ref (b 0)), (2, .ref qn)] → W p l e room_1 s m args below meth c H locs (100 + 45 * k) (3000 + 270 * k) Q (F0 m 242 ls [.int (nI key)]) := by
      intro ob key hob hkey ls hl
      have ho7 : ob < st.1 := by rw [hI.1]; exact hob
      refine lv_istore (lv' := [(7, .int (nI key)), (6, .int (nI ob)), (5, .int (nI (20 + (6 * k)))), (4, .int (nI k)), (3, .int (nI 1)), (0, .ref bs), (1, .ref (b 0)), (2, .ref qn)]) hx hb dL_law_242 hl (by decide) rfl (fun ls hl => ?_)
      refine lv_aload_n hx hb dL_law_244 rfl (lv_at hl 5 rfl) ?_
      refine lv_iload hx hb dL_law_245 (lv_at hl 2 rfl) ?_
      refine lv_iconst (v := nI 4) hx hb dL_law_247 (by decide) ?_
      refine en_iadd hx hb (20 + (6 * k) + 4) rfl dL_law_248 ?_
      refine lv_iconst (v := nI 5) hx hb dL_law_249 (by decide) ?_
      refine el_cs (As := [.ref bs, .int (nI (20 + (6 * k) + 4)), .int (nI 5)]) (rest := []) ⟨hx, hb, hml, hown, hts⟩ (c_L_in l (D := D) (cI := cI) (cO := cO) (bs := bs) (L := L) (xs := xs) (i := 20 + (6 * k) + 4) (q := 5) hL (by omega) (by omega) (by omega)) (va_cwS 3 hts gL_law_L_in rfl rfl rfl (by decide +kernel) ⟨Nat.le_of_ble_eq_true rfl, Nat.le_of_ble_eq_true rfl⟩) (hH.X hX hbs) rfl hl.1 (Nat.le_of_ble_eq_true rfl) dL_law_250 ⟨(by show _ ≤ 600258; omega), (by show _ ≤ 7291722; omega)⟩ ?_
      obtain ⟨va, hva, eva⟩ : ∃ a, a < 5 ∧ el_in L xs (20 + (6 * k) + 4) 5 = a := ⟨_, el_in_lt L xs _ (by omega), rfl⟩
      rw [eva]
      refine lv_istore (lv' := [(8, .int (nI va)), (7, .int (nI key)), (6, .int (nI ob)), (5, .int (nI (20 + (6 * k)))), (4, .int (nI k)), (3, .int (nI 1)), (0, .ref bs), (1, .ref (b 0)), (2, .ref qn)]) hx hb dL_law_253 hl (by decide) rfl (fun ls hl => ?_)
      refine lv_aload_n hx hb dL_law_255 rfl (lv_at hl 8 rfl) ?_
      refine lv_iload hx hb dL_law_256 (lv_at hl 2 rfl) ?_
      have hpl : eg_pl tt ob < 5 := eg_pl_lt hI (by omega)
      refine ev_cst (As := [.ref qn, .int (nI ob)]) (rest := []) ⟨hx, hb, hml, hown, hts⟩ (c_L_plain l hI (o := ob) (by omega)) (va_cwS 2 hts gL_law_L_plain rfl rfl rfl (by decide +kernel) ⟨Nat.le_of_ble_eq_true rfl, Nat.le_of_ble_eq_true rfl⟩) hH.2.1 hK rfl hl.1 (Nat.le_of_ble_eq_true rfl) dL_law_258 ⟨(by show _ ≤ 600258; omega), (by show _ ≤ 7291722; omega)⟩ ?_
      refine lv_istore (lv' := [(9, .int (nI (eg_pl tt ob))), (8, .int (nI va)), (7, .int (nI key)), (6, .int (nI ob)), (5, .int (nI (20 + (6 * k)))), (4, .int (nI k)), (3, .int (nI 1)), (0, .ref bs), (1, .ref (b 0)), (2, .ref qn)]) hx hb dL_law_261 hl (by decide) rfl (fun ls hl => ?_)
      refine lv_aload_n hx hb dL_law_263 rfl (lv_at hl 7 rfl) ?_
      refine lv_iload hx hb dL_law_264 (lv_at hl 4 rfl) ?_
      refine lv_bipush (v := nI 12) hx hb dL_law_266 (by decide) ?_
      refine el_cs (As := [.ref bs, .int (nI (20 + (6 * k))), .int (nI 12)]) (rest := []) ⟨hx, hb, hml, hown, hts⟩ (c_L_in l (D := D) (cI := cI) (cO := cO) (bs := bs) (L := L) (xs := xs) (i := 20 + (6 * k)) (q := 12) hL (by omega) (by omega) (by omega)) (va_cwS 3 hts gL_law_L_in rfl rfl rfl (by decide +kernel) ⟨Nat.le_of_ble_eq_true rfl, Nat.le_of_ble_eq_true rfl⟩) (hH.X hX hbs) rfl hl.1 (Nat.le_of_ble_eq_true rfl) dL_law_268 ⟨(by show _ ≤ 600258; omega), (by show _ ≤ 7291722; omega)⟩ ?_
      obtain ⟨kd, hkd, ekd⟩ : ∃ a, a < 12 ∧ el_in L xs (20 + (6 * k)) 12 = a := ⟨_, el_in_lt L xs _ (by omega), rfl⟩
      rw [ekd]
      refine lv_istore (lv' := [(10, .int (nI kd)), (9, .int (nI (eg_pl tt ob))), (8, .int (nI va)), (7, .int (nI key)), (6, .int (nI ob)), (5, .int (nI (20 + (6 * k)))), (4, .int (nI k)), (3, .int (nI 1)), (0, .ref bs), (1, .ref (b 0)), (2, .ref qn)]) hx hb dL_law_271 hl (by decide) rfl (fun ls hl => ?_)
      have K568 : ∀ (st2 : ev_ST) (f2 : Nat → Int32) (od2 : Nat → Nat → Nat) (n2 : Nat) (H : Heap) (locs : List Loc) (ls : Array Slot), eg_I tt cc st2 f2 od2 n2 → n2 ≤ k + 1 → ej_Z st2 → ej_H s D cI cO b ad st2 qn f2 H locs → lv_has ls 15 [(3, .int (nI 1)), (0, .ref bs), (1, .ref (b 0)), (2, .ref qn), (4, .int (nI k)), (6, .int (nI ob)), (7, .int (nI key))] → W p l e room_1 s m args below meth c H locs (100 + 45 * k) (3000 + 270 * k) Q (F0 m 568 ls []) := by
        clear hI hH ho7 hn9 hZ hl
        intro st f od n H locs ls hI hn9 hZ hH hl
        have ho7 : ob < st.1 := by rw [hI.1]; exact hob
        refine lv_iload_n hx hb dL_law_568 rfl (lv_at hl 0 rfl) ?_
        refine en_if_eq (tgt := 620) hx hb (by omega) dL_law_569 (by decide) (fun c_2 => by exfalso; omega) (fun c_2 => ?_)
        refine lv_aload_n hx hb dL_law_572 rfl (lv_at hl 2 rfl) ?_
        refine lv_iload hx hb dL_law_573 (lv_at hl 5 rfl) ?_
        refine lv_iload hx hb dL_law_575 (lv_at hl 6 rfl) ?_
        refine ej_w0 (As := [.ref (b 0), .int (nI ob), .int (nI key)]) (rest := []) ⟨hx, hb, hml, hown, hts⟩ (w_get l hfl (A := ej_A s) (eg_hn hI) (eg_hTG hI) (eg_hCH hI) ho7 (k := key) (by omega)) (vx_cwSW 3 hts gL_law_L_get rfl rfl rfl (by decide +kernel) ⟨Nat.le_of_ble_eq_true rfl, Nat.le_of_ble_eq_true rfl⟩) hH hK hE rfl hl.1 (Nat.le_of_ble_eq_true rfl) dL_law_577 ⟨(by show _ ≤ 600258; omega), (by show _ ≤ 7291722; omega)⟩ (fun H locs hH => ?_)
        refine lv_aload_n hx hb dL_law_580 rfl (lv_at hl 3 rfl) ?_
        refine lv_iload hx hb dL_law_581 (lv_at hl 5 rfl) ?_
        refine lv_iload hx hb dL_law_583 (lv_at hl 6 rfl) ?_
        refine ev_cst (As := [.ref qn, .int (nI ob), .int (nI key)]) (rest := [.int (eg_go st key ob)]) ⟨hx, hb, hml, hown, hts⟩ (c_L_got l hI (o := ob) (k := key) (by omega) (by omega)) (va_cwS 3 hts gL_law_L_got rfl rfl rfl (by decide +kernel) ⟨Nat.le_of_ble_eq_true rfl, Nat.le_of_ble_eq_true rfl⟩) hH.2.1 hK rfl hl.1 (Nat.le_of_ble_eq_true rfl) dL_law_585 ⟨(by show _ ≤ 600258; omega), (by show _ ≤ 7291722; omega)⟩ ?_
        refine lv_icmp_ne (tgt := 620) hx hb dL_law_588 (by decide) (fun h => absurd rfl h) (fun _ => ?_)
        refine lv_aload_n hx hb dL_law_591 rfl (lv_at hl 2 rfl) ?_
        refine lv_iload hx hb dL_law_592 (lv_at hl 5 rfl) ?_
        refine lv_iload hx hb dL_law_594 (lv_at hl 6 rfl) ?_
        refine ej_w0 (As := [.ref (b 0), .int (nI ob), .int (nI key)]) (rest := []) ⟨hx, hb, hml, hown, hts⟩ (w_has l (A := ej_A s) (eg_hn hI) (eg_hTG hI) (eg_hCH hI) ho7 (k := key) (by omega)) (vx_cwSW 3 hts gL_law_L_has rfl rfl rfl (by decide +kernel) ⟨Nat.le_of_ble_eq_true rfl, Nat.le_of_ble_eq_true rfl⟩) hH hK hE rfl hl.1 (Nat.le_of_ble_eq_true rfl) dL_law_596 ⟨(by show _ ≤ 600258; omega), (by show _ ≤ 7291722; omega)⟩ (fun H locs hH => ?_)
        refine lv_aload_n hx hb dL_law_599 rfl (lv_at hl 3 rfl) ?_
        refine lv_iload hx hb dL_law_600 (lv_at hl 5 rfl) ?_
        refine lv_iload hx hb dL_law_602 (lv_at hl 6 rfl) ?_
        refine ev_cst (As := [.ref qn, .int (nI ob), .int (nI key)]) (rest := [.int (nI (ev_af st key 30 (some ob)))]) ⟨hx, hb, hml, hown, hts⟩ (c_L_asked l hI (o := ob) (k := key) (by omega) (by omega)) (va_cwS 3 hts gL_law_L_asked rfl rfl rfl (by decide +kernel) ⟨Nat.le_of_ble_eq_true rfl, Nat.le_of_ble_eq_true rfl⟩) hH.2.1 hK rfl hl.1 (Nat.le_of_ble_eq_true rfl) dL_law_604 ⟨(by show _ ≤ 600258; omega), (by show _ ≤ 7291722; omega)⟩ ?_
        refine lv_icmp_ne (tgt := 620) hx hb dL_law_607 (by decide) (fun h => absurd rfl h) (fun _ => ?_)
        refine lv_aload_n hx hb dL_law_610 rfl (lv_at hl 2 rfl) ?_
        refine lv_aload_n hx hb dL_law_611 rfl (lv_at hl 3 rfl) ?_
        refine lv_iload hx hb dL_law_612 (lv_at hl 5 rfl) ?_
        refine ej_keys (As := [.ref (b 0), .ref qn, .int (nI ob)]) (rest := []) ⟨hx, hb, hml, hown, hts⟩ (c_L_areKeys l hfl (A := ej_A s) hI (by omega) (o := ob) (by omega)) (va_cwS 3 hts gL_law_L_areKeys rfl rfl rfl (by decide +kernel) ⟨Nat.le_of_ble_eq_true rfl, Nat.le_of_ble_eq_true rfl⟩) hH hK hE rfl hl.1 (Nat.le_of_ble_eq_true rfl) dL_law_614 ⟨(by show _ ≤ 600258; omega), (by show _ ≤ 7291722; omega)⟩ (fun H locs hH => ?_)
        refine eb_if_ne (tgt := 622) hx hb dL_law_617 (by decide) (fun _ => ?_) (fun h => by cases h)
        refine lv_iinc (v := nI (k + 1)) (lv' := [(4, .int (nI (k + 1))), (3, .int (nI 1)), (0, .ref bs), (1, .ref (b 0)), (2, .ref qn), (6, .int (nI ob)), (7, .int (nI key))]) hx hb dL_law_622 hl (k := 4) rfl (ev_inc1 _) (by decide) rfl (fun ls hl => ?_)
        refine lv_goto (tgt := 177) hx hb dL_law_625 (by decide) ?_
        refine W.cs (cells' := 100 + 45 * (k + 1)) (slots' := 3000 + 270 * (k + 1)) (by omega) (by omega) ?_
        exact ih (k + 1) (by omega) st f od n H locs ls hI hn9 hZ hH (lv_sub hl [0, 1, 2, 3, 4] rfl)
      refine lv_iload hx hb dL_law_273 (lv_at hl 0 rfl) ?_
      refine lv_iconst (v := nI 3) hx hb dL_law_275 (by decide) ?_
      refine en_icmp_ge (tgt := 327) hx hb (by omega) (by omega) dL_law_276 (by decide) (fun c_4 => ?_) (fun c_4 => ?_)
      ·
        refine lv_iload hx hb dL_law_327 (lv_at hl 0 rfl) ?_
        refine lv_bipush (v := nI 6) hx hb dL_law_329 (by decide) ?_
        refine en_icmp_ge (tgt := 368) hx hb (by omega) (by omega) dL_law_331 (by decide) (fun c_5 => ?_) (fun c_5 => ?_)
        ·
          refine lv_iload hx hb dL_law_368 (lv_at hl 0 rfl) ?_
          refine lv_bipush (v := nI 6) hx hb dL_law_370 (by decide) ?_
          refine en_icmp_ne (tgt := 403) hx hb (by omega) (by omega) dL_law_372 (by decide) (fun c_6 => ?_) (fun c_6 => ?_)
          ·
            refine lv_iload hx hb dL_law_403 (lv_at hl 0 rfl) ?_
            refine lv_bipush (v := nI 7) hx hb dL_law_405 (by decide) ?_
            refine en_icmp_ne (tgt := 448) hx hb (by omega) (by omega) dL_law_407 (by decide) (fun c_7 => ?_) (fun c_7 => ?_)
            ·
              refine lv_iload hx hb dL_law_448 (lv_at hl 0 rfl) ?_
              refine lv_bipush (v := nI 8) hx hb dL_law_450 (by decide) ?_
              refine en_icmp_ne (tgt := 568) hx hb (by omega) (by omega) dL_law_452 (by decide) (fun c_8 => ?_) (fun c_8 => ?_)
              ·
                exact K568 _ _ _ _ H locs ls hI (by omega) hZ hH (lv_sub hl [7, 8, 9, 10, 6, 4, 3] rfl)
              ·
                refine lv_iconst (v := nI 5) hx hb dL_law_455 (by decide) ?_
                refine lv_aload_n hx hb dL_law_456 rfl (lv_at hl 8 rfl) ?_
                refine lv_iload hx hb dL_law_457 (lv_at hl 5 rfl) ?_
                refine lv_iconst (v := nI 1) hx hb dL_law_459 (by decide) ?_
                refine en_iadd hx hb (20 + (6 * k) + 1) rfl dL_law_460 ?_
                refine lv_iconst (v := nI 2) hx hb dL_law_461 (by decide) ?_
                refine el_cs (As := [.ref bs, .int (nI (20 + (6 * k) + 1)), .int (nI 2)]) (rest := [.int (nI 5)]) ⟨hx, hb, hml, hown, hts⟩ (c_L_in l (D := D) (cI := cI) (cO := cO) (bs := bs) (L := L) (xs := xs) (i := 20 + (6 * k) + 1) (q := 2) hL (by omega) (by omega) (by omega)) (va_cwS 3 hts gL_law_L_in rfl rfl rfl (by decide +kernel) ⟨Nat.le_of_ble_eq_true rfl, Nat.le_of_ble_eq_true rfl⟩) (hH.X hX hbs) rfl hl.1 (Nat.le_of_ble_eq_true rfl) dL_law_462 ⟨(by show _ ≤ 600258; omega), (by show _ ≤ 7291722; omega)⟩ ?_
                obtain ⟨px, hpx, epx⟩ : ∃ a, a < 2 ∧ el_in L xs (20 + (6 * k) + 1) 2 = a := ⟨_, el_in_lt L xs _ (by omega), rfl⟩
                rw [epx]
                refine en_iadd hx hb (5 + px) rfl dL_law_465 ?_
                obtain ⟨pr, hpr1, hpr2, epr⟩ : ∃ a, 5 ≤ a ∧ a < 7 ∧ 5 + px = a := ⟨_, by omega, by omega, rfl⟩
                rw [epr]
                refine lv_istore (lv' := [(11, .int (nI pr)), (10, .int (nI kd)), (9, .int (nI (eg_pl tt ob))), (8, .int (nI va)), (7, .int (nI key)), (6, .int (nI ob)), (5, .int (nI (20 + (6 * k)))), (4, .int (nI k)), (3, .int (nI 1)), (0, .ref bs), (1, .ref (b 0)), (2, .ref qn)]) hx hb dL_law_466 hl (by decide) rfl (fun ls hl => ?_)
                refine lv_aload_n hx hb dL_law_468 rfl (lv_at hl 9 rfl) ?_
                refine lv_iload hx hb dL_law_469 (lv_at hl 6 rfl) ?_
                refine lv_iconst (v := nI 5) hx hb dL_law_471 (by decide) ?_
                refine en_iadd hx hb (20 + (6 * k) + 5) rfl dL_law_472 ?_
                refine lv_iconst (v := nI 4) hx hb dL_law_473 (by decide) ?_
                refine el_cs (As := [.ref bs, .int (nI (20 + (6 * k) + 5)), .int (nI 4)]) (rest := []) ⟨hx, hb, hml, hown, hts⟩ (c_L_in l (D := D) (cI := cI) (cO := cO) (bs := bs) (L := L) (xs := xs) (i := 20 + (6 * k) + 5) (q := 4) hL (by omega) (by omega) (by omega)) (va_cwS 3 hts gL_law_L_in rfl rfl rfl (by decide +kernel) ⟨Nat.le_of_ble_eq_true rfl, Nat.le_of_ble_eq_true rfl⟩) (hH.X hX hbs) rfl hl.1 (Nat.le_of_ble_eq_true rfl) dL_law_474 ⟨(by show _ ≤ 600258; omega), (by show _ ≤ 7291722; omega)⟩ ?_
                obtain ⟨wh, hwh, ewh⟩ : ∃ a, a < 4 ∧ el_in L xs (20 + (6 * k) + 5) 4 = a := ⟨_, el_in_lt L xs _ (by omega), rfl⟩
                rw [ewh]
                refine lv_istore (lv' := [(12, .int (nI wh)), (11, .int (nI pr)), (10, .int (nI kd)), (9, .int (nI (eg_pl tt ob))), (8, .int (nI va)), (7, .int (nI key)), (6, .int (nI ob)), (5, .int (nI (20 + (6 * k)))), (4, .int (nI k)), (3, .int (nI 1)), (0, .ref bs), (1, .ref (b 0)), (2, .ref qn)]) hx hb dL_law_477 hl (by decide) rfl (fun ls hl => ?_)
                refine lv_aload_n hx hb dL_law_479 rfl (lv_at hl 12 rfl) ?_
                refine lv_bipush (v := nI 60) hx hb dL_law_480 (by decide) ?_
                refine lv_iconst (v := nI 4) hx hb dL_law_482 (by decide) ?_
                refine lv_iload hx hb dL_law_483 (lv_at hl 1 rfl) ?_
                refine lv_iconst (v := nI 5) hx hb dL_law_485 (by decide) ?_
                refine en_isub hx hb (pr - 5) (by omega) dL_law_486 ?_
                refine en_imul hx hb (4 * (pr - 5)) rfl dL_law_487 ?_
                refine en_iadd hx hb (60 + (4 * (pr - 5))) rfl dL_law_488 ?_
                refine lv_iload hx hb dL_law_489 (lv_at hl 0 rfl) ?_
                refine en_iadd hx hb (60 + (4 * (pr - 5)) + wh) rfl dL_law_491 ?_
                refine el_ald (f := f) hx hb hK hH.2.1 (60 + (4 * (pr - 5)) + wh) (by omega) dL_law_492 ?_
                refine en_eq (show f (60 + (4 * (pr - 5)) + wh) = ev_bi (ev_told (st.2 pr) wh) from eg_f60 hI (w := wh) hpr1 hpr2 (by omega)) ?_
                refine lv_istore (lv' := [(13, .int (ev_bi (ev_told (st.2 pr) wh))), (12, .int (nI wh)), (11, .int (nI pr)), (10, .int (nI kd)), (9, .int (nI (eg_pl tt ob))), (8, .int (nI va)), (7, .int (nI key)), (6, .int (nI ob)), (5, .int (nI (20 + (6 * k)))), (4, .int (nI k)), (3, .int (nI 1)), (0, .ref bs), (1, .ref (b 0)), (2, .ref qn)]) hx hb dL_law_493 hl (by decide) rfl (fun ls hl => ?_)
                refine lv_iload hx hb dL_law_495 (lv_at hl 1 rfl) ?_
                refine en_if_ne (tgt := 505) hx hb (by omega) dL_law_497 (by decide) (fun c_9 => ?_) (fun c_9 => ?_)
                ·
                  refine lv_iload hx hb dL_law_505 (lv_at hl 5 rfl) ?_
                  refine lv_iconst (v := nI 2) hx hb dL_law_507 (by decide) ?_
                  refine en_irem hx hb (va % 2) rfl (by omega) (by decide) (by decide) dL_law_508 ?_
                  obtain ⟨an, han1, han2, ean⟩ : ∃ a, a ≤ 9999 ∧ (0 < wh → a ≤ 1) ∧ va % 2 = a := ⟨_, by omega, fun _ => by omega, rfl⟩
                  rw [ean]
                  refine lv_istore (lv' := [(14, .int (nI an)), (13, .int (ev_bi (ev_told (st.2 pr) wh))), (12, .int (nI wh)), (11, .int (nI pr)), (10, .int (nI kd)), (9, .int (nI (eg_pl tt ob))), (8, .int (nI va)), (7, .int (nI key)), (6, .int (nI ob)), (5, .int (nI (20 + (6 * k)))), (4, .int (nI k)), (3, .int (nI 1)), (0, .ref bs), (1, .ref (b 0)), (2, .ref qn)]) hx hb dL_law_509 hl (by decide) rfl (fun ls hl => ?_)
                  refine lv_aload_n hx hb dL_law_511 rfl (lv_at hl 14 rfl) ?_
                  refine lv_bipush (v := nI 60) hx hb dL_law_512 (by decide) ?_
                  refine lv_iconst (v := nI 4) hx hb dL_law_514 (by decide) ?_
                  refine lv_iload hx hb dL_law_515 (lv_at hl 3 rfl) ?_
                  refine lv_iconst (v := nI 5) hx hb dL_law_517 (by decide) ?_
                  refine en_isub hx hb (pr - 5) (by omega) dL_law_518 ?_
                  refine en_imul hx hb (4 * (pr - 5)) rfl dL_law_519 ?_
                  refine en_iadd hx hb (60 + (4 * (pr - 5))) rfl dL_law_520 ?_
                  refine lv_iload hx hb dL_law_521 (lv_at hl 2 rfl) ?_
                  refine en_iadd hx hb (60 + (4 * (pr - 5)) + wh) rfl dL_law_523 ?_
                  refine lv_iconst (v := nI 1) hx hb dL_law_524 (by decide) ?_
                  refine ej_ast (f := f) (x := nI 1) hx hb hK hH (60 + (4 * (pr - 5)) + wh) (by omega) dL_law_525 (fun H locs hH => ?_)
                  refine lv_aload_n hx hb dL_law_526 rfl (lv_at hl 14 rfl) ?_
                  refine lv_bipush (v := nI 40) hx hb dL_law_527 (by decide) ?_
                  refine lv_iconst (v := nI 4) hx hb dL_law_529 (by decide) ?_
                  refine lv_iload hx hb dL_law_530 (lv_at hl 3 rfl) ?_
                  refine lv_iconst (v := nI 5) hx hb dL_law_532 (by decide) ?_
                  refine en_isub hx hb (pr - 5) (by omega) dL_law_533 ?_
                  refine en_imul hx hb (4 * (pr - 5)) rfl dL_law_534 ?_
                  refine en_iadd hx hb (40 + (4 * (pr - 5))) rfl dL_law_535 ?_
                  refine lv_iload hx hb dL_law_536 (lv_at hl 2 rfl) ?_
                  refine en_iadd hx hb (40 + (4 * (pr - 5)) + wh) rfl dL_law_538 ?_
                  refine lv_iload hx hb dL_law_539 (lv_at hl 0 rfl) ?_
                  refine ej_ast (f := (upd f (60 + (4 * (pr - 5)) + wh) (nI 1))) (x := nI an) hx hb hK hH (40 + (4 * (pr - 5)) + wh) (by omega) dL_law_541 (fun H locs hH => ?_)
                  refine lv_aload_n hx hb dL_law_542 rfl (lv_at hl 13 rfl) ?_
                  refine lv_iload hx hb dL_law_543 (lv_at hl 3 rfl) ?_
                  refine va_ldcS hx hb hown hR dL_law_545 ?_
                  refine lv_iload hx hb dL_law_547 (lv_at hl 2 rfl) ?_
                  refine es_cv (As := [.int (nI wh)]) (rest := [.int (nI pr), .ref (b 0)]) ⟨hx, hb, hml, hown, hts⟩ (c_J0_charAt l (A := ej_A s) (a0 := a0) (t0 := t0) (w := wh) (by omega)) (cwV 1 hts gL_law_J0_charAt_5068e rfl rfl rfl (by decide +kernel) ⟨Nat.le_of_ble_eq_true rfl, Nat.le_of_ble_eq_true rfl⟩) (hH.S hES) rfl hl.1 (Nat.le_of_ble_eq_true rfl) dL_law_549 ⟨(by show _ ≤ 600258; omega), (by show _ ≤ 7291722; omega)⟩ ?_
                  refine lv_iload hx hb dL_law_552 (lv_at hl 0 rfl) ?_
                  have hw4 : wh = 0 ∨ wh = 1 ∨ wh = 2 ∨ wh = 3 := by omega
                  rcases hw4 with rfl | rfl | rfl | rfl
                  ·
                    have hl : lv_has ls 15 [(14, .int (nI an)), (13, .int (ev_bi (ev_told (st.2 pr) 0))), (12, .int (nI 0)), (11, .int (nI pr)), (10, .int (nI kd)), (9, .int (nI (eg_pl tt ob))), (8, .int (nI va)), (7, .int (nI key)), (6, .int (nI ob)), (5, .int (nI (20 + (6 * k)))), (4, .int (nI k)), (3, .int (nI 1)), (0, .ref bs), (1, .ref (b 0)), (2, .ref qn)] := hl
                    refine ej_w1 (st' := ev_up st pr (ev_kA (st.2 pr) 0 (nI an))) (As := [.ref (b 0), .int (nI pr), .int (nI 103), .int (nI an)]) (rest := []) ⟨hx, hb, hml, hown, hts⟩ (w_tell_0 l hH.2.2.1 (eg_hn hI) (eg_hTG hI) (o := pr) (by rw [hI.1]; omega) (v := an) (by omega) (by rw [eg_tgq hI hpr1 hpr2]; rfl)) (vx_cwSW 4 hts gL_law_L_tell rfl rfl rfl (by decide +kernel) ⟨Nat.le_of_ble_eq_true rfl, Nat.le_of_ble_eq_true rfl⟩) hH hK rfl rfl hl.1 (Nat.le_of_ble_eq_true rfl) dL_law_554 ⟨(by show _ ≤ 600258; omega), (by show _ ≤ 7291722; omega)⟩ (fun H locs hH => ?_)
                    refine lv_iload hx hb dL_law_557 (lv_at hl 1 rfl) ?_
                    refine lv_icmp_ne (tgt := 566) hx hb dL_law_559 (by decide) (fun h => absurd rfl h) (fun _ => ?_)
                    refine lv_iconst (v := nI 1) hx hb dL_law_562 (by decide) ?_
                    refine lv_goto (tgt := 567) hx hb dL_law_563 (by decide) ?_
                    refine lv_istore_n (lv' := [(3, .int (nI 1)), (14, .int (nI an)), (13, .int (ev_bi (ev_told (st.2 pr) 0))), (12, .int (nI 0)), (11, .int (nI pr)), (10, .int (nI kd)), (9, .int (nI (eg_pl tt ob))), (8, .int (nI va)), (7, .int (nI key)), (6, .int (nI ob)), (5, .int (nI (20 + (6 * k)))), (4, .int (nI k)), (0, .ref bs), (1, .ref (b 0)), (2, .ref qn)]) hx hb dL_law_567 rfl hl (by decide) rfl (fun ls hl => ?_)
                    exact K568 _ _ _ _ H locs ls (eg_tell hI hpr1 hpr2 (w := 0) (by decide) han1 (fun _ => by omega)) (by omega) (ej_Zup hZ _ (hZ _)) hH (lv_sub hl [0, 12, 13, 14, 11, 9, 8] rfl)
                  ·
                    have hl : lv_has ls 15 [(14, .int (nI an)), (13, .int (ev_bi (ev_told (st.2 pr) 1))), (12, .int (nI 1)), (11, .int (nI pr)), (10, .int (nI kd)), (9, .int (nI (eg_pl tt ob))), (8, .int (nI va)), (7, .int (nI key)), (6, .int (nI ob)), (5, .int (nI (20 + (6 * k)))), (4, .int (nI k)), (3, .int (nI 1)), (0, .ref bs), (1, .ref (b 0)), (2, .ref qn)] := hl
                    refine ej_w1 (st' := ev_up st pr (ev_kA (st.2 pr) 1 (nI an))) (As := [.ref (b 0), .int (nI pr), .int (nI 104), .int (nI an)]) (rest := []) ⟨hx, hb, hml, hown, hts⟩ (w_tell_1 l hH.2.2.1 (eg_hn hI) (eg_hTG hI) (o := pr) (by rw [hI.1]; omega) (v := an) (by omega) (by rw [eg_tgq hI hpr1 hpr2]; rfl)) (vx_cwSW 4 hts gL_law_L_tell rfl rfl rfl (by decide +kernel) ⟨Nat.le_of_ble_eq_true rfl, Nat.le_of_ble_eq_true rfl⟩) hH hK rfl rfl hl.1 (Nat.le_of_ble_eq_true rfl) dL_law_554 ⟨(by show _ ≤ 600258; omega), (by show _ ≤ 7291722; omega)⟩ (fun H locs hH => ?_)
                    refine lv_iload hx hb dL_law_557 (lv_at hl 1 rfl) ?_
                    refine lv_icmp_ne (tgt := 566) hx hb dL_law_559 (by decide) (fun h => absurd rfl h) (fun _ => ?_)
                    refine lv_iconst (v := nI 1) hx hb dL_law_562 (by decide) ?_
                    refine lv_goto (tgt := 567) hx hb dL_law_563 (by decide) ?_
                    refine lv_istore_n (lv' := [(3, .int (nI 1)), (14, .int (nI an)), (13, .int (ev_bi (ev_told (st.2 pr) 1))), (12, .int (nI 1)), (11, .int (nI pr)), (10, .int (nI kd)), (9, .int (nI (eg_pl tt ob))), (8, .int (nI va)), (7, .int (nI key)), (6, .int (nI ob)), (5, .int (nI (20 + (6 * k)))), (4, .int (nI k)), (0, .ref bs), (1, .ref (b 0)), (2, .ref qn)]) hx hb dL_law_567 rfl hl (by decide) rfl (fun ls hl => ?_)
                    exact K568 _ _ _ _ H locs ls (eg_tell hI hpr1 hpr2 (w := 1) (by decide) han1 (fun _ => by omega)) (by omega) (ej_Zup hZ _ (hZ _)) hH (lv_sub hl [0, 12, 13, 14, 11, 9, 8] rfl)
                  ·
                    have hl : lv_has ls 15 [(14, .int (nI an)), (13, .int (ev_bi (ev_told (st.2 pr) 2))), (12, .int (nI 2)), (11, .int (nI pr)), (10, .int (nI kd)), (9, .int (nI (eg_pl tt ob))), (8, .int (nI va)), (7, .int (nI key)), (6, .int (nI ob)), (5, .int (nI (20 + (6 * k)))), (4, .int (nI k)), (3, .int (nI 1)), (0, .ref bs), (1, .ref (b 0)), (2, .ref qn)] := hl
                    refine ej_w1 (st' := ev_up st pr (ev_kA (st.2 pr) 2 (nI an))) (As := [.ref (b 0), .int (nI pr), .int (nI 115), .int (nI an)]) (rest := []) ⟨hx, hb, hml, hown, hts⟩ (w_tell_2 l hH.2.2.1 (eg_hn hI) (eg_hTG hI) (o := pr) (by rw [hI.1]; omega) (v := an) (by omega) (by rw [eg_tgq hI hpr1 hpr2]; rfl)) (vx_cwSW 4 hts gL_law_L_tell rfl rfl rfl (by decide +kernel) ⟨Nat.le_of_ble_eq_true rfl, Nat.le_of_ble_eq_true rfl⟩) hH hK rfl rfl hl.1 (Nat.le_of_ble_eq_true rfl) dL_law_554 ⟨(by show _ ≤ 600258; omega), (by show _ ≤ 7291722; omega)⟩ (fun H locs hH => ?_)
                    refine lv_iload hx hb dL_law_557 (lv_at hl 1 rfl) ?_
                    refine lv_icmp_ne (tgt := 566) hx hb dL_law_559 (by decide) (fun h => absurd rfl h) (fun _ => ?_)
                    refine lv_iconst (v := nI 1) hx hb dL_law_562 (by decide) ?_
                    refine lv_goto (tgt := 567) hx hb dL_law_563 (by decide) ?_
                    refine lv_istore_n (lv' := [(3, .int (nI 1)), (14, .int (nI an)), (13, .int (ev_bi (ev_told (st.2 pr) 2))), (12, .int (nI 2)), (11, .int (nI pr)), (10, .int (nI kd)), (9, .int (nI (eg_pl tt ob))), (8, .int (nI va)), (7, .int (nI key)), (6, .int (nI ob)), (5, .int (nI (20 + (6 * k)))), (4, .int (nI k)), (0, .ref bs), (1, .ref (b 0)), (2, .ref qn)]) hx hb dL_law_567 rfl hl (by decide) rfl (fun ls hl => ?_)
                    exact K568 _ _ _ _ H locs ls (eg_tell hI hpr1 hpr2 (w := 2) (by decide) han1 (fun _ => by omega)) (by omega) (ej_Zup hZ _ (hZ _)) hH (lv_sub hl [0, 12, 13, 14, 11, 9, 8] rfl)
                  ·
                    have hl : lv_has ls 15 [(14, .int (nI an)), (13, .int (ev_bi (ev_told (st.2 pr) 3))), (12, .int (nI 3)), (11, .int (nI pr)), (10, .int (nI kd)), (9, .int (nI (eg_pl tt ob))), (8, .int (nI va)), (7, .int (nI key)), (6, .int (nI ob)), (5, .int (nI (20 + (6 * k)))), (4, .int (nI k)), (3, .int (nI 1)), (0, .ref bs), (1, .ref (b 0)), (2, .ref qn)] := hl
                    refine ej_w1 (st' := ev_up st pr (ev_kA (st.2 pr) 3 (nI an))) (As := [.ref (b 0), .int (nI pr), .int (nI 100), .int (nI an)]) (rest := []) ⟨hx, hb, hml, hown, hts⟩ (w_tell_3 l hH.2.2.1 (eg_hn hI) (eg_hTG hI) (o := pr) (by rw [hI.1]; omega) (v := an) (by omega) (by rw [eg_tgq hI hpr1 hpr2]; rfl)) (vx_cwSW 4 hts gL_law_L_tell rfl rfl rfl (by decide +kernel) ⟨Nat.le_of_ble_eq_true rfl, Nat.le_of_ble_eq_true rfl⟩) hH hK rfl rfl hl.1 (Nat.le_of_ble_eq_true rfl) dL_law_554 ⟨(by show _ ≤ 600258; omega), (by show _ ≤ 7291722; omega)⟩ (fun H locs hH => ?_)
                    refine lv_iload hx hb dL_law_557 (lv_at hl 1 rfl) ?_
                    refine lv_icmp_ne (tgt := 566) hx hb dL_law_559 (by decide) (fun h => absurd rfl h) (fun _ => ?_)
                    refine lv_iconst (v := nI 1) hx hb dL_law_562 (by decide) ?_
                    refine lv_goto (tgt := 567) hx hb dL_law_563 (by decide) ?_
                    refine lv_istore_n (lv' := [(3, .int (nI 1)), (14, .int (nI an)), (13, .int (ev_bi (ev_told (st.2 pr) 3))), (12, .int (nI 3)), (11, .int (nI pr)), (10, .int (nI kd)), (9, .int (nI (eg_pl tt ob))), (8, .int (nI va)), (7, .int (nI key)), (6, .int (nI ob)), (5, .int (nI (20 + (6 * k)))), (4, .int (nI k)), (0, .ref bs), (1, .ref (b 0)), (2, .ref qn)]) hx hb dL_law_567 rfl hl (by decide) rfl (fun ls hl => ?_)
                    exact K568 _ _ _ _ H locs ls (eg_tell hI hpr1 hpr2 (w := 3) (by decide) han1 (fun _ => by omega)) (by omega) (ej_Zup hZ _ (hZ _)) hH (lv_sub hl [0, 12, 13, 14, 11, 9, 8] rfl)
                ·
                  refine lv_iload hx hb dL_law_500 (lv_at hl 5 rfl) ?_
                  refine lv_goto (tgt := 509) hx hb dL_law_502 (by decide) ?_
                  obtain ⟨an, han1, han2, ean⟩ : ∃ a, a ≤ 9999 ∧ (0 < wh → a ≤ 1) ∧ va = a := ⟨_, by omega, fun _ => by omega, rfl⟩
                  rw [ean]
                  refine lv_istore (lv' := [(14, .int (nI an)), (13, .int (ev_bi (ev_told (st.2 pr) wh))), (12, .int (nI wh)), (11, .int (nI pr)), (10, .int (nI kd)), (9, .int (nI (eg_pl tt ob))), (8, .int (nI va)), (7, .int (nI key)), (6, .int (nI ob)), (5, .int (nI (20 + (6 * k)))), (4, .int (nI k)), (3, .int (nI 1)), (0, .ref bs), (1, .ref (b 0)), (2, .ref qn)]) hx hb dL_law_509 hl (by decide) rfl (fun ls hl => ?_)
                  refine lv_aload_n hx hb dL_law_511 rfl (lv_at hl 14 rfl) ?_
                  refine lv_bipush (v := nI 60) hx hb dL_law_512 (by decide) ?_
                  refine lv_iconst (v := nI 4) hx hb dL_law_514 (by decide) ?_
                  refine lv_iload hx hb dL_law_515 (lv_at hl 3 rfl) ?_
                  refine lv_iconst (v := nI 5) hx hb dL_law_517 (by decide) ?_
                  refine en_isub hx hb (pr - 5) (by omega) dL_law_518 ?_
                  refine en_imul hx hb (4 * (pr - 5)) rfl dL_law_519 ?_
                  refine en_iadd hx hb (60 + (4 * (pr - 5))) rfl dL_law_520 ?_
                  refine lv_iload hx hb dL_law_521 (lv_at hl 2 rfl) ?_
                  refine en_iadd hx hb (60 + (4 * (pr - 5)) + wh) rfl dL_law_523 ?_
                  refine lv_iconst (v := nI 1) hx hb dL_law_524 (by decide) ?_
                  refine ej_ast (f := f) (x := nI 1) hx hb hK hH (60 + (4 * (pr - 5)) + wh) (by omega) dL_law_525 (fun H locs hH => ?_)
                  refine lv_aload_n hx hb dL_law_526 rfl (lv_at hl 14 rfl) ?_
                  refine lv_bipush (v := nI 40) hx hb dL_law_527 (by decide) ?_
                  refine lv_iconst (v := nI 4) hx hb dL_law_529 (by decide) ?_
                  refine lv_iload hx hb dL_law_530 (lv_at hl 3 rfl) ?_
                  refine lv_iconst (v := nI 5) hx hb dL_law_532 (by decide) ?_
                  refine en_isub hx hb (pr - 5) (by omega) dL_law_533 ?_
                  refine en_imul hx hb (4 * (pr - 5)) rfl dL_law_534 ?_
                  refine en_iadd hx hb (40 + (4 * (pr - 5))) rfl dL_law_535 ?_
                  refine lv_iload hx hb dL_law_536 (lv_at hl 2 rfl) ?_
                  refine en_iadd hx hb (40 + (4 * (pr - 5)) + wh) rfl dL_law_538 ?_
                  refine lv_iload hx hb dL_law_539 (lv_at hl 0 rfl) ?_
                  refine ej_ast (f := (upd f (60 + (4 * (pr - 5)) + wh) (nI 1))) (x := nI an) hx hb hK hH (40 + (4 * (pr - 5)) + wh) (by omega) dL_law_541 (fun H locs hH => ?_)
                  refine lv_aload_n hx hb dL_law_542 rfl (lv_at hl 13 rfl) ?_
                  refine lv_iload hx hb dL_law_543 (lv_at hl 3 rfl) ?_
                  refine va_ldcS hx hb hown hR dL_law_545 ?_
                  refine lv_iload hx hb dL_law_547 (lv_at hl 2 rfl) ?_
                  refine es_cv (As := [.int (nI wh)]) (rest := [.int (nI pr), .ref (b 0)]) ⟨hx, hb, hml, hown, hts⟩ (c_J0_charAt l (A := ej_A s) (a0 := a0) (t0 := t0) (w := wh) (by omega)) (cwV 1 hts gL_law_J0_charAt_5068e rfl rfl rfl (by decide +kernel) ⟨Nat.le_of_ble_eq_true rfl, Nat.le_of_ble_eq_true rfl⟩) (hH.S hES) rfl hl.1 (Nat.le_of_ble_eq_true rfl) dL_law_549 ⟨(by show _ ≤ 600258; omega), (by show _ ≤ 7291722; omega)⟩ ?_
                  refine lv_iload hx hb dL_law_552 (lv_at hl 0 rfl) ?_
                  have hw4 : wh = 0 ∨ wh = 1 ∨ wh = 2 ∨ wh = 3 := by omega
                  rcases hw4 with rfl | rfl | rfl | rfl
                  ·
                    have hl : lv_has ls 15 [(14, .int (nI an)), (13, .int (ev_bi (ev_told (st.2 pr) 0))), (12, .int (nI 0)), (11, .int (nI pr)), (10, .int (nI kd)), (9, .int (nI (eg_pl tt ob))), (8, .int (nI va)), (7, .int (nI key)), (6, .int (nI ob)), (5, .int (nI (20 + (6 * k)))), (4, .int (nI k)), (3, .int (nI 1)), (0, .ref bs), (1, .ref (b 0)), (2, .ref qn)] := hl
                    refine ej_w1 (st' := ev_up st pr (ev_kA (st.2 pr) 0 (nI an))) (As := [.ref (b 0), .int (nI pr), .int (nI 103), .int (nI an)]) (rest := []) ⟨hx, hb, hml, hown, hts⟩ (w_tell_0 l hH.2.2.1 (eg_hn hI) (eg_hTG hI) (o := pr) (by rw [hI.1]; omega) (v := an) (by omega) (by rw [eg_tgq hI hpr1 hpr2]; rfl)) (vx_cwSW 4 hts gL_law_L_tell rfl rfl rfl (by decide +kernel) ⟨Nat.le_of_ble_eq_true rfl, Nat.le_of_ble_eq_true rfl⟩) hH hK rfl rfl hl.1 (Nat.le_of_ble_eq_true rfl) dL_law_554 ⟨(by show _ ≤ 600258; omega), (by show _ ≤ 7291722; omega)⟩ (fun H locs hH => ?_)
                    refine lv_iload hx hb dL_law_557 (lv_at hl 1 rfl) ?_
                    refine lv_icmp_ne (tgt := 566) hx hb dL_law_559 (by decide) (fun h => absurd rfl h) (fun _ => ?_)
                    refine lv_iconst (v := nI 1) hx hb dL_law_562 (by decide) ?_
                    refine lv_goto (tgt := 567) hx hb dL_law_563 (by decide) ?_
                    refine lv_istore_n (lv' := [(3, .int (nI 1)), (14, .int (nI an)), (13, .int (ev_bi (ev_told (st.2 pr) 0))), (12, .int (nI 0)), (11, .int (nI pr)), (10, .int (nI kd)), (9, .int (nI (eg_pl tt ob))), (8, .int (nI va)), (7, .int (nI key)), (6, .int (nI ob)), (5, .int (nI (20 + (6 * k)))), (4, .int (nI k)), (0, .ref bs), (1, .ref (b 0)), (2, .ref qn)]) hx hb dL_law_567 rfl hl (by decide) rfl (fun ls hl => ?_)
                    exact K568 _ _ _ _ H locs ls (eg_tell hI hpr1 hpr2 (w := 0) (by decide) han1 (fun _ => by omega)) (by omega) (ej_Zup hZ _ (hZ _)) hH (lv_sub hl [0, 12, 13, 14, 11, 9, 8] rfl)
                  ·
                    have hl : lv_has ls 15 [(14, .int (nI an)), (13, .int (ev_bi (ev_told (st.2 pr) 1))), (12, .int (nI 1)), (11, .int (nI pr)), (10, .int (nI kd)), (9, .int (nI (eg_pl tt ob))), (8, .int (nI va)), (7, .int (nI key)), (6, .int (nI ob)), (5, .int (nI (20 + (6 * k)))), (4, .int (nI k)), (3, .int (nI 1)), (0, .ref bs), (1, .ref (b 0)), (2, .ref qn)] := hl
                    refine ej_w1 (st' := ev_up st pr (ev_kA (st.2 pr) 1 (nI an))) (As := [.ref (b 0), .int (nI pr), .int (nI 104), .int (nI an)]) (rest := []) ⟨hx, hb, hml, hown, hts⟩ (w_tell_1 l hH.2.2.1 (eg_hn hI) (eg_hTG hI) (o := pr) (by rw [hI.1]; omega) (v := an) (by omega) (by rw [eg_tgq hI hpr1 hpr2]; rfl)) (vx_cwSW 4 hts gL_law_L_tell rfl rfl rfl (by decide +kernel) ⟨Nat.le_of_ble_eq_true rfl, Nat.le_of_ble_eq_true rfl⟩) hH hK rfl rfl hl.1 (Nat.le_of_ble_eq_true rfl) dL_law_554 ⟨(by show _ ≤ 600258; omega), (by show _ ≤ 7291722; omega)⟩ (fun H locs hH => ?_)
                    refine lv_iload hx hb dL_law_557 (lv_at hl 1 rfl) ?_
                    refine lv_icmp_ne (tgt := 566) hx hb dL_law_559 (by decide) (fun h => absurd rfl h) (fun _ => ?_)
                    refine lv_iconst (v := nI 1) hx hb dL_law_562 (by decide) ?_
                    refine lv_goto (tgt := 567) hx hb dL_law_563 (by decide) ?_
                    refine lv_istore_n (lv' := [(3, .int (nI 1)), (14, .int (nI an)), (13, .int (ev_bi (ev_told (st.2 pr) 1))), (12, .int (nI 1)), (11, .int (nI pr)), (10, .int (nI kd)), (9, .int (nI (eg_pl tt ob))), (8, .int (nI va)), (7, .int (nI key)), (6, .int (nI ob)), (5, .int (nI (20 + (6 * k)))), (4, .int (nI k)), (0, .ref bs), (1, .ref (b 0)), (2, .ref qn)]) hx hb dL_law_567 rfl hl (by decide) rfl (fun ls hl => ?_)
                    exact K568 _ _ _ _ H locs ls (eg_tell hI hpr1 hpr2 (w := 1) (by decide) han1 (fun _ => by omega)) (by omega) (ej_Zup hZ _ (hZ _)) hH (lv_sub hl [0, 12, 13, 14, 11, 9, 8] rfl)
                  ·
                    have hl : lv_has ls 15 [(14, .int (nI an)), (13, .int (ev_bi (ev_told (st.2 pr) 2))), (12, .int (nI 2)), (11, .int (nI pr)), (10, .int (nI kd)), (9, .int (nI (eg_pl tt ob))), (8, .int (nI va)), (7, .int (nI key)), (6, .int (nI ob)), (5, .int (nI (20 + (6 * k)))), (4, .int (nI k)), (3, .int (nI 1)), (0, .ref bs), (1, .ref (b 0)), (2, .ref qn)] := hl
                    refine ej_w1 (st' := ev_up st pr (ev_kA (st.2 pr) 2 (nI an))) (As := [.ref (b 0), .int (nI pr), .int (nI 115), .int (nI an)]) (rest := []) ⟨hx, hb, hml, hown, hts⟩ (w_tell_2 l hH.2.2.1 (eg_hn hI) (eg_hTG hI) (o := pr) (by rw [hI.1]; omega) (v := an) (by omega) (by rw [eg_tgq hI hpr1 hpr2]; rfl)) (vx_cwSW 4 hts gL_law_L_tell rfl rfl rfl (by decide +kernel) ⟨Nat.le_of_ble_eq_true rfl, Nat.le_of_ble_eq_true rfl⟩) hH hK rfl rfl hl.1 (Nat.le_of_ble_eq_true rfl) dL_law_554 ⟨(by show _ ≤ 600258; omega), (by show _ ≤ 7291722; omega)⟩ (fun H locs hH => ?_)
                    refine lv_iload hx hb dL_law_557 (lv_at hl 1 rfl) ?_
                    refine lv_icmp_ne (tgt := 566) hx hb dL_law_559 (by decide) (fun h => absurd rfl h) (fun _ => ?_)
                    refine lv_iconst (v := nI 1) hx hb dL_law_562 (by decide) ?_
                    refine lv_goto (tgt := 567) hx hb dL_law_563 (by decide) ?_
                    refine lv_istore_n (lv' := [(3, .int (nI 1)), (14, .int (nI an)), (13, .int (ev_bi (ev_told (st.2 pr) 2))), (12, .int (nI 2)), (11, .int (nI pr)), (10, .int (nI kd)), (9, .int (nI (eg_pl tt ob))), (8, .int (nI va)), (7, .int (nI key)), (6, .int (nI ob)), (5, .int (nI (20 + (6 * k)))), (4, .int (nI k)), (0, .ref bs), (1, .ref (b 0)), (2, .ref qn)]) hx hb dL_law_567 rfl hl (by decide) rfl (fun ls hl => ?_)
                    exact K568 _ _ _ _ H locs ls (eg_tell hI hpr1 hpr2 (w := 2) (by decide) han1 (fun _ => by omega)) (by omega) (ej_Zup hZ _ (hZ _)) hH (lv_sub hl [0, 12, 13, 14, 11, 9, 8] rfl)
                  ·
                    have hl : lv_has ls 15 [(14, .int (nI an)), (13, .int (ev_bi (ev_told (st.2 pr) 3))), (12, .int (nI 3)), (11, .int (nI pr)), (10, .int (nI kd)), (9, .int (nI (eg_pl tt ob))), (8, .int (nI va)), (7, .int (nI key)), (6, .int (nI ob)), (5, .int (nI (20 + (6 * k)))), (4, .int (nI k)), (3, .int (nI 1)), (0, .ref bs), (1, .ref (b 0)), (2, .ref qn)] := hl
                    refine ej_w1 (st' := ev_up st pr (ev_kA (st.2 pr) 3 (nI an))) (As := [.ref (b 0), .int (nI pr), .int (nI 100), .int (nI an)]) (rest := []) ⟨hx, hb, hml, hown, hts⟩ (w_tell_3 l hH.2.2.1 (eg_hn hI) (eg_hTG hI) (o := pr) (by rw [hI.1]; omega) (v := an) (by omega) (by rw [eg_tgq hI hpr1 hpr2]; rfl)) (vx_cwSW 4 hts gL_law_L_tell rfl rfl rfl (by decide +kernel) ⟨Nat.le_of_ble_eq_true rfl, Nat.le_of_ble_eq_true rfl⟩) hH hK rfl rfl hl.1 (Nat.le_of_ble_eq_true rfl) dL_law_554 ⟨(by show _ ≤ 600258; omega), (by show _ ≤ 7291722; omega)⟩ (fun H locs hH => ?_)
                    refine lv_iload hx hb dL_law_557 (lv_at hl 1 rfl) ?_
                    refine lv_icmp_ne (tgt := 566) hx hb dL_law_559 (by decide) (fun h => absurd rfl h) (fun _ => ?_)
                    refine lv_iconst (v := nI 1) hx hb dL_law_562 (by decide) ?_
                    refine lv_goto (tgt := 567) hx hb dL_law_563 (by decide) ?_
                    refine lv_istore_n (lv' := [(3, .int (nI 1)), (14, .int (nI an)), (13, .int (ev_bi (ev_told (st.2 pr) 3))), (12, .int (nI 3)), (11, .int (nI pr)), (10, .int (nI kd)), (9, .int (nI (eg_pl tt ob))), (8, .int (nI va)), (7, .int (nI key)), (6, .int (nI ob)), (5, .int (nI (20 + (6 * k)))), (4, .int (nI k)), (0, .ref bs), (1, .ref (b 0)), (2, .ref qn)]) hx hb dL_law_567 rfl hl (by decide) rfl (fun ls hl => ?_)
                    exact K568 _ _ _ _ H locs ls (eg_tell hI hpr1 hpr2 (w := 3) (by decide) han1 (fun _ => by omega)) (by omega) (ej_Zup hZ _ (hZ _)) hH (lv_sub hl [0, 12, 13, 14, 11, 9, 8] rfl)
            ·
              refine lv_aload_n hx hb dL_law_410 rfl (lv_at hl 8 rfl) ?_
              refine lv_iload hx hb dL_law_411 (lv_at hl 5 rfl) ?_
              refine lv_iconst (v := nI 5) hx hb dL_law_413 (by decide) ?_
              refine en_iadd hx hb (20 + (6 * k) + 5) rfl dL_law_414 ?_
              refine lv_bipush (v := nI 6) hx hb dL_law_415 (by decide) ?_
              refine el_cs (As := [.ref bs, .int (nI (20 + (6 * k) + 5)), .int (nI 6)]) (rest := []) ⟨hx, hb, hml, hown, hts⟩ (c_L_in l (D := D) (cI := cI) (cO := cO) (bs := bs) (L := L) (xs := xs) (i := 20 + (6 * k) + 5) (q := 6) hL (by omega) (by omega) (by omega)) (va_cwS 3 hts gL_law_L_in rfl rfl rfl (by decide +kernel) ⟨Nat.le_of_ble_eq_true rfl, Nat.le_of_ble_eq_true rfl⟩) (hH.X hX hbs) rfl hl.1 (Nat.le_of_ble_eq_true rfl) dL_law_417 ⟨(by show _ ≤ 600258; omega), (by show _ ≤ 7291722; omega)⟩ ?_
              obtain ⟨cl, hcl, ecl⟩ : ∃ a, a < 6 ∧ el_in L xs (20 + (6 * k) + 5) 6 = a := ⟨_, el_in_lt L xs _ (by omega), rfl⟩
              rw [ecl]
              refine en_if_ne (tgt := 448) hx hb (by omega) dL_law_420 (by decide) (fun c_10 => ?_) (fun c_10 => ?_)
              ·
                refine lv_iload hx hb dL_law_448 (lv_at hl 0 rfl) ?_
                refine lv_bipush (v := nI 8) hx hb dL_law_450 (by decide) ?_
                refine en_icmp_ne (tgt := 568) hx hb (by omega) (by omega) dL_law_452 (by decide) (fun c_11 => ?_) (fun c_11 => by exfalso; omega)
                exact K568 _ _ _ _ H locs ls hI (by omega) hZ hH (lv_sub hl [7, 8, 9, 10, 6, 4, 3] rfl)
              ·
                refine lv_aload_n hx hb dL_law_423 rfl (lv_at hl 10 rfl) ?_
                refine lv_iload hx hb dL_law_424 (lv_at hl 1 rfl) ?_
                refine lv_iconst (v := nI 1) hx hb dL_law_426 (by decide) ?_
                refine ej_ast (f := f) (x := nI 1) hx hb hK hH ((eg_pl tt ob)) (by omega) dL_law_427 (fun H locs hH => ?_)
                refine lv_aload_n hx hb dL_law_428 rfl (lv_at hl 9 rfl) ?_
                refine lv_iload hx hb dL_law_429 (lv_at hl 4 rfl) ?_
                refine ej_w1 (st' := (ev_cl st ob).2) (As := [.ref (b 0), .int (nI ob)]) (rest := []) ⟨hx, hb, hml, hown, hts⟩ (w_close l hH.2.2.1 (eg_hn hI) (eg_hTG hI) ho7) (vx_cwSW 2 hts gL_law_L_closeObject rfl rfl rfl (by decide +kernel) ⟨Nat.le_of_ble_eq_true rfl, Nat.le_of_ble_eq_true rfl⟩) hH hK (by rw [eg_cl hI (by omega)] <;> rfl) rfl hl.1 (Nat.le_of_ble_eq_true rfl) dL_law_431 ⟨(by show _ ≤ 600258; omega), (by show _ ≤ 7291722; omega)⟩ (fun H locs hH => ?_)
                refine en_eq (congrArg nI (show (ev_cl st ob).1 = 121 from by rw [eg_cl hI (by omega)])) ?_
                refine lv_bipush (v := nI 121) hx hb dL_law_434 (by decide) ?_
                refine lv_icmp_ne (tgt := 443) hx hb dL_law_436 (by decide) (fun h => absurd rfl h) (fun _ => ?_)
                refine lv_iconst (v := nI 1) hx hb dL_law_439 (by decide) ?_
                refine lv_goto (tgt := 444) hx hb dL_law_440 (by decide) ?_
                refine lv_istore_n (lv' := [(3, .int (nI 1)), (10, .int (nI kd)), (9, .int (nI (eg_pl tt ob))), (8, .int (nI va)), (7, .int (nI key)), (6, .int (nI ob)), (5, .int (nI (20 + (6 * k)))), (4, .int (nI k)), (0, .ref bs), (1, .ref (b 0)), (2, .ref qn)]) hx hb dL_law_444 rfl hl (by decide) rfl (fun ls hl => ?_)
                refine lv_goto (tgt := 568) hx hb dL_law_445 (by decide) ?_
                exact K568 _ _ _ _ H locs ls (by rw [eg_cl hI (by omega)]; exact eg_close hI (by omega)) (by omega) (ej_Zcl hZ) hH (lv_sub hl [0, 8, 9, 10, 7, 5, 4] rfl)
          ·
            refine lv_aload_n hx hb dL_law_375 rfl (lv_at hl 9 rfl) ?_
            refine lv_iload hx hb dL_law_376 (lv_at hl 4 rfl) ?_
            refine lv_iload hx hb dL_law_378 (lv_at hl 3 rfl) ?_
            refine ej_w1 (st' := (ev_df st key 12 (some ob)).2) (As := [.ref (b 0), .int (nI ob), .int (nI key)]) (rest := []) ⟨hx, hb, hml, hown, hts⟩ (w_delete l hH.2.2.1 (eg_hn hI) (eg_hTG hI) ho7 (k := key) (by omega) (eg_hKC hI)) (vx_cwSW 3 hts gL_law_L_delete rfl rfl rfl (by decide +kernel) ⟨Nat.le_of_ble_eq_true rfl, Nat.le_of_ble_eq_true rfl⟩) hH hK (ej_df1 st _ 12 _).symm rfl hl.1 (Nat.le_of_ble_eq_true rfl) dL_law_380 ⟨(by show _ ≤ 600258; omega), (by show _ ≤ 7291722; omega)⟩ (fun H locs hH => ?_)
            refine lv_aload_n hx hb dL_law_383 rfl (lv_at hl 10 rfl) ?_
            refine lv_iload hx hb dL_law_384 (lv_at hl 4 rfl) ?_
            refine lv_iload hx hb dL_law_386 (lv_at hl 3 rfl) ?_
            refine ej_n (As := [.ref qn, .int (nI ob), .int (nI key)]) (rest := [.int (nI ((ev_df st key 12 (some ob)).1))]) ⟨hx, hb, hml, hown, hts⟩ (c_L_gone l hI (o := ob) (k := key) (by omega) (by omega)) (va_cwS 3 hts gL_law_L_gone rfl rfl rfl (by decide +kernel) ⟨Nat.le_of_ble_eq_true rfl, Nat.le_of_ble_eq_true rfl⟩) hH hK rfl hl.1 (Nat.le_of_ble_eq_true rfl) dL_law_388 ⟨(by show _ ≤ 600258; omega), (by show _ ≤ 7291722; omega)⟩ (fun f1 od1 n1 H locs hH hI1 hle1 => ?_)
            refine lv_icmp_ne (tgt := 398) hx hb dL_law_391 (by decide) (fun h => absurd rfl h) (fun _ => ?_)
            refine lv_iconst (v := nI 1) hx hb dL_law_394 (by decide) ?_
            refine lv_goto (tgt := 399) hx hb dL_law_395 (by decide) ?_
            refine lv_istore_n (lv' := [(3, .int (nI 1)), (10, .int (nI kd)), (9, .int (nI (eg_pl tt ob))), (8, .int (nI va)), (7, .int (nI key)), (6, .int (nI ob)), (5, .int (nI (20 + (6 * k)))), (4, .int (nI k)), (0, .ref bs), (1, .ref (b 0)), (2, .ref qn)]) hx hb dL_law_399 rfl hl (by decide) rfl (fun ls hl => ?_)
            refine lv_goto (tgt := 568) hx hb dL_law_400 (by decide) ?_
            exact K568 _ _ _ _ H locs ls hI1 (by omega) (ej_Zdf hZ (by omega) _ _) hH (lv_sub hl [0, 8, 9, 10, 7, 5, 4] rfl)
        ·
          refine lv_aload_n hx hb dL_law_334 rfl (lv_at hl 9 rfl) ?_
          refine lv_iload hx hb dL_law_335 (lv_at hl 4 rfl) ?_
          refine lv_iload hx hb dL_law_337 (lv_at hl 3 rfl) ?_
          refine lv_iload hx hb dL_law_339 (lv_at hl 2 rfl) ?_
          refine ej_w1 (st' := (ev_sf st key (nI va) ob 30 (some ob)).2) (As := [.ref (b 0), .int (nI ob), .int (nI key), .int (nI va)]) (rest := []) ⟨hx, hb, hml, hown, hts⟩ (w_set l hH.2.2.1 (eg_hn hI) (eg_hTG hI) (eg_hCH hI) ho7 (k := key) (v := va) (by omega) (by omega) (eg_hKP hI (by omega))) (vx_cwSW 4 hts gL_law_L_set rfl rfl rfl (by decide +kernel) ⟨Nat.le_of_ble_eq_true rfl, Nat.le_of_ble_eq_true rfl⟩) hH hK (ej_sf1 st _ _ _ 30 _).symm rfl hl.1 (Nat.le_of_ble_eq_true rfl) dL_law_341 ⟨(by show _ ≤ 600258; omega), (by show _ ≤ 7291722; omega)⟩ (fun H locs hH => ?_)
          refine en_eq (congrArg nI (show (ev_sf st key (nI va) ob 30 (some ob)).1 = (ev_sf st key (nI va) (eg_pl tt ob) 30 (some ob)).1 from by rw [eg_sf_pl hI (by omega)])) ?_
          refine lv_aload_n hx hb dL_law_344 rfl (lv_at hl 10 rfl) ?_
          refine lv_iload hx hb dL_law_345 (lv_at hl 4 rfl) ?_
          refine lv_iload hx hb dL_law_347 (lv_at hl 3 rfl) ?_
          refine lv_iload hx hb dL_law_349 (lv_at hl 2 rfl) ?_
          refine lv_iload hx hb dL_law_351 (lv_at hl 1 rfl) ?_
          refine ej_n (As := [.ref qn, .int (nI ob), .int (nI key), .int (nI va), .int (nI (eg_pl tt ob))]) (rest := [.int (nI ((ev_sf st key (nI va) (eg_pl tt ob) 30 (some ob)).1))]) ⟨hx, hb, hml, hown, hts⟩ (c_L_wasSet l hI (o := ob) (k := key) (by omega) (by omega) (w := (eg_pl tt ob)) (v := nI va) (by omega)) (va_cwS 5 hts gL_law_L_wasSet rfl rfl rfl (by decide +kernel) ⟨Nat.le_of_ble_eq_true rfl, Nat.le_of_ble_eq_true rfl⟩) hH hK rfl hl.1 (Nat.le_of_ble_eq_true rfl) dL_law_353 ⟨(by show _ ≤ 600258; omega), (by show _ ≤ 7291722; omega)⟩ (fun f1 od1 n1 H locs hH hI1 hle1 => ?_)
          refine lv_icmp_ne (tgt := 363) hx hb dL_law_356 (by decide) (fun h => absurd rfl h) (fun _ => ?_)
          refine lv_iconst (v := nI 1) hx hb dL_law_359 (by decide) ?_
          refine lv_goto (tgt := 364) hx hb dL_law_360 (by decide) ?_
          refine lv_istore_n (lv' := [(3, .int (nI 1)), (10, .int (nI kd)), (9, .int (nI (eg_pl tt ob))), (8, .int (nI va)), (7, .int (nI key)), (6, .int (nI ob)), (5, .int (nI (20 + (6 * k)))), (4, .int (nI k)), (0, .ref bs), (1, .ref (b 0)), (2, .ref qn)]) hx hb dL_law_364 rfl hl (by decide) rfl (fun ls hl => ?_)
          refine lv_goto (tgt := 568) hx hb dL_law_365 (by decide) ?_
          exact K568 _ _ _ _ H locs ls (by rw [eg_sf_pl hI (by omega)]; exact hI1) (by omega) (ej_Zsf hZ (by omega) _ _) hH (lv_sub hl [0, 8, 9, 10, 7, 5, 4] rfl)
      ·
        refine lv_aload_n hx hb dL_law_279 rfl (lv_at hl 8 rfl) ?_
        refine lv_iload hx hb dL_law_280 (lv_at hl 5 rfl) ?_
        refine lv_iconst (v := nI 5) hx hb dL_law_282 (by decide) ?_
        refine en_iadd hx hb (20 + (6 * k) + 5) rfl dL_law_283 ?_
        refine lv_bipush (v := nI 8) hx hb dL_law_284 (by decide) ?_
        refine el_cs (As := [.ref bs, .int (nI (20 + (6 * k) + 5)), .int (nI 8)]) (rest := []) ⟨hx, hb, hml, hown, hts⟩ (c_L_in l (D := D) (cI := cI) (cO := cO) (bs := bs) (L := L) (xs := xs) (i := 20 + (6 * k) + 5) (q := 8) hL (by omega) (by omega) (by omega)) (va_cwS 3 hts gL_law_L_in rfl rfl rfl (by decide +kernel) ⟨Nat.le_of_ble_eq_true rfl, Nat.le_of_ble_eq_true rfl⟩) (hH.X hX hbs) rfl hl.1 (Nat.le_of_ble_eq_true rfl) dL_law_286 ⟨(by show _ ≤ 600258; omega), (by show _ ≤ 7291722; omega)⟩ ?_
        obtain ⟨rt, hrt, ert⟩ : ∃ a, a < 8 ∧ el_in L xs (20 + (6 * k) + 5) 8 = a := ⟨_, el_in_lt L xs _ (by omega), rfl⟩
        rw [ert]
        refine lv_istore (lv' := [(11, .int (nI rt)), (10, .int (nI kd)), (9, .int (nI (eg_pl tt ob))), (8, .int (nI va)), (7, .int (nI key)), (6, .int (nI ob)), (5, .int (nI (20 + (6 * k)))), (4, .int (nI k)), (3, .int (nI 1)), (0, .ref bs), (1, .ref (b 0)), (2, .ref qn)]) hx hb dL_law_289 hl (by decide) rfl (fun ls hl => ?_)
        refine lv_aload_n hx hb dL_law_291 rfl (lv_at hl 10 rfl) ?_
        refine lv_iload hx hb dL_law_292 (lv_at hl 5 rfl) ?_
        refine lv_iload hx hb dL_law_294 (lv_at hl 4 rfl) ?_
        refine lv_iload hx hb dL_law_296 (lv_at hl 3 rfl) ?_
        refine lv_iload hx hb dL_law_298 (lv_at hl 0 rfl) ?_
        refine ej_w1 (st' := (ev_dn st ob key (nI va) (nI rt)).2) (As := [.ref (b 0), .int (nI ob), .int (nI key), .int (nI va), .int (nI rt)]) (rest := []) ⟨hx, hb, hml, hown, hts⟩ (w_define l hH.2.2.1 (eg_hn hI) (eg_hTG hI) ho7 (k := key) (v := va) (r := rt) (by omega) (by omega) (by omega) (eg_hKP hI (by omega))) (vx_cwSW 5 hts gL_law_L_define rfl rfl rfl (by decide +kernel) ⟨Nat.le_of_ble_eq_true rfl, Nat.le_of_ble_eq_true rfl⟩) hH hK (by rw [eg_dn hI (by omega)] <;> rfl) rfl hl.1 (Nat.le_of_ble_eq_true rfl) dL_law_300 ⟨(by show _ ≤ 600258; omega), (by show _ ≤ 7291722; omega)⟩ (fun H locs hH => ?_)
        refine en_eq (congrArg nI (show (ev_dn st ob key (nI va) (nI rt)).1 = (ev_pi (st.2 (eg_pl tt ob)) key (nI va) (nI rt)).1 from by rw [eg_dn hI (by omega)])) ?_
        refine lv_aload_n hx hb dL_law_303 rfl (lv_at hl 11 rfl) ?_
        refine lv_iload hx hb dL_law_304 (lv_at hl 2 rfl) ?_
        refine lv_iload hx hb dL_law_306 (lv_at hl 4 rfl) ?_
        refine lv_iload hx hb dL_law_308 (lv_at hl 3 rfl) ?_
        refine lv_iload hx hb dL_law_310 (lv_at hl 0 rfl) ?_
        refine ej_n (As := [.ref qn, .int (nI (eg_pl tt ob)), .int (nI key), .int (nI va), .int (nI rt)]) (rest := [.int (nI ((ev_pi (st.2 (eg_pl tt ob)) key (nI va) (nI rt)).1))]) ⟨hx, hb, hml, hown, hts⟩ (c_L_defined l hI (o := (eg_pl tt ob)) (k := key) (v := nI va) (r := rt) (by omega) (by omega) (by omega)) (va_cwS 5 hts gL_law_L_defined rfl rfl rfl (by decide +kernel) ⟨Nat.le_of_ble_eq_true rfl, Nat.le_of_ble_eq_true rfl⟩) hH hK rfl hl.1 (Nat.le_of_ble_eq_true rfl) dL_law_312 ⟨(by show _ ≤ 600258; omega), (by show _ ≤ 7291722; omega)⟩ (fun f1 od1 n1 H locs hH hI1 hle1 => ?_)
        refine lv_icmp_ne (tgt := 322) hx hb dL_law_315 (by decide) (fun h => absurd rfl h) (fun _ => ?_)
        refine lv_iconst (v := nI 1) hx hb dL_law_318 (by decide) ?_
        refine lv_goto (tgt := 323) hx hb dL_law_319 (by decide) ?_
        refine lv_istore_n (lv' := [(3, .int (nI 1)), (11, .int (nI rt)), (10, .int (nI kd)), (9, .int (nI (eg_pl tt ob))), (8, .int (nI va)), (7, .int (nI key)), (6, .int (nI ob)), (5, .int (nI (20 + (6 * k)))), (4, .int (nI k)), (0, .ref bs), (1, .ref (b 0)), (2, .ref qn)]) hx hb dL_law_323 rfl hl (by decide) rfl (fun ls hl => ?_)
        refine lv_goto (tgt := 568) hx hb dL_law_324 (by decide) ?_
        exact K568 _ _ _ _ H locs ls (by rw [eg_dn hI (by omega)]; exact hI1) (by omega) (ej_Zdn hZ (by omega)) hH (lv_sub hl [0, 9, 10, 11, 8, 6, 5] rfl)
    refine lv_iload hx hb dL_law_177 (lv_at hl 0 rfl) ?_
    refine lv_bipush (v := nI 36) hx hb dL_law_179 (by decide) ?_
    refine en_icmp_ge (tgt := 628) hx hb (by omega) (by omega) dL_law_181 (by decide) (fun c_12 => by exfalso; omega) (fun c_12 => ?_)
    refine lv_bipush (v := nI 20) hx hb dL_law_184 (by decide) ?_
    refine lv_bipush (v := nI 6) hx hb dL_law_186 (by decide) ?_
    refine lv_iload hx hb dL_law_188 (lv_at hl 0 rfl) ?_
    refine en_imul hx hb (6 * k) rfl dL_law_190 ?_
    refine en_iadd hx hb (20 + (6 * k)) rfl dL_law_191 ?_
    refine lv_istore (lv' := [(5, .int (nI (20 + (6 * k)))), (4, .int (nI k)), (3, .int (nI 1)), (0, .ref bs), (1, .ref (b 0)), (2, .ref qn)]) hx hb dL_law_192 hl (by decide) rfl (fun ls hl => ?_)
    refine lv_aload_n hx hb dL_law_194 rfl (lv_at hl 3 rfl) ?_
    refine lv_iload hx hb dL_law_195 (lv_at hl 0 rfl) ?_
    refine lv_iconst (v := nI 1) hx hb dL_law_197 (by decide) ?_
    refine en_iadd hx hb (20 + (6 * k) + 1) rfl dL_law_198 ?_
    refine lv_bipush (v := nI 7) hx hb dL_law_199 (by decide) ?_
    refine el_cs (As := [.ref bs, .int (nI (20 + (6 * k) + 1)), .int (nI 7)]) (rest := []) ⟨hx, hb, hml, hown, hts⟩ (c_L_in l (D := D) (cI := cI) (cO := cO) (bs := bs) (L := L) (xs := xs) (i := 20 + (6 * k) + 1) (q := 7) hL (by omega) (by omega) (by omega)) (va_cwS 3 hts gL_law_L_in rfl rfl rfl (by decide +kernel) ⟨Nat.le_of_ble_eq_true rfl, Nat.le_of_ble_eq_true rfl⟩) (hH.X hX hbs) rfl hl.1 (Nat.le_of_ble_eq_true rfl) dL_law_201 ⟨(by show _ ≤ 600258; omega), (by show _ ≤ 7291722; omega)⟩ ?_
    obtain ⟨ob, hob, eob⟩ : ∃ a, a < 7 ∧ el_in L xs (20 + (6 * k) + 1) 7 = a := ⟨_, el_in_lt L xs _ (by omega), rfl⟩
    rw [eob]
    refine lv_istore (lv' := [(6, .int (nI ob)), (5, .int (nI (20 + (6 * k)))), (4, .int (nI k)), (3, .int (nI 1)), (0, .ref bs), (1, .ref (b 0)), (2, .ref qn)]) hx hb dL_law_204 hl (by decide) rfl (fun ls hl => ?_)
    refine lv_aload_n hx hb dL_law_206 rfl (lv_at hl 4 rfl) ?_
    refine lv_iload hx hb dL_law_207 (lv_at hl 1 rfl) ?_
    refine lv_iconst (v := nI 2) hx hb dL_law_209 (by decide) ?_
    refine en_iadd hx hb (20 + (6 * k) + 2) rfl dL_law_210 ?_
    refine lv_iconst (v := nI 2) hx hb dL_law_211 (by decide) ?_
    refine el_cs (As := [.ref bs, .int (nI (20 + (6 * k) + 2)), .int (nI 2)]) (rest := []) ⟨hx, hb, hml, hown, hts⟩ (c_L_in l (D := D) (cI := cI) (cO := cO) (bs := bs) (L := L) (xs := xs) (i := 20 + (6 * k) + 2) (q := 2) hL (by omega) (by omega) (by omega)) (va_cwS 3 hts gL_law_L_in rfl rfl rfl (by decide +kernel) ⟨Nat.le_of_ble_eq_true rfl, Nat.le_of_ble_eq_true rfl⟩) (hH.X hX hbs) rfl hl.1 (Nat.le_of_ble_eq_true rfl) dL_law_212 ⟨(by show _ ≤ 600258; omega), (by show _ ≤ 7291722; omega)⟩ ?_
    obtain ⟨kc, hkc, ekc⟩ : ∃ a, a < 2 ∧ el_in L xs (20 + (6 * k) + 2) 2 = a := ⟨_, el_in_lt L xs _ (by omega), rfl⟩
    rw [ekc]
    refine en_if_ne (tgt := 230) hx hb (by omega) dL_law_215 (by decide) (fun c_13 => ?_) (fun c_13 => ?_)
    ·
      refine lv_bipush (v := nI 10) hx hb dL_law_230 (by decide) ?_
      refine lv_aload_n hx hb dL_law_232 rfl (lv_at hl 4 rfl) ?_
      refine lv_iload hx hb dL_law_233 (lv_at hl 1 rfl) ?_
      refine lv_iconst (v := nI 3) hx hb dL_law_235 (by decide) ?_
      refine en_iadd hx hb (20 + (6 * k) + 3) rfl dL_law_236 ?_
      refine lv_iconst (v := nI 3) hx hb dL_law_237 (by decide) ?_
      refine el_cs (As := [.ref bs, .int (nI (20 + (6 * k) + 3)), .int (nI 3)]) (rest := [.int (nI 10)]) ⟨hx, hb, hml, hown, hts⟩ (c_L_in l (D := D) (cI := cI) (cO := cO) (bs := bs) (L := L) (xs := xs) (i := 20 + (6 * k) + 3) (q := 3) hL (by omega) (by omega) (by omega)) (va_cwS 3 hts gL_law_L_in rfl rfl rfl (by decide +kernel) ⟨Nat.le_of_ble_eq_true rfl, Nat.le_of_ble_eq_true rfl⟩) (hH.X hX hbs) rfl hl.1 (Nat.le_of_ble_eq_true rfl) dL_law_238 ⟨(by show _ ≤ 600258; omega), (by show _ ≤ 7291722; omega)⟩ ?_
      obtain ⟨k2, hk2, ek2⟩ : ∃ a, a < 3 ∧ el_in L xs (20 + (6 * k) + 3) 3 = a := ⟨_, el_in_lt L xs _ (by omega), rfl⟩
      rw [ek2]
      refine en_iadd hx hb (10 + k2) rfl dL_law_241 ?_
      exact K242 ob (10 + k2) hob (by omega) ls (lv_sub hl [0, 1, 2, 3, 4, 5, 6] rfl)
    ·
      refine lv_aload_n hx hb dL_law_218 rfl (lv_at hl 4 rfl) ?_
      refine lv_iload hx hb dL_law_219 (lv_at hl 1 rfl) ?_
      refine lv_iconst (v := nI 3) hx hb dL_law_221 (by decide) ?_
      refine en_iadd hx hb (20 + (6 * k) + 3) rfl dL_law_222 ?_
      refine lv_iconst (v := nI 3) hx hb dL_law_223 (by decide) ?_
      refine el_cs (As := [.ref bs, .int (nI (20 + (6 * k) + 3)), .int (nI 3)]) (rest := []) ⟨hx, hb, hml, hown, hts⟩ (c_L_in l (D := D) (cI := cI) (cO := cO) (bs := bs) (L := L) (xs := xs) (i := 20 + (6 * k) + 3) (q := 3) hL (by omega) (by omega) (by omega)) (va_cwS 3 hts gL_law_L_in rfl rfl rfl (by decide +kernel) ⟨Nat.le_of_ble_eq_true rfl, Nat.le_of_ble_eq_true rfl⟩) (hH.X hX hbs) rfl hl.1 (Nat.le_of_ble_eq_true rfl) dL_law_224 ⟨(by show _ ≤ 600258; omega), (by show _ ≤ 7291722; omega)⟩ ?_
      obtain ⟨k1, hk1, ek1⟩ : ∃ a, a < 3 ∧ el_in L xs (20 + (6 * k) + 3) 3 = a := ⟨_, el_in_lt L xs _ (by omega), rfl⟩
      rw [ek1]
      refine lv_goto (tgt := 242) hx hb dL_law_227 (by decide) ?_
      exact K242 ob (k1) hob (by omega) ls (lv_sub hl [0, 1, 2, 3, 4, 5, 6] rfl)
