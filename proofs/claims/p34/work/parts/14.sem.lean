/-! 14.sem: the class's answers, said as the law's table has them -/
def eg_pl (tt : Nat → Nat) (o : Nat) : Nat := if o < 5 then o else if tt o < 5 then tt o else tt (tt o)
def eg_r (t : ev_TH) (k : Nat) : Nat := (ev_rg t k).toNatClampNeg
def eg_a (t : ev_TH) (w : Nat) : Nat := (ev_an t w).toNatClampNeg
def eg_fd (st : ev_ST) (k : Nat) : Nat → Option Nat → Option Nat
  | 0, _ => none
  | _ + 1, none => none
  | n + 1, some z => if ev_holds (st.2 z) k then some z else eg_fd st k n (ev_ch (st.2 z))
theorem eg_bit5 : ∀ r, r < 8 → ((nI r &&& nI 5 = 0) ↔ (nI r &&& nI 1 = 0 ∧ nI r &&& nI 4 = 0)) := by decide +kernel
theorem eg_bit4 : ∀ r, r < 8 → ((nI r &&& nI 4 = 0) ↔ r < 4) := by decide +kernel
theorem eg_bit1 : ∀ r, r < 8 → ((nI r &&& nI 1 = 0) ↔ r % 2 = 0) := by decide +kernel
theorem eg_allow : ∀ own, own < 8 → ∀ r, r < 8 → ∀ same : Bool, ev_allow (nI own) (nI r) same = decide (r ≤ 3 ∧ r / 2 % 2 = own / 2 % 2 ∧ ¬ own % 2 < r % 2 ∧ (own % 2 = 0 → same = true)) := by decide +kernel
theorem eg_FF : ev_F.toInt = 1099511627776 := by decide +kernel
theorem eg_nF (x : Int32) : ¬ x.toInt64 = ev_F := by
  intro h
  have h1 : x.toInt64.toInt = ev_F.toInt := by rw [h]
  rw [Int32.toInt_toInt64, eg_FF] at h1
  have := Int32.toInt_lt x
  omega
theorem eg_fuel {α : Type} (X : Nat → Nat → α) {tt : Nat → Nat} (h5 : tt 5 < 5) (h6 : tt 6 < 6) (h1 : ∀ o m m' : Nat, o < 5 → 6 ≤ m → 6 ≤ m' → X m o = X m' o) (h2 : ∀ p, 5 ≤ p → p < 7 → (∀ m m' : Nat, X (m + 1) p = X (m' + 1) p) ∨ ∀ m, X (m + 1) p = X m (tt p)) : ∀ o m m' : Nat, o < 7 → 8 ≤ m → 8 ≤ m' → X m o = X m' o := by
  have a5 : ∀ m m' : Nat, 7 ≤ m → 7 ≤ m' → X m 5 = X m' 5 := by
    intro m m' hm hm'
    obtain ⟨a, rfl⟩ : ∃ a, m = a + 1 := ⟨m - 1, by omega⟩
    obtain ⟨a', rfl⟩ : ∃ a, m' = a + 1 := ⟨m' - 1, by omega⟩
    rcases h2 5 (by omega) (by omega) with h | h
    · exact h a a'
    · rw [h a, h a']
      exact h1 _ _ _ h5 (by omega) (by omega)
  intro o m m' ho hm hm'
  by_cases ho5 : o < 5
  · exact h1 o m m' ho5 (by omega) (by omega)
  · by_cases ho6 : o = 5
    · subst ho6
      exact a5 m m' (by omega) (by omega)
    · have ho7 : o = 6 := by omega
      subst ho7
      obtain ⟨a, rfl⟩ : ∃ a, m = a + 1 := ⟨m - 1, by omega⟩
      obtain ⟨a', rfl⟩ : ∃ a, m' = a + 1 := ⟨m' - 1, by omega⟩
      rcases h2 6 (by omega) (by omega) with h | h
      · exact h a a'
      · rw [h a, h a']
        by_cases ht : tt 6 < 5
        · exact h1 _ _ _ ht (by omega) (by omega)
        · have e : tt 6 = 5 := by omega
          rw [e]
          exact a5 a a' (by omega) (by omega)
section EGS
variable {tt : Nat → Nat} {cc : Nat → Option Nat} {st : ev_ST} {f : Nat → Int32} {od : Nat → Nat → Nat} {n : Nat}
theorem eg_tgp (hI : eg_I tt cc st f od n) {i : Nat} (hi : i < 5) : ev_tg (st.2 i) = none := (hI.2.2.1 i hi).1
theorem eg_chp (hI : eg_I tt cc st f od n) {i : Nat} (hi : i < 5) : ev_ch (st.2 i) = cc i := (hI.2.2.1 i hi).2.2.1
theorem eg_tgq (hI : eg_I tt cc st f od n) {p : Nat} (h1 : 5 ≤ p) (h2 : p < 7) : ev_tg (st.2 p) = some (tt p) := (hI.2.2.2.1 p h1 h2).1
theorem eg_rvq (hI : eg_I tt cc st f od n) {p : Nat} (h1 : 5 ≤ p) (h2 : p < 7) : ev_rv (st.2 p) = false := (hI.2.2.2.1 p h1 h2).2.1
theorem eg_ttlt (hI : eg_I tt cc st f od n) {p : Nat} (h1 : 5 ≤ p) (h2 : p < 7) : tt p < p ∧ tt p < 6 := by
  have h := hI.2.1
  have : p = 5 ∨ p = 6 := by omega
  rcases this with rfl | rfl
  · have := h.1; omega
  · have := h.2.1; omega
theorem eg_cclt (hI : eg_I tt cc st f od n) {i j : Nat} (hi : i < 5) (h : ev_ch (st.2 i) = some j) : j < i := by
  rw [eg_chp hI hi] at h
  exact hI.2.1.2.2 i hi j h
theorem eg_pl_lt (hI : eg_I tt cc st f od n) {o : Nat} (ho : o < 7) : eg_pl tt o < 5 := by
  have h := hI.2.1
  unfold eg_pl
  by_cases h1 : o < 5
  · rw [if_pos h1]; exact h1
  · rw [if_neg h1]
    by_cases h2 : tt o < 5
    · rw [if_pos h2]; exact h2
    · rw [if_neg h2]
      have h3 := eg_ttlt hI (p := o) (by omega) ho
      rw [show tt o = 5 from by omega]
      exact h.1
theorem eg_pl_p {o : Nat} (h : o < 5) : eg_pl tt o = o := if_pos h
theorem eg_pb_plain (hI : eg_I tt cc st f od n) {i : Nat} (hi : i < 5) (m : Nat) : ev_pb st (m + 1) (some i) = some i := by simp [ev_pb, eg_tgp hI hi]
theorem eg_pb_q (hI : eg_I tt cc st f od n) {p : Nat} (h1 : 5 ≤ p) (h2 : p < 7) (m : Nat) : ev_pb st (m + 1) (some p) = ev_pb st m (some (tt p)) := by simp [ev_pb, eg_tgq hI h1 h2, eg_rvq hI h1 h2]
theorem eg_pb (hI : eg_I tt cc st f od n) {o : Nat} (ho : o < 7) (m : Nat) : ev_pb st (m + 3) (some o) = some (eg_pl tt o) := by
  by_cases h1 : o < 5
  · rw [eg_pl_p h1]
    exact eg_pb_plain hI h1 _
  · rw [eg_pb_q hI (by omega) ho]
    unfold eg_pl
    rw [if_neg h1]
    have h3 := eg_ttlt hI (p := o) (by omega) ho
    by_cases h2 : tt o < 5
    · rw [if_pos h2]
      exact eg_pb_plain hI h2 _
    · rw [if_neg h2, eg_pb_q hI (by omega) (by omega)]
      exact eg_pb_plain hI (by rw [show tt o = 5 from by omega]; exact hI.2.1.1) _
theorem eg_pbt (hI : eg_I tt cc st f od n) {p : Nat} (h1 : 5 ≤ p) (h2 : p < 7) : ev_pb st 12 (some (tt p)) = some (eg_pl tt p) := by
  rw [← eg_pb_q hI h1 h2 12]
  exact eg_pb hI h2 10
theorem eg_rE (hI : eg_I tt cc st f od n) {i k : Nat} (hi : i < 5) (hk : k < 20) (hh : ev_holds (st.2 i) k = true) : ev_rg (st.2 i) k = nI (eg_r (st.2 i) k) ∧ eg_r (st.2 i) k ≤ 7 := by
  obtain ⟨-, -, -, ⟨r, h1, h2⟩, -⟩ := (hI.2.2.2.2.2.1 i k hi hk).2 hh
  have : eg_r (st.2 i) k = r := by unfold eg_r; rw [h2, nI_clamp (by omega)]
  rw [this]
  exact ⟨h2, h1⟩
theorem eg_aE (hI : eg_I tt cc st f od n) {p w : Nat} (h1 : 5 ≤ p) (h2 : p < 7) (hw : w < 4) (ht : ev_told (st.2 p) w = true) : ev_an (st.2 p) w = nI (eg_a (st.2 p) w) ∧ eg_a (st.2 p) w ≤ 9999 ∧ (0 < w → eg_a (st.2 p) w ≤ 1) := by
  obtain ⟨-, v, g1, g2, g3⟩ := (hI.2.2.2.2.1 p w h1 h2 hw).2 ht
  have : eg_a (st.2 p) w = v := by unfold eg_a; rw [g2, nI_clamp (by omega)]
  rw [this]
  exact ⟨g2, g1, g3⟩
-- what the table holds
theorem eg_fcs (hI : eg_I tt cc st f od n) {i : Nat} (hi : i < 5) : f i = ev_bi (ev_cs (st.2 i)) := (hI.2.2.1 i hi).2.2.2.1
theorem eg_f10 (hI : eg_I tt cc st f od n) {i : Nat} (hi : i < 5) : f (10 + i) = eg_on (ev_ch (st.2 i)) := by rw [eg_chp hI hi]; exact (hI.2.2.1 i hi).2.2.2.2
theorem eg_f30 (hI : eg_I tt cc st f od n) {p : Nat} (h1 : 5 ≤ p) (h2 : p < 7) : f (30 + p) = nI (tt p) := (hI.2.2.2.1 p h1 h2).2.2.1
theorem eg_f60 (hI : eg_I tt cc st f od n) {p w : Nat} (h1 : 5 ≤ p) (h2 : p < 7) (hw : w < 4) : f (60 + 4 * (p - 5) + w) = ev_bi (ev_told (st.2 p) w) := (hI.2.2.2.2.1 p w h1 h2 hw).1
theorem eg_f40 (hI : eg_I tt cc st f od n) {p w : Nat} (h1 : 5 ≤ p) (h2 : p < 7) (hw : w < 4) (ht : ev_told (st.2 p) w = true) : f (40 + 4 * (p - 5) + w) = ev_an (st.2 p) w := ((hI.2.2.2.2.1 p w h1 h2 hw).2 ht).1
theorem eg_fh (hI : eg_I tt cc st f od n) {i k : Nat} (hi : i < 5) (hk : k < 20) : f (eg_at i k) = ev_bi (ev_holds (st.2 i) k) := (hI.2.2.2.2.2.1 i k hi hk).1
theorem eg_fv (hI : eg_I tt cc st f od n) {i k : Nat} (hi : i < 5) (hk : k < 20) (hh : ev_holds (st.2 i) k = true) : f (eg_at i k + 1) = ev_va (st.2 i) k := ((hI.2.2.2.2.2.1 i k hi hk).2 hh).1
theorem eg_fr (hI : eg_I tt cc st f od n) {i k : Nat} (hi : i < 5) (hk : k < 20) (hh : ev_holds (st.2 i) k = true) : f (eg_at i k + 2) = nI (eg_r (st.2 i) k) := by rw [((hI.2.2.2.2.2.1 i k hi hk).2 hh).2.1]; exact (eg_rE hI hi hk hh).1
theorem eg_fo (hI : eg_I tt cc st f od n) {i k : Nat} (hi : i < 5) (hk : k < 20) (hh : ev_holds (st.2 i) k = true) : f (eg_at i k + 3) = nI (od i k) := ((hI.2.2.2.2.2.1 i k hi hk).2 hh).2.2.1
-- what the class's contracts ask
theorem eg_hn (hI : eg_I tt cc st f od n) : st.1 ≤ 12 := by rw [hI.1]; decide
theorem eg_hTG (hI : eg_I tt cc st f od n) : ∀ i, i < st.1 → ∀ j, ev_tg (st.2 i) = some j → j < st.1 := by
  intro i hi j hj
  rw [hI.1] at hi ⊢
  by_cases h : i < 5
  · rw [eg_tgp hI h] at hj; cases hj
  · rw [eg_tgq hI (by omega) hi] at hj
    cases hj
    have := eg_ttlt hI (p := i) (by omega) hi
    omega
theorem eg_hCH (hI : eg_I tt cc st f od n) : ∀ i, i < st.1 → ∀ j, ev_ch (st.2 i) = some j → j < st.1 := by
  intro i hi j hj
  rw [hI.1] at hi ⊢
  by_cases h : i < 5
  · have := eg_cclt hI h hj
    omega
  · rw [(hI.2.2.2.1 i (by omega) hi).2.2.2.1] at hj
    cases hj
theorem eg_hKP (hI : eg_I tt cc st f od n) {k : Nat} (hk : k < 20) : ∀ j, j < st.1 → ev_holds (st.2 j) k = false → ev_kc (st.2 j) < 20 := by
  intro j hj hh
  rw [hI.1] at hj
  by_cases h : j < 5
  · exact (hI.2.2.2.2.2.2.2 j h).room hk hh
  · rw [(hI.2.2.2.1 j (by omega) hj).2.2.2.2]; decide
theorem eg_hKC (hI : eg_I tt cc st f od n) : ∀ j, j < st.1 → ev_kc (st.2 j) ≤ 20 := by
  intro j hj
  rw [hI.1] at hj
  by_cases h : j < 5
  · exact (hI.2.2.2.2.2.2.2 j h).1
  · rw [(hI.2.2.2.1 j (by omega) hj).2.2.2.2]; decide
theorem eg_hLS (hI : eg_I tt cc st f od n) : ∀ i, i < st.1 → ev_tg (st.2 i) = none → ev_LS (st.2 i) := by
  intro i hi ht
  rw [hI.1] at hi
  by_cases h : i < 5
  · exact (hI.2.2.2.2.2.2.2 i h).LS
  · rw [eg_tgq hI (by omega) hi] at ht; cases ht
-- where a key is found
theorem eg_fd_some (hI : eg_I tt cc st f od n) {k : Nat} : ∀ (m : Nat) (o : Option Nat), (∀ z, o = some z → z < 5) → ∀ y, eg_fd st k m o = some y → y < 5 ∧ ev_holds (st.2 y) k = true := by
  intro m
  induction m with
  | zero => intro o _ y h; cases h
  | succ m ih =>
    intro o ho y h
    cases o with
    | none => cases h
    | some z =>
      have hz := ho z rfl
      have e : eg_fd st k (m + 1) (some z) = if ev_holds (st.2 z) k then some z else eg_fd st k m (ev_ch (st.2 z)) := rfl
      rw [e] at h
      by_cases hh : ev_holds (st.2 z) k = true
      · rw [if_pos hh] at h
        cases h
        exact ⟨hz, hh⟩
      · rw [if_neg hh] at h
        exact ih _ (fun x hx => by have := eg_cclt hI hz hx; omega) y h
theorem eg_gf_plain (hI : eg_I tt cc st f od n) (k : Nat) : ∀ (q : Nat) (o : Option Nat), q ≤ 5 → (∀ z, o = some z → z < q) → ∀ m, q < m → ev_gf st k m o = (match eg_fd st k q o with
    | none => 0
    | some y => (ev_va (st.2 y) k).toInt64) := by
  intro q
  induction q with
  | zero =>
    intro o _ ho m hm
    obtain ⟨a, rfl⟩ : ∃ a, m = a + 1 := ⟨m - 1, by omega⟩
    cases o with
    | none => rfl
    | some z => exact absurd (ho z rfl) (Nat.not_lt_zero z)
  | succ q ih =>
    intro o hq ho m hm
    obtain ⟨a, rfl⟩ : ∃ a, m = a + 1 := ⟨m - 1, by omega⟩
    cases o with
    | none => rfl
    | some z =>
      have hz := ho z rfl
      have e1 : ev_gf st k (a + 1) (some z) = if ev_holds (st.2 z) k then (ev_va (st.2 z) k).toInt64 else ev_gf st k a (ev_ch (st.2 z)) := by simp [ev_gf, eg_tgp hI (i := z) (by omega)]
      have e2 : eg_fd st k (q + 1) (some z) = if ev_holds (st.2 z) k then some z else eg_fd st k q (ev_ch (st.2 z)) := rfl
      rw [e1, e2]
      by_cases hh : ev_holds (st.2 z) k = true
      · rw [if_pos hh, if_pos hh]
      · rw [if_neg hh, if_neg hh]
        exact ih _ (by omega) (fun y hy => by have := eg_cclt hI (i := z) (by omega) hy; omega) a (by omega)
theorem eg_af_plain (hI : eg_I tt cc st f od n) (k : Nat) : ∀ (q : Nat) (o : Option Nat), q ≤ 5 → (∀ z, o = some z → z < q) → ∀ m, q < m → ev_af st k m o = (match eg_fd st k q o with
    | none => 110
    | some _ => 121) := by
  intro q
  induction q with
  | zero =>
    intro o _ ho m hm
    obtain ⟨a, rfl⟩ : ∃ a, m = a + 1 := ⟨m - 1, by omega⟩
    cases o with
    | none => rfl
    | some z => exact absurd (ho z rfl) (Nat.not_lt_zero z)
  | succ q ih =>
    intro o hq ho m hm
    obtain ⟨a, rfl⟩ : ∃ a, m = a + 1 := ⟨m - 1, by omega⟩
    cases o with
    | none => rfl
    | some z =>
      have hz := ho z rfl
      have e1 : ev_af st k (a + 1) (some z) = if ev_holds (st.2 z) k then 121 else ev_af st k a (ev_ch (st.2 z)) := by simp [ev_af, eg_tgp hI (i := z) (by omega)]
      have e2 : eg_fd st k (q + 1) (some z) = if ev_holds (st.2 z) k then some z else eg_fd st k q (ev_ch (st.2 z)) := rfl
      rw [e1, e2]
      by_cases hh : ev_holds (st.2 z) k = true
      · rw [if_pos hh, if_pos hh]
      · rw [if_neg hh, if_neg hh]
        exact ih _ (by omega) (fun y hy => by have := eg_cclt hI (i := z) (by omega) hy; omega) a (by omega)
theorem eg_sf_plain (hI : eg_I tt cc st f od n) (k : Nat) (v : Int32) (i : Nat) : ∀ (q : Nat) (o : Option Nat), q ≤ 5 → (∀ z, o = some z → z < q) → ∀ m, q < m → ev_sf st k v i m o = (match eg_fd st k q o with
    | none => ev_rc st k v i
    | some y => if ev_can (st.2 y) 1 k then ev_rc st k v i else (110, st)) := by
  intro q
  induction q with
  | zero =>
    intro o _ ho m hm
    obtain ⟨a, rfl⟩ : ∃ a, m = a + 1 := ⟨m - 1, by omega⟩
    cases o with
    | none => rfl
    | some z => exact absurd (ho z rfl) (Nat.not_lt_zero z)
  | succ q ih =>
    intro o hq ho m hm
    obtain ⟨a, rfl⟩ : ∃ a, m = a + 1 := ⟨m - 1, by omega⟩
    cases o with
    | none => rfl
    | some z =>
      have hz := ho z rfl
      have e1 : ev_sf st k v i (a + 1) (some z) = if ev_holds (st.2 z) k then (if ev_can (st.2 z) 1 k then ev_rc st k v i else (110, st)) else ev_sf st k v i a (ev_ch (st.2 z)) := by simp [ev_sf, eg_tgp hI (i := z) (by omega)]
      have e2 : eg_fd st k (q + 1) (some z) = if ev_holds (st.2 z) k then some z else eg_fd st k q (ev_ch (st.2 z)) := rfl
      rw [e1, e2]
      by_cases hh : ev_holds (st.2 z) k = true
      · rw [if_pos hh, if_pos hh]
      · rw [if_neg hh, if_neg hh]
        exact ih _ (by omega) (fun y hy => by have := eg_cclt hI (i := z) (by omega) hy; omega) a (by omega)
-- proxies: told, or handed on
theorem eg_gf_told (hI : eg_I tt cc st f od n) {p k : Nat} (h1 : 5 ≤ p) (h2 : p < 7) (ht : ev_told (st.2 p) 0 = true) (m : Nat) : ev_gf st k (m + 1) (some p) = if ev_kOther (st.2 (eg_pl tt p)) k (ev_an (st.2 p) 0) then ev_F else (ev_an (st.2 p) 0).toInt64 := by simp [ev_gf, eg_tgq hI h1 h2, eg_rvq hI h1 h2, ht, eg_pbt hI h1 h2]
theorem eg_gf_pass (hI : eg_I tt cc st f od n) {p k : Nat} (h1 : 5 ≤ p) (h2 : p < 7) (ht : ev_told (st.2 p) 0 = false) (m : Nat) : ev_gf st k (m + 1) (some p) = ev_gf st k m (some (tt p)) := by simp [ev_gf, eg_tgq hI h1 h2, eg_rvq hI h1 h2, ht]
theorem eg_af_told (hI : eg_I tt cc st f od n) {p k : Nat} (h1 : 5 ≤ p) (h2 : p < 7) (ht : ev_told (st.2 p) 1 = true) (m : Nat) : ev_af st k (m + 1) (some p) = if ev_an (st.2 p) 1 = nI 1 then 121 else if ev_kKey (st.2 (eg_pl tt p)) k then 84 else 110 := by simp [ev_af, eg_tgq hI h1 h2, eg_rvq hI h1 h2, ht, eg_pbt hI h1 h2]
theorem eg_af_pass (hI : eg_I tt cc st f od n) {p k : Nat} (h1 : 5 ≤ p) (h2 : p < 7) (ht : ev_told (st.2 p) 1 = false) (m : Nat) : ev_af st k (m + 1) (some p) = ev_af st k m (some (tt p)) := by simp [ev_af, eg_tgq hI h1 h2, eg_rvq hI h1 h2, ht]
theorem eg_sf_told (hI : eg_I tt cc st f od n) {p k : Nat} {v : Int32} {i : Nat} (h1 : 5 ≤ p) (h2 : p < 7) (ht : ev_told (st.2 p) 2 = true) (m : Nat) : ev_sf st k v i (m + 1) (some p) = if ev_an (st.2 p) 2 = nI 1 then (if ev_kOther (st.2 (eg_pl tt p)) k v then (84, st) else (121, st)) else (110, st) := by simp [ev_sf, eg_tgq hI h1 h2, eg_rvq hI h1 h2, ht, eg_pbt hI h1 h2]
theorem eg_sf_pass (hI : eg_I tt cc st f od n) {p k : Nat} {v : Int32} {i : Nat} (h1 : 5 ≤ p) (h2 : p < 7) (ht : ev_told (st.2 p) 2 = false) (m : Nat) : ev_sf st k v i (m + 1) (some p) = ev_sf st k v i m (some (tt p)) := by simp [ev_sf, eg_tgq hI h1 h2, eg_rvq hI h1 h2, ht]
theorem eg_df_told (hI : eg_I tt cc st f od n) {p k : Nat} (h1 : 5 ≤ p) (h2 : p < 7) (ht : ev_told (st.2 p) 3 = true) (m : Nat) : ev_df st k (m + 1) (some p) = if ev_an (st.2 p) 3 = nI 1 then (if ev_kKey (st.2 (eg_pl tt p)) k then (84, st) else (121, st)) else (110, st) := by simp [ev_df, eg_tgq hI h1 h2, eg_rvq hI h1 h2, ht, eg_pbt hI h1 h2]
theorem eg_df_pass (hI : eg_I tt cc st f od n) {p k : Nat} (h1 : 5 ≤ p) (h2 : p < 7) (ht : ev_told (st.2 p) 3 = false) (m : Nat) : ev_df st k (m + 1) (some p) = ev_df st k m (some (tt p)) := by simp [ev_df, eg_tgq hI h1 h2, eg_rvq hI h1 h2, ht]
theorem eg_df_plain (hI : eg_I tt cc st f od n) {i k : Nat} (hi : i < 5) (m : Nat) : ev_df st k (m + 1) (some i) = ((ev_tk (st.2 i) k).1, ev_up st i (ev_tk (st.2 i) k).2) := by simp [ev_df, eg_tgp hI hi]
theorem eg_gf_fuel (hI : eg_I tt cc st f od n) (k : Nat) : ∀ o m m' : Nat, o < 7 → 8 ≤ m → 8 ≤ m' → ev_gf st k m (some o) = ev_gf st k m' (some o) := by
  refine eg_fuel (fun m o => ev_gf st k m (some o)) hI.2.1.1 hI.2.1.2.1 (fun o m m' ho hm hm' => ?_) (fun p h1 h2 => ?_)
  · show ev_gf st k m (some o) = ev_gf st k m' (some o)
    rw [eg_gf_plain hI k 5 (some o) (Nat.le_refl _) (fun z hz => by cases hz; exact ho) m (by omega), eg_gf_plain hI k 5 (some o) (Nat.le_refl _) (fun z hz => by cases hz; exact ho) m' (by omega)]
  · by_cases ht : ev_told (st.2 p) 0 = true
    · exact Or.inl fun m m' => (eg_gf_told hI h1 h2 ht m).trans (eg_gf_told hI h1 h2 ht m').symm
    · exact Or.inr fun m => eg_gf_pass hI h1 h2 (Bool.eq_false_iff.mpr ht) m
theorem eg_af_fuel (hI : eg_I tt cc st f od n) (k : Nat) : ∀ o m m' : Nat, o < 7 → 8 ≤ m → 8 ≤ m' → ev_af st k m (some o) = ev_af st k m' (some o) := by
  refine eg_fuel (fun m o => ev_af st k m (some o)) hI.2.1.1 hI.2.1.2.1 (fun o m m' ho hm hm' => ?_) (fun p h1 h2 => ?_)
  · show ev_af st k m (some o) = ev_af st k m' (some o)
    rw [eg_af_plain hI k 5 (some o) (Nat.le_refl _) (fun z hz => by cases hz; exact ho) m (by omega), eg_af_plain hI k 5 (some o) (Nat.le_refl _) (fun z hz => by cases hz; exact ho) m' (by omega)]
  · by_cases ht : ev_told (st.2 p) 1 = true
    · exact Or.inl fun m m' => (eg_af_told hI h1 h2 ht m).trans (eg_af_told hI h1 h2 ht m').symm
    · exact Or.inr fun m => eg_af_pass hI h1 h2 (Bool.eq_false_iff.mpr ht) m
theorem eg_sf_fuel (hI : eg_I tt cc st f od n) (k : Nat) (v : Int32) (i : Nat) : ∀ o m m' : Nat, o < 7 → 8 ≤ m → 8 ≤ m' → ev_sf st k v i m (some o) = ev_sf st k v i m' (some o) := by
  refine eg_fuel (fun m o => ev_sf st k v i m (some o)) hI.2.1.1 hI.2.1.2.1 (fun o m m' ho hm hm' => ?_) (fun p h1 h2 => ?_)
  · show ev_sf st k v i m (some o) = ev_sf st k v i m' (some o)
    rw [eg_sf_plain hI k v i 5 (some o) (Nat.le_refl _) (fun z hz => by cases hz; exact ho) m (by omega), eg_sf_plain hI k v i 5 (some o) (Nat.le_refl _) (fun z hz => by cases hz; exact ho) m' (by omega)]
  · by_cases ht : ev_told (st.2 p) 2 = true
    · exact Or.inl fun m m' => (eg_sf_told hI h1 h2 ht m).trans (eg_sf_told hI h1 h2 ht m').symm
    · exact Or.inr fun m => eg_sf_pass hI h1 h2 (Bool.eq_false_iff.mpr ht) m
theorem eg_df_fuel (hI : eg_I tt cc st f od n) (k : Nat) : ∀ o m m' : Nat, o < 7 → 8 ≤ m → 8 ≤ m' → ev_df st k m (some o) = ev_df st k m' (some o) := by
  refine eg_fuel (fun m o => ev_df st k m (some o)) hI.2.1.1 hI.2.1.2.1 (fun o m m' ho hm hm' => ?_) (fun p h1 h2 => ?_)
  · show ev_df st k m (some o) = ev_df st k m' (some o)
    obtain ⟨a, rfl⟩ : ∃ a, m = a + 1 := ⟨m - 1, by omega⟩
    obtain ⟨a', rfl⟩ : ∃ a, m' = a + 1 := ⟨m' - 1, by omega⟩
    rw [eg_df_plain hI ho, eg_df_plain hI ho]
  · by_cases ht : ev_told (st.2 p) 3 = true
    · exact Or.inl fun m m' => (eg_df_told hI h1 h2 ht m).trans (eg_df_told hI h1 h2 ht m').symm
    · exact Or.inr fun m => eg_df_pass hI h1 h2 (Bool.eq_false_iff.mpr ht) m
/-- get's answer, with the fault as the law writes it -/
def eg_go (st : ev_ST) (k o : Nat) : Int32 := if ev_gf st k 30 (some o) = ev_F then -900002 else (ev_gf st k 30 (some o)).toInt32
theorem eg_kO (hI : eg_I tt cc st f od n) {i k : Nat} {v : Int32} (hi : i < 5) (hk : k < 20) : ev_kOther (st.2 i) k v = decide (ev_holds (st.2 i) k = true ∧ (nI (eg_r (st.2 i) k) &&& nI 5) = 0 ∧ ¬ ev_va (st.2 i) k = v) := by
  by_cases hh : ev_holds (st.2 i) k = true
  · obtain ⟨e, h7⟩ := eg_rE hI hi hk hh
    have hc : ∀ z, ev_can (st.2 i) z k = decide (nI (eg_r (st.2 i) k) &&& nI z ≠ 0) := fun z => by
      show (ev_holds (st.2 i) k && decide (ev_rg (st.2 i) k &&& nI z ≠ 0)) = _
      rw [hh, e, Bool.true_and]
    unfold ev_kOther
    rw [hh, hc, hc]
    have h5 := eg_bit5 (eg_r (st.2 i) k) (by omega)
    by_cases a : nI (eg_r (st.2 i) k) &&& nI 1 = 0
    · by_cases b : nI (eg_r (st.2 i) k) &&& nI 4 = 0
      · simp [a, b, h5.mpr ⟨a, b⟩]
      · have : ¬ (nI (eg_r (st.2 i) k) &&& nI 5) = 0 := fun h => b (h5.mp h).2
        simp [b, this]
    · have : ¬ (nI (eg_r (st.2 i) k) &&& nI 5) = 0 := fun h => a (h5.mp h).1
      simp [a, this]
  · have h0 : ev_holds (st.2 i) k = false := Bool.eq_false_iff.mpr hh
    unfold ev_kOther
    rw [h0]
    simp
theorem eg_kK (hI : eg_I tt cc st f od n) {i k : Nat} (hi : i < 5) (hk : k < 20) (hh : ev_holds (st.2 i) k = true) : ev_kKey (st.2 i) k = (ev_cs (st.2 i) || decide (eg_r (st.2 i) k < 4)) := by
  obtain ⟨e, h7⟩ := eg_rE hI hi hk hh
  have hc : ev_can (st.2 i) 4 k = decide (nI (eg_r (st.2 i) k) &&& nI 4 ≠ 0) := by
    show (ev_holds (st.2 i) k && decide (ev_rg (st.2 i) k &&& nI 4 ≠ 0)) = _
    rw [hh, e, Bool.true_and]
  have h4 := eg_bit4 (eg_r (st.2 i) k) (by omega)
  unfold ev_kKey
  rw [hh, hc, Bool.true_and]
  by_cases a : eg_r (st.2 i) k < 4
  · simp [a, h4.mpr a]
  · have : ¬ nI (eg_r (st.2 i) k) &&& nI 4 = 0 := fun h => a (h4.mp h)
    simp [a, this]
theorem eg_can1 (hI : eg_I tt cc st f od n) {i k : Nat} (hi : i < 5) (hk : k < 20) (hh : ev_holds (st.2 i) k = true) : ev_can (st.2 i) 1 k = decide (¬ eg_r (st.2 i) k % 2 = 0) := by
  obtain ⟨e, h7⟩ := eg_rE hI hi hk hh
  show (ev_holds (st.2 i) k && decide (ev_rg (st.2 i) k &&& nI 1 ≠ 0)) = _
  rw [hh, e, Bool.true_and]
  have h1 := eg_bit1 (eg_r (st.2 i) k) (by omega)
  by_cases a : eg_r (st.2 i) k % 2 = 0
  · simp [a, h1.mpr a]
  · have : ¬ nI (eg_r (st.2 i) k) &&& nI 1 = 0 := fun h => a (h1.mp h)
    simp [a, this]
theorem eg_can4 (hI : eg_I tt cc st f od n) {i k : Nat} (hi : i < 5) (hk : k < 20) (hh : ev_holds (st.2 i) k = true) : ev_can (st.2 i) 4 k = decide (¬ eg_r (st.2 i) k < 4) := by
  obtain ⟨e, h7⟩ := eg_rE hI hi hk hh
  show (ev_holds (st.2 i) k && decide (ev_rg (st.2 i) k &&& nI 4 ≠ 0)) = _
  rw [hh, e, Bool.true_and]
  have h1 := eg_bit4 (eg_r (st.2 i) k) (by omega)
  by_cases a : eg_r (st.2 i) k < 4
  · simp [a, h1.mpr a]
  · have : ¬ nI (eg_r (st.2 i) k) &&& nI 4 = 0 := fun h => a (h1.mp h)
    simp [a, this]
theorem eg_go_plain (hI : eg_I tt cc st f od n) {o k : Nat} (ho : o < 5) : eg_go st k o = (match eg_fd st k 5 (some o) with
    | none => 0
    | some y => ev_va (st.2 y) k) := by
  unfold eg_go
  rw [eg_gf_plain hI k 5 (some o) (Nat.le_refl _) (fun z hz => by cases hz; exact ho) 30 (by omega)]
  cases eg_fd st k 5 (some o) with
  | none =>
    show (if (0 : Int64) = ev_F then (-900002 : Int32) else (0 : Int64).toInt32) = 0
    decide +kernel
  | some y =>
    show (if (ev_va (st.2 y) k).toInt64 = ev_F then (-900002 : Int32) else (ev_va (st.2 y) k).toInt64.toInt32) = ev_va (st.2 y) k
    rw [if_neg (eg_nF _), ev_ll]
theorem eg_go_told (hI : eg_I tt cc st f od n) {o k : Nat} (h1 : 5 ≤ o) (h2 : o < 7) (hk : k < 20) (ht : ev_told (st.2 o) 0 = true) : eg_go st k o = if ev_holds (st.2 (eg_pl tt o)) k = true ∧ (nI (eg_r (st.2 (eg_pl tt o)) k) &&& nI 5) = 0 ∧ ¬ ev_va (st.2 (eg_pl tt o)) k = ev_an (st.2 o) 0 then -900002 else ev_an (st.2 o) 0 := by
  unfold eg_go
  rw [eg_gf_told hI h1 h2 ht 29, eg_kO hI (eg_pl_lt hI h2) hk]
  by_cases a : ev_holds (st.2 (eg_pl tt o)) k = true ∧ (nI (eg_r (st.2 (eg_pl tt o)) k) &&& nI 5) = 0 ∧ ¬ ev_va (st.2 (eg_pl tt o)) k = ev_an (st.2 o) 0
  · rw [if_pos a, if_pos (decide_eq_true a), if_pos rfl]
  · rw [if_neg a, decide_eq_false a]
    simp only [Bool.false_eq_true, ↓reduceIte]
    rw [if_neg (eg_nF _), ev_ll]
theorem eg_go_pass (hI : eg_I tt cc st f od n) {o k : Nat} (h1 : 5 ≤ o) (h2 : o < 7) (ht : ev_told (st.2 o) 0 = false) : eg_go st k o = eg_go st k (tt o) := by
  unfold eg_go
  rw [eg_gf_pass hI h1 h2 ht 29, eg_gf_fuel hI k (tt o) 29 30 (by have := eg_ttlt hI h1 h2; omega) (by omega) (by omega)]
theorem eg_ao_plain (hI : eg_I tt cc st f od n) {o k : Nat} (ho : o < 5) : ev_af st k 30 (some o) = (match eg_fd st k 5 (some o) with
    | none => 110
    | some _ => 121) := eg_af_plain hI k 5 (some o) (Nat.le_refl _) (fun z hz => by cases hz; exact ho) 30 (by omega)
theorem eg_ao_pass (hI : eg_I tt cc st f od n) {o k : Nat} (h1 : 5 ≤ o) (h2 : o < 7) (ht : ev_told (st.2 o) 1 = false) : ev_af st k 30 (some o) = ev_af st k 30 (some (tt o)) := by
  rw [eg_af_pass hI h1 h2 ht 29, eg_af_fuel hI k (tt o) 29 30 (by have := eg_ttlt hI h1 h2; omega) (by omega) (by omega)]
theorem eg_so_plain (hI : eg_I tt cc st f od n) {o k : Nat} {v : Int32} {i : Nat} (ho : o < 5) : ev_sf st k v i 30 (some o) = (match eg_fd st k 5 (some o) with
    | none => ev_rc st k v i
    | some y => if ev_can (st.2 y) 1 k then ev_rc st k v i else (110, st)) := eg_sf_plain hI k v i 5 (some o) (Nat.le_refl _) (fun z hz => by cases hz; exact ho) 30 (by omega)
theorem eg_so_pass (hI : eg_I tt cc st f od n) {o k : Nat} {v : Int32} {i : Nat} (h1 : 5 ≤ o) (h2 : o < 7) (ht : ev_told (st.2 o) 2 = false) : ev_sf st k v i 30 (some o) = ev_sf st k v i 30 (some (tt o)) := by
  rw [eg_sf_pass hI h1 h2 ht 29, eg_sf_fuel hI k v i (tt o) 29 30 (by have := eg_ttlt hI h1 h2; omega) (by omega) (by omega)]
theorem eg_do_pass (hI : eg_I tt cc st f od n) {o k : Nat} (h1 : 5 ≤ o) (h2 : o < 7) (ht : ev_told (st.2 o) 3 = false) : ev_df st k 12 (some o) = ev_df st k 12 (some (tt o)) := by
  rw [eg_df_pass hI h1 h2 ht 11, eg_df_fuel hI k (tt o) 11 12 (by have := eg_ttlt hI h1 h2; omega) (by omega) (by omega)]
theorem eg_rc_plain (hI : eg_I tt cc st f od n) {k i : Nat} {v : Int32} (hi : i < 5) : ev_rc st k v i = if ev_holds (st.2 i) k then (if ev_can (st.2 i) 1 k then ((ev_pi (st.2 i) k v (ev_rg (st.2 i) k)).1, ev_up st i (ev_pi (st.2 i) k v (ev_rg (st.2 i) k)).2) else (110, st)) else ((ev_pi (st.2 i) k v (nI 7)).1, ev_up st i (ev_pi (st.2 i) k v (nI 7)).2) := by
  unfold ev_rc
  rw [eg_pb_plain hI hi 11]
theorem eg_rc_pl (hI : eg_I tt cc st f od n) {k o : Nat} {v : Int32} (ho : o < 7) : ev_rc st k v o = ev_rc st k v (eg_pl tt o) := by
  unfold ev_rc
  rw [eg_pb hI ho 9, eg_pb_plain hI (eg_pl_lt hI ho) 11]
theorem eg_sf_pl (hI : eg_I tt cc st f od n) {k o : Nat} {v : Int32} (ho : o < 7) : ∀ (m : Nat) (z : Option Nat), ev_sf st k v o m z = ev_sf st k v (eg_pl tt o) m z := by
  intro m
  induction m with
  | zero =>
    intro z
    show (if z.isSome then (84, st) else ev_rc st k v o) = if z.isSome then (84, st) else ev_rc st k v (eg_pl tt o)
    rw [eg_rc_pl hI ho]
  | succ m ih =>
    intro z
    cases z with
    | none => exact eg_rc_pl hI ho
    | some z =>
      unfold ev_sf
      rw [ih, ih, eg_rc_pl hI ho]
theorem eg_dn (hI : eg_I tt cc st f od n) {o k : Nat} {v r : Int32} (ho : o < 7) : ev_dn st o k v r = ((ev_pi (st.2 (eg_pl tt o)) k v r).1, ev_up st (eg_pl tt o) (ev_pi (st.2 (eg_pl tt o)) k v r).2) := by
  unfold ev_dn
  rw [eg_pb hI ho 9]
theorem eg_cl (hI : eg_I tt cc st f od n) {o : Nat} (ho : o < 7) : ev_cl st o = (121, ev_up st (eg_pl tt o) (ev_shut (st.2 (eg_pl tt o)))) := by
  unfold ev_cl
  rw [eg_pb hI ho 9]
theorem eg_pi_n {t : ev_TH} {k : Nat} {v r : Int32} (h1 : ev_holds t k = false) (h2 : ev_cs t = true) : ev_pi t k v r = (110, t) := by simp [ev_pi, h1, h2]
theorem eg_pi_y {t : ev_TH} {k : Nat} {v r : Int32} (h1 : ev_holds t k = false) (h2 : ev_cs t = false) : ev_pi t k v r = (121, ev_wr (ev_lst t k) k v r) := by simp [ev_pi, h1, h2]
theorem eg_pi_4 (hI : eg_I tt cc st f od n) {i k : Nat} {v r : Int32} (hi : i < 5) (hk : k < 20) (hh : ev_holds (st.2 i) k = true) (h4 : 4 ≤ eg_r (st.2 i) k) : ev_pi (st.2 i) k v r = (121, ev_wr (st.2 i) k v r) := by
  unfold ev_pi
  rw [if_pos hh, eg_can4 hI hi hk hh, if_pos (decide_eq_true (by omega))]
theorem eg_pi_o (hI : eg_I tt cc st f od n) {i k r : Nat} {v : Int32} (hi : i < 5) (hk : k < 20) (hr : r ≤ 7) (hh : ev_holds (st.2 i) k = true) (h4 : eg_r (st.2 i) k < 4) : ev_pi (st.2 i) k v (nI r) = if r ≤ 3 ∧ r / 2 % 2 = eg_r (st.2 i) k / 2 % 2 ∧ ¬ eg_r (st.2 i) k % 2 < r % 2 ∧ (eg_r (st.2 i) k % 2 = 0 → ev_va (st.2 i) k = v) then (121, ev_wr (st.2 i) k v (nI r)) else (110, st.2 i) := by
  obtain ⟨e, h7⟩ := eg_rE hI hi hk hh
  unfold ev_pi
  rw [if_pos hh, eg_can4 hI hi hk hh, if_neg (by rw [decide_eq_false (by omega)]; exact Bool.false_ne_true), e, eg_allow _ (by omega) r (by omega)]
  simp only [decide_eq_true_eq]
theorem eg_tk_n {t : ev_TH} {k : Nat} (h : ev_holds t k = false) : ev_tk t k = (121, t) := by simp [ev_tk, h]
theorem eg_tk_4 (hI : eg_I tt cc st f od n) {i k : Nat} (hi : i < 5) (hk : k < 20) (hh : ev_holds (st.2 i) k = true) (h4 : 4 ≤ eg_r (st.2 i) k) : ev_tk (st.2 i) k = (121, ev_tko (st.2 i) k) := by
  unfold ev_tk
  rw [if_pos hh, eg_can4 hI hi hk hh, if_pos (decide_eq_true (by omega))]
  rfl
theorem eg_tk_o (hI : eg_I tt cc st f od n) {i k : Nat} (hi : i < 5) (hk : k < 20) (hh : ev_holds (st.2 i) k = true) (h4 : eg_r (st.2 i) k < 4) : ev_tk (st.2 i) k = (110, st.2 i) := by
  unfold ev_tk
  rw [if_pos hh, eg_can4 hI hi hk hh, if_neg (by rw [decide_eq_false (by omega)]; exact Bool.false_ne_true)]
theorem eg_up_self (i : Nat) : ev_up st i (st.2 i) = st := ev_up_id st i
end EGS
