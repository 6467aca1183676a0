/-! 12.inv: what ties the law's table to the class's state, and what keeps it -/
def eg_at (i k : Nat) : Nat := 100 + 4 * (20 * i + k)
def eg_on (o : Option Nat) : Int32 := match o with
  | none => -1
  | some j => nI j
def eg_rk (od : Nat → Nat) (k : Nat) : Nat := if k < 10 then k else 1000 + od k
/-- the listed keys are the held ones, in the order of their ranks -/
def eg_L (t : ev_TH) (od : Nat → Nat) : Prop := ev_kc t ≤ 20 ∧ ev_cnt t 20 = ev_kc t ∧ ∃ kp : Nat → Nat, (∀ j, j < ev_kc t → ev_ke t j = nI (kp j) ∧ kp j < 20 ∧ ev_holds t (kp j) = true) ∧ (∀ i j, i < j → j < ev_kc t → eg_rk od (kp i) < eg_rk od (kp j)) ∧ ∀ k, k < 20 → ev_holds t k = true → ∃ j, j < ev_kc t ∧ kp j = k
def eg_C (tt : Nat → Nat) (cc : Nat → Option Nat) : Prop := tt 5 < 5 ∧ tt 6 < 6 ∧ ∀ i, i < 5 → ∀ j, cc i = some j → j < i
def eg_Ip (cc : Nat → Option Nat) (st : ev_ST) (f : Nat → Int32) (i : Nat) : Prop := ev_tg (st.2 i) = none ∧ ev_rv (st.2 i) = false ∧ ev_ch (st.2 i) = cc i ∧ f i = ev_bi (ev_cs (st.2 i)) ∧ f (10 + i) = eg_on (cc i)
def eg_Iq (tt : Nat → Nat) (st : ev_ST) (f : Nat → Int32) (p : Nat) : Prop := ev_tg (st.2 p) = some (tt p) ∧ ev_rv (st.2 p) = false ∧ f (30 + p) = nI (tt p) ∧ ev_ch (st.2 p) = none ∧ ev_kc (st.2 p) = 0
def eg_Iw (st : ev_ST) (f : Nat → Int32) (p w : Nat) : Prop := f (60 + 4 * (p - 5) + w) = ev_bi (ev_told (st.2 p) w) ∧ (ev_told (st.2 p) w = true → f (40 + 4 * (p - 5) + w) = ev_an (st.2 p) w ∧ ∃ v, v ≤ 9999 ∧ ev_an (st.2 p) w = nI v ∧ (0 < w → v ≤ 1))
def eg_Ik (t : ev_TH) (f : Nat → Int32) (od : Nat → Nat) (n i k : Nat) : Prop := f (eg_at i k) = ev_bi (ev_holds t k) ∧ (ev_holds t k = true → f (eg_at i k + 1) = ev_va t k ∧ f (eg_at i k + 2) = ev_rg t k ∧ f (eg_at i k + 3) = nI (od k) ∧ (∃ r, r ≤ 7 ∧ ev_rg t k = nI r) ∧ 1 ≤ od k ∧ od k ≤ n)
def eg_I (tt : Nat → Nat) (cc : Nat → Option Nat) (st : ev_ST) (f : Nat → Int32) (od : Nat → Nat → Nat) (n : Nat) : Prop :=
  st.1 = 7 ∧ eg_C tt cc ∧ (∀ i, i < 5 → eg_Ip cc st f i) ∧ (∀ p, 5 ≤ p → p < 7 → eg_Iq tt st f p) ∧ (∀ p w, 5 ≤ p → p < 7 → w < 4 → eg_Iw st f p w) ∧ (∀ i k, i < 5 → k < 20 → eg_Ik (st.2 i) f (od i) n i k) ∧ f 20 = nI n ∧ ∀ i, i < 5 → eg_L (st.2 i) (od i)
theorem eg_u (f : Nat → Int32) (k : Nat) (x : Int32) (j : Nat) : upd f k x j = if j = k then x else f j := rfl
theorem eg_us (f : Nat → Int32) (k : Nat) (x : Int32) : upd f k x k = x := if_pos rfl
theorem eg_un (f : Nat → Int32) {k j : Nat} (x : Int32) (h : j ≠ k) : upd f k x j = f j := if_neg h
theorem ev_cnt_congr {t t' : ev_TH} : ∀ n, (∀ k, k < n → ev_holds t' k = ev_holds t k) → ev_cnt t' n = ev_cnt t n := by
  intro n
  induction n with
  | zero => intro _; rfl
  | succ n ih =>
    intro h
    show ev_cnt t' n + (if ev_holds t' n then 1 else 0) = ev_cnt t n + if ev_holds t n then 1 else 0
    rw [ih (fun k hk => h k (by omega)), h n (by omega)]
theorem ev_cnt_add {t t' : ev_TH} {k : Nat} (h1 : ev_holds t k = false) (h2 : ev_holds t' k = true) : ∀ n, k < n → (∀ j, j < n → j ≠ k → ev_holds t' j = ev_holds t j) → ev_cnt t' n = ev_cnt t n + 1 := by
  intro n
  induction n with
  | zero => intro h; omega
  | succ n ih =>
    intro hk h
    show ev_cnt t' n + (if ev_holds t' n then 1 else 0) = ev_cnt t n + (if ev_holds t n then 1 else 0) + 1
    by_cases hn : k = n
    · subst hn
      rw [ev_cnt_congr (t := t) k (fun j hj => h j (by omega) (by omega)), h1, h2]
      simp
    · rw [ih (by omega) (fun j hj => h j (by omega)), h n (by omega) (by omega)]
      omega
theorem ev_cnt_room {t : ev_TH} {k : Nat} (h1 : ev_holds t k = false) : ∀ n, k < n → ev_cnt t n < n := by
  intro n
  induction n with
  | zero => intro h; omega
  | succ n ih =>
    intro hk
    show ev_cnt t n + (if ev_holds t n then 1 else 0) < n + 1
    by_cases hn : k = n
    · subst hn
      have := ev_cnt_le t k
      rw [h1]
      simp
      omega
    · have := ih (by omega)
      split <;> omega
theorem eg_L.room {t : ev_TH} {od : Nat → Nat} (h : eg_L t od) {k : Nat} (hk : k < 20) (h1 : ev_holds t k = false) : ev_kc t < 20 := by
  have := ev_cnt_room h1 20 hk
  rw [h.2.1] at this
  exact this
theorem eg_L.LS {t : ev_TH} {od : Nat → Nat} (h : eg_L t od) : ev_LS t := by
  obtain ⟨h1, h2, kp, h3, h4, h5⟩ := h
  refine ⟨h1, h2, kp, h3, fun m hm j hj => ?_⟩
  have hr := h4 j m hj hm
  have ha := h3 j (by omega)
  have hb := h3 m hm
  rw [ha.1]
  refine ⟨fun e => ?_, fun hs => ?_⟩
  · have : kp j = kp m := (nI_eq (by omega) (by omega)).mp e
    rw [this] at hr
    omega
  · refine nI_le ?_ (by omega)
    unfold eg_rk at hr
    rw [if_pos hs] at hr
    split at hr <;> omega
theorem eg_L.congr {t t' : ev_TH} {od : Nat → Nat} (h : eg_L t od) (hh : ∀ k, ev_holds t' k = ev_holds t k) (hc : ev_kc t' = ev_kc t) (he : ev_ke t' = ev_ke t) : eg_L t' od := by
  obtain ⟨h1, h2, kp, h3, h4, h5⟩ := h
  refine ⟨by rw [hc]; exact h1, by rw [hc, ev_cnt_congr 20 (fun k _ => hh k)]; exact h2, kp, fun j hj => ?_, fun i j hi hj => h4 i j hi (by rw [← hc]; exact hj), fun k hk hk2 => ?_⟩
  · rw [hc] at hj
    rw [he, hh]
    exact h3 j hj
  · rw [hh] at hk2
    rw [hc]
    exact h5 k hk hk2
/-- where a key comes into the row -/
theorem eg_lk (k : Nat) : ∀ (n : Nat) (f : Nat → Int32), ∃ p, p ≤ n ∧ (∀ j, j < p → ev_lk k n f j = f j) ∧ ev_lk k n f p = nI k ∧ (∀ j, p ≤ j → j < n → ev_lk k n f (j + 1) = f j) ∧ (∀ j, p ≤ j → j < n → k < 10 ∧ ¬ f j ≤ nI k) ∧ (0 < p → ¬ (k < 10 ∧ ¬ f (p - 1) ≤ nI k)) ∧ ∀ j, n < j → ev_lk k n f j = f j := by
  intro n
  induction n with
  | zero =>
    intro f
    refine ⟨0, Nat.le_refl _, fun j hj => by omega, eg_us _ _ _, fun j _ hj => by omega, fun j _ hj => by omega, fun h => by omega, fun j hj => eg_un _ _ (by omega)⟩
  | succ n ih =>
    intro f
    rw [ev_lk_s]
    by_cases hc : k < 10 ∧ ¬ f n ≤ nI k
    · rw [if_pos hc]
      obtain ⟨p, h1, h2, h3, h4, h5, h6, h7⟩ := ih (upd f (n + 1) (f n))
      refine ⟨p, by omega, fun j hj => ?_, h3, fun j hj1 hj2 => ?_, fun j hj1 hj2 => ?_, fun hp => ?_, fun j hj => ?_⟩
      · rw [h2 j hj, eg_un _ _ (by omega)]
      · by_cases hjn : j = n
        · subst hjn
          rw [h7 (j + 1) (by omega), eg_us]
        · rw [h4 j hj1 (by omega), eg_un _ _ (by omega)]
      · by_cases hjn : j = n
        · subst hjn
          exact hc
        · have := h5 j hj1 (by omega)
          rw [eg_un _ _ (by omega)] at this
          exact this
      · have := h6 hp
        rw [eg_un _ _ (by omega)] at this
        exact this
      · rw [h7 j (by omega), eg_un _ _ (by omega)]
    · rw [if_neg hc]
      refine ⟨n + 1, Nat.le_refl _, fun j hj => eg_un _ _ (by omega), eg_us _ _ _, fun j _ hj => by omega, fun j _ hj => by omega, fun _ => hc, fun j hj => eg_un _ _ (by omega)⟩
/-- the row behind a taking-out: no such key among the last -/
theorem eg_rmA (k : Nat) : ∀ (n j p : Nat) (f : Nat → Int32), p ≤ j → (∀ i, j ≤ i → i < j + n → f i ≠ nI k) → (ev_rm k n j p f).2 = p + n ∧ (∀ i, i < p → (ev_rm k n j p f).1 i = f i) ∧ ∀ i, i < n → (ev_rm k n j p f).1 (p + i) = f (j + i) := by
  intro n
  induction n with
  | zero => intro j p f _ _; exact ⟨rfl, fun i _ => rfl, fun i hi => by omega⟩
  | succ n ih =>
    intro j p f hpj h
    have h0 : f j ≠ nI k := h j (Nat.le_refl _) (by omega)
    have e : ev_rm k (n + 1) j p f = ev_rm k n (j + 1) (p + 1) (upd f p (f j)) := by
      show (if f j = nI k then ev_rm k n (j + 1) p f else ev_rm k n (j + 1) (p + 1) (upd f p (f j))) = _
      rw [if_neg h0]
    rw [e]
    obtain ⟨h1, h2, h3⟩ := ih (j + 1) (p + 1) (upd f p (f j)) (by omega) (fun i hi1 hi2 => by rw [eg_un _ _ (by omega)]; exact h i (by omega) (by omega))
    refine ⟨by rw [h1]; omega, fun i hi => ?_, fun i hi => ?_⟩
    · rw [h2 i (by omega), eg_un _ _ (by omega)]
    · by_cases hi0 : i = 0
      · subst hi0
        rw [show p + 0 = p from rfl, h2 p (by omega), eg_us]
        rfl
      · have := h3 (i - 1) (by omega)
        rw [show p + 1 + (i - 1) = p + i from by omega, show j + 1 + (i - 1) = j + i from by omega] at this
        rw [this, eg_un _ _ (by omega)]
/-- one such key, at place q -/
theorem eg_rmB (k q : Nat) : ∀ (n j : Nat) (f : Nat → Int32), j ≤ q → q < j + n → (∀ i, j ≤ i → i < j + n → i ≠ q → f i ≠ nI k) → f q = nI k → (ev_rm k n j j f).2 + 1 = j + n ∧ (∀ i, i < q → (ev_rm k n j j f).1 i = f i) ∧ ∀ i, q ≤ i → i + 1 < j + n → (ev_rm k n j j f).1 i = f (i + 1) := by
  intro n
  induction n with
  | zero => intro j f h1 h2; omega
  | succ n ih =>
    intro j f hjq hq h hk
    by_cases hj : j = q
    · subst hj
      have e : ev_rm k (n + 1) j j f = ev_rm k n (j + 1) j f := by
        show (if f j = nI k then ev_rm k n (j + 1) j f else ev_rm k n (j + 1) (j + 1) (upd f j (f j))) = _
        rw [if_pos hk]
      rw [e]
      obtain ⟨h1, h2, h3⟩ := eg_rmA k n (j + 1) j f (by omega) (fun i hi1 hi2 => h i (by omega) (by omega) (by omega))
      refine ⟨by rw [h1]; omega, h2, fun i hi1 hi2 => ?_⟩
      have := h3 (i - j) (by omega)
      rw [show j + (i - j) = i from by omega, show j + 1 + (i - j) = i + 1 from by omega] at this
      exact this
    · have h0 : f j ≠ nI k := h j (Nat.le_refl _) (by omega) hj
      have e : ev_rm k (n + 1) j j f = ev_rm k n (j + 1) (j + 1) (upd f j (f j)) := by
        show (if f j = nI k then ev_rm k n (j + 1) j f else ev_rm k n (j + 1) (j + 1) (upd f j (f j))) = _
        rw [if_neg h0]
      have eu : upd f j (f j) = f := by
        funext i
        rw [eg_u]
        split
        · rename_i hij; rw [hij]
        · rfl
      rw [e, eu]
      obtain ⟨h1, h2, h3⟩ := ih (j + 1) f (by omega) (by omega) (fun i hi1 hi2 => h i (by omega) (by omega)) hk
      exact ⟨by omega, h2, fun i hi1 hi2 => h3 i hi1 (by omega)⟩
theorem eg_holds_wr (t : ev_TH) (k : Nat) (v r : Int32) (hr : r ≠ -1) (j : Nat) : ev_holds (ev_wr t k v r) j = if j = k then true else ev_holds t j := by
  show decide (upd (ev_rg t) k r j ≠ -1) = _
  by_cases h : j = k
  · subst h
    rw [eg_us, if_pos rfl]
    exact decide_eq_true hr
  · rw [eg_un _ _ h, if_neg h]
    rfl
theorem eg_nIm (r : Nat) (hr : r ≤ 7) : nI r ≠ -1 := by
  intro h
  have h1 : (nI r).toInt = (-1 : Int32).toInt := by rw [h]
  rw [nI_toInt (by omega)] at h1
  have : (-1 : Int32).toInt = -1 := by decide
  omega
/-- a new key is listed -/
theorem eg_L.put {t : ev_TH} {od od' : Nat → Nat} {n k : Nat} {v : Int32} {r : Nat} (h : eg_L t od) (hk : k < 20) (hh : ev_holds t k = false) (hr : r ≤ 7) (hod : ∀ j, j < 20 → ev_holds t j = true → od j ≤ n) (h1 : od' k = n + 1) (h2 : ∀ j, j ≠ k → od' j = od j) : eg_L (ev_wr (ev_lst t k) k v (nI r)) od' := by
  have hroom := h.room hk hh
  obtain ⟨c1, c2, kp, c3, c4, c5⟩ := h
  obtain ⟨p, l1, l2, l3, l4, l5, l6, l7⟩ := eg_lk k (ev_kc t) (ev_ke t)
  have hH : ∀ j, ev_holds (ev_wr (ev_lst t k) k v (nI r)) j = if j = k then true else ev_holds t j := fun j => eg_holds_wr _ _ _ _ (eg_nIm r hr) j
  have hkc : ev_kc (ev_wr (ev_lst t k) k v (nI r)) = ev_kc t + 1 := rfl
  have hke : ev_ke (ev_wr (ev_lst t k) k v (nI r)) = ev_lk k (ev_kc t) (ev_ke t) := rfl
  have hne : ∀ j, j < ev_kc t → kp j ≠ k := fun j hj e => by
    have := (c3 j hj).2.2
    rw [e, hh] at this
    cases this
  have hrk : ∀ j, j < ev_kc t → eg_rk od' (kp j) = eg_rk od (kp j) := fun j hj => by
    unfold eg_rk
    rw [h2 _ (hne j hj)]
  -- below p: smaller ranks; from p on: greater ones
  have hlo : ∀ j, j < p → eg_rk od (kp j) < eg_rk od' k := by
    intro j hj
    have hjc : j < ev_kc t := by omega
    by_cases hs : k < 10
    · have e1 : eg_rk od' k = k := if_pos hs
      have hl := l6 (by omega)
      have hle : ev_ke t (p - 1) ≤ nI k := by
        by_cases hz : ev_ke t (p - 1) ≤ nI k
        · exact hz
        · exact absurd ⟨hs, hz⟩ hl
      have hp1 := c3 (p - 1) (by omega)
      rw [hp1.1, nI_leI (by omega) (by omega)] at hle
      have hn1 := hne (p - 1) (by omega)
      have e2 : eg_rk od (kp (p - 1)) < k := by
        unfold eg_rk
        rw [if_pos (by omega)]
        omega
      rw [e1]
      by_cases hj1 : j = p - 1
      · rw [hj1]; exact e2
      · have := c4 j (p - 1) (by omega) (by omega)
        omega
    · have e1 : eg_rk od' k = 1000 + (n + 1) := by
        unfold eg_rk
        rw [if_neg hs, h1]
      rw [e1]
      have hj3 := c3 j hjc
      have := hod (kp j) hj3.2.1 hj3.2.2
      unfold eg_rk
      split <;> omega
  have hhi : ∀ j, p ≤ j → j < ev_kc t → eg_rk od' k < eg_rk od (kp j) := by
    intro j hj1 hj2
    obtain ⟨hs, hg⟩ := l5 j hj1 hj2
    have hj3 := c3 j hj2
    rw [hj3.1, nI_leI (by omega) (by omega)] at hg
    have e1 : eg_rk od' k = k := if_pos hs
    rw [e1]
    unfold eg_rk
    split <;> omega
  refine ⟨by rw [hkc]; omega, ?_, fun j => if j < p then kp j else if j = p then k else kp (j - 1), fun j hj => ?_, fun i j hi hj => ?_, fun j hj hj2 => ?_⟩
  · rw [hkc, ← c2]
    exact ev_cnt_add hh (by rw [hH, if_pos rfl]) 20 hk (fun j _ hj => by rw [hH, if_neg hj])
  · rw [hkc] at hj
    rw [hke]
    dsimp only
    by_cases a : j < p
    · have hj3 := c3 j (by omega)
      rw [if_pos a, l2 j a, hH, if_neg (hne j (by omega))]
      exact hj3
    · rw [if_neg a]
      by_cases b : j = p
      · rw [if_pos b, b, l3, hH, if_pos rfl]
        exact ⟨rfl, hk, rfl⟩
      · rw [if_neg b]
        have hj3 := c3 (j - 1) (by omega)
        have := l4 (j - 1) (by omega) (by omega)
        rw [show j - 1 + 1 = j from by omega] at this
        rw [this, hH, if_neg (hne (j - 1) (by omega))]
        exact hj3
  · rw [hkc] at hj
    dsimp only
    by_cases a : j < p
    · rw [if_pos a, if_pos (by omega), hrk i (by omega), hrk j (by omega)]
      exact c4 i j hi (by omega)
    · rw [if_neg a]
      by_cases b : j = p
      · rw [if_pos b, if_pos (by omega), hrk i (by omega)]
        exact hlo i (by omega)
      · rw [if_neg b, hrk (j - 1) (by omega)]
        by_cases a2 : i < p
        · rw [if_pos a2, hrk i (by omega)]
          by_cases q : i = j - 1
          · omega
          · exact c4 i (j - 1) (by omega) (by omega)
        · rw [if_neg a2]
          by_cases b2 : i = p
          · rw [if_pos b2]
            exact hhi (j - 1) (by omega) (by omega)
          · rw [if_neg b2, hrk (i - 1) (by omega)]
            exact c4 (i - 1) (j - 1) (by omega) (by omega)
  · rw [hH] at hj2
    by_cases a : j = k
    · refine ⟨p, by rw [hkc]; omega, ?_⟩
      dsimp only
      rw [if_neg (by omega), if_pos rfl, a]
    · rw [if_neg a] at hj2
      obtain ⟨i, hi1, hi2⟩ := c5 j hj hj2
      by_cases b : i < p
      · refine ⟨i, by rw [hkc]; omega, ?_⟩
        dsimp only
        rw [if_pos b]
        exact hi2
      · refine ⟨i + 1, by rw [hkc]; omega, ?_⟩
        dsimp only
        rw [if_neg (by omega), if_neg (by omega), show i + 1 - 1 = i from by omega]
        exact hi2
def ev_tko (t : ev_TH) (k : Nat) : ev_TH := (ev_tg t, ev_ch t, ev_rv t, ev_cs t, ev_an t, ev_va t, upd (ev_rg t) k (-1), (ev_rm k (ev_kc t) 0 0 (ev_ke t)).1, (ev_rm k (ev_kc t) 0 0 (ev_ke t)).2)
theorem eg_holds_tko (t : ev_TH) (k j : Nat) : ev_holds (ev_tko t k) j = if j = k then false else ev_holds t j := by
  show decide (upd (ev_rg t) k (-1) j ≠ -1) = _
  by_cases h : j = k
  · subst h
    rw [eg_us, if_pos rfl]
    simp
  · rw [eg_un _ _ h, if_neg h]
    rfl
theorem eg_L.take {t : ev_TH} {od : Nat → Nat} {k : Nat} (h : eg_L t od) (hk : k < 20) (hh : ev_holds t k = true) : eg_L (ev_tko t k) od := by
  obtain ⟨c1, c2, kp, c3, c4, c5⟩ := h
  obtain ⟨q, q1, q2⟩ := c5 k hk hh
  have hinj : ∀ i j, i < ev_kc t → j < ev_kc t → kp i = kp j → i = j := by
    intro i j hi hj e
    rcases Nat.lt_trichotomy i j with a | a | a
    · have := c4 i j a hj
      rw [e] at this
      omega
    · exact a
    · have := c4 j i a hi
      rw [e] at this
      omega
  obtain ⟨m1, m2, m3⟩ := eg_rmB k q (ev_kc t) 0 (ev_ke t) (Nat.zero_le _) (by omega) (fun i _ hi2 hi3 e => by
    have := c3 i (by omega)
    rw [this.1, nI_eq (by omega) (by omega)] at e
    exact hi3 (hinj i q (by omega) q1 (by rw [e, q2]))) (by rw [(c3 q q1).1, q2])
  have hkc : ev_kc (ev_tko t k) + 1 = ev_kc t := by
    have : ev_kc (ev_tko t k) = (ev_rm k (ev_kc t) 0 0 (ev_ke t)).2 := rfl
    omega
  have hke : ev_ke (ev_tko t k) = (ev_rm k (ev_kc t) 0 0 (ev_ke t)).1 := rfl
  have hne : ∀ j, j < ev_kc t → j ≠ q → kp j ≠ k := fun j hj hjq e => hjq (hinj j q hj q1 (by rw [e, q2]))
  refine ⟨by omega, ?_, fun j => if j < q then kp j else kp (j + 1), fun j hj => ?_, fun i j hi hj => ?_, fun j hj hj2 => ?_⟩
  · have := ev_cnt_add (t := ev_tko t k) (t' := t) (k := k) (by rw [eg_holds_tko, if_pos rfl]) hh 20 hk (fun j _ hj => by rw [eg_holds_tko, if_neg hj])
    omega
  · rw [hke]
    dsimp only
    by_cases a : j < q
    · rw [if_pos a, m2 j a, eg_holds_tko, if_neg (hne j (by omega) (by omega))]
      exact c3 j (by omega)
    · rw [if_neg a, m3 j (by omega) (by omega), eg_holds_tko, if_neg (hne (j + 1) (by omega) (by omega))]
      exact c3 (j + 1) (by omega)
  · dsimp only
    by_cases a : j < q
    · rw [if_pos a, if_pos (by omega)]
      exact c4 i j hi (by omega)
    · rw [if_neg a]
      split
      · exact c4 i (j + 1) (by omega) (by omega)
      · exact c4 (i + 1) (j + 1) (by omega) (by omega)
  · rw [eg_holds_tko] at hj2
    by_cases a : j = k
    · rw [if_pos a] at hj2; cases hj2
    · rw [if_neg a] at hj2
      obtain ⟨i, hi1, hi2⟩ := c5 j hj hj2
      have hiq : i ≠ q := fun e => a (by rw [← hi2, e, q2])
      by_cases b : i < q
      · refine ⟨i, by omega, ?_⟩
        dsimp only
        rw [if_pos b]
        exact hi2
      · refine ⟨i - 1, by omega, ?_⟩
        dsimp only
        rw [if_neg (by omega), show i - 1 + 1 = i from by omega]
        exact hi2
/-- a plain thing changes, and its part of the table -/
theorem eg_frame {tt : Nat → Nat} {cc : Nat → Option Nat} {st : ev_ST} {f f' : Nat → Int32} {od od' : Nat → Nat → Nat} {n n' i : Nat} {t' : ev_TH} (hI : eg_I tt cc st f od n) (hi : i < 5) (h1 : ev_tg t' = none) (h2 : ev_rv t' = false) (h3 : ev_ch t' = ev_ch (st.2 i)) (h4 : f' i = ev_bi (ev_cs t'))
    (hf : ∀ j, j ≠ i → j ≠ 20 → ¬ (eg_at i 0 ≤ j ∧ j < eg_at i 0 + 80) → f' j = f j) (hk : ∀ k, k < 20 → eg_Ik t' f' (od' i) n' i k) (ho : ∀ j, j ≠ i → od' j = od j) (hn : n ≤ n') (h20 : f' 20 = nI n') (hL : eg_L t' (od' i)) : eg_I tt cc (ev_up st i t') f' od' n' := by
  obtain ⟨g1, g2, g3, g4, g5, g6, g7, g8⟩ := hI
  have e1 : (ev_up st i t').2 i = t' := ev_up_s st i t'
  have e2 : ∀ j, j ≠ i → (ev_up st i t').2 j = st.2 j := fun j h => ev_up_n st t' h
  refine ⟨g1, g2, fun j hj => ?_, fun p hp1 hp2 => ?_, fun p w hp1 hp2 hw => ?_, fun j k hj hk2 => ?_, h20, fun j hj => ?_⟩
  · by_cases a : j = i
    · subst a
      have g := g3 j hj
      unfold eg_Ip
      rw [e1]
      refine ⟨h1, h2, by rw [h3]; exact g.2.2.1, h4, ?_⟩
      rw [hf (10 + j) (by omega) (by omega) (by unfold eg_at; omega)]
      exact g.2.2.2.2
    · have g := g3 j hj
      unfold eg_Ip
      rw [e2 j a, hf j a (by omega) (by unfold eg_at; omega)]
      refine ⟨g.1, g.2.1, g.2.2.1, g.2.2.2.1, ?_⟩
      by_cases b : 10 + j = 20
      · omega
      · rw [hf (10 + j) (by omega) b (by unfold eg_at; omega)]
        exact g.2.2.2.2
  · have g := g4 p hp1 hp2
    unfold eg_Iq
    rw [e2 p (by omega), hf (30 + p) (by omega) (by omega) (by unfold eg_at; omega)]
    exact g
  · have g := g5 p w hp1 hp2 hw
    unfold eg_Iw
    rw [e2 p (by omega), hf (60 + 4 * (p - 5) + w) (by omega) (by omega) (by unfold eg_at; omega), hf (40 + 4 * (p - 5) + w) (by omega) (by omega) (by unfold eg_at; omega)]
    exact g
  · by_cases a : j = i
    · subst a
      rw [e1]
      exact hk k hk2
    · have g := g6 j k hj hk2
      rw [e2 j a, ho j a]
      have e : ∀ z, z < 4 → f' (eg_at j k + z) = f (eg_at j k + z) := fun z hz => hf _ (by unfold eg_at; omega) (by unfold eg_at; omega) (by unfold eg_at; omega)
      have e0 : f' (eg_at j k) = f (eg_at j k) := e 0 (by decide)
      unfold eg_Ik
      rw [e0, e 1 (by decide), e 2 (by decide), e 3 (by decide)]
      exact ⟨g.1, fun hh => by
        obtain ⟨x1, x2, x3, x4, x5, x6⟩ := g.2 hh
        exact ⟨x1, x2, x3, x4, x5, by omega⟩⟩
  · by_cases a : j = i
    · subst a
      rw [e1]
      exact hL
    · rw [e2 j a, ho j a]
      exact g8 j hj
theorem eg_put_old {tt : Nat → Nat} {cc : Nat → Option Nat} {st : ev_ST} {f : Nat → Int32} {od : Nat → Nat → Nat} {n i k r : Nat} {v : Int32} (hI : eg_I tt cc st f od n) (hi : i < 5) (hk : k < 20) (hh : ev_holds (st.2 i) k = true) (hr : r ≤ 7) : eg_I tt cc (ev_up st i (ev_wr (st.2 i) k v (nI r))) (upd (upd f (eg_at i k + 1) v) (eg_at i k + 2) (nI r)) od n := by
  have g := hI.2.2.1 i hi
  have hH : ∀ j, ev_holds (ev_wr (st.2 i) k v (nI r)) j = ev_holds (st.2 i) j := fun j => by
    rw [eg_holds_wr _ _ _ _ (eg_nIm r hr)]
    split
    · rename_i e; rw [e, hh]
    · rfl
  refine eg_frame hI hi g.1 g.2.1 rfl ?_ (fun j h1 h2 h3 => ?_) (fun j hj => ?_) (fun _ _ => rfl) (Nat.le_refl _) ?_ ((hI.2.2.2.2.2.2.2 i hi).congr hH rfl rfl)
  · rw [eg_un _ _ (by unfold eg_at; omega), eg_un _ _ (by unfold eg_at; omega)]
    exact g.2.2.2.1
  · rw [eg_un _ _ (by unfold eg_at at *; omega), eg_un _ _ (by unfold eg_at at *; omega)]
  · have gk := hI.2.2.2.2.2.1 i j hi hj
    unfold eg_Ik
    rw [hH j]
    by_cases a : j = k
    · subst a
      obtain ⟨x1, x2, x3, x4, x5, x6⟩ := gk.2 hh
      refine ⟨by rw [eg_un _ _ (by omega), eg_un _ _ (by omega)]; exact gk.1, fun _ => ⟨?_, ?_, ?_, ⟨r, hr, eg_us _ _ _⟩, x5, x6⟩⟩
      · rw [eg_un _ _ (by omega), eg_us]
        exact (eg_us _ _ _).symm
      · rw [eg_us]
        exact (eg_us _ _ _).symm
      · rw [eg_un _ _ (by omega), eg_un _ _ (by omega)]
        exact x3
    · have e : ∀ z, z < 4 → upd (upd f (eg_at i k + 1) v) (eg_at i k + 2) (nI r) (eg_at i j + z) = f (eg_at i j + z) := fun z hz => by rw [eg_un _ _ (by unfold eg_at; omega), eg_un _ _ (by unfold eg_at; omega)]
      have e0 := e 0 (by decide)
      simp only [Nat.add_zero] at e0
      rw [e0, e 1 (by decide), e 2 (by decide), e 3 (by decide)]
      rw [show ev_va (ev_wr (st.2 i) k v (nI r)) j = ev_va (st.2 i) j from eg_un _ _ a, show ev_rg (ev_wr (st.2 i) k v (nI r)) j = ev_rg (st.2 i) j from eg_un _ _ a]
      exact gk
  · rw [eg_un _ _ (by unfold eg_at; omega), eg_un _ _ (by unfold eg_at; omega)]
    exact hI.2.2.2.2.2.2.1
theorem eg_put_new {tt : Nat → Nat} {cc : Nat → Option Nat} {st : ev_ST} {f : Nat → Int32} {od : Nat → Nat → Nat} {n i k r : Nat} {v : Int32} (hI : eg_I tt cc st f od n) (hi : i < 5) (hk : k < 20) (hh : ev_holds (st.2 i) k = false) (hr : r ≤ 7) :
    eg_I tt cc (ev_up st i (ev_wr (ev_lst (st.2 i) k) k v (nI r))) (upd (upd (upd (upd (upd f 20 (nI (n + 1))) (eg_at i k) (nI 1)) (eg_at i k + 3) (nI (n + 1))) (eg_at i k + 1) v) (eg_at i k + 2) (nI r)) (fun a => if a = i then (fun z => if z = k then n + 1 else od i z) else od a) (n + 1) := by
  have g := hI.2.2.1 i hi
  have hH : ∀ j, ev_holds (ev_wr (ev_lst (st.2 i) k) k v (nI r)) j = if j = k then true else ev_holds (st.2 i) j := fun j => eg_holds_wr _ _ _ _ (eg_nIm r hr) j
  refine eg_frame hI hi g.1 g.2.1 rfl ?_ (fun j h1 h2 h3 => ?_) (fun j hj => ?_) (fun j hj => if_neg hj) (Nat.le_succ _) ?_ ?_
  · rw [eg_un _ _ (by unfold eg_at; omega), eg_un _ _ (by unfold eg_at; omega), eg_un _ _ (by unfold eg_at; omega), eg_un _ _ (by unfold eg_at; omega), eg_un _ _ (by omega)]
    exact g.2.2.2.1
  · rw [eg_un _ _ (by unfold eg_at at *; omega), eg_un _ _ (by unfold eg_at at *; omega), eg_un _ _ (by unfold eg_at at *; omega), eg_un _ _ (by unfold eg_at at *; omega), eg_un _ _ (by omega)]
  · have gk := hI.2.2.2.2.2.1 i j hi hj
    unfold eg_Ik
    rw [hH j, if_pos rfl]
    by_cases a : j = k
    · subst a
      rw [if_pos rfl]
      refine ⟨?_, fun _ => ⟨?_, ?_, ?_, ⟨r, hr, eg_us _ _ _⟩, ?_, ?_⟩⟩
      · rw [eg_un _ _ (by omega), eg_un _ _ (by omega), eg_un _ _ (by omega), eg_us]
        rfl
      · rw [eg_un _ _ (by omega), eg_us]
        exact (eg_us _ _ _).symm
      · rw [eg_us]
        exact (eg_us _ _ _).symm
      · rw [eg_un _ _ (by omega), eg_un _ _ (by omega), eg_us]
        try dsimp only
        rw [if_pos rfl]
      · try dsimp only
        rw [if_pos rfl]
        omega
      · try dsimp only
        rw [if_pos rfl]
        omega
    · have e : ∀ z, z < 4 → upd (upd (upd (upd (upd f 20 (nI (n + 1))) (eg_at i k) (nI 1)) (eg_at i k + 3) (nI (n + 1))) (eg_at i k + 1) v) (eg_at i k + 2) (nI r) (eg_at i j + z) = f (eg_at i j + z) := fun z hz => by rw [eg_un _ _ (by unfold eg_at; omega), eg_un _ _ (by unfold eg_at; omega), eg_un _ _ (by unfold eg_at; omega), eg_un _ _ (by unfold eg_at; omega), eg_un _ _ (by unfold eg_at; omega)]
      have e0 := e 0 (by decide)
      simp only [Nat.add_zero] at e0
      rw [if_neg a, e0, e 1 (by decide), e 2 (by decide), e 3 (by decide)]
      rw [show ev_va (ev_wr (ev_lst (st.2 i) k) k v (nI r)) j = ev_va (st.2 i) j from eg_un _ _ a, show ev_rg (ev_wr (ev_lst (st.2 i) k) k v (nI r)) j = ev_rg (st.2 i) j from eg_un _ _ a]
      try dsimp only
      rw [if_neg a]
      exact ⟨gk.1, fun hh => by
        obtain ⟨x1, x2, x3, x4, x5, x6⟩ := gk.2 hh
        exact ⟨x1, x2, x3, x4, x5, by omega⟩⟩
  · rw [eg_un _ _ (by unfold eg_at; omega), eg_un _ _ (by unfold eg_at; omega), eg_un _ _ (by unfold eg_at; omega), eg_un _ _ (by unfold eg_at; omega), eg_us]
  · refine (hI.2.2.2.2.2.2.2 i hi).put (n := n) hk hh hr (fun j hj hj2 => ((hI.2.2.2.2.2.1 i j hi hj).2 hj2).2.2.2.2.2) ?_ (fun j hj => ?_)
    · try dsimp only
      rw [if_pos rfl, if_pos rfl]
    · try dsimp only
      rw [if_pos rfl, if_neg hj]
theorem eg_take {tt : Nat → Nat} {cc : Nat → Option Nat} {st : ev_ST} {f : Nat → Int32} {od : Nat → Nat → Nat} {n i k : Nat} (hI : eg_I tt cc st f od n) (hi : i < 5) (hk : k < 20) (hh : ev_holds (st.2 i) k = true) : eg_I tt cc (ev_up st i (ev_tko (st.2 i) k)) (upd f (eg_at i k) (nI 0)) od n := by
  have g := hI.2.2.1 i hi
  refine eg_frame hI hi g.1 g.2.1 rfl ?_ (fun j h1 h2 h3 => ?_) (fun j hj => ?_) (fun _ _ => rfl) (Nat.le_refl _) ?_ ((hI.2.2.2.2.2.2.2 i hi).take hk hh)
  · rw [eg_un _ _ (by unfold eg_at; omega)]
    exact g.2.2.2.1
  · rw [eg_un _ _ (by unfold eg_at at *; omega)]
  · have gk := hI.2.2.2.2.2.1 i j hi hj
    unfold eg_Ik
    rw [eg_holds_tko]
    by_cases a : j = k
    · subst a
      rw [if_pos rfl, eg_us]
      exact ⟨rfl, fun h => by cases h⟩
    · have e : ∀ z, z < 4 → upd f (eg_at i k) (nI 0) (eg_at i j + z) = f (eg_at i j + z) := fun z hz => by rw [eg_un _ _ (by unfold eg_at; omega)]
      have e0 := e 0 (by decide)
      simp only [Nat.add_zero] at e0
      rw [if_neg a, e0, e 1 (by decide), e 2 (by decide), e 3 (by decide)]
      rw [show ev_va (ev_tko (st.2 i) k) j = ev_va (st.2 i) j from rfl, show ev_rg (ev_tko (st.2 i) k) j = ev_rg (st.2 i) j from eg_un _ _ a]
      exact gk
  · rw [eg_un _ _ (by unfold eg_at; omega)]
    exact hI.2.2.2.2.2.2.1
theorem eg_upid {f : Nat → Int32} {j : Nat} {x : Int32} (h : f j = x) : upd f j x = f := by
  funext i
  rw [eg_u]
  split
  · rename_i e; rw [e, h]
  · rfl
theorem eg_close {tt : Nat → Nat} {cc : Nat → Option Nat} {st : ev_ST} {f : Nat → Int32} {od : Nat → Nat → Nat} {n i : Nat} (hI : eg_I tt cc st f od n) (hi : i < 5) : eg_I tt cc (ev_up st i (ev_shut (st.2 i))) (upd f i (nI 1)) od n := by
  have g := hI.2.2.1 i hi
  refine eg_frame hI hi g.1 g.2.1 rfl ?_ (fun j h1 h2 h3 => eg_un _ _ h1) (fun j hj => ?_) (fun _ _ => rfl) (Nat.le_refl _) ?_ ((hI.2.2.2.2.2.2.2 i hi).congr (fun _ => rfl) rfl rfl)
  · rw [eg_us]
    rfl
  · have gk := hI.2.2.2.2.2.1 i j hi hj
    have e : ∀ z, z < 4 → upd f i (nI 1) (eg_at i j + z) = f (eg_at i j + z) := fun z hz => by rw [eg_un _ _ (by unfold eg_at; omega)]
    have e0 := e 0 (by decide)
    simp only [Nat.add_zero] at e0
    unfold eg_Ik
    rw [e0, e 1 (by decide), e 2 (by decide), e 3 (by decide)]
    exact gk
  · rw [eg_un _ _ (by omega)]
    exact hI.2.2.2.2.2.2.1
theorem eg_tell {tt : Nat → Nat} {cc : Nat → Option Nat} {st : ev_ST} {f : Nat → Int32} {od : Nat → Nat → Nat} {n p w v : Nat} (hI : eg_I tt cc st f od n) (hp1 : 5 ≤ p) (hp2 : p < 7) (hw : w < 4) (hv : v ≤ 9999) (hv1 : 0 < w → v ≤ 1) : eg_I tt cc (ev_up st p (ev_kA (st.2 p) w (nI v))) (upd (upd f (60 + 4 * (p - 5) + w) (nI 1)) (40 + 4 * (p - 5) + w) (nI v)) od n := by
  obtain ⟨g1, g2, g3, g4, g5, g6, g7, g8⟩ := hI
  have e1 : (ev_up st p (ev_kA (st.2 p) w (nI v))).2 p = ev_kA (st.2 p) w (nI v) := ev_up_s st p _
  have e2 : ∀ j, j ≠ p → (ev_up st p (ev_kA (st.2 p) w (nI v))).2 j = st.2 j := fun j h => ev_up_n st _ h
  have hf : ∀ j, j ≠ 60 + 4 * (p - 5) + w → j ≠ 40 + 4 * (p - 5) + w → upd (upd f (60 + 4 * (p - 5) + w) (nI 1)) (40 + 4 * (p - 5) + w) (nI v) j = f j := fun j h1 h2 => by rw [eg_un _ _ h2, eg_un _ _ h1]
  refine ⟨g1, g2, fun j hj => ?_, fun q hq1 hq2 => ?_, fun q z hq1 hq2 hz => ?_, fun j k hj hk2 => ?_, ?_, fun j hj => ?_⟩
  · unfold eg_Ip
    rw [e2 j (by omega), hf j (by omega) (by omega), hf (10 + j) (by omega) (by omega)]
    exact g3 j hj
  · have g := g4 q hq1 hq2
    unfold eg_Iq
    rw [hf (30 + q) (by omega) (by omega)]
    by_cases a : q = p
    · subst a
      rw [e1]
      exact g
    · rw [e2 q a]
      exact g
  · have g := g5 q z hq1 hq2 hz
    unfold eg_Iw
    by_cases a : q = p
    · subst a
      rw [e1]
      by_cases b : z = w
      · subst b
        have ht : ev_told (ev_kA (st.2 q) z (nI v)) z = true := by
          show decide (upd (ev_an (st.2 q)) z (nI v) z ≠ 1000000) = true
          rw [eg_us]
          refine decide_eq_true (fun e => ?_)
          have h1 : (nI v).toInt = (1000000 : Int32).toInt := by rw [e]
          rw [nI_toInt (by omega)] at h1
          have : (1000000 : Int32).toInt = 1000000 := by decide
          omega
        rw [ht, eg_un _ _ (by omega), eg_us, eg_us]
        refine ⟨rfl, fun _ => ⟨(eg_us _ _ _).symm, v, hv, eg_us _ _ _, hv1⟩⟩
      · rw [hf _ (by omega) (by omega), hf _ (by omega) (by omega)]
        have h1 : ev_an (ev_kA (st.2 q) w (nI v)) z = ev_an (st.2 q) z := eg_un _ _ b
        have h2 : ev_told (ev_kA (st.2 q) w (nI v)) z = ev_told (st.2 q) z := by
          unfold ev_told
          rw [h1]
        rw [h1, h2]
        exact g
    · rw [e2 q a, hf _ (by omega) (by omega), hf _ (by omega) (by omega)]
      exact g
  · have e : ∀ z, z < 4 → upd (upd f (60 + 4 * (p - 5) + w) (nI 1)) (40 + 4 * (p - 5) + w) (nI v) (eg_at j k + z) = f (eg_at j k + z) := fun z hz => hf _ (by unfold eg_at; omega) (by unfold eg_at; omega)
    have e0 := e 0 (by decide)
    simp only [Nat.add_zero] at e0
    unfold eg_Ik
    rw [e2 j (by omega), e0, e 1 (by decide), e 2 (by decide), e 3 (by decide)]
    exact g6 j k hj hk2
  · rw [hf 20 (by omega) (by omega)]
    exact g7
  · rw [e2 j (by omega)]
    exact g8 j hj
