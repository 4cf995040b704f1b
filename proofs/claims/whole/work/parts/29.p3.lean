def sm (d : Nat → Int64) : Nat → Int64
  | 0 => 0
  | i + 1 => sm d i + d i
def SN (d : Nat → Int64) : Nat → Nat
  | 0 => 0
  | i + 1 => SN d i + (d i).toInt.toNat
theorem lN_toInt' {n : Nat} (h : n < 2 ^ 63) : (lN n).toInt = (n : Int) := lg_ofNat_toInt h
theorem sm_congr {d e : Nat → Int64} {n : Nat} (h : ∀ i, i < n → d i = e i) : ∀ j, j ≤ n → sm d j = sm e j := by
  intro j
  induction j with
  | zero => intro _; rfl
  | succ j ih => intro hj; show sm d j + d j = sm e j + e j; rw [ih (by omega), h j (by omega)]
theorem sm_SN {d : Nat → Int64} {n : Nat} (hn : n ≤ 300) (h : ∀ i, i < n → ∃ x : Nat, x ≤ 1099511627776 ∧ d i = lN x) : ∀ j, j ≤ n → sm d j = lN (SN d j) ∧ SN d j ≤ j * 1099511627776 := by
  intro j
  induction j with
  | zero => intro _; exact ⟨rfl, by simp [SN]⟩
  | succ j ih =>
    intro hj
    obtain ⟨h1, h2⟩ := ih (by omega)
    obtain ⟨x, hx, e⟩ := h j (by omega)
    have hd : (d j).toInt.toNat = x := by rw [e, lN_toInt' (by omega)]; omega
    refine ⟨?_, ?_⟩
    · show sm d j + d j = lN (SN d j + (d j).toInt.toNat)
      rw [h1, hd, e, lN_add]
    · show SN d j + (d j).toInt.toNat ≤ _
      rw [hd]; omega
theorem SN_mono {d : Nat → Int64} {i j : Nat} (h : i ≤ j) : SN d i ≤ SN d j := by
  induction j with
  | zero => have : i = 0 := by omega
            subst this; exact Nat.le_refl _
  | succ j ih =>
    by_cases e : i = j + 1
    · subst e; exact Nat.le_refl _
    · exact Nat.le_trans (ih (by omega)) (Nat.le_add_right _ _)
theorem sm_mono {d : Nat → Int64} {n : Nat} (hn : n ≤ 300) (h : ∀ i, i < n → ∃ x : Nat, x ≤ 1099511627776 ∧ d i = lN x) {i j : Nat} (hij : i ≤ j) (hj : j ≤ n) : sm d i ≤ sm d j := by
  have hi := sm_SN hn h i (by omega)
  have hj' := sm_SN hn h j hj
  have m := SN_mono (d := d) hij
  rw [hi.1, hj'.1, Int64.le_iff_toInt_le, lN_toInt' (by omega), lN_toInt' (by omega)]
  omega
theorem c_sum {ev : S_Events} {n k : Nat} (he : EOK ev n) (hk : k < n) : ∀ t i fuel, i + t = k + 1 → t < fuel → f_Events_sumUpTo_b5 fuel ev (nI k) (sm ev.2.1 i) (nI i) = some (sm ev.2.1 (k + 1)) := by
  have h3 := he.1
  intro t
  induction t with
  | zero =>
    intro i fuel hi hf
    obtain ⟨f, rfl⟩ : ∃ f, fuel = f + 1 := ⟨fuel - 1, by omega⟩
    have : i = k + 1 := by omega
    subst this
    rw [f_Events_sumUpTo_b5, if_pos (nI_lt (by omega) (by omega))]
  | succ t ih =>
    intro i fuel hi hf
    obtain ⟨f, rfl⟩ : ∃ f, fuel = f + 1 := ⟨fuel - 1, by omega⟩
    rw [f_Events_sumUpTo_b5, if_neg (nI_nlt (by omega) (by omega)), he.2.1, if_neg (nI_ge (by omega) (by omega)), ev_diff he (by omega), nI_1]
    exact ih (i + 1) f (by omega) (by omega)
theorem m_sum {m : S_Model} {k : Nat} (hk : k < 300) : ∀ t i fuel, i + t = k + 1 → t < fuel → f_Model_sum_b5 fuel m (nI k) (sm m.2.1.2.1 i) (nI i) = some (sm m.2.1.2.1 (k + 1)) := by
  intro t
  induction t with
  | zero =>
    intro i fuel hi hf
    obtain ⟨f, rfl⟩ : ∃ f, fuel = f + 1 := ⟨fuel - 1, by omega⟩
    have : i = k + 1 := by omega
    subst this
    rw [f_Model_sum_b5, if_pos (nI_lt (by omega) (by omega))]
  | succ t ih =>
    intro i fuel hi hf
    obtain ⟨f, rfl⟩ : ∃ f, fuel = f + 1 := ⟨fuel - 1, by omega⟩
    rw [f_Model_sum_b5, if_neg (nI_nlt (by omega) (by omega)), if_neg (ini300 (by omega)), cl_n (by omega), nI_1]
    exact ih (i + 1) f (by omega) (by omega)
theorem c_at {ev : S_Events} {n : Nat} (he : EOK ev n) (c : Int64) : ∀ t i fuel, i + t = n → t < fuel → (∀ x, x < i → sm ev.2.1 (x + 1) ≤ c) → ∃ r, r ≤ n ∧ (∀ x, x < r → sm ev.2.1 (x + 1) ≤ c) ∧ (r < n → c < sm ev.2.1 (r + 1)) ∧ f_Events_lastWithSumUpTo_b5 fuel ev c (sm ev.2.1 i) (nI i) = some (nI r - 1) := by
  have h3 := he.1
  intro t
  induction t with
  | zero =>
    intro i fuel hi hf hx
    obtain ⟨f, rfl⟩ : ∃ f, fuel = f + 1 := ⟨fuel - 1, by omega⟩
    have : i = n := by omega
    subst this
    refine ⟨i, Nat.le_refl _, hx, by omega, ?_⟩
    rw [f_Events_lastWithSumUpTo_b5, he.2.1, if_pos (nI_le (by omega) (by omega))]
  | succ t ih =>
    intro i fuel hi hf hx
    obtain ⟨f, rfl⟩ : ∃ f, fuel = f + 1 := ⟨fuel - 1, by omega⟩
    rw [f_Events_lastWithSumUpTo_b5, he.2.1, if_neg (nI_ge (by omega) (by omega)), ev_diff he (by omega), nI_1]
    simp only [lg_le0]
    by_cases h : sm ev.2.1 i + ev.2.1 i ≤ c
    · rw [if_pos h]
      refine ih (i + 1) f (by omega) (by omega) ?_
      intro x hx'
      by_cases e : x = i
      · subst e; exact h
      · exact hx x (by omega)
    · rw [if_neg h]
      exact ⟨i, by omega, hx, fun _ => i64_nle.mp h, rfl⟩
theorem m_at {m : S_Model} {n r : Nat} (c : Int64) (h3 : n ≤ 300) (hr : r ≤ n) (hd : ∀ i, i < n → ∃ x : Nat, x ≤ 1099511627776 ∧ m.2.1.2.1 i = lN x) (h1 : ∀ x, x < r → sm m.2.1.2.1 (x + 1) ≤ c) (h2 : r < n → c < sm m.2.1.2.1 (r + 1)) : ∀ t fuel, r + t ≤ n → t < fuel → f_Model_at_b12 fuel m c (nI (r + t) - 1) = some (nI r - 1, m) := by
  intro t
  induction t with
  | zero =>
    intro fuel hi hf
    obtain ⟨f, rfl⟩ : ∃ f, fuel = f + 1 := ⟨fuel - 1, by omega⟩
    rw [f_Model_at_b12]
    cases r with
    | zero => rw [if_pos (by decide)]
    | succ r =>
      rw [show nI (r + 1 + 0) - 1 = nI r from nI_pred r, if_neg (nI_pos (by omega))]
      have := m_sum (m := m) (k := r) (by omega) (r + 1) 0 400 (by omega) (by omega)
      rw [show f_Model_sum m (nI r) = some (sm m.2.1.2.1 (r + 1)) from this]
      simp only [Option.bind_some, lg_le0]
      rw [if_pos (h1 r (by omega))]
  | succ t ih =>
    intro fuel hi hf
    obtain ⟨f, rfl⟩ : ∃ f, fuel = f + 1 := ⟨fuel - 1, by omega⟩
    rw [f_Model_at_b12, show nI (r + (t + 1)) - 1 = nI (r + t) from nI_pred (r + t), if_neg (nI_pos (by omega))]
    have := m_sum (m := m) (k := r + t) (by omega) (r + t + 1) 0 400 (by omega) (by omega)
    rw [show f_Model_sum m (nI (r + t)) = some (sm m.2.1.2.1 (r + t + 1)) from this]
    simp only [Option.bind_some, lg_le0]
    have hm := sm_mono h3 hd (i := r + 1) (j := r + t + 1) (by omega) (by omega)
    have hc := h2 (by omega)
    rw [if_neg (by rw [Int64.le_iff_toInt_le] at hm ⊢; rw [Int64.lt_iff_toInt_lt] at hc; omega)]
    rw [show nI (r + t) + (-1) = nI (r + t) - 1 from (Int32.sub_eq_add_neg _ _).symm]
    exact ih f (by omega) (by omega)
theorem op_at {st : S_EventLog} {m : S_Model} (R : Rel st m) (c : Int64) : ∃ r m', f_EventLog_at st c = some r ∧ f_Model_at m c = some (r, m') ∧ Rel st m' := by
  have R0 := R
  obtain ⟨n, l, he, hn, hq, -⟩ := R
  have h3 := he.1
  obtain ⟨r, hr, h1, h2, h⟩ := c_at he c n 0 400 (by omega) (by omega) (by intro x hx; omega)
  have hd : ∀ i, i < n → st.1.2.1 i = m.2.1.2.1 i := fun i hi => (hq i hi).2.1
  refine ⟨nI r - 1, (0, m.2), ?_, ?_, Rel_code 0 R0⟩
  · unfold f_EventLog_at f_Events_lastWithSumUpTo
    rw [show f_Events_lastWithSumUpTo_b5 400 st.1 c 0 0 = some (nI r - 1) from h]
    rfl
  · have := m_at (m := (0, m.2)) c h3 hr (fun i hi => by obtain ⟨⟨x, hx, e⟩, -⟩ := he.2.2 i hi; exact ⟨x, hx, (hd i hi).symm.trans e⟩) (fun x hx => by rw [← sm_congr hd (x + 1) (by omega)]; exact h1 x hx) (fun hx => by rw [← sm_congr hd (r + 1) (by omega)]; exact h2 hx) (n - r) 400 (by omega) (by omega)
    rw [show r + (n - r) = n from by omega] at this
    unfold f_Model_at
    rw [hn]
    exact this
theorem has_eq {ev : S_Events} {n : Nat} (he : EOK ev n) (k : Int32) : f_Events_has ev k = true ↔ ∃ j, j < n ∧ k = nI j := by
  constructor
  · intro h
    by_cases h0 : k < 0
    · rw [f_Events_has, if_pos h0] at h; exact absurd h (by decide)
    · obtain ⟨j, hj, rfl⟩ := nI_of h0
      rw [f_Events_has, if_neg h0, he.2.1] at h
      by_cases h1 : nI n ≤ nI j
      · rw [if_pos h1] at h; exact absurd h (by decide)
      · rw [nI_leI (by have := he.1; omega) hj] at h1
        exact ⟨j, by omega, rfl⟩
  · rintro ⟨j, hj, rfl⟩; exact has_in_n he hj
theorem op_event {st : S_EventLog} {m : S_Model} (R : Rel st m) (k w : Int32) (of : Nat → Int64) : ∃ c of' r m', hl_event st k w of = some (c, of') ∧ f_Model_event m k w = some (r, m') ∧ f_Model_thrown m' = c ∧ (c = 0 → of' 0 = r) ∧ Rel st m' := by
  have R0 := R
  obtain ⟨n, l, he, hn, hq, -⟩ := R
  have h3 := he.1
  have w01 : ((1 : Int32) = 0) = False := by decide
  have w02 : ((2 : Int32) = 0) = False := by decide
  have w12 : ((2 : Int32) = 1) = False := by decide
  have w03 : ((3 : Int32) = 0) = False := by decide
  have w13 : ((3 : Int32) = 1) = False := by decide
  have w23 : ((3 : Int32) = 2) = False := by decide
  have w04 : ((4 : Int32) = 0) = False := by decide
  have w14 : ((4 : Int32) = 1) = False := by decide
  have w24 : ((4 : Int32) = 2) = False := by decide
  have w34 : ((4 : Int32) = 3) = False := by decide
  have l0 : ((0 : Int32) < 0) = False := by decide
  have l1 : ((1 : Int32) < 0) = False := by decide
  have l2 : ((2 : Int32) < 0) = False := by decide
  have l3 : ((3 : Int32) < 0) = False := by decide
  have l4 : ((4 : Int32) < 0) = False := by decide
  have g0 : ((0 : Int32) ≤ 4) = True := by decide
  have g1 : ((1 : Int32) ≤ 4) = True := by decide
  have g2 : ((2 : Int32) ≤ 4) = True := by decide
  have g3 : ((3 : Int32) ≤ 4) = True := by decide
  have g4 : ((4 : Int32) ≤ 4) = True := by decide
  cases hh : f_Events_has st.1 k
  · have hk : k < 0 ∨ ¬ k < nI n := by
      by_cases h0 : k < 0
      · exact Or.inl h0
      · obtain ⟨j, hj, rfl⟩ := nI_of h0
        refine Or.inr ?_
        intro h
        rw [nI_ltI hj (by omega)] at h
        rw [has_in_n he h] at hh
        exact absurd hh (by decide)
    refine ⟨1, of, 0, (1, m.2), ?_, ?_, rfl, by intro h; exact absurd h (by decide), Rel_code 1 R0⟩
    · unfold hl_event f_EventLog_event; simp only [hh, bIf, if_true]
    · have : f_Model_event m k w = f_Model_event_b13 m k w := by
        unfold f_Model_event
        rw [hn]
        rcases hk with h | h
        · rw [if_pos h]
        · rw [if_neg h, ite_self]
      rw [this]
      simp only [f_Model_event_b13, f_Model_event_b18, f_Model_event_b27, f_Model_event_b32, fails_eq, lt1, bIt, if_true, if_false, Bool.or_false, Bool.or_true, Bool.true_or, ite_self]
  · obtain ⟨j, hj, rfl⟩ := (has_eq he k).mp hh
    have z0 : (nI j < 0) = False := eq_false (nI_pos (by omega))
    have z1 : (nI j < nI n) = True := eq_true (nI_lt hj (by omega))
    have z2 : (nI j).toNatClampNeg = j := cl_n (by omega)
    have z3 : (300 ≤ j) = False := eq_false (by omega)
    have hqj := hq j hj
    by_cases k0 : w = 0
    · subst k0
      refine ⟨0, vp_updL of 0 ((st.1.1 j).toInt64), (st.1.1 j).toInt64, (0, m.2), ?_, ?_, rfl, fun _ => rfl, Rel_code 0 R0⟩
      · unfold hl_event f_EventLog_event; simp only [hh, bIt, if_false, if_true, ev_kind he hj]; rfl
      · simp only [f_Model_event, hn, z0, z1, f_Model_event_b18, l0, g0, f_Model_event_b32, fails_eq, lt1, bIf, bIt, if_true, if_false, Bool.or_false, z2, z3, or_self, Bool.false_eq_true]
        rw [hqj.1]
    by_cases k1 : w = 1
    · subst k1
      refine ⟨0, vp_updL of 0 (st.1.2.1 j), st.1.2.1 j, (0, m.2), ?_, ?_, rfl, fun _ => rfl, Rel_code 0 R0⟩
      · unfold hl_event f_EventLog_event; simp only [hh, bIt, w01, if_false, if_true, ev_diff he hj]; rfl
      · simp only [f_Model_event, hn, z0, z1, f_Model_event_b18, l1, g1, w01, f_Model_event_b32, fails_eq, lt1, bIf, bIt, if_true, if_false, Bool.or_false, z2, z3, or_self, Bool.false_eq_true]
        rw [hqj.2.1]
    by_cases k2 : w = 2
    · subst k2
      refine ⟨0, vp_updL of 0 (st.1.2.2.1 j), st.1.2.2.1 j, (0, m.2), ?_, ?_, rfl, fun _ => rfl, Rel_code 0 R0⟩
      · unfold hl_event f_EventLog_event; simp only [hh, bIt, w02, w12, if_false, if_true, ev_a he hj]; rfl
      · simp only [f_Model_event, hn, z0, z1, f_Model_event_b18, l2, g2, w02, w12, f_Model_event_b32, fails_eq, lt1, bIf, bIt, if_true, if_false, Bool.or_false, z2, z3, or_self, Bool.false_eq_true]
        rw [hqj.2.2.1]
    by_cases k3 : w = 3
    · subst k3
      refine ⟨0, vp_updL of 0 ((st.1.2.2.2.1 j).toInt64), (st.1.2.2.2.1 j).toInt64, (0, m.2), ?_, ?_, rfl, fun _ => rfl, Rel_code 0 R0⟩
      · unfold hl_event f_EventLog_event; simp only [hh, bIt, w03, w13, w23, if_false, if_true, ev_b he hj]; rfl
      · simp only [f_Model_event, hn, z0, z1, f_Model_event_b18, l3, g3, w03, w13, w23, f_Model_event_b32, fails_eq, lt1, bIf, bIt, if_true, if_false, Bool.or_false, z2, z3, or_self, Bool.false_eq_true]
        rw [hqj.2.2.2]
    by_cases k4 : w = 4
    · subst k4
      have s1 : f_Events_sumUpTo st.1 (nI j) = some (sm st.1.2.1 (j + 1)) := c_sum he hj (j + 1) 0 400 (by omega) (by omega)
      have s2 : f_Model_sum (0, m.2) (nI j) = some (sm m.2.1.2.1 (j + 1)) := m_sum (m := (0, m.2)) (by omega) (j + 1) 0 400 (by omega) (by omega)
      have s3 := sm_congr (fun i hi => (hq i hi).2.1) (j + 1) (show j + 1 ≤ n by omega)
      refine ⟨0, vp_updL of 0 (sm st.1.2.1 (j + 1)), sm st.1.2.1 (j + 1), (0, m.2), ?_, ?_, rfl, fun _ => rfl, Rel_code 0 R0⟩
      · unfold hl_event f_EventLog_event; simp only [hh, bIt, w04, w14, w24, w34, if_false, if_true, s1, Option.bind_some]; rfl
      · simp only [f_Model_event, hn, z0, z1, f_Model_event_b18, l4, g4, w04, w14, w24, w34, f_Model_event_b32, fails_eq, lt1, bIf, bIt, if_true, if_false, Bool.or_false, z2, z3, or_self, Bool.false_eq_true, s2, Option.bind_some, s3]
    refine ⟨2, of, 0, (2, m.2), ?_, ?_, rfl, by intro h; exact absurd h (by decide), Rel_code 2 R0⟩
    · unfold hl_event f_EventLog_event; simp only [hh, bIt, k0, k1, k2, k3, k4, if_false]
    · have : f_Model_event_b18 m (nI j) w false = f_Model_event_b27 m (nI j) w false := by
        unfold f_Model_event_b18
        by_cases c1 : w < 0
        · rw [if_pos c1]
        · rw [if_neg c1, if_neg]
          intro c2
          obtain ⟨x, -, hx, rfl⟩ := i32N (m := 0) (M := 4) (k := 0) (N := 4) (by decide) (by decide) (i32_nlt.mp c1) c2
          have : x = 0 ∨ x = 1 ∨ x = 2 ∨ x = 3 ∨ x = 4 := by omega
          rcases this with rfl | rfl | rfl | rfl | rfl
          · exact k0 (by decide)
          · exact k1 (by decide)
          · exact k2 (by decide)
          · exact k3 (by decide)
          · exact k4 (by decide)
      simp only [f_Model_event, hn, z0, z1, this, f_Model_event_b27, f_Model_event_b32, fails_eq, lt1, bIf, bIt, if_true, if_false, Bool.or_false, Bool.or_true, Bool.false_eq_true]
