/-! THE PURE PART: the class's functions against the reference's. -/
theorem bI0 {b : Bool} : bI b = 0 ↔ b = false := by cases b <;> decide
theorem bIn {b : Bool} : ¬ bI b = 0 ↔ b = true := by cases b <;> decide
def VE (k : Int32) (d a : Int64) (b : Int32) : Prop := (∃ dn : Nat, dn ≤ 1099511627776 ∧ d = lN dn) ∧ ((k = 0 ∧ (∃ an : Nat, an ≤ 15 ∧ a = lN an) ∧ b = 0) ∨ (k = 1 ∧ ∃ bn : Nat, 1 ≤ bn ∧ bn ≤ 8 ∧ b = nI bn) ∨ (k = 2 ∧ (∃ an : Nat, an ≤ 15 ∧ a = lN an) ∧ ∃ bn : Nat, 1 ≤ bn ∧ bn ≤ 31 ∧ b = nI bn) ∨ (k = 3 ∧ (∃ an : Nat, an ≤ 1099511627776 ∧ a = lN an) ∧ b = 0) ∨ (k = 4 ∧ b = 0))
def EOK (ev : S_Events) (n : Nat) : Prop := n ≤ 300 ∧ ev.2.2.2.2 = nI n ∧ ∀ i, i < n → VE (ev.1 i) (ev.2.1 i) (ev.2.2.1 i) (ev.2.2.2.1 i)
def EEq (e f : S_Events) (n : Nat) : Prop := ∀ i, i < n → e.1 i = f.1 i ∧ e.2.1 i = f.2.1 i ∧ e.2.2.1 i = f.2.2.1 i ∧ e.2.2.2.1 i = f.2.2.2.1 i
def LOK (w : S_Bytes) (l : Nat) : Prop := l ≤ 5000 ∧ w.2 = nI l ∧ ∀ i, i < l → ∃ c : Nat, c < 256 ∧ w.1 i = nI c
def Rel (st : S_EventLog) (m : S_Model) : Prop := ∃ n l : Nat, EOK st.1 n ∧ m.2.1.2.2.2.2 = nI n ∧ EEq st.1 m.2.1 n ∧ LOK st.2.2.1 l ∧ m.2.2.2.1.2 = nI l ∧ (∀ i, i < l → st.2.2.1.1 i = m.2.2.2.1.1 i) ∧ ∃ k : Nat, k ≤ 300 ∧ st.2.1.2.2.2.2 = nI k
theorem ini300 {i : Nat} (h : i < 300) : ¬ (nI i < 0 ∨ 300 ≤ (nI i).toNatClampNeg) := vp_in_nI (N := 300) h (by omega)
theorem ini5000 {i : Nat} (h : i < 5000) : ¬ (nI i < 0 ∨ 5000 ≤ (nI i).toNatClampNeg) := vp_in_nI (N := 5000) h (by omega)
theorem cl_n {i : Nat} (h : i < 5001) : (nI i).toNatClampNeg = i := nI_clamp (by omega)
theorem has_in_n {ev : S_Events} {n i : Nat} (he : EOK ev n) (h : i < n) : f_Events_has ev (nI i) = true := by
  unfold f_Events_has
  rw [if_neg (nI_pos (by have := he.1; omega)), he.2.1, if_neg (nI_ge h (by have := he.1; omega)), if_neg (show ¬ (300 : Int32) ≤ nI i from nI_ge (b := 300) (by have := he.1; omega) (by decide))]
theorem has_m1 {ev : S_Events} : f_Events_has ev (-1) = false := by
  unfold f_Events_has
  rw [if_pos (by decide)]
theorem ev_kind {ev : S_Events} {n i : Nat} (he : EOK ev n) (h : i < n) : f_Events_kind ev (nI i) = ev.1 i := by
  unfold f_Events_kind
  rw [has_in_n he h, if_neg (by decide), cl_n (by have := he.1; omega)]
theorem ev_diff {ev : S_Events} {n i : Nat} (he : EOK ev n) (h : i < n) : f_Events_difference ev (nI i) = ev.2.1 i := by
  unfold f_Events_difference
  rw [has_in_n he h, if_neg (by decide), cl_n (by have := he.1; omega)]
theorem ev_a {ev : S_Events} {n i : Nat} (he : EOK ev n) (h : i < n) : f_Events_a ev (nI i) = ev.2.2.1 i := by
  unfold f_Events_a
  rw [has_in_n he h, if_neg (by decide), cl_n (by have := he.1; omega)]
theorem ev_b {ev : S_Events} {n i : Nat} (he : EOK ev n) (h : i < n) : f_Events_b ev (nI i) = ev.2.2.2.1 i := by
  unfold f_Events_b
  rw [has_in_n he h, if_neg (by decide), cl_n (by have := he.1; omega)]
theorem ev_diff_m1 {ev : S_Events} : f_Events_difference ev (-1) = 0 := by
  unfold f_Events_difference
  rw [has_m1, if_pos (by decide)]
theorem fails_eq (m : S_Model) (a b c : Bool) : f_Model_fails m a b c = ((a || b || c), ((if a then 1 else if b then 2 else if c then 3 else 0), m.2)) := by
  cases a <;> cases b <;> cases c <;> rfl
theorem lg_lt0 {x y : Int64} : (lg_cmp x y < 0) = (x < y) := propext (lg_cmp_lt x y)
theorem lg_gt0 {x y : Int64} : (0 < lg_cmp x y) = (y < x) := propext (lg_cmp_gt x y)
theorem lg_le0 {x y : Int64} : (lg_cmp x y ≤ 0) = (x ≤ y) := propext (lg_cmp_le x y)
theorem lg_ge0 {x y : Int64} : (0 ≤ lg_cmp x y) = (y ≤ x) := propext (lg_cmp_ge x y)
theorem lg_eq0 {x y : Int64} : (lg_cmp x y = 0) = (x = y) := propext (lg_cmp_eq x y)
/-- what 'add' takes -/
def SAID (k : Int32) (d a : Int64) (b : Int32) : Prop := (0 ≤ d ∧ d ≤ 1099511627776) ∧ ((k = 0 ∧ 0 ≤ a ∧ a ≤ 15) ∨ (k = 1 ∧ 1 ≤ b ∧ b ≤ 8) ∨ (k = 2 ∧ (0 ≤ a ∧ a ≤ 15) ∧ 1 ≤ b ∧ b ≤ 31) ∨ (k = 3 ∧ 0 ≤ a ∧ a ≤ 1099511627776) ∨ k = 4)
theorem i64_nlt {x y : Int64} : ¬ x < y ↔ y ≤ x := by rw [Int64.lt_iff_toInt_lt, Int64.le_iff_toInt_le]; omega
theorem i32_nlt {x y : Int32} : ¬ x < y ↔ y ≤ x := by rw [Int32.lt_iff_toInt_lt, Int32.le_iff_toInt_le]; omega
theorem i32_nle {x y : Int32} : ¬ x ≤ y ↔ y < x := by rw [Int32.lt_iff_toInt_lt, Int32.le_iff_toInt_le]; omega
theorem i64_nle {x y : Int64} : ¬ x ≤ y ↔ y < x := by rw [Int64.lt_iff_toInt_lt, Int64.le_iff_toInt_le]; omega
theorem m_in (x a b : Int64) : f_Model_in x a b = true ↔ a ≤ x ∧ x ≤ b := by
  unfold f_Model_in
  simp only [lg_lt0, lg_gt0]
  by_cases h1 : x < a
  · rw [if_pos h1]; simp only [Bool.false_eq_true, false_iff, not_and]; intro h; exact absurd h (by rw [i64_nle]; exact h1)
  · rw [if_neg h1]
    by_cases h2 : b < x
    · rw [if_pos h2]; simp only [Bool.false_eq_true, false_iff, not_and]; intro _; rw [i64_nle]; exact h2
    · rw [if_neg h2]; simp only [true_iff]; exact ⟨i64_nlt.mp h1, i64_nlt.mp h2⟩
theorem c_proc (x : Int64) : f_EventLog_isProcess x = f_Model_in x 0 15 := rfl
theorem i32_l (x : Int32) (k : Int64) (j : Int32) (h : k = j.toInt64) : (k ≤ x.toInt64 ↔ j ≤ x) ∧ (x.toInt64 ≤ k ↔ x ≤ j) := by
  subst h
  rw [Int64.le_iff_toInt_le, Int64.le_iff_toInt_le, Int32.le_iff_toInt_le, Int32.le_iff_toInt_le, Int32.toInt_toInt64, Int32.toInt_toInt64]
  exact ⟨Iff.rfl, Iff.rfl⟩
