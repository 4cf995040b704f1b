theorem nl64a {x : Int64} : (0 ≤ x) = ¬ x < 0 := propext i64_nlt.symm
theorem nl64b {x y : Int64} : (x ≤ y) = ¬ y < x := propext i64_nlt.symm
theorem nl32 {x y : Int32} : (x ≤ y) = ¬ y < x := propext i32_nlt.symm
theorem c_isEvent (k : Int32) (d a : Int64) (b : Int32) : f_EventLog_isEvent k d a b = true ↔ SAID k d a b := by
  unfold f_EventLog_isEvent f_EventLog_isProcess f_EventLog_isSignal SAID
  simp only [lg_lt0, lg_gt0, lg_le0, bI0]
  by_cases h1 : d < 0
  · rw [if_pos h1]
    simp only [Bool.false_eq_true, false_iff]
    intro h; exact absurd h.1.1 (i64_nle.mpr h1)
  · rw [if_neg h1]
    by_cases h2 : d ≤ 1099511627776
    · rw [if_pos h2]
      have hd : 0 ≤ d ∧ d ≤ 1099511627776 := ⟨i64_nlt.mp h1, h2⟩
      simp only [hd, and_self, true_and]
      by_cases k0 : k = 0
      · subst k0
        by_cases a1 : a < 0 <;> by_cases a2 : 15 < a <;> simp only [nl64a, nl64b, a1, a2] <;> simp
      · by_cases k1 : k = 1
        · subst k1
          by_cases b1 : b < 1 <;> by_cases b2 : 8 < b <;> simp only [nl32, b1, b2] <;> simp
        · by_cases k2 : k = 2
          · subst k2
            by_cases a1 : a < 0 <;> by_cases a2 : 15 < a <;> by_cases b1 : b < 1 <;> by_cases b2 : 31 < b <;> simp only [nl64a, nl64b, nl32, a1, a2, b1, b2] <;> simp [bI]
          · by_cases k3 : k = 3
            · subst k3
              by_cases a1 : a < 0 <;> by_cases a2 : 1099511627776 < a <;> simp only [nl64a, nl64b, a1, a2] <;> simp
            · by_cases k4 : k = 4
              · subst k4; simp
              · simp [k0, k1, k2, k3, k4]
    · rw [if_neg h2]
      simp only [Bool.false_eq_true, false_iff]
      intro h; exact absurd h.1.2 h2
theorem m_isSaid (k : Int32) (d a : Int64) (b : Int32) : f_Model_isSaid k d a b = true ↔ SAID k d a b := by
  unfold f_Model_isSaid SAID
  have e1 := (i32_l b 1 1 rfl).1
  have e2 := (i32_l b 8 8 rfl).2
  have e3 := (i32_l b 31 31 rfl).2
  have q1 := (i32_l k 0 0 rfl).1
  have q2 := (i32_l k 4 4 rfl).2
  by_cases hk : f_Model_in k.toInt64 0 4 = true
  · rw [if_neg (by rw [bI0, hk]; decide)]
    by_cases hd : f_Model_in d 0 1099511627776 = true
    · rw [if_neg (by rw [bI0, hd]; decide)]
      rw [m_in] at hd
      simp only [hd, and_self, true_and]
      by_cases k0 : k = 0
      · subst k0; simp [m_in]
      · by_cases k1 : k = 1
        · subst k1; simp [m_in, e1, e2]
        · by_cases k2 : k = 2
          · subst k2
            by_cases p1 : f_Model_in a 0 15 = true <;> by_cases p2 : f_Model_in b.toInt64 1 31 = true
            · rw [m_in] at p1; have p2' := p2; rw [m_in, e1, e3] at p2'
              simp [bI0, p2, p1, p2', (m_in a 0 15).mpr p1]
            · have p2' := p2; rw [m_in, e1, e3] at p2'
              simp only [Bool.not_eq_true] at p2
              simp [bI0, p1, p2]
              intro _ _ h; exact i32_nle.mp (fun h9 => p2' ⟨h, h9⟩)
            · have p1' := p1; rw [m_in] at p1'
              simp only [Bool.not_eq_true] at p1
              simp [bI0, p1]
              intro h h9; exact absurd ⟨h, h9⟩ p1'
            · have p1' := p1; rw [m_in] at p1'
              simp only [Bool.not_eq_true] at p1
              simp [bI0, p1]
              intro h h9; exact absurd ⟨h, h9⟩ p1'
          · by_cases k4 : k = 4
            · subst k4; simp
            · have k3 : k = 3 := by
                rw [m_in, q1, q2, Int32.le_iff_toInt_le, Int32.le_iff_toInt_le] at hk
                have z0 := i32n (k := 0) k0 (by decide); have z1 := i32n (k := 1) k1 (by decide); have z2 := i32n (k := 2) k2 (by decide); have z4 := i32n (k := 4) k4 (by decide)
                have w0 : (0 : Int32).toInt = 0 := by decide
                have w4 : (4 : Int32).toInt = 4 := by decide
                rw [w0, w4] at hk
                apply Int32.toInt_inj.mp
                have w3 : (3 : Int32).toInt = 3 := by decide
                omega
              subst k3
              by_cases p1 : f_Model_in a 0 1099511627776 = true
              · have p1' := (m_in _ _ _).mp p1; simp [bI0, p1, p1']
              · have p1' := p1; rw [m_in] at p1'
                simp only [Bool.not_eq_true] at p1
                simp [bI0, p1]
                intro h; exact i64_nle.mp (fun h9 => p1' ⟨h, h9⟩)
    · rw [if_pos (by rw [bI0]; simpa using hd)]
      rw [m_in] at hd
      simp only [Bool.false_eq_true, false_iff]
      intro h; exact hd h.1
  · rw [if_pos (by rw [bI0]; simpa using hk)]
    rw [m_in, q1, q2] at hk
    simp only [Bool.false_eq_true, false_iff]
    rintro ⟨-, h⟩
    apply hk
    rcases h with ⟨rfl, -⟩ | ⟨rfl, -⟩ | ⟨rfl, -⟩ | ⟨rfl, -⟩ | rfl <;> decide
theorem said_eq (k : Int32) (d a : Int64) (b : Int32) : f_EventLog_isEvent k d a b = f_Model_isSaid k d a b := Bool.eq_iff_iff.mpr ((c_isEvent k d a b).trans (m_isSaid k d a b).symm)
