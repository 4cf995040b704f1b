theorem tf (p : Prop) : p = True ∨ p = False := Classical.propComplete p
theorem bIt : (bI true = 0) = False := by decide
theorem bIf : (bI false = 0) = True := by decide
theorem Rel_code {st : S_EventLog} {m : S_Model} (c : Int32) (R : Rel st m) : Rel st (c, m.2) := R
theorem i64N {x M : Int64} {N : Nat} (hM : M.toInt = N) (h0 : 0 ≤ x) (h1 : x ≤ M) : ∃ n : Nat, n ≤ N ∧ x = lN n := by
  rw [Int64.le_iff_toInt_le] at h0 h1
  have z : (0 : Int64).toInt = 0 := by decide
  have hx : x.toInt < 2 ^ 63 := Int64.toInt_lt x
  refine ⟨x.toInt.toNat, by omega, ?_⟩
  apply Int64.toInt_inj.mp
  rw [show lN x.toInt.toNat = Int64.ofNat x.toInt.toNat from rfl, lg_ofNat_toInt (by omega)]
  omega
theorem i32N {x m M : Int32} {N k : Nat} (hm : m.toInt = k) (hM : M.toInt = N) (h0 : m ≤ x) (h1 : x ≤ M) : ∃ n : Nat, k ≤ n ∧ n ≤ N ∧ x = nI n := by
  rw [Int32.le_iff_toInt_le] at h0 h1
  have hx : x.toInt < 2 ^ 31 := Int32.toInt_lt x
  refine ⟨x.toInt.toNat, by omega, by omega, ?_⟩
  apply Int32.toInt_inj.mp
  rw [nI_toInt (by omega)]
  omega
theorem said_ve {k : Int32} {d a : Int64} {b : Int32} (h : SAID k d a b) : VE k d (f_EventLog_heldA k a b) (f_EventLog_heldB k b) := by
  obtain ⟨⟨h1, h2⟩, h⟩ := h
  refine ⟨i64N (by decide) h1 h2, ?_⟩
  rcases h with ⟨rfl, h3, h4⟩ | ⟨rfl, h3, h4⟩ | ⟨rfl, ⟨h3, h4⟩, h5, h6⟩ | ⟨rfl, h3, h4⟩ | rfl
  · exact Or.inl ⟨rfl, i64N (M := 15) (by decide) h3 h4, rfl⟩
  · exact Or.inr (Or.inl ⟨rfl, i32N (m := 1) (M := 8) (by decide) (by decide) h3 h4⟩)
  · exact Or.inr (Or.inr (Or.inl ⟨rfl, i64N (M := 15) (by decide) h3 h4, i32N (m := 1) (M := 31) (by decide) (by decide) h5 h6⟩))
  · exact Or.inr (Or.inr (Or.inr (Or.inl ⟨rfl, i64N (M := 1099511627776) (by decide) h3 h4, rfl⟩)))
  · exact Or.inr (Or.inr (Or.inr (Or.inr ⟨rfl, rfl⟩)))
theorem held1 (a : Int64) (b : Int32) : f_EventLog_heldA 1 a b = f_Model_low a b := by
  unfold f_EventLog_heldA f_Model_low
  rw [if_neg (by decide), if_pos rfl]
  by_cases h : (8 : Int32) ≤ b
  · rw [if_pos h, if_neg]
    rw [Int32.le_iff_toInt_le] at h ⊢
    have z1 : (8 : Int32).toInt = 8 := by decide
    have z2 : (7 : Int32).toInt = 7 := by decide
    omega
  · rw [if_neg h, if_pos]
    rw [Int32.le_iff_toInt_le] at h ⊢
    have z1 : (8 : Int32).toInt = 8 := by decide
    have z2 : (7 : Int32).toInt = 7 := by decide
    omega
theorem held4 (a : Int64) (b : Int32) : f_EventLog_heldA 4 a b = f_Model_low a 4 := by
  unfold f_EventLog_heldA f_Model_low
  rw [if_pos rfl, if_pos (by decide)]
  rw [show ((1 : Int64) <<< (((8 : Int32) * 4).toInt64 &&& 63)) - 1 = 4294967295 from by decide]
theorem eok_app {ek : Nat → Int32} {ed ea : Nat → Int64} {eb : Nat → Int32} {n : Nat} {k : Int32} {d a : Int64} {b : Int32} (h : EOK (ek, ed, ea, eb, nI n) n) (hn : n < 300) (v : VE k d a b) : EOK (upd ek n k, vp_updL ed n d, vp_updL ea n a, upd eb n b, nI (n + 1)) (n + 1) := by
  refine ⟨by omega, rfl, ?_⟩
  intro i hi
  dsimp only [upd, vp_updL]
  by_cases e : i = n
  · rw [if_pos e, if_pos e, if_pos e, if_pos e]; exact v
  · rw [if_neg e, if_neg e, if_neg e, if_neg e]; exact h.2.2 i (by omega)
theorem eeq_app {ek mk : Nat → Int32} {ed ea md ma : Nat → Int64} {eb mb : Nat → Int32} {n : Nat} {k : Int32} {d a : Int64} {b : Int32} {x y x' y' : Int32} (h : EEq (ek, ed, ea, eb, x) (mk, md, ma, mb, y) n) : EEq (upd ek n k, vp_updL ed n d, vp_updL ea n a, upd eb n b, x') (upd mk n k, vp_updL md n d, vp_updL ma n a, upd mb n b, y') (n + 1) := by
  intro i hi
  dsimp only [upd, vp_updL]
  by_cases e : i = n
  · simp only [if_pos e, and_self]
  · simp only [if_neg e]; exact h i (by omega)
theorem app_eq {ek : Nat → Int32} {ed ea : Nat → Int64} {eb : Nat → Int32} {n : Nat} {k : Int32} {d a : Int64} {b : Int32} (hn : n < 300) : f_Events_append (ek, ed, ea, eb, nI n) k d a b = (upd ek n k, vp_updL ed n d, vp_updL ea n a, upd eb n b, nI (n + 1)) := by
  unfold f_Events_append
  dsimp only
  rw [if_neg (nI_pos (by omega)), if_pos (show nI n < (300 : Int32) from nI_lt (b := 300) hn (by decide)), cl_n (by omega), nI_1]
theorem op_add {st : S_EventLog} {m : S_Model} (R : Rel st m) (k : Int32) (d a : Int64) (b : Int32) (of : Nat → Int64) : ∃ c st' of' r m', hl_add st k d a b of = some (c, st', of') ∧ f_Model_add m k d a b = some (r, m') ∧ f_Model_thrown m' = c ∧ (c = 0 → of' 0 = r.toInt64) ∧ Rel st' m' := by
  obtain ⟨⟨ek, ed, ea, eb, en⟩, sp, lg, pk, rd⟩ := st
  obtain ⟨mc, ⟨mk, md, ma, mb, mn⟩, mw, ml, mp, mcn, mat, mf⟩ := m
  have R0 := R
  obtain ⟨n, l, he, hn, hq, hl, hml, hb, z, hz, hs⟩ := R
  have he' := he
  obtain ⟨hn3, hen, hv⟩ := he'
  dsimp only at hn hq hl hml hb hs hen
  subst hen; subst hn
  have hE := said_eq k d a b
  cases hg : f_Model_isSaid k d a b
  · rw [hg] at hE
    refine ⟨1, _, of, 0, (1, (mk, md, ma, mb, nI n), mw, ml, mp, mcn, mat, mf), ?_, ?_, rfl, by intro h; exact absurd h (by decide), Rel_code 1 R0⟩
    · unfold hl_add f_EventLog_add; simp only [hE, bIf, if_true]
    · simp only [f_Model_add, f_Model_add_b22, f_Model_add_b41, f_Model_add_b42, fails_eq, lt1, hg, bIf, bIt, if_true, if_false, Bool.or_false, Bool.or_true]
  · rw [hg] at hE
    have hsd := (m_isSaid k d a b).mp hg
    by_cases h3 : n < 300
    · have q1 : (nI n < (300 : Int32)) = True := eq_true (nI_lt (b := 300) h3 (by decide))
      have q2 : (nI n = (300 : Int32)) = False := eq_false (by intro h; have := (nI_eq (a := n) (b := 300) (by omega) (by decide)).mp h; omega)
      have q3 : (nI n < 0) = False := eq_false (nI_pos (by omega))
      have q4 : (nI n).toNatClampNeg = n := cl_n (by omega)
      have q5 : (300 ≤ n) = False := eq_false (by omega)
      have ve := said_ve hsd
      refine ⟨0, ((upd ek n k, vp_updL ed n d, vp_updL ea n (f_EventLog_heldA k a b), upd eb n (f_EventLog_heldB k b), nI (n + 1)), sp, lg, pk, rd), vp_updL of 0 ((nI (n + 1)).toInt64), nI (n + 1), (0, (upd mk n k, vp_updL md n d, vp_updL ma n (f_EventLog_heldA k a b), upd mb n (f_EventLog_heldB k b), nI (n + 1)), mw, ml, mp, mcn, mat, mf), ?_, ?_, rfl, ?_, ?_⟩
      · unfold hl_add f_EventLog_add
        simp only [hE, bIt, if_false, f_Events_number, q1, if_true, app_eq h3, lt1]
        rfl
      · have kk : k = 0 ∨ k = 1 ∨ k = 2 ∨ k = 3 ∨ k = 4 := by
          rcases hsd.2 with ⟨h, -⟩ | ⟨h, -⟩ | ⟨h, -⟩ | ⟨h, -⟩ | h
          · exact Or.inl h
          · exact Or.inr (Or.inl h)
          · exact Or.inr (Or.inr (Or.inl h))
          · exact Or.inr (Or.inr (Or.inr (Or.inl h)))
          · exact Or.inr (Or.inr (Or.inr (Or.inr h)))
        have e01 : ((0 : Int32) = 1) = False := by decide
        have e02 : ((0 : Int32) = 2) = False := by decide
        have e04 : ((0 : Int32) = 4) = False := by decide
        have e21 : ((2 : Int32) = 1) = False := by decide
        have e24 : ((2 : Int32) = 4) = False := by decide
        have e31 : ((3 : Int32) = 1) = False := by decide
        have e32 : ((3 : Int32) = 2) = False := by decide
        have e34 : ((3 : Int32) = 4) = False := by decide
        have e41 : ((4 : Int32) = 1) = False := by decide
        have e42 : ((4 : Int32) = 2) = False := by decide
        have e14 : ((1 : Int32) = 4) = False := by decide
        rcases kk with rfl | rfl | rfl | rfl | rfl <;>
          simp only [f_Model_add, f_Model_add_b22, f_Model_add_b41, f_Model_add_b42, f_Model_add_b110, f_Model_add_b129, f_Model_add_b135, fails_eq, lt1, hg, bIf, bIt, if_true, if_false, Bool.or_false, Bool.or_true, q1, q2, q3, q4, q5, or_self, e01, e02, e04, e21, e24, e31, e32, e34, e41, e42, nI_1, held1, held4, f_EventLog_heldB, Bool.false_eq_true] <;> simp only [f_EventLog_heldA, e01, e04, e21, e24, e31, e34, if_false]
      · intro _; rfl
      · refine ⟨n + 1, l, eok_app he h3 ve, rfl, eeq_app hq, hl, hml, hb, z, hz, hs⟩
    · have h3' : n = 300 := by omega
      subst h3'
      refine ⟨2, _, of, 0, (2, (mk, md, ma, mb, nI 300), mw, ml, mp, mcn, mat, mf), ?_, ?_, rfl, by intro h; exact absurd h (by decide), Rel_code 2 R0⟩
      · unfold hl_add f_EventLog_add
        have q1 : (nI 300 < (300 : Int32)) = False := by decide
        simp only [hE, bIt, if_false, f_Events_number, q1]
      · have q1 : (nI 300 = (300 : Int32)) = True := by decide
        simp only [f_Model_add, f_Model_add_b22, f_Model_add_b41, f_Model_add_b42, fails_eq, lt1, hg, bIf, bIt, q1, if_true, if_false, Bool.or_false, Bool.or_true, Bool.false_eq_true]
theorem i32_of_nlt {x : Int32} (h : ¬ x < 0) : ∃ j : Nat, j < 2 ^ 31 ∧ x = nI j := nI_of h
theorem op_drop {st : S_EventLog} {m : S_Model} (R : Rel st m) (k : Int32) (of : Nat → Int64) : ∃ c st' of' r m', hl_drop st k of = some (c, st', of') ∧ f_Model_drop m k = (r, m') ∧ f_Model_thrown m' = c ∧ (c = 0 → of' 0 = r.toInt64) ∧ Rel st' m' := by
  obtain ⟨⟨ek, ed, ea, eb, en⟩, sp, lg, pk, rd⟩ := st
  obtain ⟨mc, ⟨mk, md, ma, mb, mn⟩, mw, ml, mp, mcn, mat, mf⟩ := m
  have R0 := R
  obtain ⟨n, l, he, hn, hq, hl, hml, hb, z, hz, hs⟩ := R
  have he' := he
  obtain ⟨hn3, hen, hv⟩ := he'
  dsimp only at hn hq hl hml hb hs hen
  subst hen; subst hn
  by_cases h0 : k < 0
  · refine ⟨1, _, of, 0, (1, (mk, md, ma, mb, nI n), mw, ml, mp, mcn, mat, mf), ?_, ?_, rfl, by intro h; exact absurd h (by decide), Rel_code 1 R0⟩
    · unfold hl_drop f_EventLog_drop; simp only [h0, if_true]
    · simp only [f_Model_drop, f_Model_drop_b13, f_Model_drop_b18, fails_eq, lt1, h0, bIf, bIt, if_true, if_false, Bool.or_false, Bool.or_true]
  · obtain ⟨j, hj, rfl⟩ := nI_of h0
    by_cases h1 : j ≤ n
    · have q1 : (nI j ≤ nI n) = True := eq_true ((nI_leI hj (by omega)).mpr h1)
      refine ⟨0, ((ek, ed, ea, eb, nI j), sp, lg, pk, rd), vp_updL of 0 ((nI n - nI j).toInt64), nI n - nI j, (0, (mk, md, ma, mb, nI j), mw, ml, mp, mcn, mat, mf), ?_, ?_, rfl, ?_, ?_⟩
      · unfold hl_drop f_EventLog_drop
        have q2 : f_Events_keepFirst (ek, ed, ea, eb, nI n) (nI j) = (ek, ed, ea, eb, nI j) := by
          unfold f_Events_keepFirst
          dsimp only
          rw [if_neg h0]
          by_cases e : n ≤ j
          · have : n = j := by omega
            subst this; rw [if_pos (nI_le (by omega) (by omega))]
          · rw [if_neg (nI_ge (by omega) (by omega))]
        simp only [h0, if_false, f_Events_number, q1, if_true, q2, lt1]
        rfl
      · simp only [f_Model_drop, f_Model_drop_b13, f_Model_drop_b18, fails_eq, lt1, h0, q1, bIf, bIt, if_true, if_false, Bool.or_false, Bool.or_true, Bool.false_eq_true]
      · intro _; rfl
      · exact ⟨j, l, ⟨by omega, rfl, fun i hi => hv i (by omega)⟩, rfl, fun i hi => hq i (by omega), hl, hml, hb, z, hz, hs⟩
    · have q1 : (nI j ≤ nI n) = False := eq_false (by rw [nI_leI hj (by omega)]; exact h1)
      refine ⟨1, _, of, 0, (1, (mk, md, ma, mb, nI n), mw, ml, mp, mcn, mat, mf), ?_, ?_, rfl, by intro h; exact absurd h (by decide), Rel_code 1 R0⟩
      · unfold hl_drop f_EventLog_drop; simp only [h0, f_Events_number, q1, if_false]
      · simp only [f_Model_drop, f_Model_drop_b13, f_Model_drop_b18, fails_eq, lt1, h0, q1, bIf, bIt, if_true, if_false, Bool.or_false, Bool.or_true]
theorem op_cut {st : S_EventLog} {m : S_Model} (R : Rel st m) (k : Int32) (of : Nat → Int64) : ∃ c st' of' r m', hl_cut st k of = some (c, st', of') ∧ f_Model_cut m k = (r, m') ∧ f_Model_thrown m' = c ∧ (c = 0 → of' 0 = r.toInt64) ∧ Rel st' m' := by
  obtain ⟨ev, sp, ⟨lr, ll⟩, pk, rd⟩ := st
  obtain ⟨mc, me, mw, ⟨mr, ml⟩, mp, mcn, mat, mf⟩ := m
  have R0 := R
  obtain ⟨n, l, he, hn, hq, hl, hml, hb, z, hz, hs⟩ := R
  have hl' := hl
  obtain ⟨hl5, hll, hv⟩ := hl'
  dsimp only at hn hq hl hml hb hs hll
  subst hll; subst hml
  by_cases h0 : k < 0
  · refine ⟨1, _, of, 0, (1, me, mw, (mr, nI l), mp, mcn, mat, mf), ?_, ?_, rfl, by intro h; exact absurd h (by decide), Rel_code 1 R0⟩
    · unfold hl_cut f_EventLog_cut; simp only [h0, if_true]
    · simp only [f_Model_cut, f_Model_cut_b13, f_Model_cut_b18, fails_eq, lt1, h0, bIf, bIt, if_true, if_false, Bool.or_false, Bool.or_true]
  · obtain ⟨j, hj, rfl⟩ := nI_of h0
    by_cases h1 : j ≤ l
    · have q1 : (nI j ≤ nI l) = True := eq_true ((nI_leI hj (by omega)).mpr h1)
      refine ⟨0, (ev, sp, (lr, nI j), pk, rd), vp_updL of 0 ((nI l - nI j).toInt64), nI l - nI j, (0, me, mw, (mr, nI j), mp, mcn, mat, mf), ?_, ?_, rfl, ?_, ?_⟩
      · unfold hl_cut f_EventLog_cut
        have q2 : f_Bytes_keepFirst (lr, nI l) (nI j) = (lr, nI j) := by
          unfold f_Bytes_keepFirst
          dsimp only
          rw [if_neg h0]
          by_cases e : l ≤ j
          · have : l = j := by omega
            subst this; rw [if_pos (nI_le (by omega) (by omega))]
          · rw [if_neg (nI_ge (by omega) (by omega))]
        simp only [h0, if_false, f_Bytes_length, q1, if_true, q2, lt1]
        rfl
      · simp only [f_Model_cut, f_Model_cut_b13, f_Model_cut_b18, fails_eq, lt1, h0, q1, bIf, bIt, if_true, if_false, Bool.or_false, Bool.or_true, Bool.false_eq_true]
      · intro _; rfl
      · exact ⟨n, j, he, hn, hq, ⟨by omega, rfl, fun i hi => hv i (by omega)⟩, rfl, fun i hi => hb i (by omega), z, hz, hs⟩
    · have q1 : (nI j ≤ nI l) = False := eq_false (by rw [nI_leI hj (by omega)]; exact h1)
      refine ⟨1, _, of, 0, (1, me, mw, (mr, nI l), mp, mcn, mat, mf), ?_, ?_, rfl, by intro h; exact absurd h (by decide), Rel_code 1 R0⟩
      · unfold hl_cut f_EventLog_cut; simp only [h0, f_Bytes_length, q1, if_false]
      · simp only [f_Model_cut, f_Model_cut_b13, f_Model_cut_b18, fails_eq, lt1, h0, q1, bIf, bIt, if_true, if_false, Bool.or_false, Bool.or_true]
theorem op_byteAt {st : S_EventLog} {m : S_Model} (R : Rel st m) (k : Int32) (of : Nat → Int64) : ∃ c of' r m', hl_byteAt st k of = some (c, of') ∧ f_Model_byteAt m k = some (r, m') ∧ f_Model_thrown m' = c ∧ (c = 0 → of' 0 = r.toInt64) ∧ Rel st m' := by
  obtain ⟨ev, sp, ⟨lr, ll⟩, pk, rd⟩ := st
  obtain ⟨mc, me, mw, ⟨mr, ml⟩, mp, mcn, mat, mf⟩ := m
  have R0 := R
  obtain ⟨n, l, he, hn, hq, hl, hml, hb, z, hz, hs⟩ := R
  have hl' := hl
  obtain ⟨hl5, hll, hv⟩ := hl'
  dsimp only at hn hq hl hml hb hs hll
  subst hll; subst hml
  by_cases h0 : k < 0
  · refine ⟨1, of, 0, (1, me, mw, (mr, nI l), mp, mcn, mat, mf), ?_, ?_, rfl, by intro h; exact absurd h (by decide), Rel_code 1 R0⟩
    · unfold hl_byteAt f_EventLog_byteAt; simp only [h0, if_true]
    · simp only [f_Model_byteAt, f_Model_byteAt_b13, f_Model_byteAt_b18, fails_eq, lt1, h0, bIf, bIt, if_true, if_false, Bool.or_false, Bool.or_true]
  · obtain ⟨j, hj, rfl⟩ := nI_of h0
    by_cases h1 : j < l
    · have q1 : (nI j < nI l) = True := eq_true ((nI_ltI hj (by omega)).mpr h1)
      have q4 : (nI j).toNatClampNeg = j := cl_n (by omega)
      have q5 : (5000 ≤ j) = False := eq_false (by omega)
      have q3 : (nI j < 0) = False := eq_false h0
      refine ⟨0, vp_updL of 0 ((lr j).toInt64), lr j, (0, me, mw, (mr, nI l), mp, mcn, mat, mf), ?_, ?_, rfl, ?_, Rel_code 0 R0⟩
      · unfold hl_byteAt f_EventLog_byteAt
        have q2 : f_Bytes_get (lr, nI l) (nI j) = lr j := by
          unfold f_Bytes_get
          dsimp only
          rw [if_neg h0, if_neg (nI_ge h1 (by omega)), if_neg (show ¬ (5000 : Int32) ≤ nI j from nI_ge (b := 5000) (by omega) (by decide)), q4]
        simp only [h0, if_false, f_Bytes_length, q1, if_true, q2]
        rfl
      · simp only [f_Model_byteAt, f_Model_byteAt_b13, f_Model_byteAt_b18, fails_eq, lt1, q3, q4, q5, q1, bIf, bIt, if_true, if_false, Bool.or_false, Bool.or_true, Bool.false_eq_true, or_self]
        rw [hb j h1]
      · intro _; rfl
    · have q1 : (nI j < nI l) = False := eq_false (by rw [nI_ltI hj (by omega)]; exact h1)
      refine ⟨1, of, 0, (1, me, mw, (mr, nI l), mp, mcn, mat, mf), ?_, ?_, rfl, by intro h; exact absurd h (by decide), Rel_code 1 R0⟩
      · unfold hl_byteAt f_EventLog_byteAt; simp only [h0, f_Bytes_length, q1, if_false]
      · simp only [f_Model_byteAt, f_Model_byteAt_b13, f_Model_byteAt_b18, fails_eq, lt1, h0, q1, bIf, bIt, if_true, if_false, Bool.or_false, Bool.or_true]
theorem op_poke {st : S_EventLog} {m : S_Model} (R : Rel st m) (k b : Int32) : ∃ c st' m', hl_poke st k b = some (c, st') ∧ f_Model_poke m k b = some m' ∧ f_Model_thrown m' = c ∧ Rel st' m' := by
  obtain ⟨ev, sp, ⟨lr, ll⟩, pk, rd⟩ := st
  obtain ⟨mc, me, mw, ⟨mr, ml⟩, mp, mcn, mat, mf⟩ := m
  have R0 := R
  obtain ⟨n, l, he, hn, hq, hl, hml, hb, z, hz, hs⟩ := R
  have hl' := hl
  obtain ⟨hl5, hll, hv⟩ := hl'
  dsimp only at hn hq hl hml hb hs hll
  subst hll; subst hml
  have e1 := (i32_l b 0 0 rfl).1
  have e2 := (i32_l b 255 255 rfl).2
  by_cases g : 0 ≤ b ∧ b ≤ 255
  · have g0 : f_Model_in b.toInt64 0 255 = true := by rw [m_in, e1, e2]; exact g
    have g1 : (b < 0) = False := eq_false (i32_nlt.mpr g.1)
    have g2 : (b ≤ 255) = True := eq_true g.2
    obtain ⟨bn, -, hbn, rfl⟩ := i32N (m := 0) (M := 255) (k := 0) (N := 255) (by decide) (by decide) g.1 g.2
    by_cases h0 : k < 0
    · refine ⟨2, _, (2, me, mw, (mr, nI l), mp, mcn, mat, mf), ?_, ?_, rfl, Rel_code 2 R0⟩
      · unfold hl_poke f_EventLog_poke; simp only [g1, g2, h0, if_true, if_false]
      · have q9 : (k = 5000) = False := eq_false (by rintro rfl; exact absurd h0 (by decide))
        simp only [f_Model_poke, f_Model_poke_b16, f_Model_poke_b17, f_Model_poke_b36, f_Model_poke_b45, f_Model_poke_b57, g0, fails_eq, lt1, h0, q9, bIf, bIt, if_true, if_false, Bool.or_false, Bool.or_true, Bool.false_eq_true]
    · obtain ⟨j, hj, rfl⟩ := nI_of h0
      have h0' : (nI j < 0) = False := eq_false h0
      by_cases h1 : j ≤ l
      · have q0 : (nI j ≤ nI l) = True := eq_true ((nI_leI hj (by omega)).mpr h1)
        have q1 : (nI l < nI j) = False := eq_false (by rw [nI_ltI (by omega) hj]; omega)
        by_cases h5 : j < 5000
        · have q5 : (nI j < (5000 : Int32)) = True := eq_true (nI_lt (b := 5000) h5 (by decide))
          have q6 : (nI j = (5000 : Int32)) = False := eq_false (by intro h; have := (nI_eq (a := j) (b := 5000) hj (by decide)).mp h; omega)
          have q4 : (nI j).toNatClampNeg = j := cl_n (by omega)
          have q7 : (5000 ≤ j) = False := eq_false (by omega)
          by_cases h2 : j = l
          · subst h2
            refine ⟨0, (ev, sp, (upd lr j (nI bn), nI (j + 1)), pk, rd), (0, me, mw, (upd mr j (nI bn), nI (j + 1)), mp, mcn, mat, mf), ?_, ?_, rfl, ?_⟩
            · have q8 : f_Bytes_append (lr, nI j) (nI bn) = (upd lr j (nI bn), nI (j + 1)) := by
                unfold f_Bytes_append
                dsimp only
                rw [if_neg h0, if_neg (show ¬ (5000 : Int32) ≤ nI j from nI_ge (b := 5000) (by omega) (by decide)), q4, nI_1]
              unfold hl_poke f_EventLog_poke
              simp only [g1, g2, h0', q0, q5, f_Bytes_length, if_true, if_false, q8, lt1]
            · simp only [f_Model_poke, f_Model_poke_b16, f_Model_poke_b17, f_Model_poke_b36, f_Model_poke_b45, f_Model_poke_b57, g0, fails_eq, lt1, h0', q1, q6, q4, q7, bIf, bIt, if_true, if_false, Bool.or_false, Bool.or_true, Bool.false_eq_true, or_self, nI_1]
            · refine ⟨n, j + 1, he, hn, hq, ⟨by omega, rfl, ?_⟩, rfl, ?_, z, hz, hs⟩
              · intro i hi
                dsimp only [upd]
                by_cases e : i = j
                · rw [if_pos e]; exact ⟨bn, by omega, rfl⟩
                · rw [if_neg e]; exact hv i (by omega)
              · intro i hi
                dsimp only [upd]
                by_cases e : i = j
                · rw [if_pos e, if_pos e]
                · rw [if_neg e, if_neg e]; exact hb i (by omega)
          · have q9 : (nI j = nI l) = False := eq_false (by rw [nI_eq hj (by omega)]; exact h2)
            refine ⟨0, (ev, sp, (upd lr j (nI bn), nI l), pk, rd), (0, me, mw, (upd mr j (nI bn), nI l), mp, mcn, mat, mf), ?_, ?_, rfl, ?_⟩
            · have q8 : f_Bytes_put (lr, nI l) (nI j) (nI bn) = (upd lr j (nI bn), nI l) := by
                unfold f_Bytes_put
                dsimp only
                rw [if_neg h0, if_neg (nI_ge (by omega) (by omega)), if_neg (show ¬ (5000 : Int32) ≤ nI j from nI_ge (b := 5000) (by omega) (by decide)), q4]
              unfold hl_poke f_EventLog_poke
              simp only [g1, g2, h0', q0, q5, f_Bytes_length, if_true, if_false, q9, q8, lt1]
            · simp only [f_Model_poke, f_Model_poke_b16, f_Model_poke_b17, f_Model_poke_b36, f_Model_poke_b45, f_Model_poke_b57, g0, fails_eq, lt1, h0', q1, q6, q4, q7, q9, bIf, bIt, if_true, if_false, Bool.or_false, Bool.or_true, Bool.false_eq_true, or_self, nI_1]
            · refine ⟨n, l, he, hn, hq, ⟨by omega, rfl, ?_⟩, rfl, ?_, z, hz, hs⟩
              · intro i hi
                dsimp only [upd]
                by_cases e : i = j
                · rw [if_pos e]; exact ⟨bn, by omega, rfl⟩
                · rw [if_neg e]; exact hv i (by omega)
              · intro i hi
                dsimp only [upd]
                by_cases e : i = j
                · rw [if_pos e, if_pos e]
                · rw [if_neg e, if_neg e]; exact hb i (by omega)
        · have j5 : j = 5000 := by omega
          subst j5
          refine ⟨3, _, (3, me, mw, (mr, nI l), mp, mcn, mat, mf), ?_, ?_, rfl, Rel_code 3 R0⟩
          · have q5 : (nI 5000 < (5000 : Int32)) = False := by decide
            unfold hl_poke f_EventLog_poke; simp only [g1, g2, h0', q0, q5, f_Bytes_length, if_true, if_false]
          · have q6 : (nI 5000 = (5000 : Int32)) = True := by decide
            simp only [f_Model_poke, f_Model_poke_b16, f_Model_poke_b17, f_Model_poke_b36, f_Model_poke_b45, f_Model_poke_b57, g0, fails_eq, lt1, h0', q1, q6, bIf, bIt, if_true, if_false, Bool.or_false, Bool.or_true, Bool.false_eq_true]
      · have q0 : (nI j ≤ nI l) = False := eq_false (by rw [nI_leI hj (by omega)]; exact h1)
        have q1 : (nI l < nI j) = True := eq_true (by rw [nI_ltI (by omega) hj]; omega)
        refine ⟨2, _, (2, me, mw, (mr, nI l), mp, mcn, mat, mf), ?_, ?_, rfl, Rel_code 2 R0⟩
        · unfold hl_poke f_EventLog_poke; simp only [g1, g2, h0', q0, f_Bytes_length, if_true, if_false]
        · rcases tf (nI j = (5000 : Int32)) with h5 | h5 <;>
            simp only [f_Model_poke, f_Model_poke_b16, f_Model_poke_b17, f_Model_poke_b36, f_Model_poke_b45, f_Model_poke_b57, g0, fails_eq, lt1, h0', q1, h5, bIf, bIt, if_true, if_false, Bool.or_false, Bool.or_true, Bool.false_eq_true]
  · have g0 : f_Model_in b.toInt64 0 255 = false := by rw [Bool.eq_false_iff, ne_eq, m_in, e1, e2]; exact g
    refine ⟨1, _, (1, me, mw, (mr, nI l), mp, mcn, mat, mf), ?_, ?_, rfl, Rel_code 1 R0⟩
    · unfold hl_poke f_EventLog_poke
      by_cases h9 : b < 0
      · simp only [h9, if_true]
      · have h8 : (b ≤ 255) = False := eq_false (fun h => g ⟨i32_nlt.mp h9, h⟩)
        simp only [h9, h8, if_false]
    · by_cases h0 : k < 0
      · have q9 : (k = 5000) = False := eq_false (by rintro rfl; exact absurd h0 (by decide))
        simp only [f_Model_poke, f_Model_poke_b16, f_Model_poke_b17, f_Model_poke_b36, f_Model_poke_b45, f_Model_poke_b57, g0, fails_eq, lt1, h0, q9, bIf, bIt, if_true, if_false, Bool.or_false, Bool.or_true, Bool.false_eq_true]
      · by_cases h1 : nI l < k <;> rcases tf (k = (5000 : Int32)) with h5 | h5 <;>
          simp only [f_Model_poke, f_Model_poke_b16, f_Model_poke_b17, f_Model_poke_b36, f_Model_poke_b45, f_Model_poke_b57, g0, fails_eq, lt1, h0, h1, h5, bIf, bIt, if_true, if_false, Bool.or_false, Bool.or_true, Bool.false_eq_true, Bool.true_or]
