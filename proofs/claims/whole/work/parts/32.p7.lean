theorem run_byte : ∀ a : Nat, a < 16 → ((5 : Int32) ||| (nI a <<< (4 &&& 31))) = ((5 : Int32) ||| (nI a <<< (4 &&& 31))) &&& 255 := by decide +kernel
theorem head_byte : ∀ k : Nat, k < 5 → ∀ x : Nat, x < 16 → ∀ s : Nat, s < 2 → ((nI k ||| nI (8 * s)) ||| (nI x <<< (4 &&& 31))) = ((nI k ||| nI (8 * s)) ||| (nI x <<< (4 &&& 31))) &&& 255 := by decide +kernel
def enInc (m : S_Model) : S_Model := (m.1, m.2.1, m.2.2.1, m.2.2.2.1, m.2.2.2.2.1, (m.2.2.2.2.2.1.1 + 1, m.2.2.2.2.2.1.2.1, m.2.2.2.2.2.1.2.2.1, m.2.2.2.2.2.1.2.2.2), m.2.2.2.2.2.2.1, m.2.2.2.2.2.2.2)
theorem p_run {m0 log0 W past c en ru sa co p m} (h : PQ m0 log0 W past c en ru sa co p m) {a : Nat} (h1 : 1 ≤ a) (h2 : a ≤ 300) (hc : c + 3 ≤ 5000) : ∃ d p' m', d ≤ 3 ∧ f_Packer_packRun p (nI a) = some p' ∧ f_Model_run (enInc m) (nI a) = some m' ∧ PQ m0 log0 W past (c + d) (en + 1) (ru + 1) sa co p' m' := by
  obtain ⟨log, row, rfl, rfl, hl⟩ := h
  have hP : PQ m0 log0 W past c (en + 1) (ru + 1) sa co (log, past, W, nI c, en + 1, ru + 1, sa, co) (MP m0 row c (en + 1) (ru + 1) sa co) := ⟨log, row, rfl, rfl, hl⟩
  unfold f_Packer_packRun f_Model_run
  rw [if_pos (show 0 < nI a from nI_lt (a := 0) h1 (by omega))]
  by_cases h15 : a ≤ 15
  · rw [if_neg (show ¬ (15 : Int32) < nI a from nI_nlt (a := 15) h15 (by decide)), if_neg (show ¬ (16 : Int32) ≤ nI a from nI_ge (b := 16) (by omega) (by decide))]
    obtain ⟨m', e1, e2⟩ := put1 hP (by omega) _ _ (run_byte a (by omega))
    refine ⟨1, _, m', by omega, rfl, ?_, e2⟩
    show f_Model_run_b23 (MP m0 row c (en + 1) (ru + 1) sa co) (nI a) (nI a) 5 = some m'
    unfold f_Model_run_b23
    rw [show f_Model_put _ _ = some m' from e1]
    simp only [Option.bind_some]
    rw [if_pos (show nI a ≤ (15 : Int32) from nI_le (b := 15) h15 (by decide))]
  · rw [if_pos (show (15 : Int32) < nI a from nI_lt (a := 15) (by omega) (by omega)), if_pos (show (16 : Int32) ≤ nI a from nI_le (a := 16) (by omega) (by omega))]
    obtain ⟨m', e1, e2⟩ := put1 hP (by omega) 5 ((5 : Int32) ||| ((0 : Int32) <<< (4 &&& 31))) (by decide)
    obtain ⟨d, p', m'', d1, d2, d3, d4, d5⟩ := p_varintE 2 (k := a) e2 (by omega) (by omega) (by omega) (by omega)
    refine ⟨d + 1, p', m'', by omega, ?_, ?_, by rw [show c + (d + 1) = c + 1 + d from by omega]; exact d5⟩
    · simp only [lt1]
      rw [nI_l (by omega), show f_Packer_packVarint _ _ = some p' from d3]; rfl
    · show f_Model_run_b23 (MP m0 row c (en + 1) (ru + 1) sa co) (nI a) 0 5 = some m''
      unfold f_Model_run_b23
      rw [show f_Model_put _ _ = some m' from e1]
      simp only [Option.bind_some]
      rw [if_neg (show ¬ nI a ≤ (15 : Int32) from nI_ge (a := 15) (by omega) (by omega)), nI_l (by omega), d4]; rfl
def zS (s : Bool) : Int32 := if s then 8 else 0
theorem e_A {m0 log0 W past c en ru sa co p m ev} {n i : Nat} (h : PQ m0 log0 W past c en ru sa co p m) (he : EOK ev n) (hq : EEq ev m0.2.1 n) (hi : i < n) (hc : c + 7 ≤ 5000) (same far : Bool) (k x kd : Int32) (hb : ((kd ||| zS same) ||| (x <<< (4 &&& 31))) = ((kd ||| zS same) ||| (x <<< (4 &&& 31))) &&& 255) : ∃ d p' m', d ≤ 7 ∧ f_Packer_packEntry_b50 p ev (nI i) same k x (zS same) kd = f_Packer_packEntry_b85 p' ev (nI i) k x ∧ f_Model_entry_b167 m (nI i) same k far x (zS same) kd = (if k ≤ 0 then f_Model_entry_b222 m' (nI i) k far false co else f_Model_entry_b222 m' (nI i) k far true co) ∧ PQ m0 log0 W past (c + d) en ru (sa + bI same) co p' m' := by
  have h3 := he.1
  obtain ⟨m1, e1, e2⟩ := put1 h (by omega) _ _ hb
  unfold f_Packer_packEntry_b50 f_Model_entry_b167
  rw [e1]
  simp only [lt1, Option.bind_some]
  cases same
  · obtain ⟨⟨dn, hd, ed⟩, -⟩ := he.2.2 i hi
    have hm1 : m1.2.1 = m0.2.1 := by obtain ⟨_, _, -, rfl, -⟩ := e2; rfl
    obtain ⟨d, p', m'', d1, d2, d3, d4, d5⟩ := p_varintE 6 (k := dn) e2 (by omega) (by omega) (by omega) (by omega)
    rw [if_pos (show bI false = 0 from rfl), if_pos (show bI false = 0 from rfl), if_neg (ini300 (by omega)), cl_n (by omega), hm1, ← (hq i hi).2.1, ed, ev_diff he hi, ed, d3, d4]
    simp only [Option.bind_some]
    obtain ⟨log, row, rfl, rfl, hl⟩ := d5
    refine ⟨d + 1, _, MP m0 row (c + 1 + d) en ru (sa + bI false) co, by omega, rfl, ?_, ?_⟩
    · unfold f_Model_entry_b190
      rw [if_pos (show bI false = 0 from rfl)]
      rfl
    · refine ⟨log, row, ?_, ?_, ?_⟩
      · rw [show sa + bI false = sa from Int32.add_zero sa, show c + (d + 1) = c + 1 + d from by omega]
      · rw [show c + (d + 1) = c + 1 + d from by omega]
      · rw [show c + (d + 1) = c + 1 + d from by omega]; exact hl
  · rw [if_neg (show ¬ bI true = 0 by decide), if_neg (show ¬ bI true = 0 by decide)]
    obtain ⟨log, row, hp, rfl, hl⟩ := e2
    refine ⟨1, _, MP m0 row (c + 1) en ru (sa + bI true) co, by omega, rfl, ?_, ?_⟩
    · unfold f_Model_entry_b190
      rw [if_neg (show ¬ bI true = 0 by decide)]
      rfl
    · exact ⟨log, row, by rw [hp]; rfl, rfl, hl⟩
theorem k_ne : ((0 : Int32) = 1) = False ∧ ((0 : Int32) = 2) = False ∧ ((0 : Int32) = 3) = False ∧ ((0 : Int32) = 4) = False ∧ ((1 : Int32) = 0) = False ∧ ((1 : Int32) = 2) = False ∧ ((1 : Int32) = 3) = False ∧ ((1 : Int32) = 4) = False ∧ ((2 : Int32) = 0) = False ∧ ((2 : Int32) = 1) = False ∧ ((2 : Int32) = 3) = False ∧ ((2 : Int32) = 4) = False ∧ ((3 : Int32) = 0) = False ∧ ((3 : Int32) = 1) = False ∧ ((3 : Int32) = 2) = False ∧ ((3 : Int32) = 4) = False ∧ ((4 : Int32) = 0) = False ∧ ((4 : Int32) = 1) = False ∧ ((4 : Int32) = 2) = False ∧ ((4 : Int32) = 3) = False := by decide
theorem e_B {m0 log0 W past c en ru sa co p m ev} {n i : Nat} (h : PQ m0 log0 W past c en ru sa co p m) (he : EOK ev n) (hq : EEq ev m0.2.1 n) (hi : i < n) (hc : c + 8 ≤ 5000) (k : Nat) (hk : k ≤ 20) (hkt : 0 < k → ev.1 i = 1) (far : Bool) (x : Int32) (hx : ev.1 i = 3 → x = bI far) : ∃ d p' m', d ≤ 8 ∧ f_Packer_packEntry_b85 p ev (nI i) (nI k) x = some p' ∧ (if nI k ≤ 0 then f_Model_entry_b222 m (nI i) (nI k) far false co else f_Model_entry_b222 m (nI i) (nI k) far true co) = some m' ∧ PQ m0 log0 W past (c + d) en ru sa (co + bI (decide (0 < k))) p' m' := by
  have h3 := he.1
  have hqi := hq i hi
  have z1 : (nI i < 0) = False := eq_false (nI_pos (by omega))
  have z2 : (nI i).toNatClampNeg = i := cl_n (by omega)
  have z3 : (300 ≤ i) = False := eq_false (by omega)
  obtain ⟨n01, n02, n03, n04, n10, n12, n13, n14, n20, n21, n23, n24, n30, n31, n32, n34, n40, n41, n42, n43⟩ := k_ne
  by_cases k0 : k = 0
  · subst k0
    rw [if_pos (show nI 0 ≤ 0 from by decide)]
    unfold f_Packer_packEntry_b85
    rw [if_pos (show nI 0 ≤ 0 from by decide)]
    unfold f_Model_entry_b222
    rw [if_pos (show nI 0 ≤ 0 from by decide)]
    obtain ⟨log, row, rfl, rfl, hl⟩ := h
    have hP : PQ m0 log0 W past c en ru sa co (log, past, W, nI c, en, ru, sa, co) (MP m0 row c en ru sa co) := ⟨log, row, rfl, rfl, hl⟩
    rw [show co + bI (decide (0 < 0)) = co from Int32.add_zero co]
    have e0 : ∀ q, ((MP m0 row c en ru sa co).1, (MP m0 row c en ru sa co).2.1, (MP m0 row c en ru sa co).2.2.1, (MP m0 row c en ru sa co).2.2.2.1, (MP m0 row c en ru sa co).2.2.2.2.1, ((MP m0 row c en ru sa co).2.2.2.2.2.1.1, (MP m0 row c en ru sa co).2.2.2.2.2.1.2.1, (MP m0 row c en ru sa co).2.2.2.2.2.1.2.2.1, q), (MP m0 row c en ru sa co).2.2.2.2.2.2.1, (MP m0 row c en ru sa co).2.2.2.2.2.2.2) = MP m0 row c en ru sa q := fun q => rfl
    rw [e0, show co + bI false = co from Int32.add_zero co]
    unfold f_Packer_packBrought
    rw [ev_kind he hi, ev_a he hi, ev_b he hi]
    have mk : ∀ m2 : S_Model, m2.2.1 = m0.2.1 → m2.2.1.1 i = ev.1 i := fun m2 e => by rw [e, hqi.1]
    have hz : (nI 0 = 0) = True := by decide
    obtain ⟨-, hv⟩ := he.2.2 i hi
    have end0 : ∀ m2 : S_Model, f_Model_entry_b327 400 m2 (nI i) ((0 : Int32) - 1) = some m2 := by
      intro m2; rw [f_Model_entry_b327, if_pos (by decide)]
    rcases hv with ⟨e, ⟨an, ha, ea⟩, -⟩ | ⟨e, bn, b1, b2, eb⟩ | ⟨e, -, bn, b1, b2, eb⟩ | ⟨e, ⟨an, ha, ea⟩, -⟩ | ⟨e, -⟩
    · rw [e]
      refine ⟨0, _, _, by omega, ?_, ?_, hP⟩
      · simp only [n01, n02, n03, n04, if_false, Option.bind_some]
      · have mk0 := mk (MP m0 row c en ru sa co) rfl
        rw [e] at mk0
        simp only [f_Model_entry_b236, f_Model_entry_b256, f_Model_entry_b281, z1, z2, z3, or_self, if_false, mk0, n01, n02, n03, n04, end0]
    · rw [e, eb]
      have mk0 := mk (MP m0 row c en ru sa co) rfl
      rw [e] at mk0
      have mb0 : (MP m0 row c en ru sa co).2.1.2.2.2.1 i = nI bn := by rw [← eb, hqi.2.2.2]; rfl
      obtain ⟨p', m', d3, d4, d5⟩ := p_bytes (i := i) (by omega) bn 400 400 c _ _ (by omega) (by omega) (by omega) (by omega) hP
      refine ⟨bn, p', m', by omega, ?_, ?_, d5⟩
      · simp only [if_true]
        rw [hqi.2.2.1, show f_Packer_packBytes _ _ (nI bn) = some p' from d3]; rfl
      · simp only [f_Model_entry_b236, f_Model_entry_b256, f_Model_entry_b281, z1, z2, z3, or_self, if_false, mk0, n12, n13, n14, hz, if_true, mb0]
        exact d4
    · rw [e, eb]
      have mk0 := mk (MP m0 row c en ru sa co) rfl
      rw [e] at mk0
      have mb0 : (MP m0 row c en ru sa co).2.1.2.2.2.1 i = nI bn := by rw [← eb, hqi.2.2.2]; rfl
      obtain ⟨m', e1, e2⟩ := put1 hP (by omega) (nI bn) (nI bn) (and255b (by omega)).symm
      have hm1 : m'.2.1 = m0.2.1 := by obtain ⟨_, _, -, rfl, -⟩ := e2; rfl
      have mk1 := mk m' hm1
      rw [e] at mk1
      refine ⟨1, _, m', by omega, ?_, ?_, e2⟩
      · simp only [n21, if_false, if_true, lt1, Option.bind_some]
      · simp only [f_Model_entry_b236, f_Model_entry_b256, f_Model_entry_b281, z1, z2, z3, or_self, if_false, mk0, if_true, mb0, e1, Option.bind_some, mk1, n21, n23, n24, end0]
    · rw [e, ea]
      have mk0 := mk (MP m0 row c en ru sa co) rfl
      rw [e] at mk0
      have ma0 : (MP m0 row c en ru sa co).2.1.2.2.1 i = lN an := by rw [← ea, hqi.2.2.1]; rfl
      rw [hx e]
      cases far
      · obtain ⟨d, p', m', d1, d2, d3, d4, d5⟩ := p_varintE 6 (k := an) hP (by omega) (by omega) (by omega) (by omega)
        have hm1 : m'.2.1 = m0.2.1 := by obtain ⟨_, _, -, rfl, -⟩ := d5; rfl
        have mk1 := mk m' hm1
        rw [e] at mk1
        refine ⟨d, p', m', by omega, ?_, ?_, d5⟩
        · simp only [n31, n32, if_false, if_true, bIf, d3, Option.bind_some]
        · simp only [f_Model_entry_b236, f_Model_entry_b256, f_Model_entry_b281, z1, z2, z3, or_self, if_false, mk0, n32, if_true, bIf, ma0, d4, Option.bind_some, mk1, n34, n31, end0]
      · refine ⟨0, _, _, by omega, ?_, ?_, hP⟩
        · simp only [n31, n32, if_false, if_true, bIt, Option.bind_some]
        · simp only [f_Model_entry_b236, f_Model_entry_b256, f_Model_entry_b281, z1, z2, z3, or_self, if_false, mk0, n32, if_true, bIt, n34, n31, end0]
    · rw [e]
      have mk0 := mk (MP m0 row c en ru sa co) rfl
      rw [e] at mk0
      obtain ⟨p', m', d3, d4, d5⟩ := p_bytes (i := i) (by omega) 4 400 400 c _ _ (by omega) (by omega) (by omega) (by omega) hP
      refine ⟨4, p', m', by omega, ?_, ?_, d5⟩
      · simp only [n41, n42, n43, if_false, if_true]
        rw [hqi.2.2.1, show f_Packer_packBytes _ _ 4 = some p' from d3]; rfl
      · simp only [f_Model_entry_b236, f_Model_entry_b256, f_Model_entry_b281, z1, z2, z3, or_self, if_false, mk0, n42, n43, if_true]
        exact d4
  · have hk1 := hkt (by omega)
    rw [if_neg (show ¬ nI k ≤ 0 from nI_nle (by omega) (by omega))]
    unfold f_Packer_packEntry_b85
    rw [if_neg (show ¬ nI k ≤ 0 from nI_nle (by omega) (by omega))]
    unfold f_Model_entry_b222
    rw [if_neg (show ¬ nI k ≤ 0 from nI_nle (by omega) (by omega))]
    obtain ⟨log, row, rfl, rfl, hl⟩ := h
    have hP : PQ m0 log0 W past c en ru sa (co + 1) (log, past, W, nI c, en, ru, sa, co + 1) (MP m0 row c en ru sa (co + 1)) := ⟨log, row, rfl, rfl, hl⟩
    have : decide (0 < k) = true := by simp; omega
    rw [this, show co + bI true = co + 1 from rfl]
    obtain ⟨d, p', m', d1, d2, d3, d4, d5⟩ := p_varintE 1 (k := k) hP (by omega) (by omega) (by omega) (by omega)
    have hm1 : m'.2.1 = m0.2.1 := by obtain ⟨_, _, -, rfl, -⟩ := d5; rfl
    have mk1 : m'.2.1.1 i = 1 := by rw [hm1, ← hqi.1]; exact hk1
    refine ⟨d, p', m', by omega, ?_, ?_, d5⟩
    · rw [nI_l (by omega)]
      rw [show f_Packer_packVarint _ _ = some p' from d3]; rfl
    · show (f_Model_varint (MP m0 row c en ru sa (co + 1)) (nI k).toInt64).bind _ = some m'
      rw [nI_l (by omega), show f_Model_varint _ _ = some m' from d4]
      have hz : (nI k = 0) = False := eq_false (nI_ne0 (by omega) (by omega))
      simp only [Option.bind_some, f_Model_entry_b236, f_Model_entry_b256, f_Model_entry_b281, z1, z2, z3, or_self, if_false, mk1, n12, n13, n14, hz, if_true]
      rw [f_Model_entry_b327, if_pos (by decide)]
