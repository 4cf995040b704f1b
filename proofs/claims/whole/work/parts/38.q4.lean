theorem run_loop {m0 : S_Model} {log : S_Bytes} {S N last q : Nat} (fp : Int32) (hS : S ≤ 300) (hN : N ≤ 300) : ∀ t j n e new past f1 f2, j + t = N → n + t ≤ S → last < n → EV e new past n → e.1 (n - 1) = e.1 last → e.2.1 (n - 1) = e.2.1 last → e.2.2.1 (n - 1) = e.2.2.1 last → e.2.2.2.1 (n - 1) = e.2.2.2.1 last → t < f1 → t < f2 → ∃ past' e' new', f_Reader_readRun_b78 f1 (log, past, nI q, 0, fp) e (nI last) (lN N) (nI j) = some ((log, past', nI q, 0, fp), e') ∧ f_Model_readRun_b84 f2 (MR m0 new (nI q) 0) (lN N) (lN j) = some (MR m0 new' (nI q) 0) ∧ EV e' new' past' (n + t) := by
  have ord : ∀ a b : Nat, a ≤ 300 → b ≤ 300 → ((lN a ≤ lN b) ↔ a ≤ b) := by
    intro a b ha hb
    rw [Int64.le_iff_toInt_le, lN_toInt' (by omega), lN_toInt' (by omega)]; omega
  intro t
  induction t with
  | zero =>
    intro j n e new past f1 f2 hj hn hl he _ _ _ _ hf1 hf2
    obtain ⟨g1, rfl⟩ : ∃ g, f1 = g + 1 := ⟨f1 - 1, by omega⟩
    obtain ⟨g2, rfl⟩ : ∃ g, f2 = g + 1 := ⟨f2 - 1, by omega⟩
    rw [f_Reader_readRun_b78, f_Model_readRun_b84, nI_l (by omega)]
    simp only [lg_ge0]
    rw [if_pos ((ord N j hN (by omega)).mpr (by omega)), if_pos ((ord N j hN (by omega)).mpr (by omega))]
    exact ⟨past, e, new, rfl, rfl, he⟩
  | succ t ih =>
    intro j n e new past f1 f2 hj hn hl he c1 c2 c3 c4 hf1 hf2
    obtain ⟨g1, rfl⟩ : ∃ g, f1 = g + 1 := ⟨f1 - 1, by omega⟩
    obtain ⟨g2, rfl⟩ : ∃ g, f2 = g + 1 := ⟨f2 - 1, by omega⟩
    have hv := he.1.2.2 last hl
    obtain ⟨past', e', new', k1, k2, k3, k4, k5, k6, k7, k8⟩ := keep_take he (show n < 300 by omega) m0 log (nI q) fp hv
    rw [f_Reader_readRun_b78, f_Model_readRun_b84, nI_l (by omega)]
    simp only [lg_ge0]
    have nj : ¬ lN N ≤ lN j := by rw [ord N j hN (by omega)]; omega
    rw [if_neg nj, if_neg nj]
    rw [if_neg (show ¬ (300 : Int32) ≤ nI j from nI_ge (b := 300) (by omega) (by decide)), ev_kind he.1 hl, ev_diff he.1 hl, ev_a he.1 hl, ev_b he.1 hl, k1]
    obtain ⟨n, rfl⟩ : ∃ x, n = x + 1 := ⟨n - 1, by omega⟩
    have s1 : (MR m0 new (nI q) 0).2.2.1.2.2.2.2 - 1 = nI n := by
      show new.2.2.2.2 - 1 = nI n
      rw [he.2.1, nI_pred]
    rw [if_pos (show (MR m0 new (nI q) 0).2.2.2.2.2.2.2 = 0 from rfl), s1]
    have z1 : (nI n < 0) = False := eq_false (nI_pos (by omega))
    have z2 : (nI n).toNatClampNeg = n := cl_n (by omega)
    have z3 : (300 ≤ n) = False := eq_false (by omega)
    simp only [z1, z2, z3, or_self, if_false, lt1, nI_1, lN_1]
    have hqn := he.2.2.1 n (by omega)
    rw [show n + 1 - 1 = n from rfl] at c1 c2 c3 c4
    rw [show (MR m0 new (nI q) 0).2.2.1.1 n = e.1 last from hqn.1.symm.trans c1, show (MR m0 new (nI q) 0).2.2.1.2.1 n = e.2.1 last from hqn.2.1.symm.trans c2, show (MR m0 new (nI q) 0).2.2.1.2.2.1 n = e.2.2.1 last from hqn.2.2.1.symm.trans c3, show (MR m0 new (nI q) 0).2.2.1.2.2.2.1 n = e.2.2.2.1 last from hqn.2.2.2.symm.trans c4, k2]
    simp only [Option.bind_some]
    have kl := k4 last hl
    obtain ⟨p2, e2, w2, r1, r2, r3⟩ := ih (j + 1) (n + 1 + 1) e' new' past' g1 g2 (by omega) (by omega) (by omega) k3 (by rw [kl.1]; exact k5) (by rw [kl.2.1]; exact k6) (by rw [kl.2.2.1]; exact k7) (by rw [kl.2.2.2]; exact k8) (by omega) (by omega)
    exact ⟨p2, e2, w2, r1, r2, by rw [show n + 1 + (t + 1) = n + 1 + 1 + t from by omega]; exact r3⟩
theorem b84_x (m0 : S_Model) (new : S_Events) (at' : Int32) {w q : Nat} (h : FT w q) (N x : Int64) (f : Nat) : f_Model_readRun_b84 (f + 1) (MR m0 new at' (nI (w + 8 * q))) N x = some (MR m0 new at' (nI (w + 8 * q))) := by
  rw [f_Model_readRun_b84]
  simp only [mrxe m0 new at' h, if_false, ite_self]
theorem re_cnt {m0 log l n S} {e new : S_Events} {past : S_Past} (he : EV e new past n) (hS : S ≤ 300) (hn : n < S) (h0 : 0 < n) {q pq : Nat} (hq : q ≤ l) (hpq : pq ≤ 5000) (fp : Int32) {N : Nat} (hN1 : 1 ≤ N) (hN : N ≤ 1099511627776) : ER m0 log l n S (f_Reader_readRun_b37 (log, past, nI q, 0, fp) e (lN S) (nI pq) (nI n - 1) (lN N)) (f_Model_readRun_b51 (MR m0 new (nI q) 0) (nI pq) (nI S) (lN N)) := by
  unfold f_Reader_readRun_b37 f_Model_readRun_b51
  rw [show f_Events_number e = nI n from he.1.2.1, show (MR m0 new (nI q) 0).2.2.1.2.2.2.2 = nI n from he.2.1, nI_l (by omega), nI_l (by omega)]
  simp only [fine0, one0, if_false, mr0e, if_true, lg_le0]
  rw [lN_sub (by omega), lN_add]
  have q1 : (lN N ≤ lN (S - n)) ↔ n + N ≤ S := by
    rw [Int64.le_iff_toInt_le, lN_toInt' (by omega), lN_toInt' (by omega)]; omega
  have q2 : (lN (n + N) ≤ lN S) ↔ n + N ≤ S := by
    rw [Int64.le_iff_toInt_le, lN_toInt' (by omega), lN_toInt' (by omega)]; omega
  by_cases c : n + N ≤ S
  · rw [if_pos (q1.mpr c), if_pos (q2.mpr c)]
    obtain ⟨n, rfl⟩ : ∃ x, n = x + 1 := ⟨n - 1, by omega⟩
    obtain ⟨past', e', new', r1, r2, r3⟩ := run_loop (m0 := m0) (log := log) (S := S) (N := N) (last := n) (q := q) fp hS (by omega) N 0 (n + 1) e new past 400 400 (by omega) (by omega) (by omega) he rfl rfl rfl rfl (by omega) (by omega)
    refine Or.inl ⟨n + 1 + N, q, past', fp, e', new', by omega, by omega, hq, r3, ?_, ?_⟩
    · unfold f_Reader_readRun_b67
      simp only [fine0, one0, if_false]
      rw [nI_pred]
      exact r1
    · exact r2
  · rw [if_neg (by rw [q1]; exact c), if_neg (by rw [q2]; exact c)]
    have ft : FT 6 pq := ⟨by omega, by omega, hpq⟩
    rw [meet_eq m0 new _ 6 6 pq rfl]
    simp only [lt1, b84_x m0 new _ ft, f_Reader_fail, f_Reader_readRun_b67]
    have hh : bI (f_Reader_isFine (log, past, nI q, 6, nI pq)) = 0 := fineX log past (nI q) (nI pq) (w := 6) (by omega) (by omega)
    have : (if bI (f_Reader_isFine (log, past, nI q, 6, nI pq)) = 0 then some ((log, past, nI q, 6, nI pq), e) else f_Reader_readRun_b78 400 (log, past, nI q, 6, nI pq) e (nI n - 1) (lN N) 0) = some ((log, past, nI q, nI 6, nI pq), e) := if_pos hh
    refine Eq.mpr (congrArg (fun z => ER m0 log l n S z (some (MR m0 new (nI q) (nI (6 + 8 * pq))))) this) ?_
    exact er_x ft he _ _ _ _
theorem re_run {m0 log l n S} (L : LG m0 log l) {e new : S_Events} {past : S_Past} (he : EV e new past n) (hS : S ≤ 300) (hn : n < S) {q pq : Nat} (hq : q ≤ l) (hpq : pq ≤ 5000) (fp h : Int32) {xx : Nat} (hx : xx ≤ 15) (ex : h >>> (4 &&& 31) = nI xx) (e8 : h &&& 8 = 0) : ER m0 log l n S (f_Reader_readRun (log, past, nI q, 0, fp) e (lN S) (nI xx) (nI pq)) (f_Model_readRun (MR m0 new (nI q) 0) h (nI pq) (nI S)) := by
  have l00 : ((0 : Int32) ≤ 0) = True := by decide
  unfold f_Reader_readRun f_Model_readRun f_Model_readRun_b13 f_Model_readRun_b26
  rw [show f_Events_number e = nI n from he.1.2.1, show (MR m0 new (nI q) 0).2.2.1.2.2.2.2 = nI n from he.2.1, ex, e8]
  simp only [l00, if_true, mr0]
  by_cases h0 : n = 0
  · subst h0
    have ft : FT 4 pq := ⟨by omega, by omega, hpq⟩
    rw [if_neg (by decide), if_pos (show nI 0 = 0 from rfl), meet_eq m0 new _ 4 4 pq rfl]
    simp only [lt1, mrx m0 new _ ft, if_false]
    exact er_x ft he _ _ _ _
  · have hge : 0 ≤ nI n - 1 := by
      obtain ⟨x, rfl⟩ : ∃ x, n = x + 1 := ⟨n - 1, by omega⟩
      rw [nI_pred]; exact nI_pos' (by omega)
    rw [if_pos hge, if_neg (show ¬ nI n = 0 from nI_ne0 (by omega) (by omega))]
    by_cases x0 : xx = 0
    · subst x0
      rw [if_pos (show nI 0 = 0 from rfl), if_pos (show nI 0 ≤ 0 by decide)]
      rcases rc1 L past fp new hq with ⟨v, q', hv1, hv, h2, h4, h5⟩ | ⟨w, fq, x, pl, y, at', h1, h4, h5⟩
      · rw [h4, h5]
        simp only [Option.bind_some]
        exact re_cnt he hS hn (by omega) h2 hpq fp hv1 hv
      · rw [h4, h5]
        simp only [Option.bind_some, f_Reader_readRun_b37, f_Reader_readRun_b67, fineX log past pl (nI fq) h1.1 h1.2.1, if_true, f_Model_readRun_b51, mrxe m0 new at' h1, if_false, b84_x m0 new at' h1]
        exact er_x h1 he _ _ _ _
    · rw [if_neg (show ¬ nI xx = 0 from nI_ne0 (by omega) (by omega)), if_neg (show ¬ nI xx ≤ 0 from nI_nle (by omega) (by omega)), nI_l (by omega)]
      exact re_cnt he hS hn (by omega) hq hpq fp (by omega) (by omega)
def mE (m : S_Model) (said : Int64) : Option S_Model := (f_Model_next m).bind (fun r63 => if r63.2.2.2.2.2.2.2.2 ≤ 0 then (if (r63.1 &&& 7) = (5 : Int32) then (f_Model_readRun r63.2 r63.1 m.2.2.2.2.2.2.1 said.toInt32) else (f_Model_readEntry r63.2 r63.1 m.2.2.2.2.2.2.1)) else (some r63.2))
theorem and7 (b : Nat) : nI b &&& 7 = nI (b % 8) := by
  apply Int32.toBitVec_inj.mp
  apply BitVec.eq_of_toNat_eq
  rw [Int32.toBitVec_and, BitVec.toNat_and, nI_bv, nI_bv, BitVec.toNat_ofNat, BitVec.toNat_ofNat, show (7 : Int32).toBitVec.toNat = 2 ^ 3 - 1 from by decide, Nat.and_two_pow_sub_one_eq_mod]
  omega
theorem and8 : ∀ b : Nat, b < 256 → (nI b &&& 8 = 0 ∨ nI b &&& 8 = 8) := by decide +kernel
theorem shr4 {b : Nat} (h : b < 256) : nI b >>> (4 &&& 31) = nI (b / 16) := pk_shrN (by omega) _ 4 (by decide)
theorem b48_x (m0 : S_Model) (new : S_Events) (at' h k x : Int32) {q : Nat} (hq : q ≤ 5000) : f_Model_readEntry_b48 (MR m0 new at' 0) h (nI q) k x = some (MR m0 new at' (nI (1 + 8 * q))) := by
  unfold f_Model_readEntry_b48
  rw [meet_eq m0 new _ 1 1 q rfl]
  simp only [lt1, f_Model_readEntry_b54, mrx m0 new at' (w := 1) (q := q) ⟨by omega, by omega, hq⟩, if_false]
theorem lt_n {a : Int32} {x k : Nat} (ha : a = nI k) (hx : x < 2 ^ 31) (hk : k < 2 ^ 31) : (a < nI x) ↔ k < x := by rw [ha]; exact nI_ltI hk hx
/-- heads: good ones that are no run's, runs', bad ones -/
theorem heads {b : Nat} (hb : b < 256) : (GH (b % 8) (b / 16) ∧ f_Reader_isHead (nI b) = true ∧ ¬ nI (b % 8) = 5 ∧ ∀ m p, f_Model_readEntry m (nI b) p = f_Model_readEntry_b54 m (nI b) p (nI (b % 8)) (nI (b / 16))) ∨ (b % 8 = 5 ∧ nI b &&& 8 = 0 ∧ f_Reader_isHead (nI b) = true) ∨ (b % 8 = 5 ∧ nI b &&& 8 = 8 ∧ f_Reader_isHead (nI b) = false) ∨ (f_Reader_isHead (nI b) = false ∧ ¬ nI (b % 8) = 5 ∧ ∀ m p, f_Model_readEntry m (nI b) p = f_Model_readEntry_b48 m (nI b) p (nI (b % 8)) (nI (b / 16))) := by
  obtain ⟨n01, n02, n03, n04, n10, n12, n13, n14, n20, n21, n23, n24, n30, n31, n32, n34, n40, n41, n42, n43⟩ := k_ne
  have hx : b / 16 ≤ 15 := by omega
  have l8 := lt_n (a := 8) (x := b / 16) (k := 8) rfl (by omega) (by omega)
  have l1 := lt_n (a := 1) (x := b / 16) (k := 1) rfl (by omega) (by omega)
  have l50 : ((5 : Int32) < 0) = False := by decide
  have l51 : ((5 : Int32) < 1) = False := by decide
  have l52 : ((5 : Int32) < 2) = False := by decide
  have l53 : ((5 : Int32) < 3) = False := by decide
  have l54 : ((5 : Int32) < 4) = False := by decide
  have l56 : ((5 : Int32) < 6) = True := by decide
  have l57 : ((5 : Int32) < 7) = True := by decide
  have hk : b % 8 = 0 ∨ b % 8 = 1 ∨ b % 8 = 2 ∨ b % 8 = 3 ∨ b % 8 = 4 ∨ b % 8 = 5 ∨ b % 8 = 6 ∨ b % 8 = 7 := by omega
  have a7 := and7 b
  have s4 := shr4 hb
  rcases hk with k | k | k | k | k | k | k | k
  · rw [k] at a7 ⊢
    have a7' : nI b &&& 7 = 0 := a7
    refine Or.inl ⟨⟨hx, Or.inl rfl⟩, ?_, by decide, ?_⟩
    · simp only [f_Reader_isHead, a7', if_true]
    · intro m p
      simp only [f_Model_readEntry, f_Model_readEntry_b27, f_Model_readEntry_b38, a7', s4, l50, n01, n03, n04, if_false]
      rfl
  · rw [k] at a7 ⊢
    have a7' : nI b &&& 7 = 1 := a7
    by_cases x8 : b / 16 ≤ 8
    · have l8' : ((8 : Int32) < nI (b / 16)) = False := eq_false (by rw [l8]; omega)
      refine Or.inl ⟨⟨hx, Or.inr (Or.inl ⟨rfl, x8⟩)⟩, ?_, by decide, ?_⟩
      · simp only [f_Reader_isHead, a7', s4, n10, l8', if_true, if_false]
      · intro m p
        simp only [f_Model_readEntry, f_Model_readEntry_b27, f_Model_readEntry_b38, a7', s4, l51, n13, n14, l8', if_true, if_false]
        rfl
    · have l8' : ((8 : Int32) < nI (b / 16)) = True := eq_true (by rw [l8]; omega)
      refine Or.inr (Or.inr (Or.inr ⟨?_, by decide, ?_⟩))
      · simp only [f_Reader_isHead, a7', s4, n10, l8', if_true, if_false]
      · intro m p
        simp only [f_Model_readEntry, a7', s4, l51, l8', if_true, if_false]
        rfl
  · rw [k] at a7 ⊢
    have a7' : nI b &&& 7 = 2 := a7
    refine Or.inl ⟨⟨hx, Or.inr (Or.inr (Or.inl rfl))⟩, ?_, by decide, ?_⟩
    · simp only [f_Reader_isHead, a7', n20, n21, if_true, if_false]
    · intro m p
      simp only [f_Model_readEntry, f_Model_readEntry_b27, f_Model_readEntry_b38, a7', s4, l52, n21, n23, n24, if_false]
      rfl
  · rw [k] at a7 ⊢
    have a7' : nI b &&& 7 = 3 := a7
    by_cases x8 : b / 16 ≤ 1
    · have l8' : ((1 : Int32) < nI (b / 16)) = False := eq_false (by rw [l1]; omega)
      refine Or.inl ⟨⟨hx, Or.inr (Or.inr (Or.inr (Or.inl ⟨rfl, x8⟩)))⟩, ?_, by decide, ?_⟩
      · simp only [f_Reader_isHead, a7', s4, n30, n31, n32, l8', if_true, if_false]
      · intro m p
        simp only [f_Model_readEntry, f_Model_readEntry_b27, f_Model_readEntry_b38, a7', s4, l53, n31, n34, l8', if_true, if_false]
        rfl
    · have l8' : ((1 : Int32) < nI (b / 16)) = True := eq_true (by rw [l1]; omega)
      refine Or.inr (Or.inr (Or.inr ⟨?_, by decide, ?_⟩))
      · simp only [f_Reader_isHead, a7', s4, n30, n31, n32, l8', if_true, if_false]
      · intro m p
        simp only [f_Model_readEntry, f_Model_readEntry_b27, a7', s4, l53, n31, l8', if_true, if_false]
        rfl
  · rw [k] at a7 ⊢
    have a7' : nI b &&& 7 = 4 := a7
    by_cases x8 : b / 16 = 0
    · have e1 : (nI (b / 16) = 0) = True := eq_true (by rw [x8]; rfl)
      have e2 : (nI (b / 16) ≤ 0) = True := eq_true (by rw [x8]; decide)
      refine Or.inl ⟨⟨hx, Or.inr (Or.inr (Or.inr (Or.inr ⟨rfl, x8⟩)))⟩, ?_, by decide, ?_⟩
      · simp only [f_Reader_isHead, a7', s4, n40, n41, n42, n43, e1, if_true, if_false]
      · intro m p
        simp only [f_Model_readEntry, f_Model_readEntry_b27, f_Model_readEntry_b38, a7', s4, l54, n41, n43, e2, if_true, if_false]
        rfl
    · have e1 : (nI (b / 16) = 0) = False := eq_false (nI_ne0 (by omega) (by omega))
      have e2 : (nI (b / 16) ≤ 0) = False := eq_false (nI_nle (by omega) (by omega))
      refine Or.inr (Or.inr (Or.inr ⟨?_, by decide, ?_⟩))
      · simp only [f_Reader_isHead, a7', s4, n40, n41, n42, n43, e1, if_true, if_false]
      · intro m p
        simp only [f_Model_readEntry, f_Model_readEntry_b27, f_Model_readEntry_b38, a7', s4, l54, n41, n43, e2, if_true, if_false]
        rfl
  · have a7' : nI b &&& 7 = 5 := by rw [a7, k]; rfl
    have h50 : ((5 : Int32) = 0) = False := by decide
    have h51 : ((5 : Int32) = 1) = False := by decide
    have h52 : ((5 : Int32) = 2) = False := by decide
    have h53 : ((5 : Int32) = 3) = False := by decide
    have h54 : ((5 : Int32) = 4) = False := by decide
    have h80 : ((8 : Int32) = 0) = False := by decide
    rcases and8 b hb with h8 | h8
    · exact Or.inr (Or.inl ⟨k, h8, by simp only [f_Reader_isHead, a7', h8, h50, h51, h52, h53, h54, if_true, if_false]⟩)
    · exact Or.inr (Or.inr (Or.inl ⟨k, h8, by simp only [f_Reader_isHead, a7', h8, h50, h51, h52, h53, h54, h80, if_true, if_false]⟩))
  · rw [k] at a7 ⊢
    have a7' : nI b &&& 7 = 6 := a7
    refine Or.inr (Or.inr (Or.inr ⟨?_, by decide, ?_⟩))
    · have h0 : ((6 : Int32) = 0) = False := by decide
      have h1 : ((6 : Int32) = 1) = False := by decide
      have h2 : ((6 : Int32) = 2) = False := by decide
      have h3 : ((6 : Int32) = 3) = False := by decide
      have h4 : ((6 : Int32) = 4) = False := by decide
      have h5 : ((6 : Int32) = 5) = False := by decide
      simp only [f_Reader_isHead, a7', h0, h1, h2, h3, h4, h5, if_false]
    · intro m p
      simp only [f_Model_readEntry, a7', s4, l56, if_true]
      rfl
  · rw [k] at a7 ⊢
    have a7' : nI b &&& 7 = 7 := a7
    refine Or.inr (Or.inr (Or.inr ⟨?_, by decide, ?_⟩))
    · have h0 : ((7 : Int32) = 0) = False := by decide
      have h1 : ((7 : Int32) = 1) = False := by decide
      have h2 : ((7 : Int32) = 2) = False := by decide
      have h3 : ((7 : Int32) = 3) = False := by decide
      have h4 : ((7 : Int32) = 4) = False := by decide
      have h5 : ((7 : Int32) = 5) = False := by decide
      simp only [f_Reader_isHead, a7', h0, h1, h2, h3, h4, h5, if_false]
    · intro m p
      simp only [f_Model_readEntry, a7', s4, l57, if_true]
      rfl
