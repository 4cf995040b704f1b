theorem like_no (log : S_Bytes) (past : S_Past) (pl fp : Int32) (e : S_Events) (k : Int32) (d : Int64) (pq : Nat) : f_Reader_readLikeAnother_b27 (log, past, pl, 0, fp) e k d (nI pq) (-1) = some ((log, past, pl, nI 4, nI pq), e) := by
  simp only [f_Reader_readLikeAnother_b27, fine0, one0, if_false, has_m1, bIf, if_true, lt1, f_Reader_fail, f_Reader_readLikeAnother_b52]
  exact if_pos (fineX log past pl (nI pq) (w := 4) (by omega) (by omega))
theorem like_yes {n : Nat} {e : S_Events} (he : EOK e n) {j : Nat} (hj : j < n) (log : S_Bytes) (past : S_Past) (pl fp : Int32) (k : Int32) (d : Int64) (x : Int32) : f_Reader_readLikeAnother_b27 (log, past, pl, 0, fp) e k d x (nI j) = f_Reader_readOwn_b84 (log, past, pl, 0, fp) e k d (e.2.2.1 j) (e.2.2.2.1 j) := by
  simp only [f_Reader_readLikeAnother_b27, fine0, one0, if_false, has_in_n he hj, bIt, f_Reader_readLikeAnother_b52, ev_a he hj, ev_b he hj, f_Reader_readOwn_b84]
theorem like_x (log : S_Bytes) (past : S_Past) (pl fp : Int32) (e : S_Events) (k : Int32) (d : Int64) (x z : Int32) {w : Nat} (h1 : 1 ≤ w) (h7 : w ≤ 7) : f_Reader_readLikeAnother_b27 (log, past, pl, nI w, fp) e k d x z = some ((log, past, pl, nI w, fp), e) := by
  simp only [f_Reader_readLikeAnother_b27, fineX log past pl fp h1 h7, if_true, f_Reader_readLikeAnother_b52]
theorem re_3k {m0 log l n S} (L : LG m0 log l) {e new : S_Events} {past : S_Past} (he : EV e new past n) (hS : S ≤ 300) (hn : n < S) {q pq : Nat} (hq : q ≤ l) (hpq : pq ≤ 5000) (fp : Int32) {dn : Nat} (hd : dn ≤ 1099511627776) : ER m0 log l n S (f_Reader_readEntry_b110 (log, past, nI q, 0, fp) e (nI pq) 3 1 (lN dn)) (f_Model_readEntry_b106 (MR m0 new (nI q) 0) (nI pq) 3 1 (oI (ckN new.1 n)) (lN dn)) := by
  obtain ⟨n01, n02, n03, n04, n10, n12, n13, n14, n20, n21, n23, n24, n30, n31, n32, n34, n40, n41, n42, n43⟩ := k_ne
  have hck : ckN new.1 n = ckN e.1 n := (ckN_congr n (fun j hj => (he.2.2.1 j hj).1)).symm
  simp only [f_Reader_readEntry_b110, f_Reader_isMeaningAnother, f_Reader_isMeaningAnother_b9, f_Reader_readLikeAnother, f_Past_latestClock, fine0, one0, if_false, if_true, n31, bIt, bindpair]
  rw [he.2.2.2.2.1, hck]
  simp only [f_Model_readEntry_b106, if_true]
  cases hc : ckN e.1 n with
  | none =>
    have ft : FT 4 pq := ⟨by omega, by omega, hpq⟩
    rw [show oI none = (-1 : Int32) from rfl, like_no, if_neg (by decide), meet_eq m0 new _ 4 4 pq rfl]
    simp only [lt1, f_Model_readEntry_b130, mrx m0 new _ ft, if_false]
    exact er_x ft he _ _ _ _
  | some j =>
    obtain ⟨hj, hk⟩ := ckN_mem _ _ _ hc
    have h3 := he.1.1
    rw [show oI (some j) = nI j from rfl, like_yes he.1 hj, if_pos (nI_pos' (by omega))]
    simp only [f_Model_readEntry_b130, mr0, if_true, n30, n31, n32, n34, if_false]
    rw [if_neg (ini300 (by omega)), cl_n (by omega), b200_g _ _ _ _ _ _ n31 n32]
    rw [show (MR m0 new (nI q) 0).2.2.1.2.2.1 j = e.2.2.1 j from (he.2.2.1 j hj).2.2.1.symm]
    obtain ⟨-, hv⟩ := he.1.2.2 j hj
    rw [hk] at hv
    rcases hv with ⟨h, -⟩ | ⟨h, -⟩ | ⟨h, -⟩ | ⟨-, ha, hb⟩ | ⟨h, -⟩
    · exact absurd h (by decide)
    · exact absurd h (by decide)
    · exact absurd h (by decide)
    · rw [hb]
      exact own_end he hS hn hq fp ⟨⟨dn, hd, rfl⟩, Or.inr (Or.inr (Or.inr (Or.inl ⟨rfl, ha, rfl⟩)))⟩
    · exact absurd h (by decide)
theorem b247_j (m : S_Model) (d : Int64) {j : Nat} (hj : j < 300) : f_Model_readEntry_b247 m 1 d (nI j) = f_Model_readEntry_b332 m 1 d (m.2.2.1.2.2.1 j) (m.2.2.1.2.2.2.1 j) := by
  have n12 : ((1 : Int32) = 2) = False := by decide
  have z0 : (0 ≤ nI j) = True := eq_true (nI_pos' (by omega))
  have z1 : (nI j < 0) = False := eq_false (nI_pos (by omega))
  have z2 : (nI j).toNatClampNeg = j := cl_n (by omega)
  have z3 : (300 ≤ j) = False := eq_false (by omega)
  simp only [f_Model_readEntry_b247, f_Model_readEntry_b263, f_Model_readEntry_b281, f_Model_readEntry_b283, z0, z1, z2, z3, or_self, if_true, if_false, n12]
theorem b247_m (m : S_Model) (d : Int64) : f_Model_readEntry_b247 m 1 d (-1) = f_Model_readEntry_b332 m 1 d 0 0 := by
  have n12 : ((1 : Int32) = 2) = False := by decide
  have z0 : ((0 : Int32) ≤ -1) = False := by decide
  simp only [f_Model_readEntry_b247, f_Model_readEntry_b263, f_Model_readEntry_b281, f_Model_readEntry_b283, z0, if_false, n12]
theorem rb00 (m : S_Model) : f_Model_readBytes m 0 = some (0, m) := by
  unfold f_Model_readBytes
  rw [f_Model_readBytes_b5, if_pos (by decide)]
theorem re_1k {m0 log l n S} (L : LG m0 log l) {e new : S_Events} {past : S_Past} (he : EV e new past n) (hS : S ≤ 300) (hn : n < S) {q pq : Nat} (hq : q ≤ l) (hpq : pq ≤ 5000) (fp c : Int32) {dn : Nat} (hd : dn ≤ 1099511627776) : ER m0 log l n S (f_Reader_readEntry_b110 (log, past, nI q, 0, fp) e (nI pq) 1 0 (lN dn)) (f_Model_readEntry_b106 (MR m0 new (nI q) 0) (nI pq) 1 0 c (lN dn)) := by
  obtain ⟨n01, n02, n03, n04, n10, n12, n13, n14, n20, n21, n23, n24, n30, n31, n32, n34, n40, n41, n42, n43⟩ := k_ne
  have h3 := he.1.1
  have htl : tyL new.1 n = tyL e.1 n := (tyL_congr n (fun j hj => (he.2.2.1 j hj).1)).symm
  simp only [f_Reader_readEntry_b110, f_Reader_isMeaningAnother, f_Reader_readLikeAnother, fine0, one0, if_false, if_true, n13, bIt, bindpair]
  simp only [f_Model_readEntry_b106, f_Model_readEntry_b130, f_Model_readEntry_b200, f_Model_readEntry_b213, n10, n12, n13, n14, if_false, if_true, mr0, rb00, Option.bind_some]
  rcases rc1 L past fp new hq with ⟨v, q', hv1, hv, h2, h4, h5⟩ | ⟨w, fq, x, pl, y, at', h1, h4, h5⟩
  · rw [h4, h5]
    simp only [Option.bind_some]
    have hbf : f_Model_before (MR m0 new (nI q') 0) 1 (lN v) = some (oI ((tyL e.1 n)[v - 1]?)) := by
      unfold f_Model_before
      rw [show (MR m0 new (nI q') 0).2.2.1.2.2.2.2 = nI n from he.2.1, m_before1 n v 400 (by omega) hv1 (by omega) (by omega)]
      rw [show (MR m0 new (nI q') 0).2.2.1.1 = new.1 from rfl, htl]
    rw [hbf, past_typed he.2.2.2 (by omega) hv1 hv]
    simp only [Option.bind_some]
    cases hg : (tyL e.1 n)[v - 1]? with
    | none =>
      have ft : FT 4 pq := ⟨by omega, by omega, hpq⟩
      rw [show oI none = (-1 : Int32) from rfl, like_no, if_neg (by decide), meet_eq m0 new _ 4 4 pq rfl]
      simp only [lt1, b247_m]
      unfold f_Model_readEntry_b332
      rw [if_neg (show ¬ (MR m0 new (nI q') (nI (4 + 8 * pq))).2.2.2.2.2.2.2 = 0 from ft_ne ft)]
      exact er_x ft he _ _ _ _
    | some j =>
      obtain ⟨hlt, ej⟩ := List.getElem?_eq_some_iff.mp hg
      obtain ⟨hj, hk⟩ := tyL_mem e.1 n j (by rw [← ej]; exact List.getElem_mem hlt)
      rw [show oI (some j) = nI j from rfl, like_yes he.1 hj, if_pos (nI_pos' (by omega)), b247_j _ _ (by omega)]
      rw [show (MR m0 new (nI q') 0).2.2.1.2.2.1 j = e.2.2.1 j from (he.2.2.1 j hj).2.2.1.symm, show (MR m0 new (nI q') 0).2.2.1.2.2.2.1 j = e.2.2.2.1 j from (he.2.2.1 j hj).2.2.2.symm]
      obtain ⟨-, hv⟩ := he.1.2.2 j hj
      rw [hk] at hv
      rcases hv with ⟨h, -⟩ | ⟨-, hb⟩ | ⟨h, -⟩ | ⟨h, -⟩ | ⟨h, -⟩
      · exact absurd h (by decide)
      · exact own_end he hS hn h2 fp ⟨⟨dn, hd, rfl⟩, Or.inr (Or.inl ⟨rfl, hb⟩)⟩
      · exact absurd h (by decide)
      · exact absurd h (by decide)
      · exact absurd h (by decide)
  · rw [h4, h5]
    simp only [Option.bind_some]
    rw [like_x log past pl (nI fq) e 1 (lN dn) (nI pq) _ h1.1 h1.2.1]
    obtain ⟨r, hr, hr2⟩ := m_before_tot (m := MR m0 new at' (nI (w + 8 * fq))) (kd := 1) n y 400 (by omega) (by omega)
    have hbf : f_Model_before (MR m0 new at' (nI (w + 8 * fq))) 1 y = some r := by
      unfold f_Model_before
      rw [show (MR m0 new at' (nI (w + 8 * fq))).2.2.1.2.2.2.2 = nI n from he.2.1, hr]
    rw [hbf]
    simp only [Option.bind_some, lt1, meet_x m0 new _ _ _ h1, ite_self]
    have : f_Model_readEntry_b247 (MR m0 new at' (nI (w + 8 * fq))) 1 (lN dn) r = some (MR m0 new at' (nI (w + 8 * fq))) := by
      rcases hr2 with rfl | ⟨j, hj, rfl⟩
      · rw [b247_m]; unfold f_Model_readEntry_b332; rw [if_neg (show ¬ (MR m0 new at' (nI (w + 8 * fq))).2.2.2.2.2.2.2 = 0 from ft_ne h1)]
      · rw [b247_j _ _ (by omega)]; unfold f_Model_readEntry_b332; rw [if_neg (show ¬ (MR m0 new at' (nI (w + 8 * fq))).2.2.2.2.2.2.2 = 0 from ft_ne h1)]
    rw [this]
    exact er_x h1 he _ _ _ _
def GH (kk xx : Nat) : Prop := xx ≤ 15 ∧ (kk = 0 ∨ (kk = 1 ∧ xx ≤ 8) ∨ kk = 2 ∨ (kk = 3 ∧ xx ≤ 1) ∨ (kk = 4 ∧ xx = 0))
theorem re_d {m0 log l n S} (L : LG m0 log l) {e new : S_Events} {past : S_Past} (he : EV e new past n) (hS : S ≤ 300) (hn : n < S) {q pq : Nat} (hq : q ≤ l) (hpq : pq ≤ 5000) (fp : Int32) {dn : Nat} (hd : dn ≤ 1099511627776) {kk xx : Nat} (hg : GH kk xx) : ER m0 log l n S (f_Reader_readEntry_b110 (log, past, nI q, 0, fp) e (nI pq) (nI kk) (nI xx) (lN dn)) (f_Model_readEntry_b106 (MR m0 new (nI q) 0) (nI pq) (nI kk) (nI xx) (oI (ckN new.1 n)) (lN dn)) := by
  obtain ⟨hx, hg⟩ := hg
  rcases hg with rfl | ⟨rfl, h⟩ | rfl | ⟨rfl, h⟩ | ⟨rfl, rfl⟩
  · exact re_0 L he hS hn hq fp _ _ hd hx
  · by_cases x0 : xx = 0
    · subst x0; exact re_1k L he hS hn hq hpq fp _ hd
    · exact re_1o L he hS hn hq fp _ _ hd (by omega) h
  · exact re_2 L he hS hn hq fp _ _ hd hx
  · by_cases x0 : xx = 0
    · subst x0; exact re_3o L he hS hn hq fp _ _ hd
    · have : xx = 1 := by omega
      subst this; exact re_3k L he hS hn hq hpq fp hd
  · exact re_4 L he hS hn hq fp _ _ _ hd
theorem re_dx {m0 log l n S} {e new : S_Events} {past : S_Past} (he : EV e new past n) {w fq : Nat} (h : FT w fq) (pp : S_Past) (nw : S_Events) (pl at' p1 p2 k1 k2 x1 x2 c : Int32) (d1 d2 : Int64) : ER m0 log l n S (f_Reader_readEntry_b110 (log, pp, pl, nI w, nI fq) e p1 k1 x1 d1) (f_Model_readEntry_b106 (MR m0 nw at' (nI (w + 8 * fq))) p2 k2 x2 c d2) := by
  simp only [f_Reader_readEntry_b110, fineX log pp pl (nI fq) h.1 h.2.1, if_true, f_Model_readEntry_b106, f_Model_readEntry_b130, mrx m0 nw at' h, if_false, lt1, meet_x m0 nw at' _ _ h, ite_self]
  exact er_x h he _ _ _ _
/-- a good head that is no run's, its difference and what follows -/
theorem re_good {m0 log l n S} (L : LG m0 log l) {e new : S_Events} {past : S_Past} (he : EV e new past n) (hS : S ≤ 300) (hn : n < S) {q pq : Nat} (hq : q ≤ l) (hpq : pq ≤ 5000) (fp : Int32) (h : Int32) {kk xx : Nat} (hg : GH kk xx) : ER m0 log l n S (if (h &&& 8) = 0 then (f_Reader_readEntry_b85 (log, past, nI q, 0, fp) e (nI pq) (nI kk) (nI xx) false) else (f_Reader_readEntry_b85 (log, past, nI q, 0, fp) e (nI pq) (nI kk) (nI xx) true)) (f_Model_readEntry_b54 (MR m0 new (nI q) 0) h (nI pq) (nI kk) (nI xx)) := by
  have h3 := he.1.1
  have hbf : f_Model_before (MR m0 new (nI q) 0) 3 1 = some (oI (ckN new.1 n)) := by
    unfold f_Model_before
    rw [show (MR m0 new (nI q) 0).2.2.1.2.2.2.2 = nI n from he.2.1, m_before3 n 400 (by omega) (by omega)]
    rfl
  simp only [f_Model_readEntry_b54, mr0, if_true, hbf, Option.bind_some, f_Reader_readEntry_b85, bIf, bIt, if_false]
  by_cases h8 : h &&& 8 = 0
  · rw [if_pos h8, if_pos h8]
    rcases rvz L past fp new hq with ⟨v, q', hv, h2, h4, h5⟩ | ⟨w, fq, x, pl, y, at', h1, h4, h5⟩
    · rw [h4, h5]
      simp only [Option.bind_some]
      exact re_d L he hS hn h2 hpq fp hv hg
    · rw [h4, h5]
      simp only [Option.bind_some]
      exact re_dx he h1 _ _ _ _ _ _ _ _ _ _ _ _ _
  · rw [if_neg h8, if_neg h8]
    rw [show f_Events_number e = nI n from he.1.2.1, show (MR m0 new (nI q) 0).2.2.1.2.2.2.2 = nI n from he.2.1]
    cases n with
    | zero =>
      rw [show nI 0 - 1 = (-1 : Int32) from by decide, ev_diff_m1, if_pos (show nI 0 = 0 from rfl)]
      exact re_d L he hS hn hq hpq fp (dn := 0) (by omega) hg
    | succ n =>
      rw [nI_pred, ev_diff he.1 (by omega), if_neg (nI_ne0 (by omega) (by omega)), if_neg (ini300 (by omega)), cl_n (by omega)]
      rw [show (MR m0 new (nI q) 0).2.2.1.2.1 n = e.2.1 n from (he.2.2.1 n (by omega)).2.1.symm]
      obtain ⟨⟨dn, hd, ed⟩, -⟩ := he.1.2.2 n (by omega)
      rw [ed]
      exact re_d L he hS hn hq hpq fp hd hg
