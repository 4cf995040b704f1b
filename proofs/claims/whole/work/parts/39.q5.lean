theorem re_entry {m0 log l n S} (L : LG m0 log l) {e new : S_Events} {past : S_Past} (he : EV e new past n) (hS : S ≤ 300) (hn : n < S) {q : Nat} (hq : q ≤ l) (fp : Int32) : ER m0 log l n S (f_Reader_readEntry (log, past, nI q, 0, fp) e (lN S)) (mE (MR m0 new (nI q) 0) (lN S)) := by
  have h5 := L.1.1
  unfold f_Reader_readEntry mE
  rw [lN_i, show (MR m0 new (nI q) 0).2.2.2.2.2.2.1 = nI q from rfl]
  by_cases hql : q = l
  · subst hql
    obtain ⟨e1, e2⟩ := rd_end L past fp new
    have ft : FT 2 q := ⟨by omega, by omega, h5⟩
    rw [e1, e2]
    have hh : bI (f_Reader_isFine (log, past, nI q, 2, nI q)) = 0 := fineX log past (nI q) (nI q) (w := 2) (by omega) (by omega)
    simp only [lt1, Option.bind_some, mrx m0 new _ ft, if_false, f_Reader_readEntry_b34, hh, if_true]
    exact er_x ft he _ _ _ _
  · obtain ⟨b, hb, e1, e2⟩ := rd_in L (show q < l by omega) past fp new
    rw [e1, e2]
    simp only [lt1, Option.bind_some, mr0, if_true, fine0, one0, if_false, f_Reader_readEntry_b34, f_Reader_fail, and7, shr4 hb, bindpair]
    have ft : FT 1 q := ⟨by omega, by omega, by omega⟩
    have hh : bI (f_Reader_isFine (log, past, nI (q + 1), 1, nI q)) = 0 := fineX log past (nI (q + 1)) (nI q) (w := 1) (by omega) (by omega)
    rcases heads hb with ⟨hg, hh1, h55, hm⟩ | ⟨k5, h8, hh1⟩ | ⟨k5, h8, hh1⟩ | ⟨hh1, h55, hm⟩
    · rw [hh1]
      simp only [bIt, if_false, h55, hm]
      exact re_good L he hS hn (by omega) (by omega) fp (nI b) hg
    · have k5' : (nI (b % 8) = 5) = True := eq_true (by rw [k5]; rfl)
      rw [hh1]
      simp only [bIt, if_false, k5', if_true]
      exact re_run L he hS hn (by omega) (by omega) fp (nI b) (by omega) (shr4 hb) h8
    · have k5' : (nI (b % 8) = 5) = True := eq_true (by rw [k5]; rfl)
      have l80 : ((8 : Int32) ≤ 0) = False := by decide
      rw [hh1]
      simp only [bIf, if_true, k5', hh]
      have : f_Model_readRun (MR m0 new (nI (q + 1)) 0) (nI b) (nI q) (nI S) = some (MR m0 new (nI (q + 1)) (nI (1 + 8 * q))) := by
        unfold f_Model_readRun
        rw [h8, if_neg (by decide), meet_eq m0 new _ 1 1 q rfl]
        simp only [lt1, f_Model_readRun_b13, f_Model_readRun_b26, mrx m0 new _ ft, if_false, meet_x m0 new _ _ _ ft, ite_self]
      rw [this]
      exact er_x ft he _ _ _ _
    · rw [hh1]
      simp only [bIf, if_true, h55, if_false, hm, hh]
      rw [b48_x m0 new _ _ _ _ (by omega)]
      exact er_x ft he _ _ _ _
/-- how reading ends -/
def RO (m0 : S_Model) (log : S_Bytes) (cl : Option (Int32 × S_Reader × S_Events)) (ml : Option (Int32 × S_Model)) : Prop :=
  ∃ r st e m, cl = some (r, st, e) ∧ ml = some (r, m) ∧ st.1 = log ∧ m.2.2.2.1 = m0.2.2.2.1 ∧ ((¬ r < 0 ∧ ∃ n, EOK e n ∧ m.2.1.2.2.2.2 = nI n ∧ EEq e m.2.1 n) ∨ (r < 0 ∧ m.2.1 = m0.2.1 ∧ ∃ k, k ≤ 300 ∧ e.2.2.2.2 = nI k))
theorem neg_ans {x : Nat} (h : x ≤ 50000) : (-1 : Int32) - nI x < 0 := by
  rw [Int32.lt_iff_toInt_lt, Int32.toInt_sub, nI_toInt (by omega), show (-1 : Int32).toInt = -1 from by decide, show (0 : Int32).toInt = 0 from by decide]
  rw [Int.bmod_eq_of_le (by omega) (by omega)]
  omega
theorem fin_x {m0 log} {w fq : Nat} (h : FT w fq) (pp : S_Past) (pl at' : Int32) (e nw : S_Events) {k : Nat} (hk : k ≤ 300) (he : e.2.2.2.2 = nI k) (s1 s2 : Int64) (x4 : Int32) (f1 f2 : Nat) : RO m0 log (f_Reader_run_b36 (f1 + 1) (log, pp, pl, nI w, nI fq) e s1 x4) (f_Model_read_b40 (f2 + 1) (MR m0 nw at' (nI (w + 8 * fq))) s2) := by
  have hh := fineX log pp pl (nI fq) h.1 h.2.1
  have hw := h.2.1
  have hf := h.2.2
  refine ⟨(-1 : Int32) - nI (w + 8 * fq), (log, pp, pl, nI w, nI fq), e, MR m0 nw at' (nI (w + 8 * fq)), ?_, ?_, rfl, rfl, Or.inr ⟨neg_ans (by omega), rfl, k, hk, he⟩⟩
  · rw [f_Reader_run_b36]
    simp only [hh, if_true, ite_self, f_Reader_run_b73, f_Reader_run_b104, nI_mul8, nI_add]
  · rw [f_Model_read_b40]
    simp only [mrxe m0 nw at' h, if_false, f_Model_read_b109, f_Model_read_b137, mrx m0 nw at' h]
    rfl
theorem m_cp {m : S_Model} {n : Nat} (hn : n ≤ 300) : ∀ t i f (ek : Nat → Int32) (ed ea : Nat → Int64) (eb : Nat → Int32), i + t = n → t < f → (∀ j, j < i → ek j = m.2.2.1.1 j ∧ ed j = m.2.2.1.2.1 j ∧ ea j = m.2.2.1.2.2.1 j ∧ eb j = m.2.2.1.2.2.2.1 j) → ∃ ev' : S_Events, f_Model_read_b161 f (m.1, (ek, ed, ea, eb, nI n), m.2.2.1, m.2.2.2.1, m.2.2.2.2.1, m.2.2.2.2.2.1, m.2.2.2.2.2.2.1, m.2.2.2.2.2.2.2) (nI i) = some (nI n, (m.1, ev', m.2.2.1, m.2.2.2.1, m.2.2.2.2.1, m.2.2.2.2.2.1, m.2.2.2.2.2.2.1, m.2.2.2.2.2.2.2)) ∧ ev'.2.2.2.2 = nI n ∧ EEq m.2.2.1 ev' n := by
  intro t
  induction t with
  | zero =>
    intro i f ek ed ea eb hi hf h
    obtain ⟨g, rfl⟩ : ∃ g, f = g + 1 := ⟨f - 1, by omega⟩
    have : i = n := by omega
    subst this
    refine ⟨(ek, ed, ea, eb, nI i), ?_, rfl, fun j hj => ?_⟩
    · rw [f_Model_read_b161]
      dsimp only
      rw [if_pos (nI_le (Nat.le_refl _) (by omega))]
    · have := h j hj
      exact ⟨this.1.symm, this.2.1.symm, this.2.2.1.symm, this.2.2.2.symm⟩
  | succ t ih =>
    intro i f ek ed ea eb hi hf h
    obtain ⟨g, rfl⟩ : ∃ g, f = g + 1 := ⟨f - 1, by omega⟩
    obtain ⟨ev', h1, h2⟩ := ih (i + 1) g (upd ek i (m.2.2.1.1 i)) (vp_updL ed i (m.2.2.1.2.1 i)) (vp_updL ea i (m.2.2.1.2.2.1 i)) (upd eb i (m.2.2.1.2.2.2.1 i)) (by omega) (by omega) (by
      intro j hj
      dsimp only [upd, vp_updL]
      by_cases e : j = i
      · subst e; simp only [if_true, and_self]
      · simp only [if_neg e]; exact h j (by omega))
    refine ⟨ev', ?_, h2⟩
    rw [f_Model_read_b161]
    have z1 : (nI i < 0) = False := eq_false (nI_pos (by omega))
    have z2 : (nI i).toNatClampNeg = i := cl_n (by omega)
    have z3 : (300 ≤ i) = False := eq_false (by omega)
    have z4 : (nI n ≤ nI i) = False := eq_false (nI_ge (by omega) (by omega))
    simp only [z1, z2, z3, z4, or_self, if_false, nI_1]
    exact h1
theorem fin_0 {m0 log l n} (L : LG m0 log l) {e new : S_Events} {past : S_Past} (he : EV e new past n) {q : Nat} (hq : q ≤ l) (fp : Int32) : RO m0 log (f_Reader_run_b73 (log, past, nI q, 0, fp) e) (f_Model_read_b109 (MR m0 new (nI q) 0)) := by
  have h5 := L.1.1
  have h3 := he.1.1
  simp only [f_Reader_run_b73, fine0, one0, if_false, f_Model_read_b109, mr0e, if_true]
  rw [show f_Bytes_length log = nI l from L.1.2.1, show (MR m0 new (nI q) 0).2.2.2.1.2 = nI l from L.2.1, show (MR m0 new (nI q) 0).2.2.2.2.2.2.1 = nI q from rfl]
  by_cases hql : q = l
  · subst hql
    rw [if_pos (nI_le (Nat.le_refl _) (by omega)), if_pos (nI_le (Nat.le_refl _) (by omega))]
    obtain ⟨ev', c1, c2, c3⟩ := m_cp (m := MR m0 new (nI q) 0) h3 n 0 400 m0.2.1.1 m0.2.1.2.1 m0.2.1.2.2.1 m0.2.1.2.2.2.1 (by omega) (by omega) (by intro j hj; omega)
    refine ⟨nI n, (log, past, nI q, 0, fp), e, (m0.1, ev', new, m0.2.2.2.1, m0.2.2.2.2.1, m0.2.2.2.2.2.1, nI q, 0), ?_, ?_, rfl, rfl, Or.inl ⟨nI_pos (by omega), n, he.1, c2, fun i hi => ?_⟩⟩
    · simp only [f_Reader_run_b104, fine0, one0, if_false]
      rw [show f_Events_number e = nI n from he.1.2.1]
    · unfold f_Model_read_b137
      rw [if_pos (show (MR m0 new (nI q) 0).2.2.2.2.2.2.2 ≤ 0 from by show (0 : Int32) ≤ 0; decide)]
      rw [show (MR m0 new (nI q) 0).2.2.1.2.2.2.2 = nI n from he.2.1]
      exact c1
    · have a := he.2.2.1 i hi
      have b := c3 i hi
      exact ⟨a.1.trans b.1, a.2.1.trans b.2.1, a.2.2.1.trans b.2.2.1, a.2.2.2.trans b.2.2.2⟩
  · have nle : ¬ nI l ≤ nI q := nI_ge (by omega) (by omega)
    have ft : FT 7 q := ⟨by omega, by omega, by omega⟩
    rw [if_neg nle, if_neg nle, meet_eq m0 new _ 7 7 q rfl]
    have hh : bI (f_Reader_isFine (log, past, nI q, 7, nI q)) = 0 := fineX log past (nI q) (nI q) (w := 7) (by omega) (by omega)
    refine ⟨(-1 : Int32) - nI (7 + 8 * q), (log, past, nI q, 7, nI q), e, MR m0 new (nI q) (nI (7 + 8 * q)), ?_, ?_, rfl, rfl, Or.inr ⟨neg_ans (by omega), rfl, n, h3, he.1.2.1⟩⟩
    · simp only [lt1, f_Reader_fail, f_Reader_run_b104, hh, if_true, nI_mul8]
      rw [show (7 : Int32) = nI 7 from rfl, nI_add]
    · simp only [lt1, f_Model_read_b137, mrx m0 new _ ft, if_false]
      rfl
theorem r_loop {m0 log l S} (L : LG m0 log l) (hS : S ≤ 300) : ∀ t n j q e new past fp f1 f2, n + t = S → j ≤ n → q ≤ l → EV e new past n → t + 1 < f1 → t + 1 < f2 → RO m0 log (f_Reader_run_b36 f1 (log, past, nI q, 0, fp) e (lN S) (nI j)) (f_Model_read_b40 f2 (MR m0 new (nI q) 0) (lN S)) := by
  intro t
  induction t using Nat.strongRecOn with
  | _ t ih =>
    intro n j q e new past fp f1 f2 hn hj hq he hf1 hf2
    obtain ⟨g1, rfl⟩ : ∃ g, f1 = g + 1 := ⟨f1 - 1, by omega⟩
    obtain ⟨g2, rfl⟩ : ∃ g, f2 = g + 1 := ⟨f2 - 1, by omega⟩
    rw [f_Reader_run_b36, f_Model_read_b40]
    rw [show f_Events_number e = nI n from he.1.2.1, show (MR m0 new (nI q) 0).2.2.1.2.2.2.2 = nI n from he.2.1, nI_l (by omega)]
    simp only [fine0, one0, if_false, mr0e, if_true, lg_ge0]
    have hle : (lN S ≤ lN n) ↔ S ≤ n := by
      rw [Int64.le_iff_toInt_le, lN_toInt' (by omega), lN_toInt' (by omega)]; omega
    by_cases c : S ≤ n
    · rw [if_pos (hle.mpr c), if_pos (hle.mpr c), ite_self]
      exact fin_0 L he hq fp
    · have c' : ¬ lN S ≤ lN n := by rw [hle]; exact c
      rw [if_neg c', if_neg c', if_neg (show ¬ (300 : Int32) ≤ nI j from nI_ge (b := 300) (by omega) (by decide)), nI_1]
      have hm : ((f_Model_next (MR m0 new (nI q) 0)).bind (fun r63 => if r63.2.2.2.2.2.2.2.2 ≤ 0 then (if (r63.1 &&& 7) = (5 : Int32) then ((f_Model_readRun r63.2 r63.1 (MR m0 new (nI q) 0).2.2.2.2.2.2.1 (lN S).toInt32).bind (fun r93 => f_Model_read_b40 g2 r93 (lN S))) else ((f_Model_readEntry r63.2 r63.1 (MR m0 new (nI q) 0).2.2.2.2.2.2.1).bind (fun r103 => f_Model_read_b40 g2 r103 (lN S)))) else (f_Model_read_b40 g2 r63.2 (lN S)))) = (mE (MR m0 new (nI q) 0) (lN S)).bind (fun r => f_Model_read_b40 g2 r (lN S)) := by
        unfold mE
        cases f_Model_next (MR m0 new (nI q) 0) with
        | none => rfl
        | some r63 =>
          simp only [Option.bind_some]
          split
          · split <;> rfl
          · rfl
      rw [hm]
      rcases re_entry L he hS (by omega) hq fp with ⟨n', q', past', fp', e', new', a1, a2, a3, a4, a5, a6⟩ | ⟨w, fq, past', pl, e', new', at', k, a1, a2, a3, a4, a5⟩
      · rw [a5, a6, Option.bind_some, Option.bind_some]
        exact ih (S - n') (by omega) n' (j + 1) q' e' new' past' fp' g1 g2 (by omega) (by omega) a3 a4 (by omega) (by omega)
      · rw [a4, a5, Option.bind_some, Option.bind_some]
        obtain ⟨k1, rfl⟩ : ∃ g, g1 = g + 1 := ⟨g1 - 1, by omega⟩
        obtain ⟨k2, rfl⟩ : ∃ g, g2 = g + 1 := ⟨g2 - 1, by omega⟩
        exact fin_x a1 past' pl at' e' new' a2 a3 _ _ _ _ _
theorem r_all {m0 : S_Model} {log : S_Bytes} {l k : Nat} (L : LG m0 log l) (past : S_Past) (p1 p2 p3 : Int32) (e : S_Events) (hk : k ≤ 300) (he : e.2.2.2.2 = nI k) : RO (0, m0.2) log (f_Reader_run (log, past, p1, p2, p3) e) (f_Model_read m0) := by
  obtain ⟨ek, ed, ea, eb, en⟩ := e
  dsimp only at he
  subst he
  have kf : f_Events_keepFirst (ek, ed, ea, eb, nI k) 0 = (ek, ed, ea, eb, nI 0) := by
    unfold f_Events_keepFirst
    dsimp only
    rw [if_neg (by decide)]
    by_cases h0 : k = 0
    · subst h0; rw [if_pos (by decide)]
    · rw [if_neg (nI_nle (by omega) (by omega))]; rfl
  have L' : LG (0, m0.2) log l := L
  have ev0 : EV (ek, ed, ea, eb, nI 0) (m0.2.2.1.1, m0.2.2.1.2.1, m0.2.2.1.2.2.1, m0.2.2.1.2.2.2.1, 0) (f_Past_forget past) 0 := ⟨⟨by omega, rfl, fun i hi => by omega⟩, rfl, fun i hi => by omega, past_forget _ _⟩
  have e1 : f_Reader_begin (log, past, p1, p2, p3) (ek, ed, ea, eb, nI k) = ((log, f_Past_forget past, nI 0, 0, 0), (ek, ed, ea, eb, nI 0)) := by
    unfold f_Reader_begin
    rw [kf]
    rfl
  unfold f_Reader_run f_Model_read
  rw [e1]
  simp only [lt1]
  rw [show ((0 : Int32), m0.2.1, (m0.2.2.1.1, m0.2.2.1.2.1, m0.2.2.1.2.2.1, m0.2.2.1.2.2.2.1, (0 : Int32)), m0.2.2.2.1, m0.2.2.2.2.1, m0.2.2.2.2.2.1, (0 : Int32), (0 : Int32)) = MR (0, m0.2) (m0.2.2.1.1, m0.2.2.1.2.1, m0.2.2.1.2.2.1, m0.2.2.1.2.2.2.1, 0) (nI 0) 0 from rfl]
  rcases rvz L' (f_Past_forget past) 0 (m0.2.2.1.1, m0.2.2.1.2.1, m0.2.2.1.2.2.1, m0.2.2.1.2.2.2.1, 0) (q := 0) (by omega) with ⟨v, q', hv, h2, h4, h5⟩ | ⟨w, fq, x, pl, y, at', h1, h4, h5⟩
  · rw [h4, h5, Option.bind_some, Option.bind_some]
    simp only [fine0, one0, if_false, lg_le0]
    have hle : (lN v ≤ 300) ↔ v ≤ 300 := by
      rw [Int64.le_iff_toInt_le, lN_toInt' (by omega), show (300 : Int64).toInt = 300 from by decide]; omega
    by_cases c : v ≤ 300
    · rw [if_pos (hle.mpr c), if_pos (hle.mpr c)]
      exact r_loop L' c v 0 0 q' _ _ _ 0 400 400 (by omega) (by omega) h2 ev0 (by omega) (by omega)
    · have c' : ¬ lN v ≤ 300 := by rw [hle]; exact c
      rw [if_neg c', if_neg c', show f_Model_meet (MR (0, m0.2) (m0.2.2.1.1, m0.2.2.1.2.1, m0.2.2.1.2.2.1, m0.2.2.1.2.2.2.1, 0) (nI q') 0) 6 0 = _ from meet_eq (0, m0.2) _ _ 6 6 0 rfl]
      exact fin_x (w := 6) (fq := 0) ⟨by omega, by omega, by omega⟩ _ _ _ _ _ (k := 0) (by omega) rfl _ _ _ _ _
  · rw [h4, h5, Option.bind_some, Option.bind_some]
    simp only [fineX log (f_Past_forget past) pl (nI fq) h1.1 h1.2.1, if_true, meet_x (0, m0.2) _ at' _ _ h1, ite_self]
    exact fin_x h1 _ _ _ _ _ (k := 0) (by omega) rfl _ _ _ _ _
theorem op_read {st : S_EventLog} {m : S_Model} (R : Rel st m) : ∃ r st' m', f_EventLog_read st = some (r, st') ∧ f_Model_read m = some (r, m') ∧ Rel st' m' := by
  obtain ⟨n, l, he, hn, hq, hl, hml, hb, z, hz, hs⟩ := R
  obtain ⟨r, s', e', m', h1, h2, h3, h4, h5⟩ := r_all (m0 := m) (log := st.2.2.1) ⟨hl, hml, hb⟩ st.2.2.2.2.1 st.2.2.2.2.2.1 st.2.2.2.2.2.2.1 st.2.2.2.2.2.2.2 st.2.1 hz hs
  rcases h5 with ⟨hr, n', a1, a2, a3⟩ | ⟨hr, a1, k, a2, a3⟩
  · refine ⟨r, (e', st.1, s'.1, st.2.2.2.1, s'.2), m', ?_, h2, ?_⟩
    · unfold f_EventLog_read
      rw [h1, Option.bind_some]
      exact if_neg hr
    · refine ⟨n', l, a1, a2, a3, ?_, ?_, ?_, n, he.1, he.2.1⟩
      · show LOK s'.1 l
        rw [h3]; exact hl
      · rw [h4]; exact hml
      · intro i hi
        show s'.1.1 i = m'.2.2.2.1.1 i
        rw [h3, h4]; exact hb i hi
  · refine ⟨r, (st.1, e', s'.1, st.2.2.2.1, s'.2), m', ?_, h2, ?_⟩
    · unfold f_EventLog_read
      rw [h1, Option.bind_some]
      exact if_pos hr
    · refine ⟨n, l, he, ?_, ?_, ?_, ?_, ?_, k, a2, a3⟩
      · rw [a1]; exact hn
      · show EEq st.1 m'.2.1 n
        rw [a1]; exact hq
      · show LOK s'.1 l
        rw [h3]; exact hl
      · rw [h4]; exact hml
      · intro i hi
        show s'.1.1 i = m'.2.2.2.1.1 i
        rw [h3, h4]; exact hb i hi
