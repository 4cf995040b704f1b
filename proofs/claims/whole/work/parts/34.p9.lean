theorem PQ_past {m0 log0 W past past' c en ru sa co p m} (h : PQ m0 log0 W past c en ru sa co p m) : PQ m0 log0 W past' c en ru sa co (p.1, past', p.2.2.1, p.2.2.2.1, p.2.2.2.2.1, p.2.2.2.2.2.1, p.2.2.2.2.2.2.1, p.2.2.2.2.2.2.2) m := by
  obtain ⟨log, row, rfl, rfl, hl⟩ := h
  exact ⟨log, row, rfl, rfl, hl⟩
theorem PQ_pp {m0 log0 W past c en ru sa co p m} (h : PQ m0 log0 W past c en ru sa co p m) : p.2.1 = past := by
  obtain ⟨log, row, rfl, rfl, hl⟩ := h; rfl
theorem PQ_me {m0 log0 W past c en ru sa co p m} (h : PQ m0 log0 W past c en ru sa co p m) : m.2.1 = m0.2.1 := by
  obtain ⟨log, row, rfl, rfl, hl⟩ := h; rfl
def LI (m0 : S_Model) (log0 : S_Bytes) (W : Bool) (past : S_Past) (ev : S_Events) (n i a : Nat) (p : S_Packer) (m : S_Model) : Prop :=
  (alk ev n i = true ∧ ∃ c en ru sa co, c ≤ 2 + 15 * (i - a) ∧ PQ m0 log0 W past c en ru sa co p m) ∨ (alk ev n i = false ∧ ∃ p1 c en ru sa co, c ≤ 2 + 15 * i ∧ f_Packer_packRun p (nI a) = some p1 ∧ PQ m0 log0 W past c en ru sa co p1 m)
theorem p_loop {m0 log0 W ev} {n : Nat} (he : EOK ev n) (hq : EEq ev m0.2.1 n) (hn : m0.2.1.2.2.2.2 = nI n) : ∀ t i a f1 f2 past p m, i + t = n → a ≤ i → (a < i ∨ i = 0) → t < f1 → t < f2 → PastOK past ev.1 i → p.2.1 = past → m.2.1 = m0.2.1 → LI m0 log0 W past ev n i a p m → ∃ past' c en ru sa co p' m', c ≤ 4502 ∧ f_Packer_run_b19 f1 p ev (nI a) (nI i) = some p' ∧ f_Model_makeUp_b38 f2 m (nI a) (nI i) = some m' ∧ PQ m0 log0 W past' c en ru sa co p' m' := by
  have h3 := he.1
  intro t
  induction t with
  | zero =>
    intro i a f1 f2 past p m hi ha ha' hf1 hf2 hp hpp hmm h
    obtain ⟨g1, rfl⟩ : ∃ g, f1 = g + 1 := ⟨f1 - 1, by omega⟩
    obtain ⟨g2, rfl⟩ : ∃ g, f2 = g + 1 := ⟨f2 - 1, by omega⟩
    have : i = n := by omega
    subst this
    have hal : alk ev i i = false := by unfold alk; simp
    rcases h with ⟨h, -⟩ | ⟨-, p1, c, en, ru, sa, co, hc, e1, hP⟩
    · rw [hal] at h; exact absurd h (by decide)
    · refine ⟨past, c, en, ru, sa, co, p1, m, by omega, ?_, ?_, hP⟩
      · rw [f_Packer_run_b19, show f_Events_number ev = nI i from he.2.1, if_pos (nI_le (Nat.le_refl _) (by omega)), e1]; rfl
      · rw [f_Model_makeUp_b38, hmm, hn, if_pos (nI_le (Nat.le_refl _) (by omega))]
  | succ t ih =>
    intro i a f1 f2 past p m hi ha ha' hf1 hf2 hp hpp hmm h
    obtain ⟨g1, rfl⟩ : ∃ g, f1 = g + 1 := ⟨f1 - 1, by omega⟩
    obtain ⟨g2, rfl⟩ : ∃ g, f2 = g + 1 := ⟨f2 - 1, by omega⟩
    have hin : i < n := by omega
    have hnote := past_note hp (show i < 300 by omega)
    have hnn : (nI n ≤ nI i) = False := eq_false (nI_ge hin (by omega))
    have hal : f_Model_isAlike m (nI i) = some (alk ev n i) := by rw [m_alk h3 hin, hmm, ← alk_congr hq]
    have hal2 : i + 1 < n → f_Model_isAlike m (nI (i + 1)) = some (alk ev n (i + 1)) := by intro hh; rw [m_alk h3 hh, hmm, ← alk_congr hq]
    have hends : (¬ nI (i + 1) = nI n) → i + 1 < n := by
      intro hh
      rw [nI_eq (by omega) (by omega)] at hh
      omega
    have hend0 : nI (i + 1) = nI n → alk ev n (i + 1) = false := by
      intro hh
      rw [nI_eq (by omega) (by omega)] at hh
      unfold alk
      have : decide (i + 1 < n) = false := by simp; omega
      rw [this]; rfl
    have l00 : ((0 : Int32) ≤ 0) = True := by decide
    have l10 : ((1 : Int32) = 0) = False := by decide
    rcases h with ⟨h, c, en, ru, sa, co, hc, hP⟩ | ⟨h, p1, c, en, ru, sa, co, hc, e1, hP⟩
    · have hi0 : 0 < i := by
        unfold alk at h
        by_cases h0 : 0 < i
        · exact h0
        · simp [h0] at h
      have hP' := PQ_past (past' := f_Past_note past (ev.1 i) (nI i)) hP
      have cl : f_Packer_run_b19 (g1 + 1) p ev (nI a) (nI i) = f_Packer_run_b19 g1 (p.1, f_Past_note past (ev.1 i) (nI i), p.2.2.1, p.2.2.2.1, p.2.2.2.2.1, p.2.2.2.2.2.1, p.2.2.2.2.2.2.1, p.2.2.2.2.2.2.2) ev (nI (a + 1)) (nI (i + 1)) := by
        rw [f_Packer_run_b19, show f_Events_number ev = nI n from he.2.1]
        simp only [hnn, if_false]
        rw [c_alk he hin, h, if_neg (show ¬ bI true = 0 by decide), ev_kind he hin, hpp, nI_1, nI_1]
        rfl
      have a1 : (nI (a + 1) ≤ 0) = False := eq_false (nI_nle (by omega) (by omega))
      by_cases hb : alk ev n (i + 1) = true
      · have hne : (nI (i + 1) = nI n) = False := eq_false (fun hh => by rw [hend0 hh] at hb; exact absurd hb (by decide))
        have hlt := hends (by rw [hne]; exact not_false)
        have ml : f_Model_makeUp_b38 (g2 + 1) m (nI a) (nI i) = f_Model_makeUp_b38 g2 m (nI (a + 1)) (nI (i + 1)) := by
          rw [f_Model_makeUp_b38, hmm, hn, hal, h]
          simp only [hnn, if_false, Option.bind_some, bIt, nI_1, hne, hal2 hlt, hb, a1, if_true]
        rw [cl, ml]
        refine ih (i + 1) (a + 1) g1 g2 _ _ m (by omega) (by omega) (Or.inl (by omega)) (by omega) (by omega) hnote (PQ_pp hP') hmm ?_
        refine Or.inl ⟨hb, c, en, ru, sa, co, ?_, hP'⟩
        rw [show i + 1 - (a + 1) = i - a from by omega]
        exact hc
      · have hb' : alk ev n (i + 1) = false := by simpa using hb
        obtain ⟨d, p', m', hd, r1, r2, hR⟩ := p_run hP' (a := a + 1) (by omega) (by omega) (by omega)
        have ml : f_Model_makeUp_b38 (g2 + 1) m (nI a) (nI i) = f_Model_makeUp_b38 g2 m' (nI (a + 1)) (nI (i + 1)) := by
          have r2' := r2
          unfold enInc at r2'
          rw [f_Model_makeUp_b38, hal, h]
          rw [show m.2.1.2.2.2.2 = nI n from by rw [hmm, hn]]
          by_cases hne : nI (i + 1) = nI n
          · simp only [hnn, if_false, Option.bind_some, bIt, nI_1, eq_true hne, if_true, a1, l10, r2']
          · simp only [hnn, if_false, Option.bind_some, bIt, bIf, nI_1, eq_false hne, hal2 (hends hne), hb', if_true, a1, l10, r2']
        rw [cl, ml]
        refine ih (i + 1) (a + 1) g1 g2 _ _ m' (by omega) (by omega) (Or.inl (by omega)) (by omega) (by omega) hnote (PQ_pp hP') (PQ_me hR) ?_
        refine Or.inr ⟨hb', p', c + d, en + 1, ru + 1, sa, co, by omega, r1, hR⟩
    · obtain ⟨d, p2, m2, sa', co', hd, x1, x2, hX⟩ := p_entry hP he hq hin (hp) (by omega)
      have hX' := PQ_past (past' := f_Past_note past (ev.1 i) (nI i)) hX
      have cl : f_Packer_run_b19 (g1 + 1) p ev (nI a) (nI i) = f_Packer_run_b19 g1 (p2.1, f_Past_note past (ev.1 i) (nI i), p2.2.2.1, p2.2.2.2.1, p2.2.2.2.2.1, p2.2.2.2.2.2.1, p2.2.2.2.2.2.2.1, p2.2.2.2.2.2.2.2) ev (nI 0) (nI (i + 1)) := by
        rw [f_Packer_run_b19, show f_Events_number ev = nI n from he.2.1]
        simp only [hnn, if_false]
        rw [c_alk he hin, h, if_pos (show bI false = 0 from rfl), ev_kind he hin, e1]
        simp only [Option.bind_some, x1, lt1, nI_1]
        rw [PQ_pp hX]
        rfl
      have ml : f_Model_makeUp_b38 (g2 + 1) m (nI a) (nI i) = f_Model_makeUp_b38 g2 m2 (nI 0) (nI (i + 1)) := by
        have x2' := x2
        unfold enInc at x2'
        rw [f_Model_makeUp_b38, hal, h]
        rw [show m.2.1.2.2.2.2 = nI n from by rw [hmm, hn]]
        by_cases hne : nI (i + 1) = nI n
        · simp only [hnn, if_false, Option.bind_some, bIt, bIf, nI_1, eq_true hne, if_true, l00, l10, x2']
          rfl
        · cases hb : alk ev n (i + 1) <;>
            simp only [hnn, if_false, Option.bind_some, bIt, bIf, nI_1, eq_false hne, hal2 (hends hne), hb, if_true, l00, l10, x2'] <;> rfl
      rw [cl, ml]
      refine ih (i + 1) 0 g1 g2 _ _ m2 (by omega) (by omega) (Or.inl (by omega)) (by omega) (by omega) hnote (PQ_pp hX') (PQ_me hX) ?_
      cases hb : alk ev n (i + 1)
      · refine Or.inr ⟨hb, _, c + d, en + 1, ru, sa', co', by omega, ?_, hX'⟩
        unfold f_Packer_packRun
        rw [if_neg (by decide)]
      · exact Or.inl ⟨hb, c + d, en + 1, ru, sa', co', by omega, hX'⟩
theorem p_all {st : S_Packer} {m0 : S_Model} {ev : S_Events} {n l : Nat} (he : EOK ev n) (hq : EEq ev m0.2.1 n) (hn : m0.2.1.2.2.2.2 = nI n) (hl : st.1.2 = nI l) (hl5 : l ≤ 5000) (W : Bool) : ∃ past' c en ru sa co p' m', c ≤ 4502 ∧ f_Packer_run st ev W = some p' ∧ f_Model_makeUp m0 = some m' ∧ PQ m0 st.1 W past' c en ru sa co p' m' := by
  have h3 := he.1
  obtain ⟨log', hlog, hb⟩ : ∃ log', LR W st.1 log' m0.2.2.2.2.1.1 0 ∧ f_Packer_begin st W = (log', f_Past_forget st.2.1, W, 0, 0, 0, 0, 0) := by
    cases W
    · exact ⟨st.1, Or.inl ⟨rfl, rfl⟩, by unfold f_Packer_begin; rw [if_pos (show bI false = 0 from rfl)]; rfl⟩
    · refine ⟨f_Bytes_keepFirst st.1 0, Or.inr ⟨rfl, ?_, fun i hi => by omega⟩, by unfold f_Packer_begin; rw [if_neg (show ¬ bI true = 0 by decide)]; rfl⟩
      unfold f_Bytes_keepFirst
      rw [if_neg (by decide), hl]
      by_cases h0 : l = 0
      · subst h0; rw [if_pos (by decide)]; exact hl
      · rw [if_neg (nI_nle (by omega) (by omega))]; rfl
  have hP : PQ m0 st.1 W (f_Past_forget st.2.1) 0 0 0 0 0 (log', f_Past_forget st.2.1, W, nI 0, 0, 0, 0, 0) (MP m0 m0.2.2.2.2.1.1 0 0 0 0 0) := ⟨log', _, rfl, rfl, hlog⟩
  obtain ⟨d, p1, m1, d1, d2, d3, d4, d5⟩ := p_varintE 2 (k := n) hP (by omega) (by omega) (by omega) (by omega)
  have hli : LI m0 st.1 W (f_Past_forget st.2.1) ev n 0 0 p1 m1 := by
    refine Or.inr ⟨by unfold alk; simp, p1, 0 + d, 0, 0, 0, 0, by omega, ?_, d5⟩
    unfold f_Packer_packRun
    rw [if_neg (by decide)]
  obtain ⟨past', c, en, ru, sa, co, p', m', hc, r1, r2, hR⟩ := p_loop he hq hn n 0 0 400 400 (f_Past_forget st.2.1) p1 m1 (by omega) (by omega) (Or.inr rfl) (by omega) (by omega) (past_forget _ _) (PQ_pp d5) (PQ_me d5) hli
  refine ⟨past', c, en, ru, sa, co, p', m', hc, ?_, ?_, hR⟩
  · unfold f_Packer_run
    rw [hb, show f_Events_number ev = nI n from he.2.1, nI_l (by omega)]
    simp only [lt1]
    rw [show f_Packer_packVarint (log', f_Past_forget st.2.1, W, 0, 0, 0, 0, 0) (lN n) = some p1 from d3, Option.bind_some]
    exact r1
  · unfold f_Model_makeUp
    rw [hn, nI_l (by omega)]
    show (f_Model_varint (MP m0 m0.2.2.2.2.1.1 0 0 0 0 0) (lN n)).bind _ = some m'
    rw [d4, Option.bind_some]
    exact r2
theorem m_cpy {row : Nat → Int32} {m : S_Model} {c : Nat} (hc : c ≤ 5000) (hm : m.2.2.2.2.1 = (row, nI c)) : ∀ t i f (lr : Nat → Int32), i + t = c → t < f → (∀ j, j < i → lr j = row j) → ∃ lr', f_Model_pack_b19 f (m.1, m.2.1, m.2.2.1, (lr, nI c), m.2.2.2.2.1, m.2.2.2.2.2.1, m.2.2.2.2.2.2.1, m.2.2.2.2.2.2.2) (nI i) = some (nI c, (m.1, m.2.1, m.2.2.1, (lr', nI c), m.2.2.2.2.1, m.2.2.2.2.2.1, m.2.2.2.2.2.2.1, m.2.2.2.2.2.2.2)) ∧ ∀ j, j < c → lr' j = row j := by
  intro t
  induction t with
  | zero =>
    intro i f lr hi hf h
    obtain ⟨g, rfl⟩ : ∃ g, f = g + 1 := ⟨f - 1, by omega⟩
    have : i = c := by omega
    subst this
    refine ⟨lr, ?_, h⟩
    rw [f_Model_pack_b19]
    dsimp only
    rw [if_pos (show m.2.2.2.2.1.2 ≤ nI i from by rw [hm]; exact nI_le (Nat.le_refl _) (by omega))]
  | succ t ih =>
    intro i f lr hi hf h
    obtain ⟨g, rfl⟩ : ∃ g, f = g + 1 := ⟨f - 1, by omega⟩
    obtain ⟨lr', h1, h2⟩ := ih (i + 1) g (upd lr i (row i)) (by omega) (by omega) (by
      intro j hj
      dsimp only [upd]
      by_cases e : j = i
      · rw [if_pos e, e]
      · rw [if_neg e]; exact h j (by omega))
    refine ⟨lr', ?_, h2⟩
    rw [f_Model_pack_b19]
    dsimp only
    rw [if_neg (show ¬ m.2.2.2.2.1.2 ≤ nI i from by rw [hm]; exact nI_ge (by omega) (by omega)), if_neg (ini5000 (by omega)), if_neg (ini5000 (by omega)), cl_n (by omega), nI_1]
    rw [show m.2.2.2.2.1.1 i = row i from by rw [hm]]
    exact h1
theorem op_pack {st : S_EventLog} {m : S_Model} (R : Rel st m) : ∃ r st' m', f_EventLog_pack st = some (r, st') ∧ f_Model_pack m = some (r, m') ∧ Rel st' m' := by
  obtain ⟨n, l, he, hn, hq, hl, hml, hb, z, hz, hs⟩ := R
  obtain ⟨past', c, en, ru, sa, co, p', m', hc, r1, r2, log, row, rfl, rfl, hR⟩ := p_all (m0 := (0, m.2)) (st := (st.2.2.1, st.2.2.2.1.1, st.2.2.2.1.2.1, st.2.2.2.1.2.2.1, st.2.2.2.1.2.2.2.1, st.2.2.2.1.2.2.2.2.1, st.2.2.2.1.2.2.2.2.2.1, st.2.2.2.1.2.2.2.2.2.2)) he hq hn hl.2.1 hl.1 true
  rcases hR with ⟨h, -⟩ | ⟨-, h1, h2⟩
  · exact absurd h (by decide)
  · obtain ⟨lr', c1, c2⟩ := m_cpy (row := row) (m := MP (0, m.2) row c en ru sa co) (c := c) (by omega) rfl c 0 6000 m.2.2.2.1.1 (by omega) (by omega) (by intro j hj; omega)
    refine ⟨nI c, (st.1, st.2.1, log, (past', true, nI c, en, ru, sa, co), st.2.2.2.2), (0, m.2.1, m.2.2.1, (lr', nI c), (row, nI c), (en, ru, sa, co), m.2.2.2.2.2.2.1, m.2.2.2.2.2.2.2), ?_, ?_, ?_⟩
    · unfold f_EventLog_pack; rw [r1]; rfl
    · unfold f_Model_pack
      rw [show f_Model_makeUp (0, m.2.1, m.2.2.1, m.2.2.2.1, m.2.2.2.2.1, m.2.2.2.2.2.1, m.2.2.2.2.2.2.1, m.2.2.2.2.2.2.2) = some _ from r2, Option.bind_some]
      exact c1
    · refine ⟨n, c, he, hn, hq, ⟨by omega, h1, fun i hi => ?_⟩, rfl, fun i hi => ?_, z, hz, hs⟩
      · obtain ⟨e, b, hb, e'⟩ := h2 i hi
        exact ⟨b, hb, e.trans e'⟩
      · exact (h2 i hi).1.trans (c2 i hi).symm
theorem op_size {st : S_EventLog} {m : S_Model} (R : Rel st m) : ∃ r st' m', f_EventLog_size st = some (r, st') ∧ f_Model_size m = some (r, m') ∧ Rel st' m' := by
  obtain ⟨n, l, he, hn, hq, hl, hml, hb, z, hz, hs⟩ := R
  obtain ⟨past', c, en, ru, sa, co, p', m', hc, r1, r2, log, row, rfl, rfl, hR⟩ := p_all (m0 := (0, m.2)) (st := (st.2.2.1, st.2.2.2.1.1, st.2.2.2.1.2.1, st.2.2.2.1.2.2.1, st.2.2.2.1.2.2.2.1, st.2.2.2.1.2.2.2.2.1, st.2.2.2.1.2.2.2.2.2.1, st.2.2.2.1.2.2.2.2.2.2)) he hq hn hl.2.1 hl.1 false
  rcases hR with ⟨-, h⟩ | ⟨h, -⟩
  · dsimp only at h
    subst h
    refine ⟨nI c, (st.1, st.2.1, st.2.2.1, (past', false, nI c, en, ru, sa, co), st.2.2.2.2), MP (0, m.2) row c en ru sa co, ?_, ?_, ?_⟩
    · unfold f_EventLog_size; rw [r1]; rfl
    · unfold f_Model_size
      rw [show f_Model_makeUp (0, m.2.1, m.2.2.1, m.2.2.2.1, m.2.2.2.2.1, m.2.2.2.2.2.1, m.2.2.2.2.2.2.1, m.2.2.2.2.2.2.2) = some _ from r2]
      rfl
    · exact ⟨n, l, he, hn, hq, hl, hml, hb, z, hz, hs⟩
  · exact absurd h (by decide)
theorem op_count {st : S_EventLog} {m : S_Model} (R : Rel st m) (w : Int32) : ∃ r st' m', f_EventLog_count st w = some (r, st') ∧ f_Model_count m w = some (r, m') ∧ Rel st' m' := by
  have R0 := R
  obtain ⟨n, l, he, hn, hq, hl, hml, hb, z, hz, hs⟩ := R
  obtain ⟨past', c, en, ru, sa, co, p', m', hc, r1, r2, log, row, rfl, rfl, hR⟩ := p_all (m0 := (0, m.2)) (st := (st.2.2.1, st.2.2.2.1.1, st.2.2.2.1.2.1, st.2.2.2.1.2.2.1, st.2.2.2.1.2.2.2.1, st.2.2.2.1.2.2.2.2.1, st.2.2.2.1.2.2.2.2.2.1, st.2.2.2.1.2.2.2.2.2.2)) he hq hn hl.2.1 hl.1 false
  have r2' : f_Model_makeUp (0, m.2.1, m.2.2.1, m.2.2.2.1, m.2.2.2.2.1, m.2.2.2.2.2.1, m.2.2.2.2.2.2.1, m.2.2.2.2.2.2.2) = some (MP (0, m.2) row c en ru sa co) := r2
  rcases hR with ⟨-, h⟩ | ⟨h, -⟩
  · dsimp only at h
    subst h
    obtain ⟨n01, n02, n03, n04, n10, n12, n13, n14, n20, n21, n23, n24, n30, n31, n32, n34, n40, n41, n42, n43⟩ := k_ne
    have RR : ∀ pk, Rel (st.1, st.2.1, st.2.2.1, pk, st.2.2.2.2) (MP (0, m.2) row c en ru sa co) := fun pk => ⟨n, l, he, hn, hq, hl, hml, hb, z, hz, hs⟩
    unfold f_EventLog_count f_Model_count
    rw [r2', r1]
    simp only [Option.bind_some]
    by_cases w0 : w = 0
    · subst w0
      simp only [if_true]
      refine ⟨nI n, st, _, ?_, ?_, (RR st.2.2.2.1)⟩
      · rw [show f_Events_number st.1 = nI n from he.2.1]
      · rw [show (MP (0, m.2) row c en ru sa co).2.1.2.2.2.2 = nI n from hn]
    by_cases w1 : w = 1
    · subst w1
      simp only [if_true, n10, if_false]
      refine ⟨nI l, st, _, ?_, ?_, (RR st.2.2.2.1)⟩
      · rw [show f_Bytes_length st.2.2.1 = nI l from hl.2.1]
      · rw [show (MP (0, m.2) row c en ru sa co).2.2.2.1.2 = nI l from hml]
    by_cases w2 : w = 2
    · subst w2
      simp only [if_true, n20, n21, if_false]
      exact ⟨_, _, _, rfl, rfl, RR _⟩
    by_cases w3 : w = 3
    · subst w3
      simp only [if_true, n30, n31, n32, if_false]
      exact ⟨_, _, _, rfl, rfl, RR _⟩
    by_cases w4 : w = 4
    · subst w4
      simp only [if_true, n40, n41, n42, n43, if_false]
      exact ⟨_, _, _, rfl, rfl, RR _⟩
    by_cases w5 : w = 5
    · subst w5
      simp only [if_true, if_false, w0, w1, w2, w3, w4]
      exact ⟨_, _, _, rfl, rfl, RR _⟩
    · simp only [if_false, w0, w1, w2, w3, w4, w5]
      exact ⟨_, _, _, rfl, rfl, RR _⟩
  · exact absurd h (by decide)
