def sameD (ev : S_Events) (i : Nat) : Bool := decide (ev.2.1 i = if i = 0 then 0 else ev.2.1 (i - 1))
def kE (ev : S_Events) (i : Nat) : Nat := if ev.1 i = 1 then (if ev.2.2.2.1 i ≤ 1 then 0 else scan (sameE ev i) 0 (tyL ev.1 i)) else 0
def faE (ev : S_Events) (i : Nat) : Bool := if ev.1 i = 3 then farE ev i (ckN ev.1 i) else false
def xE (ev : S_Events) (i : Nat) : Int32 := if ev.1 i = 1 then (if kE ev i = 0 then ev.2.2.2.1 i else 0) else if ev.1 i = 3 then bI (faE ev i) else if ev.1 i = 4 then 0 else (ev.2.2.1 i).toInt32
theorem sameD_congr {e f : S_Events} {n i : Nat} (h : EEq e f n) (hi : i < n) : sameD e i = sameD f i := by
  unfold sameD
  rw [(h i hi).2.1]
  by_cases e0 : i = 0
  · rw [if_pos e0, if_pos e0]
  · rw [if_neg e0, if_neg e0, (h (i - 1) (by omega)).2.1]
theorem kE_congr {e f : S_Events} {n i : Nat} (h : EEq e f n) (hi : i < n) : kE e i = kE f i := by
  unfold kE
  rw [(h i hi).1, (h i hi).2.2.2, tyL_congr i (fun j hj => (h j (by omega)).1)]
  rw [scan_congr (P := sameE e i) (Q := sameE f i) _ 0 (fun j hj => sameE_congr h hi (by have := (tyL_mem _ _ _ hj).1; omega))]
theorem faE_congr {e f : S_Events} {n i : Nat} (h : EEq e f n) (hi : i < n) : faE e i = faE f i := by
  unfold faE
  rw [(h i hi).1, ckN_congr i (fun j hj => (h j (by omega)).1)]
  split
  · cases hc : ckN f.1 i with
    | none => rfl
    | some j =>
      have := (ckN_mem _ _ _ hc).1
      unfold farE
      dsimp only
      rw [(h i hi).2.2.1, (h j (by omega)).2.2.1]
  · rfl
theorem xE_congr {e f : S_Events} {n i : Nat} (h : EEq e f n) (hi : i < n) : xE e i = xE f i := by
  unfold xE
  rw [(h i hi).1, (h i hi).2.2.2, (h i hi).2.2.1, kE_congr h hi, faE_congr h hi]
theorem c_same {ev : S_Events} {n i : Nat} (he : EOK ev n) (hi : i < n) : f_Events_hasDifferenceBefore ev (nI i) = sameD ev i := by
  unfold f_Events_hasDifferenceBefore sameD
  simp only [lg_eq0]
  rw [ev_diff he hi]
  cases i with
  | zero => rw [show nI 0 - 1 = (-1 : Int32) from by decide, ev_diff_m1]; simp only [if_true]; by_cases c : ev.2.1 0 = 0 <;> simp [c]
  | succ i =>
    rw [nI_pred, ev_diff he (by omega), if_neg (show ¬ i + 1 = 0 by omega), show i + 1 - 1 = i from rfl]
    by_cases c : ev.2.1 (i + 1) = ev.2.1 i <;> simp [c]
theorem c_kE {ev : S_Events} {n i : Nat} {st : S_Packer} (he : EOK ev n) (hi : i < n) (hp : PastOK st.2.1 ev.1 i) : f_Packer_repeated st ev (nI i) = some (nI (kE ev i)) := by
  unfold f_Packer_repeated kE
  rw [ev_kind he hi, ev_b he hi]
  by_cases k1 : ev.1 i = 1
  · rw [if_pos k1, if_pos k1]
    by_cases b2 : (2 : Int32) ≤ ev.2.2.2.1 i
    · rw [if_pos b2, if_neg (show ¬ ev.2.2.2.1 i ≤ 1 by rw [Int32.le_iff_toInt_le] at b2 ⊢; rw [show (2 : Int32).toInt = 2 from by decide] at b2; rw [show (1 : Int32).toInt = 1 from by decide]; omega)]
      have := c_rep he hi hp 20 0 400 (by omega) (by omega)
      rw [List.drop_zero] at this
      exact this
    · rw [if_neg b2, if_pos (show ev.2.2.2.1 i ≤ 1 by rw [Int32.le_iff_toInt_le] at b2 ⊢; rw [show (2 : Int32).toInt = 2 from by decide] at b2; rw [show (1 : Int32).toInt = 1 from by decide]; omega)]
      rfl
  · rw [if_neg k1, if_neg k1]; rfl
theorem kE_le (ev : S_Events) (i : Nat) : kE ev i ≤ 20 := by
  unfold kE
  split
  · split
    · omega
    · exact scan_le _ _ _
  · omega
theorem kE_t {ev : S_Events} {i : Nat} (h : 0 < kE ev i) : ev.1 i = 1 := by
  unfold kE at h
  split at h
  · assumption
  · omega
theorem c_xE {ev : S_Events} {n i : Nat} {st : S_Packer} (he : EOK ev n) (hi : i < n) (hp : PastOK st.2.1 ev.1 i) : f_Packer_headX st ev (nI i) (nI (kE ev i)) = xE ev i := by
  obtain ⟨n01, n02, n03, n04, n10, n12, n13, n14, n20, n21, n23, n24, n30, n31, n32, n34, n40, n41, n42, n43⟩ := k_ne
  have hk := kE_le ev i
  unfold f_Packer_headX xE
  rw [ev_kind he hi, ev_a he hi, ev_b he hi]
  obtain ⟨-, hv⟩ := he.2.2 i hi
  rcases hv with ⟨e, -⟩ | ⟨e, -⟩ | ⟨e, -⟩ | ⟨e, -⟩ | ⟨e, -⟩
  · simp only [e, if_true, n01, n03, n04, if_false]
  · simp only [e, if_true, n10, if_false]
    by_cases k0 : kE ev i = 0
    · rw [k0, if_pos (by decide), if_pos rfl]
    · rw [if_neg k0, if_neg (nI_nle (by omega) (by omega))]
  · simp only [e, if_true, n20, n21, n23, n24, if_false]
  · have := c_far he hi hp e
    simp only [e, if_true, n30, n31, n32, if_false]
    rw [this]
    unfold faE
    rw [if_pos e]
    cases farE ev i (ckN ev.1 i) <;> rfl
  · simp only [e, n40, n41, n42, n43, if_true, if_false]
theorem x_byte {ev : S_Events} {n i : Nat} (he : EOK ev n) (hi : i < n) (s : Bool) : ((ev.1 i ||| zS s) ||| (xE ev i <<< (4 &&& 31))) = ((ev.1 i ||| zS s) ||| (xE ev i <<< (4 &&& 31))) &&& 255 := by
  obtain ⟨n01, n02, n03, n04, n10, n12, n13, n14, n20, n21, n23, n24, n30, n31, n32, n34, n40, n41, n42, n43⟩ := k_ne
  have key : ∀ k x : Nat, k < 5 → x < 16 → ev.1 i = nI k → xE ev i = nI x → ((ev.1 i ||| zS s) ||| (xE ev i <<< (4 &&& 31))) = ((ev.1 i ||| zS s) ||| (xE ev i <<< (4 &&& 31))) &&& 255 := by
    intro k x hk hx e1 e2
    rw [e1, e2]
    cases s
    · exact head_byte k hk x hx 0 (by omega)
    · exact head_byte k hk x hx 1 (by omega)
  obtain ⟨-, hv⟩ := he.2.2 i hi
  rcases hv with ⟨e, ⟨an, ha, ea⟩, -⟩ | ⟨e, bn, b1, b2, eb⟩ | ⟨e, ⟨an, ha, ea⟩, -⟩ | ⟨e, -⟩ | ⟨e, -⟩
  · exact key 0 an (by omega) (by omega) e (by unfold xE; simp only [e, n01, n03, n04, if_false]; rw [ea, lN_i])
  · by_cases k0 : kE ev i = 0
    · exact key 1 bn (by omega) (by omega) e (by unfold xE; simp only [e, if_true, k0]; exact eb)
    · exact key 1 0 (by omega) (by omega) e (by unfold xE; simp only [e, if_true, k0, if_false]; rfl)
  · exact key 2 an (by omega) (by omega) e (by unfold xE; simp only [e, n21, n23, n24, if_false]; rw [ea, lN_i])
  · cases hf : faE ev i
    · exact key 3 0 (by omega) (by omega) e (by unfold xE; simp only [e, n31, if_true, if_false, hf]; rfl)
    · exact key 3 1 (by omega) (by omega) e (by unfold xE; simp only [e, n31, if_true, if_false, hf]; rfl)
  · exact key 4 0 (by omega) (by omega) e (by unfold xE; simp only [e, n41, n43, if_true, if_false]; rfl)
theorem m_entry {m : S_Model} {n i : Nat} (hi : i < n) (h3 : n ≤ 300) (hv : VE (m.2.1.1 i) (m.2.1.2.1 i) (m.2.1.2.2.1 i) (m.2.1.2.2.2.1 i)) : f_Model_entry m (nI i) = f_Model_entry_b167 m (nI i) (sameD m.2.1 i) (nI (kE m.2.1 i)) (faE m.2.1 i) (xE m.2.1 i) (zS (sameD m.2.1 i)) (m.2.1.1 i) := by
  obtain ⟨n01, n02, n03, n04, n10, n12, n13, n14, n20, n21, n23, n24, n30, n31, n32, n34, n40, n41, n42, n43⟩ := k_ne
  have z1 : (nI i < 0) = False := eq_false (nI_pos (by omega))
  have z2 : (nI i).toNatClampNeg = i := cl_n (by omega)
  have z3 : (300 ≤ i) = False := eq_false (by omega)
  have s1 : f_Model_entry m (nI i) = f_Model_entry_b31 m (nI i) (sameD m.2.1 i) := by
    unfold f_Model_entry f_Model_entry_b22 sameD
    simp only [z1, z2, z3, or_self, if_false, lg_eq0]
    cases i with
    | zero =>
      rw [if_pos (show nI 0 = 0 from rfl)]
      by_cases c : m.2.1.2.1 0 = 0 <;> simp [c]
    | succ i =>
      rw [if_neg (nI_ne0 (by omega) (by omega)), nI_pred, if_neg (ini300 (by omega)), cl_n (by omega), if_neg (show ¬ i + 1 = 0 by omega), show i + 1 - 1 = i from rfl]
      by_cases c : m.2.1.2.1 (i + 1) = m.2.1.2.1 i <;> simp [c]
  rw [s1]
  have s2 : ∀ sm : Bool, f_Model_entry_b31 m (nI i) sm = f_Model_entry_b51 m (nI i) sm (nI (kE m.2.1 i)) := by
    intro sm
    unfold f_Model_entry_b31 kE
    simp only [z1, z2, z3, or_self, if_false]
    by_cases k1 : m.2.1.1 i = 1
    · rw [if_pos k1, if_pos k1]
      by_cases b1 : m.2.1.2.2.2.1 i ≤ 1
      · rw [if_pos b1, m_copy0 (by omega) b1]; rfl
      · rw [if_neg b1]
        have := m_copy (m := m) (i := i) (by omega) b1 i 0 400 (by omega) (by omega) (by omega)
        rw [show f_Model_copyOf m (nI i) = some _ from this]
        rfl
    · rw [if_neg k1, if_neg k1]; rfl
  rw [s2]
  have s3 : ∀ (sm : Bool) (k : Int32), f_Model_entry_b51 m (nI i) sm k = f_Model_entry_b75 m (nI i) sm k (faE m.2.1 i) := by
    intro sm k
    unfold f_Model_entry_b51 faE f_Model_entry_b74
    simp only [z1, z2, z3, or_self, if_false]
    by_cases k1 : m.2.1.1 i = 3
    · rw [if_pos k1, if_pos k1]
      have := m_far (m := m) (i := i) (by omega) i 400 (by omega) (by omega)
      rw [show f_Model_isAsFar m (nI i) = some _ from this]
      simp only [Option.bind_some]
      cases farE m.2.1 i (ckN m.2.1.1 i)
      · rw [if_pos (show bI false = 0 from rfl)]
      · rw [if_neg (show ¬ bI true = 0 by decide)]
    · rw [if_neg k1, if_neg k1]
  rw [s3]
  have s4 : ∀ (sm : Bool), f_Model_entry_b75 m (nI i) sm (nI (kE m.2.1 i)) (faE m.2.1 i) = f_Model_entry_b148 m (nI i) sm (nI (kE m.2.1 i)) (faE m.2.1 i) (xE m.2.1 i) := by
    intro sm
    have hk := kE_le m.2.1 i
    unfold f_Model_entry_b75 xE
    simp only [z1, z2, z3, or_self, if_false]
    by_cases k1 : m.2.1.1 i = 1
    · rw [if_pos k1, if_pos k1]
      by_cases k0 : kE m.2.1 i = 0
      · rw [k0, if_pos (show nI 0 ≤ 0 by decide), if_pos rfl]
      · rw [if_neg k0, if_neg (nI_nle (by omega) (by omega))]
    · rw [if_neg k1, if_neg k1]
      by_cases k3 : m.2.1.1 i = 3
      · rw [if_pos k3, if_pos k3]
        cases faE m.2.1 i
        · rw [if_pos (show bI false = 0 from rfl)]; rfl
        · rw [if_neg (show ¬ bI true = 0 by decide)]; rfl
      · rw [if_neg k3, if_neg k3]
        by_cases k4 : m.2.1.1 i = 4
        · rw [if_pos k4, if_pos k4]
        · rw [if_neg k4, if_neg k4]
  rw [s4]
  unfold f_Model_entry_b148 zS
  simp only [z1, z2, z3, or_self, if_false]
  cases sameD m.2.1 i
  · rw [if_pos (show bI false = 0 from rfl)]; rfl
  · rw [if_neg (show ¬ bI true = 0 by decide)]; rfl
theorem ve_congr {e f : S_Events} {n i : Nat} (he : EOK e n) (h : EEq e f n) (hi : i < n) : VE (f.1 i) (f.2.1 i) (f.2.2.1 i) (f.2.2.2.1 i) := by
  rw [← (h i hi).1, ← (h i hi).2.1, ← (h i hi).2.2.1, ← (h i hi).2.2.2]
  exact he.2.2 i hi
theorem p_entry {m0 log0 W past c en ru sa co p m ev} {n i : Nat} (h : PQ m0 log0 W past c en ru sa co p m) (he : EOK ev n) (hq : EEq ev m0.2.1 n) (hi : i < n) (hp : PastOK past ev.1 i) (hc : c + 15 ≤ 5000) : ∃ d p' m' sa' co', d ≤ 15 ∧ f_Packer_packEntry p ev (nI i) = some p' ∧ f_Model_entry (enInc m) (nI i) = some m' ∧ PQ m0 log0 W past (c + d) (en + 1) ru sa' co' p' m' := by
  have h3 := he.1
  obtain ⟨log, row, rfl, rfl, hl⟩ := h
  have hP : PQ m0 log0 W past c (en + 1) ru sa co (log, past, W, nI c, en + 1, ru, sa, co) (MP m0 row c (en + 1) ru sa co) := ⟨log, row, rfl, rfl, hl⟩
  obtain ⟨d, p1, m1, hd, e1, e2, hP1⟩ := e_A hP he hq hi (by omega) (sameD ev i) (faE ev i) (nI (kE ev i)) (xE ev i) (ev.1 i) (x_byte he hi _)
  obtain ⟨d', p2, m2, hd', e3, e4, hP2⟩ := e_B hP1 he hq hi (by omega) (kE ev i) (kE_le ev i) kE_t (faE ev i) (xE ev i) (fun e => by unfold xE; rw [if_neg (by rw [e]; decide), if_pos e])
  refine ⟨d + d', p2, m2, _, _, by omega, ?_, ?_, by rw [show c + (d + d') = c + d + d' from by omega]; exact hP2⟩
  · unfold f_Packer_packEntry
    rw [c_kE he hi hp, c_same he hi, ev_kind he hi]
    simp only [Option.bind_some]
    rw [c_xE he hi hp]
    rw [← e3, ← e1]
    cases sameD ev i
    · rw [if_pos (show bI false = 0 from rfl)]; rfl
    · rw [if_neg (show ¬ bI true = 0 by decide)]; rfl
  · rw [show enInc (MP m0 row c en ru sa co) = MP m0 row c (en + 1) ru sa co from rfl]
    rw [m_entry (m := MP m0 row c (en + 1) ru sa co) hi h3 (ve_congr he hq hi)]
    rw [show (MP m0 row c (en + 1) ru sa co).2.1 = m0.2.1 from rfl, ← sameD_congr hq hi, ← kE_congr hq hi, ← faE_congr hq hi, ← xE_congr hq hi, ← (hq i hi).1]
    rw [e2, e4]
def alk (ev : S_Events) (n i : Nat) : Bool := decide (i < n) && (decide (0 < i) && (decide (ev.2.1 i = ev.2.1 (i - 1)) && sameE ev i (i - 1)))
theorem alk_congr {e f : S_Events} {n i : Nat} (h : EEq e f n) : alk e n i = alk f n i := by
  unfold alk
  by_cases hi : i < n
  · by_cases h0 : 0 < i
    · rw [(h i hi).2.1, (h (i - 1) (by omega)).2.1, sameE_congr h hi (show i - 1 < n by omega)]
    · simp only [h0, decide_false, Bool.false_and]
  · simp only [hi, decide_false, Bool.false_and]
theorem c_alk {ev : S_Events} {n i : Nat} (he : EOK ev n) (hi : i < n) : f_Events_isLikeBefore ev (nI i) = alk ev n i := by
  unfold f_Events_isLikeBefore alk
  rw [c_same he hi]
  cases i with
  | zero =>
    rw [show nI 0 - 1 = (-1 : Int32) from by decide, c_bring_no]
    simp only [bIf, if_true, ite_self]
    simp
  | succ i =>
    rw [nI_pred, c_bring he hi (by omega), show i + 1 - 1 = i from rfl]
    unfold sameD
    rw [if_neg (show ¬ i + 1 = 0 by omega), show i + 1 - 1 = i from rfl]
    have h1 : decide (i + 1 < n) = true := by simp; omega
    have h2 : decide (0 < i + 1) = true := by simp
    rw [h1, h2]
    cases decide (ev.2.1 (i + 1) = ev.2.1 i) <;> cases sameE ev (i + 1) i <;> rfl
theorem m_alk {m : S_Model} {n i : Nat} (h3 : n ≤ 300) (hi : i < n) : f_Model_isAlike m (nI i) = some (alk m.2.1 n i) := by
  unfold f_Model_isAlike alk
  cases i with
  | zero => rw [if_pos (by decide)]; simp
  | succ i =>
    rw [if_neg (nI_nle (by omega) (by omega)), nI_pred, if_neg (ini300 (by omega)), if_neg (ini300 (by omega)), cl_n (by omega), cl_n (by omega), m_bring (by omega) (by omega), show i + 1 - 1 = i from rfl]
    simp only [lg_eq0, Option.bind_some]
    have h1 : decide (i + 1 < n) = true := by simp; omega
    have h2 : decide (0 < i + 1) = true := by simp
    rw [h1, h2]
    by_cases c : m.2.1.2.1 (i + 1) = m.2.1.2.1 i
    · rw [if_pos c]; simp only [c, decide_true, Bool.true_and]; cases sameE m.2.1 (i + 1) i <;> rfl
    · rw [if_neg c]; simp only [c, decide_false, Bool.false_and, Bool.and_false]
