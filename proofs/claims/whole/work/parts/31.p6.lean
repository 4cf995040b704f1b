def tyL (kd : Nat → Int32) : Nat → List Nat
  | 0 => []
  | i + 1 => if kd i = 1 then i :: tyL kd i else tyL kd i
def ckN (kd : Nat → Int32) : Nat → Option Nat
  | 0 => none
  | i + 1 => if kd i = 3 then some i else ckN kd i
def oI : Option Nat → Int32
  | none => -1
  | some j => nI j
theorem tyL_len (kd : Nat → Int32) : ∀ i, (tyL kd i).length ≤ i := by
  intro i
  induction i with
  | zero => simp [tyL]
  | succ i ih =>
    rw [tyL]
    split
    · rw [List.length_cons]; omega
    · omega
theorem tyL_mem (kd : Nat → Int32) : ∀ i j, j ∈ tyL kd i → j < i ∧ kd j = 1 := by
  intro i
  induction i with
  | zero => intro j h; simp [tyL] at h
  | succ i ih =>
    intro j h
    rw [tyL] at h
    split at h
    · rename_i hk
      rcases List.mem_cons.mp h with rfl | h
      · exact ⟨by omega, hk⟩
      · have := ih j h; exact ⟨by omega, this.2⟩
    · have := ih j h; exact ⟨by omega, this.2⟩
theorem ckN_mem (kd : Nat → Int32) : ∀ i j, ckN kd i = some j → j < i ∧ kd j = 3 := by
  intro i
  induction i with
  | zero => intro j h; simp [ckN] at h
  | succ i ih =>
    intro j h
    rw [ckN] at h
    split at h
    · rename_i hk
      have := Option.some.inj h
      subst this
      exact ⟨by omega, hk⟩
    · have := ih j h; exact ⟨by omega, this.2⟩
theorem tyL_congr {kd ke : Nat → Int32} : ∀ i, (∀ j, j < i → kd j = ke j) → tyL kd i = tyL ke i := by
  intro i
  induction i with
  | zero => intro _; rfl
  | succ i ih => intro h; rw [tyL, tyL, h i (by omega), ih (fun j hj => h j (by omega))]
theorem ckN_congr {kd ke : Nat → Int32} : ∀ i, (∀ j, j < i → kd j = ke j) → ckN kd i = ckN ke i := by
  intro i
  induction i with
  | zero => intro _; rfl
  | succ i ih => intro h; rw [ckN, ckN, h i (by omega), ih (fun j hj => h j (by omega))]
def PastOK (past : S_Past) (kd : Nat → Int32) (i : Nat) : Prop := past.2.1 = nI (tyL kd i).length ∧ past.2.2 = oI (ckN kd i) ∧ ∀ k j, (tyL kd i)[k]? = some j → past.1 ((tyL kd i).length - 1 - k) = nI j
theorem past_congr {past : S_Past} {kd ke : Nat → Int32} {i : Nat} (h : PastOK past kd i) (e : ∀ j, j < i → kd j = ke j) : PastOK past ke i := by
  unfold PastOK at h ⊢
  rw [tyL_congr i e, ckN_congr i e] at h
  exact h
theorem past_forget (past : S_Past) (kd : Nat → Int32) : PastOK (f_Past_forget past) kd 0 := by
  refine ⟨rfl, rfl, ?_⟩
  intro k j h
  simp [tyL] at h
theorem past_note {past : S_Past} {kd : Nat → Int32} {i : Nat} (h : PastOK past kd i) (hi : i < 300) : PastOK (f_Past_note past (kd i) (nI i)) kd (i + 1) := by
  obtain ⟨h1, h2, h3⟩ := h
  have hl := tyL_len kd i
  by_cases k3 : kd i = 3
  · have e1 : ((3 : Int32) = 1) = False := by decide
    rw [k3]
    simp only [f_Past_note, f_Past_note_b10, if_true, e1, if_false]
    unfold PastOK
    rw [tyL, ckN, k3]
    simp only [e1, if_false, if_true]
    exact ⟨h1, rfl, h3⟩
  · by_cases k1 : kd i = 1
    · have e1 : ((1 : Int32) = 3) = False := by decide
      rw [k1]
      simp only [f_Past_note, f_Past_note_b10, if_true, e1, if_false, h1]
      rw [if_neg (nI_pos (by omega)), if_neg (show ¬ (300 : Int32) ≤ nI (tyL kd i).length from nI_ge (b := 300) (by omega) (by decide)), nI_clamp (by omega), nI_1]
      unfold PastOK
      rw [tyL, ckN, k1]
      simp only [e1, if_false, if_true, List.length_cons]
      refine ⟨trivial, h2, ?_⟩
      intro k j hk
      dsimp only [upd]
      cases k with
      | zero =>
        rw [List.getElem?_cons_zero] at hk
        rw [if_pos (by omega), Option.some.inj hk]
      | succ k =>
        rw [List.getElem?_cons_succ] at hk
        obtain ⟨hlt, -⟩ := List.getElem?_eq_some_iff.mp hk
        rw [if_neg (by omega), ← h3 k j hk]
        rw [show (tyL kd i).length + 1 - 1 - (k + 1) = (tyL kd i).length - 1 - k from by omega]
    · simp only [f_Past_note, f_Past_note_b10, k1, k3, if_false]
      unfold PastOK
      rw [tyL, ckN]
      simp only [k1, k3, if_false]
      exact ⟨h1, h2, h3⟩
theorem nI_sub' {a b : Nat} (h : b ≤ a) : nI a - nI b = nI (a - b) := by
  have := nI_add (a - b) b
  rw [Nat.sub_add_cancel h] at this
  rw [← this, Int32.add_sub_cancel]
theorem past_typed {past : S_Past} {kd : Nat → Int32} {i k : Nat} (h : PastOK past kd i) (hi : i ≤ 300) (h1 : 1 ≤ k) (h2 : k ≤ 1099511627776) : f_Past_typedBefore past (lN k) = oI ((tyL kd i)[k - 1]?) := by
  obtain ⟨p1, p2, p3⟩ := h
  have hl := tyL_len kd i
  unfold f_Past_typedBefore
  simp only [lg_lt0, lg_gt0, lg_le0]
  rw [p1, nI_l (by omega)]
  rw [if_neg (by rw [Int64.lt_iff_toInt_lt, lN_toInt' (by omega), show (1 : Int64).toInt = 1 from by decide]; omega)]
  by_cases hk : (tyL kd i).length < k
  · rw [if_pos (by rw [Int64.lt_iff_toInt_lt, lN_toInt' (by omega), lN_toInt' (by omega)]; omega)]
    rw [List.getElem?_eq_none (by omega)]; rfl
  · rw [if_neg (by rw [Int64.lt_iff_toInt_lt, lN_toInt' (by omega), lN_toInt' (by omega)]; omega)]
    rw [if_pos (by rw [Int64.le_iff_toInt_le, lN_toInt' (by omega), show (300 : Int64).toInt = 300 from by decide]; omega)]
    rw [lN_i, nI_sub' (by omega), if_neg (show ¬ (300 : Int32) ≤ nI _ from nI_ge (b := 300) (by omega) (by decide)), nI_clamp (by omega)]
    obtain ⟨j, hj⟩ : ∃ j, (tyL kd i)[k - 1]? = some j := ⟨_, List.getElem?_eq_getElem (by omega)⟩
    rw [hj, show (tyL kd i).length - k = (tyL kd i).length - 1 - (k - 1) from by omega]
    exact p3 _ _ hj
/-! like events -/
def sameE (ev : S_Events) (i j : Nat) : Bool := decide (ev.1 i = ev.1 j ∧ ev.2.2.1 i = ev.2.2.1 j ∧ ev.2.2.2.1 i = ev.2.2.2.1 j)
theorem sameE_congr {e f : S_Events} {n i j : Nat} (h : EEq e f n) (hi : i < n) (hj : j < n) : sameE e i j = sameE f i j := by
  unfold sameE
  rw [(h i hi).1, (h j hj).1, (h i hi).2.2.1, (h j hj).2.2.1, (h i hi).2.2.2, (h j hj).2.2.2]
theorem c_bring {ev : S_Events} {n i j : Nat} (he : EOK ev n) (hi : i < n) (hj : j < n) : f_Events_bringTheSame ev (nI i) (nI j) = sameE ev i j := by
  have := he.1
  unfold f_Events_bringTheSame sameE
  rw [has_in_n he hi, has_in_n he hj, if_neg (by decide), if_neg (by decide), cl_n (by omega), cl_n (by omega)]
  simp only [lg_eq0]
  by_cases c1 : ev.1 i = ev.1 j <;> by_cases c2 : ev.2.2.1 i = ev.2.2.1 j <;> by_cases c3 : ev.2.2.2.1 i = ev.2.2.2.1 j <;> simp [c1, c2, c3]
theorem c_bring_no {ev : S_Events} {x : Int32} : f_Events_bringTheSame ev x (-1) = false := by
  unfold f_Events_bringTheSame
  rw [has_m1]
  simp only [bIf, if_true, ite_self]
theorem m_bring {m : S_Model} {i j : Nat} (hi : i < 300) (hj : j < 300) : f_Model_bringsSame m (nI i) (nI j) = some (sameE m.2.1 i j) := by
  unfold f_Model_bringsSame sameE
  have z1 : (nI i < 0) = False := eq_false (nI_pos (by omega))
  have z2 : (nI i).toNatClampNeg = i := cl_n (by omega)
  have z3 : (300 ≤ i) = False := eq_false (by omega)
  have y1 : (nI j < 0) = False := eq_false (nI_pos (by omega))
  have y2 : (nI j).toNatClampNeg = j := cl_n (by omega)
  have y3 : (300 ≤ j) = False := eq_false (by omega)
  simp only [z1, z2, z3, y1, y2, y3, or_self, if_false, lg_eq0]
  by_cases c1 : m.2.1.1 i = m.2.1.1 j <;> by_cases c2 : m.2.1.2.2.1 i = m.2.1.2.2.1 j <;> by_cases c3 : m.2.1.2.2.2.1 i = m.2.1.2.2.2.1 j <;> simp [c1, c2, c3]
def scan (P : Nat → Bool) : Nat → List Nat → Nat
  | _, [] => 0
  | k, j :: l => if 20 ≤ k then 0 else if P j = true then k + 1 else scan P (k + 1) l
theorem scan_20 (P : Nat → Bool) (k : Nat) (l : List Nat) (h : 20 ≤ k) : scan P k l = 0 := by
  cases l with
  | nil => rfl
  | cons a l => rw [scan, if_pos h]
theorem scan_le (P : Nat → Bool) : ∀ l k, scan P k l ≤ 20 := by
  intro l
  induction l with
  | nil => intro k; simp [scan]
  | cons a l ih =>
    intro k
    rw [scan]
    split
    · omega
    · split
      · omega
      · exact ih _
theorem scan_congr {P Q : Nat → Bool} : ∀ l k, (∀ j, j ∈ l → P j = Q j) → scan P k l = scan Q k l := by
  intro l
  induction l with
  | nil => intro k _; rfl
  | cons a l ih =>
    intro k h
    rw [scan, scan, h a (List.mem_cons_self ..), ih (k + 1) (fun j hj => h j (List.mem_cons_of_mem _ hj))]
theorem c_rep {ev : S_Events} {n i : Nat} {st : S_Packer} (he : EOK ev n) (hi : i < n) (hp : PastOK st.2.1 ev.1 i) : ∀ t k fuel, k + t = 20 → t < fuel → f_Packer_repeated_b22 fuel st ev (nI i) (nI (k + 1)) = some (nI (scan (sameE ev i) k ((tyL ev.1 i).drop k))) := by
  have h3 := he.1
  intro t
  induction t with
  | zero =>
    intro k fuel hk hf
    obtain ⟨f, rfl⟩ : ∃ f, fuel = f + 1 := ⟨fuel - 1, by omega⟩
    have : k = 20 := by omega
    subst this
    rw [f_Packer_repeated_b22, if_pos (by decide), scan_20 _ _ _ (by omega)]
    rfl
  | succ t ih =>
    intro k fuel hk hf
    obtain ⟨f, rfl⟩ : ∃ f, fuel = f + 1 := ⟨fuel - 1, by omega⟩
    rw [f_Packer_repeated_b22, if_neg (show ¬ (20 : Int32) < nI (k + 1) from nI_nlt (b := k + 1) (a := 20) (by omega) (by decide)), nI_l (by omega), past_typed hp (by omega) (by omega) (by omega), nI_1]
    rw [show k + 1 - 1 = k from rfl]
    cases hg : (tyL ev.1 i)[k]? with
    | none =>
      have hlen : (tyL ev.1 i).length ≤ k := List.getElem?_eq_none_iff.mp hg
      rw [show oI none = (-1 : Int32) from rfl, c_bring_no, if_pos (by decide), ih (k + 1) f (by omega) (by omega)]
      rw [List.drop_eq_nil_of_le hlen, List.drop_eq_nil_of_le (by omega)]
      rfl
    | some j =>
      obtain ⟨hlt, e⟩ := List.getElem?_eq_some_iff.mp hg
      have hj := tyL_mem ev.1 i j (by rw [← e]; exact List.getElem_mem hlt)
      rw [show oI (some j) = nI j from rfl, c_bring he hi (by omega), List.drop_eq_getElem_cons hlt, e, scan, if_neg (show ¬ 20 ≤ k by omega)]
      cases hs : sameE ev i j
      · rw [if_pos (show bI false = 0 from rfl), if_neg (show ¬ false = true by decide)]
        exact ih (k + 1) f (by omega) (by omega)
      · rw [if_neg (show ¬ bI true = 0 by decide), if_pos (show true = true from rfl)]
theorem m_copy {m : S_Model} {i : Nat} (hi : i < 300) (hb : ¬ m.2.1.2.2.2.1 i ≤ 1) : ∀ f k fuel, f ≤ i → k ≤ 20 → f < fuel → f_Model_copyOf_b6 fuel m (nI i) (nI k) (nI f - 1) = some (nI (scan (sameE m.2.1 i) k (tyL m.2.1.1 f))) := by
  intro f
  induction f with
  | zero =>
    intro k fuel _ _ hf
    obtain ⟨g, rfl⟩ : ∃ g, fuel = g + 1 := ⟨fuel - 1, by omega⟩
    rw [f_Model_copyOf_b6, if_pos (by decide)]
    rfl
  | succ f ih =>
    intro k fuel hfi hk hf
    obtain ⟨g, rfl⟩ : ∃ g, fuel = g + 1 := ⟨fuel - 1, by omega⟩
    rw [f_Model_copyOf_b6, nI_pred, if_neg (nI_pos (by omega))]
    by_cases h20 : 20 ≤ k
    · have : k = 20 := by omega
      subst this
      rw [if_pos (by decide), scan_20 _ _ _ (by omega)]; rfl
    · rw [if_neg (show ¬ (20 : Int32) ≤ nI k from nI_ge (b := 20) (by omega) (by decide)), if_neg (ini300 hi), cl_n (by omega), if_neg hb, if_neg (ini300 (by omega)), cl_n (by omega)]
      rw [show nI f + (-1) = nI f - 1 from (Int32.sub_eq_add_neg _ _).symm, m_bring hi (by omega), nI_1, tyL]
      by_cases k1 : m.2.1.1 f = 1
      · rw [if_pos k1, if_pos k1, scan, if_neg h20]
        simp only [Option.bind_some]
        cases hs : sameE m.2.1 i f
        · rw [if_pos (show bI false = 0 from rfl), if_neg (show ¬ false = true by decide)]
          exact ih (k + 1) g (by omega) (by omega) (by omega)
        · rw [if_neg (show ¬ bI true = 0 by decide), if_pos (show true = true from rfl)]
      · rw [if_neg k1, if_neg k1]
        exact ih k g (by omega) hk (by omega)
theorem m_copy0 {m : S_Model} {i : Nat} (hi : i < 300) (hb : m.2.1.2.2.2.1 i ≤ 1) : f_Model_copyOf m (nI i) = some 0 := by
  unfold f_Model_copyOf
  rw [f_Model_copyOf_b6]
  cases i with
  | zero => rw [if_pos (by decide)]
  | succ i => rw [nI_pred, if_neg (nI_pos (by omega)), if_neg (by decide), if_neg (ini300 hi), cl_n (by omega), if_pos hb]
def farE (ev : S_Events) (i : Nat) : Option Nat → Bool
  | none => false
  | some j => decide (ev.2.2.1 j = ev.2.2.1 i)
theorem m_far {m : S_Model} {i : Nat} (hi : i < 300) : ∀ f fuel, f ≤ i → f < fuel → f_Model_isAsFar_b4 fuel m (nI i) (nI f - 1) = some (farE m.2.1 i (ckN m.2.1.1 f)) := by
  intro f
  induction f with
  | zero =>
    intro fuel _ hf
    obtain ⟨g, rfl⟩ : ∃ g, fuel = g + 1 := ⟨fuel - 1, by omega⟩
    rw [f_Model_isAsFar_b4, if_pos (by decide), f_Model_isAsFar_b24, if_pos (by decide)]
    rfl
  | succ f ih =>
    intro fuel hfi hf
    obtain ⟨g, rfl⟩ : ∃ g, fuel = g + 1 := ⟨fuel - 1, by omega⟩
    rw [f_Model_isAsFar_b4, nI_pred, if_neg (nI_pos (by omega)), if_neg (ini300 (by omega)), cl_n (by omega), ckN]
    rw [show nI f + (-1) = nI f - 1 from (Int32.sub_eq_add_neg _ _).symm]
    by_cases k3 : m.2.1.1 f = 3
    · rw [if_pos k3, if_pos k3, f_Model_isAsFar_b24, if_neg (nI_pos (by omega)), if_neg (ini300 (by omega)), if_neg (ini300 hi), cl_n (by omega), cl_n (by omega)]
      simp only [lg_eq0, farE]
      by_cases c : m.2.1.2.2.1 f = m.2.1.2.2.1 i <;> simp [c]
    · rw [if_neg k3, if_neg k3]
      exact ih g (by omega) (by omega)
theorem c_far {ev : S_Events} {n i : Nat} {past : S_Past} (he : EOK ev n) (hi : i < n) (hp : PastOK past ev.1 i) (k3 : ev.1 i = 3) : f_Events_bringTheSame ev (nI i) (f_Past_latestClock past) = farE ev i (ckN ev.1 i) := by
  unfold f_Past_latestClock
  rw [hp.2.1]
  cases hc : ckN ev.1 i with
  | none => exact c_bring_no
  | some j =>
    have hj := ckN_mem ev.1 i j hc
    rw [show oI (some j) = nI j from rfl, c_bring he hi (by omega)]
    have b0 : ∀ x, x < n → ev.1 x = 3 → ev.2.2.2.1 x = 0 := by
      intro x hx e
      obtain ⟨-, h⟩ := he.2.2 x hx
      rcases h with ⟨h, -⟩ | ⟨h, -⟩ | ⟨h, -⟩ | ⟨-, -, h⟩ | ⟨h, -⟩
      · rw [e] at h; exact absurd h (by decide)
      · rw [e] at h; exact absurd h (by decide)
      · rw [e] at h; exact absurd h (by decide)
      · exact h
      · rw [e] at h; exact absurd h (by decide)
    unfold sameE farE
    rw [k3, hj.2, b0 i hi k3, b0 j (by omega) hj.2]
    simp only [true_and, and_true]
    by_cases c : ev.2.2.1 i = ev.2.2.1 j
    · simp [c]
    · have c' : ¬ ev.2.2.1 j = ev.2.2.1 i := fun h => c h.symm
      simp [c, c']
theorem m_before1 {m : S_Model} : ∀ f k fuel, f ≤ 300 → 1 ≤ k → k < 2 ^ 62 → f < fuel → f_Model_before_b11 fuel m 1 (lN k) (nI f - 1) = some (oI ((tyL m.2.2.1.1 f)[k - 1]?)) := by
  intro f
  induction f with
  | zero =>
    intro k fuel _ _ _ hf
    obtain ⟨g, rfl⟩ : ∃ g, fuel = g + 1 := ⟨fuel - 1, by omega⟩
    rw [f_Model_before_b11, if_pos (by decide)]
    rfl
  | succ f ih =>
    intro k fuel hfi hk hk2 hf
    obtain ⟨g, rfl⟩ : ∃ g, fuel = g + 1 := ⟨fuel - 1, by omega⟩
    rw [f_Model_before_b11, nI_pred]
    have z1 : (nI f < 0) = False := eq_false (nI_pos (by omega))
    have z2 : (nI f).toNatClampNeg = f := cl_n (by omega)
    have z3 : (300 ≤ f) = False := eq_false (by omega)
    simp only [z1, z2, z3, or_self, if_false, lg_eq0, tyL]
    rw [show nI f + (-1) = nI f - 1 from (Int32.sub_eq_add_neg _ _).symm]
    by_cases k1 : m.2.2.1.1 f = 1
    · simp only [k1, if_true]
      rw [show lN k - 1 = lN (k - 1) from lN_sub hk]
      by_cases e : k = 1
      · subst e
        rw [if_pos (by decide)]; rfl
      · rw [if_neg (by intro h; have := congrArg Int64.toInt h; rw [lN_toInt' (by omega), show (0 : Int64).toInt = 0 from by decide] at this; omega)]
        rw [ih (k - 1) g (by omega) (by omega) (by omega) (by omega)]
        rw [show k - 1 = (k - 1 - 1) + 1 from by omega, List.getElem?_cons_succ]
        rfl
    · simp only [k1, if_false]
      exact ih k g (by omega) hk hk2 (by omega)
theorem m_before3 {m : S_Model} : ∀ f fuel, f ≤ 300 → f < fuel → f_Model_before_b11 fuel m 3 1 (nI f - 1) = some (oI (ckN m.2.2.1.1 f)) := by
  intro f
  induction f with
  | zero =>
    intro fuel _ hf
    obtain ⟨g, rfl⟩ : ∃ g, fuel = g + 1 := ⟨fuel - 1, by omega⟩
    rw [f_Model_before_b11, if_pos (by decide)]
    rfl
  | succ f ih =>
    intro fuel hfi hf
    obtain ⟨g, rfl⟩ : ∃ g, fuel = g + 1 := ⟨fuel - 1, by omega⟩
    rw [f_Model_before_b11, nI_pred]
    have z1 : (nI f < 0) = False := eq_false (nI_pos (by omega))
    have z2 : (nI f).toNatClampNeg = f := cl_n (by omega)
    have z3 : (300 ≤ f) = False := eq_false (by omega)
    simp only [z1, z2, z3, or_self, if_false, lg_eq0, ckN]
    rw [show nI f + (-1) = nI f - 1 from (Int32.sub_eq_add_neg _ _).symm]
    by_cases k1 : m.2.2.1.1 f = 3
    · simp only [k1, if_true]
      rw [if_pos (by decide)]; rfl
    · simp only [k1, if_false]
      exact ih g (by omega) (by omega)
theorem m_before_tot {m : S_Model} {kd : Int32} : ∀ f x fuel, f ≤ 300 → f < fuel → ∃ r, f_Model_before_b11 fuel m kd x (nI f - 1) = some r ∧ (r = -1 ∨ ∃ j, j < f ∧ r = nI j) := by
  intro f
  induction f with
  | zero =>
    intro x fuel _ hf
    obtain ⟨g, rfl⟩ : ∃ g, fuel = g + 1 := ⟨fuel - 1, by omega⟩
    rw [f_Model_before_b11, if_pos (by decide)]
    exact ⟨_, rfl, Or.inl rfl⟩
  | succ f ih =>
    intro x fuel hfi hf
    obtain ⟨g, rfl⟩ : ∃ g, fuel = g + 1 := ⟨fuel - 1, by omega⟩
    rw [f_Model_before_b11, nI_pred]
    have z1 : (nI f < 0) = False := eq_false (nI_pos (by omega))
    have z2 : (nI f).toNatClampNeg = f := cl_n (by omega)
    have z3 : (300 ≤ f) = False := eq_false (by omega)
    simp only [z1, z2, z3, or_self, if_false, lg_eq0]
    rw [show nI f + (-1) = nI f - 1 from (Int32.sub_eq_add_neg _ _).symm]
    have go : ∀ y, ∃ r, f_Model_before_b11 g m kd y (nI f - 1) = some r ∧ (r = -1 ∨ ∃ j, j < f + 1 ∧ r = nI j) := by
      intro y
      obtain ⟨r, h1, h2⟩ := ih y g (by omega) (by omega)
      refine ⟨r, h1, ?_⟩
      rcases h2 with h2 | ⟨j, hj, h2⟩
      · exact Or.inl h2
      · exact Or.inr ⟨j, by omega, h2⟩
    by_cases k1 : m.2.2.1.1 f = kd
    · simp only [k1, if_true]
      by_cases e : x - 1 = 0
      · rw [if_pos e]; exact ⟨_, rfl, Or.inr ⟨f, by omega, rfl⟩⟩
      · rw [if_neg e]; exact go _
    · simp only [k1, if_false]
      exact go _
