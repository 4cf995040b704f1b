/-! bytes coming in -/
def MR (m0 : S_Model) (new : S_Events) (at' f : Int32) : S_Model := (m0.1, m0.2.1, new, m0.2.2.2.1, m0.2.2.2.2.1, m0.2.2.2.2.2.1, at', f)
def FT (w q : Nat) : Prop := 1 ≤ w ∧ w ≤ 7 ∧ q ≤ 5000
theorem nI_mul8 (q : Nat) : (8 : Int32) * nI q = nI (8 * q) := (Int32.ofNat_mul 8 q).symm
theorem meet_eq (m0 : S_Model) (new : S_Events) (at' : Int32) (w : Int32) (wn q : Nat) (hw : w = nI wn) : f_Model_meet (MR m0 new at' 0) w (nI q) = MR m0 new at' (nI (wn + 8 * q)) := by
  subst hw
  unfold f_Model_meet
  rw [if_pos (show (MR m0 new at' 0).2.2.2.2.2.2.2 = 0 from rfl), nI_mul8, nI_add]
  rfl
theorem ft_ne {w q : Nat} (h : FT w q) : ¬ nI (w + 8 * q) = 0 := nI_ne0 (by have := h.1; omega) (by have := h.2; omega)
theorem ft_nle {w q : Nat} (h : FT w q) : ¬ nI (w + 8 * q) ≤ 0 := nI_nle (by have := h.1; omega) (by have := h.2; omega)
theorem meet_x (m0 : S_Model) (new : S_Events) (at' a b : Int32) {w q : Nat} (h : FT w q) : f_Model_meet (MR m0 new at' (nI (w + 8 * q))) a b = MR m0 new at' (nI (w + 8 * q)) := by
  unfold f_Model_meet
  rw [if_neg (show ¬ (MR m0 new at' (nI (w + 8 * q))).2.2.2.2.2.2.2 = 0 from ft_ne h)]
theorem next_x (m0 : S_Model) (new : S_Events) (at' : Int32) {w q : Nat} (h : FT w q) : f_Model_next (MR m0 new at' (nI (w + 8 * q))) = some (0, MR m0 new (at' + 1) (nI (w + 8 * q))) := by
  have b20 : f_Model_next_b20 (MR m0 new at' (nI (w + 8 * q))) = some (0, MR m0 new (at' + 1) (nI (w + 8 * q))) := by
    unfold f_Model_next_b20
    rw [if_neg (show ¬ (MR m0 new at' (nI (w + 8 * q))).2.2.2.2.2.2.2 ≤ 0 from ft_nle h)]
    rfl
  unfold f_Model_next
  simp only [lt1, meet_x m0 new at' _ _ h, b20, ite_self]
/-- the log on both sides -/
def LG (m0 : S_Model) (log : S_Bytes) (l : Nat) : Prop := LOK log l ∧ m0.2.2.2.1.2 = nI l ∧ ∀ i, i < l → log.1 i = m0.2.2.2.1.1 i
theorem rd_in {m0 log l} (L : LG m0 log l) {q : Nat} (hq : q < l) (past : S_Past) (fp : Int32) (new : S_Events) : ∃ b : Nat, b < 256 ∧ f_Reader_readByte (log, past, nI q, 0, fp) = (nI b, (log, past, nI (q + 1), 0, fp)) ∧ f_Model_next (MR m0 new (nI q) 0) = some (nI b, MR m0 new (nI (q + 1)) 0) := by
  obtain ⟨⟨h5, hl, hv⟩, hm, he⟩ := L
  obtain ⟨b, hb, e⟩ := hv q hq
  refine ⟨b, hb, ?_, ?_⟩
  · unfold f_Reader_readByte f_Bytes_length
    dsimp only
    rw [hl, if_pos (nI_lt hq (by omega)), nI_1]
    rw [show f_Bytes_get log (nI q) = nI b from by
      unfold f_Bytes_get
      rw [if_neg (nI_pos (by omega)), hl, if_neg (nI_ge hq (by omega)), if_neg (show ¬ (5000 : Int32) ≤ nI q from nI_ge (b := 5000) (by omega) (by decide)), cl_n (by omega), e]]
  · unfold f_Model_next
    rw [if_pos (show (MR m0 new (nI q) 0).2.2.2.2.2.2.1 < (MR m0 new (nI q) 0).2.2.2.1.2 from by
      show nI q < m0.2.2.2.1.2
      rw [hm]; exact nI_lt hq (by omega))]
    unfold f_Model_next_b20
    have s1 : nI q + 1 - 1 = nI q := by rw [nI_1, nI_pred]
    rw [if_pos (show (MR m0 new (nI q) 0).2.2.2.2.2.2.2 ≤ 0 from by show (0 : Int32) ≤ 0; decide)]
    show (if nI q + 1 - 1 < 0 ∨ 5000 ≤ (nI q + 1 - 1).toNatClampNeg then none else some (m0.2.2.2.1.1 (nI q + 1 - 1).toNatClampNeg, MR m0 new (nI q + 1) 0)) = _
    rw [s1, if_neg (ini5000 (by omega)), cl_n (by omega), ← he q hq, e, nI_1]
theorem rd_end {m0 log l} (L : LG m0 log l) (past : S_Past) (fp : Int32) (new : S_Events) : f_Reader_readByte (log, past, nI l, 0, fp) = (0, (log, past, nI l, 2, nI l)) ∧ f_Model_next (MR m0 new (nI l) 0) = some (0, MR m0 new (nI l + 1) (nI (2 + 8 * l))) := by
  obtain ⟨⟨h5, hl, hv⟩, hm, he⟩ := L
  have ft : FT 2 l := ⟨by omega, by omega, h5⟩
  constructor
  · unfold f_Reader_readByte f_Bytes_length f_Reader_fail
    dsimp only
    rw [hl, if_neg (nI_nlt (Nat.le_refl _) (by omega))]
    rfl
  · unfold f_Model_next
    rw [if_neg (show ¬ (MR m0 new (nI l) 0).2.2.2.2.2.2.1 < (MR m0 new (nI l) 0).2.2.2.1.2 from by
      show ¬ nI l < m0.2.2.2.1.2
      rw [hm]; exact nI_nlt (Nat.le_refl _) (by omega))]
    rw [show (MR m0 new (nI l) 0).2.2.2.1.2 = nI l from hm, meet_eq m0 new (nI l) 2 2 l rfl]
    simp only [lt1]
    unfold f_Model_next_b20
    rw [if_neg (show ¬ (MR m0 new (nI l) (nI (2 + 8 * l))).2.2.2.2.2.2.2 ≤ 0 from ft_nle ft)]
    rfl
theorem fine0 (log : S_Bytes) (past : S_Past) (pl fp : Int32) : bI (f_Reader_isFine (log, past, pl, 0, fp)) = 1 := by
  unfold f_Reader_isFine; rw [if_pos rfl]; rfl
theorem fineX (log : S_Bytes) (past : S_Past) (pl fp : Int32) {w : Nat} (h1 : 1 ≤ w) (h7 : w ≤ 7) : bI (f_Reader_isFine (log, past, pl, nI w, fp)) = 0 := by
  unfold f_Reader_isFine
  rw [if_neg (show ¬ (log, past, pl, nI w, fp).2.2.2.1 = (0 : Int32) from nI_ne0 h1 (by omega))]; rfl
theorem one0 : ((1 : Int32) = 0) = False := by decide
theorem and127 {b : Nat} : nI b &&& 127 = nI (b % 128) := by
  apply Int32.toBitVec_inj.mp
  apply BitVec.eq_of_toNat_eq
  rw [Int32.toBitVec_and, BitVec.toNat_and, nI_bv, nI_bv, BitVec.toNat_ofNat, BitVec.toNat_ofNat, show (127 : Int32).toBitVec.toNat = 2 ^ 7 - 1 from by decide, Nat.and_two_pow_sub_one_eq_mod]
  omega
theorem shl_or {w x s t : Nat} {D : Int64} (hD : (D.toBitVec.smod 64).toNat = s) (hs : s ≤ 42) (hw : w < 2 ^ t) (hx : x < 128) (ht : s + 7 ≤ t) (ht2 : t ≤ 62) : ∃ w' : Nat, w' < 2 ^ t ∧ lN w ||| (lN x <<< D) = lN w' := by
  have p62 : 2 ^ t ≤ 2 ^ 62 := Nat.pow_le_pow_right (by decide) ht2
  have hxs : x * 2 ^ s < 2 ^ t := by
    have h1 : x * 2 ^ s < 128 * 2 ^ s := Nat.mul_lt_mul_of_pos_right hx (Nat.pow_pos (by decide))
    have h2 : 128 * 2 ^ s = 2 ^ (s + 7) := by rw [Nat.pow_add, Nat.mul_comm]
    have h3 : 2 ^ (s + 7) ≤ 2 ^ t := Nat.pow_le_pow_right (by decide) ht
    omega
  refine ⟨w ||| x * 2 ^ s, Nat.or_lt_two_pow hw hxs, ?_⟩
  have hor := Nat.or_lt_two_pow hw hxs
  apply Int64.toBitVec_inj.mp
  apply BitVec.eq_of_toNat_eq
  rw [Int64.toBitVec_or, Int64.toBitVec_shiftLeft, BitVec.toNat_or]
  rw [show (lN x).toBitVec <<< (D.toBitVec.smod 64) = (lN x).toBitVec <<< (D.toBitVec.smod 64).toNat from rfl, hD, BitVec.toNat_shiftLeft]
  rw [lN_bv', lN_bv', lN_bv', BitVec.toNat_ofNat, BitVec.toNat_ofNat, BitVec.toNat_ofNat, Nat.shiftLeft_eq, Nat.mod_eq_of_lt (show w < 2 ^ 64 by omega), Nat.mod_eq_of_lt (show x < 2 ^ 64 by omega), Nat.mod_eq_of_lt (show x * 2 ^ s < 2 ^ 64 by omega), Nat.mod_eq_of_lt (show (w ||| x * 2 ^ s) < 2 ^ 64 by omega)]
theorem vi_step {w b j : Nat} (hj : j < 7) (hw : w < 2 ^ (7 * j)) : ∃ w' : Nat, w' < 2 ^ (7 * (j + 1)) ∧ lN w ||| (((nI b &&& 127).toInt64) <<< (((7 : Int32) * nI j).toInt64 &&& 63)) = lN w' := by
  have hb : b % 128 < 128 := Nat.mod_lt _ (by decide)
  rw [and127, nI_l (by omega)]
  have hw' : w < 2 ^ (7 * (j + 1)) := Nat.lt_of_lt_of_le hw (Nat.pow_le_pow_right (by decide) (by omega))
  have : j = 0 ∨ j = 1 ∨ j = 2 ∨ j = 3 ∨ j = 4 ∨ j = 5 ∨ j = 6 := by omega
  rcases this with rfl | rfl | rfl | rfl | rfl | rfl | rfl
  · exact shl_or (s := 0) (by decide) (by omega) hw' hb (by omega) (by omega)
  · exact shl_or (s := 7) (by decide) (by omega) hw' hb (by omega) (by omega)
  · exact shl_or (s := 14) (by decide) (by omega) hw' hb (by omega) (by omega)
  · exact shl_or (s := 21) (by decide) (by omega) hw' hb (by omega) (by omega)
  · exact shl_or (s := 28) (by decide) (by omega) hw' hb (by omega) (by omega)
  · exact shl_or (s := 35) (by decide) (by omega) hw' hb (by omega) (by omega)
  · exact shl_or (s := 42) (by decide) (by omega) hw' hb (by omega) (by omega)
/-- how a varint goes -/
def RV (m0 : S_Model) (log : S_Bytes) (l : Nat) (past : S_Past) (fp : Int32) (new : S_Events) (least : Int32) (first : Nat) (cl : Option (Int64 × S_Reader)) (ml : Option (Int64 × S_Model)) : Prop :=
  (∃ v q', v ≤ 1099511627776 ∧ q' ≤ l ∧ ml = some (lN v, MR m0 new (nI q') 0) ∧ cl = (if least.toInt64 ≤ lN v then some (lN v, (log, past, nI q', 0, fp)) else some (lN v, (log, past, nI q', 5, nI first)))) ∨ (∃ w fq x pl y at', FT w fq ∧ cl = some (x, (log, past, pl, nI w, nI fq)) ∧ ml = some (y, MR m0 new at' (nI (w + 8 * fq))))
theorem b73_x (m0 : S_Model) (new : S_Events) (at' : Int32) {w q : Nat} (h : FT w q) (v : Int64) (j c : Int32) : f_Model_readVarint_b73 (MR m0 new at' (nI (w + 8 * q))) v j c = some (v, MR m0 new at' (nI (w + 8 * q))) := by
  simp only [f_Model_readVarint_b73, f_Model_readVarint_b83, f_Model_readVarint_b91, meet_x m0 new at' _ _ h, lt1, ite_self]
theorem b9_x (m0 : S_Model) (new : S_Events) (at' : Int32) {w q : Nat} (h : FT w q) (v : Int64) (j c : Int32) (f : Nat) : f_Model_readVarint_b9 (f + 1) (MR m0 new at' (nI (w + 8 * q))) v j c = some (v, MR m0 new at' (nI (w + 8 * q))) := by
  rw [f_Model_readVarint_b9]
  have e : ((MR m0 new at' (nI (w + 8 * q))).2.2.2.2.2.2.2 = 0) = False := eq_false (ft_ne h)
  simp only [e, if_false, b73_x m0 new at' h, ite_self]
theorem rv_loop {m0 log l} (L : LG m0 log l) (past : S_Past) (fp : Int32) (new : S_Events) (least : Int32) (first : Nat) : ∀ t j q w c f1 f2, j + t = 7 → 1 ≤ t → w < 2 ^ (7 * j) → q ≤ l → ¬ c ≤ (127 : Int32) → t < f1 → t < f2 → RV m0 log l past fp new least first (f_Reader_readVarint_b10 f1 (log, past, nI q, 0, fp) least (nI first) (lN w) (nI j)) (f_Model_readVarint_b9 f2 (MR m0 new (nI q) 0) (lN w) (nI j) c) := by
  have h5 := L.1.1
  intro t
  induction t with
  | zero => intro j q w c f1 f2 _ h; omega
  | succ t ih =>
    intro j q w c f1 f2 hj _ hw hq hc hf1 hf2
    obtain ⟨g1, rfl⟩ : ∃ g, f1 = g + 1 := ⟨f1 - 1, by omega⟩
    obtain ⟨g2, rfl⟩ : ∃ g, f2 = g + 1 := ⟨f2 - 1, by omega⟩
    obtain ⟨k2, rfl⟩ : ∃ g, g2 = g + 1 := ⟨g2 - 1, by omega⟩
    rw [f_Reader_readVarint_b10, f_Model_readVarint_b9, if_neg (show ¬ (7 : Int32) ≤ nI j from nI_ge (b := 7) (by omega) (by decide)), if_neg hc, if_pos (show (MR m0 new (nI q) 0).2.2.2.2.2.2.2 = 0 from rfl)]
    by_cases hql : q = l
    · subst hql
      obtain ⟨e1, e2⟩ := rd_end L past fp new
      have ft : FT 2 q := ⟨by omega, by omega, h5⟩
      rw [e1, e2]
      simp only [lt1, Option.bind_some]
      rw [if_pos (show bI (f_Reader_isFine (log, past, nI q, 2, nI q)) = 0 from fineX log past (nI q) (nI q) (w := 2) (by omega) (by omega))]
      simp only [b9_x m0 new _ ft, meet_x m0 new _ _ _ ft, ite_self]
      exact Or.inr ⟨2, q, 0, nI q, _, _, ft, rfl, rfl⟩
    · obtain ⟨b, hb, e1, e2⟩ := rd_in L (show q < l by omega) past fp new
      obtain ⟨w', hw', ew⟩ := vi_step (b := b) (show j < 7 by omega) hw
      have p49 : 2 ^ (7 * (j + 1)) ≤ 2 ^ 49 := Nat.pow_le_pow_right (by decide) (by omega)
      rw [e1, e2]
      simp only [lt1, Option.bind_some, fine0, one0, if_false, ew, nI_1]
      by_cases h128 : 128 ≤ b
      · have hc' : ¬ nI b ≤ (127 : Int32) := nI_ge (a := 127) (by omega) (by omega)
        rw [if_pos (show (128 : Int32) ≤ nI b from nI_le (a := 128) h128 (by omega))]
        by_cases j6 : j = 6
        · subst j6
          obtain ⟨k1, rfl⟩ : ∃ g, g1 = g + 1 := ⟨g1 - 1, by omega⟩
          have ft : FT 3 q := ⟨by omega, by omega, by omega⟩
          rw [if_pos (show nI (6 + 1) = (7 : Int32) from rfl), if_neg hc']
          rw [show (MR m0 new (nI (q + 1)) 0).2.2.2.2.2.2.1 - 1 = nI q from nI_pred q, meet_eq m0 new _ 3 3 q rfl, b9_x m0 new _ ft]
          rw [f_Reader_readVarint_b10, if_pos (by decide)]
          refine Or.inr ⟨3, q, 0, nI (q + 1), _, _, ft, ?_, rfl⟩
          unfold f_Reader_fail
          dsimp only
          rw [nI_pred]; rfl
        · rw [if_neg (show ¬ nI (j + 1) = (7 : Int32) from by intro h; have := (nI_eq (a := j + 1) (b := 7) (by omega) (by decide)).mp h; omega)]
          exact ih (j + 1) (q + 1) w' (nI b) g1 (k2 + 1) (by omega) (by omega) hw' (by omega) hc' (by omega) (by omega)
      · have hc' : nI b ≤ (127 : Int32) := nI_le (b := 127) (by omega) (by decide)
        rw [if_neg (show ¬ (128 : Int32) ≤ nI b from nI_ge (b := 128) (by omega) (by decide))]
        simp only [eq_true hc', if_true, ite_self]
        rw [f_Model_readVarint_b9, if_pos hc']
        have ft : FT 3 q := ⟨by omega, by omega, by omega⟩
        have hle : (lN w' ≤ 1099511627776) ↔ w' ≤ 1099511627776 := by
          rw [Int64.le_iff_toInt_le, lN_toInt' (by omega), show (1099511627776 : Int64).toInt = 1099511627776 from by decide]
          omega
        have bad : f_Model_readVarint_b91 (MR m0 new (nI (q + 1)) 0) (lN w') = some (lN w', MR m0 new (nI (q + 1)) (nI (3 + 8 * q))) := by
          unfold f_Model_readVarint_b91
          rw [show (MR m0 new (nI (q + 1)) 0).2.2.2.2.2.2.1 - 1 = nI q from nI_pred q, meet_eq m0 new _ 3 3 q rfl]; rfl
        have badc : f_Reader_readVarint_b85 (log, past, nI (q + 1), 0, fp) (lN w') = some (lN w', (log, past, nI (q + 1), nI 3, nI q)) := by
          unfold f_Reader_readVarint_b85 f_Reader_fail
          dsimp only
          rw [nI_pred]; rfl
        have good : ∀ (z : Prop) [Decidable z], RV m0 log l past fp new least first (f_Reader_readVarint_b70 (log, past, nI (q + 1), 0, fp) least (nI first) (lN w') false) (f_Model_readVarint_b83 (MR m0 new (nI (q + 1)) 0) (lN w')) := by
          intro _ _
          unfold f_Reader_readVarint_b70 f_Model_readVarint_b83
          simp only [bIf, if_true, lg_le0, lg_ge0, hle]
          by_cases hv : w' ≤ 1099511627776
          · rw [if_pos hv, if_pos hv]
            exact Or.inl ⟨w', q + 1, hv, by omega, rfl, rfl⟩
          · rw [if_neg hv, if_neg hv, bad, badc]
            exact Or.inr ⟨3, q, _, _, _, _, ft, rfl, rfl⟩
        unfold f_Model_readVarint_b73 f_Reader_readVarint_b69
        by_cases b0 : b = 0
        · subst b0
          rw [if_pos (show nI 0 = (0 : Int32) from rfl)]
          by_cases j0 : j = 0
          · subst j0
            rw [if_pos (by decide), if_pos (by decide)]
            exact good True
          · rw [if_neg (show ¬ nI (j + 1) ≤ (1 : Int32) from nI_ge (a := 1) (by omega) (by omega)), if_neg (nI_nle (by omega) (by omega)), bad]
            unfold f_Reader_readVarint_b70
            simp only [bIt, if_false]
            rw [badc]
            exact Or.inr ⟨3, q, _, _, _, _, ft, rfl, rfl⟩
        · simp only [eq_false (nI_ne0 (show 0 < b by omega) (show b < 2 ^ 31 by omega)), if_false, ite_self]
          exact good True
theorem rv0 {m0 log l} (L : LG m0 log l) (past : S_Past) (fp : Int32) (new : S_Events) (least : Int32) {q : Nat} (hq : q ≤ l) : RV m0 log l past fp new least q (f_Reader_readVarint (log, past, nI q, 0, fp) least) (f_Model_readVarint (MR m0 new (nI q) 0)) := by
  have := rv_loop L past fp new least q 7 0 q 0 128 400 400 (by omega) (by omega) (by decide) hq (by decide) (by omega) (by omega)
  exact this
