theorem nI_bv (n : Nat) : (nI n).toBitVec = BitVec.ofNat 32 n := rfl
theorem lN_bv' (n : Nat) : (lN n).toBitVec = BitVec.ofNat 64 n := rfl
theorem nI_self (x : Int32) : x = nI x.toBitVec.toNat := by
  apply Int32.toBitVec_inj.mp
  rw [nI_bv]
  simp
theorem lN_self (x : Int64) : x = lN x.toBitVec.toNat := by
  apply Int64.toBitVec_inj.mp
  rw [lN_bv']
  simp
theorem and255 (x : Int32) : ∃ b : Nat, b < 256 ∧ x &&& 255 = nI b := by
  refine ⟨(x &&& 255).toBitVec.toNat, ?_, nI_self _⟩
  rw [Int32.toBitVec_and, BitVec.toNat_and]
  exact Nat.lt_of_le_of_lt Nat.and_le_right (by decide)
theorem and255b {b : Nat} (h : b < 256) : nI b &&& 255 = nI b := by
  apply Int32.toBitVec_inj.mp
  apply BitVec.eq_of_toNat_eq
  rw [Int32.toBitVec_and, BitVec.toNat_and, nI_bv, BitVec.toNat_ofNat, show (255 : Int32).toBitVec.toNat = 2 ^ 8 - 1 from by decide, Nat.and_two_pow_sub_one_eq_mod]
  omega
theorem l127 (k : Nat) : lN k &&& 127 = lN (k % 128) := by
  apply Int64.toBitVec_inj.mp
  apply BitVec.eq_of_toNat_eq
  rw [Int64.toBitVec_and, BitVec.toNat_and, lN_bv', lN_bv', BitVec.toNat_ofNat, BitVec.toNat_ofNat, show (127 : Int64).toBitVec.toNat = 2 ^ 7 - 1 from by decide, Nat.and_two_pow_sub_one_eq_mod]
  omega
theorem or128 : ∀ b : Nat, b < 128 → (nI b ||| 128) &&& 255 = nI b ||| 128 := by decide +kernel
theorem shr7 {k : Nat} (h : k < 2 ^ 62) : lN k >>> ((7 : Int32).toInt64 &&& 63) = lN (k / 128) := by
  apply Int64.toBitVec_inj.mp
  rw [show (7 : Int32).toInt64 &&& 63 = 7 from by decide, Int64.toBitVec_shiftRight, show (7 : Int64).toBitVec.smod 64 = 7#64 from by decide]
  rw [show (lN k).toBitVec.sshiftRight' 7#64 = (lN k).toBitVec.sshiftRight 7 from rfl, BitVec.sshiftRight_eq_of_msb_false]
  · apply BitVec.eq_of_toNat_eq
    rw [BitVec.toNat_ushiftRight, lN_bv', lN_bv', BitVec.toNat_ofNat, BitVec.toNat_ofNat, Nat.shiftRight_eq_div_pow]
    omega
  · rw [BitVec.msb_eq_false_iff_two_mul_lt, lN_bv', BitVec.toNat_ofNat]
    omega
theorem ushr7 {k : Nat} (h : k < 2 ^ 62) : ((lN k).toUInt64 >>> ((7 : Int32).toInt64.toUInt64 &&& Int64.toUInt64 63)).toInt64 = lN (k / 128) := by
  apply Int64.toBitVec_inj.mp
  show ((lN k).toUInt64 >>> ((7 : Int32).toInt64.toUInt64 &&& Int64.toUInt64 63)).toBitVec = _
  rw [UInt64.toBitVec_shiftRight, show ((7 : Int32).toInt64.toUInt64 &&& Int64.toUInt64 63).toBitVec % 64 = 7#64 from by decide]
  apply BitVec.eq_of_toNat_eq
  show ((lN k).toBitVec >>> (7 : Nat)).toNat = _
  rw [BitVec.toNat_ushiftRight, lN_bv', lN_bv', BitVec.toNat_ofNat, BitVec.toNat_ofNat, Nat.shiftRight_eq_div_pow]
  omega
theorem sh_bytes (a : Int64) (S : UInt64) (D : Int64) (s : Nat) (hS : (S.toBitVec % 64).toNat = s) (hD : (D.toBitVec.smod 64).toNat = s) (hs : s ≤ 56) : (((a.toUInt64 >>> S).toInt64).toInt32) &&& 255 = ((a >>> D).toInt32) &&& 255 := by
  apply Int32.toBitVec_inj.mp
  apply BitVec.eq_of_getLsbD_eq
  intro i hi
  rw [Int32.toBitVec_and, Int32.toBitVec_and, BitVec.getLsbD_and, BitVec.getLsbD_and, Int64.toBitVec_toInt32, Int64.toBitVec_toInt32]
  by_cases h8 : i < 8
  · congr 1
    rw [show ((a.toUInt64 >>> S).toInt64).toBitVec = (a.toUInt64 >>> S).toBitVec from rfl, UInt64.toBitVec_shiftRight, Int64.toBitVec_shiftRight]
    rw [BitVec.getLsbD_signExtend, BitVec.getLsbD_signExtend, if_pos (by omega), if_pos (by omega)]
    rw [show a.toBitVec.sshiftRight' (D.toBitVec.smod 64) = a.toBitVec.sshiftRight (D.toBitVec.smod 64).toNat from rfl, hD, BitVec.getLsbD_sshiftRight]
    rw [show a.toUInt64.toBitVec >>> (S.toBitVec % 64) = a.toBitVec >>> (S.toBitVec % 64).toNat from rfl, hS, BitVec.getLsbD_ushiftRight, if_pos (by omega)]
    have : decide (64 ≤ i) = false := by simp; omega
    rw [this]; simp
  · have : (255 : Int32).toBitVec.getLsbD i = false := by
      show Nat.testBit 255 i = false
      apply Nat.testBit_lt_two_pow
      exact Nat.lt_of_lt_of_le (show 255 < 2 ^ 8 by decide) (Nat.pow_le_pow_right (by decide) (by omega))
    rw [this, Bool.and_false, Bool.and_false]
theorem shb (a : Int64) (j : Nat) (h : j < 8) : (((a.toUInt64 >>> (((8 : Int32) * nI j).toInt64.toUInt64 &&& Int64.toUInt64 63)).toInt64).toInt32) &&& 255 = ((a >>> (((8 : Int32) * nI j).toInt64 &&& 63)).toInt32) &&& 255 := by
  have : j = 0 ∨ j = 1 ∨ j = 2 ∨ j = 3 ∨ j = 4 ∨ j = 5 ∨ j = 6 ∨ j = 7 := by omega
  rcases this with rfl | rfl | rfl | rfl | rfl | rfl | rfl | rfl
  · exact sh_bytes a _ _ 0 (by decide) (by decide) (by omega)
  · exact sh_bytes a _ _ 8 (by decide) (by decide) (by omega)
  · exact sh_bytes a _ _ 16 (by decide) (by decide) (by omega)
  · exact sh_bytes a _ _ 24 (by decide) (by decide) (by omega)
  · exact sh_bytes a _ _ 32 (by decide) (by decide) (by omega)
  · exact sh_bytes a _ _ 40 (by decide) (by decide) (by omega)
  · exact sh_bytes a _ _ 48 (by decide) (by decide) (by omega)
  · exact sh_bytes a _ _ 56 (by decide) (by decide) (by omega)
theorem l127le {k : Nat} (h : k < 2 ^ 62) : (lN k ≤ 127) ↔ k ≤ 127 := by
  rw [Int64.le_iff_toInt_le, lN_toInt' (by omega), show (127 : Int64).toInt = 127 from by decide]
  omega
/-! bytes going out -/
def LR (W : Bool) (log0 log : S_Bytes) (row : Nat → Int32) (c : Nat) : Prop := (W = false ∧ log = log0) ∨ (W = true ∧ log.2 = nI c ∧ ∀ i, i < c → log.1 i = row i ∧ ∃ b : Nat, b < 256 ∧ row i = nI b)
def MP (m0 : S_Model) (row : Nat → Int32) (c : Nat) (en ru sa co : Int32) : S_Model := (m0.1, m0.2.1, m0.2.2.1, m0.2.2.2.1, (row, nI c), (en, ru, sa, co), m0.2.2.2.2.2.2.1, m0.2.2.2.2.2.2.2)
def PQ (m0 : S_Model) (log0 : S_Bytes) (W : Bool) (past : S_Past) (c : Nat) (en ru sa co : Int32) (p : S_Packer) (m : S_Model) : Prop := ∃ log row, p = (log, past, W, nI c, en, ru, sa, co) ∧ m = MP m0 row c en ru sa co ∧ LR W log0 log row c
theorem put1 {m0 log0 W past c en ru sa co p m} (h : PQ m0 log0 W past c en ru sa co p m) (hc : c < 5000) (vc vm : Int32) (hv : vc = vm &&& 255) : ∃ m', f_Model_put m vm = some m' ∧ PQ m0 log0 W past (c + 1) en ru sa co (f_Packer_packByte p vc) m' := by
  obtain ⟨log, row, rfl, rfl, hl⟩ := h
  refine ⟨MP m0 (upd row c (vm &&& 255)) (c + 1) en ru sa co, ?_, ?_⟩
  · unfold f_Model_put MP
    dsimp only
    rw [if_neg (ini5000 hc), cl_n (by omega), nI_1]
  · rcases hl with ⟨rfl, rfl⟩ | ⟨rfl, h2, h3⟩
    · refine ⟨log, upd row c (vm &&& 255), ?_, rfl, Or.inl ⟨rfl, rfl⟩⟩
      unfold f_Packer_packByte
      simp only [bIf, if_true, nI_1]
    · obtain ⟨lr, ll⟩ := log
      dsimp only at h2 h3
      subst h2
      refine ⟨(upd lr c vc, nI (c + 1)), upd row c (vm &&& 255), ?_, rfl, Or.inr ⟨rfl, rfl, ?_⟩⟩
      · unfold f_Packer_packByte
        simp only [bIt, if_false, lt1, nI_1]
        rw [show f_Bytes_append (lr, nI c) vc = (upd lr c vc, nI (c + 1)) from by
          unfold f_Bytes_append
          dsimp only
          rw [if_neg (nI_pos (by omega)), if_neg (show ¬ (5000 : Int32) ≤ nI c from nI_ge (b := 5000) (by omega) (by decide)), cl_n (by omega), nI_1]]
      · intro i hi
        dsimp only [upd]
        by_cases e : i = c
        · rw [if_pos e, if_pos e]; exact ⟨hv, and255 vm⟩
        · rw [if_neg e, if_neg e]; exact h3 i (by omega)
theorem p_varint {m0 log0 W past en ru sa co} : ∀ e j k f1 f2 c p m, j + e ≤ 7 → 1 ≤ e → k < 128 ^ e → k < 2 ^ 62 → e ≤ f1 → e ≤ f2 → c + e ≤ 5000 → PQ m0 log0 W past c en ru sa co p m → ∃ d p' m', 1 ≤ d ∧ d ≤ e ∧ f_Packer_packVarint_b5 f1 p (lN k) (nI j) = some p' ∧ f_Model_varint_b2 f2 m (lN k) = some m' ∧ PQ m0 log0 W past (c + d) en ru sa co p' m' := by
  intro e
  induction e with
  | zero => intro j k f1 f2 c p m _ h; omega
  | succ e ih =>
    intro j k f1 f2 c p m hj _ hk hk2 hf1 hf2 hc h
    obtain ⟨g1, rfl⟩ : ∃ g, f1 = g + 1 := ⟨f1 - 1, by omega⟩
    obtain ⟨g2, rfl⟩ : ∃ g, f2 = g + 1 := ⟨f2 - 1, by omega⟩
    rw [f_Packer_packVarint_b5, f_Model_varint_b2, if_neg (show ¬ (7 : Int32) ≤ nI j from nI_ge (b := 7) (by omega) (by decide))]
    simp only [lg_le0, l127le hk2]
    by_cases h7 : k ≤ 127
    · rw [if_pos h7, if_pos h7]
      obtain ⟨m', h1, h2⟩ := put1 h (by omega) ((lN k &&& 127).toInt32) ((lN k).toInt32) (by rw [l127, Nat.mod_eq_of_lt (by omega), lN_i, and255b (by omega)])
      refine ⟨1, _, m', Nat.le_refl _, by omega, rfl, ?_, h2⟩
      rw [h1]; rfl
    · rw [if_neg h7, if_neg h7]
      obtain ⟨m', h1, h2⟩ := put1 h (by omega) ((lN k &&& 127).toInt32 ||| 128) ((lN k &&& 127).toInt32 ||| 128) (by rw [l127, lN_i, or128 _ (Nat.mod_lt _ (by decide))])
      have he : 1 ≤ e := by
        cases e with
        | zero => simp at hk; omega
        | succ e => omega
      rw [h1, shr7 hk2, ushr7 hk2, nI_1]
      simp only [lt1, Option.bind_some]
      obtain ⟨d, p', m'', d1, d2, d3, d4, d5⟩ := ih (j + 1) (k / 128) g1 g2 (c + 1) _ m' (by omega) he (by rw [Nat.div_lt_iff_lt_mul (by decide)]; rw [Nat.pow_succ] at hk; exact hk) (by omega) (by omega) (by omega) (by omega) h2
      exact ⟨d + 1, p', m'', by omega, by omega, d3, d4, by rw [show c + (d + 1) = c + 1 + d from by omega]; exact d5⟩
theorem p_varintE {m0 log0 W past en ru sa co c p m} (e : Nat) {k : Nat} (h : PQ m0 log0 W past c en ru sa co p m) (he : 1 ≤ e) (he6 : e ≤ 6) (hk : k < 128 ^ e) (hc : c + e ≤ 5000) : ∃ d p' m', 1 ≤ d ∧ d ≤ e ∧ f_Packer_packVarint p (lN k) = some p' ∧ f_Model_varint m (lN k) = some m' ∧ PQ m0 log0 W past (c + d) en ru sa co p' m' := by
  have : k < 2 ^ 62 := Nat.lt_of_lt_of_le hk (Nat.le_trans (Nat.pow_le_pow_right (by decide) he6) (by decide))
  exact p_varint e 1 k 400 400 c p m (by omega) he hk this (by omega) (by omega) hc h
theorem p_bytes {m0 log0 W past en ru sa co} {i : Nat} (hi : i < 300) : ∀ x f1 f2 c p m, x ≤ 8 → x < f1 → x < f2 → c + x ≤ 5000 → PQ m0 log0 W past c en ru sa co p m → ∃ p' m', f_Packer_packBytes_b5 f1 p (m0.2.1.2.2.1 i) (nI x - 1) = some p' ∧ f_Model_entry_b327 f2 m (nI i) (nI x - 1) = some m' ∧ PQ m0 log0 W past (c + x) en ru sa co p' m' := by
  intro x
  induction x with
  | zero =>
    intro f1 f2 c p m _ hf1 hf2 hc h
    obtain ⟨g1, rfl⟩ : ∃ g, f1 = g + 1 := ⟨f1 - 1, by omega⟩
    obtain ⟨g2, rfl⟩ : ∃ g, f2 = g + 1 := ⟨f2 - 1, by omega⟩
    rw [f_Packer_packBytes_b5, f_Model_entry_b327, if_pos (by decide), if_pos (by decide)]
    exact ⟨p, m, rfl, rfl, h⟩
  | succ x ih =>
    intro f1 f2 c p m hx hf1 hf2 hc h
    obtain ⟨g1, rfl⟩ : ∃ g, f1 = g + 1 := ⟨f1 - 1, by omega⟩
    obtain ⟨g2, rfl⟩ : ∃ g, f2 = g + 1 := ⟨f2 - 1, by omega⟩
    have hm : m.2.1 = m0.2.1 := by obtain ⟨_, _, -, rfl, -⟩ := h; rfl
    rw [f_Packer_packBytes_b5, f_Model_entry_b327, nI_pred, if_neg (nI_pos (by omega)), if_neg (nI_pos (by omega)), if_neg (ini300 hi), cl_n (by omega), hm]
    obtain ⟨m', h1, h2⟩ := put1 h (by omega) _ _ (shb (m0.2.1.2.2.1 i) x (by omega))
    rw [h1]
    simp only [lt1, Option.bind_some]
    rw [show nI x + (-1) = nI x - 1 from (Int32.sub_eq_add_neg _ _).symm]
    obtain ⟨p', m'', d3, d4, d5⟩ := ih g1 g2 (c + 1) _ m' (by omega) (by omega) (by omega) (by omega) h2
    exact ⟨p', m'', d3, d4, by rw [show c + (x + 1) = c + 1 + x from by omega]; exact d5⟩
