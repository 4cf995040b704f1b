theorem rel0 : Rel st0 m0 := ⟨0, 0, ⟨by omega, rfl, fun i hi => by omega⟩, rfl, fun i hi => by omega, ⟨by omega, rfl, fun i hi => by omega⟩, rfl, fun i hi => by omega, 0, by omega, rfl⟩
theorem law_step (xs : Nat → Int32) (L : Nat) (hL : L ≤ 3584) : ∀ n j st m of, Rel st m → j ≤ 512 → 513 ≤ n + j → f_law xs L n st m of (nI (7 * j)) = some true := by
  intro n
  induction n with
  | zero => intro j st m of _ h1 h2; omega
  | succ n ih =>
    intro j st m of R h1 h2
    rw [f_law]
    by_cases hend : (Int32.ofNat L) - 7 < nI (7 * j)
    · rw [if_pos hend]
    · rw [if_neg hend]
      have hj : j + 1 ≤ 512 := by
        have e : ((Int32.ofNat L) - 7).toInt = (L : Int) - 7 := by
          rw [Int32.toInt_sub, show (Int32.ofNat L).toInt = (L : Int) from nI_toInt (by omega), show (7 : Int32).toInt = 7 from by decide]
          rw [Int.bmod_eq_of_le (by omega) (by omega)]
        rw [Int32.lt_iff_toInt_lt, e, nI_toInt (by omega)] at hend
        omega
      have go : ∀ st' m' of', Rel st' m' → f_law xs L n st' m' of' (nI (7 * j) + 7) = some true := by
        intro st' m' of' R'
        rw [show nI (7 * j) + 7 = nI (7 * (j + 1)) from by rw [show 7 * (j + 1) = 7 * j + 7 from by omega, ← nI_add]; rfl]
        exact ih (j + 1) st' m' of' R' hj (by omega)
      by_cases c0 : (xs (nI (7 * j)).toNatClampNeg) &&& 15 = 0
      · rw [if_pos c0]
        obtain ⟨c, st', of', r, m', a1, a2, a3, a4, a5⟩ := op_add R (xs (nI (7 * j) + 1).toNatClampNeg) ((((xs (nI (7 * j) + 2).toNatClampNeg).toInt64) <<< ((32 : Int32).toInt64 &&& 63)) ||| (((xs (nI (7 * j) + 3).toNatClampNeg).toInt64) &&& 4294967295)) ((((xs (nI (7 * j) + 4).toNatClampNeg).toInt64) <<< ((32 : Int32).toInt64 &&& 63)) ||| (((xs (nI (7 * j) + 5).toNatClampNeg).toInt64) &&& 4294967295)) (xs (nI (7 * j) + 6).toNatClampNeg) of
        rw [a1, a2, Option.bind_some, Option.bind_some]
        dsimp only
        rw [if_pos a3]
        by_cases z : c = 0
        · rw [if_pos z, if_pos (by rw [lg_eq0]; exact a4 z)]; exact go _ _ _ a5
        · rw [if_neg z]; exact go _ _ _ a5
      rw [if_neg c0]
      by_cases c1 : (xs (nI (7 * j)).toNatClampNeg) &&& 15 = 1
      · rw [if_pos c1]
        obtain ⟨c, st', of', r, m', a1, a2, a3, a4, a5⟩ := op_drop R (xs (nI (7 * j) + 1).toNatClampNeg) of
        rw [a1, a2, Option.bind_some]
        dsimp only [lt1]
        rw [if_pos a3]
        by_cases z : c = 0
        · rw [if_pos z, if_pos (by rw [lg_eq0]; exact a4 z)]; exact go _ _ _ a5
        · rw [if_neg z]; exact go _ _ _ a5
      rw [if_neg c1]
      by_cases c2 : (xs (nI (7 * j)).toNatClampNeg) &&& 15 = 2
      · rw [if_pos c2]
        obtain ⟨r, st', m', a1, a2, a3⟩ := op_pack R
        rw [a1, a2, Option.bind_some, Option.bind_some]
        dsimp only
        rw [if_pos rfl]; exact go _ _ _ a3
      rw [if_neg c2]
      by_cases c3 : (xs (nI (7 * j)).toNatClampNeg) &&& 15 = 3
      · rw [if_pos c3]
        obtain ⟨r, st', m', a1, a2, a3⟩ := op_size R
        rw [a1, a2, Option.bind_some, Option.bind_some]
        dsimp only
        rw [if_pos rfl]; exact go _ _ _ a3
      rw [if_neg c3]
      by_cases c4 : (xs (nI (7 * j)).toNatClampNeg) &&& 15 = 4
      · rw [if_pos c4]
        obtain ⟨r, st', m', a1, a2, a3⟩ := op_read R
        rw [a1, a2, Option.bind_some, Option.bind_some]
        dsimp only
        rw [if_pos rfl]; exact go _ _ _ a3
      rw [if_neg c4]
      by_cases c5 : (xs (nI (7 * j)).toNatClampNeg) &&& 15 = 5
      · rw [if_pos c5]
        obtain ⟨c, st', m', a1, a2, a3, a5⟩ := op_poke R (xs (nI (7 * j) + 1).toNatClampNeg) (xs (nI (7 * j) + 2).toNatClampNeg)
        rw [a1, a2, Option.bind_some, Option.bind_some]
        dsimp only
        rw [if_pos a3]; exact go _ _ _ a5
      rw [if_neg c5]
      by_cases c6 : (xs (nI (7 * j)).toNatClampNeg) &&& 15 = 6
      · rw [if_pos c6]
        obtain ⟨c, st', of', r, m', a1, a2, a3, a4, a5⟩ := op_cut R (xs (nI (7 * j) + 1).toNatClampNeg) of
        rw [a1, a2, Option.bind_some]
        dsimp only [lt1]
        rw [if_pos a3]
        by_cases z : c = 0
        · rw [if_pos z, if_pos (by rw [lg_eq0]; exact a4 z)]; exact go _ _ _ a5
        · rw [if_neg z]; exact go _ _ _ a5
      rw [if_neg c6]
      by_cases c7 : (xs (nI (7 * j)).toNatClampNeg) &&& 15 = 7
      · rw [if_pos c7]
        obtain ⟨c, of', r, m', a1, a2, a3, a4, a5⟩ := op_byteAt R (xs (nI (7 * j) + 1).toNatClampNeg) of
        rw [a1, a2, Option.bind_some, Option.bind_some]
        dsimp only
        rw [if_pos a3]
        by_cases z : c = 0
        · rw [if_pos z, if_pos (by rw [lg_eq0]; exact a4 z)]; exact go _ _ _ a5
        · rw [if_neg z]; exact go _ _ _ a5
      rw [if_neg c7]
      by_cases c8 : (xs (nI (7 * j)).toNatClampNeg) &&& 15 = 8
      · rw [if_pos c8]
        obtain ⟨c, of', r, m', a1, a2, a3, a4, a5⟩ := op_event R (xs (nI (7 * j) + 1).toNatClampNeg) (xs (nI (7 * j) + 2).toNatClampNeg) of
        rw [a1, a2, Option.bind_some, Option.bind_some]
        dsimp only
        rw [if_pos a3]
        by_cases z : c = 0
        · rw [if_pos z, if_pos (by rw [lg_eq0]; exact a4 z)]; exact go _ _ _ a5
        · rw [if_neg z]; exact go _ _ _ a5
      rw [if_neg c8]
      by_cases c9 : (xs (nI (7 * j)).toNatClampNeg) &&& 15 = 9
      · rw [if_pos c9]
        obtain ⟨r, m', a1, a2, a3⟩ := op_at R ((((xs (nI (7 * j) + 1).toNatClampNeg).toInt64) <<< ((32 : Int32).toInt64 &&& 63)) ||| (((xs (nI (7 * j) + 2).toNatClampNeg).toInt64) &&& 4294967295))
        rw [a1, a2, Option.bind_some, Option.bind_some]
        dsimp only
        rw [if_pos rfl]; exact go _ _ _ a3
      rw [if_neg c9]
      by_cases c10 : (xs (nI (7 * j)).toNatClampNeg) &&& 15 = 10
      · rw [if_pos c10]
        obtain ⟨r, st', m', a1, a2, a3⟩ := op_count R (xs (nI (7 * j) + 1).toNatClampNeg)
        rw [a1, a2, Option.bind_some, Option.bind_some]
        dsimp only
        rw [if_pos rfl]; exact go _ _ _ a3
      rw [if_neg c10]
      exact go _ _ _ R
theorem law_true : ∀ (xs : Nat → Int32) (L : Nat), L ≤ 3584 → f_law xs L 600 st0 m0 (fun _ => 0) 0 = some true := fun xs L hL => law_step xs L hL 600 0 st0 m0 (fun _ => 0) rel0 (by omega) (by omega)
