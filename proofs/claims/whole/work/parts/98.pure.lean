theorem law_true : ∀ (xs : Nat → Int32) (L : Nat), L ≤ 3584 → f_law xs L 600 st0 m0 (fun _ => 0) 0 = some true := sorry
