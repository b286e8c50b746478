theorem fL_true (xs : Nat → Int32) (L : Nat) (hL : L ≤ 3072) : ∃ S' : zM, fL xs L (fun _ _ => 0) = some (1, S') := sorry
