-- the texts' lengths and letters
set_option maxRecDepth 100000 in
theorem tx_len : ∀ p, p < 9 → f_J0_length_8abf5 p = some (Int32.ofNat (lnS.getD p 0)) := by decide +kernel
set_option maxRecDepth 100000 in
theorem tx_chr : ∀ p, p < 9 → ∀ k, k < lnS.getD p 0 → f_J0_charAt_5068e p (Int32.ofNat k) = some ((btS.getD p []).getD k 0) := by decide +kernel
