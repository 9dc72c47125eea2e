theorem tst_end : (1 : Nat) = 1 := rfl
