theorem zz_1 : (1 : Nat) = 1 := rfl
