theorem zz9_0 : (1 : Nat) = 1 := rfl
