theorem zend_ : (1 : Nat) = 1 := rfl
