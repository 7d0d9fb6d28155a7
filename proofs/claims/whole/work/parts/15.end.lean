theorem zz9 : 1 = 1 := rfl
