theorem zz_one : 1 = 1 := rfl
