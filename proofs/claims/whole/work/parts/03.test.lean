theorem mj_test : 1 = 1 := rfl
