theorem zz_test1 (x : Int32) (h0 : 0 ≤ x) (h1 : x < 10) : x.toNatClampNeg < 10 := by grind
theorem zz_test2 (x : Int32) (h0 : 0 ≤ x) (h1 : x < 10) : x + 1 ≤ 10 := by grind
theorem zz_test3 (x : Int32) (h0 : 0 ≤ x) (h1 : x < 10) : (x+1).toInt = x.toInt + 1 := by grind
theorem zz_test4 (x : Int32) (h0 : 0 ≤ x) (h1 : x < 10) : (x+1).toNatClampNeg = x.toNatClampNeg + 1 := by grind
theorem zz_test5 (x y : Int32) (h0 : 0 ≤ x) (h1 : x < 10) (h2 : x ≤ y) (h3 : y ≤ x) : x = y := by grind
theorem zz_test6 (x y : Int) (h : x.bmod 4294967296 = y) (h1 : 0 ≤ x) (h2 : x < 100) : y = x := by omega
