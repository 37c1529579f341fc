theorem zz_test1 (x : Int32) (h0 : 0 ≤ x) (h1 : x < 10) : x.toNatClampNeg < 10 := by grind
theorem zz_test2 (x : Int32) (h0 : 0 ≤ x) (h1 : x < 10) : x + 1 ≤ 10 := by grind
theorem zz_test3 (x : Int32) (h0 : 0 ≤ x) (h1 : x < 10) : (x+1).toInt = x.toInt + 1 := by grind
theorem zz_test4 (x : Int32) (h0 : 0 ≤ x) (h1 : x < 10) : (x+1).toNatClampNeg = x.toNatClampNeg + 1 := by grind
theorem zz_test5 (x y : Int32) (h0 : 0 ≤ x) (h1 : x < 10) (h2 : x ≤ y) (h3 : y ≤ x) : x = y := by grind
theorem zz_test6 (x y : Int) (h : x.bmod 4294967296 = y) (h1 : 0 ≤ x) (h2 : x < 100) : y = x := by omega
theorem zz_test7 (n : Nat) (hn : n < 256) (N9 : Nat) : ∃ r, pXJ_bitCount N9 (nI n) = some (nI r) := by
  simp only [pXJ_bitCount, zlet]
  exact ⟨_, rfl⟩
theorem zz_test8 : (3:Int32) &&& 1 = 1 := by simp
theorem zz_test9 (a : Int32) : (if (3:Int32) = 4 then a else 5) = 5 := by simp
