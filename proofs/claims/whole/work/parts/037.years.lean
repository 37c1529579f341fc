/-! lots, days and years -/
theorem jlot_eq (x : Int32) : ∃ k, k < 32768 ∧ ((x >>> ((16 : Int32) &&& 31)) &&& 32767) = nI k ∧ (((x.toUInt32 >>> ((16 : Int32).toUInt32 &&& Int32.toUInt32 31)).toInt32) &&& 32767) = nI k := by
  obtain ⟨k, h1, h2⟩ := pk_andE ((x.toUInt32 >>> ((16 : Int32).toUInt32 &&& Int32.toUInt32 31)).toInt32) (m := 32767) 15 (by decide)
  refine ⟨k, by omega, ?_, h2⟩
  rw [← h2]
  rw [pk_and (x >>> ((16 : Int32) &&& 31)) (m := 32767) 15 (by decide), pk_and ((x.toUInt32 >>> ((16 : Int32).toUInt32 &&& Int32.toUInt32 31)).toInt32) (m := 32767) 15 (by decide), pk_ushr x 16 16 (by decide)]
  congr 1
  have h1 := pk_shr x ((16 : Int32) &&& 31) 16 (by decide)
  have h2 : ∀ y : Int32, y.toInt = if 2 * y.toBitVec.toNat < 4294967296 then (y.toBitVec.toNat : Int) else (y.toBitVec.toNat : Int) - 4294967296 := fun y => BitVec.toInt_eq_toNat_cond _
  have h3 := (x >>> ((16 : Int32) &&& 31)).toBitVec.isLt
  have h4 := x.toBitVec.isLt
  generalize (x >>> ((16 : Int32) &&& 31)) = y at *
  rw [h2 y, h2 x, Int.shiftRight_eq_div_pow] at h1
  generalize y.toBitVec.toNat = a at *
  generalize x.toBitVec.toNat = b at *
  split at h1 <;> split at h1 <;> omega
theorem jzlet {A B : Type} (x : A) (k : A → B) : zlet x k = k x := rfl
theorem jdraw (N9 : Nat) (seed : Int32) {n : Nat} (h1 : 0 < n) (h2 : n ≤ 16) : ∃ r v, r < n ∧ pX1_draw N9 seed (nI n) = some (nI r, v) ∧ pM_draw N9 seed (nI n) = some (nI r, v) := by
  obtain ⟨k, hk, e1, e2⟩ := jlot_eq (seed * 1103515245 + 12345)
  have hne : ¬ nI n = 0 := by
    have := jeq_f (a := n) (b := 0) (by omega) (by omega) (by omega)
    exact this.mp
  refine ⟨k % n, seed * 1103515245 + 12345, Nat.mod_lt _ h1, ?_, ?_⟩
  · unfold pX1_draw pX1_draw_36
    rw [jzlet, if_pos (show (0 : Int32) < nI n from nI_lt (a := 0) h1 (by omega)), if_pos hne, e2, jrem (by omega) (by omega)]
  · unfold pM_draw
    rw [jzlet, if_pos hne, e1, jrem (by omega) (by omega)]
section YR
variable {N9 G L B c n : Nat} {gt nu fo kk vv no bo tk : Nat → Nat} {bk_forgives bk_tolls bk_lengths : Nat → Int32} {bk_numbers : Nat → Nat → Int32} {m_told : Nat → Int32} {m_gate m_list : Nat → Nat → Int32}
variable {lw_kinds lw_values : Nat → Int32} {lw_length m_lawMany : Int32} {m_law : Nat → Nat → Int32} {st_now st_born st_age st_passed st_gone st_took : Nat → Int32} {st_year re ra : Int32} {m_now m_refused : Nat → Int32}
variable {st_beasts st_coins : Int32} {row : Nat → Int32}
/-- the day's end: perhaps a wash -/
theorem jday2 (hs : jSt G B no bo c tk st_now st_born st_age st_passed st_gone st_took st_beasts st_year st_coins row) {b : Nat} (hb : b < B) (lw ru stk kn : Nat → Int32) (ps x4 seed tars x2 x3 x5 : Int32) :
    ∃ now' row' seed' no', pX1_liveDay_81 N9 lw ru st_born st_passed st_gone st_took st_coins ps x4 (nI b) st_now seed tars = some (lw, ru, now', st_passed, st_gone, st_took, st_coins, seed', ps, tars) ∧
      (∀ k, pM_yearsBy_131 N9 x2 x3 x4 k stk kn row seed tars x5 (nI b) = pM_yearsBy_152 N9 stk kn tars x2 x3 x4 k row' seed' x5) ∧
      jSt G B no' bo c tk now' st_born st_age st_passed st_gone st_took st_beasts st_year st_coins row' ∧ row' 45 = row 45 := by
  obtain ⟨d, s3, hd, c1, c2⟩ := jdraw N9 seed (n := 16) (by omega) (by omega)
  unfold pX1_liveDay_81 pX1_liveDay_99 pM_yearsBy_131
  simp only [jlit, jx_i4, jm_i5]
  rw [c1, jb2]
  simp only [c2, jb2]
  by_cases hx : x4 ≤ nI d
  · rw [if_pos hx]
    simp only [if_pos hx]
    exact ⟨_, _, _, _, rfl, fun k => rfl, hs, rfl⟩
  · rw [if_neg hx]
    simp only [if_neg hx]
    obtain ⟨z, now', row', no', w1, w2, w3, w4⟩ := jwash (N9 := N9) hs hb
    rw [w1, jb2]
    simp only [w2, jb2]
    exact ⟨_, _, _, _, rfl, fun k => rfl, w3, w4⟩
/-- one day -/
theorem jday (hN : 70000 < N9) (hk : jBk G L gt nu fo bk_forgives bk_tolls bk_lengths bk_numbers m_told m_gate m_list) (hl : jLw n kk vv lw_kinds lw_values lw_length m_lawMany m_law) (hs : jSt G B no bo c tk st_now st_born st_age st_passed st_gone st_took (nI B) st_year st_coins row) (h42 : m_now 42 = nI B) (hB : 0 < B) (hG : 0 < G) {i D : Nat} (hi : i ≤ D) (hD : D ≤ 96) (lw ru stk kn : Nat → Int32) (ps x3 x4 seed tars : Int32) :
    ∃ z lw' ru' now' ps' go' to' co' seed' tars' no' c' tk' stk' kn' row', pX1_liveDay N9 bk_forgives bk_tolls bk_lengths bk_numbers (nI G) lw_kinds lw_values lw lw_length ru st_now st_born st_age st_passed st_gone st_took (nI B) st_coins seed ps tars x3 x4 = some (lw', ru', now', ps', go', to', co', seed', ps + jB z, tars') ∧
      (∀ m, pM_yearsBy_44 N9 m_told m_gate m_list m_lawMany m_law m_now (nI D) x3 x4 (m + 1) stk kn row seed tars (nI i) = pM_yearsBy_152 N9 stk' kn' tars' (nI D) x3 x4 (pM_yearsBy_44 N9 m_told m_gate m_list m_lawMany m_law m_now (nI D) x3 x4 m) row' seed' (nI i)) ∧
      jSt G B no' bo c' tk' now' st_born st_age ps' go' to' (nI B) st_year co' row' ∧ row' 45 = row 45 + jB z := by
  have hG5 := hk.1
  have hB8 := hs.1
  have hg1 := hk.2.2.1
  obtain ⟨b, s1, hb, a1, a2⟩ := jdraw N9 seed (n := B) hB (by omega)
  obtain ⟨g, s2, hg, b1, b2⟩ := jdraw N9 s1 (n := G) hG (by omega)
  obtain ⟨z, st, ru', pp, go, to, co, st', kn', row1, c1, tk1, p1, p2, p3, p4⟩ := jpass hN hk hl hs hb hg lw ru stk kn
  obtain ⟨d, s3, hd, d1, d2⟩ := jdraw N9 s2 (n := 16) (by omega) (by omega)
  obtain ⟨s, s4, hs8, e1, e2⟩ := jdraw N9 s3 (n := 8) (by omega) (by omega)
  obtain ⟨z2, now2, row2, no2, f1, f2, f3, f4⟩ := jpaint (N9 := N9) p3 hb hs8 (nI 1)
  have hX : pX1_liveDay N9 bk_forgives bk_tolls bk_lengths bk_numbers (nI G) lw_kinds lw_values lw lw_length ru st_now st_born st_age st_passed st_gone st_took (nI B) st_coins seed ps tars x3 x4 = pX1_liveDay_45 N9 st_now st_born tars x3 x4 st ru' pp go to co s2 (ps + jB z) (nI b) := by
    unfold pX1_liveDay
    simp only [jx_i3]
    rw [a1, jb2, b1, jb2, p1, jb7]
    cases z
    · rw [if_pos (show jB false = 0 from rfl), jB_f, jadd0]
    · rw [if_neg (show ¬ jB true = 0 by decide)]
      rfl
  have hM : ∀ m, pM_yearsBy_44 N9 m_told m_gate m_list m_lawMany m_law m_now (nI D) x3 x4 (m + 1) stk kn row seed tars (nI i) = (if x3 ≤ nI d then pM_yearsBy_131 N9 (nI D) x3 x4 (pM_yearsBy_44 N9 m_told m_gate m_list m_lawMany m_law m_now (nI D) x3 x4 m) st' kn' row1 s3 tars (nI i) (nI b) else
      pM_yearsBy_131 N9 (nI D) x3 x4 (pM_yearsBy_44 N9 m_told m_gate m_list m_lawMany m_law m_now (nI D) x3 x4 m) st' kn' row2 s4 (tars + jB z2) (nI i) (nI b)) := by
    intro m
    simp only [pM_yearsBy_44, jlit, jm_i3, jm_i4]
    simp (disch := omega) only [jb1, jb2, jb3, jb4, jb5, jb6, jb7, jb8, jb9, jb10, jb11, jb12, jb13, jb14, jb15, jb16, jb17, jb18, jb19, jb20, jb21, jb22, jb23, jb24, jb25, jb26, jb27, jb28, jb29, jb30, jb31, jb32, jb33, jb34, jb35, jb36, jb37, jb38, jb39, jb40, jb41, jb42, jb43, jb44, jb45, jb46, jb47, jb48, jb49, jb50, zlet, jlit, jle_t, jle_f, jlt_t, jlt_f, jeq_t, jeq_f, jeqN_f, jNeq_f, jNN, jN1, jadd, jsub, jzin, jcl, if_true, if_false, ite_true, ite_false, not_true, not_false_iff, not_true_eq_false, not_false_eq_true, jB_t, jB_f, jB0_t, jB0_f, jBa, jand11, jand00, ↓reduceIte, Nat.reduceEqDiff, Nat.reduceAdd, Nat.reduceSub, h42, hg1, a2, b2, p2, d2, e2, f2, pM_yearsBy_127]
    by_cases hx : x3 ≤ nI d
    · rw [if_pos hx, if_pos hx]
    · rw [if_neg hx, if_neg hx]
      cases z2
      · simp (disch := omega) only [jb1, jb2, jb3, jb4, jb5, jb6, jb7, jb8, jb9, jb10, jb11, jb12, jb13, jb14, jb15, jb16, jb17, jb18, jb19, jb20, jb21, jb22, jb23, jb24, jb25, jb26, jb27, jb28, jb29, jb30, jb31, jb32, jb33, jb34, jb35, jb36, jb37, jb38, jb39, jb40, jb41, jb42, jb43, jb44, jb45, jb46, jb47, jb48, jb49, jb50, zlet, jlit, jle_t, jle_f, jlt_t, jlt_f, jeq_t, jeq_f, jeqN_f, jNeq_f, jNN, jN1, jadd, jsub, jzin, jcl, if_true, if_false, ite_true, ite_false, not_true, not_false_iff, not_true_eq_false, not_false_eq_true, jB_t, jB_f, jB0_t, jB0_f, jBa, jand11, jand00, ↓reduceIte, Nat.reduceEqDiff, Nat.reduceAdd, Nat.reduceSub]
      · simp (disch := omega) only [jb1, jb2, jb3, jb4, jb5, jb6, jb7, jb8, jb9, jb10, jb11, jb12, jb13, jb14, jb15, jb16, jb17, jb18, jb19, jb20, jb21, jb22, jb23, jb24, jb25, jb26, jb27, jb28, jb29, jb30, jb31, jb32, jb33, jb34, jb35, jb36, jb37, jb38, jb39, jb40, jb41, jb42, jb43, jb44, jb45, jb46, jb47, jb48, jb49, jb50, zlet, jlit, jle_t, jle_f, jlt_t, jlt_f, jeq_t, jeq_f, jeqN_f, jNeq_f, jNN, jN1, jadd, jsub, jzin, jcl, if_true, if_false, ite_true, ite_false, not_true, not_false_iff, not_true_eq_false, not_false_eq_true, jB_t, jB_f, jB0_t, jB0_f, jBa, jand11, jand00, ↓reduceIte, Nat.reduceEqDiff, Nat.reduceAdd, Nat.reduceSub]
  rw [hX]
  unfold pX1_liveDay_45
  simp only [jlit, jx_i5]
  rw [d1, jb2]
  by_cases hx : x3 ≤ nI d
  · rw [if_pos hx]
    obtain ⟨now', row', seed', no', g1, g2, g3, g4⟩ := jday2 (N9 := N9) p3 hb st ru' st' kn' (ps + jB z) x4 s3 tars (nI D) x3 (nI i)
    refine ⟨z, _, _, _, _, _, _, _, _, _, _, _, _, st', kn', row', g1, fun m => ?_, g3, by rw [g4, p4]⟩
    rw [hM m, if_pos hx, g2]
  · rw [if_neg hx, e1, jb2, f1, jb2]
    obtain ⟨now', row', seed', no', g1, g2, g3, g4⟩ := jday2 (N9 := N9) f3 hb st ru' st' kn' (ps + jB z) x4 s4 (tars + jB z2) (nI D) x3 (nI i)
    refine ⟨z, st, ru', now', pp, go, to, co, seed', tars + jB z2, no', _, _, st', kn', row', ?_, fun m => ?_, g3, by rw [g4, f4, p4]⟩
    · rw [← g1]
      cases z2
      · rw [if_pos (show jB false = nI 0 from rfl), jB_f, jadd0]
      · rw [if_neg (show ¬ jB true = nI 0 by decide)]
        rfl
    · rw [hM m, if_neg hx, g2]
end YR
