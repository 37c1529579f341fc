/-- a byte of a number -/
def jby4 (x : Int32) (s : Nat) : Int32 := ((x.toUInt32 >>> ((nI s).toUInt32 &&& Int32.toUInt32 31)).toInt32) &&& 255
theorem jby4_rng (x : Int32) (s : Nat) : ∃ v, v < 256 ∧ jby4 x s = nI v := by
  unfold jby4
  obtain ⟨j, h1, h2⟩ := pk_andE ((x.toUInt32 >>> ((nI s).toUInt32 &&& Int32.toUInt32 31)).toInt32) (m := 255) 8 (by decide)
  exact ⟨j, h1, h2⟩
theorem jby4_sh : ∀ k, k < 32 → (((nI k).toUInt32 &&& Int32.toUInt32 31).toBitVec % 32).toNat = k := by decide +kernel
theorem jby4_sm : ∀ k, k < 32 → ((nI k &&& 31).toBitVec.smod 32).toNat = k := by decide +kernel
/-- shifted with the sign or without: the same byte -/
theorem jby4_eq (x : Int32) {k : Nat} (hk : k ≤ 24) : (x >>> (nI k &&& 31)) &&& 255 = jby4 x k := by
  unfold jby4
  rw [pk_and (x >>> (nI k &&& 31)) (m := 255) 8 (by decide), pk_and ((x.toUInt32 >>> ((nI k).toUInt32 &&& Int32.toUInt32 31)).toInt32) (m := 255) 8 (by decide), pk_ushr x (nI k) k (jby4_sh k (by omega))]
  congr 1
  have h1 := pk_shr x (nI k &&& 31) k (jby4_sm k (by omega))
  have h2 : ∀ y : Int32, y.toInt = if 2 * y.toBitVec.toNat < 4294967296 then (y.toBitVec.toNat : Int) else (y.toBitVec.toNat : Int) - 4294967296 := fun y => BitVec.toInt_eq_toNat_cond _
  have h3 := (x >>> (nI k &&& 31)).toBitVec.isLt
  have h4 := x.toBitVec.isLt
  generalize (x >>> (nI k &&& 31)) = y at *
  rw [h2 y, h2 x, Int.shiftRight_eq_div_pow] at h1
  generalize y.toBitVec.toNat = a at *
  generalize x.toBitVec.toNat = b at *
  have h5 : k = 0 ∨ k = 1 ∨ k = 2 ∨ k = 3 ∨ k = 4 ∨ k = 5 ∨ k = 6 ∨ k = 7 ∨ k = 8 ∨ k = 9 ∨ k = 10 ∨ k = 11 ∨ k = 12 ∨ k = 13 ∨ k = 14 ∨ k = 15 ∨ k = 16 ∨ k = 17 ∨ k = 18 ∨ k = 19 ∨ k = 20 ∨ k = 21 ∨ k = 22 ∨ k = 23 ∨ k = 24 := by omega
  rcases h5 with rfl | rfl | rfl | rfl | rfl | rfl | rfl | rfl | rfl | rfl | rfl | rfl | rfl | rfl | rfl | rfl | rfl | rfl | rfl | rfl | rfl | rfl | rfl | rfl | rfl <;> (split at h1 <;> split at h1 <;> omega)
/-- four bytes put -/
def jp4 (f : Nat → Int32) (n : Nat) (x : Int32) : Nat → Int32 := upd (upd (upd (upd f n (jby4 x 24)) (n + 1) (jby4 x 16)) (n + 2) (jby4 x 8)) (n + 3) (jby4 x 0)
theorem jp4_in (f : Nat → Int32) (n : Nat) (x : Int32) {t : Nat} (ht : t < 4) : jp4 f n x (n + t) = jby4 x (24 - 8 * t) := by
  unfold jp4
  have : t = 0 ∨ t = 1 ∨ t = 2 ∨ t = 3 := by omega
  rcases this with rfl | rfl | rfl | rfl <;> simp (disch := omega) only [pk_un, pk_us, Nat.add_zero]
theorem jp4_out (f : Nat → Int32) (n : Nat) (x : Int32) {k : Nat} (h : k < n ∨ n + 4 ≤ k) : jp4 f n x k = f k := by
  unfold jp4
  simp (disch := omega) only [pk_un]
section FD
variable {N9 : Nat}
theorem jput (hN : 70000 < N9) (bytes : Nat → Int32) {n : Nat} (hn : n + 4 ≤ 600) (x : Int32) : pX8_put N9 bytes (nI n) x = some (jp4 bytes n x, nI (n + 4)) := by
  have e1 : (24 : Int32) + (-8) = 16 := by decide
  have e2 : (16 : Int32) + (-8) = 8 := by decide
  have e3 : (8 : Int32) + (-8) = 0 := by decide
  have step : ∀ (q : Nat) (f : Nat → Int32) (m : Nat) (s : Int32), m < 600 → ¬ s < 0 → pX8_put_3 N9 x (q + 1) f (nI m) s = pX8_put_3 N9 x q (upd f m (((x.toUInt32 >>> (s.toUInt32 &&& Int32.toUInt32 31)).toInt32) &&& 255)) (nI (m + 1)) (s + (-8)) := by
    intro q f m s hm hs
    simp only [pX8_put_3, pX8_put_43]
    rw [if_neg hs, if_neg (show ¬ (600 : Int32) ≤ nI m from nI_ge (b := 600) hm (by omega)), zlet, if_pos (of_eq_true (jzin hm (by omega))), jcl (by omega), nI_1]
  obtain ⟨q, hq⟩ : ∃ q, N9 = q + 1 + 1 + 1 + 1 + 1 := ⟨N9 - 5, by omega⟩
  unfold pX8_put
  have h : pX8_put_3 N9 x (q + 1 + 1 + 1 + 1 + 1) bytes (nI n) 24 = some (jp4 bytes n x, nI (n + 4)) := by
    rw [step _ _ _ _ (by omega) (by decide), e1, step _ _ _ _ (by omega) (by decide), e2, step _ _ _ _ (by omega) (by decide), e3, step _ _ _ _ (by omega) (by decide)]
    simp only [pX8_put_3]
    rw [if_pos (show (0 : Int32) + (-8) < 0 by decide)]
    rfl
  rw [← hq] at h
  exact h
def jwb (x1 x2 x3 x4 x5 : Int32) (i : Nat) : Int32 := jby4 (if i < 4 then x1 else if i < 8 then x2 else if i < 12 then x3 else if i < 16 then x4 else x5) (24 - 8 * (i % 4))
theorem jop_feed (hN : 70000 < N9) {tp_bytes : Nat → Int32} {tp_many : Int32} {m_tape : Int32} {m_fed : Nat → Int32} (hT : jTape tp_bytes m_fed tp_many m_tape) (m_thrown x1 x2 x3 x4 x5 : Int32) :
    ∃ r b' n' th t' f', pX9_feed N9 tp_bytes tp_many x1 x2 x3 x4 x5 = some (r, b', n') ∧ pM_feed N9 m_thrown m_tape m_fed x1 x2 x3 x4 x5 = some (r, th, t', f') ∧ jTape b' f' n' t' := by
  have hTT := hT
  obtain ⟨by', n, hn, rfl, rfl, hby⟩ := hT
  unfold pX9_feed pX8_hasRoomForFive pX8_hasRoomForFive_18 pM_feed
  by_cases h : n + 20 ≤ 600
  · simp (disch := omega) only [jb1, jb2, jb3, jb4, jb5, jb6, jb7, jb8, jb9, jb10, jb11, jb12, jb13, jb14, jb15, jb16, jb17, jb18, jb19, jb20, jb21, jb22, jb23, jb24, jb25, jb26, jb27, jb28, jb29, jb30, jb31, jb32, jb33, jb34, jb35, jb36, jb37, jb38, jb39, jb40, jb41, jb42, jb43, jb44, jb45, jb46, jb47, jb48, jb49, jb50, zlet, jlit, jle_t, jle_f, jlt_t, jlt_f, jeq_t, jeq_f, jeqN_f, jNeq_f, jNN, jN1, jadd, jsub, jzin, jcl, if_true, if_false, ite_true, ite_false, not_true, not_false_iff, not_true_eq_false, not_false_eq_true, jB_t, jB_f, jB0_t, jB0_f, jBa, jand11, jand00, ↓reduceIte, Nat.reduceEqDiff, Nat.reduceAdd, Nat.reduceSub]
    rw [jput hN _ (by omega : n + 4 ≤ 600), jb2, jput hN _ (by omega : n + 4 + 4 ≤ 600), jb2, jput hN _ (by omega : n + 4 + 4 + 4 ≤ 600), jb2, jput hN _ (by omega : n + 4 + 4 + 4 + 4 ≤ 600), jb2, jput hN _ (by omega : n + 4 + 4 + 4 + 4 + 4 ≤ 600), jb2]
    have hM : ∃ r, pM_feed_23 N9 x1 x2 x3 x4 x5 N9 (nI 0) (nI n) m_fed (nI 0) = some r ∧ ∃ f', r = (nI (n + 20), nI 0, nI (n + 20), f') ∧ (∀ q, q < 20 → f' (n + q) = jwb x1 x2 x3 x4 x5 q) ∧ ∀ k, (k < n ∨ n + 20 ≤ k) → f' k = m_fed k := by
      refine jloopR (fun q (s : Int32 × (Nat → Int32)) i => pM_feed_23 N9 x1 x2 x3 x4 x5 q (nI 0) s.1 s.2 i) 20 (fun i s => s.1 = nI (n + i) ∧ (∀ q, q < i → s.2 (n + q) = jwb x1 x2 x3 x4 x5 q) ∧ ∀ k, (k < n ∨ n + i ≤ k) → s.2 k = m_fed k) _ (fun q i s hi hs => ?_) (fun q s hs => ?_) 20 0 (nI n, m_fed) N9 (by omega) (by omega) ⟨rfl, fun q hq => absurd hq (Nat.not_lt_zero q), fun k _ => rfl⟩
      · obtain ⟨f, g⟩ := s
        obtain ⟨h1, h2, h3⟩ := hs
        have h1 : f = nI (n + i) := h1
        subst h1
        have h76 : ∀ v : Int32, v = (if i < 4 then x1 else if i < 8 then x2 else if i < 12 then x3 else if i < 16 then x4 else x5) → ∀ k, pM_feed_76 N9 (nI 0) x1 x2 x3 x4 x5 k (nI (n + i)) g (nI i) v = k (nI 0) (nI (n + i + 1)) (upd g (n + i) (jwb x1 x2 x3 x4 x5 i)) (nI (i + 1)) := by
          intro v hv k
          unfold pM_feed_76 jwb
          rw [← hv, show (4 : Int32) = nI 4 from rfl, jrem (by omega) (by omega), show (8 : Int32) = nI 8 from rfl, jmul, show (24 : Int32) = nI 24 from rfl, jsub (by omega), jby4_eq v (by omega)]
          simp (disch := omega) only [jb1, jb2, jb3, jb4, jb5, jb6, jb7, jb8, jb9, jb10, jb11, jb12, jb13, jb14, jb15, jb16, jb17, jb18, jb19, jb20, jb21, jb22, jb23, jb24, jb25, jb26, jb27, jb28, jb29, jb30, jb31, jb32, jb33, jb34, jb35, jb36, jb37, jb38, jb39, jb40, jb41, jb42, jb43, jb44, jb45, jb46, jb47, jb48, jb49, jb50, zlet, jlit, jle_t, jle_f, jlt_t, jlt_f, jeq_t, jeq_f, jeqN_f, jNeq_f, jNN, jN1, jadd, jsub, jzin, jcl, if_true, if_false, ite_true, ite_false, not_true, not_false_iff, not_true_eq_false, not_false_eq_true, jB_t, jB_f, jB0_t, jB0_f, jBa, jand11, jand00, ↓reduceIte, Nat.reduceEqDiff, Nat.reduceAdd, Nat.reduceSub]
        refine ⟨(nI (n + i + 1), upd g (n + i) (jwb x1 x2 x3 x4 x5 i)), ?_, rfl, fun q hq => ?_, fun k hk => ?_⟩
        · show pM_feed_23 N9 x1 x2 x3 x4 x5 (q + 1) _ _ _ _ = _
          simp only [pM_feed_23]
          rw [if_neg (show ¬ (20 : Int32) ≤ nI i from nI_ge (b := 20) hi (by omega))]
          by_cases g4 : 4 ≤ i
          · rw [if_pos (show (4 : Int32) ≤ nI i from nI_le (a := 4) g4 (by omega))]
            by_cases g8 : 8 ≤ i
            · rw [if_pos (show (8 : Int32) ≤ nI i from nI_le (a := 8) g8 (by omega))]
              by_cases g12 : 12 ≤ i
              · rw [if_pos (show (12 : Int32) ≤ nI i from nI_le (a := 12) g12 (by omega))]
                by_cases g16 : 16 ≤ i
                · rw [if_pos (show (16 : Int32) ≤ nI i from nI_le (a := 16) g16 (by omega)), h76 x5 (by rw [if_neg (by omega), if_neg (by omega), if_neg (by omega), if_neg (by omega)])]
                · rw [if_neg (show ¬ (16 : Int32) ≤ nI i from nI_ge (b := 16) (by omega) (by omega)), h76 x4 (by rw [if_neg (by omega), if_neg (by omega), if_neg (by omega), if_pos (by omega)])]
              · rw [if_neg (show ¬ (12 : Int32) ≤ nI i from nI_ge (b := 12) (by omega) (by omega)), h76 x3 (by rw [if_neg (by omega), if_neg (by omega), if_pos (by omega)])]
            · rw [if_neg (show ¬ (8 : Int32) ≤ nI i from nI_ge (b := 8) (by omega) (by omega)), h76 x2 (by rw [if_neg (by omega), if_pos (by omega)])]
          · rw [if_neg (show ¬ (4 : Int32) ≤ nI i from nI_ge (b := 4) (by omega) (by omega)), h76 x1 (by rw [if_pos (by omega)])]
        · by_cases hqi : q = i
          · subst hqi; exact pk_us
          · exact (pk_un (by omega)).trans (h2 q (by omega))
        · exact (pk_un (by omega)).trans (h3 k (by omega))
      · obtain ⟨f, g⟩ := s
        obtain ⟨h1, h2, h3⟩ := hs
        have h1 : f = nI (n + 20) := h1
        subst h1
        show ∃ r, pM_feed_23 N9 x1 x2 x3 x4 x5 (q + 1) _ _ _ _ = _ ∧ _
        simp only [pM_feed_23]
        rw [if_pos (show (20 : Int32) ≤ nI 20 by decide)]
        exact ⟨_, rfl, g, rfl, h2, h3⟩
    obtain ⟨r, h1, f', rfl, h2, h3⟩ := hM
    rw [h1]
    refine ⟨_, _, _, _, _, _, rfl, rfl, fun i => if i < n then by' i else if i < n + 20 then (jwb x1 x2 x3 x4 x5 (i - n)).toNatClampNeg else by' i, n + 20, h, rfl, rfl, fun i hi => ?_⟩
    by_cases hin : i < n
    · obtain ⟨g1, g2, g3⟩ := hby i hi
      dsimp only
      rw [if_pos hin, h3 i (Or.inl hin), jp4_out _ _ _ (Or.inl (by omega)), jp4_out _ _ _ (Or.inl (by omega)), jp4_out _ _ _ (Or.inl (by omega)), jp4_out _ _ _ (Or.inl (by omega)), jp4_out _ _ _ (Or.inl (by omega))]
      exact ⟨g1, g2, g3⟩
    · by_cases hin2 : i < n + 20
      · obtain ⟨j, rfl⟩ : ∃ j, i = n + j := ⟨i - n, by omega⟩
        dsimp only
        rw [if_neg hin, if_pos hin2, h2 j (by omega), Nat.add_sub_cancel_left]
        obtain ⟨v, v1, v2⟩ := jby4_rng (if j < 4 then x1 else if j < 8 then x2 else if j < 12 then x3 else if j < 16 then x4 else x5) (24 - 8 * (j % 4))
        have v2' : jwb x1 x2 x3 x4 x5 j = nI v := v2
        rw [v2', jcl (by omega)]
        refine ⟨v1, ?_, rfl⟩
        rw [← v2']
        unfold jwb
        by_cases h4 : j < 4
        · rw [jp4_out _ _ _ (Or.inl (by omega)), jp4_out _ _ _ (Or.inl (by omega)), jp4_out _ _ _ (Or.inl (by omega)), jp4_out _ _ _ (Or.inl (by omega)), jp4_in _ _ _ h4, if_pos h4, Nat.mod_eq_of_lt h4]
        · by_cases h8 : j < 8
          · rw [jp4_out _ _ _ (Or.inl (by omega)), jp4_out _ _ _ (Or.inl (by omega)), jp4_out _ _ _ (Or.inl (by omega)), show n + j = n + 4 + (j - 4) by omega, jp4_in _ _ _ (by omega), if_neg h4, if_pos h8, show j % 4 = j - 4 by omega]
          · by_cases h12 : j < 12
            · rw [jp4_out _ _ _ (Or.inl (by omega)), jp4_out _ _ _ (Or.inl (by omega)), show n + j = n + 4 + 4 + (j - 8) by omega, jp4_in _ _ _ (by omega), if_neg h4, if_neg h8, if_pos h12, show j % 4 = j - 8 by omega]
            · by_cases h16 : j < 16
              · rw [jp4_out _ _ _ (Or.inl (by omega)), show n + j = n + 4 + 4 + 4 + (j - 12) by omega, jp4_in _ _ _ (by omega), if_neg h4, if_neg h8, if_neg h12, if_pos h16, show j % 4 = j - 12 by omega]
              · rw [show n + j = n + 4 + 4 + 4 + 4 + (j - 16) by omega, jp4_in _ _ _ (by omega), if_neg h4, if_neg h8, if_neg h12, if_neg h16, show j % 4 = j - 16 by omega]
      · obtain ⟨g1, g2, g3⟩ := hby i hi
        dsimp only
        rw [if_neg hin, if_neg hin2, h3 i (Or.inr (by omega))]
        rw [jp4_out _ _ _ (Or.inr (by omega)), jp4_out _ _ _ (Or.inr (by omega)), jp4_out _ _ _ (Or.inr (by omega)), jp4_out _ _ _ (Or.inr (by omega)), jp4_out _ _ _ (Or.inr (by omega))]
        exact ⟨g1, g2, g3⟩
  · simp (disch := omega) only [jb1, jb2, jb3, jb4, jb5, jb6, jb7, jb8, jb9, jb10, jb11, jb12, jb13, jb14, jb15, jb16, jb17, jb18, jb19, jb20, jb21, jb22, jb23, jb24, jb25, jb26, jb27, jb28, jb29, jb30, jb31, jb32, jb33, jb34, jb35, jb36, jb37, jb38, jb39, jb40, jb41, jb42, jb43, jb44, jb45, jb46, jb47, jb48, jb49, jb50, zlet, jlit, jle_t, jle_f, jlt_t, jlt_f, jeq_t, jeq_f, jeqN_f, jNeq_f, jNN, jN1, jadd, jsub, jzin, jcl, if_true, if_false, ite_true, ite_false, not_true, not_false_iff, not_true_eq_false, not_false_eq_true, jB_t, jB_f, jB0_t, jB0_f, jBa, jand11, jand00, ↓reduceIte, Nat.reduceEqDiff, Nat.reduceAdd, Nat.reduceSub]
    exact ⟨_, _, _, _, _, _, rfl, rfl, hTT⟩
end FD
