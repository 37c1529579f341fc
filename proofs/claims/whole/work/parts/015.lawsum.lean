section LS
variable {n : Nat} {by' : Nat → Nat} {tp_bytes m_fed : Nat → Int32} {N9 : Nat}
theorem jdead_one (N9 : Nat) (sm : jMf) : jDead (pM_oneo N9 sm) := by
  intro sz at' f fa op fed mn lw hf
  unfold pM_oneo
  rw [if_neg (show ¬ f = 0 from hf)]
theorem jprod_loop (hN : 70000 < N9) (ht : jTx n by' tp_bytes m_fed) (hn : n ≤ 150) {r : Nat} {ux : jXf} {um : jMf} (hs : jLock n tp_bytes m_fed r ux um) {a m d : Nat} (ha : a ≤ n) (hma : m ≤ a) :
    ∀ u a1 m1 i f f9 (kk vv : Nat → Nat) (wp np : Int32) (kd vl : Nat → Int32) (ln mn : Int32) (lw : Nat → Nat → Int32), n - a1 ≤ u → u < f → u < f9 → a < a1 → a1 ≤ n → m ≤ m1 → m1 + a ≤ m + a1 → i < a1 → jCd m1 kk vv kd vl ln mn lw → jdp kk m1 = d + 1 →
    jev (jLPost n a r m d) (pX2_readProducto_13 N9 ux tp_bytes (nI n) ((nI (6 - r))) f (nI a1) wp np (nI 0) (-nI 1) kd vl ln (nI i)) (pM_producto_4 N9 um (nI n) m_fed f9 (nI a1) (nI 0) (-nI 1) ((nI (6 - r))) mn lw) := by
  intro u
  have hf1 : nI 1 ≠ nI 0 := by decide
  induction u with
  | zero =>
    intro a1 m1 i f f9 kk vv wp np kd vl ln mn lw h0 h1 h2 h3 h4 h5 h6 h7 hc hd
    obtain ⟨f, rfl⟩ : ∃ z, f = z + 1 := ⟨f - 1, by omega⟩
    obtain ⟨f9, rfl⟩ : ∃ z, f9 = z + 1 := ⟨f9 - 1, by omega⟩
    have hk := jsk_rng (by' := by') h4
    have hkn : jsk n by' a1 = n := by omega
    have hby : jby n by' (jsk n by' a1) = -1 := by rw [hkn]; unfold jby; rw [if_neg (by omega)]; rfl
    have hsk := jsk_sk (by' := by') h4
    simp only [pX2_readProducto_13, pM_producto_4]
    rw [if_neg (show ¬ (150 : Int32) ≤ nI i from nI_ge (b := 150) (by omega) (by omega)), jsignX hN ht h4, jb2, hby, if_neg (show ¬ (-1 : Int32) = 42 by decide), if_neg (show ¬ (-1 : Int32) = 47 by decide), if_neg (show ¬ (-1 : Int32) = 37 by decide), if_pos jz00, jtakesM hN ht h4, hby, if_neg (show ¬ (-1 : Int32) = 42 by decide), jb2, if_pos jz00, jtakesM hN ht hk.2, hsk, hby, if_neg (show ¬ (-1 : Int32) = 47 by decide), jb2, if_pos jz00, jtakesM hN ht hk.2, hsk, hby, if_neg (show ¬ (-1 : Int32) = 37 by decide), jb2, if_pos jz00]
    unfold pM_producto_52
    rw [if_pos rfl, hkn]
    exact jev.mk (Or.inl ⟨n, m1, kk, vv, by omega, by omega, h5, by omega, rfl, rfl, rfl, rfl, rfl, rfl, rfl, rfl, hc, hd⟩)
  | succ u ih =>
    intro a1 m1 i f f9 kk vv wp np kd vl ln mn lw h0 h1 h2 h3 h4 h5 h6 h7 hc hd
    obtain ⟨f, rfl⟩ : ∃ z, f = z + 1 := ⟨f - 1, by omega⟩
    obtain ⟨f9, rfl⟩ : ∃ z, f9 = z + 1 := ⟨f9 - 1, by omega⟩
    have hk := jsk_rng (by' := by') h4
    have hsk := jsk_sk (by' := by') h4
    simp only [pX2_readProducto_13, pM_producto_4]
    rw [if_neg (show ¬ (150 : Int32) ≤ nI i from nI_ge (b := 150) (by omega) (by omega)), jsignX hN ht h4, jb2, if_pos jz00]
    by_cases h42 : jby n by' (jsk n by' a1) = 42
    · rw [if_pos h42, jtakesM hN ht h4, if_pos h42, jb2, if_neg jz10]
      have hlt := jby_lt (s := 42) h42 (by omega)
      obtain ⟨⟨r0, pl, wp1, np1, fk, fp, kd1, vl1, ln1⟩, ⟨at1, f1, fa1, op1, mn1, lw1⟩, e1, e2, hP⟩ := hs (jsk n by' a1 + 1) m1 kk vv wp np kd vl ln mn lw (by omega) (by omega) hc
      unfold pX2_readProducto_49 pM_producto_52
      rw [jtakeX hN ht hk.2, hsk, h42, if_pos rfl, jb4, if_neg jz10, e1, jb9, if_neg (show ¬ (4 : Int32) = -1 by decide), e2, jb6]
      rcases hP with ⟨a2, m2, kk2, vv2, p1, p2, p3, p4, rfl, rfl, rfl, rfl, rfl, rfl, rfl, rfl, hc1, hd1⟩ | ⟨q, ff, a2, m2, p1, p2, p3, p4, p5, rfl, rfl, rfl, rfl, rfl, rfl, rfl⟩
      · obtain ⟨kd3, vl3, lw3, kk3, vv3, g1, g2, g3, g4⟩ := jcode_add (N9 := N9) (k := 4) (v := 0) hc1 (by omega) (by omega) (by omega) (by omega) (by omega)
        rw [if_neg jz10, if_pos (show (42 : Int32) = 42 from rfl)]
        unfold pX2_readProducto_94
        rw [show pX2_add_i1 N9 kd1 vl1 ln1 4 0 = _ from g1, jb3, show pM_notes N9 (nI 0) mn1 lw1 4 0 = _ from g2, jb2, nI_1 i]
        exact ih a2 (m2 + 1) (i + 1) f f9 kk3 vv3 wp1 np1 kd3 vl3 _ _ lw3 (by omega) (by omega) (by omega) (by omega) p2 (by omega) (by omega) (by omega) g3 (by rw [g4, if_neg (by omega)]; omega)
      · have hfq : nI q ≠ nI 0 := jhfz q p1 p2
        obtain ⟨f9, rfl⟩ : ∃ z, f9 = z + 1 := ⟨f9 - 1, by omega⟩
        rw [if_pos jz00, jnotes_f hfq, jb2]
        unfold pX2_readProducto_67
        simp only [pM_producto_4]
        rw [if_neg (show ¬ nI q = 0 from hfq)]
        exact jev.mk (Or.inr ⟨q, ff, a2, m2, p1, p2, p3, p4, p5, rfl, rfl, rfl, rfl, rfl, rfl, rfl⟩)
    · rw [if_neg h42, jtakesM hN ht h4, if_neg h42, jb2, if_pos jz00]
      by_cases h47 : jby n by' (jsk n by' a1) = 47
      · rw [if_pos h47, jtakesM hN ht hk.2, hsk, if_pos h47, jb2, if_neg jz10]
        have hlt := jby_lt (s := 47) h47 (by omega)
        obtain ⟨⟨r0, pl, wp1, np1, fk, fp, kd1, vl1, ln1⟩, ⟨at1, f1, fa1, op1, mn1, lw1⟩, e1, e2, hP⟩ := hs (jsk n by' a1 + 1) m1 kk vv wp np kd vl ln mn lw (by omega) (by omega) hc
        unfold pX2_readProducto_49 pM_producto_52
        rw [jtakeX hN ht hk.2, hsk, h47, if_pos rfl, jb4, if_neg jz10, e1, jb9, if_neg (show ¬ (5 : Int32) = -1 by decide), e2, jb6]
        rcases hP with ⟨a2, m2, kk2, vv2, p1, p2, p3, p4, rfl, rfl, rfl, rfl, rfl, rfl, rfl, rfl, hc1, hd1⟩ | ⟨q, ff, a2, m2, p1, p2, p3, p4, p5, rfl, rfl, rfl, rfl, rfl, rfl, rfl⟩
        · obtain ⟨kd3, vl3, lw3, kk3, vv3, g1, g2, g3, g4⟩ := jcode_add (N9 := N9) (k := 5) (v := 0) hc1 (by omega) (by omega) (by omega) (by omega) (by omega)
          rw [if_neg jz10, if_neg (show ¬ (47 : Int32) = 42 by decide), if_pos (show (47 : Int32) = 47 from rfl)]
          unfold pX2_readProducto_94
          rw [show pX2_add_i1 N9 kd1 vl1 ln1 5 0 = _ from g1, jb3, show pM_notes N9 (nI 0) mn1 lw1 5 0 = _ from g2, jb2, nI_1 i]
          exact ih a2 (m2 + 1) (i + 1) f f9 kk3 vv3 wp1 np1 kd3 vl3 _ _ lw3 (by omega) (by omega) (by omega) (by omega) p2 (by omega) (by omega) (by omega) g3 (by rw [g4, if_neg (by omega)]; omega)
        · have hfq : nI q ≠ nI 0 := jhfz q p1 p2
          obtain ⟨f9, rfl⟩ : ∃ z, f9 = z + 1 := ⟨f9 - 1, by omega⟩
          rw [if_pos jz00, jnotes_f hfq, jb2]
          unfold pX2_readProducto_67
          simp only [pM_producto_4]
          rw [if_neg (show ¬ nI q = 0 from hfq)]
          exact jev.mk (Or.inr ⟨q, ff, a2, m2, p1, p2, p3, p4, p5, rfl, rfl, rfl, rfl, rfl, rfl, rfl⟩)
      · rw [if_neg h47, jtakesM hN ht hk.2, hsk, if_neg h47, jb2, if_pos jz00]
        by_cases h37 : jby n by' (jsk n by' a1) = 37
        · rw [if_pos h37, jtakesM hN ht hk.2, hsk, if_pos h37, jb2, if_neg jz10]
          have hlt := jby_lt (s := 37) h37 (by omega)
          obtain ⟨⟨r0, pl, wp1, np1, fk, fp, kd1, vl1, ln1⟩, ⟨at1, f1, fa1, op1, mn1, lw1⟩, e1, e2, hP⟩ := hs (jsk n by' a1 + 1) m1 kk vv wp np kd vl ln mn lw (by omega) (by omega) hc
          unfold pX2_readProducto_49 pM_producto_52
          rw [jtakeX hN ht hk.2, hsk, h37, if_pos rfl, jb4, if_neg jz10, e1, jb9, if_neg (show ¬ (6 : Int32) = -1 by decide), e2, jb6]
          rcases hP with ⟨a2, m2, kk2, vv2, p1, p2, p3, p4, rfl, rfl, rfl, rfl, rfl, rfl, rfl, rfl, hc1, hd1⟩ | ⟨q, ff, a2, m2, p1, p2, p3, p4, p5, rfl, rfl, rfl, rfl, rfl, rfl, rfl⟩
          · obtain ⟨kd3, vl3, lw3, kk3, vv3, g1, g2, g3, g4⟩ := jcode_add (N9 := N9) (k := 6) (v := 0) hc1 (by omega) (by omega) (by omega) (by omega) (by omega)
            rw [if_neg jz10, if_neg (show ¬ (37 : Int32) = 42 by decide), if_neg (show ¬ (37 : Int32) = 47 by decide)]
            unfold pX2_readProducto_94
            rw [show pX2_add_i1 N9 kd1 vl1 ln1 6 0 = _ from g1, jb3, show pM_notes N9 (nI 0) mn1 lw1 6 0 = _ from g2, jb2, nI_1 i]
            exact ih a2 (m2 + 1) (i + 1) f f9 kk3 vv3 wp1 np1 kd3 vl3 _ _ lw3 (by omega) (by omega) (by omega) (by omega) p2 (by omega) (by omega) (by omega) g3 (by rw [g4, if_neg (by omega)]; omega)
          · have hfq : nI q ≠ nI 0 := jhfz q p1 p2
            obtain ⟨f9, rfl⟩ : ∃ z, f9 = z + 1 := ⟨f9 - 1, by omega⟩
            rw [if_pos jz00, jnotes_f hfq, jb2]
            unfold pX2_readProducto_67
            simp only [pM_producto_4]
            rw [if_neg (show ¬ nI q = 0 from hfq)]
            exact jev.mk (Or.inr ⟨q, ff, a2, m2, p1, p2, p3, p4, p5, rfl, rfl, rfl, rfl, rfl, rfl, rfl⟩)
        · rw [if_neg h37, jtakesM hN ht hk.2, hsk, if_neg h37, jb2, if_pos jz00]
          unfold pM_producto_52
          rw [if_pos rfl]
          exact jev.mk (Or.inl ⟨jsk n by' a1, m1, kk, vv, by omega, hk.2, h5, by omega, rfl, rfl, rfl, rfl, rfl, rfl, rfl, rfl, hc, hd⟩)
theorem jprod_lock (hN : 70000 < N9) (ht : jTx n by' tp_bytes m_fed) (hn : n ≤ 150) {r : Nat} {ux : jXf} {um : jMf} (hs : jLock n tp_bytes m_fed r ux um) : jLock n tp_bytes m_fed r (pX2_readProducto N9 ux) (pM_producto N9 um) := by
  intro a m kk vv wp np kd vl ln mn lw ha hma hc
  obtain ⟨⟨r0, pl, wp1, np1, fk, fp, kd1, vl1, ln1⟩, ⟨at1, f1, fa1, op1, mn1, lw1⟩, e1, e2, hP⟩ := hs a m kk vv wp np kd vl ln mn lw ha hma hc
  unfold pX2_readProducto pM_producto
  rw [e1, e2, jb9, jb6]
  rcases hP with ⟨a2, m2, kk2, vv2, p1, p2, p3, p4, rfl, rfl, rfl, rfl, rfl, rfl, rfl, rfl, hc1, hd1⟩ | ⟨q, ff, a2, m2, p1, p2, p3, p4, p5, rfl, rfl, rfl, rfl, rfl, rfl, rfl⟩
  · rw [if_neg jz10]
    exact jprod_loop hN ht hn hs ha hma (n - a2) a2 m2 0 N9 N9 kk2 vv2 wp1 np1 kd1 vl1 _ _ lw1 (Nat.le_refl _) (by omega) (by omega) p1 p2 p3 p4 (by omega) hc1 hd1
  · have hfq : nI q ≠ nI 0 := jhfz q p1 p2
    obtain ⟨f9, rfl⟩ : ∃ z, N9 = z + 1 := ⟨N9 - 1, by omega⟩
    rw [if_pos jz00]
    simp only [pM_producto_4]
    rw [if_neg (show ¬ nI q = 0 from hfq)]
    exact jev.mk (Or.inr ⟨q, ff, a2, m2, p1, p2, p3, p4, p5, rfl, rfl, rfl, rfl, rfl, rfl, rfl⟩)
theorem jdead_prod {N9 : Nat} (hN : 70000 < N9) {um : jMf} (hd : jDead um) : jDead (pM_producto N9 um) := by
  intro sz at' f fa op fed mn lw hf
  obtain ⟨f9, rfl⟩ : ∃ z, N9 = z + 1 := ⟨N9 - 1, by omega⟩
  unfold pM_producto
  rw [hd sz at' f fa op fed mn lw hf, jb6]
  simp only [pM_producto_4]
  rw [if_neg (show ¬ f = 0 from hf)]
theorem jsum_loop (hN : 70000 < N9) (ht : jTx n by' tp_bytes m_fed) (hn : n ≤ 150) {r : Nat} {ux : jXf} {um : jMf} (hs : jLock n tp_bytes m_fed r ux um) {a m d : Nat} (ha : a ≤ n) (hma : m ≤ a) :
    ∀ u a1 m1 i f f9 (kk vv : Nat → Nat) (wp np : Int32) (kd vl : Nat → Int32) (ln mn : Int32) (lw : Nat → Nat → Int32), n - a1 ≤ u → u < f → u < f9 → a < a1 → a1 ≤ n → m ≤ m1 → m1 + a ≤ m + a1 → i < a1 → jCd m1 kk vv kd vl ln mn lw → jdp kk m1 = d + 1 →
    jev (jLPost n a r m d) (pX2_readSumo_13 N9 ux tp_bytes (nI n) ((nI (6 - r))) f (nI a1) wp np (nI 0) (-nI 1) kd vl ln (nI i)) (pM_sumo_4 N9 um (nI n) m_fed f9 (nI a1) (nI 0) (-nI 1) ((nI (6 - r))) mn lw) := by
  intro u
  have hf1 : nI 1 ≠ nI 0 := by decide
  induction u with
  | zero =>
    intro a1 m1 i f f9 kk vv wp np kd vl ln mn lw h0 h1 h2 h3 h4 h5 h6 h7 hc hd
    obtain ⟨f, rfl⟩ : ∃ z, f = z + 1 := ⟨f - 1, by omega⟩
    obtain ⟨f9, rfl⟩ : ∃ z, f9 = z + 1 := ⟨f9 - 1, by omega⟩
    have hk := jsk_rng (by' := by') h4
    have hkn : jsk n by' a1 = n := by omega
    have hby : jby n by' (jsk n by' a1) = -1 := by rw [hkn]; unfold jby; rw [if_neg (by omega)]; rfl
    have hsk := jsk_sk (by' := by') h4
    simp only [pX2_readSumo_13, pM_sumo_4]
    rw [if_neg (show ¬ (150 : Int32) ≤ nI i from nI_ge (b := 150) (by omega) (by omega)), jsignX hN ht h4, jb2, hby, if_neg (show ¬ (-1 : Int32) = 43 by decide), if_neg (show ¬ (-1 : Int32) = 45 by decide), if_pos jz00, jtakesM hN ht h4, hby, if_neg (show ¬ (-1 : Int32) = 43 by decide), jb2, if_pos jz00, jtakesM hN ht hk.2, hsk, hby, if_neg (show ¬ (-1 : Int32) = 45 by decide), jb2, if_pos jz00]
    unfold pM_sumo_38
    rw [if_pos rfl, hkn]
    exact jev.mk (Or.inl ⟨n, m1, kk, vv, by omega, by omega, h5, by omega, rfl, rfl, rfl, rfl, rfl, rfl, rfl, rfl, hc, hd⟩)
  | succ u ih =>
    intro a1 m1 i f f9 kk vv wp np kd vl ln mn lw h0 h1 h2 h3 h4 h5 h6 h7 hc hd
    obtain ⟨f, rfl⟩ : ∃ z, f = z + 1 := ⟨f - 1, by omega⟩
    obtain ⟨f9, rfl⟩ : ∃ z, f9 = z + 1 := ⟨f9 - 1, by omega⟩
    have hk := jsk_rng (by' := by') h4
    have hsk := jsk_sk (by' := by') h4
    simp only [pX2_readSumo_13, pM_sumo_4]
    rw [if_neg (show ¬ (150 : Int32) ≤ nI i from nI_ge (b := 150) (by omega) (by omega)), jsignX hN ht h4, jb2, if_pos jz00]
    by_cases h43 : jby n by' (jsk n by' a1) = 43
    · rw [if_pos h43, jtakesM hN ht h4, if_pos h43, jb2, if_neg jz10]
      have hlt := jby_lt (s := 43) h43 (by omega)
      obtain ⟨⟨r0, pl, wp1, np1, fk, fp, kd1, vl1, ln1⟩, ⟨at1, f1, fa1, op1, mn1, lw1⟩, e1, e2, hP⟩ := hs (jsk n by' a1 + 1) m1 kk vv wp np kd vl ln mn lw (by omega) (by omega) hc
      unfold pX2_readSumo_42 pM_sumo_38
      rw [jtakeX hN ht hk.2, hsk, h43, if_pos rfl, jb4, if_neg jz10, e1, jb9, if_neg (show ¬ (2 : Int32) = -1 by decide), e2, jb6]
      rcases hP with ⟨a2, m2, kk2, vv2, p1, p2, p3, p4, rfl, rfl, rfl, rfl, rfl, rfl, rfl, rfl, hc1, hd1⟩ | ⟨q, ff, a2, m2, p1, p2, p3, p4, p5, rfl, rfl, rfl, rfl, rfl, rfl, rfl⟩
      · obtain ⟨kd3, vl3, lw3, kk3, vv3, g1, g2, g3, g4⟩ := jcode_add (N9 := N9) (k := 2) (v := 0) hc1 (by omega) (by omega) (by omega) (by omega) (by omega)
        rw [if_neg jz10, if_pos (show (43 : Int32) = 43 from rfl)]
        unfold pX2_readSumo_75
        rw [show pX2_add_i1 N9 kd1 vl1 ln1 2 0 = _ from g1, jb3, show pM_notes N9 (nI 0) mn1 lw1 2 0 = _ from g2, jb2, nI_1 i]
        exact ih a2 (m2 + 1) (i + 1) f f9 kk3 vv3 wp1 np1 kd3 vl3 _ _ lw3 (by omega) (by omega) (by omega) (by omega) p2 (by omega) (by omega) (by omega) g3 (by rw [g4, if_neg (by omega)]; omega)
      · have hfq : nI q ≠ nI 0 := jhfz q p1 p2
        obtain ⟨f9, rfl⟩ : ∃ z, f9 = z + 1 := ⟨f9 - 1, by omega⟩
        rw [if_pos jz00, jnotes_f hfq, jb2]
        unfold pX2_readSumo_60
        simp only [pM_sumo_4]
        rw [if_neg (show ¬ nI q = 0 from hfq)]
        exact jev.mk (Or.inr ⟨q, ff, a2, m2, p1, p2, p3, p4, p5, rfl, rfl, rfl, rfl, rfl, rfl, rfl⟩)
    · rw [if_neg h43, jtakesM hN ht h4, if_neg h43, jb2, if_pos jz00]
      by_cases h45 : jby n by' (jsk n by' a1) = 45
      · rw [if_pos h45, jtakesM hN ht hk.2, hsk, if_pos h45, jb2, if_neg jz10]
        have hlt := jby_lt (s := 45) h45 (by omega)
        obtain ⟨⟨r0, pl, wp1, np1, fk, fp, kd1, vl1, ln1⟩, ⟨at1, f1, fa1, op1, mn1, lw1⟩, e1, e2, hP⟩ := hs (jsk n by' a1 + 1) m1 kk vv wp np kd vl ln mn lw (by omega) (by omega) hc
        unfold pX2_readSumo_42 pM_sumo_38
        rw [jtakeX hN ht hk.2, hsk, h45, if_pos rfl, jb4, if_neg jz10, e1, jb9, if_neg (show ¬ (3 : Int32) = -1 by decide), e2, jb6]
        rcases hP with ⟨a2, m2, kk2, vv2, p1, p2, p3, p4, rfl, rfl, rfl, rfl, rfl, rfl, rfl, rfl, hc1, hd1⟩ | ⟨q, ff, a2, m2, p1, p2, p3, p4, p5, rfl, rfl, rfl, rfl, rfl, rfl, rfl⟩
        · obtain ⟨kd3, vl3, lw3, kk3, vv3, g1, g2, g3, g4⟩ := jcode_add (N9 := N9) (k := 3) (v := 0) hc1 (by omega) (by omega) (by omega) (by omega) (by omega)
          rw [if_neg jz10, if_neg (show ¬ (45 : Int32) = 43 by decide)]
          unfold pX2_readSumo_75
          rw [show pX2_add_i1 N9 kd1 vl1 ln1 3 0 = _ from g1, jb3, show pM_notes N9 (nI 0) mn1 lw1 3 0 = _ from g2, jb2, nI_1 i]
          exact ih a2 (m2 + 1) (i + 1) f f9 kk3 vv3 wp1 np1 kd3 vl3 _ _ lw3 (by omega) (by omega) (by omega) (by omega) p2 (by omega) (by omega) (by omega) g3 (by rw [g4, if_neg (by omega)]; omega)
        · have hfq : nI q ≠ nI 0 := jhfz q p1 p2
          obtain ⟨f9, rfl⟩ : ∃ z, f9 = z + 1 := ⟨f9 - 1, by omega⟩
          rw [if_pos jz00, jnotes_f hfq, jb2]
          unfold pX2_readSumo_60
          simp only [pM_sumo_4]
          rw [if_neg (show ¬ nI q = 0 from hfq)]
          exact jev.mk (Or.inr ⟨q, ff, a2, m2, p1, p2, p3, p4, p5, rfl, rfl, rfl, rfl, rfl, rfl, rfl⟩)
      · rw [if_neg h45, jtakesM hN ht hk.2, hsk, if_neg h45, jb2, if_pos jz00]
        unfold pM_sumo_38
        rw [if_pos rfl]
        exact jev.mk (Or.inl ⟨jsk n by' a1, m1, kk, vv, by omega, hk.2, h5, by omega, rfl, rfl, rfl, rfl, rfl, rfl, rfl, rfl, hc, hd⟩)
theorem jsum_lock (hN : 70000 < N9) (ht : jTx n by' tp_bytes m_fed) (hn : n ≤ 150) {r : Nat} {ux : jXf} {um : jMf} (hs : jLock n tp_bytes m_fed r ux um) : jLock n tp_bytes m_fed r (pX2_readSumo N9 ux) (pM_sumo N9 um) := by
  intro a m kk vv wp np kd vl ln mn lw ha hma hc
  obtain ⟨⟨r0, pl, wp1, np1, fk, fp, kd1, vl1, ln1⟩, ⟨at1, f1, fa1, op1, mn1, lw1⟩, e1, e2, hP⟩ := hs a m kk vv wp np kd vl ln mn lw ha hma hc
  unfold pX2_readSumo pM_sumo
  rw [e1, e2, jb9, jb6]
  rcases hP with ⟨a2, m2, kk2, vv2, p1, p2, p3, p4, rfl, rfl, rfl, rfl, rfl, rfl, rfl, rfl, hc1, hd1⟩ | ⟨q, ff, a2, m2, p1, p2, p3, p4, p5, rfl, rfl, rfl, rfl, rfl, rfl, rfl⟩
  · rw [if_neg jz10]
    exact jsum_loop hN ht hn hs ha hma (n - a2) a2 m2 0 N9 N9 kk2 vv2 wp1 np1 kd1 vl1 _ _ lw1 (Nat.le_refl _) (by omega) (by omega) p1 p2 p3 p4 (by omega) hc1 hd1
  · have hfq : nI q ≠ nI 0 := jhfz q p1 p2
    obtain ⟨f9, rfl⟩ : ∃ z, N9 = z + 1 := ⟨N9 - 1, by omega⟩
    rw [if_pos jz00]
    simp only [pM_sumo_4]
    rw [if_neg (show ¬ nI q = 0 from hfq)]
    exact jev.mk (Or.inr ⟨q, ff, a2, m2, p1, p2, p3, p4, p5, rfl, rfl, rfl, rfl, rfl, rfl, rfl⟩)
theorem jdead_sum {N9 : Nat} (hN : 70000 < N9) {um : jMf} (hd : jDead um) : jDead (pM_sumo N9 um) := by
  intro sz at' f fa op fed mn lw hf
  obtain ⟨f9, rfl⟩ : ∃ z, N9 = z + 1 := ⟨N9 - 1, by omega⟩
  unfold pM_sumo
  rw [hd sz at' f fa op fed mn lw hf, jb6]
  simp only [pM_sumo_4]
  rw [if_neg (show ¬ f = 0 from hf)]
/-- the reading of a sum, r levels of brackets left -/
theorem jsum_all (hN : 70000 < N9) (ht : jTx n by' tp_bytes m_fed) (hn : n ≤ 150) : ∀ r, r ≤ 6 → ∀ d e, jLock n tp_bytes m_fed r (gpX2_readPair N9 (4 * r + 4 + d)).2.2.2.2 (gpM_one N9 (3 * r + 3 + e)).2.2 ∧ jDead (gpM_one N9 (3 * r + 3 + e)).2.2 := by
  intro r
  induction r with
  | zero =>
    intro hr d e
    have h3 : jLock n tp_bytes m_fed 0 (pX2_readUnito N9 (pX2_readPairo N9 (gpX2_readPair N9 d).2.2.2.2) (pX2_readGroupo N9 (gpX2_readPair N9 d).2.2.2.2)) (pM_oneo N9 (gpM_one N9 e).2.2) := jone_lock hN ht hn hr (fun h => absurd h (by omega)) (fun h => absurd h (by omega))
    have h4 := jprod_lock hN ht hn h3
    have h5 := jsum_lock hN ht hn h4
    have ex : 4 * 0 + 4 + d = d + 1 + 1 + 1 + 1 := by omega
    have em : 3 * 0 + 3 + e = e + 1 + 1 + 1 := by omega
    rw [ex, em]
    exact ⟨h5, jdead_sum hN (jdead_prod hN (jdead_one N9 _))⟩
  | succ r ih =>
    intro hr d e
    obtain ⟨h1, h2⟩ := ih (by omega) d e
    have h3 := jone_lock hN ht hn hr (fun _ => h1) (fun _ => h2)
    have h4 := jprod_lock hN ht hn h3
    have h5 := jsum_lock hN ht hn h4
    refine ⟨?_, ?_⟩
    · have ex : 4 * (r + 1) + 4 + d = 4 * r + 4 + d + 1 + 1 + 1 + 1 := by omega
      have em : 3 * (r + 1) + 3 + e = 3 * r + 3 + e + 1 + 1 + 1 := by omega
      rw [ex, em]
      exact h5
    · have em : 3 * (r + 1) + 3 + e = 3 * r + 3 + e + 1 + 1 + 1 := by omega
      rw [em]
      exact jdead_sum hN (jdead_prod hN (jdead_one N9 _))
end LS
