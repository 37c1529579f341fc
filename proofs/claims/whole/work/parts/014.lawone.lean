theorem jbT {A : Type} {b : Bool} {u v : Int32} {x y : Int32 → Option A} : zb2 (some (if b = true then (nI 1, u) else (nI 0, v))) (fun r t => if r = 0 then x t else y t) = if b = true then y u else x v := by
  cases b <;> rfl
section LO
variable {n : Nat} {by' : Nat → Nat} {tp_bytes m_fed : Nat → Int32} {N9 : Nat}
theorem jtakesW (hN : 70000 < N9) (ht : jTx n by' tp_bytes m_fed) {a w : Nat} (ha : a ≤ n) (hw : w ≤ 20) (hw1 : 1 ≤ w) {x1 x2 x3 x4 x5 x6 : Int32} (h6 : pM_six N9 x1 x2 x3 x4 x5 x6 = some (nI (jpk (fun i => (jw w).getD i 0) (jw w).length))) :
    pM_takes N9 (nI n) (nI a) (nI 0) m_fed x1 x2 x3 x4 x5 x6 = some (if jisw by' (jsk n by' a) (jle n by' (jsk n by' a) - jsk n by' a) w = true then (nI 1, nI (jle n by' (jsk n by' a))) else (nI 0, nI (jsk n by' a))) := by
  have hk := jsk_rng (by' := by') ha
  unfold pM_takes pM_takes_24
  rw [jisM hN ht ha hw hw1 h6, jb2]
  cases jisw by' (jsk n by' a) (jle n by' (jsk n by' a) - jsk n by' a) w
  · rfl
  · rw [jskipM hN ht hk.2]
    rfl
theorem jknownM (hN : 70000 < N9) (ht : jTx n by' tp_bytes m_fed) {a : Nat} (ha : a ≤ n) (hsk : jsk n by' a = a) : pM_knownHere N9 (nI n) (nI a) (nI 0) m_fed = some (jfact by' a (jle n by' a - a), if jfact by' a (jle n by' a - a) = -nI 1 then nI a else nI (jle n by' a)) := by
  have h := fun w h1 h2 x1 x2 x3 x4 x5 x6 h6 => jtakesW (N9 := N9) (w := w) hN ht ha h1 h2 (x1 := x1) (x2 := x2) (x3 := x3) (x4 := x4) (x5 := x5) (x6 := x6) h6
  simp only [hsk] at h
  unfold pM_knownHere pM_knownHere_149 jfact
  simp only [h 7 (by omega) (by omega) 20 15 12 12 0 0 rfl, h 8 (by omega) (by omega) 1 16 1 18 20 0 rfl, h 9 (by omega) (by omega) 13 1 18 11 19 0 rfl, h 10 (by omega) (by omega) 1 7 5 0 0 0 rfl, h 11 (by omega) (by omega) 7 15 14 5 0 0 rfl, h 12 (by omega) (by omega) 16 1 19 19 5 4 rfl, h 13 (by omega) (by omega) 14 21 13 2 5 18 rfl, h 2 (by omega) (by omega) 7 1 20 5 0 0 rfl, jbT]
  repeat' split
  all_goals first | rfl | (rename_i hx; exact absurd hx (by decide)) | skip
theorem jadd_any (N9 : Nat) (kd vl : Nat → Int32) {m : Nat} (hm : m ≤ 150) (x y : Int32) : ∃ kd' vl' m', m' ≤ 150 ∧ pX2_add_i1 N9 kd vl (nI m) x y = some (kd', vl', nI m') := by
  unfold pX2_add_i1 pX2_add_i1_40
  by_cases h : m < 150
  · simp (disch := omega) only [jb1, jb2, jb3, jb4, jb5, jb6, jb7, jb8, jb9, jb10, jb11, jb12, jb13, jb14, jb15, jb16, jb17, jb18, jb19, jb20, jb21, jb22, jb23, jb24, jb25, jb26, jb27, jb28, jb29, jb30, jb31, jb32, jb33, jb34, jb35, jb36, jb37, jb38, jb39, jb40, jb41, jb42, jb43, jb44, jb45, jb46, jb47, jb48, jb49, jb50, zlet, jlit, jle_t, jle_f, jlt_t, jlt_f, jeq_t, jeq_f, jeqN_f, jNeq_f, jNN, jN1, jadd, jsub, jzin, jcl, if_true, if_false, ite_true, ite_false, not_true, not_false_iff, not_true_eq_false, not_false_eq_true, jB_t, jB_f, jB0_t, jB0_f, jBa, jand11, jand00, ↓reduceIte, Nat.reduceEqDiff, Nat.reduceAdd, Nat.reduceSub]
    exact ⟨_, _, m + 1, by omega, rfl⟩
  · simp (disch := omega) only [jb1, jb2, jb3, jb4, jb5, jb6, jb7, jb8, jb9, jb10, jb11, jb12, jb13, jb14, jb15, jb16, jb17, jb18, jb19, jb20, jb21, jb22, jb23, jb24, jb25, jb26, jb27, jb28, jb29, jb30, jb31, jb32, jb33, jb34, jb35, jb36, jb37, jb38, jb39, jb40, jb41, jb42, jb43, jb44, jb45, jb46, jb47, jb48, jb49, jb50, zlet, jlit, jle_t, jle_f, jlt_t, jlt_f, jeq_t, jeq_f, jeqN_f, jNeq_f, jNN, jN1, jadd, jsub, jzin, jcl, if_true, if_false, ite_true, ite_false, not_true, not_false_iff, not_true_eq_false, not_false_eq_true, jB_t, jB_f, jB0_t, jB0_f, jBa, jand11, jand00, ↓reduceIte, Nat.reduceEqDiff, Nat.reduceAdd, Nat.reduceSub]
    exact ⟨_, _, m, hm, rfl⟩
theorem jisw0 (by' : Nat → Nat) (k : Nat) {w : Nat} (hw : w ≤ 20) (hw1 : 1 ≤ w) : jisw by' k 0 w = false := by
  have h : ∀ w, w ≤ 20 → 1 ≤ w → (jw w).length ≠ 0 := by decide +kernel
  unfold jisw
  rw [decide_eq_false (fun q => h w hw hw1 q.symm), Bool.false_and]
theorem jfact0 (by' : Nat → Nat) (k : Nat) : jfact by' k 0 = -nI 1 := by
  unfold jfact
  simp only [jisw0 by' k (w := 7) (by omega) (by omega), jisw0 by' k (w := 8) (by omega) (by omega), jisw0 by' k (w := 9) (by omega) (by omega), jisw0 by' k (w := 10) (by omega) (by omega), jisw0 by' k (w := 11) (by omega) (by omega), jisw0 by' k (w := 12) (by omega) (by omega), jisw0 by' k (w := 13) (by omega) (by omega), jisw0 by' k (w := 2) (by omega) (by omega)]
  rfl
theorem jhfz (q : Nat) (h1 : 1 ≤ q) (h2 : q ≤ 3) : nI q ≠ nI 0 := fun h => by
  have := (nI_eq (by omega) (by omega)).mp h
  omega
theorem jz10 : ¬ nI 1 = 0 := by decide
theorem jz00 : nI 0 = 0 := rfl
theorem jz66 : ¬ nI (6 - 0) < 6 := by decide
theorem ja0 : (0 : Int32) &&& 1 = 0 := by decide
theorem ja1 : (1 : Int32) &&& 1 = 1 := by decide
theorem jone_lock (hN : 70000 < N9) (ht : jTx n by' tp_bytes m_fed) (hn : n ≤ 150) {r : Nat} (hr6 : r ≤ 6) {sx : jXf} {sm : jMf} (hs : 1 ≤ r → jLock n tp_bytes m_fed (r - 1) sx sm) (hd : 1 ≤ r → jDead sm) : jLock n tp_bytes m_fed r (pX2_readUnito N9 (pX2_readPairo N9 sx) (pX2_readGroupo N9 sx)) (pM_oneo N9 sm) := by
  intro a m kk vv wp np kd vl ln mn lw ha hma hc
  have hk := jsk_rng (by' := by') ha
  have hsk := jsk_sk (by' := by') ha
  have h61 : 1 ≤ r → 6 - (r - 1) = 6 - r + 1 := fun h => by omega
  have hf1 : nI 1 ≠ nI 0 := by decide
  have hfz := jhfz
  have hdd : 1 ≤ r → ∀ {f : Int32}, f ≠ nI 0 → ∀ (sz at' fa op : Int32) (fed : Nat → Int32) (mn : Int32) (lw : Nat → Nat → Int32), sm sz at' f fa op fed mn lw = some (at', f, fa, op, mn, lw) := fun h1 _ hf sz at' fa op fed mn lw => hd h1 sz at' _ fa op fed mn lw hf
  obtain ⟨hl, hmn, -⟩ := id hc
  unfold pX2_readUnito pM_oneo
  rw [jsignX hN ht ha, jblankM hN ht ha]
  generalize jsk n by' a = k at hk hsk
  have w5 := jisM (N9 := N9) (w := 5) hN ht hk.2 (by omega) (by omega) (x1 := 12) (x2 := 5) (x3 := 1) (x4 := 19) (x5 := 20) (x6 := 0) rfl
  have w6 := jisM (N9 := N9) (w := 6) hN ht hk.2 (by omega) (by omega) (x1 := 13) (x2 := 15) (x3 := 19) (x4 := 20) (x5 := 0) (x6 := 0) rfl
  rw [hsk] at w5 w6
  have he := jle_rng (by' := by') hk.2
  rw [if_pos jz00, jb2, jb1, w5, jb2, w6]
  by_cases h40 : jby n by' k = 40
  · -- a bracket
    have hkn := jby_lt (s := 40) h40 (by omega)
    have hb40 : by' k = 40 := by
      unfold jby at h40
      rw [if_pos hkn] at h40
      have := (ht.2 k hkn).1
      exact (nI_eq (b := 40) (by omega) (by omega)).mp h40
    have hle0 : jle n by' k - k = 0 := by
      have : jle n by' k = k := jwh_fix _ (Or.inr (by rw [hb40]; decide))
      omega
    rw [hle0, jisw0 by' k (by omega) (by omega), jisw0 by' k (by omega) (by omega), if_pos (show jB false = 0 from rfl), jb2, if_pos (show jB false = 0 from rfl), if_pos h40]
    unfold pM_oneo_56
    rw [if_pos rfl, jbyteAt ht hk.2, jb1, if_pos h40]
    by_cases hr0 : r = 0
    · subst hr0
      unfold pX2_readGroupo
      rw [if_neg jz66]
      unfold pX8_refuse
      rw [jb3, if_pos ja0, jb9, if_pos ja0, jopens_full, jb4, if_pos jz00]
      exact jev.mk (Or.inr ⟨3, k, k, m, by omega, by omega, hk.2, hk.2, by omega, hl, rfl, rfl, rfl, rfl, rfl, rfl⟩)
    · have hr1 : 1 ≤ r := by omega
      obtain ⟨⟨r0, pl, wp1, np1, fk, fp, kd1, vl1, ln1⟩, ⟨at1, f1, fa1, op1, mn1, lw1⟩, e1, e2, hP⟩ := hs hr1 (k + 1) m kk vv wp np kd vl ln mn lw (by omega) (by omega) hc
      rw [h61 hr1] at e1 e2
      unfold pX2_readGroupo
      rw [if_pos (show nI (6 - r) < 6 from nI_lt (b := 6) (by omega) (by omega)), jopens_ok hr1 hr6, jb4, if_neg jz10, jtakeX hN ht hk.2, hsk, if_pos h40, jb4, if_neg jz10, nI_1 (6 - r), nI_1 k, e1, e2, jb9, jb6]
      rcases hP with ⟨a1, m1, kk1, vv1, p1, p2, p3, p4, rfl, rfl, rfl, rfl, rfl, rfl, rfl, rfl, hc1, hd1⟩ | ⟨q, f, a1, m2, p1, p2, p3, p4, p5, rfl, rfl, rfl, rfl, rfl, rfl, rfl⟩
      · have hj1 := jsk_rng (by' := by') p2
        rw [h61 hr1, if_neg jz10, jtakeX hN ht p2, jsignM hN ht p2]
        by_cases h41 : jby n by' (jsk n by' a1) = 41
        · have hlt3 := jby_lt (s := 41) h41 (by omega)
          rw [if_pos h41, if_pos h41, jb4, jb3, if_neg jz10, nI_pred]
          unfold pX2_readGroupo_50
          rw [if_pos ja1, jb9, if_pos ja1]
          exact jev.mk (Or.inl ⟨jsk n by' a1 + 1, m1, kk1, vv1, by omega, by omega, by omega, by omega, rfl, rfl, rfl, rfl, rfl, rfl, rfl, rfl, hc1, hd1⟩)
        · obtain ⟨hl1, -⟩ := hc1
          rw [if_neg h41, if_neg h41, jb4, jb3, if_pos jz00]
          unfold pX2_readGroupo_49 pX2_readGroupo_50
          rw [if_pos ja0, jb9, if_pos ja0]
          exact jev.mk (Or.inr ⟨1, jsk n by' a1, jsk n by' a1, m1, by omega, by omega, hj1.2, hj1.2, by omega, hl1, rfl, rfl, rfl, rfl, rfl, rfl⟩)
      · have hfq : nI q ≠ nI 0 := hfz q p1 p2
        rw [if_pos jz00, jsignMf hfq, jb3]
        unfold pX2_readGroupo_49 pX2_readGroupo_50
        rw [if_pos ja0, jb9, if_pos ja0]
        exact jev.mk (Or.inr ⟨q, f, a1, m2, p1, p2, p3, p4, p5, rfl, rfl, rfl, rfl, rfl, rfl, rfl⟩)
  · rw [if_neg h40, jletX, jsmallB (fun i hi => (ht.2 i hi).1)]
    cases hlet : (decide (k < n) && jletter (by' k)) with
    | false =>
      -- a number
      have hle0 : jle n by' k - k = 0 := by
        have : jle n by' k = k := by
          refine jwh_fix _ ?_
          by_cases h : k < n
          · right
            rw [decide_eq_true h, Bool.true_and] at hlet
            exact hlet
          · left; omega
        omega
      have hkn := jknownM hN ht hk.2 hsk
      rw [hle0, jfact0, if_pos rfl] at hkn
      have hnx := jnumX hN ht hk.2 np (nI 0) (-nI 1) 999
      have hnm := jnumM hN ht hk.2 (-nI 1) 999
      rw [hsk] at hnx hnm
      have hdi := jdi_rng (by' := by') hk.2
      have hv := jval_le by' k (jdi n by' k - k)
      rw [hle0, jisw0 by' k (by omega) (by omega), jisw0 by' k (by omega) (by omega), if_pos (show jB false = 0 from rfl), jb2, if_pos (show jB false = 0 from rfl), jb1, if_pos (show jB false = 0 from rfl)]
      unfold pM_oneo_56
      rw [if_pos rfl, jbyteAt ht hk.2, jb1, if_neg h40, hkn, jb2, if_pos (show -nI 1 = -1 from rfl), hnx, show pM_number N9 (nI n) (nI k) (nI 0) (-nI 1) m_fed 0 999 = _ from hnm]
      by_cases hd0 : jdi n by' k = k
      · obtain ⟨kd3, vl3, m3, g1, g2⟩ := jadd_any N9 kd vl (m := m) (by omega) 0 (-nI 1)
        rw [← hl] at g2
        rw [if_pos hd0, if_pos hd0, jb5, jb4, g2, jb3, if_pos (show -nI 1 = -1 from rfl), jnotes_f hf1, jb2]
        unfold pX2_readUnito_52 pM_oneo_201
        rw [if_pos ja0]
        exact jev.mk (Or.inr ⟨1, k, k, m3, by omega, by omega, hk.2, hk.2, g1, rfl, rfl, rfl, rfl, rfl, rfl, rfl⟩)
      · by_cases h999 : jval by' k (jdi n by' k - k) ≤ 999
        · obtain ⟨kd3, vl3, lw3, kk3, vv3, g1, g2, g3, g4⟩ := jcode_add (N9 := N9) (k := 0) (v := jval by' k (jdi n by' k - k)) hc (by omega) (by omega) h999 (by omega) (by omega)
          have hle9 : nI (jval by' k (jdi n by' k - k)) ≤ 999 := nI_le (b := 999) h999 (by omega)
          rw [if_neg hd0, if_neg hd0, if_pos hle9, if_pos hle9, jb5, jb4, show pX2_add_i1 N9 kd vl ln 0 _ = _ from g1, jb3, if_neg (show ¬ nI (jval by' k (jdi n by' k - k)) = -1 by rw [jN1, jeqN_f (by omega)]; exact id), show pM_notes N9 (nI 0) mn lw 0 _ = _ from g2, jb2]
          unfold pX2_readUnito_52 pM_oneo_201
          rw [if_pos ja1]
          exact jev.mk (Or.inl ⟨jdi n by' k, m + 1, kk3, vv3, by omega, by omega, by omega, by omega, rfl, rfl, rfl, rfl, rfl, rfl, rfl, rfl, g3, by rw [g4, if_pos (by omega)]⟩)
        · obtain ⟨kd3, vl3, m3, g1, g2⟩ := jadd_any N9 kd vl (m := m) (by omega) 0 (-nI 1)
          rw [← hl] at g2
          have hf2 : nI 2 ≠ nI 0 := by decide
          have hle9 : ¬ nI (jval by' k (jdi n by' k - k)) ≤ 999 := nI_ge (a := 999) (by omega) (by omega)
          rw [if_neg hd0, if_neg hd0, if_neg hle9, if_neg hle9, jb5, jb4, g2, jb3, if_pos (show -nI 1 = -1 from rfl), jnotes_f hf2, jb2]
          unfold pX2_readUnito_52 pM_oneo_201
          rw [if_pos ja0]
          exact jev.mk (Or.inr ⟨2, k, jdi n by' k, m3, by omega, by omega, hk.2, hdi.2, g1, rfl, rfl, rfl, rfl, rfl, rfl, rfl⟩)
    | true =>
      -- a word
      have hkn2 : k < n := by
        by_cases h : k < n
        · exact h
        · rw [decide_eq_false h] at hlet; cases hlet
      have hlk : jletter (by' k) = true := by rw [decide_eq_true hkn2, Bool.true_and] at hlet; exact hlet
      have hgt : k < jle n by' k := by
        unfold jle
        obtain ⟨u, hu⟩ : ∃ u, n - k = u + 1 := ⟨n - k - 1, by omega⟩
        rw [hu, jwh, hlk, if_pos rfl]
        have := jwh_rng (fun k => jletter (by' k)) u (k + 1)
        omega
      have hwx := jwordX hN ht hk.2 wp
      rw [hsk] at hwx
      have hx5 := jisX (w := 5) hN ht he.1 he.2 (by omega) (by omega)
      have hx6 := jisX (w := 6) hN ht he.1 he.2 (by omega) (by omega)
      rw [jb1, if_neg (show ¬ jB true = 0 by decide), hwx, jb2, hx5, jb1]
      cases h5 : jisw by' k (jle n by' k - k) 5 with
      | true =>
        rw [if_neg (show ¬ jB true = 0 by decide), if_neg (show ¬ jB true = 0 by decide)]
        unfold pM_oneo_56
        rw [if_neg (show ¬ (7 : Int32) = -1 by decide)]
        by_cases hr0 : r = 0
        · subst hr0
          unfold pX2_readPairo
          rw [if_neg jz66]
          unfold pX8_refuse
          rw [jb3, if_pos ja0, jb9, if_pos ja0, jopens_full, jb4, if_pos jz00]
          exact jev.mk (Or.inr ⟨3, k, k, m, by omega, by omega, hk.2, hk.2, by omega, hl, rfl, rfl, rfl, rfl, rfl, rfl⟩)
        · have hr1 : 1 ≤ r := by omega
          have he2 := jsk_rng (by' := by') he.2
          unfold pX2_readPairo
          rw [if_pos (show nI (6 - r) < 6 from nI_lt (b := 6) (by omega) (by omega)), jopens_ok hr1 hr6, jb4, if_neg jz10, jskipM hN ht hk.2, jb1, jtakeX hN ht he.2, jsignM hN ht he.2]
          by_cases h91 : jby n by' (jsk n by' (jle n by' k)) = 91
          · have hlt := jby_lt (s := 91) h91 (by omega)
            obtain ⟨⟨r0, pl, wp1, np1, fk, fp, kd1, vl1, ln1⟩, ⟨at1, f1, fa1, op1, mn1, lw1⟩, e1, e2, hP⟩ := hs hr1 (jsk n by' (jle n by' k) + 1) m kk vv (nI k) np kd vl ln mn lw (by omega) (by omega) hc
            rw [h61 hr1] at e1 e2
            rw [if_pos h91, if_pos h91, jb4, jb3, if_neg jz10, nI_1 (6 - r), e1, e2, jb9, jb6]
            rcases hP with ⟨a1, m1, kk1, vv1, p1, p2, p3, p4, rfl, rfl, rfl, rfl, rfl, rfl, rfl, rfl, hc1, hd1⟩ | ⟨q, f, a1, m2, p1, p2, p3, p4, p5, rfl, rfl, rfl, rfl, rfl, rfl, rfl⟩
            · have hj1 := jsk_rng (by' := by') p2
              rw [h61 hr1, if_neg jz10, jtakeX hN ht p2, jsignM hN ht p2]
              by_cases h44 : jby n by' (jsk n by' a1) = 44
              · have hlt2 := jby_lt (s := 44) h44 (by omega)
                obtain ⟨⟨r0, pl, wp2, np2, fk, fp, kd2, vl2, ln2⟩, ⟨at2, f2, fa2, op2, mn2, lw2⟩, e3, e4, hP⟩ := hs hr1 (jsk n by' a1 + 1) m1 kk1 vv1 wp1 np1 kd1 vl1 ln1 mn1 lw1 (by omega) (by omega) hc1
                rw [h61 hr1] at e3 e4
                rw [if_pos h44, if_pos h44, jb4, jb3, if_neg jz10, e3, e4, jb9, jb6]
                rcases hP with ⟨a2, m2, kk2, vv2, s1, s2, s3, s4, rfl, rfl, rfl, rfl, rfl, rfl, rfl, rfl, hc2, hd2⟩ | ⟨q, f, a2, m2, s1, s2, s3, s4, s5, rfl, rfl, rfl, rfl, rfl, rfl, rfl⟩
                · have hj2 := jsk_rng (by' := by') s2
                  rw [h61 hr1, if_neg jz10, jtakeX hN ht s2, jsignM hN ht s2]
                  by_cases h93 : jby n by' (jsk n by' a2) = 93
                  · have hlt3 := jby_lt (s := 93) h93 (by omega)
                    obtain ⟨kd3, vl3, lw3, kk3, vv3, g1, g2, g3, g4⟩ := jcode_add (N9 := N9) (k := 7) (v := 0) hc2 (by omega) (by omega) (by omega) (by omega) (by omega)
                    rw [if_pos h93, if_pos h93, jb4, jb3, if_neg jz10]
                    unfold pX2_readPairo_70
                    rw [show pX2_add_i1 N9 kd2 vl2 ln2 7 0 = _ from g1, show pM_notes N9 (nI 0) mn2 lw2 7 0 = _ from g2, jb3, jb2, if_pos ja1, jb9, if_pos ja1, nI_pred]
                    exact jev.mk (Or.inl ⟨jsk n by' a2 + 1, m2 + 1, kk3, vv3, by omega, by omega, by omega, by omega, rfl, rfl, rfl, rfl, rfl, rfl, rfl, rfl, g3, by rw [g4, if_neg (by omega)]; omega⟩)
                  · obtain ⟨hl2, -⟩ := hc2
                    obtain ⟨kd3, vl3, m3, g1, g2⟩ := jadd_any N9 kd2 vl2 (m := m2) (by omega) (nI 7) (nI 0)
                    rw [← hl2] at g2
                    rw [if_neg h93, if_neg h93, jb4, jb3, if_pos jz00, jnotes_f hf1, jb2]
                    unfold pX2_readPairo_69 pX2_readPairo_70
                    rw [show pX2_add_i1 N9 kd2 vl2 ln2 7 0 = _ from g2, jb3, if_pos ja0, jb9, if_pos ja0]
                    exact jev.mk (Or.inr ⟨1, jsk n by' a2, jsk n by' a2, m3, by omega, by omega, hj2.2, hj2.2, g1, rfl, rfl, rfl, rfl, rfl, rfl, rfl⟩)
                · have hfq : nI q ≠ nI 0 := hfz q s1 s2
                  obtain ⟨kd3, vl3, m3, g1, g2⟩ := jadd_any N9 kd2 vl2 (m := m2) s5 (nI 7) (nI 0)
                  rw [if_pos jz00, jsignMf hfq, jb3, jnotes_f hfq, jb2]
                  unfold pX2_readPairo_69 pX2_readPairo_70
                  rw [show pX2_add_i1 N9 kd2 vl2 (nI m2) 7 0 = _ from g2, jb3, if_pos ja0, jb9, if_pos ja0]
                  exact jev.mk (Or.inr ⟨q, f, a2, m3, s1, s2, s3, s4, g1, rfl, rfl, rfl, rfl, rfl, rfl, rfl⟩)
              · obtain ⟨hl1, -⟩ := hc1
                obtain ⟨kd3, vl3, m3, g1, g2⟩ := jadd_any N9 kd1 vl1 (m := m1) (by omega) (nI 7) (nI 0)
                rw [← hl1] at g2
                rw [if_neg h44, if_neg h44, jb4, jb3, if_pos jz00, hdd hr1 hf1, jb6, jsignMf hf1, jb3, jnotes_f hf1, jb2]
                unfold pX2_readPairo_69 pX2_readPairo_70
                rw [show pX2_add_i1 N9 kd1 vl1 ln1 7 0 = _ from g2, jb3, if_pos ja0, jb9, if_pos ja0]
                exact jev.mk (Or.inr ⟨1, jsk n by' a1, jsk n by' a1, m3, by omega, by omega, hj1.2, hj1.2, g1, rfl, rfl, rfl, rfl, rfl, rfl, rfl⟩)
            · have hfq : nI q ≠ nI 0 := hfz q p1 p2
              obtain ⟨kd3, vl3, m3, g1, g2⟩ := jadd_any N9 kd1 vl1 (m := m2) p5 (nI 7) (nI 0)
              rw [if_pos jz00, jsignMf hfq, jb3, hdd hr1 hfq, jb6, jsignMf hfq, jb3, jnotes_f hfq, jb2]
              unfold pX2_readPairo_69 pX2_readPairo_70
              rw [show pX2_add_i1 N9 kd1 vl1 (nI m2) 7 0 = _ from g2, jb3, if_pos ja0, jb9, if_pos ja0]
              exact jev.mk (Or.inr ⟨q, f, a1, m3, p1, p2, p3, p4, g1, rfl, rfl, rfl, rfl, rfl, rfl, rfl⟩)
          · obtain ⟨kd3, vl3, m3, g1, g2⟩ := jadd_any N9 kd vl (m := m) (by omega) (nI 7) (nI 0)
            rw [← hl] at g2
            rw [if_neg h91, if_neg h91, jb4, jb3, if_pos jz00, hdd hr1 hf1, jb6, jsignMf hf1, jb3, hdd hr1 hf1, jb6, jsignMf hf1, jb3, jnotes_f hf1, jb2]
            unfold pX2_readPairo_69 pX2_readPairo_70
            rw [show pX2_add_i1 N9 kd vl ln 7 0 = _ from g2, jb3, if_pos ja0, jb9, if_pos ja0]
            exact jev.mk (Or.inr ⟨1, jsk n by' (jle n by' k), jsk n by' (jle n by' k), m3, by omega, by omega, he2.2, he2.2, g1, rfl, rfl, rfl, rfl, rfl, rfl, rfl⟩)
      | false =>
        rw [if_pos (show jB false = 0 from rfl), if_pos (show jB false = 0 from rfl), hx6, jb1, jb2]
        cases h6 : jisw by' k (jle n by' k - k) 6 with
        | true =>
          rw [if_neg (show ¬ jB true = 0 by decide), if_neg (show ¬ jB true = 0 by decide)]
          unfold pM_oneo_56
          rw [if_neg (show ¬ (8 : Int32) = -1 by decide)]
          by_cases hr0 : r = 0
          · subst hr0
            unfold pX2_readPairo
            rw [if_neg jz66]
            unfold pX8_refuse
            rw [jb3, if_pos ja0, jb9, if_pos ja0, jopens_full, jb4, if_pos jz00]
            exact jev.mk (Or.inr ⟨3, k, k, m, by omega, by omega, hk.2, hk.2, by omega, hl, rfl, rfl, rfl, rfl, rfl, rfl⟩)
          · have hr1 : 1 ≤ r := by omega
            have he2 := jsk_rng (by' := by') he.2
            unfold pX2_readPairo
            rw [if_pos (show nI (6 - r) < 6 from nI_lt (b := 6) (by omega) (by omega)), jopens_ok hr1 hr6, jb4, if_neg jz10, jskipM hN ht hk.2, jb1, jtakeX hN ht he.2, jsignM hN ht he.2]
            by_cases h91 : jby n by' (jsk n by' (jle n by' k)) = 91
            · have hlt := jby_lt (s := 91) h91 (by omega)
              obtain ⟨⟨r0, pl, wp1, np1, fk, fp, kd1, vl1, ln1⟩, ⟨at1, f1, fa1, op1, mn1, lw1⟩, e1, e2, hP⟩ := hs hr1 (jsk n by' (jle n by' k) + 1) m kk vv (nI k) np kd vl ln mn lw (by omega) (by omega) hc
              rw [h61 hr1] at e1 e2
              rw [if_pos h91, if_pos h91, jb4, jb3, if_neg jz10, nI_1 (6 - r), e1, e2, jb9, jb6]
              rcases hP with ⟨a1, m1, kk1, vv1, p1, p2, p3, p4, rfl, rfl, rfl, rfl, rfl, rfl, rfl, rfl, hc1, hd1⟩ | ⟨q, f, a1, m2, p1, p2, p3, p4, p5, rfl, rfl, rfl, rfl, rfl, rfl, rfl⟩
              · have hj1 := jsk_rng (by' := by') p2
                rw [h61 hr1, if_neg jz10, jtakeX hN ht p2, jsignM hN ht p2]
                by_cases h44 : jby n by' (jsk n by' a1) = 44
                · have hlt2 := jby_lt (s := 44) h44 (by omega)
                  obtain ⟨⟨r0, pl, wp2, np2, fk, fp, kd2, vl2, ln2⟩, ⟨at2, f2, fa2, op2, mn2, lw2⟩, e3, e4, hP⟩ := hs hr1 (jsk n by' a1 + 1) m1 kk1 vv1 wp1 np1 kd1 vl1 ln1 mn1 lw1 (by omega) (by omega) hc1
                  rw [h61 hr1] at e3 e4
                  rw [if_pos h44, if_pos h44, jb4, jb3, if_neg jz10, e3, e4, jb9, jb6]
                  rcases hP with ⟨a2, m2, kk2, vv2, s1, s2, s3, s4, rfl, rfl, rfl, rfl, rfl, rfl, rfl, rfl, hc2, hd2⟩ | ⟨q, f, a2, m2, s1, s2, s3, s4, s5, rfl, rfl, rfl, rfl, rfl, rfl, rfl⟩
                  · have hj2 := jsk_rng (by' := by') s2
                    rw [h61 hr1, if_neg jz10, jtakeX hN ht s2, jsignM hN ht s2]
                    by_cases h93 : jby n by' (jsk n by' a2) = 93
                    · have hlt3 := jby_lt (s := 93) h93 (by omega)
                      obtain ⟨kd3, vl3, lw3, kk3, vv3, g1, g2, g3, g4⟩ := jcode_add (N9 := N9) (k := 8) (v := 0) hc2 (by omega) (by omega) (by omega) (by omega) (by omega)
                      rw [if_pos h93, if_pos h93, jb4, jb3, if_neg jz10]
                      unfold pX2_readPairo_70
                      rw [show pX2_add_i1 N9 kd2 vl2 ln2 8 0 = _ from g1, show pM_notes N9 (nI 0) mn2 lw2 8 0 = _ from g2, jb3, jb2, if_pos ja1, jb9, if_pos ja1, nI_pred]
                      exact jev.mk (Or.inl ⟨jsk n by' a2 + 1, m2 + 1, kk3, vv3, by omega, by omega, by omega, by omega, rfl, rfl, rfl, rfl, rfl, rfl, rfl, rfl, g3, by rw [g4, if_neg (by omega)]; omega⟩)
                    · obtain ⟨hl2, -⟩ := hc2
                      obtain ⟨kd3, vl3, m3, g1, g2⟩ := jadd_any N9 kd2 vl2 (m := m2) (by omega) (nI 8) (nI 0)
                      rw [← hl2] at g2
                      rw [if_neg h93, if_neg h93, jb4, jb3, if_pos jz00, jnotes_f hf1, jb2]
                      unfold pX2_readPairo_69 pX2_readPairo_70
                      rw [show pX2_add_i1 N9 kd2 vl2 ln2 8 0 = _ from g2, jb3, if_pos ja0, jb9, if_pos ja0]
                      exact jev.mk (Or.inr ⟨1, jsk n by' a2, jsk n by' a2, m3, by omega, by omega, hj2.2, hj2.2, g1, rfl, rfl, rfl, rfl, rfl, rfl, rfl⟩)
                  · have hfq : nI q ≠ nI 0 := hfz q s1 s2
                    obtain ⟨kd3, vl3, m3, g1, g2⟩ := jadd_any N9 kd2 vl2 (m := m2) s5 (nI 8) (nI 0)
                    rw [if_pos jz00, jsignMf hfq, jb3, jnotes_f hfq, jb2]
                    unfold pX2_readPairo_69 pX2_readPairo_70
                    rw [show pX2_add_i1 N9 kd2 vl2 (nI m2) 8 0 = _ from g2, jb3, if_pos ja0, jb9, if_pos ja0]
                    exact jev.mk (Or.inr ⟨q, f, a2, m3, s1, s2, s3, s4, g1, rfl, rfl, rfl, rfl, rfl, rfl, rfl⟩)
                · obtain ⟨hl1, -⟩ := hc1
                  obtain ⟨kd3, vl3, m3, g1, g2⟩ := jadd_any N9 kd1 vl1 (m := m1) (by omega) (nI 8) (nI 0)
                  rw [← hl1] at g2
                  rw [if_neg h44, if_neg h44, jb4, jb3, if_pos jz00, hdd hr1 hf1, jb6, jsignMf hf1, jb3, jnotes_f hf1, jb2]
                  unfold pX2_readPairo_69 pX2_readPairo_70
                  rw [show pX2_add_i1 N9 kd1 vl1 ln1 8 0 = _ from g2, jb3, if_pos ja0, jb9, if_pos ja0]
                  exact jev.mk (Or.inr ⟨1, jsk n by' a1, jsk n by' a1, m3, by omega, by omega, hj1.2, hj1.2, g1, rfl, rfl, rfl, rfl, rfl, rfl, rfl⟩)
              · have hfq : nI q ≠ nI 0 := hfz q p1 p2
                obtain ⟨kd3, vl3, m3, g1, g2⟩ := jadd_any N9 kd1 vl1 (m := m2) p5 (nI 8) (nI 0)
                rw [if_pos jz00, jsignMf hfq, jb3, hdd hr1 hfq, jb6, jsignMf hfq, jb3, jnotes_f hfq, jb2]
                unfold pX2_readPairo_69 pX2_readPairo_70
                rw [show pX2_add_i1 N9 kd1 vl1 (nI m2) 8 0 = _ from g2, jb3, if_pos ja0, jb9, if_pos ja0]
                exact jev.mk (Or.inr ⟨q, f, a1, m3, p1, p2, p3, p4, g1, rfl, rfl, rfl, rfl, rfl, rfl, rfl⟩)
            · obtain ⟨kd3, vl3, m3, g1, g2⟩ := jadd_any N9 kd vl (m := m) (by omega) (nI 8) (nI 0)
              rw [← hl] at g2
              rw [if_neg h91, if_neg h91, jb4, jb3, if_pos jz00, hdd hr1 hf1, jb6, jsignMf hf1, jb3, hdd hr1 hf1, jb6, jsignMf hf1, jb3, jnotes_f hf1, jb2]
              unfold pX2_readPairo_69 pX2_readPairo_70
              rw [show pX2_add_i1 N9 kd vl ln 8 0 = _ from g2, jb3, if_pos ja0, jb9, if_pos ja0]
              exact jev.mk (Or.inr ⟨1, jsk n by' (jle n by' k), jsk n by' (jle n by' k), m3, by omega, by omega, he2.2, he2.2, g1, rfl, rfl, rfl, rfl, rfl, rfl, rfl⟩)
        | false =>
          have hfx := jfactX hN ht he.1 he.2
          have hkn := jknownM hN ht hk.2 hsk
          rw [if_pos (show jB false = 0 from rfl), if_pos (show jB false = 0 from rfl), hfx, jb1]
          unfold pM_oneo_56
          rw [if_pos rfl, jbyteAt ht hk.2, jb1, if_neg h40, hkn, jb2]
          rcases jfact_rng by' k (jle n by' k - k) with hq | ⟨v, hv, hq⟩
          · have hnm := jnumM hN ht hk.2 (-nI 1) 999
            have hd0 : jdi n by' k = k := by
              refine jwh_fix _ (Or.inr ?_)
              unfold jletter at hlk
              unfold jdigit
              rw [Bool.and_eq_true, decide_eq_true_eq, decide_eq_true_eq] at hlk
              rw [decide_eq_false (by omega : ¬ by' k ≤ 57), Bool.and_false]
            rw [hsk, if_pos hd0] at hnm
            rw [hq, if_pos (show -nI 1 = -1 from rfl), if_pos (show -nI 1 = -1 from rfl), if_pos rfl, show pM_number N9 (nI n) (nI k) (nI 0) (-nI 1) m_fed 0 999 = _ from hnm, jb4, jnotes_f hf1, jb2]
            unfold pX8_refuse pM_oneo_201
            rw [jb3, if_pos ja0]
            exact jev.mk (Or.inr ⟨1, k, k, m, by omega, by omega, hk.2, hk.2, by omega, hl, rfl, rfl, rfl, rfl, rfl, rfl⟩)
          · obtain ⟨kd3, vl3, lw3, kk3, vv3, g1, g2, g3, g4⟩ := jcode_add (N9 := N9) (k := 1) (v := v) hc (by omega) (by omega) (by omega) (by omega) (by omega)
            have hvn : ¬ nI v = -1 := by rw [jN1, jeqN_f (by omega)]; exact id
            rw [hq, if_neg hvn, if_neg hvn, if_neg (show ¬ nI v = -nI 1 from hvn), show pX2_add_i1 N9 kd vl ln 1 _ = _ from g1, show pM_notes N9 (nI 0) mn lw 1 _ = _ from g2, jb3, jb2]
            unfold pM_oneo_201
            exact jev.mk (Or.inl ⟨jle n by' k, m + 1, kk3, vv3, by omega, by omega, by omega, by omega, rfl, rfl, rfl, rfl, rfl, rfl, rfl, rfl, g3, by rw [g4, if_pos (by omega)]⟩)
end LO
