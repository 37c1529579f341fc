section WOP
variable {N9 G L B c : Nat} {gt nu fo no bo tk : Nat → Nat}
theorem jop_work (hN : 70000 < N9) (tp_bytes : Nat → Int32) (tp_many : Int32) (tp_end : Int32) (tp_place : Int32) (tp_wordPlace : Int32) (tp_numberPlace : Int32) (tp_faultKind : Int32) (tp_faultPlace : Int32) (bk_forgives : Nat → Int32) (bk_tolls : Nat → Int32) (bk_lengths : Nat → Int32) (bk_numbers : Nat → Nat → Int32) (bk_gates : Int32) (lw_kinds : Nat → Int32) (lw_values : Nat → Int32) (lw_stack : Nat → Int32) (lw_length : Int32) (ru_facts : Nat → Int32) (st_now : Nat → Int32) (st_born : Nat → Int32) (st_age : Nat → Int32) (st_passed : Nat → Int32) (st_gone : Nat → Int32) (st_took : Nat → Int32) (st_beasts : Int32) (st_year : Int32) (st_coins : Int32) (pl_kinds : Nat → Int32) (pl_firsts : Nat → Int32) (pl_seconds : Nat → Int32) (pl_length : Int32) (pl_beasts : Int32) (pl_gates : Int32) (pl_begun : Int32) (pl_done : Int32) (pl_refused : Int32) (me_past : Nat → Int32) (me_works : Int32) (xx_refusedSteps : Int32) (xx_refusedArguments : Int32) (x1 : Int32) (m_thrown : Int32) (m_tape : Int32) (m_size : Int32) (m_place : Int32) (m_at : Int32) (m_fault : Int32) (m_faultAt : Int32) (m_clauses : Int32) (m_open : Int32) (m_fed : Nat → Int32) (m_refused : Nat → Int32) (m_told : Nat → Int32) (m_gate : Nat → Nat → Int32) (m_list : Nat → Nat → Int32) (m_lawMany : Int32) (m_law : Nat → Nat → Int32) (m_stack : Nat → Int32) (m_known : Nat → Int32) (m_step : Nat → Nat → Int32) (m_steps : Int32) (m_now : Nat → Int32) (m_before : Nat → Nat → Int32) (m_works : Int32) (m_refusedSteps : Int32) (m_begun : Int32) (m_doneSteps : Int32) {re : Int32} (hT : jTape tp_bytes m_fed tp_many m_tape) (hF : tp_faultPlace = m_place) (hk : jBk G L gt nu fo bk_forgives bk_tolls bk_lengths bk_numbers m_told m_gate m_list) (hbg : bk_gates = nI G) (hL : ∃ n kk vv, jLw n kk vv lw_kinds lw_values lw_length m_lawMany m_law)
    (hs : jSt G B no bo c tk st_now st_born st_age st_passed st_gone st_took st_beasts st_year st_coins m_now) (hm : jMe G me_past me_works m_before m_works) (hrs : xx_refusedSteps = m_refusedSteps) (hR : jRf re xx_refusedArguments m_refused) :
    ∃ z r many en pl wp np fk fp lst ru now born age ps go to be ye co pk pf ps2 pn pb pg bg dn rd past wk rs ra r' th ta sz pc at' f fa cl op rf mst kn step sp row bf mw mrs mbg mdn, pX9_work N9 tp_bytes tp_many tp_end tp_place tp_wordPlace tp_numberPlace tp_faultKind tp_faultPlace bk_forgives bk_tolls bk_lengths bk_numbers bk_gates lw_kinds lw_values lw_stack lw_length ru_facts st_now st_born st_age st_passed st_gone st_took st_beasts st_year st_coins pl_kinds pl_firsts pl_seconds pl_length pl_beasts pl_gates pl_begun pl_done pl_refused me_past me_works xx_refusedSteps xx_refusedArguments x1 = some (z, r, many, en, pl, wp, np, fk, fp, lst, ru, now, born, age, ps, go, to, be, ye, co, pk, pf, ps2, pn, pb, pg, bg, dn, rd, past, wk, rs, ra) ∧ pM_work N9 m_thrown m_tape m_size m_place m_at m_fault m_faultAt m_clauses m_open m_fed m_refused m_told m_gate m_list m_lawMany m_law m_stack m_known m_step m_steps m_now m_before m_works m_refusedSteps m_begun m_doneSteps x1 = some (r', th, ta, sz, pc, at', f, fa, cl, op, rf, mst, kn, step, sp, row, bf, mw, mrs, mbg, mdn) ∧ jOutA z th r r' ∧ jTape tp_bytes m_fed many ta ∧ fp = pc ∧ (∃ B no bo c tk, jSt G B no bo c tk now born age ps go to be ye co row) ∧ jMe G past wk bf mw ∧ rs = mrs ∧ jRf re ra rf := by
  have hTT := hT
  have hss := hs
  obtain ⟨hB, hbe, hr42, -⟩ := hs
  obtain ⟨by', n, hn, rfl, rfl, hby⟩ := hT
  have hmm := hm
  obtain ⟨w, hw, rfl, rfl, hpa⟩ := hm
  obtain ⟨n9, kk, vv, hL⟩ := hL
  have hG := hk.1
  have htold := hk.2.2.1
  unfold pX9_work pM_work pM_work_25
  rw [show (0 : Int32) = nI 0 from rfl, show (150 : Int32) = nI 150 from rfl, jzmin (by omega) (by omega), jxin, jb1, jneedA, jmin_, jb1]
  by_cases hv : ∃ k, k ≤ n ∧ k ≤ 150 ∧ x1 = nI k
  · obtain ⟨k, hk1, hk2, rfl⟩ := hv
    have ht := jtext hby (n := k) (by omega)
    rw [jin_t (by split <;> omega) (by split <;> omega), jin_t hk1 (by omega), if_pos rfl, jb2, if_pos jz0', if_neg (show ¬ jB true = nI 0 by decide), if_pos (nI_le hk2 (by omega))]
    unfold pM_work_30
    rw [show pM_bad N9 (nI 0) m_refused (nI 0) 1 1 = some (0, 0, m_refused) from rfl, jb3, if_pos (show (0 : Int32) = 0 from rfl)]
    by_cases h16 : w = 16
    · subst h16
      have ho := jopenX N9 (n := n) (k := 0) (by omega) hn
      unfold pX9_work_39 pX9_work_53 pX9_work_95 pX9_work_96 pX8_drop
      simp (disch := omega) only [jb1, jb2, jb3, jb4, jb5, jb6, jb7, jb8, jb9, jb10, jb11, jb12, jb13, jb14, jb15, jb16, jb17, jb18, jb19, jb20, jb21, jb22, jb23, jb24, jb25, jb26, jb27, jb28, jb29, jb30, jb31, jb32, jb33, jb34, jb35, jb36, jb37, jb38, jb39, jb40, jb41, jb42, jb43, jb44, jb45, jb46, jb47, jb48, jb49, jb50, zlet, jlit, jle_t, jle_f, jlt_t, jlt_f, jeq_t, jeq_f, jeqN_f, jNeq_f, jNN, jN1, jadd, jsub, jzin, jcl, if_true, if_false, ite_true, ite_false, not_true, not_false_iff, not_true_eq_false, not_false_eq_true, jB_t, jB_f, jB0_t, jB0_f, jBa, jand11, jand00, ↓reduceIte, Nat.reduceEqDiff, Nat.reduceAdd, Nat.reduceSub, ho]
      exact ⟨_, _, _, _, _, _, _, _, _, _, _, _, _, _, _, _, _, _, _, _, _, _, _, _, _, _, _, _, _, _, _, _, _, _, _, _, _, _, _, _, _, _, _, _, _, _, _, _, _, _, _, _, _, _, rfl, rfl, Or.inl ⟨rfl, rfl, rfl⟩, ⟨by', 0, by omega, rfl, rfl, hby⟩, rfl, ⟨B, no, bo, c, tk, hss⟩, hmm, hrs, hR⟩
    · rw [if_pos (show nI w < 16 from nI_lt (b := 16) (by omega) (by omega)), if_neg (show ¬ nI w = 16 from fun q => h16 ((nI_eq (b := 16) (by omega) (by omega)).mp q)), jstarts hN ht, jb7]
      unfold pX9_work_39 pX9_work_53
      rw [if_pos jz00, jopenX N9 hk1 hn, jb4, if_pos jz00]
      unfold pX4_readWhole
      obtain ⟨⟨r0, pl, wp1, np1, fk, fp, ks, fs, ss, ln⟩, at1, ff, fa, op, st, sp, e1, hP, e2⟩ := jwork_read hN ht hk2 hB hG hr42 htold tp_wordPlace tp_numberPlace pl_kinds pl_firsts pl_seconds m_step
      rw [hbe, hbg, show pX4_readSteps N9 tp_bytes (nI k) (nI 0) tp_wordPlace tp_numberPlace (nI 0) (-nI 1) pl_kinds pl_firsts pl_seconds 0 (nI B) (nI G) 0 = _ from e1, jb10]
      have e3 := e2 (fun q at' f fa op st sp => pM_work_72 N9 m_place m_fed m_told m_gate m_list m_lawMany m_law m_stack m_known m_now m_before (nI w) m_refusedSteps m_begun m_doneSteps q 0 (nI 0) (nI k) at' f fa (nI 0) op m_refused st sp) (fun at' f fa op st sp => pM_work_101 N9 0 (nI 0) (nI k) m_place (nI 0) m_refused m_told m_gate m_list m_lawMany m_law m_stack m_known m_now m_before (nI w) m_refusedSteps m_begun m_doneSteps at' f fa op st sp) ⟨?_, ?_, ?_⟩
      · rw [show pM_work_72 N9 m_place m_fed m_told m_gate m_list m_lawMany m_law m_stack m_known m_now m_before (nI w) m_refusedSteps m_begun m_doneSteps N9 0 (nI 0) (nI k) ((nI (jsk k by' 0))) (nI 0) (-nI 1) (nI 0) (nI 0) m_refused m_step 0 = _ from e3]
        unfold pM_work_101 pX9_work_95 pX9_work_96 pX8_drop
        rcases hP with ⟨a2, m2, p1, p2, p3, p4, rfl, rfl, rfl, rfl, rfl, hrows, hfor, rfl, rfl, rfl, rfl, rfl, hsk, hend⟩ | ⟨q, g, a2, p1, p2, p3, p4, rfl, rfl, rfl, rfl, rfl, rfl⟩
        · obtain ⟨past', w1, w2, w3⟩ := jwrite (N9 := N9) (st_now := st_now) (st_born := st_born) (st_age := st_age) (st_passed := st_passed) (st_gone := st_gone) (st_took := st_took) (st_beasts := nI B) (st_year := st_year) (st_coins := st_coins) me_past (o := w * 45) (by omega)
          obtain ⟨t, c1, c2, c3⟩ := jcopies hN m_now m_before (r := w) (by omega)
          rw [hbe] at hss
          have hplan : jPl B G m2 (jn ks) (jn fs) (jn ss) (jn ss) ks fs ss st := by
            refine ⟨by omega, fun i hi => ?_⟩
            obtain ⟨k', f', s', e', d1, d2, d3, d4, d5, d6, d7, d8, d9⟩ := hrows.1 i (by omega) hi
            have hkd : jn ks i = k' := by unfold jn; rw [d3, jcl (by omega)]
            have hfd : (k' < 5 ∨ k' = 6) → jn fs i = f' := fun q => by
              unfold jn
              rw [(d6 q).1, jcl]
              rcases q with q | q
              · have := d5 (by omega); unfold jok at this; omega
              · have := (d9 q).1; omega
            have hsd : (k' < 2 ∨ k' = 3 ∨ k' = 4) → jn ss i = s' := fun q => by
              unfold jn
              rw [(d7 q).1, jcl]
              have := d5 (by omega); unfold jok at this; omega
            have hed : k' = 6 → jn ss i = e' := fun q => by
              unfold jn
              rw [(d9 q).2, jcl (by omega)]
            rw [hkd]
            refine ⟨d1, d3, d4, fun q => ?_, fun q => by rw [hfd q]; exact d6 q, fun q => by rw [hsd q]; exact d7 q, ?_, fun q => by rw [hfd (Or.inr q), hed q]; exact d9 q⟩
            · have h5 := d5 q
              unfold jok at h5 ⊢
              have q1 := hfd
              have q2 := hsd
              by_cases g1 : k' < 5
              · have q3 := q1 (Or.inl g1)
                rw [q3]
                by_cases g2 : k' = 2
                · omega
                · rw [q2 (by omega)]; exact h5
              · omega
            · rw [d8]
              by_cases q : k' = 6
              · rw [if_pos q, if_pos q, hed q]
              · rw [if_neg q, if_neg q]
          obtain ⟨⟨lw', ru', now', born', age', ps', go', to', be', ye', co', bg', dn', rf'⟩, ⟨st', kn', row', rs', mb', md'⟩, x1, x2, B', no', bo', c', tk', q', hB', hq', hs', hb1', hb2', hd', hr'⟩ := jgoes hN hk hL hplan 6 (Nat.le_refl 6) 48 48 0 m2 (by omega) (by omega) hfor (Nat.le_refl m2) lw_stack ru_facts st_now st_born st_age st_passed st_gone st_took (nI B) st_year st_coins (nI 0) (nI 0) (nI 0) m_stack m_known m_now (nI 0) (nI 0) (nI 0) B no bo c tk 0 (Nat.le_refl B) (by omega) hss rfl rfl rfl rfl
          rw [show 6 - 6 = 0 from rfl] at x1
          unfold pX3_keepForUndo pX3_keepForUndo_34 pX4_begin pX4_doSteps pM_goes
          simp (disch := omega) only [jb1, jb2, jb3, jb4, jb5, jb6, jb7, jb8, jb9, jb10, jb11, jb12, jb13, jb14, jb15, jb16, jb17, jb18, jb19, jb20, jb21, jb22, jb23, jb24, jb25, jb26, jb27, jb28, jb29, jb30, jb31, jb32, jb33, jb34, jb35, jb36, jb37, jb38, jb39, jb40, jb41, jb42, jb43, jb44, jb45, jb46, jb47, jb48, jb49, jb50, zlet, jlit, jle_t, jle_f, jlt_t, jlt_f, jeq_t, jeq_f, jeqN_f, jNeq_f, jNN, jN1, jadd, jsub, jzin, jcl, if_true, if_false, ite_true, ite_false, not_true, not_false_iff, not_true_eq_false, not_false_eq_true, jB_t, jB_f, jB0_t, jB0_f, jBa, jand11, jand00, ↓reduceIte, Nat.reduceEqDiff, Nat.reduceAdd, Nat.reduceSub, jmul, w1, c1, x1, x2]
          refine ⟨_, _, _, _, _, _, _, _, _, _, _, _, _, _, _, _, _, _, _, _, _, _, _, _, _, _, _, _, _, _, _, _, _, _, _, _, _, _, _, _, _, _, _, _, _, _, _, _, _, _, _, _, _, _, rfl, rfl, Or.inl ⟨rfl, rfl, hd'⟩, ⟨by', 0, by omega, rfl, rfl, hby⟩, rfl, ⟨B', no', bo', c', tk', hs'⟩, ⟨w + 1, by omega, rfl, rfl, fun i hi => ?_⟩, hr', hR⟩
          by_cases hiw : i = w
          · subst hiw
            have := w2.past hss c2
            rw [Nat.mul_comm] at this
            exact this
          · exact (hpa i (by omega)).congr (fun k hk => w3 _ (Or.inl (by omega))) (fun k hk => by rw [c3 i hiw])
        · have hfq : ¬ nI q = nI 0 := jhfz q p1 p2
          unfold pM_faulty
          simp (disch := omega) only [jb1, jb2, jb3, jb4, jb5, jb6, jb7, jb8, jb9, jb10, jb11, jb12, jb13, jb14, jb15, jb16, jb17, jb18, jb19, jb20, jb21, jb22, jb23, jb24, jb25, jb26, jb27, jb28, jb29, jb30, jb31, jb32, jb33, jb34, jb35, jb36, jb37, jb38, jb39, jb40, jb41, jb42, jb43, jb44, jb45, jb46, jb47, jb48, jb49, jb50, zlet, jlit, jle_t, jle_f, jlt_t, jlt_f, jeq_t, jeq_f, jeqN_f, jNeq_f, jNN, jN1, jadd, jsub, jzin, jcl, if_true, if_false, ite_true, ite_false, not_true, not_false_iff, not_true_eq_false, not_false_eq_true, jB_t, jB_f, jB0_t, jB0_f, jBa, jand11, jand00, ↓reduceIte, Nat.reduceEqDiff, Nat.reduceAdd, Nat.reduceSub, if_neg hfq]
          exact ⟨_, _, _, _, _, _, _, _, _, _, _, _, _, _, _, _, _, _, _, _, _, _, _, _, _, _, _, _, _, _, _, _, _, _, _, _, _, _, _, _, _, _, _, _, _, _, _, _, _, _, _, _, _, _, rfl, rfl, Or.inl ⟨rfl, rfl, rfl⟩, ⟨by', 0, by omega, rfl, rfl, hby⟩, rfl, ⟨B, no, bo, c, tk, by rw [← hbe]; exact hss⟩, hmm, hrs, hR⟩
      · intro q a fa op st sp ha hb
        simp only [pM_work_72]
        have hge : k ≤ a := by
          by_cases h : k ≤ a
          · exact h
          · unfold jby at hb
            rw [if_pos (by omega), jN1, jeqN_f (by have := (ht.2 a (by omega)).1; omega)] at hb
            exact hb.elim
        rw [if_pos jz00, if_pos (nI_le hge (by omega))]
      · intro q a fa op st sp ha hb
        simp only [pM_work_72]
        have hlt : a < k := by
          by_cases h : a < k
          · exact h
          · exfalso
            apply hb
            unfold jby
            rw [if_neg h]
            rfl
        rw [if_pos jz00, if_neg (nI_ge hlt (by omega))]
      · intro q at' f fa op st sp hf
        simp only [pM_work_72]
        rw [if_neg (show ¬ f = 0 from hf)]
  · have hx : jin x1 (nI 0) (nI (if 150 < n then 150 else n)) = false := by
      cases h : jin x1 (nI 0) (nI (if 150 < n then 150 else n)) with
      | false => rfl
      | true =>
        obtain ⟨j, h1, h2⟩ := (jin_nI (by split <;> omega)).mp h
        exact absurd ⟨j, by split at h1 <;> omega, by split at h1 <;> omega, h2⟩ hv
    rw [hx, if_neg (show ¬ false = true by decide), jb2, if_neg (show ¬ (2 : Int32) = nI 0 by decide)]
    have hM : ∀ y, (if jB y = nI 0 then pM_work_30 N9 (nI n) m_size m_place m_at m_fault m_faultAt m_clauses m_open m_fed m_refused m_told m_gate m_list m_lawMany m_law m_stack m_known m_step m_steps m_now m_before (nI w) m_refusedSteps m_begun m_doneSteps x1 (nI 0) 1 else if x1 ≤ nI 150 then pM_work_30 N9 (nI n) m_size m_place m_at m_fault m_faultAt m_clauses m_open m_fed m_refused m_told m_gate m_list m_lawMany m_law m_stack m_known m_step m_steps m_now m_before (nI w) m_refusedSteps m_begun m_doneSteps x1 (nI 0) (nI 0) else pM_work_30 N9 (nI n) m_size m_place m_at m_fault m_faultAt m_clauses m_open m_fed m_refused m_told m_gate m_list m_lawMany m_law m_stack m_known m_step m_steps m_now m_before (nI w) m_refusedSteps m_begun m_doneSteps x1 (nI 0) 1) = pM_work_30 N9 (nI n) m_size m_place m_at m_fault m_faultAt m_clauses m_open m_fed m_refused m_told m_gate m_list m_lawMany m_law m_stack m_known m_step m_steps m_now m_before (nI w) m_refusedSteps m_begun m_doneSteps x1 (nI 0) 1 ∨ (y = true ∧ x1 ≤ nI 150) := by
      intro y
      cases y
      · exact Or.inl rfl
      · by_cases h : x1 ≤ nI 150
        · exact Or.inr ⟨rfl, h⟩
        · rw [if_neg (show ¬ jB true = nI 0 by decide), if_neg h]; exact Or.inl rfl
    rcases hM (jin x1 (nI 0) (nI n)) with h | ⟨h, h150⟩
    · rw [h]
      unfold pM_work_30
      rw [show pM_bad N9 (nI 0) m_refused 1 1 1 = some (1, 1, upd m_refused 1 (m_refused 1 + 1)) from rfl, jb3, if_neg (show ¬ (1 : Int32) = 0 by decide)]
      exact ⟨_, _, _, _, _, _, _, _, _, _, _, _, _, _, _, _, _, _, _, _, _, _, _, _, _, _, _, _, _, _, _, _, _, _, _, _, _, _, _, _, _, _, _, _, _, _, _, _, _, _, _, _, _, _, rfl, rfl, Or.inr ⟨rfl, rfl⟩, ⟨by', n, hn, rfl, rfl, hby⟩, hF, ⟨B, no, bo, c, tk, hss⟩, hmm, hrs, hR.arg⟩
    · obtain ⟨j, h1, rfl⟩ := (jin_nI (by omega)).mp h
      exact absurd ⟨j, h1, (nI_leI (by omega) (by omega)).mp h150, rfl⟩ hv
end WOP
