section TOP
variable {N9 G B c : Nat} {no bo tk : Nat → Nat}
/-- all that a trade sets -/
def jNew (bfo bto ble : Nat → Int32) (bnm : Nat → Nat → Int32) (bga bli : Int32) (now born age ps go to : Nat → Int32) (be ye co : Int32) (past : Nat → Int32) (wk : Int32) (images : Nat → Nat → Int32) (kt : Int32) (td : Nat → Int32) (gte lst : Nat → Nat → Int32) (row : Nat → Int32) (bf : Nat → Nat → Int32) (mw : Int32) (kp : Nat → Nat → Int32) (ims : Int32) : Prop :=
  ∃ G L gt nu fo, bga = nI G ∧ bli = nI L ∧ jBk G L gt nu fo bfo bto ble bnm td gte lst ∧ (∃ B no bo c tk, jSt G B no bo c tk now born age ps go to be ye co row) ∧ jMe G past wk bf mw ∧ jIms G images kt kp ims
theorem jop_trade (hN : 70000 < N9) (tp_bytes : Nat → Int32) (tp_many : Int32) (tp_end : Int32) (tp_place : Int32) (tp_wordPlace : Int32) (tp_numberPlace : Int32) (tp_faultKind : Int32) (tp_faultPlace : Int32) (bk_forgives : Nat → Int32) (bk_tolls : Nat → Int32) (bk_lengths : Nat → Int32) (bk_numbers : Nat → Nat → Int32) (bk_gates : Int32) (bk_listedInAll : Int32) (lw_kinds : Nat → Int32) (lw_values : Nat → Int32) (lw_length : Int32) (st_now : Nat → Int32) (st_born : Nat → Int32) (st_age : Nat → Int32) (st_passed : Nat → Int32) (st_gone : Nat → Int32) (st_took : Nat → Int32) (st_beasts : Int32) (st_year : Int32) (st_coins : Int32) (tr_now : Nat → Int32) (tr_born : Nat → Int32) (tr_age : Nat → Int32) (tr_passed : Nat → Int32) (tr_gone : Nat → Int32) (tr_took : Nat → Int32) (tr_beasts : Int32) (tr_year : Int32) (tr_coins : Int32) (db_forgives : Nat → Int32) (db_tolls : Nat → Int32) (db_lengths : Nat → Int32) (db_numbers : Nat → Nat → Int32) (db_gates : Int32) (db_listedInAll : Int32) (me_works : Int32) (me_kept : Int32) (xx_refusedSteps : Int32) (xx_refusedArguments : Int32) (x1 : Int32) (m_thrown : Int32) (m_tape : Int32) (m_size : Int32) (m_place : Int32) (m_at : Int32) (m_fault : Int32) (m_faultAt : Int32) (m_clauses : Int32) (m_open : Int32) (m_fed : Nat → Int32) (m_refused : Nat → Int32) (m_readTold : Nat → Int32) (m_told : Nat → Int32) (m_readBeast : Nat → Nat → Int32) (m_beast : Nat → Nat → Int32) (m_readGate : Nat → Nat → Int32) (m_gate : Nat → Nat → Int32) (m_readList : Nat → Nat → Int32) (m_list : Nat → Nat → Int32) (m_lawMany : Int32) (m_now : Nat → Int32) (m_works : Int32) (m_refusedSteps : Int32) (m_images : Int32) {re : Int32} {me_past : Nat → Int32} {me_images : Nat → Nat → Int32} {m_before m_kept : Nat → Nat → Int32} {m_law : Nat → Nat → Int32} (hT : jTape tp_bytes m_fed tp_many m_tape) (hF : tp_faultPlace = m_place)
    (hJ : jNew bk_forgives bk_tolls bk_lengths bk_numbers bk_gates bk_listedInAll st_now st_born st_age st_passed st_gone st_took st_beasts st_year st_coins me_past me_works me_images me_kept m_told m_gate m_list m_now m_before m_works m_kept m_images) (hL : ∃ n kk vv, jLw n kk vv lw_kinds lw_values lw_length m_lawMany m_law) (hrs : xx_refusedSteps = m_refusedSteps) (hR : jRf re xx_refusedArguments m_refused) :
    ∃ z r many en pl wp np fk fp bfo bto ble bnm bga bli kd vl ln now born age ps go to be ye co tnow tborn tage tps tgo tto tbe tye tco dfo dto dle dnm dga dli wk kt rs ra r' th ta sz pc at' f fa cl op rf rT td rB bst rG gte rL lst lm row mw mrs ims, pX9_trade N9 tp_bytes tp_many tp_end tp_place tp_wordPlace tp_numberPlace tp_faultKind tp_faultPlace bk_forgives bk_tolls bk_lengths bk_numbers bk_gates bk_listedInAll lw_kinds lw_values lw_length st_now st_born st_age st_passed st_gone st_took st_beasts st_year st_coins tr_now tr_born tr_age tr_passed tr_gone tr_took tr_beasts tr_year tr_coins db_forgives db_tolls db_lengths db_numbers db_gates db_listedInAll me_works me_kept xx_refusedSteps xx_refusedArguments x1 = some (z, r, many, en, pl, wp, np, fk, fp, bfo, bto, ble, bnm, bga, bli, kd, vl, ln, now, born, age, ps, go, to, be, ye, co, tnow, tborn, tage, tps, tgo, tto, tbe, tye, tco, dfo, dto, dle, dnm, dga, dli, wk, kt, rs, ra) ∧ pM_trade N9 m_thrown m_tape m_size m_place m_at m_fault m_faultAt m_clauses m_open m_fed m_refused m_readTold m_told m_readBeast m_beast m_readGate m_gate m_readList m_list m_lawMany m_now m_works m_refusedSteps m_images x1 = some (r', th, ta, sz, pc, at', f, fa, cl, op, rf, rT, td, rB, bst, rG, gte, rL, lst, lm, row, mw, mrs, ims) ∧ jOutA z th r r' ∧ jTape tp_bytes m_fed many ta ∧ fp = pc ∧ jNew bfo bto ble bnm bga bli now born age ps go to be ye co me_past wk me_images kt td gte lst row m_before mw m_kept ims ∧ (∃ n kk vv, jLw n kk vv kd vl ln lm m_law) ∧ rs = mrs ∧ jRf re ra rf := by
  obtain ⟨by', n, hn, rfl, rfl, hby⟩ := hT
  unfold pX9_trade pM_trade
  rw [show (0 : Int32) = nI 0 from rfl, jxin, jb1, jneedA, jmin_, jb1]
  rcases jin_bool (v := x1) (a := n) (by omega) with ⟨k, hk1, rfl, hin⟩ | hin
  · have ht := jtext hby (n := k) (by omega)
    rw [hin, if_pos rfl, jb2, if_pos jz0', jopenX N9 hk1 hn, jb4, if_neg (show ¬ jB true = nI 0 by decide)]
    unfold pM_trade_23
    rw [show pM_bad N9 (nI 0) m_refused (nI 0) 1 1 = some (0, 0, m_refused) from rfl, jb3, if_pos (show (0 : Int32) = 0 from rfl), jstarts hN ht, jb7]
    obtain ⟨rT0, t1, t2, t3, t4, t5⟩ := jtells hN m_readTold
    obtain ⟨g0, k0, c1, c2⟩ := jclearTr hN tr_gone tr_took tr_beasts tr_year tr_coins
    unfold pX0_readClauses
    rw [t1, jb1, c1, jb5]
    obtain ⟨r0, pl, wp', np', fk, fp, now', born', age', ps', be', co', fo', to', le', nm', ga', li', at', f', fa', cl', rT', rB', rG', rL', e1, e2, hP⟩ := jtrade_loop hN ht m_place m_told m_beast m_gate m_list m_lawMany m_now m_works m_refusedSteps m_images 0 (nI 0) (nI 0) m_refused g0 k0 (nI 0) k 0 0 N9 N9 tp_wordPlace tp_numberPlace tr_now tr_born tr_age tr_passed (nI 0) (nI 100) db_forgives db_tolls db_lengths db_numbers (nI 0) (nI 0) rT0 m_readBeast m_readGate m_readList 100 0 0 0 (fun _ => 0) (fun _ => 0) (by omega) (by omega) (by omega) (by omega) (by omega) ⟨by omega, by omega, by omega, by omega, rfl, rfl, rfl, rfl, t2, t3, t4, t5, fun b hb => absurd hb (Nat.not_lt_zero b), fun g hg => absurd hg (Nat.not_lt_zero g), fun k hk => absurd hk (Nat.not_lt_zero k)⟩
    rw [show pX0_readClauses_16 N9 tp_bytes (nI k) N9 (nI 0) tp_wordPlace tp_numberPlace (nI 0) (-nI 1) tr_now tr_born tr_age tr_passed g0 k0 (nI 0) (nI 0) (nI 100) db_forgives db_tolls db_lengths db_numbers 0 0 0 = _ from e1, jb21, show pM_trade_42 N9 m_place m_fed m_told m_beast m_gate m_list m_lawMany m_now m_works m_refusedSteps m_images N9 0 (nI 0) (nI k) ((nI (jsk k by' 0))) (nI 0) (-nI 1) (nI 0) (nI 0) m_refused rT0 m_readBeast m_readGate m_readList = _ from e2]
    unfold pX8_drop pM_trade_71
    rcases hP with ⟨rfl, rfl, rfl, rfl, rfl, c, nb, ng, nl, gt, nu, hd⟩ | ⟨q, g, a2, p1, p2, p3, p4, rfl, rfl, rfl, rfl, rfl, rfl⟩
    · obtain ⟨hnb, hng, hnl, hc, rfl, rfl, rfl, rfl, s0, s1, s2, s3, hb, hg, hl⟩ := hd
      obtain ⟨bfo, bto, ble, bnm, b1, b2⟩ := jbookcopy hN bk_forgives bk_tolls bk_lengths bk_numbers bk_gates bk_listedInAll fo' to' le' nm' (nI ng) (nI nl)
      obtain ⟨kd', vl', u1, u2⟩ := jusual (N9 := N9) lw_kinds lw_values lw_length m_lawMany m_law
      obtain ⟨td, bst, gte, lst, row, d1, d2, d3, d4, d5, d6, d7, d8⟩ := jbegins hN hnb hng hnl s0 s1 s2 m_told rB' m_beast rG' m_gate rL' m_list m_lawMany m_now m_works m_refusedSteps m_images
      unfold pX7_copyFrom pX3_clear
      simp (disch := omega) only [jb1, jb2, jb3, jb4, jb5, jb6, jb7, jb8, jb9, jb10, jb11, jb12, jb13, jb14, jb15, jb16, jb17, jb18, jb19, jb20, jb21, jb22, jb23, jb24, jb25, jb26, jb27, jb28, jb29, jb30, jb31, jb32, jb33, jb34, jb35, jb36, jb37, jb38, jb39, jb40, jb41, jb42, jb43, jb44, jb45, jb46, jb47, jb48, jb49, jb50, zlet, jlit, jle_t, jle_f, jlt_t, jlt_f, jeq_t, jeq_f, jeqN_f, jNeq_f, jNN, jN1, jadd, jsub, jzin, jcl, if_true, if_false, ite_true, ite_false, not_true, not_false_iff, not_true_eq_false, not_false_eq_true, jB_t, jB_f, jB0_t, jB0_f, jBa, jand11, jand00, ↓reduceIte, Nat.reduceEqDiff, Nat.reduceAdd, Nat.reduceSub, jzcp, b1, u1, d1]
      refine ⟨_, _, _, _, _, _, _, _, _, _, _, _, _, _, _, _, _, _, _, _, _, _, _, _, _, _, _, _, _, _, _, _, _, _, _, _, _, _, _, _, _, _, _, _, _, _, _, _, _, _, _, _, _, _, _, _, _, _, _, _, _, _, _, _, _, _, _, _, _, _, rfl, rfl, Or.inl ⟨rfl, rfl, by rw [d2 0 (by omega), s0]⟩, ⟨by', 0, by omega, rfl, rfl, hby⟩, rfl, ⟨ng, nl, gt, nu, fun g => (rG' g 0).toNatClampNeg, rfl, rfl, ⟨hng, hnl, by rw [d2 1 (by omega), s1], by rw [d2 2 (by omega), s2], fun g hgn => ?_, fun g hgn => ?_, fun g hgn => ?_, fun k hk => ?_⟩, ⟨nb, fun b => (rB' b 0).toNatClampNeg, fun b => (rB' b 0).toNatClampNeg, c, fun _ => 0, hnb, rfl, d5, rfl, by rw [d6, s3], d8 44 (by omega) (by omega) (by omega) (by omega), ?_, fun b hbn => ?_, fun g hg5 => ?_, by omega, fun g _ _ => rfl⟩, ⟨0, by omega, rfl, rfl, fun i hi => absurd hi (Nat.not_lt_zero i)⟩, ⟨0, by omega, rfl, rfl, fun i hi => absurd hi (Nat.not_lt_zero i)⟩⟩, u2, rfl, hR⟩
      · obtain ⟨f, f1, f2, f3, f4, f5⟩ := hg g hgn
        dsimp only
        rw [f3, jcl (by omega), (b2 g (by omega)).1, f2, (d3 g hgn).1, f3]
        exact ⟨f1, rfl, rfl⟩
      · obtain ⟨f, f1, f2, f3, f4, f5⟩ := hg g hgn
        rw [(b2 g (by omega)).2.1, f4, (d3 g hgn).2]
      · obtain ⟨f, f1, f2, f3, f4, f5⟩ := hg g hgn
        rw [(b2 g (by omega)).2.2.1, f5]
      · obtain ⟨f1, f2, f3, f4, f5⟩ := hl k hk
        have hlt := jcnt_lt (gt := gt) hk rfl
        have hle := jcnt_le gt (gt k) nl
        rw [(d4 k hk).1, (d4 k hk).2, (b2 (gt k) (by omega)).2.2.2 _ (by omega), f5]
        exact ⟨f1, f2, f3, f4, rfl⟩
      · rw [d8 45 (by omega) (by omega) (by omega) (by omega)]
        have q0 := fun g hg => (jcpy (f := g0) (g := st_gone) (n := 5) (k := g) hg).trans (c2 g hg).1
        simp only [jS]
        rw [q0 0 (by omega), q0 1 (by omega), q0 2 (by omega), q0 3 (by omega), q0 4 (by omega)]
        rfl
      · obtain ⟨v, f1, f2, f3, f4, f5, f6⟩ := hb b hbn
        obtain ⟨g1, g2, g3⟩ := d7 b hbn
        dsimp only
        rw [jcpy (by omega), jcpy (by omega), jcpy (by omega), jcpy (by omega), g1, g2, g3, f4, jcl (by omega), f2, f3, f5, f6, d8 (24 + b) (by omega) (by omega) (by omega) (by omega)]
        exact ⟨f1, f1, rfl, rfl, rfl, rfl, rfl, rfl⟩
      · rw [jcpy hg5, jcpy hg5, (c2 g hg5).1, (c2 g hg5).2, d8 (32 + g) (by omega) (by omega) (by omega) (by omega), d8 (37 + g) (by omega) (by omega) (by omega) (by omega)]
        exact ⟨rfl, rfl, rfl⟩
    · have hfq : ¬ nI q = nI 0 := jhfz q p1 p2
      unfold pM_faulty
      simp (disch := omega) only [jb1, jb2, jb3, jb4, jb5, jb6, jb7, jb8, jb9, jb10, jb11, jb12, jb13, jb14, jb15, jb16, jb17, jb18, jb19, jb20, jb21, jb22, jb23, jb24, jb25, jb26, jb27, jb28, jb29, jb30, jb31, jb32, jb33, jb34, jb35, jb36, jb37, jb38, jb39, jb40, jb41, jb42, jb43, jb44, jb45, jb46, jb47, jb48, jb49, jb50, zlet, jlit, jle_t, jle_f, jlt_t, jlt_f, jeq_t, jeq_f, jeqN_f, jNeq_f, jNN, jN1, jadd, jsub, jzin, jcl, if_true, if_false, ite_true, ite_false, not_true, not_false_iff, not_true_eq_false, not_false_eq_true, jB_t, jB_f, jB0_t, jB0_f, jBa, jand11, jand00, ↓reduceIte, Nat.reduceEqDiff, Nat.reduceAdd, Nat.reduceSub, if_neg hfq]
      exact ⟨_, _, _, _, _, _, _, _, _, _, _, _, _, _, _, _, _, _, _, _, _, _, _, _, _, _, _, _, _, _, _, _, _, _, _, _, _, _, _, _, _, _, _, _, _, _, _, _, _, _, _, _, _, _, _, _, _, _, _, _, _, _, _, _, _, _, _, _, _, _, rfl, rfl, Or.inl ⟨rfl, rfl, rfl⟩, ⟨by', 0, by omega, rfl, rfl, hby⟩, rfl, hJ, hL, hrs, hR⟩
  · rw [hin, if_neg (show ¬ false = true by decide), jb2, if_neg (show ¬ (2 : Int32) = nI 0 by decide), if_pos (show jB false = nI 0 from rfl)]
    unfold pM_trade_23
    rw [show pM_bad N9 (nI 0) m_refused 1 1 1 = some (1, 1, upd m_refused 1 (m_refused 1 + 1)) from rfl, jb3, if_neg (show ¬ (1 : Int32) = 0 by decide)]
    exact ⟨_, _, _, _, _, _, _, _, _, _, _, _, _, _, _, _, _, _, _, _, _, _, _, _, _, _, _, _, _, _, _, _, _, _, _, _, _, _, _, _, _, _, _, _, _, _, _, _, _, _, _, _, _, _, _, _, _, _, _, _, _, _, _, _, _, _, _, _, _, _, rfl, rfl, Or.inr ⟨rfl, rfl⟩, ⟨by', n, hn, rfl, rfl, hby⟩, hF, hJ, hL, hrs, hR.arg⟩
end TOP
